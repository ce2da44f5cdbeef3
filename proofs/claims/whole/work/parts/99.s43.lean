section SND
variable {E : FE} {g : Gh} {σ σ' σ1 σ2 τ τ' s3 s5 C6 T Ms : Sg} {n p q m c k it z a1 a2 a3 b : Nat} {nd : Option Nat} {tv t v st : Int32}
theorem mvS_th {A : Nat → Nat} {m W : Nat} {w9 x1 x2 x3 x4 x5 : Int32} : (cmS (mvS (sI τ 500000 m 0 0) m A p q b it z w9 tv t) A q W x1 x2 x3 x4 x5).1 500000 m 0 = 0 := by
  unfold cmS
  rw [rII (by decide), rII (by decide), rII (by decide), rII (by decide), rII (by decide), rII (by decide), rII (by decide), mvS_w (by decide)]
  exact rIs
theorem XS_t : XS g p q b it z tv st t true τ = sI (sI (mvS (sI τ 500000 g.m 0 0) g.m g.A p q b it z tv st t) 21000 (g.D p 0) 0 1) 770000 (g.A 26) p 1 := if_pos rfl
theorem XS_f : XS g p q b it z tv st t false τ = mvS (sI τ 500000 g.m 0 0) g.m g.A p q b it z tv st t := if_neg (by decide)
theorem XS_gB {f : Bool} {b0 : Nat} : XS (gB g m b0) p q b it z tv st t f τ = XS g p q b it z tv st t f τ := rfl
theorem snF_k3 {y : Int32} {a x : Nat} {P : Nat → Nat} (hw : WF σ) (h : snF σ x P y = some a) : σ.2.2.2 a = 3 := by
  unfold snF at h
  split at h
  · exact hw _ _ _ _ h (by decide)
  · unfold strongF at h
    split at h
    · cases h
    · split at h
      · cases h
      · exact hw _ _ _ _ h (by decide)
/-- no two new works: the class's end has what the model reads -/
theorem dn_meq {L wk : Nat} {kk : Int32} (R : RR E g n σ) (A : PD g p q m c k it L a1 a2 a3 nd σ s3 s5) (B : C6S g s5 C6) (hw0 : s5.2.2.2 wk = 0) (he : Eqk E 20 41 (wkS C6 wk kk (some m) 0) σ1) : MEq g.A g.m σ1 σ := by
  have hM := B.meq (A.meq R)
  have nf : ∀ {b x}, σ.2.2.2 b ≠ 0 → σ.2.2.2 x = 0 → b ≠ x := fun h1 h2 e => h1 (by rw [e]; exact h2)
  intro c' x i hz
  have xz : σ.2.2.2 x ≠ 0 := by
    rcases hz.2 with rfl | ⟨j, hj, rfl⟩
    · exact R.s.km
    · exact R.s.kA hj
  have x5 : s5.2.2.2 x ≠ 0 := by rw [A.kd x, if_neg (nf xz A.y3), if_neg (nf xz A.y2), if_neg (nf xz A.y1), if_neg (nf xz A.y0)]; exact xz
  have hne : x ≠ wk := fun e => x5 (by rw [e]; exact hw0)
  have h9 := (he.2.2.1 c' x i (by
    have : (wkS C6 wk kk (some m) 0).2.2.2 x = C6.2.2.2 x := by simp [wkS, sI, sO, sN, hne]
    rw [this, B.k]; exact x5) (by have := hz.1; omega) (by have := hz.1; omega)).1
  rw [h9, show (wkS C6 wk kk (some m) 0).1 c' x i = C6.1 c' x i from by simp [wkS, sI, sO, sN, hne]]
  exact hM c' x i hz
set_option maxHeartbeats 1000000 in
theorem sim_send (R : RR E g n σ) (hn : n ≤ 512) (hp : p < 4) (ha : al g σ p) (hit : σ.1 570000 (g.A 6) p = nI it) (hk4 : it ≤ 4) (hsz : σ.1 580000 (g.A 7) p = nI z) (hz4 : z ≤ 20) (y w : Int32) (hw1 : w = 0 ∨ w = 1) (h : osnP E g.D g.x p it g.L1 σ y w v σ1) :
    ∃ (q b : Nat) (t : Int32) (IV : Nat → Sg → Prop) (g' : Gh) (σ2 : Sg), (q < 4 ∧ pOf (tgtF σ1 g.m g.A p y) = q ∧ (¬ tgtF σ1 g.m g.A p y < 0 → dedI (σ1.1 510000 (g.A 0)) (σ1.1 520000 (g.A 1)) (tgtF σ1 g.m g.A p y) = 0 → gapF (nxS σ1 g.A q) (bhS σ1 g.A q) (nI (max 1 (it + z))) 66 0 (-1) 65 = some t) ∧ σ1.1 720000 (g.A 21) q = nI (g.L1 q).length ∧ (¬ tgtF σ1 g.m g.A p y < 0 → dedI (σ1.1 510000 (g.A 0)) (σ1.1 520000 (g.A 1)) (tgtF σ1 g.m g.A p y) = 0 → flF σ1 g.m g.A p q it z w (msnM σ1 g.m g.A p q y w) t = 0 → (64 * q ≤ b ∧ b < 64 * q + 64 ∧ σ1.1 610000 (g.A 10) b ≤ 0 ∧ (∀ i, 64 * q ≤ i → i < b → ¬ σ1.1 610000 (g.A 10) i ≤ 0) ∧ (g.L1 q).length < 64) ∧ (∀ i τ, i < it → IV i τ → IV (i + 1) (mv2 g.A p q b i τ) ∧ (¬ τ.1 710000 (g.A 20) (4 * b + i) < 0 → hmO τ g.A q (τ.1 710000 (g.A 20) (4 * b + i)) = 0 → hmK τ g.A q (τ.1 710000 (g.A 20) (4 * b + i)) ≤ 0 → ∃ j, 1 ≤ j ∧ j < 16 ∧ hhF (τ.1 550000 (g.A 4)) (τ.1 560000 (g.A 5)) q (nI j) = 0)) ∧ IV 0 (itF (mv1 g.A g.m p b) it 0 (mvA (sI σ1 500000 g.m 0 0) g.m g.A p b it z w (tgtF σ1 g.m g.A p y) t)))) ∧ MEq g.A g.m σ1 σ ∧ σ2.2 = σ1.2 ∧ msnF σ1 g.m g.A p y w q b it z (g.L1 q).length t = (v, σ2) ∧ RR E g' (n + 1) σ2 ∧ σ2.1 500000 g.m 0 = 0 ∧ g'.x = g.x ∧ g'.m = g.m ∧ g'.A = g.A := by
  obtain ⟨hk, hz⟩ : σ.1 40300 (g.D p 8) 0 = nI it ∧ σ.1 40400 (g.D p 8) 0 = nI z := by
    obtain ⟨k', z', d1, d2, d3, d4, d5, -⟩ := R.d p hp
    have e1 : k' = it := (nI_eq (by omega) (by omega)).mp (d3.symm.trans hit)
    have e2 : z' = z := (nI_eq (by omega) (by omega)).mp (d4.symm.trans hsz)
    subst e1; subst e2
    exact ⟨(d5 ha).1, (d5 ha).2.1⟩
  have tg := R.tgt hn hp ha y
  have early : ∀ {v0 : Int32} {σ9 : Sg}, MEq g.A g.m σ9 σ → RR E g n σ9 → (∀ q b t, (¬ tgtF σ g.m g.A p y < 0 → dedI (σ.1 510000 (g.A 0)) (σ.1 520000 (g.A 1)) (tgtF σ g.m g.A p y) = 0 → pOf (tgtF σ g.m g.A p y) = q ∧ t = bgR σ (g.D q 7) (nI (max 1 (it + z)))) → msnF σ9 g.m g.A p y w q b it z (g.L1 q).length t = (v0, sI σ9 500000 g.m 0 0)) → ∃ (q b : Nat) (t : Int32) (IV : Nat → Sg → Prop) (g' : Gh) (σ2 : Sg), (q < 4 ∧ pOf (tgtF σ9 g.m g.A p y) = q ∧ (¬ tgtF σ9 g.m g.A p y < 0 → dedI (σ9.1 510000 (g.A 0)) (σ9.1 520000 (g.A 1)) (tgtF σ9 g.m g.A p y) = 0 → gapF (nxS σ9 g.A q) (bhS σ9 g.A q) (nI (max 1 (it + z))) 66 0 (-1) 65 = some t) ∧ σ9.1 720000 (g.A 21) q = nI (g.L1 q).length ∧ (¬ tgtF σ9 g.m g.A p y < 0 → dedI (σ9.1 510000 (g.A 0)) (σ9.1 520000 (g.A 1)) (tgtF σ9 g.m g.A p y) = 0 → flF σ9 g.m g.A p q it z w (msnM σ9 g.m g.A p q y w) t = 0 → (64 * q ≤ b ∧ b < 64 * q + 64 ∧ σ9.1 610000 (g.A 10) b ≤ 0 ∧ (∀ i, 64 * q ≤ i → i < b → ¬ σ9.1 610000 (g.A 10) i ≤ 0) ∧ (g.L1 q).length < 64) ∧ (∀ i τ, i < it → IV i τ → IV (i + 1) (mv2 g.A p q b i τ) ∧ (¬ τ.1 710000 (g.A 20) (4 * b + i) < 0 → hmO τ g.A q (τ.1 710000 (g.A 20) (4 * b + i)) = 0 → hmK τ g.A q (τ.1 710000 (g.A 20) (4 * b + i)) ≤ 0 → ∃ j, 1 ≤ j ∧ j < 16 ∧ hhF (τ.1 550000 (g.A 4)) (τ.1 560000 (g.A 5)) q (nI j) = 0)) ∧ IV 0 (itF (mv1 g.A g.m p b) it 0 (mvA (sI σ9 500000 g.m 0 0) g.m g.A p b it z w (tgtF σ9 g.m g.A p y) t)))) ∧ MEq g.A g.m σ9 σ ∧ σ2.2 = σ9.2 ∧ msnF σ9 g.m g.A p y w q b it z (g.L1 q).length t = (v0, σ2) ∧ RR E g' (n + 1) σ2 ∧ σ2.1 500000 g.m 0 = 0 ∧ g'.x = g.x ∧ g'.m = g.m ∧ g'.A = g.A := by
    intro v0 σ9 hM R9 hF
    obtain ⟨q, b, t, IV, h1, h2⟩ := send_hy R hn hp ha hk hk4 hz hz4 y w hM
    exact ⟨q, b, t, IV, g, sI σ9 500000 g.m 0 0, h1, hM, rfl, hF q b t (fun c1 c2 => ⟨by rw [← h1.2.1, tgt_c hM], (h2 c1 c2).1⟩), (R9.th 0).mono (Nat.le_succ n), rIs, rfl, rfl, rfl⟩
  have M0 : MEq g.A g.m σ σ := fun _ _ _ _ => rfl
  unfold osnP at h
  rcases tg with ⟨e1, e2⟩ | ⟨a, e1, e2⟩
  · rw [e1] at h
    obtain ⟨rfl, rfl⟩ := h
    exact early M0 R (fun q b t _ => by rw [msn_v M0, if_pos (by rw [e2]; decide)])
  · rw [e1] at h
    dsimp only at h
    have a3 : σ.2.2.2 a = 3 := snF_k3 R.s.wf e1
    have hb := R.no.ok R.p (by omega) a3
    have c1 : ¬ tgtF σ g.m g.A p y < 0 := by rw [e2]; exact lt0_nI (by omega)
    have ed : dedI (σ.1 510000 (g.A 0)) (σ.1 520000 (g.A 1)) (tgtF σ g.m g.A p y) = σ.1 30200 a 0 := by rw [e2]; exact (R.no.m R.p (by omega) a3).2.2.1.symm
    by_cases c2 : σ.1 30200 a 0 = 0
    · rw [if_neg (not_not_intro c2)] at h
      have ew : σ.1 21000 (g.D p 0) 0 = σ.1 770000 (g.A 26) p := ((R.l p hp).1 ha).2.1
      rw [ew] at h
      by_cases c3 : w = 0 ∧ ¬ σ.1 770000 (g.A 26) p = 0
      · rw [if_pos c3] at h
        obtain ⟨rfl, rfl⟩ := h
        exact early M0 R (fun q b t _ => by rw [msn_v M0, if_neg c1, if_neg (not_not_intro (by rw [ed]; exact c2)), if_pos c3])
      · rw [if_neg c3] at h
        obtain ⟨q, σp, hq, hoq, hpst, rfl⟩ := h
        obtain ⟨o, ho, ho1, hal, hpo, hky⟩ := R.own hn a3 c2
        have hqo : o = q := (nI_eq (by omega) (by omega)).mp (ho1.symm.trans hoq)
        subst hqo
        have hpq : pOf (tgtF σ g.m g.A p y) = o := by rw [e2]; exact hpo
        have ekk : (if w = 0 then (1 : Int32) else 2) = nI (if w = 0 then 1 else 2) := by
          by_cases c : w = 0
          · rw [if_pos c, if_pos c]; rfl
          · rw [if_neg c, if_neg c]; rfl
        have hkw : (if w = 0 then (1 : Int32) else 2) = 2 ↔ ¬ w = 0 := by
          by_cases c : w = 0
          · rw [if_pos c]; exact ⟨fun h => absurd h (by decide), fun h => absurd c h⟩
          · rw [if_neg c]; exact ⟨fun _ => c, fun _ => rfl⟩
        have emw : mwF σ (some a) (if w = 0 then 1 else 2) = msnM σ g.m g.A p o y w := by
          unfold mwF msnM
          by_cases c : w = 0
          · rw [if_pos c, if_pos c, if_neg (by decide)]
          · rw [if_neg c, if_neg c, if_pos rfl, e2, R.busy hn hq hal a3 c2 hoq]
        have bad := R.bad hn hp ha hk hk4
        have room := R.room (y := msnM σ g.m g.A p o y w) (w := w) (kk := if w = 0 then 1 else 2) hn hp ha hq hal hk hk4 hz hz4 hkw
        unfold pstP at hpst
        rw [emw] at hpst
        rcases hpst with ⟨hB, rfl, hF⟩ | ⟨hB, hF, hpst⟩
        · rw [if_neg (fun z => absurd z.1 (by decide))]
          exact early (FN.meq hF) (R.fn hF) (fun q b t _ => by rw [msn_v (FN.meq hF), if_neg c1, if_neg (not_not_intro (by rw [ed]; exact c2)), if_neg c3, if_pos (bad.mp hB)])
        · have nb : itF (badF σ g.m g.A p) it 0 0 = 0 := Classical.byContradiction (fun z => by
            obtain ⟨i, hi, hb⟩ := bad.mpr z
            exact hB i hi hb)
          have full : ¬ flF σ g.m g.A p o it z w (msnM σ g.m g.A p o y w) (bgR σ (g.D o 7) (nI (max 1 (it + z)))) = 0 → v = -4 → σp = pstN σ g.x g.D p it → ∃ (q b : Nat) (t : Int32) (IV : Nat → Sg → Prop) (g' : Gh) (σ2 : Sg), (q < 4 ∧ pOf (tgtF (if v = 0 ∧ w = 0 then sI σp 21000 (g.D p 0) 0 1 else σp) g.m g.A p y) = q ∧ (¬ tgtF (if v = 0 ∧ w = 0 then sI σp 21000 (g.D p 0) 0 1 else σp) g.m g.A p y < 0 → dedI ((if v = 0 ∧ w = 0 then sI σp 21000 (g.D p 0) 0 1 else σp).1 510000 (g.A 0)) ((if v = 0 ∧ w = 0 then sI σp 21000 (g.D p 0) 0 1 else σp).1 520000 (g.A 1)) (tgtF (if v = 0 ∧ w = 0 then sI σp 21000 (g.D p 0) 0 1 else σp) g.m g.A p y) = 0 → gapF (nxS (if v = 0 ∧ w = 0 then sI σp 21000 (g.D p 0) 0 1 else σp) g.A q) (bhS (if v = 0 ∧ w = 0 then sI σp 21000 (g.D p 0) 0 1 else σp) g.A q) (nI (max 1 (it + z))) 66 0 (-1) 65 = some t) ∧ (if v = 0 ∧ w = 0 then sI σp 21000 (g.D p 0) 0 1 else σp).1 720000 (g.A 21) q = nI (g.L1 q).length ∧ (¬ tgtF (if v = 0 ∧ w = 0 then sI σp 21000 (g.D p 0) 0 1 else σp) g.m g.A p y < 0 → dedI ((if v = 0 ∧ w = 0 then sI σp 21000 (g.D p 0) 0 1 else σp).1 510000 (g.A 0)) ((if v = 0 ∧ w = 0 then sI σp 21000 (g.D p 0) 0 1 else σp).1 520000 (g.A 1)) (tgtF (if v = 0 ∧ w = 0 then sI σp 21000 (g.D p 0) 0 1 else σp) g.m g.A p y) = 0 → flF (if v = 0 ∧ w = 0 then sI σp 21000 (g.D p 0) 0 1 else σp) g.m g.A p q it z w (msnM (if v = 0 ∧ w = 0 then sI σp 21000 (g.D p 0) 0 1 else σp) g.m g.A p q y w) t = 0 → (64 * q ≤ b ∧ b < 64 * q + 64 ∧ (if v = 0 ∧ w = 0 then sI σp 21000 (g.D p 0) 0 1 else σp).1 610000 (g.A 10) b ≤ 0 ∧ (∀ i, 64 * q ≤ i → i < b → ¬ (if v = 0 ∧ w = 0 then sI σp 21000 (g.D p 0) 0 1 else σp).1 610000 (g.A 10) i ≤ 0) ∧ (g.L1 q).length < 64) ∧ (∀ i τ, i < it → IV i τ → IV (i + 1) (mv2 g.A p q b i τ) ∧ (¬ τ.1 710000 (g.A 20) (4 * b + i) < 0 → hmO τ g.A q (τ.1 710000 (g.A 20) (4 * b + i)) = 0 → hmK τ g.A q (τ.1 710000 (g.A 20) (4 * b + i)) ≤ 0 → ∃ j, 1 ≤ j ∧ j < 16 ∧ hhF (τ.1 550000 (g.A 4)) (τ.1 560000 (g.A 5)) q (nI j) = 0)) ∧ IV 0 (itF (mv1 g.A g.m p b) it 0 (mvA (sI (if v = 0 ∧ w = 0 then sI σp 21000 (g.D p 0) 0 1 else σp) 500000 g.m 0 0) g.m g.A p b it z w (tgtF (if v = 0 ∧ w = 0 then sI σp 21000 (g.D p 0) 0 1 else σp) g.m g.A p y) t)))) ∧ MEq g.A g.m (if v = 0 ∧ w = 0 then sI σp 21000 (g.D p 0) 0 1 else σp) σ ∧ σ2.2 = (if v = 0 ∧ w = 0 then sI σp 21000 (g.D p 0) 0 1 else σp).2 ∧ msnF (if v = 0 ∧ w = 0 then sI σp 21000 (g.D p 0) 0 1 else σp) g.m g.A p y w q b it z (g.L1 q).length t = (v, σ2) ∧ RR E g' (n + 1) σ2 ∧ σ2.1 500000 g.m 0 = 0 ∧ g'.x = g.x ∧ g'.m = g.m ∧ g'.A = g.A := by
            intro hfl ev es
            subst ev; subst es
            rw [if_neg (fun z => absurd z.1 (by decide))]
            exact early (FN.meq hF) (R.fn hF) (fun q b t hh => by
              obtain ⟨h1, h2⟩ := hh c1 (by rw [ed]; exact c2)
              have : q = o := h1.symm.trans hpq
              subst this; subst h2
              rw [msn_v (FN.meq hF), if_neg c1, if_neg (not_not_intro (by rw [ed]; exact c2)), if_neg c3, if_neg (not_not_intro nb), if_pos hfl])
          rcases hpst with ⟨k1, k2, rfl, k3⟩ | ⟨k1, hpst⟩
          · exact full (fun z => (room.mpr z).1 ⟨k1, k2⟩) rfl k3
          · rcases hpst with ⟨k2, rfl, k3⟩ | ⟨k2, rfl, hD⟩
            · exact full (fun z => (room.mpr z).2 k2) rfl k3
            · have hfl : flF σ g.m g.A p o it z w (msnM σ g.m g.A p o y w) (bgR σ (g.D o 7) (nI (max 1 (it + z)))) = 0 := room.mp ⟨k1, k2⟩
              unfold pstD at hD
              obtain ⟨m, a1, a2, a3', c, hf, hwf5, hc, hbg, hD⟩ := hD
              rw [ekk] at hf hwf5 hD k2
              have hm0 : σ.2.2.2 m = 0 := by
                have h9 := hf.1
                rw [(pstN_r (σ := σ) (x := g.x) (j := p) (k := it) (D := g.D)).2.1] at h9; exact h9
              have hkk : 1 ≤ (if w = 0 then 1 else 2) ∧ (if w = 0 then 1 else 2) ≤ 3 := by split <;> omega
              have hnd : ∀ a', some a = some a' → σ.2.2.2 a' = 3 ∧ σ.1 30200 a' 0 = 0 ∧ σ.1 30000 a' 0 = nI o := fun a' e => by cases e; exact ⟨a3, c2, hoq⟩
              have A0 := pd_of (c := c) (q := o) (nd := some a) R hp ha hq hk hk4 hz hz4 hkk.2 hf
              obtain ⟨B0, -, -⟩ := bsy_6 A0 hkk.2 hwf5 (fun a' e => (hnd a' e).1)
              have hw77 := ((R.l p hp).1 ha).2.2
              -- the class's end has what the model reads
              have hMp : MEq g.A g.m σp σ := by
                by_cases c4 : msnM σ g.m g.A p o y w = 0
                · rw [if_pos c4] at hD
                  obtain ⟨wk, AR', h1, h2, h3, h4⟩ := hD
                  exact dn_meq R A0 B0 h1 h4
                · rw [if_neg c4] at hD
                  obtain ⟨a', e9, rfl⟩ := hD
                  intro c' x i hz'
                  rw [show (queF (pst5 (pstN σ g.x g.D p it) g.D p o it m (nI (if w = 0 then 1 else 2)) (some a) a1 a2 a3' c) a' m).1 = (pst5 (pstN σ g.x g.D p it) g.D p o it m (nI (if w = 0 then 1 else 2)) (some a) a1 a2 a3' c).1 from by unfold queF; split <;> rfl]
                  exact A0.meq R c' x i hz'
              have hM1 : MEq g.A g.m (if (0 : Int32) = 0 ∧ w = 0 then sI σp 21000 (g.D p 0) 0 1 else σp) σ := by
                split
                · exact fun c' x i hz' => by rw [rII (by have := hz'.1; omega)]; exact hMp c' x i hz'
                · exact hMp
              obtain ⟨q', b, t, IV, hy1, hy2⟩ := send_hy R hn hp ha hk hk4 hz hz4 y w hM1
              have hq' : q' = o := by rw [← hy1.2.1, tgt_c hM1]; exact hpq
              subst hq'
              obtain ⟨et, hrow⟩ := hy2 c1 (by rw [ed]; exact c2)
              subst et
              obtain ⟨r1, r2, r3⟩ := hrow hfl
              have R1 := R.gB (m := m) (b := b) hm0
              have hb : (gB g m b).B m = b := upN_s
              have tvN : NR g.N (some a) (tgtF σ g.m g.A p y) := Or.inr ⟨a, rfl, e2⟩
              obtain ⟨ebg, A, M, hfe, Tk, hTk, hTP⟩ := post_tp (g := gB g m b) (w := w) (tv := tgtF σ g.m g.A p y) (k := if w = 0 then 1 else 2) R1 hn hp ha hq hal hk hk4 hz hz4 hkk (by split <;> simp) hnd tvN (by
                rcases hw1 with rfl | rfl
                · rfl
                · rfl) hf hc hbg k2 (by rw [hb]; exact r1) (by rw [hb]; exact r2) (by rw [hb]; exact r3)
              have ebg' : bgR σ (g.D q' 7) (nI (max 1 (it + z))) = nI c := ebg
              rw [ebg'] at hy1 hfl
              have ms := msn_v (q := q') (t := nI c) (y := y) (w := w) (p := p) (it := it) (z := z) hM1 b (g.L1 q').length
              rw [if_neg c1, if_neg (not_not_intro (by rw [ed]; exact c2)), if_neg c3, if_neg (not_not_intro nb), if_neg (not_not_intro hfl)] at ms
              obtain ⟨B, y1, y2⟩ := bsy_6 A hkk.2 hwf5 (fun a' e => (hnd a' e).1)
              have fin : ∀ (g' : Gh) (σ2 : Sg), sI (msnS (if (0 : Int32) = 0 ∧ w = 0 then sI σp 21000 (g.D p 0) 0 1 else σp) g.m g.A p y w q' b it z (g.L1 q').length (nI c) (msnM σ g.m g.A p q' y w)) 770000 (g.A 26) p (if ¬ σ.1 770000 (g.A 26) p = 0 then 1 else if w = 0 then 1 else 0) = σ2 → RR E g' (n + 1) σ2 → g'.x = g.x → g'.m = g.m → g'.A = g.A → σ2.1 500000 g.m 0 = 0 → σ2.2 = (if (0 : Int32) = 0 ∧ w = 0 then sI σp 21000 (g.D p 0) 0 1 else σp).2 → ∃ (q b : Nat) (t : Int32) (IV : Nat → Sg → Prop) (g' : Gh) (σ2 : Sg), (q < 4 ∧ pOf (tgtF (if (0 : Int32) = 0 ∧ w = 0 then sI σp 21000 (g.D p 0) 0 1 else σp) g.m g.A p y) = q ∧ (¬ tgtF (if (0 : Int32) = 0 ∧ w = 0 then sI σp 21000 (g.D p 0) 0 1 else σp) g.m g.A p y < 0 → dedI ((if (0 : Int32) = 0 ∧ w = 0 then sI σp 21000 (g.D p 0) 0 1 else σp).1 510000 (g.A 0)) ((if (0 : Int32) = 0 ∧ w = 0 then sI σp 21000 (g.D p 0) 0 1 else σp).1 520000 (g.A 1)) (tgtF (if (0 : Int32) = 0 ∧ w = 0 then sI σp 21000 (g.D p 0) 0 1 else σp) g.m g.A p y) = 0 → gapF (nxS (if (0 : Int32) = 0 ∧ w = 0 then sI σp 21000 (g.D p 0) 0 1 else σp) g.A q) (bhS (if (0 : Int32) = 0 ∧ w = 0 then sI σp 21000 (g.D p 0) 0 1 else σp) g.A q) (nI (max 1 (it + z))) 66 0 (-1) 65 = some t) ∧ (if (0 : Int32) = 0 ∧ w = 0 then sI σp 21000 (g.D p 0) 0 1 else σp).1 720000 (g.A 21) q = nI (g.L1 q).length ∧ (¬ tgtF (if (0 : Int32) = 0 ∧ w = 0 then sI σp 21000 (g.D p 0) 0 1 else σp) g.m g.A p y < 0 → dedI ((if (0 : Int32) = 0 ∧ w = 0 then sI σp 21000 (g.D p 0) 0 1 else σp).1 510000 (g.A 0)) ((if (0 : Int32) = 0 ∧ w = 0 then sI σp 21000 (g.D p 0) 0 1 else σp).1 520000 (g.A 1)) (tgtF (if (0 : Int32) = 0 ∧ w = 0 then sI σp 21000 (g.D p 0) 0 1 else σp) g.m g.A p y) = 0 → flF (if (0 : Int32) = 0 ∧ w = 0 then sI σp 21000 (g.D p 0) 0 1 else σp) g.m g.A p q it z w (msnM (if (0 : Int32) = 0 ∧ w = 0 then sI σp 21000 (g.D p 0) 0 1 else σp) g.m g.A p q y w) t = 0 → (64 * q ≤ b ∧ b < 64 * q + 64 ∧ (if (0 : Int32) = 0 ∧ w = 0 then sI σp 21000 (g.D p 0) 0 1 else σp).1 610000 (g.A 10) b ≤ 0 ∧ (∀ i, 64 * q ≤ i → i < b → ¬ (if (0 : Int32) = 0 ∧ w = 0 then sI σp 21000 (g.D p 0) 0 1 else σp).1 610000 (g.A 10) i ≤ 0) ∧ (g.L1 q).length < 64) ∧ (∀ i τ, i < it → IV i τ → IV (i + 1) (mv2 g.A p q b i τ) ∧ (¬ τ.1 710000 (g.A 20) (4 * b + i) < 0 → hmO τ g.A q (τ.1 710000 (g.A 20) (4 * b + i)) = 0 → hmK τ g.A q (τ.1 710000 (g.A 20) (4 * b + i)) ≤ 0 → ∃ j, 1 ≤ j ∧ j < 16 ∧ hhF (τ.1 550000 (g.A 4)) (τ.1 560000 (g.A 5)) q (nI j) = 0)) ∧ IV 0 (itF (mv1 g.A g.m p b) it 0 (mvA (sI (if (0 : Int32) = 0 ∧ w = 0 then sI σp 21000 (g.D p 0) 0 1 else σp) 500000 g.m 0 0) g.m g.A p b it z w (tgtF (if (0 : Int32) = 0 ∧ w = 0 then sI σp 21000 (g.D p 0) 0 1 else σp) g.m g.A p y) t)))) ∧ MEq g.A g.m (if (0 : Int32) = 0 ∧ w = 0 then sI σp 21000 (g.D p 0) 0 1 else σp) σ ∧ σ2.2 = (if (0 : Int32) = 0 ∧ w = 0 then sI σp 21000 (g.D p 0) 0 1 else σp).2 ∧ msnF (if (0 : Int32) = 0 ∧ w = 0 then sI σp 21000 (g.D p 0) 0 1 else σp) g.m g.A p y w q b it z (g.L1 q).length t = (0, σ2) ∧ RR E g' (n + 1) σ2 ∧ σ2.1 500000 g.m 0 = 0 ∧ g'.x = g.x ∧ g'.m = g.m ∧ g'.A = g.A :=
                fun g' σ2 h1 h2 h3 h4 h5 h6 h7 => ⟨q', b, nI c, IV, g', σ2, hy1, hM1, h7, by rw [ms, h1], h2, h6, h3, h4, h5⟩
              have hlen := R.len hq hal
              have etg : tgtF (if (0 : Int32) = 0 ∧ w = 0 then sI σp 21000 (g.D p 0) 0 1 else σp) g.m g.A p y = tgtF σ g.m g.A p y := by rw [tgt_c hM1]
              have hkey : tgtF σ g.m g.A p y - tgtF σ g.m g.A p y / 10 * 10 = σ.1 30100 a 0 := by rw [e2, hky]
              have mk0 : ∀ {wk : Nat}, (pst5 (pstN σ g.x g.D p it) g.D p q' it m (nI (if w = 0 then 1 else 2)) (some a) a1 a2 a3' c).2.2.2 wk = 0 → (sN (bsyS (pst5 (pstN σ g.x g.D p it) g.D p q' it m (nI (if w = 0 then 1 else 2)) (some a) a1 a2 a3' c) m) wk 5).1 60000 m 0 = nI (if w = 0 then 1 else 2) := fun {wk} h9 => by
                have hne : m ≠ wk := fun e => by rw [← e, A0.km] at h9; cases h9
                show (if m = wk then 0 else _) = _
                rw [if_neg hne, B0.i _ _ _ (by decide)]; exact A0.f0
              by_cases c4 : w = 0
              · subst c4
                have h77 : σ.1 770000 (g.A 26) p = 0 := Classical.byContradiction (fun z => c3 ⟨rfl, z⟩)
                have emz : msnM σ g.m g.A p q' y 0 = 0 := by unfold msnM; rw [if_pos rfl]
                rw [emz, if_pos rfl] at hD
                obtain ⟨wk, AR', d1, d2, d3, d4⟩ := hD
                rw [mk0 d1] at d4
                have TF1 := tf_of (f := true) (V := fun _ => none) (dv := 0) (dn := 0) R1 hp ha hk4 A B M
                have P1 := hTP _ _ _ TF1 (Or.inl (if_pos rfl)) (Or.inr rfl) (by rw [XS_o, B.k]; exact hfe)
                have RF := done_N (key := tgtF σ g.m g.A p y - tgtF σ g.m g.A p y / 10 * 10) R1 hn hp ha hq hal A B P1 hTk (fun a' k9 _ => absurd k9 (by decide)) y1 y2 d3 d4 d1 d2 (fun _ => by
                  have h9 : ¬ 12 ≤ (g.L1 q').length := fun z => k1 ⟨emz, z⟩
                  show (g.L1 q').length < 12
                  omega) (by decide) (fun _ => ⟨rfl, h77⟩) hkey (fun a' e => (hnd a' e).1)
                rw [hb, XS_gB, XS_t] at RF
                have RF' : RR E (gW (gB g m b) q' wk) (n + 1) (cmS (sI (sI (mvS (sI σp 500000 g.m 0 0) g.m g.A p q' b it z 0 (tgtF σ g.m g.A p y) (nI c)) 21000 (g.D p 0) 0 1) 770000 (g.A 26) p 1) g.A q' (g.L1 q').length (nI 1) (nI b) (tgtF σ g.m g.A p y - tgtF σ g.m g.A p y / 10 * 10) (nI p) 0) := RF
                rw [cmS_ci (c := 770000) (by decide) (by decide) (by decide)] at RF'
                refine fin _ _ ?_ RF' rfl rfl rfl ?_ ?_
                · rw [if_neg (not_not_intro h77), if_pos rfl, emz]
                  unfold msnS
                  rw [if_pos rfl, if_pos rfl, etg, if_pos ⟨rfl, rfl⟩, mvS_ci (by decide)]
                  rfl
                · rw [rII (by decide), cmS_ci (c := 21000) (by decide) (by decide) (by decide), rII (by decide)]
                  exact mvS_th
                · rw [if_pos ⟨rfl, rfl⟩]
                  show (mvS _ _ _ _ _ _ _ _ _ _ _).2 = σp.2
                  rw [mvS_O]; rfl
              · have ek2 : (if w = 0 then 1 else 2 : Nat) = 2 := if_neg c4
                have es : (if (0 : Int32) = 0 ∧ w = 0 then sI σp 21000 (g.D p 0) 0 1 else σp) = σp := if_neg (fun z => c4 z.2)
                have e77 : (if ¬ σ.1 770000 (g.A 26) p = 0 then (1 : Int32) else if w = 0 then 1 else 0) = σ.1 770000 (g.A 26) p := by
                  rcases hw77 with e | e
                  · rw [e, if_neg (by decide), if_neg c4]
                  · rw [e, if_pos (by decide)]
                have ebz : msnM σ g.m g.A p q' y w = if σ.1 30300 a 0 = 0 then 0 else 1 := by rw [← emw]; unfold mwF; rw [if_neg c4, if_pos rfl]
                have h30 := R.q.1 a q' a3 c2 hq hoq
                rw [es] at fin etg ⊢
                rw [e77] at fin
                by_cases c5 : σ.1 30300 a 0 = 0
                · rw [if_pos c5] at ebz
                  rw [ebz, if_pos rfl] at hD
                  obtain ⟨wk, AR', d1, d2, d3, d4⟩ := hD
                  rw [mk0 d1] at d4
                  have TF1 := tf_of (f := false) (V := fun _ => none) (dv := 0) (dn := 0) R1 hp ha hk4 A B M
                  have P1 := hTP _ _ _ TF1 (Or.inr (if_neg (by decide))) (Or.inr rfl) (by rw [XS_o, B.k]; exact hfe)
                  have RF := done_N (key := tgtF σ g.m g.A p y - tgtF σ g.m g.A p y / 10 * 10) R1 hn hp ha hq hal A B P1 hTk (fun a' _ e => by cases e; exact c5) y1 y2 d3 d4 d1 d2 (fun z => absurd ek2 z) (by rw [ek2]; decide) (fun z => by rw [ek2] at z; cases z) hkey (fun a' e => (hnd a' e).1)
                  rw [hb, XS_gB, XS_f, ek2] at RF
                  have RF' : RR E (gW (gB g m b) q' wk) (n + 1) (cmS (mvS (sI σp 500000 g.m 0 0) g.m g.A p q' b it z w (tgtF σ g.m g.A p y) (nI c)) g.A q' (g.L1 q').length (nI 2) (nI b) (tgtF σ g.m g.A p y - tgtF σ g.m g.A p y / 10 * 10) (nI p) 0) := RF
                  refine fin _ _ ?_ RF' rfl rfl rfl ?_ ?_
                  · rw [ebz]
                    unfold msnS
                    rw [if_pos rfl, if_neg c4, etg]
                    refine sI_id ?_
                    unfold cmS
                    rw [rII (by decide), rII (by decide), rII (by decide), rII (by decide), rII (by decide), rII (by decide), rII (by decide), mvS_w (by decide), rII (by decide)]
                    exact hMp _ _ _ (plA (by decide) (by decide))
                  · exact mvS_th
                  · show (mvS _ _ _ _ _ _ _ _ _ _ _).2 = σp.2
                    rw [mvS_O]; rfl
                · have hbz : σ.1 30300 a 0 = 1 := by
                    rcases h30.2.2.2.2.2.1 with ⟨z, -⟩ | ⟨z, -⟩
                    · exact absurd z c5
                    · exact z
                  rw [if_neg c5] at ebz
                  rw [ebz, if_neg (by decide)] at hD
                  obtain ⟨a', e9, d1⟩ := hD
                  cases e9
                  rw [ek2] at A hwf5 hTP d1 hfe
                  have RF := done_W R1 hn hp ha hq hal A hwf5 a3 c2 hoq hbz M hk4 hTk (fun T h1 h2 => hTP T _ _ h1 (Or.inr rfl) (Or.inl rfl) h2) hfe
                  rw [hb] at RF
                  have RF' : RR E (gQ (gB g m b) a (g.Q a ++ [m])) (n + 1) (sI (mvS (sI (queF (pst5 (pstN σ g.x g.D p it) g.D p q' it m (nI 2) (some a) a1 a2 a3' c) a m) 500000 g.m 0 0) g.m g.A p q' b it z w (tgtF σ g.m g.A p y) (nI c)) 610000 (g.A 10) b 1) := RF
                  rw [← d1] at RF'
                  refine fin _ _ ?_ RF' rfl rfl rfl ?_ ?_
                  · rw [ebz]
                    unfold msnS
                    rw [if_neg (by decide), etg]
                    refine sI_id ?_
                    rw [rII (by decide), mvS_w (by decide), rII (by decide)]
                    exact hMp _ _ _ (plA (by decide) (by decide))
                  · rw [rII (by decide), mvS_w (by decide)]; exact rIs
                  · show (mvS _ _ _ _ _ _ _ _ _ _ _).2 = σp.2
                    rw [mvS_O]; rfl
    · rw [if_pos c2] at h
      obtain ⟨rfl, rfl⟩ := h
      exact early M0 R (fun q b t _ => by rw [msn_v M0, if_neg c1, if_pos (by rw [ed]; exact c2)])
end SND
