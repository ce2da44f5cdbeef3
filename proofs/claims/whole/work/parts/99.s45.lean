section RPL
variable {E : FE} {g : Gh} {σ σ' σ1 σ2 σa τ τ' s3 s5 C6 T Ms : Sg} {n p q m c k it z a1 a2 a3 b : Nat} {nd : Option Nat} {w tv t v st : Int32}
def orpP (E : FE) (D : Nat → Nat → Nat) (x p n : Nat) (L1 L2 : Nat → List Nat) (σ : Sg) (v : Int32) (σ' : Sg) : Prop := (L2 p = [] ∧ v = -1 ∧ σ' = σ) ∨ ∃ L m0 q, L2 p = L ++ [m0] ∧ q < 4 ∧ σ.1 60100 m0 0 = nI q ∧ (if frmF σ m0 (D q 0) = 0 then v = -2 ∧ ∃ AR', Eqk E 21 42 σ σ' ∧ LLx E 21 42 6 (fun p => D p 13) (upL L2 p L) AR' σ' else ∃ σa, pstP E D x p q n none 3 L1 σ v σa ∧ (if v = 0 then ∃ AR', Eqk E 21 42 σa σ' ∧ LLx E 21 42 6 (fun p => D p 13) (upL L2 p L) AR' σ' else σ' = σa))
theorem mrp_v (hM : MEq g.A g.m σ1 σ) (b W : Nat) : mrpF σ1 g.m g.A p q b it z W (g.L2 p).length t = (if (g.L2 p).length = 0 then (-1, sI σ1 500000 g.m 0 0) else if σ.1 510000 (g.A 0) q = 0 then (-2, sI (sI σ1 500000 g.m 0 0) 740000 (g.A 23) p (nI (g.L2 p).length - 1)) else if ¬ σ.1 520000 (g.A 1) q = σ.1 760000 (g.A 25) (12 * p + (g.L2 p).length - 1) then (-2, sI (sI σ1 500000 g.m 0 0) 740000 (g.A 23) p (nI (g.L2 p).length - 1)) else if ¬ itF (badF σ g.m g.A p) it 0 0 = 0 then (-3, sI σ1 500000 g.m 0 0) else if ¬ flF σ g.m g.A p q it z 0 0 t = 0 then (-4, sI σ1 500000 g.m 0 0) else (0, mrpS σ1 g.m g.A p q b it z W (g.L2 p).length t)) := by
  unfold mrpF
  rw [fl_c hM, bad_c hM, hM.a (by decide) (by decide), hM.a (by decide) (by decide), hM.a (by decide) (by decide)]
theorem reply_hy (R : RR E g n σ) (hn : n ≤ 512) (hp : p < 4) (ha : al g σ p) (hk : σ.1 40300 (g.D p 8) 0 = nI it) (hk4 : it ≤ 4) (hz : σ.1 40400 (g.D p 8) 0 = nI z) (hz4 : z ≤ 20) (hq : q < 4) (h75 : ¬ (g.L2 p).length = 0 → σ.1 750000 (g.A 24) (12 * p + (g.L2 p).length - 1) = nI q) (hM : MEq g.A g.m σ1 σ) : ∃ (b : Nat) (t : Int32) (IV : Nat → Sg → Prop), ((¬ (g.L2 p).length = 0 → σ1.1 750000 (g.A 24) (12 * p + (g.L2 p).length - 1) = nI q ∧ q < 4) ∧ (¬ (g.L2 p).length = 0 → ¬ σ1.1 510000 (g.A 0) q = 0 → σ1.1 520000 (g.A 1) q = σ1.1 760000 (g.A 25) (12 * p + (g.L2 p).length - 1) → gapF (nxS σ1 g.A q) (bhS σ1 g.A q) (nI (max 1 (it + z))) 66 0 (-1) 65 = some t) ∧ σ1.1 720000 (g.A 21) q = nI (g.L1 q).length ∧ (¬ (g.L2 p).length = 0 → ¬ σ1.1 510000 (g.A 0) q = 0 → σ1.1 520000 (g.A 1) q = σ1.1 760000 (g.A 25) (12 * p + (g.L2 p).length - 1) → flF σ1 g.m g.A p q it z 0 0 t = 0 → (64 * q ≤ b ∧ b < 64 * q + 64 ∧ σ1.1 610000 (g.A 10) b ≤ 0 ∧ (∀ i, 64 * q ≤ i → i < b → ¬ σ1.1 610000 (g.A 10) i ≤ 0) ∧ (g.L1 q).length < 64) ∧ (∀ i τ, i < it → IV i τ → IV (i + 1) (mv2 g.A p q b i τ) ∧ (¬ τ.1 710000 (g.A 20) (4 * b + i) < 0 → hmO τ g.A q (τ.1 710000 (g.A 20) (4 * b + i)) = 0 → hmK τ g.A q (τ.1 710000 (g.A 20) (4 * b + i)) ≤ 0 → ∃ j, 1 ≤ j ∧ j < 16 ∧ hhF (τ.1 550000 (g.A 4)) (τ.1 560000 (g.A 5)) q (nI j) = 0)) ∧ IV 0 (itF (mv1 g.A g.m p b) it 0 (mvA (sI (sI σ1 500000 g.m 0 0) 740000 (g.A 23) p (nI (g.L2 p).length - 1)) g.m g.A p b it z 0 (-1) t)))) ∧ (al g σ q → t = bgR σ (g.D q 7) (nI (max 1 (it + z))) ∧ (flF σ g.m g.A p q it z 0 0 t = 0 → 64 * q ≤ b ∧ b < 64 * q + 64 ∧ σ.1 610000 (g.A 10) b ≤ 0)) := by
  have eW : σ1.1 720000 (g.A 21) q = nI (g.L1 q).length := by
    rw [hM.a (by decide) (by decide)]; exact (R.i q hq).2.2.1
  have e75 : ¬ (g.L2 p).length = 0 → σ1.1 750000 (g.A 24) (12 * p + (g.L2 p).length - 1) = nI q ∧ q < 4 := fun h => ⟨by rw [hM.a (by decide) (by decide)]; exact h75 h, hq⟩
  by_cases c1 : al g σ q
  · by_cases c3 : flF σ g.m g.A p q it z 0 0 (bgR σ (g.D q 7) (nI (max 1 (it + z)))) = 0
    · obtain ⟨b, ⟨r1, r2, r3, r4⟩, hI⟩ := R.mod hn hp ha hq c1 hk hk4 hz hz4 c3
      refine ⟨b, bgR σ (g.D q 7) (nI (max 1 (it + z))), _, ⟨e75, fun _ _ _ => ?_, eW, fun _ _ _ h => ⟨⟨r1, r2, ?_, fun i h1 h2 => ?_, ?_⟩, fun i τ hi h => IVp.step R hn hq (fun j a hj ha => R.vk hj ha) hk4 hi h, hI (sI σ 740000 (g.A 23) p (nI (g.L2 p).length - 1)) _ 0 (-1) _ (fun c x i hc => rII hc) ?_⟩⟩, fun _ => ⟨rfl, fun _ => ⟨r1, r2, r3⟩⟩⟩
      · rw [(nx_c hM).1, (nx_c hM).2]; exact R.gap hq c1 _
      · rw [hM.a (by decide) (by decide)]; exact r3
      · rw [hM.a (by decide) (by decide)]; exact r4 i h1 h2
      · have := R.len hq c1; omega
      · refine MEq.sI (fun c' x' i' hz' => ?_)
        rw [rII (by have := hz'.1; omega)]; exact hM c' x' i' hz'
    · refine ⟨0, bgR σ (g.D q 7) (nI (max 1 (it + z))), fun _ _ => True, ⟨e75, fun _ _ _ => ?_, eW, fun _ _ _ h => ?_⟩, fun _ => ⟨rfl, fun h => absurd h c3⟩⟩
      · rw [(nx_c hM).1, (nx_c hM).2]; exact R.gap hq c1 _
      · rw [fl_c hM] at h; exact absurd h c3
  · have c2 : σ1.1 510000 (g.A 0) q = 0 := by
      rw [hM.a (by decide) (by decide)]
      exact (R.p q hq).2.1.elim id (fun h => absurd h c1)
    exact ⟨0, 0, fun _ _ => True, ⟨e75, fun _ h => absurd c2 h, eW, fun _ h => absurd c2 h⟩, fun h => absurd h c1⟩
theorem itF_ci {f : Nat → Sg → Sg} {C : Sg → Sg} (h : ∀ j τ, f j (C τ) = C (f j τ)) : ∀ (k i : Nat) (τ : Sg), itF f k i (C τ) = C (itF f k i τ)
  | 0, _, _ => rfl
  | k + 1, i, τ => by rw [itF_succ, itF_succ, h, itF_ci h k (i + 1)]
section C7
variable {A : Nat → Nat} {x i y : Nat} {vv : Int32}
theorem hmO_7 : hmO (sI τ 740000 x i vv) A q = hmO τ A q := by
  funext y; unfold hmO; rw [rIf (by decide), rIf (by decide)]
theorem hmK_7 : hmK (sI τ 740000 x i vv) A q = hmK τ A q := by
  funext y; unfold hmK; rw [rIf (by decide), rIf (by decide), rIf (by decide)]
theorem mvH_7 : mvH (sI τ 740000 x i vv) A q = mvH τ A q := by
  funext y; unfold mvH; rw [hmK_7, rIf (by decide), rIf (by decide)]
theorem mvN_7 {u : Int32} : mvN (sI τ 740000 x i vv) A q u = sI (mvN τ A q u) 740000 x i vv := by
  unfold mvN
  rw [hmK_7, rIf (by decide), rIf (by decide)]
  split
  · exact sI_comm (by decide)
  · rfl
theorem mv2_7 {k : Nat} : mv2 A p q b k (sI τ 740000 x i vv) = sI (mv2 A p q b k τ) 740000 x i vv := by
  have r1 : (sI τ 740000 x i vv).1 710000 (A 20) (4 * b + k) = τ.1 710000 (A 20) (4 * b + k) := rII (by decide)
  have r2 : (sI τ 740000 x i vv).1 600000 (A 9) (4 * p + k) = τ.1 600000 (A 9) (4 * p + k) := rII (by decide)
  have r3 : (sI τ 740000 x i vv).1 550000 = τ.1 550000 := rIf (by decide)
  unfold mv2
  rw [r1, r2, r3, hmO_7, mvH_7]
  by_cases c1 : τ.1 710000 (A 20) (4 * b + k) < 0
  · rw [if_pos c1, if_pos c1, sI_comm (c := 740000) (c' := 710000) (by decide), sI_comm (c := 740000) (c' := 690000) (by decide), sI_comm (c := 740000) (c' := 700000) (by decide)]
  · rw [if_neg c1, if_neg c1]
    by_cases c2 : hmO τ A q (τ.1 710000 (A 20) (4 * b + k)) = 0
    · rw [if_pos c2, if_pos c2, sI_comm (c := 740000) (c' := 710000) (by decide), mvN_7, sI_comm (c := 740000) (c' := 550000) (by decide), sI_comm (c := 740000) (c' := 690000) (by decide), sI_comm (c := 740000) (c' := 700000) (by decide), sI_comm (c := 740000) (c' := 710000) (by decide)]
    · rw [if_neg c2, if_neg c2, sI_comm (c := 740000) (c' := 710000) (by decide), sI_comm (c := 740000) (c' := 690000) (by decide), sI_comm (c := 740000) (c' := 700000) (by decide)]
theorem mv1_7 {k : Nat} : mv1 A m p b k (sI τ 740000 x i vv) = sI (mv1 A m p b k τ) 740000 x i vv := by
  unfold mv1
  rw [itm_w (σ := τ) (fun c hc => rIf (by rcases hc with rfl | rfl | rfl | rfl | rfl | rfl | rfl | rfl <;> decide)), sI_comm (c := 740000) (c' := 710000) (by decide)]
theorem mvS_c7 : mvS (sI τ 740000 x i vv) m A p q b it z w tv t = sI (mvS τ m A p q b it z w tv t) 740000 x i vv := by
  have eA : mvA (sI τ 740000 x i vv) m A p b it z w tv t = sI (mvA τ m A p b it z w tv t) 740000 x i vv := by
    unfold mvA
    rw [rII (show (502300 : Nat) ≠ 740000 by decide), sI_comm (c := 740000) (c' := 610000) (by decide), sI_comm (c := 740000) (c' := 620000) (by decide), sI_comm (c := 740000) (c' := 630000) (by decide), sI_comm (c := 740000) (c' := 640000) (by decide), sI_comm (c := 740000) (c' := 650000) (by decide), sI_comm (c := 740000) (c' := 660000) (by decide), sI_comm (c := 740000) (c' := 670000) (by decide), sI_comm (c := 740000) (c' := 502300) (by decide), sI_comm (c := 740000) (c' := 680000) (by decide)]
  unfold mvS
  rw [eA, itF_ci (f := mv1 A m p b) (C := fun τ => sI τ 740000 x i vv) (fun _ _ => mv1_7), itF_ci (f := mv2 A p q b) (C := fun τ => sI τ 740000 x i vv) (fun _ _ => mv2_7), sI_comm (c := 740000) (c' := 570000) (by decide), sI_comm (c := 740000) (c' := 580000) (by decide)]
end C7
set_option maxHeartbeats 1000000 in
theorem sim_reply (R : RR E g n σ) (hn : n ≤ 512) (hp : p < 4) (ha : al g σ p) (hit : σ.1 570000 (g.A 6) p = nI it) (hk4 : it ≤ 4) (hsz : σ.1 580000 (g.A 7) p = nI z) (hz4 : z ≤ 20) (h : orpP E g.D g.x p it g.L1 g.L2 σ v σ1) : ∃ (q b : Nat) (t : Int32) (IV : Nat → Sg → Prop) (g' : Gh) (σ2 : Sg), ((¬ (g.L2 p).length = 0 → σ1.1 750000 (g.A 24) (12 * p + (g.L2 p).length - 1) = nI q ∧ q < 4) ∧ (¬ (g.L2 p).length = 0 → ¬ σ1.1 510000 (g.A 0) q = 0 → σ1.1 520000 (g.A 1) q = σ1.1 760000 (g.A 25) (12 * p + (g.L2 p).length - 1) → gapF (nxS σ1 g.A q) (bhS σ1 g.A q) (nI (max 1 (it + z))) 66 0 (-1) 65 = some t) ∧ σ1.1 720000 (g.A 21) q = nI (g.L1 q).length ∧ (¬ (g.L2 p).length = 0 → ¬ σ1.1 510000 (g.A 0) q = 0 → σ1.1 520000 (g.A 1) q = σ1.1 760000 (g.A 25) (12 * p + (g.L2 p).length - 1) → flF σ1 g.m g.A p q it z 0 0 t = 0 → (64 * q ≤ b ∧ b < 64 * q + 64 ∧ σ1.1 610000 (g.A 10) b ≤ 0 ∧ (∀ i, 64 * q ≤ i → i < b → ¬ σ1.1 610000 (g.A 10) i ≤ 0) ∧ (g.L1 q).length < 64) ∧ (∀ i τ, i < it → IV i τ → IV (i + 1) (mv2 g.A p q b i τ) ∧ (¬ τ.1 710000 (g.A 20) (4 * b + i) < 0 → hmO τ g.A q (τ.1 710000 (g.A 20) (4 * b + i)) = 0 → hmK τ g.A q (τ.1 710000 (g.A 20) (4 * b + i)) ≤ 0 → ∃ j, 1 ≤ j ∧ j < 16 ∧ hhF (τ.1 550000 (g.A 4)) (τ.1 560000 (g.A 5)) q (nI j) = 0)) ∧ IV 0 (itF (mv1 g.A g.m p b) it 0 (mvA (sI (sI σ1 500000 g.m 0 0) 740000 (g.A 23) p (nI (g.L2 p).length - 1)) g.m g.A p b it z 0 (-1) t)))) ∧ MEq g.A g.m σ1 σ ∧ σ2.2 = σ1.2 ∧ mrpF σ1 g.m g.A p q b it z (g.L1 q).length (g.L2 p).length t = (v, σ2) ∧ RR E g' (n + 1) σ2 ∧ σ2.1 500000 g.m 0 = 0 ∧ g'.x = g.x ∧ g'.m = g.m ∧ g'.A = g.A := by
  obtain ⟨hk, hz⟩ : σ.1 40300 (g.D p 8) 0 = nI it ∧ σ.1 40400 (g.D p 8) 0 = nI z := by
    obtain ⟨k', z', d1, d2, d3, d4, d5, -⟩ := R.d p hp
    have e1 : k' = it := (nI_eq (by omega) (by omega)).mp (d3.symm.trans hit)
    have e2 : z' = z := (nI_eq (by omega) (by omega)).mp (d4.symm.trans hsz)
    subst e1; subst e2
    exact ⟨(d5 ha).1, (d5 ha).2.1⟩
  have M0 : MEq g.A g.m σ σ := fun _ _ _ _ => rfl
  obtain ⟨ho1, ho2, ho3, -⟩ := R.o p hp
  rcases h with ⟨h0, rfl, rfl⟩ | ⟨L, m0, q, h0, hq, hs, h⟩
  · have e0 : (g.L2 p).length = 0 := by rw [h0]; rfl
    obtain ⟨b, t, IV, hy, -⟩ := reply_hy (q := 0) R hn hp ha hk hk4 hz hz4 (by omega) (fun h => absurd e0 h) M0
    exact ⟨0, b, t, IV, g, sI σ1 500000 g.m 0 0, hy, M0, rfl, by rw [mrp_v M0, if_pos e0], (R.th 0).mono (Nat.le_succ n), rIs, rfl, rfl, rfl⟩
  · have el : (g.L2 p).length = L.length + 1 := by rw [h0, List.length_append]; rfl
    have hne : ¬ (g.L2 p).length = 0 := by omega
    have hix : 12 * p + (g.L2 p).length - 1 = 12 * p + L.length := by omega
    have hget : (g.L2 p)[L.length]? = some m0 := by rw [h0]; simp
    obtain ⟨s, l, o1, o2, o3, o4, o5, o6⟩ := ho1 L.length m0 hget
    have hsq : s = q := (nI_eq (by omega) (by omega)).mp (o1.symm.trans hs)
    subst hsq
    have h75 : ¬ (g.L2 p).length = 0 → σ.1 750000 (g.A 24) (12 * p + (g.L2 p).length - 1) = nI s := fun _ => by rw [hix]; exact o5
    have hm06 := R.s.k2 hp hget
    obtain ⟨p1, p2, p3, p4, p5⟩ := R.p s hq
    have efr : frmF σ m0 (g.D s 0) = 0 ↔ ¬ (al g σ s ∧ g.lv s = l) := by
      unfold frmF
      rw [p1, R.s.nm s hq, o1, p3, o3]
      have q1 := nI_eq (a := g.lv s) (b := l) (by omega) (by omega)
      by_cases c1 : σ.1 510000 (g.A 0) s = 0
      · rw [if_pos c1]; exact ⟨fun _ y => by have := y.1; unfold al at this; rw [c1] at this; exact absurd this (by decide), fun _ => rfl⟩
      · rw [if_neg c1, if_pos rfl]
        have ca : al g σ s := p2.elim (fun y => absurd y c1) id
        by_cases c2 : g.lv s = l
        · rw [if_pos (q1.mpr c2)]; exact ⟨fun y => absurd y (by decide), fun y => absurd ⟨ca, c2⟩ y⟩
        · rw [if_neg (fun y => c2 (q1.mp y))]; exact ⟨fun _ y => c2 y.2, fun _ => rfl⟩
    have e76 : σ.1 520000 (g.A 1) s = σ.1 760000 (g.A 25) (12 * p + (g.L2 p).length - 1) ↔ g.lv s = l := by
      rw [p4, hix, o6]; exact nI_eq (by omega) (by omega)
    have eO : nI (g.L2 p).length - 1 = nI L.length := by
      rw [el, nl1, pk_sub (by omega)]; rfl
    by_cases c1 : frmF σ m0 (g.D s 0) = 0
    · rw [if_pos c1] at h
      obtain ⟨rfl, AR', he, hl⟩ := h
      have hM : MEq g.A g.m σ1 σ := fun c' x i hz' => (he.2.2.1 c' x i (by
        rcases hz'.2 with rfl | ⟨j, hj, rfl⟩
        · exact R.s.km
        · exact R.s.kA hj) (by have := hz'.1; omega) (by have := hz'.1; omega)).1
      obtain ⟨b, t, IV, hy, -⟩ := reply_hy (q := s) R hn hp ha hk hk4 hz hz4 hq h75 hM
      have F : Fr KO2 (fun j => j == 42) σ (sI σ1 740000 (g.A 23) p (nI L.length)) := Fr.iK ((Fr.k he).weak (fun c hc => by
        simp only [KO2, Bool.or_eq_false_iff] at hc ⊢
        exact ⟨hc.1.1.1.1, hc.1.1.1.2⟩) (fun j hj => hj)) (by decide)
      have RP1 : RR E (gD g p L) n (sI σ1 740000 (g.A 23) p (nI L.length)) := by
        refine R.popO hp ha h0 F (by decide) (fun r hr => ?_) (he.2.2.2.2.2 R.s.wf) hl.1 ⟨AR', hl.i (by decide) (by decide)⟩ rIs (fun i hi => ⟨by rw [rII (by decide)]; exact hM _ _ _ (plA (by decide) (by decide)), by rw [rII (by decide)]; exact hM _ _ _ (plA (by decide) (by decide))⟩)
        exact FrP.iw (((Fr.k he).weak (fun c hc => by simpa [KO1] using hc) (fun j hj => hj)).at g r) (Or.inr (niA (by decide) (show p / 1 = p by omega) hr))
      refine ⟨s, b, t, IV, gD g p L, sI (sI σ1 740000 (g.A 23) p (nI L.length)) 500000 g.m 0 0, hy, hM, rfl, ?_, (RP1.th 0).mono (Nat.le_succ n), rIs, rfl, rfl, rfl⟩
      rw [mrp_v hM, if_neg hne, eO, sI_comm (c := 500000) (c' := 740000) (by decide)]
      by_cases c2 : σ.1 510000 (g.A 0) s = 0
      · rw [if_pos c2]
      · rw [if_neg c2, if_pos]
        intro y
        exact efr.mp c1 ⟨p2.elim (fun y => absurd y c2) id, e76.mp y⟩
    · rw [if_neg c1] at h
      have hal : al g σ s ∧ g.lv s = l := Classical.byContradiction (fun y => c1 (efr.mpr y))
      have c2 : ¬ σ.1 510000 (g.A 0) s = 0 := by rw [show σ.1 510000 (g.A 0) s = 1 from hal.1]; decide
      have c3 : σ.1 520000 (g.A 1) s = σ.1 760000 (g.A 25) (12 * p + (g.L2 p).length - 1) := e76.mpr hal.2
      obtain ⟨σp, hpst, hfin⟩ := h
      have bad := R.bad hn hp ha hk hk4
      have room := R.room (y := 0) (w := 0) (kk := 3) hn hp ha hq hal.1 hk hk4 hz hz4 ⟨fun h => absurd h (by decide), fun h => absurd rfl h⟩
      have emw : mwF σ none 3 = 0 := by unfold mwF; rw [if_neg (by decide)]
      have early : ∀ {v0 : Int32} {σ9 : Sg}, MEq g.A g.m σ9 σ → RR E g n σ9 → (∀ b, mrpF σ9 g.m g.A p s b it z (g.L1 s).length (g.L2 p).length (bgR σ (g.D s 7) (nI (max 1 (it + z)))) = (v0, sI σ9 500000 g.m 0 0)) → v = v0 → σ1 = σ9 → ∃ (q b : Nat) (t : Int32) (IV : Nat → Sg → Prop) (g' : Gh) (σ2 : Sg), ((¬ (g.L2 p).length = 0 → σ1.1 750000 (g.A 24) (12 * p + (g.L2 p).length - 1) = nI q ∧ q < 4) ∧ (¬ (g.L2 p).length = 0 → ¬ σ1.1 510000 (g.A 0) q = 0 → σ1.1 520000 (g.A 1) q = σ1.1 760000 (g.A 25) (12 * p + (g.L2 p).length - 1) → gapF (nxS σ1 g.A q) (bhS σ1 g.A q) (nI (max 1 (it + z))) 66 0 (-1) 65 = some t) ∧ σ1.1 720000 (g.A 21) q = nI (g.L1 q).length ∧ (¬ (g.L2 p).length = 0 → ¬ σ1.1 510000 (g.A 0) q = 0 → σ1.1 520000 (g.A 1) q = σ1.1 760000 (g.A 25) (12 * p + (g.L2 p).length - 1) → flF σ1 g.m g.A p q it z 0 0 t = 0 → (64 * q ≤ b ∧ b < 64 * q + 64 ∧ σ1.1 610000 (g.A 10) b ≤ 0 ∧ (∀ i, 64 * q ≤ i → i < b → ¬ σ1.1 610000 (g.A 10) i ≤ 0) ∧ (g.L1 q).length < 64) ∧ (∀ i τ, i < it → IV i τ → IV (i + 1) (mv2 g.A p q b i τ) ∧ (¬ τ.1 710000 (g.A 20) (4 * b + i) < 0 → hmO τ g.A q (τ.1 710000 (g.A 20) (4 * b + i)) = 0 → hmK τ g.A q (τ.1 710000 (g.A 20) (4 * b + i)) ≤ 0 → ∃ j, 1 ≤ j ∧ j < 16 ∧ hhF (τ.1 550000 (g.A 4)) (τ.1 560000 (g.A 5)) q (nI j) = 0)) ∧ IV 0 (itF (mv1 g.A g.m p b) it 0 (mvA (sI (sI σ1 500000 g.m 0 0) 740000 (g.A 23) p (nI (g.L2 p).length - 1)) g.m g.A p b it z 0 (-1) t)))) ∧ MEq g.A g.m σ1 σ ∧ σ2.2 = σ1.2 ∧ mrpF σ1 g.m g.A p q b it z (g.L1 q).length (g.L2 p).length t = (v, σ2) ∧ RR E g' (n + 1) σ2 ∧ σ2.1 500000 g.m 0 = 0 ∧ g'.x = g.x ∧ g'.m = g.m ∧ g'.A = g.A := by
        intro v0 σ9 hM R9 hF ev es
        subst ev; subst es
        obtain ⟨b, t, IV, h1, h2⟩ := reply_hy (q := s) R hn hp ha hk hk4 hz hz4 hq h75 hM
        have et := (h2 hal.1).1
        subst et
        exact ⟨s, b, _, IV, g, sI σ1 500000 g.m 0 0, h1, hM, rfl, hF b, (R9.th 0).mono (Nat.le_succ n), rIs, rfl, rfl, rfl⟩
      unfold pstP at hpst
      rw [emw] at hpst
      rcases hpst with ⟨hB, rfl, hF⟩ | ⟨hB, hF, hpst⟩
      · rw [if_neg (by decide)] at hfin
        exact early (FN.meq hF) (R.fn hF) (fun b => by rw [mrp_v (FN.meq hF), if_neg hne, if_neg c2, if_neg (not_not_intro c3), if_pos (bad.mp hB)]) rfl hfin
      · have nb : itF (badF σ g.m g.A p) it 0 0 = 0 := Classical.byContradiction (fun z => by
          obtain ⟨i, hi, hb⟩ := bad.mpr z
          exact hB i hi hb)
        have full : ¬ flF σ g.m g.A p s it z 0 0 (bgR σ (g.D s 7) (nI (max 1 (it + z)))) = 0 → v = -4 → σp = pstN σ g.x g.D p it → ∃ (q b : Nat) (t : Int32) (IV : Nat → Sg → Prop) (g' : Gh) (σ2 : Sg), ((¬ (g.L2 p).length = 0 → σ1.1 750000 (g.A 24) (12 * p + (g.L2 p).length - 1) = nI q ∧ q < 4) ∧ (¬ (g.L2 p).length = 0 → ¬ σ1.1 510000 (g.A 0) q = 0 → σ1.1 520000 (g.A 1) q = σ1.1 760000 (g.A 25) (12 * p + (g.L2 p).length - 1) → gapF (nxS σ1 g.A q) (bhS σ1 g.A q) (nI (max 1 (it + z))) 66 0 (-1) 65 = some t) ∧ σ1.1 720000 (g.A 21) q = nI (g.L1 q).length ∧ (¬ (g.L2 p).length = 0 → ¬ σ1.1 510000 (g.A 0) q = 0 → σ1.1 520000 (g.A 1) q = σ1.1 760000 (g.A 25) (12 * p + (g.L2 p).length - 1) → flF σ1 g.m g.A p q it z 0 0 t = 0 → (64 * q ≤ b ∧ b < 64 * q + 64 ∧ σ1.1 610000 (g.A 10) b ≤ 0 ∧ (∀ i, 64 * q ≤ i → i < b → ¬ σ1.1 610000 (g.A 10) i ≤ 0) ∧ (g.L1 q).length < 64) ∧ (∀ i τ, i < it → IV i τ → IV (i + 1) (mv2 g.A p q b i τ) ∧ (¬ τ.1 710000 (g.A 20) (4 * b + i) < 0 → hmO τ g.A q (τ.1 710000 (g.A 20) (4 * b + i)) = 0 → hmK τ g.A q (τ.1 710000 (g.A 20) (4 * b + i)) ≤ 0 → ∃ j, 1 ≤ j ∧ j < 16 ∧ hhF (τ.1 550000 (g.A 4)) (τ.1 560000 (g.A 5)) q (nI j) = 0)) ∧ IV 0 (itF (mv1 g.A g.m p b) it 0 (mvA (sI (sI σ1 500000 g.m 0 0) 740000 (g.A 23) p (nI (g.L2 p).length - 1)) g.m g.A p b it z 0 (-1) t)))) ∧ MEq g.A g.m σ1 σ ∧ σ2.2 = σ1.2 ∧ mrpF σ1 g.m g.A p q b it z (g.L1 q).length (g.L2 p).length t = (v, σ2) ∧ RR E g' (n + 1) σ2 ∧ σ2.1 500000 g.m 0 = 0 ∧ g'.x = g.x ∧ g'.m = g.m ∧ g'.A = g.A := by
          intro hfl ev es
          rw [ev, if_neg (by decide)] at hfin
          rw [es] at hfin
          exact early (FN.meq hF) (R.fn hF) (fun b => by rw [mrp_v (FN.meq hF), if_neg hne, if_neg c2, if_neg (not_not_intro c3), if_neg (not_not_intro nb), if_pos hfl]) ev hfin
        rcases hpst with ⟨k1, k2, ev, k3⟩ | ⟨k1, hpst⟩
        · exact full (fun z => (room.mpr z).1 ⟨rfl, k2⟩) ev k3
        · rcases hpst with ⟨k2, ev, k3⟩ | ⟨k2, rfl, hD⟩
          · exact full (fun z => (room.mpr z).2 k2) ev k3
          · have hfl : flF σ g.m g.A p s it z 0 0 (bgR σ (g.D s 7) (nI (max 1 (it + z)))) = 0 := room.mp ⟨fun y => k1 ⟨rfl, y.2⟩, k2⟩
            rw [if_pos rfl] at hfin
            obtain ⟨AR2, he2, hl2⟩ := hfin
            unfold pstD at hD
            obtain ⟨m, a1, a2, a3', c, hf, hwf5, hc, hbg, hD⟩ := hD
            rw [if_pos rfl] at hD
            obtain ⟨wk, AR', d1, d2, d3, d4⟩ := hD
            have hm0 : σ.2.2.2 m = 0 := by
              have h9 := hf.1
              rw [(pstN_r (σ := σ) (x := g.x) (j := p) (k := it) (D := g.D)).2.1] at h9; exact h9
            have hnd : ∀ a', (none : Option Nat) = some a' → σ.2.2.2 a' = 3 ∧ σ.1 30200 a' 0 = 0 ∧ σ.1 30000 a' 0 = nI s := fun a' e => by cases e
            have A0 := pd_of (k := 3) (c := c) (q := s) (nd := none) R hp ha hq hk hk4 hz hz4 (by omega) hf
            obtain ⟨B0, -, -⟩ := bsy_6 A0 (by omega) hwf5 (fun a' e => (hnd a' e).1)
            have hMp : MEq g.A g.m σp σ := dn_meq R A0 B0 d1 d4
            have nf : ∀ {b x}, σ.2.2.2 b ≠ 0 → σ.2.2.2 x = 0 → b ≠ x := fun h1 h2 e => h1 (by rw [e]; exact h2)
            have kp : ∀ x, σ.2.2.2 x ≠ 0 → σp.2.2.2 x ≠ 0 := fun x xz => by
              have x5 : (pst5 (pstN σ g.x g.D p it) g.D p s it m (nI 3) none a1 a2 a3' c).2.2.2 x ≠ 0 := by rw [A0.kd x, if_neg (nf xz A0.y3), if_neg (nf xz A0.y2), if_neg (nf xz A0.y1), if_neg (nf xz A0.y0)]; exact xz
              have hnw : x ≠ wk := fun e => x5 (by rw [e]; exact d1)
              have kw : (wkS (bsyS (pst5 (pstN σ g.x g.D p it) g.D p s it m (nI 3) none a1 a2 a3' c) m) wk ((sN (bsyS (pst5 (pstN σ g.x g.D p it) g.D p s it m (nI 3) none a1 a2 a3' c) m) wk 5).1 60000 m 0) (some m) 0).2.2.2 x ≠ 0 := by
                have : (wkS (bsyS (pst5 (pstN σ g.x g.D p it) g.D p s it m (nI 3) none a1 a2 a3' c) m) wk ((sN (bsyS (pst5 (pstN σ g.x g.D p it) g.D p s it m (nI 3) none a1 a2 a3' c) m) wk 5).1 60000 m 0) (some m) 0).2.2.2 x = (bsyS (pst5 (pstN σ g.x g.D p it) g.D p s it m (nI 3) none a1 a2 a3' c) m).2.2.2 x := by simp [wkS, sI, sO, sN, hnw]
                rw [this, B0.k]; exact x5
              rw [d4.1 x kw]; exact kw
            have hM1 : MEq g.A g.m σ1 σ := fun c' x i hz' => by
              have xz : σ.2.2.2 x ≠ 0 := by
                rcases hz'.2 with rfl | ⟨j, hj, rfl⟩
                · exact R.s.km
                · exact R.s.kA hj
              rw [(he2.2.2.1 c' x i (kp x xz) (by have := hz'.1; omega) (by have := hz'.1; omega)).1]
              exact hMp c' x i hz'
            obtain ⟨b, t, IV, hy1, hy2⟩ := reply_hy (q := s) R hn hp ha hk hk4 hz hz4 hq h75 hM1
            obtain ⟨et, hrow⟩ := hy2 hal.1
            subst et
            obtain ⟨r1, r2, r3⟩ := hrow hfl
            have R1 := R.gB (m := m) (b := b) hm0
            have hb : (gB g m b).B m = b := upN_s
            obtain ⟨ebg, A, M, hfe, Tk, hTk, hTP⟩ := post_tp (g := gB g m b) (w := 0) (tv := -1) (k := 3) R1 hn hp ha hq hal.1 hk hk4 hz hz4 (by omega) ⟨fun _ => rfl, fun _ => rfl⟩ hnd (Or.inl ⟨rfl, rfl⟩) rfl hf hc hbg k2 (by rw [hb]; exact r1) (by rw [hb]; exact r2) (by rw [hb]; exact r3)
            have ebg' : bgR σ (g.D s 7) (nI (max 1 (it + z))) = nI c := ebg
            rw [ebg'] at hy1 hfl
            obtain ⟨B, y1, y2⟩ := bsy_6 A (by omega) hwf5 (fun a' e => (hnd a' e).1)
            have TF1 := tf_of (f := false) (V := fun _ => none) (dv := 0) (dn := 0) R1 hp ha hk4 A B M
            have P1 := hTP _ _ _ TF1 (Or.inr (if_neg (by decide))) (Or.inr rfl) (by rw [XS_o, B.k]; exact hfe)
            have RT := done_T R1 hn hp ha hq hal.1 A B P1 hTk (fun a' k9 _ => absurd k9 (by decide)) y1 y2
            have ek3 : (sN (bsyS (pst5 (pstN σ g.x g.D p it) g.D p s it m (nI 3) none a1 a2 a3' c) m) wk 5).1 60000 m 0 = 3 := by
              have d1m : ∀ y, y = wk → (pst5 (pstN σ g.x g.D p it) g.D p s it m (nI 3) none a1 a2 a3' c).2.2.2 y = 0 := fun y hy => by rw [hy]; exact d1
              have hne' : m ≠ wk := fun e => by have h9 := A0.km.symm.trans (d1m m e); cases h9
              show (if m = wk then 0 else _) = _
              rw [if_neg hne', B0.i _ _ _ (by decide)]; exact A0.f0
            have d4' : Eqk E 20 41 (wkS (bsyS (pst5 (pstN σ g.x g.D p it) g.D p s it m (nI 3) none a1 a2 a3' c) m) wk 3 (some m) 0) σp := by
              rw [← ek3]; exact d4
            have kC : ∀ x, σ.2.2.2 x ≠ 0 → (bsyS (pst5 (pstN σ g.x g.D p it) g.D p s it m (nI 3) none a1 a2 a3' c) m).2.2.2 x ≠ 0 := fun x xz => by
              rw [B0.k, A0.kd x, if_neg (nf xz A0.y3), if_neg (nf xz A0.y2), if_neg (nf xz A0.y1), if_neg (nf xz A0.y0)]; exact xz
            have hX1 := Eqk.xs (g := gB g m b) (p := p) (q := s) (b := (gB g m b).B m) (it := it) (z := z) (w := 0) (tv := -1) (t := nI c) (f := false) R1.s kC hp (by rw [B0.k]; exact d1) d4'
            have hX2 := Eqk.xs2 (wk := 0) (g := gB g m b) (p := p) (q := s) (b := (gB g m b).B m) (it := it) (z := z) (w := 0) (tv := -1) (t := nI c) R1.s kp he2
            have hlen : (g.L1 s).length < 12 := Nat.lt_of_not_le (fun z => k1 ⟨rfl, z⟩)
            have AP := addP_of (m0 := m0) (k' := 3) (b' := nI ((gB g m b).B m)) (y' := -1) (s' := nI p) (c' := 0) RT hp hq (by rw [XS_o, B.k]; exact d1) d2 (fun m' e => by cases e; exact P1.m6) (d3.xs (by decide) (by decide) (by decide)) hX1 hX2 (hl2.xs (by decide) (by decide) (by decide)) (show (g.L1 s).length < 64 by omega) h0
            have eoM : oM (XS (gB g m b) p s ((gB g m b).B m) it z 0 (-1) (nI c) false (bsyS (pst5 (pstN σ g.x g.D p it) g.D p s it m (nI 3) none a1 a2 a3' c) m)) s (g.lv s) m0 = true := by
              refine (oM.fr R1.s (P1.F.at (gB g m b) p) hm06 (by decide) (by decide)).trans ?_
              unfold oM
              rw [o1, o3, hal.2]; simp
            obtain ⟨q0, q1, q2, q3, q4, q5⟩ := cm_r (σ := XS (gB g m b) p s ((gB g m b).B m) it z 0 (-1) (nI c) false σ1) (A := g.A) (p := s) (w := (g.L1 s).length) (k := 3) (b := nI ((gB g m b).B m)) (y := -1) (s := nI p) (c := 0)
            have RF := RT.addR hp ((al.fr R1.s P1.F (by decide) p).mpr ha) hq ((al.fr R1.s P1.F (by decide) s).mpr hal.1) AP h0 eoM hc P1.e1 P1.f0 P1.r0 (fun i w' hi h9 => by
              have w5 := R.s.k1 hq hi
              have wz : σ.2.2.2 w' ≠ 0 := by rw [w5]; decide
              rw [(P1.F.2.2 _ _ _ wz (by decide)).2] at h9
              have := R.s.wf _ _ _ _ h9 (by decide)
              rw [hm0] at this; cases this) hlen (P1.f3.mp rfl) (by rw [rII (by decide)]; exact q0) (by rw [rII (by decide)]; exact q1) (by rw [rII (by decide)]; exact q2) (by rw [rII (by decide)]; exact q3.trans P1.f1.symm) (by rw [rII (by decide)]; exact q4)
            rw [hb, XS_gB, XS_f] at RF
            have RF' : RR E (gD (gW (gB g m b) s wk) p L) (n + 1) (sI (cmS (mvS (sI σ1 500000 g.m 0 0) g.m g.A p s b it z 0 (-1) (nI c)) g.A s (g.L1 s).length 3 (nI b) (-1) (nI p) 0) 740000 (g.A 23) p (nI L.length)) := RF
            refine ⟨s, b, nI c, IV, _, _, hy1, hM1, ?_, ?_, RF', ?_, rfl, rfl, rfl⟩
            · show (mvS _ _ _ _ _ _ _ _ _ _ _).2 = σ1.2
              rw [mvS_O]; rfl
            · rw [mrp_v hM1, if_neg hne, if_neg c2, if_neg (not_not_intro c3), if_neg (not_not_intro nb), if_neg (not_not_intro hfl)]
              unfold mrpS
              rw [eO, ← cmS_ci (c := 740000) (by decide) (by decide) (by decide), mvS_c7]
            · rw [rII (by decide)]; exact mvS_th
end RPL
