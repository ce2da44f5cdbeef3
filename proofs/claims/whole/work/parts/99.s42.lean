section SND
variable {E : FE} {g : Gh} {σ σ' σ1 σ2 τ τ' s3 s5 C6 T Ms : Sg} {n p q m c k it z a1 a2 a3 b : Nat} {nd : Option Nat} {y w tv t v st : Int32}
/-- a node that lives: its process -/
theorem RR.own {a : Nat} (R : RR E g n σ) (hn : n ≤ 512) (a3 : σ.2.2.2 a = 3) (hd : σ.1 30200 a 0 = 0) : ∃ o, o < 4 ∧ σ.1 30000 a 0 = nI o ∧ al g σ o ∧ pOf (nI (g.N a)) = o ∧ σ.1 30100 a 0 = nI (g.N a) - nI (g.N a) / 10 * 10 := by
  have hb := R.no.ok R.p (by omega) a3
  obtain ⟨m1, m2, m3, m4⟩ := R.no.m R.p (by omega) a3
  obtain ⟨w', o, k', e1, e2, e3, e4, e5, e6, e7⟩ := R.no.1 a a3
  refine ⟨o, e2, e5, ?_, ?_, ?_⟩
  · rcases e7 with ⟨-, -, f3, -⟩ | ⟨f1, -⟩
    · exact f3
    · rw [hd] at f1; exact absurd f1 (by decide)
  · rw [m4]; omega
  · rw [m2, nl10, pk_rem (by omega) (by omega) (by omega)]
theorem send_hy (R : RR E g n σ) (hn : n ≤ 512) (hp : p < 4) (ha : al g σ p) (hk : σ.1 40300 (g.D p 8) 0 = nI it) (hk4 : it ≤ 4) (hz : σ.1 40400 (g.D p 8) 0 = nI z) (hz4 : z ≤ 20) (y w : Int32) (hM : MEq g.A g.m σ1 σ) : ∃ (q b : Nat) (t : Int32) (IV : Nat → Sg → Prop), (q < 4 ∧ pOf (tgtF σ1 g.m g.A p y) = q ∧ (¬ tgtF σ1 g.m g.A p y < 0 → dedI (σ1.1 510000 (g.A 0)) (σ1.1 520000 (g.A 1)) (tgtF σ1 g.m g.A p y) = 0 → gapF (nxS σ1 g.A q) (bhS σ1 g.A q) (nI (max 1 (it + z))) 66 0 (-1) 65 = some t) ∧ σ1.1 720000 (g.A 21) q = nI (g.L1 q).length ∧ (¬ tgtF σ1 g.m g.A p y < 0 → dedI (σ1.1 510000 (g.A 0)) (σ1.1 520000 (g.A 1)) (tgtF σ1 g.m g.A p y) = 0 → flF σ1 g.m g.A p q it z w (msnM σ1 g.m g.A p q y w) t = 0 → (64 * q ≤ b ∧ b < 64 * q + 64 ∧ σ1.1 610000 (g.A 10) b ≤ 0 ∧ (∀ i, 64 * q ≤ i → i < b → ¬ σ1.1 610000 (g.A 10) i ≤ 0) ∧ (g.L1 q).length < 64) ∧ (∀ i τ, i < it → IV i τ → IV (i + 1) (mv2 g.A p q b i τ) ∧ (¬ τ.1 710000 (g.A 20) (4 * b + i) < 0 → hmO τ g.A q (τ.1 710000 (g.A 20) (4 * b + i)) = 0 → hmK τ g.A q (τ.1 710000 (g.A 20) (4 * b + i)) ≤ 0 → ∃ j, 1 ≤ j ∧ j < 16 ∧ hhF (τ.1 550000 (g.A 4)) (τ.1 560000 (g.A 5)) q (nI j) = 0)) ∧ IV 0 (itF (mv1 g.A g.m p b) it 0 (mvA (sI σ1 500000 g.m 0 0) g.m g.A p b it z w (tgtF σ1 g.m g.A p y) t)))) ∧ (¬ tgtF σ g.m g.A p y < 0 → dedI (σ.1 510000 (g.A 0)) (σ.1 520000 (g.A 1)) (tgtF σ g.m g.A p y) = 0 → t = bgR σ (g.D q 7) (nI (max 1 (it + z))) ∧ (flF σ g.m g.A p q it z w (msnM σ g.m g.A p q y w) t = 0 → 64 * q ≤ b ∧ b < 64 * q + 64 ∧ σ.1 610000 (g.A 10) b ≤ 0)) := by
  have hq := pOf_lt (tgtF σ g.m g.A p y)
  have eW : ∀ q, q < 4 → σ1.1 720000 (g.A 21) q = nI (g.L1 q).length := fun q hq => by
    rw [hM.a (by decide) (by decide)]; exact (R.i q hq).2.2.1
  rw [tgt_c hM, hM.a (by decide) (by decide), hM.a (by decide) (by decide)]
  by_cases c1 : tgtF σ g.m g.A p y < 0
  · exact ⟨_, 0, 0, fun _ _ => True, ⟨hq, rfl, fun h => absurd c1 h, eW _ hq, fun h => absurd c1 h⟩, fun h => absurd c1 h⟩
  by_cases c2 : dedI (σ.1 510000 (g.A 0)) (σ.1 520000 (g.A 1)) (tgtF σ g.m g.A p y) = 0
  · rcases R.tgt hn hp ha y with ⟨-, e⟩ | ⟨a, e1, e2⟩
    · rw [e] at c1; exact absurd (by decide) c1
    have a3 : σ.2.2.2 a = 3 := by
      unfold snF at e1
      split at e1
      · exact R.s.wf _ _ _ _ e1 (by decide)
      · unfold strongF at e1
        split at e1
        · cases e1
        · split at e1
          · cases e1
          · exact R.s.wf _ _ _ _ e1 (by decide)
    have hd : σ.1 30200 a 0 = 0 := by
      rw [(R.no.m R.p (by omega) a3).2.2.1, ← e2]; exact c2
    obtain ⟨o, ho, -, hal, hpo, -⟩ := R.own hn a3 hd
    have hqo : pOf (tgtF σ g.m g.A p y) = o := by rw [e2]; exact hpo
    rw [hqo] at hq ⊢
    by_cases c3 : flF σ g.m g.A p o it z w (msnM σ g.m g.A p o y w) (bgR σ (g.D o 7) (nI (max 1 (it + z)))) = 0
    · obtain ⟨b, ⟨r1, r2, r3, r4⟩, hI⟩ := R.mod hn hp ha ho hal hk hk4 hz hz4 c3
      refine ⟨o, b, bgR σ (g.D o 7) (nI (max 1 (it + z))), _, ⟨ho, rfl, fun _ _ => ?_, eW o ho, fun _ _ h => ⟨⟨r1, r2, ?_, fun i h1 h2 => ?_, ?_⟩, fun i τ hi h => IVp.step R hn ho (fun j a hj ha => R.vk hj ha) hk4 hi h, hI σ _ w (tgtF σ g.m g.A p y) _ (fun _ _ _ _ => rfl) ?_⟩⟩, fun _ _ => ⟨rfl, fun _ => ⟨r1, r2, r3⟩⟩⟩
      · rw [(nx_c hM).1, (nx_c hM).2]; exact R.gap ho hal _
      · rw [hM.a (by decide) (by decide)]; exact r3
      · rw [hM.a (by decide) (by decide)]; exact r4 i h1 h2
      · have := R.len ho hal; omega
      · exact fun c' x' i' hz' => by
          rw [rII (by have := hz'.1; omega)]; exact hM c' x' i' hz'
    · refine ⟨o, 0, bgR σ (g.D o 7) (nI (max 1 (it + z))), fun _ _ => True, ⟨ho, rfl, fun _ _ => ?_, eW o ho, fun _ _ h => ?_⟩, fun _ _ => ⟨rfl, fun h => absurd h c3⟩⟩
      · rw [(nx_c hM).1, (nx_c hM).2]; exact R.gap ho hal _
      · rw [fl_c hM, msnM_c hM] at h; exact absurd h c3
  · exact ⟨_, 0, 0, fun _ _ => True, ⟨hq, rfl, fun _ h => absurd h c2, eW _ hq, fun _ h => absurd h c2⟩, fun _ h => absurd h c2⟩
def osnP (E : FE) (D : Nat → Nat → Nat) (x p n : Nat) (L1 : Nat → List Nat) (σ : Sg) (y w v : Int32) (σ' : Sg) : Prop := match snF σ x (D p) y with
  | none => v = -1 ∧ σ' = σ
  | some a => if ¬ σ.1 30200 a 0 = 0 then v = -2 ∧ σ' = σ else if w = 0 ∧ ¬ σ.1 21000 (D p 0) 0 = 0 then v = -5 ∧ σ' = σ else ∃ q σ1, q < 4 ∧ σ.1 30000 a 0 = nI q ∧ pstP E D x p q n (some a) (if w = 0 then 1 else 2) L1 σ v σ1 ∧ σ' = (if v = 0 ∧ w = 0 then sI σ1 21000 (D p 0) 0 1 else σ1)
theorem FN.meq (h : FN σ σ1) : MEq g.A g.m σ1 σ := fun c x i _ => by rw [h.2.2.1]
theorem RR.fn (R : RR E g n σ) (h : FN σ σ1) : RR E g n σ1 := by
  have F : Fr (fun c => KDr.contains c) (fun _ => false) σ σ1 := ⟨fun x _ => by rw [h.2.1], fun x hx h2 => by rw [h.2.1] at h2; exact absurd hx h2, fun c x i _ hc => ⟨by rw [h.2.2.1], h.2.2.2 c x i (fun e => by rw [e] at hc; exact absurd hc (by decide))⟩⟩
  refine R.frD F h.1 (fun q hq => (R.d q hq).cong (by unfold al; rw [h.2.2.1]) (by rw [h.2.2.1]) (by rw [h.2.2.1]) (by rw [h.2.2.1]) (by rw [h.2.2.1]) (fun i _ => by rw [h.2.2.1]; exact ⟨rfl, rfl, rfl, rfl⟩))
theorem msn_v (hM : MEq g.A g.m σ1 σ) (b W : Nat) : msnF σ1 g.m g.A p y w q b it z W t = (if tgtF σ g.m g.A p y < 0 then (-1, sI σ1 500000 g.m 0 0) else if ¬ dedI (σ.1 510000 (g.A 0)) (σ.1 520000 (g.A 1)) (tgtF σ g.m g.A p y) = 0 then (-2, sI σ1 500000 g.m 0 0) else if w = 0 ∧ ¬ σ.1 770000 (g.A 26) p = 0 then (-5, sI σ1 500000 g.m 0 0) else if ¬ itF (badF σ g.m g.A p) it 0 0 = 0 then (-3, sI σ1 500000 g.m 0 0)
    else if ¬ flF σ g.m g.A p q it z w (msnM σ g.m g.A p q y w) t = 0 then (-4, sI σ1 500000 g.m 0 0) else (0, sI (msnS σ1 g.m g.A p y w q b it z W t (msnM σ g.m g.A p q y w)) 770000 (g.A 26) p (if ¬ σ.1 770000 (g.A 26) p = 0 then 1 else if w = 0 then 1 else 0))) := by
  unfold msnF
  rw [tgt_c hM, msnM_c hM, fl_c hM, bad_c hM, hM.a (by decide) (by decide), hM.a (by decide) (by decide), hM.a (by decide) (by decide)]
end SND
