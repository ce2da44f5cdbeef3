/-! send, reply -/
theorem pst5_k {s1 : Sg} {D : Nat → Nat → Nat} {j q n m a1 a2 a3 g x : Nat} {k : Int32} {nd : Option Nat} : (pst5 s1 D j q n m k nd a1 a2 a3 g).2.2.2 x = if x = a3 then 33 else if x = a2 then 32 else if x = a1 then 31 else if x = m then 6 else s1.2.2.2 x := by
  show (itF (riF D q (D j 10) (D j 11) a1 a2 a3) n 0 (arP (pst2 s1 D j n m k nd a1 a2 a3) (D q 6) (D q 7) m g)).2.2.2 x = _
  rw [rn_k, arP_k]; rfl
theorem pstF_k {E : FE} {s1 : Sg} {D : Nat → Nat → Nat} {j q n m a1 a2 a3 g x : Nat} {k : Int32} {nd : Option Nat} (h : pstF E s1 m a1 a2 a3 D j n k nd) (hx : s1.2.2.2 x ≠ 0) : (pst5 s1 D j q n m k nd a1 a2 a3 g).2.2.2 x = s1.2.2.2 x := by
  obtain ⟨h0, h0e, h1, h1e, h2, h2e, h3, h3e⟩ := h
  obtain ⟨e1, e2, e3, e4, e5, e6, z2, z3⟩ := msB_d (show (sN s1 m 6).2.2.2 m = 6 from if_pos rfl) h1 h2 h3
  have kn : ∀ {b}, (sN s1 m 6).2.2.2 b = 0 → x ≠ b := fun {b} hb e => by
    have h9 : (if b = m then 6 else s1.2.2.2 b) = 0 := hb
    by_cases z : b = m
    · rw [if_pos z] at h9; cases h9
    · rw [if_neg z] at h9; exact hx (by rw [e]; exact h9)
  rw [pst5_k, if_neg (kn z3), if_neg (kn z2), if_neg (kn h1), if_neg (fun e => hx (by rw [e]; exact h0))]
theorem pstP_k {E : FE} {D : Nat → Nat → Nat} {x j q n y : Nat} {nd : Option Nat} {k v : Int32} {L1 : Nat → List Nat} {σ σ' : Sg} (h : pstP E D x j q n nd k L1 σ v σ') (hy : σ.2.2.2 y ≠ 0) : σ'.2.2.2 y = σ.2.2.2 y := by
  have hN := (pstN_r (σ := σ) (x := x) (j := j) (k := n) (D := D)).2.1
  rcases h with ⟨-, -, hF⟩ | ⟨-, hF, ⟨-, -, -, rfl⟩ | ⟨-, ⟨-, -, rfl⟩ | ⟨-, -, hD⟩⟩⟩
  · rw [hF.2.1]
  · rw [hN]
  · rw [hN]
  · unfold pstD at hD
    obtain ⟨m, a1, a2, a3, g, hf, -, -, -, hD⟩ := hD
    have hy1 : (pstN σ x D j n).2.2.2 y ≠ 0 := by rw [hN]; exact hy
    have e5 := pstF_k (q := q) (g := g) hf hy1
    rw [hN] at e5
    split at hD
    · obtain ⟨w, AR', d1, d2, d3, d4⟩ := hD
      have nw : y ≠ w := fun e => hy (by rw [← e5, e]; exact d1)
      have eb : ∀ s : Sg, (bsyS s m).2 = s.2 := fun s => by
        unfold bsyS
        split
        · split <;> rfl
        · rfl
      have ek : (wkS (bsyS (pst5 (pstN σ x D j n) D j q n m k nd a1 a2 a3 g) m) w ((sN (bsyS (pst5 (pstN σ x D j n) D j q n m k nd a1 a2 a3 g) m) w 5).1 60000 m 0) (some m) 0).2.2.2 y = σ.2.2.2 y := by
        rw [← e5]
        show (if y = w then 5 else (bsyS (pst5 (pstN σ x D j n) D j q n m k nd a1 a2 a3 g) m).2.2.2 y) = _
        rw [if_neg nw, eb]
      rw [d4.1 y (by rw [ek]; exact hy), ek]
    · obtain ⟨a, -, rfl⟩ := hD
      rw [← e5]
      unfold queF
      split <;> rfl
set_option maxRecDepth 20000 in
set_option maxHeartbeats 4000000 in
theorem c_od_send (l : Launch) (E : FE) (d : Nat) (σ : Sg) (D : Nat → Nat → Nat) (x a0 : Nat) (p y w : Int32) (N : Nat → Nat) (L1 L2 L3 : Nat → List Nat) (AR1 AR2 AR3 : Nat → Nat) (hd : 10 ≤ d) (hl0 : l.stackTraces = false) (hx : σ.2.2.2 x = 1) (h0 : σ.2.1 10010 x 0 = some a0) (h3 : ∀ j, j < 4 → σ.2.1 100002 a0 j = some (D j 0)) (hP : ∀ j, j < 4 → SHp σ (D j)) (hw : WF σ) (kA : Ka E D L1 L2 L3 AR1 AR2 AR3 σ) (hits : ∀ j, j < 4 → σ.1 40300 (D j 8) 0 = nI (N j) ∧ N j ≤ 4) (hown : ∀ j a, j < 4 → snF σ x (D j) y = some a → σ.1 30200 a 0 = 0 → ∃ q, q < 4 ∧ σ.1 30000 a 0 = nI q ∧ (¬ bgR σ (D q 7) (celF σ (D j 8)) = -1 → ∃ g, g < 64 ∧ bgR σ (D q 7) (celF σ (D j 8)) = nI g)) (hb20 : ∀ q, q < 4 → (L1 q).length < 128) : CT l E d 53 [vR (some x), vI p, vI y, vI w] σ 8 489 (fun r σ' => ∃ j, j < 4 ∧ p = nI j ∧ ¬ σ.1 20800 (D j 0) 0 = 0 ∧ (∃ v, r = some (vI v) ∧ osnP E D x j (N j) L1 σ y w v σ')) (oX σ D p) := by
  refine CTo ok_od_send (by decide +kernel) rfl rfl rfl ?_
  refine w_run 2 (S' := (2, [(0, vR (some x)), (1, vI p), (2, vI y), (3, vI w)], [vI p, vR (some x)], σ, 0, 0)) rfl ?_
  refine w_callV (st := []) [vI p] rfl ml_0_37 rfl rfl hx rfl rfl rfl (by simp only [RM]; omega) (by simp only [RM]; show 8 + (3 + 11) + _ ≤ _; omega) rfl (by simp only [RM]; omega) (by simp only [RM]; omega) (c_od_living l E (d - 1) σ D x a0 p (by omega) hl0 hx h0 h3 hP hw) (fun X9 s9 h9 => x_out rfl (by omega) (by omega) h9) ?_
  intro r9 s9 q9
  obtain ⟨j, hj, rfl, hal, e1, e2⟩ := q9
  rw [e1, e2]
  clear e1 e2 r9 s9
  show WG _ _ _ _ _ _ _ (5, [(0, vR (some x)), (1, vI (nI j)), (2, vI y), (3, vI w)], [vR (some (D j 0))], σ, 0 + 2, 0 + 12)
  refine w_run 4 (S' := (11, [(4, vR (some (D j 0))), (0, vR (some x)), (1, vI (nI j)), (2, vI y), (3, vI w)], [vI y, vR (some (D j 0)), vR (some x)], σ, 0 + 2, 0 + 12)) rfl ?_
  refine w_callV (st := []) [vR (some (D j 0)), vI y] rfl ml_0_101 rfl rfl hx rfl rfl rfl (by simp only [RM]; omega) (by simp only [RM]; show 8 + (3 + 11) + _ ≤ _; omega) rfl (by simp only [RM]; omega) (by simp only [RM]; omega) (c_od_strongNode l E (d - 1) σ (D j) x y (by omega) hx (hP j hj) hw) (fun _ _ h => h.elim) ?_
  intro r9 s9 q9
  rw [q9.1, q9.2]
  clear q9 r9 s9
  show WG _ _ _ _ _ _ _ (14, [(4, vR (some (D j 0))), (0, vR (some x)), (1, vI (nI j)), (2, vI y), (3, vI w)], [vR (snF σ x (D j) y)], σ, 0 + 2, 0 + 12)
  refine w_run 2 (S' := (18, [(5, vR (snF σ x (D j) y)), (4, vR (some (D j 0))), (0, vR (some x)), (1, vI (nI j)), (2, vI y), (3, vI w)], [vR (snF σ x (D j) y)], σ, 0 + 2, 0 + 12)) rfl ?_
  cases hn9 : snF σ x (D j) y with
  | none =>
    show WG _ _ _ _ _ _ _ (18, [(5, vR none), (4, vR (some (D j 0))), (0, vR (some x)), (1, vI (nI j)), (2, vI y), (3, vI w)], [vR none], σ, 0 + 2, 0 + 12)
    refine w_nonnull rfl (fun b2 c1 => (by cases c1)) (fun c1 => ?_)
    refine w_run 1 (S' := (22, [(5, vR none), (4, vR (some (D j 0))), (0, vR (some x)), (1, vI (nI j)), (2, vI y), (3, vI w)], [vI (-1)], σ, 0 + 2, 0 + 12)) rfl ?_
    exact w_iret rfl (Or.inl rfl) (by omega) (by omega) (⟨j, hj, rfl, hal, -1, rfl, by unfold osnP; rw [hn9]; exact ⟨rfl, rfl⟩⟩)
  | some a9 =>
    have ha9 : σ.2.2.2 a9 = 3 := snF_k kA.1 hn9
    show WG _ _ _ _ _ _ _ (18, [(5, vR (some a9)), (4, vR (some (D j 0))), (0, vR (some x)), (1, vI (nI j)), (2, vI y), (3, vI w)], [vR (some a9)], σ, 0 + 2, 0 + 12)
    refine w_nonnull rfl (fun b4 c3 => ?_) (fun c3 => (by cases c3))
    refine w_run 1 (S' := (25, [(5, vR (some a9)), (4, vR (some (D j 0))), (0, vR (some x)), (1, vI (nI j)), (2, vI y), (3, vI w)], [vR (some a9)], σ, 0 + 2, 0 + 12)) rfl ?_
    refine w_get (k := 3) (vI (σ.1 30200 a9 0)) rfl rfl rfl ha9 rfl rfl ?_
    refine w_if_eq rfl (fun c5 => ?_) (fun c5 => ?_)
    · obtain ⟨q, hq, hoq, hgap⟩ := hown j a9 hj hn9 c5
      refine w_run 1 (S' := (35, [(5, vR (some a9)), (4, vR (some (D j 0))), (0, vR (some x)), (1, vI (nI j)), (2, vI y), (3, vI w)], [vI w], σ, 0 + 2, 0 + 12)) rfl ?_
      refine w_if_ne rfl (fun c6 => ?_) (fun c6 => ?_)
      · refine w_run 3 (S' := (53, [(5, vR (some a9)), (4, vR (some (D j 0))), (0, vR (some x)), (1, vI (nI j)), (2, vI y), (3, vI w)], [vR (some x), vR (some (D j 0)), vR (some x)], σ, 0 + 2, 0 + 12)) rfl ?_
        refine w_get (k := 1) (vR (σ.2.1 10010 x 0)) rfl rfl rfl hx rfl rfl ?_
        refine w_run 1 (S' := (58, [(5, vR (some a9)), (4, vR (some (D j 0))), (0, vR (some x)), (1, vI (nI j)), (2, vI y), (3, vI w)], [vR (some a9), vR (σ.2.1 10010 x 0), vR (some (D j 0)), vR (some x)], σ, 0 + 2, 0 + 12)) rfl ?_
        refine w_get (k := 3) (vI (σ.1 30000 a9 0)) rfl rfl rfl ha9 rfl rfl ?_
        refine Eq.mp (congrArg (fun x9 => WG _ _ _ _ _ _ _ (61, [(5, vR (some a9)), (4, vR (some (D j 0))), (0, vR (some x)), (1, vI (nI j)), (2, vI y), (3, vI w)], [vI x9, vR (σ.2.1 10010 x 0), vR (some (D j 0)), vR (some x)], σ, 0 + 2, 0 + 12)) (hoq.symm : nI q = σ.1 30000 a9 0)) ?_
        show WG _ _ _ _ _ _ _ (61, [(5, vR (some a9)), (4, vR (some (D j 0))), (0, vR (some x)), (1, vI (nI j)), (2, vI y), (3, vI w)], [vI (nI q), vR (σ.2.1 10010 x 0), vR (some (D j 0)), vR (some x)], σ, 0 + 2, 0 + 12)
        refine w_aald (k := 10) rfl h0 (hw 10010 x 0 a0 h0 (by decide)) rfl rfl (show vp_in (nI q) 4 from (vp_in_nI hq (by decide))) ?_
        show WG _ _ _ _ _ _ _ (62, [(5, vR (some a9)), (4, vR (some (D j 0))), (0, vR (some x)), (1, vI (nI j)), (2, vI y), (3, vI w)], [vR (σ.2.1 100002 a0 (nI q).toNatClampNeg), vR (some (D j 0)), vR (some x)], σ, 0 + 2, 0 + 12)
        rw [show (nI q : Int32).toNatClampNeg = q from nI_clamp (n := q) (by omega)]
        show WG _ _ _ _ _ _ _ (62, [(5, vR (some a9)), (4, vR (some (D j 0))), (0, vR (some x)), (1, vI (nI j)), (2, vI y), (3, vI w)], [vR (σ.2.1 100002 a0 q), vR (some (D j 0)), vR (some x)], σ, 0 + 2, 0 + 12)
        refine w_run 2 (S' := (65, [(5, vR (some a9)), (4, vR (some (D j 0))), (0, vR (some x)), (1, vI (nI j)), (2, vI y), (3, vI w)], [vI w, vR (some a9), vR (σ.2.1 100002 a0 q), vR (some (D j 0)), vR (some x)], σ, 0 + 2, 0 + 12)) rfl ?_
        refine w_if_eq rfl (fun c7 => (absurd c7 c6)) (fun c7 => ?_)
        refine w_run 2 (S' := (73, [(5, vR (some a9)), (4, vR (some (D j 0))), (0, vR (some x)), (1, vI (nI j)), (2, vI y), (3, vI w)], [vI 2, vR (some a9), vR (σ.2.1 100002 a0 q), vR (some (D j 0)), vR (some x)], σ, 0 + 2, 0 + 12)) rfl ?_
        refine Eq.mp (congrArg (fun x9 => WG _ _ _ _ _ _ _ (73, [(5, vR (some a9)), (4, vR (some (D j 0))), (0, vR (some x)), (1, vI (nI j)), (2, vI y), (3, vI w)], [vI 2, vR (some a9), vR x9, vR (some (D j 0)), vR (some x)], σ, 0 + 2, 0 + 12)) (Eq.symm (h3 q hq) : some (D q 0) = σ.2.1 100002 a0 q)) ?_
        show WG _ _ _ _ _ _ _ (73, [(5, vR (some a9)), (4, vR (some (D j 0))), (0, vR (some x)), (1, vI (nI j)), (2, vI y), (3, vI w)], [vI 2, vR (some a9), vR (some (D q 0)), vR (some (D j 0)), vR (some x)], σ, 0 + 2, 0 + 12)
        refine w_callV (st := []) [vR (some (D j 0)), vR (some (D q 0)), vR (some a9), vI 2] rfl ml_0_111 rfl rfl hx rfl rfl rfl (by simp only [RM]; omega) (by simp only [RM]; show 8 + (8 + 11) + _ ≤ _; omega) rfl (by simp only [RM]; omega) (by simp only [RM]; omega) (c_od_post l E (d - 1) σ D x j q (N j) (some a9) 2 L1 L2 L3 AR1 AR2 AR3 (by omega) hx hj hq kA (hits j hj).2 (hits j hj).1 (fun b hb => by cases hb; exact ha9) (hb20 q hq) hgap) (fun _ _ h => h.elim) ?_
        intro r9 s9 q9
        obtain ⟨v9, e1, hpp, -⟩ := q9
        subst e1
        have hk9 : s9.2.2.2 (D j 0) = 2 := (pstP_k hpp (by rw [(hP j hj).1]; decide)).trans (hP j hj).1
        show WG _ _ _ _ _ _ _ (76, [(5, vR (some a9)), (4, vR (some (D j 0))), (0, vR (some x)), (1, vI (nI j)), (2, vI y), (3, vI w)], [vI v9], s9, 0 + 2 + 6, 0 + 12 + 477)
        refine w_run 2 (S' := (80, [(6, vI v9), (5, vR (some a9)), (4, vR (some (D j 0))), (0, vR (some x)), (1, vI (nI j)), (2, vI y), (3, vI w)], [vI v9], s9, 0 + 2 + 6, 0 + 12 + 477)) rfl ?_
        refine w_if_ne rfl (fun c8 => ?_) (fun c8 => ?_)
        · refine w_run 1 (S' := (95, [(6, vI v9), (5, vR (some a9)), (4, vR (some (D j 0))), (0, vR (some x)), (1, vI (nI j)), (2, vI y), (3, vI w)], [vI v9], s9, 0 + 2 + 6, 0 + 12 + 477)) rfl ?_
          exact w_iret rfl (Or.inl rfl) (by omega) (by omega) (⟨j, hj, rfl, hal, v9, rfl, by unfold osnP; rw [hn9]; dsimp only; rw [if_neg (not_not_intro c5), if_neg (fun z => c6 z.1)]; exact ⟨q, s9, hq, hoq, (by rw [if_neg c6]; exact hpp), (if_neg (fun z => c8 z.1)).symm⟩⟩)
        · refine w_run 1 (S' := (84, [(6, vI v9), (5, vR (some a9)), (4, vR (some (D j 0))), (0, vR (some x)), (1, vI (nI j)), (2, vI y), (3, vI w)], [vI w], s9, 0 + 2 + 6, 0 + 12 + 477)) rfl ?_
          refine w_if_ne rfl (fun c9 => ?_) (fun c9 => (absurd c9 c7))
          refine w_run 1 (S' := (95, [(6, vI v9), (5, vR (some a9)), (4, vR (some (D j 0))), (0, vR (some x)), (1, vI (nI j)), (2, vI y), (3, vI w)], [vI v9], s9, 0 + 2 + 6, 0 + 12 + 477)) rfl ?_
          exact w_iret rfl (Or.inl rfl) (by omega) (by omega) (⟨j, hj, rfl, hal, v9, rfl, by unfold osnP; rw [hn9]; dsimp only; rw [if_neg (not_not_intro c5), if_neg (fun z => c6 z.1)]; exact ⟨q, s9, hq, hoq, (by rw [if_neg c6]; exact hpp), (if_neg (fun z => c6 z.2)).symm⟩⟩)
      · refine w_run 1 (S' := (40, [(5, vR (some a9)), (4, vR (some (D j 0))), (0, vR (some x)), (1, vI (nI j)), (2, vI y), (3, vI w)], [vR (some (D j 0))], σ, 0 + 2, 0 + 12)) rfl ?_
        refine w_get (k := 2) (vI (σ.1 21000 (D j 0) 0)) rfl rfl rfl ((hP j hj).1) rfl rfl ?_
        refine w_if_eq rfl (fun c10 => ?_) (fun c10 => ?_)
        · refine w_run 3 (S' := (53, [(5, vR (some a9)), (4, vR (some (D j 0))), (0, vR (some x)), (1, vI (nI j)), (2, vI y), (3, vI w)], [vR (some x), vR (some (D j 0)), vR (some x)], σ, 0 + 2, 0 + 12)) rfl ?_
          refine w_get (k := 1) (vR (σ.2.1 10010 x 0)) rfl rfl rfl hx rfl rfl ?_
          refine w_run 1 (S' := (58, [(5, vR (some a9)), (4, vR (some (D j 0))), (0, vR (some x)), (1, vI (nI j)), (2, vI y), (3, vI w)], [vR (some a9), vR (σ.2.1 10010 x 0), vR (some (D j 0)), vR (some x)], σ, 0 + 2, 0 + 12)) rfl ?_
          refine w_get (k := 3) (vI (σ.1 30000 a9 0)) rfl rfl rfl ha9 rfl rfl ?_
          refine Eq.mp (congrArg (fun x9 => WG _ _ _ _ _ _ _ (61, [(5, vR (some a9)), (4, vR (some (D j 0))), (0, vR (some x)), (1, vI (nI j)), (2, vI y), (3, vI w)], [vI x9, vR (σ.2.1 10010 x 0), vR (some (D j 0)), vR (some x)], σ, 0 + 2, 0 + 12)) (hoq.symm : nI q = σ.1 30000 a9 0)) ?_
          show WG _ _ _ _ _ _ _ (61, [(5, vR (some a9)), (4, vR (some (D j 0))), (0, vR (some x)), (1, vI (nI j)), (2, vI y), (3, vI w)], [vI (nI q), vR (σ.2.1 10010 x 0), vR (some (D j 0)), vR (some x)], σ, 0 + 2, 0 + 12)
          refine w_aald (k := 10) rfl h0 (hw 10010 x 0 a0 h0 (by decide)) rfl rfl (show vp_in (nI q) 4 from (vp_in_nI hq (by decide))) ?_
          show WG _ _ _ _ _ _ _ (62, [(5, vR (some a9)), (4, vR (some (D j 0))), (0, vR (some x)), (1, vI (nI j)), (2, vI y), (3, vI w)], [vR (σ.2.1 100002 a0 (nI q).toNatClampNeg), vR (some (D j 0)), vR (some x)], σ, 0 + 2, 0 + 12)
          rw [show (nI q : Int32).toNatClampNeg = q from nI_clamp (n := q) (by omega)]
          show WG _ _ _ _ _ _ _ (62, [(5, vR (some a9)), (4, vR (some (D j 0))), (0, vR (some x)), (1, vI (nI j)), (2, vI y), (3, vI w)], [vR (σ.2.1 100002 a0 q), vR (some (D j 0)), vR (some x)], σ, 0 + 2, 0 + 12)
          refine w_run 2 (S' := (65, [(5, vR (some a9)), (4, vR (some (D j 0))), (0, vR (some x)), (1, vI (nI j)), (2, vI y), (3, vI w)], [vI w, vR (some a9), vR (σ.2.1 100002 a0 q), vR (some (D j 0)), vR (some x)], σ, 0 + 2, 0 + 12)) rfl ?_
          refine w_if_eq rfl (fun c11 => ?_) (fun c11 => (absurd c6 c11))
          refine w_run 1 (S' := (73, [(5, vR (some a9)), (4, vR (some (D j 0))), (0, vR (some x)), (1, vI (nI j)), (2, vI y), (3, vI w)], [vI 1, vR (some a9), vR (σ.2.1 100002 a0 q), vR (some (D j 0)), vR (some x)], σ, 0 + 2, 0 + 12)) rfl ?_
          refine Eq.mp (congrArg (fun x9 => WG _ _ _ _ _ _ _ (73, [(5, vR (some a9)), (4, vR (some (D j 0))), (0, vR (some x)), (1, vI (nI j)), (2, vI y), (3, vI w)], [vI 1, vR (some a9), vR x9, vR (some (D j 0)), vR (some x)], σ, 0 + 2, 0 + 12)) (Eq.symm (h3 q hq) : some (D q 0) = σ.2.1 100002 a0 q)) ?_
          show WG _ _ _ _ _ _ _ (73, [(5, vR (some a9)), (4, vR (some (D j 0))), (0, vR (some x)), (1, vI (nI j)), (2, vI y), (3, vI w)], [vI 1, vR (some a9), vR (some (D q 0)), vR (some (D j 0)), vR (some x)], σ, 0 + 2, 0 + 12)
          refine w_callV (st := []) [vR (some (D j 0)), vR (some (D q 0)), vR (some a9), vI 1] rfl ml_0_111 rfl rfl hx rfl rfl rfl (by simp only [RM]; omega) (by simp only [RM]; show 8 + (8 + 11) + _ ≤ _; omega) rfl (by simp only [RM]; omega) (by simp only [RM]; omega) (c_od_post l E (d - 1) σ D x j q (N j) (some a9) 1 L1 L2 L3 AR1 AR2 AR3 (by omega) hx hj hq kA (hits j hj).2 (hits j hj).1 (fun b hb => by cases hb; exact ha9) (hb20 q hq) hgap) (fun _ _ h => h.elim) ?_
          intro r9 s9 q9
          obtain ⟨v9, e1, hpp, -⟩ := q9
          subst e1
          have hk9 : s9.2.2.2 (D j 0) = 2 := (pstP_k hpp (by rw [(hP j hj).1]; decide)).trans (hP j hj).1
          show WG _ _ _ _ _ _ _ (76, [(5, vR (some a9)), (4, vR (some (D j 0))), (0, vR (some x)), (1, vI (nI j)), (2, vI y), (3, vI w)], [vI v9], s9, 0 + 2 + 6, 0 + 12 + 477)
          refine w_run 2 (S' := (80, [(6, vI v9), (5, vR (some a9)), (4, vR (some (D j 0))), (0, vR (some x)), (1, vI (nI j)), (2, vI y), (3, vI w)], [vI v9], s9, 0 + 2 + 6, 0 + 12 + 477)) rfl ?_
          refine w_if_ne rfl (fun c12 => ?_) (fun c12 => ?_)
          · refine w_run 1 (S' := (95, [(6, vI v9), (5, vR (some a9)), (4, vR (some (D j 0))), (0, vR (some x)), (1, vI (nI j)), (2, vI y), (3, vI w)], [vI v9], s9, 0 + 2 + 6, 0 + 12 + 477)) rfl ?_
            exact w_iret rfl (Or.inl rfl) (by omega) (by omega) (⟨j, hj, rfl, hal, v9, rfl, by unfold osnP; rw [hn9]; dsimp only; rw [if_neg (not_not_intro c5), if_neg (fun z => z.2 c10)]; exact ⟨q, s9, hq, hoq, (by rw [if_pos c6]; exact hpp), (if_neg (fun z => c12 z.1)).symm⟩⟩)
          · refine w_run 1 (S' := (84, [(6, vI v9), (5, vR (some a9)), (4, vR (some (D j 0))), (0, vR (some x)), (1, vI (nI j)), (2, vI y), (3, vI w)], [vI w], s9, 0 + 2 + 6, 0 + 12 + 477)) rfl ?_
            refine w_if_ne rfl (fun c13 => (absurd c11 c13)) (fun c13 => ?_)
            refine w_run 2 (S' := (90, [(6, vI v9), (5, vR (some a9)), (4, vR (some (D j 0))), (0, vR (some x)), (1, vI (nI j)), (2, vI y), (3, vI w)], [vI 1, vR (some (D j 0))], s9, 0 + 2 + 6, 0 + 12 + 477)) rfl ?_
            refine w_puti (k := 2) rfl rfl rfl hk9 rfl rfl (Or.inr ⟨rfl, Or.inr rfl⟩) (Or.inl rfl) ?_
            show WG _ _ _ _ _ _ _ (93, [(6, vI v9), (5, vR (some a9)), (4, vR (some (D j 0))), (0, vR (some x)), (1, vI (nI j)), (2, vI y), (3, vI w)], [], sI s9 21000 (D j 0) 0 1, 0 + 2 + 6, 0 + 12 + 477)
            refine w_run 1 (S' := (95, [(6, vI v9), (5, vR (some a9)), (4, vR (some (D j 0))), (0, vR (some x)), (1, vI (nI j)), (2, vI y), (3, vI w)], [vI v9], sI s9 21000 (D j 0) 0 1, 0 + 2 + 6, 0 + 12 + 477)) rfl ?_
            exact w_iret rfl (Or.inl rfl) (by omega) (by omega) (⟨j, hj, rfl, hal, v9, rfl, by unfold osnP; rw [hn9]; dsimp only; rw [if_neg (not_not_intro c5), if_neg (fun z => z.2 c10)]; exact ⟨q, s9, hq, hoq, (by rw [if_pos c6]; exact hpp), (if_pos ⟨c12, c6⟩).symm⟩⟩)
        · refine w_run 1 (S' := (48, [(5, vR (some a9)), (4, vR (some (D j 0))), (0, vR (some x)), (1, vI (nI j)), (2, vI y), (3, vI w)], [vI (-5)], σ, 0 + 2, 0 + 12)) rfl ?_
          exact w_iret rfl (Or.inl rfl) (by omega) (by omega) (⟨j, hj, rfl, hal, -5, rfl, by unfold osnP; rw [hn9]; dsimp only; rw [if_neg (not_not_intro c5), if_pos ⟨c6, c10⟩]; exact ⟨rfl, rfl⟩⟩)
    · refine w_run 1 (S' := (33, [(5, vR (some a9)), (4, vR (some (D j 0))), (0, vR (some x)), (1, vI (nI j)), (2, vI y), (3, vI w)], [vI (-2)], σ, 0 + 2, 0 + 12)) rfl ?_
      exact w_iret rfl (Or.inl rfl) (by omega) (by omega) (⟨j, hj, rfl, hal, -2, rfl, by unfold osnP; rw [hn9]; dsimp only; rw [if_pos c5]; exact ⟨rfl, rfl⟩⟩)

