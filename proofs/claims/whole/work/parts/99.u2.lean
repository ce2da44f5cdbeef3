/-! latest, read -/
def nX (σ : Sg) (D : Nat → Nat → Nat) (p : Int32) (no : Nat → Prop) : String → Sg → Prop := fun X σ' => oX σ D p X σ' ∨ (X = "java/util/NoSuchElementException" ∧ σ' = σ ∧ ∃ j, j < 4 ∧ p = nI j ∧ ¬ σ.1 20800 (D j 0) 0 = 0 ∧ no j)
theorem olt_no {σ : Sg} {a : Nat} {y : Int32} (h0 : ¬ y = 0) (h1 : ¬ y = 1) (h2 : ¬ y = 2) (h3 : ¬ y = 3) (h4 : ¬ y = 4) : oltF σ a y = none := by
  unfold oltF
  by_cases c1 : y < 0
  · rw [if_pos c1]
  · rw [if_neg c1]
    by_cases c2 : 4 < y
    · rw [if_pos c2]
    · obtain ⟨k, k1, k2, rfl⟩ := i_rng c1 c2 (by decide)
      have e4 : (4 : Int32).toInt = 4 := rfl
      have e0 : (0 : Int32).toInt = 0 := rfl
      have : k = 0 ∨ k = 1 ∨ k = 2 ∨ k = 3 ∨ k = 4 := by omega
      rcases this with rfl | rfl | rfl | rfl | rfl
      · exact absurd rfl h0
      · exact absurd rfl h1
      · exact absurd rfl h2
      · exact absurd rfl h3
      · exact absurd rfl h4
set_option maxHeartbeats 4000000 in
theorem c_od_latest (l : Launch) (E : FE) (d : Nat) (σ : Sg) (D : Nat → Nat → Nat) (x a0 : Nat) (p y : Int32) (hd : 8 ≤ d) (hl0 : l.stackTraces = false) (hx : σ.2.2.2 x = 1) (h0 : σ.2.1 10010 x 0 = some a0) (h3 : ∀ j, j < 4 → σ.2.1 100002 a0 j = some (D j 0)) (hP : ∀ j, j < 4 → SHp σ (D j)) (hw : WF σ) : CT l E d 55 [vR (some x), vI p, vI y] σ 3 18 (fun r σ' => ∃ j, j < 4 ∧ p = nI j ∧ ¬ σ.1 20800 (D j 0) 0 = 0 ∧ (∃ v, r = some (vI v) ∧ oltF σ (D j 0) y = some v ∧ σ' = σ)) (nX σ D p (fun j => oltF σ (D j 0) y = none)) := by
  refine CTo ok_od_latest (by decide +kernel) rfl rfl rfl ?_
  refine w_run 2 (S' := (2, [(0, vR (some x)), (1, vI p), (2, vI y)], [vI p, vR (some x)], σ, 0, 0)) rfl ?_
  refine w_callV (st := []) [vI p] rfl ml_0_37 rfl rfl hx rfl rfl rfl (by simp only [RM]; omega) (by simp only [RM]; show 8 + (3 + 11) + _ ≤ _; omega) rfl (by simp only [RM]; omega) (by simp only [RM]; omega) (c_od_living l E (d - 1) σ D x a0 p (by omega) hl0 hx h0 h3 hP hw) (fun X9 s9 h9 => x_out rfl (by omega) (by omega) (Or.inl h9)) ?_
  intro r9 s9 q9
  obtain ⟨j, hj, rfl, hal, e1, e2⟩ := q9
  rw [e1, e2]
  clear e1 e2 r9 s9
  show WG _ _ _ _ _ _ _ (5, [(0, vR (some x)), (1, vI (nI j)), (2, vI y)], [vR (some (D j 0))], σ, 0 + 2, 0 + 12)
  refine w_get (k := 2) (vR (σ.2.1 21105 (D j 0) 0)) rfl rfl rfl ((hP j hj).1) rfl rfl ?_
  refine w_run 2 (S' := (10, [(3, vR (σ.2.1 21105 (D j 0) 0)), (0, vR (some x)), (1, vI (nI j)), (2, vI y)], [vI y], σ, 0 + 2, 0 + 12)) rfl ?_
  by_cases c1 : y = 0
  · subst c1
    show WG _ _ _ _ _ _ _ (10, [(3, vR (σ.2.1 21105 (D j 0) 0)), (0, vR (some x)), (1, vI (nI j)), (2, vI 0)], [vI 0], σ, 0 + 2, 0 + 12)
    refine w_tsIn rfl (by decide) (by decide) rfl rfl ?_
    refine w_run 1 (S' := (45, [(3, vR (σ.2.1 21105 (D j 0) 0)), (0, vR (some x)), (1, vI (nI j)), (2, vI 0)], [vR (σ.2.1 21105 (D j 0) 0)], σ, 0 + 2, 0 + 12)) rfl ?_
    refine w_nonnull rfl (fun b3 c2 => ?_) (fun c2 => ?_)
    · refine w_run 1 (S' := (53, [(3, vR (σ.2.1 21105 (D j 0) 0)), (0, vR (some x)), (1, vI (nI j)), (2, vI 0)], [vR (σ.2.1 21105 (D j 0) 0)], σ, 0 + 2, 0 + 12)) rfl ?_
      refine w_get (k := 5) (vI (σ.1 50000 b3 0)) rfl rfl c2 (hw 21105 (D j 0) 0 b3 c2 (by decide)) rfl rfl ?_
      exact w_iret rfl (Or.inl rfl) (by omega) (by omega) (⟨j, hj, rfl, hal, _, rfl, by unfold oltF; rw [if_neg (by decide), if_neg (by decide), show (0 : Int32).toNatClampNeg = 0 from by decide]; unfold ltF; simp only [c2]; rfl, rfl⟩)
    · refine w_run 2 (S' := (56, [(3, vR (σ.2.1 21105 (D j 0) 0)), (0, vR (some x)), (1, vI (nI j)), (2, vI 0)], [vI 0], σ, 0 + 2, 0 + 12)) rfl ?_
      exact w_iret rfl (Or.inl rfl) (by omega) (by omega) (⟨j, hj, rfl, hal, _, rfl, by unfold oltF; rw [if_neg (by decide), if_neg (by decide), show (0 : Int32).toNatClampNeg = 0 from by decide]; unfold ltF; simp only [c2]; rfl, rfl⟩)
  by_cases c4 : y = 1
  · subst c4
    show WG _ _ _ _ _ _ _ (10, [(3, vR (σ.2.1 21105 (D j 0) 0)), (0, vR (some x)), (1, vI (nI j)), (2, vI 1)], [vI 1], σ, 0 + 2, 0 + 12)
    refine w_tsIn rfl (by decide) (by decide) rfl rfl ?_
    refine w_run 1 (S' := (58, [(3, vR (σ.2.1 21105 (D j 0) 0)), (0, vR (some x)), (1, vI (nI j)), (2, vI 1)], [vR (σ.2.1 21105 (D j 0) 0)], σ, 0 + 2, 0 + 12)) rfl ?_
    refine w_nonnull rfl (fun b6 c5 => ?_) (fun c5 => ?_)
    · refine w_run 1 (S' := (66, [(3, vR (σ.2.1 21105 (D j 0) 0)), (0, vR (some x)), (1, vI (nI j)), (2, vI 1)], [vR (σ.2.1 21105 (D j 0) 0)], σ, 0 + 2, 0 + 12)) rfl ?_
      refine Eq.mp (congrArg (fun x9 => WG _ _ _ _ _ _ _ (66, [(3, vR (σ.2.1 21105 (D j 0) 0)), (0, vR (some x)), (1, vI (nI j)), (2, vI 1)], [vR x9], σ, 0 + 2, 0 + 12)) (Eq.symm c5 : some b6 = σ.2.1 21105 (D j 0) 0)) ?_
      show WG _ _ _ _ _ _ _ (66, [(3, vR (σ.2.1 21105 (D j 0) 0)), (0, vR (some x)), (1, vI (nI j)), (2, vI 1)], [vR (some b6)], σ, 0 + 2, 0 + 12)
      refine w_callV (st := []) [] rfl ml_0_144 rfl rfl (hw 21105 (D j 0) 0 b6 c5 (by decide)) rfl rfl rfl (by simp only [RM]; omega) (by simp only [RM]; show 8 + (1 + 11) + _ ≤ _; omega) rfl (by simp only [RM]; omega) (by simp only [RM]; omega) (c_wk_nodeKey l E (d - 1) σ b6 (hw 21105 (D j 0) 0 b6 c5 (by decide)) hw) (fun _ _ h => h.elim) ?_
      intro r9 s9 q9
      rw [q9.1, q9.2]
      clear q9 r9 s9
      show WG _ _ _ _ _ _ _ (69, [(3, vR (σ.2.1 21105 (D j 0) 0)), (0, vR (some x)), (1, vI (nI j)), (2, vI 1)], [vI (nkF σ b6)], σ, 0 + 2, 0 + 12)
      exact w_iret rfl (Or.inl rfl) (by omega) (by omega) (⟨j, hj, rfl, hal, _, rfl, by unfold oltF; rw [if_neg (by decide), if_neg (by decide), show (1 : Int32).toNatClampNeg = 1 from by decide]; unfold ltF; simp only [c5]; rfl, rfl⟩)
    · refine w_run 2 (S' := (69, [(3, vR (σ.2.1 21105 (D j 0) 0)), (0, vR (some x)), (1, vI (nI j)), (2, vI 1)], [vI (-1)], σ, 0 + 2, 0 + 12)) rfl ?_
      exact w_iret rfl (Or.inl rfl) (by omega) (by omega) (⟨j, hj, rfl, hal, _, rfl, by unfold oltF; rw [if_neg (by decide), if_neg (by decide), show (1 : Int32).toNatClampNeg = 1 from by decide]; unfold ltF; simp only [c5]; rfl, rfl⟩)
  by_cases c7 : y = 2
  · subst c7
    show WG _ _ _ _ _ _ _ (10, [(3, vR (σ.2.1 21105 (D j 0) 0)), (0, vR (some x)), (1, vI (nI j)), (2, vI 2)], [vI 2], σ, 0 + 2, 0 + 12)
    refine w_tsIn rfl (by decide) (by decide) rfl rfl ?_
    refine w_run 1 (S' := (71, [(3, vR (σ.2.1 21105 (D j 0) 0)), (0, vR (some x)), (1, vI (nI j)), (2, vI 2)], [vR (σ.2.1 21105 (D j 0) 0)], σ, 0 + 2, 0 + 12)) rfl ?_
    refine w_null rfl (fun c8 => ?_) (fun b9 c8 => ?_)
    · refine w_run 2 (S' := (92, [(3, vR (σ.2.1 21105 (D j 0) 0)), (0, vR (some x)), (1, vI (nI j)), (2, vI 2)], [vI (-1)], σ, 0 + 2, 0 + 12)) rfl ?_
      exact w_iret rfl (Or.inl rfl) (by omega) (by omega) (⟨j, hj, rfl, hal, _, rfl, by unfold oltF; rw [if_neg (by decide), if_neg (by decide), show (2 : Int32).toNatClampNeg = 2 from by decide]; unfold ltF; simp only [c8]; rfl, rfl⟩)
    · refine w_run 1 (S' := (75, [(3, vR (σ.2.1 21105 (D j 0) 0)), (0, vR (some x)), (1, vI (nI j)), (2, vI 2)], [vR (σ.2.1 21105 (D j 0) 0)], σ, 0 + 2, 0 + 12)) rfl ?_
      refine w_get (k := 5) (vR (σ.2.1 50106 b9 0)) rfl rfl c8 (hw 21105 (D j 0) 0 b9 c8 (by decide)) rfl rfl ?_
      refine w_nonnull rfl (fun b11 c10 => ?_) (fun c10 => ?_)
      · refine w_run 1 (S' := (86, [(3, vR (σ.2.1 21105 (D j 0) 0)), (0, vR (some x)), (1, vI (nI j)), (2, vI 2)], [vR (σ.2.1 21105 (D j 0) 0)], σ, 0 + 2, 0 + 12)) rfl ?_
        refine w_get (k := 5) (vR (σ.2.1 50106 b9 0)) rfl rfl c8 (hw 21105 (D j 0) 0 b9 c8 (by decide)) rfl rfl ?_
        refine w_get (k := 6) (vI (σ.1 60900 b11 0)) rfl rfl c10 (hw 50106 b9 0 b11 c10 (by decide)) rfl rfl ?_
        exact w_iret rfl (Or.inl rfl) (by omega) (by omega) (⟨j, hj, rfl, hal, _, rfl, by unfold oltF; rw [if_neg (by decide), if_neg (by decide), show (2 : Int32).toNatClampNeg = 2 from by decide]; unfold ltF; simp only [c8, c10]; rfl, rfl⟩)
      · refine w_run 2 (S' := (92, [(3, vR (σ.2.1 21105 (D j 0) 0)), (0, vR (some x)), (1, vI (nI j)), (2, vI 2)], [vI (-1)], σ, 0 + 2, 0 + 12)) rfl ?_
        exact w_iret rfl (Or.inl rfl) (by omega) (by omega) (⟨j, hj, rfl, hal, _, rfl, by unfold oltF; rw [if_neg (by decide), if_neg (by decide), show (2 : Int32).toNatClampNeg = 2 from by decide]; unfold ltF; simp only [c8, c10]; rfl, rfl⟩)
  by_cases c12 : y = 3
  · subst c12
    show WG _ _ _ _ _ _ _ (10, [(3, vR (σ.2.1 21105 (D j 0) 0)), (0, vR (some x)), (1, vI (nI j)), (2, vI 3)], [vI 3], σ, 0 + 2, 0 + 12)
    refine w_tsIn rfl (by decide) (by decide) rfl rfl ?_
    refine w_run 1 (S' := (94, [(3, vR (σ.2.1 21105 (D j 0) 0)), (0, vR (some x)), (1, vI (nI j)), (2, vI 3)], [vR (σ.2.1 21105 (D j 0) 0)], σ, 0 + 2, 0 + 12)) rfl ?_
    refine w_null rfl (fun c13 => ?_) (fun b14 c13 => ?_)
    · refine w_run 2 (S' := (115, [(3, vR (σ.2.1 21105 (D j 0) 0)), (0, vR (some x)), (1, vI (nI j)), (2, vI 3)], [vI (-1)], σ, 0 + 2, 0 + 12)) rfl ?_
      exact w_iret rfl (Or.inl rfl) (by omega) (by omega) (⟨j, hj, rfl, hal, _, rfl, by unfold oltF; rw [if_neg (by decide), if_neg (by decide), show (3 : Int32).toNatClampNeg = 3 from by decide]; unfold ltF; simp only [c13]; rfl, rfl⟩)
    · refine w_run 1 (S' := (98, [(3, vR (σ.2.1 21105 (D j 0) 0)), (0, vR (some x)), (1, vI (nI j)), (2, vI 3)], [vR (σ.2.1 21105 (D j 0) 0)], σ, 0 + 2, 0 + 12)) rfl ?_
      refine w_get (k := 5) (vR (σ.2.1 50106 b14 0)) rfl rfl c13 (hw 21105 (D j 0) 0 b14 c13 (by decide)) rfl rfl ?_
      refine w_nonnull rfl (fun b16 c15 => ?_) (fun c15 => ?_)
      · refine w_run 1 (S' := (109, [(3, vR (σ.2.1 21105 (D j 0) 0)), (0, vR (some x)), (1, vI (nI j)), (2, vI 3)], [vR (σ.2.1 21105 (D j 0) 0)], σ, 0 + 2, 0 + 12)) rfl ?_
        refine w_get (k := 5) (vR (σ.2.1 50106 b14 0)) rfl rfl c13 (hw 21105 (D j 0) 0 b14 c13 (by decide)) rfl rfl ?_
        refine w_get (k := 6) (vI (σ.1 60100 b16 0)) rfl rfl c15 (hw 50106 b14 0 b16 c15 (by decide)) rfl rfl ?_
        exact w_iret rfl (Or.inl rfl) (by omega) (by omega) (⟨j, hj, rfl, hal, _, rfl, by unfold oltF; rw [if_neg (by decide), if_neg (by decide), show (3 : Int32).toNatClampNeg = 3 from by decide]; unfold ltF; simp only [c13, c15]; rfl, rfl⟩)
      · refine w_run 2 (S' := (115, [(3, vR (σ.2.1 21105 (D j 0) 0)), (0, vR (some x)), (1, vI (nI j)), (2, vI 3)], [vI (-1)], σ, 0 + 2, 0 + 12)) rfl ?_
        exact w_iret rfl (Or.inl rfl) (by omega) (by omega) (⟨j, hj, rfl, hal, _, rfl, by unfold oltF; rw [if_neg (by decide), if_neg (by decide), show (3 : Int32).toNatClampNeg = 3 from by decide]; unfold ltF; simp only [c13, c15]; rfl, rfl⟩)
  by_cases c17 : y = 4
  · subst c17
    show WG _ _ _ _ _ _ _ (10, [(3, vR (σ.2.1 21105 (D j 0) 0)), (0, vR (some x)), (1, vI (nI j)), (2, vI 4)], [vI 4], σ, 0 + 2, 0 + 12)
    refine w_tsIn rfl (by decide) (by decide) rfl rfl ?_
    refine w_run 1 (S' := (117, [(3, vR (σ.2.1 21105 (D j 0) 0)), (0, vR (some x)), (1, vI (nI j)), (2, vI 4)], [vR (σ.2.1 21105 (D j 0) 0)], σ, 0 + 2, 0 + 12)) rfl ?_
    refine w_nonnull rfl (fun b19 c18 => ?_) (fun c18 => ?_)
    · refine w_run 1 (S' := (125, [(3, vR (σ.2.1 21105 (D j 0) 0)), (0, vR (some x)), (1, vI (nI j)), (2, vI 4)], [vR (σ.2.1 21105 (D j 0) 0)], σ, 0 + 2, 0 + 12)) rfl ?_
      refine w_get (k := 5) (vI (σ.1 50200 b19 0)) rfl rfl c18 (hw 21105 (D j 0) 0 b19 c18 (by decide)) rfl rfl ?_
      exact w_iret rfl (Or.inl rfl) (by omega) (by omega) (⟨j, hj, rfl, hal, _, rfl, by unfold oltF; rw [if_neg (by decide), if_neg (by decide), show (4 : Int32).toNatClampNeg = 4 from by decide]; unfold ltF; simp only [c18]; rfl, rfl⟩)
    · refine w_run 2 (S' := (128, [(3, vR (σ.2.1 21105 (D j 0) 0)), (0, vR (some x)), (1, vI (nI j)), (2, vI 4)], [vI 0], σ, 0 + 2, 0 + 12)) rfl ?_
      exact w_iret rfl (Or.inl rfl) (by omega) (by omega) (⟨j, hj, rfl, hal, _, rfl, by unfold oltF; rw [if_neg (by decide), if_neg (by decide), show (4 : Int32).toNatClampNeg = 4 from by decide]; unfold ltF; simp only [c18]; rfl, rfl⟩)
  · have tc1 : y.toInt ≠ 0 := fun e9 => c1 (Int32.toInt_inj.mp e9)
    have tc4 : y.toInt ≠ 1 := fun e9 => c4 (Int32.toInt_inj.mp e9)
    have tc7 : y.toInt ≠ 2 := fun e9 => c7 (Int32.toInt_inj.mp e9)
    have tc12 : y.toInt ≠ 3 := fun e9 => c12 (Int32.toInt_inj.mp e9)
    have tc17 : y.toInt ≠ 4 := fun e9 => c17 (Int32.toInt_inj.mp e9)
    refine w_tsOut rfl (by omega) rfl ?_
    exact w_throwX (text := "no such part of a work") hl0 rfl rfl rfl rfl rfl ts_NS (by decide) rfl rfl (by omega) (by omega) (by omega) (Or.inr ⟨rfl, rfl, j, hj, rfl, hal, olt_no c1 c4 c7 c12 c17⟩)

theorem in_it {z : Int32} {it : Nat} (hi : it ≤ 4) (h1 : ¬ z < 0) (h2 : z < nI it) : vp_in z it := by
  obtain ⟨k, hk, rfl⟩ := nI_of h1
  exact vp_in_nI ((nI_ltI hk (by omega)).mp h2) (by omega)
set_option maxHeartbeats 4000000 in
theorem c_od_read (l : Launch) (E : FE) (d : Nat) (σ : Sg) (D : Nat → Nat → Nat) (x a0 : Nat) (p y z w : Int32) (hd : 8 ≤ d) (hl0 : l.stackTraces = false) (hx : σ.2.2.2 x = 1) (h0 : σ.2.1 10010 x 0 = some a0) (h3 : ∀ j, j < 4 → σ.2.1 100002 a0 j = some (D j 0)) (hP : ∀ j, j < 4 → SHp σ (D j)) (hw : WF σ) (hM : ∀ j, j < 4 → ∀ c m, c < 64 → σ.2.1 150006 (D j 7) c = some m → ∃ it a1 a2, σ.1 60500 m 0 = nI it ∧ it ≤ 4 ∧ σ.2.1 60631 m 0 = some a1 ∧ σ.2.1 60732 m 0 = some a2 ∧ σ.1 319900 a1 0 = nI it ∧ σ.1 329900 a2 0 = nI it) : CT l E d 58 [vR (some x), vI p, vI y, vI z, vI w] σ 3 18 (fun r σ' => ∃ j, j < 4 ∧ p = nI j ∧ ¬ σ.1 20800 (D j 0) 0 = 0 ∧ (∃ v, r = some (vI v) ∧ ordF σ (D j 7) y z w = some v ∧ σ' = σ)) (nX σ D p (fun j => ordF σ (D j 7) y z w = none)) := by
  refine CTo ok_od_read (by decide +kernel) rfl rfl rfl ?_
  refine w_run 2 (S' := (2, [(0, vR (some x)), (1, vI p), (2, vI y), (3, vI z), (4, vI w)], [vI p, vR (some x)], σ, 0, 0)) rfl ?_
  refine w_callV (st := []) [vI p] rfl ml_0_37 rfl rfl hx rfl rfl rfl (by simp only [RM]; omega) (by simp only [RM]; show 8 + (3 + 11) + _ ≤ _; omega) rfl (by simp only [RM]; omega) (by simp only [RM]; omega) (c_od_living l E (d - 1) σ D x a0 p (by omega) hl0 hx h0 h3 hP hw) (fun X9 s9 h9 => x_out rfl (by omega) (by omega) (Or.inl h9)) ?_
  intro r9 s9 q9
  obtain ⟨j, hj, rfl, hal, e1, e2⟩ := q9
  rw [e1, e2]
  clear e1 e2 r9 s9
  show WG _ _ _ _ _ _ _ (5, [(0, vR (some x)), (1, vI (nI j)), (2, vI y), (3, vI z), (4, vI w)], [vR (some (D j 0))], σ, 0 + 2, 0 + 12)
  refine w_get (k := 2) (vR (σ.2.1 20309 (D j 0) 0)) rfl rfl rfl ((hP j hj).1) rfl rfl ?_
  refine w_run 1 (S' := (9, [(0, vR (some x)), (1, vI (nI j)), (2, vI y), (3, vI z), (4, vI w)], [vI y, vR (σ.2.1 20309 (D j 0) 0)], σ, 0 + 2, 0 + 12)) rfl ?_
  refine Eq.mp (congrArg (fun x9 => WG _ _ _ _ _ _ _ (9, [(0, vR (some x)), (1, vI (nI j)), (2, vI y), (3, vI z), (4, vI w)], [vI y, vR x9], σ, 0 + 2, 0 + 12)) (Eq.symm ((hP j hj).2 2 (by decide)) : some (D j 6) = σ.2.1 20309 (D j 0) 0)) ?_
  show WG _ _ _ _ _ _ _ (9, [(0, vR (some x)), (1, vI (nI j)), (2, vI y), (3, vI z), (4, vI w)], [vI y, vR (some (D j 6))], σ, 0 + 2, 0 + 12)
  refine w_callV (st := []) [vI y] rfl ml_0_174 rfl rfl (hw 20309 (D j 0) 0 (D j 6) ((hP j hj).2 2 (by decide)) (by decide)) rfl rfl rfl (by simp only [RM]; omega) (by simp only [RM]; show 8 + (2 + 11) + _ ≤ _; omega) rfl (by simp only [RM]; omega) (by simp only [RM]; omega) (c_ar_takenAt l E (d - 1) σ (D j 6) (D j 7) y ((hw 20309 (D j 0) 0 (D j 6) ((hP j hj).2 2 (by decide)) (by decide))) ((hP j hj).2 10 (by decide)) hw) (fun _ _ h => h.elim) ?_
  intro r9 s9 q9
  rw [q9.1, q9.2]
  clear q9 r9 s9
  show WG _ _ _ _ _ _ _ (12, [(0, vR (some x)), (1, vI (nI j)), (2, vI y), (3, vI z), (4, vI w)], [vR (tkAt σ (D j 7) y)], σ, 0 + 2, 0 + 12)
  refine w_run 2 (S' := (16, [(5, vR (tkAt σ (D j 7) y)), (0, vR (some x)), (1, vI (nI j)), (2, vI y), (3, vI z), (4, vI w)], [vR (tkAt σ (D j 7) y)], σ, 0 + 2, 0 + 12)) rfl ?_
  refine w_nonnull rfl (fun b2 c1 => ?_) (fun c1 => ?_)
  · obtain ⟨hm6, c9, hc9, hy9, hcm⟩ := tkAt_k hw c1
    obtain ⟨it, a1, a2, hit, hi4, hm1, hm2, hm3, hm4⟩ := hM j hj c9 b2 hc9 hcm
    refine w_run 2 (S' := (32, [(5, vR (tkAt σ (D j 7) y)), (0, vR (some x)), (1, vI (nI j)), (2, vI y), (3, vI z), (4, vI w)], [vI 2, vI w], σ, 0 + 2, 0 + 12)) rfl ?_
    refine w_ic_ne rfl (fun c3 => ?_) (fun c3 => ?_)
    · refine w_run 1 (S' := (42, [(5, vR (tkAt σ (D j 7) y)), (0, vR (some x)), (1, vI (nI j)), (2, vI y), (3, vI z), (4, vI w)], [vI z], σ, 0 + 2, 0 + 12)) rfl ?_
      refine w_if_lt rfl (fun c4 => ?_) (fun c4 => ?_)
      · exact w_throwX (text := "no such item") hl0 rfl rfl rfl rfl rfl ts_NS (by decide) rfl rfl (by omega) (by omega) (by omega) (Or.inr ⟨rfl, rfl, j, hj, rfl, hal, (show ordF σ (D j 7) y z w = none by unfold ordF; rw [c1]; dsimp only; rw [if_neg c3, if_pos c4])⟩)
      · refine w_run 2 (S' := (48, [(5, vR (tkAt σ (D j 7) y)), (0, vR (some x)), (1, vI (nI j)), (2, vI y), (3, vI z), (4, vI w)], [vR (tkAt σ (D j 7) y), vI z], σ, 0 + 2, 0 + 12)) rfl ?_
        refine w_get (k := 6) (vI (σ.1 60500 b2 0)) rfl rfl c1 hm6 rfl rfl ?_
        refine w_ic_lt rfl (fun c5 => ?_) (fun c5 => ?_)
        · refine w_run 1 (S' := (66, [(5, vR (tkAt σ (D j 7) y)), (0, vR (some x)), (1, vI (nI j)), (2, vI y), (3, vI z), (4, vI w)], [vI w], σ, 0 + 2, 0 + 12)) rfl ?_
          refine w_if_ne rfl (fun c6 => ?_) (fun c6 => ?_)
          · refine w_run 2 (S' := (80, [(5, vR (tkAt σ (D j 7) y)), (0, vR (some x)), (1, vI (nI j)), (2, vI y), (3, vI z), (4, vI w)], [vI 1, vI w], σ, 0 + 2, 0 + 12)) rfl ?_
            refine w_ic_ne rfl (fun c7 => ?_) (fun c7 => ?_)
            · exact w_throwX (text := "no such part of an item") hl0 rfl rfl rfl rfl rfl ts_NS (by decide) rfl rfl (by omega) (by omega) (by omega) (Or.inr ⟨rfl, rfl, j, hj, rfl, hal, (show ordF σ (D j 7) y z w = none by unfold ordF; rw [c1]; dsimp only; rw [if_neg c3, if_neg c4, if_neg (Int32.not_le.mpr c5), hm1, hm2]; dsimp only; rw [if_neg c6, if_neg c7])⟩)
            · refine w_run 1 (S' := (85, [(5, vR (tkAt σ (D j 7) y)), (0, vR (some x)), (1, vI (nI j)), (2, vI y), (3, vI z), (4, vI w)], [vR (tkAt σ (D j 7) y)], σ, 0 + 2, 0 + 12)) rfl ?_
              refine w_get (k := 6) (vR (σ.2.1 60732 b2 0)) rfl rfl c1 hm6 rfl rfl ?_
              refine w_run 1 (S' := (89, [(5, vR (tkAt σ (D j 7) y)), (0, vR (some x)), (1, vI (nI j)), (2, vI y), (3, vI z), (4, vI w)], [vI z, vR (σ.2.1 60732 b2 0)], σ, 0 + 2, 0 + 12)) rfl ?_
              refine w_iald (k := 32) rfl hm2 (hw 60732 b2 0 a2 hm2 (by decide)) rfl (show vp_in z (lenK 32 σ a2 none) from by rw [show lenK 32 σ a2 none = it from by show (σ.1 329900 a2 0).toNatClampNeg = it; rw [hm4, nI_clamp (by omega)]]; have c9_ := c5; rw [hit] at c9_; exact in_it hi4 c4 c9_) ?_
              show WG _ _ _ _ _ _ _ (90, [(5, vR (tkAt σ (D j 7) y)), (0, vR (some x)), (1, vI (nI j)), (2, vI y), (3, vI z), (4, vI w)], [vI (σ.1 320000 a2 z.toNatClampNeg)], σ, 0 + 2, 0 + 12)
              exact w_iret rfl (Or.inl rfl) (by omega) (by omega) (⟨j, hj, rfl, hal, _, rfl, by unfold ordF; rw [c1]; dsimp only; rw [if_neg c3, if_neg c4, if_neg (Int32.not_le.mpr c5), hm1, hm2]; dsimp only; rw [if_neg c6, if_pos c7], rfl⟩)
          · refine w_run 1 (S' := (71, [(5, vR (tkAt σ (D j 7) y)), (0, vR (some x)), (1, vI (nI j)), (2, vI y), (3, vI z), (4, vI w)], [vR (tkAt σ (D j 7) y)], σ, 0 + 2, 0 + 12)) rfl ?_
            refine w_get (k := 6) (vR (σ.2.1 60631 b2 0)) rfl rfl c1 hm6 rfl rfl ?_
            refine w_run 1 (S' := (75, [(5, vR (tkAt σ (D j 7) y)), (0, vR (some x)), (1, vI (nI j)), (2, vI y), (3, vI z), (4, vI w)], [vI z, vR (σ.2.1 60631 b2 0)], σ, 0 + 2, 0 + 12)) rfl ?_
            refine w_iald (k := 31) rfl hm1 (hw 60631 b2 0 a1 hm1 (by decide)) rfl (show vp_in z (lenK 31 σ a1 none) from by rw [show lenK 31 σ a1 none = it from by show (σ.1 319900 a1 0).toNatClampNeg = it; rw [hm3, nI_clamp (by omega)]]; have c9_ := c5; rw [hit] at c9_; exact in_it hi4 c4 c9_) ?_
            show WG _ _ _ _ _ _ _ (76, [(5, vR (tkAt σ (D j 7) y)), (0, vR (some x)), (1, vI (nI j)), (2, vI y), (3, vI z), (4, vI w)], [vI (σ.1 310000 a1 z.toNatClampNeg)], σ, 0 + 2, 0 + 12)
            exact w_iret rfl (Or.inl rfl) (by omega) (by omega) (⟨j, hj, rfl, hal, _, rfl, by unfold ordF; rw [c1]; dsimp only; rw [if_neg c3, if_neg c4, if_neg (Int32.not_le.mpr c5), hm1, hm2]; dsimp only; rw [if_pos c6], rfl⟩)
        · exact w_throwX (text := "no such item") hl0 rfl rfl rfl rfl rfl ts_NS (by decide) rfl rfl (by omega) (by omega) (by omega) (Or.inr ⟨rfl, rfl, j, hj, rfl, hal, (show ordF σ (D j 7) y z w = none by unfold ordF; rw [c1]; dsimp only; rw [if_neg c3, if_neg c4, if_pos (Int32.not_lt.mp c5)])⟩)
    · refine w_run 1 (S' := (37, [(5, vR (tkAt σ (D j 7) y)), (0, vR (some x)), (1, vI (nI j)), (2, vI y), (3, vI z), (4, vI w)], [vR (tkAt σ (D j 7) y)], σ, 0 + 2, 0 + 12)) rfl ?_
      refine w_get (k := 6) (vI (σ.1 60400 b2 0)) rfl rfl c1 hm6 rfl rfl ?_
      exact w_iret rfl (Or.inl rfl) (by omega) (by omega) (⟨j, hj, rfl, hal, _, rfl, by unfold ordF; rw [c1]; dsimp only; rw [if_pos c3], rfl⟩)
  · exact w_throwX (text := "no buffer whose work was taken begins there") hl0 rfl rfl rfl rfl rfl ts_NS (by decide) rfl rfl (by omega) (by omega) (by omega) (Or.inr ⟨rfl, rfl, j, hj, rfl, hal, (show ordF σ (D j 7) y z w = none by unfold ordF; rw [c1])⟩)

