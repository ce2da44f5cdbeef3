/-! the class: count, handle, serve, born, watch, take, strongNode -/
set_option maxHeartbeats 4000000 in
theorem c_od_count (l : Launch) (E : FE) (d : Nat) (σ : Sg) (D : Nat → Nat → Nat) (x a0 : Nat) (p w : Int32) (L1 L2 L3 : Nat → List Nat) (AR1 AR2 AR3 : Nat → Nat) (hd : 8 ≤ d) (hl0 : l.stackTraces = false) (hx : σ.2.2.2 x = 1) (h0 : σ.2.1 10010 x 0 = some a0) (h3 : ∀ j, j < 4 → σ.2.1 100002 a0 j = some (D j 0)) (hP : ∀ j, j < 4 → SHp σ (D j)) (hw : WF σ) (hl20 : LLx E 20 41 5 (fun p => D p 12) L1 AR1 σ) (hl21 : LLx E 21 42 6 (fun p => D p 13) L2 AR2 σ) (hl22 : LLx E 22 43 7 (fun p => D p 14) L3 AR3 σ) : CT l E d 62 [vR (some x), vI p, vI w] σ 2 12 (fun r σ' => ∃ j, j < 4 ∧ p = nI j ∧ ¬ σ.1 20800 (D j 0) 0 = 0 ∧ (r = some (vI (ocnF σ (D j) (L1 j).length (L2 j).length (L3 j).length w)) ∧ σ' = σ)) (oX σ D p) := by
  refine CTo ok_od_count (by decide +kernel) rfl rfl rfl ?_
  refine w_run 2 (S' := (2, [(0, vR (some x)), (1, vI p), (2, vI w)], [vI p, vR (some x)], σ, 0, 0)) rfl ?_
  refine w_callV (st := []) [vI p] rfl ml_0_37 rfl rfl hx rfl rfl rfl (by simp only [RM]; omega) (by simp only [RM]; show 8 + (3 + 11) + _ ≤ _; omega) rfl (by simp only [RM]; omega) (by simp only [RM]; omega) (c_od_living l E (d - 1) σ D x a0 p (by omega) hl0 hx h0 h3 hP hw) (fun X9 s9 h9 => x_out rfl (by omega) (by omega) h9) ?_
  intro r9 s9 q9
  obtain ⟨j, hj, rfl, hal, e1, e2⟩ := q9
  rw [e1, e2]
  clear e1 e2 r9 s9
  show WG _ _ _ _ _ _ _ (5, [(0, vR (some x)), (1, vI (nI j)), (2, vI w)], [vR (some (D j 0))], σ, 0 + 2, 0 + 12)
  refine w_run 2 (S' := (7, [(3, vR (some (D j 0))), (0, vR (some x)), (1, vI (nI j)), (2, vI w)], [vI w], σ, 0 + 2, 0 + 12)) rfl ?_
  by_cases c1 : w = 0
  · subst c1
    show WG _ _ _ _ _ _ _ (7, [(3, vR (some (D j 0))), (0, vR (some x)), (1, vI (nI j)), (2, vI 0)], [vI 0], σ, 0 + 2, 0 + 12)
    refine w_tsIn rfl (by decide) (by decide) rfl rfl ?_
    refine w_run 1 (S' := (53, [(3, vR (some (D j 0))), (0, vR (some x)), (1, vI (nI j)), (2, vI 0)], [vR (some (D j 0))], σ, 0 + 2, 0 + 12)) rfl ?_
    refine w_get (k := 2) (vR (σ.2.1 20208 (D j 0) 0)) rfl rfl rfl ((hP j hj).1) rfl rfl ?_
    refine w_get (k := 8) (vI (σ.1 80300 (D j 2) 0)) rfl rfl ((hP j hj).2 1 (by decide)) (hw 20208 (D j 0) 0 (D j 2) ((hP j hj).2 1 (by decide)) (by decide)) rfl rfl ?_
    exact w_iret rfl (Or.inl rfl) (by omega) (by omega) (⟨j, hj, rfl, hal, by simp [ocnF, (rfl : (0 : Int32) = 0)], rfl⟩)
  by_cases c2 : w = 1
  · subst c2
    show WG _ _ _ _ _ _ _ (7, [(3, vR (some (D j 0))), (0, vR (some x)), (1, vI (nI j)), (2, vI 1)], [vI 1], σ, 0 + 2, 0 + 12)
    refine w_tsIn rfl (by decide) (by decide) rfl rfl ?_
    refine w_run 1 (S' := (61, [(3, vR (some (D j 0))), (0, vR (some x)), (1, vI (nI j)), (2, vI 1)], [vR (some (D j 0))], σ, 0 + 2, 0 + 12)) rfl ?_
    refine w_get (k := 2) (vR (σ.2.1 20520 (D j 0) 0)) rfl rfl rfl ((hP j hj).1) rfl rfl ?_
    refine Eq.mp (congrArg (fun x9 => WG _ _ _ _ _ _ _ (64, [(3, vR (some (D j 0))), (0, vR (some x)), (1, vI (nI j)), (2, vI 1)], [vR x9], σ, 0 + 2, 0 + 12)) (Eq.symm ((hP j hj).2 4 (by decide)) : some (D j 12) = σ.2.1 20520 (D j 0) 0)) ?_
    show WG _ _ _ _ _ _ _ (64, [(3, vR (some (D j 0))), (0, vR (some x)), (1, vI (nI j)), (2, vI 1)], [vR (some (D j 12))], σ, 0 + 2, 0 + 12)
    refine w_callV (st := []) [] rfl ml_0_129 rfl rfl (hw 20520 (D j 0) 0 (D j 12) ((hP j hj).2 4 (by decide)) (by decide)) rfl rfl rfl (by simp only [RM]; omega) (by simp only [RM]; show 8 + (1 + 11) + _ ≤ _; omega) rfl (by simp only [RM]; omega) (by simp only [RM]; omega) (c_la_size_20 l E (d - 1) σ (fun p => D p 12) L1 AR1 hl20 j hj) (fun _ _ h => h.elim) ?_
    intro r9 s9 q9
    rw [q9.1, q9.2]
    clear q9 r9 s9
    show WG _ _ _ _ _ _ _ (67, [(3, vR (some (D j 0))), (0, vR (some x)), (1, vI (nI j)), (2, vI 1)], [vI (nI (L1 j).length)], σ, 0 + 2, 0 + 12)
    exact w_iret rfl (Or.inl rfl) (by omega) (by omega) (⟨j, hj, rfl, hal, by simp [ocnF, (rfl : (1 : Int32) = 1)], rfl⟩)
  by_cases c3 : w = 2
  · subst c3
    show WG _ _ _ _ _ _ _ (7, [(3, vR (some (D j 0))), (0, vR (some x)), (1, vI (nI j)), (2, vI 2)], [vI 2], σ, 0 + 2, 0 + 12)
    refine w_tsIn rfl (by decide) (by decide) rfl rfl ?_
    refine w_run 1 (S' := (69, [(3, vR (some (D j 0))), (0, vR (some x)), (1, vI (nI j)), (2, vI 2)], [vR (some (D j 0))], σ, 0 + 2, 0 + 12)) rfl ?_
    refine w_get (k := 2) (vR (σ.2.1 20621 (D j 0) 0)) rfl rfl rfl ((hP j hj).1) rfl rfl ?_
    refine Eq.mp (congrArg (fun x9 => WG _ _ _ _ _ _ _ (72, [(3, vR (some (D j 0))), (0, vR (some x)), (1, vI (nI j)), (2, vI 2)], [vR x9], σ, 0 + 2, 0 + 12)) (Eq.symm ((hP j hj).2 5 (by decide)) : some (D j 13) = σ.2.1 20621 (D j 0) 0)) ?_
    show WG _ _ _ _ _ _ _ (72, [(3, vR (some (D j 0))), (0, vR (some x)), (1, vI (nI j)), (2, vI 2)], [vR (some (D j 13))], σ, 0 + 2, 0 + 12)
    refine w_callV (st := []) [] rfl ml_0_129 rfl rfl (hw 20621 (D j 0) 0 (D j 13) ((hP j hj).2 5 (by decide)) (by decide)) rfl rfl rfl (by simp only [RM]; omega) (by simp only [RM]; show 8 + (1 + 11) + _ ≤ _; omega) rfl (by simp only [RM]; omega) (by simp only [RM]; omega) (c_la_size_21 l E (d - 1) σ (fun p => D p 13) L2 AR2 hl21 j hj) (fun _ _ h => h.elim) ?_
    intro r9 s9 q9
    rw [q9.1, q9.2]
    clear q9 r9 s9
    show WG _ _ _ _ _ _ _ (75, [(3, vR (some (D j 0))), (0, vR (some x)), (1, vI (nI j)), (2, vI 2)], [vI (nI (L2 j).length)], σ, 0 + 2, 0 + 12)
    exact w_iret rfl (Or.inl rfl) (by omega) (by omega) (⟨j, hj, rfl, hal, by simp [ocnF, (rfl : (2 : Int32) = 2)], rfl⟩)
  by_cases c4 : w = 3
  · subst c4
    show WG _ _ _ _ _ _ _ (7, [(3, vR (some (D j 0))), (0, vR (some x)), (1, vI (nI j)), (2, vI 3)], [vI 3], σ, 0 + 2, 0 + 12)
    refine w_tsIn rfl (by decide) (by decide) rfl rfl ?_
    refine w_run 1 (S' := (77, [(3, vR (some (D j 0))), (0, vR (some x)), (1, vI (nI j)), (2, vI 3)], [vR (some (D j 0))], σ, 0 + 2, 0 + 12)) rfl ?_
    refine w_get (k := 2) (vI (σ.1 21000 (D j 0) 0)) rfl rfl rfl ((hP j hj).1) rfl rfl ?_
    refine w_if_eq rfl (fun c5 => ?_) (fun c5 => ?_)
    · refine w_run 1 (S' := (88, [(3, vR (some (D j 0))), (0, vR (some x)), (1, vI (nI j)), (2, vI 3)], [vI 0], σ, 0 + 2, 0 + 12)) rfl ?_
      exact w_iret rfl (Or.inl rfl) (by omega) (by omega) (⟨j, hj, rfl, hal, by simp [ocnF, (rfl : (3 : Int32) = 3), c5], rfl⟩)
    · refine w_run 2 (S' := (88, [(3, vR (some (D j 0))), (0, vR (some x)), (1, vI (nI j)), (2, vI 3)], [vI 1], σ, 0 + 2, 0 + 12)) rfl ?_
      exact w_iret rfl (Or.inl rfl) (by omega) (by omega) (⟨j, hj, rfl, hal, by simp [ocnF, (rfl : (3 : Int32) = 3), c5], rfl⟩)
  by_cases c6 : w = 4
  · subst c6
    show WG _ _ _ _ _ _ _ (7, [(3, vR (some (D j 0))), (0, vR (some x)), (1, vI (nI j)), (2, vI 4)], [vI 4], σ, 0 + 2, 0 + 12)
    refine w_tsIn rfl (by decide) (by decide) rfl rfl ?_
    refine w_run 1 (S' := (90, [(3, vR (some (D j 0))), (0, vR (some x)), (1, vI (nI j)), (2, vI 4)], [vR (some (D j 0))], σ, 0 + 2, 0 + 12)) rfl ?_
    refine w_get (k := 2) (vR (σ.2.1 20309 (D j 0) 0)) rfl rfl rfl ((hP j hj).1) rfl rfl ?_
    refine w_get (k := 9) (vI (σ.1 90100 (D j 6) 0)) rfl rfl ((hP j hj).2 2 (by decide)) (hw 20309 (D j 0) 0 (D j 6) ((hP j hj).2 2 (by decide)) (by decide)) rfl rfl ?_
    exact w_iret rfl (Or.inl rfl) (by omega) (by omega) (⟨j, hj, rfl, hal, by simp [ocnF, (rfl : (4 : Int32) = 4)], rfl⟩)
  by_cases c7 : w = 5
  · subst c7
    show WG _ _ _ _ _ _ _ (7, [(3, vR (some (D j 0))), (0, vR (some x)), (1, vI (nI j)), (2, vI 5)], [vI 5], σ, 0 + 2, 0 + 12)
    refine w_tsIn rfl (by decide) (by decide) rfl rfl ?_
    refine w_run 1 (S' := (98, [(3, vR (some (D j 0))), (0, vR (some x)), (1, vI (nI j)), (2, vI 5)], [vR (some (D j 0))], σ, 0 + 2, 0 + 12)) rfl ?_
    refine w_get (k := 2) (vR (σ.2.1 20309 (D j 0) 0)) rfl rfl rfl ((hP j hj).1) rfl rfl ?_
    refine w_get (k := 9) (vI (σ.1 90200 (D j 6) 0)) rfl rfl ((hP j hj).2 2 (by decide)) (hw 20309 (D j 0) 0 (D j 6) ((hP j hj).2 2 (by decide)) (by decide)) rfl rfl ?_
    exact w_iret rfl (Or.inl rfl) (by omega) (by omega) (⟨j, hj, rfl, hal, by simp [ocnF, (rfl : (5 : Int32) = 5)], rfl⟩)
  by_cases c8 : w = 6
  · subst c8
    show WG _ _ _ _ _ _ _ (7, [(3, vR (some (D j 0))), (0, vR (some x)), (1, vI (nI j)), (2, vI 6)], [vI 6], σ, 0 + 2, 0 + 12)
    refine w_tsIn rfl (by decide) (by decide) rfl rfl ?_
    refine w_run 1 (S' := (106, [(3, vR (some (D j 0))), (0, vR (some x)), (1, vI (nI j)), (2, vI 6)], [vR (some (D j 0))], σ, 0 + 2, 0 + 12)) rfl ?_
    refine w_get (k := 2) (vR (σ.2.1 20722 (D j 0) 0)) rfl rfl rfl ((hP j hj).1) rfl rfl ?_
    refine Eq.mp (congrArg (fun x9 => WG _ _ _ _ _ _ _ (109, [(3, vR (some (D j 0))), (0, vR (some x)), (1, vI (nI j)), (2, vI 6)], [vR x9], σ, 0 + 2, 0 + 12)) (Eq.symm ((hP j hj).2 6 (by decide)) : some (D j 14) = σ.2.1 20722 (D j 0) 0)) ?_
    show WG _ _ _ _ _ _ _ (109, [(3, vR (some (D j 0))), (0, vR (some x)), (1, vI (nI j)), (2, vI 6)], [vR (some (D j 14))], σ, 0 + 2, 0 + 12)
    refine w_callV (st := []) [] rfl ml_0_129 rfl rfl (hw 20722 (D j 0) 0 (D j 14) ((hP j hj).2 6 (by decide)) (by decide)) rfl rfl rfl (by simp only [RM]; omega) (by simp only [RM]; show 8 + (1 + 11) + _ ≤ _; omega) rfl (by simp only [RM]; omega) (by simp only [RM]; omega) (c_la_size_22 l E (d - 1) σ (fun p => D p 14) L3 AR3 hl22 j hj) (fun _ _ h => h.elim) ?_
    intro r9 s9 q9
    rw [q9.1, q9.2]
    clear q9 r9 s9
    show WG _ _ _ _ _ _ _ (112, [(3, vR (some (D j 0))), (0, vR (some x)), (1, vI (nI j)), (2, vI 6)], [vI (nI (L3 j).length)], σ, 0 + 2, 0 + 12)
    exact w_iret rfl (Or.inl rfl) (by omega) (by omega) (⟨j, hj, rfl, hal, by simp [ocnF, (rfl : (6 : Int32) = 6)], rfl⟩)
  by_cases c9 : w = 7
  · subst c9
    show WG _ _ _ _ _ _ _ (7, [(3, vR (some (D j 0))), (0, vR (some x)), (1, vI (nI j)), (2, vI 7)], [vI 7], σ, 0 + 2, 0 + 12)
    refine w_tsIn rfl (by decide) (by decide) rfl rfl ?_
    refine w_run 1 (S' := (114, [(3, vR (some (D j 0))), (0, vR (some x)), (1, vI (nI j)), (2, vI 7)], [vR (some (D j 0))], σ, 0 + 2, 0 + 12)) rfl ?_
    refine w_get (k := 2) (vR (σ.2.1 20404 (D j 0) 0)) rfl rfl rfl ((hP j hj).1) rfl rfl ?_
    refine w_get (k := 4) (vI (σ.1 40300 (D j 8) 0)) rfl rfl ((hP j hj).2 3 (by decide)) (hw 20404 (D j 0) 0 (D j 8) ((hP j hj).2 3 (by decide)) (by decide)) rfl rfl ?_
    exact w_iret rfl (Or.inl rfl) (by omega) (by omega) (⟨j, hj, rfl, hal, by simp [ocnF, (rfl : (7 : Int32) = 7)], rfl⟩)
  · have tc1 : w.toInt ≠ 0 := fun e9 => c1 (Int32.toInt_inj.mp e9)
    have tc2 : w.toInt ≠ 1 := fun e9 => c2 (Int32.toInt_inj.mp e9)
    have tc3 : w.toInt ≠ 2 := fun e9 => c3 (Int32.toInt_inj.mp e9)
    have tc4 : w.toInt ≠ 3 := fun e9 => c4 (Int32.toInt_inj.mp e9)
    have tc6 : w.toInt ≠ 4 := fun e9 => c6 (Int32.toInt_inj.mp e9)
    have tc7 : w.toInt ≠ 5 := fun e9 => c7 (Int32.toInt_inj.mp e9)
    have tc8 : w.toInt ≠ 6 := fun e9 => c8 (Int32.toInt_inj.mp e9)
    have tc9 : w.toInt ≠ 7 := fun e9 => c9 (Int32.toInt_inj.mp e9)
    refine w_tsOut rfl (by omega) rfl ?_
    refine w_run 1 (S' := (122, [(3, vR (some (D j 0))), (0, vR (some x)), (1, vI (nI j)), (2, vI w)], [vI (-1)], σ, 0 + 2, 0 + 12)) rfl ?_
    exact w_iret rfl (Or.inl rfl) (by omega) (by omega) (⟨j, hj, rfl, hal, by simp [ocnF, c1, c2, c3, c4, c6, c7, c8, c9], rfl⟩)

set_option maxHeartbeats 4000000 in
theorem c_od_handle (l : Launch) (E : FE) (d : Nat) (σ : Sg) (D : Nat → Nat → Nat) (x a0 : Nat) (p y w : Int32) (hd : 8 ≤ d) (hl0 : l.stackTraces = false) (hx : σ.2.2.2 x = 1) (h0 : σ.2.1 10010 x 0 = some a0) (h3 : ∀ j, j < 4 → σ.2.1 100002 a0 j = some (D j 0)) (hP : ∀ j, j < 4 → SHp σ (D j)) (hw : WF σ) : CT l E d 63 [vR (some x), vI p, vI y, vI w] σ 2 12 (fun r σ' => ∃ j, j < 4 ∧ p = nI j ∧ ¬ σ.1 20800 (D j 0) 0 = 0 ∧ (r = some (vI (ohnF σ (D j) y w)) ∧ σ' = σ)) (oX σ D p) := by
  refine CTo ok_od_handle (by decide +kernel) rfl rfl rfl ?_
  refine w_run 2 (S' := (2, [(0, vR (some x)), (1, vI p), (2, vI y), (3, vI w)], [vI p, vR (some x)], σ, 0, 0)) rfl ?_
  refine w_callV (st := []) [vI p] rfl ml_0_37 rfl rfl hx rfl rfl rfl (by simp only [RM]; omega) (by simp only [RM]; show 8 + (3 + 11) + _ ≤ _; omega) rfl (by simp only [RM]; omega) (by simp only [RM]; omega) (c_od_living l E (d - 1) σ D x a0 p (by omega) hl0 hx h0 h3 hP hw) (fun X9 s9 h9 => x_out rfl (by omega) (by omega) h9) ?_
  intro r9 s9 q9
  obtain ⟨j, hj, rfl, hal, e1, e2⟩ := q9
  rw [e1, e2]
  clear e1 e2 r9 s9
  show WG _ _ _ _ _ _ _ (5, [(0, vR (some x)), (1, vI (nI j)), (2, vI y), (3, vI w)], [vR (some (D j 0))], σ, 0 + 2, 0 + 12)
  refine w_get (k := 2) (vR (σ.2.1 20208 (D j 0) 0)) rfl rfl rfl ((hP j hj).1) rfl rfl ?_
  refine w_run 3 (S' := (13, [(4, vR (σ.2.1 20208 (D j 0) 0)), (0, vR (some x)), (1, vI (nI j)), (2, vI y), (3, vI w)], [vI y, vR (σ.2.1 20208 (D j 0) 0)], σ, 0 + 2, 0 + 12)) rfl ?_
  refine Eq.mp (congrArg (fun x9 => WG _ _ _ _ _ _ _ (13, [(4, vR (σ.2.1 20208 (D j 0) 0)), (0, vR (some x)), (1, vI (nI j)), (2, vI y), (3, vI w)], [vI y, vR x9], σ, 0 + 2, 0 + 12)) (Eq.symm ((hP j hj).2 1 (by decide)) : some (D j 2) = σ.2.1 20208 (D j 0) 0)) ?_
  show WG _ _ _ _ _ _ _ (13, [(4, vR (σ.2.1 20208 (D j 0) 0)), (0, vR (some x)), (1, vI (nI j)), (2, vI y), (3, vI w)], [vI y, vR (some (D j 2))], σ, 0 + 2, 0 + 12)
  refine w_callV (st := []) [vI y] rfl ml_0_229 rfl rfl (hw 20208 (D j 0) 0 (D j 2) ((hP j hj).2 1 (by decide)) (by decide)) rfl rfl rfl (by simp only [RM]; omega) (by simp only [RM]; show 8 + (2 + 11) + _ ≤ _; omega) rfl (by simp only [RM]; omega) (by simp only [RM]; omega) (c_hs_has l E (d - 1) σ (D j 2) (D j 3) y ((hw 20208 (D j 0) 0 (D j 2) ((hP j hj).2 1 (by decide)) (by decide))) ((hP j hj).2 7 (by decide)) hw) (fun _ _ h => h.elim) ?_
  intro r9 s9 q9
  rw [q9.1, q9.2]
  clear q9 r9 s9
  show WG _ _ _ _ _ _ _ (16, [(4, vR (σ.2.1 20208 (D j 0) 0)), (0, vR (some x)), (1, vI (nI j)), (2, vI y), (3, vI w)], [vI (hasF (σ.2.1 120003 (D j 3)) y)], σ, 0 + 2, 0 + 12)
  refine w_if_ne rfl (fun c1 => ?_) (fun c1 => ?_)
  · obtain ⟨c1_, c2_, a9, ha9⟩ := hasF_1 c1
    refine w_run 1 (S' := (23, [(4, vR (σ.2.1 20208 (D j 0) 0)), (0, vR (some x)), (1, vI (nI j)), (2, vI y), (3, vI w)], [vR (σ.2.1 20208 (D j 0) 0)], σ, 0 + 2, 0 + 12)) rfl ?_
    refine w_get (k := 8) (vR (σ.2.1 80012 (D j 2) 0)) rfl rfl ((hP j hj).2 1 (by decide)) (hw 20208 (D j 0) 0 (D j 2) ((hP j hj).2 1 (by decide)) (by decide)) rfl rfl ?_
    refine w_run 1 (S' := (27, [(4, vR (σ.2.1 20208 (D j 0) 0)), (0, vR (some x)), (1, vI (nI j)), (2, vI y), (3, vI w)], [vI y, vR (σ.2.1 80012 (D j 2) 0)], σ, 0 + 2, 0 + 12)) rfl ?_
    refine w_aald (k := 12) rfl ((hP j hj).2 7 (by decide)) (hw 80012 (D j 2) 0 (D j 3) ((hP j hj).2 7 (by decide)) (by decide)) rfl rfl (show vp_in y 16 from (in_lt c1_ c2_ (by decide) (by decide))) ?_
    show WG _ _ _ _ _ _ _ (28, [(4, vR (σ.2.1 20208 (D j 0) 0)), (0, vR (some x)), (1, vI (nI j)), (2, vI y), (3, vI w)], [vR (σ.2.1 120003 (D j 3) y.toNatClampNeg)], σ, 0 + 2, 0 + 12)
    refine w_run 2 (S' := (31, [(5, vR (σ.2.1 120003 (D j 3) y.toNatClampNeg)), (4, vR (σ.2.1 20208 (D j 0) 0)), (0, vR (some x)), (1, vI (nI j)), (2, vI y), (3, vI w)], [vI w], σ, 0 + 2, 0 + 12)) rfl ?_
    by_cases c2 : w = 0
    · subst c2
      show WG _ _ _ _ _ _ _ (31, [(5, vR (σ.2.1 120003 (D j 3) y.toNatClampNeg)), (4, vR (σ.2.1 20208 (D j 0) 0)), (0, vR (some x)), (1, vI (nI j)), (2, vI y), (3, vI 0)], [vI 0], σ, 0 + 2, 0 + 12)
      refine w_tsIn rfl (by decide) (by decide) rfl rfl ?_
      refine w_run 1 (S' := (66, [(5, vR (σ.2.1 120003 (D j 3) y.toNatClampNeg)), (4, vR (σ.2.1 20208 (D j 0) 0)), (0, vR (some x)), (1, vI (nI j)), (2, vI y), (3, vI 0)], [vR (σ.2.1 20208 (D j 0) 0)], σ, 0 + 2, 0 + 12)) rfl ?_
      refine w_get (k := 8) (vR (σ.2.1 80113 (D j 2) 0)) rfl rfl ((hP j hj).2 1 (by decide)) (hw 20208 (D j 0) 0 (D j 2) ((hP j hj).2 1 (by decide)) (by decide)) rfl rfl ?_
      refine w_run 1 (S' := (70, [(5, vR (σ.2.1 120003 (D j 3) y.toNatClampNeg)), (4, vR (σ.2.1 20208 (D j 0) 0)), (0, vR (some x)), (1, vI (nI j)), (2, vI y), (3, vI 0)], [vI y, vR (σ.2.1 80113 (D j 2) 0)], σ, 0 + 2, 0 + 12)) rfl ?_
      refine w_iald (k := 13) rfl ((hP j hj).2 8 (by decide)) (hw 80113 (D j 2) 0 (D j 4) ((hP j hj).2 8 (by decide)) (by decide)) rfl (show vp_in y 16 from (in_lt c1_ c2_ (by decide) (by decide))) ?_
      show WG _ _ _ _ _ _ _ (71, [(5, vR (σ.2.1 120003 (D j 3) y.toNatClampNeg)), (4, vR (σ.2.1 20208 (D j 0) 0)), (0, vR (some x)), (1, vI (nI j)), (2, vI y), (3, vI 0)], [vI (σ.1 130000 (D j 4) y.toNatClampNeg)], σ, 0 + 2, 0 + 12)
      exact w_iret rfl (Or.inl rfl) (by omega) (by omega) (⟨j, hj, rfl, hal, by simp [ohnF, if_neg c1, ha9, (rfl : (0 : Int32) = 0)], rfl⟩)
    by_cases c3 : w = 1
    · subst c3
      show WG _ _ _ _ _ _ _ (31, [(5, vR (σ.2.1 120003 (D j 3) y.toNatClampNeg)), (4, vR (σ.2.1 20208 (D j 0) 0)), (0, vR (some x)), (1, vI (nI j)), (2, vI y), (3, vI 1)], [vI 1], σ, 0 + 2, 0 + 12)
      refine w_tsIn rfl (by decide) (by decide) rfl rfl ?_
      refine w_run 1 (S' := (74, [(5, vR (σ.2.1 120003 (D j 3) y.toNatClampNeg)), (4, vR (σ.2.1 20208 (D j 0) 0)), (0, vR (some x)), (1, vI (nI j)), (2, vI y), (3, vI 1)], [vR (σ.2.1 20208 (D j 0) 0)], σ, 0 + 2, 0 + 12)) rfl ?_
      refine w_get (k := 8) (vR (σ.2.1 80214 (D j 2) 0)) rfl rfl ((hP j hj).2 1 (by decide)) (hw 20208 (D j 0) 0 (D j 2) ((hP j hj).2 1 (by decide)) (by decide)) rfl rfl ?_
      refine w_run 1 (S' := (78, [(5, vR (σ.2.1 120003 (D j 3) y.toNatClampNeg)), (4, vR (σ.2.1 20208 (D j 0) 0)), (0, vR (some x)), (1, vI (nI j)), (2, vI y), (3, vI 1)], [vI y, vR (σ.2.1 80214 (D j 2) 0)], σ, 0 + 2, 0 + 12)) rfl ?_
      refine w_iald (k := 14) rfl ((hP j hj).2 9 (by decide)) (hw 80214 (D j 2) 0 (D j 5) ((hP j hj).2 9 (by decide)) (by decide)) rfl (show vp_in y 16 from (in_lt c1_ c2_ (by decide) (by decide))) ?_
      show WG _ _ _ _ _ _ _ (79, [(5, vR (σ.2.1 120003 (D j 3) y.toNatClampNeg)), (4, vR (σ.2.1 20208 (D j 0) 0)), (0, vR (some x)), (1, vI (nI j)), (2, vI y), (3, vI 1)], [vI (σ.1 140000 (D j 5) y.toNatClampNeg)], σ, 0 + 2, 0 + 12)
      exact w_iret rfl (Or.inl rfl) (by omega) (by omega) (⟨j, hj, rfl, hal, by simp [ohnF, if_neg c1, ha9, (rfl : (1 : Int32) = 1)], rfl⟩)
    by_cases c4 : w = 2
    · subst c4
      show WG _ _ _ _ _ _ _ (31, [(5, vR (σ.2.1 120003 (D j 3) y.toNatClampNeg)), (4, vR (σ.2.1 20208 (D j 0) 0)), (0, vR (some x)), (1, vI (nI j)), (2, vI y), (3, vI 2)], [vI 2], σ, 0 + 2, 0 + 12)
      refine w_tsIn rfl (by decide) (by decide) rfl rfl ?_
      refine w_run 1 (S' := (82, [(5, vR (σ.2.1 120003 (D j 3) y.toNatClampNeg)), (4, vR (σ.2.1 20208 (D j 0) 0)), (0, vR (some x)), (1, vI (nI j)), (2, vI y), (3, vI 2)], [vR (σ.2.1 120003 (D j 3) y.toNatClampNeg)], σ, 0 + 2, 0 + 12)) rfl ?_
      refine w_get (k := 3) (vI (σ.1 30000 a9 0)) rfl rfl ha9 (hw 120003 (D j 3) y.toNatClampNeg a9 ha9 (by decide)) rfl rfl ?_
      exact w_iret rfl (Or.inl rfl) (by omega) (by omega) (⟨j, hj, rfl, hal, by simp [ohnF, if_neg c1, ha9, (rfl : (2 : Int32) = 2)], rfl⟩)
    by_cases c5 : w = 3
    · subst c5
      show WG _ _ _ _ _ _ _ (31, [(5, vR (σ.2.1 120003 (D j 3) y.toNatClampNeg)), (4, vR (σ.2.1 20208 (D j 0) 0)), (0, vR (some x)), (1, vI (nI j)), (2, vI y), (3, vI 3)], [vI 3], σ, 0 + 2, 0 + 12)
      refine w_tsIn rfl (by decide) (by decide) rfl rfl ?_
      refine w_run 1 (S' := (88, [(5, vR (σ.2.1 120003 (D j 3) y.toNatClampNeg)), (4, vR (σ.2.1 20208 (D j 0) 0)), (0, vR (some x)), (1, vI (nI j)), (2, vI y), (3, vI 3)], [vR (σ.2.1 120003 (D j 3) y.toNatClampNeg)], σ, 0 + 2, 0 + 12)) rfl ?_
      refine w_get (k := 3) (vI (σ.1 30100 a9 0)) rfl rfl ha9 (hw 120003 (D j 3) y.toNatClampNeg a9 ha9 (by decide)) rfl rfl ?_
      exact w_iret rfl (Or.inl rfl) (by omega) (by omega) (⟨j, hj, rfl, hal, by simp [ohnF, if_neg c1, ha9, (rfl : (3 : Int32) = 3)], rfl⟩)
    by_cases c6 : w = 4
    · subst c6
      show WG _ _ _ _ _ _ _ (31, [(5, vR (σ.2.1 120003 (D j 3) y.toNatClampNeg)), (4, vR (σ.2.1 20208 (D j 0) 0)), (0, vR (some x)), (1, vI (nI j)), (2, vI y), (3, vI 4)], [vI 4], σ, 0 + 2, 0 + 12)
      refine w_tsIn rfl (by decide) (by decide) rfl rfl ?_
      refine w_run 1 (S' := (94, [(5, vR (σ.2.1 120003 (D j 3) y.toNatClampNeg)), (4, vR (σ.2.1 20208 (D j 0) 0)), (0, vR (some x)), (1, vI (nI j)), (2, vI y), (3, vI 4)], [vR (σ.2.1 120003 (D j 3) y.toNatClampNeg)], σ, 0 + 2, 0 + 12)) rfl ?_
      refine w_get (k := 3) (vI (σ.1 30200 a9 0)) rfl rfl ha9 (hw 120003 (D j 3) y.toNatClampNeg a9 ha9 (by decide)) rfl rfl ?_
      refine w_if_eq rfl (fun c7 => ?_) (fun c7 => ?_)
      · refine w_run 1 (S' := (105, [(5, vR (σ.2.1 120003 (D j 3) y.toNatClampNeg)), (4, vR (σ.2.1 20208 (D j 0) 0)), (0, vR (some x)), (1, vI (nI j)), (2, vI y), (3, vI 4)], [vI 0], σ, 0 + 2, 0 + 12)) rfl ?_
        exact w_iret rfl (Or.inl rfl) (by omega) (by omega) (⟨j, hj, rfl, hal, by simp [ohnF, if_neg c1, ha9, (rfl : (4 : Int32) = 4), c7], rfl⟩)
      · refine w_run 2 (S' := (105, [(5, vR (σ.2.1 120003 (D j 3) y.toNatClampNeg)), (4, vR (σ.2.1 20208 (D j 0) 0)), (0, vR (some x)), (1, vI (nI j)), (2, vI y), (3, vI 4)], [vI 1], σ, 0 + 2, 0 + 12)) rfl ?_
        exact w_iret rfl (Or.inl rfl) (by omega) (by omega) (⟨j, hj, rfl, hal, by simp [ohnF, if_neg c1, ha9, (rfl : (4 : Int32) = 4), c7], rfl⟩)
    · have tc2 : w.toInt ≠ 0 := fun e9 => c2 (Int32.toInt_inj.mp e9)
      have tc3 : w.toInt ≠ 1 := fun e9 => c3 (Int32.toInt_inj.mp e9)
      have tc4 : w.toInt ≠ 2 := fun e9 => c4 (Int32.toInt_inj.mp e9)
      have tc5 : w.toInt ≠ 3 := fun e9 => c5 (Int32.toInt_inj.mp e9)
      have tc6 : w.toInt ≠ 4 := fun e9 => c6 (Int32.toInt_inj.mp e9)
      refine w_tsOut rfl (by omega) rfl ?_
      refine w_run 1 (S' := (107, [(5, vR (σ.2.1 120003 (D j 3) y.toNatClampNeg)), (4, vR (σ.2.1 20208 (D j 0) 0)), (0, vR (some x)), (1, vI (nI j)), (2, vI y), (3, vI w)], [vI (-1)], σ, 0 + 2, 0 + 12)) rfl ?_
      exact w_iret rfl (Or.inl rfl) (by omega) (by omega) (⟨j, hj, rfl, hal, by simp [ohnF, if_neg c1, ha9, c2, c3, c4, c5, c6], rfl⟩)
  · refine w_run 1 (S' := (20, [(4, vR (σ.2.1 20208 (D j 0) 0)), (0, vR (some x)), (1, vI (nI j)), (2, vI y), (3, vI w)], [vI (-1)], σ, 0 + 2, 0 + 12)) rfl ?_
    exact w_iret rfl (Or.inl rfl) (by omega) (by omega) (⟨j, hj, rfl, hal, by simp only [ohnF, if_pos c1], rfl⟩)

set_option maxHeartbeats 4000000 in
theorem c_od_serve (l : Launch) (E : FE) (d : Nat) (σ : Sg) (D : Nat → Nat → Nat) (x a0 : Nat) (p y : Int32) (hd : 8 ≤ d) (hl0 : l.stackTraces = false) (hx : σ.2.2.2 x = 1) (h0 : σ.2.1 10010 x 0 = some a0) (h3 : ∀ j, j < 4 → σ.2.1 100002 a0 j = some (D j 0)) (hP : ∀ j, j < 4 → SHp σ (D j)) (hw : WF σ) : CT l E d 49 [vR (some x), vI p, vI y] σ 3 18 (fun r σ' => ∃ j, j < 4 ∧ p = nI j ∧ ¬ σ.1 20800 (D j 0) 0 = 0 ∧ (∃ v, r = some (vI v) ∧ osvP E σ (D j 1) j y v σ')) (oX σ D p) := by
  refine CTo ok_od_serve (by decide +kernel) rfl rfl rfl ?_
  refine w_run 2 (S' := (2, [(0, vR (some x)), (1, vI p), (2, vI y)], [vI p, vR (some x)], σ, 0, 0)) rfl ?_
  refine w_callV (st := []) [vI p] rfl ml_0_37 rfl rfl hx rfl rfl rfl (by simp only [RM]; omega) (by simp only [RM]; show 8 + (3 + 11) + _ ≤ _; omega) rfl (by simp only [RM]; omega) (by simp only [RM]; omega) (c_od_living l E (d - 1) σ D x a0 p (by omega) hl0 hx h0 h3 hP hw) (fun X9 s9 h9 => x_out rfl (by omega) (by omega) h9) ?_
  intro r9 s9 q9
  obtain ⟨j, hj, rfl, hal, e1, e2⟩ := q9
  rw [e1, e2]
  clear e1 e2 r9 s9
  show WG _ _ _ _ _ _ _ (5, [(0, vR (some x)), (1, vI (nI j)), (2, vI y)], [vR (some (D j 0))], σ, 0 + 2, 0 + 12)
  refine w_run 2 (S' := (7, [(3, vR (some (D j 0))), (0, vR (some x)), (1, vI (nI j)), (2, vI y)], [vI y], σ, 0 + 2, 0 + 12)) rfl ?_
  refine w_if_lt rfl (fun c1 => ?_) (fun c1 => ?_)
  · refine w_run 1 (S' := (26, [(3, vR (some (D j 0))), (0, vR (some x)), (1, vI (nI j)), (2, vI y)], [vI 0], σ, 0 + 2, 0 + 12)) rfl ?_
    exact w_iret rfl (Or.inr ⟨rfl, Or.inl rfl⟩) (by omega) (by omega) (⟨j, hj, rfl, hal, 0, rfl, by simp [osvP, c1]⟩)
  · refine w_run 2 (S' := (13, [(3, vR (some (D j 0))), (0, vR (some x)), (1, vI (nI j)), (2, vI y)], [vI 10, vI y], σ, 0 + 2, 0 + 12)) rfl ?_
    refine w_ic_ge rfl (fun c2 => ?_) (fun c2 => ?_)
    · refine w_run 1 (S' := (26, [(3, vR (some (D j 0))), (0, vR (some x)), (1, vI (nI j)), (2, vI y)], [vI 0], σ, 0 + 2, 0 + 12)) rfl ?_
      exact w_iret rfl (Or.inr ⟨rfl, Or.inl rfl⟩) (by omega) (by omega) (⟨j, hj, rfl, hal, 0, rfl, by unfold osvP; rw [if_neg c1, if_neg (Int32.not_lt.mpr c2)]; exact ⟨rfl, rfl⟩⟩)
    · refine w_run 1 (S' := (17, [(3, vR (some (D j 0))), (0, vR (some x)), (1, vI (nI j)), (2, vI y)], [vR (some (D j 0))], σ, 0 + 2, 0 + 12)) rfl ?_
      refine w_get (k := 2) (vR (σ.2.1 20111 (D j 0) 0)) rfl rfl rfl ((hP j hj).1) rfl rfl ?_
      refine w_run 1 (S' := (21, [(3, vR (some (D j 0))), (0, vR (some x)), (1, vI (nI j)), (2, vI y)], [vI y, vR (σ.2.1 20111 (D j 0) 0)], σ, 0 + 2, 0 + 12)) rfl ?_
      refine w_aald (k := 11) rfl ((hP j hj).2 0 (by decide)) (hw 20111 (D j 0) 0 (D j 1) ((hP j hj).2 0 (by decide)) (by decide)) rfl rfl (show vp_in y 10 from (in_le c1 c2 (by decide) (by decide))) ?_
      show WG _ _ _ _ _ _ _ (22, [(3, vR (some (D j 0))), (0, vR (some x)), (1, vI (nI j)), (2, vI y)], [vR (σ.2.1 110003 (D j 1) y.toNatClampNeg)], σ, 0 + 2, 0 + 12)
      refine w_null rfl (fun c3 => ?_) (fun b4 c3 => ?_)
      · refine w_run 1 (S' := (28, [(3, vR (some (D j 0))), (0, vR (some x)), (1, vI (nI j)), (2, vI y)], [vR (some (D j 0))], σ, 0 + 2, 0 + 12)) rfl ?_
        refine w_get (k := 2) (vR (σ.2.1 20111 (D j 0) 0)) rfl rfl rfl ((hP j hj).1) rfl rfl ?_
        refine w_run 1 (S' := (32, [(3, vR (some (D j 0))), (0, vR (some x)), (1, vI (nI j)), (2, vI y)], [vI y, vR (σ.2.1 20111 (D j 0) 0)], σ, 0 + 2, 0 + 12)) rfl ?_
        refine w_new (k := 3) rfl rfl 3 rfl rfl (by simp only [RM]; omega) (by simp only [RM]; show _ + 6 ≤ _; omega) (fun q hq hqe => ?_)
        have hn_x : x ≠ q := ne0 (hx) hq (by decide)
        have hk_x : (sN σ q 3).2.2.2 x = 1 := by simp only [sN]; rw [if_neg hn_x]; exact hx
        have hn_D_j_0 : D j 0 ≠ q := ne0 ((hP j hj).1) hq (by decide)
        have hk_D_j_0 : (sN σ q 3).2.2.2 (D j 0) = 2 := by simp only [sN]; rw [if_neg hn_D_j_0]; exact (hP j hj).1
        have hn_D_j_1 : D j 1 ≠ q := ne0 ((hw 20111 (D j 0) 0 (D j 1) ((hP j hj).2 0 (by decide)) (by decide))) hq (by decide)
        have hk_D_j_1 : (sN σ q 3).2.2.2 (D j 1) = 11 := by simp only [sN]; rw [if_neg hn_D_j_1]; exact (hw 20111 (D j 0) 0 (D j 1) ((hP j hj).2 0 (by decide)) (by decide))
        have hn_D_j_2 : D j 2 ≠ q := ne0 ((hw 20208 (D j 0) 0 (D j 2) ((hP j hj).2 1 (by decide)) (by decide))) hq (by decide)
        have hk_D_j_2 : (sN σ q 3).2.2.2 (D j 2) = 8 := by simp only [sN]; rw [if_neg hn_D_j_2]; exact (hw 20208 (D j 0) 0 (D j 2) ((hP j hj).2 1 (by decide)) (by decide))
        have hn_D_j_6 : D j 6 ≠ q := ne0 ((hw 20309 (D j 0) 0 (D j 6) ((hP j hj).2 2 (by decide)) (by decide))) hq (by decide)
        have hk_D_j_6 : (sN σ q 3).2.2.2 (D j 6) = 9 := by simp only [sN]; rw [if_neg hn_D_j_6]; exact (hw 20309 (D j 0) 0 (D j 6) ((hP j hj).2 2 (by decide)) (by decide))
        have hn_D_j_8 : D j 8 ≠ q := ne0 ((hw 20404 (D j 0) 0 (D j 8) ((hP j hj).2 3 (by decide)) (by decide))) hq (by decide)
        have hk_D_j_8 : (sN σ q 3).2.2.2 (D j 8) = 4 := by simp only [sN]; rw [if_neg hn_D_j_8]; exact (hw 20404 (D j 0) 0 (D j 8) ((hP j hj).2 3 (by decide)) (by decide))
        have hn_D_j_12 : D j 12 ≠ q := ne0 ((hw 20520 (D j 0) 0 (D j 12) ((hP j hj).2 4 (by decide)) (by decide))) hq (by decide)
        have hk_D_j_12 : (sN σ q 3).2.2.2 (D j 12) = 20 := by simp only [sN]; rw [if_neg hn_D_j_12]; exact (hw 20520 (D j 0) 0 (D j 12) ((hP j hj).2 4 (by decide)) (by decide))
        have hn_D_j_13 : D j 13 ≠ q := ne0 ((hw 20621 (D j 0) 0 (D j 13) ((hP j hj).2 5 (by decide)) (by decide))) hq (by decide)
        have hk_D_j_13 : (sN σ q 3).2.2.2 (D j 13) = 21 := by simp only [sN]; rw [if_neg hn_D_j_13]; exact (hw 20621 (D j 0) 0 (D j 13) ((hP j hj).2 5 (by decide)) (by decide))
        have hn_D_j_14 : D j 14 ≠ q := ne0 ((hw 20722 (D j 0) 0 (D j 14) ((hP j hj).2 6 (by decide)) (by decide))) hq (by decide)
        have hk_D_j_14 : (sN σ q 3).2.2.2 (D j 14) = 22 := by simp only [sN]; rw [if_neg hn_D_j_14]; exact (hw 20722 (D j 0) 0 (D j 14) ((hP j hj).2 6 (by decide)) (by decide))
        have hn_D_j_3 : D j 3 ≠ q := ne0 ((hw 80012 (D j 2) 0 (D j 3) ((hP j hj).2 7 (by decide)) (by decide))) hq (by decide)
        have hk_D_j_3 : (sN σ q 3).2.2.2 (D j 3) = 12 := by simp only [sN]; rw [if_neg hn_D_j_3]; exact (hw 80012 (D j 2) 0 (D j 3) ((hP j hj).2 7 (by decide)) (by decide))
        have hn_D_j_4 : D j 4 ≠ q := ne0 ((hw 80113 (D j 2) 0 (D j 4) ((hP j hj).2 8 (by decide)) (by decide))) hq (by decide)
        have hk_D_j_4 : (sN σ q 3).2.2.2 (D j 4) = 13 := by simp only [sN]; rw [if_neg hn_D_j_4]; exact (hw 80113 (D j 2) 0 (D j 4) ((hP j hj).2 8 (by decide)) (by decide))
        have hn_D_j_5 : D j 5 ≠ q := ne0 ((hw 80214 (D j 2) 0 (D j 5) ((hP j hj).2 9 (by decide)) (by decide))) hq (by decide)
        have hk_D_j_5 : (sN σ q 3).2.2.2 (D j 5) = 14 := by simp only [sN]; rw [if_neg hn_D_j_5]; exact (hw 80214 (D j 2) 0 (D j 5) ((hP j hj).2 9 (by decide)) (by decide))
        have hn_D_j_7 : D j 7 ≠ q := ne0 ((hw 90015 (D j 6) 0 (D j 7) ((hP j hj).2 10 (by decide)) (by decide))) hq (by decide)
        have hk_D_j_7 : (sN σ q 3).2.2.2 (D j 7) = 15 := by simp only [sN]; rw [if_neg hn_D_j_7]; exact (hw 90015 (D j 6) 0 (D j 7) ((hP j hj).2 10 (by decide)) (by decide))
        have hn_D_j_9 : D j 9 ≠ q := ne0 ((hw 40016 (D j 8) 0 (D j 9) ((hP j hj).2 11 (by decide)) (by decide))) hq (by decide)
        have hk_D_j_9 : (sN σ q 3).2.2.2 (D j 9) = 16 := by simp only [sN]; rw [if_neg hn_D_j_9]; exact (hw 40016 (D j 8) 0 (D j 9) ((hP j hj).2 11 (by decide)) (by decide))
        have hn_D_j_10 : D j 10 ≠ q := ne0 ((hw 40117 (D j 8) 0 (D j 10) ((hP j hj).2 12 (by decide)) (by decide))) hq (by decide)
        have hk_D_j_10 : (sN σ q 3).2.2.2 (D j 10) = 17 := by simp only [sN]; rw [if_neg hn_D_j_10]; exact (hw 40117 (D j 8) 0 (D j 10) ((hP j hj).2 12 (by decide)) (by decide))
        have hn_D_j_11 : D j 11 ≠ q := ne0 ((hw 40218 (D j 8) 0 (D j 11) ((hP j hj).2 13 (by decide)) (by decide))) hq (by decide)
        have hk_D_j_11 : (sN σ q 3).2.2.2 (D j 11) = 18 := by simp only [sN]; rw [if_neg hn_D_j_11]; exact (hw 40218 (D j 8) 0 (D j 11) ((hP j hj).2 13 (by decide)) (by decide))
        have hkq : (sN σ q 3).2.2.2 q = 3 := by simp [sN]
        show WG _ _ _ _ _ _ _ (35, [(3, vR (some (D j 0))), (0, vR (some x)), (1, vI (nI j)), (2, vI y)], [vR (some q), vI y, vR (σ.2.1 20111 (D j 0) 0)], sN σ q 3, 0 + 2 + 1, 0 + 12 + 6)
        refine w_run 3 (S' := (38, [(3, vR (some (D j 0))), (0, vR (some x)), (1, vI (nI j)), (2, vI y)], [vI y, vI (nI j), vR (some q), vR (some q), vI y, vR (σ.2.1 20111 (D j 0) 0)], sN σ q 3, 0 + 2 + 1, 0 + 12 + 6)) rfl ?_
        refine w_callI (st := [vR (some q), vI y, vR (σ.2.1 20111 (D j 0) 0)]) [vI (nI j), vI y] rfl ml_0_81 rfl rfl (by simp only [RM]; omega) (by simp only [RM]; show 8 + (3 + 11) + _ ≤ _; omega) rfl (by simp only [RM]; omega) (by simp only [RM]; omega) (c_nd_init l E (d - 1) (sN σ q 3) q (nI j) y (by omega) hkq) ?_
        intro r9 s9 q9
        rw [q9.1, q9.2]
        clear q9 r9 s9
        show WG _ _ _ _ _ _ _ (41, [(3, vR (some (D j 0))), (0, vR (some x)), (1, vI (nI j)), (2, vI y)], [vR (some q), vI y, vR (σ.2.1 20111 (D j 0) 0)], sI (sI (sN σ q 3) 30000 q 0 (nI j)) 30100 q 0 y, 0 + 2 + 1, 0 + 12 + 6)
        refine w_aast (k := 11) rfl ((hP j hj).2 0 (by decide)) hk_D_j_1 rfl (by decide) rfl hkq rfl rfl rfl (show vp_in y 10 from (in_le c1 c2 (by decide) (by decide))) ?_
        show WG _ _ _ _ _ _ _ (42, [(3, vR (some (D j 0))), (0, vR (some x)), (1, vI (nI j)), (2, vI y)], [], sO (sI (sI (sN σ q 3) 30000 q 0 (nI j)) 30100 q 0 y) 110003 (D j 1) y.toNatClampNeg (some q), 0 + 2 + 1, 0 + 12 + 6)
        refine w_run 1 (S' := (43, [(3, vR (some (D j 0))), (0, vR (some x)), (1, vI (nI j)), (2, vI y)], [vI 1], sO (sI (sI (sN σ q 3) 30000 q 0 (nI j)) 30100 q 0 y) 110003 (D j 1) y.toNatClampNeg (some q), 0 + 2 + 1, 0 + 12 + 6)) rfl ?_
        exact w_iret rfl (Or.inr ⟨rfl, Or.inr rfl⟩) (by omega) (by omega) (⟨j, hj, rfl, hal, 1, rfl, by unfold osvP; rw [if_neg c1, if_pos (Int32.not_le.mp c2), c3]; exact ⟨rfl, q, hq, hqe, rfl⟩⟩)
      · refine w_run 1 (S' := (26, [(3, vR (some (D j 0))), (0, vR (some x)), (1, vI (nI j)), (2, vI y)], [vI 0], σ, 0 + 2, 0 + 12)) rfl ?_
        exact w_iret rfl (Or.inr ⟨rfl, Or.inl rfl⟩) (by omega) (by omega) (⟨j, hj, rfl, hal, 0, rfl, by simp [osvP, c1, c2, c3]⟩)

def bX (σ : Sg) (D : Nat → Nat → Nat) (p : Int32) : String → Sg → Prop := fun X σ' => σ' = σ ∧ ((X = "java/lang/IllegalArgumentException" ∧ (p < 0 ∨ 4 ≤ p)) ∨ (X = "java/lang/IllegalStateException" ∧ ∃ j, j < 4 ∧ p = nI j ∧ ¬ σ.1 20800 (D j 0) 0 = 0))
set_option maxHeartbeats 4000000 in
theorem c_od_born (l : Launch) (E : FE) (d : Nat) (σ : Sg) (D : Nat → Nat → Nat) (x a0 : Nat) (p : Int32) (hd : 7 ≤ d) (hl0 : l.stackTraces = false) (hx : σ.2.2.2 x = 1) (h0 : σ.2.1 10010 x 0 = some a0) (h3 : ∀ j, j < 4 → σ.2.1 100002 a0 j = some (D j 0)) (hP : ∀ j, j < 4 → SHp σ (D j)) (hw : WF σ) : CT l E d 47 [vR (some x), vI p] σ 2 12 (fun r σ' => ∃ j, j < 4 ∧ p = nI j ∧ σ.1 20800 (D j 0) 0 = 0 ∧ r = none ∧ σ' = sI (sI σ 20800 (D j 0) 0 1) 20900 (D j 0) 0 (σ.1 20900 (D j 0) 0 + 1)) (bX σ D p) := by
  refine CTo ok_od_born (by decide +kernel) rfl rfl rfl ?_
  refine w_run 2 (S' := (2, [(0, vR (some x)), (1, vI p)], [vI p, vR (some x)], σ, 0, 0)) rfl ?_
  refine w_callV (st := []) [vI p] rfl ml_0_18 rfl rfl hx rfl rfl rfl (by simp only [RM]; omega) (by simp only [RM]; show 8 + (2 + 11) + _ ≤ _; omega) rfl (by simp only [RM]; omega) (by simp only [RM]; omega) (c_od_existing l E (d - 1) σ D x a0 p (by omega) hl0 hx h0 h3 hP hw) (fun X9 s9 h9 => x_out rfl (by omega) (by omega) ⟨h9.1, Or.inl h9.2⟩) ?_
  intro r9 s9 q9
  obtain ⟨j, hj, rfl, e1, e2⟩ := q9
  rw [e1, e2]
  clear e1 e2 r9 s9
  show WG _ _ _ _ _ _ _ (5, [(0, vR (some x)), (1, vI (nI j))], [vR (some (D j 0))], σ, 0 + 1, 0 + 6)
  refine w_run 2 (S' := (7, [(2, vR (some (D j 0))), (0, vR (some x)), (1, vI (nI j))], [vR (some (D j 0))], σ, 0 + 1, 0 + 6)) rfl ?_
  refine w_get (k := 2) (vI (σ.1 20800 (D j 0) 0)) rfl rfl rfl ((hP j hj).1) rfl rfl ?_
  refine w_if_eq rfl (fun c1 => ?_) (fun c1 => ?_)
  · refine w_run 2 (S' := (25, [(2, vR (some (D j 0))), (0, vR (some x)), (1, vI (nI j))], [vI 1, vR (some (D j 0))], σ, 0 + 1, 0 + 6)) rfl ?_
    refine w_puti (k := 2) rfl rfl rfl ((hP j hj).1) rfl rfl (Or.inr ⟨rfl, Or.inr rfl⟩) (Or.inl rfl) ?_
    show WG _ _ _ _ _ _ _ (28, [(2, vR (some (D j 0))), (0, vR (some x)), (1, vI (nI j))], [], sI σ 20800 (D j 0) 0 1, 0 + 1, 0 + 6)
    refine w_run 2 (S' := (30, [(2, vR (some (D j 0))), (0, vR (some x)), (1, vI (nI j))], [vR (some (D j 0)), vR (some (D j 0))], sI σ 20800 (D j 0) 0 1, 0 + 1, 0 + 6)) rfl ?_
    refine w_get (k := 2) (vI (σ.1 20900 (D j 0) 0)) rfl rfl rfl ((hP j hj).1) rfl rfl ?_
    refine w_run 2 (S' := (35, [(2, vR (some (D j 0))), (0, vR (some x)), (1, vI (nI j))], [vI ((σ.1 20900 (D j 0) 0) + 1), vR (some (D j 0))], sI σ 20800 (D j 0) 0 1, 0 + 1, 0 + 6)) rfl ?_
    refine w_puti (k := 2) rfl rfl rfl ((hP j hj).1) rfl rfl (Or.inl rfl) (Or.inl rfl) ?_
    show WG _ _ _ _ _ _ _ (38, [(2, vR (some (D j 0))), (0, vR (some x)), (1, vI (nI j))], [], sI (sI σ 20800 (D j 0) 0 1) 20900 (D j 0) 0 ((σ.1 20900 (D j 0) 0) + 1), 0 + 1, 0 + 6)
    exact w_vret rfl rfl (by omega) (by omega) (⟨j, hj, rfl, c1, rfl, rfl⟩)
  · exact w_throwS (text := "the process is alive") hl0 rfl rfl rfl rfl rfl ts_IS (by decide) rfl rfl (by omega) (by omega) (by omega) (⟨rfl, Or.inr ⟨rfl, j, hj, rfl, c1⟩⟩)

def snF (σ : Sg) (x : Nat) (P : Nat → Nat) (y : Int32) : Option Nat := if y = 0 then σ.2.1 10103 x 0 else strongF (σ.2.1 120003 (P 3)) (σ.1 130000 (P 4)) y
set_option maxHeartbeats 4000000 in
theorem c_od_strongNode (l : Launch) (E : FE) (d : Nat) (σ : Sg) (P : Nat → Nat) (x : Nat) (y : Int32) (hd : 2 ≤ d) (hx : σ.2.2.2 x = 1) (hP : SHp σ P) (hw : WF σ) : CT l E d 66 [vR (some x), vR (some (P 0)), vI y] σ 0 0 (fun r σ' => r = some (vR (snF σ x P y)) ∧ σ' = σ) (fun _ _ => False) := by
  refine CTo ok_od_strongNode (by decide +kernel) rfl rfl rfl ?_
  refine w_run 1 (S' := (1, [(0, vR (some x)), (1, vR (some (P 0))), (2, vI y)], [vI y], σ, 0, 0)) rfl ?_
  refine w_if_ne rfl (fun c1 => ?_) (fun c1 => ?_)
  · refine w_run 1 (S' := (12, [(0, vR (some x)), (1, vR (some (P 0))), (2, vI y)], [vR (some (P 0))], σ, 0, 0)) rfl ?_
    refine w_get (k := 2) (vR (σ.2.1 20208 (P 0) 0)) rfl rfl rfl hP.1 rfl rfl ?_
    refine w_run 1 (S' := (16, [(0, vR (some x)), (1, vR (some (P 0))), (2, vI y)], [vI y, vR (σ.2.1 20208 (P 0) 0)], σ, 0, 0)) rfl ?_
    refine Eq.mp (congrArg (fun x9 => WG _ _ _ _ _ _ _ (16, [(0, vR (some x)), (1, vR (some (P 0))), (2, vI y)], [vI y, vR x9], σ, 0, 0)) (Eq.symm (hP.2 1 (by decide)) : some (P 2) = σ.2.1 20208 (P 0) 0)) ?_
    show WG _ _ _ _ _ _ _ (16, [(0, vR (some x)), (1, vR (some (P 0))), (2, vI y)], [vI y, vR (some (P 2))], σ, 0, 0)
    refine w_callV (st := []) [vI y] rfl ml_0_270 rfl rfl (hw 20208 (P 0) 0 (P 2) (hP.2 1 (by decide)) (by decide)) rfl rfl rfl (by simp only [RM]; omega) (by simp only [RM]; show 8 + (2 + 11) + _ ≤ _; omega) rfl (by simp only [RM]; omega) (by simp only [RM]; omega) (c_hs_strongNode l E (d - 1) σ (P 2) (P 3) (P 4) 0 y (by omega) ((hw 20208 (P 0) 0 (P 2) (hP.2 1 (by decide)) (by decide))) (hP.2 7 (by decide)) (hP.2 8 (by decide)) hw) (fun _ _ h => h.elim) ?_
    intro r9 s9 q9
    rw [q9.1, q9.2]
    clear q9 r9 s9
    show WG _ _ _ _ _ _ _ (19, [(0, vR (some x)), (1, vR (some (P 0))), (2, vI y)], [vR (strongF (σ.2.1 120003 (P 3)) (σ.1 130000 (P 4)) y)], σ, 0, 0)
    exact w_aret rfl rfl (Or.inl ⟨_, rfl⟩) (by omega) (by omega) (⟨by simp [snF, c1], rfl⟩)
  · refine w_run 1 (S' := (5, [(0, vR (some x)), (1, vR (some (P 0))), (2, vI y)], [vR (some x)], σ, 0, 0)) rfl ?_
    refine w_get (k := 1) (vR (σ.2.1 10103 x 0)) rfl rfl rfl hx rfl rfl ?_
    refine w_run 1 (S' := (19, [(0, vR (some x)), (1, vR (some (P 0))), (2, vI y)], [vR (σ.2.1 10103 x 0)], σ, 0, 0)) rfl ?_
    exact w_aret rfl rfl (Or.inl ⟨_, rfl⟩) (by omega) (by omega) (⟨by simp [snF, c1], rfl⟩)

set_option maxHeartbeats 4000000 in
theorem c_od_watch (l : Launch) (E : FE) (d : Nat) (σ : Sg) (D : Nat → Nat → Nat) (x a0 : Nat) (p y c : Int32) (L1 L2 L3 : Nat → List Nat) (AR1 AR2 AR3 : Nat → Nat) (hd : 9 ≤ d) (hl0 : l.stackTraces = false) (hx : σ.2.2.2 x = 1) (h0 : σ.2.1 10010 x 0 = some a0) (h3 : ∀ j, j < 4 → σ.2.1 100002 a0 j = some (D j 0)) (hP : ∀ j, j < 4 → SHp σ (D j)) (hw : WF σ) (hl20 : LLx E 20 41 5 (fun p => D p 12) L1 AR1 σ) (hl21 : LLx E 21 42 6 (fun p => D p 13) L2 AR2 σ) (hl22 : LLx E 22 43 7 (fun p => D p 14) L3 AR3 σ) (hb20 : ∀ j, j < 4 → (L1 j).length < 128) (hb22 : ∀ j, j < 4 → (L3 j).length < 128) : CT l E d 61 [vR (some x), vI p, vI y, vI c] σ 4 470 (fun r σ' => ∃ j, j < 4 ∧ p = nI j ∧ ¬ σ.1 20800 (D j 0) 0 = 0 ∧ (∃ v, r = some (vI v) ∧ owtP E D j L1 L3 σ y c v σ')) (oX σ D p) := by
  refine CTo ok_od_watch (by decide +kernel) rfl rfl rfl ?_
  refine w_run 2 (S' := (2, [(0, vR (some x)), (1, vI p), (2, vI y), (3, vI c)], [vI p, vR (some x)], σ, 0, 0)) rfl ?_
  refine w_callV (st := []) [vI p] rfl ml_0_37 rfl rfl hx rfl rfl rfl (by simp only [RM]; omega) (by simp only [RM]; show 8 + (3 + 11) + _ ≤ _; omega) rfl (by simp only [RM]; omega) (by simp only [RM]; omega) (c_od_living l E (d - 1) σ D x a0 p (by omega) hl0 hx h0 h3 hP hw) (fun X9 s9 h9 => x_out rfl (by omega) (by omega) h9) ?_
  intro r9 s9 q9
  obtain ⟨j, hj, rfl, hal, e1, e2⟩ := q9
  rw [e1, e2]
  clear e1 e2 r9 s9
  show WG _ _ _ _ _ _ _ (5, [(0, vR (some x)), (1, vI (nI j)), (2, vI y), (3, vI c)], [vR (some (D j 0))], σ, 0 + 2, 0 + 12)
  refine w_run 2 (S' := (9, [(4, vR (some (D j 0))), (0, vR (some x)), (1, vI (nI j)), (2, vI y), (3, vI c)], [vR (some (D j 0))], σ, 0 + 2, 0 + 12)) rfl ?_
  refine w_get (k := 2) (vR (σ.2.1 20208 (D j 0) 0)) rfl rfl rfl ((hP j hj).1) rfl rfl ?_
  refine w_run 1 (S' := (13, [(4, vR (some (D j 0))), (0, vR (some x)), (1, vI (nI j)), (2, vI y), (3, vI c)], [vI y, vR (σ.2.1 20208 (D j 0) 0)], σ, 0 + 2, 0 + 12)) rfl ?_
  refine Eq.mp (congrArg (fun x9 => WG _ _ _ _ _ _ _ (13, [(4, vR (some (D j 0))), (0, vR (some x)), (1, vI (nI j)), (2, vI y), (3, vI c)], [vI y, vR x9], σ, 0 + 2, 0 + 12)) (Eq.symm ((hP j hj).2 1 (by decide)) : some (D j 2) = σ.2.1 20208 (D j 0) 0)) ?_
  show WG _ _ _ _ _ _ _ (13, [(4, vR (some (D j 0))), (0, vR (some x)), (1, vI (nI j)), (2, vI y), (3, vI c)], [vI y, vR (some (D j 2))], σ, 0 + 2, 0 + 12)
  refine w_callV (st := []) [vI y] rfl ml_0_229 rfl rfl (hw 20208 (D j 0) 0 (D j 2) ((hP j hj).2 1 (by decide)) (by decide)) rfl rfl rfl (by simp only [RM]; omega) (by simp only [RM]; show 8 + (2 + 11) + _ ≤ _; omega) rfl (by simp only [RM]; omega) (by simp only [RM]; omega) (c_hs_has l E (d - 1) σ (D j 2) (D j 3) y ((hw 20208 (D j 0) 0 (D j 2) ((hP j hj).2 1 (by decide)) (by decide))) ((hP j hj).2 7 (by decide)) hw) (fun _ _ h => h.elim) ?_
  intro r9 s9 q9
  rw [q9.1, q9.2]
  clear q9 r9 s9
  show WG _ _ _ _ _ _ _ (16, [(4, vR (some (D j 0))), (0, vR (some x)), (1, vI (nI j)), (2, vI y), (3, vI c)], [vI (hasF (σ.2.1 120003 (D j 3)) y)], σ, 0 + 2, 0 + 12)
  refine w_if_eq rfl (fun c1 => ?_) (fun c1 => ?_)
  · refine w_run 1 (S' := (28, [(4, vR (some (D j 0))), (0, vR (some x)), (1, vI (nI j)), (2, vI y), (3, vI c)], [vI 0], σ, 0 + 2, 0 + 12)) rfl ?_
    exact w_iret rfl (Or.inr ⟨rfl, Or.inl rfl⟩) (by omega) (by omega) (⟨j, hj, rfl, hal, 0, rfl, by unfold owtP; rw [if_pos c1]; exact ⟨rfl, rfl⟩⟩)
  · obtain ⟨c1_, c2_, a9, ha9⟩ := hasF_1 c1
    refine w_run 1 (S' := (21, [(4, vR (some (D j 0))), (0, vR (some x)), (1, vI (nI j)), (2, vI y), (3, vI c)], [vR (some (D j 0))], σ, 0 + 2, 0 + 12)) rfl ?_
    refine w_callV (st := []) [] rfl ml_0_233 rfl rfl ((hP j hj).1) rfl rfl rfl (by simp only [RM]; omega) (by simp only [RM]; show 8 + (1 + 11) + _ ≤ _; omega) rfl (by simp only [RM]; omega) (by simp only [RM]; omega) (c_pr_hasRoomForWatch l E (d - 1) σ (D j) (fun p => D p 12) (fun p => D p 14) L1 L3 AR1 AR3 j (by omega) (hP j hj) hw hj hl20 hl22 rfl rfl) (fun _ _ h => h.elim) ?_
    intro r9 s9 q9
    rw [q9.1, q9.2]
    clear q9 r9 s9
    show WG _ _ _ _ _ _ _ (24, [(4, vR (some (D j 0))), (0, vR (some x)), (1, vI (nI j)), (2, vI y), (3, vI c)], [vI (if 8 ≤ (L3 j).length then 0 else if 24 ≤ (L1 j).length + (L3 j).length then 0 else 1)], σ, 0 + 2, 0 + 12)
    refine w_if_ne rfl (fun c2 => ?_) (fun c2 => ?_)
    · refine w_run 2 (S' := (33, [(4, vR (some (D j 0))), (0, vR (some x)), (1, vI (nI j)), (2, vI y), (3, vI c)], [vR (some (D j 0)), vR (some (D j 0))], σ, 0 + 2, 0 + 12)) rfl ?_
      refine w_get (k := 2) (vR (σ.2.1 20208 (D j 0) 0)) rfl rfl rfl ((hP j hj).1) rfl rfl ?_
      refine w_get (k := 8) (vR (σ.2.1 80012 (D j 2) 0)) rfl rfl ((hP j hj).2 1 (by decide)) (hw 20208 (D j 0) 0 (D j 2) ((hP j hj).2 1 (by decide)) (by decide)) rfl rfl ?_
      refine w_run 1 (S' := (40, [(4, vR (some (D j 0))), (0, vR (some x)), (1, vI (nI j)), (2, vI y), (3, vI c)], [vI y, vR (σ.2.1 80012 (D j 2) 0), vR (some (D j 0))], σ, 0 + 2, 0 + 12)) rfl ?_
      refine w_aald (k := 12) rfl ((hP j hj).2 7 (by decide)) (hw 80012 (D j 2) 0 (D j 3) ((hP j hj).2 7 (by decide)) (by decide)) rfl rfl (show vp_in y 16 from (in_lt c1_ c2_ (by decide) (by decide))) ?_
      show WG _ _ _ _ _ _ _ (41, [(4, vR (some (D j 0))), (0, vR (some x)), (1, vI (nI j)), (2, vI y), (3, vI c)], [vR (σ.2.1 120003 (D j 3) y.toNatClampNeg), vR (some (D j 0))], σ, 0 + 2, 0 + 12)
      refine w_run 1 (S' := (42, [(4, vR (some (D j 0))), (0, vR (some x)), (1, vI (nI j)), (2, vI y), (3, vI c)], [vI c, vR (σ.2.1 120003 (D j 3) y.toNatClampNeg), vR (some (D j 0))], σ, 0 + 2, 0 + 12)) rfl ?_
      refine Eq.mp (congrArg (fun x9 => WG _ _ _ _ _ _ _ (42, [(4, vR (some (D j 0))), (0, vR (some x)), (1, vI (nI j)), (2, vI y), (3, vI c)], [vI c, vR x9, vR (some (D j 0))], σ, 0 + 2, 0 + 12)) (Eq.symm ha9 : some a9 = σ.2.1 120003 (D j 3) y.toNatClampNeg)) ?_
      show WG _ _ _ _ _ _ _ (42, [(4, vR (some (D j 0))), (0, vR (some x)), (1, vI (nI j)), (2, vI y), (3, vI c)], [vI c, vR (some a9), vR (some (D j 0))], σ, 0 + 2, 0 + 12)
      refine w_callV (st := []) [vR (some a9), vI c] rfl ml_0_237 rfl rfl ((hP j hj).1) rfl rfl rfl (by simp only [RM]; omega) (by simp only [RM]; show 8 + (3 + 11) + _ ≤ _; omega) rfl (by simp only [RM]; omega) (by simp only [RM]; omega) (c_pr_watchNode l E (d - 1) σ D j a9 c L1 AR1 L3 AR3 (by omega) hj (hP j hj) hw hl20 hl22 (hw 120003 (D j 3) y.toNatClampNeg a9 ha9 (by decide)) (by have := hb20 j hj; omega) (by have := hb22 j hj; omega)) (fun _ _ h => h.elim) ?_
      intro r9 s9 q9
      obtain ⟨e1, q9⟩ := q9
      subst e1
      show WG _ _ _ _ _ _ _ (45, [(4, vR (some (D j 0))), (0, vR (some x)), (1, vI (nI j)), (2, vI y), (3, vI c)], [], s9, 0 + 2 + 2, 0 + 12 + 453)
      refine w_run 1 (S' := (46, [(4, vR (some (D j 0))), (0, vR (some x)), (1, vI (nI j)), (2, vI y), (3, vI c)], [vI 1], s9, 0 + 2 + 2, 0 + 12 + 453)) rfl ?_
      exact w_iret rfl (Or.inr ⟨rfl, Or.inr rfl⟩) (by omega) (by omega) (⟨j, hj, rfl, hal, 1, rfl, by unfold owtP; rw [if_neg c1, if_neg (fun z => by simp [z] at c2), if_neg (fun z => by by_cases z1 : 8 ≤ (L3 j).length <;> simp [z1, z] at c2)]; exact ⟨a9, ha9, rfl, q9⟩⟩)
    · refine w_run 1 (S' := (28, [(4, vR (some (D j 0))), (0, vR (some x)), (1, vI (nI j)), (2, vI y), (3, vI c)], [vI 0], σ, 0 + 2, 0 + 12)) rfl ?_
      exact w_iret rfl (Or.inr ⟨rfl, Or.inl rfl⟩) (by omega) (by omega) (⟨j, hj, rfl, hal, 0, rfl, by unfold owtP; rw [if_neg c1]; by_cases z1 : 8 ≤ (L3 j).length <;> by_cases z2 : 24 ≤ (L1 j).length + (L3 j).length <;> simp [z1, z2] at c2 ⊢⟩)

theorem acc_k {E : FE} {D : Nat → Nat → Nat} {p w : Nat} {L2 : Nat → List Nat} {σ σ' : Sg} (h : accP E D p w L2 σ σ') (hw5 : σ.2.2.2 w = 5) : σ'.2.2.2 w = 5 ∧ σ'.1 50000 w 0 = σ.1 50000 w 0 := by
  unfold accP at h
  split at h
  · split at h
    · subst h; exact ⟨hw5, rfl⟩
    · split at h
      · subst h; exact ⟨hw5, rfl⟩
      · subst h; exact ⟨hw5, rfl⟩
  · split at h
    · obtain ⟨AR', -, he⟩ := h
      have hz : (sI (sO σ 21105 (D p 0) 0 (some w)) 61000 ‹Nat› 0 1).2.2.2 w ≠ 0 := by show σ.2.2.2 w ≠ 0; rw [hw5]; decide
      exact ⟨(he.1 w hz).trans hw5, (he.2.2.1 50000 w 0 hz (by decide) (by decide)).1⟩
    · split at h
      · subst h; exact ⟨hw5, rfl⟩
      · split at h
        · subst h; exact ⟨hw5, rfl⟩
        · subst h; exact ⟨hw5, rfl⟩
set_option maxHeartbeats 4000000 in
theorem c_od_take (l : Launch) (E : FE) (d : Nat) (σ : Sg) (D : Nat → Nat → Nat) (x a0 : Nat) (p : Int32) (L1 L2 L3 : Nat → List Nat) (AR1 AR2 AR3 : Nat → Nat) (hd : 9 ≤ d) (hl0 : l.stackTraces = false) (hx : σ.2.2.2 x = 1) (h0 : σ.2.1 10010 x 0 = some a0) (h3 : ∀ j, j < 4 → σ.2.1 100002 a0 j = some (D j 0)) (hP : ∀ j, j < 4 → SHp σ (D j)) (hw : WF σ) (hl20 : LLx E 20 41 5 (fun p => D p 12) L1 AR1 σ) (hl21 : LLx E 21 42 6 (fun p => D p 13) L2 AR2 σ) (hl22 : LLx E 22 43 7 (fun p => D p 14) L3 AR3 σ) (hb21 : ∀ j, j < 4 → (L2 j).length < 128) : CT l E d 54 [vR (some x), vI p] σ 3 470 (fun r σ' => ∃ j, j < 4 ∧ p = nI j ∧ ¬ σ.1 20800 (D j 0) 0 = 0 ∧ (∃ v, r = some (vI v) ∧ otkP E D j L1 L2 σ v σ')) (oX σ D p) := by
  refine CTo ok_od_take (by decide +kernel) rfl rfl rfl ?_
  refine w_run 2 (S' := (2, [(0, vR (some x)), (1, vI p)], [vI p, vR (some x)], σ, 0, 0)) rfl ?_
  refine w_callV (st := []) [vI p] rfl ml_0_37 rfl rfl hx rfl rfl rfl (by simp only [RM]; omega) (by simp only [RM]; show 8 + (3 + 11) + _ ≤ _; omega) rfl (by simp only [RM]; omega) (by simp only [RM]; omega) (c_od_living l E (d - 1) σ D x a0 p (by omega) hl0 hx h0 h3 hP hw) (fun X9 s9 h9 => x_out rfl (by omega) (by omega) h9) ?_
  intro r9 s9 q9
  obtain ⟨j, hj, rfl, hal, e1, e2⟩ := q9
  rw [e1, e2]
  clear e1 e2 r9 s9
  show WG _ _ _ _ _ _ _ (5, [(0, vR (some x)), (1, vI (nI j))], [vR (some (D j 0))], σ, 0 + 2, 0 + 12)
  refine w_run 2 (S' := (7, [(2, vR (some (D j 0))), (0, vR (some x)), (1, vI (nI j))], [vR (some (D j 0))], σ, 0 + 2, 0 + 12)) rfl ?_
  refine w_get (k := 2) (vR (σ.2.1 20520 (D j 0) 0)) rfl rfl rfl ((hP j hj).1) rfl rfl ?_
  refine Eq.mp (congrArg (fun x9 => WG _ _ _ _ _ _ _ (10, [(2, vR (some (D j 0))), (0, vR (some x)), (1, vI (nI j))], [vR x9], σ, 0 + 2, 0 + 12)) (Eq.symm ((hP j hj).2 4 (by decide)) : some (D j 12) = σ.2.1 20520 (D j 0) 0)) ?_
  show WG _ _ _ _ _ _ _ (10, [(2, vR (some (D j 0))), (0, vR (some x)), (1, vI (nI j))], [vR (some (D j 12))], σ, 0 + 2, 0 + 12)
  refine w_callV (st := []) [] rfl ml_0_115 rfl rfl (hw 20520 (D j 0) 0 (D j 12) ((hP j hj).2 4 (by decide)) (by decide)) rfl rfl rfl (by simp only [RM]; omega) (by simp only [RM]; show 8 + (1 + 11) + _ ≤ _; omega) rfl (by simp only [RM]; omega) (by simp only [RM]; omega) (c_la_isEmpty_20 l E (d - 1) σ (fun p => D p 12) L1 AR1 hl20 j hj) (fun _ _ h => h.elim) ?_
  intro r9 s9 q9
  rw [q9.1, q9.2]
  clear q9 r9 s9
  show WG _ _ _ _ _ _ _ (13, [(2, vR (some (D j 0))), (0, vR (some x)), (1, vI (nI j))], [vI (if (L1 j).length = 0 then 1 else 0)], σ, 0 + 2, 0 + 12)
  refine w_if_eq rfl (fun c1 => ?_) (fun c1 => ?_)
  · obtain ⟨w, hw0⟩ : ∃ w, (L1 j)[0]? = some w := ⟨(L1 j)[0]'(by by_cases z : (L1 j).length = 0; simp [z] at c1; omega), List.getElem?_eq_getElem _⟩
    have hwk : σ.2.2.2 w = 5 := hl20.kd hw (by decide) (by decide) hj hw0
    have hb21j := hb21 j hj
    refine w_run 1 (S' := (19, [(2, vR (some (D j 0))), (0, vR (some x)), (1, vI (nI j))], [vR (some (D j 0))], σ, 0 + 2, 0 + 12)) rfl ?_
    refine w_get (k := 2) (vR (σ.2.1 20520 (D j 0) 0)) rfl rfl rfl ((hP j hj).1) rfl rfl ?_
    refine w_run 1 (S' := (23, [(2, vR (some (D j 0))), (0, vR (some x)), (1, vI (nI j))], [vI 0, vR (σ.2.1 20520 (D j 0) 0)], σ, 0 + 2, 0 + 12)) rfl ?_
    refine Eq.mp (congrArg (fun x9 => WG _ _ _ _ _ _ _ (23, [(2, vR (some (D j 0))), (0, vR (some x)), (1, vI (nI j))], [vI 0, vR x9], σ, 0 + 2, 0 + 12)) (Eq.symm ((hP j hj).2 4 (by decide)) : some (D j 12) = σ.2.1 20520 (D j 0) 0)) ?_
    show WG _ _ _ _ _ _ _ (23, [(2, vR (some (D j 0))), (0, vR (some x)), (1, vI (nI j))], [vI 0, vR (some (D j 12))], σ, 0 + 2, 0 + 12)
    refine w_callV (st := []) [vI 0] rfl ml_0_119 rfl rfl (hw 20520 (D j 0) 0 (D j 12) ((hP j hj).2 4 (by decide)) (by decide)) rfl rfl rfl (by simp only [RM]; omega) (by simp only [RM]; show 8 + (2 + 11) + _ ≤ _; omega) rfl (by simp only [RM]; omega) (by simp only [RM]; omega) (c_la_get_20 l E (d - 1) σ (fun p => D p 12) L1 AR1 hl20 j hj 0 w 0 (by omega) hw0) (fun _ _ h => h.elim) ?_
    intro r9 s9 q9
    rw [q9.1, q9.2]
    clear q9 r9 s9
    show WG _ _ _ _ _ _ _ (26, [(2, vR (some (D j 0))), (0, vR (some x)), (1, vI (nI j))], [vR (some w)], σ, 0 + 2, 0 + 12)
    refine w_cast (k := 5) rfl rfl (fun b9 h9 => by have e9 := (rfl : some w = some w).symm.trans h9; cases e9; exact hwk) rfl ?_
    refine w_run 2 (S' := (31, [(3, vR (some w)), (2, vR (some (D j 0))), (0, vR (some x)), (1, vI (nI j))], [vR (some w)], σ, 0 + 2, 0 + 12)) rfl ?_
    refine w_get (k := 5) (vI (σ.1 50000 w 0)) rfl rfl rfl hwk rfl rfl ?_
    refine w_run 1 (S' := (35, [(3, vR (some w)), (2, vR (some (D j 0))), (0, vR (some x)), (1, vI (nI j))], [vI 1, vI (σ.1 50000 w 0)], σ, 0 + 2, 0 + 12)) rfl ?_
    refine w_ic_ne rfl (fun c2 => ?_) (fun c2 => ?_)
    · refine w_run 1 (S' := (53, [(3, vR (some w)), (2, vR (some (D j 0))), (0, vR (some x)), (1, vI (nI j))], [vR (some (D j 0))], σ, 0 + 2, 0 + 12)) rfl ?_
      refine w_get (k := 2) (vR (σ.2.1 20520 (D j 0) 0)) rfl rfl rfl ((hP j hj).1) rfl rfl ?_
      refine w_run 1 (S' := (57, [(3, vR (some w)), (2, vR (some (D j 0))), (0, vR (some x)), (1, vI (nI j))], [vI 0, vR (σ.2.1 20520 (D j 0) 0)], σ, 0 + 2, 0 + 12)) rfl ?_
      refine Eq.mp (congrArg (fun x9 => WG _ _ _ _ _ _ _ (57, [(3, vR (some w)), (2, vR (some (D j 0))), (0, vR (some x)), (1, vI (nI j))], [vI 0, vR x9], σ, 0 + 2, 0 + 12)) (Eq.symm ((hP j hj).2 4 (by decide)) : some (D j 12) = σ.2.1 20520 (D j 0) 0)) ?_
      show WG _ _ _ _ _ _ _ (57, [(3, vR (some w)), (2, vR (some (D j 0))), (0, vR (some x)), (1, vI (nI j))], [vI 0, vR (some (D j 12))], σ, 0 + 2, 0 + 12)
      refine w_callV (st := []) [vI 0] rfl ml_0_133 rfl rfl (hw 20520 (D j 0) 0 (D j 12) ((hP j hj).2 4 (by decide)) (by decide)) rfl rfl rfl (by simp only [RM]; omega) (by simp only [RM]; show 8 + (4 + 11) + _ ≤ _; omega) rfl (by simp only [RM]; omega) (by simp only [RM]; omega) (c_la_remove_20 l E (d - 1) σ (fun p => D p 12) L1 AR1 hl20 j hj 0 w 0 (by omega) hw0) (fun _ _ h => h.elim) ?_
      intro r9 sa q9
      obtain ⟨e1, hl9, he9⟩ := q9
      subst e1
      have hw9 : WF sa := he9.2.2.2.2.2 hw
      have hPs : SHp sa (D j) := (hP j hj).eqk hw he9 (by decide) (by decide)
      have hwk9 : sa.2.2.2 w = 5 := (he9.1 w (by rw [hwk]; decide)).trans hwk
      have hl9b : LLx E 21 42 6 (fun p => D p 13) L2 AR2 sa := hl21.keep he9 (by decide) (by decide) (by decide) (by decide) (by decide) (by decide) (by decide)
      have hk9 : sa.1 50000 w 0 = σ.1 50000 w 0 := (he9.2.2.1 50000 w 0 (by rw [hwk]; decide) (by decide) (by decide)).1
      show WG _ _ _ _ _ _ _ (60, [(3, vR (some w)), (2, vR (some (D j 0))), (0, vR (some x)), (1, vI (nI j))], [vR (some w)], sa, 0 + 2, 0 + 12)
      refine w_run 3 (S' := (63, [(3, vR (some w)), (2, vR (some (D j 0))), (0, vR (some x)), (1, vI (nI j))], [vR (some w), vR (some (D j 0))], sa, 0 + 2, 0 + 12)) rfl ?_
      refine w_callV (st := []) [vR (some w)] rfl ml_0_136 rfl rfl hPs.1 rfl rfl rfl (by simp only [RM]; omega) (by simp only [RM]; show 8 + (2 + 11) + _ ≤ _; omega) rfl (by simp only [RM]; omega) (by simp only [RM]; omega) (c_pr_accept l E (d - 1) sa D j w L2 AR2 (by omega) hj hPs hw9 hl9b hwk9 (by have := hb21 j hj; omega)) (fun _ _ h => h.elim) ?_
      intro r9 t9 q9
      obtain ⟨e1, hac⟩ := q9
      subst e1
      have hk10 := acc_k hac hwk9
      show WG _ _ _ _ _ _ _ (66, [(3, vR (some w)), (2, vR (some (D j 0))), (0, vR (some x)), (1, vI (nI j))], [], t9, 0 + 2 + 1, 0 + 12 + 450)
      refine w_run 1 (S' := (67, [(3, vR (some w)), (2, vR (some (D j 0))), (0, vR (some x)), (1, vI (nI j))], [vR (some w)], t9, 0 + 2 + 1, 0 + 12 + 450)) rfl ?_
      refine w_get (k := 5) (vI (t9.1 50000 w 0)) rfl rfl rfl hk10.1 rfl rfl ?_
      exact w_iret rfl (Or.inl rfl) (by omega) (by omega) (⟨j, hj, rfl, hal, _, rfl, by unfold otkP; rw [hw0]; dsimp only; rw [if_neg (fun z => c2 z.1)]; exact ⟨hk10.2.trans hk9, sa, ⟨AR1, by rw [List.eraseIdx_zero] at hl9; exact hl9⟩, he9, hac⟩⟩)
    · refine w_run 1 (S' := (39, [(3, vR (some w)), (2, vR (some (D j 0))), (0, vR (some x)), (1, vI (nI j))], [vR (some (D j 0))], σ, 0 + 2, 0 + 12)) rfl ?_
      refine w_get (k := 2) (vR (σ.2.1 20621 (D j 0) 0)) rfl rfl rfl ((hP j hj).1) rfl rfl ?_
      refine Eq.mp (congrArg (fun x9 => WG _ _ _ _ _ _ _ (42, [(3, vR (some w)), (2, vR (some (D j 0))), (0, vR (some x)), (1, vI (nI j))], [vR x9], σ, 0 + 2, 0 + 12)) (Eq.symm ((hP j hj).2 5 (by decide)) : some (D j 13) = σ.2.1 20621 (D j 0) 0)) ?_
      show WG _ _ _ _ _ _ _ (42, [(3, vR (some w)), (2, vR (some (D j 0))), (0, vR (some x)), (1, vI (nI j))], [vR (some (D j 13))], σ, 0 + 2, 0 + 12)
      refine w_callV (st := []) [] rfl ml_0_129 rfl rfl (hw 20621 (D j 0) 0 (D j 13) ((hP j hj).2 5 (by decide)) (by decide)) rfl rfl rfl (by simp only [RM]; omega) (by simp only [RM]; show 8 + (1 + 11) + _ ≤ _; omega) rfl (by simp only [RM]; omega) (by simp only [RM]; omega) (c_la_size_21 l E (d - 1) σ (fun p => D p 13) L2 AR2 hl21 j hj) (fun _ _ h => h.elim) ?_
      intro r9 s9 q9
      rw [q9.1, q9.2]
      clear q9 r9 s9
      show WG _ _ _ _ _ _ _ (45, [(3, vR (some w)), (2, vR (some (D j 0))), (0, vR (some x)), (1, vI (nI j))], [vI (nI (L2 j).length)], σ, 0 + 2, 0 + 12)
      refine w_run 1 (S' := (47, [(3, vR (some w)), (2, vR (some (D j 0))), (0, vR (some x)), (1, vI (nI j))], [vI 12, vI (nI (L2 j).length)], σ, 0 + 2, 0 + 12)) rfl ?_
      rw [show (nI (L2 j).length : Int32) = nI ((L2 j).length) from by simp only [nl0, nl1, nl2, nl3, nl4, nl5, nl6, nl8, nl9, nl10, nl12, nl15, nl16, nl20, nl24, nl32, nl40, nl64, nl65, nl384, pk_mul, nI_add]]
      show WG _ _ _ _ _ _ _ (47, [(3, vR (some w)), (2, vR (some (D j 0))), (0, vR (some x)), (1, vI (nI j))], [vI 12, vI (nI ((L2 j).length))], σ, 0 + 2, 0 + 12)
      refine w_ic_lt rfl (fun c3 => ?_) (fun c3 => ?_)
      · have nc3 := (nI_ltI (a := (L2 j).length) (b := 12) (by omega) (by omega)).mp c3
        refine w_run 1 (S' := (53, [(3, vR (some w)), (2, vR (some (D j 0))), (0, vR (some x)), (1, vI (nI j))], [vR (some (D j 0))], σ, 0 + 2, 0 + 12)) rfl ?_
        refine w_get (k := 2) (vR (σ.2.1 20520 (D j 0) 0)) rfl rfl rfl ((hP j hj).1) rfl rfl ?_
        refine w_run 1 (S' := (57, [(3, vR (some w)), (2, vR (some (D j 0))), (0, vR (some x)), (1, vI (nI j))], [vI 0, vR (σ.2.1 20520 (D j 0) 0)], σ, 0 + 2, 0 + 12)) rfl ?_
        refine Eq.mp (congrArg (fun x9 => WG _ _ _ _ _ _ _ (57, [(3, vR (some w)), (2, vR (some (D j 0))), (0, vR (some x)), (1, vI (nI j))], [vI 0, vR x9], σ, 0 + 2, 0 + 12)) (Eq.symm ((hP j hj).2 4 (by decide)) : some (D j 12) = σ.2.1 20520 (D j 0) 0)) ?_
        show WG _ _ _ _ _ _ _ (57, [(3, vR (some w)), (2, vR (some (D j 0))), (0, vR (some x)), (1, vI (nI j))], [vI 0, vR (some (D j 12))], σ, 0 + 2, 0 + 12)
        refine w_callV (st := []) [vI 0] rfl ml_0_133 rfl rfl (hw 20520 (D j 0) 0 (D j 12) ((hP j hj).2 4 (by decide)) (by decide)) rfl rfl rfl (by simp only [RM]; omega) (by simp only [RM]; show 8 + (4 + 11) + _ ≤ _; omega) rfl (by simp only [RM]; omega) (by simp only [RM]; omega) (c_la_remove_20 l E (d - 1) σ (fun p => D p 12) L1 AR1 hl20 j hj 0 w 0 (by omega) hw0) (fun _ _ h => h.elim) ?_
        intro r9 sa q9
        obtain ⟨e1, hl9, he9⟩ := q9
        subst e1
        have hw9 : WF sa := he9.2.2.2.2.2 hw
        have hPs : SHp sa (D j) := (hP j hj).eqk hw he9 (by decide) (by decide)
        have hwk9 : sa.2.2.2 w = 5 := (he9.1 w (by rw [hwk]; decide)).trans hwk
        have hl9b : LLx E 21 42 6 (fun p => D p 13) L2 AR2 sa := hl21.keep he9 (by decide) (by decide) (by decide) (by decide) (by decide) (by decide) (by decide)
        have hk9 : sa.1 50000 w 0 = σ.1 50000 w 0 := (he9.2.2.1 50000 w 0 (by rw [hwk]; decide) (by decide) (by decide)).1
        show WG _ _ _ _ _ _ _ (60, [(3, vR (some w)), (2, vR (some (D j 0))), (0, vR (some x)), (1, vI (nI j))], [vR (some w)], sa, 0 + 2, 0 + 12)
        refine w_run 3 (S' := (63, [(3, vR (some w)), (2, vR (some (D j 0))), (0, vR (some x)), (1, vI (nI j))], [vR (some w), vR (some (D j 0))], sa, 0 + 2, 0 + 12)) rfl ?_
        refine w_callV (st := []) [vR (some w)] rfl ml_0_136 rfl rfl hPs.1 rfl rfl rfl (by simp only [RM]; omega) (by simp only [RM]; show 8 + (2 + 11) + _ ≤ _; omega) rfl (by simp only [RM]; omega) (by simp only [RM]; omega) (c_pr_accept l E (d - 1) sa D j w L2 AR2 (by omega) hj hPs hw9 hl9b hwk9 (by have := hb21 j hj; omega)) (fun _ _ h => h.elim) ?_
        intro r9 t9 q9
        obtain ⟨e1, hac⟩ := q9
        subst e1
        have hk10 := acc_k hac hwk9
        show WG _ _ _ _ _ _ _ (66, [(3, vR (some w)), (2, vR (some (D j 0))), (0, vR (some x)), (1, vI (nI j))], [], t9, 0 + 2 + 1, 0 + 12 + 450)
        refine w_run 1 (S' := (67, [(3, vR (some w)), (2, vR (some (D j 0))), (0, vR (some x)), (1, vI (nI j))], [vR (some w)], t9, 0 + 2 + 1, 0 + 12 + 450)) rfl ?_
        refine w_get (k := 5) (vI (t9.1 50000 w 0)) rfl rfl rfl hk10.1 rfl rfl ?_
        exact w_iret rfl (Or.inl rfl) (by omega) (by omega) (⟨j, hj, rfl, hal, _, rfl, by unfold otkP; rw [hw0]; dsimp only; rw [if_neg (fun z => by have := z.2; omega)]; exact ⟨hk10.2.trans hk9, sa, ⟨AR1, by rw [List.eraseIdx_zero] at hl9; exact hl9⟩, he9, hac⟩⟩)
      · have nc3 := mt (nI_ltI (a := (L2 j).length) (b := 12) (by omega) (by omega)).mpr c3
        refine w_run 1 (S' := (51, [(3, vR (some w)), (2, vR (some (D j 0))), (0, vR (some x)), (1, vI (nI j))], [vI 0], σ, 0 + 2, 0 + 12)) rfl ?_
        exact w_iret rfl (Or.inl rfl) (by omega) (by omega) (⟨j, hj, rfl, hal, 0, rfl, by unfold otkP; rw [hw0]; dsimp only; rw [if_pos ⟨c2, by omega⟩]; exact ⟨rfl, rfl⟩⟩)
  · refine w_run 1 (S' := (17, [(2, vR (some (D j 0))), (0, vR (some x)), (1, vI (nI j))], [vI 0], σ, 0 + 2, 0 + 12)) rfl ?_
    exact w_iret rfl (Or.inl rfl) (by omega) (by omega) (⟨j, hj, rfl, hal, 0, rfl, by unfold otkP; rw [show (L1 j)[0]? = none from by by_cases z : (L1 j).length = 0; exact List.getElem?_eq_none (by omega); simp [z] at c1]; exact ⟨rfl, rfl⟩⟩)

