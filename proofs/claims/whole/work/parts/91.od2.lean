/-! the class: hold, drop, item, draft, manage, count, handle, serve, born, watch, take -/
theorem addToF_b {σ : Sg} {h a1 a2 a3 : Nat} {n b : Int32} : (addToF σ h a1 a2 a3 n b).1 = 0 ∨ (addToF σ h a1 a2 a3 n b).1 = 1 := by
  unfold addToF
  repeat' split
  all_goals first | exact Or.inl rfl | exact Or.inr rfl
theorem takeF_b {σ : Sg} {h a1 a2 a3 : Nat} {n b : Int32} : (takeFromF σ h a1 a2 a3 n b).1 = 0 ∨ (takeFromF σ h a1 a2 a3 n b).1 = 1 := by
  unfold takeFromF
  repeat' split
  all_goals first | exact Or.inl rfl | exact Or.inr rfl
theorem appF_b {σ : Sg} {a a1 a2 : Nat} {k v : Int32} : (appF σ a a1 a2 k v).1 = 0 ∨ (appF σ a a1 a2 k v).1 = 1 := by
  unfold appF
  repeat' split
  all_goals first | exact Or.inl rfl | exact Or.inr rfl
theorem natF_k {σ : Sg} {a1 b : Nat} {k : Int32} (hw : WF σ) (h : natF (σ.2.1 110003 a1) k = some b) : σ.2.2.2 b = 3 := by
  obtain ⟨j, -, -, e⟩ := natF_some h
  exact hw _ _ _ _ e (by decide)
set_option maxHeartbeats 4000000 in
theorem c_od_hold (l : Launch) (E : FE) (d : Nat) (σ : Sg) (D : Nat → Nat → Nat) (x a0 : Nat) (p y b : Int32) (hd : 8 ≤ d) (hl0 : l.stackTraces = false) (hx : σ.2.2.2 x = 1) (h0 : σ.2.1 10010 x 0 = some a0) (h3 : ∀ j, j < 4 → σ.2.1 100002 a0 j = some (D j 0)) (hP : ∀ j, j < 4 → SHp σ (D j)) (hw : WF σ) : CT l E d 59 [vR (some x), vI p, vI y, vI b] σ 2 12 (fun r σ' => ∃ j, j < 4 ∧ p = nI j ∧ ¬ σ.1 20800 (D j 0) 0 = 0 ∧ (r = some (vI (addToF σ (D j 2) (D j 3) (D j 4) (D j 5) y b).1) ∧ σ' = (addToF σ (D j 2) (D j 3) (D j 4) (D j 5) y b).2)) (oX σ D p) := by
  refine CTo ok_od_hold (by decide +kernel) rfl rfl rfl ?_
  refine w_run 2 (S' := (2, [(0, vR (some x)), (1, vI p), (2, vI y), (3, vI b)], [vI p, vR (some x)], σ, 0, 0)) rfl ?_
  refine w_callV (st := []) [vI p] rfl ml_0_37 rfl rfl hx rfl rfl rfl (by simp only [RM]; omega) (by simp only [RM]; show 8 + (3 + 11) + _ ≤ _; omega) rfl (by simp only [RM]; omega) (by simp only [RM]; omega) (c_od_living l E (d - 1) σ D x a0 p (by omega) hl0 hx h0 h3 hP hw) (fun X9 s9 h9 => x_out rfl (by omega) (by omega) h9) ?_
  intro r9 s9 q9
  obtain ⟨j, hj, rfl, hal, e1, e2⟩ := q9
  rw [e1, e2]
  clear e1 e2 r9 s9
  show WG _ _ _ _ _ _ _ (5, [(0, vR (some x)), (1, vI (nI j)), (2, vI y), (3, vI b)], [vR (some (D j 0))], σ, 0 + 2, 0 + 12)
  refine w_get (k := 2) (vR (σ.2.1 20208 (D j 0) 0)) rfl rfl rfl ((hP j hj).1) rfl rfl ?_
  refine w_run 2 (S' := (10, [(0, vR (some x)), (1, vI (nI j)), (2, vI y), (3, vI b)], [vI b, vI y, vR (σ.2.1 20208 (D j 0) 0)], σ, 0 + 2, 0 + 12)) rfl ?_
  refine Eq.mp (congrArg (fun x9 => WG _ _ _ _ _ _ _ (10, [(0, vR (some x)), (1, vI (nI j)), (2, vI y), (3, vI b)], [vI b, vI y, vR x9], σ, 0 + 2, 0 + 12)) (Eq.symm ((hP j hj).2 1 (by decide)) : some (D j 2) = σ.2.1 20208 (D j 0) 0)) ?_
  show WG _ _ _ _ _ _ _ (10, [(0, vR (some x)), (1, vI (nI j)), (2, vI y), (3, vI b)], [vI b, vI y, vR (some (D j 2))], σ, 0 + 2, 0 + 12)
  refine w_callV (st := []) [vI y, vI b] rfl ml_0_222 rfl rfl (hw 20208 (D j 0) 0 (D j 2) ((hP j hj).2 1 (by decide)) (by decide)) rfl rfl rfl (by simp only [RM]; omega) (by simp only [RM]; show 8 + (3 + 11) + _ ≤ _; omega) rfl (by simp only [RM]; omega) (by simp only [RM]; omega) (c_hs_addTo l E (d - 1) σ (D j 2) (D j 3) (D j 4) (D j 5) 0 y b (by omega) ((hw 20208 (D j 0) 0 (D j 2) ((hP j hj).2 1 (by decide)) (by decide))) ((hP j hj).2 7 (by decide)) ((hP j hj).2 8 (by decide)) ((hP j hj).2 9 (by decide)) hw) (fun _ _ h => h.elim) ?_
  intro r9 s9 q9
  rw [q9.1, q9.2]
  clear q9 r9 s9
  show WG _ _ _ _ _ _ _ (13, [(0, vR (some x)), (1, vI (nI j)), (2, vI y), (3, vI b)], [vI ((addToF σ (D j 2) (D j 3) (D j 4) (D j 5) y b).1)], (addToF σ (D j 2) (D j 3) (D j 4) (D j 5) y b).2, 0 + 2, 0 + 12)
  exact w_iret rfl (Or.inr ⟨rfl, addToF_b⟩) (by omega) (by omega) (⟨j, hj, rfl, hal, rfl, rfl⟩)

set_option maxHeartbeats 4000000 in
theorem c_od_drop (l : Launch) (E : FE) (d : Nat) (σ : Sg) (D : Nat → Nat → Nat) (x a0 : Nat) (p y b : Int32) (hd : 8 ≤ d) (hl0 : l.stackTraces = false) (hx : σ.2.2.2 x = 1) (h0 : σ.2.1 10010 x 0 = some a0) (h3 : ∀ j, j < 4 → σ.2.1 100002 a0 j = some (D j 0)) (hP : ∀ j, j < 4 → SHp σ (D j)) (hw : WF σ) : CT l E d 60 [vR (some x), vI p, vI y, vI b] σ 2 12 (fun r σ' => ∃ j, j < 4 ∧ p = nI j ∧ ¬ σ.1 20800 (D j 0) 0 = 0 ∧ (r = some (vI (takeFromF σ (D j 2) (D j 3) (D j 4) (D j 5) y b).1) ∧ σ' = (takeFromF σ (D j 2) (D j 3) (D j 4) (D j 5) y b).2)) (oX σ D p) := by
  refine CTo ok_od_drop (by decide +kernel) rfl rfl rfl ?_
  refine w_run 2 (S' := (2, [(0, vR (some x)), (1, vI p), (2, vI y), (3, vI b)], [vI p, vR (some x)], σ, 0, 0)) rfl ?_
  refine w_callV (st := []) [vI p] rfl ml_0_37 rfl rfl hx rfl rfl rfl (by simp only [RM]; omega) (by simp only [RM]; show 8 + (3 + 11) + _ ≤ _; omega) rfl (by simp only [RM]; omega) (by simp only [RM]; omega) (c_od_living l E (d - 1) σ D x a0 p (by omega) hl0 hx h0 h3 hP hw) (fun X9 s9 h9 => x_out rfl (by omega) (by omega) h9) ?_
  intro r9 s9 q9
  obtain ⟨j, hj, rfl, hal, e1, e2⟩ := q9
  rw [e1, e2]
  clear e1 e2 r9 s9
  show WG _ _ _ _ _ _ _ (5, [(0, vR (some x)), (1, vI (nI j)), (2, vI y), (3, vI b)], [vR (some (D j 0))], σ, 0 + 2, 0 + 12)
  refine w_get (k := 2) (vR (σ.2.1 20208 (D j 0) 0)) rfl rfl rfl ((hP j hj).1) rfl rfl ?_
  refine w_run 2 (S' := (10, [(0, vR (some x)), (1, vI (nI j)), (2, vI y), (3, vI b)], [vI b, vI y, vR (σ.2.1 20208 (D j 0) 0)], σ, 0 + 2, 0 + 12)) rfl ?_
  refine Eq.mp (congrArg (fun x9 => WG _ _ _ _ _ _ _ (10, [(0, vR (some x)), (1, vI (nI j)), (2, vI y), (3, vI b)], [vI b, vI y, vR x9], σ, 0 + 2, 0 + 12)) (Eq.symm ((hP j hj).2 1 (by decide)) : some (D j 2) = σ.2.1 20208 (D j 0) 0)) ?_
  show WG _ _ _ _ _ _ _ (10, [(0, vR (some x)), (1, vI (nI j)), (2, vI y), (3, vI b)], [vI b, vI y, vR (some (D j 2))], σ, 0 + 2, 0 + 12)
  refine w_callV (st := []) [vI y, vI b] rfl ml_0_226 rfl rfl (hw 20208 (D j 0) 0 (D j 2) ((hP j hj).2 1 (by decide)) (by decide)) rfl rfl rfl (by simp only [RM]; omega) (by simp only [RM]; show 8 + (4 + 11) + _ ≤ _; omega) rfl (by simp only [RM]; omega) (by simp only [RM]; omega) (c_hs_takeFrom l E (d - 1) σ (D j 2) (D j 3) (D j 4) (D j 5) 0 y b (by omega) ((hw 20208 (D j 0) 0 (D j 2) ((hP j hj).2 1 (by decide)) (by decide))) ((hP j hj).2 7 (by decide)) ((hP j hj).2 8 (by decide)) ((hP j hj).2 9 (by decide)) hw) (fun _ _ h => h.elim) ?_
  intro r9 s9 q9
  rw [q9.1, q9.2]
  clear q9 r9 s9
  show WG _ _ _ _ _ _ _ (13, [(0, vR (some x)), (1, vI (nI j)), (2, vI y), (3, vI b)], [vI ((takeFromF σ (D j 2) (D j 3) (D j 4) (D j 5) y b).1)], (takeFromF σ (D j 2) (D j 3) (D j 4) (D j 5) y b).2, 0 + 2, 0 + 12)
  exact w_iret rfl (Or.inr ⟨rfl, takeF_b⟩) (by omega) (by omega) (⟨j, hj, rfl, hal, rfl, rfl⟩)

set_option maxHeartbeats 4000000 in
theorem c_od_item (l : Launch) (E : FE) (d : Nat) (σ : Sg) (D : Nat → Nat → Nat) (x a0 : Nat) (p y z : Int32) (hd : 8 ≤ d) (hl0 : l.stackTraces = false) (hx : σ.2.2.2 x = 1) (h0 : σ.2.1 10010 x 0 = some a0) (h3 : ∀ j, j < 4 → σ.2.1 100002 a0 j = some (D j 0)) (hP : ∀ j, j < 4 → SHp σ (D j)) (hw : WF σ) (hit : ∀ j, j < 4 → ¬ σ.1 40300 (D j 8) 0 < 0) : CT l E d 51 [vR (some x), vI p, vI y, vI z] σ 2 12 (fun r σ' => ∃ j, j < 4 ∧ p = nI j ∧ ¬ σ.1 20800 (D j 0) 0 = 0 ∧ (r = some (vI (appF σ (D j 8) (D j 9) (D j 10) y z).1) ∧ σ' = (appF σ (D j 8) (D j 9) (D j 10) y z).2)) (oX σ D p) := by
  refine CTo ok_od_item (by decide +kernel) rfl rfl rfl ?_
  refine w_run 2 (S' := (2, [(0, vR (some x)), (1, vI p), (2, vI y), (3, vI z)], [vI p, vR (some x)], σ, 0, 0)) rfl ?_
  refine w_callV (st := []) [vI p] rfl ml_0_37 rfl rfl hx rfl rfl rfl (by simp only [RM]; omega) (by simp only [RM]; show 8 + (3 + 11) + _ ≤ _; omega) rfl (by simp only [RM]; omega) (by simp only [RM]; omega) (c_od_living l E (d - 1) σ D x a0 p (by omega) hl0 hx h0 h3 hP hw) (fun X9 s9 h9 => x_out rfl (by omega) (by omega) h9) ?_
  intro r9 s9 q9
  obtain ⟨j, hj, rfl, hal, e1, e2⟩ := q9
  rw [e1, e2]
  clear e1 e2 r9 s9
  show WG _ _ _ _ _ _ _ (5, [(0, vR (some x)), (1, vI (nI j)), (2, vI y), (3, vI z)], [vR (some (D j 0))], σ, 0 + 2, 0 + 12)
  refine w_get (k := 2) (vR (σ.2.1 20404 (D j 0) 0)) rfl rfl rfl ((hP j hj).1) rfl rfl ?_
  refine w_run 2 (S' := (10, [(0, vR (some x)), (1, vI (nI j)), (2, vI y), (3, vI z)], [vI z, vI y, vR (σ.2.1 20404 (D j 0) 0)], σ, 0 + 2, 0 + 12)) rfl ?_
  refine Eq.mp (congrArg (fun x9 => WG _ _ _ _ _ _ _ (10, [(0, vR (some x)), (1, vI (nI j)), (2, vI y), (3, vI z)], [vI z, vI y, vR x9], σ, 0 + 2, 0 + 12)) (Eq.symm ((hP j hj).2 3 (by decide)) : some (D j 8) = σ.2.1 20404 (D j 0) 0)) ?_
  show WG _ _ _ _ _ _ _ (10, [(0, vR (some x)), (1, vI (nI j)), (2, vI y), (3, vI z)], [vI z, vI y, vR (some (D j 8))], σ, 0 + 2, 0 + 12)
  refine w_callV (st := []) [vI y, vI z] rfl ml_0_92 rfl rfl (hw 20404 (D j 0) 0 (D j 8) ((hP j hj).2 3 (by decide)) (by decide)) rfl rfl rfl (by simp only [RM]; omega) (by simp only [RM]; show 8 + (3 + 11) + _ ≤ _; omega) rfl (by simp only [RM]; omega) (by simp only [RM]; omega) (c_dr_append l E (d - 1) σ (D j 8) (D j 9) (D j 10) y z ((hw 20404 (D j 0) 0 (D j 8) ((hP j hj).2 3 (by decide)) (by decide))) ((hP j hj).2 11 (by decide)) ((hP j hj).2 12 (by decide)) (hit j hj) hw) (fun _ _ h => h.elim) ?_
  intro r9 s9 q9
  rw [q9.1, q9.2]
  clear q9 r9 s9
  show WG _ _ _ _ _ _ _ (13, [(0, vR (some x)), (1, vI (nI j)), (2, vI y), (3, vI z)], [vI ((appF σ (D j 8) (D j 9) (D j 10) y z).1)], (appF σ (D j 8) (D j 9) (D j 10) y z).2, 0 + 2, 0 + 12)
  exact w_iret rfl (Or.inr ⟨rfl, appF_b⟩) (by omega) (by omega) (⟨j, hj, rfl, hal, rfl, rfl⟩)

set_option maxHeartbeats 4000000 in
theorem c_od_draft (l : Launch) (E : FE) (d : Nat) (σ : Sg) (D : Nat → Nat → Nat) (x a0 : Nat) (p y : Int32) (hd : 8 ≤ d) (hl0 : l.stackTraces = false) (hx : σ.2.2.2 x = 1) (h0 : σ.2.1 10010 x 0 = some a0) (h3 : ∀ j, j < 4 → σ.2.1 100002 a0 j = some (D j 0)) (hP : ∀ j, j < 4 → SHp σ (D j)) (hw : WF σ) : CT l E d 52 [vR (some x), vI p, vI y] σ 2 12 (fun r σ' => ∃ j, j < 4 ∧ p = nI j ∧ ¬ σ.1 20800 (D j 0) 0 = 0 ∧ (r = some (vI (odrF σ (D j 8) y).1) ∧ σ' = (odrF σ (D j 8) y).2)) (oX σ D p) := by
  refine CTo ok_od_draft (by decide +kernel) rfl rfl rfl ?_
  refine w_run 2 (S' := (2, [(0, vR (some x)), (1, vI p), (2, vI y)], [vI p, vR (some x)], σ, 0, 0)) rfl ?_
  refine w_callV (st := []) [vI p] rfl ml_0_37 rfl rfl hx rfl rfl rfl (by simp only [RM]; omega) (by simp only [RM]; show 8 + (3 + 11) + _ ≤ _; omega) rfl (by simp only [RM]; omega) (by simp only [RM]; omega) (c_od_living l E (d - 1) σ D x a0 p (by omega) hl0 hx h0 h3 hP hw) (fun X9 s9 h9 => x_out rfl (by omega) (by omega) h9) ?_
  intro r9 s9 q9
  obtain ⟨j, hj, rfl, hal, e1, e2⟩ := q9
  rw [e1, e2]
  clear e1 e2 r9 s9
  show WG _ _ _ _ _ _ _ (5, [(0, vR (some x)), (1, vI (nI j)), (2, vI y)], [vR (some (D j 0))], σ, 0 + 2, 0 + 12)
  refine w_run 2 (S' := (7, [(3, vR (some (D j 0))), (0, vR (some x)), (1, vI (nI j)), (2, vI y)], [vI y], σ, 0 + 2, 0 + 12)) rfl ?_
  refine w_if_lt rfl (fun c1 => ?_) (fun c1 => ?_)
  · refine w_run 1 (S' := (17, [(3, vR (some (D j 0))), (0, vR (some x)), (1, vI (nI j)), (2, vI y)], [vI 0], σ, 0 + 2, 0 + 12)) rfl ?_
    exact w_iret rfl (Or.inr ⟨rfl, Or.inl rfl⟩) (by omega) (by omega) (⟨j, hj, rfl, hal, by simp [odrF, c1], by simp [odrF, c1]⟩)
  · refine w_run 2 (S' := (13, [(3, vR (some (D j 0))), (0, vR (some x)), (1, vI (nI j)), (2, vI y)], [vI 20, vI y], σ, 0 + 2, 0 + 12)) rfl ?_
    refine w_ic_le rfl (fun c2 => ?_) (fun c2 => ?_)
    · refine w_run 1 (S' := (19, [(3, vR (some (D j 0))), (0, vR (some x)), (1, vI (nI j)), (2, vI y)], [vR (some (D j 0))], σ, 0 + 2, 0 + 12)) rfl ?_
      refine w_get (k := 2) (vR (σ.2.1 20404 (D j 0) 0)) rfl rfl rfl ((hP j hj).1) rfl rfl ?_
      refine w_run 1 (S' := (23, [(3, vR (some (D j 0))), (0, vR (some x)), (1, vI (nI j)), (2, vI y)], [vI y, vR (σ.2.1 20404 (D j 0) 0)], σ, 0 + 2, 0 + 12)) rfl ?_
      refine Eq.mp (congrArg (fun x9 => WG _ _ _ _ _ _ _ (23, [(3, vR (some (D j 0))), (0, vR (some x)), (1, vI (nI j)), (2, vI y)], [vI y, vR x9], σ, 0 + 2, 0 + 12)) (Eq.symm ((hP j hj).2 3 (by decide)) : some (D j 8) = σ.2.1 20404 (D j 0) 0)) ?_
      show WG _ _ _ _ _ _ _ (23, [(3, vR (some (D j 0))), (0, vR (some x)), (1, vI (nI j)), (2, vI y)], [vI y, vR (some (D j 8))], σ, 0 + 2, 0 + 12)
      refine w_callV (st := []) [vI y] rfl ml_0_98 rfl rfl (hw 20404 (D j 0) 0 (D j 8) ((hP j hj).2 3 (by decide)) (by decide)) rfl rfl rfl (by simp only [RM]; omega) (by simp only [RM]; show 8 + (2 + 11) + _ ≤ _; omega) rfl (by simp only [RM]; omega) (by simp only [RM]; omega) (c_dr_begin l E (d - 1) σ (D j 8) y ((hw 20404 (D j 0) 0 (D j 8) ((hP j hj).2 3 (by decide)) (by decide)))) (fun _ _ h => h.elim) ?_
      intro r9 s9 q9
      rw [q9.1, q9.2]
      clear q9 r9 s9
      show WG _ _ _ _ _ _ _ (26, [(3, vR (some (D j 0))), (0, vR (some x)), (1, vI (nI j)), (2, vI y)], [], sI (sI σ 40400 (D j 8) 0 y) 40300 (D j 8) 0 0, 0 + 2, 0 + 12)
      refine w_run 1 (S' := (27, [(3, vR (some (D j 0))), (0, vR (some x)), (1, vI (nI j)), (2, vI y)], [vI 1], sI (sI σ 40400 (D j 8) 0 y) 40300 (D j 8) 0 0, 0 + 2, 0 + 12)) rfl ?_
      exact w_iret rfl (Or.inr ⟨rfl, Or.inr rfl⟩) (by omega) (by omega) (⟨j, hj, rfl, hal, by simp [odrF, c1, c2], by simp [odrF, c1, c2]⟩)
    · refine w_run 1 (S' := (17, [(3, vR (some (D j 0))), (0, vR (some x)), (1, vI (nI j)), (2, vI y)], [vI 0], σ, 0 + 2, 0 + 12)) rfl ?_
      exact w_iret rfl (Or.inr ⟨rfl, Or.inl rfl⟩) (by omega) (by omega) (⟨j, hj, rfl, hal, by simp [odrF, c1, c2], by simp [odrF, c1, c2]⟩)

set_option maxHeartbeats 4000000 in
theorem c_od_manage (l : Launch) (E : FE) (d : Nat) (σ : Sg) (D : Nat → Nat → Nat) (x a0 : Nat) (p y : Int32) (hd : 8 ≤ d) (hl0 : l.stackTraces = false) (hx : σ.2.2.2 x = 1) (h0 : σ.2.1 10010 x 0 = some a0) (h3 : ∀ j, j < 4 → σ.2.1 100002 a0 j = some (D j 0)) (hP : ∀ j, j < 4 → SHp σ (D j)) (hw : WF σ) : CT l E d 50 [vR (some x), vI p, vI y] σ 2 12 (fun r σ' => ∃ j, j < 4 ∧ p = nI j ∧ ¬ σ.1 20800 (D j 0) 0 = 0 ∧ (r = some (vI (omgF σ x (D j 1) y).1) ∧ σ' = (omgF σ x (D j 1) y).2)) (oX σ D p) := by
  refine CTo ok_od_manage (by decide +kernel) rfl rfl rfl ?_
  refine w_run 2 (S' := (2, [(0, vR (some x)), (1, vI p), (2, vI y)], [vI p, vR (some x)], σ, 0, 0)) rfl ?_
  refine w_callV (st := []) [vI p] rfl ml_0_37 rfl rfl hx rfl rfl rfl (by simp only [RM]; omega) (by simp only [RM]; show 8 + (3 + 11) + _ ≤ _; omega) rfl (by simp only [RM]; omega) (by simp only [RM]; omega) (c_od_living l E (d - 1) σ D x a0 p (by omega) hl0 hx h0 h3 hP hw) (fun X9 s9 h9 => x_out rfl (by omega) (by omega) h9) ?_
  intro r9 s9 q9
  obtain ⟨j, hj, rfl, hal, e1, e2⟩ := q9
  rw [e1, e2]
  clear e1 e2 r9 s9
  show WG _ _ _ _ _ _ _ (5, [(0, vR (some x)), (1, vI (nI j)), (2, vI y)], [vR (some (D j 0))], σ, 0 + 2, 0 + 12)
  refine w_run 1 (S' := (6, [(0, vR (some x)), (1, vI (nI j)), (2, vI y)], [vI y, vR (some (D j 0))], σ, 0 + 2, 0 + 12)) rfl ?_
  refine w_callV (st := []) [vI y] rfl ml_0_84 rfl rfl ((hP j hj).1) rfl rfl rfl (by simp only [RM]; omega) (by simp only [RM]; show 8 + (2 + 11) + _ ≤ _; omega) rfl (by simp only [RM]; omega) (by simp only [RM]; omega) (c_pr_nodeAt l E (d - 1) σ (D j 0) (D j 1) y (hP j hj).1 ((hP j hj).2 0 (by decide)) hw) (fun _ _ h => h.elim) ?_
  intro r9 s9 q9
  rw [q9.1, q9.2]
  clear q9 r9 s9
  show WG _ _ _ _ _ _ _ (9, [(0, vR (some x)), (1, vI (nI j)), (2, vI y)], [vR (natF (σ.2.1 110003 (D j 1)) y)], σ, 0 + 2, 0 + 12)
  refine w_run 2 (S' := (11, [(3, vR (natF (σ.2.1 110003 (D j 1)) y)), (0, vR (some x)), (1, vI (nI j)), (2, vI y)], [vR (natF (σ.2.1 110003 (D j 1)) y)], σ, 0 + 2, 0 + 12)) rfl ?_
  refine w_null rfl (fun c1 => ?_) (fun b2 c1 => ?_)
  · refine w_run 1 (S' := (22, [(3, vR (natF (σ.2.1 110003 (D j 1)) y)), (0, vR (some x)), (1, vI (nI j)), (2, vI y)], [vI 0], σ, 0 + 2, 0 + 12)) rfl ?_
    exact w_iret rfl (Or.inr ⟨rfl, Or.inl rfl⟩) (by omega) (by omega) (⟨j, hj, rfl, hal, by simp [omgF, c1], by simp [omgF, c1]⟩)
  · refine w_run 1 (S' := (15, [(3, vR (natF (σ.2.1 110003 (D j 1)) y)), (0, vR (some x)), (1, vI (nI j)), (2, vI y)], [vR (some x)], σ, 0 + 2, 0 + 12)) rfl ?_
    refine w_get (k := 1) (vR (σ.2.1 10103 x 0)) rfl rfl rfl hx rfl rfl ?_
    refine w_null rfl (fun c3 => ?_) (fun b4 c3 => ?_)
    · refine w_run 2 (S' := (25, [(3, vR (natF (σ.2.1 110003 (D j 1)) y)), (0, vR (some x)), (1, vI (nI j)), (2, vI y)], [vR (natF (σ.2.1 110003 (D j 1)) y), vR (some x)], σ, 0 + 2, 0 + 12)) rfl ?_
      refine w_putr (k := 1) rfl rfl rfl hx rfl rfl (fun b9 h9 _ => by have e9 := (c1).symm.trans h9; cases e9; exact natF_k hw c1) rfl (Or.inl rfl) ?_
      show WG _ _ _ _ _ _ _ (28, [(3, vR (natF (σ.2.1 110003 (D j 1)) y)), (0, vR (some x)), (1, vI (nI j)), (2, vI y)], [], sO σ 10103 x 0 (natF (σ.2.1 110003 (D j 1)) y), 0 + 2, 0 + 12)
      refine w_run 1 (S' := (29, [(3, vR (natF (σ.2.1 110003 (D j 1)) y)), (0, vR (some x)), (1, vI (nI j)), (2, vI y)], [vI 1], sO σ 10103 x 0 (natF (σ.2.1 110003 (D j 1)) y), 0 + 2, 0 + 12)) rfl ?_
      exact w_iret rfl (Or.inr ⟨rfl, Or.inr rfl⟩) (by omega) (by omega) (⟨j, hj, rfl, hal, by simp [omgF, c1, c3], by simp [omgF, c1, c3]⟩)
    · refine w_run 1 (S' := (22, [(3, vR (natF (σ.2.1 110003 (D j 1)) y)), (0, vR (some x)), (1, vI (nI j)), (2, vI y)], [vI 0], σ, 0 + 2, 0 + 12)) rfl ?_
      exact w_iret rfl (Or.inr ⟨rfl, Or.inl rfl⟩) (by omega) (by omega) (⟨j, hj, rfl, hal, by simp [omgF, c1, c3], by simp [omgF, c1, c3]⟩)

