/-! the class: which process, and the calls that need little -/
def oX (σ : Sg) (D : Nat → Nat → Nat) (p : Int32) : String → Sg → Prop := fun X σ' => σ' = σ ∧ ((X = "java/lang/IllegalArgumentException" ∧ (p < 0 ∨ 4 ≤ p)) ∨ (X = "java/lang/IllegalStateException" ∧ ∃ j, j < 4 ∧ p = nI j ∧ σ.1 20800 (D j 0) 0 = 0))
def eX (σ : Sg) (p : Int32) : String → Sg → Prop := fun X σ' => σ' = σ ∧ X = "java/lang/IllegalArgumentException" ∧ (p < 0 ∨ 4 ≤ p)
theorem in4 {p : Int32} (h1 : ¬ p < 0) (h2 : p < 4) : ∃ j, j < 4 ∧ p = nI j := by
  obtain ⟨j, hj, rfl⟩ := nI_of h1
  rw [nl4, nI_ltI hj (by omega)] at h2
  exact ⟨j, h2, rfl⟩
set_option maxHeartbeats 4000000 in
theorem c_od_existing (l : Launch) (E : FE) (d : Nat) (σ : Sg) (D : Nat → Nat → Nat) (x a0 : Nat) (p : Int32) (hd : 6 ≤ d) (hl0 : l.stackTraces = false) (hx : σ.2.2.2 x = 1) (h0 : σ.2.1 10010 x 0 = some a0) (h3 : ∀ j, j < 4 → σ.2.1 100002 a0 j = some (D j 0)) (hP : ∀ j, j < 4 → SHp σ (D j)) (hw : WF σ) : CT l E d 64 [vR (some x), vI p] σ 1 6 (fun r σ' => ∃ j, j < 4 ∧ p = nI j ∧ r = some (vR (some (D j 0))) ∧ σ' = σ) (eX σ p) := by
  refine CTo ok_od_existing (by decide +kernel) rfl rfl rfl ?_
  refine w_run 1 (S' := (1, [(0, vR (some x)), (1, vI p)], [vI p], σ, 0, 0)) rfl ?_
  refine w_if_lt rfl (fun c1 => ?_) (fun c1 => ?_)
  · exact w_throwW (text := "there is no such process") hl0 rfl rfl rfl rfl rfl ts_IA (by decide) rfl rfl (by omega) (by omega) (by omega) (⟨rfl, rfl, Or.inl c1⟩)
  · refine w_run 2 (S' := (6, [(0, vR (some x)), (1, vI p)], [vI 4, vI p], σ, 0, 0)) rfl ?_
    refine w_ic_lt rfl (fun c2 => ?_) (fun c2 => ?_)
    · refine w_run 1 (S' := (21, [(0, vR (some x)), (1, vI p)], [vR (some x)], σ, 0, 0)) rfl ?_
      refine w_get (k := 1) (vR (σ.2.1 10010 x 0)) rfl rfl rfl hx rfl rfl ?_
      refine w_run 1 (S' := (25, [(0, vR (some x)), (1, vI p)], [vI p, vR (σ.2.1 10010 x 0)], σ, 0, 0)) rfl ?_
      refine w_aald (k := 10) rfl h0 (hw 10010 x 0 a0 h0 (by decide)) rfl rfl (show vp_in p 4 from (let ⟨j, hj, e⟩ := in4 c1 c2; by rw [e]; exact vp_in_nI hj (by decide))) ?_
      show WG _ _ _ _ _ _ _ (26, [(0, vR (some x)), (1, vI p)], [vR (σ.2.1 100002 a0 p.toNatClampNeg)], σ, 0, 0)
      exact w_aret rfl rfl (Or.inl ⟨_, rfl⟩) (by omega) (by omega) (let ⟨j, hj, e⟩ := in4 c1 c2; ⟨j, hj, e, by subst e; rw [nI_clamp (by omega), h3 j hj], rfl⟩)
    · exact w_throwW (text := "there is no such process") hl0 rfl rfl rfl rfl rfl ts_IA (by decide) rfl rfl (by omega) (by omega) (by omega) (⟨rfl, rfl, Or.inr (Int32.not_lt.mp c2)⟩)

set_option maxHeartbeats 4000000 in
theorem c_od_living (l : Launch) (E : FE) (d : Nat) (σ : Sg) (D : Nat → Nat → Nat) (x a0 : Nat) (p : Int32) (hd : 7 ≤ d) (hl0 : l.stackTraces = false) (hx : σ.2.2.2 x = 1) (h0 : σ.2.1 10010 x 0 = some a0) (h3 : ∀ j, j < 4 → σ.2.1 100002 a0 j = some (D j 0)) (hP : ∀ j, j < 4 → SHp σ (D j)) (hw : WF σ) : CT l E d 65 [vR (some x), vI p] σ 2 12 (fun r σ' => ∃ j, j < 4 ∧ p = nI j ∧ ¬ σ.1 20800 (D j 0) 0 = 0 ∧ r = some (vR (some (D j 0))) ∧ σ' = σ) (oX σ D p) := by
  refine CTo ok_od_living (by decide +kernel) rfl rfl rfl ?_
  refine w_run 2 (S' := (2, [(0, vR (some x)), (1, vI p)], [vI p, vR (some x)], σ, 0, 0)) rfl ?_
  refine w_callV (st := []) [vI p] rfl ml_0_18 rfl rfl hx rfl rfl rfl (by simp only [RM]; omega) (by simp only [RM]; show 8 + (2 + 11) + _ ≤ _; omega) rfl (by simp only [RM]; omega) (by simp only [RM]; omega) (c_od_existing l E (d - 1) σ D x a0 p (by omega) hl0 hx h0 h3 hP hw) (fun X9 s9 h9 => x_out rfl (by omega) (by omega) ⟨h9.1, Or.inl h9.2⟩) ?_
  intro r9 s9 q9
  obtain ⟨j, hj, rfl, e1, e2⟩ := q9
  rw [e1, e2]
  clear e1 e2 r9 s9
  show WG _ _ _ _ _ _ _ (5, [(0, vR (some x)), (1, vI (nI j))], [vR (some (D j 0))], σ, 0 + 1, 0 + 6)
  refine w_run 2 (S' := (7, [(2, vR (some (D j 0))), (0, vR (some x)), (1, vI (nI j))], [vR (some (D j 0))], σ, 0 + 1, 0 + 6)) rfl ?_
  refine w_get (k := 2) (vI (σ.1 20800 (D j 0) 0)) rfl rfl rfl ((hP j hj).1) rfl rfl ?_
  refine w_if_ne rfl (fun c1 => ?_) (fun c1 => ?_)
  · refine w_run 1 (S' := (25, [(2, vR (some (D j 0))), (0, vR (some x)), (1, vI (nI j))], [vR (some (D j 0))], σ, 0 + 1, 0 + 6)) rfl ?_
    exact w_aret rfl rfl (Or.inl ⟨_, rfl⟩) (by omega) (by omega) (⟨j, hj, rfl, c1, rfl, rfl⟩)
  · exact w_throwW (text := "the process is not alive") hl0 rfl rfl rfl rfl rfl ts_IS (by decide) rfl rfl (by omega) (by omega) (by omega) (⟨rfl, Or.inr ⟨rfl, j, hj, rfl, c1⟩⟩)

