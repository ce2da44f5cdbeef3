/-! the model: where p is absent; manage, count, handle, latest, watch where it is alive -/
theorem mab {σ : Sg} {A : Nat → Nat} {p : Nat} (hp : p < 4) (hal : ¬ σ.1 510000 (A 0) p = 0) : absF (σ.1 510000 (A 0)) (nI p) = 0 := by
  unfold absF
  have h1 : ¬ nI p < 0 := lt0_nI (by omega)
  have h2 : nI p ≤ 3 := by rw [nl3, nI_leI (by omega) (by omega)]; omega
  rw [if_neg h1, if_pos h2, nI_clamp (by omega), if_neg hal]
theorem mabI {σ : Sg} {A : Nat → Nat} {p : Nat} (hp : p < 4) (hal : ¬ σ.1 510000 (A 0) p = 0) : abI σ A (nI p) = 0 := by unfold abI; rw [mab hp hal]; rfl
theorem mth {σ : Sg} {m : Nat} {A : Nat → Nat} {p : Nat} (hp : p < 4) (hal : ¬ σ.1 510000 (A 0) p = 0) : thS σ m A (nI p) = sI σ 500000 m 0 0 := by unfold thS; rw [mab hp hal]
theorem mcl {p : Nat} (hp : p < 4) : (nI p).toNatClampNeg = p := nI_clamp (by omega)
theorem c_mo_absent0 (l : Launch) (E : FE) (d : Nat) (σ : Sg) (m : Nat) (A : Nat → Nat) (p : Nat) (hM : MO σ m A) (hp : p < 4) (hal : ¬ σ.1 510000 (A 0) p = 0) : CT l E d 72 [vR (some m), vI (nI p)] σ 0 0 (fun r σ' => r = some (vI 0) ∧ σ' = sI σ 500000 m 0 0) (fun _ _ => False) := by
  have h := c_mo_absent l E d σ m A (nI p) hM
  rw [mab hp hal] at h
  exact h
theorem c_mo_absent1 (l : Launch) (E : FE) (d : Nat) (σ : Sg) (m : Nat) (A : Nat → Nat) (p : Int32) (hM : MO σ m A) (hab : ¬ absF (σ.1 510000 (A 0)) p = 0) : CT l E d 72 [vR (some m), vI p] σ 0 0 (fun r σ' => r = some (vI 1) ∧ σ' = sI σ 500000 m 0 (absF (σ.1 510000 (A 0)) p)) (fun _ _ => False) := by
  have h := c_mo_absent l E d σ m A p hM
  rw [if_neg hab] at h
  exact h
set_option maxHeartbeats 4000000 in
theorem c_mo_manage0 (l : Launch) (E : FE) (d : Nat) (σ : Sg) (m : Nat) (A : Nat → Nat) (p y : Int32) (hd : 1 ≤ d) (hM : MO σ m A) (hab : ¬ absF (σ.1 510000 (A 0)) p = 0) : CT l E d 84 [vR (some m), vI p, vI y] σ 0 0 (fun r σ' => r = some (vI 0) ∧ σ' = sI σ 500000 m 0 (absF (σ.1 510000 (A 0)) p)) (fun _ _ => False) := by
  refine CTo ok_mo_manage (by decide +kernel) rfl rfl rfl ?_
  refine w_run 2 (S' := (2, [(0, vR (some m)), (1, vI p), (2, vI y)], [vI p, vR (some m)], σ, 0, 0)) rfl ?_
  refine w_callV (st := []) [vI p] rfl ml_10_123 rfl rfl hM.1 rfl rfl rfl (by simp only [RM]; omega) (by simp only [RM]; show 8 + (2 + 11) + _ ≤ _; omega) rfl (by simp only [RM]; omega) (by simp only [RM]; omega) (c_mo_absent1 l E (d - 1) σ m A p hM hab) (fun _ _ h => h.elim) ?_
  intro r9 s9 q9
  rw [q9.1, q9.2]
  clear q9 r9 s9
  show WG _ _ _ _ _ _ _ (5, [(0, vR (some m)), (1, vI p), (2, vI y)], [vI 1], sI σ 500000 m 0 (absF (σ.1 510000 (A 0)) p), 0, 0)
  refine w_if_ne rfl (fun c1 => ?_) (fun c1 => (absurd ((nI_eq (a := 1) (b := 0) (by omega) (by omega)).mp c1) (by omega)))
  have nc1 := mt (nI_eq (a := 1) (b := 0) (by omega) (by omega)).mpr c1
  refine w_run 1 (S' := (25, [(0, vR (some m)), (1, vI p), (2, vI y)], [vI 0], sI σ 500000 m 0 (absF (σ.1 510000 (A 0)) p), 0, 0)) rfl ?_
  exact w_iret rfl (Or.inr ⟨rfl, Or.inl rfl⟩) (by omega) (by omega) (⟨rfl, rfl⟩)

set_option maxHeartbeats 4000000 in
theorem c_mo_latest0 (l : Launch) (E : FE) (d : Nat) (σ : Sg) (m : Nat) (A : Nat → Nat) (p y : Int32) (hd : 1 ≤ d) (hM : MO σ m A) (hab : ¬ absF (σ.1 510000 (A 0)) p = 0) : CT l E d 105 [vR (some m), vI p, vI y] σ 0 0 (fun r σ' => r = some (vI 0) ∧ σ' = sI σ 500000 m 0 (absF (σ.1 510000 (A 0)) p)) (fun _ _ => False) := by
  refine CTo ok_mo_latest (by decide +kernel) rfl rfl rfl ?_
  refine w_run 2 (S' := (2, [(0, vR (some m)), (1, vI p), (2, vI y)], [vI p, vR (some m)], σ, 0, 0)) rfl ?_
  refine w_callV (st := []) [vI p] rfl ml_10_123 rfl rfl hM.1 rfl rfl rfl (by simp only [RM]; omega) (by simp only [RM]; show 8 + (2 + 11) + _ ≤ _; omega) rfl (by simp only [RM]; omega) (by simp only [RM]; omega) (c_mo_absent1 l E (d - 1) σ m A p hM hab) (fun _ _ h => h.elim) ?_
  intro r9 s9 q9
  rw [q9.1, q9.2]
  clear q9 r9 s9
  show WG _ _ _ _ _ _ _ (5, [(0, vR (some m)), (1, vI p), (2, vI y)], [vI 1], sI σ 500000 m 0 (absF (σ.1 510000 (A 0)) p), 0, 0)
  refine w_if_eq rfl (fun c1 => (absurd ((nI_eq (a := 1) (b := 0) (by omega) (by omega)).mp c1) (by omega))) (fun c1 => ?_)
  have nc1 := mt (nI_eq (a := 1) (b := 0) (by omega) (by omega)).mpr c1
  refine w_run 1 (S' := (9, [(0, vR (some m)), (1, vI p), (2, vI y)], [vI 0], sI σ 500000 m 0 (absF (σ.1 510000 (A 0)) p), 0, 0)) rfl ?_
  exact w_iret rfl (Or.inl rfl) (by omega) (by omega) (⟨rfl, rfl⟩)

set_option maxHeartbeats 4000000 in
theorem c_mo_count0 (l : Launch) (E : FE) (d : Nat) (σ : Sg) (m : Nat) (A : Nat → Nat) (p y : Int32) (hd : 1 ≤ d) (hM : MO σ m A) (hab : ¬ absF (σ.1 510000 (A 0)) p = 0) : CT l E d 113 [vR (some m), vI p, vI y] σ 0 0 (fun r σ' => r = some (vI 0) ∧ σ' = sI σ 500000 m 0 (absF (σ.1 510000 (A 0)) p)) (fun _ _ => False) := by
  refine CTo ok_mo_count (by decide +kernel) rfl rfl rfl ?_
  refine w_run 2 (S' := (2, [(0, vR (some m)), (1, vI p), (2, vI y)], [vI p, vR (some m)], σ, 0, 0)) rfl ?_
  refine w_callV (st := []) [vI p] rfl ml_10_123 rfl rfl hM.1 rfl rfl rfl (by simp only [RM]; omega) (by simp only [RM]; show 8 + (2 + 11) + _ ≤ _; omega) rfl (by simp only [RM]; omega) (by simp only [RM]; omega) (c_mo_absent1 l E (d - 1) σ m A p hM hab) (fun _ _ h => h.elim) ?_
  intro r9 s9 q9
  rw [q9.1, q9.2]
  clear q9 r9 s9
  show WG _ _ _ _ _ _ _ (5, [(0, vR (some m)), (1, vI p), (2, vI y)], [vI 1], sI σ 500000 m 0 (absF (σ.1 510000 (A 0)) p), 0, 0)
  refine w_if_eq rfl (fun c1 => (absurd ((nI_eq (a := 1) (b := 0) (by omega) (by omega)).mp c1) (by omega))) (fun c1 => ?_)
  have nc1 := mt (nI_eq (a := 1) (b := 0) (by omega) (by omega)).mpr c1
  refine w_run 1 (S' := (9, [(0, vR (some m)), (1, vI p), (2, vI y)], [vI 0], sI σ 500000 m 0 (absF (σ.1 510000 (A 0)) p), 0, 0)) rfl ?_
  exact w_iret rfl (Or.inl rfl) (by omega) (by omega) (⟨rfl, rfl⟩)

set_option maxHeartbeats 4000000 in
theorem c_mo_handle0 (l : Launch) (E : FE) (d : Nat) (σ : Sg) (m : Nat) (A : Nat → Nat) (p y z : Int32) (hd : 1 ≤ d) (hM : MO σ m A) (hab : ¬ absF (σ.1 510000 (A 0)) p = 0) : CT l E d 114 [vR (some m), vI p, vI y, vI z] σ 0 0 (fun r σ' => r = some (vI 0) ∧ σ' = sI σ 500000 m 0 (absF (σ.1 510000 (A 0)) p)) (fun _ _ => False) := by
  refine CTo ok_mo_handle (by decide +kernel) rfl rfl rfl ?_
  refine w_run 2 (S' := (2, [(0, vR (some m)), (1, vI p), (2, vI y), (3, vI z)], [vI p, vR (some m)], σ, 0, 0)) rfl ?_
  refine w_callV (st := []) [vI p] rfl ml_10_123 rfl rfl hM.1 rfl rfl rfl (by simp only [RM]; omega) (by simp only [RM]; show 8 + (2 + 11) + _ ≤ _; omega) rfl (by simp only [RM]; omega) (by simp only [RM]; omega) (c_mo_absent1 l E (d - 1) σ m A p hM hab) (fun _ _ h => h.elim) ?_
  intro r9 s9 q9
  rw [q9.1, q9.2]
  clear q9 r9 s9
  show WG _ _ _ _ _ _ _ (5, [(0, vR (some m)), (1, vI p), (2, vI y), (3, vI z)], [vI 1], sI σ 500000 m 0 (absF (σ.1 510000 (A 0)) p), 0, 0)
  refine w_if_eq rfl (fun c1 => (absurd ((nI_eq (a := 1) (b := 0) (by omega) (by omega)).mp c1) (by omega))) (fun c1 => ?_)
  have nc1 := mt (nI_eq (a := 1) (b := 0) (by omega) (by omega)).mpr c1
  refine w_run 1 (S' := (9, [(0, vR (some m)), (1, vI p), (2, vI y), (3, vI z)], [vI 0], sI σ 500000 m 0 (absF (σ.1 510000 (A 0)) p), 0, 0)) rfl ?_
  exact w_iret rfl (Or.inl rfl) (by omega) (by omega) (⟨rfl, rfl⟩)

set_option maxHeartbeats 4000000 in
theorem c_mo_read0 (l : Launch) (E : FE) (d : Nat) (σ : Sg) (m : Nat) (A : Nat → Nat) (p y z w : Int32) (hd : 1 ≤ d) (hM : MO σ m A) (hab : ¬ absF (σ.1 510000 (A 0)) p = 0) : CT l E d 109 [vR (some m), vI p, vI y, vI z, vI w] σ 0 0 (fun r σ' => r = some (vI 0) ∧ σ' = sI σ 500000 m 0 (absF (σ.1 510000 (A 0)) p)) (fun _ _ => False) := by
  refine CTo ok_mo_read (by decide +kernel) rfl rfl rfl ?_
  refine w_run 2 (S' := (2, [(0, vR (some m)), (1, vI p), (2, vI y), (3, vI z), (4, vI w)], [vI p, vR (some m)], σ, 0, 0)) rfl ?_
  refine w_callV (st := []) [vI p] rfl ml_10_123 rfl rfl hM.1 rfl rfl rfl (by simp only [RM]; omega) (by simp only [RM]; show 8 + (2 + 11) + _ ≤ _; omega) rfl (by simp only [RM]; omega) (by simp only [RM]; omega) (c_mo_absent1 l E (d - 1) σ m A p hM hab) (fun _ _ h => h.elim) ?_
  intro r9 s9 q9
  rw [q9.1, q9.2]
  clear q9 r9 s9
  show WG _ _ _ _ _ _ _ (5, [(0, vR (some m)), (1, vI p), (2, vI y), (3, vI z), (4, vI w)], [vI 1], sI σ 500000 m 0 (absF (σ.1 510000 (A 0)) p), 0, 0)
  refine w_if_eq rfl (fun c1 => (absurd ((nI_eq (a := 1) (b := 0) (by omega) (by omega)).mp c1) (by omega))) (fun c1 => ?_)
  have nc1 := mt (nI_eq (a := 1) (b := 0) (by omega) (by omega)).mpr c1
  refine w_run 1 (S' := (9, [(0, vR (some m)), (1, vI p), (2, vI y), (3, vI z), (4, vI w)], [vI 0], sI σ 500000 m 0 (absF (σ.1 510000 (A 0)) p), 0, 0)) rfl ?_
  exact w_iret rfl (Or.inl rfl) (by omega) (by omega) (⟨rfl, rfl⟩)

set_option maxHeartbeats 4000000 in
theorem c_mo_watch0 (l : Launch) (E : FE) (d : Nat) (σ : Sg) (m : Nat) (A : Nat → Nat) (p y z : Int32) (hd : 1 ≤ d) (hM : MO σ m A) (hab : ¬ absF (σ.1 510000 (A 0)) p = 0) : CT l E d 112 [vR (some m), vI p, vI y, vI z] σ 0 0 (fun r σ' => r = some (vI 0) ∧ σ' = sI σ 500000 m 0 (absF (σ.1 510000 (A 0)) p)) (fun _ _ => False) := by
  refine CTo ok_mo_watch (by decide +kernel) rfl rfl rfl ?_
  refine w_run 2 (S' := (2, [(0, vR (some m)), (1, vI p), (2, vI y), (3, vI z)], [vI p, vR (some m)], σ, 0, 0)) rfl ?_
  refine w_callV (st := []) [vI p] rfl ml_10_123 rfl rfl hM.1 rfl rfl rfl (by simp only [RM]; omega) (by simp only [RM]; show 8 + (2 + 11) + _ ≤ _; omega) rfl (by simp only [RM]; omega) (by simp only [RM]; omega) (c_mo_absent1 l E (d - 1) σ m A p hM hab) (fun _ _ h => h.elim) ?_
  intro r9 s9 q9
  rw [q9.1, q9.2]
  clear q9 r9 s9
  show WG _ _ _ _ _ _ _ (5, [(0, vR (some m)), (1, vI p), (2, vI y), (3, vI z)], [vI 1], sI σ 500000 m 0 (absF (σ.1 510000 (A 0)) p), 0, 0)
  refine w_if_ne rfl (fun c1 => ?_) (fun c1 => (absurd ((nI_eq (a := 1) (b := 0) (by omega) (by omega)).mp c1) (by omega)))
  have nc1 := mt (nI_eq (a := 1) (b := 0) (by omega) (by omega)).mpr c1
  refine w_run 1 (S' := (47, [(0, vR (some m)), (1, vI p), (2, vI y), (3, vI z)], [vI 0], sI σ 500000 m 0 (absF (σ.1 510000 (A 0)) p), 0, 0)) rfl ?_
  exact w_iret rfl (Or.inr ⟨rfl, Or.inl rfl⟩) (by omega) (by omega) (⟨rfl, rfl⟩)

set_option maxHeartbeats 4000000 in
theorem c_mo_take0 (l : Launch) (E : FE) (d : Nat) (σ : Sg) (m : Nat) (A : Nat → Nat) (p : Int32) (hd : 1 ≤ d) (hM : MO σ m A) (hab : ¬ absF (σ.1 510000 (A 0)) p = 0) : CT l E d 104 [vR (some m), vI p] σ 0 0 (fun r σ' => r = some (vI 0) ∧ σ' = sI σ 500000 m 0 (absF (σ.1 510000 (A 0)) p)) (fun _ _ => False) := by
  refine CTo ok_mo_take (by decide +kernel) rfl rfl rfl ?_
  refine w_run 2 (S' := (2, [(0, vR (some m)), (1, vI p)], [vI p, vR (some m)], σ, 0, 0)) rfl ?_
  refine w_callV (st := []) [vI p] rfl ml_10_123 rfl rfl hM.1 rfl rfl rfl (by simp only [RM]; omega) (by simp only [RM]; show 8 + (2 + 11) + _ ≤ _; omega) rfl (by simp only [RM]; omega) (by simp only [RM]; omega) (c_mo_absent1 l E (d - 1) σ m A p hM hab) (fun _ _ h => h.elim) ?_
  intro r9 s9 q9
  rw [q9.1, q9.2]
  clear q9 r9 s9
  show WG _ _ _ _ _ _ _ (5, [(0, vR (some m)), (1, vI p)], [vI 1], sI σ 500000 m 0 (absF (σ.1 510000 (A 0)) p), 0, 0)
  refine w_if_ne rfl (fun c1 => ?_) (fun c1 => (absurd ((nI_eq (a := 1) (b := 0) (by omega) (by omega)).mp c1) (by omega)))
  have nc1 := mt (nI_eq (a := 1) (b := 0) (by omega) (by omega)).mpr c1
  refine w_run 1 (S' := (18, [(0, vR (some m)), (1, vI p)], [vI 0], sI σ 500000 m 0 (absF (σ.1 510000 (A 0)) p), 0, 0)) rfl ?_
  exact w_iret rfl (Or.inl rfl) (by omega) (by omega) (⟨rfl, rfl⟩)

set_option maxHeartbeats 4000000 in
theorem c_mo_free0 (l : Launch) (E : FE) (d : Nat) (σ : Sg) (m : Nat) (A : Nat → Nat) (p y : Int32) (hd : 1 ≤ d) (hM : MO σ m A) (hab : ¬ absF (σ.1 510000 (A 0)) p = 0) : CT l E d 108 [vR (some m), vI p, vI y] σ 0 0 (fun r σ' => r = some (vI 0) ∧ σ' = sI σ 500000 m 0 (absF (σ.1 510000 (A 0)) p)) (fun _ _ => False) := by
  refine CTo ok_mo_free (by decide +kernel) rfl rfl rfl ?_
  refine w_run 2 (S' := (2, [(0, vR (some m)), (1, vI p), (2, vI y)], [vI p, vR (some m)], σ, 0, 0)) rfl ?_
  refine w_callV (st := []) [vI p] rfl ml_10_123 rfl rfl hM.1 rfl rfl rfl (by simp only [RM]; omega) (by simp only [RM]; show 8 + (2 + 11) + _ ≤ _; omega) rfl (by simp only [RM]; omega) (by simp only [RM]; omega) (c_mo_absent1 l E (d - 1) σ m A p hM hab) (fun _ _ h => h.elim) ?_
  intro r9 s9 q9
  rw [q9.1, q9.2]
  clear q9 r9 s9
  show WG _ _ _ _ _ _ _ (5, [(0, vR (some m)), (1, vI p), (2, vI y)], [vI 1], sI σ 500000 m 0 (absF (σ.1 510000 (A 0)) p), 0, 0)
  refine w_if_eq rfl (fun c1 => (absurd ((nI_eq (a := 1) (b := 0) (by omega) (by omega)).mp c1) (by omega))) (fun c1 => ?_)
  have nc1 := mt (nI_eq (a := 1) (b := 0) (by omega) (by omega)).mpr c1
  refine w_run 1 (S' := (9, [(0, vR (some m)), (1, vI p), (2, vI y)], [vI 0], sI σ 500000 m 0 (absF (σ.1 510000 (A 0)) p), 0, 0)) rfl ?_
  exact w_iret rfl (Or.inr ⟨rfl, Or.inl rfl⟩) (by omega) (by omega) (⟨rfl, rfl⟩)

set_option maxHeartbeats 4000000 in
theorem c_mo_send0 (l : Launch) (E : FE) (d : Nat) (σ : Sg) (m : Nat) (A : Nat → Nat) (p y z : Int32) (hd : 1 ≤ d) (hM : MO σ m A) (hab : ¬ absF (σ.1 510000 (A 0)) p = 0) : CT l E d 103 [vR (some m), vI p, vI y, vI z] σ 0 0 (fun r σ' => r = some (vI 0) ∧ σ' = sI σ 500000 m 0 (absF (σ.1 510000 (A 0)) p)) (fun _ _ => False) := by
  refine CTo ok_mo_send (by decide +kernel) rfl rfl rfl ?_
  refine w_run 2 (S' := (2, [(0, vR (some m)), (1, vI p), (2, vI y), (3, vI z)], [vI p, vR (some m)], σ, 0, 0)) rfl ?_
  refine w_callV (st := []) [vI p] rfl ml_10_123 rfl rfl hM.1 rfl rfl rfl (by simp only [RM]; omega) (by simp only [RM]; show 8 + (2 + 11) + _ ≤ _; omega) rfl (by simp only [RM]; omega) (by simp only [RM]; omega) (c_mo_absent1 l E (d - 1) σ m A p hM hab) (fun _ _ h => h.elim) ?_
  intro r9 s9 q9
  rw [q9.1, q9.2]
  clear q9 r9 s9
  show WG _ _ _ _ _ _ _ (5, [(0, vR (some m)), (1, vI p), (2, vI y), (3, vI z)], [vI 1], sI σ 500000 m 0 (absF (σ.1 510000 (A 0)) p), 0, 0)
  refine w_if_eq rfl (fun c1 => (absurd ((nI_eq (a := 1) (b := 0) (by omega) (by omega)).mp c1) (by omega))) (fun c1 => ?_)
  have nc1 := mt (nI_eq (a := 1) (b := 0) (by omega) (by omega)).mpr c1
  refine w_run 1 (S' := (9, [(0, vR (some m)), (1, vI p), (2, vI y), (3, vI z)], [vI 0], sI σ 500000 m 0 (absF (σ.1 510000 (A 0)) p), 0, 0)) rfl ?_
  exact w_iret rfl (Or.inl rfl) (by omega) (by omega) (⟨rfl, rfl⟩)

set_option maxHeartbeats 4000000 in
theorem c_mo_reply0 (l : Launch) (E : FE) (d : Nat) (σ : Sg) (m : Nat) (A : Nat → Nat) (p : Int32) (hd : 1 ≤ d) (hM : MO σ m A) (hab : ¬ absF (σ.1 510000 (A 0)) p = 0) : CT l E d 106 [vR (some m), vI p] σ 0 0 (fun r σ' => r = some (vI 0) ∧ σ' = sI σ 500000 m 0 (absF (σ.1 510000 (A 0)) p)) (fun _ _ => False) := by
  refine CTo ok_mo_reply (by decide +kernel) rfl rfl rfl ?_
  refine w_run 2 (S' := (2, [(0, vR (some m)), (1, vI p)], [vI p, vR (some m)], σ, 0, 0)) rfl ?_
  refine w_callV (st := []) [vI p] rfl ml_10_123 rfl rfl hM.1 rfl rfl rfl (by simp only [RM]; omega) (by simp only [RM]; show 8 + (2 + 11) + _ ≤ _; omega) rfl (by simp only [RM]; omega) (by simp only [RM]; omega) (c_mo_absent1 l E (d - 1) σ m A p hM hab) (fun _ _ h => h.elim) ?_
  intro r9 s9 q9
  rw [q9.1, q9.2]
  clear q9 r9 s9
  show WG _ _ _ _ _ _ _ (5, [(0, vR (some m)), (1, vI p)], [vI 1], sI σ 500000 m 0 (absF (σ.1 510000 (A 0)) p), 0, 0)
  refine w_if_eq rfl (fun c1 => (absurd ((nI_eq (a := 1) (b := 0) (by omega) (by omega)).mp c1) (by omega))) (fun c1 => ?_)
  have nc1 := mt (nI_eq (a := 1) (b := 0) (by omega) (by omega)).mpr c1
  refine w_run 1 (S' := (9, [(0, vR (some m)), (1, vI p)], [vI 0], sI σ 500000 m 0 (absF (σ.1 510000 (A 0)) p), 0, 0)) rfl ?_
  exact w_iret rfl (Or.inl rfl) (by omega) (by omega) (⟨rfl, rfl⟩)

set_option maxHeartbeats 4000000 in
theorem c_mo_die0 (l : Launch) (E : FE) (d : Nat) (σ : Sg) (m : Nat) (A : Nat → Nat) (p : Int32) (hd : 1 ≤ d) (hM : MO σ m A) (hab : ¬ absF (σ.1 510000 (A 0)) p = 0) : CT l E d 82 [vR (some m), vI p] σ 0 0 (fun r σ' => r = none ∧ σ' = sI σ 500000 m 0 (absF (σ.1 510000 (A 0)) p)) (fun _ _ => False) := by
  refine CTo ok_mo_die (by decide +kernel) rfl rfl rfl ?_
  refine w_run 2 (S' := (2, [(0, vR (some m)), (1, vI p)], [vI p, vR (some m)], σ, 0, 0)) rfl ?_
  refine w_callV (st := []) [vI p] rfl ml_10_123 rfl rfl hM.1 rfl rfl rfl (by simp only [RM]; omega) (by simp only [RM]; show 8 + (2 + 11) + _ ≤ _; omega) rfl (by simp only [RM]; omega) (by simp only [RM]; omega) (c_mo_absent1 l E (d - 1) σ m A p hM hab) (fun _ _ h => h.elim) ?_
  intro r9 s9 q9
  rw [q9.1, q9.2]
  clear q9 r9 s9
  show WG _ _ _ _ _ _ _ (5, [(0, vR (some m)), (1, vI p)], [vI 1], sI σ 500000 m 0 (absF (σ.1 510000 (A 0)) p), 0, 0)
  refine w_if_eq rfl (fun c1 => (absurd ((nI_eq (a := 1) (b := 0) (by omega) (by omega)).mp c1) (by omega))) (fun c1 => ?_)
  have nc1 := mt (nI_eq (a := 1) (b := 0) (by omega) (by omega)).mpr c1
  exact w_vret rfl rfl (by omega) (by omega) (⟨rfl, rfl⟩)

set_option maxHeartbeats 4000000 in
theorem c_mo_manage1 (l : Launch) (E : FE) (d : Nat) (σ : Sg) (m : Nat) (A : Nat → Nat) (p : Nat) (y : Int32) (hd : 3 ≤ d) (hM : MO σ m A) (hp : p < 4) (hal : ¬ σ.1 510000 (A 0) p = 0) : CT l E d 84 [vR (some m), vI (nI p), vI y] σ 0 0 (fun r σ' => r = some (vI (mmgF σ m A (nI p) y).1) ∧ σ' = (mmgF σ m A (nI p) y).2) (fun _ _ => False) := by
  refine CTo ok_mo_manage (by decide +kernel) rfl rfl rfl ?_
  refine w_run 2 (S' := (2, [(0, vR (some m)), (1, vI (nI p)), (2, vI y)], [vI (nI p), vR (some m)], σ, 0, 0)) rfl ?_
  refine w_callV (st := []) [vI (nI p)] rfl ml_10_123 rfl rfl hM.1 rfl rfl rfl (by simp only [RM]; omega) (by simp only [RM]; show 8 + (2 + 11) + _ ≤ _; omega) rfl (by simp only [RM]; omega) (by simp only [RM]; omega) (c_mo_absent0 l E (d - 1) σ m A p hM hp hal) (fun _ _ h => h.elim) ?_
  intro r9 s9 q9
  rw [q9.1, q9.2]
  clear q9 r9 s9
  show WG _ _ _ _ _ _ _ (5, [(0, vR (some m)), (1, vI (nI p)), (2, vI y)], [vI 0], sI σ 500000 m 0 0, 0, 0)
  refine w_if_ne rfl (fun c1 => (absurd ((nI_eq (a := 0) (b := 0) (by omega) (by omega)).mpr (by omega)) c1)) (fun c1 => ?_)
  have nc1 := (nI_eq (a := 0) (b := 0) (by omega) (by omega)).mp c1
  refine w_run 1 (S' := (9, [(0, vR (some m)), (1, vI (nI p)), (2, vI y)], [vR (some m)], sI σ 500000 m 0 0, 0, 0)) rfl ?_
  refine w_get (k := 50) (vI (σ.1 500300 m 0)) rfl rfl rfl hM.1 rfl rfl ?_
  refine w_if_ge rfl (fun c2 => ?_) (fun c2 => ?_)
  · refine w_run 1 (S' := (25, [(0, vR (some m)), (1, vI (nI p)), (2, vI y)], [vI 0], sI σ 500000 m 0 0, 0, 0)) rfl ?_
    exact w_iret rfl (Or.inr ⟨rfl, Or.inl rfl⟩) (by omega) (by omega) (⟨by simp only [mmgF, mabI hp hal, mth hp hal, mcl hp, if_true, if_pos c1, if_pos nc1, if_pos c2], by simp only [mmgF, mabI hp hal, mth hp hal, mcl hp, if_true, if_pos c1, if_pos nc1, if_pos c2]; try rfl⟩)
  · refine w_run 3 (S' := (18, [(0, vR (some m)), (1, vI (nI p)), (2, vI y)], [vI y, vI (nI p), vR (some m)], sI σ 500000 m 0 0, 0, 0)) rfl ?_
    refine w_callV (st := []) [vI (nI p), vI y] rfl ml_10_134 rfl rfl hM.1 rfl rfl rfl (by simp only [RM]; omega) (by simp only [RM]; show 8 + (3 + 11) + _ ≤ _; omega) rfl (by simp only [RM]; omega) (by simp only [RM]; omega) (c_mo_hasNode l E (d - 1) (sI σ 500000 m 0 0) m A p 0 y hM (by omega) hp) (fun _ _ h => h.elim) ?_
    intro r9 s9 q9
    rw [q9.1, q9.2]
    clear q9 r9 s9
    show WG _ _ _ _ _ _ _ (21, [(0, vR (some m)), (1, vI (nI p)), (2, vI y)], [vI (hnF (σ.1 530000 (A 2)) p y)], sI σ 500000 m 0 0, 0, 0)
    refine w_if_ne rfl (fun c3 => ?_) (fun c3 => ?_)
    · refine w_run 4 (S' := (30, [(0, vR (some m)), (1, vI (nI p)), (2, vI y)], [vI y, vI (nI p), vR (some m), vR (some m)], sI σ 500000 m 0 0, 0, 0)) rfl ?_
      refine w_callV (st := [vR (some m)]) [vI (nI p), vI y] rfl ml_10_137 rfl rfl hM.1 rfl rfl rfl (by simp only [RM]; omega) (by simp only [RM]; show 8 + (3 + 11) + _ ≤ _; omega) rfl (by simp only [RM]; omega) (by simp only [RM]; omega) (c_mo_node l E (d - 1) (sI σ 500000 m 0 0) m A p y hM hp) (fun _ _ h => h.elim) ?_
      intro r9 s9 q9
      rw [q9.1, q9.2]
      clear q9 r9 s9
      show WG _ _ _ _ _ _ _ (33, [(0, vR (some m)), (1, vI (nI p)), (2, vI y)], [vI (40 * σ.1 520000 (A 1) p + 10 * nI p + y), vR (some m)], sI σ 500000 m 0 0, 0, 0)
      refine w_puti (k := 50) rfl rfl rfl hM.1 rfl rfl (Or.inl rfl) (Or.inl rfl) ?_
      show WG _ _ _ _ _ _ _ (36, [(0, vR (some m)), (1, vI (nI p)), (2, vI y)], [], sI (sI σ 500000 m 0 0) 500300 m 0 (40 * σ.1 520000 (A 1) p + 10 * nI p + y), 0, 0)
      refine w_run 1 (S' := (37, [(0, vR (some m)), (1, vI (nI p)), (2, vI y)], [vI 1], sI (sI σ 500000 m 0 0) 500300 m 0 (40 * σ.1 520000 (A 1) p + 10 * nI p + y), 0, 0)) rfl ?_
      exact w_iret rfl (Or.inr ⟨rfl, Or.inr rfl⟩) (by omega) (by omega) (⟨by simp only [mmgF, mabI hp hal, mth hp hal, mcl hp, if_true, if_pos c1, if_pos nc1, if_neg c2, if_neg c3], by simp only [mmgF, mabI hp hal, mth hp hal, mcl hp, if_true, if_pos c1, if_pos nc1, if_neg c2, if_neg c3]; try rfl⟩)
    · refine w_run 1 (S' := (25, [(0, vR (some m)), (1, vI (nI p)), (2, vI y)], [vI 0], sI σ 500000 m 0 0, 0, 0)) rfl ?_
      exact w_iret rfl (Or.inr ⟨rfl, Or.inl rfl⟩) (by omega) (by omega) (⟨by simp only [mmgF, mabI hp hal, mth hp hal, mcl hp, if_true, if_pos c1, if_pos nc1, if_neg c2, if_pos c3], by simp only [mmgF, mabI hp hal, mth hp hal, mcl hp, if_true, if_pos c1, if_pos nc1, if_neg c2, if_pos c3]; try rfl⟩)

set_option maxHeartbeats 4000000 in
theorem c_mo_count1 (l : Launch) (E : FE) (d : Nat) (σ : Sg) (m : Nat) (A : Nat → Nat) (p : Nat) (w : Int32) (hd : 3 ≤ d) (hM : MO σ m A) (hp : p < 4) (hal : ¬ σ.1 510000 (A 0) p = 0) : CT l E d 113 [vR (some m), vI (nI p), vI w] σ 0 0 (fun r σ' => r = some (vI (mcnF σ A p w)) ∧ σ' = sI σ 500000 m 0 0) (fun _ _ => False) := by
  refine CTo ok_mo_count (by decide +kernel) rfl rfl rfl ?_
  refine w_run 2 (S' := (2, [(0, vR (some m)), (1, vI (nI p)), (2, vI w)], [vI (nI p), vR (some m)], σ, 0, 0)) rfl ?_
  refine w_callV (st := []) [vI (nI p)] rfl ml_10_123 rfl rfl hM.1 rfl rfl rfl (by simp only [RM]; omega) (by simp only [RM]; show 8 + (2 + 11) + _ ≤ _; omega) rfl (by simp only [RM]; omega) (by simp only [RM]; omega) (c_mo_absent0 l E (d - 1) σ m A p hM hp hal) (fun _ _ h => h.elim) ?_
  intro r9 s9 q9
  rw [q9.1, q9.2]
  clear q9 r9 s9
  show WG _ _ _ _ _ _ _ (5, [(0, vR (some m)), (1, vI (nI p)), (2, vI w)], [vI 0], sI σ 500000 m 0 0, 0, 0)
  refine w_if_eq rfl (fun c1 => ?_) (fun c1 => (absurd ((nI_eq (a := 0) (b := 0) (by omega) (by omega)).mpr (by omega)) c1))
  have nc1 := (nI_eq (a := 0) (b := 0) (by omega) (by omega)).mp c1
  refine w_run 1 (S' := (11, [(0, vR (some m)), (1, vI (nI p)), (2, vI w)], [vI w], sI σ 500000 m 0 0, 0, 0)) rfl ?_
  by_cases c2 : w = 0
  · subst c2
    show WG _ _ _ _ _ _ _ (11, [(0, vR (some m)), (1, vI (nI p)), (2, vI 0)], [vI 0], sI σ 500000 m 0 0, 0, 0)
    refine w_tsIn rfl (by decide) (by decide) rfl rfl ?_
    refine w_run 2 (S' := (58, [(0, vR (some m)), (1, vI (nI p)), (2, vI 0)], [vI (nI p), vR (some m)], sI σ 500000 m 0 0, 0, 0)) rfl ?_
    refine w_callV (st := []) [vI (nI p)] rfl ml_10_166 rfl rfl hM.1 rfl rfl rfl (by simp only [RM]; omega) (by simp only [RM]; show 8 + (4 + 11) + _ ≤ _; omega) rfl (by simp only [RM]; omega) (by simp only [RM]; omega) (c_mo_handles l E (d - 1) (sI σ 500000 m 0 0) m A p 0 hM (by omega) hp) (fun _ _ h => h.elim) ?_
    intro r9 s9 q9
    rw [q9.1, q9.2]
    clear q9 r9 s9
    show WG _ _ _ _ _ _ _ (61, [(0, vR (some m)), (1, vI (nI p)), (2, vI 0)], [vI (itF (hdsF (σ.1 550000 (A 4)) (σ.1 560000 (A 5)) p) 15 1 0)], sI σ 500000 m 0 0, 0, 0)
    exact w_iret rfl (Or.inl rfl) (by omega) (by omega) (⟨by simp [mcnF, c1, (rfl : (0 : Int32) = 0)], rfl⟩)
  by_cases c3 : w = 1
  · subst c3
    show WG _ _ _ _ _ _ _ (11, [(0, vR (some m)), (1, vI (nI p)), (2, vI 1)], [vI 1], sI σ 500000 m 0 0, 0, 0)
    refine w_tsIn rfl (by decide) (by decide) rfl rfl ?_
    refine w_run 1 (S' := (63, [(0, vR (some m)), (1, vI (nI p)), (2, vI 1)], [vR (some m)], sI σ 500000 m 0 0, 0, 0)) rfl ?_
    refine w_get (k := 50) (vR (σ.2.1 502472 m 0)) rfl rfl rfl hM.1 rfl rfl ?_
    refine w_run 1 (S' := (67, [(0, vR (some m)), (1, vI (nI p)), (2, vI 1)], [vI (nI p), vR (σ.2.1 502472 m 0)], sI σ 500000 m 0 0, 0, 0)) rfl ?_
    refine w_iald (k := 72) rfl ((hM.2 21 (by decide)).1) ((hM.2 21 (by decide)).2) rfl (show vp_in (nI p) 4 from vp_in_nI (n := p) (by omega) (by decide)) ?_
    show WG _ _ _ _ _ _ _ (68, [(0, vR (some m)), (1, vI (nI p)), (2, vI 1)], [vI ((sI σ 500000 m 0 0).1 720000 (A 21) (nI p).toNatClampNeg)], sI σ 500000 m 0 0, 0, 0)
    rw [show (nI p : Int32).toNatClampNeg = p from nI_clamp (n := p) (by omega)]
    show WG _ _ _ _ _ _ _ (68, [(0, vR (some m)), (1, vI (nI p)), (2, vI 1)], [vI (σ.1 720000 (A 21) p)], sI σ 500000 m 0 0, 0, 0)
    exact w_iret rfl (Or.inl rfl) (by omega) (by omega) (⟨by simp [mcnF, c1, (rfl : (1 : Int32) = 1)], rfl⟩)
  by_cases c4 : w = 2
  · subst c4
    show WG _ _ _ _ _ _ _ (11, [(0, vR (some m)), (1, vI (nI p)), (2, vI 2)], [vI 2], sI σ 500000 m 0 0, 0, 0)
    refine w_tsIn rfl (by decide) (by decide) rfl rfl ?_
    refine w_run 1 (S' := (70, [(0, vR (some m)), (1, vI (nI p)), (2, vI 2)], [vR (some m)], sI σ 500000 m 0 0, 0, 0)) rfl ?_
    refine w_get (k := 50) (vR (σ.2.1 502674 m 0)) rfl rfl rfl hM.1 rfl rfl ?_
    refine w_run 1 (S' := (74, [(0, vR (some m)), (1, vI (nI p)), (2, vI 2)], [vI (nI p), vR (σ.2.1 502674 m 0)], sI σ 500000 m 0 0, 0, 0)) rfl ?_
    refine w_iald (k := 74) rfl ((hM.2 23 (by decide)).1) ((hM.2 23 (by decide)).2) rfl (show vp_in (nI p) 4 from vp_in_nI (n := p) (by omega) (by decide)) ?_
    show WG _ _ _ _ _ _ _ (75, [(0, vR (some m)), (1, vI (nI p)), (2, vI 2)], [vI ((sI σ 500000 m 0 0).1 740000 (A 23) (nI p).toNatClampNeg)], sI σ 500000 m 0 0, 0, 0)
    rw [show (nI p : Int32).toNatClampNeg = p from nI_clamp (n := p) (by omega)]
    show WG _ _ _ _ _ _ _ (75, [(0, vR (some m)), (1, vI (nI p)), (2, vI 2)], [vI (σ.1 740000 (A 23) p)], sI σ 500000 m 0 0, 0, 0)
    exact w_iret rfl (Or.inl rfl) (by omega) (by omega) (⟨by simp [mcnF, c1, (rfl : (2 : Int32) = 2)], rfl⟩)
  by_cases c5 : w = 3
  · subst c5
    show WG _ _ _ _ _ _ _ (11, [(0, vR (some m)), (1, vI (nI p)), (2, vI 3)], [vI 3], sI σ 500000 m 0 0, 0, 0)
    refine w_tsIn rfl (by decide) (by decide) rfl rfl ?_
    refine w_run 1 (S' := (77, [(0, vR (some m)), (1, vI (nI p)), (2, vI 3)], [vR (some m)], sI σ 500000 m 0 0, 0, 0)) rfl ?_
    refine w_get (k := 50) (vR (σ.2.1 502977 m 0)) rfl rfl rfl hM.1 rfl rfl ?_
    refine w_run 1 (S' := (81, [(0, vR (some m)), (1, vI (nI p)), (2, vI 3)], [vI (nI p), vR (σ.2.1 502977 m 0)], sI σ 500000 m 0 0, 0, 0)) rfl ?_
    refine w_zald (k := 77) rfl ((hM.2 26 (by decide)).1) ((hM.2 26 (by decide)).2) rfl (show vp_in (nI p) 4 from vp_in_nI (n := p) (by omega) (by decide)) ?_
    show WG _ _ _ _ _ _ _ (82, [(0, vR (some m)), (1, vI (nI p)), (2, vI 3)], [vI ((sI σ 500000 m 0 0).1 770000 (A 26) (nI p).toNatClampNeg)], sI σ 500000 m 0 0, 0, 0)
    rw [show (nI p : Int32).toNatClampNeg = p from nI_clamp (n := p) (by omega)]
    show WG _ _ _ _ _ _ _ (82, [(0, vR (some m)), (1, vI (nI p)), (2, vI 3)], [vI (σ.1 770000 (A 26) p)], sI σ 500000 m 0 0, 0, 0)
    refine w_if_eq rfl (fun c6 => ?_) (fun c6 => ?_)
    · refine w_run 1 (S' := (90, [(0, vR (some m)), (1, vI (nI p)), (2, vI 3)], [vI 0], sI σ 500000 m 0 0, 0, 0)) rfl ?_
      exact w_iret rfl (Or.inl rfl) (by omega) (by omega) (⟨by simp [mcnF, c1, (rfl : (3 : Int32) = 3), c6], rfl⟩)
    · refine w_run 2 (S' := (90, [(0, vR (some m)), (1, vI (nI p)), (2, vI 3)], [vI 1], sI σ 500000 m 0 0, 0, 0)) rfl ?_
      exact w_iret rfl (Or.inl rfl) (by omega) (by omega) (⟨by simp [mcnF, c1, (rfl : (3 : Int32) = 3), c6], rfl⟩)
  by_cases c7 : w = 4
  · subst c7
    show WG _ _ _ _ _ _ _ (11, [(0, vR (some m)), (1, vI (nI p)), (2, vI 4)], [vI 4], sI σ 500000 m 0 0, 0, 0)
    refine w_tsIn rfl (by decide) (by decide) rfl rfl ?_
    refine w_run 3 (S' := (94, [(0, vR (some m)), (1, vI (nI p)), (2, vI 4)], [vI 0, vI (nI p), vR (some m)], sI σ 500000 m 0 0, 0, 0)) rfl ?_
    refine w_callV (st := []) [vI (nI p), vI 0] rfl ml_10_162 rfl rfl hM.1 rfl rfl rfl (by simp only [RM]; omega) (by simp only [RM]; show 8 + (5 + 11) + _ ≤ _; omega) rfl (by simp only [RM]; omega) (by simp only [RM]; omega) (c_mo_cells l E (d - 1) (sI σ 500000 m 0 0) m A p 0 hM hp) (fun _ _ h => h.elim) ?_
    intro r9 s9 q9
    rw [q9.1, q9.2]
    clear q9 r9 s9
    show WG _ _ _ _ _ _ _ (97, [(0, vR (some m)), (1, vI (nI p)), (2, vI 4)], [vI (itF (celsF (σ.1 610000 (A 10)) (σ.1 630000 (A 12)) (σ.1 640000 (A 13)) 0) 64 (64 * p) 0)], sI σ 500000 m 0 0, 0, 0)
    exact w_iret rfl (Or.inl rfl) (by omega) (by omega) (⟨by simp [mcnF, c1, (rfl : (4 : Int32) = 4)], rfl⟩)
  by_cases c8 : w = 5
  · subst c8
    show WG _ _ _ _ _ _ _ (11, [(0, vR (some m)), (1, vI (nI p)), (2, vI 5)], [vI 5], sI σ 500000 m 0 0, 0, 0)
    refine w_tsIn rfl (by decide) (by decide) rfl rfl ?_
    refine w_run 3 (S' := (101, [(0, vR (some m)), (1, vI (nI p)), (2, vI 5)], [vI 1, vI (nI p), vR (some m)], sI σ 500000 m 0 0, 0, 0)) rfl ?_
    refine w_callV (st := []) [vI (nI p), vI 1] rfl ml_10_162 rfl rfl hM.1 rfl rfl rfl (by simp only [RM]; omega) (by simp only [RM]; show 8 + (5 + 11) + _ ≤ _; omega) rfl (by simp only [RM]; omega) (by simp only [RM]; omega) (c_mo_cells l E (d - 1) (sI σ 500000 m 0 0) m A p 1 hM hp) (fun _ _ h => h.elim) ?_
    intro r9 s9 q9
    rw [q9.1, q9.2]
    clear q9 r9 s9
    show WG _ _ _ _ _ _ _ (104, [(0, vR (some m)), (1, vI (nI p)), (2, vI 5)], [vI (itF (celsF (σ.1 610000 (A 10)) (σ.1 630000 (A 12)) (σ.1 640000 (A 13)) 1) 64 (64 * p) 0)], sI σ 500000 m 0 0, 0, 0)
    exact w_iret rfl (Or.inl rfl) (by omega) (by omega) (⟨by simp [mcnF, c1, (rfl : (5 : Int32) = 5)], rfl⟩)
  by_cases c9 : w = 6
  · subst c9
    show WG _ _ _ _ _ _ _ (11, [(0, vR (some m)), (1, vI (nI p)), (2, vI 6)], [vI 6], sI σ 500000 m 0 0, 0, 0)
    refine w_tsIn rfl (by decide) (by decide) rfl rfl ?_
    refine w_run 1 (S' := (106, [(0, vR (some m)), (1, vI (nI p)), (2, vI 6)], [vR (some m)], sI σ 500000 m 0 0, 0, 0)) rfl ?_
    refine w_get (k := 50) (vR (σ.2.1 503078 m 0)) rfl rfl rfl hM.1 rfl rfl ?_
    refine w_run 1 (S' := (110, [(0, vR (some m)), (1, vI (nI p)), (2, vI 6)], [vI (nI p), vR (σ.2.1 503078 m 0)], sI σ 500000 m 0 0, 0, 0)) rfl ?_
    refine w_iald (k := 78) rfl ((hM.2 27 (by decide)).1) ((hM.2 27 (by decide)).2) rfl (show vp_in (nI p) 4 from vp_in_nI (n := p) (by omega) (by decide)) ?_
    show WG _ _ _ _ _ _ _ (111, [(0, vR (some m)), (1, vI (nI p)), (2, vI 6)], [vI ((sI σ 500000 m 0 0).1 780000 (A 27) (nI p).toNatClampNeg)], sI σ 500000 m 0 0, 0, 0)
    rw [show (nI p : Int32).toNatClampNeg = p from nI_clamp (n := p) (by omega)]
    show WG _ _ _ _ _ _ _ (111, [(0, vR (some m)), (1, vI (nI p)), (2, vI 6)], [vI (σ.1 780000 (A 27) p)], sI σ 500000 m 0 0, 0, 0)
    exact w_iret rfl (Or.inl rfl) (by omega) (by omega) (⟨by simp [mcnF, c1, (rfl : (6 : Int32) = 6)], rfl⟩)
  by_cases c10 : w = 7
  · subst c10
    show WG _ _ _ _ _ _ _ (11, [(0, vR (some m)), (1, vI (nI p)), (2, vI 7)], [vI 7], sI σ 500000 m 0 0, 0, 0)
    refine w_tsIn rfl (by decide) (by decide) rfl rfl ?_
    refine w_run 1 (S' := (113, [(0, vR (some m)), (1, vI (nI p)), (2, vI 7)], [vR (some m)], sI σ 500000 m 0 0, 0, 0)) rfl ?_
    refine w_get (k := 50) (vR (σ.2.1 500857 m 0)) rfl rfl rfl hM.1 rfl rfl ?_
    refine w_run 1 (S' := (117, [(0, vR (some m)), (1, vI (nI p)), (2, vI 7)], [vI (nI p), vR (σ.2.1 500857 m 0)], sI σ 500000 m 0 0, 0, 0)) rfl ?_
    refine w_iald (k := 57) rfl ((hM.2 6 (by decide)).1) ((hM.2 6 (by decide)).2) rfl (show vp_in (nI p) 4 from vp_in_nI (n := p) (by omega) (by decide)) ?_
    show WG _ _ _ _ _ _ _ (118, [(0, vR (some m)), (1, vI (nI p)), (2, vI 7)], [vI ((sI σ 500000 m 0 0).1 570000 (A 6) (nI p).toNatClampNeg)], sI σ 500000 m 0 0, 0, 0)
    rw [show (nI p : Int32).toNatClampNeg = p from nI_clamp (n := p) (by omega)]
    show WG _ _ _ _ _ _ _ (118, [(0, vR (some m)), (1, vI (nI p)), (2, vI 7)], [vI (σ.1 570000 (A 6) p)], sI σ 500000 m 0 0, 0, 0)
    exact w_iret rfl (Or.inl rfl) (by omega) (by omega) (⟨by simp [mcnF, c1, (rfl : (7 : Int32) = 7)], rfl⟩)
  · have tc2 : w.toInt ≠ 0 := fun e9 => c2 (Int32.toInt_inj.mp e9)
    have tc3 : w.toInt ≠ 1 := fun e9 => c3 (Int32.toInt_inj.mp e9)
    have tc4 : w.toInt ≠ 2 := fun e9 => c4 (Int32.toInt_inj.mp e9)
    have tc5 : w.toInt ≠ 3 := fun e9 => c5 (Int32.toInt_inj.mp e9)
    have tc7 : w.toInt ≠ 4 := fun e9 => c7 (Int32.toInt_inj.mp e9)
    have tc8 : w.toInt ≠ 5 := fun e9 => c8 (Int32.toInt_inj.mp e9)
    have tc9 : w.toInt ≠ 6 := fun e9 => c9 (Int32.toInt_inj.mp e9)
    have tc10 : w.toInt ≠ 7 := fun e9 => c10 (Int32.toInt_inj.mp e9)
    refine w_tsOut rfl (by omega) rfl ?_
    refine w_run 1 (S' := (120, [(0, vR (some m)), (1, vI (nI p)), (2, vI w)], [vI (-1)], sI σ 500000 m 0 0, 0, 0)) rfl ?_
    exact w_iret rfl (Or.inl rfl) (by omega) (by omega) (⟨by simp [mcnF, c1, c2, c3, c4, c5, c7, c8, c9, c10], rfl⟩)

theorem rem10 {x : Int32} (h : ¬ x < 0) : x - x / 10 * 10 = nI (x.toNatClampNeg % 10) := by
  obtain ⟨j, hj, rfl⟩ := nI_of h
  rw [nI_clamp hj]
  exact pk_rem (a := j) (d := 10) hj (by decide) (by decide)
set_option maxHeartbeats 4000000 in
theorem c_mo_handle1 (l : Launch) (E : FE) (d : Nat) (σ : Sg) (m : Nat) (A : Nat → Nat) (p : Nat) (y z : Int32) (hd : 3 ≤ d) (hM : MO σ m A) (hp : p < 4) (hal : ¬ σ.1 510000 (A 0) p = 0) (hN9 : ∀ y : Int32, 1 ≤ y.toNatClampNeg → y.toNatClampNeg < 16 → ¬ hhF (σ.1 550000 (A 4)) (σ.1 560000 (A 5)) p y = 0 → ¬ σ.1 540000 (A 3) (16 * p + y.toNatClampNeg) < 0) : CT l E d 114 [vR (some m), vI (nI p), vI y, vI z] σ 0 0 (fun r σ' => r = some (vI (mhnF σ A p y z)) ∧ σ' = sI σ 500000 m 0 0) (fun _ _ => False) := by
  refine CTo ok_mo_handle (by decide +kernel) rfl rfl rfl ?_
  refine w_run 2 (S' := (2, [(0, vR (some m)), (1, vI (nI p)), (2, vI y), (3, vI z)], [vI (nI p), vR (some m)], σ, 0, 0)) rfl ?_
  refine w_callV (st := []) [vI (nI p)] rfl ml_10_123 rfl rfl hM.1 rfl rfl rfl (by simp only [RM]; omega) (by simp only [RM]; show 8 + (2 + 11) + _ ≤ _; omega) rfl (by simp only [RM]; omega) (by simp only [RM]; omega) (c_mo_absent0 l E (d - 1) σ m A p hM hp hal) (fun _ _ h => h.elim) ?_
  intro r9 s9 q9
  rw [q9.1, q9.2]
  clear q9 r9 s9
  show WG _ _ _ _ _ _ _ (5, [(0, vR (some m)), (1, vI (nI p)), (2, vI y), (3, vI z)], [vI 0], sI σ 500000 m 0 0, 0, 0)
  refine w_if_eq rfl (fun c1 => ?_) (fun c1 => (absurd ((nI_eq (a := 0) (b := 0) (by omega) (by omega)).mpr (by omega)) c1))
  have nc1 := (nI_eq (a := 0) (b := 0) (by omega) (by omega)).mp c1
  refine w_run 3 (S' := (13, [(0, vR (some m)), (1, vI (nI p)), (2, vI y), (3, vI z)], [vI y, vI (nI p), vR (some m)], sI σ 500000 m 0 0, 0, 0)) rfl ?_
  refine w_callV (st := []) [vI (nI p), vI y] rfl ml_10_141 rfl rfl hM.1 rfl rfl rfl (by simp only [RM]; omega) (by simp only [RM]; show 8 + (3 + 11) + _ ≤ _; omega) rfl (by simp only [RM]; omega) (by simp only [RM]; omega) (c_mo_hasHandle l E (d - 1) (sI σ 500000 m 0 0) m A p y hM hp) (fun _ _ h => h.elim) ?_
  intro r9 s9 q9
  rw [q9.1, q9.2]
  clear q9 r9 s9
  show WG _ _ _ _ _ _ _ (16, [(0, vR (some m)), (1, vI (nI p)), (2, vI y), (3, vI z)], [vI (hhF (σ.1 550000 (A 4)) (σ.1 560000 (A 5)) p y)], sI σ 500000 m 0 0, 0, 0)
  refine w_if_eq rfl (fun c2 => ?_) (fun c2 => ?_)
  · refine w_run 1 (S' := (29, [(0, vR (some m)), (1, vI (nI p)), (2, vI y), (3, vI z)], [vI (-1)], sI σ 500000 m 0 0, 0, 0)) rfl ?_
    exact w_iret rfl (Or.inl rfl) (by omega) (by omega) (⟨by simp only [mhnF, mcl hp, if_pos c1, if_pos nc1, if_pos c2], rfl⟩)
  · obtain ⟨hye, hy1, hy⟩ := hhF_n c2
    refine Eq.mp (congrArg (fun x9 => WG _ _ _ _ _ _ _ (19, [(0, vR (some m)), (1, vI (nI p)), (2, vI x9), (3, vI z)], [], sI σ 500000 m 0 0, 0, 0)) (Eq.symm hye : nI y.toNatClampNeg = y)) ?_
    show WG _ _ _ _ _ _ _ (19, [(0, vR (some m)), (1, vI (nI p)), (2, vI (nI y.toNatClampNeg)), (3, vI z)], [], sI σ 500000 m 0 0, 0, 0)
    have hnn := hN9 y hy1 hy c2
    refine w_run 1 (S' := (20, [(0, vR (some m)), (1, vI (nI p)), (2, vI (nI y.toNatClampNeg)), (3, vI z)], [vI z], sI σ 500000 m 0 0, 0, 0)) rfl ?_
    refine w_if_lt rfl (fun c3 => ?_) (fun c3 => ?_)
    · refine w_run 1 (S' := (29, [(0, vR (some m)), (1, vI (nI p)), (2, vI (nI y.toNatClampNeg)), (3, vI z)], [vI (-1)], sI σ 500000 m 0 0, 0, 0)) rfl ?_
      exact w_iret rfl (Or.inl rfl) (by omega) (by omega) (⟨by simp only [mhnF, mcl hp, if_pos c1, if_pos nc1, if_neg c2, if_pos c3], rfl⟩)
    · refine w_run 2 (S' := (25, [(0, vR (some m)), (1, vI (nI p)), (2, vI (nI y.toNatClampNeg)), (3, vI z)], [vI 4, vI z], sI σ 500000 m 0 0, 0, 0)) rfl ?_
      refine w_ic_le rfl (fun c4 => ?_) (fun c4 => ?_)
      · refine w_run 7 (S' := (39, [(4, vI ((16 * (nI p)) + (nI y.toNatClampNeg))), (0, vR (some m)), (1, vI (nI p)), (2, vI (nI y.toNatClampNeg)), (3, vI z)], [vR (some m)], sI σ 500000 m 0 0, 0, 0)) rfl ?_
        rw [show ((16 * (nI p)) + (nI y.toNatClampNeg) : Int32) = nI (16 * p + y.toNatClampNeg) from by simp only [nl0, nl1, nl2, nl3, nl4, nl5, nl6, nl8, nl9, nl10, nl12, nl15, nl16, nl20, nl24, nl32, nl40, nl64, nl65, nl384, pk_mul, nI_add]]
        show WG _ _ _ _ _ _ _ (39, [(4, vI (nI (16 * p + y.toNatClampNeg))), (0, vR (some m)), (1, vI (nI p)), (2, vI (nI y.toNatClampNeg)), (3, vI z)], [vR (some m)], sI σ 500000 m 0 0, 0, 0)
        refine w_get (k := 50) (vR (σ.2.1 500554 m 0)) rfl rfl rfl hM.1 rfl rfl ?_
        refine w_run 1 (S' := (44, [(4, vI (nI (16 * p + y.toNatClampNeg))), (0, vR (some m)), (1, vI (nI p)), (2, vI (nI y.toNatClampNeg)), (3, vI z)], [vI (nI (16 * p + y.toNatClampNeg)), vR (σ.2.1 500554 m 0)], sI σ 500000 m 0 0, 0, 0)) rfl ?_
        refine w_iald (k := 54) rfl ((hM.2 3 (by decide)).1) ((hM.2 3 (by decide)).2) rfl (show vp_in (nI (16 * p + y.toNatClampNeg)) 64 from vp_in_nI (n := 16 * p + y.toNatClampNeg) (by omega) (by decide)) ?_
        show WG _ _ _ _ _ _ _ (45, [(4, vI (nI (16 * p + y.toNatClampNeg))), (0, vR (some m)), (1, vI (nI p)), (2, vI (nI y.toNatClampNeg)), (3, vI z)], [vI ((sI σ 500000 m 0 0).1 540000 (A 3) (nI (16 * p + y.toNatClampNeg)).toNatClampNeg)], sI σ 500000 m 0 0, 0, 0)
        rw [show (nI (16 * p + y.toNatClampNeg) : Int32).toNatClampNeg = 16 * p + y.toNatClampNeg from nI_clamp (n := 16 * p + y.toNatClampNeg) (by omega)]
        show WG _ _ _ _ _ _ _ (45, [(4, vI (nI (16 * p + y.toNatClampNeg))), (0, vR (some m)), (1, vI (nI p)), (2, vI (nI y.toNatClampNeg)), (3, vI z)], [vI (σ.1 540000 (A 3) (16 * p + y.toNatClampNeg))], sI σ 500000 m 0 0, 0, 0)
        refine w_run 2 (S' := (48, [(5, vI (σ.1 540000 (A 3) (16 * p + y.toNatClampNeg))), (4, vI (nI (16 * p + y.toNatClampNeg))), (0, vR (some m)), (1, vI (nI p)), (2, vI (nI y.toNatClampNeg)), (3, vI z)], [vI z], sI σ 500000 m 0 0, 0, 0)) rfl ?_
        refine w_if_ne rfl (fun c5 => ?_) (fun c5 => ?_)
        · refine w_run 2 (S' := (63, [(5, vI (σ.1 540000 (A 3) (16 * p + y.toNatClampNeg))), (4, vI (nI (16 * p + y.toNatClampNeg))), (0, vR (some m)), (1, vI (nI p)), (2, vI (nI y.toNatClampNeg)), (3, vI z)], [vI 1, vI z], sI σ 500000 m 0 0, 0, 0)) rfl ?_
          refine w_ic_ne rfl (fun c6 => ?_) (fun c6 => ?_)
          · refine w_run 2 (S' := (78, [(5, vI (σ.1 540000 (A 3) (16 * p + y.toNatClampNeg))), (4, vI (nI (16 * p + y.toNatClampNeg))), (0, vR (some m)), (1, vI (nI p)), (2, vI (nI y.toNatClampNeg)), (3, vI z)], [vI 2, vI z], sI σ 500000 m 0 0, 0, 0)) rfl ?_
            refine w_ic_ne rfl (fun c7 => ?_) (fun c7 => ?_)
            · refine w_run 2 (S' := (91, [(5, vI (σ.1 540000 (A 3) (16 * p + y.toNatClampNeg))), (4, vI (nI (16 * p + y.toNatClampNeg))), (0, vR (some m)), (1, vI (nI p)), (2, vI (nI y.toNatClampNeg)), (3, vI z)], [vI 3, vI z], sI σ 500000 m 0 0, 0, 0)) rfl ?_
              refine w_ic_ne rfl (fun c8 => ?_) (fun c8 => ?_)
              · refine w_run 2 (S' := (105, [(5, vI (σ.1 540000 (A 3) (16 * p + y.toNatClampNeg))), (4, vI (nI (16 * p + y.toNatClampNeg))), (0, vR (some m)), (1, vI (nI p)), (2, vI (nI y.toNatClampNeg)), (3, vI z)], [vI (σ.1 540000 (A 3) (16 * p + y.toNatClampNeg)), vR (some m)], sI σ 500000 m 0 0, 0, 0)) rfl ?_
                refine w_callV (st := []) [vI (σ.1 540000 (A 3) (16 * p + y.toNatClampNeg))] rfl ml_10_153 rfl rfl hM.1 rfl rfl rfl (by simp only [RM]; omega) (by simp only [RM]; show 8 + (3 + 11) + _ ≤ _; omega) rfl (by simp only [RM]; omega) (by simp only [RM]; omega) (c_mo_isDeadI l E (d - 1) (sI σ 500000 m 0 0) m A (σ.1 540000 (A 3) (16 * p + y.toNatClampNeg)) 0 hM (by omega) hnn) (fun _ _ h => h.elim) ?_
                intro r9 s9 q9
                rw [q9.1, q9.2]
                clear q9 r9 s9
                show WG _ _ _ _ _ _ _ (108, [(5, vI (σ.1 540000 (A 3) (16 * p + y.toNatClampNeg))), (4, vI (nI (16 * p + y.toNatClampNeg))), (0, vR (some m)), (1, vI (nI p)), (2, vI (nI y.toNatClampNeg)), (3, vI z)], [vI (dedI (σ.1 510000 (A 0)) (σ.1 520000 (A 1)) (σ.1 540000 (A 3) (16 * p + y.toNatClampNeg)))], sI σ 500000 m 0 0, 0, 0)
                refine w_if_eq rfl (fun c9 => ?_) (fun c9 => ?_)
                · refine w_run 1 (S' := (116, [(5, vI (σ.1 540000 (A 3) (16 * p + y.toNatClampNeg))), (4, vI (nI (16 * p + y.toNatClampNeg))), (0, vR (some m)), (1, vI (nI p)), (2, vI (nI y.toNatClampNeg)), (3, vI z)], [vI 0], sI σ 500000 m 0 0, 0, 0)) rfl ?_
                  exact w_iret rfl (Or.inl rfl) (by omega) (by omega) (⟨by simp only [mhnF, mcl hp, if_pos c1, if_pos nc1, if_neg c2, if_neg c3, if_pos c4, if_neg c5, if_neg c6, if_neg c7, if_neg c8, if_pos c9, if_neg (Int32.not_lt.mpr c4)], rfl⟩)
                · refine w_run 2 (S' := (116, [(5, vI (σ.1 540000 (A 3) (16 * p + y.toNatClampNeg))), (4, vI (nI (16 * p + y.toNatClampNeg))), (0, vR (some m)), (1, vI (nI p)), (2, vI (nI y.toNatClampNeg)), (3, vI z)], [vI 1], sI σ 500000 m 0 0, 0, 0)) rfl ?_
                  exact w_iret rfl (Or.inl rfl) (by omega) (by omega) (⟨by simp only [mhnF, mcl hp, if_pos c1, if_pos nc1, if_neg c2, if_neg c3, if_pos c4, if_neg c5, if_neg c6, if_neg c7, if_neg c8, if_neg c9, if_neg (Int32.not_lt.mpr c4)], rfl⟩)
              · refine w_run 2 (S' := (98, [(5, vI (σ.1 540000 (A 3) (16 * p + y.toNatClampNeg))), (4, vI (nI (16 * p + y.toNatClampNeg))), (0, vR (some m)), (1, vI (nI p)), (2, vI (nI y.toNatClampNeg)), (3, vI z)], [vI 10, vI (σ.1 540000 (A 3) (16 * p + y.toNatClampNeg))], sI σ 500000 m 0 0, 0, 0)) rfl ?_
                refine w_irem rfl (by decide) ?_
                refine w_run 1 (S' := (116, [(5, vI (σ.1 540000 (A 3) (16 * p + y.toNatClampNeg))), (4, vI (nI (16 * p + y.toNatClampNeg))), (0, vR (some m)), (1, vI (nI p)), (2, vI (nI y.toNatClampNeg)), (3, vI z)], [vI ((σ.1 540000 (A 3) (16 * p + y.toNatClampNeg)) - (σ.1 540000 (A 3) (16 * p + y.toNatClampNeg)) / 10 * 10)], sI σ 500000 m 0 0, 0, 0)) rfl ?_
                exact w_iret rfl (Or.inl rfl) (by omega) (by omega) (⟨by rw [rem10 hnn]; simp only [mhnF, mcl hp, if_pos c1, if_pos nc1, if_neg c2, if_neg c3, if_pos c4, if_neg c5, if_neg c6, if_neg c7, if_pos c8, if_neg (Int32.not_lt.mpr c4)], rfl⟩)
            · refine w_run 1 (S' := (83, [(5, vI (σ.1 540000 (A 3) (16 * p + y.toNatClampNeg))), (4, vI (nI (16 * p + y.toNatClampNeg))), (0, vR (some m)), (1, vI (nI p)), (2, vI (nI y.toNatClampNeg)), (3, vI z)], [vI (σ.1 540000 (A 3) (16 * p + y.toNatClampNeg))], sI σ 500000 m 0 0, 0, 0)) rfl ?_
              refine w_callS (st := []) [vI (σ.1 540000 (A 3) (16 * p + y.toNatClampNeg))] rfl ml_10_111 rfl (by simp only [RM]; omega) (by simp only [RM]; show 8 + (1 + 11) + _ ≤ _; omega) rfl (by simp only [RM]; omega) (by simp only [RM]; omega) (c_mo_processOfI l E (d - 1) (sI σ 500000 m 0 0) (σ.1 540000 (A 3) (16 * p + y.toNatClampNeg)) hnn) (fun _ _ h => h.elim) ?_
              intro r9 s9 q9
              rw [q9.1, q9.2]
              clear q9 r9 s9
              show WG _ _ _ _ _ _ _ (86, [(5, vI (σ.1 540000 (A 3) (16 * p + y.toNatClampNeg))), (4, vI (nI (16 * p + y.toNatClampNeg))), (0, vR (some m)), (1, vI (nI p)), (2, vI (nI y.toNatClampNeg)), (3, vI z)], [vI (nI (pOf (σ.1 540000 (A 3) (16 * p + y.toNatClampNeg))))], sI σ 500000 m 0 0, 0, 0)
              refine w_run 1 (S' := (116, [(5, vI (σ.1 540000 (A 3) (16 * p + y.toNatClampNeg))), (4, vI (nI (16 * p + y.toNatClampNeg))), (0, vR (some m)), (1, vI (nI p)), (2, vI (nI y.toNatClampNeg)), (3, vI z)], [vI (nI (pOf (σ.1 540000 (A 3) (16 * p + y.toNatClampNeg))))], sI σ 500000 m 0 0, 0, 0)) rfl ?_
              exact w_iret rfl (Or.inl rfl) (by omega) (by omega) (⟨by simp only [mhnF, mcl hp, if_pos c1, if_pos nc1, if_neg c2, if_neg c3, if_pos c4, if_neg c5, if_neg c6, if_pos c7, if_neg (Int32.not_lt.mpr c4)], rfl⟩)
          · refine w_run 1 (S' := (67, [(5, vI (σ.1 540000 (A 3) (16 * p + y.toNatClampNeg))), (4, vI (nI (16 * p + y.toNatClampNeg))), (0, vR (some m)), (1, vI (nI p)), (2, vI (nI y.toNatClampNeg)), (3, vI z)], [vR (some m)], sI σ 500000 m 0 0, 0, 0)) rfl ?_
            refine w_get (k := 50) (vR (σ.2.1 500756 m 0)) rfl rfl rfl hM.1 rfl rfl ?_
            refine w_run 1 (S' := (72, [(5, vI (σ.1 540000 (A 3) (16 * p + y.toNatClampNeg))), (4, vI (nI (16 * p + y.toNatClampNeg))), (0, vR (some m)), (1, vI (nI p)), (2, vI (nI y.toNatClampNeg)), (3, vI z)], [vI (nI (16 * p + y.toNatClampNeg)), vR (σ.2.1 500756 m 0)], sI σ 500000 m 0 0, 0, 0)) rfl ?_
            refine w_iald (k := 56) rfl ((hM.2 5 (by decide)).1) ((hM.2 5 (by decide)).2) rfl (show vp_in (nI (16 * p + y.toNatClampNeg)) 64 from vp_in_nI (n := 16 * p + y.toNatClampNeg) (by omega) (by decide)) ?_
            show WG _ _ _ _ _ _ _ (73, [(5, vI (σ.1 540000 (A 3) (16 * p + y.toNatClampNeg))), (4, vI (nI (16 * p + y.toNatClampNeg))), (0, vR (some m)), (1, vI (nI p)), (2, vI (nI y.toNatClampNeg)), (3, vI z)], [vI ((sI σ 500000 m 0 0).1 560000 (A 5) (nI (16 * p + y.toNatClampNeg)).toNatClampNeg)], sI σ 500000 m 0 0, 0, 0)
            rw [show (nI (16 * p + y.toNatClampNeg) : Int32).toNatClampNeg = 16 * p + y.toNatClampNeg from nI_clamp (n := 16 * p + y.toNatClampNeg) (by omega)]
            show WG _ _ _ _ _ _ _ (73, [(5, vI (σ.1 540000 (A 3) (16 * p + y.toNatClampNeg))), (4, vI (nI (16 * p + y.toNatClampNeg))), (0, vR (some m)), (1, vI (nI p)), (2, vI (nI y.toNatClampNeg)), (3, vI z)], [vI (σ.1 560000 (A 5) (16 * p + y.toNatClampNeg))], sI σ 500000 m 0 0, 0, 0)
            refine w_run 1 (S' := (116, [(5, vI (σ.1 540000 (A 3) (16 * p + y.toNatClampNeg))), (4, vI (nI (16 * p + y.toNatClampNeg))), (0, vR (some m)), (1, vI (nI p)), (2, vI (nI y.toNatClampNeg)), (3, vI z)], [vI (σ.1 560000 (A 5) (16 * p + y.toNatClampNeg))], sI σ 500000 m 0 0, 0, 0)) rfl ?_
            exact w_iret rfl (Or.inl rfl) (by omega) (by omega) (⟨by simp only [mhnF, mcl hp, if_pos c1, if_pos nc1, if_neg c2, if_neg c3, if_pos c4, if_neg c5, if_pos c6, if_neg (Int32.not_lt.mpr c4)], rfl⟩)
        · refine w_run 1 (S' := (52, [(5, vI (σ.1 540000 (A 3) (16 * p + y.toNatClampNeg))), (4, vI (nI (16 * p + y.toNatClampNeg))), (0, vR (some m)), (1, vI (nI p)), (2, vI (nI y.toNatClampNeg)), (3, vI z)], [vR (some m)], sI σ 500000 m 0 0, 0, 0)) rfl ?_
          refine w_get (k := 50) (vR (σ.2.1 500655 m 0)) rfl rfl rfl hM.1 rfl rfl ?_
          refine w_run 1 (S' := (57, [(5, vI (σ.1 540000 (A 3) (16 * p + y.toNatClampNeg))), (4, vI (nI (16 * p + y.toNatClampNeg))), (0, vR (some m)), (1, vI (nI p)), (2, vI (nI y.toNatClampNeg)), (3, vI z)], [vI (nI (16 * p + y.toNatClampNeg)), vR (σ.2.1 500655 m 0)], sI σ 500000 m 0 0, 0, 0)) rfl ?_
          refine w_iald (k := 55) rfl ((hM.2 4 (by decide)).1) ((hM.2 4 (by decide)).2) rfl (show vp_in (nI (16 * p + y.toNatClampNeg)) 64 from vp_in_nI (n := 16 * p + y.toNatClampNeg) (by omega) (by decide)) ?_
          show WG _ _ _ _ _ _ _ (58, [(5, vI (σ.1 540000 (A 3) (16 * p + y.toNatClampNeg))), (4, vI (nI (16 * p + y.toNatClampNeg))), (0, vR (some m)), (1, vI (nI p)), (2, vI (nI y.toNatClampNeg)), (3, vI z)], [vI ((sI σ 500000 m 0 0).1 550000 (A 4) (nI (16 * p + y.toNatClampNeg)).toNatClampNeg)], sI σ 500000 m 0 0, 0, 0)
          rw [show (nI (16 * p + y.toNatClampNeg) : Int32).toNatClampNeg = 16 * p + y.toNatClampNeg from nI_clamp (n := 16 * p + y.toNatClampNeg) (by omega)]
          show WG _ _ _ _ _ _ _ (58, [(5, vI (σ.1 540000 (A 3) (16 * p + y.toNatClampNeg))), (4, vI (nI (16 * p + y.toNatClampNeg))), (0, vR (some m)), (1, vI (nI p)), (2, vI (nI y.toNatClampNeg)), (3, vI z)], [vI (σ.1 550000 (A 4) (16 * p + y.toNatClampNeg))], sI σ 500000 m 0 0, 0, 0)
          refine w_run 1 (S' := (116, [(5, vI (σ.1 540000 (A 3) (16 * p + y.toNatClampNeg))), (4, vI (nI (16 * p + y.toNatClampNeg))), (0, vR (some m)), (1, vI (nI p)), (2, vI (nI y.toNatClampNeg)), (3, vI z)], [vI (σ.1 550000 (A 4) (16 * p + y.toNatClampNeg))], sI σ 500000 m 0 0, 0, 0)) rfl ?_
          exact w_iret rfl (Or.inl rfl) (by omega) (by omega) (⟨by simp only [mhnF, mcl hp, if_pos c1, if_pos nc1, if_neg c2, if_neg c3, if_pos c4, if_pos c5, if_neg (Int32.not_lt.mpr c4)], rfl⟩)
      · refine w_run 1 (S' := (29, [(0, vR (some m)), (1, vI (nI p)), (2, vI (nI y.toNatClampNeg)), (3, vI z)], [vI (-1)], sI σ 500000 m 0 0, 0, 0)) rfl ?_
        exact w_iret rfl (Or.inl rfl) (by omega) (by omega) (⟨by simp only [mhnF, mcl hp, if_pos c1, if_pos nc1, if_neg c2, if_neg c3, if_neg c4, if_pos (Int32.not_le.mp c4)], rfl⟩)

