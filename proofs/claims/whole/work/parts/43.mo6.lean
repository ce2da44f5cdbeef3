/-! the model: the first free row and handle -/
set_option maxHeartbeats 4000000 in
theorem lp_mo_freeRow (l : Launch) (E : FE) (d : Nat) (σ : Sg) (m : Nat) (A : Nat → Nat) (p j : Nat) (hM : MO σ m A) (hp : p < 4) (hj : j < 64 * p + 64) (h0 : σ.1 610000 (A 10) j ≤ 0) (hb : ∀ i, 64 * p ≤ i → i < j → ¬ σ.1 610000 (A 10) i ≤ 0) : ∀ (k i : Nat), i + k = j → 64 * p ≤ i → WP l E d 97 [vR (some m), vI (nI p)] 0 0 (fun r σ' => r = some (vI (nI j)) ∧ σ' = σ) (fun _ _ => False) (5, [(2, vI (nI i)), (0, vR (some m)), (1, vI (nI p))], [], σ, 0, 0) := by
  intro k
  induction k with
  | zero =>
    intro i hi hlo
    have e16 : i = j := by omega
    subst e16
    refine w_run 1 (S' := (6, [(2, vI (nI i)), (0, vR (some m)), (1, vI (nI p))], [vR (some m)], σ, 0, 0)) rfl ?_
    refine w_get (k := 50) (vR (σ.2.1 501261 m 0)) rfl rfl rfl hM.1 rfl rfl ?_
    refine w_run 1 (S' := (10, [(2, vI (nI i)), (0, vR (some m)), (1, vI (nI p))], [vI (nI i), vR (σ.2.1 501261 m 0)], σ, 0, 0)) rfl ?_
    refine w_iald (k := 61) rfl ((hM.2 10 (by decide)).1) ((hM.2 10 (by decide)).2) rfl (show vp_in (nI i) 256 from vp_in_nI (n := i) (by omega) (by decide)) ?_
    show WG _ _ _ _ _ _ _ (11, [(2, vI (nI i)), (0, vR (some m)), (1, vI (nI p))], [vI (σ.1 610000 (A 10) (nI i).toNatClampNeg)], σ, 0, 0)
    rw [show (nI i : Int32).toNatClampNeg = i from nI_clamp (n := i) (by omega)]
    show WG _ _ _ _ _ _ _ (11, [(2, vI (nI i)), (0, vR (some m)), (1, vI (nI p))], [vI (σ.1 610000 (A 10) i)], σ, 0, 0)
    refine w_if_le rfl (fun c1 => ?_) (fun c1 => (absurd h0 c1))
    refine w_run 1 (S' := (21, [(2, vI (nI i)), (0, vR (some m)), (1, vI (nI p))], [vI (nI i)], σ, 0, 0)) rfl ?_
    exact w_iret rfl (Or.inl rfl) (by omega) (by omega) (⟨rfl, rfl⟩)
  | succ k ih =>
    intro i hi hlo
    refine w_run 1 (S' := (6, [(2, vI (nI i)), (0, vR (some m)), (1, vI (nI p))], [vR (some m)], σ, 0, 0)) rfl ?_
    refine w_get (k := 50) (vR (σ.2.1 501261 m 0)) rfl rfl rfl hM.1 rfl rfl ?_
    refine w_run 1 (S' := (10, [(2, vI (nI i)), (0, vR (some m)), (1, vI (nI p))], [vI (nI i), vR (σ.2.1 501261 m 0)], σ, 0, 0)) rfl ?_
    refine w_iald (k := 61) rfl ((hM.2 10 (by decide)).1) ((hM.2 10 (by decide)).2) rfl (show vp_in (nI i) 256 from vp_in_nI (n := i) (by omega) (by decide)) ?_
    show WG _ _ _ _ _ _ _ (11, [(2, vI (nI i)), (0, vR (some m)), (1, vI (nI p))], [vI (σ.1 610000 (A 10) (nI i).toNatClampNeg)], σ, 0, 0)
    rw [show (nI i : Int32).toNatClampNeg = i from nI_clamp (n := i) (by omega)]
    show WG _ _ _ _ _ _ _ (11, [(2, vI (nI i)), (0, vR (some m)), (1, vI (nI p))], [vI (σ.1 610000 (A 10) i)], σ, 0, 0)
    refine w_if_le rfl (fun c1 => (absurd c1 (hb i hlo (by omega)))) (fun c1 => ?_)
    refine w_run 2 (S' := (5, [(2, vI ((nI i) + 1)), (0, vR (some m)), (1, vI (nI p))], [], σ, 0, 0)) rfl ?_
    rw [show ((nI i) + 1 : Int32) = nI (i + 1) from by simp only [nl0, nl1, nl2, nl3, nl4, nl5, nl6, nl8, nl9, nl10, nl12, nl15, nl16, nl20, nl24, nl32, nl40, nl64, nl65, nl384, pk_mul, nI_add]]
    show WG _ _ _ _ _ _ _ (5, [(2, vI (nI (i + 1))), (0, vR (some m)), (1, vI (nI p))], [], σ, 0, 0)
    exact ih (i + 1) (by omega) (by omega)
set_option maxHeartbeats 4000000 in
theorem c_mo_freeRow (l : Launch) (E : FE) (d : Nat) (σ : Sg) (m : Nat) (A : Nat → Nat) (p j : Nat) (hM : MO σ m A) (hp : p < 4) (hj : j < 64 * p + 64) (h0 : σ.1 610000 (A 10) j ≤ 0) (hb : ∀ i, 64 * p ≤ i → i < j → ¬ σ.1 610000 (A 10) i ≤ 0) (hj2 : 64 * p ≤ j) : CT l E d 97 [vR (some m), vI (nI p)] σ 0 0 (fun r σ' => r = some (vI (nI j)) ∧ σ' = σ) (fun _ _ => False) := by
  refine CTo ok_mo_freeRow (by decide +kernel) rfl rfl rfl ?_
  refine w_run 4 (S' := (5, [(2, vI (64 * (nI p))), (0, vR (some m)), (1, vI (nI p))], [], σ, 0, 0)) rfl ?_
  rw [show (64 * (nI p) : Int32) = nI (64 * p) from by simp only [nl0, nl1, nl2, nl3, nl4, nl5, nl6, nl8, nl9, nl10, nl12, nl15, nl16, nl20, nl24, nl32, nl40, nl64, nl65, nl384, pk_mul, nI_add]]
  show WG _ _ _ _ _ _ _ (5, [(2, vI (nI (64 * p))), (0, vR (some m)), (1, vI (nI p))], [], σ, 0, 0)
  exact lp_mo_freeRow l E d σ m A p j hM hp hj h0 hb (j - 64 * p) (64 * p) (by omega) (by omega)

set_option maxHeartbeats 4000000 in
theorem lp_mo_newHandle (l : Launch) (E : FE) (d : Nat) (σ : Sg) (m : Nat) (A : Nat → Nat) (p j : Nat) (v : Int32) (hd : 1 ≤ d) (hM : MO σ m A) (hp : p < 4) (hj : j < 16) (h0 : hhF (σ.1 550000 (A 4)) (σ.1 560000 (A 5)) p (nI j) = 0) (hb : ∀ i, 1 ≤ i → i < j → ¬ hhF (σ.1 550000 (A 4)) (σ.1 560000 (A 5)) p (nI i) = 0) : ∀ (k i : Nat), i + k = j → 1 ≤ i → WP l E d 99 [vR (some m), vI (nI p), vI v] 0 0 (fun r σ' => r = some (vI (nI j)) ∧ σ' = sI σ 540000 (A 3) (16 * p + j) v) (fun _ _ => False) (2, [(3, vI (nI i)), (0, vR (some m)), (1, vI (nI p)), (2, vI v)], [], σ, 0, 0) := by
  intro k
  induction k with
  | zero =>
    intro i hi hlo
    have e16 : i = j := by omega
    subst e16
    refine w_run 3 (S' := (5, [(3, vI (nI i)), (0, vR (some m)), (1, vI (nI p)), (2, vI v)], [vI (nI i), vI (nI p), vR (some m)], σ, 0, 0)) rfl ?_
    refine w_callV (st := []) [vI (nI p), vI (nI i)] rfl ml_10_141 rfl rfl hM.1 rfl rfl rfl (by simp only [RM]; omega) (by simp only [RM]; show 8 + (3 + 11) + _ ≤ _; omega) rfl (by simp only [RM]; omega) (by simp only [RM]; omega) (c_mo_hasHandle l E (d - 1) σ m A p (nI i) hM hp) (fun _ _ h => h.elim) ?_
    intro r9 s9 q9
    rw [q9.1, q9.2]
    clear q9 r9 s9
    show WG _ _ _ _ _ _ _ (8, [(3, vI (nI i)), (0, vR (some m)), (1, vI (nI p)), (2, vI v)], [vI (hhF (σ.1 550000 (A 4)) (σ.1 560000 (A 5)) p (nI i))], σ, 0, 0)
    refine w_if_eq rfl (fun c1 => ?_) (fun c1 => (absurd h0 c1))
    refine w_run 1 (S' := (18, [(3, vI (nI i)), (0, vR (some m)), (1, vI (nI p)), (2, vI v)], [vR (some m)], σ, 0, 0)) rfl ?_
    refine w_get (k := 50) (vR (σ.2.1 500554 m 0)) rfl rfl rfl hM.1 rfl rfl ?_
    refine w_run 6 (S' := (28, [(3, vI (nI i)), (0, vR (some m)), (1, vI (nI p)), (2, vI v)], [vI v, vI ((16 * (nI p)) + (nI i)), vR (σ.2.1 500554 m 0)], σ, 0, 0)) rfl ?_
    rw [show ((16 * (nI p)) + (nI i) : Int32) = nI (16 * p + i) from by simp only [nl0, nl1, nl2, nl3, nl4, nl5, nl6, nl8, nl9, nl10, nl12, nl15, nl16, nl20, nl24, nl32, nl40, nl64, nl65, nl384, pk_mul, nI_add]]
    show WG _ _ _ _ _ _ _ (28, [(3, vI (nI i)), (0, vR (some m)), (1, vI (nI p)), (2, vI v)], [vI v, vI (nI (16 * p + i)), vR (σ.2.1 500554 m 0)], σ, 0, 0)
    refine w_iast (k := 54) rfl ((hM.2 3 (by decide)).1) ((hM.2 3 (by decide)).2) rfl (show vp_in (nI (16 * p + i)) 64 from vp_in_nI (n := 16 * p + i) (by omega) (by decide)) ?_
    show WG _ _ _ _ _ _ _ (29, [(3, vI (nI i)), (0, vR (some m)), (1, vI (nI p)), (2, vI v)], [], sI σ 540000 (A 3) ((nI (16 * p + i)).toNatClampNeg) v, 0, 0)
    rw [show (nI (16 * p + i) : Int32).toNatClampNeg = 16 * p + i from nI_clamp (n := 16 * p + i) (by omega)]
    refine w_run 1 (S' := (30, [(3, vI (nI i)), (0, vR (some m)), (1, vI (nI p)), (2, vI v)], [vI (nI i)], sI σ 540000 (A 3) (16 * p + i) v, 0, 0)) rfl ?_
    exact w_iret rfl (Or.inl rfl) (by omega) (by omega) (⟨rfl, rfl⟩)
  | succ k ih =>
    intro i hi hlo
    refine w_run 3 (S' := (5, [(3, vI (nI i)), (0, vR (some m)), (1, vI (nI p)), (2, vI v)], [vI (nI i), vI (nI p), vR (some m)], σ, 0, 0)) rfl ?_
    refine w_callV (st := []) [vI (nI p), vI (nI i)] rfl ml_10_141 rfl rfl hM.1 rfl rfl rfl (by simp only [RM]; omega) (by simp only [RM]; show 8 + (3 + 11) + _ ≤ _; omega) rfl (by simp only [RM]; omega) (by simp only [RM]; omega) (c_mo_hasHandle l E (d - 1) σ m A p (nI i) hM hp) (fun _ _ h => h.elim) ?_
    intro r9 s9 q9
    rw [q9.1, q9.2]
    clear q9 r9 s9
    show WG _ _ _ _ _ _ _ (8, [(3, vI (nI i)), (0, vR (some m)), (1, vI (nI p)), (2, vI v)], [vI (hhF (σ.1 550000 (A 4)) (σ.1 560000 (A 5)) p (nI i))], σ, 0, 0)
    refine w_if_eq rfl (fun c1 => (absurd c1 (hb i hlo (by omega)))) (fun c1 => ?_)
    refine w_run 2 (S' := (2, [(3, vI ((nI i) + 1)), (0, vR (some m)), (1, vI (nI p)), (2, vI v)], [], σ, 0, 0)) rfl ?_
    rw [show ((nI i) + 1 : Int32) = nI (i + 1) from by simp only [nl0, nl1, nl2, nl3, nl4, nl5, nl6, nl8, nl9, nl10, nl12, nl15, nl16, nl20, nl24, nl32, nl40, nl64, nl65, nl384, pk_mul, nI_add]]
    show WG _ _ _ _ _ _ _ (2, [(3, vI (nI (i + 1))), (0, vR (some m)), (1, vI (nI p)), (2, vI v)], [], σ, 0, 0)
    exact ih (i + 1) (by omega) (by omega)
set_option maxHeartbeats 4000000 in
theorem c_mo_newHandle (l : Launch) (E : FE) (d : Nat) (σ : Sg) (m : Nat) (A : Nat → Nat) (p j : Nat) (v : Int32) (hd : 1 ≤ d) (hM : MO σ m A) (hp : p < 4) (hj : j < 16) (h0 : hhF (σ.1 550000 (A 4)) (σ.1 560000 (A 5)) p (nI j) = 0) (hb : ∀ i, 1 ≤ i → i < j → ¬ hhF (σ.1 550000 (A 4)) (σ.1 560000 (A 5)) p (nI i) = 0) (hj2 : 1 ≤ j) : CT l E d 99 [vR (some m), vI (nI p), vI v] σ 0 0 (fun r σ' => r = some (vI (nI j)) ∧ σ' = sI σ 540000 (A 3) (16 * p + j) v) (fun _ _ => False) := by
  refine CTo ok_mo_newHandle (by decide +kernel) rfl rfl rfl ?_
  refine w_run 2 (S' := (2, [(3, vI 1), (0, vR (some m)), (1, vI (nI p)), (2, vI v)], [], σ, 0, 0)) rfl ?_
  exact lp_mo_newHandle l E d σ m A p j v hd hM hp hj h0 hb (j - 1) 1 (by omega) (by omega)

