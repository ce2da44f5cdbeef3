/-! the model: its searches -/
def hdsF (st wk : Nat → Int32) (p : Nat) : Nat → Int32 → Int32 := fun h a => if hhF st wk p (nI h) = 0 then a else a + 1
set_option maxHeartbeats 4000000 in
theorem lp_mo_handles (l : Launch) (E : FE) (d : Nat) (σ : Sg) (m : Nat) (A : Nat → Nat) (p dd : Nat) (hM : MO σ m A) (hd : dd + 1 ≤ d) (hp : p < 4) (z : Int32) : ∀ (k i : Nat), i + k = 16 → ∀ (a : Int32), itF (hdsF (σ.1 550000 (A 4)) (σ.1 560000 (A 5)) p) k i a = z →
    WP l E d 88 [vR (some m), vI (nI p)] 0 0 (fun r σ' => r = some (vI z) ∧ σ' = σ) (fun _ _ => False) (4, [(3, vI (nI i)), (2, vI a), (0, vR (some m)), (1, vI (nI p))], [], σ, 0, 0) := by
  intro k
  induction k with
  | zero =>
    intro i hi a e
    change a = z at e
    subst e
    refine w_run 2 (S' := (7, [(3, vI (nI i)), (2, vI a), (0, vR (some m)), (1, vI (nI p))], [vI 16, vI (nI i)], σ, 0, 0)) rfl ?_
    refine w_ic_ge rfl (fun c1 => ?_) (fun c1 => (absurd ((nI_leI (a := 16) (b := i) (by omega) (by omega)).mpr (by omega)) c1))
    have nc1 := (nI_leI (a := 16) (b := i) (by omega) (by omega)).mp c1
    refine w_run 1 (S' := (34, [(3, vI (nI i)), (2, vI a), (0, vR (some m)), (1, vI (nI p))], [vI a], σ, 0, 0)) rfl ?_
    exact w_iret rfl (Or.inl rfl) (by omega) (by omega) (⟨rfl, rfl⟩)
  | succ k ih =>
    intro i hi a e
    refine w_run 2 (S' := (7, [(3, vI (nI i)), (2, vI a), (0, vR (some m)), (1, vI (nI p))], [vI 16, vI (nI i)], σ, 0, 0)) rfl ?_
    refine w_ic_ge rfl (fun c1 => (absurd ((nI_leI (a := 16) (b := i) (by omega) (by omega)).mp c1) (by omega))) (fun c1 => ?_)
    have nc1 := mt (nI_leI (a := 16) (b := i) (by omega) (by omega)).mpr c1
    refine w_run 3 (S' := (13, [(3, vI (nI i)), (2, vI a), (0, vR (some m)), (1, vI (nI p))], [vI (nI i), vI (nI p), vR (some m)], σ, 0, 0)) rfl ?_
    refine w_callV (st := []) [vI (nI p), vI (nI i)] rfl ml_10_141 rfl rfl hM.1 rfl rfl rfl (by simp only [RM]; omega) (by simp only [RM]; show 8 + (3 + 11) + _ ≤ _; omega) rfl (by simp only [RM]; omega) (by simp only [RM]; omega) (c_mo_hasHandle l E dd σ m A p (nI i) hM hp) (fun _ _ h => h.elim) ?_
    intro r9 s9 q9
    rw [q9.1, q9.2]
    clear q9 r9 s9
    show WG _ _ _ _ _ _ _ (16, [(3, vI (nI i)), (2, vI a), (0, vR (some m)), (1, vI (nI p))], [vI (hhF (σ.1 550000 (A 4)) (σ.1 560000 (A 5)) p (nI i))], σ, 0, 0)
    refine w_if_eq rfl (fun c2 => ?_) (fun c2 => ?_)
    · refine w_run 4 (S' := (4, [(3, vI ((nI i) + 1)), (2, vI a), (0, vR (some m)), (1, vI (nI p))], [], σ, 0, 0)) rfl ?_
      rw [show ((nI i) + 1 : Int32) = nI (i + 1) from by simp only [nl0, nl1, nl2, nl3, nl4, nl5, nl6, nl8, nl9, nl10, nl12, nl15, nl16, nl20, nl24, nl32, nl40, nl64, nl65, nl384, pk_mul, nI_add]]
      show WG _ _ _ _ _ _ _ (4, [(3, vI (nI (i + 1))), (2, vI a), (0, vR (some m)), (1, vI (nI p))], [], σ, 0, 0)
      exact ih (i + 1) (by omega) a (by rw [show (a : Int32) = (hdsF (σ.1 550000 (A 4)) (σ.1 560000 (A 5)) p) i a from by simp [hdsF, c1, c2]]; exact e)
    · refine w_run 7 (S' := (4, [(3, vI ((nI i) + 1)), (2, vI (a + 1)), (0, vR (some m)), (1, vI (nI p))], [], σ, 0, 0)) rfl ?_
      rw [show ((nI i) + 1 : Int32) = nI (i + 1) from by simp only [nl0, nl1, nl2, nl3, nl4, nl5, nl6, nl8, nl9, nl10, nl12, nl15, nl16, nl20, nl24, nl32, nl40, nl64, nl65, nl384, pk_mul, nI_add]]
      show WG _ _ _ _ _ _ _ (4, [(3, vI (nI (i + 1))), (2, vI (a + 1)), (0, vR (some m)), (1, vI (nI p))], [], σ, 0, 0)
      exact ih (i + 1) (by omega) (a + 1) (by rw [show ((a + 1) : Int32) = (hdsF (σ.1 550000 (A 4)) (σ.1 560000 (A 5)) p) i a from by simp [hdsF, c1, c2]]; exact e)
set_option maxHeartbeats 4000000 in
theorem c_mo_handles (l : Launch) (E : FE) (d : Nat) (σ : Sg) (m : Nat) (A : Nat → Nat) (p dd : Nat) (hM : MO σ m A) (hd : dd + 1 ≤ d) (hp : p < 4) : CT l E d 88 [vR (some m), vI (nI p)] σ 0 0 (fun r σ' => r = some (vI (itF (hdsF (σ.1 550000 (A 4)) (σ.1 560000 (A 5)) p) 15 1 0)) ∧ σ' = σ) (fun _ _ => False) := by
  refine CTo ok_mo_handles (by decide +kernel) rfl rfl rfl ?_
  refine w_run 4 (S' := (4, [(3, vI 1), (2, vI 0), (0, vR (some m)), (1, vI (nI p))], [], σ, 0, 0)) rfl ?_
  exact lp_mo_handles l E d σ m A p dd hM hd hp _ 15 1 (by omega) 0 rfl

def hfF (st wk hn : Nat → Int32) (p : Nat) (n : Int32) : Nat → Int32 → Int32 := fun h a => if hhF st wk p (nI h) = 0 then a else if hn (16 * p + h) = n then nI h else a
set_option maxHeartbeats 4000000 in
theorem lp_mo_handleFor (l : Launch) (E : FE) (d : Nat) (σ : Sg) (m : Nat) (A : Nat → Nat) (p dd : Nat) (n : Int32) (hM : MO σ m A) (hd : dd + 1 ≤ d) (hp : p < 4) (z : Int32) : ∀ (k i : Nat), i + k = 16 → ∀ (a : Int32), itF (hfF (σ.1 550000 (A 4)) (σ.1 560000 (A 5)) (σ.1 540000 (A 3)) p n) k i a = z →
    WP l E d 89 [vR (some m), vI (nI p), vI n] 0 0 (fun r σ' => r = some (vI z) ∧ σ' = σ) (fun _ _ => False) (5, [(4, vI (nI i)), (3, vI a), (0, vR (some m)), (1, vI (nI p)), (2, vI n)], [], σ, 0, 0) := by
  intro k
  induction k with
  | zero =>
    intro i hi a e
    change a = z at e
    subst e
    refine w_run 2 (S' := (9, [(4, vI (nI i)), (3, vI a), (0, vR (some m)), (1, vI (nI p)), (2, vI n)], [vI 16, vI (nI i)], σ, 0, 0)) rfl ?_
    refine w_ic_ge rfl (fun c1 => ?_) (fun c1 => (absurd ((nI_leI (a := 16) (b := i) (by omega) (by omega)).mpr (by omega)) c1))
    have nc1 := (nI_leI (a := 16) (b := i) (by omega) (by omega)).mp c1
    refine w_run 1 (S' := (52, [(4, vI (nI i)), (3, vI a), (0, vR (some m)), (1, vI (nI p)), (2, vI n)], [vI a], σ, 0, 0)) rfl ?_
    exact w_iret rfl (Or.inl rfl) (by omega) (by omega) (⟨rfl, rfl⟩)
  | succ k ih =>
    intro i hi a e
    refine w_run 2 (S' := (9, [(4, vI (nI i)), (3, vI a), (0, vR (some m)), (1, vI (nI p)), (2, vI n)], [vI 16, vI (nI i)], σ, 0, 0)) rfl ?_
    refine w_ic_ge rfl (fun c1 => (absurd ((nI_leI (a := 16) (b := i) (by omega) (by omega)).mp c1) (by omega))) (fun c1 => ?_)
    have nc1 := mt (nI_leI (a := 16) (b := i) (by omega) (by omega)).mpr c1
    refine w_run 3 (S' := (16, [(4, vI (nI i)), (3, vI a), (0, vR (some m)), (1, vI (nI p)), (2, vI n)], [vI (nI i), vI (nI p), vR (some m)], σ, 0, 0)) rfl ?_
    refine w_callV (st := []) [vI (nI p), vI (nI i)] rfl ml_10_141 rfl rfl hM.1 rfl rfl rfl (by simp only [RM]; omega) (by simp only [RM]; show 8 + (3 + 11) + _ ≤ _; omega) rfl (by simp only [RM]; omega) (by simp only [RM]; omega) (c_mo_hasHandle l E dd σ m A p (nI i) hM hp) (fun _ _ h => h.elim) ?_
    intro r9 s9 q9
    rw [q9.1, q9.2]
    clear q9 r9 s9
    show WG _ _ _ _ _ _ _ (19, [(4, vI (nI i)), (3, vI a), (0, vR (some m)), (1, vI (nI p)), (2, vI n)], [vI (hhF (σ.1 550000 (A 4)) (σ.1 560000 (A 5)) p (nI i))], σ, 0, 0)
    refine w_if_eq rfl (fun c2 => ?_) (fun c2 => ?_)
    · refine w_run 4 (S' := (5, [(4, vI ((nI i) + 1)), (3, vI a), (0, vR (some m)), (1, vI (nI p)), (2, vI n)], [], σ, 0, 0)) rfl ?_
      rw [show ((nI i) + 1 : Int32) = nI (i + 1) from by simp only [nl0, nl1, nl2, nl3, nl4, nl5, nl6, nl8, nl9, nl10, nl12, nl15, nl16, nl20, nl24, nl32, nl40, nl64, nl65, nl384, pk_mul, nI_add]]
      show WG _ _ _ _ _ _ _ (5, [(4, vI (nI (i + 1))), (3, vI a), (0, vR (some m)), (1, vI (nI p)), (2, vI n)], [], σ, 0, 0)
      exact ih (i + 1) (by omega) a (by rw [show (a : Int32) = (hfF (σ.1 550000 (A 4)) (σ.1 560000 (A 5)) (σ.1 540000 (A 3)) p n) i a from by simp [hfF, c1, c2]]; exact e)
    · refine w_run 1 (S' := (23, [(4, vI (nI i)), (3, vI a), (0, vR (some m)), (1, vI (nI p)), (2, vI n)], [vR (some m)], σ, 0, 0)) rfl ?_
      refine w_get (k := 50) (vR (σ.2.1 500554 m 0)) rfl rfl rfl hM.1 rfl rfl ?_
      refine w_run 5 (S' := (33, [(4, vI (nI i)), (3, vI a), (0, vR (some m)), (1, vI (nI p)), (2, vI n)], [vI ((16 * (nI p)) + (nI i)), vR (σ.2.1 500554 m 0)], σ, 0, 0)) rfl ?_
      rw [show ((16 * (nI p)) + (nI i) : Int32) = nI (16 * p + i) from by simp only [nl0, nl1, nl2, nl3, nl4, nl5, nl6, nl8, nl9, nl10, nl12, nl15, nl16, nl20, nl24, nl32, nl40, nl64, nl65, nl384, pk_mul, nI_add]]
      show WG _ _ _ _ _ _ _ (33, [(4, vI (nI i)), (3, vI a), (0, vR (some m)), (1, vI (nI p)), (2, vI n)], [vI (nI (16 * p + i)), vR (σ.2.1 500554 m 0)], σ, 0, 0)
      refine w_iald (k := 54) rfl ((hM.2 3 (by decide)).1) ((hM.2 3 (by decide)).2) rfl (show vp_in (nI (16 * p + i)) 64 from vp_in_nI (n := 16 * p + i) (by omega) (by decide)) ?_
      show WG _ _ _ _ _ _ _ (34, [(4, vI (nI i)), (3, vI a), (0, vR (some m)), (1, vI (nI p)), (2, vI n)], [vI (σ.1 540000 (A 3) (nI (16 * p + i)).toNatClampNeg)], σ, 0, 0)
      rw [show (nI (16 * p + i) : Int32).toNatClampNeg = 16 * p + i from nI_clamp (n := 16 * p + i) (by omega)]
      show WG _ _ _ _ _ _ _ (34, [(4, vI (nI i)), (3, vI a), (0, vR (some m)), (1, vI (nI p)), (2, vI n)], [vI (σ.1 540000 (A 3) (16 * p + i))], σ, 0, 0)
      refine w_run 1 (S' := (35, [(4, vI (nI i)), (3, vI a), (0, vR (some m)), (1, vI (nI p)), (2, vI n)], [vI n, vI (σ.1 540000 (A 3) (16 * p + i))], σ, 0, 0)) rfl ?_
      refine w_ic_ne rfl (fun c3 => ?_) (fun c3 => ?_)
      · refine w_run 4 (S' := (5, [(4, vI ((nI i) + 1)), (3, vI a), (0, vR (some m)), (1, vI (nI p)), (2, vI n)], [], σ, 0, 0)) rfl ?_
        rw [show ((nI i) + 1 : Int32) = nI (i + 1) from by simp only [nl0, nl1, nl2, nl3, nl4, nl5, nl6, nl8, nl9, nl10, nl12, nl15, nl16, nl20, nl24, nl32, nl40, nl64, nl65, nl384, pk_mul, nI_add]]
        show WG _ _ _ _ _ _ _ (5, [(4, vI (nI (i + 1))), (3, vI a), (0, vR (some m)), (1, vI (nI p)), (2, vI n)], [], σ, 0, 0)
        exact ih (i + 1) (by omega) a (by rw [show (a : Int32) = (hfF (σ.1 550000 (A 4)) (σ.1 560000 (A 5)) (σ.1 540000 (A 3)) p n) i a from by simp [hfF, c1, c2, c3]]; exact e)
      · refine w_run 5 (S' := (5, [(4, vI ((nI i) + 1)), (3, vI (nI i)), (0, vR (some m)), (1, vI (nI p)), (2, vI n)], [], σ, 0, 0)) rfl ?_
        rw [show ((nI i) + 1 : Int32) = nI (i + 1) from by simp only [nl0, nl1, nl2, nl3, nl4, nl5, nl6, nl8, nl9, nl10, nl12, nl15, nl16, nl20, nl24, nl32, nl40, nl64, nl65, nl384, pk_mul, nI_add]]
        show WG _ _ _ _ _ _ _ (5, [(4, vI (nI (i + 1))), (3, vI (nI i)), (0, vR (some m)), (1, vI (nI p)), (2, vI n)], [], σ, 0, 0)
        exact ih (i + 1) (by omega) (nI i) (by rw [show ((nI i) : Int32) = (hfF (σ.1 550000 (A 4)) (σ.1 560000 (A 5)) (σ.1 540000 (A 3)) p n) i a from by simp [hfF, c1, c2, c3]]; exact e)
set_option maxHeartbeats 4000000 in
theorem c_mo_handleFor (l : Launch) (E : FE) (d : Nat) (σ : Sg) (m : Nat) (A : Nat → Nat) (p dd : Nat) (n : Int32) (hM : MO σ m A) (hd : dd + 1 ≤ d) (hp : p < 4) : CT l E d 89 [vR (some m), vI (nI p), vI n] σ 0 0 (fun r σ' => r = some (vI (itF (hfF (σ.1 550000 (A 4)) (σ.1 560000 (A 5)) (σ.1 540000 (A 3)) p n) 15 1 0)) ∧ σ' = σ) (fun _ _ => False) := by
  refine CTo ok_mo_handleFor (by decide +kernel) rfl rfl rfl ?_
  refine w_run 4 (S' := (5, [(4, vI 1), (3, vI 0), (0, vR (some m)), (1, vI (nI p)), (2, vI n)], [], σ, 0, 0)) rfl ?_
  exact lp_mo_handleFor l E d σ m A p dd n hM hd hp _ 15 1 (by omega) 0 rfl

def celsF (sta len ow : Nat → Int32) (w : Int32) : Nat → Int32 → Int32 := fun b a => if sta b ≤ 0 then a + 0 else if ow b = 0 then (if w = 0 then a + len b else a + 0) else a + len b
set_option maxHeartbeats 4000000 in
theorem lp_mo_cells (l : Launch) (E : FE) (d : Nat) (σ : Sg) (m : Nat) (A : Nat → Nat) (p : Nat) (w : Int32) (hM : MO σ m A) (hp : p < 4) (z : Int32) : ∀ (k i : Nat), i + k = 64 * p + 64 → ∀ (a : Int32), itF (celsF (σ.1 610000 (A 10)) (σ.1 630000 (A 12)) (σ.1 640000 (A 13)) w) k i a = z →
    WP l E d 92 [vR (some m), vI (nI p), vI w] 0 0 (fun r σ' => r = some (vI z) ∧ σ' = σ) (fun _ _ => False) (8, [(4, vI (nI i)), (3, vI a), (0, vR (some m)), (1, vI (nI p)), (2, vI w)], [], σ, 0, 0) := by
  intro k
  induction k with
  | zero =>
    intro i hi a e
    change a = z at e
    subst e
    refine w_run 6 (S' := (17, [(4, vI (nI i)), (3, vI a), (0, vR (some m)), (1, vI (nI p)), (2, vI w)], [vI ((64 * (nI p)) + 64), vI (nI i)], σ, 0, 0)) rfl ?_
    rw [show ((64 * (nI p)) + 64 : Int32) = nI (64 * p + 64) from by simp only [nl0, nl1, nl2, nl3, nl4, nl5, nl6, nl8, nl9, nl10, nl12, nl15, nl16, nl20, nl24, nl32, nl40, nl64, nl65, nl384, pk_mul, nI_add]]
    show WG _ _ _ _ _ _ _ (17, [(4, vI (nI i)), (3, vI a), (0, vR (some m)), (1, vI (nI p)), (2, vI w)], [vI (nI (64 * p + 64)), vI (nI i)], σ, 0, 0)
    refine w_ic_ge rfl (fun c1 => ?_) (fun c1 => (absurd ((nI_leI (a := 64 * p + 64) (b := i) (by omega) (by omega)).mpr (by omega)) c1))
    have nc1 := (nI_leI (a := 64 * p + 64) (b := i) (by omega) (by omega)).mp c1
    refine w_run 1 (S' := (65, [(4, vI (nI i)), (3, vI a), (0, vR (some m)), (1, vI (nI p)), (2, vI w)], [vI a], σ, 0, 0)) rfl ?_
    exact w_iret rfl (Or.inl rfl) (by omega) (by omega) (⟨rfl, rfl⟩)
  | succ k ih =>
    intro i hi a e
    refine w_run 6 (S' := (17, [(4, vI (nI i)), (3, vI a), (0, vR (some m)), (1, vI (nI p)), (2, vI w)], [vI ((64 * (nI p)) + 64), vI (nI i)], σ, 0, 0)) rfl ?_
    rw [show ((64 * (nI p)) + 64 : Int32) = nI (64 * p + 64) from by simp only [nl0, nl1, nl2, nl3, nl4, nl5, nl6, nl8, nl9, nl10, nl12, nl15, nl16, nl20, nl24, nl32, nl40, nl64, nl65, nl384, pk_mul, nI_add]]
    show WG _ _ _ _ _ _ _ (17, [(4, vI (nI i)), (3, vI a), (0, vR (some m)), (1, vI (nI p)), (2, vI w)], [vI (nI (64 * p + 64)), vI (nI i)], σ, 0, 0)
    refine w_ic_ge rfl (fun c1 => (absurd ((nI_leI (a := 64 * p + 64) (b := i) (by omega) (by omega)).mp c1) (by omega))) (fun c1 => ?_)
    have nc1 := mt (nI_leI (a := 64 * p + 64) (b := i) (by omega) (by omega)).mpr c1
    refine w_run 2 (S' := (22, [(4, vI (nI i)), (3, vI a), (0, vR (some m)), (1, vI (nI p)), (2, vI w)], [vR (some m), vI a], σ, 0, 0)) rfl ?_
    refine w_get (k := 50) (vR (σ.2.1 501261 m 0)) rfl rfl rfl hM.1 rfl rfl ?_
    refine w_run 1 (S' := (27, [(4, vI (nI i)), (3, vI a), (0, vR (some m)), (1, vI (nI p)), (2, vI w)], [vI (nI i), vR (σ.2.1 501261 m 0), vI a], σ, 0, 0)) rfl ?_
    refine w_iald (k := 61) rfl ((hM.2 10 (by decide)).1) ((hM.2 10 (by decide)).2) rfl (show vp_in (nI i) 256 from vp_in_nI (n := i) (by omega) (by decide)) ?_
    show WG _ _ _ _ _ _ _ (28, [(4, vI (nI i)), (3, vI a), (0, vR (some m)), (1, vI (nI p)), (2, vI w)], [vI (σ.1 610000 (A 10) (nI i).toNatClampNeg), vI a], σ, 0, 0)
    rw [show (nI i : Int32).toNatClampNeg = i from nI_clamp (n := i) (by omega)]
    show WG _ _ _ _ _ _ _ (28, [(4, vI (nI i)), (3, vI a), (0, vR (some m)), (1, vI (nI p)), (2, vI w)], [vI (σ.1 610000 (A 10) i), vI a], σ, 0, 0)
    refine w_if_le rfl (fun c2 => ?_) (fun c2 => ?_)
    · refine w_run 5 (S' := (8, [(4, vI ((nI i) + 1)), (3, vI (a + 0)), (0, vR (some m)), (1, vI (nI p)), (2, vI w)], [], σ, 0, 0)) rfl ?_
      rw [show ((nI i) + 1 : Int32) = nI (i + 1) from by simp only [nl0, nl1, nl2, nl3, nl4, nl5, nl6, nl8, nl9, nl10, nl12, nl15, nl16, nl20, nl24, nl32, nl40, nl64, nl65, nl384, pk_mul, nI_add]]
      show WG _ _ _ _ _ _ _ (8, [(4, vI (nI (i + 1))), (3, vI (a + 0)), (0, vR (some m)), (1, vI (nI p)), (2, vI w)], [], σ, 0, 0)
      exact ih (i + 1) (by omega) (a + 0) (by rw [show ((a + 0) : Int32) = (celsF (σ.1 610000 (A 10)) (σ.1 630000 (A 12)) (σ.1 640000 (A 13)) w) i a from by simp [celsF, c1, c2]]; exact e)
    · refine w_run 1 (S' := (32, [(4, vI (nI i)), (3, vI a), (0, vR (some m)), (1, vI (nI p)), (2, vI w)], [vR (some m), vI a], σ, 0, 0)) rfl ?_
      refine w_get (k := 50) (vR (σ.2.1 501564 m 0)) rfl rfl rfl hM.1 rfl rfl ?_
      refine w_run 1 (S' := (37, [(4, vI (nI i)), (3, vI a), (0, vR (some m)), (1, vI (nI p)), (2, vI w)], [vI (nI i), vR (σ.2.1 501564 m 0), vI a], σ, 0, 0)) rfl ?_
      refine w_zald (k := 64) rfl ((hM.2 13 (by decide)).1) ((hM.2 13 (by decide)).2) rfl (show vp_in (nI i) 256 from vp_in_nI (n := i) (by omega) (by decide)) ?_
      show WG _ _ _ _ _ _ _ (38, [(4, vI (nI i)), (3, vI a), (0, vR (some m)), (1, vI (nI p)), (2, vI w)], [vI (σ.1 640000 (A 13) (nI i).toNatClampNeg), vI a], σ, 0, 0)
      rw [show (nI i : Int32).toNatClampNeg = i from nI_clamp (n := i) (by omega)]
      show WG _ _ _ _ _ _ _ (38, [(4, vI (nI i)), (3, vI a), (0, vR (some m)), (1, vI (nI p)), (2, vI w)], [vI (σ.1 640000 (A 13) i), vI a], σ, 0, 0)
      refine w_if_ne rfl (fun c3 => ?_) (fun c3 => ?_)
      · refine w_run 1 (S' := (46, [(4, vI (nI i)), (3, vI a), (0, vR (some m)), (1, vI (nI p)), (2, vI w)], [vR (some m), vI a], σ, 0, 0)) rfl ?_
        refine w_get (k := 50) (vR (σ.2.1 501463 m 0)) rfl rfl rfl hM.1 rfl rfl ?_
        refine w_run 1 (S' := (51, [(4, vI (nI i)), (3, vI a), (0, vR (some m)), (1, vI (nI p)), (2, vI w)], [vI (nI i), vR (σ.2.1 501463 m 0), vI a], σ, 0, 0)) rfl ?_
        refine w_iald (k := 63) rfl ((hM.2 12 (by decide)).1) ((hM.2 12 (by decide)).2) rfl (show vp_in (nI i) 256 from vp_in_nI (n := i) (by omega) (by decide)) ?_
        show WG _ _ _ _ _ _ _ (52, [(4, vI (nI i)), (3, vI a), (0, vR (some m)), (1, vI (nI p)), (2, vI w)], [vI (σ.1 630000 (A 12) (nI i).toNatClampNeg), vI a], σ, 0, 0)
        rw [show (nI i : Int32).toNatClampNeg = i from nI_clamp (n := i) (by omega)]
        show WG _ _ _ _ _ _ _ (52, [(4, vI (nI i)), (3, vI a), (0, vR (some m)), (1, vI (nI p)), (2, vI w)], [vI (σ.1 630000 (A 12) i), vI a], σ, 0, 0)
        refine w_run 5 (S' := (8, [(4, vI ((nI i) + 1)), (3, vI (a + (σ.1 630000 (A 12) i))), (0, vR (some m)), (1, vI (nI p)), (2, vI w)], [], σ, 0, 0)) rfl ?_
        rw [show ((nI i) + 1 : Int32) = nI (i + 1) from by simp only [nl0, nl1, nl2, nl3, nl4, nl5, nl6, nl8, nl9, nl10, nl12, nl15, nl16, nl20, nl24, nl32, nl40, nl64, nl65, nl384, pk_mul, nI_add]]
        show WG _ _ _ _ _ _ _ (8, [(4, vI (nI (i + 1))), (3, vI (a + (σ.1 630000 (A 12) i))), (0, vR (some m)), (1, vI (nI p)), (2, vI w)], [], σ, 0, 0)
        exact ih (i + 1) (by omega) (a + (σ.1 630000 (A 12) i)) (by rw [show ((a + (σ.1 630000 (A 12) i)) : Int32) = (celsF (σ.1 610000 (A 10)) (σ.1 630000 (A 12)) (σ.1 640000 (A 13)) w) i a from by simp [celsF, c1, c2, c3]]; exact e)
      · refine w_run 1 (S' := (42, [(4, vI (nI i)), (3, vI a), (0, vR (some m)), (1, vI (nI p)), (2, vI w)], [vI w, vI a], σ, 0, 0)) rfl ?_
        refine w_if_ne rfl (fun c4 => ?_) (fun c4 => ?_)
        · refine w_run 5 (S' := (8, [(4, vI ((nI i) + 1)), (3, vI (a + 0)), (0, vR (some m)), (1, vI (nI p)), (2, vI w)], [], σ, 0, 0)) rfl ?_
          rw [show ((nI i) + 1 : Int32) = nI (i + 1) from by simp only [nl0, nl1, nl2, nl3, nl4, nl5, nl6, nl8, nl9, nl10, nl12, nl15, nl16, nl20, nl24, nl32, nl40, nl64, nl65, nl384, pk_mul, nI_add]]
          show WG _ _ _ _ _ _ _ (8, [(4, vI (nI (i + 1))), (3, vI (a + 0)), (0, vR (some m)), (1, vI (nI p)), (2, vI w)], [], σ, 0, 0)
          exact ih (i + 1) (by omega) (a + 0) (by rw [show ((a + 0) : Int32) = (celsF (σ.1 610000 (A 10)) (σ.1 630000 (A 12)) (σ.1 640000 (A 13)) w) i a from by simp [celsF, c1, c2, c3, c4]]; exact e)
        · refine w_run 1 (S' := (46, [(4, vI (nI i)), (3, vI a), (0, vR (some m)), (1, vI (nI p)), (2, vI w)], [vR (some m), vI a], σ, 0, 0)) rfl ?_
          refine w_get (k := 50) (vR (σ.2.1 501463 m 0)) rfl rfl rfl hM.1 rfl rfl ?_
          refine w_run 1 (S' := (51, [(4, vI (nI i)), (3, vI a), (0, vR (some m)), (1, vI (nI p)), (2, vI w)], [vI (nI i), vR (σ.2.1 501463 m 0), vI a], σ, 0, 0)) rfl ?_
          refine w_iald (k := 63) rfl ((hM.2 12 (by decide)).1) ((hM.2 12 (by decide)).2) rfl (show vp_in (nI i) 256 from vp_in_nI (n := i) (by omega) (by decide)) ?_
          show WG _ _ _ _ _ _ _ (52, [(4, vI (nI i)), (3, vI a), (0, vR (some m)), (1, vI (nI p)), (2, vI w)], [vI (σ.1 630000 (A 12) (nI i).toNatClampNeg), vI a], σ, 0, 0)
          rw [show (nI i : Int32).toNatClampNeg = i from nI_clamp (n := i) (by omega)]
          show WG _ _ _ _ _ _ _ (52, [(4, vI (nI i)), (3, vI a), (0, vR (some m)), (1, vI (nI p)), (2, vI w)], [vI (σ.1 630000 (A 12) i), vI a], σ, 0, 0)
          refine w_run 5 (S' := (8, [(4, vI ((nI i) + 1)), (3, vI (a + (σ.1 630000 (A 12) i))), (0, vR (some m)), (1, vI (nI p)), (2, vI w)], [], σ, 0, 0)) rfl ?_
          rw [show ((nI i) + 1 : Int32) = nI (i + 1) from by simp only [nl0, nl1, nl2, nl3, nl4, nl5, nl6, nl8, nl9, nl10, nl12, nl15, nl16, nl20, nl24, nl32, nl40, nl64, nl65, nl384, pk_mul, nI_add]]
          show WG _ _ _ _ _ _ _ (8, [(4, vI (nI (i + 1))), (3, vI (a + (σ.1 630000 (A 12) i))), (0, vR (some m)), (1, vI (nI p)), (2, vI w)], [], σ, 0, 0)
          exact ih (i + 1) (by omega) (a + (σ.1 630000 (A 12) i)) (by rw [show ((a + (σ.1 630000 (A 12) i)) : Int32) = (celsF (σ.1 610000 (A 10)) (σ.1 630000 (A 12)) (σ.1 640000 (A 13)) w) i a from by simp [celsF, c1, c2, c3, c4]]; exact e)
set_option maxHeartbeats 4000000 in
theorem c_mo_cells (l : Launch) (E : FE) (d : Nat) (σ : Sg) (m : Nat) (A : Nat → Nat) (p : Nat) (w : Int32) (hM : MO σ m A) (hp : p < 4) : CT l E d 92 [vR (some m), vI (nI p), vI w] σ 0 0 (fun r σ' => r = some (vI (itF (celsF (σ.1 610000 (A 10)) (σ.1 630000 (A 12)) (σ.1 640000 (A 13)) w) 64 (64 * p) 0)) ∧ σ' = σ) (fun _ _ => False) := by
  refine CTo ok_mo_cells (by decide +kernel) rfl rfl rfl ?_
  refine w_run 6 (S' := (8, [(4, vI (64 * (nI p))), (3, vI 0), (0, vR (some m)), (1, vI (nI p)), (2, vI w)], [], σ, 0, 0)) rfl ?_
  rw [show (64 * (nI p) : Int32) = nI (64 * p) from by simp only [nl0, nl1, nl2, nl3, nl4, nl5, nl6, nl8, nl9, nl10, nl12, nl15, nl16, nl20, nl24, nl32, nl40, nl64, nl65, nl384, pk_mul, nI_add]]
  show WG _ _ _ _ _ _ _ (8, [(4, vI (nI (64 * p))), (3, vI 0), (0, vR (some m)), (1, vI (nI p)), (2, vI w)], [], σ, 0, 0)
  exact lp_mo_cells l E d σ m A p w hM hp _ 64 (64 * p) (by omega) 0 rfl

def nxbF (sta beg : Nat → Int32) (c : Int32) : Nat → Int32 → Int32 := fun b a => if sta b ≤ 0 then a else if beg b < c then a else if a ≤ beg b then a else beg b
set_option maxHeartbeats 4000000 in
theorem lp_mo_nextBuffer (l : Launch) (E : FE) (d : Nat) (σ : Sg) (m : Nat) (A : Nat → Nat) (p : Nat) (c : Int32) (hM : MO σ m A) (hp : p < 4) (z : Int32) : ∀ (k i : Nat), i + k = 64 * p + 64 → ∀ (a : Int32), itF (nxbF (σ.1 610000 (A 10)) (σ.1 620000 (A 11)) c) k i a = z →
    WP l E d 93 [vR (some m), vI (nI p), vI c] 0 0 (fun r σ' => r = some (vI z) ∧ σ' = σ) (fun _ _ => False) (9, [(4, vI (nI i)), (3, vI a), (0, vR (some m)), (1, vI (nI p)), (2, vI c)], [], σ, 0, 0) := by
  intro k
  induction k with
  | zero =>
    intro i hi a e
    change a = z at e
    subst e
    refine w_run 6 (S' := (18, [(4, vI (nI i)), (3, vI a), (0, vR (some m)), (1, vI (nI p)), (2, vI c)], [vI ((64 * (nI p)) + 64), vI (nI i)], σ, 0, 0)) rfl ?_
    rw [show ((64 * (nI p)) + 64 : Int32) = nI (64 * p + 64) from by simp only [nl0, nl1, nl2, nl3, nl4, nl5, nl6, nl8, nl9, nl10, nl12, nl15, nl16, nl20, nl24, nl32, nl40, nl64, nl65, nl384, pk_mul, nI_add]]
    show WG _ _ _ _ _ _ _ (18, [(4, vI (nI i)), (3, vI a), (0, vR (some m)), (1, vI (nI p)), (2, vI c)], [vI (nI (64 * p + 64)), vI (nI i)], σ, 0, 0)
    refine w_ic_ge rfl (fun c1 => ?_) (fun c1 => (absurd ((nI_leI (a := 64 * p + 64) (b := i) (by omega) (by omega)).mpr (by omega)) c1))
    have nc1 := (nI_leI (a := 64 * p + 64) (b := i) (by omega) (by omega)).mp c1
    refine w_run 1 (S' := (72, [(4, vI (nI i)), (3, vI a), (0, vR (some m)), (1, vI (nI p)), (2, vI c)], [vI a], σ, 0, 0)) rfl ?_
    exact w_iret rfl (Or.inl rfl) (by omega) (by omega) (⟨rfl, rfl⟩)
  | succ k ih =>
    intro i hi a e
    refine w_run 6 (S' := (18, [(4, vI (nI i)), (3, vI a), (0, vR (some m)), (1, vI (nI p)), (2, vI c)], [vI ((64 * (nI p)) + 64), vI (nI i)], σ, 0, 0)) rfl ?_
    rw [show ((64 * (nI p)) + 64 : Int32) = nI (64 * p + 64) from by simp only [nl0, nl1, nl2, nl3, nl4, nl5, nl6, nl8, nl9, nl10, nl12, nl15, nl16, nl20, nl24, nl32, nl40, nl64, nl65, nl384, pk_mul, nI_add]]
    show WG _ _ _ _ _ _ _ (18, [(4, vI (nI i)), (3, vI a), (0, vR (some m)), (1, vI (nI p)), (2, vI c)], [vI (nI (64 * p + 64)), vI (nI i)], σ, 0, 0)
    refine w_ic_ge rfl (fun c1 => (absurd ((nI_leI (a := 64 * p + 64) (b := i) (by omega) (by omega)).mp c1) (by omega))) (fun c1 => ?_)
    have nc1 := mt (nI_leI (a := 64 * p + 64) (b := i) (by omega) (by omega)).mpr c1
    refine w_run 1 (S' := (22, [(4, vI (nI i)), (3, vI a), (0, vR (some m)), (1, vI (nI p)), (2, vI c)], [vR (some m)], σ, 0, 0)) rfl ?_
    refine w_get (k := 50) (vR (σ.2.1 501261 m 0)) rfl rfl rfl hM.1 rfl rfl ?_
    refine w_run 1 (S' := (27, [(4, vI (nI i)), (3, vI a), (0, vR (some m)), (1, vI (nI p)), (2, vI c)], [vI (nI i), vR (σ.2.1 501261 m 0)], σ, 0, 0)) rfl ?_
    refine w_iald (k := 61) rfl ((hM.2 10 (by decide)).1) ((hM.2 10 (by decide)).2) rfl (show vp_in (nI i) 256 from vp_in_nI (n := i) (by omega) (by decide)) ?_
    show WG _ _ _ _ _ _ _ (28, [(4, vI (nI i)), (3, vI a), (0, vR (some m)), (1, vI (nI p)), (2, vI c)], [vI (σ.1 610000 (A 10) (nI i).toNatClampNeg)], σ, 0, 0)
    rw [show (nI i : Int32).toNatClampNeg = i from nI_clamp (n := i) (by omega)]
    show WG _ _ _ _ _ _ _ (28, [(4, vI (nI i)), (3, vI a), (0, vR (some m)), (1, vI (nI p)), (2, vI c)], [vI (σ.1 610000 (A 10) i)], σ, 0, 0)
    refine w_if_le rfl (fun c2 => ?_) (fun c2 => ?_)
    · refine w_run 4 (S' := (9, [(4, vI ((nI i) + 1)), (3, vI a), (0, vR (some m)), (1, vI (nI p)), (2, vI c)], [], σ, 0, 0)) rfl ?_
      rw [show ((nI i) + 1 : Int32) = nI (i + 1) from by simp only [nl0, nl1, nl2, nl3, nl4, nl5, nl6, nl8, nl9, nl10, nl12, nl15, nl16, nl20, nl24, nl32, nl40, nl64, nl65, nl384, pk_mul, nI_add]]
      show WG _ _ _ _ _ _ _ (9, [(4, vI (nI (i + 1))), (3, vI a), (0, vR (some m)), (1, vI (nI p)), (2, vI c)], [], σ, 0, 0)
      exact ih (i + 1) (by omega) a (by rw [show (a : Int32) = (nxbF (σ.1 610000 (A 10)) (σ.1 620000 (A 11)) c) i a from by simp [nxbF, c1, c2]]; exact e)
    · refine w_run 1 (S' := (32, [(4, vI (nI i)), (3, vI a), (0, vR (some m)), (1, vI (nI p)), (2, vI c)], [vR (some m)], σ, 0, 0)) rfl ?_
      refine w_get (k := 50) (vR (σ.2.1 501362 m 0)) rfl rfl rfl hM.1 rfl rfl ?_
      refine w_run 1 (S' := (37, [(4, vI (nI i)), (3, vI a), (0, vR (some m)), (1, vI (nI p)), (2, vI c)], [vI (nI i), vR (σ.2.1 501362 m 0)], σ, 0, 0)) rfl ?_
      refine w_iald (k := 62) rfl ((hM.2 11 (by decide)).1) ((hM.2 11 (by decide)).2) rfl (show vp_in (nI i) 256 from vp_in_nI (n := i) (by omega) (by decide)) ?_
      show WG _ _ _ _ _ _ _ (38, [(4, vI (nI i)), (3, vI a), (0, vR (some m)), (1, vI (nI p)), (2, vI c)], [vI (σ.1 620000 (A 11) (nI i).toNatClampNeg)], σ, 0, 0)
      rw [show (nI i : Int32).toNatClampNeg = i from nI_clamp (n := i) (by omega)]
      show WG _ _ _ _ _ _ _ (38, [(4, vI (nI i)), (3, vI a), (0, vR (some m)), (1, vI (nI p)), (2, vI c)], [vI (σ.1 620000 (A 11) i)], σ, 0, 0)
      refine w_run 1 (S' := (39, [(4, vI (nI i)), (3, vI a), (0, vR (some m)), (1, vI (nI p)), (2, vI c)], [vI c, vI (σ.1 620000 (A 11) i)], σ, 0, 0)) rfl ?_
      refine w_ic_lt rfl (fun c3 => ?_) (fun c3 => ?_)
      · refine w_run 4 (S' := (9, [(4, vI ((nI i) + 1)), (3, vI a), (0, vR (some m)), (1, vI (nI p)), (2, vI c)], [], σ, 0, 0)) rfl ?_
        rw [show ((nI i) + 1 : Int32) = nI (i + 1) from by simp only [nl0, nl1, nl2, nl3, nl4, nl5, nl6, nl8, nl9, nl10, nl12, nl15, nl16, nl20, nl24, nl32, nl40, nl64, nl65, nl384, pk_mul, nI_add]]
        show WG _ _ _ _ _ _ _ (9, [(4, vI (nI (i + 1))), (3, vI a), (0, vR (some m)), (1, vI (nI p)), (2, vI c)], [], σ, 0, 0)
        exact ih (i + 1) (by omega) a (by rw [show (a : Int32) = (nxbF (σ.1 610000 (A 10)) (σ.1 620000 (A 11)) c) i a from by simp [nxbF, c1, c2, c3]]; exact e)
      · refine w_run 1 (S' := (43, [(4, vI (nI i)), (3, vI a), (0, vR (some m)), (1, vI (nI p)), (2, vI c)], [vR (some m)], σ, 0, 0)) rfl ?_
        refine w_get (k := 50) (vR (σ.2.1 501362 m 0)) rfl rfl rfl hM.1 rfl rfl ?_
        refine w_run 1 (S' := (48, [(4, vI (nI i)), (3, vI a), (0, vR (some m)), (1, vI (nI p)), (2, vI c)], [vI (nI i), vR (σ.2.1 501362 m 0)], σ, 0, 0)) rfl ?_
        refine w_iald (k := 62) rfl ((hM.2 11 (by decide)).1) ((hM.2 11 (by decide)).2) rfl (show vp_in (nI i) 256 from vp_in_nI (n := i) (by omega) (by decide)) ?_
        show WG _ _ _ _ _ _ _ (49, [(4, vI (nI i)), (3, vI a), (0, vR (some m)), (1, vI (nI p)), (2, vI c)], [vI (σ.1 620000 (A 11) (nI i).toNatClampNeg)], σ, 0, 0)
        rw [show (nI i : Int32).toNatClampNeg = i from nI_clamp (n := i) (by omega)]
        show WG _ _ _ _ _ _ _ (49, [(4, vI (nI i)), (3, vI a), (0, vR (some m)), (1, vI (nI p)), (2, vI c)], [vI (σ.1 620000 (A 11) i)], σ, 0, 0)
        refine w_run 1 (S' := (50, [(4, vI (nI i)), (3, vI a), (0, vR (some m)), (1, vI (nI p)), (2, vI c)], [vI a, vI (σ.1 620000 (A 11) i)], σ, 0, 0)) rfl ?_
        refine w_ic_ge rfl (fun c4 => ?_) (fun c4 => ?_)
        · refine w_run 4 (S' := (9, [(4, vI ((nI i) + 1)), (3, vI a), (0, vR (some m)), (1, vI (nI p)), (2, vI c)], [], σ, 0, 0)) rfl ?_
          rw [show ((nI i) + 1 : Int32) = nI (i + 1) from by simp only [nl0, nl1, nl2, nl3, nl4, nl5, nl6, nl8, nl9, nl10, nl12, nl15, nl16, nl20, nl24, nl32, nl40, nl64, nl65, nl384, pk_mul, nI_add]]
          show WG _ _ _ _ _ _ _ (9, [(4, vI (nI (i + 1))), (3, vI a), (0, vR (some m)), (1, vI (nI p)), (2, vI c)], [], σ, 0, 0)
          exact ih (i + 1) (by omega) a (by rw [show (a : Int32) = (nxbF (σ.1 610000 (A 10)) (σ.1 620000 (A 11)) c) i a from by simp [nxbF, c1, c2, c3, c4]]; exact e)
        · refine w_run 1 (S' := (54, [(4, vI (nI i)), (3, vI a), (0, vR (some m)), (1, vI (nI p)), (2, vI c)], [vR (some m)], σ, 0, 0)) rfl ?_
          refine w_get (k := 50) (vR (σ.2.1 501362 m 0)) rfl rfl rfl hM.1 rfl rfl ?_
          refine w_run 1 (S' := (59, [(4, vI (nI i)), (3, vI a), (0, vR (some m)), (1, vI (nI p)), (2, vI c)], [vI (nI i), vR (σ.2.1 501362 m 0)], σ, 0, 0)) rfl ?_
          refine w_iald (k := 62) rfl ((hM.2 11 (by decide)).1) ((hM.2 11 (by decide)).2) rfl (show vp_in (nI i) 256 from vp_in_nI (n := i) (by omega) (by decide)) ?_
          show WG _ _ _ _ _ _ _ (60, [(4, vI (nI i)), (3, vI a), (0, vR (some m)), (1, vI (nI p)), (2, vI c)], [vI (σ.1 620000 (A 11) (nI i).toNatClampNeg)], σ, 0, 0)
          rw [show (nI i : Int32).toNatClampNeg = i from nI_clamp (n := i) (by omega)]
          show WG _ _ _ _ _ _ _ (60, [(4, vI (nI i)), (3, vI a), (0, vR (some m)), (1, vI (nI p)), (2, vI c)], [vI (σ.1 620000 (A 11) i)], σ, 0, 0)
          refine w_run 4 (S' := (9, [(4, vI ((nI i) + 1)), (3, vI (σ.1 620000 (A 11) i)), (0, vR (some m)), (1, vI (nI p)), (2, vI c)], [], σ, 0, 0)) rfl ?_
          rw [show ((nI i) + 1 : Int32) = nI (i + 1) from by simp only [nl0, nl1, nl2, nl3, nl4, nl5, nl6, nl8, nl9, nl10, nl12, nl15, nl16, nl20, nl24, nl32, nl40, nl64, nl65, nl384, pk_mul, nI_add]]
          show WG _ _ _ _ _ _ _ (9, [(4, vI (nI (i + 1))), (3, vI (σ.1 620000 (A 11) i)), (0, vR (some m)), (1, vI (nI p)), (2, vI c)], [], σ, 0, 0)
          exact ih (i + 1) (by omega) (σ.1 620000 (A 11) i) (by rw [show ((σ.1 620000 (A 11) i) : Int32) = (nxbF (σ.1 610000 (A 10)) (σ.1 620000 (A 11)) c) i a from by simp [nxbF, c1, c2, c3, c4]]; exact e)
set_option maxHeartbeats 4000000 in
theorem c_mo_nextBuffer (l : Launch) (E : FE) (d : Nat) (σ : Sg) (m : Nat) (A : Nat → Nat) (p : Nat) (c : Int32) (hM : MO σ m A) (hp : p < 4) : CT l E d 93 [vR (some m), vI (nI p), vI c] σ 0 0 (fun r σ' => r = some (vI (itF (nxbF (σ.1 610000 (A 10)) (σ.1 620000 (A 11)) c) 64 (64 * p) 64)) ∧ σ' = σ) (fun _ _ => False) := by
  refine CTo ok_mo_nextBuffer (by decide +kernel) rfl rfl rfl ?_
  refine w_run 6 (S' := (9, [(4, vI (64 * (nI p))), (3, vI 64), (0, vR (some m)), (1, vI (nI p)), (2, vI c)], [], σ, 0, 0)) rfl ?_
  rw [show (64 * (nI p) : Int32) = nI (64 * p) from by simp only [nl0, nl1, nl2, nl3, nl4, nl5, nl6, nl8, nl9, nl10, nl12, nl15, nl16, nl20, nl24, nl32, nl40, nl64, nl65, nl384, pk_mul, nI_add]]
  show WG _ _ _ _ _ _ _ (9, [(4, vI (nI (64 * p))), (3, vI 64), (0, vR (some m)), (1, vI (nI p)), (2, vI c)], [], σ, 0, 0)
  exact lp_mo_nextBuffer l E d σ m A p c hM hp _ 64 (64 * p) (by omega) 64 rfl

def bhbF (sta beg len : Nat → Int32) (c : Int32) : Nat → Int32 → Int32 := fun b a => if sta b ≤ 0 then a else if beg b = c then c + len b else a
set_option maxHeartbeats 4000000 in
theorem lp_mo_behindBuffer (l : Launch) (E : FE) (d : Nat) (σ : Sg) (m : Nat) (A : Nat → Nat) (p : Nat) (c : Int32) (hM : MO σ m A) (hp : p < 4) (z : Int32) : ∀ (k i : Nat), i + k = 64 * p + 64 → ∀ (a : Int32), itF (bhbF (σ.1 610000 (A 10)) (σ.1 620000 (A 11)) (σ.1 630000 (A 12)) c) k i a = z →
    WP l E d 94 [vR (some m), vI (nI p), vI c] 0 0 (fun r σ' => r = some (vI z) ∧ σ' = σ) (fun _ _ => False) (8, [(4, vI (nI i)), (3, vI a), (0, vR (some m)), (1, vI (nI p)), (2, vI c)], [], σ, 0, 0) := by
  intro k
  induction k with
  | zero =>
    intro i hi a e
    change a = z at e
    subst e
    refine w_run 6 (S' := (17, [(4, vI (nI i)), (3, vI a), (0, vR (some m)), (1, vI (nI p)), (2, vI c)], [vI ((64 * (nI p)) + 64), vI (nI i)], σ, 0, 0)) rfl ?_
    rw [show ((64 * (nI p)) + 64 : Int32) = nI (64 * p + 64) from by simp only [nl0, nl1, nl2, nl3, nl4, nl5, nl6, nl8, nl9, nl10, nl12, nl15, nl16, nl20, nl24, nl32, nl40, nl64, nl65, nl384, pk_mul, nI_add]]
    show WG _ _ _ _ _ _ _ (17, [(4, vI (nI i)), (3, vI a), (0, vR (some m)), (1, vI (nI p)), (2, vI c)], [vI (nI (64 * p + 64)), vI (nI i)], σ, 0, 0)
    refine w_ic_ge rfl (fun c1 => ?_) (fun c1 => (absurd ((nI_leI (a := 64 * p + 64) (b := i) (by omega) (by omega)).mpr (by omega)) c1))
    have nc1 := (nI_leI (a := 64 * p + 64) (b := i) (by omega) (by omega)).mp c1
    refine w_run 1 (S' := (62, [(4, vI (nI i)), (3, vI a), (0, vR (some m)), (1, vI (nI p)), (2, vI c)], [vI a], σ, 0, 0)) rfl ?_
    exact w_iret rfl (Or.inl rfl) (by omega) (by omega) (⟨rfl, rfl⟩)
  | succ k ih =>
    intro i hi a e
    refine w_run 6 (S' := (17, [(4, vI (nI i)), (3, vI a), (0, vR (some m)), (1, vI (nI p)), (2, vI c)], [vI ((64 * (nI p)) + 64), vI (nI i)], σ, 0, 0)) rfl ?_
    rw [show ((64 * (nI p)) + 64 : Int32) = nI (64 * p + 64) from by simp only [nl0, nl1, nl2, nl3, nl4, nl5, nl6, nl8, nl9, nl10, nl12, nl15, nl16, nl20, nl24, nl32, nl40, nl64, nl65, nl384, pk_mul, nI_add]]
    show WG _ _ _ _ _ _ _ (17, [(4, vI (nI i)), (3, vI a), (0, vR (some m)), (1, vI (nI p)), (2, vI c)], [vI (nI (64 * p + 64)), vI (nI i)], σ, 0, 0)
    refine w_ic_ge rfl (fun c1 => (absurd ((nI_leI (a := 64 * p + 64) (b := i) (by omega) (by omega)).mp c1) (by omega))) (fun c1 => ?_)
    have nc1 := mt (nI_leI (a := 64 * p + 64) (b := i) (by omega) (by omega)).mpr c1
    refine w_run 1 (S' := (21, [(4, vI (nI i)), (3, vI a), (0, vR (some m)), (1, vI (nI p)), (2, vI c)], [vR (some m)], σ, 0, 0)) rfl ?_
    refine w_get (k := 50) (vR (σ.2.1 501261 m 0)) rfl rfl rfl hM.1 rfl rfl ?_
    refine w_run 1 (S' := (26, [(4, vI (nI i)), (3, vI a), (0, vR (some m)), (1, vI (nI p)), (2, vI c)], [vI (nI i), vR (σ.2.1 501261 m 0)], σ, 0, 0)) rfl ?_
    refine w_iald (k := 61) rfl ((hM.2 10 (by decide)).1) ((hM.2 10 (by decide)).2) rfl (show vp_in (nI i) 256 from vp_in_nI (n := i) (by omega) (by decide)) ?_
    show WG _ _ _ _ _ _ _ (27, [(4, vI (nI i)), (3, vI a), (0, vR (some m)), (1, vI (nI p)), (2, vI c)], [vI (σ.1 610000 (A 10) (nI i).toNatClampNeg)], σ, 0, 0)
    rw [show (nI i : Int32).toNatClampNeg = i from nI_clamp (n := i) (by omega)]
    show WG _ _ _ _ _ _ _ (27, [(4, vI (nI i)), (3, vI a), (0, vR (some m)), (1, vI (nI p)), (2, vI c)], [vI (σ.1 610000 (A 10) i)], σ, 0, 0)
    refine w_if_le rfl (fun c2 => ?_) (fun c2 => ?_)
    · refine w_run 4 (S' := (8, [(4, vI ((nI i) + 1)), (3, vI a), (0, vR (some m)), (1, vI (nI p)), (2, vI c)], [], σ, 0, 0)) rfl ?_
      rw [show ((nI i) + 1 : Int32) = nI (i + 1) from by simp only [nl0, nl1, nl2, nl3, nl4, nl5, nl6, nl8, nl9, nl10, nl12, nl15, nl16, nl20, nl24, nl32, nl40, nl64, nl65, nl384, pk_mul, nI_add]]
      show WG _ _ _ _ _ _ _ (8, [(4, vI (nI (i + 1))), (3, vI a), (0, vR (some m)), (1, vI (nI p)), (2, vI c)], [], σ, 0, 0)
      exact ih (i + 1) (by omega) a (by rw [show (a : Int32) = (bhbF (σ.1 610000 (A 10)) (σ.1 620000 (A 11)) (σ.1 630000 (A 12)) c) i a from by simp [bhbF, c1, c2]]; exact e)
    · refine w_run 1 (S' := (31, [(4, vI (nI i)), (3, vI a), (0, vR (some m)), (1, vI (nI p)), (2, vI c)], [vR (some m)], σ, 0, 0)) rfl ?_
      refine w_get (k := 50) (vR (σ.2.1 501362 m 0)) rfl rfl rfl hM.1 rfl rfl ?_
      refine w_run 1 (S' := (36, [(4, vI (nI i)), (3, vI a), (0, vR (some m)), (1, vI (nI p)), (2, vI c)], [vI (nI i), vR (σ.2.1 501362 m 0)], σ, 0, 0)) rfl ?_
      refine w_iald (k := 62) rfl ((hM.2 11 (by decide)).1) ((hM.2 11 (by decide)).2) rfl (show vp_in (nI i) 256 from vp_in_nI (n := i) (by omega) (by decide)) ?_
      show WG _ _ _ _ _ _ _ (37, [(4, vI (nI i)), (3, vI a), (0, vR (some m)), (1, vI (nI p)), (2, vI c)], [vI (σ.1 620000 (A 11) (nI i).toNatClampNeg)], σ, 0, 0)
      rw [show (nI i : Int32).toNatClampNeg = i from nI_clamp (n := i) (by omega)]
      show WG _ _ _ _ _ _ _ (37, [(4, vI (nI i)), (3, vI a), (0, vR (some m)), (1, vI (nI p)), (2, vI c)], [vI (σ.1 620000 (A 11) i)], σ, 0, 0)
      refine w_run 1 (S' := (38, [(4, vI (nI i)), (3, vI a), (0, vR (some m)), (1, vI (nI p)), (2, vI c)], [vI c, vI (σ.1 620000 (A 11) i)], σ, 0, 0)) rfl ?_
      refine w_ic_ne rfl (fun c3 => ?_) (fun c3 => ?_)
      · refine w_run 4 (S' := (8, [(4, vI ((nI i) + 1)), (3, vI a), (0, vR (some m)), (1, vI (nI p)), (2, vI c)], [], σ, 0, 0)) rfl ?_
        rw [show ((nI i) + 1 : Int32) = nI (i + 1) from by simp only [nl0, nl1, nl2, nl3, nl4, nl5, nl6, nl8, nl9, nl10, nl12, nl15, nl16, nl20, nl24, nl32, nl40, nl64, nl65, nl384, pk_mul, nI_add]]
        show WG _ _ _ _ _ _ _ (8, [(4, vI (nI (i + 1))), (3, vI a), (0, vR (some m)), (1, vI (nI p)), (2, vI c)], [], σ, 0, 0)
        exact ih (i + 1) (by omega) a (by rw [show (a : Int32) = (bhbF (σ.1 610000 (A 10)) (σ.1 620000 (A 11)) (σ.1 630000 (A 12)) c) i a from by simp [bhbF, c1, c2, c3]]; exact e)
      · refine w_run 2 (S' := (43, [(4, vI (nI i)), (3, vI a), (0, vR (some m)), (1, vI (nI p)), (2, vI c)], [vR (some m), vI c], σ, 0, 0)) rfl ?_
        refine w_get (k := 50) (vR (σ.2.1 501463 m 0)) rfl rfl rfl hM.1 rfl rfl ?_
        refine w_run 1 (S' := (48, [(4, vI (nI i)), (3, vI a), (0, vR (some m)), (1, vI (nI p)), (2, vI c)], [vI (nI i), vR (σ.2.1 501463 m 0), vI c], σ, 0, 0)) rfl ?_
        refine w_iald (k := 63) rfl ((hM.2 12 (by decide)).1) ((hM.2 12 (by decide)).2) rfl (show vp_in (nI i) 256 from vp_in_nI (n := i) (by omega) (by decide)) ?_
        show WG _ _ _ _ _ _ _ (49, [(4, vI (nI i)), (3, vI a), (0, vR (some m)), (1, vI (nI p)), (2, vI c)], [vI (σ.1 630000 (A 12) (nI i).toNatClampNeg), vI c], σ, 0, 0)
        rw [show (nI i : Int32).toNatClampNeg = i from nI_clamp (n := i) (by omega)]
        show WG _ _ _ _ _ _ _ (49, [(4, vI (nI i)), (3, vI a), (0, vR (some m)), (1, vI (nI p)), (2, vI c)], [vI (σ.1 630000 (A 12) i), vI c], σ, 0, 0)
        refine w_run 5 (S' := (8, [(4, vI ((nI i) + 1)), (3, vI (c + (σ.1 630000 (A 12) i))), (0, vR (some m)), (1, vI (nI p)), (2, vI c)], [], σ, 0, 0)) rfl ?_
        rw [show ((nI i) + 1 : Int32) = nI (i + 1) from by simp only [nl0, nl1, nl2, nl3, nl4, nl5, nl6, nl8, nl9, nl10, nl12, nl15, nl16, nl20, nl24, nl32, nl40, nl64, nl65, nl384, pk_mul, nI_add]]
        show WG _ _ _ _ _ _ _ (8, [(4, vI (nI (i + 1))), (3, vI (c + (σ.1 630000 (A 12) i))), (0, vR (some m)), (1, vI (nI p)), (2, vI c)], [], σ, 0, 0)
        exact ih (i + 1) (by omega) (c + (σ.1 630000 (A 12) i)) (by rw [show ((c + (σ.1 630000 (A 12) i)) : Int32) = (bhbF (σ.1 610000 (A 10)) (σ.1 620000 (A 11)) (σ.1 630000 (A 12)) c) i a from by simp [bhbF, c1, c2, c3]]; exact e)
set_option maxHeartbeats 4000000 in
theorem c_mo_behindBuffer (l : Launch) (E : FE) (d : Nat) (σ : Sg) (m : Nat) (A : Nat → Nat) (p : Nat) (c : Int32) (hM : MO σ m A) (hp : p < 4) : CT l E d 94 [vR (some m), vI (nI p), vI c] σ 0 0 (fun r σ' => r = some (vI (itF (bhbF (σ.1 610000 (A 10)) (σ.1 620000 (A 11)) (σ.1 630000 (A 12)) c) 64 (64 * p) c)) ∧ σ' = σ) (fun _ _ => False) := by
  refine CTo ok_mo_behindBuffer (by decide +kernel) rfl rfl rfl ?_
  refine w_run 6 (S' := (8, [(4, vI (64 * (nI p))), (3, vI c), (0, vR (some m)), (1, vI (nI p)), (2, vI c)], [], σ, 0, 0)) rfl ?_
  rw [show (64 * (nI p) : Int32) = nI (64 * p) from by simp only [nl0, nl1, nl2, nl3, nl4, nl5, nl6, nl8, nl9, nl10, nl12, nl15, nl16, nl20, nl24, nl32, nl40, nl64, nl65, nl384, pk_mul, nI_add]]
  show WG _ _ _ _ _ _ _ (8, [(4, vI (nI (64 * p))), (3, vI c), (0, vR (some m)), (1, vI (nI p)), (2, vI c)], [], σ, 0, 0)
  exact lp_mo_behindBuffer l E d σ m A p c hM hp _ 64 (64 * p) (by omega) c rfl

def bsyF (sta ow fn : Nat → Int32) (n : Int32) : Nat → Int32 → Int32 := fun b a => if a = 0 then (if sta b ≤ 0 then 0 else if ow b = 0 then 0 else if fn b = n then 1 else 0) else 1
def tknF (sta beg : Nat → Int32) (c : Int32) : Nat → Int32 → Int32 := fun b a => if sta b = 3 then (if beg b = c then nI b else a) else a
set_option maxHeartbeats 4000000 in
theorem lp_mo_taken (l : Launch) (E : FE) (d : Nat) (σ : Sg) (m : Nat) (A : Nat → Nat) (p : Nat) (c : Int32) (hM : MO σ m A) (hp : p < 4) (z : Int32) : ∀ (k i : Nat), i + k = 64 * p + 64 → ∀ (a : Int32), itF (tknF (σ.1 610000 (A 10)) (σ.1 620000 (A 11)) c) k i a = z →
    WP l E d 107 [vR (some m), vI (nI p), vI c] 0 0 (fun r σ' => r = some (vI z) ∧ σ' = σ) (fun _ _ => False) (8, [(4, vI (nI i)), (3, vI a), (0, vR (some m)), (1, vI (nI p)), (2, vI c)], [], σ, 0, 0) := by
  intro k
  induction k with
  | zero =>
    intro i hi a e
    change a = z at e
    subst e
    refine w_run 6 (S' := (17, [(4, vI (nI i)), (3, vI a), (0, vR (some m)), (1, vI (nI p)), (2, vI c)], [vI ((64 * (nI p)) + 64), vI (nI i)], σ, 0, 0)) rfl ?_
    rw [show ((64 * (nI p)) + 64 : Int32) = nI (64 * p + 64) from by simp only [nl0, nl1, nl2, nl3, nl4, nl5, nl6, nl8, nl9, nl10, nl12, nl15, nl16, nl20, nl24, nl32, nl40, nl64, nl65, nl384, pk_mul, nI_add]]
    show WG _ _ _ _ _ _ _ (17, [(4, vI (nI i)), (3, vI a), (0, vR (some m)), (1, vI (nI p)), (2, vI c)], [vI (nI (64 * p + 64)), vI (nI i)], σ, 0, 0)
    refine w_ic_ge rfl (fun c1 => ?_) (fun c1 => (absurd ((nI_leI (a := 64 * p + 64) (b := i) (by omega) (by omega)).mpr (by omega)) c1))
    have nc1 := (nI_leI (a := 64 * p + 64) (b := i) (by omega) (by omega)).mp c1
    refine w_run 1 (S' := (56, [(4, vI (nI i)), (3, vI a), (0, vR (some m)), (1, vI (nI p)), (2, vI c)], [vI a], σ, 0, 0)) rfl ?_
    exact w_iret rfl (Or.inl rfl) (by omega) (by omega) (⟨rfl, rfl⟩)
  | succ k ih =>
    intro i hi a e
    refine w_run 6 (S' := (17, [(4, vI (nI i)), (3, vI a), (0, vR (some m)), (1, vI (nI p)), (2, vI c)], [vI ((64 * (nI p)) + 64), vI (nI i)], σ, 0, 0)) rfl ?_
    rw [show ((64 * (nI p)) + 64 : Int32) = nI (64 * p + 64) from by simp only [nl0, nl1, nl2, nl3, nl4, nl5, nl6, nl8, nl9, nl10, nl12, nl15, nl16, nl20, nl24, nl32, nl40, nl64, nl65, nl384, pk_mul, nI_add]]
    show WG _ _ _ _ _ _ _ (17, [(4, vI (nI i)), (3, vI a), (0, vR (some m)), (1, vI (nI p)), (2, vI c)], [vI (nI (64 * p + 64)), vI (nI i)], σ, 0, 0)
    refine w_ic_ge rfl (fun c1 => (absurd ((nI_leI (a := 64 * p + 64) (b := i) (by omega) (by omega)).mp c1) (by omega))) (fun c1 => ?_)
    have nc1 := mt (nI_leI (a := 64 * p + 64) (b := i) (by omega) (by omega)).mpr c1
    refine w_run 1 (S' := (21, [(4, vI (nI i)), (3, vI a), (0, vR (some m)), (1, vI (nI p)), (2, vI c)], [vR (some m)], σ, 0, 0)) rfl ?_
    refine w_get (k := 50) (vR (σ.2.1 501261 m 0)) rfl rfl rfl hM.1 rfl rfl ?_
    refine w_run 1 (S' := (26, [(4, vI (nI i)), (3, vI a), (0, vR (some m)), (1, vI (nI p)), (2, vI c)], [vI (nI i), vR (σ.2.1 501261 m 0)], σ, 0, 0)) rfl ?_
    refine w_iald (k := 61) rfl ((hM.2 10 (by decide)).1) ((hM.2 10 (by decide)).2) rfl (show vp_in (nI i) 256 from vp_in_nI (n := i) (by omega) (by decide)) ?_
    show WG _ _ _ _ _ _ _ (27, [(4, vI (nI i)), (3, vI a), (0, vR (some m)), (1, vI (nI p)), (2, vI c)], [vI (σ.1 610000 (A 10) (nI i).toNatClampNeg)], σ, 0, 0)
    rw [show (nI i : Int32).toNatClampNeg = i from nI_clamp (n := i) (by omega)]
    show WG _ _ _ _ _ _ _ (27, [(4, vI (nI i)), (3, vI a), (0, vR (some m)), (1, vI (nI p)), (2, vI c)], [vI (σ.1 610000 (A 10) i)], σ, 0, 0)
    refine w_run 1 (S' := (28, [(4, vI (nI i)), (3, vI a), (0, vR (some m)), (1, vI (nI p)), (2, vI c)], [vI 3, vI (σ.1 610000 (A 10) i)], σ, 0, 0)) rfl ?_
    refine w_ic_ne rfl (fun c2 => ?_) (fun c2 => ?_)
    · refine w_run 4 (S' := (8, [(4, vI ((nI i) + 1)), (3, vI a), (0, vR (some m)), (1, vI (nI p)), (2, vI c)], [], σ, 0, 0)) rfl ?_
      rw [show ((nI i) + 1 : Int32) = nI (i + 1) from by simp only [nl0, nl1, nl2, nl3, nl4, nl5, nl6, nl8, nl9, nl10, nl12, nl15, nl16, nl20, nl24, nl32, nl40, nl64, nl65, nl384, pk_mul, nI_add]]
      show WG _ _ _ _ _ _ _ (8, [(4, vI (nI (i + 1))), (3, vI a), (0, vR (some m)), (1, vI (nI p)), (2, vI c)], [], σ, 0, 0)
      exact ih (i + 1) (by omega) a (by rw [show (a : Int32) = (tknF (σ.1 610000 (A 10)) (σ.1 620000 (A 11)) c) i a from by simp [tknF, c1, c2]]; exact e)
    · refine w_run 1 (S' := (32, [(4, vI (nI i)), (3, vI a), (0, vR (some m)), (1, vI (nI p)), (2, vI c)], [vR (some m)], σ, 0, 0)) rfl ?_
      refine w_get (k := 50) (vR (σ.2.1 501362 m 0)) rfl rfl rfl hM.1 rfl rfl ?_
      refine w_run 1 (S' := (37, [(4, vI (nI i)), (3, vI a), (0, vR (some m)), (1, vI (nI p)), (2, vI c)], [vI (nI i), vR (σ.2.1 501362 m 0)], σ, 0, 0)) rfl ?_
      refine w_iald (k := 62) rfl ((hM.2 11 (by decide)).1) ((hM.2 11 (by decide)).2) rfl (show vp_in (nI i) 256 from vp_in_nI (n := i) (by omega) (by decide)) ?_
      show WG _ _ _ _ _ _ _ (38, [(4, vI (nI i)), (3, vI a), (0, vR (some m)), (1, vI (nI p)), (2, vI c)], [vI (σ.1 620000 (A 11) (nI i).toNatClampNeg)], σ, 0, 0)
      rw [show (nI i : Int32).toNatClampNeg = i from nI_clamp (n := i) (by omega)]
      show WG _ _ _ _ _ _ _ (38, [(4, vI (nI i)), (3, vI a), (0, vR (some m)), (1, vI (nI p)), (2, vI c)], [vI (σ.1 620000 (A 11) i)], σ, 0, 0)
      refine w_run 1 (S' := (39, [(4, vI (nI i)), (3, vI a), (0, vR (some m)), (1, vI (nI p)), (2, vI c)], [vI c, vI (σ.1 620000 (A 11) i)], σ, 0, 0)) rfl ?_
      refine w_ic_ne rfl (fun c3 => ?_) (fun c3 => ?_)
      · refine w_run 4 (S' := (8, [(4, vI ((nI i) + 1)), (3, vI a), (0, vR (some m)), (1, vI (nI p)), (2, vI c)], [], σ, 0, 0)) rfl ?_
        rw [show ((nI i) + 1 : Int32) = nI (i + 1) from by simp only [nl0, nl1, nl2, nl3, nl4, nl5, nl6, nl8, nl9, nl10, nl12, nl15, nl16, nl20, nl24, nl32, nl40, nl64, nl65, nl384, pk_mul, nI_add]]
        show WG _ _ _ _ _ _ _ (8, [(4, vI (nI (i + 1))), (3, vI a), (0, vR (some m)), (1, vI (nI p)), (2, vI c)], [], σ, 0, 0)
        exact ih (i + 1) (by omega) a (by rw [show (a : Int32) = (tknF (σ.1 610000 (A 10)) (σ.1 620000 (A 11)) c) i a from by simp [tknF, c1, c2, c3]]; exact e)
      · refine w_run 5 (S' := (8, [(4, vI ((nI i) + 1)), (3, vI (nI i)), (0, vR (some m)), (1, vI (nI p)), (2, vI c)], [], σ, 0, 0)) rfl ?_
        rw [show ((nI i) + 1 : Int32) = nI (i + 1) from by simp only [nl0, nl1, nl2, nl3, nl4, nl5, nl6, nl8, nl9, nl10, nl12, nl15, nl16, nl20, nl24, nl32, nl40, nl64, nl65, nl384, pk_mul, nI_add]]
        show WG _ _ _ _ _ _ _ (8, [(4, vI (nI (i + 1))), (3, vI (nI i)), (0, vR (some m)), (1, vI (nI p)), (2, vI c)], [], σ, 0, 0)
        exact ih (i + 1) (by omega) (nI i) (by rw [show ((nI i) : Int32) = (tknF (σ.1 610000 (A 10)) (σ.1 620000 (A 11)) c) i a from by simp [tknF, c1, c2, c3]]; exact e)
set_option maxHeartbeats 4000000 in
theorem c_mo_taken (l : Launch) (E : FE) (d : Nat) (σ : Sg) (m : Nat) (A : Nat → Nat) (p : Nat) (c : Int32) (hM : MO σ m A) (hp : p < 4) : CT l E d 107 [vR (some m), vI (nI p), vI c] σ 0 0 (fun r σ' => r = some (vI (itF (tknF (σ.1 610000 (A 10)) (σ.1 620000 (A 11)) c) 64 (64 * p) (-1))) ∧ σ' = σ) (fun _ _ => False) := by
  refine CTo ok_mo_taken (by decide +kernel) rfl rfl rfl ?_
  refine w_run 6 (S' := (8, [(4, vI (64 * (nI p))), (3, vI (-1)), (0, vR (some m)), (1, vI (nI p)), (2, vI c)], [], σ, 0, 0)) rfl ?_
  rw [show (64 * (nI p) : Int32) = nI (64 * p) from by simp only [nl0, nl1, nl2, nl3, nl4, nl5, nl6, nl8, nl9, nl10, nl12, nl15, nl16, nl20, nl24, nl32, nl40, nl64, nl65, nl384, pk_mul, nI_add]]
  show WG _ _ _ _ _ _ _ (8, [(4, vI (nI (64 * p))), (3, vI (-1)), (0, vR (some m)), (1, vI (nI p)), (2, vI c)], [], σ, 0, 0)
  exact lp_mo_taken l E d σ m A p c hM hp _ 64 (64 * p) (by omega) (-1) rfl

