/-! the model: latest, read, watch -/
set_option maxHeartbeats 4000000 in
theorem c_mo_latest1 (l : Launch) (E : FE) (d : Nat) (σ : Sg) (m : Nat) (A : Nat → Nat) (p : Nat) (y : Int32) (hd : 3 ≤ d) (hM : MO σ m A) (hp : p < 4) (hal : ¬ σ.1 510000 (A 0) p = 0) : CT l E d 105 [vR (some m), vI (nI p), vI y] σ 0 0 (fun r σ' => (mltF σ A p y = none ∧ r = some (vI 0) ∧ σ' = sI (sI σ 500000 m 0 0) 500000 m 0 3) ∨ ∃ v, mltF σ A p y = some v ∧ r = some (vI v) ∧ σ' = sI σ 500000 m 0 0) (fun _ _ => False) := by
  refine CTo ok_mo_latest (by decide +kernel) rfl rfl rfl ?_
  refine w_run 2 (S' := (2, [(0, vR (some m)), (1, vI (nI p)), (2, vI y)], [vI (nI p), vR (some m)], σ, 0, 0)) rfl ?_
  refine w_callV (st := []) [vI (nI p)] rfl ml_10_123 rfl rfl hM.1 rfl rfl rfl (by simp only [RM]; omega) (by simp only [RM]; show 8 + (2 + 11) + _ ≤ _; omega) rfl (by simp only [RM]; omega) (by simp only [RM]; omega) (c_mo_absent0 l E (d - 1) σ m A p hM hp hal) (fun _ _ h => h.elim) ?_
  intro r9 s9 q9
  rw [q9.1, q9.2]
  clear q9 r9 s9
  show WG _ _ _ _ _ _ _ (5, [(0, vR (some m)), (1, vI (nI p)), (2, vI y)], [vI 0], sI σ 500000 m 0 0, 0, 0)
  refine w_if_eq rfl (fun c1 => ?_) (fun c1 => (absurd ((nI_eq (a := 0) (b := 0) (by omega) (by omega)).mpr (by omega)) c1))
  have nc1 := (nI_eq (a := 0) (b := 0) (by omega) (by omega)).mp c1
  refine w_run 1 (S' := (11, [(0, vR (some m)), (1, vI (nI p)), (2, vI y)], [vI y], sI σ 500000 m 0 0, 0, 0)) rfl ?_
  refine w_if_lt rfl (fun c2 => ?_) (fun c2 => ?_)
  · refine w_run 2 (S' := (21, [(0, vR (some m)), (1, vI (nI p)), (2, vI y)], [vI 3, vR (some m)], sI σ 500000 m 0 0, 0, 0)) rfl ?_
    refine w_puti (k := 50) rfl rfl rfl hM.1 rfl rfl (Or.inl rfl) (Or.inl rfl) ?_
    show WG _ _ _ _ _ _ _ (24, [(0, vR (some m)), (1, vI (nI p)), (2, vI y)], [], sI (sI σ 500000 m 0 0) 500000 m 0 3, 0, 0)
    refine w_run 1 (S' := (25, [(0, vR (some m)), (1, vI (nI p)), (2, vI y)], [vR (some m)], sI (sI σ 500000 m 0 0) 500000 m 0 3, 0, 0)) rfl ?_
    refine w_get (k := 50) (vI 3) rfl rfl rfl hM.1 rfl (by simp [mkF, sI, sO, sN, sA]) ?_
    refine w_if_le rfl (fun c3 => (absurd ((nI_leI (a := 3) (b := 0) (by omega) (by omega)).mp c3) (by omega))) (fun c3 => ?_)
    have nc3 := mt (nI_leI (a := 3) (b := 0) (by omega) (by omega)).mpr c3
    refine w_run 2 (S' := (45, [(0, vR (some m)), (1, vI (nI p)), (2, vI y)], [vI 0], sI (sI σ 500000 m 0 0) 500000 m 0 3, 0, 0)) rfl ?_
    exact w_iret rfl (Or.inl rfl) (by omega) (by omega) (Or.inl ⟨by simp only [mltF, if_pos c2], rfl, rfl⟩)
  · refine w_run 2 (S' := (16, [(0, vR (some m)), (1, vI (nI p)), (2, vI y)], [vI 4, vI y], sI σ 500000 m 0 0, 0, 0)) rfl ?_
    refine w_ic_le rfl (fun c4 => ?_) (fun c4 => ?_)
    · obtain ⟨hye, hy9⟩ : y = nI y.toNatClampNeg ∧ y.toNatClampNeg < 5 := (by obtain ⟨j9, -, j2, e9⟩ := i_rng (hi := 4) c2 (Int32.not_lt.mpr c4) (by decide); have h4 : (4 : Int32).toInt = 4 := rfl; rw [e9, nI_clamp (by omega)]; exact ⟨rfl, by omega⟩)
      refine Eq.mp (congrArg (fun x9 => WG _ _ _ _ _ _ _ (24, [(0, vR (some m)), (1, vI (nI p)), (2, vI x9)], [], sI σ 500000 m 0 0, 0, 0)) (Eq.symm hye : nI y.toNatClampNeg = y)) ?_
      show WG _ _ _ _ _ _ _ (24, [(0, vR (some m)), (1, vI (nI p)), (2, vI (nI y.toNatClampNeg))], [], sI σ 500000 m 0 0, 0, 0)
      refine w_run 1 (S' := (25, [(0, vR (some m)), (1, vI (nI p)), (2, vI (nI y.toNatClampNeg))], [vR (some m)], sI σ 500000 m 0 0, 0, 0)) rfl ?_
      refine w_get (k := 50) (vI 0) rfl rfl rfl hM.1 rfl (by simp [mkF, sI, sO, sN, sA]) ?_
      refine w_if_le rfl (fun c5 => ?_) (fun c5 => (absurd ((nI_leI (a := 0) (b := 0) (by omega) (by omega)).mpr (by omega)) c5))
      have nc5 := (nI_leI (a := 0) (b := 0) (by omega) (by omega)).mp c5
      refine w_run 1 (S' := (36, [(0, vR (some m)), (1, vI (nI p)), (2, vI (nI y.toNatClampNeg))], [vR (some m)], sI σ 500000 m 0 0, 0, 0)) rfl ?_
      refine w_get (k := 50) (vR (σ.2.1 503381 m 0)) rfl rfl rfl hM.1 rfl rfl ?_
      refine w_run 5 (S' := (44, [(0, vR (some m)), (1, vI (nI p)), (2, vI (nI y.toNatClampNeg))], [vI ((5 * (nI p)) + (nI y.toNatClampNeg)), vR (σ.2.1 503381 m 0)], sI σ 500000 m 0 0, 0, 0)) rfl ?_
      rw [show ((5 * (nI p)) + (nI y.toNatClampNeg) : Int32) = nI (5 * p + y.toNatClampNeg) from by simp only [nl0, nl1, nl2, nl3, nl4, nl5, nl6, nl8, nl9, nl10, nl12, nl15, nl16, nl20, nl24, nl32, nl40, nl64, nl65, nl384, pk_mul, nI_add]]
      show WG _ _ _ _ _ _ _ (44, [(0, vR (some m)), (1, vI (nI p)), (2, vI (nI y.toNatClampNeg))], [vI (nI (5 * p + y.toNatClampNeg)), vR (σ.2.1 503381 m 0)], sI σ 500000 m 0 0, 0, 0)
      refine w_iald (k := 81) rfl ((hM.2 30 (by decide)).1) ((hM.2 30 (by decide)).2) rfl (show vp_in (nI (5 * p + y.toNatClampNeg)) 20 from vp_in_nI (n := 5 * p + y.toNatClampNeg) (by omega) (by decide)) ?_
      show WG _ _ _ _ _ _ _ (45, [(0, vR (some m)), (1, vI (nI p)), (2, vI (nI y.toNatClampNeg))], [vI ((sI σ 500000 m 0 0).1 810000 (A 30) (nI (5 * p + y.toNatClampNeg)).toNatClampNeg)], sI σ 500000 m 0 0, 0, 0)
      rw [show (nI (5 * p + y.toNatClampNeg) : Int32).toNatClampNeg = 5 * p + y.toNatClampNeg from nI_clamp (n := 5 * p + y.toNatClampNeg) (by omega)]
      show WG _ _ _ _ _ _ _ (45, [(0, vR (some m)), (1, vI (nI p)), (2, vI (nI y.toNatClampNeg))], [vI (σ.1 810000 (A 30) (5 * p + y.toNatClampNeg))], sI σ 500000 m 0 0, 0, 0)
      exact w_iret rfl (Or.inl rfl) (by omega) (by omega) (Or.inr ⟨_, by simp only [mltF, if_neg c2, if_neg (Int32.not_lt.mpr c4)], rfl, rfl⟩)
    · refine w_run 2 (S' := (21, [(0, vR (some m)), (1, vI (nI p)), (2, vI y)], [vI 3, vR (some m)], sI σ 500000 m 0 0, 0, 0)) rfl ?_
      refine w_puti (k := 50) rfl rfl rfl hM.1 rfl rfl (Or.inl rfl) (Or.inl rfl) ?_
      show WG _ _ _ _ _ _ _ (24, [(0, vR (some m)), (1, vI (nI p)), (2, vI y)], [], sI (sI σ 500000 m 0 0) 500000 m 0 3, 0, 0)
      refine w_run 1 (S' := (25, [(0, vR (some m)), (1, vI (nI p)), (2, vI y)], [vR (some m)], sI (sI σ 500000 m 0 0) 500000 m 0 3, 0, 0)) rfl ?_
      refine w_get (k := 50) (vI 3) rfl rfl rfl hM.1 rfl (by simp [mkF, sI, sO, sN, sA]) ?_
      refine w_if_le rfl (fun c6 => (absurd ((nI_leI (a := 3) (b := 0) (by omega) (by omega)).mp c6) (by omega))) (fun c6 => ?_)
      have nc6 := mt (nI_leI (a := 3) (b := 0) (by omega) (by omega)).mpr c6
      refine w_run 2 (S' := (45, [(0, vR (some m)), (1, vI (nI p)), (2, vI y)], [vI 0], sI (sI σ 500000 m 0 0) 500000 m 0 3, 0, 0)) rfl ?_
      exact w_iret rfl (Or.inl rfl) (by omega) (by omega) (Or.inl ⟨by simp only [mltF, if_neg c2, if_pos (Int32.not_le.mp c4)], rfl, rfl⟩)

theorem tkn_rng {sta beg : Nat → Int32} {x : Int32} {p : Nat} (hp : p < 4) (h : ¬ itF (tknF sta beg x) 64 (64 * p) (-1) < 0) : itF (tknF sta beg x) 64 (64 * p) (-1) = nI (itF (tknF sta beg x) 64 (64 * p) (-1)).toNatClampNeg ∧ 64 * p ≤ (itF (tknF sta beg x) 64 (64 * p) (-1)).toNatClampNeg ∧ (itF (tknF sta beg x) 64 (64 * p) (-1)).toNatClampNeg < 64 * p + 64 := by
  have key := itF_ind (f := tknF sta beg x) (fun _ v => v = -1 ∨ ∃ b, 64 * p ≤ b ∧ b < 64 * p + 64 ∧ v = nI b) 64 (64 * p) (-1) (Or.inl rfl) (fun j v j1 j2 hv => by
    unfold tknF
    split
    · split
      · exact Or.inr ⟨j, j1, j2, rfl⟩
      · exact hv
    · exact hv)
  rcases key with e | ⟨b, b1, b2, e⟩
  · rw [e] at h; exact absurd (by decide) h
  · rw [e, nI_clamp (by omega)]
    exact ⟨rfl, b1, b2⟩
set_option maxHeartbeats 4000000 in
theorem c_mo_read1 (l : Launch) (E : FE) (d : Nat) (σ : Sg) (m : Nat) (A : Nat → Nat) (p : Nat) (y z w : Int32) (hd : 3 ≤ d) (hM : MO σ m A) (hp : p < 4) (hal : ¬ σ.1 510000 (A 0) p = 0) (hIt : ¬ itF (tknF (σ.1 610000 (A 10)) (σ.1 620000 (A 11)) y) 64 (64 * p) (-1) < 0 → ∃ it, it ≤ 4 ∧ σ.1 680000 (A 17) ((itF (tknF (σ.1 610000 (A 10)) (σ.1 620000 (A 11)) y) 64 (64 * p) (-1)).toNatClampNeg) = nI it) : CT l E d 109 [vR (some m), vI (nI p), vI y, vI z, vI w] σ 0 0 (fun r σ' => (mrdF σ A p y z w = none ∧ r = some (vI 0) ∧ σ' = sI (sI σ 500000 m 0 0) 500000 m 0 3) ∨ ∃ v, mrdF σ A p y z w = some v ∧ r = some (vI v) ∧ σ' = sI σ 500000 m 0 0) (fun _ _ => False) := by
  refine CTo ok_mo_read (by decide +kernel) rfl rfl rfl ?_
  refine w_run 2 (S' := (2, [(0, vR (some m)), (1, vI (nI p)), (2, vI y), (3, vI z), (4, vI w)], [vI (nI p), vR (some m)], σ, 0, 0)) rfl ?_
  refine w_callV (st := []) [vI (nI p)] rfl ml_10_123 rfl rfl hM.1 rfl rfl rfl (by simp only [RM]; omega) (by simp only [RM]; show 8 + (2 + 11) + _ ≤ _; omega) rfl (by simp only [RM]; omega) (by simp only [RM]; omega) (c_mo_absent0 l E (d - 1) σ m A p hM hp hal) (fun _ _ h => h.elim) ?_
  intro r9 s9 q9
  rw [q9.1, q9.2]
  clear q9 r9 s9
  show WG _ _ _ _ _ _ _ (5, [(0, vR (some m)), (1, vI (nI p)), (2, vI y), (3, vI z), (4, vI w)], [vI 0], sI σ 500000 m 0 0, 0, 0)
  refine w_if_eq rfl (fun c1 => ?_) (fun c1 => (absurd ((nI_eq (a := 0) (b := 0) (by omega) (by omega)).mpr (by omega)) c1))
  have nc1 := (nI_eq (a := 0) (b := 0) (by omega) (by omega)).mp c1
  refine w_run 3 (S' := (13, [(0, vR (some m)), (1, vI (nI p)), (2, vI y), (3, vI z), (4, vI w)], [vI y, vI (nI p), vR (some m)], sI σ 500000 m 0 0, 0, 0)) rfl ?_
  refine w_callV (st := []) [vI (nI p), vI y] rfl ml_10_198 rfl rfl hM.1 rfl rfl rfl (by simp only [RM]; omega) (by simp only [RM]; show 8 + (5 + 11) + _ ≤ _; omega) rfl (by simp only [RM]; omega) (by simp only [RM]; omega) (c_mo_taken l E (d - 1) (sI σ 500000 m 0 0) m A p y hM hp) (fun _ _ h => h.elim) ?_
  intro r9 s9 q9
  rw [q9.1, q9.2]
  clear q9 r9 s9
  show WG _ _ _ _ _ _ _ (16, [(0, vR (some m)), (1, vI (nI p)), (2, vI y), (3, vI z), (4, vI w)], [vI (itF (tknF (σ.1 610000 (A 10)) (σ.1 620000 (A 11)) y) 64 (64 * p) (-1))], sI σ 500000 m 0 0, 0, 0)
  refine w_run 2 (S' := (20, [(5, vI (itF (tknF (σ.1 610000 (A 10)) (σ.1 620000 (A 11)) y) 64 (64 * p) (-1))), (0, vR (some m)), (1, vI (nI p)), (2, vI y), (3, vI z), (4, vI w)], [vI (itF (tknF (σ.1 610000 (A 10)) (σ.1 620000 (A 11)) y) 64 (64 * p) (-1))], sI σ 500000 m 0 0, 0, 0)) rfl ?_
  refine w_if_lt rfl (fun c2 => ?_) (fun c2 => ?_)
  · refine w_run 3 (S' := (64, [(6, vI 0), (5, vI (itF (tknF (σ.1 610000 (A 10)) (σ.1 620000 (A 11)) y) 64 (64 * p) (-1))), (0, vR (some m)), (1, vI (nI p)), (2, vI y), (3, vI z), (4, vI w)], [vI 0], sI σ 500000 m 0 0, 0, 0)) rfl ?_
    refine w_if_ne rfl (fun c3 => (absurd c1 c3)) (fun c3 => ?_)
    have nc3 := (nI_eq (a := 0) (b := 0) (by omega) (by omega)).mp c3
    refine w_run 2 (S' := (69, [(6, vI 0), (5, vI (itF (tknF (σ.1 610000 (A 10)) (σ.1 620000 (A 11)) y) 64 (64 * p) (-1))), (0, vR (some m)), (1, vI (nI p)), (2, vI y), (3, vI z), (4, vI w)], [vI 3, vR (some m)], sI σ 500000 m 0 0, 0, 0)) rfl ?_
    refine w_puti (k := 50) rfl rfl rfl hM.1 rfl rfl (Or.inl rfl) (Or.inl rfl) ?_
    show WG _ _ _ _ _ _ _ (72, [(6, vI 0), (5, vI (itF (tknF (σ.1 610000 (A 10)) (σ.1 620000 (A 11)) y) 64 (64 * p) (-1))), (0, vR (some m)), (1, vI (nI p)), (2, vI y), (3, vI z), (4, vI w)], [], sI (sI σ 500000 m 0 0) 500000 m 0 3, 0, 0)
    refine w_run 1 (S' := (74, [(6, vI 0), (5, vI (itF (tknF (σ.1 610000 (A 10)) (σ.1 620000 (A 11)) y) 64 (64 * p) (-1))), (0, vR (some m)), (1, vI (nI p)), (2, vI y), (3, vI z), (4, vI w)], [vI 0], sI (sI σ 500000 m 0 0) 500000 m 0 3, 0, 0)) rfl ?_
    refine w_if_ne rfl (fun c4 => (absurd c3 c4)) (fun c4 => ?_)
    have nc4 := (nI_eq (a := 0) (b := 0) (by omega) (by omega)).mp c4
    refine w_run 2 (S' := (127, [(6, vI 0), (5, vI (itF (tknF (σ.1 610000 (A 10)) (σ.1 620000 (A 11)) y) 64 (64 * p) (-1))), (0, vR (some m)), (1, vI (nI p)), (2, vI y), (3, vI z), (4, vI w)], [vI 0], sI (sI σ 500000 m 0 0) 500000 m 0 3, 0, 0)) rfl ?_
    exact w_iret rfl (Or.inl rfl) (by omega) (by omega) (Or.inl ⟨by simp [mrdF, c2], rfl, rfl⟩)
  · obtain ⟨hbe, hb1, hb2⟩ := tkn_rng hp c2
    refine Eq.mp (congrArg (fun x9 => WG _ _ _ _ _ _ _ (23, [(5, vI x9), (0, vR (some m)), (1, vI (nI p)), (2, vI y), (3, vI z), (4, vI w)], [], sI σ 500000 m 0 0, 0, 0)) (Eq.symm hbe : nI ((itF (tknF (σ.1 610000 (A 10)) (σ.1 620000 (A 11)) y) 64 (64 * p) (-1)).toNatClampNeg) = itF (tknF (σ.1 610000 (A 10)) (σ.1 620000 (A 11)) y) 64 (64 * p) (-1))) ?_
    show WG _ _ _ _ _ _ _ (23, [(5, vI (nI ((itF (tknF (σ.1 610000 (A 10)) (σ.1 620000 (A 11)) y) 64 (64 * p) (-1)).toNatClampNeg))), (0, vR (some m)), (1, vI (nI p)), (2, vI y), (3, vI z), (4, vI w)], [], sI σ 500000 m 0 0, 0, 0)
    obtain ⟨it, hi4, hit⟩ := hIt (by assumption)
    refine w_run 2 (S' := (26, [(5, vI (nI ((itF (tknF (σ.1 610000 (A 10)) (σ.1 620000 (A 11)) y) 64 (64 * p) (-1)).toNatClampNeg))), (0, vR (some m)), (1, vI (nI p)), (2, vI y), (3, vI z), (4, vI w)], [vI 2, vI w], sI σ 500000 m 0 0, 0, 0)) rfl ?_
    refine w_ic_eq rfl (fun c5 => ?_) (fun c5 => ?_)
    · refine w_run 4 (S' := (64, [(6, vI 1), (5, vI (nI ((itF (tknF (σ.1 610000 (A 10)) (σ.1 620000 (A 11)) y) 64 (64 * p) (-1)).toNatClampNeg))), (0, vR (some m)), (1, vI (nI p)), (2, vI y), (3, vI z), (4, vI w)], [vI 1], sI σ 500000 m 0 0, 0, 0)) rfl ?_
      refine w_if_ne rfl (fun c6 => ?_) (fun c6 => (absurd ((nI_eq (a := 1) (b := 0) (by omega) (by omega)).mp c6) (by omega)))
      have nc6 := mt (nI_eq (a := 1) (b := 0) (by omega) (by omega)).mpr c6
      refine w_run 1 (S' := (74, [(6, vI 1), (5, vI (nI ((itF (tknF (σ.1 610000 (A 10)) (σ.1 620000 (A 11)) y) 64 (64 * p) (-1)).toNatClampNeg))), (0, vR (some m)), (1, vI (nI p)), (2, vI y), (3, vI z), (4, vI w)], [vI 1], sI σ 500000 m 0 0, 0, 0)) rfl ?_
      refine w_if_ne rfl (fun c7 => ?_) (fun c7 => (absurd c7 c6))
      have nc7 := mt (nI_eq (a := 1) (b := 0) (by omega) (by omega)).mpr c7
      refine w_run 2 (S' := (84, [(6, vI 1), (5, vI (nI ((itF (tknF (σ.1 610000 (A 10)) (σ.1 620000 (A 11)) y) 64 (64 * p) (-1)).toNatClampNeg))), (0, vR (some m)), (1, vI (nI p)), (2, vI y), (3, vI z), (4, vI w)], [vI 2, vI w], sI σ 500000 m 0 0, 0, 0)) rfl ?_
      refine w_ic_ne rfl (fun c8 => (absurd c5 c8)) (fun c8 => ?_)
      refine w_run 1 (S' := (88, [(6, vI 1), (5, vI (nI ((itF (tknF (σ.1 610000 (A 10)) (σ.1 620000 (A 11)) y) 64 (64 * p) (-1)).toNatClampNeg))), (0, vR (some m)), (1, vI (nI p)), (2, vI y), (3, vI z), (4, vI w)], [vR (some m)], sI σ 500000 m 0 0, 0, 0)) rfl ?_
      refine w_get (k := 50) (vR (σ.2.1 501463 m 0)) rfl rfl rfl hM.1 rfl rfl ?_
      refine w_run 1 (S' := (93, [(6, vI 1), (5, vI (nI ((itF (tknF (σ.1 610000 (A 10)) (σ.1 620000 (A 11)) y) 64 (64 * p) (-1)).toNatClampNeg))), (0, vR (some m)), (1, vI (nI p)), (2, vI y), (3, vI z), (4, vI w)], [vI (nI ((itF (tknF (σ.1 610000 (A 10)) (σ.1 620000 (A 11)) y) 64 (64 * p) (-1)).toNatClampNeg)), vR (σ.2.1 501463 m 0)], sI σ 500000 m 0 0, 0, 0)) rfl ?_
      refine w_iald (k := 63) rfl ((hM.2 12 (by decide)).1) ((hM.2 12 (by decide)).2) rfl (show vp_in (nI ((itF (tknF (σ.1 610000 (A 10)) (σ.1 620000 (A 11)) y) 64 (64 * p) (-1)).toNatClampNeg)) 256 from vp_in_nI (n := (itF (tknF (σ.1 610000 (A 10)) (σ.1 620000 (A 11)) y) 64 (64 * p) (-1)).toNatClampNeg) (by omega) (by decide)) ?_
      show WG _ _ _ _ _ _ _ (94, [(6, vI 1), (5, vI (nI ((itF (tknF (σ.1 610000 (A 10)) (σ.1 620000 (A 11)) y) 64 (64 * p) (-1)).toNatClampNeg))), (0, vR (some m)), (1, vI (nI p)), (2, vI y), (3, vI z), (4, vI w)], [vI ((sI σ 500000 m 0 0).1 630000 (A 12) (nI ((itF (tknF (σ.1 610000 (A 10)) (σ.1 620000 (A 11)) y) 64 (64 * p) (-1)).toNatClampNeg)).toNatClampNeg)], sI σ 500000 m 0 0, 0, 0)
      rw [show (nI ((itF (tknF (σ.1 610000 (A 10)) (σ.1 620000 (A 11)) y) 64 (64 * p) (-1)).toNatClampNeg) : Int32).toNatClampNeg = (itF (tknF (σ.1 610000 (A 10)) (σ.1 620000 (A 11)) y) 64 (64 * p) (-1)).toNatClampNeg from nI_clamp (n := (itF (tknF (σ.1 610000 (A 10)) (σ.1 620000 (A 11)) y) 64 (64 * p) (-1)).toNatClampNeg) (by omega)]
      show WG _ _ _ _ _ _ _ (94, [(6, vI 1), (5, vI (nI ((itF (tknF (σ.1 610000 (A 10)) (σ.1 620000 (A 11)) y) 64 (64 * p) (-1)).toNatClampNeg))), (0, vR (some m)), (1, vI (nI p)), (2, vI y), (3, vI z), (4, vI w)], [vI (σ.1 630000 (A 12) ((itF (tknF (σ.1 610000 (A 10)) (σ.1 620000 (A 11)) y) 64 (64 * p) (-1)).toNatClampNeg))], sI σ 500000 m 0 0, 0, 0)
      refine w_run 1 (S' := (127, [(6, vI 1), (5, vI (nI ((itF (tknF (σ.1 610000 (A 10)) (σ.1 620000 (A 11)) y) 64 (64 * p) (-1)).toNatClampNeg))), (0, vR (some m)), (1, vI (nI p)), (2, vI y), (3, vI z), (4, vI w)], [vI (σ.1 630000 (A 12) ((itF (tknF (σ.1 610000 (A 10)) (σ.1 620000 (A 11)) y) 64 (64 * p) (-1)).toNatClampNeg))], sI σ 500000 m 0 0, 0, 0)) rfl ?_
      exact w_iret rfl (Or.inl rfl) (by omega) (by omega) (Or.inr ⟨_, by simp only [mrdF, if_neg c2, if_pos c5], rfl, rfl⟩)
    · refine w_run 1 (S' := (31, [(5, vI (nI ((itF (tknF (σ.1 610000 (A 10)) (σ.1 620000 (A 11)) y) 64 (64 * p) (-1)).toNatClampNeg))), (0, vR (some m)), (1, vI (nI p)), (2, vI y), (3, vI z), (4, vI w)], [vI w], sI σ 500000 m 0 0, 0, 0)) rfl ?_
      refine w_if_eq rfl (fun c9 => ?_) (fun c9 => ?_)
      · refine w_run 1 (S' := (41, [(5, vI (nI ((itF (tknF (σ.1 610000 (A 10)) (σ.1 620000 (A 11)) y) 64 (64 * p) (-1)).toNatClampNeg))), (0, vR (some m)), (1, vI (nI p)), (2, vI y), (3, vI z), (4, vI w)], [vI z], sI σ 500000 m 0 0, 0, 0)) rfl ?_
        refine w_if_lt rfl (fun c10 => ?_) (fun c10 => ?_)
        · refine w_run 3 (S' := (64, [(6, vI 0), (5, vI (nI ((itF (tknF (σ.1 610000 (A 10)) (σ.1 620000 (A 11)) y) 64 (64 * p) (-1)).toNatClampNeg))), (0, vR (some m)), (1, vI (nI p)), (2, vI y), (3, vI z), (4, vI w)], [vI 0], sI σ 500000 m 0 0, 0, 0)) rfl ?_
          refine w_if_ne rfl (fun c11 => (absurd c1 c11)) (fun c11 => ?_)
          have nc11 := (nI_eq (a := 0) (b := 0) (by omega) (by omega)).mp c11
          refine w_run 2 (S' := (69, [(6, vI 0), (5, vI (nI ((itF (tknF (σ.1 610000 (A 10)) (σ.1 620000 (A 11)) y) 64 (64 * p) (-1)).toNatClampNeg))), (0, vR (some m)), (1, vI (nI p)), (2, vI y), (3, vI z), (4, vI w)], [vI 3, vR (some m)], sI σ 500000 m 0 0, 0, 0)) rfl ?_
          refine w_puti (k := 50) rfl rfl rfl hM.1 rfl rfl (Or.inl rfl) (Or.inl rfl) ?_
          show WG _ _ _ _ _ _ _ (72, [(6, vI 0), (5, vI (nI ((itF (tknF (σ.1 610000 (A 10)) (σ.1 620000 (A 11)) y) 64 (64 * p) (-1)).toNatClampNeg))), (0, vR (some m)), (1, vI (nI p)), (2, vI y), (3, vI z), (4, vI w)], [], sI (sI σ 500000 m 0 0) 500000 m 0 3, 0, 0)
          refine w_run 1 (S' := (74, [(6, vI 0), (5, vI (nI ((itF (tknF (σ.1 610000 (A 10)) (σ.1 620000 (A 11)) y) 64 (64 * p) (-1)).toNatClampNeg))), (0, vR (some m)), (1, vI (nI p)), (2, vI y), (3, vI z), (4, vI w)], [vI 0], sI (sI σ 500000 m 0 0) 500000 m 0 3, 0, 0)) rfl ?_
          refine w_if_ne rfl (fun c12 => (absurd c11 c12)) (fun c12 => ?_)
          have nc12 := (nI_eq (a := 0) (b := 0) (by omega) (by omega)).mp c12
          refine w_run 2 (S' := (127, [(6, vI 0), (5, vI (nI ((itF (tknF (σ.1 610000 (A 10)) (σ.1 620000 (A 11)) y) 64 (64 * p) (-1)).toNatClampNeg))), (0, vR (some m)), (1, vI (nI p)), (2, vI y), (3, vI z), (4, vI w)], [vI 0], sI (sI σ 500000 m 0 0) 500000 m 0 3, 0, 0)) rfl ?_
          exact w_iret rfl (Or.inl rfl) (by omega) (by omega) (Or.inl ⟨by simp [mrdF, c2, c5, c9, c10], rfl, rfl⟩)
        · refine Eq.mp (congrArg (fun x9 => WG _ _ _ _ _ _ _ (44, [(5, vI (nI ((itF (tknF (σ.1 610000 (A 10)) (σ.1 620000 (A 11)) y) 64 (64 * p) (-1)).toNatClampNeg))), (0, vR (some m)), (1, vI (nI p)), (2, vI y), (3, vI x9), (4, vI w)], [], sI σ 500000 m 0 0, 0, 0)) (Eq.symm ((n_of c10).1) : nI z.toNatClampNeg = z)) ?_
          show WG _ _ _ _ _ _ _ (44, [(5, vI (nI ((itF (tknF (σ.1 610000 (A 10)) (σ.1 620000 (A 11)) y) 64 (64 * p) (-1)).toNatClampNeg))), (0, vR (some m)), (1, vI (nI p)), (2, vI y), (3, vI (nI z.toNatClampNeg)), (4, vI w)], [], sI σ 500000 m 0 0, 0, 0)
          have hz31 := (n_of c10).2
          refine w_run 2 (S' := (46, [(5, vI (nI ((itF (tknF (σ.1 610000 (A 10)) (σ.1 620000 (A 11)) y) 64 (64 * p) (-1)).toNatClampNeg))), (0, vR (some m)), (1, vI (nI p)), (2, vI y), (3, vI (nI z.toNatClampNeg)), (4, vI w)], [vR (some m), vI (nI z.toNatClampNeg)], sI σ 500000 m 0 0, 0, 0)) rfl ?_
          refine w_get (k := 50) (vR (σ.2.1 501968 m 0)) rfl rfl rfl hM.1 rfl rfl ?_
          refine w_run 1 (S' := (51, [(5, vI (nI ((itF (tknF (σ.1 610000 (A 10)) (σ.1 620000 (A 11)) y) 64 (64 * p) (-1)).toNatClampNeg))), (0, vR (some m)), (1, vI (nI p)), (2, vI y), (3, vI (nI z.toNatClampNeg)), (4, vI w)], [vI (nI ((itF (tknF (σ.1 610000 (A 10)) (σ.1 620000 (A 11)) y) 64 (64 * p) (-1)).toNatClampNeg)), vR (σ.2.1 501968 m 0), vI (nI z.toNatClampNeg)], sI σ 500000 m 0 0, 0, 0)) rfl ?_
          refine w_iald (k := 68) rfl ((hM.2 17 (by decide)).1) ((hM.2 17 (by decide)).2) rfl (show vp_in (nI ((itF (tknF (σ.1 610000 (A 10)) (σ.1 620000 (A 11)) y) 64 (64 * p) (-1)).toNatClampNeg)) 256 from vp_in_nI (n := (itF (tknF (σ.1 610000 (A 10)) (σ.1 620000 (A 11)) y) 64 (64 * p) (-1)).toNatClampNeg) (by omega) (by decide)) ?_
          show WG _ _ _ _ _ _ _ (52, [(5, vI (nI ((itF (tknF (σ.1 610000 (A 10)) (σ.1 620000 (A 11)) y) 64 (64 * p) (-1)).toNatClampNeg))), (0, vR (some m)), (1, vI (nI p)), (2, vI y), (3, vI (nI z.toNatClampNeg)), (4, vI w)], [vI ((sI σ 500000 m 0 0).1 680000 (A 17) (nI ((itF (tknF (σ.1 610000 (A 10)) (σ.1 620000 (A 11)) y) 64 (64 * p) (-1)).toNatClampNeg)).toNatClampNeg), vI (nI z.toNatClampNeg)], sI σ 500000 m 0 0, 0, 0)
          rw [show (nI ((itF (tknF (σ.1 610000 (A 10)) (σ.1 620000 (A 11)) y) 64 (64 * p) (-1)).toNatClampNeg) : Int32).toNatClampNeg = (itF (tknF (σ.1 610000 (A 10)) (σ.1 620000 (A 11)) y) 64 (64 * p) (-1)).toNatClampNeg from nI_clamp (n := (itF (tknF (σ.1 610000 (A 10)) (σ.1 620000 (A 11)) y) 64 (64 * p) (-1)).toNatClampNeg) (by omega)]
          show WG _ _ _ _ _ _ _ (52, [(5, vI (nI ((itF (tknF (σ.1 610000 (A 10)) (σ.1 620000 (A 11)) y) 64 (64 * p) (-1)).toNatClampNeg))), (0, vR (some m)), (1, vI (nI p)), (2, vI y), (3, vI (nI z.toNatClampNeg)), (4, vI w)], [vI (σ.1 680000 (A 17) ((itF (tknF (σ.1 610000 (A 10)) (σ.1 620000 (A 11)) y) 64 (64 * p) (-1)).toNatClampNeg)), vI (nI z.toNatClampNeg)], sI σ 500000 m 0 0, 0, 0)
          refine Eq.mp (congrArg (fun x9 => WG _ _ _ _ _ _ _ (52, [(5, vI (nI ((itF (tknF (σ.1 610000 (A 10)) (σ.1 620000 (A 11)) y) 64 (64 * p) (-1)).toNatClampNeg))), (0, vR (some m)), (1, vI (nI p)), (2, vI y), (3, vI (nI z.toNatClampNeg)), (4, vI w)], [vI x9, vI (nI z.toNatClampNeg)], sI σ 500000 m 0 0, 0, 0)) (hit.symm : nI it = σ.1 680000 (A 17) ((itF (tknF (σ.1 610000 (A 10)) (σ.1 620000 (A 11)) y) 64 (64 * p) (-1)).toNatClampNeg))) ?_
          show WG _ _ _ _ _ _ _ (52, [(5, vI (nI ((itF (tknF (σ.1 610000 (A 10)) (σ.1 620000 (A 11)) y) 64 (64 * p) (-1)).toNatClampNeg))), (0, vR (some m)), (1, vI (nI p)), (2, vI y), (3, vI (nI z.toNatClampNeg)), (4, vI w)], [vI (nI it), vI (nI z.toNatClampNeg)], sI σ 500000 m 0 0, 0, 0)
          refine w_ic_ge rfl (fun c13 => ?_) (fun c13 => ?_)
          · have nc13 := (nI_leI (a := it) (b := z.toNatClampNeg) (by omega) (by omega)).mp c13
            have dc13 : σ.1 680000 (A 17) ((itF (tknF (σ.1 610000 (A 10)) (σ.1 620000 (A 11)) y) 64 (64 * p) (-1)).toNatClampNeg) ≤ z := by rw [hit, (n_of c10).1]; exact c13
            refine w_run 3 (S' := (64, [(6, vI 0), (5, vI (nI ((itF (tknF (σ.1 610000 (A 10)) (σ.1 620000 (A 11)) y) 64 (64 * p) (-1)).toNatClampNeg))), (0, vR (some m)), (1, vI (nI p)), (2, vI y), (3, vI (nI z.toNatClampNeg)), (4, vI w)], [vI 0], sI σ 500000 m 0 0, 0, 0)) rfl ?_
            refine w_if_ne rfl (fun c14 => (absurd c1 c14)) (fun c14 => ?_)
            have nc14 := (nI_eq (a := 0) (b := 0) (by omega) (by omega)).mp c14
            refine w_run 2 (S' := (69, [(6, vI 0), (5, vI (nI ((itF (tknF (σ.1 610000 (A 10)) (σ.1 620000 (A 11)) y) 64 (64 * p) (-1)).toNatClampNeg))), (0, vR (some m)), (1, vI (nI p)), (2, vI y), (3, vI (nI z.toNatClampNeg)), (4, vI w)], [vI 3, vR (some m)], sI σ 500000 m 0 0, 0, 0)) rfl ?_
            refine w_puti (k := 50) rfl rfl rfl hM.1 rfl rfl (Or.inl rfl) (Or.inl rfl) ?_
            show WG _ _ _ _ _ _ _ (72, [(6, vI 0), (5, vI (nI ((itF (tknF (σ.1 610000 (A 10)) (σ.1 620000 (A 11)) y) 64 (64 * p) (-1)).toNatClampNeg))), (0, vR (some m)), (1, vI (nI p)), (2, vI y), (3, vI (nI z.toNatClampNeg)), (4, vI w)], [], sI (sI σ 500000 m 0 0) 500000 m 0 3, 0, 0)
            refine w_run 1 (S' := (74, [(6, vI 0), (5, vI (nI ((itF (tknF (σ.1 610000 (A 10)) (σ.1 620000 (A 11)) y) 64 (64 * p) (-1)).toNatClampNeg))), (0, vR (some m)), (1, vI (nI p)), (2, vI y), (3, vI (nI z.toNatClampNeg)), (4, vI w)], [vI 0], sI (sI σ 500000 m 0 0) 500000 m 0 3, 0, 0)) rfl ?_
            refine w_if_ne rfl (fun c15 => (absurd c14 c15)) (fun c15 => ?_)
            have nc15 := (nI_eq (a := 0) (b := 0) (by omega) (by omega)).mp c15
            refine w_run 2 (S' := (127, [(6, vI 0), (5, vI (nI ((itF (tknF (σ.1 610000 (A 10)) (σ.1 620000 (A 11)) y) 64 (64 * p) (-1)).toNatClampNeg))), (0, vR (some m)), (1, vI (nI p)), (2, vI y), (3, vI (nI z.toNatClampNeg)), (4, vI w)], [vI 0], sI (sI σ 500000 m 0 0) 500000 m 0 3, 0, 0)) rfl ?_
            exact w_iret rfl (Or.inl rfl) (by omega) (by omega) (Or.inl ⟨by simp [mrdF, c2, c5, c9, c10, dc13], rfl, rfl⟩)
          · have nc13 := mt (nI_leI (a := it) (b := z.toNatClampNeg) (by omega) (by omega)).mpr c13
            have dc13 : ¬ σ.1 680000 (A 17) ((itF (tknF (σ.1 610000 (A 10)) (σ.1 620000 (A 11)) y) 64 (64 * p) (-1)).toNatClampNeg) ≤ z := by rw [hit, (n_of c10).1]; exact c13
            refine w_run 4 (S' := (64, [(6, vI 1), (5, vI (nI ((itF (tknF (σ.1 610000 (A 10)) (σ.1 620000 (A 11)) y) 64 (64 * p) (-1)).toNatClampNeg))), (0, vR (some m)), (1, vI (nI p)), (2, vI y), (3, vI (nI z.toNatClampNeg)), (4, vI w)], [vI 1], sI σ 500000 m 0 0, 0, 0)) rfl ?_
            refine w_if_ne rfl (fun c16 => ?_) (fun c16 => (absurd ((nI_eq (a := 1) (b := 0) (by omega) (by omega)).mp c16) (by omega)))
            have nc16 := mt (nI_eq (a := 1) (b := 0) (by omega) (by omega)).mpr c16
            refine w_run 1 (S' := (74, [(6, vI 1), (5, vI (nI ((itF (tknF (σ.1 610000 (A 10)) (σ.1 620000 (A 11)) y) 64 (64 * p) (-1)).toNatClampNeg))), (0, vR (some m)), (1, vI (nI p)), (2, vI y), (3, vI (nI z.toNatClampNeg)), (4, vI w)], [vI 1], sI σ 500000 m 0 0, 0, 0)) rfl ?_
            refine w_if_ne rfl (fun c17 => ?_) (fun c17 => (absurd c17 c16))
            have nc17 := mt (nI_eq (a := 1) (b := 0) (by omega) (by omega)).mpr c17
            refine w_run 2 (S' := (84, [(6, vI 1), (5, vI (nI ((itF (tknF (σ.1 610000 (A 10)) (σ.1 620000 (A 11)) y) 64 (64 * p) (-1)).toNatClampNeg))), (0, vR (some m)), (1, vI (nI p)), (2, vI y), (3, vI (nI z.toNatClampNeg)), (4, vI w)], [vI 2, vI w], sI σ 500000 m 0 0, 0, 0)) rfl ?_
            refine w_ic_ne rfl (fun c18 => ?_) (fun c18 => (absurd c18 c5))
            refine w_run 1 (S' := (99, [(6, vI 1), (5, vI (nI ((itF (tknF (σ.1 610000 (A 10)) (σ.1 620000 (A 11)) y) 64 (64 * p) (-1)).toNatClampNeg))), (0, vR (some m)), (1, vI (nI p)), (2, vI y), (3, vI (nI z.toNatClampNeg)), (4, vI w)], [vI w], sI σ 500000 m 0 0, 0, 0)) rfl ?_
            refine w_if_ne rfl (fun c19 => (absurd c9 c19)) (fun c19 => ?_)
            refine w_run 1 (S' := (103, [(6, vI 1), (5, vI (nI ((itF (tknF (σ.1 610000 (A 10)) (σ.1 620000 (A 11)) y) 64 (64 * p) (-1)).toNatClampNeg))), (0, vR (some m)), (1, vI (nI p)), (2, vI y), (3, vI (nI z.toNatClampNeg)), (4, vI w)], [vR (some m)], sI σ 500000 m 0 0, 0, 0)) rfl ?_
            refine w_get (k := 50) (vR (σ.2.1 502069 m 0)) rfl rfl rfl hM.1 rfl rfl ?_
            refine w_run 5 (S' := (112, [(6, vI 1), (5, vI (nI ((itF (tknF (σ.1 610000 (A 10)) (σ.1 620000 (A 11)) y) 64 (64 * p) (-1)).toNatClampNeg))), (0, vR (some m)), (1, vI (nI p)), (2, vI y), (3, vI (nI z.toNatClampNeg)), (4, vI w)], [vI ((4 * (nI ((itF (tknF (σ.1 610000 (A 10)) (σ.1 620000 (A 11)) y) 64 (64 * p) (-1)).toNatClampNeg))) + (nI z.toNatClampNeg)), vR (σ.2.1 502069 m 0)], sI σ 500000 m 0 0, 0, 0)) rfl ?_
            rw [show ((4 * (nI ((itF (tknF (σ.1 610000 (A 10)) (σ.1 620000 (A 11)) y) 64 (64 * p) (-1)).toNatClampNeg))) + (nI z.toNatClampNeg) : Int32) = nI (4 * ((itF (tknF (σ.1 610000 (A 10)) (σ.1 620000 (A 11)) y) 64 (64 * p) (-1)).toNatClampNeg) + z.toNatClampNeg) from by simp only [nl0, nl1, nl2, nl3, nl4, nl5, nl6, nl8, nl9, nl10, nl12, nl15, nl16, nl20, nl24, nl32, nl40, nl64, nl65, nl384, pk_mul, nI_add]]
            show WG _ _ _ _ _ _ _ (112, [(6, vI 1), (5, vI (nI ((itF (tknF (σ.1 610000 (A 10)) (σ.1 620000 (A 11)) y) 64 (64 * p) (-1)).toNatClampNeg))), (0, vR (some m)), (1, vI (nI p)), (2, vI y), (3, vI (nI z.toNatClampNeg)), (4, vI w)], [vI (nI (4 * ((itF (tknF (σ.1 610000 (A 10)) (σ.1 620000 (A 11)) y) 64 (64 * p) (-1)).toNatClampNeg) + z.toNatClampNeg)), vR (σ.2.1 502069 m 0)], sI σ 500000 m 0 0, 0, 0)
            refine w_iald (k := 69) rfl ((hM.2 18 (by decide)).1) ((hM.2 18 (by decide)).2) rfl (show vp_in (nI (4 * ((itF (tknF (σ.1 610000 (A 10)) (σ.1 620000 (A 11)) y) 64 (64 * p) (-1)).toNatClampNeg) + z.toNatClampNeg)) 1024 from vp_in_nI (n := 4 * ((itF (tknF (σ.1 610000 (A 10)) (σ.1 620000 (A 11)) y) 64 (64 * p) (-1)).toNatClampNeg) + z.toNatClampNeg) (by omega) (by decide)) ?_
            show WG _ _ _ _ _ _ _ (113, [(6, vI 1), (5, vI (nI ((itF (tknF (σ.1 610000 (A 10)) (σ.1 620000 (A 11)) y) 64 (64 * p) (-1)).toNatClampNeg))), (0, vR (some m)), (1, vI (nI p)), (2, vI y), (3, vI (nI z.toNatClampNeg)), (4, vI w)], [vI ((sI σ 500000 m 0 0).1 690000 (A 18) (nI (4 * ((itF (tknF (σ.1 610000 (A 10)) (σ.1 620000 (A 11)) y) 64 (64 * p) (-1)).toNatClampNeg) + z.toNatClampNeg)).toNatClampNeg)], sI σ 500000 m 0 0, 0, 0)
            rw [show (nI (4 * ((itF (tknF (σ.1 610000 (A 10)) (σ.1 620000 (A 11)) y) 64 (64 * p) (-1)).toNatClampNeg) + z.toNatClampNeg) : Int32).toNatClampNeg = 4 * ((itF (tknF (σ.1 610000 (A 10)) (σ.1 620000 (A 11)) y) 64 (64 * p) (-1)).toNatClampNeg) + z.toNatClampNeg from nI_clamp (n := 4 * ((itF (tknF (σ.1 610000 (A 10)) (σ.1 620000 (A 11)) y) 64 (64 * p) (-1)).toNatClampNeg) + z.toNatClampNeg) (by omega)]
            show WG _ _ _ _ _ _ _ (113, [(6, vI 1), (5, vI (nI ((itF (tknF (σ.1 610000 (A 10)) (σ.1 620000 (A 11)) y) 64 (64 * p) (-1)).toNatClampNeg))), (0, vR (some m)), (1, vI (nI p)), (2, vI y), (3, vI (nI z.toNatClampNeg)), (4, vI w)], [vI (σ.1 690000 (A 18) (4 * ((itF (tknF (σ.1 610000 (A 10)) (σ.1 620000 (A 11)) y) 64 (64 * p) (-1)).toNatClampNeg) + z.toNatClampNeg))], sI σ 500000 m 0 0, 0, 0)
            refine w_run 1 (S' := (127, [(6, vI 1), (5, vI (nI ((itF (tknF (σ.1 610000 (A 10)) (σ.1 620000 (A 11)) y) 64 (64 * p) (-1)).toNatClampNeg))), (0, vR (some m)), (1, vI (nI p)), (2, vI y), (3, vI (nI z.toNatClampNeg)), (4, vI w)], [vI (σ.1 690000 (A 18) (4 * ((itF (tknF (σ.1 610000 (A 10)) (σ.1 620000 (A 11)) y) 64 (64 * p) (-1)).toNatClampNeg) + z.toNatClampNeg))], sI σ 500000 m 0 0, 0, 0)) rfl ?_
            exact w_iret rfl (Or.inl rfl) (by omega) (by omega) (Or.inr ⟨_, by simp only [mrdF, if_neg c2, if_neg c5, if_pos c9, if_neg c10, if_neg dc13], rfl, rfl⟩)
      · refine w_run 2 (S' := (37, [(5, vI (nI ((itF (tknF (σ.1 610000 (A 10)) (σ.1 620000 (A 11)) y) 64 (64 * p) (-1)).toNatClampNeg))), (0, vR (some m)), (1, vI (nI p)), (2, vI y), (3, vI z), (4, vI w)], [vI 1, vI w], sI σ 500000 m 0 0, 0, 0)) rfl ?_
        refine w_ic_ne rfl (fun c20 => ?_) (fun c20 => ?_)
        · refine w_run 3 (S' := (64, [(6, vI 0), (5, vI (nI ((itF (tknF (σ.1 610000 (A 10)) (σ.1 620000 (A 11)) y) 64 (64 * p) (-1)).toNatClampNeg))), (0, vR (some m)), (1, vI (nI p)), (2, vI y), (3, vI z), (4, vI w)], [vI 0], sI σ 500000 m 0 0, 0, 0)) rfl ?_
          refine w_if_ne rfl (fun c21 => (absurd c1 c21)) (fun c21 => ?_)
          have nc21 := (nI_eq (a := 0) (b := 0) (by omega) (by omega)).mp c21
          refine w_run 2 (S' := (69, [(6, vI 0), (5, vI (nI ((itF (tknF (σ.1 610000 (A 10)) (σ.1 620000 (A 11)) y) 64 (64 * p) (-1)).toNatClampNeg))), (0, vR (some m)), (1, vI (nI p)), (2, vI y), (3, vI z), (4, vI w)], [vI 3, vR (some m)], sI σ 500000 m 0 0, 0, 0)) rfl ?_
          refine w_puti (k := 50) rfl rfl rfl hM.1 rfl rfl (Or.inl rfl) (Or.inl rfl) ?_
          show WG _ _ _ _ _ _ _ (72, [(6, vI 0), (5, vI (nI ((itF (tknF (σ.1 610000 (A 10)) (σ.1 620000 (A 11)) y) 64 (64 * p) (-1)).toNatClampNeg))), (0, vR (some m)), (1, vI (nI p)), (2, vI y), (3, vI z), (4, vI w)], [], sI (sI σ 500000 m 0 0) 500000 m 0 3, 0, 0)
          refine w_run 1 (S' := (74, [(6, vI 0), (5, vI (nI ((itF (tknF (σ.1 610000 (A 10)) (σ.1 620000 (A 11)) y) 64 (64 * p) (-1)).toNatClampNeg))), (0, vR (some m)), (1, vI (nI p)), (2, vI y), (3, vI z), (4, vI w)], [vI 0], sI (sI σ 500000 m 0 0) 500000 m 0 3, 0, 0)) rfl ?_
          refine w_if_ne rfl (fun c22 => (absurd c21 c22)) (fun c22 => ?_)
          have nc22 := (nI_eq (a := 0) (b := 0) (by omega) (by omega)).mp c22
          refine w_run 2 (S' := (127, [(6, vI 0), (5, vI (nI ((itF (tknF (σ.1 610000 (A 10)) (σ.1 620000 (A 11)) y) 64 (64 * p) (-1)).toNatClampNeg))), (0, vR (some m)), (1, vI (nI p)), (2, vI y), (3, vI z), (4, vI w)], [vI 0], sI (sI σ 500000 m 0 0) 500000 m 0 3, 0, 0)) rfl ?_
          exact w_iret rfl (Or.inl rfl) (by omega) (by omega) (Or.inl ⟨by simp [mrdF, c2, c5, c9, c20], rfl, rfl⟩)
        · refine w_run 1 (S' := (41, [(5, vI (nI ((itF (tknF (σ.1 610000 (A 10)) (σ.1 620000 (A 11)) y) 64 (64 * p) (-1)).toNatClampNeg))), (0, vR (some m)), (1, vI (nI p)), (2, vI y), (3, vI z), (4, vI w)], [vI z], sI σ 500000 m 0 0, 0, 0)) rfl ?_
          refine w_if_lt rfl (fun c23 => ?_) (fun c23 => ?_)
          · refine w_run 3 (S' := (64, [(6, vI 0), (5, vI (nI ((itF (tknF (σ.1 610000 (A 10)) (σ.1 620000 (A 11)) y) 64 (64 * p) (-1)).toNatClampNeg))), (0, vR (some m)), (1, vI (nI p)), (2, vI y), (3, vI z), (4, vI w)], [vI 0], sI σ 500000 m 0 0, 0, 0)) rfl ?_
            refine w_if_ne rfl (fun c24 => (absurd c1 c24)) (fun c24 => ?_)
            have nc24 := (nI_eq (a := 0) (b := 0) (by omega) (by omega)).mp c24
            refine w_run 2 (S' := (69, [(6, vI 0), (5, vI (nI ((itF (tknF (σ.1 610000 (A 10)) (σ.1 620000 (A 11)) y) 64 (64 * p) (-1)).toNatClampNeg))), (0, vR (some m)), (1, vI (nI p)), (2, vI y), (3, vI z), (4, vI w)], [vI 3, vR (some m)], sI σ 500000 m 0 0, 0, 0)) rfl ?_
            refine w_puti (k := 50) rfl rfl rfl hM.1 rfl rfl (Or.inl rfl) (Or.inl rfl) ?_
            show WG _ _ _ _ _ _ _ (72, [(6, vI 0), (5, vI (nI ((itF (tknF (σ.1 610000 (A 10)) (σ.1 620000 (A 11)) y) 64 (64 * p) (-1)).toNatClampNeg))), (0, vR (some m)), (1, vI (nI p)), (2, vI y), (3, vI z), (4, vI w)], [], sI (sI σ 500000 m 0 0) 500000 m 0 3, 0, 0)
            refine w_run 1 (S' := (74, [(6, vI 0), (5, vI (nI ((itF (tknF (σ.1 610000 (A 10)) (σ.1 620000 (A 11)) y) 64 (64 * p) (-1)).toNatClampNeg))), (0, vR (some m)), (1, vI (nI p)), (2, vI y), (3, vI z), (4, vI w)], [vI 0], sI (sI σ 500000 m 0 0) 500000 m 0 3, 0, 0)) rfl ?_
            refine w_if_ne rfl (fun c25 => (absurd c24 c25)) (fun c25 => ?_)
            have nc25 := (nI_eq (a := 0) (b := 0) (by omega) (by omega)).mp c25
            refine w_run 2 (S' := (127, [(6, vI 0), (5, vI (nI ((itF (tknF (σ.1 610000 (A 10)) (σ.1 620000 (A 11)) y) 64 (64 * p) (-1)).toNatClampNeg))), (0, vR (some m)), (1, vI (nI p)), (2, vI y), (3, vI z), (4, vI w)], [vI 0], sI (sI σ 500000 m 0 0) 500000 m 0 3, 0, 0)) rfl ?_
            exact w_iret rfl (Or.inl rfl) (by omega) (by omega) (Or.inl ⟨by simp [mrdF, c2, c5, c9, c20, c23], rfl, rfl⟩)
          · refine Eq.mp (congrArg (fun x9 => WG _ _ _ _ _ _ _ (44, [(5, vI (nI ((itF (tknF (σ.1 610000 (A 10)) (σ.1 620000 (A 11)) y) 64 (64 * p) (-1)).toNatClampNeg))), (0, vR (some m)), (1, vI (nI p)), (2, vI y), (3, vI x9), (4, vI w)], [], sI σ 500000 m 0 0, 0, 0)) (Eq.symm ((n_of c23).1) : nI z.toNatClampNeg = z)) ?_
            show WG _ _ _ _ _ _ _ (44, [(5, vI (nI ((itF (tknF (σ.1 610000 (A 10)) (σ.1 620000 (A 11)) y) 64 (64 * p) (-1)).toNatClampNeg))), (0, vR (some m)), (1, vI (nI p)), (2, vI y), (3, vI (nI z.toNatClampNeg)), (4, vI w)], [], sI σ 500000 m 0 0, 0, 0)
            have hz31 := (n_of c23).2
            refine w_run 2 (S' := (46, [(5, vI (nI ((itF (tknF (σ.1 610000 (A 10)) (σ.1 620000 (A 11)) y) 64 (64 * p) (-1)).toNatClampNeg))), (0, vR (some m)), (1, vI (nI p)), (2, vI y), (3, vI (nI z.toNatClampNeg)), (4, vI w)], [vR (some m), vI (nI z.toNatClampNeg)], sI σ 500000 m 0 0, 0, 0)) rfl ?_
            refine w_get (k := 50) (vR (σ.2.1 501968 m 0)) rfl rfl rfl hM.1 rfl rfl ?_
            refine w_run 1 (S' := (51, [(5, vI (nI ((itF (tknF (σ.1 610000 (A 10)) (σ.1 620000 (A 11)) y) 64 (64 * p) (-1)).toNatClampNeg))), (0, vR (some m)), (1, vI (nI p)), (2, vI y), (3, vI (nI z.toNatClampNeg)), (4, vI w)], [vI (nI ((itF (tknF (σ.1 610000 (A 10)) (σ.1 620000 (A 11)) y) 64 (64 * p) (-1)).toNatClampNeg)), vR (σ.2.1 501968 m 0), vI (nI z.toNatClampNeg)], sI σ 500000 m 0 0, 0, 0)) rfl ?_
            refine w_iald (k := 68) rfl ((hM.2 17 (by decide)).1) ((hM.2 17 (by decide)).2) rfl (show vp_in (nI ((itF (tknF (σ.1 610000 (A 10)) (σ.1 620000 (A 11)) y) 64 (64 * p) (-1)).toNatClampNeg)) 256 from vp_in_nI (n := (itF (tknF (σ.1 610000 (A 10)) (σ.1 620000 (A 11)) y) 64 (64 * p) (-1)).toNatClampNeg) (by omega) (by decide)) ?_
            show WG _ _ _ _ _ _ _ (52, [(5, vI (nI ((itF (tknF (σ.1 610000 (A 10)) (σ.1 620000 (A 11)) y) 64 (64 * p) (-1)).toNatClampNeg))), (0, vR (some m)), (1, vI (nI p)), (2, vI y), (3, vI (nI z.toNatClampNeg)), (4, vI w)], [vI ((sI σ 500000 m 0 0).1 680000 (A 17) (nI ((itF (tknF (σ.1 610000 (A 10)) (σ.1 620000 (A 11)) y) 64 (64 * p) (-1)).toNatClampNeg)).toNatClampNeg), vI (nI z.toNatClampNeg)], sI σ 500000 m 0 0, 0, 0)
            rw [show (nI ((itF (tknF (σ.1 610000 (A 10)) (σ.1 620000 (A 11)) y) 64 (64 * p) (-1)).toNatClampNeg) : Int32).toNatClampNeg = (itF (tknF (σ.1 610000 (A 10)) (σ.1 620000 (A 11)) y) 64 (64 * p) (-1)).toNatClampNeg from nI_clamp (n := (itF (tknF (σ.1 610000 (A 10)) (σ.1 620000 (A 11)) y) 64 (64 * p) (-1)).toNatClampNeg) (by omega)]
            show WG _ _ _ _ _ _ _ (52, [(5, vI (nI ((itF (tknF (σ.1 610000 (A 10)) (σ.1 620000 (A 11)) y) 64 (64 * p) (-1)).toNatClampNeg))), (0, vR (some m)), (1, vI (nI p)), (2, vI y), (3, vI (nI z.toNatClampNeg)), (4, vI w)], [vI (σ.1 680000 (A 17) ((itF (tknF (σ.1 610000 (A 10)) (σ.1 620000 (A 11)) y) 64 (64 * p) (-1)).toNatClampNeg)), vI (nI z.toNatClampNeg)], sI σ 500000 m 0 0, 0, 0)
            refine Eq.mp (congrArg (fun x9 => WG _ _ _ _ _ _ _ (52, [(5, vI (nI ((itF (tknF (σ.1 610000 (A 10)) (σ.1 620000 (A 11)) y) 64 (64 * p) (-1)).toNatClampNeg))), (0, vR (some m)), (1, vI (nI p)), (2, vI y), (3, vI (nI z.toNatClampNeg)), (4, vI w)], [vI x9, vI (nI z.toNatClampNeg)], sI σ 500000 m 0 0, 0, 0)) (hit.symm : nI it = σ.1 680000 (A 17) ((itF (tknF (σ.1 610000 (A 10)) (σ.1 620000 (A 11)) y) 64 (64 * p) (-1)).toNatClampNeg))) ?_
            show WG _ _ _ _ _ _ _ (52, [(5, vI (nI ((itF (tknF (σ.1 610000 (A 10)) (σ.1 620000 (A 11)) y) 64 (64 * p) (-1)).toNatClampNeg))), (0, vR (some m)), (1, vI (nI p)), (2, vI y), (3, vI (nI z.toNatClampNeg)), (4, vI w)], [vI (nI it), vI (nI z.toNatClampNeg)], sI σ 500000 m 0 0, 0, 0)
            refine w_ic_ge rfl (fun c26 => ?_) (fun c26 => ?_)
            · have nc26 := (nI_leI (a := it) (b := z.toNatClampNeg) (by omega) (by omega)).mp c26
              have dc26 : σ.1 680000 (A 17) ((itF (tknF (σ.1 610000 (A 10)) (σ.1 620000 (A 11)) y) 64 (64 * p) (-1)).toNatClampNeg) ≤ z := by rw [hit, (n_of c23).1]; exact c26
              refine w_run 3 (S' := (64, [(6, vI 0), (5, vI (nI ((itF (tknF (σ.1 610000 (A 10)) (σ.1 620000 (A 11)) y) 64 (64 * p) (-1)).toNatClampNeg))), (0, vR (some m)), (1, vI (nI p)), (2, vI y), (3, vI (nI z.toNatClampNeg)), (4, vI w)], [vI 0], sI σ 500000 m 0 0, 0, 0)) rfl ?_
              refine w_if_ne rfl (fun c27 => (absurd c1 c27)) (fun c27 => ?_)
              have nc27 := (nI_eq (a := 0) (b := 0) (by omega) (by omega)).mp c27
              refine w_run 2 (S' := (69, [(6, vI 0), (5, vI (nI ((itF (tknF (σ.1 610000 (A 10)) (σ.1 620000 (A 11)) y) 64 (64 * p) (-1)).toNatClampNeg))), (0, vR (some m)), (1, vI (nI p)), (2, vI y), (3, vI (nI z.toNatClampNeg)), (4, vI w)], [vI 3, vR (some m)], sI σ 500000 m 0 0, 0, 0)) rfl ?_
              refine w_puti (k := 50) rfl rfl rfl hM.1 rfl rfl (Or.inl rfl) (Or.inl rfl) ?_
              show WG _ _ _ _ _ _ _ (72, [(6, vI 0), (5, vI (nI ((itF (tknF (σ.1 610000 (A 10)) (σ.1 620000 (A 11)) y) 64 (64 * p) (-1)).toNatClampNeg))), (0, vR (some m)), (1, vI (nI p)), (2, vI y), (3, vI (nI z.toNatClampNeg)), (4, vI w)], [], sI (sI σ 500000 m 0 0) 500000 m 0 3, 0, 0)
              refine w_run 1 (S' := (74, [(6, vI 0), (5, vI (nI ((itF (tknF (σ.1 610000 (A 10)) (σ.1 620000 (A 11)) y) 64 (64 * p) (-1)).toNatClampNeg))), (0, vR (some m)), (1, vI (nI p)), (2, vI y), (3, vI (nI z.toNatClampNeg)), (4, vI w)], [vI 0], sI (sI σ 500000 m 0 0) 500000 m 0 3, 0, 0)) rfl ?_
              refine w_if_ne rfl (fun c28 => (absurd c27 c28)) (fun c28 => ?_)
              have nc28 := (nI_eq (a := 0) (b := 0) (by omega) (by omega)).mp c28
              refine w_run 2 (S' := (127, [(6, vI 0), (5, vI (nI ((itF (tknF (σ.1 610000 (A 10)) (σ.1 620000 (A 11)) y) 64 (64 * p) (-1)).toNatClampNeg))), (0, vR (some m)), (1, vI (nI p)), (2, vI y), (3, vI (nI z.toNatClampNeg)), (4, vI w)], [vI 0], sI (sI σ 500000 m 0 0) 500000 m 0 3, 0, 0)) rfl ?_
              exact w_iret rfl (Or.inl rfl) (by omega) (by omega) (Or.inl ⟨by simp [mrdF, c2, c5, c9, c20, c23, dc26], rfl, rfl⟩)
            · have nc26 := mt (nI_leI (a := it) (b := z.toNatClampNeg) (by omega) (by omega)).mpr c26
              have dc26 : ¬ σ.1 680000 (A 17) ((itF (tknF (σ.1 610000 (A 10)) (σ.1 620000 (A 11)) y) 64 (64 * p) (-1)).toNatClampNeg) ≤ z := by rw [hit, (n_of c23).1]; exact c26
              refine w_run 4 (S' := (64, [(6, vI 1), (5, vI (nI ((itF (tknF (σ.1 610000 (A 10)) (σ.1 620000 (A 11)) y) 64 (64 * p) (-1)).toNatClampNeg))), (0, vR (some m)), (1, vI (nI p)), (2, vI y), (3, vI (nI z.toNatClampNeg)), (4, vI w)], [vI 1], sI σ 500000 m 0 0, 0, 0)) rfl ?_
              refine w_if_ne rfl (fun c29 => ?_) (fun c29 => (absurd ((nI_eq (a := 1) (b := 0) (by omega) (by omega)).mp c29) (by omega)))
              have nc29 := mt (nI_eq (a := 1) (b := 0) (by omega) (by omega)).mpr c29
              refine w_run 1 (S' := (74, [(6, vI 1), (5, vI (nI ((itF (tknF (σ.1 610000 (A 10)) (σ.1 620000 (A 11)) y) 64 (64 * p) (-1)).toNatClampNeg))), (0, vR (some m)), (1, vI (nI p)), (2, vI y), (3, vI (nI z.toNatClampNeg)), (4, vI w)], [vI 1], sI σ 500000 m 0 0, 0, 0)) rfl ?_
              refine w_if_ne rfl (fun c30 => ?_) (fun c30 => (absurd c30 c29))
              have nc30 := mt (nI_eq (a := 1) (b := 0) (by omega) (by omega)).mpr c30
              refine w_run 2 (S' := (84, [(6, vI 1), (5, vI (nI ((itF (tknF (σ.1 610000 (A 10)) (σ.1 620000 (A 11)) y) 64 (64 * p) (-1)).toNatClampNeg))), (0, vR (some m)), (1, vI (nI p)), (2, vI y), (3, vI (nI z.toNatClampNeg)), (4, vI w)], [vI 2, vI w], sI σ 500000 m 0 0, 0, 0)) rfl ?_
              refine w_ic_ne rfl (fun c31 => ?_) (fun c31 => (absurd c31 c5))
              refine w_run 1 (S' := (99, [(6, vI 1), (5, vI (nI ((itF (tknF (σ.1 610000 (A 10)) (σ.1 620000 (A 11)) y) 64 (64 * p) (-1)).toNatClampNeg))), (0, vR (some m)), (1, vI (nI p)), (2, vI y), (3, vI (nI z.toNatClampNeg)), (4, vI w)], [vI w], sI σ 500000 m 0 0, 0, 0)) rfl ?_
              refine w_if_ne rfl (fun c32 => ?_) (fun c32 => (absurd c32 c9))
              refine w_run 1 (S' := (117, [(6, vI 1), (5, vI (nI ((itF (tknF (σ.1 610000 (A 10)) (σ.1 620000 (A 11)) y) 64 (64 * p) (-1)).toNatClampNeg))), (0, vR (some m)), (1, vI (nI p)), (2, vI y), (3, vI (nI z.toNatClampNeg)), (4, vI w)], [vR (some m)], sI σ 500000 m 0 0, 0, 0)) rfl ?_
              refine w_get (k := 50) (vR (σ.2.1 502170 m 0)) rfl rfl rfl hM.1 rfl rfl ?_
              refine w_run 5 (S' := (126, [(6, vI 1), (5, vI (nI ((itF (tknF (σ.1 610000 (A 10)) (σ.1 620000 (A 11)) y) 64 (64 * p) (-1)).toNatClampNeg))), (0, vR (some m)), (1, vI (nI p)), (2, vI y), (3, vI (nI z.toNatClampNeg)), (4, vI w)], [vI ((4 * (nI ((itF (tknF (σ.1 610000 (A 10)) (σ.1 620000 (A 11)) y) 64 (64 * p) (-1)).toNatClampNeg))) + (nI z.toNatClampNeg)), vR (σ.2.1 502170 m 0)], sI σ 500000 m 0 0, 0, 0)) rfl ?_
              rw [show ((4 * (nI ((itF (tknF (σ.1 610000 (A 10)) (σ.1 620000 (A 11)) y) 64 (64 * p) (-1)).toNatClampNeg))) + (nI z.toNatClampNeg) : Int32) = nI (4 * ((itF (tknF (σ.1 610000 (A 10)) (σ.1 620000 (A 11)) y) 64 (64 * p) (-1)).toNatClampNeg) + z.toNatClampNeg) from by simp only [nl0, nl1, nl2, nl3, nl4, nl5, nl6, nl8, nl9, nl10, nl12, nl15, nl16, nl20, nl24, nl32, nl40, nl64, nl65, nl384, pk_mul, nI_add]]
              show WG _ _ _ _ _ _ _ (126, [(6, vI 1), (5, vI (nI ((itF (tknF (σ.1 610000 (A 10)) (σ.1 620000 (A 11)) y) 64 (64 * p) (-1)).toNatClampNeg))), (0, vR (some m)), (1, vI (nI p)), (2, vI y), (3, vI (nI z.toNatClampNeg)), (4, vI w)], [vI (nI (4 * ((itF (tknF (σ.1 610000 (A 10)) (σ.1 620000 (A 11)) y) 64 (64 * p) (-1)).toNatClampNeg) + z.toNatClampNeg)), vR (σ.2.1 502170 m 0)], sI σ 500000 m 0 0, 0, 0)
              refine w_iald (k := 70) rfl ((hM.2 19 (by decide)).1) ((hM.2 19 (by decide)).2) rfl (show vp_in (nI (4 * ((itF (tknF (σ.1 610000 (A 10)) (σ.1 620000 (A 11)) y) 64 (64 * p) (-1)).toNatClampNeg) + z.toNatClampNeg)) 1024 from vp_in_nI (n := 4 * ((itF (tknF (σ.1 610000 (A 10)) (σ.1 620000 (A 11)) y) 64 (64 * p) (-1)).toNatClampNeg) + z.toNatClampNeg) (by omega) (by decide)) ?_
              show WG _ _ _ _ _ _ _ (127, [(6, vI 1), (5, vI (nI ((itF (tknF (σ.1 610000 (A 10)) (σ.1 620000 (A 11)) y) 64 (64 * p) (-1)).toNatClampNeg))), (0, vR (some m)), (1, vI (nI p)), (2, vI y), (3, vI (nI z.toNatClampNeg)), (4, vI w)], [vI ((sI σ 500000 m 0 0).1 700000 (A 19) (nI (4 * ((itF (tknF (σ.1 610000 (A 10)) (σ.1 620000 (A 11)) y) 64 (64 * p) (-1)).toNatClampNeg) + z.toNatClampNeg)).toNatClampNeg)], sI σ 500000 m 0 0, 0, 0)
              rw [show (nI (4 * ((itF (tknF (σ.1 610000 (A 10)) (σ.1 620000 (A 11)) y) 64 (64 * p) (-1)).toNatClampNeg) + z.toNatClampNeg) : Int32).toNatClampNeg = 4 * ((itF (tknF (σ.1 610000 (A 10)) (σ.1 620000 (A 11)) y) 64 (64 * p) (-1)).toNatClampNeg) + z.toNatClampNeg from nI_clamp (n := 4 * ((itF (tknF (σ.1 610000 (A 10)) (σ.1 620000 (A 11)) y) 64 (64 * p) (-1)).toNatClampNeg) + z.toNatClampNeg) (by omega)]
              show WG _ _ _ _ _ _ _ (127, [(6, vI 1), (5, vI (nI ((itF (tknF (σ.1 610000 (A 10)) (σ.1 620000 (A 11)) y) 64 (64 * p) (-1)).toNatClampNeg))), (0, vR (some m)), (1, vI (nI p)), (2, vI y), (3, vI (nI z.toNatClampNeg)), (4, vI w)], [vI (σ.1 700000 (A 19) (4 * ((itF (tknF (σ.1 610000 (A 10)) (σ.1 620000 (A 11)) y) 64 (64 * p) (-1)).toNatClampNeg) + z.toNatClampNeg))], sI σ 500000 m 0 0, 0, 0)
              exact w_iret rfl (Or.inl rfl) (by omega) (by omega) (Or.inr ⟨_, by simp only [mrdF, if_neg c2, if_neg c5, if_neg c9, if_pos c20, if_neg c23, if_neg dc26], rfl, rfl⟩)

