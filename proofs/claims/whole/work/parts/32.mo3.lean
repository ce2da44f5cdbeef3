/-! the model: what a draft stands for, gaps, free rows and handles -/
def pOf (x : Int32) : Nat := x.toNatClampNeg / 10 % 4
theorem pOf_lt (x : Int32) : pOf x < 4 := Nat.mod_lt _ (by decide)
theorem n_of {x : Int32} (h : ¬ x < 0) : x = nI x.toNatClampNeg ∧ x.toNatClampNeg < 2 ^ 31 := by
  obtain ⟨j, hj, e⟩ := nI_of (x := x) h
  have := nI_clamp hj
  rw [← e] at this
  rw [this]; exact ⟨e, hj⟩
theorem hhF_n {st wk : Nat → Int32} {p : Nat} {h : Int32} (c : ¬ hhF st wk p h = 0) : h = nI h.toNatClampNeg ∧ 1 ≤ h.toNatClampNeg ∧ h.toNatClampNeg < 16 := by
  unfold hhF at c
  split at c
  · exact absurd rfl c
  split at c
  · exact absurd rfl c
  rename_i h1 h2
  obtain ⟨j, a, b, rfl⟩ := hh_j h1 h2
  rw [nI_clamp (show j < 2 ^ 31 by omega)]
  exact ⟨rfl, a, b⟩
theorem c_mo_processOfI (l : Launch) (E : FE) (d : Nat) (σ : Sg) (x : Int32) (hx : ¬ x < 0) : CT l E d 74 [vI x] σ 0 0 (fun r σ' => r = some (vI (nI (pOf x))) ∧ σ' = σ) (fun _ _ => False) := by
  have h := c_mo_processOf l E d σ x.toNatClampNeg (n_of hx).2
  rw [← (n_of hx).1] at h
  exact h
def dedI (al lv : Nat → Int32) (x : Int32) : Int32 := dedF al lv x.toNatClampNeg
theorem c_mo_isDeadI (l : Launch) (E : FE) (d : Nat) (σ : Sg) (m : Nat) (A : Nat → Nat) (x : Int32) (dd : Nat) (hM : MO σ m A) (hd : dd + 1 ≤ d) (hx : ¬ x < 0) : CT l E d 75 [vR (some m), vI x] σ 0 0 (fun r σ' => r = some (vI (dedI (σ.1 510000 (A 0)) (σ.1 520000 (A 1)) x)) ∧ σ' = σ) (fun _ _ => False) := by
  have h := c_mo_isDead l E d σ m A x.toNatClampNeg dd hM hd (n_of hx).2
  rw [← (n_of hx).1] at h
  exact h
set_option maxHeartbeats 4000000 in
theorem lk_mo_isBusy (l : Launch) (E : FE) (d : Nat) (σ : Sg) (m : Nat) (A : Nat → Nat) (p : Nat) (n : Int32) (hM : MO σ m A) (hp : p < 4) {mc ms cs sl : Nat} {args : Array Value} {XX : State → Prop} {QF : State → List Frame → State → Prop} (hcs : cs ≤ mc) (hsl : sl ≤ ms) : ∀ (k i : Nat), i + k = 64 * p + 64 → ∀ (a : Int32), (a = 0 ∨ a = 1) → (∀ (a' : Int32), a' = itF (bsyF (σ.1 610000 (A 10)) (σ.1 640000 (A 13)) (σ.1 650000 (A 14)) n) k i a → (a' = 0 ∨ a' = 1) → WG l E (RM d mc ms) 102 args XX QF (67, [(3, vI a'), (0, vR (some m)), (1, vI (nI p)), (2, vI n)], [], σ, cs, sl)) →
    WG l E (RM d mc ms) 102 args XX QF (8, [(4, vI (nI i)), (3, vI a), (0, vR (some m)), (1, vI (nI p)), (2, vI n)], [], σ, cs, sl) := by
  intro k
  induction k with
  | zero =>
    intro i hi a ha K
    refine w_run 6 (S' := (17, [(4, vI (nI i)), (3, vI a), (0, vR (some m)), (1, vI (nI p)), (2, vI n)], [vI ((64 * (nI p)) + 64), vI (nI i)], σ, cs, sl)) rfl ?_
    rw [show ((64 * (nI p)) + 64 : Int32) = nI (64 * p + 64) from by simp only [nl0, nl1, nl2, nl3, nl4, nl5, nl6, nl8, nl9, nl10, nl12, nl15, nl16, nl20, nl24, nl32, nl40, nl64, nl65, nl384, pk_mul, nI_add]]
    show WG _ _ _ _ _ _ _ (17, [(4, vI (nI i)), (3, vI a), (0, vR (some m)), (1, vI (nI p)), (2, vI n)], [vI (nI (64 * p + 64)), vI (nI i)], σ, cs, sl)
    refine w_ic_ge rfl (fun c1 => ?_) (fun c1 => (absurd ((nI_leI (a := 64 * p + 64) (b := i) (by omega) (by omega)).mpr (by omega)) c1))
    have nc1 := (nI_leI (a := 64 * p + 64) (b := i) (by omega) (by omega)).mp c1
    refine w_lsP [1, 2, 3, 4] ?_
    show WG _ _ _ _ _ _ _ (67, [(3, vI a), (0, vR (some m)), (1, vI (nI p)), (2, vI n)], [], σ, cs, sl)
    exact K a rfl ha
  | succ k ih =>
    intro i hi a ha K
    refine w_run 6 (S' := (17, [(4, vI (nI i)), (3, vI a), (0, vR (some m)), (1, vI (nI p)), (2, vI n)], [vI ((64 * (nI p)) + 64), vI (nI i)], σ, cs, sl)) rfl ?_
    rw [show ((64 * (nI p)) + 64 : Int32) = nI (64 * p + 64) from by simp only [nl0, nl1, nl2, nl3, nl4, nl5, nl6, nl8, nl9, nl10, nl12, nl15, nl16, nl20, nl24, nl32, nl40, nl64, nl65, nl384, pk_mul, nI_add]]
    show WG _ _ _ _ _ _ _ (17, [(4, vI (nI i)), (3, vI a), (0, vR (some m)), (1, vI (nI p)), (2, vI n)], [vI (nI (64 * p + 64)), vI (nI i)], σ, cs, sl)
    refine w_ic_ge rfl (fun c1 => (absurd ((nI_leI (a := 64 * p + 64) (b := i) (by omega) (by omega)).mp c1) (by omega))) (fun c1 => ?_)
    have nc1 := mt (nI_leI (a := 64 * p + 64) (b := i) (by omega) (by omega)).mpr c1
    refine w_run 1 (S' := (21, [(4, vI (nI i)), (3, vI a), (0, vR (some m)), (1, vI (nI p)), (2, vI n)], [vI a], σ, cs, sl)) rfl ?_
    refine w_if_ne rfl (fun c2 => ?_) (fun c2 => ?_)
    · refine w_run 5 (S' := (8, [(4, vI ((nI i) + 1)), (3, vI 1), (0, vR (some m)), (1, vI (nI p)), (2, vI n)], [], σ, cs, sl)) rfl ?_
      rw [show ((nI i) + 1 : Int32) = nI (i + 1) from by simp only [nl0, nl1, nl2, nl3, nl4, nl5, nl6, nl8, nl9, nl10, nl12, nl15, nl16, nl20, nl24, nl32, nl40, nl64, nl65, nl384, pk_mul, nI_add]]
      show WG _ _ _ _ _ _ _ (8, [(4, vI (nI (i + 1))), (3, vI 1), (0, vR (some m)), (1, vI (nI p)), (2, vI n)], [], σ, cs, sl)
      exact ih (i + 1) (by omega) 1 (Or.inr rfl) (fun a' e9 q90 => K a' (by rw [itF_succ, ← (show (1 : Int32) = (bsyF (σ.1 610000 (A 10)) (σ.1 640000 (A 13)) (σ.1 650000 (A 14)) n) i a from by simp [bsyF, c1, c2])]; exact e9) q90)
    · refine w_run 1 (S' := (25, [(4, vI (nI i)), (3, vI a), (0, vR (some m)), (1, vI (nI p)), (2, vI n)], [vR (some m)], σ, cs, sl)) rfl ?_
      refine w_get (k := 50) (vR (σ.2.1 501261 m 0)) rfl rfl rfl hM.1 rfl rfl ?_
      refine w_run 1 (S' := (30, [(4, vI (nI i)), (3, vI a), (0, vR (some m)), (1, vI (nI p)), (2, vI n)], [vI (nI i), vR (σ.2.1 501261 m 0)], σ, cs, sl)) rfl ?_
      refine w_iald (k := 61) rfl ((hM.2 10 (by decide)).1) ((hM.2 10 (by decide)).2) rfl (show vp_in (nI i) 256 from vp_in_nI (n := i) (by omega) (by decide)) ?_
      show WG _ _ _ _ _ _ _ (31, [(4, vI (nI i)), (3, vI a), (0, vR (some m)), (1, vI (nI p)), (2, vI n)], [vI (σ.1 610000 (A 10) (nI i).toNatClampNeg)], σ, cs, sl)
      rw [show (nI i : Int32).toNatClampNeg = i from nI_clamp (n := i) (by omega)]
      show WG _ _ _ _ _ _ _ (31, [(4, vI (nI i)), (3, vI a), (0, vR (some m)), (1, vI (nI p)), (2, vI n)], [vI (σ.1 610000 (A 10) i)], σ, cs, sl)
      refine w_if_le rfl (fun c3 => ?_) (fun c3 => ?_)
      · refine w_run 4 (S' := (8, [(4, vI ((nI i) + 1)), (3, vI 0), (0, vR (some m)), (1, vI (nI p)), (2, vI n)], [], σ, cs, sl)) rfl ?_
        rw [show ((nI i) + 1 : Int32) = nI (i + 1) from by simp only [nl0, nl1, nl2, nl3, nl4, nl5, nl6, nl8, nl9, nl10, nl12, nl15, nl16, nl20, nl24, nl32, nl40, nl64, nl65, nl384, pk_mul, nI_add]]
        show WG _ _ _ _ _ _ _ (8, [(4, vI (nI (i + 1))), (3, vI 0), (0, vR (some m)), (1, vI (nI p)), (2, vI n)], [], σ, cs, sl)
        exact ih (i + 1) (by omega) 0 (Or.inl rfl) (fun a' e9 q90 => K a' (by rw [itF_succ, ← (show (0 : Int32) = (bsyF (σ.1 610000 (A 10)) (σ.1 640000 (A 13)) (σ.1 650000 (A 14)) n) i a from by simp [bsyF, c1, c2, c3])]; exact e9) q90)
      · refine w_run 1 (S' := (35, [(4, vI (nI i)), (3, vI a), (0, vR (some m)), (1, vI (nI p)), (2, vI n)], [vR (some m)], σ, cs, sl)) rfl ?_
        refine w_get (k := 50) (vR (σ.2.1 501564 m 0)) rfl rfl rfl hM.1 rfl rfl ?_
        refine w_run 1 (S' := (40, [(4, vI (nI i)), (3, vI a), (0, vR (some m)), (1, vI (nI p)), (2, vI n)], [vI (nI i), vR (σ.2.1 501564 m 0)], σ, cs, sl)) rfl ?_
        refine w_zald (k := 64) rfl ((hM.2 13 (by decide)).1) ((hM.2 13 (by decide)).2) rfl (show vp_in (nI i) 256 from vp_in_nI (n := i) (by omega) (by decide)) ?_
        show WG _ _ _ _ _ _ _ (41, [(4, vI (nI i)), (3, vI a), (0, vR (some m)), (1, vI (nI p)), (2, vI n)], [vI (σ.1 640000 (A 13) (nI i).toNatClampNeg)], σ, cs, sl)
        rw [show (nI i : Int32).toNatClampNeg = i from nI_clamp (n := i) (by omega)]
        show WG _ _ _ _ _ _ _ (41, [(4, vI (nI i)), (3, vI a), (0, vR (some m)), (1, vI (nI p)), (2, vI n)], [vI (σ.1 640000 (A 13) i)], σ, cs, sl)
        refine w_if_eq rfl (fun c4 => ?_) (fun c4 => ?_)
        · refine w_run 4 (S' := (8, [(4, vI ((nI i) + 1)), (3, vI 0), (0, vR (some m)), (1, vI (nI p)), (2, vI n)], [], σ, cs, sl)) rfl ?_
          rw [show ((nI i) + 1 : Int32) = nI (i + 1) from by simp only [nl0, nl1, nl2, nl3, nl4, nl5, nl6, nl8, nl9, nl10, nl12, nl15, nl16, nl20, nl24, nl32, nl40, nl64, nl65, nl384, pk_mul, nI_add]]
          show WG _ _ _ _ _ _ _ (8, [(4, vI (nI (i + 1))), (3, vI 0), (0, vR (some m)), (1, vI (nI p)), (2, vI n)], [], σ, cs, sl)
          exact ih (i + 1) (by omega) 0 (Or.inl rfl) (fun a' e9 q90 => K a' (by rw [itF_succ, ← (show (0 : Int32) = (bsyF (σ.1 610000 (A 10)) (σ.1 640000 (A 13)) (σ.1 650000 (A 14)) n) i a from by simp [bsyF, c1, c2, c3, c4])]; exact e9) q90)
        · refine w_run 1 (S' := (45, [(4, vI (nI i)), (3, vI a), (0, vR (some m)), (1, vI (nI p)), (2, vI n)], [vR (some m)], σ, cs, sl)) rfl ?_
          refine w_get (k := 50) (vR (σ.2.1 501665 m 0)) rfl rfl rfl hM.1 rfl rfl ?_
          refine w_run 1 (S' := (50, [(4, vI (nI i)), (3, vI a), (0, vR (some m)), (1, vI (nI p)), (2, vI n)], [vI (nI i), vR (σ.2.1 501665 m 0)], σ, cs, sl)) rfl ?_
          refine w_iald (k := 65) rfl ((hM.2 14 (by decide)).1) ((hM.2 14 (by decide)).2) rfl (show vp_in (nI i) 256 from vp_in_nI (n := i) (by omega) (by decide)) ?_
          show WG _ _ _ _ _ _ _ (51, [(4, vI (nI i)), (3, vI a), (0, vR (some m)), (1, vI (nI p)), (2, vI n)], [vI (σ.1 650000 (A 14) (nI i).toNatClampNeg)], σ, cs, sl)
          rw [show (nI i : Int32).toNatClampNeg = i from nI_clamp (n := i) (by omega)]
          show WG _ _ _ _ _ _ _ (51, [(4, vI (nI i)), (3, vI a), (0, vR (some m)), (1, vI (nI p)), (2, vI n)], [vI (σ.1 650000 (A 14) i)], σ, cs, sl)
          refine w_run 1 (S' := (52, [(4, vI (nI i)), (3, vI a), (0, vR (some m)), (1, vI (nI p)), (2, vI n)], [vI n, vI (σ.1 650000 (A 14) i)], σ, cs, sl)) rfl ?_
          refine w_ic_ne rfl (fun c5 => ?_) (fun c5 => ?_)
          · refine w_run 4 (S' := (8, [(4, vI ((nI i) + 1)), (3, vI 0), (0, vR (some m)), (1, vI (nI p)), (2, vI n)], [], σ, cs, sl)) rfl ?_
            rw [show ((nI i) + 1 : Int32) = nI (i + 1) from by simp only [nl0, nl1, nl2, nl3, nl4, nl5, nl6, nl8, nl9, nl10, nl12, nl15, nl16, nl20, nl24, nl32, nl40, nl64, nl65, nl384, pk_mul, nI_add]]
            show WG _ _ _ _ _ _ _ (8, [(4, vI (nI (i + 1))), (3, vI 0), (0, vR (some m)), (1, vI (nI p)), (2, vI n)], [], σ, cs, sl)
            exact ih (i + 1) (by omega) 0 (Or.inl rfl) (fun a' e9 q90 => K a' (by rw [itF_succ, ← (show (0 : Int32) = (bsyF (σ.1 610000 (A 10)) (σ.1 640000 (A 13)) (σ.1 650000 (A 14)) n) i a from by simp [bsyF, c1, c2, c3, c4, c5])]; exact e9) q90)
          · refine w_run 5 (S' := (8, [(4, vI ((nI i) + 1)), (3, vI 1), (0, vR (some m)), (1, vI (nI p)), (2, vI n)], [], σ, cs, sl)) rfl ?_
            rw [show ((nI i) + 1 : Int32) = nI (i + 1) from by simp only [nl0, nl1, nl2, nl3, nl4, nl5, nl6, nl8, nl9, nl10, nl12, nl15, nl16, nl20, nl24, nl32, nl40, nl64, nl65, nl384, pk_mul, nI_add]]
            show WG _ _ _ _ _ _ _ (8, [(4, vI (nI (i + 1))), (3, vI 1), (0, vR (some m)), (1, vI (nI p)), (2, vI n)], [], σ, cs, sl)
            exact ih (i + 1) (by omega) 1 (Or.inr rfl) (fun a' e9 q90 => K a' (by rw [itF_succ, ← (show (1 : Int32) = (bsyF (σ.1 610000 (A 10)) (σ.1 640000 (A 13)) (σ.1 650000 (A 14)) n) i a from by simp [bsyF, c1, c2, c3, c4, c5])]; exact e9) q90)
set_option maxHeartbeats 4000000 in
theorem c_mo_isBusy (l : Launch) (E : FE) (d : Nat) (σ : Sg) (m : Nat) (A : Nat → Nat) (p : Nat) (n : Int32) (hM : MO σ m A) (hp : p < 4) : CT l E d 102 [vR (some m), vI (nI p), vI n] σ 0 0 (fun r σ' => r = some (vI (itF (bsyF (σ.1 610000 (A 10)) (σ.1 640000 (A 13)) (σ.1 650000 (A 14)) n) 64 (64 * p) 0)) ∧ σ' = σ) (fun _ _ => False) := by
  refine CTo ok_mo_isBusy (by decide +kernel) rfl rfl rfl ?_
  refine w_run 6 (S' := (8, [(4, vI (64 * (nI p))), (3, vI 0), (0, vR (some m)), (1, vI (nI p)), (2, vI n)], [], σ, 0, 0)) rfl ?_
  rw [show (64 * (nI p) : Int32) = nI (64 * p) from by simp only [nl0, nl1, nl2, nl3, nl4, nl5, nl6, nl8, nl9, nl10, nl12, nl15, nl16, nl20, nl24, nl32, nl40, nl64, nl65, nl384, pk_mul, nI_add]]
  show WG _ _ _ _ _ _ _ (8, [(4, vI (nI (64 * p))), (3, vI 0), (0, vR (some m)), (1, vI (nI p)), (2, vI n)], [], σ, 0, 0)
  refine lk_mo_isBusy l E d σ m A p n hM hp (Nat.le_refl _) (Nat.le_refl _) 64 (64 * p) (by omega) 0 (Or.inl rfl) (fun a e1 ha => ?_)
  show WG _ _ _ _ _ _ _ (67, [(3, vI a), (0, vR (some m)), (1, vI (nI p)), (2, vI n)], [], σ, 0, 0)
  refine w_run 1 (S' := (68, [(3, vI a), (0, vR (some m)), (1, vI (nI p)), (2, vI n)], [vI a], σ, 0, 0)) rfl ?_
  exact w_iret rfl (Or.inr ⟨rfl, ha⟩) (by omega) (by omega) (⟨by rw [e1], rfl⟩)

def tgtF (σ : Sg) (m : Nat) (A : Nat → Nat) (p : Nat) (h : Int32) : Int32 := if h = 0 then σ.1 500300 m 0 else if hhF (σ.1 550000 (A 4)) (σ.1 560000 (A 5)) p h = 0 then -1 else if σ.1 550000 (A 4) (16 * p + h.toNatClampNeg) ≤ 0 then -1 else σ.1 540000 (A 3) (16 * p + h.toNatClampNeg)
set_option maxHeartbeats 4000000 in
theorem c_mo_target (l : Launch) (E : FE) (d : Nat) (σ : Sg) (m : Nat) (A : Nat → Nat) (p dd : Nat) (h : Int32) (hM : MO σ m A) (hd : dd + 1 ≤ d) (hp : p < 4) : CT l E d 101 [vR (some m), vI (nI p), vI h] σ 0 0 (fun r σ' => r = some (vI (tgtF σ m A p h)) ∧ σ' = σ) (fun _ _ => False) := by
  refine CTo ok_mo_target (by decide +kernel) rfl rfl rfl ?_
  refine w_run 1 (S' := (1, [(0, vR (some m)), (1, vI (nI p)), (2, vI h)], [vI h], σ, 0, 0)) rfl ?_
  refine w_if_ne rfl (fun c1 => ?_) (fun c1 => ?_)
  · refine w_run 3 (S' := (12, [(0, vR (some m)), (1, vI (nI p)), (2, vI h)], [vI h, vI (nI p), vR (some m)], σ, 0, 0)) rfl ?_
    refine w_callV (st := []) [vI (nI p), vI h] rfl ml_10_141 rfl rfl hM.1 rfl rfl rfl (by simp only [RM]; omega) (by simp only [RM]; show 8 + (3 + 11) + _ ≤ _; omega) rfl (by simp only [RM]; omega) (by simp only [RM]; omega) (c_mo_hasHandle l E dd σ m A p h hM hp) (fun _ _ h => h.elim) ?_
    intro r9 s9 q9
    rw [q9.1, q9.2]
    clear q9 r9 s9
    show WG _ _ _ _ _ _ _ (15, [(0, vR (some m)), (1, vI (nI p)), (2, vI h)], [vI (hhF (σ.1 550000 (A 4)) (σ.1 560000 (A 5)) p h)], σ, 0, 0)
    refine w_if_eq rfl (fun c2 => ?_) (fun c2 => ?_)
    · refine w_run 1 (S' := (47, [(0, vR (some m)), (1, vI (nI p)), (2, vI h)], [vI (-1)], σ, 0, 0)) rfl ?_
      exact w_iret rfl (Or.inl rfl) (by omega) (by omega) (⟨by simp [tgtF, c1, c2], rfl⟩)
    · obtain ⟨hx, hx1, hx2⟩ := hhF_n c2
      refine Eq.mp (congrArg (fun x9 => WG _ _ _ _ _ _ _ (18, [(0, vR (some m)), (1, vI (nI p)), (2, vI x9)], [], σ, 0, 0)) (Eq.symm hx : nI h.toNatClampNeg = h)) ?_
      show WG _ _ _ _ _ _ _ (18, [(0, vR (some m)), (1, vI (nI p)), (2, vI (nI h.toNatClampNeg))], [], σ, 0, 0)
      refine w_run 1 (S' := (19, [(0, vR (some m)), (1, vI (nI p)), (2, vI (nI h.toNatClampNeg))], [vR (some m)], σ, 0, 0)) rfl ?_
      refine w_get (k := 50) (vR (σ.2.1 500655 m 0)) rfl rfl rfl hM.1 rfl rfl ?_
      refine w_run 5 (S' := (28, [(0, vR (some m)), (1, vI (nI p)), (2, vI (nI h.toNatClampNeg))], [vI ((16 * (nI p)) + (nI h.toNatClampNeg)), vR (σ.2.1 500655 m 0)], σ, 0, 0)) rfl ?_
      rw [show ((16 * (nI p)) + (nI h.toNatClampNeg) : Int32) = nI (16 * p + h.toNatClampNeg) from by simp only [nl0, nl1, nl2, nl3, nl4, nl5, nl6, nl8, nl9, nl10, nl12, nl15, nl16, nl20, nl24, nl32, nl40, nl64, nl65, nl384, pk_mul, nI_add]]
      show WG _ _ _ _ _ _ _ (28, [(0, vR (some m)), (1, vI (nI p)), (2, vI (nI h.toNatClampNeg))], [vI (nI (16 * p + h.toNatClampNeg)), vR (σ.2.1 500655 m 0)], σ, 0, 0)
      refine w_iald (k := 55) rfl ((hM.2 4 (by decide)).1) ((hM.2 4 (by decide)).2) rfl (show vp_in (nI (16 * p + h.toNatClampNeg)) 64 from vp_in_nI (n := 16 * p + h.toNatClampNeg) (by omega) (by decide)) ?_
      show WG _ _ _ _ _ _ _ (29, [(0, vR (some m)), (1, vI (nI p)), (2, vI (nI h.toNatClampNeg))], [vI (σ.1 550000 (A 4) (nI (16 * p + h.toNatClampNeg)).toNatClampNeg)], σ, 0, 0)
      rw [show (nI (16 * p + h.toNatClampNeg) : Int32).toNatClampNeg = 16 * p + h.toNatClampNeg from nI_clamp (n := 16 * p + h.toNatClampNeg) (by omega)]
      show WG _ _ _ _ _ _ _ (29, [(0, vR (some m)), (1, vI (nI p)), (2, vI (nI h.toNatClampNeg))], [vI (σ.1 550000 (A 4) (16 * p + h.toNatClampNeg))], σ, 0, 0)
      refine w_if_le rfl (fun c3 => ?_) (fun c3 => ?_)
      · refine w_run 1 (S' := (47, [(0, vR (some m)), (1, vI (nI p)), (2, vI (nI h.toNatClampNeg))], [vI (-1)], σ, 0, 0)) rfl ?_
        exact w_iret rfl (Or.inl rfl) (by omega) (by omega) (⟨by simp [tgtF, c1, c2, c3], rfl⟩)
      · refine w_run 1 (S' := (33, [(0, vR (some m)), (1, vI (nI p)), (2, vI (nI h.toNatClampNeg))], [vR (some m)], σ, 0, 0)) rfl ?_
        refine w_get (k := 50) (vR (σ.2.1 500554 m 0)) rfl rfl rfl hM.1 rfl rfl ?_
        refine w_run 5 (S' := (42, [(0, vR (some m)), (1, vI (nI p)), (2, vI (nI h.toNatClampNeg))], [vI ((16 * (nI p)) + (nI h.toNatClampNeg)), vR (σ.2.1 500554 m 0)], σ, 0, 0)) rfl ?_
        rw [show ((16 * (nI p)) + (nI h.toNatClampNeg) : Int32) = nI (16 * p + h.toNatClampNeg) from by simp only [nl0, nl1, nl2, nl3, nl4, nl5, nl6, nl8, nl9, nl10, nl12, nl15, nl16, nl20, nl24, nl32, nl40, nl64, nl65, nl384, pk_mul, nI_add]]
        show WG _ _ _ _ _ _ _ (42, [(0, vR (some m)), (1, vI (nI p)), (2, vI (nI h.toNatClampNeg))], [vI (nI (16 * p + h.toNatClampNeg)), vR (σ.2.1 500554 m 0)], σ, 0, 0)
        refine w_iald (k := 54) rfl ((hM.2 3 (by decide)).1) ((hM.2 3 (by decide)).2) rfl (show vp_in (nI (16 * p + h.toNatClampNeg)) 64 from vp_in_nI (n := 16 * p + h.toNatClampNeg) (by omega) (by decide)) ?_
        show WG _ _ _ _ _ _ _ (43, [(0, vR (some m)), (1, vI (nI p)), (2, vI (nI h.toNatClampNeg))], [vI (σ.1 540000 (A 3) (nI (16 * p + h.toNatClampNeg)).toNatClampNeg)], σ, 0, 0)
        rw [show (nI (16 * p + h.toNatClampNeg) : Int32).toNatClampNeg = 16 * p + h.toNatClampNeg from nI_clamp (n := 16 * p + h.toNatClampNeg) (by omega)]
        show WG _ _ _ _ _ _ _ (43, [(0, vR (some m)), (1, vI (nI p)), (2, vI (nI h.toNatClampNeg))], [vI (σ.1 540000 (A 3) (16 * p + h.toNatClampNeg))], σ, 0, 0)
        refine w_run 1 (S' := (47, [(0, vR (some m)), (1, vI (nI p)), (2, vI (nI h.toNatClampNeg))], [vI (σ.1 540000 (A 3) (16 * p + h.toNatClampNeg))], σ, 0, 0)) rfl ?_
        exact w_iret rfl (Or.inl rfl) (by omega) (by omega) (⟨by simp [tgtF, c1, c2, c3], rfl⟩)
  · refine w_run 1 (S' := (5, [(0, vR (some m)), (1, vI (nI p)), (2, vI h)], [vR (some m)], σ, 0, 0)) rfl ?_
    refine w_get (k := 50) (vI (σ.1 500300 m 0)) rfl rfl rfl hM.1 rfl rfl ?_
    exact w_iret rfl (Or.inl rfl) (by omega) (by omega) (⟨by simp [tgtF, c1], rfl⟩)

def itmF (σ : Sg) (m : Nat) (A : Nat → Nat) (p k : Nat) : Int32 := if σ.1 590000 (A 8) (4 * p + k) = 1 then (if hnF (σ.1 530000 (A 2)) p (σ.1 600000 (A 9) (4 * p + k)) = 0 then -1 else 40 * σ.1 520000 (A 1) p + 10 * nI p + σ.1 600000 (A 9) (4 * p + k)) else if σ.1 590000 (A 8) (4 * p + k) = 0 then -1 else tgtF σ m A p (σ.1 600000 (A 9) (4 * p + k))
set_option maxHeartbeats 4000000 in
theorem c_mo_itemNode (l : Launch) (E : FE) (d : Nat) (σ : Sg) (m : Nat) (A : Nat → Nat) (p k dd : Nat) (hM : MO σ m A) (hd : dd + 2 ≤ d) (hp : p < 4) (hk : k < 4) : CT l E d 90 [vR (some m), vI (nI p), vI (nI k)] σ 0 0 (fun r σ' => r = some (vI (itmF σ m A p k)) ∧ σ' = σ) (fun _ _ => False) := by
  refine CTo ok_mo_itemNode (by decide +kernel) rfl rfl rfl ?_
  refine w_run 1 (S' := (1, [(0, vR (some m)), (1, vI (nI p)), (2, vI (nI k))], [vR (some m)], σ, 0, 0)) rfl ?_
  refine w_get (k := 50) (vR (σ.2.1 501059 m 0)) rfl rfl rfl hM.1 rfl rfl ?_
  refine w_run 5 (S' := (9, [(0, vR (some m)), (1, vI (nI p)), (2, vI (nI k))], [vI ((4 * (nI p)) + (nI k)), vR (σ.2.1 501059 m 0)], σ, 0, 0)) rfl ?_
  rw [show ((4 * (nI p)) + (nI k) : Int32) = nI (4 * p + k) from by simp only [nl0, nl1, nl2, nl3, nl4, nl5, nl6, nl8, nl9, nl10, nl12, nl15, nl16, nl20, nl24, nl32, nl40, nl64, nl65, nl384, pk_mul, nI_add]]
  show WG _ _ _ _ _ _ _ (9, [(0, vR (some m)), (1, vI (nI p)), (2, vI (nI k))], [vI (nI (4 * p + k)), vR (σ.2.1 501059 m 0)], σ, 0, 0)
  refine w_iald (k := 59) rfl ((hM.2 8 (by decide)).1) ((hM.2 8 (by decide)).2) rfl (show vp_in (nI (4 * p + k)) 16 from vp_in_nI (n := 4 * p + k) (by omega) (by decide)) ?_
  show WG _ _ _ _ _ _ _ (10, [(0, vR (some m)), (1, vI (nI p)), (2, vI (nI k))], [vI (σ.1 590000 (A 8) (nI (4 * p + k)).toNatClampNeg)], σ, 0, 0)
  rw [show (nI (4 * p + k) : Int32).toNatClampNeg = 4 * p + k from nI_clamp (n := 4 * p + k) (by omega)]
  show WG _ _ _ _ _ _ _ (10, [(0, vR (some m)), (1, vI (nI p)), (2, vI (nI k))], [vI (σ.1 590000 (A 8) (4 * p + k))], σ, 0, 0)
  refine w_run 2 (S' := (12, [(3, vI (σ.1 590000 (A 8) (4 * p + k))), (0, vR (some m)), (1, vI (nI p)), (2, vI (nI k))], [vR (some m)], σ, 0, 0)) rfl ?_
  refine w_get (k := 50) (vR (σ.2.1 501160 m 0)) rfl rfl rfl hM.1 rfl rfl ?_
  refine w_run 5 (S' := (20, [(3, vI (σ.1 590000 (A 8) (4 * p + k))), (0, vR (some m)), (1, vI (nI p)), (2, vI (nI k))], [vI ((4 * (nI p)) + (nI k)), vR (σ.2.1 501160 m 0)], σ, 0, 0)) rfl ?_
  rw [show ((4 * (nI p)) + (nI k) : Int32) = nI (4 * p + k) from by simp only [nl0, nl1, nl2, nl3, nl4, nl5, nl6, nl8, nl9, nl10, nl12, nl15, nl16, nl20, nl24, nl32, nl40, nl64, nl65, nl384, pk_mul, nI_add]]
  show WG _ _ _ _ _ _ _ (20, [(3, vI (σ.1 590000 (A 8) (4 * p + k))), (0, vR (some m)), (1, vI (nI p)), (2, vI (nI k))], [vI (nI (4 * p + k)), vR (σ.2.1 501160 m 0)], σ, 0, 0)
  refine w_iald (k := 60) rfl ((hM.2 9 (by decide)).1) ((hM.2 9 (by decide)).2) rfl (show vp_in (nI (4 * p + k)) 16 from vp_in_nI (n := 4 * p + k) (by omega) (by decide)) ?_
  show WG _ _ _ _ _ _ _ (21, [(3, vI (σ.1 590000 (A 8) (4 * p + k))), (0, vR (some m)), (1, vI (nI p)), (2, vI (nI k))], [vI (σ.1 600000 (A 9) (nI (4 * p + k)).toNatClampNeg)], σ, 0, 0)
  rw [show (nI (4 * p + k) : Int32).toNatClampNeg = 4 * p + k from nI_clamp (n := 4 * p + k) (by omega)]
  show WG _ _ _ _ _ _ _ (21, [(3, vI (σ.1 590000 (A 8) (4 * p + k))), (0, vR (some m)), (1, vI (nI p)), (2, vI (nI k))], [vI (σ.1 600000 (A 9) (4 * p + k))], σ, 0, 0)
  refine w_run 3 (S' := (25, [(4, vI (σ.1 600000 (A 9) (4 * p + k))), (3, vI (σ.1 590000 (A 8) (4 * p + k))), (0, vR (some m)), (1, vI (nI p)), (2, vI (nI k))], [vI 1, vI (σ.1 590000 (A 8) (4 * p + k))], σ, 0, 0)) rfl ?_
  refine w_ic_ne rfl (fun c1 => ?_) (fun c1 => ?_)
  · refine w_run 1 (S' := (51, [(4, vI (σ.1 600000 (A 9) (4 * p + k))), (3, vI (σ.1 590000 (A 8) (4 * p + k))), (0, vR (some m)), (1, vI (nI p)), (2, vI (nI k))], [vI (σ.1 590000 (A 8) (4 * p + k))], σ, 0, 0)) rfl ?_
    refine w_if_ne rfl (fun c2 => ?_) (fun c2 => ?_)
    · refine w_run 1 (S' := (58, [(4, vI (σ.1 600000 (A 9) (4 * p + k))), (3, vI (σ.1 590000 (A 8) (4 * p + k))), (0, vR (some m)), (1, vI (nI p)), (2, vI (nI k))], [vI (σ.1 600000 (A 9) (4 * p + k))], σ, 0, 0)) rfl ?_
      refine w_if_ne rfl (fun c3 => ?_) (fun c3 => ?_)
      · refine w_run 3 (S' := (70, [(4, vI (σ.1 600000 (A 9) (4 * p + k))), (3, vI (σ.1 590000 (A 8) (4 * p + k))), (0, vR (some m)), (1, vI (nI p)), (2, vI (nI k))], [vI (σ.1 600000 (A 9) (4 * p + k)), vI (nI p), vR (some m)], σ, 0, 0)) rfl ?_
        refine w_callV (st := []) [vI (nI p), vI (σ.1 600000 (A 9) (4 * p + k))] rfl ml_10_141 rfl rfl hM.1 rfl rfl rfl (by simp only [RM]; omega) (by simp only [RM]; show 8 + (3 + 11) + _ ≤ _; omega) rfl (by simp only [RM]; omega) (by simp only [RM]; omega) (c_mo_hasHandle l E dd σ m A p (σ.1 600000 (A 9) (4 * p + k)) hM hp) (fun _ _ h => h.elim) ?_
        intro r9 s9 q9
        rw [q9.1, q9.2]
        clear q9 r9 s9
        show WG _ _ _ _ _ _ _ (73, [(4, vI (σ.1 600000 (A 9) (4 * p + k))), (3, vI (σ.1 590000 (A 8) (4 * p + k))), (0, vR (some m)), (1, vI (nI p)), (2, vI (nI k))], [vI (hhF (σ.1 550000 (A 4)) (σ.1 560000 (A 5)) p (σ.1 600000 (A 9) (4 * p + k)))], σ, 0, 0)
        refine w_if_eq rfl (fun c4 => ?_) (fun c4 => ?_)
        · refine w_run 1 (S' := (107, [(4, vI (σ.1 600000 (A 9) (4 * p + k))), (3, vI (σ.1 590000 (A 8) (4 * p + k))), (0, vR (some m)), (1, vI (nI p)), (2, vI (nI k))], [vI (-1)], σ, 0, 0)) rfl ?_
          exact w_iret rfl (Or.inl rfl) (by omega) (by omega) (⟨by simp [itmF, tgtF, c1, c2, c3, c4], rfl⟩)
        · obtain ⟨hx, hx1, hx2⟩ := hhF_n c4
          refine Eq.mp (congrArg (fun x9 => WG _ _ _ _ _ _ _ (76, [(4, vI x9), (3, vI (σ.1 590000 (A 8) (4 * p + k))), (0, vR (some m)), (1, vI (nI p)), (2, vI (nI k))], [], σ, 0, 0)) (Eq.symm hx : nI ((σ.1 600000 (A 9) (4 * p + k)).toNatClampNeg) = σ.1 600000 (A 9) (4 * p + k))) ?_
          show WG _ _ _ _ _ _ _ (76, [(4, vI (nI ((σ.1 600000 (A 9) (4 * p + k)).toNatClampNeg))), (3, vI (σ.1 590000 (A 8) (4 * p + k))), (0, vR (some m)), (1, vI (nI p)), (2, vI (nI k))], [], σ, 0, 0)
          refine w_run 1 (S' := (77, [(4, vI (nI ((σ.1 600000 (A 9) (4 * p + k)).toNatClampNeg))), (3, vI (σ.1 590000 (A 8) (4 * p + k))), (0, vR (some m)), (1, vI (nI p)), (2, vI (nI k))], [vR (some m)], σ, 0, 0)) rfl ?_
          refine w_get (k := 50) (vR (σ.2.1 500655 m 0)) rfl rfl rfl hM.1 rfl rfl ?_
          refine w_run 5 (S' := (87, [(4, vI (nI ((σ.1 600000 (A 9) (4 * p + k)).toNatClampNeg))), (3, vI (σ.1 590000 (A 8) (4 * p + k))), (0, vR (some m)), (1, vI (nI p)), (2, vI (nI k))], [vI ((16 * (nI p)) + (nI ((σ.1 600000 (A 9) (4 * p + k)).toNatClampNeg))), vR (σ.2.1 500655 m 0)], σ, 0, 0)) rfl ?_
          rw [show ((16 * (nI p)) + (nI ((σ.1 600000 (A 9) (4 * p + k)).toNatClampNeg)) : Int32) = nI (16 * p + (σ.1 600000 (A 9) (4 * p + k)).toNatClampNeg) from by simp only [nl0, nl1, nl2, nl3, nl4, nl5, nl6, nl8, nl9, nl10, nl12, nl15, nl16, nl20, nl24, nl32, nl40, nl64, nl65, nl384, pk_mul, nI_add]]
          show WG _ _ _ _ _ _ _ (87, [(4, vI (nI ((σ.1 600000 (A 9) (4 * p + k)).toNatClampNeg))), (3, vI (σ.1 590000 (A 8) (4 * p + k))), (0, vR (some m)), (1, vI (nI p)), (2, vI (nI k))], [vI (nI (16 * p + (σ.1 600000 (A 9) (4 * p + k)).toNatClampNeg)), vR (σ.2.1 500655 m 0)], σ, 0, 0)
          refine w_iald (k := 55) rfl ((hM.2 4 (by decide)).1) ((hM.2 4 (by decide)).2) rfl (show vp_in (nI (16 * p + (σ.1 600000 (A 9) (4 * p + k)).toNatClampNeg)) 64 from vp_in_nI (n := 16 * p + (σ.1 600000 (A 9) (4 * p + k)).toNatClampNeg) (by omega) (by decide)) ?_
          show WG _ _ _ _ _ _ _ (88, [(4, vI (nI ((σ.1 600000 (A 9) (4 * p + k)).toNatClampNeg))), (3, vI (σ.1 590000 (A 8) (4 * p + k))), (0, vR (some m)), (1, vI (nI p)), (2, vI (nI k))], [vI (σ.1 550000 (A 4) (nI (16 * p + (σ.1 600000 (A 9) (4 * p + k)).toNatClampNeg)).toNatClampNeg)], σ, 0, 0)
          rw [show (nI (16 * p + (σ.1 600000 (A 9) (4 * p + k)).toNatClampNeg) : Int32).toNatClampNeg = 16 * p + (σ.1 600000 (A 9) (4 * p + k)).toNatClampNeg from nI_clamp (n := 16 * p + (σ.1 600000 (A 9) (4 * p + k)).toNatClampNeg) (by omega)]
          show WG _ _ _ _ _ _ _ (88, [(4, vI (nI ((σ.1 600000 (A 9) (4 * p + k)).toNatClampNeg))), (3, vI (σ.1 590000 (A 8) (4 * p + k))), (0, vR (some m)), (1, vI (nI p)), (2, vI (nI k))], [vI (σ.1 550000 (A 4) (16 * p + (σ.1 600000 (A 9) (4 * p + k)).toNatClampNeg))], σ, 0, 0)
          refine w_if_le rfl (fun c5 => ?_) (fun c5 => ?_)
          · refine w_run 1 (S' := (107, [(4, vI (nI ((σ.1 600000 (A 9) (4 * p + k)).toNatClampNeg))), (3, vI (σ.1 590000 (A 8) (4 * p + k))), (0, vR (some m)), (1, vI (nI p)), (2, vI (nI k))], [vI (-1)], σ, 0, 0)) rfl ?_
            exact w_iret rfl (Or.inl rfl) (by omega) (by omega) (⟨by simp [itmF, tgtF, c1, c2, c3, c4, c5], rfl⟩)
          · refine w_run 1 (S' := (92, [(4, vI (nI ((σ.1 600000 (A 9) (4 * p + k)).toNatClampNeg))), (3, vI (σ.1 590000 (A 8) (4 * p + k))), (0, vR (some m)), (1, vI (nI p)), (2, vI (nI k))], [vR (some m)], σ, 0, 0)) rfl ?_
            refine w_get (k := 50) (vR (σ.2.1 500554 m 0)) rfl rfl rfl hM.1 rfl rfl ?_
            refine w_run 5 (S' := (102, [(4, vI (nI ((σ.1 600000 (A 9) (4 * p + k)).toNatClampNeg))), (3, vI (σ.1 590000 (A 8) (4 * p + k))), (0, vR (some m)), (1, vI (nI p)), (2, vI (nI k))], [vI ((16 * (nI p)) + (nI ((σ.1 600000 (A 9) (4 * p + k)).toNatClampNeg))), vR (σ.2.1 500554 m 0)], σ, 0, 0)) rfl ?_
            rw [show ((16 * (nI p)) + (nI ((σ.1 600000 (A 9) (4 * p + k)).toNatClampNeg)) : Int32) = nI (16 * p + (σ.1 600000 (A 9) (4 * p + k)).toNatClampNeg) from by simp only [nl0, nl1, nl2, nl3, nl4, nl5, nl6, nl8, nl9, nl10, nl12, nl15, nl16, nl20, nl24, nl32, nl40, nl64, nl65, nl384, pk_mul, nI_add]]
            show WG _ _ _ _ _ _ _ (102, [(4, vI (nI ((σ.1 600000 (A 9) (4 * p + k)).toNatClampNeg))), (3, vI (σ.1 590000 (A 8) (4 * p + k))), (0, vR (some m)), (1, vI (nI p)), (2, vI (nI k))], [vI (nI (16 * p + (σ.1 600000 (A 9) (4 * p + k)).toNatClampNeg)), vR (σ.2.1 500554 m 0)], σ, 0, 0)
            refine w_iald (k := 54) rfl ((hM.2 3 (by decide)).1) ((hM.2 3 (by decide)).2) rfl (show vp_in (nI (16 * p + (σ.1 600000 (A 9) (4 * p + k)).toNatClampNeg)) 64 from vp_in_nI (n := 16 * p + (σ.1 600000 (A 9) (4 * p + k)).toNatClampNeg) (by omega) (by decide)) ?_
            show WG _ _ _ _ _ _ _ (103, [(4, vI (nI ((σ.1 600000 (A 9) (4 * p + k)).toNatClampNeg))), (3, vI (σ.1 590000 (A 8) (4 * p + k))), (0, vR (some m)), (1, vI (nI p)), (2, vI (nI k))], [vI (σ.1 540000 (A 3) (nI (16 * p + (σ.1 600000 (A 9) (4 * p + k)).toNatClampNeg)).toNatClampNeg)], σ, 0, 0)
            rw [show (nI (16 * p + (σ.1 600000 (A 9) (4 * p + k)).toNatClampNeg) : Int32).toNatClampNeg = 16 * p + (σ.1 600000 (A 9) (4 * p + k)).toNatClampNeg from nI_clamp (n := 16 * p + (σ.1 600000 (A 9) (4 * p + k)).toNatClampNeg) (by omega)]
            show WG _ _ _ _ _ _ _ (103, [(4, vI (nI ((σ.1 600000 (A 9) (4 * p + k)).toNatClampNeg))), (3, vI (σ.1 590000 (A 8) (4 * p + k))), (0, vR (some m)), (1, vI (nI p)), (2, vI (nI k))], [vI (σ.1 540000 (A 3) (16 * p + (σ.1 600000 (A 9) (4 * p + k)).toNatClampNeg))], σ, 0, 0)
            refine w_run 1 (S' := (107, [(4, vI (nI ((σ.1 600000 (A 9) (4 * p + k)).toNatClampNeg))), (3, vI (σ.1 590000 (A 8) (4 * p + k))), (0, vR (some m)), (1, vI (nI p)), (2, vI (nI k))], [vI (σ.1 540000 (A 3) (16 * p + (σ.1 600000 (A 9) (4 * p + k)).toNatClampNeg))], σ, 0, 0)) rfl ?_
            exact w_iret rfl (Or.inl rfl) (by omega) (by omega) (⟨by simp [itmF, tgtF, c1, c2, c3, c4, c5], rfl⟩)
      · refine w_run 1 (S' := (62, [(4, vI (σ.1 600000 (A 9) (4 * p + k))), (3, vI (σ.1 590000 (A 8) (4 * p + k))), (0, vR (some m)), (1, vI (nI p)), (2, vI (nI k))], [vR (some m)], σ, 0, 0)) rfl ?_
        refine w_get (k := 50) (vI (σ.1 500300 m 0)) rfl rfl rfl hM.1 rfl rfl ?_
        exact w_iret rfl (Or.inl rfl) (by omega) (by omega) (⟨by simp [itmF, tgtF, c1, c2, c3], rfl⟩)
    · refine w_run 1 (S' := (55, [(4, vI (σ.1 600000 (A 9) (4 * p + k))), (3, vI (σ.1 590000 (A 8) (4 * p + k))), (0, vR (some m)), (1, vI (nI p)), (2, vI (nI k))], [vI (-1)], σ, 0, 0)) rfl ?_
      exact w_iret rfl (Or.inl rfl) (by omega) (by omega) (⟨by simp [itmF, tgtF, c1, c2], rfl⟩)
  · refine w_run 3 (S' := (32, [(4, vI (σ.1 600000 (A 9) (4 * p + k))), (3, vI (σ.1 590000 (A 8) (4 * p + k))), (0, vR (some m)), (1, vI (nI p)), (2, vI (nI k))], [vI (σ.1 600000 (A 9) (4 * p + k)), vI (nI p), vR (some m)], σ, 0, 0)) rfl ?_
    refine w_callV (st := []) [vI (nI p), vI (σ.1 600000 (A 9) (4 * p + k))] rfl ml_10_134 rfl rfl hM.1 rfl rfl rfl (by simp only [RM]; omega) (by simp only [RM]; show 8 + (3 + 11) + _ ≤ _; omega) rfl (by simp only [RM]; omega) (by simp only [RM]; omega) (c_mo_hasNode l E (dd + 1) σ m A p dd (σ.1 600000 (A 9) (4 * p + k)) hM (by omega) hp) (fun _ _ h => h.elim) ?_
    intro r9 s9 q9
    rw [q9.1, q9.2]
    clear q9 r9 s9
    show WG _ _ _ _ _ _ _ (35, [(4, vI (σ.1 600000 (A 9) (4 * p + k))), (3, vI (σ.1 590000 (A 8) (4 * p + k))), (0, vR (some m)), (1, vI (nI p)), (2, vI (nI k))], [vI (hnF (σ.1 530000 (A 2)) p (σ.1 600000 (A 9) (4 * p + k)))], σ, 0, 0)
    refine w_if_eq rfl (fun c6 => ?_) (fun c6 => ?_)
    · refine w_run 1 (S' := (49, [(4, vI (σ.1 600000 (A 9) (4 * p + k))), (3, vI (σ.1 590000 (A 8) (4 * p + k))), (0, vR (some m)), (1, vI (nI p)), (2, vI (nI k))], [vI (-1)], σ, 0, 0)) rfl ?_
      exact w_iret rfl (Or.inl rfl) (by omega) (by omega) (⟨by simp [itmF, tgtF, c1, c6], rfl⟩)
    · refine w_run 3 (S' := (42, [(4, vI (σ.1 600000 (A 9) (4 * p + k))), (3, vI (σ.1 590000 (A 8) (4 * p + k))), (0, vR (some m)), (1, vI (nI p)), (2, vI (nI k))], [vI (σ.1 600000 (A 9) (4 * p + k)), vI (nI p), vR (some m)], σ, 0, 0)) rfl ?_
      refine w_callV (st := []) [vI (nI p), vI (σ.1 600000 (A 9) (4 * p + k))] rfl ml_10_137 rfl rfl hM.1 rfl rfl rfl (by simp only [RM]; omega) (by simp only [RM]; show 8 + (3 + 11) + _ ≤ _; omega) rfl (by simp only [RM]; omega) (by simp only [RM]; omega) (c_mo_node l E dd σ m A p (σ.1 600000 (A 9) (4 * p + k)) hM hp) (fun _ _ h => h.elim) ?_
      intro r9 s9 q9
      rw [q9.1, q9.2]
      clear q9 r9 s9
      show WG _ _ _ _ _ _ _ (45, [(4, vI (σ.1 600000 (A 9) (4 * p + k))), (3, vI (σ.1 590000 (A 8) (4 * p + k))), (0, vR (some m)), (1, vI (nI p)), (2, vI (nI k))], [vI (40 * σ.1 520000 (A 1) p + 10 * nI p + (σ.1 600000 (A 9) (4 * p + k)))], σ, 0, 0)
      refine w_run 1 (S' := (49, [(4, vI (σ.1 600000 (A 9) (4 * p + k))), (3, vI (σ.1 590000 (A 8) (4 * p + k))), (0, vR (some m)), (1, vI (nI p)), (2, vI (nI k))], [vI (40 * σ.1 520000 (A 1) p + 10 * nI p + (σ.1 600000 (A 9) (4 * p + k)))], σ, 0, 0)) rfl ?_
      exact w_iret rfl (Or.inl rfl) (by omega) (by omega) (⟨by simp [itmF, tgtF, c1, c6], rfl⟩)

def badF (σ : Sg) (m : Nat) (A : Nat → Nat) (p : Nat) : Nat → Int32 → Int32 := fun k a => if a = 0 then (if σ.1 590000 (A 8) (4 * p + k) = 0 then 0 else if itmF σ m A p k < 0 then 1 else 0) else 1
set_option maxHeartbeats 4000000 in
theorem lk_mo_isBad (l : Launch) (E : FE) (d : Nat) (σ : Sg) (m : Nat) (A : Nat → Nat) (p n dd : Nat) (hM : MO σ m A) (hd : dd + 3 ≤ d) (hp : p < 4) (hn : n ≤ 4) (hit : σ.1 570000 (A 6) p = nI n) {mc ms cs sl : Nat} {args : Array Value} {XX : State → Prop} {QF : State → List Frame → State → Prop} (hcs : cs ≤ mc) (hsl : sl ≤ ms) : ∀ (k i : Nat), i + k = n → ∀ (a : Int32), (a = 0 ∨ a = 1) → (∀ (a' : Int32), a' = itF (badF σ m A p) k i a → (a' = 0 ∨ a' = 1) → WG l E (RM d mc ms) 91 args XX QF (52, [(2, vI a'), (0, vR (some m)), (1, vI (nI p))], [], σ, cs, sl)) →
    WG l E (RM d mc ms) 91 args XX QF (4, [(3, vI (nI i)), (2, vI a), (0, vR (some m)), (1, vI (nI p))], [], σ, cs, sl) := by
  intro k
  induction k with
  | zero =>
    intro i hi a ha K
    refine w_run 2 (S' := (6, [(3, vI (nI i)), (2, vI a), (0, vR (some m)), (1, vI (nI p))], [vR (some m), vI (nI i)], σ, cs, sl)) rfl ?_
    refine w_get (k := 50) (vR (σ.2.1 500857 m 0)) rfl rfl rfl hM.1 rfl rfl ?_
    refine w_run 1 (S' := (10, [(3, vI (nI i)), (2, vI a), (0, vR (some m)), (1, vI (nI p))], [vI (nI p), vR (σ.2.1 500857 m 0), vI (nI i)], σ, cs, sl)) rfl ?_
    refine w_iald (k := 57) rfl ((hM.2 6 (by decide)).1) ((hM.2 6 (by decide)).2) rfl (show vp_in (nI p) 4 from vp_in_nI (n := p) (by omega) (by decide)) ?_
    show WG _ _ _ _ _ _ _ (11, [(3, vI (nI i)), (2, vI a), (0, vR (some m)), (1, vI (nI p))], [vI (σ.1 570000 (A 6) (nI p).toNatClampNeg), vI (nI i)], σ, cs, sl)
    rw [show (nI p : Int32).toNatClampNeg = p from nI_clamp (n := p) (by omega)]
    show WG _ _ _ _ _ _ _ (11, [(3, vI (nI i)), (2, vI a), (0, vR (some m)), (1, vI (nI p))], [vI (σ.1 570000 (A 6) p), vI (nI i)], σ, cs, sl)
    refine Eq.mp (congrArg (fun x9 => WG _ _ _ _ _ _ _ (11, [(3, vI (nI i)), (2, vI a), (0, vR (some m)), (1, vI (nI p))], [vI x9, vI (nI i)], σ, cs, sl)) (hit.symm : nI n = σ.1 570000 (A 6) p)) ?_
    show WG _ _ _ _ _ _ _ (11, [(3, vI (nI i)), (2, vI a), (0, vR (some m)), (1, vI (nI p))], [vI (nI n), vI (nI i)], σ, cs, sl)
    refine w_ic_ge rfl (fun c1 => ?_) (fun c1 => (absurd ((nI_leI (a := n) (b := i) (by omega) (by omega)).mpr (by omega)) c1))
    have nc1 := (nI_leI (a := n) (b := i) (by omega) (by omega)).mp c1
    refine w_lsP [1, 2, 3] ?_
    show WG _ _ _ _ _ _ _ (52, [(2, vI a), (0, vR (some m)), (1, vI (nI p))], [], σ, cs, sl)
    exact K a rfl ha
  | succ k ih =>
    intro i hi a ha K
    refine w_run 2 (S' := (6, [(3, vI (nI i)), (2, vI a), (0, vR (some m)), (1, vI (nI p))], [vR (some m), vI (nI i)], σ, cs, sl)) rfl ?_
    refine w_get (k := 50) (vR (σ.2.1 500857 m 0)) rfl rfl rfl hM.1 rfl rfl ?_
    refine w_run 1 (S' := (10, [(3, vI (nI i)), (2, vI a), (0, vR (some m)), (1, vI (nI p))], [vI (nI p), vR (σ.2.1 500857 m 0), vI (nI i)], σ, cs, sl)) rfl ?_
    refine w_iald (k := 57) rfl ((hM.2 6 (by decide)).1) ((hM.2 6 (by decide)).2) rfl (show vp_in (nI p) 4 from vp_in_nI (n := p) (by omega) (by decide)) ?_
    show WG _ _ _ _ _ _ _ (11, [(3, vI (nI i)), (2, vI a), (0, vR (some m)), (1, vI (nI p))], [vI (σ.1 570000 (A 6) (nI p).toNatClampNeg), vI (nI i)], σ, cs, sl)
    rw [show (nI p : Int32).toNatClampNeg = p from nI_clamp (n := p) (by omega)]
    show WG _ _ _ _ _ _ _ (11, [(3, vI (nI i)), (2, vI a), (0, vR (some m)), (1, vI (nI p))], [vI (σ.1 570000 (A 6) p), vI (nI i)], σ, cs, sl)
    refine Eq.mp (congrArg (fun x9 => WG _ _ _ _ _ _ _ (11, [(3, vI (nI i)), (2, vI a), (0, vR (some m)), (1, vI (nI p))], [vI x9, vI (nI i)], σ, cs, sl)) (hit.symm : nI n = σ.1 570000 (A 6) p)) ?_
    show WG _ _ _ _ _ _ _ (11, [(3, vI (nI i)), (2, vI a), (0, vR (some m)), (1, vI (nI p))], [vI (nI n), vI (nI i)], σ, cs, sl)
    refine w_ic_ge rfl (fun c1 => (absurd ((nI_leI (a := n) (b := i) (by omega) (by omega)).mp c1) (by omega))) (fun c1 => ?_)
    have nc1 := mt (nI_leI (a := n) (b := i) (by omega) (by omega)).mpr c1
    refine w_run 1 (S' := (15, [(3, vI (nI i)), (2, vI a), (0, vR (some m)), (1, vI (nI p))], [vI a], σ, cs, sl)) rfl ?_
    refine w_if_ne rfl (fun c2 => ?_) (fun c2 => ?_)
    · refine w_run 5 (S' := (4, [(3, vI ((nI i) + 1)), (2, vI 1), (0, vR (some m)), (1, vI (nI p))], [], σ, cs, sl)) rfl ?_
      rw [show ((nI i) + 1 : Int32) = nI (i + 1) from by simp only [nl0, nl1, nl2, nl3, nl4, nl5, nl6, nl8, nl9, nl10, nl12, nl15, nl16, nl20, nl24, nl32, nl40, nl64, nl65, nl384, pk_mul, nI_add]]
      show WG _ _ _ _ _ _ _ (4, [(3, vI (nI (i + 1))), (2, vI 1), (0, vR (some m)), (1, vI (nI p))], [], σ, cs, sl)
      exact ih (i + 1) (by omega) 1 (Or.inr rfl) (fun a' e9 q90 => K a' (by rw [itF_succ, ← (show (1 : Int32) = (badF σ m A p) i a from by simp [badF, c1, c2])]; exact e9) q90)
    · refine w_run 1 (S' := (19, [(3, vI (nI i)), (2, vI a), (0, vR (some m)), (1, vI (nI p))], [vR (some m)], σ, cs, sl)) rfl ?_
      refine w_get (k := 50) (vR (σ.2.1 501059 m 0)) rfl rfl rfl hM.1 rfl rfl ?_
      refine w_run 5 (S' := (27, [(3, vI (nI i)), (2, vI a), (0, vR (some m)), (1, vI (nI p))], [vI ((4 * (nI p)) + (nI i)), vR (σ.2.1 501059 m 0)], σ, cs, sl)) rfl ?_
      rw [show ((4 * (nI p)) + (nI i) : Int32) = nI (4 * p + i) from by simp only [nl0, nl1, nl2, nl3, nl4, nl5, nl6, nl8, nl9, nl10, nl12, nl15, nl16, nl20, nl24, nl32, nl40, nl64, nl65, nl384, pk_mul, nI_add]]
      show WG _ _ _ _ _ _ _ (27, [(3, vI (nI i)), (2, vI a), (0, vR (some m)), (1, vI (nI p))], [vI (nI (4 * p + i)), vR (σ.2.1 501059 m 0)], σ, cs, sl)
      refine w_iald (k := 59) rfl ((hM.2 8 (by decide)).1) ((hM.2 8 (by decide)).2) rfl (show vp_in (nI (4 * p + i)) 16 from vp_in_nI (n := 4 * p + i) (by omega) (by decide)) ?_
      show WG _ _ _ _ _ _ _ (28, [(3, vI (nI i)), (2, vI a), (0, vR (some m)), (1, vI (nI p))], [vI (σ.1 590000 (A 8) (nI (4 * p + i)).toNatClampNeg)], σ, cs, sl)
      rw [show (nI (4 * p + i) : Int32).toNatClampNeg = 4 * p + i from nI_clamp (n := 4 * p + i) (by omega)]
      show WG _ _ _ _ _ _ _ (28, [(3, vI (nI i)), (2, vI a), (0, vR (some m)), (1, vI (nI p))], [vI (σ.1 590000 (A 8) (4 * p + i))], σ, cs, sl)
      refine w_if_eq rfl (fun c3 => ?_) (fun c3 => ?_)
      · refine w_run 4 (S' := (4, [(3, vI ((nI i) + 1)), (2, vI 0), (0, vR (some m)), (1, vI (nI p))], [], σ, cs, sl)) rfl ?_
        rw [show ((nI i) + 1 : Int32) = nI (i + 1) from by simp only [nl0, nl1, nl2, nl3, nl4, nl5, nl6, nl8, nl9, nl10, nl12, nl15, nl16, nl20, nl24, nl32, nl40, nl64, nl65, nl384, pk_mul, nI_add]]
        show WG _ _ _ _ _ _ _ (4, [(3, vI (nI (i + 1))), (2, vI 0), (0, vR (some m)), (1, vI (nI p))], [], σ, cs, sl)
        exact ih (i + 1) (by omega) 0 (Or.inl rfl) (fun a' e9 q90 => K a' (by rw [itF_succ, ← (show (0 : Int32) = (badF σ m A p) i a from by simp [badF, c1, c2, c3])]; exact e9) q90)
      · refine w_run 3 (S' := (34, [(3, vI (nI i)), (2, vI a), (0, vR (some m)), (1, vI (nI p))], [vI (nI i), vI (nI p), vR (some m)], σ, cs, sl)) rfl ?_
        refine w_callV (st := []) [vI (nI p), vI (nI i)] rfl ml_10_144 rfl rfl hM.1 rfl rfl rfl (by simp only [RM]; omega) (by simp only [RM]; show 8 + (5 + 11) + _ ≤ _; omega) rfl (by simp only [RM]; omega) (by simp only [RM]; omega) (c_mo_itemNode l E (dd + 2) σ m A p i dd hM (by omega) hp (by omega)) (fun _ _ h => h.elim) ?_
        intro r9 s9 q9
        rw [q9.1, q9.2]
        clear q9 r9 s9
        show WG _ _ _ _ _ _ _ (37, [(3, vI (nI i)), (2, vI a), (0, vR (some m)), (1, vI (nI p))], [vI (itmF σ m A p i)], σ, cs, sl)
        refine w_if_ge rfl (fun c4 => ?_) (fun c4 => ?_)
        · refine w_run 4 (S' := (4, [(3, vI ((nI i) + 1)), (2, vI 0), (0, vR (some m)), (1, vI (nI p))], [], σ, cs, sl)) rfl ?_
          rw [show ((nI i) + 1 : Int32) = nI (i + 1) from by simp only [nl0, nl1, nl2, nl3, nl4, nl5, nl6, nl8, nl9, nl10, nl12, nl15, nl16, nl20, nl24, nl32, nl40, nl64, nl65, nl384, pk_mul, nI_add]]
          show WG _ _ _ _ _ _ _ (4, [(3, vI (nI (i + 1))), (2, vI 0), (0, vR (some m)), (1, vI (nI p))], [], σ, cs, sl)
          exact ih (i + 1) (by omega) 0 (Or.inl rfl) (fun a' e9 q90 => K a' (by rw [itF_succ, ← (show (0 : Int32) = (badF σ m A p) i a from by simp [badF, c1, c2, c3, c4])]; exact e9) q90)
        · refine w_run 5 (S' := (4, [(3, vI ((nI i) + 1)), (2, vI 1), (0, vR (some m)), (1, vI (nI p))], [], σ, cs, sl)) rfl ?_
          rw [show ((nI i) + 1 : Int32) = nI (i + 1) from by simp only [nl0, nl1, nl2, nl3, nl4, nl5, nl6, nl8, nl9, nl10, nl12, nl15, nl16, nl20, nl24, nl32, nl40, nl64, nl65, nl384, pk_mul, nI_add]]
          show WG _ _ _ _ _ _ _ (4, [(3, vI (nI (i + 1))), (2, vI 1), (0, vR (some m)), (1, vI (nI p))], [], σ, cs, sl)
          exact ih (i + 1) (by omega) 1 (Or.inr rfl) (fun a' e9 q90 => K a' (by rw [itF_succ, ← (show (1 : Int32) = (badF σ m A p) i a from by simp [badF, c1, c2, c3, c4])]; exact e9) q90)
set_option maxHeartbeats 4000000 in
theorem c_mo_isBad (l : Launch) (E : FE) (d : Nat) (σ : Sg) (m : Nat) (A : Nat → Nat) (p n dd : Nat) (hM : MO σ m A) (hd : dd + 3 ≤ d) (hp : p < 4) (hn : n ≤ 4) (hit : σ.1 570000 (A 6) p = nI n) : CT l E d 91 [vR (some m), vI (nI p)] σ 0 0 (fun r σ' => r = some (vI (itF (badF σ m A p) n 0 0)) ∧ σ' = σ) (fun _ _ => False) := by
  refine CTo ok_mo_isBad (by decide +kernel) rfl rfl rfl ?_
  refine w_run 4 (S' := (4, [(3, vI 0), (2, vI 0), (0, vR (some m)), (1, vI (nI p))], [], σ, 0, 0)) rfl ?_
  refine lk_mo_isBad l E d σ m A p n dd hM hd hp hn hit (Nat.le_refl _) (Nat.le_refl _) n 0 (by omega) 0 (Or.inl rfl) (fun a e1 ha => ?_)
  show WG _ _ _ _ _ _ _ (52, [(2, vI a), (0, vR (some m)), (1, vI (nI p))], [], σ, 0, 0)
  refine w_run 1 (S' := (53, [(2, vI a), (0, vR (some m)), (1, vI (nI p))], [vI a], σ, 0, 0)) rfl ?_
  exact w_iret rfl (Or.inr ⟨rfl, ha⟩) (by omega) (by omega) (⟨by rw [e1], rfl⟩)

