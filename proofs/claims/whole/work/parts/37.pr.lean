/-! Proc: its shape; the methods that make nothing new -/
def shc : Nat → Nat × Nat × Nat := fun j => match j with
  | 0 => (20111, 0, 1)
  | 1 => (20208, 0, 2)
  | 2 => (20309, 0, 6)
  | 3 => (20404, 0, 8)
  | 4 => (20520, 0, 12)
  | 5 => (20621, 0, 13)
  | 6 => (20722, 0, 14)
  | 7 => (80012, 2, 3)
  | 8 => (80113, 2, 4)
  | 9 => (80214, 2, 5)
  | 10 => (90015, 6, 7)
  | 11 => (40016, 8, 9)
  | 12 => (40117, 8, 10)
  | 13 => (40218, 8, 11)
  | _ => (0, 0, 0)
/-- a process: 0 itself, 1 its nodes, 2 handles, 3 4 5 theirs, 6 area, 7 begins, 8 draft, 9 10 11 its, 12 inbox, 13 open, 14 watches -/
def SHp (σ : Sg) (P : Nat → Nat) : Prop := σ.2.2.2 (P 0) = 2 ∧ ∀ j, j < 14 → σ.2.1 (shc j).1 (P (shc j).2.1) 0 = some (P (shc j).2.2)
def endF (a1 : Nat) : Nat → Sg → Sg := fun i τ => match τ.2.1 110003 a1 i with
  | none => τ
  | some n => sO (sO (sO (sI τ 30200 n 0 1) 30406 n 0 none) 30506 n 0 none) 110003 a1 i none
theorem endF_sh {τ : Sg} {P : Nat → Nat} (a1 n i j : Nat) (hj : j < 14) : (sO (sO (sO (sI τ 30200 n 0 1) 30406 n 0 none) 30506 n 0 none) 110003 a1 i none).2.1 (shc j).1 (P (shc j).2.1) 0 = τ.2.1 (shc j).1 (P (shc j).2.1) 0 := by
  have h : ∀ j, j < 14 → (shc j).1 ≠ 30406 ∧ (shc j).1 ≠ 30506 ∧ (shc j).1 ≠ 110003 := by decide
  obtain ⟨x1, x2, x3⟩ := h j hj
  simp [sO, sI, x1, x2, x3]
set_option maxHeartbeats 4000000 in
theorem lk_pr_endNodes (l : Launch) (E : FE) (d : Nat) (σ : Sg) (dd : Nat) (P : Nat → Nat) (hd : dd ≤ d) (hd1 : 1 ≤ d) {mc ms cs sl : Nat} {args : Array Value} {XX : State → Prop} {QF : State → List Frame → State → Prop} (hcs : cs ≤ mc) (hsl : sl ≤ ms) : ∀ (k i : Nat), i + k = 10 → ∀ (τ : Sg), SHp τ P → WF τ → (∀ (τ' : Sg), τ' = itF (endF (P 1)) k i τ → SHp τ' P → WF τ' → WG l E (RM d mc ms) 34 args XX QF (39, [(0, vR (some (P 0)))], [], τ', cs, sl)) →
    WG l E (RM d mc ms) 34 args XX QF (2, [(1, vI (nI i)), (0, vR (some (P 0)))], [], τ, cs, sl) := by
  intro k
  induction k with
  | zero =>
    intro i hi τ hP hw K
    refine w_run 2 (S' := (5, [(1, vI (nI i)), (0, vR (some (P 0)))], [vI 10, vI (nI i)], τ, cs, sl)) rfl ?_
    refine w_ic_ge rfl (fun c1 => ?_) (fun c1 => (absurd ((nI_leI (a := 10) (b := i) (by omega) (by omega)).mpr (by omega)) c1))
    have nc1 := (nI_leI (a := 10) (b := i) (by omega) (by omega)).mp c1
    refine w_lsP [1] ?_
    show WG _ _ _ _ _ _ _ (39, [(0, vR (some (P 0)))], [], τ, cs, sl)
    exact K τ rfl hP hw
  | succ k ih =>
    intro i hi τ hP hw K
    refine w_run 2 (S' := (5, [(1, vI (nI i)), (0, vR (some (P 0)))], [vI 10, vI (nI i)], τ, cs, sl)) rfl ?_
    refine w_ic_ge rfl (fun c1 => (absurd ((nI_leI (a := 10) (b := i) (by omega) (by omega)).mp c1) (by omega))) (fun c1 => ?_)
    have nc1 := mt (nI_leI (a := 10) (b := i) (by omega) (by omega)).mpr c1
    refine w_run 1 (S' := (9, [(1, vI (nI i)), (0, vR (some (P 0)))], [vR (some (P 0))], τ, cs, sl)) rfl ?_
    refine w_get (k := 2) (vR (τ.2.1 20111 (P 0) 0)) rfl rfl rfl hP.1 rfl rfl ?_
    refine w_run 1 (S' := (13, [(1, vI (nI i)), (0, vR (some (P 0)))], [vI (nI i), vR (τ.2.1 20111 (P 0) 0)], τ, cs, sl)) rfl ?_
    refine w_aald (k := 11) rfl (hP.2 0 (by decide)) (hw 20111 (P 0) 0 (P 1) (hP.2 0 (by decide)) (by decide)) rfl rfl (show vp_in (nI i) 10 from vp_in_nI (n := i) (by omega) (by decide)) ?_
    show WG _ _ _ _ _ _ _ (14, [(1, vI (nI i)), (0, vR (some (P 0)))], [vR (τ.2.1 110003 (P 1) (nI i).toNatClampNeg)], τ, cs, sl)
    rw [show (nI i : Int32).toNatClampNeg = i from nI_clamp (n := i) (by omega)]
    show WG _ _ _ _ _ _ _ (14, [(1, vI (nI i)), (0, vR (some (P 0)))], [vR (τ.2.1 110003 (P 1) i)], τ, cs, sl)
    refine w_null rfl (fun c2 => ?_) (fun b3 c2 => ?_)
    · refine w_run 2 (S' := (2, [(1, vI ((nI i) + 1)), (0, vR (some (P 0)))], [], τ, cs, sl)) rfl ?_
      rw [show ((nI i) + 1 : Int32) = nI (i + 1) from by simp only [nl0, nl1, nl2, nl3, nl4, nl5, nl6, nl8, nl9, nl10, nl12, nl15, nl16, nl20, nl24, nl32, nl40, nl64, nl65, nl384, pk_mul, nI_add]]
      show WG _ _ _ _ _ _ _ (2, [(1, vI (nI (i + 1))), (0, vR (some (P 0)))], [], τ, cs, sl)
      exact ih (i + 1) (by omega) τ (hP) (hw) (fun τ' e9 q90 q91 => K τ' (by rw [itF_succ, ← (show (τ : Sg) = (endF (P 1)) i τ from by simp [endF, c1, nc1, c2])]; exact e9) q90 q91)
    · refine w_run 1 (S' := (18, [(1, vI (nI i)), (0, vR (some (P 0)))], [vR (some (P 0))], τ, cs, sl)) rfl ?_
      refine w_get (k := 2) (vR (τ.2.1 20111 (P 0) 0)) rfl rfl rfl hP.1 rfl rfl ?_
      refine w_run 1 (S' := (22, [(1, vI (nI i)), (0, vR (some (P 0)))], [vI (nI i), vR (τ.2.1 20111 (P 0) 0)], τ, cs, sl)) rfl ?_
      refine w_aald (k := 11) rfl (hP.2 0 (by decide)) (hw 20111 (P 0) 0 (P 1) (hP.2 0 (by decide)) (by decide)) rfl rfl (show vp_in (nI i) 10 from vp_in_nI (n := i) (by omega) (by decide)) ?_
      show WG _ _ _ _ _ _ _ (23, [(1, vI (nI i)), (0, vR (some (P 0)))], [vR (τ.2.1 110003 (P 1) (nI i).toNatClampNeg)], τ, cs, sl)
      rw [show (nI i : Int32).toNatClampNeg = i from nI_clamp (n := i) (by omega)]
      show WG _ _ _ _ _ _ _ (23, [(1, vI (nI i)), (0, vR (some (P 0)))], [vR (τ.2.1 110003 (P 1) i)], τ, cs, sl)
      refine Eq.mp (congrArg (fun x9 => WG _ _ _ _ _ _ _ (23, [(1, vI (nI i)), (0, vR (some (P 0)))], [vR x9], τ, cs, sl)) (Eq.symm c2 : some b3 = τ.2.1 110003 (P 1) i)) ?_
      show WG _ _ _ _ _ _ _ (23, [(1, vI (nI i)), (0, vR (some (P 0)))], [vR (some b3)], τ, cs, sl)
      refine w_callV (st := []) [] rfl ml_1_62 rfl rfl (hw 110003 (P 1) i b3 c2 (by decide)) rfl rfl rfl (by simp only [RM]; omega) (by simp only [RM]; show 8 + (1 + 11) + _ ≤ _; omega) rfl (by simp only [RM]; omega) (by simp only [RM]; omega) (c_nd_end l E (d - 1) τ b3 (hw 110003 (P 1) i b3 c2 (by decide))) (fun _ _ h => h.elim) ?_
      intro r9 s9 q9
      rw [q9.1, q9.2]
      clear q9 r9 s9
      show WG _ _ _ _ _ _ _ (26, [(1, vI (nI i)), (0, vR (some (P 0)))], [], sO (sO (sI τ 30200 b3 0 1) 30406 b3 0 none) 30506 b3 0 none, cs, sl)
      refine w_run 1 (S' := (27, [(1, vI (nI i)), (0, vR (some (P 0)))], [vR (some (P 0))], sO (sO (sI τ 30200 b3 0 1) 30406 b3 0 none) 30506 b3 0 none, cs, sl)) rfl ?_
      refine w_get (k := 2) (vR (τ.2.1 20111 (P 0) 0)) rfl rfl rfl hP.1 rfl rfl ?_
      refine w_run 2 (S' := (32, [(1, vI (nI i)), (0, vR (some (P 0)))], [vR none, vI (nI i), vR (τ.2.1 20111 (P 0) 0)], sO (sO (sI τ 30200 b3 0 1) 30406 b3 0 none) 30506 b3 0 none, cs, sl)) rfl ?_
      refine w_aastN (k := 11) rfl (hP.2 0 (by decide)) (hw 20111 (P 0) 0 (P 1) (hP.2 0 (by decide)) (by decide)) rfl (by decide) rfl (show vp_in (nI i) 10 from vp_in_nI (n := i) (by omega) (by decide)) ?_
      show WG _ _ _ _ _ _ _ (33, [(1, vI (nI i)), (0, vR (some (P 0)))], [], sO (sO (sO (sI τ 30200 b3 0 1) 30406 b3 0 none) 30506 b3 0 none) 110003 (P 1) ((nI i).toNatClampNeg) none, cs, sl)
      rw [show (nI i : Int32).toNatClampNeg = i from nI_clamp (n := i) (by omega)]
      refine w_run 2 (S' := (2, [(1, vI ((nI i) + 1)), (0, vR (some (P 0)))], [], sO (sO (sO (sI τ 30200 b3 0 1) 30406 b3 0 none) 30506 b3 0 none) 110003 (P 1) i none, cs, sl)) rfl ?_
      rw [show ((nI i) + 1 : Int32) = nI (i + 1) from by simp only [nl0, nl1, nl2, nl3, nl4, nl5, nl6, nl8, nl9, nl10, nl12, nl15, nl16, nl20, nl24, nl32, nl40, nl64, nl65, nl384, pk_mul, nI_add]]
      show WG _ _ _ _ _ _ _ (2, [(1, vI (nI (i + 1))), (0, vR (some (P 0)))], [], sO (sO (sO (sI τ 30200 b3 0 1) 30406 b3 0 none) 30506 b3 0 none) 110003 (P 1) i none, cs, sl)
      exact ih (i + 1) (by omega) (sO (sO (sO (sI τ 30200 b3 0 1) 30406 b3 0 none) 30506 b3 0 none) 110003 (P 1) i none) (⟨hP.1, fun j hj => (endF_sh (τ := τ) (P 1) _ _ j hj).trans (hP.2 j hj)⟩) (WF.oN (WF.oN (WF.oN hw))) (fun τ' e9 q90 q91 => K τ' (by rw [itF_succ, ← (show ((sO (sO (sO (sI τ 30200 b3 0 1) 30406 b3 0 none) 30506 b3 0 none) 110003 (P 1) i none) : Sg) = (endF (P 1)) i τ from by simp [endF, c1, nc1, c2])]; exact e9) q90 q91)
set_option maxHeartbeats 4000000 in
theorem c_pr_endNodes (l : Launch) (E : FE) (d : Nat) (σ : Sg) (P : Nat → Nat) (hd : 1 ≤ d) (hP : SHp σ P) (hw : WF σ) : CT l E d 34 [vR (some (P 0))] σ 0 0 (fun r σ' => r = none ∧ σ' = itF (endF (P 1)) 10 0 σ) (fun _ _ => False) := by
  refine CTo ok_pr_endNodes (by decide +kernel) rfl rfl rfl ?_
  refine w_run 2 (S' := (2, [(1, vI 0), (0, vR (some (P 0)))], [], σ, 0, 0)) rfl ?_
  refine lk_pr_endNodes l E d σ 0 P (Nat.zero_le _) hd (Nat.le_refl _) (Nat.le_refl _) 10 0 (by omega) σ hP hw (fun τ1 e1 _ _ => ?_)
  show WG _ _ _ _ _ _ _ (39, [(0, vR (some (P 0)))], [], τ1, 0, 0)
  exact w_vret rfl rfl (by omega) (by omega) (⟨rfl, e1⟩)

def cnhF (σ : Sg) (P : Nat → Nat) (a3 : Nat) : Nat → Int32 → Int32 := fun k a => match σ.2.1 180003 a3 k with
  | none => a
  | some n => if ownF σ (P 0) n = 0 then (if nOf (σ.2.1 120003 (P 3)) (some n) = -1 then (if hnb (σ.2.1 180003 a3) (some n) k 0 = 0 then a + 1 else a) else a) else a
set_option maxHeartbeats 4000000 in
theorem lk_pr_cnh (l : Launch) (E : FE) (d : Nat) (σ : Sg) (P : Nat → Nat) (s a3 n : Nat) (hd : 1 ≤ d) (hP : SHp σ P) (hw : WF σ) (hs : σ.2.2.2 s = 4) (h3 : σ.2.1 40218 s 0 = some a3) (hn : n ≤ 4) (hit : σ.1 40300 s 0 = nI n) {mc ms cs sl : Nat} {args : Array Value} {XX : State → Prop} {QF : State → List Frame → State → Prop} (hcs : cs ≤ mc) (hsl : sl ≤ ms) : ∀ (k i : Nat), i + k = n → ∀ (a : Int32), (∀ (a' : Int32), a' = itF (cnhF σ P a3) k i a → WG l E (RM d mc ms) 37 args XX QF (64, [(2, vI a'), (0, vR (some (P 0))), (1, vR (some s))], [], σ, cs, sl)) →
    WG l E (RM d mc ms) 37 args XX QF (4, [(3, vI (nI i)), (2, vI a), (0, vR (some (P 0))), (1, vR (some s))], [], σ, cs, sl) := by
  intro k
  induction k with
  | zero =>
    intro i hi a K
    refine w_run 2 (S' := (6, [(3, vI (nI i)), (2, vI a), (0, vR (some (P 0))), (1, vR (some s))], [vR (some s), vI (nI i)], σ, cs, sl)) rfl ?_
    refine w_get (k := 4) (vI (σ.1 40300 s 0)) rfl rfl rfl hs rfl rfl ?_
    refine Eq.mp (congrArg (fun x9 => WG _ _ _ _ _ _ _ (9, [(3, vI (nI i)), (2, vI a), (0, vR (some (P 0))), (1, vR (some s))], [vI x9, vI (nI i)], σ, cs, sl)) (hit.symm : nI n = σ.1 40300 s 0)) ?_
    show WG _ _ _ _ _ _ _ (9, [(3, vI (nI i)), (2, vI a), (0, vR (some (P 0))), (1, vR (some s))], [vI (nI n), vI (nI i)], σ, cs, sl)
    refine w_ic_ge rfl (fun c1 => ?_) (fun c1 => (absurd ((nI_leI (a := n) (b := i) (by omega) (by omega)).mpr (by omega)) c1))
    have nc1 := (nI_leI (a := n) (b := i) (by omega) (by omega)).mp c1
    refine w_lsP [1, 2, 3] ?_
    show WG _ _ _ _ _ _ _ (64, [(2, vI a), (0, vR (some (P 0))), (1, vR (some s))], [], σ, cs, sl)
    exact K a rfl
  | succ k ih =>
    intro i hi a K
    refine w_run 2 (S' := (6, [(3, vI (nI i)), (2, vI a), (0, vR (some (P 0))), (1, vR (some s))], [vR (some s), vI (nI i)], σ, cs, sl)) rfl ?_
    refine w_get (k := 4) (vI (σ.1 40300 s 0)) rfl rfl rfl hs rfl rfl ?_
    refine Eq.mp (congrArg (fun x9 => WG _ _ _ _ _ _ _ (9, [(3, vI (nI i)), (2, vI a), (0, vR (some (P 0))), (1, vR (some s))], [vI x9, vI (nI i)], σ, cs, sl)) (hit.symm : nI n = σ.1 40300 s 0)) ?_
    show WG _ _ _ _ _ _ _ (9, [(3, vI (nI i)), (2, vI a), (0, vR (some (P 0))), (1, vR (some s))], [vI (nI n), vI (nI i)], σ, cs, sl)
    refine w_ic_ge rfl (fun c1 => (absurd ((nI_leI (a := n) (b := i) (by omega) (by omega)).mp c1) (by omega))) (fun c1 => ?_)
    have nc1 := mt (nI_leI (a := n) (b := i) (by omega) (by omega)).mpr c1
    refine w_run 1 (S' := (13, [(3, vI (nI i)), (2, vI a), (0, vR (some (P 0))), (1, vR (some s))], [vR (some s)], σ, cs, sl)) rfl ?_
    refine w_get (k := 4) (vR (σ.2.1 40218 s 0)) rfl rfl rfl hs rfl rfl ?_
    refine w_run 1 (S' := (17, [(3, vI (nI i)), (2, vI a), (0, vR (some (P 0))), (1, vR (some s))], [vI (nI i), vR (σ.2.1 40218 s 0)], σ, cs, sl)) rfl ?_
    refine w_aald (k := 18) rfl h3 (hw 40218 s 0 a3 h3 (by decide)) rfl rfl (show vp_in (nI i) 4 from vp_in_nI (n := i) (by omega) (by decide)) ?_
    show WG _ _ _ _ _ _ _ (18, [(3, vI (nI i)), (2, vI a), (0, vR (some (P 0))), (1, vR (some s))], [vR (σ.2.1 180003 a3 (nI i).toNatClampNeg)], σ, cs, sl)
    rw [show (nI i : Int32).toNatClampNeg = i from nI_clamp (n := i) (by omega)]
    show WG _ _ _ _ _ _ _ (18, [(3, vI (nI i)), (2, vI a), (0, vR (some (P 0))), (1, vR (some s))], [vR (σ.2.1 180003 a3 i)], σ, cs, sl)
    refine w_run 2 (S' := (22, [(4, vR (σ.2.1 180003 a3 i)), (3, vI (nI i)), (2, vI a), (0, vR (some (P 0))), (1, vR (some s))], [vR (σ.2.1 180003 a3 i)], σ, cs, sl)) rfl ?_
    refine w_null rfl (fun c2 => ?_) (fun b3 c2 => ?_)
    · refine w_run 2 (S' := (4, [(3, vI ((nI i) + 1)), (4, vR (σ.2.1 180003 a3 i)), (2, vI a), (0, vR (some (P 0))), (1, vR (some s))], [], σ, cs, sl)) rfl ?_
      rw [show ((nI i) + 1 : Int32) = nI (i + 1) from by simp only [nl0, nl1, nl2, nl3, nl4, nl5, nl6, nl8, nl9, nl10, nl12, nl15, nl16, nl20, nl24, nl32, nl40, nl64, nl65, nl384, pk_mul, nI_add]]
      show WG _ _ _ _ _ _ _ (4, [(3, vI (nI (i + 1))), (4, vR (σ.2.1 180003 a3 i)), (2, vI a), (0, vR (some (P 0))), (1, vR (some s))], [], σ, cs, sl)
      refine w_lsP [0, 2, 3, 4] ?_
      show WG _ _ _ _ _ _ _ (4, [(3, vI (nI (i + 1))), (2, vI a), (0, vR (some (P 0))), (1, vR (some s))], [], σ, cs, sl)
      exact ih (i + 1) (by omega) a (fun a' e9 => K a' (by rw [itF_succ, ← (show (a : Int32) = (cnhF σ P a3) i a from by simp [cnhF, c1, nc1, c2])]; exact e9))
    · refine w_run 2 (S' := (28, [(4, vR (σ.2.1 180003 a3 i)), (3, vI (nI i)), (2, vI a), (0, vR (some (P 0))), (1, vR (some s))], [vR (σ.2.1 180003 a3 i), vR (some (P 0))], σ, cs, sl)) rfl ?_
      refine Eq.mp (congrArg (fun x9 => WG _ _ _ _ _ _ _ (28, [(4, vR (σ.2.1 180003 a3 i)), (3, vI (nI i)), (2, vI a), (0, vR (some (P 0))), (1, vR (some s))], [vR x9, vR (some (P 0))], σ, cs, sl)) (Eq.symm c2 : some b3 = σ.2.1 180003 a3 i)) ?_
      show WG _ _ _ _ _ _ _ (28, [(4, vR (σ.2.1 180003 a3 i)), (3, vI (nI i)), (2, vI a), (0, vR (some (P 0))), (1, vR (some s))], [vR (some b3), vR (some (P 0))], σ, cs, sl)
      refine w_callV (st := []) [vR (some b3)] rfl ml_1_109 rfl rfl hP.1 rfl rfl rfl (by simp only [RM]; omega) (by simp only [RM]; show 8 + (2 + 11) + _ ≤ _; omega) rfl (by simp only [RM]; omega) (by simp only [RM]; omega) (c_pr_owns l E (d - 1) σ (P 0) b3 hP.1 (hw 180003 a3 i b3 c2 (by decide))) (fun _ _ h => h.elim) ?_
      intro r9 s9 q9
      rw [q9.1, q9.2]
      clear q9 r9 s9
      show WG _ _ _ _ _ _ _ (31, [(4, vR (σ.2.1 180003 a3 i)), (3, vI (nI i)), (2, vI a), (0, vR (some (P 0))), (1, vR (some s))], [vI (ownF σ (P 0) b3)], σ, cs, sl)
      refine w_if_ne rfl (fun c4 => ?_) (fun c4 => ?_)
      · refine w_run 2 (S' := (4, [(3, vI ((nI i) + 1)), (4, vR (σ.2.1 180003 a3 i)), (2, vI a), (0, vR (some (P 0))), (1, vR (some s))], [], σ, cs, sl)) rfl ?_
        rw [show ((nI i) + 1 : Int32) = nI (i + 1) from by simp only [nl0, nl1, nl2, nl3, nl4, nl5, nl6, nl8, nl9, nl10, nl12, nl15, nl16, nl20, nl24, nl32, nl40, nl64, nl65, nl384, pk_mul, nI_add]]
        show WG _ _ _ _ _ _ _ (4, [(3, vI (nI (i + 1))), (4, vR (σ.2.1 180003 a3 i)), (2, vI a), (0, vR (some (P 0))), (1, vR (some s))], [], σ, cs, sl)
        refine w_lsP [0, 2, 3, 4] ?_
        show WG _ _ _ _ _ _ _ (4, [(3, vI (nI (i + 1))), (2, vI a), (0, vR (some (P 0))), (1, vR (some s))], [], σ, cs, sl)
        exact ih (i + 1) (by omega) a (fun a' e9 => K a' (by rw [itF_succ, ← (show (a : Int32) = (cnhF σ P a3) i a from by simp [cnhF, c1, nc1, c2, c4])]; exact e9))
      · refine w_run 1 (S' := (35, [(4, vR (σ.2.1 180003 a3 i)), (3, vI (nI i)), (2, vI a), (0, vR (some (P 0))), (1, vR (some s))], [vR (some (P 0))], σ, cs, sl)) rfl ?_
        refine w_get (k := 2) (vR (σ.2.1 20208 (P 0) 0)) rfl rfl rfl hP.1 rfl rfl ?_
        refine w_run 1 (S' := (40, [(4, vR (σ.2.1 180003 a3 i)), (3, vI (nI i)), (2, vI a), (0, vR (some (P 0))), (1, vR (some s))], [vR (σ.2.1 180003 a3 i), vR (σ.2.1 20208 (P 0) 0)], σ, cs, sl)) rfl ?_
        refine Eq.mp (congrArg (fun x9 => WG _ _ _ _ _ _ _ (40, [(4, vR (σ.2.1 180003 a3 i)), (3, vI (nI i)), (2, vI a), (0, vR (some (P 0))), (1, vR (some s))], [vR x9, vR (σ.2.1 20208 (P 0) 0)], σ, cs, sl)) (Eq.symm c2 : some b3 = σ.2.1 180003 a3 i)) ?_
        show WG _ _ _ _ _ _ _ (40, [(4, vR (σ.2.1 180003 a3 i)), (3, vI (nI i)), (2, vI a), (0, vR (some (P 0))), (1, vR (some s))], [vR (some b3), vR (σ.2.1 20208 (P 0) 0)], σ, cs, sl)
        refine Eq.mp (congrArg (fun x9 => WG _ _ _ _ _ _ _ (40, [(4, vR (σ.2.1 180003 a3 i)), (3, vI (nI i)), (2, vI a), (0, vR (some (P 0))), (1, vR (some s))], [vR (some b3), vR x9], σ, cs, sl)) (Eq.symm (hP.2 1 (by decide)) : some (P 2) = σ.2.1 20208 (P 0) 0)) ?_
        show WG _ _ _ _ _ _ _ (40, [(4, vR (σ.2.1 180003 a3 i)), (3, vI (nI i)), (2, vI a), (0, vR (some (P 0))), (1, vR (some s))], [vR (some b3), vR (some (P 2))], σ, cs, sl)
        refine w_callV (st := []) [vR (some b3)] rfl ml_1_113 rfl rfl (hw 20208 (P 0) 0 (P 2) (hP.2 1 (by decide)) (by decide)) rfl rfl rfl (by simp only [RM]; omega) (by simp only [RM]; show 8 + (3 + 11) + _ ≤ _; omega) rfl (by simp only [RM]; omega) (by simp only [RM]; omega) (c_hs_numberOf l E (d - 1) σ (P 2) (P 3) (some b3) ((hw 20208 (P 0) 0 (P 2) (hP.2 1 (by decide)) (by decide))) (hP.2 7 (by decide)) hw) (fun _ _ h => h.elim) ?_
        intro r9 s9 q9
        rw [q9.1, q9.2]
        clear q9 r9 s9
        show WG _ _ _ _ _ _ _ (43, [(4, vR (σ.2.1 180003 a3 i)), (3, vI (nI i)), (2, vI a), (0, vR (some (P 0))), (1, vR (some s))], [vI (nOf (σ.2.1 120003 (P 3)) (some b3))], σ, cs, sl)
        refine w_run 1 (S' := (44, [(4, vR (σ.2.1 180003 a3 i)), (3, vI (nI i)), (2, vI a), (0, vR (some (P 0))), (1, vR (some s))], [vI (-1), vI (nOf (σ.2.1 120003 (P 3)) (some b3))], σ, cs, sl)) rfl ?_
        refine w_ic_ne rfl (fun c5 => ?_) (fun c5 => ?_)
        · refine w_run 2 (S' := (4, [(3, vI ((nI i) + 1)), (4, vR (σ.2.1 180003 a3 i)), (2, vI a), (0, vR (some (P 0))), (1, vR (some s))], [], σ, cs, sl)) rfl ?_
          rw [show ((nI i) + 1 : Int32) = nI (i + 1) from by simp only [nl0, nl1, nl2, nl3, nl4, nl5, nl6, nl8, nl9, nl10, nl12, nl15, nl16, nl20, nl24, nl32, nl40, nl64, nl65, nl384, pk_mul, nI_add]]
          show WG _ _ _ _ _ _ _ (4, [(3, vI (nI (i + 1))), (4, vR (σ.2.1 180003 a3 i)), (2, vI a), (0, vR (some (P 0))), (1, vR (some s))], [], σ, cs, sl)
          refine w_lsP [0, 2, 3, 4] ?_
          show WG _ _ _ _ _ _ _ (4, [(3, vI (nI (i + 1))), (2, vI a), (0, vR (some (P 0))), (1, vR (some s))], [], σ, cs, sl)
          exact ih (i + 1) (by omega) a (fun a' e9 => K a' (by rw [itF_succ, ← (show (a : Int32) = (cnhF σ P a3) i a from by simp [cnhF, c1, nc1, c2, c4, c5])]; exact e9))
        · refine w_run 2 (S' := (49, [(4, vR (σ.2.1 180003 a3 i)), (3, vI (nI i)), (2, vI a), (0, vR (some (P 0))), (1, vR (some s))], [vI (nI i), vR (some s)], σ, cs, sl)) rfl ?_
          refine w_callV (st := []) [vI (nI i)] rfl ml_1_117 rfl rfl hs rfl rfl rfl (by simp only [RM]; omega) (by simp only [RM]; show 8 + (3 + 11) + _ ≤ _; omega) rfl (by simp only [RM]; omega) (by simp only [RM]; omega) (c_dr_hasNodeBefore l E (d - 1) σ s a3 i (by omega) hs h3 hw) (fun _ _ h => h.elim) ?_
          intro r9 s9 q9
          rw [q9.1, q9.2]
          clear q9 r9 s9
          show WG _ _ _ _ _ _ _ (52, [(4, vR (σ.2.1 180003 a3 i)), (3, vI (nI i)), (2, vI a), (0, vR (some (P 0))), (1, vR (some s))], [vI (hnb (σ.2.1 180003 a3) (σ.2.1 180003 a3 i) i 0)], σ, cs, sl)
          refine w_if_ne rfl (fun c6 => ?_) (fun c6 => ?_)
          · rw [c2] at c6
            refine w_run 2 (S' := (4, [(3, vI ((nI i) + 1)), (4, vR (σ.2.1 180003 a3 i)), (2, vI a), (0, vR (some (P 0))), (1, vR (some s))], [], σ, cs, sl)) rfl ?_
            rw [show ((nI i) + 1 : Int32) = nI (i + 1) from by simp only [nl0, nl1, nl2, nl3, nl4, nl5, nl6, nl8, nl9, nl10, nl12, nl15, nl16, nl20, nl24, nl32, nl40, nl64, nl65, nl384, pk_mul, nI_add]]
            show WG _ _ _ _ _ _ _ (4, [(3, vI (nI (i + 1))), (4, vR (σ.2.1 180003 a3 i)), (2, vI a), (0, vR (some (P 0))), (1, vR (some s))], [], σ, cs, sl)
            refine w_lsP [0, 2, 3, 4] ?_
            show WG _ _ _ _ _ _ _ (4, [(3, vI (nI (i + 1))), (2, vI a), (0, vR (some (P 0))), (1, vR (some s))], [], σ, cs, sl)
            exact ih (i + 1) (by omega) a (fun a' e9 => K a' (by rw [itF_succ, ← (show (a : Int32) = (cnhF σ P a3) i a from by simp [cnhF, c1, nc1, c2, c4, c5, c6])]; exact e9))
          · rw [c2] at c6
            refine w_run 3 (S' := (4, [(3, vI ((nI i) + 1)), (2, vI (a + 1)), (4, vR (σ.2.1 180003 a3 i)), (0, vR (some (P 0))), (1, vR (some s))], [], σ, cs, sl)) rfl ?_
            rw [show ((nI i) + 1 : Int32) = nI (i + 1) from by simp only [nl0, nl1, nl2, nl3, nl4, nl5, nl6, nl8, nl9, nl10, nl12, nl15, nl16, nl20, nl24, nl32, nl40, nl64, nl65, nl384, pk_mul, nI_add]]
            show WG _ _ _ _ _ _ _ (4, [(3, vI (nI (i + 1))), (2, vI (a + 1)), (4, vR (σ.2.1 180003 a3 i)), (0, vR (some (P 0))), (1, vR (some s))], [], σ, cs, sl)
            refine w_lsP [0, 1, 3, 4] ?_
            show WG _ _ _ _ _ _ _ (4, [(3, vI (nI (i + 1))), (2, vI (a + 1)), (0, vR (some (P 0))), (1, vR (some s))], [], σ, cs, sl)
            exact ih (i + 1) (by omega) (a + 1) (fun a' e9 => K a' (by rw [itF_succ, ← (show ((a + 1) : Int32) = (cnhF σ P a3) i a from by simp [cnhF, c1, nc1, c2, c4, c5, c6])]; exact e9))
set_option maxHeartbeats 4000000 in
theorem c_pr_countNewHandles (l : Launch) (E : FE) (d : Nat) (σ : Sg) (P : Nat → Nat) (s a3 n : Nat) (hd : 1 ≤ d) (hP : SHp σ P) (hw : WF σ) (hs : σ.2.2.2 s = 4) (h3 : σ.2.1 40218 s 0 = some a3) (hn : n ≤ 4) (hit : σ.1 40300 s 0 = nI n) : CT l E d 37 [vR (some (P 0)), vR (some s)] σ 0 0 (fun r σ' => r = some (vI (itF (cnhF σ P a3) n 0 0)) ∧ σ' = σ) (fun _ _ => False) := by
  refine CTo ok_pr_countNewHandles (by decide +kernel) rfl rfl rfl ?_
  refine w_run 4 (S' := (4, [(3, vI 0), (2, vI 0), (0, vR (some (P 0))), (1, vR (some s))], [], σ, 0, 0)) rfl ?_
  refine lk_pr_cnh l E d σ P s a3 n hd hP hw hs h3 hn hit (Nat.le_refl _) (Nat.le_refl _) n 0 (by omega) 0 (fun a e1 => ?_)
  show WG _ _ _ _ _ _ _ (64, [(2, vI a), (0, vR (some (P 0))), (1, vR (some s))], [], σ, 0, 0)
  refine w_run 1 (S' := (65, [(2, vI a), (0, vR (some (P 0))), (1, vR (some s))], [vI a], σ, 0, 0)) rfl ?_
  exact w_iret rfl (Or.inl rfl) (by omega) (by omega) (⟨by rw [e1], rfl⟩)

def hrfF (σ : Sg) (P : Nat → Nat) (s a3 n : Nat) (k : Int32) : Int32 := if bgR σ (P 7) (celF σ s) = -1 then 0 else if k = 2 then (if σ.1 90200 (P 6) 0 + celF σ s ≤ 32 then (if σ.1 80300 (P 2) 0 + itF (cnhF σ P a3) n 0 0 > 15 then 0 else 1) else 0) else (if σ.1 80300 (P 2) 0 + itF (cnhF σ P a3) n 0 0 > 15 then 0 else 1)
set_option maxHeartbeats 4000000 in
theorem c_pr_hasRoomFor (l : Launch) (E : FE) (d : Nat) (σ : Sg) (P : Nat → Nat) (s a3 n : Nat) (k : Int32) (hd : 2 ≤ d) (hP : SHp σ P) (hw : WF σ) (hs : σ.2.2.2 s = 4) (h3 : σ.2.1 40218 s 0 = some a3) (hn : n ≤ 4) (hit : σ.1 40300 s 0 = nI n) : CT l E d 36 [vR (some (P 0)), vR (some s), vI k] σ 0 0 (fun r σ' => r = some (vI (hrfF σ P s a3 n k)) ∧ σ' = σ) (fun _ _ => False) := by
  refine CTo ok_pr_hasRoomFor (by decide +kernel) rfl rfl rfl ?_
  refine w_run 1 (S' := (1, [(0, vR (some (P 0))), (1, vR (some s)), (2, vI k)], [vR (some s)], σ, 0, 0)) rfl ?_
  refine w_callV (st := []) [] rfl ml_1_88 rfl rfl hs rfl rfl rfl (by simp only [RM]; omega) (by simp only [RM]; show 8 + (1 + 11) + _ ≤ _; omega) rfl (by simp only [RM]; omega) (by simp only [RM]; omega) (c_dr_cells l E (d - 1) σ s (by omega) hs) (fun _ _ h => h.elim) ?_
  intro r9 s9 q9
  rw [q9.1, q9.2]
  clear q9 r9 s9
  show WG _ _ _ _ _ _ _ (4, [(0, vR (some (P 0))), (1, vR (some s)), (2, vI k)], [vI (celF σ s)], σ, 0, 0)
  refine w_run 2 (S' := (6, [(3, vI (celF σ s)), (0, vR (some (P 0))), (1, vR (some s)), (2, vI k)], [vR (some (P 0))], σ, 0, 0)) rfl ?_
  refine w_get (k := 2) (vR (σ.2.1 20309 (P 0) 0)) rfl rfl rfl hP.1 rfl rfl ?_
  refine w_run 1 (S' := (10, [(3, vI (celF σ s)), (0, vR (some (P 0))), (1, vR (some s)), (2, vI k)], [vI (celF σ s), vR (σ.2.1 20309 (P 0) 0)], σ, 0, 0)) rfl ?_
  refine Eq.mp (congrArg (fun x9 => WG _ _ _ _ _ _ _ (10, [(3, vI (celF σ s)), (0, vR (some (P 0))), (1, vR (some s)), (2, vI k)], [vI (celF σ s), vR x9], σ, 0, 0)) (Eq.symm (hP.2 2 (by decide)) : some (P 6) = σ.2.1 20309 (P 0) 0)) ?_
  show WG _ _ _ _ _ _ _ (10, [(3, vI (celF σ s)), (0, vR (some (P 0))), (1, vR (some s)), (2, vI k)], [vI (celF σ s), vR (some (P 6))], σ, 0, 0)
  refine w_callV (st := []) [vI (celF σ s)] rfl ml_1_91 rfl rfl (hw 20309 (P 0) 0 (P 6) (hP.2 2 (by decide)) (by decide)) rfl rfl rfl (by simp only [RM]; omega) (by simp only [RM]; show 8 + (8 + 11) + _ ≤ _; omega) rfl (by simp only [RM]; omega) (by simp only [RM]; omega) (c_ar_bestGap l E (d - 1) σ (P 6) (P 7) (celF σ s) ((hw 20309 (P 0) 0 (P 6) (hP.2 2 (by decide)) (by decide))) (hP.2 10 (by decide)) hw) (fun _ _ h => h.elim) ?_
  intro r9 s9 q9
  rw [q9.1, q9.2]
  clear q9 r9 s9
  show WG _ _ _ _ _ _ _ (13, [(3, vI (celF σ s)), (0, vR (some (P 0))), (1, vR (some s)), (2, vI k)], [vI (bgR σ (P 7) (celF σ s))], σ, 0, 0)
  refine w_run 1 (S' := (14, [(3, vI (celF σ s)), (0, vR (some (P 0))), (1, vR (some s)), (2, vI k)], [vI (-1), vI (bgR σ (P 7) (celF σ s))], σ, 0, 0)) rfl ?_
  refine w_ic_ne rfl (fun c1 => ?_) (fun c1 => ?_)
  · refine w_run 2 (S' := (21, [(3, vI (celF σ s)), (0, vR (some (P 0))), (1, vR (some s)), (2, vI k)], [vI 2, vI k], σ, 0, 0)) rfl ?_
    refine w_ic_ne rfl (fun c2 => ?_) (fun c2 => ?_)
    · refine w_run 1 (S' := (41, [(3, vI (celF σ s)), (0, vR (some (P 0))), (1, vR (some s)), (2, vI k)], [vR (some (P 0))], σ, 0, 0)) rfl ?_
      refine w_get (k := 2) (vR (σ.2.1 20208 (P 0) 0)) rfl rfl rfl hP.1 rfl rfl ?_
      refine w_get (k := 8) (vI (σ.1 80300 (P 2) 0)) rfl rfl (hP.2 1 (by decide)) (hw 20208 (P 0) 0 (P 2) (hP.2 1 (by decide)) (by decide)) rfl rfl ?_
      refine w_run 2 (S' := (49, [(3, vI (celF σ s)), (0, vR (some (P 0))), (1, vR (some s)), (2, vI k)], [vR (some s), vR (some (P 0)), vI (σ.1 80300 (P 2) 0)], σ, 0, 0)) rfl ?_
      refine w_callV (st := [vI (σ.1 80300 (P 2) 0)]) [vR (some s)] rfl ml_1_101 rfl rfl hP.1 rfl rfl rfl (by simp only [RM]; omega) (by simp only [RM]; show 8 + (5 + 11) + _ ≤ _; omega) rfl (by simp only [RM]; omega) (by simp only [RM]; omega) (c_pr_countNewHandles l E (d - 1) σ P s a3 n (by omega) hP hw hs h3 hn hit) (fun _ _ h => h.elim) ?_
      intro r9 s9 q9
      rw [q9.1, q9.2]
      clear q9 r9 s9
      show WG _ _ _ _ _ _ _ (52, [(3, vI (celF σ s)), (0, vR (some (P 0))), (1, vR (some s)), (2, vI k)], [vI (itF (cnhF σ P a3) n 0 0), vI (σ.1 80300 (P 2) 0)], σ, 0, 0)
      refine w_run 2 (S' := (55, [(3, vI (celF σ s)), (0, vR (some (P 0))), (1, vR (some s)), (2, vI k)], [vI 15, vI ((σ.1 80300 (P 2) 0) + (itF (cnhF σ P a3) n 0 0))], σ, 0, 0)) rfl ?_
      refine w_ic_gt rfl (fun c3 => ?_) (fun c3 => ?_)
      · refine w_run 1 (S' := (63, [(3, vI (celF σ s)), (0, vR (some (P 0))), (1, vR (some s)), (2, vI k)], [vI 0], σ, 0, 0)) rfl ?_
        exact w_iret rfl (Or.inr ⟨rfl, Or.inl rfl⟩) (by omega) (by omega) (⟨by simp only [hrfF, if_neg c1, if_neg c2, if_pos c3], rfl⟩)
      · refine w_run 2 (S' := (63, [(3, vI (celF σ s)), (0, vR (some (P 0))), (1, vR (some s)), (2, vI k)], [vI 1], σ, 0, 0)) rfl ?_
        exact w_iret rfl (Or.inr ⟨rfl, Or.inr rfl⟩) (by omega) (by omega) (⟨by simp only [hrfF, if_neg c1, if_neg c2, if_neg c3], rfl⟩)
    · refine w_run 1 (S' := (25, [(3, vI (celF σ s)), (0, vR (some (P 0))), (1, vR (some s)), (2, vI k)], [vR (some (P 0))], σ, 0, 0)) rfl ?_
      refine w_get (k := 2) (vR (σ.2.1 20309 (P 0) 0)) rfl rfl rfl hP.1 rfl rfl ?_
      refine w_get (k := 9) (vI (σ.1 90200 (P 6) 0)) rfl rfl (hP.2 2 (by decide)) (hw 20309 (P 0) 0 (P 6) (hP.2 2 (by decide)) (by decide)) rfl rfl ?_
      refine w_run 3 (S' := (35, [(3, vI (celF σ s)), (0, vR (some (P 0))), (1, vR (some s)), (2, vI k)], [vI 32, vI ((σ.1 90200 (P 6) 0) + (celF σ s))], σ, 0, 0)) rfl ?_
      refine w_ic_le rfl (fun c4 => ?_) (fun c4 => ?_)
      · refine w_run 1 (S' := (41, [(3, vI (celF σ s)), (0, vR (some (P 0))), (1, vR (some s)), (2, vI k)], [vR (some (P 0))], σ, 0, 0)) rfl ?_
        refine w_get (k := 2) (vR (σ.2.1 20208 (P 0) 0)) rfl rfl rfl hP.1 rfl rfl ?_
        refine w_get (k := 8) (vI (σ.1 80300 (P 2) 0)) rfl rfl (hP.2 1 (by decide)) (hw 20208 (P 0) 0 (P 2) (hP.2 1 (by decide)) (by decide)) rfl rfl ?_
        refine w_run 2 (S' := (49, [(3, vI (celF σ s)), (0, vR (some (P 0))), (1, vR (some s)), (2, vI k)], [vR (some s), vR (some (P 0)), vI (σ.1 80300 (P 2) 0)], σ, 0, 0)) rfl ?_
        refine w_callV (st := [vI (σ.1 80300 (P 2) 0)]) [vR (some s)] rfl ml_1_101 rfl rfl hP.1 rfl rfl rfl (by simp only [RM]; omega) (by simp only [RM]; show 8 + (5 + 11) + _ ≤ _; omega) rfl (by simp only [RM]; omega) (by simp only [RM]; omega) (c_pr_countNewHandles l E (d - 1) σ P s a3 n (by omega) hP hw hs h3 hn hit) (fun _ _ h => h.elim) ?_
        intro r9 s9 q9
        rw [q9.1, q9.2]
        clear q9 r9 s9
        show WG _ _ _ _ _ _ _ (52, [(3, vI (celF σ s)), (0, vR (some (P 0))), (1, vR (some s)), (2, vI k)], [vI (itF (cnhF σ P a3) n 0 0), vI (σ.1 80300 (P 2) 0)], σ, 0, 0)
        refine w_run 2 (S' := (55, [(3, vI (celF σ s)), (0, vR (some (P 0))), (1, vR (some s)), (2, vI k)], [vI 15, vI ((σ.1 80300 (P 2) 0) + (itF (cnhF σ P a3) n 0 0))], σ, 0, 0)) rfl ?_
        refine w_ic_gt rfl (fun c5 => ?_) (fun c5 => ?_)
        · refine w_run 1 (S' := (63, [(3, vI (celF σ s)), (0, vR (some (P 0))), (1, vR (some s)), (2, vI k)], [vI 0], σ, 0, 0)) rfl ?_
          exact w_iret rfl (Or.inr ⟨rfl, Or.inl rfl⟩) (by omega) (by omega) (⟨by simp only [hrfF, if_neg c1, if_pos c2, if_pos c4, if_pos c5], rfl⟩)
        · refine w_run 2 (S' := (63, [(3, vI (celF σ s)), (0, vR (some (P 0))), (1, vR (some s)), (2, vI k)], [vI 1], σ, 0, 0)) rfl ?_
          exact w_iret rfl (Or.inr ⟨rfl, Or.inr rfl⟩) (by omega) (by omega) (⟨by simp only [hrfF, if_neg c1, if_pos c2, if_pos c4, if_neg c5], rfl⟩)
      · refine w_run 1 (S' := (39, [(3, vI (celF σ s)), (0, vR (some (P 0))), (1, vR (some s)), (2, vI k)], [vI 0], σ, 0, 0)) rfl ?_
        exact w_iret rfl (Or.inr ⟨rfl, Or.inl rfl⟩) (by omega) (by omega) (⟨by simp only [hrfF, if_neg c1, if_pos c2, if_neg c4], rfl⟩)
  · refine w_run 1 (S' := (18, [(3, vI (celF σ s)), (0, vR (some (P 0))), (1, vR (some s)), (2, vI k)], [vI 0], σ, 0, 0)) rfl ?_
    exact w_iret rfl (Or.inr ⟨rfl, Or.inl rfl⟩) (by omega) (by omega) (⟨by simp only [hrfF, if_pos c1], rfl⟩)

set_option maxHeartbeats 4000000 in
theorem c_pr_hasRoomForWatch (l : Launch) (E : FE) (d : Nat) (σ : Sg) (P : Nat → Nat) (ad1 ad3 : Nat → Nat) (L1 L3 : Nat → List Nat) (AR1 AR3 : Nat → Nat) (p : Nat) (hd : 1 ≤ d) (hP : SHp σ P) (hw : WF σ) (hp : p < 4) (hl1 : LLx E 20 41 5 ad1 L1 AR1 σ) (hl3 : LLx E 22 43 7 ad3 L3 AR3 σ) (e1 : ad1 p = P 12) (e3 : ad3 p = P 14) : CT l E d 42 [vR (some (P 0))] σ 0 0 (fun r σ' => r = some (vI (if 8 ≤ (L3 p).length then 0 else if 24 ≤ (L1 p).length + (L3 p).length then 0 else 1)) ∧ σ' = σ) (fun _ _ => False) := by
  have hz3 := c_la_size_22 l E (d - 1) σ ad3 L3 AR3 hl3 p hp
  rw [e3] at hz3
  have hz1 := c_la_size_20 l E (d - 1) σ ad1 L1 AR1 hl1 p hp
  rw [e1] at hz1
  have hb3 := (hl3.same hp).2.2.2.1
  have hb1 := (hl1.same hp).2.2.2.1
  refine CTo ok_pr_hasRoomForWatch (by decide +kernel) rfl rfl rfl ?_
  refine w_run 1 (S' := (1, [(0, vR (some (P 0)))], [vR (some (P 0))], σ, 0, 0)) rfl ?_
  refine w_get (k := 2) (vR (σ.2.1 20722 (P 0) 0)) rfl rfl rfl hP.1 rfl rfl ?_
  refine Eq.mp (congrArg (fun x9 => WG _ _ _ _ _ _ _ (4, [(0, vR (some (P 0)))], [vR x9], σ, 0, 0)) (Eq.symm (hP.2 6 (by decide)) : some (P 14) = σ.2.1 20722 (P 0) 0)) ?_
  show WG _ _ _ _ _ _ _ (4, [(0, vR (some (P 0)))], [vR (some (P 14))], σ, 0, 0)
  refine w_callV (st := []) [] rfl ml_1_65 rfl rfl (hw 20722 (P 0) 0 (P 14) (hP.2 6 (by decide)) (by decide)) rfl rfl rfl (by simp only [RM]; omega) (by simp only [RM]; show 8 + (1 + 11) + _ ≤ _; omega) rfl (by simp only [RM]; omega) (by simp only [RM]; omega) (hz3) (fun _ _ h => h.elim) ?_
  intro r9 s9 q9
  rw [q9.1, q9.2]
  clear q9 r9 s9
  show WG _ _ _ _ _ _ _ (7, [(0, vR (some (P 0)))], [vI (nI (L3 p).length)], σ, 0, 0)
  refine w_run 1 (S' := (9, [(0, vR (some (P 0)))], [vI 8, vI (nI (L3 p).length)], σ, 0, 0)) rfl ?_
  rw [show (nI (L3 p).length : Int32) = nI ((L3 p).length) from by simp only [nl0, nl1, nl2, nl3, nl4, nl5, nl6, nl8, nl9, nl10, nl12, nl15, nl16, nl20, nl24, nl32, nl40, nl64, nl65, nl384, pk_mul, nI_add]]
  show WG _ _ _ _ _ _ _ (9, [(0, vR (some (P 0)))], [vI 8, vI (nI ((L3 p).length))], σ, 0, 0)
  refine w_ic_ge rfl (fun c1 => ?_) (fun c1 => ?_)
  · have nc1 := (nI_leI (a := 8) (b := (L3 p).length) (by omega) (by omega)).mp c1
    refine w_run 1 (S' := (37, [(0, vR (some (P 0)))], [vI 0], σ, 0, 0)) rfl ?_
    exact w_iret rfl (Or.inr ⟨rfl, Or.inl rfl⟩) (by omega) (by omega) (⟨by simp only [if_pos nc1], rfl⟩)
  · have nc1 := mt (nI_leI (a := 8) (b := (L3 p).length) (by omega) (by omega)).mpr c1
    refine w_run 1 (S' := (13, [(0, vR (some (P 0)))], [vR (some (P 0))], σ, 0, 0)) rfl ?_
    refine w_get (k := 2) (vR (σ.2.1 20520 (P 0) 0)) rfl rfl rfl hP.1 rfl rfl ?_
    refine Eq.mp (congrArg (fun x9 => WG _ _ _ _ _ _ _ (16, [(0, vR (some (P 0)))], [vR x9], σ, 0, 0)) (Eq.symm (hP.2 4 (by decide)) : some (P 12) = σ.2.1 20520 (P 0) 0)) ?_
    show WG _ _ _ _ _ _ _ (16, [(0, vR (some (P 0)))], [vR (some (P 12))], σ, 0, 0)
    refine w_callV (st := []) [] rfl ml_1_65 rfl rfl (hw 20520 (P 0) 0 (P 12) (hP.2 4 (by decide)) (by decide)) rfl rfl rfl (by simp only [RM]; omega) (by simp only [RM]; show 8 + (1 + 11) + _ ≤ _; omega) rfl (by simp only [RM]; omega) (by simp only [RM]; omega) (hz1) (fun _ _ h => h.elim) ?_
    intro r9 s9 q9
    rw [q9.1, q9.2]
    clear q9 r9 s9
    show WG _ _ _ _ _ _ _ (19, [(0, vR (some (P 0)))], [vI (nI (L1 p).length)], σ, 0, 0)
    refine w_run 1 (S' := (20, [(0, vR (some (P 0)))], [vR (some (P 0)), vI (nI (L1 p).length)], σ, 0, 0)) rfl ?_
    rw [show (nI (L1 p).length : Int32) = nI ((L1 p).length) from by simp only [nl0, nl1, nl2, nl3, nl4, nl5, nl6, nl8, nl9, nl10, nl12, nl15, nl16, nl20, nl24, nl32, nl40, nl64, nl65, nl384, pk_mul, nI_add]]
    show WG _ _ _ _ _ _ _ (20, [(0, vR (some (P 0)))], [vR (some (P 0)), vI (nI ((L1 p).length))], σ, 0, 0)
    refine w_get (k := 2) (vR (σ.2.1 20722 (P 0) 0)) rfl rfl rfl hP.1 rfl rfl ?_
    refine Eq.mp (congrArg (fun x9 => WG _ _ _ _ _ _ _ (23, [(0, vR (some (P 0)))], [vR x9, vI (nI ((L1 p).length))], σ, 0, 0)) (Eq.symm (hP.2 6 (by decide)) : some (P 14) = σ.2.1 20722 (P 0) 0)) ?_
    show WG _ _ _ _ _ _ _ (23, [(0, vR (some (P 0)))], [vR (some (P 14)), vI (nI ((L1 p).length))], σ, 0, 0)
    refine w_callV (st := [vI (nI ((L1 p).length))]) [] rfl ml_1_65 rfl rfl (hw 20722 (P 0) 0 (P 14) (hP.2 6 (by decide)) (by decide)) rfl rfl rfl (by simp only [RM]; omega) (by simp only [RM]; show 8 + (1 + 11) + _ ≤ _; omega) rfl (by simp only [RM]; omega) (by simp only [RM]; omega) (hz3) (fun _ _ h => h.elim) ?_
    intro r9 s9 q9
    rw [q9.1, q9.2]
    clear q9 r9 s9
    show WG _ _ _ _ _ _ _ (26, [(0, vR (some (P 0)))], [vI (nI (L3 p).length), vI (nI ((L1 p).length))], σ, 0, 0)
    refine w_run 2 (S' := (29, [(0, vR (some (P 0)))], [vI 24, vI ((nI ((L1 p).length)) + (nI (L3 p).length))], σ, 0, 0)) rfl ?_
    rw [show ((nI ((L1 p).length)) + (nI (L3 p).length) : Int32) = nI ((L1 p).length + (L3 p).length) from by simp only [nl0, nl1, nl2, nl3, nl4, nl5, nl6, nl8, nl9, nl10, nl12, nl15, nl16, nl20, nl24, nl32, nl40, nl64, nl65, nl384, pk_mul, nI_add]]
    show WG _ _ _ _ _ _ _ (29, [(0, vR (some (P 0)))], [vI 24, vI (nI ((L1 p).length + (L3 p).length))], σ, 0, 0)
    refine w_ic_ge rfl (fun c2 => ?_) (fun c2 => ?_)
    · have nc2 := (nI_leI (a := 24) (b := (L1 p).length + (L3 p).length) (by omega) (by omega)).mp c2
      refine w_run 1 (S' := (37, [(0, vR (some (P 0)))], [vI 0], σ, 0, 0)) rfl ?_
      exact w_iret rfl (Or.inr ⟨rfl, Or.inl rfl⟩) (by omega) (by omega) (⟨by simp only [if_neg nc1, if_pos nc2], rfl⟩)
    · have nc2 := mt (nI_leI (a := 24) (b := (L1 p).length + (L3 p).length) (by omega) (by omega)).mpr c2
      refine w_run 2 (S' := (37, [(0, vR (some (P 0)))], [vI 1], σ, 0, 0)) rfl ?_
      exact w_iret rfl (Or.inr ⟨rfl, Or.inr rfl⟩) (by omega) (by omega) (⟨by simp only [if_neg nc1, if_neg nc2], rfl⟩)

