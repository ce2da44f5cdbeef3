/-! Handles: what its methods answer and do -/
def hasF (f : Nat → Option Nat) (n : Int32) : Int32 := if n < 1 then 0 else if 15 < n then 0 else if f n.toNatClampNeg = none then 0 else 1
theorem hasF_1 {f : Nat → Option Nat} {n : Int32} (h : ¬ hasF f n = 0) : ¬ n < 1 ∧ ¬ 15 < n ∧ ∃ b, f n.toNatClampNeg = some b := by
  unfold hasF at h
  split at h
  · exact absurd rfl h
  split at h
  · exact absurd rfl h
  split at h
  · exact absurd rfl h
  rename_i h1 h2 h3
  exact ⟨h1, h2, Option.ne_none_iff_exists'.mp h3⟩
theorem hasF_01 (f : Nat → Option Nat) (n : Int32) : hasF f n = 0 ∨ hasF f n = 1 := by
  unfold hasF
  split
  · exact Or.inl rfl
  split
  · exact Or.inl rfl
  split
  · exact Or.inl rfl
  · exact Or.inr rfl
set_option maxHeartbeats 4000000 in
theorem c_hs_has (l : Launch) (E : FE) (d : Nat) (σ : Sg) (h a1 : Nat) (n : Int32) (hk : σ.2.2.2 h = 8) (h1 : σ.2.1 80012 h 0 = some a1) (hw : WF σ) : CT l E d 16 [vR (some h), vI n] σ 0 0 (fun r σ' => r = some (vI (hasF (σ.2.1 120003 a1) n)) ∧ σ' = σ) (fun _ _ => False) := by
  refine CTo ok_hs_has (by decide +kernel) rfl rfl rfl ?_
  refine w_run 2 (S' := (2, [(0, vR (some h)), (1, vI n)], [vI 1, vI n], σ, 0, 0)) rfl ?_
  refine w_ic_lt rfl (fun c1 => ?_) (fun c1 => ?_)
  · refine w_run 1 (S' := (25, [(0, vR (some h)), (1, vI n)], [vI 0], σ, 0, 0)) rfl ?_
    exact w_iret rfl (Or.inr ⟨rfl, Or.inl rfl⟩) (by omega) (by omega) (⟨by simp [hasF, c1], rfl⟩)
  · refine w_run 2 (S' := (8, [(0, vR (some h)), (1, vI n)], [vI 15, vI n], σ, 0, 0)) rfl ?_
    refine w_ic_gt rfl (fun c2 => ?_) (fun c2 => ?_)
    · refine w_run 1 (S' := (25, [(0, vR (some h)), (1, vI n)], [vI 0], σ, 0, 0)) rfl ?_
      exact w_iret rfl (Or.inr ⟨rfl, Or.inl rfl⟩) (by omega) (by omega) (⟨by simp [hasF, c1, c2], rfl⟩)
    · refine w_run 1 (S' := (12, [(0, vR (some h)), (1, vI n)], [vR (some h)], σ, 0, 0)) rfl ?_
      refine w_get (k := 8) (vR (σ.2.1 80012 h 0)) rfl rfl rfl hk rfl rfl ?_
      refine w_run 1 (S' := (16, [(0, vR (some h)), (1, vI n)], [vI n, vR (σ.2.1 80012 h 0)], σ, 0, 0)) rfl ?_
      refine w_aald (k := 12) rfl h1 (hw 80012 h 0 a1 h1 (by decide)) rfl rfl (show vp_in n 16 from in_lt c1 c2 (by decide) (by decide)) ?_
      show WG _ _ _ _ _ _ _ (17, [(0, vR (some h)), (1, vI n)], [vR (σ.2.1 120003 a1 n.toNatClampNeg)], σ, 0, 0)
      refine w_null rfl (fun c3 => ?_) (fun b4 c3 => ?_)
      · refine w_run 1 (S' := (25, [(0, vR (some h)), (1, vI n)], [vI 0], σ, 0, 0)) rfl ?_
        exact w_iret rfl (Or.inr ⟨rfl, Or.inl rfl⟩) (by omega) (by omega) (⟨by simp [hasF, c1, c2, c3], rfl⟩)
      · refine w_run 2 (S' := (25, [(0, vR (some h)), (1, vI n)], [vI 1], σ, 0, 0)) rfl ?_
        exact w_iret rfl (Or.inr ⟨rfl, Or.inr rfl⟩) (by omega) (by omega) (⟨by simp [hasF, c1, c2, c3], rfl⟩)

def strongF (f : Nat → Option Nat) (s : Nat → Int32) (n : Int32) : Option Nat := if hasF f n = 0 then none else if s n.toNatClampNeg ≤ 0 then none else f n.toNatClampNeg
set_option maxHeartbeats 4000000 in
theorem c_hs_strongNode (l : Launch) (E : FE) (d : Nat) (σ : Sg) (h a1 a2 dd : Nat) (n : Int32) (hd : dd + 1 ≤ d) (hk : σ.2.2.2 h = 8) (h1 : σ.2.1 80012 h 0 = some a1) (h2 : σ.2.1 80113 h 0 = some a2) (hw : WF σ) : CT l E d 17 [vR (some h), vI n] σ 0 0 (fun r σ' => r = some (vR (strongF (σ.2.1 120003 a1) (σ.1 130000 a2) n)) ∧ σ' = σ) (fun _ _ => False) := by
  refine CTo ok_hs_strongNode (by decide +kernel) rfl rfl rfl ?_
  refine w_run 2 (S' := (2, [(0, vR (some h)), (1, vI n)], [vI n, vR (some h)], σ, 0, 0)) rfl ?_
  refine w_callV (st := []) [vI n] rfl ml_7_24 rfl rfl hk rfl rfl rfl (by simp only [RM]; omega) (by simp only [RM]; show 8 + (2 + 11) + _ ≤ _; omega) rfl (by simp only [RM]; omega) (by simp only [RM]; omega) (c_hs_has l E dd σ h a1 n hk h1 hw) (fun _ _ h => h.elim) ?_
  intro r9 s9 q9
  rw [q9.1, q9.2]
  clear q9 r9 s9
  show WG _ _ _ _ _ _ _ (5, [(0, vR (some h)), (1, vI n)], [vI (hasF (σ.2.1 120003 a1) n)], σ, 0, 0)
  refine w_if_eq rfl (fun c1 => ?_) (fun c1 => ?_)
  · refine w_run 1 (S' := (27, [(0, vR (some h)), (1, vI n)], [vR none], σ, 0, 0)) rfl ?_
    exact w_aret rfl rfl (Or.inl ⟨_, rfl⟩) (by omega) (by omega) (⟨by simp [strongF, c1], rfl⟩)
  · obtain ⟨e1, e2, bb, e3⟩ := hasF_1 c1
    refine w_run 1 (S' := (9, [(0, vR (some h)), (1, vI n)], [vR (some h)], σ, 0, 0)) rfl ?_
    refine w_get (k := 8) (vR (σ.2.1 80113 h 0)) rfl rfl rfl hk rfl rfl ?_
    refine w_run 1 (S' := (13, [(0, vR (some h)), (1, vI n)], [vI n, vR (σ.2.1 80113 h 0)], σ, 0, 0)) rfl ?_
    refine w_iald (k := 13) rfl h2 (hw 80113 h 0 a2 h2 (by decide)) rfl (show vp_in n 16 from in_lt e1 e2 (by decide) (by decide)) ?_
    show WG _ _ _ _ _ _ _ (14, [(0, vR (some h)), (1, vI n)], [vI (σ.1 130000 a2 n.toNatClampNeg)], σ, 0, 0)
    refine w_if_le rfl (fun c2 => ?_) (fun c2 => ?_)
    · refine w_run 1 (S' := (27, [(0, vR (some h)), (1, vI n)], [vR none], σ, 0, 0)) rfl ?_
      exact w_aret rfl rfl (Or.inl ⟨_, rfl⟩) (by omega) (by omega) (⟨by simp [strongF, c1, c2], rfl⟩)
    · refine w_run 1 (S' := (18, [(0, vR (some h)), (1, vI n)], [vR (some h)], σ, 0, 0)) rfl ?_
      refine w_get (k := 8) (vR (σ.2.1 80012 h 0)) rfl rfl rfl hk rfl rfl ?_
      refine w_run 1 (S' := (22, [(0, vR (some h)), (1, vI n)], [vI n, vR (σ.2.1 80012 h 0)], σ, 0, 0)) rfl ?_
      refine w_aald (k := 12) rfl h1 (hw 80012 h 0 a1 h1 (by decide)) rfl rfl (show vp_in n 16 from in_lt e1 e2 (by decide) (by decide)) ?_
      show WG _ _ _ _ _ _ _ (23, [(0, vR (some h)), (1, vI n)], [vR (σ.2.1 120003 a1 n.toNatClampNeg)], σ, 0, 0)
      refine w_run 1 (S' := (27, [(0, vR (some h)), (1, vI n)], [vR (σ.2.1 120003 a1 n.toNatClampNeg)], σ, 0, 0)) rfl ?_
      exact w_aret rfl rfl (Or.inl ⟨_, rfl⟩) (by omega) (by omega) (⟨by simp [strongF, c1, c2], rfl⟩)

set_option maxHeartbeats 4000000 in
theorem lp_hs_numberOf (l : Launch) (E : FE) (d : Nat) (σ : Sg) (h a1 : Nat) (v : Option Nat) (hk : σ.2.2.2 h = 8) (h1 : σ.2.1 80012 h 0 = some a1) (hw : WF σ) : ∀ (k i : Nat), i + k = 16 → nOfL (σ.2.1 120003 a1) v k i = nOf (σ.2.1 120003 a1) v →
    WP l E d 18 [vR (some h), vR v] 0 0 (fun r σ' => r = some (vI (nOf (σ.2.1 120003 a1) v)) ∧ σ' = σ) (fun _ _ => False) (2, [(2, vI (nI i)), (0, vR (some h)), (1, vR v)], [], σ, 0, 0) := by
  intro k
  induction k with
  | zero =>
    intro i hi e
    have e16 : i = 16 := by omega
    subst e16
    refine w_run 2 (S' := (5, [(2, vI (nI 16)), (0, vR (some h)), (1, vR v)], [vI 15, vI (nI 16)], σ, 0, 0)) rfl ?_
    refine w_ic_gt rfl (fun c1 => ?_) (fun c1 => (absurd (show (15 : Int32) < nI 16 by decide) c1))
    refine w_run 1 (S' := (27, [(2, vI (nI 16)), (0, vR (some h)), (1, vR v)], [vI (-1)], σ, 0, 0)) rfl ?_
    exact w_iret rfl (Or.inl rfl) (by omega) (by omega) (⟨by rw [← e]; rfl, rfl⟩)
  | succ k ih =>
    intro i hi e
    unfold nOfL at e
    refine w_run 2 (S' := (5, [(2, vI (nI i)), (0, vR (some h)), (1, vR v)], [vI 15, vI (nI i)], σ, 0, 0)) rfl ?_
    refine w_ic_gt rfl (fun c1 => (absurd c1 (nI_nlt (a := 15) (by omega) (by decide)))) (fun c1 => ?_)
    refine w_run 1 (S' := (9, [(2, vI (nI i)), (0, vR (some h)), (1, vR v)], [vR (some h)], σ, 0, 0)) rfl ?_
    refine w_get (k := 8) (vR (σ.2.1 80012 h 0)) rfl rfl rfl hk rfl rfl ?_
    refine w_run 1 (S' := (13, [(2, vI (nI i)), (0, vR (some h)), (1, vR v)], [vI (nI i), vR (σ.2.1 80012 h 0)], σ, 0, 0)) rfl ?_
    refine w_aald (k := 12) rfl h1 (hw 80012 h 0 a1 h1 (by decide)) rfl rfl (show vp_in (nI i) 16 from vp_in_nI (by omega) (by decide)) ?_
    show WG _ _ _ _ _ _ _ (14, [(2, vI (nI i)), (0, vR (some h)), (1, vR v)], [vR (σ.2.1 120003 a1 ((nI i).toNatClampNeg))], σ, 0, 0)
    refine w_run 1 (S' := (15, [(2, vI (nI i)), (0, vR (some h)), (1, vR v)], [vR v, vR (σ.2.1 120003 a1 ((nI i).toNatClampNeg))], σ, 0, 0)) rfl ?_
    refine w_ac_ne rfl (fun c2 => ?_) (fun c2 => ?_)
    · rw [nI_clamp (by omega)] at c2
      rw [if_neg c2] at e
      refine w_run 2 (S' := (2, [(2, vI ((nI i) + 1)), (0, vR (some h)), (1, vR v)], [], σ, 0, 0)) rfl ?_
      rw [nI_1]
      exact ih (i + 1) (by omega) e
    · rw [nI_clamp (by omega)] at c2
      rw [if_pos c2] at e
      refine w_run 1 (S' := (19, [(2, vI (nI i)), (0, vR (some h)), (1, vR v)], [vI (nI i)], σ, 0, 0)) rfl ?_
      exact w_iret rfl (Or.inl rfl) (by omega) (by omega) (⟨by rw [← e], rfl⟩)
set_option maxHeartbeats 4000000 in
theorem c_hs_numberOf (l : Launch) (E : FE) (d : Nat) (σ : Sg) (h a1 : Nat) (v : Option Nat) (hk : σ.2.2.2 h = 8) (h1 : σ.2.1 80012 h 0 = some a1) (hw : WF σ) : CT l E d 18 [vR (some h), vR v] σ 0 0 (fun r σ' => r = some (vI (nOf (σ.2.1 120003 a1) v)) ∧ σ' = σ) (fun _ _ => False) := by
  refine CTo ok_hs_numberOf (by decide +kernel) rfl rfl rfl ?_
  refine w_run 2 (S' := (2, [(2, vI 1), (0, vR (some h)), (1, vR v)], [], σ, 0, 0)) rfl ?_
  exact lp_hs_numberOf l E d σ h a1 v hk h1 hw 15 1 rfl rfl

set_option maxHeartbeats 4000000 in
theorem c_hs_leastFree (l : Launch) (E : FE) (d : Nat) (σ : Sg) (h a1 dd : Nat) (hd : dd + 1 ≤ d) (hk : σ.2.2.2 h = 8) (h1 : σ.2.1 80012 h 0 = some a1) (hw : WF σ) : CT l E d 19 [vR (some h)] σ 0 0 (fun r σ' => r = some (vI (nOf (σ.2.1 120003 a1) none)) ∧ σ' = σ) (fun _ _ => False) := by
  refine CTo ok_hs_leastFree (by decide +kernel) rfl rfl rfl ?_
  refine w_run 2 (S' := (2, [(0, vR (some h))], [vR none, vR (some h)], σ, 0, 0)) rfl ?_
  refine w_callV (st := []) [vR none] rfl ml_7_28 rfl rfl hk rfl rfl rfl (by simp only [RM]; omega) (by simp only [RM]; show 8 + (3 + 11) + _ ≤ _; omega) rfl (by simp only [RM]; omega) (by simp only [RM]; omega) (c_hs_numberOf l E dd σ h a1 none hk h1 hw) (fun _ _ h => h.elim) ?_
  intro r9 s9 q9
  rw [q9.1, q9.2]
  clear q9 r9 s9
  show WG _ _ _ _ _ _ _ (5, [(0, vR (some h))], [vI (nOf (σ.2.1 120003 a1) none)], σ, 0, 0)
  exact w_iret rfl (Or.inl rfl) (by omega) (by omega) (⟨rfl, rfl⟩)

/-- the store behind addTo and its answer -/
def addToF (σ : Sg) (h a1 a2 a3 : Nat) (n b : Int32) : Int32 × Sg := if hasF (σ.2.1 120003 a1) n = 0 then (0, σ) else if b = 0 then (1, sI σ 140000 a3 n.toNatClampNeg (σ.1 140000 a3 n.toNatClampNeg + 1)) else if σ.1 130000 a2 n.toNatClampNeg = 0 then (0, σ) else (1, sI σ 130000 a2 n.toNatClampNeg (σ.1 130000 a2 n.toNatClampNeg + 1))
set_option maxHeartbeats 4000000 in
theorem c_hs_addTo (l : Launch) (E : FE) (d : Nat) (σ : Sg) (h a1 a2 a3 dd : Nat) (n b : Int32) (hd : dd + 1 ≤ d) (hk : σ.2.2.2 h = 8) (h1 : σ.2.1 80012 h 0 = some a1) (h2 : σ.2.1 80113 h 0 = some a2) (h3 : σ.2.1 80214 h 0 = some a3) (hw : WF σ) : CT l E d 22 [vR (some h), vI n, vI b] σ 0 0 (fun r σ' => r = some (vI (addToF σ h a1 a2 a3 n b).1) ∧ σ' = (addToF σ h a1 a2 a3 n b).2) (fun _ _ => False) := by
  refine CTo ok_hs_addTo (by decide +kernel) rfl rfl rfl ?_
  refine w_run 2 (S' := (2, [(0, vR (some h)), (1, vI n), (2, vI b)], [vI n, vR (some h)], σ, 0, 0)) rfl ?_
  refine w_callV (st := []) [vI n] rfl ml_7_24 rfl rfl hk rfl rfl rfl (by simp only [RM]; omega) (by simp only [RM]; show 8 + (2 + 11) + _ ≤ _; omega) rfl (by simp only [RM]; omega) (by simp only [RM]; omega) (c_hs_has l E dd σ h a1 n hk h1 hw) (fun _ _ h => h.elim) ?_
  intro r9 s9 q9
  rw [q9.1, q9.2]
  clear q9 r9 s9
  show WG _ _ _ _ _ _ _ (5, [(0, vR (some h)), (1, vI n), (2, vI b)], [vI (hasF (σ.2.1 120003 a1) n)], σ, 0, 0)
  refine w_if_eq rfl (fun c1 => ?_) (fun c1 => ?_)
  · refine w_run 1 (S' := (22, [(0, vR (some h)), (1, vI n), (2, vI b)], [vI 0], σ, 0, 0)) rfl ?_
    exact w_iret rfl (Or.inr ⟨rfl, Or.inl rfl⟩) (by omega) (by omega) (⟨by simp [addToF, c1], by simp [addToF, c1]⟩)
  · obtain ⟨e1, e2, bb, e3⟩ := hasF_1 c1
    refine w_run 1 (S' := (9, [(0, vR (some h)), (1, vI n), (2, vI b)], [vI b], σ, 0, 0)) rfl ?_
    refine w_if_eq rfl (fun c2 => ?_) (fun c2 => ?_)
    · refine w_run 1 (S' := (24, [(0, vR (some h)), (1, vI n), (2, vI b)], [vI b], σ, 0, 0)) rfl ?_
      refine w_if_eq rfl (fun c3 => ?_) (fun c3 => (absurd c2 c3))
      refine w_run 1 (S' := (41, [(0, vR (some h)), (1, vI n), (2, vI b)], [vR (some h)], σ, 0, 0)) rfl ?_
      refine w_get (k := 8) (vR (σ.2.1 80214 h 0)) rfl rfl rfl hk rfl rfl ?_
      refine w_run 2 (S' := (46, [(0, vR (some h)), (1, vI n), (2, vI b)], [vI n, vR (σ.2.1 80214 h 0), vI n, vR (σ.2.1 80214 h 0)], σ, 0, 0)) rfl ?_
      refine w_iald (k := 14) rfl h3 (hw 80214 h 0 a3 h3 (by decide)) rfl (show vp_in n 16 from in_lt e1 e2 (by decide) (by decide)) ?_
      show WG _ _ _ _ _ _ _ (47, [(0, vR (some h)), (1, vI n), (2, vI b)], [vI (σ.1 140000 a3 n.toNatClampNeg), vI n, vR (σ.2.1 80214 h 0)], σ, 0, 0)
      refine w_run 2 (S' := (49, [(0, vR (some h)), (1, vI n), (2, vI b)], [vI ((σ.1 140000 a3 n.toNatClampNeg) + 1), vI n, vR (σ.2.1 80214 h 0)], σ, 0, 0)) rfl ?_
      refine w_iast (k := 14) rfl h3 (hw 80214 h 0 a3 h3 (by decide)) rfl (show vp_in n 16 from in_lt e1 e2 (by decide) (by decide)) ?_
      show WG _ _ _ _ _ _ _ (50, [(0, vR (some h)), (1, vI n), (2, vI b)], [], sI σ 140000 a3 n.toNatClampNeg ((σ.1 140000 a3 n.toNatClampNeg) + 1), 0, 0)
      refine w_run 1 (S' := (51, [(0, vR (some h)), (1, vI n), (2, vI b)], [vI 1], sI σ 140000 a3 n.toNatClampNeg ((σ.1 140000 a3 n.toNatClampNeg) + 1), 0, 0)) rfl ?_
      exact w_iret rfl (Or.inr ⟨rfl, Or.inr rfl⟩) (by omega) (by omega) (⟨by simp [addToF, c1, c2, c3], by simp [addToF, c1, c2, c3]⟩)
    · refine w_run 1 (S' := (13, [(0, vR (some h)), (1, vI n), (2, vI b)], [vR (some h)], σ, 0, 0)) rfl ?_
      refine w_get (k := 8) (vR (σ.2.1 80113 h 0)) rfl rfl rfl hk rfl rfl ?_
      refine w_run 1 (S' := (17, [(0, vR (some h)), (1, vI n), (2, vI b)], [vI n, vR (σ.2.1 80113 h 0)], σ, 0, 0)) rfl ?_
      refine w_iald (k := 13) rfl h2 (hw 80113 h 0 a2 h2 (by decide)) rfl (show vp_in n 16 from in_lt e1 e2 (by decide) (by decide)) ?_
      show WG _ _ _ _ _ _ _ (18, [(0, vR (some h)), (1, vI n), (2, vI b)], [vI (σ.1 130000 a2 n.toNatClampNeg)], σ, 0, 0)
      refine w_if_ne rfl (fun c4 => ?_) (fun c4 => ?_)
      · refine w_run 1 (S' := (24, [(0, vR (some h)), (1, vI n), (2, vI b)], [vI b], σ, 0, 0)) rfl ?_
        refine w_if_eq rfl (fun c5 => (absurd c5 c2)) (fun c5 => ?_)
        refine w_run 1 (S' := (28, [(0, vR (some h)), (1, vI n), (2, vI b)], [vR (some h)], σ, 0, 0)) rfl ?_
        refine w_get (k := 8) (vR (σ.2.1 80113 h 0)) rfl rfl rfl hk rfl rfl ?_
        refine w_run 2 (S' := (33, [(0, vR (some h)), (1, vI n), (2, vI b)], [vI n, vR (σ.2.1 80113 h 0), vI n, vR (σ.2.1 80113 h 0)], σ, 0, 0)) rfl ?_
        refine w_iald (k := 13) rfl h2 (hw 80113 h 0 a2 h2 (by decide)) rfl (show vp_in n 16 from in_lt e1 e2 (by decide) (by decide)) ?_
        show WG _ _ _ _ _ _ _ (34, [(0, vR (some h)), (1, vI n), (2, vI b)], [vI (σ.1 130000 a2 n.toNatClampNeg), vI n, vR (σ.2.1 80113 h 0)], σ, 0, 0)
        refine w_run 2 (S' := (36, [(0, vR (some h)), (1, vI n), (2, vI b)], [vI ((σ.1 130000 a2 n.toNatClampNeg) + 1), vI n, vR (σ.2.1 80113 h 0)], σ, 0, 0)) rfl ?_
        refine w_iast (k := 13) rfl h2 (hw 80113 h 0 a2 h2 (by decide)) rfl (show vp_in n 16 from in_lt e1 e2 (by decide) (by decide)) ?_
        show WG _ _ _ _ _ _ _ (37, [(0, vR (some h)), (1, vI n), (2, vI b)], [], sI σ 130000 a2 n.toNatClampNeg ((σ.1 130000 a2 n.toNatClampNeg) + 1), 0, 0)
        refine w_run 2 (S' := (51, [(0, vR (some h)), (1, vI n), (2, vI b)], [vI 1], sI σ 130000 a2 n.toNatClampNeg ((σ.1 130000 a2 n.toNatClampNeg) + 1), 0, 0)) rfl ?_
        exact w_iret rfl (Or.inr ⟨rfl, Or.inr rfl⟩) (by omega) (by omega) (⟨by simp [addToF, c1, c2, c4, c5], by simp [addToF, c1, c2, c4, c5]⟩)
      · refine w_run 1 (S' := (22, [(0, vR (some h)), (1, vI n), (2, vI b)], [vI 0], σ, 0, 0)) rfl ?_
        exact w_iret rfl (Or.inr ⟨rfl, Or.inl rfl⟩) (by omega) (by omega) (⟨by simp [addToF, c1, c2, c4], by simp [addToF, c1, c2, c4]⟩)

/-- where both counts are 0 the handle is no more -/
def dropS (σ : Sg) (h a1 a2 a3 i : Nat) : Sg := if σ.1 130000 a2 i = 0 then (if σ.1 140000 a3 i = 0 then sI (sO σ 120003 a1 i none) 80300 h 0 (σ.1 80300 h 0 - 1) else σ) else σ
def takeFromF (σ : Sg) (h a1 a2 a3 : Nat) (n b : Int32) : Int32 × Sg := if hasF (σ.2.1 120003 a1) n = 0 then (0, σ) else if b = 0 then (if σ.1 140000 a3 n.toNatClampNeg = 0 then (0, σ) else (1, dropS (sI σ 140000 a3 n.toNatClampNeg (σ.1 140000 a3 n.toNatClampNeg - 1)) h a1 a2 a3 n.toNatClampNeg)) else (if σ.1 130000 a2 n.toNatClampNeg = 0 then (0, σ) else (1, dropS (sI σ 130000 a2 n.toNatClampNeg (σ.1 130000 a2 n.toNatClampNeg - 1)) h a1 a2 a3 n.toNatClampNeg))
set_option maxHeartbeats 4000000 in
theorem c_hs_takeFrom (l : Launch) (E : FE) (d : Nat) (σ : Sg) (h a1 a2 a3 dd : Nat) (n b : Int32) (hd : dd + 1 ≤ d) (hk : σ.2.2.2 h = 8) (h1 : σ.2.1 80012 h 0 = some a1) (h2 : σ.2.1 80113 h 0 = some a2) (h3 : σ.2.1 80214 h 0 = some a3) (hw : WF σ) : CT l E d 23 [vR (some h), vI n, vI b] σ 0 0 (fun r σ' => r = some (vI (takeFromF σ h a1 a2 a3 n b).1) ∧ σ' = (takeFromF σ h a1 a2 a3 n b).2) (fun _ _ => False) := by
  refine CTo ok_hs_takeFrom (by decide +kernel) rfl rfl rfl ?_
  refine w_run 2 (S' := (2, [(0, vR (some h)), (1, vI n), (2, vI b)], [vI n, vR (some h)], σ, 0, 0)) rfl ?_
  refine w_callV (st := []) [vI n] rfl ml_7_24 rfl rfl hk rfl rfl rfl (by simp only [RM]; omega) (by simp only [RM]; show 8 + (2 + 11) + _ ≤ _; omega) rfl (by simp only [RM]; omega) (by simp only [RM]; omega) (c_hs_has l E dd σ h a1 n hk h1 hw) (fun _ _ h => h.elim) ?_
  intro r9 s9 q9
  rw [q9.1, q9.2]
  clear q9 r9 s9
  show WG _ _ _ _ _ _ _ (5, [(0, vR (some h)), (1, vI n), (2, vI b)], [vI (hasF (σ.2.1 120003 a1) n)], σ, 0, 0)
  refine w_if_ne rfl (fun c1 => ?_) (fun c1 => ?_)
  · obtain ⟨e1, e2, bb, e3⟩ := hasF_1 c1
    refine w_run 1 (S' := (11, [(0, vR (some h)), (1, vI n), (2, vI b)], [vI b], σ, 0, 0)) rfl ?_
    refine w_if_eq rfl (fun c2 => ?_) (fun c2 => ?_)
    · refine w_run 1 (S' := (22, [(0, vR (some h)), (1, vI n), (2, vI b)], [vR (some h)], σ, 0, 0)) rfl ?_
      refine w_get (k := 8) (vR (σ.2.1 80214 h 0)) rfl rfl rfl hk rfl rfl ?_
      refine w_run 3 (S' := (28, [(3, vR (σ.2.1 80214 h 0)), (0, vR (some h)), (1, vI n), (2, vI b)], [vI n, vR (σ.2.1 80214 h 0)], σ, 0, 0)) rfl ?_
      refine w_iald (k := 14) rfl h3 (hw 80214 h 0 a3 h3 (by decide)) rfl (show vp_in n 16 from in_lt e1 e2 (by decide) (by decide)) ?_
      show WG _ _ _ _ _ _ _ (29, [(3, vR (σ.2.1 80214 h 0)), (0, vR (some h)), (1, vI n), (2, vI b)], [vI (σ.1 140000 a3 n.toNatClampNeg)], σ, 0, 0)
      refine w_if_ne rfl (fun c3 => ?_) (fun c3 => ?_)
      · refine w_run 3 (S' := (37, [(3, vR (σ.2.1 80214 h 0)), (0, vR (some h)), (1, vI n), (2, vI b)], [vI n, vR (σ.2.1 80214 h 0), vI n, vR (σ.2.1 80214 h 0)], σ, 0, 0)) rfl ?_
        refine w_iald (k := 14) rfl h3 (hw 80214 h 0 a3 h3 (by decide)) rfl (show vp_in n 16 from in_lt e1 e2 (by decide) (by decide)) ?_
        show WG _ _ _ _ _ _ _ (38, [(3, vR (σ.2.1 80214 h 0)), (0, vR (some h)), (1, vI n), (2, vI b)], [vI (σ.1 140000 a3 n.toNatClampNeg), vI n, vR (σ.2.1 80214 h 0)], σ, 0, 0)
        refine w_run 2 (S' := (40, [(3, vR (σ.2.1 80214 h 0)), (0, vR (some h)), (1, vI n), (2, vI b)], [vI ((σ.1 140000 a3 n.toNatClampNeg) - 1), vI n, vR (σ.2.1 80214 h 0)], σ, 0, 0)) rfl ?_
        refine w_iast (k := 14) rfl h3 (hw 80214 h 0 a3 h3 (by decide)) rfl (show vp_in n 16 from in_lt e1 e2 (by decide) (by decide)) ?_
        show WG _ _ _ _ _ _ _ (41, [(3, vR (σ.2.1 80214 h 0)), (0, vR (some h)), (1, vI n), (2, vI b)], [], sI σ 140000 a3 n.toNatClampNeg ((σ.1 140000 a3 n.toNatClampNeg) - 1), 0, 0)
        refine w_run 1 (S' := (42, [(3, vR (σ.2.1 80214 h 0)), (0, vR (some h)), (1, vI n), (2, vI b)], [vR (some h)], sI σ 140000 a3 n.toNatClampNeg ((σ.1 140000 a3 n.toNatClampNeg) - 1), 0, 0)) rfl ?_
        refine w_get (k := 8) (vR (σ.2.1 80113 h 0)) rfl rfl rfl hk rfl rfl ?_
        refine w_run 1 (S' := (46, [(3, vR (σ.2.1 80214 h 0)), (0, vR (some h)), (1, vI n), (2, vI b)], [vI n, vR (σ.2.1 80113 h 0)], sI σ 140000 a3 n.toNatClampNeg ((σ.1 140000 a3 n.toNatClampNeg) - 1), 0, 0)) rfl ?_
        refine w_iald (k := 13) rfl h2 (hw 80113 h 0 a2 h2 (by decide)) rfl (show vp_in n 16 from in_lt e1 e2 (by decide) (by decide)) ?_
        show WG _ _ _ _ _ _ _ (47, [(3, vR (σ.2.1 80214 h 0)), (0, vR (some h)), (1, vI n), (2, vI b)], [vI (σ.1 130000 a2 n.toNatClampNeg)], sI σ 140000 a3 n.toNatClampNeg ((σ.1 140000 a3 n.toNatClampNeg) - 1), 0, 0)
        refine w_if_ne rfl (fun c4 => ?_) (fun c4 => ?_)
        · refine w_run 1 (S' := (77, [(3, vR (σ.2.1 80214 h 0)), (0, vR (some h)), (1, vI n), (2, vI b)], [vI 1], sI σ 140000 a3 n.toNatClampNeg ((σ.1 140000 a3 n.toNatClampNeg) - 1), 0, 0)) rfl ?_
          exact w_iret rfl (Or.inr ⟨rfl, Or.inr rfl⟩) (by omega) (by omega) (⟨by simp [takeFromF, c1, c2, c3, c4], by simp [takeFromF, dropS, rII, rIs, c1, c2, c3, c4]⟩)
        · refine w_run 1 (S' := (51, [(3, vR (σ.2.1 80214 h 0)), (0, vR (some h)), (1, vI n), (2, vI b)], [vR (some h)], sI σ 140000 a3 n.toNatClampNeg ((σ.1 140000 a3 n.toNatClampNeg) - 1), 0, 0)) rfl ?_
          refine w_get (k := 8) (vR (σ.2.1 80214 h 0)) rfl rfl rfl hk rfl rfl ?_
          refine w_run 1 (S' := (55, [(3, vR (σ.2.1 80214 h 0)), (0, vR (some h)), (1, vI n), (2, vI b)], [vI n, vR (σ.2.1 80214 h 0)], sI σ 140000 a3 n.toNatClampNeg ((σ.1 140000 a3 n.toNatClampNeg) - 1), 0, 0)) rfl ?_
          refine w_iald (k := 14) rfl h3 (hw 80214 h 0 a3 h3 (by decide)) rfl (show vp_in n 16 from in_lt e1 e2 (by decide) (by decide)) ?_
          show WG _ _ _ _ _ _ _ (56, [(3, vR (σ.2.1 80214 h 0)), (0, vR (some h)), (1, vI n), (2, vI b)], [vI ((sI σ 140000 a3 n.toNatClampNeg ((σ.1 140000 a3 n.toNatClampNeg) - 1)).1 140000 a3 n.toNatClampNeg)], sI σ 140000 a3 n.toNatClampNeg ((σ.1 140000 a3 n.toNatClampNeg) - 1), 0, 0)
          rw [rIs]
          show WG _ _ _ _ _ _ _ (56, [(3, vR (σ.2.1 80214 h 0)), (0, vR (some h)), (1, vI n), (2, vI b)], [vI ((σ.1 140000 a3 n.toNatClampNeg) - 1)], sI σ 140000 a3 n.toNatClampNeg ((σ.1 140000 a3 n.toNatClampNeg) - 1), 0, 0)
          refine w_if_ne rfl (fun c5 => ?_) (fun c5 => ?_)
          · refine w_run 1 (S' := (77, [(3, vR (σ.2.1 80214 h 0)), (0, vR (some h)), (1, vI n), (2, vI b)], [vI 1], sI σ 140000 a3 n.toNatClampNeg ((σ.1 140000 a3 n.toNatClampNeg) - 1), 0, 0)) rfl ?_
            exact w_iret rfl (Or.inr ⟨rfl, Or.inr rfl⟩) (by omega) (by omega) (⟨by simp [takeFromF, c1, c2, c3, c4, c5], by simp [takeFromF, dropS, rII, rIs, c1, c2, c3, c4, c5]⟩)
          · refine w_run 1 (S' := (60, [(3, vR (σ.2.1 80214 h 0)), (0, vR (some h)), (1, vI n), (2, vI b)], [vR (some h)], sI σ 140000 a3 n.toNatClampNeg ((σ.1 140000 a3 n.toNatClampNeg) - 1), 0, 0)) rfl ?_
            refine w_get (k := 8) (vR (σ.2.1 80012 h 0)) rfl rfl rfl hk rfl rfl ?_
            refine w_run 2 (S' := (65, [(3, vR (σ.2.1 80214 h 0)), (0, vR (some h)), (1, vI n), (2, vI b)], [vR none, vI n, vR (σ.2.1 80012 h 0)], sI σ 140000 a3 n.toNatClampNeg ((σ.1 140000 a3 n.toNatClampNeg) - 1), 0, 0)) rfl ?_
            refine w_aastN (k := 12) rfl h1 (hw 80012 h 0 a1 h1 (by decide)) rfl (by decide) rfl (show vp_in n 16 from in_lt e1 e2 (by decide) (by decide)) ?_
            show WG _ _ _ _ _ _ _ (66, [(3, vR (σ.2.1 80214 h 0)), (0, vR (some h)), (1, vI n), (2, vI b)], [], sO (sI σ 140000 a3 n.toNatClampNeg ((σ.1 140000 a3 n.toNatClampNeg) - 1)) 120003 a1 n.toNatClampNeg none, 0, 0)
            refine w_run 2 (S' := (68, [(3, vR (σ.2.1 80214 h 0)), (0, vR (some h)), (1, vI n), (2, vI b)], [vR (some h), vR (some h)], sO (sI σ 140000 a3 n.toNatClampNeg ((σ.1 140000 a3 n.toNatClampNeg) - 1)) 120003 a1 n.toNatClampNeg none, 0, 0)) rfl ?_
            refine w_get (k := 8) (vI (σ.1 80300 h 0)) rfl rfl rfl hk rfl rfl ?_
            refine w_run 2 (S' := (73, [(3, vR (σ.2.1 80214 h 0)), (0, vR (some h)), (1, vI n), (2, vI b)], [vI ((σ.1 80300 h 0) - 1), vR (some h)], sO (sI σ 140000 a3 n.toNatClampNeg ((σ.1 140000 a3 n.toNatClampNeg) - 1)) 120003 a1 n.toNatClampNeg none, 0, 0)) rfl ?_
            refine w_puti (k := 8) rfl rfl rfl hk rfl rfl (Or.inl rfl) (Or.inl rfl) ?_
            show WG _ _ _ _ _ _ _ (76, [(3, vR (σ.2.1 80214 h 0)), (0, vR (some h)), (1, vI n), (2, vI b)], [], sI (sO (sI σ 140000 a3 n.toNatClampNeg ((σ.1 140000 a3 n.toNatClampNeg) - 1)) 120003 a1 n.toNatClampNeg none) 80300 h 0 ((σ.1 80300 h 0) - 1), 0, 0)
            refine w_run 1 (S' := (77, [(3, vR (σ.2.1 80214 h 0)), (0, vR (some h)), (1, vI n), (2, vI b)], [vI 1], sI (sO (sI σ 140000 a3 n.toNatClampNeg ((σ.1 140000 a3 n.toNatClampNeg) - 1)) 120003 a1 n.toNatClampNeg none) 80300 h 0 ((σ.1 80300 h 0) - 1), 0, 0)) rfl ?_
            exact w_iret rfl (Or.inr ⟨rfl, Or.inr rfl⟩) (by omega) (by omega) (⟨by simp [takeFromF, c1, c2, c3, c4, c5], by simp [takeFromF, dropS, rII, rIs, c1, c2, c3, c4, c5]⟩)
      · refine w_run 1 (S' := (33, [(3, vR (σ.2.1 80214 h 0)), (0, vR (some h)), (1, vI n), (2, vI b)], [vI 0], σ, 0, 0)) rfl ?_
        exact w_iret rfl (Or.inr ⟨rfl, Or.inl rfl⟩) (by omega) (by omega) (⟨by simp [takeFromF, c1, c2, c3], by simp [takeFromF, dropS, rII, rIs, c1, c2, c3]⟩)
    · refine w_run 1 (S' := (15, [(0, vR (some h)), (1, vI n), (2, vI b)], [vR (some h)], σ, 0, 0)) rfl ?_
      refine w_get (k := 8) (vR (σ.2.1 80113 h 0)) rfl rfl rfl hk rfl rfl ?_
      refine w_run 4 (S' := (28, [(3, vR (σ.2.1 80113 h 0)), (0, vR (some h)), (1, vI n), (2, vI b)], [vI n, vR (σ.2.1 80113 h 0)], σ, 0, 0)) rfl ?_
      refine w_iald (k := 13) rfl h2 (hw 80113 h 0 a2 h2 (by decide)) rfl (show vp_in n 16 from in_lt e1 e2 (by decide) (by decide)) ?_
      show WG _ _ _ _ _ _ _ (29, [(3, vR (σ.2.1 80113 h 0)), (0, vR (some h)), (1, vI n), (2, vI b)], [vI (σ.1 130000 a2 n.toNatClampNeg)], σ, 0, 0)
      refine w_if_ne rfl (fun c6 => ?_) (fun c6 => ?_)
      · refine w_run 3 (S' := (37, [(3, vR (σ.2.1 80113 h 0)), (0, vR (some h)), (1, vI n), (2, vI b)], [vI n, vR (σ.2.1 80113 h 0), vI n, vR (σ.2.1 80113 h 0)], σ, 0, 0)) rfl ?_
        refine w_iald (k := 13) rfl h2 (hw 80113 h 0 a2 h2 (by decide)) rfl (show vp_in n 16 from in_lt e1 e2 (by decide) (by decide)) ?_
        show WG _ _ _ _ _ _ _ (38, [(3, vR (σ.2.1 80113 h 0)), (0, vR (some h)), (1, vI n), (2, vI b)], [vI (σ.1 130000 a2 n.toNatClampNeg), vI n, vR (σ.2.1 80113 h 0)], σ, 0, 0)
        refine w_run 2 (S' := (40, [(3, vR (σ.2.1 80113 h 0)), (0, vR (some h)), (1, vI n), (2, vI b)], [vI ((σ.1 130000 a2 n.toNatClampNeg) - 1), vI n, vR (σ.2.1 80113 h 0)], σ, 0, 0)) rfl ?_
        refine w_iast (k := 13) rfl h2 (hw 80113 h 0 a2 h2 (by decide)) rfl (show vp_in n 16 from in_lt e1 e2 (by decide) (by decide)) ?_
        show WG _ _ _ _ _ _ _ (41, [(3, vR (σ.2.1 80113 h 0)), (0, vR (some h)), (1, vI n), (2, vI b)], [], sI σ 130000 a2 n.toNatClampNeg ((σ.1 130000 a2 n.toNatClampNeg) - 1), 0, 0)
        refine w_run 1 (S' := (42, [(3, vR (σ.2.1 80113 h 0)), (0, vR (some h)), (1, vI n), (2, vI b)], [vR (some h)], sI σ 130000 a2 n.toNatClampNeg ((σ.1 130000 a2 n.toNatClampNeg) - 1), 0, 0)) rfl ?_
        refine w_get (k := 8) (vR (σ.2.1 80113 h 0)) rfl rfl rfl hk rfl rfl ?_
        refine w_run 1 (S' := (46, [(3, vR (σ.2.1 80113 h 0)), (0, vR (some h)), (1, vI n), (2, vI b)], [vI n, vR (σ.2.1 80113 h 0)], sI σ 130000 a2 n.toNatClampNeg ((σ.1 130000 a2 n.toNatClampNeg) - 1), 0, 0)) rfl ?_
        refine w_iald (k := 13) rfl h2 (hw 80113 h 0 a2 h2 (by decide)) rfl (show vp_in n 16 from in_lt e1 e2 (by decide) (by decide)) ?_
        show WG _ _ _ _ _ _ _ (47, [(3, vR (σ.2.1 80113 h 0)), (0, vR (some h)), (1, vI n), (2, vI b)], [vI ((sI σ 130000 a2 n.toNatClampNeg ((σ.1 130000 a2 n.toNatClampNeg) - 1)).1 130000 a2 n.toNatClampNeg)], sI σ 130000 a2 n.toNatClampNeg ((σ.1 130000 a2 n.toNatClampNeg) - 1), 0, 0)
        rw [rIs]
        show WG _ _ _ _ _ _ _ (47, [(3, vR (σ.2.1 80113 h 0)), (0, vR (some h)), (1, vI n), (2, vI b)], [vI ((σ.1 130000 a2 n.toNatClampNeg) - 1)], sI σ 130000 a2 n.toNatClampNeg ((σ.1 130000 a2 n.toNatClampNeg) - 1), 0, 0)
        refine w_if_ne rfl (fun c7 => ?_) (fun c7 => ?_)
        · refine w_run 1 (S' := (77, [(3, vR (σ.2.1 80113 h 0)), (0, vR (some h)), (1, vI n), (2, vI b)], [vI 1], sI σ 130000 a2 n.toNatClampNeg ((σ.1 130000 a2 n.toNatClampNeg) - 1), 0, 0)) rfl ?_
          exact w_iret rfl (Or.inr ⟨rfl, Or.inr rfl⟩) (by omega) (by omega) (⟨by simp [takeFromF, c1, c2, c6, c7], by simp [takeFromF, dropS, rII, rIs, c1, c2, c6, c7]⟩)
        · refine w_run 1 (S' := (51, [(3, vR (σ.2.1 80113 h 0)), (0, vR (some h)), (1, vI n), (2, vI b)], [vR (some h)], sI σ 130000 a2 n.toNatClampNeg ((σ.1 130000 a2 n.toNatClampNeg) - 1), 0, 0)) rfl ?_
          refine w_get (k := 8) (vR (σ.2.1 80214 h 0)) rfl rfl rfl hk rfl rfl ?_
          refine w_run 1 (S' := (55, [(3, vR (σ.2.1 80113 h 0)), (0, vR (some h)), (1, vI n), (2, vI b)], [vI n, vR (σ.2.1 80214 h 0)], sI σ 130000 a2 n.toNatClampNeg ((σ.1 130000 a2 n.toNatClampNeg) - 1), 0, 0)) rfl ?_
          refine w_iald (k := 14) rfl h3 (hw 80214 h 0 a3 h3 (by decide)) rfl (show vp_in n 16 from in_lt e1 e2 (by decide) (by decide)) ?_
          show WG _ _ _ _ _ _ _ (56, [(3, vR (σ.2.1 80113 h 0)), (0, vR (some h)), (1, vI n), (2, vI b)], [vI (σ.1 140000 a3 n.toNatClampNeg)], sI σ 130000 a2 n.toNatClampNeg ((σ.1 130000 a2 n.toNatClampNeg) - 1), 0, 0)
          refine w_if_ne rfl (fun c8 => ?_) (fun c8 => ?_)
          · refine w_run 1 (S' := (77, [(3, vR (σ.2.1 80113 h 0)), (0, vR (some h)), (1, vI n), (2, vI b)], [vI 1], sI σ 130000 a2 n.toNatClampNeg ((σ.1 130000 a2 n.toNatClampNeg) - 1), 0, 0)) rfl ?_
            exact w_iret rfl (Or.inr ⟨rfl, Or.inr rfl⟩) (by omega) (by omega) (⟨by simp [takeFromF, c1, c2, c6, c7, c8], by simp [takeFromF, dropS, rII, rIs, c1, c2, c6, c7, c8]⟩)
          · refine w_run 1 (S' := (60, [(3, vR (σ.2.1 80113 h 0)), (0, vR (some h)), (1, vI n), (2, vI b)], [vR (some h)], sI σ 130000 a2 n.toNatClampNeg ((σ.1 130000 a2 n.toNatClampNeg) - 1), 0, 0)) rfl ?_
            refine w_get (k := 8) (vR (σ.2.1 80012 h 0)) rfl rfl rfl hk rfl rfl ?_
            refine w_run 2 (S' := (65, [(3, vR (σ.2.1 80113 h 0)), (0, vR (some h)), (1, vI n), (2, vI b)], [vR none, vI n, vR (σ.2.1 80012 h 0)], sI σ 130000 a2 n.toNatClampNeg ((σ.1 130000 a2 n.toNatClampNeg) - 1), 0, 0)) rfl ?_
            refine w_aastN (k := 12) rfl h1 (hw 80012 h 0 a1 h1 (by decide)) rfl (by decide) rfl (show vp_in n 16 from in_lt e1 e2 (by decide) (by decide)) ?_
            show WG _ _ _ _ _ _ _ (66, [(3, vR (σ.2.1 80113 h 0)), (0, vR (some h)), (1, vI n), (2, vI b)], [], sO (sI σ 130000 a2 n.toNatClampNeg ((σ.1 130000 a2 n.toNatClampNeg) - 1)) 120003 a1 n.toNatClampNeg none, 0, 0)
            refine w_run 2 (S' := (68, [(3, vR (σ.2.1 80113 h 0)), (0, vR (some h)), (1, vI n), (2, vI b)], [vR (some h), vR (some h)], sO (sI σ 130000 a2 n.toNatClampNeg ((σ.1 130000 a2 n.toNatClampNeg) - 1)) 120003 a1 n.toNatClampNeg none, 0, 0)) rfl ?_
            refine w_get (k := 8) (vI (σ.1 80300 h 0)) rfl rfl rfl hk rfl rfl ?_
            refine w_run 2 (S' := (73, [(3, vR (σ.2.1 80113 h 0)), (0, vR (some h)), (1, vI n), (2, vI b)], [vI ((σ.1 80300 h 0) - 1), vR (some h)], sO (sI σ 130000 a2 n.toNatClampNeg ((σ.1 130000 a2 n.toNatClampNeg) - 1)) 120003 a1 n.toNatClampNeg none, 0, 0)) rfl ?_
            refine w_puti (k := 8) rfl rfl rfl hk rfl rfl (Or.inl rfl) (Or.inl rfl) ?_
            show WG _ _ _ _ _ _ _ (76, [(3, vR (σ.2.1 80113 h 0)), (0, vR (some h)), (1, vI n), (2, vI b)], [], sI (sO (sI σ 130000 a2 n.toNatClampNeg ((σ.1 130000 a2 n.toNatClampNeg) - 1)) 120003 a1 n.toNatClampNeg none) 80300 h 0 ((σ.1 80300 h 0) - 1), 0, 0)
            refine w_run 1 (S' := (77, [(3, vR (σ.2.1 80113 h 0)), (0, vR (some h)), (1, vI n), (2, vI b)], [vI 1], sI (sO (sI σ 130000 a2 n.toNatClampNeg ((σ.1 130000 a2 n.toNatClampNeg) - 1)) 120003 a1 n.toNatClampNeg none) 80300 h 0 ((σ.1 80300 h 0) - 1), 0, 0)) rfl ?_
            exact w_iret rfl (Or.inr ⟨rfl, Or.inr rfl⟩) (by omega) (by omega) (⟨by simp [takeFromF, c1, c2, c6, c7, c8], by simp [takeFromF, dropS, rII, rIs, c1, c2, c6, c7, c8]⟩)
      · refine w_run 1 (S' := (33, [(3, vR (σ.2.1 80113 h 0)), (0, vR (some h)), (1, vI n), (2, vI b)], [vI 0], σ, 0, 0)) rfl ?_
        exact w_iret rfl (Or.inr ⟨rfl, Or.inl rfl⟩) (by omega) (by omega) (⟨by simp [takeFromF, c1, c2, c6], by simp [takeFromF, dropS, rII, rIs, c1, c2, c6]⟩)
  · refine w_run 1 (S' := (9, [(0, vR (some h)), (1, vI n), (2, vI b)], [vI 0], σ, 0, 0)) rfl ?_
    exact w_iret rfl (Or.inr ⟨rfl, Or.inl rfl⟩) (by omega) (by omega) (⟨by simp [takeFromF, c1], by simp [takeFromF, dropS, rII, rIs, c1]⟩)

def giveF (σ : Sg) (h a1 a2 b : Nat) : Int32 × Sg := if nOf (σ.2.1 120003 a1) (some b) = -1 then (if nOf (σ.2.1 120003 a1) none = -1 then (-1, σ) else (nOf (σ.2.1 120003 a1) none, sI (sI (sO σ 120003 a1 (nOf (σ.2.1 120003 a1) none).toNatClampNeg (some b)) 80300 h 0 (σ.1 80300 h 0 + 1)) 130000 a2 (nOf (σ.2.1 120003 a1) none).toNatClampNeg (σ.1 130000 a2 (nOf (σ.2.1 120003 a1) none).toNatClampNeg + 1))) else (nOf (σ.2.1 120003 a1) (some b), sI σ 130000 a2 (nOf (σ.2.1 120003 a1) (some b)).toNatClampNeg (σ.1 130000 a2 (nOf (σ.2.1 120003 a1) (some b)).toNatClampNeg + 1))
set_option maxHeartbeats 4000000 in
theorem c_hs_giveStrong (l : Launch) (E : FE) (d : Nat) (σ : Sg) (h a1 a2 b dd : Nat) (hd : dd + 2 ≤ d) (hk : σ.2.2.2 h = 8) (h1 : σ.2.1 80012 h 0 = some a1) (h2 : σ.2.1 80113 h 0 = some a2) (hw : WF σ) (hb : σ.2.2.2 b = 3) : CT l E d 20 [vR (some h), vR (some b)] σ 0 0 (fun r σ' => r = some (vI (giveF σ h a1 a2 b).1) ∧ σ' = (giveF σ h a1 a2 b).2) (fun _ _ => False) := by
  refine CTo ok_hs_giveStrong (by decide +kernel) rfl rfl rfl ?_
  refine w_run 2 (S' := (2, [(0, vR (some h)), (1, vR (some b))], [vR (some b), vR (some h)], σ, 0, 0)) rfl ?_
  refine w_callV (st := []) [vR (some b)] rfl ml_7_28 rfl rfl hk rfl rfl rfl (by simp only [RM]; omega) (by simp only [RM]; show 8 + (3 + 11) + _ ≤ _; omega) rfl (by simp only [RM]; omega) (by simp only [RM]; omega) (c_hs_numberOf l E dd σ h a1 (some b) hk h1 hw) (fun _ _ h => h.elim) ?_
  intro r9 s9 q9
  rw [q9.1, q9.2]
  clear q9 r9 s9
  show WG _ _ _ _ _ _ _ (5, [(0, vR (some h)), (1, vR (some b))], [vI (nOf (σ.2.1 120003 a1) (some b))], σ, 0, 0)
  refine w_run 3 (S' := (8, [(2, vI (nOf (σ.2.1 120003 a1) (some b))), (0, vR (some h)), (1, vR (some b))], [vI (-1), vI (nOf (σ.2.1 120003 a1) (some b))], σ, 0, 0)) rfl ?_
  refine w_ic_ne rfl (fun c1 => ?_) (fun c1 => ?_)
  · refine w_run 1 (S' := (41, [(2, vI (nOf (σ.2.1 120003 a1) (some b))), (0, vR (some h)), (1, vR (some b))], [vR (some h)], σ, 0, 0)) rfl ?_
    refine w_get (k := 8) (vR (σ.2.1 80113 h 0)) rfl rfl rfl hk rfl rfl ?_
    refine w_run 2 (S' := (46, [(2, vI (nOf (σ.2.1 120003 a1) (some b))), (0, vR (some h)), (1, vR (some b))], [vI (nOf (σ.2.1 120003 a1) (some b)), vR (σ.2.1 80113 h 0), vI (nOf (σ.2.1 120003 a1) (some b)), vR (σ.2.1 80113 h 0)], σ, 0, 0)) rfl ?_
    refine w_iald (k := 13) rfl h2 (hw 80113 h 0 a2 h2 (by decide)) rfl (show vp_in (nOf (σ.2.1 120003 a1) (some b)) 16 from nOf_in (by assumption)) ?_
    show WG _ _ _ _ _ _ _ (47, [(2, vI (nOf (σ.2.1 120003 a1) (some b))), (0, vR (some h)), (1, vR (some b))], [vI (σ.1 130000 a2 ((nOf (σ.2.1 120003 a1) (some b)).toNatClampNeg)), vI (nOf (σ.2.1 120003 a1) (some b)), vR (σ.2.1 80113 h 0)], σ, 0, 0)
    refine w_run 2 (S' := (49, [(2, vI (nOf (σ.2.1 120003 a1) (some b))), (0, vR (some h)), (1, vR (some b))], [vI ((σ.1 130000 a2 ((nOf (σ.2.1 120003 a1) (some b)).toNatClampNeg)) + 1), vI (nOf (σ.2.1 120003 a1) (some b)), vR (σ.2.1 80113 h 0)], σ, 0, 0)) rfl ?_
    refine w_iast (k := 13) rfl h2 (hw 80113 h 0 a2 h2 (by decide)) rfl (show vp_in (nOf (σ.2.1 120003 a1) (some b)) 16 from nOf_in (by assumption)) ?_
    show WG _ _ _ _ _ _ _ (50, [(2, vI (nOf (σ.2.1 120003 a1) (some b))), (0, vR (some h)), (1, vR (some b))], [], sI σ 130000 a2 ((nOf (σ.2.1 120003 a1) (some b)).toNatClampNeg) ((σ.1 130000 a2 ((nOf (σ.2.1 120003 a1) (some b)).toNatClampNeg)) + 1), 0, 0)
    refine w_run 1 (S' := (51, [(2, vI (nOf (σ.2.1 120003 a1) (some b))), (0, vR (some h)), (1, vR (some b))], [vI (nOf (σ.2.1 120003 a1) (some b))], sI σ 130000 a2 ((nOf (σ.2.1 120003 a1) (some b)).toNatClampNeg) ((σ.1 130000 a2 ((nOf (σ.2.1 120003 a1) (some b)).toNatClampNeg)) + 1), 0, 0)) rfl ?_
    exact w_iret rfl (Or.inl rfl) (by omega) (by omega) (⟨by simp [giveF, c1], by simp [giveF, c1]⟩)
  · refine w_run 1 (S' := (12, [(2, vI (nOf (σ.2.1 120003 a1) (some b))), (0, vR (some h)), (1, vR (some b))], [vR (some h)], σ, 0, 0)) rfl ?_
    refine w_callV (st := []) [] rfl ml_7_32 rfl rfl hk rfl rfl rfl (by simp only [RM]; omega) (by simp only [RM]; show 8 + (1 + 11) + _ ≤ _; omega) rfl (by simp only [RM]; omega) (by simp only [RM]; omega) (c_hs_leastFree l E (dd + 1) σ h a1 dd (by omega) hk h1 hw) (fun _ _ h => h.elim) ?_
    intro r9 s9 q9
    rw [q9.1, q9.2]
    clear q9 r9 s9
    show WG _ _ _ _ _ _ _ (15, [(2, vI (nOf (σ.2.1 120003 a1) (some b))), (0, vR (some h)), (1, vR (some b))], [vI (nOf (σ.2.1 120003 a1) none)], σ, 0, 0)
    refine w_run 3 (S' := (18, [(2, vI (nOf (σ.2.1 120003 a1) none)), (0, vR (some h)), (1, vR (some b))], [vI (-1), vI (nOf (σ.2.1 120003 a1) none)], σ, 0, 0)) rfl ?_
    refine w_ic_ne rfl (fun c2 => ?_) (fun c2 => ?_)
    · refine w_run 1 (S' := (24, [(2, vI (nOf (σ.2.1 120003 a1) none)), (0, vR (some h)), (1, vR (some b))], [vR (some h)], σ, 0, 0)) rfl ?_
      refine w_get (k := 8) (vR (σ.2.1 80012 h 0)) rfl rfl rfl hk rfl rfl ?_
      refine w_run 2 (S' := (29, [(2, vI (nOf (σ.2.1 120003 a1) none)), (0, vR (some h)), (1, vR (some b))], [vR (some b), vI (nOf (σ.2.1 120003 a1) none), vR (σ.2.1 80012 h 0)], σ, 0, 0)) rfl ?_
      refine w_aast (k := 12) rfl h1 (hw 80012 h 0 a1 h1 (by decide)) rfl (by decide) rfl hb rfl rfl rfl (show vp_in (nOf (σ.2.1 120003 a1) none) 16 from nOf_in (by assumption)) ?_
      show WG _ _ _ _ _ _ _ (30, [(2, vI (nOf (σ.2.1 120003 a1) none)), (0, vR (some h)), (1, vR (some b))], [], sO σ 120003 a1 ((nOf (σ.2.1 120003 a1) none).toNatClampNeg) (some b), 0, 0)
      refine w_run 2 (S' := (32, [(2, vI (nOf (σ.2.1 120003 a1) none)), (0, vR (some h)), (1, vR (some b))], [vR (some h), vR (some h)], sO σ 120003 a1 ((nOf (σ.2.1 120003 a1) none).toNatClampNeg) (some b), 0, 0)) rfl ?_
      refine w_get (k := 8) (vI (σ.1 80300 h 0)) rfl rfl rfl hk rfl rfl ?_
      refine w_run 2 (S' := (37, [(2, vI (nOf (σ.2.1 120003 a1) none)), (0, vR (some h)), (1, vR (some b))], [vI ((σ.1 80300 h 0) + 1), vR (some h)], sO σ 120003 a1 ((nOf (σ.2.1 120003 a1) none).toNatClampNeg) (some b), 0, 0)) rfl ?_
      refine w_puti (k := 8) rfl rfl rfl hk rfl rfl (Or.inl rfl) (Or.inl rfl) ?_
      show WG _ _ _ _ _ _ _ (40, [(2, vI (nOf (σ.2.1 120003 a1) none)), (0, vR (some h)), (1, vR (some b))], [], sI (sO σ 120003 a1 ((nOf (σ.2.1 120003 a1) none).toNatClampNeg) (some b)) 80300 h 0 ((σ.1 80300 h 0) + 1), 0, 0)
      refine w_run 1 (S' := (41, [(2, vI (nOf (σ.2.1 120003 a1) none)), (0, vR (some h)), (1, vR (some b))], [vR (some h)], sI (sO σ 120003 a1 ((nOf (σ.2.1 120003 a1) none).toNatClampNeg) (some b)) 80300 h 0 ((σ.1 80300 h 0) + 1), 0, 0)) rfl ?_
      refine w_get (k := 8) (vR (σ.2.1 80113 h 0)) rfl rfl rfl hk rfl rfl ?_
      refine w_run 2 (S' := (46, [(2, vI (nOf (σ.2.1 120003 a1) none)), (0, vR (some h)), (1, vR (some b))], [vI (nOf (σ.2.1 120003 a1) none), vR (σ.2.1 80113 h 0), vI (nOf (σ.2.1 120003 a1) none), vR (σ.2.1 80113 h 0)], sI (sO σ 120003 a1 ((nOf (σ.2.1 120003 a1) none).toNatClampNeg) (some b)) 80300 h 0 ((σ.1 80300 h 0) + 1), 0, 0)) rfl ?_
      refine w_iald (k := 13) rfl h2 (hw 80113 h 0 a2 h2 (by decide)) rfl (show vp_in (nOf (σ.2.1 120003 a1) none) 16 from nOf_in (by assumption)) ?_
      show WG _ _ _ _ _ _ _ (47, [(2, vI (nOf (σ.2.1 120003 a1) none)), (0, vR (some h)), (1, vR (some b))], [vI (σ.1 130000 a2 ((nOf (σ.2.1 120003 a1) none).toNatClampNeg)), vI (nOf (σ.2.1 120003 a1) none), vR (σ.2.1 80113 h 0)], sI (sO σ 120003 a1 ((nOf (σ.2.1 120003 a1) none).toNatClampNeg) (some b)) 80300 h 0 ((σ.1 80300 h 0) + 1), 0, 0)
      refine w_run 2 (S' := (49, [(2, vI (nOf (σ.2.1 120003 a1) none)), (0, vR (some h)), (1, vR (some b))], [vI ((σ.1 130000 a2 ((nOf (σ.2.1 120003 a1) none).toNatClampNeg)) + 1), vI (nOf (σ.2.1 120003 a1) none), vR (σ.2.1 80113 h 0)], sI (sO σ 120003 a1 ((nOf (σ.2.1 120003 a1) none).toNatClampNeg) (some b)) 80300 h 0 ((σ.1 80300 h 0) + 1), 0, 0)) rfl ?_
      refine w_iast (k := 13) rfl h2 (hw 80113 h 0 a2 h2 (by decide)) rfl (show vp_in (nOf (σ.2.1 120003 a1) none) 16 from nOf_in (by assumption)) ?_
      show WG _ _ _ _ _ _ _ (50, [(2, vI (nOf (σ.2.1 120003 a1) none)), (0, vR (some h)), (1, vR (some b))], [], sI (sI (sO σ 120003 a1 ((nOf (σ.2.1 120003 a1) none).toNatClampNeg) (some b)) 80300 h 0 ((σ.1 80300 h 0) + 1)) 130000 a2 ((nOf (σ.2.1 120003 a1) none).toNatClampNeg) ((σ.1 130000 a2 ((nOf (σ.2.1 120003 a1) none).toNatClampNeg)) + 1), 0, 0)
      refine w_run 1 (S' := (51, [(2, vI (nOf (σ.2.1 120003 a1) none)), (0, vR (some h)), (1, vR (some b))], [vI (nOf (σ.2.1 120003 a1) none)], sI (sI (sO σ 120003 a1 ((nOf (σ.2.1 120003 a1) none).toNatClampNeg) (some b)) 80300 h 0 ((σ.1 80300 h 0) + 1)) 130000 a2 ((nOf (σ.2.1 120003 a1) none).toNatClampNeg) ((σ.1 130000 a2 ((nOf (σ.2.1 120003 a1) none).toNatClampNeg)) + 1), 0, 0)) rfl ?_
      exact w_iret rfl (Or.inl rfl) (by omega) (by omega) (⟨by simp [giveF, c1, c2], by simp [giveF, c1, c2]⟩)
    · refine w_run 1 (S' := (22, [(2, vI (nOf (σ.2.1 120003 a1) none)), (0, vR (some h)), (1, vR (some b))], [vI (-1)], σ, 0, 0)) rfl ?_
      exact w_iret rfl (Or.inl rfl) (by omega) (by omega) (⟨by simp [giveF, c1, c2], by simp [giveF, c1, c2]⟩)

def loseF (σ : Sg) (h a1 a2 a3 : Nat) (v : Option Nat) : Sg := if v = none then σ else (takeFromF σ h a1 a2 a3 (nOf (σ.2.1 120003 a1) v) 1).2
set_option maxHeartbeats 4000000 in
theorem c_hs_loseStrong (l : Launch) (E : FE) (d : Nat) (σ : Sg) (h a1 a2 a3 dd : Nat) (v : Option Nat) (hd : dd + 2 ≤ d) (hk : σ.2.2.2 h = 8) (h1 : σ.2.1 80012 h 0 = some a1) (h2 : σ.2.1 80113 h 0 = some a2) (h3 : σ.2.1 80214 h 0 = some a3) (hw : WF σ) : CT l E d 21 [vR (some h), vR v] σ 0 0 (fun r σ' => r = none ∧ σ' = loseF σ h a1 a2 a3 v) (fun _ _ => False) := by
  refine CTo ok_hs_loseStrong (by decide +kernel) rfl rfl rfl ?_
  refine w_run 1 (S' := (1, [(0, vR (some h)), (1, vR v)], [vR v], σ, 0, 0)) rfl ?_
  refine w_null rfl (fun c1 => ?_) (fun b2 c1 => ?_)
  · exact w_vret rfl rfl (by omega) (by omega) (⟨rfl, by simp [loseF, c1]⟩)
  · refine w_run 3 (S' := (7, [(0, vR (some h)), (1, vR v)], [vR v, vR (some h), vR (some h)], σ, 0, 0)) rfl ?_
    refine w_callV (st := [vR (some h)]) [vR v] rfl ml_7_28 rfl rfl hk rfl rfl rfl (by simp only [RM]; omega) (by simp only [RM]; show 8 + (3 + 11) + _ ≤ _; omega) rfl (by simp only [RM]; omega) (by simp only [RM]; omega) (c_hs_numberOf l E dd σ h a1 v hk h1 hw) (fun _ _ h => h.elim) ?_
    intro r9 s9 q9
    rw [q9.1, q9.2]
    clear q9 r9 s9
    show WG _ _ _ _ _ _ _ (10, [(0, vR (some h)), (1, vR v)], [vI (nOf (σ.2.1 120003 a1) v), vR (some h)], σ, 0, 0)
    refine w_run 1 (S' := (11, [(0, vR (some h)), (1, vR v)], [vI 1, vI (nOf (σ.2.1 120003 a1) v), vR (some h)], σ, 0, 0)) rfl ?_
    refine w_callV (st := []) [vI (nOf (σ.2.1 120003 a1) v), vI 1] rfl ml_7_40 rfl rfl hk rfl rfl rfl (by simp only [RM]; omega) (by simp only [RM]; show 8 + (4 + 11) + _ ≤ _; omega) rfl (by simp only [RM]; omega) (by simp only [RM]; omega) (c_hs_takeFrom l E (dd + 1) σ h a1 a2 a3 dd (nOf (σ.2.1 120003 a1) v) 1 (by omega) hk h1 h2 h3 hw) (fun _ _ h => h.elim) ?_
    intro r9 s9 q9
    rw [q9.1, q9.2]
    clear q9 r9 s9
    show WG _ _ _ _ _ _ _ (14, [(0, vR (some h)), (1, vR v)], [vI ((takeFromF σ h a1 a2 a3 (nOf (σ.2.1 120003 a1) v) 1).1)], (takeFromF σ h a1 a2 a3 (nOf (σ.2.1 120003 a1) v) 1).2, 0, 0)
    refine w_run 1 (S' := (15, [(0, vR (some h)), (1, vR v)], [], (takeFromF σ h a1 a2 a3 (nOf (σ.2.1 120003 a1) v) 1).2, 0, 0)) rfl ?_
    exact w_vret rfl rfl (by omega) (by omega) (⟨rfl, by simp [loseF, c1]⟩)

