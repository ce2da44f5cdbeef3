/-! the model: its cells, and its small methods -/
def mcd : Nat → Nat := fun j => match j with
  | 0 => 500151
  | 1 => 500252
  | 2 => 500453
  | 3 => 500554
  | 4 => 500655
  | 5 => 500756
  | 6 => 500857
  | 7 => 500958
  | 8 => 501059
  | 9 => 501160
  | 10 => 501261
  | 11 => 501362
  | 12 => 501463
  | 13 => 501564
  | 14 => 501665
  | 15 => 501766
  | 16 => 501867
  | 17 => 501968
  | 18 => 502069
  | 19 => 502170
  | 20 => 502271
  | 21 => 502472
  | 22 => 502573
  | 23 => 502674
  | 24 => 502775
  | 25 => 502876
  | 26 => 502977
  | 27 => 503078
  | 28 => 503179
  | 29 => 503280
  | 30 => 503381
  | _ => 0
/-- m is the model, its arrays lie at A -/
def MO (σ : Sg) (m : Nat) (A : Nat → Nat) : Prop := σ.2.2.2 m = 50 ∧ ∀ j, j < 31 → σ.2.1 (mcd j) m 0 = some (A j) ∧ σ.2.2.2 (A j) = 51 + j
set_option maxHeartbeats 4000000 in
theorem c_mo_thrown (l : Launch) (E : FE) (d : Nat) (σ : Sg) (m : Nat) (A : Nat → Nat) (hM : MO σ m A) : CT l E d 71 [vR (some m)] σ 0 0 (fun r σ' => r = some (vI (σ.1 500000 m 0)) ∧ σ' = σ) (fun _ _ => False) := by
  refine CTo ok_mo_thrown (by decide +kernel) rfl rfl rfl ?_
  refine w_run 1 (S' := (1, [(0, vR (some m))], [vR (some m)], σ, 0, 0)) rfl ?_
  refine w_get (k := 50) (vI (σ.1 500000 m 0)) rfl rfl rfl hM.1 rfl rfl ?_
  exact w_iret rfl (Or.inl rfl) (by omega) (by omega) (⟨rfl, rfl⟩)

def absF (al : Nat → Int32) (p : Int32) : Int32 := if p < 0 then 1 else if p ≤ 3 then (if al p.toNatClampNeg = 0 then 2 else 0) else 1
set_option maxHeartbeats 4000000 in
theorem c_mo_absent (l : Launch) (E : FE) (d : Nat) (σ : Sg) (m : Nat) (A : Nat → Nat) (p : Int32) (hM : MO σ m A) : CT l E d 72 [vR (some m), vI p] σ 0 0 (fun r σ' => r = some (vI (if absF (σ.1 510000 (A 0)) p = 0 then 0 else 1)) ∧ σ' = sI σ 500000 m 0 (absF (σ.1 510000 (A 0)) p)) (fun _ _ => False) := by
  refine CTo ok_mo_absent (by decide +kernel) rfl rfl rfl ?_
  refine w_run 2 (S' := (2, [(0, vR (some m)), (1, vI p)], [vI p, vR (some m)], σ, 0, 0)) rfl ?_
  refine w_if_lt rfl (fun c1 => ?_) (fun c1 => ?_)
  · refine w_run 2 (S' := (28, [(0, vR (some m)), (1, vI p)], [vI 1, vR (some m)], σ, 0, 0)) rfl ?_
    refine w_puti (k := 50) rfl rfl rfl hM.1 rfl rfl (Or.inl rfl) (Or.inl rfl) ?_
    show WG _ _ _ _ _ _ _ (31, [(0, vR (some m)), (1, vI p)], [], sI σ 500000 m 0 1, 0, 0)
    refine w_run 1 (S' := (32, [(0, vR (some m)), (1, vI p)], [vR (some m)], sI σ 500000 m 0 1, 0, 0)) rfl ?_
    refine w_get (k := 50) (vI 1) rfl rfl rfl hM.1 rfl (by simp [mkF, sI, sO, sN, sA]) ?_
    refine w_if_le rfl (fun c2 => (absurd ((nI_leI (a := 1) (b := 0) (by omega) (by omega)).mp c2) (by omega))) (fun c2 => ?_)
    have nc2 := mt (nI_leI (a := 1) (b := 0) (by omega) (by omega)).mpr c2
    refine w_run 2 (S' := (43, [(0, vR (some m)), (1, vI p)], [vI 1], sI σ 500000 m 0 1, 0, 0)) rfl ?_
    exact w_iret rfl (Or.inr ⟨rfl, Or.inr rfl⟩) (by omega) (by omega) (⟨by simp [absF, c1, c2], by simp [absF, c1, c2]⟩)
  · refine w_run 2 (S' := (7, [(0, vR (some m)), (1, vI p)], [vI 3, vI p, vR (some m)], σ, 0, 0)) rfl ?_
    refine w_ic_le rfl (fun c3 => ?_) (fun c3 => ?_)
    · refine w_run 1 (S' := (15, [(0, vR (some m)), (1, vI p)], [vR (some m), vR (some m)], σ, 0, 0)) rfl ?_
      refine w_get (k := 50) (vR (σ.2.1 500151 m 0)) rfl rfl rfl hM.1 rfl rfl ?_
      refine w_run 1 (S' := (19, [(0, vR (some m)), (1, vI p)], [vI p, vR (σ.2.1 500151 m 0), vR (some m)], σ, 0, 0)) rfl ?_
      refine w_zald (k := 51) rfl ((hM.2 0 (by decide)).1) ((hM.2 0 (by decide)).2) rfl (show vp_in p 4 from in_lt (hi := 3) (by assumption) (by first | assumption | exact Int32.not_lt.mpr (by assumption)) (by decide) (by decide)) ?_
      show WG _ _ _ _ _ _ _ (20, [(0, vR (some m)), (1, vI p)], [vI (σ.1 510000 (A 0) p.toNatClampNeg), vR (some m)], σ, 0, 0)
      refine w_if_eq rfl (fun c4 => ?_) (fun c4 => ?_)
      · refine w_run 1 (S' := (28, [(0, vR (some m)), (1, vI p)], [vI 2, vR (some m)], σ, 0, 0)) rfl ?_
        refine w_puti (k := 50) rfl rfl rfl hM.1 rfl rfl (Or.inl rfl) (Or.inl rfl) ?_
        show WG _ _ _ _ _ _ _ (31, [(0, vR (some m)), (1, vI p)], [], sI σ 500000 m 0 2, 0, 0)
        refine w_run 1 (S' := (32, [(0, vR (some m)), (1, vI p)], [vR (some m)], sI σ 500000 m 0 2, 0, 0)) rfl ?_
        refine w_get (k := 50) (vI 2) rfl rfl rfl hM.1 rfl (by simp [mkF, sI, sO, sN, sA]) ?_
        refine w_if_le rfl (fun c5 => (absurd ((nI_leI (a := 2) (b := 0) (by omega) (by omega)).mp c5) (by omega))) (fun c5 => ?_)
        have nc5 := mt (nI_leI (a := 2) (b := 0) (by omega) (by omega)).mpr c5
        refine w_run 2 (S' := (43, [(0, vR (some m)), (1, vI p)], [vI 1], sI σ 500000 m 0 2, 0, 0)) rfl ?_
        exact w_iret rfl (Or.inr ⟨rfl, Or.inr rfl⟩) (by omega) (by omega) (⟨by simp [absF, c1, c3, c4, c5], by simp [absF, c1, c3, c4, c5]⟩)
      · refine w_run 2 (S' := (28, [(0, vR (some m)), (1, vI p)], [vI 0, vR (some m)], σ, 0, 0)) rfl ?_
        refine w_puti (k := 50) rfl rfl rfl hM.1 rfl rfl (Or.inl rfl) (Or.inl rfl) ?_
        show WG _ _ _ _ _ _ _ (31, [(0, vR (some m)), (1, vI p)], [], sI σ 500000 m 0 0, 0, 0)
        refine w_run 1 (S' := (32, [(0, vR (some m)), (1, vI p)], [vR (some m)], sI σ 500000 m 0 0, 0, 0)) rfl ?_
        refine w_get (k := 50) (vI 0) rfl rfl rfl hM.1 rfl (by simp [mkF, sI, sO, sN, sA]) ?_
        refine w_if_le rfl (fun c6 => ?_) (fun c6 => (absurd ((nI_leI (a := 0) (b := 0) (by omega) (by omega)).mpr (by omega)) c6))
        have nc6 := (nI_leI (a := 0) (b := 0) (by omega) (by omega)).mp c6
        refine w_run 1 (S' := (43, [(0, vR (some m)), (1, vI p)], [vI 0], sI σ 500000 m 0 0, 0, 0)) rfl ?_
        exact w_iret rfl (Or.inr ⟨rfl, Or.inl rfl⟩) (by omega) (by omega) (⟨by simp [absF, c1, c3, c4, c6], by simp [absF, c1, c3, c4, c6]⟩)
    · refine w_run 2 (S' := (28, [(0, vR (some m)), (1, vI p)], [vI 1, vR (some m)], σ, 0, 0)) rfl ?_
      refine w_puti (k := 50) rfl rfl rfl hM.1 rfl rfl (Or.inl rfl) (Or.inl rfl) ?_
      show WG _ _ _ _ _ _ _ (31, [(0, vR (some m)), (1, vI p)], [], sI σ 500000 m 0 1, 0, 0)
      refine w_run 1 (S' := (32, [(0, vR (some m)), (1, vI p)], [vR (some m)], sI σ 500000 m 0 1, 0, 0)) rfl ?_
      refine w_get (k := 50) (vI 1) rfl rfl rfl hM.1 rfl (by simp [mkF, sI, sO, sN, sA]) ?_
      refine w_if_le rfl (fun c7 => (absurd ((nI_leI (a := 1) (b := 0) (by omega) (by omega)).mp c7) (by omega))) (fun c7 => ?_)
      have nc7 := mt (nI_leI (a := 1) (b := 0) (by omega) (by omega)).mpr c7
      refine w_run 2 (S' := (43, [(0, vR (some m)), (1, vI p)], [vI 1], sI σ 500000 m 0 1, 0, 0)) rfl ?_
      exact w_iret rfl (Or.inr ⟨rfl, Or.inr rfl⟩) (by omega) (by omega) (⟨by simp [absF, c1, c3, c7], by simp [absF, c1, c3, c7]⟩)

set_option maxHeartbeats 4000000 in
theorem c_mo_processOf (l : Launch) (E : FE) (d : Nat) (σ : Sg) (v : Nat) (hv : v < 2 ^ 31) : CT l E d 74 [vI (nI v)] σ 0 0 (fun r σ' => r = some (vI (nI (v / 10 % 4))) ∧ σ' = σ) (fun _ _ => False) := by
  refine CTo ok_mo_processOf (by decide +kernel) rfl rfl rfl ?_
  refine w_run 2 (S' := (3, [(0, vI (nI v))], [vI 10, vI (nI v)], σ, 0, 0)) rfl ?_
  refine w_idiv rfl (by decide) ?_
  rw [show ((nI v) / 10 : Int32) = nI (v / 10) from pk_div (a := v) (d := 10) (by omega) (by decide) (by decide)]
  show WG _ _ _ _ _ _ _ (4, [(0, vI (nI v))], [vI (nI (v / 10))], σ, 0, 0)
  refine w_run 1 (S' := (5, [(0, vI (nI v))], [vI 4, vI (nI (v / 10))], σ, 0, 0)) rfl ?_
  refine w_irem rfl (by decide) ?_
  rw [show ((nI (v / 10)) - (nI (v / 10)) / 4 * 4 : Int32) = nI ((v / 10) % 4) from pk_rem (a := v / 10) (d := 4) (by omega) (by decide) (by decide)]
  show WG _ _ _ _ _ _ _ (6, [(0, vI (nI v))], [vI (nI ((v / 10) % 4))], σ, 0, 0)
  exact w_iret rfl (Or.inl rfl) (by omega) (by omega) (⟨rfl, rfl⟩)

def ikF (k : Int32) : Int32 := if k < 0 then 0 else if 9 < k then 0 else 1
set_option maxHeartbeats 4000000 in
theorem c_mo_isKey (l : Launch) (E : FE) (d : Nat) (σ : Sg) (k : Int32) : CT l E d 76 [vI k] σ 0 0 (fun r σ' => r = some (vI (ikF k)) ∧ σ' = σ) (fun _ _ => False) := by
  refine CTo ok_mo_isKey (by decide +kernel) rfl rfl rfl ?_
  refine w_run 1 (S' := (1, [(0, vI k)], [vI k], σ, 0, 0)) rfl ?_
  refine w_if_lt rfl (fun c1 => ?_) (fun c1 => ?_)
  · refine w_run 1 (S' := (15, [(0, vI k)], [vI 0], σ, 0, 0)) rfl ?_
    exact w_iret rfl (Or.inr ⟨rfl, Or.inl rfl⟩) (by omega) (by omega) (⟨by simp [ikF, c1], rfl⟩)
  · refine w_run 2 (S' := (7, [(0, vI k)], [vI 9, vI k], σ, 0, 0)) rfl ?_
    refine w_ic_gt rfl (fun c2 => ?_) (fun c2 => ?_)
    · refine w_run 1 (S' := (15, [(0, vI k)], [vI 0], σ, 0, 0)) rfl ?_
      exact w_iret rfl (Or.inr ⟨rfl, Or.inl rfl⟩) (by omega) (by omega) (⟨by simp [ikF, c1, c2], rfl⟩)
    · refine w_run 2 (S' := (15, [(0, vI k)], [vI 1], σ, 0, 0)) rfl ?_
      exact w_iret rfl (Or.inr ⟨rfl, Or.inr rfl⟩) (by omega) (by omega) (⟨by simp [ikF, c1, c2], rfl⟩)

set_option maxHeartbeats 4000000 in
theorem c_mo_node (l : Launch) (E : FE) (d : Nat) (σ : Sg) (m : Nat) (A : Nat → Nat) (p : Nat) (k : Int32) (hM : MO σ m A) (hp : p < 4) : CT l E d 73 [vR (some m), vI (nI p), vI k] σ 0 0 (fun r σ' => r = some (vI (40 * σ.1 520000 (A 1) p + 10 * nI p + k)) ∧ σ' = σ) (fun _ _ => False) := by
  refine CTo ok_mo_node (by decide +kernel) rfl rfl rfl ?_
  refine w_run 2 (S' := (3, [(0, vR (some m)), (1, vI (nI p)), (2, vI k)], [vR (some m), vI 40], σ, 0, 0)) rfl ?_
  refine w_get (k := 50) (vR (σ.2.1 500252 m 0)) rfl rfl rfl hM.1 rfl rfl ?_
  refine w_run 1 (S' := (7, [(0, vR (some m)), (1, vI (nI p)), (2, vI k)], [vI (nI p), vR (σ.2.1 500252 m 0), vI 40], σ, 0, 0)) rfl ?_
  refine w_iald (k := 52) rfl ((hM.2 1 (by decide)).1) ((hM.2 1 (by decide)).2) rfl (show vp_in (nI p) 4 from vp_in_nI (n := p) (by omega) (by decide)) ?_
  show WG _ _ _ _ _ _ _ (8, [(0, vR (some m)), (1, vI (nI p)), (2, vI k)], [vI (σ.1 520000 (A 1) (nI p).toNatClampNeg), vI 40], σ, 0, 0)
  rw [show (nI p : Int32).toNatClampNeg = p from nI_clamp (n := p) (by omega)]
  show WG _ _ _ _ _ _ _ (8, [(0, vR (some m)), (1, vI (nI p)), (2, vI k)], [vI (σ.1 520000 (A 1) p), vI 40], σ, 0, 0)
  refine w_run 7 (S' := (16, [(0, vR (some m)), (1, vI (nI p)), (2, vI k)], [vI (((40 * (σ.1 520000 (A 1) p)) + (10 * (nI p))) + k)], σ, 0, 0)) rfl ?_
  exact w_iret rfl (Or.inl rfl) (by omega) (by omega) (⟨rfl, rfl⟩)

def dedF (al lv : Nat → Int32) (v : Nat) : Int32 := if al (v / 10 % 4) = 0 then 1 else if lv (v / 10 % 4) = nI (v / 40) then 0 else 1
set_option maxHeartbeats 4000000 in
theorem c_mo_isDead (l : Launch) (E : FE) (d : Nat) (σ : Sg) (m : Nat) (A : Nat → Nat) (v dd : Nat) (hM : MO σ m A) (hd : dd + 1 ≤ d) (hv : v < 2 ^ 31) : CT l E d 75 [vR (some m), vI (nI v)] σ 0 0 (fun r σ' => r = some (vI (dedF (σ.1 510000 (A 0)) (σ.1 520000 (A 1)) v)) ∧ σ' = σ) (fun _ _ => False) := by
  refine CTo ok_mo_isDead (by decide +kernel) rfl rfl rfl ?_
  refine w_run 1 (S' := (1, [(0, vR (some m)), (1, vI (nI v))], [vI (nI v)], σ, 0, 0)) rfl ?_
  refine w_callS (st := []) [vI (nI v)] rfl ml_10_111 rfl (by simp only [RM]; omega) (by simp only [RM]; show 8 + (1 + 11) + _ ≤ _; omega) rfl (by simp only [RM]; omega) (by simp only [RM]; omega) (c_mo_processOf l E dd σ v (by omega)) (fun _ _ h => h.elim) ?_
  intro r9 s9 q9
  rw [q9.1, q9.2]
  clear q9 r9 s9
  show WG _ _ _ _ _ _ _ (4, [(0, vR (some m)), (1, vI (nI v))], [vI (nI (v / 10 % 4))], σ, 0, 0)
  refine w_run 2 (S' := (6, [(2, vI (nI (v / 10 % 4))), (0, vR (some m)), (1, vI (nI v))], [vR (some m)], σ, 0, 0)) rfl ?_
  refine w_get (k := 50) (vR (σ.2.1 500151 m 0)) rfl rfl rfl hM.1 rfl rfl ?_
  refine w_run 1 (S' := (10, [(2, vI (nI (v / 10 % 4))), (0, vR (some m)), (1, vI (nI v))], [vI (nI (v / 10 % 4)), vR (σ.2.1 500151 m 0)], σ, 0, 0)) rfl ?_
  refine w_zald (k := 51) rfl ((hM.2 0 (by decide)).1) ((hM.2 0 (by decide)).2) rfl (show vp_in (nI (v / 10 % 4)) 4 from vp_in_nI (n := v / 10 % 4) (by omega) (by decide)) ?_
  show WG _ _ _ _ _ _ _ (11, [(2, vI (nI (v / 10 % 4))), (0, vR (some m)), (1, vI (nI v))], [vI (σ.1 510000 (A 0) (nI (v / 10 % 4)).toNatClampNeg)], σ, 0, 0)
  rw [show (nI (v / 10 % 4) : Int32).toNatClampNeg = v / 10 % 4 from nI_clamp (n := v / 10 % 4) (by omega)]
  show WG _ _ _ _ _ _ _ (11, [(2, vI (nI (v / 10 % 4))), (0, vR (some m)), (1, vI (nI v))], [vI (σ.1 510000 (A 0) (v / 10 % 4))], σ, 0, 0)
  refine w_if_eq rfl (fun c1 => ?_) (fun c1 => ?_)
  · refine w_run 2 (S' := (32, [(2, vI (nI (v / 10 % 4))), (0, vR (some m)), (1, vI (nI v))], [vI 1], σ, 0, 0)) rfl ?_
    exact w_iret rfl (Or.inr ⟨rfl, Or.inr rfl⟩) (by omega) (by omega) (⟨by simp [dedF, c1], rfl⟩)
  · refine w_run 1 (S' := (15, [(2, vI (nI (v / 10 % 4))), (0, vR (some m)), (1, vI (nI v))], [vR (some m)], σ, 0, 0)) rfl ?_
    refine w_get (k := 50) (vR (σ.2.1 500252 m 0)) rfl rfl rfl hM.1 rfl rfl ?_
    refine w_run 1 (S' := (19, [(2, vI (nI (v / 10 % 4))), (0, vR (some m)), (1, vI (nI v))], [vI (nI (v / 10 % 4)), vR (σ.2.1 500252 m 0)], σ, 0, 0)) rfl ?_
    refine w_iald (k := 52) rfl ((hM.2 1 (by decide)).1) ((hM.2 1 (by decide)).2) rfl (show vp_in (nI (v / 10 % 4)) 4 from vp_in_nI (n := v / 10 % 4) (by omega) (by decide)) ?_
    show WG _ _ _ _ _ _ _ (20, [(2, vI (nI (v / 10 % 4))), (0, vR (some m)), (1, vI (nI v))], [vI (σ.1 520000 (A 1) (nI (v / 10 % 4)).toNatClampNeg)], σ, 0, 0)
    rw [show (nI (v / 10 % 4) : Int32).toNatClampNeg = v / 10 % 4 from nI_clamp (n := v / 10 % 4) (by omega)]
    show WG _ _ _ _ _ _ _ (20, [(2, vI (nI (v / 10 % 4))), (0, vR (some m)), (1, vI (nI v))], [vI (σ.1 520000 (A 1) (v / 10 % 4))], σ, 0, 0)
    refine w_run 2 (S' := (23, [(2, vI (nI (v / 10 % 4))), (0, vR (some m)), (1, vI (nI v))], [vI 40, vI (nI v), vI (σ.1 520000 (A 1) (v / 10 % 4))], σ, 0, 0)) rfl ?_
    refine w_idiv rfl (by decide) ?_
    rw [show ((nI v) / 40 : Int32) = nI (v / 40) from pk_div (a := v) (d := 40) (by omega) (by decide) (by decide)]
    show WG _ _ _ _ _ _ _ (24, [(2, vI (nI (v / 10 % 4))), (0, vR (some m)), (1, vI (nI v))], [vI (nI (v / 40)), vI (σ.1 520000 (A 1) (v / 10 % 4))], σ, 0, 0)
    refine w_ic_eq rfl (fun c2 => ?_) (fun c2 => ?_)
    · refine w_run 1 (S' := (32, [(2, vI (nI (v / 10 % 4))), (0, vR (some m)), (1, vI (nI v))], [vI 0], σ, 0, 0)) rfl ?_
      exact w_iret rfl (Or.inr ⟨rfl, Or.inl rfl⟩) (by omega) (by omega) (⟨by simp [dedF, c1, c2], rfl⟩)
    · refine w_run 2 (S' := (32, [(2, vI (nI (v / 10 % 4))), (0, vR (some m)), (1, vI (nI v))], [vI 1], σ, 0, 0)) rfl ?_
      exact w_iret rfl (Or.inr ⟨rfl, Or.inr rfl⟩) (by omega) (by omega) (⟨by simp [dedF, c1, c2], rfl⟩)

theorem ikF_1 {k : Int32} (h : ¬ ikF k = 0) : ∃ j : Nat, j < 10 ∧ k = nI j := by
  unfold ikF at h
  split at h
  · exact absurd rfl h
  split at h
  · exact absurd rfl h
  rename_i h1 h2
  obtain ⟨j, -, h4, e⟩ := i_rng h1 h2 (by decide)
  have h9 : (9 : Int32).toInt = 9 := rfl
  exact ⟨j, by omega, e⟩
def hnF (sv : Nat → Int32) (p : Nat) (k : Int32) : Int32 := if ikF k = 0 then 0 else if sv (10 * p + k.toNatClampNeg) = 0 then 0 else 1
set_option maxHeartbeats 4000000 in
theorem c_mo_hasNode (l : Launch) (E : FE) (d : Nat) (σ : Sg) (m : Nat) (A : Nat → Nat) (p dd : Nat) (k : Int32) (hM : MO σ m A) (hd : dd + 1 ≤ d) (hp : p < 4) : CT l E d 77 [vR (some m), vI (nI p), vI k] σ 0 0 (fun r σ' => r = some (vI (hnF (σ.1 530000 (A 2)) p k)) ∧ σ' = σ) (fun _ _ => False) := by
  refine CTo ok_mo_hasNode (by decide +kernel) rfl rfl rfl ?_
  refine w_run 1 (S' := (1, [(0, vR (some m)), (1, vI (nI p)), (2, vI k)], [vI k], σ, 0, 0)) rfl ?_
  refine w_callS (st := []) [vI k] rfl ml_10_115 rfl (by simp only [RM]; omega) (by simp only [RM]; show 8 + (1 + 11) + _ ≤ _; omega) rfl (by simp only [RM]; omega) (by simp only [RM]; omega) (c_mo_isKey l E dd σ k) (fun _ _ h => h.elim) ?_
  intro r9 s9 q9
  rw [q9.1, q9.2]
  clear q9 r9 s9
  show WG _ _ _ _ _ _ _ (4, [(0, vR (some m)), (1, vI (nI p)), (2, vI k)], [vI (ikF k)], σ, 0, 0)
  refine w_if_eq rfl (fun c1 => ?_) (fun c1 => ?_)
  · refine w_run 1 (S' := (26, [(0, vR (some m)), (1, vI (nI p)), (2, vI k)], [vI 0], σ, 0, 0)) rfl ?_
    exact w_iret rfl (Or.inr ⟨rfl, Or.inl rfl⟩) (by omega) (by omega) (⟨by simp [hnF, c1], rfl⟩)
  · obtain ⟨j, hj, rfl⟩ := ikF_1 c1
    show WG _ _ _ _ _ _ _ (7, [(0, vR (some m)), (1, vI (nI p)), (2, vI (nI j))], [], σ, 0, 0)
    refine w_run 1 (S' := (8, [(0, vR (some m)), (1, vI (nI p)), (2, vI (nI j))], [vR (some m)], σ, 0, 0)) rfl ?_
    refine w_get (k := 50) (vR (σ.2.1 500453 m 0)) rfl rfl rfl hM.1 rfl rfl ?_
    refine w_run 5 (S' := (17, [(0, vR (some m)), (1, vI (nI p)), (2, vI (nI j))], [vI ((10 * (nI p)) + (nI j)), vR (σ.2.1 500453 m 0)], σ, 0, 0)) rfl ?_
    rw [show ((10 * (nI p)) + (nI j) : Int32) = nI (10 * p + j) from by simp only [nl0, nl1, nl2, nl3, nl4, nl5, nl6, nl8, nl9, nl10, nl12, nl15, nl16, nl20, nl24, nl32, nl40, nl64, nl65, nl384, pk_mul, nI_add]]
    show WG _ _ _ _ _ _ _ (17, [(0, vR (some m)), (1, vI (nI p)), (2, vI (nI j))], [vI (nI (10 * p + j)), vR (σ.2.1 500453 m 0)], σ, 0, 0)
    refine w_zald (k := 53) rfl ((hM.2 2 (by decide)).1) ((hM.2 2 (by decide)).2) rfl (show vp_in (nI (10 * p + j)) 40 from vp_in_nI (n := 10 * p + j) (by omega) (by decide)) ?_
    show WG _ _ _ _ _ _ _ (18, [(0, vR (some m)), (1, vI (nI p)), (2, vI (nI j))], [vI (σ.1 530000 (A 2) (nI (10 * p + j)).toNatClampNeg)], σ, 0, 0)
    rw [show (nI (10 * p + j) : Int32).toNatClampNeg = 10 * p + j from nI_clamp (n := 10 * p + j) (by omega)]
    show WG _ _ _ _ _ _ _ (18, [(0, vR (some m)), (1, vI (nI p)), (2, vI (nI j))], [vI (σ.1 530000 (A 2) (10 * p + j))], σ, 0, 0)
    refine w_if_eq rfl (fun c2 => ?_) (fun c2 => ?_)
    · refine w_run 1 (S' := (26, [(0, vR (some m)), (1, vI (nI p)), (2, vI (nI j))], [vI 0], σ, 0, 0)) rfl ?_
      exact w_iret rfl (Or.inr ⟨rfl, Or.inl rfl⟩) (by omega) (by omega) (⟨by simp [hnF, c1, c2, nI_clamp (show j < 2 ^ 31 by omega)], rfl⟩)
    · refine w_run 2 (S' := (26, [(0, vR (some m)), (1, vI (nI p)), (2, vI (nI j))], [vI 1], σ, 0, 0)) rfl ?_
      exact w_iret rfl (Or.inr ⟨rfl, Or.inr rfl⟩) (by omega) (by omega) (⟨by simp [hnF, c1, c2, nI_clamp (show j < 2 ^ 31 by omega)], rfl⟩)

def hhF (st wk : Nat → Int32) (p : Nat) (h : Int32) : Int32 := if h ≤ 0 then 0 else if 16 ≤ h then 0 else if 0 < st (16 * p + h.toNatClampNeg) then 1 else if wk (16 * p + h.toNatClampNeg) ≤ 0 then 0 else 1
theorem hh_j {h : Int32} (h1 : ¬ h ≤ 0) (h2 : ¬ 16 ≤ h) : ∃ j : Nat, 1 ≤ j ∧ j < 16 ∧ h = nI j := by
  rw [Int32.le_iff_toInt_le] at h1 h2
  have e0 : (0 : Int32).toInt = 0 := rfl
  have e16 : (16 : Int32).toInt = 16 := rfl
  obtain ⟨j, hj, e⟩ := nI_of (x := h) (by rw [Int32.lt_iff_toInt_lt]; omega)
  have h3 := nI_toInt hj
  rw [← e] at h3
  exact ⟨j, by omega, by omega, e⟩
set_option maxHeartbeats 4000000 in
theorem c_mo_hasHandle (l : Launch) (E : FE) (d : Nat) (σ : Sg) (m : Nat) (A : Nat → Nat) (p : Nat) (h : Int32) (hM : MO σ m A) (hp : p < 4) : CT l E d 87 [vR (some m), vI (nI p), vI h] σ 0 0 (fun r σ' => r = some (vI (hhF (σ.1 550000 (A 4)) (σ.1 560000 (A 5)) p h)) ∧ σ' = σ) (fun _ _ => False) := by
  refine CTo ok_mo_hasHandle (by decide +kernel) rfl rfl rfl ?_
  refine w_run 1 (S' := (1, [(0, vR (some m)), (1, vI (nI p)), (2, vI h)], [vI h], σ, 0, 0)) rfl ?_
  refine w_if_le rfl (fun c1 => ?_) (fun c1 => ?_)
  · refine w_run 1 (S' := (43, [(0, vR (some m)), (1, vI (nI p)), (2, vI h)], [vI 0], σ, 0, 0)) rfl ?_
    exact w_iret rfl (Or.inr ⟨rfl, Or.inl rfl⟩) (by omega) (by omega) (⟨by simp [hhF, c1], rfl⟩)
  · refine w_run 2 (S' := (7, [(0, vR (some m)), (1, vI (nI p)), (2, vI h)], [vI 16, vI h], σ, 0, 0)) rfl ?_
    refine w_ic_ge rfl (fun c2 => ?_) (fun c2 => ?_)
    · refine w_run 1 (S' := (43, [(0, vR (some m)), (1, vI (nI p)), (2, vI h)], [vI 0], σ, 0, 0)) rfl ?_
      exact w_iret rfl (Or.inr ⟨rfl, Or.inl rfl⟩) (by omega) (by omega) (⟨by simp [hhF, c1, c2], rfl⟩)
    · obtain ⟨j, hj1, hj, rfl⟩ := hh_j c1 c2
      show WG _ _ _ _ _ _ _ (10, [(0, vR (some m)), (1, vI (nI p)), (2, vI (nI j))], [], σ, 0, 0)
      refine w_run 1 (S' := (11, [(0, vR (some m)), (1, vI (nI p)), (2, vI (nI j))], [vR (some m)], σ, 0, 0)) rfl ?_
      refine w_get (k := 50) (vR (σ.2.1 500655 m 0)) rfl rfl rfl hM.1 rfl rfl ?_
      refine w_run 5 (S' := (20, [(0, vR (some m)), (1, vI (nI p)), (2, vI (nI j))], [vI ((16 * (nI p)) + (nI j)), vR (σ.2.1 500655 m 0)], σ, 0, 0)) rfl ?_
      rw [show ((16 * (nI p)) + (nI j) : Int32) = nI (16 * p + j) from by simp only [nl0, nl1, nl2, nl3, nl4, nl5, nl6, nl8, nl9, nl10, nl12, nl15, nl16, nl20, nl24, nl32, nl40, nl64, nl65, nl384, pk_mul, nI_add]]
      show WG _ _ _ _ _ _ _ (20, [(0, vR (some m)), (1, vI (nI p)), (2, vI (nI j))], [vI (nI (16 * p + j)), vR (σ.2.1 500655 m 0)], σ, 0, 0)
      refine w_iald (k := 55) rfl ((hM.2 4 (by decide)).1) ((hM.2 4 (by decide)).2) rfl (show vp_in (nI (16 * p + j)) 64 from vp_in_nI (n := 16 * p + j) (by omega) (by decide)) ?_
      show WG _ _ _ _ _ _ _ (21, [(0, vR (some m)), (1, vI (nI p)), (2, vI (nI j))], [vI (σ.1 550000 (A 4) (nI (16 * p + j)).toNatClampNeg)], σ, 0, 0)
      rw [show (nI (16 * p + j) : Int32).toNatClampNeg = 16 * p + j from nI_clamp (n := 16 * p + j) (by omega)]
      show WG _ _ _ _ _ _ _ (21, [(0, vR (some m)), (1, vI (nI p)), (2, vI (nI j))], [vI (σ.1 550000 (A 4) (16 * p + j))], σ, 0, 0)
      refine w_if_gt rfl (fun c3 => ?_) (fun c3 => ?_)
      · refine w_run 2 (S' := (43, [(0, vR (some m)), (1, vI (nI p)), (2, vI (nI j))], [vI 1], σ, 0, 0)) rfl ?_
        exact w_iret rfl (Or.inr ⟨rfl, Or.inr rfl⟩) (by omega) (by omega) (⟨by simp [hhF, c1, c2, c3, nI_clamp (show j < 2 ^ 31 by omega)], rfl⟩)
      · refine w_run 1 (S' := (25, [(0, vR (some m)), (1, vI (nI p)), (2, vI (nI j))], [vR (some m)], σ, 0, 0)) rfl ?_
        refine w_get (k := 50) (vR (σ.2.1 500756 m 0)) rfl rfl rfl hM.1 rfl rfl ?_
        refine w_run 5 (S' := (34, [(0, vR (some m)), (1, vI (nI p)), (2, vI (nI j))], [vI ((16 * (nI p)) + (nI j)), vR (σ.2.1 500756 m 0)], σ, 0, 0)) rfl ?_
        rw [show ((16 * (nI p)) + (nI j) : Int32) = nI (16 * p + j) from by simp only [nl0, nl1, nl2, nl3, nl4, nl5, nl6, nl8, nl9, nl10, nl12, nl15, nl16, nl20, nl24, nl32, nl40, nl64, nl65, nl384, pk_mul, nI_add]]
        show WG _ _ _ _ _ _ _ (34, [(0, vR (some m)), (1, vI (nI p)), (2, vI (nI j))], [vI (nI (16 * p + j)), vR (σ.2.1 500756 m 0)], σ, 0, 0)
        refine w_iald (k := 56) rfl ((hM.2 5 (by decide)).1) ((hM.2 5 (by decide)).2) rfl (show vp_in (nI (16 * p + j)) 64 from vp_in_nI (n := 16 * p + j) (by omega) (by decide)) ?_
        show WG _ _ _ _ _ _ _ (35, [(0, vR (some m)), (1, vI (nI p)), (2, vI (nI j))], [vI (σ.1 560000 (A 5) (nI (16 * p + j)).toNatClampNeg)], σ, 0, 0)
        rw [show (nI (16 * p + j) : Int32).toNatClampNeg = 16 * p + j from nI_clamp (n := 16 * p + j) (by omega)]
        show WG _ _ _ _ _ _ _ (35, [(0, vR (some m)), (1, vI (nI p)), (2, vI (nI j))], [vI (σ.1 560000 (A 5) (16 * p + j))], σ, 0, 0)
        refine w_if_le rfl (fun c4 => ?_) (fun c4 => ?_)
        · refine w_run 1 (S' := (43, [(0, vR (some m)), (1, vI (nI p)), (2, vI (nI j))], [vI 0], σ, 0, 0)) rfl ?_
          exact w_iret rfl (Or.inr ⟨rfl, Or.inl rfl⟩) (by omega) (by omega) (⟨by simp [hhF, c1, c2, c3, c4, nI_clamp (show j < 2 ^ 31 by omega)], rfl⟩)
        · refine w_run 2 (S' := (43, [(0, vR (some m)), (1, vI (nI p)), (2, vI (nI j))], [vI 1], σ, 0, 0)) rfl ?_
          exact w_iret rfl (Or.inr ⟨rfl, Or.inr rfl⟩) (by omega) (by omega) (⟨by simp [hhF, c1, c2, c3, c4, nI_clamp (show j < 2 ^ 31 by omega)], rfl⟩)

