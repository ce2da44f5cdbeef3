/-! Node, Draft, Message, Work, Proc: the small methods -/
set_option maxHeartbeats 4000000 in
theorem c_nd_end (l : Launch) (E : FE) (d : Nat) (σ : Sg) (a : Nat) (hk : σ.2.2.2 a = 3) : CT l E d 1 [vR (some a)] σ 0 0 (fun r σ' => r = none ∧ σ' = sO (sO (sI σ 30200 a 0 1) 30406 a 0 none) 30506 a 0 none) (fun _ _ => False) := by
  refine CTo ok_nd_end (by decide +kernel) rfl rfl rfl ?_
  refine w_run 2 (S' := (2, [(0, vR (some a))], [vI 1, vR (some a)], σ, 0, 0)) rfl ?_
  refine w_puti (k := 3) rfl rfl rfl hk rfl rfl (Or.inr ⟨rfl, Or.inr rfl⟩) (Or.inl rfl) ?_
  show WG _ _ _ _ _ _ _ (5, [(0, vR (some a))], [], sI σ 30200 a 0 1, 0, 0)
  refine w_run 2 (S' := (7, [(0, vR (some a))], [vR none, vR (some a)], sI σ 30200 a 0 1, 0, 0)) rfl ?_
  refine w_putr (k := 3) rfl rfl rfl hk rfl rfl (fun _ h9 => by cases h9) rfl (Or.inl rfl) ?_
  show WG _ _ _ _ _ _ _ (10, [(0, vR (some a))], [], sO (sI σ 30200 a 0 1) 30406 a 0 none, 0, 0)
  refine w_run 2 (S' := (12, [(0, vR (some a))], [vR none, vR (some a)], sO (sI σ 30200 a 0 1) 30406 a 0 none, 0, 0)) rfl ?_
  refine w_putr (k := 3) rfl rfl rfl hk rfl rfl (fun _ h9 => by cases h9) rfl (Or.inl rfl) ?_
  show WG _ _ _ _ _ _ _ (15, [(0, vR (some a))], [], sO (sO (sI σ 30200 a 0 1) 30406 a 0 none) 30506 a 0 none, 0, 0)
  exact w_vret rfl rfl (by omega) (by omega) (⟨rfl, rfl⟩)

def queF (σ : Sg) (a m : Nat) : Sg := match σ.2.1 30506 a 0 with
  | none => sO (sO σ 30406 a 0 (some m)) 30506 a 0 (some m)
  | some b => sO (sO σ 61106 b 0 (some m)) 30506 a 0 (some m)
set_option maxHeartbeats 4000000 in
theorem c_nd_queue (l : Launch) (E : FE) (d : Nat) (σ : Sg) (a m : Nat) (hk : σ.2.2.2 a = 3) (hm : σ.2.2.2 m = 6) (hw : WF σ) : CT l E d 2 [vR (some a), vR (some m)] σ 0 0 (fun r σ' => r = none ∧ σ' = queF σ a m) (fun _ _ => False) := by
  refine CTo ok_nd_queue (by decide +kernel) rfl rfl rfl ?_
  refine w_run 1 (S' := (1, [(0, vR (some a)), (1, vR (some m))], [vR (some a)], σ, 0, 0)) rfl ?_
  refine w_get (k := 3) (vR (σ.2.1 30506 a 0)) rfl rfl rfl hk rfl rfl ?_
  refine w_nonnull rfl (fun b2 c1 => ?_) (fun c1 => ?_)
  · refine w_run 1 (S' := (16, [(0, vR (some a)), (1, vR (some m))], [vR (some a)], σ, 0, 0)) rfl ?_
    refine w_get (k := 3) (vR (σ.2.1 30506 a 0)) rfl rfl rfl hk rfl rfl ?_
    refine w_run 1 (S' := (20, [(0, vR (some a)), (1, vR (some m))], [vR (some m), vR (σ.2.1 30506 a 0)], σ, 0, 0)) rfl ?_
    refine w_putr (k := 6) rfl rfl c1 (hw 30506 a 0 b2 c1 (by decide)) rfl rfl (fun b9 h9 _ => by have e9 := (rfl : some m = some m).symm.trans h9; cases e9; exact hm) rfl (Or.inl rfl) ?_
    show WG _ _ _ _ _ _ _ (23, [(0, vR (some a)), (1, vR (some m))], [], sO σ 61106 b2 0 (some m), 0, 0)
    refine w_run 2 (S' := (25, [(0, vR (some a)), (1, vR (some m))], [vR (some m), vR (some a)], sO σ 61106 b2 0 (some m), 0, 0)) rfl ?_
    refine w_putr (k := 3) rfl rfl rfl hk rfl rfl (fun b9 h9 _ => by have e9 := (rfl : some m = some m).symm.trans h9; cases e9; exact hm) rfl (Or.inl rfl) ?_
    show WG _ _ _ _ _ _ _ (28, [(0, vR (some a)), (1, vR (some m))], [], sO (sO σ 61106 b2 0 (some m)) 30506 a 0 (some m), 0, 0)
    exact w_vret rfl rfl (by omega) (by omega) (⟨rfl, by simp [queF, c1]⟩)
  · refine w_run 2 (S' := (9, [(0, vR (some a)), (1, vR (some m))], [vR (some m), vR (some a)], σ, 0, 0)) rfl ?_
    refine w_putr (k := 3) rfl rfl rfl hk rfl rfl (fun b9 h9 _ => by have e9 := (rfl : some m = some m).symm.trans h9; cases e9; exact hm) rfl (Or.inl rfl) ?_
    show WG _ _ _ _ _ _ _ (12, [(0, vR (some a)), (1, vR (some m))], [], sO σ 30406 a 0 (some m), 0, 0)
    refine w_run 3 (S' := (25, [(0, vR (some a)), (1, vR (some m))], [vR (some m), vR (some a)], sO σ 30406 a 0 (some m), 0, 0)) rfl ?_
    refine w_putr (k := 3) rfl rfl rfl hk rfl rfl (fun b9 h9 _ => by have e9 := (rfl : some m = some m).symm.trans h9; cases e9; exact hm) rfl (Or.inl rfl) ?_
    show WG _ _ _ _ _ _ _ (28, [(0, vR (some a)), (1, vR (some m))], [], sO (sO σ 30406 a 0 (some m)) 30506 a 0 (some m), 0, 0)
    exact w_vret rfl rfl (by omega) (by omega) (⟨rfl, by simp [queF, c1]⟩)

def unqF (σ : Sg) (a : Nat) : Option Nat × Sg := match σ.2.1 30406 a 0 with
  | none => (none, σ)
  | some m => (some m, sO (if σ.2.1 61106 m 0 = none then sO (sO σ 30406 a 0 none) 30506 a 0 none else sO σ 30406 a 0 (σ.2.1 61106 m 0)) 61106 m 0 none)
set_option maxHeartbeats 4000000 in
theorem c_nd_unqueue (l : Launch) (E : FE) (d : Nat) (σ : Sg) (a : Nat) (hk : σ.2.2.2 a = 3) (hw : WF σ) : CT l E d 3 [vR (some a)] σ 0 0 (fun r σ' => r = some (vR (unqF σ a).1) ∧ σ' = (unqF σ a).2) (fun _ _ => False) := by
  refine CTo ok_nd_unqueue (by decide +kernel) rfl rfl rfl ?_
  refine w_run 1 (S' := (1, [(0, vR (some a))], [vR (some a)], σ, 0, 0)) rfl ?_
  refine w_get (k := 3) (vR (σ.2.1 30406 a 0)) rfl rfl rfl hk rfl rfl ?_
  refine w_run 2 (S' := (6, [(1, vR (σ.2.1 30406 a 0)), (0, vR (some a))], [vR (σ.2.1 30406 a 0)], σ, 0, 0)) rfl ?_
  refine w_nonnull rfl (fun b2 c1 => ?_) (fun c1 => ?_)
  · refine w_run 2 (S' := (13, [(1, vR (σ.2.1 30406 a 0)), (0, vR (some a))], [vR (σ.2.1 30406 a 0), vR (some a)], σ, 0, 0)) rfl ?_
    refine w_get (k := 6) (vR (σ.2.1 61106 b2 0)) rfl rfl c1 (hw 30406 a 0 b2 c1 (by decide)) rfl rfl ?_
    refine w_putr (k := 3) rfl rfl rfl hk rfl rfl (fun b9 h9 _ => hw 61106 b2 0 b9 h9 (by decide)) rfl (Or.inl rfl) ?_
    show WG _ _ _ _ _ _ _ (19, [(1, vR (σ.2.1 30406 a 0)), (0, vR (some a))], [], sO σ 30406 a 0 (σ.2.1 61106 b2 0), 0, 0)
    refine w_run 1 (S' := (20, [(1, vR (σ.2.1 30406 a 0)), (0, vR (some a))], [vR (some a)], sO σ 30406 a 0 (σ.2.1 61106 b2 0), 0, 0)) rfl ?_
    refine w_get (k := 3) (vR (σ.2.1 61106 b2 0)) rfl rfl rfl hk rfl (by simp [mkF, sI, sO, sN, sA]) ?_
    refine w_nonnull rfl (fun b4 c3 => ?_) (fun c3 => ?_)
    · refine w_run 2 (S' := (33, [(1, vR (σ.2.1 30406 a 0)), (0, vR (some a))], [vR none, vR (σ.2.1 30406 a 0)], sO σ 30406 a 0 (σ.2.1 61106 b2 0), 0, 0)) rfl ?_
      refine w_putr (k := 6) rfl rfl c1 (hw 30406 a 0 b2 c1 (by decide)) rfl rfl (fun _ h9 => by cases h9) rfl (Or.inl rfl) ?_
      show WG _ _ _ _ _ _ _ (36, [(1, vR (σ.2.1 30406 a 0)), (0, vR (some a))], [], sO (sO σ 30406 a 0 (σ.2.1 61106 b2 0)) 61106 b2 0 none, 0, 0)
      refine w_run 1 (S' := (37, [(1, vR (σ.2.1 30406 a 0)), (0, vR (some a))], [vR (σ.2.1 30406 a 0)], sO (sO σ 30406 a 0 (σ.2.1 61106 b2 0)) 61106 b2 0 none, 0, 0)) rfl ?_
      exact w_aret rfl rfl (Or.inl ⟨_, rfl⟩) (by omega) (by omega) (⟨by simp [unqF, c1, c3], by simp [unqF, c1, c3]⟩)
    · refine w_run 2 (S' := (28, [(1, vR (σ.2.1 30406 a 0)), (0, vR (some a))], [vR none, vR (some a)], sO σ 30406 a 0 (σ.2.1 61106 b2 0), 0, 0)) rfl ?_
      refine w_putr (k := 3) rfl rfl rfl hk rfl rfl (fun _ h9 => by cases h9) rfl (Or.inl rfl) ?_
      show WG _ _ _ _ _ _ _ (31, [(1, vR (σ.2.1 30406 a 0)), (0, vR (some a))], [], sO (sO σ 30406 a 0 (σ.2.1 61106 b2 0)) 30506 a 0 none, 0, 0)
      refine w_run 2 (S' := (33, [(1, vR (σ.2.1 30406 a 0)), (0, vR (some a))], [vR none, vR (σ.2.1 30406 a 0)], sO (sO σ 30406 a 0 (σ.2.1 61106 b2 0)) 30506 a 0 none, 0, 0)) rfl ?_
      refine w_putr (k := 6) rfl rfl c1 (hw 30406 a 0 b2 c1 (by decide)) rfl rfl (fun _ h9 => by cases h9) rfl (Or.inl rfl) ?_
      show WG _ _ _ _ _ _ _ (36, [(1, vR (σ.2.1 30406 a 0)), (0, vR (some a))], [], sO (sO (sO σ 30406 a 0 (σ.2.1 61106 b2 0)) 30506 a 0 none) 61106 b2 0 none, 0, 0)
      refine w_run 1 (S' := (37, [(1, vR (σ.2.1 30406 a 0)), (0, vR (some a))], [vR (σ.2.1 30406 a 0)], sO (sO (sO σ 30406 a 0 (σ.2.1 61106 b2 0)) 30506 a 0 none) 61106 b2 0 none, 0, 0)) rfl ?_
      exact w_aret rfl rfl (Or.inl ⟨_, rfl⟩) (by omega) (by omega) (⟨by simp [unqF, c1, c3], by simp [unqF, c1, c3]⟩)
  · refine w_run 1 (S' := (10, [(1, vR (σ.2.1 30406 a 0)), (0, vR (some a))], [vR none], σ, 0, 0)) rfl ?_
    exact w_aret rfl rfl (Or.inl ⟨_, rfl⟩) (by omega) (by omega) (⟨by simp [unqF, c1], by simp [unqF, c1]⟩)

set_option maxHeartbeats 4000000 in
theorem c_dr_begin (l : Launch) (E : FE) (d : Nat) (σ : Sg) (a : Nat) (x : Int32) (hk : σ.2.2.2 a = 4) : CT l E d 5 [vR (some a), vI x] σ 0 0 (fun r σ' => r = none ∧ σ' = sI (sI σ 40400 a 0 x) 40300 a 0 0) (fun _ _ => False) := by
  refine CTo ok_dr_begin (by decide +kernel) rfl rfl rfl ?_
  refine w_run 2 (S' := (2, [(0, vR (some a)), (1, vI x)], [vI x, vR (some a)], σ, 0, 0)) rfl ?_
  refine w_puti (k := 4) rfl rfl rfl hk rfl rfl (Or.inl rfl) (Or.inl rfl) ?_
  show WG _ _ _ _ _ _ _ (5, [(0, vR (some a)), (1, vI x)], [], sI σ 40400 a 0 x, 0, 0)
  refine w_run 2 (S' := (7, [(0, vR (some a)), (1, vI x)], [vI 0, vR (some a)], sI σ 40400 a 0 x, 0, 0)) rfl ?_
  refine w_puti (k := 4) rfl rfl rfl hk rfl rfl (Or.inl rfl) (Or.inl rfl) ?_
  show WG _ _ _ _ _ _ _ (10, [(0, vR (some a)), (1, vI x)], [], sI (sI σ 40400 a 0 x) 40300 a 0 0, 0, 0)
  exact w_vret rfl rfl (by omega) (by omega) (⟨rfl, rfl⟩)

def appF (σ : Sg) (a a1 a2 : Nat) (k v : Int32) : Int32 × Sg := if 4 ≤ σ.1 40300 a 0 then (0, σ) else if k < 0 then (0, σ) else if k ≤ 2 then (1, sI (sI (sI σ 160000 a1 (σ.1 40300 a 0).toNatClampNeg k) 170000 a2 (σ.1 40300 a 0).toNatClampNeg v) 40300 a 0 (σ.1 40300 a 0 + 1)) else (0, σ)
set_option maxHeartbeats 4000000 in
theorem c_dr_append (l : Launch) (E : FE) (d : Nat) (σ : Sg) (a a1 a2 : Nat) (k v : Int32) (hk : σ.2.2.2 a = 4) (h1 : σ.2.1 40016 a 0 = some a1) (h2 : σ.2.1 40117 a 0 = some a2) (h0 : ¬ σ.1 40300 a 0 < 0) (hw : WF σ) : CT l E d 6 [vR (some a), vI k, vI v] σ 0 0 (fun r σ' => r = some (vI (appF σ a a1 a2 k v).1) ∧ σ' = (appF σ a a1 a2 k v).2) (fun _ _ => False) := by
  refine CTo ok_dr_append (by decide +kernel) rfl rfl rfl ?_
  refine w_run 1 (S' := (1, [(0, vR (some a)), (1, vI k), (2, vI v)], [vR (some a)], σ, 0, 0)) rfl ?_
  refine w_get (k := 4) (vI (σ.1 40300 a 0)) rfl rfl rfl hk rfl rfl ?_
  refine w_run 1 (S' := (5, [(0, vR (some a)), (1, vI k), (2, vI v)], [vI 4, vI (σ.1 40300 a 0)], σ, 0, 0)) rfl ?_
  refine w_ic_ge rfl (fun c1 => ?_) (fun c1 => ?_)
  · refine w_run 1 (S' := (18, [(0, vR (some a)), (1, vI k), (2, vI v)], [vI 0], σ, 0, 0)) rfl ?_
    exact w_iret rfl (Or.inr ⟨rfl, Or.inl rfl⟩) (by omega) (by omega) (⟨by simp [appF, c1], by simp [appF, c1]⟩)
  · refine w_run 1 (S' := (9, [(0, vR (some a)), (1, vI k), (2, vI v)], [vI k], σ, 0, 0)) rfl ?_
    refine w_if_lt rfl (fun c2 => ?_) (fun c2 => ?_)
    · refine w_run 1 (S' := (18, [(0, vR (some a)), (1, vI k), (2, vI v)], [vI 0], σ, 0, 0)) rfl ?_
      exact w_iret rfl (Or.inr ⟨rfl, Or.inl rfl⟩) (by omega) (by omega) (⟨by simp [appF, c1, c2], by simp [appF, c1, c2]⟩)
    · refine w_run 2 (S' := (14, [(0, vR (some a)), (1, vI k), (2, vI v)], [vI 2, vI k], σ, 0, 0)) rfl ?_
      refine w_ic_le rfl (fun c3 => ?_) (fun c3 => ?_)
      · refine w_run 1 (S' := (20, [(0, vR (some a)), (1, vI k), (2, vI v)], [vR (some a)], σ, 0, 0)) rfl ?_
        refine w_get (k := 4) (vR (σ.2.1 40016 a 0)) rfl rfl rfl hk rfl rfl ?_
        refine w_run 1 (S' := (24, [(0, vR (some a)), (1, vI k), (2, vI v)], [vR (some a), vR (σ.2.1 40016 a 0)], σ, 0, 0)) rfl ?_
        refine w_get (k := 4) (vI (σ.1 40300 a 0)) rfl rfl rfl hk rfl rfl ?_
        refine w_run 1 (S' := (28, [(0, vR (some a)), (1, vI k), (2, vI v)], [vI k, vI (σ.1 40300 a 0), vR (σ.2.1 40016 a 0)], σ, 0, 0)) rfl ?_
        refine w_iast (k := 16) rfl h1 (hw 40016 a 0 a1 h1 (by decide)) rfl (show vp_in (σ.1 40300 a 0) 4 from in_le h0 c1 (by decide) (by decide)) ?_
        show WG _ _ _ _ _ _ _ (29, [(0, vR (some a)), (1, vI k), (2, vI v)], [], sI σ 160000 a1 ((σ.1 40300 a 0).toNatClampNeg) k, 0, 0)
        refine w_run 1 (S' := (30, [(0, vR (some a)), (1, vI k), (2, vI v)], [vR (some a)], sI σ 160000 a1 ((σ.1 40300 a 0).toNatClampNeg) k, 0, 0)) rfl ?_
        refine w_get (k := 4) (vR (σ.2.1 40117 a 0)) rfl rfl rfl hk rfl rfl ?_
        refine w_run 1 (S' := (34, [(0, vR (some a)), (1, vI k), (2, vI v)], [vR (some a), vR (σ.2.1 40117 a 0)], sI σ 160000 a1 ((σ.1 40300 a 0).toNatClampNeg) k, 0, 0)) rfl ?_
        refine w_get (k := 4) (vI (σ.1 40300 a 0)) rfl rfl rfl hk rfl rfl ?_
        refine w_run 1 (S' := (38, [(0, vR (some a)), (1, vI k), (2, vI v)], [vI v, vI (σ.1 40300 a 0), vR (σ.2.1 40117 a 0)], sI σ 160000 a1 ((σ.1 40300 a 0).toNatClampNeg) k, 0, 0)) rfl ?_
        refine w_iast (k := 17) rfl h2 (hw 40117 a 0 a2 h2 (by decide)) rfl (show vp_in (σ.1 40300 a 0) 4 from in_le h0 c1 (by decide) (by decide)) ?_
        show WG _ _ _ _ _ _ _ (39, [(0, vR (some a)), (1, vI k), (2, vI v)], [], sI (sI σ 160000 a1 ((σ.1 40300 a 0).toNatClampNeg) k) 170000 a2 ((σ.1 40300 a 0).toNatClampNeg) v, 0, 0)
        refine w_run 2 (S' := (41, [(0, vR (some a)), (1, vI k), (2, vI v)], [vR (some a), vR (some a)], sI (sI σ 160000 a1 ((σ.1 40300 a 0).toNatClampNeg) k) 170000 a2 ((σ.1 40300 a 0).toNatClampNeg) v, 0, 0)) rfl ?_
        refine w_get (k := 4) (vI (σ.1 40300 a 0)) rfl rfl rfl hk rfl rfl ?_
        refine w_run 2 (S' := (46, [(0, vR (some a)), (1, vI k), (2, vI v)], [vI ((σ.1 40300 a 0) + 1), vR (some a)], sI (sI σ 160000 a1 ((σ.1 40300 a 0).toNatClampNeg) k) 170000 a2 ((σ.1 40300 a 0).toNatClampNeg) v, 0, 0)) rfl ?_
        refine w_puti (k := 4) rfl rfl rfl hk rfl rfl (Or.inl rfl) (Or.inl rfl) ?_
        show WG _ _ _ _ _ _ _ (49, [(0, vR (some a)), (1, vI k), (2, vI v)], [], sI (sI (sI σ 160000 a1 ((σ.1 40300 a 0).toNatClampNeg) k) 170000 a2 ((σ.1 40300 a 0).toNatClampNeg) v) 40300 a 0 ((σ.1 40300 a 0) + 1), 0, 0)
        refine w_run 1 (S' := (50, [(0, vR (some a)), (1, vI k), (2, vI v)], [vI 1], sI (sI (sI σ 160000 a1 ((σ.1 40300 a 0).toNatClampNeg) k) 170000 a2 ((σ.1 40300 a 0).toNatClampNeg) v) 40300 a 0 ((σ.1 40300 a 0) + 1), 0, 0)) rfl ?_
        exact w_iret rfl (Or.inr ⟨rfl, Or.inr rfl⟩) (by omega) (by omega) (⟨by simp [appF, c1, c2, c3], by simp [appF, c1, c2, c3]⟩)
      · refine w_run 1 (S' := (18, [(0, vR (some a)), (1, vI k), (2, vI v)], [vI 0], σ, 0, 0)) rfl ?_
        exact w_iret rfl (Or.inr ⟨rfl, Or.inl rfl⟩) (by omega) (by omega) (⟨by simp [appF, c1, c2, c3], by simp [appF, c1, c2, c3]⟩)

def celF (σ : Sg) (a : Nat) : Int32 := if 1 < σ.1 40400 a 0 + σ.1 40300 a 0 then σ.1 40400 a 0 + σ.1 40300 a 0 else 1
set_option maxHeartbeats 4000000 in
theorem c_dr_cells (l : Launch) (E : FE) (d : Nat) (σ : Sg) (a : Nat) (hd : 1 ≤ d) (hk : σ.2.2.2 a = 4) : CT l E d 7 [vR (some a)] σ 0 0 (fun r σ' => r = some (vI (celF σ a)) ∧ σ' = σ) (fun _ _ => False) := by
  refine CTo ok_dr_cells (by decide +kernel) rfl rfl rfl ?_
  refine w_run 2 (S' := (2, [(0, vR (some a))], [vR (some a), vI 1], σ, 0, 0)) rfl ?_
  refine w_get (k := 4) (vI (σ.1 40400 a 0)) rfl rfl rfl hk rfl rfl ?_
  refine w_run 1 (S' := (6, [(0, vR (some a))], [vR (some a), vI (σ.1 40400 a 0), vI 1], σ, 0, 0)) rfl ?_
  refine w_get (k := 4) (vI (σ.1 40300 a 0)) rfl rfl rfl hk rfl rfl ?_
  refine w_run 1 (S' := (10, [(0, vR (some a))], [vI ((σ.1 40400 a 0) + (σ.1 40300 a 0)), vI 1], σ, 0, 0)) rfl ?_
  refine w_max rfl mx_3_31 rfl (by simp only [RM]; omega) (by simp only [RM]; omega) (by simp only [RM]; omega) (by simp only [RM]; omega) ?_
  exact w_iret rfl (Or.inl rfl) (by omega) (by omega) (⟨rfl, rfl⟩)

def hnb (f : Nat → Option Nat) (v : Option Nat) : Nat → Nat → Int32
  | 0, _ => 0
  | k + 1, i => if f i = v then 1 else hnb f v k (i + 1)
set_option maxHeartbeats 4000000 in
theorem lp_dr_hnb (l : Launch) (E : FE) (d : Nat) (σ : Sg) (a a3 j : Nat) (hj : j < 4) (hk : σ.2.2.2 a = 4) (h3 : σ.2.1 40218 a 0 = some a3) (hw : WF σ) (z : Int32) : ∀ (k i : Nat), i + k = j → hnb (σ.2.1 180003 a3) (σ.2.1 180003 a3 j) k i = z →
    WP l E d 8 [vR (some a), vI (nI j)] 0 0 (fun r σ' => r = some (vI z) ∧ σ' = σ) (fun _ _ => False) (2, [(2, vI (nI i)), (0, vR (some a)), (1, vI (nI j))], [], σ, 0, 0) := by
  intro k
  induction k with
  | zero =>
    intro i hi e
    have e16 : i = j := by omega
    subst e16
    refine w_run 2 (S' := (4, [(2, vI (nI i)), (0, vR (some a)), (1, vI (nI i))], [vI (nI i), vI (nI i)], σ, 0, 0)) rfl ?_
    refine w_ic_ge rfl (fun c1 => ?_) (fun c1 => (absurd (nI_le (Nat.le_refl _) (by omega)) c1))
    refine w_run 1 (S' := (31, [(2, vI (nI i)), (0, vR (some a)), (1, vI (nI i))], [vI 0], σ, 0, 0)) rfl ?_
    exact w_iret rfl (Or.inr ⟨rfl, Or.inl rfl⟩) (by omega) (by omega) (⟨by rw [← e]; rfl, rfl⟩)
  | succ k ih =>
    intro i hi e
    unfold hnb at e
    refine w_run 2 (S' := (4, [(2, vI (nI i)), (0, vR (some a)), (1, vI (nI j))], [vI (nI j), vI (nI i)], σ, 0, 0)) rfl ?_
    refine w_ic_ge rfl (fun c1 => (absurd c1 (nI_ge (by omega) (by omega)))) (fun c1 => ?_)
    refine w_run 1 (S' := (8, [(2, vI (nI i)), (0, vR (some a)), (1, vI (nI j))], [vR (some a)], σ, 0, 0)) rfl ?_
    refine w_get (k := 4) (vR (σ.2.1 40218 a 0)) rfl rfl rfl hk rfl rfl ?_
    refine w_run 1 (S' := (12, [(2, vI (nI i)), (0, vR (some a)), (1, vI (nI j))], [vI (nI i), vR (σ.2.1 40218 a 0)], σ, 0, 0)) rfl ?_
    refine w_aald (k := 18) rfl h3 (hw 40218 a 0 a3 h3 (by decide)) rfl rfl (show vp_in (nI i) 4 from vp_in_nI (by omega) (by decide)) ?_
    show WG _ _ _ _ _ _ _ (13, [(2, vI (nI i)), (0, vR (some a)), (1, vI (nI j))], [vR (σ.2.1 180003 a3 ((nI i).toNatClampNeg))], σ, 0, 0)
    refine w_run 1 (S' := (14, [(2, vI (nI i)), (0, vR (some a)), (1, vI (nI j))], [vR (some a), vR (σ.2.1 180003 a3 ((nI i).toNatClampNeg))], σ, 0, 0)) rfl ?_
    refine w_get (k := 4) (vR (σ.2.1 40218 a 0)) rfl rfl rfl hk rfl rfl ?_
    refine w_run 1 (S' := (18, [(2, vI (nI i)), (0, vR (some a)), (1, vI (nI j))], [vI (nI j), vR (σ.2.1 40218 a 0), vR (σ.2.1 180003 a3 ((nI i).toNatClampNeg))], σ, 0, 0)) rfl ?_
    refine w_aald (k := 18) rfl h3 (hw 40218 a 0 a3 h3 (by decide)) rfl rfl (show vp_in (nI j) 4 from vp_in_nI (by omega) (by decide)) ?_
    show WG _ _ _ _ _ _ _ (19, [(2, vI (nI i)), (0, vR (some a)), (1, vI (nI j))], [vR (σ.2.1 180003 a3 ((nI j).toNatClampNeg)), vR (σ.2.1 180003 a3 ((nI i).toNatClampNeg))], σ, 0, 0)
    refine w_ac_ne rfl (fun c2 => ?_) (fun c2 => ?_)
    · rw [nI_clamp (by omega), nI_clamp (by omega)] at c2
      rw [if_neg c2] at e
      refine w_run 2 (S' := (2, [(2, vI ((nI i) + 1)), (0, vR (some a)), (1, vI (nI j))], [], σ, 0, 0)) rfl ?_
      rw [nI_1]
      exact ih (i + 1) (by omega) e
    · rw [nI_clamp (by omega), nI_clamp (by omega)] at c2
      rw [if_pos c2] at e
      refine w_run 1 (S' := (23, [(2, vI (nI i)), (0, vR (some a)), (1, vI (nI j))], [vI 1], σ, 0, 0)) rfl ?_
      exact w_iret rfl (Or.inr ⟨rfl, Or.inr rfl⟩) (by omega) (by omega) (⟨by rw [← e], rfl⟩)
set_option maxHeartbeats 4000000 in
theorem c_dr_hasNodeBefore (l : Launch) (E : FE) (d : Nat) (σ : Sg) (a a3 j : Nat) (hj : j < 4) (hk : σ.2.2.2 a = 4) (h3 : σ.2.1 40218 a 0 = some a3) (hw : WF σ) : CT l E d 8 [vR (some a), vI (nI j)] σ 0 0 (fun r σ' => r = some (vI (hnb (σ.2.1 180003 a3) (σ.2.1 180003 a3 j) j 0)) ∧ σ' = σ) (fun _ _ => False) := by
  refine CTo ok_dr_hasNodeBefore (by decide +kernel) rfl rfl rfl ?_
  refine w_run 2 (S' := (2, [(2, vI 0), (0, vR (some a)), (1, vI (nI j))], [], σ, 0, 0)) rfl ?_
  exact lp_dr_hnb l E d σ a a3 j hj hk h3 hw _ j 0 (by omega) rfl

set_option maxHeartbeats 4000000 in
theorem c_ms_setItem (l : Launch) (E : FE) (d : Nat) (σ : Sg) (a a1 a2 : Nat) (i k v : Int32) (hk : σ.2.2.2 a = 6) (h1 : σ.2.1 60631 a 0 = some a1) (h2 : σ.2.1 60732 a 0 = some a2) (i1 : vp_in i (lenK 31 σ a1 none)) (i2 : vp_in i (lenK 32 σ a2 none)) (hw : WF σ) : CT l E d 10 [vR (some a), vI i, vI k, vI v] σ 0 0 (fun r σ' => r = none ∧ σ' = sI (sI σ 310000 a1 i.toNatClampNeg k) 320000 a2 i.toNatClampNeg v) (fun _ _ => False) := by
  refine CTo ok_ms_setItem (by decide +kernel) rfl rfl rfl ?_
  refine w_run 1 (S' := (1, [(0, vR (some a)), (1, vI i), (2, vI k), (3, vI v)], [vR (some a)], σ, 0, 0)) rfl ?_
  refine w_get (k := 6) (vR (σ.2.1 60631 a 0)) rfl rfl rfl hk rfl rfl ?_
  refine w_run 2 (S' := (6, [(0, vR (some a)), (1, vI i), (2, vI k), (3, vI v)], [vI k, vI i, vR (σ.2.1 60631 a 0)], σ, 0, 0)) rfl ?_
  refine w_iast (k := 31) rfl h1 (hw 60631 a 0 a1 h1 (by decide)) rfl i1 ?_
  show WG _ _ _ _ _ _ _ (7, [(0, vR (some a)), (1, vI i), (2, vI k), (3, vI v)], [], sI σ 310000 a1 i.toNatClampNeg k, 0, 0)
  refine w_run 1 (S' := (8, [(0, vR (some a)), (1, vI i), (2, vI k), (3, vI v)], [vR (some a)], sI σ 310000 a1 i.toNatClampNeg k, 0, 0)) rfl ?_
  refine w_get (k := 6) (vR (σ.2.1 60732 a 0)) rfl rfl rfl hk rfl rfl ?_
  refine w_run 2 (S' := (13, [(0, vR (some a)), (1, vI i), (2, vI k), (3, vI v)], [vI v, vI i, vR (σ.2.1 60732 a 0)], sI σ 310000 a1 i.toNatClampNeg k, 0, 0)) rfl ?_
  refine w_iast (k := 32) rfl h2 (hw 60732 a 0 a2 h2 (by decide)) rfl i2 ?_
  show WG _ _ _ _ _ _ _ (14, [(0, vR (some a)), (1, vI i), (2, vI k), (3, vI v)], [], sI (sI σ 310000 a1 i.toNatClampNeg k) 320000 a2 i.toNatClampNeg v, 0, 0)
  exact w_vret rfl rfl (by omega) (by omega) (⟨rfl, rfl⟩)

def frmF (σ : Sg) (a p : Nat) : Int32 := if σ.1 20800 p 0 = 0 then 0 else if σ.1 20000 p 0 = σ.1 60100 a 0 then (if σ.1 20900 p 0 = σ.1 60200 a 0 then 1 else 0) else 0
set_option maxHeartbeats 4000000 in
theorem c_ms_isFrom (l : Launch) (E : FE) (d : Nat) (σ : Sg) (a p : Nat) (hk : σ.2.2.2 a = 6) (hp : σ.2.2.2 p = 2) : CT l E d 11 [vR (some a), vR (some p)] σ 0 0 (fun r σ' => r = some (vI (frmF σ a p)) ∧ σ' = σ) (fun _ _ => False) := by
  refine CTo ok_ms_isFrom (by decide +kernel) rfl rfl rfl ?_
  refine w_run 1 (S' := (1, [(0, vR (some a)), (1, vR (some p))], [vR (some p)], σ, 0, 0)) rfl ?_
  refine w_get (k := 2) (vI (σ.1 20800 p 0)) rfl rfl rfl hp rfl rfl ?_
  refine w_if_eq rfl (fun c1 => ?_) (fun c1 => ?_)
  · refine w_run 1 (S' := (34, [(0, vR (some a)), (1, vR (some p))], [vI 0], σ, 0, 0)) rfl ?_
    exact w_iret rfl (Or.inr ⟨rfl, Or.inl rfl⟩) (by omega) (by omega) (⟨by simp [frmF, c1], rfl⟩)
  · refine w_run 1 (S' := (8, [(0, vR (some a)), (1, vR (some p))], [vR (some p)], σ, 0, 0)) rfl ?_
    refine w_get (k := 2) (vI (σ.1 20000 p 0)) rfl rfl rfl hp rfl rfl ?_
    refine w_run 1 (S' := (12, [(0, vR (some a)), (1, vR (some p))], [vR (some a), vI (σ.1 20000 p 0)], σ, 0, 0)) rfl ?_
    refine w_get (k := 6) (vI (σ.1 60100 a 0)) rfl rfl rfl hk rfl rfl ?_
    refine w_ic_ne rfl (fun c2 => ?_) (fun c2 => ?_)
    · refine w_run 1 (S' := (34, [(0, vR (some a)), (1, vR (some p))], [vI 0], σ, 0, 0)) rfl ?_
      exact w_iret rfl (Or.inr ⟨rfl, Or.inl rfl⟩) (by omega) (by omega) (⟨by simp [frmF, c1, c2], rfl⟩)
    · refine w_run 1 (S' := (19, [(0, vR (some a)), (1, vR (some p))], [vR (some p)], σ, 0, 0)) rfl ?_
      refine w_get (k := 2) (vI (σ.1 20900 p 0)) rfl rfl rfl hp rfl rfl ?_
      refine w_run 1 (S' := (23, [(0, vR (some a)), (1, vR (some p))], [vR (some a), vI (σ.1 20900 p 0)], σ, 0, 0)) rfl ?_
      refine w_get (k := 6) (vI (σ.1 60200 a 0)) rfl rfl rfl hk rfl rfl ?_
      refine w_ic_ne rfl (fun c3 => ?_) (fun c3 => ?_)
      · refine w_run 1 (S' := (34, [(0, vR (some a)), (1, vR (some p))], [vI 0], σ, 0, 0)) rfl ?_
        exact w_iret rfl (Or.inr ⟨rfl, Or.inl rfl⟩) (by omega) (by omega) (⟨by simp [frmF, c1, c2, c3], rfl⟩)
      · refine w_run 2 (S' := (34, [(0, vR (some a)), (1, vR (some p))], [vI 1], σ, 0, 0)) rfl ?_
        exact w_iret rfl (Or.inr ⟨rfl, Or.inr rfl⟩) (by omega) (by omega) (⟨by simp [frmF, c1, c2, c3], rfl⟩)

def nkF (σ : Sg) (a : Nat) : Int32 := match σ.2.1 50106 a 0 with
  | none => -1
  | some m => match σ.2.1 60303 m 0 with
    | none => -1
    | some n => σ.1 30100 n 0
set_option maxHeartbeats 4000000 in
theorem c_wk_nodeKey (l : Launch) (E : FE) (d : Nat) (σ : Sg) (a : Nat) (hk : σ.2.2.2 a = 5) (hw : WF σ) : CT l E d 13 [vR (some a)] σ 0 0 (fun r σ' => r = some (vI (nkF σ a)) ∧ σ' = σ) (fun _ _ => False) := by
  refine CTo ok_wk_nodeKey (by decide +kernel) rfl rfl rfl ?_
  refine w_run 1 (S' := (1, [(0, vR (some a))], [vR (some a)], σ, 0, 0)) rfl ?_
  refine w_get (k := 5) (vR (σ.2.1 50106 a 0)) rfl rfl rfl hk rfl rfl ?_
  refine w_null rfl (fun c1 => ?_) (fun b2 c1 => ?_)
  · refine w_run 2 (S' := (31, [(0, vR (some a))], [vI (-1)], σ, 0, 0)) rfl ?_
    exact w_iret rfl (Or.inl rfl) (by omega) (by omega) (⟨by simp [nkF, c1], rfl⟩)
  · refine w_run 1 (S' := (8, [(0, vR (some a))], [vR (some a)], σ, 0, 0)) rfl ?_
    refine w_get (k := 5) (vR (σ.2.1 50106 a 0)) rfl rfl rfl hk rfl rfl ?_
    refine w_get (k := 6) (vR (σ.2.1 60303 b2 0)) rfl rfl c1 (hw 50106 a 0 b2 c1 (by decide)) rfl rfl ?_
    refine w_nonnull rfl (fun b4 c3 => ?_) (fun c3 => ?_)
    · refine w_run 1 (S' := (22, [(0, vR (some a))], [vR (some a)], σ, 0, 0)) rfl ?_
      refine w_get (k := 5) (vR (σ.2.1 50106 a 0)) rfl rfl rfl hk rfl rfl ?_
      refine w_get (k := 6) (vR (σ.2.1 60303 b2 0)) rfl rfl c1 (hw 50106 a 0 b2 c1 (by decide)) rfl rfl ?_
      refine w_get (k := 3) (vI (σ.1 30100 b4 0)) rfl rfl c3 (hw 60303 b2 0 b4 c3 (by decide)) rfl rfl ?_
      exact w_iret rfl (Or.inl rfl) (by omega) (by omega) (⟨by simp [nkF, c1, c3], rfl⟩)
    · refine w_run 2 (S' := (31, [(0, vR (some a))], [vI (-1)], σ, 0, 0)) rfl ?_
      exact w_iret rfl (Or.inl rfl) (by omega) (by omega) (⟨by simp [nkF, c1, c3], rfl⟩)

def natF (f : Nat → Option Nat) (k : Int32) : Option Nat := if k < 0 then none else if k < 10 then f k.toNatClampNeg else none
set_option maxHeartbeats 4000000 in
theorem c_pr_nodeAt (l : Launch) (E : FE) (d : Nat) (σ : Sg) (p a1 : Nat) (k : Int32) (hk : σ.2.2.2 p = 2) (h1 : σ.2.1 20111 p 0 = some a1) (hw : WF σ) : CT l E d 32 [vR (some p), vI k] σ 0 0 (fun r σ' => r = some (vR (natF (σ.2.1 110003 a1) k)) ∧ σ' = σ) (fun _ _ => False) := by
  refine CTo ok_pr_nodeAt (by decide +kernel) rfl rfl rfl ?_
  refine w_run 1 (S' := (1, [(0, vR (some p)), (1, vI k)], [vI k], σ, 0, 0)) rfl ?_
  refine w_if_lt rfl (fun c1 => ?_) (fun c1 => ?_)
  · refine w_run 2 (S' := (20, [(0, vR (some p)), (1, vI k)], [vR none], σ, 0, 0)) rfl ?_
    exact w_aret rfl rfl (Or.inl ⟨_, rfl⟩) (by omega) (by omega) (⟨by simp [natF, c1], rfl⟩)
  · refine w_run 2 (S' := (7, [(0, vR (some p)), (1, vI k)], [vI 10, vI k], σ, 0, 0)) rfl ?_
    refine w_ic_lt rfl (fun c2 => ?_) (fun c2 => ?_)
    · refine w_run 1 (S' := (15, [(0, vR (some p)), (1, vI k)], [vR (some p)], σ, 0, 0)) rfl ?_
      refine w_get (k := 2) (vR (σ.2.1 20111 p 0)) rfl rfl rfl hk rfl rfl ?_
      refine w_run 1 (S' := (19, [(0, vR (some p)), (1, vI k)], [vI k, vR (σ.2.1 20111 p 0)], σ, 0, 0)) rfl ?_
      refine w_aald (k := 11) rfl h1 (hw 20111 p 0 a1 h1 (by decide)) rfl rfl (show vp_in k 10 from in_le c1 (fun h9 => absurd c2 (Int32.not_lt.mpr h9)) (by decide) (by decide)) ?_
      show WG _ _ _ _ _ _ _ (20, [(0, vR (some p)), (1, vI k)], [vR (σ.2.1 110003 a1 k.toNatClampNeg)], σ, 0, 0)
      exact w_aret rfl rfl (Or.inl ⟨_, rfl⟩) (by omega) (by omega) (⟨by simp [natF, c1, c2], rfl⟩)
    · refine w_run 2 (S' := (20, [(0, vR (some p)), (1, vI k)], [vR none], σ, 0, 0)) rfl ?_
      exact w_aret rfl rfl (Or.inl ⟨_, rfl⟩) (by omega) (by omega) (⟨by simp [natF, c1, c2], rfl⟩)

def ownF (σ : Sg) (p n : Nat) : Int32 := if σ.1 30000 n 0 = σ.1 20000 p 0 then (if σ.1 30200 n 0 = 0 then 1 else 0) else 0
set_option maxHeartbeats 4000000 in
theorem c_pr_owns (l : Launch) (E : FE) (d : Nat) (σ : Sg) (p n : Nat) (hk : σ.2.2.2 p = 2) (hn : σ.2.2.2 n = 3) : CT l E d 33 [vR (some p), vR (some n)] σ 0 0 (fun r σ' => r = some (vI (ownF σ p n)) ∧ σ' = σ) (fun _ _ => False) := by
  refine CTo ok_pr_owns (by decide +kernel) rfl rfl rfl ?_
  refine w_run 1 (S' := (1, [(0, vR (some p)), (1, vR (some n))], [vR (some n)], σ, 0, 0)) rfl ?_
  refine w_get (k := 3) (vI (σ.1 30000 n 0)) rfl rfl rfl hn rfl rfl ?_
  refine w_run 1 (S' := (5, [(0, vR (some p)), (1, vR (some n))], [vR (some p), vI (σ.1 30000 n 0)], σ, 0, 0)) rfl ?_
  refine w_get (k := 2) (vI (σ.1 20000 p 0)) rfl rfl rfl hk rfl rfl ?_
  refine w_ic_ne rfl (fun c1 => ?_) (fun c1 => ?_)
  · refine w_run 1 (S' := (23, [(0, vR (some p)), (1, vR (some n))], [vI 0], σ, 0, 0)) rfl ?_
    exact w_iret rfl (Or.inr ⟨rfl, Or.inl rfl⟩) (by omega) (by omega) (⟨by simp [ownF, c1], rfl⟩)
  · refine w_run 1 (S' := (12, [(0, vR (some p)), (1, vR (some n))], [vR (some n)], σ, 0, 0)) rfl ?_
    refine w_get (k := 3) (vI (σ.1 30200 n 0)) rfl rfl rfl hn rfl rfl ?_
    refine w_if_ne rfl (fun c2 => ?_) (fun c2 => ?_)
    · refine w_run 1 (S' := (23, [(0, vR (some p)), (1, vR (some n))], [vI 0], σ, 0, 0)) rfl ?_
      exact w_iret rfl (Or.inr ⟨rfl, Or.inl rfl⟩) (by omega) (by omega) (⟨by simp [ownF, c1, c2], rfl⟩)
    · refine w_run 2 (S' := (23, [(0, vR (some p)), (1, vR (some n))], [vI 1], σ, 0, 0)) rfl ?_
      exact w_iret rfl (Or.inr ⟨rfl, Or.inr rfl⟩) (by omega) (by omega) (⟨by simp [ownF, c1, c2], rfl⟩)

