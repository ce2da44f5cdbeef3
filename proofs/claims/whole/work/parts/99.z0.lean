/-! take from an empty inbox, as the model has it -/
set_option maxHeartbeats 4000000 in
theorem c_mo_take2 (l : Launch) (E : FE) (d : Nat) (σ : Sg) (m : Nat) (A : Nat → Nat) (p : Nat) (hd : 3 ≤ d) (hM : MO σ m A) (hp : p < 4) (hal : ¬ σ.1 510000 (A 0) p = 0) (hW : σ.1 720000 (A 21) p = nI 0) : CT l E d 104 [vR (some m), vI (nI p)] σ 0 0 (fun r σ' => r = some (vI 0) ∧ σ' = sI σ 500000 m 0 0) (fun _ _ => False) := by
  refine CTo ok_mo_take (by decide +kernel) rfl rfl rfl ?_
  refine w_run 2 (S' := (2, [(0, vR (some m)), (1, vI (nI p))], [vI (nI p), vR (some m)], σ, 0, 0)) rfl ?_
  refine w_callV (st := []) [vI (nI p)] rfl ml_10_123 rfl rfl hM.1 rfl rfl rfl (by simp only [RM]; omega) (by simp only [RM]; show 8 + (2 + 11) + _ ≤ _; omega) rfl (by simp only [RM]; omega) (by simp only [RM]; omega) (c_mo_absent0 l E (d - 1) σ m A p hM hp hal) (fun _ _ h => h.elim) ?_
  intro r9 s9 q9
  rw [q9.1, q9.2]
  clear q9 r9 s9
  show WG _ _ _ _ _ _ _ (5, [(0, vR (some m)), (1, vI (nI p))], [vI 0], sI σ 500000 m 0 0, 0, 0)
  refine w_if_ne rfl (fun c1 => (absurd ((nI_eq (a := 0) (b := 0) (by omega) (by omega)).mpr (by omega)) c1)) (fun c1 => ?_)
  have nc1 := (nI_eq (a := 0) (b := 0) (by omega) (by omega)).mp c1
  refine w_run 1 (S' := (9, [(0, vR (some m)), (1, vI (nI p))], [vR (some m)], sI σ 500000 m 0 0, 0, 0)) rfl ?_
  refine w_get (k := 50) (vR (σ.2.1 502472 m 0)) rfl rfl rfl hM.1 rfl rfl ?_
  refine w_run 1 (S' := (13, [(0, vR (some m)), (1, vI (nI p))], [vI (nI p), vR (σ.2.1 502472 m 0)], sI σ 500000 m 0 0, 0, 0)) rfl ?_
  refine w_iald (k := 72) rfl ((hM.2 21 (by decide)).1) ((hM.2 21 (by decide)).2) rfl (show vp_in (nI p) 4 from vp_in_nI (n := p) (by omega) (by decide)) ?_
  show WG _ _ _ _ _ _ _ (14, [(0, vR (some m)), (1, vI (nI p))], [vI ((sI σ 500000 m 0 0).1 720000 (A 21) (nI p).toNatClampNeg)], sI σ 500000 m 0 0, 0, 0)
  rw [show (nI p : Int32).toNatClampNeg = p from nI_clamp (n := p) (by omega)]
  show WG _ _ _ _ _ _ _ (14, [(0, vR (some m)), (1, vI (nI p))], [vI (σ.1 720000 (A 21) p)], sI σ 500000 m 0 0, 0, 0)
  refine Eq.mp (congrArg (fun x9 => WG _ _ _ _ _ _ _ (14, [(0, vR (some m)), (1, vI (nI p))], [vI x9], sI σ 500000 m 0 0, 0, 0)) (hW.symm : nI 0 = σ.1 720000 (A 21) p)) ?_
  show WG _ _ _ _ _ _ _ (14, [(0, vR (some m)), (1, vI (nI p))], [vI 0], sI σ 500000 m 0 0, 0, 0)
  refine w_if_ne rfl (fun c2 => (absurd c1 c2)) (fun c2 => ?_)
  have nc2 := (nI_eq (a := 0) (b := 0) (by omega) (by omega)).mp c2
  refine w_run 1 (S' := (18, [(0, vR (some m)), (1, vI (nI p))], [vI 0], sI σ 500000 m 0 0, 0, 0)) rfl ?_
  exact w_iret rfl (Or.inl rfl) (by omega) (by omega) (⟨rfl, rfl⟩)

