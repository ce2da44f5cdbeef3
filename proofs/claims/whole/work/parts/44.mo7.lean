/-! the model: gap -/
def nxS (σ : Sg) (A : Nat → Nat) (p : Nat) (c : Int32) : Int32 := itF (nxbF (σ.1 610000 (A 10)) (σ.1 620000 (A 11)) c) 64 (64 * p) 64
def bhS (σ : Sg) (A : Nat → Nat) (p : Nat) (c : Int32) : Int32 := itF (bhbF (σ.1 610000 (A 10)) (σ.1 620000 (A 11)) (σ.1 630000 (A 12)) c) 64 (64 * p) c
def gapF (nx bh : Int32 → Int32) (need : Int32) : Nat → Int32 → Int32 → Int32 → Option Int32
  | 0, _, _, _ => none
  | k + 1, t, best, bc => if t > 64 then some best else
    if nx t - t < need then (if nx t ≥ 64 then gapF nx bh need k 65 best bc else gapF nx bh need k (bh (nx t)) best bc)
    else if nx t - t ≥ bc then (if nx t ≥ 64 then gapF nx bh need k 65 best bc else gapF nx bh need k (bh (nx t)) best bc)
    else (if nx t ≥ 64 then gapF nx bh need k 65 t (nx t - t) else gapF nx bh need k (bh (nx t)) t (nx t - t))
set_option maxHeartbeats 4000000 in
theorem lp_mo_gap (l : Launch) (E : FE) (d : Nat) (σ : Sg) (m : Nat) (A : Nat → Nat) (p : Nat) (need z : Int32) (hd : 1 ≤ d) (hM : MO σ m A) (hp : p < 4) : ∀ (k : Nat) (t best bc : Int32), gapF (nxS σ A p) (bhS σ A p) need k t best bc = some z → WP l E d 95 [vR (some m), vI (nI p), vI need] 0 0 (fun r σ' => r = some (vI z) ∧ σ' = σ) (fun _ _ => False) (9, [(5, vI t), (4, vI bc), (3, vI best), (0, vR (some m)), (1, vI (nI p)), (2, vI need)], [], σ, 0, 0) := by
  intro k
  induction k with
  | zero => intro t best bc e; cases e
  | succ k ih =>
    intro t best bc e
    refine w_run 2 (S' := (13, [(5, vI t), (4, vI bc), (3, vI best), (0, vR (some m)), (1, vI (nI p)), (2, vI need)], [vI 64, vI t], σ, 0, 0)) rfl ?_
    refine w_ic_gt rfl (fun c1 => ?_) (fun c1 => ?_)
    · refine w_run 1 (S' := (79, [(5, vI t), (4, vI bc), (3, vI best), (0, vR (some m)), (1, vI (nI p)), (2, vI need)], [vI best], σ, 0, 0)) rfl ?_
      exact w_iret rfl (Or.inl rfl) (by omega) (by omega) (⟨by simp only [gapF, if_pos c1] at e; rw [Option.some.inj e], rfl⟩)
    · refine w_run 3 (S' := (20, [(5, vI t), (4, vI bc), (3, vI best), (0, vR (some m)), (1, vI (nI p)), (2, vI need)], [vI t, vI (nI p), vR (some m)], σ, 0, 0)) rfl ?_
      refine w_callV (st := []) [vI (nI p), vI t] rfl ml_10_147 rfl rfl hM.1 rfl rfl rfl (by simp only [RM]; omega) (by simp only [RM]; show 8 + (5 + 11) + _ ≤ _; omega) rfl (by simp only [RM]; omega) (by simp only [RM]; omega) (c_mo_nextBuffer l E (d - 1) σ m A p t hM hp) (fun _ _ h => h.elim) ?_
      intro r9 s9 q9
      rw [q9.1, q9.2]
      clear q9 r9 s9
      show WG _ _ _ _ _ _ _ (23, [(5, vI t), (4, vI bc), (3, vI best), (0, vR (some m)), (1, vI (nI p)), (2, vI need)], [vI (nxS σ A p t)], σ, 0, 0)
      refine w_run 5 (S' := (31, [(6, vI (nxS σ A p t)), (5, vI t), (4, vI bc), (3, vI best), (0, vR (some m)), (1, vI (nI p)), (2, vI need)], [vI need, vI ((nxS σ A p t) - t)], σ, 0, 0)) rfl ?_
      refine w_ic_lt rfl (fun c2 => ?_) (fun c2 => ?_)
      · refine w_run 2 (S' := (58, [(6, vI (nxS σ A p t)), (5, vI t), (4, vI bc), (3, vI best), (0, vR (some m)), (1, vI (nI p)), (2, vI need)], [vI 64, vI (nxS σ A p t)], σ, 0, 0)) rfl ?_
        refine w_ic_ge rfl (fun c3 => ?_) (fun c3 => ?_)
        · refine w_run 3 (S' := (9, [(5, vI 65), (6, vI (nxS σ A p t)), (4, vI bc), (3, vI best), (0, vR (some m)), (1, vI (nI p)), (2, vI need)], [], σ, 0, 0)) rfl ?_
          refine w_lsP [0, 2, 3, 4, 5, 6] ?_
          show WG _ _ _ _ _ _ _ (9, [(5, vI 65), (4, vI bc), (3, vI best), (0, vR (some m)), (1, vI (nI p)), (2, vI need)], [], σ, 0, 0)
          simp only [gapF, if_neg c1, if_pos c2, if_pos c3] at e
          exact ih _ _ _ e
        · refine w_run 3 (S' := (65, [(6, vI (nxS σ A p t)), (5, vI t), (4, vI bc), (3, vI best), (0, vR (some m)), (1, vI (nI p)), (2, vI need)], [vI (nxS σ A p t), vI (nI p), vR (some m)], σ, 0, 0)) rfl ?_
          refine w_callV (st := []) [vI (nI p), vI (nxS σ A p t)] rfl ml_10_150 rfl rfl hM.1 rfl rfl rfl (by simp only [RM]; omega) (by simp only [RM]; show 8 + (5 + 11) + _ ≤ _; omega) rfl (by simp only [RM]; omega) (by simp only [RM]; omega) (c_mo_behindBuffer l E (d - 1) σ m A p (nxS σ A p t) hM hp) (fun _ _ h => h.elim) ?_
          intro r9 s9 q9
          rw [q9.1, q9.2]
          clear q9 r9 s9
          show WG _ _ _ _ _ _ _ (68, [(6, vI (nxS σ A p t)), (5, vI t), (4, vI bc), (3, vI best), (0, vR (some m)), (1, vI (nI p)), (2, vI need)], [vI (bhS σ A p (nxS σ A p t))], σ, 0, 0)
          refine w_run 3 (S' := (9, [(5, vI (bhS σ A p (nxS σ A p t))), (6, vI (nxS σ A p t)), (4, vI bc), (3, vI best), (0, vR (some m)), (1, vI (nI p)), (2, vI need)], [], σ, 0, 0)) rfl ?_
          refine w_lsP [0, 2, 3, 4, 5, 6] ?_
          show WG _ _ _ _ _ _ _ (9, [(5, vI (bhS σ A p (nxS σ A p t))), (4, vI bc), (3, vI best), (0, vR (some m)), (1, vI (nI p)), (2, vI need)], [], σ, 0, 0)
          simp only [gapF, if_neg c1, if_pos c2, if_neg c3] at e
          exact ih _ _ _ e
      · refine w_run 4 (S' := (41, [(6, vI (nxS σ A p t)), (5, vI t), (4, vI bc), (3, vI best), (0, vR (some m)), (1, vI (nI p)), (2, vI need)], [vI bc, vI ((nxS σ A p t) - t)], σ, 0, 0)) rfl ?_
        refine w_ic_ge rfl (fun c4 => ?_) (fun c4 => ?_)
        · refine w_run 2 (S' := (58, [(6, vI (nxS σ A p t)), (5, vI t), (4, vI bc), (3, vI best), (0, vR (some m)), (1, vI (nI p)), (2, vI need)], [vI 64, vI (nxS σ A p t)], σ, 0, 0)) rfl ?_
          refine w_ic_ge rfl (fun c5 => ?_) (fun c5 => ?_)
          · refine w_run 3 (S' := (9, [(5, vI 65), (6, vI (nxS σ A p t)), (4, vI bc), (3, vI best), (0, vR (some m)), (1, vI (nI p)), (2, vI need)], [], σ, 0, 0)) rfl ?_
            refine w_lsP [0, 2, 3, 4, 5, 6] ?_
            show WG _ _ _ _ _ _ _ (9, [(5, vI 65), (4, vI bc), (3, vI best), (0, vR (some m)), (1, vI (nI p)), (2, vI need)], [], σ, 0, 0)
            simp only [gapF, if_neg c1, if_neg c2, if_pos c4, if_pos c5] at e
            exact ih _ _ _ e
          · refine w_run 3 (S' := (65, [(6, vI (nxS σ A p t)), (5, vI t), (4, vI bc), (3, vI best), (0, vR (some m)), (1, vI (nI p)), (2, vI need)], [vI (nxS σ A p t), vI (nI p), vR (some m)], σ, 0, 0)) rfl ?_
            refine w_callV (st := []) [vI (nI p), vI (nxS σ A p t)] rfl ml_10_150 rfl rfl hM.1 rfl rfl rfl (by simp only [RM]; omega) (by simp only [RM]; show 8 + (5 + 11) + _ ≤ _; omega) rfl (by simp only [RM]; omega) (by simp only [RM]; omega) (c_mo_behindBuffer l E (d - 1) σ m A p (nxS σ A p t) hM hp) (fun _ _ h => h.elim) ?_
            intro r9 s9 q9
            rw [q9.1, q9.2]
            clear q9 r9 s9
            show WG _ _ _ _ _ _ _ (68, [(6, vI (nxS σ A p t)), (5, vI t), (4, vI bc), (3, vI best), (0, vR (some m)), (1, vI (nI p)), (2, vI need)], [vI (bhS σ A p (nxS σ A p t))], σ, 0, 0)
            refine w_run 3 (S' := (9, [(5, vI (bhS σ A p (nxS σ A p t))), (6, vI (nxS σ A p t)), (4, vI bc), (3, vI best), (0, vR (some m)), (1, vI (nI p)), (2, vI need)], [], σ, 0, 0)) rfl ?_
            refine w_lsP [0, 2, 3, 4, 5, 6] ?_
            show WG _ _ _ _ _ _ _ (9, [(5, vI (bhS σ A p (nxS σ A p t))), (4, vI bc), (3, vI best), (0, vR (some m)), (1, vI (nI p)), (2, vI need)], [], σ, 0, 0)
            simp only [gapF, if_neg c1, if_neg c2, if_pos c4, if_neg c5] at e
            exact ih _ _ _ e
        · refine w_run 8 (S' := (58, [(4, vI ((nxS σ A p t) - t)), (3, vI t), (6, vI (nxS σ A p t)), (5, vI t), (0, vR (some m)), (1, vI (nI p)), (2, vI need)], [vI 64, vI (nxS σ A p t)], σ, 0, 0)) rfl ?_
          refine w_ic_ge rfl (fun c6 => ?_) (fun c6 => ?_)
          · refine w_run 3 (S' := (9, [(5, vI 65), (4, vI ((nxS σ A p t) - t)), (3, vI t), (6, vI (nxS σ A p t)), (0, vR (some m)), (1, vI (nI p)), (2, vI need)], [], σ, 0, 0)) rfl ?_
            refine w_lsP [0, 1, 2, 4, 5, 6] ?_
            show WG _ _ _ _ _ _ _ (9, [(5, vI 65), (4, vI ((nxS σ A p t) - t)), (3, vI t), (0, vR (some m)), (1, vI (nI p)), (2, vI need)], [], σ, 0, 0)
            simp only [gapF, if_neg c1, if_neg c2, if_neg c4, if_pos c6] at e
            exact ih _ _ _ e
          · refine w_run 3 (S' := (65, [(4, vI ((nxS σ A p t) - t)), (3, vI t), (6, vI (nxS σ A p t)), (5, vI t), (0, vR (some m)), (1, vI (nI p)), (2, vI need)], [vI (nxS σ A p t), vI (nI p), vR (some m)], σ, 0, 0)) rfl ?_
            refine w_callV (st := []) [vI (nI p), vI (nxS σ A p t)] rfl ml_10_150 rfl rfl hM.1 rfl rfl rfl (by simp only [RM]; omega) (by simp only [RM]; show 8 + (5 + 11) + _ ≤ _; omega) rfl (by simp only [RM]; omega) (by simp only [RM]; omega) (c_mo_behindBuffer l E (d - 1) σ m A p (nxS σ A p t) hM hp) (fun _ _ h => h.elim) ?_
            intro r9 s9 q9
            rw [q9.1, q9.2]
            clear q9 r9 s9
            show WG _ _ _ _ _ _ _ (68, [(4, vI ((nxS σ A p t) - t)), (3, vI t), (6, vI (nxS σ A p t)), (5, vI t), (0, vR (some m)), (1, vI (nI p)), (2, vI need)], [vI (bhS σ A p (nxS σ A p t))], σ, 0, 0)
            refine w_run 3 (S' := (9, [(5, vI (bhS σ A p (nxS σ A p t))), (4, vI ((nxS σ A p t) - t)), (3, vI t), (6, vI (nxS σ A p t)), (0, vR (some m)), (1, vI (nI p)), (2, vI need)], [], σ, 0, 0)) rfl ?_
            refine w_lsP [0, 1, 2, 4, 5, 6] ?_
            show WG _ _ _ _ _ _ _ (9, [(5, vI (bhS σ A p (nxS σ A p t))), (4, vI ((nxS σ A p t) - t)), (3, vI t), (0, vR (some m)), (1, vI (nI p)), (2, vI need)], [], σ, 0, 0)
            simp only [gapF, if_neg c1, if_neg c2, if_neg c4, if_neg c6] at e
            exact ih _ _ _ e
set_option maxHeartbeats 4000000 in
theorem c_mo_gap (l : Launch) (E : FE) (d : Nat) (σ : Sg) (m : Nat) (A : Nat → Nat) (p : Nat) (need z : Int32) (hd : 1 ≤ d) (hM : MO σ m A) (hp : p < 4) (hz : gapF (nxS σ A p) (bhS σ A p) need 66 0 (-1) 65 = some z) : CT l E d 95 [vR (some m), vI (nI p), vI need] σ 0 0 (fun r σ' => r = some (vI z) ∧ σ' = σ) (fun _ _ => False) := by
  refine CTo ok_mo_gap (by decide +kernel) rfl rfl rfl ?_
  refine w_run 6 (S' := (9, [(5, vI 0), (4, vI 65), (3, vI (-1)), (0, vR (some m)), (1, vI (nI p)), (2, vI need)], [], σ, 0, 0)) rfl ?_
  exact lp_mo_gap l E d σ m A p need z hd hM hp 66 0 (-1) 65 hz

