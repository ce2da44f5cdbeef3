/-! deliver, watchNode, accept -/
def wkS (σ : Sg) (q : Nat) (k : Int32) (m : Option Nat) (c : Int32) : Sg := sI (sO (sI (sN σ q 5) 50000 q 0 k) 50106 q 0 m) 50200 q 0 c
def wtS (σ : Sg) (q n : Nat) (c : Int32) : Sg := sI (sO (sN σ q 7) 70003 q 0 (some n)) 70100 q 0 c
def bsyS (σ : Sg) (m : Nat) : Sg := if σ.1 60000 m 0 = 2 then (match σ.2.1 60303 m 0 with
  | none => σ
  | some n => sI σ 30300 n 0 1) else σ
set_option maxHeartbeats 4000000 in
theorem c_pr_deliver (l : Launch) (E : FE) (d : Nat) (σ : Sg) (D : Nat → Nat → Nat) (p m : Nat) (L1 : Nat → List Nat) (AR1 : Nat → Nat) (hd : 8 ≤ d) (hp : p < 4) (hP : SHp σ (D p)) (hw : WF σ) (hl20 : LLx E 20 41 5 (fun p => D p 12) L1 AR1 σ) (hm : σ.2.2.2 m = 6) (hL20 : (L1 p).length < 128) : CT l E d 39 [vR (some (D p 0)), vR (some m)] σ 2 453 (fun r σ' => r = none ∧ ∃ q AR', σ.2.2.2 q = 0 ∧ q ≠ fe E ∧ LLx E 20 41 5 (fun p => D p 12) (upL L1 p (L1 p ++ [q])) AR' σ' ∧ Eqk E 20 41 (wkS (bsyS σ m) q ((sN (bsyS σ m) q 5).1 60000 m 0) (some m) 0) σ') (fun _ _ => False) := by
  refine CTo ok_pr_deliver (by decide +kernel) rfl rfl rfl ?_
  refine w_run 1 (S' := (1, [(0, vR (some (D p 0))), (1, vR (some m))], [vR (some m)], σ, 0, 0)) rfl ?_
  refine w_get (k := 6) (vI (σ.1 60000 m 0)) rfl rfl rfl hm rfl rfl ?_
  refine w_run 1 (S' := (5, [(0, vR (some (D p 0))), (1, vR (some m))], [vI 2, vI (σ.1 60000 m 0)], σ, 0, 0)) rfl ?_
  refine w_ic_ne rfl (fun c1 => ?_) (fun c1 => ?_)
  · refine w_run 1 (S' := (24, [(0, vR (some (D p 0))), (1, vR (some m))], [vR (some (D p 0))], σ, 0, 0)) rfl ?_
    refine w_get (k := 2) (vR (σ.2.1 20520 (D p 0) 0)) rfl rfl rfl hP.1 rfl rfl ?_
    refine w_new (k := 5) rfl rfl 5 rfl rfl (by simp only [RM]; omega) (by simp only [RM]; show _ + 3 ≤ _; omega) (fun q hq hqe => ?_)
    have hn_D_p_0 : D p 0 ≠ q := ne0 (hP.1) hq (by decide)
    have hk_D_p_0 : (sN σ q 5).2.2.2 (D p 0) = 2 := by simp only [sN]; rw [if_neg hn_D_p_0]; exact hP.1
    have hn_D_p_12 : D p 12 ≠ q := ne0 ((hw 20520 (D p 0) 0 (D p 12) (hP.2 4 (by decide)) (by decide))) hq (by decide)
    have hk_D_p_12 : (sN σ q 5).2.2.2 (D p 12) = 20 := by simp only [sN]; rw [if_neg hn_D_p_12]; exact (hw 20520 (D p 0) 0 (D p 12) (hP.2 4 (by decide)) (by decide))
    have hn_m : m ≠ q := ne0 (hm) hq (by decide)
    have hk_m : (sN σ q 5).2.2.2 m = 6 := by simp only [sN]; rw [if_neg hn_m]; exact hm
    have hkq : (sN σ q 5).2.2.2 q = 5 := by simp [sN]
    show WG _ _ _ _ _ _ _ (30, [(0, vR (some (D p 0))), (1, vR (some m))], [vR (some q), vR (σ.2.1 20520 (D p 0) 0)], sN σ q 5, 0 + 1, 0 + 3)
    refine w_run 2 (S' := (32, [(0, vR (some (D p 0))), (1, vR (some m))], [vR (some m), vR (some q), vR (some q), vR (σ.2.1 20520 (D p 0) 0)], sN σ q 5, 0 + 1, 0 + 3)) rfl ?_
    refine w_get (k := 6) (vI ((sN σ q 5).1 60000 m 0)) rfl rfl rfl hk_m rfl rfl ?_
    refine w_run 2 (S' := (37, [(0, vR (some (D p 0))), (1, vR (some m))], [vI 0, vR (some m), vI ((sN σ q 5).1 60000 m 0), vR (some q), vR (some q), vR (σ.2.1 20520 (D p 0) 0)], sN σ q 5, 0 + 1, 0 + 3)) rfl ?_
    refine w_callI (st := [vR (some q), vR (σ.2.1 20520 (D p 0) 0)]) [vI ((sN σ q 5).1 60000 m 0), vR (some m), vI 0] rfl ml_1_147 rfl rfl (by simp only [RM]; omega) (by simp only [RM]; show 8 + (4 + 11) + _ ≤ _; omega) rfl (by simp only [RM]; omega) (by simp only [RM]; omega) (c_wk_init l E (d - 1) (sN σ q 5) q ((sN σ q 5).1 60000 m 0) 0 (some m) (by omega) hkq (fun b9 h9 => by cases h9; exact hk_m)) ?_
    intro r9 s9 q9
    rw [q9.1, q9.2]
    clear q9 r9 s9
    show WG _ _ _ _ _ _ _ (40, [(0, vR (some (D p 0))), (1, vR (some m))], [vR (some q), vR (σ.2.1 20520 (D p 0) 0)], wkS (σ) q ((sN σ q 5).1 60000 m 0) (some m) 0, 0 + 1, 0 + 3)
    refine Eq.mp (congrArg (fun x9 => WG _ _ _ _ _ _ _ (40, [(0, vR (some (D p 0))), (1, vR (some m))], [vR (some q), vR x9], wkS (σ) q ((sN σ q 5).1 60000 m 0) (some m) 0, 0 + 1, 0 + 3)) (Eq.symm (hP.2 4 (by decide)) : some (D p 12) = σ.2.1 20520 (D p 0) 0)) ?_
    show WG _ _ _ _ _ _ _ (40, [(0, vR (some (D p 0))), (1, vR (some m))], [vR (some q), vR (some (D p 12))], wkS (σ) q ((sN σ q 5).1 60000 m 0) (some m) 0, 0 + 1, 0 + 3)
    refine w_callV (st := []) [vR (some q)] rfl ml_1_150 rfl rfl hk_D_p_12 rfl rfl rfl (by simp only [RM]; omega) (by simp only [RM]; show 8 + (2 + 11) + _ ≤ _; omega) rfl (by simp only [RM]; omega) (by simp only [RM]; omega) (c_la_add_20 l E (d - 1) (wkS (σ) q ((sN σ q 5).1 60000 m 0) (some m) 0) (fun p => D p 12) L1 AR1 (show LLx E 20 41 5 (fun p => D p 12) L1 AR1 (wkS (σ) q ((sN σ q 5).1 60000 m 0) (some m) 0) from ((((hl20).n (by decide) (by decide) hq hqe).i (by decide) (by decide)).o (by decide) (by decide)).i (by decide) (by decide)) p hp q (d - 8) (by omega) hkq hL20) (fun _ _ h => h.elim) ?_
    intro r9 s9 q9
    obtain ⟨e1, AR9, hl9, he9⟩ := q9
    subst e1
    show WG _ _ _ _ _ _ _ (43, [(0, vR (some (D p 0))), (1, vR (some m))], [vI 1], s9, 0 + 1 + 1, 0 + 3 + 450)
    refine w_run 1 (S' := (44, [(0, vR (some (D p 0))), (1, vR (some m))], [], s9, 0 + 1 + 1, 0 + 3 + 450)) rfl ?_
    exact w_vret rfl rfl (by omega) (by omega) (⟨rfl, q, AR9, hq, hqe, hl9, by rw [show bsyS σ m = σ from by simp [bsyS, c1]]; exact he9⟩)
  · refine w_run 1 (S' := (9, [(0, vR (some (D p 0))), (1, vR (some m))], [vR (some m)], σ, 0, 0)) rfl ?_
    refine w_get (k := 6) (vR (σ.2.1 60303 m 0)) rfl rfl rfl hm rfl rfl ?_
    refine w_null rfl (fun c2 => ?_) (fun b3 c2 => ?_)
    · refine w_run 1 (S' := (24, [(0, vR (some (D p 0))), (1, vR (some m))], [vR (some (D p 0))], σ, 0, 0)) rfl ?_
      refine w_get (k := 2) (vR (σ.2.1 20520 (D p 0) 0)) rfl rfl rfl hP.1 rfl rfl ?_
      refine w_new (k := 5) rfl rfl 5 rfl rfl (by simp only [RM]; omega) (by simp only [RM]; show _ + 3 ≤ _; omega) (fun q hq hqe => ?_)
      have hn_D_p_0 : D p 0 ≠ q := ne0 (hP.1) hq (by decide)
      have hk_D_p_0 : (sN σ q 5).2.2.2 (D p 0) = 2 := by simp only [sN]; rw [if_neg hn_D_p_0]; exact hP.1
      have hn_D_p_12 : D p 12 ≠ q := ne0 ((hw 20520 (D p 0) 0 (D p 12) (hP.2 4 (by decide)) (by decide))) hq (by decide)
      have hk_D_p_12 : (sN σ q 5).2.2.2 (D p 12) = 20 := by simp only [sN]; rw [if_neg hn_D_p_12]; exact (hw 20520 (D p 0) 0 (D p 12) (hP.2 4 (by decide)) (by decide))
      have hn_m : m ≠ q := ne0 (hm) hq (by decide)
      have hk_m : (sN σ q 5).2.2.2 m = 6 := by simp only [sN]; rw [if_neg hn_m]; exact hm
      have hkq : (sN σ q 5).2.2.2 q = 5 := by simp [sN]
      show WG _ _ _ _ _ _ _ (30, [(0, vR (some (D p 0))), (1, vR (some m))], [vR (some q), vR (σ.2.1 20520 (D p 0) 0)], sN σ q 5, 0 + 1, 0 + 3)
      refine w_run 2 (S' := (32, [(0, vR (some (D p 0))), (1, vR (some m))], [vR (some m), vR (some q), vR (some q), vR (σ.2.1 20520 (D p 0) 0)], sN σ q 5, 0 + 1, 0 + 3)) rfl ?_
      refine w_get (k := 6) (vI ((sN σ q 5).1 60000 m 0)) rfl rfl rfl hk_m rfl rfl ?_
      refine w_run 2 (S' := (37, [(0, vR (some (D p 0))), (1, vR (some m))], [vI 0, vR (some m), vI ((sN σ q 5).1 60000 m 0), vR (some q), vR (some q), vR (σ.2.1 20520 (D p 0) 0)], sN σ q 5, 0 + 1, 0 + 3)) rfl ?_
      refine w_callI (st := [vR (some q), vR (σ.2.1 20520 (D p 0) 0)]) [vI ((sN σ q 5).1 60000 m 0), vR (some m), vI 0] rfl ml_1_147 rfl rfl (by simp only [RM]; omega) (by simp only [RM]; show 8 + (4 + 11) + _ ≤ _; omega) rfl (by simp only [RM]; omega) (by simp only [RM]; omega) (c_wk_init l E (d - 1) (sN σ q 5) q ((sN σ q 5).1 60000 m 0) 0 (some m) (by omega) hkq (fun b9 h9 => by cases h9; exact hk_m)) ?_
      intro r9 s9 q9
      rw [q9.1, q9.2]
      clear q9 r9 s9
      show WG _ _ _ _ _ _ _ (40, [(0, vR (some (D p 0))), (1, vR (some m))], [vR (some q), vR (σ.2.1 20520 (D p 0) 0)], wkS (σ) q ((sN σ q 5).1 60000 m 0) (some m) 0, 0 + 1, 0 + 3)
      refine Eq.mp (congrArg (fun x9 => WG _ _ _ _ _ _ _ (40, [(0, vR (some (D p 0))), (1, vR (some m))], [vR (some q), vR x9], wkS (σ) q ((sN σ q 5).1 60000 m 0) (some m) 0, 0 + 1, 0 + 3)) (Eq.symm (hP.2 4 (by decide)) : some (D p 12) = σ.2.1 20520 (D p 0) 0)) ?_
      show WG _ _ _ _ _ _ _ (40, [(0, vR (some (D p 0))), (1, vR (some m))], [vR (some q), vR (some (D p 12))], wkS (σ) q ((sN σ q 5).1 60000 m 0) (some m) 0, 0 + 1, 0 + 3)
      refine w_callV (st := []) [vR (some q)] rfl ml_1_150 rfl rfl hk_D_p_12 rfl rfl rfl (by simp only [RM]; omega) (by simp only [RM]; show 8 + (2 + 11) + _ ≤ _; omega) rfl (by simp only [RM]; omega) (by simp only [RM]; omega) (c_la_add_20 l E (d - 1) (wkS (σ) q ((sN σ q 5).1 60000 m 0) (some m) 0) (fun p => D p 12) L1 AR1 (show LLx E 20 41 5 (fun p => D p 12) L1 AR1 (wkS (σ) q ((sN σ q 5).1 60000 m 0) (some m) 0) from ((((hl20).n (by decide) (by decide) hq hqe).i (by decide) (by decide)).o (by decide) (by decide)).i (by decide) (by decide)) p hp q (d - 8) (by omega) hkq hL20) (fun _ _ h => h.elim) ?_
      intro r9 s9 q9
      obtain ⟨e1, AR9, hl9, he9⟩ := q9
      subst e1
      show WG _ _ _ _ _ _ _ (43, [(0, vR (some (D p 0))), (1, vR (some m))], [vI 1], s9, 0 + 1 + 1, 0 + 3 + 450)
      refine w_run 1 (S' := (44, [(0, vR (some (D p 0))), (1, vR (some m))], [], s9, 0 + 1 + 1, 0 + 3 + 450)) rfl ?_
      exact w_vret rfl rfl (by omega) (by omega) (⟨rfl, q, AR9, hq, hqe, hl9, by rw [show bsyS σ m = σ from by simp [bsyS, c1, c2]]; exact he9⟩)
    · refine w_run 1 (S' := (16, [(0, vR (some (D p 0))), (1, vR (some m))], [vR (some m)], σ, 0, 0)) rfl ?_
      refine w_get (k := 6) (vR (σ.2.1 60303 m 0)) rfl rfl rfl hm rfl rfl ?_
      refine w_run 1 (S' := (20, [(0, vR (some (D p 0))), (1, vR (some m))], [vI 1, vR (σ.2.1 60303 m 0)], σ, 0, 0)) rfl ?_
      refine w_puti (k := 3) rfl rfl c2 (hw 60303 m 0 b3 c2 (by decide)) rfl rfl (Or.inr ⟨rfl, Or.inr rfl⟩) (Or.inl rfl) ?_
      show WG _ _ _ _ _ _ _ (23, [(0, vR (some (D p 0))), (1, vR (some m))], [], sI σ 30300 b3 0 1, 0, 0)
      refine w_run 1 (S' := (24, [(0, vR (some (D p 0))), (1, vR (some m))], [vR (some (D p 0))], sI σ 30300 b3 0 1, 0, 0)) rfl ?_
      refine w_get (k := 2) (vR (σ.2.1 20520 (D p 0) 0)) rfl rfl rfl hP.1 rfl rfl ?_
      refine w_new (k := 5) rfl rfl 5 rfl rfl (by simp only [RM]; omega) (by simp only [RM]; show _ + 3 ≤ _; omega) (fun q hq hqe => ?_)
      have hn_D_p_0 : D p 0 ≠ q := ne0 (hP.1) hq (by decide)
      have hk_D_p_0 : (sN (sI σ 30300 b3 0 1) q 5).2.2.2 (D p 0) = 2 := by simp only [sN]; rw [if_neg hn_D_p_0]; exact hP.1
      have hn_D_p_12 : D p 12 ≠ q := ne0 ((hw 20520 (D p 0) 0 (D p 12) (hP.2 4 (by decide)) (by decide))) hq (by decide)
      have hk_D_p_12 : (sN (sI σ 30300 b3 0 1) q 5).2.2.2 (D p 12) = 20 := by simp only [sN]; rw [if_neg hn_D_p_12]; exact (hw 20520 (D p 0) 0 (D p 12) (hP.2 4 (by decide)) (by decide))
      have hn_m : m ≠ q := ne0 (hm) hq (by decide)
      have hk_m : (sN (sI σ 30300 b3 0 1) q 5).2.2.2 m = 6 := by simp only [sN]; rw [if_neg hn_m]; exact hm
      have hn_b3 : b3 ≠ q := ne0 (hw 60303 m 0 b3 c2 (by decide)) hq (by decide)
      have hk_b3 : (sN (sI σ 30300 b3 0 1) q 5).2.2.2 b3 = 3 := by simp only [sN]; rw [if_neg hn_b3]; exact hw 60303 m 0 b3 c2 (by decide)
      have hkq : (sN (sI σ 30300 b3 0 1) q 5).2.2.2 q = 5 := by simp [sN]
      show WG _ _ _ _ _ _ _ (30, [(0, vR (some (D p 0))), (1, vR (some m))], [vR (some q), vR (σ.2.1 20520 (D p 0) 0)], sN (sI σ 30300 b3 0 1) q 5, 0 + 1, 0 + 3)
      refine w_run 2 (S' := (32, [(0, vR (some (D p 0))), (1, vR (some m))], [vR (some m), vR (some q), vR (some q), vR (σ.2.1 20520 (D p 0) 0)], sN (sI σ 30300 b3 0 1) q 5, 0 + 1, 0 + 3)) rfl ?_
      refine w_get (k := 6) (vI ((sN (sI σ 30300 b3 0 1) q 5).1 60000 m 0)) rfl rfl rfl hk_m rfl rfl ?_
      refine w_run 2 (S' := (37, [(0, vR (some (D p 0))), (1, vR (some m))], [vI 0, vR (some m), vI ((sN (sI σ 30300 b3 0 1) q 5).1 60000 m 0), vR (some q), vR (some q), vR (σ.2.1 20520 (D p 0) 0)], sN (sI σ 30300 b3 0 1) q 5, 0 + 1, 0 + 3)) rfl ?_
      refine w_callI (st := [vR (some q), vR (σ.2.1 20520 (D p 0) 0)]) [vI ((sN (sI σ 30300 b3 0 1) q 5).1 60000 m 0), vR (some m), vI 0] rfl ml_1_147 rfl rfl (by simp only [RM]; omega) (by simp only [RM]; show 8 + (4 + 11) + _ ≤ _; omega) rfl (by simp only [RM]; omega) (by simp only [RM]; omega) (c_wk_init l E (d - 1) (sN (sI σ 30300 b3 0 1) q 5) q ((sN (sI σ 30300 b3 0 1) q 5).1 60000 m 0) 0 (some m) (by omega) hkq (fun b9 h9 => by cases h9; exact hk_m)) ?_
      intro r9 s9 q9
      rw [q9.1, q9.2]
      clear q9 r9 s9
      show WG _ _ _ _ _ _ _ (40, [(0, vR (some (D p 0))), (1, vR (some m))], [vR (some q), vR (σ.2.1 20520 (D p 0) 0)], wkS (sI σ 30300 b3 0 1) q ((sN (sI σ 30300 b3 0 1) q 5).1 60000 m 0) (some m) 0, 0 + 1, 0 + 3)
      refine Eq.mp (congrArg (fun x9 => WG _ _ _ _ _ _ _ (40, [(0, vR (some (D p 0))), (1, vR (some m))], [vR (some q), vR x9], wkS (sI σ 30300 b3 0 1) q ((sN (sI σ 30300 b3 0 1) q 5).1 60000 m 0) (some m) 0, 0 + 1, 0 + 3)) (Eq.symm (hP.2 4 (by decide)) : some (D p 12) = σ.2.1 20520 (D p 0) 0)) ?_
      show WG _ _ _ _ _ _ _ (40, [(0, vR (some (D p 0))), (1, vR (some m))], [vR (some q), vR (some (D p 12))], wkS (sI σ 30300 b3 0 1) q ((sN (sI σ 30300 b3 0 1) q 5).1 60000 m 0) (some m) 0, 0 + 1, 0 + 3)
      refine w_callV (st := []) [vR (some q)] rfl ml_1_150 rfl rfl hk_D_p_12 rfl rfl rfl (by simp only [RM]; omega) (by simp only [RM]; show 8 + (2 + 11) + _ ≤ _; omega) rfl (by simp only [RM]; omega) (by simp only [RM]; omega) (c_la_add_20 l E (d - 1) (wkS (sI σ 30300 b3 0 1) q ((sN (sI σ 30300 b3 0 1) q 5).1 60000 m 0) (some m) 0) (fun p => D p 12) L1 AR1 (show LLx E 20 41 5 (fun p => D p 12) L1 AR1 (wkS (sI σ 30300 b3 0 1) q ((sN (sI σ 30300 b3 0 1) q 5).1 60000 m 0) (some m) 0) from (((((hl20.i (by decide) (by decide))).n (by decide) (by decide) hq hqe).i (by decide) (by decide)).o (by decide) (by decide)).i (by decide) (by decide)) p hp q (d - 8) (by omega) hkq hL20) (fun _ _ h => h.elim) ?_
      intro r9 s9 q9
      obtain ⟨e1, AR9, hl9, he9⟩ := q9
      subst e1
      show WG _ _ _ _ _ _ _ (43, [(0, vR (some (D p 0))), (1, vR (some m))], [vI 1], s9, 0 + 1 + 1, 0 + 3 + 450)
      refine w_run 1 (S' := (44, [(0, vR (some (D p 0))), (1, vR (some m))], [], s9, 0 + 1 + 1, 0 + 3 + 450)) rfl ?_
      exact w_vret rfl rfl (by omega) (by omega) (⟨rfl, q, AR9, hq, hqe, hl9, by rw [show bsyS σ m = sI σ 30300 b3 0 1 from by simp [bsyS, c1, c2]]; exact he9⟩)

set_option maxHeartbeats 4000000 in
theorem c_pr_watchNode (l : Launch) (E : FE) (d : Nat) (σ : Sg) (D : Nat → Nat → Nat) (p n : Nat) (c : Int32) (L1 : Nat → List Nat) (AR1 : Nat → Nat) (L3 : Nat → List Nat) (AR3 : Nat → Nat) (hd : 8 ≤ d) (hp : p < 4) (hP : SHp σ (D p)) (hw : WF σ) (hl20 : LLx E 20 41 5 (fun p => D p 12) L1 AR1 σ) (hl22 : LLx E 22 43 7 (fun p => D p 14) L3 AR3 σ) (hn : σ.2.2.2 n = 3) (hL20 : (L1 p).length < 128) (hL22 : (L3 p).length < 128) : CT l E d 43 [vR (some (D p 0)), vR (some n), vI c] σ 2 453 (fun r σ' => r = none ∧ (if σ.1 30200 n 0 = 0 then (∃ q AR', σ.2.2.2 q = 0 ∧ q ≠ fe E ∧ LLx E 22 43 7 (fun p => D p 14) (upL L3 p (L3 p ++ [q])) AR' σ' ∧ Eqk E 22 43 (wtS σ q n c) σ') else (∃ q AR', σ.2.2.2 q = 0 ∧ q ≠ fe E ∧ LLx E 20 41 5 (fun p => D p 12) (upL L1 p (L1 p ++ [q])) AR' σ' ∧ Eqk E 20 41 (wkS σ q 4 none c) σ'))) (fun _ _ => False) := by
  refine CTo ok_pr_watchNode (by decide +kernel) rfl rfl rfl ?_
  refine w_run 1 (S' := (1, [(0, vR (some (D p 0))), (1, vR (some n)), (2, vI c)], [vR (some n)], σ, 0, 0)) rfl ?_
  refine w_get (k := 3) (vI (σ.1 30200 n 0)) rfl rfl rfl hn rfl rfl ?_
  refine w_if_eq rfl (fun c1 => ?_) (fun c1 => ?_)
  · refine w_run 1 (S' := (29, [(0, vR (some (D p 0))), (1, vR (some n)), (2, vI c)], [vR (some (D p 0))], σ, 0, 0)) rfl ?_
    refine w_get (k := 2) (vR (σ.2.1 20722 (D p 0) 0)) rfl rfl rfl hP.1 rfl rfl ?_
    refine w_new (k := 7) rfl rfl 7 rfl rfl (by simp only [RM]; omega) (by simp only [RM]; show _ + 2 ≤ _; omega) (fun q hq hqe => ?_)
    have hn_D_p_0 : D p 0 ≠ q := ne0 (hP.1) hq (by decide)
    have hk_D_p_0 : (sN σ q 7).2.2.2 (D p 0) = 2 := by simp only [sN]; rw [if_neg hn_D_p_0]; exact hP.1
    have hn_D_p_12 : D p 12 ≠ q := ne0 ((hw 20520 (D p 0) 0 (D p 12) (hP.2 4 (by decide)) (by decide))) hq (by decide)
    have hk_D_p_12 : (sN σ q 7).2.2.2 (D p 12) = 20 := by simp only [sN]; rw [if_neg hn_D_p_12]; exact (hw 20520 (D p 0) 0 (D p 12) (hP.2 4 (by decide)) (by decide))
    have hn_D_p_14 : D p 14 ≠ q := ne0 ((hw 20722 (D p 0) 0 (D p 14) (hP.2 6 (by decide)) (by decide))) hq (by decide)
    have hk_D_p_14 : (sN σ q 7).2.2.2 (D p 14) = 22 := by simp only [sN]; rw [if_neg hn_D_p_14]; exact (hw 20722 (D p 0) 0 (D p 14) (hP.2 6 (by decide)) (by decide))
    have hn_n : n ≠ q := ne0 (hn) hq (by decide)
    have hk_n : (sN σ q 7).2.2.2 n = 3 := by simp only [sN]; rw [if_neg hn_n]; exact hn
    have hkq : (sN σ q 7).2.2.2 q = 7 := by simp [sN]
    show WG _ _ _ _ _ _ _ (35, [(0, vR (some (D p 0))), (1, vR (some n)), (2, vI c)], [vR (some q), vR (σ.2.1 20722 (D p 0) 0)], sN σ q 7, 0 + 1, 0 + 2)
    refine w_run 3 (S' := (38, [(0, vR (some (D p 0))), (1, vR (some n)), (2, vI c)], [vI c, vR (some n), vR (some q), vR (some q), vR (σ.2.1 20722 (D p 0) 0)], sN σ q 7, 0 + 1, 0 + 2)) rfl ?_
    refine w_callI (st := [vR (some q), vR (σ.2.1 20722 (D p 0) 0)]) [vR (some n), vI c] rfl ml_1_174 rfl rfl (by simp only [RM]; omega) (by simp only [RM]; show 8 + (3 + 11) + _ ≤ _; omega) rfl (by simp only [RM]; omega) (by simp only [RM]; omega) (c_wt_init l E (d - 1) (sN σ q 7) q n c (by omega) hkq hk_n) ?_
    intro r9 s9 q9
    rw [q9.1, q9.2]
    clear q9 r9 s9
    show WG _ _ _ _ _ _ _ (41, [(0, vR (some (D p 0))), (1, vR (some n)), (2, vI c)], [vR (some q), vR (σ.2.1 20722 (D p 0) 0)], wtS σ q n c, 0 + 1, 0 + 2)
    refine Eq.mp (congrArg (fun x9 => WG _ _ _ _ _ _ _ (41, [(0, vR (some (D p 0))), (1, vR (some n)), (2, vI c)], [vR (some q), vR x9], wtS σ q n c, 0 + 1, 0 + 2)) (Eq.symm (hP.2 6 (by decide)) : some (D p 14) = σ.2.1 20722 (D p 0) 0)) ?_
    show WG _ _ _ _ _ _ _ (41, [(0, vR (some (D p 0))), (1, vR (some n)), (2, vI c)], [vR (some q), vR (some (D p 14))], wtS σ q n c, 0 + 1, 0 + 2)
    refine w_callV (st := []) [vR (some q)] rfl ml_1_150 rfl rfl hk_D_p_14 rfl rfl rfl (by simp only [RM]; omega) (by simp only [RM]; show 8 + (2 + 11) + _ ≤ _; omega) rfl (by simp only [RM]; omega) (by simp only [RM]; omega) (c_la_add_22 l E (d - 1) (wtS σ q n c) (fun p => D p 14) L3 AR3 (show LLx E 22 43 7 (fun p => D p 14) L3 AR3 (wtS σ q n c) from ((hl22.n (by decide) (by decide) hq hqe).o (by decide) (by decide)).i (by decide) (by decide)) p hp q (d - 8) (by omega) hkq hL22) (fun _ _ h => h.elim) ?_
    intro r9 s9 q9
    obtain ⟨e1, AR9, hl9, he9⟩ := q9
    subst e1
    show WG _ _ _ _ _ _ _ (44, [(0, vR (some (D p 0))), (1, vR (some n)), (2, vI c)], [vI 1], s9, 0 + 1 + 1, 0 + 2 + 450)
    refine w_run 1 (S' := (45, [(0, vR (some (D p 0))), (1, vR (some n)), (2, vI c)], [], s9, 0 + 1 + 1, 0 + 2 + 450)) rfl ?_
    exact w_vret rfl rfl (by omega) (by omega) (⟨rfl, by rw [if_pos c1]; exact ⟨q, AR9, hq, hqe, hl9, he9⟩⟩)
  · refine w_run 1 (S' := (8, [(0, vR (some (D p 0))), (1, vR (some n)), (2, vI c)], [vR (some (D p 0))], σ, 0, 0)) rfl ?_
    refine w_get (k := 2) (vR (σ.2.1 20520 (D p 0) 0)) rfl rfl rfl hP.1 rfl rfl ?_
    refine w_new (k := 5) rfl rfl 5 rfl rfl (by simp only [RM]; omega) (by simp only [RM]; show _ + 3 ≤ _; omega) (fun q hq hqe => ?_)
    have hn_D_p_0 : D p 0 ≠ q := ne0 (hP.1) hq (by decide)
    have hk_D_p_0 : (sN σ q 5).2.2.2 (D p 0) = 2 := by simp only [sN]; rw [if_neg hn_D_p_0]; exact hP.1
    have hn_D_p_12 : D p 12 ≠ q := ne0 ((hw 20520 (D p 0) 0 (D p 12) (hP.2 4 (by decide)) (by decide))) hq (by decide)
    have hk_D_p_12 : (sN σ q 5).2.2.2 (D p 12) = 20 := by simp only [sN]; rw [if_neg hn_D_p_12]; exact (hw 20520 (D p 0) 0 (D p 12) (hP.2 4 (by decide)) (by decide))
    have hn_D_p_14 : D p 14 ≠ q := ne0 ((hw 20722 (D p 0) 0 (D p 14) (hP.2 6 (by decide)) (by decide))) hq (by decide)
    have hk_D_p_14 : (sN σ q 5).2.2.2 (D p 14) = 22 := by simp only [sN]; rw [if_neg hn_D_p_14]; exact (hw 20722 (D p 0) 0 (D p 14) (hP.2 6 (by decide)) (by decide))
    have hn_n : n ≠ q := ne0 (hn) hq (by decide)
    have hk_n : (sN σ q 5).2.2.2 n = 3 := by simp only [sN]; rw [if_neg hn_n]; exact hn
    have hkq : (sN σ q 5).2.2.2 q = 5 := by simp [sN]
    show WG _ _ _ _ _ _ _ (14, [(0, vR (some (D p 0))), (1, vR (some n)), (2, vI c)], [vR (some q), vR (σ.2.1 20520 (D p 0) 0)], sN σ q 5, 0 + 1, 0 + 3)
    refine w_run 4 (S' := (18, [(0, vR (some (D p 0))), (1, vR (some n)), (2, vI c)], [vI c, vR none, vI 4, vR (some q), vR (some q), vR (σ.2.1 20520 (D p 0) 0)], sN σ q 5, 0 + 1, 0 + 3)) rfl ?_
    refine w_callI (st := [vR (some q), vR (σ.2.1 20520 (D p 0) 0)]) [vI 4, vR none, vI c] rfl ml_1_147 rfl rfl (by simp only [RM]; omega) (by simp only [RM]; show 8 + (4 + 11) + _ ≤ _; omega) rfl (by simp only [RM]; omega) (by simp only [RM]; omega) (c_wk_init l E (d - 1) (sN σ q 5) q 4 c none (by omega) hkq (fun b9 h9 => by cases h9)) ?_
    intro r9 s9 q9
    rw [q9.1, q9.2]
    clear q9 r9 s9
    show WG _ _ _ _ _ _ _ (21, [(0, vR (some (D p 0))), (1, vR (some n)), (2, vI c)], [vR (some q), vR (σ.2.1 20520 (D p 0) 0)], wkS (σ) q 4 none c, 0 + 1, 0 + 3)
    refine Eq.mp (congrArg (fun x9 => WG _ _ _ _ _ _ _ (21, [(0, vR (some (D p 0))), (1, vR (some n)), (2, vI c)], [vR (some q), vR x9], wkS (σ) q 4 none c, 0 + 1, 0 + 3)) (Eq.symm (hP.2 4 (by decide)) : some (D p 12) = σ.2.1 20520 (D p 0) 0)) ?_
    show WG _ _ _ _ _ _ _ (21, [(0, vR (some (D p 0))), (1, vR (some n)), (2, vI c)], [vR (some q), vR (some (D p 12))], wkS (σ) q 4 none c, 0 + 1, 0 + 3)
    refine w_callV (st := []) [vR (some q)] rfl ml_1_150 rfl rfl hk_D_p_12 rfl rfl rfl (by simp only [RM]; omega) (by simp only [RM]; show 8 + (2 + 11) + _ ≤ _; omega) rfl (by simp only [RM]; omega) (by simp only [RM]; omega) (c_la_add_20 l E (d - 1) (wkS (σ) q 4 none c) (fun p => D p 12) L1 AR1 (show LLx E 20 41 5 (fun p => D p 12) L1 AR1 (wkS (σ) q 4 none c) from ((((hl20).n (by decide) (by decide) hq hqe).i (by decide) (by decide)).o (by decide) (by decide)).i (by decide) (by decide)) p hp q (d - 8) (by omega) hkq hL20) (fun _ _ h => h.elim) ?_
    intro r9 s9 q9
    obtain ⟨e1, AR9, hl9, he9⟩ := q9
    subst e1
    show WG _ _ _ _ _ _ _ (24, [(0, vR (some (D p 0))), (1, vR (some n)), (2, vI c)], [vI 1], s9, 0 + 1 + 1, 0 + 3 + 450)
    refine w_run 2 (S' := (45, [(0, vR (some (D p 0))), (1, vR (some n)), (2, vI c)], [], s9, 0 + 1 + 1, 0 + 3 + 450)) rfl ?_
    exact w_vret rfl rfl (by omega) (by omega) (⟨rfl, by rw [if_neg c1]; exact ⟨q, AR9, hq, hqe, hl9, he9⟩⟩)

def accP (E : FE) (D : Nat → Nat → Nat) (p w : Nat) (L2 : Nat → List Nat) (σ σ' : Sg) : Prop := match σ.2.1 50106 w 0 with
  | none => σ' = if σ.1 50000 w 0 = 3 then sI (sO σ 21105 (D p 0) 0 (some w)) 21000 (D p 0) 0 0 else if σ.1 50000 w 0 = 5 then sI (sO σ 21105 (D p 0) 0 (some w)) 21000 (D p 0) 0 0 else sO σ 21105 (D p 0) 0 (some w)
  | some m => if σ.1 50000 w 0 = 1 then ∃ AR', LLx E 21 42 6 (fun p => D p 13) (upL L2 p (L2 p ++ [m])) AR' σ' ∧ Eqk E 21 42 (sI (sO σ 21105 (D p 0) 0 (some w)) 61000 m 0 1) σ' else σ' = if σ.1 50000 w 0 = 3 then sI (sI (sO σ 21105 (D p 0) 0 (some w)) 61000 m 0 1) 21000 (D p 0) 0 0 else if σ.1 50000 w 0 = 5 then sI (sI (sO σ 21105 (D p 0) 0 (some w)) 61000 m 0 1) 21000 (D p 0) 0 0 else sI (sO σ 21105 (D p 0) 0 (some w)) 61000 m 0 1
set_option maxHeartbeats 4000000 in
theorem c_pr_accept (l : Launch) (E : FE) (d : Nat) (σ : Sg) (D : Nat → Nat → Nat) (p w : Nat) (L2 : Nat → List Nat) (AR2 : Nat → Nat) (hd : 8 ≤ d) (hp : p < 4) (hP : SHp σ (D p)) (hw : WF σ) (hl21 : LLx E 21 42 6 (fun p => D p 13) L2 AR2 σ) (hwk : σ.2.2.2 w = 5) (hL21 : (L2 p).length < 128) : CT l E d 41 [vR (some (D p 0)), vR (some w)] σ 1 450 (fun r σ' => r = none ∧ accP E D p w L2 σ σ') (fun _ _ => False) := by
  refine CTo ok_pr_accept (by decide +kernel) rfl rfl rfl ?_
  refine w_run 2 (S' := (2, [(0, vR (some (D p 0))), (1, vR (some w))], [vR (some w), vR (some (D p 0))], σ, 0, 0)) rfl ?_
  refine w_putr (k := 2) rfl rfl rfl hP.1 rfl rfl (fun b9 h9 _ => by have e9 := (rfl : some w = some w).symm.trans h9; cases e9; exact hwk) rfl (Or.inl rfl) ?_
  show WG _ _ _ _ _ _ _ (5, [(0, vR (some (D p 0))), (1, vR (some w))], [], sO σ 21105 (D p 0) 0 (some w), 0, 0)
  refine w_run 1 (S' := (6, [(0, vR (some (D p 0))), (1, vR (some w))], [vR (some w)], sO σ 21105 (D p 0) 0 (some w), 0, 0)) rfl ?_
  refine w_get (k := 5) (vR (σ.2.1 50106 w 0)) rfl rfl rfl hwk rfl rfl ?_
  refine w_null rfl (fun c1 => ?_) (fun b2 c1 => ?_)
  · refine w_run 1 (S' := (41, [(0, vR (some (D p 0))), (1, vR (some w))], [vR (some w)], sO σ 21105 (D p 0) 0 (some w), 0, 0)) rfl ?_
    refine w_get (k := 5) (vI (σ.1 50000 w 0)) rfl rfl rfl hwk rfl rfl ?_
    refine w_run 1 (S' := (45, [(0, vR (some (D p 0))), (1, vR (some w))], [vI 3, vI (σ.1 50000 w 0)], sO σ 21105 (D p 0) 0 (some w), 0, 0)) rfl ?_
    refine w_ic_eq rfl (fun c3 => ?_) (fun c3 => ?_)
    · refine w_run 2 (S' := (58, [(0, vR (some (D p 0))), (1, vR (some w))], [vI 0, vR (some (D p 0))], sO σ 21105 (D p 0) 0 (some w), 0, 0)) rfl ?_
      refine w_puti (k := 2) rfl rfl rfl hP.1 rfl rfl (Or.inr ⟨rfl, Or.inl rfl⟩) (Or.inl rfl) ?_
      show WG _ _ _ _ _ _ _ (61, [(0, vR (some (D p 0))), (1, vR (some w))], [], sI (sO σ 21105 (D p 0) 0 (some w)) 21000 (D p 0) 0 0, 0, 0)
      exact w_vret rfl rfl (by omega) (by omega) (⟨rfl, by simp [accP, c1, c3]⟩)
    · refine w_run 1 (S' := (49, [(0, vR (some (D p 0))), (1, vR (some w))], [vR (some w)], sO σ 21105 (D p 0) 0 (some w), 0, 0)) rfl ?_
      refine w_get (k := 5) (vI (σ.1 50000 w 0)) rfl rfl rfl hwk rfl rfl ?_
      refine w_run 1 (S' := (53, [(0, vR (some (D p 0))), (1, vR (some w))], [vI 5, vI (σ.1 50000 w 0)], sO σ 21105 (D p 0) 0 (some w), 0, 0)) rfl ?_
      refine w_ic_ne rfl (fun c4 => ?_) (fun c4 => ?_)
      · exact w_vret rfl rfl (by omega) (by omega) (⟨rfl, by simp [accP, c1, c3, c4]⟩)
      · refine w_run 2 (S' := (58, [(0, vR (some (D p 0))), (1, vR (some w))], [vI 0, vR (some (D p 0))], sO σ 21105 (D p 0) 0 (some w), 0, 0)) rfl ?_
        refine w_puti (k := 2) rfl rfl rfl hP.1 rfl rfl (Or.inr ⟨rfl, Or.inl rfl⟩) (Or.inl rfl) ?_
        show WG _ _ _ _ _ _ _ (61, [(0, vR (some (D p 0))), (1, vR (some w))], [], sI (sO σ 21105 (D p 0) 0 (some w)) 21000 (D p 0) 0 0, 0, 0)
        exact w_vret rfl rfl (by omega) (by omega) (⟨rfl, by simp [accP, c1, c3, c4]⟩)
  · refine w_run 1 (S' := (13, [(0, vR (some (D p 0))), (1, vR (some w))], [vR (some w)], sO σ 21105 (D p 0) 0 (some w), 0, 0)) rfl ?_
    refine w_get (k := 5) (vR (σ.2.1 50106 w 0)) rfl rfl rfl hwk rfl rfl ?_
    refine w_run 1 (S' := (17, [(0, vR (some (D p 0))), (1, vR (some w))], [vI 1, vR (σ.2.1 50106 w 0)], sO σ 21105 (D p 0) 0 (some w), 0, 0)) rfl ?_
    refine w_puti (k := 6) rfl rfl c1 (hw 50106 w 0 b2 c1 (by decide)) rfl rfl (Or.inr ⟨rfl, Or.inr rfl⟩) (Or.inl rfl) ?_
    show WG _ _ _ _ _ _ _ (20, [(0, vR (some (D p 0))), (1, vR (some w))], [], sI (sO σ 21105 (D p 0) 0 (some w)) 61000 b2 0 1, 0, 0)
    refine w_run 1 (S' := (21, [(0, vR (some (D p 0))), (1, vR (some w))], [vR (some w)], sI (sO σ 21105 (D p 0) 0 (some w)) 61000 b2 0 1, 0, 0)) rfl ?_
    refine w_get (k := 5) (vI (σ.1 50000 w 0)) rfl rfl rfl hwk rfl rfl ?_
    refine w_run 1 (S' := (25, [(0, vR (some (D p 0))), (1, vR (some w))], [vI 1, vI (σ.1 50000 w 0)], sI (sO σ 21105 (D p 0) 0 (some w)) 61000 b2 0 1, 0, 0)) rfl ?_
    refine w_ic_ne rfl (fun c5 => ?_) (fun c5 => ?_)
    · refine w_run 1 (S' := (41, [(0, vR (some (D p 0))), (1, vR (some w))], [vR (some w)], sI (sO σ 21105 (D p 0) 0 (some w)) 61000 b2 0 1, 0, 0)) rfl ?_
      refine w_get (k := 5) (vI (σ.1 50000 w 0)) rfl rfl rfl hwk rfl rfl ?_
      refine w_run 1 (S' := (45, [(0, vR (some (D p 0))), (1, vR (some w))], [vI 3, vI (σ.1 50000 w 0)], sI (sO σ 21105 (D p 0) 0 (some w)) 61000 b2 0 1, 0, 0)) rfl ?_
      refine w_ic_eq rfl (fun c6 => ?_) (fun c6 => ?_)
      · refine w_run 2 (S' := (58, [(0, vR (some (D p 0))), (1, vR (some w))], [vI 0, vR (some (D p 0))], sI (sO σ 21105 (D p 0) 0 (some w)) 61000 b2 0 1, 0, 0)) rfl ?_
        refine w_puti (k := 2) rfl rfl rfl hP.1 rfl rfl (Or.inr ⟨rfl, Or.inl rfl⟩) (Or.inl rfl) ?_
        show WG _ _ _ _ _ _ _ (61, [(0, vR (some (D p 0))), (1, vR (some w))], [], sI (sI (sO σ 21105 (D p 0) 0 (some w)) 61000 b2 0 1) 21000 (D p 0) 0 0, 0, 0)
        exact w_vret rfl rfl (by omega) (by omega) (⟨rfl, by simp [accP, c1, c5, c6]⟩)
      · refine w_run 1 (S' := (49, [(0, vR (some (D p 0))), (1, vR (some w))], [vR (some w)], sI (sO σ 21105 (D p 0) 0 (some w)) 61000 b2 0 1, 0, 0)) rfl ?_
        refine w_get (k := 5) (vI (σ.1 50000 w 0)) rfl rfl rfl hwk rfl rfl ?_
        refine w_run 1 (S' := (53, [(0, vR (some (D p 0))), (1, vR (some w))], [vI 5, vI (σ.1 50000 w 0)], sI (sO σ 21105 (D p 0) 0 (some w)) 61000 b2 0 1, 0, 0)) rfl ?_
        refine w_ic_ne rfl (fun c7 => ?_) (fun c7 => ?_)
        · exact w_vret rfl rfl (by omega) (by omega) (⟨rfl, by simp [accP, c1, c5, c6, c7]⟩)
        · refine w_run 2 (S' := (58, [(0, vR (some (D p 0))), (1, vR (some w))], [vI 0, vR (some (D p 0))], sI (sO σ 21105 (D p 0) 0 (some w)) 61000 b2 0 1, 0, 0)) rfl ?_
          refine w_puti (k := 2) rfl rfl rfl hP.1 rfl rfl (Or.inr ⟨rfl, Or.inl rfl⟩) (Or.inl rfl) ?_
          show WG _ _ _ _ _ _ _ (61, [(0, vR (some (D p 0))), (1, vR (some w))], [], sI (sI (sO σ 21105 (D p 0) 0 (some w)) 61000 b2 0 1) 21000 (D p 0) 0 0, 0, 0)
          exact w_vret rfl rfl (by omega) (by omega) (⟨rfl, by simp [accP, c1, c5, c6, c7]⟩)
    · refine w_run 1 (S' := (29, [(0, vR (some (D p 0))), (1, vR (some w))], [vR (some (D p 0))], sI (sO σ 21105 (D p 0) 0 (some w)) 61000 b2 0 1, 0, 0)) rfl ?_
      refine w_get (k := 2) (vR (σ.2.1 20621 (D p 0) 0)) rfl rfl rfl hP.1 rfl rfl ?_
      refine w_run 1 (S' := (33, [(0, vR (some (D p 0))), (1, vR (some w))], [vR (some w), vR (σ.2.1 20621 (D p 0) 0)], sI (sO σ 21105 (D p 0) 0 (some w)) 61000 b2 0 1, 0, 0)) rfl ?_
      refine w_get (k := 5) (vR (σ.2.1 50106 w 0)) rfl rfl rfl hwk rfl rfl ?_
      refine Eq.mp (congrArg (fun x9 => WG _ _ _ _ _ _ _ (36, [(0, vR (some (D p 0))), (1, vR (some w))], [vR x9, vR (σ.2.1 20621 (D p 0) 0)], sI (sO σ 21105 (D p 0) 0 (some w)) 61000 b2 0 1, 0, 0)) (Eq.symm c1 : some b2 = σ.2.1 50106 w 0)) ?_
      show WG _ _ _ _ _ _ _ (36, [(0, vR (some (D p 0))), (1, vR (some w))], [vR (some b2), vR (σ.2.1 20621 (D p 0) 0)], sI (sO σ 21105 (D p 0) 0 (some w)) 61000 b2 0 1, 0, 0)
      refine Eq.mp (congrArg (fun x9 => WG _ _ _ _ _ _ _ (36, [(0, vR (some (D p 0))), (1, vR (some w))], [vR (some b2), vR x9], sI (sO σ 21105 (D p 0) 0 (some w)) 61000 b2 0 1, 0, 0)) (Eq.symm (hP.2 5 (by decide)) : some (D p 13) = σ.2.1 20621 (D p 0) 0)) ?_
      show WG _ _ _ _ _ _ _ (36, [(0, vR (some (D p 0))), (1, vR (some w))], [vR (some b2), vR (some (D p 13))], sI (sO σ 21105 (D p 0) 0 (some w)) 61000 b2 0 1, 0, 0)
      refine w_callV (st := []) [vR (some b2)] rfl ml_1_150 rfl rfl (hw 20621 (D p 0) 0 (D p 13) (hP.2 5 (by decide)) (by decide)) rfl rfl rfl (by simp only [RM]; omega) (by simp only [RM]; show 8 + (2 + 11) + _ ≤ _; omega) rfl (by simp only [RM]; omega) (by simp only [RM]; omega) (c_la_add_21 l E (d - 1) (sI (sO σ 21105 (D p 0) 0 (some w)) 61000 b2 0 1) (fun p => D p 13) L2 AR2 (show LLx E 21 42 6 (fun p => D p 13) L2 AR2 (sI (sO σ 21105 (D p 0) 0 (some w)) 61000 b2 0 1) from (hl21.o (by decide) (by decide)).i (by decide) (by decide)) p hp b2 (d - 8) (by omega) (hw 50106 w 0 b2 c1 (by decide)) hL21) (fun _ _ h => h.elim) ?_
      intro r9 s9 q9
      obtain ⟨e1, AR9, hl9, he9⟩ := q9
      subst e1
      have hk9w : s9.2.2.2 w = 5 := (he9.1 w (show σ.2.2.2 w ≠ 0 by rw [hwk]; decide)).trans hwk
      have hk9 : s9.1 50000 w 0 = 1 := ((he9.2.2.1 50000 w 0 (show σ.2.2.2 w ≠ 0 by rw [hwk]; decide) (by decide) (by decide)).1).trans c5
      show WG _ _ _ _ _ _ _ (39, [(0, vR (some (D p 0))), (1, vR (some w))], [vI 1], s9, 0 + 1, 0 + 450)
      refine w_run 2 (S' := (41, [(0, vR (some (D p 0))), (1, vR (some w))], [vR (some w)], s9, 0 + 1, 0 + 450)) rfl ?_
      refine w_get (k := 5) (vI (s9.1 50000 w 0)) rfl rfl rfl hk9w rfl rfl ?_
      refine w_run 1 (S' := (45, [(0, vR (some (D p 0))), (1, vR (some w))], [vI 3, vI (s9.1 50000 w 0)], s9, 0 + 1, 0 + 450)) rfl ?_
      refine w_ic_eq rfl (fun c8 => (absurd (hk9.symm.trans c8) (by decide))) (fun c8 => ?_)
      refine w_run 1 (S' := (49, [(0, vR (some (D p 0))), (1, vR (some w))], [vR (some w)], s9, 0 + 1, 0 + 450)) rfl ?_
      refine w_get (k := 5) (vI (s9.1 50000 w 0)) rfl rfl rfl hk9w rfl rfl ?_
      refine w_run 1 (S' := (53, [(0, vR (some (D p 0))), (1, vR (some w))], [vI 5, vI (s9.1 50000 w 0)], s9, 0 + 1, 0 + 450)) rfl ?_
      refine w_ic_ne rfl (fun c9 => ?_) (fun c9 => (absurd (hk9.symm.trans c9) (by decide)))
      exact w_vret rfl rfl (by omega) (by omega) (⟨rfl, by simp only [accP, c1, if_pos c5]; exact ⟨AR9, hl9, he9⟩⟩)

