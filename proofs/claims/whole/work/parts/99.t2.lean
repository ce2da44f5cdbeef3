/-! reply -/
theorem er_last {L : List Nat} {m : Nat} : (L ++ [m]).eraseIdx ((L ++ [m]).length - 1) = L := by
  simp [List.eraseIdx_append_of_length_le]
set_option maxRecDepth 20000 in
set_option maxHeartbeats 4000000 in
theorem c_od_reply (l : Launch) (E : FE) (d : Nat) (σ : Sg) (D : Nat → Nat → Nat) (x a0 : Nat) (p : Int32) (N : Nat → Nat) (L1 L2 L3 : Nat → List Nat) (AR1 AR2 AR3 : Nat → Nat) (hd : 10 ≤ d) (hl0 : l.stackTraces = false) (hx : σ.2.2.2 x = 1) (h0 : σ.2.1 10010 x 0 = some a0) (h3 : ∀ j, j < 4 → σ.2.1 100002 a0 j = some (D j 0)) (hP : ∀ j, j < 4 → SHp σ (D j)) (hw : WF σ) (kA : Ka E D L1 L2 L3 AR1 AR2 AR3 σ) (hits : ∀ j, j < 4 → σ.1 40300 (D j 8) 0 = nI (N j) ∧ N j ≤ 4) (hsnd : ∀ j L m0, j < 4 → L2 j = L ++ [m0] → ∃ q, q < 4 ∧ σ.1 60100 m0 0 = nI q ∧ (¬ frmF σ m0 (D q 0) = 0 → ¬ bgR σ (D q 7) (celF σ (D j 8)) = -1 → ∃ g, g < 64 ∧ bgR σ (D q 7) (celF σ (D j 8)) = nI g)) (hb20 : ∀ q, q < 4 → (L1 q).length < 128) (hb21 : ∀ j, j < 4 → (L2 j).length < 128) : CT l E d 56 [vR (some x), vI p] σ 8 489 (fun r σ' => ∃ j, j < 4 ∧ p = nI j ∧ ¬ σ.1 20800 (D j 0) 0 = 0 ∧ (∃ v, r = some (vI v) ∧ orpP E D x j (N j) L1 L2 σ v σ')) (oX σ D p) := by
  refine CTo ok_od_reply (by decide +kernel) rfl rfl rfl ?_
  refine w_run 2 (S' := (2, [(0, vR (some x)), (1, vI p)], [vI p, vR (some x)], σ, 0, 0)) rfl ?_
  refine w_callV (st := []) [vI p] rfl ml_0_37 rfl rfl hx rfl rfl rfl (by simp only [RM]; omega) (by simp only [RM]; show 8 + (3 + 11) + _ ≤ _; omega) rfl (by simp only [RM]; omega) (by simp only [RM]; omega) (c_od_living l E (d - 1) σ D x a0 p (by omega) hl0 hx h0 h3 hP hw) (fun X9 s9 h9 => x_out rfl (by omega) (by omega) h9) ?_
  intro r9 s9 q9
  obtain ⟨j, hj, rfl, hal, e1, e2⟩ := q9
  rw [e1, e2]
  clear e1 e2 r9 s9
  show WG _ _ _ _ _ _ _ (5, [(0, vR (some x)), (1, vI (nI j))], [vR (some (D j 0))], σ, 0 + 2, 0 + 12)
  refine w_run 2 (S' := (7, [(2, vR (some (D j 0))), (0, vR (some x)), (1, vI (nI j))], [vR (some (D j 0))], σ, 0 + 2, 0 + 12)) rfl ?_
  refine w_get (k := 2) (vR (σ.2.1 20621 (D j 0) 0)) rfl rfl rfl ((hP j hj).1) rfl rfl ?_
  refine Eq.mp (congrArg (fun x9 => WG _ _ _ _ _ _ _ (10, [(2, vR (some (D j 0))), (0, vR (some x)), (1, vI (nI j))], [vR x9], σ, 0 + 2, 0 + 12)) (Eq.symm ((hP j hj).2 5 (by decide)) : some (D j 13) = σ.2.1 20621 (D j 0) 0)) ?_
  show WG _ _ _ _ _ _ _ (10, [(2, vR (some (D j 0))), (0, vR (some x)), (1, vI (nI j))], [vR (some (D j 13))], σ, 0 + 2, 0 + 12)
  refine w_callV (st := []) [] rfl ml_0_115 rfl rfl (hw 20621 (D j 0) 0 (D j 13) ((hP j hj).2 5 (by decide)) (by decide)) rfl rfl rfl (by simp only [RM]; omega) (by simp only [RM]; show 8 + (1 + 11) + _ ≤ _; omega) rfl (by simp only [RM]; omega) (by simp only [RM]; omega) (c_la_isEmpty_21 l E (d - 1) σ (fun p => D p 13) L2 AR2 kA.2.2.2.1 j hj) (fun _ _ h => h.elim) ?_
  intro r9 s9 q9
  rw [q9.1, q9.2]
  clear q9 r9 s9
  show WG _ _ _ _ _ _ _ (13, [(2, vR (some (D j 0))), (0, vR (some x)), (1, vI (nI j))], [vI (if (L2 j).length = 0 then 1 else 0)], σ, 0 + 2, 0 + 12)
  refine w_if_eq rfl (fun c1 => ?_) (fun c1 => ?_)
  · have hne : ¬ (L2 j).length = 0 := fun h9 => by rw [if_pos h9] at c1; exact absurd c1 (by decide)
    obtain ⟨L, m0, hL⟩ : ∃ L m0, L2 j = L ++ [m0] := by rcases List.eq_nil_or_concat (L2 j) with h9 | ⟨L, m0, h9⟩; exact absurd (by rw [h9]; rfl) hne; exact ⟨L, m0, by rw [h9, List.concat_eq_append]⟩
    obtain ⟨q, hq, hsq, hgap⟩ := hsnd j L m0 hj hL
    have hget : (L2 j)[(L2 j).length - 1]? = some m0 := by rw [hL]; simp
    have hb21j := hb21 j hj
    have hkm0 : σ.2.2.2 m0 = 6 := kA.2.2.2.1.kd kA.1 (by decide) (by decide) hj hget
    refine w_run 1 (S' := (19, [(2, vR (some (D j 0))), (0, vR (some x)), (1, vI (nI j))], [vR (some (D j 0))], σ, 0 + 2, 0 + 12)) rfl ?_
    refine w_get (k := 2) (vR (σ.2.1 20621 (D j 0) 0)) rfl rfl rfl ((hP j hj).1) rfl rfl ?_
    refine Eq.mp (congrArg (fun x9 => WG _ _ _ _ _ _ _ (22, [(2, vR (some (D j 0))), (0, vR (some x)), (1, vI (nI j))], [vR x9], σ, 0 + 2, 0 + 12)) (Eq.symm ((hP j hj).2 5 (by decide)) : some (D j 13) = σ.2.1 20621 (D j 0) 0)) ?_
    show WG _ _ _ _ _ _ _ (22, [(2, vR (some (D j 0))), (0, vR (some x)), (1, vI (nI j))], [vR (some (D j 13))], σ, 0 + 2, 0 + 12)
    refine w_callV (st := []) [] rfl ml_0_129 rfl rfl (hw 20621 (D j 0) 0 (D j 13) ((hP j hj).2 5 (by decide)) (by decide)) rfl rfl rfl (by simp only [RM]; omega) (by simp only [RM]; show 8 + (1 + 11) + _ ≤ _; omega) rfl (by simp only [RM]; omega) (by simp only [RM]; omega) (c_la_size_21 l E (d - 1) σ (fun p => D p 13) L2 AR2 kA.2.2.2.1 j hj) (fun _ _ h => h.elim) ?_
    intro r9 s9 q9
    rw [q9.1, q9.2]
    clear q9 r9 s9
    show WG _ _ _ _ _ _ _ (25, [(2, vR (some (D j 0))), (0, vR (some x)), (1, vI (nI j))], [vI (nI (L2 j).length)], σ, 0 + 2, 0 + 12)
    refine w_run 4 (S' := (29, [(3, vI ((nI (L2 j).length) - 1)), (2, vR (some (D j 0))), (0, vR (some x)), (1, vI (nI j))], [vR (some (D j 0))], σ, 0 + 2, 0 + 12)) rfl ?_
    rw [show ((nI (L2 j).length) - 1 : Int32) = nI ((L2 j).length - 1) from by rw [show (nI (L2 j).length : Int32) = nI ((L2 j).length) from by simp only [nl0, nl1, nl2, nl3, nl4, nl5, nl6, nl8, nl9, nl10, nl12, nl15, nl16, nl20, nl24, nl32, nl40, nl64, nl65, nl384, pk_mul, nI_add]]; exact nI_sub9 (a := (L2 j).length) (b := 1) (by omega)]
    show WG _ _ _ _ _ _ _ (29, [(3, vI (nI ((L2 j).length - 1))), (2, vR (some (D j 0))), (0, vR (some x)), (1, vI (nI j))], [vR (some (D j 0))], σ, 0 + 2, 0 + 12)
    refine w_get (k := 2) (vR (σ.2.1 20621 (D j 0) 0)) rfl rfl rfl ((hP j hj).1) rfl rfl ?_
    refine w_run 1 (S' := (33, [(3, vI (nI ((L2 j).length - 1))), (2, vR (some (D j 0))), (0, vR (some x)), (1, vI (nI j))], [vI (nI ((L2 j).length - 1)), vR (σ.2.1 20621 (D j 0) 0)], σ, 0 + 2, 0 + 12)) rfl ?_
    refine Eq.mp (congrArg (fun x9 => WG _ _ _ _ _ _ _ (33, [(3, vI (nI ((L2 j).length - 1))), (2, vR (some (D j 0))), (0, vR (some x)), (1, vI (nI j))], [vI (nI ((L2 j).length - 1)), vR x9], σ, 0 + 2, 0 + 12)) (Eq.symm ((hP j hj).2 5 (by decide)) : some (D j 13) = σ.2.1 20621 (D j 0) 0)) ?_
    show WG _ _ _ _ _ _ _ (33, [(3, vI (nI ((L2 j).length - 1))), (2, vR (some (D j 0))), (0, vR (some x)), (1, vI (nI j))], [vI (nI ((L2 j).length - 1)), vR (some (D j 13))], σ, 0 + 2, 0 + 12)
    refine w_callV (st := []) [vI (nI ((L2 j).length - 1))] rfl ml_0_119 rfl rfl (hw 20621 (D j 0) 0 (D j 13) ((hP j hj).2 5 (by decide)) (by decide)) rfl rfl rfl (by simp only [RM]; omega) (by simp only [RM]; show 8 + (2 + 11) + _ ≤ _; omega) rfl (by simp only [RM]; omega) (by simp only [RM]; omega) (c_la_get_21 l E (d - 1) σ (fun p => D p 13) L2 AR2 kA.2.2.2.1 j hj ((L2 j).length - 1) m0 0 (by omega) hget) (fun _ _ h => h.elim) ?_
    intro r9 s9 q9
    rw [q9.1, q9.2]
    clear q9 r9 s9
    show WG _ _ _ _ _ _ _ (36, [(3, vI (nI ((L2 j).length - 1))), (2, vR (some (D j 0))), (0, vR (some x)), (1, vI (nI j))], [vR (some m0)], σ, 0 + 2, 0 + 12)
    refine w_cast (k := 6) rfl rfl (fun b9 h9 => by have e9 := (rfl : some m0 = some m0).symm.trans h9; cases e9; exact hkm0) rfl ?_
    refine w_run 2 (S' := (42, [(4, vR (some m0)), (3, vI (nI ((L2 j).length - 1))), (2, vR (some (D j 0))), (0, vR (some x)), (1, vI (nI j))], [vR (some x)], σ, 0 + 2, 0 + 12)) rfl ?_
    refine w_get (k := 1) (vR (σ.2.1 10010 x 0)) rfl rfl rfl hx rfl rfl ?_
    refine w_run 1 (S' := (47, [(4, vR (some m0)), (3, vI (nI ((L2 j).length - 1))), (2, vR (some (D j 0))), (0, vR (some x)), (1, vI (nI j))], [vR (some m0), vR (σ.2.1 10010 x 0)], σ, 0 + 2, 0 + 12)) rfl ?_
    refine w_get (k := 6) (vI (σ.1 60100 m0 0)) rfl rfl rfl hkm0 rfl rfl ?_
    refine Eq.mp (congrArg (fun x9 => WG _ _ _ _ _ _ _ (50, [(4, vR (some m0)), (3, vI (nI ((L2 j).length - 1))), (2, vR (some (D j 0))), (0, vR (some x)), (1, vI (nI j))], [vI x9, vR (σ.2.1 10010 x 0)], σ, 0 + 2, 0 + 12)) (hsq.symm : nI q = σ.1 60100 m0 0)) ?_
    show WG _ _ _ _ _ _ _ (50, [(4, vR (some m0)), (3, vI (nI ((L2 j).length - 1))), (2, vR (some (D j 0))), (0, vR (some x)), (1, vI (nI j))], [vI (nI q), vR (σ.2.1 10010 x 0)], σ, 0 + 2, 0 + 12)
    refine w_aald (k := 10) rfl h0 (hw 10010 x 0 a0 h0 (by decide)) rfl rfl (show vp_in (nI q) 4 from (vp_in_nI hq (by decide))) ?_
    show WG _ _ _ _ _ _ _ (51, [(4, vR (some m0)), (3, vI (nI ((L2 j).length - 1))), (2, vR (some (D j 0))), (0, vR (some x)), (1, vI (nI j))], [vR (σ.2.1 100002 a0 (nI q).toNatClampNeg)], σ, 0 + 2, 0 + 12)
    rw [show (nI q : Int32).toNatClampNeg = q from nI_clamp (n := q) (by omega)]
    show WG _ _ _ _ _ _ _ (51, [(4, vR (some m0)), (3, vI (nI ((L2 j).length - 1))), (2, vR (some (D j 0))), (0, vR (some x)), (1, vI (nI j))], [vR (σ.2.1 100002 a0 q)], σ, 0 + 2, 0 + 12)
    refine w_run 3 (S' := (57, [(5, vR (σ.2.1 100002 a0 q)), (4, vR (some m0)), (3, vI (nI ((L2 j).length - 1))), (2, vR (some (D j 0))), (0, vR (some x)), (1, vI (nI j))], [vR (σ.2.1 100002 a0 q), vR (some m0)], σ, 0 + 2, 0 + 12)) rfl ?_
    refine Eq.mp (congrArg (fun x9 => WG _ _ _ _ _ _ _ (57, [(5, vR (σ.2.1 100002 a0 q)), (4, vR (some m0)), (3, vI (nI ((L2 j).length - 1))), (2, vR (some (D j 0))), (0, vR (some x)), (1, vI (nI j))], [vR x9, vR (some m0)], σ, 0 + 2, 0 + 12)) (Eq.symm (h3 q hq) : some (D q 0) = σ.2.1 100002 a0 q)) ?_
    show WG _ _ _ _ _ _ _ (57, [(5, vR (σ.2.1 100002 a0 q)), (4, vR (some m0)), (3, vI (nI ((L2 j).length - 1))), (2, vR (some (D j 0))), (0, vR (some x)), (1, vI (nI j))], [vR (some (D q 0)), vR (some m0)], σ, 0 + 2, 0 + 12)
    refine w_callV (st := []) [vR (some (D q 0))] rfl ml_0_167 rfl rfl hkm0 rfl rfl rfl (by simp only [RM]; omega) (by simp only [RM]; show 8 + (2 + 11) + _ ≤ _; omega) rfl (by simp only [RM]; omega) (by simp only [RM]; omega) (c_ms_isFrom l E (d - 1) σ m0 (D q 0) hkm0 (hP q hq).1) (fun _ _ h => h.elim) ?_
    intro r9 s9 q9
    rw [q9.1, q9.2]
    clear q9 r9 s9
    show WG _ _ _ _ _ _ _ (60, [(5, vR (σ.2.1 100002 a0 q)), (4, vR (some m0)), (3, vI (nI ((L2 j).length - 1))), (2, vR (some (D j 0))), (0, vR (some x)), (1, vI (nI j))], [vI (frmF σ m0 (D q 0))], σ, 0 + 2, 0 + 12)
    refine w_if_ne rfl (fun c2 => ?_) (fun c2 => ?_)
    · refine w_run 5 (S' := (81, [(5, vR (σ.2.1 100002 a0 q)), (4, vR (some m0)), (3, vI (nI ((L2 j).length - 1))), (2, vR (some (D j 0))), (0, vR (some x)), (1, vI (nI j))], [vI 3, vR none, vR (σ.2.1 100002 a0 q), vR (some (D j 0)), vR (some x)], σ, 0 + 2, 0 + 12)) rfl ?_
      refine Eq.mp (congrArg (fun x9 => WG _ _ _ _ _ _ _ (81, [(5, vR (σ.2.1 100002 a0 q)), (4, vR (some m0)), (3, vI (nI ((L2 j).length - 1))), (2, vR (some (D j 0))), (0, vR (some x)), (1, vI (nI j))], [vI 3, vR none, vR x9, vR (some (D j 0)), vR (some x)], σ, 0 + 2, 0 + 12)) (Eq.symm (h3 q hq) : some (D q 0) = σ.2.1 100002 a0 q)) ?_
      show WG _ _ _ _ _ _ _ (81, [(5, vR (σ.2.1 100002 a0 q)), (4, vR (some m0)), (3, vI (nI ((L2 j).length - 1))), (2, vR (some (D j 0))), (0, vR (some x)), (1, vI (nI j))], [vI 3, vR none, vR (some (D q 0)), vR (some (D j 0)), vR (some x)], σ, 0 + 2, 0 + 12)
      refine w_callV (st := []) [vR (some (D j 0)), vR (some (D q 0)), vR none, vI 3] rfl ml_0_111 rfl rfl hx rfl rfl rfl (by simp only [RM]; omega) (by simp only [RM]; show 8 + (8 + 11) + _ ≤ _; omega) rfl (by simp only [RM]; omega) (by simp only [RM]; omega) (c_od_post l E (d - 1) σ D x j q (N j) none 3 L1 L2 L3 AR1 AR2 AR3 (by omega) hx hj hq kA (hits j hj).2 (hits j hj).1 (fun b hb => by cases hb) (hb20 q hq) (hgap c2)) (fun _ _ h => h.elim) ?_
      intro r9 s9 q9
      obtain ⟨v9, e1, hpp, LQ, AQ, kQ⟩ := q9
      subst e1
      show WG _ _ _ _ _ _ _ (84, [(5, vR (σ.2.1 100002 a0 q)), (4, vR (some m0)), (3, vI (nI ((L2 j).length - 1))), (2, vR (some (D j 0))), (0, vR (some x)), (1, vI (nI j))], [vI v9], s9, 0 + 2 + 6, 0 + 12 + 477)
      refine w_run 2 (S' := (88, [(6, vI v9), (5, vR (σ.2.1 100002 a0 q)), (4, vR (some m0)), (3, vI (nI ((L2 j).length - 1))), (2, vR (some (D j 0))), (0, vR (some x)), (1, vI (nI j))], [vI v9], s9, 0 + 2 + 6, 0 + 12 + 477)) rfl ?_
      refine w_if_ne rfl (fun c3 => ?_) (fun c3 => ?_)
      · refine w_run 1 (S' := (102, [(6, vI v9), (5, vR (σ.2.1 100002 a0 q)), (4, vR (some m0)), (3, vI (nI ((L2 j).length - 1))), (2, vR (some (D j 0))), (0, vR (some x)), (1, vI (nI j))], [vI v9], s9, 0 + 2 + 6, 0 + 12 + 477)) rfl ?_
        exact w_iret rfl (Or.inl rfl) (by omega) (by omega) (⟨j, hj, rfl, hal, v9, rfl, Or.inr ⟨L, m0, q, hL, hq, hsq, by rw [if_neg c2]; exact ⟨s9, hpp, by rw [if_neg c3]⟩⟩⟩)
      · refine w_run 1 (S' := (92, [(6, vI v9), (5, vR (σ.2.1 100002 a0 q)), (4, vR (some m0)), (3, vI (nI ((L2 j).length - 1))), (2, vR (some (D j 0))), (0, vR (some x)), (1, vI (nI j))], [vR (some (D j 0))], s9, 0 + 2 + 6, 0 + 12 + 477)) rfl ?_
        refine w_get (k := 2) (vR (s9.2.1 20621 (D j 0) 0)) rfl rfl rfl ((kQ.2.1 j hj).1) rfl rfl ?_
        refine w_run 1 (S' := (96, [(6, vI v9), (5, vR (σ.2.1 100002 a0 q)), (4, vR (some m0)), (3, vI (nI ((L2 j).length - 1))), (2, vR (some (D j 0))), (0, vR (some x)), (1, vI (nI j))], [vI (nI ((L2 j).length - 1)), vR (s9.2.1 20621 (D j 0) 0)], s9, 0 + 2 + 6, 0 + 12 + 477)) rfl ?_
        refine Eq.mp (congrArg (fun x9 => WG _ _ _ _ _ _ _ (96, [(6, vI v9), (5, vR (σ.2.1 100002 a0 q)), (4, vR (some m0)), (3, vI (nI ((L2 j).length - 1))), (2, vR (some (D j 0))), (0, vR (some x)), (1, vI (nI j))], [vI (nI ((L2 j).length - 1)), vR x9], s9, 0 + 2 + 6, 0 + 12 + 477)) (Eq.symm ((kQ.2.1 j hj).2 5 (by decide)) : some (D j 13) = s9.2.1 20621 (D j 0) 0)) ?_
        show WG _ _ _ _ _ _ _ (96, [(6, vI v9), (5, vR (σ.2.1 100002 a0 q)), (4, vR (some m0)), (3, vI (nI ((L2 j).length - 1))), (2, vR (some (D j 0))), (0, vR (some x)), (1, vI (nI j))], [vI (nI ((L2 j).length - 1)), vR (some (D j 13))], s9, 0 + 2 + 6, 0 + 12 + 477)
        refine w_callV (st := []) [vI (nI ((L2 j).length - 1))] rfl ml_0_133 rfl rfl (kQ.1 20621 (D j 0) 0 (D j 13) ((kQ.2.1 j hj).2 5 (by decide)) (by decide)) rfl rfl rfl (by simp only [RM]; omega) (by simp only [RM]; show 8 + (4 + 11) + _ ≤ _; omega) rfl (by simp only [RM]; omega) (by simp only [RM]; omega) (c_la_remove_21 l E (d - 1) s9 (fun p => D p 13) L2 AR2 kQ.2.2.2.1 j hj ((L2 j).length - 1) m0 0 (by omega) hget) (fun _ _ h => h.elim) ?_
        intro r9 sr q9
        obtain ⟨e1, hl9, he9⟩ := q9
        subst e1
        rw [hL, er_last] at hl9
        rw [show upL L2 j L = upL L2 j L from rfl] at hl9
        show WG _ _ _ _ _ _ _ (99, [(6, vI v9), (5, vR (σ.2.1 100002 a0 q)), (4, vR (some m0)), (3, vI (nI ((L2 j).length - 1))), (2, vR (some (D j 0))), (0, vR (some x)), (1, vI (nI j))], [vR (some m0)], sr, 0 + 2 + 6, 0 + 12 + 477)
        refine w_run 2 (S' := (102, [(6, vI v9), (5, vR (σ.2.1 100002 a0 q)), (4, vR (some m0)), (3, vI (nI ((L2 j).length - 1))), (2, vR (some (D j 0))), (0, vR (some x)), (1, vI (nI j))], [vI v9], sr, 0 + 2 + 6, 0 + 12 + 477)) rfl ?_
        exact w_iret rfl (Or.inl rfl) (by omega) (by omega) (⟨j, hj, rfl, hal, v9, rfl, Or.inr ⟨L, m0, q, hL, hq, hsq, by rw [if_neg c2]; exact ⟨s9, hpp, by rw [if_pos c3]; exact ⟨AR2, he9, hl9⟩⟩⟩⟩)
    · refine w_run 1 (S' := (64, [(5, vR (σ.2.1 100002 a0 q)), (4, vR (some m0)), (3, vI (nI ((L2 j).length - 1))), (2, vR (some (D j 0))), (0, vR (some x)), (1, vI (nI j))], [vR (some (D j 0))], σ, 0 + 2, 0 + 12)) rfl ?_
      refine w_get (k := 2) (vR (σ.2.1 20621 (D j 0) 0)) rfl rfl rfl ((hP j hj).1) rfl rfl ?_
      refine w_run 1 (S' := (68, [(5, vR (σ.2.1 100002 a0 q)), (4, vR (some m0)), (3, vI (nI ((L2 j).length - 1))), (2, vR (some (D j 0))), (0, vR (some x)), (1, vI (nI j))], [vI (nI ((L2 j).length - 1)), vR (σ.2.1 20621 (D j 0) 0)], σ, 0 + 2, 0 + 12)) rfl ?_
      refine Eq.mp (congrArg (fun x9 => WG _ _ _ _ _ _ _ (68, [(5, vR (σ.2.1 100002 a0 q)), (4, vR (some m0)), (3, vI (nI ((L2 j).length - 1))), (2, vR (some (D j 0))), (0, vR (some x)), (1, vI (nI j))], [vI (nI ((L2 j).length - 1)), vR x9], σ, 0 + 2, 0 + 12)) (Eq.symm ((hP j hj).2 5 (by decide)) : some (D j 13) = σ.2.1 20621 (D j 0) 0)) ?_
      show WG _ _ _ _ _ _ _ (68, [(5, vR (σ.2.1 100002 a0 q)), (4, vR (some m0)), (3, vI (nI ((L2 j).length - 1))), (2, vR (some (D j 0))), (0, vR (some x)), (1, vI (nI j))], [vI (nI ((L2 j).length - 1)), vR (some (D j 13))], σ, 0 + 2, 0 + 12)
      refine w_callV (st := []) [vI (nI ((L2 j).length - 1))] rfl ml_0_133 rfl rfl (hw 20621 (D j 0) 0 (D j 13) ((hP j hj).2 5 (by decide)) (by decide)) rfl rfl rfl (by simp only [RM]; omega) (by simp only [RM]; show 8 + (4 + 11) + _ ≤ _; omega) rfl (by simp only [RM]; omega) (by simp only [RM]; omega) (c_la_remove_21 l E (d - 1) σ (fun p => D p 13) L2 AR2 kA.2.2.2.1 j hj ((L2 j).length - 1) m0 0 (by omega) hget) (fun _ _ h => h.elim) ?_
      intro r9 sr q9
      obtain ⟨e1, hl9, he9⟩ := q9
      subst e1
      rw [hL, er_last] at hl9
      rw [show upL L2 j L = upL L2 j L from rfl] at hl9
      show WG _ _ _ _ _ _ _ (71, [(5, vR (σ.2.1 100002 a0 q)), (4, vR (some m0)), (3, vI (nI ((L2 j).length - 1))), (2, vR (some (D j 0))), (0, vR (some x)), (1, vI (nI j))], [vR (some m0)], sr, 0 + 2, 0 + 12)
      refine w_run 2 (S' := (74, [(5, vR (σ.2.1 100002 a0 q)), (4, vR (some m0)), (3, vI (nI ((L2 j).length - 1))), (2, vR (some (D j 0))), (0, vR (some x)), (1, vI (nI j))], [vI (-2)], sr, 0 + 2, 0 + 12)) rfl ?_
      exact w_iret rfl (Or.inl rfl) (by omega) (by omega) (⟨j, hj, rfl, hal, -2, rfl, Or.inr ⟨L, m0, q, hL, hq, hsq, by rw [if_pos c2]; exact ⟨rfl, AR2, he9, hl9⟩⟩⟩)
  · have hnil : L2 j = [] := by by_cases h9 : (L2 j).length = 0; exact List.length_eq_zero_iff.mp h9; rw [if_neg h9] at c1; exact absurd rfl c1
    refine w_run 1 (S' := (17, [(2, vR (some (D j 0))), (0, vR (some x)), (1, vI (nI j))], [vI (-1)], σ, 0 + 2, 0 + 12)) rfl ?_
    exact w_iret rfl (Or.inl rfl) (by omega) (by omega) (⟨j, hj, rfl, hal, -1, rfl, Or.inl ⟨hnil, rfl, rfl⟩⟩)

