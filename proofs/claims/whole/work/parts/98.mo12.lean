/-! the model: free -/
theorem hf_rng {st wk hn : Nat → Int32} {p : Nat} {n : Int32} (h : ¬ itF (hfF st wk hn p n) 15 1 0 ≤ 0) : itF (hfF st wk hn p n) 15 1 0 = nI (itF (hfF st wk hn p n) 15 1 0).toNatClampNeg ∧ (itF (hfF st wk hn p n) 15 1 0).toNatClampNeg < 16 := by
  have key := itF_ind (f := hfF st wk hn p n) (fun _ v => v = 0 ∨ ∃ b, b < 16 ∧ v = nI b) 15 1 0 (Or.inl rfl) (fun j v j1 j2 hv => by
    unfold hfF
    split
    · exact hv
    · split
      · exact Or.inr ⟨j, by omega, rfl⟩
      · exact hv)
  rcases key with e | ⟨b, b1, e⟩
  · rw [e] at h; exact absurd (by decide) h
  · rw [e, nI_clamp (by omega)]
    exact ⟨rfl, b1⟩
theorem ml_w {τ : Sg} {m : Nat} {A : Nat → Nat} {p b it c : Nat} (hc : c ≠ 550000) (a x : Nat) : (itF (mlF A p b) it 0 τ).1 c a x = τ.1 c a x := congrFun (congrFun (itF_ind (f := mlF A p b) (fun _ s => s.1 c = τ.1 c) it 0 τ rfl (fun j s _ _ h => (mlF_r hc).1.trans h)) a) x
theorem mlF_a {A : Nat → Nat} {p b k : Nat} {τ : Sg} (h : τ.1 710000 (A 20) (4 * b + k) < 0) : τ = mlF A p b k τ := (if_pos h).symm
theorem mlF_b {A : Nat → Nat} {p b k : Nat} {τ : Sg} (h : τ.1 710000 (A 20) (4 * b + k) ≥ 0) (h2 : itF (hfF (τ.1 550000 (A 4)) (τ.1 560000 (A 5)) (τ.1 540000 (A 3)) p (τ.1 710000 (A 20) (4 * b + k))) 15 1 0 ≤ 0) : τ = mlF A p b k τ := ((if_neg (Int32.not_lt.mpr h)).trans (if_pos h2)).symm
theorem mlF_c {A : Nat → Nat} {p b k : Nat} {τ : Sg} (h : τ.1 710000 (A 20) (4 * b + k) ≥ 0) (h2 : ¬ itF (hfF (τ.1 550000 (A 4)) (τ.1 560000 (A 5)) (τ.1 540000 (A 3)) p (τ.1 710000 (A 20) (4 * b + k))) 15 1 0 ≤ 0) (h3 : τ.1 550000 (A 4) (16 * p + (itF (hfF (τ.1 550000 (A 4)) (τ.1 560000 (A 5)) (τ.1 540000 (A 3)) p (τ.1 710000 (A 20) (4 * b + k))) 15 1 0).toNatClampNeg) ≤ 0) : τ = mlF A p b k τ := ((if_neg (Int32.not_lt.mpr h)).trans ((if_neg h2).trans (if_pos h3))).symm
theorem mlF_d {A : Nat → Nat} {p b k : Nat} {τ : Sg} (h : τ.1 710000 (A 20) (4 * b + k) ≥ 0) (h2 : ¬ itF (hfF (τ.1 550000 (A 4)) (τ.1 560000 (A 5)) (τ.1 540000 (A 3)) p (τ.1 710000 (A 20) (4 * b + k))) 15 1 0 ≤ 0) (h3 : ¬ τ.1 550000 (A 4) (16 * p + (itF (hfF (τ.1 550000 (A 4)) (τ.1 560000 (A 5)) (τ.1 540000 (A 3)) p (τ.1 710000 (A 20) (4 * b + k))) 15 1 0).toNatClampNeg) ≤ 0) : sI τ 550000 (A 4) (16 * p + (itF (hfF (τ.1 550000 (A 4)) (τ.1 560000 (A 5)) (τ.1 540000 (A 3)) p (τ.1 710000 (A 20) (4 * b + k))) 15 1 0).toNatClampNeg) (τ.1 550000 (A 4) (16 * p + (itF (hfF (τ.1 550000 (A 4)) (τ.1 560000 (A 5)) (τ.1 540000 (A 3)) p (τ.1 710000 (A 20) (4 * b + k))) 15 1 0).toNatClampNeg) - 1) = mlF A p b k τ := ((if_neg (Int32.not_lt.mpr h)).trans ((if_neg h2).trans (if_neg h3))).symm
set_option maxRecDepth 20000 in
set_option maxHeartbeats 4000000 in
theorem lk_mo_free1 (l : Launch) (E : FE) (d : Nat) (σ : Sg) (m : Nat) (A : Nat → Nat) (p b it : Nat) (y : Int32) (hd : 2 ≤ d) (hp : p < 4) (hb : b < 256) (hi4 : it ≤ 4) {mc ms cs sl : Nat} {args : Array Value} {XX : State → Prop} {QF : State → List Frame → State → Prop} (hcs : cs ≤ mc) (hsl : sl ≤ ms) : ∀ (k i : Nat), i + k = it → ∀ (τ : Sg), MO τ m A → τ.1 680000 (A 17) b = nI it → (∀ (τ' : Sg), τ' = itF (mlF A p b) k i τ → MO τ' m A → τ'.1 680000 (A 17) b = nI it → WG l E (RM d mc ms) 108 args XX QF (122, [(3, vI (nI b)), (0, vR (some m)), (1, vI (nI p)), (2, vI y)], [], τ', cs, sl)) →
    WG l E (RM d mc ms) 108 args XX QF (33, [(4, vI (nI i)), (3, vI (nI b)), (0, vR (some m)), (1, vI (nI p)), (2, vI y)], [], τ, cs, sl) := by
  intro k
  induction k with
  | zero =>
    intro i hi τ hM hin K
    refine w_run 2 (S' := (36, [(4, vI (nI i)), (3, vI (nI b)), (0, vR (some m)), (1, vI (nI p)), (2, vI y)], [vR (some m), vI (nI i)], τ, cs, sl)) rfl ?_
    refine w_get (k := 50) (vR (τ.2.1 501968 m 0)) rfl rfl rfl hM.1 rfl rfl ?_
    refine w_run 1 (S' := (40, [(4, vI (nI i)), (3, vI (nI b)), (0, vR (some m)), (1, vI (nI p)), (2, vI y)], [vI (nI b), vR (τ.2.1 501968 m 0), vI (nI i)], τ, cs, sl)) rfl ?_
    refine w_iald (k := 68) rfl ((hM.2 17 (by decide)).1) ((hM.2 17 (by decide)).2) rfl (show vp_in (nI b) 256 from vp_in_nI (n := b) (by omega) (by decide)) ?_
    show WG _ _ _ _ _ _ _ (41, [(4, vI (nI i)), (3, vI (nI b)), (0, vR (some m)), (1, vI (nI p)), (2, vI y)], [vI (τ.1 680000 (A 17) (nI b).toNatClampNeg), vI (nI i)], τ, cs, sl)
    rw [show (nI b : Int32).toNatClampNeg = b from nI_clamp (n := b) (by omega)]
    show WG _ _ _ _ _ _ _ (41, [(4, vI (nI i)), (3, vI (nI b)), (0, vR (some m)), (1, vI (nI p)), (2, vI y)], [vI (τ.1 680000 (A 17) b), vI (nI i)], τ, cs, sl)
    refine Eq.mp (congrArg (fun x9 => WG _ _ _ _ _ _ _ (41, [(4, vI (nI i)), (3, vI (nI b)), (0, vR (some m)), (1, vI (nI p)), (2, vI y)], [vI x9, vI (nI i)], τ, cs, sl)) (hin.symm : nI it = τ.1 680000 (A 17) b)) ?_
    show WG _ _ _ _ _ _ _ (41, [(4, vI (nI i)), (3, vI (nI b)), (0, vR (some m)), (1, vI (nI p)), (2, vI y)], [vI (nI it), vI (nI i)], τ, cs, sl)
    refine w_ic_ge rfl (fun c1 => ?_) (fun c1 => (absurd ((nI_leI (a := it) (b := i) (by omega) (by omega)).mpr (by omega)) c1))
    have nc1 := (nI_leI (a := it) (b := i) (by omega) (by omega)).mp c1
    refine w_lsP [1, 2, 3, 4] ?_
    show WG _ _ _ _ _ _ _ (122, [(3, vI (nI b)), (0, vR (some m)), (1, vI (nI p)), (2, vI y)], [], τ, cs, sl)
    exact K τ rfl hM hin
  | succ k ih =>
    intro i hi τ hM hin K
    refine w_run 2 (S' := (36, [(4, vI (nI i)), (3, vI (nI b)), (0, vR (some m)), (1, vI (nI p)), (2, vI y)], [vR (some m), vI (nI i)], τ, cs, sl)) rfl ?_
    refine w_get (k := 50) (vR (τ.2.1 501968 m 0)) rfl rfl rfl hM.1 rfl rfl ?_
    refine w_run 1 (S' := (40, [(4, vI (nI i)), (3, vI (nI b)), (0, vR (some m)), (1, vI (nI p)), (2, vI y)], [vI (nI b), vR (τ.2.1 501968 m 0), vI (nI i)], τ, cs, sl)) rfl ?_
    refine w_iald (k := 68) rfl ((hM.2 17 (by decide)).1) ((hM.2 17 (by decide)).2) rfl (show vp_in (nI b) 256 from vp_in_nI (n := b) (by omega) (by decide)) ?_
    show WG _ _ _ _ _ _ _ (41, [(4, vI (nI i)), (3, vI (nI b)), (0, vR (some m)), (1, vI (nI p)), (2, vI y)], [vI (τ.1 680000 (A 17) (nI b).toNatClampNeg), vI (nI i)], τ, cs, sl)
    rw [show (nI b : Int32).toNatClampNeg = b from nI_clamp (n := b) (by omega)]
    show WG _ _ _ _ _ _ _ (41, [(4, vI (nI i)), (3, vI (nI b)), (0, vR (some m)), (1, vI (nI p)), (2, vI y)], [vI (τ.1 680000 (A 17) b), vI (nI i)], τ, cs, sl)
    refine Eq.mp (congrArg (fun x9 => WG _ _ _ _ _ _ _ (41, [(4, vI (nI i)), (3, vI (nI b)), (0, vR (some m)), (1, vI (nI p)), (2, vI y)], [vI x9, vI (nI i)], τ, cs, sl)) (hin.symm : nI it = τ.1 680000 (A 17) b)) ?_
    show WG _ _ _ _ _ _ _ (41, [(4, vI (nI i)), (3, vI (nI b)), (0, vR (some m)), (1, vI (nI p)), (2, vI y)], [vI (nI it), vI (nI i)], τ, cs, sl)
    refine w_ic_ge rfl (fun c1 => (absurd ((nI_leI (a := it) (b := i) (by omega) (by omega)).mp c1) (by omega))) (fun c1 => ?_)
    have nc1 := mt (nI_leI (a := it) (b := i) (by omega) (by omega)).mpr c1
    refine w_run 1 (S' := (45, [(4, vI (nI i)), (3, vI (nI b)), (0, vR (some m)), (1, vI (nI p)), (2, vI y)], [vR (some m)], τ, cs, sl)) rfl ?_
    refine w_get (k := 50) (vR (τ.2.1 502271 m 0)) rfl rfl rfl hM.1 rfl rfl ?_
    refine w_run 5 (S' := (54, [(4, vI (nI i)), (3, vI (nI b)), (0, vR (some m)), (1, vI (nI p)), (2, vI y)], [vI ((4 * (nI b)) + (nI i)), vR (τ.2.1 502271 m 0)], τ, cs, sl)) rfl ?_
    rw [show ((4 * (nI b)) + (nI i) : Int32) = nI (4 * b + i) from by simp only [nl0, nl1, nl2, nl3, nl4, nl5, nl6, nl8, nl9, nl10, nl12, nl15, nl16, nl20, nl24, nl32, nl40, nl64, nl65, nl384, pk_mul, nI_add]]
    show WG _ _ _ _ _ _ _ (54, [(4, vI (nI i)), (3, vI (nI b)), (0, vR (some m)), (1, vI (nI p)), (2, vI y)], [vI (nI (4 * b + i)), vR (τ.2.1 502271 m 0)], τ, cs, sl)
    refine w_iald (k := 71) rfl ((hM.2 20 (by decide)).1) ((hM.2 20 (by decide)).2) rfl (show vp_in (nI (4 * b + i)) 1024 from vp_in_nI (n := 4 * b + i) (by omega) (by decide)) ?_
    show WG _ _ _ _ _ _ _ (55, [(4, vI (nI i)), (3, vI (nI b)), (0, vR (some m)), (1, vI (nI p)), (2, vI y)], [vI (τ.1 710000 (A 20) (nI (4 * b + i)).toNatClampNeg)], τ, cs, sl)
    rw [show (nI (4 * b + i) : Int32).toNatClampNeg = 4 * b + i from nI_clamp (n := 4 * b + i) (by omega)]
    show WG _ _ _ _ _ _ _ (55, [(4, vI (nI i)), (3, vI (nI b)), (0, vR (some m)), (1, vI (nI p)), (2, vI y)], [vI (τ.1 710000 (A 20) (4 * b + i))], τ, cs, sl)
    refine w_if_ge rfl (fun c2 => ?_) (fun c2 => ?_)
    · refine w_run 3 (S' := (65, [(4, vI (nI i)), (3, vI (nI b)), (0, vR (some m)), (1, vI (nI p)), (2, vI y)], [vR (some m), vI (nI p), vR (some m)], τ, cs, sl)) rfl ?_
      refine w_get (k := 50) (vR (τ.2.1 502271 m 0)) rfl rfl rfl hM.1 rfl rfl ?_
      refine w_run 5 (S' := (74, [(4, vI (nI i)), (3, vI (nI b)), (0, vR (some m)), (1, vI (nI p)), (2, vI y)], [vI ((4 * (nI b)) + (nI i)), vR (τ.2.1 502271 m 0), vI (nI p), vR (some m)], τ, cs, sl)) rfl ?_
      rw [show ((4 * (nI b)) + (nI i) : Int32) = nI (4 * b + i) from by simp only [nl0, nl1, nl2, nl3, nl4, nl5, nl6, nl8, nl9, nl10, nl12, nl15, nl16, nl20, nl24, nl32, nl40, nl64, nl65, nl384, pk_mul, nI_add]]
      show WG _ _ _ _ _ _ _ (74, [(4, vI (nI i)), (3, vI (nI b)), (0, vR (some m)), (1, vI (nI p)), (2, vI y)], [vI (nI (4 * b + i)), vR (τ.2.1 502271 m 0), vI (nI p), vR (some m)], τ, cs, sl)
      refine w_iald (k := 71) rfl ((hM.2 20 (by decide)).1) ((hM.2 20 (by decide)).2) rfl (show vp_in (nI (4 * b + i)) 1024 from vp_in_nI (n := 4 * b + i) (by omega) (by decide)) ?_
      show WG _ _ _ _ _ _ _ (75, [(4, vI (nI i)), (3, vI (nI b)), (0, vR (some m)), (1, vI (nI p)), (2, vI y)], [vI (τ.1 710000 (A 20) (nI (4 * b + i)).toNatClampNeg), vI (nI p), vR (some m)], τ, cs, sl)
      rw [show (nI (4 * b + i) : Int32).toNatClampNeg = 4 * b + i from nI_clamp (n := 4 * b + i) (by omega)]
      show WG _ _ _ _ _ _ _ (75, [(4, vI (nI i)), (3, vI (nI b)), (0, vR (some m)), (1, vI (nI p)), (2, vI y)], [vI (τ.1 710000 (A 20) (4 * b + i)), vI (nI p), vR (some m)], τ, cs, sl)
      refine w_callV (st := []) [vI (nI p), vI (τ.1 710000 (A 20) (4 * b + i))] rfl ml_10_156 rfl rfl hM.1 rfl rfl rfl (by simp only [RM]; omega) (by simp only [RM]; show 8 + (5 + 11) + _ ≤ _; omega) rfl (by simp only [RM]; omega) (by simp only [RM]; omega) (c_mo_handleFor l E (d - 1) τ m A p 0 (τ.1 710000 (A 20) (4 * b + i)) hM (by omega) hp) (fun _ _ h => h.elim) ?_
      intro r9 s9 q9
      rw [q9.1, q9.2]
      clear q9 r9 s9
      show WG _ _ _ _ _ _ _ (78, [(4, vI (nI i)), (3, vI (nI b)), (0, vR (some m)), (1, vI (nI p)), (2, vI y)], [vI (itF (hfF (τ.1 550000 (A 4)) (τ.1 560000 (A 5)) (τ.1 540000 (A 3)) p (τ.1 710000 (A 20) (4 * b + i))) 15 1 0)], τ, cs, sl)
      refine w_run 2 (S' := (82, [(5, vI (itF (hfF (τ.1 550000 (A 4)) (τ.1 560000 (A 5)) (τ.1 540000 (A 3)) p (τ.1 710000 (A 20) (4 * b + i))) 15 1 0)), (4, vI (nI i)), (3, vI (nI b)), (0, vR (some m)), (1, vI (nI p)), (2, vI y)], [vI (itF (hfF (τ.1 550000 (A 4)) (τ.1 560000 (A 5)) (τ.1 540000 (A 3)) p (τ.1 710000 (A 20) (4 * b + i))) 15 1 0)], τ, cs, sl)) rfl ?_
      refine w_if_le rfl (fun c3 => ?_) (fun c3 => ?_)
      · refine w_run 2 (S' := (33, [(4, vI ((nI i) + 1)), (5, vI (itF (hfF (τ.1 550000 (A 4)) (τ.1 560000 (A 5)) (τ.1 540000 (A 3)) p (τ.1 710000 (A 20) (4 * b + i))) 15 1 0)), (3, vI (nI b)), (0, vR (some m)), (1, vI (nI p)), (2, vI y)], [], τ, cs, sl)) rfl ?_
        rw [show ((nI i) + 1 : Int32) = nI (i + 1) from by simp only [nl0, nl1, nl2, nl3, nl4, nl5, nl6, nl8, nl9, nl10, nl12, nl15, nl16, nl20, nl24, nl32, nl40, nl64, nl65, nl384, pk_mul, nI_add]]
        show WG _ _ _ _ _ _ _ (33, [(4, vI (nI (i + 1))), (5, vI (itF (hfF (τ.1 550000 (A 4)) (τ.1 560000 (A 5)) (τ.1 540000 (A 3)) p (τ.1 710000 (A 20) (4 * b + i))) 15 1 0)), (3, vI (nI b)), (0, vR (some m)), (1, vI (nI p)), (2, vI y)], [], τ, cs, sl)
        refine w_lsP [0, 2, 3, 4, 5] ?_
        show WG _ _ _ _ _ _ _ (33, [(4, vI (nI (i + 1))), (3, vI (nI b)), (0, vR (some m)), (1, vI (nI p)), (2, vI y)], [], τ, cs, sl)
        exact ih (i + 1) (by omega) τ (hM) (hin) (fun τ' e9 q90 q91 => K τ' (by rw [itF_succ, ← (show (τ : Sg) = (mlF A p b) i τ from mlF_b c2 c3)]; exact e9) q90 q91)
      · obtain ⟨hHe, hH2⟩ := hf_rng c3
        refine Eq.mp (congrArg (fun x9 => WG _ _ _ _ _ _ _ (85, [(5, vI x9), (4, vI (nI i)), (3, vI (nI b)), (0, vR (some m)), (1, vI (nI p)), (2, vI y)], [], τ, cs, sl)) (Eq.symm hHe : nI ((itF (hfF (τ.1 550000 (A 4)) (τ.1 560000 (A 5)) (τ.1 540000 (A 3)) p (τ.1 710000 (A 20) (4 * b + i))) 15 1 0).toNatClampNeg) = itF (hfF (τ.1 550000 (A 4)) (τ.1 560000 (A 5)) (τ.1 540000 (A 3)) p (τ.1 710000 (A 20) (4 * b + i))) 15 1 0)) ?_
        show WG _ _ _ _ _ _ _ (85, [(5, vI (nI ((itF (hfF (τ.1 550000 (A 4)) (τ.1 560000 (A 5)) (τ.1 540000 (A 3)) p (τ.1 710000 (A 20) (4 * b + i))) 15 1 0).toNatClampNeg))), (4, vI (nI i)), (3, vI (nI b)), (0, vR (some m)), (1, vI (nI p)), (2, vI y)], [], τ, cs, sl)
        refine w_run 1 (S' := (86, [(5, vI (nI ((itF (hfF (τ.1 550000 (A 4)) (τ.1 560000 (A 5)) (τ.1 540000 (A 3)) p (τ.1 710000 (A 20) (4 * b + i))) 15 1 0).toNatClampNeg))), (4, vI (nI i)), (3, vI (nI b)), (0, vR (some m)), (1, vI (nI p)), (2, vI y)], [vR (some m)], τ, cs, sl)) rfl ?_
        refine w_get (k := 50) (vR (τ.2.1 500655 m 0)) rfl rfl rfl hM.1 rfl rfl ?_
        refine w_run 5 (S' := (96, [(5, vI (nI ((itF (hfF (τ.1 550000 (A 4)) (τ.1 560000 (A 5)) (τ.1 540000 (A 3)) p (τ.1 710000 (A 20) (4 * b + i))) 15 1 0).toNatClampNeg))), (4, vI (nI i)), (3, vI (nI b)), (0, vR (some m)), (1, vI (nI p)), (2, vI y)], [vI ((16 * (nI p)) + (nI ((itF (hfF (τ.1 550000 (A 4)) (τ.1 560000 (A 5)) (τ.1 540000 (A 3)) p (τ.1 710000 (A 20) (4 * b + i))) 15 1 0).toNatClampNeg))), vR (τ.2.1 500655 m 0)], τ, cs, sl)) rfl ?_
        rw [show ((16 * (nI p)) + (nI ((itF (hfF (τ.1 550000 (A 4)) (τ.1 560000 (A 5)) (τ.1 540000 (A 3)) p (τ.1 710000 (A 20) (4 * b + i))) 15 1 0).toNatClampNeg)) : Int32) = nI (16 * p + (itF (hfF (τ.1 550000 (A 4)) (τ.1 560000 (A 5)) (τ.1 540000 (A 3)) p (τ.1 710000 (A 20) (4 * b + i))) 15 1 0).toNatClampNeg) from by simp only [nl0, nl1, nl2, nl3, nl4, nl5, nl6, nl8, nl9, nl10, nl12, nl15, nl16, nl20, nl24, nl32, nl40, nl64, nl65, nl384, pk_mul, nI_add]]
        show WG _ _ _ _ _ _ _ (96, [(5, vI (nI ((itF (hfF (τ.1 550000 (A 4)) (τ.1 560000 (A 5)) (τ.1 540000 (A 3)) p (τ.1 710000 (A 20) (4 * b + i))) 15 1 0).toNatClampNeg))), (4, vI (nI i)), (3, vI (nI b)), (0, vR (some m)), (1, vI (nI p)), (2, vI y)], [vI (nI (16 * p + (itF (hfF (τ.1 550000 (A 4)) (τ.1 560000 (A 5)) (τ.1 540000 (A 3)) p (τ.1 710000 (A 20) (4 * b + i))) 15 1 0).toNatClampNeg)), vR (τ.2.1 500655 m 0)], τ, cs, sl)
        refine w_iald (k := 55) rfl ((hM.2 4 (by decide)).1) ((hM.2 4 (by decide)).2) rfl (show vp_in (nI (16 * p + (itF (hfF (τ.1 550000 (A 4)) (τ.1 560000 (A 5)) (τ.1 540000 (A 3)) p (τ.1 710000 (A 20) (4 * b + i))) 15 1 0).toNatClampNeg)) 64 from vp_in_nI (n := 16 * p + (itF (hfF (τ.1 550000 (A 4)) (τ.1 560000 (A 5)) (τ.1 540000 (A 3)) p (τ.1 710000 (A 20) (4 * b + i))) 15 1 0).toNatClampNeg) (by omega) (by decide)) ?_
        show WG _ _ _ _ _ _ _ (97, [(5, vI (nI ((itF (hfF (τ.1 550000 (A 4)) (τ.1 560000 (A 5)) (τ.1 540000 (A 3)) p (τ.1 710000 (A 20) (4 * b + i))) 15 1 0).toNatClampNeg))), (4, vI (nI i)), (3, vI (nI b)), (0, vR (some m)), (1, vI (nI p)), (2, vI y)], [vI (τ.1 550000 (A 4) (nI (16 * p + (itF (hfF (τ.1 550000 (A 4)) (τ.1 560000 (A 5)) (τ.1 540000 (A 3)) p (τ.1 710000 (A 20) (4 * b + i))) 15 1 0).toNatClampNeg)).toNatClampNeg)], τ, cs, sl)
        rw [show (nI (16 * p + (itF (hfF (τ.1 550000 (A 4)) (τ.1 560000 (A 5)) (τ.1 540000 (A 3)) p (τ.1 710000 (A 20) (4 * b + i))) 15 1 0).toNatClampNeg) : Int32).toNatClampNeg = 16 * p + (itF (hfF (τ.1 550000 (A 4)) (τ.1 560000 (A 5)) (τ.1 540000 (A 3)) p (τ.1 710000 (A 20) (4 * b + i))) 15 1 0).toNatClampNeg from nI_clamp (n := 16 * p + (itF (hfF (τ.1 550000 (A 4)) (τ.1 560000 (A 5)) (τ.1 540000 (A 3)) p (τ.1 710000 (A 20) (4 * b + i))) 15 1 0).toNatClampNeg) (by omega)]
        show WG _ _ _ _ _ _ _ (97, [(5, vI (nI ((itF (hfF (τ.1 550000 (A 4)) (τ.1 560000 (A 5)) (τ.1 540000 (A 3)) p (τ.1 710000 (A 20) (4 * b + i))) 15 1 0).toNatClampNeg))), (4, vI (nI i)), (3, vI (nI b)), (0, vR (some m)), (1, vI (nI p)), (2, vI y)], [vI (τ.1 550000 (A 4) (16 * p + (itF (hfF (τ.1 550000 (A 4)) (τ.1 560000 (A 5)) (τ.1 540000 (A 3)) p (τ.1 710000 (A 20) (4 * b + i))) 15 1 0).toNatClampNeg))], τ, cs, sl)
        refine w_if_le rfl (fun c4 => ?_) (fun c4 => ?_)
        · refine w_run 2 (S' := (33, [(4, vI ((nI i) + 1)), (5, vI (nI ((itF (hfF (τ.1 550000 (A 4)) (τ.1 560000 (A 5)) (τ.1 540000 (A 3)) p (τ.1 710000 (A 20) (4 * b + i))) 15 1 0).toNatClampNeg))), (3, vI (nI b)), (0, vR (some m)), (1, vI (nI p)), (2, vI y)], [], τ, cs, sl)) rfl ?_
          rw [show ((nI i) + 1 : Int32) = nI (i + 1) from by simp only [nl0, nl1, nl2, nl3, nl4, nl5, nl6, nl8, nl9, nl10, nl12, nl15, nl16, nl20, nl24, nl32, nl40, nl64, nl65, nl384, pk_mul, nI_add]]
          show WG _ _ _ _ _ _ _ (33, [(4, vI (nI (i + 1))), (5, vI (nI ((itF (hfF (τ.1 550000 (A 4)) (τ.1 560000 (A 5)) (τ.1 540000 (A 3)) p (τ.1 710000 (A 20) (4 * b + i))) 15 1 0).toNatClampNeg))), (3, vI (nI b)), (0, vR (some m)), (1, vI (nI p)), (2, vI y)], [], τ, cs, sl)
          refine w_lsP [0, 2, 3, 4, 5] ?_
          show WG _ _ _ _ _ _ _ (33, [(4, vI (nI (i + 1))), (3, vI (nI b)), (0, vR (some m)), (1, vI (nI p)), (2, vI y)], [], τ, cs, sl)
          exact ih (i + 1) (by omega) τ (hM) (hin) (fun τ' e9 q90 q91 => K τ' (by rw [itF_succ, ← (show (τ : Sg) = (mlF A p b) i τ from mlF_c c2 c3 c4)]; exact e9) q90 q91)
        · refine w_run 1 (S' := (101, [(5, vI (nI ((itF (hfF (τ.1 550000 (A 4)) (τ.1 560000 (A 5)) (τ.1 540000 (A 3)) p (τ.1 710000 (A 20) (4 * b + i))) 15 1 0).toNatClampNeg))), (4, vI (nI i)), (3, vI (nI b)), (0, vR (some m)), (1, vI (nI p)), (2, vI y)], [vR (some m)], τ, cs, sl)) rfl ?_
          refine w_get (k := 50) (vR (τ.2.1 500655 m 0)) rfl rfl rfl hM.1 rfl rfl ?_
          refine w_run 6 (S' := (112, [(5, vI (nI ((itF (hfF (τ.1 550000 (A 4)) (τ.1 560000 (A 5)) (τ.1 540000 (A 3)) p (τ.1 710000 (A 20) (4 * b + i))) 15 1 0).toNatClampNeg))), (4, vI (nI i)), (3, vI (nI b)), (0, vR (some m)), (1, vI (nI p)), (2, vI y)], [vI ((16 * (nI p)) + (nI ((itF (hfF (τ.1 550000 (A 4)) (τ.1 560000 (A 5)) (τ.1 540000 (A 3)) p (τ.1 710000 (A 20) (4 * b + i))) 15 1 0).toNatClampNeg))), vR (τ.2.1 500655 m 0), vI ((16 * (nI p)) + (nI ((itF (hfF (τ.1 550000 (A 4)) (τ.1 560000 (A 5)) (τ.1 540000 (A 3)) p (τ.1 710000 (A 20) (4 * b + i))) 15 1 0).toNatClampNeg))), vR (τ.2.1 500655 m 0)], τ, cs, sl)) rfl ?_
          rw [show ((16 * (nI p)) + (nI ((itF (hfF (τ.1 550000 (A 4)) (τ.1 560000 (A 5)) (τ.1 540000 (A 3)) p (τ.1 710000 (A 20) (4 * b + i))) 15 1 0).toNatClampNeg)) : Int32) = nI (16 * p + (itF (hfF (τ.1 550000 (A 4)) (τ.1 560000 (A 5)) (τ.1 540000 (A 3)) p (τ.1 710000 (A 20) (4 * b + i))) 15 1 0).toNatClampNeg) from by simp only [nl0, nl1, nl2, nl3, nl4, nl5, nl6, nl8, nl9, nl10, nl12, nl15, nl16, nl20, nl24, nl32, nl40, nl64, nl65, nl384, pk_mul, nI_add]]
          show WG _ _ _ _ _ _ _ (112, [(5, vI (nI ((itF (hfF (τ.1 550000 (A 4)) (τ.1 560000 (A 5)) (τ.1 540000 (A 3)) p (τ.1 710000 (A 20) (4 * b + i))) 15 1 0).toNatClampNeg))), (4, vI (nI i)), (3, vI (nI b)), (0, vR (some m)), (1, vI (nI p)), (2, vI y)], [vI (nI (16 * p + (itF (hfF (τ.1 550000 (A 4)) (τ.1 560000 (A 5)) (τ.1 540000 (A 3)) p (τ.1 710000 (A 20) (4 * b + i))) 15 1 0).toNatClampNeg)), vR (τ.2.1 500655 m 0), vI (nI (16 * p + (itF (hfF (τ.1 550000 (A 4)) (τ.1 560000 (A 5)) (τ.1 540000 (A 3)) p (τ.1 710000 (A 20) (4 * b + i))) 15 1 0).toNatClampNeg)), vR (τ.2.1 500655 m 0)], τ, cs, sl)
          refine w_iald (k := 55) rfl ((hM.2 4 (by decide)).1) ((hM.2 4 (by decide)).2) rfl (show vp_in (nI (16 * p + (itF (hfF (τ.1 550000 (A 4)) (τ.1 560000 (A 5)) (τ.1 540000 (A 3)) p (τ.1 710000 (A 20) (4 * b + i))) 15 1 0).toNatClampNeg)) 64 from vp_in_nI (n := 16 * p + (itF (hfF (τ.1 550000 (A 4)) (τ.1 560000 (A 5)) (τ.1 540000 (A 3)) p (τ.1 710000 (A 20) (4 * b + i))) 15 1 0).toNatClampNeg) (by omega) (by decide)) ?_
          show WG _ _ _ _ _ _ _ (113, [(5, vI (nI ((itF (hfF (τ.1 550000 (A 4)) (τ.1 560000 (A 5)) (τ.1 540000 (A 3)) p (τ.1 710000 (A 20) (4 * b + i))) 15 1 0).toNatClampNeg))), (4, vI (nI i)), (3, vI (nI b)), (0, vR (some m)), (1, vI (nI p)), (2, vI y)], [vI (τ.1 550000 (A 4) (nI (16 * p + (itF (hfF (τ.1 550000 (A 4)) (τ.1 560000 (A 5)) (τ.1 540000 (A 3)) p (τ.1 710000 (A 20) (4 * b + i))) 15 1 0).toNatClampNeg)).toNatClampNeg), vI (nI (16 * p + (itF (hfF (τ.1 550000 (A 4)) (τ.1 560000 (A 5)) (τ.1 540000 (A 3)) p (τ.1 710000 (A 20) (4 * b + i))) 15 1 0).toNatClampNeg)), vR (τ.2.1 500655 m 0)], τ, cs, sl)
          rw [show (nI (16 * p + (itF (hfF (τ.1 550000 (A 4)) (τ.1 560000 (A 5)) (τ.1 540000 (A 3)) p (τ.1 710000 (A 20) (4 * b + i))) 15 1 0).toNatClampNeg) : Int32).toNatClampNeg = 16 * p + (itF (hfF (τ.1 550000 (A 4)) (τ.1 560000 (A 5)) (τ.1 540000 (A 3)) p (τ.1 710000 (A 20) (4 * b + i))) 15 1 0).toNatClampNeg from nI_clamp (n := 16 * p + (itF (hfF (τ.1 550000 (A 4)) (τ.1 560000 (A 5)) (τ.1 540000 (A 3)) p (τ.1 710000 (A 20) (4 * b + i))) 15 1 0).toNatClampNeg) (by omega)]
          show WG _ _ _ _ _ _ _ (113, [(5, vI (nI ((itF (hfF (τ.1 550000 (A 4)) (τ.1 560000 (A 5)) (τ.1 540000 (A 3)) p (τ.1 710000 (A 20) (4 * b + i))) 15 1 0).toNatClampNeg))), (4, vI (nI i)), (3, vI (nI b)), (0, vR (some m)), (1, vI (nI p)), (2, vI y)], [vI (τ.1 550000 (A 4) (16 * p + (itF (hfF (τ.1 550000 (A 4)) (τ.1 560000 (A 5)) (τ.1 540000 (A 3)) p (τ.1 710000 (A 20) (4 * b + i))) 15 1 0).toNatClampNeg)), vI (nI (16 * p + (itF (hfF (τ.1 550000 (A 4)) (τ.1 560000 (A 5)) (τ.1 540000 (A 3)) p (τ.1 710000 (A 20) (4 * b + i))) 15 1 0).toNatClampNeg)), vR (τ.2.1 500655 m 0)], τ, cs, sl)
          refine w_run 2 (S' := (115, [(5, vI (nI ((itF (hfF (τ.1 550000 (A 4)) (τ.1 560000 (A 5)) (τ.1 540000 (A 3)) p (τ.1 710000 (A 20) (4 * b + i))) 15 1 0).toNatClampNeg))), (4, vI (nI i)), (3, vI (nI b)), (0, vR (some m)), (1, vI (nI p)), (2, vI y)], [vI ((τ.1 550000 (A 4) (16 * p + (itF (hfF (τ.1 550000 (A 4)) (τ.1 560000 (A 5)) (τ.1 540000 (A 3)) p (τ.1 710000 (A 20) (4 * b + i))) 15 1 0).toNatClampNeg)) - 1), vI (nI (16 * p + (itF (hfF (τ.1 550000 (A 4)) (τ.1 560000 (A 5)) (τ.1 540000 (A 3)) p (τ.1 710000 (A 20) (4 * b + i))) 15 1 0).toNatClampNeg)), vR (τ.2.1 500655 m 0)], τ, cs, sl)) rfl ?_
          refine w_iast (k := 55) rfl ((hM.2 4 (by decide)).1) ((hM.2 4 (by decide)).2) rfl (show vp_in (nI (16 * p + (itF (hfF (τ.1 550000 (A 4)) (τ.1 560000 (A 5)) (τ.1 540000 (A 3)) p (τ.1 710000 (A 20) (4 * b + i))) 15 1 0).toNatClampNeg)) 64 from vp_in_nI (n := 16 * p + (itF (hfF (τ.1 550000 (A 4)) (τ.1 560000 (A 5)) (τ.1 540000 (A 3)) p (τ.1 710000 (A 20) (4 * b + i))) 15 1 0).toNatClampNeg) (by omega) (by decide)) ?_
          show WG _ _ _ _ _ _ _ (116, [(5, vI (nI ((itF (hfF (τ.1 550000 (A 4)) (τ.1 560000 (A 5)) (τ.1 540000 (A 3)) p (τ.1 710000 (A 20) (4 * b + i))) 15 1 0).toNatClampNeg))), (4, vI (nI i)), (3, vI (nI b)), (0, vR (some m)), (1, vI (nI p)), (2, vI y)], [], sI τ 550000 (A 4) ((nI (16 * p + (itF (hfF (τ.1 550000 (A 4)) (τ.1 560000 (A 5)) (τ.1 540000 (A 3)) p (τ.1 710000 (A 20) (4 * b + i))) 15 1 0).toNatClampNeg)).toNatClampNeg) ((τ.1 550000 (A 4) (16 * p + (itF (hfF (τ.1 550000 (A 4)) (τ.1 560000 (A 5)) (τ.1 540000 (A 3)) p (τ.1 710000 (A 20) (4 * b + i))) 15 1 0).toNatClampNeg)) - 1), cs, sl)
          rw [show (nI (16 * p + (itF (hfF (τ.1 550000 (A 4)) (τ.1 560000 (A 5)) (τ.1 540000 (A 3)) p (τ.1 710000 (A 20) (4 * b + i))) 15 1 0).toNatClampNeg) : Int32).toNatClampNeg = 16 * p + (itF (hfF (τ.1 550000 (A 4)) (τ.1 560000 (A 5)) (τ.1 540000 (A 3)) p (τ.1 710000 (A 20) (4 * b + i))) 15 1 0).toNatClampNeg from nI_clamp (n := 16 * p + (itF (hfF (τ.1 550000 (A 4)) (τ.1 560000 (A 5)) (τ.1 540000 (A 3)) p (τ.1 710000 (A 20) (4 * b + i))) 15 1 0).toNatClampNeg) (by omega)]
          refine w_run 2 (S' := (33, [(4, vI ((nI i) + 1)), (5, vI (nI ((itF (hfF (τ.1 550000 (A 4)) (τ.1 560000 (A 5)) (τ.1 540000 (A 3)) p (τ.1 710000 (A 20) (4 * b + i))) 15 1 0).toNatClampNeg))), (3, vI (nI b)), (0, vR (some m)), (1, vI (nI p)), (2, vI y)], [], sI τ 550000 (A 4) (16 * p + (itF (hfF (τ.1 550000 (A 4)) (τ.1 560000 (A 5)) (τ.1 540000 (A 3)) p (τ.1 710000 (A 20) (4 * b + i))) 15 1 0).toNatClampNeg) ((τ.1 550000 (A 4) (16 * p + (itF (hfF (τ.1 550000 (A 4)) (τ.1 560000 (A 5)) (τ.1 540000 (A 3)) p (τ.1 710000 (A 20) (4 * b + i))) 15 1 0).toNatClampNeg)) - 1), cs, sl)) rfl ?_
          rw [show ((nI i) + 1 : Int32) = nI (i + 1) from by simp only [nl0, nl1, nl2, nl3, nl4, nl5, nl6, nl8, nl9, nl10, nl12, nl15, nl16, nl20, nl24, nl32, nl40, nl64, nl65, nl384, pk_mul, nI_add]]
          show WG _ _ _ _ _ _ _ (33, [(4, vI (nI (i + 1))), (5, vI (nI ((itF (hfF (τ.1 550000 (A 4)) (τ.1 560000 (A 5)) (τ.1 540000 (A 3)) p (τ.1 710000 (A 20) (4 * b + i))) 15 1 0).toNatClampNeg))), (3, vI (nI b)), (0, vR (some m)), (1, vI (nI p)), (2, vI y)], [], sI τ 550000 (A 4) (16 * p + (itF (hfF (τ.1 550000 (A 4)) (τ.1 560000 (A 5)) (τ.1 540000 (A 3)) p (τ.1 710000 (A 20) (4 * b + i))) 15 1 0).toNatClampNeg) ((τ.1 550000 (A 4) (16 * p + (itF (hfF (τ.1 550000 (A 4)) (τ.1 560000 (A 5)) (τ.1 540000 (A 3)) p (τ.1 710000 (A 20) (4 * b + i))) 15 1 0).toNatClampNeg)) - 1), cs, sl)
          refine w_lsP [0, 2, 3, 4, 5] ?_
          show WG _ _ _ _ _ _ _ (33, [(4, vI (nI (i + 1))), (3, vI (nI b)), (0, vR (some m)), (1, vI (nI p)), (2, vI y)], [], sI τ 550000 (A 4) (16 * p + (itF (hfF (τ.1 550000 (A 4)) (τ.1 560000 (A 5)) (τ.1 540000 (A 3)) p (τ.1 710000 (A 20) (4 * b + i))) 15 1 0).toNatClampNeg) ((τ.1 550000 (A 4) (16 * p + (itF (hfF (τ.1 550000 (A 4)) (τ.1 560000 (A 5)) (τ.1 540000 (A 3)) p (τ.1 710000 (A 20) (4 * b + i))) 15 1 0).toNatClampNeg)) - 1), cs, sl)
          exact ih (i + 1) (by omega) (sI τ 550000 (A 4) (16 * p + (itF (hfF (τ.1 550000 (A 4)) (τ.1 560000 (A 5)) (τ.1 540000 (A 3)) p (τ.1 710000 (A 20) (4 * b + i))) 15 1 0).toNatClampNeg) ((τ.1 550000 (A 4) (16 * p + (itF (hfF (τ.1 550000 (A 4)) (τ.1 560000 (A 5)) (τ.1 540000 (A 3)) p (τ.1 710000 (A 20) (4 * b + i))) 15 1 0).toNatClampNeg)) - 1)) (hM) ((rII (by decide)).trans hin) (fun τ' e9 q90 q91 => K τ' (by rw [itF_succ, ← (show ((sI τ 550000 (A 4) (16 * p + (itF (hfF (τ.1 550000 (A 4)) (τ.1 560000 (A 5)) (τ.1 540000 (A 3)) p (τ.1 710000 (A 20) (4 * b + i))) 15 1 0).toNatClampNeg) ((τ.1 550000 (A 4) (16 * p + (itF (hfF (τ.1 550000 (A 4)) (τ.1 560000 (A 5)) (τ.1 540000 (A 3)) p (τ.1 710000 (A 20) (4 * b + i))) 15 1 0).toNatClampNeg)) - 1)) : Sg) = (mlF A p b) i τ from mlF_d c2 c3 c4)]; exact e9) q90 q91)
    · refine w_run 4 (S' := (82, [(5, vI 0), (4, vI (nI i)), (3, vI (nI b)), (0, vR (some m)), (1, vI (nI p)), (2, vI y)], [vI 0], τ, cs, sl)) rfl ?_
      refine w_if_le rfl (fun c5 => ?_) (fun c5 => (absurd ((nI_leI (a := 0) (b := 0) (by omega) (by omega)).mpr (by omega)) c5))
      have nc5 := (nI_leI (a := 0) (b := 0) (by omega) (by omega)).mp c5
      refine w_run 2 (S' := (33, [(4, vI ((nI i) + 1)), (5, vI 0), (3, vI (nI b)), (0, vR (some m)), (1, vI (nI p)), (2, vI y)], [], τ, cs, sl)) rfl ?_
      rw [show ((nI i) + 1 : Int32) = nI (i + 1) from by simp only [nl0, nl1, nl2, nl3, nl4, nl5, nl6, nl8, nl9, nl10, nl12, nl15, nl16, nl20, nl24, nl32, nl40, nl64, nl65, nl384, pk_mul, nI_add]]
      show WG _ _ _ _ _ _ _ (33, [(4, vI (nI (i + 1))), (5, vI 0), (3, vI (nI b)), (0, vR (some m)), (1, vI (nI p)), (2, vI y)], [], τ, cs, sl)
      refine w_lsP [0, 2, 3, 4, 5] ?_
      show WG _ _ _ _ _ _ _ (33, [(4, vI (nI (i + 1))), (3, vI (nI b)), (0, vR (some m)), (1, vI (nI p)), (2, vI y)], [], τ, cs, sl)
      exact ih (i + 1) (by omega) τ (hM) (hin) (fun τ' e9 q90 q91 => K τ' (by rw [itF_succ, ← (show (τ : Sg) = (mlF A p b) i τ from mlF_a (Int32.not_le.mp c2))]; exact e9) q90 q91)
set_option maxRecDepth 20000 in
set_option maxHeartbeats 4000000 in
theorem lk_mo_free2 (l : Launch) (E : FE) (d : Nat) (σ : Sg) (m : Nat) (A : Nat → Nat) (p b : Nat) (y fb : Int32) (hM : MO σ m A) (hp : p < 4) (hb : b < 256) (hfb : σ.1 650000 (A 14) b = fb) {mc ms cs sl : Nat} {args : Array Value} {XX : State → Prop} {QF : State → List Frame → State → Prop} (hcs : cs ≤ mc) (hsl : sl ≤ ms) : ∀ (k i : Nat), i + k = 64 * p + 64 → ∀ (a : Int32), a < 0 ∨ (a = nI a.toNatClampNeg ∧ a.toNatClampNeg < 256) → (∀ (a' : Int32), a' = itF (nxF (σ.1 610000 (A 10)) (σ.1 650000 (A 14)) (σ.1 670000 (A 16)) fb) k i a → a' < 0 ∨ (a' = nI a'.toNatClampNeg ∧ a'.toNatClampNeg < 256) → WG l E (RM d mc ms) 108 args XX QF (213, [(4, vI a'), (3, vI (nI b)), (0, vR (some m)), (1, vI (nI p)), (2, vI y)], [], σ, cs, sl)) →
    WG l E (RM d mc ms) 108 args XX QF (142, [(5, vI (nI i)), (4, vI a), (3, vI (nI b)), (0, vR (some m)), (1, vI (nI p)), (2, vI y)], [], σ, cs, sl) := by
  intro k
  induction k with
  | zero =>
    intro i hi a ha K
    refine w_run 6 (S' := (151, [(5, vI (nI i)), (4, vI a), (3, vI (nI b)), (0, vR (some m)), (1, vI (nI p)), (2, vI y)], [vI ((64 * (nI p)) + 64), vI (nI i)], σ, cs, sl)) rfl ?_
    rw [show ((64 * (nI p)) + 64 : Int32) = nI (64 * p + 64) from by simp only [nl0, nl1, nl2, nl3, nl4, nl5, nl6, nl8, nl9, nl10, nl12, nl15, nl16, nl20, nl24, nl32, nl40, nl64, nl65, nl384, pk_mul, nI_add]]
    show WG _ _ _ _ _ _ _ (151, [(5, vI (nI i)), (4, vI a), (3, vI (nI b)), (0, vR (some m)), (1, vI (nI p)), (2, vI y)], [vI (nI (64 * p + 64)), vI (nI i)], σ, cs, sl)
    refine w_ic_ge rfl (fun c1 => ?_) (fun c1 => (absurd ((nI_leI (a := 64 * p + 64) (b := i) (by omega) (by omega)).mpr (by omega)) c1))
    have nc1 := (nI_leI (a := 64 * p + 64) (b := i) (by omega) (by omega)).mp c1
    refine w_lsP [1, 2, 3, 4, 5] ?_
    show WG _ _ _ _ _ _ _ (213, [(4, vI a), (3, vI (nI b)), (0, vR (some m)), (1, vI (nI p)), (2, vI y)], [], σ, cs, sl)
    exact K a rfl ha
  | succ k ih =>
    intro i hi a ha K
    refine w_run 6 (S' := (151, [(5, vI (nI i)), (4, vI a), (3, vI (nI b)), (0, vR (some m)), (1, vI (nI p)), (2, vI y)], [vI ((64 * (nI p)) + 64), vI (nI i)], σ, cs, sl)) rfl ?_
    rw [show ((64 * (nI p)) + 64 : Int32) = nI (64 * p + 64) from by simp only [nl0, nl1, nl2, nl3, nl4, nl5, nl6, nl8, nl9, nl10, nl12, nl15, nl16, nl20, nl24, nl32, nl40, nl64, nl65, nl384, pk_mul, nI_add]]
    show WG _ _ _ _ _ _ _ (151, [(5, vI (nI i)), (4, vI a), (3, vI (nI b)), (0, vR (some m)), (1, vI (nI p)), (2, vI y)], [vI (nI (64 * p + 64)), vI (nI i)], σ, cs, sl)
    refine w_ic_ge rfl (fun c1 => (absurd ((nI_leI (a := 64 * p + 64) (b := i) (by omega) (by omega)).mp c1) (by omega))) (fun c1 => ?_)
    have nc1 := mt (nI_leI (a := 64 * p + 64) (b := i) (by omega) (by omega)).mpr c1
    refine w_run 1 (S' := (155, [(5, vI (nI i)), (4, vI a), (3, vI (nI b)), (0, vR (some m)), (1, vI (nI p)), (2, vI y)], [vR (some m)], σ, cs, sl)) rfl ?_
    refine w_get (k := 50) (vR (σ.2.1 501261 m 0)) rfl rfl rfl hM.1 rfl rfl ?_
    refine w_run 1 (S' := (160, [(5, vI (nI i)), (4, vI a), (3, vI (nI b)), (0, vR (some m)), (1, vI (nI p)), (2, vI y)], [vI (nI i), vR (σ.2.1 501261 m 0)], σ, cs, sl)) rfl ?_
    refine w_iald (k := 61) rfl ((hM.2 10 (by decide)).1) ((hM.2 10 (by decide)).2) rfl (show vp_in (nI i) 256 from vp_in_nI (n := i) (by omega) (by decide)) ?_
    show WG _ _ _ _ _ _ _ (161, [(5, vI (nI i)), (4, vI a), (3, vI (nI b)), (0, vR (some m)), (1, vI (nI p)), (2, vI y)], [vI (σ.1 610000 (A 10) (nI i).toNatClampNeg)], σ, cs, sl)
    rw [show (nI i : Int32).toNatClampNeg = i from nI_clamp (n := i) (by omega)]
    show WG _ _ _ _ _ _ _ (161, [(5, vI (nI i)), (4, vI a), (3, vI (nI b)), (0, vR (some m)), (1, vI (nI p)), (2, vI y)], [vI (σ.1 610000 (A 10) i)], σ, cs, sl)
    refine w_run 1 (S' := (162, [(5, vI (nI i)), (4, vI a), (3, vI (nI b)), (0, vR (some m)), (1, vI (nI p)), (2, vI y)], [vI 1, vI (σ.1 610000 (A 10) i)], σ, cs, sl)) rfl ?_
    refine w_ic_ne rfl (fun c2 => ?_) (fun c2 => ?_)
    · refine w_run 2 (S' := (142, [(5, vI ((nI i) + 1)), (4, vI a), (3, vI (nI b)), (0, vR (some m)), (1, vI (nI p)), (2, vI y)], [], σ, cs, sl)) rfl ?_
      rw [show ((nI i) + 1 : Int32) = nI (i + 1) from by simp only [nl0, nl1, nl2, nl3, nl4, nl5, nl6, nl8, nl9, nl10, nl12, nl15, nl16, nl20, nl24, nl32, nl40, nl64, nl65, nl384, pk_mul, nI_add]]
      show WG _ _ _ _ _ _ _ (142, [(5, vI (nI (i + 1))), (4, vI a), (3, vI (nI b)), (0, vR (some m)), (1, vI (nI p)), (2, vI y)], [], σ, cs, sl)
      exact ih (i + 1) (by omega) a (ha) (fun a' e9 q90 => K a' (by rw [itF_succ, ← (show (a : Int32) = (nxF (σ.1 610000 (A 10)) (σ.1 650000 (A 14)) (σ.1 670000 (A 16)) fb) i a from by simp only [nxF, if_neg c2])]; exact e9) q90)
    · refine w_run 1 (S' := (166, [(5, vI (nI i)), (4, vI a), (3, vI (nI b)), (0, vR (some m)), (1, vI (nI p)), (2, vI y)], [vR (some m)], σ, cs, sl)) rfl ?_
      refine w_get (k := 50) (vR (σ.2.1 501665 m 0)) rfl rfl rfl hM.1 rfl rfl ?_
      refine w_run 1 (S' := (171, [(5, vI (nI i)), (4, vI a), (3, vI (nI b)), (0, vR (some m)), (1, vI (nI p)), (2, vI y)], [vI (nI i), vR (σ.2.1 501665 m 0)], σ, cs, sl)) rfl ?_
      refine w_iald (k := 65) rfl ((hM.2 14 (by decide)).1) ((hM.2 14 (by decide)).2) rfl (show vp_in (nI i) 256 from vp_in_nI (n := i) (by omega) (by decide)) ?_
      show WG _ _ _ _ _ _ _ (172, [(5, vI (nI i)), (4, vI a), (3, vI (nI b)), (0, vR (some m)), (1, vI (nI p)), (2, vI y)], [vI (σ.1 650000 (A 14) (nI i).toNatClampNeg)], σ, cs, sl)
      rw [show (nI i : Int32).toNatClampNeg = i from nI_clamp (n := i) (by omega)]
      show WG _ _ _ _ _ _ _ (172, [(5, vI (nI i)), (4, vI a), (3, vI (nI b)), (0, vR (some m)), (1, vI (nI p)), (2, vI y)], [vI (σ.1 650000 (A 14) i)], σ, cs, sl)
      refine w_run 1 (S' := (173, [(5, vI (nI i)), (4, vI a), (3, vI (nI b)), (0, vR (some m)), (1, vI (nI p)), (2, vI y)], [vR (some m), vI (σ.1 650000 (A 14) i)], σ, cs, sl)) rfl ?_
      refine w_get (k := 50) (vR (σ.2.1 501665 m 0)) rfl rfl rfl hM.1 rfl rfl ?_
      refine w_run 1 (S' := (177, [(5, vI (nI i)), (4, vI a), (3, vI (nI b)), (0, vR (some m)), (1, vI (nI p)), (2, vI y)], [vI (nI b), vR (σ.2.1 501665 m 0), vI (σ.1 650000 (A 14) i)], σ, cs, sl)) rfl ?_
      refine w_iald (k := 65) rfl ((hM.2 14 (by decide)).1) ((hM.2 14 (by decide)).2) rfl (show vp_in (nI b) 256 from vp_in_nI (n := b) (by omega) (by decide)) ?_
      show WG _ _ _ _ _ _ _ (178, [(5, vI (nI i)), (4, vI a), (3, vI (nI b)), (0, vR (some m)), (1, vI (nI p)), (2, vI y)], [vI (σ.1 650000 (A 14) (nI b).toNatClampNeg), vI (σ.1 650000 (A 14) i)], σ, cs, sl)
      rw [show (nI b : Int32).toNatClampNeg = b from nI_clamp (n := b) (by omega)]
      show WG _ _ _ _ _ _ _ (178, [(5, vI (nI i)), (4, vI a), (3, vI (nI b)), (0, vR (some m)), (1, vI (nI p)), (2, vI y)], [vI (σ.1 650000 (A 14) b), vI (σ.1 650000 (A 14) i)], σ, cs, sl)
      refine w_ic_ne rfl (fun c3 => ?_) (fun c3 => ?_)
      · rw [hfb] at c3
        refine w_run 2 (S' := (142, [(5, vI ((nI i) + 1)), (4, vI a), (3, vI (nI b)), (0, vR (some m)), (1, vI (nI p)), (2, vI y)], [], σ, cs, sl)) rfl ?_
        rw [show ((nI i) + 1 : Int32) = nI (i + 1) from by simp only [nl0, nl1, nl2, nl3, nl4, nl5, nl6, nl8, nl9, nl10, nl12, nl15, nl16, nl20, nl24, nl32, nl40, nl64, nl65, nl384, pk_mul, nI_add]]
        show WG _ _ _ _ _ _ _ (142, [(5, vI (nI (i + 1))), (4, vI a), (3, vI (nI b)), (0, vR (some m)), (1, vI (nI p)), (2, vI y)], [], σ, cs, sl)
        exact ih (i + 1) (by omega) a (ha) (fun a' e9 q90 => K a' (by rw [itF_succ, ← (show (a : Int32) = (nxF (σ.1 610000 (A 10)) (σ.1 650000 (A 14)) (σ.1 670000 (A 16)) fb) i a from by simp only [nxF, if_pos c2, if_neg c3])]; exact e9) q90)
      · rw [hfb] at c3
        refine w_run 1 (S' := (183, [(5, vI (nI i)), (4, vI a), (3, vI (nI b)), (0, vR (some m)), (1, vI (nI p)), (2, vI y)], [vI a], σ, cs, sl)) rfl ?_
        refine w_if_lt rfl (fun c4 => ?_) (fun c4 => ?_)
        · refine w_run 4 (S' := (142, [(5, vI ((nI i) + 1)), (4, vI (nI i)), (3, vI (nI b)), (0, vR (some m)), (1, vI (nI p)), (2, vI y)], [], σ, cs, sl)) rfl ?_
          rw [show ((nI i) + 1 : Int32) = nI (i + 1) from by simp only [nl0, nl1, nl2, nl3, nl4, nl5, nl6, nl8, nl9, nl10, nl12, nl15, nl16, nl20, nl24, nl32, nl40, nl64, nl65, nl384, pk_mul, nI_add]]
          show WG _ _ _ _ _ _ _ (142, [(5, vI (nI (i + 1))), (4, vI (nI i)), (3, vI (nI b)), (0, vR (some m)), (1, vI (nI p)), (2, vI y)], [], σ, cs, sl)
          exact ih (i + 1) (by omega) (nI i) (Or.inr ⟨by rw [nI_clamp (by omega)], by rw [nI_clamp (by omega)]; omega⟩) (fun a' e9 q90 => K a' (by rw [itF_succ, ← (show ((nI i) : Int32) = (nxF (σ.1 610000 (A 10)) (σ.1 650000 (A 14)) (σ.1 670000 (A 16)) fb) i a from by simp only [nxF, if_pos c2, if_pos c3, if_pos c4])]; exact e9) q90)
        · obtain ⟨hae, ha2⟩ := ha.resolve_left c4
          refine Eq.mp (congrArg (fun x9 => WG _ _ _ _ _ _ _ (186, [(5, vI (nI i)), (4, vI x9), (3, vI (nI b)), (0, vR (some m)), (1, vI (nI p)), (2, vI y)], [], σ, cs, sl)) (Eq.symm hae : nI a.toNatClampNeg = a)) ?_
          show WG _ _ _ _ _ _ _ (186, [(5, vI (nI i)), (4, vI (nI a.toNatClampNeg)), (3, vI (nI b)), (0, vR (some m)), (1, vI (nI p)), (2, vI y)], [], σ, cs, sl)
          refine w_run 1 (S' := (187, [(5, vI (nI i)), (4, vI (nI a.toNatClampNeg)), (3, vI (nI b)), (0, vR (some m)), (1, vI (nI p)), (2, vI y)], [vR (some m)], σ, cs, sl)) rfl ?_
          refine w_get (k := 50) (vR (σ.2.1 501867 m 0)) rfl rfl rfl hM.1 rfl rfl ?_
          refine w_run 1 (S' := (192, [(5, vI (nI i)), (4, vI (nI a.toNatClampNeg)), (3, vI (nI b)), (0, vR (some m)), (1, vI (nI p)), (2, vI y)], [vI (nI i), vR (σ.2.1 501867 m 0)], σ, cs, sl)) rfl ?_
          refine w_iald (k := 67) rfl ((hM.2 16 (by decide)).1) ((hM.2 16 (by decide)).2) rfl (show vp_in (nI i) 256 from vp_in_nI (n := i) (by omega) (by decide)) ?_
          show WG _ _ _ _ _ _ _ (193, [(5, vI (nI i)), (4, vI (nI a.toNatClampNeg)), (3, vI (nI b)), (0, vR (some m)), (1, vI (nI p)), (2, vI y)], [vI (σ.1 670000 (A 16) (nI i).toNatClampNeg)], σ, cs, sl)
          rw [show (nI i : Int32).toNatClampNeg = i from nI_clamp (n := i) (by omega)]
          show WG _ _ _ _ _ _ _ (193, [(5, vI (nI i)), (4, vI (nI a.toNatClampNeg)), (3, vI (nI b)), (0, vR (some m)), (1, vI (nI p)), (2, vI y)], [vI (σ.1 670000 (A 16) i)], σ, cs, sl)
          refine w_run 1 (S' := (194, [(5, vI (nI i)), (4, vI (nI a.toNatClampNeg)), (3, vI (nI b)), (0, vR (some m)), (1, vI (nI p)), (2, vI y)], [vR (some m), vI (σ.1 670000 (A 16) i)], σ, cs, sl)) rfl ?_
          refine w_get (k := 50) (vR (σ.2.1 501867 m 0)) rfl rfl rfl hM.1 rfl rfl ?_
          refine w_run 1 (S' := (199, [(5, vI (nI i)), (4, vI (nI a.toNatClampNeg)), (3, vI (nI b)), (0, vR (some m)), (1, vI (nI p)), (2, vI y)], [vI (nI a.toNatClampNeg), vR (σ.2.1 501867 m 0), vI (σ.1 670000 (A 16) i)], σ, cs, sl)) rfl ?_
          refine w_iald (k := 67) rfl ((hM.2 16 (by decide)).1) ((hM.2 16 (by decide)).2) rfl (show vp_in (nI a.toNatClampNeg) 256 from vp_in_nI (n := a.toNatClampNeg) (by omega) (by decide)) ?_
          show WG _ _ _ _ _ _ _ (200, [(5, vI (nI i)), (4, vI (nI a.toNatClampNeg)), (3, vI (nI b)), (0, vR (some m)), (1, vI (nI p)), (2, vI y)], [vI (σ.1 670000 (A 16) (nI a.toNatClampNeg).toNatClampNeg), vI (σ.1 670000 (A 16) i)], σ, cs, sl)
          rw [show (nI a.toNatClampNeg : Int32).toNatClampNeg = a.toNatClampNeg from nI_clamp (n := a.toNatClampNeg) (by omega)]
          show WG _ _ _ _ _ _ _ (200, [(5, vI (nI i)), (4, vI (nI a.toNatClampNeg)), (3, vI (nI b)), (0, vR (some m)), (1, vI (nI p)), (2, vI y)], [vI (σ.1 670000 (A 16) a.toNatClampNeg), vI (σ.1 670000 (A 16) i)], σ, cs, sl)
          refine w_ic_ge rfl (fun c5 => ?_) (fun c5 => ?_)
          · refine w_run 2 (S' := (142, [(5, vI ((nI i) + 1)), (4, vI (nI a.toNatClampNeg)), (3, vI (nI b)), (0, vR (some m)), (1, vI (nI p)), (2, vI y)], [], σ, cs, sl)) rfl ?_
            rw [show ((nI i) + 1 : Int32) = nI (i + 1) from by simp only [nl0, nl1, nl2, nl3, nl4, nl5, nl6, nl8, nl9, nl10, nl12, nl15, nl16, nl20, nl24, nl32, nl40, nl64, nl65, nl384, pk_mul, nI_add]]
            show WG _ _ _ _ _ _ _ (142, [(5, vI (nI (i + 1))), (4, vI (nI a.toNatClampNeg)), (3, vI (nI b)), (0, vR (some m)), (1, vI (nI p)), (2, vI y)], [], σ, cs, sl)
            exact ih (i + 1) (by omega) (nI a.toNatClampNeg) (hae ▸ ha) (fun a' e9 q90 => K a' (by rw [itF_succ, ← (show ((nI a.toNatClampNeg) : Int32) = (nxF (σ.1 610000 (A 10)) (σ.1 650000 (A 14)) (σ.1 670000 (A 16)) fb) i a from by rw [← hae]; simp only [nxF, if_pos c2, if_pos c3, if_neg c4, if_neg (Int32.not_lt.mpr c5)])]; exact e9) q90)
          · refine w_run 4 (S' := (142, [(5, vI ((nI i) + 1)), (4, vI (nI i)), (3, vI (nI b)), (0, vR (some m)), (1, vI (nI p)), (2, vI y)], [], σ, cs, sl)) rfl ?_
            rw [show ((nI i) + 1 : Int32) = nI (i + 1) from by simp only [nl0, nl1, nl2, nl3, nl4, nl5, nl6, nl8, nl9, nl10, nl12, nl15, nl16, nl20, nl24, nl32, nl40, nl64, nl65, nl384, pk_mul, nI_add]]
            show WG _ _ _ _ _ _ _ (142, [(5, vI (nI (i + 1))), (4, vI (nI i)), (3, vI (nI b)), (0, vR (some m)), (1, vI (nI p)), (2, vI y)], [], σ, cs, sl)
            exact ih (i + 1) (by omega) (nI i) (Or.inr ⟨by rw [nI_clamp (by omega)], by rw [nI_clamp (by omega)]; omega⟩) (fun a' e9 q90 => K a' (by rw [itF_succ, ← (show ((nI i) : Int32) = (nxF (σ.1 610000 (A 10)) (σ.1 650000 (A 14)) (σ.1 670000 (A 16)) fb) i a from by simp only [nxF, if_pos c2, if_pos c3, if_neg c4, if_pos (Int32.not_le.mp c5)])]; exact e9) q90)
theorem nx_rng {sta fn tn : Nat → Int32} {fb : Int32} {p : Nat} (hp : p < 4) (h : ¬ itF (nxF sta fn tn fb) 64 (64 * p) (-1) < 0) : itF (nxF sta fn tn fb) 64 (64 * p) (-1) = nI (itF (nxF sta fn tn fb) 64 (64 * p) (-1)).toNatClampNeg ∧ 64 * p ≤ (itF (nxF sta fn tn fb) 64 (64 * p) (-1)).toNatClampNeg ∧ (itF (nxF sta fn tn fb) 64 (64 * p) (-1)).toNatClampNeg < 64 * p + 64 ∧ sta (itF (nxF sta fn tn fb) 64 (64 * p) (-1)).toNatClampNeg = 1 := by
  have key := itF_ind (f := nxF sta fn tn fb) (fun _ v => v = -1 ∨ ∃ b, 64 * p ≤ b ∧ b < 64 * p + 64 ∧ v = nI b ∧ sta b = 1) 64 (64 * p) (-1) (Or.inl rfl) (fun j v j1 j2 hv => by
    unfold nxF
    split
    · rename_i z
      split
      · split
        · exact Or.inr ⟨j, j1, j2, rfl, z⟩
        · split
          · exact Or.inr ⟨j, j1, j2, rfl, z⟩
          · exact hv
      · exact hv
    · exact hv)
  rcases key with e | ⟨b, b1, b2, e, z⟩
  · rw [e] at h; exact absurd (by decide) h
  · rw [e, nI_clamp (by omega)]
    exact ⟨rfl, b1, b2, z⟩
theorem mfr_1 {σ : Sg} {m : Nat} {A : Nat → Nat} {p W : Nat} {x : Int32} (h : ¬ itF (tknF (σ.1 610000 (A 10)) (σ.1 620000 (A 11)) x) 64 (64 * p) (-1) ≥ 0) : mfrF σ m A p W x = (0, sI σ 500000 m 0 0) := if_pos (Int32.not_le.mp h)
theorem mfr_2 {σ : Sg} {m : Nat} {A : Nat → Nat} {p W it : Nat} {x : Int32} (h : itF (tknF (σ.1 610000 (A 10)) (σ.1 620000 (A 11)) x) 64 (64 * p) (-1) ≥ 0) (hi : it ≤ 4) (hit : σ.1 680000 (A 17) (itF (tknF (σ.1 610000 (A 10)) (σ.1 620000 (A 11)) x) 64 (64 * p) (-1)).toNatClampNeg = nI it) (h2 : σ.1 640000 (A 13) (itF (tknF (σ.1 610000 (A 10)) (σ.1 620000 (A 11)) x) 64 (64 * p) (-1)).toNatClampNeg = 0) : mfrF σ m A p W x = (1, itF (mlF A p (itF (tknF (σ.1 610000 (A 10)) (σ.1 620000 (A 11)) x) 64 (64 * p) (-1)).toNatClampNeg) it 0 (sI (sI σ 500000 m 0 0) 610000 (A 10) (itF (tknF (σ.1 610000 (A 10)) (σ.1 620000 (A 11)) x) 64 (64 * p) (-1)).toNatClampNeg 0)) := by
  unfold mfrF
  rw [if_neg (show ¬ mfB σ A p x < 0 from Int32.not_lt.mpr h), if_pos (show σ.1 640000 (A 13) (mfB σ A p x).toNatClampNeg = 0 from h2), show (σ.1 680000 (A 17) (mfB σ A p x).toNatClampNeg).toNatClampNeg = it from (congrArg Int32.toNatClampNeg hit).trans (nI_clamp (by omega))]
  rfl
theorem mfr_3 {σ : Sg} {m : Nat} {A : Nat → Nat} {p W it : Nat} {x : Int32} (h : itF (tknF (σ.1 610000 (A 10)) (σ.1 620000 (A 11)) x) 64 (64 * p) (-1) ≥ 0) (hi : it ≤ 4) (hit : σ.1 680000 (A 17) (itF (tknF (σ.1 610000 (A 10)) (σ.1 620000 (A 11)) x) 64 (64 * p) (-1)).toNatClampNeg = nI it) (h2 : ¬ σ.1 640000 (A 13) (itF (tknF (σ.1 610000 (A 10)) (σ.1 620000 (A 11)) x) 64 (64 * p) (-1)).toNatClampNeg = 0) : mfrF σ m A p W x = mfrG (itF (mlF A p (itF (tknF (σ.1 610000 (A 10)) (σ.1 620000 (A 11)) x) 64 (64 * p) (-1)).toNatClampNeg) it 0 (sI (sI σ 500000 m 0 0) 610000 (A 10) (itF (tknF (σ.1 610000 (A 10)) (σ.1 620000 (A 11)) x) 64 (64 * p) (-1)).toNatClampNeg 0)) A p (itF (tknF (σ.1 610000 (A 10)) (σ.1 620000 (A 11)) x) 64 (64 * p) (-1)).toNatClampNeg W := by
  unfold mfrF
  rw [if_neg (show ¬ mfB σ A p x < 0 from Int32.not_lt.mpr h), if_neg (show ¬ σ.1 640000 (A 13) (mfB σ A p x).toNatClampNeg = 0 from h2), show (σ.1 680000 (A 17) (mfB σ A p x).toNatClampNeg).toNatClampNeg = it from (congrArg Int32.toNatClampNeg hit).trans (nI_clamp (by omega))]
  rfl
theorem mfr_4 {s : Sg} {A : Nat → Nat} {p b W : Nat} {a : Int32} (ea : a = itF (nxF (s.1 610000 (A 10)) (s.1 650000 (A 14)) (s.1 670000 (A 16)) (s.1 650000 (A 14) b)) 64 (64 * p) (-1)) (h : ¬ a ≥ 0) : mfrG s A p b W = (1, s) := by
  subst ea; exact if_pos (Int32.not_le.mp h)
theorem mfr_5 {s : Sg} {A : Nat → Nat} {p b W : Nat} {a : Int32} (ea : a = itF (nxF (s.1 610000 (A 10)) (s.1 650000 (A 14)) (s.1 670000 (A 16)) (s.1 650000 (A 14) b)) 64 (64 * p) (-1)) (h : a ≥ 0) (h2 : a = nI a.toNatClampNeg) (h3 : ¬ s.1 650000 (A 14) a.toNatClampNeg < 0) : mfrG s A p b W = (1, cmS (sI s 610000 (A 10) a.toNatClampNeg 2) A p W 2 (nI a.toNatClampNeg) (s.1 650000 (A 14) a.toNatClampNeg - s.1 650000 (A 14) a.toNatClampNeg / 10 * 10) (s.1 660000 (A 15) a.toNatClampNeg) 0) := by
  rw [rem10 h3, ← h2]
  subst ea; exact if_neg (Int32.not_lt.mpr h)
set_option maxRecDepth 20000 in
set_option maxHeartbeats 4000000 in
theorem c_mo_free1 (l : Launch) (E : FE) (d : Nat) (σ : Sg) (m : Nat) (A : Nat → Nat) (p : Nat) (W : Nat) (y : Int32) (hd : 3 ≤ d) (hM : MO σ m A) (hp : p < 4) (hal : ¬ σ.1 510000 (A 0) p = 0) (hIt : ¬ itF (tknF (σ.1 610000 (A 10)) (σ.1 620000 (A 11)) y) 64 (64 * p) (-1) < 0 → ∃ it, it ≤ 4 ∧ σ.1 680000 (A 17) ((itF (tknF (σ.1 610000 (A 10)) (σ.1 620000 (A 11)) y) 64 (64 * p) (-1)).toNatClampNeg) = nI it) (hW : σ.1 720000 (A 21) p = nI W) (hW6 : W < 64) (hNx : ∀ b, 64 * p ≤ b → b < 64 * p + 64 → σ.1 610000 (A 10) b = 1 → ¬ σ.1 650000 (A 14) b < 0 ∧ (¬ σ.1 660000 (A 15) b < 0 → (σ.1 660000 (A 15) b).toNatClampNeg < 4)) : CT l E d 108 [vR (some m), vI (nI p), vI y] σ 0 0 (fun r σ' => r = some (vI (mfrF σ m A p W y).1) ∧ σ' = (mfrF σ m A p W y).2) (fun _ _ => False) := by
  refine CTo ok_mo_free (by decide +kernel) rfl rfl rfl ?_
  refine w_run 2 (S' := (2, [(0, vR (some m)), (1, vI (nI p)), (2, vI y)], [vI (nI p), vR (some m)], σ, 0, 0)) rfl ?_
  refine w_callV (st := []) [vI (nI p)] rfl ml_10_123 rfl rfl hM.1 rfl rfl rfl (by simp only [RM]; omega) (by simp only [RM]; show 8 + (2 + 11) + _ ≤ _; omega) rfl (by simp only [RM]; omega) (by simp only [RM]; omega) (c_mo_absent0 l E (d - 1) σ m A p hM hp hal) (fun _ _ h => h.elim) ?_
  intro r9 s9 q9
  rw [q9.1, q9.2]
  clear q9 r9 s9
  show WG _ _ _ _ _ _ _ (5, [(0, vR (some m)), (1, vI (nI p)), (2, vI y)], [vI 0], sI σ 500000 m 0 0, 0, 0)
  refine w_if_eq rfl (fun c1 => ?_) (fun c1 => (absurd ((nI_eq (a := 0) (b := 0) (by omega) (by omega)).mpr (by omega)) c1))
  have nc1 := (nI_eq (a := 0) (b := 0) (by omega) (by omega)).mp c1
  refine w_run 3 (S' := (13, [(0, vR (some m)), (1, vI (nI p)), (2, vI y)], [vI y, vI (nI p), vR (some m)], sI σ 500000 m 0 0, 0, 0)) rfl ?_
  refine w_callV (st := []) [vI (nI p), vI y] rfl ml_10_198 rfl rfl hM.1 rfl rfl rfl (by simp only [RM]; omega) (by simp only [RM]; show 8 + (5 + 11) + _ ≤ _; omega) rfl (by simp only [RM]; omega) (by simp only [RM]; omega) (c_mo_taken l E (d - 1) (sI σ 500000 m 0 0) m A p y hM hp) (fun _ _ h => h.elim) ?_
  intro r9 s9 q9
  rw [q9.1, q9.2]
  clear q9 r9 s9
  show WG _ _ _ _ _ _ _ (16, [(0, vR (some m)), (1, vI (nI p)), (2, vI y)], [vI (itF (tknF (σ.1 610000 (A 10)) (σ.1 620000 (A 11)) y) 64 (64 * p) (-1))], sI σ 500000 m 0 0, 0, 0)
  refine w_run 2 (S' := (18, [(3, vI (itF (tknF (σ.1 610000 (A 10)) (σ.1 620000 (A 11)) y) 64 (64 * p) (-1))), (0, vR (some m)), (1, vI (nI p)), (2, vI y)], [vI (itF (tknF (σ.1 610000 (A 10)) (σ.1 620000 (A 11)) y) 64 (64 * p) (-1))], sI σ 500000 m 0 0, 0, 0)) rfl ?_
  refine w_if_ge rfl (fun c2 => ?_) (fun c2 => ?_)
  · obtain ⟨hbe, hb1, hb2⟩ := tkn_rng hp (Int32.not_lt.mpr c2)
    refine Eq.mp (congrArg (fun x9 => WG _ _ _ _ _ _ _ (23, [(3, vI x9), (0, vR (some m)), (1, vI (nI p)), (2, vI y)], [], sI σ 500000 m 0 0, 0, 0)) (Eq.symm hbe : nI ((itF (tknF (σ.1 610000 (A 10)) (σ.1 620000 (A 11)) y) 64 (64 * p) (-1)).toNatClampNeg) = itF (tknF (σ.1 610000 (A 10)) (σ.1 620000 (A 11)) y) 64 (64 * p) (-1))) ?_
    show WG _ _ _ _ _ _ _ (23, [(3, vI (nI ((itF (tknF (σ.1 610000 (A 10)) (σ.1 620000 (A 11)) y) 64 (64 * p) (-1)).toNatClampNeg))), (0, vR (some m)), (1, vI (nI p)), (2, vI y)], [], sI σ 500000 m 0 0, 0, 0)
    obtain ⟨it, hi4, hit⟩ := hIt (Int32.not_lt.mpr c2)
    refine w_run 1 (S' := (24, [(3, vI (nI ((itF (tknF (σ.1 610000 (A 10)) (σ.1 620000 (A 11)) y) 64 (64 * p) (-1)).toNatClampNeg))), (0, vR (some m)), (1, vI (nI p)), (2, vI y)], [vR (some m)], sI σ 500000 m 0 0, 0, 0)) rfl ?_
    refine w_get (k := 50) (vR (σ.2.1 501261 m 0)) rfl rfl rfl hM.1 rfl rfl ?_
    refine w_run 2 (S' := (29, [(3, vI (nI ((itF (tknF (σ.1 610000 (A 10)) (σ.1 620000 (A 11)) y) 64 (64 * p) (-1)).toNatClampNeg))), (0, vR (some m)), (1, vI (nI p)), (2, vI y)], [vI 0, vI (nI ((itF (tknF (σ.1 610000 (A 10)) (σ.1 620000 (A 11)) y) 64 (64 * p) (-1)).toNatClampNeg)), vR (σ.2.1 501261 m 0)], sI σ 500000 m 0 0, 0, 0)) rfl ?_
    refine w_iast (k := 61) rfl ((hM.2 10 (by decide)).1) ((hM.2 10 (by decide)).2) rfl (show vp_in (nI ((itF (tknF (σ.1 610000 (A 10)) (σ.1 620000 (A 11)) y) 64 (64 * p) (-1)).toNatClampNeg)) 256 from vp_in_nI (n := (itF (tknF (σ.1 610000 (A 10)) (σ.1 620000 (A 11)) y) 64 (64 * p) (-1)).toNatClampNeg) (by omega) (by decide)) ?_
    show WG _ _ _ _ _ _ _ (30, [(3, vI (nI ((itF (tknF (σ.1 610000 (A 10)) (σ.1 620000 (A 11)) y) 64 (64 * p) (-1)).toNatClampNeg))), (0, vR (some m)), (1, vI (nI p)), (2, vI y)], [], sI (sI σ 500000 m 0 0) 610000 (A 10) ((nI ((itF (tknF (σ.1 610000 (A 10)) (σ.1 620000 (A 11)) y) 64 (64 * p) (-1)).toNatClampNeg)).toNatClampNeg) 0, 0, 0)
    rw [show (nI ((itF (tknF (σ.1 610000 (A 10)) (σ.1 620000 (A 11)) y) 64 (64 * p) (-1)).toNatClampNeg) : Int32).toNatClampNeg = (itF (tknF (σ.1 610000 (A 10)) (σ.1 620000 (A 11)) y) 64 (64 * p) (-1)).toNatClampNeg from nI_clamp (n := (itF (tknF (σ.1 610000 (A 10)) (σ.1 620000 (A 11)) y) 64 (64 * p) (-1)).toNatClampNeg) (by omega)]
    refine w_run 2 (S' := (33, [(4, vI 0), (3, vI (nI ((itF (tknF (σ.1 610000 (A 10)) (σ.1 620000 (A 11)) y) 64 (64 * p) (-1)).toNatClampNeg))), (0, vR (some m)), (1, vI (nI p)), (2, vI y)], [], sI (sI σ 500000 m 0 0) 610000 (A 10) ((itF (tknF (σ.1 610000 (A 10)) (σ.1 620000 (A 11)) y) 64 (64 * p) (-1)).toNatClampNeg) 0, 0, 0)) rfl ?_
    refine lk_mo_free1 l E d σ m A p ((itF (tknF (σ.1 610000 (A 10)) (σ.1 620000 (A 11)) y) 64 (64 * p) (-1)).toNatClampNeg) it y (by omega) hp (by omega) hi4 (by omega) (by omega) it 0 (by omega) (sI (sI σ 500000 m 0 0) 610000 (A 10) ((itF (tknF (σ.1 610000 (A 10)) (σ.1 620000 (A 11)) y) 64 (64 * p) (-1)).toNatClampNeg) 0) hM ((rII (by decide)).trans ((rII (by decide)).trans hit)) (fun τ1 e3 hM1 hin1 => ?_)
    have hr1 : ∀ c a x, c ≠ 550000 → c ≠ 610000 → c ≠ 500000 → τ1.1 c a x = σ.1 c a x := fun c a x k1 k2 k3 => by rw [e3, ml_w (m := m) k1, rII k2, rII k3]
    have hr6 : ∀ x, τ1.1 610000 (A 10) x = 1 → σ.1 610000 (A 10) x = 1 := fun x h9 => by rw [e3, ml_w (m := m) (by decide)] at h9; exact (Decidable.em (x = (itF (tknF (σ.1 610000 (A 10)) (σ.1 620000 (A 11)) y) 64 (64 * p) (-1)).toNatClampNeg)).elim (fun z => absurd (((z ▸ rIs : _ = (0 : Int32)).symm.trans h9)) (by decide)) (fun z => by rw [rIx z, rII (by decide)] at h9; exact h9)
    show WG _ _ _ _ _ _ _ (122, [(3, vI (nI ((itF (tknF (σ.1 610000 (A 10)) (σ.1 620000 (A 11)) y) 64 (64 * p) (-1)).toNatClampNeg))), (0, vR (some m)), (1, vI (nI p)), (2, vI y)], [], τ1, 0, 0)
    refine w_run 1 (S' := (123, [(3, vI (nI ((itF (tknF (σ.1 610000 (A 10)) (σ.1 620000 (A 11)) y) 64 (64 * p) (-1)).toNatClampNeg))), (0, vR (some m)), (1, vI (nI p)), (2, vI y)], [vR (some m)], τ1, 0, 0)) rfl ?_
    refine w_get (k := 50) (vR (τ1.2.1 501564 m 0)) rfl rfl rfl hM1.1 rfl rfl ?_
    refine w_run 1 (S' := (127, [(3, vI (nI ((itF (tknF (σ.1 610000 (A 10)) (σ.1 620000 (A 11)) y) 64 (64 * p) (-1)).toNatClampNeg))), (0, vR (some m)), (1, vI (nI p)), (2, vI y)], [vI (nI ((itF (tknF (σ.1 610000 (A 10)) (σ.1 620000 (A 11)) y) 64 (64 * p) (-1)).toNatClampNeg)), vR (τ1.2.1 501564 m 0)], τ1, 0, 0)) rfl ?_
    refine w_zald (k := 64) rfl ((hM1.2 13 (by decide)).1) ((hM1.2 13 (by decide)).2) rfl (show vp_in (nI ((itF (tknF (σ.1 610000 (A 10)) (σ.1 620000 (A 11)) y) 64 (64 * p) (-1)).toNatClampNeg)) 256 from vp_in_nI (n := (itF (tknF (σ.1 610000 (A 10)) (σ.1 620000 (A 11)) y) 64 (64 * p) (-1)).toNatClampNeg) (by omega) (by decide)) ?_
    show WG _ _ _ _ _ _ _ (128, [(3, vI (nI ((itF (tknF (σ.1 610000 (A 10)) (σ.1 620000 (A 11)) y) 64 (64 * p) (-1)).toNatClampNeg))), (0, vR (some m)), (1, vI (nI p)), (2, vI y)], [vI (τ1.1 640000 (A 13) (nI ((itF (tknF (σ.1 610000 (A 10)) (σ.1 620000 (A 11)) y) 64 (64 * p) (-1)).toNatClampNeg)).toNatClampNeg)], τ1, 0, 0)
    rw [show (nI ((itF (tknF (σ.1 610000 (A 10)) (σ.1 620000 (A 11)) y) 64 (64 * p) (-1)).toNatClampNeg) : Int32).toNatClampNeg = (itF (tknF (σ.1 610000 (A 10)) (σ.1 620000 (A 11)) y) 64 (64 * p) (-1)).toNatClampNeg from nI_clamp (n := (itF (tknF (σ.1 610000 (A 10)) (σ.1 620000 (A 11)) y) 64 (64 * p) (-1)).toNatClampNeg) (by omega)]
    show WG _ _ _ _ _ _ _ (128, [(3, vI (nI ((itF (tknF (σ.1 610000 (A 10)) (σ.1 620000 (A 11)) y) 64 (64 * p) (-1)).toNatClampNeg))), (0, vR (some m)), (1, vI (nI p)), (2, vI y)], [vI (τ1.1 640000 (A 13) ((itF (tknF (σ.1 610000 (A 10)) (σ.1 620000 (A 11)) y) 64 (64 * p) (-1)).toNatClampNeg))], τ1, 0, 0)
    refine w_if_ne rfl (fun c4 => ?_) (fun c4 => ?_)
    · refine w_run 6 (S' := (142, [(5, vI (64 * (nI p))), (4, vI (-1)), (3, vI (nI ((itF (tknF (σ.1 610000 (A 10)) (σ.1 620000 (A 11)) y) 64 (64 * p) (-1)).toNatClampNeg))), (0, vR (some m)), (1, vI (nI p)), (2, vI y)], [], τ1, 0, 0)) rfl ?_
      rw [show (64 * (nI p) : Int32) = nI (64 * p) from by simp only [nl0, nl1, nl2, nl3, nl4, nl5, nl6, nl8, nl9, nl10, nl12, nl15, nl16, nl20, nl24, nl32, nl40, nl64, nl65, nl384, pk_mul, nI_add]]
      show WG _ _ _ _ _ _ _ (142, [(5, vI (nI (64 * p))), (4, vI (-1)), (3, vI (nI ((itF (tknF (σ.1 610000 (A 10)) (σ.1 620000 (A 11)) y) 64 (64 * p) (-1)).toNatClampNeg))), (0, vR (some m)), (1, vI (nI p)), (2, vI y)], [], τ1, 0, 0)
      refine lk_mo_free2 l E d τ1 m A p ((itF (tknF (σ.1 610000 (A 10)) (σ.1 620000 (A 11)) y) 64 (64 * p) (-1)).toNatClampNeg) y (τ1.1 650000 (A 14) ((itF (tknF (σ.1 610000 (A 10)) (σ.1 620000 (A 11)) y) 64 (64 * p) (-1)).toNatClampNeg)) hM1 hp (by omega) rfl (by omega) (by omega) 64 (64 * p) (by omega) (-1) (Or.inl (by decide)) (fun a1 e5 ha1 => ?_)
      show WG _ _ _ _ _ _ _ (213, [(4, vI a1), (3, vI (nI ((itF (tknF (σ.1 610000 (A 10)) (σ.1 620000 (A 11)) y) 64 (64 * p) (-1)).toNatClampNeg))), (0, vR (some m)), (1, vI (nI p)), (2, vI y)], [], τ1, 0, 0)
      refine w_run 1 (S' := (215, [(4, vI a1), (3, vI (nI ((itF (tknF (σ.1 610000 (A 10)) (σ.1 620000 (A 11)) y) 64 (64 * p) (-1)).toNatClampNeg))), (0, vR (some m)), (1, vI (nI p)), (2, vI y)], [vI a1], τ1, 0, 0)) rfl ?_
      refine w_if_ge rfl (fun c6 => ?_) (fun c6 => ?_)
      · obtain ⟨hae, hx1, hx2, hx3⟩ := nx_rng hp (e5 ▸ Int32.not_lt.mpr c6)
        rw [← e5] at hae hx1 hx2 hx3
        obtain ⟨hx4, hx5⟩ := hNx _ hx1 hx2 (hr6 _ hx3)
        refine Eq.mp (congrArg (fun x9 => WG _ _ _ _ _ _ _ (220, [(4, vI x9), (3, vI (nI ((itF (tknF (σ.1 610000 (A 10)) (σ.1 620000 (A 11)) y) 64 (64 * p) (-1)).toNatClampNeg))), (0, vR (some m)), (1, vI (nI p)), (2, vI y)], [], τ1, 0, 0)) (Eq.symm hae : nI a1.toNatClampNeg = a1)) ?_
        show WG _ _ _ _ _ _ _ (220, [(4, vI (nI a1.toNatClampNeg)), (3, vI (nI ((itF (tknF (σ.1 610000 (A 10)) (σ.1 620000 (A 11)) y) 64 (64 * p) (-1)).toNatClampNeg))), (0, vR (some m)), (1, vI (nI p)), (2, vI y)], [], τ1, 0, 0)
        refine w_run 1 (S' := (221, [(4, vI (nI a1.toNatClampNeg)), (3, vI (nI ((itF (tknF (σ.1 610000 (A 10)) (σ.1 620000 (A 11)) y) 64 (64 * p) (-1)).toNatClampNeg))), (0, vR (some m)), (1, vI (nI p)), (2, vI y)], [vR (some m)], τ1, 0, 0)) rfl ?_
        refine w_get (k := 50) (vR (τ1.2.1 501261 m 0)) rfl rfl rfl hM1.1 rfl rfl ?_
        refine w_run 2 (S' := (227, [(4, vI (nI a1.toNatClampNeg)), (3, vI (nI ((itF (tknF (σ.1 610000 (A 10)) (σ.1 620000 (A 11)) y) 64 (64 * p) (-1)).toNatClampNeg))), (0, vR (some m)), (1, vI (nI p)), (2, vI y)], [vI 2, vI (nI a1.toNatClampNeg), vR (τ1.2.1 501261 m 0)], τ1, 0, 0)) rfl ?_
        refine w_iast (k := 61) rfl ((hM1.2 10 (by decide)).1) ((hM1.2 10 (by decide)).2) rfl (show vp_in (nI a1.toNatClampNeg) 256 from vp_in_nI (n := a1.toNatClampNeg) (by omega) (by decide)) ?_
        show WG _ _ _ _ _ _ _ (228, [(4, vI (nI a1.toNatClampNeg)), (3, vI (nI ((itF (tknF (σ.1 610000 (A 10)) (σ.1 620000 (A 11)) y) 64 (64 * p) (-1)).toNatClampNeg))), (0, vR (some m)), (1, vI (nI p)), (2, vI y)], [], sI τ1 610000 (A 10) ((nI a1.toNatClampNeg).toNatClampNeg) 2, 0, 0)
        rw [show (nI a1.toNatClampNeg : Int32).toNatClampNeg = a1.toNatClampNeg from nI_clamp (n := a1.toNatClampNeg) (by omega)]
        refine w_run 5 (S' := (234, [(4, vI (nI a1.toNatClampNeg)), (3, vI (nI ((itF (tknF (σ.1 610000 (A 10)) (σ.1 620000 (A 11)) y) 64 (64 * p) (-1)).toNatClampNeg))), (0, vR (some m)), (1, vI (nI p)), (2, vI y)], [vR (some m), vI (nI a1.toNatClampNeg), vI 2, vI (nI p), vR (some m)], sI τ1 610000 (A 10) a1.toNatClampNeg 2, 0, 0)) rfl ?_
        refine w_get (k := 50) (vR (τ1.2.1 501665 m 0)) rfl rfl rfl hM1.1 rfl rfl ?_
        refine w_run 1 (S' := (239, [(4, vI (nI a1.toNatClampNeg)), (3, vI (nI ((itF (tknF (σ.1 610000 (A 10)) (σ.1 620000 (A 11)) y) 64 (64 * p) (-1)).toNatClampNeg))), (0, vR (some m)), (1, vI (nI p)), (2, vI y)], [vI (nI a1.toNatClampNeg), vR (τ1.2.1 501665 m 0), vI (nI a1.toNatClampNeg), vI 2, vI (nI p), vR (some m)], sI τ1 610000 (A 10) a1.toNatClampNeg 2, 0, 0)) rfl ?_
        refine w_iald (k := 65) rfl ((hM1.2 14 (by decide)).1) ((hM1.2 14 (by decide)).2) rfl (show vp_in (nI a1.toNatClampNeg) 256 from vp_in_nI (n := a1.toNatClampNeg) (by omega) (by decide)) ?_
        show WG _ _ _ _ _ _ _ (240, [(4, vI (nI a1.toNatClampNeg)), (3, vI (nI ((itF (tknF (σ.1 610000 (A 10)) (σ.1 620000 (A 11)) y) 64 (64 * p) (-1)).toNatClampNeg))), (0, vR (some m)), (1, vI (nI p)), (2, vI y)], [vI ((sI τ1 610000 (A 10) a1.toNatClampNeg 2).1 650000 (A 14) (nI a1.toNatClampNeg).toNatClampNeg), vI (nI a1.toNatClampNeg), vI 2, vI (nI p), vR (some m)], sI τ1 610000 (A 10) a1.toNatClampNeg 2, 0, 0)
        rw [show (nI a1.toNatClampNeg : Int32).toNatClampNeg = a1.toNatClampNeg from nI_clamp (n := a1.toNatClampNeg) (by omega)]
        show WG _ _ _ _ _ _ _ (240, [(4, vI (nI a1.toNatClampNeg)), (3, vI (nI ((itF (tknF (σ.1 610000 (A 10)) (σ.1 620000 (A 11)) y) 64 (64 * p) (-1)).toNatClampNeg))), (0, vR (some m)), (1, vI (nI p)), (2, vI y)], [vI (τ1.1 650000 (A 14) a1.toNatClampNeg), vI (nI a1.toNatClampNeg), vI 2, vI (nI p), vR (some m)], sI τ1 610000 (A 10) a1.toNatClampNeg 2, 0, 0)
        refine w_run 1 (S' := (242, [(4, vI (nI a1.toNatClampNeg)), (3, vI (nI ((itF (tknF (σ.1 610000 (A 10)) (σ.1 620000 (A 11)) y) 64 (64 * p) (-1)).toNatClampNeg))), (0, vR (some m)), (1, vI (nI p)), (2, vI y)], [vI 10, vI (τ1.1 650000 (A 14) a1.toNatClampNeg), vI (nI a1.toNatClampNeg), vI 2, vI (nI p), vR (some m)], sI τ1 610000 (A 10) a1.toNatClampNeg 2, 0, 0)) rfl ?_
        refine w_irem rfl (by decide) ?_
        refine w_run 1 (S' := (244, [(4, vI (nI a1.toNatClampNeg)), (3, vI (nI ((itF (tknF (σ.1 610000 (A 10)) (σ.1 620000 (A 11)) y) 64 (64 * p) (-1)).toNatClampNeg))), (0, vR (some m)), (1, vI (nI p)), (2, vI y)], [vR (some m), vI ((τ1.1 650000 (A 14) a1.toNatClampNeg) - (τ1.1 650000 (A 14) a1.toNatClampNeg) / 10 * 10), vI (nI a1.toNatClampNeg), vI 2, vI (nI p), vR (some m)], sI τ1 610000 (A 10) a1.toNatClampNeg 2, 0, 0)) rfl ?_
        refine w_get (k := 50) (vR (τ1.2.1 501766 m 0)) rfl rfl rfl hM1.1 rfl rfl ?_
        refine w_run 1 (S' := (249, [(4, vI (nI a1.toNatClampNeg)), (3, vI (nI ((itF (tknF (σ.1 610000 (A 10)) (σ.1 620000 (A 11)) y) 64 (64 * p) (-1)).toNatClampNeg))), (0, vR (some m)), (1, vI (nI p)), (2, vI y)], [vI (nI a1.toNatClampNeg), vR (τ1.2.1 501766 m 0), vI ((τ1.1 650000 (A 14) a1.toNatClampNeg) - (τ1.1 650000 (A 14) a1.toNatClampNeg) / 10 * 10), vI (nI a1.toNatClampNeg), vI 2, vI (nI p), vR (some m)], sI τ1 610000 (A 10) a1.toNatClampNeg 2, 0, 0)) rfl ?_
        refine w_iald (k := 66) rfl ((hM1.2 15 (by decide)).1) ((hM1.2 15 (by decide)).2) rfl (show vp_in (nI a1.toNatClampNeg) 256 from vp_in_nI (n := a1.toNatClampNeg) (by omega) (by decide)) ?_
        show WG _ _ _ _ _ _ _ (250, [(4, vI (nI a1.toNatClampNeg)), (3, vI (nI ((itF (tknF (σ.1 610000 (A 10)) (σ.1 620000 (A 11)) y) 64 (64 * p) (-1)).toNatClampNeg))), (0, vR (some m)), (1, vI (nI p)), (2, vI y)], [vI ((sI τ1 610000 (A 10) a1.toNatClampNeg 2).1 660000 (A 15) (nI a1.toNatClampNeg).toNatClampNeg), vI ((τ1.1 650000 (A 14) a1.toNatClampNeg) - (τ1.1 650000 (A 14) a1.toNatClampNeg) / 10 * 10), vI (nI a1.toNatClampNeg), vI 2, vI (nI p), vR (some m)], sI τ1 610000 (A 10) a1.toNatClampNeg 2, 0, 0)
        rw [show (nI a1.toNatClampNeg : Int32).toNatClampNeg = a1.toNatClampNeg from nI_clamp (n := a1.toNatClampNeg) (by omega)]
        show WG _ _ _ _ _ _ _ (250, [(4, vI (nI a1.toNatClampNeg)), (3, vI (nI ((itF (tknF (σ.1 610000 (A 10)) (σ.1 620000 (A 11)) y) 64 (64 * p) (-1)).toNatClampNeg))), (0, vR (some m)), (1, vI (nI p)), (2, vI y)], [vI (τ1.1 660000 (A 15) a1.toNatClampNeg), vI ((τ1.1 650000 (A 14) a1.toNatClampNeg) - (τ1.1 650000 (A 14) a1.toNatClampNeg) / 10 * 10), vI (nI a1.toNatClampNeg), vI 2, vI (nI p), vR (some m)], sI τ1 610000 (A 10) a1.toNatClampNeg 2, 0, 0)
        refine w_run 1 (S' := (251, [(4, vI (nI a1.toNatClampNeg)), (3, vI (nI ((itF (tknF (σ.1 610000 (A 10)) (σ.1 620000 (A 11)) y) 64 (64 * p) (-1)).toNatClampNeg))), (0, vR (some m)), (1, vI (nI p)), (2, vI y)], [vI 0, vI (τ1.1 660000 (A 15) a1.toNatClampNeg), vI ((τ1.1 650000 (A 14) a1.toNatClampNeg) - (τ1.1 650000 (A 14) a1.toNatClampNeg) / 10 * 10), vI (nI a1.toNatClampNeg), vI 2, vI (nI p), vR (some m)], sI τ1 610000 (A 10) a1.toNatClampNeg 2, 0, 0)) rfl ?_
        refine w_callV (st := []) [vI (nI p), vI 2, vI (nI a1.toNatClampNeg), vI ((τ1.1 650000 (A 14) a1.toNatClampNeg) - (τ1.1 650000 (A 14) a1.toNatClampNeg) / 10 * 10), vI (τ1.1 660000 (A 15) a1.toNatClampNeg), vI 0] rfl ml_10_119 rfl rfl hM1.1 rfl rfl rfl (by simp only [RM]; omega) (by simp only [RM]; show 8 + (8 + 11) + _ ≤ _; omega) rfl (by simp only [RM]; omega) (by simp only [RM]; omega) (c_mo_comes l E (d - 1) (sI τ1 610000 (A 10) a1.toNatClampNeg 2) m A p W 2 (nI a1.toNatClampNeg) (τ1.1 650000 (A 14) a1.toNatClampNeg - τ1.1 650000 (A 14) a1.toNatClampNeg / 10 * 10) (τ1.1 660000 (A 15) a1.toNatClampNeg) 0 hM1 hp ((rII (by decide)).trans ((hr1 _ _ _ (by decide) (by decide) (by decide)).trans hW)) hW6 (by rw [hr1 _ _ _ (by decide) (by decide) (by decide)]; exact hx5)) (fun _ _ h => h.elim) ?_
        intro r9 s9 q9
        rw [q9.1, q9.2]
        clear q9 r9 s9
        show WG _ _ _ _ _ _ _ (254, [(4, vI (nI a1.toNatClampNeg)), (3, vI (nI ((itF (tknF (σ.1 610000 (A 10)) (σ.1 620000 (A 11)) y) 64 (64 * p) (-1)).toNatClampNeg))), (0, vR (some m)), (1, vI (nI p)), (2, vI y)], [], cmS (sI τ1 610000 (A 10) a1.toNatClampNeg 2) A p W 2 (nI a1.toNatClampNeg) (τ1.1 650000 (A 14) a1.toNatClampNeg - τ1.1 650000 (A 14) a1.toNatClampNeg / 10 * 10) (τ1.1 660000 (A 15) a1.toNatClampNeg) 0, 0, 0)
        refine w_run 1 (S' := (255, [(4, vI (nI a1.toNatClampNeg)), (3, vI (nI ((itF (tknF (σ.1 610000 (A 10)) (σ.1 620000 (A 11)) y) 64 (64 * p) (-1)).toNatClampNeg))), (0, vR (some m)), (1, vI (nI p)), (2, vI y)], [vI 1], cmS (sI τ1 610000 (A 10) a1.toNatClampNeg 2) A p W 2 (nI a1.toNatClampNeg) (τ1.1 650000 (A 14) a1.toNatClampNeg - τ1.1 650000 (A 14) a1.toNatClampNeg / 10 * 10) (τ1.1 660000 (A 15) a1.toNatClampNeg) 0, 0, 0)) rfl ?_
        exact w_iret rfl (Or.inr ⟨rfl, Or.inr rfl⟩) (by omega) (by omega) (⟨by rw [mfr_3 c2 hi4 hit (hr1 640000 (A 13) _ (by decide) (by decide) (by decide) ▸ c4), ← e3, mfr_5 e5 c6 hae (by rw [hr1 _ _ _ (by decide) (by decide) (by decide)]; exact hx4)], by rw [mfr_3 c2 hi4 hit (hr1 640000 (A 13) _ (by decide) (by decide) (by decide) ▸ c4), ← e3, mfr_5 e5 c6 hae (by rw [hr1 _ _ _ (by decide) (by decide) (by decide)]; exact hx4)]⟩)
      · refine w_run 1 (S' := (219, [(4, vI a1), (3, vI (nI ((itF (tknF (σ.1 610000 (A 10)) (σ.1 620000 (A 11)) y) 64 (64 * p) (-1)).toNatClampNeg))), (0, vR (some m)), (1, vI (nI p)), (2, vI y)], [vI 1], τ1, 0, 0)) rfl ?_
        exact w_iret rfl (Or.inr ⟨rfl, Or.inr rfl⟩) (by omega) (by omega) (⟨by rw [mfr_3 c2 hi4 hit (hr1 640000 (A 13) _ (by decide) (by decide) (by decide) ▸ c4), ← e3, mfr_4 e5 c6], by rw [mfr_3 c2 hi4 hit (hr1 640000 (A 13) _ (by decide) (by decide) (by decide) ▸ c4), ← e3, mfr_4 e5 c6]⟩)
    · refine w_run 1 (S' := (132, [(3, vI (nI ((itF (tknF (σ.1 610000 (A 10)) (σ.1 620000 (A 11)) y) 64 (64 * p) (-1)).toNatClampNeg))), (0, vR (some m)), (1, vI (nI p)), (2, vI y)], [vI 1], τ1, 0, 0)) rfl ?_
      exact w_iret rfl (Or.inr ⟨rfl, Or.inr rfl⟩) (by omega) (by omega) (⟨by rw [mfr_2 c2 hi4 hit (hr1 640000 (A 13) _ (by decide) (by decide) (by decide) ▸ c4)], by rw [mfr_2 c2 hi4 hit (hr1 640000 (A 13) _ (by decide) (by decide) (by decide) ▸ c4)]; exact e3⟩)
  · refine w_run 1 (S' := (22, [(3, vI (itF (tknF (σ.1 610000 (A 10)) (σ.1 620000 (A 11)) y) 64 (64 * p) (-1))), (0, vR (some m)), (1, vI (nI p)), (2, vI y)], [vI 0], sI σ 500000 m 0 0, 0, 0)) rfl ?_
    exact w_iret rfl (Or.inr ⟨rfl, Or.inl rfl⟩) (by omega) (by omega) (⟨by rw [mfr_1 c2], by rw [mfr_1 c2]⟩)

