/-! the model: handlesMore, isFull, tell -/
def hmO (σ : Sg) (A : Nat → Nat) (q : Nat) (x : Int32) : Int32 := if nI (pOf x) = nI q then (if dedI (σ.1 510000 (A 0)) (σ.1 520000 (A 1)) x = 0 then 1 else 0) else 0
def hmK (σ : Sg) (A : Nat → Nat) (q : Nat) (x : Int32) : Int32 := itF (hfF (σ.1 550000 (A 4)) (σ.1 560000 (A 5)) (σ.1 540000 (A 3)) q x) 15 1 0
set_option maxRecDepth 20000 in
set_option maxHeartbeats 4000000 in
theorem lk_mo_hm2 (l : Launch) (E : FE) (d : Nat) (σ : Sg) (m : Nat) (A : Nat → Nat) (p q j : Nat) (a0 v : Int32) (hd : 3 ≤ d) (hM : MO σ m A) (hp : p < 4) (hj : j < 4) {mc ms cs sl : Nat} {args : Array Value} {XX : State → Prop} {QF : State → List Frame → State → Prop} (hcs : cs ≤ mc) (hsl : sl ≤ ms) : ∀ (k i : Nat), i + k = j → ∀ (a : Int32), (∀ (a' : Int32), a' = itF (frF (itmF σ m A p) v) k i a → WG l E (RM d mc ms) 96 args XX QF (104, [(6, vI a'), (5, vI v), (4, vI (nI j)), (3, vI a0), (0, vR (some m)), (1, vI (nI p)), (2, vI (nI q))], [], σ, cs, sl)) →
    WG l E (RM d mc ms) 96 args XX QF (67, [(7, vI (nI i)), (6, vI a), (5, vI v), (4, vI (nI j)), (3, vI a0), (0, vR (some m)), (1, vI (nI p)), (2, vI (nI q))], [], σ, cs, sl) := by
  intro k
  induction k with
  | zero =>
    intro i hi a K
    refine w_run 2 (S' := (71, [(7, vI (nI i)), (6, vI a), (5, vI v), (4, vI (nI j)), (3, vI a0), (0, vR (some m)), (1, vI (nI p)), (2, vI (nI q))], [vI (nI j), vI (nI i)], σ, cs, sl)) rfl ?_
    refine w_ic_ge rfl (fun c1 => ?_) (fun c1 => (absurd ((nI_leI (a := j) (b := i) (by omega) (by omega)).mpr (by omega)) c1))
    have nc1 := (nI_leI (a := j) (b := i) (by omega) (by omega)).mp c1
    refine w_lsP [1, 2, 3, 4, 5, 6, 7] ?_
    show WG _ _ _ _ _ _ _ (104, [(6, vI a), (5, vI v), (4, vI (nI j)), (3, vI a0), (0, vR (some m)), (1, vI (nI p)), (2, vI (nI q))], [], σ, cs, sl)
    exact K a rfl
  | succ k ih =>
    intro i hi a K
    refine w_run 2 (S' := (71, [(7, vI (nI i)), (6, vI a), (5, vI v), (4, vI (nI j)), (3, vI a0), (0, vR (some m)), (1, vI (nI p)), (2, vI (nI q))], [vI (nI j), vI (nI i)], σ, cs, sl)) rfl ?_
    refine w_ic_ge rfl (fun c1 => (absurd ((nI_leI (a := j) (b := i) (by omega) (by omega)).mp c1) (by omega))) (fun c1 => ?_)
    have nc1 := mt (nI_leI (a := j) (b := i) (by omega) (by omega)).mpr c1
    refine w_run 1 (S' := (76, [(7, vI (nI i)), (6, vI a), (5, vI v), (4, vI (nI j)), (3, vI a0), (0, vR (some m)), (1, vI (nI p)), (2, vI (nI q))], [vI a], σ, cs, sl)) rfl ?_
    refine w_if_eq rfl (fun c2 => ?_) (fun c2 => ?_)
    · refine w_run 4 (S' := (67, [(7, vI ((nI i) + 1)), (6, vI 0), (5, vI v), (4, vI (nI j)), (3, vI a0), (0, vR (some m)), (1, vI (nI p)), (2, vI (nI q))], [], σ, cs, sl)) rfl ?_
      rw [show ((nI i) + 1 : Int32) = nI (i + 1) from by simp only [nl0, nl1, nl2, nl3, nl4, nl5, nl6, nl8, nl9, nl10, nl12, nl15, nl16, nl20, nl24, nl32, nl40, nl64, nl65, nl384, pk_mul, nI_add]]
      show WG _ _ _ _ _ _ _ (67, [(7, vI (nI (i + 1))), (6, vI 0), (5, vI v), (4, vI (nI j)), (3, vI a0), (0, vR (some m)), (1, vI (nI p)), (2, vI (nI q))], [], σ, cs, sl)
      exact ih (i + 1) (by omega) 0 (fun a' e9 => K a' (by rw [itF_succ, ← (show (0 : Int32) = (frF (itmF σ m A p) v) i a from by simp only [frF, if_pos c2])]; exact e9))
    · refine w_run 3 (S' := (83, [(7, vI (nI i)), (6, vI a), (5, vI v), (4, vI (nI j)), (3, vI a0), (0, vR (some m)), (1, vI (nI p)), (2, vI (nI q))], [vI (nI i), vI (nI p), vR (some m)], σ, cs, sl)) rfl ?_
      refine w_callV (st := []) [vI (nI p), vI (nI i)] rfl ml_10_144 rfl rfl hM.1 rfl rfl rfl (by simp only [RM]; omega) (by simp only [RM]; show 8 + (5 + 11) + _ ≤ _; omega) rfl (by simp only [RM]; omega) (by simp only [RM]; omega) (c_mo_itemNode l E (d - 1) σ m A p i 0 hM (by omega) hp (by omega)) (fun _ _ h => h.elim) ?_
      intro r9 s9 q9
      rw [q9.1, q9.2]
      clear q9 r9 s9
      show WG _ _ _ _ _ _ _ (86, [(7, vI (nI i)), (6, vI a), (5, vI v), (4, vI (nI j)), (3, vI a0), (0, vR (some m)), (1, vI (nI p)), (2, vI (nI q))], [vI (itmF σ m A p i)], σ, cs, sl)
      refine w_run 1 (S' := (88, [(7, vI (nI i)), (6, vI a), (5, vI v), (4, vI (nI j)), (3, vI a0), (0, vR (some m)), (1, vI (nI p)), (2, vI (nI q))], [vI v, vI (itmF σ m A p i)], σ, cs, sl)) rfl ?_
      refine w_ic_eq rfl (fun c3 => ?_) (fun c3 => ?_)
      · refine w_run 4 (S' := (67, [(7, vI ((nI i) + 1)), (6, vI 0), (5, vI v), (4, vI (nI j)), (3, vI a0), (0, vR (some m)), (1, vI (nI p)), (2, vI (nI q))], [], σ, cs, sl)) rfl ?_
        rw [show ((nI i) + 1 : Int32) = nI (i + 1) from by simp only [nl0, nl1, nl2, nl3, nl4, nl5, nl6, nl8, nl9, nl10, nl12, nl15, nl16, nl20, nl24, nl32, nl40, nl64, nl65, nl384, pk_mul, nI_add]]
        show WG _ _ _ _ _ _ _ (67, [(7, vI (nI (i + 1))), (6, vI 0), (5, vI v), (4, vI (nI j)), (3, vI a0), (0, vR (some m)), (1, vI (nI p)), (2, vI (nI q))], [], σ, cs, sl)
        exact ih (i + 1) (by omega) 0 (fun a' e9 => K a' (by rw [itF_succ, ← (show (0 : Int32) = (frF (itmF σ m A p) v) i a from by simp only [frF, if_neg c2, if_pos c3])]; exact e9))
      · refine w_run 5 (S' := (67, [(7, vI ((nI i) + 1)), (6, vI 1), (5, vI v), (4, vI (nI j)), (3, vI a0), (0, vR (some m)), (1, vI (nI p)), (2, vI (nI q))], [], σ, cs, sl)) rfl ?_
        rw [show ((nI i) + 1 : Int32) = nI (i + 1) from by simp only [nl0, nl1, nl2, nl3, nl4, nl5, nl6, nl8, nl9, nl10, nl12, nl15, nl16, nl20, nl24, nl32, nl40, nl64, nl65, nl384, pk_mul, nI_add]]
        show WG _ _ _ _ _ _ _ (67, [(7, vI (nI (i + 1))), (6, vI 1), (5, vI v), (4, vI (nI j)), (3, vI a0), (0, vR (some m)), (1, vI (nI p)), (2, vI (nI q))], [], σ, cs, sl)
        exact ih (i + 1) (by omega) 1 (fun a' e9 => K a' (by rw [itF_succ, ← (show (1 : Int32) = (frF (itmF σ m A p) v) i a from by simp only [frF, if_neg c2, if_neg c3])]; exact e9))
theorem hmO_1 {σ : Sg} {A : Nat → Nat} {q : Nat} {x : Int32} (h : nI (pOf x) = nI q) (h2 : dedI (σ.1 510000 (A 0)) (σ.1 520000 (A 1)) x = 0) : ¬ hmO σ A q x = 0 := by unfold hmO; rw [if_pos h, if_pos h2]; decide
theorem hmO_2 {σ : Sg} {A : Nat → Nat} {q : Nat} {x : Int32} (h : ¬ nI (pOf x) = nI q) : hmO σ A q x = 0 := if_neg h
theorem hmO_3 {σ : Sg} {A : Nat → Nat} {q : Nat} {x : Int32} (h : nI (pOf x) = nI q) (h2 : ¬ dedI (σ.1 510000 (A 0)) (σ.1 520000 (A 1)) x = 0) : hmO σ A q x = 0 := (if_pos h).trans (if_neg h2)
theorem hmF_a {ow kn : Int32 → Int32} {jm : Nat → Int32} {k : Nat} {a : Int32} (h : jm k < 0) : a = hmF ow kn jm k a := (if_pos h).symm
theorem hmF_b {ow kn : Int32 → Int32} {jm : Nat → Int32} {k : Nat} {a : Int32} (h : ¬ jm k < 0) (h2 : ¬ ow (jm k) = 0) : a = hmF ow kn jm k a := ((if_neg h).trans (if_neg h2)).symm
theorem hmF_c {ow kn : Int32 → Int32} {jm : Nat → Int32} {k : Nat} {a : Int32} (h : ¬ jm k < 0) (h2 : ow (jm k) = 0) (h3 : kn (jm k) > 0) : a = hmF ow kn jm k a := ((if_neg h).trans ((if_pos h2).trans (if_pos h3))).symm
theorem hmF_d {ow kn : Int32 → Int32} {jm : Nat → Int32} {k : Nat} {a : Int32} (h : ¬ jm k < 0) (h2 : ow (jm k) = 0) (h3 : ¬ kn (jm k) > 0) (h4 : itF (frF jm (jm k)) k 0 1 = 0) : a = hmF ow kn jm k a := ((if_neg h).trans ((if_pos h2).trans ((if_neg h3).trans (if_pos h4)))).symm
theorem hmF_e {ow kn : Int32 → Int32} {jm : Nat → Int32} {k : Nat} {a : Int32} (h : ¬ jm k < 0) (h2 : ow (jm k) = 0) (h3 : ¬ kn (jm k) > 0) (h4 : ¬ itF (frF jm (jm k)) k 0 1 = 0) : a + 1 = hmF ow kn jm k a := ((if_neg h).trans ((if_pos h2).trans ((if_neg h3).trans (if_neg h4)))).symm
theorem i32_10 : ¬ (1 : Int32) = 0 := by decide
theorem i32_00 : (0 : Int32) = 0 := rfl
set_option maxRecDepth 20000 in
set_option maxHeartbeats 4000000 in
theorem lk_mo_hm (l : Launch) (E : FE) (d : Nat) (σ : Sg) (m : Nat) (A : Nat → Nat) (p q n : Nat) (hd : 3 ≤ d) (hM : MO σ m A) (hp : p < 4) (hq : q < 4) (hn : n ≤ 4) (hit : σ.1 570000 (A 6) p = nI n) {mc ms cs sl : Nat} {args : Array Value} {XX : State → Prop} {QF : State → List Frame → State → Prop} (hcs : cs ≤ mc) (hsl : sl ≤ ms) : ∀ (k i : Nat), i + k = n → ∀ (a : Int32), (∀ (a' : Int32), a' = itF (hmF (hmO σ A q) (hmK σ A q) (itmF σ m A p)) k i a → WG l E (RM d mc ms) 96 args XX QF (123, [(3, vI a'), (0, vR (some m)), (1, vI (nI p)), (2, vI (nI q))], [], σ, cs, sl)) →
    WG l E (RM d mc ms) 96 args XX QF (5, [(4, vI (nI i)), (3, vI a), (0, vR (some m)), (1, vI (nI p)), (2, vI (nI q))], [], σ, cs, sl) := by
  intro k
  induction k with
  | zero =>
    intro i hi a K
    refine w_run 2 (S' := (8, [(4, vI (nI i)), (3, vI a), (0, vR (some m)), (1, vI (nI p)), (2, vI (nI q))], [vR (some m), vI (nI i)], σ, cs, sl)) rfl ?_
    refine w_get (k := 50) (vR (σ.2.1 500857 m 0)) rfl rfl rfl hM.1 rfl rfl ?_
    refine w_run 1 (S' := (12, [(4, vI (nI i)), (3, vI a), (0, vR (some m)), (1, vI (nI p)), (2, vI (nI q))], [vI (nI p), vR (σ.2.1 500857 m 0), vI (nI i)], σ, cs, sl)) rfl ?_
    refine w_iald (k := 57) rfl ((hM.2 6 (by decide)).1) ((hM.2 6 (by decide)).2) rfl (show vp_in (nI p) 4 from vp_in_nI (n := p) (by omega) (by decide)) ?_
    show WG _ _ _ _ _ _ _ (13, [(4, vI (nI i)), (3, vI a), (0, vR (some m)), (1, vI (nI p)), (2, vI (nI q))], [vI (σ.1 570000 (A 6) (nI p).toNatClampNeg), vI (nI i)], σ, cs, sl)
    rw [show (nI p : Int32).toNatClampNeg = p from nI_clamp (n := p) (by omega)]
    show WG _ _ _ _ _ _ _ (13, [(4, vI (nI i)), (3, vI a), (0, vR (some m)), (1, vI (nI p)), (2, vI (nI q))], [vI (σ.1 570000 (A 6) p), vI (nI i)], σ, cs, sl)
    refine Eq.mp (congrArg (fun x9 => WG _ _ _ _ _ _ _ (13, [(4, vI (nI i)), (3, vI a), (0, vR (some m)), (1, vI (nI p)), (2, vI (nI q))], [vI x9, vI (nI i)], σ, cs, sl)) (hit.symm : nI n = σ.1 570000 (A 6) p)) ?_
    show WG _ _ _ _ _ _ _ (13, [(4, vI (nI i)), (3, vI a), (0, vR (some m)), (1, vI (nI p)), (2, vI (nI q))], [vI (nI n), vI (nI i)], σ, cs, sl)
    refine w_ic_ge rfl (fun c1 => ?_) (fun c1 => (absurd ((nI_leI (a := n) (b := i) (by omega) (by omega)).mpr (by omega)) c1))
    have nc1 := (nI_leI (a := n) (b := i) (by omega) (by omega)).mp c1
    refine w_lsP [1, 2, 3, 4] ?_
    show WG _ _ _ _ _ _ _ (123, [(3, vI a), (0, vR (some m)), (1, vI (nI p)), (2, vI (nI q))], [], σ, cs, sl)
    exact K a rfl
  | succ k ih =>
    intro i hi a K
    refine w_run 2 (S' := (8, [(4, vI (nI i)), (3, vI a), (0, vR (some m)), (1, vI (nI p)), (2, vI (nI q))], [vR (some m), vI (nI i)], σ, cs, sl)) rfl ?_
    refine w_get (k := 50) (vR (σ.2.1 500857 m 0)) rfl rfl rfl hM.1 rfl rfl ?_
    refine w_run 1 (S' := (12, [(4, vI (nI i)), (3, vI a), (0, vR (some m)), (1, vI (nI p)), (2, vI (nI q))], [vI (nI p), vR (σ.2.1 500857 m 0), vI (nI i)], σ, cs, sl)) rfl ?_
    refine w_iald (k := 57) rfl ((hM.2 6 (by decide)).1) ((hM.2 6 (by decide)).2) rfl (show vp_in (nI p) 4 from vp_in_nI (n := p) (by omega) (by decide)) ?_
    show WG _ _ _ _ _ _ _ (13, [(4, vI (nI i)), (3, vI a), (0, vR (some m)), (1, vI (nI p)), (2, vI (nI q))], [vI (σ.1 570000 (A 6) (nI p).toNatClampNeg), vI (nI i)], σ, cs, sl)
    rw [show (nI p : Int32).toNatClampNeg = p from nI_clamp (n := p) (by omega)]
    show WG _ _ _ _ _ _ _ (13, [(4, vI (nI i)), (3, vI a), (0, vR (some m)), (1, vI (nI p)), (2, vI (nI q))], [vI (σ.1 570000 (A 6) p), vI (nI i)], σ, cs, sl)
    refine Eq.mp (congrArg (fun x9 => WG _ _ _ _ _ _ _ (13, [(4, vI (nI i)), (3, vI a), (0, vR (some m)), (1, vI (nI p)), (2, vI (nI q))], [vI x9, vI (nI i)], σ, cs, sl)) (hit.symm : nI n = σ.1 570000 (A 6) p)) ?_
    show WG _ _ _ _ _ _ _ (13, [(4, vI (nI i)), (3, vI a), (0, vR (some m)), (1, vI (nI p)), (2, vI (nI q))], [vI (nI n), vI (nI i)], σ, cs, sl)
    refine w_ic_ge rfl (fun c1 => (absurd ((nI_leI (a := n) (b := i) (by omega) (by omega)).mp c1) (by omega))) (fun c1 => ?_)
    have nc1 := mt (nI_leI (a := n) (b := i) (by omega) (by omega)).mpr c1
    refine w_run 3 (S' := (20, [(4, vI (nI i)), (3, vI a), (0, vR (some m)), (1, vI (nI p)), (2, vI (nI q))], [vI (nI i), vI (nI p), vR (some m)], σ, cs, sl)) rfl ?_
    refine w_callV (st := []) [vI (nI p), vI (nI i)] rfl ml_10_144 rfl rfl hM.1 rfl rfl rfl (by simp only [RM]; omega) (by simp only [RM]; show 8 + (5 + 11) + _ ≤ _; omega) rfl (by simp only [RM]; omega) (by simp only [RM]; omega) (c_mo_itemNode l E (d - 1) σ m A p i 0 hM (by omega) hp (by omega)) (fun _ _ h => h.elim) ?_
    intro r9 s9 q9
    rw [q9.1, q9.2]
    clear q9 r9 s9
    show WG _ _ _ _ _ _ _ (23, [(4, vI (nI i)), (3, vI a), (0, vR (some m)), (1, vI (nI p)), (2, vI (nI q))], [vI (itmF σ m A p i)], σ, cs, sl)
    refine w_run 2 (S' := (27, [(5, vI (itmF σ m A p i)), (4, vI (nI i)), (3, vI a), (0, vR (some m)), (1, vI (nI p)), (2, vI (nI q))], [vI (itmF σ m A p i)], σ, cs, sl)) rfl ?_
    refine w_if_lt rfl (fun c2 => ?_) (fun c2 => ?_)
    · refine w_run 2 (S' := (5, [(4, vI ((nI i) + 1)), (5, vI (itmF σ m A p i)), (3, vI a), (0, vR (some m)), (1, vI (nI p)), (2, vI (nI q))], [], σ, cs, sl)) rfl ?_
      rw [show ((nI i) + 1 : Int32) = nI (i + 1) from by simp only [nl0, nl1, nl2, nl3, nl4, nl5, nl6, nl8, nl9, nl10, nl12, nl15, nl16, nl20, nl24, nl32, nl40, nl64, nl65, nl384, pk_mul, nI_add]]
      show WG _ _ _ _ _ _ _ (5, [(4, vI (nI (i + 1))), (5, vI (itmF σ m A p i)), (3, vI a), (0, vR (some m)), (1, vI (nI p)), (2, vI (nI q))], [], σ, cs, sl)
      refine w_lsP [0, 2, 3, 4, 5] ?_
      show WG _ _ _ _ _ _ _ (5, [(4, vI (nI (i + 1))), (3, vI a), (0, vR (some m)), (1, vI (nI p)), (2, vI (nI q))], [], σ, cs, sl)
      exact ih (i + 1) (by omega) a (fun a' e9 => K a' (by rw [itF_succ, ← (show (a : Int32) = (hmF (hmO σ A q) (hmK σ A q) (itmF σ m A p)) i a from hmF_a c2)]; exact e9))
    · refine w_run 1 (S' := (32, [(5, vI (itmF σ m A p i)), (4, vI (nI i)), (3, vI a), (0, vR (some m)), (1, vI (nI p)), (2, vI (nI q))], [vI (itmF σ m A p i)], σ, cs, sl)) rfl ?_
      refine w_callS (st := []) [vI (itmF σ m A p i)] rfl ml_10_111 rfl (by simp only [RM]; omega) (by simp only [RM]; show 8 + (1 + 11) + _ ≤ _; omega) rfl (by simp only [RM]; omega) (by simp only [RM]; omega) (c_mo_processOfI l E (d - 1) σ (itmF σ m A p i) c2) (fun _ _ h => h.elim) ?_
      intro r9 s9 q9
      rw [q9.1, q9.2]
      clear q9 r9 s9
      show WG _ _ _ _ _ _ _ (35, [(5, vI (itmF σ m A p i)), (4, vI (nI i)), (3, vI a), (0, vR (some m)), (1, vI (nI p)), (2, vI (nI q))], [vI (nI (pOf (itmF σ m A p i)))], σ, cs, sl)
      refine w_run 1 (S' := (36, [(5, vI (itmF σ m A p i)), (4, vI (nI i)), (3, vI a), (0, vR (some m)), (1, vI (nI p)), (2, vI (nI q))], [vI (nI q), vI (nI (pOf (itmF σ m A p i)))], σ, cs, sl)) rfl ?_
      refine w_ic_ne rfl (fun c3 => ?_) (fun c3 => ?_)
      · refine w_run 3 (S' := (52, [(5, vI (itmF σ m A p i)), (4, vI (nI i)), (3, vI a), (0, vR (some m)), (1, vI (nI p)), (2, vI (nI q))], [vI (itmF σ m A p i), vI (nI q), vR (some m)], σ, cs, sl)) rfl ?_
        refine w_callV (st := []) [vI (nI q), vI (itmF σ m A p i)] rfl ml_10_156 rfl rfl hM.1 rfl rfl rfl (by simp only [RM]; omega) (by simp only [RM]; show 8 + (5 + 11) + _ ≤ _; omega) rfl (by simp only [RM]; omega) (by simp only [RM]; omega) (c_mo_handleFor l E (d - 1) σ m A q 0 (itmF σ m A p i) hM (by omega) hq) (fun _ _ h => h.elim) ?_
        intro r9 s9 q9
        rw [q9.1, q9.2]
        clear q9 r9 s9
        show WG _ _ _ _ _ _ _ (55, [(5, vI (itmF σ m A p i)), (4, vI (nI i)), (3, vI a), (0, vR (some m)), (1, vI (nI p)), (2, vI (nI q))], [vI (hmK σ A q (itmF σ m A p i))], σ, cs, sl)
        refine w_if_le rfl (fun c4 => ?_) (fun c4 => ?_)
        · refine w_run 4 (S' := (67, [(7, vI 0), (6, vI 1), (5, vI (itmF σ m A p i)), (4, vI (nI i)), (3, vI a), (0, vR (some m)), (1, vI (nI p)), (2, vI (nI q))], [], σ, cs, sl)) rfl ?_
          refine lk_mo_hm2 l E d σ m A p q i a (itmF σ m A p i) hd hM hp (by omega) hcs hsl i 0 (by omega) 1 (fun a6 ek5 => ?_)
          show WG _ _ _ _ _ _ _ (104, [(6, vI a6), (5, vI (itmF σ m A p i)), (4, vI (nI i)), (3, vI a), (0, vR (some m)), (1, vI (nI p)), (2, vI (nI q))], [], σ, cs, sl)
          refine w_run 1 (S' := (106, [(6, vI a6), (5, vI (itmF σ m A p i)), (4, vI (nI i)), (3, vI a), (0, vR (some m)), (1, vI (nI p)), (2, vI (nI q))], [vI a6], σ, cs, sl)) rfl ?_
          refine w_if_eq rfl (fun c6 => ?_) (fun c6 => ?_)
          · refine w_run 4 (S' := (5, [(4, vI ((nI i) + 1)), (3, vI a), (6, vI a6), (5, vI (itmF σ m A p i)), (0, vR (some m)), (1, vI (nI p)), (2, vI (nI q))], [], σ, cs, sl)) rfl ?_
            rw [show ((nI i) + 1 : Int32) = nI (i + 1) from by simp only [nl0, nl1, nl2, nl3, nl4, nl5, nl6, nl8, nl9, nl10, nl12, nl15, nl16, nl20, nl24, nl32, nl40, nl64, nl65, nl384, pk_mul, nI_add]]
            show WG _ _ _ _ _ _ _ (5, [(4, vI (nI (i + 1))), (3, vI a), (6, vI a6), (5, vI (itmF σ m A p i)), (0, vR (some m)), (1, vI (nI p)), (2, vI (nI q))], [], σ, cs, sl)
            refine w_lsP [0, 1, 4, 5, 6] ?_
            show WG _ _ _ _ _ _ _ (5, [(4, vI (nI (i + 1))), (3, vI a), (0, vR (some m)), (1, vI (nI p)), (2, vI (nI q))], [], σ, cs, sl)
            exact ih (i + 1) (by omega) a (fun a' e9 => K a' (by rw [itF_succ, ← (show (a : Int32) = (hmF (hmO σ A q) (hmK σ A q) (itmF σ m A p)) i a from hmF_d c2 (hmO_2 c3) (Int32.not_lt.mpr c4) (by rw [← ek5]; exact c6))]; exact e9))
          · refine w_run 7 (S' := (5, [(4, vI ((nI i) + 1)), (3, vI (a + 1)), (6, vI a6), (5, vI (itmF σ m A p i)), (0, vR (some m)), (1, vI (nI p)), (2, vI (nI q))], [], σ, cs, sl)) rfl ?_
            rw [show ((nI i) + 1 : Int32) = nI (i + 1) from by simp only [nl0, nl1, nl2, nl3, nl4, nl5, nl6, nl8, nl9, nl10, nl12, nl15, nl16, nl20, nl24, nl32, nl40, nl64, nl65, nl384, pk_mul, nI_add]]
            show WG _ _ _ _ _ _ _ (5, [(4, vI (nI (i + 1))), (3, vI (a + 1)), (6, vI a6), (5, vI (itmF σ m A p i)), (0, vR (some m)), (1, vI (nI p)), (2, vI (nI q))], [], σ, cs, sl)
            refine w_lsP [0, 1, 4, 5, 6] ?_
            show WG _ _ _ _ _ _ _ (5, [(4, vI (nI (i + 1))), (3, vI (a + 1)), (0, vR (some m)), (1, vI (nI p)), (2, vI (nI q))], [], σ, cs, sl)
            exact ih (i + 1) (by omega) (a + 1) (fun a' e9 => K a' (by rw [itF_succ, ← (show ((a + 1) : Int32) = (hmF (hmO σ A q) (hmK σ A q) (itmF σ m A p)) i a from hmF_e c2 (hmO_2 c3) (Int32.not_lt.mpr c4) (by rw [← ek5]; exact c6))]; exact e9))
        · refine w_run 3 (S' := (5, [(4, vI ((nI i) + 1)), (5, vI (itmF σ m A p i)), (3, vI a), (0, vR (some m)), (1, vI (nI p)), (2, vI (nI q))], [], σ, cs, sl)) rfl ?_
          rw [show ((nI i) + 1 : Int32) = nI (i + 1) from by simp only [nl0, nl1, nl2, nl3, nl4, nl5, nl6, nl8, nl9, nl10, nl12, nl15, nl16, nl20, nl24, nl32, nl40, nl64, nl65, nl384, pk_mul, nI_add]]
          show WG _ _ _ _ _ _ _ (5, [(4, vI (nI (i + 1))), (5, vI (itmF σ m A p i)), (3, vI a), (0, vR (some m)), (1, vI (nI p)), (2, vI (nI q))], [], σ, cs, sl)
          refine w_lsP [0, 2, 3, 4, 5] ?_
          show WG _ _ _ _ _ _ _ (5, [(4, vI (nI (i + 1))), (3, vI a), (0, vR (some m)), (1, vI (nI p)), (2, vI (nI q))], [], σ, cs, sl)
          exact ih (i + 1) (by omega) a (fun a' e9 => K a' (by rw [itF_succ, ← (show (a : Int32) = (hmF (hmO σ A q) (hmK σ A q) (itmF σ m A p)) i a from hmF_c c2 (hmO_2 c3) (Int32.not_le.mp c4))]; exact e9))
      · refine w_run 2 (S' := (42, [(5, vI (itmF σ m A p i)), (4, vI (nI i)), (3, vI a), (0, vR (some m)), (1, vI (nI p)), (2, vI (nI q))], [vI (itmF σ m A p i), vR (some m)], σ, cs, sl)) rfl ?_
        refine w_callV (st := []) [vI (itmF σ m A p i)] rfl ml_10_153 rfl rfl hM.1 rfl rfl rfl (by simp only [RM]; omega) (by simp only [RM]; show 8 + (3 + 11) + _ ≤ _; omega) rfl (by simp only [RM]; omega) (by simp only [RM]; omega) (c_mo_isDeadI l E (d - 1) σ m A (itmF σ m A p i) 0 hM (by omega) c2) (fun _ _ h => h.elim) ?_
        intro r9 s9 q9
        rw [q9.1, q9.2]
        clear q9 r9 s9
        show WG _ _ _ _ _ _ _ (45, [(5, vI (itmF σ m A p i)), (4, vI (nI i)), (3, vI a), (0, vR (some m)), (1, vI (nI p)), (2, vI (nI q))], [vI (dedI (σ.1 510000 (A 0)) (σ.1 520000 (A 1)) (itmF σ m A p i))], σ, cs, sl)
        refine w_if_eq rfl (fun c7 => ?_) (fun c7 => ?_)
        · refine w_run 2 (S' := (5, [(4, vI ((nI i) + 1)), (5, vI (itmF σ m A p i)), (3, vI a), (0, vR (some m)), (1, vI (nI p)), (2, vI (nI q))], [], σ, cs, sl)) rfl ?_
          rw [show ((nI i) + 1 : Int32) = nI (i + 1) from by simp only [nl0, nl1, nl2, nl3, nl4, nl5, nl6, nl8, nl9, nl10, nl12, nl15, nl16, nl20, nl24, nl32, nl40, nl64, nl65, nl384, pk_mul, nI_add]]
          show WG _ _ _ _ _ _ _ (5, [(4, vI (nI (i + 1))), (5, vI (itmF σ m A p i)), (3, vI a), (0, vR (some m)), (1, vI (nI p)), (2, vI (nI q))], [], σ, cs, sl)
          refine w_lsP [0, 2, 3, 4, 5] ?_
          show WG _ _ _ _ _ _ _ (5, [(4, vI (nI (i + 1))), (3, vI a), (0, vR (some m)), (1, vI (nI p)), (2, vI (nI q))], [], σ, cs, sl)
          exact ih (i + 1) (by omega) a (fun a' e9 => K a' (by rw [itF_succ, ← (show (a : Int32) = (hmF (hmO σ A q) (hmK σ A q) (itmF σ m A p)) i a from hmF_b c2 (hmO_1 c3 c7))]; exact e9))
        · refine w_run 3 (S' := (52, [(5, vI (itmF σ m A p i)), (4, vI (nI i)), (3, vI a), (0, vR (some m)), (1, vI (nI p)), (2, vI (nI q))], [vI (itmF σ m A p i), vI (nI q), vR (some m)], σ, cs, sl)) rfl ?_
          refine w_callV (st := []) [vI (nI q), vI (itmF σ m A p i)] rfl ml_10_156 rfl rfl hM.1 rfl rfl rfl (by simp only [RM]; omega) (by simp only [RM]; show 8 + (5 + 11) + _ ≤ _; omega) rfl (by simp only [RM]; omega) (by simp only [RM]; omega) (c_mo_handleFor l E (d - 1) σ m A q 0 (itmF σ m A p i) hM (by omega) hq) (fun _ _ h => h.elim) ?_
          intro r9 s9 q9
          rw [q9.1, q9.2]
          clear q9 r9 s9
          show WG _ _ _ _ _ _ _ (55, [(5, vI (itmF σ m A p i)), (4, vI (nI i)), (3, vI a), (0, vR (some m)), (1, vI (nI p)), (2, vI (nI q))], [vI (hmK σ A q (itmF σ m A p i))], σ, cs, sl)
          refine w_if_le rfl (fun c8 => ?_) (fun c8 => ?_)
          · refine w_run 4 (S' := (67, [(7, vI 0), (6, vI 1), (5, vI (itmF σ m A p i)), (4, vI (nI i)), (3, vI a), (0, vR (some m)), (1, vI (nI p)), (2, vI (nI q))], [], σ, cs, sl)) rfl ?_
            refine lk_mo_hm2 l E d σ m A p q i a (itmF σ m A p i) hd hM hp (by omega) hcs hsl i 0 (by omega) 1 (fun a6 ek9 => ?_)
            show WG _ _ _ _ _ _ _ (104, [(6, vI a6), (5, vI (itmF σ m A p i)), (4, vI (nI i)), (3, vI a), (0, vR (some m)), (1, vI (nI p)), (2, vI (nI q))], [], σ, cs, sl)
            refine w_run 1 (S' := (106, [(6, vI a6), (5, vI (itmF σ m A p i)), (4, vI (nI i)), (3, vI a), (0, vR (some m)), (1, vI (nI p)), (2, vI (nI q))], [vI a6], σ, cs, sl)) rfl ?_
            refine w_if_eq rfl (fun c10 => ?_) (fun c10 => ?_)
            · refine w_run 4 (S' := (5, [(4, vI ((nI i) + 1)), (3, vI a), (6, vI a6), (5, vI (itmF σ m A p i)), (0, vR (some m)), (1, vI (nI p)), (2, vI (nI q))], [], σ, cs, sl)) rfl ?_
              rw [show ((nI i) + 1 : Int32) = nI (i + 1) from by simp only [nl0, nl1, nl2, nl3, nl4, nl5, nl6, nl8, nl9, nl10, nl12, nl15, nl16, nl20, nl24, nl32, nl40, nl64, nl65, nl384, pk_mul, nI_add]]
              show WG _ _ _ _ _ _ _ (5, [(4, vI (nI (i + 1))), (3, vI a), (6, vI a6), (5, vI (itmF σ m A p i)), (0, vR (some m)), (1, vI (nI p)), (2, vI (nI q))], [], σ, cs, sl)
              refine w_lsP [0, 1, 4, 5, 6] ?_
              show WG _ _ _ _ _ _ _ (5, [(4, vI (nI (i + 1))), (3, vI a), (0, vR (some m)), (1, vI (nI p)), (2, vI (nI q))], [], σ, cs, sl)
              exact ih (i + 1) (by omega) a (fun a' e9 => K a' (by rw [itF_succ, ← (show (a : Int32) = (hmF (hmO σ A q) (hmK σ A q) (itmF σ m A p)) i a from hmF_d c2 (hmO_3 c3 c7) (Int32.not_lt.mpr c8) (by rw [← ek9]; exact c10))]; exact e9))
            · refine w_run 7 (S' := (5, [(4, vI ((nI i) + 1)), (3, vI (a + 1)), (6, vI a6), (5, vI (itmF σ m A p i)), (0, vR (some m)), (1, vI (nI p)), (2, vI (nI q))], [], σ, cs, sl)) rfl ?_
              rw [show ((nI i) + 1 : Int32) = nI (i + 1) from by simp only [nl0, nl1, nl2, nl3, nl4, nl5, nl6, nl8, nl9, nl10, nl12, nl15, nl16, nl20, nl24, nl32, nl40, nl64, nl65, nl384, pk_mul, nI_add]]
              show WG _ _ _ _ _ _ _ (5, [(4, vI (nI (i + 1))), (3, vI (a + 1)), (6, vI a6), (5, vI (itmF σ m A p i)), (0, vR (some m)), (1, vI (nI p)), (2, vI (nI q))], [], σ, cs, sl)
              refine w_lsP [0, 1, 4, 5, 6] ?_
              show WG _ _ _ _ _ _ _ (5, [(4, vI (nI (i + 1))), (3, vI (a + 1)), (0, vR (some m)), (1, vI (nI p)), (2, vI (nI q))], [], σ, cs, sl)
              exact ih (i + 1) (by omega) (a + 1) (fun a' e9 => K a' (by rw [itF_succ, ← (show ((a + 1) : Int32) = (hmF (hmO σ A q) (hmK σ A q) (itmF σ m A p)) i a from hmF_e c2 (hmO_3 c3 c7) (Int32.not_lt.mpr c8) (by rw [← ek9]; exact c10))]; exact e9))
          · refine w_run 3 (S' := (5, [(4, vI ((nI i) + 1)), (5, vI (itmF σ m A p i)), (3, vI a), (0, vR (some m)), (1, vI (nI p)), (2, vI (nI q))], [], σ, cs, sl)) rfl ?_
            rw [show ((nI i) + 1 : Int32) = nI (i + 1) from by simp only [nl0, nl1, nl2, nl3, nl4, nl5, nl6, nl8, nl9, nl10, nl12, nl15, nl16, nl20, nl24, nl32, nl40, nl64, nl65, nl384, pk_mul, nI_add]]
            show WG _ _ _ _ _ _ _ (5, [(4, vI (nI (i + 1))), (5, vI (itmF σ m A p i)), (3, vI a), (0, vR (some m)), (1, vI (nI p)), (2, vI (nI q))], [], σ, cs, sl)
            refine w_lsP [0, 2, 3, 4, 5] ?_
            show WG _ _ _ _ _ _ _ (5, [(4, vI (nI (i + 1))), (3, vI a), (0, vR (some m)), (1, vI (nI p)), (2, vI (nI q))], [], σ, cs, sl)
            exact ih (i + 1) (by omega) a (fun a' e9 => K a' (by rw [itF_succ, ← (show (a : Int32) = (hmF (hmO σ A q) (hmK σ A q) (itmF σ m A p)) i a from hmF_c c2 (hmO_3 c3 c7) (Int32.not_le.mp c8))]; exact e9))
set_option maxRecDepth 20000 in
set_option maxHeartbeats 4000000 in
theorem c_mo_handlesMore (l : Launch) (E : FE) (d : Nat) (σ : Sg) (m : Nat) (A : Nat → Nat) (p q n : Nat) (hd : 3 ≤ d) (hM : MO σ m A) (hp : p < 4) (hq : q < 4) (hn : n ≤ 4) (hit : σ.1 570000 (A 6) p = nI n) : CT l E d 96 [vR (some m), vI (nI p), vI (nI q)] σ 0 0 (fun r σ' => r = some (vI (itF (hmF (hmO σ A q) (hmK σ A q) (itmF σ m A p)) n 0 0)) ∧ σ' = σ) (fun _ _ => False) := by
  refine CTo ok_mo_handlesMore (by decide +kernel) rfl rfl rfl ?_
  refine w_run 4 (S' := (5, [(4, vI 0), (3, vI 0), (0, vR (some m)), (1, vI (nI p)), (2, vI (nI q))], [], σ, 0, 0)) rfl ?_
  refine lk_mo_hm l E d σ m A p q n hd hM hp hq hn hit (Nat.le_refl _) (Nat.le_refl _) n 0 (by omega) 0 (fun a ek1 => ?_)
  show WG _ _ _ _ _ _ _ (123, [(3, vI a), (0, vR (some m)), (1, vI (nI p)), (2, vI (nI q))], [], σ, 0, 0)
  refine w_run 1 (S' := (124, [(3, vI a), (0, vR (some m)), (1, vI (nI p)), (2, vI (nI q))], [vI a], σ, 0, 0)) rfl ?_
  exact w_iret rfl (Or.inl rfl) (by omega) (by omega) (⟨by rw [ek1], rfl⟩)

def fl3 (σ : Sg) (m : Nat) (A : Nat → Nat) (p q n : Nat) : Int32 := if itF (hdsF (σ.1 550000 (A 4)) (σ.1 560000 (A 5)) q) 15 1 0 + itF (hmF (hmO σ A q) (hmK σ A q) (itmF σ m A p)) n 0 0 ≤ 15 then 0 else 1
def fl2 (σ : Sg) (m : Nat) (A : Nat → Nat) (p q n z : Nat) (w : Int32) : Int32 := if w = 0 then fl3 σ m A p q n else if itF (celsF (σ.1 610000 (A 10)) (σ.1 630000 (A 12)) (σ.1 640000 (A 13)) 1) 64 (64 * q) 0 + nI (max 1 (n + z)) > 32 then 1 else fl3 σ m A p q n
def fl1 (σ : Sg) (m : Nat) (A : Nat → Nat) (p q n z : Nat) (w t : Int32) : Int32 := if t < 0 then 1 else fl2 σ m A p q n z w
def flF (σ : Sg) (m : Nat) (A : Nat → Nat) (p q n z : Nat) (w y t : Int32) : Int32 := if σ.1 720000 (A 21) q < 12 then fl1 σ m A p q n z w t else if y = 0 then 1 else fl1 σ m A p q n z w t
set_option maxRecDepth 20000 in
set_option maxHeartbeats 4000000 in
theorem c_mo_isFull (l : Launch) (E : FE) (d : Nat) (σ : Sg) (m : Nat) (A : Nat → Nat) (p q n z : Nat) (w y t : Int32) (hd : 4 ≤ d) (hM : MO σ m A) (hp : p < 4) (hq : q < 4) (hn : n ≤ 4) (hit : σ.1 570000 (A 6) p = nI n) (hz : z ≤ 20) (hsz : σ.1 580000 (A 7) p = nI z) (ht : gapF (nxS σ A q) (bhS σ A q) (nI (max 1 (n + z))) 66 0 (-1) 65 = some t) : CT l E d 98 [vR (some m), vI (nI p), vI (nI q), vI w, vI y] σ 0 0 (fun r σ' => r = some (vI (flF σ m A p q n z w y t)) ∧ σ' = σ) (fun _ _ => False) := by
  refine CTo ok_mo_isFull (by decide +kernel) rfl rfl rfl ?_
  refine w_run 1 (S' := (1, [(0, vR (some m)), (1, vI (nI p)), (2, vI (nI q)), (3, vI w), (4, vI y)], [vR (some m)], σ, 0, 0)) rfl ?_
  refine w_get (k := 50) (vR (σ.2.1 500857 m 0)) rfl rfl rfl hM.1 rfl rfl ?_
  refine w_run 1 (S' := (5, [(0, vR (some m)), (1, vI (nI p)), (2, vI (nI q)), (3, vI w), (4, vI y)], [vI (nI p), vR (σ.2.1 500857 m 0)], σ, 0, 0)) rfl ?_
  refine w_iald (k := 57) rfl ((hM.2 6 (by decide)).1) ((hM.2 6 (by decide)).2) rfl (show vp_in (nI p) 4 from vp_in_nI (n := p) (by omega) (by decide)) ?_
  show WG _ _ _ _ _ _ _ (6, [(0, vR (some m)), (1, vI (nI p)), (2, vI (nI q)), (3, vI w), (4, vI y)], [vI (σ.1 570000 (A 6) (nI p).toNatClampNeg)], σ, 0, 0)
  rw [show (nI p : Int32).toNatClampNeg = p from nI_clamp (n := p) (by omega)]
  show WG _ _ _ _ _ _ _ (6, [(0, vR (some m)), (1, vI (nI p)), (2, vI (nI q)), (3, vI w), (4, vI y)], [vI (σ.1 570000 (A 6) p)], σ, 0, 0)
  refine Eq.mp (congrArg (fun x9 => WG _ _ _ _ _ _ _ (6, [(0, vR (some m)), (1, vI (nI p)), (2, vI (nI q)), (3, vI w), (4, vI y)], [vI x9], σ, 0, 0)) (hit.symm : nI n = σ.1 570000 (A 6) p)) ?_
  show WG _ _ _ _ _ _ _ (6, [(0, vR (some m)), (1, vI (nI p)), (2, vI (nI q)), (3, vI w), (4, vI y)], [vI (nI n)], σ, 0, 0)
  refine w_run 1 (S' := (7, [(0, vR (some m)), (1, vI (nI p)), (2, vI (nI q)), (3, vI w), (4, vI y)], [vR (some m), vI (nI n)], σ, 0, 0)) rfl ?_
  refine w_get (k := 50) (vR (σ.2.1 500958 m 0)) rfl rfl rfl hM.1 rfl rfl ?_
  refine w_run 1 (S' := (11, [(0, vR (some m)), (1, vI (nI p)), (2, vI (nI q)), (3, vI w), (4, vI y)], [vI (nI p), vR (σ.2.1 500958 m 0), vI (nI n)], σ, 0, 0)) rfl ?_
  refine w_iald (k := 58) rfl ((hM.2 7 (by decide)).1) ((hM.2 7 (by decide)).2) rfl (show vp_in (nI p) 4 from vp_in_nI (n := p) (by omega) (by decide)) ?_
  show WG _ _ _ _ _ _ _ (12, [(0, vR (some m)), (1, vI (nI p)), (2, vI (nI q)), (3, vI w), (4, vI y)], [vI (σ.1 580000 (A 7) (nI p).toNatClampNeg), vI (nI n)], σ, 0, 0)
  rw [show (nI p : Int32).toNatClampNeg = p from nI_clamp (n := p) (by omega)]
  show WG _ _ _ _ _ _ _ (12, [(0, vR (some m)), (1, vI (nI p)), (2, vI (nI q)), (3, vI w), (4, vI y)], [vI (σ.1 580000 (A 7) p), vI (nI n)], σ, 0, 0)
  refine Eq.mp (congrArg (fun x9 => WG _ _ _ _ _ _ _ (12, [(0, vR (some m)), (1, vI (nI p)), (2, vI (nI q)), (3, vI w), (4, vI y)], [vI x9, vI (nI n)], σ, 0, 0)) (hsz.symm : nI z = σ.1 580000 (A 7) p)) ?_
  show WG _ _ _ _ _ _ _ (12, [(0, vR (some m)), (1, vI (nI p)), (2, vI (nI q)), (3, vI w), (4, vI y)], [vI (nI z), vI (nI n)], σ, 0, 0)
  refine w_run 1 (S' := (13, [(0, vR (some m)), (1, vI (nI p)), (2, vI (nI q)), (3, vI w), (4, vI y)], [vI ((nI n) + (nI z))], σ, 0, 0)) rfl ?_
  rw [show ((nI n) + (nI z) : Int32) = nI (n + z) from by simp only [nl0, nl1, nl2, nl3, nl4, nl5, nl6, nl8, nl9, nl10, nl12, nl15, nl16, nl20, nl24, nl32, nl40, nl64, nl65, nl384, pk_mul, nI_add]]
  show WG _ _ _ _ _ _ _ (13, [(0, vR (some m)), (1, vI (nI p)), (2, vI (nI q)), (3, vI w), (4, vI y)], [vI (nI (n + z))], σ, 0, 0)
  refine w_if_le rfl (fun c1 => ?_) (fun c1 => ?_)
  · have nc1 := (nI_leI (a := n + z) (b := 0) (by omega) (by omega)).mp c1
    refine w_run 1 (S' := (33, [(0, vR (some m)), (1, vI (nI p)), (2, vI (nI q)), (3, vI w), (4, vI y)], [vI 1], σ, 0, 0)) rfl ?_
    rw [show (1 : Int32) = nI (max 1 (n + z)) from (show (1 : Int32) = nI 1 from rfl).trans (congrArg nI (by omega))]
    show WG _ _ _ _ _ _ _ (33, [(0, vR (some m)), (1, vI (nI p)), (2, vI (nI q)), (3, vI w), (4, vI y)], [vI (nI (max 1 (n + z)))], σ, 0, 0)
    refine w_run 2 (S' := (36, [(5, vI (nI (max 1 (n + z)))), (0, vR (some m)), (1, vI (nI p)), (2, vI (nI q)), (3, vI w), (4, vI y)], [vR (some m)], σ, 0, 0)) rfl ?_
    refine w_get (k := 50) (vR (σ.2.1 502472 m 0)) rfl rfl rfl hM.1 rfl rfl ?_
    refine w_run 1 (S' := (40, [(5, vI (nI (max 1 (n + z)))), (0, vR (some m)), (1, vI (nI p)), (2, vI (nI q)), (3, vI w), (4, vI y)], [vI (nI q), vR (σ.2.1 502472 m 0)], σ, 0, 0)) rfl ?_
    refine w_iald (k := 72) rfl ((hM.2 21 (by decide)).1) ((hM.2 21 (by decide)).2) rfl (show vp_in (nI q) 4 from vp_in_nI (n := q) (by omega) (by decide)) ?_
    show WG _ _ _ _ _ _ _ (41, [(5, vI (nI (max 1 (n + z)))), (0, vR (some m)), (1, vI (nI p)), (2, vI (nI q)), (3, vI w), (4, vI y)], [vI (σ.1 720000 (A 21) (nI q).toNatClampNeg)], σ, 0, 0)
    rw [show (nI q : Int32).toNatClampNeg = q from nI_clamp (n := q) (by omega)]
    show WG _ _ _ _ _ _ _ (41, [(5, vI (nI (max 1 (n + z)))), (0, vR (some m)), (1, vI (nI p)), (2, vI (nI q)), (3, vI w), (4, vI y)], [vI (σ.1 720000 (A 21) q)], σ, 0, 0)
    refine w_run 1 (S' := (43, [(5, vI (nI (max 1 (n + z)))), (0, vR (some m)), (1, vI (nI p)), (2, vI (nI q)), (3, vI w), (4, vI y)], [vI 12, vI (σ.1 720000 (A 21) q)], σ, 0, 0)) rfl ?_
    refine w_ic_lt rfl (fun c2 => ?_) (fun c2 => ?_)
    · refine w_run 3 (S' := (55, [(5, vI (nI (max 1 (n + z)))), (0, vR (some m)), (1, vI (nI p)), (2, vI (nI q)), (3, vI w), (4, vI y)], [vI (nI (max 1 (n + z))), vI (nI q), vR (some m)], σ, 0, 0)) rfl ?_
      refine w_callV (st := []) [vI (nI q), vI (nI (max 1 (n + z)))] rfl ml_10_159 rfl rfl hM.1 rfl rfl rfl (by simp only [RM]; omega) (by simp only [RM]; show 8 + (7 + 11) + _ ≤ _; omega) rfl (by simp only [RM]; omega) (by simp only [RM]; omega) (c_mo_gap l E (d - 1) σ m A q (nI (max 1 (n + z))) t (by omega) hM hq ht) (fun _ _ h => h.elim) ?_
      intro r9 s9 q9
      rw [q9.1, q9.2]
      clear q9 r9 s9
      show WG _ _ _ _ _ _ _ (58, [(5, vI (nI (max 1 (n + z)))), (0, vR (some m)), (1, vI (nI p)), (2, vI (nI q)), (3, vI w), (4, vI y)], [vI t], σ, 0, 0)
      refine w_if_lt rfl (fun c3 => ?_) (fun c3 => ?_)
      · refine w_run 2 (S' := (101, [(5, vI (nI (max 1 (n + z)))), (0, vR (some m)), (1, vI (nI p)), (2, vI (nI q)), (3, vI w), (4, vI y)], [vI 1], σ, 0, 0)) rfl ?_
        exact w_iret rfl (Or.inr ⟨rfl, Or.inr rfl⟩) (by omega) (by omega) (⟨by simp only [flF, if_pos c2, fl1, if_pos c3], rfl⟩)
      · refine w_run 1 (S' := (62, [(5, vI (nI (max 1 (n + z)))), (0, vR (some m)), (1, vI (nI p)), (2, vI (nI q)), (3, vI w), (4, vI y)], [vI w], σ, 0, 0)) rfl ?_
        refine w_if_eq rfl (fun c4 => ?_) (fun c4 => ?_)
        · refine w_run 2 (S' := (81, [(5, vI (nI (max 1 (n + z)))), (0, vR (some m)), (1, vI (nI p)), (2, vI (nI q)), (3, vI w), (4, vI y)], [vI (nI q), vR (some m)], σ, 0, 0)) rfl ?_
          refine w_callV (st := []) [vI (nI q)] rfl ml_10_166 rfl rfl hM.1 rfl rfl rfl (by simp only [RM]; omega) (by simp only [RM]; show 8 + (4 + 11) + _ ≤ _; omega) rfl (by simp only [RM]; omega) (by simp only [RM]; omega) (c_mo_handles l E (d - 1) σ m A q 0 hM (by omega) hq) (fun _ _ h => h.elim) ?_
          intro r9 s9 q9
          rw [q9.1, q9.2]
          clear q9 r9 s9
          show WG _ _ _ _ _ _ _ (84, [(5, vI (nI (max 1 (n + z)))), (0, vR (some m)), (1, vI (nI p)), (2, vI (nI q)), (3, vI w), (4, vI y)], [vI (itF (hdsF (σ.1 550000 (A 4)) (σ.1 560000 (A 5)) q) 15 1 0)], σ, 0, 0)
          refine w_run 3 (S' := (87, [(5, vI (nI (max 1 (n + z)))), (0, vR (some m)), (1, vI (nI p)), (2, vI (nI q)), (3, vI w), (4, vI y)], [vI (nI q), vI (nI p), vR (some m), vI (itF (hdsF (σ.1 550000 (A 4)) (σ.1 560000 (A 5)) q) 15 1 0)], σ, 0, 0)) rfl ?_
          refine w_callV (st := [vI (itF (hdsF (σ.1 550000 (A 4)) (σ.1 560000 (A 5)) q) 15 1 0)]) [vI (nI p), vI (nI q)] rfl ml_10_169 rfl rfl hM.1 rfl rfl rfl (by simp only [RM]; omega) (by simp only [RM]; show 8 + (8 + 11) + _ ≤ _; omega) rfl (by simp only [RM]; omega) (by simp only [RM]; omega) (c_mo_handlesMore l E (d - 1) σ m A p q n (by omega) hM hp hq hn hit) (fun _ _ h => h.elim) ?_
          intro r9 s9 q9
          rw [q9.1, q9.2]
          clear q9 r9 s9
          show WG _ _ _ _ _ _ _ (90, [(5, vI (nI (max 1 (n + z)))), (0, vR (some m)), (1, vI (nI p)), (2, vI (nI q)), (3, vI w), (4, vI y)], [vI (itF (hmF (hmO σ A q) (hmK σ A q) (itmF σ m A p)) n 0 0), vI (itF (hdsF (σ.1 550000 (A 4)) (σ.1 560000 (A 5)) q) 15 1 0)], σ, 0, 0)
          refine w_run 2 (S' := (93, [(5, vI (nI (max 1 (n + z)))), (0, vR (some m)), (1, vI (nI p)), (2, vI (nI q)), (3, vI w), (4, vI y)], [vI 15, vI ((itF (hdsF (σ.1 550000 (A 4)) (σ.1 560000 (A 5)) q) 15 1 0) + (itF (hmF (hmO σ A q) (hmK σ A q) (itmF σ m A p)) n 0 0))], σ, 0, 0)) rfl ?_
          refine w_ic_le rfl (fun c5 => ?_) (fun c5 => ?_)
          · refine w_run 1 (S' := (101, [(5, vI (nI (max 1 (n + z)))), (0, vR (some m)), (1, vI (nI p)), (2, vI (nI q)), (3, vI w), (4, vI y)], [vI 0], σ, 0, 0)) rfl ?_
            exact w_iret rfl (Or.inr ⟨rfl, Or.inl rfl⟩) (by omega) (by omega) (⟨by simp only [flF, if_pos c2, fl1, if_neg c3, fl2, if_pos c4, fl3, if_pos c5], rfl⟩)
          · refine w_run 2 (S' := (101, [(5, vI (nI (max 1 (n + z)))), (0, vR (some m)), (1, vI (nI p)), (2, vI (nI q)), (3, vI w), (4, vI y)], [vI 1], σ, 0, 0)) rfl ?_
            exact w_iret rfl (Or.inr ⟨rfl, Or.inr rfl⟩) (by omega) (by omega) (⟨by simp only [flF, if_pos c2, fl1, if_neg c3, fl2, if_pos c4, fl3, if_neg c5], rfl⟩)
        · refine w_run 3 (S' := (68, [(5, vI (nI (max 1 (n + z)))), (0, vR (some m)), (1, vI (nI p)), (2, vI (nI q)), (3, vI w), (4, vI y)], [vI 1, vI (nI q), vR (some m)], σ, 0, 0)) rfl ?_
          refine w_callV (st := []) [vI (nI q), vI 1] rfl ml_10_162 rfl rfl hM.1 rfl rfl rfl (by simp only [RM]; omega) (by simp only [RM]; show 8 + (5 + 11) + _ ≤ _; omega) rfl (by simp only [RM]; omega) (by simp only [RM]; omega) (c_mo_cells l E (d - 1) σ m A q 1 hM hq) (fun _ _ h => h.elim) ?_
          intro r9 s9 q9
          rw [q9.1, q9.2]
          clear q9 r9 s9
          show WG _ _ _ _ _ _ _ (71, [(5, vI (nI (max 1 (n + z)))), (0, vR (some m)), (1, vI (nI p)), (2, vI (nI q)), (3, vI w), (4, vI y)], [vI (itF (celsF (σ.1 610000 (A 10)) (σ.1 630000 (A 12)) (σ.1 640000 (A 13)) 1) 64 (64 * q) 0)], σ, 0, 0)
          refine w_run 3 (S' := (76, [(5, vI (nI (max 1 (n + z)))), (0, vR (some m)), (1, vI (nI p)), (2, vI (nI q)), (3, vI w), (4, vI y)], [vI 32, vI ((itF (celsF (σ.1 610000 (A 10)) (σ.1 630000 (A 12)) (σ.1 640000 (A 13)) 1) 64 (64 * q) 0) + (nI (max 1 (n + z))))], σ, 0, 0)) rfl ?_
          refine w_ic_gt rfl (fun c6 => ?_) (fun c6 => ?_)
          · refine w_run 2 (S' := (101, [(5, vI (nI (max 1 (n + z)))), (0, vR (some m)), (1, vI (nI p)), (2, vI (nI q)), (3, vI w), (4, vI y)], [vI 1], σ, 0, 0)) rfl ?_
            exact w_iret rfl (Or.inr ⟨rfl, Or.inr rfl⟩) (by omega) (by omega) (⟨by simp only [flF, if_pos c2, fl1, if_neg c3, fl2, if_neg c4, if_pos c6], rfl⟩)
          · refine w_run 2 (S' := (81, [(5, vI (nI (max 1 (n + z)))), (0, vR (some m)), (1, vI (nI p)), (2, vI (nI q)), (3, vI w), (4, vI y)], [vI (nI q), vR (some m)], σ, 0, 0)) rfl ?_
            refine w_callV (st := []) [vI (nI q)] rfl ml_10_166 rfl rfl hM.1 rfl rfl rfl (by simp only [RM]; omega) (by simp only [RM]; show 8 + (4 + 11) + _ ≤ _; omega) rfl (by simp only [RM]; omega) (by simp only [RM]; omega) (c_mo_handles l E (d - 1) σ m A q 0 hM (by omega) hq) (fun _ _ h => h.elim) ?_
            intro r9 s9 q9
            rw [q9.1, q9.2]
            clear q9 r9 s9
            show WG _ _ _ _ _ _ _ (84, [(5, vI (nI (max 1 (n + z)))), (0, vR (some m)), (1, vI (nI p)), (2, vI (nI q)), (3, vI w), (4, vI y)], [vI (itF (hdsF (σ.1 550000 (A 4)) (σ.1 560000 (A 5)) q) 15 1 0)], σ, 0, 0)
            refine w_run 3 (S' := (87, [(5, vI (nI (max 1 (n + z)))), (0, vR (some m)), (1, vI (nI p)), (2, vI (nI q)), (3, vI w), (4, vI y)], [vI (nI q), vI (nI p), vR (some m), vI (itF (hdsF (σ.1 550000 (A 4)) (σ.1 560000 (A 5)) q) 15 1 0)], σ, 0, 0)) rfl ?_
            refine w_callV (st := [vI (itF (hdsF (σ.1 550000 (A 4)) (σ.1 560000 (A 5)) q) 15 1 0)]) [vI (nI p), vI (nI q)] rfl ml_10_169 rfl rfl hM.1 rfl rfl rfl (by simp only [RM]; omega) (by simp only [RM]; show 8 + (8 + 11) + _ ≤ _; omega) rfl (by simp only [RM]; omega) (by simp only [RM]; omega) (c_mo_handlesMore l E (d - 1) σ m A p q n (by omega) hM hp hq hn hit) (fun _ _ h => h.elim) ?_
            intro r9 s9 q9
            rw [q9.1, q9.2]
            clear q9 r9 s9
            show WG _ _ _ _ _ _ _ (90, [(5, vI (nI (max 1 (n + z)))), (0, vR (some m)), (1, vI (nI p)), (2, vI (nI q)), (3, vI w), (4, vI y)], [vI (itF (hmF (hmO σ A q) (hmK σ A q) (itmF σ m A p)) n 0 0), vI (itF (hdsF (σ.1 550000 (A 4)) (σ.1 560000 (A 5)) q) 15 1 0)], σ, 0, 0)
            refine w_run 2 (S' := (93, [(5, vI (nI (max 1 (n + z)))), (0, vR (some m)), (1, vI (nI p)), (2, vI (nI q)), (3, vI w), (4, vI y)], [vI 15, vI ((itF (hdsF (σ.1 550000 (A 4)) (σ.1 560000 (A 5)) q) 15 1 0) + (itF (hmF (hmO σ A q) (hmK σ A q) (itmF σ m A p)) n 0 0))], σ, 0, 0)) rfl ?_
            refine w_ic_le rfl (fun c7 => ?_) (fun c7 => ?_)
            · refine w_run 1 (S' := (101, [(5, vI (nI (max 1 (n + z)))), (0, vR (some m)), (1, vI (nI p)), (2, vI (nI q)), (3, vI w), (4, vI y)], [vI 0], σ, 0, 0)) rfl ?_
              exact w_iret rfl (Or.inr ⟨rfl, Or.inl rfl⟩) (by omega) (by omega) (⟨by simp only [flF, if_pos c2, fl1, if_neg c3, fl2, if_neg c4, if_neg c6, fl3, if_pos c7], rfl⟩)
            · refine w_run 2 (S' := (101, [(5, vI (nI (max 1 (n + z)))), (0, vR (some m)), (1, vI (nI p)), (2, vI (nI q)), (3, vI w), (4, vI y)], [vI 1], σ, 0, 0)) rfl ?_
              exact w_iret rfl (Or.inr ⟨rfl, Or.inr rfl⟩) (by omega) (by omega) (⟨by simp only [flF, if_pos c2, fl1, if_neg c3, fl2, if_neg c4, if_neg c6, fl3, if_neg c7], rfl⟩)
    · refine w_run 1 (S' := (48, [(5, vI (nI (max 1 (n + z)))), (0, vR (some m)), (1, vI (nI p)), (2, vI (nI q)), (3, vI w), (4, vI y)], [vI y], σ, 0, 0)) rfl ?_
      refine w_if_eq rfl (fun c8 => ?_) (fun c8 => ?_)
      · refine w_run 2 (S' := (101, [(5, vI (nI (max 1 (n + z)))), (0, vR (some m)), (1, vI (nI p)), (2, vI (nI q)), (3, vI w), (4, vI y)], [vI 1], σ, 0, 0)) rfl ?_
        exact w_iret rfl (Or.inr ⟨rfl, Or.inr rfl⟩) (by omega) (by omega) (⟨by simp only [flF, if_neg c2, if_pos c8], rfl⟩)
      · refine w_run 3 (S' := (55, [(5, vI (nI (max 1 (n + z)))), (0, vR (some m)), (1, vI (nI p)), (2, vI (nI q)), (3, vI w), (4, vI y)], [vI (nI (max 1 (n + z))), vI (nI q), vR (some m)], σ, 0, 0)) rfl ?_
        refine w_callV (st := []) [vI (nI q), vI (nI (max 1 (n + z)))] rfl ml_10_159 rfl rfl hM.1 rfl rfl rfl (by simp only [RM]; omega) (by simp only [RM]; show 8 + (7 + 11) + _ ≤ _; omega) rfl (by simp only [RM]; omega) (by simp only [RM]; omega) (c_mo_gap l E (d - 1) σ m A q (nI (max 1 (n + z))) t (by omega) hM hq ht) (fun _ _ h => h.elim) ?_
        intro r9 s9 q9
        rw [q9.1, q9.2]
        clear q9 r9 s9
        show WG _ _ _ _ _ _ _ (58, [(5, vI (nI (max 1 (n + z)))), (0, vR (some m)), (1, vI (nI p)), (2, vI (nI q)), (3, vI w), (4, vI y)], [vI t], σ, 0, 0)
        refine w_if_lt rfl (fun c9 => ?_) (fun c9 => ?_)
        · refine w_run 2 (S' := (101, [(5, vI (nI (max 1 (n + z)))), (0, vR (some m)), (1, vI (nI p)), (2, vI (nI q)), (3, vI w), (4, vI y)], [vI 1], σ, 0, 0)) rfl ?_
          exact w_iret rfl (Or.inr ⟨rfl, Or.inr rfl⟩) (by omega) (by omega) (⟨by simp only [flF, if_neg c2, if_neg c8, fl1, if_pos c9], rfl⟩)
        · refine w_run 1 (S' := (62, [(5, vI (nI (max 1 (n + z)))), (0, vR (some m)), (1, vI (nI p)), (2, vI (nI q)), (3, vI w), (4, vI y)], [vI w], σ, 0, 0)) rfl ?_
          refine w_if_eq rfl (fun c10 => ?_) (fun c10 => ?_)
          · refine w_run 2 (S' := (81, [(5, vI (nI (max 1 (n + z)))), (0, vR (some m)), (1, vI (nI p)), (2, vI (nI q)), (3, vI w), (4, vI y)], [vI (nI q), vR (some m)], σ, 0, 0)) rfl ?_
            refine w_callV (st := []) [vI (nI q)] rfl ml_10_166 rfl rfl hM.1 rfl rfl rfl (by simp only [RM]; omega) (by simp only [RM]; show 8 + (4 + 11) + _ ≤ _; omega) rfl (by simp only [RM]; omega) (by simp only [RM]; omega) (c_mo_handles l E (d - 1) σ m A q 0 hM (by omega) hq) (fun _ _ h => h.elim) ?_
            intro r9 s9 q9
            rw [q9.1, q9.2]
            clear q9 r9 s9
            show WG _ _ _ _ _ _ _ (84, [(5, vI (nI (max 1 (n + z)))), (0, vR (some m)), (1, vI (nI p)), (2, vI (nI q)), (3, vI w), (4, vI y)], [vI (itF (hdsF (σ.1 550000 (A 4)) (σ.1 560000 (A 5)) q) 15 1 0)], σ, 0, 0)
            refine w_run 3 (S' := (87, [(5, vI (nI (max 1 (n + z)))), (0, vR (some m)), (1, vI (nI p)), (2, vI (nI q)), (3, vI w), (4, vI y)], [vI (nI q), vI (nI p), vR (some m), vI (itF (hdsF (σ.1 550000 (A 4)) (σ.1 560000 (A 5)) q) 15 1 0)], σ, 0, 0)) rfl ?_
            refine w_callV (st := [vI (itF (hdsF (σ.1 550000 (A 4)) (σ.1 560000 (A 5)) q) 15 1 0)]) [vI (nI p), vI (nI q)] rfl ml_10_169 rfl rfl hM.1 rfl rfl rfl (by simp only [RM]; omega) (by simp only [RM]; show 8 + (8 + 11) + _ ≤ _; omega) rfl (by simp only [RM]; omega) (by simp only [RM]; omega) (c_mo_handlesMore l E (d - 1) σ m A p q n (by omega) hM hp hq hn hit) (fun _ _ h => h.elim) ?_
            intro r9 s9 q9
            rw [q9.1, q9.2]
            clear q9 r9 s9
            show WG _ _ _ _ _ _ _ (90, [(5, vI (nI (max 1 (n + z)))), (0, vR (some m)), (1, vI (nI p)), (2, vI (nI q)), (3, vI w), (4, vI y)], [vI (itF (hmF (hmO σ A q) (hmK σ A q) (itmF σ m A p)) n 0 0), vI (itF (hdsF (σ.1 550000 (A 4)) (σ.1 560000 (A 5)) q) 15 1 0)], σ, 0, 0)
            refine w_run 2 (S' := (93, [(5, vI (nI (max 1 (n + z)))), (0, vR (some m)), (1, vI (nI p)), (2, vI (nI q)), (3, vI w), (4, vI y)], [vI 15, vI ((itF (hdsF (σ.1 550000 (A 4)) (σ.1 560000 (A 5)) q) 15 1 0) + (itF (hmF (hmO σ A q) (hmK σ A q) (itmF σ m A p)) n 0 0))], σ, 0, 0)) rfl ?_
            refine w_ic_le rfl (fun c11 => ?_) (fun c11 => ?_)
            · refine w_run 1 (S' := (101, [(5, vI (nI (max 1 (n + z)))), (0, vR (some m)), (1, vI (nI p)), (2, vI (nI q)), (3, vI w), (4, vI y)], [vI 0], σ, 0, 0)) rfl ?_
              exact w_iret rfl (Or.inr ⟨rfl, Or.inl rfl⟩) (by omega) (by omega) (⟨by simp only [flF, if_neg c2, if_neg c8, fl1, if_neg c9, fl2, if_pos c10, fl3, if_pos c11], rfl⟩)
            · refine w_run 2 (S' := (101, [(5, vI (nI (max 1 (n + z)))), (0, vR (some m)), (1, vI (nI p)), (2, vI (nI q)), (3, vI w), (4, vI y)], [vI 1], σ, 0, 0)) rfl ?_
              exact w_iret rfl (Or.inr ⟨rfl, Or.inr rfl⟩) (by omega) (by omega) (⟨by simp only [flF, if_neg c2, if_neg c8, fl1, if_neg c9, fl2, if_pos c10, fl3, if_neg c11], rfl⟩)
          · refine w_run 3 (S' := (68, [(5, vI (nI (max 1 (n + z)))), (0, vR (some m)), (1, vI (nI p)), (2, vI (nI q)), (3, vI w), (4, vI y)], [vI 1, vI (nI q), vR (some m)], σ, 0, 0)) rfl ?_
            refine w_callV (st := []) [vI (nI q), vI 1] rfl ml_10_162 rfl rfl hM.1 rfl rfl rfl (by simp only [RM]; omega) (by simp only [RM]; show 8 + (5 + 11) + _ ≤ _; omega) rfl (by simp only [RM]; omega) (by simp only [RM]; omega) (c_mo_cells l E (d - 1) σ m A q 1 hM hq) (fun _ _ h => h.elim) ?_
            intro r9 s9 q9
            rw [q9.1, q9.2]
            clear q9 r9 s9
            show WG _ _ _ _ _ _ _ (71, [(5, vI (nI (max 1 (n + z)))), (0, vR (some m)), (1, vI (nI p)), (2, vI (nI q)), (3, vI w), (4, vI y)], [vI (itF (celsF (σ.1 610000 (A 10)) (σ.1 630000 (A 12)) (σ.1 640000 (A 13)) 1) 64 (64 * q) 0)], σ, 0, 0)
            refine w_run 3 (S' := (76, [(5, vI (nI (max 1 (n + z)))), (0, vR (some m)), (1, vI (nI p)), (2, vI (nI q)), (3, vI w), (4, vI y)], [vI 32, vI ((itF (celsF (σ.1 610000 (A 10)) (σ.1 630000 (A 12)) (σ.1 640000 (A 13)) 1) 64 (64 * q) 0) + (nI (max 1 (n + z))))], σ, 0, 0)) rfl ?_
            refine w_ic_gt rfl (fun c12 => ?_) (fun c12 => ?_)
            · refine w_run 2 (S' := (101, [(5, vI (nI (max 1 (n + z)))), (0, vR (some m)), (1, vI (nI p)), (2, vI (nI q)), (3, vI w), (4, vI y)], [vI 1], σ, 0, 0)) rfl ?_
              exact w_iret rfl (Or.inr ⟨rfl, Or.inr rfl⟩) (by omega) (by omega) (⟨by simp only [flF, if_neg c2, if_neg c8, fl1, if_neg c9, fl2, if_neg c10, if_pos c12], rfl⟩)
            · refine w_run 2 (S' := (81, [(5, vI (nI (max 1 (n + z)))), (0, vR (some m)), (1, vI (nI p)), (2, vI (nI q)), (3, vI w), (4, vI y)], [vI (nI q), vR (some m)], σ, 0, 0)) rfl ?_
              refine w_callV (st := []) [vI (nI q)] rfl ml_10_166 rfl rfl hM.1 rfl rfl rfl (by simp only [RM]; omega) (by simp only [RM]; show 8 + (4 + 11) + _ ≤ _; omega) rfl (by simp only [RM]; omega) (by simp only [RM]; omega) (c_mo_handles l E (d - 1) σ m A q 0 hM (by omega) hq) (fun _ _ h => h.elim) ?_
              intro r9 s9 q9
              rw [q9.1, q9.2]
              clear q9 r9 s9
              show WG _ _ _ _ _ _ _ (84, [(5, vI (nI (max 1 (n + z)))), (0, vR (some m)), (1, vI (nI p)), (2, vI (nI q)), (3, vI w), (4, vI y)], [vI (itF (hdsF (σ.1 550000 (A 4)) (σ.1 560000 (A 5)) q) 15 1 0)], σ, 0, 0)
              refine w_run 3 (S' := (87, [(5, vI (nI (max 1 (n + z)))), (0, vR (some m)), (1, vI (nI p)), (2, vI (nI q)), (3, vI w), (4, vI y)], [vI (nI q), vI (nI p), vR (some m), vI (itF (hdsF (σ.1 550000 (A 4)) (σ.1 560000 (A 5)) q) 15 1 0)], σ, 0, 0)) rfl ?_
              refine w_callV (st := [vI (itF (hdsF (σ.1 550000 (A 4)) (σ.1 560000 (A 5)) q) 15 1 0)]) [vI (nI p), vI (nI q)] rfl ml_10_169 rfl rfl hM.1 rfl rfl rfl (by simp only [RM]; omega) (by simp only [RM]; show 8 + (8 + 11) + _ ≤ _; omega) rfl (by simp only [RM]; omega) (by simp only [RM]; omega) (c_mo_handlesMore l E (d - 1) σ m A p q n (by omega) hM hp hq hn hit) (fun _ _ h => h.elim) ?_
              intro r9 s9 q9
              rw [q9.1, q9.2]
              clear q9 r9 s9
              show WG _ _ _ _ _ _ _ (90, [(5, vI (nI (max 1 (n + z)))), (0, vR (some m)), (1, vI (nI p)), (2, vI (nI q)), (3, vI w), (4, vI y)], [vI (itF (hmF (hmO σ A q) (hmK σ A q) (itmF σ m A p)) n 0 0), vI (itF (hdsF (σ.1 550000 (A 4)) (σ.1 560000 (A 5)) q) 15 1 0)], σ, 0, 0)
              refine w_run 2 (S' := (93, [(5, vI (nI (max 1 (n + z)))), (0, vR (some m)), (1, vI (nI p)), (2, vI (nI q)), (3, vI w), (4, vI y)], [vI 15, vI ((itF (hdsF (σ.1 550000 (A 4)) (σ.1 560000 (A 5)) q) 15 1 0) + (itF (hmF (hmO σ A q) (hmK σ A q) (itmF σ m A p)) n 0 0))], σ, 0, 0)) rfl ?_
              refine w_ic_le rfl (fun c13 => ?_) (fun c13 => ?_)
              · refine w_run 1 (S' := (101, [(5, vI (nI (max 1 (n + z)))), (0, vR (some m)), (1, vI (nI p)), (2, vI (nI q)), (3, vI w), (4, vI y)], [vI 0], σ, 0, 0)) rfl ?_
                exact w_iret rfl (Or.inr ⟨rfl, Or.inl rfl⟩) (by omega) (by omega) (⟨by simp only [flF, if_neg c2, if_neg c8, fl1, if_neg c9, fl2, if_neg c10, if_neg c12, fl3, if_pos c13], rfl⟩)
              · refine w_run 2 (S' := (101, [(5, vI (nI (max 1 (n + z)))), (0, vR (some m)), (1, vI (nI p)), (2, vI (nI q)), (3, vI w), (4, vI y)], [vI 1], σ, 0, 0)) rfl ?_
                exact w_iret rfl (Or.inr ⟨rfl, Or.inr rfl⟩) (by omega) (by omega) (⟨by simp only [flF, if_neg c2, if_neg c8, fl1, if_neg c9, fl2, if_neg c10, if_neg c12, fl3, if_neg c13], rfl⟩)
  · have nc1 := mt (nI_leI (a := n + z) (b := 0) (by omega) (by omega)).mpr c1
    refine w_run 1 (S' := (17, [(0, vR (some m)), (1, vI (nI p)), (2, vI (nI q)), (3, vI w), (4, vI y)], [vR (some m)], σ, 0, 0)) rfl ?_
    refine w_get (k := 50) (vR (σ.2.1 500857 m 0)) rfl rfl rfl hM.1 rfl rfl ?_
    refine w_run 1 (S' := (21, [(0, vR (some m)), (1, vI (nI p)), (2, vI (nI q)), (3, vI w), (4, vI y)], [vI (nI p), vR (σ.2.1 500857 m 0)], σ, 0, 0)) rfl ?_
    refine w_iald (k := 57) rfl ((hM.2 6 (by decide)).1) ((hM.2 6 (by decide)).2) rfl (show vp_in (nI p) 4 from vp_in_nI (n := p) (by omega) (by decide)) ?_
    show WG _ _ _ _ _ _ _ (22, [(0, vR (some m)), (1, vI (nI p)), (2, vI (nI q)), (3, vI w), (4, vI y)], [vI (σ.1 570000 (A 6) (nI p).toNatClampNeg)], σ, 0, 0)
    rw [show (nI p : Int32).toNatClampNeg = p from nI_clamp (n := p) (by omega)]
    show WG _ _ _ _ _ _ _ (22, [(0, vR (some m)), (1, vI (nI p)), (2, vI (nI q)), (3, vI w), (4, vI y)], [vI (σ.1 570000 (A 6) p)], σ, 0, 0)
    refine Eq.mp (congrArg (fun x9 => WG _ _ _ _ _ _ _ (22, [(0, vR (some m)), (1, vI (nI p)), (2, vI (nI q)), (3, vI w), (4, vI y)], [vI x9], σ, 0, 0)) (hit.symm : nI n = σ.1 570000 (A 6) p)) ?_
    show WG _ _ _ _ _ _ _ (22, [(0, vR (some m)), (1, vI (nI p)), (2, vI (nI q)), (3, vI w), (4, vI y)], [vI (nI n)], σ, 0, 0)
    refine w_run 1 (S' := (23, [(0, vR (some m)), (1, vI (nI p)), (2, vI (nI q)), (3, vI w), (4, vI y)], [vR (some m), vI (nI n)], σ, 0, 0)) rfl ?_
    refine w_get (k := 50) (vR (σ.2.1 500958 m 0)) rfl rfl rfl hM.1 rfl rfl ?_
    refine w_run 1 (S' := (27, [(0, vR (some m)), (1, vI (nI p)), (2, vI (nI q)), (3, vI w), (4, vI y)], [vI (nI p), vR (σ.2.1 500958 m 0), vI (nI n)], σ, 0, 0)) rfl ?_
    refine w_iald (k := 58) rfl ((hM.2 7 (by decide)).1) ((hM.2 7 (by decide)).2) rfl (show vp_in (nI p) 4 from vp_in_nI (n := p) (by omega) (by decide)) ?_
    show WG _ _ _ _ _ _ _ (28, [(0, vR (some m)), (1, vI (nI p)), (2, vI (nI q)), (3, vI w), (4, vI y)], [vI (σ.1 580000 (A 7) (nI p).toNatClampNeg), vI (nI n)], σ, 0, 0)
    rw [show (nI p : Int32).toNatClampNeg = p from nI_clamp (n := p) (by omega)]
    show WG _ _ _ _ _ _ _ (28, [(0, vR (some m)), (1, vI (nI p)), (2, vI (nI q)), (3, vI w), (4, vI y)], [vI (σ.1 580000 (A 7) p), vI (nI n)], σ, 0, 0)
    refine Eq.mp (congrArg (fun x9 => WG _ _ _ _ _ _ _ (28, [(0, vR (some m)), (1, vI (nI p)), (2, vI (nI q)), (3, vI w), (4, vI y)], [vI x9, vI (nI n)], σ, 0, 0)) (hsz.symm : nI z = σ.1 580000 (A 7) p)) ?_
    show WG _ _ _ _ _ _ _ (28, [(0, vR (some m)), (1, vI (nI p)), (2, vI (nI q)), (3, vI w), (4, vI y)], [vI (nI z), vI (nI n)], σ, 0, 0)
    refine w_run 2 (S' := (33, [(0, vR (some m)), (1, vI (nI p)), (2, vI (nI q)), (3, vI w), (4, vI y)], [vI ((nI n) + (nI z))], σ, 0, 0)) rfl ?_
    rw [show ((nI n) + (nI z) : Int32) = nI (n + z) from by simp only [nl0, nl1, nl2, nl3, nl4, nl5, nl6, nl8, nl9, nl10, nl12, nl15, nl16, nl20, nl24, nl32, nl40, nl64, nl65, nl384, pk_mul, nI_add]]
    show WG _ _ _ _ _ _ _ (33, [(0, vR (some m)), (1, vI (nI p)), (2, vI (nI q)), (3, vI w), (4, vI y)], [vI (nI (n + z))], σ, 0, 0)
    rw [show nI (n + z) = nI (max 1 (n + z)) from congrArg nI (by omega)]
    show WG _ _ _ _ _ _ _ (33, [(0, vR (some m)), (1, vI (nI p)), (2, vI (nI q)), (3, vI w), (4, vI y)], [vI (nI (max 1 (n + z)))], σ, 0, 0)
    refine w_run 2 (S' := (36, [(5, vI (nI (max 1 (n + z)))), (0, vR (some m)), (1, vI (nI p)), (2, vI (nI q)), (3, vI w), (4, vI y)], [vR (some m)], σ, 0, 0)) rfl ?_
    refine w_get (k := 50) (vR (σ.2.1 502472 m 0)) rfl rfl rfl hM.1 rfl rfl ?_
    refine w_run 1 (S' := (40, [(5, vI (nI (max 1 (n + z)))), (0, vR (some m)), (1, vI (nI p)), (2, vI (nI q)), (3, vI w), (4, vI y)], [vI (nI q), vR (σ.2.1 502472 m 0)], σ, 0, 0)) rfl ?_
    refine w_iald (k := 72) rfl ((hM.2 21 (by decide)).1) ((hM.2 21 (by decide)).2) rfl (show vp_in (nI q) 4 from vp_in_nI (n := q) (by omega) (by decide)) ?_
    show WG _ _ _ _ _ _ _ (41, [(5, vI (nI (max 1 (n + z)))), (0, vR (some m)), (1, vI (nI p)), (2, vI (nI q)), (3, vI w), (4, vI y)], [vI (σ.1 720000 (A 21) (nI q).toNatClampNeg)], σ, 0, 0)
    rw [show (nI q : Int32).toNatClampNeg = q from nI_clamp (n := q) (by omega)]
    show WG _ _ _ _ _ _ _ (41, [(5, vI (nI (max 1 (n + z)))), (0, vR (some m)), (1, vI (nI p)), (2, vI (nI q)), (3, vI w), (4, vI y)], [vI (σ.1 720000 (A 21) q)], σ, 0, 0)
    refine w_run 1 (S' := (43, [(5, vI (nI (max 1 (n + z)))), (0, vR (some m)), (1, vI (nI p)), (2, vI (nI q)), (3, vI w), (4, vI y)], [vI 12, vI (σ.1 720000 (A 21) q)], σ, 0, 0)) rfl ?_
    refine w_ic_lt rfl (fun c14 => ?_) (fun c14 => ?_)
    · refine w_run 3 (S' := (55, [(5, vI (nI (max 1 (n + z)))), (0, vR (some m)), (1, vI (nI p)), (2, vI (nI q)), (3, vI w), (4, vI y)], [vI (nI (max 1 (n + z))), vI (nI q), vR (some m)], σ, 0, 0)) rfl ?_
      refine w_callV (st := []) [vI (nI q), vI (nI (max 1 (n + z)))] rfl ml_10_159 rfl rfl hM.1 rfl rfl rfl (by simp only [RM]; omega) (by simp only [RM]; show 8 + (7 + 11) + _ ≤ _; omega) rfl (by simp only [RM]; omega) (by simp only [RM]; omega) (c_mo_gap l E (d - 1) σ m A q (nI (max 1 (n + z))) t (by omega) hM hq ht) (fun _ _ h => h.elim) ?_
      intro r9 s9 q9
      rw [q9.1, q9.2]
      clear q9 r9 s9
      show WG _ _ _ _ _ _ _ (58, [(5, vI (nI (max 1 (n + z)))), (0, vR (some m)), (1, vI (nI p)), (2, vI (nI q)), (3, vI w), (4, vI y)], [vI t], σ, 0, 0)
      refine w_if_lt rfl (fun c15 => ?_) (fun c15 => ?_)
      · refine w_run 2 (S' := (101, [(5, vI (nI (max 1 (n + z)))), (0, vR (some m)), (1, vI (nI p)), (2, vI (nI q)), (3, vI w), (4, vI y)], [vI 1], σ, 0, 0)) rfl ?_
        exact w_iret rfl (Or.inr ⟨rfl, Or.inr rfl⟩) (by omega) (by omega) (⟨by simp only [flF, if_pos c14, fl1, if_pos c15], rfl⟩)
      · refine w_run 1 (S' := (62, [(5, vI (nI (max 1 (n + z)))), (0, vR (some m)), (1, vI (nI p)), (2, vI (nI q)), (3, vI w), (4, vI y)], [vI w], σ, 0, 0)) rfl ?_
        refine w_if_eq rfl (fun c16 => ?_) (fun c16 => ?_)
        · refine w_run 2 (S' := (81, [(5, vI (nI (max 1 (n + z)))), (0, vR (some m)), (1, vI (nI p)), (2, vI (nI q)), (3, vI w), (4, vI y)], [vI (nI q), vR (some m)], σ, 0, 0)) rfl ?_
          refine w_callV (st := []) [vI (nI q)] rfl ml_10_166 rfl rfl hM.1 rfl rfl rfl (by simp only [RM]; omega) (by simp only [RM]; show 8 + (4 + 11) + _ ≤ _; omega) rfl (by simp only [RM]; omega) (by simp only [RM]; omega) (c_mo_handles l E (d - 1) σ m A q 0 hM (by omega) hq) (fun _ _ h => h.elim) ?_
          intro r9 s9 q9
          rw [q9.1, q9.2]
          clear q9 r9 s9
          show WG _ _ _ _ _ _ _ (84, [(5, vI (nI (max 1 (n + z)))), (0, vR (some m)), (1, vI (nI p)), (2, vI (nI q)), (3, vI w), (4, vI y)], [vI (itF (hdsF (σ.1 550000 (A 4)) (σ.1 560000 (A 5)) q) 15 1 0)], σ, 0, 0)
          refine w_run 3 (S' := (87, [(5, vI (nI (max 1 (n + z)))), (0, vR (some m)), (1, vI (nI p)), (2, vI (nI q)), (3, vI w), (4, vI y)], [vI (nI q), vI (nI p), vR (some m), vI (itF (hdsF (σ.1 550000 (A 4)) (σ.1 560000 (A 5)) q) 15 1 0)], σ, 0, 0)) rfl ?_
          refine w_callV (st := [vI (itF (hdsF (σ.1 550000 (A 4)) (σ.1 560000 (A 5)) q) 15 1 0)]) [vI (nI p), vI (nI q)] rfl ml_10_169 rfl rfl hM.1 rfl rfl rfl (by simp only [RM]; omega) (by simp only [RM]; show 8 + (8 + 11) + _ ≤ _; omega) rfl (by simp only [RM]; omega) (by simp only [RM]; omega) (c_mo_handlesMore l E (d - 1) σ m A p q n (by omega) hM hp hq hn hit) (fun _ _ h => h.elim) ?_
          intro r9 s9 q9
          rw [q9.1, q9.2]
          clear q9 r9 s9
          show WG _ _ _ _ _ _ _ (90, [(5, vI (nI (max 1 (n + z)))), (0, vR (some m)), (1, vI (nI p)), (2, vI (nI q)), (3, vI w), (4, vI y)], [vI (itF (hmF (hmO σ A q) (hmK σ A q) (itmF σ m A p)) n 0 0), vI (itF (hdsF (σ.1 550000 (A 4)) (σ.1 560000 (A 5)) q) 15 1 0)], σ, 0, 0)
          refine w_run 2 (S' := (93, [(5, vI (nI (max 1 (n + z)))), (0, vR (some m)), (1, vI (nI p)), (2, vI (nI q)), (3, vI w), (4, vI y)], [vI 15, vI ((itF (hdsF (σ.1 550000 (A 4)) (σ.1 560000 (A 5)) q) 15 1 0) + (itF (hmF (hmO σ A q) (hmK σ A q) (itmF σ m A p)) n 0 0))], σ, 0, 0)) rfl ?_
          refine w_ic_le rfl (fun c17 => ?_) (fun c17 => ?_)
          · refine w_run 1 (S' := (101, [(5, vI (nI (max 1 (n + z)))), (0, vR (some m)), (1, vI (nI p)), (2, vI (nI q)), (3, vI w), (4, vI y)], [vI 0], σ, 0, 0)) rfl ?_
            exact w_iret rfl (Or.inr ⟨rfl, Or.inl rfl⟩) (by omega) (by omega) (⟨by simp only [flF, if_pos c14, fl1, if_neg c15, fl2, if_pos c16, fl3, if_pos c17], rfl⟩)
          · refine w_run 2 (S' := (101, [(5, vI (nI (max 1 (n + z)))), (0, vR (some m)), (1, vI (nI p)), (2, vI (nI q)), (3, vI w), (4, vI y)], [vI 1], σ, 0, 0)) rfl ?_
            exact w_iret rfl (Or.inr ⟨rfl, Or.inr rfl⟩) (by omega) (by omega) (⟨by simp only [flF, if_pos c14, fl1, if_neg c15, fl2, if_pos c16, fl3, if_neg c17], rfl⟩)
        · refine w_run 3 (S' := (68, [(5, vI (nI (max 1 (n + z)))), (0, vR (some m)), (1, vI (nI p)), (2, vI (nI q)), (3, vI w), (4, vI y)], [vI 1, vI (nI q), vR (some m)], σ, 0, 0)) rfl ?_
          refine w_callV (st := []) [vI (nI q), vI 1] rfl ml_10_162 rfl rfl hM.1 rfl rfl rfl (by simp only [RM]; omega) (by simp only [RM]; show 8 + (5 + 11) + _ ≤ _; omega) rfl (by simp only [RM]; omega) (by simp only [RM]; omega) (c_mo_cells l E (d - 1) σ m A q 1 hM hq) (fun _ _ h => h.elim) ?_
          intro r9 s9 q9
          rw [q9.1, q9.2]
          clear q9 r9 s9
          show WG _ _ _ _ _ _ _ (71, [(5, vI (nI (max 1 (n + z)))), (0, vR (some m)), (1, vI (nI p)), (2, vI (nI q)), (3, vI w), (4, vI y)], [vI (itF (celsF (σ.1 610000 (A 10)) (σ.1 630000 (A 12)) (σ.1 640000 (A 13)) 1) 64 (64 * q) 0)], σ, 0, 0)
          refine w_run 3 (S' := (76, [(5, vI (nI (max 1 (n + z)))), (0, vR (some m)), (1, vI (nI p)), (2, vI (nI q)), (3, vI w), (4, vI y)], [vI 32, vI ((itF (celsF (σ.1 610000 (A 10)) (σ.1 630000 (A 12)) (σ.1 640000 (A 13)) 1) 64 (64 * q) 0) + (nI (max 1 (n + z))))], σ, 0, 0)) rfl ?_
          refine w_ic_gt rfl (fun c18 => ?_) (fun c18 => ?_)
          · refine w_run 2 (S' := (101, [(5, vI (nI (max 1 (n + z)))), (0, vR (some m)), (1, vI (nI p)), (2, vI (nI q)), (3, vI w), (4, vI y)], [vI 1], σ, 0, 0)) rfl ?_
            exact w_iret rfl (Or.inr ⟨rfl, Or.inr rfl⟩) (by omega) (by omega) (⟨by simp only [flF, if_pos c14, fl1, if_neg c15, fl2, if_neg c16, if_pos c18], rfl⟩)
          · refine w_run 2 (S' := (81, [(5, vI (nI (max 1 (n + z)))), (0, vR (some m)), (1, vI (nI p)), (2, vI (nI q)), (3, vI w), (4, vI y)], [vI (nI q), vR (some m)], σ, 0, 0)) rfl ?_
            refine w_callV (st := []) [vI (nI q)] rfl ml_10_166 rfl rfl hM.1 rfl rfl rfl (by simp only [RM]; omega) (by simp only [RM]; show 8 + (4 + 11) + _ ≤ _; omega) rfl (by simp only [RM]; omega) (by simp only [RM]; omega) (c_mo_handles l E (d - 1) σ m A q 0 hM (by omega) hq) (fun _ _ h => h.elim) ?_
            intro r9 s9 q9
            rw [q9.1, q9.2]
            clear q9 r9 s9
            show WG _ _ _ _ _ _ _ (84, [(5, vI (nI (max 1 (n + z)))), (0, vR (some m)), (1, vI (nI p)), (2, vI (nI q)), (3, vI w), (4, vI y)], [vI (itF (hdsF (σ.1 550000 (A 4)) (σ.1 560000 (A 5)) q) 15 1 0)], σ, 0, 0)
            refine w_run 3 (S' := (87, [(5, vI (nI (max 1 (n + z)))), (0, vR (some m)), (1, vI (nI p)), (2, vI (nI q)), (3, vI w), (4, vI y)], [vI (nI q), vI (nI p), vR (some m), vI (itF (hdsF (σ.1 550000 (A 4)) (σ.1 560000 (A 5)) q) 15 1 0)], σ, 0, 0)) rfl ?_
            refine w_callV (st := [vI (itF (hdsF (σ.1 550000 (A 4)) (σ.1 560000 (A 5)) q) 15 1 0)]) [vI (nI p), vI (nI q)] rfl ml_10_169 rfl rfl hM.1 rfl rfl rfl (by simp only [RM]; omega) (by simp only [RM]; show 8 + (8 + 11) + _ ≤ _; omega) rfl (by simp only [RM]; omega) (by simp only [RM]; omega) (c_mo_handlesMore l E (d - 1) σ m A p q n (by omega) hM hp hq hn hit) (fun _ _ h => h.elim) ?_
            intro r9 s9 q9
            rw [q9.1, q9.2]
            clear q9 r9 s9
            show WG _ _ _ _ _ _ _ (90, [(5, vI (nI (max 1 (n + z)))), (0, vR (some m)), (1, vI (nI p)), (2, vI (nI q)), (3, vI w), (4, vI y)], [vI (itF (hmF (hmO σ A q) (hmK σ A q) (itmF σ m A p)) n 0 0), vI (itF (hdsF (σ.1 550000 (A 4)) (σ.1 560000 (A 5)) q) 15 1 0)], σ, 0, 0)
            refine w_run 2 (S' := (93, [(5, vI (nI (max 1 (n + z)))), (0, vR (some m)), (1, vI (nI p)), (2, vI (nI q)), (3, vI w), (4, vI y)], [vI 15, vI ((itF (hdsF (σ.1 550000 (A 4)) (σ.1 560000 (A 5)) q) 15 1 0) + (itF (hmF (hmO σ A q) (hmK σ A q) (itmF σ m A p)) n 0 0))], σ, 0, 0)) rfl ?_
            refine w_ic_le rfl (fun c19 => ?_) (fun c19 => ?_)
            · refine w_run 1 (S' := (101, [(5, vI (nI (max 1 (n + z)))), (0, vR (some m)), (1, vI (nI p)), (2, vI (nI q)), (3, vI w), (4, vI y)], [vI 0], σ, 0, 0)) rfl ?_
              exact w_iret rfl (Or.inr ⟨rfl, Or.inl rfl⟩) (by omega) (by omega) (⟨by simp only [flF, if_pos c14, fl1, if_neg c15, fl2, if_neg c16, if_neg c18, fl3, if_pos c19], rfl⟩)
            · refine w_run 2 (S' := (101, [(5, vI (nI (max 1 (n + z)))), (0, vR (some m)), (1, vI (nI p)), (2, vI (nI q)), (3, vI w), (4, vI y)], [vI 1], σ, 0, 0)) rfl ?_
              exact w_iret rfl (Or.inr ⟨rfl, Or.inr rfl⟩) (by omega) (by omega) (⟨by simp only [flF, if_pos c14, fl1, if_neg c15, fl2, if_neg c16, if_neg c18, fl3, if_neg c19], rfl⟩)
    · refine w_run 1 (S' := (48, [(5, vI (nI (max 1 (n + z)))), (0, vR (some m)), (1, vI (nI p)), (2, vI (nI q)), (3, vI w), (4, vI y)], [vI y], σ, 0, 0)) rfl ?_
      refine w_if_eq rfl (fun c20 => ?_) (fun c20 => ?_)
      · refine w_run 2 (S' := (101, [(5, vI (nI (max 1 (n + z)))), (0, vR (some m)), (1, vI (nI p)), (2, vI (nI q)), (3, vI w), (4, vI y)], [vI 1], σ, 0, 0)) rfl ?_
        exact w_iret rfl (Or.inr ⟨rfl, Or.inr rfl⟩) (by omega) (by omega) (⟨by simp only [flF, if_neg c14, if_pos c20], rfl⟩)
      · refine w_run 3 (S' := (55, [(5, vI (nI (max 1 (n + z)))), (0, vR (some m)), (1, vI (nI p)), (2, vI (nI q)), (3, vI w), (4, vI y)], [vI (nI (max 1 (n + z))), vI (nI q), vR (some m)], σ, 0, 0)) rfl ?_
        refine w_callV (st := []) [vI (nI q), vI (nI (max 1 (n + z)))] rfl ml_10_159 rfl rfl hM.1 rfl rfl rfl (by simp only [RM]; omega) (by simp only [RM]; show 8 + (7 + 11) + _ ≤ _; omega) rfl (by simp only [RM]; omega) (by simp only [RM]; omega) (c_mo_gap l E (d - 1) σ m A q (nI (max 1 (n + z))) t (by omega) hM hq ht) (fun _ _ h => h.elim) ?_
        intro r9 s9 q9
        rw [q9.1, q9.2]
        clear q9 r9 s9
        show WG _ _ _ _ _ _ _ (58, [(5, vI (nI (max 1 (n + z)))), (0, vR (some m)), (1, vI (nI p)), (2, vI (nI q)), (3, vI w), (4, vI y)], [vI t], σ, 0, 0)
        refine w_if_lt rfl (fun c21 => ?_) (fun c21 => ?_)
        · refine w_run 2 (S' := (101, [(5, vI (nI (max 1 (n + z)))), (0, vR (some m)), (1, vI (nI p)), (2, vI (nI q)), (3, vI w), (4, vI y)], [vI 1], σ, 0, 0)) rfl ?_
          exact w_iret rfl (Or.inr ⟨rfl, Or.inr rfl⟩) (by omega) (by omega) (⟨by simp only [flF, if_neg c14, if_neg c20, fl1, if_pos c21], rfl⟩)
        · refine w_run 1 (S' := (62, [(5, vI (nI (max 1 (n + z)))), (0, vR (some m)), (1, vI (nI p)), (2, vI (nI q)), (3, vI w), (4, vI y)], [vI w], σ, 0, 0)) rfl ?_
          refine w_if_eq rfl (fun c22 => ?_) (fun c22 => ?_)
          · refine w_run 2 (S' := (81, [(5, vI (nI (max 1 (n + z)))), (0, vR (some m)), (1, vI (nI p)), (2, vI (nI q)), (3, vI w), (4, vI y)], [vI (nI q), vR (some m)], σ, 0, 0)) rfl ?_
            refine w_callV (st := []) [vI (nI q)] rfl ml_10_166 rfl rfl hM.1 rfl rfl rfl (by simp only [RM]; omega) (by simp only [RM]; show 8 + (4 + 11) + _ ≤ _; omega) rfl (by simp only [RM]; omega) (by simp only [RM]; omega) (c_mo_handles l E (d - 1) σ m A q 0 hM (by omega) hq) (fun _ _ h => h.elim) ?_
            intro r9 s9 q9
            rw [q9.1, q9.2]
            clear q9 r9 s9
            show WG _ _ _ _ _ _ _ (84, [(5, vI (nI (max 1 (n + z)))), (0, vR (some m)), (1, vI (nI p)), (2, vI (nI q)), (3, vI w), (4, vI y)], [vI (itF (hdsF (σ.1 550000 (A 4)) (σ.1 560000 (A 5)) q) 15 1 0)], σ, 0, 0)
            refine w_run 3 (S' := (87, [(5, vI (nI (max 1 (n + z)))), (0, vR (some m)), (1, vI (nI p)), (2, vI (nI q)), (3, vI w), (4, vI y)], [vI (nI q), vI (nI p), vR (some m), vI (itF (hdsF (σ.1 550000 (A 4)) (σ.1 560000 (A 5)) q) 15 1 0)], σ, 0, 0)) rfl ?_
            refine w_callV (st := [vI (itF (hdsF (σ.1 550000 (A 4)) (σ.1 560000 (A 5)) q) 15 1 0)]) [vI (nI p), vI (nI q)] rfl ml_10_169 rfl rfl hM.1 rfl rfl rfl (by simp only [RM]; omega) (by simp only [RM]; show 8 + (8 + 11) + _ ≤ _; omega) rfl (by simp only [RM]; omega) (by simp only [RM]; omega) (c_mo_handlesMore l E (d - 1) σ m A p q n (by omega) hM hp hq hn hit) (fun _ _ h => h.elim) ?_
            intro r9 s9 q9
            rw [q9.1, q9.2]
            clear q9 r9 s9
            show WG _ _ _ _ _ _ _ (90, [(5, vI (nI (max 1 (n + z)))), (0, vR (some m)), (1, vI (nI p)), (2, vI (nI q)), (3, vI w), (4, vI y)], [vI (itF (hmF (hmO σ A q) (hmK σ A q) (itmF σ m A p)) n 0 0), vI (itF (hdsF (σ.1 550000 (A 4)) (σ.1 560000 (A 5)) q) 15 1 0)], σ, 0, 0)
            refine w_run 2 (S' := (93, [(5, vI (nI (max 1 (n + z)))), (0, vR (some m)), (1, vI (nI p)), (2, vI (nI q)), (3, vI w), (4, vI y)], [vI 15, vI ((itF (hdsF (σ.1 550000 (A 4)) (σ.1 560000 (A 5)) q) 15 1 0) + (itF (hmF (hmO σ A q) (hmK σ A q) (itmF σ m A p)) n 0 0))], σ, 0, 0)) rfl ?_
            refine w_ic_le rfl (fun c23 => ?_) (fun c23 => ?_)
            · refine w_run 1 (S' := (101, [(5, vI (nI (max 1 (n + z)))), (0, vR (some m)), (1, vI (nI p)), (2, vI (nI q)), (3, vI w), (4, vI y)], [vI 0], σ, 0, 0)) rfl ?_
              exact w_iret rfl (Or.inr ⟨rfl, Or.inl rfl⟩) (by omega) (by omega) (⟨by simp only [flF, if_neg c14, if_neg c20, fl1, if_neg c21, fl2, if_pos c22, fl3, if_pos c23], rfl⟩)
            · refine w_run 2 (S' := (101, [(5, vI (nI (max 1 (n + z)))), (0, vR (some m)), (1, vI (nI p)), (2, vI (nI q)), (3, vI w), (4, vI y)], [vI 1], σ, 0, 0)) rfl ?_
              exact w_iret rfl (Or.inr ⟨rfl, Or.inr rfl⟩) (by omega) (by omega) (⟨by simp only [flF, if_neg c14, if_neg c20, fl1, if_neg c21, fl2, if_pos c22, fl3, if_neg c23], rfl⟩)
          · refine w_run 3 (S' := (68, [(5, vI (nI (max 1 (n + z)))), (0, vR (some m)), (1, vI (nI p)), (2, vI (nI q)), (3, vI w), (4, vI y)], [vI 1, vI (nI q), vR (some m)], σ, 0, 0)) rfl ?_
            refine w_callV (st := []) [vI (nI q), vI 1] rfl ml_10_162 rfl rfl hM.1 rfl rfl rfl (by simp only [RM]; omega) (by simp only [RM]; show 8 + (5 + 11) + _ ≤ _; omega) rfl (by simp only [RM]; omega) (by simp only [RM]; omega) (c_mo_cells l E (d - 1) σ m A q 1 hM hq) (fun _ _ h => h.elim) ?_
            intro r9 s9 q9
            rw [q9.1, q9.2]
            clear q9 r9 s9
            show WG _ _ _ _ _ _ _ (71, [(5, vI (nI (max 1 (n + z)))), (0, vR (some m)), (1, vI (nI p)), (2, vI (nI q)), (3, vI w), (4, vI y)], [vI (itF (celsF (σ.1 610000 (A 10)) (σ.1 630000 (A 12)) (σ.1 640000 (A 13)) 1) 64 (64 * q) 0)], σ, 0, 0)
            refine w_run 3 (S' := (76, [(5, vI (nI (max 1 (n + z)))), (0, vR (some m)), (1, vI (nI p)), (2, vI (nI q)), (3, vI w), (4, vI y)], [vI 32, vI ((itF (celsF (σ.1 610000 (A 10)) (σ.1 630000 (A 12)) (σ.1 640000 (A 13)) 1) 64 (64 * q) 0) + (nI (max 1 (n + z))))], σ, 0, 0)) rfl ?_
            refine w_ic_gt rfl (fun c24 => ?_) (fun c24 => ?_)
            · refine w_run 2 (S' := (101, [(5, vI (nI (max 1 (n + z)))), (0, vR (some m)), (1, vI (nI p)), (2, vI (nI q)), (3, vI w), (4, vI y)], [vI 1], σ, 0, 0)) rfl ?_
              exact w_iret rfl (Or.inr ⟨rfl, Or.inr rfl⟩) (by omega) (by omega) (⟨by simp only [flF, if_neg c14, if_neg c20, fl1, if_neg c21, fl2, if_neg c22, if_pos c24], rfl⟩)
            · refine w_run 2 (S' := (81, [(5, vI (nI (max 1 (n + z)))), (0, vR (some m)), (1, vI (nI p)), (2, vI (nI q)), (3, vI w), (4, vI y)], [vI (nI q), vR (some m)], σ, 0, 0)) rfl ?_
              refine w_callV (st := []) [vI (nI q)] rfl ml_10_166 rfl rfl hM.1 rfl rfl rfl (by simp only [RM]; omega) (by simp only [RM]; show 8 + (4 + 11) + _ ≤ _; omega) rfl (by simp only [RM]; omega) (by simp only [RM]; omega) (c_mo_handles l E (d - 1) σ m A q 0 hM (by omega) hq) (fun _ _ h => h.elim) ?_
              intro r9 s9 q9
              rw [q9.1, q9.2]
              clear q9 r9 s9
              show WG _ _ _ _ _ _ _ (84, [(5, vI (nI (max 1 (n + z)))), (0, vR (some m)), (1, vI (nI p)), (2, vI (nI q)), (3, vI w), (4, vI y)], [vI (itF (hdsF (σ.1 550000 (A 4)) (σ.1 560000 (A 5)) q) 15 1 0)], σ, 0, 0)
              refine w_run 3 (S' := (87, [(5, vI (nI (max 1 (n + z)))), (0, vR (some m)), (1, vI (nI p)), (2, vI (nI q)), (3, vI w), (4, vI y)], [vI (nI q), vI (nI p), vR (some m), vI (itF (hdsF (σ.1 550000 (A 4)) (σ.1 560000 (A 5)) q) 15 1 0)], σ, 0, 0)) rfl ?_
              refine w_callV (st := [vI (itF (hdsF (σ.1 550000 (A 4)) (σ.1 560000 (A 5)) q) 15 1 0)]) [vI (nI p), vI (nI q)] rfl ml_10_169 rfl rfl hM.1 rfl rfl rfl (by simp only [RM]; omega) (by simp only [RM]; show 8 + (8 + 11) + _ ≤ _; omega) rfl (by simp only [RM]; omega) (by simp only [RM]; omega) (c_mo_handlesMore l E (d - 1) σ m A p q n (by omega) hM hp hq hn hit) (fun _ _ h => h.elim) ?_
              intro r9 s9 q9
              rw [q9.1, q9.2]
              clear q9 r9 s9
              show WG _ _ _ _ _ _ _ (90, [(5, vI (nI (max 1 (n + z)))), (0, vR (some m)), (1, vI (nI p)), (2, vI (nI q)), (3, vI w), (4, vI y)], [vI (itF (hmF (hmO σ A q) (hmK σ A q) (itmF σ m A p)) n 0 0), vI (itF (hdsF (σ.1 550000 (A 4)) (σ.1 560000 (A 5)) q) 15 1 0)], σ, 0, 0)
              refine w_run 2 (S' := (93, [(5, vI (nI (max 1 (n + z)))), (0, vR (some m)), (1, vI (nI p)), (2, vI (nI q)), (3, vI w), (4, vI y)], [vI 15, vI ((itF (hdsF (σ.1 550000 (A 4)) (σ.1 560000 (A 5)) q) 15 1 0) + (itF (hmF (hmO σ A q) (hmK σ A q) (itmF σ m A p)) n 0 0))], σ, 0, 0)) rfl ?_
              refine w_ic_le rfl (fun c25 => ?_) (fun c25 => ?_)
              · refine w_run 1 (S' := (101, [(5, vI (nI (max 1 (n + z)))), (0, vR (some m)), (1, vI (nI p)), (2, vI (nI q)), (3, vI w), (4, vI y)], [vI 0], σ, 0, 0)) rfl ?_
                exact w_iret rfl (Or.inr ⟨rfl, Or.inl rfl⟩) (by omega) (by omega) (⟨by simp only [flF, if_neg c14, if_neg c20, fl1, if_neg c21, fl2, if_neg c22, if_neg c24, fl3, if_pos c25], rfl⟩)
              · refine w_run 2 (S' := (101, [(5, vI (nI (max 1 (n + z)))), (0, vR (some m)), (1, vI (nI p)), (2, vI (nI q)), (3, vI w), (4, vI y)], [vI 1], σ, 0, 0)) rfl ?_
                exact w_iret rfl (Or.inr ⟨rfl, Or.inr rfl⟩) (by omega) (by omega) (⟨by simp only [flF, if_neg c14, if_neg c20, fl1, if_neg c21, fl2, if_neg c22, if_neg c24, fl3, if_neg c25], rfl⟩)

