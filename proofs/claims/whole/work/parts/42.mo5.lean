/-! the model: waitsFor -/
def wf1 (σ : Sg) (A : Nat → Nat) (q p : Nat) : Nat → Int32 → Int32 := fun i a => if a = 0 then (if σ.1 730000 (A 22) (384 * p + 6 * i) = 1 then (if σ.1 730000 (A 22) (384 * p + 6 * i + 3) = nI q then (if σ.1 730000 (A 22) (384 * p + 6 * i + 5) = σ.1 520000 (A 1) q then 1 else 0) else 0) else 0) else 1
def wf2 (σ : Sg) (A : Nat → Nat) (q p : Nat) : Nat → Int32 → Int32 := fun i a => if a = 0 then (if σ.1 750000 (A 24) (12 * p + i) = nI q then (if σ.1 760000 (A 25) (12 * p + i) = σ.1 520000 (A 1) q then 1 else 0) else 0) else 1
set_option maxHeartbeats 4000000 in
theorem lk_mo_wf1 (l : Launch) (E : FE) (d : Nat) (σ : Sg) (m : Nat) (A : Nat → Nat) (q p w n : Nat) (hM : MO σ m A) (hq : q < 4) (hp : p < 4) (hws : σ.1 720000 (A 21) p = nI w) (hw : w ≤ 64) (hop : σ.1 740000 (A 23) p = nI n) (hn : n ≤ 12) {mc ms cs sl : Nat} {args : Array Value} {XX : State → Prop} {QF : State → List Frame → State → Prop} (hcs : cs ≤ mc) (hsl : sl ≤ ms) : ∀ (k i : Nat), i + k = w → ∀ (a : Int32), (∀ (a' : Int32), a' = itF (wf1 σ A q p) k i a → WG l E (RM d mc ms) 80 args XX QF (87, [(3, vI a'), (0, vR (some m)), (1, vI (nI q)), (2, vI (nI p))], [], σ, cs, sl)) →
    WG l E (RM d mc ms) 80 args XX QF (5, [(4, vI (nI i)), (3, vI a), (0, vR (some m)), (1, vI (nI q)), (2, vI (nI p))], [], σ, cs, sl) := by
  intro k
  induction k with
  | zero =>
    intro i hi a K
    refine w_run 2 (S' := (8, [(4, vI (nI i)), (3, vI a), (0, vR (some m)), (1, vI (nI q)), (2, vI (nI p))], [vR (some m), vI (nI i)], σ, cs, sl)) rfl ?_
    refine w_get (k := 50) (vR (σ.2.1 502472 m 0)) rfl rfl rfl hM.1 rfl rfl ?_
    refine w_run 1 (S' := (12, [(4, vI (nI i)), (3, vI a), (0, vR (some m)), (1, vI (nI q)), (2, vI (nI p))], [vI (nI p), vR (σ.2.1 502472 m 0), vI (nI i)], σ, cs, sl)) rfl ?_
    refine w_iald (k := 72) rfl ((hM.2 21 (by decide)).1) ((hM.2 21 (by decide)).2) rfl (show vp_in (nI p) 4 from vp_in_nI (n := p) (by omega) (by decide)) ?_
    show WG _ _ _ _ _ _ _ (13, [(4, vI (nI i)), (3, vI a), (0, vR (some m)), (1, vI (nI q)), (2, vI (nI p))], [vI (σ.1 720000 (A 21) (nI p).toNatClampNeg), vI (nI i)], σ, cs, sl)
    rw [show (nI p : Int32).toNatClampNeg = p from nI_clamp (n := p) (by omega)]
    show WG _ _ _ _ _ _ _ (13, [(4, vI (nI i)), (3, vI a), (0, vR (some m)), (1, vI (nI q)), (2, vI (nI p))], [vI (σ.1 720000 (A 21) p), vI (nI i)], σ, cs, sl)
    refine Eq.mp (congrArg (fun x9 => WG _ _ _ _ _ _ _ (13, [(4, vI (nI i)), (3, vI a), (0, vR (some m)), (1, vI (nI q)), (2, vI (nI p))], [vI x9, vI (nI i)], σ, cs, sl)) (hws.symm : nI w = σ.1 720000 (A 21) p)) ?_
    show WG _ _ _ _ _ _ _ (13, [(4, vI (nI i)), (3, vI a), (0, vR (some m)), (1, vI (nI q)), (2, vI (nI p))], [vI (nI w), vI (nI i)], σ, cs, sl)
    refine w_ic_ge rfl (fun c1 => ?_) (fun c1 => (absurd ((nI_leI (a := w) (b := i) (by omega) (by omega)).mpr (by omega)) c1))
    have nc1 := (nI_leI (a := w) (b := i) (by omega) (by omega)).mp c1
    refine w_lsP [1, 2, 3, 4] ?_
    show WG _ _ _ _ _ _ _ (87, [(3, vI a), (0, vR (some m)), (1, vI (nI q)), (2, vI (nI p))], [], σ, cs, sl)
    exact K a rfl
  | succ k ih =>
    intro i hi a K
    refine w_run 2 (S' := (8, [(4, vI (nI i)), (3, vI a), (0, vR (some m)), (1, vI (nI q)), (2, vI (nI p))], [vR (some m), vI (nI i)], σ, cs, sl)) rfl ?_
    refine w_get (k := 50) (vR (σ.2.1 502472 m 0)) rfl rfl rfl hM.1 rfl rfl ?_
    refine w_run 1 (S' := (12, [(4, vI (nI i)), (3, vI a), (0, vR (some m)), (1, vI (nI q)), (2, vI (nI p))], [vI (nI p), vR (σ.2.1 502472 m 0), vI (nI i)], σ, cs, sl)) rfl ?_
    refine w_iald (k := 72) rfl ((hM.2 21 (by decide)).1) ((hM.2 21 (by decide)).2) rfl (show vp_in (nI p) 4 from vp_in_nI (n := p) (by omega) (by decide)) ?_
    show WG _ _ _ _ _ _ _ (13, [(4, vI (nI i)), (3, vI a), (0, vR (some m)), (1, vI (nI q)), (2, vI (nI p))], [vI (σ.1 720000 (A 21) (nI p).toNatClampNeg), vI (nI i)], σ, cs, sl)
    rw [show (nI p : Int32).toNatClampNeg = p from nI_clamp (n := p) (by omega)]
    show WG _ _ _ _ _ _ _ (13, [(4, vI (nI i)), (3, vI a), (0, vR (some m)), (1, vI (nI q)), (2, vI (nI p))], [vI (σ.1 720000 (A 21) p), vI (nI i)], σ, cs, sl)
    refine Eq.mp (congrArg (fun x9 => WG _ _ _ _ _ _ _ (13, [(4, vI (nI i)), (3, vI a), (0, vR (some m)), (1, vI (nI q)), (2, vI (nI p))], [vI x9, vI (nI i)], σ, cs, sl)) (hws.symm : nI w = σ.1 720000 (A 21) p)) ?_
    show WG _ _ _ _ _ _ _ (13, [(4, vI (nI i)), (3, vI a), (0, vR (some m)), (1, vI (nI q)), (2, vI (nI p))], [vI (nI w), vI (nI i)], σ, cs, sl)
    refine w_ic_ge rfl (fun c1 => (absurd ((nI_leI (a := w) (b := i) (by omega) (by omega)).mp c1) (by omega))) (fun c1 => ?_)
    have nc1 := mt (nI_leI (a := w) (b := i) (by omega) (by omega)).mpr c1
    refine w_run 9 (S' := (30, [(5, vI ((384 * (nI p)) + (6 * (nI i)))), (4, vI (nI i)), (3, vI a), (0, vR (some m)), (1, vI (nI q)), (2, vI (nI p))], [vI a], σ, cs, sl)) rfl ?_
    rw [show ((384 * (nI p)) + (6 * (nI i)) : Int32) = nI (384 * p + 6 * i) from by simp only [nl0, nl1, nl2, nl3, nl4, nl5, nl6, nl8, nl9, nl10, nl12, nl15, nl16, nl20, nl24, nl32, nl40, nl64, nl65, nl384, pk_mul, nI_add]]
    show WG _ _ _ _ _ _ _ (30, [(5, vI (nI (384 * p + 6 * i))), (4, vI (nI i)), (3, vI a), (0, vR (some m)), (1, vI (nI q)), (2, vI (nI p))], [vI a], σ, cs, sl)
    refine w_if_ne rfl (fun c2 => ?_) (fun c2 => ?_)
    · refine w_run 5 (S' := (5, [(4, vI ((nI i) + 1)), (3, vI 1), (5, vI (nI (384 * p + 6 * i))), (0, vR (some m)), (1, vI (nI q)), (2, vI (nI p))], [], σ, cs, sl)) rfl ?_
      rw [show ((nI i) + 1 : Int32) = nI (i + 1) from by simp only [nl0, nl1, nl2, nl3, nl4, nl5, nl6, nl8, nl9, nl10, nl12, nl15, nl16, nl20, nl24, nl32, nl40, nl64, nl65, nl384, pk_mul, nI_add]]
      show WG _ _ _ _ _ _ _ (5, [(4, vI (nI (i + 1))), (3, vI 1), (5, vI (nI (384 * p + 6 * i))), (0, vR (some m)), (1, vI (nI q)), (2, vI (nI p))], [], σ, cs, sl)
      refine w_lsP [0, 1, 3, 4, 5] ?_
      show WG _ _ _ _ _ _ _ (5, [(4, vI (nI (i + 1))), (3, vI 1), (0, vR (some m)), (1, vI (nI q)), (2, vI (nI p))], [], σ, cs, sl)
      exact ih (i + 1) (by omega) 1 (fun a' e9 => K a' (by rw [itF_succ, ← (show (1 : Int32) = (wf1 σ A q p) i a from by simp only [wf1, if_neg c1, if_neg nc1, if_neg c2])]; exact e9))
    · refine w_run 1 (S' := (34, [(5, vI (nI (384 * p + 6 * i))), (4, vI (nI i)), (3, vI a), (0, vR (some m)), (1, vI (nI q)), (2, vI (nI p))], [vR (some m)], σ, cs, sl)) rfl ?_
      refine w_get (k := 50) (vR (σ.2.1 502573 m 0)) rfl rfl rfl hM.1 rfl rfl ?_
      refine w_run 1 (S' := (39, [(5, vI (nI (384 * p + 6 * i))), (4, vI (nI i)), (3, vI a), (0, vR (some m)), (1, vI (nI q)), (2, vI (nI p))], [vI (nI (384 * p + 6 * i)), vR (σ.2.1 502573 m 0)], σ, cs, sl)) rfl ?_
      refine w_iald (k := 73) rfl ((hM.2 22 (by decide)).1) ((hM.2 22 (by decide)).2) rfl (show vp_in (nI (384 * p + 6 * i)) 1536 from vp_in_nI (n := 384 * p + 6 * i) (by omega) (by decide)) ?_
      show WG _ _ _ _ _ _ _ (40, [(5, vI (nI (384 * p + 6 * i))), (4, vI (nI i)), (3, vI a), (0, vR (some m)), (1, vI (nI q)), (2, vI (nI p))], [vI (σ.1 730000 (A 22) (nI (384 * p + 6 * i)).toNatClampNeg)], σ, cs, sl)
      rw [show (nI (384 * p + 6 * i) : Int32).toNatClampNeg = 384 * p + 6 * i from nI_clamp (n := 384 * p + 6 * i) (by omega)]
      show WG _ _ _ _ _ _ _ (40, [(5, vI (nI (384 * p + 6 * i))), (4, vI (nI i)), (3, vI a), (0, vR (some m)), (1, vI (nI q)), (2, vI (nI p))], [vI (σ.1 730000 (A 22) (384 * p + 6 * i))], σ, cs, sl)
      refine w_run 1 (S' := (41, [(5, vI (nI (384 * p + 6 * i))), (4, vI (nI i)), (3, vI a), (0, vR (some m)), (1, vI (nI q)), (2, vI (nI p))], [vI 1, vI (σ.1 730000 (A 22) (384 * p + 6 * i))], σ, cs, sl)) rfl ?_
      refine w_ic_ne rfl (fun c3 => ?_) (fun c3 => ?_)
      · refine w_run 4 (S' := (5, [(4, vI ((nI i) + 1)), (3, vI 0), (5, vI (nI (384 * p + 6 * i))), (0, vR (some m)), (1, vI (nI q)), (2, vI (nI p))], [], σ, cs, sl)) rfl ?_
        rw [show ((nI i) + 1 : Int32) = nI (i + 1) from by simp only [nl0, nl1, nl2, nl3, nl4, nl5, nl6, nl8, nl9, nl10, nl12, nl15, nl16, nl20, nl24, nl32, nl40, nl64, nl65, nl384, pk_mul, nI_add]]
        show WG _ _ _ _ _ _ _ (5, [(4, vI (nI (i + 1))), (3, vI 0), (5, vI (nI (384 * p + 6 * i))), (0, vR (some m)), (1, vI (nI q)), (2, vI (nI p))], [], σ, cs, sl)
        refine w_lsP [0, 1, 3, 4, 5] ?_
        show WG _ _ _ _ _ _ _ (5, [(4, vI (nI (i + 1))), (3, vI 0), (0, vR (some m)), (1, vI (nI q)), (2, vI (nI p))], [], σ, cs, sl)
        exact ih (i + 1) (by omega) 0 (fun a' e9 => K a' (by rw [itF_succ, ← (show (0 : Int32) = (wf1 σ A q p) i a from by simp only [wf1, if_neg c1, if_neg nc1, if_pos c2, if_neg c3])]; exact e9))
      · refine w_run 1 (S' := (45, [(5, vI (nI (384 * p + 6 * i))), (4, vI (nI i)), (3, vI a), (0, vR (some m)), (1, vI (nI q)), (2, vI (nI p))], [vR (some m)], σ, cs, sl)) rfl ?_
        refine w_get (k := 50) (vR (σ.2.1 502573 m 0)) rfl rfl rfl hM.1 rfl rfl ?_
        refine w_run 3 (S' := (52, [(5, vI (nI (384 * p + 6 * i))), (4, vI (nI i)), (3, vI a), (0, vR (some m)), (1, vI (nI q)), (2, vI (nI p))], [vI ((nI (384 * p + 6 * i)) + 3), vR (σ.2.1 502573 m 0)], σ, cs, sl)) rfl ?_
        rw [show ((nI (384 * p + 6 * i)) + 3 : Int32) = nI (384 * p + 6 * i + 3) from by simp only [nl0, nl1, nl2, nl3, nl4, nl5, nl6, nl8, nl9, nl10, nl12, nl15, nl16, nl20, nl24, nl32, nl40, nl64, nl65, nl384, pk_mul, nI_add]]
        show WG _ _ _ _ _ _ _ (52, [(5, vI (nI (384 * p + 6 * i))), (4, vI (nI i)), (3, vI a), (0, vR (some m)), (1, vI (nI q)), (2, vI (nI p))], [vI (nI (384 * p + 6 * i + 3)), vR (σ.2.1 502573 m 0)], σ, cs, sl)
        refine w_iald (k := 73) rfl ((hM.2 22 (by decide)).1) ((hM.2 22 (by decide)).2) rfl (show vp_in (nI (384 * p + 6 * i + 3)) 1536 from vp_in_nI (n := 384 * p + 6 * i + 3) (by omega) (by decide)) ?_
        show WG _ _ _ _ _ _ _ (53, [(5, vI (nI (384 * p + 6 * i))), (4, vI (nI i)), (3, vI a), (0, vR (some m)), (1, vI (nI q)), (2, vI (nI p))], [vI (σ.1 730000 (A 22) (nI (384 * p + 6 * i + 3)).toNatClampNeg)], σ, cs, sl)
        rw [show (nI (384 * p + 6 * i + 3) : Int32).toNatClampNeg = 384 * p + 6 * i + 3 from nI_clamp (n := 384 * p + 6 * i + 3) (by omega)]
        show WG _ _ _ _ _ _ _ (53, [(5, vI (nI (384 * p + 6 * i))), (4, vI (nI i)), (3, vI a), (0, vR (some m)), (1, vI (nI q)), (2, vI (nI p))], [vI (σ.1 730000 (A 22) (384 * p + 6 * i + 3))], σ, cs, sl)
        refine w_run 1 (S' := (54, [(5, vI (nI (384 * p + 6 * i))), (4, vI (nI i)), (3, vI a), (0, vR (some m)), (1, vI (nI q)), (2, vI (nI p))], [vI (nI q), vI (σ.1 730000 (A 22) (384 * p + 6 * i + 3))], σ, cs, sl)) rfl ?_
        refine w_ic_ne rfl (fun c4 => ?_) (fun c4 => ?_)
        · refine w_run 4 (S' := (5, [(4, vI ((nI i) + 1)), (3, vI 0), (5, vI (nI (384 * p + 6 * i))), (0, vR (some m)), (1, vI (nI q)), (2, vI (nI p))], [], σ, cs, sl)) rfl ?_
          rw [show ((nI i) + 1 : Int32) = nI (i + 1) from by simp only [nl0, nl1, nl2, nl3, nl4, nl5, nl6, nl8, nl9, nl10, nl12, nl15, nl16, nl20, nl24, nl32, nl40, nl64, nl65, nl384, pk_mul, nI_add]]
          show WG _ _ _ _ _ _ _ (5, [(4, vI (nI (i + 1))), (3, vI 0), (5, vI (nI (384 * p + 6 * i))), (0, vR (some m)), (1, vI (nI q)), (2, vI (nI p))], [], σ, cs, sl)
          refine w_lsP [0, 1, 3, 4, 5] ?_
          show WG _ _ _ _ _ _ _ (5, [(4, vI (nI (i + 1))), (3, vI 0), (0, vR (some m)), (1, vI (nI q)), (2, vI (nI p))], [], σ, cs, sl)
          exact ih (i + 1) (by omega) 0 (fun a' e9 => K a' (by rw [itF_succ, ← (show (0 : Int32) = (wf1 σ A q p) i a from by simp only [wf1, if_neg c1, if_neg nc1, if_pos c2, if_pos c3, if_neg c4])]; exact e9))
        · refine w_run 1 (S' := (58, [(5, vI (nI (384 * p + 6 * i))), (4, vI (nI i)), (3, vI a), (0, vR (some m)), (1, vI (nI q)), (2, vI (nI p))], [vR (some m)], σ, cs, sl)) rfl ?_
          refine w_get (k := 50) (vR (σ.2.1 502573 m 0)) rfl rfl rfl hM.1 rfl rfl ?_
          refine w_run 3 (S' := (65, [(5, vI (nI (384 * p + 6 * i))), (4, vI (nI i)), (3, vI a), (0, vR (some m)), (1, vI (nI q)), (2, vI (nI p))], [vI ((nI (384 * p + 6 * i)) + 5), vR (σ.2.1 502573 m 0)], σ, cs, sl)) rfl ?_
          rw [show ((nI (384 * p + 6 * i)) + 5 : Int32) = nI (384 * p + 6 * i + 5) from by simp only [nl0, nl1, nl2, nl3, nl4, nl5, nl6, nl8, nl9, nl10, nl12, nl15, nl16, nl20, nl24, nl32, nl40, nl64, nl65, nl384, pk_mul, nI_add]]
          show WG _ _ _ _ _ _ _ (65, [(5, vI (nI (384 * p + 6 * i))), (4, vI (nI i)), (3, vI a), (0, vR (some m)), (1, vI (nI q)), (2, vI (nI p))], [vI (nI (384 * p + 6 * i + 5)), vR (σ.2.1 502573 m 0)], σ, cs, sl)
          refine w_iald (k := 73) rfl ((hM.2 22 (by decide)).1) ((hM.2 22 (by decide)).2) rfl (show vp_in (nI (384 * p + 6 * i + 5)) 1536 from vp_in_nI (n := 384 * p + 6 * i + 5) (by omega) (by decide)) ?_
          show WG _ _ _ _ _ _ _ (66, [(5, vI (nI (384 * p + 6 * i))), (4, vI (nI i)), (3, vI a), (0, vR (some m)), (1, vI (nI q)), (2, vI (nI p))], [vI (σ.1 730000 (A 22) (nI (384 * p + 6 * i + 5)).toNatClampNeg)], σ, cs, sl)
          rw [show (nI (384 * p + 6 * i + 5) : Int32).toNatClampNeg = 384 * p + 6 * i + 5 from nI_clamp (n := 384 * p + 6 * i + 5) (by omega)]
          show WG _ _ _ _ _ _ _ (66, [(5, vI (nI (384 * p + 6 * i))), (4, vI (nI i)), (3, vI a), (0, vR (some m)), (1, vI (nI q)), (2, vI (nI p))], [vI (σ.1 730000 (A 22) (384 * p + 6 * i + 5))], σ, cs, sl)
          refine w_run 1 (S' := (67, [(5, vI (nI (384 * p + 6 * i))), (4, vI (nI i)), (3, vI a), (0, vR (some m)), (1, vI (nI q)), (2, vI (nI p))], [vR (some m), vI (σ.1 730000 (A 22) (384 * p + 6 * i + 5))], σ, cs, sl)) rfl ?_
          refine w_get (k := 50) (vR (σ.2.1 500252 m 0)) rfl rfl rfl hM.1 rfl rfl ?_
          refine w_run 1 (S' := (71, [(5, vI (nI (384 * p + 6 * i))), (4, vI (nI i)), (3, vI a), (0, vR (some m)), (1, vI (nI q)), (2, vI (nI p))], [vI (nI q), vR (σ.2.1 500252 m 0), vI (σ.1 730000 (A 22) (384 * p + 6 * i + 5))], σ, cs, sl)) rfl ?_
          refine w_iald (k := 52) rfl ((hM.2 1 (by decide)).1) ((hM.2 1 (by decide)).2) rfl (show vp_in (nI q) 4 from vp_in_nI (n := q) (by omega) (by decide)) ?_
          show WG _ _ _ _ _ _ _ (72, [(5, vI (nI (384 * p + 6 * i))), (4, vI (nI i)), (3, vI a), (0, vR (some m)), (1, vI (nI q)), (2, vI (nI p))], [vI (σ.1 520000 (A 1) (nI q).toNatClampNeg), vI (σ.1 730000 (A 22) (384 * p + 6 * i + 5))], σ, cs, sl)
          rw [show (nI q : Int32).toNatClampNeg = q from nI_clamp (n := q) (by omega)]
          show WG _ _ _ _ _ _ _ (72, [(5, vI (nI (384 * p + 6 * i))), (4, vI (nI i)), (3, vI a), (0, vR (some m)), (1, vI (nI q)), (2, vI (nI p))], [vI (σ.1 520000 (A 1) q), vI (σ.1 730000 (A 22) (384 * p + 6 * i + 5))], σ, cs, sl)
          refine w_ic_ne rfl (fun c5 => ?_) (fun c5 => ?_)
          · refine w_run 4 (S' := (5, [(4, vI ((nI i) + 1)), (3, vI 0), (5, vI (nI (384 * p + 6 * i))), (0, vR (some m)), (1, vI (nI q)), (2, vI (nI p))], [], σ, cs, sl)) rfl ?_
            rw [show ((nI i) + 1 : Int32) = nI (i + 1) from by simp only [nl0, nl1, nl2, nl3, nl4, nl5, nl6, nl8, nl9, nl10, nl12, nl15, nl16, nl20, nl24, nl32, nl40, nl64, nl65, nl384, pk_mul, nI_add]]
            show WG _ _ _ _ _ _ _ (5, [(4, vI (nI (i + 1))), (3, vI 0), (5, vI (nI (384 * p + 6 * i))), (0, vR (some m)), (1, vI (nI q)), (2, vI (nI p))], [], σ, cs, sl)
            refine w_lsP [0, 1, 3, 4, 5] ?_
            show WG _ _ _ _ _ _ _ (5, [(4, vI (nI (i + 1))), (3, vI 0), (0, vR (some m)), (1, vI (nI q)), (2, vI (nI p))], [], σ, cs, sl)
            exact ih (i + 1) (by omega) 0 (fun a' e9 => K a' (by rw [itF_succ, ← (show (0 : Int32) = (wf1 σ A q p) i a from by simp only [wf1, if_neg c1, if_neg nc1, if_pos c2, if_pos c3, if_pos c4, if_neg c5])]; exact e9))
          · refine w_run 5 (S' := (5, [(4, vI ((nI i) + 1)), (3, vI 1), (5, vI (nI (384 * p + 6 * i))), (0, vR (some m)), (1, vI (nI q)), (2, vI (nI p))], [], σ, cs, sl)) rfl ?_
            rw [show ((nI i) + 1 : Int32) = nI (i + 1) from by simp only [nl0, nl1, nl2, nl3, nl4, nl5, nl6, nl8, nl9, nl10, nl12, nl15, nl16, nl20, nl24, nl32, nl40, nl64, nl65, nl384, pk_mul, nI_add]]
            show WG _ _ _ _ _ _ _ (5, [(4, vI (nI (i + 1))), (3, vI 1), (5, vI (nI (384 * p + 6 * i))), (0, vR (some m)), (1, vI (nI q)), (2, vI (nI p))], [], σ, cs, sl)
            refine w_lsP [0, 1, 3, 4, 5] ?_
            show WG _ _ _ _ _ _ _ (5, [(4, vI (nI (i + 1))), (3, vI 1), (0, vR (some m)), (1, vI (nI q)), (2, vI (nI p))], [], σ, cs, sl)
            exact ih (i + 1) (by omega) 1 (fun a' e9 => K a' (by rw [itF_succ, ← (show (1 : Int32) = (wf1 σ A q p) i a from by simp only [wf1, if_neg c1, if_neg nc1, if_pos c2, if_pos c3, if_pos c4, if_pos c5])]; exact e9))
set_option maxHeartbeats 4000000 in
theorem lk_mo_wf2 (l : Launch) (E : FE) (d : Nat) (σ : Sg) (m : Nat) (A : Nat → Nat) (q p w n : Nat) (hM : MO σ m A) (hq : q < 4) (hp : p < 4) (hws : σ.1 720000 (A 21) p = nI w) (hw : w ≤ 64) (hop : σ.1 740000 (A 23) p = nI n) (hn : n ≤ 12) {mc ms cs sl : Nat} {args : Array Value} {XX : State → Prop} {QF : State → List Frame → State → Prop} (hcs : cs ≤ mc) (hsl : sl ≤ ms) : ∀ (k i : Nat), i + k = n → ∀ (a : Int32), (∀ (a' : Int32), a' = itF (wf2 σ A q p) k i a → WG l E (RM d mc ms) 80 args XX QF (154, [(3, vI a'), (0, vR (some m)), (1, vI (nI q)), (2, vI (nI p))], [], σ, cs, sl)) →
    WG l E (RM d mc ms) 80 args XX QF (90, [(4, vI (nI i)), (3, vI a), (0, vR (some m)), (1, vI (nI q)), (2, vI (nI p))], [], σ, cs, sl) := by
  intro k
  induction k with
  | zero =>
    intro i hi a K
    refine w_run 2 (S' := (93, [(4, vI (nI i)), (3, vI a), (0, vR (some m)), (1, vI (nI q)), (2, vI (nI p))], [vR (some m), vI (nI i)], σ, cs, sl)) rfl ?_
    refine w_get (k := 50) (vR (σ.2.1 502674 m 0)) rfl rfl rfl hM.1 rfl rfl ?_
    refine w_run 1 (S' := (97, [(4, vI (nI i)), (3, vI a), (0, vR (some m)), (1, vI (nI q)), (2, vI (nI p))], [vI (nI p), vR (σ.2.1 502674 m 0), vI (nI i)], σ, cs, sl)) rfl ?_
    refine w_iald (k := 74) rfl ((hM.2 23 (by decide)).1) ((hM.2 23 (by decide)).2) rfl (show vp_in (nI p) 4 from vp_in_nI (n := p) (by omega) (by decide)) ?_
    show WG _ _ _ _ _ _ _ (98, [(4, vI (nI i)), (3, vI a), (0, vR (some m)), (1, vI (nI q)), (2, vI (nI p))], [vI (σ.1 740000 (A 23) (nI p).toNatClampNeg), vI (nI i)], σ, cs, sl)
    rw [show (nI p : Int32).toNatClampNeg = p from nI_clamp (n := p) (by omega)]
    show WG _ _ _ _ _ _ _ (98, [(4, vI (nI i)), (3, vI a), (0, vR (some m)), (1, vI (nI q)), (2, vI (nI p))], [vI (σ.1 740000 (A 23) p), vI (nI i)], σ, cs, sl)
    refine Eq.mp (congrArg (fun x9 => WG _ _ _ _ _ _ _ (98, [(4, vI (nI i)), (3, vI a), (0, vR (some m)), (1, vI (nI q)), (2, vI (nI p))], [vI x9, vI (nI i)], σ, cs, sl)) (hop.symm : nI n = σ.1 740000 (A 23) p)) ?_
    show WG _ _ _ _ _ _ _ (98, [(4, vI (nI i)), (3, vI a), (0, vR (some m)), (1, vI (nI q)), (2, vI (nI p))], [vI (nI n), vI (nI i)], σ, cs, sl)
    refine w_ic_ge rfl (fun c1 => ?_) (fun c1 => (absurd ((nI_leI (a := n) (b := i) (by omega) (by omega)).mpr (by omega)) c1))
    have nc1 := (nI_leI (a := n) (b := i) (by omega) (by omega)).mp c1
    refine w_lsP [1, 2, 3, 4] ?_
    show WG _ _ _ _ _ _ _ (154, [(3, vI a), (0, vR (some m)), (1, vI (nI q)), (2, vI (nI p))], [], σ, cs, sl)
    exact K a rfl
  | succ k ih =>
    intro i hi a K
    refine w_run 2 (S' := (93, [(4, vI (nI i)), (3, vI a), (0, vR (some m)), (1, vI (nI q)), (2, vI (nI p))], [vR (some m), vI (nI i)], σ, cs, sl)) rfl ?_
    refine w_get (k := 50) (vR (σ.2.1 502674 m 0)) rfl rfl rfl hM.1 rfl rfl ?_
    refine w_run 1 (S' := (97, [(4, vI (nI i)), (3, vI a), (0, vR (some m)), (1, vI (nI q)), (2, vI (nI p))], [vI (nI p), vR (σ.2.1 502674 m 0), vI (nI i)], σ, cs, sl)) rfl ?_
    refine w_iald (k := 74) rfl ((hM.2 23 (by decide)).1) ((hM.2 23 (by decide)).2) rfl (show vp_in (nI p) 4 from vp_in_nI (n := p) (by omega) (by decide)) ?_
    show WG _ _ _ _ _ _ _ (98, [(4, vI (nI i)), (3, vI a), (0, vR (some m)), (1, vI (nI q)), (2, vI (nI p))], [vI (σ.1 740000 (A 23) (nI p).toNatClampNeg), vI (nI i)], σ, cs, sl)
    rw [show (nI p : Int32).toNatClampNeg = p from nI_clamp (n := p) (by omega)]
    show WG _ _ _ _ _ _ _ (98, [(4, vI (nI i)), (3, vI a), (0, vR (some m)), (1, vI (nI q)), (2, vI (nI p))], [vI (σ.1 740000 (A 23) p), vI (nI i)], σ, cs, sl)
    refine Eq.mp (congrArg (fun x9 => WG _ _ _ _ _ _ _ (98, [(4, vI (nI i)), (3, vI a), (0, vR (some m)), (1, vI (nI q)), (2, vI (nI p))], [vI x9, vI (nI i)], σ, cs, sl)) (hop.symm : nI n = σ.1 740000 (A 23) p)) ?_
    show WG _ _ _ _ _ _ _ (98, [(4, vI (nI i)), (3, vI a), (0, vR (some m)), (1, vI (nI q)), (2, vI (nI p))], [vI (nI n), vI (nI i)], σ, cs, sl)
    refine w_ic_ge rfl (fun c1 => (absurd ((nI_leI (a := n) (b := i) (by omega) (by omega)).mp c1) (by omega))) (fun c1 => ?_)
    have nc1 := mt (nI_leI (a := n) (b := i) (by omega) (by omega)).mpr c1
    refine w_run 1 (S' := (102, [(4, vI (nI i)), (3, vI a), (0, vR (some m)), (1, vI (nI q)), (2, vI (nI p))], [vI a], σ, cs, sl)) rfl ?_
    refine w_if_ne rfl (fun c2 => ?_) (fun c2 => ?_)
    · refine w_run 5 (S' := (90, [(4, vI ((nI i) + 1)), (3, vI 1), (0, vR (some m)), (1, vI (nI q)), (2, vI (nI p))], [], σ, cs, sl)) rfl ?_
      rw [show ((nI i) + 1 : Int32) = nI (i + 1) from by simp only [nl0, nl1, nl2, nl3, nl4, nl5, nl6, nl8, nl9, nl10, nl12, nl15, nl16, nl20, nl24, nl32, nl40, nl64, nl65, nl384, pk_mul, nI_add]]
      show WG _ _ _ _ _ _ _ (90, [(4, vI (nI (i + 1))), (3, vI 1), (0, vR (some m)), (1, vI (nI q)), (2, vI (nI p))], [], σ, cs, sl)
      exact ih (i + 1) (by omega) 1 (fun a' e9 => K a' (by rw [itF_succ, ← (show (1 : Int32) = (wf2 σ A q p) i a from by simp only [wf2, if_neg c1, if_neg nc1, if_neg c2])]; exact e9))
    · refine w_run 1 (S' := (106, [(4, vI (nI i)), (3, vI a), (0, vR (some m)), (1, vI (nI q)), (2, vI (nI p))], [vR (some m)], σ, cs, sl)) rfl ?_
      refine w_get (k := 50) (vR (σ.2.1 502775 m 0)) rfl rfl rfl hM.1 rfl rfl ?_
      refine w_run 5 (S' := (116, [(4, vI (nI i)), (3, vI a), (0, vR (some m)), (1, vI (nI q)), (2, vI (nI p))], [vI ((12 * (nI p)) + (nI i)), vR (σ.2.1 502775 m 0)], σ, cs, sl)) rfl ?_
      rw [show ((12 * (nI p)) + (nI i) : Int32) = nI (12 * p + i) from by simp only [nl0, nl1, nl2, nl3, nl4, nl5, nl6, nl8, nl9, nl10, nl12, nl15, nl16, nl20, nl24, nl32, nl40, nl64, nl65, nl384, pk_mul, nI_add]]
      show WG _ _ _ _ _ _ _ (116, [(4, vI (nI i)), (3, vI a), (0, vR (some m)), (1, vI (nI q)), (2, vI (nI p))], [vI (nI (12 * p + i)), vR (σ.2.1 502775 m 0)], σ, cs, sl)
      refine w_iald (k := 75) rfl ((hM.2 24 (by decide)).1) ((hM.2 24 (by decide)).2) rfl (show vp_in (nI (12 * p + i)) 48 from vp_in_nI (n := 12 * p + i) (by omega) (by decide)) ?_
      show WG _ _ _ _ _ _ _ (117, [(4, vI (nI i)), (3, vI a), (0, vR (some m)), (1, vI (nI q)), (2, vI (nI p))], [vI (σ.1 750000 (A 24) (nI (12 * p + i)).toNatClampNeg)], σ, cs, sl)
      rw [show (nI (12 * p + i) : Int32).toNatClampNeg = 12 * p + i from nI_clamp (n := 12 * p + i) (by omega)]
      show WG _ _ _ _ _ _ _ (117, [(4, vI (nI i)), (3, vI a), (0, vR (some m)), (1, vI (nI q)), (2, vI (nI p))], [vI (σ.1 750000 (A 24) (12 * p + i))], σ, cs, sl)
      refine w_run 1 (S' := (118, [(4, vI (nI i)), (3, vI a), (0, vR (some m)), (1, vI (nI q)), (2, vI (nI p))], [vI (nI q), vI (σ.1 750000 (A 24) (12 * p + i))], σ, cs, sl)) rfl ?_
      refine w_ic_ne rfl (fun c3 => ?_) (fun c3 => ?_)
      · refine w_run 4 (S' := (90, [(4, vI ((nI i) + 1)), (3, vI 0), (0, vR (some m)), (1, vI (nI q)), (2, vI (nI p))], [], σ, cs, sl)) rfl ?_
        rw [show ((nI i) + 1 : Int32) = nI (i + 1) from by simp only [nl0, nl1, nl2, nl3, nl4, nl5, nl6, nl8, nl9, nl10, nl12, nl15, nl16, nl20, nl24, nl32, nl40, nl64, nl65, nl384, pk_mul, nI_add]]
        show WG _ _ _ _ _ _ _ (90, [(4, vI (nI (i + 1))), (3, vI 0), (0, vR (some m)), (1, vI (nI q)), (2, vI (nI p))], [], σ, cs, sl)
        exact ih (i + 1) (by omega) 0 (fun a' e9 => K a' (by rw [itF_succ, ← (show (0 : Int32) = (wf2 σ A q p) i a from by simp only [wf2, if_neg c1, if_neg nc1, if_pos c2, if_neg c3])]; exact e9))
      · refine w_run 1 (S' := (122, [(4, vI (nI i)), (3, vI a), (0, vR (some m)), (1, vI (nI q)), (2, vI (nI p))], [vR (some m)], σ, cs, sl)) rfl ?_
        refine w_get (k := 50) (vR (σ.2.1 502876 m 0)) rfl rfl rfl hM.1 rfl rfl ?_
        refine w_run 5 (S' := (132, [(4, vI (nI i)), (3, vI a), (0, vR (some m)), (1, vI (nI q)), (2, vI (nI p))], [vI ((12 * (nI p)) + (nI i)), vR (σ.2.1 502876 m 0)], σ, cs, sl)) rfl ?_
        rw [show ((12 * (nI p)) + (nI i) : Int32) = nI (12 * p + i) from by simp only [nl0, nl1, nl2, nl3, nl4, nl5, nl6, nl8, nl9, nl10, nl12, nl15, nl16, nl20, nl24, nl32, nl40, nl64, nl65, nl384, pk_mul, nI_add]]
        show WG _ _ _ _ _ _ _ (132, [(4, vI (nI i)), (3, vI a), (0, vR (some m)), (1, vI (nI q)), (2, vI (nI p))], [vI (nI (12 * p + i)), vR (σ.2.1 502876 m 0)], σ, cs, sl)
        refine w_iald (k := 76) rfl ((hM.2 25 (by decide)).1) ((hM.2 25 (by decide)).2) rfl (show vp_in (nI (12 * p + i)) 48 from vp_in_nI (n := 12 * p + i) (by omega) (by decide)) ?_
        show WG _ _ _ _ _ _ _ (133, [(4, vI (nI i)), (3, vI a), (0, vR (some m)), (1, vI (nI q)), (2, vI (nI p))], [vI (σ.1 760000 (A 25) (nI (12 * p + i)).toNatClampNeg)], σ, cs, sl)
        rw [show (nI (12 * p + i) : Int32).toNatClampNeg = 12 * p + i from nI_clamp (n := 12 * p + i) (by omega)]
        show WG _ _ _ _ _ _ _ (133, [(4, vI (nI i)), (3, vI a), (0, vR (some m)), (1, vI (nI q)), (2, vI (nI p))], [vI (σ.1 760000 (A 25) (12 * p + i))], σ, cs, sl)
        refine w_run 1 (S' := (134, [(4, vI (nI i)), (3, vI a), (0, vR (some m)), (1, vI (nI q)), (2, vI (nI p))], [vR (some m), vI (σ.1 760000 (A 25) (12 * p + i))], σ, cs, sl)) rfl ?_
        refine w_get (k := 50) (vR (σ.2.1 500252 m 0)) rfl rfl rfl hM.1 rfl rfl ?_
        refine w_run 1 (S' := (138, [(4, vI (nI i)), (3, vI a), (0, vR (some m)), (1, vI (nI q)), (2, vI (nI p))], [vI (nI q), vR (σ.2.1 500252 m 0), vI (σ.1 760000 (A 25) (12 * p + i))], σ, cs, sl)) rfl ?_
        refine w_iald (k := 52) rfl ((hM.2 1 (by decide)).1) ((hM.2 1 (by decide)).2) rfl (show vp_in (nI q) 4 from vp_in_nI (n := q) (by omega) (by decide)) ?_
        show WG _ _ _ _ _ _ _ (139, [(4, vI (nI i)), (3, vI a), (0, vR (some m)), (1, vI (nI q)), (2, vI (nI p))], [vI (σ.1 520000 (A 1) (nI q).toNatClampNeg), vI (σ.1 760000 (A 25) (12 * p + i))], σ, cs, sl)
        rw [show (nI q : Int32).toNatClampNeg = q from nI_clamp (n := q) (by omega)]
        show WG _ _ _ _ _ _ _ (139, [(4, vI (nI i)), (3, vI a), (0, vR (some m)), (1, vI (nI q)), (2, vI (nI p))], [vI (σ.1 520000 (A 1) q), vI (σ.1 760000 (A 25) (12 * p + i))], σ, cs, sl)
        refine w_ic_ne rfl (fun c4 => ?_) (fun c4 => ?_)
        · refine w_run 4 (S' := (90, [(4, vI ((nI i) + 1)), (3, vI 0), (0, vR (some m)), (1, vI (nI q)), (2, vI (nI p))], [], σ, cs, sl)) rfl ?_
          rw [show ((nI i) + 1 : Int32) = nI (i + 1) from by simp only [nl0, nl1, nl2, nl3, nl4, nl5, nl6, nl8, nl9, nl10, nl12, nl15, nl16, nl20, nl24, nl32, nl40, nl64, nl65, nl384, pk_mul, nI_add]]
          show WG _ _ _ _ _ _ _ (90, [(4, vI (nI (i + 1))), (3, vI 0), (0, vR (some m)), (1, vI (nI q)), (2, vI (nI p))], [], σ, cs, sl)
          exact ih (i + 1) (by omega) 0 (fun a' e9 => K a' (by rw [itF_succ, ← (show (0 : Int32) = (wf2 σ A q p) i a from by simp only [wf2, if_neg c1, if_neg nc1, if_pos c2, if_pos c3, if_neg c4])]; exact e9))
        · refine w_run 5 (S' := (90, [(4, vI ((nI i) + 1)), (3, vI 1), (0, vR (some m)), (1, vI (nI q)), (2, vI (nI p))], [], σ, cs, sl)) rfl ?_
          rw [show ((nI i) + 1 : Int32) = nI (i + 1) from by simp only [nl0, nl1, nl2, nl3, nl4, nl5, nl6, nl8, nl9, nl10, nl12, nl15, nl16, nl20, nl24, nl32, nl40, nl64, nl65, nl384, pk_mul, nI_add]]
          show WG _ _ _ _ _ _ _ (90, [(4, vI (nI (i + 1))), (3, vI 1), (0, vR (some m)), (1, vI (nI q)), (2, vI (nI p))], [], σ, cs, sl)
          exact ih (i + 1) (by omega) 1 (fun a' e9 => K a' (by rw [itF_succ, ← (show (1 : Int32) = (wf2 σ A q p) i a from by simp only [wf2, if_neg c1, if_neg nc1, if_pos c2, if_pos c3, if_pos c4])]; exact e9))
def wfR (σ : Sg) (A : Nat → Nat) (q p w n : Nat) : Int32 := if itF (wf2 σ A q p) n 0 (itF (wf1 σ A q p) w 0 0) = 0 then 0 else if σ.1 510000 (A 0) q = 0 then 0 else 1
set_option maxHeartbeats 4000000 in
theorem c_mo_waitsFor (l : Launch) (E : FE) (d : Nat) (σ : Sg) (m : Nat) (A : Nat → Nat) (q p w n : Nat) (hM : MO σ m A) (hq : q < 4) (hp : p < 4) (hws : σ.1 720000 (A 21) p = nI w) (hw : w ≤ 64) (hop : σ.1 740000 (A 23) p = nI n) (hn : n ≤ 12) : CT l E d 80 [vR (some m), vI (nI q), vI (nI p)] σ 0 0 (fun r σ' => r = some (vI (wfR σ A q p w n)) ∧ σ' = σ) (fun _ _ => False) := by
  refine CTo ok_mo_waitsFor (by decide +kernel) rfl rfl rfl ?_
  refine w_run 4 (S' := (5, [(4, vI 0), (3, vI 0), (0, vR (some m)), (1, vI (nI q)), (2, vI (nI p))], [], σ, 0, 0)) rfl ?_
  refine lk_mo_wf1 l E d σ m A q p w n hM hq hp hws hw hop hn (Nat.le_refl _) (Nat.le_refl _) w 0 (by omega) 0 (fun a1 e1 => ?_)
  show WG _ _ _ _ _ _ _ (87, [(3, vI a1), (0, vR (some m)), (1, vI (nI q)), (2, vI (nI p))], [], σ, 0, 0)
  refine w_run 2 (S' := (90, [(4, vI 0), (3, vI a1), (0, vR (some m)), (1, vI (nI q)), (2, vI (nI p))], [], σ, 0, 0)) rfl ?_
  refine lk_mo_wf2 l E d σ m A q p w n hM hq hp hws hw hop hn (Nat.le_refl _) (Nat.le_refl _) n 0 (by omega) a1 (fun a2 e2 => ?_)
  show WG _ _ _ _ _ _ _ (154, [(3, vI a2), (0, vR (some m)), (1, vI (nI q)), (2, vI (nI p))], [], σ, 0, 0)
  refine w_run 1 (S' := (155, [(3, vI a2), (0, vR (some m)), (1, vI (nI q)), (2, vI (nI p))], [vI a2], σ, 0, 0)) rfl ?_
  refine w_if_eq rfl (fun c3 => ?_) (fun c3 => ?_)
  · refine w_run 1 (S' := (172, [(3, vI a2), (0, vR (some m)), (1, vI (nI q)), (2, vI (nI p))], [vI 0], σ, 0, 0)) rfl ?_
    exact w_iret rfl (Or.inr ⟨rfl, Or.inl rfl⟩) (by omega) (by omega) (⟨by unfold wfR; rw [← e1, ← e2]; simp only [if_pos c3], rfl⟩)
  · refine w_run 1 (S' := (159, [(3, vI a2), (0, vR (some m)), (1, vI (nI q)), (2, vI (nI p))], [vR (some m)], σ, 0, 0)) rfl ?_
    refine w_get (k := 50) (vR (σ.2.1 500151 m 0)) rfl rfl rfl hM.1 rfl rfl ?_
    refine w_run 1 (S' := (163, [(3, vI a2), (0, vR (some m)), (1, vI (nI q)), (2, vI (nI p))], [vI (nI q), vR (σ.2.1 500151 m 0)], σ, 0, 0)) rfl ?_
    refine w_zald (k := 51) rfl ((hM.2 0 (by decide)).1) ((hM.2 0 (by decide)).2) rfl (show vp_in (nI q) 4 from vp_in_nI (n := q) (by omega) (by decide)) ?_
    show WG _ _ _ _ _ _ _ (164, [(3, vI a2), (0, vR (some m)), (1, vI (nI q)), (2, vI (nI p))], [vI (σ.1 510000 (A 0) (nI q).toNatClampNeg)], σ, 0, 0)
    rw [show (nI q : Int32).toNatClampNeg = q from nI_clamp (n := q) (by omega)]
    show WG _ _ _ _ _ _ _ (164, [(3, vI a2), (0, vR (some m)), (1, vI (nI q)), (2, vI (nI p))], [vI (σ.1 510000 (A 0) q)], σ, 0, 0)
    refine w_if_eq rfl (fun c4 => ?_) (fun c4 => ?_)
    · refine w_run 1 (S' := (172, [(3, vI a2), (0, vR (some m)), (1, vI (nI q)), (2, vI (nI p))], [vI 0], σ, 0, 0)) rfl ?_
      exact w_iret rfl (Or.inr ⟨rfl, Or.inl rfl⟩) (by omega) (by omega) (⟨by unfold wfR; rw [← e1, ← e2]; simp only [if_neg c3, if_pos c4], rfl⟩)
    · refine w_run 2 (S' := (172, [(3, vI a2), (0, vR (some m)), (1, vI (nI q)), (2, vI (nI p))], [vI 1], σ, 0, 0)) rfl ?_
      exact w_iret rfl (Or.inr ⟨rfl, Or.inr rfl⟩) (by omega) (by omega) (⟨by unfold wfR; rw [← e1, ← e2]; simp only [if_neg c3, if_neg c4], rfl⟩)

