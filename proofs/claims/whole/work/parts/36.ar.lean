/-! Handles.empty, Area, the plain constructors -/
def hseF (a1 a2 a3 : Nat) : Nat → Sg → Sg := fun i τ => sI (sI (sO τ 120003 a1 i none) 130000 a2 i 0) 140000 a3 i 0
set_option maxHeartbeats 4000000 in
theorem lk_hs_empty (l : Launch) (E : FE) (d : Nat) (σ : Sg) (a a1 a2 a3 : Nat) {mc ms cs sl : Nat} {args : Array Value} {XX : State → Prop} {QF : State → List Frame → State → Prop} (hcs : cs ≤ mc) (hsl : sl ≤ ms) : ∀ (k i : Nat), i + k = 16 → 1 ≤ i → ∀ (τ : Sg), τ.2.2.2 a = 8 → τ.2.1 80012 a 0 = some a1 → τ.2.1 80113 a 0 = some a2 → τ.2.1 80214 a 0 = some a3 → WF τ → (∀ (τ' : Sg), τ' = itF (hseF a1 a2 a3) k i τ → τ'.2.2.2 a = 8 → τ'.2.1 80012 a 0 = some a1 → τ'.2.1 80113 a 0 = some a2 → τ'.2.1 80214 a 0 = some a3 → WF τ' → WG l E (RM d mc ms) 24 args XX QF (35, [(0, vR (some a))], [], τ', cs, sl)) →
    WG l E (RM d mc ms) 24 args XX QF (2, [(1, vI (nI i)), (0, vR (some a))], [], τ, cs, sl) := by
  intro k
  induction k with
  | zero =>
    intro i hi hlo τ hk h1 h2 h3 hw K
    refine w_run 2 (S' := (5, [(1, vI (nI i)), (0, vR (some a))], [vI 15, vI (nI i)], τ, cs, sl)) rfl ?_
    refine w_ic_gt rfl (fun c1 => ?_) (fun c1 => (absurd ((nI_ltI (a := 15) (b := i) (by omega) (by omega)).mpr (by omega)) c1))
    have nc1 := (nI_ltI (a := 15) (b := i) (by omega) (by omega)).mp c1
    refine w_lsP [1] ?_
    show WG _ _ _ _ _ _ _ (35, [(0, vR (some a))], [], τ, cs, sl)
    exact K τ rfl hk h1 h2 h3 hw
  | succ k ih =>
    intro i hi hlo τ hk h1 h2 h3 hw K
    refine w_run 2 (S' := (5, [(1, vI (nI i)), (0, vR (some a))], [vI 15, vI (nI i)], τ, cs, sl)) rfl ?_
    refine w_ic_gt rfl (fun c1 => (absurd ((nI_ltI (a := 15) (b := i) (by omega) (by omega)).mp c1) (by omega))) (fun c1 => ?_)
    have nc1 := mt (nI_ltI (a := 15) (b := i) (by omega) (by omega)).mpr c1
    refine w_run 1 (S' := (9, [(1, vI (nI i)), (0, vR (some a))], [vR (some a)], τ, cs, sl)) rfl ?_
    refine w_get (k := 8) (vR (τ.2.1 80012 a 0)) rfl rfl rfl hk rfl rfl ?_
    refine w_run 2 (S' := (14, [(1, vI (nI i)), (0, vR (some a))], [vR none, vI (nI i), vR (τ.2.1 80012 a 0)], τ, cs, sl)) rfl ?_
    refine w_aastN (k := 12) rfl h1 (hw 80012 a 0 a1 h1 (by decide)) rfl (by decide) rfl (show vp_in (nI i) 16 from vp_in_nI (n := i) (by omega) (by decide)) ?_
    show WG _ _ _ _ _ _ _ (15, [(1, vI (nI i)), (0, vR (some a))], [], sO τ 120003 a1 ((nI i).toNatClampNeg) none, cs, sl)
    rw [show (nI i : Int32).toNatClampNeg = i from nI_clamp (n := i) (by omega)]
    refine w_run 1 (S' := (16, [(1, vI (nI i)), (0, vR (some a))], [vR (some a)], sO τ 120003 a1 i none, cs, sl)) rfl ?_
    refine w_get (k := 8) (vR (τ.2.1 80113 a 0)) rfl rfl rfl hk rfl rfl ?_
    refine w_run 2 (S' := (21, [(1, vI (nI i)), (0, vR (some a))], [vI 0, vI (nI i), vR (τ.2.1 80113 a 0)], sO τ 120003 a1 i none, cs, sl)) rfl ?_
    refine w_iast (k := 13) rfl h2 (hw 80113 a 0 a2 h2 (by decide)) rfl (show vp_in (nI i) 16 from vp_in_nI (n := i) (by omega) (by decide)) ?_
    show WG _ _ _ _ _ _ _ (22, [(1, vI (nI i)), (0, vR (some a))], [], sI (sO τ 120003 a1 i none) 130000 a2 ((nI i).toNatClampNeg) 0, cs, sl)
    rw [show (nI i : Int32).toNatClampNeg = i from nI_clamp (n := i) (by omega)]
    refine w_run 1 (S' := (23, [(1, vI (nI i)), (0, vR (some a))], [vR (some a)], sI (sO τ 120003 a1 i none) 130000 a2 i 0, cs, sl)) rfl ?_
    refine w_get (k := 8) (vR (τ.2.1 80214 a 0)) rfl rfl rfl hk rfl rfl ?_
    refine w_run 2 (S' := (28, [(1, vI (nI i)), (0, vR (some a))], [vI 0, vI (nI i), vR (τ.2.1 80214 a 0)], sI (sO τ 120003 a1 i none) 130000 a2 i 0, cs, sl)) rfl ?_
    refine w_iast (k := 14) rfl h3 (hw 80214 a 0 a3 h3 (by decide)) rfl (show vp_in (nI i) 16 from vp_in_nI (n := i) (by omega) (by decide)) ?_
    show WG _ _ _ _ _ _ _ (29, [(1, vI (nI i)), (0, vR (some a))], [], sI (sI (sO τ 120003 a1 i none) 130000 a2 i 0) 140000 a3 ((nI i).toNatClampNeg) 0, cs, sl)
    rw [show (nI i : Int32).toNatClampNeg = i from nI_clamp (n := i) (by omega)]
    refine w_run 2 (S' := (2, [(1, vI ((nI i) + 1)), (0, vR (some a))], [], sI (sI (sO τ 120003 a1 i none) 130000 a2 i 0) 140000 a3 i 0, cs, sl)) rfl ?_
    rw [show ((nI i) + 1 : Int32) = nI (i + 1) from by simp only [nl0, nl1, nl2, nl3, nl4, nl5, nl6, nl8, nl9, nl10, nl12, nl15, nl16, nl20, nl24, nl32, nl40, nl64, nl65, nl384, pk_mul, nI_add]]
    show WG _ _ _ _ _ _ _ (2, [(1, vI (nI (i + 1))), (0, vR (some a))], [], sI (sI (sO τ 120003 a1 i none) 130000 a2 i 0) 140000 a3 i 0, cs, sl)
    exact ih (i + 1) (by omega) (by omega) (sI (sI (sO τ 120003 a1 i none) 130000 a2 i 0) 140000 a3 i 0) (hk) (h1) (h2) (h3) (WF.oN hw) (fun τ' e9 q90 q91 q92 q93 q94 => K τ' (by rw [itF_succ, ← (show ((sI (sI (sO τ 120003 a1 i none) 130000 a2 i 0) 140000 a3 i 0) : Sg) = (hseF a1 a2 a3) i τ from by simp [hseF, c1, nc1])]; exact e9) q90 q91 q92 q93 q94)
set_option maxHeartbeats 4000000 in
theorem c_hs_empty (l : Launch) (E : FE) (d : Nat) (σ : Sg) (a a1 a2 a3 : Nat) (hk : σ.2.2.2 a = 8) (h1 : σ.2.1 80012 a 0 = some a1) (h2 : σ.2.1 80113 a 0 = some a2) (h3 : σ.2.1 80214 a 0 = some a3) (hw : WF σ) : CT l E d 24 [vR (some a)] σ 0 0 (fun r σ' => r = none ∧ σ' = sI (itF (hseF a1 a2 a3) 15 1 σ) 80300 a 0 0) (fun _ _ => False) := by
  refine CTo ok_hs_empty (by decide +kernel) rfl rfl rfl ?_
  refine w_run 2 (S' := (2, [(1, vI 1), (0, vR (some a))], [], σ, 0, 0)) rfl ?_
  refine lk_hs_empty l E d σ a a1 a2 a3 (Nat.le_refl _) (Nat.le_refl _) 15 1 (by omega) (by omega) σ hk h1 h2 h3 hw (fun τ1 e1 hk1 _ _ _ hw1 => ?_)
  show WG _ _ _ _ _ _ _ (35, [(0, vR (some a))], [], τ1, 0, 0)
  refine w_run 2 (S' := (37, [(0, vR (some a))], [vI 0, vR (some a)], τ1, 0, 0)) rfl ?_
  refine w_puti (k := 8) rfl rfl rfl hk1 rfl rfl (Or.inl rfl) (Or.inl rfl) ?_
  show WG _ _ _ _ _ _ _ (40, [(0, vR (some a))], [], sI τ1 80300 a 0 0, 0, 0)
  exact w_vret rfl rfl (by omega) (by omega) (⟨rfl, by rw [e1]⟩)

def bgF (bg : Nat → Option Nat) (cl : Nat → Int32) (need : Int32) : Nat → Int32 × Int32 × Int32 → Int32 × Int32 × Int32 := fun i s =>
  if i = 64 then (if nI i - s.2.2 < need then s else if nI i - s.2.2 ≥ s.2.1 then s else (s.2.2, nI i - s.2.2, s.2.2))
  else match bg i with
    | none => s
    | some m => if nI i - s.2.2 < need then (s.1, s.2.1, nI i + cl m) else if nI i - s.2.2 ≥ s.2.1 then (s.1, s.2.1, nI i + cl m) else (s.2.2, nI i - s.2.2, nI i + cl m)
def bgR (σ : Sg) (a1 : Nat) (need : Int32) : Int32 := (itF (bgF (σ.2.1 150006 a1) (fun m => σ.1 60400 m 0) need) 65 0 (-1, 65, 0)).1
set_option maxHeartbeats 4000000 in
theorem lk_ar_bestGap (l : Launch) (E : FE) (d : Nat) (σ : Sg) (a a1 : Nat) (need : Int32) (hk : σ.2.2.2 a = 9) (h1 : σ.2.1 90015 a 0 = some a1) (hw : WF σ) {mc ms cs sl : Nat} {args : Array Value} {XX : State → Prop} {QF : State → List Frame → State → Prop} (hcs : cs ≤ mc) (hsl : sl ≤ ms) : ∀ (k i : Nat), i + k = 65 → ∀ (be : Int32) (bl : Int32) (g : Int32), (∀ (be' : Int32) (bl' : Int32) (g' : Int32), (be', bl', g') = itF (bgF (σ.2.1 150006 a1) (fun m => σ.1 60400 m 0) need) k i (be, bl, g) → WG l E (RM d mc ms) 26 args XX QF (101, [(2, vI be'), (0, vR (some a)), (1, vI need)], [], σ, cs, sl)) →
    WG l E (RM d mc ms) 26 args XX QF (11, [(5, vI (nI i)), (4, vI g), (3, vI bl), (2, vI be), (0, vR (some a)), (1, vI need)], [], σ, cs, sl) := by
  intro k
  induction k with
  | zero =>
    intro i hi be bl g K
    refine w_run 2 (S' := (15, [(5, vI (nI i)), (4, vI g), (3, vI bl), (2, vI be), (0, vR (some a)), (1, vI need)], [vI 64, vI (nI i)], σ, cs, sl)) rfl ?_
    refine w_ic_gt rfl (fun c1 => ?_) (fun c1 => (absurd ((nI_ltI (a := 64) (b := i) (by omega) (by omega)).mpr (by omega)) c1))
    have nc1 := (nI_ltI (a := 64) (b := i) (by omega) (by omega)).mp c1
    refine w_lsP [3, 4, 5] ?_
    show WG _ _ _ _ _ _ _ (101, [(2, vI be), (0, vR (some a)), (1, vI need)], [], σ, cs, sl)
    exact K be bl g rfl
  | succ k ih =>
    intro i hi be bl g K
    refine w_run 2 (S' := (15, [(5, vI (nI i)), (4, vI g), (3, vI bl), (2, vI be), (0, vR (some a)), (1, vI need)], [vI 64, vI (nI i)], σ, cs, sl)) rfl ?_
    refine w_ic_gt rfl (fun c1 => (absurd ((nI_ltI (a := 64) (b := i) (by omega) (by omega)).mp c1) (by omega))) (fun c1 => ?_)
    have nc1 := mt (nI_ltI (a := 64) (b := i) (by omega) (by omega)).mpr c1
    refine w_run 2 (S' := (22, [(5, vI (nI i)), (4, vI g), (3, vI bl), (2, vI be), (0, vR (some a)), (1, vI need)], [vI 64, vI (nI i)], σ, cs, sl)) rfl ?_
    refine w_ic_ne rfl (fun c2 => ?_) (fun c2 => ?_)
    · have nc2 := mt (nI_eq (a := i) (b := 64) (by omega) (by omega)).mpr c2
      refine w_run 3 (S' := (34, [(6, vI 0), (5, vI (nI i)), (4, vI g), (3, vI bl), (2, vI be), (0, vR (some a)), (1, vI need)], [vI 0], σ, cs, sl)) rfl ?_
      refine w_if_ne rfl (fun c3 => (absurd ((nI_eq (a := 0) (b := 0) (by omega) (by omega)).mpr (by omega)) c3)) (fun c3 => ?_)
      have nc3 := (nI_eq (a := 0) (b := 0) (by omega) (by omega)).mp c3
      refine w_run 1 (S' := (38, [(6, vI 0), (5, vI (nI i)), (4, vI g), (3, vI bl), (2, vI be), (0, vR (some a)), (1, vI need)], [vR (some a)], σ, cs, sl)) rfl ?_
      refine w_get (k := 9) (vR (σ.2.1 90015 a 0)) rfl rfl rfl hk rfl rfl ?_
      refine w_run 1 (S' := (43, [(6, vI 0), (5, vI (nI i)), (4, vI g), (3, vI bl), (2, vI be), (0, vR (some a)), (1, vI need)], [vI (nI i), vR (σ.2.1 90015 a 0)], σ, cs, sl)) rfl ?_
      refine w_aald (k := 15) rfl h1 (hw 90015 a 0 a1 h1 (by decide)) rfl rfl (show vp_in (nI i) 64 from vp_in_nI (n := i) (by omega) (by decide)) ?_
      show WG _ _ _ _ _ _ _ (44, [(6, vI 0), (5, vI (nI i)), (4, vI g), (3, vI bl), (2, vI be), (0, vR (some a)), (1, vI need)], [vR (σ.2.1 150006 a1 (nI i).toNatClampNeg)], σ, cs, sl)
      rw [show (nI i : Int32).toNatClampNeg = i from nI_clamp (n := i) (by omega)]
      show WG _ _ _ _ _ _ _ (44, [(6, vI 0), (5, vI (nI i)), (4, vI g), (3, vI bl), (2, vI be), (0, vR (some a)), (1, vI need)], [vR (σ.2.1 150006 a1 i)], σ, cs, sl)
      refine w_nonnull rfl (fun b5 c4 => ?_) (fun c4 => ?_)
      · refine w_run 6 (S' := (60, [(7, vI ((nI i) - g)), (6, vI 0), (5, vI (nI i)), (4, vI g), (3, vI bl), (2, vI be), (0, vR (some a)), (1, vI need)], [vI need, vI ((nI i) - g)], σ, cs, sl)) rfl ?_
        refine w_ic_lt rfl (fun c6 => ?_) (fun c6 => ?_)
        · refine w_run 1 (S' := (77, [(7, vI ((nI i) - g)), (6, vI 0), (5, vI (nI i)), (4, vI g), (3, vI bl), (2, vI be), (0, vR (some a)), (1, vI need)], [vI 0], σ, cs, sl)) rfl ?_
          refine w_if_ne rfl (fun c7 => (absurd c3 c7)) (fun c7 => ?_)
          have nc7 := (nI_eq (a := 0) (b := 0) (by omega) (by omega)).mp c7
          refine w_run 2 (S' := (83, [(7, vI ((nI i) - g)), (6, vI 0), (5, vI (nI i)), (4, vI g), (3, vI bl), (2, vI be), (0, vR (some a)), (1, vI need)], [vR (some a), vI (nI i)], σ, cs, sl)) rfl ?_
          refine w_get (k := 9) (vR (σ.2.1 90015 a 0)) rfl rfl rfl hk rfl rfl ?_
          refine w_run 1 (S' := (88, [(7, vI ((nI i) - g)), (6, vI 0), (5, vI (nI i)), (4, vI g), (3, vI bl), (2, vI be), (0, vR (some a)), (1, vI need)], [vI (nI i), vR (σ.2.1 90015 a 0), vI (nI i)], σ, cs, sl)) rfl ?_
          refine w_aald (k := 15) rfl h1 (hw 90015 a 0 a1 h1 (by decide)) rfl rfl (show vp_in (nI i) 64 from vp_in_nI (n := i) (by omega) (by decide)) ?_
          show WG _ _ _ _ _ _ _ (89, [(7, vI ((nI i) - g)), (6, vI 0), (5, vI (nI i)), (4, vI g), (3, vI bl), (2, vI be), (0, vR (some a)), (1, vI need)], [vR (σ.2.1 150006 a1 (nI i).toNatClampNeg), vI (nI i)], σ, cs, sl)
          rw [show (nI i : Int32).toNatClampNeg = i from nI_clamp (n := i) (by omega)]
          show WG _ _ _ _ _ _ _ (89, [(7, vI ((nI i) - g)), (6, vI 0), (5, vI (nI i)), (4, vI g), (3, vI bl), (2, vI be), (0, vR (some a)), (1, vI need)], [vR (σ.2.1 150006 a1 i), vI (nI i)], σ, cs, sl)
          refine w_get (k := 6) (vI (σ.1 60400 b5 0)) rfl rfl c4 (hw 150006 a1 i b5 c4 (by decide)) rfl rfl ?_
          refine w_run 4 (S' := (11, [(5, vI ((nI i) + 1)), (4, vI ((nI i) + (σ.1 60400 b5 0))), (7, vI ((nI i) - g)), (6, vI 0), (3, vI bl), (2, vI be), (0, vR (some a)), (1, vI need)], [], σ, cs, sl)) rfl ?_
          rw [show ((nI i) + 1 : Int32) = nI (i + 1) from by simp only [nl0, nl1, nl2, nl3, nl4, nl5, nl6, nl8, nl9, nl10, nl12, nl15, nl16, nl20, nl24, nl32, nl40, nl64, nl65, nl384, pk_mul, nI_add]]
          show WG _ _ _ _ _ _ _ (11, [(5, vI (nI (i + 1))), (4, vI ((nI i) + (σ.1 60400 b5 0))), (7, vI ((nI i) - g)), (6, vI 0), (3, vI bl), (2, vI be), (0, vR (some a)), (1, vI need)], [], σ, cs, sl)
          refine w_lsP [0, 1, 4, 5, 6, 7] ?_
          show WG _ _ _ _ _ _ _ (11, [(5, vI (nI (i + 1))), (4, vI ((nI i) + (σ.1 60400 b5 0))), (3, vI bl), (2, vI be), (0, vR (some a)), (1, vI need)], [], σ, cs, sl)
          exact ih (i + 1) (by omega) be bl ((nI i) + (σ.1 60400 b5 0)) (fun be' bl' g' e9 => K be' bl' g' (by rw [itF_succ, ← (show ((be, bl, (nI i) + (σ.1 60400 b5 0)) : Int32 × Int32 × Int32) = (bgF (σ.2.1 150006 a1) (fun m => σ.1 60400 m 0) need) i (be, bl, g) from by simp only [bgF, if_neg c1, if_neg nc1, if_neg c2, if_neg nc2, if_pos c3, if_pos nc3, c4, if_pos c6, if_pos c7, if_pos nc7])]; exact e9))
        · refine w_run 2 (S' := (66, [(7, vI ((nI i) - g)), (6, vI 0), (5, vI (nI i)), (4, vI g), (3, vI bl), (2, vI be), (0, vR (some a)), (1, vI need)], [vI bl, vI ((nI i) - g)], σ, cs, sl)) rfl ?_
          refine w_ic_ge rfl (fun c8 => ?_) (fun c8 => ?_)
          · refine w_run 1 (S' := (77, [(7, vI ((nI i) - g)), (6, vI 0), (5, vI (nI i)), (4, vI g), (3, vI bl), (2, vI be), (0, vR (some a)), (1, vI need)], [vI 0], σ, cs, sl)) rfl ?_
            refine w_if_ne rfl (fun c9 => (absurd c3 c9)) (fun c9 => ?_)
            have nc9 := (nI_eq (a := 0) (b := 0) (by omega) (by omega)).mp c9
            refine w_run 2 (S' := (83, [(7, vI ((nI i) - g)), (6, vI 0), (5, vI (nI i)), (4, vI g), (3, vI bl), (2, vI be), (0, vR (some a)), (1, vI need)], [vR (some a), vI (nI i)], σ, cs, sl)) rfl ?_
            refine w_get (k := 9) (vR (σ.2.1 90015 a 0)) rfl rfl rfl hk rfl rfl ?_
            refine w_run 1 (S' := (88, [(7, vI ((nI i) - g)), (6, vI 0), (5, vI (nI i)), (4, vI g), (3, vI bl), (2, vI be), (0, vR (some a)), (1, vI need)], [vI (nI i), vR (σ.2.1 90015 a 0), vI (nI i)], σ, cs, sl)) rfl ?_
            refine w_aald (k := 15) rfl h1 (hw 90015 a 0 a1 h1 (by decide)) rfl rfl (show vp_in (nI i) 64 from vp_in_nI (n := i) (by omega) (by decide)) ?_
            show WG _ _ _ _ _ _ _ (89, [(7, vI ((nI i) - g)), (6, vI 0), (5, vI (nI i)), (4, vI g), (3, vI bl), (2, vI be), (0, vR (some a)), (1, vI need)], [vR (σ.2.1 150006 a1 (nI i).toNatClampNeg), vI (nI i)], σ, cs, sl)
            rw [show (nI i : Int32).toNatClampNeg = i from nI_clamp (n := i) (by omega)]
            show WG _ _ _ _ _ _ _ (89, [(7, vI ((nI i) - g)), (6, vI 0), (5, vI (nI i)), (4, vI g), (3, vI bl), (2, vI be), (0, vR (some a)), (1, vI need)], [vR (σ.2.1 150006 a1 i), vI (nI i)], σ, cs, sl)
            refine w_get (k := 6) (vI (σ.1 60400 b5 0)) rfl rfl c4 (hw 150006 a1 i b5 c4 (by decide)) rfl rfl ?_
            refine w_run 4 (S' := (11, [(5, vI ((nI i) + 1)), (4, vI ((nI i) + (σ.1 60400 b5 0))), (7, vI ((nI i) - g)), (6, vI 0), (3, vI bl), (2, vI be), (0, vR (some a)), (1, vI need)], [], σ, cs, sl)) rfl ?_
            rw [show ((nI i) + 1 : Int32) = nI (i + 1) from by simp only [nl0, nl1, nl2, nl3, nl4, nl5, nl6, nl8, nl9, nl10, nl12, nl15, nl16, nl20, nl24, nl32, nl40, nl64, nl65, nl384, pk_mul, nI_add]]
            show WG _ _ _ _ _ _ _ (11, [(5, vI (nI (i + 1))), (4, vI ((nI i) + (σ.1 60400 b5 0))), (7, vI ((nI i) - g)), (6, vI 0), (3, vI bl), (2, vI be), (0, vR (some a)), (1, vI need)], [], σ, cs, sl)
            refine w_lsP [0, 1, 4, 5, 6, 7] ?_
            show WG _ _ _ _ _ _ _ (11, [(5, vI (nI (i + 1))), (4, vI ((nI i) + (σ.1 60400 b5 0))), (3, vI bl), (2, vI be), (0, vR (some a)), (1, vI need)], [], σ, cs, sl)
            exact ih (i + 1) (by omega) be bl ((nI i) + (σ.1 60400 b5 0)) (fun be' bl' g' e9 => K be' bl' g' (by rw [itF_succ, ← (show ((be, bl, (nI i) + (σ.1 60400 b5 0)) : Int32 × Int32 × Int32) = (bgF (σ.2.1 150006 a1) (fun m => σ.1 60400 m 0) need) i (be, bl, g) from by simp only [bgF, if_neg c1, if_neg nc1, if_neg c2, if_neg nc2, if_pos c3, if_pos nc3, c4, if_neg c6, if_pos c8, if_pos c9, if_pos nc9])]; exact e9))
          · refine w_run 5 (S' := (77, [(3, vI ((nI i) - g)), (2, vI g), (7, vI ((nI i) - g)), (6, vI 0), (5, vI (nI i)), (4, vI g), (0, vR (some a)), (1, vI need)], [vI 0], σ, cs, sl)) rfl ?_
            refine w_if_ne rfl (fun c10 => (absurd c3 c10)) (fun c10 => ?_)
            have nc10 := (nI_eq (a := 0) (b := 0) (by omega) (by omega)).mp c10
            refine w_run 2 (S' := (83, [(3, vI ((nI i) - g)), (2, vI g), (7, vI ((nI i) - g)), (6, vI 0), (5, vI (nI i)), (4, vI g), (0, vR (some a)), (1, vI need)], [vR (some a), vI (nI i)], σ, cs, sl)) rfl ?_
            refine w_get (k := 9) (vR (σ.2.1 90015 a 0)) rfl rfl rfl hk rfl rfl ?_
            refine w_run 1 (S' := (88, [(3, vI ((nI i) - g)), (2, vI g), (7, vI ((nI i) - g)), (6, vI 0), (5, vI (nI i)), (4, vI g), (0, vR (some a)), (1, vI need)], [vI (nI i), vR (σ.2.1 90015 a 0), vI (nI i)], σ, cs, sl)) rfl ?_
            refine w_aald (k := 15) rfl h1 (hw 90015 a 0 a1 h1 (by decide)) rfl rfl (show vp_in (nI i) 64 from vp_in_nI (n := i) (by omega) (by decide)) ?_
            show WG _ _ _ _ _ _ _ (89, [(3, vI ((nI i) - g)), (2, vI g), (7, vI ((nI i) - g)), (6, vI 0), (5, vI (nI i)), (4, vI g), (0, vR (some a)), (1, vI need)], [vR (σ.2.1 150006 a1 (nI i).toNatClampNeg), vI (nI i)], σ, cs, sl)
            rw [show (nI i : Int32).toNatClampNeg = i from nI_clamp (n := i) (by omega)]
            show WG _ _ _ _ _ _ _ (89, [(3, vI ((nI i) - g)), (2, vI g), (7, vI ((nI i) - g)), (6, vI 0), (5, vI (nI i)), (4, vI g), (0, vR (some a)), (1, vI need)], [vR (σ.2.1 150006 a1 i), vI (nI i)], σ, cs, sl)
            refine w_get (k := 6) (vI (σ.1 60400 b5 0)) rfl rfl c4 (hw 150006 a1 i b5 c4 (by decide)) rfl rfl ?_
            refine w_run 4 (S' := (11, [(5, vI ((nI i) + 1)), (4, vI ((nI i) + (σ.1 60400 b5 0))), (3, vI ((nI i) - g)), (2, vI g), (7, vI ((nI i) - g)), (6, vI 0), (0, vR (some a)), (1, vI need)], [], σ, cs, sl)) rfl ?_
            rw [show ((nI i) + 1 : Int32) = nI (i + 1) from by simp only [nl0, nl1, nl2, nl3, nl4, nl5, nl6, nl8, nl9, nl10, nl12, nl15, nl16, nl20, nl24, nl32, nl40, nl64, nl65, nl384, pk_mul, nI_add]]
            show WG _ _ _ _ _ _ _ (11, [(5, vI (nI (i + 1))), (4, vI ((nI i) + (σ.1 60400 b5 0))), (3, vI ((nI i) - g)), (2, vI g), (7, vI ((nI i) - g)), (6, vI 0), (0, vR (some a)), (1, vI need)], [], σ, cs, sl)
            refine w_lsP [0, 1, 2, 3, 6, 7] ?_
            show WG _ _ _ _ _ _ _ (11, [(5, vI (nI (i + 1))), (4, vI ((nI i) + (σ.1 60400 b5 0))), (3, vI ((nI i) - g)), (2, vI g), (0, vR (some a)), (1, vI need)], [], σ, cs, sl)
            exact ih (i + 1) (by omega) g ((nI i) - g) ((nI i) + (σ.1 60400 b5 0)) (fun be' bl' g' e9 => K be' bl' g' (by rw [itF_succ, ← (show ((g, (nI i) - g, (nI i) + (σ.1 60400 b5 0)) : Int32 × Int32 × Int32) = (bgF (σ.2.1 150006 a1) (fun m => σ.1 60400 m 0) need) i (be, bl, g) from by simp only [bgF, if_neg c1, if_neg nc1, if_neg c2, if_neg nc2, if_pos c3, if_pos nc3, c4, if_neg c6, if_neg c8, if_pos c10, if_pos nc10])]; exact e9))
      · refine w_run 3 (S' := (11, [(5, vI ((nI i) + 1)), (6, vI 0), (4, vI g), (3, vI bl), (2, vI be), (0, vR (some a)), (1, vI need)], [], σ, cs, sl)) rfl ?_
        rw [show ((nI i) + 1 : Int32) = nI (i + 1) from by simp only [nl0, nl1, nl2, nl3, nl4, nl5, nl6, nl8, nl9, nl10, nl12, nl15, nl16, nl20, nl24, nl32, nl40, nl64, nl65, nl384, pk_mul, nI_add]]
        show WG _ _ _ _ _ _ _ (11, [(5, vI (nI (i + 1))), (6, vI 0), (4, vI g), (3, vI bl), (2, vI be), (0, vR (some a)), (1, vI need)], [], σ, cs, sl)
        refine w_lsP [0, 2, 3, 4, 5, 6] ?_
        show WG _ _ _ _ _ _ _ (11, [(5, vI (nI (i + 1))), (4, vI g), (3, vI bl), (2, vI be), (0, vR (some a)), (1, vI need)], [], σ, cs, sl)
        exact ih (i + 1) (by omega) be bl g (fun be' bl' g' e9 => K be' bl' g' (by rw [itF_succ, ← (show ((be, bl, g) : Int32 × Int32 × Int32) = (bgF (σ.2.1 150006 a1) (fun m => σ.1 60400 m 0) need) i (be, bl, g) from by simp only [bgF, if_neg c1, if_neg nc1, if_neg c2, if_neg nc2, if_pos c3, if_pos nc3, c4])]; exact e9))
    · have nc2 := (nI_eq (a := i) (b := 64) (by omega) (by omega)).mp c2
      refine w_run 4 (S' := (34, [(6, vI 1), (5, vI (nI i)), (4, vI g), (3, vI bl), (2, vI be), (0, vR (some a)), (1, vI need)], [vI 1], σ, cs, sl)) rfl ?_
      refine w_if_ne rfl (fun c11 => ?_) (fun c11 => (absurd ((nI_eq (a := 1) (b := 0) (by omega) (by omega)).mp c11) (by omega)))
      have nc11 := mt (nI_eq (a := 1) (b := 0) (by omega) (by omega)).mpr c11
      refine w_run 6 (S' := (60, [(7, vI ((nI i) - g)), (6, vI 1), (5, vI (nI i)), (4, vI g), (3, vI bl), (2, vI be), (0, vR (some a)), (1, vI need)], [vI need, vI ((nI i) - g)], σ, cs, sl)) rfl ?_
      refine w_ic_lt rfl (fun c12 => ?_) (fun c12 => ?_)
      · refine w_run 1 (S' := (77, [(7, vI ((nI i) - g)), (6, vI 1), (5, vI (nI i)), (4, vI g), (3, vI bl), (2, vI be), (0, vR (some a)), (1, vI need)], [vI 1], σ, cs, sl)) rfl ?_
        refine w_if_ne rfl (fun c13 => ?_) (fun c13 => (absurd c13 c11))
        have nc13 := mt (nI_eq (a := 1) (b := 0) (by omega) (by omega)).mpr c13
        refine w_run 2 (S' := (11, [(5, vI ((nI i) + 1)), (7, vI ((nI i) - g)), (6, vI 1), (4, vI g), (3, vI bl), (2, vI be), (0, vR (some a)), (1, vI need)], [], σ, cs, sl)) rfl ?_
        rw [show ((nI i) + 1 : Int32) = nI (i + 1) from by simp only [nl0, nl1, nl2, nl3, nl4, nl5, nl6, nl8, nl9, nl10, nl12, nl15, nl16, nl20, nl24, nl32, nl40, nl64, nl65, nl384, pk_mul, nI_add]]
        show WG _ _ _ _ _ _ _ (11, [(5, vI (nI (i + 1))), (7, vI ((nI i) - g)), (6, vI 1), (4, vI g), (3, vI bl), (2, vI be), (0, vR (some a)), (1, vI need)], [], σ, cs, sl)
        refine w_lsP [0, 3, 4, 5, 6, 7] ?_
        show WG _ _ _ _ _ _ _ (11, [(5, vI (nI (i + 1))), (4, vI g), (3, vI bl), (2, vI be), (0, vR (some a)), (1, vI need)], [], σ, cs, sl)
        exact ih (i + 1) (by omega) be bl g (fun be' bl' g' e9 => K be' bl' g' (by rw [itF_succ, ← (show ((be, bl, g) : Int32 × Int32 × Int32) = (bgF (σ.2.1 150006 a1) (fun m => σ.1 60400 m 0) need) i (be, bl, g) from by simp only [bgF, if_neg c1, if_neg nc1, if_pos c2, if_pos nc2, if_neg c11, if_neg nc11, if_pos c12, if_neg c13, if_neg nc13])]; exact e9))
      · refine w_run 2 (S' := (66, [(7, vI ((nI i) - g)), (6, vI 1), (5, vI (nI i)), (4, vI g), (3, vI bl), (2, vI be), (0, vR (some a)), (1, vI need)], [vI bl, vI ((nI i) - g)], σ, cs, sl)) rfl ?_
        refine w_ic_ge rfl (fun c14 => ?_) (fun c14 => ?_)
        · refine w_run 1 (S' := (77, [(7, vI ((nI i) - g)), (6, vI 1), (5, vI (nI i)), (4, vI g), (3, vI bl), (2, vI be), (0, vR (some a)), (1, vI need)], [vI 1], σ, cs, sl)) rfl ?_
          refine w_if_ne rfl (fun c15 => ?_) (fun c15 => (absurd c15 c11))
          have nc15 := mt (nI_eq (a := 1) (b := 0) (by omega) (by omega)).mpr c15
          refine w_run 2 (S' := (11, [(5, vI ((nI i) + 1)), (7, vI ((nI i) - g)), (6, vI 1), (4, vI g), (3, vI bl), (2, vI be), (0, vR (some a)), (1, vI need)], [], σ, cs, sl)) rfl ?_
          rw [show ((nI i) + 1 : Int32) = nI (i + 1) from by simp only [nl0, nl1, nl2, nl3, nl4, nl5, nl6, nl8, nl9, nl10, nl12, nl15, nl16, nl20, nl24, nl32, nl40, nl64, nl65, nl384, pk_mul, nI_add]]
          show WG _ _ _ _ _ _ _ (11, [(5, vI (nI (i + 1))), (7, vI ((nI i) - g)), (6, vI 1), (4, vI g), (3, vI bl), (2, vI be), (0, vR (some a)), (1, vI need)], [], σ, cs, sl)
          refine w_lsP [0, 3, 4, 5, 6, 7] ?_
          show WG _ _ _ _ _ _ _ (11, [(5, vI (nI (i + 1))), (4, vI g), (3, vI bl), (2, vI be), (0, vR (some a)), (1, vI need)], [], σ, cs, sl)
          exact ih (i + 1) (by omega) be bl g (fun be' bl' g' e9 => K be' bl' g' (by rw [itF_succ, ← (show ((be, bl, g) : Int32 × Int32 × Int32) = (bgF (σ.2.1 150006 a1) (fun m => σ.1 60400 m 0) need) i (be, bl, g) from by simp only [bgF, if_neg c1, if_neg nc1, if_pos c2, if_pos nc2, if_neg c11, if_neg nc11, if_neg c12, if_pos c14, if_neg c15, if_neg nc15])]; exact e9))
        · refine w_run 5 (S' := (77, [(3, vI ((nI i) - g)), (2, vI g), (7, vI ((nI i) - g)), (6, vI 1), (5, vI (nI i)), (4, vI g), (0, vR (some a)), (1, vI need)], [vI 1], σ, cs, sl)) rfl ?_
          refine w_if_ne rfl (fun c16 => ?_) (fun c16 => (absurd c16 c11))
          have nc16 := mt (nI_eq (a := 1) (b := 0) (by omega) (by omega)).mpr c16
          refine w_run 2 (S' := (11, [(5, vI ((nI i) + 1)), (3, vI ((nI i) - g)), (2, vI g), (7, vI ((nI i) - g)), (6, vI 1), (4, vI g), (0, vR (some a)), (1, vI need)], [], σ, cs, sl)) rfl ?_
          rw [show ((nI i) + 1 : Int32) = nI (i + 1) from by simp only [nl0, nl1, nl2, nl3, nl4, nl5, nl6, nl8, nl9, nl10, nl12, nl15, nl16, nl20, nl24, nl32, nl40, nl64, nl65, nl384, pk_mul, nI_add]]
          show WG _ _ _ _ _ _ _ (11, [(5, vI (nI (i + 1))), (3, vI ((nI i) - g)), (2, vI g), (7, vI ((nI i) - g)), (6, vI 1), (4, vI g), (0, vR (some a)), (1, vI need)], [], σ, cs, sl)
          refine w_lsP [0, 5, 1, 2, 6, 7] ?_
          show WG _ _ _ _ _ _ _ (11, [(5, vI (nI (i + 1))), (4, vI g), (3, vI ((nI i) - g)), (2, vI g), (0, vR (some a)), (1, vI need)], [], σ, cs, sl)
          exact ih (i + 1) (by omega) g ((nI i) - g) g (fun be' bl' g' e9 => K be' bl' g' (by rw [itF_succ, ← (show ((g, (nI i) - g, g) : Int32 × Int32 × Int32) = (bgF (σ.2.1 150006 a1) (fun m => σ.1 60400 m 0) need) i (be, bl, g) from by simp only [bgF, if_neg c1, if_neg nc1, if_pos c2, if_pos nc2, if_neg c11, if_neg nc11, if_neg c12, if_neg c14, if_neg c16, if_neg nc16])]; exact e9))
set_option maxHeartbeats 4000000 in
theorem c_ar_bestGap (l : Launch) (E : FE) (d : Nat) (σ : Sg) (a a1 : Nat) (need : Int32) (hk : σ.2.2.2 a = 9) (h1 : σ.2.1 90015 a 0 = some a1) (hw : WF σ) : CT l E d 26 [vR (some a), vI need] σ 0 0 (fun r σ' => r = some (vI (bgR σ a1 need)) ∧ σ' = σ) (fun _ _ => False) := by
  refine CTo ok_ar_bestGap (by decide +kernel) rfl rfl rfl ?_
  refine w_run 8 (S' := (11, [(5, vI 0), (4, vI 0), (3, vI 65), (2, vI (-1)), (0, vR (some a)), (1, vI need)], [], σ, 0, 0)) rfl ?_
  refine lk_ar_bestGap l E d σ a a1 need hk h1 hw (Nat.le_refl _) (Nat.le_refl _) 65 0 (by omega) (-1) 65 0 (fun be bl g e1 => ?_)
  show WG _ _ _ _ _ _ _ (101, [(2, vI be), (0, vR (some a)), (1, vI need)], [], σ, 0, 0)
  refine w_run 1 (S' := (102, [(2, vI be), (0, vR (some a)), (1, vI need)], [vI be], σ, 0, 0)) rfl ?_
  exact w_iret rfl (Or.inl rfl) (by omega) (by omega) (⟨by unfold bgR; rw [← e1], rfl⟩)

def tkAt (σ : Sg) (a1 : Nat) (x : Int32) : Option Nat := if x < 0 then none else if 64 ≤ x then none else match σ.2.1 150006 a1 x.toNatClampNeg with
  | none => none
  | some m => if σ.1 61000 m 0 = 0 then none else some m
set_option maxHeartbeats 4000000 in
theorem c_ar_takenAt (l : Launch) (E : FE) (d : Nat) (σ : Sg) (a a1 : Nat) (x : Int32) (hk : σ.2.2.2 a = 9) (h1 : σ.2.1 90015 a 0 = some a1) (hw : WF σ) : CT l E d 28 [vR (some a), vI x] σ 0 0 (fun r σ' => r = some (vR (tkAt σ a1 x)) ∧ σ' = σ) (fun _ _ => False) := by
  refine CTo ok_ar_takenAt (by decide +kernel) rfl rfl rfl ?_
  refine w_run 1 (S' := (1, [(0, vR (some a)), (1, vI x)], [vI x], σ, 0, 0)) rfl ?_
  refine w_if_lt rfl (fun c1 => ?_) (fun c1 => ?_)
  · refine w_run 1 (S' := (32, [(0, vR (some a)), (1, vI x)], [vR none], σ, 0, 0)) rfl ?_
    exact w_aret rfl rfl (Or.inl ⟨_, rfl⟩) (by omega) (by omega) (⟨by simp [tkAt, c1], rfl⟩)
  · refine w_run 2 (S' := (7, [(0, vR (some a)), (1, vI x)], [vI 64, vI x], σ, 0, 0)) rfl ?_
    refine w_ic_ge rfl (fun c2 => ?_) (fun c2 => ?_)
    · refine w_run 1 (S' := (32, [(0, vR (some a)), (1, vI x)], [vR none], σ, 0, 0)) rfl ?_
      exact w_aret rfl rfl (Or.inl ⟨_, rfl⟩) (by omega) (by omega) (⟨by simp [tkAt, c1, c2], rfl⟩)
    · refine w_run 1 (S' := (11, [(0, vR (some a)), (1, vI x)], [vR (some a)], σ, 0, 0)) rfl ?_
      refine w_get (k := 9) (vR (σ.2.1 90015 a 0)) rfl rfl rfl hk rfl rfl ?_
      refine w_run 1 (S' := (15, [(0, vR (some a)), (1, vI x)], [vI x, vR (σ.2.1 90015 a 0)], σ, 0, 0)) rfl ?_
      refine w_aald (k := 15) rfl h1 (hw 90015 a 0 a1 h1 (by decide)) rfl rfl (show vp_in x 64 from in_le (by assumption) (by assumption) (by decide) (by decide)) ?_
      show WG _ _ _ _ _ _ _ (16, [(0, vR (some a)), (1, vI x)], [vR (σ.2.1 150006 a1 x.toNatClampNeg)], σ, 0, 0)
      refine w_null rfl (fun c3 => ?_) (fun b4 c3 => ?_)
      · refine w_run 1 (S' := (32, [(0, vR (some a)), (1, vI x)], [vR none], σ, 0, 0)) rfl ?_
        exact w_aret rfl rfl (Or.inl ⟨_, rfl⟩) (by omega) (by omega) (⟨by simp [tkAt, c1, c2, c3], rfl⟩)
      · refine w_run 1 (S' := (20, [(0, vR (some a)), (1, vI x)], [vR (some a)], σ, 0, 0)) rfl ?_
        refine w_get (k := 9) (vR (σ.2.1 90015 a 0)) rfl rfl rfl hk rfl rfl ?_
        refine w_run 1 (S' := (24, [(0, vR (some a)), (1, vI x)], [vI x, vR (σ.2.1 90015 a 0)], σ, 0, 0)) rfl ?_
        refine w_aald (k := 15) rfl h1 (hw 90015 a 0 a1 h1 (by decide)) rfl rfl (show vp_in x 64 from in_le (by assumption) (by assumption) (by decide) (by decide)) ?_
        show WG _ _ _ _ _ _ _ (25, [(0, vR (some a)), (1, vI x)], [vR (σ.2.1 150006 a1 x.toNatClampNeg)], σ, 0, 0)
        refine w_get (k := 6) (vI (σ.1 61000 b4 0)) rfl rfl c3 (hw 150006 a1 x.toNatClampNeg b4 c3 (by decide)) rfl rfl ?_
        refine w_if_ne rfl (fun c5 => ?_) (fun c5 => ?_)
        · refine w_run 1 (S' := (34, [(0, vR (some a)), (1, vI x)], [vR (some a)], σ, 0, 0)) rfl ?_
          refine w_get (k := 9) (vR (σ.2.1 90015 a 0)) rfl rfl rfl hk rfl rfl ?_
          refine w_run 1 (S' := (38, [(0, vR (some a)), (1, vI x)], [vI x, vR (σ.2.1 90015 a 0)], σ, 0, 0)) rfl ?_
          refine w_aald (k := 15) rfl h1 (hw 90015 a 0 a1 h1 (by decide)) rfl rfl (show vp_in x 64 from in_le (by assumption) (by assumption) (by decide) (by decide)) ?_
          show WG _ _ _ _ _ _ _ (39, [(0, vR (some a)), (1, vI x)], [vR (σ.2.1 150006 a1 x.toNatClampNeg)], σ, 0, 0)
          exact w_aret rfl rfl (Or.inl ⟨_, rfl⟩) (by omega) (by omega) (⟨by simp [tkAt, c1, c2, c3, c5], rfl⟩)
        · refine w_run 1 (S' := (32, [(0, vR (some a)), (1, vI x)], [vR none], σ, 0, 0)) rfl ?_
          exact w_aret rfl rfl (Or.inl ⟨_, rfl⟩) (by omega) (by omega) (⟨by simp [tkAt, c1, c2, c3, c5], rfl⟩)

def arR (σ : Sg) (a a1 m g : Nat) : Sg := if σ.1 60000 m 0 = 2 then sI (sI (sO σ 150006 a1 g none) 90100 a 0 (σ.1 90100 a 0 - σ.1 60400 m 0)) 90200 a 0 (σ.1 90200 a 0 - σ.1 60400 m 0) else sI (sO σ 150006 a1 g none) 90100 a 0 (σ.1 90100 a 0 - σ.1 60400 m 0)
set_option maxHeartbeats 4000000 in
theorem c_ar_remove (l : Launch) (E : FE) (d : Nat) (σ : Sg) (a a1 m g : Nat) (hk : σ.2.2.2 a = 9) (h1 : σ.2.1 90015 a 0 = some a1) (hw : WF σ) (hm : σ.2.2.2 m = 6) (hat : σ.1 60900 m 0 = nI g) (hg : g < 64) : CT l E d 29 [vR (some a), vR (some m)] σ 0 0 (fun r σ' => r = none ∧ σ' = arR σ a a1 m g) (fun _ _ => False) := by
  refine CTo ok_ar_remove (by decide +kernel) rfl rfl rfl ?_
  refine w_run 1 (S' := (1, [(0, vR (some a)), (1, vR (some m))], [vR (some a)], σ, 0, 0)) rfl ?_
  refine w_get (k := 9) (vR (σ.2.1 90015 a 0)) rfl rfl rfl hk rfl rfl ?_
  refine w_run 1 (S' := (5, [(0, vR (some a)), (1, vR (some m))], [vR (some m), vR (σ.2.1 90015 a 0)], σ, 0, 0)) rfl ?_
  refine w_get (k := 6) (vI (σ.1 60900 m 0)) rfl rfl rfl hm rfl rfl ?_
  refine Eq.mp (congrArg (fun x9 => WG _ _ _ _ _ _ _ (8, [(0, vR (some a)), (1, vR (some m))], [vI x9, vR (σ.2.1 90015 a 0)], σ, 0, 0)) (hat.symm : nI g = σ.1 60900 m 0)) ?_
  show WG _ _ _ _ _ _ _ (8, [(0, vR (some a)), (1, vR (some m))], [vI (nI g), vR (σ.2.1 90015 a 0)], σ, 0, 0)
  refine w_run 1 (S' := (9, [(0, vR (some a)), (1, vR (some m))], [vR none, vI (nI g), vR (σ.2.1 90015 a 0)], σ, 0, 0)) rfl ?_
  refine w_aastN (k := 15) rfl h1 (hw 90015 a 0 a1 h1 (by decide)) rfl (by decide) rfl (show vp_in (nI g) 64 from vp_in_nI (n := g) (by omega) (by decide)) ?_
  show WG _ _ _ _ _ _ _ (10, [(0, vR (some a)), (1, vR (some m))], [], sO σ 150006 a1 ((nI g).toNatClampNeg) none, 0, 0)
  rw [show (nI g : Int32).toNatClampNeg = g from nI_clamp (n := g) (by omega)]
  refine w_run 2 (S' := (12, [(0, vR (some a)), (1, vR (some m))], [vR (some a), vR (some a)], sO σ 150006 a1 g none, 0, 0)) rfl ?_
  refine w_get (k := 9) (vI (σ.1 90100 a 0)) rfl rfl rfl hk rfl rfl ?_
  refine w_run 1 (S' := (16, [(0, vR (some a)), (1, vR (some m))], [vR (some m), vI (σ.1 90100 a 0), vR (some a)], sO σ 150006 a1 g none, 0, 0)) rfl ?_
  refine w_get (k := 6) (vI (σ.1 60400 m 0)) rfl rfl rfl hm rfl rfl ?_
  refine w_run 1 (S' := (20, [(0, vR (some a)), (1, vR (some m))], [vI ((σ.1 90100 a 0) - (σ.1 60400 m 0)), vR (some a)], sO σ 150006 a1 g none, 0, 0)) rfl ?_
  refine w_puti (k := 9) rfl rfl rfl hk rfl rfl (Or.inl rfl) (Or.inl rfl) ?_
  show WG _ _ _ _ _ _ _ (23, [(0, vR (some a)), (1, vR (some m))], [], sI (sO σ 150006 a1 g none) 90100 a 0 ((σ.1 90100 a 0) - (σ.1 60400 m 0)), 0, 0)
  refine w_run 1 (S' := (24, [(0, vR (some a)), (1, vR (some m))], [vR (some m)], sI (sO σ 150006 a1 g none) 90100 a 0 ((σ.1 90100 a 0) - (σ.1 60400 m 0)), 0, 0)) rfl ?_
  refine w_get (k := 6) (vI (σ.1 60000 m 0)) rfl rfl rfl hm rfl rfl ?_
  refine w_run 1 (S' := (28, [(0, vR (some a)), (1, vR (some m))], [vI 2, vI (σ.1 60000 m 0)], sI (sO σ 150006 a1 g none) 90100 a 0 ((σ.1 90100 a 0) - (σ.1 60400 m 0)), 0, 0)) rfl ?_
  refine w_ic_ne rfl (fun c1 => ?_) (fun c1 => ?_)
  · exact w_vret rfl rfl (by omega) (by omega) (⟨rfl, by simp [arR, c1]⟩)
  · refine w_run 2 (S' := (33, [(0, vR (some a)), (1, vR (some m))], [vR (some a), vR (some a)], sI (sO σ 150006 a1 g none) 90100 a 0 ((σ.1 90100 a 0) - (σ.1 60400 m 0)), 0, 0)) rfl ?_
    refine w_get (k := 9) (vI (σ.1 90200 a 0)) rfl rfl rfl hk rfl rfl ?_
    refine w_run 1 (S' := (37, [(0, vR (some a)), (1, vR (some m))], [vR (some m), vI (σ.1 90200 a 0), vR (some a)], sI (sO σ 150006 a1 g none) 90100 a 0 ((σ.1 90100 a 0) - (σ.1 60400 m 0)), 0, 0)) rfl ?_
    refine w_get (k := 6) (vI (σ.1 60400 m 0)) rfl rfl rfl hm rfl rfl ?_
    refine w_run 1 (S' := (41, [(0, vR (some a)), (1, vR (some m))], [vI ((σ.1 90200 a 0) - (σ.1 60400 m 0)), vR (some a)], sI (sO σ 150006 a1 g none) 90100 a 0 ((σ.1 90100 a 0) - (σ.1 60400 m 0)), 0, 0)) rfl ?_
    refine w_puti (k := 9) rfl rfl rfl hk rfl rfl (Or.inl rfl) (Or.inl rfl) ?_
    show WG _ _ _ _ _ _ _ (44, [(0, vR (some a)), (1, vR (some m))], [], sI (sI (sO σ 150006 a1 g none) 90100 a 0 ((σ.1 90100 a 0) - (σ.1 60400 m 0))) 90200 a 0 ((σ.1 90200 a 0) - (σ.1 60400 m 0)), 0, 0)
    exact w_vret rfl rfl (by omega) (by omega) (⟨rfl, by simp [arR, c1]⟩)

def arP (σ : Sg) (a a1 m g : Nat) : Sg := if σ.1 60000 m 0 = 2 then sI (sI (sO (sI σ 60900 m 0 (nI g)) 150006 a1 g (some m)) 90100 a 0 (σ.1 90100 a 0 + σ.1 60400 m 0)) 90200 a 0 (σ.1 90200 a 0 + σ.1 60400 m 0) else sI (sO (sI σ 60900 m 0 (nI g)) 150006 a1 g (some m)) 90100 a 0 (σ.1 90100 a 0 + σ.1 60400 m 0)
set_option maxHeartbeats 4000000 in
theorem c_ar_put (l : Launch) (E : FE) (d : Nat) (σ : Sg) (a a1 m g dd : Nat) (hd : dd + 1 ≤ d) (hk : σ.2.2.2 a = 9) (h1 : σ.2.1 90015 a 0 = some a1) (hw : WF σ) (hm : σ.2.2.2 m = 6) (hbg : bgR σ a1 (σ.1 60400 m 0) = nI g) (hg : g < 64) : CT l E d 27 [vR (some a), vR (some m)] σ 0 0 (fun r σ' => r = none ∧ σ' = arP σ a a1 m g) (fun _ _ => False) := by
  refine CTo ok_ar_put (by decide +kernel) rfl rfl rfl ?_
  refine w_run 2 (S' := (2, [(0, vR (some a)), (1, vR (some m))], [vR (some m), vR (some a)], σ, 0, 0)) rfl ?_
  refine w_get (k := 6) (vI (σ.1 60400 m 0)) rfl rfl rfl hm rfl rfl ?_
  refine w_callV (st := []) [vI (σ.1 60400 m 0)] rfl ml_8_21 rfl rfl hk rfl rfl rfl (by simp only [RM]; omega) (by simp only [RM]; show 8 + (8 + 11) + _ ≤ _; omega) rfl (by simp only [RM]; omega) (by simp only [RM]; omega) (c_ar_bestGap l E dd σ a a1 (σ.1 60400 m 0) hk h1 hw) (fun _ _ h => h.elim) ?_
  intro r9 s9 q9
  rw [q9.1, q9.2]
  clear q9 r9 s9
  show WG _ _ _ _ _ _ _ (8, [(0, vR (some a)), (1, vR (some m))], [vI (bgR σ a1 (σ.1 60400 m 0))], σ, 0, 0)
  refine Eq.mp (congrArg (fun x9 => WG _ _ _ _ _ _ _ (8, [(0, vR (some a)), (1, vR (some m))], [vI x9], σ, 0, 0)) (hbg.symm : nI g = bgR σ a1 (σ.1 60400 m 0))) ?_
  show WG _ _ _ _ _ _ _ (8, [(0, vR (some a)), (1, vR (some m))], [vI (nI g)], σ, 0, 0)
  refine w_run 3 (S' := (11, [(2, vI (nI g)), (0, vR (some a)), (1, vR (some m))], [vI (-1), vI (nI g)], σ, 0, 0)) rfl ?_
  refine w_ic_ne rfl (fun c1 => ?_) (fun c1 => (absurd c1 (nI_m1 g (by omega))))
  refine w_run 2 (S' := (17, [(2, vI (nI g)), (0, vR (some a)), (1, vR (some m))], [vI (nI g), vR (some m)], σ, 0, 0)) rfl ?_
  refine w_puti (k := 6) rfl rfl rfl hm rfl rfl (Or.inl rfl) (Or.inl rfl) ?_
  show WG _ _ _ _ _ _ _ (20, [(2, vI (nI g)), (0, vR (some a)), (1, vR (some m))], [], sI σ 60900 m 0 (nI g), 0, 0)
  refine w_run 1 (S' := (21, [(2, vI (nI g)), (0, vR (some a)), (1, vR (some m))], [vR (some a)], sI σ 60900 m 0 (nI g), 0, 0)) rfl ?_
  refine w_get (k := 9) (vR (σ.2.1 90015 a 0)) rfl rfl rfl hk rfl rfl ?_
  refine w_run 2 (S' := (26, [(2, vI (nI g)), (0, vR (some a)), (1, vR (some m))], [vR (some m), vI (nI g), vR (σ.2.1 90015 a 0)], sI σ 60900 m 0 (nI g), 0, 0)) rfl ?_
  refine w_aast (k := 15) rfl h1 (hw 90015 a 0 a1 h1 (by decide)) rfl (by decide) rfl hm rfl rfl rfl (show vp_in (nI g) 64 from vp_in_nI (n := g) (by omega) (by decide)) ?_
  show WG _ _ _ _ _ _ _ (27, [(2, vI (nI g)), (0, vR (some a)), (1, vR (some m))], [], sO (sI σ 60900 m 0 (nI g)) 150006 a1 ((nI g).toNatClampNeg) (some m), 0, 0)
  rw [show (nI g : Int32).toNatClampNeg = g from nI_clamp (n := g) (by omega)]
  refine w_run 2 (S' := (29, [(2, vI (nI g)), (0, vR (some a)), (1, vR (some m))], [vR (some a), vR (some a)], sO (sI σ 60900 m 0 (nI g)) 150006 a1 g (some m), 0, 0)) rfl ?_
  refine w_get (k := 9) (vI (σ.1 90100 a 0)) rfl rfl rfl hk rfl rfl ?_
  refine w_run 1 (S' := (33, [(2, vI (nI g)), (0, vR (some a)), (1, vR (some m))], [vR (some m), vI (σ.1 90100 a 0), vR (some a)], sO (sI σ 60900 m 0 (nI g)) 150006 a1 g (some m), 0, 0)) rfl ?_
  refine w_get (k := 6) (vI (σ.1 60400 m 0)) rfl rfl rfl hm rfl rfl ?_
  refine w_run 1 (S' := (37, [(2, vI (nI g)), (0, vR (some a)), (1, vR (some m))], [vI ((σ.1 90100 a 0) + (σ.1 60400 m 0)), vR (some a)], sO (sI σ 60900 m 0 (nI g)) 150006 a1 g (some m), 0, 0)) rfl ?_
  refine w_puti (k := 9) rfl rfl rfl hk rfl rfl (Or.inl rfl) (Or.inl rfl) ?_
  show WG _ _ _ _ _ _ _ (40, [(2, vI (nI g)), (0, vR (some a)), (1, vR (some m))], [], sI (sO (sI σ 60900 m 0 (nI g)) 150006 a1 g (some m)) 90100 a 0 ((σ.1 90100 a 0) + (σ.1 60400 m 0)), 0, 0)
  refine w_run 1 (S' := (41, [(2, vI (nI g)), (0, vR (some a)), (1, vR (some m))], [vR (some m)], sI (sO (sI σ 60900 m 0 (nI g)) 150006 a1 g (some m)) 90100 a 0 ((σ.1 90100 a 0) + (σ.1 60400 m 0)), 0, 0)) rfl ?_
  refine w_get (k := 6) (vI (σ.1 60000 m 0)) rfl rfl rfl hm rfl rfl ?_
  refine w_run 1 (S' := (45, [(2, vI (nI g)), (0, vR (some a)), (1, vR (some m))], [vI 2, vI (σ.1 60000 m 0)], sI (sO (sI σ 60900 m 0 (nI g)) 150006 a1 g (some m)) 90100 a 0 ((σ.1 90100 a 0) + (σ.1 60400 m 0)), 0, 0)) rfl ?_
  refine w_ic_ne rfl (fun c2 => ?_) (fun c2 => ?_)
  · exact w_vret rfl rfl (by omega) (by omega) (⟨rfl, by simp [arP, c1, c2]⟩)
  · refine w_run 2 (S' := (50, [(2, vI (nI g)), (0, vR (some a)), (1, vR (some m))], [vR (some a), vR (some a)], sI (sO (sI σ 60900 m 0 (nI g)) 150006 a1 g (some m)) 90100 a 0 ((σ.1 90100 a 0) + (σ.1 60400 m 0)), 0, 0)) rfl ?_
    refine w_get (k := 9) (vI (σ.1 90200 a 0)) rfl rfl rfl hk rfl rfl ?_
    refine w_run 1 (S' := (54, [(2, vI (nI g)), (0, vR (some a)), (1, vR (some m))], [vR (some m), vI (σ.1 90200 a 0), vR (some a)], sI (sO (sI σ 60900 m 0 (nI g)) 150006 a1 g (some m)) 90100 a 0 ((σ.1 90100 a 0) + (σ.1 60400 m 0)), 0, 0)) rfl ?_
    refine w_get (k := 6) (vI (σ.1 60400 m 0)) rfl rfl rfl hm rfl rfl ?_
    refine w_run 1 (S' := (58, [(2, vI (nI g)), (0, vR (some a)), (1, vR (some m))], [vI ((σ.1 90200 a 0) + (σ.1 60400 m 0)), vR (some a)], sI (sO (sI σ 60900 m 0 (nI g)) 150006 a1 g (some m)) 90100 a 0 ((σ.1 90100 a 0) + (σ.1 60400 m 0)), 0, 0)) rfl ?_
    refine w_puti (k := 9) rfl rfl rfl hk rfl rfl (Or.inl rfl) (Or.inl rfl) ?_
    show WG _ _ _ _ _ _ _ (61, [(2, vI (nI g)), (0, vR (some a)), (1, vR (some m))], [], sI (sI (sO (sI σ 60900 m 0 (nI g)) 150006 a1 g (some m)) 90100 a 0 ((σ.1 90100 a 0) + (σ.1 60400 m 0))) 90200 a 0 ((σ.1 90200 a 0) + (σ.1 60400 m 0)), 0, 0)
    exact w_vret rfl rfl (by omega) (by omega) (⟨rfl, by simp [arP, c1, c2]⟩)

def areF (a1 : Nat) : Nat → Sg → Sg := fun i τ => sO τ 150006 a1 i none
set_option maxHeartbeats 4000000 in
theorem lk_ar_empty (l : Launch) (E : FE) (d : Nat) (σ : Sg) (a a1 : Nat) {mc ms cs sl : Nat} {args : Array Value} {XX : State → Prop} {QF : State → List Frame → State → Prop} (hcs : cs ≤ mc) (hsl : sl ≤ ms) : ∀ (k i : Nat), i + k = 64 → ∀ (τ : Sg), τ.2.2.2 a = 9 → τ.2.1 90015 a 0 = some a1 → WF τ → (∀ (τ' : Sg), τ' = itF (areF a1) k i τ → τ'.2.2.2 a = 9 → τ'.2.1 90015 a 0 = some a1 → WF τ' → WG l E (RM d mc ms) 30 args XX QF (21, [(0, vR (some a))], [], τ', cs, sl)) →
    WG l E (RM d mc ms) 30 args XX QF (2, [(1, vI (nI i)), (0, vR (some a))], [], τ, cs, sl) := by
  intro k
  induction k with
  | zero =>
    intro i hi τ hk h1 hw K
    refine w_run 2 (S' := (5, [(1, vI (nI i)), (0, vR (some a))], [vI 64, vI (nI i)], τ, cs, sl)) rfl ?_
    refine w_ic_ge rfl (fun c1 => ?_) (fun c1 => (absurd ((nI_leI (a := 64) (b := i) (by omega) (by omega)).mpr (by omega)) c1))
    have nc1 := (nI_leI (a := 64) (b := i) (by omega) (by omega)).mp c1
    refine w_lsP [1] ?_
    show WG _ _ _ _ _ _ _ (21, [(0, vR (some a))], [], τ, cs, sl)
    exact K τ rfl hk h1 hw
  | succ k ih =>
    intro i hi τ hk h1 hw K
    refine w_run 2 (S' := (5, [(1, vI (nI i)), (0, vR (some a))], [vI 64, vI (nI i)], τ, cs, sl)) rfl ?_
    refine w_ic_ge rfl (fun c1 => (absurd ((nI_leI (a := 64) (b := i) (by omega) (by omega)).mp c1) (by omega))) (fun c1 => ?_)
    have nc1 := mt (nI_leI (a := 64) (b := i) (by omega) (by omega)).mpr c1
    refine w_run 1 (S' := (9, [(1, vI (nI i)), (0, vR (some a))], [vR (some a)], τ, cs, sl)) rfl ?_
    refine w_get (k := 9) (vR (τ.2.1 90015 a 0)) rfl rfl rfl hk rfl rfl ?_
    refine w_run 2 (S' := (14, [(1, vI (nI i)), (0, vR (some a))], [vR none, vI (nI i), vR (τ.2.1 90015 a 0)], τ, cs, sl)) rfl ?_
    refine w_aastN (k := 15) rfl h1 (hw 90015 a 0 a1 h1 (by decide)) rfl (by decide) rfl (show vp_in (nI i) 64 from vp_in_nI (n := i) (by omega) (by decide)) ?_
    show WG _ _ _ _ _ _ _ (15, [(1, vI (nI i)), (0, vR (some a))], [], sO τ 150006 a1 ((nI i).toNatClampNeg) none, cs, sl)
    rw [show (nI i : Int32).toNatClampNeg = i from nI_clamp (n := i) (by omega)]
    refine w_run 2 (S' := (2, [(1, vI ((nI i) + 1)), (0, vR (some a))], [], sO τ 150006 a1 i none, cs, sl)) rfl ?_
    rw [show ((nI i) + 1 : Int32) = nI (i + 1) from by simp only [nl0, nl1, nl2, nl3, nl4, nl5, nl6, nl8, nl9, nl10, nl12, nl15, nl16, nl20, nl24, nl32, nl40, nl64, nl65, nl384, pk_mul, nI_add]]
    show WG _ _ _ _ _ _ _ (2, [(1, vI (nI (i + 1))), (0, vR (some a))], [], sO τ 150006 a1 i none, cs, sl)
    exact ih (i + 1) (by omega) (sO τ 150006 a1 i none) (hk) (h1) (WF.oN hw) (fun τ' e9 q90 q91 q92 => K τ' (by rw [itF_succ, ← (show ((sO τ 150006 a1 i none) : Sg) = (areF a1) i τ from by simp [areF, c1, nc1])]; exact e9) q90 q91 q92)
set_option maxHeartbeats 4000000 in
theorem c_ar_empty (l : Launch) (E : FE) (d : Nat) (σ : Sg) (a a1 : Nat) (hk : σ.2.2.2 a = 9) (h1 : σ.2.1 90015 a 0 = some a1) (hw : WF σ) : CT l E d 30 [vR (some a)] σ 0 0 (fun r σ' => r = none ∧ σ' = sI (sI (itF (areF a1) 64 0 σ) 90100 a 0 0) 90200 a 0 0) (fun _ _ => False) := by
  refine CTo ok_ar_empty (by decide +kernel) rfl rfl rfl ?_
  refine w_run 2 (S' := (2, [(1, vI 0), (0, vR (some a))], [], σ, 0, 0)) rfl ?_
  refine lk_ar_empty l E d σ a a1 (Nat.le_refl _) (Nat.le_refl _) 64 0 (by omega) σ hk h1 hw (fun τ1 e1 hk1 _ hw1 => ?_)
  show WG _ _ _ _ _ _ _ (21, [(0, vR (some a))], [], τ1, 0, 0)
  refine w_run 2 (S' := (23, [(0, vR (some a))], [vI 0, vR (some a)], τ1, 0, 0)) rfl ?_
  refine w_puti (k := 9) rfl rfl rfl hk1 rfl rfl (Or.inl rfl) (Or.inl rfl) ?_
  show WG _ _ _ _ _ _ _ (26, [(0, vR (some a))], [], sI τ1 90100 a 0 0, 0, 0)
  refine w_run 2 (S' := (28, [(0, vR (some a))], [vI 0, vR (some a)], sI τ1 90100 a 0 0, 0, 0)) rfl ?_
  refine w_puti (k := 9) rfl rfl rfl hk1 rfl rfl (Or.inl rfl) (Or.inl rfl) ?_
  show WG _ _ _ _ _ _ _ (31, [(0, vR (some a))], [], sI (sI τ1 90100 a 0 0) 90200 a 0 0, 0, 0)
  exact w_vret rfl rfl (by omega) (by omega) (⟨rfl, by rw [e1]⟩)

set_option maxHeartbeats 4000000 in
theorem c_nd_init (l : Launch) (E : FE) (d : Nat) (σ : Sg) (a : Nat) (x y : Int32) (hd : 1 ≤ d) (hk : σ.2.2.2 a = 3) : CT l E d 0 [vR (some a), vI x, vI y] σ 0 0 (fun r σ' => r = none ∧ σ' = sI (sI σ 30000 a 0 x) 30100 a 0 y) (fun _ _ => False) := by
  refine CTo ok_nd_init (by decide +kernel) rfl rfl rfl ?_
  refine w_run 1 (S' := (1, [(0, vR (some a)), (1, vI x), (2, vI y)], [vR (some a)], σ, 0, 0)) rfl ?_
  refine w_objI rfl mo_2_1 rfl rfl (by simp only [RM]; omega) (by simp only [RM]; omega) ?_
  refine w_run 2 (S' := (6, [(0, vR (some a)), (1, vI x), (2, vI y)], [vI x, vR (some a)], σ, 0, 0)) rfl ?_
  refine w_puti (k := 3) rfl rfl rfl hk rfl rfl (Or.inl rfl) (Or.inr ⟨rfl, rfl⟩) ?_
  show WG _ _ _ _ _ _ _ (9, [(0, vR (some a)), (1, vI x), (2, vI y)], [], sI σ 30000 a 0 x, 0, 0)
  refine w_run 2 (S' := (11, [(0, vR (some a)), (1, vI x), (2, vI y)], [vI y, vR (some a)], sI σ 30000 a 0 x, 0, 0)) rfl ?_
  refine w_puti (k := 3) rfl rfl rfl hk rfl rfl (Or.inl rfl) (Or.inr ⟨rfl, rfl⟩) ?_
  show WG _ _ _ _ _ _ _ (14, [(0, vR (some a)), (1, vI x), (2, vI y)], [], sI (sI σ 30000 a 0 x) 30100 a 0 y, 0, 0)
  exact w_vret rfl rfl (by omega) (by omega) (⟨rfl, rfl⟩)

set_option maxHeartbeats 4000000 in
theorem c_wk_init (l : Launch) (E : FE) (d : Nat) (σ : Sg) (a : Nat) (x y : Int32) (mo : Option Nat) (hd : 1 ≤ d) (hk : σ.2.2.2 a = 5) (hmo : ∀ b, mo = some b → σ.2.2.2 b = 6) : CT l E d 12 [vR (some a), vI x, vR mo, vI y] σ 0 0 (fun r σ' => r = none ∧ σ' = sI (sO (sI σ 50000 a 0 x) 50106 a 0 mo) 50200 a 0 y) (fun _ _ => False) := by
  refine CTo ok_wk_init (by decide +kernel) rfl rfl rfl ?_
  refine w_run 1 (S' := (1, [(0, vR (some a)), (1, vI x), (2, vR mo), (3, vI y)], [vR (some a)], σ, 0, 0)) rfl ?_
  refine w_objI rfl mo_4_3 rfl rfl (by simp only [RM]; omega) (by simp only [RM]; omega) ?_
  refine w_run 2 (S' := (6, [(0, vR (some a)), (1, vI x), (2, vR mo), (3, vI y)], [vI x, vR (some a)], σ, 0, 0)) rfl ?_
  refine w_puti (k := 5) rfl rfl rfl hk rfl rfl (Or.inl rfl) (Or.inr ⟨rfl, rfl⟩) ?_
  show WG _ _ _ _ _ _ _ (9, [(0, vR (some a)), (1, vI x), (2, vR mo), (3, vI y)], [], sI σ 50000 a 0 x, 0, 0)
  refine w_run 2 (S' := (11, [(0, vR (some a)), (1, vI x), (2, vR mo), (3, vI y)], [vR mo, vR (some a)], sI σ 50000 a 0 x, 0, 0)) rfl ?_
  refine w_putr (k := 5) rfl rfl rfl hk rfl rfl (fun b9 h9 _ => hmo b9 h9) rfl (Or.inr ⟨rfl, rfl⟩) ?_
  show WG _ _ _ _ _ _ _ (14, [(0, vR (some a)), (1, vI x), (2, vR mo), (3, vI y)], [], sO (sI σ 50000 a 0 x) 50106 a 0 mo, 0, 0)
  refine w_run 2 (S' := (16, [(0, vR (some a)), (1, vI x), (2, vR mo), (3, vI y)], [vI y, vR (some a)], sO (sI σ 50000 a 0 x) 50106 a 0 mo, 0, 0)) rfl ?_
  refine w_puti (k := 5) rfl rfl rfl hk rfl rfl (Or.inl rfl) (Or.inr ⟨rfl, rfl⟩) ?_
  show WG _ _ _ _ _ _ _ (19, [(0, vR (some a)), (1, vI x), (2, vR mo), (3, vI y)], [], sI (sO (sI σ 50000 a 0 x) 50106 a 0 mo) 50200 a 0 y, 0, 0)
  exact w_vret rfl rfl (by omega) (by omega) (⟨rfl, rfl⟩)

set_option maxHeartbeats 4000000 in
theorem c_wt_init (l : Launch) (E : FE) (d : Nat) (σ : Sg) (a n : Nat) (y : Int32) (hd : 1 ≤ d) (hk : σ.2.2.2 a = 7) (hn : σ.2.2.2 n = 3) : CT l E d 14 [vR (some a), vR (some n), vI y] σ 0 0 (fun r σ' => r = none ∧ σ' = sI (sO σ 70003 a 0 (some n)) 70100 a 0 y) (fun _ _ => False) := by
  refine CTo ok_wt_init (by decide +kernel) rfl rfl rfl ?_
  refine w_run 1 (S' := (1, [(0, vR (some a)), (1, vR (some n)), (2, vI y)], [vR (some a)], σ, 0, 0)) rfl ?_
  refine w_objI rfl mo_6_1 rfl rfl (by simp only [RM]; omega) (by simp only [RM]; omega) ?_
  refine w_run 2 (S' := (6, [(0, vR (some a)), (1, vR (some n)), (2, vI y)], [vR (some n), vR (some a)], σ, 0, 0)) rfl ?_
  refine w_putr (k := 7) rfl rfl rfl hk rfl rfl (fun b9 h9 _ => by have e9 := (rfl : some n = some n).symm.trans h9; cases e9; exact hn) rfl (Or.inr ⟨rfl, rfl⟩) ?_
  show WG _ _ _ _ _ _ _ (9, [(0, vR (some a)), (1, vR (some n)), (2, vI y)], [], sO σ 70003 a 0 (some n), 0, 0)
  refine w_run 2 (S' := (11, [(0, vR (some a)), (1, vR (some n)), (2, vI y)], [vI y, vR (some a)], sO σ 70003 a 0 (some n), 0, 0)) rfl ?_
  refine w_puti (k := 7) rfl rfl rfl hk rfl rfl (Or.inl rfl) (Or.inr ⟨rfl, rfl⟩) ?_
  show WG _ _ _ _ _ _ _ (14, [(0, vR (some a)), (1, vR (some n)), (2, vI y)], [], sI (sO σ 70003 a 0 (some n)) 70100 a 0 y, 0, 0)
  exact w_vret rfl rfl (by omega) (by omega) (⟨rfl, rfl⟩)

