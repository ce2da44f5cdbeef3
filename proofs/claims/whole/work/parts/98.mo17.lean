/-! the model: die -/
def di1 (A : Nat → Nat) (p w n : Nat) : Nat → Sg → Sg := fun k τ => if k = p then τ else if wfR τ A k p w n = 0 then τ else cmS τ A k (τ.1 720000 (A 21) k).toNatClampNeg 5 (-1) (-1) (-1) 0
theorem di1_a {A : Nat → Nat} {p w n k : Nat} {τ : Sg} (h : k = p) : τ = di1 A p w n k τ := (if_pos h).symm
theorem di1_b {A : Nat → Nat} {p w n k : Nat} {τ : Sg} (h : ¬ k = p) (h2 : wfR τ A k p w n = 0) : τ = di1 A p w n k τ := ((if_neg h).trans (if_pos h2)).symm
theorem di1_c {A : Nat → Nat} {p w n k W : Nat} {τ : Sg} (h : ¬ k = p) (h2 : ¬ wfR τ A k p w n = 0) (hW : τ.1 720000 (A 21) k = nI W) (hW6 : W < 64) : cmS τ A k W 5 (-1) (-1) (-1) 0 = di1 A p w n k τ := by
  have e : (τ.1 720000 (A 21) k).toNatClampNeg = W := by rw [hW]; exact nI_clamp (by omega)
  rw [← e]
  exact ((if_neg h).trans (if_neg h2)).symm
def telS (τ : Sg) (A : Nat → Nat) (q p V : Nat) : Sg := sI (itF (tlF A q p) V 0 (τ, 0)).1 780000 (A 27) q (nI (itF (tlF A q p) V 0 (τ, 0)).2)
def di2 (A : Nat → Nat) (p : Nat) : Nat → Sg → Sg := fun k τ => if k = p then τ else if τ.1 510000 (A 0) k = 0 then τ else telS τ A k p (τ.1 780000 (A 27) k).toNatClampNeg
theorem di2_a {A : Nat → Nat} {p k : Nat} {τ : Sg} (h : k = p) : τ = di2 A p k τ := (if_pos h).symm
theorem di2_b {A : Nat → Nat} {p k : Nat} {τ : Sg} (h : ¬ k = p) (h2 : τ.1 510000 (A 0) k = 0) : τ = di2 A p k τ := ((if_neg h).trans (if_pos h2)).symm
theorem di2_c {A : Nat → Nat} {p k V : Nat} {τ : Sg} (h : ¬ k = p) (h2 : ¬ τ.1 510000 (A 0) k = 0) (hV : τ.1 780000 (A 27) k = nI V) (hV8 : V ≤ 8) : telS τ A k p V = di2 A p k τ := by
  have e : (τ.1 780000 (A 27) k).toNatClampNeg = V := by rw [hV]; exact nI_clamp (by omega)
  rw [← e]
  exact ((if_neg h).trans (if_neg h2)).symm
theorem tl_O {A : Nat → Nat} {q p V : Nat} {τ : Sg} : (itF (tlF A q p) V 0 (τ, 0)).1.2 = τ.2 := by
  have e1 : ∀ (k i : Nat) (s : Sg × Nat), (itF (tlF A q p) k i s).1.2 = s.1.2 := by
    intro k; induction k with
    | zero => intro i s; rfl
    | succ k ih =>
      intro i s; rw [itF_succ, ih]
      unfold tlF
      split
      · split <;> rfl
      · rfl
  exact e1 V 0 (τ, 0)
def diA (σ : Sg) (m : Nat) (A : Nat → Nat) (p : Nat) : Sg := if σ.1 500300 m 0 < 0 then sI (sI σ 500000 m 0 0) 510000 (A 0) p 0 else if nI (pOf (σ.1 500300 m 0)) = nI p then sI (sI (sI σ 500000 m 0 0) 510000 (A 0) p 0) 500300 m 0 (-1) else sI (sI σ 500000 m 0 0) 510000 (A 0) p 0
def diS (σ : Sg) (m : Nat) (A : Nat → Nat) (p w n : Nat) : Sg := sI (sI (itF (di2 A p) 4 0 (itF (di1 A p w n) 4 0 (diA σ m A p))) 720000 (A 21) p 0) 740000 (A 23) p 0
set_option maxRecDepth 20000 in
set_option maxHeartbeats 4000000 in
theorem lk_mo_di1 (l : Launch) (E : FE) (d : Nat) (σ : Sg) (m : Nat) (A : Nat → Nat) (p w n : Nat) (IV : Nat → Sg → Prop) (hd : 2 ≤ d) (hp : p < 4) (hw6 : w ≤ 64) (hn : n ≤ 12) (hIV : ∀ i τ, i < 4 → IV i τ → IV (i + 1) (di1 A p w n i τ) ∧ τ.1 720000 (A 21) p = nI w ∧ τ.1 740000 (A 23) p = nI n ∧ ∃ W, τ.1 720000 (A 21) i = nI W ∧ W < 64) {mc ms cs sl : Nat} {args : Array Value} {XX : State → Prop} {QF : State → List Frame → State → Prop} (hcs : cs ≤ mc) (hsl : sl ≤ ms) : ∀ (k i : Nat), i + k = 4 → ∀ (τ : Sg), (MO τ m A) → (IV i τ) → (∀ (τ' : Sg), τ' = itF (di1 A p w n) k i τ → (MO τ' m A) → WG l E (RM d mc ms) 82 args XX QF (76, [(0, vR (some m)), (1, vI (nI p))], [], τ', cs, sl)) →
    WG l E (RM d mc ms) 82 args XX QF (41, [(2, vI (nI i)), (0, vR (some m)), (1, vI (nI p))], [], τ, cs, sl) := by
  intro k
  induction k with
  | zero =>
    intro i hi τ hM hiv K
    refine w_run 2 (S' := (43, [(2, vI (nI i)), (0, vR (some m)), (1, vI (nI p))], [vI 4, vI (nI i)], τ, cs, sl)) rfl ?_
    refine w_ic_ge rfl (fun c1 => ?_) (fun c1 => (absurd ((nI_leI (a := 4) (b := i) (by omega) (by omega)).mpr (by omega)) c1))
    have nc1 := (nI_leI (a := 4) (b := i) (by omega) (by omega)).mp c1
    refine w_lsP [1, 2] ?_
    show WG _ _ _ _ _ _ _ (76, [(0, vR (some m)), (1, vI (nI p))], [], τ, cs, sl)
    exact K τ rfl hM
  | succ k ih =>
    intro i hi τ hM hiv K
    refine w_run 2 (S' := (43, [(2, vI (nI i)), (0, vR (some m)), (1, vI (nI p))], [vI 4, vI (nI i)], τ, cs, sl)) rfl ?_
    refine w_ic_ge rfl (fun c1 => (absurd ((nI_leI (a := 4) (b := i) (by omega) (by omega)).mp c1) (by omega))) (fun c1 => ?_)
    have nc1 := mt (nI_leI (a := 4) (b := i) (by omega) (by omega)).mpr c1
    obtain ⟨hi1, hi2, hi3, W, hW, hW6⟩ := hIV i τ (by omega) hiv
    refine w_run 2 (S' := (48, [(2, vI (nI i)), (0, vR (some m)), (1, vI (nI p))], [vI (nI p), vI (nI i)], τ, cs, sl)) rfl ?_
    refine w_ic_eq rfl (fun c2 => ?_) (fun c2 => ?_)
    · have nc2 := (nI_eq (a := i) (b := p) (by omega) (by omega)).mp c2
      refine w_run 2 (S' := (41, [(2, vI ((nI i) + 1)), (0, vR (some m)), (1, vI (nI p))], [], τ, cs, sl)) rfl ?_
      rw [show ((nI i) + 1 : Int32) = nI (i + 1) from by simp only [nl0, nl1, nl2, nl3, nl4, nl5, nl6, nl8, nl9, nl10, nl12, nl15, nl16, nl20, nl24, nl32, nl40, nl64, nl65, nl384, pk_mul, nI_add]]
      show WG _ _ _ _ _ _ _ (41, [(2, vI (nI (i + 1))), (0, vR (some m)), (1, vI (nI p))], [], τ, cs, sl)
      exact ih (i + 1) (by omega) τ (hM) (Eq.mpr (congrArg (IV (i + 1)) (di1_a nc2)) hi1) (fun τ' e9 q90 => K τ' (by rw [itF_succ, ← (show (τ : Sg) = (di1 A p w n) i τ from di1_a nc2)]; exact e9) q90)
    · have nc2 := mt (nI_eq (a := i) (b := p) (by omega) (by omega)).mpr c2
      refine w_run 3 (S' := (54, [(2, vI (nI i)), (0, vR (some m)), (1, vI (nI p))], [vI (nI p), vI (nI i), vR (some m)], τ, cs, sl)) rfl ?_
      refine w_callV (st := []) [vI (nI i), vI (nI p)] rfl ml_10_126 rfl rfl hM.1 rfl rfl rfl (by simp only [RM]; omega) (by simp only [RM]; show 8 + (6 + 11) + _ ≤ _; omega) rfl (by simp only [RM]; omega) (by simp only [RM]; omega) (c_mo_waitsFor l E (d - 1) τ m A i p w n hM (by omega) hp hi2 hw6 hi3 hn) (fun _ _ h => h.elim) ?_
      intro r9 s9 q9
      rw [q9.1, q9.2]
      clear q9 r9 s9
      show WG _ _ _ _ _ _ _ (57, [(2, vI (nI i)), (0, vR (some m)), (1, vI (nI p))], [vI (wfR τ A i p w n)], τ, cs, sl)
      refine w_if_eq rfl (fun c3 => ?_) (fun c3 => ?_)
      · refine w_run 2 (S' := (41, [(2, vI ((nI i) + 1)), (0, vR (some m)), (1, vI (nI p))], [], τ, cs, sl)) rfl ?_
        rw [show ((nI i) + 1 : Int32) = nI (i + 1) from by simp only [nl0, nl1, nl2, nl3, nl4, nl5, nl6, nl8, nl9, nl10, nl12, nl15, nl16, nl20, nl24, nl32, nl40, nl64, nl65, nl384, pk_mul, nI_add]]
        show WG _ _ _ _ _ _ _ (41, [(2, vI (nI (i + 1))), (0, vR (some m)), (1, vI (nI p))], [], τ, cs, sl)
        exact ih (i + 1) (by omega) τ (hM) (Eq.mpr (congrArg (IV (i + 1)) (di1_b nc2 c3)) hi1) (fun τ' e9 q90 => K τ' (by rw [itF_succ, ← (show (τ : Sg) = (di1 A p w n) i τ from di1_b nc2 c3)]; exact e9) q90)
      · refine w_run 7 (S' := (67, [(2, vI (nI i)), (0, vR (some m)), (1, vI (nI p))], [vI 0, vI (-1), vI (-1), vI (-1), vI 5, vI (nI i), vR (some m)], τ, cs, sl)) rfl ?_
        refine w_callV (st := []) [vI (nI i), vI 5, vI (-1), vI (-1), vI (-1), vI 0] rfl ml_10_119 rfl rfl hM.1 rfl rfl rfl (by simp only [RM]; omega) (by simp only [RM]; show 8 + (8 + 11) + _ ≤ _; omega) rfl (by simp only [RM]; omega) (by simp only [RM]; omega) (c_mo_comes l E (d - 1) τ m A i W 5 (-1) (-1) (-1) 0 hM (by omega) hW hW6 (fun h9 => absurd (by decide) h9)) (fun _ _ h => h.elim) ?_
        intro r9 s9 q9
        rw [q9.1, q9.2]
        clear q9 r9 s9
        show WG _ _ _ _ _ _ _ (70, [(2, vI (nI i)), (0, vR (some m)), (1, vI (nI p))], [], cmS τ A i W 5 (-1) (-1) (-1) 0, cs, sl)
        refine w_run 2 (S' := (41, [(2, vI ((nI i) + 1)), (0, vR (some m)), (1, vI (nI p))], [], cmS τ A i W 5 (-1) (-1) (-1) 0, cs, sl)) rfl ?_
        rw [show ((nI i) + 1 : Int32) = nI (i + 1) from by simp only [nl0, nl1, nl2, nl3, nl4, nl5, nl6, nl8, nl9, nl10, nl12, nl15, nl16, nl20, nl24, nl32, nl40, nl64, nl65, nl384, pk_mul, nI_add]]
        show WG _ _ _ _ _ _ _ (41, [(2, vI (nI (i + 1))), (0, vR (some m)), (1, vI (nI p))], [], cmS τ A i W 5 (-1) (-1) (-1) 0, cs, sl)
        exact ih (i + 1) (by omega) (cmS τ A i W 5 (-1) (-1) (-1) 0) (hM) (by rw [di1_c nc2 c3 hW hW6]; exact hi1) (fun τ' e9 q90 => K τ' (by rw [itF_succ, ← (show ((cmS τ A i W 5 (-1) (-1) (-1) 0) : Sg) = (di1 A p w n) i τ from di1_c nc2 c3 hW hW6)]; exact e9) q90)
set_option maxRecDepth 20000 in
set_option maxHeartbeats 4000000 in
theorem lk_mo_di2 (l : Launch) (E : FE) (d : Nat) (σ : Sg) (m : Nat) (A : Nat → Nat) (p : Nat) (JV : Nat → Sg → Prop) (hd : 3 ≤ d) (hp : p < 4) (hJV : ∀ i τ, i < 4 → JV i τ → JV (i + 1) (di2 A p i τ) ∧ (¬ i = p → ¬ τ.1 510000 (A 0) i = 0 → ∃ W V, τ.1 720000 (A 21) i = nI W ∧ τ.1 780000 (A 27) i = nI V ∧ V ≤ 8 ∧ W + V ≤ 64 ∧ ∀ j, j < V → ¬ τ.1 790000 (A 28) (8 * i + j) < 0)) {mc ms cs sl : Nat} {args : Array Value} {XX : State → Prop} {QF : State → List Frame → State → Prop} (hcs : cs ≤ mc) (hsl : sl ≤ ms) : ∀ (k i : Nat), i + k = 4 → ∀ (τ : Sg), (MO τ m A) → (JV i τ) → (∀ (τ' : Sg), τ' = itF (di2 A p) k i τ → (MO τ' m A) → WG l E (RM d mc ms) 82 args XX QF (109, [(0, vR (some m)), (1, vI (nI p))], [], τ', cs, sl)) →
    WG l E (RM d mc ms) 82 args XX QF (78, [(2, vI (nI i)), (0, vR (some m)), (1, vI (nI p))], [], τ, cs, sl) := by
  intro k
  induction k with
  | zero =>
    intro i hi τ hM hiv K
    refine w_run 2 (S' := (80, [(2, vI (nI i)), (0, vR (some m)), (1, vI (nI p))], [vI 4, vI (nI i)], τ, cs, sl)) rfl ?_
    refine w_ic_ge rfl (fun c1 => ?_) (fun c1 => (absurd ((nI_leI (a := 4) (b := i) (by omega) (by omega)).mpr (by omega)) c1))
    have nc1 := (nI_leI (a := 4) (b := i) (by omega) (by omega)).mp c1
    refine w_lsP [1, 2] ?_
    show WG _ _ _ _ _ _ _ (109, [(0, vR (some m)), (1, vI (nI p))], [], τ, cs, sl)
    exact K τ rfl hM
  | succ k ih =>
    intro i hi τ hM hiv K
    refine w_run 2 (S' := (80, [(2, vI (nI i)), (0, vR (some m)), (1, vI (nI p))], [vI 4, vI (nI i)], τ, cs, sl)) rfl ?_
    refine w_ic_ge rfl (fun c1 => (absurd ((nI_leI (a := 4) (b := i) (by omega) (by omega)).mp c1) (by omega))) (fun c1 => ?_)
    have nc1 := mt (nI_leI (a := 4) (b := i) (by omega) (by omega)).mpr c1
    refine w_run 2 (S' := (85, [(2, vI (nI i)), (0, vR (some m)), (1, vI (nI p))], [vI (nI p), vI (nI i)], τ, cs, sl)) rfl ?_
    refine w_ic_eq rfl (fun c2 => ?_) (fun c2 => ?_)
    · have nc2 := (nI_eq (a := i) (b := p) (by omega) (by omega)).mp c2
      refine w_run 2 (S' := (78, [(2, vI ((nI i) + 1)), (0, vR (some m)), (1, vI (nI p))], [], τ, cs, sl)) rfl ?_
      rw [show ((nI i) + 1 : Int32) = nI (i + 1) from by simp only [nl0, nl1, nl2, nl3, nl4, nl5, nl6, nl8, nl9, nl10, nl12, nl15, nl16, nl20, nl24, nl32, nl40, nl64, nl65, nl384, pk_mul, nI_add]]
      show WG _ _ _ _ _ _ _ (78, [(2, vI (nI (i + 1))), (0, vR (some m)), (1, vI (nI p))], [], τ, cs, sl)
      exact ih (i + 1) (by omega) τ (hM) (Eq.mpr (congrArg (JV (i + 1)) (di2_a nc2)) (hJV i τ (by omega) hiv).1) (fun τ' e9 q90 => K τ' (by rw [itF_succ, ← (show (τ : Sg) = (di2 A p) i τ from di2_a nc2)]; exact e9) q90)
    · have nc2 := mt (nI_eq (a := i) (b := p) (by omega) (by omega)).mpr c2
      refine w_run 1 (S' := (89, [(2, vI (nI i)), (0, vR (some m)), (1, vI (nI p))], [vR (some m)], τ, cs, sl)) rfl ?_
      refine w_get (k := 50) (vR (τ.2.1 500151 m 0)) rfl rfl rfl hM.1 rfl rfl ?_
      refine w_run 1 (S' := (93, [(2, vI (nI i)), (0, vR (some m)), (1, vI (nI p))], [vI (nI i), vR (τ.2.1 500151 m 0)], τ, cs, sl)) rfl ?_
      refine w_zald (k := 51) rfl ((hM.2 0 (by decide)).1) ((hM.2 0 (by decide)).2) rfl (show vp_in (nI i) 4 from vp_in_nI (n := i) (by omega) (by decide)) ?_
      show WG _ _ _ _ _ _ _ (94, [(2, vI (nI i)), (0, vR (some m)), (1, vI (nI p))], [vI (τ.1 510000 (A 0) (nI i).toNatClampNeg)], τ, cs, sl)
      rw [show (nI i : Int32).toNatClampNeg = i from nI_clamp (n := i) (by omega)]
      show WG _ _ _ _ _ _ _ (94, [(2, vI (nI i)), (0, vR (some m)), (1, vI (nI p))], [vI (τ.1 510000 (A 0) i)], τ, cs, sl)
      refine w_if_eq rfl (fun c3 => ?_) (fun c3 => ?_)
      · refine w_run 2 (S' := (78, [(2, vI ((nI i) + 1)), (0, vR (some m)), (1, vI (nI p))], [], τ, cs, sl)) rfl ?_
        rw [show ((nI i) + 1 : Int32) = nI (i + 1) from by simp only [nl0, nl1, nl2, nl3, nl4, nl5, nl6, nl8, nl9, nl10, nl12, nl15, nl16, nl20, nl24, nl32, nl40, nl64, nl65, nl384, pk_mul, nI_add]]
        show WG _ _ _ _ _ _ _ (78, [(2, vI (nI (i + 1))), (0, vR (some m)), (1, vI (nI p))], [], τ, cs, sl)
        exact ih (i + 1) (by omega) τ (hM) (Eq.mpr (congrArg (JV (i + 1)) (di2_b nc2 c3)) (hJV i τ (by omega) hiv).1) (fun τ' e9 q90 => K τ' (by rw [itF_succ, ← (show (τ : Sg) = (di2 A p) i τ from di2_b nc2 c3)]; exact e9) q90)
      · obtain ⟨W, V, hW, hV, hV8, hWV, hnn⟩ := (hJV i τ (by omega) hiv).2 nc2 c3
        refine w_run 3 (S' := (100, [(2, vI (nI i)), (0, vR (some m)), (1, vI (nI p))], [vI (nI p), vI (nI i), vR (some m)], τ, cs, sl)) rfl ?_
        refine w_callV (st := []) [vI (nI i), vI (nI p)] rfl ml_10_130 rfl rfl hM.1 rfl rfl rfl (by simp only [RM]; omega) (by simp only [RM]; show 8 + (8 + 11) + _ ≤ _; omega) rfl (by simp only [RM]; omega) (by simp only [RM]; omega) (c_mo_tell l E (d - 1) τ m A i p W V (by omega) hM (by omega) hp hV8 hWV hW hV hnn) (fun _ _ h => h.elim) ?_
        intro r9 s9 q9
        rw [q9.1, q9.2]
        clear q9 r9 s9
        show WG _ _ _ _ _ _ _ (103, [(2, vI (nI i)), (0, vR (some m)), (1, vI (nI p))], [], telS τ A i p V, cs, sl)
        refine w_run 2 (S' := (78, [(2, vI ((nI i) + 1)), (0, vR (some m)), (1, vI (nI p))], [], telS τ A i p V, cs, sl)) rfl ?_
        rw [show ((nI i) + 1 : Int32) = nI (i + 1) from by simp only [nl0, nl1, nl2, nl3, nl4, nl5, nl6, nl8, nl9, nl10, nl12, nl15, nl16, nl20, nl24, nl32, nl40, nl64, nl65, nl384, pk_mul, nI_add]]
        show WG _ _ _ _ _ _ _ (78, [(2, vI (nI (i + 1))), (0, vR (some m)), (1, vI (nI p))], [], telS τ A i p V, cs, sl)
        exact ih (i + 1) (by omega) (telS τ A i p V) (MO.of2 hM tl_O) (by rw [di2_c nc2 c3 hV hV8]; exact (hJV i τ (by omega) hiv).1) (fun τ' e9 q90 => K τ' (by rw [itF_succ, ← (show ((telS τ A i p V) : Sg) = (di2 A p) i τ from di2_c nc2 c3 hV hV8)]; exact e9) q90)
set_option maxRecDepth 20000 in
set_option maxHeartbeats 4000000 in
theorem c_mo_die1 (l : Launch) (E : FE) (d : Nat) (σ : Sg) (m : Nat) (A : Nat → Nat) (p : Nat) (w n : Nat) (IV JV : Nat → Sg → Prop) (hd : 3 ≤ d) (hM : MO σ m A) (hp : p < 4) (hal : ¬ σ.1 510000 (A 0) p = 0) (hw6 : w ≤ 64) (hn : n ≤ 12) (hIV : ∀ i τ, i < 4 → IV i τ → IV (i + 1) (di1 A p w n i τ) ∧ τ.1 720000 (A 21) p = nI w ∧ τ.1 740000 (A 23) p = nI n ∧ ∃ W, τ.1 720000 (A 21) i = nI W ∧ W < 64) (hJV : ∀ i τ, i < 4 → JV i τ → JV (i + 1) (di2 A p i τ) ∧ (¬ i = p → ¬ τ.1 510000 (A 0) i = 0 → ∃ W V, τ.1 720000 (A 21) i = nI W ∧ τ.1 780000 (A 27) i = nI V ∧ V ≤ 8 ∧ W + V ≤ 64 ∧ ∀ j, j < V → ¬ τ.1 790000 (A 28) (8 * i + j) < 0)) (hI0 : IV 0 (diA σ m A p)) (hJ0 : JV 0 (itF (di1 A p w n) 4 0 (diA σ m A p))) : CT l E d 82 [vR (some m), vI (nI p)] σ 0 0 (fun r σ' => r = none ∧ σ' = diS σ m A p w n) (fun _ _ => False) := by
  refine CTo ok_mo_die (by decide +kernel) rfl rfl rfl ?_
  refine w_run 2 (S' := (2, [(0, vR (some m)), (1, vI (nI p))], [vI (nI p), vR (some m)], σ, 0, 0)) rfl ?_
  refine w_callV (st := []) [vI (nI p)] rfl ml_10_123 rfl rfl hM.1 rfl rfl rfl (by simp only [RM]; omega) (by simp only [RM]; show 8 + (2 + 11) + _ ≤ _; omega) rfl (by simp only [RM]; omega) (by simp only [RM]; omega) (c_mo_absent0 l E (d - 1) σ m A p hM hp hal) (fun _ _ h => h.elim) ?_
  intro r9 s9 q9
  rw [q9.1, q9.2]
  clear q9 r9 s9
  show WG _ _ _ _ _ _ _ (5, [(0, vR (some m)), (1, vI (nI p))], [vI 0], sI σ 500000 m 0 0, 0, 0)
  refine w_if_eq rfl (fun c1 => ?_) (fun c1 => (absurd ((nI_eq (a := 0) (b := 0) (by omega) (by omega)).mpr (by omega)) c1))
  have nc1 := (nI_eq (a := 0) (b := 0) (by omega) (by omega)).mp c1
  refine w_run 1 (S' := (10, [(0, vR (some m)), (1, vI (nI p))], [vR (some m)], sI σ 500000 m 0 0, 0, 0)) rfl ?_
  refine w_get (k := 50) (vR (σ.2.1 500151 m 0)) rfl rfl rfl hM.1 rfl rfl ?_
  refine w_run 2 (S' := (15, [(0, vR (some m)), (1, vI (nI p))], [vI 0, vI (nI p), vR (σ.2.1 500151 m 0)], sI σ 500000 m 0 0, 0, 0)) rfl ?_
  refine w_zast (k := 51) rfl ((hM.2 0 (by decide)).1) ((hM.2 0 (by decide)).2) rfl (show vp_in (nI p) 4 from vp_in_nI (n := p) (by omega) (by decide)) (Or.inl rfl) ?_
  show WG _ _ _ _ _ _ _ (16, [(0, vR (some m)), (1, vI (nI p))], [], sI (sI σ 500000 m 0 0) 510000 (A 0) ((nI p).toNatClampNeg) 0, 0, 0)
  rw [show (nI p : Int32).toNatClampNeg = p from nI_clamp (n := p) (by omega)]
  refine w_run 1 (S' := (17, [(0, vR (some m)), (1, vI (nI p))], [vR (some m)], sI (sI σ 500000 m 0 0) 510000 (A 0) p 0, 0, 0)) rfl ?_
  refine w_get (k := 50) (vI (σ.1 500300 m 0)) rfl rfl rfl hM.1 rfl rfl ?_
  refine w_if_lt rfl (fun c2 => ?_) (fun c2 => ?_)
  · refine w_run 2 (S' := (41, [(2, vI 0), (0, vR (some m)), (1, vI (nI p))], [], sI (sI σ 500000 m 0 0) 510000 (A 0) p 0, 0, 0)) rfl ?_
    have hdA : diA σ m A p = sI (sI σ 500000 m 0 0) 510000 (A 0) p 0 := if_pos c2
    have hM0 : MO (diA σ m A p) m A := by rw [hdA]; exact hM
    refine Eq.mp (congrArg (fun x9 => WG _ _ _ _ _ _ _ (41, [(2, vI 0), (0, vR (some m)), (1, vI (nI p))], [], x9, 0, 0)) hdA) ?_
    show WG _ _ _ _ _ _ _ (41, [(2, vI 0), (0, vR (some m)), (1, vI (nI p))], [], diA σ m A p, 0, 0)
    refine lk_mo_di1 l E d σ m A p w n IV (by omega) hp hw6 hn hIV (Nat.le_refl _) (Nat.le_refl _) 4 0 (by omega) (diA σ m A p) hM0 hI0 (fun τ1 ek3 hM1 => ?_)
    show WG _ _ _ _ _ _ _ (76, [(0, vR (some m)), (1, vI (nI p))], [], τ1, 0, 0)
    refine w_run 2 (S' := (78, [(2, vI 0), (0, vR (some m)), (1, vI (nI p))], [], τ1, 0, 0)) rfl ?_
    refine lk_mo_di2 l E d σ m A p JV (by omega) hp hJV (Nat.le_refl _) (Nat.le_refl _) 4 0 (by omega) τ1 hM1 (by rw [ek3]; exact hJ0) (fun τ2 ek4 hM2 => ?_)
    show WG _ _ _ _ _ _ _ (109, [(0, vR (some m)), (1, vI (nI p))], [], τ2, 0, 0)
    refine w_run 1 (S' := (110, [(0, vR (some m)), (1, vI (nI p))], [vR (some m)], τ2, 0, 0)) rfl ?_
    refine w_get (k := 50) (vR (τ2.2.1 502472 m 0)) rfl rfl rfl hM2.1 rfl rfl ?_
    refine w_run 2 (S' := (115, [(0, vR (some m)), (1, vI (nI p))], [vI 0, vI (nI p), vR (τ2.2.1 502472 m 0)], τ2, 0, 0)) rfl ?_
    refine w_iast (k := 72) rfl ((hM2.2 21 (by decide)).1) ((hM2.2 21 (by decide)).2) rfl (show vp_in (nI p) 4 from vp_in_nI (n := p) (by omega) (by decide)) ?_
    show WG _ _ _ _ _ _ _ (116, [(0, vR (some m)), (1, vI (nI p))], [], sI τ2 720000 (A 21) ((nI p).toNatClampNeg) 0, 0, 0)
    rw [show (nI p : Int32).toNatClampNeg = p from nI_clamp (n := p) (by omega)]
    refine w_run 1 (S' := (117, [(0, vR (some m)), (1, vI (nI p))], [vR (some m)], sI τ2 720000 (A 21) p 0, 0, 0)) rfl ?_
    refine w_get (k := 50) (vR (τ2.2.1 502674 m 0)) rfl rfl rfl hM2.1 rfl rfl ?_
    refine w_run 2 (S' := (122, [(0, vR (some m)), (1, vI (nI p))], [vI 0, vI (nI p), vR (τ2.2.1 502674 m 0)], sI τ2 720000 (A 21) p 0, 0, 0)) rfl ?_
    refine w_iast (k := 74) rfl ((hM2.2 23 (by decide)).1) ((hM2.2 23 (by decide)).2) rfl (show vp_in (nI p) 4 from vp_in_nI (n := p) (by omega) (by decide)) ?_
    show WG _ _ _ _ _ _ _ (123, [(0, vR (some m)), (1, vI (nI p))], [], sI (sI τ2 720000 (A 21) p 0) 740000 (A 23) ((nI p).toNatClampNeg) 0, 0, 0)
    rw [show (nI p : Int32).toNatClampNeg = p from nI_clamp (n := p) (by omega)]
    exact w_vret rfl rfl (by omega) (by omega) (⟨rfl, by rw [diS, ← ek3, ← ek4]⟩)
  · refine w_run 1 (S' := (24, [(0, vR (some m)), (1, vI (nI p))], [vR (some m)], sI (sI σ 500000 m 0 0) 510000 (A 0) p 0, 0, 0)) rfl ?_
    refine w_get (k := 50) (vI (σ.1 500300 m 0)) rfl rfl rfl hM.1 rfl rfl ?_
    refine w_callS (st := []) [vI (σ.1 500300 m 0)] rfl ml_10_111 rfl (by simp only [RM]; omega) (by simp only [RM]; show 8 + (1 + 11) + _ ≤ _; omega) rfl (by simp only [RM]; omega) (by simp only [RM]; omega) (c_mo_processOfI l E (d - 1) (sI (sI σ 500000 m 0 0) 510000 (A 0) p 0) (σ.1 500300 m 0) c2) (fun _ _ h => h.elim) ?_
    intro r9 s9 q9
    rw [q9.1, q9.2]
    clear q9 r9 s9
    show WG _ _ _ _ _ _ _ (30, [(0, vR (some m)), (1, vI (nI p))], [vI (nI (pOf (σ.1 500300 m 0)))], sI (sI σ 500000 m 0 0) 510000 (A 0) p 0, 0, 0)
    refine w_run 1 (S' := (31, [(0, vR (some m)), (1, vI (nI p))], [vI (nI p), vI (nI (pOf (σ.1 500300 m 0)))], sI (sI σ 500000 m 0 0) 510000 (A 0) p 0, 0, 0)) rfl ?_
    refine w_ic_ne rfl (fun c5 => ?_) (fun c5 => ?_)
    · refine w_run 2 (S' := (41, [(2, vI 0), (0, vR (some m)), (1, vI (nI p))], [], sI (sI σ 500000 m 0 0) 510000 (A 0) p 0, 0, 0)) rfl ?_
      have hdA : diA σ m A p = sI (sI σ 500000 m 0 0) 510000 (A 0) p 0 := (if_neg c2).trans (if_neg c5)
      have hM0 : MO (diA σ m A p) m A := by rw [hdA]; exact hM
      refine Eq.mp (congrArg (fun x9 => WG _ _ _ _ _ _ _ (41, [(2, vI 0), (0, vR (some m)), (1, vI (nI p))], [], x9, 0, 0)) hdA) ?_
      show WG _ _ _ _ _ _ _ (41, [(2, vI 0), (0, vR (some m)), (1, vI (nI p))], [], diA σ m A p, 0, 0)
      refine lk_mo_di1 l E d σ m A p w n IV (by omega) hp hw6 hn hIV (Nat.le_refl _) (Nat.le_refl _) 4 0 (by omega) (diA σ m A p) hM0 hI0 (fun τ1 ek6 hM1 => ?_)
      show WG _ _ _ _ _ _ _ (76, [(0, vR (some m)), (1, vI (nI p))], [], τ1, 0, 0)
      refine w_run 2 (S' := (78, [(2, vI 0), (0, vR (some m)), (1, vI (nI p))], [], τ1, 0, 0)) rfl ?_
      refine lk_mo_di2 l E d σ m A p JV (by omega) hp hJV (Nat.le_refl _) (Nat.le_refl _) 4 0 (by omega) τ1 hM1 (by rw [ek6]; exact hJ0) (fun τ2 ek7 hM2 => ?_)
      show WG _ _ _ _ _ _ _ (109, [(0, vR (some m)), (1, vI (nI p))], [], τ2, 0, 0)
      refine w_run 1 (S' := (110, [(0, vR (some m)), (1, vI (nI p))], [vR (some m)], τ2, 0, 0)) rfl ?_
      refine w_get (k := 50) (vR (τ2.2.1 502472 m 0)) rfl rfl rfl hM2.1 rfl rfl ?_
      refine w_run 2 (S' := (115, [(0, vR (some m)), (1, vI (nI p))], [vI 0, vI (nI p), vR (τ2.2.1 502472 m 0)], τ2, 0, 0)) rfl ?_
      refine w_iast (k := 72) rfl ((hM2.2 21 (by decide)).1) ((hM2.2 21 (by decide)).2) rfl (show vp_in (nI p) 4 from vp_in_nI (n := p) (by omega) (by decide)) ?_
      show WG _ _ _ _ _ _ _ (116, [(0, vR (some m)), (1, vI (nI p))], [], sI τ2 720000 (A 21) ((nI p).toNatClampNeg) 0, 0, 0)
      rw [show (nI p : Int32).toNatClampNeg = p from nI_clamp (n := p) (by omega)]
      refine w_run 1 (S' := (117, [(0, vR (some m)), (1, vI (nI p))], [vR (some m)], sI τ2 720000 (A 21) p 0, 0, 0)) rfl ?_
      refine w_get (k := 50) (vR (τ2.2.1 502674 m 0)) rfl rfl rfl hM2.1 rfl rfl ?_
      refine w_run 2 (S' := (122, [(0, vR (some m)), (1, vI (nI p))], [vI 0, vI (nI p), vR (τ2.2.1 502674 m 0)], sI τ2 720000 (A 21) p 0, 0, 0)) rfl ?_
      refine w_iast (k := 74) rfl ((hM2.2 23 (by decide)).1) ((hM2.2 23 (by decide)).2) rfl (show vp_in (nI p) 4 from vp_in_nI (n := p) (by omega) (by decide)) ?_
      show WG _ _ _ _ _ _ _ (123, [(0, vR (some m)), (1, vI (nI p))], [], sI (sI τ2 720000 (A 21) p 0) 740000 (A 23) ((nI p).toNatClampNeg) 0, 0, 0)
      rw [show (nI p : Int32).toNatClampNeg = p from nI_clamp (n := p) (by omega)]
      exact w_vret rfl rfl (by omega) (by omega) (⟨rfl, by rw [diS, ← ek6, ← ek7]⟩)
    · refine w_run 2 (S' := (36, [(0, vR (some m)), (1, vI (nI p))], [vI (-1), vR (some m)], sI (sI σ 500000 m 0 0) 510000 (A 0) p 0, 0, 0)) rfl ?_
      refine w_puti (k := 50) rfl rfl rfl hM.1 rfl rfl (Or.inl rfl) (Or.inl rfl) ?_
      show WG _ _ _ _ _ _ _ (39, [(0, vR (some m)), (1, vI (nI p))], [], sI (sI (sI σ 500000 m 0 0) 510000 (A 0) p 0) 500300 m 0 (-1), 0, 0)
      refine w_run 2 (S' := (41, [(2, vI 0), (0, vR (some m)), (1, vI (nI p))], [], sI (sI (sI σ 500000 m 0 0) 510000 (A 0) p 0) 500300 m 0 (-1), 0, 0)) rfl ?_
      have hdA : diA σ m A p = sI (sI (sI σ 500000 m 0 0) 510000 (A 0) p 0) 500300 m 0 (-1) := (if_neg c2).trans (if_pos c5)
      have hM0 : MO (diA σ m A p) m A := by rw [hdA]; exact hM
      refine Eq.mp (congrArg (fun x9 => WG _ _ _ _ _ _ _ (41, [(2, vI 0), (0, vR (some m)), (1, vI (nI p))], [], x9, 0, 0)) hdA) ?_
      show WG _ _ _ _ _ _ _ (41, [(2, vI 0), (0, vR (some m)), (1, vI (nI p))], [], diA σ m A p, 0, 0)
      refine lk_mo_di1 l E d σ m A p w n IV (by omega) hp hw6 hn hIV (Nat.le_refl _) (Nat.le_refl _) 4 0 (by omega) (diA σ m A p) hM0 hI0 (fun τ1 ek8 hM1 => ?_)
      show WG _ _ _ _ _ _ _ (76, [(0, vR (some m)), (1, vI (nI p))], [], τ1, 0, 0)
      refine w_run 2 (S' := (78, [(2, vI 0), (0, vR (some m)), (1, vI (nI p))], [], τ1, 0, 0)) rfl ?_
      refine lk_mo_di2 l E d σ m A p JV (by omega) hp hJV (Nat.le_refl _) (Nat.le_refl _) 4 0 (by omega) τ1 hM1 (by rw [ek8]; exact hJ0) (fun τ2 ek9 hM2 => ?_)
      show WG _ _ _ _ _ _ _ (109, [(0, vR (some m)), (1, vI (nI p))], [], τ2, 0, 0)
      refine w_run 1 (S' := (110, [(0, vR (some m)), (1, vI (nI p))], [vR (some m)], τ2, 0, 0)) rfl ?_
      refine w_get (k := 50) (vR (τ2.2.1 502472 m 0)) rfl rfl rfl hM2.1 rfl rfl ?_
      refine w_run 2 (S' := (115, [(0, vR (some m)), (1, vI (nI p))], [vI 0, vI (nI p), vR (τ2.2.1 502472 m 0)], τ2, 0, 0)) rfl ?_
      refine w_iast (k := 72) rfl ((hM2.2 21 (by decide)).1) ((hM2.2 21 (by decide)).2) rfl (show vp_in (nI p) 4 from vp_in_nI (n := p) (by omega) (by decide)) ?_
      show WG _ _ _ _ _ _ _ (116, [(0, vR (some m)), (1, vI (nI p))], [], sI τ2 720000 (A 21) ((nI p).toNatClampNeg) 0, 0, 0)
      rw [show (nI p : Int32).toNatClampNeg = p from nI_clamp (n := p) (by omega)]
      refine w_run 1 (S' := (117, [(0, vR (some m)), (1, vI (nI p))], [vR (some m)], sI τ2 720000 (A 21) p 0, 0, 0)) rfl ?_
      refine w_get (k := 50) (vR (τ2.2.1 502674 m 0)) rfl rfl rfl hM2.1 rfl rfl ?_
      refine w_run 2 (S' := (122, [(0, vR (some m)), (1, vI (nI p))], [vI 0, vI (nI p), vR (τ2.2.1 502674 m 0)], sI τ2 720000 (A 21) p 0, 0, 0)) rfl ?_
      refine w_iast (k := 74) rfl ((hM2.2 23 (by decide)).1) ((hM2.2 23 (by decide)).2) rfl (show vp_in (nI p) 4 from vp_in_nI (n := p) (by omega) (by decide)) ?_
      show WG _ _ _ _ _ _ _ (123, [(0, vR (some m)), (1, vI (nI p))], [], sI (sI τ2 720000 (A 21) p 0) 740000 (A 23) ((nI p).toNatClampNeg) 0, 0, 0)
      rw [show (nI p : Int32).toNatClampNeg = p from nI_clamp (n := p) (by omega)]
      exact w_vret rfl rfl (by omega) (by omega) (⟨rfl, by rw [diS, ← ek8, ← ek9]⟩)

