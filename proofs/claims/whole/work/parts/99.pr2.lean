/-! hasCallOf, empty -/
def hcM (σ : Sg) (c m : Nat) : Bool := if frmF σ m c = 0 then false else true
def hcW (σ : Sg) (c w : Nat) : Bool := if σ.1 50000 w 0 = 1 then (match σ.2.1 50106 w 0 with
  | none => false
  | some m => hcM σ c m) else false
def hcC (f : Nat → Bool) (L : List Nat) (j : Nat) : Prop := ∃ w, L[j]? = some w ∧ f w = true
theorem hcC_any {f : Nat → Bool} {L : List Nat} (h : ∃ j, j < L.length ∧ hcC f L j) : L.any f = true := by
  obtain ⟨j, -, w, h1, h2⟩ := h
  exact List.any_eq_true.mpr ⟨w, List.mem_of_getElem? h1, h2⟩
theorem hcC_none {f : Nat → Bool} {L : List Nat} (h : ∀ j, 0 ≤ j → j < L.length → ¬ hcC f L j) : L.any f = false := by
  rw [List.any_eq_false]
  intro w hw
  obtain ⟨j, hj⟩ := List.getElem?_of_mem hw
  exact fun e => h j (Nat.zero_le _) (List.getElem?_eq_some_iff.mp hj).1 ⟨w, hj, e⟩
theorem hcW_0 {σ : Sg} {c w j : Nat} {L : List Nat} (hb : L[j]? = some w) (h : hcW σ c w = false) : ¬ hcC (hcW σ c) L j := fun ⟨w', h1, h2⟩ => by
  rw [hb] at h1; cases h1; rw [h] at h2; cases h2
theorem hcM_0 {σ : Sg} {c w j : Nat} {L : List Nat} (hb : L[j]? = some w) (h : hcM σ c w = false) : ¬ hcC (hcM σ c) L j := fun ⟨w', h1, h2⟩ => by
  rw [hb] at h1; cases h1; rw [h] at h2; cases h2
theorem el_get {L : List Nat} {i : Nat} (h : i < L.length) : ∃ b, L[i]? = some b := ⟨L[i], List.getElem?_eq_getElem h⟩
set_option maxHeartbeats 4000000 in
theorem lk_pr_hc1 (l : Launch) (E : FE) (d : Nat) (σ : Sg) (D : Nat → Nat → Nat) (p c : Nat) (L1 : Nat → List Nat) (AR1 : Nat → Nat) (hd : 4 ≤ d) (hp : p < 4) (hP : SHp σ (D p)) (hw : WF σ) (hl20 : LLx E 20 41 5 (fun p => D p 12) L1 AR1 σ) (hL20 : (L1 p).length < 128) (hc : σ.2.2.2 c = 2) {mc ms cs sl : Nat} {args : Array Value} {XX : State → Prop} {QF : State → List Frame → State → Prop} (hcs : cs ≤ mc) (hsl : sl ≤ ms) : ∀ (k i : Nat), i + k = (L1 p).length → ((∀ j, i ≤ j → j < (L1 p).length → ¬ hcC (hcW σ c) (L1 p) j) → WG l E (RM d mc ms) 35 args XX QF (59, [(0, vR (some (D p 0))), (1, vR (some c))], [], σ, cs, sl)) → ((∃ j, j < (L1 p).length ∧ hcC (hcW σ c) (L1 p) j) → WG l E (RM d mc ms) 35 args XX QF (51, [(0, vR (some (D p 0))), (1, vR (some c))], [], σ, cs, sl)) →
    WG l E (RM d mc ms) 35 args XX QF (2, [(2, vI (nI i)), (0, vR (some (D p 0))), (1, vR (some c))], [], σ, cs, sl) := by
  intro k
  induction k with
  | zero =>
    intro i hi K0 K1
    refine w_run 2 (S' := (4, [(2, vI (nI i)), (0, vR (some (D p 0))), (1, vR (some c))], [vR (some (D p 0)), vI (nI i)], σ, cs, sl)) rfl ?_
    refine w_get (k := 2) (vR (σ.2.1 20520 (D p 0) 0)) rfl rfl rfl hP.1 rfl rfl ?_
    refine Eq.mp (congrArg (fun x9 => WG _ _ _ _ _ _ _ (7, [(2, vI (nI i)), (0, vR (some (D p 0))), (1, vR (some c))], [vR x9, vI (nI i)], σ, cs, sl)) (Eq.symm (hP.2 4 (by decide)) : some (D p 12) = σ.2.1 20520 (D p 0) 0)) ?_
    show WG _ _ _ _ _ _ _ (7, [(2, vI (nI i)), (0, vR (some (D p 0))), (1, vR (some c))], [vR (some (D p 12)), vI (nI i)], σ, cs, sl)
    refine w_callV (st := [vI (nI i)]) [] rfl ml_1_65 rfl rfl (hw 20520 (D p 0) 0 (D p 12) (hP.2 4 (by decide)) (by decide)) rfl rfl rfl (by simp only [RM]; omega) (by simp only [RM]; show 8 + (1 + 11) + _ ≤ _; omega) rfl (by simp only [RM]; omega) (by simp only [RM]; omega) (c_la_size_20 l E (d - 1) σ (fun p => D p 12) L1 AR1 hl20 p hp) (fun _ _ h => h.elim) ?_
    intro r9 s9 q9
    rw [q9.1, q9.2]
    clear q9 r9 s9
    show WG _ _ _ _ _ _ _ (10, [(2, vI (nI i)), (0, vR (some (D p 0))), (1, vR (some c))], [vI (nI (L1 p).length), vI (nI i)], σ, cs, sl)
    refine w_ic_ge rfl (fun c1 => ?_) (fun c1 => (absurd ((nI_leI (a := (L1 p).length) (b := i) (by omega) (by omega)).mpr (by omega)) c1))
    have nc1 := (nI_leI (a := (L1 p).length) (b := i) (by omega) (by omega)).mp c1
    refine w_lsP [1, 2] ?_
    show WG _ _ _ _ _ _ _ (59, [(0, vR (some (D p 0))), (1, vR (some c))], [], σ, cs, sl)
    exact K0 (fun j j1 j2 => by omega)
  | succ k ih =>
    intro i hi K0 K1
    refine w_run 2 (S' := (4, [(2, vI (nI i)), (0, vR (some (D p 0))), (1, vR (some c))], [vR (some (D p 0)), vI (nI i)], σ, cs, sl)) rfl ?_
    refine w_get (k := 2) (vR (σ.2.1 20520 (D p 0) 0)) rfl rfl rfl hP.1 rfl rfl ?_
    refine Eq.mp (congrArg (fun x9 => WG _ _ _ _ _ _ _ (7, [(2, vI (nI i)), (0, vR (some (D p 0))), (1, vR (some c))], [vR x9, vI (nI i)], σ, cs, sl)) (Eq.symm (hP.2 4 (by decide)) : some (D p 12) = σ.2.1 20520 (D p 0) 0)) ?_
    show WG _ _ _ _ _ _ _ (7, [(2, vI (nI i)), (0, vR (some (D p 0))), (1, vR (some c))], [vR (some (D p 12)), vI (nI i)], σ, cs, sl)
    refine w_callV (st := [vI (nI i)]) [] rfl ml_1_65 rfl rfl (hw 20520 (D p 0) 0 (D p 12) (hP.2 4 (by decide)) (by decide)) rfl rfl rfl (by simp only [RM]; omega) (by simp only [RM]; show 8 + (1 + 11) + _ ≤ _; omega) rfl (by simp only [RM]; omega) (by simp only [RM]; omega) (c_la_size_20 l E (d - 1) σ (fun p => D p 12) L1 AR1 hl20 p hp) (fun _ _ h => h.elim) ?_
    intro r9 s9 q9
    rw [q9.1, q9.2]
    clear q9 r9 s9
    show WG _ _ _ _ _ _ _ (10, [(2, vI (nI i)), (0, vR (some (D p 0))), (1, vR (some c))], [vI (nI (L1 p).length), vI (nI i)], σ, cs, sl)
    refine w_ic_ge rfl (fun c1 => (absurd ((nI_leI (a := (L1 p).length) (b := i) (by omega) (by omega)).mp c1) (by omega))) (fun c1 => ?_)
    have nc1 := mt (nI_leI (a := (L1 p).length) (b := i) (by omega) (by omega)).mpr c1
    obtain ⟨w9, hw9⟩ := el_get (L := L1 p) (i := i) (by omega)
    have hk9 := hl20.kd hw (by decide) (by decide) hp hw9
    refine w_run 1 (S' := (14, [(2, vI (nI i)), (0, vR (some (D p 0))), (1, vR (some c))], [vR (some (D p 0))], σ, cs, sl)) rfl ?_
    refine w_get (k := 2) (vR (σ.2.1 20520 (D p 0) 0)) rfl rfl rfl hP.1 rfl rfl ?_
    refine w_run 1 (S' := (18, [(2, vI (nI i)), (0, vR (some (D p 0))), (1, vR (some c))], [vI (nI i), vR (σ.2.1 20520 (D p 0) 0)], σ, cs, sl)) rfl ?_
    refine Eq.mp (congrArg (fun x9 => WG _ _ _ _ _ _ _ (18, [(2, vI (nI i)), (0, vR (some (D p 0))), (1, vR (some c))], [vI (nI i), vR x9], σ, cs, sl)) (Eq.symm (hP.2 4 (by decide)) : some (D p 12) = σ.2.1 20520 (D p 0) 0)) ?_
    show WG _ _ _ _ _ _ _ (18, [(2, vI (nI i)), (0, vR (some (D p 0))), (1, vR (some c))], [vI (nI i), vR (some (D p 12))], σ, cs, sl)
    refine w_callV (st := []) [vI (nI i)] rfl ml_1_69 rfl rfl (hw 20520 (D p 0) 0 (D p 12) (hP.2 4 (by decide)) (by decide)) rfl rfl rfl (by simp only [RM]; omega) (by simp only [RM]; show 8 + (2 + 11) + _ ≤ _; omega) rfl (by simp only [RM]; omega) (by simp only [RM]; omega) (c_la_get_20 l E (d - 1) σ (fun p => D p 12) L1 AR1 hl20 p hp i w9 0 (by omega) hw9) (fun _ _ h => h.elim) ?_
    intro r9 s9 q9
    rw [q9.1, q9.2]
    clear q9 r9 s9
    show WG _ _ _ _ _ _ _ (21, [(2, vI (nI i)), (0, vR (some (D p 0))), (1, vR (some c))], [vR (some w9)], σ, cs, sl)
    refine w_cast (k := 5) rfl rfl (fun b9 h9 => by have e9 := (rfl : some w9 = some w9).symm.trans h9; cases e9; exact hk9) rfl ?_
    refine w_run 2 (S' := (26, [(3, vR (some w9)), (2, vI (nI i)), (0, vR (some (D p 0))), (1, vR (some c))], [vR (some w9)], σ, cs, sl)) rfl ?_
    refine w_get (k := 5) (vI (σ.1 50000 w9 0)) rfl rfl rfl hk9 rfl rfl ?_
    refine w_run 1 (S' := (30, [(3, vR (some w9)), (2, vI (nI i)), (0, vR (some (D p 0))), (1, vR (some c))], [vI 1, vI (σ.1 50000 w9 0)], σ, cs, sl)) rfl ?_
    refine w_ic_ne rfl (fun c2 => ?_) (fun c2 => ?_)
    · refine w_run 2 (S' := (2, [(2, vI ((nI i) + 1)), (3, vR (some w9)), (0, vR (some (D p 0))), (1, vR (some c))], [], σ, cs, sl)) rfl ?_
      rw [show ((nI i) + 1 : Int32) = nI (i + 1) from by simp only [nl0, nl1, nl2, nl3, nl4, nl5, nl6, nl8, nl9, nl10, nl12, nl15, nl16, nl20, nl24, nl32, nl40, nl64, nl65, nl384, pk_mul, nI_add]]
      show WG _ _ _ _ _ _ _ (2, [(2, vI (nI (i + 1))), (3, vR (some w9)), (0, vR (some (D p 0))), (1, vR (some c))], [], σ, cs, sl)
      refine w_lsP [0, 2, 3] ?_
      show WG _ _ _ _ _ _ _ (2, [(2, vI (nI (i + 1))), (0, vR (some (D p 0))), (1, vR (some c))], [], σ, cs, sl)
      exact ih (i + 1) (by omega) (fun h9 => K0 (fun j j1 j2 => (Decidable.em (j = i)).elim (fun e9 => e9 ▸ (hcW_0 hw9 (by unfold hcW; rw [if_neg c2]))) (fun e9 => h9 j (by omega) j2))) K1
    · refine w_run 1 (S' := (34, [(3, vR (some w9)), (2, vI (nI i)), (0, vR (some (D p 0))), (1, vR (some c))], [vR (some w9)], σ, cs, sl)) rfl ?_
      refine w_get (k := 5) (vR (σ.2.1 50106 w9 0)) rfl rfl rfl hk9 rfl rfl ?_
      refine w_null rfl (fun c3 => ?_) (fun b4 c3 => ?_)
      · refine w_run 2 (S' := (2, [(2, vI ((nI i) + 1)), (3, vR (some w9)), (0, vR (some (D p 0))), (1, vR (some c))], [], σ, cs, sl)) rfl ?_
        rw [show ((nI i) + 1 : Int32) = nI (i + 1) from by simp only [nl0, nl1, nl2, nl3, nl4, nl5, nl6, nl8, nl9, nl10, nl12, nl15, nl16, nl20, nl24, nl32, nl40, nl64, nl65, nl384, pk_mul, nI_add]]
        show WG _ _ _ _ _ _ _ (2, [(2, vI (nI (i + 1))), (3, vR (some w9)), (0, vR (some (D p 0))), (1, vR (some c))], [], σ, cs, sl)
        refine w_lsP [0, 2, 3] ?_
        show WG _ _ _ _ _ _ _ (2, [(2, vI (nI (i + 1))), (0, vR (some (D p 0))), (1, vR (some c))], [], σ, cs, sl)
        exact ih (i + 1) (by omega) (fun h9 => K0 (fun j j1 j2 => (Decidable.em (j = i)).elim (fun e9 => e9 ▸ (hcW_0 hw9 (by unfold hcW; rw [if_pos c2, c3]))) (fun e9 => h9 j (by omega) j2))) K1
      · refine w_run 1 (S' := (41, [(3, vR (some w9)), (2, vI (nI i)), (0, vR (some (D p 0))), (1, vR (some c))], [vR (some w9)], σ, cs, sl)) rfl ?_
        refine w_get (k := 5) (vR (σ.2.1 50106 w9 0)) rfl rfl rfl hk9 rfl rfl ?_
        refine w_run 1 (S' := (45, [(3, vR (some w9)), (2, vI (nI i)), (0, vR (some (D p 0))), (1, vR (some c))], [vR (some c), vR (σ.2.1 50106 w9 0)], σ, cs, sl)) rfl ?_
        refine Eq.mp (congrArg (fun x9 => WG _ _ _ _ _ _ _ (45, [(3, vR (some w9)), (2, vI (nI i)), (0, vR (some (D p 0))), (1, vR (some c))], [vR (some c), vR x9], σ, cs, sl)) (Eq.symm c3 : some b4 = σ.2.1 50106 w9 0)) ?_
        show WG _ _ _ _ _ _ _ (45, [(3, vR (some w9)), (2, vI (nI i)), (0, vR (some (D p 0))), (1, vR (some c))], [vR (some c), vR (some b4)], σ, cs, sl)
        refine w_callV (st := []) [vR (some c)] rfl ml_1_82 rfl rfl (hw 50106 w9 0 b4 c3 (by decide)) rfl rfl rfl (by simp only [RM]; omega) (by simp only [RM]; show 8 + (2 + 11) + _ ≤ _; omega) rfl (by simp only [RM]; omega) (by simp only [RM]; omega) (c_ms_isFrom l E (d - 1) σ b4 c (hw 50106 w9 0 b4 c3 (by decide)) hc) (fun _ _ h => h.elim) ?_
        intro r9 s9 q9
        rw [q9.1, q9.2]
        clear q9 r9 s9
        show WG _ _ _ _ _ _ _ (48, [(3, vR (some w9)), (2, vI (nI i)), (0, vR (some (D p 0))), (1, vR (some c))], [vI (frmF σ b4 c)], σ, cs, sl)
        refine w_if_eq rfl (fun c5 => ?_) (fun c5 => ?_)
        · refine w_run 2 (S' := (2, [(2, vI ((nI i) + 1)), (3, vR (some w9)), (0, vR (some (D p 0))), (1, vR (some c))], [], σ, cs, sl)) rfl ?_
          rw [show ((nI i) + 1 : Int32) = nI (i + 1) from by simp only [nl0, nl1, nl2, nl3, nl4, nl5, nl6, nl8, nl9, nl10, nl12, nl15, nl16, nl20, nl24, nl32, nl40, nl64, nl65, nl384, pk_mul, nI_add]]
          show WG _ _ _ _ _ _ _ (2, [(2, vI (nI (i + 1))), (3, vR (some w9)), (0, vR (some (D p 0))), (1, vR (some c))], [], σ, cs, sl)
          refine w_lsP [0, 2, 3] ?_
          show WG _ _ _ _ _ _ _ (2, [(2, vI (nI (i + 1))), (0, vR (some (D p 0))), (1, vR (some c))], [], σ, cs, sl)
          exact ih (i + 1) (by omega) (fun h9 => K0 (fun j j1 j2 => (Decidable.em (j = i)).elim (fun e9 => e9 ▸ (hcW_0 hw9 (by unfold hcW; rw [if_pos c2, c3]; exact if_pos c5))) (fun e9 => h9 j (by omega) j2))) K1
        · refine w_lsP [2, 3] ?_
          show WG _ _ _ _ _ _ _ (51, [(0, vR (some (D p 0))), (1, vR (some c))], [], σ, cs, sl)
          exact K1 ⟨i, by omega, w9, hw9, by unfold hcW; rw [if_pos c2, c3]; exact if_neg c5⟩
set_option maxHeartbeats 4000000 in
theorem lk_pr_hc2 (l : Launch) (E : FE) (d : Nat) (σ : Sg) (D : Nat → Nat → Nat) (p c : Nat) (L2 : Nat → List Nat) (AR2 : Nat → Nat) (hd : 4 ≤ d) (hp : p < 4) (hP : SHp σ (D p)) (hw : WF σ) (hl21 : LLx E 21 42 6 (fun p => D p 13) L2 AR2 σ) (hL21 : (L2 p).length < 128) (hc : σ.2.2.2 c = 2) {mc ms cs sl : Nat} {args : Array Value} {XX : State → Prop} {QF : State → List Frame → State → Prop} (hcs : cs ≤ mc) (hsl : sl ≤ ms) : ∀ (k i : Nat), i + k = (L2 p).length → ((∀ j, i ≤ j → j < (L2 p).length → ¬ hcC (hcM σ c) (L2 p) j) → WG l E (RM d mc ms) 35 args XX QF (98, [(0, vR (some (D p 0))), (1, vR (some c))], [], σ, cs, sl)) → ((∃ j, j < (L2 p).length ∧ hcC (hcM σ c) (L2 p) j) → WG l E (RM d mc ms) 35 args XX QF (90, [(0, vR (some (D p 0))), (1, vR (some c))], [], σ, cs, sl)) →
    WG l E (RM d mc ms) 35 args XX QF (61, [(2, vI (nI i)), (0, vR (some (D p 0))), (1, vR (some c))], [], σ, cs, sl) := by
  intro k
  induction k with
  | zero =>
    intro i hi K0 K1
    refine w_run 2 (S' := (63, [(2, vI (nI i)), (0, vR (some (D p 0))), (1, vR (some c))], [vR (some (D p 0)), vI (nI i)], σ, cs, sl)) rfl ?_
    refine w_get (k := 2) (vR (σ.2.1 20621 (D p 0) 0)) rfl rfl rfl hP.1 rfl rfl ?_
    refine Eq.mp (congrArg (fun x9 => WG _ _ _ _ _ _ _ (66, [(2, vI (nI i)), (0, vR (some (D p 0))), (1, vR (some c))], [vR x9, vI (nI i)], σ, cs, sl)) (Eq.symm (hP.2 5 (by decide)) : some (D p 13) = σ.2.1 20621 (D p 0) 0)) ?_
    show WG _ _ _ _ _ _ _ (66, [(2, vI (nI i)), (0, vR (some (D p 0))), (1, vR (some c))], [vR (some (D p 13)), vI (nI i)], σ, cs, sl)
    refine w_callV (st := [vI (nI i)]) [] rfl ml_1_65 rfl rfl (hw 20621 (D p 0) 0 (D p 13) (hP.2 5 (by decide)) (by decide)) rfl rfl rfl (by simp only [RM]; omega) (by simp only [RM]; show 8 + (1 + 11) + _ ≤ _; omega) rfl (by simp only [RM]; omega) (by simp only [RM]; omega) (c_la_size_21 l E (d - 1) σ (fun p => D p 13) L2 AR2 hl21 p hp) (fun _ _ h => h.elim) ?_
    intro r9 s9 q9
    rw [q9.1, q9.2]
    clear q9 r9 s9
    show WG _ _ _ _ _ _ _ (69, [(2, vI (nI i)), (0, vR (some (D p 0))), (1, vR (some c))], [vI (nI (L2 p).length), vI (nI i)], σ, cs, sl)
    refine w_ic_ge rfl (fun c1 => ?_) (fun c1 => (absurd ((nI_leI (a := (L2 p).length) (b := i) (by omega) (by omega)).mpr (by omega)) c1))
    have nc1 := (nI_leI (a := (L2 p).length) (b := i) (by omega) (by omega)).mp c1
    refine w_lsP [1, 2] ?_
    show WG _ _ _ _ _ _ _ (98, [(0, vR (some (D p 0))), (1, vR (some c))], [], σ, cs, sl)
    exact K0 (fun j j1 j2 => by omega)
  | succ k ih =>
    intro i hi K0 K1
    refine w_run 2 (S' := (63, [(2, vI (nI i)), (0, vR (some (D p 0))), (1, vR (some c))], [vR (some (D p 0)), vI (nI i)], σ, cs, sl)) rfl ?_
    refine w_get (k := 2) (vR (σ.2.1 20621 (D p 0) 0)) rfl rfl rfl hP.1 rfl rfl ?_
    refine Eq.mp (congrArg (fun x9 => WG _ _ _ _ _ _ _ (66, [(2, vI (nI i)), (0, vR (some (D p 0))), (1, vR (some c))], [vR x9, vI (nI i)], σ, cs, sl)) (Eq.symm (hP.2 5 (by decide)) : some (D p 13) = σ.2.1 20621 (D p 0) 0)) ?_
    show WG _ _ _ _ _ _ _ (66, [(2, vI (nI i)), (0, vR (some (D p 0))), (1, vR (some c))], [vR (some (D p 13)), vI (nI i)], σ, cs, sl)
    refine w_callV (st := [vI (nI i)]) [] rfl ml_1_65 rfl rfl (hw 20621 (D p 0) 0 (D p 13) (hP.2 5 (by decide)) (by decide)) rfl rfl rfl (by simp only [RM]; omega) (by simp only [RM]; show 8 + (1 + 11) + _ ≤ _; omega) rfl (by simp only [RM]; omega) (by simp only [RM]; omega) (c_la_size_21 l E (d - 1) σ (fun p => D p 13) L2 AR2 hl21 p hp) (fun _ _ h => h.elim) ?_
    intro r9 s9 q9
    rw [q9.1, q9.2]
    clear q9 r9 s9
    show WG _ _ _ _ _ _ _ (69, [(2, vI (nI i)), (0, vR (some (D p 0))), (1, vR (some c))], [vI (nI (L2 p).length), vI (nI i)], σ, cs, sl)
    refine w_ic_ge rfl (fun c1 => (absurd ((nI_leI (a := (L2 p).length) (b := i) (by omega) (by omega)).mp c1) (by omega))) (fun c1 => ?_)
    have nc1 := mt (nI_leI (a := (L2 p).length) (b := i) (by omega) (by omega)).mpr c1
    obtain ⟨w9, hw9⟩ := el_get (L := L2 p) (i := i) (by omega)
    have hk9 := hl21.kd hw (by decide) (by decide) hp hw9
    refine w_run 1 (S' := (73, [(2, vI (nI i)), (0, vR (some (D p 0))), (1, vR (some c))], [vR (some (D p 0))], σ, cs, sl)) rfl ?_
    refine w_get (k := 2) (vR (σ.2.1 20621 (D p 0) 0)) rfl rfl rfl hP.1 rfl rfl ?_
    refine w_run 1 (S' := (77, [(2, vI (nI i)), (0, vR (some (D p 0))), (1, vR (some c))], [vI (nI i), vR (σ.2.1 20621 (D p 0) 0)], σ, cs, sl)) rfl ?_
    refine Eq.mp (congrArg (fun x9 => WG _ _ _ _ _ _ _ (77, [(2, vI (nI i)), (0, vR (some (D p 0))), (1, vR (some c))], [vI (nI i), vR x9], σ, cs, sl)) (Eq.symm (hP.2 5 (by decide)) : some (D p 13) = σ.2.1 20621 (D p 0) 0)) ?_
    show WG _ _ _ _ _ _ _ (77, [(2, vI (nI i)), (0, vR (some (D p 0))), (1, vR (some c))], [vI (nI i), vR (some (D p 13))], σ, cs, sl)
    refine w_callV (st := []) [vI (nI i)] rfl ml_1_69 rfl rfl (hw 20621 (D p 0) 0 (D p 13) (hP.2 5 (by decide)) (by decide)) rfl rfl rfl (by simp only [RM]; omega) (by simp only [RM]; show 8 + (2 + 11) + _ ≤ _; omega) rfl (by simp only [RM]; omega) (by simp only [RM]; omega) (c_la_get_21 l E (d - 1) σ (fun p => D p 13) L2 AR2 hl21 p hp i w9 0 (by omega) hw9) (fun _ _ h => h.elim) ?_
    intro r9 s9 q9
    rw [q9.1, q9.2]
    clear q9 r9 s9
    show WG _ _ _ _ _ _ _ (80, [(2, vI (nI i)), (0, vR (some (D p 0))), (1, vR (some c))], [vR (some w9)], σ, cs, sl)
    refine w_cast (k := 6) rfl rfl (fun b9 h9 => by have e9 := (rfl : some w9 = some w9).symm.trans h9; cases e9; exact hk9) rfl ?_
    refine w_run 1 (S' := (84, [(2, vI (nI i)), (0, vR (some (D p 0))), (1, vR (some c))], [vR (some c), vR (some w9)], σ, cs, sl)) rfl ?_
    refine w_callV (st := []) [vR (some c)] rfl ml_1_82 rfl rfl hk9 rfl rfl rfl (by simp only [RM]; omega) (by simp only [RM]; show 8 + (2 + 11) + _ ≤ _; omega) rfl (by simp only [RM]; omega) (by simp only [RM]; omega) (c_ms_isFrom l E (d - 1) σ w9 c hk9 hc) (fun _ _ h => h.elim) ?_
    intro r9 s9 q9
    rw [q9.1, q9.2]
    clear q9 r9 s9
    show WG _ _ _ _ _ _ _ (87, [(2, vI (nI i)), (0, vR (some (D p 0))), (1, vR (some c))], [vI (frmF σ w9 c)], σ, cs, sl)
    refine w_if_eq rfl (fun c2 => ?_) (fun c2 => ?_)
    · refine w_run 2 (S' := (61, [(2, vI ((nI i) + 1)), (0, vR (some (D p 0))), (1, vR (some c))], [], σ, cs, sl)) rfl ?_
      rw [show ((nI i) + 1 : Int32) = nI (i + 1) from by simp only [nl0, nl1, nl2, nl3, nl4, nl5, nl6, nl8, nl9, nl10, nl12, nl15, nl16, nl20, nl24, nl32, nl40, nl64, nl65, nl384, pk_mul, nI_add]]
      show WG _ _ _ _ _ _ _ (61, [(2, vI (nI (i + 1))), (0, vR (some (D p 0))), (1, vR (some c))], [], σ, cs, sl)
      exact ih (i + 1) (by omega) (fun h9 => K0 (fun j j1 j2 => (Decidable.em (j = i)).elim (fun e9 => e9 ▸ (hcM_0 hw9 (if_pos c2))) (fun e9 => h9 j (by omega) j2))) K1
    · refine w_lsP [1, 2] ?_
      show WG _ _ _ _ _ _ _ (90, [(0, vR (some (D p 0))), (1, vR (some c))], [], σ, cs, sl)
      exact K1 ⟨i, by omega, w9, hw9, if_neg c2⟩
def hcB (σ : Sg) (c : Nat) (L1 L2 : List Nat) : Int32 := if (L1.any (hcW σ c) || L2.any (hcM σ c)) = true then 1 else 0
set_option maxHeartbeats 4000000 in
theorem c_pr_hasCallOf (l : Launch) (E : FE) (d : Nat) (σ : Sg) (D : Nat → Nat → Nat) (p c : Nat) (L1 : Nat → List Nat) (AR1 : Nat → Nat) (L2 : Nat → List Nat) (AR2 : Nat → Nat) (hd : 4 ≤ d) (hp : p < 4) (hP : SHp σ (D p)) (hw : WF σ) (hl20 : LLx E 20 41 5 (fun p => D p 12) L1 AR1 σ) (hl21 : LLx E 21 42 6 (fun p => D p 13) L2 AR2 σ) (hL20 : (L1 p).length < 128) (hL21 : (L2 p).length < 128) (hc : σ.2.2.2 c = 2) : CT l E d 35 [vR (some (D p 0)), vR (some c)] σ 0 0 (fun r σ' => r = some (vI (hcB σ c (L1 p) (L2 p))) ∧ σ' = σ) (fun _ _ => False) := by
  refine CTo ok_pr_hasCallOf (by decide +kernel) rfl rfl rfl ?_
  refine w_run 2 (S' := (2, [(2, vI 0), (0, vR (some (D p 0))), (1, vR (some c))], [], σ, 0, 0)) rfl ?_
  refine lk_pr_hc1 l E d σ D p c L1 AR1 hd hp hP hw hl20 hL20 hc (Nat.le_refl _) (Nat.le_refl _) (L1 p).length 0 (by omega) (fun ek1 => ?_) (fun ek1 => ?_)
  · show WG _ _ _ _ _ _ _ (59, [(0, vR (some (D p 0))), (1, vR (some c))], [], σ, 0, 0)
    refine w_run 2 (S' := (61, [(2, vI 0), (0, vR (some (D p 0))), (1, vR (some c))], [], σ, 0, 0)) rfl ?_
    refine lk_pr_hc2 l E d σ D p c L2 AR2 hd hp hP hw hl21 hL21 hc (Nat.le_refl _) (Nat.le_refl _) (L2 p).length 0 (by omega) (fun ek2 => ?_) (fun ek2 => ?_)
    · show WG _ _ _ _ _ _ _ (98, [(0, vR (some (D p 0))), (1, vR (some c))], [], σ, 0, 0)
      refine w_run 1 (S' := (99, [(0, vR (some (D p 0))), (1, vR (some c))], [vI 0], σ, 0, 0)) rfl ?_
      exact w_iret rfl (Or.inr ⟨rfl, Or.inl rfl⟩) (by omega) (by omega) (⟨by rw [hcB, hcC_none ek1, hcC_none ek2]; rfl, rfl⟩)
    · show WG _ _ _ _ _ _ _ (90, [(0, vR (some (D p 0))), (1, vR (some c))], [], σ, 0, 0)
      refine w_run 1 (S' := (91, [(0, vR (some (D p 0))), (1, vR (some c))], [vI 1], σ, 0, 0)) rfl ?_
      exact w_iret rfl (Or.inr ⟨rfl, Or.inr rfl⟩) (by omega) (by omega) (⟨by rw [hcB, hcC_none ek1, hcC_any ek2]; rfl, rfl⟩)
  · show WG _ _ _ _ _ _ _ (51, [(0, vR (some (D p 0))), (1, vR (some c))], [], σ, 0, 0)
    refine w_run 1 (S' := (52, [(0, vR (some (D p 0))), (1, vR (some c))], [vI 1], σ, 0, 0)) rfl ?_
    exact w_iret rfl (Or.inr ⟨rfl, Or.inr rfl⟩) (by omega) (by omega) (⟨by rw [hcB, hcC_any ek1]; rfl, rfl⟩)

