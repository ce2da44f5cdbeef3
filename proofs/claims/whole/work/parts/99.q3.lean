/-! findNode, findNodes -/
/-- lists, shapes and kinds of all processes -/
def Ka (E : FE) (D : Nat → Nat → Nat) (L1 L2 L3 : Nat → List Nat) (AR1 AR2 AR3 : Nat → Nat) (σ : Sg) : Prop := WF σ ∧ (∀ p, p < 4 → SHp σ (D p)) ∧ LLx E 20 41 5 (fun p => D p 12) L1 AR1 σ ∧ LLx E 21 42 6 (fun p => D p 13) L2 AR2 σ ∧ LLx E 22 43 7 (fun p => D p 14) L3 AR3 σ
section KAS
variable {E : FE} {D : Nat → Nat → Nat} {L1 L2 L3 : Nat → List Nat} {AR1 AR2 AR3 : Nat → Nat} {σ : Sg}
theorem Ka.p {p : Nat} (h : Ka E D L1 L2 L3 AR1 AR2 AR3 σ) (hp : p < 4) : Kp E D p L1 L2 L3 AR1 AR2 AR3 σ := ⟨h.1, h.2.1 p hp, h.2.2⟩
theorem Ka.i {c a x : Nat} {v : Int32} (h : Ka E D L1 L2 L3 AR1 AR2 AR3 σ) (hc : c ∉ [200200, 419900, 210200, 429900, 220200, 439900]) : Ka E D L1 L2 L3 AR1 AR2 AR3 (sI σ c a x v) := by
  simp only [List.mem_cons, List.not_mem_nil, or_false, not_or] at hc
  exact ⟨WF.i h.1, h.2.1, h.2.2.1.i hc.1 hc.2.1, h.2.2.2.1.i hc.2.2.1 hc.2.2.2.1, h.2.2.2.2.i hc.2.2.2.2.1 hc.2.2.2.2.2⟩
theorem Ka.o {c a x : Nat} {v : Option Nat} (h : Ka E D L1 L2 L3 AR1 AR2 AR3 σ) (hb : ∀ b, v = some b → c % 100 ≠ 0 → σ.2.2.2 b = c % 100) (hc : c ∉ [200100, 410005, 210100, 420006, 220100, 430007]) (hs : ∀ j, j < 14 → (shc j).1 ≠ c) : Ka E D L1 L2 L3 AR1 AR2 AR3 (sO σ c a x v) := by
  simp only [List.mem_cons, List.not_mem_nil, or_false, not_or] at hc
  refine ⟨?_, fun p hp => (h.2.1 p hp).o hs, h.2.2.1.o hc.1 hc.2.1, h.2.2.2.1.o hc.2.2.1 hc.2.2.2.1, h.2.2.2.2.o hc.2.2.2.2.1 hc.2.2.2.2.2⟩
  cases v with
  | none => exact WF.oN h.1
  | some b => exact WF.oS h.1 (hb b rfl)
theorem Ka.n {q k : Nat} (h : Ka E D L1 L2 L3 AR1 AR2 AR3 σ) (hq : σ.2.2.2 q = 0) (hqe : q ≠ fe E) : Ka E D L1 L2 L3 AR1 AR2 AR3 (sN σ q k) :=
  ⟨h.1.n hq, fun p hp => (h.2.1 p hp).n h.1 hq, h.2.2.1.n (by decide) (by decide) hq hqe, h.2.2.2.1.n (by decide) (by decide) hq hqe, h.2.2.2.2.n (by decide) (by decide) hq hqe⟩
theorem Ka.A {q k n : Nat} (h : Ka E D L1 L2 L3 AR1 AR2 AR3 σ) (hq : σ.2.2.2 q = 0) (hqe : q ≠ fe E) (hk : 10000 * k + 9900 ∉ [200200, 419900, 210200, 429900, 220200, 439900]) : Ka E D L1 L2 L3 AR1 AR2 AR3 (sA σ q k n) := (h.n hq hqe).i hk
theorem Ka.a20 {L1' : Nat → List Nat} {AR1' : Nat → Nat} {σ' : Sg} (h : Ka E D L1 L2 L3 AR1 AR2 AR3 σ) (e : Eqk E 20 41 σ σ') (hl : LLx E 20 41 5 (fun p => D p 12) L1' AR1' σ') : Ka E D L1' L2 L3 AR1' AR2 AR3 σ' :=
  ⟨e.2.2.2.2.2 h.1, fun p hp => (h.2.1 p hp).eqk h.1 e (by decide) (by decide), hl, h.2.2.2.1.keep e (by decide) (by decide) (by decide) (by decide) (by decide) (by decide) (by decide), h.2.2.2.2.keep e (by decide) (by decide) (by decide) (by decide) (by decide) (by decide) (by decide)⟩
theorem Ka.a21 {L1' : Nat → List Nat} {AR1' : Nat → Nat} {σ' : Sg} (h : Ka E D L1 L2 L3 AR1 AR2 AR3 σ) (e : Eqk E 21 42 σ σ') (hl : LLx E 21 42 6 (fun p => D p 13) L1' AR1' σ') : Ka E D L1 L1' L3 AR1 AR1' AR3 σ' :=
  ⟨e.2.2.2.2.2 h.1, fun p hp => (h.2.1 p hp).eqk h.1 e (by decide) (by decide), h.2.2.1.keep e (by decide) (by decide) (by decide) (by decide) (by decide) (by decide) (by decide), hl, h.2.2.2.2.keep e (by decide) (by decide) (by decide) (by decide) (by decide) (by decide) (by decide)⟩
theorem Ka.a22 {L1' : Nat → List Nat} {AR1' : Nat → Nat} {σ' : Sg} (h : Ka E D L1 L2 L3 AR1 AR2 AR3 σ) (e : Eqk E 22 43 σ σ') (hl : LLx E 22 43 7 (fun p => D p 14) L1' AR1' σ') : Ka E D L1 L2 L1' AR1 AR2 AR1' σ' :=
  ⟨e.2.2.2.2.2 h.1, fun p hp => (h.2.1 p hp).eqk h.1 e (by decide) (by decide), h.2.2.1.keep e (by decide) (by decide) (by decide) (by decide) (by decide) (by decide) (by decide), h.2.2.2.1.keep e (by decide) (by decide) (by decide) (by decide) (by decide) (by decide) (by decide), hl⟩
end KAS
theorem lsw_out {v1 v2 o1 o2 dflt x : Int} (h1 : x ≠ v1) (h2 : x ≠ v2) : Op.lookupswitch.offset [(v1, o1), (v2, o2)] dflt x = dflt := by
  simp only [Op.lookupswitch.offset]
  first | rw [if_neg h1, if_neg h2] | rw [if_neg (Ne.symm h1), if_neg (Ne.symm h2)] | simp [h1, h2] | simp [Ne.symm h1, Ne.symm h2]
def fnF (σ : Sg) (x : Nat) (P : Nat → Nat) (k y : Int32) : Option Nat := if k = 1 then natF (σ.2.1 110003 (P 1)) y else if k = 2 then snF σ x P y else none
def fnV (σ : Sg) (x : Nat) (P : Nat → Nat) (i : Nat) : Option Nat := fnF σ x P (σ.1 160000 (P 9) i) (σ.1 170000 (P 10) i)
def fnS (V : Nat → Option Nat) (dn : Nat) : Nat → Sg → Sg := fun i τ => sO τ 180003 dn i (V i)
def fnB (σ : Sg) (x : Nat) (P : Nat → Nat) (i : Nat) : Prop := fnV σ x P i = none ∧ ¬ σ.1 160000 (P 9) i = 0
/-- what finding nodes leaves -/
def FN (σ τ : Sg) : Prop := WF τ ∧ τ.2.2 = σ.2.2 ∧ τ.1 = σ.1 ∧ (∀ c x i, c ≠ 180003 → τ.2.1 c x i = σ.2.1 c x i)
theorem FN.sh {σ τ : Sg} {P : Nat → Nat} (h : FN σ τ) (hP : SHp σ P) : SHp τ P := by
  refine ⟨by rw [h.2.1]; exact hP.1, fun j hj => ?_⟩
  have e : ∀ j, j < 14 → (shc j).1 ≠ 180003 := by decide
  rw [h.2.2.2 _ _ _ (e j hj)]; exact hP.2 j hj
theorem FN.v {σ τ : Sg} {x : Nat} {P : Nat → Nat} {i : Nat} (h : FN σ τ) : fnF τ x P (τ.1 160000 (P 9) i) (τ.1 170000 (P 10) i) = fnV σ x P i := by
  unfold fnV fnF snF
  rw [h.2.2.1, show τ.2.1 110003 (P 1) = σ.2.1 110003 (P 1) from funext fun i => h.2.2.2 _ _ _ (by decide), show τ.2.1 120003 (P 3) = σ.2.1 120003 (P 3) from funext fun i => h.2.2.2 _ _ _ (by decide), h.2.2.2 10103 x 0 (by decide)]
theorem strongF_k {σ : Sg} {a1 : Nat} {st : Nat → Int32} {y : Int32} {b : Nat} (hw : WF σ) (h : strongF (σ.2.1 120003 a1) st y = some b) : σ.2.2.2 b = 3 := by
  unfold strongF at h
  repeat' split at h
  all_goals first | (exact hw _ _ _ _ h (by decide)) | (cases h; done)
theorem snF_k {σ : Sg} {x : Nat} {P : Nat → Nat} {y : Int32} {b : Nat} (hw : WF σ) (h : snF σ x P y = some b) : σ.2.2.2 b = 3 := by
  unfold snF at h
  split at h
  · exact hw _ _ _ _ h (by decide)
  · exact strongF_k hw h
theorem fnF_k {σ : Sg} {x : Nat} {P : Nat → Nat} {k y : Int32} {b : Nat} (hw : WF σ) (h : fnF σ x P k y = some b) : σ.2.2.2 b = 3 := by
  unfold fnF at h
  split at h
  · exact natF_k hw h
  · split at h
    · exact snF_k hw h
    · cases h
theorem FN.s {σ τ : Sg} {V : Nat → Option Nat} {dn i : Nat} (h : FN σ τ) (hV : ∀ b, V i = some b → σ.2.2.2 b = 3) : FN σ (fnS V dn i τ) := by
  refine ⟨?_, h.2.1, h.2.2.1, fun c x j hc => ?_⟩
  · show WF (sO τ 180003 dn i (V i))
    cases e : V i with
    | none => exact WF.oN h.1
    | some b => exact WF.oS h.1 (fun _ => by rw [h.2.1]; exact hV b e)
  · show (sO τ 180003 dn i (V i)).2.1 c x j = _
    rw [rOO hc]; exact h.2.2.2 c x j hc
set_option maxHeartbeats 4000000 in
theorem c_od_findNode (l : Launch) (E : FE) (d : Nat) (σ : Sg) (P : Nat → Nat) (x : Nat) (k y : Int32) (hd : 3 ≤ d) (hx : σ.2.2.2 x = 1) (hP : SHp σ P) (hw : WF σ) : CT l E d 69 [vR (some x), vR (some (P 0)), vI k, vI y] σ 0 0 (fun r σ' => r = some (vR (fnF σ x P k y)) ∧ σ' = σ) (fun _ _ => False) := by
  refine CTo ok_od_findNode (by decide +kernel) rfl rfl rfl ?_
  refine w_run 1 (S' := (1, [(0, vR (some x)), (1, vR (some (P 0))), (2, vI k), (3, vI y)], [vI k], σ, 0, 0)) rfl ?_
  by_cases c1 : k = 1
  · subst c1
    show WG _ _ _ _ _ _ _ (1, [(0, vR (some x)), (1, vR (some (P 0))), (2, vI 1), (3, vI y)], [vI 1], σ, 0, 0)
    refine w_lsw rfl rfl rfl rfl ?_
    refine w_run 2 (S' := (30, [(0, vR (some x)), (1, vR (some (P 0))), (2, vI 1), (3, vI y)], [vI y, vR (some (P 0))], σ, 0, 0)) rfl ?_
    refine w_callV (st := []) [vI y] rfl ml_0_84 rfl rfl hP.1 rfl rfl rfl (by simp only [RM]; omega) (by simp only [RM]; show 8 + (2 + 11) + _ ≤ _; omega) rfl (by simp only [RM]; omega) (by simp only [RM]; omega) (c_pr_nodeAt l E (d - 1) σ (P 0) (P 1) y hP.1 (hP.2 0 (by decide)) hw) (fun _ _ h => h.elim) ?_
    intro r9 s9 q9
    rw [q9.1, q9.2]
    clear q9 r9 s9
    show WG _ _ _ _ _ _ _ (33, [(0, vR (some x)), (1, vR (some (P 0))), (2, vI 1), (3, vI y)], [vR (natF (σ.2.1 110003 (P 1)) y)], σ, 0, 0)
    exact w_aret rfl rfl (Or.inl ⟨_, rfl⟩) (by omega) (by omega) (⟨by simp [fnF], rfl⟩)
  by_cases c2 : k = 2
  · subst c2
    show WG _ _ _ _ _ _ _ (1, [(0, vR (some x)), (1, vR (some (P 0))), (2, vI 2), (3, vI y)], [vI 2], σ, 0, 0)
    refine w_lsw rfl rfl rfl rfl ?_
    refine w_run 3 (S' := (37, [(0, vR (some x)), (1, vR (some (P 0))), (2, vI 2), (3, vI y)], [vI y, vR (some (P 0)), vR (some x)], σ, 0, 0)) rfl ?_
    refine w_callV (st := []) [vR (some (P 0)), vI y] rfl ml_0_101 rfl rfl hx rfl rfl rfl (by simp only [RM]; omega) (by simp only [RM]; show 8 + (3 + 11) + _ ≤ _; omega) rfl (by simp only [RM]; omega) (by simp only [RM]; omega) (c_od_strongNode l E (d - 1) σ P x y (by omega) hx hP hw) (fun _ _ h => h.elim) ?_
    intro r9 s9 q9
    rw [q9.1, q9.2]
    clear q9 r9 s9
    show WG _ _ _ _ _ _ _ (40, [(0, vR (some x)), (1, vR (some (P 0))), (2, vI 2), (3, vI y)], [vR (snF σ x P y)], σ, 0, 0)
    exact w_aret rfl rfl (Or.inl ⟨_, rfl⟩) (by omega) (by omega) (⟨by simp [fnF], rfl⟩)
  · have tc1 : k.toInt ≠ 1 := fun e9 => c1 (Int32.toInt_inj.mp e9)
    have tc2 : k.toInt ≠ 2 := fun e9 => c2 (Int32.toInt_inj.mp e9)
    refine w_lsw rfl rfl (lsw_out tc1 tc2) rfl ?_
    refine w_run 1 (S' := (42, [(0, vR (some x)), (1, vR (some (P 0))), (2, vI k), (3, vI y)], [vR none], σ, 0, 0)) rfl ?_
    exact w_aret rfl rfl (Or.inl ⟨_, rfl⟩) (by omega) (by omega) (⟨by simp [fnF, c1, c2], rfl⟩)

set_option maxRecDepth 20000 in
set_option maxHeartbeats 4000000 in
theorem lk_od_fn (l : Launch) (E : FE) (d : Nat) (σ : Sg) (P : Nat → Nat) (x n : Nat) (hd : 4 ≤ d) (hx : σ.2.2.2 x = 1) (hP : SHp σ P) (hw0 : WF σ) (hn : n ≤ 4) (hit : σ.1 40300 (P 8) 0 = nI n) {mc ms cs sl : Nat} {args : Array Value} {XX : State → Prop} {QF : State → List Frame → State → Prop} (hcs : cs ≤ mc) (hsl : sl ≤ ms) : ∀ (k i : Nat), i + k = n → ∀ τ, FN σ τ → (∀ τ', τ' = itF (fnS (fnV σ x P) (P 11)) k i τ → FN σ τ' → (∀ j, i ≤ j → j < n → ¬ fnB σ x P j) → WG l E (RM d mc ms) 68 args XX QF (59, [(0, vR (some x)), (1, vR (some (P 0))), (2, vR (some (P 8)))], [], τ', cs, sl)) → (∀ τ', FN σ τ' → (∃ j, j < n ∧ fnB σ x P j) → WG l E (RM d mc ms) 68 args XX QF (51, [(0, vR (some x)), (1, vR (some (P 0))), (2, vR (some (P 8)))], [], τ', cs, sl)) →
    WG l E (RM d mc ms) 68 args XX QF (2, [(3, vI (nI i)), (0, vR (some x)), (1, vR (some (P 0))), (2, vR (some (P 8)))], [], τ, cs, sl) := by
  intro k
  induction k with
  | zero =>
    intro i hi τ hF K0 K1
    refine w_run 2 (S' := (4, [(3, vI (nI i)), (0, vR (some x)), (1, vR (some (P 0))), (2, vR (some (P 8)))], [vR (some (P 8)), vI (nI i)], τ, cs, sl)) rfl ?_
    refine w_get (k := 4) (vI (τ.1 40300 (P 8) 0)) rfl rfl rfl (hF.1 20404 (P 0) 0 (P 8) ((hF.sh hP).2 3 (by decide)) (by decide)) rfl rfl ?_
    refine Eq.mp (congrArg (fun x9 => WG _ _ _ _ _ _ _ (7, [(3, vI (nI i)), (0, vR (some x)), (1, vR (some (P 0))), (2, vR (some (P 8)))], [vI x9, vI (nI i)], τ, cs, sl)) ((((congrFun (congrFun (congrFun hF.2.2.1 40300) (P 8)) 0).trans hit)).symm : nI n = τ.1 40300 (P 8) 0)) ?_
    show WG _ _ _ _ _ _ _ (7, [(3, vI (nI i)), (0, vR (some x)), (1, vR (some (P 0))), (2, vR (some (P 8)))], [vI (nI n), vI (nI i)], τ, cs, sl)
    refine w_ic_ge rfl (fun c1 => ?_) (fun c1 => (absurd ((nI_leI (a := n) (b := i) (by omega) (by omega)).mpr (by omega)) c1))
    have nc1 := (nI_leI (a := n) (b := i) (by omega) (by omega)).mp c1
    refine w_lsP [1, 2, 3] ?_
    show WG _ _ _ _ _ _ _ (59, [(0, vR (some x)), (1, vR (some (P 0))), (2, vR (some (P 8)))], [], τ, cs, sl)
    exact K0 τ rfl hF (fun j j1 j2 => by omega)
  | succ k ih =>
    intro i hi τ hF K0 K1
    refine w_run 2 (S' := (4, [(3, vI (nI i)), (0, vR (some x)), (1, vR (some (P 0))), (2, vR (some (P 8)))], [vR (some (P 8)), vI (nI i)], τ, cs, sl)) rfl ?_
    refine w_get (k := 4) (vI (τ.1 40300 (P 8) 0)) rfl rfl rfl (hF.1 20404 (P 0) 0 (P 8) ((hF.sh hP).2 3 (by decide)) (by decide)) rfl rfl ?_
    refine Eq.mp (congrArg (fun x9 => WG _ _ _ _ _ _ _ (7, [(3, vI (nI i)), (0, vR (some x)), (1, vR (some (P 0))), (2, vR (some (P 8)))], [vI x9, vI (nI i)], τ, cs, sl)) ((((congrFun (congrFun (congrFun hF.2.2.1 40300) (P 8)) 0).trans hit)).symm : nI n = τ.1 40300 (P 8) 0)) ?_
    show WG _ _ _ _ _ _ _ (7, [(3, vI (nI i)), (0, vR (some x)), (1, vR (some (P 0))), (2, vR (some (P 8)))], [vI (nI n), vI (nI i)], τ, cs, sl)
    refine w_ic_ge rfl (fun c1 => (absurd ((nI_leI (a := n) (b := i) (by omega) (by omega)).mp c1) (by omega))) (fun c1 => ?_)
    have nc1 := mt (nI_leI (a := n) (b := i) (by omega) (by omega)).mpr c1
    refine w_run 1 (S' := (11, [(3, vI (nI i)), (0, vR (some x)), (1, vR (some (P 0))), (2, vR (some (P 8)))], [vR (some (P 8))], τ, cs, sl)) rfl ?_
    refine w_get (k := 4) (vR (τ.2.1 40218 (P 8) 0)) rfl rfl rfl (hF.1 20404 (P 0) 0 (P 8) ((hF.sh hP).2 3 (by decide)) (by decide)) rfl rfl ?_
    refine w_run 4 (S' := (18, [(3, vI (nI i)), (0, vR (some x)), (1, vR (some (P 0))), (2, vR (some (P 8)))], [vR (some (P 8)), vR (some (P 0)), vR (some x), vI (nI i), vR (τ.2.1 40218 (P 8) 0)], τ, cs, sl)) rfl ?_
    refine w_get (k := 4) (vR (τ.2.1 40016 (P 8) 0)) rfl rfl rfl (hF.1 20404 (P 0) 0 (P 8) ((hF.sh hP).2 3 (by decide)) (by decide)) rfl rfl ?_
    refine w_run 1 (S' := (22, [(3, vI (nI i)), (0, vR (some x)), (1, vR (some (P 0))), (2, vR (some (P 8)))], [vI (nI i), vR (τ.2.1 40016 (P 8) 0), vR (some (P 0)), vR (some x), vI (nI i), vR (τ.2.1 40218 (P 8) 0)], τ, cs, sl)) rfl ?_
    refine w_iald (k := 16) rfl ((hF.sh hP).2 11 (by decide)) (hF.1 40016 (P 8) 0 (P 9) ((hF.sh hP).2 11 (by decide)) (by decide)) rfl (show vp_in (nI i) 4 from vp_in_nI (n := i) (by omega) (by decide)) ?_
    show WG _ _ _ _ _ _ _ (23, [(3, vI (nI i)), (0, vR (some x)), (1, vR (some (P 0))), (2, vR (some (P 8)))], [vI (τ.1 160000 (P 9) (nI i).toNatClampNeg), vR (some (P 0)), vR (some x), vI (nI i), vR (τ.2.1 40218 (P 8) 0)], τ, cs, sl)
    rw [show (nI i : Int32).toNatClampNeg = i from nI_clamp (n := i) (by omega)]
    show WG _ _ _ _ _ _ _ (23, [(3, vI (nI i)), (0, vR (some x)), (1, vR (some (P 0))), (2, vR (some (P 8)))], [vI (τ.1 160000 (P 9) i), vR (some (P 0)), vR (some x), vI (nI i), vR (τ.2.1 40218 (P 8) 0)], τ, cs, sl)
    refine w_run 1 (S' := (24, [(3, vI (nI i)), (0, vR (some x)), (1, vR (some (P 0))), (2, vR (some (P 8)))], [vR (some (P 8)), vI (τ.1 160000 (P 9) i), vR (some (P 0)), vR (some x), vI (nI i), vR (τ.2.1 40218 (P 8) 0)], τ, cs, sl)) rfl ?_
    refine w_get (k := 4) (vR (τ.2.1 40117 (P 8) 0)) rfl rfl rfl (hF.1 20404 (P 0) 0 (P 8) ((hF.sh hP).2 3 (by decide)) (by decide)) rfl rfl ?_
    refine w_run 1 (S' := (28, [(3, vI (nI i)), (0, vR (some x)), (1, vR (some (P 0))), (2, vR (some (P 8)))], [vI (nI i), vR (τ.2.1 40117 (P 8) 0), vI (τ.1 160000 (P 9) i), vR (some (P 0)), vR (some x), vI (nI i), vR (τ.2.1 40218 (P 8) 0)], τ, cs, sl)) rfl ?_
    refine w_iald (k := 17) rfl ((hF.sh hP).2 12 (by decide)) (hF.1 40117 (P 8) 0 (P 10) ((hF.sh hP).2 12 (by decide)) (by decide)) rfl (show vp_in (nI i) 4 from vp_in_nI (n := i) (by omega) (by decide)) ?_
    show WG _ _ _ _ _ _ _ (29, [(3, vI (nI i)), (0, vR (some x)), (1, vR (some (P 0))), (2, vR (some (P 8)))], [vI (τ.1 170000 (P 10) (nI i).toNatClampNeg), vI (τ.1 160000 (P 9) i), vR (some (P 0)), vR (some x), vI (nI i), vR (τ.2.1 40218 (P 8) 0)], τ, cs, sl)
    rw [show (nI i : Int32).toNatClampNeg = i from nI_clamp (n := i) (by omega)]
    show WG _ _ _ _ _ _ _ (29, [(3, vI (nI i)), (0, vR (some x)), (1, vR (some (P 0))), (2, vR (some (P 8)))], [vI (τ.1 170000 (P 10) i), vI (τ.1 160000 (P 9) i), vR (some (P 0)), vR (some x), vI (nI i), vR (τ.2.1 40218 (P 8) 0)], τ, cs, sl)
    refine w_callV (st := [vI (nI i), vR (τ.2.1 40218 (P 8) 0)]) [vR (some (P 0)), vI (τ.1 160000 (P 9) i), vI (τ.1 170000 (P 10) i)] rfl ml_0_305 rfl rfl (show τ.2.2.2 x = 1 by rw [hF.2.1]; exact hx) rfl rfl rfl (by simp only [RM]; omega) (by simp only [RM]; show 8 + (4 + 11) + _ ≤ _; omega) rfl (by simp only [RM]; omega) (by simp only [RM]; omega) (c_od_findNode l E (d - 1) τ P x (τ.1 160000 (P 9) i) (τ.1 170000 (P 10) i) (by omega) (show τ.2.2.2 x = 1 by rw [hF.2.1]; exact hx) (hF.sh hP) hF.1) (fun _ _ h => h.elim) ?_
    intro r9 s9 q9
    rw [q9.1, q9.2, hF.v]
    clear q9 r9 s9
    show WG _ _ _ _ _ _ _ (32, [(3, vI (nI i)), (0, vR (some x)), (1, vR (some (P 0))), (2, vR (some (P 8)))], [vR (fnV σ x P i), vI (nI i), vR (τ.2.1 40218 (P 8) 0)], τ, cs, sl)
    cases hv9 : fnV σ x P i with
    | none =>
      show WG _ _ _ _ _ _ _ (32, [(3, vI (nI i)), (0, vR (some x)), (1, vR (some (P 0))), (2, vR (some (P 8)))], [vR none, vI (nI i), vR (τ.2.1 40218 (P 8) 0)], τ, cs, sl)
      refine w_aastN (k := 18) rfl ((hF.sh hP).2 13 (by decide)) (hF.1 40218 (P 8) 0 (P 11) ((hF.sh hP).2 13 (by decide)) (by decide)) rfl (by decide) rfl (show vp_in (nI i) 4 from vp_in_nI (n := i) (by omega) (by decide)) ?_
      show WG _ _ _ _ _ _ _ (33, [(3, vI (nI i)), (0, vR (some x)), (1, vR (some (P 0))), (2, vR (some (P 8)))], [], sO τ 180003 (P 11) ((nI i).toNatClampNeg) none, cs, sl)
      rw [show (nI i : Int32).toNatClampNeg = i from nI_clamp (n := i) (by omega)]
      have hG : FN σ (fnS (fnV σ x P) (P 11) i τ) := hF.s (fun b h => fnF_k hw0 h)
      have eG : fnS (fnV σ x P) (P 11) i τ = sO τ 180003 (P 11) i none := by show sO τ 180003 (P 11) i (fnV σ x P i) = _; rw [hv9]
      refine Eq.mp (congrArg (fun x9 => WG _ _ _ _ _ _ _ (33, [(3, vI (nI i)), (0, vR (some x)), (1, vR (some (P 0))), (2, vR (some (P 8)))], [], x9, cs, sl)) eG) ?_
      have hvv : (fnS (fnV σ x P) (P 11) i τ).2.1 180003 (P 11) i = none := by rw [eG]; exact rOs
      show WG _ _ _ _ _ _ _ (33, [(3, vI (nI i)), (0, vR (some x)), (1, vR (some (P 0))), (2, vR (some (P 8)))], [], fnS (fnV σ x P) (P 11) i τ, cs, sl)
      refine w_run 1 (S' := (34, [(3, vI (nI i)), (0, vR (some x)), (1, vR (some (P 0))), (2, vR (some (P 8)))], [vR (some (P 8))], fnS (fnV σ x P) (P 11) i τ, cs, sl)) rfl ?_
      refine w_get (k := 4) (vR ((fnS (fnV σ x P) (P 11) i τ).2.1 40218 (P 8) 0)) rfl rfl rfl (hG.1 20404 (P 0) 0 (P 8) ((hG.sh hP).2 3 (by decide)) (by decide)) rfl rfl ?_
      refine w_run 1 (S' := (38, [(3, vI (nI i)), (0, vR (some x)), (1, vR (some (P 0))), (2, vR (some (P 8)))], [vI (nI i), vR ((fnS (fnV σ x P) (P 11) i τ).2.1 40218 (P 8) 0)], fnS (fnV σ x P) (P 11) i τ, cs, sl)) rfl ?_
      refine w_aald (k := 18) rfl ((hG.sh hP).2 13 (by decide)) (hG.1 40218 (P 8) 0 (P 11) ((hG.sh hP).2 13 (by decide)) (by decide)) rfl rfl (show vp_in (nI i) 4 from vp_in_nI (n := i) (by omega) (by decide)) ?_
      show WG _ _ _ _ _ _ _ (39, [(3, vI (nI i)), (0, vR (some x)), (1, vR (some (P 0))), (2, vR (some (P 8)))], [vR ((fnS (fnV σ x P) (P 11) i τ).2.1 180003 (P 11) (nI i).toNatClampNeg)], fnS (fnV σ x P) (P 11) i τ, cs, sl)
      rw [show (nI i : Int32).toNatClampNeg = i from nI_clamp (n := i) (by omega)]
      show WG _ _ _ _ _ _ _ (39, [(3, vI (nI i)), (0, vR (some x)), (1, vR (some (P 0))), (2, vR (some (P 8)))], [vR ((fnS (fnV σ x P) (P 11) i τ).2.1 180003 (P 11) i)], fnS (fnV σ x P) (P 11) i τ, cs, sl)
      refine Eq.mp (congrArg (fun x9 => WG _ _ _ _ _ _ _ (39, [(3, vI (nI i)), (0, vR (some x)), (1, vR (some (P 0))), (2, vR (some (P 8)))], [vR x9], fnS (fnV σ x P) (P 11) i τ, cs, sl)) hvv.symm) ?_
      show WG _ _ _ _ _ _ _ (39, [(3, vI (nI i)), (0, vR (some x)), (1, vR (some (P 0))), (2, vR (some (P 8)))], [vR none], fnS (fnV σ x P) (P 11) i τ, cs, sl)
      refine w_nonnull rfl (fun b3 c2 => (by cases c2)) (fun c2 => ?_)
      refine w_run 1 (S' := (43, [(3, vI (nI i)), (0, vR (some x)), (1, vR (some (P 0))), (2, vR (some (P 8)))], [vR (some (P 8))], fnS (fnV σ x P) (P 11) i τ, cs, sl)) rfl ?_
      refine w_get (k := 4) (vR ((fnS (fnV σ x P) (P 11) i τ).2.1 40016 (P 8) 0)) rfl rfl rfl (hG.1 20404 (P 0) 0 (P 8) ((hG.sh hP).2 3 (by decide)) (by decide)) rfl rfl ?_
      refine w_run 1 (S' := (47, [(3, vI (nI i)), (0, vR (some x)), (1, vR (some (P 0))), (2, vR (some (P 8)))], [vI (nI i), vR ((fnS (fnV σ x P) (P 11) i τ).2.1 40016 (P 8) 0)], fnS (fnV σ x P) (P 11) i τ, cs, sl)) rfl ?_
      refine w_iald (k := 16) rfl ((hG.sh hP).2 11 (by decide)) (hG.1 40016 (P 8) 0 (P 9) ((hG.sh hP).2 11 (by decide)) (by decide)) rfl (show vp_in (nI i) 4 from vp_in_nI (n := i) (by omega) (by decide)) ?_
      show WG _ _ _ _ _ _ _ (48, [(3, vI (nI i)), (0, vR (some x)), (1, vR (some (P 0))), (2, vR (some (P 8)))], [vI ((fnS (fnV σ x P) (P 11) i τ).1 160000 (P 9) (nI i).toNatClampNeg)], fnS (fnV σ x P) (P 11) i τ, cs, sl)
      rw [show (nI i : Int32).toNatClampNeg = i from nI_clamp (n := i) (by omega)]
      show WG _ _ _ _ _ _ _ (48, [(3, vI (nI i)), (0, vR (some x)), (1, vR (some (P 0))), (2, vR (some (P 8)))], [vI ((fnS (fnV σ x P) (P 11) i τ).1 160000 (P 9) i)], fnS (fnV σ x P) (P 11) i τ, cs, sl)
      refine w_if_eq rfl (fun c4 => ?_) (fun c4 => ?_)
      · refine w_run 2 (S' := (2, [(3, vI ((nI i) + 1)), (0, vR (some x)), (1, vR (some (P 0))), (2, vR (some (P 8)))], [], fnS (fnV σ x P) (P 11) i τ, cs, sl)) rfl ?_
        rw [show ((nI i) + 1 : Int32) = nI (i + 1) from by simp only [nl0, nl1, nl2, nl3, nl4, nl5, nl6, nl8, nl9, nl10, nl12, nl15, nl16, nl20, nl24, nl32, nl40, nl64, nl65, nl384, pk_mul, nI_add]]
        show WG _ _ _ _ _ _ _ (2, [(3, vI (nI (i + 1))), (0, vR (some x)), (1, vR (some (P 0))), (2, vR (some (P 8)))], [], fnS (fnV σ x P) (P 11) i τ, cs, sl)
        exact ih (i + 1) (by omega) (fnS (fnV σ x P) (P 11) i τ) hG (fun τ' e9 h8 h9 => K0 τ' (by rw [itF_succ]; exact e9) h8 (fun j j1 j2 => (Decidable.em (j = i)).elim (fun e9 => e9 ▸ (fun h9 => h9.2 (by rw [← hG.2.2.1]; exact c4))) (fun e9 => h9 j (by omega) j2))) K1
      · refine w_lsP [1, 2, 3] ?_
        show WG _ _ _ _ _ _ _ (51, [(0, vR (some x)), (1, vR (some (P 0))), (2, vR (some (P 8)))], [], fnS (fnV σ x P) (P 11) i τ, cs, sl)
        exact K1 _ hG ⟨i, by omega, hv9, by rw [← hG.2.2.1]; exact c4⟩
    | some b9 =>
      show WG _ _ _ _ _ _ _ (32, [(3, vI (nI i)), (0, vR (some x)), (1, vR (some (P 0))), (2, vR (some (P 8)))], [vR (some b9), vI (nI i), vR (τ.2.1 40218 (P 8) 0)], τ, cs, sl)
      refine w_aast (k := 18) rfl ((hF.sh hP).2 13 (by decide)) (hF.1 40218 (P 8) 0 (P 11) ((hF.sh hP).2 13 (by decide)) (by decide)) rfl (by decide) rfl (show τ.2.2.2 b9 = 3 by rw [hF.2.1]; exact fnF_k hw0 hv9) rfl rfl rfl (show vp_in (nI i) 4 from vp_in_nI (n := i) (by omega) (by decide)) ?_
      show WG _ _ _ _ _ _ _ (33, [(3, vI (nI i)), (0, vR (some x)), (1, vR (some (P 0))), (2, vR (some (P 8)))], [], sO τ 180003 (P 11) ((nI i).toNatClampNeg) (some b9), cs, sl)
      rw [show (nI i : Int32).toNatClampNeg = i from nI_clamp (n := i) (by omega)]
      have hG : FN σ (fnS (fnV σ x P) (P 11) i τ) := hF.s (fun b h => fnF_k hw0 h)
      have eG : fnS (fnV σ x P) (P 11) i τ = sO τ 180003 (P 11) i (some b9) := by show sO τ 180003 (P 11) i (fnV σ x P i) = _; rw [hv9]
      refine Eq.mp (congrArg (fun x9 => WG _ _ _ _ _ _ _ (33, [(3, vI (nI i)), (0, vR (some x)), (1, vR (some (P 0))), (2, vR (some (P 8)))], [], x9, cs, sl)) eG) ?_
      have hvv : (fnS (fnV σ x P) (P 11) i τ).2.1 180003 (P 11) i = some b9 := by rw [eG]; exact rOs
      show WG _ _ _ _ _ _ _ (33, [(3, vI (nI i)), (0, vR (some x)), (1, vR (some (P 0))), (2, vR (some (P 8)))], [], fnS (fnV σ x P) (P 11) i τ, cs, sl)
      refine w_run 1 (S' := (34, [(3, vI (nI i)), (0, vR (some x)), (1, vR (some (P 0))), (2, vR (some (P 8)))], [vR (some (P 8))], fnS (fnV σ x P) (P 11) i τ, cs, sl)) rfl ?_
      refine w_get (k := 4) (vR ((fnS (fnV σ x P) (P 11) i τ).2.1 40218 (P 8) 0)) rfl rfl rfl (hG.1 20404 (P 0) 0 (P 8) ((hG.sh hP).2 3 (by decide)) (by decide)) rfl rfl ?_
      refine w_run 1 (S' := (38, [(3, vI (nI i)), (0, vR (some x)), (1, vR (some (P 0))), (2, vR (some (P 8)))], [vI (nI i), vR ((fnS (fnV σ x P) (P 11) i τ).2.1 40218 (P 8) 0)], fnS (fnV σ x P) (P 11) i τ, cs, sl)) rfl ?_
      refine w_aald (k := 18) rfl ((hG.sh hP).2 13 (by decide)) (hG.1 40218 (P 8) 0 (P 11) ((hG.sh hP).2 13 (by decide)) (by decide)) rfl rfl (show vp_in (nI i) 4 from vp_in_nI (n := i) (by omega) (by decide)) ?_
      show WG _ _ _ _ _ _ _ (39, [(3, vI (nI i)), (0, vR (some x)), (1, vR (some (P 0))), (2, vR (some (P 8)))], [vR ((fnS (fnV σ x P) (P 11) i τ).2.1 180003 (P 11) (nI i).toNatClampNeg)], fnS (fnV σ x P) (P 11) i τ, cs, sl)
      rw [show (nI i : Int32).toNatClampNeg = i from nI_clamp (n := i) (by omega)]
      show WG _ _ _ _ _ _ _ (39, [(3, vI (nI i)), (0, vR (some x)), (1, vR (some (P 0))), (2, vR (some (P 8)))], [vR ((fnS (fnV σ x P) (P 11) i τ).2.1 180003 (P 11) i)], fnS (fnV σ x P) (P 11) i τ, cs, sl)
      refine Eq.mp (congrArg (fun x9 => WG _ _ _ _ _ _ _ (39, [(3, vI (nI i)), (0, vR (some x)), (1, vR (some (P 0))), (2, vR (some (P 8)))], [vR x9], fnS (fnV σ x P) (P 11) i τ, cs, sl)) hvv.symm) ?_
      show WG _ _ _ _ _ _ _ (39, [(3, vI (nI i)), (0, vR (some x)), (1, vR (some (P 0))), (2, vR (some (P 8)))], [vR (some b9)], fnS (fnV σ x P) (P 11) i τ, cs, sl)
      refine w_nonnull rfl (fun b6 c5 => ?_) (fun c5 => (by cases c5))
      refine w_run 2 (S' := (2, [(3, vI ((nI i) + 1)), (0, vR (some x)), (1, vR (some (P 0))), (2, vR (some (P 8)))], [], fnS (fnV σ x P) (P 11) i τ, cs, sl)) rfl ?_
      rw [show ((nI i) + 1 : Int32) = nI (i + 1) from by simp only [nl0, nl1, nl2, nl3, nl4, nl5, nl6, nl8, nl9, nl10, nl12, nl15, nl16, nl20, nl24, nl32, nl40, nl64, nl65, nl384, pk_mul, nI_add]]
      show WG _ _ _ _ _ _ _ (2, [(3, vI (nI (i + 1))), (0, vR (some x)), (1, vR (some (P 0))), (2, vR (some (P 8)))], [], fnS (fnV σ x P) (P 11) i τ, cs, sl)
      exact ih (i + 1) (by omega) (fnS (fnV σ x P) (P 11) i τ) hG (fun τ' e9 h8 h9 => K0 τ' (by rw [itF_succ]; exact e9) h8 (fun j j1 j2 => (Decidable.em (j = i)).elim (fun e9 => e9 ▸ (fun h7 => by have h6 := h7.1; rw [hv9] at h6; cases h6)) (fun e9 => h9 j (by omega) j2))) K1
set_option maxHeartbeats 4000000 in
theorem c_od_findNodes (l : Launch) (E : FE) (d : Nat) (σ : Sg) (P : Nat → Nat) (x n : Nat) (hd : 4 ≤ d) (hx : σ.2.2.2 x = 1) (hP : SHp σ P) (hw : WF σ) (hn : n ≤ 4) (hit : σ.1 40300 (P 8) 0 = nI n) : CT l E d 68 [vR (some x), vR (some (P 0)), vR (some (P 8))] σ 0 0 (fun r σ' => FN σ σ' ∧ (((∃ j, j < n ∧ fnB σ x P j) ∧ r = some (vI 0)) ∨ ((∀ j, j < n → ¬ fnB σ x P j) ∧ r = some (vI 1) ∧ σ' = itF (fnS (fnV σ x P) (P 11)) n 0 σ))) (fun _ _ => False) := by
  refine CTo ok_od_findNodes (by decide +kernel) rfl rfl rfl ?_
  refine w_run 2 (S' := (2, [(3, vI 0), (0, vR (some x)), (1, vR (some (P 0))), (2, vR (some (P 8)))], [], σ, 0, 0)) rfl ?_
  refine lk_od_fn l E d σ P x n hd hx hP hw hn hit (Nat.le_refl _) (Nat.le_refl _) n 0 (by omega) σ ⟨hw, rfl, rfl, fun _ _ _ _ => rfl⟩ (fun s9 e9 h8 h9 => ?_) (fun s9 h8 h9 => ?_)
  · show WG _ _ _ _ _ _ _ (59, [(0, vR (some x)), (1, vR (some (P 0))), (2, vR (some (P 8)))], [], s9, 0, 0)
    refine w_run 1 (S' := (60, [(0, vR (some x)), (1, vR (some (P 0))), (2, vR (some (P 8)))], [vI 1], s9, 0, 0)) rfl ?_
    exact w_iret rfl (Or.inr ⟨rfl, Or.inr rfl⟩) (by omega) (by omega) (⟨h8, Or.inr ⟨fun j hj => h9 j (Nat.zero_le _) hj, rfl, e9⟩⟩)
  · show WG _ _ _ _ _ _ _ (51, [(0, vR (some x)), (1, vR (some (P 0))), (2, vR (some (P 8)))], [], s9, 0, 0)
    refine w_run 1 (S' := (52, [(0, vR (some x)), (1, vR (some (P 0))), (2, vR (some (P 8)))], [vI 0], s9, 0, 0)) rfl ?_
    exact w_iret rfl (Or.inr ⟨rfl, Or.inl rfl⟩) (by omega) (by omega) (⟨h8, Or.inl ⟨h9, rfl⟩⟩)

