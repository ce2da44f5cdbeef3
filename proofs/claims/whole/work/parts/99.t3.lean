/-! die -/
/-- works told to those whose calls p had -/
def dfP (E : FE) (D : Nat → Nat → Nat) (j : Nat) (L2 : Nat → List Nat) : Nat → Nat → (Nat → List Nat) → Sg → (Nat → List Nat) → Sg → Prop
  | 0, _, L1, σ, L1', σ' => L1' = L1 ∧ σ' = σ
  | k + 1, i, L1, σ, L1', σ' => if hcB σ (D i 0) (L1 j) (L2 j) = 0 then dfP E D j L2 k (i + 1) L1 σ L1' σ' else ∃ w s AR, σ.2.2.2 w = 0 ∧ w ≠ fe E ∧ Eqk E 20 41 (wkS σ w 5 none 0) s ∧ LLx E 20 41 5 (fun p => D p 12) (upL L1 i (L1 i ++ [w])) AR s ∧ dfP E D j L2 k (i + 1) (upL L1 i (L1 i ++ [w])) s L1' σ'
def dwP (E : FE) (D : Nat → Nat → Nat) : Nat → Nat → (Nat → List Nat) → (Nat → List Nat) → Sg → (Nat → List Nat) → (Nat → List Nat) → Sg → Prop
  | 0, _, L1, L3, σ, L1', L3', σ' => L1' = L1 ∧ L3' = L3 ∧ σ' = σ
  | k + 1, i, L1, L3, σ, L1', L3', σ' => ∃ La Lb s, ewP E D i [] (L3 i) L1 L3 σ La Lb s ∧ dwP E D k (i + 1) La Lb s L1' L3' σ'
def diM (σ : Sg) (D : Nat → Nat → Nat) (x p : Nat) : Sg := match σ.2.1 10103 x 0 with
  | none => sI σ 20800 (D p 0) 0 0
  | some a => if σ.1 30000 a 0 = nI p then sO (sI σ 20800 (D p 0) 0 0) 10103 x 0 none else sI σ 20800 (D p 0) 0 0
def odiP (E : FE) (D : Nat → Nat → Nat) (x p : Nat) (L1 L2 L3 : Nat → List Nat) (σ σ' : Sg) : Prop := ∃ L1a sa AR1 AR2 AR3 sb L1' L3' AR1' AR3', dfP E D p L2 4 0 L1 (itF (endF (D p 1)) 10 0 (diM σ D x p)) L1a sa ∧ empP E D p L1a L2 L3 AR1 AR2 AR3 sa sb ∧ dwP E D 4 0 (upL L1a p []) (upL L3 p []) sb L1' L3' σ' ∧ Ka E D L1' (upL L2 p []) L3' AR1' AR2 AR3' σ'
def sl3 (L3 : Nat → List Nat) : Nat → Nat → Nat
  | 0, _ => 0
  | k + 1, i => (L3 i).length + sl3 L3 k (i + 1)
theorem sl3_c {L3 L3' : Nat → List Nat} : ∀ (k i : Nat), (∀ q, i ≤ q → L3' q = L3 q) → sl3 L3' k i = sl3 L3 k i
  | 0, _, _ => rfl
  | k + 1, i, h => by
    unfold sl3
    rw [h i (Nat.le_refl _), sl3_c k (i + 1) (fun q hq => h q (by omega))]
theorem sl3_24 {L3 : Nat → List Nat} {j : Nat} (hj : j < 4) (h : ∀ q, q < 4 → (L3 q).length ≤ 8) : sl3 (upL L3 j []) 4 0 ≤ 24 := by
  have h0 := h 0 (by omega); have h1 := h 1 (by omega); have h2 := h 2 (by omega); have h3 := h 3 (by omega)
  have e : ∀ q, q ≠ j → upL L3 j [] q = L3 q := fun q hq => upL_n hq
  have ej : (upL L3 j [] j).length = 0 := by rw [upL_s]; rfl
  show (upL L3 j [] 0).length + ((upL L3 j [] 1).length + ((upL L3 j [] 2).length + ((upL L3 j [] 3).length + 0))) ≤ 24
  have : j = 0 ∨ j = 1 ∨ j = 2 ∨ j = 3 := by omega
  rcases this with rfl | rfl | rfl | rfl
  · rw [ej, e 1 (by decide), e 2 (by decide), e 3 (by decide)]; omega
  · rw [ej, e 0 (by decide), e 2 (by decide), e 3 (by decide)]; omega
  · rw [ej, e 0 (by decide), e 1 (by decide), e 3 (by decide)]; omega
  · rw [ej, e 0 (by decide), e 1 (by decide), e 2 (by decide)]; omega
/-- what list calls leave -/
def FL (σ σ' : Sg) : Prop := (∀ y, σ.2.2.2 y ≠ 0 → σ'.2.2.2 y = σ.2.2.2 y) ∧ (∀ c y i, σ.2.2.2 y ≠ 0 → c < 200000 → σ'.1 c y i = σ.1 c y i ∧ σ'.2.1 c y i = σ.2.1 c y i)
theorem FL.refl {σ : Sg} : FL σ σ := ⟨fun _ _ => rfl, fun _ _ _ _ _ => ⟨rfl, rfl⟩⟩
theorem FL.trans {a b c : Sg} (h1 : FL a b) (h2 : FL b c) : FL a c := ⟨fun y hy => (h2.1 y (by rw [h1.1 y hy]; exact hy)).trans (h1.1 y hy), fun k y i hy hk => ⟨((h2.2 k y i (by rw [h1.1 y hy]; exact hy) hk).1).trans (h1.2 k y i hy hk).1, ((h2.2 k y i (by rw [h1.1 y hy]; exact hy) hk).2).trans (h1.2 k y i hy hk).2⟩⟩
theorem FL.eqk {E : FE} {k ka : Nat} {σ σ' : Sg} (h : Eqk E k ka σ σ') (hk : 20 ≤ k) (hka : 20 ≤ ka) : FL σ σ' := ⟨h.1, fun c y i hy hc => h.2.2.1 c y i hy (by omega) (by omega)⟩
theorem FL.wk {σ : Sg} {w : Nat} {k c : Int32} {mo : Option Nat} (h : σ.2.2.2 w = 0) : FL σ (wkS σ w k mo c) := by
  refine ⟨fun y hy => ?_, fun c' y i hy _ => ?_⟩
  · have : y ≠ w := fun e => hy (by rw [e]; exact h)
    simp [wkS, sI, sO, sN, this]
  · have : y ≠ w := fun e => hy (by rw [e]; exact h)
    simp [wkS, sI, sO, sN, this]
theorem ewP_fl {E : FE} {D : Nat → Nat → Nat} {p : Nat} : ∀ (ws ks : List Nat) (L1 L3 : Nat → List Nat) (σ : Sg) (L1' L3' : Nat → List Nat) (σ' : Sg), ewP E D p ks ws L1 L3 σ L1' L3' σ' → FL σ σ' ∧ ∀ q, q ≠ p → L1' q = L1 q ∧ L3' q = L3 q
  | [], _, _, _, _, _, _, _, h => by
    obtain ⟨rfl, rfl, rfl⟩ := h
    exact ⟨FL.refl, fun _ _ => ⟨rfl, rfl⟩⟩
  | w :: ws, ks, L1, L3, σ, L1', L3', σ', h => by
    unfold ewP at h
    obtain ⟨n, -, h⟩ := h
    split at h
    · exact ewP_fl ws (ks ++ [w]) L1 L3 σ L1' L3' σ' h
    · obtain ⟨s1, q, s2, AR1, AR3, d1, d2, d3, d4, d5, d6, d7⟩ := h
      obtain ⟨i1, i2⟩ := ewP_fl ws ks _ _ s2 L1' L3' σ' d7
      refine ⟨((FL.eqk d1 (by decide) (by decide)).trans ((FL.wk d3).trans (FL.eqk d5 (by decide) (by decide)))).trans i1, fun q' hq => ?_⟩
      rw [(i2 q' hq).1, (i2 q' hq).2, upL_n hq, upL_n hq]; exact ⟨rfl, rfl⟩
def Kd (E : FE) (D : Nat → Nat → Nat) (x a0 : Nat) (L1 L2 L3 : Nat → List Nat) (AR1 AR2 AR3 : Nat → Nat) (σ : Sg) : Prop := σ.2.2.2 x = 1 ∧ σ.2.1 10010 x 0 = some a0 ∧ (∀ j, j < 4 → σ.2.1 100002 a0 j = some (D j 0)) ∧ Ka E D L1 L2 L3 AR1 AR2 AR3 σ
section KDS
variable {E : FE} {D : Nat → Nat → Nat} {x a0 : Nat} {L1 L2 L3 : Nat → List Nat} {AR1 AR2 AR3 : Nat → Nat} {σ σ' : Sg}
theorem Kd.i {c a i : Nat} {v : Int32} (h : Kd E D x a0 L1 L2 L3 AR1 AR2 AR3 σ) (hc : c ∉ [200200, 419900, 210200, 429900, 220200, 439900]) : Kd E D x a0 L1 L2 L3 AR1 AR2 AR3 (sI σ c a i v) := ⟨h.1, h.2.1, h.2.2.1, h.2.2.2.i hc⟩
theorem Kd.oN {c a i : Nat} (h : Kd E D x a0 L1 L2 L3 AR1 AR2 AR3 σ) (h1 : c ≠ 10010) (h2 : c ≠ 100002) (hc : c ∉ [200100, 410005, 210100, 420006, 220100, 430007]) (hs : ∀ j, j < 14 → (shc j).1 ≠ c) : Kd E D x a0 L1 L2 L3 AR1 AR2 AR3 (sO σ c a i none) :=
  ⟨h.1, (rOO (Ne.symm h1)).trans h.2.1, fun j hj => (rOO (Ne.symm h2)).trans (h.2.2.1 j hj), h.2.2.2.o (fun b hb => by cases hb) hc hs⟩
theorem Kd.fl {L1' L2' L3' : Nat → List Nat} {AR1' AR2' AR3' : Nat → Nat} (h : Kd E D x a0 L1 L2 L3 AR1 AR2 AR3 σ) (F : FL σ σ') (hw : WF σ') (h1 : LLx E 20 41 5 (fun p => D p 12) L1' AR1' σ') (h2 : LLx E 21 42 6 (fun p => D p 13) L2' AR2' σ') (h3 : LLx E 22 43 7 (fun p => D p 14) L3' AR3' σ') : Kd E D x a0 L1' L2' L3' AR1' AR2' AR3' σ' := by
  have xz : σ.2.2.2 x ≠ 0 := by rw [h.1]; decide
  have az : σ.2.2.2 a0 ≠ 0 := by rw [h.2.2.2.1 _ _ _ _ h.2.1 (by decide)]; decide
  refine ⟨(F.1 x xz).trans h.1, ((F.2 10010 x 0 xz (by decide)).2).trans h.2.1, fun j hj => ((F.2 100002 a0 j az (by decide)).2).trans (h.2.2.1 j hj), hw, fun p hp => ?_, h1, h2, h3⟩
  have hP := h.2.2.2.2.1 p hp
  have e : ∀ i, i < 14 → (shc i).1 < 200000 ∧ (shc i).2.1 < 15 := by decide
  have kz : ∀ j, j < 15 → σ.2.2.2 (D p j) ≠ 0 := fun j hj => by
    rw [hP.kd h.2.2.2.1 j hj]
    have e2 : ∀ j, j < 15 → Dk j ≠ 0 := by decide
    exact e2 j hj
  exact ⟨(F.1 _ (kz 0 (by decide))).trans hP.1, fun i hi => ((F.2 _ _ 0 (kz _ (e i hi).2) (e i hi).1).2).trans (hP.2 i hi)⟩
theorem Kd.ends {a1 : Nat} (h : Kd E D x a0 L1 L2 L3 AR1 AR2 AR3 σ) : Kd E D x a0 L1 L2 L3 AR1 AR2 AR3 (itF (endF a1) 10 0 σ) :=
  itF_ind (f := endF a1) (fun _ τ => Kd E D x a0 L1 L2 L3 AR1 AR2 AR3 τ) 10 0 σ h (fun j τ _ _ k => by
    unfold endF
    split
    · exact k
    · exact (((k.i (by decide)).oN (by decide) (by decide) (by decide) (by decide)).oN (by decide) (by decide) (by decide) (by decide)).oN (by decide) (by decide) (by decide) (by decide))
theorem Kd.emC {p : Nat} (h : Kd E D x a0 L1 L2 L3 AR1 AR2 AR3 σ) : Kd E D x a0 L1 L2 L3 AR1 AR2 AR3 (emC σ D p) := by
  have h1 : Kd E D x a0 L1 L2 L3 AR1 AR2 AR3 (itF (hseF (D p 3) (D p 4) (D p 5)) 15 1 σ) := itF_ind (f := hseF (D p 3) (D p 4) (D p 5)) (fun _ τ => Kd E D x a0 L1 L2 L3 AR1 AR2 AR3 τ) 15 1 σ h (fun j τ _ _ k => ((k.oN (by decide) (by decide) (by decide) (by decide)).i (by decide)).i (by decide))
  have h2 : Kd E D x a0 L1 L2 L3 AR1 AR2 AR3 (emA σ D p) := h1.i (by decide)
  have h3 : Kd E D x a0 L1 L2 L3 AR1 AR2 AR3 (itF (areF (D p 7)) 64 0 (emA σ D p)) := itF_ind (f := areF (D p 7)) (fun _ τ => Kd E D x a0 L1 L2 L3 AR1 AR2 AR3 τ) 64 0 _ h2 (fun j τ _ _ k => k.oN (by decide) (by decide) (by decide) (by decide))
  exact (((h3.i (by decide)).i (by decide)).i (by decide)).i (by decide)
theorem Kd.emp {p : Nat} (h : Kd E D x a0 L1 L2 L3 AR1 AR2 AR3 σ) (he : empP E D p L1 L2 L3 AR1 AR2 AR3 σ σ') : Kd E D x a0 (upL L1 p []) (upL L2 p []) (upL L3 p []) AR1 AR2 AR3 σ' := by
  obtain ⟨s1, s2, s3, d1, d2, d3, d4, rfl⟩ := he
  have hC := h.emC (p := p)
  have F := ((FL.eqk d1 (by decide) (by decide)).trans (FL.eqk d2 (by decide) (by decide))).trans (FL.eqk d3 (by decide) (by decide))
  have h3 := hC.fl F d4.1 d4.2.2.1 d4.2.2.2.1 d4.2.2.2.2
  exact (h3.i (by decide)).oN (by decide) (by decide) (by decide) (by decide)
end KDS
set_option maxRecDepth 20000 in
set_option maxHeartbeats 4000000 in
theorem lk_od_die1 (l : Launch) (E : FE) (d : Nat) (D : Nat → Nat → Nat) (x a0 j : Nat) (L2 L3 : Nat → List Nat) (AR2 AR3 : Nat → Nat) (hd : 9 ≤ d) (hj : j < 4) (hb2 : (L2 j).length < 128) {mc ms : Nat} {args : Array Value} {XX : State → Prop} {QF : State → List Frame → State → Prop} : ∀ (k i : Nat) (τ : Sg) (L1 : Nat → List Nat) (AR1 : Nat → Nat) (cs sl : Nat), i + k = 4 → Kd E D x a0 L1 L2 L3 AR1 AR2 AR3 τ → (∀ q, q < 4 → (L1 q).length + k ≤ 100) → cs + 2 * k ≤ mc → sl + 453 * k ≤ ms →
    (∀ τ' L1' AR1' cs' sl', cs' ≤ cs + 2 * k → sl' ≤ sl + 453 * k → dfP E D j L2 k i L1 τ L1' τ' → Kd E D x a0 L1' L2 L3 AR1' AR2 AR3 τ' → (∀ q, q < 4 → (L1' q).length ≤ 100) → WG l E (RM d mc ms) 48 args XX QF (87, [(2, vR (some (D j 0))), (0, vR (some x)), (1, vI (nI j))], [], τ', cs', sl')) →
    WG l E (RM d mc ms) 48 args XX QF (40, [(3, vI (nI i)), (2, vR (some (D j 0))), (0, vR (some x)), (1, vI (nI j))], [], τ, cs, sl) := by
  intro k
  induction k with
  | zero =>
    intro i τ L1 AR1 cs sl hik k0 hb1 hcs hsl KK
    have hi4 : i = 4 := hik
    subst hi4
    refine w_run 2 (S' := (42, [(3, vI (nI 4)), (2, vR (some (D j 0))), (0, vR (some x)), (1, vI (nI j))], [vI 4, vI (nI 4)], τ, cs, sl)) rfl ?_
    rw [show (nI 4 : Int32) = nI (4) from by simp only [nl0, nl1, nl2, nl3, nl4, nl5, nl6, nl8, nl9, nl10, nl12, nl15, nl16, nl20, nl24, nl32, nl40, nl64, nl65, nl384, pk_mul, nI_add]]
    show WG _ _ _ _ _ _ _ (42, [(3, vI (nI 4)), (2, vR (some (D j 0))), (0, vR (some x)), (1, vI (nI j))], [vI 4, vI (nI 4)], τ, cs, sl)
    refine w_ic_ge rfl (fun c1 => ?_) (fun c1 => (absurd ((nI_leI (a := 4) (b := 4) (by omega) (by omega)).mpr (by omega)) c1))
    have nc1 := (nI_leI (a := 4) (b := 4) (by omega) (by omega)).mp c1
    refine w_lsP [1, 2, 3] ?_
    show WG _ _ _ _ _ _ _ (87, [(2, vR (some (D j 0))), (0, vR (some x)), (1, vI (nI j))], [], τ, cs, sl)
    exact KK τ L1 AR1 cs sl (by omega) (by omega) ⟨rfl, rfl⟩ k0 (fun q hq => by have := hb1 q hq; omega)
  | succ k ih =>
    intro i τ L1 AR1 cs sl hik k0 hb1 hcs hsl KK
    have hi4 : i < 4 := by omega
    have hbj := hb1 j hj
    have hbi := hb1 i hi4
    refine w_run 2 (S' := (42, [(3, vI (nI i)), (2, vR (some (D j 0))), (0, vR (some x)), (1, vI (nI j))], [vI 4, vI (nI i)], τ, cs, sl)) rfl ?_
    refine w_ic_ge rfl (fun c1 => (absurd ((nI_leI (a := 4) (b := i) (by omega) (by omega)).mp c1) (by omega))) (fun c1 => ?_)
    have nc1 := mt (nI_leI (a := 4) (b := i) (by omega) (by omega)).mpr c1
    refine w_run 2 (S' := (47, [(3, vI (nI i)), (2, vR (some (D j 0))), (0, vR (some x)), (1, vI (nI j))], [vR (some x), vR (some (D j 0))], τ, cs, sl)) rfl ?_
    refine w_get (k := 1) (vR (τ.2.1 10010 x 0)) rfl rfl rfl k0.1 rfl rfl ?_
    refine w_run 1 (S' := (51, [(3, vI (nI i)), (2, vR (some (D j 0))), (0, vR (some x)), (1, vI (nI j))], [vI (nI i), vR (τ.2.1 10010 x 0), vR (some (D j 0))], τ, cs, sl)) rfl ?_
    refine w_aald (k := 10) rfl k0.2.1 (k0.2.2.2.1 10010 x 0 a0 k0.2.1 (by decide)) rfl rfl (show vp_in (nI i) 4 from (vp_in_nI hi4 (by decide))) ?_
    show WG _ _ _ _ _ _ _ (52, [(3, vI (nI i)), (2, vR (some (D j 0))), (0, vR (some x)), (1, vI (nI j))], [vR (τ.2.1 100002 a0 (nI i).toNatClampNeg), vR (some (D j 0))], τ, cs, sl)
    rw [show (nI i : Int32).toNatClampNeg = i from nI_clamp (n := i) (by omega)]
    show WG _ _ _ _ _ _ _ (52, [(3, vI (nI i)), (2, vR (some (D j 0))), (0, vR (some x)), (1, vI (nI j))], [vR (τ.2.1 100002 a0 i), vR (some (D j 0))], τ, cs, sl)
    refine Eq.mp (congrArg (fun x9 => WG _ _ _ _ _ _ _ (52, [(3, vI (nI i)), (2, vR (some (D j 0))), (0, vR (some x)), (1, vI (nI j))], [vR x9, vR (some (D j 0))], τ, cs, sl)) (Eq.symm (k0.2.2.1 i hi4) : some (D i 0) = τ.2.1 100002 a0 i)) ?_
    show WG _ _ _ _ _ _ _ (52, [(3, vI (nI i)), (2, vR (some (D j 0))), (0, vR (some x)), (1, vI (nI j))], [vR (some (D i 0)), vR (some (D j 0))], τ, cs, sl)
    refine w_callV (st := []) [vR (some (D i 0))] rfl ml_0_52 rfl rfl ((k0.2.2.2.2.1 j hj).1) rfl rfl rfl (by simp only [RM]; omega) (by simp only [RM]; show 8 + (4 + 11) + _ ≤ _; omega) rfl (by simp only [RM]; omega) (by simp only [RM]; omega) (c_pr_hasCallOf l E (d - 1) τ D j (D i 0) L1 AR1 L2 AR2 (by omega) hj (k0.2.2.2.2.1 j hj) k0.2.2.2.1 k0.2.2.2.2.2.1 k0.2.2.2.2.2.2.1 (by omega) hb2 (k0.2.2.2.2.1 i hi4).1) (fun _ _ h => h.elim) ?_
    intro r9 s9 q9
    rw [q9.1, q9.2]
    clear q9 r9 s9
    show WG _ _ _ _ _ _ _ (55, [(3, vI (nI i)), (2, vR (some (D j 0))), (0, vR (some x)), (1, vI (nI j))], [vI (hcB τ (D i 0) (L1 j) (L2 j))], τ, cs, sl)
    refine w_if_eq rfl (fun c2 => ?_) (fun c2 => ?_)
    · refine w_run 2 (S' := (40, [(3, vI ((nI i) + 1)), (2, vR (some (D j 0))), (0, vR (some x)), (1, vI (nI j))], [], τ, cs, sl)) rfl ?_
      rw [show ((nI i) + 1 : Int32) = nI (i + 1) from by simp only [nl0, nl1, nl2, nl3, nl4, nl5, nl6, nl8, nl9, nl10, nl12, nl15, nl16, nl20, nl24, nl32, nl40, nl64, nl65, nl384, pk_mul, nI_add]]
      show WG _ _ _ _ _ _ _ (40, [(3, vI (nI (i + 1))), (2, vR (some (D j 0))), (0, vR (some x)), (1, vI (nI j))], [], τ, cs, sl)
      exact ih (i + 1) τ L1 AR1 cs sl (by omega) k0 (fun q hq => by have := hb1 q hq; omega) (by omega) (by omega) (fun τ' L1' AR1' cs' sl' h1 h2 h3 h4 h5 => KK τ' L1' AR1' cs' sl' (by omega) (by omega) (by show (if _ then _ else _); rw [if_pos c2]; exact h3) h4 h5)
    · refine w_run 1 (S' := (59, [(3, vI (nI i)), (2, vR (some (D j 0))), (0, vR (some x)), (1, vI (nI j))], [vR (some x)], τ, cs, sl)) rfl ?_
      refine w_get (k := 1) (vR (τ.2.1 10010 x 0)) rfl rfl rfl k0.1 rfl rfl ?_
      refine w_run 1 (S' := (63, [(3, vI (nI i)), (2, vR (some (D j 0))), (0, vR (some x)), (1, vI (nI j))], [vI (nI i), vR (τ.2.1 10010 x 0)], τ, cs, sl)) rfl ?_
      refine w_aald (k := 10) rfl k0.2.1 (k0.2.2.2.1 10010 x 0 a0 k0.2.1 (by decide)) rfl rfl (show vp_in (nI i) 4 from (vp_in_nI hi4 (by decide))) ?_
      show WG _ _ _ _ _ _ _ (64, [(3, vI (nI i)), (2, vR (some (D j 0))), (0, vR (some x)), (1, vI (nI j))], [vR (τ.2.1 100002 a0 (nI i).toNatClampNeg)], τ, cs, sl)
      rw [show (nI i : Int32).toNatClampNeg = i from nI_clamp (n := i) (by omega)]
      show WG _ _ _ _ _ _ _ (64, [(3, vI (nI i)), (2, vR (some (D j 0))), (0, vR (some x)), (1, vI (nI j))], [vR (τ.2.1 100002 a0 i)], τ, cs, sl)
      refine w_get (k := 2) (vR (τ.2.1 20520 (D i 0) 0)) rfl rfl (k0.2.2.1 i hi4) ((k0.2.2.2.2.1 i hi4).1) rfl rfl ?_
      refine w_new (k := 5) rfl rfl 5 rfl rfl (by simp only [RM]; omega) (by simp only [RM]; show _ + 3 ≤ _; omega) (fun q hq hqe => ?_)
      have hn_x : x ≠ q := ne0 (k0.1) hq (by decide)
      have hk_x : (sN τ q 5).2.2.2 x = 1 := by simp only [sN]; rw [if_neg hn_x]; exact k0.1
      have hn_a0 : a0 ≠ q := ne0 ((k0.2.2.2.1 10010 x 0 a0 k0.2.1 (by decide))) hq (by decide)
      have hk_a0 : (sN τ q 5).2.2.2 a0 = 10 := by simp only [sN]; rw [if_neg hn_a0]; exact (k0.2.2.2.1 10010 x 0 a0 k0.2.1 (by decide))
      have hn_D_i_0 : D i 0 ≠ q := ne0 ((k0.2.2.2.2.1 i hi4).1) hq (by decide)
      have hk_D_i_0 : (sN τ q 5).2.2.2 (D i 0) = 2 := by simp only [sN]; rw [if_neg hn_D_i_0]; exact (k0.2.2.2.2.1 i hi4).1
      have hn_D_j_0 : D j 0 ≠ q := ne0 ((k0.2.2.2.2.1 j hj).1) hq (by decide)
      have hk_D_j_0 : (sN τ q 5).2.2.2 (D j 0) = 2 := by simp only [sN]; rw [if_neg hn_D_j_0]; exact (k0.2.2.2.2.1 j hj).1
      have hn_D_i_12 : D i 12 ≠ q := ne0 ((k0.2.2.2.1 20520 (D i 0) 0 (D i 12) ((k0.2.2.2.2.1 i hi4).2 4 (by decide)) (by decide))) hq (by decide)
      have hk_D_i_12 : (sN τ q 5).2.2.2 (D i 12) = 20 := by simp only [sN]; rw [if_neg hn_D_i_12]; exact (k0.2.2.2.1 20520 (D i 0) 0 (D i 12) ((k0.2.2.2.2.1 i hi4).2 4 (by decide)) (by decide))
      have hkq : (sN τ q 5).2.2.2 q = 5 := by simp [sN]
      show WG _ _ _ _ _ _ _ (70, [(3, vI (nI i)), (2, vR (some (D j 0))), (0, vR (some x)), (1, vI (nI j))], [vR (some q), vR (τ.2.1 20520 (D i 0) 0)], sN τ q 5, cs + 1, sl + 3)
      refine w_run 4 (S' := (74, [(3, vI (nI i)), (2, vR (some (D j 0))), (0, vR (some x)), (1, vI (nI j))], [vI 0, vR none, vI 5, vR (some q), vR (some q), vR (τ.2.1 20520 (D i 0) 0)], sN τ q 5, cs + 1, sl + 3)) rfl ?_
      refine w_callI (st := [vR (some q), vR (τ.2.1 20520 (D i 0) 0)]) [vI 5, vR none, vI 0] rfl ml_0_62 rfl rfl (by simp only [RM]; omega) (by simp only [RM]; show 8 + (4 + 11) + _ ≤ _; omega) rfl (by simp only [RM]; omega) (by simp only [RM]; omega) (c_wk_init l E (d - 1) (sN τ q 5) q 5 0 none (by omega) hkq (fun b9 h9 => by cases h9)) ?_
      intro r9 s9 q9
      rw [q9.1, q9.2]
      clear q9 r9 s9
      show WG _ _ _ _ _ _ _ (77, [(3, vI (nI i)), (2, vR (some (D j 0))), (0, vR (some x)), (1, vI (nI j))], [vR (some q), vR (τ.2.1 20520 (D i 0) 0)], wkS τ q 5 none 0, cs + 1, sl + 3)
      refine Eq.mp (congrArg (fun x9 => WG _ _ _ _ _ _ _ (77, [(3, vI (nI i)), (2, vR (some (D j 0))), (0, vR (some x)), (1, vI (nI j))], [vR (some q), vR x9], wkS τ q 5 none 0, cs + 1, sl + 3)) (Eq.symm ((k0.2.2.2.2.1 i hi4).2 4 (by decide)) : some (D i 12) = τ.2.1 20520 (D i 0) 0)) ?_
      show WG _ _ _ _ _ _ _ (77, [(3, vI (nI i)), (2, vR (some (D j 0))), (0, vR (some x)), (1, vI (nI j))], [vR (some q), vR (some (D i 12))], wkS τ q 5 none 0, cs + 1, sl + 3)
      refine w_callV (st := []) [vR (some q)] rfl ml_0_65 rfl rfl hk_D_i_12 rfl rfl rfl (by simp only [RM]; omega) (by simp only [RM]; show 8 + (2 + 11) + _ ≤ _; omega) rfl (by simp only [RM]; omega) (by simp only [RM]; omega) (c_la_add_20 l E (d - 1) (wkS τ q 5 none 0) (fun p => D p 12) L1 AR1 (k0.2.2.2.wk hq hqe (fun _ e9 => by cases e9)).2.2.1 i hi4 q (d - 8) (by omega) hkq (by omega)) (fun _ _ h => h.elim) ?_
      intro r9 s2 q9
      obtain ⟨e1, AR9, hl9, he9⟩ := q9
      subst e1
      have kw9 := k0.2.2.2.wk (k := 5) (c := 0) (mo := none) hq hqe (fun _ e9 => by cases e9)
      have k2 : Kd E D x a0 (upL L1 i (L1 i ++ [q])) L2 L3 AR9 AR2 AR3 s2 := (let kk := kw9.a20 he9 hl9; k0.fl ((FL.wk hq).trans (FL.eqk he9 (by decide) (by decide))) kk.1 kk.2.2.1 kk.2.2.2.1 kk.2.2.2.2)
      show WG _ _ _ _ _ _ _ (80, [(3, vI (nI i)), (2, vR (some (D j 0))), (0, vR (some x)), (1, vI (nI j))], [vI 1], s2, cs + 1 + 1, sl + 3 + 450)
      refine w_run 3 (S' := (40, [(3, vI ((nI i) + 1)), (2, vR (some (D j 0))), (0, vR (some x)), (1, vI (nI j))], [], s2, cs + 1 + 1, sl + 3 + 450)) rfl ?_
      rw [show ((nI i) + 1 : Int32) = nI (i + 1) from by simp only [nl0, nl1, nl2, nl3, nl4, nl5, nl6, nl8, nl9, nl10, nl12, nl15, nl16, nl20, nl24, nl32, nl40, nl64, nl65, nl384, pk_mul, nI_add]]
      show WG _ _ _ _ _ _ _ (40, [(3, vI (nI (i + 1))), (2, vR (some (D j 0))), (0, vR (some x)), (1, vI (nI j))], [], s2, cs + 1 + 1, sl + 3 + 450)
      exact ih (i + 1) s2 (upL L1 i (L1 i ++ [q])) AR9 (cs + 1 + 1) (sl + 3 + 450) (by omega) k2 (fun q' hq' => by by_cases e9 : q' = i; subst e9; rw [upL_s, List.length_append]; show (L1 q').length + 1 + k ≤ 100; omega; rw [upL_n e9]; have := hb1 q' hq'; omega) (by omega) (by omega) (fun τ' L1' AR1' cs' sl' h1 h2 h3 h4 h5 => KK τ' L1' AR1' cs' sl' (by omega) (by omega) (by show (if _ then _ else _); rw [if_neg c2]; exact ⟨q, s2, AR9, hq, hqe, he9, hl9, h3⟩) h4 h5)
set_option maxRecDepth 20000 in
set_option maxHeartbeats 4000000 in
theorem lk_od_die2 (l : Launch) (E : FE) (d : Nat) (D : Nat → Nat → Nat) (x a0 j : Nat) (L2 : Nat → List Nat) (AR2 : Nat → Nat) (hd : 9 ≤ d) (hj : j < 4) {mc ms : Nat} {args : Array Value} {XX : State → Prop} {QF : State → List Frame → State → Prop} : ∀ (k i : Nat) (τ : Sg) (L1 L3 : Nat → List Nat) (AR1 AR3 : Nat → Nat) (cs sl : Nat), i + k = 4 → Kd E D x a0 L1 L2 L3 AR1 AR2 AR3 τ → (∀ q, i ≤ q → q < 4 → (L1 q).length ≤ 100 ∧ (L3 q).length ≤ 8 ∧ ∀ w, w ∈ L3 q → ∃ a, τ.2.1 70003 w 0 = some a) → cs + 2 * sl3 L3 k i ≤ mc → sl + 453 * sl3 L3 k i ≤ ms →
    (∀ τ' L1' L3' AR1' AR3' cs' sl', cs' ≤ cs + 2 * sl3 L3 k i → sl' ≤ sl + 453 * sl3 L3 k i → dwP E D k i L1 L3 τ L1' L3' τ' → Kd E D x a0 L1' L2 L3' AR1' AR2 AR3' τ' → WG l E (RM d mc ms) 48 args XX QF (113, [(2, vR (some (D j 0))), (0, vR (some x)), (1, vI (nI j))], [], τ', cs', sl')) →
    WG l E (RM d mc ms) 48 args XX QF (93, [(3, vI (nI i)), (2, vR (some (D j 0))), (0, vR (some x)), (1, vI (nI j))], [], τ, cs, sl) := by
  intro k
  induction k with
  | zero =>
    intro i τ L1 L3 AR1 AR3 cs sl hik k0 hb1 hcs hsl KK
    have hi4 : i = 4 := hik
    subst hi4
    refine w_run 2 (S' := (95, [(3, vI (nI 4)), (2, vR (some (D j 0))), (0, vR (some x)), (1, vI (nI j))], [vI 4, vI (nI 4)], τ, cs, sl)) rfl ?_
    rw [show (nI 4 : Int32) = nI (4) from by simp only [nl0, nl1, nl2, nl3, nl4, nl5, nl6, nl8, nl9, nl10, nl12, nl15, nl16, nl20, nl24, nl32, nl40, nl64, nl65, nl384, pk_mul, nI_add]]
    show WG _ _ _ _ _ _ _ (95, [(3, vI (nI 4)), (2, vR (some (D j 0))), (0, vR (some x)), (1, vI (nI j))], [vI 4, vI (nI 4)], τ, cs, sl)
    refine w_ic_ge rfl (fun c1 => ?_) (fun c1 => (absurd ((nI_leI (a := 4) (b := 4) (by omega) (by omega)).mpr (by omega)) c1))
    have nc1 := (nI_leI (a := 4) (b := 4) (by omega) (by omega)).mp c1
    refine w_lsP [1, 2, 3] ?_
    show WG _ _ _ _ _ _ _ (113, [(2, vR (some (D j 0))), (0, vR (some x)), (1, vI (nI j))], [], τ, cs, sl)
    exact KK τ L1 L3 AR1 AR3 cs sl (by omega) (by omega) ⟨rfl, rfl, rfl⟩ k0
  | succ k ih =>
    intro i τ L1 L3 AR1 AR3 cs sl hik k0 hb1 hcs hsl KK
    have hi4 : i < 4 := by omega
    obtain ⟨hbi, hbi3, hbn⟩ := hb1 i (Nat.le_refl _) hi4
    have hs3 : sl3 L3 (k + 1) i = (L3 i).length + sl3 L3 k (i + 1) := rfl
    refine w_run 2 (S' := (95, [(3, vI (nI i)), (2, vR (some (D j 0))), (0, vR (some x)), (1, vI (nI j))], [vI 4, vI (nI i)], τ, cs, sl)) rfl ?_
    refine w_ic_ge rfl (fun c1 => (absurd ((nI_leI (a := 4) (b := i) (by omega) (by omega)).mp c1) (by omega))) (fun c1 => ?_)
    have nc1 := mt (nI_leI (a := 4) (b := i) (by omega) (by omega)).mpr c1
    refine w_run 1 (S' := (99, [(3, vI (nI i)), (2, vR (some (D j 0))), (0, vR (some x)), (1, vI (nI j))], [vR (some x)], τ, cs, sl)) rfl ?_
    refine w_get (k := 1) (vR (τ.2.1 10010 x 0)) rfl rfl rfl k0.1 rfl rfl ?_
    refine w_run 1 (S' := (103, [(3, vI (nI i)), (2, vR (some (D j 0))), (0, vR (some x)), (1, vI (nI j))], [vI (nI i), vR (τ.2.1 10010 x 0)], τ, cs, sl)) rfl ?_
    refine w_aald (k := 10) rfl k0.2.1 (k0.2.2.2.1 10010 x 0 a0 k0.2.1 (by decide)) rfl rfl (show vp_in (nI i) 4 from (vp_in_nI hi4 (by decide))) ?_
    show WG _ _ _ _ _ _ _ (104, [(3, vI (nI i)), (2, vR (some (D j 0))), (0, vR (some x)), (1, vI (nI j))], [vR (τ.2.1 100002 a0 (nI i).toNatClampNeg)], τ, cs, sl)
    rw [show (nI i : Int32).toNatClampNeg = i from nI_clamp (n := i) (by omega)]
    show WG _ _ _ _ _ _ _ (104, [(3, vI (nI i)), (2, vR (some (D j 0))), (0, vR (some x)), (1, vI (nI j))], [vR (τ.2.1 100002 a0 i)], τ, cs, sl)
    refine Eq.mp (congrArg (fun x9 => WG _ _ _ _ _ _ _ (104, [(3, vI (nI i)), (2, vR (some (D j 0))), (0, vR (some x)), (1, vI (nI j))], [vR x9], τ, cs, sl)) (Eq.symm (k0.2.2.1 i hi4) : some (D i 0) = τ.2.1 100002 a0 i)) ?_
    show WG _ _ _ _ _ _ _ (104, [(3, vI (nI i)), (2, vR (some (D j 0))), (0, vR (some x)), (1, vI (nI j))], [vR (some (D i 0))], τ, cs, sl)
    refine w_callV (st := []) [] rfl ml_0_74 rfl rfl ((k0.2.2.2.2.1 i hi4).1) rfl rfl rfl (by simp only [RM]; omega) (by simp only [RM]; show 8 + (4 + 11) + _ ≤ _; omega) rfl (by simp only [RM]; omega) (by simp only [RM]; omega) (c_pr_endWatchesOfTheDead l E (d - 1) τ D i L1 AR1 L2 AR2 L3 AR3 (by omega) hi4 (k0.2.2.2.p hi4) (by omega) (by omega) hbn) (fun _ _ h => h.elim) ?_
    intro r9 s2 q9
    obtain ⟨e1, L1', L3', AR1', AR3', hew, hkp⟩ := q9
    subst e1
    obtain ⟨hF1, hF2⟩ := ewP_fl _ _ _ _ _ _ _ _ hew
    have k2 : Kd E D x a0 L1' L2 L3' AR1' AR2 AR3' s2 := k0.fl hF1 hkp.1 hkp.2.2.1 hkp.2.2.2.1 hkp.2.2.2.2
    show WG _ _ _ _ _ _ _ (107, [(3, vI (nI i)), (2, vR (some (D j 0))), (0, vR (some x)), (1, vI (nI j))], [], s2, cs + 2 * (L3 i).length, sl + 453 * (L3 i).length)
    refine w_run 2 (S' := (93, [(3, vI ((nI i) + 1)), (2, vR (some (D j 0))), (0, vR (some x)), (1, vI (nI j))], [], s2, cs + 2 * (L3 i).length, sl + 453 * (L3 i).length)) rfl ?_
    rw [show ((nI i) + 1 : Int32) = nI (i + 1) from by simp only [nl0, nl1, nl2, nl3, nl4, nl5, nl6, nl8, nl9, nl10, nl12, nl15, nl16, nl20, nl24, nl32, nl40, nl64, nl65, nl384, pk_mul, nI_add]]
    show WG _ _ _ _ _ _ _ (93, [(3, vI (nI (i + 1))), (2, vR (some (D j 0))), (0, vR (some x)), (1, vI (nI j))], [], s2, cs + 2 * (L3 i).length, sl + 453 * (L3 i).length)
    have hs4 : sl3 L3' k (i + 1) = sl3 L3 k (i + 1) := sl3_c k (i + 1) (fun q hq => (hF2 q (by omega)).2)
    exact ih (i + 1) s2 L1' L3' AR1' AR3' _ _ (by omega) k2 (fun q h1 h2 => by obtain ⟨y1, y2, y3⟩ := hb1 q (by omega) h2; have e9 := hF2 q (by omega); rw [e9.1, e9.2]; exact ⟨y1, y2, fun w hw => by obtain ⟨a, ha⟩ := y3 w hw; have w7 := k0.2.2.2.2.2.2.2.kd k0.2.2.2.1 (by decide) (by decide) h2 (List.getElem?_of_mem hw).choose_spec; exact ⟨a, by rw [(hF1.2 70003 w 0 (by rw [w7]; decide) (by decide)).2]; exact ha⟩⟩) (by omega) (by omega) (fun τ' La Lb A1 A3 cs' sl' h1 h2 h3 h4 => KK τ' La Lb A1 A3 cs' sl' (by omega) (by omega) ⟨L1', L3', s2, hew, h3⟩ h4)
theorem dfP_fl {E : FE} {D : Nat → Nat → Nat} {j : Nat} {L2 : Nat → List Nat} : ∀ (k i : Nat) (L1 : Nat → List Nat) (σ : Sg) (L1' : Nat → List Nat) (σ' : Sg), dfP E D j L2 k i L1 σ L1' σ' → FL σ σ'
  | 0, _, _, _, _, _, h => by obtain ⟨rfl, rfl⟩ := h; exact FL.refl
  | k + 1, i, L1, σ, L1', σ', h => by
    unfold dfP at h
    split at h
    · exact dfP_fl k (i + 1) L1 σ L1' σ' h
    · obtain ⟨w, s, AR, d1, d2, d3, d4, d5⟩ := h
      exact ((FL.wk d1).trans (FL.eqk d3 (by decide) (by decide))).trans (dfP_fl k (i + 1) _ s L1' σ' d5)
theorem die_70 {E : FE} {D : Nat → Nat → Nat} {x j w : Nat} {L1 L2 L3 L1a : Nat → List Nat} {AR1 AR2 AR3 : Nat → Nat} {σ sa sb : Sg} (hw : σ.2.2.2 w = 7) (h1 : dfP E D j L2 4 0 L1 (itF (endF (D j 1)) 10 0 (diM σ D x j)) L1a sa) (h2 : empP E D j L1a L2 L3 AR1 AR2 AR3 sa sb) : sb.2.1 70003 w 0 = σ.2.1 70003 w 0 := by
  have e0 : (diM σ D x j).2.1 70003 w 0 = σ.2.1 70003 w 0 ∧ (diM σ D x j).2.2 = σ.2.2 := by
    unfold diM
    split
    · exact ⟨rfl, rfl⟩
    · split
      · exact ⟨rOO (by decide), rfl⟩
      · exact ⟨rfl, rfl⟩
  have e1 : (itF (endF (D j 1)) 10 0 (diM σ D x j)).2.1 70003 w 0 = σ.2.1 70003 w 0 ∧ (itF (endF (D j 1)) 10 0 (diM σ D x j)).2.2 = σ.2.2 := itF_ind (f := endF (D j 1)) (fun _ τ => τ.2.1 70003 w 0 = σ.2.1 70003 w 0 ∧ τ.2.2 = σ.2.2) 10 0 _ e0 (fun i τ _ _ h => by
    unfold endF
    split
    · exact h
    · exact ⟨(rOO (by decide)).trans ((rOO (by decide)).trans ((rOO (by decide)).trans h.1)), h.2⟩)
  have wz : (itF (endF (D j 1)) 10 0 (diM σ D x j)).2.2.2 w ≠ 0 := by rw [e1.2, hw]; decide
  have F := dfP_fl _ _ _ _ _ _ h1
  have e2 : sa.2.1 70003 w 0 = σ.2.1 70003 w 0 := ((F.2 70003 w 0 wz (by decide)).2).trans e1.1
  have k2 : sa.2.2.2 w ≠ 0 := by rw [F.1 w wz]; exact wz
  obtain ⟨s1, s2, s3, d1, d2, d3, d4, rfl⟩ := h2
  have eC : (emC sa D j).2.1 70003 w 0 = sa.2.1 70003 w 0 ∧ (emC sa D j).2.2 = sa.2.2 := by
    have h1 : (itF (hseF (D j 3) (D j 4) (D j 5)) 15 1 sa).2.1 70003 w 0 = sa.2.1 70003 w 0 ∧ (itF (hseF (D j 3) (D j 4) (D j 5)) 15 1 sa).2.2 = sa.2.2 := itF_ind (f := hseF (D j 3) (D j 4) (D j 5)) (fun _ τ => τ.2.1 70003 w 0 = sa.2.1 70003 w 0 ∧ τ.2.2 = sa.2.2) 15 1 sa ⟨rfl, rfl⟩ (fun i τ _ _ h => ⟨(rOO (c := 120003) (by decide)).trans h.1, h.2⟩)
    exact itF_ind (f := areF (D j 7)) (fun _ τ => τ.2.1 70003 w 0 = sa.2.1 70003 w 0 ∧ τ.2.2 = sa.2.2) 64 0 (emA sa D j) h1 (fun i τ _ _ h => ⟨(rOO (by decide)).trans h.1, h.2⟩)
  have F2 := ((FL.eqk d1 (by decide) (by decide)).trans (FL.eqk d2 (by decide) (by decide))).trans (FL.eqk d3 (by decide) (by decide))
  have e3 : s3.2.1 70003 w 0 = σ.2.1 70003 w 0 := ((F2.2 70003 w 0 (by rw [eC.2]; exact k2) (by decide)).2).trans (eC.1.trans e2)
  rw [rOO (by decide)]; exact e3
set_option maxRecDepth 20000 in
set_option maxHeartbeats 4000000 in
theorem c_od_die (l : Launch) (E : FE) (d : Nat) (σ : Sg) (D : Nat → Nat → Nat) (x a0 : Nat) (p : Int32) (L1 L2 L3 : Nat → List Nat) (AR1 AR2 AR3 : Nat → Nat) (hd : 10 ≤ d) (hl0 : l.stackTraces = false) (hx : σ.2.2.2 x = 1) (h0 : σ.2.1 10010 x 0 = some a0) (h3 : ∀ j, j < 4 → σ.2.1 100002 a0 j = some (D j 0)) (hP : ∀ j, j < 4 → SHp σ (D j)) (hw : WF σ) (kA : Ka E D L1 L2 L3 AR1 AR2 AR3 σ) (hb1 : ∀ q, q < 4 → (L1 q).length ≤ 64) (hb2 : ∀ q, q < 4 → (L2 q).length < 128) (hb3 : ∀ q, q < 4 → (L3 q).length ≤ 8 ∧ ∀ w, w ∈ L3 q → ∃ a, σ.2.1 70003 w 0 = some a) : CT l E d 48 [vR (some x), vI p] σ 58 12696 (fun r σ' => ∃ j, j < 4 ∧ p = nI j ∧ ¬ σ.1 20800 (D j 0) 0 = 0 ∧ (r = none ∧ odiP E D x j L1 L2 L3 σ σ')) (oX σ D p) := by
  have kd0 : Kd E D x a0 L1 L2 L3 AR1 AR2 AR3 σ := ⟨hx, h0, h3, kA⟩
  refine CTo ok_od_die (by decide +kernel) rfl rfl rfl ?_
  refine w_run 2 (S' := (2, [(0, vR (some x)), (1, vI p)], [vI p, vR (some x)], σ, 0, 0)) rfl ?_
  refine w_callV (st := []) [vI p] rfl ml_0_37 rfl rfl hx rfl rfl rfl (by simp only [RM]; omega) (by simp only [RM]; show 8 + (3 + 11) + _ ≤ _; omega) rfl (by simp only [RM]; omega) (by simp only [RM]; omega) (c_od_living l E (d - 1) σ D x a0 p (by omega) hl0 hx h0 h3 hP hw) (fun X9 s9 h9 => x_out rfl (by omega) (by omega) h9) ?_
  intro r9 s9 q9
  obtain ⟨j, hj, rfl, hal, e1, e2⟩ := q9
  rw [e1, e2]
  clear e1 e2 r9 s9
  show WG _ _ _ _ _ _ _ (5, [(0, vR (some x)), (1, vI (nI j))], [vR (some (D j 0))], σ, 0 + 2, 0 + 12)
  refine w_run 3 (S' := (8, [(2, vR (some (D j 0))), (0, vR (some x)), (1, vI (nI j))], [vI 0, vR (some (D j 0))], σ, 0 + 2, 0 + 12)) rfl ?_
  refine w_puti (k := 2) rfl rfl rfl ((hP j hj).1) rfl rfl (Or.inr ⟨rfl, Or.inl rfl⟩) (Or.inl rfl) ?_
  show WG _ _ _ _ _ _ _ (11, [(2, vR (some (D j 0))), (0, vR (some x)), (1, vI (nI j))], [], sI σ 20800 (D j 0) 0 0, 0 + 2, 0 + 12)
  refine w_run 1 (S' := (12, [(2, vR (some (D j 0))), (0, vR (some x)), (1, vI (nI j))], [vR (some x)], sI σ 20800 (D j 0) 0 0, 0 + 2, 0 + 12)) rfl ?_
  refine w_get (k := 1) (vR (σ.2.1 10103 x 0)) rfl rfl rfl hx rfl rfl ?_
  cases hm9 : σ.2.1 10103 x 0 with
  | none =>
    show WG _ _ _ _ _ _ _ (15, [(2, vR (some (D j 0))), (0, vR (some x)), (1, vI (nI j))], [vR none], sI σ 20800 (D j 0) 0 0, 0 + 2, 0 + 12)
    refine w_null rfl (fun c1 => ?_) (fun b2 c1 => (by cases c1))
    have hD9 : diM σ D x j = sI σ 20800 (D j 0) 0 0 := by unfold diM; rw [hm9]
    have kM : Kd E D x a0 L1 L2 L3 AR1 AR2 AR3 (diM σ D x j) := by rw [hD9]; exact (kd0.i (by decide))
    refine Eq.mp (congrArg (fun x9 => WG _ _ _ _ _ _ _ (34, [(2, vR (some (D j 0))), (0, vR (some x)), (1, vI (nI j))], [], x9, 0 + 2, 0 + 12)) hD9) ?_
    show WG _ _ _ _ _ _ _ (34, [(2, vR (some (D j 0))), (0, vR (some x)), (1, vI (nI j))], [], diM σ D x j, 0 + 2, 0 + 12)
    refine w_run 1 (S' := (35, [(2, vR (some (D j 0))), (0, vR (some x)), (1, vI (nI j))], [vR (some (D j 0))], diM σ D x j, 0 + 2, 0 + 12)) rfl ?_
    refine w_callV (st := []) [] rfl ml_0_49 rfl rfl ((kM.2.2.2.2.1 j hj).1) rfl rfl rfl (by simp only [RM]; omega) (by simp only [RM]; show 8 + (2 + 11) + _ ≤ _; omega) rfl (by simp only [RM]; omega) (by simp only [RM]; omega) (c_pr_endNodes l E (d - 1) (diM σ D x j) (D j) (by omega) (kM.2.2.2.2.1 j hj) kM.2.2.2.1) (fun _ _ h => h.elim) ?_
    intro r9 s9 q9
    obtain ⟨e1, e2⟩ := q9
    subst e1
    rw [e2]
    clear e2 s9
    have kE := kM.ends (a1 := D j 1)
    show WG _ _ _ _ _ _ _ (38, [(2, vR (some (D j 0))), (0, vR (some x)), (1, vI (nI j))], [], itF (endF (D j 1)) 10 0 (diM σ D x j), 0 + 2, 0 + 12)
    refine w_run 2 (S' := (40, [(3, vI 0), (2, vR (some (D j 0))), (0, vR (some x)), (1, vI (nI j))], [], itF (endF (D j 1)) 10 0 (diM σ D x j), 0 + 2, 0 + 12)) rfl ?_
    refine lk_od_die1 l E d D x a0 j L2 L3 AR2 AR3 (by omega) hj (hb2 j hj) 4 0 (itF (endF (D j 1)) 10 0 (diM σ D x j)) L1 AR1 _ _ (by omega) kE (fun q hq => by have := hb1 q hq; omega) (by omega) (by omega) (fun sa L1a AR1a cs' sl' h1 h2 hdf kA9 hL9 => ?_)
    show WG _ _ _ _ _ _ _ (87, [(2, vR (some (D j 0))), (0, vR (some x)), (1, vI (nI j))], [], sa, cs', sl')
    refine w_run 1 (S' := (88, [(2, vR (some (D j 0))), (0, vR (some x)), (1, vI (nI j))], [vR (some (D j 0))], sa, cs', sl')) rfl ?_
    refine w_callV (st := []) [] rfl ml_0_71 rfl rfl ((kA9.2.2.2.2.1 j hj).1) rfl rfl rfl (by simp only [RM]; omega) (by simp only [RM]; show 8 + (1 + 11) + _ ≤ _; omega) rfl (by simp only [RM]; omega) (by simp only [RM]; omega) (c_pr_empty l E (d - 1) sa D j L1a AR1a L2 AR2 L3 AR3 (by omega) hj (kA9.2.2.2.p hj)) (fun _ _ h => h.elim) ?_
    intro r9 sb q9
    obtain ⟨e1, hem⟩ := q9
    subst e1
    have kB9 := kA9.emp hem
    show WG _ _ _ _ _ _ _ (91, [(2, vR (some (D j 0))), (0, vR (some x)), (1, vI (nI j))], [], sb, cs', sl')
    refine w_run 2 (S' := (93, [(3, vI 0), (2, vR (some (D j 0))), (0, vR (some x)), (1, vI (nI j))], [], sb, cs', sl')) rfl ?_
    have h24 := sl3_24 (L3 := L3) hj (fun q hq => (hb3 q hq).1)
    refine lk_od_die2 l E d D x a0 j (upL L2 j []) AR2 (by omega) hj 4 0 sb (upL L1a j []) (upL L3 j []) AR1a AR3 _ _ (by omega) kB9 (fun q _ hq => ?_) (by omega) (by omega) (fun sc L1' L3' AR1' AR3' cs' sl' h3 h4 hdw kC9 => ?_)
    · by_cases e9 : q = j
      · subst e9; rw [upL_s, upL_s]; exact ⟨by simp, by simp, fun w hw => by cases hw⟩
      · rw [upL_n e9, upL_n e9]; refine ⟨hL9 q hq, (hb3 q hq).1, fun w hw => ?_⟩
        obtain ⟨a, ha⟩ := (hb3 q hq).2 w hw
        have w7 : σ.2.2.2 w = 7 := kA.2.2.2.2.kd kA.1 (by decide) (by decide) hq (List.getElem?_of_mem hw).choose_spec
        exact ⟨a, (die_70 w7 hdf hem).trans ha⟩
    · show WG _ _ _ _ _ _ _ (113, [(2, vR (some (D j 0))), (0, vR (some x)), (1, vI (nI j))], [], sc, cs', sl')
      exact w_vret rfl rfl (by omega) (by omega) (⟨j, hj, rfl, hal, rfl, L1a, sa, AR1a, AR2, AR3, sb, L1', L3', AR1', AR3', hdf, hem, hdw, kC9.2.2.2⟩)
  | some a9 =>
    have ha9 : σ.2.2.2 a9 = 3 := hw 10103 x 0 a9 hm9 (by decide)
    show WG _ _ _ _ _ _ _ (15, [(2, vR (some (D j 0))), (0, vR (some x)), (1, vI (nI j))], [vR (some a9)], sI σ 20800 (D j 0) 0 0, 0 + 2, 0 + 12)
    refine w_null rfl (fun c3 => (by cases c3)) (fun b4 c3 => ?_)
    refine w_run 1 (S' := (19, [(2, vR (some (D j 0))), (0, vR (some x)), (1, vI (nI j))], [vR (some x)], sI σ 20800 (D j 0) 0 0, 0 + 2, 0 + 12)) rfl ?_
    refine w_get (k := 1) (vR (σ.2.1 10103 x 0)) rfl rfl rfl hx rfl rfl ?_
    refine w_get (k := 3) (vI (σ.1 30000 a9 0)) rfl rfl hm9 ha9 rfl rfl ?_
    refine w_run 1 (S' := (26, [(2, vR (some (D j 0))), (0, vR (some x)), (1, vI (nI j))], [vI (nI j), vI (σ.1 30000 a9 0)], sI σ 20800 (D j 0) 0 0, 0 + 2, 0 + 12)) rfl ?_
    refine w_ic_ne rfl (fun c5 => ?_) (fun c5 => ?_)
    · have hD9 : diM σ D x j = sI σ 20800 (D j 0) 0 0 := by unfold diM; rw [hm9]; dsimp only; rw [if_neg c5]
      have kM : Kd E D x a0 L1 L2 L3 AR1 AR2 AR3 (diM σ D x j) := by rw [hD9]; exact (kd0.i (by decide))
      refine Eq.mp (congrArg (fun x9 => WG _ _ _ _ _ _ _ (34, [(2, vR (some (D j 0))), (0, vR (some x)), (1, vI (nI j))], [], x9, 0 + 2, 0 + 12)) hD9) ?_
      show WG _ _ _ _ _ _ _ (34, [(2, vR (some (D j 0))), (0, vR (some x)), (1, vI (nI j))], [], diM σ D x j, 0 + 2, 0 + 12)
      refine w_run 1 (S' := (35, [(2, vR (some (D j 0))), (0, vR (some x)), (1, vI (nI j))], [vR (some (D j 0))], diM σ D x j, 0 + 2, 0 + 12)) rfl ?_
      refine w_callV (st := []) [] rfl ml_0_49 rfl rfl ((kM.2.2.2.2.1 j hj).1) rfl rfl rfl (by simp only [RM]; omega) (by simp only [RM]; show 8 + (2 + 11) + _ ≤ _; omega) rfl (by simp only [RM]; omega) (by simp only [RM]; omega) (c_pr_endNodes l E (d - 1) (diM σ D x j) (D j) (by omega) (kM.2.2.2.2.1 j hj) kM.2.2.2.1) (fun _ _ h => h.elim) ?_
      intro r9 s9 q9
      obtain ⟨e1, e2⟩ := q9
      subst e1
      rw [e2]
      clear e2 s9
      have kE := kM.ends (a1 := D j 1)
      show WG _ _ _ _ _ _ _ (38, [(2, vR (some (D j 0))), (0, vR (some x)), (1, vI (nI j))], [], itF (endF (D j 1)) 10 0 (diM σ D x j), 0 + 2, 0 + 12)
      refine w_run 2 (S' := (40, [(3, vI 0), (2, vR (some (D j 0))), (0, vR (some x)), (1, vI (nI j))], [], itF (endF (D j 1)) 10 0 (diM σ D x j), 0 + 2, 0 + 12)) rfl ?_
      refine lk_od_die1 l E d D x a0 j L2 L3 AR2 AR3 (by omega) hj (hb2 j hj) 4 0 (itF (endF (D j 1)) 10 0 (diM σ D x j)) L1 AR1 _ _ (by omega) kE (fun q hq => by have := hb1 q hq; omega) (by omega) (by omega) (fun sa L1a AR1a cs' sl' h1 h2 hdf kA9 hL9 => ?_)
      show WG _ _ _ _ _ _ _ (87, [(2, vR (some (D j 0))), (0, vR (some x)), (1, vI (nI j))], [], sa, cs', sl')
      refine w_run 1 (S' := (88, [(2, vR (some (D j 0))), (0, vR (some x)), (1, vI (nI j))], [vR (some (D j 0))], sa, cs', sl')) rfl ?_
      refine w_callV (st := []) [] rfl ml_0_71 rfl rfl ((kA9.2.2.2.2.1 j hj).1) rfl rfl rfl (by simp only [RM]; omega) (by simp only [RM]; show 8 + (1 + 11) + _ ≤ _; omega) rfl (by simp only [RM]; omega) (by simp only [RM]; omega) (c_pr_empty l E (d - 1) sa D j L1a AR1a L2 AR2 L3 AR3 (by omega) hj (kA9.2.2.2.p hj)) (fun _ _ h => h.elim) ?_
      intro r9 sb q9
      obtain ⟨e1, hem⟩ := q9
      subst e1
      have kB9 := kA9.emp hem
      show WG _ _ _ _ _ _ _ (91, [(2, vR (some (D j 0))), (0, vR (some x)), (1, vI (nI j))], [], sb, cs', sl')
      refine w_run 2 (S' := (93, [(3, vI 0), (2, vR (some (D j 0))), (0, vR (some x)), (1, vI (nI j))], [], sb, cs', sl')) rfl ?_
      have h24 := sl3_24 (L3 := L3) hj (fun q hq => (hb3 q hq).1)
      refine lk_od_die2 l E d D x a0 j (upL L2 j []) AR2 (by omega) hj 4 0 sb (upL L1a j []) (upL L3 j []) AR1a AR3 _ _ (by omega) kB9 (fun q _ hq => ?_) (by omega) (by omega) (fun sc L1' L3' AR1' AR3' cs' sl' h3 h4 hdw kC9 => ?_)
      · by_cases e9 : q = j
        · subst e9; rw [upL_s, upL_s]; exact ⟨by simp, by simp, fun w hw => by cases hw⟩
        · rw [upL_n e9, upL_n e9]; refine ⟨hL9 q hq, (hb3 q hq).1, fun w hw => ?_⟩
          obtain ⟨a, ha⟩ := (hb3 q hq).2 w hw
          have w7 : σ.2.2.2 w = 7 := kA.2.2.2.2.kd kA.1 (by decide) (by decide) hq (List.getElem?_of_mem hw).choose_spec
          exact ⟨a, (die_70 w7 hdf hem).trans ha⟩
      · show WG _ _ _ _ _ _ _ (113, [(2, vR (some (D j 0))), (0, vR (some x)), (1, vI (nI j))], [], sc, cs', sl')
        exact w_vret rfl rfl (by omega) (by omega) (⟨j, hj, rfl, hal, rfl, L1a, sa, AR1a, AR2, AR3, sb, L1', L3', AR1', AR3', hdf, hem, hdw, kC9.2.2.2⟩)
    · refine w_run 2 (S' := (31, [(2, vR (some (D j 0))), (0, vR (some x)), (1, vI (nI j))], [vR none, vR (some x)], sI σ 20800 (D j 0) 0 0, 0 + 2, 0 + 12)) rfl ?_
      refine w_putr (k := 1) rfl rfl rfl hx rfl rfl (fun _ h9 => by cases h9) rfl (Or.inl rfl) ?_
      show WG _ _ _ _ _ _ _ (34, [(2, vR (some (D j 0))), (0, vR (some x)), (1, vI (nI j))], [], sO (sI σ 20800 (D j 0) 0 0) 10103 x 0 none, 0 + 2, 0 + 12)
      have hD9 : diM σ D x j = sO (sI σ 20800 (D j 0) 0 0) 10103 x 0 none := by unfold diM; rw [hm9]; dsimp only; rw [if_pos c5]
      have kM : Kd E D x a0 L1 L2 L3 AR1 AR2 AR3 (diM σ D x j) := by rw [hD9]; exact ((kd0.i (by decide)).oN (by decide) (by decide) (by decide) (by decide))
      refine Eq.mp (congrArg (fun x9 => WG _ _ _ _ _ _ _ (34, [(2, vR (some (D j 0))), (0, vR (some x)), (1, vI (nI j))], [], x9, 0 + 2, 0 + 12)) hD9) ?_
      show WG _ _ _ _ _ _ _ (34, [(2, vR (some (D j 0))), (0, vR (some x)), (1, vI (nI j))], [], diM σ D x j, 0 + 2, 0 + 12)
      refine w_run 1 (S' := (35, [(2, vR (some (D j 0))), (0, vR (some x)), (1, vI (nI j))], [vR (some (D j 0))], diM σ D x j, 0 + 2, 0 + 12)) rfl ?_
      refine w_callV (st := []) [] rfl ml_0_49 rfl rfl ((kM.2.2.2.2.1 j hj).1) rfl rfl rfl (by simp only [RM]; omega) (by simp only [RM]; show 8 + (2 + 11) + _ ≤ _; omega) rfl (by simp only [RM]; omega) (by simp only [RM]; omega) (c_pr_endNodes l E (d - 1) (diM σ D x j) (D j) (by omega) (kM.2.2.2.2.1 j hj) kM.2.2.2.1) (fun _ _ h => h.elim) ?_
      intro r9 s9 q9
      obtain ⟨e1, e2⟩ := q9
      subst e1
      rw [e2]
      clear e2 s9
      have kE := kM.ends (a1 := D j 1)
      show WG _ _ _ _ _ _ _ (38, [(2, vR (some (D j 0))), (0, vR (some x)), (1, vI (nI j))], [], itF (endF (D j 1)) 10 0 (diM σ D x j), 0 + 2, 0 + 12)
      refine w_run 2 (S' := (40, [(3, vI 0), (2, vR (some (D j 0))), (0, vR (some x)), (1, vI (nI j))], [], itF (endF (D j 1)) 10 0 (diM σ D x j), 0 + 2, 0 + 12)) rfl ?_
      refine lk_od_die1 l E d D x a0 j L2 L3 AR2 AR3 (by omega) hj (hb2 j hj) 4 0 (itF (endF (D j 1)) 10 0 (diM σ D x j)) L1 AR1 _ _ (by omega) kE (fun q hq => by have := hb1 q hq; omega) (by omega) (by omega) (fun sa L1a AR1a cs' sl' h1 h2 hdf kA9 hL9 => ?_)
      show WG _ _ _ _ _ _ _ (87, [(2, vR (some (D j 0))), (0, vR (some x)), (1, vI (nI j))], [], sa, cs', sl')
      refine w_run 1 (S' := (88, [(2, vR (some (D j 0))), (0, vR (some x)), (1, vI (nI j))], [vR (some (D j 0))], sa, cs', sl')) rfl ?_
      refine w_callV (st := []) [] rfl ml_0_71 rfl rfl ((kA9.2.2.2.2.1 j hj).1) rfl rfl rfl (by simp only [RM]; omega) (by simp only [RM]; show 8 + (1 + 11) + _ ≤ _; omega) rfl (by simp only [RM]; omega) (by simp only [RM]; omega) (c_pr_empty l E (d - 1) sa D j L1a AR1a L2 AR2 L3 AR3 (by omega) hj (kA9.2.2.2.p hj)) (fun _ _ h => h.elim) ?_
      intro r9 sb q9
      obtain ⟨e1, hem⟩ := q9
      subst e1
      have kB9 := kA9.emp hem
      show WG _ _ _ _ _ _ _ (91, [(2, vR (some (D j 0))), (0, vR (some x)), (1, vI (nI j))], [], sb, cs', sl')
      refine w_run 2 (S' := (93, [(3, vI 0), (2, vR (some (D j 0))), (0, vR (some x)), (1, vI (nI j))], [], sb, cs', sl')) rfl ?_
      have h24 := sl3_24 (L3 := L3) hj (fun q hq => (hb3 q hq).1)
      refine lk_od_die2 l E d D x a0 j (upL L2 j []) AR2 (by omega) hj 4 0 sb (upL L1a j []) (upL L3 j []) AR1a AR3 _ _ (by omega) kB9 (fun q _ hq => ?_) (by omega) (by omega) (fun sc L1' L3' AR1' AR3' cs' sl' h3 h4 hdw kC9 => ?_)
      · by_cases e9 : q = j
        · subst e9; rw [upL_s, upL_s]; exact ⟨by simp, by simp, fun w hw => by cases hw⟩
        · rw [upL_n e9, upL_n e9]; refine ⟨hL9 q hq, (hb3 q hq).1, fun w hw => ?_⟩
          obtain ⟨a, ha⟩ := (hb3 q hq).2 w hw
          have w7 : σ.2.2.2 w = 7 := kA.2.2.2.2.kd kA.1 (by decide) (by decide) hq (List.getElem?_of_mem hw).choose_spec
          exact ⟨a, (die_70 w7 hdf hem).trans ha⟩
      · show WG _ _ _ _ _ _ _ (113, [(2, vR (some (D j 0))), (0, vR (some x)), (1, vI (nI j))], [], sc, cs', sl')
        exact w_vret rfl rfl (by omega) (by omega) (⟨j, hj, rfl, hal, rfl, L1a, sa, AR1a, AR2, AR3, sb, L1', L3', AR1', AR3', hdf, hem, hdw, kC9.2.2.2⟩)

