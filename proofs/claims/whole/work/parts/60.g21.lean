section FRM
variable {E : FE} {g : Gh} {σ σ' σ2 : Sg} {K J : Nat → Bool} {n n' : Nat}
theorem msk_b : Fr (fun c => !K c) (fun _ => false) σ2 (msk K σ σ2) := by
  refine ⟨fun _ _ => rfl, fun _ h h2 => absurd h h2, fun c x i _ hc => ?_⟩
  have : K c = true := by simpa using hc
  exact msk_y this
theorem msk_p {K1 K2 KP : Nat → Bool} {r : Nat} (F : FrP g r KP J σ σ2) (h : ∀ c, K1 c = true → K2 c = true) : FrP g r (fun c => KP c && K2 c && !K1 c) (fun _ => false) (msk K1 σ σ2) (msk K2 σ σ2) := by
  refine ⟨fun _ _ => rfl, fun _ h h2 => absurd h h2, fun c x i hx hc hi => ?_⟩
  have hc' : (KP c && K2 c && !K1 c) = false := hc
  by_cases z : (K2 c && !K1 c) = false
  · exact (msk_s (σ := σ) (σ2 := σ2) h).2.2 c x i hx z
  · have z1 : K2 c = true ∧ K1 c = false := by simpa using z
    have z2 : KP c = false := by
      rw [z1.1, z1.2] at hc'; simpa using hc'
    rw [(msk_y z1.1).1, (msk_y z1.1).2]
    by_cases y : σ.2.2.2 x = 0
    · exact ⟨(if_pos (Or.inr y)).symm, (if_pos (Or.inr y)).symm⟩
    · rw [(msk_n z1.2 y).1, (msk_n z1.2 y).2]
      exact F.2.2 c x i y z2 hi
theorem msk_k {K1 K2 : Nat → Bool} (F : Fr K J σ σ2) (h : ∀ c, K1 c = true → K2 c = true) (hk : ∀ c, K2 c = true → K1 c = false → K c = false) : Fr (fun _ => false) (fun _ => false) (msk K1 σ σ2) (msk K2 σ σ2) := by
  refine ⟨fun _ _ => rfl, fun _ h h2 => absurd h h2, fun c x i hx _ => ?_⟩
  by_cases z : (K2 c && !K1 c) = false
  · exact (msk_s (σ := σ) (σ2 := σ2) h).2.2 c x i hx z
  · have z1 : K2 c = true ∧ K1 c = false := by simpa using z
    rw [(msk_y z1.1).1, (msk_y z1.1).2]
    by_cases y : σ.2.2.2 x = 0
    · exact ⟨(if_pos (Or.inr y)).symm, (if_pos (Or.inr y)).symm⟩
    · rw [(msk_n z1.2 y).1, (msk_n z1.2 y).2]
      exact F.2.2 c x i y (hk c z1.1 z1.2)
def tk2 : Nat → Bool := fun c => KW1 c || c == 61000 || c == 610000
def tk3 : Nat → Bool := fun c => tk2 c || c == 21105 || c == 810000
def tk4 : Nat → Bool := fun c => tk3 c || KO2 c
def tk5 : Nat → Bool := fun c => tk4 c || c == 21000 || c == 770000
def tk6 : Nat → Bool := fun c => tk5 c || c == 500000
def tkP : Nat → Bool := fun c => KL1 c || KO1 c || c == 61000 || c == 500000
/-- a work is taken: the change in one -/
theorem RR.take {p w : Nat} {v : Int32} (R : RR E g n σ) (hp : p < 4) (h0 : (g.L1 p)[0]? = some w) (FA : Fr tk6 J σ σ2) (hJ : J 3 = false) (FP : ∀ r, r ≠ p → FrP g r tkP J σ σ2) (hw2 : WF σ2) (hfe : σ2.2.2.2 (fe E) = 0)
    (l1 : ∃ AR, LLx E 20 41 5 (fun p => g.D p 12) (upL g.L1 p (g.L1 p).tail) AR σ2)
    (hs : ∀ i, i < 6 * ((g.L1 p).length - 1) → σ2.1 730000 (g.A 22) (384 * p + i) = σ.1 730000 (g.A 22) (384 * p + i + 6)) (hwk : σ2.1 720000 (g.A 21) p = nI ((g.L1 p).length - 1))
    (hm0 : σ.2.1 50106 w 0 = none → Fr (fun c => tk6 c && !(c == 61000) && !(c == 610000)) J σ σ2)
    (hm1 : ∀ m, σ.2.1 50106 w 0 = some m → σ2.1 61000 m 0 = 1 ∧ σ2.1 610000 (g.A 10) (g.B m) = 3 ∧ (∀ x, x ≠ m → σ.2.2.2 x = 6 → σ2.1 61000 x 0 = σ.1 61000 x 0) ∧ (∀ b, b ≠ g.B m → σ2.1 610000 (g.A 10) b = σ.1 610000 (g.A 10) b))
    (hl1 : σ2.2.1 21105 (g.D p 0) 0 = some w) (hl2 : ∀ j, j < 5 → σ2.1 810000 (g.A 30) (5 * p + j) = ltF σ (some w) j)
    (ho0 : ¬ σ.1 50000 w 0 = 1 → Fr (fun c => tk6 c && !KO2 c) J σ σ2)
    (ho1 : σ.1 50000 w 0 = 1 → ∃ m, σ.2.1 50106 w 0 = some m ∧ (g.L2 p).length < 12 ∧ (∃ AR, LLx E 21 42 6 (fun p => g.D p 13) (upL g.L2 p (g.L2 p ++ [m])) AR σ2) ∧ σ2.1 750000 (g.A 24) (12 * p + (g.L2 p).length) = σ.1 730000 (g.A 22) (384 * p + 3) ∧ σ2.1 760000 (g.A 25) (12 * p + (g.L2 p).length) = σ.1 730000 (g.A 22) (384 * p + 5) ∧ σ2.1 740000 (g.A 23) p = nI ((g.L2 p).length + 1) ∧ (∀ i, i < (g.L2 p).length → σ2.1 750000 (g.A 24) (12 * p + i) = σ.1 750000 (g.A 24) (12 * p + i) ∧ σ2.1 760000 (g.A 25) (12 * p + i) = σ.1 760000 (g.A 25) (12 * p + i)))
    (hv : v = if σ.1 50000 w 0 = 3 ∨ σ.1 50000 w 0 = 5 then 0 else σ.1 770000 (g.A 26) p) (hv1 : σ2.1 21000 (g.D p 0) 0 = v) (hv2 : σ2.1 770000 (g.A 26) p = v) : ∃ g', RR E g' n σ2 ∧ g'.x = g.x ∧ g'.m = g.m ∧ g'.A = g.A := by
  have ha : al g σ p := by
    by_cases z : al g σ p
    · exact z
    · rw [(R.i p hp).2.2.2.1 z] at h0; cases h0
  have hw5 := R.s.k1 hp h0
  have kd : ∀ {x}, σ.2.2.2 x ≠ 0 → σ2.2.2.2 x ≠ 0 := fun {x} h => by rw [FA.1 x h]; exact h
  have wfm : ∀ K, WF (msk K σ σ2) := fun K => msk_wf FA.1 R.s.wf hw2
  have R0 : RR E g n (msk (fun _ => false) σ σ2) := R.same (msk_0 FA) (wfm _) hfe hJ
  have nA : ∀ {K c j i}, j < 31 → K c = false → (msk K σ σ2).1 c (g.A j) i = σ.1 c (g.A j) i := fun hj hk => (msk_n hk (R.s.kA hj)).1
  -- the inbox
  have R1 : RR E (gP g p) n (msk KW1 σ σ2) := by
    refine R0.popW (J := fun _ => false) hp h0 ((msk_s (fun _ h => by cases h)).weak (fun c hc => by simpa using hc) (fun _ h => h)) rfl (fun r hr => ?_) (wfm _) ?_ hfe (fun i hi => ?_) ?_
    · have := msk_p (K1 := fun _ => false) (K2 := KW1) (FP r hr) (fun _ h => by cases h)
      refine ⟨this.1, this.2.1, fun c x i hx hk hi => this.2.2 c x i hx ?_ hi⟩
      show (tkP c && KW1 c && !false) = false
      simp only [KL1, Bool.or_eq_false_iff, beq_eq_false_iff_ne] at hk
      by_cases z : c = 730000
      · subst z; decide
      · by_cases z2 : c = 720000
        · subst z2; decide
        · have : KW1 c = false := by simp [KW1, hk.1, hk.2, z, z2]
          rw [this]; simp
    · obtain ⟨AR, h⟩ := l1
      exact ⟨AR, h.fr msk_b hfe (by decide) (by decide) (by decide)⟩
    · rw [(msk_y (by decide)).1, nA (by decide) rfl]; exact hs i hi
    · rw [(msk_y (by decide)).1]; exact hwk
  have hsub : ∀ (i w' : Nat), ((gP g p).L1 p)[i]? = some w' → (g.L1 p)[i + 1]? = some w' := fun i w' h => by
    rw [show (gP g p).L1 p = (g.L1 p).tail from upL_s] at h; exact tl_get h
  -- its message
  have R2 : RR E (gP g p) n (msk tk2 σ σ2) := by
    cases hm : σ.2.1 50106 w 0 with
    | none =>
      refine R1.same (msk_k (hm0 hm) (fun c h => by simp [tk2, h]) (fun c h1 h2 => ?_)) (wfm _) hfe rfl
      have : c = 61000 ∨ c = 610000 := by
        simp only [tk2, h2, Bool.or_eq_true, beq_iff_eq] at h1
        rcases h1 with (h1 | h1) | h1
        · cases h1
        · exact Or.inl h1
        · exact Or.inr h1
      rcases this with rfl | rfl <;> simp
    | some m =>
      obtain ⟨f1, f2, f3, f4⟩ := hm1 m hm
      rcases ((R.i p hp).1 0 w h0).2.2 with ⟨z, -⟩ | ⟨m', c, r1, r2, r3, -, r5, -⟩
      · rw [z] at hm; cases hm
      · have em : m' = m := Option.some.inj (r1.symm.trans hm)
        rw [em] at r1 r3 r5
        refine R1.taken (p := p) (c := c) (m := m) hp ((al.fr R0.s (msk_s (K1 := fun _ => false) (K2 := KW1) (fun _ h => by cases h)) (by decide) p).mpr ((al.fr R.s (msk_0 FA) rfl p).mpr ha)) r2 ((msk_n (K := KW1) (by decide) (R.s.kD hp (by decide))).2.trans r3) ((nA (by decide) (by decide)).trans r5) (fun i w' hi hmw => ?_)
          ((msk_s (fun c h => by simp [tk2, h])).weak (fun c hc => ?_) (fun _ h => h)) (wfm _) (by rw [(msk_y (by decide)).1]; exact f1) (by rw [(msk_y (by decide)).1]; exact f2) (fun x hx hx6 => ?_) (fun b hb => ?_)
        · have hi' := hsub i w' hi
          rw [(msk_n (K := KW1) (by decide) (by rw [R.s.k1 hp hi']; decide)).2] at hmw
          have := (R.i p hp).2.1 (i + 1) 0 w' w m hi' h0 hmw r1
          omega
        · have hc' : c ∉ [61000, 610000] := by simpa using hc
          simp only [List.mem_cons, List.not_mem_nil, or_false, not_or] at hc'
          cases e : KW1 c <;> simp [tk2, e, hc'.1, hc'.2]
        · rw [(msk_y (by decide)).1]
          by_cases y : σ.2.2.2 x = 0
          · show _ = (if KW1 61000 = true ∨ σ.2.2.2 x = 0 then σ2.1 61000 x 0 else σ.1 61000 x 0)
            rw [if_pos (Or.inr y)]
          · rw [(msk_n (K := KW1) (by decide) y).1]
            exact f3 x hx (by rw [← FA.1 x y]; exact hx6)
        · show (msk tk2 σ σ2).1 610000 (g.A 10) b = (msk KW1 σ σ2).1 610000 (g.A 10) b
          rw [(msk_y (by decide)).1, nA (by decide) (by decide)]; exact f4 b hb
  -- the latest work
  have FP3 : ∀ {K1 K2 : Nat → Bool} (_ : ∀ c, K1 c = true → K2 c = true) (_ : ∀ c, K2 c = true → K1 c = false → tkP c = false), ∀ r, r ≠ p → FrP g r (fun _ => false) (fun _ => false) (msk K1 σ σ2) (msk K2 σ σ2) := by
    intro K1 K2 h1 h2 r hr
    have := msk_p (FP r hr) h1
    refine ⟨this.1, this.2.1, fun c x i hx _ hi => this.2.2 c x i hx ?_ hi⟩
    show (tkP c && K2 c && !K1 c) = false
    cases e1 : K1 c with
    | true => simp
    | false => cases e2 : K2 c with
      | false => simp
      | true => rw [h2 c e2 e1]; rfl
  have al2 : ∀ K : Nat → Bool, K 510000 = false → al g (msk K σ σ2) p := fun K hK => by unfold al; rw [nA (by decide) hK]; exact ha
  have R3 : RR E (gP g p) n (msk tk3 σ σ2) := by
    refine R2.late (p := p) (w := w) hp ((msk_s (fun c h => by simp [tk3, h])).weak (fun c hc => ?_) (fun _ h => h)) (wfm _) (FP3 (fun c h => by simp [tk3, h]) (fun c h1 h2 => ?_)) (al2 _ (by decide)) (by show σ2.2.2.2 w = 5; rw [FA.1 w (by rw [hw5]; decide)]; exact hw5) (by rw [(msk_y (by decide)).2]; exact hl1) (fun j hj => ?_)
    · have hc' : c ∉ [21105, 810000] := by simpa using hc
      simp only [List.mem_cons, List.not_mem_nil, or_false, not_or] at hc'
      cases e : tk2 c <;> simp [tk3, e, hc'.1, hc'.2]
    · have : c = 21105 ∨ c = 810000 := by
        simp only [tk3, h2, Bool.or_eq_true, beq_iff_eq] at h1
        rcases h1 with (h1 | h1) | h1
        · cases h1
        · exact Or.inl h1
        · exact Or.inr h1
      rcases this with rfl | rfl <;> decide
    · rw [(msk_y (by decide)).1]
      have F0 : Fr (fun c => tk2 c) J σ (msk tk2 σ σ2) := ⟨FA.1, FA.2.1, fun c x i hx hc => msk_n hc hx⟩
      rw [ltF_fr R.s (F0.at g p) (fun w' h => by cases h; exact hw5) (by decide)]
      exact hl2 j hj
  have hin := (R.i p hp).1 0 w h0
  have eW : ∀ {K : Nat → Bool} {c i}, K c = false → (msk K σ σ2).1 c w i = σ.1 c w i := fun hk => (msk_n hk (by rw [hw5]; decide)).1
  -- counts before
  have cnt : ∀ {K : Nat → Bool}, ([60100, 60200, 50000, 50106].all fun c => !K c) = true → ∀ r, r < 4 → outN (gP g p) (msk K σ σ2) r + (if oW σ r (g.lv r) w then 1 else 0) + (if r = p ∧ rW σ w = true then 1 else 0) = outN g σ r := by
    intro K hK r hr
    have F0 : Fr K J σ (msk K σ σ2) := ⟨FA.1, FA.2.1, fun c x i hx hc => msk_n hc hx⟩
    have hK0 := hK
    simp only [List.all_cons, List.all_nil, Bool.and_true, Bool.and_eq_true, Bool.not_eq_true'] at hK0
    rw [← outN.fr R.s (F0.at g r) hK hr, ← oW.fr R.s (F0.at g r) hw5 hK, show rW σ w = rW (msk K σ σ2) w from by unfold rW; rw [eW hK0.2.2.1]]
    generalize msk K σ σ2 = τ
    have hP : ∀ r', outP g τ r r' = outP (gP g p) τ r r' + if r' = p ∧ oW τ r (g.lv r) w = true then 1 else 0 := by
      intro r'
      unfold outP
      by_cases e : r' = p
      · subst e
        rw [show (gP g r').L1 r' = (g.L1 r').tail from upL_s, countP_tl h0]
        show _ = (g.L1 r').tail.countP (oW τ r (g.lv r)) + (g.L2 r').countP (oM τ r (g.lv r)) + _
        by_cases z : oW τ r (g.lv r) w = true
        · rw [if_pos z, if_pos ⟨rfl, z⟩]; omega
        · rw [if_neg z, if_neg (fun y => z y.2)]; omega
      · rw [show (gP g p).L1 r' = g.L1 r' from upL_n e, if_neg (fun y => e y.1)]
        rfl
    have hR : (g.L1 r).countP (rW τ) = ((gP g p).L1 r).countP (rW τ) + if r = p ∧ rW τ w = true then 1 else 0 := by
      by_cases e : r = p
      · subst e
        rw [show (gP g r).L1 r = (g.L1 r).tail from upL_s, countP_tl h0]
        by_cases z : rW τ w = true
        · rw [if_pos z, if_pos ⟨rfl, z⟩]
        · rw [if_neg z, if_neg (fun y => z y.2)]
      · rw [show (gP g p).L1 r = g.L1 r from upL_n e, if_neg (fun y => e y.1)]
        rfl
    have hs : ((if 0 = p ∧ oW τ r (g.lv r) w = true then 1 else 0) + (if 1 = p ∧ oW τ r (g.lv r) w = true then 1 else 0) + (if 2 = p ∧ oW τ r (g.lv r) w = true then 1 else 0) + (if 3 = p ∧ oW τ r (g.lv r) w = true then 1 else 0) : Nat) = if oW τ r (g.lv r) w = true then 1 else 0 := by
      by_cases z : oW τ r (g.lv r) w = true
      · have : p = 0 ∨ p = 1 ∨ p = 2 ∨ p = 3 := by omega
        rcases this with rfl | rfl | rfl | rfl <;> simp [z]
      · simp [z]
    unfold outN
    rw [hP 0, hP 1, hP 2, hP 3, hR]
    omega
  -- the last two steps
  have fin : ∀ g1 : Gh, RR E g1 n (msk tk4 σ σ2) → g1.x = g.x → g1.m = g.m → g1.A = g.A → g1.D = g.D → outN g1 (msk tk4 σ σ2) p ≤ (if v = 0 then 0 else 1) → ∃ g', RR E g' n σ2 ∧ g'.x = g.x ∧ g'.m = g.m ∧ g'.A = g.A := by
    intro g1 R4 gx gm gA gD hc
    have hv01 : v = 0 ∨ v = 1 := by
      rw [hv]
      split
      · exact Or.inl rfl
      · exact ((R.l p hp).1 ha).2.2
    have R5 : RR E g1 n (msk tk5 σ σ2) := by
      refine R4.wts (p := p) (v := v) hp ((msk_s (fun c h => by simp [tk5, h])).weak (fun c hc => ?_) (fun _ h => h)) (wfm _) (fun r hr => ?_) (by unfold al; rw [gA]; exact al2 _ (by decide)) hv01 (by rw [gD, (msk_y (by decide)).1]; exact hv1) (by rw [gA, (msk_y (by decide)).1]; exact hv2) hc
      · have hc' : c ∉ [21000, 770000] := by simpa using hc
        simp only [List.mem_cons, List.not_mem_nil, or_false, not_or] at hc'
        cases e : tk4 c <;> simp [tk5, e, hc'.1, hc'.2]
      · have := FP3 (K1 := tk4) (K2 := tk5) (fun c h => by simp [tk5, h]) (fun c h1 h2 => by
          have : c = 21000 ∨ c = 770000 := by
            simp only [tk5, h2, Bool.or_eq_true, beq_iff_eq] at h1
            rcases h1 with (h1 | h1) | h1
            · cases h1
            · exact Or.inl h1
            · exact Or.inr h1
          rcases this with rfl | rfl <;> decide) r hr
        refine ⟨this.1, this.2.1, fun c x i hx hk hi => this.2.2 c x i hx hk ?_⟩
        unfold InP at hi ⊢
        rw [gD] at hi; exact hi
    have R6 : RR E g1 n (msk tk6 σ σ2) := by
      have F6 : Fr (fun c => c == 500000) (fun _ => false) (msk tk5 σ σ2) (msk tk6 σ σ2) := (msk_s (fun c h => by simp [tk6, h])).weak (fun c hc => by
        cases e : tk5 c <;> simp [tk6, e]
        simpa using hc) (fun _ h => h)
      have hw' := wfm tk6
      have hfe' : (msk tk6 σ σ2).2.2.2 (fe E) = 0 := hfe
      exact RR.mk
              (s := R5.s.fr0 F6 hw' hfe' (by decide) (by decide) (by decide) (by decide))
              (p := R5.p.fr R5.s F6 (by decide))
              (no := R5.no.fr R5.s F6 (by decide) (by decide))
              (mg := R5.mg.fr R5.s F6 (by decide))
              (h := fun p hp => (R5.h p hp).fr hp R5.s (F6.at _ p) (by decide))
              (d := fun p hp => (R5.d p hp).fr hp R5.s (F6.at _ p) (by decide))
              (a := fun p hp => (R5.a p hp).fr hp R5.s (F6.at _ p) (by decide) (by decide))
              (i := fun p hp => (R5.i p hp).fr hp R5.s (fun c m h1 h2 _ => RBn.of R5.a p c m hp h1 h2) (F6.at _ p) (by decide))
              (o := fun p hp => (R5.o p hp).fr hp R5.s (F6.at _ p) (by decide))
              (v := fun p hp => (R5.v p hp).fr hp R5.s (F6.at _ p) (by decide))
              (l := fun p hp => (R5.l p hp).fr hp R5.s (F6.at _ p) (by decide) (by decide))
              (q := R5.q.fr R5.s (RBn.of R5.a) F6 (by decide) (by decide) (by decide))
              (c := R5.c.fr R5.s F6 (by decide) (by decide))
              (b := R5.b.fr R5.s F6 (by decide) (by decide))
              (t := by obtain ⟨T9, t1, t2⟩ := R5.t; exact ⟨T9, by rw [(F6.2.2 _ _ _ R5.s.km (by decide)).1]; exact t1, t2⟩)
    exact ⟨g1, R6.same (msk_e FA) hw2 hfe rfl, gx, gm, gA⟩
  by_cases k1 : σ.1 50000 w 0 = 1
  · obtain ⟨m, hm, hlen, hl2', e3, e4, e5, e6⟩ := ho1 k1
    rcases hin.2.2 with ⟨z, -⟩ | ⟨m', c, r1, r2, r3, r4, r5, r6, r7, r8, r9⟩
    · rw [z] at hm; cases hm
    · have em : m' = m := Option.some.inj (r1.symm.trans hm)
      rw [← em] at hl2'
      obtain ⟨k, s, l, it, t, T, a1, a2, a3, x1, x2, x3, x4, x5, x6, x7, -⟩ := ((R.a p hp).1 ha).2.1 c m' r2 r3
      have hm6 := R.s.wf _ _ _ _ r1 (by decide)
      have eM : ∀ {K : Nat → Bool} {c i}, K c = false → (msk K σ σ2).1 c m' i = σ.1 c m' i := fun hk => (msk_n hk (by rw [hm6]; decide)).1
      have k1' : σ.1 60000 m' 0 = 1 := r4.trans (hin.1.symm.trans k1)
      have ow1 : ∀ r l, oW σ r l w = oM σ r l m' := fun r l => by unfold oW; rw [k1, r1]; simp
      have rw1 : rW σ w = false := by unfold rW; rw [k1]; decide
      have R4 : RR E (gO (gP g p) p m') n (msk tk4 σ σ2) := by
        refine R3.opn (p := p) (m := m') (s := s) (l := l) (J := fun _ => false) hp (al2 _ (by decide)) (by show σ2.2.2.2 m' = 6; rw [FA.1 m' (by rw [hm6]; decide)]; exact hm6) ((msk_s (fun c h => by simp [tk4, h])).weak (fun c hc => by simp [hc]; cases e : tk3 c <;> simp [tk4, e, hc]) (fun _ h => h)) rfl (fun r hr => ?_) (wfm _) hfe ?_ (by rw [eM (by decide)]; exact x4) x5 (by rw [eM (by decide)]; exact x6) x7 hlen ?_ ?_ ?_ (fun i hi => ?_) (fun r hr har => ?_)
        · have := msk_p (K1 := tk3) (K2 := tk4) (FP r hr) (fun c h => by simp [tk4, h])
          refine ⟨this.1, this.2.1, fun c x i hx hk hi => this.2.2 c x i hx ?_ hi⟩
          show (tkP c && tk4 c && !tk3 c) = false
          cases e3 : tk3 c with
          | true => simp
          | false =>
            cases e4 : KO2 c with
            | false => simp [tk4, e3, e4]
            | true =>
              have hk' : KO1 c = false := hk
              simp only [KO1, Bool.or_eq_false_iff] at hk'
              have : c = 750000 ∨ c = 760000 ∨ c = 740000 := by
                simp only [KO2, hk'.1, hk'.2, Bool.false_or, Bool.or_eq_true, beq_iff_eq] at e4
                rcases e4 with (e4 | e4) | e4
                · exact Or.inl e4
                · exact Or.inr (Or.inl e4)
                · exact Or.inr (Or.inr e4)
              rcases this with rfl | rfl | rfl <;> decide
        · obtain ⟨AR, h⟩ := hl2'
          exact ⟨AR, h.fr msk_b hfe (by decide) (by decide) (by decide)⟩
        · rw [(msk_y (by decide)).1]; exact e3.trans (r8.trans x4)
        · rw [(msk_y (by decide)).1]; exact e4.trans ((r9 k1').trans x6)
        · rw [(msk_y (by decide)).1]; exact e5
        · exact ⟨(msk_y (K := tk4) (by decide)).1.trans ((e6 i hi).1.trans (nA (K := tk3) (by decide) (by decide)).symm), (msk_y (K := tk4) (by decide)).1.trans ((e6 i hi).2.trans (nA (K := tk3) (by decide) (by decide)).symm)⟩
        · have h1 := cnt (K := tk3) (by decide) r hr
          have h2 := R.c r hr (by unfold al at har ⊢; rw [show (gP g p).A = g.A from rfl, nA (by decide) (by decide)] at har; exact har)
          rw [ow1, rw1] at h1
          rw [show oM (msk tk3 σ σ2) r ((gP g p).lv r) m' = oM σ r (g.lv r) m' from by unfold oM; rw [eM (by decide), eM (by decide)]; rfl, show (gP g p).A = g.A from rfl, nA (by decide) (by decide)]
          simp only [Bool.false_eq_true, and_false, if_false, Nat.add_zero] at h1
          omega
      refine fin _ R4 rfl rfl rfl rfl ?_
      have vv : v = σ.1 770000 (g.A 26) p := by rw [hv, if_neg]; rw [k1]; decide
      have h9 := R4.c p hp (al2 _ (by decide))
      rw [show (gO (gP g p) p m').A = g.A from rfl, nA (by decide) (by decide)] at h9
      rw [vv]; exact h9
  · have R4 : RR E (gP g p) n (msk tk4 σ σ2) := by
      refine R3.same (msk_k (ho0 k1) (fun c h => by simp [tk4, h]) (fun c h1 h2 => ?_)) (wfm _) hfe rfl
      have : KO2 c = true := by simpa [tk4, h2] using h1
      simp [this]
    refine fin _ R4 rfl rfl rfl rfl ?_
    have h1 := cnt (K := tk4) (by decide) p hp
    have h2 := R.c p hp ha
    by_cases z : σ.1 50000 w 0 = 3 ∨ σ.1 50000 w 0 = 5
    · have rw1 : rW σ w = true := by
        unfold rW
        rcases z with z | z <;> rw [z] <;> decide
      rw [show (if p = p ∧ rW σ w = true then 1 else 0 : Nat) = 1 from if_pos ⟨rfl, rw1⟩] at h1
      rw [hv, if_pos z, if_pos rfl]
      have : (if σ.1 770000 (g.A 26) p = 0 then 0 else 1 : Nat) ≤ 1 := by split <;> omega
      omega
    · rw [hv, if_neg z]
      omega
end FRM
