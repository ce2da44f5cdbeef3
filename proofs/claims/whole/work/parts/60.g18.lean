section FRM
variable {E : FE} {g : Gh} {σ σ' σ2 : Sg} {K J : Nat → Bool} {n n' : Nat}
/-! a store between two others: the codes of K as in the later one -/
def msk (K : Nat → Bool) (σ σ2 : Sg) : Sg := (fun c x i => if K c = true ∨ σ.2.2.2 x = 0 then σ2.1 c x i else σ.1 c x i, fun c x i => if K c = true ∨ σ.2.2.2 x = 0 then σ2.2.1 c x i else σ.2.1 c x i, σ2.2.2.1, σ2.2.2.2)
theorem msk_y {c x i : Nat} (h : K c = true) : (msk K σ σ2).1 c x i = σ2.1 c x i ∧ (msk K σ σ2).2.1 c x i = σ2.2.1 c x i := ⟨if_pos (Or.inl h), if_pos (Or.inl h)⟩
theorem msk_n {c x i : Nat} (h : K c = false) (hx : σ.2.2.2 x ≠ 0) : (msk K σ σ2).1 c x i = σ.1 c x i ∧ (msk K σ σ2).2.1 c x i = σ.2.1 c x i :=
  ⟨if_neg (fun z => z.elim (fun y => by rw [h] at y; cases y) hx), if_neg (fun z => z.elim (fun y => by rw [h] at y; cases y) hx)⟩
theorem msk_wf (hk : ∀ x, σ.2.2.2 x ≠ 0 → σ2.2.2.2 x = σ.2.2.2 x) (h1 : WF σ) (h2 : WF σ2) : WF (msk K σ σ2) := by
  intro c a x b hb hc
  have hb' : (if K c = true ∨ σ.2.2.2 a = 0 then σ2.2.1 c a x else σ.2.1 c a x) = some b := hb
  show σ2.2.2.2 b = c % 100
  by_cases z : K c = true ∨ σ.2.2.2 a = 0
  · rw [if_pos z] at hb'; exact h2 c a x b hb' hc
  · rw [if_neg z] at hb'
    have e := h1 c a x b hb' hc
    rw [hk b (by rw [e]; exact hc), e]
theorem msk_0 (F : Fr K J σ σ2) : Fr (fun _ => false) J σ (msk (fun _ => false) σ σ2) := ⟨F.1, F.2.1, fun _ _ _ hx _ => msk_n rfl hx⟩
theorem msk_e (F : Fr K J σ σ2) : Fr (fun _ => false) (fun _ => false) (msk K σ σ2) σ2 := by
  refine ⟨fun _ _ => rfl, fun _ h h2 => absurd h h2, fun c x i hx _ => ?_⟩
  by_cases z : σ.2.2.2 x = 0
  · exact ⟨(if_pos (Or.inr z)).symm, (if_pos (Or.inr z)).symm⟩
  · cases e : K c with
    | true => exact ⟨(msk_y e).1.symm, (msk_y e).2.symm⟩
    | false =>
      have h1 := F.2.2 c x i z e
      have h2 := msk_n (K := K) (σ2 := σ2) (i := i) e z
      exact ⟨h1.1.trans h2.1.symm, h1.2.trans h2.2.symm⟩
theorem msk_s {K1 K2 : Nat → Bool} (h : ∀ c, K1 c = true → K2 c = true) : Fr (fun c => K2 c && !K1 c) (fun _ => false) (msk K1 σ σ2) (msk K2 σ σ2) := by
  refine ⟨fun _ _ => rfl, fun _ h h2 => absurd h h2, fun c x i _ hc => ?_⟩
  cases e1 : K1 c with
  | true => exact ⟨(msk_y (h c e1)).1.trans (msk_y e1).1.symm, (msk_y (h c e1)).2.trans (msk_y e1).2.symm⟩
  | false =>
    cases e2 : K2 c with
    | true =>
      have hc' : (K2 c && !K1 c) = false := hc
      rw [e1, e2] at hc'; cases hc'
    | false =>
      unfold msk
      simp only [e1, e2]
      exact ⟨trivial, trivial⟩
theorem Fr.kd0 {F0 : Fr K J σ σ2} {x : Nat} (h : σ.2.2.2 x ≠ 0) : σ2.2.2.2 x ≠ 0 := by rw [F0.1 x h]; exact h
/-- the same in another store that says the same -/
theorem RR.same (R : RR E g n σ) (F : Fr (fun _ => false) J σ σ2) (hw' : WF σ2) (hfe' : σ2.2.2.2 (fe E) = 0) (hJ : J 3 = false) : RR E g n σ2 := by
  exact RR.mk
          (s := R.s.fr0 F hw' hfe' rfl rfl rfl rfl)
          (p := R.p.fr R.s F rfl)
          (no := R.no.fr R.s F rfl hJ)
          (mg := R.mg.fr R.s F rfl)
          (h := fun p hp => (R.h p hp).fr hp R.s (F.at _ p) rfl)
          (d := fun p hp => (R.d p hp).fr hp R.s (F.at _ p) rfl)
          (a := fun p hp => (R.a p hp).fr hp R.s (F.at _ p) rfl rfl)
          (i := fun p hp => (R.i p hp).fr hp R.s (fun c m h1 h2 _ => RBn.of R.a p c m hp h1 h2) (F.at _ p) rfl)
          (o := fun p hp => (R.o p hp).fr hp R.s (F.at _ p) rfl)
          (v := fun p hp => (R.v p hp).fr hp R.s (F.at _ p) rfl)
          (l := fun p hp => (R.l p hp).fr hp R.s (F.at _ p) rfl rfl)
          (q := R.q.fr R.s (RBn.of R.a) F rfl rfl hJ)
          (c := R.c.fr R.s F rfl rfl)
          (b := R.b.fr R.s F rfl rfl)
          (t := by obtain ⟨T9, t1, t2⟩ := R.t; exact ⟨T9, by rw [(F.2.2 _ _ _ R.s.km rfl).1]; exact t1, t2⟩)
/-- a work leaves the inbox at its head -/
def gP (g : Gh) (p : Nat) : Gh := (Gh.mk g.x g.a0 g.m g.D g.A g.N g.B g.Q (upL g.L1 p (g.L1 p).tail) g.L2 g.L3 g.lv)
theorem tl_get {L : List Nat} {i w : Nat} (h : L.tail[i]? = some w) : L[i + 1]? = some w := by
  cases L with
  | nil => cases h
  | cons a t => exact h
theorem countP_tl {P : Nat → Bool} {L : List Nat} {w : Nat} (h : L[0]? = some w) : L.countP P = L.tail.countP P + if P w then 1 else 0 := by
  cases L with
  | nil => cases h
  | cons a t =>
    cases h
    rw [List.countP_cons]; rfl
theorem RR.popW {p w : Nat} (R : RR E g n σ) (hp : p < 4) (h0 : (g.L1 p)[0]? = some w) (F : Fr KW1 J σ σ2) (hJ : J 3 = false) (FP : ∀ r, r ≠ p → FrP g r KL1 J σ σ2) (hw' : WF σ2)
    (l1 : ∃ AR, LLx E 20 41 5 (fun p => g.D p 12) (upL g.L1 p (g.L1 p).tail) AR σ2) (hfe' : σ2.2.2.2 (fe E) = 0)
    (hs : ∀ i, i < 6 * ((g.L1 p).length - 1) → σ2.1 730000 (g.A 22) (384 * p + i) = σ.1 730000 (g.A 22) (384 * p + i + 6)) (hwk : σ2.1 720000 (g.A 21) p = nI ((g.L1 p).length - 1)) : RR E (gP g p) n σ2 := by
  have ha : al g σ p := by
    by_cases z : al g σ p
    · exact z
    · rw [(R.i p hp).2.2.2.1 z] at h0; cases h0
  have bB := RBn.of R.a
  have l2' : ∃ AR, LLx E 21 42 6 (fun p => g.D p 13) g.L2 AR σ2 := by obtain ⟨A, h⟩ := R.s.l2; exact ⟨A, h.fr F hfe' (by decide) (by decide) (by decide)⟩
  have l3' : ∃ AR, LLx E 22 43 7 (fun p => g.D p 14) g.L3 AR σ2 := by obtain ⟨A, h⟩ := R.s.l3; exact ⟨A, h.fr F hfe' (by decide) (by decide) (by decide)⟩
  have s' : RS E (gP g p) σ2 := R.s.fr F hw' (by decide) (by decide) (by decide) rfl rfl rfl rfl rfl l1 l2' l3'
  have i' : ∀ r, r < 4 → RI (gP g p) r σ2 := by
    intro r hr
    by_cases e : r = p
    · subst e
      have eL : (gP g r).L1 r = (g.L1 r).tail := upL_s
      obtain ⟨h1, h2, h3, h4, h5⟩ := R.i r hr
      have em : ∀ i w, (g.L1 r)[i]? = some w → σ2.2.1 50106 w 0 = σ.2.1 50106 w 0 := fun i w hi => ((F.at g r).o R.s (R.s.k1 hr hi) (by decide) (by decide) (by decide)).2
      refine ⟨fun i w hi => ?_, fun i i' w w' m hi hi' hm hm' => ?_, ?_, fun z => absurd ((al.fr R.s F (by decide) r).mpr ha) z, ?_⟩
      · rw [eL] at hi
        have hj := tl_get hi
        have hil := (List.getElem?_eq_some_iff.mp hj).1
        exact show InR g r i w σ2 from (h1 (i + 1) w hj).mv (R.s.k1 hr hj) R.s (F.at g r) (fun j hj' => by rw [show 384 * r + 6 * i + j = 384 * r + (6 * i + j) by omega, hs _ (by omega), show 384 * r + (6 * i + j) + 6 = 384 * r + 6 * (i + 1) + j by omega]) (by decide) (fun c m hc hm _ => ⟨by rw [(F.2.2 _ _ _ (R.s.kD hr (by decide)) (by decide)).2]; exact hm, by rw [(F.2.2 _ _ _ (R.s.kA (by decide)) (by decide)).1]⟩)
      · rw [eL] at hi hi'
        have hj := tl_get hi
        have hj' := tl_get hi'
        rw [em _ w hj] at hm
        rw [em _ w' hj'] at hm'
        have := h2 _ _ w w' m hj hj' hm hm'
        omega
      · rw [eL, List.length_tail]; exact hwk
      · rw [eL, List.length_tail]; omega
    · have h := (R.i r hr).fr hr R.s (fun c m h1 h2 _ => bB r c m hr h1 h2) (FP r e) (by decide)
      unfold RI at h ⊢
      rw [show (gP g p).L1 r = g.L1 r from upL_n e]; exact h
  have c' : RC (gP g p) σ2 := by
    intro r hr har
    have h1 := R.c r hr ((al.fr R.s F (by decide) r).mp har)
    show outN (gP g p) σ2 r ≤ if σ2.1 770000 (g.A 26) r = 0 then 0 else 1
    rw [(F.2.2 _ _ _ (R.s.kA (by decide)) (by decide)).1]
    refine Nat.le_trans ?_ h1
    rw [← outN.fr R.s (F.at g r) (by decide) hr]
    have hP : ∀ r', outP (gP g p) σ2 r r' ≤ outP g σ2 r r' := by
      intro r'
      unfold outP
      by_cases e : r' = p
      · subst e
        rw [show (gP g r').L1 r' = (g.L1 r').tail from upL_s, countP_tl h0]
        show (g.L1 r').tail.countP (oW σ2 r (g.lv r)) + (g.L2 r').countP (oM σ2 r (g.lv r)) ≤ _
        omega
      · rw [show (gP g p).L1 r' = g.L1 r' from upL_n e]
        exact Nat.le_refl _
    have hR : ((gP g p).L1 r).countP (rW σ2) ≤ (g.L1 r).countP (rW σ2) := by
      by_cases e : r = p
      · subst e
        rw [show (gP g r).L1 r = (g.L1 r).tail from upL_s, countP_tl h0]; omega
      · rw [show (gP g p).L1 r = g.L1 r from upL_n e]; exact Nat.le_refl _
    unfold outN
    have := hP 0; have := hP 1; have := hP 2; have := hP 3
    omega
  have b' : RB (gP g p) σ2 := by
    intro r hr har
    have har' : al g σ r := (al.fr R.s F (by decide) r).mp har
    have h1 := RB.frp (g := g) hr (R.b r hr har') R.s (F.at g r) (by decide)
    by_cases e : r = p
    · subst e
      show ((gP g r).L1 r).countP _ + (g.L3 r).length ≤ 24 + ((gP g r).L1 r).countP _
      rw [countP_tl h0, countP_tl (P := fun w => σ2.1 50000 w 0 == 5) h0] at h1
      rw [show (gP g r).L1 r = (g.L1 r).tail from upL_s]
      by_cases z : σ2.1 50000 w 0 = 5
      · rw [z] at h1
        rw [show (if (!((5 : Int32) == 2)) = true then 1 else 0 : Nat) = 1 from rfl, show (if ((5 : Int32) == 5) = true then 1 else 0 : Nat) = 1 from rfl] at h1
        omega
      · rw [if_neg (show ¬ (σ2.1 50000 w 0 == 5) = true by simpa using z)] at h1
        omega
    · show ((gP g p).L1 r).countP _ + (g.L3 r).length ≤ 24 + ((gP g p).L1 r).countP _
      rw [show (gP g p).L1 r = g.L1 r from upL_n e]
      exact h1
  exact
  RR.mk
    (s := s')
    (p := (show RP g n σ2 from R.p.fr R.s F (by decide)))
    (no := (show RNo g σ2 from R.no.fr R.s F (by decide) hJ))
    (mg := (show RMg g σ2 from R.mg.fr R.s F (by decide)))
    (h := fun p hp => (show RH g n p σ2 from (R.h p hp).fr hp R.s (F.at _ p) (by decide)))
    (d := fun p hp => (show RD g p σ2 from (R.d p hp).fr hp R.s (F.at _ p) (by decide)))
    (o := fun p hp => (show RO g p σ2 from (R.o p hp).fr hp R.s (F.at _ p) (by decide)))
    (v := fun p hp => (show RV g p σ2 from (R.v p hp).fr hp R.s (F.at _ p) (by decide)))
    (a := fun p hp => (show RA g p σ2 from (R.a p hp).fr hp R.s (F.at _ p) (by decide) (by decide)))
    (l := fun p hp => (show RL g p σ2 from (R.l p hp).fr hp R.s (F.at _ p) (by decide) (by decide)))
    (i := i')
    (q := (show RQ g σ2 from R.q.fr R.s (RBn.of R.a) F (by decide) (by decide) hJ))
    (c := c')
    (b := b')
    (t := by obtain ⟨T9, t1, t2⟩ := R.t; exact ⟨T9, by show σ2.1 502300 g.m 0 = _; rw [(F.2.2 _ _ _ R.s.km (by decide)).1]; exact t1, t2⟩)
end FRM
