section FRM
variable {E : FE} {g : Gh} {σ σ' : Sg} {K J : Nat → Bool} {n n' : Nat}
/-- an entry of the inbox, at another place perhaps -/
theorem InR.mv {p i i' w : Nat} (h : InR g p i' w σ) (hw : σ.2.2.2 w = 5) (s : RS E g σ) (F : FrP g p K J σ σ') (hA : ∀ j, j < 6 → σ'.1 730000 (g.A 22) (384 * p + 6 * i + j) = σ.1 730000 (g.A 22) (384 * p + 6 * i' + j)) (hK : ([50000, 50200, 50106, 60000, 60100, 60200, 60303, 30100].all fun c => !K c) = true) (h7 : ∀ c m, c < 64 → σ.2.1 150006 (g.D p 7) c = some m → σ.2.1 50106 w 0 = some m → σ'.2.1 150006 (g.D p 7) c = some m ∧ σ'.1 610000 (g.A 10) (g.B m) = σ.1 610000 (g.A 10) (g.B m)) : InR g p i w σ' := by
  simp only [List.all_cons, List.all_nil, Bool.and_true, Bool.and_eq_true, Bool.not_eq_true'] at hK
  obtain ⟨k1, k3, k4, k6, k8, k9, k11, k12⟩ := hK
  have eA0 : σ'.1 730000 (g.A 22) (384 * p + 6 * i) = σ.1 730000 (g.A 22) (384 * p + 6 * i') := hA 0 (by decide)
  unfold InR
  rw [eA0, hA 1 (by decide), hA 2 (by decide), hA 3 (by decide), hA 4 (by decide), hA 5 (by decide), (F.o s hw (by decide) (by decide) k1).1, (F.o s hw (by decide) (by decide) k3).1, (F.o s hw (by decide) (by decide) k4).2, nkF_fr s F hw k4 k11 k12]
  obtain ⟨q1, q2, q3⟩ := h
  refine ⟨q1, q2, q3.imp id ?_⟩
  rintro ⟨m, c, r1, r2, r3, r4, r5, r6, r7, r8, r9⟩
  have hm := s.wf _ _ _ _ r1 (by decide)
  obtain ⟨z1, z2⟩ := h7 c m r2 r3 r1
  refine ⟨m, c, r1, r2, z1, by rw [(F.o s hm (by decide) (by decide) k6).1]; exact r4, by rw [z2]; exact r5, r6, r7, by rw [(F.o s hm (by decide) (by decide) k8).1]; exact r8, ?_⟩
  rw [(F.o s hm (by decide) (by decide) k6).1, (F.o s hm (by decide) (by decide) k9).1]; exact r9
def KL1 : Nat → Bool := fun c => c / 10000 == 20 || c / 10000 == 41
def KW1 : Nat → Bool := fun c => c / 10000 == 20 || c / 10000 == 41 || c == 730000 || c == 720000
def JW : Nat → Bool := fun j => j == 5 || j == 41
/-- a work q joins the inbox of p -/
def AddW (E : FE) (g : Gh) (p q : Nat) (k : Int32) (mo : Option Nat) (c : Int32) (τ σ2 : Sg) : Prop := (Fr KW1 JW τ σ2) ∧ (∀ r, r ≠ p → FrP g r KL1 JW τ σ2) ∧ (τ.2.2.2 q = 0) ∧ (σ2.1 50000 q 0 = k) ∧ (σ2.2.1 50106 q 0 = mo) ∧ (σ2.1 50200 q 0 = c) ∧ (σ2.1 720000 (g.A 21) p = nI ((g.L1 p).length + 1)) ∧ (∀ i, 384 * p ≤ i → i < 384 * p + 6 * (g.L1 p).length → σ2.1 730000 (g.A 22) i = τ.1 730000 (g.A 22) i) ∧ (WF σ2) ∧ (∃ AR, LLx E 20 41 5 (fun p => g.D p 12) (upL g.L1 p (g.L1 p ++ [q])) AR σ2) ∧ (∃ AR, LLx E 21 42 6 (fun p => g.D p 13) g.L2 AR σ2) ∧ (∃ AR, LLx E 22 43 7 (fun p => g.D p 14) g.L3 AR σ2)
theorem AddW.F {E : FE} {g : Gh} {p q : Nat} {k : Int32} {mo : Option Nat} {c : Int32} {τ σ2 : Sg} (h9 : AddW E g p q k mo c τ σ2) : Fr KW1 JW τ σ2 := h9.1
theorem AddW.FP {E : FE} {g : Gh} {p q : Nat} {k : Int32} {mo : Option Nat} {c : Int32} {τ σ2 : Sg} (h9 : AddW E g p q k mo c τ σ2) : ∀ r, r ≠ p → FrP g r KL1 JW τ σ2 := h9.2.1
theorem AddW.q0 {E : FE} {g : Gh} {p q : Nat} {k : Int32} {mo : Option Nat} {c : Int32} {τ σ2 : Sg} (h9 : AddW E g p q k mo c τ σ2) : τ.2.2.2 q = 0 := h9.2.2.1
theorem AddW.r1 {E : FE} {g : Gh} {p q : Nat} {k : Int32} {mo : Option Nat} {c : Int32} {τ σ2 : Sg} (h9 : AddW E g p q k mo c τ σ2) : σ2.1 50000 q 0 = k := h9.2.2.2.1
theorem AddW.r2 {E : FE} {g : Gh} {p q : Nat} {k : Int32} {mo : Option Nat} {c : Int32} {τ σ2 : Sg} (h9 : AddW E g p q k mo c τ σ2) : σ2.2.1 50106 q 0 = mo := h9.2.2.2.2.1
theorem AddW.r3 {E : FE} {g : Gh} {p q : Nat} {k : Int32} {mo : Option Nat} {c : Int32} {τ σ2 : Sg} (h9 : AddW E g p q k mo c τ σ2) : σ2.1 50200 q 0 = c := h9.2.2.2.2.2.1
theorem AddW.w {E : FE} {g : Gh} {p q : Nat} {k : Int32} {mo : Option Nat} {c : Int32} {τ σ2 : Sg} (h9 : AddW E g p q k mo c τ σ2) : σ2.1 720000 (g.A 21) p = nI ((g.L1 p).length + 1) := h9.2.2.2.2.2.2.1
theorem AddW.old {E : FE} {g : Gh} {p q : Nat} {k : Int32} {mo : Option Nat} {c : Int32} {τ σ2 : Sg} (h9 : AddW E g p q k mo c τ σ2) : ∀ i, 384 * p ≤ i → i < 384 * p + 6 * (g.L1 p).length → σ2.1 730000 (g.A 22) i = τ.1 730000 (g.A 22) i := h9.2.2.2.2.2.2.2.1
theorem AddW.wf {E : FE} {g : Gh} {p q : Nat} {k : Int32} {mo : Option Nat} {c : Int32} {τ σ2 : Sg} (h9 : AddW E g p q k mo c τ σ2) : WF σ2 := h9.2.2.2.2.2.2.2.2.1
theorem AddW.l1 {E : FE} {g : Gh} {p q : Nat} {k : Int32} {mo : Option Nat} {c : Int32} {τ σ2 : Sg} (h9 : AddW E g p q k mo c τ σ2) : ∃ AR, LLx E 20 41 5 (fun p => g.D p 12) (upL g.L1 p (g.L1 p ++ [q])) AR σ2 := h9.2.2.2.2.2.2.2.2.2.1
theorem AddW.l2 {E : FE} {g : Gh} {p q : Nat} {k : Int32} {mo : Option Nat} {c : Int32} {τ σ2 : Sg} (h9 : AddW E g p q k mo c τ σ2) : ∃ AR, LLx E 21 42 6 (fun p => g.D p 13) g.L2 AR σ2 := h9.2.2.2.2.2.2.2.2.2.2.1
theorem AddW.l3 {E : FE} {g : Gh} {p q : Nat} {k : Int32} {mo : Option Nat} {c : Int32} {τ σ2 : Sg} (h9 : AddW E g p q k mo c τ σ2) : ∃ AR, LLx E 22 43 7 (fun p => g.D p 14) g.L3 AR σ2 := h9.2.2.2.2.2.2.2.2.2.2.2
theorem AddW.mk {E : FE} {g : Gh} {p q : Nat} {k : Int32} {mo : Option Nat} {c : Int32} {τ σ2 : Sg} (F : Fr KW1 JW τ σ2) (FP : ∀ r, r ≠ p → FrP g r KL1 JW τ σ2) (q0 : τ.2.2.2 q = 0) (r1 : σ2.1 50000 q 0 = k) (r2 : σ2.2.1 50106 q 0 = mo) (r3 : σ2.1 50200 q 0 = c) (w : σ2.1 720000 (g.A 21) p = nI ((g.L1 p).length + 1)) (old : ∀ i, 384 * p ≤ i → i < 384 * p + 6 * (g.L1 p).length → σ2.1 730000 (g.A 22) i = τ.1 730000 (g.A 22) i) (wf : WF σ2) (l1 : ∃ AR, LLx E 20 41 5 (fun p => g.D p 12) (upL g.L1 p (g.L1 p ++ [q])) AR σ2) (l2 : ∃ AR, LLx E 21 42 6 (fun p => g.D p 13) g.L2 AR σ2) (l3 : ∃ AR, LLx E 22 43 7 (fun p => g.D p 14) g.L3 AR σ2) : AddW E g p q k mo c τ σ2 := ⟨F, FP, q0, r1, r2, r3, w, old, wf, l1, l2, l3⟩
/-- the ghosts with the new list -/
def gW (g : Gh) (p q : Nat) : Gh := (Gh.mk g.x g.a0 g.m g.D g.A g.N g.B g.Q (upL g.L1 p (g.L1 p ++ [q])) g.L2 g.L3 g.lv)
theorem app_get {L : List Nat} {q i w : Nat} (h : (L ++ [q])[i]? = some w) : (i < L.length ∧ L[i]? = some w) ∨ (i = L.length ∧ w = q) := by
  by_cases c : i < L.length
  · rw [List.getElem?_append_left c] at h; exact Or.inl ⟨c, h⟩
  · rw [List.getElem?_append_right (by omega)] at h
    have : i - L.length = 0 := by
      by_cases z : i - L.length = 0
      · exact z
      · obtain ⟨y, hy⟩ : ∃ y, i - L.length = y + 1 := ⟨i - L.length - 1, by omega⟩
        rw [hy] at h; cases h
    rw [this] at h
    exact Or.inr ⟨by omega, (Option.some.inj h).symm⟩
theorem RR.addW {p q : Nat} {k c : Int32} {mo : Option Nat} {τ σ2 : Sg} (R : RR E g n τ) (hp : p < 4) (ha : al g τ p) (A : AddW E g p q k mo c τ σ2) (hlen : (g.L1 p).length < 64) (hIn : InR (gW g p q) p (g.L1 p).length q σ2) (hd : ∀ (i w m : Nat), (g.L1 p)[i]? = some w → τ.2.1 50106 w 0 = some m → mo ≠ some m) (hc : RC (gW g p q) σ2) (hb : RB (gW g p q) σ2) : RR E (gW g p q) n σ2 := by
  have F := A.F
  have hw' := A.wf
  have s' : RS E (gW g p q) σ2 := R.s.fr F hw' (by decide) (by decide) (by decide) rfl rfl rfl rfl rfl A.l1 A.l2 A.l3
  have bB := RBn.of R.a
  have i' : ∀ r, r < 4 → RI (gW g p q) r σ2 := by
    intro r hr
    by_cases e : r = p
    · subst e
      have eL : (gW g r q).L1 r = g.L1 r ++ [q] := upL_s
      obtain ⟨h1, h2, h3, h4, h5⟩ := R.i r hr
      have old : ∀ i w, (g.L1 r)[i]? = some w → i < (g.L1 r).length := fun i w hi => (List.getElem?_eq_some_iff.mp hi).1
      have em : ∀ i w, (g.L1 r)[i]? = some w → σ2.2.1 50106 w 0 = τ.2.1 50106 w 0 := fun i w hi => ((F.at g r).o R.s (R.s.k1 hr hi) (by decide) (by decide) (by decide)).2
      refine ⟨fun i w hi => ?_, fun i i' w w' m hi hi' hm hm' => ?_, ?_, fun z => absurd ((al.fr R.s F (by decide) r).mpr ha) z, ?_⟩
      · rw [eL] at hi
        rcases app_get hi with ⟨hil, hi⟩ | ⟨rfl, rfl⟩
        · exact show InR g r i w σ2 from (h1 i w hi).mv (R.s.k1 hr hi) R.s (F.at g r) (fun j hj => A.old _ (by omega) (by omega)) (by decide) (fun c m hc hm _ => ⟨by rw [(F.2.2 _ _ _ (R.s.kD hr (by decide)) (by decide)).2]; exact hm, by rw [(F.2.2 _ _ _ (R.s.kA (by decide)) (by decide)).1]⟩)
        · exact hIn
      · rw [eL] at hi hi'
        rcases app_get hi with ⟨hil, hj⟩ | ⟨rfl, rfl⟩ <;> rcases app_get hi' with ⟨hil', hj'⟩ | ⟨rfl, rfl⟩
        · rw [em i w hj] at hm
          rw [em i' w' hj'] at hm'
          exact h2 i i' w w' m hj hj' hm hm'
        · rw [em i w hj] at hm
          rw [A.r2] at hm'
          exact absurd hm' (hd i w m hj hm)
        · rw [em i' w' hj'] at hm'
          rw [A.r2] at hm
          exact absurd hm (hd i' w' m hj' hm')
        · rfl
      · rw [eL, List.length_append]; exact A.w
      · rw [eL, List.length_append]; show (g.L1 r).length + 1 ≤ 64; omega
    · have h := (R.i r hr).fr hr R.s (fun c m h1 h2 _ => bB r c m hr h1 h2) (A.FP r e) (by decide)
      unfold RI at h ⊢
      rw [show (gW g p q).L1 r = g.L1 r from upL_n e]; exact h
  exact
  RR.mk
    (s := s')
    (p := R.p.fr R.s F (by decide))
    (no := R.no.fr R.s F (by decide) (by decide))
    (mg := R.mg.fr R.s F (by decide))
    (h := fun p hp => (show RH g n p σ2 from (R.h p hp).fr hp R.s (F.at _ p) (by decide)))
    (d := fun p hp => (show RD g p σ2 from (R.d p hp).fr hp R.s (F.at _ p) (by decide)))
    (a := fun p hp => (show RA g p σ2 from (R.a p hp).fr hp R.s (F.at _ p) (by decide) (by decide)))
    (i := i')
    (o := fun p hp => (show RO g p σ2 from (R.o p hp).fr hp R.s (F.at _ p) (by decide)))
    (v := fun p hp => (show RV g p σ2 from (R.v p hp).fr hp R.s (F.at _ p) (by decide)))
    (l := fun p hp => (show RL g p σ2 from (R.l p hp).fr hp R.s (F.at _ p) (by decide) (by decide)))
    (q := (show RQ g σ2 from R.q.fr R.s (RBn.of R.a) F (by decide) (by decide) (by decide)))
    (c := hc)
    (b := hb)
    (t := by obtain ⟨T9, t1, t2⟩ := R.t; exact ⟨T9, by show σ2.1 502300 g.m 0 = _; rw [(F.2.2 _ _ _ R.s.km (by decide)).1]; exact t1, t2⟩)
theorem countP_app {P : Nat → Bool} {L : List Nat} {q : Nat} : (L ++ [q]).countP P = L.countP P + if P q then 1 else 0 := by
  rw [List.countP_append, List.countP_cons, List.countP_nil, Nat.zero_add]
/-- how the counts change with a new work -/
theorem out_add {p q r : Nat} {k c : Int32} {mo : Option Nat} {τ σ2 : Sg} (R : RR E g n τ) (hp : p < 4) (hr : r < 4) (A : AddW E g p q k mo c τ σ2) : outN (gW g p q) σ2 r = outN g τ r + (if oW σ2 r (g.lv r) q then 1 else 0) + (if r = p ∧ rW σ2 q = true then 1 else 0) := by
  have h1 : ∀ p', p' < 4 → outP (gW g p q) σ2 r p' = outP g τ r p' + if p' = p ∧ oW σ2 r (g.lv r) q = true then 1 else 0 := by
    intro p' hp'
    rw [← outP.fr R.s (A.F.at g p') (by decide) hp']
    unfold outP
    by_cases e : p' = p
    · subst e
      rw [show (gW g p' q).L1 p' = g.L1 p' ++ [q] from upL_s, countP_app]
      show (g.L1 p').countP (oW σ2 r (g.lv r)) + (if oW σ2 r (g.lv r) q = true then 1 else 0) + (g.L2 p').countP (oM σ2 r (g.lv r)) = _
      by_cases z : oW σ2 r (g.lv r) q = true
      · rw [if_pos z, if_pos ⟨rfl, z⟩]
        omega
      · rw [if_neg z, if_neg (fun y => z y.2)]
        omega
    · rw [show (gW g p q).L1 p' = g.L1 p' from upL_n e, if_neg (fun y => e y.1)]
      rfl
  have h2 : ((gW g p q).L1 r).countP (rW σ2) = (g.L1 r).countP (rW τ) + if r = p ∧ rW σ2 q = true then 1 else 0 := by
    rw [← countP_cong (l := g.L1 r) (P := rW σ2) (Q := rW τ) (fun w hw => by unfold rW; rw [((A.F.at g r).o R.s (R.s.m1 hr hw) (by decide) (by decide) (by decide)).1])]
    by_cases e : r = p
    · subst e
      rw [show (gW g r q).L1 r = g.L1 r ++ [q] from upL_s, countP_app]
      by_cases z : rW σ2 q = true
      · rw [if_pos z, if_pos ⟨rfl, z⟩]
      · rw [if_neg z, if_neg (fun y => z y.2)]
    · rw [show (gW g p q).L1 r = g.L1 r from upL_n e, if_neg (fun y => e y.1)]
      rfl
  have hs : ((if 0 = p ∧ oW σ2 r (g.lv r) q = true then 1 else 0) + (if 1 = p ∧ oW σ2 r (g.lv r) q = true then 1 else 0) + (if 2 = p ∧ oW σ2 r (g.lv r) q = true then 1 else 0) + (if 3 = p ∧ oW σ2 r (g.lv r) q = true then 1 else 0) : Nat) = if oW σ2 r (g.lv r) q = true then 1 else 0 := by
    by_cases z : oW σ2 r (g.lv r) q = true
    · have : p = 0 ∨ p = 1 ∨ p = 2 ∨ p = 3 := by omega
      rcases this with rfl | rfl | rfl | rfl <;> simp [z]
    · simp [z]
  unfold outN
  rw [h1 0 (by decide), h1 1 (by decide), h1 2 (by decide), h1 3 (by decide), h2]
  omega
/-- a work without a message that the model has too -/
theorem RR.addN {p q : Nat} {k c : Int32} {τ σ2 : Sg} (R : RR E g n τ) (hp : p < 4) (ha : al g τ p) (A : AddW E g p q k none c τ σ2) (hlen : (g.L1 p).length < 64) (hk : k = 4 ∨ k = 5)
    (hM : σ2.1 730000 (g.A 22) (384 * p + 6 * (g.L1 p).length) = k ∧ σ2.1 730000 (g.A 22) (384 * p + 6 * (g.L1 p).length + 1) = -1 ∧ σ2.1 730000 (g.A 22) (384 * p + 6 * (g.L1 p).length + 2) = -1 ∧ σ2.1 730000 (g.A 22) (384 * p + 6 * (g.L1 p).length + 3) = -1 ∧ σ2.1 730000 (g.A 22) (384 * p + 6 * (g.L1 p).length + 4) = c)
    (h4 : k = 4 → (g.L1 p).countP (fun w => !(τ.1 50000 w 0 == 2)) + (g.L3 p).length + 1 ≤ 24 + (g.L1 p).countP (fun w => τ.1 50000 w 0 == 5))
    (h5 : k = 5 → outN g τ p + 1 ≤ (if τ.1 770000 (g.A 26) p = 0 then 0 else 1)) : RR E (gW g p q) n σ2 := by
  have eo : ∀ r, oW σ2 r (g.lv r) q = false := fun r => by unfold oW; rw [A.r2]; simp
  have ek : ∀ w, w ∈ g.L1 p → σ2.1 50000 w 0 = τ.1 50000 w 0 := fun w hw => ((A.F.at g p).o R.s (R.s.m1 hp hw) (by decide) (by decide) (by decide)).1
  refine R.addW hp ha A hlen ⟨by rw [A.r1]; exact hM.1.symm, by rw [A.r3]; exact hM.2.2.2.2.symm, Or.inl ⟨A.r2, ?_, hM.2.1, hM.2.2.1, hM.2.2.2.1⟩⟩ (fun _ _ _ _ _ h => by cases h) (fun r hr har => ?_) (fun r hr har => ?_)
  · show σ2.1 730000 (g.A 22) (384 * p + 6 * (g.L1 p).length) = 4 ∨ σ2.1 730000 (g.A 22) (384 * p + 6 * (g.L1 p).length) = 5
    rw [hM.1]; exact hk
  · have har' : al g τ r := (al.fr R.s A.F (by decide) r).mp har
    show outN (gW g p q) σ2 r ≤ if σ2.1 770000 (g.A 26) r = 0 then 0 else 1
    rw [out_add R hp hr A, eo r, (A.F.2.2 _ _ _ (R.s.kA (by decide)) (by decide)).1]
    simp only [Bool.false_eq_true, if_false, Nat.add_zero]
    have h0 := R.c r hr har'
    by_cases e : r = p ∧ rW σ2 q = true
    · obtain ⟨rfl, e⟩ := e
      have k5 : k = 5 := by
        unfold rW at e
        rw [A.r1] at e
        rcases hk with rfl | rfl
        · exact absurd e (by decide)
        · rfl
      rw [if_pos ⟨rfl, e⟩]
      exact h5 k5
    · rw [if_neg e]; exact h0
  · have har' : al g τ r := (al.fr R.s A.F (by decide) r).mp har
    by_cases e : r = p
    · subst e
      show ((gW g r q).L1 r).countP _ + (g.L3 r).length ≤ 24 + ((gW g r q).L1 r).countP _
      rw [show (gW g r q).L1 r = g.L1 r ++ [q] from upL_s, countP_app, countP_app, A.r1, countP_cong (l := g.L1 r) (P := fun w => !(σ2.1 50000 w 0 == 2)) (fun w hw => by rw [ek w hw]), countP_cong (l := g.L1 r) (P := fun w => σ2.1 50000 w 0 == 5) (fun w hw => by rw [ek w hw])]
      have h0 := R.b r hr har'
      rcases hk with rfl | rfl
      · have := h4 rfl
        rw [show (if (!((4 : Int32) == 2)) = true then 1 else 0 : Nat) = 1 from rfl, show (if ((4 : Int32) == 5) = true then 1 else 0 : Nat) = 0 from rfl]
        omega
      · rw [show (if (!((5 : Int32) == 2)) = true then 1 else 0 : Nat) = 1 from rfl, show (if ((5 : Int32) == 5) = true then 1 else 0 : Nat) = 1 from rfl]
        omega
    · show ((gW g p q).L1 r).countP _ + (g.L3 r).length ≤ 24 + ((gW g p q).L1 r).countP _
      rw [show (gW g p q).L1 r = g.L1 r from upL_n e]
      exact RB.frp (g := g) hr (R.b r hr har') R.s (A.FP r e) (by decide)
end FRM
