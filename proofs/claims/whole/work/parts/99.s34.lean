section TPS
variable {E : FE} {g : Gh} {σ σ' σ2 τ τ' T : Sg} {K J : Nat → Bool} {n n' : Nat}
theorem all_c {l : List Nat} {P : Nat → Bool} (h : (l.all P) = true) {c : Nat} (hc : l.contains c = true) : P c = true := List.all_eq_true.mp h c (List.contains_iff_mem.mp hc)
/-- from one mask to the next -/
theorem msk_l {l l1 l2 : List Nat} (h : (l1.all fun c => l2.contains c) = true) (h2 : (l2.all fun c => l1.contains c || l.contains c) = true) : Fr (fun c => l.contains c) (fun _ => false) (msk (fun c => l1.contains c) σ T) (msk (fun c => l2.contains c) σ T) := by
  refine (msk_s (K1 := fun c => l1.contains c) (K2 := fun c => l2.contains c) (σ := σ) (σ2 := T) (fun c hc => all_c h hc)).weak (fun c hc => ?_) (fun _ h => h)
  show (l2.contains c && !l1.contains c) = false
  cases e : l2.contains c with
  | false => rfl
  | true =>
    have := all_c h2 e
    have hc' : l.contains c = false := hc
    rw [hc', Bool.or_false] at this
    rw [this]; rfl
/-- from a mask to the end -/
theorem msk_t {l : List Nat} {K1 : Nat → Bool} (F : Fr K J σ T) (h : ∀ c, K c = true → K1 c = false → l.contains c = true) : Fr (fun c => l.contains c) (fun _ => false) (msk K1 σ T) T := by
  refine ⟨fun _ _ => rfl, fun _ h h2 => absurd h h2, fun c x i _ hc => ?_⟩
  by_cases z : σ.2.2.2 x = 0
  · exact ⟨(if_pos (Or.inr z)).symm, (if_pos (Or.inr z)).symm⟩
  · cases e1 : K1 c with
    | true => exact ⟨(msk_y e1).1.symm, (msk_y e1).2.symm⟩
    | false =>
      have hk : K c = false := by
        cases e2 : K c with
        | false => rfl
        | true => have := hc.symm.trans (h c e2 e1); cases this
      have h1 := F.2.2 c x i z hk
      have h2 := msk_n (K := K1) (σ2 := T) (i := i) e1 z
      exact ⟨h1.1.trans h2.1.symm, h1.2.trans h2.2.symm⟩
theorem msk_tp {l : List Nat} {K1 : Nat → Bool} {r : Nat} (F : FrP g r K J σ T) (h : ∀ c, K c = true → K1 c = false → l.contains c = true) : FrP g r (fun c => l.contains c) (fun _ => false) (msk K1 σ T) T := by
  refine ⟨fun _ _ => rfl, fun _ h h2 => absurd h h2, fun c x i _ hc hi => ?_⟩
  by_cases z : σ.2.2.2 x = 0
  · exact ⟨(if_pos (Or.inr z)).symm, (if_pos (Or.inr z)).symm⟩
  · cases e1 : K1 c with
    | true => exact ⟨(msk_y e1).1.symm, (msk_y e1).2.symm⟩
    | false =>
      have hk : K c = false := by
        cases e2 : K c with
        | false => rfl
        | true => have := hc.symm.trans (h c e2 e1); cases this
      have h1 := F.2.2 c x i z hk hi
      have h2 := msk_n (K := K1) (σ2 := T) (i := i) e1 z
      exact ⟨h1.1.trans h2.1.symm, h1.2.trans h2.2.symm⟩
theorem msk_lp {l l1 l2 : List Nat} {r : Nat} (F : FrP g r K J σ T) (h : ∀ c, K c = true → l2.contains c = true → l1.contains c = false → l.contains c = true) (h12 : (l1.all fun c => l2.contains c) = true) : FrP g r (fun c => l.contains c) (fun _ => false) (msk (fun c => l1.contains c) σ T) (msk (fun c => l2.contains c) σ T) := by
  refine ⟨fun _ _ => rfl, fun _ h h2 => absurd h h2, fun c x i _ hc hi => ?_⟩
  by_cases z : σ.2.2.2 x = 0
  · exact ⟨(if_pos (Or.inr z)).trans (if_pos (Or.inr z)).symm, (if_pos (Or.inr z)).trans (if_pos (Or.inr z)).symm⟩
  · cases e1 : l1.contains c with
    | true =>
      have e2 : l2.contains c = true := all_c h12 e1
      exact ⟨(msk_y (K := fun c => l2.contains c) e2).1.trans (msk_y (K := fun c => l1.contains c) e1).1.symm, (msk_y (K := fun c => l2.contains c) e2).2.trans (msk_y (K := fun c => l1.contains c) e1).2.symm⟩
    | false =>
      have h1' := msk_n (K := fun c => l1.contains c) (σ2 := T) (i := i) e1 z
      cases e2 : l2.contains c with
      | false =>
        have h2' := msk_n (K := fun c => l2.contains c) (σ2 := T) (i := i) e2 z
        exact ⟨h2'.1.trans h1'.1.symm, h2'.2.trans h1'.2.symm⟩
      | true =>
        have hk : K c = false := by
          cases e3 : K c with
          | false => rfl
          | true => have := hc.symm.trans (h c e3 e2 e1); cases this
        have h1 := F.2.2 c x i z hk hi
        have h2' := msk_y (K := fun c => l2.contains c) (σ := σ) (σ2 := T) (x := x) (i := i) e2
        exact ⟨h2'.1.trans (h1.1.trans h1'.1.symm), h2'.2.trans (h1.2.trans h1'.2.symm)⟩
theorem msk_f {x c i : Nat} (h : σ.2.2.2 x = 0) : (msk K σ T).1 c x i = T.1 c x i ∧ (msk K σ T).2.1 c x i = T.2.1 c x i := ⟨if_pos (Or.inr h), if_pos (Or.inr h)⟩
def KT : List Nat := [180003, 120003, 150006, 30406, 30506, 61106, 130000, 80300, 90100, 90200, 40300, 40400, 30300, 21000, 500000, 502300, 540000, 550000, 610000, 620000, 630000, 640000, 650000, 660000, 670000, 680000, 690000, 700000, 710000, 570000, 580000, 770000]
def KPc : List Nat := [180003, 40300, 40400, 21000, 570000, 580000, 770000, 500000, 502300, 30300, 30406, 30506, 61106]
def KQc : List Nat := [120003, 130000, 80300, 540000, 550000, 150006, 90100, 90200, 610000, 620000, 630000, 640000, 650000, 660000, 670000, 680000, 690000, 700000, 710000, 500000, 502300, 30300, 30406, 30506, 61106]
def M2 : List Nat := [120003, 130000, 80300, 540000, 550000]
def M3 : List Nat := [120003, 130000, 80300, 540000, 550000, 180003, 40300, 40400, 570000, 580000]
def M4 : List Nat := [120003, 130000, 80300, 540000, 550000, 180003, 40300, 40400, 570000, 580000, 21000, 770000]
def gD (g : Gh) (p : Nat) (L : List Nat) : Gh := (Gh.mk g.x g.a0 g.m g.D g.A g.N g.B g.Q g.L1 (upL g.L2 p L) g.L3 g.lv)
/-- one open call less -/
theorem out_pop {p m r : Nat} {L : List Nat} (hp : p < 4) (h0 : g.L2 p = L ++ [m]) : outN g σ r = outN (gD g p L) σ r + if oM σ r (g.lv r) m = true then 1 else 0 := by
  have hP : ∀ r', outP g σ r r' = outP (gD g p L) σ r r' + if r' = p ∧ oM σ r (g.lv r) m = true then 1 else 0 := by
    intro r'
    unfold outP
    by_cases e : r' = p
    · subst e
      rw [show (gD g r' L).L2 r' = L from upL_s, h0, countP_app]
      show _ = (g.L1 r').countP (oW σ r (g.lv r)) + L.countP (oM σ r (g.lv r)) + _
      by_cases z : oM σ r (g.lv r) m = true
      · rw [if_pos z, if_pos ⟨rfl, z⟩]; omega
      · rw [if_neg z, if_neg (fun y => z y.2)]; omega
    · rw [show (gD g p L).L2 r' = g.L2 r' from upL_n e, if_neg (fun y => e y.1)]
      rfl
  have hs : ((if 0 = p ∧ oM σ r (g.lv r) m = true then 1 else 0) + (if 1 = p ∧ oM σ r (g.lv r) m = true then 1 else 0) + (if 2 = p ∧ oM σ r (g.lv r) m = true then 1 else 0) + (if 3 = p ∧ oM σ r (g.lv r) m = true then 1 else 0) : Nat) = if oM σ r (g.lv r) m = true then 1 else 0 := by
    by_cases z : oM σ r (g.lv r) m = true
    · have : p = 0 ∨ p = 1 ∨ p = 2 ∨ p = 3 := by omega
      rcases this with rfl | rfl | rfl | rfl <;> simp [z]
    · simp [z]
  unfold outN
  rw [hP 0, hP 1, hP 2, hP 3]
  show _ = _ + (g.L1 r).countP (rW σ) + _
  omega
theorem RR.popO {p m : Nat} {L : List Nat} (R : RR E g n σ) (hp : p < 4) (ha : al g σ p) (h0 : g.L2 p = L ++ [m]) (F : Fr KO2 J σ σ2) (hJ : J 3 = false) (FP : ∀ r, r ≠ p → FrP g r KO1 J σ σ2) (hw' : WF σ2) (hfe' : σ2.2.2.2 (fe E) = 0) (l2 : ∃ AR, LLx E 21 42 6 (fun p => g.D p 13) (upL g.L2 p L) AR σ2)
    (e5 : σ2.1 740000 (g.A 23) p = nI L.length) (e6 : ∀ i, i < L.length → σ2.1 750000 (g.A 24) (12 * p + i) = σ.1 750000 (g.A 24) (12 * p + i) ∧ σ2.1 760000 (g.A 25) (12 * p + i) = σ.1 760000 (g.A 25) (12 * p + i)) : RR E (gD g p L) n σ2 := by
  have l1' : ∃ AR, LLx E 20 41 5 (fun p => g.D p 12) g.L1 AR σ2 := by obtain ⟨A, h⟩ := R.s.l1; exact ⟨A, h.fr F hfe' (by decide) (by decide) (by decide)⟩
  have l3' : ∃ AR, LLx E 22 43 7 (fun p => g.D p 14) g.L3 AR σ2 := by obtain ⟨A, h⟩ := R.s.l3; exact ⟨A, h.fr F hfe' (by decide) (by decide) (by decide)⟩
  have s' : RS E (gD g p L) σ2 := R.s.fr F hw' (by decide) (by decide) (by decide) rfl rfl rfl rfl rfl l1' l2 l3'
  have o' : ∀ r, r < 4 → RO (gD g p L) r σ2 := by
    intro r hr
    by_cases e : r = p
    · subst e
      have eL : (gD g r L).L2 r = L := upL_s
      obtain ⟨h1, h3, h4, h5⟩ := R.o r hr
      rw [h0] at h1 h3 h4
      rw [List.length_append] at h4
      refine ⟨fun i x hi => ?_, ?_, ?_, fun z => absurd ((al.fr R.s F (by decide) r).mpr ha) z⟩
      · rw [eL] at hi
        show ∃ s l, σ2.1 60100 x 0 = nI s ∧ s < 4 ∧ σ2.1 60200 x 0 = nI l ∧ l ≤ g.lv s ∧ σ2.1 750000 (g.A 24) (12 * r + i) = nI s ∧ σ2.1 760000 (g.A 25) (12 * r + i) = nI l
        have hil := (List.getElem?_eq_some_iff.mp hi).1
        have hj : (L ++ [m])[i]? = some x := by rw [List.getElem?_append_left hil]; exact hi
        have hx := R.s.k2 hr (h0 ▸ hj)
        rw [((F.at g r).o R.s hx (by decide) (by decide) (by decide)).1, ((F.at g r).o R.s hx (by decide) (by decide) (by decide)).1, (e6 i hil).1, (e6 i hil).2]
        exact h1 i x hj
      · rw [eL]; exact e5
      · rw [eL]; omega
    · have h := (R.o r hr).fr hr R.s (FP r e) (by decide)
      unfold RO at h ⊢
      rw [show (gD g p L).L2 r = g.L2 r from upL_n e]; exact h
  have c' : RC (gD g p L) σ2 := by
    intro r hr har
    have har' := (al.fr R.s F (by decide) r).mp har
    show outN (gD g p L) σ2 r ≤ if σ2.1 770000 (g.A 26) r = 0 then 0 else 1
    rw [(F.2.2 _ _ _ (R.s.kA (by decide)) (by decide)).1]
    refine Nat.le_trans ?_ (R.c r hr har')
    rw [← outN.fr R.s (F.at g r) (by decide) hr, out_pop hp h0]
    omega
  exact
  RR.mk
    (s := s')
    (p := (show RP g n σ2 from R.p.fr R.s F (by decide)))
    (no := (show RNo g σ2 from R.no.fr R.s F (by decide) hJ))
    (mg := (show RMg g σ2 from R.mg.fr R.s F (by decide)))
    (h := fun p hp => (show RH g n p σ2 from (R.h p hp).fr hp R.s (F.at _ p) (by decide)))
    (d := fun p hp => (show RD g p σ2 from (R.d p hp).fr hp R.s (F.at _ p) (by decide)))
    (o := o')
    (v := fun p hp => (show RV g p σ2 from (R.v p hp).fr hp R.s (F.at _ p) (by decide)))
    (a := fun p hp => (show RA g p σ2 from (R.a p hp).fr hp R.s (F.at _ p) (by decide) (by decide)))
    (l := fun p hp => (show RL g p σ2 from (R.l p hp).fr hp R.s (F.at _ p) (by decide) (by decide)))
    (i := fun p hp => (show RI g p σ2 from (R.i p hp).fr hp R.s (fun c m h1 h2 _ => RBn.of R.a p c m hp h1 h2) (F.at _ p) (by decide)))
    (q := (show RQ g σ2 from R.q.fr R.s (RBn.of R.a) F (by decide) (by decide) hJ))
    (c := c')
    (b := (show RB g σ2 from R.b.fr R.s F (by decide) (by decide)))
    (t := by obtain ⟨T9, t1, t2⟩ := R.t; exact ⟨T9, by show σ2.1 502300 g.m 0 = _; rw [(F.2.2 _ _ _ R.s.km (by decide)).1]; exact t1, t2⟩)
def M5 : Nat → Bool := fun c => M4.contains c || KO2 c
def J6 : Nat → Bool := fun j => j == 6 || j == 31 || j == 32 || j == 33
/-- the state with a message posted, as far as what p sends to q -/
def TP (E : FE) (g : Gh) (n p q m c k it L Tk a1 a2 a3 : Nat) (v st : Int32) (σ T : Sg) : Prop := (σ.2.2.2 m = 0) ∧ (σ.2.2.2 a1 = 0) ∧ (σ.2.2.2 a2 = 0) ∧ (σ.2.2.2 a3 = 0) ∧ (Fr (fun c => KT.contains c || KO2 c) (fun j => J6 j || j == 42) σ T) ∧ (∀ r, r ≠ q → FrP g r (fun c => KPc.contains c || KO2 c) (fun j => J6 j || j == 42) σ T) ∧ (∀ r, r ≠ p → FrP g r (fun c => KQc.contains c || KO1 c) (fun j => J6 j || j == 42) σ T) ∧ (WF T) ∧ (T.2.2.2 (fe E) = 0) ∧ (T.2.2.2 m = 6) ∧ (HandR q (T.2.1 120003 (g.D q 3)) (T.1 130000 (g.D q 4)) (T.1 140000 (g.D q 5)) g.N (T.1 540000 (g.A 3)) (T.1 550000 (g.A 4)) (T.1 560000 (g.A 5)) (4 * (n + 1))) ∧ (T.1 80300 (g.D q 2) 0 = nI (sumR (hcnt (T.2.1 120003 (g.D q 3))) 15 1)) ∧ (T.1 40300 (g.D p 8) 0 = 0) ∧ (T.1 40400 (g.D p 8) 0 = 0) ∧ (T.1 570000 (g.A 6) p = 0) ∧ (T.1 580000 (g.A 7) p = 0) ∧ (T.1 21000 (g.D p 0) 0 = v) ∧ (T.1 770000 (g.A 26) p = v) ∧ (v = 1 ∨ v = σ.1 770000 (g.A 26) p) ∧ (c + L ≤ 64) ∧ (1 ≤ L) ∧ (∀ c', c ≤ c' → c' < c + L → σ.2.1 150006 (g.D q 7) c' = none) ∧ (∀ c' m' l', c' < c → σ.2.1 150006 (g.D q 7) c' = some m' → σ.1 60400 m' 0 = nI l' → l' ≤ 64 → c' + l' ≤ c) ∧ (64 * q ≤ g.B m) ∧ (g.B m < 64 * q + 64) ∧ (σ.1 610000 (g.A 10) (g.B m) ≤ 0) ∧ (1 ≤ k) ∧ (k ≤ 3) ∧ (T.1 60000 m 0 = nI k) ∧ (T.1 60100 m 0 = nI p) ∧ (T.1 60200 m 0 = nI (g.lv p)) ∧ (k = 3 ↔ T.2.1 60303 m 0 = none) ∧ (∀ a, T.2.1 60303 m 0 = some a → σ.2.2.2 a = 3 ∧ σ.1 30200 a 0 = 0 ∧ σ.1 30000 a 0 = nI q) ∧ (T.1 60400 m 0 = nI L) ∧ (T.1 60500 m 0 = nI it) ∧ (it ≤ 4) ∧ (T.2.1 60631 m 0 = some a1) ∧ (T.2.1 60732 m 0 = some a2) ∧ (T.2.1 60833 m 0 = some a3) ∧ (T.1 319900 a1 0 = nI it) ∧ (T.1 329900 a2 0 = nI it) ∧ (T.1 339900 a3 0 = nI it) ∧ (T.1 60900 m 0 = nI c) ∧ (T.1 61000 m 0 = 0) ∧ (T.2.1 150006 (g.D q 7) c = some m) ∧ (∀ c', c' ≠ c → T.2.1 150006 (g.D q 7) c' = σ.2.1 150006 (g.D q 7) c') ∧ (st = 1 ∨ st = 2) ∧ (T.1 610000 (g.A 10) (g.B m) = st) ∧ (T.1 620000 (g.A 11) (g.B m) = nI c) ∧ (T.1 630000 (g.A 12) (g.B m) = nI L) ∧ (T.1 640000 (g.A 13) (g.B m) = if k = 2 then 1 else 0) ∧ (NR g.N (T.2.1 60303 m 0) (T.1 650000 (g.A 14) (g.B m))) ∧ (T.1 660000 (g.A 15) (g.B m) = nI p) ∧ (T.1 670000 (g.A 16) (g.B m) = nI Tk) ∧ (T.1 680000 (g.A 17) (g.B m) = nI it) ∧ (∀ i, i < it → T.1 310000 a1 i = T.1 690000 (g.A 18) (4 * g.B m + i) ∧ T.1 320000 a2 i = T.1 700000 (g.A 19) (4 * g.B m + i) ∧ NR g.N (T.2.1 330003 a3 i) (T.1 710000 (g.A 20) (4 * g.B m + i))) ∧ (∀ b, b ≠ g.B m → T.1 610000 (g.A 10) b = σ.1 610000 (g.A 10) b ∧ T.1 620000 (g.A 11) b = σ.1 620000 (g.A 11) b ∧ T.1 630000 (g.A 12) b = σ.1 630000 (g.A 12) b ∧ T.1 640000 (g.A 13) b = σ.1 640000 (g.A 13) b ∧ T.1 650000 (g.A 14) b = σ.1 650000 (g.A 14) b ∧ T.1 660000 (g.A 15) b = σ.1 660000 (g.A 15) b ∧ T.1 670000 (g.A 16) b = σ.1 670000 (g.A 16) b ∧ T.1 680000 (g.A 17) b = σ.1 680000 (g.A 17) b) ∧ (∀ b i, b ≠ g.B m → i < 4 → T.1 690000 (g.A 18) (4 * b + i) = σ.1 690000 (g.A 18) (4 * b + i) ∧ T.1 700000 (g.A 19) (4 * b + i) = σ.1 700000 (g.A 19) (4 * b + i) ∧ T.1 710000 (g.A 20) (4 * b + i) = σ.1 710000 (g.A 20) (4 * b + i)) ∧ (σ.1 502300 g.m 0 = nI Tk) ∧ (T.1 502300 g.m 0 = nI (Tk + 1)) ∧ (T.1 90100 (g.D q 6) 0 = σ.1 90100 (g.D q 6) 0 + nI L) ∧ (T.1 90200 (g.D q 6) 0 = if k = 2 then σ.1 90200 (g.D q 6) 0 + nI L else σ.1 90200 (g.D q 6) 0) ∧ (k = 2 → ∀ u, σ.1 90200 (g.D q 6) 0 = nI u → u ≤ 32 → u + L ≤ 32)
theorem TP.z0 {E : FE} {g : Gh} {n p q m c k it L Tk a1 a2 a3 : Nat} {v st : Int32} {σ T : Sg} (h9 : TP E g n p q m c k it L Tk a1 a2 a3 v st σ T) : σ.2.2.2 m = 0 := h9.1
theorem TP.z1 {E : FE} {g : Gh} {n p q m c k it L Tk a1 a2 a3 : Nat} {v st : Int32} {σ T : Sg} (h9 : TP E g n p q m c k it L Tk a1 a2 a3 v st σ T) : σ.2.2.2 a1 = 0 := h9.2.1
theorem TP.z2 {E : FE} {g : Gh} {n p q m c k it L Tk a1 a2 a3 : Nat} {v st : Int32} {σ T : Sg} (h9 : TP E g n p q m c k it L Tk a1 a2 a3 v st σ T) : σ.2.2.2 a2 = 0 := h9.2.2.1
theorem TP.z3 {E : FE} {g : Gh} {n p q m c k it L Tk a1 a2 a3 : Nat} {v st : Int32} {σ T : Sg} (h9 : TP E g n p q m c k it L Tk a1 a2 a3 v st σ T) : σ.2.2.2 a3 = 0 := h9.2.2.2.1
theorem TP.F {E : FE} {g : Gh} {n p q m c k it L Tk a1 a2 a3 : Nat} {v st : Int32} {σ T : Sg} (h9 : TP E g n p q m c k it L Tk a1 a2 a3 v st σ T) : Fr (fun c => KT.contains c || KO2 c) (fun j => J6 j || j == 42) σ T := h9.2.2.2.2.1
theorem TP.FQ {E : FE} {g : Gh} {n p q m c k it L Tk a1 a2 a3 : Nat} {v st : Int32} {σ T : Sg} (h9 : TP E g n p q m c k it L Tk a1 a2 a3 v st σ T) : ∀ r, r ≠ q → FrP g r (fun c => KPc.contains c || KO2 c) (fun j => J6 j || j == 42) σ T := h9.2.2.2.2.2.1
theorem TP.FP {E : FE} {g : Gh} {n p q m c k it L Tk a1 a2 a3 : Nat} {v st : Int32} {σ T : Sg} (h9 : TP E g n p q m c k it L Tk a1 a2 a3 v st σ T) : ∀ r, r ≠ p → FrP g r (fun c => KQc.contains c || KO1 c) (fun j => J6 j || j == 42) σ T := h9.2.2.2.2.2.2.1
theorem TP.wf {E : FE} {g : Gh} {n p q m c k it L Tk a1 a2 a3 : Nat} {v st : Int32} {σ T : Sg} (h9 : TP E g n p q m c k it L Tk a1 a2 a3 v st σ T) : WF T := h9.2.2.2.2.2.2.2.1
theorem TP.fe0 {E : FE} {g : Gh} {n p q m c k it L Tk a1 a2 a3 : Nat} {v st : Int32} {σ T : Sg} (h9 : TP E g n p q m c k it L Tk a1 a2 a3 v st σ T) : T.2.2.2 (fe E) = 0 := h9.2.2.2.2.2.2.2.2.1
theorem TP.m6 {E : FE} {g : Gh} {n p q m c k it L Tk a1 a2 a3 : Nat} {v st : Int32} {σ T : Sg} (h9 : TP E g n p q m c k it L Tk a1 a2 a3 v st σ T) : T.2.2.2 m = 6 := h9.2.2.2.2.2.2.2.2.2.1
theorem TP.h1 {E : FE} {g : Gh} {n p q m c k it L Tk a1 a2 a3 : Nat} {v st : Int32} {σ T : Sg} (h9 : TP E g n p q m c k it L Tk a1 a2 a3 v st σ T) : HandR q (T.2.1 120003 (g.D q 3)) (T.1 130000 (g.D q 4)) (T.1 140000 (g.D q 5)) g.N (T.1 540000 (g.A 3)) (T.1 550000 (g.A 4)) (T.1 560000 (g.A 5)) (4 * (n + 1)) := h9.2.2.2.2.2.2.2.2.2.2.1
theorem TP.h2 {E : FE} {g : Gh} {n p q m c k it L Tk a1 a2 a3 : Nat} {v st : Int32} {σ T : Sg} (h9 : TP E g n p q m c k it L Tk a1 a2 a3 v st σ T) : T.1 80300 (g.D q 2) 0 = nI (sumR (hcnt (T.2.1 120003 (g.D q 3))) 15 1) := h9.2.2.2.2.2.2.2.2.2.2.2.1
theorem TP.d1 {E : FE} {g : Gh} {n p q m c k it L Tk a1 a2 a3 : Nat} {v st : Int32} {σ T : Sg} (h9 : TP E g n p q m c k it L Tk a1 a2 a3 v st σ T) : T.1 40300 (g.D p 8) 0 = 0 := h9.2.2.2.2.2.2.2.2.2.2.2.2.1
theorem TP.d2 {E : FE} {g : Gh} {n p q m c k it L Tk a1 a2 a3 : Nat} {v st : Int32} {σ T : Sg} (h9 : TP E g n p q m c k it L Tk a1 a2 a3 v st σ T) : T.1 40400 (g.D p 8) 0 = 0 := h9.2.2.2.2.2.2.2.2.2.2.2.2.2.1
theorem TP.d3 {E : FE} {g : Gh} {n p q m c k it L Tk a1 a2 a3 : Nat} {v st : Int32} {σ T : Sg} (h9 : TP E g n p q m c k it L Tk a1 a2 a3 v st σ T) : T.1 570000 (g.A 6) p = 0 := h9.2.2.2.2.2.2.2.2.2.2.2.2.2.2.1
theorem TP.d4 {E : FE} {g : Gh} {n p q m c k it L Tk a1 a2 a3 : Nat} {v st : Int32} {σ T : Sg} (h9 : TP E g n p q m c k it L Tk a1 a2 a3 v st σ T) : T.1 580000 (g.A 7) p = 0 := h9.2.2.2.2.2.2.2.2.2.2.2.2.2.2.2.1
theorem TP.v1 {E : FE} {g : Gh} {n p q m c k it L Tk a1 a2 a3 : Nat} {v st : Int32} {σ T : Sg} (h9 : TP E g n p q m c k it L Tk a1 a2 a3 v st σ T) : T.1 21000 (g.D p 0) 0 = v := h9.2.2.2.2.2.2.2.2.2.2.2.2.2.2.2.2.1
theorem TP.v2 {E : FE} {g : Gh} {n p q m c k it L Tk a1 a2 a3 : Nat} {v st : Int32} {σ T : Sg} (h9 : TP E g n p q m c k it L Tk a1 a2 a3 v st σ T) : T.1 770000 (g.A 26) p = v := h9.2.2.2.2.2.2.2.2.2.2.2.2.2.2.2.2.2.1
theorem TP.v3 {E : FE} {g : Gh} {n p q m c k it L Tk a1 a2 a3 : Nat} {v st : Int32} {σ T : Sg} (h9 : TP E g n p q m c k it L Tk a1 a2 a3 v st σ T) : v = 1 ∨ v = σ.1 770000 (g.A 26) p := h9.2.2.2.2.2.2.2.2.2.2.2.2.2.2.2.2.2.2.1
theorem TP.c64 {E : FE} {g : Gh} {n p q m c k it L Tk a1 a2 a3 : Nat} {v st : Int32} {σ T : Sg} (h9 : TP E g n p q m c k it L Tk a1 a2 a3 v st σ T) : c + L ≤ 64 := h9.2.2.2.2.2.2.2.2.2.2.2.2.2.2.2.2.2.2.2.1
theorem TP.L1 {E : FE} {g : Gh} {n p q m c k it L Tk a1 a2 a3 : Nat} {v st : Int32} {σ T : Sg} (h9 : TP E g n p q m c k it L Tk a1 a2 a3 v st σ T) : 1 ≤ L := h9.2.2.2.2.2.2.2.2.2.2.2.2.2.2.2.2.2.2.2.2.1
theorem TP.fr {E : FE} {g : Gh} {n p q m c k it L Tk a1 a2 a3 : Nat} {v st : Int32} {σ T : Sg} (h9 : TP E g n p q m c k it L Tk a1 a2 a3 v st σ T) : ∀ c', c ≤ c' → c' < c + L → σ.2.1 150006 (g.D q 7) c' = none := h9.2.2.2.2.2.2.2.2.2.2.2.2.2.2.2.2.2.2.2.2.2.1
theorem TP.cv {E : FE} {g : Gh} {n p q m c k it L Tk a1 a2 a3 : Nat} {v st : Int32} {σ T : Sg} (h9 : TP E g n p q m c k it L Tk a1 a2 a3 v st σ T) : ∀ c' m' l', c' < c → σ.2.1 150006 (g.D q 7) c' = some m' → σ.1 60400 m' 0 = nI l' → l' ≤ 64 → c' + l' ≤ c := h9.2.2.2.2.2.2.2.2.2.2.2.2.2.2.2.2.2.2.2.2.2.2.1
theorem TP.b1 {E : FE} {g : Gh} {n p q m c k it L Tk a1 a2 a3 : Nat} {v st : Int32} {σ T : Sg} (h9 : TP E g n p q m c k it L Tk a1 a2 a3 v st σ T) : 64 * q ≤ g.B m := h9.2.2.2.2.2.2.2.2.2.2.2.2.2.2.2.2.2.2.2.2.2.2.2.1
theorem TP.b2 {E : FE} {g : Gh} {n p q m c k it L Tk a1 a2 a3 : Nat} {v st : Int32} {σ T : Sg} (h9 : TP E g n p q m c k it L Tk a1 a2 a3 v st σ T) : g.B m < 64 * q + 64 := h9.2.2.2.2.2.2.2.2.2.2.2.2.2.2.2.2.2.2.2.2.2.2.2.2.1
theorem TP.b0 {E : FE} {g : Gh} {n p q m c k it L Tk a1 a2 a3 : Nat} {v st : Int32} {σ T : Sg} (h9 : TP E g n p q m c k it L Tk a1 a2 a3 v st σ T) : σ.1 610000 (g.A 10) (g.B m) ≤ 0 := h9.2.2.2.2.2.2.2.2.2.2.2.2.2.2.2.2.2.2.2.2.2.2.2.2.2.1
theorem TP.k0 {E : FE} {g : Gh} {n p q m c k it L Tk a1 a2 a3 : Nat} {v st : Int32} {σ T : Sg} (h9 : TP E g n p q m c k it L Tk a1 a2 a3 v st σ T) : 1 ≤ k := h9.2.2.2.2.2.2.2.2.2.2.2.2.2.2.2.2.2.2.2.2.2.2.2.2.2.2.1
theorem TP.k3 {E : FE} {g : Gh} {n p q m c k it L Tk a1 a2 a3 : Nat} {v st : Int32} {σ T : Sg} (h9 : TP E g n p q m c k it L Tk a1 a2 a3 v st σ T) : k ≤ 3 := h9.2.2.2.2.2.2.2.2.2.2.2.2.2.2.2.2.2.2.2.2.2.2.2.2.2.2.2.1
theorem TP.f0 {E : FE} {g : Gh} {n p q m c k it L Tk a1 a2 a3 : Nat} {v st : Int32} {σ T : Sg} (h9 : TP E g n p q m c k it L Tk a1 a2 a3 v st σ T) : T.1 60000 m 0 = nI k := h9.2.2.2.2.2.2.2.2.2.2.2.2.2.2.2.2.2.2.2.2.2.2.2.2.2.2.2.2.1
theorem TP.f1 {E : FE} {g : Gh} {n p q m c k it L Tk a1 a2 a3 : Nat} {v st : Int32} {σ T : Sg} (h9 : TP E g n p q m c k it L Tk a1 a2 a3 v st σ T) : T.1 60100 m 0 = nI p := h9.2.2.2.2.2.2.2.2.2.2.2.2.2.2.2.2.2.2.2.2.2.2.2.2.2.2.2.2.2.1
theorem TP.f2 {E : FE} {g : Gh} {n p q m c k it L Tk a1 a2 a3 : Nat} {v st : Int32} {σ T : Sg} (h9 : TP E g n p q m c k it L Tk a1 a2 a3 v st σ T) : T.1 60200 m 0 = nI (g.lv p) := h9.2.2.2.2.2.2.2.2.2.2.2.2.2.2.2.2.2.2.2.2.2.2.2.2.2.2.2.2.2.2.1
theorem TP.f3 {E : FE} {g : Gh} {n p q m c k it L Tk a1 a2 a3 : Nat} {v st : Int32} {σ T : Sg} (h9 : TP E g n p q m c k it L Tk a1 a2 a3 v st σ T) : k = 3 ↔ T.2.1 60303 m 0 = none := h9.2.2.2.2.2.2.2.2.2.2.2.2.2.2.2.2.2.2.2.2.2.2.2.2.2.2.2.2.2.2.2.1
theorem TP.f3a {E : FE} {g : Gh} {n p q m c k it L Tk a1 a2 a3 : Nat} {v st : Int32} {σ T : Sg} (h9 : TP E g n p q m c k it L Tk a1 a2 a3 v st σ T) : ∀ a, T.2.1 60303 m 0 = some a → σ.2.2.2 a = 3 ∧ σ.1 30200 a 0 = 0 ∧ σ.1 30000 a 0 = nI q := h9.2.2.2.2.2.2.2.2.2.2.2.2.2.2.2.2.2.2.2.2.2.2.2.2.2.2.2.2.2.2.2.2.1
theorem TP.f4 {E : FE} {g : Gh} {n p q m c k it L Tk a1 a2 a3 : Nat} {v st : Int32} {σ T : Sg} (h9 : TP E g n p q m c k it L Tk a1 a2 a3 v st σ T) : T.1 60400 m 0 = nI L := h9.2.2.2.2.2.2.2.2.2.2.2.2.2.2.2.2.2.2.2.2.2.2.2.2.2.2.2.2.2.2.2.2.2.1
theorem TP.f5 {E : FE} {g : Gh} {n p q m c k it L Tk a1 a2 a3 : Nat} {v st : Int32} {σ T : Sg} (h9 : TP E g n p q m c k it L Tk a1 a2 a3 v st σ T) : T.1 60500 m 0 = nI it := h9.2.2.2.2.2.2.2.2.2.2.2.2.2.2.2.2.2.2.2.2.2.2.2.2.2.2.2.2.2.2.2.2.2.2.1
theorem TP.i4 {E : FE} {g : Gh} {n p q m c k it L Tk a1 a2 a3 : Nat} {v st : Int32} {σ T : Sg} (h9 : TP E g n p q m c k it L Tk a1 a2 a3 v st σ T) : it ≤ 4 := h9.2.2.2.2.2.2.2.2.2.2.2.2.2.2.2.2.2.2.2.2.2.2.2.2.2.2.2.2.2.2.2.2.2.2.2.1
theorem TP.f6 {E : FE} {g : Gh} {n p q m c k it L Tk a1 a2 a3 : Nat} {v st : Int32} {σ T : Sg} (h9 : TP E g n p q m c k it L Tk a1 a2 a3 v st σ T) : T.2.1 60631 m 0 = some a1 := h9.2.2.2.2.2.2.2.2.2.2.2.2.2.2.2.2.2.2.2.2.2.2.2.2.2.2.2.2.2.2.2.2.2.2.2.2.1
theorem TP.f7 {E : FE} {g : Gh} {n p q m c k it L Tk a1 a2 a3 : Nat} {v st : Int32} {σ T : Sg} (h9 : TP E g n p q m c k it L Tk a1 a2 a3 v st σ T) : T.2.1 60732 m 0 = some a2 := h9.2.2.2.2.2.2.2.2.2.2.2.2.2.2.2.2.2.2.2.2.2.2.2.2.2.2.2.2.2.2.2.2.2.2.2.2.2.1
theorem TP.f8 {E : FE} {g : Gh} {n p q m c k it L Tk a1 a2 a3 : Nat} {v st : Int32} {σ T : Sg} (h9 : TP E g n p q m c k it L Tk a1 a2 a3 v st σ T) : T.2.1 60833 m 0 = some a3 := h9.2.2.2.2.2.2.2.2.2.2.2.2.2.2.2.2.2.2.2.2.2.2.2.2.2.2.2.2.2.2.2.2.2.2.2.2.2.2.1
theorem TP.f6l {E : FE} {g : Gh} {n p q m c k it L Tk a1 a2 a3 : Nat} {v st : Int32} {σ T : Sg} (h9 : TP E g n p q m c k it L Tk a1 a2 a3 v st σ T) : T.1 319900 a1 0 = nI it := h9.2.2.2.2.2.2.2.2.2.2.2.2.2.2.2.2.2.2.2.2.2.2.2.2.2.2.2.2.2.2.2.2.2.2.2.2.2.2.2.1
theorem TP.f7l {E : FE} {g : Gh} {n p q m c k it L Tk a1 a2 a3 : Nat} {v st : Int32} {σ T : Sg} (h9 : TP E g n p q m c k it L Tk a1 a2 a3 v st σ T) : T.1 329900 a2 0 = nI it := h9.2.2.2.2.2.2.2.2.2.2.2.2.2.2.2.2.2.2.2.2.2.2.2.2.2.2.2.2.2.2.2.2.2.2.2.2.2.2.2.2.1
theorem TP.f8l {E : FE} {g : Gh} {n p q m c k it L Tk a1 a2 a3 : Nat} {v st : Int32} {σ T : Sg} (h9 : TP E g n p q m c k it L Tk a1 a2 a3 v st σ T) : T.1 339900 a3 0 = nI it := h9.2.2.2.2.2.2.2.2.2.2.2.2.2.2.2.2.2.2.2.2.2.2.2.2.2.2.2.2.2.2.2.2.2.2.2.2.2.2.2.2.2.1
theorem TP.f9 {E : FE} {g : Gh} {n p q m c k it L Tk a1 a2 a3 : Nat} {v st : Int32} {σ T : Sg} (h9 : TP E g n p q m c k it L Tk a1 a2 a3 v st σ T) : T.1 60900 m 0 = nI c := h9.2.2.2.2.2.2.2.2.2.2.2.2.2.2.2.2.2.2.2.2.2.2.2.2.2.2.2.2.2.2.2.2.2.2.2.2.2.2.2.2.2.2.1
theorem TP.f10 {E : FE} {g : Gh} {n p q m c k it L Tk a1 a2 a3 : Nat} {v st : Int32} {σ T : Sg} (h9 : TP E g n p q m c k it L Tk a1 a2 a3 v st σ T) : T.1 61000 m 0 = 0 := h9.2.2.2.2.2.2.2.2.2.2.2.2.2.2.2.2.2.2.2.2.2.2.2.2.2.2.2.2.2.2.2.2.2.2.2.2.2.2.2.2.2.2.2.1
theorem TP.e1 {E : FE} {g : Gh} {n p q m c k it L Tk a1 a2 a3 : Nat} {v st : Int32} {σ T : Sg} (h9 : TP E g n p q m c k it L Tk a1 a2 a3 v st σ T) : T.2.1 150006 (g.D q 7) c = some m := h9.2.2.2.2.2.2.2.2.2.2.2.2.2.2.2.2.2.2.2.2.2.2.2.2.2.2.2.2.2.2.2.2.2.2.2.2.2.2.2.2.2.2.2.2.1
theorem TP.e2 {E : FE} {g : Gh} {n p q m c k it L Tk a1 a2 a3 : Nat} {v st : Int32} {σ T : Sg} (h9 : TP E g n p q m c k it L Tk a1 a2 a3 v st σ T) : ∀ c', c' ≠ c → T.2.1 150006 (g.D q 7) c' = σ.2.1 150006 (g.D q 7) c' := h9.2.2.2.2.2.2.2.2.2.2.2.2.2.2.2.2.2.2.2.2.2.2.2.2.2.2.2.2.2.2.2.2.2.2.2.2.2.2.2.2.2.2.2.2.2.1
theorem TP.st12 {E : FE} {g : Gh} {n p q m c k it L Tk a1 a2 a3 : Nat} {v st : Int32} {σ T : Sg} (h9 : TP E g n p q m c k it L Tk a1 a2 a3 v st σ T) : st = 1 ∨ st = 2 := h9.2.2.2.2.2.2.2.2.2.2.2.2.2.2.2.2.2.2.2.2.2.2.2.2.2.2.2.2.2.2.2.2.2.2.2.2.2.2.2.2.2.2.2.2.2.2.1
theorem TP.r0 {E : FE} {g : Gh} {n p q m c k it L Tk a1 a2 a3 : Nat} {v st : Int32} {σ T : Sg} (h9 : TP E g n p q m c k it L Tk a1 a2 a3 v st σ T) : T.1 610000 (g.A 10) (g.B m) = st := h9.2.2.2.2.2.2.2.2.2.2.2.2.2.2.2.2.2.2.2.2.2.2.2.2.2.2.2.2.2.2.2.2.2.2.2.2.2.2.2.2.2.2.2.2.2.2.2.1
theorem TP.r1 {E : FE} {g : Gh} {n p q m c k it L Tk a1 a2 a3 : Nat} {v st : Int32} {σ T : Sg} (h9 : TP E g n p q m c k it L Tk a1 a2 a3 v st σ T) : T.1 620000 (g.A 11) (g.B m) = nI c := h9.2.2.2.2.2.2.2.2.2.2.2.2.2.2.2.2.2.2.2.2.2.2.2.2.2.2.2.2.2.2.2.2.2.2.2.2.2.2.2.2.2.2.2.2.2.2.2.2.1
theorem TP.r2 {E : FE} {g : Gh} {n p q m c k it L Tk a1 a2 a3 : Nat} {v st : Int32} {σ T : Sg} (h9 : TP E g n p q m c k it L Tk a1 a2 a3 v st σ T) : T.1 630000 (g.A 12) (g.B m) = nI L := h9.2.2.2.2.2.2.2.2.2.2.2.2.2.2.2.2.2.2.2.2.2.2.2.2.2.2.2.2.2.2.2.2.2.2.2.2.2.2.2.2.2.2.2.2.2.2.2.2.2.1
theorem TP.r3 {E : FE} {g : Gh} {n p q m c k it L Tk a1 a2 a3 : Nat} {v st : Int32} {σ T : Sg} (h9 : TP E g n p q m c k it L Tk a1 a2 a3 v st σ T) : T.1 640000 (g.A 13) (g.B m) = if k = 2 then 1 else 0 := h9.2.2.2.2.2.2.2.2.2.2.2.2.2.2.2.2.2.2.2.2.2.2.2.2.2.2.2.2.2.2.2.2.2.2.2.2.2.2.2.2.2.2.2.2.2.2.2.2.2.2.1
theorem TP.r4 {E : FE} {g : Gh} {n p q m c k it L Tk a1 a2 a3 : Nat} {v st : Int32} {σ T : Sg} (h9 : TP E g n p q m c k it L Tk a1 a2 a3 v st σ T) : NR g.N (T.2.1 60303 m 0) (T.1 650000 (g.A 14) (g.B m)) := h9.2.2.2.2.2.2.2.2.2.2.2.2.2.2.2.2.2.2.2.2.2.2.2.2.2.2.2.2.2.2.2.2.2.2.2.2.2.2.2.2.2.2.2.2.2.2.2.2.2.2.2.1
theorem TP.r5 {E : FE} {g : Gh} {n p q m c k it L Tk a1 a2 a3 : Nat} {v st : Int32} {σ T : Sg} (h9 : TP E g n p q m c k it L Tk a1 a2 a3 v st σ T) : T.1 660000 (g.A 15) (g.B m) = nI p := h9.2.2.2.2.2.2.2.2.2.2.2.2.2.2.2.2.2.2.2.2.2.2.2.2.2.2.2.2.2.2.2.2.2.2.2.2.2.2.2.2.2.2.2.2.2.2.2.2.2.2.2.2.1
theorem TP.r6 {E : FE} {g : Gh} {n p q m c k it L Tk a1 a2 a3 : Nat} {v st : Int32} {σ T : Sg} (h9 : TP E g n p q m c k it L Tk a1 a2 a3 v st σ T) : T.1 670000 (g.A 16) (g.B m) = nI Tk := h9.2.2.2.2.2.2.2.2.2.2.2.2.2.2.2.2.2.2.2.2.2.2.2.2.2.2.2.2.2.2.2.2.2.2.2.2.2.2.2.2.2.2.2.2.2.2.2.2.2.2.2.2.2.1
theorem TP.r7 {E : FE} {g : Gh} {n p q m c k it L Tk a1 a2 a3 : Nat} {v st : Int32} {σ T : Sg} (h9 : TP E g n p q m c k it L Tk a1 a2 a3 v st σ T) : T.1 680000 (g.A 17) (g.B m) = nI it := h9.2.2.2.2.2.2.2.2.2.2.2.2.2.2.2.2.2.2.2.2.2.2.2.2.2.2.2.2.2.2.2.2.2.2.2.2.2.2.2.2.2.2.2.2.2.2.2.2.2.2.2.2.2.2.1
theorem TP.r8 {E : FE} {g : Gh} {n p q m c k it L Tk a1 a2 a3 : Nat} {v st : Int32} {σ T : Sg} (h9 : TP E g n p q m c k it L Tk a1 a2 a3 v st σ T) : ∀ i, i < it → T.1 310000 a1 i = T.1 690000 (g.A 18) (4 * g.B m + i) ∧ T.1 320000 a2 i = T.1 700000 (g.A 19) (4 * g.B m + i) ∧ NR g.N (T.2.1 330003 a3 i) (T.1 710000 (g.A 20) (4 * g.B m + i)) := h9.2.2.2.2.2.2.2.2.2.2.2.2.2.2.2.2.2.2.2.2.2.2.2.2.2.2.2.2.2.2.2.2.2.2.2.2.2.2.2.2.2.2.2.2.2.2.2.2.2.2.2.2.2.2.2.1
theorem TP.rn {E : FE} {g : Gh} {n p q m c k it L Tk a1 a2 a3 : Nat} {v st : Int32} {σ T : Sg} (h9 : TP E g n p q m c k it L Tk a1 a2 a3 v st σ T) : ∀ b, b ≠ g.B m → T.1 610000 (g.A 10) b = σ.1 610000 (g.A 10) b ∧ T.1 620000 (g.A 11) b = σ.1 620000 (g.A 11) b ∧ T.1 630000 (g.A 12) b = σ.1 630000 (g.A 12) b ∧ T.1 640000 (g.A 13) b = σ.1 640000 (g.A 13) b ∧ T.1 650000 (g.A 14) b = σ.1 650000 (g.A 14) b ∧ T.1 660000 (g.A 15) b = σ.1 660000 (g.A 15) b ∧ T.1 670000 (g.A 16) b = σ.1 670000 (g.A 16) b ∧ T.1 680000 (g.A 17) b = σ.1 680000 (g.A 17) b := h9.2.2.2.2.2.2.2.2.2.2.2.2.2.2.2.2.2.2.2.2.2.2.2.2.2.2.2.2.2.2.2.2.2.2.2.2.2.2.2.2.2.2.2.2.2.2.2.2.2.2.2.2.2.2.2.2.1
theorem TP.ri {E : FE} {g : Gh} {n p q m c k it L Tk a1 a2 a3 : Nat} {v st : Int32} {σ T : Sg} (h9 : TP E g n p q m c k it L Tk a1 a2 a3 v st σ T) : ∀ b i, b ≠ g.B m → i < 4 → T.1 690000 (g.A 18) (4 * b + i) = σ.1 690000 (g.A 18) (4 * b + i) ∧ T.1 700000 (g.A 19) (4 * b + i) = σ.1 700000 (g.A 19) (4 * b + i) ∧ T.1 710000 (g.A 20) (4 * b + i) = σ.1 710000 (g.A 20) (4 * b + i) := h9.2.2.2.2.2.2.2.2.2.2.2.2.2.2.2.2.2.2.2.2.2.2.2.2.2.2.2.2.2.2.2.2.2.2.2.2.2.2.2.2.2.2.2.2.2.2.2.2.2.2.2.2.2.2.2.2.2.1
theorem TP.t1 {E : FE} {g : Gh} {n p q m c k it L Tk a1 a2 a3 : Nat} {v st : Int32} {σ T : Sg} (h9 : TP E g n p q m c k it L Tk a1 a2 a3 v st σ T) : σ.1 502300 g.m 0 = nI Tk := h9.2.2.2.2.2.2.2.2.2.2.2.2.2.2.2.2.2.2.2.2.2.2.2.2.2.2.2.2.2.2.2.2.2.2.2.2.2.2.2.2.2.2.2.2.2.2.2.2.2.2.2.2.2.2.2.2.2.2.1
theorem TP.t2 {E : FE} {g : Gh} {n p q m c k it L Tk a1 a2 a3 : Nat} {v st : Int32} {σ T : Sg} (h9 : TP E g n p q m c k it L Tk a1 a2 a3 v st σ T) : T.1 502300 g.m 0 = nI (Tk + 1) := h9.2.2.2.2.2.2.2.2.2.2.2.2.2.2.2.2.2.2.2.2.2.2.2.2.2.2.2.2.2.2.2.2.2.2.2.2.2.2.2.2.2.2.2.2.2.2.2.2.2.2.2.2.2.2.2.2.2.2.2.1
theorem TP.u1 {E : FE} {g : Gh} {n p q m c k it L Tk a1 a2 a3 : Nat} {v st : Int32} {σ T : Sg} (h9 : TP E g n p q m c k it L Tk a1 a2 a3 v st σ T) : T.1 90100 (g.D q 6) 0 = σ.1 90100 (g.D q 6) 0 + nI L := h9.2.2.2.2.2.2.2.2.2.2.2.2.2.2.2.2.2.2.2.2.2.2.2.2.2.2.2.2.2.2.2.2.2.2.2.2.2.2.2.2.2.2.2.2.2.2.2.2.2.2.2.2.2.2.2.2.2.2.2.2.1
theorem TP.u2 {E : FE} {g : Gh} {n p q m c k it L Tk a1 a2 a3 : Nat} {v st : Int32} {σ T : Sg} (h9 : TP E g n p q m c k it L Tk a1 a2 a3 v st σ T) : T.1 90200 (g.D q 6) 0 = if k = 2 then σ.1 90200 (g.D q 6) 0 + nI L else σ.1 90200 (g.D q 6) 0 := h9.2.2.2.2.2.2.2.2.2.2.2.2.2.2.2.2.2.2.2.2.2.2.2.2.2.2.2.2.2.2.2.2.2.2.2.2.2.2.2.2.2.2.2.2.2.2.2.2.2.2.2.2.2.2.2.2.2.2.2.2.2.1
theorem TP.u3 {E : FE} {g : Gh} {n p q m c k it L Tk a1 a2 a3 : Nat} {v st : Int32} {σ T : Sg} (h9 : TP E g n p q m c k it L Tk a1 a2 a3 v st σ T) : k = 2 → ∀ u, σ.1 90200 (g.D q 6) 0 = nI u → u ≤ 32 → u + L ≤ 32 := h9.2.2.2.2.2.2.2.2.2.2.2.2.2.2.2.2.2.2.2.2.2.2.2.2.2.2.2.2.2.2.2.2.2.2.2.2.2.2.2.2.2.2.2.2.2.2.2.2.2.2.2.2.2.2.2.2.2.2.2.2.2.2
theorem TP.mk {E : FE} {g : Gh} {n p q m c k it L Tk a1 a2 a3 : Nat} {v st : Int32} {σ T : Sg} (z0 : σ.2.2.2 m = 0) (z1 : σ.2.2.2 a1 = 0) (z2 : σ.2.2.2 a2 = 0) (z3 : σ.2.2.2 a3 = 0) (F : Fr (fun c => KT.contains c || KO2 c) (fun j => J6 j || j == 42) σ T) (FQ : ∀ r, r ≠ q → FrP g r (fun c => KPc.contains c || KO2 c) (fun j => J6 j || j == 42) σ T) (FP : ∀ r, r ≠ p → FrP g r (fun c => KQc.contains c || KO1 c) (fun j => J6 j || j == 42) σ T) (wf : WF T) (fe0 : T.2.2.2 (fe E) = 0) (m6 : T.2.2.2 m = 6) (h1 : HandR q (T.2.1 120003 (g.D q 3)) (T.1 130000 (g.D q 4)) (T.1 140000 (g.D q 5)) g.N (T.1 540000 (g.A 3)) (T.1 550000 (g.A 4)) (T.1 560000 (g.A 5)) (4 * (n + 1))) (h2 : T.1 80300 (g.D q 2) 0 = nI (sumR (hcnt (T.2.1 120003 (g.D q 3))) 15 1)) (d1 : T.1 40300 (g.D p 8) 0 = 0) (d2 : T.1 40400 (g.D p 8) 0 = 0) (d3 : T.1 570000 (g.A 6) p = 0) (d4 : T.1 580000 (g.A 7) p = 0) (v1 : T.1 21000 (g.D p 0) 0 = v) (v2 : T.1 770000 (g.A 26) p = v) (v3 : v = 1 ∨ v = σ.1 770000 (g.A 26) p) (c64 : c + L ≤ 64) (L1 : 1 ≤ L) (fr : ∀ c', c ≤ c' → c' < c + L → σ.2.1 150006 (g.D q 7) c' = none) (cv : ∀ c' m' l', c' < c → σ.2.1 150006 (g.D q 7) c' = some m' → σ.1 60400 m' 0 = nI l' → l' ≤ 64 → c' + l' ≤ c) (b1 : 64 * q ≤ g.B m) (b2 : g.B m < 64 * q + 64) (b0 : σ.1 610000 (g.A 10) (g.B m) ≤ 0) (k0 : 1 ≤ k) (k3 : k ≤ 3) (f0 : T.1 60000 m 0 = nI k) (f1 : T.1 60100 m 0 = nI p) (f2 : T.1 60200 m 0 = nI (g.lv p)) (f3 : k = 3 ↔ T.2.1 60303 m 0 = none) (f3a : ∀ a, T.2.1 60303 m 0 = some a → σ.2.2.2 a = 3 ∧ σ.1 30200 a 0 = 0 ∧ σ.1 30000 a 0 = nI q) (f4 : T.1 60400 m 0 = nI L) (f5 : T.1 60500 m 0 = nI it) (i4 : it ≤ 4) (f6 : T.2.1 60631 m 0 = some a1) (f7 : T.2.1 60732 m 0 = some a2) (f8 : T.2.1 60833 m 0 = some a3) (f6l : T.1 319900 a1 0 = nI it) (f7l : T.1 329900 a2 0 = nI it) (f8l : T.1 339900 a3 0 = nI it) (f9 : T.1 60900 m 0 = nI c) (f10 : T.1 61000 m 0 = 0) (e1 : T.2.1 150006 (g.D q 7) c = some m) (e2 : ∀ c', c' ≠ c → T.2.1 150006 (g.D q 7) c' = σ.2.1 150006 (g.D q 7) c') (st12 : st = 1 ∨ st = 2) (r0 : T.1 610000 (g.A 10) (g.B m) = st) (r1 : T.1 620000 (g.A 11) (g.B m) = nI c) (r2 : T.1 630000 (g.A 12) (g.B m) = nI L) (r3 : T.1 640000 (g.A 13) (g.B m) = if k = 2 then 1 else 0) (r4 : NR g.N (T.2.1 60303 m 0) (T.1 650000 (g.A 14) (g.B m))) (r5 : T.1 660000 (g.A 15) (g.B m) = nI p) (r6 : T.1 670000 (g.A 16) (g.B m) = nI Tk) (r7 : T.1 680000 (g.A 17) (g.B m) = nI it) (r8 : ∀ i, i < it → T.1 310000 a1 i = T.1 690000 (g.A 18) (4 * g.B m + i) ∧ T.1 320000 a2 i = T.1 700000 (g.A 19) (4 * g.B m + i) ∧ NR g.N (T.2.1 330003 a3 i) (T.1 710000 (g.A 20) (4 * g.B m + i))) (rn : ∀ b, b ≠ g.B m → T.1 610000 (g.A 10) b = σ.1 610000 (g.A 10) b ∧ T.1 620000 (g.A 11) b = σ.1 620000 (g.A 11) b ∧ T.1 630000 (g.A 12) b = σ.1 630000 (g.A 12) b ∧ T.1 640000 (g.A 13) b = σ.1 640000 (g.A 13) b ∧ T.1 650000 (g.A 14) b = σ.1 650000 (g.A 14) b ∧ T.1 660000 (g.A 15) b = σ.1 660000 (g.A 15) b ∧ T.1 670000 (g.A 16) b = σ.1 670000 (g.A 16) b ∧ T.1 680000 (g.A 17) b = σ.1 680000 (g.A 17) b) (ri : ∀ b i, b ≠ g.B m → i < 4 → T.1 690000 (g.A 18) (4 * b + i) = σ.1 690000 (g.A 18) (4 * b + i) ∧ T.1 700000 (g.A 19) (4 * b + i) = σ.1 700000 (g.A 19) (4 * b + i) ∧ T.1 710000 (g.A 20) (4 * b + i) = σ.1 710000 (g.A 20) (4 * b + i)) (t1 : σ.1 502300 g.m 0 = nI Tk) (t2 : T.1 502300 g.m 0 = nI (Tk + 1)) (u1 : T.1 90100 (g.D q 6) 0 = σ.1 90100 (g.D q 6) 0 + nI L) (u2 : T.1 90200 (g.D q 6) 0 = if k = 2 then σ.1 90200 (g.D q 6) 0 + nI L else σ.1 90200 (g.D q 6) 0) (u3 : k = 2 → ∀ u, σ.1 90200 (g.D q 6) 0 = nI u → u ≤ 32 → u + L ≤ 32) : TP E g n p q m c k it L Tk a1 a2 a3 v st σ T := ⟨z0, z1, z2, z3, F, FQ, FP, wf, fe0, m6, h1, h2, d1, d2, d3, d4, v1, v2, v3, c64, L1, fr, cv, b1, b2, b0, k0, k3, f0, f1, f2, f3, f3a, f4, f5, i4, f6, f7, f8, f6l, f7l, f8l, f9, f10, e1, e2, st12, r0, r1, r2, r3, r4, r5, r6, r7, r8, rn, ri, t1, t2, u1, u2, u3⟩
section TP1
variable {p q m c k it L Tk a1 a2 a3 : Nat} {v st : Int32}
/-- all but the link -/
theorem TP.r4m (A : TP E g n p q m c k it L Tk a1 a2 a3 v st σ T) (R : RR E g n σ) (hn : n ≤ 512) (hp : p < 4) (ha : al g σ p) (hq : q < 4) (haq : al g σ q) : RR E g (n + 1) (msk (fun c => M4.contains c) σ T) := by
  have kk : ∀ x, σ.2.2.2 x ≠ 0 → T.2.2.2 x = σ.2.2.2 x := A.F.1
  have wfm : ∀ {K}, WF (msk K σ T) := msk_wf kk R.s.wf A.wf
  have R1 : RR E g n (msk (fun c => ([] : List Nat).contains c) σ T) := by
    refine R.same (J := fun j => J6 j || j == 42) ⟨A.F.1, A.F.2.1, fun c x i hx _ => msk_n rfl hx⟩ wfm A.fe0 (by decide)
  have al1 : ∀ {l : List Nat}, l.contains 510000 = false → ∀ r, al g (msk (fun c => l.contains c) σ T) r ↔ al g σ r := fun hl r => by
    unfold al; rw [(msk_n hl (R.s.kA (by decide))).1]
  have R2 : RR E g (n + 1) (msk (fun c => M2.contains c) σ T) := by
    refine R1.frH (msk_l (by decide) (by decide)) wfm (by omega) (fun r hr => ?_)
    by_cases e : r = q
    · subst e
      refine ⟨fun _ => ⟨A.h1.cong (fun h _ _ => ?_), ?_⟩, fun z => absurd ((al1 (by decide) r).mpr haq) z⟩
      · have w14 := A.F.2.2 140000 (g.D r 5) h (R.s.kD hr (by decide)) (by decide)
        have w56 := A.F.2.2 560000 (g.A 5) (16 * r + h) (R.s.kA (by decide)) (by decide)
        exact ⟨(msk_y (by decide)).2, (msk_y (by decide)).1, (msk_n (by decide) (R.s.kD hr (by decide))).1.trans w14.1.symm, (msk_y (by decide)).1, (msk_y (by decide)).1, (msk_n (by decide) (R.s.kA (by decide))).1.trans w56.1.symm⟩
      · rw [(msk_y (by decide)).1, A.h2]
        have := A.h1.cnt (by omega)
        rw [← this]
        refine (hds_cong (fun h _ _ => ?_) 0).symm
        have w56 := A.F.2.2 560000 (g.A 5) (16 * r + h) (R.s.kA (by decide)) (by decide)
        exact ⟨(msk_y (by decide)).1, (msk_n (by decide) (R.s.kA (by decide))).1.trans w56.1.symm⟩
    · refine ((R.h r hr).mono (by omega)).fr (K := fun c => ([] : List Nat).contains c) (J := fun j => J6 j || j == 42) hr R.s ?_ (by decide)
      exact ⟨A.F.1, A.F.2.1, fun c x i hx hc hi => by
        cases e1 : M2.contains c with
        | false => exact msk_n e1 hx
        | true =>
          have hz : (KPc.contains c || KO2 c) = false := by
            have := all_c (l := M2) (P := fun c => !(KPc.contains c || KO2 c)) (by decide) e1
            simpa using this
          have h9 := (A.FQ r e).2.2 c x i hx hz hi
          exact ⟨(msk_y (K := fun c => M2.contains c) e1).1.trans h9.1, (msk_y (K := fun c => M2.contains c) e1).2.trans h9.2⟩⟩
  have R3 : RR E g (n + 1) (msk (fun c => M3.contains c) σ T) := by
    refine R2.frD (msk_l (by decide) (by decide)) wfm (fun r hr => ?_)
    by_cases e : r = p
    · subst e
      refine ⟨0, 0, by omega, by omega, ?_, ?_, fun _ => ⟨?_, ?_, fun i hi => by omega⟩, fun z => absurd ((al1 (by decide) r).mpr ha) z⟩
      · rw [(msk_y (by decide)).1]; exact A.d3
      · rw [(msk_y (by decide)).1]; exact A.d4
      · rw [(msk_y (by decide)).1]; exact A.d1
      · rw [(msk_y (by decide)).1]; exact A.d2
    · refine (R.d r hr).fr (K := fun c => M2.contains c) (J := fun j => J6 j || j == 42) hr R.s ?_ (by decide)
      exact ⟨A.F.1, A.F.2.1, fun c x i hx hc hi => by
        cases e1 : M3.contains c with
        | false => exact msk_n e1 hx
        | true =>
          have hz : (KQc.contains c || KO1 c) = false := by
            have := all_c (l := M3) (P := fun c => M2.contains c || !(KQc.contains c || KO1 c)) (by decide) e1
            have hc' : M2.contains c = false := hc
            rw [hc', Bool.false_or] at this
            simpa using this
          have h9 := (A.FP r e).2.2 c x i hx hz hi
          exact ⟨(msk_y (K := fun c => M3.contains c) e1).1.trans h9.1, (msk_y (K := fun c => M3.contains c) e1).2.trans h9.2⟩⟩
  have hw0 := ((R.l p hp).1 ha).2.2
  have hv : v = 0 ∨ v = 1 := by
    rcases A.v3 with e | e
    · exact Or.inr e
    · rw [e]; exact hw0
  refine R3.wts (v := v) hp (msk_l (by decide) (by decide)) wfm (fun r hr => ?_) ((al1 (by decide) p).mpr ha) hv ?_ ?_ ?_
  · refine msk_lp (l := []) (A.FP r hr) (fun c h1 h2 h3 => ?_) (by decide)
    have := all_c (l := M4) (P := fun c => M3.contains c || !(KQc.contains c || KO1 c)) (by decide) h2
    have h1' : (KQc.contains c || KO1 c) = true := h1
    rw [h3, h1'] at this; cases this
  · rw [(msk_y (by decide)).1]; exact A.v1
  · rw [(msk_y (by decide)).1]; exact A.v2
  · have h9 := R3.c p hp ((al1 (by decide) p).mpr ha)
    rw [(msk_n (by decide) (R.s.kA (by decide))).1] at h9
    rcases A.v3 with e | e
    · rw [e, if_neg (by decide)]
      have : (if σ.1 770000 (g.A 26) p = 0 then 0 else 1 : Nat) ≤ 1 := by split <;> omega
      omega
    · rw [e]; exact h9
/-- the link -/
theorem TP.lnk (A : TP E g n p q m c k it L Tk a1 a2 a3 v st σ T) (R : RR E g n σ) (hp : p < 4) (hq : q < 4) : Lnk g q m c k p (g.lv p) it L Tk a1 a2 a3 st (msk M5 σ T) T := by
  have k6 : ∀ {x k : Nat}, σ.2.2.2 x = k → k ≠ 0 → σ.2.2.2 x ≠ 0 := fun h1 h2 => by rw [h1]; exact h2
  have fm : ∀ {c i}, (msk M5 σ T).1 c m i = T.1 c m i ∧ (msk M5 σ T).2.1 c m i = T.2.1 c m i := msk_f A.z0
  unfold Lnk
  exact ⟨(A.m6),
    (fun r c' hr hc' h => by
      rw [(msk_n (by decide) (R.s.kD hr (by decide))).2] at h
      have := R.s.wf _ _ _ _ h (by decide)
      rw [A.z0] at this; cases this),
    (A.c64),
    (A.L1),
    (fun c' h1 h2 => by rw [(msk_n (by decide) (R.s.kD hq (by decide))).2]; exact A.fr c' h1 h2),
    (fun c' m' l' h1 h2 h3 h4 => by
      rw [(msk_n (by decide) (R.s.kD hq (by decide))).2] at h2
      have hm := R.s.wf _ _ _ _ h2 (by decide)
      rw [(msk_n (by decide) (by rw [hm]; decide)).1] at h3
      exact A.cv c' m' l' h1 h2 h3 h4),
    (A.b1),
    (A.b2),
    ((by rw [(msk_n (by decide) (R.s.kA (by decide))).1]; exact A.b0)),
    (A.k0),
    (A.k3),
    (fm.1.trans A.f0),
    (fm.1.trans A.f1),
    (hp),
    (fm.1.trans A.f2),
    (Nat.le_refl _),
    ((by rw [fm.2]; exact A.f3)),
    (fun a h => by
      rw [fm.2] at h
      obtain ⟨h0, h1, h2⟩ := A.f3a a h
      have hz : σ.2.2.2 a ≠ 0 := by rw [h0]; decide
      rw [(msk_n (by decide) hz).1, (msk_n (by decide) hz).1]; exact ⟨h1, h2⟩),
    (fm.1.trans A.f4),
    (fm.1.trans A.f5),
    (A.i4),
    (fm.2.trans A.f6),
    (fm.2.trans A.f7),
    (fm.2.trans A.f8),
    ((msk_f A.z1).1.trans A.f6l),
    ((msk_f A.z2).1.trans A.f7l),
    ((msk_f A.z3).1.trans A.f8l),
    (fm.1.trans A.f9),
    (fm.1.trans A.f10),
    (msk_t A.F (fun c h1 h2 => by
      have h2' : (M4.contains c || KO2 c) = false := h2
      rw [Bool.or_eq_false_iff] at h2'
      have h1' : (KT.contains c || KO2 c) = true := h1
      rw [h2'.2, Bool.or_false] at h1'
      have := all_c (l := KT) (P := fun c => M4.contains c || KLk.contains c) (by decide) h1'
      rw [h2'.1, Bool.false_or] at this; exact this)),
    (fun r hr => msk_tp (A.FQ r hr) (fun c h1 h2 => by
      have h2' : (M4.contains c || KO2 c) = false := h2
      rw [Bool.or_eq_false_iff] at h2'
      have h1' : (KPc.contains c || KO2 c) = true := h1
      rw [h2'.2, Bool.or_false] at h1'
      have := all_c (l := KPc) (P := fun c => M4.contains c || KLp.contains c) (by decide) h1'
      rw [h2'.1, Bool.false_or] at this; exact this)),
    (A.wf),
    (A.e1),
    (fun c' h => by rw [(msk_n (by decide) (R.s.kD hq (by decide))).2]; exact A.e2 c' h),
    (A.st12),
    (A.r0),
    (A.r1),
    (A.r2),
    (A.r3),
    ((by rw [fm.2]; exact A.r4)),
    (A.r5),
    (A.r6),
    (A.r7),
    (fun i hi => by
      rw [(msk_f A.z1).1, (msk_f A.z2).1, (msk_f A.z3).2]; exact A.r8 i hi),
    (fun b hb => by
      obtain ⟨n1, n2, n3, n4, n5, n6, n7, n8⟩ := A.rn b hb
      exact ⟨n1.trans (msk_n (by decide) (R.s.kA (by decide))).1.symm, n2.trans (msk_n (by decide) (R.s.kA (by decide))).1.symm, n3.trans (msk_n (by decide) (R.s.kA (by decide))).1.symm, n4.trans (msk_n (by decide) (R.s.kA (by decide))).1.symm, n5.trans (msk_n (by decide) (R.s.kA (by decide))).1.symm, n6.trans (msk_n (by decide) (R.s.kA (by decide))).1.symm, n7.trans (msk_n (by decide) (R.s.kA (by decide))).1.symm, n8.trans (msk_n (by decide) (R.s.kA (by decide))).1.symm⟩),
    (fun b i hb hi => by
      obtain ⟨n1, n2, n3⟩ := A.ri b i hb hi
      exact ⟨n1.trans (msk_n (by decide) (R.s.kA (by decide))).1.symm, n2.trans (msk_n (by decide) (R.s.kA (by decide))).1.symm, n3.trans (msk_n (by decide) (R.s.kA (by decide))).1.symm⟩),
    ((by rw [(msk_n (by decide) R.s.km).1]; exact A.t1)),
    (A.t2),
    ((by rw [(msk_n (by decide) (R.s.kD hq (by decide))).1]; exact A.u1)),
    ((by rw [(msk_n (by decide) (R.s.kD hq (by decide))).1]; exact A.u2)),
    (fun h u h1 h2 => by
      rw [(msk_n (by decide) (R.s.kD hq (by decide))).1] at h1; exact A.u3 h u h1 h2)⟩
theorem LLx.cg {k ka tk : Nat} {ad : Nat → Nat} {L : Nat → List Nat} {AR : Nat → Nat} (h : LLx E k ka tk ad L AR σ) (e0 : τ.2.2.2 = σ.2.2.2) (hI : ∀ x i, τ.1 (10000 * k + 200) x i = σ.1 (10000 * k + 200) x i) (hI2 : ∀ x i, τ.1 (10000 * ka + 9900) x i = σ.1 (10000 * ka + 9900) x i) (hO : ∀ x i, τ.2.1 (10000 * k + 100) x i = σ.2.1 (10000 * k + 100) x i) (hO2 : ∀ x i, τ.2.1 (10000 * ka + tk) x i = σ.2.1 (10000 * ka + tk) x i) : LLx E k ka tk ad L AR τ := by
  obtain ⟨h0, h1, h2⟩ := h
  refine ⟨by rw [e0]; exact h0, fun p hp => ?_, h2⟩
  obtain ⟨b1, b2, b3, b4, b5⟩ := h1 p hp
  refine ⟨by rw [e0]; exact b1, by rw [hO]; exact b2, by rw [hI]; exact b3, b4, ?_⟩
  rcases b5 with b5 | ⟨f1, f2, f3, f4, f5⟩
  · exact Or.inl b5
  · have hl : lnK ka τ (AR p) = lnK ka σ (AR p) := by unfold lnK; rw [hI2]
    exact Or.inr ⟨by rw [e0]; exact f1, by rw [hl]; exact f2, by rw [hl]; exact f3, by rw [hl]; exact f4, fun i b hb => by rw [hO2]; exact f5 i b hb⟩
theorem M54 : ∀ c, M4.contains c = true → M5 c = true := fun c h => by
  show (M4.contains c || KO2 c) = true
  rw [h]; rfl
/-- no open call goes -/
theorem TP.r5s (A : TP E g n p q m c k it L Tk a1 a2 a3 v st σ T) (R : RR E g n σ) (R4 : RR E g (n + 1) (msk (fun c => M4.contains c) σ T)) (h : ∀ c x i, KO2 c = true → σ.2.2.2 x ≠ 0 → T.1 c x i = σ.1 c x i ∧ T.2.1 c x i = σ.2.1 c x i) : RR E g (n + 1) (msk M5 σ T) := by
  refine R4.same (J := fun _ => false) ⟨fun _ _ => rfl, fun _ h h2 => absurd h h2, fun c x i _ _ => ?_⟩ (msk_wf A.F.1 R.s.wf A.wf) A.fe0 rfl
  by_cases z : σ.2.2.2 x = 0
  · exact ⟨(msk_f z).1.trans (msk_f z).1.symm, (msk_f z).2.trans (msk_f z).2.symm⟩
  · cases e : M4.contains c with
    | true => exact ⟨(msk_y (M54 c e)).1.trans (msk_y (K := fun c => M4.contains c) e).1.symm, (msk_y (M54 c e)).2.trans (msk_y (K := fun c => M4.contains c) e).2.symm⟩
    | false =>
      have n4 := msk_n (K := fun c => M4.contains c) (σ2 := T) (i := i) e z
      cases e2 : KO2 c with
      | false =>
        have n5 := msk_n (K := M5) (σ2 := T) (c := c) (i := i) (by show (M4.contains c || KO2 c) = false; rw [e, e2]; rfl) z
        exact ⟨n5.1.trans n4.1.symm, n5.2.trans n4.2.symm⟩
      | true =>
        have y5 := msk_y (K := M5) (σ := σ) (σ2 := T) (c := c) (x := x) (i := i) (by show (M4.contains c || KO2 c) = true; rw [e2, Bool.or_true])
        have h9 := h c x i e2 z
        exact ⟨y5.1.trans (h9.1.trans n4.1.symm), y5.2.trans (h9.2.trans n4.2.symm)⟩
/-- the last open call goes -/
theorem TP.r5p {m0 : Nat} {Lp : List Nat} {AR : Nat → Nat} (A : TP E g n p q m c k it L Tk a1 a2 a3 v st σ T) (R : RR E g n σ) (hp : p < 4) (ha : al g σ p) (R4 : RR E g (n + 1) (msk (fun c => M4.contains c) σ T)) (h0 : g.L2 p = Lp ++ [m0]) (hl : LLx E 21 42 6 (fun p => g.D p 13) (upL g.L2 p Lp) AR T)
    (e5 : T.1 740000 (g.A 23) p = nI Lp.length) (e6 : ∀ i, i < Lp.length → T.1 750000 (g.A 24) (12 * p + i) = σ.1 750000 (g.A 24) (12 * p + i) ∧ T.1 760000 (g.A 25) (12 * p + i) = σ.1 760000 (g.A 25) (12 * p + i)) : RR E (gD g p Lp) (n + 1) (msk M5 σ T) := by
  have y5 : ∀ {c x i}, KO2 c = true → (msk M5 σ T).1 c x i = T.1 c x i ∧ (msk M5 σ T).2.1 c x i = T.2.1 c x i := fun {c x i} h => msk_y (K := M5) (by show (M4.contains c || KO2 c) = true; rw [h, Bool.or_true])
  refine R4.popO (J := fun _ => false) hp (by unfold al; rw [(msk_n (by decide) (R.s.kA (by decide))).1]; exact ha) h0 ?_ rfl (fun r hr => ?_) (msk_wf A.F.1 R.s.wf A.wf) A.fe0 ⟨AR, hl.cg rfl (fun _ _ => (y5 (by decide)).1) (fun _ _ => (y5 (by decide)).1) (fun _ _ => (y5 (by decide)).2) (fun _ _ => (y5 (by decide)).2)⟩ ((y5 (by decide)).1.trans e5) (fun i hi => ?_)
  · refine (msk_s (K1 := fun c => M4.contains c) (K2 := M5) (σ := σ) (σ2 := T) M54).weak (fun c hc => ?_) (fun _ h => h)
    show ((M4.contains c || KO2 c) && !M4.contains c) = false
    rw [hc, Bool.or_false]
    cases M4.contains c <;> rfl
  · refine ⟨fun _ _ => rfl, fun _ h h2 => absurd h h2, fun c x i _ hc hi => ?_⟩
    by_cases z : σ.2.2.2 x = 0
    · exact ⟨(msk_f z).1.trans (msk_f z).1.symm, (msk_f z).2.trans (msk_f z).2.symm⟩
    · cases e : M4.contains c with
      | true => exact ⟨(msk_y (M54 c e)).1.trans (msk_y (K := fun c => M4.contains c) e).1.symm, (msk_y (M54 c e)).2.trans (msk_y (K := fun c => M4.contains c) e).2.symm⟩
      | false =>
        have n4 := msk_n (K := fun c => M4.contains c) (σ2 := T) (i := i) e z
        cases e2 : KO2 c with
        | false =>
          have n5 := msk_n (K := M5) (σ2 := T) (c := c) (i := i) (by show (M4.contains c || KO2 c) = false; rw [e, e2]; rfl) z
          exact ⟨n5.1.trans n4.1.symm, n5.2.trans n4.2.symm⟩
        | true =>
          have hq9 : KQc.contains c = false := by
            have hc' : KO1 c = false := hc
            have : c = 750000 ∨ c = 760000 ∨ c = 740000 := by
              unfold KO2 at e2
              unfold KO1 at hc'
              rw [hc', Bool.false_or] at e2
              simpa [Bool.or_assoc, or_assoc] using e2
            rcases this with rfl | rfl | rfl <;> decide
          have h9 := (A.FP r hr).2.2 c x i z (by show (KQc.contains c || KO1 c) = false; rw [hq9, hc]; rfl) hi
          exact ⟨(y5 e2).1.trans (h9.1.trans n4.1.symm), (y5 e2).2.trans (h9.2.trans n4.2.symm)⟩
  · rw [(y5 (by decide)).1, (y5 (by decide)).1, (msk_n (by decide) (R.s.kA (by decide))).1, (msk_n (by decide) (R.s.kA (by decide))).1]
    exact e6 i hi
theorem Lnk.l2 {s l : Nat} {L2' : Nat → List Nat} (A : Lnk g q m c k s l it L Tk a1 a2 a3 st σ T) : Lnk (Gh.mk g.x g.a0 g.m g.D g.A g.N g.B g.Q g.L1 (L2') g.L3 g.lv) q m c k s l it L Tk a1 a2 a3 st σ T := by
  unfold Lnk
  exact ⟨(A.m6),
    (A.un),
    (A.c64),
    (A.L1),
    (A.fr),
    (A.cv),
    (A.b1),
    (A.b2),
    (A.b0),
    (A.k0),
    (A.k3),
    (A.f0),
    (A.f1),
    (A.s4),
    (A.f2),
    (A.ll),
    (A.f3),
    (A.f3a),
    (A.f4),
    (A.f5),
    (A.i4),
    (A.f6),
    (A.f7),
    (A.f8),
    (A.f6l),
    (A.f7l),
    (A.f8l),
    (A.f9),
    (A.f10),
    (A.F),
    (A.FP),
    (A.wf),
    (A.e1),
    (A.e2),
    (A.st12),
    (A.r0),
    (A.r1),
    (A.r2),
    (A.r3),
    (A.r4),
    (A.r5),
    (A.r6),
    (A.r7),
    (A.r8),
    (A.rn),
    (A.ri),
    (A.t1),
    (A.t2),
    (A.u1),
    (A.u2),
    (A.u3)⟩
/-- .. that comes at once -/
theorem TP.rrN (A : TP E g n p q m c k it L Tk a1 a2 a3 v 2 σ T) {L2' : Nat → List Nat} (R : RR E g n σ) (hn : n ≤ 512) (hp : p < 4) (hq : q < 4) (haq : al g σ q) (R5 : RR E (Gh.mk g.x g.a0 g.m g.D g.A g.N g.B g.Q g.L1 (L2') g.L3 g.lv) (n + 1) (msk M5 σ T)) (hT : Tk ≤ n) (hz : ∀ a, k = 2 → T.2.1 60303 m 0 = some a → σ.1 30300 a 0 = 0)
    (e1 : ∀ x, σ.2.2.2 x = 3 → T.2.1 30406 x 0 = σ.2.1 30406 x 0 ∧ T.2.1 30506 x 0 = σ.2.1 30506 x 0 ∧ T.1 30300 x 0 = if k = 2 ∧ T.2.1 60303 m 0 = some x then 1 else σ.1 30300 x 0) (e2 : ∀ m', σ.2.2.2 m' = 6 → T.2.1 61106 m' 0 = σ.2.1 61106 m' 0) : RR E (Gh.mk g.x g.a0 g.m g.D g.A g.N g.B g.Q g.L1 (L2') g.L3 g.lv) (n + 1) T := by
  have A5 : Lnk (Gh.mk g.x g.a0 g.m g.D g.A g.N g.B g.Q g.L1 (L2') g.L3 g.lv) q m c k p (g.lv p) it L Tk a1 a2 a3 2 (msk M5 σ T) T := (show Lnk g q m c k p (g.lv p) it L Tk a1 a2 a3 2 (msk M5 σ T) T from A.lnk R hp hq).l2
  have hk3 : ∀ x, T.2.2.2 x = 3 → σ.2.2.2 x = 3 := fun x h => by
    by_cases z : σ.2.2.2 x = 0
    · have := A.F.2.1 x z (by rw [h]; decide)
      rw [h] at this; cases this
    · rw [← A.F.1 x z]; exact h
  refine R5.linkN (by omega) hq (by show al g (msk M5 σ T) q; unfold al; rw [(msk_n (by decide) (R.s.kA (by decide))).1]; exact haq) A5 (by omega) (fun a k2 h => ?_) (fun x hx => ?_) (fun m' hm' => ?_)
  · rw [(msk_f A.z0).2] at h
    rw [(msk_n (by decide) (by rw [(A.f3a a h).1]; decide)).1]; exact hz a k2 h
  · have x3 := hk3 x hx
    have xz : σ.2.2.2 x ≠ 0 := by rw [x3]; decide
    rw [(msk_n (by decide) xz).2, (msk_n (by decide) xz).2, (msk_n (by decide) xz).1, (msk_f A.z0).2]
    exact e1 x x3
  · by_cases z : σ.2.2.2 m' = 0
    · exact (msk_f z).2.symm
    · rw [(msk_n (by decide) z).2]
      exact e2 m' (by rw [← A.F.1 m' z]; exact hm')
/-- .. that waits at its node -/
theorem TP.rrW {a : Nat} (A : TP E g n p q m c 2 it L Tk a1 a2 a3 v 1 σ T) {L2' : Nat → List Nat} (R : RR E g n σ) (hn : n ≤ 512) (hp : p < 4) (hq : q < 4) (haq : al g σ q) (R5 : RR E (Gh.mk g.x g.a0 g.m g.D g.A g.N g.B g.Q g.L1 (L2') g.L3 g.lv) (n + 1) (msk M5 σ T)) (hT : Tk ≤ n) (hm3 : T.2.1 60303 m 0 = some a) (hz : σ.1 30300 a 0 = 1) (hnx : T.2.1 61106 m 0 = none)
    (e0 : ∀ x, σ.2.2.2 x = 3 → T.1 30300 x 0 = σ.1 30300 x 0) (e1 : ∀ x, σ.2.2.2 x = 3 → x ≠ a → T.2.1 30406 x 0 = σ.2.1 30406 x 0 ∧ T.2.1 30506 x 0 = σ.2.1 30506 x 0) (e2 : T.2.1 30506 a 0 = some m) (e3 : T.2.1 30406 a 0 = if g.Q a = [] then some m else σ.2.1 30406 a 0)
    (e4 : ∀ m', σ.2.2.2 m' = 6 → some m' ≠ (g.Q a).getLast? → T.2.1 61106 m' 0 = σ.2.1 61106 m' 0) (e5 : ∀ m', (g.Q a).getLast? = some m' → T.2.1 61106 m' 0 = some m) : RR E (gQ (Gh.mk g.x g.a0 g.m g.D g.A g.N g.B g.Q g.L1 (L2') g.L3 g.lv) a (g.Q a ++ [m])) (n + 1) T := by
  have A5 : Lnk (Gh.mk g.x g.a0 g.m g.D g.A g.N g.B g.Q g.L1 (L2') g.L3 g.lv) q m c 2 p (g.lv p) it L Tk a1 a2 a3 1 (msk M5 σ T) T := (show Lnk g q m c 2 p (g.lv p) it L Tk a1 a2 a3 1 (msk M5 σ T) T from A.lnk R hp hq).l2
  have hk3 : ∀ x, T.2.2.2 x = 3 → σ.2.2.2 x = 3 := fun x h => by
    by_cases z : σ.2.2.2 x = 0
    · have := A.F.2.1 x z (by rw [h]; decide)
      rw [h] at this; cases this
    · rw [← A.F.1 x z]; exact h
  have az : σ.2.2.2 a ≠ 0 := by rw [(A.f3a a hm3).1]; decide
  refine R5.linkW (by omega) hq (by show al g (msk M5 σ T) q; unfold al; rw [(msk_n (by decide) (R.s.kA (by decide))).1]; exact haq) A5 (by omega) (by rw [(msk_f A.z0).2]; exact hm3) (by rw [(msk_n (by decide) az).1]; exact hz) hnx (fun x hx => ?_) (fun x hx hxa => ?_) e2 (by rw [(msk_n (by decide) az).2]; exact e3) (fun m' hm' hne => ?_) e5
  · have x3 := hk3 x hx
    rw [(msk_n (by decide) (by rw [x3]; decide)).1]; exact e0 x x3
  · have x3 := hk3 x hx
    rw [(msk_n (by decide) (by rw [x3]; decide)).2, (msk_n (by decide) (by rw [x3]; decide)).2]; exact e1 x x3 hxa
  · by_cases z : σ.2.2.2 m' = 0
    · exact (msk_f z).2.symm
    · rw [(msk_n (by decide) z).2]
      exact e4 m' (by rw [← A.F.1 m' z]; exact hm') hne
end TP1
end TPS
