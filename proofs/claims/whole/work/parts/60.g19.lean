section FRM
variable {E : FE} {g : Gh} {σ σ' σ2 : Sg} {K J : Nat → Bool} {n n' : Nat}
theorem MsR.fr2 {p c m : Nat} (h : MsR g p c m σ) (hm : σ.2.2.2 m = 6) (hst : (σ'.1 610000 (g.A 10) (g.B m) = 1 ∨ σ'.1 610000 (g.A 10) (g.B m) = 2 ∨ σ'.1 610000 (g.A 10) (g.B m) = 3) ∧ σ'.1 61000 m 0 = (if σ'.1 610000 (g.A 10) (g.B m) = 3 then 1 else 0)) (hB : 64 * p ≤ g.B m ∧ g.B m < 64 * p + 64) (s : RS E g σ) (F : FrP g p K J σ σ') (hK : ([60000, 60100, 60200, 660000, 60900, 60500, 680000, 640000, 60303, 650000, 30200, 30000, 60631, 60732, 60833, 319900, 329900, 339900, 310000, 690000, 320000, 700000, 330003, 710000, 670000, 502300].all fun c => !K c) = true) : MsR g p c m σ' := by
  simp only [List.all_cons, List.all_nil, Bool.and_true, Bool.and_eq_true, Bool.not_eq_true'] at hK
  obtain ⟨c1, c2, c3, c4, c5, c6, c7, c8, c9, c10, c11, c12, c13, c14, c15, c16, c17, c18, c19, c20, c21, c22, c23, c24, c27, c28⟩ := hK
  obtain ⟨k, s', l, it, t, T, a1, a2, a3, e1, e2, e3, e4, e5, e6, e7, e8, e9, e10, e11, e12, e13, e14, e15, e16, e17, e18, e19, e20, e21, e22, e23, e24, e25, e26, e27, e28⟩ := h
  have f1 : ∀ {c i}, c < 500000 → K c = false → σ'.1 c m i = σ.1 c m i := fun hc hk => (F.o s hm (by decide) hc hk).1
  have f2 : ∀ {c i}, c < 500000 → K c = false → σ'.2.1 c m i = σ.2.1 c m i := fun hc hk => (F.o s hm (by decide) hc hk).2
  have fA : ∀ {c j}, j < 31 → 510000 ≤ c → K c = false → wd c = 64 → σ'.1 c (g.A j) (g.B m) = σ.1 c (g.A j) (g.B m) := fun hj hc hk hw => F.a s hj hc hk (by rw [hw]; omega)
  have fB : ∀ {c i j}, j < 31 → 510000 ≤ c → K c = false → wd c = 256 → i < 4 → σ'.1 c (g.A j) (4 * g.B m + i) = σ.1 c (g.A j) (4 * g.B m + i) := fun hj hc hk hw hi => F.a s hj hc hk (by rw [hw]; omega)
  have n1 := s.wf _ _ _ _ e17 (by decide)
  have n2 := s.wf _ _ _ _ e18 (by decide)
  have n3 := s.wf _ _ _ _ e19 (by decide)
  refine ⟨k, s', l, it, t, T, a1, a2, a3, by rw [f1 (by decide) c1]; exact e1, e2, e3, by rw [f1 (by decide) c2]; exact e4, e5, by rw [f1 (by decide) c3]; exact e6, e7, by rw [fA (by decide) (by decide) c4 rfl]; exact e8, by rw [f1 (by decide) c5]; exact e9, by rw [f1 (by decide) c6]; exact e10, e11, by rw [fA (by decide) (by decide) c7 rfl]; exact e12, by rw [fA (by decide) (by decide) c8 rfl]; exact e13, by rw [f2 (by decide) c9, fA (by decide) (by decide) c10 rfl]; exact e14, by rw [f2 (by decide) c9]; exact e15, fun a ha => ?_, by rw [f2 (by decide) c13]; exact e17, by rw [f2 (by decide) c14]; exact e18, by rw [f2 (by decide) c15]; exact e19, by rw [(F.o s n1 (by decide) (by decide) c16).1]; exact e20, by rw [(F.o s n2 (by decide) (by decide) c17).1]; exact e21, by rw [(F.o s n3 (by decide) (by decide) c18).1]; exact e22, fun i hi => ?_, hst.1, hst.2, by rw [fA (by decide) (by decide) c27 rfl]; exact e26, by rw [F.m s (by decide) (by decide) c28]; exact e27, e28⟩
  · rw [f2 (by decide) c9] at ha
    have na := s.wf _ _ _ _ ha (by decide)
    rw [(F.o s na (by decide) (by decide) c11).1, (F.o s na (by decide) (by decide) c12).1]
    exact e16 a ha
  · rw [(F.o s n1 (by decide) (by decide) c19).1, fB (by decide) (by decide) c20 rfl (by omega), (F.o s n2 (by decide) (by decide) c21).1, fB (by decide) (by decide) c22 rfl (by omega), (F.o s n3 (by decide) (by decide) c23).2, fB (by decide) (by decide) c24 rfl (by omega)]
    exact e23 i hi
theorem AreaR.inj {p : Nat} {bg : Nat → Option Nat} {cl : Nat → Int32} {B : Nat → Nat} {sta beg len : Nat → Int32} (h : AreaR p bg cl B sta beg len) {c c' m m' : Nat} (hc : c < 64) (hc' : c' < 64) (hm : bg c = some m) (hm' : bg c' = some m') (e : B m = B m') : c = c' ∧ m = m' := by
  obtain ⟨-, -, -, e1, -⟩ := h.1 c m hc hm
  obtain ⟨-, -, -, e2, -⟩ := h.1 c' m' hc' hm'
  rw [e] at e1
  have : c = c' := (nI_eq (by omega) (by omega)).mp (e1.symm.trans e2)
  subst this
  rw [hm] at hm'
  exact ⟨rfl, Option.some.inj hm'⟩
theorem AreaR.cong2 {p : Nat} {bg : Nat → Option Nat} {cl cl' : Nat → Int32} {B : Nat → Nat} {sta beg len sta' beg' len' : Nat → Int32} (h : AreaR p bg cl B sta beg len) (hc : ∀ c m, c < 64 → bg c = some m → cl' m = cl m)
    (hr : ∀ b, 64 * p ≤ b → b < 64 * p + 64 → (sta' b ≤ 0 ↔ sta b ≤ 0) ∧ beg' b = beg b ∧ len' b = len b) : AreaR p bg cl' B sta' beg' len' := by
  refine ⟨fun c m h1 h2 => ?_, fun b b1 b2 b3 => ?_⟩
  · obtain ⟨e1, e2, e3, e4, e5, L, e6⟩ := h.1 c m h1 h2
    obtain ⟨r1, r2, r3⟩ := hr _ e1 e2
    rw [hc c m h1 h2, r1, r2, r3]
    exact ⟨e1, e2, e3, e4, e5, L, e6⟩
  · rw [(hr b b1 b2).1] at b3
    exact h.2 b b1 b2 b3
theorem cels_cong2 {sta len ow sta' len' ow' : Nat → Int32} {w : Int32} {p : Nat} (h : ∀ b, 64 * p ≤ b → b < 64 * p + 64 → (sta' b ≤ 0 ↔ sta b ≤ 0) ∧ len' b = len b ∧ ow' b = ow b) (v : Int32) : itF (celsF sta' len' ow' w) 64 (64 * p) v = itF (celsF sta len ow w) 64 (64 * p) v := by
  refine itF_congr 64 (64 * p) v (fun j a h1 h2 => ?_)
  obtain ⟨e1, e2, e3⟩ := h j h1 h2
  unfold celsF
  rw [e2, e3]
  by_cases z : sta j ≤ 0
  · rw [if_pos z, if_pos (e1.mpr z)]
  · rw [if_neg z, if_neg (mt e1.mp z)]
/-- the state of messages changes, but not whether there is one -/
theorem RA.fr2 {p : Nat} (hp : p < 4) (h : RA g p σ) (s : RS E g σ) (F : FrP g p K J σ σ') (hK : ([60000, 60100, 60200, 660000, 60900, 60500, 680000, 640000, 60303, 650000, 30200, 30000, 60631, 60732, 60833, 319900, 329900, 339900, 310000, 690000, 320000, 700000, 330003, 710000, 670000, 502300].all fun c => !K c) = true) (hK2 : ([510000, 150006, 60400, 620000, 630000, 90100, 90200, 640000].all fun c => !K c) = true)
    (hs : ∀ b, 64 * p ≤ b → b < 64 * p + 64 → (σ'.1 610000 (g.A 10) b ≤ 0 ↔ σ.1 610000 (g.A 10) b ≤ 0)) (hst : al g σ p → ∀ c m, c < 64 → σ.2.1 150006 (g.D p 7) c = some m → (σ'.1 610000 (g.A 10) (g.B m) = 1 ∨ σ'.1 610000 (g.A 10) (g.B m) = 2 ∨ σ'.1 610000 (g.A 10) (g.B m) = 3) ∧ σ'.1 61000 m 0 = (if σ'.1 610000 (g.A 10) (g.B m) = 3 then 1 else 0)) : RA g p σ' := by
  have hK3 := hK2
  simp only [List.all_cons, List.all_nil, Bool.and_true, Bool.and_eq_true, Bool.not_eq_true'] at hK3
  obtain ⟨k1, k2, k3, k4, k5, k6, k7, k9⟩ := hK3
  have eb : ∀ c, σ'.2.1 150006 (g.D p 7) c = σ.2.1 150006 (g.D p 7) c := fun c => (F.d s hp (by decide) (by decide) k2).2
  have er : ∀ b, 64 * p ≤ b → b < 64 * p + 64 → b / 64 = p := fun b _ _ => by omega
  have km : ∀ c m, c < 64 → σ.2.1 150006 (g.D p 7) c = some m → σ.2.2.2 m = 6 := fun c m _ hm => s.wf _ _ _ _ hm (by decide)
  refine ⟨fun ha => ?_, fun ha => ?_⟩
  · have ha' := (al.frp s F k1).mp ha
    obtain ⟨h1, h2, h3, u, h4, h5, h6⟩ := h.1 ha'
    have e : σ'.2.1 150006 (g.D p 7) = σ.2.1 150006 (g.D p 7) := funext eb
    rw [e]
    refine ⟨h1.cong2 (fun c m hc hm => (F.o s (km c m hc hm) (by decide) (by decide) k3).1) (fun b b1 b2 => ⟨hs b b1 b2, F.a s (by decide) (by decide) k4 (er b b1 b2), F.a s (by decide) (by decide) k5 (er b b1 b2)⟩), fun c m hc hm => ?_, ?_, u, h4, ?_, ?_⟩
    · obtain ⟨q1, q2, -⟩ := h1.1 c m hc hm
      exact (h2 c m hc hm).fr2 (km c m hc hm) (hst ha' c m hc hm) ⟨q1, q2⟩ s F hK
    · rw [(F.d s hp (by decide) (by decide) k6).1, cels_cong2 (fun b b1 b2 => ⟨hs b b1 b2, F.a s (by decide) (by decide) k5 (er b b1 b2), F.a s (by decide) (by decide) k9 (er b b1 b2)⟩)]; exact h3
    · rw [(F.d s hp (by decide) (by decide) k7).1]; exact h5
    · rw [cels_cong2 (fun b b1 b2 => ⟨hs b b1 b2, F.a s (by decide) (by decide) k5 (er b b1 b2), F.a s (by decide) (by decide) k9 (er b b1 b2)⟩)]; exact h6
  · rw [(F.d s hp (by decide) (by decide) k6).1, (F.d s hp (by decide) (by decide) k7).1]
    have := h.2 (fun hb => ha ((al.frp s F k1).mpr hb))
    exact ⟨fun c hc => by rw [eb c]; exact this.1 c hc, this.2⟩
theorem RQa.fr2 {o a : Nat} (ha : σ.2.2.2 a = 3) (ho : o < 4) (h : RQa g o a σ) (s : RS E g σ) (hB : ∀ c m, c < 64 → σ.2.1 150006 (g.D o 7) c = some m → 64 * o ≤ g.B m ∧ g.B m < 64 * o + 64) (F : FrP g o K J σ σ') (hK : ([61106, 30406, 30506, 150006, 60000, 60303, 670000, 30300].all fun c => !K c) = true) (hs : ∀ c m, ow g σ o a c m → (σ'.1 610000 (g.A 10) (g.B m) = 1 ↔ σ.1 610000 (g.A 10) (g.B m) = 1)) : RQa g o a σ' := by
  simp only [List.all_cons, List.all_nil, Bool.and_true, Bool.and_eq_true, Bool.not_eq_true'] at hK
  obtain ⟨k1, k2, k3, k4, k5, k6, k8, k9⟩ := hK
  obtain ⟨h1, h2, h3, h4, h5, h6, h7⟩ := h
  have w : ∀ {c m}, ow g σ' o a c m ↔ ow g σ o a c m := ow.fr ho s F k4 k5 k6
  have e2 : ∀ m, m ∈ g.Q a → σ'.1 670000 (g.A 16) (g.B m) = σ.1 670000 (g.A 16) (g.B m) := fun m hm => by
    obtain ⟨c, hc, -⟩ := h3 m hm
    have := hB c m hc.1 hc.2.1
    exact F.a s (by decide) (by decide) k8 (by show g.B m / 64 = o; omega)
  unfold RQa
  simp only [w]
  rw [(F.o s ha (by decide) (by decide) k2).2, (F.o s ha (by decide) (by decide) k3).2, (F.o s ha (by decide) (by decide) k9).1]
  refine ⟨h1.cong (fun m hm => ?_), h2, fun m hm => ?_, ?_, fun c m hm hs' => h5 c m hm ((hs c m hm).mp hs'), h6, fun c c' m m' hm hm' hs1 hs2 => h7 c c' m m' hm hm' (mt (hs c m hm).mpr hs1) (mt (hs c' m' hm').mpr hs2)⟩
  · obtain ⟨c, hc, -⟩ := h3 m hm
    exact (F.o s (s.wf _ _ _ _ hc.2.1 (by decide)) (by decide) (by decide) k1).2
  · obtain ⟨c, hc, hs'⟩ := h3 m hm
    exact ⟨c, hc, (hs c m hc).mpr hs'⟩
  · exact List.Pairwise.imp_of_mem (fun {x y} hx hy hxy => by rw [e2 x hx, e2 y hy]; exact hxy) h4
/-- a message whose work was taken -/
theorem RR.taken {p c m : Nat} (R : RR E g n σ) (hp : p < 4) (ha : al g σ p) (hc : c < 64) (hm : σ.2.1 150006 (g.D p 7) c = some m) (h2 : σ.1 610000 (g.A 10) (g.B m) = 2) (hno : ∀ (i w : Nat), (g.L1 p)[i]? = some w → σ.2.1 50106 w 0 ≠ some m)
    (F : Fr (fun c => [61000, 610000].contains c) (fun _ => false) σ σ2) (hw' : WF σ2) (e1 : σ2.1 61000 m 0 = 1) (e2 : σ2.1 610000 (g.A 10) (g.B m) = 3) (e3 : ∀ x, x ≠ m → σ.2.2.2 x = 6 → σ2.1 61000 x 0 = σ.1 61000 x 0) (e4 : ∀ b, b ≠ g.B m → σ2.1 610000 (g.A 10) b = σ.1 610000 (g.A 10) b) : RR E g n σ2 := by
  have hfe' := F.f0 (fun _ => rfl) R.s.f0
  have bB := RBn.of R.a
  have A := ((R.a p hp).1 ha).1
  obtain ⟨b1, b2⟩ := bB p c m hp hc hm
  have inj : ∀ r c' m', r < 4 → c' < 64 → σ.2.1 150006 (g.D r 7) c' = some m' → m' ≠ m → g.B m' ≠ g.B m := by
    intro r c' m' hr hc' hm' hne e
    have := bB r c' m' hr hc' hm'
    have hrp : r = p := by omega
    subst hrp
    exact hne (A.inj hc' hc hm' hm e).2
  have a' : ∀ r, r < 4 → RA g r σ2 := by
    intro r hr
    refine (R.a r hr).fr2 hr R.s (F.at g r) (by decide) (by decide) (fun b h1 h2' => ?_) (fun har c' m' hc' hm' => ?_)
    · by_cases e : b = g.B m
      · subst e; rw [e2, h2]; decide
      · rw [e4 b e]
    · by_cases e : m' = m
      · subst e; rw [e1, e2]; exact ⟨Or.inr (Or.inr rfl), rfl⟩
      · rw [e3 m' e (R.s.wf _ _ _ _ hm' (by decide)), e4 _ (inj r c' m' hr hc' hm' e)]
        obtain ⟨k, s', l, it, t, T, a1, a2, a3, x1, x2, x3, x4, x5, x6, x7, x8, x9, x10, x11, x12, x13, x14, x15, x16, x17, x18, x19, x20, x21, x22, x23, x24, x25, x26⟩ := ((R.a r hr).1 har).2.1 c' m' hc' hm'
        exact ⟨x24, x25⟩
  have i' : ∀ r, r < 4 → RI g r σ2 := by
    intro r hr
    obtain ⟨h1, h2', h3, h4, h5⟩ := R.i r hr
    have em : ∀ i w, (g.L1 r)[i]? = some w → σ2.2.1 50106 w 0 = σ.2.1 50106 w 0 := fun i w hi => ((F.at g r).o R.s (R.s.k1 hr hi) (by decide) (by decide) (by decide)).2
    refine ⟨fun i w hi => ?_, fun i i' w w' m hi hi' hm hm' => ?_, by rw [(F.2.2 _ _ _ (R.s.kA (by decide)) (by decide)).1]; exact h3, fun z => h4 (fun y => z ((al.fr R.s F (by decide) r).mpr y)), h5⟩
    · refine (h1 i w hi).mv (R.s.k1 hr hi) R.s (F.at g r) (fun j _ => (F.2.2 _ _ _ (R.s.kA (by decide)) (by decide)).1) (by decide) (fun c' m' hc' hm' hmw => ⟨by rw [(F.2.2 _ _ _ (R.s.kD hr (by decide)) (by decide)).2]; exact hm', ?_⟩)
      have hne : m' ≠ m := by
        rintro rfl
        have := bB r c' m' hr hc' hm'
        have hrp : r = p := by omega
        subst hrp
        exact hno i w hi hmw
      rw [e4 _ (inj r c' m' hr hc' hm' hne)]
    · rw [em i w hi] at hm
      rw [em i' w' hi'] at hm'
      exact h2' i i' w w' m hi hi' hm hm'
  have st1 : ∀ r c' m', r < 4 → c' < 64 → σ.2.1 150006 (g.D r 7) c' = some m' → (σ2.1 610000 (g.A 10) (g.B m') = 1 ↔ σ.1 610000 (g.A 10) (g.B m') = 1) := by
    intro r c' m' hr hc' hm'
    by_cases e : m' = m
    · subst e; rw [e2, h2]; decide
    · rw [e4 _ (inj r c' m' hr hc' hm' e)]
  have q' : RQ g σ2 := by
    refine ⟨fun a o h hd ho hw => ?_, fun r c' m' hr har hc' hm' hs => ?_⟩
    · have a3 : σ.2.2.2 a = 3 := by
        by_cases z : σ.2.2.2 a = 0
        · have := F.2.1 a z (by rw [h]; decide)
          cases this
        · rw [← F.1 a z]; exact h
      have a0 : σ.2.2.2 a ≠ 0 := by rw [a3]; decide
      rw [(F.2.2 _ _ _ a0 (by decide)).1] at hd hw
      exact (R.q.1 a o a3 hd ho hw).fr2 a3 ho R.s (fun c m => bB o c m ho) (F.at g o) (by decide) (fun c' m' hm' => st1 o c' m' ho hm'.1 hm'.2.1)
    · rw [(F.2.2 _ _ _ (R.s.kD hr (by decide)) (by decide)).2] at hm'
      rw [((F.at g r).o R.s (R.s.wf _ _ _ _ hm' (by decide)) (by decide) (by decide) (by decide)).1]
      exact R.q.2 r c' m' hr ((al.fr R.s F (by decide) r).mp har) hc' hm' ((st1 r c' m' hr hc' hm').mp hs)
  exact RR.mk
          (s := R.s.fr0 F hw' hfe' (by decide) (by decide) (by decide) (by decide))
          (p := R.p.fr R.s F (by decide))
          (no := R.no.fr R.s F (by decide) (by decide))
          (mg := R.mg.fr R.s F (by decide))
          (h := fun p hp => (R.h p hp).fr hp R.s (F.at _ p) (by decide))
          (d := fun p hp => (R.d p hp).fr hp R.s (F.at _ p) (by decide))
          (a := a')
          (i := i')
          (o := fun p hp => (R.o p hp).fr hp R.s (F.at _ p) (by decide))
          (v := fun p hp => (R.v p hp).fr hp R.s (F.at _ p) (by decide))
          (l := fun p hp => (R.l p hp).fr hp R.s (F.at _ p) (by decide) (by decide))
          (q := q')
          (c := R.c.fr R.s F (by decide) (by decide))
          (b := R.b.fr R.s F (by decide) (by decide))
          (t := by obtain ⟨T9, t1, t2⟩ := R.t; exact ⟨T9, by rw [(F.2.2 _ _ _ R.s.km (by decide)).1]; exact t1, t2⟩)
/-- the latest work -/
theorem RR.late {p w : Nat} (R : RR E g n σ) (hp : p < 4) (F : Fr (fun c => [21105, 810000].contains c) (fun _ => false) σ σ2) (hw' : WF σ2) (FP : ∀ r, r ≠ p → FrP g r (fun _ => false) (fun _ => false) σ σ2) (ha : al g σ p) (hw5 : σ.2.2.2 w = 5)
    (e1 : σ2.2.1 21105 (g.D p 0) 0 = some w) (e2 : ∀ j, j < 5 → σ2.1 810000 (g.A 30) (5 * p + j) = ltF σ (some w) j) : RR E g n σ2 := by
  have hfe' := F.f0 (fun _ => rfl) R.s.f0
  have l' : ∀ r, r < 4 → RL g r σ2 := by
    intro r hr
    by_cases e : r = p
    · subst e
      refine ⟨fun _ => ⟨fun j hj => ?_, ?_, ?_⟩, fun z => absurd ((al.fr R.s F (by decide) r).mpr ha) z⟩
      · rw [e1, e2 j hj, ltF_fr R.s (F.at g r) (fun w' h => by cases h; exact hw5) (by decide)]
      · rw [(F.2.2 _ _ _ (R.s.kD hr (by decide)) (by decide)).1, (F.2.2 _ _ _ (R.s.kA (by decide)) (by decide)).1]; exact ((R.l r hr).1 ha).2.1
      · rw [(F.2.2 _ _ _ (R.s.kA (by decide)) (by decide)).1]; exact ((R.l r hr).1 ha).2.2
    · exact (R.l r hr).fr hr R.s (FP r e) rfl rfl
  exact RR.mk
          (s := R.s.fr0 F hw' hfe' (by decide) (by decide) (by decide) (by decide))
          (p := R.p.fr R.s F (by decide))
          (no := R.no.fr R.s F (by decide) (by decide))
          (mg := R.mg.fr R.s F (by decide))
          (h := fun p hp => (R.h p hp).fr hp R.s (F.at _ p) (by decide))
          (d := fun p hp => (R.d p hp).fr hp R.s (F.at _ p) (by decide))
          (a := fun p hp => (R.a p hp).fr hp R.s (F.at _ p) (by decide) (by decide))
          (i := fun p hp => (R.i p hp).fr hp R.s (fun c m h1 h2 _ => RBn.of R.a p c m hp h1 h2) (F.at _ p) (by decide))
          (o := fun p hp => (R.o p hp).fr hp R.s (F.at _ p) (by decide))
          (v := fun p hp => (R.v p hp).fr hp R.s (F.at _ p) (by decide))
          (l := l')
          (q := R.q.fr R.s (RBn.of R.a) F (by decide) (by decide) (by decide))
          (c := R.c.fr R.s F (by decide) (by decide))
          (b := R.b.fr R.s F (by decide) (by decide))
          (t := by obtain ⟨T9, t1, t2⟩ := R.t; exact ⟨T9, by rw [(F.2.2 _ _ _ R.s.km (by decide)).1]; exact t1, t2⟩)
/-- whether p waits -/
theorem RR.wts {p : Nat} {v : Int32} (R : RR E g n σ) (hp : p < 4) (F : Fr (fun c => [21000, 770000].contains c) (fun _ => false) σ σ2) (hw' : WF σ2) (FP : ∀ r, r ≠ p → FrP g r (fun _ => false) (fun _ => false) σ σ2) (ha : al g σ p) (hv : v = 0 ∨ v = 1)
    (e1 : σ2.1 21000 (g.D p 0) 0 = v) (e2 : σ2.1 770000 (g.A 26) p = v) (hc : outN g σ p ≤ if v = 0 then 0 else 1) : RR E g n σ2 := by
  have hfe' := F.f0 (fun _ => rfl) R.s.f0
  have l' : ∀ r, r < 4 → RL g r σ2 := by
    intro r hr
    by_cases e : r = p
    · subst e
      refine ⟨fun _ => ⟨fun j hj => ?_, ?_, ?_⟩, fun z => absurd ((al.fr R.s F (by decide) r).mpr ha) z⟩
      · rw [(F.2.2 _ _ _ (R.s.kA (by decide)) (by decide)).1, (F.2.2 _ _ _ (R.s.kD hr (by decide)) (by decide)).2, ltF_fr R.s (F.at g r) (fun w h => R.s.wf _ _ _ _ h (by decide)) (by decide)]
        exact ((R.l r hr).1 ha).1 j hj
      · rw [e1, e2]
      · rw [e2]; exact hv
    · exact (R.l r hr).fr hr R.s (FP r e) rfl rfl
  have c' : RC g σ2 := by
    intro r hr har
    rw [outN.fr R.s (F.at g r) (by decide) hr]
    by_cases e : r = p
    · subst e; rw [e2]; exact hc
    · rw [(FP r e).a R.s (by decide) (by decide) rfl (show r / 1 = r by omega)]
      exact R.c r hr ((al.fr R.s F (by decide) r).mp har)
  exact RR.mk
          (s := R.s.fr0 F hw' hfe' (by decide) (by decide) (by decide) (by decide))
          (p := R.p.fr R.s F (by decide))
          (no := R.no.fr R.s F (by decide) (by decide))
          (mg := R.mg.fr R.s F (by decide))
          (h := fun p hp => (R.h p hp).fr hp R.s (F.at _ p) (by decide))
          (d := fun p hp => (R.d p hp).fr hp R.s (F.at _ p) (by decide))
          (a := fun p hp => (R.a p hp).fr hp R.s (F.at _ p) (by decide) (by decide))
          (i := fun p hp => (R.i p hp).fr hp R.s (fun c m h1 h2 _ => RBn.of R.a p c m hp h1 h2) (F.at _ p) (by decide))
          (o := fun p hp => (R.o p hp).fr hp R.s (F.at _ p) (by decide))
          (v := fun p hp => (R.v p hp).fr hp R.s (F.at _ p) (by decide))
          (l := l')
          (q := R.q.fr R.s (RBn.of R.a) F (by decide) (by decide) (by decide))
          (c := c')
          (b := R.b.fr R.s F (by decide) (by decide))
          (t := by obtain ⟨T9, t1, t2⟩ := R.t; exact ⟨T9, by rw [(F.2.2 _ _ _ R.s.km (by decide)).1]; exact t1, t2⟩)
end FRM
