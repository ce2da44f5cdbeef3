section FRM
variable {E : FE} {g : Gh} {σ σ' : Sg} {K J : Nat → Bool} {n : Nat}
/-- handles of p -/
def RH (g : Gh) (n p : Nat) (σ : Sg) : Prop :=
  (al g σ p → HandR p (σ.2.1 120003 (g.D p 3)) (σ.1 130000 (g.D p 4)) (σ.1 140000 (g.D p 5)) g.N (σ.1 540000 (g.A 3)) (σ.1 550000 (g.A 4)) (σ.1 560000 (g.A 5)) (4 * n) ∧ σ.1 80300 (g.D p 2) 0 = itF (hdsF (σ.1 550000 (g.A 4)) (σ.1 560000 (g.A 5)) p) 15 1 0) ∧
  (¬ al g σ p → (∀ h, 1 ≤ h → h ≤ 15 → σ.2.1 120003 (g.D p 3) h = none ∧ σ.1 130000 (g.D p 4) h = 0 ∧ σ.1 140000 (g.D p 5) h = 0) ∧ σ.1 80300 (g.D p 2) 0 = 0)
theorem RH.cong {p : Nat} (h : RH g n p σ) (ha : al g σ' p ↔ al g σ p) (e : ∀ h, 1 ≤ h → h ≤ 15 → σ'.2.1 120003 (g.D p 3) h = σ.2.1 120003 (g.D p 3) h ∧ σ'.1 130000 (g.D p 4) h = σ.1 130000 (g.D p 4) h ∧ σ'.1 140000 (g.D p 5) h = σ.1 140000 (g.D p 5) h ∧ σ'.1 540000 (g.A 3) (16 * p + h) = σ.1 540000 (g.A 3) (16 * p + h) ∧ σ'.1 550000 (g.A 4) (16 * p + h) = σ.1 550000 (g.A 4) (16 * p + h) ∧ σ'.1 560000 (g.A 5) (16 * p + h) = σ.1 560000 (g.A 5) (16 * p + h)) (e2 : σ'.1 80300 (g.D p 2) 0 = σ.1 80300 (g.D p 2) 0) : RH g n p σ' := by
  unfold RH
  rw [ha, e2]
  refine ⟨fun hb => ⟨(h.1 hb).1.cong e, ?_⟩, fun hb => ⟨fun h1 h2 h3 => ?_, (h.2 hb).2⟩⟩
  · rw [hds_cong (fun h1 h2 h3 => ⟨(e h1 h2 h3).2.2.2.2.1, (e h1 h2 h3).2.2.2.2.2⟩)]; exact (h.1 hb).2
  · obtain ⟨e1, e2, e3, -⟩ := e h1 h2 h3
    rw [e1, e2, e3]; exact (h.2 hb).1 h1 h2 h3
theorem RH.fr {p : Nat} (hp : p < 4) (h : RH g n p σ) (s : RS E g σ) (F : FrP g p K J σ σ') (hK : ([510000, 120003, 130000, 140000, 540000, 550000, 560000, 80300].all fun c => !K c) = true) : RH g n p σ' := by
  simp only [List.all_cons, List.all_nil, Bool.and_true, Bool.and_eq_true, Bool.not_eq_true'] at hK
  obtain ⟨k1, k2, k3, k4, k5, k6, k7, k8⟩ := hK
  exact h.cong (al.frp s F k1) (fun i i1 i2 => ⟨(F.d s hp (by decide) (by decide) k2).2, (F.d s hp (by decide) (by decide) k3).1, (F.d s hp (by decide) (by decide) k4).1, F.a s (by decide) (by decide) k5 (by show (16 * p + i) / 16 = p; omega), F.a s (by decide) (by decide) k6 (by show (16 * p + i) / 16 = p; omega), F.a s (by decide) (by decide) k7 (by show (16 * p + i) / 16 = p; omega)⟩) (F.d s hp (by decide) (by decide) k8).1
/-- the draft of p -/
def RD (g : Gh) (p : Nat) (σ : Sg) : Prop := ∃ k z, k ≤ 4 ∧ z ≤ 20 ∧ σ.1 570000 (g.A 6) p = nI k ∧ σ.1 580000 (g.A 7) p = nI z ∧
  (al g σ p → σ.1 40300 (g.D p 8) 0 = nI k ∧ σ.1 40400 (g.D p 8) 0 = nI z ∧ ∀ i, i < k → σ.1 160000 (g.D p 9) i = σ.1 590000 (g.A 8) (4 * p + i) ∧ σ.1 170000 (g.D p 10) i = σ.1 600000 (g.A 9) (4 * p + i) ∧ (σ.1 590000 (g.A 8) (4 * p + i) = 0 ∨ σ.1 590000 (g.A 8) (4 * p + i) = 1 ∨ σ.1 590000 (g.A 8) (4 * p + i) = 2)) ∧
  (¬ al g σ p → σ.1 40300 (g.D p 8) 0 = 0 ∧ σ.1 40400 (g.D p 8) 0 = 0)
theorem RD.cong {p : Nat} (h : RD g p σ) (ha : al g σ' p ↔ al g σ p) (e1 : σ'.1 570000 (g.A 6) p = σ.1 570000 (g.A 6) p) (e2 : σ'.1 580000 (g.A 7) p = σ.1 580000 (g.A 7) p) (e3 : σ'.1 40300 (g.D p 8) 0 = σ.1 40300 (g.D p 8) 0) (e4 : σ'.1 40400 (g.D p 8) 0 = σ.1 40400 (g.D p 8) 0)
    (e : ∀ i, i < 4 → σ'.1 160000 (g.D p 9) i = σ.1 160000 (g.D p 9) i ∧ σ'.1 170000 (g.D p 10) i = σ.1 170000 (g.D p 10) i ∧ σ'.1 590000 (g.A 8) (4 * p + i) = σ.1 590000 (g.A 8) (4 * p + i) ∧ σ'.1 600000 (g.A 9) (4 * p + i) = σ.1 600000 (g.A 9) (4 * p + i)) : RD g p σ' := by
  obtain ⟨k, z, a1, a2, a3, a4, a5, a6⟩ := h
  refine ⟨k, z, a1, a2, e1.trans a3, e2.trans a4, fun hb => ?_, fun hb => ?_⟩
  · obtain ⟨b1, b2, b3⟩ := a5 (ha.mp hb)
    refine ⟨e3.trans b1, e4.trans b2, fun i hi => ?_⟩
    obtain ⟨c1, c2, c3, c4⟩ := e i (by omega)
    rw [c1, c2, c3, c4]; exact b3 i hi
  · rw [e3, e4]; exact a6 (fun h => hb (ha.mpr h))
theorem RD.fr {p : Nat} (hp : p < 4) (h : RD g p σ) (s : RS E g σ) (F : FrP g p K J σ σ') (hK : ([510000, 40300, 570000, 40400, 580000, 160000, 590000, 170000, 600000].all fun c => !K c) = true) : RD g p σ' := by
  simp only [List.all_cons, List.all_nil, Bool.and_true, Bool.and_eq_true, Bool.not_eq_true'] at hK
  obtain ⟨k1, k2, k3, k4, k5, k6, k7, k8, k9⟩ := hK
  exact h.cong (al.frp s F k1) (F.a s (by decide) (by decide) k3 (by show p / 1 = p; omega)) (F.a s (by decide) (by decide) k5 (by show p / 1 = p; omega)) (F.d s hp (by decide) (by decide) k2).1 (F.d s hp (by decide) (by decide) k4).1
    (fun i hi => ⟨(F.d s hp (by decide) (by decide) k6).1, (F.d s hp (by decide) (by decide) k8).1, F.a s (by decide) (by decide) k7 (by show (4 * p + i) / 4 = p; omega), F.a s (by decide) (by decide) k9 (by show (4 * p + i) / 4 = p; omega)⟩)
/-- a message that lies at the cell c of p -/
def MsR (g : Gh) (p c m : Nat) (σ : Sg) : Prop := ∃ k s l it t T a1 a2 a3,
  σ.1 60000 m 0 = nI k ∧ 1 ≤ k ∧ k ≤ 3 ∧ σ.1 60100 m 0 = nI s ∧ s < 4 ∧ σ.1 60200 m 0 = nI l ∧ l ≤ g.lv s ∧ σ.1 660000 (g.A 15) (g.B m) = nI s ∧ σ.1 60900 m 0 = nI c ∧
  σ.1 60500 m 0 = nI it ∧ it ≤ 4 ∧ σ.1 680000 (g.A 17) (g.B m) = nI it ∧ σ.1 640000 (g.A 13) (g.B m) = (if k = 2 then 1 else 0) ∧
  NR g.N (σ.2.1 60303 m 0) (σ.1 650000 (g.A 14) (g.B m)) ∧ (k = 3 ↔ σ.2.1 60303 m 0 = none) ∧ (∀ a, σ.2.1 60303 m 0 = some a → σ.1 30200 a 0 = 0 ∧ σ.1 30000 a 0 = nI p) ∧
  σ.2.1 60631 m 0 = some a1 ∧ σ.2.1 60732 m 0 = some a2 ∧ σ.2.1 60833 m 0 = some a3 ∧ σ.1 319900 a1 0 = nI it ∧ σ.1 329900 a2 0 = nI it ∧ σ.1 339900 a3 0 = nI it ∧
  (∀ i, i < it → σ.1 310000 a1 i = σ.1 690000 (g.A 18) (4 * g.B m + i) ∧ σ.1 320000 a2 i = σ.1 700000 (g.A 19) (4 * g.B m + i) ∧ NR g.N (σ.2.1 330003 a3 i) (σ.1 710000 (g.A 20) (4 * g.B m + i))) ∧
  (σ.1 610000 (g.A 10) (g.B m) = 1 ∨ σ.1 610000 (g.A 10) (g.B m) = 2 ∨ σ.1 610000 (g.A 10) (g.B m) = 3) ∧ σ.1 61000 m 0 = (if σ.1 610000 (g.A 10) (g.B m) = 3 then 1 else 0) ∧
  σ.1 670000 (g.A 16) (g.B m) = nI t ∧ σ.1 502300 g.m 0 = nI T ∧ t < T ∧ T ≤ 1000
theorem MsR.fr {p c m : Nat} (h : MsR g p c m σ) (hm : σ.2.2.2 m = 6) (hB : 64 * p ≤ g.B m ∧ g.B m < 64 * p + 64) (s : RS E g σ) (F : FrP g p K J σ σ') (hK : ([60000, 60100, 60200, 660000, 60900, 60500, 680000, 640000, 60303, 650000, 30200, 30000, 60631, 60732, 60833, 319900, 329900, 339900, 310000, 690000, 320000, 700000, 330003, 710000, 610000, 61000, 670000, 502300].all fun c => !K c) = true) : MsR g p c m σ' := by
  simp only [List.all_cons, List.all_nil, Bool.and_true, Bool.and_eq_true, Bool.not_eq_true'] at hK
  obtain ⟨c1, c2, c3, c4, c5, c6, c7, c8, c9, c10, c11, c12, c13, c14, c15, c16, c17, c18, c19, c20, c21, c22, c23, c24, c25, c26, c27, c28⟩ := hK
  obtain ⟨k, s', l, it, t, T, a1, a2, a3, e1, e2, e3, e4, e5, e6, e7, e8, e9, e10, e11, e12, e13, e14, e15, e16, e17, e18, e19, e20, e21, e22, e23, e24, e25, e26, e27, e28⟩ := h
  have f1 : ∀ {c i}, c < 500000 → K c = false → σ'.1 c m i = σ.1 c m i := fun hc hk => (F.o s hm (by decide) hc hk).1
  have f2 : ∀ {c i}, c < 500000 → K c = false → σ'.2.1 c m i = σ.2.1 c m i := fun hc hk => (F.o s hm (by decide) hc hk).2
  have fA : ∀ {c j}, j < 31 → 510000 ≤ c → K c = false → wd c = 64 → σ'.1 c (g.A j) (g.B m) = σ.1 c (g.A j) (g.B m) := fun hj hc hk hw => F.a s hj hc hk (by rw [hw]; omega)
  have fB : ∀ {c i j}, j < 31 → 510000 ≤ c → K c = false → wd c = 256 → i < 4 → σ'.1 c (g.A j) (4 * g.B m + i) = σ.1 c (g.A j) (4 * g.B m + i) := fun hj hc hk hw hi => F.a s hj hc hk (by rw [hw]; omega)
  have n1 := s.wf _ _ _ _ e17 (by decide)
  have n2 := s.wf _ _ _ _ e18 (by decide)
  have n3 := s.wf _ _ _ _ e19 (by decide)
  refine ⟨k, s', l, it, t, T, a1, a2, a3, by rw [f1 (by decide) c1]; exact e1, e2, e3, by rw [f1 (by decide) c2]; exact e4, e5, by rw [f1 (by decide) c3]; exact e6, e7, by rw [fA (by decide) (by decide) c4 rfl]; exact e8, by rw [f1 (by decide) c5]; exact e9, by rw [f1 (by decide) c6]; exact e10, e11, by rw [fA (by decide) (by decide) c7 rfl]; exact e12, by rw [fA (by decide) (by decide) c8 rfl]; exact e13, by rw [f2 (by decide) c9, fA (by decide) (by decide) c10 rfl]; exact e14, by rw [f2 (by decide) c9]; exact e15, fun a ha => ?_, by rw [f2 (by decide) c13]; exact e17, by rw [f2 (by decide) c14]; exact e18, by rw [f2 (by decide) c15]; exact e19, by rw [(F.o s n1 (by decide) (by decide) c16).1]; exact e20, by rw [(F.o s n2 (by decide) (by decide) c17).1]; exact e21, by rw [(F.o s n3 (by decide) (by decide) c18).1]; exact e22, fun i hi => ?_, by rw [fA (by decide) (by decide) c25 rfl]; exact e24, by rw [f1 (by decide) c26, fA (by decide) (by decide) c25 rfl]; exact e25, by rw [fA (by decide) (by decide) c27 rfl]; exact e26, by rw [F.m s (by decide) (by decide) c28]; exact e27, e28⟩
  · rw [f2 (by decide) c9] at ha
    have na := s.wf _ _ _ _ ha (by decide)
    rw [(F.o s na (by decide) (by decide) c11).1, (F.o s na (by decide) (by decide) c12).1]
    exact e16 a ha
  · rw [(F.o s n1 (by decide) (by decide) c19).1, fB (by decide) (by decide) c20 rfl (by omega), (F.o s n2 (by decide) (by decide) c21).1, fB (by decide) (by decide) c22 rfl (by omega), (F.o s n3 (by decide) (by decide) c23).2, fB (by decide) (by decide) c24 rfl (by omega)]
    exact e23 i hi
/-- the area of p -/
def RA (g : Gh) (p : Nat) (σ : Sg) : Prop :=
  (al g σ p → AreaR p (σ.2.1 150006 (g.D p 7)) (fun m => σ.1 60400 m 0) g.B (σ.1 610000 (g.A 10)) (σ.1 620000 (g.A 11)) (σ.1 630000 (g.A 12)) ∧ (∀ c m, c < 64 → σ.2.1 150006 (g.D p 7) c = some m → MsR g p c m σ) ∧
    σ.1 90100 (g.D p 6) 0 = itF (celsF (σ.1 610000 (g.A 10)) (σ.1 630000 (g.A 12)) (σ.1 640000 (g.A 13)) 0) 64 (64 * p) 0 ∧ ∃ u, u ≤ 32 ∧ σ.1 90200 (g.D p 6) 0 = nI u ∧ itF (celsF (σ.1 610000 (g.A 10)) (σ.1 630000 (g.A 12)) (σ.1 640000 (g.A 13)) 1) 64 (64 * p) 0 = nI u) ∧
  (¬ al g σ p → (∀ c, c < 64 → σ.2.1 150006 (g.D p 7) c = none) ∧ σ.1 90100 (g.D p 6) 0 = 0 ∧ σ.1 90200 (g.D p 6) 0 = 0)
theorem AreaR.cong {p : Nat} {bg bg' : Nat → Option Nat} {cl cl' : Nat → Int32} {B : Nat → Nat} {sta beg len sta' beg' len' : Nat → Int32} (h : AreaR p bg cl B sta beg len) (hb : ∀ c, c < 64 → bg' c = bg c) (hc : ∀ c m, c < 64 → bg c = some m → cl' m = cl m)
    (hr : ∀ b, 64 * p ≤ b → b < 64 * p + 64 → sta' b = sta b ∧ beg' b = beg b ∧ len' b = len b) : AreaR p bg' cl' B sta' beg' len' := by
  refine ⟨fun c m h1 h2 => ?_, fun b b1 b2 b3 => ?_⟩
  · rw [hb c h1] at h2
    obtain ⟨e1, e2, e3, e4, e5, L, e6, e7, e8, e9⟩ := h.1 c m h1 h2
    obtain ⟨r1, r2, r3⟩ := hr _ e1 e2
    rw [hc c m h1 h2, r1, r2, r3]
    exact ⟨e1, e2, e3, e4, e5, L, e6, e7, e8, fun c' h3 h4 => by rw [hb c' (by omega)]; exact e9 c' h3 h4⟩
  · rw [(hr b b1 b2).1] at b3
    obtain ⟨c, m, h1, h2, h3⟩ := h.2 b b1 b2 b3
    exact ⟨c, m, h1, by rw [hb c h1]; exact h2, h3⟩
theorem cels_cong {sta len ow sta' len' ow' : Nat → Int32} {w : Int32} {p : Nat} (h : ∀ b, 64 * p ≤ b → b < 64 * p + 64 → sta' b = sta b ∧ len' b = len b ∧ ow' b = ow b) (v : Int32) : itF (celsF sta' len' ow' w) 64 (64 * p) v = itF (celsF sta len ow w) 64 (64 * p) v := by
  refine itF_congr 64 (64 * p) v (fun j a h1 h2 => ?_)
  obtain ⟨e1, e2, e3⟩ := h j h1 h2
  unfold celsF
  rw [e1, e2, e3]
theorem RA.fr {p : Nat} (hp : p < 4) (h : RA g p σ) (s : RS E g σ) (F : FrP g p K J σ σ') (hK : ([60000, 60100, 60200, 660000, 60900, 60500, 680000, 640000, 60303, 650000, 30200, 30000, 60631, 60732, 60833, 319900, 329900, 339900, 310000, 690000, 320000, 700000, 330003, 710000, 610000, 61000, 670000, 502300].all fun c => !K c) = true) (hK2 : ([510000, 150006, 60400, 620000, 630000, 90100, 90200, 610000, 640000].all fun c => !K c) = true) : RA g p σ' := by
  have hK3 := hK2
  simp only [List.all_cons, List.all_nil, Bool.and_true, Bool.and_eq_true, Bool.not_eq_true'] at hK3
  obtain ⟨k1, k2, k3, k4, k5, k6, k7, k8, k9⟩ := hK3
  have eb : ∀ c, σ'.2.1 150006 (g.D p 7) c = σ.2.1 150006 (g.D p 7) c := fun c => (F.d s hp (by decide) (by decide) k2).2
  have er : ∀ b, 64 * p ≤ b → b < 64 * p + 64 → b / 64 = p := fun b _ _ => by omega
  have km : ∀ c m, c < 64 → σ.2.1 150006 (g.D p 7) c = some m → σ.2.2.2 m = 6 := fun c m _ hm => s.wf _ _ _ _ hm (by decide)
  refine ⟨fun ha => ?_, fun ha => ?_⟩
  · obtain ⟨h1, h2, h3, u, h4, h5, h6⟩ := h.1 ((al.frp s F k1).mp ha)
    refine ⟨h1.cong (fun c _ => eb c) (fun c m hc hm => (F.o s (km c m hc hm) (by decide) (by decide) k3).1) (fun b b1 b2 => ⟨F.a s (by decide) (by decide) k8 (er b b1 b2), F.a s (by decide) (by decide) k4 (er b b1 b2), F.a s (by decide) (by decide) k5 (er b b1 b2)⟩), fun c m hc hm => ?_, ?_, u, h4, ?_, ?_⟩
    · rw [eb c] at hm
      obtain ⟨q1, q2, -⟩ := h1.1 c m hc hm
      exact (h2 c m hc hm).fr (km c m hc hm) ⟨q1, q2⟩ s F hK
    · rw [(F.d s hp (by decide) (by decide) k6).1, cels_cong (fun b b1 b2 => ⟨F.a s (by decide) (by decide) k8 (er b b1 b2), F.a s (by decide) (by decide) k5 (er b b1 b2), F.a s (by decide) (by decide) k9 (er b b1 b2)⟩)]; exact h3
    · rw [(F.d s hp (by decide) (by decide) k7).1]; exact h5
    · rw [cels_cong (fun b b1 b2 => ⟨F.a s (by decide) (by decide) k8 (er b b1 b2), F.a s (by decide) (by decide) k5 (er b b1 b2), F.a s (by decide) (by decide) k9 (er b b1 b2)⟩)]; exact h6
  · rw [(F.d s hp (by decide) (by decide) k6).1, (F.d s hp (by decide) (by decide) k7).1]
    have := h.2 (fun hb => ha ((al.frp s F k1).mpr hb))
    exact ⟨fun c hc => by rw [eb c]; exact this.1 c hc, this.2⟩
/-- the inbox of p -/
def InR (g : Gh) (p i w : Nat) (σ : Sg) : Prop :=
  σ.1 50000 w 0 = σ.1 730000 (g.A 22) (384 * p + 6 * i) ∧ σ.1 50200 w 0 = σ.1 730000 (g.A 22) (384 * p + 6 * i + 4) ∧
  ((σ.2.1 50106 w 0 = none ∧ (σ.1 730000 (g.A 22) (384 * p + 6 * i) = 4 ∨ σ.1 730000 (g.A 22) (384 * p + 6 * i) = 5) ∧ σ.1 730000 (g.A 22) (384 * p + 6 * i + 1) = -1 ∧ σ.1 730000 (g.A 22) (384 * p + 6 * i + 2) = -1 ∧ σ.1 730000 (g.A 22) (384 * p + 6 * i + 3) = -1) ∨
   ∃ m c, σ.2.1 50106 w 0 = some m ∧ c < 64 ∧ σ.2.1 150006 (g.D p 7) c = some m ∧ σ.1 60000 m 0 = σ.1 730000 (g.A 22) (384 * p + 6 * i) ∧ σ.1 610000 (g.A 10) (g.B m) = 2 ∧ σ.1 730000 (g.A 22) (384 * p + 6 * i + 1) = nI (g.B m) ∧ σ.1 730000 (g.A 22) (384 * p + 6 * i + 2) = nkF σ w ∧ σ.1 730000 (g.A 22) (384 * p + 6 * i + 3) = σ.1 60100 m 0 ∧ (σ.1 60000 m 0 = 1 → σ.1 730000 (g.A 22) (384 * p + 6 * i + 5) = σ.1 60200 m 0))
def RI (g : Gh) (p : Nat) (σ : Sg) : Prop :=
  (∀ i w, (g.L1 p)[i]? = some w → InR g p i w σ) ∧ (∀ (i i' w w' m : Nat), (g.L1 p)[i]? = some w → (g.L1 p)[i']? = some w' → σ.2.1 50106 w 0 = some m → σ.2.1 50106 w' 0 = some m → i = i') ∧ σ.1 720000 (g.A 21) p = nI (g.L1 p).length ∧ (¬ al g σ p → g.L1 p = []) ∧ (g.L1 p).length ≤ 64
theorem LLx.kd {k ka tk : Nat} {ad : Nat → Nat} {L : Nat → List Nat} {AR : Nat → Nat} (h : LLx E k ka tk ad L AR σ) (hw : WF σ) (ht : (10000 * ka + tk) % 100 = tk) (ht0 : tk ≠ 0) {p i w : Nat} (hp : p < 4) (hi : (L p)[i]? = some w) : σ.2.2.2 w = tk := by
  rcases (h.2.1 p hp).2.2.2.2 with ⟨-, e⟩ | ⟨-, -, -, -, e⟩
  · rw [e] at hi; cases hi
  · have := hw _ _ _ _ (e i w hi) (by rw [ht]; exact ht0)
    rw [this, ht]
theorem RS.k1 (s : RS E g σ) {p i w : Nat} (hp : p < 4) (hi : (g.L1 p)[i]? = some w) : σ.2.2.2 w = 5 := by
  obtain ⟨_, h⟩ := s.l1; exact h.kd s.wf (by decide) (by decide) hp hi
theorem RS.k2 (s : RS E g σ) {p i w : Nat} (hp : p < 4) (hi : (g.L2 p)[i]? = some w) : σ.2.2.2 w = 6 := by
  obtain ⟨_, h⟩ := s.l2; exact h.kd s.wf (by decide) (by decide) hp hi
theorem RS.k3 (s : RS E g σ) {p i w : Nat} (hp : p < 4) (hi : (g.L3 p)[i]? = some w) : σ.2.2.2 w = 7 := by
  obtain ⟨_, h⟩ := s.l3; exact h.kd s.wf (by decide) (by decide) hp hi
theorem nkF_fr {p : Nat} (s : RS E g σ) (F : FrP g p K J σ σ') {w : Nat} (hk : σ.2.2.2 w = 5) (h1 : K 50106 = false) (h2 : K 60303 = false) (h3 : K 30100 = false) : nkF σ' w = nkF σ w := by
  unfold nkF
  rw [(F.o s hk (by decide) (by decide) h1).2]
  cases e : σ.2.1 50106 w 0 with
  | none => rfl
  | some m =>
    have hm := s.wf _ _ _ _ e (by decide)
    dsimp only
    rw [(F.o s hm (by decide) (by decide) h2).2]
    cases e2 : σ.2.1 60303 m 0 with
    | none => rfl
    | some a =>
      have ha := s.wf _ _ _ _ e2 (by decide)
      dsimp only
      exact (F.o s ha (by decide) (by decide) h3).1
theorem RI.fr {p : Nat} (hp : p < 4) (h : RI g p σ) (s : RS E g σ) (hB : ∀ c m, c < 64 → σ.2.1 150006 (g.D p 7) c = some m → al g σ p → 64 * p ≤ g.B m ∧ g.B m < 64 * p + 64) (F : FrP g p K J σ σ') (hK : ([50000, 730000, 50200, 50106, 150006, 60000, 610000, 60100, 60200, 720000, 60303, 30100, 510000].all fun c => !K c) = true) : RI g p σ' := by
  simp only [List.all_cons, List.all_nil, Bool.and_true, Bool.and_eq_true, Bool.not_eq_true'] at hK
  obtain ⟨k1, k2, k3, k4, k5, k6, k7, k8, k9, k10, k11, k12, k13⟩ := hK
  have e4 : ∀ i w, (g.L1 p)[i]? = some w → σ'.2.1 50106 w 0 = σ.2.1 50106 w 0 := fun i w hi => (F.o s (s.k1 hp hi) (by decide) (by decide) k4).2
  obtain ⟨h1, h2, h3, h4, h5⟩ := h
  refine ⟨fun i w hi => ?_, fun i i' w w' m a b c d => ?_, by rw [F.a s (by decide) (by decide) k10 (by show p / 1 = p; omega)]; exact h3, fun ha => h4 (fun hb => ha ((al.frp s F k13).mpr hb)), h5⟩
  · have hw5 := s.k1 hp hi
    have hil : i < 64 := by
      have := (List.getElem?_eq_some_iff.mp hi).1; omega
    have hal : al g σ p := by
      by_cases z : al g σ p
      · exact z
      · rw [h4 z] at hi; cases hi
    have eA : ∀ j, j < 6 → σ'.1 730000 (g.A 22) (384 * p + 6 * i + j) = σ.1 730000 (g.A 22) (384 * p + 6 * i + j) := fun j hj => F.a s (by decide) (by decide) k2 (by show (384 * p + 6 * i + j) / 384 = p; omega)
    have eA0 : σ'.1 730000 (g.A 22) (384 * p + 6 * i) = σ.1 730000 (g.A 22) (384 * p + 6 * i) := eA 0 (by decide)
    unfold InR
    rw [eA0, eA 1 (by decide), eA 2 (by decide), eA 3 (by decide), eA 4 (by decide), eA 5 (by decide), (F.o s hw5 (by decide) (by decide) k1).1, (F.o s hw5 (by decide) (by decide) k3).1, (F.o s hw5 (by decide) (by decide) k4).2, nkF_fr s F hw5 k4 k11 k12]
    obtain ⟨q1, q2, q3⟩ := h1 i w hi
    refine ⟨q1, q2, q3.imp id ?_⟩
    rintro ⟨m, c, r1, r2, r3, r4, r5, r6, r7, r8, r9⟩
    have hm := s.wf _ _ _ _ r1 (by decide)
    have hb := hB c m r2 r3 hal
    refine ⟨m, c, r1, r2, by rw [(F.d s hp (by decide) (by decide) k5).2]; exact r3, by rw [(F.o s hm (by decide) (by decide) k6).1]; exact r4, by rw [F.a s (by decide) (by decide) k7 (by show g.B m / 64 = p; omega)]; exact r5, r6, r7, by rw [(F.o s hm (by decide) (by decide) k8).1]; exact r8, ?_⟩
    rw [(F.o s hm (by decide) (by decide) k6).1, (F.o s hm (by decide) (by decide) k9).1]; exact r9
  · rw [e4 i w a] at c
    rw [e4 i' w' b] at d
    exact h2 i i' w w' m a b c d
/-- the open calls of p -/
def RO (g : Gh) (p : Nat) (σ : Sg) : Prop :=
  (∀ i m, (g.L2 p)[i]? = some m → ∃ s l, σ.1 60100 m 0 = nI s ∧ s < 4 ∧ σ.1 60200 m 0 = nI l ∧ l ≤ g.lv s ∧ σ.1 750000 (g.A 24) (12 * p + i) = nI s ∧ σ.1 760000 (g.A 25) (12 * p + i) = nI l) ∧ σ.1 740000 (g.A 23) p = nI (g.L2 p).length ∧ (g.L2 p).length ≤ 12 ∧ (¬ al g σ p → g.L2 p = [])
theorem RO.fr {p : Nat} (hp : p < 4) (h : RO g p σ) (s : RS E g σ) (F : FrP g p K J σ σ') (hK : ([60100, 60200, 750000, 760000, 740000, 510000].all fun c => !K c) = true) : RO g p σ' := by
  simp only [List.all_cons, List.all_nil, Bool.and_true, Bool.and_eq_true, Bool.not_eq_true'] at hK
  obtain ⟨k1, k2, k3, k4, k5, k6⟩ := hK
  obtain ⟨h1, h3, h4, h5⟩ := h
  refine ⟨fun i m hi => ?_, by rw [F.a s (by decide) (by decide) k5 (by show p / 1 = p; omega)]; exact h3, h4, fun ha => h5 (fun hb => ha ((al.frp s F k6).mpr hb))⟩
  have hm := s.k2 hp hi
  have hil : i < 12 := by
    have := (List.getElem?_eq_some_iff.mp hi).1; omega
  rw [(F.o s hm (by decide) (by decide) k1).1, (F.o s hm (by decide) (by decide) k2).1, F.a s (by decide) (by decide) k3 (by show (12 * p + i) / 12 = p; omega), F.a s (by decide) (by decide) k4 (by show (12 * p + i) / 12 = p; omega)]
  exact h1 i m hi
/-- the watches of p -/
def RV (g : Gh) (p : Nat) (σ : Sg) : Prop :=
  (al g σ p → (∀ i w, (g.L3 p)[i]? = some w → ∃ a, σ.2.1 70003 w 0 = some a ∧ σ.1 30200 a 0 = 0 ∧ σ.1 790000 (g.A 28) (8 * p + i) = nI (g.N a) ∧ σ.1 70100 w 0 = σ.1 800000 (g.A 29) (8 * p + i)) ∧ σ.1 780000 (g.A 27) p = nI (g.L3 p).length ∧ (g.L3 p).length ≤ 8) ∧ (¬ al g σ p → g.L3 p = [])
theorem RV.fr {p : Nat} (hp : p < 4) (h : RV g p σ) (s : RS E g σ) (F : FrP g p K J σ σ') (hK : ([70003, 30200, 790000, 70100, 800000, 780000, 510000].all fun c => !K c) = true) : RV g p σ' := by
  simp only [List.all_cons, List.all_nil, Bool.and_true, Bool.and_eq_true, Bool.not_eq_true'] at hK
  obtain ⟨k1, k2, k3, k4, k5, k6, k7⟩ := hK
  refine ⟨fun ha => ?_, fun ha => h.2 (fun hb => ha ((al.frp s F k7).mpr hb))⟩
  obtain ⟨h1, h3, h4⟩ := h.1 ((al.frp s F k7).mp ha)
  refine ⟨fun i w hi => ?_, by rw [F.a s (by decide) (by decide) k6 (by show p / 1 = p; omega)]; exact h3, h4⟩
  have hil : i < 8 := by
    have := (List.getElem?_eq_some_iff.mp hi).1; omega
  have hw := s.k3 hp hi
  obtain ⟨a, q1, q2, q3, q4⟩ := h1 i w hi
  refine ⟨a, by rw [(F.o s hw (by decide) (by decide) k1).2]; exact q1, by rw [(F.o s (s.wf _ _ _ _ q1 (by decide)) (by decide) (by decide) k2).1]; exact q2, by rw [F.a s (by decide) (by decide) k3 (by show (8 * p + i) / 8 = p; omega)]; exact q3, ?_⟩
  rw [(F.o s hw (by decide) (by decide) k4).1, F.a s (by decide) (by decide) k5 (by show (8 * p + i) / 8 = p; omega)]; exact q4
/-- the latest work of p, and whether it waits -/
def ltF (σ : Sg) (o : Option Nat) : Nat → Int32 := fun j => match o with
  | none => if j = 0 then 0 else if j = 4 then 0 else -1
  | some w => if j = 0 then σ.1 50000 w 0 else if j = 1 then nkF σ w else if j = 4 then σ.1 50200 w 0 else match σ.2.1 50106 w 0 with
    | none => -1
    | some m => if j = 2 then σ.1 60900 m 0 else σ.1 60100 m 0
def RL (g : Gh) (p : Nat) (σ : Sg) : Prop :=
  (al g σ p → (∀ j, j < 5 → σ.1 810000 (g.A 30) (5 * p + j) = ltF σ (σ.2.1 21105 (g.D p 0) 0) j) ∧ σ.1 21000 (g.D p 0) 0 = σ.1 770000 (g.A 26) p ∧ (σ.1 770000 (g.A 26) p = 0 ∨ σ.1 770000 (g.A 26) p = 1)) ∧ (¬ al g σ p → σ.2.1 21105 (g.D p 0) 0 = none ∧ σ.1 21000 (g.D p 0) 0 = 0)
theorem ltF_fr {p : Nat} (s : RS E g σ) (F : FrP g p K J σ σ') {o : Option Nat} (ho : ∀ w, o = some w → σ.2.2.2 w = 5) (hK : ([50000, 50106, 60303, 30100, 50200, 60900, 60100].all fun c => !K c) = true) : ltF σ' o = ltF σ o := by
  simp only [List.all_cons, List.all_nil, Bool.and_true, Bool.and_eq_true, Bool.not_eq_true'] at hK
  obtain ⟨k1, k2, k3, k4, k5, k6, k7⟩ := hK
  funext j
  unfold ltF
  cases o with
  | none => rfl
  | some w =>
    have hw := ho w rfl
    dsimp only
    rw [(F.o s hw (by decide) (by decide) k1).1, nkF_fr s F hw k2 k3 k4, (F.o s hw (by decide) (by decide) k5).1, (F.o s hw (by decide) (by decide) k2).2]
    cases e : σ.2.1 50106 w 0 with
    | none => rfl
    | some m =>
      have hm := s.wf _ _ _ _ e (by decide)
      dsimp only
      rw [(F.o s hm (by decide) (by decide) k6).1, (F.o s hm (by decide) (by decide) k7).1]
theorem RL.fr {p : Nat} (hp : p < 4) (h : RL g p σ) (s : RS E g σ) (F : FrP g p K J σ σ') (hK : ([50000, 50106, 60303, 30100, 50200, 60900, 60100].all fun c => !K c) = true) (hK2 : ([810000, 21105, 21000, 770000, 510000].all fun c => !K c) = true) : RL g p σ' := by
  simp only [List.all_cons, List.all_nil, Bool.and_true, Bool.and_eq_true, Bool.not_eq_true'] at hK2
  obtain ⟨k1, k2, k3, k4, k5⟩ := hK2
  unfold RL
  rw [al.frp s F k5, (F.d s hp (by decide) (by decide) k2).2, (F.d s hp (by decide) (by decide) k3).1, F.a s (by decide) (by decide) k4 (by show p / 1 = p; omega), ltF_fr s F (fun w hw => s.wf _ _ _ _ hw (by decide)) hK]
  refine ⟨fun ha => ⟨fun j hj => ?_, (h.1 ha).2⟩, h.2⟩
  rw [F.a s (by decide) (by decide) k1 (by show (5 * p + j) / 5 = p; omega)]
  exact (h.1 ha).1 j hj
end FRM
