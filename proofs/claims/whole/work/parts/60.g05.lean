/-! what a change of the store leaves: K the codes that may change, J the kinds that may be new -/
def Fr (K J : Nat → Bool) (σ σ' : Sg) : Prop := (∀ x, σ.2.2.2 x ≠ 0 → σ'.2.2.2 x = σ.2.2.2 x) ∧ (∀ x, σ.2.2.2 x = 0 → σ'.2.2.2 x ≠ 0 → J (σ'.2.2.2 x) = true) ∧ (∀ c x i, σ.2.2.2 x ≠ 0 → K c = false → σ'.1 c x i = σ.1 c x i ∧ σ'.2.1 c x i = σ.2.1 c x i)
theorem Fr.refl {K J : Nat → Bool} {σ : Sg} : Fr K J σ σ := ⟨fun _ _ => rfl, fun _ h h2 => absurd h h2, fun _ _ _ _ _ => ⟨rfl, rfl⟩⟩
theorem Fr.trans {K1 J1 K2 J2 : Nat → Bool} {a b c : Sg} (h1 : Fr K1 J1 a b) (h2 : Fr K2 J2 b c) : Fr (fun x => K1 x || K2 x) (fun x => J1 x || J2 x) a c := by
  refine ⟨fun x hx => ?_, fun x hx hx2 => ?_, fun k x i hx hk => ?_⟩
  · have e := h1.1 x hx
    rw [h2.1 x (by rw [e]; exact hx), e]
  · by_cases z : b.2.2.2 x = 0
    · have := h2.2.1 x z hx2
      simp [this]
    · have e := h2.1 x z
      rw [e]; have := h1.2.1 x hx z
      simp [this]
  · rw [Bool.or_eq_false_iff] at hk
    have e := h1.1 x hx
    have q1 := h1.2.2 k x i hx hk.1
    have q2 := h2.2.2 k x i (by rw [e]; exact hx) hk.2
    exact ⟨q2.1.trans q1.1, q2.2.trans q1.2⟩
theorem Fr.weak {K J K' J' : Nat → Bool} {a b : Sg} (h : Fr K J a b) (hK : ∀ c, K' c = false → K c = false) (hJ : ∀ c, J c = true → J' c = true) : Fr K' J' a b :=
  ⟨h.1, fun x h1 h2 => hJ _ (h.2.1 x h1 h2), fun c x i h1 h2 => h.2.2 c x i h1 (hK c h2)⟩
theorem Fr.i {J : Nat → Bool} {σ : Sg} {c a x : Nat} {v : Int32} : Fr (fun k => k == c) J σ (sI σ c a x v) :=
  ⟨fun _ _ => rfl, fun _ h h2 => absurd h h2, fun c' x' i' _ hk => ⟨rII (by simpa using hk), rfl⟩⟩
theorem Fr.o {J : Nat → Bool} {σ : Sg} {c a x : Nat} {v : Option Nat} : Fr (fun k => k == c) J σ (sO σ c a x v) :=
  ⟨fun _ _ => rfl, fun _ h h2 => absurd h h2, fun c' x' i' _ hk => ⟨rfl, rOO (by simpa using hk)⟩⟩
theorem Fr.n {K : Nat → Bool} {σ : Sg} {q k : Nat} (hq : σ.2.2.2 q = 0) : Fr K (fun j => j == k) σ (sN σ q k) := by
  refine ⟨fun x hx => ?_, fun x hx h2 => ?_, fun c x i hx _ => ?_⟩
  · have : x ≠ q := fun e => hx (by rw [e]; exact hq)
    simp [sN, this]
  · by_cases e : x = q
    · simp [sN, e]
    · exact absurd (by simp [sN, e, hx]) h2
  · have : x ≠ q := fun e => hx (by rw [e]; exact hq)
    simp [sN, this]
theorem Fr.k {E : FE} {k ka : Nat} {σ σ' : Sg} (h : Eqk E k ka σ σ') : Fr (fun c => c / 10000 == k || c / 10000 == ka) (fun j => j == ka) σ σ' := by
  refine ⟨h.1, fun x hx h2 => ?_, fun c x i hx hk => ?_⟩
  · rcases h.2.2.2.1 x hx with e | e
    · exact absurd e h2
    · simp [e]
  · simp only [Bool.or_eq_false_iff, beq_eq_false_iff_ne] at hk
    exact h.2.2.1 c x i hx hk.1 hk.2
abbrev Gh : Type := Nat × Nat × Nat × (Nat → Nat → Nat) × (Nat → Nat) × (Nat → Nat) × (Nat → Nat) × (Nat → List Nat) × (Nat → List Nat) × (Nat → List Nat) × (Nat → List Nat) × (Nat → Nat)
abbrev Gh.x (g : Gh) : Nat := g.1
abbrev Gh.a0 (g : Gh) : Nat := g.2.1
abbrev Gh.m (g : Gh) : Nat := g.2.2.1
abbrev Gh.D (g : Gh) : Nat → Nat → Nat := g.2.2.2.1
abbrev Gh.A (g : Gh) : Nat → Nat := g.2.2.2.2.1
abbrev Gh.N (g : Gh) : Nat → Nat := g.2.2.2.2.2.1
abbrev Gh.B (g : Gh) : Nat → Nat := g.2.2.2.2.2.2.1
abbrev Gh.Q (g : Gh) : Nat → List Nat := g.2.2.2.2.2.2.2.1
abbrev Gh.L1 (g : Gh) : Nat → List Nat := g.2.2.2.2.2.2.2.2.1
abbrev Gh.L2 (g : Gh) : Nat → List Nat := g.2.2.2.2.2.2.2.2.2.1
abbrev Gh.L3 (g : Gh) : Nat → List Nat := g.2.2.2.2.2.2.2.2.2.2.1
abbrev Gh.lv (g : Gh) : Nat → Nat := g.2.2.2.2.2.2.2.2.2.2.2
def Gh.mk (x : Nat) (a0 : Nat) (m : Nat) (D : Nat → Nat → Nat) (A : Nat → Nat) (N : Nat → Nat) (B : Nat → Nat) (Q : Nat → List Nat) (L1 : Nat → List Nat) (L2 : Nat → List Nat) (L3 : Nat → List Nat) (lv : Nat → Nat) : Gh := (x, a0, m, D, A, N, B, Q, L1, L2, L3, lv)
/-- the shape of all -/
def RS (E : FE) (g : Gh) (σ : Sg) : Prop := (WF σ) ∧ (MO σ g.m g.A) ∧ (∀ p, p < 4 → SHp σ (g.D p)) ∧ (∀ p q j, p < 4 → q < 4 → j < 15 → g.D p j = g.D q j → p = q) ∧ (σ.2.2.2 g.x = 1) ∧ (σ.2.1 10010 g.x 0 = some g.a0) ∧ (∀ p, p < 4 → σ.2.1 100002 g.a0 p = some (g.D p 0)) ∧ (∀ p, p < 4 → σ.1 20000 (g.D p 0) 0 = nI p) ∧ (∃ AR, LLx E 20 41 5 (fun p => g.D p 12) g.L1 AR σ) ∧ (∃ AR, LLx E 21 42 6 (fun p => g.D p 13) g.L2 AR σ) ∧ (∃ AR, LLx E 22 43 7 (fun p => g.D p 14) g.L3 AR σ)
theorem RS.wf {E : FE} {g : Gh} {σ : Sg} (h9 : RS E g σ) : WF σ := h9.1
theorem RS.mo {E : FE} {g : Gh} {σ : Sg} (h9 : RS E g σ) : MO σ g.m g.A := h9.2.1
theorem RS.sh {E : FE} {g : Gh} {σ : Sg} (h9 : RS E g σ) : ∀ p, p < 4 → SHp σ (g.D p) := h9.2.2.1
theorem RS.dj {E : FE} {g : Gh} {σ : Sg} (h9 : RS E g σ) : ∀ p q j, p < 4 → q < 4 → j < 15 → g.D p j = g.D q j → p = q := h9.2.2.2.1
theorem RS.x1 {E : FE} {g : Gh} {σ : Sg} (h9 : RS E g σ) : σ.2.2.2 g.x = 1 := h9.2.2.2.2.1
theorem RS.x2 {E : FE} {g : Gh} {σ : Sg} (h9 : RS E g σ) : σ.2.1 10010 g.x 0 = some g.a0 := h9.2.2.2.2.2.1
theorem RS.x3 {E : FE} {g : Gh} {σ : Sg} (h9 : RS E g σ) : ∀ p, p < 4 → σ.2.1 100002 g.a0 p = some (g.D p 0) := h9.2.2.2.2.2.2.1
theorem RS.nm {E : FE} {g : Gh} {σ : Sg} (h9 : RS E g σ) : ∀ p, p < 4 → σ.1 20000 (g.D p 0) 0 = nI p := h9.2.2.2.2.2.2.2.1
theorem RS.l1 {E : FE} {g : Gh} {σ : Sg} (h9 : RS E g σ) : ∃ AR, LLx E 20 41 5 (fun p => g.D p 12) g.L1 AR σ := h9.2.2.2.2.2.2.2.2.1
theorem RS.l2 {E : FE} {g : Gh} {σ : Sg} (h9 : RS E g σ) : ∃ AR, LLx E 21 42 6 (fun p => g.D p 13) g.L2 AR σ := h9.2.2.2.2.2.2.2.2.2.1
theorem RS.l3 {E : FE} {g : Gh} {σ : Sg} (h9 : RS E g σ) : ∃ AR, LLx E 22 43 7 (fun p => g.D p 14) g.L3 AR σ := h9.2.2.2.2.2.2.2.2.2.2
theorem RS.mk {E : FE} {g : Gh} {σ : Sg} (wf : WF σ) (mo : MO σ g.m g.A) (sh : ∀ p, p < 4 → SHp σ (g.D p)) (dj : ∀ p q j, p < 4 → q < 4 → j < 15 → g.D p j = g.D q j → p = q) (x1 : σ.2.2.2 g.x = 1) (x2 : σ.2.1 10010 g.x 0 = some g.a0) (x3 : ∀ p, p < 4 → σ.2.1 100002 g.a0 p = some (g.D p 0)) (nm : ∀ p, p < 4 → σ.1 20000 (g.D p 0) 0 = nI p) (l1 : ∃ AR, LLx E 20 41 5 (fun p => g.D p 12) g.L1 AR σ) (l2 : ∃ AR, LLx E 21 42 6 (fun p => g.D p 13) g.L2 AR σ) (l3 : ∃ AR, LLx E 22 43 7 (fun p => g.D p 14) g.L3 AR σ) : RS E g σ := ⟨wf, mo, sh, dj, x1, x2, x3, nm, l1, l2, l3⟩
def Dk : Nat → Nat := fun j => match j with
  | 0 => 2 | 1 => 11 | 2 => 8 | 3 => 12 | 4 => 13 | 5 => 14 | 6 => 9 | 7 => 15 | 8 => 4 | 9 => 16 | 10 => 17 | 11 => 18 | 12 => 20 | 13 => 21 | 14 => 22 | _ => 1
theorem SHp.kd {σ : Sg} {P : Nat → Nat} (h : SHp σ P) (hw : WF σ) : ∀ j, j < 15 → σ.2.2.2 (P j) = Dk j := by
  have e : ∀ i, i < 14 → (shc i).1 % 100 ≠ 0 ∧ Dk (shc i).2.2 = (shc i).1 % 100 := by decide
  have e2 : ∀ j, j < 15 → j ≠ 0 → ∃ i, i < 14 ∧ (shc i).2.2 = j := by decide
  intro j hj
  by_cases j0 : j = 0
  · subst j0; exact h.1
  · obtain ⟨i, hi, rfl⟩ := e2 j hj j0
    rw [hw _ _ _ _ (h.2 i hi) (e i hi).1, (e i hi).2]
section FRM
variable {E : FE} {g : Gh} {σ σ' : Sg} {K J : Nat → Bool} {n : Nat}
theorem RS.kD (h : RS E g σ) {p j : Nat} (hp : p < 4) (hj : j < 15) : σ.2.2.2 (g.D p j) ≠ 0 := by
  rw [(h.sh p hp).kd h.wf j hj]
  have e : ∀ j, j < 15 → Dk j ≠ 0 := by decide
  exact e j hj
theorem RS.kA (h : RS E g σ) {j : Nat} (hj : j < 31) : σ.2.2.2 (g.A j) ≠ 0 := by
  rw [(h.mo.2 j hj).2]; omega
theorem RS.km (h : RS E g σ) : σ.2.2.2 g.m ≠ 0 := by rw [h.mo.1]; decide
theorem RS.kx (h : RS E g σ) : σ.2.2.2 g.x ≠ 0 := by rw [h.x1]; decide
/-- the model's arrays: how many places a process has -/
def wd : Nat → Nat := fun c => match c with
  | 530000 => 10 | 540000 => 16 | 550000 => 16 | 560000 => 16 | 590000 => 4 | 600000 => 4 | 610000 => 64 | 620000 => 64 | 630000 => 64 | 640000 => 64 | 650000 => 64 | 660000 => 64 | 670000 => 64 | 680000 => 64 | 690000 => 256 | 700000 => 256 | 710000 => 256 | 730000 => 384 | 750000 => 12 | 760000 => 12 | 790000 => 8 | 800000 => 8 | 810000 => 5 | _ => 1
/-- no other process's place -/
def InP (g : Gh) (p c x i : Nat) : Prop := (c < 500000 → ∀ q j, q < 4 → j < 15 → x = g.D q j → q = p) ∧ (510000 ≤ c → i / wd c = p)
/-- what a change leaves of what p has and of what nobody owns -/
def FrP (g : Gh) (p : Nat) (K J : Nat → Bool) (σ σ' : Sg) : Prop := (∀ x, σ.2.2.2 x ≠ 0 → σ'.2.2.2 x = σ.2.2.2 x) ∧ (∀ x, σ.2.2.2 x = 0 → σ'.2.2.2 x ≠ 0 → J (σ'.2.2.2 x) = true) ∧ (∀ c x i, σ.2.2.2 x ≠ 0 → K c = false → InP g p c x i → σ'.1 c x i = σ.1 c x i ∧ σ'.2.1 c x i = σ.2.1 c x i)
theorem Fr.at (F : Fr K J σ σ') (g : Gh) (p : Nat) : FrP g p K J σ σ' := ⟨F.1, F.2.1, fun c x i h1 h2 _ => F.2.2 c x i h1 h2⟩
theorem Dk_inj : ∀ i, i < 15 → ∀ j, j < 15 → Dk i = Dk j → i = j := by decide
def okK (k : Nat) : Bool := !(k == 0) && (List.range 15).all (fun j => !(Dk j == k))
theorem RS.dd (s : RS E g σ) {p q i j : Nat} (hp : p < 4) (hq : q < 4) (hi : i < 15) (hj : j < 15) (h : g.D p i = g.D q j) : p = q ∧ i = j := by
  have e : i = j := Dk_inj i hi j hj (by rw [← (s.sh p hp).kd s.wf i hi, ← (s.sh q hq).kd s.wf j hj, h])
  subst e
  exact ⟨s.dj p q i hp hq hi h, rfl⟩
theorem FrP.d {p j c i : Nat} (F : FrP g p K J σ σ') (s : RS E g σ) (hp : p < 4) (hj : j < 15) (hc : c < 500000) (hk : K c = false) : σ'.1 c (g.D p j) i = σ.1 c (g.D p j) i ∧ σ'.2.1 c (g.D p j) i = σ.2.1 c (g.D p j) i :=
  F.2.2 c _ i (s.kD hp hj) hk ⟨fun _ q j' hq hj' e => (s.dd hp hq hj hj' e).1.symm, fun h => by omega⟩
theorem FrP.a {p j c i : Nat} (F : FrP g p K J σ σ') (s : RS E g σ) (hj : j < 31) (hc : 510000 ≤ c) (hk : K c = false) (hi : i / wd c = p) : σ'.1 c (g.A j) i = σ.1 c (g.A j) i :=
  (F.2.2 c _ i (s.kA hj) hk ⟨fun h => by omega, fun _ => hi⟩).1
theorem FrP.o {p x k c i : Nat} (F : FrP g p K J σ σ') (s : RS E g σ) (hx : σ.2.2.2 x = k) (ho : okK k = true) (hc : c < 500000) (hk : K c = false) : σ'.1 c x i = σ.1 c x i ∧ σ'.2.1 c x i = σ.2.1 c x i := by
  have ho2 := ho
  simp only [okK, Bool.and_eq_true, Bool.not_eq_true', beq_eq_false_iff_ne] at ho
  refine F.2.2 c x i (by rw [hx]; exact ho.1) hk ⟨fun _ q j hq hj e => ?_, fun h => by omega⟩
  exfalso
  have h1 := List.all_eq_true.mp ho.2 j (List.mem_range.mpr hj)
  simp only [Bool.not_eq_true', beq_eq_false_iff_ne] at h1
  rw [e, (s.sh q hq).kd s.wf j hj] at hx
  exact h1 hx
theorem FrP.m {p c i : Nat} (F : FrP g p K J σ σ') (s : RS E g σ) (hc : 500000 ≤ c) (hc2 : c < 510000) (hk : K c = false) : σ'.1 c g.m i = σ.1 c g.m i :=
  (F.2.2 c _ i s.km hk ⟨fun h => by omega, fun h => by omega⟩).1
def al (g : Gh) (σ : Sg) (p : Nat) : Prop := σ.1 510000 (g.A 0) p = 1
/-- alive and lives -/
def RP (g : Gh) (n : Nat) (σ : Sg) : Prop := ∀ p, p < 4 → σ.1 20800 (g.D p 0) 0 = σ.1 510000 (g.A 0) p ∧ (σ.1 510000 (g.A 0) p = 0 ∨ σ.1 510000 (g.A 0) p = 1) ∧ σ.1 20900 (g.D p 0) 0 = nI (g.lv p) ∧ σ.1 520000 (g.A 1) p = nI (g.lv p) ∧ g.lv p ≤ n
theorem RP.fr (h : RP g n σ) (s : RS E g σ) (F : Fr K J σ σ') (hK : ([20800, 510000, 20900, 520000].all fun c => !K c) = true) : RP g n σ' := by
  simp only [List.all_cons, List.all_nil, Bool.and_true, Bool.and_eq_true, Bool.not_eq_true'] at hK
  obtain ⟨k1, k2, k3, k4⟩ := hK
  intro p hp
  have d0 := s.kD hp (j := 0) (by decide)
  rw [(F.2.2 _ _ _ d0 k1).1, (F.2.2 _ _ _ (s.kA (by decide)) k2).1, (F.2.2 _ _ _ d0 k3).1, (F.2.2 _ _ _ (s.kA (by decide)) k4).1]
  exact h p hp
theorem al.fr (s : RS E g σ) (F : Fr K J σ σ') (hK : K 510000 = false) (p : Nat) : al g σ' p ↔ al g σ p := by
  unfold al
  rw [(F.2.2 _ _ _ (s.kA (by decide)) hK).1]
theorem al.frp {p : Nat} (s : RS E g σ) (F : FrP g p K J σ σ') (hK : K 510000 = false) : al g σ' p ↔ al g σ p := by
  unfold al
  rw [F.a s (by decide) (by decide) hK (by show p / 1 = p; omega)]
/-- nodes -/
def RNo (g : Gh) (σ : Sg) : Prop :=
  (∀ a, σ.2.2.2 a = 3 → ∃ w o k, g.N a = 40 * w + 10 * o + k ∧ o < 4 ∧ k < 10 ∧ w ≤ g.lv o ∧ σ.1 30000 a 0 = nI o ∧ σ.1 30100 a 0 = nI k ∧ ((σ.1 30200 a 0 = 0 ∧ w = g.lv o ∧ al g σ o ∧ σ.2.1 110003 (g.D o 1) k = some a) ∨ (σ.1 30200 a 0 = 1 ∧ ¬ (w = g.lv o ∧ al g σ o)))) ∧
  (∀ a b, σ.2.2.2 a = 3 → σ.2.2.2 b = 3 → g.N a = g.N b → a = b) ∧
  (∀ p k, p < 4 → k < 10 → (σ.2.1 110003 (g.D p 1) k = none ∧ (al g σ p → σ.1 530000 (g.A 2) (10 * p + k) = 0)) ∨ ∃ a, σ.2.1 110003 (g.D p 1) k = some a ∧ σ.1 530000 (g.A 2) (10 * p + k) = 1 ∧ g.N a = 40 * g.lv p + 10 * p + k ∧ al g σ p ∧ σ.1 30200 a 0 = 0)
theorem RNo.fr (h : RNo g σ) (s : RS E g σ) (F : Fr K J σ σ') (hK : ([30000, 30100, 30200, 110003, 510000, 530000].all fun c => !K c) = true) (hJ : J 3 = false) : RNo g σ' := by
  simp only [List.all_cons, List.all_nil, Bool.and_true, Bool.and_eq_true, Bool.not_eq_true'] at hK
  obtain ⟨k1, k2, k3, k4, k5, k6⟩ := hK
  have k3' : ∀ a, σ'.2.2.2 a = 3 → σ.2.2.2 a = 3 := by
    intro a ha
    by_cases z : σ.2.2.2 a = 0
    · have := F.2.1 a z (by rw [ha]; decide)
      rw [ha, hJ] at this; cases this
    · rw [← F.1 a z]; exact ha
  have nz : ∀ a, σ.2.2.2 a = 3 → σ.2.2.2 a ≠ 0 := fun a e => by rw [e]; decide
  obtain ⟨h1, h2, h3⟩ := h
  refine ⟨fun a ha => ?_, fun a b ha hb => h2 a b (k3' a ha) (k3' b hb), fun p k hp hk => ?_⟩
  · have ha3 := k3' a ha
    have ha' := nz a ha3
    obtain ⟨w, o, k, e1, e2, e3, e4, e5, e6, e7⟩ := h1 a ha3
    refine ⟨w, o, k, e1, e2, e3, e4, by rw [(F.2.2 _ _ _ ha' k1).1]; exact e5, by rw [(F.2.2 _ _ _ ha' k2).1]; exact e6, ?_⟩
    rw [(F.2.2 _ _ _ ha' k3).1, al.fr s F k5, (F.2.2 _ _ _ (s.kD e2 (by decide)) k4).2]
    exact e7
  · have hd := s.kD hp (j := 1) (by decide)
    rw [(F.2.2 _ _ _ hd k4).2, al.fr s F k5, (F.2.2 _ _ _ (s.kA (by decide)) k6).1]
    rcases h3 p k hp hk with q | ⟨a, q1, q2, q3, q4, q5⟩
    · exact Or.inl q
    · refine Or.inr ⟨a, q1, q2, q3, q4, ?_⟩
      rw [(F.2.2 _ _ _ (nz a (s.wf _ _ _ _ q1 (by decide))) k3).1]; exact q5
theorem RNo.ok (h : RNo g σ) (P : RP g n σ) (hn : n ≤ 600) {a : Nat} (ha : σ.2.2.2 a = 3) : g.N a < 100000 := by
  obtain ⟨w, o, k, e1, e2, e3, e4, -⟩ := h.1 a ha
  have := (P o e2).2.2.2.2
  omega
/-- owner, key and death, as the model has them -/
theorem RNo.m (h : RNo g σ) (P : RP g n σ) (hn : n ≤ 600) {a : Nat} (ha : σ.2.2.2 a = 3) : σ.1 30000 a 0 = nI (pOf (nI (g.N a))) ∧ σ.1 30100 a 0 = nI (g.N a % 10) ∧ σ.1 30200 a 0 = dedI (σ.1 510000 (g.A 0)) (σ.1 520000 (g.A 1)) (nI (g.N a)) ∧ pOf (nI (g.N a)) = g.N a / 10 % 4 := by
  have hb := h.ok P hn ha
  obtain ⟨w, o, k, e1, e2, e3, e4, e5, e6, e7⟩ := h.1 a ha
  have hc : (nI (g.N a)).toNatClampNeg = g.N a := nI_clamp (by omega)
  have hp : g.N a / 10 % 4 = o := by omega
  have hw : g.N a / 40 = w := by omega
  have hk : g.N a % 10 = k := by omega
  refine ⟨by unfold pOf; rw [hc, hp, e5], by rw [hk, e6], ?_, by unfold pOf; rw [hc]⟩
  unfold dedI dedF
  rw [hc, hp, hw]
  obtain ⟨-, p2, -, p4, p5⟩ := P o e2
  rw [p4]
  have q := nI_eq (a := g.lv o) (b := w) (by omega) (by omega)
  rcases e7 with ⟨f1, f2, f3, -⟩ | ⟨f1, f2⟩
  · rw [f1, if_neg (by rw [show σ.1 510000 (g.A 0) o = 1 from f3]; decide), if_pos (q.mpr f2.symm)]
  · rw [f1]
    rcases p2 with z | z
    · rw [if_pos z]
    · rw [if_neg (by rw [z]; decide), if_neg (fun e => f2 ⟨(q.mp e).symm, z⟩)]
/-- the manager -/
def RMg (g : Gh) (σ : Sg) : Prop := NR g.N (σ.2.1 10103 g.x 0) (σ.1 500300 g.m 0) ∧ ∀ a, σ.2.1 10103 g.x 0 = some a → σ.1 30200 a 0 = 0
theorem RMg.fr (h : RMg g σ) (s : RS E g σ) (F : Fr K J σ σ') (hK : ([10103, 500300, 30200].all fun c => !K c) = true) : RMg g σ' := by
  simp only [List.all_cons, List.all_nil, Bool.and_true, Bool.and_eq_true, Bool.not_eq_true'] at hK
  obtain ⟨k1, k2, k3⟩ := hK
  unfold RMg
  rw [(F.2.2 _ _ _ s.kx k1).2, (F.2.2 _ _ _ s.km k2).1]
  refine ⟨h.1, fun a ha => ?_⟩
  rw [(F.2.2 _ _ _ (by rw [s.wf _ _ _ _ ha (by decide)]; decide) k3).1]
  exact h.2 a ha
end FRM
