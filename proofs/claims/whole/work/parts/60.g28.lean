section MC
variable {E : FE} {g : Gh} {σ σ' σ2 τ τ' : Sg} {K J : Nat → Bool} {n n' m : Nat} {A : Nat → Nat}
/-! what touches the model's places alone, and what leaves them alone -/
def mpl (A : Nat → Nat) (m c x : Nat) : Prop := 500000 < c ∧ (x = m ∨ ∃ j, j < 31 ∧ x = A j)
def MEq (A : Nat → Nat) (m : Nat) (τ τ' : Sg) : Prop := ∀ c x i, mpl A m c x → τ.1 c x i = τ'.1 c x i
def CEq (A : Nat → Nat) (m : Nat) (τ τ' : Sg) : Prop := τ.2 = τ'.2 ∧ ∀ c x i, ¬ mpl A m c x → τ.1 c x i = τ'.1 c x i
def MOp (A : Nat → Nat) (m : Nat) (M : Sg → Sg) : Prop := (∀ τ, CEq A m (M τ) τ) ∧ ∀ τ τ', MEq A m τ τ' → MEq A m (M τ) (M τ')
def COp (A : Nat → Nat) (m : Nat) (C : Sg → Sg) : Prop := (∀ τ, MEq A m (C τ) τ) ∧ ∀ τ τ', CEq A m τ τ' → CEq A m (C τ) (C τ')
theorem MC_eq (h1 : MEq A m τ τ') (h2 : CEq A m τ τ') : τ = τ' := by
  refine Prod.ext (funext fun c => funext fun x => funext fun i => ?_) h2.1
  by_cases z : mpl A m c x
  · exact h1 c x i z
  · exact h2.2 c x i z
theorem CEq.symm (h : CEq A m τ τ') : CEq A m τ' τ := ⟨h.1.symm, fun c x i z => (h.2 c x i z).symm⟩
theorem CEq.trans {ρ : Sg} (h : CEq A m τ τ') (h2 : CEq A m τ' ρ) : CEq A m τ ρ := ⟨h.1.trans h2.1, fun c x i z => (h.2 c x i z).trans (h2.2 c x i z)⟩
theorem MEq.symm (h : MEq A m τ τ') : MEq A m τ' τ := fun c x i z => (h c x i z).symm
theorem MEq.trans {ρ : Sg} (h : MEq A m τ τ') (h2 : MEq A m τ' ρ) : MEq A m τ ρ := fun c x i z => (h c x i z).trans (h2 c x i z)
/-- they commute -/
theorem MC_comm {M C : Sg → Sg} (hM : MOp A m M) (hC : COp A m C) (τ : Sg) : M (C τ) = C (M τ) :=
  MC_eq ((hM.2 _ _ (hC.1 τ)).trans (hC.1 (M τ)).symm) ((hM.1 (C τ)).trans (hC.2 _ _ (hM.1 τ).symm))
theorem MOp.id : MOp A m (fun τ => τ) := ⟨fun _ => ⟨rfl, fun _ _ _ _ => rfl⟩, fun _ _ h => h⟩
theorem MOp.comp {M N : Sg → Sg} (h1 : MOp A m M) (h2 : MOp A m N) : MOp A m (fun τ => N (M τ)) := ⟨fun τ => (h2.1 (M τ)).trans (h1.1 τ), fun τ τ' h => h2.2 _ _ (h1.2 _ _ h)⟩
theorem COp.id : COp A m (fun τ => τ) := ⟨fun _ _ _ _ _ => rfl, fun _ _ h => h⟩
theorem COp.comp {M N : Sg → Sg} (h1 : COp A m M) (h2 : COp A m N) : COp A m (fun τ => N (M τ)) := ⟨fun τ => (h2.1 (M τ)).trans (h1.1 τ), fun τ τ' h => h2.2 _ _ (h1.2 _ _ h)⟩
theorem MOp.it {f : Nat → Sg → Sg} (h : ∀ k, MOp A m (f k)) : ∀ (k i : Nat), MOp A m (fun τ => itF f k i τ)
  | 0, _ => MOp.id
  | k + 1, i => MOp.comp (M := f i) (N := fun τ => itF f k (i + 1) τ) (h i) (MOp.it h k (i + 1))
theorem COp.it {f : Nat → Sg → Sg} (h : ∀ k, COp A m (f k)) : ∀ (k i : Nat), COp A m (fun τ => itF f k i τ)
  | 0, _ => COp.id
  | k + 1, i => COp.comp (M := f i) (N := fun τ => itF f k (i + 1) τ) (h i) (COp.it h k (i + 1))
/-- one write, its value by what the model has -/
theorem MOp.w {c x : Nat} {i : Nat} {v : Sg → Int32} (hp : mpl A m c x) (hv : ∀ τ τ', MEq A m τ τ' → v τ = v τ') : MOp A m (fun τ => sI τ c x i (v τ)) := by
  refine ⟨fun τ => ⟨rfl, fun c' x' i' hz => ?_⟩, fun τ τ' h c' x' i' hz => ?_⟩
  · show (if c' = c ∧ x' = x ∧ i' = i then v τ else τ.1 c' x' i') = _
    rw [if_neg]
    rintro ⟨rfl, rfl, -⟩
    exact hz hp
  · show (if c' = c ∧ x' = x ∧ i' = i then v τ else τ.1 c' x' i') = (if c' = c ∧ x' = x ∧ i' = i then v τ' else τ'.1 c' x' i')
    split
    · exact hv τ τ' h
    · exact h c' x' i' hz
theorem COp.w {c x i : Nat} {v : Sg → Int32} (hc : c ≤ 500000) (hv : ∀ τ τ', CEq A m τ τ' → v τ = v τ') : COp A m (fun τ => sI τ c x i (v τ)) := by
  refine ⟨fun τ c' x' i' hz => ?_, fun τ τ' h => ⟨h.1, fun c' x' i' hz => ?_⟩⟩
  · show (if c' = c ∧ x' = x ∧ i' = i then v τ else τ.1 c' x' i') = _
    rw [if_neg]
    rintro ⟨rfl, -⟩
    have := hz.1; omega
  · show (if c' = c ∧ x' = x ∧ i' = i then v τ else τ.1 c' x' i') = (if c' = c ∧ x' = x ∧ i' = i then v τ' else τ'.1 c' x' i')
    split
    · exact hv τ τ' h
    · exact h.2 c' x' i' hz
theorem COp.o {c x i : Nat} {v : Sg → Option Nat} (hv : ∀ τ τ', CEq A m τ τ' → v τ = v τ') : COp A m (fun τ => sO τ c x i (v τ)) := by
  refine ⟨fun τ c' x' i' hz => rfl, fun τ τ' h => ⟨?_, h.2⟩⟩
  show (sO τ c x i (v τ)).2 = (sO τ' c x i (v τ')).2
  rw [hv τ τ' h]
  show ((fun c' a' x' => if c' = c ∧ a' = x ∧ x' = i then v τ' else τ.2.1 c' a' x', τ.2.2) : (Nat → Nat → Nat → Option Nat) × _) = (fun c' a' x' => if c' = c ∧ a' = x ∧ x' = i then v τ' else τ'.2.1 c' a' x', τ'.2.2)
  rw [h.1]
theorem CEq.r (h : CEq A m τ τ') {c : Nat} (hc : c ≤ 500000) : τ.1 c = τ'.1 c := funext fun x => funext fun i => h.2 c x i (fun z => by have := z.1; omega)
theorem MEq.a (h : MEq A m τ τ') {c j : Nat} (hc : 500000 < c) (hj : j < 31) : τ.1 c (A j) = τ'.1 c (A j) := funext fun i => h c _ i ⟨hc, Or.inr ⟨j, hj, rfl⟩⟩
theorem MEq.mm (h : MEq A m τ τ') {c : Nat} (hc : 500000 < c) : τ.1 c m = τ'.1 c m := funext fun i => h c _ i ⟨hc, Or.inl rfl⟩
theorem plA {j c : Nat} (hc : 500000 < c) (hj : j < 31) : mpl A m c (A j) := ⟨hc, Or.inr ⟨j, hj, rfl⟩⟩
theorem plM {c : Nat} (hc : 500000 < c) : mpl A m c m := ⟨hc, Or.inl rfl⟩
theorem MOp.if {P : Sg → Prop} [∀ τ, Decidable (P τ)] {M N : Sg → Sg} (hP : ∀ τ τ', MEq A m τ τ' → (P τ ↔ P τ')) (h1 : MOp A m M) (h2 : MOp A m N) : MOp A m (fun τ => if P τ then M τ else N τ) := by
  refine ⟨fun τ => ?_, fun τ τ' h => ?_⟩
  · show CEq A m (if P τ then M τ else N τ) τ
    split
    · exact h1.1 τ
    · exact h2.1 τ
  · show MEq A m (if P τ then M τ else N τ) (if P τ' then M τ' else N τ')
    by_cases z : P τ
    · rw [if_pos z, if_pos ((hP τ τ' h).mp z)]; exact h1.2 _ _ h
    · rw [if_neg z, if_neg (mt (hP τ τ' h).mpr z)]; exact h2.2 _ _ h
theorem COp.if {P : Sg → Prop} [∀ τ, Decidable (P τ)] {M N : Sg → Sg} (hP : ∀ τ τ', CEq A m τ τ' → (P τ ↔ P τ')) (h1 : COp A m M) (h2 : COp A m N) : COp A m (fun τ => if P τ then M τ else N τ) := by
  refine ⟨fun τ => ?_, fun τ τ' h => ?_⟩
  · show MEq A m (if P τ then M τ else N τ) τ
    split
    · exact h1.1 τ
    · exact h2.1 τ
  · show CEq A m (if P τ then M τ else N τ) (if P τ' then M τ' else N τ')
    by_cases z : P τ
    · rw [if_pos z, if_pos ((hP τ τ' h).mp z)]; exact h1.2 _ _ h
    · rw [if_neg z, if_neg (mt (hP τ τ' h).mpr z)]; exact h2.2 _ _ h
/-- what a list's call leaves, after a step of the model on both sides -/
theorem Eqk.mo {k ka : Nat} {M : Sg → Sg} {T σ1 : Sg} (hM : MOp A m M) (h : Eqk E k ka T σ1) (hk : k < 50) (hka : ka < 50) (hA : ∀ j, j < 31 → T.2.2.2 (A j) ≠ 0) (hm : T.2.2.2 m ≠ 0) : Eqk E k ka (M T) (M σ1) := by
  have c1 := hM.1 T
  have c2 := hM.1 σ1
  have hE : MEq A m T σ1 := by
    rintro c x i ⟨hc, hx⟩
    have hx0 : T.2.2.2 x ≠ 0 := by
      rcases hx with rfl | ⟨j, hj, rfl⟩
      · exact hm
      · exact hA j hj
    exact (h.2.2.1 c x i hx0 (by omega) (by omega)).1.symm
  have c3 := hM.2 _ _ hE
  refine ⟨fun x hx => ?_, ?_, fun c x i hx n1 n2 => ⟨?_, ?_⟩, fun x hx => ?_, fun hf => ?_, fun hw => ?_⟩
  · rw [c2.1]; rw [c1.1] at hx ⊢; exact h.1 x hx
  · rw [c2.1, c1.1]; exact h.2.1
  · rw [c1.1] at hx
    by_cases z : mpl A m c x
    · exact (c3 c x i z).symm
    · rw [c2.2 c x i z, c1.2 c x i z]; exact (h.2.2.1 c x i hx n1 n2).1
  · rw [c2.1, c1.1]; rw [c1.1] at hx; exact (h.2.2.1 c x i hx n1 n2).2
  · rw [c2.1]; rw [c1.1] at hx; exact h.2.2.2.1 x hx
  · rw [c2.1]; rw [c1.1] at hf; exact h.2.2.2.2.1 hf
  · have hw1 : WF T := by intro c a x b hb hc; have := hw c a x b (by rw [c1.1]; exact hb) hc; rw [c1.1] at this; exact this
    have hw2 := h.2.2.2.2.2 hw1
    intro c a x b hb hc
    rw [c2.1] at hb ⊢; exact hw2 c a x b hb hc
theorem LLx.mo {k ka tk : Nat} {ad : Nat → Nat} {L : Nat → List Nat} {AR : Nat → Nat} {M : Sg → Sg} (hM : MOp A m M) (h : LLx E k ka tk ad L AR σ) (hk : k < 49) (hka : ka < 49) : LLx E k ka tk ad L AR (M σ) := by
  have c1 := hM.1 σ
  have e : ∀ c x i, c < 500000 → (M σ).1 c x i = σ.1 c x i := fun c x i hc => c1.2 c x i (fun z => by have := z.1; omega)
  obtain ⟨h0, h1, h2⟩ := h
  refine ⟨by rw [c1.1]; exact h0, fun p hp => ?_, h2⟩
  obtain ⟨a1, a2, a3, a4, a5⟩ := h1 p hp
  refine ⟨by rw [c1.1]; exact a1, by rw [c1.1]; exact a2, by rw [e _ _ _ (by omega)]; exact a3, a4, ?_⟩
  rcases a5 with a5 | ⟨f1, f2, f3, f4, f5⟩
  · exact Or.inl a5
  · have hl : lnK ka (M σ) (AR p) = lnK ka σ (AR p) := by unfold lnK; rw [e _ _ _ (by omega)]
    exact Or.inr ⟨by rw [c1.1]; exact f1, by rw [hl]; exact f2, by rw [hl]; exact f3, by rw [hl]; exact f4, fun i b hb => by rw [c1.1]; exact f5 i b hb⟩
/-- a new work, and a step of the model -/
theorem wkS_m {M : Sg → Sg} {q : Nat} {k c : Int32} {mo : Option Nat} (hM : MOp A m M) (hA : ∀ j, j < 31 → A j ≠ q) (hm : m ≠ q) : M (wkS σ q k mo c) = wkS (M σ) q k mo c := by
  have c1 := hM.1 σ
  have c2 := hM.1 (wkS σ q k mo c)
  have hE : MEq A m (wkS σ q k mo c) σ := by
    rintro c' x i ⟨hc, hx⟩
    have hx0 : x ≠ q := by
      rcases hx with rfl | ⟨j, hj, rfl⟩
      · exact hm
      · exact hA j hj
    simp [wkS, sI, sO, sN, hx0]
  have c3 := hM.2 _ _ hE
  refine MC_eq (A := A) (m := m) (fun c' x i hz => ?_) ⟨?_, fun c' x i hz => ?_⟩
  · have hx0 : x ≠ q := by
      rcases hz.2 with rfl | ⟨j, hj, rfl⟩
      · exact hm
      · exact hA j hj
    rw [c3 c' x i hz]
    simp [wkS, sI, sO, sN, hx0]
  · rw [c2.1]
    show (wkS σ q k mo c).2 = (wkS (M σ) q k mo c).2
    unfold wkS sI sO sN
    simp only [c1.1]
  · rw [c2.2 c' x i hz]
    unfold wkS sI sO sN
    simp only []
    by_cases e : x = q
    · simp [e]
    · simp only [e, if_false]
      repeat' split
      all_goals first | rfl | exact (c1.2 c' x i hz).symm
end MC
