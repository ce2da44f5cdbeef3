/-! what new cells and single writes leave of lists and shapes; deliver, watchNode, accept -/
theorem WF.n {σ : Sg} {q k : Nat} (h : WF σ) (hq : σ.2.2.2 q = 0) : WF (sN σ q k) := by
  intro c a x b hb hc
  have hb' : (if a = q then none else σ.2.1 c a x) = some b := hb
  by_cases e : a = q
  · rw [if_pos e] at hb'; cases hb'
  · rw [if_neg e] at hb'
    have h1 := h c a x b hb' hc
    have hne : b ≠ q := fun z => hc (by rw [← h1, z]; exact hq)
    show (if b = q then k else σ.2.2.2 b) = _
    rw [if_neg hne]; exact h1
theorem SHp.n {σ : Sg} {P : Nat → Nat} {q k : Nat} (h : SHp σ P) (hw : WF σ) (hq : σ.2.2.2 q = 0) : SHp (sN σ q k) P := by
  have h0 : P 0 ≠ q := ne0 h.1 hq (by decide)
  have hj : ∀ j, j < 14 → P (shc j).2.1 ≠ q := by
    have h2 : P 2 ≠ q := ne0 (hw 20208 (P 0) 0 (P 2) (h.2 1 (by decide)) (by decide)) hq (by decide)
    have h6 : P 6 ≠ q := ne0 (hw 20309 (P 0) 0 (P 6) (h.2 2 (by decide)) (by decide)) hq (by decide)
    have h8 : P 8 ≠ q := ne0 (hw 20404 (P 0) 0 (P 8) (h.2 3 (by decide)) (by decide)) hq (by decide)
    have e : ∀ j, j < 14 → (shc j).2.1 = 0 ∨ (shc j).2.1 = 2 ∨ (shc j).2.1 = 6 ∨ (shc j).2.1 = 8 := by decide
    intro j hj
    rcases e j hj with e | e | e | e <;> rw [e] <;> assumption
  refine ⟨?_, fun j hj' => ?_⟩
  · show (if P 0 = q then k else σ.2.2.2 (P 0)) = 2
    rw [if_neg h0]; exact h.1
  · show (if P (shc j).2.1 = q then none else _) = _
    rw [if_neg (hj j hj')]; exact h.2 j hj'
theorem SHp.i {σ : Sg} {P : Nat → Nat} {c a x : Nat} {v : Int32} (h : SHp σ P) : SHp (sI σ c a x v) P := h
theorem SHp.o {σ : Sg} {P : Nat → Nat} {c a x : Nat} {v : Option Nat} (h : SHp σ P) (hc : ∀ j, j < 14 → (shc j).1 ≠ c) : SHp (sO σ c a x v) P :=
  ⟨h.1, fun j hj => by rw [rOO (hc j hj)]; exact h.2 j hj⟩
theorem SHp.eqk {E : FE} {σ σ' : Sg} {P : Nat → Nat} {k ka : Nat} (h : SHp σ P) (hw : WF σ) (he : Eqk E k ka σ σ') (hk : 20 ≤ k) (hka : 20 ≤ ka) : SHp σ' P := by
  have h2 := hw 20208 (P 0) 0 (P 2) (h.2 1 (by decide)) (by decide)
  have h6 := hw 20309 (P 0) 0 (P 6) (h.2 2 (by decide)) (by decide)
  have h8 := hw 20404 (P 0) 0 (P 8) (h.2 3 (by decide)) (by decide)
  have e : ∀ j, j < 14 → ((shc j).2.1 = 0 ∨ (shc j).2.1 = 2 ∨ (shc j).2.1 = 6 ∨ (shc j).2.1 = 8) ∧ (shc j).1 / 10000 < 20 := by decide
  refine ⟨by rw [he.1 _ (by rw [h.1]; decide)]; exact h.1, fun j hj => ?_⟩
  obtain ⟨e1, e2⟩ := e j hj
  have hz : σ.2.2.2 (P (shc j).2.1) ≠ 0 := by
    rcases e1 with e | e | e | e <;> rw [e]
    · rw [h.1]; decide
    · rw [h2]; decide
    · rw [h6]; decide
    · rw [h8]; decide
  rw [(he.2.2.1 _ _ _ hz (by omega) (by omega)).2]
  exact h.2 j hj
theorem LLx.n {E : FE} {k ka tk : Nat} {ad : Nat → Nat} {L : Nat → List Nat} {AR : Nat → Nat} {σ : Sg} {q k' : Nat} (h : LLx E k ka tk ad L AR σ) (hk0 : k ≠ 0) (hka0 : ka ≠ 0) (hq : σ.2.2.2 q = 0) (hqe : q ≠ fe E) : LLx E k ka tk ad L AR (sN σ q k') := by
  obtain ⟨h0, h1, h2⟩ := h
  refine ⟨by simp only [sN]; rw [if_neg hqe.symm]; exact h0, fun p hp => ?_, h2⟩
  obtain ⟨g1, g2, g3, g4, g5⟩ := h1 p hp
  have hna : ad p ≠ q := ne0 g1 hq hk0
  refine ⟨by simp only [sN]; rw [if_neg hna]; exact g1, by simp only [sN]; rw [if_neg hna]; exact g2, by simp only [sN]; rw [if_neg hna]; exact g3, g4, ?_⟩
  rcases g5 with g5 | ⟨k1, k2, k3, k4, k5⟩
  · exact Or.inl g5
  · have hnr : AR p ≠ q := ne0 k1 hq hka0
    have hl : lnK ka (sN σ q k') (AR p) = lnK ka σ (AR p) := by simp [lnK, sN, hnr]
    exact Or.inr ⟨by simp only [sN]; rw [if_neg hnr]; exact k1, by rw [hl]; exact k2, by rw [hl]; exact k3, by rw [hl]; exact k4, fun i b hb => by simp only [sN]; rw [if_neg hnr]; exact k5 i b hb⟩
theorem LLx.i {E : FE} {k ka tk : Nat} {ad : Nat → Nat} {L : Nat → List Nat} {AR : Nat → Nat} {σ : Sg} {c a x : Nat} {v : Int32} (h : LLx E k ka tk ad L AR σ) (h1 : c ≠ 10000 * k + 200) (h2 : c ≠ 10000 * ka + 9900) : LLx E k ka tk ad L AR (sI σ c a x v) := by
  obtain ⟨g0, g1, g2⟩ := h
  refine ⟨g0, fun p hp => ?_, g2⟩
  obtain ⟨a1, a2, a3, a4, a5⟩ := g1 p hp
  have hl : lnK ka (sI σ c a x v) (AR p) = lnK ka σ (AR p) := by unfold lnK; rw [rII (fun e => h2 e.symm)]
  refine ⟨a1, a2, by rw [rII (fun e => h1 e.symm)]; exact a3, a4, ?_⟩
  rcases a5 with a5 | ⟨k1, k2, k3, k4, k5⟩
  · exact Or.inl a5
  · exact Or.inr ⟨k1, by rw [hl]; exact k2, by rw [hl]; exact k3, by rw [hl]; exact k4, k5⟩
theorem LLx.o {E : FE} {k ka tk : Nat} {ad : Nat → Nat} {L : Nat → List Nat} {AR : Nat → Nat} {σ : Sg} {c a x : Nat} {v : Option Nat} (h : LLx E k ka tk ad L AR σ) (h1 : c ≠ 10000 * k + 100) (h2 : c ≠ 10000 * ka + tk) : LLx E k ka tk ad L AR (sO σ c a x v) := by
  obtain ⟨g0, g1, g2⟩ := h
  refine ⟨g0, fun p hp => ?_, g2⟩
  obtain ⟨a1, a2, a3, a4, a5⟩ := g1 p hp
  refine ⟨a1, by rw [rOO (fun e => h1 e.symm)]; exact a2, a3, a4, ?_⟩
  rcases a5 with a5 | ⟨k1, k2, k3, k4, k5⟩
  · exact Or.inl a5
  · exact Or.inr ⟨k1, k2, k3, k4, fun i b hb => by rw [rOO (fun e => h2 e.symm)]; exact k5 i b hb⟩
