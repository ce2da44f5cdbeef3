section FRM
variable {E : FE} {g : Gh} {σ σ' σ2 : Sg} {K J : Nat → Bool} {n n' : Nat}
def tkX (τ : Sg) (m : Nat) (A : Nat → Nat) (p W O : Nat) : Sg := itF (shF A) (6 * (W - 1)) (384 * p) (sI (tkB τ A p (tkL τ A p (tkV τ A p (tkO τ A p O (sI τ 500000 m 0 0))))) 720000 (A 21) p (nI (W - 1)))
def KM1 (k b : Int32) : Nat → Bool := fun c => c == 730000 || c == 720000 || c == 810000 || c == 500000 || ((k == 1) && (c == 750000 || c == 760000 || c == 740000)) || c == 770000 || (!decide (b < 0) && c == 610000)
/-- what the model's take writes -/
theorem tk_m (τ : Sg) (m : Nat) (A : Nat → Nat) (p W O : Nat) :
    (∀ x, (tkX τ m A p W O).1 730000 (A 22) x = if 384 * p ≤ x ∧ x < 384 * p + 6 * (W - 1) then τ.1 730000 (A 22) (x + 6) else τ.1 730000 (A 22) x) ∧
    (tkX τ m A p W O).1 720000 (A 21) p = nI (W - 1) ∧
    (∀ x, (tkX τ m A p W O).1 610000 (A 10) x = if ¬ τ.1 730000 (A 22) (384 * p + 1) < 0 ∧ x = (τ.1 730000 (A 22) (384 * p + 1)).toNatClampNeg then 3 else τ.1 610000 (A 10) x) ∧
    ((tkX τ m A p W O).1 810000 (A 30) (5 * p) = τ.1 730000 (A 22) (384 * p) ∧ (tkX τ m A p W O).1 810000 (A 30) (5 * p + 1) = τ.1 730000 (A 22) (384 * p + 2) ∧ (tkX τ m A p W O).1 810000 (A 30) (5 * p + 2) = (if τ.1 730000 (A 22) (384 * p + 1) < 0 then -1 else τ.1 620000 (A 11) (τ.1 730000 (A 22) (384 * p + 1)).toNatClampNeg) ∧ (tkX τ m A p W O).1 810000 (A 30) (5 * p + 3) = τ.1 730000 (A 22) (384 * p + 3) ∧ (tkX τ m A p W O).1 810000 (A 30) (5 * p + 4) = τ.1 730000 (A 22) (384 * p + 4)) ∧
    (τ.1 730000 (A 22) (384 * p) = 1 → (tkX τ m A p W O).1 750000 (A 24) (12 * p + O) = τ.1 730000 (A 22) (384 * p + 3) ∧ (tkX τ m A p W O).1 760000 (A 25) (12 * p + O) = τ.1 730000 (A 22) (384 * p + 5) ∧ (tkX τ m A p W O).1 740000 (A 23) p = nI (O + 1) ∧ ∀ i, i < O → (tkX τ m A p W O).1 750000 (A 24) (12 * p + i) = τ.1 750000 (A 24) (12 * p + i) ∧ (tkX τ m A p W O).1 760000 (A 25) (12 * p + i) = τ.1 760000 (A 25) (12 * p + i)) ∧
    (tkX τ m A p W O).1 770000 (A 26) p = (if τ.1 730000 (A 22) (384 * p) = 3 ∨ τ.1 730000 (A 22) (384 * p) = 5 then 0 else τ.1 770000 (A 26) p) ∧
    (tkX τ m A p W O).2 = τ.2 ∧ (tkX τ m A p W O).1 500000 m 0 = 0 ∧
    Fr (KM1 (τ.1 730000 (A 22) (384 * p)) (τ.1 730000 (A 22) (384 * p + 1))) (fun _ => false) τ (tkX τ m A p W O) := by
  obtain ⟨h1, h2, h3, h4⟩ := sh_r (A := A) (6 * (W - 1)) (384 * p) (sI (tkB τ A p (tkL τ A p (tkV τ A p (tkO τ A p O (sI τ 500000 m 0 0))))) 720000 (A 21) p (nI (W - 1)))
  have e73 : ∀ x, (sI (tkB τ A p (tkL τ A p (tkV τ A p (tkO τ A p O (sI τ 500000 m 0 0))))) 720000 (A 21) p (nI (W - 1))).1 730000 (A 22) x = τ.1 730000 (A 22) x := by
    intro x
    rw [rII (by decide)]
    unfold tkB tkL tkV tkO
    repeat' split
    all_goals simp [sI]
  refine ⟨fun x => ?_, ?_, fun x => ?_, ⟨?_, ?_, ?_, ?_, ?_⟩, fun hk => ⟨?_, ?_, ?_, fun i hi => ⟨?_, ?_⟩⟩, ?_, ?_, ?_, ?_⟩
  · unfold tkX; rw [h1, e73, e73]
  · unfold tkX; rw [h2 _ _ _ (by decide), rIs]
  · unfold tkX
    rw [h2 _ _ _ (by decide), rII (by decide)]
    have e : (tkL τ A p (tkV τ A p (tkO τ A p O (sI τ 500000 m 0 0)))).1 610000 (A 10) x = τ.1 610000 (A 10) x := by
      unfold tkL tkV tkO
      repeat' split
      all_goals simp [sI]
    unfold tkB
    by_cases z : τ.1 730000 (A 22) (384 * p + 1) < 0
    · rw [if_pos z, if_neg (fun y => y.1 z), e]
    · rw [if_neg z]
      by_cases y : x = (τ.1 730000 (A 22) (384 * p + 1)).toNatClampNeg
      · rw [if_pos ⟨z, y⟩, y, rIs]
      · rw [if_neg (fun q => y q.2), rIx y, e]
  · unfold tkX
    rw [h2 _ _ _ (by decide), rII (by decide)]
    unfold tkB tkL
    split <;> simp [sI]
  · unfold tkX
    rw [h2 _ _ _ (by decide), rII (by decide)]
    unfold tkB tkL
    split <;> simp [sI]
  · unfold tkX
    rw [h2 _ _ _ (by decide), rII (by decide)]
    unfold tkB tkL
    by_cases z : τ.1 730000 (A 22) (384 * p + 1) < 0
    · rw [if_pos z]; simp [sI]
    · rw [if_neg z]; simp [sI]
  · unfold tkX
    rw [h2 _ _ _ (by decide), rII (by decide)]
    unfold tkB tkL
    split <;> simp [sI]
  · unfold tkX
    rw [h2 _ _ _ (by decide), rII (by decide)]
    unfold tkB tkL
    split <;> simp [sI]
  · unfold tkX
    rw [h2 _ _ _ (by decide), rII (by decide)]
    unfold tkB tkL tkV tkO
    rw [if_pos hk]
    repeat' split
    all_goals simp [sI]
  · unfold tkX
    rw [h2 _ _ _ (by decide), rII (by decide)]
    unfold tkB tkL tkV tkO
    rw [if_pos hk]
    repeat' split
    all_goals simp [sI]
  · unfold tkX
    rw [h2 _ _ _ (by decide), rII (by decide)]
    unfold tkB tkL tkV tkO
    rw [if_pos hk]
    repeat' split
    all_goals simp [sI]
  · unfold tkX
    rw [h2 _ _ _ (by decide), rII (by decide)]
    unfold tkB tkL tkV tkO
    rw [if_pos hk]
    repeat' split
    all_goals (simp [sI]; intro z; omega)
  · unfold tkX
    rw [h2 _ _ _ (by decide), rII (by decide)]
    unfold tkB tkL tkV tkO
    rw [if_pos hk]
    repeat' split
    all_goals (simp [sI]; intro z; omega)
  · unfold tkX
    rw [h2 _ _ _ (by decide), rII (by decide)]
    have e : ∀ a x, (tkO τ A p O (sI τ 500000 m 0 0)).1 770000 a x = τ.1 770000 a x := by
      intro a x
      unfold tkO
      split <;> simp [sI]
    have e2 : (tkV τ A p (tkO τ A p O (sI τ 500000 m 0 0))).1 770000 (A 26) p = (if τ.1 730000 (A 22) (384 * p) = 3 ∨ τ.1 730000 (A 22) (384 * p) = 5 then 0 else τ.1 770000 (A 26) p) := by
      unfold tkV
      by_cases z : τ.1 730000 (A 22) (384 * p) = 3
      · rw [if_pos z, if_pos (Or.inl z), rIs]
      · rw [if_neg z]
        by_cases y : τ.1 730000 (A 22) (384 * p) = 5
        · rw [if_pos y, if_pos (Or.inr y), rIs]
        · rw [if_neg y, if_neg (fun q => q.elim z y), e]
    rw [← e2]
    unfold tkB tkL
    split <;> simp [sI]
  · unfold tkX
    rw [h3]
    unfold tkB tkL tkV tkO
    repeat' split
    all_goals rfl
  · unfold tkX
    rw [h2 _ _ _ (by decide), rII (by decide)]
    unfold tkB tkL tkV tkO
    repeat' split
    all_goals simp [sI]
  · have FX : Fr (KM1 (τ.1 730000 (A 22) (384 * p)) (τ.1 730000 (A 22) (384 * p + 1))) (fun _ => false) τ (sI (tkB τ A p (tkL τ A p (tkV τ A p (tkO τ A p O (sI τ 500000 m 0 0))))) 720000 (A 21) p (nI (W - 1))) := by
      refine Fr.iK ?_ (by simp [KM1])
      have FL : Fr (KM1 (τ.1 730000 (A 22) (384 * p)) (τ.1 730000 (A 22) (384 * p + 1))) (fun _ => false) τ (tkL τ A p (tkV τ A p (tkO τ A p O (sI τ 500000 m 0 0)))) := by
        unfold tkL
        refine Fr.iK (Fr.iK (Fr.iK (Fr.iK (Fr.iK ?_ (by simp [KM1])) (by simp [KM1])) (by simp [KM1])) (by simp [KM1])) (by simp [KM1])
        have FO : Fr (KM1 (τ.1 730000 (A 22) (384 * p)) (τ.1 730000 (A 22) (384 * p + 1))) (fun _ => false) τ (tkO τ A p O (sI τ 500000 m 0 0)) := by
          unfold tkO
          split
          · rename_i z
            exact Fr.iK (Fr.iK (Fr.iK (Fr.iK Fr.refl (by simp [KM1])) (by simp [KM1, z])) (by simp [KM1, z])) (by simp [KM1, z])
          · exact Fr.iK Fr.refl (by simp [KM1])
        unfold tkV
        split
        · exact Fr.iK FO (by simp [KM1])
        · split
          · exact Fr.iK FO (by simp [KM1])
          · exact FO
      unfold tkB
      split
      · exact FL
      · rename_i z
        exact Fr.iK FL (by simp [KM1, z])
    unfold tkX
    refine ⟨fun x hx => by rw [h3]; exact FX.1 x hx, fun x hx hx2 => by rw [h3] at hx2 ⊢; exact FX.2.1 x hx hx2, fun c x i hx hc => ?_⟩
    have hne : c ≠ 730000 := by
      rintro rfl
      simp [KM1] at hc
    rw [h2 _ _ _ hne, h3]
    exact FX.2.2 c x i hx hc
end FRM
