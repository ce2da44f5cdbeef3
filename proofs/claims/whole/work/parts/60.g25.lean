section FRM
variable {E : FE} {g : Gh} {σ σ' σ2 : Sg} {K J : Nat → Bool} {n n' : Nat}
theorem itF_comm {α : Type} {f h : Nat → α → α} (hc : ∀ i j a, f i (h j a) = h j (f i a)) : ∀ (k i : Nat) (a : α), itF (fun k a => h k (f k a)) k i a = itF h k i (itF f k i a)
  | 0, _, _ => rfl
  | k + 1, i, a => by
    have hc2 : ∀ (k j i : Nat) (a : α), itF f k i (h j a) = h j (itF f k i a) := by
      intro k j
      induction k with
      | zero => intro i a; rfl
      | succ k ih => intro i a; rw [itF_succ, itF_succ, hc, ih]
    rw [itF_succ, itF_succ, itF_succ, itF_comm hc k (i + 1), hc2]
/-- the held handles of a freed message, as class and model let them go -/
def lsF (D : Nat → Nat → Nat) (p a3 : Nat) : Nat → Sg → Sg := fun k τ => loseF τ (D p 2) (D p 3) (D p 4) (D p 5) (τ.2.1 330003 a3 k)
def mlH (A : Nat → Nat) (p b : Nat) (τ : Sg) (k : Nat) : Int32 := itF (hfF (τ.1 550000 (A 4)) (τ.1 560000 (A 5)) (τ.1 540000 (A 3)) p (τ.1 710000 (A 20) (4 * b + k))) 15 1 0
def mlF (A : Nat → Nat) (p b : Nat) : Nat → Sg → Sg := fun k τ => if τ.1 710000 (A 20) (4 * b + k) < 0 then τ else if mlH A p b τ k ≤ 0 then τ else if τ.1 550000 (A 4) (16 * p + (mlH A p b τ k).toNatClampNeg) ≤ 0 then τ else sI τ 550000 (A 4) (16 * p + (mlH A p b τ k).toNatClampNeg) (τ.1 550000 (A 4) (16 * p + (mlH A p b τ k).toNatClampNeg) - 1)
theorem dropS_m {h a1 a2 a3 i c a x : Nat} {v : Int32} (hc : c ≠ 130000 ∧ c ≠ 140000 ∧ c ≠ 80300) : dropS (sI σ c a x v) h a1 a2 a3 i = sI (dropS σ h a1 a2 a3 i) c a x v := by
  unfold dropS
  rw [rII (show (130000 : Nat) ≠ c by omega), rII (show (140000 : Nat) ≠ c by omega), rII (show (80300 : Nat) ≠ c by omega)]
  split
  · split
    · show sI (sI (sO σ 120003 a1 i none) c a x v) 80300 h 0 _ = _
      rw [sI_comm (show c ≠ 80300 by omega)]
    · rfl
  · rfl
theorem takeS_m {h a1 a2 a3 c a x : Nat} {v y : Int32} (hc : c ≠ 130000 ∧ c ≠ 140000 ∧ c ≠ 80300) : (takeFromF (sI σ c a x v) h a1 a2 a3 y 1).2 = sI (takeFromF σ h a1 a2 a3 y 1).2 c a x v := by
  unfold takeFromF
  rw [rII (show (130000 : Nat) ≠ c by omega), rII (show (140000 : Nat) ≠ c by omega), rOI]
  by_cases z1 : hasF (σ.2.1 120003 a1) y = 0
  · rw [if_pos z1, if_pos z1]
  · rw [if_neg z1, if_neg z1, if_neg (by decide : ¬ (1 : Int32) = 0), if_neg (by decide : ¬ (1 : Int32) = 0)]
    by_cases z2 : σ.1 130000 a2 y.toNatClampNeg = 0
    · rw [if_pos z2, if_pos z2]
    · rw [if_neg z2, if_neg z2]
      show dropS (sI (sI σ c a x v) 130000 a2 _ _) h a1 a2 a3 _ = sI (dropS _ h a1 a2 a3 _) c a x v
      rw [sI_comm (show c ≠ 130000 by omega), dropS_m hc]
theorem loseF_m {h a1 a2 a3 c a x : Nat} {v : Int32} {w : Option Nat} (hc : c ≠ 130000 ∧ c ≠ 140000 ∧ c ≠ 80300) : loseF (sI σ c a x v) h a1 a2 a3 w = sI (loseF σ h a1 a2 a3 w) c a x v := by
  unfold loseF
  split
  · rfl
  · exact takeS_m hc
theorem dropS_r {h a1 a2 a3 i c : Nat} (hc : 500000 ≤ c) : (dropS σ h a1 a2 a3 i).1 c = σ.1 c := by
  unfold dropS
  split
  · split
    · funext a x; exact rII (show c ≠ 80300 by omega)
    · rfl
  · rfl
theorem loseF_r {h a1 a2 a3 c : Nat} {w : Option Nat} (hc : 500000 ≤ c) : (loseF σ h a1 a2 a3 w).1 c = σ.1 c := by
  unfold loseF
  split
  · rfl
  · unfold takeFromF
    split
    · rfl
    · rw [if_neg (by decide)]
      split
      · rfl
      · show (dropS _ h a1 a2 a3 _).1 c = _
        rw [dropS_r hc]
        funext a x; exact rII (show c ≠ 130000 by omega)
theorem loseF_o {h a1 a2 a3 c a x : Nat} {w : Option Nat} (hc : c ≠ 120003) : (loseF σ h a1 a2 a3 w).2.1 c a x = σ.2.1 c a x := by
  unfold loseF
  split
  · rfl
  · unfold takeFromF
    split
    · rfl
    · rw [if_neg (by decide)]
      split
      · rfl
      · show (dropS _ h a1 a2 a3 _).2.1 c a x = _
        unfold dropS
        split
        · split
          · exact rOO hc
          · rfl
        · rfl
theorem ml_ls {D : Nat → Nat → Nat} {A : Nat → Nat} {p a3 b : Nat} (i j : Nat) (τ : Sg) : lsF D p a3 i (mlF A p b j τ) = mlF A p b j (lsF D p a3 i τ) := by
  have r : ∀ c, 500000 ≤ c → (lsF D p a3 i τ).1 c = τ.1 c := fun c hc => loseF_r hc
  have hH : mlH A p b (lsF D p a3 i τ) j = mlH A p b τ j := by unfold mlH; rw [r _ (by decide), r _ (by decide), r _ (by decide), r _ (by decide)]
  unfold mlF
  rw [hH, r _ (by decide), r _ (by decide)]
  split
  · rfl
  · split
    · rfl
    · split
      · rfl
      · exact loseF_m (by decide)
theorem RR.lose1 {p a3 b k : Nat} (R : RR E g n σ) (hn : n ≤ 512) (hp : p < 4) (ha : al g σ p) (h : NR g.N (σ.2.1 330003 a3 k) (σ.1 710000 (g.A 20) (4 * b + k))) : RR E g n (mlF g.A p b k (lsF g.D p a3 k σ)) := by
  have r : ∀ c, 500000 ≤ c → (lsF g.D p a3 k σ).1 c = σ.1 c := fun c hc => loseF_r hc
  have hH : mlH g.A p b (lsF g.D p a3 k σ) k = mlH g.A p b σ k := by unfold mlH; rw [r _ (by decide), r _ (by decide), r _ (by decide), r _ (by decide)]
  obtain ⟨H, hu⟩ := (R.h p hp).1 ha
  unfold mlF
  rw [hH, r _ (by decide), r _ (by decide)]
  rcases h with ⟨h1, h2⟩ | ⟨a, h1, h2⟩
  · rw [h2, if_pos (by decide)]
    unfold lsF loseF
    rw [if_pos h1]; exact R
  · have ha3 := R.s.wf _ _ _ _ h1 (by decide)
    have hNb := R.no.ok R.p (by omega) ha3
    rw [h2, if_neg (lt0_nI (by omega))]
    have hf := H.hfor (K := fun a => σ.2.2.2 a = 3) (by omega) R.no.2.1 (fun h a e => R.s.wf _ _ _ _ e (by decide)) (fun a ha => by have := R.no.ok R.p (by omega) ha; omega) (a := a) ha3
    have hmH : mlH g.A p b σ k = itF (hfF (σ.1 550000 (g.A 4)) (σ.1 560000 (g.A 5)) (σ.1 540000 (g.A 3)) p (nI (g.N a))) 15 1 0 := by unfold mlH; rw [h2]
    rw [hmH]
    rcases hf with ⟨f1, f2⟩ | ⟨j, j1, j2, j3, f1, f2⟩
    · rw [f2, if_pos (by decide)]
      unfold lsF loseF
      rw [h1, if_neg (by simp), f1]
      unfold takeFromF
      rw [if_pos (show hasF (σ.2.1 120003 (g.D p 3)) (-1) = 0 by unfold hasF; rw [if_pos (by decide)])]
      exact R
    · have hj0 : ¬ nI j ≤ 0 := by rw [le0_nI (by omega)]; omega
      rw [f2, if_neg hj0, nI_clamp (show j < 2 ^ 31 by omega)]
      obtain ⟨k1, k2, s, w, e1, e2, l1, l2, h3⟩ := H.1 j j1 j2
      have hh : ¬ hasF (σ.2.1 120003 (g.D p 3)) (nI j) = 0 := by
        rw [H.has (by omega), H.hh0 (by omega) j1 j2, j3]; simp
      have hl : lsF g.D p a3 k σ = if nI s = 0 then σ else dropS (sI σ 130000 (g.D p 4) j (nI s - 1)) (g.D p 2) (g.D p 3) (g.D p 4) (g.D p 5) j := by
        unfold lsF loseF
        rw [h1, if_neg (by simp), f1]
        unfold takeFromF
        rw [if_neg hh, if_neg (by decide), nI_clamp (show j < 2 ^ 31 by omega), k1, e1]
        split
        · rfl
        · rfl
      rw [hl, e1]
      by_cases z : s = 0
      · subst z
        rw [if_pos (by decide), if_pos (show nI 0 = 0 from rfl)]; exact R
      · obtain ⟨s', rfl⟩ : ∃ s', s = s' + 1 := ⟨s - 1, by omega⟩
        have z1 : ¬ nI (s' + 1) ≤ 0 := by rw [le0_nI (by omega)]; omega
        have z2 : ¬ nI (s' + 1) = 0 := fun e => by
          have := (nI_eq (a := s' + 1) (b := 0) (by omega) (by omega)).mp e
          omega
        have ew : nI (s' + 1) - 1 = nI s' := by rw [nl1, nI_sub9 (by omega)]; rfl
        rw [if_neg z1, if_neg z2, ew]
        exact R.loseS hn hp ha j1 j2 j3 e1 e2 (by omega) (by omega)
theorem mlF_r {A : Nat → Nat} {p b k c : Nat} (hc : c ≠ 550000) : (mlF A p b k σ).1 c = σ.1 c ∧ (mlF A p b k σ).2 = σ.2 := by
  unfold mlF
  split
  · exact ⟨rfl, rfl⟩
  · split
    · exact ⟨rfl, rfl⟩
    · split
      · exact ⟨rfl, rfl⟩
      · exact ⟨funext fun a => funext fun x => rII hc, rfl⟩
theorem RR.loseN {p a3 b it : Nat} (R : RR E g n σ) (hn : n ≤ 512) (hp : p < 4) (ha : al g σ p) (h : ∀ k, k < it → NR g.N (σ.2.1 330003 a3 k) (σ.1 710000 (g.A 20) (4 * b + k))) : RR E g n (itF (mlF g.A p b) it 0 (itF (lsF g.D p a3) it 0 σ)) ∧ (∀ a x, (itF (mlF g.A p b) it 0 (itF (lsF g.D p a3) it 0 σ)).2.1 330003 a x = σ.2.1 330003 a x) := by
  rw [← itF_comm ml_ls]
  have := itF_ind (f := fun k a => mlF g.A p b k (lsF g.D p a3 k a)) (fun j τ => j ≤ it → RR E g n τ ∧ al g τ p ∧ (∀ k, τ.2.1 330003 a3 k = σ.2.1 330003 a3 k) ∧ (∀ x, τ.1 710000 (g.A 20) x = σ.1 710000 (g.A 20) x) ∧ (∀ a x, τ.2.1 330003 a x = σ.2.1 330003 a x)) it 0 σ (fun _ => ⟨R, ha, fun _ => rfl, fun _ => rfl, fun _ _ => rfl⟩) (fun j τ _ h2 ih hj => by
    obtain ⟨i1, i2, i3, i4, i5⟩ := ih (by omega)
    refine ⟨i1.lose1 hn hp i2 (by rw [i3, i4]; exact h j (by omega)), ?_, fun k => ?_, fun x => ?_, fun a x => ?_⟩
    · unfold al
      rw [(mlF_r (c := 510000) (by decide)).1, show (lsF g.D p a3 j τ).1 510000 = τ.1 510000 from loseF_r (by decide)]; exact i2
    · rw [(mlF_r (c := 510000) (by decide)).2]; exact (loseF_o (by decide)).trans (i3 k)
    · rw [(mlF_r (c := 710000) (by decide)).1, show (lsF g.D p a3 j τ).1 710000 = τ.1 710000 from loseF_r (by decide)]; exact i4 x
    · rw [(mlF_r (c := 510000) (by decide)).2]; exact (loseF_o (by decide)).trans (i5 a x))
  rw [Nat.zero_add] at this
  obtain ⟨t1, -, -, -, t5⟩ := this (Nat.le_refl _)
  exact ⟨t1, t5⟩
end FRM
