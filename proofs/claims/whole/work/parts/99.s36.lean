section MVS
variable {E : FE} {g : Gh} {σ σ' σ2 τ τ' T : Sg} {n m : Nat} {A : Nat → Nat} {p q b k z : Nat} {w v t : Int32}
theorem itm_w (h : ∀ c, c = 590000 ∨ c = 530000 ∨ c = 600000 ∨ c = 520000 ∨ c = 500300 ∨ c = 550000 ∨ c = 560000 ∨ c = 540000 → τ.1 c = σ.1 c) : itmF τ m A p = itmF σ m A p := by
  funext x; unfold itmF tgtF
  rw [h 590000 (by simp), h 530000 (by simp), h 600000 (by simp), h 520000 (by simp), h 500300 (by simp), h 550000 (by simp), h 560000 (by simp), h 540000 (by simp)]
def KMA : List Nat := [610000, 620000, 630000, 640000, 650000, 660000, 670000, 680000]
theorem mvA_r : (∀ c x i, c ≠ 502300 → (KMA.contains c = true → i ≠ b) → (mvA σ m A p b k z w v t).1 c x i = σ.1 c x i) ∧ (mvA σ m A p b k z w v t).2 = σ.2 ∧ (mvA σ m A p b k z w v t).1 610000 (A 10) b = 2 ∧ (mvA σ m A p b k z w v t).1 620000 (A 11) b = t ∧ (mvA σ m A p b k z w v t).1 630000 (A 12) b = nI (max 1 (k + z)) ∧ (mvA σ m A p b k z w v t).1 640000 (A 13) b = w ∧ (mvA σ m A p b k z w v t).1 650000 (A 14) b = v ∧ (mvA σ m A p b k z w v t).1 660000 (A 15) b = nI p ∧ (mvA σ m A p b k z w v t).1 670000 (A 16) b = σ.1 502300 m 0 ∧ (mvA σ m A p b k z w v t).1 680000 (A 17) b = nI k ∧ (mvA σ m A p b k z w v t).1 502300 m 0 = σ.1 502300 m 0 + 1 := by
  refine ⟨fun c x i h1 h2 => ?_, rfl, by simp [mvA, sI], by simp [mvA, sI], by simp [mvA, sI], by simp [mvA, sI], by simp [mvA, sI], by simp [mvA, sI], by simp [mvA, sI], by simp [mvA, sI], by simp [mvA, sI]⟩
  have e : ∀ c', KMA.contains c' = true → ∀ {y : Nat} {u : Int32} {s : Sg}, (sI s c' y b u).1 c x i = s.1 c x i := fun c' hc' {y u s} => by
    by_cases z : c = c'
    · subst z
      show (if c = c ∧ x = y ∧ i = b then u else s.1 c x i) = _
      exact if_neg (fun z => h2 hc' z.2.2)
    · exact rII z
  unfold mvA
  rw [e 680000 (by decide), rII h1, e 670000 (by decide), e 660000 (by decide), e 650000 (by decide), e 640000 (by decide), e 630000 (by decide), e 620000 (by decide), e 610000 (by decide)]
/-- the model's rows, before the items' turn -/
theorem mv0_r (hk : k ≤ 4) : (∀ c x i, c ≠ 710000 → (itF (mv1 A m p b) k 0 (mvA σ m A p b k z w v t)).1 c x i = (mvA σ m A p b k z w v t).1 c x i) ∧ (∀ x i, i / 4 ≠ b → (itF (mv1 A m p b) k 0 (mvA σ m A p b k z w v t)).1 710000 x i = σ.1 710000 x i) ∧ (∀ i, i < k → (itF (mv1 A m p b) k 0 (mvA σ m A p b k z w v t)).1 710000 (A 20) (4 * b + i) = itmF σ m A p i) ∧ (itF (mv1 A m p b) k 0 (mvA σ m A p b k z w v t)).2 = σ.2 := by
  have h := itF_ind (f := mv1 A m p b) (fun j (τ : Sg) => (∀ c x i, c ≠ 710000 → τ.1 c x i = (mvA σ m A p b k z w v t).1 c x i) ∧ (∀ x i, i / 4 ≠ b → τ.1 710000 x i = σ.1 710000 x i) ∧ (∀ i, i < j → τ.1 710000 (A 20) (4 * b + i) = itmF σ m A p i) ∧ τ.2 = σ.2) k 0 (mvA σ m A p b k z w v t) ⟨fun _ _ _ _ => rfl, fun x i hi => mvA_r.1 _ _ _ (by decide) (fun h => absurd h (by decide)), fun i hi => by omega, rfl⟩ (fun j τ _ hj ih => by
    obtain ⟨h1, h2, h3, h4⟩ := ih
    have ei : itmF τ m A p = itmF σ m A p := itm_w (fun c hc => by
      funext x i
      have : c ≠ 710000 ∧ c ≠ 502300 ∧ KMA.contains c = false := by
        rcases hc with rfl | rfl | rfl | rfl | rfl | rfl | rfl | rfl <;> decide
      rw [h1 c x i this.1, mvA_r.1 c x i this.2.1 (fun y => by rw [this.2.2] at y; cases y)])
    unfold mv1
    rw [ei]
    refine ⟨fun c x i hc => (rII hc).trans (h1 c x i hc), fun x i hi => ?_, fun i hi => ?_, h4⟩
    · have : i ≠ 4 * b + j := by omega
      have e : (sI τ 710000 (A 20) (4 * b + j) (itmF σ m A p j)).1 710000 x i = τ.1 710000 x i := by simp [sI, this]
      rw [e]; exact h2 x i hi
    · by_cases e : i = j
      · subst e; exact rIs
      · rw [rIx (by omega)]; exact h3 i (by omega))
  rw [Nat.zero_add] at h
  exact h
end MVS
section TPO
variable {E : FE} {g : Gh} {σ σ' σ2 τ τ' T s3 s5 : Sg} {n : Nat} {p q m c k it z a1 a2 a3 : Nat} {nd : Option Nat} {v st w tv : Int32}
/-- class and model at the first item; μ the model's side -/
theorem pi_g {t : Int32} {b : Nat} {μ : Sg} (R : RR E g n σ) (hn : n ≤ 512) (hp : p < 4) (ha : al g σ p) (hq : q < 4) (haq : al g σ q) (hk : σ.1 40300 (g.D p 8) 0 = nI it) (hk4 : it ≤ 4) (hμ : ∀ c x i, c ≠ 740000 → μ.1 c x i = σ.1 c x i)
    (h1 : ∀ c' x i, σ.2.2.2 x ≠ 0 → c' ≠ 90100 → c' ≠ 90200 → s3.1 c' x i = σ.1 c' x i) (hnd : s3.2.1 120003 (g.D q 3) = σ.2.1 120003 (g.D q 3)) (hv3 : ∀ i, i < it → s3.2.1 180003 (g.D p 11) i = fnV σ g.x (g.D p) i) (hn3 : ∀ i, s3.2.1 330003 a3 i = none)
    (hroom : sumR (hcnt (σ.2.1 120003 (g.D q 3))) 15 1 + sumR (nwN ((pstN σ g.x g.D p it).2.1 180003 (g.D p 11)) (ownF σ (g.D q 0)) (σ.2.1 120003 (g.D q 3))) it 0 ≤ 15) :
    PI g n p q b (g.D p 10) (g.D p 11) a1 a2 a3 it ((pstN σ g.x g.D p it).2.1 180003 (g.D p 11)) (itF (mv1 g.A g.m p b) it 0 (mvA μ g.m g.A p b it z w tv t)) σ 0 s3 (itF (mv1 g.A g.m p b) it 0 (mvA μ g.m g.A p b it z w tv t)) := by
  obtain ⟨N1, N2, N3, N4, N5⟩ := pstN_r (σ := σ) (x := g.x) (j := p) (k := it) (D := g.D)
  obtain ⟨H, hu⟩ := (R.h q hq).1 haq
  obtain ⟨V1, V2, V3, V4⟩ := mv0_r (σ := μ) (m := g.m) (A := g.A) (p := p) (b := b) (z := z) (w := w) (v := tv) (t := t) hk4
  have hD : ∀ {r j}, r < 4 → j < 15 → σ.2.2.2 (g.D r j) ≠ 0 := fun hr hj => R.s.kD hr hj
  have i3 : ∀ {c' r j i}, r < 4 → j < 15 → c' ≠ 90100 → c' ≠ 90200 → s3.1 c' (g.D r j) i = σ.1 c' (g.D r j) i := fun hr hj n1 n2 => h1 _ _ _ (hD hr hj) n1 n2
  have vm : ∀ {c x i}, c ≠ 710000 → c ≠ 502300 → KMA.contains c = false → c ≠ 740000 → (itF (mv1 g.A g.m p b) it 0 (mvA μ g.m g.A p b it z w tv t)).1 c x i = σ.1 c x i := fun {c x i} h1 h2 h3 h4 => by
    rw [V1 _ _ _ h1, mvA_r.1 _ _ _ h2 (fun h => by rw [h3] at h; cases h), hμ _ _ _ h4]
  have eim : itmF μ g.m g.A p = itmF σ g.m g.A p := itm_w (fun c hc => by
    funext x i
    exact hμ c x i (by rcases hc with rfl | rfl | rfl | rfl | rfl | rfl | rfl | rfl <;> decide))
  have c3 : ∀ x, σ.2.2.2 x ≠ 0 → s3.1 30000 x 0 = σ.1 30000 x 0 ∧ s3.1 30100 x 0 = σ.1 30100 x 0 ∧ s3.1 30200 x 0 = σ.1 30200 x 0 := fun x hx => ⟨h1 _ _ _ hx (by decide) (by decide), h1 _ _ _ hx (by decide) (by decide), h1 _ _ _ hx (by decide) (by decide)⟩
  unfold PI
  exact ⟨(H.cong (fun h _ _ => ⟨by rw [hnd], i3 hq (by decide) (by decide) (by decide), i3 hq (by decide) (by decide) (by decide), vm (by decide) (by decide) (by decide) (by decide), vm (by decide) (by decide) (by decide) (by decide), vm (by decide) (by decide) (by decide) (by decide)⟩)),
    (fun h a e => by rw [hnd] at e; exact R.s.wf _ _ _ _ e (by decide)),
    ((by rw [hnd, i3 hq (by decide) (by decide) (by decide), hu]; exact H.cnt (by omega))),
    ((by rw [hnd]; exact hroom)),
    (fun h a h1 h2 e => ⟨h, h1, h2, by rw [hnd]; exact e⟩),
    (fun j a hj => by omega),
    (fun j hj => by omega),
    (fun j _ hj => ⟨hn3 j, by rw [V3 j hj, N5 j hj, eim]; exact (R.item hn hp ha hk hk4 hj).1⟩),
    (fun j hj => by rw [hv3 j hj, N5 j hj]),
    (fun j hj => by rw [i3 hp (by decide) (by decide) (by decide), vm (by decide) (by decide) (by decide) (by decide)]; exact (R.item hn hp ha hk hk4 hj).2.2),
    (c3),
    ((by rw [i3 hq (by decide) (by decide) (by decide)]; exact R.s.nm q hq)),
    (funext fun i => vm (by decide) (by decide) (by decide) (by decide)),
    (funext fun i => vm (by decide) (by decide) (by decide) (by decide)),
    (fun h h1 h2 => vm (by decide) (by decide) (by decide) (by decide)),
    (fun _ _ _ _ _ _ _ _ => rfl),
    (fun _ _ _ => ⟨rfl, rfl⟩),
    (fun _ _ _ => ⟨rfl, rfl, rfl⟩),
    (rfl)⟩
end TPO
