section FRM
variable {E : FE} {g : Gh} {σ σ' : Sg} {K J : Nat → Bool} {n n' : Nat}
theorem sI_comm {c c' a a' x x' : Nat} {v v' : Int32} (h : c ≠ c') : sI (sI σ c a x v) c' a' x' v' = sI (sI σ c' a' x' v') c a x v := by
  unfold sI
  congr 1
  funext k y z
  dsimp only
  by_cases h1 : k = c' ∧ y = a' ∧ z = x'
  · rw [if_pos h1, if_neg (fun h2 => h (h2.1.symm.trans h1.1)), if_pos h1]
  · rw [if_neg h1, if_neg h1]
theorem RR.loseS {p j s w a : Nat} (R : RR E g n σ) (hn : n ≤ 512) (hp : p < 4) (ha : al g σ p) (j1 : 1 ≤ j) (j2 : j ≤ 15) (hj : σ.2.1 120003 (g.D p 3) j = some a) (es : σ.1 550000 (g.A 4) (16 * p + j) = nI (s + 1)) (ew : σ.1 560000 (g.A 5) (16 * p + j) = nI (w)) (hs : s + 1 ≤ 2 ^ 20) (hwb : w + 1 ≤ 2 ^ 20) :
    RR E g n (sI (dropS (sI σ 130000 (g.D p 4) j (nI s)) (g.D p 2) (g.D p 3) (g.D p 4) (g.D p 5) j) 550000 (g.A 4) (16 * p + j) (nI s)) := by
  obtain ⟨H, hu⟩ := (R.h p hp).1 ha
  obtain ⟨k1, k2, s0, w0, e1, e2, l1, l2, h3⟩ := H.1 j j1 j2
  have z1 := (nI_eq (by omega) (by omega)).mp (es.symm.trans e1)
  have z2 := (nI_eq (by omega) (by omega)).mp (ew.symm.trans e2)
  have q3 : σ.1 540000 (g.A 3) (16 * p + j) = nI (g.N a) := by
    rcases h3 with ⟨z, -⟩ | ⟨a', z, -, q⟩
    · rw [z] at hj; cases hj
    · rw [z] at hj; cases hj; exact q
  have ne : ∀ {q h : Nat}, q < 4 → ¬ (q = p ∧ h = j) → (sI σ 130000 (g.D p 4) j (nI s)).1 130000 (g.D q 4) h = σ.1 130000 (g.D q 4) h := by
    intro q h hq hne
    simp only [sI]
    rw [if_neg]
    rintro ⟨-, y1, y2⟩
    exact hne ⟨R.s.dj q p 4 hq hp (by decide) y1, y2⟩
  have nm : ∀ {τ : Sg} {q h : Nat}, h ≤ 15 → ¬ (q = p ∧ h = j) → (sI τ 550000 (g.A 4) (16 * p + j) (nI s)).1 550000 (g.A 4) (16 * q + h) = τ.1 550000 (g.A 4) (16 * q + h) := by
    intro τ q h hh hne
    simp only [sI]
    rw [if_neg]
    rintro ⟨-, -, y⟩
    exact hne (by omega)
  have hat : (sI σ 130000 (g.D p 4) j (nI s)).1 130000 (g.D p 4) j = nI s := rIs
  unfold dropS
  rw [show (sI σ 130000 (g.D p 4) j (nI s)).1 130000 (g.D p 4) j = nI s from hat, show (sI σ 130000 (g.D p 4) j (nI s)).1 140000 (g.D p 5) j = nI w from (show σ.1 140000 (g.D p 5) j = nI w from k2.trans ew)]
  by_cases c : nI s = 0 ∧ nI w = 0
  · rw [if_pos c.1, if_pos c.2]
    have s0' : s = 0 := (nI_eq (by omega) (by omega)).mp c.1
    have w0' : w = 0 := (nI_eq (by omega) (by omega)).mp c.2
    refine RR.hset (j := j) (s := s) (w := w) R (by omega) hp ha j1 j2 (FrL.i (FrL.i (FrL.o (FrL.i Fr.refl (by decide)) (by decide)) (by decide)) (by decide)) (WF.i (WF.i (WF.oN (WF.i R.s.wf)))) (Nat.le_refl _) (fun q h hq h1 h2 hne => ⟨?_, ne hq hne, rfl, rfl, nm h2 hne, rfl⟩) (fun q hq hqp => ?_) hat rIs (k2.trans ew) ew (by omega) (by omega) (by omega) (Or.inl ⟨?_, s0', w0'⟩) (fun u hu' => ?_)
    · show (sO (sI σ 130000 (g.D p 4) j (nI s)) 120003 (g.D p 3) j none).2.1 120003 (g.D q 3) h = _
      simp only [sO]
      rw [if_neg]
      · rfl
      · rintro ⟨-, y1, y2⟩
        exact hne ⟨R.s.dj q p 3 hq hp (by decide) y1, y2⟩
    · show (sI _ 80300 (g.D p 2) 0 _).1 80300 (g.D q 2) 0 = _
      simp only [sI]
      rw [if_neg]
      · rfl
      · rintro ⟨-, y1, -⟩
        exact hqp (R.s.dj q p 2 hq hp (by decide) y1)
    · show (sO (sI σ 130000 (g.D p 4) j (nI s)) 120003 (g.D p 3) j none).2.1 120003 (g.D p 3) j = _
      rw [rOs]
    · show (sI _ 80300 (g.D p 2) 0 _).1 80300 (g.D p 2) 0 + _ = _
      rw [rIs]
      have hz : hcnt (σ.2.1 120003 (g.D p 3)) j = 1 := by unfold hcnt; rw [hj]
      have hz2 : hcnt ((sO (sI σ 130000 (g.D p 4) j (nI s)) 120003 (g.D p 3) j none).2.1 120003 (g.D p 3)) j = 0 := by unfold hcnt; rw [rOs]
      rw [hz]
      show σ.1 80300 (g.D p 2) 0 - 1 + nI 1 = nI (u + hcnt ((sO (sI σ 130000 (g.D p 4) j (nI s)) 120003 (g.D p 3) j none).2.1 120003 (g.D p 3)) j)
      rw [hz2, hu', ← nl1, Int32.sub_add_cancel]; rfl
  · rw [show (if nI s = 0 then (if nI w = 0 then sI (sO (sI σ 130000 (g.D p 4) j (nI s)) 120003 (g.D p 3) j none) 80300 (g.D p 2) 0 ((sI σ 130000 (g.D p 4) j (nI s)).1 80300 (g.D p 2) 0 - 1) else (sI σ 130000 (g.D p 4) j (nI s))) else (sI σ 130000 (g.D p 4) j (nI s))) = (sI σ 130000 (g.D p 4) j (nI s)) from by
      by_cases c1 : nI s = 0
      · rw [if_pos c1, if_neg (fun c2 => c ⟨c1, c2⟩)]
      · rw [if_neg c1]]
    have c' : 0 < s ∨ 0 < w := by
      by_cases c1 : s = 0
      · by_cases c2 : w = 0
        · subst c1; subst c2; exact absurd ⟨rfl, rfl⟩ c
        · exact Or.inr (by omega)
      · exact Or.inl (by omega)
    refine RR.hset (j := j) (s := s) (w := w) R (by omega) hp ha j1 j2 (FrL.i (FrL.i Fr.refl (by decide)) (by decide)) (WF.i (WF.i R.s.wf)) (Nat.le_refl _) (fun q h hq h1 h2 hne => ⟨rfl, ne hq hne, rfl, rfl, nm h2 hne, rfl⟩) (fun q hq hqp => rfl) hat rIs (k2.trans ew) ew (by omega) (by omega) (by omega) (Or.inr ⟨a, hj, c', q3, fun h h1 h2 h3 h4 => h3 (H.2 h j a h1 h2 j1 j2 h4 hj)⟩) (fun u hu' => ?_)
    show σ.1 80300 (g.D p 2) 0 + nI (hcnt (σ.2.1 120003 (g.D p 3)) j) = _; rw [hu', nI_add]; rfl
theorem RR.loseW {p j s w a : Nat} (R : RR E g n σ) (hn : n ≤ 512) (hp : p < 4) (ha : al g σ p) (j1 : 1 ≤ j) (j2 : j ≤ 15) (hj : σ.2.1 120003 (g.D p 3) j = some a) (es : σ.1 550000 (g.A 4) (16 * p + j) = nI (s)) (ew : σ.1 560000 (g.A 5) (16 * p + j) = nI (w + 1)) (hs : s + 1 ≤ 2 ^ 20) (hwb : w + 1 ≤ 2 ^ 20) :
    RR E g n (sI (dropS (sI σ 140000 (g.D p 5) j (nI w)) (g.D p 2) (g.D p 3) (g.D p 4) (g.D p 5) j) 560000 (g.A 5) (16 * p + j) (nI w)) := by
  obtain ⟨H, hu⟩ := (R.h p hp).1 ha
  obtain ⟨k1, k2, s0, w0, e1, e2, l1, l2, h3⟩ := H.1 j j1 j2
  have z1 := (nI_eq (by omega) (by omega)).mp (es.symm.trans e1)
  have z2 := (nI_eq (by omega) (by omega)).mp (ew.symm.trans e2)
  have q3 : σ.1 540000 (g.A 3) (16 * p + j) = nI (g.N a) := by
    rcases h3 with ⟨z, -⟩ | ⟨a', z, -, q⟩
    · rw [z] at hj; cases hj
    · rw [z] at hj; cases hj; exact q
  have ne : ∀ {q h : Nat}, q < 4 → ¬ (q = p ∧ h = j) → (sI σ 140000 (g.D p 5) j (nI w)).1 140000 (g.D q 5) h = σ.1 140000 (g.D q 5) h := by
    intro q h hq hne
    simp only [sI]
    rw [if_neg]
    rintro ⟨-, y1, y2⟩
    exact hne ⟨R.s.dj q p 5 hq hp (by decide) y1, y2⟩
  have nm : ∀ {τ : Sg} {q h : Nat}, h ≤ 15 → ¬ (q = p ∧ h = j) → (sI τ 560000 (g.A 5) (16 * p + j) (nI w)).1 560000 (g.A 5) (16 * q + h) = τ.1 560000 (g.A 5) (16 * q + h) := by
    intro τ q h hh hne
    simp only [sI]
    rw [if_neg]
    rintro ⟨-, -, y⟩
    exact hne (by omega)
  have hat : (sI σ 140000 (g.D p 5) j (nI w)).1 140000 (g.D p 5) j = nI w := rIs
  unfold dropS
  rw [show (sI σ 140000 (g.D p 5) j (nI w)).1 130000 (g.D p 4) j = nI s from (show σ.1 130000 (g.D p 4) j = nI s from k1.trans es), show (sI σ 140000 (g.D p 5) j (nI w)).1 140000 (g.D p 5) j = nI w from hat]
  by_cases c : nI s = 0 ∧ nI w = 0
  · rw [if_pos c.1, if_pos c.2]
    have s0' : s = 0 := (nI_eq (by omega) (by omega)).mp c.1
    have w0' : w = 0 := (nI_eq (by omega) (by omega)).mp c.2
    refine RR.hset (j := j) (s := s) (w := w) R (by omega) hp ha j1 j2 (FrL.i (FrL.i (FrL.o (FrL.i Fr.refl (by decide)) (by decide)) (by decide)) (by decide)) (WF.i (WF.i (WF.oN (WF.i R.s.wf)))) (Nat.le_refl _) (fun q h hq h1 h2 hne => ⟨?_, rfl, ne hq hne, rfl, rfl, nm h2 hne⟩) (fun q hq hqp => ?_) (k1.trans es) es hat rIs (by omega) (by omega) (by omega) (Or.inl ⟨?_, s0', w0'⟩) (fun u hu' => ?_)
    · show (sO (sI σ 140000 (g.D p 5) j (nI w)) 120003 (g.D p 3) j none).2.1 120003 (g.D q 3) h = _
      simp only [sO]
      rw [if_neg]
      · rfl
      · rintro ⟨-, y1, y2⟩
        exact hne ⟨R.s.dj q p 3 hq hp (by decide) y1, y2⟩
    · show (sI _ 80300 (g.D p 2) 0 _).1 80300 (g.D q 2) 0 = _
      simp only [sI]
      rw [if_neg]
      · rfl
      · rintro ⟨-, y1, -⟩
        exact hqp (R.s.dj q p 2 hq hp (by decide) y1)
    · show (sO (sI σ 140000 (g.D p 5) j (nI w)) 120003 (g.D p 3) j none).2.1 120003 (g.D p 3) j = _
      rw [rOs]
    · show (sI _ 80300 (g.D p 2) 0 _).1 80300 (g.D p 2) 0 + _ = _
      rw [rIs]
      have hz : hcnt (σ.2.1 120003 (g.D p 3)) j = 1 := by unfold hcnt; rw [hj]
      have hz2 : hcnt ((sO (sI σ 140000 (g.D p 5) j (nI w)) 120003 (g.D p 3) j none).2.1 120003 (g.D p 3)) j = 0 := by unfold hcnt; rw [rOs]
      rw [hz]
      show σ.1 80300 (g.D p 2) 0 - 1 + nI 1 = nI (u + hcnt ((sO (sI σ 140000 (g.D p 5) j (nI w)) 120003 (g.D p 3) j none).2.1 120003 (g.D p 3)) j)
      rw [hz2, hu', ← nl1, Int32.sub_add_cancel]; rfl
  · rw [show (if nI s = 0 then (if nI w = 0 then sI (sO (sI σ 140000 (g.D p 5) j (nI w)) 120003 (g.D p 3) j none) 80300 (g.D p 2) 0 ((sI σ 140000 (g.D p 5) j (nI w)).1 80300 (g.D p 2) 0 - 1) else (sI σ 140000 (g.D p 5) j (nI w))) else (sI σ 140000 (g.D p 5) j (nI w))) = (sI σ 140000 (g.D p 5) j (nI w)) from by
      by_cases c1 : nI s = 0
      · rw [if_pos c1, if_neg (fun c2 => c ⟨c1, c2⟩)]
      · rw [if_neg c1]]
    have c' : 0 < s ∨ 0 < w := by
      by_cases c1 : s = 0
      · by_cases c2 : w = 0
        · subst c1; subst c2; exact absurd ⟨rfl, rfl⟩ c
        · exact Or.inr (by omega)
      · exact Or.inl (by omega)
    refine RR.hset (j := j) (s := s) (w := w) R (by omega) hp ha j1 j2 (FrL.i (FrL.i Fr.refl (by decide)) (by decide)) (WF.i (WF.i R.s.wf)) (Nat.le_refl _) (fun q h hq h1 h2 hne => ⟨rfl, rfl, ne hq hne, rfl, rfl, nm h2 hne⟩) (fun q hq hqp => rfl) (k1.trans es) es hat rIs (by omega) (by omega) (by omega) (Or.inr ⟨a, hj, c', q3, fun h h1 h2 h3 h4 => h3 (H.2 h j a h1 h2 j1 j2 h4 hj)⟩) (fun u hu' => ?_)
    show σ.1 80300 (g.D p 2) 0 + nI (hcnt (σ.2.1 120003 (g.D p 3)) j) = _; rw [hu', nI_add]; rfl
theorem sim_drop {p : Nat} (R : RR E g n σ) (hn : n ≤ 512) (hp : p < 4) (ha : al g σ p) (x b : Int32) :
    ∃ v σ1 σ2, takeFromF σ (g.D p 2) (g.D p 3) (g.D p 4) (g.D p 5) x b = (v, σ1) ∧ mdpF σ1 g.m g.A (nI p) x b = (v, σ2) ∧ RR E g (n + 1) σ2 ∧ σ2.1 500000 g.m 0 = 0 := by
  obtain ⟨H, hu⟩ := (R.h p hp).1 ha
  have hM : 4 * n < 2 ^ 31 := by omega
  have eh := H.has hM x
  have hc : (nI p).toNatClampNeg = p := nI_clamp (by omega)
  by_cases c : hhF (σ.1 550000 (g.A 4)) (σ.1 560000 (g.A 5)) p x = 0
  · refine ⟨0, σ, sI σ 500000 g.m 0 0, by unfold takeFromF; rw [eh, if_pos c], by unfold mdpF; rw [ab0 hp ha, if_pos rfl, hc, if_pos c, th0 hp ha], (R.th 0).mono (by omega), rIs⟩
  · have c' := c
    rw [← eh] at c'
    obtain ⟨j, a, j1, j2, rfl, hj⟩ := hasF_rng c'
    have hcj : (nI j).toNatClampNeg = j := nI_clamp (by omega)
    obtain ⟨k1, k2, s, w, e1, e2, l1, l2, h3⟩ := H.1 j j1 j2
    have dS : ∀ (τ : Sg), al g τ p → al g (dropS τ (g.D p 2) (g.D p 3) (g.D p 4) (g.D p 5) j) p := by
      intro τ h
      unfold dropS
      split
      · split
        · exact h
        · exact h
      · exact h
    have dR : ∀ (τ : Sg), (dropS τ (g.D p 2) (g.D p 3) (g.D p 4) (g.D p 5) j).1 550000 = τ.1 550000 ∧ (dropS τ (g.D p 2) (g.D p 3) (g.D p 4) (g.D p 5) j).1 560000 = τ.1 560000 := by
      intro τ
      unfold dropS
      split
      · split
        · exact ⟨rfl, rfl⟩
        · exact ⟨rfl, rfl⟩
      · exact ⟨rfl, rfl⟩
    by_cases cb : b = 0
    · by_cases c0 : nI w = 0
      · refine ⟨0, σ, sI σ 500000 g.m 0 0, by unfold takeFromF; rw [eh, if_neg c, if_pos cb, hcj, k2, e2, if_pos c0], by unfold mdpF; rw [ab0 hp ha, if_pos rfl, hc, if_neg c, if_pos cb, hcj, e2, if_pos c0, th0 hp ha], (R.th 0).mono (by omega), rIs⟩
      · obtain ⟨w', rfl⟩ : ∃ w', w = w' + 1 := ⟨w - 1, by
          have : w ≠ 0 := fun z => c0 (by rw [z]; rfl)
          omega⟩
        have ew : nI (w' + 1) - 1 = nI w' := by rw [nl1, nI_sub9 (by omega)]; rfl
        have hb := dS (sI σ 140000 (g.D p 5) j (nI w')) ha
        obtain ⟨d1, d2⟩ := dR (sI σ 140000 (g.D p 5) j (nI w'))
        refine ⟨1, dropS (sI σ 140000 (g.D p 5) j (nI w')) (g.D p 2) (g.D p 3) (g.D p 4) (g.D p 5) j, sI (sI (dropS (sI σ 140000 (g.D p 5) j (nI w')) (g.D p 2) (g.D p 3) (g.D p 4) (g.D p 5) j) 500000 g.m 0 0) 560000 (g.A 5) (16 * p + j) (nI w'), by unfold takeFromF; rw [eh, if_neg c, if_pos cb, hcj, k2, e2, if_neg c0, ew], ?_, ?_, by simp [sI]⟩
        · unfold mdpF
          rw [ab0 hp hb, if_pos rfl, hc, d1, d2, if_neg (show ¬ hhF ((sI σ 140000 (g.D p 5) j (nI w')).1 550000 (g.A 4)) ((sI σ 140000 (g.D p 5) j (nI w')).1 560000 (g.A 5)) p (nI j) = 0 from c), if_pos cb, hcj, show (sI σ 140000 (g.D p 5) j (nI w')).1 560000 (g.A 5) (16 * p + j) = nI (w' + 1) from e2, if_neg c0, th0 hp hb, ew]
        · rw [sI_comm (by decide)]
          exact ((R.loseW hn hp ha j1 j2 hj e1 e2 (by omega) (by omega)).th 0).mono (by omega)
    · by_cases c0 : nI s = 0
      · refine ⟨0, σ, sI σ 500000 g.m 0 0, by unfold takeFromF; rw [eh, if_neg c, if_neg cb, hcj, k1, e1, if_pos c0], by unfold mdpF; rw [ab0 hp ha, if_pos rfl, hc, if_neg c, if_neg cb, hcj, e1, if_pos c0, th0 hp ha], (R.th 0).mono (by omega), rIs⟩
      · obtain ⟨s', rfl⟩ : ∃ s', s = s' + 1 := ⟨s - 1, by
          have : s ≠ 0 := fun z => c0 (by rw [z]; rfl)
          omega⟩
        have ew : nI (s' + 1) - 1 = nI s' := by rw [nl1, nI_sub9 (by omega)]; rfl
        have hb := dS (sI σ 130000 (g.D p 4) j (nI s')) ha
        obtain ⟨d1, d2⟩ := dR (sI σ 130000 (g.D p 4) j (nI s'))
        refine ⟨1, dropS (sI σ 130000 (g.D p 4) j (nI s')) (g.D p 2) (g.D p 3) (g.D p 4) (g.D p 5) j, sI (sI (dropS (sI σ 130000 (g.D p 4) j (nI s')) (g.D p 2) (g.D p 3) (g.D p 4) (g.D p 5) j) 500000 g.m 0 0) 550000 (g.A 4) (16 * p + j) (nI s'), by unfold takeFromF; rw [eh, if_neg c, if_neg cb, hcj, k1, e1, if_neg c0, ew], ?_, ?_, by simp [sI]⟩
        · unfold mdpF
          rw [ab0 hp hb, if_pos rfl, hc, d1, d2, if_neg (show ¬ hhF ((sI σ 130000 (g.D p 4) j (nI s')).1 550000 (g.A 4)) ((sI σ 130000 (g.D p 4) j (nI s')).1 560000 (g.A 5)) p (nI j) = 0 from c), if_neg cb, hcj, show (sI σ 130000 (g.D p 4) j (nI s')).1 550000 (g.A 4) (16 * p + j) = nI (s' + 1) from e1, if_neg c0, th0 hp hb, ew]
        · rw [sI_comm (by decide)]
          exact ((R.loseS hn hp ha j1 j2 hj e1 e2 (by omega) (by omega)).th 0).mono (by omega)
end FRM
