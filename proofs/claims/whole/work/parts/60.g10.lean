section FRM
variable {E : FE} {g : Gh} {σ σ' : Sg} {K J : Nat → Bool} {n n' : Nat}
theorem abs0 {p : Nat} (hp : p < 4) (ha : al g σ p) : absF (σ.1 510000 (g.A 0)) (nI p) = 0 := by
  unfold absF
  have h1 : ¬ nI p < 0 := lt0_nI (by omega)
  have h2 : nI p ≤ 3 := by rw [nl3, nI_leI (by omega) (by omega)]; omega
  rw [if_neg h1, if_pos h2, nI_clamp (by omega), if_neg (by rw [show σ.1 510000 (g.A 0) p = 1 from ha]; decide)]
theorem ab0 {p : Nat} (hp : p < 4) (ha : al g σ p) : abI σ g.A (nI p) = 0 := by
  unfold abI; rw [abs0 hp ha]; rfl
theorem th0 {p : Nat} (hp : p < 4) (ha : al g σ p) : thS σ g.m g.A (nI p) = sI σ 500000 g.m 0 0 := by
  unfold thS; rw [abs0 hp ha]
theorem D_ne (s : RS E g σ) {p q j : Nat} (hp : p < 4) (hq : q < 4) (hj : j < 15) (h : q ≠ p) : g.D q j ≠ g.D p j := fun e => h (s.dj q p j hq hp hj e)

/-- the class answers v and leaves σ1, the model answers v and leaves a store in which all is as it should be -/
def Sim (E : FE) (n : Nat) (g : Gh) (v : Int32) (σ2 : Sg) : Prop := RR E g (n + 1) σ2 ∧ σ2.1 500000 g.m 0 = 0
theorem sim_hold {p : Nat} (R : RR E g n σ) (hn : n ≤ 512) (hp : p < 4) (ha : al g σ p) (x b : Int32) :
    ∃ v σ1 σ2, addToF σ (g.D p 2) (g.D p 3) (g.D p 4) (g.D p 5) x b = (v, σ1) ∧ mhlF σ1 g.m g.A (nI p) x b = (v, σ2) ∧ RR E g (n + 1) σ2 ∧ σ2.1 500000 g.m 0 = 0 := by
  obtain ⟨H, hu⟩ := (R.h p hp).1 ha
  have hM : 4 * n < 2 ^ 31 := by omega
  have eh := H.has hM x
  have hc : (nI p).toNatClampNeg = p := nI_clamp (by omega)
  by_cases c : hhF (σ.1 550000 (g.A 4)) (σ.1 560000 (g.A 5)) p x = 0
  · refine ⟨0, σ, sI σ 500000 g.m 0 0, by unfold addToF; rw [eh, if_pos c], by unfold mhlF; rw [ab0 hp ha, if_pos rfl, hc, if_pos c, th0 hp ha], (R.th 0).mono (by omega), rIs⟩
  · have c' := c
    rw [← eh] at c'
    obtain ⟨j, a, j1, j2, rfl, hj⟩ := hasF_rng c'
    have hcj : (nI j).toNatClampNeg = j := nI_clamp (by omega)
    obtain ⟨k1, k2, s, w, e1, e2, l1, l2, h3⟩ := H.1 j j1 j2
    have h3' : ∃ a, σ.2.1 120003 (g.D p 3) j = some a ∧ (0 < s ∨ 0 < w) ∧ σ.1 540000 (g.A 3) (16 * p + j) = nI (g.N a) := by
      rcases h3 with ⟨z, -⟩ | z
      · rw [z] at hj; cases hj
      · exact z
    obtain ⟨a', q1, q2, q3⟩ := h3'
    by_cases cb : b = 0
    · have hb : al g (sI σ 140000 (g.D p 5) j (nI (w + 1))) p := ha
      have c1 : ¬ hhF ((sI σ 140000 (g.D p 5) j (nI (w + 1))).1 550000 (g.A 4)) ((sI σ 140000 (g.D p 5) j (nI (w + 1))).1 560000 (g.A 5)) p (nI j) = 0 := c
      have c2 : (sI σ 140000 (g.D p 5) j (nI (w + 1))).1 560000 (g.A 5) (16 * p + j) = nI w := e2
      refine ⟨1, sI σ 140000 (g.D p 5) j (nI (w + 1)), sI (sI (sI σ 140000 (g.D p 5) j (nI (w + 1))) 500000 g.m 0 0) 560000 (g.A 5) (16 * p + j) (nI (w + 1)), by unfold addToF; rw [eh, if_neg c, if_pos cb, hcj, k2, e2, nI_1], by unfold mhlF; rw [ab0 hp hb, if_pos rfl, hc, if_neg c1, if_pos cb, th0 hp hb, hcj, c2, nI_1], ?_, by simp [sI]⟩
      refine RR.hset (j := j) (s := s) (w := w + 1) R (by omega) hp ha j1 j2 (FrL.i (FrL.i (FrL.i Fr.refl (by decide)) (by decide)) (by decide)) R.s.wf (by omega) (fun q h hq h1 h2 hne => ⟨rfl, rfl, ?_, rfl, rfl, ?_⟩) (fun q hq _ => rfl) (k1.trans e1) e1 ?_ rIs (by omega) (by omega) (by omega) (Or.inr ⟨a', q1, Or.inr (by omega), q3, fun h h1 h2 h3 h4 => h3 (H.2 h j a' h1 h2 j1 j2 h4 q1)⟩) (fun u hu => ?_)
      · show (sI σ 140000 (g.D p 5) j _).1 140000 (g.D q 5) h = _
        simp only [sI]
        rw [if_neg]
        rintro ⟨-, z1, z2⟩
        exact hne ⟨R.s.dj q p 5 hq hp (by decide) z1, z2⟩
      · simp only [sI]
        rw [if_neg (by rintro ⟨-, -, z⟩; exact hne (by omega))]; rfl
      · show (sI σ 140000 (g.D p 5) j _).1 140000 (g.D p 5) j = _; rw [rIs]
      · show σ.1 80300 (g.D p 2) 0 + nI (hcnt (σ.2.1 120003 (g.D p 3)) j) = _; rw [hu, nI_add]; rfl
    · by_cases c0 : nI s = 0
      · refine ⟨0, σ, sI σ 500000 g.m 0 0, by unfold addToF; rw [eh, if_neg c, if_neg cb, hcj, k1, e1, if_pos c0], by unfold mhlF; rw [ab0 hp ha, if_pos rfl, hc, if_neg c, if_neg cb, hcj, e1, if_pos c0, th0 hp ha], (R.th 0).mono (by omega), rIs⟩
      · have hb : al g (sI σ 130000 (g.D p 4) j (nI (s + 1))) p := ha
        have c1 : ¬ hhF ((sI σ 130000 (g.D p 4) j (nI (s + 1))).1 550000 (g.A 4)) ((sI σ 130000 (g.D p 4) j (nI (s + 1))).1 560000 (g.A 5)) p (nI j) = 0 := c
        have c2 : (sI σ 130000 (g.D p 4) j (nI (s + 1))).1 550000 (g.A 4) (16 * p + j) = nI s := e1
        refine ⟨1, sI σ 130000 (g.D p 4) j (nI (s + 1)), sI (sI (sI σ 130000 (g.D p 4) j (nI (s + 1))) 500000 g.m 0 0) 550000 (g.A 4) (16 * p + j) (nI (s + 1)), by unfold addToF; rw [eh, if_neg c, if_neg cb, hcj, k1, e1, if_neg c0, nI_1], by unfold mhlF; rw [ab0 hp hb, if_pos rfl, hc, if_neg c1, if_neg cb, hcj, c2, if_neg c0, th0 hp hb, nI_1], ?_, by simp [sI]⟩
        refine RR.hset (j := j) (s := s + 1) (w := w) R (by omega) hp ha j1 j2 (FrL.i (FrL.i (FrL.i Fr.refl (by decide)) (by decide)) (by decide)) R.s.wf (by omega) (fun q h hq h1 h2 hne => ⟨rfl, ?_, rfl, rfl, ?_, rfl⟩) (fun q hq _ => rfl) ?_ rIs (k2.trans e2) e2 (by omega) (by omega) (by omega) (Or.inr ⟨a', q1, Or.inl (by omega), q3, fun h h1 h2 h3 h4 => h3 (H.2 h j a' h1 h2 j1 j2 h4 q1)⟩) (fun u hu => ?_)
        · show (sI σ 130000 (g.D p 4) j _).1 130000 (g.D q 4) h = _
          simp only [sI]
          rw [if_neg]
          rintro ⟨-, z1, z2⟩
          exact hne ⟨R.s.dj q p 4 hq hp (by decide) z1, z2⟩
        · simp only [sI]
          rw [if_neg (by rintro ⟨-, -, z⟩; exact hne (by omega))]; rfl
        · show (sI σ 130000 (g.D p 4) j _).1 130000 (g.D p 4) j = _; rw [rIs]
        · show σ.1 80300 (g.D p 2) 0 + nI (hcnt (σ.2.1 120003 (g.D p 3)) j) = _; rw [hu, nI_add]; rfl
end FRM
