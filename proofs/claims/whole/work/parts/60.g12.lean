section FRM
variable {E : FE} {g : Gh} {σ σ' : Sg} {K J : Nat → Bool} {n n' : Nat}
def KDr : List Nat := [500000, 40300, 40400, 160000, 170000, 570000, 580000, 590000, 600000, 180003]
theorem RR.frD (R : RR E g n σ) (F : Fr (fun c => KDr.contains c) (fun _ => false) σ σ') (hw' : WF σ') (hD : ∀ q, q < 4 → RD g q σ') : RR E g n σ' := by
  have hfe' := F.f0 (fun _ => rfl) R.s.f0
  exact RR.mk
          (s := R.s.fr0 F hw' hfe' (by decide) (by decide) (by decide) (by decide))
          (p := R.p.fr R.s F (by decide))
          (no := R.no.fr R.s F (by decide) (by decide))
          (mg := R.mg.fr R.s F (by decide))
          (h := fun p hp => (R.h p hp).fr hp R.s (F.at _ p) (by decide))
          (d := hD)
          (a := fun p hp => (R.a p hp).fr hp R.s (F.at _ p) (by decide) (by decide))
          (i := fun p hp => (R.i p hp).fr hp R.s (fun c m h1 h2 _ => RBn.of R.a p c m hp h1 h2) (F.at _ p) (by decide))
          (o := fun p hp => (R.o p hp).fr hp R.s (F.at _ p) (by decide))
          (v := fun p hp => (R.v p hp).fr hp R.s (F.at _ p) (by decide))
          (l := fun p hp => (R.l p hp).fr hp R.s (F.at _ p) (by decide) (by decide))
          (q := R.q.fr R.s (RBn.of R.a) F (by decide) (by decide) (by decide))
          (c := R.c.fr R.s F (by decide) (by decide))
          (b := R.b.fr R.s F (by decide) (by decide))
          (t := by obtain ⟨T9, t1, t2⟩ := R.t; exact ⟨T9, by rw [(F.2.2 _ _ _ R.s.km (by decide)).1]; exact t1, t2⟩)
theorem D_w {τ : Sg} (s : RS E g σ) {p q j c x y : Nat} {v : Int32} (hp : p < 4) (hq : q < 4) (hj : j < 15) (h : q ≠ p) : (sI τ c (g.D p j) x v).1 c (g.D q j) y = τ.1 c (g.D q j) y := rIa (D_ne s hp hq hj h)
/-- the draft is begun anew -/
theorem RR.begin {p z : Nat} (R : RR E g n σ) (hp : p < 4) (hz : z ≤ 20) : RR E g n (sI (sI (sI (sI σ 40400 (g.D p 8) 0 (nI z)) 40300 (g.D p 8) 0 0) 580000 (g.A 7) p (nI z)) 570000 (g.A 6) p 0) ∨ ¬ al g σ p := by
  by_cases ha : al g σ p
  · refine Or.inl (R.frD (FrL.i (FrL.i (FrL.i (FrL.i Fr.refl (by decide)) (by decide)) (by decide)) (by decide)) R.s.wf (fun q hq => ?_))
    by_cases c : q = p
    · subst c
      refine ⟨0, z, by omega, hz, rIs, ?_, fun _ => ⟨?_, ?_, fun i hi => by omega⟩, fun h => absurd ha h⟩
      · show (sI _ 580000 (g.A 7) q (nI z)).1 580000 (g.A 7) q = _; rw [rIs]
      · show (sI _ 40300 (g.D q 8) 0 0).1 40300 (g.D q 8) 0 = _; rw [rIs]; rfl
      · show (sI σ 40400 (g.D q 8) 0 (nI z)).1 40400 (g.D q 8) 0 = _; rw [rIs]
    · refine (R.d q hq).cong Iff.rfl (rIx c) ?_ ?_ ?_ (fun i _ => ⟨rfl, rfl, rfl, rfl⟩)
      · show (sI _ 580000 (g.A 7) p (nI z)).1 580000 (g.A 7) q = _; exact rIx c
      · show (sI _ 40300 (g.D p 8) 0 0).1 40300 (g.D q 8) 0 = _; exact D_w R.s hp hq (by decide) c
      · show (sI σ 40400 (g.D p 8) 0 (nI z)).1 40400 (g.D q 8) 0 = _; exact D_w R.s hp hq (by decide) c
  · exact Or.inr ha
def odrF (σ : Sg) (a : Nat) (x : Int32) : Int32 × Sg := if x < 0 then (0, σ) else if x ≤ 20 then (1, sI (sI σ 40400 a 0 x) 40300 a 0 0) else (0, σ)
theorem sim_draft {p : Nat} (R : RR E g n σ) (hp : p < 4) (ha : al g σ p) (x : Int32) :
    ∃ v σ1 σ2, odrF σ (g.D p 8) x = (v, σ1) ∧ mdrF σ1 g.m g.A (nI p) x = (v, σ2) ∧ RR E g (n + 1) σ2 ∧ σ2.1 500000 g.m 0 = 0 := by
  have hc : (nI p).toNatClampNeg = p := nI_clamp (by omega)
  by_cases c1 : x < 0
  · refine ⟨0, σ, sI σ 500000 g.m 0 0, by unfold odrF; rw [if_pos c1], by unfold mdrF; rw [ab0 hp ha, if_pos rfl, if_pos c1, th0 hp ha], (R.th 0).mono (by omega), rIs⟩
  · by_cases c2 : x ≤ 20
    · obtain ⟨z, -, z2, rfl⟩ := i_rng c1 (show ¬ 20 < x from fun h => by
        rw [Int32.lt_iff_toInt_lt] at h
        rw [Int32.le_iff_toInt_le] at c2
        omega) (by decide)
      have : (20 : Int32).toInt = 20 := rfl
      have hb : al g (sI (sI σ 40400 (g.D p 8) 0 (nI z)) 40300 (g.D p 8) 0 0) p := ha
      refine ⟨1, sI (sI σ 40400 (g.D p 8) 0 (nI z)) 40300 (g.D p 8) 0 0, sI (sI (sI (sI (sI σ 40400 (g.D p 8) 0 (nI z)) 40300 (g.D p 8) 0 0) 500000 g.m 0 0) 580000 (g.A 7) p (nI z)) 570000 (g.A 6) p 0, by unfold odrF; rw [if_neg c1, if_pos c2], by unfold mdrF; rw [ab0 hp hb, if_pos rfl, if_neg c1, if_pos c2, hc, th0 hp hb], ?_, by simp [sI]⟩
      rw [sI_comm (by decide : (500000 : Nat) ≠ 580000), sI_comm (by decide : (500000 : Nat) ≠ 570000)]
      rcases R.begin hp (z := z) (by omega) with h | h
      · exact (h.th 0).mono (by omega)
      · exact absurd ha h
    · refine ⟨0, σ, sI σ 500000 g.m 0 0, by unfold odrF; rw [if_neg c1, if_neg c2], by unfold mdrF; rw [ab0 hp ha, if_pos rfl, if_neg c1, if_neg c2, th0 hp ha], (R.th 0).mono (by omega), rIs⟩
theorem sim_item {p : Nat} (R : RR E g n σ) (hp : p < 4) (ha : al g σ p) (x y : Int32) (N : Nat → Nat) (hN : ∀ j, j < 4 → σ.1 570000 (g.A 6) j = nI (N j) ∧ N j ≤ 4) :
    ∃ v σ1 σ2, appF σ (g.D p 8) (g.D p 9) (g.D p 10) x y = (v, σ1) ∧ mitF σ1 g.m g.A N (nI p) x y = (v, σ2) ∧ RR E g (n + 1) σ2 ∧ σ2.1 500000 g.m 0 = 0 := by
  have hc : (nI p).toNatClampNeg = p := nI_clamp (by omega)
  obtain ⟨k, z, a1, a2, a3, a4, a5, -⟩ := R.d p hp
  obtain ⟨b1, b2, b3⟩ := a5 ha
  have ek : N p = k := (nI_eq (by have := (hN p hp).2; omega) (by omega)).mp ((hN p hp).1.symm.trans a3)
  have e4 : (4 : Int32) ≤ nI k ↔ k = 4 := by rw [nl4, nI_leI (by omega) (by omega)]; omega
  have stay : ∀ v, (∃ σ1 σ2, appF σ (g.D p 8) (g.D p 9) (g.D p 10) x y = (v, σ1) ∧ σ1 = σ ∧ mitF σ1 g.m g.A N (nI p) x y = (v, σ2) ∧ σ2 = sI σ 500000 g.m 0 0) → ∃ v σ1 σ2, appF σ (g.D p 8) (g.D p 9) (g.D p 10) x y = (v, σ1) ∧ mitF σ1 g.m g.A N (nI p) x y = (v, σ2) ∧ RR E g (n + 1) σ2 ∧ σ2.1 500000 g.m 0 = 0 := by
    rintro v ⟨_, _, h1, rfl, h2, rfl⟩
    exact ⟨v, _, _, h1, h2, (R.th 0).mono (by omega), rIs⟩
  by_cases c4 : k = 4
  · exact stay 0 ⟨_, _, by unfold appF; rw [b1, if_pos (e4.mpr c4)], rfl, by unfold mitF; rw [ab0 hp ha, if_pos rfl, hc, if_pos (ek.trans c4), th0 hp ha], rfl⟩
  · by_cases c1 : x < 0
    · exact stay 0 ⟨_, _, by unfold appF; rw [b1, if_neg (mt e4.mp c4), if_pos c1], rfl, by unfold mitF; rw [ab0 hp ha, if_pos rfl, hc, if_neg (by rw [ek]; exact c4), if_pos c1, th0 hp ha], rfl⟩
    · by_cases c2 : x ≤ 2
      · have hx : x = 0 ∨ x = 1 ∨ x = 2 := by
          obtain ⟨j, -, j2, rfl⟩ := i_rng c1 (show ¬ 2 < x from fun h => by
            rw [Int32.lt_iff_toInt_lt] at h
            rw [Int32.le_iff_toInt_le] at c2
            omega) (by decide)
          have : (2 : Int32).toInt = 2 := rfl
          have : j = 0 ∨ j = 1 ∨ j = 2 := by omega
          rcases this with rfl | rfl | rfl
          · exact Or.inl rfl
          · exact Or.inr (Or.inl rfl)
          · exact Or.inr (Or.inr rfl)
        have hb : al g (sI (sI (sI σ 160000 (g.D p 9) k x) 170000 (g.D p 10) k y) 40300 (g.D p 8) 0 (nI (k + 1))) p := ha
        refine ⟨1, sI (sI (sI σ 160000 (g.D p 9) k x) 170000 (g.D p 10) k y) 40300 (g.D p 8) 0 (nI (k + 1)), sI (sI (sI (sI (sI (sI (sI σ 160000 (g.D p 9) k x) 170000 (g.D p 10) k y) 40300 (g.D p 8) 0 (nI (k + 1))) 500000 g.m 0 0) 590000 (g.A 8) (4 * p + k) x) 600000 (g.A 9) (4 * p + k) y) 570000 (g.A 6) p (nI (k + 1)), by unfold appF; rw [b1, if_neg (mt e4.mp c4), if_neg c1, if_pos c2, nI_clamp (by omega), nI_1], by unfold mitF; rw [ab0 hp hb, if_pos rfl, hc, ek, if_neg c4, if_neg c1, if_pos c2, th0 hp hb], ?_, by simp [sI]⟩
        refine RR.mono (n := n) (R.frD (FrL.i (FrL.i (FrL.i (FrL.i (FrL.i (FrL.i (FrL.i Fr.refl (by decide)) (by decide)) (by decide)) (by decide)) (by decide)) (by decide)) (by decide)) R.s.wf (fun q hq => ?_)) (by omega)
        by_cases c : q = p
        · subst c
          refine ⟨k + 1, z, by omega, a2, rIs, a4, fun _ => ⟨?_, b2, fun i hi => ?_⟩, fun h => absurd ha h⟩
          · show (sI _ 40300 (g.D q 8) 0 (nI (k + 1))).1 40300 (g.D q 8) 0 = _; rw [rIs]
          · show (sI σ 160000 (g.D q 9) k x).1 160000 (g.D q 9) i = (sI σ 590000 (g.A 8) (4 * q + k) x).1 590000 (g.A 8) (4 * q + i) ∧ (sI σ 170000 (g.D q 10) k y).1 170000 (g.D q 10) i = (sI σ 600000 (g.A 9) (4 * q + k) y).1 600000 (g.A 9) (4 * q + i) ∧ ((sI σ 590000 (g.A 8) (4 * q + k) x).1 590000 (g.A 8) (4 * q + i) = 0 ∨ (sI σ 590000 (g.A 8) (4 * q + k) x).1 590000 (g.A 8) (4 * q + i) = 1 ∨ (sI σ 590000 (g.A 8) (4 * q + k) x).1 590000 (g.A 8) (4 * q + i) = 2)
            by_cases ci : i = k
            · subst ci
              rw [rIs, rIs, rIs, rIs]; exact ⟨rfl, rfl, hx⟩
            · rw [rIx ci, rIx ci, rIx (show 4 * q + i ≠ 4 * q + k by omega), rIx (show 4 * q + i ≠ 4 * q + k by omega)]
              exact b3 i (by omega)
        · refine (R.d q hq).cong Iff.rfl (rIx c) rfl ?_ rfl (fun i hi => ⟨?_, ?_, ?_, ?_⟩)
          · show (sI _ 40300 (g.D p 8) 0 _).1 40300 (g.D q 8) 0 = _; exact D_w R.s hp hq (by decide) c
          · show (sI σ 160000 (g.D p 9) k x).1 160000 (g.D q 9) i = _; exact D_w R.s hp hq (by decide) c
          · show (sI _ 170000 (g.D p 10) k y).1 170000 (g.D q 10) i = _; exact D_w R.s hp hq (by decide) c
          · show (sI _ 590000 (g.A 8) (4 * p + k) x).1 590000 (g.A 8) (4 * q + i) = _; exact rIx (by omega)
          · show (sI _ 600000 (g.A 9) (4 * p + k) y).1 600000 (g.A 9) (4 * q + i) = _; exact rIx (by omega)
      · exact stay 0 ⟨_, _, by unfold appF; rw [b1, if_neg (mt e4.mp c4), if_neg c1, if_neg c2], rfl, by unfold mitF; rw [ab0 hp ha, if_pos rfl, hc, if_neg (by rw [ek]; exact c4), if_neg c1, if_neg c2, th0 hp ha], rfl⟩
end FRM
