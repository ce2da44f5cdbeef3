section FRM
variable {E : FE} {g : Gh} {σ σ' : Sg} {K J : Nat → Bool} {n n' : Nat}
/-- manage, as class and model have it -/
def omgF (σ : Sg) (x a : Nat) (k : Int32) : Int32 × Sg := match natF (σ.2.1 110003 a) k with
  | none => (0, σ)
  | some b => match σ.2.1 10103 x 0 with
    | none => (1, sO σ 10103 x 0 (some b))
    | some _ => (0, σ)
def mmgF (σ : Sg) (m : Nat) (A : Nat → Nat) (p k : Int32) : Int32 × Sg := if abI σ A p = 0 then (if σ.1 500300 m 0 ≥ 0 then (0, thS σ m A p) else if hnF (σ.1 530000 (A 2)) p.toNatClampNeg k = 0 then (0, thS σ m A p) else (1, sI (thS σ m A p) 500300 m 0 (40 * σ.1 520000 (A 1) p.toNatClampNeg + 10 * nI p.toNatClampNeg + k))) else (0, thS σ m A p)
theorem RNo.own {p : Nat} (h : RNo g σ) (hp : p < 4) (ha : al g σ p) : ∀ k, k < 10 → (σ.2.1 110003 (g.D p 1) k = none ∧ σ.1 530000 (g.A 2) (10 * p + k) = 0) ∨ ∃ a, σ.2.1 110003 (g.D p 1) k = some a ∧ σ.1 530000 (g.A 2) (10 * p + k) = 1 ∧ g.N a = 40 * g.lv p + 10 * p + k := by
  intro k hk
  rcases h.2.2 p k hp hk with ⟨z1, z2⟩ | ⟨a, z1, z2, z3, -⟩
  · exact Or.inl ⟨z1, z2 ha⟩
  · exact Or.inr ⟨a, z1, z2, z3⟩
theorem natF_some {f : Nat → Option Nat} {k : Int32} {a : Nat} (h : natF f k = some a) : ∃ j, j < 10 ∧ k = nI j ∧ f j = some a := by
  unfold natF at h
  by_cases c1 : k < 0
  · rw [if_pos c1] at h; cases h
  · rw [if_neg c1] at h
    by_cases c2 : k < 10
    · rw [if_pos c2] at h
      obtain ⟨j, hj, rfl⟩ := nI_of c1
      rw [nI_clamp hj] at h
      rw [nl10, nI_ltI hj (by omega)] at c2
      exact ⟨j, c2, rfl, h⟩
    · rw [if_neg c2] at h; cases h
theorem sim_manage {p : Nat} (R : RR E g n σ) (hn : n ≤ 512) (hp : p < 4) (ha : al g σ p) (x : Int32) :
    ∃ v σ1 σ2, omgF σ g.x (g.D p 1) x = (v, σ1) ∧ mmgF σ1 g.m g.A (nI p) x = (v, σ2) ∧ RR E g (n + 1) σ2 ∧ σ2.1 500000 g.m 0 = 0 := by
  have hc : (nI p).toNatClampNeg = p := nI_clamp (by omega)
  have hno := NR.own (N := g.N) (nd := σ.2.1 110003 (g.D p 1)) (sv := σ.1 530000 (g.A 2)) (p := p) (lv := g.lv p) (L := σ.1 520000 (g.A 1) p) (R.p p hp).2.2.2.1 (R.no.own hp ha) x
  have N3 : ∀ {a}, σ.2.2.2 a = 3 → g.N a < 2 ^ 31 := fun h => by have := R.no.ok R.p (by omega) h; omega
  have stay : (omgF σ g.x (g.D p 1) x = (0, σ) ∧ mmgF σ g.m g.A (nI p) x = (0, sI σ 500000 g.m 0 0)) → ∃ v σ1 σ2, omgF σ g.x (g.D p 1) x = (v, σ1) ∧ mmgF σ1 g.m g.A (nI p) x = (v, σ2) ∧ RR E g (n + 1) σ2 ∧ σ2.1 500000 g.m 0 = 0 := fun h => ⟨0, σ, _, h.1, h.2, (R.th 0).mono (by omega), rIs⟩
  have mneg := R.mg.1.neg (fun a ha => N3 (R.s.wf _ _ _ _ ha (by decide)))
  have mge : σ.1 500300 g.m 0 ≥ 0 ↔ ¬ σ.1 500300 g.m 0 < 0 := by
    rw [ge_iff_le, Int32.le_iff_toInt_le, Int32.lt_iff_toInt_lt]; omega
  rcases hno with ⟨e1, e2⟩ | ⟨a, e1, e2⟩
  · refine stay ⟨by unfold omgF; rw [e1], ?_⟩
    unfold mmgF
    rw [ab0 hp ha, if_pos rfl, hc, th0 hp ha]
    have hz : hnF (σ.1 530000 (g.A 2)) p x = 0 := by
      by_cases z : hnF (σ.1 530000 (g.A 2)) p x = 0
      · exact z
      · exfalso
        unfold hnF ikF at z
        unfold natF at e1
        by_cases c1 : x < 0
        · rw [if_pos c1] at z; exact z rfl
        · rw [if_neg c1] at z e1
          by_cases c3 : 9 < x
          · rw [if_pos c3] at z; exact z rfl
          · obtain ⟨j, -, j2, rfl⟩ := i_rng c1 c3 (by decide)
            have : (9 : Int32).toInt = 9 := rfl
            rw [if_neg c3, if_neg (by decide), nI_clamp (by omega)] at z
            rw [if_pos (by rw [nl10, nI_ltI (by omega) (by omega)]; omega), nI_clamp (by omega)] at e1
            rcases R.no.own hp ha j (by omega) with ⟨-, z2⟩ | ⟨a, z1, -⟩
            · rw [z2] at z; exact z rfl
            · rw [z1] at e1; cases e1
    by_cases c : σ.1 500300 g.m 0 ≥ 0
    · rw [if_pos c]
    · rw [if_neg c, if_pos hz]
  · obtain ⟨j, hj, rfl, hja⟩ := natF_some e1
    have h3 := R.s.wf _ _ _ _ hja (by decide)
    have hz : ¬ hnF (σ.1 530000 (g.A 2)) p (nI j) = 0 := by
      intro z
      rw [if_pos z] at e2
      exact nI_m1 _ (N3 h3) e2.symm
    rw [if_neg hz] at e2
    cases hm : σ.2.1 10103 g.x 0 with
    | some b =>
      refine stay ⟨by unfold omgF; rw [e1, hm], ?_⟩
      unfold mmgF
      rw [ab0 hp ha, if_pos rfl, if_pos (mge.mpr (fun h => by rw [mneg.mp h] at hm; cases hm)), th0 hp ha]
    | none =>
      have hb : al g (sO σ 10103 g.x 0 (some a)) p := ha
      refine ⟨1, sO σ 10103 g.x 0 (some a), sI (sI (sO σ 10103 g.x 0 (some a)) 500000 g.m 0 0) 500300 g.m 0 (nI (g.N a)), by unfold omgF; rw [e1, hm], ?_, ?_, by simp [sI]⟩
      · unfold mmgF
        rw [ab0 hp hb, if_pos rfl, if_neg (show ¬ (sO σ 10103 g.x 0 (some a)).1 500300 g.m 0 ≥ 0 from fun h => mge.mp h (mneg.mpr hm)), hc, if_neg (show ¬ hnF ((sO σ 10103 g.x 0 (some a)).1 530000 (g.A 2)) p (nI j) = 0 from hz), th0 hp hb, show 40 * (sO σ 10103 g.x 0 (some a)).1 520000 (g.A 1) p + 10 * nI p + nI j = nI (g.N a) from e2]
      · rw [sI_comm (by decide)]
        have R2 : RR E g n (sI (sO σ 10103 g.x 0 (some a)) 500300 g.m 0 (nI (g.N a))) := by
          have F : Fr (fun c => [10103, 500300].contains c) (fun _ => false) σ (sI (sO σ 10103 g.x 0 (some a)) 500300 g.m 0 (nI (g.N a))) := FrL.i (FrL.o Fr.refl (by decide)) (by decide)
          have hw' : WF (sI (sO σ 10103 g.x 0 (some a)) 500300 g.m 0 (nI (g.N a))) := WF.i (WF.oS R.s.wf (fun _ => h3))
          have hfe' := F.f0 (fun _ => rfl) R.s.f0
          have mg' : RMg g (sI (sO σ 10103 g.x 0 (some a)) 500300 g.m 0 (nI (g.N a))) := by
            refine ⟨Or.inr ⟨a, ?_, rIs⟩, fun b hb => ?_⟩
            · show (sO σ 10103 g.x 0 (some a)).2.1 10103 g.x 0 = _; rw [rOs]
            · have : (sO σ 10103 g.x 0 (some a)).2.1 10103 g.x 0 = some b := hb
              rw [rOs] at this; cases this
              show σ.1 30200 a 0 = 0
              rcases R.no.2.2 p j hp hj with ⟨z1, -⟩ | ⟨a', z1, -, -, -, z5⟩
              · rw [z1] at hja; cases hja
              · rw [z1] at hja; cases hja; exact z5
          exact RR.mk
                  (s := R.s.fr0 F hw' hfe' (by decide) (by decide) (by decide) (by decide))
                  (p := R.p.fr R.s F (by decide))
                  (no := R.no.fr R.s F (by decide) (by decide))
                  (mg := mg')
                  (h := fun p hp => (R.h p hp).fr hp R.s (F.at _ p) (by decide))
                  (d := fun p hp => (R.d p hp).fr hp R.s (F.at _ p) (by decide))
                  (a := fun p hp => (R.a p hp).fr hp R.s (F.at _ p) (by decide) (by decide))
                  (i := fun p hp => (R.i p hp).fr hp R.s (fun c m h1 h2 _ => RBn.of R.a p c m hp h1 h2) (F.at _ p) (by decide))
                  (o := fun p hp => (R.o p hp).fr hp R.s (F.at _ p) (by decide))
                  (v := fun p hp => (R.v p hp).fr hp R.s (F.at _ p) (by decide))
                  (l := fun p hp => (R.l p hp).fr hp R.s (F.at _ p) (by decide) (by decide))
                  (q := R.q.fr R.s (RBn.of R.a) F (by decide) (by decide) (by decide))
                  (c := R.c.fr R.s F (by decide) (by decide))
                  (b := R.b.fr R.s F (by decide) (by decide))
                  (t := by obtain ⟨T9, t1, t2⟩ := R.t; exact ⟨T9, by rw [(F.2.2 _ _ _ R.s.km (by decide)).1]; exact t1, t2⟩)
        exact (R2.th 0).mono (by omega)
/-- count -/
def ocnF (σ : Sg) (P : Nat → Nat) (l1 l2 l3 : Nat) (w : Int32) : Int32 := if w = 0 then σ.1 80300 (P 2) 0 else if w = 1 then nI l1 else if w = 2 then nI l2 else if w = 3 then (if σ.1 21000 (P 0) 0 = 0 then 0 else 1) else if w = 4 then σ.1 90100 (P 6) 0 else if w = 5 then σ.1 90200 (P 6) 0 else if w = 6 then nI l3 else if w = 7 then σ.1 40300 (P 8) 0 else -1
def mcnF (σ : Sg) (A : Nat → Nat) (p : Nat) (w : Int32) : Int32 := if w = 0 then itF (hdsF (σ.1 550000 (A 4)) (σ.1 560000 (A 5)) p) 15 1 0 else if w = 1 then σ.1 720000 (A 21) p else if w = 2 then σ.1 740000 (A 23) p else if w = 3 then (if σ.1 770000 (A 26) p = 0 then 0 else 1) else if w = 4 then itF (celsF (σ.1 610000 (A 10)) (σ.1 630000 (A 12)) (σ.1 640000 (A 13)) 0) 64 (64 * p) 0 else if w = 5 then itF (celsF (σ.1 610000 (A 10)) (σ.1 630000 (A 12)) (σ.1 640000 (A 13)) 1) 64 (64 * p) 0 else if w = 6 then σ.1 780000 (A 27) p else if w = 7 then σ.1 570000 (A 6) p else -1
theorem sim_count {p : Nat} (R : RR E g n σ) (hp : p < 4) (ha : al g σ p) (w : Int32) : ocnF σ (g.D p) (g.L1 p).length (g.L2 p).length (g.L3 p).length w = mcnF σ g.A p w := by
  obtain ⟨u, -, u1, u2⟩ := ((R.a p hp).1 ha).2.2.2
  obtain ⟨k, z, -, -, d1, -, d2, -⟩ := R.d p hp
  unfold ocnF mcnF
  rw [((R.h p hp).1 ha).2, (R.i p hp).2.2.1, (R.o p hp).2.1, ((R.l p hp).1 ha).2.1, ((R.a p hp).1 ha).2.2.1, u1, u2, ((R.v p hp).1 ha).2.1, d1, (d2 ha).1]
/-- handle -/
def ohnF (σ : Sg) (P : Nat → Nat) (x w : Int32) : Int32 := if hasF (σ.2.1 120003 (P 3)) x = 0 then -1 else match σ.2.1 120003 (P 3) x.toNatClampNeg with
  | none => -1
  | some a => if w = 0 then σ.1 130000 (P 4) x.toNatClampNeg else if w = 1 then σ.1 140000 (P 5) x.toNatClampNeg else if w = 2 then σ.1 30000 a 0 else if w = 3 then σ.1 30100 a 0 else if w = 4 then (if σ.1 30200 a 0 = 0 then 0 else 1) else -1
def mhnF (σ : Sg) (A : Nat → Nat) (p : Nat) (x w : Int32) : Int32 := if hhF (σ.1 550000 (A 4)) (σ.1 560000 (A 5)) p x = 0 then -1 else if w < 0 then -1 else if 4 < w then -1 else if w = 0 then σ.1 550000 (A 4) (16 * p + x.toNatClampNeg) else if w = 1 then σ.1 560000 (A 5) (16 * p + x.toNatClampNeg) else if w = 2 then nI (pOf (σ.1 540000 (A 3) (16 * p + x.toNatClampNeg))) else if w = 3 then nI ((σ.1 540000 (A 3) (16 * p + x.toNatClampNeg)).toNatClampNeg % 10) else (if dedI (σ.1 510000 (A 0)) (σ.1 520000 (A 1)) (σ.1 540000 (A 3) (16 * p + x.toNatClampNeg)) = 0 then 0 else 1)
theorem w5 (w : Int32) : w < 0 ∨ 4 < w ∨ w = 0 ∨ w = 1 ∨ w = 2 ∨ w = 3 ∨ w = 4 := by
  by_cases c1 : w < 0
  · exact Or.inl c1
  · by_cases c2 : 4 < w
    · exact Or.inr (Or.inl c2)
    · obtain ⟨j, -, j2, rfl⟩ := i_rng c1 c2 (by decide)
      have : (4 : Int32).toInt = 4 := rfl
      have : j = 0 ∨ j = 1 ∨ j = 2 ∨ j = 3 ∨ j = 4 := by omega
      rcases this with rfl | rfl | rfl | rfl | rfl
      · exact Or.inr (Or.inr (Or.inl rfl))
      · exact Or.inr (Or.inr (Or.inr (Or.inl rfl)))
      · exact Or.inr (Or.inr (Or.inr (Or.inr (Or.inl rfl))))
      · exact Or.inr (Or.inr (Or.inr (Or.inr (Or.inr (Or.inl rfl)))))
      · exact Or.inr (Or.inr (Or.inr (Or.inr (Or.inr (Or.inr rfl)))))
theorem sim_handle {p : Nat} (R : RR E g n σ) (hn : n ≤ 512) (hp : p < 4) (ha : al g σ p) (x w : Int32) : ohnF σ (g.D p) x w = mhnF σ g.A p x w := by
  obtain ⟨H, hu⟩ := (R.h p hp).1 ha
  have eh := H.has (by omega) x
  unfold ohnF mhnF
  rw [eh]
  by_cases c : hhF (σ.1 550000 (g.A 4)) (σ.1 560000 (g.A 5)) p x = 0
  · rw [if_pos c, if_pos c]
  · rw [if_neg c, if_neg c]
    rw [← eh] at c
    obtain ⟨j, a, j1, j2, rfl, hj⟩ := hasF_rng c
    obtain ⟨k1, k2, s, w', e1, e2, l1, l2, h3⟩ := H.1 j j1 j2
    have q3 : σ.1 540000 (g.A 3) (16 * p + j) = nI (g.N a) := by
      rcases h3 with ⟨z, -⟩ | ⟨a', z, -, q⟩
      · rw [z] at hj; cases hj
      · rw [z] at hj; cases hj; exact q
    have ha3 := R.s.wf _ _ _ _ hj (by decide)
    obtain ⟨m1, m2, m3, m4⟩ := R.no.m R.p (by omega) ha3
    have hb := R.no.ok R.p (by omega) ha3
    rw [nI_clamp (by omega), hj, q3, nI_clamp (by omega : g.N a < 2 ^ 31)]
    dsimp only
    rw [k1, k2, m1, m2, m3]
    rcases w5 w with c | c | rfl | rfl | rfl | rfl | rfl
    · have n0 : w ≠ 0 ∧ w ≠ 1 ∧ w ≠ 2 ∧ w ≠ 3 ∧ w ≠ 4 := by
        refine ⟨?_, ?_, ?_, ?_, ?_⟩ <;> (rintro rfl; exact absurd c (by decide))
      rw [if_pos c, if_neg n0.1, if_neg n0.2.1, if_neg n0.2.2.1, if_neg n0.2.2.2.1, if_neg n0.2.2.2.2]
    · have n0 : w ≠ 0 ∧ w ≠ 1 ∧ w ≠ 2 ∧ w ≠ 3 ∧ w ≠ 4 := by
        refine ⟨?_, ?_, ?_, ?_, ?_⟩ <;> (rintro rfl; exact absurd c (by decide))
      have n1 : ¬ w < 0 := by
        rw [Int32.lt_iff_toInt_lt] at c ⊢
        have : (4 : Int32).toInt = 4 := rfl
        have : (0 : Int32).toInt = 0 := rfl
        omega
      rw [if_neg n1, if_pos c, if_neg n0.1, if_neg n0.2.1, if_neg n0.2.2.1, if_neg n0.2.2.2.1, if_neg n0.2.2.2.2]
    · simp
    · simp
    · simp
    · simp
    · simp
/-- the taken buffer at a cell -/
theorem sim_taken {p : Nat} (R : RR E g n σ) (hp : p < 4) (ha : al g σ p) (x : Int32) : (tkAt σ (g.D p 7) x = none ∧ itF (tknF (σ.1 610000 (g.A 10)) (σ.1 620000 (g.A 11)) x) 64 (64 * p) (-1) = -1) ∨ ∃ c m, c < 64 ∧ x = nI c ∧ σ.2.1 150006 (g.D p 7) c = some m ∧ σ.1 61000 m 0 = 1 ∧ σ.1 610000 (g.A 10) (g.B m) = 3 ∧ tkAt σ (g.D p 7) x = some m ∧ itF (tknF (σ.1 610000 (g.A 10)) (σ.1 620000 (g.A 11)) x) 64 (64 * p) (-1) = nI (g.B m) := by
  obtain ⟨h1, h2, -⟩ := (R.a p hp).1 ha
  have row : ∀ b, 64 * p ≤ b → b < 64 * p + 64 → σ.1 610000 (g.A 10) b = 3 → ∃ c m, c < 64 ∧ σ.2.1 150006 (g.D p 7) c = some m ∧ g.B m = b ∧ σ.1 620000 (g.A 11) b = nI c ∧ σ.1 61000 m 0 = 1 := by
    intro b b1 b2 b3
    obtain ⟨c, m, hc, hm, rfl⟩ := h1.2 b b1 b2 (by rw [b3]; decide)
    obtain ⟨k, s', l, it, t, T, a1, a2, a3, e1, e2, e3, e4, e5, e6, e7, e8, e9, e10, e11, e12, e13, e14, e15, e16, e17, e18, e19, e20, e21, e22, e23, e24, e25, e26⟩ := h2 c m hc hm
    exact ⟨c, m, hc, hm, rfl, (h1.1 c m hc hm).2.2.2.1, by rw [e25, if_pos b3]⟩
  by_cases ex : ∃ c m, c < 64 ∧ x = nI c ∧ σ.2.1 150006 (g.D p 7) c = some m ∧ σ.1 610000 (g.A 10) (g.B m) = 3
  · obtain ⟨c, m, hc, rfl, hm, h3⟩ := ex
    obtain ⟨f1, f2, f3, f4, -⟩ := h1.1 c m hc hm
    have ht : σ.1 61000 m 0 = 1 := by
      obtain ⟨c', m', hc', hm', eb, e2, e3⟩ := row _ f1 f2 h3
      have : c' = c := (nI_eq (by omega) (by omega)).mp (e2.symm.trans f4)
      subst this
      rw [hm] at hm'; cases hm'; exact e3
    refine Or.inr ⟨c, m, hc, rfl, hm, ht, h3, ?_, ?_⟩
    · unfold tkAt
      rw [if_neg (lt0_nI (by omega)), if_neg (by rw [nl64, nI_leI (by omega) (by omega)]; omega), nI_clamp (by omega), hm]
      dsimp only
      rw [if_neg (by rw [ht]; decide)]
    · have := itF_ind (f := tknF (σ.1 610000 (g.A 10)) (σ.1 620000 (g.A 11)) (nI c)) (fun j v => j ≤ g.B m ∨ v = nI (g.B m)) 64 (64 * p) (-1) (Or.inl f1) (fun j v j1 j2 hv => by
        unfold tknF
        by_cases e : σ.1 610000 (g.A 10) j = 3
        · rw [if_pos e]
          by_cases e2 : σ.1 620000 (g.A 11) j = nI c
          · rw [if_pos e2]
            obtain ⟨c', m', hc', hm', eb, e3, -⟩ := row j j1 j2 e
            have : c' = c := (nI_eq (by omega) (by omega)).mp (e3.symm.trans e2)
            subst this
            rw [hm] at hm'; cases hm'
            rw [eb]; exact Or.inr rfl
          · rw [if_neg e2]
            rcases hv with hv | hv
            · by_cases e3 : j = g.B m
              · subst e3; exact absurd f4 e2
              · exact Or.inl (by omega)
            · exact Or.inr hv
        · rw [if_neg e]
          rcases hv with hv | hv
          · by_cases e3 : j = g.B m
            · subst e3; exact absurd h3 e
            · exact Or.inl (by omega)
          · exact Or.inr hv)
      rcases this with q | q
      · omega
      · exact q
  · refine Or.inl ⟨?_, ?_⟩
    · unfold tkAt
      by_cases c1 : x < 0
      · rw [if_pos c1]
      · rw [if_neg c1]
        by_cases c2 : 64 ≤ x
        · rw [if_pos c2]
        · rw [if_neg c2]
          obtain ⟨c, hc, rfl⟩ := nI_of c1
          rw [nl64, nI_leI (by omega) hc] at c2
          rw [nI_clamp hc]
          cases hm : σ.2.1 150006 (g.D p 7) c with
          | none => rfl
          | some m =>
            dsimp only
            obtain ⟨k, s', l, it, t, T, a1, a2, a3, e1, e2, e3, e4, e5, e6, e7, e8, e9, e10, e11, e12, e13, e14, e15, e16, e17, e18, e19, e20, e21, e22, e23, e24, e25, e26⟩ := h2 c m (by omega) hm
            rw [e25, if_neg (fun h3 => ex ⟨c, m, by omega, rfl, hm, h3⟩), if_pos rfl]
    · exact itF_ind (f := tknF (σ.1 610000 (g.A 10)) (σ.1 620000 (g.A 11)) x) (fun _ v => v = -1) 64 (64 * p) (-1) rfl (fun j v j1 j2 hv => by
        unfold tknF
        by_cases e : σ.1 610000 (g.A 10) j = 3
        · rw [if_pos e]
          by_cases e2 : σ.1 620000 (g.A 11) j = x
          · obtain ⟨c', m', hc', hm', eb, e3, -⟩ := row j j1 j2 e
            exact absurd ⟨c', m', hc', e2.symm.trans e3, hm', by rw [eb]; exact e⟩ ex
          · rw [if_neg e2]; exact hv
        · rw [if_neg e]; exact hv)
/-- read: what is there; none where it throws -/
def ordF (σ : Sg) (a7 : Nat) (x k w : Int32) : Option Int32 := match tkAt σ a7 x with
  | none => none
  | some m => if w = 2 then some (σ.1 60400 m 0) else if k < 0 then none else if σ.1 60500 m 0 ≤ k then none else match σ.2.1 60631 m 0, σ.2.1 60732 m 0 with
    | some a1, some a2 => if w = 0 then some (σ.1 310000 a1 k.toNatClampNeg) else if w = 1 then some (σ.1 320000 a2 k.toNatClampNeg) else none
    | _, _ => none
def mrdF (σ : Sg) (A : Nat → Nat) (p : Nat) (x k w : Int32) : Option Int32 := if itF (tknF (σ.1 610000 (A 10)) (σ.1 620000 (A 11)) x) 64 (64 * p) (-1) < 0 then none else if w = 2 then some (σ.1 630000 (A 12) (itF (tknF (σ.1 610000 (A 10)) (σ.1 620000 (A 11)) x) 64 (64 * p) (-1)).toNatClampNeg) else if k < 0 then none else if σ.1 680000 (A 17) (itF (tknF (σ.1 610000 (A 10)) (σ.1 620000 (A 11)) x) 64 (64 * p) (-1)).toNatClampNeg ≤ k then none else if w = 0 then some (σ.1 690000 (A 18) (4 * (itF (tknF (σ.1 610000 (A 10)) (σ.1 620000 (A 11)) x) 64 (64 * p) (-1)).toNatClampNeg + k.toNatClampNeg)) else if w = 1 then some (σ.1 700000 (A 19) (4 * (itF (tknF (σ.1 610000 (A 10)) (σ.1 620000 (A 11)) x) 64 (64 * p) (-1)).toNatClampNeg + k.toNatClampNeg)) else none
theorem sim_read {p : Nat} (R : RR E g n σ) (hp : p < 4) (ha : al g σ p) (x k w : Int32) : ordF σ (g.D p 7) x k w = mrdF σ g.A p x k w := by
  obtain ⟨h1, h2, -⟩ := (R.a p hp).1 ha
  rcases sim_taken R hp ha x with ⟨e1, e2⟩ | ⟨c, m, hc, rfl, hm, -, h3, e1, e2⟩
  · unfold ordF mrdF
    rw [e1, e2, if_pos (by decide)]
  · obtain ⟨f1, f2, f3, f4, f5, -⟩ := h1.1 c m hc hm
    obtain ⟨k', s', l, it, t, T, a1, a2, a3, e1', e2', e3, e4, e5, e6, e7, e8, e9, e10, e11, e12, e13, e14, e15, e16, e17, e18, e19, e20, e21, e22, e23, -⟩ := h2 c m hc hm
    unfold ordF mrdF
    rw [e1, e2, if_neg (lt0_nI (by omega)), nI_clamp (by omega), f5, e12]
    dsimp only
    rw [e10, e17, e18]
    dsimp only
    by_cases w2 : w = 2
    · rw [if_pos w2, if_pos w2]
    · rw [if_neg w2, if_neg w2]
      by_cases c1 : k < 0
      · rw [if_pos c1, if_pos c1]
      · rw [if_neg c1, if_neg c1]
        by_cases c2 : nI it ≤ k
        · rw [if_pos c2, if_pos c2]
        · rw [if_neg c2, if_neg c2]
          obtain ⟨i, hi, rfl⟩ := nI_of c1
          rw [nI_leI (by omega) hi] at c2
          obtain ⟨q1, q2, -⟩ := e23 i (by omega)
          rw [nI_clamp hi, q1, q2]
/-- latest -/
def oltF (σ : Sg) (a0 : Nat) (w : Int32) : Option Int32 := if w < 0 then none else if 4 < w then none else some (ltF σ (σ.2.1 21105 a0 0) w.toNatClampNeg)
def mltF (σ : Sg) (A : Nat → Nat) (p : Nat) (w : Int32) : Option Int32 := if w < 0 then none else if 4 < w then none else some (σ.1 810000 (A 30) (5 * p + w.toNatClampNeg))
theorem sim_latest {p : Nat} (R : RR E g n σ) (hp : p < 4) (ha : al g σ p) (w : Int32) : oltF σ (g.D p 0) w = mltF σ g.A p w := by
  unfold oltF mltF
  by_cases c1 : w < 0
  · rw [if_pos c1, if_pos c1]
  · rw [if_neg c1, if_neg c1]
    by_cases c2 : 4 < w
    · rw [if_pos c2, if_pos c2]
    · rw [if_neg c2, if_neg c2]
      obtain ⟨j, -, j2, rfl⟩ := i_rng c1 c2 (by decide)
      have : (4 : Int32).toInt = 4 := rfl
      rw [nI_clamp (by omega), ((R.l p hp).1 ha).1 j (by omega)]
end FRM
