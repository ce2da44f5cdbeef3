/-! die: class and model see the same calls and the same watches -/
section DIL
variable {E : FE} {g : Gh} {σ σ1 s0 : Sg} {K J : Nat → Bool} {n p : Nat}
/-- inbox and watches together -/
theorem RR.len3 {p : Nat} (R : RR E g n σ) (hp : p < 4) (ha : al g σ p) : (g.L1 p).length + (g.L3 p).length ≤ 57 := by
  obtain ⟨A, AM, -, u, hu, -, AU2⟩ := (R.a p hp).1 ha
  have lens : ∀ b, 64 * p ≤ b → b < 64 * p + 64 → ¬ σ.1 610000 (g.A 10) b ≤ 0 → ∃ L, L ≤ 64 ∧ σ.1 630000 (g.A 12) b = nI L := by
    intro b h1 h2 h3
    obtain ⟨c', m', hc', hm', rfl⟩ := A.2 b h1 h2 h3
    obtain ⟨-, -, -, -, y5, L', y6, -, y8, -⟩ := A.1 c' m' hc' hm'
    exact ⟨L', by omega, by rw [y5, y6]⟩
  rw [cels_n lens] at AU2
  have hle := sumR_le (f := celN (σ.1 610000 (g.A 10)) (σ.1 630000 (g.A 12)) (σ.1 640000 (g.A 13)) 1) (M := 64) 64 (64 * p) (fun j h1 h2 => by
    unfold celN
    split
    · omega
    · split
      · omega
      · rename_i z _
        obtain ⟨L', hL', eL⟩ := lens j h1 h2 z
        rw [eL, nI_clamp (by omega)]; exact hL')
  have hu' : sumR (celN (σ.1 610000 (g.A 10)) (σ.1 630000 (g.A 12)) (σ.1 640000 (g.A 13)) 1) 64 (64 * p) = u := (nI_eq (by omega) (by omega)).mp AU2
  obtain ⟨i1, i2, -⟩ := R.i p hp
  have hrow : ∀ w, w ∈ g.L1 p → σ.1 50000 w 0 = 2 → ∃ m c, σ.2.1 50106 w 0 = some m ∧ c < 64 ∧ σ.2.1 150006 (g.D p 7) c = some m ∧ σ.1 60000 m 0 = 2 := by
    intro w hw h2
    obtain ⟨i, hi⟩ := List.getElem?_of_mem hw
    obtain ⟨q1, -, q3⟩ := i1 i w hi
    rcases q3 with ⟨-, z, -⟩ | ⟨m, c, r1, r2, r3, r4, -⟩
    · rw [← q1, h2] at z; rcases z with z | z <;> exact absurd z (by decide)
    · exact ⟨m, c, r1, r2, r3, by rw [r4, ← q1, h2]⟩
  have hY : (g.L1 p).countP (fun w => σ.1 50000 w 0 == 2) ≤ 32 := by
    have h1 := filterMap_cnt (P := fun w => σ.1 50000 w 0 == 2) (ρ := fun w => if σ.1 50000 w 0 = 2 then (σ.2.1 50106 w 0).map g.B else none) (g.L1 p) (fun w hw hz => by
      have hz' : σ.1 50000 w 0 = 2 := by simpa using hz
      obtain ⟨m, c, hm, -⟩ := hrow w hw hz'
      rw [if_pos hz', hm]; rfl)
    have h2 := nodup_le (k := 64) (i := 64 * p) ((g.L1 p).filterMap (fun w => if σ.1 50000 w 0 = 2 then (σ.2.1 50106 w 0).map g.B else none)) (celN (σ.1 610000 (g.A 10)) (σ.1 630000 (g.A 12)) (σ.1 640000 (g.A 13)) 1) ?_ (fun b hb => ?_)
    · omega
    · unfold List.Nodup
      rw [List.pairwise_filterMap, List.pairwise_iff_getElem]
      intro i j hi hj hij b hb b' hb' e
      have hi' : (g.L1 p)[i]? = some (g.L1 p)[i] := List.getElem?_eq_getElem hi
      have hj' : (g.L1 p)[j]? = some (g.L1 p)[j] := List.getElem?_eq_getElem hj
      have k1 : σ.1 50000 (g.L1 p)[i] 0 = 2 := by
        by_cases z : σ.1 50000 (g.L1 p)[i] 0 = 2
        · exact z
        · rw [if_neg z] at hb; cases hb
      have k2 : σ.1 50000 (g.L1 p)[j] 0 = 2 := by
        by_cases z : σ.1 50000 (g.L1 p)[j] 0 = 2
        · exact z
        · rw [if_neg z] at hb'; cases hb'
      obtain ⟨m, c, hm, hc, hcm, -⟩ := hrow _ (List.mem_of_getElem? hi') k1
      obtain ⟨m', c', hm', hc', hcm', -⟩ := hrow _ (List.mem_of_getElem? hj') k2
      rw [if_pos k1, hm] at hb
      rw [if_pos k2, hm'] at hb'
      have e1 : g.B m = b := Option.some.inj hb
      have e2 : g.B m' = b' := Option.some.inj hb'
      have := (A.inj hc hc' hcm hcm' (e1.trans (e.trans e2.symm))).2
      subst this
      have := i2 i j _ _ m hi' hj' hm hm'
      omega
    · rw [List.mem_filterMap] at hb
      obtain ⟨w, hw, hz⟩ := hb
      by_cases z : σ.1 50000 w 0 = 2
      · obtain ⟨m, c, hm, hc, hcm, hk⟩ := hrow w hw z
        rw [if_pos z, hm] at hz
        have e1 : g.B m = b := Option.some.inj hz
        subst e1
        obtain ⟨y1, y2, y3, y4, y5, L, y6, y7, y8, -⟩ := A.1 c m hc hcm
        obtain ⟨k, s, l, it, t, T, a1, a2, a3, x1, x2, x3, x4, x5, x6, x7, x8, x9, x10, x11, x12, x13, -⟩ := AM c m hc hcm
        have k2 : k = 2 := (nI_eq (b := 2) (by omega) (by omega)).mp (x1.symm.trans hk)
        refine ⟨y1, y2, ?_⟩
        unfold celN
        rw [if_neg y3, x13, if_pos k2, if_neg (fun q => absurd q.1 (by decide)), y5, show (fun m => σ.1 60400 m 0) m = nI L from y6, nI_clamp (by omega)]
        exact y7
      · rw [if_neg z] at hz; cases hz
  have hF : (g.L1 p).countP (fun w => σ.1 50000 w 0 == 5) ≤ 1 := by
    have h1 := R.c p hp ha
    have h2 : (g.L1 p).countP (fun w => σ.1 50000 w 0 == 5) ≤ (g.L1 p).countP (rW σ) := List.countP_mono_left (fun w _ hw => by unfold rW; rw [hw]; simp)
    unfold outN at h1
    have h3 : (if σ.1 770000 (g.A 26) p = 0 then 0 else 1 : Nat) ≤ 1 := by split <;> omega
    omega
  have hb := R.b p hp ha
  have hlen := cnt_split (P := fun w => σ.1 50000 w 0 == 2) (g.L1 p)
  omega
/-- a search that says whether one is there -/
theorem or_F {f : Nat → Int32 → Int32} {P : Nat → Prop} : ∀ (k i : Nat) (a : Int32), (∀ j, i ≤ j → j < i + k → (¬ f j 0 = 0 ↔ P j)) → (∀ j b, ¬ b = 0 → ¬ f j b = 0) → (¬ itF f k i a = 0 ↔ ¬ a = 0 ∨ ∃ j, i ≤ j ∧ j < i + k ∧ P j)
  | 0, i, a, _, _ => ⟨fun h => Or.inl h, fun h => h.elim id (fun ⟨j, h1, h2, _⟩ => by omega)⟩
  | k + 1, i, a, h1, h2 => by
    rw [itF_succ, or_F k (i + 1) (f i a) (fun j a1 a2 => h1 j (by omega) (by omega)) h2]
    constructor
    · rintro (h | ⟨j, a1, a2, a3⟩)
      · by_cases z : a = 0
        · rw [z] at h; exact Or.inr ⟨i, Nat.le_refl _, by omega, (h1 i (Nat.le_refl _) (by omega)).mp h⟩
        · exact Or.inl z
      · exact Or.inr ⟨j, by omega, by omega, a3⟩
    · rintro (h | ⟨j, a1, a2, a3⟩)
      · exact Or.inl (h2 i a h)
      · by_cases z : j = i
        · rw [z] at a3
          by_cases z2 : a = 0
          · rw [z2]; exact Or.inl ((h1 i (Nat.le_refl _) (by omega)).mpr a3)
          · exact Or.inl (h2 i a z2)
        · exact Or.inr ⟨j, by omega, by omega, a3⟩
theorem if01 {P : Prop} [Decidable P] : ¬ (if P then (1 : Int32) else 0) = 0 ↔ P := by
  by_cases h : P
  · rw [if_pos h]; exact ⟨fun _ => h, fun _ => by decide⟩
  · rw [if_neg h]; exact ⟨fun z => absurd rfl z, fun z => absurd z h⟩
/-- has p a call of r that nobody answered: class and model agree -/
theorem RR.hasCall {r : Nat} (R : RR E g n σ) (hn : n ≤ 512) (hp : p < 4) (ha : al g σ p) (hr : r < 4) (hM : ∀ c a x, c ≠ 510000 → mpl g.A g.m c a → c ≠ 500300 → s0.1 c a x = σ.1 c a x) (h51 : s0.1 510000 (g.A 0) r = σ.1 510000 (g.A 0) r) : ¬ hcB σ (g.D r 0) (g.L1 p) (g.L2 p) = 0 ↔ ¬ wfR s0 g.A r p (g.L1 p).length (g.L2 p).length = 0 := by
  have mA : ∀ {c j}, 500000 < c → j < 31 → mpl g.A g.m c (g.A j) := fun h1 h2 => ⟨h1, Or.inr ⟨_, h2, rfl⟩⟩
  obtain ⟨p1, p2, p3, p4, p5⟩ := R.p r hr
  by_cases al0 : σ.1 510000 (g.A 0) r = 0
  · have zM : ∀ m, hcM σ (g.D r 0) m = false := fun m => by unfold hcM frmF; rw [p1, al0]; rfl
    have zW : ∀ w, hcW σ (g.D r 0) w = false := fun w => by
      unfold hcW
      split
      · split
        · rfl
        · exact zM _
      · rfl
    refine ⟨fun h => absurd ?_ h, fun h => absurd ?_ h⟩
    · unfold hcB
      rw [any_cg (f' := fun _ => false) (g.L1 p) (fun w _ => zW w), any_cg (f' := fun _ => false) (g.L2 p) (fun w _ => zM w)]
      simp
    · unfold wfR
      rw [h51, al0]; simp
  · have al1 : al g σ r := p2.resolve_left al0
    have eM : ∀ m, hcM σ (g.D r 0) m = oM σ r (g.lv r) m := fun m => by
      unfold hcM frmF oM
      rw [p1, if_neg al0, R.s.nm r hr, p3]
      by_cases c1 : nI r = σ.1 60100 m 0
      · rw [if_pos c1]
        by_cases c2 : nI (g.lv r) = σ.1 60200 m 0
        · rw [if_pos c2, ← c1, ← c2]; simp
        · rw [if_neg c2, beq_eq_false_iff_ne.mpr (fun e => c2 e.symm), Bool.and_false]; rfl
      · rw [if_neg c1, beq_eq_false_iff_ne.mpr (fun e => c1 e.symm)]; rfl
    have eW : ∀ w, hcW σ (g.D r 0) w = oW σ r (g.lv r) w := fun w => by
      unfold hcW oW
      by_cases c1 : σ.1 50000 w 0 = 1
      · rw [if_pos c1, c1]
        cases σ.2.1 50106 w 0 with
        | none => rfl
        | some m => exact eM m
      · rw [if_neg c1, beq_eq_false_iff_ne.mpr c1]; rfl
    have l0 : g.lv r ≤ 512 := by omega
    obtain ⟨i1, -⟩ := R.i p hp
    obtain ⟨o1, -⟩ := R.o p hp
    have c1 : ¬ hcB σ (g.D r 0) (g.L1 p) (g.L2 p) = 0 ↔ (∃ w, w ∈ g.L1 p ∧ oW σ r (g.lv r) w = true) ∨ ∃ m, m ∈ g.L2 p ∧ oM σ r (g.lv r) m = true := by
      unfold hcB
      rw [if01, any_cg (g.L1 p) (fun w _ => eW w), any_cg (g.L2 p) (fun w _ => eM w), Bool.or_eq_true, List.any_eq_true, List.any_eq_true]
    have c2 := or_F (f := wf1 s0 g.A r p) (P := fun i => s0.1 730000 (g.A 22) (384 * p + 6 * i) = 1 ∧ s0.1 730000 (g.A 22) (384 * p + 6 * i + 3) = nI r ∧ s0.1 730000 (g.A 22) (384 * p + 6 * i + 5) = s0.1 520000 (g.A 1) r) (g.L1 p).length 0 0 (fun j _ _ => by
      unfold wf1
      rw [if_pos rfl]
      by_cases a1 : s0.1 730000 (g.A 22) (384 * p + 6 * j) = 1
      · rw [if_pos a1]
        by_cases a2 : s0.1 730000 (g.A 22) (384 * p + 6 * j + 3) = nI r
        · rw [if_pos a2, if01]; exact ⟨fun h => ⟨a1, a2, h⟩, fun h => h.2.2⟩
        · rw [if_neg a2]; exact ⟨fun h => absurd rfl h, fun h => absurd h.2.1 a2⟩
      · rw [if_neg a1]; exact ⟨fun h => absurd rfl h, fun h => absurd h.1 a1⟩) (fun j b hb => by unfold wf1; rw [if_neg hb]; decide)
    have c3 := or_F (f := wf2 s0 g.A r p) (P := fun i => s0.1 750000 (g.A 24) (12 * p + i) = nI r ∧ s0.1 760000 (g.A 25) (12 * p + i) = s0.1 520000 (g.A 1) r) (g.L2 p).length 0 (itF (wf1 s0 g.A r p) (g.L1 p).length 0 0) (fun j _ _ => by
      unfold wf2
      rw [if_pos rfl]
      by_cases a1 : s0.1 750000 (g.A 24) (12 * p + j) = nI r
      · rw [if_pos a1, if01]; exact ⟨fun h => ⟨a1, h⟩, fun h => h.2⟩
      · rw [if_neg a1]; exact ⟨fun h => absurd rfl h, fun h => absurd h.1 a1⟩) (fun j b hb => by unfold wf2; rw [if_neg hb]; decide)
    have c4 : ¬ wfR s0 g.A r p (g.L1 p).length (g.L2 p).length = 0 ↔ ¬ itF (wf2 s0 g.A r p) (g.L2 p).length 0 (itF (wf1 s0 g.A r p) (g.L1 p).length 0 0) = 0 := by
      unfold wfR
      by_cases z : itF (wf2 s0 g.A r p) (g.L2 p).length 0 (itF (wf1 s0 g.A r p) (g.L1 p).length 0 0) = 0
      · rw [if_pos z]; exact ⟨fun h => absurd rfl h, fun h => absurd z h⟩
      · rw [if_neg z, h51, if_neg al0]; exact ⟨fun _ => z, fun _ => by decide⟩
    rw [c1, c4, c3, c2]
    have m7 : ∀ x, s0.1 730000 (g.A 22) x = σ.1 730000 (g.A 22) x := fun x => hM _ _ _ (by decide) (mA (by decide) (by decide)) (by decide)
    have m5 : ∀ x, s0.1 750000 (g.A 24) x = σ.1 750000 (g.A 24) x := fun x => hM _ _ _ (by decide) (mA (by decide) (by decide)) (by decide)
    have m6 : ∀ x, s0.1 760000 (g.A 25) x = σ.1 760000 (g.A 25) x := fun x => hM _ _ _ (by decide) (mA (by decide) (by decide)) (by decide)
    have m2 : s0.1 520000 (g.A 1) r = nI (g.lv r) := (hM _ _ _ (by decide) (mA (by decide) (by decide)) (by decide)).trans p4
    simp only [m7, m5, m6, m2]
    constructor
    · rintro (⟨w, hw, h⟩ | ⟨m, hm, h⟩)
      · obtain ⟨i, hi⟩ := List.getElem?_of_mem hw
        have hl := (List.getElem?_eq_some_iff.mp hi).1
        unfold oW at h
        rw [Bool.and_eq_true] at h
        have k1 : σ.1 50000 w 0 = 1 := by simpa using h.1
        obtain ⟨q1, q2, q3⟩ := i1 i w hi
        rcases q3 with ⟨-, z, -⟩ | ⟨m, c, r1, r2, r3, r4, r5, r6, r7, r8, r9⟩
        · rw [← q1, k1] at z
          exact absurd z (by decide)
        · have h9 := h.2
          rw [r1] at h9
          unfold oM at h9
          simp only [Bool.and_eq_true, beq_iff_eq] at h9
          refine Or.inl (Or.inr ⟨i, Nat.zero_le _, by omega, by rw [← q1]; exact k1, by rw [r8]; exact h9.1, ?_⟩)
          rw [r9 (by rw [r4, ← q1]; exact k1)]; exact h9.2
      · obtain ⟨i, hi⟩ := List.getElem?_of_mem hm
        have hl := (List.getElem?_eq_some_iff.mp hi).1
        unfold oM at h
        simp only [Bool.and_eq_true, beq_iff_eq] at h
        obtain ⟨s, l, q1, q2, q3, q4, q5, q6⟩ := o1 i m hi
        exact Or.inr ⟨i, Nat.zero_le _, by omega, by rw [q5, ← q1]; exact h.1, by rw [q6, ← q3]; exact h.2⟩
    · rintro ((h | ⟨i, -, hi, h1, h2, h3⟩) | ⟨i, -, hi, h1, h2⟩)
      · exact absurd trivial h
      · have hg : (g.L1 p)[i]? = some (g.L1 p)[i] := List.getElem?_eq_getElem (by omega)
        obtain ⟨q1, q2, q3⟩ := i1 i _ hg
        refine Or.inl ⟨_, List.mem_of_getElem? hg, ?_⟩
        unfold oW
        rcases q3 with ⟨-, z, -⟩ | ⟨m, c, r1, r2, r3, r4, r5, r6, r7, r8, r9⟩
        · rw [h1] at z
          exact absurd z (by decide)
        · rw [r1, q1, h1]
          have e1 : σ.1 60100 m 0 = nI r := r8.symm.trans h2
          have e2 : σ.1 60200 m 0 = nI (g.lv r) := (r9 (by rw [r4]; exact h1)).symm.trans h3
          have e3 : oM σ r (g.lv r) m = true := by unfold oM; rw [e1, e2]; simp
          dsimp only
          rw [e3]; rfl
      · have hg : (g.L2 p)[i]? = some (g.L2 p)[i] := List.getElem?_eq_getElem (by omega)
        obtain ⟨s, l, q1, q2, q3, q4, q5, q6⟩ := o1 i _ hg
        refine Or.inr ⟨_, List.mem_of_getElem? hg, ?_⟩
        unfold oM
        rw [q1, ← q5, h1, q3, ← q6, h2]
        simp
/-- a watch as the model has it -/
def wlF (g : Gh) (σ : Sg) (w : Nat) : Int32 × Int32 := (nI (g.N ((σ.2.1 70003 w 0).getD 0)), σ.1 70100 w 0)
/-- p's objects and the others -/
theorem RR.wtb {r i w : Nat} (R : RR E g n σ) (hn : n ≤ 512) (hp : p < 4) (ha : al g σ p) (hr : r < 4) (har : al g σ r) (hi : (g.L3 r)[i]? = some w) (h3 : σ1.2.1 70003 w 0 = σ.2.1 70003 w 0) (hs : ∀ n, σ.2.2.2 n = 3 → (∀ k, k < 10 → σ.2.1 110003 (g.D p 1) k ≠ some n) → σ1.1 30200 n 0 = σ.1 30200 n 0) (hs1 : ∀ k n, k < 10 → σ.2.1 110003 (g.D p 1) k = some n → σ1.1 30200 n 0 = 1) :
    tbW p (σ.1 520000 (g.A 1) p) (wlF g σ w) = ddW σ1 w ∧ (wlF g σ w).1 = σ.1 790000 (g.A 28) (8 * r + i) ∧ (wlF g σ w).2 = σ.1 800000 (g.A 29) (8 * r + i) ∧ ¬ (wlF g σ w).1 < 0 := by
  obtain ⟨v1, v2, v3⟩ := (R.v r hr).1 har
  obtain ⟨a, q1, q2, q3, q4⟩ := v1 i w hi
  have ea : wlF g σ w = (nI (g.N a), σ.1 70100 w 0) := by unfold wlF; rw [q1]; rfl
  have ka := R.s.wf _ _ _ _ q1 (by decide)
  have hb := R.no.ok R.p (by omega) ka
  rw [ea]
  refine ⟨?_, q3.symm, q4, fun h => ?_⟩
  · obtain ⟨w0, o, k, e1, e2, e3, e4, e5, e6, e7⟩ := R.no.1 a ka
    obtain ⟨f2, f3, f4⟩ : w0 = g.lv o ∧ al g σ o ∧ σ.2.1 110003 (g.D o 1) k = some a := by
      rcases e7 with ⟨-, x⟩ | ⟨x, -⟩
      · exact x
      · rw [q2] at x; exact absurd x (by decide)
    obtain ⟨-, -, -, p4, p5⟩ := R.p p hp
    have hpo := (R.p o e2).2.2.2.2
    unfold tbW ddW
    rw [h3, q1]
    have hc : (nI (g.N a)).toNatClampNeg = g.N a := nI_clamp (by omega)
    have ep : pOf (nI (g.N a)) = o := by unfold pOf; rw [hc]; omega
    have ed : nI (g.N a) / 40 = nI (g.N a / 40) := pk_div (d := 40) (by omega) (by decide) (by decide)
    dsimp only
    rw [ep, ed, p4]
    by_cases c : o = p
    · subst c
      rw [hs1 k a e3 f4]
      have : g.N a / 40 = g.lv o := by omega
      rw [this]
      simp
    · have : ¬ (nI o = nI p ∧ nI (g.N a / 40) = nI (g.lv p)) := fun z => c ((nI_eq (by omega) (by omega)).mp z.1)
      rw [decide_eq_false this, hs a ka (fun k' hk' e => ?_), q2]
      · rfl
      · rcases R.no.2.2 p k' hp hk' with ⟨z, -⟩ | ⟨a', z1, z2, z3, z4, z5⟩
        · rw [z] at e; cases e
        · rw [z1] at e; cases e
          omega
  · exact absurd h (lt0_nI (by omega))
/-- lists of watches: works and what stays -/
theorem dk_map {l : Int32} {f : Nat → Int32 × Int32} {d : Nat → Bool} : ∀ (L : List Nat), (∀ w, w ∈ L → tbW p l (f w) = d w) → dtW p l (L.map f) = (L.filter d).map (fun w => (4, (f w).2)) ∧ kpW p l (L.map f) = (L.filter (fun w => !(d w))).map f
  | [], _ => ⟨rfl, rfl⟩
  | w :: t, h => by
    obtain ⟨h1, h2⟩ := dk_map t (fun y hy => h y (List.mem_cons_of_mem _ hy))
    have h0 := h w List.mem_cons_self
    unfold dtW at h1 ⊢
    unfold kpW at h2 ⊢
    rw [List.map_cons, List.filter_cons, List.filter_cons, List.filter_cons, List.filter_cons, h0]
    cases d w
    · simp [h1, h2]
    · simp [h1, h2]
end DIL
