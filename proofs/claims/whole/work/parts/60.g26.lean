section FRM
variable {E : FE} {g : Gh} {σ σ' σ2 : Sg} {K J : Nat → Bool} {n n' : Nat}
theorem nodup_le {k i : Nat} : ∀ (l : List Nat) (f : Nat → Nat), l.Nodup → (∀ x, x ∈ l → i ≤ x ∧ x < i + k ∧ 1 ≤ f x) → l.length ≤ sumR f k i
  | [], _, _, _ => Nat.zero_le _
  | x :: t, f, hn, h => by
    obtain ⟨h1, h2, h3⟩ := h x List.mem_cons_self
    rw [List.nodup_cons] at hn
    have ih := nodup_le t (fun y => if y = x then f y - 1 else f y) hn.2 (fun y hy => by
      have hne : y ≠ x := by rintro rfl; exact hn.1 hy
      obtain ⟨a, b, c⟩ := h y (List.mem_cons_of_mem _ hy)
      exact ⟨a, b, by rw [if_neg hne]; exact c⟩)
    have su := sumR_upd (f := f) (g := fun y => if y = x then f y - 1 else f y) (j0 := x) k i h1 h2 (fun j _ _ hj => if_neg hj)
    simp only [if_true] at su
    rw [List.length_cons]
    omega
theorem cnt_split {P : Nat → Bool} : ∀ (l : List Nat), l.length = l.countP P + l.countP (fun w => !(P w))
  | [] => rfl
  | x :: t => by
    rw [List.length_cons, List.countP_cons, List.countP_cons, cnt_split (P := P) t]
    cases P x <;> simp <;> omega
theorem filterMap_cnt {P : Nat → Bool} {ρ : Nat → Option Nat} : ∀ (l : List Nat), (∀ x, x ∈ l → P x = true → (ρ x).isSome) → l.countP P ≤ (l.filterMap ρ).length
  | [], _ => Nat.le_refl _
  | x :: t, h => by
    have ih := filterMap_cnt (P := P) (ρ := ρ) t (fun y hy => h y (List.mem_cons_of_mem _ hy))
    rw [List.countP_cons]
    cases e : ρ x with
    | none =>
      rw [List.filterMap_cons_none e]
      have : ¬ P x = true := fun z => by
        have := h x List.mem_cons_self z
        rw [e] at this; cases this
      rw [if_neg this]; omega
    | some y =>
      rw [List.filterMap_cons_some e, List.length_cons]
      split <;> omega
/-- no inbox is ever longer than the model's room -/
theorem RR.len {p : Nat} (R : RR E g n σ) (hp : p < 4) (ha : al g σ p) : (g.L1 p).length ≤ 57 := by
  obtain ⟨A, AM, -, u, hu, -, AU2⟩ := (R.a p hp).1 ha
  have lens : ∀ b, 64 * p ≤ b → b < 64 * p + 64 → ¬ σ.1 610000 (g.A 10) b ≤ 0 → ∃ L, L ≤ 64 ∧ σ.1 630000 (g.A 12) b = nI L := by
    intro b h1 h2 h3
    obtain ⟨c', m', hc', hm', rfl⟩ := A.2 b h1 h2 h3
    obtain ⟨-, -, -, -, y5, L', y6, -, y8, -⟩ := A.1 c' m' hc' hm'
    exact ⟨L', by omega, by rw [y5, y6]⟩
  rw [cels_n lens] at AU2
  have hle := sumR_le (f := celN (σ.1 610000 (g.A 10)) (σ.1 630000 (g.A 12)) (σ.1 640000 (g.A 13)) 1) (M := 64) 64 (64 * p) (fun j h1 h2 => by
    unfold celN
    split
    · omega
    · split
      · omega
      · rename_i z _
        obtain ⟨L', hL', eL⟩ := lens j h1 h2 z
        rw [eL, nI_clamp (by omega)]; exact hL')
  have hu' : sumR (celN (σ.1 610000 (g.A 10)) (σ.1 630000 (g.A 12)) (σ.1 640000 (g.A 13)) 1) 64 (64 * p) = u := (nI_eq (by omega) (by omega)).mp AU2
  obtain ⟨i1, i2, -⟩ := R.i p hp
  have hrow : ∀ w, w ∈ g.L1 p → σ.1 50000 w 0 = 2 → ∃ m c, σ.2.1 50106 w 0 = some m ∧ c < 64 ∧ σ.2.1 150006 (g.D p 7) c = some m ∧ σ.1 60000 m 0 = 2 := by
    intro w hw h2
    obtain ⟨i, hi⟩ := List.getElem?_of_mem hw
    obtain ⟨q1, -, q3⟩ := i1 i w hi
    rcases q3 with ⟨-, z, -⟩ | ⟨m, c, r1, r2, r3, r4, -⟩
    · rw [← q1, h2] at z; rcases z with z | z <;> exact absurd z (by decide)
    · exact ⟨m, c, r1, r2, r3, by rw [r4, ← q1, h2]⟩
  have hY : (g.L1 p).countP (fun w => σ.1 50000 w 0 == 2) ≤ 32 := by
    have h1 := filterMap_cnt (P := fun w => σ.1 50000 w 0 == 2) (ρ := fun w => if σ.1 50000 w 0 = 2 then (σ.2.1 50106 w 0).map g.B else none) (g.L1 p) (fun w hw hz => by
      have hz' : σ.1 50000 w 0 = 2 := by simpa using hz
      obtain ⟨m, c, hm, -⟩ := hrow w hw hz'
      rw [if_pos hz', hm]; rfl)
    have h2 := nodup_le (k := 64) (i := 64 * p) ((g.L1 p).filterMap (fun w => if σ.1 50000 w 0 = 2 then (σ.2.1 50106 w 0).map g.B else none)) (celN (σ.1 610000 (g.A 10)) (σ.1 630000 (g.A 12)) (σ.1 640000 (g.A 13)) 1) ?_ (fun b hb => ?_)
    · omega
    · unfold List.Nodup
      rw [List.pairwise_filterMap, List.pairwise_iff_getElem]
      intro i j hi hj hij b hb b' hb' e
      have hi' : (g.L1 p)[i]? = some (g.L1 p)[i] := List.getElem?_eq_getElem hi
      have hj' : (g.L1 p)[j]? = some (g.L1 p)[j] := List.getElem?_eq_getElem hj
      have k1 : σ.1 50000 (g.L1 p)[i] 0 = 2 := by
        by_cases z : σ.1 50000 (g.L1 p)[i] 0 = 2
        · exact z
        · rw [if_neg z] at hb; cases hb
      have k2 : σ.1 50000 (g.L1 p)[j] 0 = 2 := by
        by_cases z : σ.1 50000 (g.L1 p)[j] 0 = 2
        · exact z
        · rw [if_neg z] at hb'; cases hb'
      obtain ⟨m, c, hm, hc, hcm, -⟩ := hrow _ (List.mem_of_getElem? hi') k1
      obtain ⟨m', c', hm', hc', hcm', -⟩ := hrow _ (List.mem_of_getElem? hj') k2
      rw [if_pos k1, hm] at hb
      rw [if_pos k2, hm'] at hb'
      have e1 : g.B m = b := Option.some.inj hb
      have e2 : g.B m' = b' := Option.some.inj hb'
      have := (A.inj hc hc' hcm hcm' (e1.trans (e.trans e2.symm))).2
      subst this
      have := i2 i j _ _ m hi' hj' hm hm'
      omega
    · rw [List.mem_filterMap] at hb
      obtain ⟨w, hw, hz⟩ := hb
      by_cases z : σ.1 50000 w 0 = 2
      · obtain ⟨m, c, hm, hc, hcm, hk⟩ := hrow w hw z
        rw [if_pos z, hm] at hz
        have e1 : g.B m = b := Option.some.inj hz
        subst e1
        obtain ⟨y1, y2, y3, y4, y5, L, y6, y7, y8, -⟩ := A.1 c m hc hcm
        obtain ⟨k, s, l, it, t, T, a1, a2, a3, x1, x2, x3, x4, x5, x6, x7, x8, x9, x10, x11, x12, x13, -⟩ := AM c m hc hcm
        have k2 : k = 2 := (nI_eq (b := 2) (by omega) (by omega)).mp (x1.symm.trans hk)
        refine ⟨y1, y2, ?_⟩
        unfold celN
        rw [if_neg y3, x13, if_pos k2, if_neg (fun q => absurd q.1 (by decide)), y5, show (fun m => σ.1 60400 m 0) m = nI L from y6, nI_clamp (by omega)]
        exact y7
      · rw [if_neg z] at hz; cases hz
  have hF : (g.L1 p).countP (fun w => σ.1 50000 w 0 == 5) ≤ 1 := by
    have h1 := R.c p hp ha
    have h2 : (g.L1 p).countP (fun w => σ.1 50000 w 0 == 5) ≤ (g.L1 p).countP (rW σ) := List.countP_mono_left (fun w _ hw => by unfold rW; rw [hw]; simp)
    unfold outN at h1
    have h3 : (if σ.1 770000 (g.A 26) p = 0 then 0 else 1 : Nat) ≤ 1 := by split <;> omega
    omega
  have hb := R.b p hp ha
  have hlen := cnt_split (P := fun w => σ.1 50000 w 0 == 2) (g.L1 p)
  omega
end FRM
