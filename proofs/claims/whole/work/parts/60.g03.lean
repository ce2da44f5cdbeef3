/-- a process's handles and the model's -/
def HandR (p : Nat) (nd : Nat → Option Nat) (cs cw : Nat → Int32) (N : Nat → Nat) (hn st wk : Nat → Int32) (M : Nat) : Prop :=
  (∀ h, 1 ≤ h → h ≤ 15 → cs h = st (16 * p + h) ∧ cw h = wk (16 * p + h) ∧ ∃ s w, st (16 * p + h) = nI s ∧ wk (16 * p + h) = nI w ∧ s ≤ M ∧ w ≤ M ∧ ((nd h = none ∧ s = 0 ∧ w = 0) ∨ ∃ a, nd h = some a ∧ (0 < s ∨ 0 < w) ∧ hn (16 * p + h) = nI (N a))) ∧
  (∀ h h' a, 1 ≤ h → h ≤ 15 → 1 ≤ h' → h' ≤ 15 → nd h = some a → nd h' = some a → h = h')
section HR
variable {p : Nat} {nd : Nat → Option Nat} {cs cw : Nat → Int32} {N : Nat → Nat} {hn st wk : Nat → Int32} {M : Nat}
theorem HandR.hh (H : HandR p nd cs cw N hn st wk M) (hM : M < 2 ^ 31) {h : Nat} (h1 : 1 ≤ h) (h2 : h ≤ 15) : (nd h = none ∧ hhF st wk p (nI h) = 0) ∨ ((∃ a, nd h = some a) ∧ hhF st wk p (nI h) = 1) := by
  obtain ⟨-, -, s, w, e1, e2, l1, l2, h3⟩ := H.1 h h1 h2
  unfold hhF
  have a1 : ¬ nI h ≤ 0 := by rw [nl0, nI_leI (by omega) (by omega)]; omega
  have a2 : ¬ 16 ≤ nI h := by rw [nl16, nI_leI (by omega) (by omega)]; omega
  have b1 : (0 : Int32) < nI s ↔ 0 < s := nI_ltI (a := 0) (b := s) (by omega) (by omega)
  have b2 := le0_nI (a := w) (by omega)
  rw [if_neg a1, if_neg a2, nI_clamp (show h < 2 ^ 31 by omega), e1, e2]
  rcases h3 with ⟨q1, rfl, rfl⟩ | ⟨a, q1, q2, -⟩
  · exact Or.inl ⟨q1, by decide⟩
  · refine Or.inr ⟨⟨a, q1⟩, ?_⟩
    by_cases c : 0 < s
    · exact if_pos (b1.mpr c)
    · rw [if_neg (mt b1.mp c), if_neg (mt b2.mp (by omega))]
theorem HandR.hh0 (H : HandR p nd cs cw N hn st wk M) (hM : M < 2 ^ 31) {h : Nat} (h1 : 1 ≤ h) (h2 : h ≤ 15) : hhF st wk p (nI h) = 0 ↔ nd h = none := by
  rcases H.hh hM h1 h2 with ⟨a, b⟩ | ⟨⟨x, a⟩, b⟩
  · exact ⟨fun _ => a, fun _ => b⟩
  · rw [a, b]; exact ⟨fun h => absurd h (by decide), fun h => by cases h⟩
theorem HandR.has (H : HandR p nd cs cw N hn st wk M) (hM : M < 2 ^ 31) (x : Int32) : hasF nd x = hhF st wk p x := by
  by_cases c1 : x < 1
  · have c2 : x ≤ 0 := by
      rw [Int32.lt_iff_toInt_lt] at c1; rw [Int32.le_iff_toInt_le]
      have : (1 : Int32).toInt = 1 := rfl
      have : (0 : Int32).toInt = 0 := rfl
      omega
    rw [hasF, hhF, if_pos c1, if_pos c2]
  · have c2 : ¬ x ≤ 0 := by
      rw [Int32.lt_iff_toInt_lt] at c1; rw [Int32.le_iff_toInt_le]
      have : (1 : Int32).toInt = 1 := rfl
      have : (0 : Int32).toInt = 0 := rfl
      omega
    by_cases c3 : 15 < x
    · have c4 : 16 ≤ x := by
        rw [Int32.lt_iff_toInt_lt] at c3; rw [Int32.le_iff_toInt_le]
        have : (15 : Int32).toInt = 15 := rfl
        have : (16 : Int32).toInt = 16 := rfl
        omega
      rw [hasF, hhF, if_neg c1, if_neg c2, if_pos c3, if_pos c4]
    · obtain ⟨j, j1, j2, rfl⟩ := i_rng c1 c3 (by decide)
      have e1 : (1 : Int32).toInt = 1 := rfl
      have e15 : (15 : Int32).toInt = 15 := rfl
      rcases H.hh hM (h := j) (by omega) (by omega) with ⟨a, b⟩ | ⟨⟨y, a⟩, b⟩
      · rw [b, hasF, if_neg c1, if_neg c3, nI_clamp (by omega), if_pos a]
      · rw [b, hasF, if_neg c1, if_neg c3, nI_clamp (by omega), if_neg (by rw [a]; exact fun h => by cases h)]
theorem hasF_rng {f : Nat → Option Nat} {x : Int32} (h : ¬ hasF f x = 0) : ∃ j a, 1 ≤ j ∧ j ≤ 15 ∧ x = nI j ∧ f j = some a := by
  obtain ⟨c1, c3, b, hb⟩ := hasF_1 h
  obtain ⟨j, j1, j2, rfl⟩ := i_rng c1 c3 (by decide)
  have e1 : (1 : Int32).toInt = 1 := rfl
  have e15 : (15 : Int32).toInt = 15 := rfl
  rw [nI_clamp (by omega)] at hb
  exact ⟨j, b, by omega, by omega, rfl, hb⟩
/-- the node behind a handle with a strong count -/
theorem HandR.strong (H : HandR p nd cs cw N hn st wk M) (hM : M < 2 ^ 31) (x : Int32) : (strongF nd cs x = none ∧ (if hhF st wk p x = 0 then (-1 : Int32) else if st (16 * p + x.toNatClampNeg) ≤ 0 then -1 else hn (16 * p + x.toNatClampNeg)) = -1) ∨ ∃ a, strongF nd cs x = some a ∧ (∃ h, 1 ≤ h ∧ h ≤ 15 ∧ nd h = some a) ∧ (if hhF st wk p x = 0 then (-1 : Int32) else if st (16 * p + x.toNatClampNeg) ≤ 0 then -1 else hn (16 * p + x.toNatClampNeg)) = nI (N a) := by
  unfold strongF
  rw [H.has hM]
  by_cases c : hhF st wk p x = 0
  · rw [if_pos c, if_pos c]; exact Or.inl ⟨rfl, rfl⟩
  · rw [if_neg c, if_neg c]
    rw [← H.has hM] at c
    obtain ⟨j, a, j1, j2, rfl, hj⟩ := hasF_rng c
    rw [nI_clamp (by omega)]
    obtain ⟨k1, -, s, w, e1, e2, l1, l2, h3⟩ := H.1 j j1 j2
    rw [k1, e1]
    have b1 := le0_nI (a := s) (by omega)
    by_cases c2 : s = 0
    · rw [if_pos (b1.mpr c2), if_pos (b1.mpr c2)]; exact Or.inl ⟨rfl, rfl⟩
    · rw [if_neg (mt b1.mp c2), if_neg (mt b1.mp c2)]
      rcases h3 with ⟨q1, -⟩ | ⟨a', q1, -, q3⟩
      · rw [q1] at hj; cases hj
      · exact Or.inr ⟨a', q1, ⟨j, j1, j2, q1⟩, q3⟩
theorem nOfL_no {f : Nat → Option Nat} {v : Option Nat} : ∀ (k i : Nat), (∀ j, i ≤ j → j < i + k → f j ≠ v) → nOfL f v k i = -1
  | 0, _, _ => rfl
  | k + 1, i, h => by
    unfold nOfL
    rw [if_neg (h i (Nat.le_refl _) (by omega))]
    exact nOfL_no k (i + 1) (fun j a b => h j (by omega) (by omega))
theorem nOfL_at {f : Nat → Option Nat} {v : Option Nat} : ∀ (k i j : Nat), i ≤ j → j < i + k → f j = v → (∀ j', i ≤ j' → j' < j → f j' ≠ v) → nOfL f v k i = nI j
  | 0, i, j, h1, h2, _, _ => by omega
  | k + 1, i, j, h1, h2, h3, h4 => by
    unfold nOfL
    by_cases e : i = j
    · subst e; rw [if_pos h3]
    · rw [if_neg (h4 i (Nat.le_refl _) (by omega))]
      exact nOfL_at k (i + 1) j (by omega) (by omega) h3 (fun j' a b => h4 j' (by omega) b)
theorem nOf_none {f : Nat → Option Nat} {v : Option Nat} : nOf f v = -1 ↔ ∀ j, 1 ≤ j → j ≤ 15 → f j ≠ v := by
  constructor
  · intro h j j1 j2 e
    have : ∃ j0, 1 ≤ j0 ∧ j0 < 1 + 15 ∧ f j0 = v ∧ ∀ j', 1 ≤ j' → j' < j0 → f j' ≠ v := by
      have st : ∀ n, n ≤ 15 → f n = v → 1 ≤ n → ∃ j0, 1 ≤ j0 ∧ j0 ≤ n ∧ f j0 = v ∧ ∀ j', 1 ≤ j' → j' < j0 → f j' ≠ v := by
        intro n
        induction n using Nat.strongRecOn with
        | _ n ih =>
          intro n1 n2 n3
          by_cases c : ∃ j', 1 ≤ j' ∧ j' < n ∧ f j' = v
          · obtain ⟨j', c1, c2, c3⟩ := c
            obtain ⟨j0, a1, a2, a3, a4⟩ := ih j' c2 (by omega) c3 c1
            exact ⟨j0, a1, by omega, a3, a4⟩
          · exact ⟨n, n3, Nat.le_refl _, n2, fun j' a b hh => c ⟨j', a, b, hh⟩⟩
      obtain ⟨j0, a1, a2, a3, a4⟩ := st j j2 e j1
      exact ⟨j0, a1, by omega, a3, a4⟩
    obtain ⟨j0, a1, a2, a3, a4⟩ := this
    have h2 := nOfL_at 15 1 j0 a1 a2 a3 a4
    unfold nOf at h
    rw [h] at h2
    exact nI_m1 j0 (by omega) h2.symm
  · intro h
    exact nOfL_no 15 1 (fun j a b => h j a (by omega))
/-- the first place: what nOf says if it says one -/
theorem nOf_first {f : Nat → Option Nat} {v : Option Nat} (h : ¬ nOf f v = -1) : ∃ j, 1 ≤ j ∧ j ≤ 15 ∧ f j = v ∧ nOf f v = nI j ∧ ∀ j', 1 ≤ j' → j' < j → f j' ≠ v := by
  have gen : ∀ (k i : Nat), i + k ≤ 100 → nOfL f v k i = -1 ∨ ∃ j, i ≤ j ∧ j < i + k ∧ f j = v ∧ nOfL f v k i = nI j ∧ ∀ j', i ≤ j' → j' < j → f j' ≠ v := by
    intro k
    induction k with
    | zero => intro i _; exact Or.inl rfl
    | succ k ih =>
      intro i hi
      unfold nOfL
      by_cases c : f i = v
      · rw [if_pos c]; exact Or.inr ⟨i, Nat.le_refl _, by omega, c, rfl, fun j' a b => by omega⟩
      · rw [if_neg c]
        rcases ih (i + 1) (by omega) with e | ⟨j, a1, a2, a3, a4, a5⟩
        · exact Or.inl e
        · refine Or.inr ⟨j, by omega, by omega, a3, a4, fun j' b1 b2 => ?_⟩
          by_cases e : j' = i
          · subst e; exact c
          · exact a5 j' (by omega) b2
  rcases gen 15 1 (by omega) with e | ⟨j, a1, a2, a3, a4, a5⟩
  · exact absurd e h
  · exact ⟨j, a1, by omega, a3, a4, a5⟩
theorem HandR.hfor (H : HandR p nd cs cw N hn st wk M) (hM : M < 2 ^ 31) {K : Nat → Prop} (hinj : ∀ a b, K a → K b → N a = N b → a = b) (hK : ∀ h a, nd h = some a → K a) (hNb : ∀ a, K a → N a < 2 ^ 31) {a : Nat} (ha : K a) :
    (nOf nd (some a) = -1 ∧ itF (hfF st wk hn p (nI (N a))) 15 1 0 = 0) ∨ ∃ h, 1 ≤ h ∧ h ≤ 15 ∧ nd h = some a ∧ nOf nd (some a) = nI h ∧ itF (hfF st wk hn p (nI (N a))) 15 1 0 = nI h := by
  have stp : ∀ j, 1 ≤ j → j ≤ 15 → ∀ v, hfF st wk hn p (nI (N a)) j v = if nd j = some a then nI j else v := by
    intro j j1 j2 v
    unfold hfF
    rcases H.hh hM j1 j2 with ⟨q, e⟩ | ⟨⟨b, q⟩, e⟩
    · rw [if_pos e, if_neg (by rw [q]; exact fun h => by cases h)]
    · rw [if_neg (by rw [e]; decide)]
      obtain ⟨-, -, s, w, -, -, -, -, h3⟩ := H.1 j j1 j2
      rcases h3 with ⟨q1, -⟩ | ⟨a', q1, -, q3⟩
      · rw [q1] at q; cases q
      · rw [q3, q1]
        have := nI_eq (a := N a') (b := N a) (hNb _ (hK _ _ q1)) (hNb _ ha)
        by_cases c : a' = a
        · subst c; rw [if_pos rfl, if_pos rfl]
        · rw [if_neg (fun h => c (hinj _ _ (hK _ _ q1) ha (this.mp h))), if_neg (fun h => c (Option.some.inj h))]
  by_cases c : nOf nd (some a) = -1
  · refine Or.inl ⟨c, ?_⟩
    have hn0 := nOf_none.mp c
    have := itF_ind (f := hfF st wk hn p (nI (N a))) (fun j v => v = 0) 15 1 0 rfl (fun j v j1 j2 hv => by
      rw [stp j j1 (by omega), if_neg (hn0 j j1 (by omega)), hv])
    exact this
  · obtain ⟨h, h1, h2, h3, h4, -⟩ := nOf_first c
    refine Or.inr ⟨h, h1, h2, h3, h4, ?_⟩
    have := itF_ind (f := hfF st wk hn p (nI (N a))) (fun j v => j ≤ h ∨ v = nI h) 15 1 0 (Or.inl h1) (fun j v j1 j2 hv => by
      rw [stp j j1 (by omega)]
      by_cases e : nd j = some a
      · rw [if_pos e]
        have := H.2 j h a j1 (by omega) h1 h2 e h3
        rw [this]; exact Or.inr rfl
      · rw [if_neg e]
        rcases hv with hv | hv
        · by_cases e2 : j = h
          · subst e2; exact absurd h3 e
          · exact Or.inl (by omega)
        · exact Or.inr hv)
    rcases this with q | q
    · omega
    · exact q
end HR
