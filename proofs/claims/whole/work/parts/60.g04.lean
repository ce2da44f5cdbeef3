/-- a node, and the model's number for it -/
def NR (N : Nat → Nat) (o : Option Nat) (x : Int32) : Prop := (o = none ∧ x = -1) ∨ ∃ a, o = some a ∧ x = nI (N a)
theorem NR.neg {N : Nat → Nat} {o : Option Nat} {x : Int32} (h : NR N o x) (hN : ∀ a, o = some a → N a < 2 ^ 31) : x < 0 ↔ o = none := by
  rcases h with ⟨rfl, rfl⟩ | ⟨a, rfl, rfl⟩
  · exact ⟨fun _ => rfl, fun _ => by decide⟩
  · exact ⟨fun h => absurd h (lt0_nI (hN a rfl)), fun h => by cases h⟩
theorem NR.eq {N : Nat → Nat} {o o' : Option Nat} {x x' : Int32} (h : NR N o x) (h' : NR N o' x') (hN : ∀ a, o = some a → N a < 2 ^ 31) (hN' : ∀ a, o' = some a → N a < 2 ^ 31) (hinj : ∀ a b, o = some a → o' = some b → N a = N b → a = b) : x = x' ↔ o = o' := by
  rcases h with ⟨rfl, rfl⟩ | ⟨a, rfl, rfl⟩ <;> rcases h' with ⟨rfl, rfl⟩ | ⟨b, rfl, rfl⟩
  · exact ⟨fun _ => rfl, fun _ => rfl⟩
  · exact ⟨fun h => absurd h.symm (nI_m1 _ (hN' b rfl)), fun h => by cases h⟩
  · exact ⟨fun h => absurd h (nI_m1 _ (hN a rfl)), fun h => by cases h⟩
  · rw [nI_eq (hN a rfl) (hN' b rfl)]
    exact ⟨fun h => congrArg some (hinj a b rfl rfl h), fun h => congrArg N (Option.some.inj h)⟩
/-- nodes of one's own -/
theorem NR.own {N : Nat → Nat} {nd : Nat → Option Nat} {sv : Nat → Int32} {p lv : Nat} {L : Int32} (hL : L = nI lv) (h : ∀ k, k < 10 → (nd k = none ∧ sv (10 * p + k) = 0) ∨ ∃ a, nd k = some a ∧ sv (10 * p + k) = 1 ∧ N a = 40 * lv + 10 * p + k) (x : Int32) :
    NR N (natF nd x) (if hnF sv p x = 0 then -1 else 40 * L + 10 * nI p + x) := by
  unfold natF hnF ikF
  by_cases c1 : x < 0
  · rw [if_pos c1, if_pos c1]; exact Or.inl ⟨rfl, rfl⟩
  · rw [if_neg c1, if_neg c1]
    by_cases c2 : x < 10
    · have c3 : ¬ 9 < x := by
        rw [Int32.lt_iff_toInt_lt] at c2 ⊢
        have : (10 : Int32).toInt = 10 := rfl
        have : (9 : Int32).toInt = 9 := rfl
        omega
      obtain ⟨j, j1, j2, rfl⟩ := i_rng c1 c3 (by decide)
      have : (9 : Int32).toInt = 9 := rfl
      rw [if_pos c2, if_neg c3, if_neg (by decide : ¬ (1 : Int32) = 0), nI_clamp (by omega)]
      rcases h j (by omega) with ⟨e1, e2⟩ | ⟨a, e1, e2, e3⟩
      · rw [e1, e2]; exact Or.inl ⟨rfl, rfl⟩
      · rw [e1, e2]; refine Or.inr ⟨a, rfl, ?_⟩
        rw [if_neg (by decide), hL, nl40, nl10, pk_mul, pk_mul, nI_add, nI_add, e3]
    · have c3 : 9 < x := by
        rw [Int32.lt_iff_toInt_lt] at c2 ⊢
        have : (10 : Int32).toInt = 10 := rfl
        have : (9 : Int32).toInt = 9 := rfl
        omega
      rw [if_neg c2, if_pos c3]; exact Or.inl ⟨rfl, rfl⟩
/-- how a step of the model's handlesMore goes: im k the number of item k, own and known as the model asks -/
def frF (im : Nat → Int32) (n : Int32) : Nat → Int32 → Int32 := fun i a => if a = 0 then 0 else if im i = n then 0 else 1
def hmF (own known : Int32 → Int32) (jm : Nat → Int32) : Nat → Int32 → Int32 := fun k a => if jm k < 0 then a else if own (jm k) = 0 then (if known (jm k) > 0 then a else if itF (frF jm (jm k)) k 0 1 = 0 then a else a + 1) else a
theorem fr_hnb {f : Nat → Option Nat} {im : Nat → Int32} {v : Option Nat} {x : Int32} : ∀ (k i : Nat), (∀ j, i ≤ j → j < i + k → (im j = x ↔ f j = v)) → (itF (frF im x) k i 1 = 0 ↔ ¬ hnb f v k i = 0) ∧ itF (frF im x) k i 0 = 0
  | 0, _, _ => ⟨⟨fun h => absurd (show (1 : Int32) = 0 from h) (by decide), fun h => absurd rfl h⟩, rfl⟩
  | k + 1, i, h => by
    have ih := fr_hnb (f := f) (im := im) (v := v) (x := x) k (i + 1) (fun j a b => h j (by omega) (by omega))
    refine ⟨?_, ?_⟩
    · rw [itF_succ]
      unfold hnb
      by_cases c : f i = v
      · rw [if_pos c, show frF im x i 1 = 0 from by unfold frF; rw [if_neg (by decide), if_pos ((h i (Nat.le_refl _) (by omega)).mpr c)], ih.2]
        exact ⟨fun _ => by decide, fun _ => rfl⟩
      · rw [if_neg c, show frF im x i 1 = 1 from by unfold frF; rw [if_neg (by decide), if_neg (mt (h i (Nat.le_refl _) (by omega)).mp c)]]
        exact ih.1
    · rw [itF_succ, show frF im x i 0 = 0 from by unfold frF; rw [if_pos rfl]]
      exact ih.2
theorem itF_congr {α : Type} {f g : Nat → α → α} : ∀ (k i : Nat) (a : α), (∀ j a, i ≤ j → j < i + k → f j a = g j a) → itF f k i a = itF g k i a
  | 0, _, _, _ => rfl
  | k + 1, i, a, h => by
    rw [itF_succ, itF_succ, h i a (Nat.le_refl _) (by omega)]
    exact itF_congr k (i + 1) _ (fun j b h1 h2 => h j b (by omega) (by omega))
/-- the new handles that a message needs -/
theorem cnh_eq {σ : Sg} {P : Nat → Nat} {a3 n : Nat} {own known : Int32 → Int32} {jm : Nat → Int32} {N : Nat → Nat}
    (hj : ∀ k, k < n → NR N (σ.2.1 180003 a3 k) (jm k)) (hN : ∀ k a, k < n → σ.2.1 180003 a3 k = some a → N a < 2 ^ 31)
    (hinj : ∀ k k' a b, k < n → k' < n → σ.2.1 180003 a3 k = some a → σ.2.1 180003 a3 k' = some b → N a = N b → a = b)
    (ho : ∀ k a, k < n → σ.2.1 180003 a3 k = some a → (own (nI (N a)) = 0 ↔ ownF σ (P 0) a = 0))
    (hk : ∀ k a, k < n → σ.2.1 180003 a3 k = some a → (known (nI (N a)) > 0 ↔ ¬ nOf (σ.2.1 120003 (P 3)) (some a) = -1)) :
    itF (cnhF σ P a3) n 0 0 = itF (hmF own known jm) n 0 0 := by
  refine itF_congr n 0 0 (fun k v _ hkn => ?_)
  have hkn' : k < n := by omega
  unfold cnhF hmF
  rcases hj k hkn' with ⟨e1, e2⟩ | ⟨a, e1, e2⟩
  · rw [e1, e2, if_pos (by decide : (-1 : Int32) < 0)]
  · have hna := hN k a hkn' e1
    rw [e1, e2, if_neg (lt0_nI hna)]
    have q1 := ho k a hkn' e1
    have q2 := hk k a hkn' e1
    have q3 := (fr_hnb (f := σ.2.1 180003 a3) (im := jm) (v := some a) (x := nI (N a)) k 0 (fun j _ h2 => by
      have hjn : j < n := by omega
      have := NR.eq (hj j hjn) (Or.inr ⟨a, e1, e2⟩ : NR N (σ.2.1 180003 a3 k) (jm k)) (fun b hb => hN j b hjn hb) (fun b hb => hN k b hkn' hb) (fun b c hb hc => hinj j k b c hjn hkn' hb hc)
      rw [e1, e2] at this; exact this)).1
    by_cases c1 : ownF σ (P 0) a = 0
    · simp only [if_pos c1, if_pos (q1.mpr c1)]
      by_cases c2 : nOf (σ.2.1 120003 (P 3)) (some a) = -1
      · simp only [if_pos c2, if_neg (fun h => q2.mp h c2)]
        by_cases c3 : hnb (σ.2.1 180003 a3) (some a) k 0 = 0
        · simp only [if_pos c3, if_neg (fun h => q3.mp h c3)]
        · simp only [if_neg c3, if_pos (q3.mpr c3)]
      · simp only [if_neg c2, if_pos (q2.mpr c2)]
    · simp only [if_neg c1, if_neg (mt q1.mp c1)]
