/-! numbers -/
theorem in_lt {n lo hi : Int32} {N : Nat} (a : ¬ n < lo) (b : ¬ hi < n) (hlo : 0 ≤ lo.toInt) (hhi : hi.toInt < N) : vp_in n N := vp_in_iff.mpr (by rw [Int32.lt_iff_toInt_lt] at a b; omega)
theorem in_le {n lo hi : Int32} {N : Nat} (a : ¬ n < lo) (b : ¬ hi ≤ n) (hlo : 0 ≤ lo.toInt) (hhi : hi.toInt ≤ N) : vp_in n N := vp_in_iff.mpr (by rw [Int32.lt_iff_toInt_lt] at a; rw [Int32.le_iff_toInt_le] at b; omega)
theorem i_rng {n lo hi : Int32} (a : ¬ n < lo) (b : ¬ hi < n) (hlo : 0 ≤ lo.toInt) : ∃ j : Nat, lo.toInt ≤ j ∧ (j : Int) ≤ hi.toInt ∧ n = nI j := by
  rw [Int32.lt_iff_toInt_lt] at a b
  obtain ⟨j, hj, e⟩ := nI_of (x := n) (by rw [Int32.lt_iff_toInt_lt]; have : (0 : Int32).toInt = 0 := rfl; omega)
  have h := nI_toInt hj
  rw [← e] at h
  exact ⟨j, by omega, by omega, e⟩
theorem ne0 {σ : Sg} {a q k : Nat} (h : σ.2.2.2 a = k) (hq : σ.2.2.2 q = 0) (hk : k ≠ 0) : a ≠ q := fun e => hk (by rw [← h, e]; exact hq)
theorem nI_m1 (j : Nat) (h : j < 2 ^ 31) : ¬ nI j = -1 := fun e => by
  have := nI_toInt h
  rw [e] at this
  have h2 : (-1 : Int32).toInt = -1 := rfl
  omega
/-- the first place from i on, within k places, that holds v -/
def nOfL (f : Nat → Option Nat) (v : Option Nat) : Nat → Nat → Int32
  | 0, _ => -1
  | k + 1, i => if f i = v then nI i else nOfL f v k (i + 1)
def nOf (f : Nat → Option Nat) (v : Option Nat) : Int32 := nOfL f v 15 1
theorem nOfL_rng (f : Nat → Option Nat) (v : Option Nat) : ∀ (k i : Nat), nOfL f v k i = -1 ∨ ∃ j, i ≤ j ∧ j < i + k ∧ f j = v ∧ nOfL f v k i = nI j
  | 0, _ => Or.inl rfl
  | k + 1, i => by
    unfold nOfL
    by_cases h : f i = v
    · rw [if_pos h]; exact Or.inr ⟨i, Nat.le_refl _, by omega, h, rfl⟩
    · rw [if_neg h]
      rcases nOfL_rng f v k (i + 1) with e | ⟨j, h1, h2, h3, h4⟩
      · exact Or.inl e
      · exact Or.inr ⟨j, by omega, by omega, h3, h4⟩
theorem nOf_rng (f : Nat → Option Nat) (v : Option Nat) : nOf f v = -1 ∨ ∃ j, 1 ≤ j ∧ j ≤ 15 ∧ f j = v ∧ nOf f v = nI j := by
  rcases nOfL_rng f v 15 1 with e | ⟨j, h1, h2, h3, h4⟩
  · exact Or.inl e
  · exact Or.inr ⟨j, h1, by omega, h3, h4⟩
theorem lg_len (av : List MV) : (lg_sl (av.map toV)).length = (av.map (fun v => if isL v then 2 else 1)).sum := by
  have h1 : ∀ v : MV, (if (toV v).category = 2 then [Slot.val (toV v), .second] else [Slot.val (toV v)]).length = if isL v then 2 else 1 := by
    intro v
    rcases v with x | r | x
    · rfl
    · cases r <;> rfl
    · rfl
  induction av with
  | nil => rfl
  | cons v av ih =>
    rw [List.map_cons, List.map_cons, List.sum_cons, ← ih, ← h1 v]
    simp only [lg_sl, List.flatMap_cons, List.length_append]
theorem CTo {l : Launch} {E : FE} {d mid : Nat} {av : List MV} {σ : Sg} {mc ms : Nat} {Qr : Option MV → Sg → Prop} {Qt : String → Sg → Prop} (ok : mOK mid) (hy : plainName (mY mid).cls = true) (hm : mW mid = .code (mY mid) (mB mid) (mL mid) (mR mid)) (hh : mH mid = []) (hlen : Nat.ble (av.map (fun v => if isL v then 2 else 1)).sum (mL mid) = true)
    (body : WP l E d mid av mc ms Qr Qt (0, argL 0 av, [], σ, 0, 0)) : CT l E d mid av σ mc ms Qr Qt := CT.of ok hy hm hh (by rw [lg_len]; exact Nat.le_of_ble_eq_true hlen) body
theorem CToH {l : Launch} {E : FE} {d mid : Nat} {av : List MV} {σ : Sg} {mc ms : Nat} {Qr : Option MV → Sg → Prop} {Qt : String → Sg → Prop} (ok : mOK mid) (hy : plainName (mY mid).cls = true) (hm : mW mid = .codeWith (mY mid) (mB mid) (mL mid) (mR mid) (mH mid)) (hlen : Nat.ble (av.map (fun v => if isL v then 2 else 1)).sum (mL mid) = true)
    (body : WP l E d mid av mc ms Qr Qt (0, argL 0 av, [], σ, 0, 0)) : CT l E d mid av σ mc ms Qr Qt := CT.ofH ok hy hm (by rw [lg_len]; exact Nat.le_of_ble_eq_true hlen) body
/-! reads behind writes -/
theorem rII {σ : Sg} {c a x c' a' x' : Nat} {v : Int32} (h : c' ≠ c) : (sI σ c a x v).1 c' a' x' = σ.1 c' a' x' := by simp [sI, h]
theorem rIs {σ : Sg} {c a x : Nat} {v : Int32} : (sI σ c a x v).1 c a x = v := by simp [sI]
theorem rIx {σ : Sg} {c a x x' : Nat} {v : Int32} (h : x' ≠ x) : (sI σ c a x v).1 c a x' = σ.1 c a x' := by simp [sI, h]
theorem rIa {σ : Sg} {c a x a' x' : Nat} {v : Int32} (h : a' ≠ a) : (sI σ c a x v).1 c a' x' = σ.1 c a' x' := by simp [sI, h]
theorem rIO {σ : Sg} {c a x : Nat} {v : Option Nat} : (sO σ c a x v).1 = σ.1 := rfl
theorem rOI {σ : Sg} {c a x : Nat} {v : Int32} : (sI σ c a x v).2.1 = σ.2.1 := rfl
theorem rOO {σ : Sg} {c a x c' a' x' : Nat} {v : Option Nat} (h : c' ≠ c) : (sO σ c a x v).2.1 c' a' x' = σ.2.1 c' a' x' := by simp [sO, h]
theorem rOs {σ : Sg} {c a x : Nat} {v : Option Nat} : (sO σ c a x v).2.1 c a x = v := by simp [sO]
theorem rKI {σ : Sg} {c a x : Nat} {v : Int32} : (sI σ c a x v).2.2 = σ.2.2 := rfl
theorem rKO {σ : Sg} {c a x : Nat} {v : Option Nat} : (sO σ c a x v).2.2 = σ.2.2 := rfl
theorem nOf_in {f : Nat → Option Nat} {v : Option Nat} (h : ¬ nOf f v = -1) : vp_in (nOf f v) 16 := by
  rcases nOf_rng f v with e | ⟨j, h1, h2, -, e⟩
  · exact absurd e h
  · rw [e]; exact vp_in_nI (by omega) (by decide)
theorem WF.oN {σ : Sg} {c a x : Nat} (h : WF σ) : WF (sO σ c a x none) := by
  intro c' a' x' b hb hc
  have hb' : (if c' = c ∧ a' = a ∧ x' = x then none else σ.2.1 c' a' x') = some b := hb
  by_cases e : c' = c ∧ a' = a ∧ x' = x
  · rw [if_pos e] at hb'; cases hb'
  · rw [if_neg e] at hb'; exact h c' a' x' b hb' hc
theorem WF.oS {σ : Sg} {c a x b : Nat} (h : WF σ) (hb0 : c % 100 ≠ 0 → σ.2.2.2 b = c % 100) : WF (sO σ c a x (some b)) := by
  intro c' a' x' b' hb hc
  have hb' : (if c' = c ∧ a' = a ∧ x' = x then some b else σ.2.1 c' a' x') = some b' := hb
  by_cases e : c' = c ∧ a' = a ∧ x' = x
  · rw [if_pos e] at hb'; cases hb'; rw [e.1] at hc ⊢; exact hb0 hc
  · rw [if_neg e] at hb'; exact h c' a' x' b' hb' hc
theorem WF.i {σ : Sg} {c a x : Nat} {v : Int32} (h : WF σ) : WF (sI σ c a x v) := h
theorem nl0 : (0 : Int32) = nI 0 := rfl
theorem nl1 : (1 : Int32) = nI 1 := rfl
theorem nl2 : (2 : Int32) = nI 2 := rfl
theorem nl3 : (3 : Int32) = nI 3 := rfl
theorem nl4 : (4 : Int32) = nI 4 := rfl
theorem nl5 : (5 : Int32) = nI 5 := rfl
theorem nl6 : (6 : Int32) = nI 6 := rfl
theorem nl8 : (8 : Int32) = nI 8 := rfl
theorem nl9 : (9 : Int32) = nI 9 := rfl
theorem nl10 : (10 : Int32) = nI 10 := rfl
theorem nl12 : (12 : Int32) = nI 12 := rfl
theorem nl15 : (15 : Int32) = nI 15 := rfl
theorem nl16 : (16 : Int32) = nI 16 := rfl
theorem nl20 : (20 : Int32) = nI 20 := rfl
theorem nl24 : (24 : Int32) = nI 24 := rfl
theorem nl32 : (32 : Int32) = nI 32 := rfl
theorem nl40 : (40 : Int32) = nI 40 := rfl
theorem nl64 : (64 : Int32) = nI 64 := rfl
theorem nl65 : (65 : Int32) = nI 65 := rfl
theorem nl384 : (384 : Int32) = nI 384 := rfl
