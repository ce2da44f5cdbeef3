theorem lt0_nI {a : Nat} (ha : a < 2 ^ 31) : ¬ nI a < 0 := by
  rw [nl0, nI_ltI ha (by omega)]; omega
theorem le0_nI {a : Nat} (ha : a < 2 ^ 31) : nI a ≤ 0 ↔ a = 0 := by
  rw [nl0, nI_leI ha (by omega)]; omega
/-- the least begin from t on among the rows -/
theorem nx_fold {sta beg : Nat → Int32} {t i k : Nat} (ht : t ≤ 64) (hb : ∀ b, i ≤ b → b < i + k → ¬ sta b ≤ 0 → ∃ c, c < 64 ∧ beg b = nI c) :
    ∃ e, e ≤ 64 ∧ itF (nxbF sta beg (nI t)) k i 64 = nI e ∧ (∀ b c, i ≤ b → b < i + k → ¬ sta b ≤ 0 → c < 64 → beg b = nI c → t ≤ c → e ≤ c) ∧ (e = 64 ∨ (t ≤ e ∧ ∃ b, i ≤ b ∧ b < i + k ∧ ¬ sta b ≤ 0 ∧ beg b = nI e)) := by
  have key := itF_ind (f := nxbF sta beg (nI t)) (fun j v => j ≤ i + k → ∃ e, e ≤ 64 ∧ v = nI e ∧ (∀ b c, i ≤ b → b < j → ¬ sta b ≤ 0 → c < 64 → beg b = nI c → t ≤ c → e ≤ c) ∧ (e = 64 ∨ (t ≤ e ∧ ∃ b, i ≤ b ∧ b < j ∧ ¬ sta b ≤ 0 ∧ beg b = nI e))) k i 64
    (fun _ => ⟨64, by omega, rfl, fun b c h1 h2 => by omega, Or.inl rfl⟩) ?_
  · exact key (Nat.le_refl _)
  · intro j v hj1 hj2 ih hj3
    obtain ⟨e, he, hv, q1, q2⟩ := ih (by omega)
    subst hv
    unfold nxbF
    have wk : ∀ {e' : Nat}, (e' = 64 ∨ (t ≤ e' ∧ ∃ b, i ≤ b ∧ b < j ∧ ¬ sta b ≤ 0 ∧ beg b = nI e')) → (e' = 64 ∨ (t ≤ e' ∧ ∃ b, i ≤ b ∧ b < j + 1 ∧ ¬ sta b ≤ 0 ∧ beg b = nI e')) := fun h => h.imp id (fun ⟨a, b, c1, c2, c3⟩ => ⟨a, b, c1, by omega, c3⟩)
    by_cases s0 : sta j ≤ 0
    · rw [if_pos s0]
      refine ⟨e, he, rfl, fun b c a1 a2 a3 a4 a5 a6 => ?_, wk q2⟩
      by_cases e1 : b = j
      · subst e1; exact absurd s0 a3
      · exact q1 b c a1 (by omega) a3 a4 a5 a6
    · rw [if_neg s0]
      obtain ⟨c0, hc0, hb0⟩ := hb j hj1 hj2 s0
      rw [hb0]
      have k1 := nI_ltI (a := c0) (b := t) (by omega) (by omega)
      have k2 := nI_leI (a := e) (b := c0) (by omega) (by omega)
      have st : ∀ e', e' ≤ e → (t ≤ c0 → e' ≤ c0) → (∀ b c, i ≤ b → b < j + 1 → ¬ sta b ≤ 0 → c < 64 → beg b = nI c → t ≤ c → e' ≤ c) := by
        intro e' l1 l2 b c a1 a2 a3 a4 a5 a6
        by_cases e1 : b = j
        · subst e1
          rw [hb0, nI_eq (by omega) (by omega)] at a5
          subst a5; exact l2 a6
        · exact Nat.le_trans l1 (q1 b c a1 (by omega) a3 a4 a5 a6)
      by_cases c1 : c0 < t
      · rw [if_pos (k1.mpr c1)]
        exact ⟨e, he, rfl, st e (Nat.le_refl _) (fun h => by omega), wk q2⟩
      · rw [if_neg (mt k1.mp c1)]
        by_cases c2 : e ≤ c0
        · rw [if_pos (k2.mpr c2)]; exact ⟨e, he, rfl, st e (Nat.le_refl _) (fun _ => c2), wk q2⟩
        · rw [if_neg (mt k2.mp c2)]; exact ⟨c0, by omega, rfl, st c0 (by omega) (fun _ => Nat.le_refl _), Or.inr ⟨by omega, j, hj1, by omega, s0, hb0⟩⟩
theorem bh_fold {sta beg len : Nat → Int32} {c i k b0 L : Nat} (h1 : i ≤ b0) (h2 : b0 < i + k) (h3 : ¬ sta b0 ≤ 0) (h4 : beg b0 = nI c) (hL : ∀ b, i ≤ b → b < i + k → ¬ sta b ≤ 0 → beg b = nI c → len b = nI L) :
    itF (bhbF sta beg len (nI c)) k i (nI c) = nI (c + L) := by
  have key := itF_ind (f := bhbF sta beg len (nI c)) (fun j v => j ≤ i + k → (j ≤ b0 ∧ v = nI c) ∨ v = nI (c + L)) k i (nI c) (fun _ => Or.inl ⟨h1, rfl⟩) ?_
  · rcases key (Nat.le_refl _) with ⟨h, -⟩ | h
    · omega
    · exact h
  · intro j v j1 j2 ih j3
    unfold bhbF
    by_cases s0 : sta j ≤ 0
    · rw [if_pos s0]
      rcases ih (by omega) with ⟨a, b⟩ | a
      · by_cases e : j = b0
        · subst e; exact absurd s0 h3
        · exact Or.inl ⟨by omega, b⟩
      · exact Or.inr a
    · rw [if_neg s0]
      by_cases c1 : beg j = nI c
      · rw [if_pos c1, hL j j1 j2 s0 c1, nI_add]; exact Or.inr rfl
      · rw [if_neg c1]
        rcases ih (by omega) with ⟨a, b⟩ | a
        · by_cases e : j = b0
          · subst e; exact absurd h4 c1
          · exact Or.inl ⟨by omega, b⟩
        · exact Or.inr a
/-- the messages of a process's area and the model's rows -/
def AreaR (p : Nat) (bg : Nat → Option Nat) (cl : Nat → Int32) (B : Nat → Nat) (sta beg len : Nat → Int32) : Prop :=
  (∀ c m, c < 64 → bg c = some m → 64 * p ≤ B m ∧ B m < 64 * p + 64 ∧ ¬ sta (B m) ≤ 0 ∧ beg (B m) = nI c ∧ len (B m) = cl m ∧ ∃ L, cl m = nI L ∧ 1 ≤ L ∧ c + L ≤ 64 ∧ ∀ c', c < c' → c' < c + L → bg c' = none) ∧
  (∀ b, 64 * p ≤ b → b < 64 * p + 64 → ¬ sta b ≤ 0 → ∃ c m, c < 64 ∧ bg c = some m ∧ B m = b)
theorem AreaR.nx {p : Nat} {bg : Nat → Option Nat} {cl : Nat → Int32} {B : Nat → Nat} {sta beg len : Nat → Int32} (h : AreaR p bg cl B sta beg len) :
    NXok bg cl (fun c => itF (nxbF sta beg c) 64 (64 * p) 64) (fun c => itF (bhbF sta beg len c) 64 (64 * p) c) := by
  intro t ht
  obtain ⟨e, he, h1, h2, h3⟩ := nx_fold (sta := sta) (beg := beg) (i := 64 * p) (k := 64) ht (fun b b1 b2 b3 => by
    obtain ⟨c, m, hc, hm, rfl⟩ := h.2 b b1 b2 b3
    exact ⟨c, hc, (h.1 c m hc hm).2.2.2.1⟩)
  refine ⟨e, ?_, he, h1, fun c c1 c2 => ?_, fun he64 => ?_⟩
  · rcases h3 with h3 | h3
    · omega
    · exact h3.1
  · cases hm : bg c with
    | none => rfl
    | some m =>
      obtain ⟨q1, q2, q3, q4, -⟩ := h.1 c m (by omega) hm
      exact absurd (h2 (B m) c q1 q2 q3 (by omega) q4 c1) (by omega)
  · rcases h3 with h3 | ⟨-, b, b1, b2, b3, b4⟩
    · omega
    · obtain ⟨c, m, hc, hm, rfl⟩ := h.2 b b1 b2 b3
      obtain ⟨-, -, -, q4, -, L, q6, q7, q8, q9⟩ := h.1 c m hc hm
      have ec : c = e := (nI_eq (by omega) (by omega)).mp (q4.symm.trans b4)
      subst ec
      refine ⟨m, L, hm, q6, q7, q8, bh_fold b1 b2 b3 b4 (fun b' d1 d2 d3 d4 => ?_), q9⟩
      obtain ⟨c', m', hc', hm', rfl⟩ := h.2 b' d1 d2 d3
      obtain ⟨-, -, -, q4', q5', -⟩ := h.1 c' m' hc' hm'
      have ec : c' = c := (nI_eq (by omega) (by omega)).mp (q4'.symm.trans d4)
      subst ec
      rw [hm] at hm'
      cases hm'
      rw [q5', q6]
/-- gap and best gap -/
theorem AreaR.gap {p : Nat} {bg : Nat → Option Nat} {cl : Nat → Int32} {B : Nat → Nat} {sta beg len : Nat → Int32} (h : AreaR p bg cl B sta beg len) (need : Int32) :
    gapF (fun c => itF (nxbF sta beg c) 64 (64 * p) 64) (fun c => itF (bhbF sta beg len c) 64 (64 * p) c) need 66 0 (-1) 65 = some (itF (bgF bg cl need) 65 0 (-1, 65, 0)).1 :=
  gap_eq h.nx need 66 0 (-1) 65 (by omega) (by omega)
