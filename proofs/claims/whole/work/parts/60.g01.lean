theorem bg_skip (bg : Nat → Option Nat) (cl : Nat → Int32) (need : Int32) (s : Int32 × Int32 × Int32) : ∀ (j k i : Nat), i + j ≤ 64 → j ≤ k → (∀ c, i ≤ c → c < i + j → bg c = none) → itF (bgF bg cl need) k i s = itF (bgF bg cl need) (k - j) (i + j) s
  | 0, _, _, _, _, _ => rfl
  | j + 1, k, i, h1, h2, h3 => by
    obtain ⟨k', rfl⟩ : ∃ k', k = k' + 1 := ⟨k - 1, by omega⟩
    have e : bgF bg cl need i s = s := by
      unfold bgF
      rw [if_neg (by omega), h3 i (Nat.le_refl _) (by omega)]
    rw [itF_succ, e, bg_skip bg cl need s j k' (i + 1) (by omega) (by omega) (fun c a b => h3 c (by omega) (by omega)), show i + 1 + j = i + (j + 1) from by omega, show k' + 1 - (j + 1) = k' - j from by omega]
/-- the next place with a message -/
def NXok (bg : Nat → Option Nat) (cl : Nat → Int32) (nx bh : Int32 → Int32) : Prop := ∀ t, t ≤ 64 → ∃ e, t ≤ e ∧ e ≤ 64 ∧ nx (nI t) = nI e ∧ (∀ c, t ≤ c → c < e → bg c = none) ∧ (e < 64 → ∃ m L, bg e = some m ∧ cl m = nI L ∧ 1 ≤ L ∧ e + L ≤ 64 ∧ bh (nI e) = nI (e + L) ∧ ∀ c, e < c → c < e + L → bg c = none)
theorem gap_eq {bg : Nat → Option Nat} {cl : Nat → Int32} {nx bh : Int32 → Int32} (h : NXok bg cl nx bh) (need : Int32) : ∀ (k t : Nat) (be bl : Int32), t ≤ 64 → 66 ≤ k + t → gapF nx bh need k (nI t) be bl = some (itF (bgF bg cl need) (65 - t) t (be, bl, nI t)).1
  | 0, t, _, _, h1, h2 => by omega
  | k + 1, t, be, bl, h1, h2 => by
    obtain ⟨e, e1, e2, e3, e4, e5⟩ := h t h1
    have hk : ¬ nI t > 64 := by
      show ¬ (64 : Int32) < nI t
      rw [nl64, nI_ltI (by omega) (by omega)]; omega
    have hs : nI e - nI t = nI (e - t) := nI_sub9 e1
    have h64 : (nI e ≥ 64) ↔ 64 ≤ e := by
      show (64 : Int32) ≤ nI e ↔ _
      rw [nl64, nI_leI (by omega) (by omega)]
    rw [bg_skip bg cl need _ (e - t) (65 - t) t (by omega) (by omega) (fun c a b => e4 c a (by omega)), show t + (e - t) = e from by omega, show 65 - t - (e - t) = (64 - e) + 1 from by omega, itF_succ]
    by_cases he : e < 64
    · obtain ⟨m, L, f1, f2, f3, f4, f5, f6⟩ := e5 he
      have hn : ¬ (nI e ≥ 64) := by rw [h64]; omega
      have ih := fun be bl => gap_eq h need k (e + L) be bl f4 (by omega)
      have sk := fun s => bg_skip bg cl need s (L - 1) (64 - e) (e + 1) (by omega) (by omega) (fun c a b => f6 c (by omega) (by omega))
      have q1 : e + 1 + (L - 1) = e + L := by omega
      have q2 : 64 - e - (L - 1) = 65 - (e + L) := by omega
      rw [q1, q2] at sk
      rw [sk]
      unfold gapF bgF
      rw [if_neg hk, e3, if_neg hn, if_neg hn, if_neg (show ¬ e = 64 by omega), f1, hs, f5]
      simp only [f2, nI_add]
      by_cases c1 : nI (e - t) < need
      · rw [if_pos c1, if_pos c1, ih]; rfl
      · rw [if_neg c1, if_neg c1]
        by_cases c2 : nI (e - t) ≥ bl
        · rw [if_pos c2, if_pos c2, ih]; rfl
        · rw [if_neg c2, if_neg c2, ih]; rfl
    · have he' : e = 64 := by omega
      subst he'
      obtain ⟨k', rfl⟩ : ∃ k', k = k' + 1 := ⟨k - 1, by omega⟩
      have g65 : ∀ be bl, gapF nx bh need (k' + 1) 65 be bl = some be := fun be bl => by
        unfold gapF; rw [if_pos (by decide)]
      have hn : (nI 64 ≥ 64) := by rw [h64]; omega
      show _ = some (bgF bg cl need 64 (be, bl, nI t)).1
      unfold gapF bgF
      rw [if_neg hk, e3, if_pos hn, if_pos hn, if_pos rfl, hs]
      simp only [g65]
      by_cases c1 : nI (64 - t) < need
      · rw [if_pos c1, if_pos c1]
      · rw [if_neg c1, if_neg c1]
        by_cases c2 : nI (64 - t) ≥ bl
        · rw [if_pos c2, if_pos c2]
        · rw [if_neg c2, if_neg c2]
