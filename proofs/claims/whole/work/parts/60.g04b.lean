/-! sums over places -/
def sumR (f : Nat → Nat) : Nat → Nat → Nat
  | 0, _ => 0
  | k + 1, i => f i + sumR f k (i + 1)
theorem sumR_cong {f g : Nat → Nat} : ∀ (k i : Nat), (∀ j, i ≤ j → j < i + k → f j = g j) → sumR f k i = sumR g k i
  | 0, _, _ => rfl
  | k + 1, i, h => by
    unfold sumR
    rw [h i (Nat.le_refl _) (by omega), sumR_cong k (i + 1) (fun j a b => h j (by omega) (by omega))]
theorem sumR_upd {f g : Nat → Nat} {j0 : Nat} : ∀ (k i : Nat), i ≤ j0 → j0 < i + k → (∀ j, i ≤ j → j < i + k → j ≠ j0 → g j = f j) → sumR g k i + f j0 = sumR f k i + g j0
  | 0, i, h1, h2, _ => by omega
  | k + 1, i, h1, h2, h => by
    unfold sumR
    by_cases e : i = j0
    · subst e
      rw [sumR_cong (f := g) (g := f) k (i + 1) (fun j a b => h j (by omega) (by omega) (by omega))]
      omega
    · have := sumR_upd (f := f) (g := g) (j0 := j0) k (i + 1) (by omega) (by omega) (fun j a b c => h j (by omega) (by omega) c)
      have := h i (Nat.le_refl _) (by omega) e
      omega
theorem sumR_le {f : Nat → Nat} {M : Nat} : ∀ (k i : Nat), (∀ j, i ≤ j → j < i + k → f j ≤ M) → sumR f k i ≤ k * M
  | 0, _, _ => by unfold sumR; omega
  | k + 1, i, h => by
    unfold sumR
    have := h i (Nat.le_refl _) (by omega)
    have := sumR_le (f := f) (M := M) k (i + 1) (fun j a b => h j (by omega) (by omega))
    rw [Nat.succ_mul]; omega
theorem itF_sum {f : Nat → Int32 → Int32} {h : Nat → Nat} : ∀ (k i a : Nat), (∀ j v, i ≤ j → j < i + k → f j v = v + nI (h j)) → itF f k i (nI a) = nI (a + sumR h k i)
  | 0, _, _, _ => rfl
  | k + 1, i, a, e => by
    rw [itF_succ, e i _ (Nat.le_refl _) (by omega), nI_add, itF_sum (h := h) k (i + 1) _ (fun j v a b => e j v (by omega) (by omega))]
    rw [Nat.add_assoc]; rfl
section HR
variable {p : Nat} {nd : Nat → Option Nat} {cs cw : Nat → Int32} {N : Nat → Nat} {hn st wk : Nat → Int32} {M : Nat}
def hcnt (nd : Nat → Option Nat) : Nat → Nat := fun h => match nd h with
  | none => 0
  | some _ => 1
theorem HandR.cnt (H : HandR p nd cs cw N hn st wk M) (hM : M < 2 ^ 31) : itF (hdsF st wk p) 15 1 0 = nI (sumR (hcnt nd) 15 1) := by
  have := itF_sum (f := hdsF st wk p) (h := hcnt nd) 15 1 0 (fun j v j1 j2 => by
    unfold hdsF hcnt
    rcases H.hh hM (h := j) (by omega) (by omega) with ⟨a, b⟩ | ⟨⟨x, a⟩, b⟩
    · rw [if_pos b, a]; exact (Int32.add_zero v).symm
    · rw [if_neg (by rw [b]; decide), a]; rfl)
  rw [Nat.zero_add] at this
  exact this
theorem HandR.mono {M' : Nat} (H : HandR p nd cs cw N hn st wk M) (h : M ≤ M') : HandR p nd cs cw N hn st wk M' := by
  refine ⟨fun j h1 h2 => ?_, H.2⟩
  obtain ⟨e1, e2, s, w, a1, a2, a3, a4, a5⟩ := H.1 j h1 h2
  exact ⟨e1, e2, s, w, a1, a2, by omega, by omega, a5⟩
theorem HandR.cong {nd' : Nat → Option Nat} {cs' cw' hn' st' wk' : Nat → Int32} (H : HandR p nd cs cw N hn st wk M) (e : ∀ h, 1 ≤ h → h ≤ 15 → nd' h = nd h ∧ cs' h = cs h ∧ cw' h = cw h ∧ hn' (16 * p + h) = hn (16 * p + h) ∧ st' (16 * p + h) = st (16 * p + h) ∧ wk' (16 * p + h) = wk (16 * p + h)) : HandR p nd' cs' cw' N hn' st' wk' M := by
  refine ⟨fun h h1 h2 => ?_, fun h h' a h1 h2 h3 h4 h5 h6 => ?_⟩
  · obtain ⟨e1, e2, e3, e4, e5, e6⟩ := e h h1 h2
    rw [e1, e2, e3, e4, e5, e6]; exact H.1 h h1 h2
  · rw [(e h h1 h2).1] at h5
    rw [(e h' h3 h4).1] at h6
    exact H.2 h h' a h1 h2 h3 h4 h5 h6
theorem hds_cong {st wk st' wk' : Nat → Int32} (e : ∀ h, 1 ≤ h → h ≤ 15 → st' (16 * p + h) = st (16 * p + h) ∧ wk' (16 * p + h) = wk (16 * p + h)) (v : Int32) : itF (hdsF st' wk' p) 15 1 v = itF (hdsF st wk p) 15 1 v := by
  refine itF_congr 15 1 v (fun j a h1 h2 => ?_)
  unfold hdsF hhF
  rw [nI_clamp (show j < 2 ^ 31 by omega), (e j h1 (by omega)).1, (e j h1 (by omega)).2]
/-- one handle changed -/
theorem HandR.set {nd' : Nat → Option Nat} {cs' cw' hn' st' wk' : Nat → Int32} {j s w : Nat} (H : HandR p nd cs cw N hn st wk M) (j1 : 1 ≤ j) (j2 : j ≤ 15)
    (e : ∀ h, 1 ≤ h → h ≤ 15 → h ≠ j → nd' h = nd h ∧ cs' h = cs h ∧ cw' h = cw h ∧ hn' (16 * p + h) = hn (16 * p + h) ∧ st' (16 * p + h) = st (16 * p + h) ∧ wk' (16 * p + h) = wk (16 * p + h))
    (e1 : cs' j = nI s) (e2 : st' (16 * p + j) = nI s) (e3 : cw' j = nI w) (e4 : wk' (16 * p + j) = nI w) (hs : s ≤ M) (hw : w ≤ M)
    (e5 : (nd' j = none ∧ s = 0 ∧ w = 0) ∨ ∃ a, nd' j = some a ∧ (0 < s ∨ 0 < w) ∧ hn' (16 * p + j) = nI (N a) ∧ ∀ h, 1 ≤ h → h ≤ 15 → h ≠ j → nd h ≠ some a) : HandR p nd' cs' cw' N hn' st' wk' M := by
  refine ⟨fun h h1 h2 => ?_, fun h h' a h1 h2 h3 h4 h5 h6 => ?_⟩
  · by_cases c : h = j
    · subst c
      refine ⟨by rw [e1, e2], by rw [e3, e4], s, w, e2, e4, hs, hw, ?_⟩
      rcases e5 with q | ⟨a, q1, q2, q3, -⟩
      · exact Or.inl q
      · exact Or.inr ⟨a, q1, q2, q3⟩
    · obtain ⟨d1, d2, d3, d4, d5, d6⟩ := e h h1 h2 c
      rw [d1, d2, d3, d4, d5, d6]; exact H.1 h h1 h2
  · by_cases c : h = j
    · by_cases c' : h' = j
      · rw [c, c']
      · subst c
        rw [(e h' h3 h4 c').1] at h6
        rcases e5 with ⟨q, -⟩ | ⟨a', q1, -, -, q4⟩
        · rw [q] at h5; cases h5
        · rw [q1] at h5; cases h5
          exact absurd h6 (q4 h' h3 h4 c')
    · by_cases c' : h' = j
      · subst c'
        rw [(e h h1 h2 c).1] at h5
        rcases e5 with ⟨q, -⟩ | ⟨a', q1, -, -, q4⟩
        · rw [q] at h6; cases h6
        · rw [q1] at h6; cases h6
          exact absurd h5 (q4 h h1 h2 c)
      · rw [(e h h1 h2 c).1] at h5
        rw [(e h' h3 h4 c').1] at h6
        exact H.2 h h' a h1 h2 h3 h4 h5 h6
end HR
