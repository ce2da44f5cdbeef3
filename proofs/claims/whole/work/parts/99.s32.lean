section FRM
variable {E : FE} {g : Gh} {σ σ' σ2 : Sg} {K J : Nat → Bool} {n n' : Nat}
theorem itF_ind2 {α β : Type} {f : Nat → α → α} {h : Nat → β → β} (P : Nat → α → β → Prop) : ∀ (k i : Nat) (a : α) (b : β), P i a b → (∀ j a b, i ≤ j → j < i + k → P j a b → P (j + 1) (f j a) (h j b)) → P (i + k) (itF f k i a) (itF h k i b)
  | 0, i, a, b, h0, _ => h0
  | k + 1, i, a, b, h0, hs => by
    rw [itF_succ, itF_succ, show i + (k + 1) = i + 1 + k from by omega]
    exact itF_ind2 P k (i + 1) _ _ (hs i a b (Nat.le_refl _) (by omega) h0) (fun j a b h1 h2 h3 => hs j a b (by omega) (by omega) h3)
theorem lfN_at {st wk : Nat → Int32} {q j : Nat} : ∀ (k i : Nat), i ≤ j → j < i + k → hhF st wk q (nI j) = 0 → (∀ j', i ≤ j' → j' < j → ¬ hhF st wk q (nI j') = 0) → lfN st wk q k i = j
  | 0, i, h1, h2, _, _ => by omega
  | k + 1, i, h1, h2, h3, h4 => by
    unfold lfN
    by_cases e : i = j
    · subst e; rw [if_pos h3]
    · rw [if_neg (h4 i (Nat.le_refl _) (by omega))]
      exact lfN_at k (i + 1) (by omega) (by omega) h3 (fun j' a b => h4 j' (by omega) b)
theorem hcnt_le {nd : Nat → Option Nat} (j : Nat) : hcnt nd j ≤ 1 := by
  unfold hcnt; split <;> omega
/-- a free handle is there -/
theorem free_of {nd : Nat → Option Nat} (h : sumR (hcnt nd) 15 1 < 15) : ∃ j, 1 ≤ j ∧ j ≤ 15 ∧ nd j = none ∧ nOf nd none = nI j ∧ ∀ j', 1 ≤ j' → j' < j → nd j' ≠ none := by
  have : ¬ nOf nd none = -1 := by
    intro e
    have e2 := nOf_none.mp e
    have h1 : sumR (hcnt nd) 15 1 = sumR (fun _ => 1) 15 1 := sumR_cong 15 1 (fun j j1 j2 => by
      unfold hcnt
      cases z : nd j with
      | none => exact absurd z (e2 j j1 (by omega))
      | some a => rfl)
    rw [h1] at h
    exact absurd h (by decide)
  obtain ⟨j, j1, j2, j3, j4, j5⟩ := nOf_first this
  exact ⟨j, j1, j2, j3, j4, j5⟩
/-- new handles from the item i on -/
def nwN (V : Nat → Option Nat) (own : Nat → Int32) (nd0 : Nat → Option Nat) : Nat → Nat := fun k => match V k with
  | none => 0
  | some a => if own a = 0 then (if nOf nd0 (some a) = -1 then (if hnb V (some a) k 0 = 0 then 1 else 0) else 0) else 0
theorem hnb_0 {f : Nat → Option Nat} {v : Option Nat} : ∀ (k i : Nat), (∀ j, i ≤ j → j < i + k → f j ≠ v) → hnb f v k i = 0
  | 0, _, _ => rfl
  | k + 1, i, h => by
    unfold hnb
    rw [if_neg (h i (Nat.le_refl _) (by omega))]
    exact hnb_0 k (i + 1) (fun j a b => h j (by omega) (by omega))
theorem rIf {c a x c' : Nat} {v : Int32} (h : c' ≠ c) : (sI σ c a x v).1 c' = σ.1 c' := funext fun _ => funext fun _ => rII h
/-- class and model after i items: τ the class's, υ the model's -/
def PI (g : Gh) (n p q b dv dn a1 a2 a3 n0 : Nat) (V : Nat → Option Nat) (υ0 σ : Sg) (i : Nat) (τ υ : Sg) : Prop := (HandR q (τ.2.1 120003 (g.D q 3)) (τ.1 130000 (g.D q 4)) (τ.1 140000 (g.D q 5)) g.N (υ.1 540000 (g.A 3)) (υ.1 550000 (g.A 4)) (υ.1 560000 (g.A 5)) (4 * n + i)) ∧ (∀ h a, τ.2.1 120003 (g.D q 3) h = some a → σ.2.2.2 a = 3) ∧ (τ.1 80300 (g.D q 2) 0 = nI (sumR (hcnt (τ.2.1 120003 (g.D q 3))) 15 1)) ∧ (sumR (hcnt (τ.2.1 120003 (g.D q 3))) 15 1 + sumR (nwN V (ownF σ (g.D q 0)) (σ.2.1 120003 (g.D q 3))) (n0 - i) i ≤ 15) ∧ (∀ h a, 1 ≤ h → h ≤ 15 → σ.2.1 120003 (g.D q 3) h = some a → ∃ h', 1 ≤ h' ∧ h' ≤ 15 ∧ τ.2.1 120003 (g.D q 3) h' = some a) ∧ (∀ j a, j < i → V j = some a → ownF σ (g.D q 0) a = 0 → ∃ h', 1 ≤ h' ∧ h' ≤ 15 ∧ τ.2.1 120003 (g.D q 3) h' = some a) ∧ (∀ j, j < i → τ.1 310000 a1 j = υ.1 690000 (g.A 18) (4 * b + j) ∧ τ.1 320000 a2 j = υ.1 700000 (g.A 19) (4 * b + j) ∧ NR g.N (τ.2.1 330003 a3 j) (υ.1 710000 (g.A 20) (4 * b + j))) ∧ (∀ j, i ≤ j → j < n0 → τ.2.1 330003 a3 j = none ∧ NR g.N (V j) (υ.1 710000 (g.A 20) (4 * b + j))) ∧ (∀ j, j < n0 → τ.2.1 180003 dn j = V j) ∧ (∀ j, j < n0 → τ.1 170000 dv j = υ.1 600000 (g.A 9) (4 * p + j)) ∧ (∀ x, σ.2.2.2 x ≠ 0 → τ.1 30000 x 0 = σ.1 30000 x 0 ∧ τ.1 30100 x 0 = σ.1 30100 x 0 ∧ τ.1 30200 x 0 = σ.1 30200 x 0) ∧ (τ.1 20000 (g.D q 0) 0 = nI q) ∧ (υ.1 510000 (g.A 0) = σ.1 510000 (g.A 0)) ∧ (υ.1 520000 (g.A 1) = σ.1 520000 (g.A 1)) ∧ (∀ h, 1 ≤ h → h ≤ 15 → υ.1 560000 (g.A 5) (16 * q + h) = σ.1 560000 (g.A 5) (16 * q + h)) ∧ (∀ c x i', c ≠ 710000 → c ≠ 690000 → c ≠ 700000 → c ≠ 550000 → c ≠ 540000 → υ.1 c x i' = υ0.1 c x i') ∧ (∀ x i', i' / 16 ≠ q → υ.1 550000 x i' = υ0.1 550000 x i' ∧ υ.1 540000 x i' = υ0.1 540000 x i') ∧ (∀ x i', i' / 4 ≠ b → υ.1 690000 x i' = υ0.1 690000 x i' ∧ υ.1 700000 x i' = υ0.1 700000 x i' ∧ υ.1 710000 x i' = υ0.1 710000 x i') ∧ (υ.2 = υ0.2)
theorem PI.hr {g : Gh} {n p q b dv dn a1 a2 a3 n0 : Nat} {V : Nat → Option Nat} {υ0 σ : Sg} {i : Nat} {τ υ : Sg} (h9 : PI g n p q b dv dn a1 a2 a3 n0 V υ0 σ i τ υ) : HandR q (τ.2.1 120003 (g.D q 3)) (τ.1 130000 (g.D q 4)) (τ.1 140000 (g.D q 5)) g.N (υ.1 540000 (g.A 3)) (υ.1 550000 (g.A 4)) (υ.1 560000 (g.A 5)) (4 * n + i) := h9.1
theorem PI.k3 {g : Gh} {n p q b dv dn a1 a2 a3 n0 : Nat} {V : Nat → Option Nat} {υ0 σ : Sg} {i : Nat} {τ υ : Sg} (h9 : PI g n p q b dv dn a1 a2 a3 n0 V υ0 σ i τ υ) : ∀ h a, τ.2.1 120003 (g.D q 3) h = some a → σ.2.2.2 a = 3 := h9.2.1
theorem PI.ct {g : Gh} {n p q b dv dn a1 a2 a3 n0 : Nat} {V : Nat → Option Nat} {υ0 σ : Sg} {i : Nat} {τ υ : Sg} (h9 : PI g n p q b dv dn a1 a2 a3 n0 V υ0 σ i τ υ) : τ.1 80300 (g.D q 2) 0 = nI (sumR (hcnt (τ.2.1 120003 (g.D q 3))) 15 1) := h9.2.2.1
theorem PI.rm {g : Gh} {n p q b dv dn a1 a2 a3 n0 : Nat} {V : Nat → Option Nat} {υ0 σ : Sg} {i : Nat} {τ υ : Sg} (h9 : PI g n p q b dv dn a1 a2 a3 n0 V υ0 σ i τ υ) : sumR (hcnt (τ.2.1 120003 (g.D q 3))) 15 1 + sumR (nwN V (ownF σ (g.D q 0)) (σ.2.1 120003 (g.D q 3))) (n0 - i) i ≤ 15 := h9.2.2.2.1
theorem PI.s1 {g : Gh} {n p q b dv dn a1 a2 a3 n0 : Nat} {V : Nat → Option Nat} {υ0 σ : Sg} {i : Nat} {τ υ : Sg} (h9 : PI g n p q b dv dn a1 a2 a3 n0 V υ0 σ i τ υ) : ∀ h a, 1 ≤ h → h ≤ 15 → σ.2.1 120003 (g.D q 3) h = some a → ∃ h', 1 ≤ h' ∧ h' ≤ 15 ∧ τ.2.1 120003 (g.D q 3) h' = some a := h9.2.2.2.2.1
theorem PI.s2 {g : Gh} {n p q b dv dn a1 a2 a3 n0 : Nat} {V : Nat → Option Nat} {υ0 σ : Sg} {i : Nat} {τ υ : Sg} (h9 : PI g n p q b dv dn a1 a2 a3 n0 V υ0 σ i τ υ) : ∀ j a, j < i → V j = some a → ownF σ (g.D q 0) a = 0 → ∃ h', 1 ≤ h' ∧ h' ≤ 15 ∧ τ.2.1 120003 (g.D q 3) h' = some a := h9.2.2.2.2.2.1
theorem PI.it {g : Gh} {n p q b dv dn a1 a2 a3 n0 : Nat} {V : Nat → Option Nat} {υ0 σ : Sg} {i : Nat} {τ υ : Sg} (h9 : PI g n p q b dv dn a1 a2 a3 n0 V υ0 σ i τ υ) : ∀ j, j < i → τ.1 310000 a1 j = υ.1 690000 (g.A 18) (4 * b + j) ∧ τ.1 320000 a2 j = υ.1 700000 (g.A 19) (4 * b + j) ∧ NR g.N (τ.2.1 330003 a3 j) (υ.1 710000 (g.A 20) (4 * b + j)) := h9.2.2.2.2.2.2.1
theorem PI.td {g : Gh} {n p q b dv dn a1 a2 a3 n0 : Nat} {V : Nat → Option Nat} {υ0 σ : Sg} {i : Nat} {τ υ : Sg} (h9 : PI g n p q b dv dn a1 a2 a3 n0 V υ0 σ i τ υ) : ∀ j, i ≤ j → j < n0 → τ.2.1 330003 a3 j = none ∧ NR g.N (V j) (υ.1 710000 (g.A 20) (4 * b + j)) := h9.2.2.2.2.2.2.2.1
theorem PI.c1 {g : Gh} {n p q b dv dn a1 a2 a3 n0 : Nat} {V : Nat → Option Nat} {υ0 σ : Sg} {i : Nat} {τ υ : Sg} (h9 : PI g n p q b dv dn a1 a2 a3 n0 V υ0 σ i τ υ) : ∀ j, j < n0 → τ.2.1 180003 dn j = V j := h9.2.2.2.2.2.2.2.2.1
theorem PI.c2 {g : Gh} {n p q b dv dn a1 a2 a3 n0 : Nat} {V : Nat → Option Nat} {υ0 σ : Sg} {i : Nat} {τ υ : Sg} (h9 : PI g n p q b dv dn a1 a2 a3 n0 V υ0 σ i τ υ) : ∀ j, j < n0 → τ.1 170000 dv j = υ.1 600000 (g.A 9) (4 * p + j) := h9.2.2.2.2.2.2.2.2.2.1
theorem PI.c3 {g : Gh} {n p q b dv dn a1 a2 a3 n0 : Nat} {V : Nat → Option Nat} {υ0 σ : Sg} {i : Nat} {τ υ : Sg} (h9 : PI g n p q b dv dn a1 a2 a3 n0 V υ0 σ i τ υ) : ∀ x, σ.2.2.2 x ≠ 0 → τ.1 30000 x 0 = σ.1 30000 x 0 ∧ τ.1 30100 x 0 = σ.1 30100 x 0 ∧ τ.1 30200 x 0 = σ.1 30200 x 0 := h9.2.2.2.2.2.2.2.2.2.2.1
theorem PI.c4 {g : Gh} {n p q b dv dn a1 a2 a3 n0 : Nat} {V : Nat → Option Nat} {υ0 σ : Sg} {i : Nat} {τ υ : Sg} (h9 : PI g n p q b dv dn a1 a2 a3 n0 V υ0 σ i τ υ) : τ.1 20000 (g.D q 0) 0 = nI q := h9.2.2.2.2.2.2.2.2.2.2.2.1
theorem PI.c5 {g : Gh} {n p q b dv dn a1 a2 a3 n0 : Nat} {V : Nat → Option Nat} {υ0 σ : Sg} {i : Nat} {τ υ : Sg} (h9 : PI g n p q b dv dn a1 a2 a3 n0 V υ0 σ i τ υ) : υ.1 510000 (g.A 0) = σ.1 510000 (g.A 0) := h9.2.2.2.2.2.2.2.2.2.2.2.2.1
theorem PI.c6 {g : Gh} {n p q b dv dn a1 a2 a3 n0 : Nat} {V : Nat → Option Nat} {υ0 σ : Sg} {i : Nat} {τ υ : Sg} (h9 : PI g n p q b dv dn a1 a2 a3 n0 V υ0 σ i τ υ) : υ.1 520000 (g.A 1) = σ.1 520000 (g.A 1) := h9.2.2.2.2.2.2.2.2.2.2.2.2.2.1
theorem PI.c7 {g : Gh} {n p q b dv dn a1 a2 a3 n0 : Nat} {V : Nat → Option Nat} {υ0 σ : Sg} {i : Nat} {τ υ : Sg} (h9 : PI g n p q b dv dn a1 a2 a3 n0 V υ0 σ i τ υ) : ∀ h, 1 ≤ h → h ≤ 15 → υ.1 560000 (g.A 5) (16 * q + h) = σ.1 560000 (g.A 5) (16 * q + h) := h9.2.2.2.2.2.2.2.2.2.2.2.2.2.2.1
theorem PI.m1 {g : Gh} {n p q b dv dn a1 a2 a3 n0 : Nat} {V : Nat → Option Nat} {υ0 σ : Sg} {i : Nat} {τ υ : Sg} (h9 : PI g n p q b dv dn a1 a2 a3 n0 V υ0 σ i τ υ) : ∀ c x i', c ≠ 710000 → c ≠ 690000 → c ≠ 700000 → c ≠ 550000 → c ≠ 540000 → υ.1 c x i' = υ0.1 c x i' := h9.2.2.2.2.2.2.2.2.2.2.2.2.2.2.2.1
theorem PI.m2 {g : Gh} {n p q b dv dn a1 a2 a3 n0 : Nat} {V : Nat → Option Nat} {υ0 σ : Sg} {i : Nat} {τ υ : Sg} (h9 : PI g n p q b dv dn a1 a2 a3 n0 V υ0 σ i τ υ) : ∀ x i', i' / 16 ≠ q → υ.1 550000 x i' = υ0.1 550000 x i' ∧ υ.1 540000 x i' = υ0.1 540000 x i' := h9.2.2.2.2.2.2.2.2.2.2.2.2.2.2.2.2.1
theorem PI.m3 {g : Gh} {n p q b dv dn a1 a2 a3 n0 : Nat} {V : Nat → Option Nat} {υ0 σ : Sg} {i : Nat} {τ υ : Sg} (h9 : PI g n p q b dv dn a1 a2 a3 n0 V υ0 σ i τ υ) : ∀ x i', i' / 4 ≠ b → υ.1 690000 x i' = υ0.1 690000 x i' ∧ υ.1 700000 x i' = υ0.1 700000 x i' ∧ υ.1 710000 x i' = υ0.1 710000 x i' := h9.2.2.2.2.2.2.2.2.2.2.2.2.2.2.2.2.2.1
theorem PI.m4 {g : Gh} {n p q b dv dn a1 a2 a3 n0 : Nat} {V : Nat → Option Nat} {υ0 σ : Sg} {i : Nat} {τ υ : Sg} (h9 : PI g n p q b dv dn a1 a2 a3 n0 V υ0 σ i τ υ) : υ.2 = υ0.2 := h9.2.2.2.2.2.2.2.2.2.2.2.2.2.2.2.2.2.2
theorem PI.mk {g : Gh} {n p q b dv dn a1 a2 a3 n0 : Nat} {V : Nat → Option Nat} {υ0 σ : Sg} {i : Nat} {τ υ : Sg} (hr : HandR q (τ.2.1 120003 (g.D q 3)) (τ.1 130000 (g.D q 4)) (τ.1 140000 (g.D q 5)) g.N (υ.1 540000 (g.A 3)) (υ.1 550000 (g.A 4)) (υ.1 560000 (g.A 5)) (4 * n + i)) (k3 : ∀ h a, τ.2.1 120003 (g.D q 3) h = some a → σ.2.2.2 a = 3) (ct : τ.1 80300 (g.D q 2) 0 = nI (sumR (hcnt (τ.2.1 120003 (g.D q 3))) 15 1)) (rm : sumR (hcnt (τ.2.1 120003 (g.D q 3))) 15 1 + sumR (nwN V (ownF σ (g.D q 0)) (σ.2.1 120003 (g.D q 3))) (n0 - i) i ≤ 15) (s1 : ∀ h a, 1 ≤ h → h ≤ 15 → σ.2.1 120003 (g.D q 3) h = some a → ∃ h', 1 ≤ h' ∧ h' ≤ 15 ∧ τ.2.1 120003 (g.D q 3) h' = some a) (s2 : ∀ j a, j < i → V j = some a → ownF σ (g.D q 0) a = 0 → ∃ h', 1 ≤ h' ∧ h' ≤ 15 ∧ τ.2.1 120003 (g.D q 3) h' = some a) (it : ∀ j, j < i → τ.1 310000 a1 j = υ.1 690000 (g.A 18) (4 * b + j) ∧ τ.1 320000 a2 j = υ.1 700000 (g.A 19) (4 * b + j) ∧ NR g.N (τ.2.1 330003 a3 j) (υ.1 710000 (g.A 20) (4 * b + j))) (td : ∀ j, i ≤ j → j < n0 → τ.2.1 330003 a3 j = none ∧ NR g.N (V j) (υ.1 710000 (g.A 20) (4 * b + j))) (c1 : ∀ j, j < n0 → τ.2.1 180003 dn j = V j) (c2 : ∀ j, j < n0 → τ.1 170000 dv j = υ.1 600000 (g.A 9) (4 * p + j)) (c3 : ∀ x, σ.2.2.2 x ≠ 0 → τ.1 30000 x 0 = σ.1 30000 x 0 ∧ τ.1 30100 x 0 = σ.1 30100 x 0 ∧ τ.1 30200 x 0 = σ.1 30200 x 0) (c4 : τ.1 20000 (g.D q 0) 0 = nI q) (c5 : υ.1 510000 (g.A 0) = σ.1 510000 (g.A 0)) (c6 : υ.1 520000 (g.A 1) = σ.1 520000 (g.A 1)) (c7 : ∀ h, 1 ≤ h → h ≤ 15 → υ.1 560000 (g.A 5) (16 * q + h) = σ.1 560000 (g.A 5) (16 * q + h)) (m1 : ∀ c x i', c ≠ 710000 → c ≠ 690000 → c ≠ 700000 → c ≠ 550000 → c ≠ 540000 → υ.1 c x i' = υ0.1 c x i') (m2 : ∀ x i', i' / 16 ≠ q → υ.1 550000 x i' = υ0.1 550000 x i' ∧ υ.1 540000 x i' = υ0.1 540000 x i') (m3 : ∀ x i', i' / 4 ≠ b → υ.1 690000 x i' = υ0.1 690000 x i' ∧ υ.1 700000 x i' = υ0.1 700000 x i' ∧ υ.1 710000 x i' = υ0.1 710000 x i') (m4 : υ.2 = υ0.2) : PI g n p q b dv dn a1 a2 a3 n0 V υ0 σ i τ υ := ⟨hr, k3, ct, rm, s1, s2, it, td, c1, c2, c3, c4, c5, c6, c7, m1, m2, m3, m4⟩
section PIS
variable {p q b dv dn a1 a2 a3 n0 i : Nat} {V : Nat → Option Nat} {τ υ υ0 : Sg}
theorem PI.own (I : PI g n p q b dv dn a1 a2 a3 n0 V υ0 σ i τ υ) {a : Nat} (ha : σ.2.2.2 a ≠ 0) : ownF τ (g.D q 0) a = if σ.1 30000 a 0 = nI q then (if σ.1 30200 a 0 = 0 then 1 else 0) else 0 := by
  unfold ownF
  rw [(I.c3 a ha).1, I.c4, (I.c3 a ha).2.2]
set_option maxHeartbeats 1000000 in
/-- one item more -/
theorem PI.step (R : RR E g n σ) (hn : n ≤ 512) (hq : q < 4) (h20 : σ.1 20000 (g.D q 0) 0 = nI q) (hV : ∀ j a, j < n0 → V j = some a → σ.2.2.2 a = 3) (h4 : n0 ≤ 4) (hi : i < n0) (I : PI g n p q b dv dn a1 a2 a3 n0 V υ0 σ i τ υ) :
    PI g n p q b dv dn a1 a2 a3 n0 V υ0 σ (i + 1) (riF g.D q dv dn a1 a2 a3 i τ) (mv2 g.A p q b i υ) ∧ (¬ υ.1 710000 (g.A 20) (4 * b + i) < 0 → hmO υ g.A q (υ.1 710000 (g.A 20) (4 * b + i)) = 0 → hmK υ g.A q (υ.1 710000 (g.A 20) (4 * b + i)) ≤ 0 → ∃ j, 1 ≤ j ∧ j < 16 ∧ hhF (υ.1 550000 (g.A 4)) (υ.1 560000 (g.A 5)) q (nI j) = 0) := by
  have hN : ∀ {a}, σ.2.2.2 a = 3 → g.N a < 100000 := fun h => R.no.ok R.p (by omega) h
  have hM : 4 * n + i < 2 ^ 31 := by omega
  have hrest : sumR (nwN V (ownF σ (g.D q 0)) (σ.2.1 120003 (g.D q 3))) (n0 - i) i = nwN V (ownF σ (g.D q 0)) (σ.2.1 120003 (g.D q 3)) i + sumR (nwN V (ownF σ (g.D q 0)) (σ.2.1 120003 (g.D q 3))) (n0 - (i + 1)) (i + 1) := by
    rw [show n0 - i = (n0 - (i + 1)) + 1 from by omega]; rfl
  have hrm := I.rm
  rw [hrest] at hrm
  obtain ⟨td1, td2⟩ := I.td i (Nat.le_refl _) hi
  have jn : ∀ j, i + 1 ≤ j → j ≠ i := fun j h => by omega
  have eo0 : ∀ a, ownF σ (g.D q 0) a = if σ.1 30000 a 0 = nI q then (if σ.1 30200 a 0 = 0 then 1 else 0) else 0 := fun a => by unfold ownF; rw [h20]
  rcases td2 with ⟨v0, x0⟩ | ⟨a, v0, x0⟩
  · -- a number
    refine ⟨?_, fun h => absurd (by rw [x0]; decide) h⟩
    unfold riF mv2
    rw [I.c1 i hi, v0, x0, if_pos (by decide)]
    dsimp only
    unfold PI
    exact ⟨((I.hr.mono (Nat.le_succ _)).cong (fun h _ _ => by simp [sI])),
      (I.k3),
      ((by simpa [sI] using I.ct)),
      ((show sumR (hcnt (τ.2.1 120003 (g.D q 3))) 15 1 + sumR (nwN V (ownF σ (g.D q 0)) (σ.2.1 120003 (g.D q 3))) (n0 - (i + 1)) (i + 1) ≤ 15 by omega)),
      (I.s1),
      (fun j a hj hv ho => by
        by_cases e : j = i
        · subst e; rw [v0] at hv; cases hv
        · exact I.s2 j a (by omega) hv ho),
      (fun j hj => by
        by_cases e : j = i
        · subst e
          simp only [sI, Nat.reduceEqDiff, false_and, if_false, true_and, and_self, if_true]
          exact ⟨I.c2 j hi, Or.inl ⟨td1, rfl⟩⟩
        · have h1 : 4 * b + j ≠ 4 * b + i := by omega
          simp only [sI, Nat.reduceEqDiff, false_and, if_false, true_and, and_true, h1, e, and_false]
          exact I.it j (by omega)),
      (fun j h1 h2 => by
        have h3 : 4 * b + j ≠ 4 * b + i := by omega
        simp only [sI, Nat.reduceEqDiff, false_and, if_false, true_and, h3, and_false]
        exact I.td j (by omega) h2),
      (I.c1),
      (fun j hj => by simpa [sI] using I.c2 j hj),
      (fun x hx => by simpa [sI] using I.c3 x hx),
      ((by simpa [sI] using I.c4)),
      ((by simpa [sI] using I.c5)),
      ((by simpa [sI] using I.c6)),
      (fun h h1 h2 => by simpa [sI] using I.c7 h h1 h2),
      (fun c x i' h1 h2 h3 h4 h5 => by simp only [sI, h1, h2, h3, h4, h5, false_and, if_false]; exact I.m1 c x i' h1 h2 h3 h4 h5),
      (fun x i' h1 => by simp only [sI, Nat.reduceEqDiff, false_and, if_false]; exact I.m2 x i' h1),
      (fun x i' h1 => by have h2 : i' ≠ 4 * b + i := (by omega); simp only [sI, Nat.reduceEqDiff, false_and, h2, and_false, if_false]; exact I.m3 x i' h1),
      (I.m4)⟩
  · have a3k := hV i a hi v0
    have ha := hN a3k
    have a0z : σ.2.2.2 a ≠ 0 := by rw [a3k]; decide
    obtain ⟨m1, m2, m3, m4⟩ := R.no.m R.p (by omega) a3k
    have hneg : ¬ nI (g.N a) < 0 := lt0_nI (by omega)
    have hO : hmO υ g.A q (nI (g.N a)) = ownF τ (g.D q 0) a := by
      rw [I.own a0z]
      unfold hmO
      rw [I.c5, I.c6, m1, m3]
    have hK := I.hr.hfor hM (K := fun a => σ.2.2.2 a = 3) (fun a b h1 h2 e => R.no.2.1 a b h1 h2 e) I.k3 (fun a h => by have := hN h; omega) a3k
    rw [x0, hO]
    unfold riF mv2
    rw [I.c1 i hi, v0, x0, if_neg hneg, hO]
    dsimp only
    by_cases ho : ownF τ (g.D q 0) a = 0
    · have hos : ownF σ (g.D q 0) a = 0 := by rw [eo0 a, ← I.own a0z]; exact ho
      rw [if_pos ho, if_pos ho]
      have ek : ∀ v, hmK (sI υ 710000 (g.A 20) (4 * b + i) v) g.A q (nI (g.N a)) = hmK υ g.A q (nI (g.N a)) := fun v => by
        unfold hmK; rw [rIf (by decide), rIf (by decide), rIf (by decide)]
      rcases hK with ⟨k1, k2⟩ | ⟨h, h1, h2, hnd, k1, k2⟩
      · -- a new handle
        have k2' : hmK υ g.A q (nI (g.N a)) = 0 := k2
        have hno := nOf_none.mp k1
        have hnw : nwN V (ownF σ (g.D q 0)) (σ.2.1 120003 (g.D q 3)) i = 1 := by
          unfold nwN
          rw [v0]
          dsimp only
          rw [if_pos hos, if_pos (nOf_none.mpr (fun j j1 j2 e => by
            obtain ⟨h', h1, h2, h3⟩ := I.s1 j a j1 j2 e
            exact hno h' h1 h2 h3)), if_pos (hnb_0 i 0 (fun j _ j2 e => by
            obtain ⟨h', h1, h2, h3⟩ := I.s2 j a (by omega) e hos
            exact hno h' h1 h2 h3))]
        obtain ⟨h, h1, h2, hnd, hn0, hf⟩ := free_of (nd := τ.2.1 120003 (g.D q 3)) (by omega)
        have hh : hhF (υ.1 550000 (g.A 4)) (υ.1 560000 (g.A 5)) q (nI h) = 0 := (I.hr.hh0 hM h1 h2).mpr hnd
        have hlf : lfN (υ.1 550000 (g.A 4)) (υ.1 560000 (g.A 5)) q 15 1 = h := lfN_at 15 1 h1 (by omega) hh (fun j' j1 j2 e => hf j' j1 j2 ((I.hr.hh0 hM j1 (by omega)).mp e))
        refine ⟨?_, fun _ _ _ => ⟨h, h1, by omega, hh⟩⟩
        have eg : giveF τ (g.D q 2) (g.D q 3) (g.D q 4) a = (nI h, sI (sI (sO τ 120003 (g.D q 3) h (some a)) 80300 (g.D q 2) 0 (τ.1 80300 (g.D q 2) 0 + 1)) 130000 (g.D q 4) h (τ.1 130000 (g.D q 4) h + 1)) := by
          unfold giveF
          rw [if_pos k1, hn0, if_neg (nI_m1 h (by omega)), nI_clamp (by omega)]
        have eH : mvH υ g.A q (nI (g.N a)) = h := by unfold mvH; rw [k2', if_pos (by decide), hlf]
        have eN : ∀ v, mvN (sI υ 710000 (g.A 20) (4 * b + i) v) g.A q (nI (g.N a)) = sI (sI υ 710000 (g.A 20) (4 * b + i) v) 540000 (g.A 3) (16 * q + h) (nI (g.N a)) := fun v => by
          unfold mvN; rw [ek, k2', if_pos (by decide), rIf (by decide), rIf (by decide), hlf]
        rw [eg, eH, eN]
        dsimp only
        obtain ⟨e1, e2, s0, w0, d1, d2, d3, d4, d5⟩ := I.hr.1 h h1 h2
        have hsw : s0 = 0 ∧ w0 = 0 := by
          rcases d5 with ⟨-, y⟩ | ⟨a', y, -⟩
          · exact y
          · rw [hnd] at y; cases y
        obtain ⟨rfl, rfl⟩ := hsw
        have hcs : sumR (hcnt (fun x => if x = h then some a else τ.2.1 120003 (g.D q 3) x)) 15 1 = sumR (hcnt (τ.2.1 120003 (g.D q 3))) 15 1 + 1 := by
          have h9 := sumR_upd (f := hcnt (τ.2.1 120003 (g.D q 3))) (g := hcnt (fun x => if x = h then some a else τ.2.1 120003 (g.D q 3) x)) (j0 := h) 15 1 h1 (by omega) (fun j _ _ hj => by unfold hcnt; simp only [if_neg hj])
          have z1 : hcnt (τ.2.1 120003 (g.D q 3)) h = 0 := by unfold hcnt; rw [hnd]
          have z2 : hcnt (fun x => if x = h then some a else τ.2.1 120003 (g.D q 3) x) h = 1 := by unfold hcnt; simp only [if_true]
          rw [z1, z2] at h9; omega
        have en : ∀ (c' : Nat) (T : Sg), T.2.1 120003 (g.D q 3) = τ.2.1 120003 (g.D q 3) → True := fun _ _ _ => trivial
        clear en
        have hnd' : ∀ x, (sO (sI (sI (sI (sI (sO τ 120003 (g.D q 3) h (some a)) 80300 (g.D q 2) 0 (τ.1 80300 (g.D q 2) 0 + 1)) 130000 (g.D q 4) h (τ.1 130000 (g.D q 4) h + 1)) 310000 a1 i 2) 320000 a2 i (nI h)) 330003 a3 i (some a)).2.1 120003 (g.D q 3) x = if x = h then some a else τ.2.1 120003 (g.D q 3) x := fun x => by simp [sI, sO]
        have hnf : (sO (sI (sI (sI (sI (sO τ 120003 (g.D q 3) h (some a)) 80300 (g.D q 2) 0 (τ.1 80300 (g.D q 2) 0 + 1)) 130000 (g.D q 4) h (τ.1 130000 (g.D q 4) h + 1)) 310000 a1 i 2) 320000 a2 i (nI h)) 330003 a3 i (some a)).2.1 120003 (g.D q 3) = fun x => if x = h then some a else τ.2.1 120003 (g.D q 3) x := funext hnd'
        unfold PI
        exact ⟨((HandR.set (I.hr.mono (Nat.le_succ _)) h1 h2 (s := 1) (w := 0) (fun h' y1 y2 y3 => by
                    have y4 : 16 * q + h' ≠ 16 * q + h := by omega
                    simp [sI, sO, y3, y4]) (by simp [sI, sO]; rw [e1, d1]; rfl) (by simp [sI, sO]; rw [d1]; rfl) (by simp [sI, sO]; rw [e2, d2]) (by simp [sI, sO]; rw [d2]) (by omega) (by omega) (Or.inr ⟨a, by rw [hnd', if_pos rfl], Or.inl (by omega), by simp [sI, sO], fun h' y1 y2 y3 => hno h' y1 y2⟩))),
          (fun x a' hx => by
                    rw [hnd'] at hx
                    by_cases e : x = h
                    · rw [if_pos e] at hx; cases hx; exact a3k
                    · rw [if_neg e] at hx; exact I.k3 x a' hx),
          ((by rw [hnf, hcs]; simp [sI, sO]; rw [I.ct, nI_1])),
          ((by rw [hnf, hcs]; omega)),
          (fun x a' x1 x2 hx => by
                    obtain ⟨h', y1, y2, y3⟩ := I.s1 x a' x1 x2 hx
                    refine ⟨h', y1, y2, ?_⟩
                    have : h' ≠ h := by rintro rfl; rw [hnd] at y3; cases y3
                    rw [hnd', if_neg this]; exact y3),
          (fun j a' hj hv ho' => by
                    by_cases e : j = i
                    · subst e
                      rw [v0] at hv; cases hv
                      exact ⟨h, h1, h2, by rw [hnd', if_pos rfl]⟩
                    · obtain ⟨h', y1, y2, y3⟩ := I.s2 j a' (by omega) hv ho'
                      refine ⟨h', y1, y2, ?_⟩
                      have : h' ≠ h := by rintro rfl; rw [hnd] at y3; cases y3
                      rw [hnd', if_neg this]; exact y3),
          (fun j hj => by
            by_cases e : j = i
            · subst e
              simp only [sI, sO, Nat.reduceEqDiff, false_and, if_false, true_and, and_self, if_true]
              exact Or.inr ⟨a, rfl, rfl⟩
            · have h1 : 4 * b + j ≠ 4 * b + i := by omega
              simp only [sI, sO, Nat.reduceEqDiff, false_and, if_false, true_and, and_true, h1, e, and_false]
              exact I.it j (by omega)),
          (fun j h1 h2 => by
            have h3 : 4 * b + j ≠ 4 * b + i := by omega
            have h5 : j ≠ i := by omega
            simp only [sI, sO, Nat.reduceEqDiff, false_and, if_false, true_and, h3, h5, and_false]
            exact I.td j (by omega) h2),
          (fun j hj => by simpa [sI, sO] using I.c1 j hj),
          (fun j hj => by simpa [sI, sO] using I.c2 j hj),
          (fun x hx => by simpa [sI, sO] using I.c3 x hx),
          ((by simpa [sI, sO] using I.c4)),
          ((by simp only [rIf (show (510000 : Nat) ≠ 710000 by decide), rIf (show (510000 : Nat) ≠ 700000 by decide), rIf (show (510000 : Nat) ≠ 690000 by decide), rIf (show (510000 : Nat) ≠ 550000 by decide), rIf (show (510000 : Nat) ≠ 540000 by decide)]; exact I.c5)),
          ((by simp only [rIf (show (520000 : Nat) ≠ 710000 by decide), rIf (show (520000 : Nat) ≠ 700000 by decide), rIf (show (520000 : Nat) ≠ 690000 by decide), rIf (show (520000 : Nat) ≠ 550000 by decide), rIf (show (520000 : Nat) ≠ 540000 by decide)]; exact I.c6)),
          (fun h h1 h2 => by simpa [sI, sO] using I.c7 h h1 h2),
          (fun c x i' h1 h2 h3 h4 h5 => by simp only [sI, h1, h2, h3, h4, h5, false_and, if_false]; exact I.m1 c x i' h1 h2 h3 h4 h5),
          (fun x i' h1 => by have h2 : i' ≠ 16 * q + h := (by omega); simp only [sI, Nat.reduceEqDiff, false_and, h2, and_false, if_false]; exact I.m2 x i' h1),
          (fun x i' h1 => by have h2 : i' ≠ 4 * b + i := (by omega); simp only [sI, Nat.reduceEqDiff, false_and, h2, and_false, if_false]; exact I.m3 x i' h1),
          (I.m4)⟩
      · -- a known handle
        have k2' : hmK υ g.A q (nI (g.N a)) = nI h := k2
        have hpos : ¬ nI h ≤ 0 := by rw [le0_nI (by omega)]; omega
        refine ⟨?_, fun _ _ z => absurd (by rw [← k2']; exact z) hpos⟩
        have eg : giveF τ (g.D q 2) (g.D q 3) (g.D q 4) a = (nI h, sI τ 130000 (g.D q 4) h (τ.1 130000 (g.D q 4) h + 1)) := by
          unfold giveF
          rw [k1, if_neg (nI_m1 h (by omega)), nI_clamp (by omega)]
        have eH : mvH υ g.A q (nI (g.N a)) = h := by unfold mvH; rw [k2', if_neg hpos, nI_clamp (by omega)]
        have eN : ∀ v, mvN (sI υ 710000 (g.A 20) (4 * b + i) v) g.A q (nI (g.N a)) = sI υ 710000 (g.A 20) (4 * b + i) v := fun v => by
          unfold mvN; rw [ek, k2', if_neg hpos]
        rw [eg, eH, eN]
        dsimp only
        obtain ⟨e1, e2, s0, w0, d1, d2, d3, d4, d5⟩ := I.hr.1 h h1 h2
        have hn' : υ.1 540000 (g.A 3) (16 * q + h) = nI (g.N a) := by
          rcases d5 with ⟨y, -⟩ | ⟨a', y, -, y2⟩
          · rw [hnd] at y; cases y
          · rw [hnd] at y; cases y; exact y2
        unfold PI
        exact ⟨((HandR.set (I.hr.mono (Nat.le_succ _)) h1 h2 (s := s0 + 1) (w := w0) (fun h' y1 y2 y3 => by
                    have y4 : 16 * q + h' ≠ 16 * q + h := by omega
                    simp [sI, sO, y3, y4]) (by simp [sI, sO]; rw [e1, d1, nI_1]) (by simp [sI, sO]; rw [d1, nI_1]) (by simp [sI, sO]; rw [e2, d2]) (by simp [sI, sO]; rw [d2]) (by omega) (by omega) (Or.inr ⟨a, by simp [sI, sO]; exact hnd, Or.inl (by omega), by simp [sI, sO]; exact hn', fun h' y1 y2 y3 y4 => y3 (I.hr.2 h' h a y1 y2 h1 h2 y4 hnd)⟩))),
          (fun x a' hx => I.k3 x a' (by simpa [sI, sO] using hx)),
          ((by simpa [sI, sO] using I.ct)),
          ((by simpa [sI, sO] using (show sumR (hcnt (τ.2.1 120003 (g.D q 3))) 15 1 + sumR (nwN V (ownF σ (g.D q 0)) (σ.2.1 120003 (g.D q 3))) (n0 - (i + 1)) (i + 1) ≤ 15 by omega))),
          (fun x a' x1 x2 hx => by simpa [sI, sO] using I.s1 x a' x1 x2 hx),
          (fun j a' hj hv ho' => by
                    by_cases e : j = i
                    · subst e
                      rw [v0] at hv; cases hv
                      exact ⟨h, h1, h2, by simp [sI, sO]; exact hnd⟩
                    · simpa [sI, sO] using I.s2 j a' (by omega) hv ho'),
          (fun j hj => by
            by_cases e : j = i
            · subst e
              simp only [sI, sO, Nat.reduceEqDiff, false_and, if_false, true_and, and_self, if_true]
              exact Or.inr ⟨a, rfl, rfl⟩
            · have h1 : 4 * b + j ≠ 4 * b + i := by omega
              simp only [sI, sO, Nat.reduceEqDiff, false_and, if_false, true_and, and_true, h1, e, and_false]
              exact I.it j (by omega)),
          (fun j h1 h2 => by
            have h3 : 4 * b + j ≠ 4 * b + i := by omega
            have h5 : j ≠ i := by omega
            simp only [sI, sO, Nat.reduceEqDiff, false_and, if_false, true_and, h3, h5, and_false]
            exact I.td j (by omega) h2),
          (fun j hj => by simpa [sI, sO] using I.c1 j hj),
          (fun j hj => by simpa [sI, sO] using I.c2 j hj),
          (fun x hx => by simpa [sI, sO] using I.c3 x hx),
          ((by simpa [sI, sO] using I.c4)),
          ((by simp only [rIf (show (510000 : Nat) ≠ 710000 by decide), rIf (show (510000 : Nat) ≠ 700000 by decide), rIf (show (510000 : Nat) ≠ 690000 by decide), rIf (show (510000 : Nat) ≠ 550000 by decide), rIf (show (510000 : Nat) ≠ 540000 by decide)]; exact I.c5)),
          ((by simp only [rIf (show (520000 : Nat) ≠ 710000 by decide), rIf (show (520000 : Nat) ≠ 700000 by decide), rIf (show (520000 : Nat) ≠ 690000 by decide), rIf (show (520000 : Nat) ≠ 550000 by decide), rIf (show (520000 : Nat) ≠ 540000 by decide)]; exact I.c6)),
          (fun h h1 h2 => by simpa [sI, sO] using I.c7 h h1 h2),
          (fun c x i' h1 h2 h3 h4 h5 => by simp only [sI, h1, h2, h3, h4, h5, false_and, if_false]; exact I.m1 c x i' h1 h2 h3 h4 h5),
          (fun x i' h1 => by have h2 : i' ≠ 16 * q + h := (by omega); simp only [sI, Nat.reduceEqDiff, false_and, h2, and_false, if_false]; exact I.m2 x i' h1),
          (fun x i' h1 => by have h2 : i' ≠ 4 * b + i := (by omega); simp only [sI, Nat.reduceEqDiff, false_and, h2, and_false, if_false]; exact I.m3 x i' h1),
          (I.m4)⟩
    · rw [if_neg ho, if_neg ho]
      refine ⟨?_, fun _ h => absurd h ho⟩
      unfold PI
      exact ⟨((I.hr.mono (Nat.le_succ _)).cong (fun h _ _ => by simp [sI])),
        (I.k3),
        ((by simpa [sI] using I.ct)),
        ((show sumR (hcnt (τ.2.1 120003 (g.D q 3))) 15 1 + sumR (nwN V (ownF σ (g.D q 0)) (σ.2.1 120003 (g.D q 3))) (n0 - (i + 1)) (i + 1) ≤ 15 by omega)),
        (I.s1),
        (fun j a' hj hv ho' => by
          by_cases e : j = i
          · subst e
            rw [v0] at hv; cases hv
            rw [I.own a0z, ← eo0 a] at ho; exact absurd ho' ho
          · exact I.s2 j a' (by omega) hv ho'),
        (fun j hj => by
          by_cases e : j = i
          · subst e
            simp only [sI, Nat.reduceEqDiff, false_and, if_false, true_and, and_self, if_true]
            refine ⟨?_, Or.inl ⟨td1, rfl⟩⟩
            rw [(I.c3 a a0z).2.1, m2, nl10, pk_rem (by omega) (by omega) (by omega)]
          · have h1 : 4 * b + j ≠ 4 * b + i := by omega
            simp only [sI, Nat.reduceEqDiff, false_and, if_false, true_and, and_true, h1, e, and_false]
            exact I.it j (by omega)),
        (fun j h1 h2 => by
          have h3 : 4 * b + j ≠ 4 * b + i := by omega
          simp only [sI, Nat.reduceEqDiff, false_and, if_false, true_and, h3, and_false]
          exact I.td j (by omega) h2),
        (I.c1),
        (fun j hj => by simpa [sI] using I.c2 j hj),
        (fun x hx => by simpa [sI] using I.c3 x hx),
        ((by simpa [sI] using I.c4)),
        ((by simpa [sI] using I.c5)),
        ((by simpa [sI] using I.c6)),
        (fun h h1 h2 => by simpa [sI] using I.c7 h h1 h2),
        (fun c x i' h1 h2 h3 h4 h5 => by simp only [sI, h1, h2, h3, h4, h5, false_and, if_false]; exact I.m1 c x i' h1 h2 h3 h4 h5),
        (fun x i' h1 => by simp only [sI, Nat.reduceEqDiff, false_and, if_false]; exact I.m2 x i' h1),
        (fun x i' h1 => by have h2 : i' ≠ 4 * b + i := (by omega); simp only [sI, Nat.reduceEqDiff, false_and, h2, and_false, if_false]; exact I.m3 x i' h1),
        (I.m4)⟩
end PIS
end FRM
