section FRM
variable {E : FE} {g : Gh} {σ σ' : Sg} {K J : Nat → Bool} {n n' : Nat}
theorem FrP.refl {p : Nat} : FrP g p K J σ σ := Fr.refl.at g p
theorem FrP.iw {p c x i : Nat} {v : Int32} {a b : Sg} (h : FrP g p K J a b) (hc : K c = true ∨ ¬ InP g p c x i) : FrP g p K J a (sI b c x i v) :=
  ⟨h.1, h.2.1, fun c' x' i' hx hk hi => by
    have e := h.2.2 c' x' i' hx hk hi
    refine ⟨?_, e.2⟩
    simp only [sI]
    rw [if_neg]
    · exact e.1
    · rintro ⟨rfl, rfl, rfl⟩
      rcases hc with hc | hc
      · rw [hk] at hc; cases hc
      · exact hc hi⟩
theorem FrP.ow {p c x i : Nat} {v : Option Nat} {a b : Sg} (h : FrP g p K J a b) (hc : K c = true ∨ ¬ InP g p c x i) : FrP g p K J a (sO b c x i v) :=
  ⟨h.1, h.2.1, fun c' x' i' hx hk hi => by
    have e := h.2.2 c' x' i' hx hk hi
    refine ⟨e.1, ?_⟩
    simp only [sO]
    rw [if_neg]
    · exact e.2
    · rintro ⟨rfl, rfl, rfl⟩
      rcases hc with hc | hc
      · rw [hk] at hc; cases hc
      · exact hc hi⟩
theorem niA {p q c i : Nat} {x : Nat} (hc : 510000 ≤ c) (hi : i / wd c = p) (h : q ≠ p) : ¬ InP g q c x i := fun z => h ((z.2 hc).symm.trans hi)
theorem niD {p q j c i : Nat} (hc : c < 500000) (hp : p < 4) (hj : j < 15) (h : q ≠ p) : ¬ InP g q c (g.D p j) i := fun z => h (z.1 hc p j hp hj rfl).symm
/-- a stretch of an array set to v -/
def filS (σ : Sg) (c a b n : Nat) (v : Int32) : Sg := (fun c' a' x' => if c' = c ∧ a' = a ∧ b ≤ x' ∧ x' < b + n then v else σ.1 c' a' x', σ.2)
theorem fil_eq {c a b : Nat} {v : Int32} : ∀ (n i : Nat) (σ : Sg), itF (fun k τ => sI τ c a (b + k) v) n i σ = filS σ c a (b + i) n v
  | 0, i, σ => by
    unfold filS
    refine Prod.ext (funext fun c' => funext fun a' => funext fun x' => ?_) rfl
    show σ.1 c' a' x' = _
    dsimp only
    rw [if_neg (by omega)]
  | n + 1, i, σ => by
    rw [itF_succ, fil_eq n (i + 1)]
    refine Prod.ext (funext fun c' => funext fun a' => funext fun x' => ?_) rfl
    show (if c' = c ∧ a' = a ∧ b + (i + 1) ≤ x' ∧ x' < b + (i + 1) + n then v else if c' = c ∧ a' = a ∧ x' = b + i then v else σ.1 c' a' x') = if c' = c ∧ a' = a ∧ b + i ≤ x' ∧ x' < b + i + (n + 1) then v else σ.1 c' a' x'
    by_cases h : c' = c ∧ a' = a
    · by_cases h2 : b + (i + 1) ≤ x' ∧ x' < b + (i + 1) + n
      · rw [if_pos ⟨h.1, h.2, h2⟩, if_pos ⟨h.1, h.2, by omega, by omega⟩]
      · rw [if_neg (fun z => h2 z.2.2)]
        by_cases h3 : x' = b + i
        · rw [if_pos ⟨h.1, h.2, h3⟩, if_pos ⟨h.1, h.2, by omega, by omega⟩]
        · rw [if_neg (fun z => h3 z.2.2), if_neg (fun z => by omega)]
    · rw [if_neg (fun z => h ⟨z.1, z.2.1⟩), if_neg (fun z => h ⟨z.1, z.2.1⟩), if_neg (fun z => h ⟨z.1, z.2.1⟩)]
theorem fil2_eq {c a b c2 a2 : Nat} {v w : Int32} (hc : c ≠ c2) : ∀ (n i : Nat) (σ : Sg), itF (fun k τ => sI (sI τ c a (b + k) v) c2 a2 (b + k) w) n i σ = filS (filS σ c a (b + i) n v) c2 a2 (b + i) n w
  | 0, i, σ => by
    unfold filS
    refine Prod.ext (funext fun c' => funext fun a' => funext fun x' => ?_) rfl
    show σ.1 c' a' x' = _
    dsimp only
    rw [if_neg (by omega), if_neg (by omega)]
  | n + 1, i, σ => by
    rw [itF_succ, fil2_eq hc n (i + 1)]
    refine Prod.ext (funext fun c' => funext fun a' => funext fun x' => ?_) rfl
    show (if c' = c2 ∧ a' = a2 ∧ b + (i + 1) ≤ x' ∧ x' < b + (i + 1) + n then w else if c' = c ∧ a' = a ∧ b + (i + 1) ≤ x' ∧ x' < b + (i + 1) + n then v else if c' = c2 ∧ a' = a2 ∧ x' = b + i then w else if c' = c ∧ a' = a ∧ x' = b + i then v else σ.1 c' a' x') = if c' = c2 ∧ a' = a2 ∧ b + i ≤ x' ∧ x' < b + i + (n + 1) then w else if c' = c ∧ a' = a ∧ b + i ≤ x' ∧ x' < b + i + (n + 1) then v else σ.1 c' a' x'
    by_cases e1 : c' = c2
    · subst e1
      have hz : ¬ c' = c := fun z => hc z.symm
      simp only [hz, false_and, if_false, true_and]
      by_cases h : a' = a2
      · by_cases h2 : b + (i + 1) ≤ x' ∧ x' < b + (i + 1) + n
        · rw [if_pos ⟨h, h2⟩, if_pos ⟨h, by omega, by omega⟩]
        · rw [if_neg (fun z => h2 z.2)]
          by_cases h3 : x' = b + i
          · rw [if_pos ⟨h, h3⟩, if_pos ⟨h, by omega, by omega⟩]
          · rw [if_neg (fun z => h3 z.2), if_neg (fun z => by omega)]
      · simp only [h, false_and, if_false]
    · simp only [e1, false_and, if_false]
      by_cases h : c' = c ∧ a' = a
      · by_cases h2 : b + (i + 1) ≤ x' ∧ x' < b + (i + 1) + n
        · rw [if_pos ⟨h.1, h.2, h2⟩, if_pos ⟨h.1, h.2, by omega, by omega⟩]
        · rw [if_neg (fun z => h2 z.2.2)]
          by_cases h3 : x' = b + i
          · rw [if_pos ⟨h.1, h.2, h3⟩, if_pos ⟨h.1, h.2, by omega, by omega⟩]
          · rw [if_neg (fun z => h3 z.2.2), if_neg (fun z => by omega)]
      · rw [if_neg (fun z => h ⟨z.1, z.2.1⟩), if_neg (fun z => h ⟨z.1, z.2.1⟩), if_neg (fun z => h ⟨z.1, z.2.1⟩)]
theorem FrP.fw {p c x b n : Nat} {v : Int32} {a' b' : Sg} (h : FrP g p K J a' b') (hc : K c = true ∨ ∀ i, b ≤ i → i < b + n → ¬ InP g p c x i) : FrP g p K J a' (filS b' c x b n v) :=
  ⟨h.1, h.2.1, fun c' x' i' hx hk hi => by
    have e := h.2.2 c' x' i' hx hk hi
    refine ⟨?_, e.2⟩
    simp only [filS]
    rw [if_neg]
    · exact e.1
    · rintro ⟨rfl, rfl, h1, h2⟩
      rcases hc with hc | hc
      · rw [hk] at hc; cases hc
      · exact hc i' h1 h2 hi⟩
theorem FrL.f {l : List Nat} {J : Nat → Bool} {a b : Sg} {c x i n : Nat} {v : Int32} (h : Fr (fun c => l.contains c) J a b) (hc : l.contains c = true) : Fr (fun c => l.contains c) J a (filS b c x i n v) :=
  ⟨h.1, h.2.1, fun c' x' i' hx hk => by
    have e := h.2.2 c' x' i' hx hk
    refine ⟨?_, e.2⟩
    simp only [filS]
    rw [if_neg]
    · exact e.1
    · rintro ⟨rfl, -⟩
      have hk' : l.contains c' = false := hk
      rw [hc] at hk'; cases hk'⟩
theorem MsR.lv {lv' : Nat → Nat} {p c m : Nat} (h : MsR g p c m σ) (hl : ∀ s, g.lv s ≤ lv' s) : MsR (Gh.mk g.x g.a0 g.m g.D g.A g.N g.B g.Q g.L1 g.L2 g.L3 (lv')) p c m σ := by
  obtain ⟨k, s', l, it, t, T, a1, a2, a3, e1, e2, e3, e4, e5, e6, e7, e8⟩ := h
  exact ⟨k, s', l, it, t, T, a1, a2, a3, e1, e2, e3, e4, e5, e6, Nat.le_trans e7 (hl s'), e8⟩
theorem RA.lv {lv' : Nat → Nat} {p : Nat} (h : RA g p σ) (hl : ∀ s, g.lv s ≤ lv' s) : RA (Gh.mk g.x g.a0 g.m g.D g.A g.N g.B g.Q g.L1 g.L2 g.L3 (lv')) p σ :=
  ⟨fun ha => ⟨(h.1 ha).1, fun c m hc hm => ((h.1 ha).2.1 c m hc hm).lv hl, (h.1 ha).2.2⟩, h.2⟩
theorem RO.lv {lv' : Nat → Nat} {p : Nat} (h : RO g p σ) (hl : ∀ s, g.lv s ≤ lv' s) : RO (Gh.mk g.x g.a0 g.m g.D g.A g.N g.B g.Q g.L1 g.L2 g.L3 (lv')) p σ := by
  refine ⟨fun i m hi => ?_, h.2⟩
  obtain ⟨s, l, e1, e2, e3, e4, e5⟩ := h.1 i m hi
  exact ⟨s, l, e1, e2, e3, Nat.le_trans e4 (hl s), e5⟩
/-- born: what the model does once p is known to be dead -/
def brnS (σ : Sg) (m : Nat) (A : Nat → Nat) (p : Nat) : Sg :=
  let s0 := sI (sI (sI σ 500000 m 0 0) 510000 (A 0) p 1) 520000 (A 1) p (σ.1 520000 (A 1) p + 1)
  let s1 := itF (fun k τ => sI τ 530000 (A 2) (10 * p + k) 0) 10 0 s0
  let s2 := itF (fun k τ => sI (sI τ 550000 (A 4) (16 * p + k) 0) 560000 (A 5) (16 * p + k) 0) 16 0 s1
  let s3 := itF (fun k τ => sI τ 610000 (A 10) (64 * p + k) 0) 64 0 s2
  sI (sI (sI (sI (sI (sI (sI (sI (sI (sI (sI s3 570000 (A 6) p 0) 580000 (A 7) p 0) 720000 (A 21) p 0) 740000 (A 23) p 0) 770000 (A 26) p 0) 780000 (A 27) p 0) 810000 (A 30) (5 * p) 0) 810000 (A 30) (5 * p + 1) (-1)) 810000 (A 30) (5 * p + 2) (-1)) 810000 (A 30) (5 * p + 3) (-1)) 810000 (A 30) (5 * p + 4) 0
def KBn : List Nat := [500000, 20800, 20900, 510000, 520000, 530000, 550000, 560000, 570000, 580000, 610000, 720000, 740000, 770000, 780000, 810000]
theorem sumR_0 {f : Nat → Nat} : ∀ (k i : Nat), (∀ j, i ≤ j → j < i + k → f j = 0) → sumR f k i = 0
  | 0, _, _ => rfl
  | k + 1, i, h => by
    show f i + sumR f k (i + 1) = 0
    rw [h i (Nat.le_refl _) (by omega), sumR_0 k (i + 1) (fun j a b => h j (by omega) (by omega))]
theorem sim_born {p : Nat} (R : RR E g n σ) (hn : n ≤ 512) (hp : p < 4) (ha : ¬ al g σ p) :
    RR E (Gh.mk g.x g.a0 g.m g.D g.A g.N g.B g.Q g.L1 g.L2 g.L3 (upN g.lv p (g.lv p + 1))) (n + 1) (brnS (sI (sI σ 20800 (g.D p 0) 0 1) 20900 (g.D p 0) 0 (σ.1 20900 (g.D p 0) 0 + 1)) g.m g.A p) := by
  obtain ⟨p1, p2, p3, p4, p5⟩ := R.p p hp
  have hl : ∀ s, g.lv s ≤ upN g.lv p (g.lv p + 1) s := by
    intro s
    by_cases e : s = p
    · subst e; rw [upN_s]; omega
    · rw [upN_n e]; exact Nat.le_refl _
  have F : Fr (fun c => KBn.contains c) (fun _ => false) σ (brnS (sI (sI σ 20800 (g.D p 0) 0 1) 20900 (g.D p 0) 0 (σ.1 20900 (g.D p 0) 0 + 1)) g.m g.A p) := by
    unfold brnS
    simp only [fil_eq, fil2_eq (show (550000 : Nat) ≠ 560000 by decide)]
    repeat (first | exact Fr.refl | refine FrL.i ?_ (by decide) | refine FrL.f ?_ (by decide))
  have FP : ∀ q, q ≠ p → FrP g q (fun c => [500000].contains c) (fun _ => false) σ (brnS (sI (sI σ 20800 (g.D p 0) 0 1) 20900 (g.D p 0) 0 (σ.1 20900 (g.D p 0) 0 + 1)) g.m g.A p) := by
    intro q hq
    unfold brnS
    simp only [fil_eq, fil2_eq (show (550000 : Nat) ≠ 560000 by decide)]
    refine FrP.iw ?_ (Or.inr (niA (by decide) (show (5 * p + 4) / 5 = p by omega) hq))
    refine FrP.iw ?_ (Or.inr (niA (by decide) (show (5 * p + 3) / 5 = p by omega) hq))
    refine FrP.iw ?_ (Or.inr (niA (by decide) (show (5 * p + 2) / 5 = p by omega) hq))
    refine FrP.iw ?_ (Or.inr (niA (by decide) (show (5 * p + 1) / 5 = p by omega) hq))
    refine FrP.iw ?_ (Or.inr (niA (by decide) (show (5 * p) / 5 = p by omega) hq))
    refine FrP.iw ?_ (Or.inr (niA (by decide) (show p / 1 = p by omega) hq))
    refine FrP.iw ?_ (Or.inr (niA (by decide) (show p / 1 = p by omega) hq))
    refine FrP.iw ?_ (Or.inr (niA (by decide) (show p / 1 = p by omega) hq))
    refine FrP.iw ?_ (Or.inr (niA (by decide) (show p / 1 = p by omega) hq))
    refine FrP.iw ?_ (Or.inr (niA (by decide) (show p / 1 = p by omega) hq))
    refine FrP.iw ?_ (Or.inr (niA (by decide) (show p / 1 = p by omega) hq))
    refine FrP.fw ?_ (Or.inr (fun i h1 h2 => niA (by decide) (show i / 64 = p by omega) hq))
    refine FrP.fw ?_ (Or.inr (fun i h1 h2 => niA (by decide) (show i / 16 = p by omega) hq))
    refine FrP.fw ?_ (Or.inr (fun i h1 h2 => niA (by decide) (show i / 16 = p by omega) hq))
    refine FrP.fw ?_ (Or.inr (fun i h1 h2 => niA (by decide) (show i / 10 = p by omega) hq))
    refine FrP.iw ?_ (Or.inr (niA (by decide) (show p / 1 = p by omega) hq))
    refine FrP.iw ?_ (Or.inr (niA (by decide) (show p / 1 = p by omega) hq))
    refine FrP.iw ?_ (Or.inl (by decide))
    refine FrP.iw ?_ (Or.inr (niD (by decide) hp (by decide) hq))
    refine FrP.iw ?_ (Or.inr (niD (by decide) hp (by decide) hq))
    exact FrP.refl
  have hw' : WF (brnS (sI (sI σ 20800 (g.D p 0) 0 1) 20900 (g.D p 0) 0 (σ.1 20900 (g.D p 0) 0 + 1)) g.m g.A p) := by
    unfold brnS
    simp only [fil_eq, fil2_eq (show (550000 : Nat) ≠ 560000 by decide)]
    exact R.s.wf
  have r1 : (brnS (sI (sI σ 20800 (g.D p 0) 0 1) 20900 (g.D p 0) 0 (σ.1 20900 (g.D p 0) 0 + 1)) g.m g.A p).1 20800 (g.D p 0) 0 = 1 ∧ (brnS (sI (sI σ 20800 (g.D p 0) 0 1) 20900 (g.D p 0) 0 (σ.1 20900 (g.D p 0) 0 + 1)) g.m g.A p).1 20900 (g.D p 0) 0 = nI (g.lv p + 1) ∧ (brnS (sI (sI σ 20800 (g.D p 0) 0 1) 20900 (g.D p 0) 0 (σ.1 20900 (g.D p 0) 0 + 1)) g.m g.A p).1 510000 (g.A 0) p = 1 ∧ (brnS (sI (sI σ 20800 (g.D p 0) 0 1) 20900 (g.D p 0) 0 (σ.1 20900 (g.D p 0) 0 + 1)) g.m g.A p).1 520000 (g.A 1) p = nI (g.lv p + 1) := by
    unfold brnS
    simp only [fil_eq, fil2_eq (show (550000 : Nat) ≠ 560000 by decide)]
    refine ⟨by simp [sI, filS], ?_, by simp [sI, filS], ?_⟩
    · simp [sI, filS]; rw [p3, nI_1]
    · simp [sI, filS]; rw [p4, nI_1]
  have r2 : (∀ k, k < 10 → (brnS (sI (sI σ 20800 (g.D p 0) 0 1) 20900 (g.D p 0) 0 (σ.1 20900 (g.D p 0) 0 + 1)) g.m g.A p).1 530000 (g.A 2) (10 * p + k) = 0) ∧ (∀ k, k < 16 → (brnS (sI (sI σ 20800 (g.D p 0) 0 1) 20900 (g.D p 0) 0 (σ.1 20900 (g.D p 0) 0 + 1)) g.m g.A p).1 550000 (g.A 4) (16 * p + k) = 0 ∧ (brnS (sI (sI σ 20800 (g.D p 0) 0 1) 20900 (g.D p 0) 0 (σ.1 20900 (g.D p 0) 0 + 1)) g.m g.A p).1 560000 (g.A 5) (16 * p + k) = 0) ∧ (∀ b, 64 * p ≤ b → b < 64 * p + 64 → (brnS (sI (sI σ 20800 (g.D p 0) 0 1) 20900 (g.D p 0) 0 (σ.1 20900 (g.D p 0) 0 + 1)) g.m g.A p).1 610000 (g.A 10) b = 0) := by
    unfold brnS
    simp only [fil_eq, fil2_eq (show (550000 : Nat) ≠ 560000 by decide)]
    refine ⟨fun k hk => ?_, fun k hk => ⟨?_, ?_⟩, fun b h1 h2 => ?_⟩
    · simp [sI, filS]; intro h; omega
    · simp [sI, filS]; intro h; omega
    · simp [sI, filS]; intro h; omega
    · simp [sI, filS]; intro h; omega
  have r3 : (brnS (sI (sI σ 20800 (g.D p 0) 0 1) 20900 (g.D p 0) 0 (σ.1 20900 (g.D p 0) 0 + 1)) g.m g.A p).1 570000 (g.A 6) p = 0 ∧ (brnS (sI (sI σ 20800 (g.D p 0) 0 1) 20900 (g.D p 0) 0 (σ.1 20900 (g.D p 0) 0 + 1)) g.m g.A p).1 580000 (g.A 7) p = 0 ∧ (brnS (sI (sI σ 20800 (g.D p 0) 0 1) 20900 (g.D p 0) 0 (σ.1 20900 (g.D p 0) 0 + 1)) g.m g.A p).1 720000 (g.A 21) p = 0 ∧ (brnS (sI (sI σ 20800 (g.D p 0) 0 1) 20900 (g.D p 0) 0 (σ.1 20900 (g.D p 0) 0 + 1)) g.m g.A p).1 740000 (g.A 23) p = 0 ∧ (brnS (sI (sI σ 20800 (g.D p 0) 0 1) 20900 (g.D p 0) 0 (σ.1 20900 (g.D p 0) 0 + 1)) g.m g.A p).1 770000 (g.A 26) p = 0 ∧ (brnS (sI (sI σ 20800 (g.D p 0) 0 1) 20900 (g.D p 0) 0 (σ.1 20900 (g.D p 0) 0 + 1)) g.m g.A p).1 780000 (g.A 27) p = 0 ∧ (∀ j, j < 5 → (brnS (sI (sI σ 20800 (g.D p 0) 0 1) 20900 (g.D p 0) 0 (σ.1 20900 (g.D p 0) 0 + 1)) g.m g.A p).1 810000 (g.A 30) (5 * p + j) = ltF σ none j) := by
    unfold brnS
    simp only [fil_eq, fil2_eq (show (550000 : Nat) ≠ 560000 by decide)]
    refine ⟨by simp [sI, filS], by simp [sI, filS], by simp [sI, filS], by simp [sI, filS], by simp [sI, filS], by simp [sI, filS], fun j hj => ?_⟩
    have : j = 0 ∨ j = 1 ∨ j = 2 ∨ j = 3 ∨ j = 4 := by omega
    rcases this with rfl | rfl | rfl | rfl | rfl <;> simp [sI, ltF]
  generalize brnS (sI (sI σ 20800 (g.D p 0) 0 1) 20900 (g.D p 0) 0 (σ.1 20900 (g.D p 0) 0 + 1)) g.m g.A p = σ2 at *
  have hfe' := F.f0 (fun _ => rfl) R.s.f0
  have ea : ∀ q, q ≠ p → (al g σ2 q ↔ al g σ q) := fun q hq => al.frp R.s (FP q hq) (by decide)
  have hap : al g σ2 p := r1.2.2.1
  have bB := RBn.of R.a
  have dB := (R.a p hp).2 ha
  have L1 := (R.i p hp).2.2.2.1 ha
  have L2 := (R.o p hp).2.2.2 ha
  have L3 := (R.v p hp).2 ha
  have sD : ∀ {j c i}, j < 15 → c < 500000 → c ≠ 20800 → c ≠ 20900 → σ2.1 c (g.D p j) i = σ.1 c (g.D p j) i ∧ σ2.2.1 c (g.D p j) i = σ.2.1 c (g.D p j) i := by
    intro j c i hj hc h1 h2
    refine F.2.2 c _ i (R.s.kD hp hj) ?_
    have : ∀ x ∈ KBn, x = 20800 ∨ x = 20900 ∨ 500000 ≤ x := by decide
    cases e : KBn.contains c with
    | false => exact e
    | true =>
      rcases this c (List.contains_iff_mem.mp e) with z | z | z
      · exact absurd z h1
      · exact absurd z h2
      · omega
  have s' : RS E (Gh.mk g.x g.a0 g.m g.D g.A g.N g.B g.Q g.L1 g.L2 g.L3 (upN g.lv p (g.lv p + 1))) σ2 := by
    have := R.s.fr0 F hw' hfe' (by decide) (by decide) (by decide) (by decide)
    exact RS.mk
            (wf := this.wf)
            (mo := this.mo)
            (sh := this.sh)
            (dj := this.dj)
            (x1 := this.x1)
            (x2 := this.x2)
            (x3 := this.x3)
            (nm := this.nm)
            (l1 := this.l1)
            (l2 := this.l2)
            (l3 := this.l3)
  have p' : RP (Gh.mk g.x g.a0 g.m g.D g.A g.N g.B g.Q g.L1 g.L2 g.L3 (upN g.lv p (g.lv p + 1))) (n + 1) σ2 := by
    intro q hq
    by_cases e : q = p
    · subst e
      show σ2.1 20800 (g.D q 0) 0 = σ2.1 510000 (g.A 0) q ∧ (σ2.1 510000 (g.A 0) q = 0 ∨ σ2.1 510000 (g.A 0) q = 1) ∧ σ2.1 20900 (g.D q 0) 0 = nI (upN g.lv q (g.lv q + 1) q) ∧ σ2.1 520000 (g.A 1) q = nI (upN g.lv q (g.lv q + 1) q) ∧ upN g.lv q (g.lv q + 1) q ≤ n + 1
      rw [upN_s, r1.1, r1.2.1, r1.2.2.1, r1.2.2.2]
      exact ⟨rfl, Or.inr rfl, rfl, rfl, by omega⟩
    · have G := FP q e
      show σ2.1 20800 (g.D q 0) 0 = σ2.1 510000 (g.A 0) q ∧ (σ2.1 510000 (g.A 0) q = 0 ∨ σ2.1 510000 (g.A 0) q = 1) ∧ σ2.1 20900 (g.D q 0) 0 = nI (upN g.lv p (g.lv p + 1) q) ∧ σ2.1 520000 (g.A 1) q = nI (upN g.lv p (g.lv p + 1) q) ∧ upN g.lv p (g.lv p + 1) q ≤ n + 1
      rw [upN_n e, (G.d R.s hq (by decide) (by decide) (by decide)).1, (G.d R.s hq (by decide) (by decide) (by decide)).1, G.a R.s (by decide) (by decide) (by decide) (by show q / 1 = q; omega), G.a R.s (by decide) (by decide) (by decide) (by show q / 1 = q; omega)]
      obtain ⟨q1, q2, q3, q4, q5⟩ := R.p q hq
      exact ⟨q1, q2, q3, q4, by omega⟩
  have F3 : ∀ {a}, σ2.2.2.2 a = 3 → σ.2.2.2 a = 3 := by
    intro a h
    by_cases z : σ.2.2.2 a = 0
    · have := F.2.1 a z (by rw [h]; decide)
      cases this
    · rw [← F.1 a z]; exact h
  have O : ∀ {x k c i}, σ.2.2.2 x = k → okK k = true → c < 500000 → c ≠ 20800 → c ≠ 20900 → σ2.1 c x i = σ.1 c x i ∧ σ2.2.1 c x i = σ.2.1 c x i := by
    intro x k c i hx ho hc h1 h2
    have z : σ.2.2.2 x ≠ 0 := by
      rw [hx]; intro e; rw [e] at ho; revert ho; decide
    refine F.2.2 c _ i z ?_
    have : ∀ x ∈ KBn, x = 20800 ∨ x = 20900 ∨ 500000 ≤ x := by decide
    cases e : KBn.contains c with
    | false => exact e
    | true =>
      rcases this c (List.contains_iff_mem.mp e) with z | z | z
      · exact absurd z h1
      · exact absurd z h2
      · omega
  have no' : RNo (Gh.mk g.x g.a0 g.m g.D g.A g.N g.B g.Q g.L1 g.L2 g.L3 (upN g.lv p (g.lv p + 1))) σ2 := by
    obtain ⟨h1, h2, h3⟩ := R.no
    refine ⟨fun a h => ?_, fun a b x y => h2 a b (F3 x) (F3 y), fun q k hq hk => ?_⟩
    · have a3 := F3 h
      obtain ⟨w, o, k, e1, e2, e3, e4, e5, e6, e7⟩ := h1 a a3
      refine ⟨w, o, k, e1, e2, e3, Nat.le_trans e4 (hl o), by rw [(O a3 (by decide) (by decide) (by decide) (by decide)).1]; exact e5, by rw [(O a3 (by decide) (by decide) (by decide) (by decide)).1]; exact e6, ?_⟩
      show (σ2.1 30200 a 0 = 0 ∧ w = upN g.lv p (g.lv p + 1) o ∧ al g σ2 o ∧ σ2.2.1 110003 (g.D o 1) k = some a) ∨ (σ2.1 30200 a 0 = 1 ∧ ¬ (w = upN g.lv p (g.lv p + 1) o ∧ al g σ2 o))
      rw [(O a3 (by decide) (by decide) (by decide) (by decide)).1]
      by_cases e : o = p
      · subst e
        rcases e7 with ⟨-, -, f3, -⟩ | ⟨f1, -⟩
        · exact absurd f3 ha
        · exact Or.inr ⟨f1, fun z => by rw [upN_s] at z; omega⟩
      · rw [upN_n e, ea o e, ((FP o e).d R.s e2 (by decide) (by decide) (by decide)).2]; exact e7
    · show (σ2.2.1 110003 (g.D q 1) k = none ∧ (al g σ2 q → σ2.1 530000 (g.A 2) (10 * q + k) = 0)) ∨ ∃ a, σ2.2.1 110003 (g.D q 1) k = some a ∧ σ2.1 530000 (g.A 2) (10 * q + k) = 1 ∧ g.N a = 40 * upN g.lv p (g.lv p + 1) q + 10 * q + k ∧ al g σ2 q ∧ σ2.1 30200 a 0 = 0
      by_cases e : q = p
      · subst e
        rcases h3 q k hq hk with ⟨z1, z2⟩ | ⟨a, -, -, -, z4, -⟩
        · exact Or.inl ⟨by rw [(sD (by decide) (by decide) (by decide) (by decide)).2]; exact z1, fun _ => r2.1 k hk⟩
        · exact absurd z4 ha
      · rw [upN_n e, ea q e, ((FP q e).d R.s hq (by decide) (by decide) (by decide)).2, (FP q e).a R.s (by decide) (by decide) (by decide) (by show (10 * q + k) / 10 = q; omega)]
        rcases h3 q k hq hk with z | ⟨a, z1, z2, z3, z4, z5⟩
        · exact Or.inl z
        · exact Or.inr ⟨a, z1, z2, z3, z4, by rw [(O (R.s.wf _ _ _ _ z1 (by decide)) (by decide) (by decide) (by decide) (by decide)).1]; exact z5⟩
  have h' : ∀ q, q < 4 → RH (Gh.mk g.x g.a0 g.m g.D g.A g.N g.B g.Q g.L1 g.L2 g.L3 (upN g.lv p (g.lv p + 1))) (n + 1) q σ2 := by
    intro q hq
    by_cases e : q = p
    · subst e
      have H : HandR q (σ2.2.1 120003 (g.D q 3)) (σ2.1 130000 (g.D q 4)) (σ2.1 140000 (g.D q 5)) g.N (σ2.1 540000 (g.A 3)) (σ2.1 550000 (g.A 4)) (σ2.1 560000 (g.A 5)) (4 * (n + 1)) := by
        obtain ⟨d1, -⟩ := (R.h q hq).2 ha
        refine ⟨fun h h1 h2 => ?_, fun h h' a h1 h2 h3 h4 h5 h6 => ?_⟩
        · obtain ⟨e1, e2, e3⟩ := d1 h h1 h2
          rw [(sD (by decide) (by decide) (by decide) (by decide)).1, (sD (by decide) (by decide) (by decide) (by decide)).1, (sD (by decide) (by decide) (by decide) (by decide)).2, e1, e2, e3, (r2.2.1 h (by omega)).1, (r2.2.1 h (by omega)).2]
          exact ⟨rfl, rfl, 0, 0, rfl, rfl, by omega, by omega, Or.inl ⟨rfl, rfl, rfl⟩⟩
        · rw [(sD (by decide) (by decide) (by decide) (by decide)).2, (d1 h h1 h2).1] at h5; cases h5
      refine ⟨fun _ => ⟨H, ?_⟩, fun z => absurd hap z⟩
      show σ2.1 80300 (g.D q 2) 0 = itF (hdsF (σ2.1 550000 (g.A 4)) (σ2.1 560000 (g.A 5)) q) 15 1 0
      rw [H.cnt (by omega), sumR_0 15 1 (fun j h1 h2 => by
        unfold hcnt
        rw [(sD (by decide) (by decide) (by decide) (by decide)).2, (((R.h q hq).2 ha).1 j h1 (by omega)).1]), (sD (by decide) (by decide) (by decide) (by decide)).1, ((R.h q hq).2 ha).2]
      rfl
    · exact ((R.h q hq).fr hq R.s (FP q e) (by decide)).mono (by omega)
  have d' : ∀ q, q < 4 → RD (Gh.mk g.x g.a0 g.m g.D g.A g.N g.B g.Q g.L1 g.L2 g.L3 (upN g.lv p (g.lv p + 1))) q σ2 := by
    intro q hq
    by_cases e : q = p
    · subst e
      obtain ⟨k, z, -, -, -, -, -, a6⟩ := R.d q hq
      refine ⟨0, 0, by omega, by omega, r3.1, r3.2.1, fun _ => ⟨?_, ?_, fun i hi => by omega⟩, fun z => absurd hap z⟩
      · show σ2.1 40300 (g.D q 8) 0 = _
        rw [(sD (by decide) (by decide) (by decide) (by decide)).1, (a6 ha).1]; rfl
      · show σ2.1 40400 (g.D q 8) 0 = _
        rw [(sD (by decide) (by decide) (by decide) (by decide)).1, (a6 ha).2]; rfl
    · exact (show RD g q σ2 from (R.d q hq).fr hq R.s (FP q e) (by decide))
  have cz : ∀ w, itF (celsF (σ2.1 610000 (g.A 10)) (σ2.1 630000 (g.A 12)) (σ2.1 640000 (g.A 13)) w) 64 (64 * p) 0 = 0 := fun w =>
    itF_ind (f := celsF (σ2.1 610000 (g.A 10)) (σ2.1 630000 (g.A 12)) (σ2.1 640000 (g.A 13)) w) (fun _ v => v = 0) 64 (64 * p) 0 rfl (fun j v h1 h2 hv => by
      unfold celsF
      rw [r2.2.2 j h1 h2, if_pos (by decide), hv]; rfl)
  have a' : ∀ q, q < 4 → RA (Gh.mk g.x g.a0 g.m g.D g.A g.N g.B g.Q g.L1 g.L2 g.L3 (upN g.lv p (g.lv p + 1))) q σ2 := by
    intro q hq
    by_cases e : q = p
    · subst e
      have bz : ∀ c, c < 64 → σ2.2.1 150006 (g.D q 7) c = none := fun c hc => by
        rw [(sD (by decide) (by decide) (by decide) (by decide)).2]; exact dB.1 c hc
      refine ⟨fun _ => ⟨⟨fun c m hc hm => ?_, fun b b1 b2 b3 => ?_⟩, fun c m hc hm => ?_, ?_, 0, by omega, ?_, cz 1⟩, fun z => absurd hap z⟩
      · have : σ2.2.1 150006 (g.D q 7) c = some m := hm
        rw [bz c hc] at this; cases this
      · exact absurd (by show σ2.1 610000 (g.A 10) b ≤ 0; rw [r2.2.2 b b1 b2]; decide) b3
      · have : σ2.2.1 150006 (g.D q 7) c = some m := hm
        rw [bz c hc] at this; cases this
      · show σ2.1 90100 (g.D q 6) 0 = _
        rw [(sD (by decide) (by decide) (by decide) (by decide)).1, dB.2.1]; exact (cz 0).symm
      · show σ2.1 90200 (g.D q 6) 0 = _
        rw [(sD (by decide) (by decide) (by decide) (by decide)).1, dB.2.2]; rfl
    · exact ((R.a q hq).fr hq R.s (FP q e) (by decide) (by decide)).lv hl
  have i' : ∀ q, q < 4 → RI (Gh.mk g.x g.a0 g.m g.D g.A g.N g.B g.Q g.L1 g.L2 g.L3 (upN g.lv p (g.lv p + 1))) q σ2 := by
    intro q hq
    by_cases e : q = p
    · subst e
      refine ⟨fun i w hi => ?_, fun i i' w w' m hi => ?_, ?_, fun _ => L1, ?_⟩
      · have : (g.L1 q)[i]? = some w := hi
        rw [L1] at this; cases this
      · have : (g.L1 q)[i]? = some w := hi
        rw [L1] at this; cases this
      · show σ2.1 720000 (g.A 21) q = nI (g.L1 q).length
        rw [L1, r3.2.2.1]; rfl
      · show (g.L1 q).length ≤ 64
        rw [L1]; decide
    · exact (show RI g q σ2 from (R.i q hq).fr hq R.s (fun c m h1 h2 _ => bB q c m hq h1 h2) (FP q e) (by decide))
  have o' : ∀ q, q < 4 → RO (Gh.mk g.x g.a0 g.m g.D g.A g.N g.B g.Q g.L1 g.L2 g.L3 (upN g.lv p (g.lv p + 1))) q σ2 := by
    intro q hq
    by_cases e : q = p
    · subst e
      refine ⟨fun i w hi => ?_, ?_, ?_, fun _ => L2⟩
      · have : (g.L2 q)[i]? = some w := hi
        rw [L2] at this; cases this
      · show σ2.1 740000 (g.A 23) q = nI (g.L2 q).length
        rw [L2, r3.2.2.2.1]; rfl
      · show (g.L2 q).length ≤ 12
        rw [L2]; decide
    · exact ((R.o q hq).fr hq R.s (FP q e) (by decide)).lv hl
  have v' : ∀ q, q < 4 → RV (Gh.mk g.x g.a0 g.m g.D g.A g.N g.B g.Q g.L1 g.L2 g.L3 (upN g.lv p (g.lv p + 1))) q σ2 := by
    intro q hq
    by_cases e : q = p
    · subst e
      refine ⟨fun _ => ⟨fun i w hi => ?_, ?_, ?_⟩, fun z => absurd hap z⟩
      · have : (g.L3 q)[i]? = some w := hi
        rw [L3] at this; cases this
      · show σ2.1 780000 (g.A 27) q = nI (g.L3 q).length
        rw [L3, r3.2.2.2.2.2.1]; rfl
      · show (g.L3 q).length ≤ 8
        rw [L3]; decide
    · exact (show RV g q σ2 from (R.v q hq).fr hq R.s (FP q e) (by decide))
  have l' : ∀ q, q < 4 → RL (Gh.mk g.x g.a0 g.m g.D g.A g.N g.B g.Q g.L1 g.L2 g.L3 (upN g.lv p (g.lv p + 1))) q σ2 := by
    intro q hq
    by_cases e : q = p
    · subst e
      refine ⟨fun _ => ⟨fun j hj => ?_, ?_, ?_⟩, fun z => absurd hap z⟩
      · show σ2.1 810000 (g.A 30) (5 * q + j) = ltF σ2 (σ2.2.1 21105 (g.D q 0) 0) j
        rw [(sD (by decide) (by decide) (by decide) (by decide)).2, ((R.l q hq).2 ha).1, r3.2.2.2.2.2.2 j hj]; rfl
      · show σ2.1 21000 (g.D q 0) 0 = σ2.1 770000 (g.A 26) q
        rw [(sD (by decide) (by decide) (by decide) (by decide)).1, ((R.l q hq).2 ha).2, r3.2.2.2.2.1]
      · exact Or.inl r3.2.2.2.2.1
    · exact (show RL g q σ2 from (R.l q hq).fr hq R.s (FP q e) (by decide) (by decide))
  have q' : RQ (Gh.mk g.x g.a0 g.m g.D g.A g.N g.B g.Q g.L1 g.L2 g.L3 (upN g.lv p (g.lv p + 1))) σ2 := by
    refine ⟨fun a o h hd ho hw => ?_, fun q c m hq hal hc hm hs => ?_⟩
    · have a3 := F3 h
      rw [(O a3 (by decide) (by decide) (by decide) (by decide)).1] at hd hw
      have hop : o ≠ p := by
        rintro rfl
        obtain ⟨w, o1, k, e1, e2, e3, e4, e5, e6, e7⟩ := R.no.1 a a3
        have : o1 = o := (nI_eq (by omega) (by omega)).mp (e5.symm.trans hw)
        subst this
        rcases e7 with ⟨-, -, f3, -⟩ | ⟨f1, -⟩
        · exact ha f3
        · rw [hd] at f1; exact absurd f1 (by decide)
      exact (show RQa g o a σ2 from (R.q.1 a o a3 hd ho hw).fr a3 ho R.s (fun c m => bB o c m ho) (FP o hop) (by decide))
    · have hm1 : σ2.2.1 150006 (g.D q 7) c = some m := hm
      have hs1 : σ2.1 610000 (g.A 10) (g.B m) = 1 := hs
      by_cases e : q = p
      · subst e
        rw [(sD (by decide) (by decide) (by decide) (by decide)).2, dB.1 c hc] at hm1; cases hm1
      · have hm2 := hm1
        rw [((FP q e).d R.s hq (by decide) (by decide) (by decide)).2] at hm2
        have := bB q c m hq hc hm2
        rw [(FP q e).a R.s (by decide) (by decide) (by decide) (by show g.B m / 64 = q; omega)] at hs1
        rw [(O (R.s.wf _ _ _ _ hm2 (by decide)) (by decide) (by decide) (by decide) (by decide)).1]
        exact R.q.2 q c m hq ((ea q e).mp hal) hc hm2 hs1
  have c' : RC (Gh.mk g.x g.a0 g.m g.D g.A g.N g.B g.Q g.L1 g.L2 g.L3 (upN g.lv p (g.lv p + 1))) σ2 := by
    intro q hq hal
    by_cases e : q = p
    · subst e
      refine Nat.le_trans (Nat.le_of_eq ?_) (Nat.zero_le _)
      have zM : ∀ r, r < 4 → (g.L2 r).countP (oM σ2 q (g.lv q + 1)) = 0 := by
        intro r hr
        rw [List.countP_eq_zero]
        intro m hm hz
        obtain ⟨i, hi⟩ := List.getElem?_of_mem hm
        obtain ⟨s, l, e1, e2, e3, e4, -⟩ := (R.o r hr).1 i m hi
        have hm6 := R.s.k2 hr hi
        unfold oM at hz
        rw [(O hm6 (by decide) (by decide) (by decide) (by decide)).1, (O hm6 (by decide) (by decide) (by decide) (by decide)).1, e1, e3] at hz
        simp only [Bool.and_eq_true, beq_iff_eq] at hz
        have := (R.p s e2).2.2.2.2
        have z1 := (nI_eq (by omega) (by omega)).mp hz.1
        have z2 := (nI_eq (by omega) (by omega)).mp hz.2
        subst z1; omega
      have zW : ∀ r, r < 4 → (g.L1 r).countP (oW σ2 q (g.lv q + 1)) = 0 := by
        intro r hr
        rw [List.countP_eq_zero]
        intro w hw hz
        obtain ⟨i, hi⟩ := List.getElem?_of_mem hw
        have hw5 := R.s.k1 hr hi
        have har : al g σ r := by
          by_cases z : al g σ r
          · exact z
          · rw [(R.i r hr).2.2.2.1 z] at hi; cases hi
        unfold oW at hz
        rw [(O hw5 (by decide) (by decide) (by decide) (by decide)).2] at hz
        rcases ((R.i r hr).1 i w hi).2.2 with ⟨z, -⟩ | ⟨m, c, r1, r2, r3, -⟩
        · rw [z] at hz; simp at hz
        · rw [r1] at hz
          obtain ⟨k, s, l, it, t, T, a1, a2, a3, e1, e2, e3, e4, e5, e6, e7, -⟩ := ((R.a r hr).1 har).2.1 c m r2 r3
          have hm6 := R.s.wf _ _ _ _ r1 (by decide)
          simp only [Bool.and_eq_true] at hz
          have hz := hz.2
          unfold oM at hz
          rw [(O hm6 (by decide) (by decide) (by decide) (by decide)).1, (O hm6 (by decide) (by decide) (by decide) (by decide)).1, e4, e6] at hz
          simp only [Bool.and_eq_true, beq_iff_eq] at hz
          have := (R.p s e5).2.2.2.2
          have z1 := (nI_eq (by omega) (by omega)).mp hz.1
          have z2 := (nI_eq (by omega) (by omega)).mp hz.2
          subst z1; omega
      show outN (Gh.mk g.x g.a0 g.m g.D g.A g.N g.B g.Q g.L1 g.L2 g.L3 (upN g.lv q (g.lv q + 1))) σ2 q = 0
      unfold outN outP
      show (g.L1 0).countP (oW σ2 q (upN g.lv q (g.lv q + 1) q)) + (g.L2 0).countP (oM σ2 q (upN g.lv q (g.lv q + 1) q)) + ((g.L1 1).countP (oW σ2 q (upN g.lv q (g.lv q + 1) q)) + (g.L2 1).countP (oM σ2 q (upN g.lv q (g.lv q + 1) q))) + ((g.L1 2).countP (oW σ2 q (upN g.lv q (g.lv q + 1) q)) + (g.L2 2).countP (oM σ2 q (upN g.lv q (g.lv q + 1) q))) + ((g.L1 3).countP (oW σ2 q (upN g.lv q (g.lv q + 1) q)) + (g.L2 3).countP (oM σ2 q (upN g.lv q (g.lv q + 1) q))) + (g.L1 q).countP (rW σ2) = 0
      rw [upN_s, zM 0 (by decide), zM 1 (by decide), zM 2 (by decide), zM 3 (by decide), zW 0 (by decide), zW 1 (by decide), zW 2 (by decide), zW 3 (by decide), L1]; rfl
    · have h1 := R.c q hq ((ea q e).mp hal)
      show outN (Gh.mk g.x g.a0 g.m g.D g.A g.N g.B g.Q g.L1 g.L2 g.L3 (upN g.lv p (g.lv p + 1))) σ2 q ≤ if σ2.1 770000 (g.A 26) q = 0 then 0 else 1
      rw [(FP q e).a R.s (by decide) (by decide) (by decide) (by show q / 1 = q; omega)]
      have h2 : outN (Gh.mk g.x g.a0 g.m g.D g.A g.N g.B g.Q g.L1 g.L2 g.L3 (upN g.lv p (g.lv p + 1))) σ2 q = outN g σ2 q := by
        have h3 : ∀ p', outP (Gh.mk g.x g.a0 g.m g.D g.A g.N g.B g.Q g.L1 g.L2 g.L3 (upN g.lv p (g.lv p + 1))) σ2 q p' = outP g σ2 q p' := fun p' => by
          unfold outP
          show (g.L1 p').countP (oW σ2 q (upN g.lv p (g.lv p + 1) q)) + (g.L2 p').countP (oM σ2 q (upN g.lv p (g.lv p + 1) q)) = (g.L1 p').countP (oW σ2 q (g.lv q)) + (g.L2 p').countP (oM σ2 q (g.lv q))
          rw [upN_n e]
        unfold outN
        rw [h3 0, h3 1, h3 2, h3 3]; try rfl
      rw [h2, outN.fr R.s (FP q e) (by decide) hq]; exact h1
  have b' : RB (Gh.mk g.x g.a0 g.m g.D g.A g.N g.B g.Q g.L1 g.L2 g.L3 (upN g.lv p (g.lv p + 1))) σ2 := by
    intro q hq hal
    by_cases e : q = p
    · subst e
      show (g.L1 q).countP _ + (g.L3 q).length ≤ 24 + (g.L1 q).countP _
      rw [L1, L3]; exact Nat.zero_le _
    · exact RB.frp (g := g) hq (R.b q hq ((ea q e).mp hal)) R.s (FP q e) (by decide)
  exact RR.mk
          (s := s')
          (p := p')
          (no := no')
          (mg := R.mg.fr R.s F (by decide))
          (h := h')
          (d := d')
          (a := a')
          (i := i')
          (o := o')
          (v := v')
          (l := l')
          (q := q')
          (c := c')
          (b := b')
          (t := by obtain ⟨T9, t1, t2⟩ := R.t; exact ⟨T9, by show σ2.1 502300 g.m 0 = _; rw [(F.2.2 _ _ _ R.s.km (by decide)).1]; exact t1, by omega⟩)
end FRM
