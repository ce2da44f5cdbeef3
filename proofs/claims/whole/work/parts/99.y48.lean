/-! die: all that the class has done -/
section DIX
variable {E : FE} {g : Gh} {σ σ1 s a b c' : Sg} {K J : Nat → Bool} {p : Nat} {Z : Nat → Nat → Nat → Prop}
def FrZ (Z : Nat → Nat → Nat → Prop) (K J : Nat → Bool) (σ σ' : Sg) : Prop := (∀ x, σ.2.2.2 x ≠ 0 → σ'.2.2.2 x = σ.2.2.2 x) ∧ (∀ x, σ.2.2.2 x = 0 → σ'.2.2.2 x ≠ 0 → J (σ'.2.2.2 x) = true) ∧ (∀ c x i, σ.2.2.2 x ≠ 0 → K c = false → Z c x i → σ'.1 c x i = σ.1 c x i ∧ σ'.2.1 c x i = σ.2.1 c x i)
theorem FrZ.refl : FrZ Z K J σ σ := ⟨fun _ _ => rfl, fun _ h h2 => absurd h h2, fun _ _ _ _ _ _ => ⟨rfl, rfl⟩⟩
theorem FrZ.iw {c x i : Nat} {v : Int32} (h : FrZ Z K J a b) (hc : K c = true ∨ ¬ Z c x i) : FrZ Z K J a (sI b c x i v) :=
  ⟨h.1, h.2.1, fun c' x' i' hx hk hz => by
    have h1 := h.2.2 c' x' i' hx hk hz
    refine ⟨?_, h1.2⟩
    rw [← h1.1]
    show (if c' = c ∧ x' = x ∧ i' = i then v else b.1 c' x' i') = _
    rw [if_neg]
    rintro ⟨rfl, rfl, rfl⟩
    rcases hc with hc | hc
    · rw [hc] at hk; cases hk
    · exact hc hz⟩
theorem FrZ.ow {c x i : Nat} {v : Option Nat} (h : FrZ Z K J a b) (hc : K c = true ∨ ¬ Z c x i) : FrZ Z K J a (sO b c x i v) :=
  ⟨h.1, h.2.1, fun c' x' i' hx hk hz => by
    have h1 := h.2.2 c' x' i' hx hk hz
    refine ⟨h1.1, ?_⟩
    rw [← h1.2]
    show (if c' = c ∧ x' = x ∧ i' = i then v else b.2.1 c' x' i') = _
    rw [if_neg]
    rintro ⟨rfl, rfl, rfl⟩
    rcases hc with hc | hc
    · rw [hc] at hk; cases hk
    · exact hc hz⟩
theorem FrZ.tr {K' J' : Nat → Bool} (h : FrZ Z K J a b) (F : Fr K' J' b c') (hK : ∀ c, K c = false → K' c = false) (hJ : ∀ j, J' j = true → J j = true) : FrZ Z K J a c' := by
  refine ⟨fun x hx => ?_, fun x hx hx2 => ?_, fun c x i hx hk hz => ?_⟩
  · have e := h.1 x hx
    rw [F.1 x (by rw [e]; exact hx), e]
  · by_cases z : b.2.2.2 x = 0
    · exact hJ _ (F.2.1 x z hx2)
    · rw [F.1 x z]; exact h.2.1 x hx z
  · have e := h.1 x hx
    have q1 := h.2.2 c x i hx hk hz
    have q2 := F.2.2 c x i (by rw [e]; exact hx) (hK c hk)
    exact ⟨q2.1.trans q1.1, q2.2.trans q1.2⟩
theorem FrZ.fr (h : FrZ (fun _ _ _ => True) K J a b) : Fr K J a b := ⟨h.1, h.2.1, fun c x i h1 h2 => h.2.2 c x i h1 h2 trivial⟩
def emc : List Nat := [120003, 130000, 140000, 80300, 150006, 90100, 90200, 40400, 40300, 21000, 21105]
def lsc : Nat → Bool := fun c => c / 10000 == 20 || c / 10000 == 41 || c / 10000 == 21 || c / 10000 == 42 || c / 10000 == 22 || c / 10000 == 43
def JDi : Nat → Bool := fun j => j == 5 || j == 41 || j == 42 || j == 43
theorem emC_fz {D : Nat → Nat → Nat} (h : FrZ Z K J a s) (hK : ∀ c j i, c ∈ emc → j < 15 → K c = true ∨ ¬ Z c (D p j) i) : FrZ Z K J a (emC s D p) := by
  have h1 : FrZ Z K J a (itF (hseF (D p 3) (D p 4) (D p 5)) 15 1 s) := itF_ind (f := hseF (D p 3) (D p 4) (D p 5)) (fun _ τ => FrZ Z K J a τ) 15 1 s h (fun j τ _ _ hτ => by
    unfold hseF
    exact ((hτ.ow (hK _ 3 _ (by decide) (by decide))).iw (hK _ 4 _ (by decide) (by decide))).iw (hK _ 5 _ (by decide) (by decide)))
  have h2 : FrZ Z K J a (emA s D p) := h1.iw (hK _ 2 _ (by decide) (by decide))
  have h3 : FrZ Z K J a (itF (areF (D p 7)) 64 0 (emA s D p)) := itF_ind (f := areF (D p 7)) (fun _ τ => FrZ Z K J a τ) 64 0 (emA s D p) h2 (fun j τ _ _ hτ => hτ.ow (hK _ 7 _ (by decide) (by decide)))
  exact ((((h3.iw (hK _ 6 _ (by decide) (by decide))).iw (hK _ 6 _ (by decide) (by decide))).iw (hK _ 8 _ (by decide) (by decide))).iw (hK _ 8 _ (by decide) (by decide)))
theorem lsc_k {k ka : Nat} (h : (k = 20 ∧ ka = 41) ∨ (k = 21 ∧ ka = 42) ∨ (k = 22 ∧ ka = 43)) (c : Nat) (hc : lsc c = false) : (c / 10000 == k || c / 10000 == ka) = false := by
  unfold lsc at hc
  simp only [Bool.or_eq_false_iff, beq_eq_false_iff_ne] at hc ⊢
  omega
theorem JDi_k {k : Nat} (h : k = 41 ∨ k = 42 ∨ k = 43) (j : Nat) (hj : (j == k) = true) : JDi j = true := by
  unfold JDi
  simp only [Bool.or_eq_true, beq_iff_eq] at hj ⊢
  omega
theorem emp_fz {D : Nat → Nat → Nat} {L1 L2 L3 : Nat → List Nat} {AR1 AR2 AR3 : Nat → Nat} {sb : Sg} (h : FrZ Z K J a s) (he : empP E D p L1 L2 L3 AR1 AR2 AR3 s sb) (hK : ∀ c j i, c ∈ emc → j < 15 → K c = true ∨ ¬ Z c (D p j) i) (hl : ∀ c, K c = false → lsc c = false) (hJ : ∀ j, JDi j = true → J j = true) : FrZ Z K J a sb := by
  obtain ⟨s1, s2, s3, e1, e2, e3, -, rfl⟩ := he
  have h1 := emC_fz h hK
  have h2 := h1.tr (Fr.k e1) (fun c hc => lsc_k (Or.inl ⟨rfl, rfl⟩) c (hl c hc)) (fun j hj => hJ j (JDi_k (Or.inl rfl) j hj))
  have h3 := h2.tr (Fr.k e2) (fun c hc => lsc_k (Or.inr (Or.inl ⟨rfl, rfl⟩)) c (hl c hc)) (fun j hj => hJ j (JDi_k (Or.inr (Or.inl rfl)) j hj))
  have h4 := h3.tr (Fr.k e3) (fun c hc => lsc_k (Or.inr (Or.inr ⟨rfl, rfl⟩)) c (hl c hc)) (fun j hj => hJ j (JDi_k (Or.inr (Or.inr rfl)) j hj))
  exact (h4.iw (hK _ 0 _ (by decide) (by decide))).ow (hK _ 0 _ (by decide) (by decide))
/-- diM and the nodes' ends -/
theorem endF_fz {D : Nat → Nat → Nat} {x : Nat} (hK : ∀ c j i, c ∈ [20800, 110003] → j < 15 → K c = true ∨ ¬ Z c (D p j) i) (hn : ∀ c, c ∈ [10103, 30200, 30406, 30506] → K c = true) : FrZ Z K J σ (itF (endF (D p 1)) 10 0 (diM σ D x p)) := by
  have h1 : FrZ Z K J σ (diM σ D x p) := by
    unfold diM
    split
    · exact FrZ.refl.iw (hK _ 0 _ (by decide) (by decide))
    · split
      · exact (FrZ.refl.iw (hK _ 0 _ (by decide) (by decide))).ow (Or.inl (hn _ (by decide)))
      · exact FrZ.refl.iw (hK _ 0 _ (by decide) (by decide))
  exact itF_ind (f := endF (D p 1)) (fun _ τ => FrZ Z K J σ τ) 10 0 (diM σ D x p) h1 (fun j τ _ _ hτ => by
    unfold endF
    split
    · exact hτ
    · exact (((hτ.iw (Or.inl (hn _ (by decide)))).ow (Or.inl (hn _ (by decide)))).ow (Or.inl (hn _ (by decide)))).ow (hK _ 1 _ (by decide) (by decide)))
/-- what emC sets -/
theorem emC_v {D : Nat → Nat → Nat} : (∀ h, 1 ≤ h → h ≤ 15 → (emC s D p).2.1 120003 (D p 3) h = none ∧ (emC s D p).1 130000 (D p 4) h = 0 ∧ (emC s D p).1 140000 (D p 5) h = 0) ∧ (emC s D p).1 80300 (D p 2) 0 = 0 ∧ (∀ c, c < 64 → (emC s D p).2.1 150006 (D p 7) c = none) ∧ (emC s D p).1 90100 (D p 6) 0 = 0 ∧ (emC s D p).1 90200 (D p 6) 0 = 0 ∧ (emC s D p).1 40300 (D p 8) 0 = 0 ∧ (emC s D p).1 40400 (D p 8) 0 = 0 := by
  have hA := itF_ind (f := hseF (D p 3) (D p 4) (D p 5)) (fun i τ => ∀ h, 1 ≤ h → h < i → τ.2.1 120003 (D p 3) h = none ∧ τ.1 130000 (D p 4) h = 0 ∧ τ.1 140000 (D p 5) h = 0) 15 1 s (fun h h1 h2 => by omega) (fun j τ h1 h2 hτ h h3 h4 => by
    unfold hseF
    by_cases e : h = j
    · subst e; simp [sI, sO]
    · obtain ⟨y1, y2, y3⟩ := hτ h h3 (by omega)
      simp [sI, sO, e, y1, y2, y3])
  have hB := itF_ind (f := areF (D p 7)) (fun i τ => (∀ h, 1 ≤ h → h < 16 → τ.2.1 120003 (D p 3) h = none ∧ τ.1 130000 (D p 4) h = 0 ∧ τ.1 140000 (D p 5) h = 0) ∧ τ.1 80300 (D p 2) 0 = 0 ∧ ∀ c, c < i → τ.2.1 150006 (D p 7) c = none) 64 0 (emA s D p) ⟨fun h h1 h2 => by
      obtain ⟨y1, y2, y3⟩ := hA h h1 h2
      exact ⟨y1, by unfold emA; rw [rII (by decide)]; exact y2, by unfold emA; rw [rII (by decide)]; exact y3⟩, by unfold emA; exact rIs, fun c hc => absurd hc (Nat.not_lt_zero _)⟩ (fun j τ h1 h2 hτ => by
    obtain ⟨z1, z2, z3⟩ := hτ
    unfold areF
    refine ⟨fun h h3 h4 => ⟨(rOO (by decide)).trans (z1 h h3 h4).1, (z1 h h3 h4).2⟩, z2, fun c hc => ?_⟩
    by_cases e : c = j
    · subst e; exact rOs
    · have : (sO τ 150006 (D p 7) j none).2.1 150006 (D p 7) c = τ.2.1 150006 (D p 7) c := by simp [sO, e]
      rw [this]; exact z3 c (by omega))
  obtain ⟨b1, b2, b3⟩ := hB
  unfold emC emB
  refine ⟨fun h h1 h2 => ⟨(b1 h h1 (by omega)).1, ?_, ?_⟩, ?_, b3, ?_, ?_, rIs, ?_⟩
  · rw [rII (by decide), rII (by decide), rII (by decide), rII (by decide)]; exact (b1 h h1 (by omega)).2.1
  · rw [rII (by decide), rII (by decide), rII (by decide), rII (by decide)]; exact (b1 h h1 (by omega)).2.2
  · rw [rII (by decide), rII (by decide), rII (by decide), rII (by decide)]; exact b2
  · rw [rII (by decide), rII (by decide), rII (by decide)]; exact rIs
  · rw [rII (by decide), rII (by decide)]; exact rIs
  · rw [rII (by decide)]; exact rIs
def pcs : List Nat := [20800, 110003, 120003, 130000, 140000, 80300, 150006, 90100, 90200, 40400, 40300, 21000, 21105]
theorem pcs_lt : ∀ c, c ∈ pcs → c < 500000 := by decide
def KDi : Nat → Bool := fun c => pcs.contains c || [10103, 30200, 30406, 30506].contains c || lsc c
def KDx : Nat → Bool := fun c => [10103, 30200, 30406, 30506].contains c || lsc c
/-- what p has when it is dead -/
def ZV (g : Gh) (p : Nat) (σ : Sg) : Prop := (∀ h, 1 ≤ h → h ≤ 15 → σ.2.1 120003 (g.D p 3) h = none ∧ σ.1 130000 (g.D p 4) h = 0 ∧ σ.1 140000 (g.D p 5) h = 0) ∧ σ.1 80300 (g.D p 2) 0 = 0 ∧ (∀ c, c < 64 → σ.2.1 150006 (g.D p 7) c = none) ∧ σ.1 90100 (g.D p 6) 0 = 0 ∧ σ.1 90200 (g.D p 6) 0 = 0 ∧ σ.1 40300 (g.D p 8) 0 = 0 ∧ σ.1 40400 (g.D p 8) 0 = 0 ∧ σ.1 21000 (g.D p 0) 0 = 0 ∧ σ.2.1 21105 (g.D p 0) 0 = none ∧ σ.1 20800 (g.D p 0) 0 = 0 ∧ ∀ k, k < 10 → σ.2.1 110003 (g.D p 1) k = none
theorem flt_cg {f f' : Nat → Bool} : ∀ (l : List Nat), (∀ x, x ∈ l → f x = f' x) → l.filter f = l.filter f'
  | [], _ => rfl
  | x :: t, h => by
    rw [List.filter_cons, List.filter_cons, h x List.mem_cons_self, flt_cg t (fun y hy => h y (List.mem_cons_of_mem _ hy))]
theorem Fr.kdn (F : Fr K J σ s) {x : Nat} (h : σ.2.2.2 x ≠ 0) : s.2.2.2 x ≠ 0 := by rw [F.1 x h]; exact h
def V2F (p : Nat) (σ1 : Sg) (fl : Nat → Bool) (L3 : Nat → List Nat) (r : Nat) : List (Int32 × Int32) := V1 p fl 4 r ++ dthC σ1 (L3 r)
theorem die_cls {fl : Nat → Bool} (R : RS E g σ) (hp : p < 4) (hfl : ∀ r, r < 4 → r ≠ p → (fl r = true ↔ ¬ hcB σ (g.D r 0) (g.L1 p) (g.L2 p) = 0)) (h : odiP E g.D g.x p g.L1 g.L2 g.L3 σ σ1) :
    ∃ L1' L3', Fr KDi JDi σ σ1 ∧ (∀ r, r ≠ p → FrP g r KDx JDi σ σ1) ∧ WF σ1 ∧ (∃ AR, LLx E 20 41 5 (fun p => g.D p 12) L1' AR σ1) ∧ (∃ AR, LLx E 21 42 6 (fun p => g.D p 13) (upL g.L2 p []) AR σ1) ∧ (∃ AR, LLx E 22 43 7 (fun p => g.D p 14) L3' AR σ1) ∧
      CWs p σ1 g.L1 L1' (V2F p σ1 fl g.L3) ∧ L1' p = [] ∧ L3' p = [] ∧ (∀ r, r < 4 → r ≠ p → L3' r = kpC σ1 (g.L3 r)) ∧ ZV g p σ1 ∧
      (∀ w, σ.2.2.2 w = 7 → σ1.2.1 70003 w 0 = σ.2.1 70003 w 0 ∧ σ1.1 70100 w 0 = σ.1 70100 w 0) ∧
      (∀ n, σ.2.2.2 n = 3 → (∀ k, k < 10 → σ.2.1 110003 (g.D p 1) k ≠ some n) → σ1.1 30200 n 0 = σ.1 30200 n 0 ∧ σ1.2.1 30406 n 0 = σ.2.1 30406 n 0 ∧ σ1.2.1 30506 n 0 = σ.2.1 30506 n 0) ∧ (∀ k n, k < 10 → σ.2.1 110003 (g.D p 1) k = some n → σ1.1 30200 n 0 = 1) ∧
      σ1.2.1 10103 g.x 0 = (match σ.2.1 10103 g.x 0 with | none => none | some a => if σ.1 30000 a 0 = nI p then none else some a) := by
  obtain ⟨L1a, sa, AR1, AR2, AR3, sb, L1', L3', AR1', AR3', d1, d2, d3, hw', hsh, hl1, hl2, hl3⟩ := h
  have eD := ENDP.all (s := diM σ g.D g.x p) (a1 := g.D p 1) 10
  generalize hs1 : itF (endF (g.D p 1)) 10 0 (diM σ g.D g.x p) = s1 at d1 eD
  have Fz : ∀ {Z : Nat → Nat → Nat → Prop} {K J : Nat → Bool}, (∀ c j i, c ∈ [20800, 110003] → j < 15 → K c = true ∨ ¬ Z c (g.D p j) i) → (∀ c, c ∈ [10103, 30200, 30406, 30506] → K c = true) → FrZ Z K J σ s1 := fun a b => hs1 ▸ endF_fz a b
  have dm2 : (diM σ g.D g.x p).2.2 = σ.2.2 := by
    unfold diM
    split
    · rfl
    · split <;> rfl
  have dmc : ∀ c a x, c ≠ 20800 → c ≠ 10103 → (diM σ g.D g.x p).1 c a x = σ.1 c a x ∧ (diM σ g.D g.x p).2.1 c a x = σ.2.1 c a x := by
    intro c a x h1 h2
    unfold diM
    split
    · exact ⟨rII h1, rfl⟩
    · split
      · exact ⟨rII h1, rOO h2⟩
      · exact ⟨rII h1, rfl⟩
  have dm8 : (diM σ g.D g.x p).1 20800 (g.D p 0) 0 = 0 := by
    unfold diM
    split
    · exact rIs
    · split
      · exact rIs
      · exact rIs
  have dm8n : ∀ a, a ≠ g.D p 0 → (diM σ g.D g.x p).1 20800 a 0 = σ.1 20800 a 0 := by
    intro a ha
    unfold diM
    split
    · simp [sI, ha]
    · split
      · simp [sI, sO, ha]
      · simp [sI, ha]
  have dmx : (diM σ g.D g.x p).2.1 10103 g.x 0 = (match σ.2.1 10103 g.x 0 with | none => none | some a => if σ.1 30000 a 0 = nI p then none else some a) := by
    unfold diM
    cases e : σ.2.1 10103 g.x 0 with
    | none => exact e
    | some a =>
      dsimp only
      split
      · exact rOs
      · exact e
  obtain ⟨n1, n2, n3, n4, n5, n6, n7⟩ := eD
  have ks1 : s1.2.2.2 = σ.2.2.2 := by rw [show s1.2.2.2 = s1.2.2.2 from rfl, n1, dm2]
  have s1c : ∀ c a x, c ∉ [30200, 30406, 30506, 110003] → c ≠ 20800 → c ≠ 10103 → s1.1 c a x = σ.1 c a x ∧ s1.2.1 c a x = σ.2.1 c a x := fun c a x h1 h2 h3 => ⟨((n2 c a x h1).1).trans (dmc c a x h2 h3).1, ((n2 c a x h1).2).trans (dmc c a x h2 h3).2⟩
  have d0n : ∀ r, r < 4 → r ≠ p → g.D r 0 ≠ g.D p 0 := fun r hr hrp e => hrp (R.dj r p 0 hr hp (by decide) e)
  have hM : ∀ r, r < 4 → r ≠ p → hcM s1 (g.D r 0) = hcM σ (g.D r 0) := fun r hr hrp => by
    funext m
    unfold hcM frmF
    rw [(n2 20800 _ _ (by decide)).1, dm8n _ (d0n r hr hrp), (s1c 20000 _ _ (by decide) (by decide) (by decide)).1, (s1c 20900 _ _ (by decide) (by decide) (by decide)).1, (s1c 60100 _ _ (by decide) (by decide) (by decide)).1, (s1c 60200 _ _ (by decide) (by decide) (by decide)).1]
  have hWW : ∀ r, r < 4 → r ≠ p → hcW s1 (g.D r 0) = hcW σ (g.D r 0) := fun r hr hrp => by
    funext w
    unfold hcW
    rw [(s1c 50000 _ _ (by decide) (by decide) (by decide)).1, (s1c 50106 _ _ (by decide) (by decide) (by decide)).2, hM r hr hrp]
  have hBB : ∀ r, r < 4 → r ≠ p → hcB s1 (g.D r 0) (g.L1 p) (g.L2 p) = hcB σ (g.D r 0) (g.L1 p) (g.L2 p) := fun r hr hrp => by unfold hcB; rw [hM r hr hrp, hWW r hr hrp]
  have hpp : hcB s1 (g.D p 0) (g.L1 p) (g.L2 p) = 0 := by
    have z : ∀ m, hcM s1 (g.D p 0) m = false := fun m => by
      unfold hcM frmF
      rw [(n2 20800 _ _ (by decide)).1, dm8]; rfl
    have zw : ∀ w, hcW s1 (g.D p 0) w = false := fun w => by
      unfold hcW
      split
      · split
        · rfl
        · exact z _
      · rfl
    unfold hcB
    rw [any_cg (f' := fun _ => false) (g.L1 p) (fun w _ => zw w), any_cg (f' := fun _ => false) (g.L2 p) (fun w _ => z w)]
    simp
  obtain ⟨F1, hL1a, C1⟩ := dfP_e (s1 := s1) (L := g.L1) (fl := fl) hp (fun i hi => by rw [ks1]; exact R.kD hi (by decide)) (fun w hw => ⟨by rw [ks1, R.m1 hp hw]; decide, fun m hm => by rw [(s1c 50106 _ _ (by decide) (by decide) (by decide)).2] at hm; rw [ks1, R.wf _ _ _ _ hm (by decide)]; decide⟩) (fun m hm => by rw [ks1, R.m2 hp hm]; decide) (fun r hr hrp => by rw [hBB r hr hrp]; exact hfl r hr hrp) hpp 4 0 g.L1 s1 L1a sa rfl d1 Fr.refl rfl (fun r hr hrp => ⟨[], (List.append_nil _).symm, by unfold V1; rw [if_neg (by omega)]; rfl, fun i w hi => by cases hi⟩)
  have hem : FrZ (fun _ _ _ => True) (fun c => emc.contains c || lsc c) JDi sa sb := emp_fz FrZ.refl d2 (fun c j i hc _ => Or.inl (by rw [List.contains_iff_mem.mpr hc]; rfl)) (fun c hc => by simp only [Bool.or_eq_false_iff] at hc; exact hc.2) (fun j hj => hj)
  have F2 := hem.fr
  have hd2 := d2
  obtain ⟨t1, t2, t3, e1, e2, e3, kp, esb⟩ := d2
  have wsb : WF sb := by rw [esb]; exact WF.oN (WF.i kp.1)
  have F12 : Fr (fun c => emc.contains c || lsc c) JDi s1 sb := (F1.weak (fun c hc => by simp only [Bool.or_eq_false_iff] at hc; exact lsc_k (Or.inl ⟨rfl, rfl⟩) c hc.2) (fun j hj => by unfold JW at hj; unfold JDi; simp only [Bool.or_eq_true, beq_iff_eq] at hj ⊢; omega)).tr F2
  have k7 : ∀ w, σ.2.2.2 w = 7 → sb.2.2.2 w = 7 := fun w hw => by rw [F12.1 w (by rw [ks1, hw]; decide), ks1]; exact hw
  have FLa : FL sa sb → True := fun _ => trivial
  have Csb : CWs p sb g.L1 (upL L1a p []) (V1 p fl 4) := by
    have : CWs p sb g.L1 L1a (V1 p fl 4) := by
      intro r hr hrp
      obtain ⟨W, h1, h2, h3⟩ := C1 r hr hrp
      refine ⟨W, h1, h2, fun i w hi => ?_⟩
      obtain ⟨k, c, q1, q2, q3, q4, q5⟩ := h3 i w hi
      have z : sa.2.2.2 w ≠ 0 := by rw [q2]; decide
      exact ⟨k, c, q1, (F2.1 w z).trans q2, (F2.2.2 50000 w 0 z (by decide)).1.trans q3, (F2.2.2 50106 w 0 z (by decide)).2.trans q4, (F2.2.2 50200 w 0 z (by decide)).1.trans q5⟩
    exact this.cl (fun r _ hrp => upL_n hrp)
  obtain ⟨F3, C3, z1, z3, hL3⟩ := dwP_e (p := p) (L := g.L1) (V := V1 p fl 4) (L3 := g.L3) wsb (fun r w hr hrp hw => k7 w (by obtain ⟨i, hi⟩ := List.getElem?_of_mem hw; exact R.k3 hr hi)) 4 0 _ _ sb L1' L3' σ1 rfl d3 Fr.refl (Csb.cg (fun r hr hrp => by unfold V2C; rw [if_neg (by omega), List.append_nil])) upL_s upL_s (fun r hr hrp => by rw [if_neg (Nat.not_lt_zero _), upL_n hrp])
  have FL3 := F3.fl KLV_lt
  have F123 : Fr (fun c => emc.contains c || lsc c) JDi s1 σ1 := F12.tr (F3.weak (fun c hc => by
    simp only [Bool.or_eq_false_iff] at hc
    have := hc.2
    unfold lsc at this
    unfold KLV
    simp only [Bool.or_eq_false_iff] at this ⊢
    exact ⟨⟨⟨this.1.1.1.1.1, this.1.1.1.1.2⟩, this.1.2⟩, this.2⟩) (fun j hj => by unfold JLV at hj; unfold JDi; simp only [Bool.or_eq_true, beq_iff_eq] at hj ⊢; omega))
  -- values
  have kz : ∀ {y}, σ.2.2.2 y ≠ 0 → s1.2.2.2 y ≠ 0 := fun h => by rw [ks1]; exact h
  have at1 : ∀ {c y i}, σ.2.2.2 y ≠ 0 → (emc.contains c || lsc c) = false → σ1.1 c y i = s1.1 c y i ∧ σ1.2.1 c y i = s1.2.1 c y i := fun h1 h2 => F123.2.2 _ _ _ (kz h1) h2
  have zv : ZV g p σ1 := by
    have ksa : ∀ {y}, σ.2.2.2 y ≠ 0 → sa.2.2.2 y ≠ 0 := fun h => F1.kdn (kz h)
    have ke : ∀ {y}, σ.2.2.2 y ≠ 0 → (emC sa g.D p).2.2.2 y ≠ 0 := fun {y} h => by
      have hz : FrZ (fun _ _ _ => True) (fun c => emc.contains c || lsc c) JDi sa (emC sa g.D p) := emC_fz FrZ.refl (fun c j i hc _ => Or.inl (by rw [List.contains_iff_mem.mpr hc]; rfl))
      exact hz.fr.kdn (ksa h)
    have kt1 : ∀ {y}, σ.2.2.2 y ≠ 0 → t1.2.2.2 y ≠ 0 := fun h => (Fr.k e1).kdn (ke h)
    have kt2 : ∀ {y}, σ.2.2.2 y ≠ 0 → t2.2.2.2 y ≠ 0 := fun h => (Fr.k e2).kdn (kt1 h)
    have kt3 : ∀ {y}, σ.2.2.2 y ≠ 0 → sb.2.2.2 y ≠ 0 := fun h => by rw [esb]; exact (Fr.k e3).kdn (kt2 h)
    have rd : ∀ {c y i}, σ.2.2.2 y ≠ 0 → c < 200000 → c ≠ 21000 → c ≠ 21105 → σ1.1 c y i = (emC sa g.D p).1 c y i ∧ σ1.2.1 c y i = (emC sa g.D p).2.1 c y i := fun {c y i} h1 h2 h3 h4 => by
      have q0 := FL3.2 c y i (kt3 h1) h2
      have q1 := e1.2.2.1 c y i (ke h1) (by omega) (by omega)
      have q2 := e2.2.2.1 c y i (kt1 h1) (by omega) (by omega)
      have q3 := e3.2.2.1 c y i (kt2 h1) (by omega) (by omega)
      rw [q0.1, q0.2, esb]
      refine ⟨(rII h3).trans (q3.1.trans (q2.1.trans q1.1)), (rOO h4).trans (q3.2.trans (q2.2.trans q1.2))⟩
    obtain ⟨v1, v2, v3, v4, v5, v6, v7⟩ := emC_v (s := sa) (p := p) (D := g.D)
    have kD := fun {j} (hj : j < 15) => R.kD (p := p) hp hj
    refine ⟨fun h h1 h2 => ?_, ?_, fun c hc => ?_, ?_, ?_, ?_, ?_, ?_, ?_, ?_, fun k hk => ?_⟩
    · rw [(rd (kD (by decide)) (by decide) (by decide) (by decide)).2, (rd (kD (by decide)) (by decide) (by decide) (by decide)).1, (rd (kD (by decide)) (by decide) (by decide) (by decide)).1]
      exact v1 h h1 h2
    · rw [(rd (kD (by decide)) (by decide) (by decide) (by decide)).1]; exact v2
    · rw [(rd (kD (by decide)) (by decide) (by decide) (by decide)).2]; exact v3 c hc
    · rw [(rd (kD (by decide)) (by decide) (by decide) (by decide)).1]; exact v4
    · rw [(rd (kD (by decide)) (by decide) (by decide) (by decide)).1]; exact v5
    · rw [(rd (kD (by decide)) (by decide) (by decide) (by decide)).1]; exact v6
    · rw [(rd (kD (by decide)) (by decide) (by decide) (by decide)).1]; exact v7
    · rw [(FL3.2 21000 _ 0 (kt3 (kD (by decide))) (by decide)).1, esb]; exact rIs
    · rw [(FL3.2 21105 _ 0 (kt3 (kD (by decide))) (by decide)).2, esb]; exact rOs
    · rw [(at1 (kD (by decide)) (by decide)).1, (n2 20800 _ _ (by decide)).1]; exact dm8
    · rw [(at1 (kD (by decide)) (by decide)).2]; exact n4 k hk
  have FF : ∀ {Z : Nat → Nat → Nat → Prop} {K J : Nat → Bool}, (∀ c j i, c ∈ pcs → j < 15 → K c = true ∨ ¬ Z c (g.D p j) i) → (∀ c, c ∈ [10103, 30200, 30406, 30506] → K c = true) → (∀ c, K c = false → lsc c = false) → (∀ j, JDi j = true → J j = true) → FrZ Z K J σ σ1 := by
    intro Z K J hK hn hl hJ
    have h1 : FrZ Z K J σ s1 := Fz (fun c j i hc hj => hK c j i (by unfold pcs; simp only [List.mem_cons, List.not_mem_nil, or_false] at hc ⊢; omega) hj) hn
    have h2 := h1.tr F1 (fun c hc => lsc_k (Or.inl ⟨rfl, rfl⟩) c (hl c hc)) (fun j hj => hJ j (by unfold JW at hj; unfold JDi; simp only [Bool.or_eq_true, beq_iff_eq] at hj ⊢; omega))
    have h3 := emp_fz h2 hd2 (fun c j i hc hj => hK c j i (by unfold emc at hc; unfold pcs; simp only [List.mem_cons, List.not_mem_nil, or_false] at hc ⊢; omega) hj) hl hJ
    exact h3.tr F3 (fun c hc => by
      have := hl c hc
      unfold lsc at this
      unfold KLV
      simp only [Bool.or_eq_false_iff] at this ⊢
      exact ⟨⟨⟨this.1.1.1.1.1, this.1.1.1.1.2⟩, this.1.2⟩, this.2⟩) (fun j hj => hJ j (by unfold JLV at hj; unfold JDi; simp only [Bool.or_eq_true, beq_iff_eq] at hj ⊢; omega))
  have ddE : ∀ w, σ.2.2.2 w = 7 → ddW sb w = ddW σ1 w := fun w hw => by
    have w7 := k7 w hw
    unfold ddW
    rw [(FL3.2 70003 w 0 (by rw [w7]; decide) (by decide)).2]
    cases e : sb.2.1 70003 w 0 with
    | none => rfl
    | some n =>
      dsimp only
      rw [(FL3.2 30200 n 0 (by rw [wsb _ _ _ _ e (by decide)]; decide) (by decide)).1]
  have k3w : ∀ {r w}, r < 4 → w ∈ g.L3 r → σ.2.2.2 w = 7 := fun hr hw => by obtain ⟨i, hi⟩ := List.getElem?_of_mem hw; exact R.k3 hr hi
  refine ⟨L1', L3', (FF (fun c j i hc _ => Or.inl (by unfold KDi; rw [List.contains_iff_mem.mpr hc]; rfl)) (fun c hc => by unfold KDi; rw [List.contains_iff_mem.mpr hc]; simp) (fun c hc => by unfold KDi at hc; simp only [Bool.or_eq_false_iff] at hc; exact hc.2) (fun j hj => hj)).fr, fun r hr => FF (fun c j i hc hj => Or.inr (niD (pcs_lt c hc) hp hj hr)) (fun c hc => by unfold KDx; rw [List.contains_iff_mem.mpr hc]; simp) (fun c hc => by unfold KDx at hc; simp only [Bool.or_eq_false_iff] at hc; exact hc.2) (fun j hj => hj), hw', ⟨AR1', hl1⟩, ⟨AR2, hl2⟩, ⟨AR3', hl3⟩, C3.cg (fun r hr hrp => ?_), z1, z3, fun r hr hrp => ?_, zv, fun w hw => ?_, fun n hn hk => ?_, fun k n hk hn => ?_, ?_⟩
  · unfold V2F V2C
    rw [if_pos ⟨hr, hrp⟩]
    unfold dthC
    rw [flt_cg (g.L3 r) (fun w hw => (ddE w (k3w hr hw)).symm)]
    congr 1
    refine List.map_congr_left (fun w hw => ?_)
    have := k7 w (k3w hr (List.mem_filter.mp hw).1)
    rw [(FL3.2 70100 w 0 (by rw [this]; decide) (by decide)).1]
  · rw [hL3 r hr hrp]
    unfold kpC
    exact flt_cg (g.L3 r) (fun w hw => by rw [ddE w (k3w hr hw)])
  · have hz : σ.2.2.2 w ≠ 0 := by rw [hw]; decide
    rw [(at1 hz (by decide)).2, (at1 hz (by decide)).1, (s1c 70003 _ _ (by decide) (by decide) (by decide)).2, (s1c 70100 _ _ (by decide) (by decide) (by decide)).1]
    exact ⟨rfl, rfl⟩
  · have hz : σ.2.2.2 n ≠ 0 := by rw [hn]; decide
    have y := n6 n (fun k hk' e => hk k hk' (by rw [← (dmc 110003 _ _ (by decide) (by decide)).2]; exact e)) 0
    rw [(at1 hz (by decide)).1, (at1 hz (by decide)).2, (at1 hz (by decide)).2, y.1, y.2.1, y.2.2, (dmc 30200 _ _ (by decide) (by decide)).1, (dmc 30406 _ _ (by decide) (by decide)).2, (dmc 30506 _ _ (by decide) (by decide)).2]
    exact ⟨rfl, rfl, rfl⟩
  · have hz : σ.2.2.2 n ≠ 0 := by rw [R.wf _ _ _ _ hn (by decide)]; decide
    rw [(at1 hz (by decide)).1]
    exact n7 k n hk (by rw [(dmc 110003 _ _ (by decide) (by decide)).2]; exact hn)
  · rw [(at1 R.kx (by decide)).2, (n2 10103 _ _ (by decide)).2]; exact dmx
end DIX
