/-! the start: nobody lives -/
section STA
variable {E : FE} {σ0 τ1 τ2 : Sg} {x a0 m o : Nat} {D : Nat → Nat → Nat} {A : Nat → Nat}
def gS (x a0 m : Nat) (D : Nat → Nat → Nat) (A : Nat → Nat) : Gh := Gh.mk x a0 m D A (fun _ => 0) (fun _ => 0) (fun _ => []) (fun _ => []) (fun _ => []) (fun _ => []) (fun _ => 0)
theorem nl_0 : (0 : Int32) = nI 0 := rfl
theorem rr_start (hz : ∀ y, σ0.2.2.2 y = 0) (hw : WF σ0) (hxe : x ≠ fe E) (h1 : OdS E x a0 4 D (sN σ0 x 1) τ1) (hm : τ1.2.2.2 m = 0) (hme : m ≠ fe E) (h2 : MoS E m 31 (-1) A (sN τ1 m 50) τ2) (ho : τ2.2.2.2 o = 0) (hoe : o ≠ fe E) : RR E (gS x a0 m D A) 0 (sL τ2 o) ∧ (sL τ2 o).2.2.2 o = 90 := by
  obtain ⟨⟨S1, g1, g1a, g1m⟩, b1, b2, b3, b4, b5, b6, b7, b8⟩ := h1
  obtain ⟨⟨S2, g2, g2m⟩, c1, c2, c3, c4, c5⟩ := h2
  have w0 : WF (sN σ0 x 1) := hw.n (hz x)
  have w1 : WF τ1 := b6 w0
  have w2 : WF τ2 := c5 (w1.n hm)
  have f1 : τ1.2.2.2 (fe E) = 0 := by
    rw [g1.1 (fe E) (fun y => (g1.2.1 _ y).2.1 rfl)]
    show (if fe E = x then 1 else σ0.2.2.2 (fe E)) = 0
    rw [if_neg hxe.symm]; exact hz _
  have f2 : τ2.2.2.2 (fe E) = 0 := by
    rw [g2.1 (fe E) (fun y => (g2.2.1 _ y).2.1 rfl)]
    show (if fe E = m then 50 else τ1.2.2.2 (fe E)) = 0
    rw [if_neg hme.symm]; exact f1
  have f3 : (sL τ2 o).2.2.2 (fe E) = 0 := by
    show (if fe E = o then 90 else τ2.2.2.2 (fe E)) = 0
    rw [if_neg hoe.symm]; exact f2
  have up3 : ∀ {y}, τ2.2.2.2 y ≠ 0 → (sL τ2 o).2.2.2 y = τ2.2.2.2 y ∧ ∀ c i, (sL τ2 o).1 c y i = τ2.1 c y i ∧ (sL τ2 o).2.1 c y i = τ2.2.1 c y i := fun {y} h => by
    have n : y ≠ o := fun e => h (by rw [e]; exact ho)
    exact ⟨if_neg n, fun c i => ⟨if_neg n, if_neg n⟩⟩
  have up2 : ∀ {y}, τ1.2.2.2 y ≠ 0 → τ2.2.2.2 y = τ1.2.2.2 y ∧ ∀ c i, τ2.1 c y i = τ1.1 c y i ∧ τ2.2.1 c y i = τ1.2.1 c y i := fun {y} h => by
    have n : y ≠ m := fun e => h (by rw [e]; exact hm)
    have k : (sN τ1 m 50).2.2.2 y = τ1.2.2.2 y := if_neg n
    have nS : y ∉ S2 := fun z => h (by rw [← k]; exact (g2.2.1 y z).1)
    refine ⟨(g2.1 y nS).trans k, fun c i => ?_⟩
    have q := g2.2.2.1 c y i nS n
    exact ⟨q.1.trans (if_neg n), q.2.trans (if_neg n)⟩
  have up : ∀ {y}, τ1.2.2.2 y ≠ 0 → (sL τ2 o).2.2.2 y = τ1.2.2.2 y ∧ ∀ c i, (sL τ2 o).1 c y i = τ1.1 c y i ∧ (sL τ2 o).2.1 c y i = τ1.2.1 c y i := fun {y} h => by
    obtain ⟨k2, r2⟩ := up2 h
    obtain ⟨k3, r3⟩ := up3 (y := y) (by rw [k2]; exact h)
    exact ⟨k3.trans k2, fun c i => ⟨(r3 c i).1.trans (r2 c i).1, (r3 c i).2.trans (r2 c i).2⟩⟩
  have w3 : WF (sL τ2 o) := by
    intro c a i b hb hc
    by_cases e : a = o
    · have : (sL τ2 o).2.1 c a i = none := if_pos e
      rw [this] at hb; cases hb
    · have : (sL τ2 o).2.1 c a i = τ2.2.1 c a i := if_neg e
      rw [this] at hb
      have q := w2 c a i b hb hc
      rw [(up3 (y := b) (by rw [q]; exact hc)).1]; exact q
  have kX : τ1.2.2.2 x ≠ 0 := by rw [b1]; decide
  have kA0 : τ1.2.2.2 a0 ≠ 0 := by rw [b2]; decide
  have PK : ∀ p, p < 4 → PrK E (D p) (nI p) (sL τ2 o) := fun p hp => (b7 p hp).keep (fun j hj => (up ((b7 p hp).1 j hj)).1) (fun c j i hj _ => (up ((b7 p hp).1 j hj)).2 c i)
  have kM : τ2.2.2.2 m ≠ 0 := by rw [c1]; decide
  have kA : ∀ j, j < 31 → τ2.2.2.2 (A j) ≠ 0 := fun j hj => by rw [(c2 j hj).2.1]; omega
  have az : ∀ {j c i}, j < 31 → c % 10000 ≠ 9900 → (sL τ2 o).1 c (A j) i = 0 := fun {j c i} hj hc => ((up3 (kA j hj)).2 c i).1.trans ((c2 j hj).2.2 c i hc)
  have no3 : ∀ a, (sL τ2 o).2.2.2 a ≠ 3 := by
    intro a h3
    have n : a ≠ o := fun e => by
      have : (sL τ2 o).2.2.2 a = 90 := if_pos e
      rw [this] at h3; exact absurd h3 (by decide)
    have h4 : τ2.2.2.2 a = 3 := by
      have : (sL τ2 o).2.2.2 a = τ2.2.2.2 a := if_neg n
      rw [← this]; exact h3
    by_cases z : a ∈ S2
    · obtain ⟨j, hj, rfl⟩ := g2m a z
      rw [(c2 j hj).2.1] at h4; omega
    · rw [g2.1 a z] at h4
      by_cases e : a = m
      · have : (sN τ1 m 50).2.2.2 a = 50 := if_pos e
        rw [this] at h4; exact absurd h4 (by decide)
      · have : (sN τ1 m 50).2.2.2 a = τ1.2.2.2 a := if_neg e
        rw [this] at h4
        by_cases z1 : a ∈ S1
        · rcases g1m a z1 with e1 | ⟨p, j, hp, hj, e1⟩
          · rw [e1, b2] at h4; exact absurd h4 (by decide)
          · have := (b7 p hp).2.1.kd w1 j hj
            rw [← e1, h4] at this
            have d : ∀ j, j < 15 → 3 ≠ Dk j := by decide
            exact d j hj this
        · rw [g1.1 a z1] at h4
          by_cases e : a = x
          · have : (sN σ0 x 1).2.2.2 a = 1 := if_pos e
            rw [this] at h4; exact absurd h4 (by decide)
          · have : (sN σ0 x 1).2.2.2 a = σ0.2.2.2 a := if_neg e
            rw [this, hz] at h4; exact absurd h4 (by decide)
  have dd : ∀ p, ¬ al (gS x a0 m D A) (sL τ2 o) p := fun p h => by
    have : (sL τ2 o).1 510000 (A 0) p = 0 := az (by decide) (by decide)
    have h' : (sL τ2 o).1 510000 (A 0) p = 1 := h
    rw [this] at h'; exact absurd h' (by decide)
  have ll : ∀ {k ka tk j : Nat}, j < 15 → (∀ p, p < 4 → (sL τ2 o).2.2.2 (D p j) = k ∧ (sL τ2 o).2.1 (10000 * k + 100) (D p j) 0 = some (fe E) ∧ (sL τ2 o).1 (10000 * k + 200) (D p j) 0 = 0) → LLx E k ka tk (fun p => D p j) (fun _ => []) (fun _ => fe E) (sL τ2 o) := fun {k ka tk j} hj h => by
    refine ⟨f3, fun p hp => ⟨(h p hp).1, (h p hp).2.1, (h p hp).2.2, Nat.zero_le _, Or.inl ⟨rfl, rfl⟩⟩, fun p p' hp hp' hne => ⟨fun e => hne (b8 p p' j hp hp' hj e), fun _ => rfl⟩⟩
  have s : RS E (gS x a0 m D A) (sL τ2 o) :=
    RS.mk
      (wf := w3)
      (mo := ⟨by rw [show (gS x a0 m D A).m = m from rfl, (up3 kM).1]; exact c1, fun j hj => ⟨((up3 kM).2 _ _).2.trans (c2 j hj).1, (up3 (kA j hj)).1.trans (c2 j hj).2.1⟩⟩)
      (sh := fun p hp => (PK p hp).2.1)
      (dj := fun p q j hp hq hj e => b8 p q j hp hq hj e)
      (x1 := (up kX).1.trans b1)
      (x2 := ((up kX).2 _ _).2.trans b3)
      (x3 := fun p hp => ((up kA0).2 _ _).2.trans (b5 p hp))
      (nm := fun p hp => (PK p hp).2.2.1)
      (l1 := ⟨_, ll (j := 12) (by decide) (fun p hp => (PK p hp).2.2.2.2.2.1)⟩)
      (l2 := ⟨_, ll (j := 13) (by decide) (fun p hp => (PK p hp).2.2.2.2.2.2.1)⟩)
      (l3 := ⟨_, ll (j := 14) (by decide) (fun p hp => (PK p hp).2.2.2.2.2.2.2)⟩)
  have R : RR E (gS x a0 m D A) 0 (sL τ2 o) :=
    RR.mk
      (s := s)
      (p := fun p hp => by
        obtain ⟨-, -, -, ⟨q1, q2, q3, q4⟩, -⟩ := PK p hp
        exact ⟨q1.trans (az (by decide) (by decide)).symm, Or.inl (az (by decide) (by decide)), q2, az (by decide) (by decide), Nat.le_refl _⟩)
      (no := ⟨fun a h => absurd h (no3 a), fun a b h => absurd h (no3 a), fun p k hp hk => Or.inl ⟨by obtain ⟨-, -, -, -, ⟨-, -, -, -, -, -, -, -, -, q⟩, -⟩ := PK p hp; exact q k, fun h => absurd h (dd p)⟩⟩)
      (mg := by
        have e1 : (sL τ2 o).2.1 10103 x 0 = none := by rw [((up kX).2 _ _).2, b4]; exact if_pos rfl
        have e2 : (sL τ2 o).1 500300 m 0 = -1 := by rw [((up3 kM).2 _ _).1]; exact c3
        exact ⟨Or.inl ⟨e1, e2⟩, fun a h => by rw [show (sL τ2 o).2.1 10103 (gS x a0 m D A).x 0 = none from e1] at h; cases h⟩)
      (h := fun p hp => by
        obtain ⟨-, -, -, -, ⟨q1, q2, q3, q4, -⟩, -⟩ := PK p hp
        exact ⟨fun h => absurd h (dd p), fun _ => ⟨fun h _ _ => ⟨q2 h, q3 h, q4 h⟩, q1⟩⟩)
      (d := fun p hp => by
        obtain ⟨-, -, -, -, ⟨-, -, -, -, -, -, -, q8, q9, -⟩, -⟩ := PK p hp
        exact ⟨0, 0, by decide, by decide, az (by decide) (by decide), az (by decide) (by decide), fun h => absurd h (dd p), fun _ => ⟨q8, q9⟩⟩)
      (a := fun p hp => by
        obtain ⟨-, -, -, -, ⟨-, -, -, -, q5, q6, q7, -⟩, -⟩ := PK p hp
        exact ⟨fun h => absurd h (dd p), fun _ => ⟨fun c _ => q7 c, q5, q6⟩⟩)
      (i := fun p hp => ⟨(fun i w hi => by cases hi), (fun i i' w w' m hi => by cases hi), az (by decide) (by decide), fun _ => rfl, Nat.zero_le _⟩)
      (o := fun p hp => ⟨(fun i w hi => by cases hi), az (by decide) (by decide), Nat.zero_le _, fun _ => rfl⟩)
      (v := fun p hp => ⟨fun h => absurd h (dd p), fun _ => rfl⟩)
      (l := fun p hp => by
        obtain ⟨-, -, -, ⟨q1, q2, q3, q4⟩, -⟩ := PK p hp
        exact ⟨fun h => absurd h (dd p), fun _ => ⟨q4, q3⟩⟩)
      (q := ⟨fun a o h => absurd h (no3 a), fun p c m hp h => absurd h (dd p)⟩)
      (c := fun q hq h => absurd h (dd q))
      (b := fun q hq h => absurd h (dd q))
      (t := ⟨0, by rw [show (gS x a0 m D A).m = m from rfl, ((up3 kM).2 _ _).1, c4 _ _ (by decide)]; exact if_pos rfl, Nat.le_refl _⟩)
  exact ⟨R, if_pos rfl⟩
end STA
