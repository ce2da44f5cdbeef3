section FRM
variable {E : FE} {g : Gh} {σ σ' : Sg} {K J : Nat → Bool} {n n' : Nat}
theorem Fr.f0 (F : Fr K J σ σ') (hJ : ∀ k, J k = false) (h : σ.2.2.2 (fe E) = 0) : σ'.2.2.2 (fe E) = 0 := by
  by_cases z : σ'.2.2.2 (fe E) = 0
  · exact z
  · have := F.2.1 _ h z
    rw [hJ] at this; cases this
theorem Fr.c {l : List Nat} {J : Nat → Bool} {a b : Sg} (h : Fr K J a b) (hK : ∀ c, K c = true → l.contains c = true) : Fr (fun c => l.contains c) J a b :=
  h.weak (fun c hc => by
    cases e : K c with
    | false => rfl
    | true => rw [hK c e] at hc; cases hc) (fun _ h => h)
theorem FrL.nil {σ : Sg} {J : Nat → Bool} : Fr (fun c => ([] : List Nat).contains c) J σ σ := Fr.refl
theorem FrL.i {l : List Nat} {J : Nat → Bool} {a b : Sg} {c x i : Nat} {v : Int32} (h : Fr (fun c => l.contains c) J a b) (hc : l.contains c = true) : Fr (fun c => l.contains c) J a (sI b c x i v) :=
  (h.trans (Fr.i (J := J))).weak (fun k hk => by
    rw [Bool.or_eq_false_iff]
    refine ⟨hk, ?_⟩
    cases e : k == c with
    | false => rfl
    | true => rw [eq_of_beq e, hc] at hk; cases hk) (fun k hk => by simpa using hk)
theorem FrL.o {l : List Nat} {J : Nat → Bool} {a b : Sg} {c x i : Nat} {v : Option Nat} (h : Fr (fun c => l.contains c) J a b) (hc : l.contains c = true) : Fr (fun c => l.contains c) J a (sO b c x i v) :=
  (h.trans (Fr.o (J := J))).weak (fun k hk => by
    rw [Bool.or_eq_false_iff]
    refine ⟨hk, ?_⟩
    cases e : k == c with
    | false => rfl
    | true => rw [eq_of_beq e, hc] at hk; cases hk) (fun k hk => by simpa using hk)
def KH : List Nat := [500000, 120003, 130000, 140000, 540000, 550000, 560000, 80300]
theorem RR.frH (R : RR E g n σ) (F : Fr (fun c => KH.contains c) (fun _ => false) σ σ') (hw' : WF σ') (hn : n ≤ n') (hH : ∀ q, q < 4 → RH g n' q σ') : RR E g n' σ' := by
  have hfe' := F.f0 (fun _ => rfl) R.s.f0
  exact RR.mk
          (s := R.s.fr0 F hw' hfe' (by decide) (by decide) (by decide) (by decide))
          (p := (R.p.fr R.s F (by decide)).mono hn)
          (no := R.no.fr R.s F (by decide) (by decide))
          (mg := R.mg.fr R.s F (by decide))
          (h := hH)
          (d := fun p hp => (R.d p hp).fr hp R.s (F.at _ p) (by decide))
          (a := fun p hp => (R.a p hp).fr hp R.s (F.at _ p) (by decide) (by decide))
          (i := fun p hp => (R.i p hp).fr hp R.s (fun c m h1 h2 _ => RBn.of R.a p c m hp h1 h2) (F.at _ p) (by decide))
          (o := fun p hp => (R.o p hp).fr hp R.s (F.at _ p) (by decide))
          (v := fun p hp => (R.v p hp).fr hp R.s (F.at _ p) (by decide))
          (l := fun p hp => (R.l p hp).fr hp R.s (F.at _ p) (by decide) (by decide))
          (q := R.q.fr R.s (RBn.of R.a) F (by decide) (by decide) (by decide))
          (c := R.c.fr R.s F (by decide) (by decide))
          (b := R.b.fr R.s F (by decide) (by decide))
          (t := by obtain ⟨T9, t1, t2⟩ := R.t; exact ⟨T9, by rw [(F.2.2 _ _ _ R.s.km (by decide)).1]; exact t1, by omega⟩)
/-- handle j of p changed, no other -/
theorem RR.hset {p j s w : Nat} (R : RR E g n σ) (hn : n ≤ 600) (hp : p < 4) (ha : al g σ p) (j1 : 1 ≤ j) (j2 : j ≤ 15) (F : Fr (fun c => KH.contains c) (fun _ => false) σ σ') (hw' : WF σ') (hn' : n ≤ n')
    (e : ∀ q h, q < 4 → 1 ≤ h → h ≤ 15 → ¬ (q = p ∧ h = j) → σ'.2.1 120003 (g.D q 3) h = σ.2.1 120003 (g.D q 3) h ∧ σ'.1 130000 (g.D q 4) h = σ.1 130000 (g.D q 4) h ∧ σ'.1 140000 (g.D q 5) h = σ.1 140000 (g.D q 5) h ∧ σ'.1 540000 (g.A 3) (16 * q + h) = σ.1 540000 (g.A 3) (16 * q + h) ∧ σ'.1 550000 (g.A 4) (16 * q + h) = σ.1 550000 (g.A 4) (16 * q + h) ∧ σ'.1 560000 (g.A 5) (16 * q + h) = σ.1 560000 (g.A 5) (16 * q + h))
    (e0 : ∀ q, q < 4 → q ≠ p → σ'.1 80300 (g.D q 2) 0 = σ.1 80300 (g.D q 2) 0)
    (e1 : σ'.1 130000 (g.D p 4) j = nI s) (e2 : σ'.1 550000 (g.A 4) (16 * p + j) = nI s) (e3 : σ'.1 140000 (g.D p 5) j = nI w) (e4 : σ'.1 560000 (g.A 5) (16 * p + j) = nI w) (hs : s ≤ 4 * n') (hwb : w ≤ 4 * n') (hn2 : n' ≤ 600)
    (e5 : (σ'.2.1 120003 (g.D p 3) j = none ∧ s = 0 ∧ w = 0) ∨ ∃ a, σ'.2.1 120003 (g.D p 3) j = some a ∧ (0 < s ∨ 0 < w) ∧ σ'.1 540000 (g.A 3) (16 * p + j) = nI (g.N a) ∧ ∀ h, 1 ≤ h → h ≤ 15 → h ≠ j → σ.2.1 120003 (g.D p 3) h ≠ some a)
    (e6 : ∀ u, σ.1 80300 (g.D p 2) 0 = nI u → σ'.1 80300 (g.D p 2) 0 + nI (hcnt (σ.2.1 120003 (g.D p 3)) j) = nI (u + hcnt (σ'.2.1 120003 (g.D p 3)) j)) : RR E g n' σ' := by
  refine R.frH F hw' hn' (fun q hq => ?_)
  have ea := al.fr R.s F (by decide)
  by_cases c : q = p
  · subst c
    obtain ⟨H, hu⟩ := (R.h q hq).1 ha
    rw [H.cnt (by omega)] at hu
    have H' := HandR.set (H.mono (show 4 * n ≤ 4 * n' by omega)) j1 j2 (fun h h1 h2 h3 => e q h hq h1 h2 (fun z => h3 z.2)) e1 e2 e3 e4 hs hwb e5
    refine ⟨fun _ => ⟨H', ?_⟩, fun h => absurd ((ea q).mpr ha) h⟩
    rw [H'.cnt (by omega)]
    have q6 := e6 _ hu
    have su := sumR_upd (f := hcnt (σ.2.1 120003 (g.D q 3))) (g := hcnt (σ'.2.1 120003 (g.D q 3))) (j0 := j) 15 1 j1 (by omega) (fun h h1 h2 h3 => by
      unfold hcnt; rw [(e q h hq h1 (by omega) (fun z => h3 z.2)).1])
    rw [← su, ← nI_add] at q6
    have := congrArg (· - nI (hcnt (σ.2.1 120003 (g.D q 3)) j)) q6
    simpa [Int32.add_sub_cancel] using this
  · exact ((R.h q hq).mono hn').cong (ea q) (fun h h1 h2 => e q h hq h1 h2 (fun z => c z.1)) (e0 q hq c)
end FRM
