/-! post -/
section MSB
variable {σ : Sg} {m s it a1 a2 a3 : Nat} {k x y : Int32} {nd : Option Nat}
theorem msB_d (hm : σ.2.2.2 m = 6) (h1 : σ.2.2.2 a1 = 0) (h2 : (sA (msA σ m s it k x y nd) a1 31 it).2.2.2 a2 = 0) (h3 : (sA (sO (sA (msA σ m s it k x y nd) a1 31 it) 60631 m 0 (some a1)) a2 32 it).2.2.2 a3 = 0) : m ≠ a1 ∧ m ≠ a2 ∧ m ≠ a3 ∧ a1 ≠ a2 ∧ a1 ≠ a3 ∧ a2 ≠ a3 ∧ σ.2.2.2 a2 = 0 ∧ σ.2.2.2 a3 = 0 := by
  have e1 : m ≠ a1 := fun e => by rw [← e, hm] at h1; cases h1
  have h2' : (if a2 = a1 then 31 else σ.2.2.2 a2) = 0 := h2
  have e2 : a2 ≠ a1 := fun e => by rw [if_pos e] at h2'; cases h2'
  rw [if_neg e2] at h2'
  have e3 : m ≠ a2 := fun e => by rw [← e, hm] at h2'; cases h2'
  have h3' : (if a3 = a2 then 32 else if a3 = a1 then 31 else σ.2.2.2 a3) = 0 := h3
  have e4 : a3 ≠ a2 := fun e => by rw [if_pos e] at h3'; cases h3'
  rw [if_neg e4] at h3'
  have e5 : a3 ≠ a1 := fun e => by rw [if_pos e] at h3'; cases h3'
  rw [if_neg e5] at h3'
  have e6 : m ≠ a3 := fun e => by rw [← e, hm] at h3'; cases h3'
  exact ⟨e1, e3, e6, e2.symm, e5.symm, e4.symm, h2', h3'⟩
theorem msB_f (hd : m ≠ a1 ∧ m ≠ a2 ∧ m ≠ a3 ∧ a1 ≠ a2 ∧ a1 ≠ a3 ∧ a2 ≠ a3) : (msB σ m s it k x y nd a1 a2 a3).1 60000 m 0 = k ∧ (msB σ m s it k x y nd a1 a2 a3).1 60100 m 0 = x ∧ (msB σ m s it k x y nd a1 a2 a3).1 60200 m 0 = y ∧ (msB σ m s it k x y nd a1 a2 a3).2.1 60303 m 0 = nd ∧ (msB σ m s it k x y nd a1 a2 a3).1 60400 m 0 = celF σ s ∧ (msB σ m s it k x y nd a1 a2 a3).1 60500 m 0 = nI it := by
  obtain ⟨d1, d2, d3, d4, d5, d6⟩ := hd
  refine ⟨?_, ?_, ?_, ?_, ?_, ?_⟩ <;> simp [msB, msA, sA, sI, sO, sN, d1, d2, d3]
theorem msB_g (hd : m ≠ a1 ∧ m ≠ a2 ∧ m ≠ a3 ∧ a1 ≠ a2 ∧ a1 ≠ a3 ∧ a2 ≠ a3) : (msB σ m s it k x y nd a1 a2 a3).2.1 60631 m 0 = some a1 ∧ (msB σ m s it k x y nd a1 a2 a3).2.1 60732 m 0 = some a2 ∧ (msB σ m s it k x y nd a1 a2 a3).2.1 60833 m 0 = some a3 ∧ (msB σ m s it k x y nd a1 a2 a3).1 319900 a1 0 = nI it ∧ (msB σ m s it k x y nd a1 a2 a3).1 329900 a2 0 = nI it ∧ (msB σ m s it k x y nd a1 a2 a3).1 339900 a3 0 = nI it := by
  obtain ⟨d1, d2, d3, d4, d5, d6⟩ := hd
  refine ⟨?_, ?_, ?_, ?_, ?_, ?_⟩ <;> simp [msB, msA, sA, sI, sO, sN, d1, d2, d3, d4, d5, d6]
theorem msB_o {b : Nat} (d0 : b ≠ m) (d1 : b ≠ a1) (d2 : b ≠ a2) (d3 : b ≠ a3) (c i : Nat) : (msB σ m s it k x y nd a1 a2 a3).1 c b i = σ.1 c b i ∧ (msB σ m s it k x y nd a1 a2 a3).2.1 c b i = σ.2.1 c b i := by
  constructor <;> simp [msB, msA, sA, sI, sO, sN, d0, d1, d2, d3]
theorem msB_k {b : Nat} (d1 : b ≠ a1) (d2 : b ≠ a2) (d3 : b ≠ a3) : (msB σ m s it k x y nd a1 a2 a3).2.2.2 b = σ.2.2.2 b := by
  simp [msB, msA, sA, sI, sO, sN, d1, d2, d3]
variable {E : FE} {D : Nat → Nat → Nat} {L1 L2 L3 : Nat → List Nat} {AR1 AR2 AR3 : Nat → Nat}
theorem Ka.msB (h : Ka E D L1 L2 L3 AR1 AR2 AR3 σ) (hnd : ∀ b, nd = some b → σ.2.2.2 b = 3) (hm : σ.2.2.2 m = 6) (h1 : σ.2.2.2 a1 = 0) (h2 : (sA (msA σ m s it k x y nd) a1 31 it).2.2.2 a2 = 0) (h3 : (sA (sO (sA (msA σ m s it k x y nd) a1 31 it) 60631 m 0 (some a1)) a2 32 it).2.2.2 a3 = 0) (e1 : a1 ≠ fe E) (e2 : a2 ≠ fe E) (e3 : a3 ≠ fe E) : Ka E D L1 L2 L3 AR1 AR2 AR3 (msB σ m s it k x y nd a1 a2 a3) := by
  have hA : Ka E D L1 L2 L3 AR1 AR2 AR3 (msA σ m s it k x y nd) := (((((h.i (c := 60000) (a := m) (x := 0) (v := k) (by decide)).i (c := 60100) (a := m) (x := 0) (v := x) (by decide)).i (c := 60200) (a := m) (x := 0) (v := y) (by decide)).o (c := 60303) (a := m) (x := 0) (v := nd) (fun b hb _ => hnd b hb) (by decide) (by decide)).i (c := 60400) (a := m) (x := 0) (v := celF σ s) (by decide)).i (c := 60500) (a := m) (x := 0) (v := nI it) (by decide)
  have hB := (hA.A (k := 31) (n := it) h1 e1 (by decide)).o (c := 60631) (a := m) (x := 0) (v := some a1) (fun b hb _ => by cases hb; simp [sA, sI, sN]) (by decide) (by decide)
  have hC := (hB.A (k := 32) (n := it) h2 e2 (by decide)).o (c := 60732) (a := m) (x := 0) (v := some a2) (fun b hb _ => by cases hb; simp [sA, sI, sN]) (by decide) (by decide)
  exact (hC.A (k := 33) (n := it) h3 e3 (by decide)).o (c := 60833) (a := m) (x := 0) (v := some a3) (fun b hb _ => by cases hb; simp [sA, sI, sN]) (by decide) (by decide)
theorem Ka.arP {a a1 m g : Nat} (h : Ka E D L1 L2 L3 AR1 AR2 AR3 σ) (hm : σ.2.2.2 m = 6) : Ka E D L1 L2 L3 AR1 AR2 AR3 (arP σ a a1 m g) := by
  have hA := (h.i (c := 60900) (a := m) (x := 0) (v := nI g) (by decide)).o (c := 150006) (a := a1) (x := g) (v := some m) (fun b hb _ => by cases hb; exact hm) (by decide) (by decide)
  unfold Jvm.Pilot.CObjectDriverLaw_law_r8069_854048.arP
  split
  · exact (hA.i (by decide)).i (by decide)
  · exact hA.i (by decide)
theorem LLx.gi {τ : Sg} {k ka tk : Nat} {ad : Nat → Nat} {L : Nat → List Nat} {AR : Nat → Nat} (h : LLx E k ka tk ad L AR σ) (e0 : τ.2.2 = σ.2.2) (hI : ∀ x i, τ.1 (10000 * k + 200) x i = σ.1 (10000 * k + 200) x i) (hI2 : ∀ x i, τ.1 (10000 * ka + 9900) x i = σ.1 (10000 * ka + 9900) x i) (hO : ∀ x i, τ.2.1 (10000 * k + 100) x i = σ.2.1 (10000 * k + 100) x i) (hO2 : ∀ x i, τ.2.1 (10000 * ka + tk) x i = σ.2.1 (10000 * ka + tk) x i) : LLx E k ka tk ad L AR τ := by
  obtain ⟨h0, h1, h2⟩ := h
  refine ⟨by rw [e0]; exact h0, fun p hp => ?_, h2⟩
  obtain ⟨b1, b2, b3, b4, b5⟩ := h1 p hp
  refine ⟨by rw [e0]; exact b1, by rw [hO]; exact b2, by rw [hI]; exact b3, b4, ?_⟩
  rcases b5 with b5 | ⟨f1, f2, f3, f4, f5⟩
  · exact Or.inl b5
  · have hl : lnK ka τ (AR p) = lnK ka σ (AR p) := by unfold lnK; rw [hI2]
    exact Or.inr ⟨by rw [e0]; exact f1, by rw [hl]; exact f2, by rw [hl]; exact f3, by rw [hl]; exact f4, fun i b hb => by rw [hO2]; exact f5 i b hb⟩
theorem Ka.gi {τ : Sg} (h : Ka E D L1 L2 L3 AR1 AR2 AR3 σ) (g : GI σ τ) : Ka E D L1 L2 L3 AR1 AR2 AR3 τ :=
  ⟨g.1, fun p hp => g.sh (h.2.1 p hp), h.2.2.1.gi g.2.1 (fun _ _ => g.2.2.1 _ _ _ (by decide)) (fun _ _ => g.2.2.1 _ _ _ (by decide)) (fun _ _ => g.2.2.2 _ _ _ (by decide)) (fun _ _ => g.2.2.2 _ _ _ (by decide)), h.2.2.2.1.gi g.2.1 (fun _ _ => g.2.2.1 _ _ _ (by decide)) (fun _ _ => g.2.2.1 _ _ _ (by decide)) (fun _ _ => g.2.2.2 _ _ _ (by decide)) (fun _ _ => g.2.2.2 _ _ _ (by decide)), h.2.2.2.2.gi g.2.1 (fun _ _ => g.2.2.1 _ _ _ (by decide)) (fun _ _ => g.2.2.1 _ _ _ (by decide)) (fun _ _ => g.2.2.2 _ _ _ (by decide)) (fun _ _ => g.2.2.2 _ _ _ (by decide))⟩
theorem Ka.fn {τ : Sg} (h : Ka E D L1 L2 L3 AR1 AR2 AR3 σ) (g : FN σ τ) : Ka E D L1 L2 L3 AR1 AR2 AR3 τ :=
  ⟨g.1, fun p hp => g.sh (h.2.1 p hp), h.2.2.1.gi g.2.1 (fun _ _ => by rw [g.2.2.1]) (fun _ _ => by rw [g.2.2.1]) (fun _ _ => g.2.2.2 _ _ _ (by decide)) (fun _ _ => g.2.2.2 _ _ _ (by decide)), h.2.2.2.1.gi g.2.1 (fun _ _ => by rw [g.2.2.1]) (fun _ _ => by rw [g.2.2.1]) (fun _ _ => g.2.2.2 _ _ _ (by decide)) (fun _ _ => g.2.2.2 _ _ _ (by decide)), h.2.2.2.2.gi g.2.1 (fun _ _ => by rw [g.2.2.1]) (fun _ _ => by rw [g.2.2.1]) (fun _ _ => g.2.2.2 _ _ _ (by decide)) (fun _ _ => g.2.2.2 _ _ _ (by decide))⟩
end MSB
theorem bgR_congr {σ τ : Sg} {a1 : Nat} {c : Int32} (h1 : ∀ i, τ.2.1 150006 a1 i = σ.2.1 150006 a1 i) (h2 : ∀ i b, σ.2.1 150006 a1 i = some b → τ.1 60400 b 0 = σ.1 60400 b 0) : bgR τ a1 c = bgR σ a1 c := by
  unfold bgR
  rw [itF_congr (f := bgF (τ.2.1 150006 a1) (fun m => τ.1 60400 m 0) c) (g := bgF (σ.2.1 150006 a1) (fun m => σ.1 60400 m 0) c) 65 0 _ (fun j s _ _ => ?_)]
  unfold bgF
  rw [h1 j]
  cases e : σ.2.1 150006 a1 j with
  | none => rfl
  | some m => dsimp only; rw [h2 j m e]
theorem arP_i {σ : Sg} {a a1 m g c x i : Nat} (n0 : c ≠ 60900) (n1 : c ≠ 90100) (n2 : c ≠ 90200) : (arP σ a a1 m g).1 c x i = σ.1 c x i := by
  unfold arP
  split
  · rw [rII n2, rII n1]; show (sI σ _ _ _ _).1 c x i = _; exact rII n0
  · rw [rII n1]; show (sI σ _ _ _ _).1 c x i = _; exact rII n0
theorem arP_o {σ : Sg} {a a1 m g c x i : Nat} (n1 : c ≠ 150006) : (arP σ a a1 m g).2.1 c x i = σ.2.1 c x i := by
  unfold arP
  split
  · exact rOO n1
  · exact rOO n1
theorem arP_k {σ : Sg} {a a1 m g : Nat} : (arP σ a a1 m g).2.2 = σ.2.2 := by
  unfold arP
  split <;> rfl
def mwF (σ : Sg) (nd : Option Nat) (k : Int32) : Int32 := if k = 2 then (match nd with
  | none => 0
  | some a => if σ.1 30300 a 0 = 0 then 0 else 1) else 0
def pstN (σ : Sg) (x : Nat) (D : Nat → Nat → Nat) (j n : Nat) : Sg := itF (fnS (fnV σ x (D j)) (D j 11)) n 0 σ
/-- the message, made from the store s1 -/
def pst2 (s1 : Sg) (D : Nat → Nat → Nat) (j n m : Nat) (k : Int32) (nd : Option Nat) (a1 a2 a3 : Nat) : Sg := msB (sN s1 m 6) m (D j 8) n k ((sN s1 m 6).1 20000 (D j 0) 0) ((sN s1 m 6).1 20900 (D j 0) 0) nd a1 a2 a3
def pst5 (s1 : Sg) (D : Nat → Nat → Nat) (j q n m : Nat) (k : Int32) (nd : Option Nat) (a1 a2 a3 g : Nat) : Sg := sI (sI (itF (riF D q (D j 10) (D j 11) a1 a2 a3) n 0 (arP (pst2 s1 D j n m k nd a1 a2 a3) (D q 6) (D q 7) m g)) 40400 (D j 8) 0 0) 40300 (D j 8) 0 0
def pstF (E : FE) (s1 : Sg) (m a1 a2 a3 : Nat) (D : Nat → Nat → Nat) (j n : Nat) (k : Int32) (nd : Option Nat) : Prop := s1.2.2.2 m = 0 ∧ m ≠ fe E ∧ (sN s1 m 6).2.2.2 a1 = 0 ∧ a1 ≠ fe E ∧ (sA (msA (sN s1 m 6) m (D j 8) n k ((sN s1 m 6).1 20000 (D j 0) 0) ((sN s1 m 6).1 20900 (D j 0) 0) nd) a1 31 n).2.2.2 a2 = 0 ∧ a2 ≠ fe E ∧ (sA (sO (sA (msA (sN s1 m 6) m (D j 8) n k ((sN s1 m 6).1 20000 (D j 0) 0) ((sN s1 m 6).1 20900 (D j 0) 0) nd) a1 31 n) 60631 m 0 (some a1)) a2 32 n).2.2.2 a3 = 0 ∧ a3 ≠ fe E
def pstD (E : FE) (D : Nat → Nat → Nat) (j q n : Nat) (nd : Option Nat) (k mw : Int32) (L1 : Nat → List Nat) (s1 : Sg) (σ' : Sg) : Prop := ∃ m a1 a2 a3 g, pstF E s1 m a1 a2 a3 D j n k nd ∧ WF (pst5 s1 D j q n m k nd a1 a2 a3 g) ∧ g < 64 ∧ bgR s1 (D q 7) (celF s1 (D j 8)) = nI g ∧
  (if mw = 0 then ∃ w AR', (pst5 s1 D j q n m k nd a1 a2 a3 g).2.2.2 w = 0 ∧ w ≠ fe E ∧ LLx E 20 41 5 (fun p => D p 12) (upL L1 q (L1 q ++ [w])) AR' σ' ∧ Eqk E 20 41 (wkS (bsyS (pst5 s1 D j q n m k nd a1 a2 a3 g) m) w ((sN (bsyS (pst5 s1 D j q n m k nd a1 a2 a3 g) m) w 5).1 60000 m 0) (some m) 0) σ' else ∃ a, nd = some a ∧ σ' = queF (pst5 s1 D j q n m k nd a1 a2 a3 g) a m)
def pstP (E : FE) (D : Nat → Nat → Nat) (x j q n : Nat) (nd : Option Nat) (k : Int32) (L1 : Nat → List Nat) (σ : Sg) (v : Int32) (σ' : Sg) : Prop :=
  ((∃ i, i < n ∧ fnB σ x (D j) i) ∧ v = -3 ∧ FN σ σ') ∨ ((∀ i, i < n → ¬ fnB σ x (D j) i) ∧ FN σ (pstN σ x D j n) ∧
    ((mwF σ nd k = 0 ∧ 12 ≤ (L1 q).length ∧ v = -4 ∧ σ' = pstN σ x D j n) ∨ (¬ (mwF σ nd k = 0 ∧ 12 ≤ (L1 q).length) ∧
      ((hrfF (pstN σ x D j n) (D q) (D j 8) (D j 11) n k = 0 ∧ v = -4 ∧ σ' = pstN σ x D j n) ∨ (¬ hrfF (pstN σ x D j n) (D q) (D j 8) (D j 11) n k = 0 ∧ v = 0 ∧ pstD E D j q n nd k (mwF σ nd k) L1 (pstN σ x D j n) σ')))))
section KAQ
variable {E : FE} {D : Nat → Nat → Nat} {L1 L2 L3 : Nat → List Nat} {AR1 AR2 AR3 : Nat → Nat} {σ : Sg}
theorem Ka.bsy {m : Nat} (h : Ka E D L1 L2 L3 AR1 AR2 AR3 σ) : Ka E D L1 L2 L3 AR1 AR2 AR3 (bsyS σ m) := by
  unfold bsyS
  split
  · split
    · exact h
    · exact h.i (by decide)
  · exact h
theorem Ka.que {a m : Nat} (h : Ka E D L1 L2 L3 AR1 AR2 AR3 σ) (hm : σ.2.2.2 m = 6) : Ka E D L1 L2 L3 AR1 AR2 AR3 (queF σ a m) := by
  unfold queF
  split
  · exact (h.o (c := 30406) (a := a) (x := 0) (v := some m) (fun b hb _ => by cases hb; exact hm) (by decide) (by decide)).o (c := 30506) (a := a) (x := 0) (v := some m) (fun b hb _ => by cases hb; exact hm) (by decide) (by decide)
  · rename_i b _
    exact (h.o (c := 61106) (a := b) (x := 0) (v := some m) (fun b hb _ => by cases hb; exact hm) (by decide) (by decide)).o (c := 30506) (a := a) (x := 0) (v := some m) (fun b hb _ => by cases hb; exact hm) (by decide) (by decide)
theorem Ka.wk {w : Nat} {k c : Int32} {mo : Option Nat} (h : Ka E D L1 L2 L3 AR1 AR2 AR3 σ) (h0 : σ.2.2.2 w = 0) (he : w ≠ fe E) (hmo : ∀ m, mo = some m → σ.2.2.2 m = 6) : Ka E D L1 L2 L3 AR1 AR2 AR3 (wkS σ w k mo c) := by
  unfold wkS
  refine (((h.n (k := 5) h0 he).i (c := 50000) (a := w) (x := 0) (v := k) (by decide)).o (c := 50106) (a := w) (x := 0) (v := mo) (fun b hb _ => ?_) (by decide) (by decide)).i (c := 50200) (a := w) (x := 0) (v := c) (by decide)
  have h6 := hmo b hb
  show (if b = w then 5 else σ.2.2.2 b) = 6
  rw [if_neg (fun e => by rw [e, h0] at h6; cases h6)]; exact h6
theorem bsyS_k {m : Nat} : (bsyS σ m).2.2 = σ.2.2 := by
  unfold bsyS
  split
  · split <;> rfl
  · rfl
end KAQ
section PSD
variable {E : FE} {D : Nat → Nat → Nat} {x j q n m a1 a2 a3 g w9 a9 : Nat} {nd : Option Nat} {k : Int32} {L1 : Nat → List Nat} {AR9 : Nat → Nat} {σ s1 s2 s3 s4 σ' : Sg}
theorem pst_dlv (hB : ∀ i, i < n → ¬ fnB σ x (D j) i) (es1 : s1 = pstN σ x D j n) (hF : FN σ s1) (hmw : mwF σ nd k = 0) (hl : (L1 q).length < 12) (h71 : ¬ hrfF s1 (D q) (D j 8) (D j 11) n k = 0) (hf : pstF E s1 m a1 a2 a3 D j n k nd) (hg6 : g < 64) (hgv : bgR s1 (D q 7) (celF s1 (D j 8)) = nI g) (e2 : s2 = pst2 s1 D j n m k nd a1 a2 a3) (e3 : s3 = arP s2 (D q 6) (D q 7) m g) (e4 : s4 = itF (riF D q (D j 10) (D j 11) a1 a2 a3) n 0 s3) (k5 : WF (sI (sI s4 40400 (D j 8) 0 0) 40300 (D j 8) 0 0)) (hw9 : (sI (sI s4 40400 (D j 8) 0 0) 40300 (D j 8) 0 0).2.2.2 w9 = 0) (hwe9 : w9 ≠ fe E) (hl9 : LLx E 20 41 5 (fun p => D p 12) (upL L1 q (L1 q ++ [w9])) AR9 σ') (he9 : Eqk E 20 41 (wkS (bsyS (sI (sI s4 40400 (D j 8) 0 0) 40300 (D j 8) 0 0) m) w9 ((sN (bsyS (sI (sI s4 40400 (D j 8) 0 0) 40300 (D j 8) 0 0) m) w9 5).1 60000 m 0) (some m) 0) σ') : pstP E D x j q n nd k L1 σ 0 σ' := by
  subst e4 e3 e2
  subst es1
  refine Or.inr ⟨hB, hF, Or.inr ⟨fun h9 => absurd h9.2 (by omega), Or.inr ⟨h71, rfl, ?_⟩⟩⟩
  unfold pstD
  rw [hmw]
  exact ⟨m, a1, a2, a3, g, hf, k5, hg6, hgv, (by rw [if_pos rfl]; exact ⟨w9, AR9, hw9, hwe9, hl9, he9⟩)⟩
theorem pst_que (hB : ∀ i, i < n → ¬ fnB σ x (D j) i) (es1 : s1 = pstN σ x D j n) (hF : FN σ s1) (hmw : mwF σ (some a9) k = 1) (h71 : ¬ hrfF s1 (D q) (D j 8) (D j 11) n k = 0) (hf : pstF E s1 m a1 a2 a3 D j n k (some a9)) (hg6 : g < 64) (hgv : bgR s1 (D q 7) (celF s1 (D j 8)) = nI g) (e2 : s2 = pst2 s1 D j n m k (some a9) a1 a2 a3) (e3 : s3 = arP s2 (D q 6) (D q 7) m g) (e4 : s4 = itF (riF D q (D j 10) (D j 11) a1 a2 a3) n 0 s3) (k5 : WF (sI (sI s4 40400 (D j 8) 0 0) 40300 (D j 8) 0 0)) : pstP E D x j q n (some a9) k L1 σ 0 (queF (sI (sI s4 40400 (D j 8) 0 0) 40300 (D j 8) 0 0) a9 m) := by
  subst e4 e3 e2
  subst es1
  refine Or.inr ⟨hB, hF, Or.inr ⟨fun h9 => absurd (hmw.symm.trans h9.1) (by decide), Or.inr ⟨h71, rfl, ?_⟩⟩⟩
  unfold pstD
  rw [hmw]
  exact ⟨m, a1, a2, a3, g, hf, k5, hg6, hgv, (by rw [if_neg (by decide)]; exact ⟨a9, rfl, rfl⟩)⟩
end PSD
set_option maxRecDepth 20000 in
set_option maxHeartbeats 4000000 in
theorem c_od_post (l : Launch) (E : FE) (d : Nat) (σ : Sg) (D : Nat → Nat → Nat) (x j q n : Nat) (nd : Option Nat) (k : Int32) (L1 L2 L3 : Nat → List Nat) (AR1 AR2 AR3 : Nat → Nat) (hd : 9 ≤ d) (hx_kA : σ.2.2.2 x = 1) (hj : j < 4) (hq : q < 4) (kA : Ka E D L1 L2 L3 AR1 AR2 AR3 σ) (hn : n ≤ 4) (hit : σ.1 40300 (D j 8) 0 = nI n) (hnd : ∀ b, nd = some b → σ.2.2.2 b = 3) (hb20 : (L1 q).length < 128) (hgap : ¬ bgR σ (D q 7) (celF σ (D j 8)) = -1 → ∃ g, g < 64 ∧ bgR σ (D q 7) (celF σ (D j 8)) = nI g) : CT l E d 67 [vR (some x), vR (some (D j 0)), vR (some (D q 0)), vR nd, vI k] σ 6 477 (fun r σ' => ∃ v, r = some (vI v) ∧ pstP E D x j q n nd k L1 σ v σ' ∧ ∃ L1' AR1', Ka E D L1' L2 L3 AR1' AR2 AR3 σ') (fun _ _ => False) := by
  refine CTo ok_od_post (by decide +kernel) rfl rfl rfl ?_
  refine w_run 1 (S' := (1, [(0, vR (some x)), (1, vR (some (D j 0))), (2, vR (some (D q 0))), (3, vR nd), (4, vI k)], [vR (some (D j 0))], σ, 0, 0)) rfl ?_
  refine w_get (k := 2) (vR (σ.2.1 20404 (D j 0) 0)) rfl rfl rfl ((kA.2.1 j hj).1) rfl rfl ?_
  refine w_run 1 (S' := (6, [(5, vR (σ.2.1 20404 (D j 0) 0)), (0, vR (some x)), (1, vR (some (D j 0))), (2, vR (some (D q 0))), (3, vR nd), (4, vI k)], [], σ, 0, 0)) rfl ?_
  refine Eq.mp (congrArg (fun x9 => WG _ _ _ _ _ _ _ (6, [(5, vR x9), (0, vR (some x)), (1, vR (some (D j 0))), (2, vR (some (D q 0))), (3, vR nd), (4, vI k)], [], σ, 0, 0)) (Eq.symm ((kA.2.1 j hj).2 3 (by decide)) : some (D j 8) = σ.2.1 20404 (D j 0) 0)) ?_
  show WG _ _ _ _ _ _ _ (6, [(5, vR (some (D j 8))), (0, vR (some x)), (1, vR (some (D j 0))), (2, vR (some (D q 0))), (3, vR nd), (4, vI k)], [], σ, 0, 0)
  refine w_run 3 (S' := (10, [(5, vR (some (D j 8))), (0, vR (some x)), (1, vR (some (D j 0))), (2, vR (some (D q 0))), (3, vR nd), (4, vI k)], [vR (some (D j 8)), vR (some (D j 0)), vR (some x)], σ, 0, 0)) rfl ?_
  refine w_callV (st := []) [vR (some (D j 0)), vR (some (D j 8))] rfl ml_0_272 rfl rfl hx_kA rfl rfl rfl (by simp only [RM]; omega) (by simp only [RM]; show 8 + (4 + 11) + _ ≤ _; omega) rfl (by simp only [RM]; omega) (by simp only [RM]; omega) (c_od_findNodes l E (d - 1) σ (D j) x n (by omega) hx_kA (kA.2.1 j hj) kA.1 hn hit) (fun _ _ h => h.elim) ?_
  intro r9 s1 q9
  obtain ⟨hF, q9⟩ := q9
  have k1 := kA.fn hF
  have hit0 : s1.1 40300 (D j 8) 0 = nI n := by rw [hF.2.2.1]; exact hit
  have hx_k1 : s1.2.2.2 x = 1 := by rw [hF.2.1]; exact hx_kA
  have hnd1 : ∀ b, nd = some b → s1.2.2.2 b = 3 := fun b hb => by rw [hF.2.1]; exact hnd b hb
  rcases q9 with ⟨hB, e9⟩ | ⟨hB, e9, es1⟩
  · subst e9
    show WG _ _ _ _ _ _ _ (13, [(5, vR (some (D j 8))), (0, vR (some x)), (1, vR (some (D j 0))), (2, vR (some (D q 0))), (3, vR nd), (4, vI k)], [vI 0], s1, 0, 0)
    refine w_if_ne rfl (fun c1 => (absurd ((nI_eq (a := 0) (b := 0) (by omega) (by omega)).mpr (by omega)) c1)) (fun c1 => ?_)
    have nc1 := (nI_eq (a := 0) (b := 0) (by omega) (by omega)).mp c1
    refine w_run 1 (S' := (18, [(5, vR (some (D j 8))), (0, vR (some x)), (1, vR (some (D j 0))), (2, vR (some (D q 0))), (3, vR nd), (4, vI k)], [vI (-3)], s1, 0, 0)) rfl ?_
    exact w_iret rfl (Or.inl rfl) (by omega) (by omega) (⟨-3, rfl, Or.inl ⟨hB, rfl, hF⟩, L1, AR1, k1⟩)
  · subst e9
    show WG _ _ _ _ _ _ _ (13, [(5, vR (some (D j 8))), (0, vR (some x)), (1, vR (some (D j 0))), (2, vR (some (D q 0))), (3, vR nd), (4, vI k)], [vI 1], s1, 0, 0)
    refine w_if_ne rfl (fun c2 => ?_) (fun c2 => (absurd ((nI_eq (a := 1) (b := 0) (by omega) (by omega)).mp c2) (by omega)))
    have nc2 := mt (nI_eq (a := 1) (b := 0) (by omega) (by omega)).mpr c2
    refine w_run 2 (S' := (22, [(5, vR (some (D j 8))), (0, vR (some x)), (1, vR (some (D j 0))), (2, vR (some (D q 0))), (3, vR nd), (4, vI k)], [vI 2, vI k], s1, 0, 0)) rfl ?_
    refine w_ic_ne rfl (fun c3 => ?_) (fun c3 => ?_)
    · refine w_run 1 (S' := (41, [(5, vR (some (D j 8))), (0, vR (some x)), (1, vR (some (D j 0))), (2, vR (some (D q 0))), (3, vR nd), (4, vI k)], [vI 0], s1, 0, 0)) rfl ?_
      have hmw : mwF σ nd k = 0 := if_neg c3
      refine w_run 2 (S' := (45, [(6, vI 0), (5, vR (some (D j 8))), (0, vR (some x)), (1, vR (some (D j 0))), (2, vR (some (D q 0))), (3, vR nd), (4, vI k)], [vI 0], s1, 0, 0)) rfl ?_
      refine w_if_ne rfl (fun c4 => (absurd ((nI_eq (a := 0) (b := 0) (by omega) (by omega)).mpr (by omega)) c4)) (fun c4 => ?_)
      have nc4 := (nI_eq (a := 0) (b := 0) (by omega) (by omega)).mp c4
      refine w_run 1 (S' := (49, [(6, vI 0), (5, vR (some (D j 8))), (0, vR (some x)), (1, vR (some (D j 0))), (2, vR (some (D q 0))), (3, vR nd), (4, vI k)], [vR (some (D q 0))], s1, 0, 0)) rfl ?_
      refine w_get (k := 2) (vR (s1.2.1 20520 (D q 0) 0)) rfl rfl rfl ((k1.2.1 q hq).1) rfl rfl ?_
      refine Eq.mp (congrArg (fun x9 => WG _ _ _ _ _ _ _ (52, [(6, vI 0), (5, vR (some (D j 8))), (0, vR (some x)), (1, vR (some (D j 0))), (2, vR (some (D q 0))), (3, vR nd), (4, vI k)], [vR x9], s1, 0, 0)) (Eq.symm ((k1.2.1 q hq).2 4 (by decide)) : some (D q 12) = s1.2.1 20520 (D q 0) 0)) ?_
      show WG _ _ _ _ _ _ _ (52, [(6, vI 0), (5, vR (some (D j 8))), (0, vR (some x)), (1, vR (some (D j 0))), (2, vR (some (D q 0))), (3, vR nd), (4, vI k)], [vR (some (D q 12))], s1, 0, 0)
      refine w_callV (st := []) [] rfl ml_0_129 rfl rfl (k1.1 20520 (D q 0) 0 (D q 12) ((k1.2.1 q hq).2 4 (by decide)) (by decide)) rfl rfl rfl (by simp only [RM]; omega) (by simp only [RM]; show 8 + (1 + 11) + _ ≤ _; omega) rfl (by simp only [RM]; omega) (by simp only [RM]; omega) (c_la_size_20 l E (d - 1) s1 (fun p => D p 12) L1 AR1 k1.2.2.1 q hq) (fun _ _ h => h.elim) ?_
      intro r9 s9 q9
      rw [q9.1, q9.2]
      clear q9 r9 s9
      show WG _ _ _ _ _ _ _ (55, [(6, vI 0), (5, vR (some (D j 8))), (0, vR (some x)), (1, vR (some (D j 0))), (2, vR (some (D q 0))), (3, vR nd), (4, vI k)], [vI (nI (L1 q).length)], s1, 0, 0)
      refine w_run 1 (S' := (57, [(6, vI 0), (5, vR (some (D j 8))), (0, vR (some x)), (1, vR (some (D j 0))), (2, vR (some (D q 0))), (3, vR nd), (4, vI k)], [vI 12, vI (nI (L1 q).length)], s1, 0, 0)) rfl ?_
      rw [show (nI (L1 q).length : Int32) = nI ((L1 q).length) from by simp only [nl0, nl1, nl2, nl3, nl4, nl5, nl6, nl8, nl9, nl10, nl12, nl15, nl16, nl20, nl24, nl32, nl40, nl64, nl65, nl384, pk_mul, nI_add]]
      show WG _ _ _ _ _ _ _ (57, [(6, vI 0), (5, vR (some (D j 8))), (0, vR (some x)), (1, vR (some (D j 0))), (2, vR (some (D q 0))), (3, vR nd), (4, vI k)], [vI 12, vI (nI ((L1 q).length))], s1, 0, 0)
      refine w_ic_lt rfl (fun c5 => ?_) (fun c5 => ?_)
      · have nc5 := (nI_ltI (a := (L1 q).length) (b := 12) (by omega) (by omega)).mp c5
        refine w_run 3 (S' := (68, [(6, vI 0), (5, vR (some (D j 8))), (0, vR (some x)), (1, vR (some (D j 0))), (2, vR (some (D q 0))), (3, vR nd), (4, vI k)], [vI k, vR (some (D j 8)), vR (some (D q 0))], s1, 0, 0)) rfl ?_
        refine w_callV (st := []) [vR (some (D j 8)), vI k] rfl ml_0_279 rfl rfl ((k1.2.1 q hq).1) rfl rfl rfl (by simp only [RM]; omega) (by simp only [RM]; show 8 + (4 + 11) + _ ≤ _; omega) rfl (by simp only [RM]; omega) (by simp only [RM]; omega) (c_pr_hasRoomFor l E (d - 1) s1 (D q) (D j 8) (D j 11) n k (by omega) (k1.2.1 q hq) k1.1 ((k1.1 20404 (D j 0) 0 (D j 8) ((k1.2.1 j hj).2 3 (by decide)) (by decide))) ((k1.2.1 j hj).2 13 (by decide)) hn hit0) (fun _ _ h => h.elim) ?_
        intro r9 s9 q9
        rw [q9.1, q9.2]
        clear q9 r9 s9
        show WG _ _ _ _ _ _ _ (71, [(6, vI 0), (5, vR (some (D j 8))), (0, vR (some x)), (1, vR (some (D j 0))), (2, vR (some (D q 0))), (3, vR nd), (4, vI k)], [vI (hrfF s1 (D q) (D j 8) (D j 11) n k)], s1, 0, 0)
        refine w_if_ne rfl (fun c6 => ?_) (fun c6 => ?_)
        · have ecel : celF s1 (D j 8) = celF σ (D j 8) := by unfold celF; rw [hF.2.2.1]
          have ebg : bgR s1 (D q 7) (celF s1 (D j 8)) = bgR σ (D q 7) (celF σ (D j 8)) := by rw [ecel]; exact bgR_congr (fun i => hF.2.2.2 _ _ _ (by decide)) (fun i b _ => by rw [hF.2.2.1])
          obtain ⟨g, hg6, hgv⟩ := hgap (fun e9 => c6 (by unfold hrfF; rw [ebg, if_pos e9]))
          refine w_new (k := 6) rfl rfl 6 rfl rfl (by simp only [RM]; omega) (by simp only [RM]; show _ + 12 ≤ _; omega) (fun m hm hme => ?_)
          have hn_x : x ≠ m := ne0 (hx_k1) hm (by decide)
          have hk_x : (sN s1 m 6).2.2.2 x = 1 := by simp only [sN]; rw [if_neg hn_x]; exact hx_k1
          have hn_D_j_0 : D j 0 ≠ m := ne0 ((k1.2.1 j hj).1) hm (by decide)
          have hk_D_j_0 : (sN s1 m 6).2.2.2 (D j 0) = 2 := by simp only [sN]; rw [if_neg hn_D_j_0]; exact (k1.2.1 j hj).1
          have hn_D_j_1 : D j 1 ≠ m := ne0 ((k1.1 20111 (D j 0) 0 (D j 1) ((k1.2.1 j hj).2 0 (by decide)) (by decide))) hm (by decide)
          have hk_D_j_1 : (sN s1 m 6).2.2.2 (D j 1) = 11 := by simp only [sN]; rw [if_neg hn_D_j_1]; exact (k1.1 20111 (D j 0) 0 (D j 1) ((k1.2.1 j hj).2 0 (by decide)) (by decide))
          have hn_D_j_2 : D j 2 ≠ m := ne0 ((k1.1 20208 (D j 0) 0 (D j 2) ((k1.2.1 j hj).2 1 (by decide)) (by decide))) hm (by decide)
          have hk_D_j_2 : (sN s1 m 6).2.2.2 (D j 2) = 8 := by simp only [sN]; rw [if_neg hn_D_j_2]; exact (k1.1 20208 (D j 0) 0 (D j 2) ((k1.2.1 j hj).2 1 (by decide)) (by decide))
          have hn_D_j_6 : D j 6 ≠ m := ne0 ((k1.1 20309 (D j 0) 0 (D j 6) ((k1.2.1 j hj).2 2 (by decide)) (by decide))) hm (by decide)
          have hk_D_j_6 : (sN s1 m 6).2.2.2 (D j 6) = 9 := by simp only [sN]; rw [if_neg hn_D_j_6]; exact (k1.1 20309 (D j 0) 0 (D j 6) ((k1.2.1 j hj).2 2 (by decide)) (by decide))
          have hn_D_j_8 : D j 8 ≠ m := ne0 ((k1.1 20404 (D j 0) 0 (D j 8) ((k1.2.1 j hj).2 3 (by decide)) (by decide))) hm (by decide)
          have hk_D_j_8 : (sN s1 m 6).2.2.2 (D j 8) = 4 := by simp only [sN]; rw [if_neg hn_D_j_8]; exact (k1.1 20404 (D j 0) 0 (D j 8) ((k1.2.1 j hj).2 3 (by decide)) (by decide))
          have hn_D_j_12 : D j 12 ≠ m := ne0 ((k1.1 20520 (D j 0) 0 (D j 12) ((k1.2.1 j hj).2 4 (by decide)) (by decide))) hm (by decide)
          have hk_D_j_12 : (sN s1 m 6).2.2.2 (D j 12) = 20 := by simp only [sN]; rw [if_neg hn_D_j_12]; exact (k1.1 20520 (D j 0) 0 (D j 12) ((k1.2.1 j hj).2 4 (by decide)) (by decide))
          have hn_D_j_13 : D j 13 ≠ m := ne0 ((k1.1 20621 (D j 0) 0 (D j 13) ((k1.2.1 j hj).2 5 (by decide)) (by decide))) hm (by decide)
          have hk_D_j_13 : (sN s1 m 6).2.2.2 (D j 13) = 21 := by simp only [sN]; rw [if_neg hn_D_j_13]; exact (k1.1 20621 (D j 0) 0 (D j 13) ((k1.2.1 j hj).2 5 (by decide)) (by decide))
          have hn_D_j_14 : D j 14 ≠ m := ne0 ((k1.1 20722 (D j 0) 0 (D j 14) ((k1.2.1 j hj).2 6 (by decide)) (by decide))) hm (by decide)
          have hk_D_j_14 : (sN s1 m 6).2.2.2 (D j 14) = 22 := by simp only [sN]; rw [if_neg hn_D_j_14]; exact (k1.1 20722 (D j 0) 0 (D j 14) ((k1.2.1 j hj).2 6 (by decide)) (by decide))
          have hn_D_j_3 : D j 3 ≠ m := ne0 ((k1.1 80012 (D j 2) 0 (D j 3) ((k1.2.1 j hj).2 7 (by decide)) (by decide))) hm (by decide)
          have hk_D_j_3 : (sN s1 m 6).2.2.2 (D j 3) = 12 := by simp only [sN]; rw [if_neg hn_D_j_3]; exact (k1.1 80012 (D j 2) 0 (D j 3) ((k1.2.1 j hj).2 7 (by decide)) (by decide))
          have hn_D_j_4 : D j 4 ≠ m := ne0 ((k1.1 80113 (D j 2) 0 (D j 4) ((k1.2.1 j hj).2 8 (by decide)) (by decide))) hm (by decide)
          have hk_D_j_4 : (sN s1 m 6).2.2.2 (D j 4) = 13 := by simp only [sN]; rw [if_neg hn_D_j_4]; exact (k1.1 80113 (D j 2) 0 (D j 4) ((k1.2.1 j hj).2 8 (by decide)) (by decide))
          have hn_D_j_5 : D j 5 ≠ m := ne0 ((k1.1 80214 (D j 2) 0 (D j 5) ((k1.2.1 j hj).2 9 (by decide)) (by decide))) hm (by decide)
          have hk_D_j_5 : (sN s1 m 6).2.2.2 (D j 5) = 14 := by simp only [sN]; rw [if_neg hn_D_j_5]; exact (k1.1 80214 (D j 2) 0 (D j 5) ((k1.2.1 j hj).2 9 (by decide)) (by decide))
          have hn_D_j_7 : D j 7 ≠ m := ne0 ((k1.1 90015 (D j 6) 0 (D j 7) ((k1.2.1 j hj).2 10 (by decide)) (by decide))) hm (by decide)
          have hk_D_j_7 : (sN s1 m 6).2.2.2 (D j 7) = 15 := by simp only [sN]; rw [if_neg hn_D_j_7]; exact (k1.1 90015 (D j 6) 0 (D j 7) ((k1.2.1 j hj).2 10 (by decide)) (by decide))
          have hn_D_j_9 : D j 9 ≠ m := ne0 ((k1.1 40016 (D j 8) 0 (D j 9) ((k1.2.1 j hj).2 11 (by decide)) (by decide))) hm (by decide)
          have hk_D_j_9 : (sN s1 m 6).2.2.2 (D j 9) = 16 := by simp only [sN]; rw [if_neg hn_D_j_9]; exact (k1.1 40016 (D j 8) 0 (D j 9) ((k1.2.1 j hj).2 11 (by decide)) (by decide))
          have hn_D_j_10 : D j 10 ≠ m := ne0 ((k1.1 40117 (D j 8) 0 (D j 10) ((k1.2.1 j hj).2 12 (by decide)) (by decide))) hm (by decide)
          have hk_D_j_10 : (sN s1 m 6).2.2.2 (D j 10) = 17 := by simp only [sN]; rw [if_neg hn_D_j_10]; exact (k1.1 40117 (D j 8) 0 (D j 10) ((k1.2.1 j hj).2 12 (by decide)) (by decide))
          have hn_D_j_11 : D j 11 ≠ m := ne0 ((k1.1 40218 (D j 8) 0 (D j 11) ((k1.2.1 j hj).2 13 (by decide)) (by decide))) hm (by decide)
          have hk_D_j_11 : (sN s1 m 6).2.2.2 (D j 11) = 18 := by simp only [sN]; rw [if_neg hn_D_j_11]; exact (k1.1 40218 (D j 8) 0 (D j 11) ((k1.2.1 j hj).2 13 (by decide)) (by decide))
          have hn_D_q_0 : D q 0 ≠ m := ne0 ((k1.2.1 q hq).1) hm (by decide)
          have hk_D_q_0 : (sN s1 m 6).2.2.2 (D q 0) = 2 := by simp only [sN]; rw [if_neg hn_D_q_0]; exact (k1.2.1 q hq).1
          have hn_D_q_1 : D q 1 ≠ m := ne0 ((k1.1 20111 (D q 0) 0 (D q 1) ((k1.2.1 q hq).2 0 (by decide)) (by decide))) hm (by decide)
          have hk_D_q_1 : (sN s1 m 6).2.2.2 (D q 1) = 11 := by simp only [sN]; rw [if_neg hn_D_q_1]; exact (k1.1 20111 (D q 0) 0 (D q 1) ((k1.2.1 q hq).2 0 (by decide)) (by decide))
          have hn_D_q_2 : D q 2 ≠ m := ne0 ((k1.1 20208 (D q 0) 0 (D q 2) ((k1.2.1 q hq).2 1 (by decide)) (by decide))) hm (by decide)
          have hk_D_q_2 : (sN s1 m 6).2.2.2 (D q 2) = 8 := by simp only [sN]; rw [if_neg hn_D_q_2]; exact (k1.1 20208 (D q 0) 0 (D q 2) ((k1.2.1 q hq).2 1 (by decide)) (by decide))
          have hn_D_q_6 : D q 6 ≠ m := ne0 ((k1.1 20309 (D q 0) 0 (D q 6) ((k1.2.1 q hq).2 2 (by decide)) (by decide))) hm (by decide)
          have hk_D_q_6 : (sN s1 m 6).2.2.2 (D q 6) = 9 := by simp only [sN]; rw [if_neg hn_D_q_6]; exact (k1.1 20309 (D q 0) 0 (D q 6) ((k1.2.1 q hq).2 2 (by decide)) (by decide))
          have hn_D_q_8 : D q 8 ≠ m := ne0 ((k1.1 20404 (D q 0) 0 (D q 8) ((k1.2.1 q hq).2 3 (by decide)) (by decide))) hm (by decide)
          have hk_D_q_8 : (sN s1 m 6).2.2.2 (D q 8) = 4 := by simp only [sN]; rw [if_neg hn_D_q_8]; exact (k1.1 20404 (D q 0) 0 (D q 8) ((k1.2.1 q hq).2 3 (by decide)) (by decide))
          have hn_D_q_12 : D q 12 ≠ m := ne0 ((k1.1 20520 (D q 0) 0 (D q 12) ((k1.2.1 q hq).2 4 (by decide)) (by decide))) hm (by decide)
          have hk_D_q_12 : (sN s1 m 6).2.2.2 (D q 12) = 20 := by simp only [sN]; rw [if_neg hn_D_q_12]; exact (k1.1 20520 (D q 0) 0 (D q 12) ((k1.2.1 q hq).2 4 (by decide)) (by decide))
          have hn_D_q_13 : D q 13 ≠ m := ne0 ((k1.1 20621 (D q 0) 0 (D q 13) ((k1.2.1 q hq).2 5 (by decide)) (by decide))) hm (by decide)
          have hk_D_q_13 : (sN s1 m 6).2.2.2 (D q 13) = 21 := by simp only [sN]; rw [if_neg hn_D_q_13]; exact (k1.1 20621 (D q 0) 0 (D q 13) ((k1.2.1 q hq).2 5 (by decide)) (by decide))
          have hn_D_q_14 : D q 14 ≠ m := ne0 ((k1.1 20722 (D q 0) 0 (D q 14) ((k1.2.1 q hq).2 6 (by decide)) (by decide))) hm (by decide)
          have hk_D_q_14 : (sN s1 m 6).2.2.2 (D q 14) = 22 := by simp only [sN]; rw [if_neg hn_D_q_14]; exact (k1.1 20722 (D q 0) 0 (D q 14) ((k1.2.1 q hq).2 6 (by decide)) (by decide))
          have hn_D_q_3 : D q 3 ≠ m := ne0 ((k1.1 80012 (D q 2) 0 (D q 3) ((k1.2.1 q hq).2 7 (by decide)) (by decide))) hm (by decide)
          have hk_D_q_3 : (sN s1 m 6).2.2.2 (D q 3) = 12 := by simp only [sN]; rw [if_neg hn_D_q_3]; exact (k1.1 80012 (D q 2) 0 (D q 3) ((k1.2.1 q hq).2 7 (by decide)) (by decide))
          have hn_D_q_4 : D q 4 ≠ m := ne0 ((k1.1 80113 (D q 2) 0 (D q 4) ((k1.2.1 q hq).2 8 (by decide)) (by decide))) hm (by decide)
          have hk_D_q_4 : (sN s1 m 6).2.2.2 (D q 4) = 13 := by simp only [sN]; rw [if_neg hn_D_q_4]; exact (k1.1 80113 (D q 2) 0 (D q 4) ((k1.2.1 q hq).2 8 (by decide)) (by decide))
          have hn_D_q_5 : D q 5 ≠ m := ne0 ((k1.1 80214 (D q 2) 0 (D q 5) ((k1.2.1 q hq).2 9 (by decide)) (by decide))) hm (by decide)
          have hk_D_q_5 : (sN s1 m 6).2.2.2 (D q 5) = 14 := by simp only [sN]; rw [if_neg hn_D_q_5]; exact (k1.1 80214 (D q 2) 0 (D q 5) ((k1.2.1 q hq).2 9 (by decide)) (by decide))
          have hn_D_q_7 : D q 7 ≠ m := ne0 ((k1.1 90015 (D q 6) 0 (D q 7) ((k1.2.1 q hq).2 10 (by decide)) (by decide))) hm (by decide)
          have hk_D_q_7 : (sN s1 m 6).2.2.2 (D q 7) = 15 := by simp only [sN]; rw [if_neg hn_D_q_7]; exact (k1.1 90015 (D q 6) 0 (D q 7) ((k1.2.1 q hq).2 10 (by decide)) (by decide))
          have hn_D_q_9 : D q 9 ≠ m := ne0 ((k1.1 40016 (D q 8) 0 (D q 9) ((k1.2.1 q hq).2 11 (by decide)) (by decide))) hm (by decide)
          have hk_D_q_9 : (sN s1 m 6).2.2.2 (D q 9) = 16 := by simp only [sN]; rw [if_neg hn_D_q_9]; exact (k1.1 40016 (D q 8) 0 (D q 9) ((k1.2.1 q hq).2 11 (by decide)) (by decide))
          have hn_D_q_10 : D q 10 ≠ m := ne0 ((k1.1 40117 (D q 8) 0 (D q 10) ((k1.2.1 q hq).2 12 (by decide)) (by decide))) hm (by decide)
          have hk_D_q_10 : (sN s1 m 6).2.2.2 (D q 10) = 17 := by simp only [sN]; rw [if_neg hn_D_q_10]; exact (k1.1 40117 (D q 8) 0 (D q 10) ((k1.2.1 q hq).2 12 (by decide)) (by decide))
          have hn_D_q_11 : D q 11 ≠ m := ne0 ((k1.1 40218 (D q 8) 0 (D q 11) ((k1.2.1 q hq).2 13 (by decide)) (by decide))) hm (by decide)
          have hk_D_q_11 : (sN s1 m 6).2.2.2 (D q 11) = 18 := by simp only [sN]; rw [if_neg hn_D_q_11]; exact (k1.1 40218 (D q 8) 0 (D q 11) ((k1.2.1 q hq).2 13 (by decide)) (by decide))
          have hkm : (sN s1 m 6).2.2.2 m = 6 := by simp [sN]
          show WG _ _ _ _ _ _ _ (80, [(6, vI 0), (5, vR (some (D j 8))), (0, vR (some x)), (1, vR (some (D j 0))), (2, vR (some (D q 0))), (3, vR nd), (4, vI k)], [vR (some m)], sN s1 m 6, 0 + 1, 0 + 12)
          have hit1 : (sN s1 m 6).1 40300 (D j 8) 0 = nI n := (if_neg hn_D_j_8).trans hit0
          refine w_run 3 (S' := (84, [(6, vI 0), (5, vR (some (D j 8))), (0, vR (some x)), (1, vR (some (D j 0))), (2, vR (some (D q 0))), (3, vR nd), (4, vI k)], [vR (some (D j 0)), vI k, vR (some m), vR (some m)], sN s1 m 6, 0 + 1, 0 + 12)) rfl ?_
          refine w_get (k := 2) (vI ((sN s1 m 6).1 20000 (D j 0) 0)) rfl rfl rfl hk_D_j_0 rfl rfl ?_
          refine w_run 1 (S' := (88, [(6, vI 0), (5, vR (some (D j 8))), (0, vR (some x)), (1, vR (some (D j 0))), (2, vR (some (D q 0))), (3, vR nd), (4, vI k)], [vR (some (D j 0)), vI ((sN s1 m 6).1 20000 (D j 0) 0), vI k, vR (some m), vR (some m)], sN s1 m 6, 0 + 1, 0 + 12)) rfl ?_
          refine w_get (k := 2) (vI ((sN s1 m 6).1 20900 (D j 0) 0)) rfl rfl rfl hk_D_j_0 rfl rfl ?_
          refine w_run 2 (S' := (94, [(6, vI 0), (5, vR (some (D j 8))), (0, vR (some x)), (1, vR (some (D j 0))), (2, vR (some (D q 0))), (3, vR nd), (4, vI k)], [vR (some (D j 8)), vR nd, vI ((sN s1 m 6).1 20900 (D j 0) 0), vI ((sN s1 m 6).1 20000 (D j 0) 0), vI k, vR (some m), vR (some m)], sN s1 m 6, 0 + 1, 0 + 12)) rfl ?_
          refine w_callI (st := [vR (some m)]) [vI k, vI ((sN s1 m 6).1 20000 (D j 0) 0), vI ((sN s1 m 6).1 20900 (D j 0) 0), vR nd, vR (some (D j 8))] rfl ml_0_286 rfl rfl (by simp only [RM]; omega) (by simp only [RM]; show 8 + (6 + 11) + _ ≤ _; omega) rfl (by simp only [RM]; omega) (by simp only [RM]; omega) (c_ms_init l E (d - 1) (sN s1 m 6) m (D j 8) n k ((sN s1 m 6).1 20000 (D j 0) 0) ((sN s1 m 6).1 20900 (D j 0) 0) nd (by omega) hkm hk_D_j_8 hit1 hn (fun b hb => by rw [show (sN s1 m 6).2.2.2 b = s1.2.2.2 b from if_neg (fun e9 => by have h9 := hnd1 b hb; rw [e9, hm] at h9; cases h9)]; exact hnd1 b hb)) ?_
          intro r9 s2 q9
          obtain ⟨e1, a1, a2, a3, f1, f1e, f2, f2e, f3, f3e, e2⟩ := q9
          subst e1
          have kN : Ka E D L1 L2 L3 AR1 AR2 AR3 (sN s1 m 6) := k1.n hm hme
          have hndN : ∀ b, nd = some b → (sN s1 m 6).2.2.2 b = 3 := fun b hb => by rw [show (sN s1 m 6).2.2.2 b = s1.2.2.2 b from if_neg (fun e9 => by have h9 := hnd1 b hb; rw [e9, hm] at h9; cases h9)]; exact hnd1 b hb
          have k2 : Ka E D L1 L2 L3 AR1 AR2 AR3 s2 := by rw [e2]; exact kN.msB hndN hkm f1 f2 f3 f1e f2e f3e
          obtain ⟨dd, hz2, hz3⟩ : (m ≠ a1 ∧ m ≠ a2 ∧ m ≠ a3 ∧ a1 ≠ a2 ∧ a1 ≠ a3 ∧ a2 ≠ a3) ∧ (sN s1 m 6).2.2.2 a2 = 0 ∧ (sN s1 m 6).2.2.2 a3 = 0 := (by obtain ⟨x1, x2, x3, x4, x5, x6, x7, x8⟩ := msB_d hkm f1 f2 f3; exact ⟨⟨x1, x2, x3, x4, x5, x6⟩, x7, x8⟩)
          obtain ⟨u1, u2, u3, u4, u5, u6⟩ := msB_f (σ := sN s1 m 6) (s := D j 8) (it := n) (k := k) (x := (sN s1 m 6).1 20000 (D j 0) 0) (y := (sN s1 m 6).1 20900 (D j 0) 0) (nd := nd) dd
          obtain ⟨u7, u8, u9, u10, u11, u12⟩ := msB_g (σ := sN s1 m 6) (s := D j 8) (it := n) (k := k) (x := (sN s1 m 6).1 20000 (D j 0) 0) (y := (sN s1 m 6).1 20900 (D j 0) 0) (nd := nd) dd
          rw [← e2] at u1 u2 u3 u4 u5 u6 u7 u8 u9 u10 u11 u12
          have hkN : ∀ b, s1.2.2.2 b ≠ 0 → s2.2.2.2 b = s1.2.2.2 b := fun b hb => by rw [e2, msB_k (fun e9 => hb (by rw [e9]; by_cases z : a1 = m; exact absurd z.symm dd.1; have h9 : (if a1 = m then 6 else s1.2.2.2 a1) = 0 := f1; rw [if_neg z] at h9; exact h9)) (fun e9 => hb (by rw [e9]; by_cases z : a2 = m; exact absurd z.symm dd.2.1; have h9 : (if a2 = m then 6 else s1.2.2.2 a2) = 0 := hz2; rw [if_neg z] at h9; exact h9)) (fun e9 => hb (by rw [e9]; by_cases z : a3 = m; exact absurd z.symm dd.2.2.1; have h9 : (if a3 = m then 6 else s1.2.2.2 a3) = 0 := hz3; rw [if_neg z] at h9; exact h9))]; exact if_neg (fun e9 => hb (by rw [e9]; exact hm))
          have hm2 : s2.2.2.2 m = 6 := by rw [e2, msB_k dd.1 dd.2.1 dd.2.2.1]; exact hkm
          have hx_k2 : s2.2.2.2 x = 1 := (hkN x (by rw [hx_k1]; decide)).trans hx_k1
          have hfr : ∀ c b i, s1.2.2.2 b ≠ 0 → s2.1 c b i = s1.1 c b i ∧ s2.2.1 c b i = s1.2.1 c b i := fun c b i hb => by have n0 : b ≠ m := fun e9 => hb (by rw [e9]; exact hm); have ha : ∀ a, (sN s1 m 6).2.2.2 a = 0 → b ≠ a := fun a ha e9 => hb (by have h9 : (if a = m then 6 else s1.2.2.2 a) = 0 := ha; rw [e9]; by_cases z : a = m; rw [if_pos z] at h9; cases h9; rw [if_neg z] at h9; exact h9); have h8 := msB_o (σ := sN s1 m 6) (s := D j 8) (it := n) (k := k) (x := (sN s1 m 6).1 20000 (D j 0) 0) (y := (sN s1 m 6).1 20900 (D j 0) 0) (nd := nd) n0 (ha a1 f1) (ha a2 hz2) (ha a3 hz3) c i; rw [← e2] at h8; have h7 : (sN s1 m 6).1 c b i = s1.1 c b i ∧ (sN s1 m 6).2.1 c b i = s1.2.1 c b i := ⟨if_neg n0, if_neg n0⟩; exact ⟨h8.1.trans h7.1, h8.2.trans h7.2⟩
          have hbg : bgR s2 (D q 7) (s2.1 60400 m 0) = nI g := by rw [u5, show celF (sN s1 m 6) (D j 8) = celF s1 (D j 8) from (by have n8 : D j 8 ≠ m := (fun e9 => (by have h9 := (k1.1 20404 (D j 0) 0 (D j 8) ((k1.2.1 j hj).2 3 (by decide)) (by decide)); rw [e9, hm] at h9; cases h9)); simp [celF, sN, n8])]; rw [bgR_congr (σ := s1) (fun i => (hfr _ _ _ (by rw [(k1.1 90015 (D q 6) 0 (D q 7) ((k1.2.1 q hq).2 10 (by decide)) (by decide))]; decide)).2) (fun i b hb => (hfr _ _ _ (by rw [k1.1 _ _ _ _ hb (by decide)]; decide)).1)]; rw [ebg]; exact hgv
          show WG _ _ _ _ _ _ _ (97, [(6, vI 0), (5, vR (some (D j 8))), (0, vR (some x)), (1, vR (some (D j 0))), (2, vR (some (D q 0))), (3, vR nd), (4, vI k)], [vR (some m)], s2, 0 + 1 + 3, 0 + 12 + 12)
          refine w_run 2 (S' := (100, [(7, vR (some m)), (6, vI 0), (5, vR (some (D j 8))), (0, vR (some x)), (1, vR (some (D j 0))), (2, vR (some (D q 0))), (3, vR nd), (4, vI k)], [vR (some (D q 0))], s2, 0 + 1 + 3, 0 + 12 + 12)) rfl ?_
          refine w_get (k := 2) (vR (s2.2.1 20309 (D q 0) 0)) rfl rfl rfl ((k2.2.1 q hq).1) rfl rfl ?_
          refine w_run 1 (S' := (105, [(7, vR (some m)), (6, vI 0), (5, vR (some (D j 8))), (0, vR (some x)), (1, vR (some (D j 0))), (2, vR (some (D q 0))), (3, vR nd), (4, vI k)], [vR (some m), vR (s2.2.1 20309 (D q 0) 0)], s2, 0 + 1 + 3, 0 + 12 + 12)) rfl ?_
          refine Eq.mp (congrArg (fun x9 => WG _ _ _ _ _ _ _ (105, [(7, vR (some m)), (6, vI 0), (5, vR (some (D j 8))), (0, vR (some x)), (1, vR (some (D j 0))), (2, vR (some (D q 0))), (3, vR nd), (4, vI k)], [vR (some m), vR x9], s2, 0 + 1 + 3, 0 + 12 + 12)) (Eq.symm ((k2.2.1 q hq).2 2 (by decide)) : some (D q 6) = s2.2.1 20309 (D q 0) 0)) ?_
          show WG _ _ _ _ _ _ _ (105, [(7, vR (some m)), (6, vI 0), (5, vR (some (D j 8))), (0, vR (some x)), (1, vR (some (D j 0))), (2, vR (some (D q 0))), (3, vR nd), (4, vI k)], [vR (some m), vR (some (D q 6))], s2, 0 + 1 + 3, 0 + 12 + 12)
          refine w_callV (st := []) [vR (some m)] rfl ml_0_289 rfl rfl (k2.1 20309 (D q 0) 0 (D q 6) ((k2.2.1 q hq).2 2 (by decide)) (by decide)) rfl rfl rfl (by simp only [RM]; omega) (by simp only [RM]; show 8 + (3 + 11) + _ ≤ _; omega) rfl (by simp only [RM]; omega) (by simp only [RM]; omega) (c_ar_put l E (d - 1) s2 (D q 6) (D q 7) m g 0 (by omega) ((k2.1 20309 (D q 0) 0 (D q 6) ((k2.2.1 q hq).2 2 (by decide)) (by decide))) ((k2.2.1 q hq).2 10 (by decide)) k2.1 hm2 hbg hg6) (fun _ _ h => h.elim) ?_
          intro r9 s3 q9
          obtain ⟨e1, e3⟩ := q9
          subst e1
          have k3 : Ka E D L1 L2 L3 AR1 AR2 AR3 s3 := by rw [e3]; exact k2.arP hm2
          have hk3 : s3.2.2 = s2.2.2 := by rw [e3]; exact arP_k
          have hm3 : s3.2.2.2 m = 6 := by rw [hk3]; exact hm2
          have hx_k3 : s3.2.2.2 x = 1 := by rw [hk3]; exact hx_k2
          show WG _ _ _ _ _ _ _ (108, [(7, vR (some m)), (6, vI 0), (5, vR (some (D j 8))), (0, vR (some x)), (1, vR (some (D j 0))), (2, vR (some (D q 0))), (3, vR nd), (4, vI k)], [], s3, 0 + 1 + 3, 0 + 12 + 12)
          refine w_run 3 (S' := (113, [(7, vR (some m)), (6, vI 0), (5, vR (some (D j 8))), (0, vR (some x)), (1, vR (some (D j 0))), (2, vR (some (D q 0))), (3, vR nd), (4, vI k)], [vR (some m), vR (some (D j 8)), vR (some (D q 0))], s3, 0 + 1 + 3, 0 + 12 + 12)) rfl ?_
          refine w_callV (st := []) [vR (some (D j 8)), vR (some m)] rfl ml_0_292 rfl rfl ((k3.2.1 q hq).1) rfl rfl rfl (by simp only [RM]; omega) (by simp only [RM]; show 8 + (5 + 11) + _ ≤ _; omega) rfl (by simp only [RM]; omega) (by simp only [RM]; omega) (c_pr_receiveItems l E (d - 1) s3 D q (D j 8) (D j 10) (D j 11) m a1 a2 a3 n (by omega) (k3.2.1 q hq) ((k3.1 20404 (D j 0) 0 (D j 8) ((k3.2.1 j hj).2 3 (by decide)) (by decide))) ((k3.2.1 j hj).2 12 (by decide)) ((k3.2.1 j hj).2 13 (by decide)) hm3 ((show s3.1 _ _ _ = s2.1 _ _ _ by rw [e3]; exact arP_i (by decide) (by decide) (by decide)).trans u6) hn ((show s3.2.1 _ _ _ = s2.2.1 _ _ _ by rw [e3]; exact arP_o (by decide)).trans u7) ((show s3.2.1 _ _ _ = s2.2.1 _ _ _ by rw [e3]; exact arP_o (by decide)).trans u8) ((show s3.2.1 _ _ _ = s2.2.1 _ _ _ by rw [e3]; exact arP_o (by decide)).trans u9) ((show s3.1 _ _ _ = s2.1 _ _ _ by rw [e3]; exact arP_i (by decide) (by decide) (by decide)).trans u10) ((show s3.1 _ _ _ = s2.1 _ _ _ by rw [e3]; exact arP_i (by decide) (by decide) (by decide)).trans u11) ((show s3.1 _ _ _ = s2.1 _ _ _ by rw [e3]; exact arP_i (by decide) (by decide) (by decide)).trans u12) k3.1) (fun _ _ h => h.elim) ?_
          intro r9 s4 q9
          obtain ⟨e1, e4, hG4⟩ := q9
          subst e1
          have k4 := k3.gi hG4
          have hm4 : s4.2.2.2 m = 6 := by rw [hG4.2.1]; exact hm3
          have hx_k4 : s4.2.2.2 x = 1 := by rw [hG4.2.1]; exact hx_k3
          show WG _ _ _ _ _ _ _ (116, [(7, vR (some m)), (6, vI 0), (5, vR (some (D j 8))), (0, vR (some x)), (1, vR (some (D j 0))), (2, vR (some (D q 0))), (3, vR nd), (4, vI k)], [], s4, 0 + 1 + 3, 0 + 12 + 12)
          refine w_run 2 (S' := (119, [(7, vR (some m)), (6, vI 0), (5, vR (some (D j 8))), (0, vR (some x)), (1, vR (some (D j 0))), (2, vR (some (D q 0))), (3, vR nd), (4, vI k)], [vI 0, vR (some (D j 8))], s4, 0 + 1 + 3, 0 + 12 + 12)) rfl ?_
          refine w_callV (st := []) [vI 0] rfl ml_0_98 rfl rfl (k4.1 20404 (D j 0) 0 (D j 8) ((k4.2.1 j hj).2 3 (by decide)) (by decide)) rfl rfl rfl (by simp only [RM]; omega) (by simp only [RM]; show 8 + (2 + 11) + _ ≤ _; omega) rfl (by simp only [RM]; omega) (by simp only [RM]; omega) (c_dr_begin l E (d - 1) s4 (D j 8) 0 ((k4.1 20404 (D j 0) 0 (D j 8) ((k4.2.1 j hj).2 3 (by decide)) (by decide)))) (fun _ _ h => h.elim) ?_
          intro r9 s9 q9
          rw [q9.1, q9.2]
          clear q9 r9 s9
          have k5 : Ka E D L1 L2 L3 AR1 AR2 AR3 (sI (sI s4 40400 (D j 8) 0 0) 40300 (D j 8) 0 0) := (k4.i (by decide)).i (by decide)
          have hx_k5 : (sI (sI s4 40400 (D j 8) 0 0) 40300 (D j 8) 0 0).2.2.2 x = 1 := hx_k4
          show WG _ _ _ _ _ _ _ (122, [(7, vR (some m)), (6, vI 0), (5, vR (some (D j 8))), (0, vR (some x)), (1, vR (some (D j 0))), (2, vR (some (D q 0))), (3, vR nd), (4, vI k)], [], sI (sI s4 40400 (D j 8) 0 0) 40300 (D j 8) 0 0, 0 + 1 + 3, 0 + 12 + 12)
          refine w_run 1 (S' := (124, [(7, vR (some m)), (6, vI 0), (5, vR (some (D j 8))), (0, vR (some x)), (1, vR (some (D j 0))), (2, vR (some (D q 0))), (3, vR nd), (4, vI k)], [vI 0], sI (sI s4 40400 (D j 8) 0 0) 40300 (D j 8) 0 0, 0 + 1 + 3, 0 + 12 + 12)) rfl ?_
          refine w_if_eq rfl (fun c7 => ?_) (fun c7 => (absurd ((nI_eq (a := 0) (b := 0) (by omega) (by omega)).mpr (by omega)) c7))
          have nc7 := (nI_eq (a := 0) (b := 0) (by omega) (by omega)).mp c7
          refine w_run 2 (S' := (139, [(7, vR (some m)), (6, vI 0), (5, vR (some (D j 8))), (0, vR (some x)), (1, vR (some (D j 0))), (2, vR (some (D q 0))), (3, vR nd), (4, vI k)], [vR (some m), vR (some (D q 0))], sI (sI s4 40400 (D j 8) 0 0) 40300 (D j 8) 0 0, 0 + 1 + 3, 0 + 12 + 12)) rfl ?_
          refine w_callV (st := []) [vR (some m)] rfl ml_0_299 rfl rfl ((k5.2.1 q hq).1) rfl rfl rfl (by simp only [RM]; omega) (by simp only [RM]; show 8 + (2 + 11) + _ ≤ _; omega) rfl (by simp only [RM]; omega) (by simp only [RM]; omega) (c_pr_deliver l E (d - 1) (sI (sI s4 40400 (D j 8) 0 0) 40300 (D j 8) 0 0) D q m L1 AR1 (by omega) hq (k5.2.1 q hq) k5.1 k5.2.2.1 hm4 hb20) (fun _ _ h => h.elim) ?_
          intro r9 s9 q9
          obtain ⟨e1, w9, AR9, hw9, hwe9, hl9, he9⟩ := q9
          subst e1
          show WG _ _ _ _ _ _ _ (142, [(7, vR (some m)), (6, vI 0), (5, vR (some (D j 8))), (0, vR (some x)), (1, vR (some (D j 0))), (2, vR (some (D q 0))), (3, vR nd), (4, vI k)], [], s9, 0 + 1 + 3 + 2, 0 + 12 + 12 + 453)
          refine w_run 1 (S' := (143, [(7, vR (some m)), (6, vI 0), (5, vR (some (D j 8))), (0, vR (some x)), (1, vR (some (D j 0))), (2, vR (some (D q 0))), (3, vR nd), (4, vI k)], [vI 0], s9, 0 + 1 + 3 + 2, 0 + 12 + 12 + 453)) rfl ?_
          exact w_iret rfl (Or.inl rfl) (by omega) (by omega) (⟨0, rfl, pst_dlv hB es1 hF hmw (by omega) c6 ⟨hm, hme, f1, f1e, f2, f2e, f3, f3e⟩ hg6 (ebg.trans hgv) e2 e3 e4 k5.1 hw9 hwe9 hl9 he9, _, AR9, (k5.bsy.wk (by rw [bsyS_k]; exact hw9) hwe9 (fun m9 e9 => by cases e9; rw [bsyS_k]; exact hm4)).a20 he9 hl9⟩)
        · refine w_run 1 (S' := (76, [(6, vI 0), (5, vR (some (D j 8))), (0, vR (some x)), (1, vR (some (D j 0))), (2, vR (some (D q 0))), (3, vR nd), (4, vI k)], [vI (-4)], s1, 0, 0)) rfl ?_
          exact w_iret rfl (Or.inl rfl) (by omega) (by omega) (⟨-4, rfl, Or.inr ⟨hB, (show FN σ (pstN σ x D j n) from by rw [pstN, ← es1]; exact hF), Or.inr ⟨fun h9 => absurd h9.2 (by omega), Or.inl ⟨by rw [(show pstN σ x D j n = s1 from es1.symm)]; exact c6, rfl, es1⟩⟩⟩, L1, AR1, k1⟩)
      · have nc5 := mt (nI_ltI (a := (L1 q).length) (b := 12) (by omega) (by omega)).mpr c5
        refine w_run 1 (S' := (62, [(6, vI 0), (5, vR (some (D j 8))), (0, vR (some x)), (1, vR (some (D j 0))), (2, vR (some (D q 0))), (3, vR nd), (4, vI k)], [vI (-4)], s1, 0, 0)) rfl ?_
        exact w_iret rfl (Or.inl rfl) (by omega) (by omega) (⟨-4, rfl, Or.inr ⟨hB, (show FN σ (pstN σ x D j n) from by rw [pstN, ← es1]; exact hF), Or.inl ⟨hmw, Nat.not_lt.mp nc5, rfl, es1⟩⟩, L1, AR1, k1⟩)
    · refine w_run 1 (S' := (26, [(5, vR (some (D j 8))), (0, vR (some x)), (1, vR (some (D j 0))), (2, vR (some (D q 0))), (3, vR nd), (4, vI k)], [vR nd], s1, 0, 0)) rfl ?_
      cases nd with
      | none =>
        show WG _ _ _ _ _ _ _ (26, [(5, vR (some (D j 8))), (0, vR (some x)), (1, vR (some (D j 0))), (2, vR (some (D q 0))), (3, vR none), (4, vI k)], [vR none], s1, 0, 0)
        refine w_null rfl (fun c8 => ?_) (fun b9 c8 => (by cases c8))
        refine w_run 1 (S' := (41, [(5, vR (some (D j 8))), (0, vR (some x)), (1, vR (some (D j 0))), (2, vR (some (D q 0))), (3, vR none), (4, vI k)], [vI 0], s1, 0, 0)) rfl ?_
        have hmw : mwF σ none k = 0 := if_pos c3
        refine w_run 2 (S' := (45, [(6, vI 0), (5, vR (some (D j 8))), (0, vR (some x)), (1, vR (some (D j 0))), (2, vR (some (D q 0))), (3, vR none), (4, vI k)], [vI 0], s1, 0, 0)) rfl ?_
        refine w_if_ne rfl (fun c10 => (absurd ((nI_eq (a := 0) (b := 0) (by omega) (by omega)).mpr (by omega)) c10)) (fun c10 => ?_)
        have nc10 := (nI_eq (a := 0) (b := 0) (by omega) (by omega)).mp c10
        refine w_run 1 (S' := (49, [(6, vI 0), (5, vR (some (D j 8))), (0, vR (some x)), (1, vR (some (D j 0))), (2, vR (some (D q 0))), (3, vR none), (4, vI k)], [vR (some (D q 0))], s1, 0, 0)) rfl ?_
        refine w_get (k := 2) (vR (s1.2.1 20520 (D q 0) 0)) rfl rfl rfl ((k1.2.1 q hq).1) rfl rfl ?_
        refine Eq.mp (congrArg (fun x9 => WG _ _ _ _ _ _ _ (52, [(6, vI 0), (5, vR (some (D j 8))), (0, vR (some x)), (1, vR (some (D j 0))), (2, vR (some (D q 0))), (3, vR none), (4, vI k)], [vR x9], s1, 0, 0)) (Eq.symm ((k1.2.1 q hq).2 4 (by decide)) : some (D q 12) = s1.2.1 20520 (D q 0) 0)) ?_
        show WG _ _ _ _ _ _ _ (52, [(6, vI 0), (5, vR (some (D j 8))), (0, vR (some x)), (1, vR (some (D j 0))), (2, vR (some (D q 0))), (3, vR none), (4, vI k)], [vR (some (D q 12))], s1, 0, 0)
        refine w_callV (st := []) [] rfl ml_0_129 rfl rfl (k1.1 20520 (D q 0) 0 (D q 12) ((k1.2.1 q hq).2 4 (by decide)) (by decide)) rfl rfl rfl (by simp only [RM]; omega) (by simp only [RM]; show 8 + (1 + 11) + _ ≤ _; omega) rfl (by simp only [RM]; omega) (by simp only [RM]; omega) (c_la_size_20 l E (d - 1) s1 (fun p => D p 12) L1 AR1 k1.2.2.1 q hq) (fun _ _ h => h.elim) ?_
        intro r9 s9 q9
        rw [q9.1, q9.2]
        clear q9 r9 s9
        show WG _ _ _ _ _ _ _ (55, [(6, vI 0), (5, vR (some (D j 8))), (0, vR (some x)), (1, vR (some (D j 0))), (2, vR (some (D q 0))), (3, vR none), (4, vI k)], [vI (nI (L1 q).length)], s1, 0, 0)
        refine w_run 1 (S' := (57, [(6, vI 0), (5, vR (some (D j 8))), (0, vR (some x)), (1, vR (some (D j 0))), (2, vR (some (D q 0))), (3, vR none), (4, vI k)], [vI 12, vI (nI (L1 q).length)], s1, 0, 0)) rfl ?_
        rw [show (nI (L1 q).length : Int32) = nI ((L1 q).length) from by simp only [nl0, nl1, nl2, nl3, nl4, nl5, nl6, nl8, nl9, nl10, nl12, nl15, nl16, nl20, nl24, nl32, nl40, nl64, nl65, nl384, pk_mul, nI_add]]
        show WG _ _ _ _ _ _ _ (57, [(6, vI 0), (5, vR (some (D j 8))), (0, vR (some x)), (1, vR (some (D j 0))), (2, vR (some (D q 0))), (3, vR none), (4, vI k)], [vI 12, vI (nI ((L1 q).length))], s1, 0, 0)
        refine w_ic_lt rfl (fun c11 => ?_) (fun c11 => ?_)
        · have nc11 := (nI_ltI (a := (L1 q).length) (b := 12) (by omega) (by omega)).mp c11
          refine w_run 3 (S' := (68, [(6, vI 0), (5, vR (some (D j 8))), (0, vR (some x)), (1, vR (some (D j 0))), (2, vR (some (D q 0))), (3, vR none), (4, vI k)], [vI k, vR (some (D j 8)), vR (some (D q 0))], s1, 0, 0)) rfl ?_
          refine w_callV (st := []) [vR (some (D j 8)), vI k] rfl ml_0_279 rfl rfl ((k1.2.1 q hq).1) rfl rfl rfl (by simp only [RM]; omega) (by simp only [RM]; show 8 + (4 + 11) + _ ≤ _; omega) rfl (by simp only [RM]; omega) (by simp only [RM]; omega) (c_pr_hasRoomFor l E (d - 1) s1 (D q) (D j 8) (D j 11) n k (by omega) (k1.2.1 q hq) k1.1 ((k1.1 20404 (D j 0) 0 (D j 8) ((k1.2.1 j hj).2 3 (by decide)) (by decide))) ((k1.2.1 j hj).2 13 (by decide)) hn hit0) (fun _ _ h => h.elim) ?_
          intro r9 s9 q9
          rw [q9.1, q9.2]
          clear q9 r9 s9
          show WG _ _ _ _ _ _ _ (71, [(6, vI 0), (5, vR (some (D j 8))), (0, vR (some x)), (1, vR (some (D j 0))), (2, vR (some (D q 0))), (3, vR none), (4, vI k)], [vI (hrfF s1 (D q) (D j 8) (D j 11) n k)], s1, 0, 0)
          refine w_if_ne rfl (fun c12 => ?_) (fun c12 => ?_)
          · have ecel : celF s1 (D j 8) = celF σ (D j 8) := by unfold celF; rw [hF.2.2.1]
            have ebg : bgR s1 (D q 7) (celF s1 (D j 8)) = bgR σ (D q 7) (celF σ (D j 8)) := by rw [ecel]; exact bgR_congr (fun i => hF.2.2.2 _ _ _ (by decide)) (fun i b _ => by rw [hF.2.2.1])
            obtain ⟨g, hg6, hgv⟩ := hgap (fun e9 => c12 (by unfold hrfF; rw [ebg, if_pos e9]))
            refine w_new (k := 6) rfl rfl 6 rfl rfl (by simp only [RM]; omega) (by simp only [RM]; show _ + 12 ≤ _; omega) (fun m hm hme => ?_)
            have hn_x : x ≠ m := ne0 (hx_k1) hm (by decide)
            have hk_x : (sN s1 m 6).2.2.2 x = 1 := by simp only [sN]; rw [if_neg hn_x]; exact hx_k1
            have hn_D_j_0 : D j 0 ≠ m := ne0 ((k1.2.1 j hj).1) hm (by decide)
            have hk_D_j_0 : (sN s1 m 6).2.2.2 (D j 0) = 2 := by simp only [sN]; rw [if_neg hn_D_j_0]; exact (k1.2.1 j hj).1
            have hn_D_j_1 : D j 1 ≠ m := ne0 ((k1.1 20111 (D j 0) 0 (D j 1) ((k1.2.1 j hj).2 0 (by decide)) (by decide))) hm (by decide)
            have hk_D_j_1 : (sN s1 m 6).2.2.2 (D j 1) = 11 := by simp only [sN]; rw [if_neg hn_D_j_1]; exact (k1.1 20111 (D j 0) 0 (D j 1) ((k1.2.1 j hj).2 0 (by decide)) (by decide))
            have hn_D_j_2 : D j 2 ≠ m := ne0 ((k1.1 20208 (D j 0) 0 (D j 2) ((k1.2.1 j hj).2 1 (by decide)) (by decide))) hm (by decide)
            have hk_D_j_2 : (sN s1 m 6).2.2.2 (D j 2) = 8 := by simp only [sN]; rw [if_neg hn_D_j_2]; exact (k1.1 20208 (D j 0) 0 (D j 2) ((k1.2.1 j hj).2 1 (by decide)) (by decide))
            have hn_D_j_6 : D j 6 ≠ m := ne0 ((k1.1 20309 (D j 0) 0 (D j 6) ((k1.2.1 j hj).2 2 (by decide)) (by decide))) hm (by decide)
            have hk_D_j_6 : (sN s1 m 6).2.2.2 (D j 6) = 9 := by simp only [sN]; rw [if_neg hn_D_j_6]; exact (k1.1 20309 (D j 0) 0 (D j 6) ((k1.2.1 j hj).2 2 (by decide)) (by decide))
            have hn_D_j_8 : D j 8 ≠ m := ne0 ((k1.1 20404 (D j 0) 0 (D j 8) ((k1.2.1 j hj).2 3 (by decide)) (by decide))) hm (by decide)
            have hk_D_j_8 : (sN s1 m 6).2.2.2 (D j 8) = 4 := by simp only [sN]; rw [if_neg hn_D_j_8]; exact (k1.1 20404 (D j 0) 0 (D j 8) ((k1.2.1 j hj).2 3 (by decide)) (by decide))
            have hn_D_j_12 : D j 12 ≠ m := ne0 ((k1.1 20520 (D j 0) 0 (D j 12) ((k1.2.1 j hj).2 4 (by decide)) (by decide))) hm (by decide)
            have hk_D_j_12 : (sN s1 m 6).2.2.2 (D j 12) = 20 := by simp only [sN]; rw [if_neg hn_D_j_12]; exact (k1.1 20520 (D j 0) 0 (D j 12) ((k1.2.1 j hj).2 4 (by decide)) (by decide))
            have hn_D_j_13 : D j 13 ≠ m := ne0 ((k1.1 20621 (D j 0) 0 (D j 13) ((k1.2.1 j hj).2 5 (by decide)) (by decide))) hm (by decide)
            have hk_D_j_13 : (sN s1 m 6).2.2.2 (D j 13) = 21 := by simp only [sN]; rw [if_neg hn_D_j_13]; exact (k1.1 20621 (D j 0) 0 (D j 13) ((k1.2.1 j hj).2 5 (by decide)) (by decide))
            have hn_D_j_14 : D j 14 ≠ m := ne0 ((k1.1 20722 (D j 0) 0 (D j 14) ((k1.2.1 j hj).2 6 (by decide)) (by decide))) hm (by decide)
            have hk_D_j_14 : (sN s1 m 6).2.2.2 (D j 14) = 22 := by simp only [sN]; rw [if_neg hn_D_j_14]; exact (k1.1 20722 (D j 0) 0 (D j 14) ((k1.2.1 j hj).2 6 (by decide)) (by decide))
            have hn_D_j_3 : D j 3 ≠ m := ne0 ((k1.1 80012 (D j 2) 0 (D j 3) ((k1.2.1 j hj).2 7 (by decide)) (by decide))) hm (by decide)
            have hk_D_j_3 : (sN s1 m 6).2.2.2 (D j 3) = 12 := by simp only [sN]; rw [if_neg hn_D_j_3]; exact (k1.1 80012 (D j 2) 0 (D j 3) ((k1.2.1 j hj).2 7 (by decide)) (by decide))
            have hn_D_j_4 : D j 4 ≠ m := ne0 ((k1.1 80113 (D j 2) 0 (D j 4) ((k1.2.1 j hj).2 8 (by decide)) (by decide))) hm (by decide)
            have hk_D_j_4 : (sN s1 m 6).2.2.2 (D j 4) = 13 := by simp only [sN]; rw [if_neg hn_D_j_4]; exact (k1.1 80113 (D j 2) 0 (D j 4) ((k1.2.1 j hj).2 8 (by decide)) (by decide))
            have hn_D_j_5 : D j 5 ≠ m := ne0 ((k1.1 80214 (D j 2) 0 (D j 5) ((k1.2.1 j hj).2 9 (by decide)) (by decide))) hm (by decide)
            have hk_D_j_5 : (sN s1 m 6).2.2.2 (D j 5) = 14 := by simp only [sN]; rw [if_neg hn_D_j_5]; exact (k1.1 80214 (D j 2) 0 (D j 5) ((k1.2.1 j hj).2 9 (by decide)) (by decide))
            have hn_D_j_7 : D j 7 ≠ m := ne0 ((k1.1 90015 (D j 6) 0 (D j 7) ((k1.2.1 j hj).2 10 (by decide)) (by decide))) hm (by decide)
            have hk_D_j_7 : (sN s1 m 6).2.2.2 (D j 7) = 15 := by simp only [sN]; rw [if_neg hn_D_j_7]; exact (k1.1 90015 (D j 6) 0 (D j 7) ((k1.2.1 j hj).2 10 (by decide)) (by decide))
            have hn_D_j_9 : D j 9 ≠ m := ne0 ((k1.1 40016 (D j 8) 0 (D j 9) ((k1.2.1 j hj).2 11 (by decide)) (by decide))) hm (by decide)
            have hk_D_j_9 : (sN s1 m 6).2.2.2 (D j 9) = 16 := by simp only [sN]; rw [if_neg hn_D_j_9]; exact (k1.1 40016 (D j 8) 0 (D j 9) ((k1.2.1 j hj).2 11 (by decide)) (by decide))
            have hn_D_j_10 : D j 10 ≠ m := ne0 ((k1.1 40117 (D j 8) 0 (D j 10) ((k1.2.1 j hj).2 12 (by decide)) (by decide))) hm (by decide)
            have hk_D_j_10 : (sN s1 m 6).2.2.2 (D j 10) = 17 := by simp only [sN]; rw [if_neg hn_D_j_10]; exact (k1.1 40117 (D j 8) 0 (D j 10) ((k1.2.1 j hj).2 12 (by decide)) (by decide))
            have hn_D_j_11 : D j 11 ≠ m := ne0 ((k1.1 40218 (D j 8) 0 (D j 11) ((k1.2.1 j hj).2 13 (by decide)) (by decide))) hm (by decide)
            have hk_D_j_11 : (sN s1 m 6).2.2.2 (D j 11) = 18 := by simp only [sN]; rw [if_neg hn_D_j_11]; exact (k1.1 40218 (D j 8) 0 (D j 11) ((k1.2.1 j hj).2 13 (by decide)) (by decide))
            have hn_D_q_0 : D q 0 ≠ m := ne0 ((k1.2.1 q hq).1) hm (by decide)
            have hk_D_q_0 : (sN s1 m 6).2.2.2 (D q 0) = 2 := by simp only [sN]; rw [if_neg hn_D_q_0]; exact (k1.2.1 q hq).1
            have hn_D_q_1 : D q 1 ≠ m := ne0 ((k1.1 20111 (D q 0) 0 (D q 1) ((k1.2.1 q hq).2 0 (by decide)) (by decide))) hm (by decide)
            have hk_D_q_1 : (sN s1 m 6).2.2.2 (D q 1) = 11 := by simp only [sN]; rw [if_neg hn_D_q_1]; exact (k1.1 20111 (D q 0) 0 (D q 1) ((k1.2.1 q hq).2 0 (by decide)) (by decide))
            have hn_D_q_2 : D q 2 ≠ m := ne0 ((k1.1 20208 (D q 0) 0 (D q 2) ((k1.2.1 q hq).2 1 (by decide)) (by decide))) hm (by decide)
            have hk_D_q_2 : (sN s1 m 6).2.2.2 (D q 2) = 8 := by simp only [sN]; rw [if_neg hn_D_q_2]; exact (k1.1 20208 (D q 0) 0 (D q 2) ((k1.2.1 q hq).2 1 (by decide)) (by decide))
            have hn_D_q_6 : D q 6 ≠ m := ne0 ((k1.1 20309 (D q 0) 0 (D q 6) ((k1.2.1 q hq).2 2 (by decide)) (by decide))) hm (by decide)
            have hk_D_q_6 : (sN s1 m 6).2.2.2 (D q 6) = 9 := by simp only [sN]; rw [if_neg hn_D_q_6]; exact (k1.1 20309 (D q 0) 0 (D q 6) ((k1.2.1 q hq).2 2 (by decide)) (by decide))
            have hn_D_q_8 : D q 8 ≠ m := ne0 ((k1.1 20404 (D q 0) 0 (D q 8) ((k1.2.1 q hq).2 3 (by decide)) (by decide))) hm (by decide)
            have hk_D_q_8 : (sN s1 m 6).2.2.2 (D q 8) = 4 := by simp only [sN]; rw [if_neg hn_D_q_8]; exact (k1.1 20404 (D q 0) 0 (D q 8) ((k1.2.1 q hq).2 3 (by decide)) (by decide))
            have hn_D_q_12 : D q 12 ≠ m := ne0 ((k1.1 20520 (D q 0) 0 (D q 12) ((k1.2.1 q hq).2 4 (by decide)) (by decide))) hm (by decide)
            have hk_D_q_12 : (sN s1 m 6).2.2.2 (D q 12) = 20 := by simp only [sN]; rw [if_neg hn_D_q_12]; exact (k1.1 20520 (D q 0) 0 (D q 12) ((k1.2.1 q hq).2 4 (by decide)) (by decide))
            have hn_D_q_13 : D q 13 ≠ m := ne0 ((k1.1 20621 (D q 0) 0 (D q 13) ((k1.2.1 q hq).2 5 (by decide)) (by decide))) hm (by decide)
            have hk_D_q_13 : (sN s1 m 6).2.2.2 (D q 13) = 21 := by simp only [sN]; rw [if_neg hn_D_q_13]; exact (k1.1 20621 (D q 0) 0 (D q 13) ((k1.2.1 q hq).2 5 (by decide)) (by decide))
            have hn_D_q_14 : D q 14 ≠ m := ne0 ((k1.1 20722 (D q 0) 0 (D q 14) ((k1.2.1 q hq).2 6 (by decide)) (by decide))) hm (by decide)
            have hk_D_q_14 : (sN s1 m 6).2.2.2 (D q 14) = 22 := by simp only [sN]; rw [if_neg hn_D_q_14]; exact (k1.1 20722 (D q 0) 0 (D q 14) ((k1.2.1 q hq).2 6 (by decide)) (by decide))
            have hn_D_q_3 : D q 3 ≠ m := ne0 ((k1.1 80012 (D q 2) 0 (D q 3) ((k1.2.1 q hq).2 7 (by decide)) (by decide))) hm (by decide)
            have hk_D_q_3 : (sN s1 m 6).2.2.2 (D q 3) = 12 := by simp only [sN]; rw [if_neg hn_D_q_3]; exact (k1.1 80012 (D q 2) 0 (D q 3) ((k1.2.1 q hq).2 7 (by decide)) (by decide))
            have hn_D_q_4 : D q 4 ≠ m := ne0 ((k1.1 80113 (D q 2) 0 (D q 4) ((k1.2.1 q hq).2 8 (by decide)) (by decide))) hm (by decide)
            have hk_D_q_4 : (sN s1 m 6).2.2.2 (D q 4) = 13 := by simp only [sN]; rw [if_neg hn_D_q_4]; exact (k1.1 80113 (D q 2) 0 (D q 4) ((k1.2.1 q hq).2 8 (by decide)) (by decide))
            have hn_D_q_5 : D q 5 ≠ m := ne0 ((k1.1 80214 (D q 2) 0 (D q 5) ((k1.2.1 q hq).2 9 (by decide)) (by decide))) hm (by decide)
            have hk_D_q_5 : (sN s1 m 6).2.2.2 (D q 5) = 14 := by simp only [sN]; rw [if_neg hn_D_q_5]; exact (k1.1 80214 (D q 2) 0 (D q 5) ((k1.2.1 q hq).2 9 (by decide)) (by decide))
            have hn_D_q_7 : D q 7 ≠ m := ne0 ((k1.1 90015 (D q 6) 0 (D q 7) ((k1.2.1 q hq).2 10 (by decide)) (by decide))) hm (by decide)
            have hk_D_q_7 : (sN s1 m 6).2.2.2 (D q 7) = 15 := by simp only [sN]; rw [if_neg hn_D_q_7]; exact (k1.1 90015 (D q 6) 0 (D q 7) ((k1.2.1 q hq).2 10 (by decide)) (by decide))
            have hn_D_q_9 : D q 9 ≠ m := ne0 ((k1.1 40016 (D q 8) 0 (D q 9) ((k1.2.1 q hq).2 11 (by decide)) (by decide))) hm (by decide)
            have hk_D_q_9 : (sN s1 m 6).2.2.2 (D q 9) = 16 := by simp only [sN]; rw [if_neg hn_D_q_9]; exact (k1.1 40016 (D q 8) 0 (D q 9) ((k1.2.1 q hq).2 11 (by decide)) (by decide))
            have hn_D_q_10 : D q 10 ≠ m := ne0 ((k1.1 40117 (D q 8) 0 (D q 10) ((k1.2.1 q hq).2 12 (by decide)) (by decide))) hm (by decide)
            have hk_D_q_10 : (sN s1 m 6).2.2.2 (D q 10) = 17 := by simp only [sN]; rw [if_neg hn_D_q_10]; exact (k1.1 40117 (D q 8) 0 (D q 10) ((k1.2.1 q hq).2 12 (by decide)) (by decide))
            have hn_D_q_11 : D q 11 ≠ m := ne0 ((k1.1 40218 (D q 8) 0 (D q 11) ((k1.2.1 q hq).2 13 (by decide)) (by decide))) hm (by decide)
            have hk_D_q_11 : (sN s1 m 6).2.2.2 (D q 11) = 18 := by simp only [sN]; rw [if_neg hn_D_q_11]; exact (k1.1 40218 (D q 8) 0 (D q 11) ((k1.2.1 q hq).2 13 (by decide)) (by decide))
            have hkm : (sN s1 m 6).2.2.2 m = 6 := by simp [sN]
            show WG _ _ _ _ _ _ _ (80, [(6, vI 0), (5, vR (some (D j 8))), (0, vR (some x)), (1, vR (some (D j 0))), (2, vR (some (D q 0))), (3, vR none), (4, vI k)], [vR (some m)], sN s1 m 6, 0 + 1, 0 + 12)
            have hit1 : (sN s1 m 6).1 40300 (D j 8) 0 = nI n := (if_neg hn_D_j_8).trans hit0
            refine w_run 3 (S' := (84, [(6, vI 0), (5, vR (some (D j 8))), (0, vR (some x)), (1, vR (some (D j 0))), (2, vR (some (D q 0))), (3, vR none), (4, vI k)], [vR (some (D j 0)), vI k, vR (some m), vR (some m)], sN s1 m 6, 0 + 1, 0 + 12)) rfl ?_
            refine w_get (k := 2) (vI ((sN s1 m 6).1 20000 (D j 0) 0)) rfl rfl rfl hk_D_j_0 rfl rfl ?_
            refine w_run 1 (S' := (88, [(6, vI 0), (5, vR (some (D j 8))), (0, vR (some x)), (1, vR (some (D j 0))), (2, vR (some (D q 0))), (3, vR none), (4, vI k)], [vR (some (D j 0)), vI ((sN s1 m 6).1 20000 (D j 0) 0), vI k, vR (some m), vR (some m)], sN s1 m 6, 0 + 1, 0 + 12)) rfl ?_
            refine w_get (k := 2) (vI ((sN s1 m 6).1 20900 (D j 0) 0)) rfl rfl rfl hk_D_j_0 rfl rfl ?_
            refine w_run 2 (S' := (94, [(6, vI 0), (5, vR (some (D j 8))), (0, vR (some x)), (1, vR (some (D j 0))), (2, vR (some (D q 0))), (3, vR none), (4, vI k)], [vR (some (D j 8)), vR none, vI ((sN s1 m 6).1 20900 (D j 0) 0), vI ((sN s1 m 6).1 20000 (D j 0) 0), vI k, vR (some m), vR (some m)], sN s1 m 6, 0 + 1, 0 + 12)) rfl ?_
            refine w_callI (st := [vR (some m)]) [vI k, vI ((sN s1 m 6).1 20000 (D j 0) 0), vI ((sN s1 m 6).1 20900 (D j 0) 0), vR none, vR (some (D j 8))] rfl ml_0_286 rfl rfl (by simp only [RM]; omega) (by simp only [RM]; show 8 + (6 + 11) + _ ≤ _; omega) rfl (by simp only [RM]; omega) (by simp only [RM]; omega) (c_ms_init l E (d - 1) (sN s1 m 6) m (D j 8) n k ((sN s1 m 6).1 20000 (D j 0) 0) ((sN s1 m 6).1 20900 (D j 0) 0) none (by omega) hkm hk_D_j_8 hit1 hn (fun b hb => by rw [show (sN s1 m 6).2.2.2 b = s1.2.2.2 b from if_neg (fun e9 => by have h9 := hnd1 b hb; rw [e9, hm] at h9; cases h9)]; exact hnd1 b hb)) ?_
            intro r9 s2 q9
            obtain ⟨e1, a1, a2, a3, f1, f1e, f2, f2e, f3, f3e, e2⟩ := q9
            subst e1
            have kN : Ka E D L1 L2 L3 AR1 AR2 AR3 (sN s1 m 6) := k1.n hm hme
            have hndN : ∀ b, none = some b → (sN s1 m 6).2.2.2 b = 3 := fun b hb => by rw [show (sN s1 m 6).2.2.2 b = s1.2.2.2 b from if_neg (fun e9 => by have h9 := hnd1 b hb; rw [e9, hm] at h9; cases h9)]; exact hnd1 b hb
            have k2 : Ka E D L1 L2 L3 AR1 AR2 AR3 s2 := by rw [e2]; exact kN.msB hndN hkm f1 f2 f3 f1e f2e f3e
            obtain ⟨dd, hz2, hz3⟩ : (m ≠ a1 ∧ m ≠ a2 ∧ m ≠ a3 ∧ a1 ≠ a2 ∧ a1 ≠ a3 ∧ a2 ≠ a3) ∧ (sN s1 m 6).2.2.2 a2 = 0 ∧ (sN s1 m 6).2.2.2 a3 = 0 := (by obtain ⟨x1, x2, x3, x4, x5, x6, x7, x8⟩ := msB_d hkm f1 f2 f3; exact ⟨⟨x1, x2, x3, x4, x5, x6⟩, x7, x8⟩)
            obtain ⟨u1, u2, u3, u4, u5, u6⟩ := msB_f (σ := sN s1 m 6) (s := D j 8) (it := n) (k := k) (x := (sN s1 m 6).1 20000 (D j 0) 0) (y := (sN s1 m 6).1 20900 (D j 0) 0) (nd := none) dd
            obtain ⟨u7, u8, u9, u10, u11, u12⟩ := msB_g (σ := sN s1 m 6) (s := D j 8) (it := n) (k := k) (x := (sN s1 m 6).1 20000 (D j 0) 0) (y := (sN s1 m 6).1 20900 (D j 0) 0) (nd := none) dd
            rw [← e2] at u1 u2 u3 u4 u5 u6 u7 u8 u9 u10 u11 u12
            have hkN : ∀ b, s1.2.2.2 b ≠ 0 → s2.2.2.2 b = s1.2.2.2 b := fun b hb => by rw [e2, msB_k (fun e9 => hb (by rw [e9]; by_cases z : a1 = m; exact absurd z.symm dd.1; have h9 : (if a1 = m then 6 else s1.2.2.2 a1) = 0 := f1; rw [if_neg z] at h9; exact h9)) (fun e9 => hb (by rw [e9]; by_cases z : a2 = m; exact absurd z.symm dd.2.1; have h9 : (if a2 = m then 6 else s1.2.2.2 a2) = 0 := hz2; rw [if_neg z] at h9; exact h9)) (fun e9 => hb (by rw [e9]; by_cases z : a3 = m; exact absurd z.symm dd.2.2.1; have h9 : (if a3 = m then 6 else s1.2.2.2 a3) = 0 := hz3; rw [if_neg z] at h9; exact h9))]; exact if_neg (fun e9 => hb (by rw [e9]; exact hm))
            have hm2 : s2.2.2.2 m = 6 := by rw [e2, msB_k dd.1 dd.2.1 dd.2.2.1]; exact hkm
            have hx_k2 : s2.2.2.2 x = 1 := (hkN x (by rw [hx_k1]; decide)).trans hx_k1
            have hfr : ∀ c b i, s1.2.2.2 b ≠ 0 → s2.1 c b i = s1.1 c b i ∧ s2.2.1 c b i = s1.2.1 c b i := fun c b i hb => by have n0 : b ≠ m := fun e9 => hb (by rw [e9]; exact hm); have ha : ∀ a, (sN s1 m 6).2.2.2 a = 0 → b ≠ a := fun a ha e9 => hb (by have h9 : (if a = m then 6 else s1.2.2.2 a) = 0 := ha; rw [e9]; by_cases z : a = m; rw [if_pos z] at h9; cases h9; rw [if_neg z] at h9; exact h9); have h8 := msB_o (σ := sN s1 m 6) (s := D j 8) (it := n) (k := k) (x := (sN s1 m 6).1 20000 (D j 0) 0) (y := (sN s1 m 6).1 20900 (D j 0) 0) (nd := none) n0 (ha a1 f1) (ha a2 hz2) (ha a3 hz3) c i; rw [← e2] at h8; have h7 : (sN s1 m 6).1 c b i = s1.1 c b i ∧ (sN s1 m 6).2.1 c b i = s1.2.1 c b i := ⟨if_neg n0, if_neg n0⟩; exact ⟨h8.1.trans h7.1, h8.2.trans h7.2⟩
            have hbg : bgR s2 (D q 7) (s2.1 60400 m 0) = nI g := by rw [u5, show celF (sN s1 m 6) (D j 8) = celF s1 (D j 8) from (by have n8 : D j 8 ≠ m := (fun e9 => (by have h9 := (k1.1 20404 (D j 0) 0 (D j 8) ((k1.2.1 j hj).2 3 (by decide)) (by decide)); rw [e9, hm] at h9; cases h9)); simp [celF, sN, n8])]; rw [bgR_congr (σ := s1) (fun i => (hfr _ _ _ (by rw [(k1.1 90015 (D q 6) 0 (D q 7) ((k1.2.1 q hq).2 10 (by decide)) (by decide))]; decide)).2) (fun i b hb => (hfr _ _ _ (by rw [k1.1 _ _ _ _ hb (by decide)]; decide)).1)]; rw [ebg]; exact hgv
            show WG _ _ _ _ _ _ _ (97, [(6, vI 0), (5, vR (some (D j 8))), (0, vR (some x)), (1, vR (some (D j 0))), (2, vR (some (D q 0))), (3, vR none), (4, vI k)], [vR (some m)], s2, 0 + 1 + 3, 0 + 12 + 12)
            refine w_run 2 (S' := (100, [(7, vR (some m)), (6, vI 0), (5, vR (some (D j 8))), (0, vR (some x)), (1, vR (some (D j 0))), (2, vR (some (D q 0))), (3, vR none), (4, vI k)], [vR (some (D q 0))], s2, 0 + 1 + 3, 0 + 12 + 12)) rfl ?_
            refine w_get (k := 2) (vR (s2.2.1 20309 (D q 0) 0)) rfl rfl rfl ((k2.2.1 q hq).1) rfl rfl ?_
            refine w_run 1 (S' := (105, [(7, vR (some m)), (6, vI 0), (5, vR (some (D j 8))), (0, vR (some x)), (1, vR (some (D j 0))), (2, vR (some (D q 0))), (3, vR none), (4, vI k)], [vR (some m), vR (s2.2.1 20309 (D q 0) 0)], s2, 0 + 1 + 3, 0 + 12 + 12)) rfl ?_
            refine Eq.mp (congrArg (fun x9 => WG _ _ _ _ _ _ _ (105, [(7, vR (some m)), (6, vI 0), (5, vR (some (D j 8))), (0, vR (some x)), (1, vR (some (D j 0))), (2, vR (some (D q 0))), (3, vR none), (4, vI k)], [vR (some m), vR x9], s2, 0 + 1 + 3, 0 + 12 + 12)) (Eq.symm ((k2.2.1 q hq).2 2 (by decide)) : some (D q 6) = s2.2.1 20309 (D q 0) 0)) ?_
            show WG _ _ _ _ _ _ _ (105, [(7, vR (some m)), (6, vI 0), (5, vR (some (D j 8))), (0, vR (some x)), (1, vR (some (D j 0))), (2, vR (some (D q 0))), (3, vR none), (4, vI k)], [vR (some m), vR (some (D q 6))], s2, 0 + 1 + 3, 0 + 12 + 12)
            refine w_callV (st := []) [vR (some m)] rfl ml_0_289 rfl rfl (k2.1 20309 (D q 0) 0 (D q 6) ((k2.2.1 q hq).2 2 (by decide)) (by decide)) rfl rfl rfl (by simp only [RM]; omega) (by simp only [RM]; show 8 + (3 + 11) + _ ≤ _; omega) rfl (by simp only [RM]; omega) (by simp only [RM]; omega) (c_ar_put l E (d - 1) s2 (D q 6) (D q 7) m g 0 (by omega) ((k2.1 20309 (D q 0) 0 (D q 6) ((k2.2.1 q hq).2 2 (by decide)) (by decide))) ((k2.2.1 q hq).2 10 (by decide)) k2.1 hm2 hbg hg6) (fun _ _ h => h.elim) ?_
            intro r9 s3 q9
            obtain ⟨e1, e3⟩ := q9
            subst e1
            have k3 : Ka E D L1 L2 L3 AR1 AR2 AR3 s3 := by rw [e3]; exact k2.arP hm2
            have hk3 : s3.2.2 = s2.2.2 := by rw [e3]; exact arP_k
            have hm3 : s3.2.2.2 m = 6 := by rw [hk3]; exact hm2
            have hx_k3 : s3.2.2.2 x = 1 := by rw [hk3]; exact hx_k2
            show WG _ _ _ _ _ _ _ (108, [(7, vR (some m)), (6, vI 0), (5, vR (some (D j 8))), (0, vR (some x)), (1, vR (some (D j 0))), (2, vR (some (D q 0))), (3, vR none), (4, vI k)], [], s3, 0 + 1 + 3, 0 + 12 + 12)
            refine w_run 3 (S' := (113, [(7, vR (some m)), (6, vI 0), (5, vR (some (D j 8))), (0, vR (some x)), (1, vR (some (D j 0))), (2, vR (some (D q 0))), (3, vR none), (4, vI k)], [vR (some m), vR (some (D j 8)), vR (some (D q 0))], s3, 0 + 1 + 3, 0 + 12 + 12)) rfl ?_
            refine w_callV (st := []) [vR (some (D j 8)), vR (some m)] rfl ml_0_292 rfl rfl ((k3.2.1 q hq).1) rfl rfl rfl (by simp only [RM]; omega) (by simp only [RM]; show 8 + (5 + 11) + _ ≤ _; omega) rfl (by simp only [RM]; omega) (by simp only [RM]; omega) (c_pr_receiveItems l E (d - 1) s3 D q (D j 8) (D j 10) (D j 11) m a1 a2 a3 n (by omega) (k3.2.1 q hq) ((k3.1 20404 (D j 0) 0 (D j 8) ((k3.2.1 j hj).2 3 (by decide)) (by decide))) ((k3.2.1 j hj).2 12 (by decide)) ((k3.2.1 j hj).2 13 (by decide)) hm3 ((show s3.1 _ _ _ = s2.1 _ _ _ by rw [e3]; exact arP_i (by decide) (by decide) (by decide)).trans u6) hn ((show s3.2.1 _ _ _ = s2.2.1 _ _ _ by rw [e3]; exact arP_o (by decide)).trans u7) ((show s3.2.1 _ _ _ = s2.2.1 _ _ _ by rw [e3]; exact arP_o (by decide)).trans u8) ((show s3.2.1 _ _ _ = s2.2.1 _ _ _ by rw [e3]; exact arP_o (by decide)).trans u9) ((show s3.1 _ _ _ = s2.1 _ _ _ by rw [e3]; exact arP_i (by decide) (by decide) (by decide)).trans u10) ((show s3.1 _ _ _ = s2.1 _ _ _ by rw [e3]; exact arP_i (by decide) (by decide) (by decide)).trans u11) ((show s3.1 _ _ _ = s2.1 _ _ _ by rw [e3]; exact arP_i (by decide) (by decide) (by decide)).trans u12) k3.1) (fun _ _ h => h.elim) ?_
            intro r9 s4 q9
            obtain ⟨e1, e4, hG4⟩ := q9
            subst e1
            have k4 := k3.gi hG4
            have hm4 : s4.2.2.2 m = 6 := by rw [hG4.2.1]; exact hm3
            have hx_k4 : s4.2.2.2 x = 1 := by rw [hG4.2.1]; exact hx_k3
            show WG _ _ _ _ _ _ _ (116, [(7, vR (some m)), (6, vI 0), (5, vR (some (D j 8))), (0, vR (some x)), (1, vR (some (D j 0))), (2, vR (some (D q 0))), (3, vR none), (4, vI k)], [], s4, 0 + 1 + 3, 0 + 12 + 12)
            refine w_run 2 (S' := (119, [(7, vR (some m)), (6, vI 0), (5, vR (some (D j 8))), (0, vR (some x)), (1, vR (some (D j 0))), (2, vR (some (D q 0))), (3, vR none), (4, vI k)], [vI 0, vR (some (D j 8))], s4, 0 + 1 + 3, 0 + 12 + 12)) rfl ?_
            refine w_callV (st := []) [vI 0] rfl ml_0_98 rfl rfl (k4.1 20404 (D j 0) 0 (D j 8) ((k4.2.1 j hj).2 3 (by decide)) (by decide)) rfl rfl rfl (by simp only [RM]; omega) (by simp only [RM]; show 8 + (2 + 11) + _ ≤ _; omega) rfl (by simp only [RM]; omega) (by simp only [RM]; omega) (c_dr_begin l E (d - 1) s4 (D j 8) 0 ((k4.1 20404 (D j 0) 0 (D j 8) ((k4.2.1 j hj).2 3 (by decide)) (by decide)))) (fun _ _ h => h.elim) ?_
            intro r9 s9 q9
            rw [q9.1, q9.2]
            clear q9 r9 s9
            have k5 : Ka E D L1 L2 L3 AR1 AR2 AR3 (sI (sI s4 40400 (D j 8) 0 0) 40300 (D j 8) 0 0) := (k4.i (by decide)).i (by decide)
            have hx_k5 : (sI (sI s4 40400 (D j 8) 0 0) 40300 (D j 8) 0 0).2.2.2 x = 1 := hx_k4
            show WG _ _ _ _ _ _ _ (122, [(7, vR (some m)), (6, vI 0), (5, vR (some (D j 8))), (0, vR (some x)), (1, vR (some (D j 0))), (2, vR (some (D q 0))), (3, vR none), (4, vI k)], [], sI (sI s4 40400 (D j 8) 0 0) 40300 (D j 8) 0 0, 0 + 1 + 3, 0 + 12 + 12)
            refine w_run 1 (S' := (124, [(7, vR (some m)), (6, vI 0), (5, vR (some (D j 8))), (0, vR (some x)), (1, vR (some (D j 0))), (2, vR (some (D q 0))), (3, vR none), (4, vI k)], [vI 0], sI (sI s4 40400 (D j 8) 0 0) 40300 (D j 8) 0 0, 0 + 1 + 3, 0 + 12 + 12)) rfl ?_
            refine w_if_eq rfl (fun c13 => ?_) (fun c13 => (absurd ((nI_eq (a := 0) (b := 0) (by omega) (by omega)).mpr (by omega)) c13))
            have nc13 := (nI_eq (a := 0) (b := 0) (by omega) (by omega)).mp c13
            refine w_run 2 (S' := (139, [(7, vR (some m)), (6, vI 0), (5, vR (some (D j 8))), (0, vR (some x)), (1, vR (some (D j 0))), (2, vR (some (D q 0))), (3, vR none), (4, vI k)], [vR (some m), vR (some (D q 0))], sI (sI s4 40400 (D j 8) 0 0) 40300 (D j 8) 0 0, 0 + 1 + 3, 0 + 12 + 12)) rfl ?_
            refine w_callV (st := []) [vR (some m)] rfl ml_0_299 rfl rfl ((k5.2.1 q hq).1) rfl rfl rfl (by simp only [RM]; omega) (by simp only [RM]; show 8 + (2 + 11) + _ ≤ _; omega) rfl (by simp only [RM]; omega) (by simp only [RM]; omega) (c_pr_deliver l E (d - 1) (sI (sI s4 40400 (D j 8) 0 0) 40300 (D j 8) 0 0) D q m L1 AR1 (by omega) hq (k5.2.1 q hq) k5.1 k5.2.2.1 hm4 hb20) (fun _ _ h => h.elim) ?_
            intro r9 s9 q9
            obtain ⟨e1, w9, AR9, hw9, hwe9, hl9, he9⟩ := q9
            subst e1
            show WG _ _ _ _ _ _ _ (142, [(7, vR (some m)), (6, vI 0), (5, vR (some (D j 8))), (0, vR (some x)), (1, vR (some (D j 0))), (2, vR (some (D q 0))), (3, vR none), (4, vI k)], [], s9, 0 + 1 + 3 + 2, 0 + 12 + 12 + 453)
            refine w_run 1 (S' := (143, [(7, vR (some m)), (6, vI 0), (5, vR (some (D j 8))), (0, vR (some x)), (1, vR (some (D j 0))), (2, vR (some (D q 0))), (3, vR none), (4, vI k)], [vI 0], s9, 0 + 1 + 3 + 2, 0 + 12 + 12 + 453)) rfl ?_
            exact w_iret rfl (Or.inl rfl) (by omega) (by omega) (⟨0, rfl, pst_dlv hB es1 hF hmw (by omega) c12 ⟨hm, hme, f1, f1e, f2, f2e, f3, f3e⟩ hg6 (ebg.trans hgv) e2 e3 e4 k5.1 hw9 hwe9 hl9 he9, _, AR9, (k5.bsy.wk (by rw [bsyS_k]; exact hw9) hwe9 (fun m9 e9 => by cases e9; rw [bsyS_k]; exact hm4)).a20 he9 hl9⟩)
          · refine w_run 1 (S' := (76, [(6, vI 0), (5, vR (some (D j 8))), (0, vR (some x)), (1, vR (some (D j 0))), (2, vR (some (D q 0))), (3, vR none), (4, vI k)], [vI (-4)], s1, 0, 0)) rfl ?_
            exact w_iret rfl (Or.inl rfl) (by omega) (by omega) (⟨-4, rfl, Or.inr ⟨hB, (show FN σ (pstN σ x D j n) from by rw [pstN, ← es1]; exact hF), Or.inr ⟨fun h9 => absurd h9.2 (by omega), Or.inl ⟨by rw [(show pstN σ x D j n = s1 from es1.symm)]; exact c12, rfl, es1⟩⟩⟩, L1, AR1, k1⟩)
        · have nc11 := mt (nI_ltI (a := (L1 q).length) (b := 12) (by omega) (by omega)).mpr c11
          refine w_run 1 (S' := (62, [(6, vI 0), (5, vR (some (D j 8))), (0, vR (some x)), (1, vR (some (D j 0))), (2, vR (some (D q 0))), (3, vR none), (4, vI k)], [vI (-4)], s1, 0, 0)) rfl ?_
          exact w_iret rfl (Or.inl rfl) (by omega) (by omega) (⟨-4, rfl, Or.inr ⟨hB, (show FN σ (pstN σ x D j n) from by rw [pstN, ← es1]; exact hF), Or.inl ⟨hmw, Nat.not_lt.mp nc11, rfl, es1⟩⟩, L1, AR1, k1⟩)
      | some a9 =>
        show WG _ _ _ _ _ _ _ (26, [(5, vR (some (D j 8))), (0, vR (some x)), (1, vR (some (D j 0))), (2, vR (some (D q 0))), (3, vR (some a9)), (4, vI k)], [vR (some a9)], s1, 0, 0)
        refine w_null rfl (fun c14 => (by cases c14)) (fun b15 c14 => ?_)
        refine w_run 1 (S' := (30, [(5, vR (some (D j 8))), (0, vR (some x)), (1, vR (some (D j 0))), (2, vR (some (D q 0))), (3, vR (some a9)), (4, vI k)], [vR (some a9)], s1, 0, 0)) rfl ?_
        refine w_get (k := 3) (vI (s1.1 30300 a9 0)) rfl rfl rfl (hnd1 a9 rfl) rfl rfl ?_
        refine w_if_eq rfl (fun c16 => ?_) (fun c16 => ?_)
        · refine w_run 1 (S' := (41, [(5, vR (some (D j 8))), (0, vR (some x)), (1, vR (some (D j 0))), (2, vR (some (D q 0))), (3, vR (some a9)), (4, vI k)], [vI 0], s1, 0, 0)) rfl ?_
          have hmw : mwF σ (some a9) k = 0 := (if_pos c3).trans (if_pos (by rw [← hF.2.2.1]; exact c16))
          refine w_run 2 (S' := (45, [(6, vI 0), (5, vR (some (D j 8))), (0, vR (some x)), (1, vR (some (D j 0))), (2, vR (some (D q 0))), (3, vR (some a9)), (4, vI k)], [vI 0], s1, 0, 0)) rfl ?_
          refine w_if_ne rfl (fun c17 => (absurd ((nI_eq (a := 0) (b := 0) (by omega) (by omega)).mpr (by omega)) c17)) (fun c17 => ?_)
          have nc17 := (nI_eq (a := 0) (b := 0) (by omega) (by omega)).mp c17
          refine w_run 1 (S' := (49, [(6, vI 0), (5, vR (some (D j 8))), (0, vR (some x)), (1, vR (some (D j 0))), (2, vR (some (D q 0))), (3, vR (some a9)), (4, vI k)], [vR (some (D q 0))], s1, 0, 0)) rfl ?_
          refine w_get (k := 2) (vR (s1.2.1 20520 (D q 0) 0)) rfl rfl rfl ((k1.2.1 q hq).1) rfl rfl ?_
          refine Eq.mp (congrArg (fun x9 => WG _ _ _ _ _ _ _ (52, [(6, vI 0), (5, vR (some (D j 8))), (0, vR (some x)), (1, vR (some (D j 0))), (2, vR (some (D q 0))), (3, vR (some a9)), (4, vI k)], [vR x9], s1, 0, 0)) (Eq.symm ((k1.2.1 q hq).2 4 (by decide)) : some (D q 12) = s1.2.1 20520 (D q 0) 0)) ?_
          show WG _ _ _ _ _ _ _ (52, [(6, vI 0), (5, vR (some (D j 8))), (0, vR (some x)), (1, vR (some (D j 0))), (2, vR (some (D q 0))), (3, vR (some a9)), (4, vI k)], [vR (some (D q 12))], s1, 0, 0)
          refine w_callV (st := []) [] rfl ml_0_129 rfl rfl (k1.1 20520 (D q 0) 0 (D q 12) ((k1.2.1 q hq).2 4 (by decide)) (by decide)) rfl rfl rfl (by simp only [RM]; omega) (by simp only [RM]; show 8 + (1 + 11) + _ ≤ _; omega) rfl (by simp only [RM]; omega) (by simp only [RM]; omega) (c_la_size_20 l E (d - 1) s1 (fun p => D p 12) L1 AR1 k1.2.2.1 q hq) (fun _ _ h => h.elim) ?_
          intro r9 s9 q9
          rw [q9.1, q9.2]
          clear q9 r9 s9
          show WG _ _ _ _ _ _ _ (55, [(6, vI 0), (5, vR (some (D j 8))), (0, vR (some x)), (1, vR (some (D j 0))), (2, vR (some (D q 0))), (3, vR (some a9)), (4, vI k)], [vI (nI (L1 q).length)], s1, 0, 0)
          refine w_run 1 (S' := (57, [(6, vI 0), (5, vR (some (D j 8))), (0, vR (some x)), (1, vR (some (D j 0))), (2, vR (some (D q 0))), (3, vR (some a9)), (4, vI k)], [vI 12, vI (nI (L1 q).length)], s1, 0, 0)) rfl ?_
          rw [show (nI (L1 q).length : Int32) = nI ((L1 q).length) from by simp only [nl0, nl1, nl2, nl3, nl4, nl5, nl6, nl8, nl9, nl10, nl12, nl15, nl16, nl20, nl24, nl32, nl40, nl64, nl65, nl384, pk_mul, nI_add]]
          show WG _ _ _ _ _ _ _ (57, [(6, vI 0), (5, vR (some (D j 8))), (0, vR (some x)), (1, vR (some (D j 0))), (2, vR (some (D q 0))), (3, vR (some a9)), (4, vI k)], [vI 12, vI (nI ((L1 q).length))], s1, 0, 0)
          refine w_ic_lt rfl (fun c18 => ?_) (fun c18 => ?_)
          · have nc18 := (nI_ltI (a := (L1 q).length) (b := 12) (by omega) (by omega)).mp c18
            refine w_run 3 (S' := (68, [(6, vI 0), (5, vR (some (D j 8))), (0, vR (some x)), (1, vR (some (D j 0))), (2, vR (some (D q 0))), (3, vR (some a9)), (4, vI k)], [vI k, vR (some (D j 8)), vR (some (D q 0))], s1, 0, 0)) rfl ?_
            refine w_callV (st := []) [vR (some (D j 8)), vI k] rfl ml_0_279 rfl rfl ((k1.2.1 q hq).1) rfl rfl rfl (by simp only [RM]; omega) (by simp only [RM]; show 8 + (4 + 11) + _ ≤ _; omega) rfl (by simp only [RM]; omega) (by simp only [RM]; omega) (c_pr_hasRoomFor l E (d - 1) s1 (D q) (D j 8) (D j 11) n k (by omega) (k1.2.1 q hq) k1.1 ((k1.1 20404 (D j 0) 0 (D j 8) ((k1.2.1 j hj).2 3 (by decide)) (by decide))) ((k1.2.1 j hj).2 13 (by decide)) hn hit0) (fun _ _ h => h.elim) ?_
            intro r9 s9 q9
            rw [q9.1, q9.2]
            clear q9 r9 s9
            show WG _ _ _ _ _ _ _ (71, [(6, vI 0), (5, vR (some (D j 8))), (0, vR (some x)), (1, vR (some (D j 0))), (2, vR (some (D q 0))), (3, vR (some a9)), (4, vI k)], [vI (hrfF s1 (D q) (D j 8) (D j 11) n k)], s1, 0, 0)
            refine w_if_ne rfl (fun c19 => ?_) (fun c19 => ?_)
            · have ecel : celF s1 (D j 8) = celF σ (D j 8) := by unfold celF; rw [hF.2.2.1]
              have ebg : bgR s1 (D q 7) (celF s1 (D j 8)) = bgR σ (D q 7) (celF σ (D j 8)) := by rw [ecel]; exact bgR_congr (fun i => hF.2.2.2 _ _ _ (by decide)) (fun i b _ => by rw [hF.2.2.1])
              obtain ⟨g, hg6, hgv⟩ := hgap (fun e9 => c19 (by unfold hrfF; rw [ebg, if_pos e9]))
              refine w_new (k := 6) rfl rfl 6 rfl rfl (by simp only [RM]; omega) (by simp only [RM]; show _ + 12 ≤ _; omega) (fun m hm hme => ?_)
              have hn_x : x ≠ m := ne0 (hx_k1) hm (by decide)
              have hk_x : (sN s1 m 6).2.2.2 x = 1 := by simp only [sN]; rw [if_neg hn_x]; exact hx_k1
              have hn_D_j_0 : D j 0 ≠ m := ne0 ((k1.2.1 j hj).1) hm (by decide)
              have hk_D_j_0 : (sN s1 m 6).2.2.2 (D j 0) = 2 := by simp only [sN]; rw [if_neg hn_D_j_0]; exact (k1.2.1 j hj).1
              have hn_D_j_1 : D j 1 ≠ m := ne0 ((k1.1 20111 (D j 0) 0 (D j 1) ((k1.2.1 j hj).2 0 (by decide)) (by decide))) hm (by decide)
              have hk_D_j_1 : (sN s1 m 6).2.2.2 (D j 1) = 11 := by simp only [sN]; rw [if_neg hn_D_j_1]; exact (k1.1 20111 (D j 0) 0 (D j 1) ((k1.2.1 j hj).2 0 (by decide)) (by decide))
              have hn_D_j_2 : D j 2 ≠ m := ne0 ((k1.1 20208 (D j 0) 0 (D j 2) ((k1.2.1 j hj).2 1 (by decide)) (by decide))) hm (by decide)
              have hk_D_j_2 : (sN s1 m 6).2.2.2 (D j 2) = 8 := by simp only [sN]; rw [if_neg hn_D_j_2]; exact (k1.1 20208 (D j 0) 0 (D j 2) ((k1.2.1 j hj).2 1 (by decide)) (by decide))
              have hn_D_j_6 : D j 6 ≠ m := ne0 ((k1.1 20309 (D j 0) 0 (D j 6) ((k1.2.1 j hj).2 2 (by decide)) (by decide))) hm (by decide)
              have hk_D_j_6 : (sN s1 m 6).2.2.2 (D j 6) = 9 := by simp only [sN]; rw [if_neg hn_D_j_6]; exact (k1.1 20309 (D j 0) 0 (D j 6) ((k1.2.1 j hj).2 2 (by decide)) (by decide))
              have hn_D_j_8 : D j 8 ≠ m := ne0 ((k1.1 20404 (D j 0) 0 (D j 8) ((k1.2.1 j hj).2 3 (by decide)) (by decide))) hm (by decide)
              have hk_D_j_8 : (sN s1 m 6).2.2.2 (D j 8) = 4 := by simp only [sN]; rw [if_neg hn_D_j_8]; exact (k1.1 20404 (D j 0) 0 (D j 8) ((k1.2.1 j hj).2 3 (by decide)) (by decide))
              have hn_D_j_12 : D j 12 ≠ m := ne0 ((k1.1 20520 (D j 0) 0 (D j 12) ((k1.2.1 j hj).2 4 (by decide)) (by decide))) hm (by decide)
              have hk_D_j_12 : (sN s1 m 6).2.2.2 (D j 12) = 20 := by simp only [sN]; rw [if_neg hn_D_j_12]; exact (k1.1 20520 (D j 0) 0 (D j 12) ((k1.2.1 j hj).2 4 (by decide)) (by decide))
              have hn_D_j_13 : D j 13 ≠ m := ne0 ((k1.1 20621 (D j 0) 0 (D j 13) ((k1.2.1 j hj).2 5 (by decide)) (by decide))) hm (by decide)
              have hk_D_j_13 : (sN s1 m 6).2.2.2 (D j 13) = 21 := by simp only [sN]; rw [if_neg hn_D_j_13]; exact (k1.1 20621 (D j 0) 0 (D j 13) ((k1.2.1 j hj).2 5 (by decide)) (by decide))
              have hn_D_j_14 : D j 14 ≠ m := ne0 ((k1.1 20722 (D j 0) 0 (D j 14) ((k1.2.1 j hj).2 6 (by decide)) (by decide))) hm (by decide)
              have hk_D_j_14 : (sN s1 m 6).2.2.2 (D j 14) = 22 := by simp only [sN]; rw [if_neg hn_D_j_14]; exact (k1.1 20722 (D j 0) 0 (D j 14) ((k1.2.1 j hj).2 6 (by decide)) (by decide))
              have hn_D_j_3 : D j 3 ≠ m := ne0 ((k1.1 80012 (D j 2) 0 (D j 3) ((k1.2.1 j hj).2 7 (by decide)) (by decide))) hm (by decide)
              have hk_D_j_3 : (sN s1 m 6).2.2.2 (D j 3) = 12 := by simp only [sN]; rw [if_neg hn_D_j_3]; exact (k1.1 80012 (D j 2) 0 (D j 3) ((k1.2.1 j hj).2 7 (by decide)) (by decide))
              have hn_D_j_4 : D j 4 ≠ m := ne0 ((k1.1 80113 (D j 2) 0 (D j 4) ((k1.2.1 j hj).2 8 (by decide)) (by decide))) hm (by decide)
              have hk_D_j_4 : (sN s1 m 6).2.2.2 (D j 4) = 13 := by simp only [sN]; rw [if_neg hn_D_j_4]; exact (k1.1 80113 (D j 2) 0 (D j 4) ((k1.2.1 j hj).2 8 (by decide)) (by decide))
              have hn_D_j_5 : D j 5 ≠ m := ne0 ((k1.1 80214 (D j 2) 0 (D j 5) ((k1.2.1 j hj).2 9 (by decide)) (by decide))) hm (by decide)
              have hk_D_j_5 : (sN s1 m 6).2.2.2 (D j 5) = 14 := by simp only [sN]; rw [if_neg hn_D_j_5]; exact (k1.1 80214 (D j 2) 0 (D j 5) ((k1.2.1 j hj).2 9 (by decide)) (by decide))
              have hn_D_j_7 : D j 7 ≠ m := ne0 ((k1.1 90015 (D j 6) 0 (D j 7) ((k1.2.1 j hj).2 10 (by decide)) (by decide))) hm (by decide)
              have hk_D_j_7 : (sN s1 m 6).2.2.2 (D j 7) = 15 := by simp only [sN]; rw [if_neg hn_D_j_7]; exact (k1.1 90015 (D j 6) 0 (D j 7) ((k1.2.1 j hj).2 10 (by decide)) (by decide))
              have hn_D_j_9 : D j 9 ≠ m := ne0 ((k1.1 40016 (D j 8) 0 (D j 9) ((k1.2.1 j hj).2 11 (by decide)) (by decide))) hm (by decide)
              have hk_D_j_9 : (sN s1 m 6).2.2.2 (D j 9) = 16 := by simp only [sN]; rw [if_neg hn_D_j_9]; exact (k1.1 40016 (D j 8) 0 (D j 9) ((k1.2.1 j hj).2 11 (by decide)) (by decide))
              have hn_D_j_10 : D j 10 ≠ m := ne0 ((k1.1 40117 (D j 8) 0 (D j 10) ((k1.2.1 j hj).2 12 (by decide)) (by decide))) hm (by decide)
              have hk_D_j_10 : (sN s1 m 6).2.2.2 (D j 10) = 17 := by simp only [sN]; rw [if_neg hn_D_j_10]; exact (k1.1 40117 (D j 8) 0 (D j 10) ((k1.2.1 j hj).2 12 (by decide)) (by decide))
              have hn_D_j_11 : D j 11 ≠ m := ne0 ((k1.1 40218 (D j 8) 0 (D j 11) ((k1.2.1 j hj).2 13 (by decide)) (by decide))) hm (by decide)
              have hk_D_j_11 : (sN s1 m 6).2.2.2 (D j 11) = 18 := by simp only [sN]; rw [if_neg hn_D_j_11]; exact (k1.1 40218 (D j 8) 0 (D j 11) ((k1.2.1 j hj).2 13 (by decide)) (by decide))
              have hn_D_q_0 : D q 0 ≠ m := ne0 ((k1.2.1 q hq).1) hm (by decide)
              have hk_D_q_0 : (sN s1 m 6).2.2.2 (D q 0) = 2 := by simp only [sN]; rw [if_neg hn_D_q_0]; exact (k1.2.1 q hq).1
              have hn_D_q_1 : D q 1 ≠ m := ne0 ((k1.1 20111 (D q 0) 0 (D q 1) ((k1.2.1 q hq).2 0 (by decide)) (by decide))) hm (by decide)
              have hk_D_q_1 : (sN s1 m 6).2.2.2 (D q 1) = 11 := by simp only [sN]; rw [if_neg hn_D_q_1]; exact (k1.1 20111 (D q 0) 0 (D q 1) ((k1.2.1 q hq).2 0 (by decide)) (by decide))
              have hn_D_q_2 : D q 2 ≠ m := ne0 ((k1.1 20208 (D q 0) 0 (D q 2) ((k1.2.1 q hq).2 1 (by decide)) (by decide))) hm (by decide)
              have hk_D_q_2 : (sN s1 m 6).2.2.2 (D q 2) = 8 := by simp only [sN]; rw [if_neg hn_D_q_2]; exact (k1.1 20208 (D q 0) 0 (D q 2) ((k1.2.1 q hq).2 1 (by decide)) (by decide))
              have hn_D_q_6 : D q 6 ≠ m := ne0 ((k1.1 20309 (D q 0) 0 (D q 6) ((k1.2.1 q hq).2 2 (by decide)) (by decide))) hm (by decide)
              have hk_D_q_6 : (sN s1 m 6).2.2.2 (D q 6) = 9 := by simp only [sN]; rw [if_neg hn_D_q_6]; exact (k1.1 20309 (D q 0) 0 (D q 6) ((k1.2.1 q hq).2 2 (by decide)) (by decide))
              have hn_D_q_8 : D q 8 ≠ m := ne0 ((k1.1 20404 (D q 0) 0 (D q 8) ((k1.2.1 q hq).2 3 (by decide)) (by decide))) hm (by decide)
              have hk_D_q_8 : (sN s1 m 6).2.2.2 (D q 8) = 4 := by simp only [sN]; rw [if_neg hn_D_q_8]; exact (k1.1 20404 (D q 0) 0 (D q 8) ((k1.2.1 q hq).2 3 (by decide)) (by decide))
              have hn_D_q_12 : D q 12 ≠ m := ne0 ((k1.1 20520 (D q 0) 0 (D q 12) ((k1.2.1 q hq).2 4 (by decide)) (by decide))) hm (by decide)
              have hk_D_q_12 : (sN s1 m 6).2.2.2 (D q 12) = 20 := by simp only [sN]; rw [if_neg hn_D_q_12]; exact (k1.1 20520 (D q 0) 0 (D q 12) ((k1.2.1 q hq).2 4 (by decide)) (by decide))
              have hn_D_q_13 : D q 13 ≠ m := ne0 ((k1.1 20621 (D q 0) 0 (D q 13) ((k1.2.1 q hq).2 5 (by decide)) (by decide))) hm (by decide)
              have hk_D_q_13 : (sN s1 m 6).2.2.2 (D q 13) = 21 := by simp only [sN]; rw [if_neg hn_D_q_13]; exact (k1.1 20621 (D q 0) 0 (D q 13) ((k1.2.1 q hq).2 5 (by decide)) (by decide))
              have hn_D_q_14 : D q 14 ≠ m := ne0 ((k1.1 20722 (D q 0) 0 (D q 14) ((k1.2.1 q hq).2 6 (by decide)) (by decide))) hm (by decide)
              have hk_D_q_14 : (sN s1 m 6).2.2.2 (D q 14) = 22 := by simp only [sN]; rw [if_neg hn_D_q_14]; exact (k1.1 20722 (D q 0) 0 (D q 14) ((k1.2.1 q hq).2 6 (by decide)) (by decide))
              have hn_D_q_3 : D q 3 ≠ m := ne0 ((k1.1 80012 (D q 2) 0 (D q 3) ((k1.2.1 q hq).2 7 (by decide)) (by decide))) hm (by decide)
              have hk_D_q_3 : (sN s1 m 6).2.2.2 (D q 3) = 12 := by simp only [sN]; rw [if_neg hn_D_q_3]; exact (k1.1 80012 (D q 2) 0 (D q 3) ((k1.2.1 q hq).2 7 (by decide)) (by decide))
              have hn_D_q_4 : D q 4 ≠ m := ne0 ((k1.1 80113 (D q 2) 0 (D q 4) ((k1.2.1 q hq).2 8 (by decide)) (by decide))) hm (by decide)
              have hk_D_q_4 : (sN s1 m 6).2.2.2 (D q 4) = 13 := by simp only [sN]; rw [if_neg hn_D_q_4]; exact (k1.1 80113 (D q 2) 0 (D q 4) ((k1.2.1 q hq).2 8 (by decide)) (by decide))
              have hn_D_q_5 : D q 5 ≠ m := ne0 ((k1.1 80214 (D q 2) 0 (D q 5) ((k1.2.1 q hq).2 9 (by decide)) (by decide))) hm (by decide)
              have hk_D_q_5 : (sN s1 m 6).2.2.2 (D q 5) = 14 := by simp only [sN]; rw [if_neg hn_D_q_5]; exact (k1.1 80214 (D q 2) 0 (D q 5) ((k1.2.1 q hq).2 9 (by decide)) (by decide))
              have hn_D_q_7 : D q 7 ≠ m := ne0 ((k1.1 90015 (D q 6) 0 (D q 7) ((k1.2.1 q hq).2 10 (by decide)) (by decide))) hm (by decide)
              have hk_D_q_7 : (sN s1 m 6).2.2.2 (D q 7) = 15 := by simp only [sN]; rw [if_neg hn_D_q_7]; exact (k1.1 90015 (D q 6) 0 (D q 7) ((k1.2.1 q hq).2 10 (by decide)) (by decide))
              have hn_D_q_9 : D q 9 ≠ m := ne0 ((k1.1 40016 (D q 8) 0 (D q 9) ((k1.2.1 q hq).2 11 (by decide)) (by decide))) hm (by decide)
              have hk_D_q_9 : (sN s1 m 6).2.2.2 (D q 9) = 16 := by simp only [sN]; rw [if_neg hn_D_q_9]; exact (k1.1 40016 (D q 8) 0 (D q 9) ((k1.2.1 q hq).2 11 (by decide)) (by decide))
              have hn_D_q_10 : D q 10 ≠ m := ne0 ((k1.1 40117 (D q 8) 0 (D q 10) ((k1.2.1 q hq).2 12 (by decide)) (by decide))) hm (by decide)
              have hk_D_q_10 : (sN s1 m 6).2.2.2 (D q 10) = 17 := by simp only [sN]; rw [if_neg hn_D_q_10]; exact (k1.1 40117 (D q 8) 0 (D q 10) ((k1.2.1 q hq).2 12 (by decide)) (by decide))
              have hn_D_q_11 : D q 11 ≠ m := ne0 ((k1.1 40218 (D q 8) 0 (D q 11) ((k1.2.1 q hq).2 13 (by decide)) (by decide))) hm (by decide)
              have hk_D_q_11 : (sN s1 m 6).2.2.2 (D q 11) = 18 := by simp only [sN]; rw [if_neg hn_D_q_11]; exact (k1.1 40218 (D q 8) 0 (D q 11) ((k1.2.1 q hq).2 13 (by decide)) (by decide))
              have hn_a9 : a9 ≠ m := ne0 ((hnd1 a9 rfl)) hm (by decide)
              have hk_a9 : (sN s1 m 6).2.2.2 a9 = 3 := by simp only [sN]; rw [if_neg hn_a9]; exact (hnd1 a9 rfl)
              have hkm : (sN s1 m 6).2.2.2 m = 6 := by simp [sN]
              show WG _ _ _ _ _ _ _ (80, [(6, vI 0), (5, vR (some (D j 8))), (0, vR (some x)), (1, vR (some (D j 0))), (2, vR (some (D q 0))), (3, vR (some a9)), (4, vI k)], [vR (some m)], sN s1 m 6, 0 + 1, 0 + 12)
              have hit1 : (sN s1 m 6).1 40300 (D j 8) 0 = nI n := (if_neg hn_D_j_8).trans hit0
              refine w_run 3 (S' := (84, [(6, vI 0), (5, vR (some (D j 8))), (0, vR (some x)), (1, vR (some (D j 0))), (2, vR (some (D q 0))), (3, vR (some a9)), (4, vI k)], [vR (some (D j 0)), vI k, vR (some m), vR (some m)], sN s1 m 6, 0 + 1, 0 + 12)) rfl ?_
              refine w_get (k := 2) (vI ((sN s1 m 6).1 20000 (D j 0) 0)) rfl rfl rfl hk_D_j_0 rfl rfl ?_
              refine w_run 1 (S' := (88, [(6, vI 0), (5, vR (some (D j 8))), (0, vR (some x)), (1, vR (some (D j 0))), (2, vR (some (D q 0))), (3, vR (some a9)), (4, vI k)], [vR (some (D j 0)), vI ((sN s1 m 6).1 20000 (D j 0) 0), vI k, vR (some m), vR (some m)], sN s1 m 6, 0 + 1, 0 + 12)) rfl ?_
              refine w_get (k := 2) (vI ((sN s1 m 6).1 20900 (D j 0) 0)) rfl rfl rfl hk_D_j_0 rfl rfl ?_
              refine w_run 2 (S' := (94, [(6, vI 0), (5, vR (some (D j 8))), (0, vR (some x)), (1, vR (some (D j 0))), (2, vR (some (D q 0))), (3, vR (some a9)), (4, vI k)], [vR (some (D j 8)), vR (some a9), vI ((sN s1 m 6).1 20900 (D j 0) 0), vI ((sN s1 m 6).1 20000 (D j 0) 0), vI k, vR (some m), vR (some m)], sN s1 m 6, 0 + 1, 0 + 12)) rfl ?_
              refine w_callI (st := [vR (some m)]) [vI k, vI ((sN s1 m 6).1 20000 (D j 0) 0), vI ((sN s1 m 6).1 20900 (D j 0) 0), vR (some a9), vR (some (D j 8))] rfl ml_0_286 rfl rfl (by simp only [RM]; omega) (by simp only [RM]; show 8 + (6 + 11) + _ ≤ _; omega) rfl (by simp only [RM]; omega) (by simp only [RM]; omega) (c_ms_init l E (d - 1) (sN s1 m 6) m (D j 8) n k ((sN s1 m 6).1 20000 (D j 0) 0) ((sN s1 m 6).1 20900 (D j 0) 0) (some a9) (by omega) hkm hk_D_j_8 hit1 hn (fun b hb => by rw [show (sN s1 m 6).2.2.2 b = s1.2.2.2 b from if_neg (fun e9 => by have h9 := hnd1 b hb; rw [e9, hm] at h9; cases h9)]; exact hnd1 b hb)) ?_
              intro r9 s2 q9
              obtain ⟨e1, a1, a2, a3, f1, f1e, f2, f2e, f3, f3e, e2⟩ := q9
              subst e1
              have kN : Ka E D L1 L2 L3 AR1 AR2 AR3 (sN s1 m 6) := k1.n hm hme
              have hndN : ∀ b, (some a9) = some b → (sN s1 m 6).2.2.2 b = 3 := fun b hb => by rw [show (sN s1 m 6).2.2.2 b = s1.2.2.2 b from if_neg (fun e9 => by have h9 := hnd1 b hb; rw [e9, hm] at h9; cases h9)]; exact hnd1 b hb
              have k2 : Ka E D L1 L2 L3 AR1 AR2 AR3 s2 := by rw [e2]; exact kN.msB hndN hkm f1 f2 f3 f1e f2e f3e
              obtain ⟨dd, hz2, hz3⟩ : (m ≠ a1 ∧ m ≠ a2 ∧ m ≠ a3 ∧ a1 ≠ a2 ∧ a1 ≠ a3 ∧ a2 ≠ a3) ∧ (sN s1 m 6).2.2.2 a2 = 0 ∧ (sN s1 m 6).2.2.2 a3 = 0 := (by obtain ⟨x1, x2, x3, x4, x5, x6, x7, x8⟩ := msB_d hkm f1 f2 f3; exact ⟨⟨x1, x2, x3, x4, x5, x6⟩, x7, x8⟩)
              obtain ⟨u1, u2, u3, u4, u5, u6⟩ := msB_f (σ := sN s1 m 6) (s := D j 8) (it := n) (k := k) (x := (sN s1 m 6).1 20000 (D j 0) 0) (y := (sN s1 m 6).1 20900 (D j 0) 0) (nd := some a9) dd
              obtain ⟨u7, u8, u9, u10, u11, u12⟩ := msB_g (σ := sN s1 m 6) (s := D j 8) (it := n) (k := k) (x := (sN s1 m 6).1 20000 (D j 0) 0) (y := (sN s1 m 6).1 20900 (D j 0) 0) (nd := some a9) dd
              rw [← e2] at u1 u2 u3 u4 u5 u6 u7 u8 u9 u10 u11 u12
              have hkN : ∀ b, s1.2.2.2 b ≠ 0 → s2.2.2.2 b = s1.2.2.2 b := fun b hb => by rw [e2, msB_k (fun e9 => hb (by rw [e9]; by_cases z : a1 = m; exact absurd z.symm dd.1; have h9 : (if a1 = m then 6 else s1.2.2.2 a1) = 0 := f1; rw [if_neg z] at h9; exact h9)) (fun e9 => hb (by rw [e9]; by_cases z : a2 = m; exact absurd z.symm dd.2.1; have h9 : (if a2 = m then 6 else s1.2.2.2 a2) = 0 := hz2; rw [if_neg z] at h9; exact h9)) (fun e9 => hb (by rw [e9]; by_cases z : a3 = m; exact absurd z.symm dd.2.2.1; have h9 : (if a3 = m then 6 else s1.2.2.2 a3) = 0 := hz3; rw [if_neg z] at h9; exact h9))]; exact if_neg (fun e9 => hb (by rw [e9]; exact hm))
              have hm2 : s2.2.2.2 m = 6 := by rw [e2, msB_k dd.1 dd.2.1 dd.2.2.1]; exact hkm
              have hx_k2 : s2.2.2.2 x = 1 := (hkN x (by rw [hx_k1]; decide)).trans hx_k1
              have hfr : ∀ c b i, s1.2.2.2 b ≠ 0 → s2.1 c b i = s1.1 c b i ∧ s2.2.1 c b i = s1.2.1 c b i := fun c b i hb => by have n0 : b ≠ m := fun e9 => hb (by rw [e9]; exact hm); have ha : ∀ a, (sN s1 m 6).2.2.2 a = 0 → b ≠ a := fun a ha e9 => hb (by have h9 : (if a = m then 6 else s1.2.2.2 a) = 0 := ha; rw [e9]; by_cases z : a = m; rw [if_pos z] at h9; cases h9; rw [if_neg z] at h9; exact h9); have h8 := msB_o (σ := sN s1 m 6) (s := D j 8) (it := n) (k := k) (x := (sN s1 m 6).1 20000 (D j 0) 0) (y := (sN s1 m 6).1 20900 (D j 0) 0) (nd := some a9) n0 (ha a1 f1) (ha a2 hz2) (ha a3 hz3) c i; rw [← e2] at h8; have h7 : (sN s1 m 6).1 c b i = s1.1 c b i ∧ (sN s1 m 6).2.1 c b i = s1.2.1 c b i := ⟨if_neg n0, if_neg n0⟩; exact ⟨h8.1.trans h7.1, h8.2.trans h7.2⟩
              have hbg : bgR s2 (D q 7) (s2.1 60400 m 0) = nI g := by rw [u5, show celF (sN s1 m 6) (D j 8) = celF s1 (D j 8) from (by have n8 : D j 8 ≠ m := (fun e9 => (by have h9 := (k1.1 20404 (D j 0) 0 (D j 8) ((k1.2.1 j hj).2 3 (by decide)) (by decide)); rw [e9, hm] at h9; cases h9)); simp [celF, sN, n8])]; rw [bgR_congr (σ := s1) (fun i => (hfr _ _ _ (by rw [(k1.1 90015 (D q 6) 0 (D q 7) ((k1.2.1 q hq).2 10 (by decide)) (by decide))]; decide)).2) (fun i b hb => (hfr _ _ _ (by rw [k1.1 _ _ _ _ hb (by decide)]; decide)).1)]; rw [ebg]; exact hgv
              show WG _ _ _ _ _ _ _ (97, [(6, vI 0), (5, vR (some (D j 8))), (0, vR (some x)), (1, vR (some (D j 0))), (2, vR (some (D q 0))), (3, vR (some a9)), (4, vI k)], [vR (some m)], s2, 0 + 1 + 3, 0 + 12 + 12)
              refine w_run 2 (S' := (100, [(7, vR (some m)), (6, vI 0), (5, vR (some (D j 8))), (0, vR (some x)), (1, vR (some (D j 0))), (2, vR (some (D q 0))), (3, vR (some a9)), (4, vI k)], [vR (some (D q 0))], s2, 0 + 1 + 3, 0 + 12 + 12)) rfl ?_
              refine w_get (k := 2) (vR (s2.2.1 20309 (D q 0) 0)) rfl rfl rfl ((k2.2.1 q hq).1) rfl rfl ?_
              refine w_run 1 (S' := (105, [(7, vR (some m)), (6, vI 0), (5, vR (some (D j 8))), (0, vR (some x)), (1, vR (some (D j 0))), (2, vR (some (D q 0))), (3, vR (some a9)), (4, vI k)], [vR (some m), vR (s2.2.1 20309 (D q 0) 0)], s2, 0 + 1 + 3, 0 + 12 + 12)) rfl ?_
              refine Eq.mp (congrArg (fun x9 => WG _ _ _ _ _ _ _ (105, [(7, vR (some m)), (6, vI 0), (5, vR (some (D j 8))), (0, vR (some x)), (1, vR (some (D j 0))), (2, vR (some (D q 0))), (3, vR (some a9)), (4, vI k)], [vR (some m), vR x9], s2, 0 + 1 + 3, 0 + 12 + 12)) (Eq.symm ((k2.2.1 q hq).2 2 (by decide)) : some (D q 6) = s2.2.1 20309 (D q 0) 0)) ?_
              show WG _ _ _ _ _ _ _ (105, [(7, vR (some m)), (6, vI 0), (5, vR (some (D j 8))), (0, vR (some x)), (1, vR (some (D j 0))), (2, vR (some (D q 0))), (3, vR (some a9)), (4, vI k)], [vR (some m), vR (some (D q 6))], s2, 0 + 1 + 3, 0 + 12 + 12)
              refine w_callV (st := []) [vR (some m)] rfl ml_0_289 rfl rfl (k2.1 20309 (D q 0) 0 (D q 6) ((k2.2.1 q hq).2 2 (by decide)) (by decide)) rfl rfl rfl (by simp only [RM]; omega) (by simp only [RM]; show 8 + (3 + 11) + _ ≤ _; omega) rfl (by simp only [RM]; omega) (by simp only [RM]; omega) (c_ar_put l E (d - 1) s2 (D q 6) (D q 7) m g 0 (by omega) ((k2.1 20309 (D q 0) 0 (D q 6) ((k2.2.1 q hq).2 2 (by decide)) (by decide))) ((k2.2.1 q hq).2 10 (by decide)) k2.1 hm2 hbg hg6) (fun _ _ h => h.elim) ?_
              intro r9 s3 q9
              obtain ⟨e1, e3⟩ := q9
              subst e1
              have k3 : Ka E D L1 L2 L3 AR1 AR2 AR3 s3 := by rw [e3]; exact k2.arP hm2
              have hk3 : s3.2.2 = s2.2.2 := by rw [e3]; exact arP_k
              have hm3 : s3.2.2.2 m = 6 := by rw [hk3]; exact hm2
              have hx_k3 : s3.2.2.2 x = 1 := by rw [hk3]; exact hx_k2
              show WG _ _ _ _ _ _ _ (108, [(7, vR (some m)), (6, vI 0), (5, vR (some (D j 8))), (0, vR (some x)), (1, vR (some (D j 0))), (2, vR (some (D q 0))), (3, vR (some a9)), (4, vI k)], [], s3, 0 + 1 + 3, 0 + 12 + 12)
              refine w_run 3 (S' := (113, [(7, vR (some m)), (6, vI 0), (5, vR (some (D j 8))), (0, vR (some x)), (1, vR (some (D j 0))), (2, vR (some (D q 0))), (3, vR (some a9)), (4, vI k)], [vR (some m), vR (some (D j 8)), vR (some (D q 0))], s3, 0 + 1 + 3, 0 + 12 + 12)) rfl ?_
              refine w_callV (st := []) [vR (some (D j 8)), vR (some m)] rfl ml_0_292 rfl rfl ((k3.2.1 q hq).1) rfl rfl rfl (by simp only [RM]; omega) (by simp only [RM]; show 8 + (5 + 11) + _ ≤ _; omega) rfl (by simp only [RM]; omega) (by simp only [RM]; omega) (c_pr_receiveItems l E (d - 1) s3 D q (D j 8) (D j 10) (D j 11) m a1 a2 a3 n (by omega) (k3.2.1 q hq) ((k3.1 20404 (D j 0) 0 (D j 8) ((k3.2.1 j hj).2 3 (by decide)) (by decide))) ((k3.2.1 j hj).2 12 (by decide)) ((k3.2.1 j hj).2 13 (by decide)) hm3 ((show s3.1 _ _ _ = s2.1 _ _ _ by rw [e3]; exact arP_i (by decide) (by decide) (by decide)).trans u6) hn ((show s3.2.1 _ _ _ = s2.2.1 _ _ _ by rw [e3]; exact arP_o (by decide)).trans u7) ((show s3.2.1 _ _ _ = s2.2.1 _ _ _ by rw [e3]; exact arP_o (by decide)).trans u8) ((show s3.2.1 _ _ _ = s2.2.1 _ _ _ by rw [e3]; exact arP_o (by decide)).trans u9) ((show s3.1 _ _ _ = s2.1 _ _ _ by rw [e3]; exact arP_i (by decide) (by decide) (by decide)).trans u10) ((show s3.1 _ _ _ = s2.1 _ _ _ by rw [e3]; exact arP_i (by decide) (by decide) (by decide)).trans u11) ((show s3.1 _ _ _ = s2.1 _ _ _ by rw [e3]; exact arP_i (by decide) (by decide) (by decide)).trans u12) k3.1) (fun _ _ h => h.elim) ?_
              intro r9 s4 q9
              obtain ⟨e1, e4, hG4⟩ := q9
              subst e1
              have k4 := k3.gi hG4
              have hm4 : s4.2.2.2 m = 6 := by rw [hG4.2.1]; exact hm3
              have hx_k4 : s4.2.2.2 x = 1 := by rw [hG4.2.1]; exact hx_k3
              show WG _ _ _ _ _ _ _ (116, [(7, vR (some m)), (6, vI 0), (5, vR (some (D j 8))), (0, vR (some x)), (1, vR (some (D j 0))), (2, vR (some (D q 0))), (3, vR (some a9)), (4, vI k)], [], s4, 0 + 1 + 3, 0 + 12 + 12)
              refine w_run 2 (S' := (119, [(7, vR (some m)), (6, vI 0), (5, vR (some (D j 8))), (0, vR (some x)), (1, vR (some (D j 0))), (2, vR (some (D q 0))), (3, vR (some a9)), (4, vI k)], [vI 0, vR (some (D j 8))], s4, 0 + 1 + 3, 0 + 12 + 12)) rfl ?_
              refine w_callV (st := []) [vI 0] rfl ml_0_98 rfl rfl (k4.1 20404 (D j 0) 0 (D j 8) ((k4.2.1 j hj).2 3 (by decide)) (by decide)) rfl rfl rfl (by simp only [RM]; omega) (by simp only [RM]; show 8 + (2 + 11) + _ ≤ _; omega) rfl (by simp only [RM]; omega) (by simp only [RM]; omega) (c_dr_begin l E (d - 1) s4 (D j 8) 0 ((k4.1 20404 (D j 0) 0 (D j 8) ((k4.2.1 j hj).2 3 (by decide)) (by decide)))) (fun _ _ h => h.elim) ?_
              intro r9 s9 q9
              rw [q9.1, q9.2]
              clear q9 r9 s9
              have k5 : Ka E D L1 L2 L3 AR1 AR2 AR3 (sI (sI s4 40400 (D j 8) 0 0) 40300 (D j 8) 0 0) := (k4.i (by decide)).i (by decide)
              have hx_k5 : (sI (sI s4 40400 (D j 8) 0 0) 40300 (D j 8) 0 0).2.2.2 x = 1 := hx_k4
              show WG _ _ _ _ _ _ _ (122, [(7, vR (some m)), (6, vI 0), (5, vR (some (D j 8))), (0, vR (some x)), (1, vR (some (D j 0))), (2, vR (some (D q 0))), (3, vR (some a9)), (4, vI k)], [], sI (sI s4 40400 (D j 8) 0 0) 40300 (D j 8) 0 0, 0 + 1 + 3, 0 + 12 + 12)
              refine w_run 1 (S' := (124, [(7, vR (some m)), (6, vI 0), (5, vR (some (D j 8))), (0, vR (some x)), (1, vR (some (D j 0))), (2, vR (some (D q 0))), (3, vR (some a9)), (4, vI k)], [vI 0], sI (sI s4 40400 (D j 8) 0 0) 40300 (D j 8) 0 0, 0 + 1 + 3, 0 + 12 + 12)) rfl ?_
              refine w_if_eq rfl (fun c20 => ?_) (fun c20 => (absurd ((nI_eq (a := 0) (b := 0) (by omega) (by omega)).mpr (by omega)) c20))
              have nc20 := (nI_eq (a := 0) (b := 0) (by omega) (by omega)).mp c20
              refine w_run 2 (S' := (139, [(7, vR (some m)), (6, vI 0), (5, vR (some (D j 8))), (0, vR (some x)), (1, vR (some (D j 0))), (2, vR (some (D q 0))), (3, vR (some a9)), (4, vI k)], [vR (some m), vR (some (D q 0))], sI (sI s4 40400 (D j 8) 0 0) 40300 (D j 8) 0 0, 0 + 1 + 3, 0 + 12 + 12)) rfl ?_
              refine w_callV (st := []) [vR (some m)] rfl ml_0_299 rfl rfl ((k5.2.1 q hq).1) rfl rfl rfl (by simp only [RM]; omega) (by simp only [RM]; show 8 + (2 + 11) + _ ≤ _; omega) rfl (by simp only [RM]; omega) (by simp only [RM]; omega) (c_pr_deliver l E (d - 1) (sI (sI s4 40400 (D j 8) 0 0) 40300 (D j 8) 0 0) D q m L1 AR1 (by omega) hq (k5.2.1 q hq) k5.1 k5.2.2.1 hm4 hb20) (fun _ _ h => h.elim) ?_
              intro r9 s9 q9
              obtain ⟨e1, w9, AR9, hw9, hwe9, hl9, he9⟩ := q9
              subst e1
              show WG _ _ _ _ _ _ _ (142, [(7, vR (some m)), (6, vI 0), (5, vR (some (D j 8))), (0, vR (some x)), (1, vR (some (D j 0))), (2, vR (some (D q 0))), (3, vR (some a9)), (4, vI k)], [], s9, 0 + 1 + 3 + 2, 0 + 12 + 12 + 453)
              refine w_run 1 (S' := (143, [(7, vR (some m)), (6, vI 0), (5, vR (some (D j 8))), (0, vR (some x)), (1, vR (some (D j 0))), (2, vR (some (D q 0))), (3, vR (some a9)), (4, vI k)], [vI 0], s9, 0 + 1 + 3 + 2, 0 + 12 + 12 + 453)) rfl ?_
              exact w_iret rfl (Or.inl rfl) (by omega) (by omega) (⟨0, rfl, pst_dlv hB es1 hF hmw (by omega) c19 ⟨hm, hme, f1, f1e, f2, f2e, f3, f3e⟩ hg6 (ebg.trans hgv) e2 e3 e4 k5.1 hw9 hwe9 hl9 he9, _, AR9, (k5.bsy.wk (by rw [bsyS_k]; exact hw9) hwe9 (fun m9 e9 => by cases e9; rw [bsyS_k]; exact hm4)).a20 he9 hl9⟩)
            · refine w_run 1 (S' := (76, [(6, vI 0), (5, vR (some (D j 8))), (0, vR (some x)), (1, vR (some (D j 0))), (2, vR (some (D q 0))), (3, vR (some a9)), (4, vI k)], [vI (-4)], s1, 0, 0)) rfl ?_
              exact w_iret rfl (Or.inl rfl) (by omega) (by omega) (⟨-4, rfl, Or.inr ⟨hB, (show FN σ (pstN σ x D j n) from by rw [pstN, ← es1]; exact hF), Or.inr ⟨fun h9 => absurd h9.2 (by omega), Or.inl ⟨by rw [(show pstN σ x D j n = s1 from es1.symm)]; exact c19, rfl, es1⟩⟩⟩, L1, AR1, k1⟩)
          · have nc18 := mt (nI_ltI (a := (L1 q).length) (b := 12) (by omega) (by omega)).mpr c18
            refine w_run 1 (S' := (62, [(6, vI 0), (5, vR (some (D j 8))), (0, vR (some x)), (1, vR (some (D j 0))), (2, vR (some (D q 0))), (3, vR (some a9)), (4, vI k)], [vI (-4)], s1, 0, 0)) rfl ?_
            exact w_iret rfl (Or.inl rfl) (by omega) (by omega) (⟨-4, rfl, Or.inr ⟨hB, (show FN σ (pstN σ x D j n) from by rw [pstN, ← es1]; exact hF), Or.inl ⟨hmw, Nat.not_lt.mp nc18, rfl, es1⟩⟩, L1, AR1, k1⟩)
        · refine w_run 2 (S' := (41, [(5, vR (some (D j 8))), (0, vR (some x)), (1, vR (some (D j 0))), (2, vR (some (D q 0))), (3, vR (some a9)), (4, vI k)], [vI 1], s1, 0, 0)) rfl ?_
          have hmw : mwF σ (some a9) k = 1 := (if_pos c3).trans (if_neg (by rw [← hF.2.2.1]; exact c16))
          refine w_run 2 (S' := (45, [(6, vI 1), (5, vR (some (D j 8))), (0, vR (some x)), (1, vR (some (D j 0))), (2, vR (some (D q 0))), (3, vR (some a9)), (4, vI k)], [vI 1], s1, 0, 0)) rfl ?_
          refine w_if_ne rfl (fun c21 => ?_) (fun c21 => (absurd ((nI_eq (a := 1) (b := 0) (by omega) (by omega)).mp c21) (by omega)))
          have nc21 := mt (nI_eq (a := 1) (b := 0) (by omega) (by omega)).mpr c21
          refine w_run 3 (S' := (68, [(6, vI 1), (5, vR (some (D j 8))), (0, vR (some x)), (1, vR (some (D j 0))), (2, vR (some (D q 0))), (3, vR (some a9)), (4, vI k)], [vI k, vR (some (D j 8)), vR (some (D q 0))], s1, 0, 0)) rfl ?_
          refine w_callV (st := []) [vR (some (D j 8)), vI k] rfl ml_0_279 rfl rfl ((k1.2.1 q hq).1) rfl rfl rfl (by simp only [RM]; omega) (by simp only [RM]; show 8 + (4 + 11) + _ ≤ _; omega) rfl (by simp only [RM]; omega) (by simp only [RM]; omega) (c_pr_hasRoomFor l E (d - 1) s1 (D q) (D j 8) (D j 11) n k (by omega) (k1.2.1 q hq) k1.1 ((k1.1 20404 (D j 0) 0 (D j 8) ((k1.2.1 j hj).2 3 (by decide)) (by decide))) ((k1.2.1 j hj).2 13 (by decide)) hn hit0) (fun _ _ h => h.elim) ?_
          intro r9 s9 q9
          rw [q9.1, q9.2]
          clear q9 r9 s9
          show WG _ _ _ _ _ _ _ (71, [(6, vI 1), (5, vR (some (D j 8))), (0, vR (some x)), (1, vR (some (D j 0))), (2, vR (some (D q 0))), (3, vR (some a9)), (4, vI k)], [vI (hrfF s1 (D q) (D j 8) (D j 11) n k)], s1, 0, 0)
          refine w_if_ne rfl (fun c22 => ?_) (fun c22 => ?_)
          · have ecel : celF s1 (D j 8) = celF σ (D j 8) := by unfold celF; rw [hF.2.2.1]
            have ebg : bgR s1 (D q 7) (celF s1 (D j 8)) = bgR σ (D q 7) (celF σ (D j 8)) := by rw [ecel]; exact bgR_congr (fun i => hF.2.2.2 _ _ _ (by decide)) (fun i b _ => by rw [hF.2.2.1])
            obtain ⟨g, hg6, hgv⟩ := hgap (fun e9 => c22 (by unfold hrfF; rw [ebg, if_pos e9]))
            refine w_new (k := 6) rfl rfl 6 rfl rfl (by simp only [RM]; omega) (by simp only [RM]; show _ + 12 ≤ _; omega) (fun m hm hme => ?_)
            have hn_x : x ≠ m := ne0 (hx_k1) hm (by decide)
            have hk_x : (sN s1 m 6).2.2.2 x = 1 := by simp only [sN]; rw [if_neg hn_x]; exact hx_k1
            have hn_D_j_0 : D j 0 ≠ m := ne0 ((k1.2.1 j hj).1) hm (by decide)
            have hk_D_j_0 : (sN s1 m 6).2.2.2 (D j 0) = 2 := by simp only [sN]; rw [if_neg hn_D_j_0]; exact (k1.2.1 j hj).1
            have hn_D_j_1 : D j 1 ≠ m := ne0 ((k1.1 20111 (D j 0) 0 (D j 1) ((k1.2.1 j hj).2 0 (by decide)) (by decide))) hm (by decide)
            have hk_D_j_1 : (sN s1 m 6).2.2.2 (D j 1) = 11 := by simp only [sN]; rw [if_neg hn_D_j_1]; exact (k1.1 20111 (D j 0) 0 (D j 1) ((k1.2.1 j hj).2 0 (by decide)) (by decide))
            have hn_D_j_2 : D j 2 ≠ m := ne0 ((k1.1 20208 (D j 0) 0 (D j 2) ((k1.2.1 j hj).2 1 (by decide)) (by decide))) hm (by decide)
            have hk_D_j_2 : (sN s1 m 6).2.2.2 (D j 2) = 8 := by simp only [sN]; rw [if_neg hn_D_j_2]; exact (k1.1 20208 (D j 0) 0 (D j 2) ((k1.2.1 j hj).2 1 (by decide)) (by decide))
            have hn_D_j_6 : D j 6 ≠ m := ne0 ((k1.1 20309 (D j 0) 0 (D j 6) ((k1.2.1 j hj).2 2 (by decide)) (by decide))) hm (by decide)
            have hk_D_j_6 : (sN s1 m 6).2.2.2 (D j 6) = 9 := by simp only [sN]; rw [if_neg hn_D_j_6]; exact (k1.1 20309 (D j 0) 0 (D j 6) ((k1.2.1 j hj).2 2 (by decide)) (by decide))
            have hn_D_j_8 : D j 8 ≠ m := ne0 ((k1.1 20404 (D j 0) 0 (D j 8) ((k1.2.1 j hj).2 3 (by decide)) (by decide))) hm (by decide)
            have hk_D_j_8 : (sN s1 m 6).2.2.2 (D j 8) = 4 := by simp only [sN]; rw [if_neg hn_D_j_8]; exact (k1.1 20404 (D j 0) 0 (D j 8) ((k1.2.1 j hj).2 3 (by decide)) (by decide))
            have hn_D_j_12 : D j 12 ≠ m := ne0 ((k1.1 20520 (D j 0) 0 (D j 12) ((k1.2.1 j hj).2 4 (by decide)) (by decide))) hm (by decide)
            have hk_D_j_12 : (sN s1 m 6).2.2.2 (D j 12) = 20 := by simp only [sN]; rw [if_neg hn_D_j_12]; exact (k1.1 20520 (D j 0) 0 (D j 12) ((k1.2.1 j hj).2 4 (by decide)) (by decide))
            have hn_D_j_13 : D j 13 ≠ m := ne0 ((k1.1 20621 (D j 0) 0 (D j 13) ((k1.2.1 j hj).2 5 (by decide)) (by decide))) hm (by decide)
            have hk_D_j_13 : (sN s1 m 6).2.2.2 (D j 13) = 21 := by simp only [sN]; rw [if_neg hn_D_j_13]; exact (k1.1 20621 (D j 0) 0 (D j 13) ((k1.2.1 j hj).2 5 (by decide)) (by decide))
            have hn_D_j_14 : D j 14 ≠ m := ne0 ((k1.1 20722 (D j 0) 0 (D j 14) ((k1.2.1 j hj).2 6 (by decide)) (by decide))) hm (by decide)
            have hk_D_j_14 : (sN s1 m 6).2.2.2 (D j 14) = 22 := by simp only [sN]; rw [if_neg hn_D_j_14]; exact (k1.1 20722 (D j 0) 0 (D j 14) ((k1.2.1 j hj).2 6 (by decide)) (by decide))
            have hn_D_j_3 : D j 3 ≠ m := ne0 ((k1.1 80012 (D j 2) 0 (D j 3) ((k1.2.1 j hj).2 7 (by decide)) (by decide))) hm (by decide)
            have hk_D_j_3 : (sN s1 m 6).2.2.2 (D j 3) = 12 := by simp only [sN]; rw [if_neg hn_D_j_3]; exact (k1.1 80012 (D j 2) 0 (D j 3) ((k1.2.1 j hj).2 7 (by decide)) (by decide))
            have hn_D_j_4 : D j 4 ≠ m := ne0 ((k1.1 80113 (D j 2) 0 (D j 4) ((k1.2.1 j hj).2 8 (by decide)) (by decide))) hm (by decide)
            have hk_D_j_4 : (sN s1 m 6).2.2.2 (D j 4) = 13 := by simp only [sN]; rw [if_neg hn_D_j_4]; exact (k1.1 80113 (D j 2) 0 (D j 4) ((k1.2.1 j hj).2 8 (by decide)) (by decide))
            have hn_D_j_5 : D j 5 ≠ m := ne0 ((k1.1 80214 (D j 2) 0 (D j 5) ((k1.2.1 j hj).2 9 (by decide)) (by decide))) hm (by decide)
            have hk_D_j_5 : (sN s1 m 6).2.2.2 (D j 5) = 14 := by simp only [sN]; rw [if_neg hn_D_j_5]; exact (k1.1 80214 (D j 2) 0 (D j 5) ((k1.2.1 j hj).2 9 (by decide)) (by decide))
            have hn_D_j_7 : D j 7 ≠ m := ne0 ((k1.1 90015 (D j 6) 0 (D j 7) ((k1.2.1 j hj).2 10 (by decide)) (by decide))) hm (by decide)
            have hk_D_j_7 : (sN s1 m 6).2.2.2 (D j 7) = 15 := by simp only [sN]; rw [if_neg hn_D_j_7]; exact (k1.1 90015 (D j 6) 0 (D j 7) ((k1.2.1 j hj).2 10 (by decide)) (by decide))
            have hn_D_j_9 : D j 9 ≠ m := ne0 ((k1.1 40016 (D j 8) 0 (D j 9) ((k1.2.1 j hj).2 11 (by decide)) (by decide))) hm (by decide)
            have hk_D_j_9 : (sN s1 m 6).2.2.2 (D j 9) = 16 := by simp only [sN]; rw [if_neg hn_D_j_9]; exact (k1.1 40016 (D j 8) 0 (D j 9) ((k1.2.1 j hj).2 11 (by decide)) (by decide))
            have hn_D_j_10 : D j 10 ≠ m := ne0 ((k1.1 40117 (D j 8) 0 (D j 10) ((k1.2.1 j hj).2 12 (by decide)) (by decide))) hm (by decide)
            have hk_D_j_10 : (sN s1 m 6).2.2.2 (D j 10) = 17 := by simp only [sN]; rw [if_neg hn_D_j_10]; exact (k1.1 40117 (D j 8) 0 (D j 10) ((k1.2.1 j hj).2 12 (by decide)) (by decide))
            have hn_D_j_11 : D j 11 ≠ m := ne0 ((k1.1 40218 (D j 8) 0 (D j 11) ((k1.2.1 j hj).2 13 (by decide)) (by decide))) hm (by decide)
            have hk_D_j_11 : (sN s1 m 6).2.2.2 (D j 11) = 18 := by simp only [sN]; rw [if_neg hn_D_j_11]; exact (k1.1 40218 (D j 8) 0 (D j 11) ((k1.2.1 j hj).2 13 (by decide)) (by decide))
            have hn_D_q_0 : D q 0 ≠ m := ne0 ((k1.2.1 q hq).1) hm (by decide)
            have hk_D_q_0 : (sN s1 m 6).2.2.2 (D q 0) = 2 := by simp only [sN]; rw [if_neg hn_D_q_0]; exact (k1.2.1 q hq).1
            have hn_D_q_1 : D q 1 ≠ m := ne0 ((k1.1 20111 (D q 0) 0 (D q 1) ((k1.2.1 q hq).2 0 (by decide)) (by decide))) hm (by decide)
            have hk_D_q_1 : (sN s1 m 6).2.2.2 (D q 1) = 11 := by simp only [sN]; rw [if_neg hn_D_q_1]; exact (k1.1 20111 (D q 0) 0 (D q 1) ((k1.2.1 q hq).2 0 (by decide)) (by decide))
            have hn_D_q_2 : D q 2 ≠ m := ne0 ((k1.1 20208 (D q 0) 0 (D q 2) ((k1.2.1 q hq).2 1 (by decide)) (by decide))) hm (by decide)
            have hk_D_q_2 : (sN s1 m 6).2.2.2 (D q 2) = 8 := by simp only [sN]; rw [if_neg hn_D_q_2]; exact (k1.1 20208 (D q 0) 0 (D q 2) ((k1.2.1 q hq).2 1 (by decide)) (by decide))
            have hn_D_q_6 : D q 6 ≠ m := ne0 ((k1.1 20309 (D q 0) 0 (D q 6) ((k1.2.1 q hq).2 2 (by decide)) (by decide))) hm (by decide)
            have hk_D_q_6 : (sN s1 m 6).2.2.2 (D q 6) = 9 := by simp only [sN]; rw [if_neg hn_D_q_6]; exact (k1.1 20309 (D q 0) 0 (D q 6) ((k1.2.1 q hq).2 2 (by decide)) (by decide))
            have hn_D_q_8 : D q 8 ≠ m := ne0 ((k1.1 20404 (D q 0) 0 (D q 8) ((k1.2.1 q hq).2 3 (by decide)) (by decide))) hm (by decide)
            have hk_D_q_8 : (sN s1 m 6).2.2.2 (D q 8) = 4 := by simp only [sN]; rw [if_neg hn_D_q_8]; exact (k1.1 20404 (D q 0) 0 (D q 8) ((k1.2.1 q hq).2 3 (by decide)) (by decide))
            have hn_D_q_12 : D q 12 ≠ m := ne0 ((k1.1 20520 (D q 0) 0 (D q 12) ((k1.2.1 q hq).2 4 (by decide)) (by decide))) hm (by decide)
            have hk_D_q_12 : (sN s1 m 6).2.2.2 (D q 12) = 20 := by simp only [sN]; rw [if_neg hn_D_q_12]; exact (k1.1 20520 (D q 0) 0 (D q 12) ((k1.2.1 q hq).2 4 (by decide)) (by decide))
            have hn_D_q_13 : D q 13 ≠ m := ne0 ((k1.1 20621 (D q 0) 0 (D q 13) ((k1.2.1 q hq).2 5 (by decide)) (by decide))) hm (by decide)
            have hk_D_q_13 : (sN s1 m 6).2.2.2 (D q 13) = 21 := by simp only [sN]; rw [if_neg hn_D_q_13]; exact (k1.1 20621 (D q 0) 0 (D q 13) ((k1.2.1 q hq).2 5 (by decide)) (by decide))
            have hn_D_q_14 : D q 14 ≠ m := ne0 ((k1.1 20722 (D q 0) 0 (D q 14) ((k1.2.1 q hq).2 6 (by decide)) (by decide))) hm (by decide)
            have hk_D_q_14 : (sN s1 m 6).2.2.2 (D q 14) = 22 := by simp only [sN]; rw [if_neg hn_D_q_14]; exact (k1.1 20722 (D q 0) 0 (D q 14) ((k1.2.1 q hq).2 6 (by decide)) (by decide))
            have hn_D_q_3 : D q 3 ≠ m := ne0 ((k1.1 80012 (D q 2) 0 (D q 3) ((k1.2.1 q hq).2 7 (by decide)) (by decide))) hm (by decide)
            have hk_D_q_3 : (sN s1 m 6).2.2.2 (D q 3) = 12 := by simp only [sN]; rw [if_neg hn_D_q_3]; exact (k1.1 80012 (D q 2) 0 (D q 3) ((k1.2.1 q hq).2 7 (by decide)) (by decide))
            have hn_D_q_4 : D q 4 ≠ m := ne0 ((k1.1 80113 (D q 2) 0 (D q 4) ((k1.2.1 q hq).2 8 (by decide)) (by decide))) hm (by decide)
            have hk_D_q_4 : (sN s1 m 6).2.2.2 (D q 4) = 13 := by simp only [sN]; rw [if_neg hn_D_q_4]; exact (k1.1 80113 (D q 2) 0 (D q 4) ((k1.2.1 q hq).2 8 (by decide)) (by decide))
            have hn_D_q_5 : D q 5 ≠ m := ne0 ((k1.1 80214 (D q 2) 0 (D q 5) ((k1.2.1 q hq).2 9 (by decide)) (by decide))) hm (by decide)
            have hk_D_q_5 : (sN s1 m 6).2.2.2 (D q 5) = 14 := by simp only [sN]; rw [if_neg hn_D_q_5]; exact (k1.1 80214 (D q 2) 0 (D q 5) ((k1.2.1 q hq).2 9 (by decide)) (by decide))
            have hn_D_q_7 : D q 7 ≠ m := ne0 ((k1.1 90015 (D q 6) 0 (D q 7) ((k1.2.1 q hq).2 10 (by decide)) (by decide))) hm (by decide)
            have hk_D_q_7 : (sN s1 m 6).2.2.2 (D q 7) = 15 := by simp only [sN]; rw [if_neg hn_D_q_7]; exact (k1.1 90015 (D q 6) 0 (D q 7) ((k1.2.1 q hq).2 10 (by decide)) (by decide))
            have hn_D_q_9 : D q 9 ≠ m := ne0 ((k1.1 40016 (D q 8) 0 (D q 9) ((k1.2.1 q hq).2 11 (by decide)) (by decide))) hm (by decide)
            have hk_D_q_9 : (sN s1 m 6).2.2.2 (D q 9) = 16 := by simp only [sN]; rw [if_neg hn_D_q_9]; exact (k1.1 40016 (D q 8) 0 (D q 9) ((k1.2.1 q hq).2 11 (by decide)) (by decide))
            have hn_D_q_10 : D q 10 ≠ m := ne0 ((k1.1 40117 (D q 8) 0 (D q 10) ((k1.2.1 q hq).2 12 (by decide)) (by decide))) hm (by decide)
            have hk_D_q_10 : (sN s1 m 6).2.2.2 (D q 10) = 17 := by simp only [sN]; rw [if_neg hn_D_q_10]; exact (k1.1 40117 (D q 8) 0 (D q 10) ((k1.2.1 q hq).2 12 (by decide)) (by decide))
            have hn_D_q_11 : D q 11 ≠ m := ne0 ((k1.1 40218 (D q 8) 0 (D q 11) ((k1.2.1 q hq).2 13 (by decide)) (by decide))) hm (by decide)
            have hk_D_q_11 : (sN s1 m 6).2.2.2 (D q 11) = 18 := by simp only [sN]; rw [if_neg hn_D_q_11]; exact (k1.1 40218 (D q 8) 0 (D q 11) ((k1.2.1 q hq).2 13 (by decide)) (by decide))
            have hn_a9 : a9 ≠ m := ne0 ((hnd1 a9 rfl)) hm (by decide)
            have hk_a9 : (sN s1 m 6).2.2.2 a9 = 3 := by simp only [sN]; rw [if_neg hn_a9]; exact (hnd1 a9 rfl)
            have hkm : (sN s1 m 6).2.2.2 m = 6 := by simp [sN]
            show WG _ _ _ _ _ _ _ (80, [(6, vI 1), (5, vR (some (D j 8))), (0, vR (some x)), (1, vR (some (D j 0))), (2, vR (some (D q 0))), (3, vR (some a9)), (4, vI k)], [vR (some m)], sN s1 m 6, 0 + 1, 0 + 12)
            have hit1 : (sN s1 m 6).1 40300 (D j 8) 0 = nI n := (if_neg hn_D_j_8).trans hit0
            refine w_run 3 (S' := (84, [(6, vI 1), (5, vR (some (D j 8))), (0, vR (some x)), (1, vR (some (D j 0))), (2, vR (some (D q 0))), (3, vR (some a9)), (4, vI k)], [vR (some (D j 0)), vI k, vR (some m), vR (some m)], sN s1 m 6, 0 + 1, 0 + 12)) rfl ?_
            refine w_get (k := 2) (vI ((sN s1 m 6).1 20000 (D j 0) 0)) rfl rfl rfl hk_D_j_0 rfl rfl ?_
            refine w_run 1 (S' := (88, [(6, vI 1), (5, vR (some (D j 8))), (0, vR (some x)), (1, vR (some (D j 0))), (2, vR (some (D q 0))), (3, vR (some a9)), (4, vI k)], [vR (some (D j 0)), vI ((sN s1 m 6).1 20000 (D j 0) 0), vI k, vR (some m), vR (some m)], sN s1 m 6, 0 + 1, 0 + 12)) rfl ?_
            refine w_get (k := 2) (vI ((sN s1 m 6).1 20900 (D j 0) 0)) rfl rfl rfl hk_D_j_0 rfl rfl ?_
            refine w_run 2 (S' := (94, [(6, vI 1), (5, vR (some (D j 8))), (0, vR (some x)), (1, vR (some (D j 0))), (2, vR (some (D q 0))), (3, vR (some a9)), (4, vI k)], [vR (some (D j 8)), vR (some a9), vI ((sN s1 m 6).1 20900 (D j 0) 0), vI ((sN s1 m 6).1 20000 (D j 0) 0), vI k, vR (some m), vR (some m)], sN s1 m 6, 0 + 1, 0 + 12)) rfl ?_
            refine w_callI (st := [vR (some m)]) [vI k, vI ((sN s1 m 6).1 20000 (D j 0) 0), vI ((sN s1 m 6).1 20900 (D j 0) 0), vR (some a9), vR (some (D j 8))] rfl ml_0_286 rfl rfl (by simp only [RM]; omega) (by simp only [RM]; show 8 + (6 + 11) + _ ≤ _; omega) rfl (by simp only [RM]; omega) (by simp only [RM]; omega) (c_ms_init l E (d - 1) (sN s1 m 6) m (D j 8) n k ((sN s1 m 6).1 20000 (D j 0) 0) ((sN s1 m 6).1 20900 (D j 0) 0) (some a9) (by omega) hkm hk_D_j_8 hit1 hn (fun b hb => by rw [show (sN s1 m 6).2.2.2 b = s1.2.2.2 b from if_neg (fun e9 => by have h9 := hnd1 b hb; rw [e9, hm] at h9; cases h9)]; exact hnd1 b hb)) ?_
            intro r9 s2 q9
            obtain ⟨e1, a1, a2, a3, f1, f1e, f2, f2e, f3, f3e, e2⟩ := q9
            subst e1
            have kN : Ka E D L1 L2 L3 AR1 AR2 AR3 (sN s1 m 6) := k1.n hm hme
            have hndN : ∀ b, (some a9) = some b → (sN s1 m 6).2.2.2 b = 3 := fun b hb => by rw [show (sN s1 m 6).2.2.2 b = s1.2.2.2 b from if_neg (fun e9 => by have h9 := hnd1 b hb; rw [e9, hm] at h9; cases h9)]; exact hnd1 b hb
            have k2 : Ka E D L1 L2 L3 AR1 AR2 AR3 s2 := by rw [e2]; exact kN.msB hndN hkm f1 f2 f3 f1e f2e f3e
            obtain ⟨dd, hz2, hz3⟩ : (m ≠ a1 ∧ m ≠ a2 ∧ m ≠ a3 ∧ a1 ≠ a2 ∧ a1 ≠ a3 ∧ a2 ≠ a3) ∧ (sN s1 m 6).2.2.2 a2 = 0 ∧ (sN s1 m 6).2.2.2 a3 = 0 := (by obtain ⟨x1, x2, x3, x4, x5, x6, x7, x8⟩ := msB_d hkm f1 f2 f3; exact ⟨⟨x1, x2, x3, x4, x5, x6⟩, x7, x8⟩)
            obtain ⟨u1, u2, u3, u4, u5, u6⟩ := msB_f (σ := sN s1 m 6) (s := D j 8) (it := n) (k := k) (x := (sN s1 m 6).1 20000 (D j 0) 0) (y := (sN s1 m 6).1 20900 (D j 0) 0) (nd := some a9) dd
            obtain ⟨u7, u8, u9, u10, u11, u12⟩ := msB_g (σ := sN s1 m 6) (s := D j 8) (it := n) (k := k) (x := (sN s1 m 6).1 20000 (D j 0) 0) (y := (sN s1 m 6).1 20900 (D j 0) 0) (nd := some a9) dd
            rw [← e2] at u1 u2 u3 u4 u5 u6 u7 u8 u9 u10 u11 u12
            have hkN : ∀ b, s1.2.2.2 b ≠ 0 → s2.2.2.2 b = s1.2.2.2 b := fun b hb => by rw [e2, msB_k (fun e9 => hb (by rw [e9]; by_cases z : a1 = m; exact absurd z.symm dd.1; have h9 : (if a1 = m then 6 else s1.2.2.2 a1) = 0 := f1; rw [if_neg z] at h9; exact h9)) (fun e9 => hb (by rw [e9]; by_cases z : a2 = m; exact absurd z.symm dd.2.1; have h9 : (if a2 = m then 6 else s1.2.2.2 a2) = 0 := hz2; rw [if_neg z] at h9; exact h9)) (fun e9 => hb (by rw [e9]; by_cases z : a3 = m; exact absurd z.symm dd.2.2.1; have h9 : (if a3 = m then 6 else s1.2.2.2 a3) = 0 := hz3; rw [if_neg z] at h9; exact h9))]; exact if_neg (fun e9 => hb (by rw [e9]; exact hm))
            have hm2 : s2.2.2.2 m = 6 := by rw [e2, msB_k dd.1 dd.2.1 dd.2.2.1]; exact hkm
            have hx_k2 : s2.2.2.2 x = 1 := (hkN x (by rw [hx_k1]; decide)).trans hx_k1
            have hfr : ∀ c b i, s1.2.2.2 b ≠ 0 → s2.1 c b i = s1.1 c b i ∧ s2.2.1 c b i = s1.2.1 c b i := fun c b i hb => by have n0 : b ≠ m := fun e9 => hb (by rw [e9]; exact hm); have ha : ∀ a, (sN s1 m 6).2.2.2 a = 0 → b ≠ a := fun a ha e9 => hb (by have h9 : (if a = m then 6 else s1.2.2.2 a) = 0 := ha; rw [e9]; by_cases z : a = m; rw [if_pos z] at h9; cases h9; rw [if_neg z] at h9; exact h9); have h8 := msB_o (σ := sN s1 m 6) (s := D j 8) (it := n) (k := k) (x := (sN s1 m 6).1 20000 (D j 0) 0) (y := (sN s1 m 6).1 20900 (D j 0) 0) (nd := some a9) n0 (ha a1 f1) (ha a2 hz2) (ha a3 hz3) c i; rw [← e2] at h8; have h7 : (sN s1 m 6).1 c b i = s1.1 c b i ∧ (sN s1 m 6).2.1 c b i = s1.2.1 c b i := ⟨if_neg n0, if_neg n0⟩; exact ⟨h8.1.trans h7.1, h8.2.trans h7.2⟩
            have hbg : bgR s2 (D q 7) (s2.1 60400 m 0) = nI g := by rw [u5, show celF (sN s1 m 6) (D j 8) = celF s1 (D j 8) from (by have n8 : D j 8 ≠ m := (fun e9 => (by have h9 := (k1.1 20404 (D j 0) 0 (D j 8) ((k1.2.1 j hj).2 3 (by decide)) (by decide)); rw [e9, hm] at h9; cases h9)); simp [celF, sN, n8])]; rw [bgR_congr (σ := s1) (fun i => (hfr _ _ _ (by rw [(k1.1 90015 (D q 6) 0 (D q 7) ((k1.2.1 q hq).2 10 (by decide)) (by decide))]; decide)).2) (fun i b hb => (hfr _ _ _ (by rw [k1.1 _ _ _ _ hb (by decide)]; decide)).1)]; rw [ebg]; exact hgv
            show WG _ _ _ _ _ _ _ (97, [(6, vI 1), (5, vR (some (D j 8))), (0, vR (some x)), (1, vR (some (D j 0))), (2, vR (some (D q 0))), (3, vR (some a9)), (4, vI k)], [vR (some m)], s2, 0 + 1 + 3, 0 + 12 + 12)
            refine w_run 2 (S' := (100, [(7, vR (some m)), (6, vI 1), (5, vR (some (D j 8))), (0, vR (some x)), (1, vR (some (D j 0))), (2, vR (some (D q 0))), (3, vR (some a9)), (4, vI k)], [vR (some (D q 0))], s2, 0 + 1 + 3, 0 + 12 + 12)) rfl ?_
            refine w_get (k := 2) (vR (s2.2.1 20309 (D q 0) 0)) rfl rfl rfl ((k2.2.1 q hq).1) rfl rfl ?_
            refine w_run 1 (S' := (105, [(7, vR (some m)), (6, vI 1), (5, vR (some (D j 8))), (0, vR (some x)), (1, vR (some (D j 0))), (2, vR (some (D q 0))), (3, vR (some a9)), (4, vI k)], [vR (some m), vR (s2.2.1 20309 (D q 0) 0)], s2, 0 + 1 + 3, 0 + 12 + 12)) rfl ?_
            refine Eq.mp (congrArg (fun x9 => WG _ _ _ _ _ _ _ (105, [(7, vR (some m)), (6, vI 1), (5, vR (some (D j 8))), (0, vR (some x)), (1, vR (some (D j 0))), (2, vR (some (D q 0))), (3, vR (some a9)), (4, vI k)], [vR (some m), vR x9], s2, 0 + 1 + 3, 0 + 12 + 12)) (Eq.symm ((k2.2.1 q hq).2 2 (by decide)) : some (D q 6) = s2.2.1 20309 (D q 0) 0)) ?_
            show WG _ _ _ _ _ _ _ (105, [(7, vR (some m)), (6, vI 1), (5, vR (some (D j 8))), (0, vR (some x)), (1, vR (some (D j 0))), (2, vR (some (D q 0))), (3, vR (some a9)), (4, vI k)], [vR (some m), vR (some (D q 6))], s2, 0 + 1 + 3, 0 + 12 + 12)
            refine w_callV (st := []) [vR (some m)] rfl ml_0_289 rfl rfl (k2.1 20309 (D q 0) 0 (D q 6) ((k2.2.1 q hq).2 2 (by decide)) (by decide)) rfl rfl rfl (by simp only [RM]; omega) (by simp only [RM]; show 8 + (3 + 11) + _ ≤ _; omega) rfl (by simp only [RM]; omega) (by simp only [RM]; omega) (c_ar_put l E (d - 1) s2 (D q 6) (D q 7) m g 0 (by omega) ((k2.1 20309 (D q 0) 0 (D q 6) ((k2.2.1 q hq).2 2 (by decide)) (by decide))) ((k2.2.1 q hq).2 10 (by decide)) k2.1 hm2 hbg hg6) (fun _ _ h => h.elim) ?_
            intro r9 s3 q9
            obtain ⟨e1, e3⟩ := q9
            subst e1
            have k3 : Ka E D L1 L2 L3 AR1 AR2 AR3 s3 := by rw [e3]; exact k2.arP hm2
            have hk3 : s3.2.2 = s2.2.2 := by rw [e3]; exact arP_k
            have hm3 : s3.2.2.2 m = 6 := by rw [hk3]; exact hm2
            have hx_k3 : s3.2.2.2 x = 1 := by rw [hk3]; exact hx_k2
            show WG _ _ _ _ _ _ _ (108, [(7, vR (some m)), (6, vI 1), (5, vR (some (D j 8))), (0, vR (some x)), (1, vR (some (D j 0))), (2, vR (some (D q 0))), (3, vR (some a9)), (4, vI k)], [], s3, 0 + 1 + 3, 0 + 12 + 12)
            refine w_run 3 (S' := (113, [(7, vR (some m)), (6, vI 1), (5, vR (some (D j 8))), (0, vR (some x)), (1, vR (some (D j 0))), (2, vR (some (D q 0))), (3, vR (some a9)), (4, vI k)], [vR (some m), vR (some (D j 8)), vR (some (D q 0))], s3, 0 + 1 + 3, 0 + 12 + 12)) rfl ?_
            refine w_callV (st := []) [vR (some (D j 8)), vR (some m)] rfl ml_0_292 rfl rfl ((k3.2.1 q hq).1) rfl rfl rfl (by simp only [RM]; omega) (by simp only [RM]; show 8 + (5 + 11) + _ ≤ _; omega) rfl (by simp only [RM]; omega) (by simp only [RM]; omega) (c_pr_receiveItems l E (d - 1) s3 D q (D j 8) (D j 10) (D j 11) m a1 a2 a3 n (by omega) (k3.2.1 q hq) ((k3.1 20404 (D j 0) 0 (D j 8) ((k3.2.1 j hj).2 3 (by decide)) (by decide))) ((k3.2.1 j hj).2 12 (by decide)) ((k3.2.1 j hj).2 13 (by decide)) hm3 ((show s3.1 _ _ _ = s2.1 _ _ _ by rw [e3]; exact arP_i (by decide) (by decide) (by decide)).trans u6) hn ((show s3.2.1 _ _ _ = s2.2.1 _ _ _ by rw [e3]; exact arP_o (by decide)).trans u7) ((show s3.2.1 _ _ _ = s2.2.1 _ _ _ by rw [e3]; exact arP_o (by decide)).trans u8) ((show s3.2.1 _ _ _ = s2.2.1 _ _ _ by rw [e3]; exact arP_o (by decide)).trans u9) ((show s3.1 _ _ _ = s2.1 _ _ _ by rw [e3]; exact arP_i (by decide) (by decide) (by decide)).trans u10) ((show s3.1 _ _ _ = s2.1 _ _ _ by rw [e3]; exact arP_i (by decide) (by decide) (by decide)).trans u11) ((show s3.1 _ _ _ = s2.1 _ _ _ by rw [e3]; exact arP_i (by decide) (by decide) (by decide)).trans u12) k3.1) (fun _ _ h => h.elim) ?_
            intro r9 s4 q9
            obtain ⟨e1, e4, hG4⟩ := q9
            subst e1
            have k4 := k3.gi hG4
            have hm4 : s4.2.2.2 m = 6 := by rw [hG4.2.1]; exact hm3
            have hx_k4 : s4.2.2.2 x = 1 := by rw [hG4.2.1]; exact hx_k3
            show WG _ _ _ _ _ _ _ (116, [(7, vR (some m)), (6, vI 1), (5, vR (some (D j 8))), (0, vR (some x)), (1, vR (some (D j 0))), (2, vR (some (D q 0))), (3, vR (some a9)), (4, vI k)], [], s4, 0 + 1 + 3, 0 + 12 + 12)
            refine w_run 2 (S' := (119, [(7, vR (some m)), (6, vI 1), (5, vR (some (D j 8))), (0, vR (some x)), (1, vR (some (D j 0))), (2, vR (some (D q 0))), (3, vR (some a9)), (4, vI k)], [vI 0, vR (some (D j 8))], s4, 0 + 1 + 3, 0 + 12 + 12)) rfl ?_
            refine w_callV (st := []) [vI 0] rfl ml_0_98 rfl rfl (k4.1 20404 (D j 0) 0 (D j 8) ((k4.2.1 j hj).2 3 (by decide)) (by decide)) rfl rfl rfl (by simp only [RM]; omega) (by simp only [RM]; show 8 + (2 + 11) + _ ≤ _; omega) rfl (by simp only [RM]; omega) (by simp only [RM]; omega) (c_dr_begin l E (d - 1) s4 (D j 8) 0 ((k4.1 20404 (D j 0) 0 (D j 8) ((k4.2.1 j hj).2 3 (by decide)) (by decide)))) (fun _ _ h => h.elim) ?_
            intro r9 s9 q9
            rw [q9.1, q9.2]
            clear q9 r9 s9
            have k5 : Ka E D L1 L2 L3 AR1 AR2 AR3 (sI (sI s4 40400 (D j 8) 0 0) 40300 (D j 8) 0 0) := (k4.i (by decide)).i (by decide)
            have hx_k5 : (sI (sI s4 40400 (D j 8) 0 0) 40300 (D j 8) 0 0).2.2.2 x = 1 := hx_k4
            show WG _ _ _ _ _ _ _ (122, [(7, vR (some m)), (6, vI 1), (5, vR (some (D j 8))), (0, vR (some x)), (1, vR (some (D j 0))), (2, vR (some (D q 0))), (3, vR (some a9)), (4, vI k)], [], sI (sI s4 40400 (D j 8) 0 0) 40300 (D j 8) 0 0, 0 + 1 + 3, 0 + 12 + 12)
            refine w_run 1 (S' := (124, [(7, vR (some m)), (6, vI 1), (5, vR (some (D j 8))), (0, vR (some x)), (1, vR (some (D j 0))), (2, vR (some (D q 0))), (3, vR (some a9)), (4, vI k)], [vI 1], sI (sI s4 40400 (D j 8) 0 0) 40300 (D j 8) 0 0, 0 + 1 + 3, 0 + 12 + 12)) rfl ?_
            refine w_if_eq rfl (fun c23 => (absurd ((nI_eq (a := 1) (b := 0) (by omega) (by omega)).mp c23) (by omega))) (fun c23 => ?_)
            have nc23 := mt (nI_eq (a := 1) (b := 0) (by omega) (by omega)).mpr c23
            refine w_run 2 (S' := (130, [(7, vR (some m)), (6, vI 1), (5, vR (some (D j 8))), (0, vR (some x)), (1, vR (some (D j 0))), (2, vR (some (D q 0))), (3, vR (some a9)), (4, vI k)], [vR (some m), vR (some a9)], sI (sI s4 40400 (D j 8) 0 0) 40300 (D j 8) 0 0, 0 + 1 + 3, 0 + 12 + 12)) rfl ?_
            refine w_callV (st := []) [vR (some m)] rfl ml_0_296 rfl rfl (show s4.2.2.2 a9 = 3 by rw [hG4.2.1, hk3]; exact (hkN a9 (by rw [hnd1 a9 rfl]; decide)).trans (hnd1 a9 rfl)) rfl rfl rfl (by simp only [RM]; omega) (by simp only [RM]; show 8 + (2 + 11) + _ ≤ _; omega) rfl (by simp only [RM]; omega) (by simp only [RM]; omega) (c_nd_queue l E (d - 1) (sI (sI s4 40400 (D j 8) 0 0) 40300 (D j 8) 0 0) a9 m (show s4.2.2.2 a9 = 3 by rw [hG4.2.1, hk3]; exact (hkN a9 (by rw [hnd1 a9 rfl]; decide)).trans (hnd1 a9 rfl)) hm4 k5.1) (fun _ _ h => h.elim) ?_
            intro r9 s9 q9
            rw [q9.1, q9.2]
            clear q9 r9 s9
            show WG _ _ _ _ _ _ _ (133, [(7, vR (some m)), (6, vI 1), (5, vR (some (D j 8))), (0, vR (some x)), (1, vR (some (D j 0))), (2, vR (some (D q 0))), (3, vR (some a9)), (4, vI k)], [], queF (sI (sI s4 40400 (D j 8) 0 0) 40300 (D j 8) 0 0) a9 m, 0 + 1 + 3, 0 + 12 + 12)
            refine w_run 2 (S' := (143, [(7, vR (some m)), (6, vI 1), (5, vR (some (D j 8))), (0, vR (some x)), (1, vR (some (D j 0))), (2, vR (some (D q 0))), (3, vR (some a9)), (4, vI k)], [vI 0], queF (sI (sI s4 40400 (D j 8) 0 0) 40300 (D j 8) 0 0) a9 m, 0 + 1 + 3, 0 + 12 + 12)) rfl ?_
            exact w_iret rfl (Or.inl rfl) (by omega) (by omega) (⟨0, rfl, pst_que hB es1 hF hmw c22 ⟨hm, hme, f1, f1e, f2, f2e, f3, f3e⟩ hg6 (ebg.trans hgv) e2 e3 e4 k5.1, L1, AR1, k5.que hm4⟩)
          · refine w_run 1 (S' := (76, [(6, vI 1), (5, vR (some (D j 8))), (0, vR (some x)), (1, vR (some (D j 0))), (2, vR (some (D q 0))), (3, vR (some a9)), (4, vI k)], [vI (-4)], s1, 0, 0)) rfl ?_
            exact w_iret rfl (Or.inl rfl) (by omega) (by omega) (⟨-4, rfl, Or.inr ⟨hB, (show FN σ (pstN σ x D j n) from by rw [pstN, ← es1]; exact hF), Or.inr ⟨fun h9 => absurd (hmw.symm.trans h9.1) (by decide), Or.inl ⟨by rw [(show pstN σ x D j n = s1 from es1.symm)]; exact c22, rfl, es1⟩⟩⟩, L1, AR1, k1⟩)

