section FRM
variable {E : FE} {g : Gh} {σ σ' : Sg} {K J : Nat → Bool} {n n' : Nat}
theorem Fr.iK {a b : Sg} {c x i : Nat} {v : Int32} (h : Fr K J a b) (hc : K c = true) : Fr K J a (sI b c x i v) :=
  ⟨h.1, h.2.1, fun c' x' i' hx hk => by
    have e := h.2.2 c' x' i' hx hk
    refine ⟨?_, e.2⟩
    simp only [sI]
    rw [if_neg]
    · exact e.1
    · rintro ⟨rfl, -⟩
      rw [hc] at hk; cases hk⟩
theorem Fr.oK {a b : Sg} {c x i : Nat} {v : Option Nat} (h : Fr K J a b) (hc : K c = true) : Fr K J a (sO b c x i v) :=
  ⟨h.1, h.2.1, fun c' x' i' hx hk => by
    have e := h.2.2 c' x' i' hx hk
    refine ⟨e.1, ?_⟩
    simp only [sO]
    rw [if_neg]
    · exact e.2
    · rintro ⟨rfl, -⟩
      rw [hc] at hk; cases hk⟩
theorem cmS_th {A : Nat → Nat} {m p w : Nat} {k b y s c v : Int32} : cmS (sI σ 500000 m 0 v) A p w k b y s c = sI (cmS σ A p w k b y s c) 500000 m 0 v := by
  unfold cmS
  rw [sI_comm (c := 500000) (c' := 730000) (by decide), sI_comm (c := 500000) (c' := 730000) (by decide), sI_comm (c := 500000) (c' := 730000) (by decide), sI_comm (c := 500000) (c' := 730000) (by decide), sI_comm (c := 500000) (c' := 730000) (by decide), sI_comm (c := 500000) (c' := 730000) (by decide), sI_comm (c := 500000) (c' := 720000) (by decide)]
  rfl
theorem Fr.wk {q : Nat} {k c : Int32} {mo : Option Nat} (q0 : σ.2.2.2 q = 0) : Fr K (fun j => j == 5) σ (wkS σ q k mo c) := by
  unfold wkS
  exact FrL.iq (FrL.oq (FrL.iq (Fr.n q0) q0) q0) q0
theorem wkS_wf {q : Nat} {k c : Int32} {mo : Option Nat} (hw : WF σ) (q0 : σ.2.2.2 q = 0) (hmo : ∀ m, mo = some m → σ.2.2.2 m = 6) : WF (wkS σ q k mo c) := by
  unfold wkS
  cases mo with
  | none => exact WF.i (WF.oN (WF.i (hw.n q0)))
  | some m => exact WF.i (WF.oS (WF.i (hw.n q0)) (fun _ => by
      have := hmo m rfl
      have hne : m ≠ q := ne0 this q0 (by decide)
      show (if m = q then 5 else σ.2.2.2 m) = 6
      rw [if_neg hne]; exact this))
theorem AddW.of {p q : Nat} {k c k' b y s' c' : Int32} {mo : Option Nat} {τ σ1 : Sg} {AR' : Nat → Nat} (s : RS E g τ) (hp : p < 4) (q0 : τ.2.2.2 q = 0) (hqe : q ≠ fe E) (hmo : ∀ m, mo = some m → τ.2.2.2 m = 6) (hl : LLx E 20 41 5 (fun p => g.D p 12) (upL g.L1 p (g.L1 p ++ [q])) AR' σ1) (he : Eqk E 20 41 (wkS τ q k mo c) σ1) (hlen : (g.L1 p).length < 64) : AddW E g p q k mo c τ (cmS σ1 g.A p (g.L1 p).length k' b y s' c') := by
  have hwk : WF (wkS τ q k mo c) := wkS_wf s.wf q0 hmo
  have hw1 : WF σ1 := he.2.2.2.2.2 hwk
  have F1 : Fr KL1 JW τ σ1 := ((Fr.wk (K := fun _ => false) q0).trans (Fr.k he)).weak (fun c hc => by simpa [KL1] using hc) (fun j hj => by simpa [JW] using hj)
  have F2 : Fr (fun c => c == 730000 || c == 720000) (fun _ => false) σ1 (cmS σ1 g.A p (g.L1 p).length k' b y s' c') := by
    unfold cmS
    exact Fr.iK (Fr.iK (Fr.iK (Fr.iK (Fr.iK (Fr.iK (Fr.iK Fr.refl (by decide)) (by decide)) (by decide)) (by decide)) (by decide)) (by decide)) (by decide)
  have kq : (wkS τ q k mo c).2.2.2 q = 5 := by simp [wkS, sI, sO, sN]
  have rq : ∀ {c0}, c0 < 100000 → σ1.1 c0 q 0 = (wkS τ q k mo c).1 c0 q 0 ∧ σ1.2.1 c0 q 0 = (wkS τ q k mo c).2.1 c0 q 0 := fun {c0} h => he.2.2.1 c0 q 0 (by rw [kq]; decide) (by omega) (by omega)
  have rq2 : ∀ {c0}, c0 < 100000 → (cmS σ1 g.A p (g.L1 p).length k' b y s' c').1 c0 q 0 = σ1.1 c0 q 0 ∧ (cmS σ1 g.A p (g.L1 p).length k' b y s' c').2.1 c0 q 0 = σ1.2.1 c0 q 0 := by
    intro c0 h
    have k1 : σ1.2.2.2 q ≠ 0 := by rw [he.1 q (by rw [kq]; decide), kq]; decide
    refine F2.2.2 c0 q 0 k1 ?_
    simp only [Bool.or_eq_false_iff, beq_eq_false_iff_ne]
    omega
  have fe2 : (cmS σ1 g.A p (g.L1 p).length k' b y s' c').2.2.2 (fe E) = 0 := hl.1
  have hfe : (wkS τ q k mo c).2.2.2 (fe E) = 0 := by
    show (if fe E = q then 5 else τ.2.2.2 (fe E)) = 0
    rw [if_neg hqe.symm]; exact s.f0
  refine AddW.mk
           (F := (F1.trans F2).weak (fun c hc => ?_) (fun j hj => ?_))
           (FP := fun r hr => ?_)
           (q0 := q0)
           (r1 := ?_)
           (r2 := ?_)
           (r3 := ?_)
           (w := rIs)
           (old := fun i h1 h2 => ?_)
           (wf := hw1)
           (l1 := ⟨AR', hl.fr F2 fe2 (by decide) (by decide) (by decide)⟩)
           (l2 := ?_)
           (l3 := ?_)
  · simp only [KL1, KW1, Bool.or_eq_false_iff] at hc ⊢
    exact ⟨⟨hc.1.1.1, hc.1.1.2⟩, hc.1.2, hc.2⟩
  · simpa using hj
  · have e1 : ∀ j, j < 6 → ¬ InP g r 730000 (g.A 22) (384 * p + 6 * (g.L1 p).length + j) := fun j hj => niA (by decide) (show (384 * p + 6 * (g.L1 p).length + j) / 384 = p by omega) hr
    unfold cmS
    exact FrP.iw (FrP.iw (FrP.iw (FrP.iw (FrP.iw (FrP.iw (FrP.iw (F1.at g r) (Or.inr (e1 0 (by decide)))) (Or.inr (e1 1 (by decide)))) (Or.inr (e1 2 (by decide)))) (Or.inr (e1 3 (by decide)))) (Or.inr (e1 4 (by decide)))) (Or.inr (e1 5 (by decide)))) (Or.inr (niA (by decide) (show p / 1 = p by omega) hr))
  · rw [(rq2 (by decide)).1, (rq (by decide)).1]; simp [wkS, sI, sO, sN]
  · rw [(rq2 (by decide)).2, (rq (by decide)).2]; simp [wkS, sI, sO, sN]
  · rw [(rq2 (by decide)).1, (rq (by decide)).1]; simp [wkS, sI, sO, sN]
  · have e1 : σ1.1 730000 (g.A 22) i = τ.1 730000 (g.A 22) i := (F1.2.2 _ _ _ (s.kA (by decide)) (by decide)).1
    rw [← e1]
    unfold cmS
    rw [rII (by decide), rIx (by omega), rIx (by omega), rIx (by omega), rIx (by omega), rIx (by omega), rIx (by omega)]
  · obtain ⟨A2, l2⟩ := s.l2
    have h1 : LLx E 21 42 6 (fun p => g.D p 13) g.L2 A2 (wkS τ q k mo c) := l2.fr (Fr.wk (K := fun _ => false) q0) hfe (by decide) (by decide) (by decide)
    exact ⟨A2, (h1.keep he (by decide) (by decide) (by decide) (by decide) (by decide) (by decide) (by decide)).fr F2 fe2 (by decide) (by decide) (by decide)⟩
  · obtain ⟨A3, l3⟩ := s.l3
    have h1 : LLx E 22 43 7 (fun p => g.D p 14) g.L3 A3 (wkS τ q k mo c) := l3.fr (Fr.wk (K := fun _ => false) q0) hfe (by decide) (by decide) (by decide)
    exact ⟨A3, (h1.keep he (by decide) (by decide) (by decide) (by decide) (by decide) (by decide) (by decide)).fr F2 fe2 (by decide) (by decide) (by decide)⟩
theorem cm_r {A : Nat → Nat} {p w : Nat} {k b y s c : Int32} : (cmS σ A p w k b y s c).1 730000 (A 22) (384 * p + 6 * w) = k ∧ (cmS σ A p w k b y s c).1 730000 (A 22) (384 * p + 6 * w + 1) = b ∧ (cmS σ A p w k b y s c).1 730000 (A 22) (384 * p + 6 * w + 2) = y ∧ (cmS σ A p w k b y s c).1 730000 (A 22) (384 * p + 6 * w + 3) = s ∧ (cmS σ A p w k b y s c).1 730000 (A 22) (384 * p + 6 * w + 4) = c ∧ (cmS σ A p w k b y s c).1 730000 (A 22) (384 * p + 6 * w + 5) = (if s < 0 then 0 else σ.1 520000 (A 1) s.toNatClampNeg) := by
  refine ⟨?_, ?_, ?_, ?_, ?_, ?_⟩ <;> simp [cmS, sI]
/-- watch, as the class has it -/
def owtP (E : FE) (D : Nat → Nat → Nat) (p : Nat) (L1 L3 : Nat → List Nat) (σ : Sg) (x c : Int32) (v : Int32) (σ' : Sg) : Prop :=
  if hasF (σ.2.1 120003 (D p 3)) x = 0 then v = 0 ∧ σ' = σ else if 8 ≤ (L3 p).length then v = 0 ∧ σ' = σ else if 24 ≤ (L1 p).length + (L3 p).length then v = 0 ∧ σ' = σ else ∃ a, σ.2.1 120003 (D p 3) x.toNatClampNeg = some a ∧ v = 1 ∧
    (if σ.1 30200 a 0 = 0 then (∃ q AR', σ.2.2.2 q = 0 ∧ q ≠ fe E ∧ LLx E 22 43 7 (fun p => D p 14) (upL L3 p (L3 p ++ [q])) AR' σ' ∧ Eqk E 22 43 (wtS σ q a c) σ') else (∃ q AR', σ.2.2.2 q = 0 ∧ q ≠ fe E ∧ LLx E 20 41 5 (fun p => D p 12) (upL L1 p (L1 p ++ [q])) AR' σ' ∧ Eqk E 20 41 (wkS σ q 4 none c) σ'))
/-- watch, as the model has it: W works, V watches -/
def mwtF (σ : Sg) (m : Nat) (A : Nat → Nat) (p : Nat) (W V : Nat) (x c : Int32) : Int32 × Sg :=
  if hhF (σ.1 550000 (A 4)) (σ.1 560000 (A 5)) p x = 0 then (0, sI σ 500000 m 0 0) else if V = 8 then (0, sI σ 500000 m 0 0) else if 24 ≤ W + V then (0, sI σ 500000 m 0 0) else if dedI (σ.1 510000 (A 0)) (σ.1 520000 (A 1)) (σ.1 540000 (A 3) (16 * p + x.toNatClampNeg)) = 0 then (1, sI (sI (sI (sI σ 500000 m 0 0) 790000 (A 28) (8 * p + V) (σ.1 540000 (A 3) (16 * p + x.toNatClampNeg))) 800000 (A 29) (8 * p + V) c) 780000 (A 27) p (nI (V + 1))) else (1, cmS (sI σ 500000 m 0 0) A p W 4 (-1) (-1) (-1) c)
def gV (g : Gh) (p q : Nat) : Gh := (Gh.mk g.x g.a0 g.m g.D g.A g.N g.B g.Q g.L1 g.L2 (upL g.L3 p (g.L3 p ++ [q])) g.lv)
def KV : Nat → Bool := fun c => c / 10000 == 22 || c / 10000 == 43 || c == 790000 || c == 800000 || c == 780000
theorem RR.addV {p q a : Nat} {c : Int32} {AR' : Nat → Nat} {σ1 : Sg} (R : RR E g n σ) (hp : p < 4) (ha : al g σ p) (q0 : σ.2.2.2 q = 0) (hqe : q ≠ fe E) (ha3 : σ.2.2.2 a = 3) (had : σ.1 30200 a 0 = 0) (hl : LLx E 22 43 7 (fun p => g.D p 14) (upL g.L3 p (g.L3 p ++ [q])) AR' σ1) (he : Eqk E 22 43 (wtS σ q a c) σ1) (hlen : (g.L3 p).length < 8) (hb : (g.L1 p).countP (fun w => !(σ.1 50000 w 0 == 2)) + (g.L3 p).length + 1 ≤ 24 + (g.L1 p).countP (fun w => σ.1 50000 w 0 == 5)) :
    RR E (gV g p q) n (sI (sI (sI σ1 790000 (g.A 28) (8 * p + (g.L3 p).length) (nI (g.N a))) 800000 (g.A 29) (8 * p + (g.L3 p).length) c) 780000 (g.A 27) p (nI ((g.L3 p).length + 1))) := by
  have hwk : WF (wtS σ q a c) := by
    unfold wtS
    exact WF.i (WF.oS (R.s.wf.n q0) (fun _ => by
      have hne : a ≠ q := ne0 ha3 q0 (by decide)
      show (if a = q then 7 else σ.2.2.2 a) = 3
      rw [if_neg hne]; exact ha3))
  have hw1 : WF σ1 := he.2.2.2.2.2 hwk
  have Fw : Fr (fun _ => false) (fun j => j == 7) σ (wtS σ q a c) := by
    unfold wtS
    exact FrL.iq (FrL.oq (Fr.n q0) q0) q0
  have F1 : Fr (fun c => c / 10000 == 22 || c / 10000 == 43) (fun j => j == 7 || j == 43) σ σ1 := (Fw.trans (Fr.k he)).weak (fun c hc => by simpa using hc) (fun j hj => by simpa using hj)
  have kq : (wtS σ q a c).2.2.2 q = 7 := by simp [wtS, sI, sO, sN]
  have rq : ∀ {c0}, c0 < 100000 → σ1.1 c0 q 0 = (wtS σ q a c).1 c0 q 0 ∧ σ1.2.1 c0 q 0 = (wtS σ q a c).2.1 c0 q 0 := fun {c0} h => he.2.2.1 c0 q 0 (by rw [kq]; decide) (by omega) (by omega)
  have F2 : Fr (fun c => c == 790000 || c == 800000 || c == 780000) (fun _ => false) σ1 (sI (sI (sI σ1 790000 (g.A 28) (8 * p + (g.L3 p).length) (nI (g.N a))) 800000 (g.A 29) (8 * p + (g.L3 p).length) c) 780000 (g.A 27) p (nI ((g.L3 p).length + 1))) := Fr.iK (Fr.iK (Fr.iK Fr.refl (by decide)) (by decide)) (by decide)
  have F : Fr KV (fun j => j == 7 || j == 43) σ (sI (sI (sI σ1 790000 (g.A 28) (8 * p + (g.L3 p).length) (nI (g.N a))) 800000 (g.A 29) (8 * p + (g.L3 p).length) c) 780000 (g.A 27) p (nI ((g.L3 p).length + 1))) := (F1.trans F2).weak (fun c hc => by
      simp only [KV, Bool.or_eq_false_iff] at hc ⊢
      exact ⟨⟨hc.1.1.1.1, hc.1.1.1.2⟩, ⟨hc.1.1.2, hc.1.2⟩, hc.2⟩) (fun j hj => by simpa using hj)
  have FP : ∀ r, r ≠ p → FrP g r (fun c => c / 10000 == 22 || c / 10000 == 43) (fun j => j == 7 || j == 43) σ (sI (sI (sI σ1 790000 (g.A 28) (8 * p + (g.L3 p).length) (nI (g.N a))) 800000 (g.A 29) (8 * p + (g.L3 p).length) c) 780000 (g.A 27) p (nI ((g.L3 p).length + 1))) := fun r hr =>
    FrP.iw (FrP.iw (FrP.iw (F1.at g r) (Or.inr (niA (by decide) (show (8 * p + (g.L3 p).length) / 8 = p by omega) hr))) (Or.inr (niA (by decide) (show (8 * p + (g.L3 p).length) / 8 = p by omega) hr))) (Or.inr (niA (by decide) (show p / 1 = p by omega) hr))
  have fe2 : σ1.2.2.2 (fe E) = 0 := hl.1
  have hfe : (wtS σ q a c).2.2.2 (fe E) = 0 := by
    show (if fe E = q then 7 else σ.2.2.2 (fe E)) = 0
    rw [if_neg hqe.symm]; exact R.s.f0
  have l1' : ∃ AR, LLx E 20 41 5 (fun p => g.D p 12) g.L1 AR (sI (sI (sI σ1 790000 (g.A 28) (8 * p + (g.L3 p).length) (nI (g.N a))) 800000 (g.A 29) (8 * p + (g.L3 p).length) c) 780000 (g.A 27) p (nI ((g.L3 p).length + 1))) := by
    obtain ⟨A2, l2⟩ := R.s.l1
    exact ⟨A2, (((l2.fr Fw hfe (by decide) (by decide) (by decide)).keep he (by decide) (by decide) (by decide) (by decide) (by decide) (by decide) (by decide)).fr F2 fe2 (by decide) (by decide) (by decide))⟩
  have l2' : ∃ AR, LLx E 21 42 6 (fun p => g.D p 13) g.L2 AR (sI (sI (sI σ1 790000 (g.A 28) (8 * p + (g.L3 p).length) (nI (g.N a))) 800000 (g.A 29) (8 * p + (g.L3 p).length) c) 780000 (g.A 27) p (nI ((g.L3 p).length + 1))) := by
    obtain ⟨A2, l2⟩ := R.s.l2
    exact ⟨A2, (((l2.fr Fw hfe (by decide) (by decide) (by decide)).keep he (by decide) (by decide) (by decide) (by decide) (by decide) (by decide) (by decide)).fr F2 fe2 (by decide) (by decide) (by decide))⟩
  have l3' : ∃ AR, LLx E 22 43 7 (fun p => g.D p 14) (upL g.L3 p (g.L3 p ++ [q])) AR (sI (sI (sI σ1 790000 (g.A 28) (8 * p + (g.L3 p).length) (nI (g.N a))) 800000 (g.A 29) (8 * p + (g.L3 p).length) c) 780000 (g.A 27) p (nI ((g.L3 p).length + 1))) := ⟨AR', hl.fr F2 fe2 (by decide) (by decide) (by decide)⟩
  have rnew : (sI (sI (sI σ1 790000 (g.A 28) (8 * p + (g.L3 p).length) (nI (g.N a))) 800000 (g.A 29) (8 * p + (g.L3 p).length) c) 780000 (g.A 27) p (nI ((g.L3 p).length + 1))).1 790000 (g.A 28) (8 * p + (g.L3 p).length) = nI (g.N a) ∧ (sI (sI (sI σ1 790000 (g.A 28) (8 * p + (g.L3 p).length) (nI (g.N a))) 800000 (g.A 29) (8 * p + (g.L3 p).length) c) 780000 (g.A 27) p (nI ((g.L3 p).length + 1))).1 800000 (g.A 29) (8 * p + (g.L3 p).length) = c := by
    constructor <;> simp [sI]
  have rold : ∀ i, i < (g.L3 p).length → (sI (sI (sI σ1 790000 (g.A 28) (8 * p + (g.L3 p).length) (nI (g.N a))) 800000 (g.A 29) (8 * p + (g.L3 p).length) c) 780000 (g.A 27) p (nI ((g.L3 p).length + 1))).1 790000 (g.A 28) (8 * p + i) = σ.1 790000 (g.A 28) (8 * p + i) ∧ (sI (sI (sI σ1 790000 (g.A 28) (8 * p + (g.L3 p).length) (nI (g.N a))) 800000 (g.A 29) (8 * p + (g.L3 p).length) c) 780000 (g.A 27) p (nI ((g.L3 p).length + 1))).1 800000 (g.A 29) (8 * p + i) = σ.1 800000 (g.A 29) (8 * p + i) := by
    intro i hi
    rw [← (F1.2.2 790000 (g.A 28) (8 * p + i) (R.s.kA (by decide)) (by decide)).1, ← (F1.2.2 800000 (g.A 29) (8 * p + i) (R.s.kA (by decide)) (by decide)).1]
    constructor
    · simp [sI]; omega
    · simp [sI]; omega
  have hw' : WF (sI (sI (sI σ1 790000 (g.A 28) (8 * p + (g.L3 p).length) (nI (g.N a))) 800000 (g.A 29) (8 * p + (g.L3 p).length) c) 780000 (g.A 27) p (nI ((g.L3 p).length + 1))) := hw1
  have rw7 : (sI (sI (sI σ1 790000 (g.A 28) (8 * p + (g.L3 p).length) (nI (g.N a))) 800000 (g.A 29) (8 * p + (g.L3 p).length) c) 780000 (g.A 27) p (nI ((g.L3 p).length + 1))).1 780000 (g.A 27) p = nI ((g.L3 p).length + 1) := rIs
  have rq1 : (sI (sI (sI σ1 790000 (g.A 28) (8 * p + (g.L3 p).length) (nI (g.N a))) 800000 (g.A 29) (8 * p + (g.L3 p).length) c) 780000 (g.A 27) p (nI ((g.L3 p).length + 1))).2.1 70003 q 0 = some a := (rq (c0 := 70003) (by decide)).2.trans (by simp [wtS, sI, sO, sN])
  have rq2 : (sI (sI (sI σ1 790000 (g.A 28) (8 * p + (g.L3 p).length) (nI (g.N a))) 800000 (g.A 29) (8 * p + (g.L3 p).length) c) 780000 (g.A 27) p (nI ((g.L3 p).length + 1))).1 70100 q 0 = c := (rq (c0 := 70100) (by decide)).1.trans (by simp [wtS, sI, sO, sN])
  generalize sI (sI (sI σ1 790000 (g.A 28) (8 * p + (g.L3 p).length) (nI (g.N a))) 800000 (g.A 29) (8 * p + (g.L3 p).length) c) 780000 (g.A 27) p (nI ((g.L3 p).length + 1)) = σ2 at *
  have s' : RS E (gV g p q) σ2 := R.s.fr F hw' (by decide) (by decide) (by decide) rfl rfl rfl rfl rfl l1' l2' l3'
  have bB := RBn.of R.a
  have v' : ∀ r, r < 4 → RV (gV g p q) r σ2 := by
    intro r hr
    by_cases e : r = p
    · subst e
      have eL : (gV g r q).L3 r = g.L3 r ++ [q] := upL_s
      obtain ⟨h1, h3, h4⟩ := (R.v r hr).1 ha
      refine ⟨fun _ => ⟨fun i w hi => ?_, ?_, ?_⟩, fun z => absurd ((al.fr R.s F (by decide) r).mpr ha) z⟩
      · rw [eL] at hi
        show ∃ a, σ2.2.1 70003 w 0 = some a ∧ σ2.1 30200 a 0 = 0 ∧ σ2.1 790000 (g.A 28) (8 * r + i) = nI (g.N a) ∧ σ2.1 70100 w 0 = σ2.1 800000 (g.A 29) (8 * r + i)
        rcases app_get hi with ⟨hil, hj⟩ | ⟨rfl, rfl⟩
        · obtain ⟨b, q1, q2, q3, q4⟩ := h1 i w hj
          have hw := R.s.k3 hr hj
          refine ⟨b, by rw [((F.at g r).o R.s hw (by decide) (by decide) (by decide)).2]; exact q1, by rw [((F.at g r).o R.s (R.s.wf _ _ _ _ q1 (by decide)) (by decide) (by decide) (by decide)).1]; exact q2, by rw [(rold i hil).1]; exact q3, ?_⟩
          rw [((F.at g r).o R.s hw (by decide) (by decide) (by decide)).1, (rold i hil).2]; exact q4
        · exact ⟨a, rq1, by rw [((F.at g r).o R.s ha3 (by decide) (by decide) (by decide)).1]; exact had, rnew.1, rq2.trans rnew.2.symm⟩
      · rw [eL, List.length_append]; exact rw7
      · rw [eL, List.length_append]; show (g.L3 r).length + 1 ≤ 8; omega
    · have h := (R.v r hr).fr hr R.s (FP r e) (by decide)
      unfold RV at h ⊢
      rw [show (gV g p q).L3 r = g.L3 r from upL_n e]; exact h
  have b' : RB (gV g p q) σ2 := by
    intro r hr har
    have har' : al g σ r := (al.fr R.s F (by decide) r).mp har
    by_cases e : r = p
    · subst e
      show (g.L1 r).countP _ + ((gV g r q).L3 r).length ≤ 24 + (g.L1 r).countP _
      have ek : ∀ w, w ∈ g.L1 r → σ2.1 50000 w 0 = σ.1 50000 w 0 := fun w hw => ((F.at g r).o R.s (R.s.m1 hr hw) (by decide) (by decide) (by decide)).1
      rw [show (gV g r q).L3 r = g.L3 r ++ [q] from upL_s, List.length_append, countP_cong (l := g.L1 r) (P := fun w => !(σ2.1 50000 w 0 == 2)) (fun w hw => by rw [ek w hw]), countP_cong (l := g.L1 r) (P := fun w => σ2.1 50000 w 0 == 5) (fun w hw => by rw [ek w hw])]
      exact hb
    · show (g.L1 r).countP _ + ((gV g p q).L3 r).length ≤ 24 + (g.L1 r).countP _
      rw [show (gV g p q).L3 r = g.L3 r from upL_n e]
      exact RB.frp (g := g) hr (R.b r hr har') R.s (FP r e) (by decide)
  exact
  RR.mk
    (s := s')
    (p := R.p.fr R.s F (by decide))
    (no := R.no.fr R.s F (by decide) (by decide))
    (mg := R.mg.fr R.s F (by decide))
    (h := fun p hp => (show RH g n p σ2 from (R.h p hp).fr hp R.s (F.at _ p) (by decide)))
    (d := fun p hp => (show RD g p σ2 from (R.d p hp).fr hp R.s (F.at _ p) (by decide)))
    (a := fun p hp => (show RA g p σ2 from (R.a p hp).fr hp R.s (F.at _ p) (by decide) (by decide)))
    (i := fun p hp => (show RI g p σ2 from (R.i p hp).fr hp R.s (fun c m h1 h2 _ => bB p c m hp h1 h2) (F.at _ p) (by decide)))
    (o := fun p hp => (show RO g p σ2 from (R.o p hp).fr hp R.s (F.at _ p) (by decide)))
    (v := v')
    (l := fun p hp => (show RL g p σ2 from (R.l p hp).fr hp R.s (F.at _ p) (by decide) (by decide)))
    (q := (show RQ g σ2 from R.q.fr R.s (RBn.of R.a) F (by decide) (by decide) (by decide)))
    (c := (show RC g σ2 from R.c.fr R.s F (by decide) (by decide)))
    (b := b')
    (t := by obtain ⟨T9, t1, t2⟩ := R.t; exact ⟨T9, by show σ2.1 502300 g.m 0 = _; rw [(F.2.2 _ _ _ R.s.km (by decide)).1]; exact t1, t2⟩)
theorem sim_watch {p : Nat} (R : RR E g n σ) (hn : n ≤ 512) (hp : p < 4) (ha : al g σ p) (x c : Int32) {v : Int32} {σ1 : Sg} (h : owtP E g.D p g.L1 g.L3 σ x c v σ1) :
    ∃ σ2 g', mwtF σ1 g.m g.A p (g.L1 p).length (g.L3 p).length x c = (v, σ2) ∧ RR E g' (n + 1) σ2 ∧ σ2.1 500000 g.m 0 = 0 ∧ g'.x = g.x ∧ g'.m = g.m ∧ g'.A = g.A := by
  obtain ⟨H, hu⟩ := (R.h p hp).1 ha
  have hM : 4 * n < 2 ^ 31 := by omega
  have eh := H.has hM x
  obtain ⟨v1, v2, v3⟩ := (R.v p hp).1 ha
  unfold owtP at h
  rw [eh] at h
  by_cases c1 : hhF (σ.1 550000 (g.A 4)) (σ.1 560000 (g.A 5)) p x = 0
  · rw [if_pos c1] at h
    obtain ⟨rfl, rfl⟩ := h
    exact ⟨_, g, by unfold mwtF; rw [if_pos c1], (R.th 0).mono (by omega), rIs, rfl, rfl, rfl⟩
  · rw [if_neg c1] at h
    by_cases c2 : 8 ≤ (g.L3 p).length
    · rw [if_pos c2] at h
      obtain ⟨rfl, rfl⟩ := h
      exact ⟨_, g, by unfold mwtF; rw [if_neg c1, if_pos (by omega)], (R.th 0).mono (by omega), rIs, rfl, rfl, rfl⟩
    · rw [if_neg c2] at h
      by_cases c3 : 24 ≤ (g.L1 p).length + (g.L3 p).length
      · rw [if_pos c3] at h
        obtain ⟨rfl, rfl⟩ := h
        exact ⟨_, g, by unfold mwtF; rw [if_neg c1, if_neg (by omega), if_pos c3], (R.th 0).mono (by omega), rIs, rfl, rfl, rfl⟩
      · rw [if_neg c3] at h
        obtain ⟨a, hj, rfl, h⟩ := h
        have c1' := c1
        rw [← eh] at c1'
        obtain ⟨j, a', j1, j2, rfl, hj'⟩ := hasF_rng c1'
        rw [nI_clamp (by omega)] at hj
        rw [hj] at hj'; cases hj'
        obtain ⟨k1, k2, s, w, e1, e2, l1, l2, h3⟩ := H.1 j j1 j2
        have q3 : σ.1 540000 (g.A 3) (16 * p + j) = nI (g.N a) := by
          rcases h3 with ⟨z, -⟩ | ⟨a', z, -, q⟩
          · rw [z] at hj; cases hj
          · rw [z] at hj; cases hj; exact q
        have ha3 := R.s.wf _ _ _ _ hj (by decide)
        obtain ⟨m1, m2, m3, m4⟩ := R.no.m R.p (by omega) ha3
        have hcb : (g.L1 p).countP (fun w => !(σ.1 50000 w 0 == 2)) + (g.L3 p).length + 1 ≤ 24 + (g.L1 p).countP (fun w => σ.1 50000 w 0 == 5) := by
          have := List.countP_le_length (p := fun w => !(σ.1 50000 w 0 == 2)) (l := g.L1 p)
          omega
        by_cases cd : σ.1 30200 a 0 = 0
        · rw [if_pos cd] at h
          obtain ⟨q, AR', q0, hqe, hl, he⟩ := h
          have F1 : ∀ {c0 j i}, c0 / 10000 ≠ 22 → c0 / 10000 ≠ 43 → j < 31 → σ1.1 c0 (g.A j) i = σ.1 c0 (g.A j) i := by
            intro c0 j i n1 n2 hj
            have hz : (wtS σ q a c).2.2.2 (g.A j) ≠ 0 := by
              have := R.s.kA hj
              have hne : g.A j ≠ q := fun e => this (by rw [e]; exact q0)
              show (if g.A j = q then 7 else σ.2.2.2 (g.A j)) ≠ 0
              rw [if_neg hne]; exact this
            rw [(he.2.2.1 c0 _ i hz n1 n2).1]
            have hne : g.A j ≠ q := fun e => R.s.kA hj (by rw [e]; exact q0)
            simp [wtS, sI, sO, sN, hne]
          refine ⟨_, gV g p q, ?_, ((R.addV hp ha q0 hqe ha3 cd hl he (by omega) hcb).th 0).mono (by omega), rIs, rfl, rfl, rfl⟩
          unfold mwtF
          rw [show σ1.1 550000 (g.A 4) = σ.1 550000 (g.A 4) from funext fun i => F1 (by decide) (by decide) (by decide), show σ1.1 560000 (g.A 5) = σ.1 560000 (g.A 5) from funext fun i => F1 (by decide) (by decide) (by decide), show σ1.1 510000 (g.A 0) = σ.1 510000 (g.A 0) from funext fun i => F1 (by decide) (by decide) (by decide), show σ1.1 520000 (g.A 1) = σ.1 520000 (g.A 1) from funext fun i => F1 (by decide) (by decide) (by decide), F1 (c0 := 540000) (by decide) (by decide) (by decide), if_neg c1, if_neg (by omega), if_neg c3, nI_clamp (show j < 2 ^ 31 by omega), q3, ← m3, if_pos cd, sI_comm (c := 500000) (c' := 790000) (by decide), sI_comm (c := 500000) (c' := 800000) (by decide), sI_comm (c := 500000) (c' := 780000) (by decide)]
          rfl
        · rw [if_neg cd] at h
          obtain ⟨q, AR', q0, hqe, hl, he⟩ := h
          have F1 : ∀ {c0 j i}, c0 / 10000 ≠ 20 → c0 / 10000 ≠ 41 → j < 31 → σ1.1 c0 (g.A j) i = σ.1 c0 (g.A j) i := by
            intro c0 j i n1 n2 hj
            have hne : g.A j ≠ q := fun e => R.s.kA hj (by rw [e]; exact q0)
            have hz : (wkS σ q 4 none c).2.2.2 (g.A j) ≠ 0 := by
              show (if g.A j = q then 5 else σ.2.2.2 (g.A j)) ≠ 0
              rw [if_neg hne]; exact R.s.kA hj
            rw [(he.2.2.1 c0 _ i hz n1 n2).1]
            simp [wkS, sI, sO, sN, hne]
          have A := AddW.of (k' := 4) (b := -1) (y := -1) (s' := -1) (c' := c) R.s hp q0 hqe (fun _ e => by cases e) hl he (by omega)
          have RN := R.addN hp ha A (by omega) (Or.inl rfl) ⟨cm_r.1, cm_r.2.1, cm_r.2.2.1, cm_r.2.2.2.1, cm_r.2.2.2.2.1⟩ (fun _ => hcb) (fun h => absurd h (by decide))
          refine ⟨_, gW g p q, ?_, (RN.th 0).mono (by omega), rIs, rfl, rfl, rfl⟩
          unfold mwtF
          rw [show σ1.1 550000 (g.A 4) = σ.1 550000 (g.A 4) from funext fun i => F1 (by decide) (by decide) (by decide), show σ1.1 560000 (g.A 5) = σ.1 560000 (g.A 5) from funext fun i => F1 (by decide) (by decide) (by decide), show σ1.1 510000 (g.A 0) = σ.1 510000 (g.A 0) from funext fun i => F1 (by decide) (by decide) (by decide), show σ1.1 520000 (g.A 1) = σ.1 520000 (g.A 1) from funext fun i => F1 (by decide) (by decide) (by decide), F1 (c0 := 540000) (by decide) (by decide) (by decide), if_neg c1, if_neg (by omega), if_neg c3, nI_clamp (show j < 2 ^ 31 by omega), q3, ← m3, if_neg cd, cmS_th]
          rfl
end FRM
