section FRM
variable {E : FE} {g : Gh} {σ σ' σ2 : Sg} {K J : Nat → Bool} {n n' : Nat}
theorem tk_p {τ : Sg} {m p W O r : Nat} (hr : r ≠ p) (hb : ¬ τ.1 730000 (g.A 22) (384 * p + 1) < 0 → (τ.1 730000 (g.A 22) (384 * p + 1)).toNatClampNeg / 64 = p) (hO : τ.1 730000 (g.A 22) (384 * p) = 1 → O < 12) (hW : W ≤ 64) : FrP g r (fun c => c == 500000) (fun _ => false) τ (tkX τ m g.A p W O) := by
  have FO : FrP g r (fun c => c == 500000) (fun _ => false) τ (tkO τ g.A p O (sI τ 500000 m 0 0)) := by
    unfold tkO
    split
    · rename_i z
      have := hO z
      exact FrP.iw (FrP.iw (FrP.iw (FrP.iw FrP.refl (Or.inl (by decide))) (Or.inr (niA (by decide) (show (12 * p + O) / 12 = p by omega) hr))) (Or.inr (niA (by decide) (show (12 * p + O) / 12 = p by omega) hr))) (Or.inr (niA (by decide) (show p / 1 = p by omega) hr))
    · exact FrP.iw FrP.refl (Or.inl (by decide))
  have FV : FrP g r (fun c => c == 500000) (fun _ => false) τ (tkV τ g.A p (tkO τ g.A p O (sI τ 500000 m 0 0))) := by
    unfold tkV
    split
    · exact FrP.iw FO (Or.inr (niA (by decide) (show p / 1 = p by omega) hr))
    · split
      · exact FrP.iw FO (Or.inr (niA (by decide) (show p / 1 = p by omega) hr))
      · exact FO
  have FL : FrP g r (fun c => c == 500000) (fun _ => false) τ (tkL τ g.A p (tkV τ g.A p (tkO τ g.A p O (sI τ 500000 m 0 0)))) := by
    unfold tkL
    exact FrP.iw (FrP.iw (FrP.iw (FrP.iw (FrP.iw FV (Or.inr (niA (by decide) (show (5 * p) / 5 = p by omega) hr))) (Or.inr (niA (by decide) (show (5 * p + 1) / 5 = p by omega) hr))) (Or.inr (niA (by decide) (show (5 * p + 2) / 5 = p by omega) hr))) (Or.inr (niA (by decide) (show (5 * p + 3) / 5 = p by omega) hr))) (Or.inr (niA (by decide) (show (5 * p + 4) / 5 = p by omega) hr))
  have FB : FrP g r (fun c => c == 500000) (fun _ => false) τ (tkB τ g.A p (tkL τ g.A p (tkV τ g.A p (tkO τ g.A p O (sI τ 500000 m 0 0))))) := by
    unfold tkB
    split
    · exact FL
    · rename_i z
      exact FrP.iw FL (Or.inr (niA (by decide) (hb z) hr))
  unfold tkX
  exact itF_ind (f := shF g.A) (fun _ τ' => FrP g r (fun c => c == 500000) (fun _ => false) τ τ') (6 * (W - 1)) (384 * p) _ (FrP.iw FB (Or.inr (niA (by decide) (show p / 1 = p by omega) hr))) (fun j τ' h1 h2 hf => FrP.iw hf (Or.inr (niA (by decide) (show j / 384 = p by omega) hr)))
/-- the class's part of take: which codes, by the work's kind and message -/
def KC1 (k : Int32) (mo : Option Nat) : Nat → Bool := fun c => KL1 c || c == 21105 || c == 21000 || (mo.isSome && c == 61000) || ((k == 1) && KO1 c)
def JC : Nat → Bool := fun j => j == 41 || j == 42
def TkC (E : FE) (g : Gh) (p w : Nat) (k : Int32) (mo : Option Nat) (σ σ1 : Sg) : Prop := (Fr (KC1 k mo) JC σ σ1) ∧ (∀ r, r ≠ p → FrP g r (fun c => KL1 c || KO1 c || c == 61000) JC σ σ1) ∧ (WF σ1) ∧ (σ1.2.2.2 (fe E) = 0) ∧ (∃ AR, LLx E 20 41 5 (fun p => g.D p 12) (upL g.L1 p (g.L1 p).tail) AR σ1) ∧ (k = 1 → ∃ m AR, mo = some m ∧ LLx E 21 42 6 (fun p => g.D p 13) (upL g.L2 p (g.L2 p ++ [m])) AR σ1) ∧ (σ1.2.1 21105 (g.D p 0) 0 = some w) ∧ (σ1.1 21000 (g.D p 0) 0 = if k = 3 ∨ k = 5 then 0 else σ.1 21000 (g.D p 0) 0) ∧ (∀ m, mo = some m → σ1.1 61000 m 0 = 1 ∧ ∀ x, x ≠ m → σ.2.2.2 x = 6 → σ1.1 61000 x 0 = σ.1 61000 x 0)
theorem TkC.F {E : FE} {g : Gh} {p w : Nat} {k : Int32} {mo : Option Nat} {σ σ1 : Sg} (h9 : TkC E g p w k mo σ σ1) : Fr (KC1 k mo) JC σ σ1 := h9.1
theorem TkC.FP {E : FE} {g : Gh} {p w : Nat} {k : Int32} {mo : Option Nat} {σ σ1 : Sg} (h9 : TkC E g p w k mo σ σ1) : ∀ r, r ≠ p → FrP g r (fun c => KL1 c || KO1 c || c == 61000) JC σ σ1 := h9.2.1
theorem TkC.wf {E : FE} {g : Gh} {p w : Nat} {k : Int32} {mo : Option Nat} {σ σ1 : Sg} (h9 : TkC E g p w k mo σ σ1) : WF σ1 := h9.2.2.1
theorem TkC.f0 {E : FE} {g : Gh} {p w : Nat} {k : Int32} {mo : Option Nat} {σ σ1 : Sg} (h9 : TkC E g p w k mo σ σ1) : σ1.2.2.2 (fe E) = 0 := h9.2.2.2.1
theorem TkC.l1 {E : FE} {g : Gh} {p w : Nat} {k : Int32} {mo : Option Nat} {σ σ1 : Sg} (h9 : TkC E g p w k mo σ σ1) : ∃ AR, LLx E 20 41 5 (fun p => g.D p 12) (upL g.L1 p (g.L1 p).tail) AR σ1 := h9.2.2.2.2.1
theorem TkC.l2 {E : FE} {g : Gh} {p w : Nat} {k : Int32} {mo : Option Nat} {σ σ1 : Sg} (h9 : TkC E g p w k mo σ σ1) : k = 1 → ∃ m AR, mo = some m ∧ LLx E 21 42 6 (fun p => g.D p 13) (upL g.L2 p (g.L2 p ++ [m])) AR σ1 := h9.2.2.2.2.2.1
theorem TkC.r1 {E : FE} {g : Gh} {p w : Nat} {k : Int32} {mo : Option Nat} {σ σ1 : Sg} (h9 : TkC E g p w k mo σ σ1) : σ1.2.1 21105 (g.D p 0) 0 = some w := h9.2.2.2.2.2.2.1
theorem TkC.r2 {E : FE} {g : Gh} {p w : Nat} {k : Int32} {mo : Option Nat} {σ σ1 : Sg} (h9 : TkC E g p w k mo σ σ1) : σ1.1 21000 (g.D p 0) 0 = if k = 3 ∨ k = 5 then 0 else σ.1 21000 (g.D p 0) 0 := h9.2.2.2.2.2.2.2.1
theorem TkC.r3 {E : FE} {g : Gh} {p w : Nat} {k : Int32} {mo : Option Nat} {σ σ1 : Sg} (h9 : TkC E g p w k mo σ σ1) : ∀ m, mo = some m → σ1.1 61000 m 0 = 1 ∧ ∀ x, x ≠ m → σ.2.2.2 x = 6 → σ1.1 61000 x 0 = σ.1 61000 x 0 := h9.2.2.2.2.2.2.2.2
theorem TkC.mk {E : FE} {g : Gh} {p w : Nat} {k : Int32} {mo : Option Nat} {σ σ1 : Sg} (F : Fr (KC1 k mo) JC σ σ1) (FP : ∀ r, r ≠ p → FrP g r (fun c => KL1 c || KO1 c || c == 61000) JC σ σ1) (wf : WF σ1) (f0 : σ1.2.2.2 (fe E) = 0) (l1 : ∃ AR, LLx E 20 41 5 (fun p => g.D p 12) (upL g.L1 p (g.L1 p).tail) AR σ1) (l2 : k = 1 → ∃ m AR, mo = some m ∧ LLx E 21 42 6 (fun p => g.D p 13) (upL g.L2 p (g.L2 p ++ [m])) AR σ1) (r1 : σ1.2.1 21105 (g.D p 0) 0 = some w) (r2 : σ1.1 21000 (g.D p 0) 0 = if k = 3 ∨ k = 5 then 0 else σ.1 21000 (g.D p 0) 0) (r3 : ∀ m, mo = some m → σ1.1 61000 m 0 = 1 ∧ ∀ x, x ≠ m → σ.2.2.2 x = 6 → σ1.1 61000 x 0 = σ.1 61000 x 0) : TkC E g p w k mo σ σ1 := ⟨F, FP, wf, f0, l1, l2, r1, r2, r3⟩
theorem tkC_of {p w : Nat} {σa σ1 : Sg} {AR : Nat → Nat} (R : RR E g n σ) (hp : p < 4) (h0 : (g.L1 p)[0]? = some w) (hl : LLx E 20 41 5 (fun p => g.D p 12) (upL g.L1 p (g.L1 p).tail) AR σa) (he : Eqk E 20 41 σ σa) (h : accP E g.D p w g.L2 σa σ1) (hk : σ.2.1 50106 w 0 = none → ¬ σ.1 50000 w 0 = 1) : TkC E g p w (σ.1 50000 w 0) (σ.2.1 50106 w 0) σ σ1 := by
  have hw5 := R.s.k1 hp h0
  have w0 : σ.2.2.2 w ≠ 0 := by rw [hw5]; decide
  have hwa := he.2.2.2.2.2 R.s.wf
  have Fa : Fr KL1 (fun j => j == 41) σ σa := (Fr.k he).weak (fun c hc => hc) (fun _ h => h)
  have em : σa.2.1 50106 w 0 = σ.2.1 50106 w 0 := (Fa.2.2 _ _ _ w0 (by decide)).2
  have ek : σa.1 50000 w 0 = σ.1 50000 w 0 := (Fa.2.2 _ _ _ w0 (by decide)).1
  have wa5 : σa.2.2.2 w = 5 := by rw [Fa.1 w w0]; exact hw5
  have kDa : ∀ {j}, j < 15 → σa.2.2.2 (g.D p j) ≠ 0 := fun hj => by rw [Fa.1 _ (R.s.kD hp hj)]; exact R.s.kD hp hj
  have FaP : ∀ r, FrP g r KL1 (fun j => j == 41) σ σa := fun r => Fa.at g r
  have l2a : ∃ AR, LLx E 21 42 6 (fun p => g.D p 13) g.L2 AR σa := by
    obtain ⟨A2, h2⟩ := R.s.l2
    exact ⟨A2, h2.keep he (by decide) (by decide) (by decide) (by decide) (by decide) (by decide) (by decide)⟩
  have d21 : ∀ {i}, σa.1 21000 (g.D p 0) i = σ.1 21000 (g.D p 0) i := fun {i} => (Fa.2.2 21000 (g.D p 0) i (R.s.kD hp (by decide)) (by decide)).1
  -- the writes at the process and the message
  have ex : ∀ (τ : Sg) (b : Bool) (mo : Option Nat), τ = (match mo with
      | none => sO σa 21105 (g.D p 0) 0 (some w)
      | some m => sI (sO σa 21105 (g.D p 0) 0 (some w)) 61000 m 0 1) → (∀ m, mo = some m → σ.2.2.2 m = 6) → (Fr (KC1 0 mo) (fun j => j == 41) σ τ ∧ (∀ r, r ≠ p → FrP g r (fun c => KL1 c || c == 61000) (fun j => j == 41) σ τ) ∧ WF τ ∧ τ.2.2.2 = σa.2.2.2 ∧ τ.2.1 21105 (g.D p 0) 0 = some w ∧ τ.1 21000 (g.D p 0) 0 = σ.1 21000 (g.D p 0) 0 ∧ Fr (fun c => c == 21105 || c == 61000) (fun _ => false) σa τ ∧ (∀ m, mo = some m → τ.1 61000 m 0 = 1 ∧ ∀ x, x ≠ m → σ.2.2.2 x = 6 → τ.1 61000 x 0 = σ.1 61000 x 0)) := by
    intro τ b mo hτ hmo
    have F0 : Fr (KC1 0 mo) (fun j => j == 41) σ σa := Fa.weak (fun c hc => by simp only [KC1, Bool.or_eq_false_iff] at hc; exact hc.1.1.1.1) (fun _ h => h)
    have P0 : ∀ r, FrP g r (fun c => KL1 c || c == 61000) (fun j => j == 41) σ σa := fun r => (Fa.weak (K' := fun c => KL1 c || c == 61000) (fun c hc => by simp only [Bool.or_eq_false_iff] at hc; exact hc.1) (fun _ h => h)).at g r
    have h61 : ∀ x, σ.2.2.2 x = 6 → σa.1 61000 x 0 = σ.1 61000 x 0 := fun x hx => (Fa.2.2 61000 x 0 (by rw [hx]; decide) (by decide)).1
    cases mo with
    | none =>
      subst hτ
      refine ⟨Fr.oK F0 (by simp [KC1]), fun r hr => FrP.ow (P0 r) (Or.inr (niD (by decide) hp (by decide) hr)), WF.oS hwa (fun _ => wa5), rfl, rOs, d21, Fr.oK Fr.refl (by decide), fun m h => by cases h⟩
    | some m =>
      subst hτ
      refine ⟨Fr.iK (Fr.oK F0 (by simp [KC1])) (by simp [KC1]), fun r hr => FrP.iw (FrP.ow (P0 r) (Or.inr (niD (by decide) hp (by decide) hr))) (Or.inl (by simp)), WF.oS hwa (fun _ => wa5), rfl, rOs, d21, Fr.iK (Fr.oK Fr.refl (by decide)) (by decide), fun m' h => ?_⟩
      cases h
      refine ⟨rIs, fun x hx h6 => ?_⟩
      show (if 61000 = 61000 ∧ x = m ∧ 0 = 0 then 1 else σa.1 61000 x 0) = σ.1 61000 x 0
      rw [if_neg (fun z => hx z.2.1)]; exact h61 x h6
  have hmo6 : ∀ m, σ.2.1 50106 w 0 = some m → σ.2.2.2 m = 6 := fun m h => R.s.wf _ _ _ _ h (by decide)
  have l1k : ∀ τ : Sg, Fr (fun c => c == 21105 || c == 61000 || c == 21000) (fun _ => false) σa τ → τ.2.2.2 (fe E) = 0 → ∃ AR, LLx E 20 41 5 (fun p => g.D p 12) (upL g.L1 p (g.L1 p).tail) AR τ := fun τ F hf => ⟨AR, hl.fr F hf (by decide) (by decide) (by decide)⟩
  unfold accP at h
  rw [em, ek] at h
  cases hm : σ.2.1 50106 w 0 with
  | none =>
    rw [hm] at h
    dsimp only at h
    obtain ⟨f1, f2, f3, f4, f5, f6, f7, f8⟩ := ex _ true none rfl (fun m h => by cases h)
    have k1 := hk hm
    by_cases z : σ.1 50000 w 0 = 3 ∨ σ.1 50000 w 0 = 5
    · have e1 : σ1 = sI (sO σa 21105 (g.D p 0) 0 (some w)) 21000 (g.D p 0) 0 0 := by
        rcases z with z | z
        · rw [if_pos z] at h; exact h
        · rw [z, if_neg (by decide), if_pos rfl] at h; exact h
      subst e1
      refine ⟨Fr.iK (f1.weak (fun c hc => by simp only [KC1, Bool.or_eq_false_iff] at hc ⊢; simp [hc]) (fun j hj => by simp at hj; simp [JC, hj])) (by simp [KC1]), fun r hr => FrP.iw ⟨(f2 r hr).1, fun x h1 h2 => by have := (f2 r hr).2.1 x h1 h2; simp at this; simp [JC, this], fun c x i hx hc hi => (f2 r hr).2.2 c x i hx (by simp only [Bool.or_eq_false_iff] at hc ⊢; exact ⟨hc.1.1, hc.2⟩) hi⟩ (Or.inr (niD (by decide) hp (by decide) hr)), f3, hl.1, l1k _ (Fr.iK (Fr.oK Fr.refl (by decide)) (by decide)) hl.1, fun h => absurd h k1, f5, by rw [if_pos z]; exact rIs, fun m h => by cases h⟩
    · have e1 : σ1 = sO σa 21105 (g.D p 0) 0 (some w) := by
        rw [if_neg (fun y => z (Or.inl y)), if_neg (fun y => z (Or.inr y))] at h; exact h
      subst e1
      refine ⟨f1.weak (fun c hc => by simp only [KC1, Bool.or_eq_false_iff] at hc ⊢; simp [hc]) (fun j hj => by simp at hj; simp [JC, hj]), fun r hr => ⟨(f2 r hr).1, fun x h1 h2 => by have := (f2 r hr).2.1 x h1 h2; simp at this; simp [JC, this], fun c x i hx hc hi => (f2 r hr).2.2 c x i hx (by simp only [Bool.or_eq_false_iff] at hc ⊢; exact ⟨hc.1.1, hc.2⟩) hi⟩, f3, hl.1, l1k _ (Fr.oK Fr.refl (by decide)) hl.1, fun h => absurd h k1, f5, by rw [if_neg z]; exact f6, fun m h => by cases h⟩
  | some m =>
    rw [hm] at h
    dsimp only at h
    obtain ⟨f1, f2, f3, f4, f5, f6, f7, f8⟩ := ex _ true (some m) rfl (fun m' h => by cases h; exact hmo6 m hm)
    have f1' : Fr (KC1 (σ.1 50000 w 0) (some m)) JC σ (sI (sO σa 21105 (g.D p 0) 0 (some w)) 61000 m 0 1) := f1.weak (fun c hc => by
      simp only [KC1, Bool.or_eq_false_iff] at hc ⊢
      have h61 : ¬ c = 61000 := by simpa using hc.1.2
      simp [hc, h61]) (fun j hj => by simp at hj; simp [JC, hj])
    by_cases k1 : σ.1 50000 w 0 = 1
    · rw [if_pos k1] at h
      obtain ⟨AR2, hl2, he2⟩ := h
      have F2 : Fr KO1 (fun j => j == 42) (sI (sO σa 21105 (g.D p 0) 0 (some w)) 61000 m 0 1) σ1 := (Fr.k he2).weak (fun c hc => hc) (fun _ h => h)
      have fe1 : σ1.2.2.2 (fe E) = 0 := hl2.1
      refine ⟨(f1.trans F2).weak (fun c hc => ?_) (fun j hj => by simp at hj; simp [JC, hj]), fun r hr => ?_, he2.2.2.2.2.2 f3, fe1, ?_, fun _ => ⟨m, AR2, rfl, hl2⟩, ?_, ?_, fun m' h => ?_⟩
      · simp only [KC1, Bool.or_eq_false_iff] at hc ⊢
        rw [k1] at hc
        simp at hc
        simp [hc]
      · refine ⟨fun x hx => ?_, fun x h1 h2 => ?_, fun c x i hx hc hi => ?_⟩
        · have := (f2 r hr).1 x hx
          rw [F2.1 x (by rw [this]; exact hx), this]
        · by_cases z : (sI (sO σa 21105 (g.D p 0) 0 (some w)) 61000 m 0 1).2.2.2 x = 0
          · have := F2.2.1 x z h2; simp at this; simp [JC, this]
          · have e := F2.1 x z
            rw [e]; have := (f2 r hr).2.1 x h1 z; simp at this; simp [JC, this]
        · simp only [Bool.or_eq_false_iff] at hc
          have e1 := (f2 r hr).2.2 c x i hx (by simp only [Bool.or_eq_false_iff]; exact ⟨hc.1.1, hc.2⟩) hi
          have e2 := F2.2.2 c x i (by rw [(f2 r hr).1 x hx]; exact hx) hc.1.2
          exact ⟨e2.1.trans e1.1, e2.2.trans e1.2⟩
      · obtain ⟨A1, h1⟩ := l1k _ (f7.weak (fun c hc => by simp only [Bool.or_eq_false_iff] at hc ⊢; exact hc.1) (fun _ h => h)) hl.1
        exact ⟨A1, h1.keep he2 (by decide) (by decide) (by decide) (by decide) (by decide) (by decide) (by decide)⟩
      · rw [(F2.2.2 21105 (g.D p 0) 0 (kDa (by decide)) (by decide)).2]; exact f5
      · rw [(F2.2.2 21000 (g.D p 0) 0 (kDa (by decide)) (by decide)).1, f6, if_neg (by rw [k1]; decide)]
      · cases h
        have hm0 : σa.2.2.2 m ≠ 0 := by rw [Fa.1 m (by rw [hmo6 m hm]; decide), hmo6 m hm]; decide
        refine ⟨by rw [(F2.2.2 61000 m 0 hm0 (by decide)).1]; exact (f8 m rfl).1, fun x hx h6 => ?_⟩
        have hx0 : σa.2.2.2 x ≠ 0 := by rw [Fa.1 x (by rw [h6]; decide), h6]; decide
        rw [(F2.2.2 61000 x 0 hx0 (by decide)).1]; exact (f8 m rfl).2 x hx h6
    · rw [if_neg k1] at h
      by_cases z : σ.1 50000 w 0 = 3 ∨ σ.1 50000 w 0 = 5
      · have e1 : σ1 = sI (sI (sO σa 21105 (g.D p 0) 0 (some w)) 61000 m 0 1) 21000 (g.D p 0) 0 0 := by
          rcases z with z | z
          · rw [if_pos z] at h; exact h
          · rw [z, if_neg (by decide), if_pos rfl] at h; exact h
        subst e1
        refine ⟨Fr.iK f1' (by simp [KC1]), fun r hr => FrP.iw ⟨(f2 r hr).1, fun x h1 h2 => by have := (f2 r hr).2.1 x h1 h2; simp at this; simp [JC, this], fun c x i hx hc hi => (f2 r hr).2.2 c x i hx (by simp only [Bool.or_eq_false_iff] at hc ⊢; exact ⟨hc.1.1, hc.2⟩) hi⟩ (Or.inr (niD (by decide) hp (by decide) hr)), f3, hl.1, l1k _ (Fr.iK (Fr.iK (Fr.oK Fr.refl (by decide)) (by decide)) (by decide)) hl.1, fun h => absurd h k1, f5, by rw [if_pos z]; exact rIs, fun m' h => f8 m' h⟩
      · have e1 : σ1 = sI (sO σa 21105 (g.D p 0) 0 (some w)) 61000 m 0 1 := by
          rw [if_neg (fun y => z (Or.inl y)), if_neg (fun y => z (Or.inr y))] at h; exact h
        subst e1
        refine ⟨f1', fun r hr => ⟨(f2 r hr).1, fun x h1 h2 => by have := (f2 r hr).2.1 x h1 h2; simp at this; simp [JC, this], fun c x i hx hc hi => (f2 r hr).2.2 c x i hx (by simp only [Bool.or_eq_false_iff] at hc ⊢; exact ⟨hc.1.1, hc.2⟩) hi⟩, f3, hl.1, l1k _ (Fr.iK (Fr.oK Fr.refl (by decide)) (by decide)) hl.1, fun h => absurd h k1, f5, by rw [if_neg z]; exact f6, fun m' h => f8 m' h⟩
theorem sim_take {p : Nat} (R : RR E g n σ) (hn : n ≤ 512) (hp : p < 4) (ha : al g σ p) {v : Int32} {σ1 : Sg} (h : otkP E g.D p g.L1 g.L2 σ v σ1) :
    ∃ σ2 g', mtkF σ1 g.m g.A p (g.L1 p).length (g.L2 p).length = (v, σ2) ∧ RR E g' (n + 1) σ2 ∧ σ2.1 500000 g.m 0 = 0 ∧ g'.x = g.x ∧ g'.m = g.m ∧ g'.A = g.A := by
  unfold otkP at h
  cases h0 : (g.L1 p)[0]? with
  | none =>
    rw [h0] at h
    obtain ⟨rfl, rfl⟩ := h
    have hz : (g.L1 p).length = 0 := by
      cases e : g.L1 p with
      | nil => rfl
      | cons a t => rw [e] at h0; cases h0
    exact ⟨_, g, by unfold mtkF; rw [if_pos hz], (R.th 0).mono (by omega), rIs, rfl, rfl, rfl⟩
  | some w =>
    rw [h0] at h
    dsimp only at h
    have hlen : 0 < (g.L1 p).length := (List.getElem?_eq_some_iff.mp h0).1
    obtain ⟨q1, q2, q3⟩ := (R.i p hp).1 0 w h0
    have q1' : σ.1 50000 w 0 = σ.1 730000 (g.A 22) (384 * p) := q1
    have q2' : σ.1 50200 w 0 = σ.1 730000 (g.A 22) (384 * p + 4) := q2
    have ho := R.o p hp
    by_cases c1 : σ.1 50000 w 0 = 1 ∧ 12 ≤ (g.L2 p).length
    · rw [if_pos c1] at h
      obtain ⟨rfl, rfl⟩ := h
      exact ⟨_, g, by unfold mtkF; rw [if_neg (by omega), ← q1', if_pos ⟨c1.1, by have := ho.2.2.1; omega⟩], (R.th 0).mono (by omega), rIs, rfl, rfl, rfl⟩
    · rw [if_neg c1] at h
      obtain ⟨hv, σa, ⟨AR, hl⟩, he, hac⟩ := h
      have hk0 : σ.2.1 50106 w 0 = none → ¬ σ.1 50000 w 0 = 1 := by
        intro hz
        rcases q3 with ⟨-, z, -⟩ | ⟨m, c, r1, -⟩
        · rw [q1']
          have z' : σ.1 730000 (g.A 22) (384 * p) = 4 ∨ σ.1 730000 (g.A 22) (384 * p) = 5 := z
          rcases z' with z | z <;> rw [z] <;> decide
        · rw [hz] at r1; cases r1
      have C := tkC_of R hp h0 hl he hac hk0
      have mA : ∀ {c j i}, 510000 ≤ c → j < 31 → σ1.1 c (g.A j) i = σ.1 c (g.A j) i := by
        intro c j i hc hj
        refine (C.F.2.2 c _ i (R.s.kA hj) ?_).1
        have z1 : c / 10000 ≠ 20 ∧ c / 10000 ≠ 41 ∧ c / 10000 ≠ 21 ∧ c / 10000 ≠ 42 := by omega
        have z2 : c ≠ 21105 ∧ c ≠ 21000 ∧ c ≠ 61000 := by omega
        simp [KC1, KL1, KO1, z1, z2]
      have m73 : ∀ {i}, σ1.1 730000 (g.A 22) i = σ.1 730000 (g.A 22) i := mA (by decide) (by decide)
      obtain ⟨t1, t2, t3, ⟨t4, t5, t6, t7, t8⟩, t9, t10, t11, t12, t13⟩ := tk_m σ1 g.m g.A p (g.L1 p).length (g.L2 p).length
      have hres : mtkF σ1 g.m g.A p (g.L1 p).length (g.L2 p).length = (v, tkX σ1 g.m g.A p (g.L1 p).length (g.L2 p).length) := by
        unfold mtkF
        rw [if_neg (by omega), m73, ← q1', if_neg (fun y => c1 ⟨y.1, by omega⟩), hv]; rfl
      rw [m73] at t4 t5 t7 t8 t10 t13
      rw [m73] at t13
      have t6' : (tkX σ1 g.m g.A p (g.L1 p).length (g.L2 p).length).1 810000 (g.A 30) (5 * p + 2) = (if σ.1 730000 (g.A 22) (384 * p + 1) < 0 then -1 else σ.1 620000 (g.A 11) (σ.1 730000 (g.A 22) (384 * p + 1)).toNatClampNeg) := by rw [t6, m73, mA (by decide) (by decide)]
      have hB : ∀ m, σ.2.1 50106 w 0 = some m → σ.1 730000 (g.A 22) (384 * p + 1) = nI (g.B m) ∧ 64 * p ≤ g.B m ∧ g.B m < 64 * p + 64 := by
        intro m hm
        rcases q3 with ⟨z, -⟩ | ⟨m', c, r1, r2, r3, r4, r5, r6, -⟩
        · rw [z] at hm; cases hm
        · have em : m' = m := Option.some.inj (r1.symm.trans hm)
          rw [← em]
          exact ⟨r6, RBn.of R.a p c m' hp r2 r3⟩
      have hB0 : σ.2.1 50106 w 0 = none → σ.1 730000 (g.A 22) (384 * p + 1) = -1 := by
        intro hm
        rcases q3 with ⟨-, -, z, -⟩ | ⟨m', c, r1, -⟩
        · exact z
        · rw [hm] at r1; cases r1
      have TP : ∀ r, r ≠ p → FrP g r (fun c => c == 500000) (fun _ => false) σ1 (tkX σ1 g.m g.A p (g.L1 p).length (g.L2 p).length) := fun r hr => tk_p hr (fun hz => by
        rw [m73] at hz ⊢
        cases hm : σ.2.1 50106 w 0 with
        | none => rw [hB0 hm] at hz; exact absurd (by decide) hz
        | some m =>
          obtain ⟨e1, e2, e3⟩ := hB m hm
          rw [e1, nI_clamp (by omega)]; omega) (fun hz => by
        rw [m73, ← q1'] at hz
        by_cases y : (g.L2 p).length < 12
        · exact y
        · exact absurd ⟨hz, by omega⟩ c1) (R.i p hp).2.2.2.2
      generalize tkX σ1 g.m g.A p (g.L1 p).length (g.L2 p).length = σ2 at *
      have e2 : σ2.2 = σ1.2 := t11
      have ha' : ∀ {i}, σ2.1 610000 (g.A 10) i = if ¬ σ.1 730000 (g.A 22) (384 * p + 1) < 0 ∧ i = (σ.1 730000 (g.A 22) (384 * p + 1)).toNatClampNeg then 3 else σ.1 610000 (g.A 10) i := fun {i} => by rw [t3, m73, mA (by decide) (by decide)]
      have FA : Fr (fun c => KC1 (σ.1 50000 w 0) (σ.2.1 50106 w 0) c || KM1 (σ.1 730000 (g.A 22) (384 * p)) (σ.1 730000 (g.A 22) (384 * p + 1)) c) JC σ σ2 := (C.F.trans t13).weak (fun c hc => hc) (fun j hj => by simpa using hj)
      have sub : ∀ c, tk6 c = false → (KC1 (σ.1 50000 w 0) (σ.2.1 50106 w 0) c || KM1 (σ.1 730000 (g.A 22) (384 * p)) (σ.1 730000 (g.A 22) (384 * p + 1)) c) = false := by
        intro c hc
        simp only [tk6, tk5, tk4, tk3, tk2, KW1, KO2, Bool.or_eq_false_iff, beq_eq_false_iff_ne] at hc
        simp [KC1, KM1, KL1, KO1, hc]
      have e61 : ∀ x, σ.2.2.2 x = 6 → σ2.1 61000 x 0 = σ1.1 61000 x 0 := fun x hx => (t13.2.2 61000 x 0 (by rw [C.F.1 x (by rw [hx]; decide), hx]; decide) (by simp [KM1])).1
      have T : ∃ g', RR E g' n σ2 ∧ g'.x = g.x ∧ g'.m = g.m ∧ g'.A = g.A := by
        refine RR.take (σ2 := σ2) (J := JC) (v := if σ.1 50000 w 0 = 3 ∨ σ.1 50000 w 0 = 5 then 0 else σ.1 770000 (g.A 26) p) R hp h0 (FA.weak sub (fun _ h => h)) (by decide) (fun r hr => ?_) (by have := C.wf; intro c a x b hb hc; rw [e2] at hb ⊢; exact this c a x b hb hc) (by rw [e2]; exact C.f0) ?_ (fun i hi => ?_) t2 (fun hm => ?_) (fun m hm => ?_) (by rw [e2]; exact C.r1) (fun j hj => ?_) (fun hk => ?_) (fun hk => ?_) rfl ?_ ?_
        · have P := C.FP r hr
          have P2 := TP r hr
          refine ⟨fun x hx => by rw [e2]; exact P.1 x hx, fun x h1 h2 => by rw [e2] at h2 ⊢; exact P.2.1 x h1 h2, fun c x i hx hc hi => ?_⟩
          simp only [tkP, Bool.or_eq_false_iff, beq_eq_false_iff_ne] at hc
          have e1 := P.2.2 c x i hx (by simp [hc]) hi
          have e3 := P2.2.2 c x i (by rw [P.1 x hx]; exact hx) (by simp [hc]) hi
          exact ⟨e3.1.trans e1.1, e3.2.trans e1.2⟩
        · obtain ⟨A1, h1⟩ := C.l1
          exact ⟨A1, h1.fr t13 (by rw [e2]; exact C.f0) (by decide) (by decide) (by simp [KM1])⟩
        · rw [t1, if_pos (by omega), m73]
        · refine FA.weak (fun c hc => ?_) (fun _ h => h)
          by_cases z1 : c = 61000
          · subst z1; rw [hm]; simp [KC1, KM1, KL1, KO1]
          · by_cases z2 : c = 610000
            · subst z2; rw [hB0 hm]; simp [KC1, KM1, KL1, KO1]
            · exact sub c (by simpa [z1, z2] using hc)
        · obtain ⟨b1, b2, b3⟩ := hB m hm
          have hm6 := R.s.wf _ _ _ _ hm (by decide)
          have nb : ¬ σ.1 730000 (g.A 22) (384 * p + 1) < 0 := by rw [b1]; exact lt0_nI (by omega)
          have cb : (σ.1 730000 (g.A 22) (384 * p + 1)).toNatClampNeg = g.B m := by rw [b1, nI_clamp (by omega)]
          refine ⟨by rw [e61 m hm6]; exact (C.r3 m hm).1, by rw [ha', if_pos ⟨nb, cb.symm⟩], fun x hx h6 => by rw [e61 x h6]; exact (C.r3 m hm).2 x hx h6, fun b hb => by rw [ha', if_neg (fun y => hb (y.2.trans cb))]⟩
        · have hj' : j = 0 ∨ j = 1 ∨ j = 2 ∨ j = 3 ∨ j = 4 := by omega
          rcases q3 with ⟨z1, z2, z3, z4, z5⟩ | ⟨m, c, r1, r2, r3, r4, r5, r6, r7, r8, r9⟩
          · have z3' : σ.1 730000 (g.A 22) (384 * p + 1) = -1 := z3
            have z4' : σ.1 730000 (g.A 22) (384 * p + 2) = -1 := z4
            have z5' : σ.1 730000 (g.A 22) (384 * p + 3) = -1 := z5
            rcases hj' with rfl | rfl | rfl | rfl | rfl
            · rw [show 5 * p + 0 = 5 * p from rfl, t4, ← q1']; rfl
            · rw [t5, z4']; simp [ltF, nkF, z1]
            · rw [t6', z3']; simp [ltF, z1]
            · rw [t7, z5']; simp [ltF, z1]
            · rw [t8, ← q2']; rfl
          · obtain ⟨b1, b2, b3⟩ := hB m r1
            have r7' : σ.1 730000 (g.A 22) (384 * p + 2) = nkF σ w := r7
            have r8' : σ.1 730000 (g.A 22) (384 * p + 3) = σ.1 60100 m 0 := r8
            have hbeg := (((R.a p hp).1 ha).1.1 c m r2 r3).2.2.2.1
            obtain ⟨k, s, l, it, t, T, a1, a2, a3, x1, x2, x3, x4, x5, x6, x7, x8, x9, -⟩ := ((R.a p hp).1 ha).2.1 c m r2 r3
            rcases hj' with rfl | rfl | rfl | rfl | rfl
            · rw [show 5 * p + 0 = 5 * p from rfl, t4, ← q1']; rfl
            · rw [t5, r7']; simp [ltF]
            · rw [t6', b1, if_neg (lt0_nI (by omega)), nI_clamp (by omega), hbeg]; simp [ltF, r1, x9]
            · rw [t7, r8']; simp [ltF, r1]
            · rw [t8, ← q2']; rfl
        · refine FA.weak (fun c hc => ?_) (fun _ h => h)
          by_cases z : KO2 c = true
          · have nk : (σ.1 50000 w 0 == 1) = false := by simpa using hk
            have nk2 : (σ.1 730000 (g.A 22) (384 * p) == 1) = false := by rw [← q1']; exact nk
            simp only [KO2, Bool.or_eq_true, beq_iff_eq] at z
            have : c / 10000 = 21 ∨ c / 10000 = 42 ∨ c = 750000 ∨ c = 760000 ∨ c = 740000 := by
              rcases z with (((z | z) | z) | z) | z
              · exact Or.inl z
              · exact Or.inr (Or.inl z)
              · exact Or.inr (Or.inr (Or.inl z))
              · exact Or.inr (Or.inr (Or.inr (Or.inl z)))
              · exact Or.inr (Or.inr (Or.inr (Or.inr z)))
            have n1 : c / 10000 ≠ 20 ∧ c / 10000 ≠ 41 ∧ c ≠ 21105 ∧ c ≠ 21000 ∧ c ≠ 61000 ∧ c ≠ 730000 ∧ c ≠ 720000 ∧ c ≠ 810000 ∧ c ≠ 500000 ∧ c ≠ 770000 ∧ c ≠ 610000 := by omega
            simp [KC1, KM1, KL1, nk, nk2, n1]
          · exact sub c (by simpa [z] using hc)
        · obtain ⟨m, AR2, hm, hl2⟩ := C.l2 hk
          obtain ⟨y1, y2, y3, y4⟩ := t9 (by rw [m73, ← q1']; exact hk)
          refine ⟨m, hm, ?_, ⟨AR2, hl2.fr t13 (by rw [e2]; exact C.f0) (by decide) (by decide) (by simp [KM1])⟩, by rw [y1, m73], by rw [y2, m73], y3, fun i hi => ?_⟩
          · by_cases y : (g.L2 p).length < 12
            · exact y
            · exact absurd ⟨hk, by omega⟩ c1
          · rw [(y4 i hi).1, (y4 i hi).2, mA (by decide) (by decide), mA (by decide) (by decide)]; exact ⟨rfl, rfl⟩
        · rw [(t13.2.2 21000 (g.D p 0) 0 (by rw [C.F.1 _ (R.s.kD hp (by decide))]; exact R.s.kD hp (by decide)) (by simp [KM1])).1, C.r2, ((R.l p hp).1 ha).2.1]
        · rw [t10, ← q1', mA (by decide) (by decide)]
      obtain ⟨g', R', x1, x2, x3⟩ := T
      exact ⟨σ2, g', hres, R'.mono (by omega), t12, x1, x2, x3⟩
end FRM
