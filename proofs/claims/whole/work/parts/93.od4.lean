/-! the class: free -/
theorem tkAt_k {σ : Sg} {a1 m : Nat} {x : Int32} (hw : WF σ) (h : tkAt σ a1 x = some m) : σ.2.2.2 m = 6 ∧ ∃ c, c < 64 ∧ x = nI c ∧ σ.2.1 150006 a1 c = some m := by
  unfold tkAt at h
  split at h
  · cases h
  · rename_i c1
    split at h
    · cases h
    · rename_i c2
      obtain ⟨c, hc, rfl⟩ := nI_of c1
      rw [nl64, nI_leI (by omega) hc] at c2
      rw [nI_clamp hc] at h
      cases e : σ.2.1 150006 a1 c with
      | none => rw [e] at h; cases h
      | some m' =>
        rw [e] at h
        dsimp only at h
        split at h
        · cases h
        · cases h
          exact ⟨hw _ _ _ _ e (by decide), c, by omega, rfl, e⟩
/-- what letting handles go leaves -/
def FI (σ τ : Sg) : Prop := WF τ ∧ τ.2.2 = σ.2.2 ∧ (∀ c x i, c ≠ 130000 → c ≠ 140000 → c ≠ 80300 → τ.1 c x i = σ.1 c x i) ∧ (∀ c x i, c ≠ 120003 → τ.2.1 c x i = σ.2.1 c x i)
theorem loseF_wf {σ : Sg} {h a1 a2 a3 : Nat} {w : Option Nat} (hw : WF σ) : WF (loseF σ h a1 a2 a3 w) := by
  unfold loseF
  split
  · exact hw
  · unfold takeFromF
    split
    · exact hw
    · rw [if_neg (by decide : ¬ (1 : Int32) = 0)]
      split
      · exact hw
      · show WF (dropS _ _ _ _ _ _)
        unfold dropS
        split
        · split
          · exact WF.i (WF.oN (WF.i hw))
          · exact WF.i hw
        · exact WF.i hw
theorem FI.ls {σ τ : Sg} {D : Nat → Nat → Nat} {p a3 k : Nat} (h : FI σ τ) : FI σ (lsF D p a3 k τ) := by
  have e0 : lsF D p a3 k τ = itF (fun _ t => lsF D p a3 k t) 1 0 τ := rfl
  refine ⟨loseF_wf h.1, Eq.trans ?_ h.2.1, fun c x i n1 n2 n3 => Eq.trans ?_ (h.2.2.1 c x i n1 n2 n3), fun c x i n1 => (loseF_o n1).trans (h.2.2.2 c x i n1)⟩
  · unfold lsF loseF
    split
    · rfl
    · unfold takeFromF
      split
      · rfl
      · rw [if_neg (by decide : ¬ (1 : Int32) = 0)]
        split
        · rfl
        · show (dropS _ _ _ _ _ _).2.2 = _
          unfold dropS
          split
          · split <;> rfl
          · rfl
  · unfold lsF loseF
    split
    · rfl
    · unfold takeFromF
      split
      · rfl
      · rw [if_neg (by decide : ¬ (1 : Int32) = 0)]
        split
        · rfl
        · show (dropS _ _ _ _ _ _).1 c x i = _
          unfold dropS
          split
          · split
            · rw [rII n3]; show (sI _ _ _ _ _).1 c x i = _; exact rII n1
            · exact rII n1
          · exact rII n1
theorem FI.sh {σ τ : Sg} {P : Nat → Nat} (h : FI σ τ) (hP : SHp σ P) : SHp τ P := by
  refine ⟨by rw [h.2.1]; exact hP.1, fun j hj => ?_⟩
  have e : ∀ j, j < 14 → (shc j).1 ≠ 120003 := by decide
  rw [h.2.2.2 _ _ _ (e j hj)]; exact hP.2 j hj
set_option maxHeartbeats 4000000 in
theorem lk_od_free (l : Launch) (E : FE) (d : Nat) (σ : Sg) (D : Nat → Nat → Nat) (j x m a3 it : Nat) (y : Int32) (hd : 3 ≤ d) (hP : SHp σ (D j)) (hm6 : σ.2.2.2 m = 6) (hit : σ.1 60500 m 0 = nI it) (hi4 : it ≤ 4) (hm3 : σ.2.1 60833 m 0 = some a3) (hm4 : σ.1 339900 a3 0 = nI it) {mc ms cs sl : Nat} {args : Array Value} {XX : State → Prop} {QF : State → List Frame → State → Prop} (hcs : cs ≤ mc) (hsl : sl ≤ ms) : ∀ (k i : Nat), i + k = it → ∀ (τ : Sg), FI σ τ → (∀ (τ' : Sg), τ' = itF (lsF D j a3) k i τ → FI σ τ' → WG l E (RM d mc ms) 57 args XX QF (66, [(4, vR (some m)), (3, vR (some (D j 0))), (0, vR (some x)), (1, vI (nI j)), (2, vI y)], [], τ', cs, sl)) →
    WG l E (RM d mc ms) 57 args XX QF (35, [(5, vI (nI i)), (4, vR (some m)), (3, vR (some (D j 0))), (0, vR (some x)), (1, vI (nI j)), (2, vI y)], [], τ, cs, sl) := by
  intro k
  induction k with
  | zero =>
    intro i hi τ hF K
    refine w_run 2 (S' := (39, [(5, vI (nI i)), (4, vR (some m)), (3, vR (some (D j 0))), (0, vR (some x)), (1, vI (nI j)), (2, vI y)], [vR (some m), vI (nI i)], τ, cs, sl)) rfl ?_
    refine w_get (k := 6) (vI (τ.1 60500 m 0)) rfl rfl rfl (show τ.2.2.2 m = 6 by rw [hF.2.1]; exact hm6) rfl rfl ?_
    refine Eq.mp (congrArg (fun x9 => WG _ _ _ _ _ _ _ (42, [(5, vI (nI i)), (4, vR (some m)), (3, vR (some (D j 0))), (0, vR (some x)), (1, vI (nI j)), (2, vI y)], [vI x9, vI (nI i)], τ, cs, sl)) ((((hF.2.2.1 60500 m 0 (by decide) (by decide) (by decide)).trans hit)).symm : nI it = τ.1 60500 m 0)) ?_
    show WG _ _ _ _ _ _ _ (42, [(5, vI (nI i)), (4, vR (some m)), (3, vR (some (D j 0))), (0, vR (some x)), (1, vI (nI j)), (2, vI y)], [vI (nI it), vI (nI i)], τ, cs, sl)
    refine w_ic_ge rfl (fun c1 => ?_) (fun c1 => (absurd ((nI_leI (a := it) (b := i) (by omega) (by omega)).mpr (by omega)) c1))
    have nc1 := (nI_leI (a := it) (b := i) (by omega) (by omega)).mp c1
    refine w_lsP [1, 2, 3, 4, 5] ?_
    show WG _ _ _ _ _ _ _ (66, [(4, vR (some m)), (3, vR (some (D j 0))), (0, vR (some x)), (1, vI (nI j)), (2, vI y)], [], τ, cs, sl)
    exact K τ rfl hF
  | succ k ih =>
    intro i hi τ hF K
    refine w_run 2 (S' := (39, [(5, vI (nI i)), (4, vR (some m)), (3, vR (some (D j 0))), (0, vR (some x)), (1, vI (nI j)), (2, vI y)], [vR (some m), vI (nI i)], τ, cs, sl)) rfl ?_
    refine w_get (k := 6) (vI (τ.1 60500 m 0)) rfl rfl rfl (show τ.2.2.2 m = 6 by rw [hF.2.1]; exact hm6) rfl rfl ?_
    refine Eq.mp (congrArg (fun x9 => WG _ _ _ _ _ _ _ (42, [(5, vI (nI i)), (4, vR (some m)), (3, vR (some (D j 0))), (0, vR (some x)), (1, vI (nI j)), (2, vI y)], [vI x9, vI (nI i)], τ, cs, sl)) ((((hF.2.2.1 60500 m 0 (by decide) (by decide) (by decide)).trans hit)).symm : nI it = τ.1 60500 m 0)) ?_
    show WG _ _ _ _ _ _ _ (42, [(5, vI (nI i)), (4, vR (some m)), (3, vR (some (D j 0))), (0, vR (some x)), (1, vI (nI j)), (2, vI y)], [vI (nI it), vI (nI i)], τ, cs, sl)
    refine w_ic_ge rfl (fun c1 => (absurd ((nI_leI (a := it) (b := i) (by omega) (by omega)).mp c1) (by omega))) (fun c1 => ?_)
    have nc1 := mt (nI_leI (a := it) (b := i) (by omega) (by omega)).mpr c1
    refine w_run 1 (S' := (46, [(5, vI (nI i)), (4, vR (some m)), (3, vR (some (D j 0))), (0, vR (some x)), (1, vI (nI j)), (2, vI y)], [vR (some (D j 0))], τ, cs, sl)) rfl ?_
    refine w_get (k := 2) (vR (τ.2.1 20208 (D j 0) 0)) rfl rfl rfl ((hF.sh hP).1) rfl rfl ?_
    refine w_run 1 (S' := (51, [(5, vI (nI i)), (4, vR (some m)), (3, vR (some (D j 0))), (0, vR (some x)), (1, vI (nI j)), (2, vI y)], [vR (some m), vR (τ.2.1 20208 (D j 0) 0)], τ, cs, sl)) rfl ?_
    refine w_get (k := 6) (vR (τ.2.1 60833 m 0)) rfl rfl rfl (show τ.2.2.2 m = 6 by rw [hF.2.1]; exact hm6) rfl rfl ?_
    refine w_run 1 (S' := (56, [(5, vI (nI i)), (4, vR (some m)), (3, vR (some (D j 0))), (0, vR (some x)), (1, vI (nI j)), (2, vI y)], [vI (nI i), vR (τ.2.1 60833 m 0), vR (τ.2.1 20208 (D j 0) 0)], τ, cs, sl)) rfl ?_
    refine w_aald (k := 33) rfl ((hF.2.2.2 60833 m 0 (by decide)).trans hm3) (hF.1 60833 m 0 a3 ((hF.2.2.2 60833 m 0 (by decide)).trans hm3) (by decide)) rfl rfl (show vp_in (nI i) (lenK 33 τ a3 none) from by rw [show lenK 33 τ a3 none = it from by show (τ.1 339900 a3 0).toNatClampNeg = it; rw [hF.2.2.1 339900 a3 0 (by decide) (by decide) (by decide), hm4, nI_clamp (by omega)]]; exact vp_in_nI (by omega) (by omega)) ?_
    show WG _ _ _ _ _ _ _ (57, [(5, vI (nI i)), (4, vR (some m)), (3, vR (some (D j 0))), (0, vR (some x)), (1, vI (nI j)), (2, vI y)], [vR (τ.2.1 330003 a3 (nI i).toNatClampNeg), vR (τ.2.1 20208 (D j 0) 0)], τ, cs, sl)
    rw [show (nI i : Int32).toNatClampNeg = i from nI_clamp (n := i) (by omega)]
    show WG _ _ _ _ _ _ _ (57, [(5, vI (nI i)), (4, vR (some m)), (3, vR (some (D j 0))), (0, vR (some x)), (1, vI (nI j)), (2, vI y)], [vR (τ.2.1 330003 a3 i), vR (τ.2.1 20208 (D j 0) 0)], τ, cs, sl)
    refine Eq.mp (congrArg (fun x9 => WG _ _ _ _ _ _ _ (57, [(5, vI (nI i)), (4, vR (some m)), (3, vR (some (D j 0))), (0, vR (some x)), (1, vI (nI j)), (2, vI y)], [vR (τ.2.1 330003 a3 i), vR x9], τ, cs, sl)) (Eq.symm ((hF.sh hP).2 1 (by decide)) : some (D j 2) = τ.2.1 20208 (D j 0) 0)) ?_
    show WG _ _ _ _ _ _ _ (57, [(5, vI (nI i)), (4, vR (some m)), (3, vR (some (D j 0))), (0, vR (some x)), (1, vI (nI j)), (2, vI y)], [vR (τ.2.1 330003 a3 i), vR (some (D j 2))], τ, cs, sl)
    refine w_callV (st := []) [vR (τ.2.1 330003 a3 i)] rfl ml_0_193 rfl rfl (hF.1 20208 (D j 0) 0 (D j 2) ((hF.sh hP).2 1 (by decide)) (by decide)) rfl rfl rfl (by simp only [RM]; omega) (by simp only [RM]; show 8 + (2 + 11) + _ ≤ _; omega) rfl (by simp only [RM]; omega) (by simp only [RM]; omega) (c_hs_loseStrong l E (d - 1) τ (D j 2) (D j 3) (D j 4) (D j 5) 0 (τ.2.1 330003 a3 i) (by omega) ((hF.1 20208 (D j 0) 0 (D j 2) ((hF.sh hP).2 1 (by decide)) (by decide))) ((hF.sh hP).2 7 (by decide)) ((hF.sh hP).2 8 (by decide)) ((hF.sh hP).2 9 (by decide)) hF.1) (fun _ _ h => h.elim) ?_
    intro r9 s9 q9
    obtain ⟨e1, e2⟩ := q9
    subst e1
    rw [show s9 = lsF D j a3 i τ from e2]
    show WG _ _ _ _ _ _ _ (60, [(5, vI (nI i)), (4, vR (some m)), (3, vR (some (D j 0))), (0, vR (some x)), (1, vI (nI j)), (2, vI y)], [], lsF D j a3 i τ, cs, sl)
    refine w_run 2 (S' := (35, [(5, vI ((nI i) + 1)), (4, vR (some m)), (3, vR (some (D j 0))), (0, vR (some x)), (1, vI (nI j)), (2, vI y)], [], lsF D j a3 i τ, cs, sl)) rfl ?_
    rw [show ((nI i) + 1 : Int32) = nI (i + 1) from by simp only [nl0, nl1, nl2, nl3, nl4, nl5, nl6, nl8, nl9, nl10, nl12, nl15, nl16, nl20, nl24, nl32, nl40, nl64, nl65, nl384, pk_mul, nI_add]]
    show WG _ _ _ _ _ _ _ (35, [(5, vI (nI (i + 1))), (4, vR (some m)), (3, vR (some (D j 0))), (0, vR (some x)), (1, vI (nI j)), (2, vI y)], [], lsF D j a3 i τ, cs, sl)
    exact ih (i + 1) (by omega) (lsF D j a3 i τ) (hF.ls) (fun τ' e9 q90 => K τ' (by rw [itF_succ, ← (show ((lsF D j a3 i τ) : Sg) = (lsF D j a3) i τ from by simp [lsF, c1, nc1])]; exact e9) q90)
theorem arR_i {σ : Sg} {a a1 m g c x i : Nat} (n1 : c ≠ 90100) (n2 : c ≠ 90200) : (arR σ a a1 m g).1 c x i = σ.1 c x i := by
  unfold arR
  split
  · rw [rII n2, rII n1]; rfl
  · rw [rII n1]; rfl
theorem arR_o {σ : Sg} {a a1 m g c x i : Nat} (n1 : c ≠ 150006) : (arR σ a a1 m g).2.1 c x i = σ.2.1 c x i := by
  unfold arR
  split
  · exact rOO n1
  · exact rOO n1
theorem arR_wf {σ : Sg} {a a1 m g : Nat} (hw : WF σ) : WF (arR σ a a1 m g) := by
  unfold arR
  split
  · exact WF.i (WF.i (WF.oN hw))
  · exact WF.i (WF.oN hw)
theorem arR_sh {σ : Sg} {a a1 m g : Nat} {P : Nat → Nat} (hP : SHp σ P) : SHp (arR σ a a1 m g) P := by
  have e : ∀ j, j < 14 → (shc j).1 ≠ 150006 := by decide
  exact ⟨by rw [arR_k]; exact hP.1, fun j hj => by rw [arR_o (e j hj)]; exact hP.2 j hj⟩
theorem LLx_fi {E : FE} {σ τ : Sg} {k ka tk : Nat} {ad : Nat → Nat} {L : Nat → List Nat} {AR : Nat → Nat} (h : LLx E k ka tk ad L AR σ) (hF : FI σ τ) (hk : 20 ≤ k ∧ k < 30 := by decide) (hka : 40 ≤ ka ∧ ka < 50 := by decide) (ht : tk < 100 := by decide) : LLx E k ka tk ad L AR τ := by
  obtain ⟨h0, h1, h2⟩ := h
  refine ⟨by rw [hF.2.1]; exact h0, fun p hp => ?_, h2⟩
  obtain ⟨a1, a2, a3, a4, a5⟩ := h1 p hp
  refine ⟨by rw [hF.2.1]; exact a1, by rw [hF.2.2.2 _ _ _ (by omega)]; exact a2, by rw [hF.2.2.1 _ _ _ (by omega) (by omega) (by omega)]; exact a3, a4, ?_⟩
  rcases a5 with a5 | ⟨f1, f2, f3, f4, f5⟩
  · exact Or.inl a5
  · have hl : lnK ka τ (AR p) = lnK ka σ (AR p) := by unfold lnK; rw [hF.2.2.1 _ _ _ (by omega) (by omega) (by omega)]
    exact Or.inr ⟨by rw [hF.2.1]; exact f1, by rw [hl]; exact f2, by rw [hl]; exact f3, by rw [hl]; exact f4, fun i b hb => by rw [hF.2.2.2 _ _ _ (by omega)]; exact f5 i b hb⟩
theorem LLx_ar {E : FE} {σ : Sg} {a a1' m g : Nat} {k ka tk : Nat} {ad : Nat → Nat} {L : Nat → List Nat} {AR : Nat → Nat} (h : LLx E k ka tk ad L AR σ) (hk : 20 ≤ k ∧ k < 30 := by decide) (hka : 40 ≤ ka ∧ ka < 50 := by decide) (ht : tk < 100 := by decide) : LLx E k ka tk ad L AR (arR σ a a1' m g) := by
  obtain ⟨h0, h1, h2⟩ := h
  refine ⟨by rw [arR_k]; exact h0, fun p hp => ?_, h2⟩
  obtain ⟨a1, a2, a3, a4, a5⟩ := h1 p hp
  refine ⟨by rw [arR_k]; exact a1, by rw [arR_o (by omega)]; exact a2, by rw [arR_i (by omega) (by omega)]; exact a3, a4, ?_⟩
  rcases a5 with a5 | ⟨f1, f2, f3, f4, f5⟩
  · exact Or.inl a5
  · have hl : lnK ka (arR σ a a1' m g) (AR p) = lnK ka σ (AR p) := by unfold lnK; rw [arR_i (by omega) (by omega)]
    exact Or.inr ⟨by rw [arR_k]; exact f1, by rw [hl]; exact f2, by rw [hl]; exact f3, by rw [hl]; exact f4, fun i b hb => by rw [arR_o (by omega)]; exact f5 i b hb⟩
set_option maxHeartbeats 4000000 in
theorem c_od_free (l : Launch) (E : FE) (d : Nat) (σ : Sg) (D : Nat → Nat → Nat) (x a0 : Nat) (p y : Int32) (L1 : Nat → List Nat) (AR1 : Nat → Nat) (hd : 11 ≤ d) (hl0 : l.stackTraces = false) (hx : σ.2.2.2 x = 1) (h0 : σ.2.1 10010 x 0 = some a0) (h3 : ∀ j, j < 4 → σ.2.1 100002 a0 j = some (D j 0)) (hP : ∀ j, j < 4 → SHp σ (D j)) (hw : WF σ) (hl20 : LLx E 20 41 5 (fun p => D p 12) L1 AR1 σ) (hb20 : ∀ j, j < 4 → (L1 j).length < 128) (hM : ∀ j, j < 4 → ∀ c m, c < 64 → σ.2.1 150006 (D j 7) c = some m → ∃ it a3, σ.1 60900 m 0 = nI c ∧ σ.1 60500 m 0 = nI it ∧ it ≤ 4 ∧ σ.2.1 60833 m 0 = some a3 ∧ σ.1 339900 a3 0 = nI it) : CT l E d 57 [vR (some x), vI p, vI y] σ 4 470 (fun r σ' => ∃ j, j < 4 ∧ p = nI j ∧ ¬ σ.1 20800 (D j 0) 0 = 0 ∧ (∃ v, r = some (vI v) ∧ ofrP E D j L1 σ y v σ')) (oX σ D p) := by
  refine CTo ok_od_free (by decide +kernel) rfl rfl rfl ?_
  refine w_run 2 (S' := (2, [(0, vR (some x)), (1, vI p), (2, vI y)], [vI p, vR (some x)], σ, 0, 0)) rfl ?_
  refine w_callV (st := []) [vI p] rfl ml_0_37 rfl rfl hx rfl rfl rfl (by simp only [RM]; omega) (by simp only [RM]; show 8 + (3 + 11) + _ ≤ _; omega) rfl (by simp only [RM]; omega) (by simp only [RM]; omega) (c_od_living l E (d - 1) σ D x a0 p (by omega) hl0 hx h0 h3 hP hw) (fun X9 s9 h9 => x_out rfl (by omega) (by omega) h9) ?_
  intro r9 s9 q9
  obtain ⟨j, hj, rfl, hal, e1, e2⟩ := q9
  rw [e1, e2]
  clear e1 e2 r9 s9
  show WG _ _ _ _ _ _ _ (5, [(0, vR (some x)), (1, vI (nI j)), (2, vI y)], [vR (some (D j 0))], σ, 0 + 2, 0 + 12)
  refine w_run 2 (S' := (7, [(3, vR (some (D j 0))), (0, vR (some x)), (1, vI (nI j)), (2, vI y)], [vR (some (D j 0))], σ, 0 + 2, 0 + 12)) rfl ?_
  refine w_get (k := 2) (vR (σ.2.1 20309 (D j 0) 0)) rfl rfl rfl ((hP j hj).1) rfl rfl ?_
  refine w_run 1 (S' := (11, [(3, vR (some (D j 0))), (0, vR (some x)), (1, vI (nI j)), (2, vI y)], [vI y, vR (σ.2.1 20309 (D j 0) 0)], σ, 0 + 2, 0 + 12)) rfl ?_
  refine Eq.mp (congrArg (fun x9 => WG _ _ _ _ _ _ _ (11, [(3, vR (some (D j 0))), (0, vR (some x)), (1, vI (nI j)), (2, vI y)], [vI y, vR x9], σ, 0 + 2, 0 + 12)) (Eq.symm ((hP j hj).2 2 (by decide)) : some (D j 6) = σ.2.1 20309 (D j 0) 0)) ?_
  show WG _ _ _ _ _ _ _ (11, [(3, vR (some (D j 0))), (0, vR (some x)), (1, vI (nI j)), (2, vI y)], [vI y, vR (some (D j 6))], σ, 0 + 2, 0 + 12)
  refine w_callV (st := []) [vI y] rfl ml_0_174 rfl rfl (hw 20309 (D j 0) 0 (D j 6) ((hP j hj).2 2 (by decide)) (by decide)) rfl rfl rfl (by simp only [RM]; omega) (by simp only [RM]; show 8 + (2 + 11) + _ ≤ _; omega) rfl (by simp only [RM]; omega) (by simp only [RM]; omega) (c_ar_takenAt l E (d - 1) σ (D j 6) (D j 7) y ((hw 20309 (D j 0) 0 (D j 6) ((hP j hj).2 2 (by decide)) (by decide))) ((hP j hj).2 10 (by decide)) hw) (fun _ _ h => h.elim) ?_
  intro r9 s9 q9
  rw [q9.1, q9.2]
  clear q9 r9 s9
  show WG _ _ _ _ _ _ _ (14, [(3, vR (some (D j 0))), (0, vR (some x)), (1, vI (nI j)), (2, vI y)], [vR (tkAt σ (D j 7) y)], σ, 0 + 2, 0 + 12)
  refine w_run 2 (S' := (18, [(4, vR (tkAt σ (D j 7) y)), (3, vR (some (D j 0))), (0, vR (some x)), (1, vI (nI j)), (2, vI y)], [vR (tkAt σ (D j 7) y)], σ, 0 + 2, 0 + 12)) rfl ?_
  refine w_nonnull rfl (fun b2 c1 => ?_) (fun c1 => ?_)
  · obtain ⟨hm6, c9, hc9, hy9, hcm⟩ := tkAt_k hw c1
    obtain ⟨it, a3, hat, hit, hi4, hm3, hm4⟩ := hM j hj c9 b2 hc9 hcm
    refine w_run 1 (S' := (24, [(4, vR (tkAt σ (D j 7) y)), (3, vR (some (D j 0))), (0, vR (some x)), (1, vI (nI j)), (2, vI y)], [vR (some (D j 0))], σ, 0 + 2, 0 + 12)) rfl ?_
    refine w_get (k := 2) (vR (σ.2.1 20309 (D j 0) 0)) rfl rfl rfl ((hP j hj).1) rfl rfl ?_
    refine w_run 1 (S' := (29, [(4, vR (tkAt σ (D j 7) y)), (3, vR (some (D j 0))), (0, vR (some x)), (1, vI (nI j)), (2, vI y)], [vR (tkAt σ (D j 7) y), vR (σ.2.1 20309 (D j 0) 0)], σ, 0 + 2, 0 + 12)) rfl ?_
    refine Eq.mp (congrArg (fun x9 => WG _ _ _ _ _ _ _ (29, [(4, vR (tkAt σ (D j 7) y)), (3, vR (some (D j 0))), (0, vR (some x)), (1, vI (nI j)), (2, vI y)], [vR x9, vR (σ.2.1 20309 (D j 0) 0)], σ, 0 + 2, 0 + 12)) (Eq.symm c1 : some b2 = tkAt σ (D j 7) y)) ?_
    show WG _ _ _ _ _ _ _ (29, [(4, vR (tkAt σ (D j 7) y)), (3, vR (some (D j 0))), (0, vR (some x)), (1, vI (nI j)), (2, vI y)], [vR (some b2), vR (σ.2.1 20309 (D j 0) 0)], σ, 0 + 2, 0 + 12)
    refine Eq.mp (congrArg (fun x9 => WG _ _ _ _ _ _ _ (29, [(4, vR (tkAt σ (D j 7) y)), (3, vR (some (D j 0))), (0, vR (some x)), (1, vI (nI j)), (2, vI y)], [vR (some b2), vR x9], σ, 0 + 2, 0 + 12)) (Eq.symm ((hP j hj).2 2 (by decide)) : some (D j 6) = σ.2.1 20309 (D j 0) 0)) ?_
    show WG _ _ _ _ _ _ _ (29, [(4, vR (tkAt σ (D j 7) y)), (3, vR (some (D j 0))), (0, vR (some x)), (1, vI (nI j)), (2, vI y)], [vR (some b2), vR (some (D j 6))], σ, 0 + 2, 0 + 12)
    refine w_callV (st := []) [vR (some b2)] rfl ml_0_180 rfl rfl (hw 20309 (D j 0) 0 (D j 6) ((hP j hj).2 2 (by decide)) (by decide)) rfl rfl rfl (by simp only [RM]; omega) (by simp only [RM]; show 8 + (2 + 11) + _ ≤ _; omega) rfl (by simp only [RM]; omega) (by simp only [RM]; omega) (c_ar_remove l E (d - 1) σ (D j 6) (D j 7) b2 c9 ((hw 20309 (D j 0) 0 (D j 6) ((hP j hj).2 2 (by decide)) (by decide))) ((hP j hj).2 10 (by decide)) hw hm6 hat hc9) (fun _ _ h => h.elim) ?_
    intro r9 sb q9
    obtain ⟨e1, e2⟩ := q9
    subst e1
    have hPb : SHp sb (D j) := by rw [e2]; exact arR_sh (hP j hj)
    have hwb : WF sb := by rw [e2]; exact arR_wf hw
    have hkb : sb.2.2 = σ.2.2 := by rw [e2]; exact arR_k
    have hm6b : sb.2.2.2 b2 = 6 := by rw [hkb]; exact hm6
    have hrb : ∀ c x i, c ≠ 90100 → c ≠ 90200 → sb.1 c x i = σ.1 c x i := by rw [e2]; exact fun c x i n1 n2 => arR_i n1 n2
    have hlb : LLx E 20 41 5 (fun p => D p 12) L1 AR1 sb := by rw [e2]; exact LLx_ar hl20
    have hob : ∀ c x i, c ≠ 150006 → sb.2.1 c x i = σ.2.1 c x i := by rw [e2]; exact fun c x i n1 => arR_o n1
    show WG _ _ _ _ _ _ _ (32, [(4, vR (tkAt σ (D j 7) y)), (3, vR (some (D j 0))), (0, vR (some x)), (1, vI (nI j)), (2, vI y)], [], sb, 0 + 2, 0 + 12)
    refine w_run 2 (S' := (35, [(5, vI 0), (4, vR (tkAt σ (D j 7) y)), (3, vR (some (D j 0))), (0, vR (some x)), (1, vI (nI j)), (2, vI y)], [], sb, 0 + 2, 0 + 12)) rfl ?_
    refine Eq.mp (congrArg (fun x9 => WG _ _ _ _ _ _ _ (35, [(5, vI 0), (4, vR x9), (3, vR (some (D j 0))), (0, vR (some x)), (1, vI (nI j)), (2, vI y)], [], sb, 0 + 2, 0 + 12)) (Eq.symm c1 : some b2 = tkAt σ (D j 7) y)) ?_
    show WG _ _ _ _ _ _ _ (35, [(5, vI 0), (4, vR (some b2)), (3, vR (some (D j 0))), (0, vR (some x)), (1, vI (nI j)), (2, vI y)], [], sb, 0 + 2, 0 + 12)
    refine lk_od_free l E d sb D j x b2 a3 it y (by omega) hPb hm6b ((hrb 60500 b2 0 (by decide) (by decide)).trans hit) hi4 ((hob 60833 b2 0 (by decide)).trans hm3) ((hrb 339900 a3 0 (by decide) (by decide)).trans hm4) (by omega) (by omega) it 0 (by omega) sb ⟨hwb, rfl, fun _ _ _ _ _ _ => rfl, fun _ _ _ _ => rfl⟩ (fun τ1 e3 hF => ?_)
    show WG _ _ _ _ _ _ _ (66, [(4, vR (some b2)), (3, vR (some (D j 0))), (0, vR (some x)), (1, vI (nI j)), (2, vI y)], [], τ1, 0 + 2, 0 + 12)
    refine w_run 1 (S' := (68, [(4, vR (some b2)), (3, vR (some (D j 0))), (0, vR (some x)), (1, vI (nI j)), (2, vI y)], [vR (some b2)], τ1, 0 + 2, 0 + 12)) rfl ?_
    refine w_get (k := 6) (vI (τ1.1 60000 b2 0)) rfl rfl rfl (show τ1.2.2.2 b2 = 6 by rw [hF.2.1]; exact hm6b) rfl rfl ?_
    refine w_run 1 (S' := (72, [(4, vR (some b2)), (3, vR (some (D j 0))), (0, vR (some x)), (1, vI (nI j)), (2, vI y)], [vI 2, vI (τ1.1 60000 b2 0)], τ1, 0 + 2, 0 + 12)) rfl ?_
    refine w_ic_ne rfl (fun c4 => ?_) (fun c4 => ?_)
    · refine w_run 1 (S' := (85, [(4, vR (some b2)), (3, vR (some (D j 0))), (0, vR (some x)), (1, vI (nI j)), (2, vI y)], [vI 1], τ1, 0 + 2, 0 + 12)) rfl ?_
      exact w_iret rfl (Or.inr ⟨rfl, Or.inr rfl⟩) (by omega) (by omega) (⟨j, hj, rfl, hal, 1, rfl, by unfold ofrP; rw [c1]; exact ⟨rfl, c9, it, a3, hat, hc9, hit, hi4, hm3, by rw [if_neg (by rw [(show σ.1 60000 b2 0 = τ1.1 60000 b2 0 from ((hF.2.2.1 60000 b2 0 (by decide) (by decide) (by decide)).trans (hrb 60000 b2 0 (by decide) (by decide))).symm)]; exact c4)]; exact e3.trans (by rw [e2])⟩⟩)
    · refine w_run 2 (S' := (78, [(4, vR (some b2)), (3, vR (some (D j 0))), (0, vR (some x)), (1, vI (nI j)), (2, vI y)], [vR (some b2), vR (some (D j 0))], τ1, 0 + 2, 0 + 12)) rfl ?_
      refine w_get (k := 6) (vR (τ1.2.1 60303 b2 0)) rfl rfl rfl (show τ1.2.2.2 b2 = 6 by rw [hF.2.1]; exact hm6b) rfl rfl ?_
      have hnd : τ1.2.1 60303 b2 0 = σ.2.1 60303 b2 0 := (hF.2.2.2 60303 b2 0 (by decide)).trans (hob 60303 b2 0 (by decide))
      cases hn9 : τ1.2.1 60303 b2 0 with
      | none =>
        show WG _ _ _ _ _ _ _ (81, [(4, vR (some b2)), (3, vR (some (D j 0))), (0, vR (some x)), (1, vI (nI j)), (2, vI y)], [vR none, vR (some (D j 0))], τ1, 0 + 2, 0 + 12)
        refine w_callV (st := []) [vR none] rfl ml_0_203 rfl rfl ((hF.sh hPb).1) rfl rfl rfl (by simp only [RM]; omega) (by simp only [RM]; show 8 + (3 + 11) + _ ≤ _; omega) rfl (by simp only [RM]; omega) (by simp only [RM]; omega) (c_pr_startNextOneWayN l E (d - 1) τ1 D j) (fun _ _ h => h.elim) ?_
        intro r9 s9 q9
        rw [q9.1, q9.2]
        clear q9 r9 s9
        show WG _ _ _ _ _ _ _ (84, [(4, vR (some b2)), (3, vR (some (D j 0))), (0, vR (some x)), (1, vI (nI j)), (2, vI y)], [], τ1, 0 + 2, 0 + 12)
        refine w_run 1 (S' := (85, [(4, vR (some b2)), (3, vR (some (D j 0))), (0, vR (some x)), (1, vI (nI j)), (2, vI y)], [vI 1], τ1, 0 + 2, 0 + 12)) rfl ?_
        exact w_iret rfl (Or.inr ⟨rfl, Or.inr rfl⟩) (by omega) (by omega) (⟨j, hj, rfl, hal, 1, rfl, by unfold ofrP; rw [c1]; exact ⟨rfl, c9, it, a3, hat, hc9, hit, hi4, hm3, by rw [if_pos (by rw [(show σ.1 60000 b2 0 = τ1.1 60000 b2 0 from ((hF.2.2.1 60000 b2 0 (by decide) (by decide) (by decide)).trans (hrb 60000 b2 0 (by decide) (by decide))).symm)]; exact c4), ← hnd, hn9]; exact e3.trans (by rw [e2])⟩⟩)
      | some a9 =>
        show WG _ _ _ _ _ _ _ (81, [(4, vR (some b2)), (3, vR (some (D j 0))), (0, vR (some x)), (1, vI (nI j)), (2, vI y)], [vR (some a9), vR (some (D j 0))], τ1, 0 + 2, 0 + 12)
        refine w_callV (st := []) [vR (some a9)] rfl ml_0_203 rfl rfl ((hF.sh hPb).1) rfl rfl rfl (by simp only [RM]; omega) (by simp only [RM]; show 8 + (3 + 11) + _ ≤ _; omega) rfl (by simp only [RM]; omega) (by simp only [RM]; omega) (c_pr_startNextOneWay l E (d - 1) τ1 D j a9 L1 AR1 (by omega) hj (hF.sh hPb) hF.1 (LLx_fi hlb hF) (hF.1 60303 b2 0 a9 hn9 (by decide)) (by have := hb20 j hj; omega)) (fun _ _ h => h.elim) ?_
        intro r9 t9 q9
        obtain ⟨e1, hsn⟩ := q9
        subst e1
        show WG _ _ _ _ _ _ _ (84, [(4, vR (some b2)), (3, vR (some (D j 0))), (0, vR (some x)), (1, vI (nI j)), (2, vI y)], [], t9, 0 + 2 + 2, 0 + 12 + 453)
        refine w_run 1 (S' := (85, [(4, vR (some b2)), (3, vR (some (D j 0))), (0, vR (some x)), (1, vI (nI j)), (2, vI y)], [vI 1], t9, 0 + 2 + 2, 0 + 12 + 453)) rfl ?_
        exact w_iret rfl (Or.inr ⟨rfl, Or.inr rfl⟩) (by omega) (by omega) (⟨j, hj, rfl, hal, 1, rfl, by unfold ofrP; rw [c1]; exact ⟨rfl, c9, it, a3, hat, hc9, hit, hi4, hm3, by rw [if_pos (by rw [(show σ.1 60000 b2 0 = τ1.1 60000 b2 0 from ((hF.2.2.1 60000 b2 0 (by decide) (by decide) (by decide)).trans (hrb 60000 b2 0 (by decide) (by decide))).symm)]; exact c4), ← hnd, hn9]; dsimp only; rw [← e2, ← e3]; exact hsn⟩⟩)
  · refine w_run 1 (S' := (22, [(4, vR (tkAt σ (D j 7) y)), (3, vR (some (D j 0))), (0, vR (some x)), (1, vI (nI j)), (2, vI y)], [vI 0], σ, 0 + 2, 0 + 12)) rfl ?_
    exact w_iret rfl (Or.inr ⟨rfl, Or.inl rfl⟩) (by omega) (by omega) (⟨j, hj, rfl, hal, 0, rfl, by unfold ofrP; rw [c1]; exact ⟨rfl, rfl⟩⟩)

