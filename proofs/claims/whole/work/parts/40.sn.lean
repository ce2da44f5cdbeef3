/-! startNextOneWay -/
theorem unq_keep {E : FE} {σ : Sg} {D : Nat → Nat → Nat} {p a : Nat} {L1 : Nat → List Nat} {AR1 : Nat → Nat} (hw : WF σ) (hP : SHp σ (D p)) (hl : LLx E 20 41 5 (fun p => D p 12) L1 AR1 σ) : WF (unqF σ a).2 ∧ SHp (unqF σ a).2 (D p) ∧ LLx E 20 41 5 (fun p => D p 12) L1 AR1 (unqF σ a).2 ∧ (∀ mm, (unqF σ a).1 = some mm → (unqF σ a).2.2.2.2 mm = 6) ∧ (unqF σ a).2.2.2.2 = σ.2.2.2 := by
  unfold unqF
  cases h : σ.2.1 30406 a 0 with
  | none => exact ⟨hw, hP, hl, fun _ e => (by cases e), rfl⟩
  | some m =>
    have hm := hw 30406 a 0 m h (by decide)
    dsimp only
    by_cases h2 : σ.2.1 61106 m 0 = none
    · rw [if_pos h2]
      exact ⟨WF.oN (WF.oN (WF.oN hw)), ((hP.o (by decide)).o (by decide)).o (by decide), ((hl.o (by decide) (by decide)).o (by decide) (by decide)).o (by decide) (by decide), fun mm e => (by cases e; exact hm), rfl⟩
    · rw [if_neg h2]
      cases hb : σ.2.1 61106 m 0 with
      | none => exact absurd hb h2
      | some b => exact ⟨WF.oN (WF.oS hw (fun _ => hw 61106 m 0 b hb (by decide))), (hP.o (by decide)).o (by decide), (hl.o (by decide) (by decide)).o (by decide) (by decide), fun mm e => (by cases e; exact hm), rfl⟩
def snP (E : FE) (D : Nat → Nat → Nat) (p n : Nat) (L1 : Nat → List Nat) (σ σ' : Sg) : Prop := match (unqF (sI σ 30300 n 0 0) n).1 with
  | none => σ' = (unqF (sI σ 30300 n 0 0) n).2
  | some mm => ∃ q AR', (unqF (sI σ 30300 n 0 0) n).2.2.2.2 q = 0 ∧ q ≠ fe E ∧ LLx E 20 41 5 (fun p => D p 12) (upL L1 p (L1 p ++ [q])) AR' σ' ∧ Eqk E 20 41 (wkS (bsyS (unqF (sI σ 30300 n 0 0) n).2 mm) q ((sN (bsyS (unqF (sI σ 30300 n 0 0) n).2 mm) q 5).1 60000 mm 0) (some mm) 0) σ'
set_option maxHeartbeats 4000000 in
theorem c_pr_startNextOneWay (l : Launch) (E : FE) (d : Nat) (σ : Sg) (D : Nat → Nat → Nat) (p n : Nat) (L1 : Nat → List Nat) (AR1 : Nat → Nat) (hd : 9 ≤ d) (hp : p < 4) (hP : SHp σ (D p)) (hw : WF σ) (hl20 : LLx E 20 41 5 (fun p => D p 12) L1 AR1 σ) (hn : σ.2.2.2 n = 3) (hL20 : (L1 p).length < 128) : CT l E d 40 [vR (some (D p 0)), vR (some n)] σ 2 453 (fun r σ' => r = none ∧ snP E D p n L1 σ σ') (fun _ _ => False) := by
  obtain ⟨kW, kP, kL, kM, kK⟩ := unq_keep (E := E) (a := n) (WF.i hw) (SHp.i (c := 30300) (a := n) (x := 0) (v := 0) hP) (LLx.i (c := 30300) (a := n) (x := 0) (v := 0) hl20 (by decide) (by decide))
  have kS : (unqF (sI σ 30300 n 0 0) n).2.2.2.2 (D p 0) = 2 := by rw [kK]; exact hP.1
  refine CTo ok_pr_startNextOneWay (by decide +kernel) rfl rfl rfl ?_
  refine w_run 1 (S' := (1, [(0, vR (some (D p 0))), (1, vR (some n))], [vR (some n)], σ, 0, 0)) rfl ?_
  refine w_nonnull rfl (fun b2 c1 => ?_) (fun c1 => (by cases c1))
  refine w_run 2 (S' := (7, [(0, vR (some (D p 0))), (1, vR (some n))], [vI 0, vR (some n)], σ, 0, 0)) rfl ?_
  refine w_puti (k := 3) rfl rfl rfl hn rfl rfl (Or.inr ⟨rfl, Or.inl rfl⟩) (Or.inl rfl) ?_
  show WG _ _ _ _ _ _ _ (10, [(0, vR (some (D p 0))), (1, vR (some n))], [], sI σ 30300 n 0 0, 0, 0)
  refine w_run 1 (S' := (11, [(0, vR (some (D p 0))), (1, vR (some n))], [vR (some n)], sI σ 30300 n 0 0, 0, 0)) rfl ?_
  refine w_callV (st := []) [] rfl ml_1_154 rfl rfl hn rfl rfl rfl (by simp only [RM]; omega) (by simp only [RM]; show 8 + (2 + 11) + _ ≤ _; omega) rfl (by simp only [RM]; omega) (by simp only [RM]; omega) (c_nd_unqueue l E (d - 1) (sI σ 30300 n 0 0) n hn (WF.i hw)) (fun _ _ h => h.elim) ?_
  intro r9 s9 q9
  rw [q9.1, q9.2]
  clear q9 r9 s9
  show WG _ _ _ _ _ _ _ (14, [(0, vR (some (D p 0))), (1, vR (some n))], [vR ((unqF (sI σ 30300 n 0 0) n).1)], (unqF (sI σ 30300 n 0 0) n).2, 0, 0)
  refine w_run 2 (S' := (16, [(2, vR ((unqF (sI σ 30300 n 0 0) n).1)), (0, vR (some (D p 0))), (1, vR (some n))], [vR ((unqF (sI σ 30300 n 0 0) n).1)], (unqF (sI σ 30300 n 0 0) n).2, 0, 0)) rfl ?_
  refine w_null rfl (fun c3 => ?_) (fun b4 c3 => ?_)
  · exact w_vret rfl rfl (by omega) (by omega) (⟨rfl, by simp only [snP, c3]⟩)
  · refine w_run 2 (S' := (21, [(2, vR ((unqF (sI σ 30300 n 0 0) n).1)), (0, vR (some (D p 0))), (1, vR (some n))], [vR ((unqF (sI σ 30300 n 0 0) n).1), vR (some (D p 0))], (unqF (sI σ 30300 n 0 0) n).2, 0, 0)) rfl ?_
    refine Eq.mp (congrArg (fun x9 => WG _ _ _ _ _ _ _ (21, [(2, vR ((unqF (sI σ 30300 n 0 0) n).1)), (0, vR (some (D p 0))), (1, vR (some n))], [vR x9, vR (some (D p 0))], (unqF (sI σ 30300 n 0 0) n).2, 0, 0)) (Eq.symm c3 : some b4 = (unqF (sI σ 30300 n 0 0) n).1)) ?_
    show WG _ _ _ _ _ _ _ (21, [(2, vR ((unqF (sI σ 30300 n 0 0) n).1)), (0, vR (some (D p 0))), (1, vR (some n))], [vR (some b4), vR (some (D p 0))], (unqF (sI σ 30300 n 0 0) n).2, 0, 0)
    refine w_callV (st := []) [vR (some b4)] rfl ml_1_158 rfl rfl kS rfl rfl rfl (by simp only [RM]; omega) (by simp only [RM]; show 8 + (2 + 11) + _ ≤ _; omega) rfl (by simp only [RM]; omega) (by simp only [RM]; omega) (c_pr_deliver l E (d - 1) (unqF (sI σ 30300 n 0 0) n).2 D p b4 L1 AR1 (by omega) hp kP kW kL (kM b4 c3) hL20) (fun _ _ h => h.elim) ?_
    intro r9 s9 q9
    obtain ⟨e1, q9⟩ := q9
    subst e1
    show WG _ _ _ _ _ _ _ (24, [(2, vR ((unqF (sI σ 30300 n 0 0) n).1)), (0, vR (some (D p 0))), (1, vR (some n))], [], s9, 0 + 2, 0 + 453)
    exact w_vret rfl rfl (by omega) (by omega) (⟨rfl, by simp only [snP, c3]; exact q9⟩)

set_option maxHeartbeats 4000000 in
theorem c_pr_startNextOneWayN (l : Launch) (E : FE) (d : Nat) (σ : Sg) (D : Nat → Nat → Nat) (p : Nat) : CT l E d 40 [vR (some (D p 0)), vR none] σ 0 0 (fun r σ' => r = none ∧ σ' = σ) (fun _ _ => False) := by
  refine CTo ok_pr_startNextOneWay (by decide +kernel) rfl rfl rfl ?_
  refine w_run 1 (S' := (1, [(0, vR (some (D p 0))), (1, vR none)], [vR none], σ, 0, 0)) rfl ?_
  refine w_nonnull rfl (fun b2 c1 => (by cases c1)) (fun c1 => ?_)
  exact w_vret rfl rfl (by omega) (by omega) (⟨rfl, rfl⟩)

