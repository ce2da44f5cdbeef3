/-! empty -/
/-- lists, shape and kinds, all that the steps of a process need -/
def Kp (E : FE) (D : Nat → Nat → Nat) (p : Nat) (L1 L2 L3 : Nat → List Nat) (AR1 AR2 AR3 : Nat → Nat) (σ : Sg) : Prop := WF σ ∧ SHp σ (D p) ∧ LLx E 20 41 5 (fun p => D p 12) L1 AR1 σ ∧ LLx E 21 42 6 (fun p => D p 13) L2 AR2 σ ∧ LLx E 22 43 7 (fun p => D p 14) L3 AR3 σ
theorem Kp.i {E : FE} {D : Nat → Nat → Nat} {p : Nat} {L1 L2 L3 : Nat → List Nat} {AR1 AR2 AR3 : Nat → Nat} {σ : Sg} {c a x : Nat} {v : Int32} (h : Kp E D p L1 L2 L3 AR1 AR2 AR3 σ) (hc : c ∉ [200200, 419900, 210200, 429900, 220200, 439900]) : Kp E D p L1 L2 L3 AR1 AR2 AR3 (sI σ c a x v) := by
  simp only [List.mem_cons, List.not_mem_nil, or_false, not_or] at hc
  exact ⟨WF.i h.1, h.2.1, h.2.2.1.i hc.1 hc.2.1, h.2.2.2.1.i hc.2.2.1 hc.2.2.2.1, h.2.2.2.2.i hc.2.2.2.2.1 hc.2.2.2.2.2⟩
theorem Kp.oN {E : FE} {D : Nat → Nat → Nat} {p : Nat} {L1 L2 L3 : Nat → List Nat} {AR1 AR2 AR3 : Nat → Nat} {σ : Sg} {c a x : Nat} (h : Kp E D p L1 L2 L3 AR1 AR2 AR3 σ) (hc : c ∉ [200100, 410005, 210100, 420006, 220100, 430007]) (hs : ∀ j, j < 14 → (shc j).1 ≠ c) : Kp E D p L1 L2 L3 AR1 AR2 AR3 (sO σ c a x none) := by
  simp only [List.mem_cons, List.not_mem_nil, or_false, not_or] at hc
  exact ⟨WF.oN h.1, h.2.1.o hs, h.2.2.1.o hc.1 hc.2.1, h.2.2.2.1.o hc.2.2.1 hc.2.2.2.1, h.2.2.2.2.o hc.2.2.2.2.1 hc.2.2.2.2.2⟩
theorem Kp.hse {E : FE} {D : Nat → Nat → Nat} {p a1 a2 a3 : Nat} {L1 L2 L3 : Nat → List Nat} {AR1 AR2 AR3 : Nat → Nat} {σ : Sg} (h : Kp E D p L1 L2 L3 AR1 AR2 AR3 σ) : Kp E D p L1 L2 L3 AR1 AR2 AR3 (itF (hseF a1 a2 a3) 15 1 σ) :=
  itF_ind (f := hseF a1 a2 a3) (fun _ τ => Kp E D p L1 L2 L3 AR1 AR2 AR3 τ) 15 1 σ h (fun j τ _ _ k => ((k.oN (by decide) (by decide)).i (by decide)).i (by decide))
theorem Kp.are {E : FE} {D : Nat → Nat → Nat} {p a1 : Nat} {L1 L2 L3 : Nat → List Nat} {AR1 AR2 AR3 : Nat → Nat} {σ : Sg} (h : Kp E D p L1 L2 L3 AR1 AR2 AR3 σ) : Kp E D p L1 L2 L3 AR1 AR2 AR3 (itF (areF a1) 64 0 σ) :=
  itF_ind (f := areF a1) (fun _ τ => Kp E D p L1 L2 L3 AR1 AR2 AR3 τ) 64 0 σ h (fun j τ _ _ k => k.oN (by decide) (by decide))
def emA (σ : Sg) (D : Nat → Nat → Nat) (p : Nat) : Sg := sI (itF (hseF (D p 3) (D p 4) (D p 5)) 15 1 σ) 80300 (D p 2) 0 0
def emB (σ : Sg) (D : Nat → Nat → Nat) (p : Nat) : Sg := sI (sI (itF (areF (D p 7)) 64 0 (emA σ D p)) 90100 (D p 6) 0 0) 90200 (D p 6) 0 0
def emC (σ : Sg) (D : Nat → Nat → Nat) (p : Nat) : Sg := sI (sI (emB σ D p) 40400 (D p 8) 0 0) 40300 (D p 8) 0 0
def empP (E : FE) (D : Nat → Nat → Nat) (p : Nat) (L1 L2 L3 : Nat → List Nat) (AR1 AR2 AR3 : Nat → Nat) (σ σ' : Sg) : Prop := ∃ s1 s2 s3, Eqk E 20 41 (emC σ D p) s1 ∧ Eqk E 21 42 s1 s2 ∧ Eqk E 22 43 s2 s3 ∧ Kp E D p (upL L1 p []) (upL L2 p []) (upL L3 p []) AR1 AR2 AR3 s3 ∧ σ' = sO (sI s3 21000 (D p 0) 0 0) 21105 (D p 0) 0 none
set_option maxHeartbeats 4000000 in
theorem c_pr_empty (l : Launch) (E : FE) (d : Nat) (σ : Sg) (D : Nat → Nat → Nat) (p : Nat) (L1 : Nat → List Nat) (AR1 : Nat → Nat) (L2 : Nat → List Nat) (AR2 : Nat → Nat) (L3 : Nat → List Nat) (AR3 : Nat → Nat) (hd : 4 ≤ d) (hp : p < 4) (k0 : Kp E D p L1 L2 L3 AR1 AR2 AR3 σ) : CT l E d 45 [vR (some (D p 0))] σ 0 0 (fun r σ' => r = none ∧ empP E D p L1 L2 L3 AR1 AR2 AR3 σ σ') (fun _ _ => False) := by
  have hw := k0.1
  have hP := k0.2.1
  refine CTo ok_pr_empty (by decide +kernel) rfl rfl rfl ?_
  refine w_run 1 (S' := (1, [(0, vR (some (D p 0)))], [vR (some (D p 0))], σ, 0, 0)) rfl ?_
  refine w_get (k := 2) (vR (σ.2.1 20208 (D p 0) 0)) rfl rfl rfl hP.1 rfl rfl ?_
  refine Eq.mp (congrArg (fun x9 => WG _ _ _ _ _ _ _ (4, [(0, vR (some (D p 0)))], [vR x9], σ, 0, 0)) (Eq.symm (hP.2 1 (by decide)) : some (D p 2) = σ.2.1 20208 (D p 0) 0)) ?_
  show WG _ _ _ _ _ _ _ (4, [(0, vR (some (D p 0)))], [vR (some (D p 2))], σ, 0, 0)
  refine w_callV (st := []) [] rfl ml_1_184 rfl rfl (hw 20208 (D p 0) 0 (D p 2) (hP.2 1 (by decide)) (by decide)) rfl rfl rfl (by simp only [RM]; omega) (by simp only [RM]; show 8 + (2 + 11) + _ ≤ _; omega) rfl (by simp only [RM]; omega) (by simp only [RM]; omega) (c_hs_empty l E (d - 1) σ (D p 2) (D p 3) (D p 4) (D p 5) ((k0.1 20208 (D p 0) 0 (D p 2) (k0.2.1.2 1 (by decide)) (by decide))) (k0.2.1.2 7 (by decide)) (k0.2.1.2 8 (by decide)) (k0.2.1.2 9 (by decide)) k0.1) (fun _ _ h => h.elim) ?_
  intro r9 s9 q9
  obtain ⟨e1, e2⟩ := q9
  subst e1
  rw [show s9 = emA σ D p from e2]
  clear e2 s9
  have k1 : Kp E D p L1 L2 L3 AR1 AR2 AR3 (emA σ D p) := k0.hse.i (by decide)
  show WG _ _ _ _ _ _ _ (7, [(0, vR (some (D p 0)))], [], emA σ D p, 0, 0)
  refine w_run 1 (S' := (8, [(0, vR (some (D p 0)))], [vR (some (D p 0))], emA σ D p, 0, 0)) rfl ?_
  refine w_get (k := 2) (vR ((emA σ D p).2.1 20309 (D p 0) 0)) rfl rfl rfl k1.2.1.1 rfl rfl ?_
  refine Eq.mp (congrArg (fun x9 => WG _ _ _ _ _ _ _ (11, [(0, vR (some (D p 0)))], [vR x9], emA σ D p, 0, 0)) (Eq.symm (k1.2.1.2 2 (by decide)) : some (D p 6) = (emA σ D p).2.1 20309 (D p 0) 0)) ?_
  show WG _ _ _ _ _ _ _ (11, [(0, vR (some (D p 0)))], [vR (some (D p 6))], emA σ D p, 0, 0)
  refine w_callV (st := []) [] rfl ml_1_187 rfl rfl (k1.1 20309 (D p 0) 0 (D p 6) (k1.2.1.2 2 (by decide)) (by decide)) rfl rfl rfl (by simp only [RM]; omega) (by simp only [RM]; show 8 + (2 + 11) + _ ≤ _; omega) rfl (by simp only [RM]; omega) (by simp only [RM]; omega) (c_ar_empty l E (d - 1) (emA σ D p) (D p 6) (D p 7) ((k1.1 20309 (D p 0) 0 (D p 6) (k1.2.1.2 2 (by decide)) (by decide))) (k1.2.1.2 10 (by decide)) k1.1) (fun _ _ h => h.elim) ?_
  intro r9 s9 q9
  obtain ⟨e1, e2⟩ := q9
  subst e1
  rw [show s9 = emB σ D p from e2]
  clear e2 s9
  have k2 : Kp E D p L1 L2 L3 AR1 AR2 AR3 (emB σ D p) := (k1.are.i (by decide)).i (by decide)
  show WG _ _ _ _ _ _ _ (14, [(0, vR (some (D p 0)))], [], emB σ D p, 0, 0)
  refine w_run 1 (S' := (15, [(0, vR (some (D p 0)))], [vR (some (D p 0))], emB σ D p, 0, 0)) rfl ?_
  refine w_get (k := 2) (vR ((emB σ D p).2.1 20404 (D p 0) 0)) rfl rfl rfl k2.2.1.1 rfl rfl ?_
  refine w_run 1 (S' := (19, [(0, vR (some (D p 0)))], [vI 0, vR ((emB σ D p).2.1 20404 (D p 0) 0)], emB σ D p, 0, 0)) rfl ?_
  refine Eq.mp (congrArg (fun x9 => WG _ _ _ _ _ _ _ (19, [(0, vR (some (D p 0)))], [vI 0, vR x9], emB σ D p, 0, 0)) (Eq.symm (k2.2.1.2 3 (by decide)) : some (D p 8) = (emB σ D p).2.1 20404 (D p 0) 0)) ?_
  show WG _ _ _ _ _ _ _ (19, [(0, vR (some (D p 0)))], [vI 0, vR (some (D p 8))], emB σ D p, 0, 0)
  refine w_callV (st := []) [vI 0] rfl ml_1_188 rfl rfl (k2.1 20404 (D p 0) 0 (D p 8) (k2.2.1.2 3 (by decide)) (by decide)) rfl rfl rfl (by simp only [RM]; omega) (by simp only [RM]; show 8 + (2 + 11) + _ ≤ _; omega) rfl (by simp only [RM]; omega) (by simp only [RM]; omega) (c_dr_begin l E (d - 1) (emB σ D p) (D p 8) 0 ((k2.1 20404 (D p 0) 0 (D p 8) (k2.2.1.2 3 (by decide)) (by decide)))) (fun _ _ h => h.elim) ?_
  intro r9 s9 q9
  obtain ⟨e1, e2⟩ := q9
  subst e1
  rw [show s9 = emC σ D p from e2]
  clear e2 s9
  have k3 : Kp E D p L1 L2 L3 AR1 AR2 AR3 (emC σ D p) := (k2.i (by decide)).i (by decide)
  show WG _ _ _ _ _ _ _ (22, [(0, vR (some (D p 0)))], [], emC σ D p, 0, 0)
  refine w_run 1 (S' := (23, [(0, vR (some (D p 0)))], [vR (some (D p 0))], emC σ D p, 0, 0)) rfl ?_
  refine w_get (k := 2) (vR ((emC σ D p).2.1 20520 (D p 0) 0)) rfl rfl rfl k3.2.1.1 rfl rfl ?_
  refine Eq.mp (congrArg (fun x9 => WG _ _ _ _ _ _ _ (26, [(0, vR (some (D p 0)))], [vR x9], emC σ D p, 0, 0)) (Eq.symm (k3.2.1.2 4 (by decide)) : some (D p 12) = (emC σ D p).2.1 20520 (D p 0) 0)) ?_
  show WG _ _ _ _ _ _ _ (26, [(0, vR (some (D p 0)))], [vR (some (D p 12))], emC σ D p, 0, 0)
  refine w_callV (st := []) [] rfl ml_1_192 rfl rfl (k3.1 20520 (D p 0) 0 (D p 12) (k3.2.1.2 4 (by decide)) (by decide)) rfl rfl rfl (by simp only [RM]; omega) (by simp only [RM]; show 8 + (4 + 11) + _ ≤ _; omega) rfl (by simp only [RM]; omega) (by simp only [RM]; omega) (c_la_clear_20 l E (d - 1) (emC σ D p) (fun p => D p 12) L1 AR1 k3.2.2.1 p hp) (fun _ _ h => h.elim) ?_
  intro r9 s1 q9
  obtain ⟨e1, h9, e9s1⟩ := q9
  subst e1
  have k4 : Kp E D p (upL L1 p []) L2 L3 AR1 AR2 AR3 s1 := ⟨e9s1.2.2.2.2.2 k3.1, k3.2.1.eqk k3.1 e9s1 (by decide) (by decide), h9, (k3.2.2.2.1.keep e9s1 (by decide) (by decide) (by decide) (by decide) (by decide) (by decide) (by decide)), (k3.2.2.2.2.keep e9s1 (by decide) (by decide) (by decide) (by decide) (by decide) (by decide) (by decide))⟩
  clear h9
  show WG _ _ _ _ _ _ _ (29, [(0, vR (some (D p 0)))], [], s1, 0, 0)
  refine w_run 1 (S' := (30, [(0, vR (some (D p 0)))], [vR (some (D p 0))], s1, 0, 0)) rfl ?_
  refine w_get (k := 2) (vR (s1.2.1 20621 (D p 0) 0)) rfl rfl rfl k4.2.1.1 rfl rfl ?_
  refine Eq.mp (congrArg (fun x9 => WG _ _ _ _ _ _ _ (33, [(0, vR (some (D p 0)))], [vR x9], s1, 0, 0)) (Eq.symm (k4.2.1.2 5 (by decide)) : some (D p 13) = s1.2.1 20621 (D p 0) 0)) ?_
  show WG _ _ _ _ _ _ _ (33, [(0, vR (some (D p 0)))], [vR (some (D p 13))], s1, 0, 0)
  refine w_callV (st := []) [] rfl ml_1_192 rfl rfl (k4.1 20621 (D p 0) 0 (D p 13) (k4.2.1.2 5 (by decide)) (by decide)) rfl rfl rfl (by simp only [RM]; omega) (by simp only [RM]; show 8 + (4 + 11) + _ ≤ _; omega) rfl (by simp only [RM]; omega) (by simp only [RM]; omega) (c_la_clear_21 l E (d - 1) (s1) (fun p => D p 13) L2 AR2 k4.2.2.2.1 p hp) (fun _ _ h => h.elim) ?_
  intro r9 s2 q9
  obtain ⟨e1, h9, e9s2⟩ := q9
  subst e1
  have k5 : Kp E D p (upL L1 p []) (upL L2 p []) L3 AR1 AR2 AR3 s2 := ⟨e9s2.2.2.2.2.2 k4.1, k4.2.1.eqk k4.1 e9s2 (by decide) (by decide), (k4.2.2.1.keep e9s2 (by decide) (by decide) (by decide) (by decide) (by decide) (by decide) (by decide)), h9, (k4.2.2.2.2.keep e9s2 (by decide) (by decide) (by decide) (by decide) (by decide) (by decide) (by decide))⟩
  clear h9
  show WG _ _ _ _ _ _ _ (36, [(0, vR (some (D p 0)))], [], s2, 0, 0)
  refine w_run 1 (S' := (37, [(0, vR (some (D p 0)))], [vR (some (D p 0))], s2, 0, 0)) rfl ?_
  refine w_get (k := 2) (vR (s2.2.1 20722 (D p 0) 0)) rfl rfl rfl k5.2.1.1 rfl rfl ?_
  refine Eq.mp (congrArg (fun x9 => WG _ _ _ _ _ _ _ (40, [(0, vR (some (D p 0)))], [vR x9], s2, 0, 0)) (Eq.symm (k5.2.1.2 6 (by decide)) : some (D p 14) = s2.2.1 20722 (D p 0) 0)) ?_
  show WG _ _ _ _ _ _ _ (40, [(0, vR (some (D p 0)))], [vR (some (D p 14))], s2, 0, 0)
  refine w_callV (st := []) [] rfl ml_1_192 rfl rfl (k5.1 20722 (D p 0) 0 (D p 14) (k5.2.1.2 6 (by decide)) (by decide)) rfl rfl rfl (by simp only [RM]; omega) (by simp only [RM]; show 8 + (4 + 11) + _ ≤ _; omega) rfl (by simp only [RM]; omega) (by simp only [RM]; omega) (c_la_clear_22 l E (d - 1) (s2) (fun p => D p 14) L3 AR3 k5.2.2.2.2 p hp) (fun _ _ h => h.elim) ?_
  intro r9 s3 q9
  obtain ⟨e1, h9, e9s3⟩ := q9
  subst e1
  have k6 : Kp E D p (upL L1 p []) (upL L2 p []) (upL L3 p []) AR1 AR2 AR3 s3 := ⟨e9s3.2.2.2.2.2 k5.1, k5.2.1.eqk k5.1 e9s3 (by decide) (by decide), (k5.2.2.1.keep e9s3 (by decide) (by decide) (by decide) (by decide) (by decide) (by decide) (by decide)), (k5.2.2.2.1.keep e9s3 (by decide) (by decide) (by decide) (by decide) (by decide) (by decide) (by decide)), h9⟩
  clear h9
  show WG _ _ _ _ _ _ _ (43, [(0, vR (some (D p 0)))], [], s3, 0, 0)
  refine w_run 2 (S' := (45, [(0, vR (some (D p 0)))], [vI 0, vR (some (D p 0))], s3, 0, 0)) rfl ?_
  refine w_puti (k := 2) rfl rfl rfl k6.2.1.1 rfl rfl (Or.inr ⟨rfl, Or.inl rfl⟩) (Or.inl rfl) ?_
  show WG _ _ _ _ _ _ _ (48, [(0, vR (some (D p 0)))], [], sI s3 21000 (D p 0) 0 0, 0, 0)
  refine w_run 2 (S' := (50, [(0, vR (some (D p 0)))], [vR none, vR (some (D p 0))], sI s3 21000 (D p 0) 0 0, 0, 0)) rfl ?_
  refine w_putr (k := 2) rfl rfl rfl k6.2.1.1 rfl rfl (fun _ h9 => by cases h9) rfl (Or.inl rfl) ?_
  show WG _ _ _ _ _ _ _ (53, [(0, vR (some (D p 0)))], [], sO (sI s3 21000 (D p 0) 0 0) 21105 (D p 0) 0 none, 0, 0)
  exact w_vret rfl rfl (by omega) (by omega) (⟨rfl, s1, s2, s3, e9s1, e9s2, e9s3, k6, rfl⟩)

