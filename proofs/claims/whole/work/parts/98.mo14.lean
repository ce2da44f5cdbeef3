/-! the model: tell -/
/-- one watch: told, or kept at lf -/
def tlF (A : Nat → Nat) (q p : Nat) : Nat → Sg × Nat → Sg × Nat := fun k s => if nI (pOf (s.1.1 790000 (A 28) (8 * q + k))) = nI p then (if s.1.1 790000 (A 28) (8 * q + k) / 40 = s.1.1 520000 (A 1) p then (cmS s.1 A q (s.1.1 720000 (A 21) q).toNatClampNeg 4 (-1) (-1) (-1) (s.1.1 800000 (A 29) (8 * q + k)), s.2) else (sI (sI s.1 790000 (A 28) (8 * q + s.2) (s.1.1 790000 (A 28) (8 * q + k))) 800000 (A 29) (8 * q + s.2) (s.1.1 800000 (A 29) (8 * q + k)), s.2 + 1)) else (sI (sI s.1 790000 (A 28) (8 * q + s.2) (s.1.1 790000 (A 28) (8 * q + k))) 800000 (A 29) (8 * q + s.2) (s.1.1 800000 (A 29) (8 * q + k)), s.2 + 1)
theorem tlF_a {A : Nat → Nat} {q p k lf w : Nat} {τ : Sg} (h1 : nI (pOf (τ.1 790000 (A 28) (8 * q + k))) = nI p) (h2 : τ.1 790000 (A 28) (8 * q + k) / 40 = τ.1 520000 (A 1) p) (hw : τ.1 720000 (A 21) q = nI w) (hw2 : w < 64) : (cmS τ A q w 4 (-1) (-1) (-1) (τ.1 800000 (A 29) (8 * q + k)), lf) = tlF A q p k (τ, lf) := by
  have e : (τ.1 720000 (A 21) q).toNatClampNeg = w := by rw [hw]; exact nI_clamp (by omega)
  rw [← e]
  exact ((if_pos h1).trans (if_pos h2)).symm
theorem tlF_b {A : Nat → Nat} {q p k lf : Nat} {τ : Sg} (h1 : nI (pOf (τ.1 790000 (A 28) (8 * q + k))) = nI p) (h2 : ¬ τ.1 790000 (A 28) (8 * q + k) / 40 = τ.1 520000 (A 1) p) : (sI (sI τ 790000 (A 28) (8 * q + lf) (τ.1 790000 (A 28) (8 * q + k))) 800000 (A 29) (8 * q + lf) (τ.1 800000 (A 29) (8 * q + k)), lf + 1) = tlF A q p k (τ, lf) := ((if_pos h1).trans (if_neg h2)).symm
theorem tlF_c {A : Nat → Nat} {q p k lf : Nat} {τ : Sg} (h1 : ¬ nI (pOf (τ.1 790000 (A 28) (8 * q + k))) = nI p) : (sI (sI τ 790000 (A 28) (8 * q + lf) (τ.1 790000 (A 28) (8 * q + k))) 800000 (A 29) (8 * q + lf) (τ.1 800000 (A 29) (8 * q + k)), lf + 1) = tlF A q p k (τ, lf) := (if_neg h1).symm
theorem cm_w {A : Nat → Nat} {q w c a x : Nat} {τ : Sg} {k b y s z : Int32} (h1 : c ≠ 730000) (h2 : c ≠ 720000) : (cmS τ A q w k b y s z).1 c a x = τ.1 c a x := by
  unfold cmS
  rw [rII h2, rII h1, rII h1, rII h1, rII h1, rII h1, rII h1]
theorem cm_n {A : Nat → Nat} {q w : Nat} {τ : Sg} {k b y s z : Int32} : (cmS τ A q w k b y s z).1 720000 (A 21) q = nI (w + 1) := by
  unfold cmS
  rw [rIs]
set_option maxRecDepth 20000 in
set_option maxHeartbeats 4000000 in
theorem lk_mo_tell (l : Launch) (E : FE) (d : Nat) (σ : Sg) (m : Nat) (A : Nat → Nat) (q p W V : Nat) (hd : 2 ≤ d) (hq : q < 4) (hp : p < 4) (hV8 : V ≤ 8) (hWV : W + V ≤ 64) {mc ms cs sl : Nat} {args : Array Value} {XX : State → Prop} {QF : State → List Frame → State → Prop} (hcs : cs ≤ mc) (hsl : sl ≤ ms) : ∀ (k i : Nat), i + k = V → ∀ (τ : Sg) (lf : Nat), (MO τ m A) → (∃ w, τ.1 720000 (A 21) q = nI w ∧ w ≤ W + i) → (lf ≤ i) → (∀ j, i ≤ j → j < V → ¬ τ.1 790000 (A 28) (8 * q + j) < 0) → (∀ (τ' : Sg) (lf' : Nat), (τ', lf') = itF (tlF A q p) k i (τ, lf) → (MO τ' m A) → WG l E (RM d mc ms) 81 args XX QF (120, [(3, vI (nI lf')), (4, vI (nI V)), (0, vR (some m)), (1, vI (nI q)), (2, vI (nI p))], [], τ', cs, sl)) →
    WG l E (RM d mc ms) 81 args XX QF (13, [(5, vI (nI i)), (3, vI (nI lf)), (4, vI (nI V)), (0, vR (some m)), (1, vI (nI q)), (2, vI (nI p))], [], τ, cs, sl) := by
  intro k
  induction k with
  | zero =>
    intro i hi τ lf hM hwx hlf hnn K
    refine w_run 2 (S' := (17, [(5, vI (nI i)), (3, vI (nI lf)), (4, vI (nI V)), (0, vR (some m)), (1, vI (nI q)), (2, vI (nI p))], [vI (nI V), vI (nI i)], τ, cs, sl)) rfl ?_
    refine w_ic_ge rfl (fun c1 => ?_) (fun c1 => (absurd ((nI_leI (a := V) (b := i) (by omega) (by omega)).mpr (by omega)) c1))
    have nc1 := (nI_leI (a := V) (b := i) (by omega) (by omega)).mp c1
    refine w_lsP [1, 2, 3, 4, 5] ?_
    show WG _ _ _ _ _ _ _ (120, [(3, vI (nI lf)), (4, vI (nI V)), (0, vR (some m)), (1, vI (nI q)), (2, vI (nI p))], [], τ, cs, sl)
    exact K τ lf rfl hM
  | succ k ih =>
    intro i hi τ lf hM hwx hlf hnn K
    refine w_run 2 (S' := (17, [(5, vI (nI i)), (3, vI (nI lf)), (4, vI (nI V)), (0, vR (some m)), (1, vI (nI q)), (2, vI (nI p))], [vI (nI V), vI (nI i)], τ, cs, sl)) rfl ?_
    refine w_ic_ge rfl (fun c1 => (absurd ((nI_leI (a := V) (b := i) (by omega) (by omega)).mp c1) (by omega))) (fun c1 => ?_)
    have nc1 := mt (nI_leI (a := V) (b := i) (by omega) (by omega)).mpr c1
    obtain ⟨w, hw, hwW⟩ := hwx
    refine w_run 1 (S' := (21, [(5, vI (nI i)), (3, vI (nI lf)), (4, vI (nI V)), (0, vR (some m)), (1, vI (nI q)), (2, vI (nI p))], [vR (some m)], τ, cs, sl)) rfl ?_
    refine w_get (k := 50) (vR (τ.2.1 503179 m 0)) rfl rfl rfl hM.1 rfl rfl ?_
    refine w_run 5 (S' := (31, [(5, vI (nI i)), (3, vI (nI lf)), (4, vI (nI V)), (0, vR (some m)), (1, vI (nI q)), (2, vI (nI p))], [vI ((8 * (nI q)) + (nI i)), vR (τ.2.1 503179 m 0)], τ, cs, sl)) rfl ?_
    rw [show ((8 * (nI q)) + (nI i) : Int32) = nI (8 * q + i) from by simp only [nl0, nl1, nl2, nl3, nl4, nl5, nl6, nl8, nl9, nl10, nl12, nl15, nl16, nl20, nl24, nl32, nl40, nl64, nl65, nl384, pk_mul, nI_add]]
    show WG _ _ _ _ _ _ _ (31, [(5, vI (nI i)), (3, vI (nI lf)), (4, vI (nI V)), (0, vR (some m)), (1, vI (nI q)), (2, vI (nI p))], [vI (nI (8 * q + i)), vR (τ.2.1 503179 m 0)], τ, cs, sl)
    refine w_iald (k := 79) rfl ((hM.2 28 (by decide)).1) ((hM.2 28 (by decide)).2) rfl (show vp_in (nI (8 * q + i)) 32 from vp_in_nI (n := 8 * q + i) (by omega) (by decide)) ?_
    show WG _ _ _ _ _ _ _ (32, [(5, vI (nI i)), (3, vI (nI lf)), (4, vI (nI V)), (0, vR (some m)), (1, vI (nI q)), (2, vI (nI p))], [vI (τ.1 790000 (A 28) (nI (8 * q + i)).toNatClampNeg)], τ, cs, sl)
    rw [show (nI (8 * q + i) : Int32).toNatClampNeg = 8 * q + i from nI_clamp (n := 8 * q + i) (by omega)]
    show WG _ _ _ _ _ _ _ (32, [(5, vI (nI i)), (3, vI (nI lf)), (4, vI (nI V)), (0, vR (some m)), (1, vI (nI q)), (2, vI (nI p))], [vI (τ.1 790000 (A 28) (8 * q + i))], τ, cs, sl)
    refine w_run 2 (S' := (35, [(6, vI (τ.1 790000 (A 28) (8 * q + i))), (5, vI (nI i)), (3, vI (nI lf)), (4, vI (nI V)), (0, vR (some m)), (1, vI (nI q)), (2, vI (nI p))], [vR (some m)], τ, cs, sl)) rfl ?_
    refine w_get (k := 50) (vR (τ.2.1 503280 m 0)) rfl rfl rfl hM.1 rfl rfl ?_
    refine w_run 5 (S' := (45, [(6, vI (τ.1 790000 (A 28) (8 * q + i))), (5, vI (nI i)), (3, vI (nI lf)), (4, vI (nI V)), (0, vR (some m)), (1, vI (nI q)), (2, vI (nI p))], [vI ((8 * (nI q)) + (nI i)), vR (τ.2.1 503280 m 0)], τ, cs, sl)) rfl ?_
    rw [show ((8 * (nI q)) + (nI i) : Int32) = nI (8 * q + i) from by simp only [nl0, nl1, nl2, nl3, nl4, nl5, nl6, nl8, nl9, nl10, nl12, nl15, nl16, nl20, nl24, nl32, nl40, nl64, nl65, nl384, pk_mul, nI_add]]
    show WG _ _ _ _ _ _ _ (45, [(6, vI (τ.1 790000 (A 28) (8 * q + i))), (5, vI (nI i)), (3, vI (nI lf)), (4, vI (nI V)), (0, vR (some m)), (1, vI (nI q)), (2, vI (nI p))], [vI (nI (8 * q + i)), vR (τ.2.1 503280 m 0)], τ, cs, sl)
    refine w_iald (k := 80) rfl ((hM.2 29 (by decide)).1) ((hM.2 29 (by decide)).2) rfl (show vp_in (nI (8 * q + i)) 32 from vp_in_nI (n := 8 * q + i) (by omega) (by decide)) ?_
    show WG _ _ _ _ _ _ _ (46, [(6, vI (τ.1 790000 (A 28) (8 * q + i))), (5, vI (nI i)), (3, vI (nI lf)), (4, vI (nI V)), (0, vR (some m)), (1, vI (nI q)), (2, vI (nI p))], [vI (τ.1 800000 (A 29) (nI (8 * q + i)).toNatClampNeg)], τ, cs, sl)
    rw [show (nI (8 * q + i) : Int32).toNatClampNeg = 8 * q + i from nI_clamp (n := 8 * q + i) (by omega)]
    show WG _ _ _ _ _ _ _ (46, [(6, vI (τ.1 790000 (A 28) (8 * q + i))), (5, vI (nI i)), (3, vI (nI lf)), (4, vI (nI V)), (0, vR (some m)), (1, vI (nI q)), (2, vI (nI p))], [vI (τ.1 800000 (A 29) (8 * q + i))], τ, cs, sl)
    refine w_run 2 (S' := (50, [(7, vI (τ.1 800000 (A 29) (8 * q + i))), (6, vI (τ.1 790000 (A 28) (8 * q + i))), (5, vI (nI i)), (3, vI (nI lf)), (4, vI (nI V)), (0, vR (some m)), (1, vI (nI q)), (2, vI (nI p))], [vI (τ.1 790000 (A 28) (8 * q + i))], τ, cs, sl)) rfl ?_
    refine w_callS (st := []) [vI (τ.1 790000 (A 28) (8 * q + i))] rfl ml_10_111 rfl (by simp only [RM]; omega) (by simp only [RM]; show 8 + (1 + 11) + _ ≤ _; omega) rfl (by simp only [RM]; omega) (by simp only [RM]; omega) (c_mo_processOfI l E (d - 1) τ (τ.1 790000 (A 28) (8 * q + i)) (hnn i (Nat.le_refl _) (by omega))) (fun _ _ h => h.elim) ?_
    intro r9 s9 q9
    rw [q9.1, q9.2]
    clear q9 r9 s9
    show WG _ _ _ _ _ _ _ (53, [(7, vI (τ.1 800000 (A 29) (8 * q + i))), (6, vI (τ.1 790000 (A 28) (8 * q + i))), (5, vI (nI i)), (3, vI (nI lf)), (4, vI (nI V)), (0, vR (some m)), (1, vI (nI q)), (2, vI (nI p))], [vI (nI (pOf (τ.1 790000 (A 28) (8 * q + i))))], τ, cs, sl)
    refine w_run 1 (S' := (54, [(7, vI (τ.1 800000 (A 29) (8 * q + i))), (6, vI (τ.1 790000 (A 28) (8 * q + i))), (5, vI (nI i)), (3, vI (nI lf)), (4, vI (nI V)), (0, vR (some m)), (1, vI (nI q)), (2, vI (nI p))], [vI (nI p), vI (nI (pOf (τ.1 790000 (A 28) (8 * q + i))))], τ, cs, sl)) rfl ?_
    refine w_ic_ne rfl (fun c2 => ?_) (fun c2 => ?_)
    · refine w_run 1 (S' := (86, [(7, vI (τ.1 800000 (A 29) (8 * q + i))), (6, vI (τ.1 790000 (A 28) (8 * q + i))), (5, vI (nI i)), (3, vI (nI lf)), (4, vI (nI V)), (0, vR (some m)), (1, vI (nI q)), (2, vI (nI p))], [vR (some m)], τ, cs, sl)) rfl ?_
      refine w_get (k := 50) (vR (τ.2.1 503179 m 0)) rfl rfl rfl hM.1 rfl rfl ?_
      refine w_run 6 (S' := (97, [(7, vI (τ.1 800000 (A 29) (8 * q + i))), (6, vI (τ.1 790000 (A 28) (8 * q + i))), (5, vI (nI i)), (3, vI (nI lf)), (4, vI (nI V)), (0, vR (some m)), (1, vI (nI q)), (2, vI (nI p))], [vI (τ.1 790000 (A 28) (8 * q + i)), vI ((8 * (nI q)) + (nI lf)), vR (τ.2.1 503179 m 0)], τ, cs, sl)) rfl ?_
      rw [show ((8 * (nI q)) + (nI lf) : Int32) = nI (8 * q + lf) from by simp only [nl0, nl1, nl2, nl3, nl4, nl5, nl6, nl8, nl9, nl10, nl12, nl15, nl16, nl20, nl24, nl32, nl40, nl64, nl65, nl384, pk_mul, nI_add]]
      show WG _ _ _ _ _ _ _ (97, [(7, vI (τ.1 800000 (A 29) (8 * q + i))), (6, vI (τ.1 790000 (A 28) (8 * q + i))), (5, vI (nI i)), (3, vI (nI lf)), (4, vI (nI V)), (0, vR (some m)), (1, vI (nI q)), (2, vI (nI p))], [vI (τ.1 790000 (A 28) (8 * q + i)), vI (nI (8 * q + lf)), vR (τ.2.1 503179 m 0)], τ, cs, sl)
      refine w_iast (k := 79) rfl ((hM.2 28 (by decide)).1) ((hM.2 28 (by decide)).2) rfl (show vp_in (nI (8 * q + lf)) 32 from vp_in_nI (n := 8 * q + lf) (by omega) (by decide)) ?_
      show WG _ _ _ _ _ _ _ (98, [(7, vI (τ.1 800000 (A 29) (8 * q + i))), (6, vI (τ.1 790000 (A 28) (8 * q + i))), (5, vI (nI i)), (3, vI (nI lf)), (4, vI (nI V)), (0, vR (some m)), (1, vI (nI q)), (2, vI (nI p))], [], sI τ 790000 (A 28) ((nI (8 * q + lf)).toNatClampNeg) (τ.1 790000 (A 28) (8 * q + i)), cs, sl)
      rw [show (nI (8 * q + lf) : Int32).toNatClampNeg = 8 * q + lf from nI_clamp (n := 8 * q + lf) (by omega)]
      refine w_run 1 (S' := (99, [(7, vI (τ.1 800000 (A 29) (8 * q + i))), (6, vI (τ.1 790000 (A 28) (8 * q + i))), (5, vI (nI i)), (3, vI (nI lf)), (4, vI (nI V)), (0, vR (some m)), (1, vI (nI q)), (2, vI (nI p))], [vR (some m)], sI τ 790000 (A 28) (8 * q + lf) (τ.1 790000 (A 28) (8 * q + i)), cs, sl)) rfl ?_
      refine w_get (k := 50) (vR (τ.2.1 503280 m 0)) rfl rfl rfl hM.1 rfl rfl ?_
      refine w_run 6 (S' := (110, [(7, vI (τ.1 800000 (A 29) (8 * q + i))), (6, vI (τ.1 790000 (A 28) (8 * q + i))), (5, vI (nI i)), (3, vI (nI lf)), (4, vI (nI V)), (0, vR (some m)), (1, vI (nI q)), (2, vI (nI p))], [vI (τ.1 800000 (A 29) (8 * q + i)), vI ((8 * (nI q)) + (nI lf)), vR (τ.2.1 503280 m 0)], sI τ 790000 (A 28) (8 * q + lf) (τ.1 790000 (A 28) (8 * q + i)), cs, sl)) rfl ?_
      rw [show ((8 * (nI q)) + (nI lf) : Int32) = nI (8 * q + lf) from by simp only [nl0, nl1, nl2, nl3, nl4, nl5, nl6, nl8, nl9, nl10, nl12, nl15, nl16, nl20, nl24, nl32, nl40, nl64, nl65, nl384, pk_mul, nI_add]]
      show WG _ _ _ _ _ _ _ (110, [(7, vI (τ.1 800000 (A 29) (8 * q + i))), (6, vI (τ.1 790000 (A 28) (8 * q + i))), (5, vI (nI i)), (3, vI (nI lf)), (4, vI (nI V)), (0, vR (some m)), (1, vI (nI q)), (2, vI (nI p))], [vI (τ.1 800000 (A 29) (8 * q + i)), vI (nI (8 * q + lf)), vR (τ.2.1 503280 m 0)], sI τ 790000 (A 28) (8 * q + lf) (τ.1 790000 (A 28) (8 * q + i)), cs, sl)
      refine w_iast (k := 80) rfl ((hM.2 29 (by decide)).1) ((hM.2 29 (by decide)).2) rfl (show vp_in (nI (8 * q + lf)) 32 from vp_in_nI (n := 8 * q + lf) (by omega) (by decide)) ?_
      show WG _ _ _ _ _ _ _ (111, [(7, vI (τ.1 800000 (A 29) (8 * q + i))), (6, vI (τ.1 790000 (A 28) (8 * q + i))), (5, vI (nI i)), (3, vI (nI lf)), (4, vI (nI V)), (0, vR (some m)), (1, vI (nI q)), (2, vI (nI p))], [], sI (sI τ 790000 (A 28) (8 * q + lf) (τ.1 790000 (A 28) (8 * q + i))) 800000 (A 29) ((nI (8 * q + lf)).toNatClampNeg) (τ.1 800000 (A 29) (8 * q + i)), cs, sl)
      rw [show (nI (8 * q + lf) : Int32).toNatClampNeg = 8 * q + lf from nI_clamp (n := 8 * q + lf) (by omega)]
      refine w_run 3 (S' := (13, [(5, vI ((nI i) + 1)), (3, vI ((nI lf) + 1)), (7, vI (τ.1 800000 (A 29) (8 * q + i))), (6, vI (τ.1 790000 (A 28) (8 * q + i))), (4, vI (nI V)), (0, vR (some m)), (1, vI (nI q)), (2, vI (nI p))], [], sI (sI τ 790000 (A 28) (8 * q + lf) (τ.1 790000 (A 28) (8 * q + i))) 800000 (A 29) (8 * q + lf) (τ.1 800000 (A 29) (8 * q + i)), cs, sl)) rfl ?_
      rw [show ((nI i) + 1 : Int32) = nI (i + 1) from by simp only [nl0, nl1, nl2, nl3, nl4, nl5, nl6, nl8, nl9, nl10, nl12, nl15, nl16, nl20, nl24, nl32, nl40, nl64, nl65, nl384, pk_mul, nI_add]]
      rw [show ((nI lf) + 1 : Int32) = nI (lf + 1) from by simp only [nl0, nl1, nl2, nl3, nl4, nl5, nl6, nl8, nl9, nl10, nl12, nl15, nl16, nl20, nl24, nl32, nl40, nl64, nl65, nl384, pk_mul, nI_add]]
      show WG _ _ _ _ _ _ _ (13, [(5, vI (nI (i + 1))), (3, vI (nI (lf + 1))), (7, vI (τ.1 800000 (A 29) (8 * q + i))), (6, vI (τ.1 790000 (A 28) (8 * q + i))), (4, vI (nI V)), (0, vR (some m)), (1, vI (nI q)), (2, vI (nI p))], [], sI (sI τ 790000 (A 28) (8 * q + lf) (τ.1 790000 (A 28) (8 * q + i))) 800000 (A 29) (8 * q + lf) (τ.1 800000 (A 29) (8 * q + i)), cs, sl)
      refine w_lsP [0, 1, 4, 5, 6, 7] ?_
      show WG _ _ _ _ _ _ _ (13, [(5, vI (nI (i + 1))), (3, vI (nI (lf + 1))), (4, vI (nI V)), (0, vR (some m)), (1, vI (nI q)), (2, vI (nI p))], [], sI (sI τ 790000 (A 28) (8 * q + lf) (τ.1 790000 (A 28) (8 * q + i))) 800000 (A 29) (8 * q + lf) (τ.1 800000 (A 29) (8 * q + i)), cs, sl)
      exact ih (i + 1) (by omega) (sI (sI τ 790000 (A 28) (8 * q + lf) (τ.1 790000 (A 28) (8 * q + i))) 800000 (A 29) (8 * q + lf) (τ.1 800000 (A 29) (8 * q + i))) (lf + 1) (hM) (⟨w, ((rII (by decide)).trans (rII (by decide))).trans hw, by omega⟩) (by omega) (fun j j1 j2 => by rw [rII (by decide), rIx (by omega)]; exact hnn j (by omega) j2) (fun τ' lf' e9 q90 => K τ' lf' (by rw [itF_succ, ← (show ((sI (sI τ 790000 (A 28) (8 * q + lf) (τ.1 790000 (A 28) (8 * q + i))) 800000 (A 29) (8 * q + lf) (τ.1 800000 (A 29) (8 * q + i)), lf + 1) : Sg × Nat) = (tlF A q p) i (τ, lf) from tlF_c c2)]; exact e9) q90)
    · refine w_run 2 (S' := (61, [(7, vI (τ.1 800000 (A 29) (8 * q + i))), (6, vI (τ.1 790000 (A 28) (8 * q + i))), (5, vI (nI i)), (3, vI (nI lf)), (4, vI (nI V)), (0, vR (some m)), (1, vI (nI q)), (2, vI (nI p))], [vI 40, vI (τ.1 790000 (A 28) (8 * q + i))], τ, cs, sl)) rfl ?_
      refine w_idiv rfl (by decide) ?_
      refine w_run 1 (S' := (63, [(7, vI (τ.1 800000 (A 29) (8 * q + i))), (6, vI (τ.1 790000 (A 28) (8 * q + i))), (5, vI (nI i)), (3, vI (nI lf)), (4, vI (nI V)), (0, vR (some m)), (1, vI (nI q)), (2, vI (nI p))], [vR (some m), vI ((τ.1 790000 (A 28) (8 * q + i)) / 40)], τ, cs, sl)) rfl ?_
      refine w_get (k := 50) (vR (τ.2.1 500252 m 0)) rfl rfl rfl hM.1 rfl rfl ?_
      refine w_run 1 (S' := (67, [(7, vI (τ.1 800000 (A 29) (8 * q + i))), (6, vI (τ.1 790000 (A 28) (8 * q + i))), (5, vI (nI i)), (3, vI (nI lf)), (4, vI (nI V)), (0, vR (some m)), (1, vI (nI q)), (2, vI (nI p))], [vI (nI p), vR (τ.2.1 500252 m 0), vI ((τ.1 790000 (A 28) (8 * q + i)) / 40)], τ, cs, sl)) rfl ?_
      refine w_iald (k := 52) rfl ((hM.2 1 (by decide)).1) ((hM.2 1 (by decide)).2) rfl (show vp_in (nI p) 4 from vp_in_nI (n := p) (by omega) (by decide)) ?_
      show WG _ _ _ _ _ _ _ (68, [(7, vI (τ.1 800000 (A 29) (8 * q + i))), (6, vI (τ.1 790000 (A 28) (8 * q + i))), (5, vI (nI i)), (3, vI (nI lf)), (4, vI (nI V)), (0, vR (some m)), (1, vI (nI q)), (2, vI (nI p))], [vI (τ.1 520000 (A 1) (nI p).toNatClampNeg), vI ((τ.1 790000 (A 28) (8 * q + i)) / 40)], τ, cs, sl)
      rw [show (nI p : Int32).toNatClampNeg = p from nI_clamp (n := p) (by omega)]
      show WG _ _ _ _ _ _ _ (68, [(7, vI (τ.1 800000 (A 29) (8 * q + i))), (6, vI (τ.1 790000 (A 28) (8 * q + i))), (5, vI (nI i)), (3, vI (nI lf)), (4, vI (nI V)), (0, vR (some m)), (1, vI (nI q)), (2, vI (nI p))], [vI (τ.1 520000 (A 1) p), vI ((τ.1 790000 (A 28) (8 * q + i)) / 40)], τ, cs, sl)
      refine w_ic_ne rfl (fun c3 => ?_) (fun c3 => ?_)
      · refine w_run 1 (S' := (86, [(7, vI (τ.1 800000 (A 29) (8 * q + i))), (6, vI (τ.1 790000 (A 28) (8 * q + i))), (5, vI (nI i)), (3, vI (nI lf)), (4, vI (nI V)), (0, vR (some m)), (1, vI (nI q)), (2, vI (nI p))], [vR (some m)], τ, cs, sl)) rfl ?_
        refine w_get (k := 50) (vR (τ.2.1 503179 m 0)) rfl rfl rfl hM.1 rfl rfl ?_
        refine w_run 6 (S' := (97, [(7, vI (τ.1 800000 (A 29) (8 * q + i))), (6, vI (τ.1 790000 (A 28) (8 * q + i))), (5, vI (nI i)), (3, vI (nI lf)), (4, vI (nI V)), (0, vR (some m)), (1, vI (nI q)), (2, vI (nI p))], [vI (τ.1 790000 (A 28) (8 * q + i)), vI ((8 * (nI q)) + (nI lf)), vR (τ.2.1 503179 m 0)], τ, cs, sl)) rfl ?_
        rw [show ((8 * (nI q)) + (nI lf) : Int32) = nI (8 * q + lf) from by simp only [nl0, nl1, nl2, nl3, nl4, nl5, nl6, nl8, nl9, nl10, nl12, nl15, nl16, nl20, nl24, nl32, nl40, nl64, nl65, nl384, pk_mul, nI_add]]
        show WG _ _ _ _ _ _ _ (97, [(7, vI (τ.1 800000 (A 29) (8 * q + i))), (6, vI (τ.1 790000 (A 28) (8 * q + i))), (5, vI (nI i)), (3, vI (nI lf)), (4, vI (nI V)), (0, vR (some m)), (1, vI (nI q)), (2, vI (nI p))], [vI (τ.1 790000 (A 28) (8 * q + i)), vI (nI (8 * q + lf)), vR (τ.2.1 503179 m 0)], τ, cs, sl)
        refine w_iast (k := 79) rfl ((hM.2 28 (by decide)).1) ((hM.2 28 (by decide)).2) rfl (show vp_in (nI (8 * q + lf)) 32 from vp_in_nI (n := 8 * q + lf) (by omega) (by decide)) ?_
        show WG _ _ _ _ _ _ _ (98, [(7, vI (τ.1 800000 (A 29) (8 * q + i))), (6, vI (τ.1 790000 (A 28) (8 * q + i))), (5, vI (nI i)), (3, vI (nI lf)), (4, vI (nI V)), (0, vR (some m)), (1, vI (nI q)), (2, vI (nI p))], [], sI τ 790000 (A 28) ((nI (8 * q + lf)).toNatClampNeg) (τ.1 790000 (A 28) (8 * q + i)), cs, sl)
        rw [show (nI (8 * q + lf) : Int32).toNatClampNeg = 8 * q + lf from nI_clamp (n := 8 * q + lf) (by omega)]
        refine w_run 1 (S' := (99, [(7, vI (τ.1 800000 (A 29) (8 * q + i))), (6, vI (τ.1 790000 (A 28) (8 * q + i))), (5, vI (nI i)), (3, vI (nI lf)), (4, vI (nI V)), (0, vR (some m)), (1, vI (nI q)), (2, vI (nI p))], [vR (some m)], sI τ 790000 (A 28) (8 * q + lf) (τ.1 790000 (A 28) (8 * q + i)), cs, sl)) rfl ?_
        refine w_get (k := 50) (vR (τ.2.1 503280 m 0)) rfl rfl rfl hM.1 rfl rfl ?_
        refine w_run 6 (S' := (110, [(7, vI (τ.1 800000 (A 29) (8 * q + i))), (6, vI (τ.1 790000 (A 28) (8 * q + i))), (5, vI (nI i)), (3, vI (nI lf)), (4, vI (nI V)), (0, vR (some m)), (1, vI (nI q)), (2, vI (nI p))], [vI (τ.1 800000 (A 29) (8 * q + i)), vI ((8 * (nI q)) + (nI lf)), vR (τ.2.1 503280 m 0)], sI τ 790000 (A 28) (8 * q + lf) (τ.1 790000 (A 28) (8 * q + i)), cs, sl)) rfl ?_
        rw [show ((8 * (nI q)) + (nI lf) : Int32) = nI (8 * q + lf) from by simp only [nl0, nl1, nl2, nl3, nl4, nl5, nl6, nl8, nl9, nl10, nl12, nl15, nl16, nl20, nl24, nl32, nl40, nl64, nl65, nl384, pk_mul, nI_add]]
        show WG _ _ _ _ _ _ _ (110, [(7, vI (τ.1 800000 (A 29) (8 * q + i))), (6, vI (τ.1 790000 (A 28) (8 * q + i))), (5, vI (nI i)), (3, vI (nI lf)), (4, vI (nI V)), (0, vR (some m)), (1, vI (nI q)), (2, vI (nI p))], [vI (τ.1 800000 (A 29) (8 * q + i)), vI (nI (8 * q + lf)), vR (τ.2.1 503280 m 0)], sI τ 790000 (A 28) (8 * q + lf) (τ.1 790000 (A 28) (8 * q + i)), cs, sl)
        refine w_iast (k := 80) rfl ((hM.2 29 (by decide)).1) ((hM.2 29 (by decide)).2) rfl (show vp_in (nI (8 * q + lf)) 32 from vp_in_nI (n := 8 * q + lf) (by omega) (by decide)) ?_
        show WG _ _ _ _ _ _ _ (111, [(7, vI (τ.1 800000 (A 29) (8 * q + i))), (6, vI (τ.1 790000 (A 28) (8 * q + i))), (5, vI (nI i)), (3, vI (nI lf)), (4, vI (nI V)), (0, vR (some m)), (1, vI (nI q)), (2, vI (nI p))], [], sI (sI τ 790000 (A 28) (8 * q + lf) (τ.1 790000 (A 28) (8 * q + i))) 800000 (A 29) ((nI (8 * q + lf)).toNatClampNeg) (τ.1 800000 (A 29) (8 * q + i)), cs, sl)
        rw [show (nI (8 * q + lf) : Int32).toNatClampNeg = 8 * q + lf from nI_clamp (n := 8 * q + lf) (by omega)]
        refine w_run 3 (S' := (13, [(5, vI ((nI i) + 1)), (3, vI ((nI lf) + 1)), (7, vI (τ.1 800000 (A 29) (8 * q + i))), (6, vI (τ.1 790000 (A 28) (8 * q + i))), (4, vI (nI V)), (0, vR (some m)), (1, vI (nI q)), (2, vI (nI p))], [], sI (sI τ 790000 (A 28) (8 * q + lf) (τ.1 790000 (A 28) (8 * q + i))) 800000 (A 29) (8 * q + lf) (τ.1 800000 (A 29) (8 * q + i)), cs, sl)) rfl ?_
        rw [show ((nI i) + 1 : Int32) = nI (i + 1) from by simp only [nl0, nl1, nl2, nl3, nl4, nl5, nl6, nl8, nl9, nl10, nl12, nl15, nl16, nl20, nl24, nl32, nl40, nl64, nl65, nl384, pk_mul, nI_add]]
        rw [show ((nI lf) + 1 : Int32) = nI (lf + 1) from by simp only [nl0, nl1, nl2, nl3, nl4, nl5, nl6, nl8, nl9, nl10, nl12, nl15, nl16, nl20, nl24, nl32, nl40, nl64, nl65, nl384, pk_mul, nI_add]]
        show WG _ _ _ _ _ _ _ (13, [(5, vI (nI (i + 1))), (3, vI (nI (lf + 1))), (7, vI (τ.1 800000 (A 29) (8 * q + i))), (6, vI (τ.1 790000 (A 28) (8 * q + i))), (4, vI (nI V)), (0, vR (some m)), (1, vI (nI q)), (2, vI (nI p))], [], sI (sI τ 790000 (A 28) (8 * q + lf) (τ.1 790000 (A 28) (8 * q + i))) 800000 (A 29) (8 * q + lf) (τ.1 800000 (A 29) (8 * q + i)), cs, sl)
        refine w_lsP [0, 1, 4, 5, 6, 7] ?_
        show WG _ _ _ _ _ _ _ (13, [(5, vI (nI (i + 1))), (3, vI (nI (lf + 1))), (4, vI (nI V)), (0, vR (some m)), (1, vI (nI q)), (2, vI (nI p))], [], sI (sI τ 790000 (A 28) (8 * q + lf) (τ.1 790000 (A 28) (8 * q + i))) 800000 (A 29) (8 * q + lf) (τ.1 800000 (A 29) (8 * q + i)), cs, sl)
        exact ih (i + 1) (by omega) (sI (sI τ 790000 (A 28) (8 * q + lf) (τ.1 790000 (A 28) (8 * q + i))) 800000 (A 29) (8 * q + lf) (τ.1 800000 (A 29) (8 * q + i))) (lf + 1) (hM) (⟨w, ((rII (by decide)).trans (rII (by decide))).trans hw, by omega⟩) (by omega) (fun j j1 j2 => by rw [rII (by decide), rIx (by omega)]; exact hnn j (by omega) j2) (fun τ' lf' e9 q90 => K τ' lf' (by rw [itF_succ, ← (show ((sI (sI τ 790000 (A 28) (8 * q + lf) (τ.1 790000 (A 28) (8 * q + i))) 800000 (A 29) (8 * q + lf) (τ.1 800000 (A 29) (8 * q + i)), lf + 1) : Sg × Nat) = (tlF A q p) i (τ, lf) from tlF_b c2 c3)]; exact e9) q90)
      · refine w_run 7 (S' := (79, [(7, vI (τ.1 800000 (A 29) (8 * q + i))), (6, vI (τ.1 790000 (A 28) (8 * q + i))), (5, vI (nI i)), (3, vI (nI lf)), (4, vI (nI V)), (0, vR (some m)), (1, vI (nI q)), (2, vI (nI p))], [vI (τ.1 800000 (A 29) (8 * q + i)), vI (-1), vI (-1), vI (-1), vI 4, vI (nI q), vR (some m)], τ, cs, sl)) rfl ?_
        refine w_callV (st := []) [vI (nI q), vI 4, vI (-1), vI (-1), vI (-1), vI (τ.1 800000 (A 29) (8 * q + i))] rfl ml_10_119 rfl rfl hM.1 rfl rfl rfl (by simp only [RM]; omega) (by simp only [RM]; show 8 + (8 + 11) + _ ≤ _; omega) rfl (by simp only [RM]; omega) (by simp only [RM]; omega) (c_mo_comes l E (d - 1) τ m A q w 4 (-1) (-1) (-1) (τ.1 800000 (A 29) (8 * q + i)) hM hq hw (by omega) (fun h9 => absurd (by decide) h9)) (fun _ _ h => h.elim) ?_
        intro r9 s9 q9
        rw [q9.1, q9.2]
        clear q9 r9 s9
        show WG _ _ _ _ _ _ _ (82, [(7, vI (τ.1 800000 (A 29) (8 * q + i))), (6, vI (τ.1 790000 (A 28) (8 * q + i))), (5, vI (nI i)), (3, vI (nI lf)), (4, vI (nI V)), (0, vR (some m)), (1, vI (nI q)), (2, vI (nI p))], [], cmS τ A q w 4 (-1) (-1) (-1) (τ.1 800000 (A 29) (8 * q + i)), cs, sl)
        refine w_run 3 (S' := (13, [(5, vI ((nI i) + 1)), (7, vI (τ.1 800000 (A 29) (8 * q + i))), (6, vI (τ.1 790000 (A 28) (8 * q + i))), (3, vI (nI lf)), (4, vI (nI V)), (0, vR (some m)), (1, vI (nI q)), (2, vI (nI p))], [], cmS τ A q w 4 (-1) (-1) (-1) (τ.1 800000 (A 29) (8 * q + i)), cs, sl)) rfl ?_
        rw [show ((nI i) + 1 : Int32) = nI (i + 1) from by simp only [nl0, nl1, nl2, nl3, nl4, nl5, nl6, nl8, nl9, nl10, nl12, nl15, nl16, nl20, nl24, nl32, nl40, nl64, nl65, nl384, pk_mul, nI_add]]
        show WG _ _ _ _ _ _ _ (13, [(5, vI (nI (i + 1))), (7, vI (τ.1 800000 (A 29) (8 * q + i))), (6, vI (τ.1 790000 (A 28) (8 * q + i))), (3, vI (nI lf)), (4, vI (nI V)), (0, vR (some m)), (1, vI (nI q)), (2, vI (nI p))], [], cmS τ A q w 4 (-1) (-1) (-1) (τ.1 800000 (A 29) (8 * q + i)), cs, sl)
        refine w_lsP [0, 3, 4, 5, 6, 7] ?_
        show WG _ _ _ _ _ _ _ (13, [(5, vI (nI (i + 1))), (3, vI (nI lf)), (4, vI (nI V)), (0, vR (some m)), (1, vI (nI q)), (2, vI (nI p))], [], cmS τ A q w 4 (-1) (-1) (-1) (τ.1 800000 (A 29) (8 * q + i)), cs, sl)
        exact ih (i + 1) (by omega) (cmS τ A q w 4 (-1) (-1) (-1) (τ.1 800000 (A 29) (8 * q + i))) lf (hM) (⟨w + 1, cm_n, by omega⟩) (by omega) (fun j j1 j2 => by rw [cm_w (by decide) (by decide)]; exact hnn j (by omega) j2) (fun τ' lf' e9 q90 => K τ' lf' (by rw [itF_succ, ← (show ((cmS τ A q w 4 (-1) (-1) (-1) (τ.1 800000 (A 29) (8 * q + i)), lf) : Sg × Nat) = (tlF A q p) i (τ, lf) from tlF_a c2 c3 hw (by omega))]; exact e9) q90)
set_option maxRecDepth 20000 in
set_option maxHeartbeats 4000000 in
theorem c_mo_tell (l : Launch) (E : FE) (d : Nat) (σ : Sg) (m : Nat) (A : Nat → Nat) (q p W V : Nat) (hd : 2 ≤ d) (hM : MO σ m A) (hq : q < 4) (hp : p < 4) (hV8 : V ≤ 8) (hWV : W + V ≤ 64) (hW : σ.1 720000 (A 21) q = nI W) (hV : σ.1 780000 (A 27) q = nI V) (hnn : ∀ j, j < V → ¬ σ.1 790000 (A 28) (8 * q + j) < 0) : CT l E d 81 [vR (some m), vI (nI q), vI (nI p)] σ 0 0 (fun r σ' => r = none ∧ σ' = sI (itF (tlF A q p) V 0 (σ, 0)).1 780000 (A 27) q (nI (itF (tlF A q p) V 0 (σ, 0)).2)) (fun _ _ => False) := by
  refine CTo ok_mo_tell (by decide +kernel) rfl rfl rfl ?_
  refine w_run 3 (S' := (3, [(3, vI 0), (0, vR (some m)), (1, vI (nI q)), (2, vI (nI p))], [vR (some m)], σ, 0, 0)) rfl ?_
  refine w_get (k := 50) (vR (σ.2.1 503078 m 0)) rfl rfl rfl hM.1 rfl rfl ?_
  refine w_run 1 (S' := (7, [(3, vI 0), (0, vR (some m)), (1, vI (nI q)), (2, vI (nI p))], [vI (nI q), vR (σ.2.1 503078 m 0)], σ, 0, 0)) rfl ?_
  refine w_iald (k := 78) rfl ((hM.2 27 (by decide)).1) ((hM.2 27 (by decide)).2) rfl (show vp_in (nI q) 4 from vp_in_nI (n := q) (by omega) (by decide)) ?_
  show WG _ _ _ _ _ _ _ (8, [(3, vI 0), (0, vR (some m)), (1, vI (nI q)), (2, vI (nI p))], [vI (σ.1 780000 (A 27) (nI q).toNatClampNeg)], σ, 0, 0)
  rw [show (nI q : Int32).toNatClampNeg = q from nI_clamp (n := q) (by omega)]
  show WG _ _ _ _ _ _ _ (8, [(3, vI 0), (0, vR (some m)), (1, vI (nI q)), (2, vI (nI p))], [vI (σ.1 780000 (A 27) q)], σ, 0, 0)
  refine Eq.mp (congrArg (fun x9 => WG _ _ _ _ _ _ _ (8, [(3, vI 0), (0, vR (some m)), (1, vI (nI q)), (2, vI (nI p))], [vI x9], σ, 0, 0)) (hV.symm : nI V = σ.1 780000 (A 27) q)) ?_
  show WG _ _ _ _ _ _ _ (8, [(3, vI 0), (0, vR (some m)), (1, vI (nI q)), (2, vI (nI p))], [vI (nI V)], σ, 0, 0)
  refine w_run 3 (S' := (13, [(5, vI 0), (4, vI (nI V)), (3, vI 0), (0, vR (some m)), (1, vI (nI q)), (2, vI (nI p))], [], σ, 0, 0)) rfl ?_
  refine w_lsP [0, 2, 1, 3, 4, 5] ?_
  show WG _ _ _ _ _ _ _ (13, [(5, vI 0), (3, vI 0), (4, vI (nI V)), (0, vR (some m)), (1, vI (nI q)), (2, vI (nI p))], [], σ, 0, 0)
  refine lk_mo_tell l E d σ m A q p W V hd hq hp hV8 hWV (Nat.le_refl _) (Nat.le_refl _) V 0 (by omega) σ 0 hM ⟨W, hW, by omega⟩ (Nat.le_refl _) (fun j _ j2 => hnn j j2) (fun τ1 lf ek1 hM1 => ?_)
  show WG _ _ _ _ _ _ _ (120, [(3, vI (nI lf)), (4, vI (nI V)), (0, vR (some m)), (1, vI (nI q)), (2, vI (nI p))], [], τ1, 0, 0)
  refine w_run 1 (S' := (121, [(3, vI (nI lf)), (4, vI (nI V)), (0, vR (some m)), (1, vI (nI q)), (2, vI (nI p))], [vR (some m)], τ1, 0, 0)) rfl ?_
  refine w_get (k := 50) (vR (τ1.2.1 503078 m 0)) rfl rfl rfl hM1.1 rfl rfl ?_
  refine w_run 2 (S' := (126, [(3, vI (nI lf)), (4, vI (nI V)), (0, vR (some m)), (1, vI (nI q)), (2, vI (nI p))], [vI (nI lf), vI (nI q), vR (τ1.2.1 503078 m 0)], τ1, 0, 0)) rfl ?_
  refine w_iast (k := 78) rfl ((hM1.2 27 (by decide)).1) ((hM1.2 27 (by decide)).2) rfl (show vp_in (nI q) 4 from vp_in_nI (n := q) (by omega) (by decide)) ?_
  show WG _ _ _ _ _ _ _ (127, [(3, vI (nI lf)), (4, vI (nI V)), (0, vR (some m)), (1, vI (nI q)), (2, vI (nI p))], [], sI τ1 780000 (A 27) ((nI q).toNatClampNeg) (nI lf), 0, 0)
  rw [show (nI q : Int32).toNatClampNeg = q from nI_clamp (n := q) (by omega)]
  exact w_vret rfl rfl (by omega) (by omega) (⟨rfl, by rw [← ek1]⟩)

