/-! receiveItems -/
/-- what receiving an item leaves -/
def GI (σ τ : Sg) : Prop := WF τ ∧ τ.2.2 = σ.2.2 ∧ (∀ c x i, c ∉ [310000, 320000, 130000, 80300] → τ.1 c x i = σ.1 c x i) ∧ (∀ c x i, c ∉ [120003, 330003] → τ.2.1 c x i = σ.2.1 c x i)
theorem GI.sh {σ τ : Sg} {P : Nat → Nat} (h : GI σ τ) (hP : SHp σ P) : SHp τ P := by
  refine ⟨by rw [h.2.1]; exact hP.1, fun j hj => ?_⟩
  have e : ∀ j, j < 14 → (shc j).1 ∉ [120003, 330003] := by decide
  rw [h.2.2.2 _ _ _ (e j hj)]; exact hP.2 j hj
def riF (D : Nat → Nat → Nat) (q dv dn a1 a2 a3 : Nat) : Nat → Sg → Sg := fun i τ => match τ.2.1 180003 dn i with
  | none => sI (sI τ 310000 a1 i 0) 320000 a2 i (τ.1 170000 dv i)
  | some n => if ownF τ (D q 0) n = 0 then sO (sI (sI (giveF τ (D q 2) (D q 3) (D q 4) n).2 310000 a1 i 2) 320000 a2 i (giveF τ (D q 2) (D q 3) (D q 4) n).1) 330003 a3 i (some n) else sI (sI τ 310000 a1 i 1) 320000 a2 i (τ.1 30100 n 0)
theorem giveF_GI {σ τ : Sg} {h a1 a2 b : Nat} (k : GI σ τ) (hb : τ.2.2.2 b = 3) : GI σ (giveF τ h a1 a2 b).2 := by
  obtain ⟨k1, k2, k3, k4⟩ := k
  unfold giveF
  split
  · split
    · exact ⟨k1, k2, k3, k4⟩
    · refine ⟨WF.i (WF.i (WF.oS k1 (fun _ => hb))), k2, fun c x i hc => ?_, fun c x i hc => ?_⟩
      · have hc2 := hc
        simp only [List.mem_cons, List.not_mem_nil, or_false, not_or] at hc2
        show (sI (sI (sO _ _ _ _ _) _ _ _ _) _ _ _ _).1 c x i = _
        rw [rII hc2.2.2.1, rII hc2.2.2.2]; exact k3 c x i hc
      · have hc2 := hc
        simp only [List.mem_cons, List.not_mem_nil, or_false, not_or] at hc2
        show (sO _ _ _ _ _).2.1 c x i = _
        rw [rOO hc2.1]; exact k4 c x i hc
  · refine ⟨WF.i k1, k2, fun c x i hc => ?_, k4⟩
    have hc2 := hc
    simp only [List.mem_cons, List.not_mem_nil, or_false, not_or] at hc2
    show (sI _ _ _ _ _).1 c x i = _
    rw [rII hc2.2.2.1]; exact k3 c x i hc
theorem GI.i {σ τ : Sg} {c a x : Nat} {v : Int32} (k : GI σ τ) (hc : c ∈ [310000, 320000, 130000, 80300]) : GI σ (sI τ c a x v) :=
  ⟨WF.i k.1, k.2.1, fun c' x' i' h => by rw [rII (show c' ≠ c from fun e => h (e ▸ hc))]; exact k.2.2.1 c' x' i' h, k.2.2.2⟩
theorem GI.oS {σ τ : Sg} {c a x b : Nat} (k : GI σ τ) (hb : τ.2.2.2 b = c % 100) (hc : c ∈ [120003, 330003]) : GI σ (sO τ c a x (some b)) :=
  ⟨WF.oS k.1 (fun _ => hb), k.2.1, k.2.2.1, fun c' x' i' h => by rw [rOO (show c' ≠ c from fun e => h (e ▸ hc))]; exact k.2.2.2 c' x' i' h⟩
theorem GI.len {σ τ : Sg} {a3 it i : Nat} (h : GI σ τ) (hl : σ.1 339900 a3 0 = nI it) (hi4 : it ≤ 4) (hi : i < it) : vp_in (nI i) (lenK 33 τ a3 none) := by
  rw [show lenK 33 τ a3 none = it from by show (τ.1 339900 a3 0).toNatClampNeg = it; rw [h.2.2.1 339900 a3 0 (by decide), hl, nI_clamp (by omega)]]
  exact vp_in_nI (by omega) (by omega)
theorem riF_a {D : Nat → Nat → Nat} {q dv dn a1 a2 a3 i : Nat} {τ : Sg} (h : τ.2.1 180003 dn i = none) : sI (sI τ 310000 a1 i 0) 320000 a2 i (τ.1 170000 dv i) = riF D q dv dn a1 a2 a3 i τ := by unfold riF; rw [h]
theorem riF_b {D : Nat → Nat → Nat} {q dv dn a1 a2 a3 i n : Nat} {τ : Sg} (h : τ.2.1 180003 dn i = some n) (h2 : ownF τ (D q 0) n = 0) : sO (sI (sI (giveF τ (D q 2) (D q 3) (D q 4) n).2 310000 a1 i 2) 320000 a2 i (giveF τ (D q 2) (D q 3) (D q 4) n).1) 330003 a3 i (τ.2.1 180003 dn i) = riF D q dv dn a1 a2 a3 i τ := by unfold riF; rw [h]; exact (if_pos h2).symm
theorem riF_c {D : Nat → Nat → Nat} {q dv dn a1 a2 a3 i n : Nat} {τ : Sg} (h : τ.2.1 180003 dn i = some n) (h2 : ¬ ownF τ (D q 0) n = 0) : sI (sI τ 310000 a1 i 1) 320000 a2 i (τ.1 30100 n 0) = riF D q dv dn a1 a2 a3 i τ := by unfold riF; rw [h]; exact (if_neg h2).symm
set_option maxRecDepth 20000 in
set_option maxHeartbeats 4000000 in
theorem lk_pr_ri (l : Launch) (E : FE) (d : Nat) (σ : Sg) (D : Nat → Nat → Nat) (q s dv dn m a1 a2 a3 it : Nat) (hd : 4 ≤ d) (hP : SHp σ (D q)) (hs4 : σ.2.2.2 s = 4) (hdv : σ.2.1 40117 s 0 = some dv) (hdn : σ.2.1 40218 s 0 = some dn) (hm6 : σ.2.2.2 m = 6) (hit : σ.1 60500 m 0 = nI it) (hi4 : it ≤ 4) (hm1 : σ.2.1 60631 m 0 = some a1) (hm2 : σ.2.1 60732 m 0 = some a2) (hm3 : σ.2.1 60833 m 0 = some a3) (hl1 : σ.1 319900 a1 0 = nI it) (hl2 : σ.1 329900 a2 0 = nI it) (hl3 : σ.1 339900 a3 0 = nI it) {mc ms cs sl : Nat} {args : Array Value} {XX : State → Prop} {QF : State → List Frame → State → Prop} (hcs : cs ≤ mc) (hsl : sl ≤ ms) : ∀ (k i : Nat), i + k = it → ∀ (τ : Sg), (GI σ τ) → (∀ (τ' : Sg), τ' = itF (riF D q dv dn a1 a2 a3) k i τ → (GI σ τ') → WG l E (RM d mc ms) 38 args XX QF (90, [(0, vR (some (D q 0))), (1, vR (some s)), (2, vR (some m))], [], τ', cs, sl)) →
    WG l E (RM d mc ms) 38 args XX QF (2, [(3, vI (nI i)), (0, vR (some (D q 0))), (1, vR (some s)), (2, vR (some m))], [], τ, cs, sl) := by
  intro k
  induction k with
  | zero =>
    intro i hi τ hF K
    refine w_run 2 (S' := (4, [(3, vI (nI i)), (0, vR (some (D q 0))), (1, vR (some s)), (2, vR (some m))], [vR (some m), vI (nI i)], τ, cs, sl)) rfl ?_
    refine w_get (k := 6) (vI (τ.1 60500 m 0)) rfl rfl rfl (show τ.2.2.2 m = 6 by rw [hF.2.1]; exact hm6) rfl rfl ?_
    refine Eq.mp (congrArg (fun x9 => WG _ _ _ _ _ _ _ (7, [(3, vI (nI i)), (0, vR (some (D q 0))), (1, vR (some s)), (2, vR (some m))], [vI x9, vI (nI i)], τ, cs, sl)) ((((hF.2.2.1 60500 m 0 (by decide)).trans hit)).symm : nI it = τ.1 60500 m 0)) ?_
    show WG _ _ _ _ _ _ _ (7, [(3, vI (nI i)), (0, vR (some (D q 0))), (1, vR (some s)), (2, vR (some m))], [vI (nI it), vI (nI i)], τ, cs, sl)
    refine w_ic_ge rfl (fun c1 => ?_) (fun c1 => (absurd ((nI_leI (a := it) (b := i) (by omega) (by omega)).mpr (by omega)) c1))
    have nc1 := (nI_leI (a := it) (b := i) (by omega) (by omega)).mp c1
    refine w_lsP [1, 2, 3] ?_
    show WG _ _ _ _ _ _ _ (90, [(0, vR (some (D q 0))), (1, vR (some s)), (2, vR (some m))], [], τ, cs, sl)
    exact K τ rfl hF
  | succ k ih =>
    intro i hi τ hF K
    refine w_run 2 (S' := (4, [(3, vI (nI i)), (0, vR (some (D q 0))), (1, vR (some s)), (2, vR (some m))], [vR (some m), vI (nI i)], τ, cs, sl)) rfl ?_
    refine w_get (k := 6) (vI (τ.1 60500 m 0)) rfl rfl rfl (show τ.2.2.2 m = 6 by rw [hF.2.1]; exact hm6) rfl rfl ?_
    refine Eq.mp (congrArg (fun x9 => WG _ _ _ _ _ _ _ (7, [(3, vI (nI i)), (0, vR (some (D q 0))), (1, vR (some s)), (2, vR (some m))], [vI x9, vI (nI i)], τ, cs, sl)) ((((hF.2.2.1 60500 m 0 (by decide)).trans hit)).symm : nI it = τ.1 60500 m 0)) ?_
    show WG _ _ _ _ _ _ _ (7, [(3, vI (nI i)), (0, vR (some (D q 0))), (1, vR (some s)), (2, vR (some m))], [vI (nI it), vI (nI i)], τ, cs, sl)
    refine w_ic_ge rfl (fun c1 => (absurd ((nI_leI (a := it) (b := i) (by omega) (by omega)).mp c1) (by omega))) (fun c1 => ?_)
    have nc1 := mt (nI_leI (a := it) (b := i) (by omega) (by omega)).mpr c1
    refine w_run 1 (S' := (11, [(3, vI (nI i)), (0, vR (some (D q 0))), (1, vR (some s)), (2, vR (some m))], [vR (some s)], τ, cs, sl)) rfl ?_
    refine w_get (k := 4) (vR (τ.2.1 40218 s 0)) rfl rfl rfl (show τ.2.2.2 s = 4 by rw [hF.2.1]; exact hs4) rfl rfl ?_
    refine w_run 1 (S' := (15, [(3, vI (nI i)), (0, vR (some (D q 0))), (1, vR (some s)), (2, vR (some m))], [vI (nI i), vR (τ.2.1 40218 s 0)], τ, cs, sl)) rfl ?_
    refine w_aald (k := 18) rfl ((hF.2.2.2 40218 s 0 (by decide)).trans hdn) (hF.1 40218 s 0 dn ((hF.2.2.2 40218 s 0 (by decide)).trans hdn) (by decide)) rfl rfl (show vp_in (nI i) 4 from vp_in_nI (n := i) (by omega) (by decide)) ?_
    show WG _ _ _ _ _ _ _ (16, [(3, vI (nI i)), (0, vR (some (D q 0))), (1, vR (some s)), (2, vR (some m))], [vR (τ.2.1 180003 dn (nI i).toNatClampNeg)], τ, cs, sl)
    rw [show (nI i : Int32).toNatClampNeg = i from nI_clamp (n := i) (by omega)]
    show WG _ _ _ _ _ _ _ (16, [(3, vI (nI i)), (0, vR (some (D q 0))), (1, vR (some s)), (2, vR (some m))], [vR (τ.2.1 180003 dn i)], τ, cs, sl)
    refine w_run 2 (S' := (20, [(4, vR (τ.2.1 180003 dn i)), (3, vI (nI i)), (0, vR (some (D q 0))), (1, vR (some s)), (2, vR (some m))], [vR (τ.2.1 180003 dn i)], τ, cs, sl)) rfl ?_
    refine w_nonnull rfl (fun b3 c2 => ?_) (fun c2 => ?_)
    · refine w_run 2 (S' := (41, [(4, vR (τ.2.1 180003 dn i)), (3, vI (nI i)), (0, vR (some (D q 0))), (1, vR (some s)), (2, vR (some m))], [vR (τ.2.1 180003 dn i), vR (some (D q 0))], τ, cs, sl)) rfl ?_
      refine Eq.mp (congrArg (fun x9 => WG _ _ _ _ _ _ _ (41, [(4, vR (τ.2.1 180003 dn i)), (3, vI (nI i)), (0, vR (some (D q 0))), (1, vR (some s)), (2, vR (some m))], [vR x9, vR (some (D q 0))], τ, cs, sl)) (Eq.symm c2 : some b3 = τ.2.1 180003 dn i)) ?_
      show WG _ _ _ _ _ _ _ (41, [(4, vR (τ.2.1 180003 dn i)), (3, vI (nI i)), (0, vR (some (D q 0))), (1, vR (some s)), (2, vR (some m))], [vR (some b3), vR (some (D q 0))], τ, cs, sl)
      refine w_callV (st := []) [vR (some b3)] rfl ml_1_109 rfl rfl ((hF.sh hP).1) rfl rfl rfl (by simp only [RM]; omega) (by simp only [RM]; show 8 + (2 + 11) + _ ≤ _; omega) rfl (by simp only [RM]; omega) (by simp only [RM]; omega) (c_pr_owns l E (d - 1) τ (D q 0) b3 (hF.sh hP).1 (hF.1 180003 dn i b3 c2 (by decide))) (fun _ _ h => h.elim) ?_
      intro r9 s9 q9
      rw [q9.1, q9.2]
      clear q9 r9 s9
      show WG _ _ _ _ _ _ _ (44, [(4, vR (τ.2.1 180003 dn i)), (3, vI (nI i)), (0, vR (some (D q 0))), (1, vR (some s)), (2, vR (some m))], [vI (ownF τ (D q 0) b3)], τ, cs, sl)
      refine w_if_eq rfl (fun c4 => ?_) (fun c4 => ?_)
      · refine w_run 4 (S' := (65, [(4, vR (τ.2.1 180003 dn i)), (3, vI (nI i)), (0, vR (some (D q 0))), (1, vR (some s)), (2, vR (some m))], [vR (some (D q 0)), vI 2, vI (nI i), vR (some m)], τ, cs, sl)) rfl ?_
        refine w_get (k := 2) (vR (τ.2.1 20208 (D q 0) 0)) rfl rfl rfl ((hF.sh hP).1) rfl rfl ?_
        refine w_run 1 (S' := (70, [(4, vR (τ.2.1 180003 dn i)), (3, vI (nI i)), (0, vR (some (D q 0))), (1, vR (some s)), (2, vR (some m))], [vR (τ.2.1 180003 dn i), vR (τ.2.1 20208 (D q 0) 0), vI 2, vI (nI i), vR (some m)], τ, cs, sl)) rfl ?_
        refine Eq.mp (congrArg (fun x9 => WG _ _ _ _ _ _ _ (70, [(4, vR (τ.2.1 180003 dn i)), (3, vI (nI i)), (0, vR (some (D q 0))), (1, vR (some s)), (2, vR (some m))], [vR x9, vR (τ.2.1 20208 (D q 0) 0), vI 2, vI (nI i), vR (some m)], τ, cs, sl)) (Eq.symm c2 : some b3 = τ.2.1 180003 dn i)) ?_
        show WG _ _ _ _ _ _ _ (70, [(4, vR (τ.2.1 180003 dn i)), (3, vI (nI i)), (0, vR (some (D q 0))), (1, vR (some s)), (2, vR (some m))], [vR (some b3), vR (τ.2.1 20208 (D q 0) 0), vI 2, vI (nI i), vR (some m)], τ, cs, sl)
        refine Eq.mp (congrArg (fun x9 => WG _ _ _ _ _ _ _ (70, [(4, vR (τ.2.1 180003 dn i)), (3, vI (nI i)), (0, vR (some (D q 0))), (1, vR (some s)), (2, vR (some m))], [vR (some b3), vR x9, vI 2, vI (nI i), vR (some m)], τ, cs, sl)) (Eq.symm ((hF.sh hP).2 1 (by decide)) : some (D q 2) = τ.2.1 20208 (D q 0) 0)) ?_
        show WG _ _ _ _ _ _ _ (70, [(4, vR (τ.2.1 180003 dn i)), (3, vI (nI i)), (0, vR (some (D q 0))), (1, vR (some s)), (2, vR (some m))], [vR (some b3), vR (some (D q 2)), vI 2, vI (nI i), vR (some m)], τ, cs, sl)
        refine w_callV (st := [vI 2, vI (nI i), vR (some m)]) [vR (some b3)] rfl ml_1_133 rfl rfl (hF.1 20208 (D q 0) 0 (D q 2) ((hF.sh hP).2 1 (by decide)) (by decide)) rfl rfl rfl (by simp only [RM]; omega) (by simp only [RM]; show 8 + (3 + 11) + _ ≤ _; omega) rfl (by simp only [RM]; omega) (by simp only [RM]; omega) (c_hs_giveStrong l E (d - 1) τ (D q 2) (D q 3) (D q 4) b3 0 (by omega) ((hF.1 20208 (D q 0) 0 (D q 2) ((hF.sh hP).2 1 (by decide)) (by decide))) ((hF.sh hP).2 7 (by decide)) ((hF.sh hP).2 8 (by decide)) hF.1 (hF.1 180003 dn i b3 c2 (by decide))) (fun _ _ h => h.elim) ?_
        intro r9 s9 q9
        rw [q9.1, q9.2]
        clear q9 r9 s9
        have hG : GI σ (giveF τ (D q 2) (D q 3) (D q 4) b3).2 := giveF_GI hF (hF.1 180003 dn i b3 c2 (by decide))
        show WG _ _ _ _ _ _ _ (73, [(4, vR (τ.2.1 180003 dn i)), (3, vI (nI i)), (0, vR (some (D q 0))), (1, vR (some s)), (2, vR (some m))], [vI ((giveF τ (D q 2) (D q 3) (D q 4) b3).1), vI 2, vI (nI i), vR (some m)], (giveF τ (D q 2) (D q 3) (D q 4) b3).2, cs, sl)
        refine w_callV (st := []) [vI (nI i), vI 2, vI ((giveF τ (D q 2) (D q 3) (D q 4) b3).1)] rfl ml_1_126 rfl rfl (show (giveF τ (D q 2) (D q 3) (D q 4) b3).2.2.2.2 m = 6 by rw [hG.2.1]; exact hm6) rfl rfl rfl (by simp only [RM]; omega) (by simp only [RM]; show 8 + (4 + 11) + _ ≤ _; omega) rfl (by simp only [RM]; omega) (by simp only [RM]; omega) (c_ms_setItem l E (d - 1) ((giveF τ (D q 2) (D q 3) (D q 4) b3).2) m a1 a2 (nI i) 2 ((giveF τ (D q 2) (D q 3) (D q 4) b3).1) (show ((giveF τ (D q 2) (D q 3) (D q 4) b3).2).2.2.2 m = 6 by rw [hG.2.1]; exact hm6) ((hG.2.2.2 60631 m 0 (by decide)).trans hm1) ((hG.2.2.2 60732 m 0 (by decide)).trans hm2) (show vp_in (nI i) (lenK 31 ((giveF τ (D q 2) (D q 3) (D q 4) b3).2) a1 none) from by rw [show lenK 31 ((giveF τ (D q 2) (D q 3) (D q 4) b3).2) a1 none = it from by show (((giveF τ (D q 2) (D q 3) (D q 4) b3).2).1 319900 a1 0).toNatClampNeg = it; rw [hG.2.2.1 319900 a1 0 (by decide), hl1, nI_clamp (by omega)]]; exact vp_in_nI (by omega) (by omega)) (show vp_in (nI i) (lenK 32 ((giveF τ (D q 2) (D q 3) (D q 4) b3).2) a2 none) from by rw [show lenK 32 ((giveF τ (D q 2) (D q 3) (D q 4) b3).2) a2 none = it from by show (((giveF τ (D q 2) (D q 3) (D q 4) b3).2).1 329900 a2 0).toNatClampNeg = it; rw [hG.2.2.1 329900 a2 0 (by decide), hl2, nI_clamp (by omega)]]; exact vp_in_nI (by omega) (by omega)) hG.1) (fun _ _ h => h.elim) ?_
        intro r9 s9 q9
        obtain ⟨e1, e2⟩ := q9
        subst e1
        rw [show (nI i).toNatClampNeg = i from nI_clamp (by omega)] at e2
        subst e2
        have hH : GI σ (sI (sI ((giveF τ (D q 2) (D q 3) (D q 4) b3).2) 310000 a1 i 2) 320000 a2 i ((giveF τ (D q 2) (D q 3) (D q 4) b3).1)) := (hG.i (by decide)).i (by decide)
        show WG _ _ _ _ _ _ _ (76, [(4, vR (τ.2.1 180003 dn i)), (3, vI (nI i)), (0, vR (some (D q 0))), (1, vR (some s)), (2, vR (some m))], [], sI (sI ((giveF τ (D q 2) (D q 3) (D q 4) b3).2) 310000 a1 i 2) 320000 a2 i ((giveF τ (D q 2) (D q 3) (D q 4) b3).1), cs, sl)
        refine w_run 1 (S' := (77, [(4, vR (τ.2.1 180003 dn i)), (3, vI (nI i)), (0, vR (some (D q 0))), (1, vR (some s)), (2, vR (some m))], [vR (some m)], sI (sI ((giveF τ (D q 2) (D q 3) (D q 4) b3).2) 310000 a1 i 2) 320000 a2 i ((giveF τ (D q 2) (D q 3) (D q 4) b3).1), cs, sl)) rfl ?_
        refine w_get (k := 6) (vR ((sI (sI ((giveF τ (D q 2) (D q 3) (D q 4) b3).2) 310000 a1 i 2) 320000 a2 i ((giveF τ (D q 2) (D q 3) (D q 4) b3).1)).2.1 60833 m 0)) rfl rfl rfl (show (sI (sI ((giveF τ (D q 2) (D q 3) (D q 4) b3).2) 310000 a1 i 2) 320000 a2 i ((giveF τ (D q 2) (D q 3) (D q 4) b3).1)).2.2.2 m = 6 by rw [hH.2.1]; exact hm6) rfl rfl ?_
        refine w_run 2 (S' := (83, [(4, vR (τ.2.1 180003 dn i)), (3, vI (nI i)), (0, vR (some (D q 0))), (1, vR (some s)), (2, vR (some m))], [vR (τ.2.1 180003 dn i), vI (nI i), vR ((sI (sI ((giveF τ (D q 2) (D q 3) (D q 4) b3).2) 310000 a1 i 2) 320000 a2 i ((giveF τ (D q 2) (D q 3) (D q 4) b3).1)).2.1 60833 m 0)], sI (sI ((giveF τ (D q 2) (D q 3) (D q 4) b3).2) 310000 a1 i 2) 320000 a2 i ((giveF τ (D q 2) (D q 3) (D q 4) b3).1), cs, sl)) rfl ?_
        refine w_aast (k := 33) rfl ((hH.2.2.2 60833 m 0 (by decide)).trans hm3) (hH.1 60833 m 0 a3 ((hH.2.2.2 60833 m 0 (by decide)).trans hm3) (by decide)) rfl (by decide) c2 (show (sI (sI ((giveF τ (D q 2) (D q 3) (D q 4) b3).2) 310000 a1 i 2) 320000 a2 i ((giveF τ (D q 2) (D q 3) (D q 4) b3).1)).2.2.2 b3 = 3 by rw [hH.2.1, ← hF.2.1]; exact hF.1 180003 dn i b3 c2 (by decide)) rfl rfl rfl (hH.len hl3 hi4 (by omega)) ?_
        show WG _ _ _ _ _ _ _ (84, [(4, vR (τ.2.1 180003 dn i)), (3, vI (nI i)), (0, vR (some (D q 0))), (1, vR (some s)), (2, vR (some m))], [], sO (sI (sI ((giveF τ (D q 2) (D q 3) (D q 4) b3).2) 310000 a1 i 2) 320000 a2 i ((giveF τ (D q 2) (D q 3) (D q 4) b3).1)) 330003 a3 ((nI i).toNatClampNeg) (τ.2.1 180003 dn i), cs, sl)
        rw [show (nI i : Int32).toNatClampNeg = i from nI_clamp (n := i) (by omega)]
        refine w_run 2 (S' := (2, [(3, vI ((nI i) + 1)), (4, vR (τ.2.1 180003 dn i)), (0, vR (some (D q 0))), (1, vR (some s)), (2, vR (some m))], [], sO (sI (sI ((giveF τ (D q 2) (D q 3) (D q 4) b3).2) 310000 a1 i 2) 320000 a2 i ((giveF τ (D q 2) (D q 3) (D q 4) b3).1)) 330003 a3 i (τ.2.1 180003 dn i), cs, sl)) rfl ?_
        rw [show ((nI i) + 1 : Int32) = nI (i + 1) from by simp only [nl0, nl1, nl2, nl3, nl4, nl5, nl6, nl8, nl9, nl10, nl12, nl15, nl16, nl20, nl24, nl32, nl40, nl64, nl65, nl384, pk_mul, nI_add]]
        show WG _ _ _ _ _ _ _ (2, [(3, vI (nI (i + 1))), (4, vR (τ.2.1 180003 dn i)), (0, vR (some (D q 0))), (1, vR (some s)), (2, vR (some m))], [], sO (sI (sI ((giveF τ (D q 2) (D q 3) (D q 4) b3).2) 310000 a1 i 2) 320000 a2 i ((giveF τ (D q 2) (D q 3) (D q 4) b3).1)) 330003 a3 i (τ.2.1 180003 dn i), cs, sl)
        refine w_lsP [0, 2, 3, 4] ?_
        show WG _ _ _ _ _ _ _ (2, [(3, vI (nI (i + 1))), (0, vR (some (D q 0))), (1, vR (some s)), (2, vR (some m))], [], sO (sI (sI ((giveF τ (D q 2) (D q 3) (D q 4) b3).2) 310000 a1 i 2) 320000 a2 i ((giveF τ (D q 2) (D q 3) (D q 4) b3).1)) 330003 a3 i (τ.2.1 180003 dn i), cs, sl)
        exact ih (i + 1) (by omega) (sO (sI (sI ((giveF τ (D q 2) (D q 3) (D q 4) b3).2) 310000 a1 i 2) 320000 a2 i ((giveF τ (D q 2) (D q 3) (D q 4) b3).1)) 330003 a3 i (τ.2.1 180003 dn i)) (by rw [c2]; exact hH.oS (c := 330003) ((show (sI (sI ((giveF τ (D q 2) (D q 3) (D q 4) b3).2) 310000 a1 i 2) 320000 a2 i ((giveF τ (D q 2) (D q 3) (D q 4) b3).1)).2.2.2 b3 = 3 by rw [hH.2.1, ← hF.2.1]; exact hF.1 180003 dn i b3 c2 (by decide))) (by decide)) (fun τ' e9 q90 => K τ' (by rw [itF_succ, ← (show ((sO (sI (sI ((giveF τ (D q 2) (D q 3) (D q 4) b3).2) 310000 a1 i 2) 320000 a2 i ((giveF τ (D q 2) (D q 3) (D q 4) b3).1)) 330003 a3 i (τ.2.1 180003 dn i)) : Sg) = (riF D q dv dn a1 a2 a3) i τ from riF_b c2 c4)]; exact e9) q90)
      · refine w_run 4 (S' := (52, [(4, vR (τ.2.1 180003 dn i)), (3, vI (nI i)), (0, vR (some (D q 0))), (1, vR (some s)), (2, vR (some m))], [vR (τ.2.1 180003 dn i), vI 1, vI (nI i), vR (some m)], τ, cs, sl)) rfl ?_
        refine w_get (k := 3) (vI (τ.1 30100 b3 0)) rfl rfl c2 (hF.1 180003 dn i b3 c2 (by decide)) rfl rfl ?_
        refine w_callV (st := []) [vI (nI i), vI 1, vI (τ.1 30100 b3 0)] rfl ml_1_126 rfl rfl (show τ.2.2.2 m = 6 by rw [hF.2.1]; exact hm6) rfl rfl rfl (by simp only [RM]; omega) (by simp only [RM]; show 8 + (4 + 11) + _ ≤ _; omega) rfl (by simp only [RM]; omega) (by simp only [RM]; omega) (c_ms_setItem l E (d - 1) (τ) m a1 a2 (nI i) 1 (τ.1 30100 b3 0) (show (τ).2.2.2 m = 6 by rw [hF.2.1]; exact hm6) ((hF.2.2.2 60631 m 0 (by decide)).trans hm1) ((hF.2.2.2 60732 m 0 (by decide)).trans hm2) (show vp_in (nI i) (lenK 31 (τ) a1 none) from by rw [show lenK 31 (τ) a1 none = it from by show ((τ).1 319900 a1 0).toNatClampNeg = it; rw [hF.2.2.1 319900 a1 0 (by decide), hl1, nI_clamp (by omega)]]; exact vp_in_nI (by omega) (by omega)) (show vp_in (nI i) (lenK 32 (τ) a2 none) from by rw [show lenK 32 (τ) a2 none = it from by show ((τ).1 329900 a2 0).toNatClampNeg = it; rw [hF.2.2.1 329900 a2 0 (by decide), hl2, nI_clamp (by omega)]]; exact vp_in_nI (by omega) (by omega)) hF.1) (fun _ _ h => h.elim) ?_
        intro r9 s9 q9
        obtain ⟨e1, e2⟩ := q9
        subst e1
        rw [show (nI i).toNatClampNeg = i from nI_clamp (by omega)] at e2
        subst e2
        show WG _ _ _ _ _ _ _ (58, [(4, vR (τ.2.1 180003 dn i)), (3, vI (nI i)), (0, vR (some (D q 0))), (1, vR (some s)), (2, vR (some m))], [], sI (sI τ 310000 a1 i 1) 320000 a2 i (τ.1 30100 b3 0), cs, sl)
        refine w_run 3 (S' := (2, [(3, vI ((nI i) + 1)), (4, vR (τ.2.1 180003 dn i)), (0, vR (some (D q 0))), (1, vR (some s)), (2, vR (some m))], [], sI (sI τ 310000 a1 i 1) 320000 a2 i (τ.1 30100 b3 0), cs, sl)) rfl ?_
        rw [show ((nI i) + 1 : Int32) = nI (i + 1) from by simp only [nl0, nl1, nl2, nl3, nl4, nl5, nl6, nl8, nl9, nl10, nl12, nl15, nl16, nl20, nl24, nl32, nl40, nl64, nl65, nl384, pk_mul, nI_add]]
        show WG _ _ _ _ _ _ _ (2, [(3, vI (nI (i + 1))), (4, vR (τ.2.1 180003 dn i)), (0, vR (some (D q 0))), (1, vR (some s)), (2, vR (some m))], [], sI (sI τ 310000 a1 i 1) 320000 a2 i (τ.1 30100 b3 0), cs, sl)
        refine w_lsP [0, 2, 3, 4] ?_
        show WG _ _ _ _ _ _ _ (2, [(3, vI (nI (i + 1))), (0, vR (some (D q 0))), (1, vR (some s)), (2, vR (some m))], [], sI (sI τ 310000 a1 i 1) 320000 a2 i (τ.1 30100 b3 0), cs, sl)
        exact ih (i + 1) (by omega) (sI (sI τ 310000 a1 i 1) 320000 a2 i (τ.1 30100 b3 0)) ((hF.i (by decide)).i (by decide)) (fun τ' e9 q90 => K τ' (by rw [itF_succ, ← (show ((sI (sI τ 310000 a1 i 1) 320000 a2 i (τ.1 30100 b3 0)) : Sg) = (riF D q dv dn a1 a2 a3) i τ from riF_c c2 c4)]; exact e9) q90)
    · refine w_run 4 (S' := (27, [(4, vR (τ.2.1 180003 dn i)), (3, vI (nI i)), (0, vR (some (D q 0))), (1, vR (some s)), (2, vR (some m))], [vR (some s), vI 0, vI (nI i), vR (some m)], τ, cs, sl)) rfl ?_
      refine w_get (k := 4) (vR (τ.2.1 40117 s 0)) rfl rfl rfl (show τ.2.2.2 s = 4 by rw [hF.2.1]; exact hs4) rfl rfl ?_
      refine w_run 1 (S' := (31, [(4, vR (τ.2.1 180003 dn i)), (3, vI (nI i)), (0, vR (some (D q 0))), (1, vR (some s)), (2, vR (some m))], [vI (nI i), vR (τ.2.1 40117 s 0), vI 0, vI (nI i), vR (some m)], τ, cs, sl)) rfl ?_
      refine w_iald (k := 17) rfl ((hF.2.2.2 40117 s 0 (by decide)).trans hdv) (hF.1 40117 s 0 dv ((hF.2.2.2 40117 s 0 (by decide)).trans hdv) (by decide)) rfl (show vp_in (nI i) 4 from vp_in_nI (n := i) (by omega) (by decide)) ?_
      show WG _ _ _ _ _ _ _ (32, [(4, vR (τ.2.1 180003 dn i)), (3, vI (nI i)), (0, vR (some (D q 0))), (1, vR (some s)), (2, vR (some m))], [vI (τ.1 170000 dv (nI i).toNatClampNeg), vI 0, vI (nI i), vR (some m)], τ, cs, sl)
      rw [show (nI i : Int32).toNatClampNeg = i from nI_clamp (n := i) (by omega)]
      show WG _ _ _ _ _ _ _ (32, [(4, vR (τ.2.1 180003 dn i)), (3, vI (nI i)), (0, vR (some (D q 0))), (1, vR (some s)), (2, vR (some m))], [vI (τ.1 170000 dv i), vI 0, vI (nI i), vR (some m)], τ, cs, sl)
      refine w_callV (st := []) [vI (nI i), vI 0, vI (τ.1 170000 dv i)] rfl ml_1_126 rfl rfl (show τ.2.2.2 m = 6 by rw [hF.2.1]; exact hm6) rfl rfl rfl (by simp only [RM]; omega) (by simp only [RM]; show 8 + (4 + 11) + _ ≤ _; omega) rfl (by simp only [RM]; omega) (by simp only [RM]; omega) (c_ms_setItem l E (d - 1) (τ) m a1 a2 (nI i) 0 (τ.1 170000 dv i) (show (τ).2.2.2 m = 6 by rw [hF.2.1]; exact hm6) ((hF.2.2.2 60631 m 0 (by decide)).trans hm1) ((hF.2.2.2 60732 m 0 (by decide)).trans hm2) (show vp_in (nI i) (lenK 31 (τ) a1 none) from by rw [show lenK 31 (τ) a1 none = it from by show ((τ).1 319900 a1 0).toNatClampNeg = it; rw [hF.2.2.1 319900 a1 0 (by decide), hl1, nI_clamp (by omega)]]; exact vp_in_nI (by omega) (by omega)) (show vp_in (nI i) (lenK 32 (τ) a2 none) from by rw [show lenK 32 (τ) a2 none = it from by show ((τ).1 329900 a2 0).toNatClampNeg = it; rw [hF.2.2.1 329900 a2 0 (by decide), hl2, nI_clamp (by omega)]]; exact vp_in_nI (by omega) (by omega)) hF.1) (fun _ _ h => h.elim) ?_
      intro r9 s9 q9
      obtain ⟨e1, e2⟩ := q9
      subst e1
      rw [show (nI i).toNatClampNeg = i from nI_clamp (by omega)] at e2
      subst e2
      show WG _ _ _ _ _ _ _ (35, [(4, vR (τ.2.1 180003 dn i)), (3, vI (nI i)), (0, vR (some (D q 0))), (1, vR (some s)), (2, vR (some m))], [], sI (sI τ 310000 a1 i 0) 320000 a2 i (τ.1 170000 dv i), cs, sl)
      refine w_run 3 (S' := (2, [(3, vI ((nI i) + 1)), (4, vR (τ.2.1 180003 dn i)), (0, vR (some (D q 0))), (1, vR (some s)), (2, vR (some m))], [], sI (sI τ 310000 a1 i 0) 320000 a2 i (τ.1 170000 dv i), cs, sl)) rfl ?_
      rw [show ((nI i) + 1 : Int32) = nI (i + 1) from by simp only [nl0, nl1, nl2, nl3, nl4, nl5, nl6, nl8, nl9, nl10, nl12, nl15, nl16, nl20, nl24, nl32, nl40, nl64, nl65, nl384, pk_mul, nI_add]]
      show WG _ _ _ _ _ _ _ (2, [(3, vI (nI (i + 1))), (4, vR (τ.2.1 180003 dn i)), (0, vR (some (D q 0))), (1, vR (some s)), (2, vR (some m))], [], sI (sI τ 310000 a1 i 0) 320000 a2 i (τ.1 170000 dv i), cs, sl)
      refine w_lsP [0, 2, 3, 4] ?_
      show WG _ _ _ _ _ _ _ (2, [(3, vI (nI (i + 1))), (0, vR (some (D q 0))), (1, vR (some s)), (2, vR (some m))], [], sI (sI τ 310000 a1 i 0) 320000 a2 i (τ.1 170000 dv i), cs, sl)
      exact ih (i + 1) (by omega) (sI (sI τ 310000 a1 i 0) 320000 a2 i (τ.1 170000 dv i)) ((hF.i (by decide)).i (by decide)) (fun τ' e9 q90 => K τ' (by rw [itF_succ, ← (show ((sI (sI τ 310000 a1 i 0) 320000 a2 i (τ.1 170000 dv i)) : Sg) = (riF D q dv dn a1 a2 a3) i τ from riF_a c2)]; exact e9) q90)
set_option maxHeartbeats 4000000 in
theorem c_pr_receiveItems (l : Launch) (E : FE) (d : Nat) (σ : Sg) (D : Nat → Nat → Nat) (q s dv dn m a1 a2 a3 it : Nat) (hd : 4 ≤ d) (hP : SHp σ (D q)) (hs4 : σ.2.2.2 s = 4) (hdv : σ.2.1 40117 s 0 = some dv) (hdn : σ.2.1 40218 s 0 = some dn) (hm6 : σ.2.2.2 m = 6) (hit : σ.1 60500 m 0 = nI it) (hi4 : it ≤ 4) (hm1 : σ.2.1 60631 m 0 = some a1) (hm2 : σ.2.1 60732 m 0 = some a2) (hm3 : σ.2.1 60833 m 0 = some a3) (hl1 : σ.1 319900 a1 0 = nI it) (hl2 : σ.1 329900 a2 0 = nI it) (hl3 : σ.1 339900 a3 0 = nI it) (hw : WF σ) : CT l E d 38 [vR (some (D q 0)), vR (some s), vR (some m)] σ 0 0 (fun r σ' => r = none ∧ σ' = itF (riF D q dv dn a1 a2 a3) it 0 σ ∧ GI σ σ') (fun _ _ => False) := by
  refine CTo ok_pr_receiveItems (by decide +kernel) rfl rfl rfl ?_
  refine w_run 2 (S' := (2, [(3, vI 0), (0, vR (some (D q 0))), (1, vR (some s)), (2, vR (some m))], [], σ, 0, 0)) rfl ?_
  refine lk_pr_ri l E d σ D q s dv dn m a1 a2 a3 it hd hP hs4 hdv hdn hm6 hit hi4 hm1 hm2 hm3 hl1 hl2 hl3 (Nat.le_refl _) (Nat.le_refl _) it 0 (by omega) σ ⟨hw, rfl, fun _ _ _ _ => rfl, fun _ _ _ _ => rfl⟩ (fun τ1 ek1 hF1 => ?_)
  show WG _ _ _ _ _ _ _ (90, [(0, vR (some (D q 0))), (1, vR (some s)), (2, vR (some m))], [], τ1, 0, 0)
  exact w_vret rfl rfl (by omega) (by omega) (⟨rfl, ek1, hF1⟩)

