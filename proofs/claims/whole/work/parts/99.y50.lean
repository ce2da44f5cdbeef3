/-! die: class and model together -/
section DIR
variable {E : FE} {g : Gh} {σ σ1 T : Sg} {K J : Nat → Bool} {n p : Nat}
/-- the nodes as they were -/
def ndR (σ T : Sg) : Sg := (fun c x i => if c = 30200 ∨ c = 30406 ∨ c = 30506 then σ.1 c x i else T.1 c x i, fun c x i => if c = 30200 ∨ c = 30406 ∨ c = 30506 then σ.2.1 c x i else T.2.1 c x i, T.2.2)
theorem RA.nd {r : Nat} (h : RA g r (ndR σ T)) (hw : WF T) (h3 : ∀ a, T.2.2.2 a = 3 → T.1 30000 a 0 = nI r → T.1 30200 a 0 = σ.1 30200 a 0) : RA g r T := by
  refine ⟨fun ha => ?_, fun ha => h.2 ha⟩
  obtain ⟨h1, h2, h5⟩ := h.1 ha
  refine ⟨h1, fun c m hc hm => ?_, h5⟩
  obtain ⟨k, s', l, it, t, T', a1, a2, a3, e1, e2, e3, e4, e5, e6, e7, e8, e9, e10, e11, e12, e13, e14, e15, e16, e17, e18, e19, e20, e21, e22, e23, e24, e25, e26, e27, e28⟩ := h2 c m hc hm
  refine ⟨k, s', l, it, t, T', a1, a2, a3, e1, e2, e3, e4, e5, e6, e7, e8, e9, e10, e11, e12, e13, e14, e15, fun a hA => ?_, e17, e18, e19, e20, e21, e22, e23, e24, e25, e26, e27, e28⟩
  obtain ⟨q1, q2⟩ := e16 a hA
  have q2' : T.1 30000 a 0 = nI r := q2
  have q1' : σ.1 30200 a 0 = 0 := q1
  exact ⟨(h3 a (hw _ _ _ _ hA (by decide)) q2').trans q1', q2'⟩
theorem diA_f {m : Nat} {A : Nat → Nat} : (diA σ m A p).2 = σ.2 ∧ (∀ c a x, c ≠ 500000 → c ≠ 510000 → c ≠ 500300 → (diA σ m A p).1 c a x = σ.1 c a x) ∧ (∀ a r, r ≠ p → (diA σ m A p).1 510000 a r = σ.1 510000 a r) ∧ (diA σ m A p).1 510000 (A 0) p = 0 ∧ (diA σ m A p).1 500000 m 0 = 0 ∧ (diA σ m A p).1 500300 m 0 = (if σ.1 500300 m 0 < 0 then σ.1 500300 m 0 else if nI (pOf (σ.1 500300 m 0)) = nI p then -1 else σ.1 500300 m 0) := by
  have e1 : ∀ a r, r ≠ p → (sI (sI σ 500000 m 0 0) 510000 (A 0) p 0).1 510000 a r = σ.1 510000 a r := fun a r h => by
    simp [sI, h]
  have e2 : ∀ c a x, c ≠ 500000 → c ≠ 510000 → (sI (sI σ 500000 m 0 0) 510000 (A 0) p 0).1 c a x = σ.1 c a x := fun c a x h1 h2 => by rw [rII h2, rII h1]
  unfold diA
  by_cases c1 : σ.1 500300 m 0 < 0
  · rw [if_pos c1, if_pos c1]
    exact ⟨rfl, fun c a x h1 h2 _ => e2 c a x h1 h2, e1, rIs, by rw [rII (by decide)]; exact rIs, e2 _ _ _ (by decide) (by decide)⟩
  · rw [if_neg c1, if_neg c1]
    by_cases c2 : nI (pOf (σ.1 500300 m 0)) = nI p
    · rw [if_pos c2, if_pos c2]
      exact ⟨rfl, fun c a x h1 h2 h3 => by rw [rII h3]; exact e2 c a x h1 h2, fun a r h => by rw [rII (by decide)]; exact e1 a r h, by rw [rII (by decide)]; exact rIs, by rw [rII (by decide), rII (by decide)]; exact rIs, rIs⟩
    · rw [if_neg c2, if_neg c2]
      exact ⟨rfl, fun c a x h1 h2 _ => e2 c a x h1 h2, e1, rIs, by rw [rII (by decide)]; exact rIs, e2 _ _ _ (by decide) (by decide)⟩
theorem flt_len {d : Nat → Bool} : ∀ (L : List Nat), (L.filter d).length + (L.filter (fun w => !(d w))).length = L.length
  | [] => rfl
  | w :: t => by
    have := flt_len (d := d) t
    rw [List.filter_cons, List.filter_cons]
    cases d w <;> simp <;> omega
theorem RR.hcOut {q : Nat} (R : RR E g n σ) (hq : q < 4) (ha : al g σ q) (h : ¬ hcB σ (g.D q 0) (g.L1 p) (g.L2 p) = 0) : 1 ≤ outP g σ q p := by
  obtain ⟨p1, p2, p3, p4, p5⟩ := R.p q hq
  have al0 : ¬ σ.1 510000 (g.A 0) q = 0 := by rw [show σ.1 510000 (g.A 0) q = 1 from ha]; decide
  have eM : ∀ m, hcM σ (g.D q 0) m = oM σ q (g.lv q) m := fun m => by
    unfold hcM frmF oM
    rw [p1, if_neg al0, R.s.nm q hq, p3]
    by_cases c1 : nI q = σ.1 60100 m 0
    · rw [if_pos c1]
      by_cases c2 : nI (g.lv q) = σ.1 60200 m 0
      · rw [if_pos c2, ← c1, ← c2]; simp
      · rw [if_neg c2, beq_eq_false_iff_ne.mpr (fun e => c2 e.symm), Bool.and_false]; rfl
    · rw [if_neg c1, beq_eq_false_iff_ne.mpr (fun e => c1 e.symm)]; rfl
  have eW : ∀ w, hcW σ (g.D q 0) w = oW σ q (g.lv q) w := fun w => by
    unfold hcW oW
    by_cases c1 : σ.1 50000 w 0 = 1
    · rw [if_pos c1, c1]
      cases σ.2.1 50106 w 0 with
      | none => rfl
      | some m => exact eM m
    · rw [if_neg c1, beq_eq_false_iff_ne.mpr c1]; rfl
  unfold hcB at h
  rw [if01, any_cg (g.L1 p) (fun w _ => eW w), any_cg (g.L2 p) (fun w _ => eM w), Bool.or_eq_true, List.any_eq_true, List.any_eq_true] at h
  unfold outP
  rcases h with ⟨w, hw, h⟩ | ⟨m, hm, h⟩
  · have : 0 < (g.L1 p).countP (oW σ q (g.lv q)) := List.countP_pos_iff.mpr ⟨w, hw, h⟩
    omega
  · have : 0 < (g.L2 p).countP (oM σ q (g.lv q)) := List.countP_pos_iff.mpr ⟨m, hm, h⟩
    omega
def ml9 : List Nat := [500000, 510000, 500300, 720000, 730000, 740000, 780000, 790000, 800000]
def ml7 : List Nat := [500000, 500300, 720000, 730000, 780000, 790000, 800000]
def KT9 : Nat → Bool := fun c => KDi c || ml9.contains c
def KT7 : Nat → Bool := fun c => KDx c || ml7.contains c
def KQ7 : Nat → Bool := fun c => c == 10103 || lsc c || ml7.contains c
theorem KDi_m : ∀ c, 500000 ≤ c → KDi c = false := fun c hc => by
  have h1 : ∀ l : List Nat, (∀ x, x ∈ l → x < 500000) → l.contains c = false := fun l hl => by
    cases e : l.contains c with
    | false => rfl
    | true => have := hl c (List.contains_iff_mem.mp e); omega
  unfold KDi lsc
  rw [h1 pcs (by decide), h1 [10103, 30200, 30406, 30506] (by decide)]
  simp only [Bool.false_or, Bool.or_eq_false_iff, beq_eq_false_iff_ne]
  omega
theorem cnt_map {P : Int32 → Bool} {W : List Nat} {V : List (Int32 × Int32)} (hl : W.length = V.length) (h : ∀ (i w : Nat), W[i]? = some w → ∃ k c, V[i]? = some (k, c) ∧ T.1 50000 w 0 = k) : W.countP (fun w => P (T.1 50000 w 0)) = V.countP (fun x => P x.1) := by
  have e : W.map (fun w => T.1 50000 w 0) = V.map (fun x => x.1) := by
    apply List.ext_getElem?
    intro i
    rw [List.getElem?_map, List.getElem?_map]
    cases e : W[i]? with
    | none =>
      rw [List.getElem?_eq_none (by rw [← hl]; exact List.getElem?_eq_none_iff.mp e)]; rfl
    | some w =>
      obtain ⟨k, c, h1, h2⟩ := h i w e
      rw [h1]
      exact congrArg some h2
  have e1 := List.countP_map (p := P) (f := fun w => T.1 50000 w 0) (l := W)
  have e2 := List.countP_map (p := P) (f := fun x : Int32 × Int32 => x.1) (l := V)
  rw [e] at e1
  exact e1.symm.trans e2
theorem dth_k {σ1 : Sg} {ws : List Nat} {x : Int32 × Int32} (h : x ∈ dthC σ1 ws) : x.1 = 4 := by
  unfold dthC at h
  obtain ⟨w, -, rfl⟩ := List.mem_map.mp h
  rfl
theorem dth_c0 {σ1 : Sg} {ws : List Nat} {P : Int32 → Bool} (h : P 4 = false) : (dthC σ1 ws).countP (fun x => P x.1) = 0 := by
  rw [List.countP_eq_zero]
  intro x hx
  rw [dth_k hx, h]; decide
theorem dth_c1 {σ1 : Sg} {ws : List Nat} {P : Int32 → Bool} (h : P 4 = true) : (dthC σ1 ws).countP (fun x => P x.1) = (dthC σ1 ws).length := by
  rw [List.countP_eq_length]
  intro x hx
  rw [dth_k hx, h]
theorem V1_c {fl : Nat → Bool} {i r : Nat} {P : Int32 → Bool} : (V1 p fl i r).countP (fun x => P x.1) = if P 5 = true then (V1 p fl i r).length else 0 := by
  unfold V1
  split
  · by_cases c : P 5 = true
    · rw [if_pos c]; simp [c]
    · rw [if_neg c]; simp [c]
  · simp
end DIR
