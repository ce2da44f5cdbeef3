/-! ObjectDriver, made -/
def PrK (E : FE) (P : Nat → Nat) (n : Int32) (τ : Sg) : Prop := (∀ j, j < 15 → τ.2.2.2 (P j) ≠ 0) ∧ SHp τ P ∧ τ.1 20000 (P 0) 0 = n ∧ (τ.1 20800 (P 0) 0 = 0 ∧ τ.1 20900 (P 0) 0 = 0 ∧ τ.1 21000 (P 0) 0 = 0 ∧ τ.2.1 21105 (P 0) 0 = none) ∧ (τ.1 80300 (P 2) 0 = 0 ∧ (∀ i, τ.2.1 120003 (P 3) i = none) ∧ (∀ i, τ.1 130000 (P 4) i = 0) ∧ (∀ i, τ.1 140000 (P 5) i = 0) ∧ τ.1 90100 (P 6) 0 = 0 ∧ τ.1 90200 (P 6) 0 = 0 ∧ (∀ i, τ.2.1 150006 (P 7) i = none) ∧ τ.1 40300 (P 8) 0 = 0 ∧ τ.1 40400 (P 8) 0 = 0 ∧ (∀ i, τ.2.1 110003 (P 1) i = none)) ∧ (τ.2.2.2 (P 12) = 20 ∧ τ.2.1 200100 (P 12) 0 = some (fe E) ∧ τ.1 200200 (P 12) 0 = 0) ∧ (τ.2.2.2 (P 13) = 21 ∧ τ.2.1 210100 (P 13) 0 = some (fe E) ∧ τ.1 210200 (P 13) 0 = 0) ∧ (τ.2.2.2 (P 14) = 22 ∧ τ.2.1 220100 (P 14) 0 = some (fe E) ∧ τ.1 220200 (P 14) 0 = 0)
theorem PrK.keep {E : FE} {P : Nat → Nat} {n : Int32} {τ τ' : Sg} (h : PrK E P n τ) (hk : ∀ j, j < 15 → τ'.2.2.2 (P j) = τ.2.2.2 (P j)) (hr : ∀ c j i, j < 15 → c ≠ 100002 → τ'.1 c (P j) i = τ.1 c (P j) i ∧ τ'.2.1 c (P j) i = τ.2.1 c (P j) i) : PrK E P n τ' := by
  have e : ∀ i, i < 14 → (shc i).1 ≠ 100002 ∧ (shc i).2.1 < 15 := by decide
  have rI : ∀ c j i, j < 15 → c ≠ 100002 → τ'.1 c (P j) i = τ.1 c (P j) i := fun c j i h1 h2 => (hr c j i h1 h2).1
  have rO : ∀ c j i, j < 15 → c ≠ 100002 → τ'.2.1 c (P j) i = τ.2.1 c (P j) i := fun c j i h1 h2 => (hr c j i h1 h2).2
  obtain ⟨h1, h2, h3, ⟨a1, a2, a3, a4⟩, ⟨b1, b2, b3, b4, b5, b6, b7, b8, b9, b10⟩, ⟨c1, c2, c3⟩, ⟨c4, c5, c6⟩, ⟨c7, c8, c9⟩⟩ := h
  refine ⟨fun j hj => by rw [hk j hj]; exact h1 j hj, ⟨by rw [hk 0 (by decide)]; exact h2.1, fun i hi => by rw [rO _ _ _ (e i hi).2 (e i hi).1]; exact h2.2 i hi⟩, by rw [rI _ _ _ (by decide) (by decide)]; exact h3, ⟨by rw [rI _ _ _ (by decide) (by decide)]; exact a1, by rw [rI _ _ _ (by decide) (by decide)]; exact a2, by rw [rI _ _ _ (by decide) (by decide)]; exact a3, by rw [rO _ _ _ (by decide) (by decide)]; exact a4⟩, ⟨by rw [rI _ _ _ (by decide) (by decide)]; exact b1, fun i => by rw [rO _ _ _ (by decide) (by decide)]; exact b2 i, fun i => by rw [rI _ _ _ (by decide) (by decide)]; exact b3 i, fun i => by rw [rI _ _ _ (by decide) (by decide)]; exact b4 i, by rw [rI _ _ _ (by decide) (by decide)]; exact b5, by rw [rI _ _ _ (by decide) (by decide)]; exact b6, fun i => by rw [rO _ _ _ (by decide) (by decide)]; exact b7 i, by rw [rI _ _ _ (by decide) (by decide)]; exact b8, by rw [rI _ _ _ (by decide) (by decide)]; exact b9, fun i => by rw [rO _ _ _ (by decide) (by decide)]; exact b10 i⟩, ⟨by rw [hk 12 (by decide)]; exact c1, by rw [rO _ _ _ (by decide) (by decide)]; exact c2, by rw [rI _ _ _ (by decide) (by decide)]; exact c3⟩, ⟨by rw [hk 13 (by decide)]; exact c4, by rw [rO _ _ _ (by decide) (by decide)]; exact c5, by rw [rI _ _ _ (by decide) (by decide)]; exact c6⟩, ⟨by rw [hk 14 (by decide)]; exact c7, by rw [rO _ _ _ (by decide) (by decide)]; exact c8, by rw [rI _ _ _ (by decide) (by decide)]; exact c9⟩⟩
def OdS (E : FE) (x a0 k : Nat) (D : Nat → Nat → Nat) (σ τ : Sg) : Prop := (∃ S, GrA E x S σ τ ∧ a0 ∈ S ∧ ∀ y, y ∈ S → y = a0 ∨ ∃ p j, p < k ∧ j < 15 ∧ y = D p j) ∧ τ.2.2.2 x = 1 ∧ τ.2.2.2 a0 = 10 ∧ τ.2.1 10010 x 0 = some a0 ∧ τ.2.1 10103 x 0 = σ.2.1 10103 x 0 ∧ (∀ p, p < k → τ.2.1 100002 a0 p = some (D p 0)) ∧ (WF σ → WF τ) ∧ (∀ p, p < k → PrK E (D p) (nI p) τ) ∧ (∀ p q j, p < k → q < k → j < 15 → D p j = D q j → p = q)
theorem OdS.z {E : FE} {x a0 : Nat} {D : Nat → Nat → Nat} {σ : Sg} (hx : σ.2.2.2 x = 1) (h0 : σ.2.2.2 a0 = 0) (he : a0 ≠ fe E) : OdS E x a0 0 D σ (sO (sA σ a0 10 4) 10010 x 0 (some a0)) := by
  have nx : x ≠ a0 := fun e => by rw [e, h0] at hx; cases hx
  have kx : (sA σ a0 10 4).2.2.2 x = 1 := by simp [sA, sI, sN, nx, hx]
  have k0 : (sA σ a0 10 4).2.2.2 a0 = 10 := by simp [sA, sI, sN]
  refine ⟨⟨[a0], (GrA.nil.A h0 he (by decide)).o (Or.inl rfl), List.mem_cons_self, fun y hy => Or.inl (List.mem_singleton.mp hy)⟩, kx, k0, rOs, ?_, fun p hp => by omega, fun hw => WF.oS (WF.i (WF.n hw h0)) (fun _ => k0), fun p hp => by omega, fun p q j hp => by omega⟩
  rw [rOO (by decide)]; simp [sA, sI, sN, nx]
theorem GrA.tr {E : FE} {x q : Nat} {S S' : List Nat} {σ τ τ' : Sg} (h : GrA E x S σ τ) (h' : GrA E q S' τ τ') (hq : q ∈ S) : GrA E x (S' ++ S) σ τ' := by
  refine ⟨fun y hy => ?_, fun y hy => ?_, fun c y i hy ha => ?_, h'.2.2.2.trans h.2.2.2⟩
  · rw [List.mem_append, not_or] at hy
    rw [h'.1 y hy.1, h.1 y hy.2]
  · rcases List.mem_append.mp hy with m | m
    · obtain ⟨a1, a2, a3⟩ := h'.2.1 y m
      have nS : y ∉ S := fun z => (h.2.1 y z).2.2 a1
      exact ⟨(h.1 y nS).symm.trans a1, a2, a3⟩
    · obtain ⟨a1, a2, a3⟩ := h.2.1 y m
      have nS : y ∉ S' := fun z => a3 (h'.2.1 y z).1
      exact ⟨a1, a2, by rw [h'.1 y nS]; exact a3⟩
  · rw [List.mem_append, not_or] at hy
    have hyq : y ≠ q := fun e => hy.2 (by rw [e]; exact hq)
    obtain ⟨b1, b2⟩ := h'.2.2.1 c y i hy.1 hyq
    obtain ⟨b3, b4⟩ := h.2.2.1 c y i hy.2 ha
    exact ⟨b1.trans b3, b2.trans b4⟩
theorem OdS.step {E : FE} {x a0 k q : Nat} {D : Nat → Nat → Nat} {P : Nat → Nat} {σ τ τ' : Sg} (h : OdS E x a0 k D σ τ) (hx0 : σ.2.2.2 x = 1) (h0 : τ.2.2.2 q = 0) (he : q ≠ fe E) (hp : PrN E (sN τ q 2) q (nI k) P τ') (hk4 : k < 4) : OdS E x a0 (k + 1) (upN D k P) σ (sO τ' 100002 a0 k (some q)) := by
  obtain ⟨⟨S, hS, h0S, hS2⟩, h1, h2, h3, h4, h5, h6, h7, h8⟩ := h
  obtain ⟨p0, ⟨S', gS', mS'⟩, p3, p4, p5, ⟨z1, z2, z3, z4⟩, p7, p8⟩ := hp
  have gN := hS.N h0 he (k := 2) (by decide)
  have gT := gN.tr gS' List.mem_cons_self
  have nq : ∀ {y}, τ.2.2.2 y ≠ 0 → y ≠ q := fun hy e => hy (by rw [e]; exact h0)
  have kN : ∀ {y}, τ.2.2.2 y ≠ 0 → (sN τ q 2).2.2.2 y = τ.2.2.2 y := fun hy => if_neg (nq hy)
  have nS' : ∀ {y}, τ.2.2.2 y ≠ 0 → y ∉ S' := fun {y} hy m => hy (by rw [← kN hy]; exact (gS'.2.1 y m).1)
  have kT : ∀ {y}, τ.2.2.2 y ≠ 0 → τ'.2.2.2 y = τ.2.2.2 y := fun hy => (gS'.1 _ (nS' hy)).trans (kN hy)
  have rT : ∀ {y} (c i : Nat), τ.2.2.2 y ≠ 0 → τ'.1 c y i = τ.1 c y i ∧ τ'.2.1 c y i = τ.2.1 c y i := fun {y} c i hy => by
    obtain ⟨b1, b2⟩ := gS'.2.2.1 c y i (nS' hy) (nq hy)
    exact ⟨b1.trans (if_neg (nq hy)), b2.trans (if_neg (nq hy))⟩
  have xz : τ.2.2.2 x ≠ 0 := by rw [h1]; decide
  have az : τ.2.2.2 a0 ≠ 0 := by rw [h2]; decide
  have kq : τ'.2.2.2 q = 2 := by rw [← p0]; exact p3.1
  have fz : ∀ c i, (sN τ q 2).1 c q i = 0 ∧ (sN τ q 2).2.1 c q i = none := fun c i => ⟨if_pos rfl, if_pos rfl⟩
  have KP : PrK E P (nI k) τ' := by
    refine ⟨fun j hj => ?_, p3, by rw [p0]; exact p5, ?_, p7, p8⟩
    · by_cases j0 : j = 0
      · subst j0; rw [p3.1]; decide
      · exact (gS'.2.1 (P j) ((mS' _).mpr ⟨j, by omega, hj, rfl⟩)).2.2
    · rw [p0]; exact ⟨z1.trans (fz _ _).1, z2.trans (fz _ _).1, z3.trans (fz _ _).1, z4.trans (fz _ _).2⟩
  have fP : ∀ j, j < 15 → τ.2.2.2 (P j) = 0 := fun j hj => by
    by_cases j0 : j = 0
    · subst j0; rw [p0]; exact h0
    · have h9 := (gS'.2.1 (P j) ((mS' _).mpr ⟨j, by omega, hj, rfl⟩)).1
      by_cases e : P j = q
      · rw [e]; exact h0
      · have h8 : (if P j = q then 2 else τ.2.2.2 (P j)) = 0 := h9
        rw [if_neg e] at h8; exact h8
  refine ⟨⟨S' ++ (q :: S), gT.o (Or.inr (List.mem_append_right _ (List.mem_cons_of_mem _ h0S))), List.mem_append_right _ (List.mem_cons_of_mem _ h0S), fun y hy => ?_⟩, (kT xz).trans h1, (kT az).trans h2, ?_, ?_, fun p hp => ?_, fun hw => WF.oS (p4 (WF.n (h6 hw) h0)) (fun _ => kq), fun p hp => ?_, fun p p' j h1' h2' hj e => ?_⟩
  · rcases List.mem_append.mp hy with m | m
    · obtain ⟨j, j1, j2, rfl⟩ := (mS' y).mp m
      exact Or.inr ⟨k, j, by omega, j2, by rw [upN_s]⟩
    · rcases List.mem_cons.mp m with rfl | m
      · exact Or.inr ⟨k, 0, by omega, by decide, by rw [upN_s]; exact p0.symm⟩
      · rcases hS2 y m with e | ⟨p, j, b1, b2, b3⟩
        · exact Or.inl e
        · exact Or.inr ⟨p, j, by omega, b2, by rw [upN_n (by omega)]; exact b3⟩
  · rw [rOO (by decide), (rT _ _ xz).2]; exact h3
  · rw [rOO (by decide), (rT _ _ xz).2]; exact h4
  · by_cases e : p = k
    · subst e; rw [upN_s, p0]; exact rOs
    · rw [upN_n e]
      have : (sO τ' 100002 a0 k (some q)).2.1 100002 a0 p = τ'.2.1 100002 a0 p := by simp [sO, e]
      rw [this, (rT _ _ az).2]; exact h5 p (by omega)
  · by_cases e : p = k
    · subst e; rw [upN_s]
      exact KP.keep (fun _ _ => rfl) (fun c j i _ hc => ⟨rfl, rOO hc⟩)
    · rw [upN_n e]
      have hP := h7 p (by omega)
      exact hP.keep (fun j hj => kT (hP.1 j hj)) (fun c j i hj hc => ⟨(rT _ _ (hP.1 j hj)).1, (rOO hc).trans (rT _ _ (hP.1 j hj)).2⟩)
  · by_cases e1 : p = k
    · by_cases e2 : p' = k
      · rw [e1, e2]
      · rw [e1, upN_s, upN_n e2] at e
        exact absurd (fP j hj) (by rw [e]; exact (h7 p' (by omega)).1 j hj)
    · by_cases e2 : p' = k
      · rw [e2, upN_s, upN_n e1] at e
        exact absurd (fP j hj) (by rw [← e]; exact (h7 p (by omega)).1 j hj)
      · rw [upN_n e1, upN_n e2] at e
        exact h8 p p' j (by omega) (by omega) hj e
set_option maxRecDepth 20000 in
set_option maxHeartbeats 4000000 in
theorem c_od_init (l : Launch) (E : FE) (d : Nat) (σ : Sg) (x : Nat) (hd : 6 ≤ d) (hx : σ.2.2.2 x = 1) : CT l E d 46 [vR (some x)] σ 61 900 (fun r σ' => r = none ∧ ∃ a0 D, OdS E x a0 4 D σ σ') (fun _ _ => False) := by
  refine CTo ok_od_init (by decide +kernel) rfl rfl rfl ?_
  refine w_run 1 (S' := (1, [(0, vR (some x))], [vR (some x)], σ, 0, 0)) rfl ?_
  refine w_objI rfl mo_0_1 rfl rfl (by simp only [RM]; omega) (by simp only [RM]; omega) ?_
  refine w_run 2 (S' := (6, [(0, vR (some x))], [vI 4, vR (some x)], σ, 0, 0)) rfl ?_
  refine w_newqC (k := 10) (N := 4) rfl rfl rfl (by decide) rfl rfl (by omega) 10 rfl rfl (by decide) (Or.inr rfl) (by simp only [RM]; omega) (by simp only [RM]; omega) (fun a0 ha0 ha0e => ?_)
  have hn_x : x ≠ a0 := ne0 (hx) ha0 (by decide)
  have hk_x : (sA σ a0 10 4).2.2.2 x = 1 := by simp only [sA, sI, sN]; rw [if_neg hn_x]; exact hx
  have hka0 : (sA σ a0 10 4).2.2.2 a0 = 10 := by simp [sA, sI, sN]
  show WG _ _ _ _ _ _ _ (9, [(0, vR (some x))], [vR (some a0), vR (some x)], sA σ a0 10 4, 0 + 1, 0 + 4)
  refine w_putr (k := 1) rfl rfl rfl hk_x rfl rfl (fun b9 h9 _ => by have e9 := (rfl : some a0 = some a0).symm.trans h9; cases e9; exact hka0) rfl (Or.inr ⟨rfl, rfl⟩) ?_
  show WG _ _ _ _ _ _ _ (12, [(0, vR (some x))], [], sO (sA σ a0 10 4) 10010 x 0 (some a0), 0 + 1, 0 + 4)
  refine w_run 2 (S' := (14, [(1, vI 0), (0, vR (some x))], [], sO (sA σ a0 10 4) 10010 x 0 (some a0), 0 + 1, 0 + 4)) rfl ?_
  have O0 : OdS E x a0 0 (fun _ _ => 0) σ (sO (sA σ a0 10 4) 10010 x 0 (some a0)) := OdS.z hx ha0 ha0e
  refine w_run 2 (S' := (16, [(1, vI 0), (0, vR (some x))], [vI 4, vI 0], sO (sA σ a0 10 4) 10010 x 0 (some a0), 0 + 1, 0 + 4)) rfl ?_
  refine w_ic_ge rfl (fun c1 => (absurd ((nI_leI (a := 4) (b := 0) (by omega) (by omega)).mp c1) (by omega))) (fun c1 => ?_)
  have nc1 := mt (nI_leI (a := 4) (b := 0) (by omega) (by omega)).mpr c1
  refine w_run 1 (S' := (20, [(1, vI 0), (0, vR (some x))], [vR (some x)], sO (sA σ a0 10 4) 10010 x 0 (some a0), 0 + 1, 0 + 4)) rfl ?_
  refine w_get (k := 1) (vR (some a0)) rfl rfl rfl hk_x rfl (by simp [mkF, sI, sO, sN, sA]) ?_
  refine w_run 1 (S' := (24, [(1, vI 0), (0, vR (some x))], [vI 0, vR (some a0)], sO (sA σ a0 10 4) 10010 x 0 (some a0), 0 + 1, 0 + 4)) rfl ?_
  refine w_new (k := 2) rfl rfl 2 rfl rfl (by simp only [RM]; omega) (by simp only [RM]; show _ + 12 ≤ _; omega) (fun q0 hq0 hq0e => ?_)
  have hn_x : x ≠ q0 := ne0 (hk_x) hq0 (by decide)
  have hk_x : (sN (sO (sA σ a0 10 4) 10010 x 0 (some a0)) q0 2).2.2.2 x = 1 := by simp only [sN]; rw [if_neg hn_x]; exact hk_x
  have hn_a0 : a0 ≠ q0 := ne0 (hka0) hq0 (by decide)
  have hk_a0 : (sN (sO (sA σ a0 10 4) 10010 x 0 (some a0)) q0 2).2.2.2 a0 = 10 := by simp only [sN]; rw [if_neg hn_a0]; exact hka0
  have hkq0 : (sN (sO (sA σ a0 10 4) 10010 x 0 (some a0)) q0 2).2.2.2 q0 = 2 := by simp [sN]
  show WG _ _ _ _ _ _ _ (27, [(1, vI 0), (0, vR (some x))], [vR (some q0), vI 0, vR (some a0)], sN (sO (sA σ a0 10 4) 10010 x 0 (some a0)) q0 2, 0 + 1 + 1, 0 + 4 + 12)
  refine w_run 2 (S' := (29, [(1, vI 0), (0, vR (some x))], [vI 0, vR (some q0), vR (some q0), vI 0, vR (some a0)], sN (sO (sA σ a0 10 4) 10010 x 0 (some a0)) q0 2, 0 + 1 + 1, 0 + 4 + 12)) rfl ?_
  refine w_callI (st := [vR (some q0), vI 0, vR (some a0)]) [vI 0] rfl ml_0_15 rfl rfl (by simp only [RM]; omega) (by simp only [RM]; show 8 + (2 + 11) + _ ≤ _; omega) rfl (by simp only [RM]; omega) (by simp only [RM]; omega) (c_pr_init l E (d - 1) (sN (sO (sA σ a0 10 4) 10010 x 0 (some a0)) q0 2) q0 (nI 0) (by omega) hkq0) ?_
  intro r9 t0 q9
  obtain ⟨e1, P0, hP0⟩ := q9
  subst e1
  have hkq9_0 : t0.2.2.2 q0 = 2 := by have h9 := hP0.2.2.1.1; rw [hP0.1] at h9; exact h9
  have O1 : OdS E x a0 1 (upN (fun _ _ => 0) 0 P0) σ (sO t0 100002 a0 0 (some q0)) := OdS.step O0 hx hq0 hq0e hP0 (by decide)
  show WG _ _ _ _ _ _ _ (32, [(1, vI 0), (0, vR (some x))], [vR (some q0), vI 0, vR (some a0)], t0, 0 + 1 + 1 + 14, 0 + 4 + 12 + 200)
  refine w_aast (k := 10) rfl rfl O1.2.2.1 rfl (by decide) rfl hkq9_0 rfl rfl rfl (show vp_in 0 4 from (vp_in_nI (by decide) (by decide))) ?_
  show WG _ _ _ _ _ _ _ (33, [(1, vI 0), (0, vR (some x))], [], sO t0 100002 a0 ((0 : Int32).toNatClampNeg) (some q0), 0 + 1 + 1 + 14, 0 + 4 + 12 + 200)
  rw [show (0 : Int32).toNatClampNeg = 0 from nI_clamp (n := 0) (by omega)]
  refine w_run 2 (S' := (14, [(1, vI (0 + 1)), (0, vR (some x))], [], sO t0 100002 a0 0 (some q0), 0 + 1 + 1 + 14, 0 + 4 + 12 + 200)) rfl ?_
  rw [show (0 + 1 : Int32) = nI (0 + 1) from by simp only [nl0, nl1, nl2, nl3, nl4, nl5, nl6, nl8, nl9, nl10, nl12, nl15, nl16, nl20, nl24, nl32, nl40, nl64, nl65, nl384, pk_mul, nI_add]]
  show WG _ _ _ _ _ _ _ (14, [(1, vI (nI (0 + 1))), (0, vR (some x))], [], sO t0 100002 a0 0 (some q0), 0 + 1 + 1 + 14, 0 + 4 + 12 + 200)
  refine w_run 2 (S' := (16, [(1, vI (nI (0 + 1))), (0, vR (some x))], [vI 4, vI (nI (0 + 1))], sO t0 100002 a0 0 (some q0), 0 + 1 + 1 + 14, 0 + 4 + 12 + 200)) rfl ?_
  refine w_ic_ge rfl (fun c2 => (absurd ((nI_leI (a := 4) (b := 0 + 1) (by omega) (by omega)).mp c2) (by omega))) (fun c2 => ?_)
  have nc2 := mt (nI_leI (a := 4) (b := 0 + 1) (by omega) (by omega)).mpr c2
  refine w_run 1 (S' := (20, [(1, vI (nI (0 + 1))), (0, vR (some x))], [vR (some x)], sO t0 100002 a0 0 (some q0), 0 + 1 + 1 + 14, 0 + 4 + 12 + 200)) rfl ?_
  refine w_get (k := 1) (vR (t0.2.1 10010 x 0)) rfl rfl rfl O1.2.1 rfl rfl ?_
  refine Eq.mp (congrArg (fun x9 => WG _ _ _ _ _ _ _ (23, [(1, vI (nI (0 + 1))), (0, vR (some x))], [vR x9], sO t0 100002 a0 0 (some q0), 0 + 1 + 1 + 14, 0 + 4 + 12 + 200)) (Eq.symm (show t0.2.1 10010 x 0 = some a0 from (rOO (by decide)).symm.trans O1.2.2.2.1) : some a0 = t0.2.1 10010 x 0)) ?_
  show WG _ _ _ _ _ _ _ (23, [(1, vI (nI (0 + 1))), (0, vR (some x))], [vR (some a0)], sO t0 100002 a0 0 (some q0), 0 + 1 + 1 + 14, 0 + 4 + 12 + 200)
  refine w_run 1 (S' := (24, [(1, vI (nI (0 + 1))), (0, vR (some x))], [vI (nI (0 + 1)), vR (some a0)], sO t0 100002 a0 0 (some q0), 0 + 1 + 1 + 14, 0 + 4 + 12 + 200)) rfl ?_
  refine w_new (k := 2) rfl rfl 2 rfl rfl (by simp only [RM]; omega) (by simp only [RM]; show _ + 12 ≤ _; omega) (fun q1 hq1 hq1e => ?_)
  have hn_x : x ≠ q1 := ne0 (O1.2.1) hq1 (by decide)
  have hk_x : (sN (sO t0 100002 a0 0 (some q0)) q1 2).2.2.2 x = 1 := by simp only [sN]; rw [if_neg hn_x]; exact O1.2.1
  have hn_a0 : a0 ≠ q1 := ne0 (O1.2.2.1) hq1 (by decide)
  have hk_a0 : (sN (sO t0 100002 a0 0 (some q0)) q1 2).2.2.2 a0 = 10 := by simp only [sN]; rw [if_neg hn_a0]; exact O1.2.2.1
  have hn_q0 : q0 ≠ q1 := ne0 (hkq9_0) hq1 (by decide)
  have hk_q0 : (sN (sO t0 100002 a0 0 (some q0)) q1 2).2.2.2 q0 = 2 := by simp only [sN]; rw [if_neg hn_q0]; exact hkq9_0
  have hkq1 : (sN (sO t0 100002 a0 0 (some q0)) q1 2).2.2.2 q1 = 2 := by simp [sN]
  show WG _ _ _ _ _ _ _ (27, [(1, vI (nI (0 + 1))), (0, vR (some x))], [vR (some q1), vI (nI (0 + 1)), vR (some a0)], sN (sO t0 100002 a0 0 (some q0)) q1 2, 0 + 1 + 1 + 14 + 1, 0 + 4 + 12 + 200 + 12)
  refine w_run 2 (S' := (29, [(1, vI (nI (0 + 1))), (0, vR (some x))], [vI (nI (0 + 1)), vR (some q1), vR (some q1), vI (nI (0 + 1)), vR (some a0)], sN (sO t0 100002 a0 0 (some q0)) q1 2, 0 + 1 + 1 + 14 + 1, 0 + 4 + 12 + 200 + 12)) rfl ?_
  refine w_callI (st := [vR (some q1), vI (nI (0 + 1)), vR (some a0)]) [vI (nI (0 + 1))] rfl ml_0_15 rfl rfl (by simp only [RM]; omega) (by simp only [RM]; show 8 + (2 + 11) + _ ≤ _; omega) rfl (by simp only [RM]; omega) (by simp only [RM]; omega) (c_pr_init l E (d - 1) (sN (sO t0 100002 a0 0 (some q0)) q1 2) q1 (nI 1) (by omega) hkq1) ?_
  intro r9 t1 q9
  obtain ⟨e1, P1, hP1⟩ := q9
  subst e1
  have hkq9_1 : t1.2.2.2 q1 = 2 := by have h9 := hP1.2.2.1.1; rw [hP1.1] at h9; exact h9
  have O2 : OdS E x a0 2 (upN (upN (fun _ _ => 0) 0 P0) 1 P1) σ (sO t1 100002 a0 1 (some q1)) := OdS.step O1 hx hq1 hq1e hP1 (by decide)
  show WG _ _ _ _ _ _ _ (32, [(1, vI (nI (0 + 1))), (0, vR (some x))], [vR (some q1), vI (nI (0 + 1)), vR (some a0)], t1, 0 + 1 + 1 + 14 + 1 + 14, 0 + 4 + 12 + 200 + 12 + 200)
  refine w_aast (k := 10) rfl rfl O2.2.2.1 rfl (by decide) rfl hkq9_1 rfl rfl rfl (show vp_in (nI (0 + 1)) 4 from (vp_in_nI (by decide) (by decide))) ?_
  show WG _ _ _ _ _ _ _ (33, [(1, vI (nI (0 + 1))), (0, vR (some x))], [], sO t1 100002 a0 ((nI (0 + 1)).toNatClampNeg) (some q1), 0 + 1 + 1 + 14 + 1 + 14, 0 + 4 + 12 + 200 + 12 + 200)
  rw [show (nI (0 + 1) : Int32).toNatClampNeg = 0 + 1 from nI_clamp (n := 0 + 1) (by omega)]
  refine w_run 2 (S' := (14, [(1, vI ((nI (0 + 1)) + 1)), (0, vR (some x))], [], sO t1 100002 a0 (0 + 1) (some q1), 0 + 1 + 1 + 14 + 1 + 14, 0 + 4 + 12 + 200 + 12 + 200)) rfl ?_
  rw [show ((nI (0 + 1)) + 1 : Int32) = nI (0 + 1 + 1) from by simp only [nl0, nl1, nl2, nl3, nl4, nl5, nl6, nl8, nl9, nl10, nl12, nl15, nl16, nl20, nl24, nl32, nl40, nl64, nl65, nl384, pk_mul, nI_add]]
  show WG _ _ _ _ _ _ _ (14, [(1, vI (nI (0 + 1 + 1))), (0, vR (some x))], [], sO t1 100002 a0 (0 + 1) (some q1), 0 + 1 + 1 + 14 + 1 + 14, 0 + 4 + 12 + 200 + 12 + 200)
  refine w_run 2 (S' := (16, [(1, vI (nI (0 + 1 + 1))), (0, vR (some x))], [vI 4, vI (nI (0 + 1 + 1))], sO t1 100002 a0 (0 + 1) (some q1), 0 + 1 + 1 + 14 + 1 + 14, 0 + 4 + 12 + 200 + 12 + 200)) rfl ?_
  refine w_ic_ge rfl (fun c3 => (absurd ((nI_leI (a := 4) (b := 0 + 1 + 1) (by omega) (by omega)).mp c3) (by omega))) (fun c3 => ?_)
  have nc3 := mt (nI_leI (a := 4) (b := 0 + 1 + 1) (by omega) (by omega)).mpr c3
  refine w_run 1 (S' := (20, [(1, vI (nI (0 + 1 + 1))), (0, vR (some x))], [vR (some x)], sO t1 100002 a0 (0 + 1) (some q1), 0 + 1 + 1 + 14 + 1 + 14, 0 + 4 + 12 + 200 + 12 + 200)) rfl ?_
  refine w_get (k := 1) (vR (t1.2.1 10010 x 0)) rfl rfl rfl O2.2.1 rfl rfl ?_
  refine Eq.mp (congrArg (fun x9 => WG _ _ _ _ _ _ _ (23, [(1, vI (nI (0 + 1 + 1))), (0, vR (some x))], [vR x9], sO t1 100002 a0 (0 + 1) (some q1), 0 + 1 + 1 + 14 + 1 + 14, 0 + 4 + 12 + 200 + 12 + 200)) (Eq.symm (show t1.2.1 10010 x 0 = some a0 from (rOO (by decide)).symm.trans O2.2.2.2.1) : some a0 = t1.2.1 10010 x 0)) ?_
  show WG _ _ _ _ _ _ _ (23, [(1, vI (nI (0 + 1 + 1))), (0, vR (some x))], [vR (some a0)], sO t1 100002 a0 (0 + 1) (some q1), 0 + 1 + 1 + 14 + 1 + 14, 0 + 4 + 12 + 200 + 12 + 200)
  refine w_run 1 (S' := (24, [(1, vI (nI (0 + 1 + 1))), (0, vR (some x))], [vI (nI (0 + 1 + 1)), vR (some a0)], sO t1 100002 a0 (0 + 1) (some q1), 0 + 1 + 1 + 14 + 1 + 14, 0 + 4 + 12 + 200 + 12 + 200)) rfl ?_
  refine w_new (k := 2) rfl rfl 2 rfl rfl (by simp only [RM]; omega) (by simp only [RM]; show _ + 12 ≤ _; omega) (fun q2 hq2 hq2e => ?_)
  have hn_x : x ≠ q2 := ne0 (O2.2.1) hq2 (by decide)
  have hk_x : (sN (sO t1 100002 a0 (0 + 1) (some q1)) q2 2).2.2.2 x = 1 := by simp only [sN]; rw [if_neg hn_x]; exact O2.2.1
  have hn_a0 : a0 ≠ q2 := ne0 (O2.2.2.1) hq2 (by decide)
  have hk_a0 : (sN (sO t1 100002 a0 (0 + 1) (some q1)) q2 2).2.2.2 a0 = 10 := by simp only [sN]; rw [if_neg hn_a0]; exact O2.2.2.1
  have hn_q1 : q1 ≠ q2 := ne0 (hkq9_1) hq2 (by decide)
  have hk_q1 : (sN (sO t1 100002 a0 (0 + 1) (some q1)) q2 2).2.2.2 q1 = 2 := by simp only [sN]; rw [if_neg hn_q1]; exact hkq9_1
  have hkq2 : (sN (sO t1 100002 a0 (0 + 1) (some q1)) q2 2).2.2.2 q2 = 2 := by simp [sN]
  show WG _ _ _ _ _ _ _ (27, [(1, vI (nI (0 + 1 + 1))), (0, vR (some x))], [vR (some q2), vI (nI (0 + 1 + 1)), vR (some a0)], sN (sO t1 100002 a0 (0 + 1) (some q1)) q2 2, 0 + 1 + 1 + 14 + 1 + 14 + 1, 0 + 4 + 12 + 200 + 12 + 200 + 12)
  refine w_run 2 (S' := (29, [(1, vI (nI (0 + 1 + 1))), (0, vR (some x))], [vI (nI (0 + 1 + 1)), vR (some q2), vR (some q2), vI (nI (0 + 1 + 1)), vR (some a0)], sN (sO t1 100002 a0 (0 + 1) (some q1)) q2 2, 0 + 1 + 1 + 14 + 1 + 14 + 1, 0 + 4 + 12 + 200 + 12 + 200 + 12)) rfl ?_
  refine w_callI (st := [vR (some q2), vI (nI (0 + 1 + 1)), vR (some a0)]) [vI (nI (0 + 1 + 1))] rfl ml_0_15 rfl rfl (by simp only [RM]; omega) (by simp only [RM]; show 8 + (2 + 11) + _ ≤ _; omega) rfl (by simp only [RM]; omega) (by simp only [RM]; omega) (c_pr_init l E (d - 1) (sN (sO t1 100002 a0 (0 + 1) (some q1)) q2 2) q2 (nI 2) (by omega) hkq2) ?_
  intro r9 t2 q9
  obtain ⟨e1, P2, hP2⟩ := q9
  subst e1
  have hkq9_2 : t2.2.2.2 q2 = 2 := by have h9 := hP2.2.2.1.1; rw [hP2.1] at h9; exact h9
  have O3 : OdS E x a0 3 (upN (upN (upN (fun _ _ => 0) 0 P0) 1 P1) 2 P2) σ (sO t2 100002 a0 2 (some q2)) := OdS.step O2 hx hq2 hq2e hP2 (by decide)
  show WG _ _ _ _ _ _ _ (32, [(1, vI (nI (0 + 1 + 1))), (0, vR (some x))], [vR (some q2), vI (nI (0 + 1 + 1)), vR (some a0)], t2, 0 + 1 + 1 + 14 + 1 + 14 + 1 + 14, 0 + 4 + 12 + 200 + 12 + 200 + 12 + 200)
  refine w_aast (k := 10) rfl rfl O3.2.2.1 rfl (by decide) rfl hkq9_2 rfl rfl rfl (show vp_in (nI (0 + 1 + 1)) 4 from (vp_in_nI (by decide) (by decide))) ?_
  show WG _ _ _ _ _ _ _ (33, [(1, vI (nI (0 + 1 + 1))), (0, vR (some x))], [], sO t2 100002 a0 ((nI (0 + 1 + 1)).toNatClampNeg) (some q2), 0 + 1 + 1 + 14 + 1 + 14 + 1 + 14, 0 + 4 + 12 + 200 + 12 + 200 + 12 + 200)
  rw [show (nI (0 + 1 + 1) : Int32).toNatClampNeg = 0 + 1 + 1 from nI_clamp (n := 0 + 1 + 1) (by omega)]
  refine w_run 2 (S' := (14, [(1, vI ((nI (0 + 1 + 1)) + 1)), (0, vR (some x))], [], sO t2 100002 a0 (0 + 1 + 1) (some q2), 0 + 1 + 1 + 14 + 1 + 14 + 1 + 14, 0 + 4 + 12 + 200 + 12 + 200 + 12 + 200)) rfl ?_
  rw [show ((nI (0 + 1 + 1)) + 1 : Int32) = nI (0 + 1 + 1 + 1) from by simp only [nl0, nl1, nl2, nl3, nl4, nl5, nl6, nl8, nl9, nl10, nl12, nl15, nl16, nl20, nl24, nl32, nl40, nl64, nl65, nl384, pk_mul, nI_add]]
  show WG _ _ _ _ _ _ _ (14, [(1, vI (nI (0 + 1 + 1 + 1))), (0, vR (some x))], [], sO t2 100002 a0 (0 + 1 + 1) (some q2), 0 + 1 + 1 + 14 + 1 + 14 + 1 + 14, 0 + 4 + 12 + 200 + 12 + 200 + 12 + 200)
  refine w_run 2 (S' := (16, [(1, vI (nI (0 + 1 + 1 + 1))), (0, vR (some x))], [vI 4, vI (nI (0 + 1 + 1 + 1))], sO t2 100002 a0 (0 + 1 + 1) (some q2), 0 + 1 + 1 + 14 + 1 + 14 + 1 + 14, 0 + 4 + 12 + 200 + 12 + 200 + 12 + 200)) rfl ?_
  refine w_ic_ge rfl (fun c4 => (absurd ((nI_leI (a := 4) (b := 0 + 1 + 1 + 1) (by omega) (by omega)).mp c4) (by omega))) (fun c4 => ?_)
  have nc4 := mt (nI_leI (a := 4) (b := 0 + 1 + 1 + 1) (by omega) (by omega)).mpr c4
  refine w_run 1 (S' := (20, [(1, vI (nI (0 + 1 + 1 + 1))), (0, vR (some x))], [vR (some x)], sO t2 100002 a0 (0 + 1 + 1) (some q2), 0 + 1 + 1 + 14 + 1 + 14 + 1 + 14, 0 + 4 + 12 + 200 + 12 + 200 + 12 + 200)) rfl ?_
  refine w_get (k := 1) (vR (t2.2.1 10010 x 0)) rfl rfl rfl O3.2.1 rfl rfl ?_
  refine Eq.mp (congrArg (fun x9 => WG _ _ _ _ _ _ _ (23, [(1, vI (nI (0 + 1 + 1 + 1))), (0, vR (some x))], [vR x9], sO t2 100002 a0 (0 + 1 + 1) (some q2), 0 + 1 + 1 + 14 + 1 + 14 + 1 + 14, 0 + 4 + 12 + 200 + 12 + 200 + 12 + 200)) (Eq.symm (show t2.2.1 10010 x 0 = some a0 from (rOO (by decide)).symm.trans O3.2.2.2.1) : some a0 = t2.2.1 10010 x 0)) ?_
  show WG _ _ _ _ _ _ _ (23, [(1, vI (nI (0 + 1 + 1 + 1))), (0, vR (some x))], [vR (some a0)], sO t2 100002 a0 (0 + 1 + 1) (some q2), 0 + 1 + 1 + 14 + 1 + 14 + 1 + 14, 0 + 4 + 12 + 200 + 12 + 200 + 12 + 200)
  refine w_run 1 (S' := (24, [(1, vI (nI (0 + 1 + 1 + 1))), (0, vR (some x))], [vI (nI (0 + 1 + 1 + 1)), vR (some a0)], sO t2 100002 a0 (0 + 1 + 1) (some q2), 0 + 1 + 1 + 14 + 1 + 14 + 1 + 14, 0 + 4 + 12 + 200 + 12 + 200 + 12 + 200)) rfl ?_
  refine w_new (k := 2) rfl rfl 2 rfl rfl (by simp only [RM]; omega) (by simp only [RM]; show _ + 12 ≤ _; omega) (fun q3 hq3 hq3e => ?_)
  have hn_x : x ≠ q3 := ne0 (O3.2.1) hq3 (by decide)
  have hk_x : (sN (sO t2 100002 a0 (0 + 1 + 1) (some q2)) q3 2).2.2.2 x = 1 := by simp only [sN]; rw [if_neg hn_x]; exact O3.2.1
  have hn_a0 : a0 ≠ q3 := ne0 (O3.2.2.1) hq3 (by decide)
  have hk_a0 : (sN (sO t2 100002 a0 (0 + 1 + 1) (some q2)) q3 2).2.2.2 a0 = 10 := by simp only [sN]; rw [if_neg hn_a0]; exact O3.2.2.1
  have hn_q2 : q2 ≠ q3 := ne0 (hkq9_2) hq3 (by decide)
  have hk_q2 : (sN (sO t2 100002 a0 (0 + 1 + 1) (some q2)) q3 2).2.2.2 q2 = 2 := by simp only [sN]; rw [if_neg hn_q2]; exact hkq9_2
  have hkq3 : (sN (sO t2 100002 a0 (0 + 1 + 1) (some q2)) q3 2).2.2.2 q3 = 2 := by simp [sN]
  show WG _ _ _ _ _ _ _ (27, [(1, vI (nI (0 + 1 + 1 + 1))), (0, vR (some x))], [vR (some q3), vI (nI (0 + 1 + 1 + 1)), vR (some a0)], sN (sO t2 100002 a0 (0 + 1 + 1) (some q2)) q3 2, 0 + 1 + 1 + 14 + 1 + 14 + 1 + 14 + 1, 0 + 4 + 12 + 200 + 12 + 200 + 12 + 200 + 12)
  refine w_run 2 (S' := (29, [(1, vI (nI (0 + 1 + 1 + 1))), (0, vR (some x))], [vI (nI (0 + 1 + 1 + 1)), vR (some q3), vR (some q3), vI (nI (0 + 1 + 1 + 1)), vR (some a0)], sN (sO t2 100002 a0 (0 + 1 + 1) (some q2)) q3 2, 0 + 1 + 1 + 14 + 1 + 14 + 1 + 14 + 1, 0 + 4 + 12 + 200 + 12 + 200 + 12 + 200 + 12)) rfl ?_
  refine w_callI (st := [vR (some q3), vI (nI (0 + 1 + 1 + 1)), vR (some a0)]) [vI (nI (0 + 1 + 1 + 1))] rfl ml_0_15 rfl rfl (by simp only [RM]; omega) (by simp only [RM]; show 8 + (2 + 11) + _ ≤ _; omega) rfl (by simp only [RM]; omega) (by simp only [RM]; omega) (c_pr_init l E (d - 1) (sN (sO t2 100002 a0 (0 + 1 + 1) (some q2)) q3 2) q3 (nI 3) (by omega) hkq3) ?_
  intro r9 t3 q9
  obtain ⟨e1, P3, hP3⟩ := q9
  subst e1
  have hkq9_3 : t3.2.2.2 q3 = 2 := by have h9 := hP3.2.2.1.1; rw [hP3.1] at h9; exact h9
  have O4 : OdS E x a0 4 (upN (upN (upN (upN (fun _ _ => 0) 0 P0) 1 P1) 2 P2) 3 P3) σ (sO t3 100002 a0 3 (some q3)) := OdS.step O3 hx hq3 hq3e hP3 (by decide)
  show WG _ _ _ _ _ _ _ (32, [(1, vI (nI (0 + 1 + 1 + 1))), (0, vR (some x))], [vR (some q3), vI (nI (0 + 1 + 1 + 1)), vR (some a0)], t3, 0 + 1 + 1 + 14 + 1 + 14 + 1 + 14 + 1 + 14, 0 + 4 + 12 + 200 + 12 + 200 + 12 + 200 + 12 + 200)
  refine w_aast (k := 10) rfl rfl O4.2.2.1 rfl (by decide) rfl hkq9_3 rfl rfl rfl (show vp_in (nI (0 + 1 + 1 + 1)) 4 from (vp_in_nI (by decide) (by decide))) ?_
  show WG _ _ _ _ _ _ _ (33, [(1, vI (nI (0 + 1 + 1 + 1))), (0, vR (some x))], [], sO t3 100002 a0 ((nI (0 + 1 + 1 + 1)).toNatClampNeg) (some q3), 0 + 1 + 1 + 14 + 1 + 14 + 1 + 14 + 1 + 14, 0 + 4 + 12 + 200 + 12 + 200 + 12 + 200 + 12 + 200)
  rw [show (nI (0 + 1 + 1 + 1) : Int32).toNatClampNeg = 0 + 1 + 1 + 1 from nI_clamp (n := 0 + 1 + 1 + 1) (by omega)]
  refine w_run 2 (S' := (14, [(1, vI ((nI (0 + 1 + 1 + 1)) + 1)), (0, vR (some x))], [], sO t3 100002 a0 (0 + 1 + 1 + 1) (some q3), 0 + 1 + 1 + 14 + 1 + 14 + 1 + 14 + 1 + 14, 0 + 4 + 12 + 200 + 12 + 200 + 12 + 200 + 12 + 200)) rfl ?_
  rw [show ((nI (0 + 1 + 1 + 1)) + 1 : Int32) = nI (0 + 1 + 1 + 1 + 1) from by simp only [nl0, nl1, nl2, nl3, nl4, nl5, nl6, nl8, nl9, nl10, nl12, nl15, nl16, nl20, nl24, nl32, nl40, nl64, nl65, nl384, pk_mul, nI_add]]
  show WG _ _ _ _ _ _ _ (14, [(1, vI (nI (0 + 1 + 1 + 1 + 1))), (0, vR (some x))], [], sO t3 100002 a0 (0 + 1 + 1 + 1) (some q3), 0 + 1 + 1 + 14 + 1 + 14 + 1 + 14 + 1 + 14, 0 + 4 + 12 + 200 + 12 + 200 + 12 + 200 + 12 + 200)
  refine w_run 2 (S' := (16, [(1, vI (nI (0 + 1 + 1 + 1 + 1))), (0, vR (some x))], [vI 4, vI (nI (0 + 1 + 1 + 1 + 1))], sO t3 100002 a0 (0 + 1 + 1 + 1) (some q3), 0 + 1 + 1 + 14 + 1 + 14 + 1 + 14 + 1 + 14, 0 + 4 + 12 + 200 + 12 + 200 + 12 + 200 + 12 + 200)) rfl ?_
  refine w_ic_ge rfl (fun c5 => ?_) (fun c5 => (absurd ((nI_leI (a := 4) (b := 0 + 1 + 1 + 1 + 1) (by omega) (by omega)).mpr (by omega)) c5))
  have nc5 := (nI_leI (a := 4) (b := 0 + 1 + 1 + 1 + 1) (by omega) (by omega)).mp c5
  exact w_vret rfl rfl (by omega) (by omega) (⟨rfl, a0, _, O4⟩)

