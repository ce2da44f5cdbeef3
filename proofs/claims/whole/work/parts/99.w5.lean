/-! the model, made -/
def MoS (E : FE) (m k : Nat) (v : Int32) (A : Nat → Nat) (σ τ : Sg) : Prop := (∃ S, GrA E m S σ τ ∧ ∀ y, y ∈ S → ∃ j, j < k ∧ y = A j) ∧ τ.2.2.2 m = 50 ∧ (∀ j, j < k → τ.2.1 (mcd j) m 0 = some (A j) ∧ τ.2.2.2 (A j) = 51 + j ∧ ∀ c i, c % 10000 ≠ 9900 → τ.1 c (A j) i = 0) ∧ τ.1 500300 m 0 = v ∧ (∀ c i, c ≠ 500300 → τ.1 c m i = σ.1 c m i) ∧ (WF σ → WF τ)
theorem mcd_inj : ∀ i, i < 31 → ∀ j, j < 31 → mcd i = mcd j → i = j := by decide
theorem mcd_k : ∀ i, i < 31 → mcd i % 100 = 51 + i := by decide
theorem MoS.z {E : FE} {m : Nat} {σ : Sg} (hm : σ.2.2.2 m = 50) : MoS E m 0 (σ.1 500300 m 0) (fun _ => 0) σ σ := ⟨⟨[], GrA.nil, fun y hy => (by cases hy)⟩, hm, fun j hj => by omega, rfl, fun _ _ _ => rfl, fun h => h⟩
theorem MoS.i {E : FE} {m k : Nat} {v v' : Int32} {A : Nat → Nat} {σ τ : Sg} (h : MoS E m k v A σ τ) : MoS E m k v' A σ (sI τ 500300 m 0 v') := by
  obtain ⟨⟨S, h1, h2⟩, h3, h4, h5, h6, h7⟩ := h
  refine ⟨⟨S, h1.i (Or.inl rfl), h2⟩, h3, fun j hj => ⟨(h4 j hj).1, (h4 j hj).2.1, fun c i hc => ?_⟩, rIs, fun c i hc => (rII hc).trans (h6 c i hc), fun hw => WF.i (h7 hw)⟩
  have ne : A j ≠ m := fun e => by have h9 := (h4 j hj).2.1; rw [e, h3] at h9; omega
  rw [show (sI τ 500300 m 0 v').1 c (A j) i = τ.1 c (A j) i from rIe (fun z => ne z.2)]
  exact (h4 j hj).2.2 c i hc
set_option maxRecDepth 20000 in
theorem MoS.step {E : FE} {m k n q : Nat} {v : Int32} {A : Nat → Nat} {σ τ : Sg} (h : MoS E m k v A σ τ) (h0 : τ.2.2.2 q = 0) (he : q ≠ fe E) (hk : k < 31) : MoS E m (k + 1) v (upN A k q) σ (sO (sA τ q (51 + k) n) (mcd k) m 0 (some q)) := by
  obtain ⟨⟨S, h1, h2⟩, h3, h4, h5, h6, h7⟩ := h
  have nq : ∀ {y}, τ.2.2.2 y ≠ 0 → y ≠ q := fun hy e => hy (by rw [e]; exact h0)
  have mz : τ.2.2.2 m ≠ 0 := by rw [h3]; decide
  have kq : (sA τ q (51 + k) n).2.2.2 q = 51 + k := by simp [sA, sI, sN]
  have kA : ∀ {y}, τ.2.2.2 y ≠ 0 → (sA τ q (51 + k) n).2.2.2 y = τ.2.2.2 y := fun hy => by simp [sA, sI, sN, nq hy]
  have rA : ∀ {y} (c i : Nat), τ.2.2.2 y ≠ 0 → (sA τ q (51 + k) n).1 c y i = τ.1 c y i ∧ (sA τ q (51 + k) n).2.1 c y i = τ.2.1 c y i := fun c i hy => by simp [sA, sI, sN, nq hy]
  refine ⟨⟨q :: S, (h1.A h0 he (by omega)).o (Or.inl rfl), fun y hy => ?_⟩, (kA mz).trans h3, fun j hj => ?_, (rA _ _ mz).1.trans h5, fun c i hc => (rA _ _ mz).1.trans (h6 c i hc), fun hw => WF.oS (WF.i (WF.n (h7 hw) h0)) (fun _ => by rw [mcd_k k hk]; exact kq)⟩
  · rcases List.mem_cons.mp hy with rfl | m9
    · exact ⟨k, by omega, by rw [upN_s]⟩
    · obtain ⟨j, b1, b2⟩ := h2 y m9
      exact ⟨j, by omega, by rw [upN_n (by omega)]; exact b2⟩
  · by_cases e : j = k
    · subst e
      rw [upN_s]
      refine ⟨rOs, kq, fun c i hc => ?_⟩
      show (if c = 10000 * (51 + j) + 9900 ∧ q = q ∧ i = 0 then nI n else (if q = q then 0 else τ.1 c q i)) = 0
      rw [if_neg (fun z => hc (by rw [z.1]; omega)), if_pos rfl]
    · rw [upN_n e]
      obtain ⟨b1, b2, b3⟩ := h4 j (by omega)
      have yz : τ.2.2.2 (A j) ≠ 0 := by rw [b2]; omega
      refine ⟨?_, (kA yz).trans b2, fun c i hc => (rA _ _ yz).1.trans (b3 c i hc)⟩
      rw [rOO (fun z => e (mcd_inj j (by omega) k hk z)), (rA _ _ mz).2]; exact b1
set_option maxRecDepth 20000 in
set_option maxHeartbeats 4000000 in
theorem c_mo_init (l : Launch) (E : FE) (d : Nat) (σ : Sg) (m : Nat) (hd : 2 ≤ d) (hm : σ.2.2.2 m = 50) : CT l E d 70 [vR (some m)] σ 31 7132 (fun r σ' => r = none ∧ ∃ A, MoS E m 31 (-1) A σ σ') (fun _ _ => False) := by
  refine CTo ok_mo_init (by decide +kernel) rfl rfl rfl ?_
  refine w_run 1 (S' := (1, [(0, vR (some m))], [vR (some m)], σ, 0, 0)) rfl ?_
  refine w_objI rfl mo_10_1 rfl rfl (by simp only [RM]; omega) (by simp only [RM]; omega) ?_
  refine w_run 2 (S' := (6, [(0, vR (some m))], [vI 4, vR (some m)], σ, 0, 0)) rfl ?_
  refine w_newaZ (k := 51) (N := 4) rfl rfl (by omega) 51 rfl rfl (Or.inr rfl) (by simp only [RM]; omega) (by simp only [RM]; omega) (fun q0 hq0 hq0e => ?_)
  have hn_m : m ≠ q0 := ne0 (hm) hq0 (by decide)
  have hk_m : (sA σ q0 51 4).2.2.2 m = 50 := by simp only [sA, sI, sN]; rw [if_neg hn_m]; exact hm
  have hkq0 : (sA σ q0 51 4).2.2.2 q0 = 51 := by simp [sA, sI, sN]
  show WG _ _ _ _ _ _ _ (8, [(0, vR (some m))], [vR (some q0), vR (some m)], sA σ q0 51 4, 0 + 1, 0 + 4)
  refine w_putr (k := 50) rfl rfl rfl hk_m rfl rfl (fun b9 h9 _ => by have e9 := (rfl : some q0 = some q0).symm.trans h9; cases e9; exact hkq0) rfl (Or.inr ⟨rfl, rfl⟩) ?_
  show WG _ _ _ _ _ _ _ (11, [(0, vR (some m))], [], sO (sA σ q0 51 4) 500151 m 0 (some q0), 0 + 1, 0 + 4)
  have M0 := MoS.z (E := E) hm
  have M1 := MoS.step (n := 4) M0 hq0 hq0e (by decide)
  have M1 : MoS E m 1 _ _ σ (sO (sA σ q0 51 4) 500151 m 0 (some q0)) := M1
  generalize sO (sA σ q0 51 4) 500151 m 0 (some q0) = t1 at M1 ⊢
  show WG _ _ _ _ _ _ _ (11, [(0, vR (some m))], [], t1, 0 + 1, 0 + 4)
  refine w_run 2 (S' := (13, [(0, vR (some m))], [vI 4, vR (some m)], t1, 0 + 1, 0 + 4)) rfl ?_
  refine w_newaI (k := 52) (N := 4) rfl rfl (by omega) 52 rfl rfl (Or.inr rfl) (by simp only [RM]; omega) (by simp only [RM]; omega) (fun q1 hq1 hq1e => ?_)
  have hn_m : m ≠ q1 := ne0 (M1.2.1) hq1 (by decide)
  have hk_m : (sA t1 q1 52 4).2.2.2 m = 50 := by simp only [sA, sI, sN]; rw [if_neg hn_m]; exact M1.2.1
  have hkq1 : (sA t1 q1 52 4).2.2.2 q1 = 52 := by simp [sA, sI, sN]
  show WG _ _ _ _ _ _ _ (15, [(0, vR (some m))], [vR (some q1), vR (some m)], sA t1 q1 52 4, 0 + 1 + 1, 0 + 4 + 4)
  refine w_putr (k := 50) rfl rfl rfl hk_m rfl rfl (fun b9 h9 _ => by have e9 := (rfl : some q1 = some q1).symm.trans h9; cases e9; exact hkq1) rfl (Or.inr ⟨rfl, rfl⟩) ?_
  show WG _ _ _ _ _ _ _ (18, [(0, vR (some m))], [], sO (sA t1 q1 52 4) 500252 m 0 (some q1), 0 + 1 + 1, 0 + 4 + 4)
  have M2 := MoS.step (n := 4) M1 hq1 hq1e (by decide)
  have M2 : MoS E m 2 _ _ σ (sO (sA t1 q1 52 4) 500252 m 0 (some q1)) := M2
  generalize sO (sA t1 q1 52 4) 500252 m 0 (some q1) = t2 at M2 ⊢
  show WG _ _ _ _ _ _ _ (18, [(0, vR (some m))], [], t2, 0 + 1 + 1, 0 + 4 + 4)
  refine w_run 2 (S' := (20, [(0, vR (some m))], [vI (-1), vR (some m)], t2, 0 + 1 + 1, 0 + 4 + 4)) rfl ?_
  refine w_puti (k := 50) rfl rfl rfl M2.2.1 rfl rfl (Or.inl rfl) (Or.inl rfl) ?_
  show WG _ _ _ _ _ _ _ (23, [(0, vR (some m))], [], sI t2 500300 m 0 (-1), 0 + 1 + 1, 0 + 4 + 4)
  have M2i : MoS E m 2 (-1) _ σ (sI t2 500300 m 0 (-1)) := M2.i
  generalize sI t2 500300 m 0 (-1) = t2i at M2i ⊢
  show WG _ _ _ _ _ _ _ (23, [(0, vR (some m))], [], t2i, 0 + 1 + 1, 0 + 4 + 4)
  refine w_run 2 (S' := (26, [(0, vR (some m))], [vI 40, vR (some m)], t2i, 0 + 1 + 1, 0 + 4 + 4)) rfl ?_
  refine w_newaZ (k := 53) (N := 40) rfl rfl (by omega) 53 rfl rfl (Or.inr rfl) (by simp only [RM]; omega) (by simp only [RM]; omega) (fun q2 hq2 hq2e => ?_)
  have hn_m : m ≠ q2 := ne0 (M2i.2.1) hq2 (by decide)
  have hk_m : (sA t2i q2 53 40).2.2.2 m = 50 := by simp only [sA, sI, sN]; rw [if_neg hn_m]; exact M2i.2.1
  have hkq2 : (sA t2i q2 53 40).2.2.2 q2 = 53 := by simp [sA, sI, sN]
  show WG _ _ _ _ _ _ _ (28, [(0, vR (some m))], [vR (some q2), vR (some m)], sA t2i q2 53 40, 0 + 1 + 1 + 1, 0 + 4 + 4 + 40)
  refine w_putr (k := 50) rfl rfl rfl hk_m rfl rfl (fun b9 h9 _ => by have e9 := (rfl : some q2 = some q2).symm.trans h9; cases e9; exact hkq2) rfl (Or.inr ⟨rfl, rfl⟩) ?_
  show WG _ _ _ _ _ _ _ (31, [(0, vR (some m))], [], sO (sA t2i q2 53 40) 500453 m 0 (some q2), 0 + 1 + 1 + 1, 0 + 4 + 4 + 40)
  have M3 := MoS.step (n := 40) M2i hq2 hq2e (by decide)
  have M3 : MoS E m 3 _ _ σ (sO (sA t2i q2 53 40) 500453 m 0 (some q2)) := M3
  generalize sO (sA t2i q2 53 40) 500453 m 0 (some q2) = t3 at M3 ⊢
  show WG _ _ _ _ _ _ _ (31, [(0, vR (some m))], [], t3, 0 + 1 + 1 + 1, 0 + 4 + 4 + 40)
  refine w_run 2 (S' := (34, [(0, vR (some m))], [vI 64, vR (some m)], t3, 0 + 1 + 1 + 1, 0 + 4 + 4 + 40)) rfl ?_
  refine w_newaI (k := 54) (N := 64) rfl rfl (by omega) 54 rfl rfl (Or.inr rfl) (by simp only [RM]; omega) (by simp only [RM]; omega) (fun q3 hq3 hq3e => ?_)
  have hn_m : m ≠ q3 := ne0 (M3.2.1) hq3 (by decide)
  have hk_m : (sA t3 q3 54 64).2.2.2 m = 50 := by simp only [sA, sI, sN]; rw [if_neg hn_m]; exact M3.2.1
  have hkq3 : (sA t3 q3 54 64).2.2.2 q3 = 54 := by simp [sA, sI, sN]
  show WG _ _ _ _ _ _ _ (36, [(0, vR (some m))], [vR (some q3), vR (some m)], sA t3 q3 54 64, 0 + 1 + 1 + 1 + 1, 0 + 4 + 4 + 40 + 64)
  refine w_putr (k := 50) rfl rfl rfl hk_m rfl rfl (fun b9 h9 _ => by have e9 := (rfl : some q3 = some q3).symm.trans h9; cases e9; exact hkq3) rfl (Or.inr ⟨rfl, rfl⟩) ?_
  show WG _ _ _ _ _ _ _ (39, [(0, vR (some m))], [], sO (sA t3 q3 54 64) 500554 m 0 (some q3), 0 + 1 + 1 + 1 + 1, 0 + 4 + 4 + 40 + 64)
  have M4 := MoS.step (n := 64) M3 hq3 hq3e (by decide)
  have M4 : MoS E m 4 _ _ σ (sO (sA t3 q3 54 64) 500554 m 0 (some q3)) := M4
  generalize sO (sA t3 q3 54 64) 500554 m 0 (some q3) = t4 at M4 ⊢
  show WG _ _ _ _ _ _ _ (39, [(0, vR (some m))], [], t4, 0 + 1 + 1 + 1 + 1, 0 + 4 + 4 + 40 + 64)
  refine w_run 2 (S' := (42, [(0, vR (some m))], [vI 64, vR (some m)], t4, 0 + 1 + 1 + 1 + 1, 0 + 4 + 4 + 40 + 64)) rfl ?_
  refine w_newaI (k := 55) (N := 64) rfl rfl (by omega) 55 rfl rfl (Or.inr rfl) (by simp only [RM]; omega) (by simp only [RM]; omega) (fun q4 hq4 hq4e => ?_)
  have hn_m : m ≠ q4 := ne0 (M4.2.1) hq4 (by decide)
  have hk_m : (sA t4 q4 55 64).2.2.2 m = 50 := by simp only [sA, sI, sN]; rw [if_neg hn_m]; exact M4.2.1
  have hkq4 : (sA t4 q4 55 64).2.2.2 q4 = 55 := by simp [sA, sI, sN]
  show WG _ _ _ _ _ _ _ (44, [(0, vR (some m))], [vR (some q4), vR (some m)], sA t4 q4 55 64, 0 + 1 + 1 + 1 + 1 + 1, 0 + 4 + 4 + 40 + 64 + 64)
  refine w_putr (k := 50) rfl rfl rfl hk_m rfl rfl (fun b9 h9 _ => by have e9 := (rfl : some q4 = some q4).symm.trans h9; cases e9; exact hkq4) rfl (Or.inr ⟨rfl, rfl⟩) ?_
  show WG _ _ _ _ _ _ _ (47, [(0, vR (some m))], [], sO (sA t4 q4 55 64) 500655 m 0 (some q4), 0 + 1 + 1 + 1 + 1 + 1, 0 + 4 + 4 + 40 + 64 + 64)
  have M5 := MoS.step (n := 64) M4 hq4 hq4e (by decide)
  have M5 : MoS E m 5 _ _ σ (sO (sA t4 q4 55 64) 500655 m 0 (some q4)) := M5
  generalize sO (sA t4 q4 55 64) 500655 m 0 (some q4) = t5 at M5 ⊢
  show WG _ _ _ _ _ _ _ (47, [(0, vR (some m))], [], t5, 0 + 1 + 1 + 1 + 1 + 1, 0 + 4 + 4 + 40 + 64 + 64)
  refine w_run 2 (S' := (50, [(0, vR (some m))], [vI 64, vR (some m)], t5, 0 + 1 + 1 + 1 + 1 + 1, 0 + 4 + 4 + 40 + 64 + 64)) rfl ?_
  refine w_newaI (k := 56) (N := 64) rfl rfl (by omega) 56 rfl rfl (Or.inr rfl) (by simp only [RM]; omega) (by simp only [RM]; omega) (fun q5 hq5 hq5e => ?_)
  have hn_m : m ≠ q5 := ne0 (M5.2.1) hq5 (by decide)
  have hk_m : (sA t5 q5 56 64).2.2.2 m = 50 := by simp only [sA, sI, sN]; rw [if_neg hn_m]; exact M5.2.1
  have hkq5 : (sA t5 q5 56 64).2.2.2 q5 = 56 := by simp [sA, sI, sN]
  show WG _ _ _ _ _ _ _ (52, [(0, vR (some m))], [vR (some q5), vR (some m)], sA t5 q5 56 64, 0 + 1 + 1 + 1 + 1 + 1 + 1, 0 + 4 + 4 + 40 + 64 + 64 + 64)
  refine w_putr (k := 50) rfl rfl rfl hk_m rfl rfl (fun b9 h9 _ => by have e9 := (rfl : some q5 = some q5).symm.trans h9; cases e9; exact hkq5) rfl (Or.inr ⟨rfl, rfl⟩) ?_
  show WG _ _ _ _ _ _ _ (55, [(0, vR (some m))], [], sO (sA t5 q5 56 64) 500756 m 0 (some q5), 0 + 1 + 1 + 1 + 1 + 1 + 1, 0 + 4 + 4 + 40 + 64 + 64 + 64)
  have M6 := MoS.step (n := 64) M5 hq5 hq5e (by decide)
  have M6 : MoS E m 6 _ _ σ (sO (sA t5 q5 56 64) 500756 m 0 (some q5)) := M6
  generalize sO (sA t5 q5 56 64) 500756 m 0 (some q5) = t6 at M6 ⊢
  show WG _ _ _ _ _ _ _ (55, [(0, vR (some m))], [], t6, 0 + 1 + 1 + 1 + 1 + 1 + 1, 0 + 4 + 4 + 40 + 64 + 64 + 64)
  refine w_run 2 (S' := (57, [(0, vR (some m))], [vI 4, vR (some m)], t6, 0 + 1 + 1 + 1 + 1 + 1 + 1, 0 + 4 + 4 + 40 + 64 + 64 + 64)) rfl ?_
  refine w_newaI (k := 57) (N := 4) rfl rfl (by omega) 57 rfl rfl (Or.inr rfl) (by simp only [RM]; omega) (by simp only [RM]; omega) (fun q6 hq6 hq6e => ?_)
  have hn_m : m ≠ q6 := ne0 (M6.2.1) hq6 (by decide)
  have hk_m : (sA t6 q6 57 4).2.2.2 m = 50 := by simp only [sA, sI, sN]; rw [if_neg hn_m]; exact M6.2.1
  have hkq6 : (sA t6 q6 57 4).2.2.2 q6 = 57 := by simp [sA, sI, sN]
  show WG _ _ _ _ _ _ _ (59, [(0, vR (some m))], [vR (some q6), vR (some m)], sA t6 q6 57 4, 0 + 1 + 1 + 1 + 1 + 1 + 1 + 1, 0 + 4 + 4 + 40 + 64 + 64 + 64 + 4)
  refine w_putr (k := 50) rfl rfl rfl hk_m rfl rfl (fun b9 h9 _ => by have e9 := (rfl : some q6 = some q6).symm.trans h9; cases e9; exact hkq6) rfl (Or.inr ⟨rfl, rfl⟩) ?_
  show WG _ _ _ _ _ _ _ (62, [(0, vR (some m))], [], sO (sA t6 q6 57 4) 500857 m 0 (some q6), 0 + 1 + 1 + 1 + 1 + 1 + 1 + 1, 0 + 4 + 4 + 40 + 64 + 64 + 64 + 4)
  have M7 := MoS.step (n := 4) M6 hq6 hq6e (by decide)
  have M7 : MoS E m 7 _ _ σ (sO (sA t6 q6 57 4) 500857 m 0 (some q6)) := M7
  generalize sO (sA t6 q6 57 4) 500857 m 0 (some q6) = t7 at M7 ⊢
  show WG _ _ _ _ _ _ _ (62, [(0, vR (some m))], [], t7, 0 + 1 + 1 + 1 + 1 + 1 + 1 + 1, 0 + 4 + 4 + 40 + 64 + 64 + 64 + 4)
  refine w_run 2 (S' := (64, [(0, vR (some m))], [vI 4, vR (some m)], t7, 0 + 1 + 1 + 1 + 1 + 1 + 1 + 1, 0 + 4 + 4 + 40 + 64 + 64 + 64 + 4)) rfl ?_
  refine w_newaI (k := 58) (N := 4) rfl rfl (by omega) 58 rfl rfl (Or.inr rfl) (by simp only [RM]; omega) (by simp only [RM]; omega) (fun q7 hq7 hq7e => ?_)
  have hn_m : m ≠ q7 := ne0 (M7.2.1) hq7 (by decide)
  have hk_m : (sA t7 q7 58 4).2.2.2 m = 50 := by simp only [sA, sI, sN]; rw [if_neg hn_m]; exact M7.2.1
  have hkq7 : (sA t7 q7 58 4).2.2.2 q7 = 58 := by simp [sA, sI, sN]
  show WG _ _ _ _ _ _ _ (66, [(0, vR (some m))], [vR (some q7), vR (some m)], sA t7 q7 58 4, 0 + 1 + 1 + 1 + 1 + 1 + 1 + 1 + 1, 0 + 4 + 4 + 40 + 64 + 64 + 64 + 4 + 4)
  refine w_putr (k := 50) rfl rfl rfl hk_m rfl rfl (fun b9 h9 _ => by have e9 := (rfl : some q7 = some q7).symm.trans h9; cases e9; exact hkq7) rfl (Or.inr ⟨rfl, rfl⟩) ?_
  show WG _ _ _ _ _ _ _ (69, [(0, vR (some m))], [], sO (sA t7 q7 58 4) 500958 m 0 (some q7), 0 + 1 + 1 + 1 + 1 + 1 + 1 + 1 + 1, 0 + 4 + 4 + 40 + 64 + 64 + 64 + 4 + 4)
  have M8 := MoS.step (n := 4) M7 hq7 hq7e (by decide)
  have M8 : MoS E m 8 _ _ σ (sO (sA t7 q7 58 4) 500958 m 0 (some q7)) := M8
  generalize sO (sA t7 q7 58 4) 500958 m 0 (some q7) = t8 at M8 ⊢
  show WG _ _ _ _ _ _ _ (69, [(0, vR (some m))], [], t8, 0 + 1 + 1 + 1 + 1 + 1 + 1 + 1 + 1, 0 + 4 + 4 + 40 + 64 + 64 + 64 + 4 + 4)
  refine w_run 2 (S' := (72, [(0, vR (some m))], [vI 16, vR (some m)], t8, 0 + 1 + 1 + 1 + 1 + 1 + 1 + 1 + 1, 0 + 4 + 4 + 40 + 64 + 64 + 64 + 4 + 4)) rfl ?_
  refine w_newaI (k := 59) (N := 16) rfl rfl (by omega) 59 rfl rfl (Or.inr rfl) (by simp only [RM]; omega) (by simp only [RM]; omega) (fun q8 hq8 hq8e => ?_)
  have hn_m : m ≠ q8 := ne0 (M8.2.1) hq8 (by decide)
  have hk_m : (sA t8 q8 59 16).2.2.2 m = 50 := by simp only [sA, sI, sN]; rw [if_neg hn_m]; exact M8.2.1
  have hkq8 : (sA t8 q8 59 16).2.2.2 q8 = 59 := by simp [sA, sI, sN]
  show WG _ _ _ _ _ _ _ (74, [(0, vR (some m))], [vR (some q8), vR (some m)], sA t8 q8 59 16, 0 + 1 + 1 + 1 + 1 + 1 + 1 + 1 + 1 + 1, 0 + 4 + 4 + 40 + 64 + 64 + 64 + 4 + 4 + 16)
  refine w_putr (k := 50) rfl rfl rfl hk_m rfl rfl (fun b9 h9 _ => by have e9 := (rfl : some q8 = some q8).symm.trans h9; cases e9; exact hkq8) rfl (Or.inr ⟨rfl, rfl⟩) ?_
  show WG _ _ _ _ _ _ _ (77, [(0, vR (some m))], [], sO (sA t8 q8 59 16) 501059 m 0 (some q8), 0 + 1 + 1 + 1 + 1 + 1 + 1 + 1 + 1 + 1, 0 + 4 + 4 + 40 + 64 + 64 + 64 + 4 + 4 + 16)
  have M9 := MoS.step (n := 16) M8 hq8 hq8e (by decide)
  have M9 : MoS E m 9 _ _ σ (sO (sA t8 q8 59 16) 501059 m 0 (some q8)) := M9
  generalize sO (sA t8 q8 59 16) 501059 m 0 (some q8) = t9 at M9 ⊢
  show WG _ _ _ _ _ _ _ (77, [(0, vR (some m))], [], t9, 0 + 1 + 1 + 1 + 1 + 1 + 1 + 1 + 1 + 1, 0 + 4 + 4 + 40 + 64 + 64 + 64 + 4 + 4 + 16)
  refine w_run 2 (S' := (80, [(0, vR (some m))], [vI 16, vR (some m)], t9, 0 + 1 + 1 + 1 + 1 + 1 + 1 + 1 + 1 + 1, 0 + 4 + 4 + 40 + 64 + 64 + 64 + 4 + 4 + 16)) rfl ?_
  refine w_newaI (k := 60) (N := 16) rfl rfl (by omega) 60 rfl rfl (Or.inr rfl) (by simp only [RM]; omega) (by simp only [RM]; omega) (fun q9 hq9 hq9e => ?_)
  have hn_m : m ≠ q9 := ne0 (M9.2.1) hq9 (by decide)
  have hk_m : (sA t9 q9 60 16).2.2.2 m = 50 := by simp only [sA, sI, sN]; rw [if_neg hn_m]; exact M9.2.1
  have hkq9 : (sA t9 q9 60 16).2.2.2 q9 = 60 := by simp [sA, sI, sN]
  show WG _ _ _ _ _ _ _ (82, [(0, vR (some m))], [vR (some q9), vR (some m)], sA t9 q9 60 16, 0 + 1 + 1 + 1 + 1 + 1 + 1 + 1 + 1 + 1 + 1, 0 + 4 + 4 + 40 + 64 + 64 + 64 + 4 + 4 + 16 + 16)
  refine w_putr (k := 50) rfl rfl rfl hk_m rfl rfl (fun b9 h9 _ => by have e9 := (rfl : some q9 = some q9).symm.trans h9; cases e9; exact hkq9) rfl (Or.inr ⟨rfl, rfl⟩) ?_
  show WG _ _ _ _ _ _ _ (85, [(0, vR (some m))], [], sO (sA t9 q9 60 16) 501160 m 0 (some q9), 0 + 1 + 1 + 1 + 1 + 1 + 1 + 1 + 1 + 1 + 1, 0 + 4 + 4 + 40 + 64 + 64 + 64 + 4 + 4 + 16 + 16)
  have M10 := MoS.step (n := 16) M9 hq9 hq9e (by decide)
  have M10 : MoS E m 10 _ _ σ (sO (sA t9 q9 60 16) 501160 m 0 (some q9)) := M10
  generalize sO (sA t9 q9 60 16) 501160 m 0 (some q9) = t10 at M10 ⊢
  show WG _ _ _ _ _ _ _ (85, [(0, vR (some m))], [], t10, 0 + 1 + 1 + 1 + 1 + 1 + 1 + 1 + 1 + 1 + 1, 0 + 4 + 4 + 40 + 64 + 64 + 64 + 4 + 4 + 16 + 16)
  refine w_run 2 (S' := (89, [(0, vR (some m))], [vI 256, vR (some m)], t10, 0 + 1 + 1 + 1 + 1 + 1 + 1 + 1 + 1 + 1 + 1, 0 + 4 + 4 + 40 + 64 + 64 + 64 + 4 + 4 + 16 + 16)) rfl ?_
  refine w_newaI (k := 61) (N := 256) rfl rfl (by omega) 61 rfl rfl (Or.inr rfl) (by simp only [RM]; omega) (by simp only [RM]; omega) (fun q10 hq10 hq10e => ?_)
  have hn_m : m ≠ q10 := ne0 (M10.2.1) hq10 (by decide)
  have hk_m : (sA t10 q10 61 256).2.2.2 m = 50 := by simp only [sA, sI, sN]; rw [if_neg hn_m]; exact M10.2.1
  have hkq10 : (sA t10 q10 61 256).2.2.2 q10 = 61 := by simp [sA, sI, sN]
  show WG _ _ _ _ _ _ _ (91, [(0, vR (some m))], [vR (some q10), vR (some m)], sA t10 q10 61 256, 0 + 1 + 1 + 1 + 1 + 1 + 1 + 1 + 1 + 1 + 1 + 1, 0 + 4 + 4 + 40 + 64 + 64 + 64 + 4 + 4 + 16 + 16 + 256)
  refine w_putr (k := 50) rfl rfl rfl hk_m rfl rfl (fun b9 h9 _ => by have e9 := (rfl : some q10 = some q10).symm.trans h9; cases e9; exact hkq10) rfl (Or.inr ⟨rfl, rfl⟩) ?_
  show WG _ _ _ _ _ _ _ (94, [(0, vR (some m))], [], sO (sA t10 q10 61 256) 501261 m 0 (some q10), 0 + 1 + 1 + 1 + 1 + 1 + 1 + 1 + 1 + 1 + 1 + 1, 0 + 4 + 4 + 40 + 64 + 64 + 64 + 4 + 4 + 16 + 16 + 256)
  have M11 := MoS.step (n := 256) M10 hq10 hq10e (by decide)
  have M11 : MoS E m 11 _ _ σ (sO (sA t10 q10 61 256) 501261 m 0 (some q10)) := M11
  generalize sO (sA t10 q10 61 256) 501261 m 0 (some q10) = t11 at M11 ⊢
  show WG _ _ _ _ _ _ _ (94, [(0, vR (some m))], [], t11, 0 + 1 + 1 + 1 + 1 + 1 + 1 + 1 + 1 + 1 + 1 + 1, 0 + 4 + 4 + 40 + 64 + 64 + 64 + 4 + 4 + 16 + 16 + 256)
  refine w_run 2 (S' := (98, [(0, vR (some m))], [vI 256, vR (some m)], t11, 0 + 1 + 1 + 1 + 1 + 1 + 1 + 1 + 1 + 1 + 1 + 1, 0 + 4 + 4 + 40 + 64 + 64 + 64 + 4 + 4 + 16 + 16 + 256)) rfl ?_
  refine w_newaI (k := 62) (N := 256) rfl rfl (by omega) 62 rfl rfl (Or.inr rfl) (by simp only [RM]; omega) (by simp only [RM]; omega) (fun q11 hq11 hq11e => ?_)
  have hn_m : m ≠ q11 := ne0 (M11.2.1) hq11 (by decide)
  have hk_m : (sA t11 q11 62 256).2.2.2 m = 50 := by simp only [sA, sI, sN]; rw [if_neg hn_m]; exact M11.2.1
  have hkq11 : (sA t11 q11 62 256).2.2.2 q11 = 62 := by simp [sA, sI, sN]
  show WG _ _ _ _ _ _ _ (100, [(0, vR (some m))], [vR (some q11), vR (some m)], sA t11 q11 62 256, 0 + 1 + 1 + 1 + 1 + 1 + 1 + 1 + 1 + 1 + 1 + 1 + 1, 0 + 4 + 4 + 40 + 64 + 64 + 64 + 4 + 4 + 16 + 16 + 256 + 256)
  refine w_putr (k := 50) rfl rfl rfl hk_m rfl rfl (fun b9 h9 _ => by have e9 := (rfl : some q11 = some q11).symm.trans h9; cases e9; exact hkq11) rfl (Or.inr ⟨rfl, rfl⟩) ?_
  show WG _ _ _ _ _ _ _ (103, [(0, vR (some m))], [], sO (sA t11 q11 62 256) 501362 m 0 (some q11), 0 + 1 + 1 + 1 + 1 + 1 + 1 + 1 + 1 + 1 + 1 + 1 + 1, 0 + 4 + 4 + 40 + 64 + 64 + 64 + 4 + 4 + 16 + 16 + 256 + 256)
  have M12 := MoS.step (n := 256) M11 hq11 hq11e (by decide)
  have M12 : MoS E m 12 _ _ σ (sO (sA t11 q11 62 256) 501362 m 0 (some q11)) := M12
  generalize sO (sA t11 q11 62 256) 501362 m 0 (some q11) = t12 at M12 ⊢
  show WG _ _ _ _ _ _ _ (103, [(0, vR (some m))], [], t12, 0 + 1 + 1 + 1 + 1 + 1 + 1 + 1 + 1 + 1 + 1 + 1 + 1, 0 + 4 + 4 + 40 + 64 + 64 + 64 + 4 + 4 + 16 + 16 + 256 + 256)
  refine w_run 2 (S' := (107, [(0, vR (some m))], [vI 256, vR (some m)], t12, 0 + 1 + 1 + 1 + 1 + 1 + 1 + 1 + 1 + 1 + 1 + 1 + 1, 0 + 4 + 4 + 40 + 64 + 64 + 64 + 4 + 4 + 16 + 16 + 256 + 256)) rfl ?_
  refine w_newaI (k := 63) (N := 256) rfl rfl (by omega) 63 rfl rfl (Or.inr rfl) (by simp only [RM]; omega) (by simp only [RM]; omega) (fun q12 hq12 hq12e => ?_)
  have hn_m : m ≠ q12 := ne0 (M12.2.1) hq12 (by decide)
  have hk_m : (sA t12 q12 63 256).2.2.2 m = 50 := by simp only [sA, sI, sN]; rw [if_neg hn_m]; exact M12.2.1
  have hkq12 : (sA t12 q12 63 256).2.2.2 q12 = 63 := by simp [sA, sI, sN]
  show WG _ _ _ _ _ _ _ (109, [(0, vR (some m))], [vR (some q12), vR (some m)], sA t12 q12 63 256, 0 + 1 + 1 + 1 + 1 + 1 + 1 + 1 + 1 + 1 + 1 + 1 + 1 + 1, 0 + 4 + 4 + 40 + 64 + 64 + 64 + 4 + 4 + 16 + 16 + 256 + 256 + 256)
  refine w_putr (k := 50) rfl rfl rfl hk_m rfl rfl (fun b9 h9 _ => by have e9 := (rfl : some q12 = some q12).symm.trans h9; cases e9; exact hkq12) rfl (Or.inr ⟨rfl, rfl⟩) ?_
  show WG _ _ _ _ _ _ _ (112, [(0, vR (some m))], [], sO (sA t12 q12 63 256) 501463 m 0 (some q12), 0 + 1 + 1 + 1 + 1 + 1 + 1 + 1 + 1 + 1 + 1 + 1 + 1 + 1, 0 + 4 + 4 + 40 + 64 + 64 + 64 + 4 + 4 + 16 + 16 + 256 + 256 + 256)
  have M13 := MoS.step (n := 256) M12 hq12 hq12e (by decide)
  have M13 : MoS E m 13 _ _ σ (sO (sA t12 q12 63 256) 501463 m 0 (some q12)) := M13
  generalize sO (sA t12 q12 63 256) 501463 m 0 (some q12) = t13 at M13 ⊢
  show WG _ _ _ _ _ _ _ (112, [(0, vR (some m))], [], t13, 0 + 1 + 1 + 1 + 1 + 1 + 1 + 1 + 1 + 1 + 1 + 1 + 1 + 1, 0 + 4 + 4 + 40 + 64 + 64 + 64 + 4 + 4 + 16 + 16 + 256 + 256 + 256)
  refine w_run 2 (S' := (116, [(0, vR (some m))], [vI 256, vR (some m)], t13, 0 + 1 + 1 + 1 + 1 + 1 + 1 + 1 + 1 + 1 + 1 + 1 + 1 + 1, 0 + 4 + 4 + 40 + 64 + 64 + 64 + 4 + 4 + 16 + 16 + 256 + 256 + 256)) rfl ?_
  refine w_newaZ (k := 64) (N := 256) rfl rfl (by omega) 64 rfl rfl (Or.inr rfl) (by simp only [RM]; omega) (by simp only [RM]; omega) (fun q13 hq13 hq13e => ?_)
  have hn_m : m ≠ q13 := ne0 (M13.2.1) hq13 (by decide)
  have hk_m : (sA t13 q13 64 256).2.2.2 m = 50 := by simp only [sA, sI, sN]; rw [if_neg hn_m]; exact M13.2.1
  have hkq13 : (sA t13 q13 64 256).2.2.2 q13 = 64 := by simp [sA, sI, sN]
  show WG _ _ _ _ _ _ _ (118, [(0, vR (some m))], [vR (some q13), vR (some m)], sA t13 q13 64 256, 0 + 1 + 1 + 1 + 1 + 1 + 1 + 1 + 1 + 1 + 1 + 1 + 1 + 1 + 1, 0 + 4 + 4 + 40 + 64 + 64 + 64 + 4 + 4 + 16 + 16 + 256 + 256 + 256 + 256)
  refine w_putr (k := 50) rfl rfl rfl hk_m rfl rfl (fun b9 h9 _ => by have e9 := (rfl : some q13 = some q13).symm.trans h9; cases e9; exact hkq13) rfl (Or.inr ⟨rfl, rfl⟩) ?_
  show WG _ _ _ _ _ _ _ (121, [(0, vR (some m))], [], sO (sA t13 q13 64 256) 501564 m 0 (some q13), 0 + 1 + 1 + 1 + 1 + 1 + 1 + 1 + 1 + 1 + 1 + 1 + 1 + 1 + 1, 0 + 4 + 4 + 40 + 64 + 64 + 64 + 4 + 4 + 16 + 16 + 256 + 256 + 256 + 256)
  have M14 := MoS.step (n := 256) M13 hq13 hq13e (by decide)
  have M14 : MoS E m 14 _ _ σ (sO (sA t13 q13 64 256) 501564 m 0 (some q13)) := M14
  generalize sO (sA t13 q13 64 256) 501564 m 0 (some q13) = t14 at M14 ⊢
  show WG _ _ _ _ _ _ _ (121, [(0, vR (some m))], [], t14, 0 + 1 + 1 + 1 + 1 + 1 + 1 + 1 + 1 + 1 + 1 + 1 + 1 + 1 + 1, 0 + 4 + 4 + 40 + 64 + 64 + 64 + 4 + 4 + 16 + 16 + 256 + 256 + 256 + 256)
  refine w_run 2 (S' := (125, [(0, vR (some m))], [vI 256, vR (some m)], t14, 0 + 1 + 1 + 1 + 1 + 1 + 1 + 1 + 1 + 1 + 1 + 1 + 1 + 1 + 1, 0 + 4 + 4 + 40 + 64 + 64 + 64 + 4 + 4 + 16 + 16 + 256 + 256 + 256 + 256)) rfl ?_
  refine w_newaI (k := 65) (N := 256) rfl rfl (by omega) 65 rfl rfl (Or.inr rfl) (by simp only [RM]; omega) (by simp only [RM]; omega) (fun q14 hq14 hq14e => ?_)
  have hn_m : m ≠ q14 := ne0 (M14.2.1) hq14 (by decide)
  have hk_m : (sA t14 q14 65 256).2.2.2 m = 50 := by simp only [sA, sI, sN]; rw [if_neg hn_m]; exact M14.2.1
  have hkq14 : (sA t14 q14 65 256).2.2.2 q14 = 65 := by simp [sA, sI, sN]
  show WG _ _ _ _ _ _ _ (127, [(0, vR (some m))], [vR (some q14), vR (some m)], sA t14 q14 65 256, 0 + 1 + 1 + 1 + 1 + 1 + 1 + 1 + 1 + 1 + 1 + 1 + 1 + 1 + 1 + 1, 0 + 4 + 4 + 40 + 64 + 64 + 64 + 4 + 4 + 16 + 16 + 256 + 256 + 256 + 256 + 256)
  refine w_putr (k := 50) rfl rfl rfl hk_m rfl rfl (fun b9 h9 _ => by have e9 := (rfl : some q14 = some q14).symm.trans h9; cases e9; exact hkq14) rfl (Or.inr ⟨rfl, rfl⟩) ?_
  show WG _ _ _ _ _ _ _ (130, [(0, vR (some m))], [], sO (sA t14 q14 65 256) 501665 m 0 (some q14), 0 + 1 + 1 + 1 + 1 + 1 + 1 + 1 + 1 + 1 + 1 + 1 + 1 + 1 + 1 + 1, 0 + 4 + 4 + 40 + 64 + 64 + 64 + 4 + 4 + 16 + 16 + 256 + 256 + 256 + 256 + 256)
  have M15 := MoS.step (n := 256) M14 hq14 hq14e (by decide)
  have M15 : MoS E m 15 _ _ σ (sO (sA t14 q14 65 256) 501665 m 0 (some q14)) := M15
  generalize sO (sA t14 q14 65 256) 501665 m 0 (some q14) = t15 at M15 ⊢
  show WG _ _ _ _ _ _ _ (130, [(0, vR (some m))], [], t15, 0 + 1 + 1 + 1 + 1 + 1 + 1 + 1 + 1 + 1 + 1 + 1 + 1 + 1 + 1 + 1, 0 + 4 + 4 + 40 + 64 + 64 + 64 + 4 + 4 + 16 + 16 + 256 + 256 + 256 + 256 + 256)
  refine w_run 2 (S' := (134, [(0, vR (some m))], [vI 256, vR (some m)], t15, 0 + 1 + 1 + 1 + 1 + 1 + 1 + 1 + 1 + 1 + 1 + 1 + 1 + 1 + 1 + 1, 0 + 4 + 4 + 40 + 64 + 64 + 64 + 4 + 4 + 16 + 16 + 256 + 256 + 256 + 256 + 256)) rfl ?_
  refine w_newaI (k := 66) (N := 256) rfl rfl (by omega) 66 rfl rfl (Or.inr rfl) (by simp only [RM]; omega) (by simp only [RM]; omega) (fun q15 hq15 hq15e => ?_)
  have hn_m : m ≠ q15 := ne0 (M15.2.1) hq15 (by decide)
  have hk_m : (sA t15 q15 66 256).2.2.2 m = 50 := by simp only [sA, sI, sN]; rw [if_neg hn_m]; exact M15.2.1
  have hkq15 : (sA t15 q15 66 256).2.2.2 q15 = 66 := by simp [sA, sI, sN]
  show WG _ _ _ _ _ _ _ (136, [(0, vR (some m))], [vR (some q15), vR (some m)], sA t15 q15 66 256, 0 + 1 + 1 + 1 + 1 + 1 + 1 + 1 + 1 + 1 + 1 + 1 + 1 + 1 + 1 + 1 + 1, 0 + 4 + 4 + 40 + 64 + 64 + 64 + 4 + 4 + 16 + 16 + 256 + 256 + 256 + 256 + 256 + 256)
  refine w_putr (k := 50) rfl rfl rfl hk_m rfl rfl (fun b9 h9 _ => by have e9 := (rfl : some q15 = some q15).symm.trans h9; cases e9; exact hkq15) rfl (Or.inr ⟨rfl, rfl⟩) ?_
  show WG _ _ _ _ _ _ _ (139, [(0, vR (some m))], [], sO (sA t15 q15 66 256) 501766 m 0 (some q15), 0 + 1 + 1 + 1 + 1 + 1 + 1 + 1 + 1 + 1 + 1 + 1 + 1 + 1 + 1 + 1 + 1, 0 + 4 + 4 + 40 + 64 + 64 + 64 + 4 + 4 + 16 + 16 + 256 + 256 + 256 + 256 + 256 + 256)
  have M16 := MoS.step (n := 256) M15 hq15 hq15e (by decide)
  have M16 : MoS E m 16 _ _ σ (sO (sA t15 q15 66 256) 501766 m 0 (some q15)) := M16
  generalize sO (sA t15 q15 66 256) 501766 m 0 (some q15) = t16 at M16 ⊢
  show WG _ _ _ _ _ _ _ (139, [(0, vR (some m))], [], t16, 0 + 1 + 1 + 1 + 1 + 1 + 1 + 1 + 1 + 1 + 1 + 1 + 1 + 1 + 1 + 1 + 1, 0 + 4 + 4 + 40 + 64 + 64 + 64 + 4 + 4 + 16 + 16 + 256 + 256 + 256 + 256 + 256 + 256)
  refine w_run 2 (S' := (143, [(0, vR (some m))], [vI 256, vR (some m)], t16, 0 + 1 + 1 + 1 + 1 + 1 + 1 + 1 + 1 + 1 + 1 + 1 + 1 + 1 + 1 + 1 + 1, 0 + 4 + 4 + 40 + 64 + 64 + 64 + 4 + 4 + 16 + 16 + 256 + 256 + 256 + 256 + 256 + 256)) rfl ?_
  refine w_newaI (k := 67) (N := 256) rfl rfl (by omega) 67 rfl rfl (Or.inr rfl) (by simp only [RM]; omega) (by simp only [RM]; omega) (fun q16 hq16 hq16e => ?_)
  have hn_m : m ≠ q16 := ne0 (M16.2.1) hq16 (by decide)
  have hk_m : (sA t16 q16 67 256).2.2.2 m = 50 := by simp only [sA, sI, sN]; rw [if_neg hn_m]; exact M16.2.1
  have hkq16 : (sA t16 q16 67 256).2.2.2 q16 = 67 := by simp [sA, sI, sN]
  show WG _ _ _ _ _ _ _ (145, [(0, vR (some m))], [vR (some q16), vR (some m)], sA t16 q16 67 256, 0 + 1 + 1 + 1 + 1 + 1 + 1 + 1 + 1 + 1 + 1 + 1 + 1 + 1 + 1 + 1 + 1 + 1, 0 + 4 + 4 + 40 + 64 + 64 + 64 + 4 + 4 + 16 + 16 + 256 + 256 + 256 + 256 + 256 + 256 + 256)
  refine w_putr (k := 50) rfl rfl rfl hk_m rfl rfl (fun b9 h9 _ => by have e9 := (rfl : some q16 = some q16).symm.trans h9; cases e9; exact hkq16) rfl (Or.inr ⟨rfl, rfl⟩) ?_
  show WG _ _ _ _ _ _ _ (148, [(0, vR (some m))], [], sO (sA t16 q16 67 256) 501867 m 0 (some q16), 0 + 1 + 1 + 1 + 1 + 1 + 1 + 1 + 1 + 1 + 1 + 1 + 1 + 1 + 1 + 1 + 1 + 1, 0 + 4 + 4 + 40 + 64 + 64 + 64 + 4 + 4 + 16 + 16 + 256 + 256 + 256 + 256 + 256 + 256 + 256)
  have M17 := MoS.step (n := 256) M16 hq16 hq16e (by decide)
  have M17 : MoS E m 17 _ _ σ (sO (sA t16 q16 67 256) 501867 m 0 (some q16)) := M17
  generalize sO (sA t16 q16 67 256) 501867 m 0 (some q16) = t17 at M17 ⊢
  show WG _ _ _ _ _ _ _ (148, [(0, vR (some m))], [], t17, 0 + 1 + 1 + 1 + 1 + 1 + 1 + 1 + 1 + 1 + 1 + 1 + 1 + 1 + 1 + 1 + 1 + 1, 0 + 4 + 4 + 40 + 64 + 64 + 64 + 4 + 4 + 16 + 16 + 256 + 256 + 256 + 256 + 256 + 256 + 256)
  refine w_run 2 (S' := (152, [(0, vR (some m))], [vI 256, vR (some m)], t17, 0 + 1 + 1 + 1 + 1 + 1 + 1 + 1 + 1 + 1 + 1 + 1 + 1 + 1 + 1 + 1 + 1 + 1, 0 + 4 + 4 + 40 + 64 + 64 + 64 + 4 + 4 + 16 + 16 + 256 + 256 + 256 + 256 + 256 + 256 + 256)) rfl ?_
  refine w_newaI (k := 68) (N := 256) rfl rfl (by omega) 68 rfl rfl (Or.inr rfl) (by simp only [RM]; omega) (by simp only [RM]; omega) (fun q17 hq17 hq17e => ?_)
  have hn_m : m ≠ q17 := ne0 (M17.2.1) hq17 (by decide)
  have hk_m : (sA t17 q17 68 256).2.2.2 m = 50 := by simp only [sA, sI, sN]; rw [if_neg hn_m]; exact M17.2.1
  have hkq17 : (sA t17 q17 68 256).2.2.2 q17 = 68 := by simp [sA, sI, sN]
  show WG _ _ _ _ _ _ _ (154, [(0, vR (some m))], [vR (some q17), vR (some m)], sA t17 q17 68 256, 0 + 1 + 1 + 1 + 1 + 1 + 1 + 1 + 1 + 1 + 1 + 1 + 1 + 1 + 1 + 1 + 1 + 1 + 1, 0 + 4 + 4 + 40 + 64 + 64 + 64 + 4 + 4 + 16 + 16 + 256 + 256 + 256 + 256 + 256 + 256 + 256 + 256)
  refine w_putr (k := 50) rfl rfl rfl hk_m rfl rfl (fun b9 h9 _ => by have e9 := (rfl : some q17 = some q17).symm.trans h9; cases e9; exact hkq17) rfl (Or.inr ⟨rfl, rfl⟩) ?_
  show WG _ _ _ _ _ _ _ (157, [(0, vR (some m))], [], sO (sA t17 q17 68 256) 501968 m 0 (some q17), 0 + 1 + 1 + 1 + 1 + 1 + 1 + 1 + 1 + 1 + 1 + 1 + 1 + 1 + 1 + 1 + 1 + 1 + 1, 0 + 4 + 4 + 40 + 64 + 64 + 64 + 4 + 4 + 16 + 16 + 256 + 256 + 256 + 256 + 256 + 256 + 256 + 256)
  have M18 := MoS.step (n := 256) M17 hq17 hq17e (by decide)
  have M18 : MoS E m 18 _ _ σ (sO (sA t17 q17 68 256) 501968 m 0 (some q17)) := M18
  generalize sO (sA t17 q17 68 256) 501968 m 0 (some q17) = t18 at M18 ⊢
  show WG _ _ _ _ _ _ _ (157, [(0, vR (some m))], [], t18, 0 + 1 + 1 + 1 + 1 + 1 + 1 + 1 + 1 + 1 + 1 + 1 + 1 + 1 + 1 + 1 + 1 + 1 + 1, 0 + 4 + 4 + 40 + 64 + 64 + 64 + 4 + 4 + 16 + 16 + 256 + 256 + 256 + 256 + 256 + 256 + 256 + 256)
  refine w_run 2 (S' := (161, [(0, vR (some m))], [vI 1024, vR (some m)], t18, 0 + 1 + 1 + 1 + 1 + 1 + 1 + 1 + 1 + 1 + 1 + 1 + 1 + 1 + 1 + 1 + 1 + 1 + 1, 0 + 4 + 4 + 40 + 64 + 64 + 64 + 4 + 4 + 16 + 16 + 256 + 256 + 256 + 256 + 256 + 256 + 256 + 256)) rfl ?_
  refine w_newaI (k := 69) (N := 1024) rfl rfl (by omega) 69 rfl rfl (Or.inr rfl) (by simp only [RM]; omega) (by simp only [RM]; omega) (fun q18 hq18 hq18e => ?_)
  have hn_m : m ≠ q18 := ne0 (M18.2.1) hq18 (by decide)
  have hk_m : (sA t18 q18 69 1024).2.2.2 m = 50 := by simp only [sA, sI, sN]; rw [if_neg hn_m]; exact M18.2.1
  have hkq18 : (sA t18 q18 69 1024).2.2.2 q18 = 69 := by simp [sA, sI, sN]
  show WG _ _ _ _ _ _ _ (163, [(0, vR (some m))], [vR (some q18), vR (some m)], sA t18 q18 69 1024, 0 + 1 + 1 + 1 + 1 + 1 + 1 + 1 + 1 + 1 + 1 + 1 + 1 + 1 + 1 + 1 + 1 + 1 + 1 + 1, 0 + 4 + 4 + 40 + 64 + 64 + 64 + 4 + 4 + 16 + 16 + 256 + 256 + 256 + 256 + 256 + 256 + 256 + 256 + 1024)
  refine w_putr (k := 50) rfl rfl rfl hk_m rfl rfl (fun b9 h9 _ => by have e9 := (rfl : some q18 = some q18).symm.trans h9; cases e9; exact hkq18) rfl (Or.inr ⟨rfl, rfl⟩) ?_
  show WG _ _ _ _ _ _ _ (166, [(0, vR (some m))], [], sO (sA t18 q18 69 1024) 502069 m 0 (some q18), 0 + 1 + 1 + 1 + 1 + 1 + 1 + 1 + 1 + 1 + 1 + 1 + 1 + 1 + 1 + 1 + 1 + 1 + 1 + 1, 0 + 4 + 4 + 40 + 64 + 64 + 64 + 4 + 4 + 16 + 16 + 256 + 256 + 256 + 256 + 256 + 256 + 256 + 256 + 1024)
  have M19 := MoS.step (n := 1024) M18 hq18 hq18e (by decide)
  have M19 : MoS E m 19 _ _ σ (sO (sA t18 q18 69 1024) 502069 m 0 (some q18)) := M19
  generalize sO (sA t18 q18 69 1024) 502069 m 0 (some q18) = t19 at M19 ⊢
  show WG _ _ _ _ _ _ _ (166, [(0, vR (some m))], [], t19, 0 + 1 + 1 + 1 + 1 + 1 + 1 + 1 + 1 + 1 + 1 + 1 + 1 + 1 + 1 + 1 + 1 + 1 + 1 + 1, 0 + 4 + 4 + 40 + 64 + 64 + 64 + 4 + 4 + 16 + 16 + 256 + 256 + 256 + 256 + 256 + 256 + 256 + 256 + 1024)
  refine w_run 2 (S' := (170, [(0, vR (some m))], [vI 1024, vR (some m)], t19, 0 + 1 + 1 + 1 + 1 + 1 + 1 + 1 + 1 + 1 + 1 + 1 + 1 + 1 + 1 + 1 + 1 + 1 + 1 + 1, 0 + 4 + 4 + 40 + 64 + 64 + 64 + 4 + 4 + 16 + 16 + 256 + 256 + 256 + 256 + 256 + 256 + 256 + 256 + 1024)) rfl ?_
  refine w_newaI (k := 70) (N := 1024) rfl rfl (by omega) 70 rfl rfl (Or.inr rfl) (by simp only [RM]; omega) (by simp only [RM]; omega) (fun q19 hq19 hq19e => ?_)
  have hn_m : m ≠ q19 := ne0 (M19.2.1) hq19 (by decide)
  have hk_m : (sA t19 q19 70 1024).2.2.2 m = 50 := by simp only [sA, sI, sN]; rw [if_neg hn_m]; exact M19.2.1
  have hkq19 : (sA t19 q19 70 1024).2.2.2 q19 = 70 := by simp [sA, sI, sN]
  show WG _ _ _ _ _ _ _ (172, [(0, vR (some m))], [vR (some q19), vR (some m)], sA t19 q19 70 1024, 0 + 1 + 1 + 1 + 1 + 1 + 1 + 1 + 1 + 1 + 1 + 1 + 1 + 1 + 1 + 1 + 1 + 1 + 1 + 1 + 1, 0 + 4 + 4 + 40 + 64 + 64 + 64 + 4 + 4 + 16 + 16 + 256 + 256 + 256 + 256 + 256 + 256 + 256 + 256 + 1024 + 1024)
  refine w_putr (k := 50) rfl rfl rfl hk_m rfl rfl (fun b9 h9 _ => by have e9 := (rfl : some q19 = some q19).symm.trans h9; cases e9; exact hkq19) rfl (Or.inr ⟨rfl, rfl⟩) ?_
  show WG _ _ _ _ _ _ _ (175, [(0, vR (some m))], [], sO (sA t19 q19 70 1024) 502170 m 0 (some q19), 0 + 1 + 1 + 1 + 1 + 1 + 1 + 1 + 1 + 1 + 1 + 1 + 1 + 1 + 1 + 1 + 1 + 1 + 1 + 1 + 1, 0 + 4 + 4 + 40 + 64 + 64 + 64 + 4 + 4 + 16 + 16 + 256 + 256 + 256 + 256 + 256 + 256 + 256 + 256 + 1024 + 1024)
  have M20 := MoS.step (n := 1024) M19 hq19 hq19e (by decide)
  have M20 : MoS E m 20 _ _ σ (sO (sA t19 q19 70 1024) 502170 m 0 (some q19)) := M20
  generalize sO (sA t19 q19 70 1024) 502170 m 0 (some q19) = t20 at M20 ⊢
  show WG _ _ _ _ _ _ _ (175, [(0, vR (some m))], [], t20, 0 + 1 + 1 + 1 + 1 + 1 + 1 + 1 + 1 + 1 + 1 + 1 + 1 + 1 + 1 + 1 + 1 + 1 + 1 + 1 + 1, 0 + 4 + 4 + 40 + 64 + 64 + 64 + 4 + 4 + 16 + 16 + 256 + 256 + 256 + 256 + 256 + 256 + 256 + 256 + 1024 + 1024)
  refine w_run 2 (S' := (179, [(0, vR (some m))], [vI 1024, vR (some m)], t20, 0 + 1 + 1 + 1 + 1 + 1 + 1 + 1 + 1 + 1 + 1 + 1 + 1 + 1 + 1 + 1 + 1 + 1 + 1 + 1 + 1, 0 + 4 + 4 + 40 + 64 + 64 + 64 + 4 + 4 + 16 + 16 + 256 + 256 + 256 + 256 + 256 + 256 + 256 + 256 + 1024 + 1024)) rfl ?_
  refine w_newaI (k := 71) (N := 1024) rfl rfl (by omega) 71 rfl rfl (Or.inr rfl) (by simp only [RM]; omega) (by simp only [RM]; omega) (fun q20 hq20 hq20e => ?_)
  have hn_m : m ≠ q20 := ne0 (M20.2.1) hq20 (by decide)
  have hk_m : (sA t20 q20 71 1024).2.2.2 m = 50 := by simp only [sA, sI, sN]; rw [if_neg hn_m]; exact M20.2.1
  have hkq20 : (sA t20 q20 71 1024).2.2.2 q20 = 71 := by simp [sA, sI, sN]
  show WG _ _ _ _ _ _ _ (181, [(0, vR (some m))], [vR (some q20), vR (some m)], sA t20 q20 71 1024, 0 + 1 + 1 + 1 + 1 + 1 + 1 + 1 + 1 + 1 + 1 + 1 + 1 + 1 + 1 + 1 + 1 + 1 + 1 + 1 + 1 + 1, 0 + 4 + 4 + 40 + 64 + 64 + 64 + 4 + 4 + 16 + 16 + 256 + 256 + 256 + 256 + 256 + 256 + 256 + 256 + 1024 + 1024 + 1024)
  refine w_putr (k := 50) rfl rfl rfl hk_m rfl rfl (fun b9 h9 _ => by have e9 := (rfl : some q20 = some q20).symm.trans h9; cases e9; exact hkq20) rfl (Or.inr ⟨rfl, rfl⟩) ?_
  show WG _ _ _ _ _ _ _ (184, [(0, vR (some m))], [], sO (sA t20 q20 71 1024) 502271 m 0 (some q20), 0 + 1 + 1 + 1 + 1 + 1 + 1 + 1 + 1 + 1 + 1 + 1 + 1 + 1 + 1 + 1 + 1 + 1 + 1 + 1 + 1 + 1, 0 + 4 + 4 + 40 + 64 + 64 + 64 + 4 + 4 + 16 + 16 + 256 + 256 + 256 + 256 + 256 + 256 + 256 + 256 + 1024 + 1024 + 1024)
  have M21 := MoS.step (n := 1024) M20 hq20 hq20e (by decide)
  have M21 : MoS E m 21 _ _ σ (sO (sA t20 q20 71 1024) 502271 m 0 (some q20)) := M21
  generalize sO (sA t20 q20 71 1024) 502271 m 0 (some q20) = t21 at M21 ⊢
  show WG _ _ _ _ _ _ _ (184, [(0, vR (some m))], [], t21, 0 + 1 + 1 + 1 + 1 + 1 + 1 + 1 + 1 + 1 + 1 + 1 + 1 + 1 + 1 + 1 + 1 + 1 + 1 + 1 + 1 + 1, 0 + 4 + 4 + 40 + 64 + 64 + 64 + 4 + 4 + 16 + 16 + 256 + 256 + 256 + 256 + 256 + 256 + 256 + 256 + 1024 + 1024 + 1024)
  refine w_run 2 (S' := (186, [(0, vR (some m))], [vI 4, vR (some m)], t21, 0 + 1 + 1 + 1 + 1 + 1 + 1 + 1 + 1 + 1 + 1 + 1 + 1 + 1 + 1 + 1 + 1 + 1 + 1 + 1 + 1 + 1, 0 + 4 + 4 + 40 + 64 + 64 + 64 + 4 + 4 + 16 + 16 + 256 + 256 + 256 + 256 + 256 + 256 + 256 + 256 + 1024 + 1024 + 1024)) rfl ?_
  refine w_newaI (k := 72) (N := 4) rfl rfl (by omega) 72 rfl rfl (Or.inr rfl) (by simp only [RM]; omega) (by simp only [RM]; omega) (fun q21 hq21 hq21e => ?_)
  have hn_m : m ≠ q21 := ne0 (M21.2.1) hq21 (by decide)
  have hk_m : (sA t21 q21 72 4).2.2.2 m = 50 := by simp only [sA, sI, sN]; rw [if_neg hn_m]; exact M21.2.1
  have hkq21 : (sA t21 q21 72 4).2.2.2 q21 = 72 := by simp [sA, sI, sN]
  show WG _ _ _ _ _ _ _ (188, [(0, vR (some m))], [vR (some q21), vR (some m)], sA t21 q21 72 4, 0 + 1 + 1 + 1 + 1 + 1 + 1 + 1 + 1 + 1 + 1 + 1 + 1 + 1 + 1 + 1 + 1 + 1 + 1 + 1 + 1 + 1 + 1, 0 + 4 + 4 + 40 + 64 + 64 + 64 + 4 + 4 + 16 + 16 + 256 + 256 + 256 + 256 + 256 + 256 + 256 + 256 + 1024 + 1024 + 1024 + 4)
  refine w_putr (k := 50) rfl rfl rfl hk_m rfl rfl (fun b9 h9 _ => by have e9 := (rfl : some q21 = some q21).symm.trans h9; cases e9; exact hkq21) rfl (Or.inr ⟨rfl, rfl⟩) ?_
  show WG _ _ _ _ _ _ _ (191, [(0, vR (some m))], [], sO (sA t21 q21 72 4) 502472 m 0 (some q21), 0 + 1 + 1 + 1 + 1 + 1 + 1 + 1 + 1 + 1 + 1 + 1 + 1 + 1 + 1 + 1 + 1 + 1 + 1 + 1 + 1 + 1 + 1, 0 + 4 + 4 + 40 + 64 + 64 + 64 + 4 + 4 + 16 + 16 + 256 + 256 + 256 + 256 + 256 + 256 + 256 + 256 + 1024 + 1024 + 1024 + 4)
  have M22 := MoS.step (n := 4) M21 hq21 hq21e (by decide)
  have M22 : MoS E m 22 _ _ σ (sO (sA t21 q21 72 4) 502472 m 0 (some q21)) := M22
  generalize sO (sA t21 q21 72 4) 502472 m 0 (some q21) = t22 at M22 ⊢
  show WG _ _ _ _ _ _ _ (191, [(0, vR (some m))], [], t22, 0 + 1 + 1 + 1 + 1 + 1 + 1 + 1 + 1 + 1 + 1 + 1 + 1 + 1 + 1 + 1 + 1 + 1 + 1 + 1 + 1 + 1 + 1, 0 + 4 + 4 + 40 + 64 + 64 + 64 + 4 + 4 + 16 + 16 + 256 + 256 + 256 + 256 + 256 + 256 + 256 + 256 + 1024 + 1024 + 1024 + 4)
  refine w_run 2 (S' := (195, [(0, vR (some m))], [vI 1536, vR (some m)], t22, 0 + 1 + 1 + 1 + 1 + 1 + 1 + 1 + 1 + 1 + 1 + 1 + 1 + 1 + 1 + 1 + 1 + 1 + 1 + 1 + 1 + 1 + 1, 0 + 4 + 4 + 40 + 64 + 64 + 64 + 4 + 4 + 16 + 16 + 256 + 256 + 256 + 256 + 256 + 256 + 256 + 256 + 1024 + 1024 + 1024 + 4)) rfl ?_
  refine w_newaI (k := 73) (N := 1536) rfl rfl (by omega) 73 rfl rfl (Or.inr rfl) (by simp only [RM]; omega) (by simp only [RM]; omega) (fun q22 hq22 hq22e => ?_)
  have hn_m : m ≠ q22 := ne0 (M22.2.1) hq22 (by decide)
  have hk_m : (sA t22 q22 73 1536).2.2.2 m = 50 := by simp only [sA, sI, sN]; rw [if_neg hn_m]; exact M22.2.1
  have hkq22 : (sA t22 q22 73 1536).2.2.2 q22 = 73 := by simp [sA, sI, sN]
  show WG _ _ _ _ _ _ _ (197, [(0, vR (some m))], [vR (some q22), vR (some m)], sA t22 q22 73 1536, 0 + 1 + 1 + 1 + 1 + 1 + 1 + 1 + 1 + 1 + 1 + 1 + 1 + 1 + 1 + 1 + 1 + 1 + 1 + 1 + 1 + 1 + 1 + 1, 0 + 4 + 4 + 40 + 64 + 64 + 64 + 4 + 4 + 16 + 16 + 256 + 256 + 256 + 256 + 256 + 256 + 256 + 256 + 1024 + 1024 + 1024 + 4 + 1536)
  refine w_putr (k := 50) rfl rfl rfl hk_m rfl rfl (fun b9 h9 _ => by have e9 := (rfl : some q22 = some q22).symm.trans h9; cases e9; exact hkq22) rfl (Or.inr ⟨rfl, rfl⟩) ?_
  show WG _ _ _ _ _ _ _ (200, [(0, vR (some m))], [], sO (sA t22 q22 73 1536) 502573 m 0 (some q22), 0 + 1 + 1 + 1 + 1 + 1 + 1 + 1 + 1 + 1 + 1 + 1 + 1 + 1 + 1 + 1 + 1 + 1 + 1 + 1 + 1 + 1 + 1 + 1, 0 + 4 + 4 + 40 + 64 + 64 + 64 + 4 + 4 + 16 + 16 + 256 + 256 + 256 + 256 + 256 + 256 + 256 + 256 + 1024 + 1024 + 1024 + 4 + 1536)
  have M23 := MoS.step (n := 1536) M22 hq22 hq22e (by decide)
  have M23 : MoS E m 23 _ _ σ (sO (sA t22 q22 73 1536) 502573 m 0 (some q22)) := M23
  generalize sO (sA t22 q22 73 1536) 502573 m 0 (some q22) = t23 at M23 ⊢
  show WG _ _ _ _ _ _ _ (200, [(0, vR (some m))], [], t23, 0 + 1 + 1 + 1 + 1 + 1 + 1 + 1 + 1 + 1 + 1 + 1 + 1 + 1 + 1 + 1 + 1 + 1 + 1 + 1 + 1 + 1 + 1 + 1, 0 + 4 + 4 + 40 + 64 + 64 + 64 + 4 + 4 + 16 + 16 + 256 + 256 + 256 + 256 + 256 + 256 + 256 + 256 + 1024 + 1024 + 1024 + 4 + 1536)
  refine w_run 2 (S' := (202, [(0, vR (some m))], [vI 4, vR (some m)], t23, 0 + 1 + 1 + 1 + 1 + 1 + 1 + 1 + 1 + 1 + 1 + 1 + 1 + 1 + 1 + 1 + 1 + 1 + 1 + 1 + 1 + 1 + 1 + 1, 0 + 4 + 4 + 40 + 64 + 64 + 64 + 4 + 4 + 16 + 16 + 256 + 256 + 256 + 256 + 256 + 256 + 256 + 256 + 1024 + 1024 + 1024 + 4 + 1536)) rfl ?_
  refine w_newaI (k := 74) (N := 4) rfl rfl (by omega) 74 rfl rfl (Or.inr rfl) (by simp only [RM]; omega) (by simp only [RM]; omega) (fun q23 hq23 hq23e => ?_)
  have hn_m : m ≠ q23 := ne0 (M23.2.1) hq23 (by decide)
  have hk_m : (sA t23 q23 74 4).2.2.2 m = 50 := by simp only [sA, sI, sN]; rw [if_neg hn_m]; exact M23.2.1
  have hkq23 : (sA t23 q23 74 4).2.2.2 q23 = 74 := by simp [sA, sI, sN]
  show WG _ _ _ _ _ _ _ (204, [(0, vR (some m))], [vR (some q23), vR (some m)], sA t23 q23 74 4, 0 + 1 + 1 + 1 + 1 + 1 + 1 + 1 + 1 + 1 + 1 + 1 + 1 + 1 + 1 + 1 + 1 + 1 + 1 + 1 + 1 + 1 + 1 + 1 + 1, 0 + 4 + 4 + 40 + 64 + 64 + 64 + 4 + 4 + 16 + 16 + 256 + 256 + 256 + 256 + 256 + 256 + 256 + 256 + 1024 + 1024 + 1024 + 4 + 1536 + 4)
  refine w_putr (k := 50) rfl rfl rfl hk_m rfl rfl (fun b9 h9 _ => by have e9 := (rfl : some q23 = some q23).symm.trans h9; cases e9; exact hkq23) rfl (Or.inr ⟨rfl, rfl⟩) ?_
  show WG _ _ _ _ _ _ _ (207, [(0, vR (some m))], [], sO (sA t23 q23 74 4) 502674 m 0 (some q23), 0 + 1 + 1 + 1 + 1 + 1 + 1 + 1 + 1 + 1 + 1 + 1 + 1 + 1 + 1 + 1 + 1 + 1 + 1 + 1 + 1 + 1 + 1 + 1 + 1, 0 + 4 + 4 + 40 + 64 + 64 + 64 + 4 + 4 + 16 + 16 + 256 + 256 + 256 + 256 + 256 + 256 + 256 + 256 + 1024 + 1024 + 1024 + 4 + 1536 + 4)
  have M24 := MoS.step (n := 4) M23 hq23 hq23e (by decide)
  have M24 : MoS E m 24 _ _ σ (sO (sA t23 q23 74 4) 502674 m 0 (some q23)) := M24
  generalize sO (sA t23 q23 74 4) 502674 m 0 (some q23) = t24 at M24 ⊢
  show WG _ _ _ _ _ _ _ (207, [(0, vR (some m))], [], t24, 0 + 1 + 1 + 1 + 1 + 1 + 1 + 1 + 1 + 1 + 1 + 1 + 1 + 1 + 1 + 1 + 1 + 1 + 1 + 1 + 1 + 1 + 1 + 1 + 1, 0 + 4 + 4 + 40 + 64 + 64 + 64 + 4 + 4 + 16 + 16 + 256 + 256 + 256 + 256 + 256 + 256 + 256 + 256 + 1024 + 1024 + 1024 + 4 + 1536 + 4)
  refine w_run 2 (S' := (210, [(0, vR (some m))], [vI 48, vR (some m)], t24, 0 + 1 + 1 + 1 + 1 + 1 + 1 + 1 + 1 + 1 + 1 + 1 + 1 + 1 + 1 + 1 + 1 + 1 + 1 + 1 + 1 + 1 + 1 + 1 + 1, 0 + 4 + 4 + 40 + 64 + 64 + 64 + 4 + 4 + 16 + 16 + 256 + 256 + 256 + 256 + 256 + 256 + 256 + 256 + 1024 + 1024 + 1024 + 4 + 1536 + 4)) rfl ?_
  refine w_newaI (k := 75) (N := 48) rfl rfl (by omega) 75 rfl rfl (Or.inr rfl) (by simp only [RM]; omega) (by simp only [RM]; omega) (fun q24 hq24 hq24e => ?_)
  have hn_m : m ≠ q24 := ne0 (M24.2.1) hq24 (by decide)
  have hk_m : (sA t24 q24 75 48).2.2.2 m = 50 := by simp only [sA, sI, sN]; rw [if_neg hn_m]; exact M24.2.1
  have hkq24 : (sA t24 q24 75 48).2.2.2 q24 = 75 := by simp [sA, sI, sN]
  show WG _ _ _ _ _ _ _ (212, [(0, vR (some m))], [vR (some q24), vR (some m)], sA t24 q24 75 48, 0 + 1 + 1 + 1 + 1 + 1 + 1 + 1 + 1 + 1 + 1 + 1 + 1 + 1 + 1 + 1 + 1 + 1 + 1 + 1 + 1 + 1 + 1 + 1 + 1 + 1, 0 + 4 + 4 + 40 + 64 + 64 + 64 + 4 + 4 + 16 + 16 + 256 + 256 + 256 + 256 + 256 + 256 + 256 + 256 + 1024 + 1024 + 1024 + 4 + 1536 + 4 + 48)
  refine w_putr (k := 50) rfl rfl rfl hk_m rfl rfl (fun b9 h9 _ => by have e9 := (rfl : some q24 = some q24).symm.trans h9; cases e9; exact hkq24) rfl (Or.inr ⟨rfl, rfl⟩) ?_
  show WG _ _ _ _ _ _ _ (215, [(0, vR (some m))], [], sO (sA t24 q24 75 48) 502775 m 0 (some q24), 0 + 1 + 1 + 1 + 1 + 1 + 1 + 1 + 1 + 1 + 1 + 1 + 1 + 1 + 1 + 1 + 1 + 1 + 1 + 1 + 1 + 1 + 1 + 1 + 1 + 1, 0 + 4 + 4 + 40 + 64 + 64 + 64 + 4 + 4 + 16 + 16 + 256 + 256 + 256 + 256 + 256 + 256 + 256 + 256 + 1024 + 1024 + 1024 + 4 + 1536 + 4 + 48)
  have M25 := MoS.step (n := 48) M24 hq24 hq24e (by decide)
  have M25 : MoS E m 25 _ _ σ (sO (sA t24 q24 75 48) 502775 m 0 (some q24)) := M25
  generalize sO (sA t24 q24 75 48) 502775 m 0 (some q24) = t25 at M25 ⊢
  show WG _ _ _ _ _ _ _ (215, [(0, vR (some m))], [], t25, 0 + 1 + 1 + 1 + 1 + 1 + 1 + 1 + 1 + 1 + 1 + 1 + 1 + 1 + 1 + 1 + 1 + 1 + 1 + 1 + 1 + 1 + 1 + 1 + 1 + 1, 0 + 4 + 4 + 40 + 64 + 64 + 64 + 4 + 4 + 16 + 16 + 256 + 256 + 256 + 256 + 256 + 256 + 256 + 256 + 1024 + 1024 + 1024 + 4 + 1536 + 4 + 48)
  refine w_run 2 (S' := (218, [(0, vR (some m))], [vI 48, vR (some m)], t25, 0 + 1 + 1 + 1 + 1 + 1 + 1 + 1 + 1 + 1 + 1 + 1 + 1 + 1 + 1 + 1 + 1 + 1 + 1 + 1 + 1 + 1 + 1 + 1 + 1 + 1, 0 + 4 + 4 + 40 + 64 + 64 + 64 + 4 + 4 + 16 + 16 + 256 + 256 + 256 + 256 + 256 + 256 + 256 + 256 + 1024 + 1024 + 1024 + 4 + 1536 + 4 + 48)) rfl ?_
  refine w_newaI (k := 76) (N := 48) rfl rfl (by omega) 76 rfl rfl (Or.inr rfl) (by simp only [RM]; omega) (by simp only [RM]; omega) (fun q25 hq25 hq25e => ?_)
  have hn_m : m ≠ q25 := ne0 (M25.2.1) hq25 (by decide)
  have hk_m : (sA t25 q25 76 48).2.2.2 m = 50 := by simp only [sA, sI, sN]; rw [if_neg hn_m]; exact M25.2.1
  have hkq25 : (sA t25 q25 76 48).2.2.2 q25 = 76 := by simp [sA, sI, sN]
  show WG _ _ _ _ _ _ _ (220, [(0, vR (some m))], [vR (some q25), vR (some m)], sA t25 q25 76 48, 0 + 1 + 1 + 1 + 1 + 1 + 1 + 1 + 1 + 1 + 1 + 1 + 1 + 1 + 1 + 1 + 1 + 1 + 1 + 1 + 1 + 1 + 1 + 1 + 1 + 1 + 1, 0 + 4 + 4 + 40 + 64 + 64 + 64 + 4 + 4 + 16 + 16 + 256 + 256 + 256 + 256 + 256 + 256 + 256 + 256 + 1024 + 1024 + 1024 + 4 + 1536 + 4 + 48 + 48)
  refine w_putr (k := 50) rfl rfl rfl hk_m rfl rfl (fun b9 h9 _ => by have e9 := (rfl : some q25 = some q25).symm.trans h9; cases e9; exact hkq25) rfl (Or.inr ⟨rfl, rfl⟩) ?_
  show WG _ _ _ _ _ _ _ (223, [(0, vR (some m))], [], sO (sA t25 q25 76 48) 502876 m 0 (some q25), 0 + 1 + 1 + 1 + 1 + 1 + 1 + 1 + 1 + 1 + 1 + 1 + 1 + 1 + 1 + 1 + 1 + 1 + 1 + 1 + 1 + 1 + 1 + 1 + 1 + 1 + 1, 0 + 4 + 4 + 40 + 64 + 64 + 64 + 4 + 4 + 16 + 16 + 256 + 256 + 256 + 256 + 256 + 256 + 256 + 256 + 1024 + 1024 + 1024 + 4 + 1536 + 4 + 48 + 48)
  have M26 := MoS.step (n := 48) M25 hq25 hq25e (by decide)
  have M26 : MoS E m 26 _ _ σ (sO (sA t25 q25 76 48) 502876 m 0 (some q25)) := M26
  generalize sO (sA t25 q25 76 48) 502876 m 0 (some q25) = t26 at M26 ⊢
  show WG _ _ _ _ _ _ _ (223, [(0, vR (some m))], [], t26, 0 + 1 + 1 + 1 + 1 + 1 + 1 + 1 + 1 + 1 + 1 + 1 + 1 + 1 + 1 + 1 + 1 + 1 + 1 + 1 + 1 + 1 + 1 + 1 + 1 + 1 + 1, 0 + 4 + 4 + 40 + 64 + 64 + 64 + 4 + 4 + 16 + 16 + 256 + 256 + 256 + 256 + 256 + 256 + 256 + 256 + 1024 + 1024 + 1024 + 4 + 1536 + 4 + 48 + 48)
  refine w_run 2 (S' := (225, [(0, vR (some m))], [vI 4, vR (some m)], t26, 0 + 1 + 1 + 1 + 1 + 1 + 1 + 1 + 1 + 1 + 1 + 1 + 1 + 1 + 1 + 1 + 1 + 1 + 1 + 1 + 1 + 1 + 1 + 1 + 1 + 1 + 1, 0 + 4 + 4 + 40 + 64 + 64 + 64 + 4 + 4 + 16 + 16 + 256 + 256 + 256 + 256 + 256 + 256 + 256 + 256 + 1024 + 1024 + 1024 + 4 + 1536 + 4 + 48 + 48)) rfl ?_
  refine w_newaZ (k := 77) (N := 4) rfl rfl (by omega) 77 rfl rfl (Or.inr rfl) (by simp only [RM]; omega) (by simp only [RM]; omega) (fun q26 hq26 hq26e => ?_)
  have hn_m : m ≠ q26 := ne0 (M26.2.1) hq26 (by decide)
  have hk_m : (sA t26 q26 77 4).2.2.2 m = 50 := by simp only [sA, sI, sN]; rw [if_neg hn_m]; exact M26.2.1
  have hkq26 : (sA t26 q26 77 4).2.2.2 q26 = 77 := by simp [sA, sI, sN]
  show WG _ _ _ _ _ _ _ (227, [(0, vR (some m))], [vR (some q26), vR (some m)], sA t26 q26 77 4, 0 + 1 + 1 + 1 + 1 + 1 + 1 + 1 + 1 + 1 + 1 + 1 + 1 + 1 + 1 + 1 + 1 + 1 + 1 + 1 + 1 + 1 + 1 + 1 + 1 + 1 + 1 + 1, 0 + 4 + 4 + 40 + 64 + 64 + 64 + 4 + 4 + 16 + 16 + 256 + 256 + 256 + 256 + 256 + 256 + 256 + 256 + 1024 + 1024 + 1024 + 4 + 1536 + 4 + 48 + 48 + 4)
  refine w_putr (k := 50) rfl rfl rfl hk_m rfl rfl (fun b9 h9 _ => by have e9 := (rfl : some q26 = some q26).symm.trans h9; cases e9; exact hkq26) rfl (Or.inr ⟨rfl, rfl⟩) ?_
  show WG _ _ _ _ _ _ _ (230, [(0, vR (some m))], [], sO (sA t26 q26 77 4) 502977 m 0 (some q26), 0 + 1 + 1 + 1 + 1 + 1 + 1 + 1 + 1 + 1 + 1 + 1 + 1 + 1 + 1 + 1 + 1 + 1 + 1 + 1 + 1 + 1 + 1 + 1 + 1 + 1 + 1 + 1, 0 + 4 + 4 + 40 + 64 + 64 + 64 + 4 + 4 + 16 + 16 + 256 + 256 + 256 + 256 + 256 + 256 + 256 + 256 + 1024 + 1024 + 1024 + 4 + 1536 + 4 + 48 + 48 + 4)
  have M27 := MoS.step (n := 4) M26 hq26 hq26e (by decide)
  have M27 : MoS E m 27 _ _ σ (sO (sA t26 q26 77 4) 502977 m 0 (some q26)) := M27
  generalize sO (sA t26 q26 77 4) 502977 m 0 (some q26) = t27 at M27 ⊢
  show WG _ _ _ _ _ _ _ (230, [(0, vR (some m))], [], t27, 0 + 1 + 1 + 1 + 1 + 1 + 1 + 1 + 1 + 1 + 1 + 1 + 1 + 1 + 1 + 1 + 1 + 1 + 1 + 1 + 1 + 1 + 1 + 1 + 1 + 1 + 1 + 1, 0 + 4 + 4 + 40 + 64 + 64 + 64 + 4 + 4 + 16 + 16 + 256 + 256 + 256 + 256 + 256 + 256 + 256 + 256 + 1024 + 1024 + 1024 + 4 + 1536 + 4 + 48 + 48 + 4)
  refine w_run 2 (S' := (232, [(0, vR (some m))], [vI 4, vR (some m)], t27, 0 + 1 + 1 + 1 + 1 + 1 + 1 + 1 + 1 + 1 + 1 + 1 + 1 + 1 + 1 + 1 + 1 + 1 + 1 + 1 + 1 + 1 + 1 + 1 + 1 + 1 + 1 + 1, 0 + 4 + 4 + 40 + 64 + 64 + 64 + 4 + 4 + 16 + 16 + 256 + 256 + 256 + 256 + 256 + 256 + 256 + 256 + 1024 + 1024 + 1024 + 4 + 1536 + 4 + 48 + 48 + 4)) rfl ?_
  refine w_newaI (k := 78) (N := 4) rfl rfl (by omega) 78 rfl rfl (Or.inr rfl) (by simp only [RM]; omega) (by simp only [RM]; omega) (fun q27 hq27 hq27e => ?_)
  have hn_m : m ≠ q27 := ne0 (M27.2.1) hq27 (by decide)
  have hk_m : (sA t27 q27 78 4).2.2.2 m = 50 := by simp only [sA, sI, sN]; rw [if_neg hn_m]; exact M27.2.1
  have hkq27 : (sA t27 q27 78 4).2.2.2 q27 = 78 := by simp [sA, sI, sN]
  show WG _ _ _ _ _ _ _ (234, [(0, vR (some m))], [vR (some q27), vR (some m)], sA t27 q27 78 4, 0 + 1 + 1 + 1 + 1 + 1 + 1 + 1 + 1 + 1 + 1 + 1 + 1 + 1 + 1 + 1 + 1 + 1 + 1 + 1 + 1 + 1 + 1 + 1 + 1 + 1 + 1 + 1 + 1, 0 + 4 + 4 + 40 + 64 + 64 + 64 + 4 + 4 + 16 + 16 + 256 + 256 + 256 + 256 + 256 + 256 + 256 + 256 + 1024 + 1024 + 1024 + 4 + 1536 + 4 + 48 + 48 + 4 + 4)
  refine w_putr (k := 50) rfl rfl rfl hk_m rfl rfl (fun b9 h9 _ => by have e9 := (rfl : some q27 = some q27).symm.trans h9; cases e9; exact hkq27) rfl (Or.inr ⟨rfl, rfl⟩) ?_
  show WG _ _ _ _ _ _ _ (237, [(0, vR (some m))], [], sO (sA t27 q27 78 4) 503078 m 0 (some q27), 0 + 1 + 1 + 1 + 1 + 1 + 1 + 1 + 1 + 1 + 1 + 1 + 1 + 1 + 1 + 1 + 1 + 1 + 1 + 1 + 1 + 1 + 1 + 1 + 1 + 1 + 1 + 1 + 1, 0 + 4 + 4 + 40 + 64 + 64 + 64 + 4 + 4 + 16 + 16 + 256 + 256 + 256 + 256 + 256 + 256 + 256 + 256 + 1024 + 1024 + 1024 + 4 + 1536 + 4 + 48 + 48 + 4 + 4)
  have M28 := MoS.step (n := 4) M27 hq27 hq27e (by decide)
  have M28 : MoS E m 28 _ _ σ (sO (sA t27 q27 78 4) 503078 m 0 (some q27)) := M28
  generalize sO (sA t27 q27 78 4) 503078 m 0 (some q27) = t28 at M28 ⊢
  show WG _ _ _ _ _ _ _ (237, [(0, vR (some m))], [], t28, 0 + 1 + 1 + 1 + 1 + 1 + 1 + 1 + 1 + 1 + 1 + 1 + 1 + 1 + 1 + 1 + 1 + 1 + 1 + 1 + 1 + 1 + 1 + 1 + 1 + 1 + 1 + 1 + 1, 0 + 4 + 4 + 40 + 64 + 64 + 64 + 4 + 4 + 16 + 16 + 256 + 256 + 256 + 256 + 256 + 256 + 256 + 256 + 1024 + 1024 + 1024 + 4 + 1536 + 4 + 48 + 48 + 4 + 4)
  refine w_run 2 (S' := (240, [(0, vR (some m))], [vI 32, vR (some m)], t28, 0 + 1 + 1 + 1 + 1 + 1 + 1 + 1 + 1 + 1 + 1 + 1 + 1 + 1 + 1 + 1 + 1 + 1 + 1 + 1 + 1 + 1 + 1 + 1 + 1 + 1 + 1 + 1 + 1, 0 + 4 + 4 + 40 + 64 + 64 + 64 + 4 + 4 + 16 + 16 + 256 + 256 + 256 + 256 + 256 + 256 + 256 + 256 + 1024 + 1024 + 1024 + 4 + 1536 + 4 + 48 + 48 + 4 + 4)) rfl ?_
  refine w_newaI (k := 79) (N := 32) rfl rfl (by omega) 79 rfl rfl (Or.inr rfl) (by simp only [RM]; omega) (by simp only [RM]; omega) (fun q28 hq28 hq28e => ?_)
  have hn_m : m ≠ q28 := ne0 (M28.2.1) hq28 (by decide)
  have hk_m : (sA t28 q28 79 32).2.2.2 m = 50 := by simp only [sA, sI, sN]; rw [if_neg hn_m]; exact M28.2.1
  have hkq28 : (sA t28 q28 79 32).2.2.2 q28 = 79 := by simp [sA, sI, sN]
  show WG _ _ _ _ _ _ _ (242, [(0, vR (some m))], [vR (some q28), vR (some m)], sA t28 q28 79 32, 0 + 1 + 1 + 1 + 1 + 1 + 1 + 1 + 1 + 1 + 1 + 1 + 1 + 1 + 1 + 1 + 1 + 1 + 1 + 1 + 1 + 1 + 1 + 1 + 1 + 1 + 1 + 1 + 1 + 1, 0 + 4 + 4 + 40 + 64 + 64 + 64 + 4 + 4 + 16 + 16 + 256 + 256 + 256 + 256 + 256 + 256 + 256 + 256 + 1024 + 1024 + 1024 + 4 + 1536 + 4 + 48 + 48 + 4 + 4 + 32)
  refine w_putr (k := 50) rfl rfl rfl hk_m rfl rfl (fun b9 h9 _ => by have e9 := (rfl : some q28 = some q28).symm.trans h9; cases e9; exact hkq28) rfl (Or.inr ⟨rfl, rfl⟩) ?_
  show WG _ _ _ _ _ _ _ (245, [(0, vR (some m))], [], sO (sA t28 q28 79 32) 503179 m 0 (some q28), 0 + 1 + 1 + 1 + 1 + 1 + 1 + 1 + 1 + 1 + 1 + 1 + 1 + 1 + 1 + 1 + 1 + 1 + 1 + 1 + 1 + 1 + 1 + 1 + 1 + 1 + 1 + 1 + 1 + 1, 0 + 4 + 4 + 40 + 64 + 64 + 64 + 4 + 4 + 16 + 16 + 256 + 256 + 256 + 256 + 256 + 256 + 256 + 256 + 1024 + 1024 + 1024 + 4 + 1536 + 4 + 48 + 48 + 4 + 4 + 32)
  have M29 := MoS.step (n := 32) M28 hq28 hq28e (by decide)
  have M29 : MoS E m 29 _ _ σ (sO (sA t28 q28 79 32) 503179 m 0 (some q28)) := M29
  generalize sO (sA t28 q28 79 32) 503179 m 0 (some q28) = t29 at M29 ⊢
  show WG _ _ _ _ _ _ _ (245, [(0, vR (some m))], [], t29, 0 + 1 + 1 + 1 + 1 + 1 + 1 + 1 + 1 + 1 + 1 + 1 + 1 + 1 + 1 + 1 + 1 + 1 + 1 + 1 + 1 + 1 + 1 + 1 + 1 + 1 + 1 + 1 + 1 + 1, 0 + 4 + 4 + 40 + 64 + 64 + 64 + 4 + 4 + 16 + 16 + 256 + 256 + 256 + 256 + 256 + 256 + 256 + 256 + 1024 + 1024 + 1024 + 4 + 1536 + 4 + 48 + 48 + 4 + 4 + 32)
  refine w_run 2 (S' := (248, [(0, vR (some m))], [vI 32, vR (some m)], t29, 0 + 1 + 1 + 1 + 1 + 1 + 1 + 1 + 1 + 1 + 1 + 1 + 1 + 1 + 1 + 1 + 1 + 1 + 1 + 1 + 1 + 1 + 1 + 1 + 1 + 1 + 1 + 1 + 1 + 1, 0 + 4 + 4 + 40 + 64 + 64 + 64 + 4 + 4 + 16 + 16 + 256 + 256 + 256 + 256 + 256 + 256 + 256 + 256 + 1024 + 1024 + 1024 + 4 + 1536 + 4 + 48 + 48 + 4 + 4 + 32)) rfl ?_
  refine w_newaI (k := 80) (N := 32) rfl rfl (by omega) 80 rfl rfl (Or.inr rfl) (by simp only [RM]; omega) (by simp only [RM]; omega) (fun q29 hq29 hq29e => ?_)
  have hn_m : m ≠ q29 := ne0 (M29.2.1) hq29 (by decide)
  have hk_m : (sA t29 q29 80 32).2.2.2 m = 50 := by simp only [sA, sI, sN]; rw [if_neg hn_m]; exact M29.2.1
  have hkq29 : (sA t29 q29 80 32).2.2.2 q29 = 80 := by simp [sA, sI, sN]
  show WG _ _ _ _ _ _ _ (250, [(0, vR (some m))], [vR (some q29), vR (some m)], sA t29 q29 80 32, 0 + 1 + 1 + 1 + 1 + 1 + 1 + 1 + 1 + 1 + 1 + 1 + 1 + 1 + 1 + 1 + 1 + 1 + 1 + 1 + 1 + 1 + 1 + 1 + 1 + 1 + 1 + 1 + 1 + 1 + 1, 0 + 4 + 4 + 40 + 64 + 64 + 64 + 4 + 4 + 16 + 16 + 256 + 256 + 256 + 256 + 256 + 256 + 256 + 256 + 1024 + 1024 + 1024 + 4 + 1536 + 4 + 48 + 48 + 4 + 4 + 32 + 32)
  refine w_putr (k := 50) rfl rfl rfl hk_m rfl rfl (fun b9 h9 _ => by have e9 := (rfl : some q29 = some q29).symm.trans h9; cases e9; exact hkq29) rfl (Or.inr ⟨rfl, rfl⟩) ?_
  show WG _ _ _ _ _ _ _ (253, [(0, vR (some m))], [], sO (sA t29 q29 80 32) 503280 m 0 (some q29), 0 + 1 + 1 + 1 + 1 + 1 + 1 + 1 + 1 + 1 + 1 + 1 + 1 + 1 + 1 + 1 + 1 + 1 + 1 + 1 + 1 + 1 + 1 + 1 + 1 + 1 + 1 + 1 + 1 + 1 + 1, 0 + 4 + 4 + 40 + 64 + 64 + 64 + 4 + 4 + 16 + 16 + 256 + 256 + 256 + 256 + 256 + 256 + 256 + 256 + 1024 + 1024 + 1024 + 4 + 1536 + 4 + 48 + 48 + 4 + 4 + 32 + 32)
  have M30 := MoS.step (n := 32) M29 hq29 hq29e (by decide)
  have M30 : MoS E m 30 _ _ σ (sO (sA t29 q29 80 32) 503280 m 0 (some q29)) := M30
  generalize sO (sA t29 q29 80 32) 503280 m 0 (some q29) = t30 at M30 ⊢
  show WG _ _ _ _ _ _ _ (253, [(0, vR (some m))], [], t30, 0 + 1 + 1 + 1 + 1 + 1 + 1 + 1 + 1 + 1 + 1 + 1 + 1 + 1 + 1 + 1 + 1 + 1 + 1 + 1 + 1 + 1 + 1 + 1 + 1 + 1 + 1 + 1 + 1 + 1 + 1, 0 + 4 + 4 + 40 + 64 + 64 + 64 + 4 + 4 + 16 + 16 + 256 + 256 + 256 + 256 + 256 + 256 + 256 + 256 + 1024 + 1024 + 1024 + 4 + 1536 + 4 + 48 + 48 + 4 + 4 + 32 + 32)
  refine w_run 2 (S' := (256, [(0, vR (some m))], [vI 20, vR (some m)], t30, 0 + 1 + 1 + 1 + 1 + 1 + 1 + 1 + 1 + 1 + 1 + 1 + 1 + 1 + 1 + 1 + 1 + 1 + 1 + 1 + 1 + 1 + 1 + 1 + 1 + 1 + 1 + 1 + 1 + 1 + 1, 0 + 4 + 4 + 40 + 64 + 64 + 64 + 4 + 4 + 16 + 16 + 256 + 256 + 256 + 256 + 256 + 256 + 256 + 256 + 1024 + 1024 + 1024 + 4 + 1536 + 4 + 48 + 48 + 4 + 4 + 32 + 32)) rfl ?_
  refine w_newaI (k := 81) (N := 20) rfl rfl (by omega) 81 rfl rfl (Or.inr rfl) (by simp only [RM]; omega) (by simp only [RM]; omega) (fun q30 hq30 hq30e => ?_)
  have hn_m : m ≠ q30 := ne0 (M30.2.1) hq30 (by decide)
  have hk_m : (sA t30 q30 81 20).2.2.2 m = 50 := by simp only [sA, sI, sN]; rw [if_neg hn_m]; exact M30.2.1
  have hkq30 : (sA t30 q30 81 20).2.2.2 q30 = 81 := by simp [sA, sI, sN]
  show WG _ _ _ _ _ _ _ (258, [(0, vR (some m))], [vR (some q30), vR (some m)], sA t30 q30 81 20, 0 + 1 + 1 + 1 + 1 + 1 + 1 + 1 + 1 + 1 + 1 + 1 + 1 + 1 + 1 + 1 + 1 + 1 + 1 + 1 + 1 + 1 + 1 + 1 + 1 + 1 + 1 + 1 + 1 + 1 + 1 + 1, 0 + 4 + 4 + 40 + 64 + 64 + 64 + 4 + 4 + 16 + 16 + 256 + 256 + 256 + 256 + 256 + 256 + 256 + 256 + 1024 + 1024 + 1024 + 4 + 1536 + 4 + 48 + 48 + 4 + 4 + 32 + 32 + 20)
  refine w_putr (k := 50) rfl rfl rfl hk_m rfl rfl (fun b9 h9 _ => by have e9 := (rfl : some q30 = some q30).symm.trans h9; cases e9; exact hkq30) rfl (Or.inr ⟨rfl, rfl⟩) ?_
  show WG _ _ _ _ _ _ _ (261, [(0, vR (some m))], [], sO (sA t30 q30 81 20) 503381 m 0 (some q30), 0 + 1 + 1 + 1 + 1 + 1 + 1 + 1 + 1 + 1 + 1 + 1 + 1 + 1 + 1 + 1 + 1 + 1 + 1 + 1 + 1 + 1 + 1 + 1 + 1 + 1 + 1 + 1 + 1 + 1 + 1 + 1, 0 + 4 + 4 + 40 + 64 + 64 + 64 + 4 + 4 + 16 + 16 + 256 + 256 + 256 + 256 + 256 + 256 + 256 + 256 + 1024 + 1024 + 1024 + 4 + 1536 + 4 + 48 + 48 + 4 + 4 + 32 + 32 + 20)
  have M31 := MoS.step (n := 20) M30 hq30 hq30e (by decide)
  have M31 : MoS E m 31 _ _ σ (sO (sA t30 q30 81 20) 503381 m 0 (some q30)) := M31
  generalize sO (sA t30 q30 81 20) 503381 m 0 (some q30) = t31 at M31 ⊢
  show WG _ _ _ _ _ _ _ (261, [(0, vR (some m))], [], t31, 0 + 1 + 1 + 1 + 1 + 1 + 1 + 1 + 1 + 1 + 1 + 1 + 1 + 1 + 1 + 1 + 1 + 1 + 1 + 1 + 1 + 1 + 1 + 1 + 1 + 1 + 1 + 1 + 1 + 1 + 1 + 1, 0 + 4 + 4 + 40 + 64 + 64 + 64 + 4 + 4 + 16 + 16 + 256 + 256 + 256 + 256 + 256 + 256 + 256 + 256 + 1024 + 1024 + 1024 + 4 + 1536 + 4 + 48 + 48 + 4 + 4 + 32 + 32 + 20)
  exact w_vret rfl rfl (by omega) (by omega) (⟨rfl, _, M31⟩)

