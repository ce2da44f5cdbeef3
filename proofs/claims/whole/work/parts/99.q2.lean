/-! the small constructors -/
def msA (σ : Sg) (m s it : Nat) (k x y : Int32) (nd : Option Nat) : Sg := sI (sI (sO (sI (sI (sI σ 60000 m 0 k) 60100 m 0 x) 60200 m 0 y) 60303 m 0 nd) 60400 m 0 (celF σ s)) 60500 m 0 (nI it)
def msB (σ : Sg) (m s it : Nat) (k x y : Int32) (nd : Option Nat) (a1 a2 a3 : Nat) : Sg := sO (sA (sO (sA (sO (sA (msA σ m s it k x y nd) a1 31 it) 60631 m 0 (some a1)) a2 32 it) 60732 m 0 (some a2)) a3 33 it) 60833 m 0 (some a3)
set_option maxRecDepth 20000 in
set_option maxHeartbeats 4000000 in
theorem c_ms_init (l : Launch) (E : FE) (d : Nat) (σ : Sg) (m s it : Nat) (k x y : Int32) (nd : Option Nat) (hd : 2 ≤ d) (hm : σ.2.2.2 m = 6) (hs : σ.2.2.2 s = 4) (hit : σ.1 40300 s 0 = nI it) (hi4 : it ≤ 4) (hnd : ∀ b, nd = some b → σ.2.2.2 b = 3) : CT l E d 9 [vR (some m), vI k, vI x, vI y, vR nd, vR (some s)] σ 3 12 (fun r σ' => r = none ∧ ∃ a1 a2 a3, σ.2.2.2 a1 = 0 ∧ a1 ≠ fe E ∧ (sA (msA σ m s it k x y nd) a1 31 it).2.2.2 a2 = 0 ∧ a2 ≠ fe E ∧ (sA (sO (sA (msA σ m s it k x y nd) a1 31 it) 60631 m 0 (some a1)) a2 32 it).2.2.2 a3 = 0 ∧ a3 ≠ fe E ∧ σ' = msB σ m s it k x y nd a1 a2 a3) (fun _ _ => False) := by
  refine CTo ok_ms_init (by decide +kernel) rfl rfl rfl ?_
  refine w_run 1 (S' := (1, [(0, vR (some m)), (1, vI k), (2, vI x), (3, vI y), (4, vR nd), (5, vR (some s))], [vR (some m)], σ, 0, 0)) rfl ?_
  refine w_objI rfl mo_5_1 rfl rfl (by simp only [RM]; omega) (by simp only [RM]; omega) ?_
  refine w_run 2 (S' := (6, [(0, vR (some m)), (1, vI k), (2, vI x), (3, vI y), (4, vR nd), (5, vR (some s))], [vI k, vR (some m)], σ, 0, 0)) rfl ?_
  refine w_puti (k := 6) rfl rfl rfl hm rfl rfl (Or.inl rfl) (Or.inr ⟨rfl, rfl⟩) ?_
  show WG _ _ _ _ _ _ _ (9, [(0, vR (some m)), (1, vI k), (2, vI x), (3, vI y), (4, vR nd), (5, vR (some s))], [], sI σ 60000 m 0 k, 0, 0)
  refine w_run 2 (S' := (11, [(0, vR (some m)), (1, vI k), (2, vI x), (3, vI y), (4, vR nd), (5, vR (some s))], [vI x, vR (some m)], sI σ 60000 m 0 k, 0, 0)) rfl ?_
  refine w_puti (k := 6) rfl rfl rfl hm rfl rfl (Or.inl rfl) (Or.inr ⟨rfl, rfl⟩) ?_
  show WG _ _ _ _ _ _ _ (14, [(0, vR (some m)), (1, vI k), (2, vI x), (3, vI y), (4, vR nd), (5, vR (some s))], [], sI (sI σ 60000 m 0 k) 60100 m 0 x, 0, 0)
  refine w_run 2 (S' := (16, [(0, vR (some m)), (1, vI k), (2, vI x), (3, vI y), (4, vR nd), (5, vR (some s))], [vI y, vR (some m)], sI (sI σ 60000 m 0 k) 60100 m 0 x, 0, 0)) rfl ?_
  refine w_puti (k := 6) rfl rfl rfl hm rfl rfl (Or.inl rfl) (Or.inr ⟨rfl, rfl⟩) ?_
  show WG _ _ _ _ _ _ _ (19, [(0, vR (some m)), (1, vI k), (2, vI x), (3, vI y), (4, vR nd), (5, vR (some s))], [], sI (sI (sI σ 60000 m 0 k) 60100 m 0 x) 60200 m 0 y, 0, 0)
  refine w_run 2 (S' := (22, [(0, vR (some m)), (1, vI k), (2, vI x), (3, vI y), (4, vR nd), (5, vR (some s))], [vR nd, vR (some m)], sI (sI (sI σ 60000 m 0 k) 60100 m 0 x) 60200 m 0 y, 0, 0)) rfl ?_
  refine w_putr (k := 6) rfl rfl rfl hm rfl rfl (fun b9 h9 _ => hnd b9 h9) rfl (Or.inr ⟨rfl, rfl⟩) ?_
  show WG _ _ _ _ _ _ _ (25, [(0, vR (some m)), (1, vI k), (2, vI x), (3, vI y), (4, vR nd), (5, vR (some s))], [], sO (sI (sI (sI σ 60000 m 0 k) 60100 m 0 x) 60200 m 0 y) 60303 m 0 nd, 0, 0)
  refine w_run 2 (S' := (28, [(0, vR (some m)), (1, vI k), (2, vI x), (3, vI y), (4, vR nd), (5, vR (some s))], [vR (some s), vR (some m)], sO (sI (sI (sI σ 60000 m 0 k) 60100 m 0 x) 60200 m 0 y) 60303 m 0 nd, 0, 0)) rfl ?_
  refine w_callV (st := [vR (some m)]) [] rfl ml_5_23 rfl rfl hs rfl rfl rfl (by simp only [RM]; omega) (by simp only [RM]; show 8 + (1 + 11) + _ ≤ _; omega) rfl (by simp only [RM]; omega) (by simp only [RM]; omega) (c_dr_cells l E (d - 1) (sO (sI (sI (sI σ 60000 m 0 k) 60100 m 0 x) 60200 m 0 y) 60303 m 0 nd) s (by omega) hs) (fun _ _ h => h.elim) ?_
  intro r9 s9 q9
  rw [q9.1, q9.2]
  clear q9 r9 s9
  show WG _ _ _ _ _ _ _ (31, [(0, vR (some m)), (1, vI k), (2, vI x), (3, vI y), (4, vR nd), (5, vR (some s))], [vI (celF σ s), vR (some m)], sO (sI (sI (sI σ 60000 m 0 k) 60100 m 0 x) 60200 m 0 y) 60303 m 0 nd, 0, 0)
  refine w_puti (k := 6) rfl rfl rfl hm rfl rfl (Or.inl rfl) (Or.inr ⟨rfl, rfl⟩) ?_
  show WG _ _ _ _ _ _ _ (34, [(0, vR (some m)), (1, vI k), (2, vI x), (3, vI y), (4, vR nd), (5, vR (some s))], [], sI (sO (sI (sI (sI σ 60000 m 0 k) 60100 m 0 x) 60200 m 0 y) 60303 m 0 nd) 60400 m 0 (celF σ s), 0, 0)
  refine w_run 2 (S' := (37, [(0, vR (some m)), (1, vI k), (2, vI x), (3, vI y), (4, vR nd), (5, vR (some s))], [vR (some s), vR (some m)], sI (sO (sI (sI (sI σ 60000 m 0 k) 60100 m 0 x) 60200 m 0 y) 60303 m 0 nd) 60400 m 0 (celF σ s), 0, 0)) rfl ?_
  refine w_get (k := 4) (vI (σ.1 40300 s 0)) rfl rfl rfl hs rfl rfl ?_
  refine Eq.mp (congrArg (fun x9 => WG _ _ _ _ _ _ _ (40, [(0, vR (some m)), (1, vI k), (2, vI x), (3, vI y), (4, vR nd), (5, vR (some s))], [vI x9, vR (some m)], sI (sO (sI (sI (sI σ 60000 m 0 k) 60100 m 0 x) 60200 m 0 y) 60303 m 0 nd) 60400 m 0 (celF σ s), 0, 0)) (hit.symm : nI it = σ.1 40300 s 0)) ?_
  show WG _ _ _ _ _ _ _ (40, [(0, vR (some m)), (1, vI k), (2, vI x), (3, vI y), (4, vR nd), (5, vR (some s))], [vI (nI it), vR (some m)], sI (sO (sI (sI (sI σ 60000 m 0 k) 60100 m 0 x) 60200 m 0 y) 60303 m 0 nd) 60400 m 0 (celF σ s), 0, 0)
  refine w_puti (k := 6) rfl rfl rfl hm rfl rfl (Or.inl rfl) (Or.inr ⟨rfl, rfl⟩) ?_
  show WG _ _ _ _ _ _ _ (43, [(0, vR (some m)), (1, vI k), (2, vI x), (3, vI y), (4, vR nd), (5, vR (some s))], [], sI (sI (sO (sI (sI (sI σ 60000 m 0 k) 60100 m 0 x) 60200 m 0 y) 60303 m 0 nd) 60400 m 0 (celF σ s)) 60500 m 0 (nI it), 0, 0)
  refine w_run 2 (S' := (45, [(0, vR (some m)), (1, vI k), (2, vI x), (3, vI y), (4, vR nd), (5, vR (some s))], [vR (some m), vR (some m)], sI (sI (sO (sI (sI (sI σ 60000 m 0 k) 60100 m 0 x) 60200 m 0 y) 60303 m 0 nd) 60400 m 0 (celF σ s)) 60500 m 0 (nI it), 0, 0)) rfl ?_
  refine w_get (k := 6) (vI (nI it)) rfl rfl rfl hm rfl (by simp [mkF, sI, sO, sN, sA]) ?_
  refine w_newaI (k := 31) (N := it) rfl rfl (by omega) 31 rfl rfl (Or.inl rfl) (by simp only [RM]; omega) (by simp only [RM]; omega) (fun a1 ha1 ha1e => ?_)
  have hn_m : m ≠ a1 := ne0 (hm) ha1 (by decide)
  have hk_m : (sA (sI (sI (sO (sI (sI (sI σ 60000 m 0 k) 60100 m 0 x) 60200 m 0 y) 60303 m 0 nd) 60400 m 0 (celF σ s)) 60500 m 0 (nI it)) a1 31 it).2.2.2 m = 6 := by simp only [sA, sI, sN]; rw [if_neg hn_m]; exact hm
  have hn_s : s ≠ a1 := ne0 (hs) ha1 (by decide)
  have hk_s : (sA (sI (sI (sO (sI (sI (sI σ 60000 m 0 k) 60100 m 0 x) 60200 m 0 y) 60303 m 0 nd) 60400 m 0 (celF σ s)) 60500 m 0 (nI it)) a1 31 it).2.2.2 s = 4 := by simp only [sA, sI, sN]; rw [if_neg hn_s]; exact hs
  have hka1 : (sA (sI (sI (sO (sI (sI (sI σ 60000 m 0 k) 60100 m 0 x) 60200 m 0 y) 60303 m 0 nd) 60400 m 0 (celF σ s)) 60500 m 0 (nI it)) a1 31 it).2.2.2 a1 = 31 := by simp [sA, sI, sN]
  show WG _ _ _ _ _ _ _ (50, [(0, vR (some m)), (1, vI k), (2, vI x), (3, vI y), (4, vR nd), (5, vR (some s))], [vR (some a1), vR (some m)], sA (sI (sI (sO (sI (sI (sI σ 60000 m 0 k) 60100 m 0 x) 60200 m 0 y) 60303 m 0 nd) 60400 m 0 (celF σ s)) 60500 m 0 (nI it)) a1 31 it, 0 + 1, 0 + it)
  have hm1 := hn_m
  refine w_putr (k := 6) rfl rfl rfl hk_m rfl rfl (fun b9 h9 _ => by have e9 := (rfl : some a1 = some a1).symm.trans h9; cases e9; exact hka1) rfl (Or.inr ⟨rfl, rfl⟩) ?_
  show WG _ _ _ _ _ _ _ (53, [(0, vR (some m)), (1, vI k), (2, vI x), (3, vI y), (4, vR nd), (5, vR (some s))], [], sO (sA (sI (sI (sO (sI (sI (sI σ 60000 m 0 k) 60100 m 0 x) 60200 m 0 y) 60303 m 0 nd) 60400 m 0 (celF σ s)) 60500 m 0 (nI it)) a1 31 it) 60631 m 0 (some a1), 0 + 1, 0 + it)
  refine w_run 2 (S' := (55, [(0, vR (some m)), (1, vI k), (2, vI x), (3, vI y), (4, vR nd), (5, vR (some s))], [vR (some m), vR (some m)], sO (sA (sI (sI (sO (sI (sI (sI σ 60000 m 0 k) 60100 m 0 x) 60200 m 0 y) 60303 m 0 nd) 60400 m 0 (celF σ s)) 60500 m 0 (nI it)) a1 31 it) 60631 m 0 (some a1), 0 + 1, 0 + it)) rfl ?_
  refine w_get (k := 6) (vI ((sA (sI (sI (sO (sI (sI (sI σ 60000 m 0 k) 60100 m 0 x) 60200 m 0 y) 60303 m 0 nd) 60400 m 0 (celF σ s)) 60500 m 0 (nI it)) a1 31 it).1 60500 m 0)) rfl rfl rfl hk_m rfl rfl ?_
  refine w_newaI (k := 32) (N := it) rfl (by simp [sA, sI, sO, sN, hm1]) (by omega) 32 rfl rfl (Or.inl rfl) (by simp only [RM]; omega) (by simp only [RM]; omega) (fun a2 ha2 ha2e => ?_)
  have hn_m : m ≠ a2 := ne0 (hk_m) ha2 (by decide)
  have hk_m : (sA (sO (sA (sI (sI (sO (sI (sI (sI σ 60000 m 0 k) 60100 m 0 x) 60200 m 0 y) 60303 m 0 nd) 60400 m 0 (celF σ s)) 60500 m 0 (nI it)) a1 31 it) 60631 m 0 (some a1)) a2 32 it).2.2.2 m = 6 := by simp only [sA, sI, sN]; rw [if_neg hn_m]; exact hk_m
  have hn_s : s ≠ a2 := ne0 (hk_s) ha2 (by decide)
  have hk_s : (sA (sO (sA (sI (sI (sO (sI (sI (sI σ 60000 m 0 k) 60100 m 0 x) 60200 m 0 y) 60303 m 0 nd) 60400 m 0 (celF σ s)) 60500 m 0 (nI it)) a1 31 it) 60631 m 0 (some a1)) a2 32 it).2.2.2 s = 4 := by simp only [sA, sI, sN]; rw [if_neg hn_s]; exact hk_s
  have hn_a1 : a1 ≠ a2 := ne0 (hka1) ha2 (by decide)
  have hk_a1 : (sA (sO (sA (sI (sI (sO (sI (sI (sI σ 60000 m 0 k) 60100 m 0 x) 60200 m 0 y) 60303 m 0 nd) 60400 m 0 (celF σ s)) 60500 m 0 (nI it)) a1 31 it) 60631 m 0 (some a1)) a2 32 it).2.2.2 a1 = 31 := by simp only [sA, sI, sN]; rw [if_neg hn_a1]; exact hka1
  have hka2 : (sA (sO (sA (sI (sI (sO (sI (sI (sI σ 60000 m 0 k) 60100 m 0 x) 60200 m 0 y) 60303 m 0 nd) 60400 m 0 (celF σ s)) 60500 m 0 (nI it)) a1 31 it) 60631 m 0 (some a1)) a2 32 it).2.2.2 a2 = 32 := by simp [sA, sI, sN]
  show WG _ _ _ _ _ _ _ (60, [(0, vR (some m)), (1, vI k), (2, vI x), (3, vI y), (4, vR nd), (5, vR (some s))], [vR (some a2), vR (some m)], sA (sO (sA (sI (sI (sO (sI (sI (sI σ 60000 m 0 k) 60100 m 0 x) 60200 m 0 y) 60303 m 0 nd) 60400 m 0 (celF σ s)) 60500 m 0 (nI it)) a1 31 it) 60631 m 0 (some a1)) a2 32 it, 0 + 1 + 1, 0 + it + it)
  have hm2 := hn_m
  refine w_putr (k := 6) rfl rfl rfl hk_m rfl rfl (fun b9 h9 _ => by have e9 := (rfl : some a2 = some a2).symm.trans h9; cases e9; exact hka2) rfl (Or.inr ⟨rfl, rfl⟩) ?_
  show WG _ _ _ _ _ _ _ (63, [(0, vR (some m)), (1, vI k), (2, vI x), (3, vI y), (4, vR nd), (5, vR (some s))], [], sO (sA (sO (sA (sI (sI (sO (sI (sI (sI σ 60000 m 0 k) 60100 m 0 x) 60200 m 0 y) 60303 m 0 nd) 60400 m 0 (celF σ s)) 60500 m 0 (nI it)) a1 31 it) 60631 m 0 (some a1)) a2 32 it) 60732 m 0 (some a2), 0 + 1 + 1, 0 + it + it)
  refine w_run 2 (S' := (65, [(0, vR (some m)), (1, vI k), (2, vI x), (3, vI y), (4, vR nd), (5, vR (some s))], [vR (some m), vR (some m)], sO (sA (sO (sA (sI (sI (sO (sI (sI (sI σ 60000 m 0 k) 60100 m 0 x) 60200 m 0 y) 60303 m 0 nd) 60400 m 0 (celF σ s)) 60500 m 0 (nI it)) a1 31 it) 60631 m 0 (some a1)) a2 32 it) 60732 m 0 (some a2), 0 + 1 + 1, 0 + it + it)) rfl ?_
  refine w_get (k := 6) (vI ((sA (sO (sA (sI (sI (sO (sI (sI (sI σ 60000 m 0 k) 60100 m 0 x) 60200 m 0 y) 60303 m 0 nd) 60400 m 0 (celF σ s)) 60500 m 0 (nI it)) a1 31 it) 60631 m 0 (some a1)) a2 32 it).1 60500 m 0)) rfl rfl rfl hk_m rfl rfl ?_
  refine w_newqC (k := 33) (N := it) rfl rfl rfl (by decide) rfl (by simp [sA, sI, sO, sN, hm1, hm2]) (by omega) 33 rfl rfl (by decide) (Or.inl rfl) (by simp only [RM]; omega) (by simp only [RM]; omega) (fun a3 ha3 ha3e => ?_)
  have hn_m : m ≠ a3 := ne0 (hk_m) ha3 (by decide)
  have hk_m : (sA (sO (sA (sO (sA (sI (sI (sO (sI (sI (sI σ 60000 m 0 k) 60100 m 0 x) 60200 m 0 y) 60303 m 0 nd) 60400 m 0 (celF σ s)) 60500 m 0 (nI it)) a1 31 it) 60631 m 0 (some a1)) a2 32 it) 60732 m 0 (some a2)) a3 33 it).2.2.2 m = 6 := by simp only [sA, sI, sN]; rw [if_neg hn_m]; exact hk_m
  have hn_s : s ≠ a3 := ne0 (hk_s) ha3 (by decide)
  have hk_s : (sA (sO (sA (sO (sA (sI (sI (sO (sI (sI (sI σ 60000 m 0 k) 60100 m 0 x) 60200 m 0 y) 60303 m 0 nd) 60400 m 0 (celF σ s)) 60500 m 0 (nI it)) a1 31 it) 60631 m 0 (some a1)) a2 32 it) 60732 m 0 (some a2)) a3 33 it).2.2.2 s = 4 := by simp only [sA, sI, sN]; rw [if_neg hn_s]; exact hk_s
  have hn_a1 : a1 ≠ a3 := ne0 (hk_a1) ha3 (by decide)
  have hk_a1 : (sA (sO (sA (sO (sA (sI (sI (sO (sI (sI (sI σ 60000 m 0 k) 60100 m 0 x) 60200 m 0 y) 60303 m 0 nd) 60400 m 0 (celF σ s)) 60500 m 0 (nI it)) a1 31 it) 60631 m 0 (some a1)) a2 32 it) 60732 m 0 (some a2)) a3 33 it).2.2.2 a1 = 31 := by simp only [sA, sI, sN]; rw [if_neg hn_a1]; exact hk_a1
  have hn_a2 : a2 ≠ a3 := ne0 (hka2) ha3 (by decide)
  have hk_a2 : (sA (sO (sA (sO (sA (sI (sI (sO (sI (sI (sI σ 60000 m 0 k) 60100 m 0 x) 60200 m 0 y) 60303 m 0 nd) 60400 m 0 (celF σ s)) 60500 m 0 (nI it)) a1 31 it) 60631 m 0 (some a1)) a2 32 it) 60732 m 0 (some a2)) a3 33 it).2.2.2 a2 = 32 := by simp only [sA, sI, sN]; rw [if_neg hn_a2]; exact hka2
  have hka3 : (sA (sO (sA (sO (sA (sI (sI (sO (sI (sI (sI σ 60000 m 0 k) 60100 m 0 x) 60200 m 0 y) 60303 m 0 nd) 60400 m 0 (celF σ s)) 60500 m 0 (nI it)) a1 31 it) 60631 m 0 (some a1)) a2 32 it) 60732 m 0 (some a2)) a3 33 it).2.2.2 a3 = 33 := by simp [sA, sI, sN]
  show WG _ _ _ _ _ _ _ (71, [(0, vR (some m)), (1, vI k), (2, vI x), (3, vI y), (4, vR nd), (5, vR (some s))], [vR (some a3), vR (some m)], sA (sO (sA (sO (sA (sI (sI (sO (sI (sI (sI σ 60000 m 0 k) 60100 m 0 x) 60200 m 0 y) 60303 m 0 nd) 60400 m 0 (celF σ s)) 60500 m 0 (nI it)) a1 31 it) 60631 m 0 (some a1)) a2 32 it) 60732 m 0 (some a2)) a3 33 it, 0 + 1 + 1 + 1, 0 + it + it + it)
  refine w_putr (k := 6) rfl rfl rfl hk_m rfl rfl (fun b9 h9 _ => by have e9 := (rfl : some a3 = some a3).symm.trans h9; cases e9; exact hka3) rfl (Or.inr ⟨rfl, rfl⟩) ?_
  show WG _ _ _ _ _ _ _ (74, [(0, vR (some m)), (1, vI k), (2, vI x), (3, vI y), (4, vR nd), (5, vR (some s))], [], sO (sA (sO (sA (sO (sA (sI (sI (sO (sI (sI (sI σ 60000 m 0 k) 60100 m 0 x) 60200 m 0 y) 60303 m 0 nd) 60400 m 0 (celF σ s)) 60500 m 0 (nI it)) a1 31 it) 60631 m 0 (some a1)) a2 32 it) 60732 m 0 (some a2)) a3 33 it) 60833 m 0 (some a3), 0 + 1 + 1 + 1, 0 + it + it + it)
  exact w_vret rfl rfl (by omega) (by omega) (⟨rfl, a1, a2, a3, ha1, ha1e, ha2, ha2e, ha3, ha3e, rfl⟩)

