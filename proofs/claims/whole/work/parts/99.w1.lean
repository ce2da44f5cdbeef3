/-! the constructors of the class -/
section INI
variable {E : FE} {σ τ : Sg} {c a x0 q k n c' a' x1 : Nat} {b b' : Option Nat} {v v' : Int32}
/-- a ref, an int, in a cell that is there -/
def LKo (c a x0 : Nat) (b : Option Nat) (σ : Sg) : Prop := σ.2.1 c a x0 = b ∧ σ.2.2.2 a ≠ 0
def LKi (c a x0 : Nat) (v : Int32) (σ : Sg) : Prop := σ.1 c a x0 = v ∧ σ.2.2.2 a ≠ 0
def LKk (a k : Nat) (σ : Sg) : Prop := σ.2.2.2 a = k ∧ k ≠ 0
theorem nq_of {a q : Nat} (h : σ.2.2.2 a ≠ 0) (hq : σ.2.2.2 q = 0) : a ≠ q := fun e => h (by rw [e]; exact hq)
theorem LKo.N (h : LKo c a x0 b σ) (hq : σ.2.2.2 q = 0) : LKo c a x0 b (sN σ q k) := by
  have := nq_of h.2 hq
  exact ⟨(if_neg this).trans h.1, by show (if a = q then k else σ.2.2.2 a) ≠ 0; rw [if_neg this]; exact h.2⟩
theorem LKo.A (h : LKo c a x0 b σ) (hq : σ.2.2.2 q = 0) : LKo c a x0 b (sA σ q k n) := h.N hq
theorem LKo.o (h : LKo c a x0 b σ) (hc : c ≠ c') : LKo c a x0 b (sO σ c' a' x1 b') := ⟨(rOO hc).trans h.1, h.2⟩
theorem LKo.i (h : LKo c a x0 b σ) : LKo c a x0 b (sI σ c' a' x1 v) := h
theorem LKi.N (h : LKi c a x0 v σ) (hq : σ.2.2.2 q = 0) : LKi c a x0 v (sN σ q k) := by
  have := nq_of h.2 hq
  exact ⟨(if_neg this).trans h.1, by show (if a = q then k else σ.2.2.2 a) ≠ 0; rw [if_neg this]; exact h.2⟩
theorem LKi.A (h : LKi c a x0 v σ) (hq : σ.2.2.2 q = 0) : LKi c a x0 v (sA σ q k n) := by
  have h1 := h.N (k := k) hq
  have e : (sI (sN σ q k) (10000 * k + 9900) q 0 (nI n)).1 c a x0 = (sN σ q k).1 c a x0 := by simp [sI, nq_of h.2 hq]
  exact ⟨e.trans h1.1, h1.2⟩
theorem LKi.o (h : LKi c a x0 v σ) : LKi c a x0 v (sO σ c' a' x1 b') := h
theorem LKi.i (h : LKi c a x0 v σ) (hc : c ≠ c') : LKi c a x0 v (sI σ c' a' x1 v') := ⟨(rII hc).trans h.1, h.2⟩
theorem LKk.N (h : LKk a k σ) (hq : σ.2.2.2 q = 0) : LKk a k (sN σ q n) := by
  have := nq_of (by rw [h.1]; exact h.2) hq
  exact ⟨by show (if a = q then n else σ.2.2.2 a) = k; rw [if_neg this]; exact h.1, h.2⟩
theorem LKk.A {n' : Nat} (h : LKk a k σ) (hq : σ.2.2.2 q = 0) : LKk a k (sA σ q n n') := h.N hq
theorem LKk.o (h : LKk a k σ) : LKk a k (sO σ c' a' x1 b') := h
theorem LKk.i (h : LKk a k σ) : LKk a k (sI σ c' a' x1 v') := h
/-- what is new: the cells S, and what a has -/
def GrA (E : FE) (a : Nat) (S : List Nat) (σ σ' : Sg) : Prop := (∀ y, y ∉ S → σ'.2.2.2 y = σ.2.2.2 y) ∧ (∀ y, y ∈ S → σ.2.2.2 y = 0 ∧ y ≠ fe E ∧ σ'.2.2.2 y ≠ 0) ∧ (∀ c y i, y ∉ S → y ≠ a → σ'.1 c y i = σ.1 c y i ∧ σ'.2.1 c y i = σ.2.1 c y i) ∧ σ'.2.2.1 = σ.2.2.1
theorem GrA.nil {a : Nat} : GrA E a [] σ σ := ⟨fun _ _ => rfl, fun _ h => (by cases h), fun _ _ _ _ _ => ⟨rfl, rfl⟩, rfl⟩
theorem GrA.N {S : List Nat} {a q k : Nat} (h : GrA E a S σ τ) (hq : τ.2.2.2 q = 0) (he : q ≠ fe E) (hk : k ≠ 0) : GrA E a (q :: S) σ (sN τ q k) := by
  have nS : q ∉ S := fun m => (h.2.1 q m).2.2 hq
  refine ⟨fun y hy => ?_, fun y hy => ?_, fun c y i hy ha => ?_, h.2.2.2⟩
  · rw [List.mem_cons, not_or] at hy
    show (if y = q then k else τ.2.2.2 y) = _
    rw [if_neg hy.1]; exact h.1 y hy.2
  · rcases List.mem_cons.mp hy with rfl | hy
    · exact ⟨(h.1 y nS).symm.trans hq, he, by show (if y = y then k else τ.2.2.2 y) ≠ 0; rw [if_pos rfl]; exact hk⟩
    · obtain ⟨h1, h2, h3⟩ := h.2.1 y hy
      refine ⟨h1, h2, ?_⟩
      show (if y = q then k else τ.2.2.2 y) ≠ 0
      split
      · exact hk
      · exact h3
  · rw [List.mem_cons, not_or] at hy
    obtain ⟨h1, h2⟩ := h.2.2.1 c y i hy.2 ha
    exact ⟨(if_neg hy.1).trans h1, (if_neg hy.1).trans h2⟩
theorem GrA.i {S : List Nat} {a c a' i : Nat} {v : Int32} (h : GrA E a S σ τ) (hm : a' = a ∨ a' ∈ S) : GrA E a S σ (sI τ c a' i v) :=
  ⟨h.1, h.2.1, fun c' y i' hy ha => by
    obtain ⟨h1, h2⟩ := h.2.2.1 c' y i' hy ha
    exact ⟨(rIe (fun z => hm.elim (fun e => ha (z.2.trans e)) (fun e => hy (by rw [z.2]; exact e)))).trans h1, h2⟩, h.2.2.2⟩
theorem GrA.o {S : List Nat} {a c a' i : Nat} {v : Option Nat} (h : GrA E a S σ τ) (hm : a' = a ∨ a' ∈ S) : GrA E a S σ (sO τ c a' i v) :=
  ⟨h.1, h.2.1, fun c' y i' hy ha => by
    obtain ⟨h1, h2⟩ := h.2.2.1 c' y i' hy ha
    exact ⟨h1, (rOe (fun z => hm.elim (fun e => ha (z.2.trans e)) (fun e => hy (by rw [z.2]; exact e)))).trans h2⟩, h.2.2.2⟩
theorem GrA.A {S : List Nat} {a q k n : Nat} (h : GrA E a S σ τ) (hq : τ.2.2.2 q = 0) (he : q ≠ fe E) (hk : k ≠ 0) : GrA E a (q :: S) σ (sA τ q k n) := (h.N hq he hk).i (Or.inr List.mem_cons_self)
end INI
def hsI (σ : Sg) (h b1 b2 b3 : Nat) : Sg := sO (sA (sO (sA (sO (sA σ b1 12 16) 80012 h 0 (some b1)) b2 13 16) 80113 h 0 (some b2)) b3 14 16) 80214 h 0 (some b3)
def drI (σ : Sg) (h b1 b2 b3 : Nat) : Sg := sO (sA (sO (sA (sO (sA σ b1 16 4) 40016 h 0 (some b1)) b2 17 4) 40117 h 0 (some b2)) b3 18 4) 40218 h 0 (some b3)
def fre (E : FE) (σ : Sg) (q : Nat) : Prop := σ.2.2.2 q = 0 ∧ q ≠ fe E
set_option maxRecDepth 20000 in
set_option maxHeartbeats 4000000 in
theorem c_hs_init (l : Launch) (E : FE) (d : Nat) (σ : Sg) (a : Nat) (hd : 2 ≤ d) (ha : σ.2.2.2 a = 8) : CT l E d 15 [vR (some a)] σ 3 48 (fun r σ' => r = none ∧ ∃ b1 b2 b3, fre E σ b1 ∧ fre E (sO (sA σ b1 12 16) 80012 a 0 (some b1)) b2 ∧ fre E (sO (sA (sO (sA σ b1 12 16) 80012 a 0 (some b1)) b2 13 16) 80113 a 0 (some b2)) b3 ∧ σ' = hsI σ a b1 b2 b3) (fun _ _ => False) := by
  refine CTo ok_hs_init (by decide +kernel) rfl rfl rfl ?_
  refine w_run 1 (S' := (1, [(0, vR (some a))], [vR (some a)], σ, 0, 0)) rfl ?_
  refine w_objI rfl mo_7_3 rfl rfl (by simp only [RM]; omega) (by simp only [RM]; omega) ?_
  refine w_run 2 (S' := (7, [(0, vR (some a))], [vI 16, vR (some a)], σ, 0, 0)) rfl ?_
  refine w_newqC (k := 12) (N := 16) rfl rfl rfl (by decide) rfl rfl (by omega) 12 rfl rfl (by decide) (Or.inr rfl) (by simp only [RM]; omega) (by simp only [RM]; omega) (fun b1 hb1 hb1e => ?_)
  have hn_a : a ≠ b1 := ne0 (ha) hb1 (by decide)
  have hk_a : (sA σ b1 12 16).2.2.2 a = 8 := by simp only [sA, sI, sN]; rw [if_neg hn_a]; exact ha
  have hkb1 : (sA σ b1 12 16).2.2.2 b1 = 12 := by simp [sA, sI, sN]
  show WG _ _ _ _ _ _ _ (10, [(0, vR (some a))], [vR (some b1), vR (some a)], sA σ b1 12 16, 0 + 1, 0 + 16)
  refine w_putr (k := 8) rfl rfl rfl hk_a rfl rfl (fun b9 h9 _ => by have e9 := (rfl : some b1 = some b1).symm.trans h9; cases e9; exact hkb1) rfl (Or.inr ⟨rfl, rfl⟩) ?_
  show WG _ _ _ _ _ _ _ (13, [(0, vR (some a))], [], sO (sA σ b1 12 16) 80012 a 0 (some b1), 0 + 1, 0 + 16)
  refine w_run 2 (S' := (16, [(0, vR (some a))], [vI 16, vR (some a)], sO (sA σ b1 12 16) 80012 a 0 (some b1), 0 + 1, 0 + 16)) rfl ?_
  refine w_newaI (k := 13) (N := 16) rfl rfl (by omega) 13 rfl rfl (Or.inr rfl) (by simp only [RM]; omega) (by simp only [RM]; omega) (fun b2 hb2 hb2e => ?_)
  have hn_a : a ≠ b2 := ne0 (hk_a) hb2 (by decide)
  have hk_a : (sA (sO (sA σ b1 12 16) 80012 a 0 (some b1)) b2 13 16).2.2.2 a = 8 := by simp only [sA, sI, sN]; rw [if_neg hn_a]; exact hk_a
  have hn_b1 : b1 ≠ b2 := ne0 (hkb1) hb2 (by decide)
  have hk_b1 : (sA (sO (sA σ b1 12 16) 80012 a 0 (some b1)) b2 13 16).2.2.2 b1 = 12 := by simp only [sA, sI, sN]; rw [if_neg hn_b1]; exact hkb1
  have hkb2 : (sA (sO (sA σ b1 12 16) 80012 a 0 (some b1)) b2 13 16).2.2.2 b2 = 13 := by simp [sA, sI, sN]
  show WG _ _ _ _ _ _ _ (18, [(0, vR (some a))], [vR (some b2), vR (some a)], sA (sO (sA σ b1 12 16) 80012 a 0 (some b1)) b2 13 16, 0 + 1 + 1, 0 + 16 + 16)
  refine w_putr (k := 8) rfl rfl rfl hk_a rfl rfl (fun b9 h9 _ => by have e9 := (rfl : some b2 = some b2).symm.trans h9; cases e9; exact hkb2) rfl (Or.inr ⟨rfl, rfl⟩) ?_
  show WG _ _ _ _ _ _ _ (21, [(0, vR (some a))], [], sO (sA (sO (sA σ b1 12 16) 80012 a 0 (some b1)) b2 13 16) 80113 a 0 (some b2), 0 + 1 + 1, 0 + 16 + 16)
  refine w_run 2 (S' := (24, [(0, vR (some a))], [vI 16, vR (some a)], sO (sA (sO (sA σ b1 12 16) 80012 a 0 (some b1)) b2 13 16) 80113 a 0 (some b2), 0 + 1 + 1, 0 + 16 + 16)) rfl ?_
  refine w_newaI (k := 14) (N := 16) rfl rfl (by omega) 14 rfl rfl (Or.inr rfl) (by simp only [RM]; omega) (by simp only [RM]; omega) (fun b3 hb3 hb3e => ?_)
  have hn_a : a ≠ b3 := ne0 (hk_a) hb3 (by decide)
  have hk_a : (sA (sO (sA (sO (sA σ b1 12 16) 80012 a 0 (some b1)) b2 13 16) 80113 a 0 (some b2)) b3 14 16).2.2.2 a = 8 := by simp only [sA, sI, sN]; rw [if_neg hn_a]; exact hk_a
  have hn_b1 : b1 ≠ b3 := ne0 (hk_b1) hb3 (by decide)
  have hk_b1 : (sA (sO (sA (sO (sA σ b1 12 16) 80012 a 0 (some b1)) b2 13 16) 80113 a 0 (some b2)) b3 14 16).2.2.2 b1 = 12 := by simp only [sA, sI, sN]; rw [if_neg hn_b1]; exact hk_b1
  have hn_b2 : b2 ≠ b3 := ne0 (hkb2) hb3 (by decide)
  have hk_b2 : (sA (sO (sA (sO (sA σ b1 12 16) 80012 a 0 (some b1)) b2 13 16) 80113 a 0 (some b2)) b3 14 16).2.2.2 b2 = 13 := by simp only [sA, sI, sN]; rw [if_neg hn_b2]; exact hkb2
  have hkb3 : (sA (sO (sA (sO (sA σ b1 12 16) 80012 a 0 (some b1)) b2 13 16) 80113 a 0 (some b2)) b3 14 16).2.2.2 b3 = 14 := by simp [sA, sI, sN]
  show WG _ _ _ _ _ _ _ (26, [(0, vR (some a))], [vR (some b3), vR (some a)], sA (sO (sA (sO (sA σ b1 12 16) 80012 a 0 (some b1)) b2 13 16) 80113 a 0 (some b2)) b3 14 16, 0 + 1 + 1 + 1, 0 + 16 + 16 + 16)
  refine w_putr (k := 8) rfl rfl rfl hk_a rfl rfl (fun b9 h9 _ => by have e9 := (rfl : some b3 = some b3).symm.trans h9; cases e9; exact hkb3) rfl (Or.inr ⟨rfl, rfl⟩) ?_
  show WG _ _ _ _ _ _ _ (29, [(0, vR (some a))], [], sO (sA (sO (sA (sO (sA σ b1 12 16) 80012 a 0 (some b1)) b2 13 16) 80113 a 0 (some b2)) b3 14 16) 80214 a 0 (some b3), 0 + 1 + 1 + 1, 0 + 16 + 16 + 16)
  exact w_vret rfl rfl (by omega) (by omega) (⟨rfl, b1, b2, b3, ⟨hb1, hb1e⟩, ⟨hb2, hb2e⟩, ⟨hb3, hb3e⟩, rfl⟩)

set_option maxRecDepth 20000 in
set_option maxHeartbeats 4000000 in
theorem c_dr_init (l : Launch) (E : FE) (d : Nat) (σ : Sg) (a : Nat) (hd : 2 ≤ d) (ha : σ.2.2.2 a = 4) : CT l E d 4 [vR (some a)] σ 3 12 (fun r σ' => r = none ∧ ∃ b1 b2 b3, fre E σ b1 ∧ fre E (sO (sA σ b1 16 4) 40016 a 0 (some b1)) b2 ∧ fre E (sO (sA (sO (sA σ b1 16 4) 40016 a 0 (some b1)) b2 17 4) 40117 a 0 (some b2)) b3 ∧ σ' = drI σ a b1 b2 b3) (fun _ _ => False) := by
  refine CTo ok_dr_init (by decide +kernel) rfl rfl rfl ?_
  refine w_run 1 (S' := (1, [(0, vR (some a))], [vR (some a)], σ, 0, 0)) rfl ?_
  refine w_objI rfl mo_3_3 rfl rfl (by simp only [RM]; omega) (by simp only [RM]; omega) ?_
  refine w_run 2 (S' := (6, [(0, vR (some a))], [vI 4, vR (some a)], σ, 0, 0)) rfl ?_
  refine w_newaI (k := 16) (N := 4) rfl rfl (by omega) 16 rfl rfl (Or.inr rfl) (by simp only [RM]; omega) (by simp only [RM]; omega) (fun b1 hb1 hb1e => ?_)
  have hn_a : a ≠ b1 := ne0 (ha) hb1 (by decide)
  have hk_a : (sA σ b1 16 4).2.2.2 a = 4 := by simp only [sA, sI, sN]; rw [if_neg hn_a]; exact ha
  have hkb1 : (sA σ b1 16 4).2.2.2 b1 = 16 := by simp [sA, sI, sN]
  show WG _ _ _ _ _ _ _ (8, [(0, vR (some a))], [vR (some b1), vR (some a)], sA σ b1 16 4, 0 + 1, 0 + 4)
  refine w_putr (k := 4) rfl rfl rfl hk_a rfl rfl (fun b9 h9 _ => by have e9 := (rfl : some b1 = some b1).symm.trans h9; cases e9; exact hkb1) rfl (Or.inr ⟨rfl, rfl⟩) ?_
  show WG _ _ _ _ _ _ _ (11, [(0, vR (some a))], [], sO (sA σ b1 16 4) 40016 a 0 (some b1), 0 + 1, 0 + 4)
  refine w_run 2 (S' := (13, [(0, vR (some a))], [vI 4, vR (some a)], sO (sA σ b1 16 4) 40016 a 0 (some b1), 0 + 1, 0 + 4)) rfl ?_
  refine w_newaI (k := 17) (N := 4) rfl rfl (by omega) 17 rfl rfl (Or.inr rfl) (by simp only [RM]; omega) (by simp only [RM]; omega) (fun b2 hb2 hb2e => ?_)
  have hn_a : a ≠ b2 := ne0 (hk_a) hb2 (by decide)
  have hk_a : (sA (sO (sA σ b1 16 4) 40016 a 0 (some b1)) b2 17 4).2.2.2 a = 4 := by simp only [sA, sI, sN]; rw [if_neg hn_a]; exact hk_a
  have hn_b1 : b1 ≠ b2 := ne0 (hkb1) hb2 (by decide)
  have hk_b1 : (sA (sO (sA σ b1 16 4) 40016 a 0 (some b1)) b2 17 4).2.2.2 b1 = 16 := by simp only [sA, sI, sN]; rw [if_neg hn_b1]; exact hkb1
  have hkb2 : (sA (sO (sA σ b1 16 4) 40016 a 0 (some b1)) b2 17 4).2.2.2 b2 = 17 := by simp [sA, sI, sN]
  show WG _ _ _ _ _ _ _ (15, [(0, vR (some a))], [vR (some b2), vR (some a)], sA (sO (sA σ b1 16 4) 40016 a 0 (some b1)) b2 17 4, 0 + 1 + 1, 0 + 4 + 4)
  refine w_putr (k := 4) rfl rfl rfl hk_a rfl rfl (fun b9 h9 _ => by have e9 := (rfl : some b2 = some b2).symm.trans h9; cases e9; exact hkb2) rfl (Or.inr ⟨rfl, rfl⟩) ?_
  show WG _ _ _ _ _ _ _ (18, [(0, vR (some a))], [], sO (sA (sO (sA σ b1 16 4) 40016 a 0 (some b1)) b2 17 4) 40117 a 0 (some b2), 0 + 1 + 1, 0 + 4 + 4)
  refine w_run 2 (S' := (20, [(0, vR (some a))], [vI 4, vR (some a)], sO (sA (sO (sA σ b1 16 4) 40016 a 0 (some b1)) b2 17 4) 40117 a 0 (some b2), 0 + 1 + 1, 0 + 4 + 4)) rfl ?_
  refine w_newqC (k := 18) (N := 4) rfl rfl rfl (by decide) rfl rfl (by omega) 18 rfl rfl (by decide) (Or.inr rfl) (by simp only [RM]; omega) (by simp only [RM]; omega) (fun b3 hb3 hb3e => ?_)
  have hn_a : a ≠ b3 := ne0 (hk_a) hb3 (by decide)
  have hk_a : (sA (sO (sA (sO (sA σ b1 16 4) 40016 a 0 (some b1)) b2 17 4) 40117 a 0 (some b2)) b3 18 4).2.2.2 a = 4 := by simp only [sA, sI, sN]; rw [if_neg hn_a]; exact hk_a
  have hn_b1 : b1 ≠ b3 := ne0 (hk_b1) hb3 (by decide)
  have hk_b1 : (sA (sO (sA (sO (sA σ b1 16 4) 40016 a 0 (some b1)) b2 17 4) 40117 a 0 (some b2)) b3 18 4).2.2.2 b1 = 16 := by simp only [sA, sI, sN]; rw [if_neg hn_b1]; exact hk_b1
  have hn_b2 : b2 ≠ b3 := ne0 (hkb2) hb3 (by decide)
  have hk_b2 : (sA (sO (sA (sO (sA σ b1 16 4) 40016 a 0 (some b1)) b2 17 4) 40117 a 0 (some b2)) b3 18 4).2.2.2 b2 = 17 := by simp only [sA, sI, sN]; rw [if_neg hn_b2]; exact hkb2
  have hkb3 : (sA (sO (sA (sO (sA σ b1 16 4) 40016 a 0 (some b1)) b2 17 4) 40117 a 0 (some b2)) b3 18 4).2.2.2 b3 = 18 := by simp [sA, sI, sN]
  show WG _ _ _ _ _ _ _ (23, [(0, vR (some a))], [vR (some b3), vR (some a)], sA (sO (sA (sO (sA σ b1 16 4) 40016 a 0 (some b1)) b2 17 4) 40117 a 0 (some b2)) b3 18 4, 0 + 1 + 1 + 1, 0 + 4 + 4 + 4)
  refine w_putr (k := 4) rfl rfl rfl hk_a rfl rfl (fun b9 h9 _ => by have e9 := (rfl : some b3 = some b3).symm.trans h9; cases e9; exact hkb3) rfl (Or.inr ⟨rfl, rfl⟩) ?_
  show WG _ _ _ _ _ _ _ (26, [(0, vR (some a))], [], sO (sA (sO (sA (sO (sA σ b1 16 4) 40016 a 0 (some b1)) b2 17 4) 40117 a 0 (some b2)) b3 18 4) 40218 a 0 (some b3), 0 + 1 + 1 + 1, 0 + 4 + 4 + 4)
  exact w_vret rfl rfl (by omega) (by omega) (⟨rfl, b1, b2, b3, ⟨hb1, hb1e⟩, ⟨hb2, hb2e⟩, ⟨hb3, hb3e⟩, rfl⟩)

set_option maxRecDepth 20000 in
set_option maxHeartbeats 4000000 in
theorem c_ar_init (l : Launch) (E : FE) (d : Nat) (σ : Sg) (a : Nat) (hd : 2 ≤ d) (ha : σ.2.2.2 a = 9) : CT l E d 25 [vR (some a)] σ 1 64 (fun r σ' => r = none ∧ ∃ b1, fre E σ b1 ∧ σ' = sO (sA σ b1 15 64) 90015 a 0 (some b1)) (fun _ _ => False) := by
  refine CTo ok_ar_init (by decide +kernel) rfl rfl rfl ?_
  refine w_run 1 (S' := (1, [(0, vR (some a))], [vR (some a)], σ, 0, 0)) rfl ?_
  refine w_objI rfl mo_8_3 rfl rfl (by simp only [RM]; omega) (by simp only [RM]; omega) ?_
  refine w_run 2 (S' := (7, [(0, vR (some a))], [vI 64, vR (some a)], σ, 0, 0)) rfl ?_
  refine w_newqC (k := 15) (N := 64) rfl rfl rfl (by decide) rfl rfl (by omega) 15 rfl rfl (by decide) (Or.inr rfl) (by simp only [RM]; omega) (by simp only [RM]; omega) (fun b1 hb1 hb1e => ?_)
  have hn_a : a ≠ b1 := ne0 (ha) hb1 (by decide)
  have hk_a : (sA σ b1 15 64).2.2.2 a = 9 := by simp only [sA, sI, sN]; rw [if_neg hn_a]; exact ha
  have hkb1 : (sA σ b1 15 64).2.2.2 b1 = 15 := by simp [sA, sI, sN]
  show WG _ _ _ _ _ _ _ (10, [(0, vR (some a))], [vR (some b1), vR (some a)], sA σ b1 15 64, 0 + 1, 0 + 64)
  refine w_putr (k := 9) rfl rfl rfl hk_a rfl rfl (fun b9 h9 _ => by have e9 := (rfl : some b1 = some b1).symm.trans h9; cases e9; exact hkb1) rfl (Or.inr ⟨rfl, rfl⟩) ?_
  show WG _ _ _ _ _ _ _ (13, [(0, vR (some a))], [], sO (sA σ b1 15 64) 90015 a 0 (some b1), 0 + 1, 0 + 64)
  exact w_vret rfl rfl (by omega) (by omega) (⟨rfl, b1, ⟨hb1, hb1e⟩, rfl⟩)

