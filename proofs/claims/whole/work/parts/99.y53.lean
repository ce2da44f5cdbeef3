/-! the model reads and writes ints alone -/
section SXS
variable {σ τ s : Sg} {m p : Nat} {A : Nat → Nat}
def sX (σ τ : Sg) : Sg := (σ.1, τ.2)
theorem pX {c : Prop} [Decidable c] {a b a' b' : Int32 × Sg} (h1 : a' = (a.1, sX a.2 τ)) (h2 : b' = (b.1, sX b.2 τ)) : (if c then a' else b') = ((if c then a else b).1, sX (if c then a else b).2 τ) := by
  by_cases h : c
  · rw [if_pos h, if_pos h]; exact h1
  · rw [if_neg h, if_neg h]; exact h2
theorem qX {c : Prop} [Decidable c] {a b a' b' : Sg} (h1 : a' = sX a τ) (h2 : b' = sX b τ) : (if c then a' else b') = sX (if c then a else b) τ := by
  by_cases h : c
  · rw [if_pos h, if_pos h]; exact h1
  · rw [if_neg h, if_neg h]; exact h2
theorem itX {f : Nat → Sg → Sg} (h : ∀ j s, f j (sX s τ) = sX (f j s) τ) (k i : Nat) (s : Sg) : itF f k i (sX s τ) = sX (itF f k i s) τ := itF_ci (C := fun s => sX s τ) h k i s
theorem iX {a : Sg} {c x i : Nat} {v : Int32} (h : s = sX a τ) : sI s c x i v = sX (sI a c x i v) τ := by rw [h]; rfl
theorem mmg_X {y k : Int32} : mmgF (sX σ τ) m A y k = ((mmgF σ m A y k).1, sX (mmgF σ m A y k).2 τ) := by
  unfold mmgF
  exact pX (pX rfl (pX rfl rfl)) rfl
theorem msv_X {y k : Int32} : msvF (sX σ τ) m A y k = ((msvF σ m A y k).1, sX (msvF σ m A y k).2 τ) := by
  unfold msvF
  exact pX (pX rfl (pX rfl rfl)) rfl
theorem mhl_X {y k b : Int32} : mhlF (sX σ τ) m A y k b = ((mhlF σ m A y k b).1, sX (mhlF σ m A y k b).2 τ) := by
  unfold mhlF
  exact pX (pX rfl (pX rfl (pX rfl rfl))) rfl
theorem mdp_X {y k b : Int32} : mdpF (sX σ τ) m A y k b = ((mdpF σ m A y k b).1, sX (mdpF σ m A y k b).2 τ) := by
  unfold mdpF
  exact pX (pX rfl (pX (pX rfl rfl) (pX rfl rfl))) rfl
theorem mit_X {N : Nat → Nat} {y k v : Int32} : mitF (sX σ τ) m A N y k v = ((mitF σ m A N y k v).1, sX (mitF σ m A N y k v).2 τ) := by
  unfold mitF
  exact pX (pX rfl (pX rfl (pX rfl rfl))) rfl
theorem mdr_X {y k : Int32} : mdrF (sX σ τ) m A y k = ((mdrF σ m A y k).1, sX (mdrF σ m A y k).2 τ) := by
  unfold mdrF
  exact pX (pX rfl (pX rfl rfl)) rfl
theorem mwt_X {W V : Nat} {x c : Int32} : mwtF (sX σ τ) m A p W V x c = ((mwtF σ m A p W V x c).1, sX (mwtF σ m A p W V x c).2 τ) := by
  unfold mwtF
  exact pX rfl (pX rfl (pX rfl (pX rfl rfl)))
theorem mtk_X {W O : Nat} : mtkF (sX σ τ) m A p W O = ((mtkF σ m A p W O).1, sX (mtkF σ m A p W O).2 τ) := by
  unfold mtkF
  refine pX rfl (pX rfl ?_)
  have h1 : ∀ s, tkO (sX σ τ) A p O (sX s τ) = sX (tkO σ A p O s) τ := fun s => by unfold tkO; exact qX rfl rfl
  have h2 : ∀ s, tkV (sX σ τ) A p (sX s τ) = sX (tkV σ A p s) τ := fun s => by unfold tkV; exact qX rfl (qX rfl rfl)
  have h3 : ∀ s, tkL (sX σ τ) A p (sX s τ) = sX (tkL σ A p s) τ := fun s => rfl
  have h4 : ∀ s, tkB (sX σ τ) A p (sX s τ) = sX (tkB σ A p s) τ := fun s => by unfold tkB; exact qX rfl rfl
  have e : tkB (sX σ τ) A p (tkL (sX σ τ) A p (tkV (sX σ τ) A p (tkO (sX σ τ) A p O (sI (sX σ τ) 500000 m 0 0)))) = sX (tkB σ A p (tkL σ A p (tkV σ A p (tkO σ A p O (sI σ 500000 m 0 0))))) τ := by
    rw [show sI (sX σ τ) 500000 m 0 0 = sX (sI σ 500000 m 0 0) τ from rfl, h1, h2, h3, h4]
  rw [e, show ∀ q, sI (sX q τ) 720000 (A 21) p (nI (W - 1)) = sX (sI q 720000 (A 21) p (nI (W - 1))) τ from fun _ => rfl, itX (fun j s => rfl)]
  rfl
theorem ml_X {b j : Nat} : mlF A p b j (sX s τ) = sX (mlF A p b j s) τ := by
  unfold mlF
  exact qX rfl (qX rfl (qX rfl rfl))
theorem mfS_X {b it : Nat} : mfS (sX s τ) A p b it = sX (mfS s A p b it) τ := by
  unfold mfS
  rw [show sI (sX s τ) 610000 (A 10) b 0 = sX (sI s 610000 (A 10) b 0) τ from rfl, itX (fun j s => ml_X)]
theorem mfr_X {W : Nat} {x : Int32} : mfrF (sX σ τ) m A p W x = ((mfrF σ m A p W x).1, sX (mfrF σ m A p W x).2 τ) := by
  unfold mfrF
  refine pX rfl (pX ?_ ?_)
  · show (1, mfS (sX (Th m σ) τ) A p (mfB σ A p x).toNatClampNeg (σ.1 680000 (A 17) (mfB σ A p x).toNatClampNeg).toNatClampNeg) = _
    rw [mfS_X]
  · show mfrG (mfS (sX (Th m σ) τ) A p (mfB σ A p x).toNatClampNeg (σ.1 680000 (A 17) (mfB σ A p x).toNatClampNeg).toNatClampNeg) A p (mfB σ A p x).toNatClampNeg W = _
    rw [mfS_X]
    unfold mfrG
    exact pX rfl rfl
theorem mv1_X {b j : Nat} : mv1 A m p b j (sX s τ) = sX (mv1 A m p b j s) τ := rfl
theorem mvN_X {q : Nat} {n : Int32} : mvN (sX s τ) A q n = sX (mvN s A q n) τ := by
  unfold mvN
  exact qX rfl rfl
theorem mv2_X {q b j : Nat} : mv2 A p q b j (sX s τ) = sX (mv2 A p q b j s) τ := by
  unfold mv2
  refine qX rfl (qX ?_ rfl)
  show sI (sI (sI (sI (mvN (sX (sI s 710000 (A 20) (4 * b + j) (-1)) τ) A q (s.1 710000 (A 20) (4 * b + j))) 550000 (A 4) (16 * q + mvH s A q (s.1 710000 (A 20) (4 * b + j))) (s.1 550000 (A 4) (16 * q + mvH s A q (s.1 710000 (A 20) (4 * b + j))) + 1)) 690000 (A 18) (4 * b + j) 2) 700000 (A 19) (4 * b + j) (nI (mvH s A q (s.1 710000 (A 20) (4 * b + j))))) 710000 (A 20) (4 * b + j) (s.1 710000 (A 20) (4 * b + j)) = _
  rw [mvN_X]
  rfl
theorem mvS_X {q b n z : Nat} {w v t : Int32} : mvS (sX s τ) m A p q b n z w v t = sX (mvS s m A p q b n z w v t) τ := by
  unfold mvS
  rw [show mvA (sX s τ) m A p b n z w v t = sX (mvA s m A p b n z w v t) τ from rfl, itX (fun j s => mv1_X), itX (fun j s => mv2_X)]
  rfl
theorem msn_X {x w : Int32} {q b n z W : Nat} {t : Int32} : msnF (sX σ τ) m A p x w q b n z W t = ((msnF σ m A p x w q b n z W t).1, sX (msnF σ m A p x w q b n z W t).2 τ) := by
  unfold msnF
  refine pX rfl (pX rfl (pX rfl (pX rfl (pX rfl ?_))))
  have e : ∀ y, msnS (sX σ τ) m A p x w q b n z W t y = sX (msnS σ m A p x w q b n z W t y) τ := fun y => by
    unfold msnS
    refine qX ?_ ?_
    · show cmS (mvS (sX (sI σ 500000 m 0 0) τ) m A p q b n z w (tgtF σ m A p x) t) A q W _ _ _ _ _ = _
      rw [mvS_X]; rfl
    · show sI (mvS (sX (sI σ 500000 m 0 0) τ) m A p q b n z w (tgtF σ m A p x) t) 610000 (A 10) b 1 = _
      rw [mvS_X]; rfl
  show (0, sI (msnS (sX σ τ) m A p x w q b n z W t (msnM σ m A p q x w)) 770000 (A 26) p _) = _
  rw [e]; rfl
theorem mrp_X {q b n z W O : Nat} {t : Int32} : mrpF (sX σ τ) m A p q b n z W O t = ((mrpF σ m A p q b n z W O t).1, sX (mrpF σ m A p q b n z W O t).2 τ) := by
  unfold mrpF
  refine pX rfl (pX rfl (pX rfl (pX rfl (pX rfl ?_))))
  unfold mrpS
  show (0, cmS (mvS (sX (sI (sI σ 500000 m 0 0) 740000 (A 23) p (nI O - 1)) τ) m A p q b n z 0 (-1) t) A q W 3 (nI b) (-1) (nI p) 0) = _
  rw [mvS_X]; rfl
end SXS
