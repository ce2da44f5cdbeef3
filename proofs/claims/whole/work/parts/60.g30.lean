section MC
variable {E : FE} {g : Gh} {σ σ' σ2 τ τ' : Sg} {K J : Nat → Bool} {n n' m : Nat} {A : Nat → Nat}
/-- free, as the class has it: the message m at the cell c, with it items and their held nodes at a3 -/
def ofrP (E : FE) (D : Nat → Nat → Nat) (p : Nat) (L1 : Nat → List Nat) (σ : Sg) (x v : Int32) (σ1 : Sg) : Prop := match tkAt σ (D p 7) x with
  | none => v = 0 ∧ σ1 = σ
  | some m => v = 1 ∧ ∃ c it a3, σ.1 60900 m 0 = nI c ∧ c < 64 ∧ σ.1 60500 m 0 = nI it ∧ it ≤ 4 ∧ σ.2.1 60833 m 0 = some a3 ∧
    (if σ.1 60000 m 0 = 2 then (match σ.2.1 60303 m 0 with
      | none => σ1 = itF (lsF D p a3) it 0 (arR σ (D p 6) (D p 7) m c)
      | some a => snP E D p a L1 (itF (lsF D p a3) it 0 (arR σ (D p 6) (D p 7) m c)) σ1) else σ1 = itF (lsF D p a3) it 0 (arR σ (D p 6) (D p 7) m c))
/-- free, as the model has it: W works -/
def mfB (σ : Sg) (A : Nat → Nat) (p : Nat) (x : Int32) : Int32 := itF (tknF (σ.1 610000 (A 10)) (σ.1 620000 (A 11)) x) 64 (64 * p) (-1)
def mfS (σ : Sg) (A : Nat → Nat) (p b it : Nat) : Sg := itF (mlF A p b) it 0 (sI σ 610000 (A 10) b 0)
def mfN (s : Sg) (A : Nat → Nat) (p b : Nat) : Int32 := itF (nxF (s.1 610000 (A 10)) (s.1 650000 (A 14)) (s.1 670000 (A 16)) (s.1 650000 (A 14) b)) 64 (64 * p) (-1)
def mfrG (s : Sg) (A : Nat → Nat) (p b W : Nat) : Int32 × Sg := if mfN s A p b < 0 then (1, s) else (1, cmS (sI s 610000 (A 10) (mfN s A p b).toNatClampNeg 2) A p W 2 (mfN s A p b) (nI ((s.1 650000 (A 14) (mfN s A p b).toNatClampNeg).toNatClampNeg % 10)) (s.1 660000 (A 15) (mfN s A p b).toNatClampNeg) 0)
def mfrF (σ : Sg) (m : Nat) (A : Nat → Nat) (p W : Nat) (x : Int32) : Int32 × Sg :=
  if mfB σ A p x < 0 then (0, Th m σ) else if σ.1 640000 (A 13) (mfB σ A p x).toNatClampNeg = 0 then (1, mfS (Th m σ) A p (mfB σ A p x).toNatClampNeg (σ.1 680000 (A 17) (mfB σ A p x).toNatClampNeg).toNatClampNeg) else mfrG (mfS (Th m σ) A p (mfB σ A p x).toNatClampNeg (σ.1 680000 (A 17) (mfB σ A p x).toNatClampNeg).toNatClampNeg) A p (mfB σ A p x).toNatClampNeg W
theorem mfS_M {p b it : Nat} : MOp A m (fun τ => mfS τ A p b it) := MOp.comp (M := fun τ => sI τ 610000 (A 10) b 0) (N := fun τ => itF (mlF A p b) it 0 τ) (MOp.w (plA (by decide) (by decide)) (fun _ _ _ => rfl)) (MOp.it (fun _ => mlF_M) it 0)
theorem mfS_r {p b it c : Nat} (hc : c ≠ 550000) (hc2 : c ≠ 610000) : (mfS τ A p b it).1 c = τ.1 c := by
  unfold mfS
  exact itF_ind (f := mlF A p b) (fun _ s => s.1 c = τ.1 c) it 0 _ (funext fun a => funext fun x => rII hc2) (fun j s _ _ h => (mlF_r hc).1.trans h)
theorem ml6 {p b it : Nat} : ((itF (mlF A p b) it 0 τ).1 610000) = τ.1 610000 := itF_ind (f := mlF A p b) (fun _ s => s.1 610000 = τ.1 610000) it 0 _ rfl (fun j s _ _ h => (mlF_r (by decide)).1.trans h)
theorem Cl_m {D : Nat → Nat → Nat} {p a3 it c a x : Nat} {v : Int32} (hc : c ≠ 130000 ∧ c ≠ 140000 ∧ c ≠ 80300) (i : Nat) (τ : Sg) : itF (lsF D p a3) it i (sI τ c a x v) = sI (itF (lsF D p a3) it i τ) c a x v := by
  induction it generalizing i τ with
  | zero => rfl
  | succ it ih =>
    rw [itF_succ, itF_succ, ← ih]
    congr 1
    exact loseF_m hc
theorem ls_r {D : Nat → Nat → Nat} {p a3 it c : Nat} (hc : c ≠ 130000 ∧ c ≠ 140000 ∧ c ≠ 80300) : (itF (lsF D p a3) it 0 τ).1 c = τ.1 c := by
  refine itF_ind (f := lsF D p a3) (fun _ s => s.1 c = τ.1 c) it 0 _ rfl (fun j s _ _ h => Eq.trans ?_ h)
  unfold lsF loseF
  split
  · rfl
  · unfold takeFromF
    split
    · rfl
    · rw [if_neg (by decide : ¬ (1 : Int32) = 0)]
      split
      · rfl
      · show (dropS _ _ _ _ _ _).1 c = _
        unfold dropS
        split
        · split
          · funext a x; rw [rII hc.2.2]; show (sI _ _ _ _ _).1 c a x = _; exact rII hc.1
          · funext a x; exact rII hc.1
        · funext a x; exact rII hc.1
theorem ls_k {D : Nat → Nat → Nat} {p a3 it : Nat} : (itF (lsF D p a3) it 0 τ).2.2 = τ.2.2 := by
  refine itF_ind (f := lsF D p a3) (fun _ s => s.2.2 = τ.2.2) it 0 _ rfl (fun j s _ _ h => Eq.trans ?_ h)
  unfold lsF loseF
  split
  · rfl
  · unfold takeFromF
    split
    · rfl
    · rw [if_neg (by decide : ¬ (1 : Int32) = 0)]
      split
      · rfl
      · show (dropS _ _ _ _ _ _).2.2 = _
        unfold dropS
        split
        · split
          · rfl
          · rfl
        · rfl
theorem ml_k {p b it : Nat} : (itF (mlF A p b) it 0 τ).2 = τ.2 := itF_ind (f := mlF A p b) (fun _ s => s.2 = τ.2) it 0 _ rfl (fun j s _ _ h => (mlF_r (c := 0) (by decide)).2.trans h)
theorem arR_k {a a1 y c : Nat} : (arR τ a a1 y c).2.2 = τ.2.2 := by
  unfold arR
  split <;> rfl
/-- the step at the node: not busy, the first that waits unqueued, and busy again -/
def ctF (a mm : Nat) (τ : Sg) : Sg := bsyS (unqF (sI τ 30300 a 0 0) a).2 mm
theorem CEq.unq {a : Nat} (e : CEq A m τ τ') : CEq A m (unqF τ a).2 (unqF τ' a).2 := by
  unfold unqF
  rw [e.1]
  split
  · exact e
  · dsimp only
    split
    · exact e.o.o.o
    · exact e.o.o
theorem ct_C {a mm : Nat} : COp A m (ctF a mm) := by
  have r1 : ∀ τ : Sg, (unqF τ a).2.1 = τ.1 := by
    intro τ
    unfold unqF
    split
    · rfl
    · dsimp only
      split <;> rfl
  refine ⟨fun τ c x i hz => ?_, fun τ τ' e => ?_⟩
  · have hc := hz.1
    unfold ctF bsyS
    split
    · split
      · rw [r1]; exact rII (by omega)
      · rw [rII (by omega), r1]; exact rII (by omega)
    · rw [r1]; exact rII (by omega)
  · have e1 : CEq A m (unqF (sI τ 30300 a 0 0) a).2 (unqF (sI τ' 30300 a 0 0) a).2 := e.i.unq
    unfold ctF bsyS
    rw [e1.r (c := 60000) (by decide), e1.1]
    split
    · split
      · exact e1
      · exact e1.i
    · exact e1
set_option maxHeartbeats 1000000 in
theorem sim_free {p : Nat} (R : RR E g n σ) (hn : n ≤ 512) (hp : p < 4) (ha : al g σ p) (x : Int32) {v : Int32} {σ1 : Sg} (h : ofrP E g.D p g.L1 σ x v σ1) :
    ∃ σ2 g', mfrF σ1 g.m g.A p (g.L1 p).length x = (v, σ2) ∧ RR E g' (n + 1) σ2 ∧ σ2.1 500000 g.m 0 = 0 ∧ g'.x = g.x ∧ g'.m = g.m ∧ g'.A = g.A := by
  unfold ofrP at h
  rcases sim_taken R hp ha x with ⟨t1, t2⟩ | ⟨c, m, hc, rfl, hm, htk, hs3, t1, t2⟩
  · rw [t1] at h
    obtain ⟨rfl, rfl⟩ := h
    refine ⟨_, g, ?_, (R.th 0).mono (by omega), rIs, rfl, rfl, rfl⟩
    unfold mfrF mfB
    rw [t2, if_pos (by decide)]; rfl
  · rw [t1] at h
    obtain ⟨rfl, c0, it, a3, f1, f2, f3, f4, f5, h⟩ := h
    obtain ⟨A0, AM, -⟩ := (R.a p hp).1 ha
    obtain ⟨b1, b2, b3, b4, b5, L, b6, b7, b8, b9⟩ := A0.1 c m hc hm
    obtain ⟨k, s, l, it', t, T, a1, a2, a3', x1, x2, x3, x4, x5, x6, x7, x8, x9, x10, x11, x12, x13, x14, x15, x16, x17, x18, x19, x20, x21, x22, x23, x24, x25, x26, x27, x28⟩ := AM c m hc hm
    have ec : c0 = c := (nI_eq (by omega) (by omega)).mp (f1.symm.trans x9)
    have ei : it' = it := (nI_eq (by omega) (by omega)).mp (x10.symm.trans f3)
    have ea : a3' = a3 := Option.some.inj (x19.symm.trans f5)
    subst ec; subst ei; subst ea
    have hm6 := R.s.wf _ _ _ _ hm (by decide)
    -- the class's steps leave the model, and what they are for
    have CAr : COp g.A g.m (fun τ => arR τ (g.D p 6) (g.D p 7) m c0) := arR_C
    have CLs : COp g.A g.m (fun τ => itF (lsF g.D p a3') it' 0 τ) := COp.it (fun _ => lsF_C) it' 0
    have MW : MOp g.A g.m (fun τ => sI τ 610000 (g.A 10) (g.B m) 0) := MOp.w (plA (by decide) (by decide)) (fun _ _ _ => rfl)
    have MLs : MOp g.A g.m (fun τ => itF (mlF g.A p (g.B m)) it' 0 τ) := MOp.it (fun _ => mlF_M) it' 0
    -- the cell is free
    have remF : ∀ (w : Int32) (a : Nat), Fr (fun c => KR.contains c) (fun _ => false) σ (sI (arR σ (g.D p 6) (g.D p 7) m c0) 610000 (g.A 10) (g.B m) 0) := by
      intro _ _
      refine FrL.i ?_ (by decide)
      unfold arR
      split
      · exact FrL.i (FrL.i (FrL.o Fr.refl (by decide)) (by decide)) (by decide)
      · exact FrL.i (FrL.o Fr.refl (by decide)) (by decide)
    have FX := remF 0 0
    have hwX : WF (sI (arR σ (g.D p 6) (g.D p 7) m c0) 610000 (g.A 10) (g.B m) 0) := by
      refine WF.i ?_
      unfold arR
      split
      · exact WF.i (WF.i (WF.oN R.s.wf))
      · exact WF.i (WF.oN R.s.wf)
    have PX : ∀ r, r ≠ p → FrP g r (fun c => [30300].contains c) (fun _ => false) σ (sI (arR σ (g.D p 6) (g.D p 7) m c0) 610000 (g.A 10) (g.B m) 0) := by
      intro r hr
      refine FrP.iw ?_ (Or.inr (niA (by decide) (show g.B m / 64 = p by omega) hr))
      unfold arR
      split
      · exact FrP.iw (FrP.iw (FrP.ow FrP.refl (Or.inr (niD (by decide) hp (by decide) hr))) (Or.inr (niD (by decide) hp (by decide) hr))) (Or.inr (niD (by decide) hp (by decide) hr))
      · exact FrP.iw (FrP.ow FrP.refl (Or.inr (niD (by decide) hp (by decide) hr))) (Or.inr (niD (by decide) hp (by decide) hr))
    have X1 : (sI (arR σ (g.D p 6) (g.D p 7) m c0) 610000 (g.A 10) (g.B m) 0).2.1 150006 (g.D p 7) c0 = none := by
      show (arR σ (g.D p 6) (g.D p 7) m c0).2.1 150006 (g.D p 7) c0 = none
      unfold arR
      split
      · exact rOs
      · exact rOs
    have X2 : ∀ c', c' ≠ c0 → (sI (arR σ (g.D p 6) (g.D p 7) m c0) 610000 (g.A 10) (g.B m) 0).2.1 150006 (g.D p 7) c' = σ.2.1 150006 (g.D p 7) c' := by
      intro c' hne
      show (arR σ (g.D p 6) (g.D p 7) m c0).2.1 150006 (g.D p 7) c' = _
      have : (sO σ 150006 (g.D p 7) c0 none).2.1 150006 (g.D p 7) c' = σ.2.1 150006 (g.D p 7) c' := by simp [sO, hne]
      unfold arR
      split
      · exact this
      · exact this
    have X5 : (sI (arR σ (g.D p 6) (g.D p 7) m c0) 610000 (g.A 10) (g.B m) 0).1 90100 (g.D p 6) 0 = σ.1 90100 (g.D p 6) 0 - σ.1 60400 m 0 := by
      rw [rII (by decide)]
      unfold arR
      split
      · rw [rII (by decide), rIs]
      · rw [rIs]
    have X6 : (sI (arR σ (g.D p 6) (g.D p 7) m c0) 610000 (g.A 10) (g.B m) 0).1 90200 (g.D p 6) 0 = if σ.1 60000 m 0 = 2 then σ.1 90200 (g.D p 6) 0 - σ.1 60400 m 0 else σ.1 90200 (g.D p 6) 0 := by
      rw [rII (by decide)]
      unfold arR
      split
      · rw [rIs]
      · rw [rII (by decide)]; rfl
    have X30 : ∀ y, (sI (arR σ (g.D p 6) (g.D p 7) m c0) 610000 (g.A 10) (g.B m) 0).1 30300 y 0 = σ.1 30300 y 0 := by
      intro y
      rw [rII (by decide)]
      unfold arR
      split
      · rw [rII (by decide), rII (by decide)]; rfl
      · rw [rII (by decide)]; rfl
    have X4 : ∀ b, b ≠ g.B m → (sI (arR σ (g.D p 6) (g.D p 7) m c0) 610000 (g.A 10) (g.B m) 0).1 610000 (g.A 10) b = σ.1 610000 (g.A 10) b := by
      intro b hb
      rw [rIx hb]
      exact CAr.1 σ _ _ _ (plA (by decide) (by decide))
    -- the model's reads behind the class
    have held : ∀ {Z : Sg}, (∀ a i, Z.2.1 330003 a i = σ.2.1 330003 a i) → (∀ i, Z.1 710000 (g.A 20) i = σ.1 710000 (g.A 20) i) → ∀ k, k < it' → NR g.N (Z.2.1 330003 a3' k) (Z.1 710000 (g.A 20) (4 * g.B m + k)) := by
      intro Z z1 z2 k hk
      rw [z1, z2]; exact (x23 k hk).2.2
    have arO : ∀ a i, (arR σ (g.D p 6) (g.D p 7) m c0).2.1 330003 a i = σ.2.1 330003 a i := by
      intro a i
      unfold arR
      split
      · exact rOO (by decide)
      · exact rOO (by decide)
    have ar7 : ∀ i, (arR σ (g.D p 6) (g.D p 7) m c0).1 710000 (g.A 20) i = σ.1 710000 (g.A 20) i := fun i => CAr.1 σ _ _ _ (plA (by decide) (by decide))
    have mread : ∀ (Z : Sg), MEq g.A g.m Z σ → mfB Z g.A p (nI c0) = nI (g.B m) ∧ Z.1 640000 (g.A 13) (g.B m) = (if k = 2 then 1 else 0) ∧ Z.1 680000 (g.A 17) (g.B m) = nI it' := by
      intro Z hZ
      refine ⟨?_, ?_, ?_⟩
      · unfold mfB
        rw [hZ.a (c := 610000) (j := 10) (by decide) (by decide), hZ.a (c := 620000) (j := 11) (by decide) (by decide)]; exact t2
      · rw [hZ.a (c := 640000) (j := 13) (by decide) (by decide)]; exact x13
      · rw [hZ.a (c := 680000) (j := 17) (by decide) (by decide)]; exact x12
    have mres : ∀ (Z : Sg), MEq g.A g.m Z σ → mfrF Z g.m g.A p (g.L1 p).length (nI c0) = if k = 2 then mfrG (mfS (Th g.m Z) g.A p (g.B m) it') g.A p (g.B m) (g.L1 p).length else (1, mfS (Th g.m Z) g.A p (g.B m) it') := by
      intro Z hZ
      obtain ⟨m1, m2, m3⟩ := mread Z hZ
      unfold mfrF
      rw [m1, if_neg (lt0_nI (by omega)), nI_clamp (by omega), m2, m3, nI_clamp (by omega)]
      by_cases z : k = 2
      · rw [if_pos z, if_pos z, if_neg (by decide)]
      · rw [if_neg z, if_neg z, if_pos rfl]
    have k2i : σ.1 60000 m 0 = 2 ↔ k = 2 := by rw [x1]; exact nI_eq (b := 2) (by omega) (by omega)
    -- Y: what is there once the handles are let go, given the store with the free cell
    have stepY : ∀ (Cx : Sg → Sg), COp g.A g.m Cx → mfS (Th g.m (Cx (itF (lsF g.D p a3') it' 0 (arR σ (g.D p 6) (g.D p 7) m c0)))) g.A p (g.B m) it' = Th g.m (Cx (itF (mlF g.A p (g.B m)) it' 0 (itF (lsF g.D p a3') it' 0 (sI (arR σ (g.D p 6) (g.D p 7) m c0) 610000 (g.A 10) (g.B m) 0)))) := by
      intro Cx hCx
      have h1 := MC_comm (mfS_M (p := p) (b := g.B m) (it := it')) (COp.comp hCx (Th_C (y := g.m))) (itF (lsF g.D p a3') it' 0 (arR σ (g.D p 6) (g.D p 7) m c0))
      have h2 := MC_comm MW CLs (arR σ (g.D p 6) (g.D p 7) m c0)
      skip
      rw [h1]
      unfold mfS
      rw [h2]
    by_cases k2 : k = 2
    · rw [if_pos (k2i.mpr k2)] at h
      obtain ⟨a, hna⟩ : ∃ a, σ.2.1 60303 m 0 = some a := by
        cases e : σ.2.1 60303 m 0 with
        | none => have := x15.mpr e; omega
        | some a => exact ⟨a, rfl⟩
      rw [hna] at h
      dsimp only at h
      have ha3 := R.s.wf _ _ _ _ hna (by decide)
      obtain ⟨had, hao⟩ := x16 a hna
      have hfb : σ.1 650000 (g.A 14) (g.B m) = nI (g.N a) := by
        rcases x14 with ⟨z, -⟩ | ⟨y, z1, z2⟩
        · rw [hna] at z; cases z
        · rw [hna] at z1; cases z1; exact z2
      have Q0 := R.q.1 a p ha3 had hp hao
      have how : ow g σ p a c0 m := ⟨hc, hm, k2i.mpr k2, hna⟩
      have hbusy : σ.1 30300 a 0 = 1 := by
        rcases Q0.2.2.2.2.2.1 with ⟨-, z⟩ | ⟨z, -⟩
        · exact absurd how (z c0 m)
        · exact z
      cases hQ : g.Q a with
      | nil =>
        have RX : RR E g n (sI (sI (arR σ (g.D p 6) (g.D p 7) m c0) 610000 (g.A 10) (g.B m) 0) 30300 a 0 0) := by
          refine R.rem hp ha hc hm hs3 (FrL.i FX (by decide)) (fun r hr => FrP.iw (PX r hr) (Or.inl (by decide))) hwX X1 X2 rIs ?_ ?_ ?_ (fun y hy => ?_)
          · intro b hb
            rw [rII (by decide)]; exact X4 b hb
          · rw [rII (by decide)]; exact X5
          · rw [rII (by decide)]; exact X6
          · by_cases e : y = a
            · subst e
              rw [rIs, if_pos ⟨k2i.mpr k2, hna, hQ⟩]
            · rw [rIa e, X30, if_neg]
              rintro ⟨-, z, -⟩
              rw [hna] at z; exact e (Option.some.inj z).symm
        have C30 : COp g.A g.m (fun τ => sI τ 30300 a 0 0) := COp.w (by decide) (fun _ _ _ => rfl)
        have haX : al g (sI (sI (arR σ (g.D p 6) (g.D p 7) m c0) 610000 (g.A 10) (g.B m) 0) 30300 a 0 0) p := (al.fr R.s (FrL.i FX (by decide)) (by decide) p).mpr ha
        have RY := (RX.loseN (a3 := a3') (b := g.B m) (it := it') hn hp haX (held (fun a i => arO a i) (fun i => by rw [rII (by decide), rII (by decide)]; exact ar7 i))).1
        have eY : itF (mlF g.A p (g.B m)) it' 0 (itF (lsF g.D p a3') it' 0 (sI (sI (arR σ (g.D p 6) (g.D p 7) m c0) 610000 (g.A 10) (g.B m) 0) 30300 a 0 0)) = sI (itF (mlF g.A p (g.B m)) it' 0 (itF (lsF g.D p a3') it' 0 (sI (arR σ (g.D p 6) (g.D p 7) m c0) 610000 (g.A 10) (g.B m) 0))) 30300 a 0 0 := by
          rw [Cl_m (by decide)]
          exact MC_comm MLs C30 _
        rw [eY] at RY
        have f0 : (itF (lsF g.D p a3') it' 0 (arR σ (g.D p 6) (g.D p 7) m c0)).2.1 30406 a 0 = none := by
          have e1 : (itF (lsF g.D p a3') it' 0 (arR σ (g.D p 6) (g.D p 7) m c0)).2.1 30406 a 0 = (arR σ (g.D p 6) (g.D p 7) m c0).2.1 30406 a 0 := itF_ind (f := lsF g.D p a3') (fun _ s => s.2.1 30406 a 0 = (arR σ (g.D p 6) (g.D p 7) m c0).2.1 30406 a 0) it' 0 _ rfl (fun j s _ _ h => (loseF_o (by decide)).trans h)
          rw [e1]
          have e2 : (arR σ (g.D p 6) (g.D p 7) m c0).2.1 30406 a 0 = σ.2.1 30406 a 0 := by
            unfold arR
            split
            · exact rOO (by decide)
            · exact rOO (by decide)
          rw [e2]
          have := Q0.1
          rw [hQ] at this; exact this
        have h' : σ1 = sI (itF (lsF g.D p a3') it' 0 (arR σ (g.D p 6) (g.D p 7) m c0)) 30300 a 0 0 := by
          unfold snP unqF at h
          rw [show (sI (itF (lsF g.D p a3') it' 0 (arR σ (g.D p 6) (g.D p 7) m c0)) 30300 a 0 0).2.1 30406 a 0 = none from f0] at h
          exact h
        subst h'
        refine ⟨_, g, ?_, (RY.th 0).mono (by omega), rIs, rfl, rfl, rfl⟩
        rw [mres _ ((C30.1 _).trans ((CLs.1 _).trans (CAr.1 σ))), if_pos k2, stepY _ C30]
        have RT := RY.th 0
        have haT : al g (sI (sI (itF (mlF g.A p (g.B m)) it' 0 (itF (lsF g.D p a3') it' 0 (sI (arR σ (g.D p 6) (g.D p 7) m c0) 610000 (g.A 10) (g.B m) 0))) 30300 a 0 0) 500000 g.m 0 0) p := by
          unfold al
          rw [rII (by decide), rII (by decide), show (itF (mlF g.A p (g.B m)) it' 0 (itF (lsF g.D p a3') it' 0 (sI (arR σ (g.D p 6) (g.D p 7) m c0) 610000 (g.A 10) (g.B m) 0))).1 510000 (g.A 0) p = (itF (lsF g.D p a3') it' 0 (sI (arR σ (g.D p 6) (g.D p 7) m c0) 610000 (g.A 10) (g.B m) 0)).1 510000 (g.A 0) p from congrFun (congrFun (itF_ind (f := mlF g.A p (g.B m)) (fun _ s => s.1 510000 = (itF (lsF g.D p a3') it' 0 (sI (arR σ (g.D p 6) (g.D p 7) m c0) 610000 (g.A 10) (g.B m) 0)).1 510000) it' 0 _ rfl (fun j s _ _ h => (mlF_r (by decide)).1.trans h)) _) _, CLs.1 _ _ _ _ (plA (by decide) (by decide)), rII (by decide), CAr.1 σ _ _ _ (plA (by decide) (by decide))]
          exact ha
        have c3 : ∀ {c0' : Nat}, c0' = 30200 ∨ c0' = 30000 → (sI (sI (itF (mlF g.A p (g.B m)) it' 0 (itF (lsF g.D p a3') it' 0 (sI (arR σ (g.D p 6) (g.D p 7) m c0) 610000 (g.A 10) (g.B m) 0))) 30300 a 0 0) 500000 g.m 0 0).1 c0' a 0 = σ.1 c0' a 0 := by
          intro c0' h0
          have h1 : c0' ≠ 550000 ∧ c0' ≠ 130000 ∧ c0' ≠ 140000 ∧ c0' ≠ 80300 := by omega
          rw [rII (by omega), rII (by omega), (itF_ind (f := mlF g.A p (g.B m)) (fun _ s => s.1 c0' = (itF (lsF g.D p a3') it' 0 (sI (arR σ (g.D p 6) (g.D p 7) m c0) 610000 (g.A 10) (g.B m) 0)).1 c0') it' 0 _ rfl (fun j s _ _ h => (mlF_r h1.1).1.trans h)), ls_r h1.2, rII (by omega)]
          unfold arR
          split
          · rw [rII (by omega), rII (by omega)]; rfl
          · rw [rII (by omega)]; rfl
        have kY : (sI (sI (itF (mlF g.A p (g.B m)) it' 0 (itF (lsF g.D p a3') it' 0 (sI (arR σ (g.D p 6) (g.D p 7) m c0) 610000 (g.A 10) (g.B m) 0))) 30300 a 0 0) 500000 g.m 0 0).2.2.2 a = 3 := by
          show (itF (mlF g.A p (g.B m)) it' 0 (itF (lsF g.D p a3') it' 0 (sI (arR σ (g.D p 6) (g.D p 7) m c0) 610000 (g.A 10) (g.B m) 0))).2.2.2 a = 3
          rw [ml_k, ls_k]
          show (arR σ (g.D p 6) (g.D p 7) m c0).2.2.2 a = 3
          rw [arR_k]; exact ha3
        have hN := RT.nxt hn hp haT kY ((c3 (Or.inl rfl)).trans had) ((c3 (Or.inr rfl)).trans hao)
        rw [hQ] at hN
        have hN : _ = (-1 : Int32) := hN
        have f65 : (sI (sI (itF (mlF g.A p (g.B m)) it' 0 (itF (lsF g.D p a3') it' 0 (sI (arR σ (g.D p 6) (g.D p 7) m c0) 610000 (g.A 10) (g.B m) 0))) 30300 a 0 0) 500000 g.m 0 0).1 650000 (g.A 14) (g.B m) = nI (g.N a) := by
          rw [rII (by decide), rII (by decide), (itF_ind (f := mlF g.A p (g.B m)) (fun _ s => s.1 650000 = (itF (lsF g.D p a3') it' 0 (sI (arR σ (g.D p 6) (g.D p 7) m c0) 610000 (g.A 10) (g.B m) 0)).1 650000) it' 0 _ rfl (fun j s _ _ h => (mlF_r (by decide)).1.trans h)), CLs.1 _ _ _ _ (plA (by decide) (by decide)), rII (by decide), CAr.1 σ _ _ _ (plA (by decide) (by decide))]
          exact hfb
        unfold mfrG mfN Th
        rw [f65, hN, if_pos (by decide)]
      | cons mm t =>
        have RX : RR E g n (sI (arR σ (g.D p 6) (g.D p 7) m c0) 610000 (g.A 10) (g.B m) 0) := by
          refine R.rem hp ha hc hm hs3 FX PX hwX X1 X2 rIs X4 X5 X6 (fun y hy => ?_)
          rw [X30, if_neg]
          rintro ⟨-, z, z2⟩
          rw [hna] at z; cases z
          rw [hQ] at z2; cases z2
        have haX : al g (sI (arR σ (g.D p 6) (g.D p 7) m c0) 610000 (g.A 10) (g.B m) 0) p := (al.fr R.s FX (by decide) p).mpr ha
        have RY := (RX.loseN (a3 := a3') (b := g.B m) (it := it') hn hp haX (held (fun a i => arO a i) (fun i => by rw [rII (by decide)]; exact ar7 i))).1
        -- what Y has
        have y1 : ∀ {c0' x i : Nat}, c0' ≠ 550000 → c0' ≠ 130000 ∧ c0' ≠ 140000 ∧ c0' ≠ 80300 → (itF (mlF g.A p (g.B m)) it' 0 (itF (lsF g.D p a3') it' 0 (sI (arR σ (g.D p 6) (g.D p 7) m c0) 610000 (g.A 10) (g.B m) 0))).1 c0' x i = (sI (arR σ (g.D p 6) (g.D p 7) m c0) 610000 (g.A 10) (g.B m) 0).1 c0' x i := by
          intro c0' x i h1 h2
          rw [(itF_ind (f := mlF g.A p (g.B m)) (fun _ s => s.1 c0' = (itF (lsF g.D p a3') it' 0 (sI (arR σ (g.D p 6) (g.D p 7) m c0) 610000 (g.A 10) (g.B m) 0)).1 c0') it' 0 _ rfl (fun j s _ _ h => (mlF_r h1).1.trans h)), ls_r h2]
        have y2 : ∀ {c0' x i : Nat}, c0' ≠ 120003 → (itF (mlF g.A p (g.B m)) it' 0 (itF (lsF g.D p a3') it' 0 (sI (arR σ (g.D p 6) (g.D p 7) m c0) 610000 (g.A 10) (g.B m) 0))).2.1 c0' x i = (sI (arR σ (g.D p 6) (g.D p 7) m c0) 610000 (g.A 10) (g.B m) 0).2.1 c0' x i := by
          intro c0' x i h1
          rw [ml_k]
          exact itF_ind (f := lsF g.D p a3') (fun _ s => s.2.1 c0' x i = (sI (arR σ (g.D p 6) (g.D p 7) m c0) 610000 (g.A 10) (g.B m) 0).2.1 c0' x i) it' 0 _ rfl (fun j s _ _ h => (loseF_o h1).trans h)
        have x1' : ∀ {c0' x i : Nat}, c0' ≠ 610000 → c0' ≠ 90100 → c0' ≠ 90200 → (sI (arR σ (g.D p 6) (g.D p 7) m c0) 610000 (g.A 10) (g.B m) 0).1 c0' x i = σ.1 c0' x i := by
          intro c0' x i h1 h2 h3
          rw [rII h1]
          unfold arR
          split
          · rw [rII h3, rII h2]; rfl
          · rw [rII h2]; rfl
        have x2' : ∀ {c0' x i : Nat}, c0' ≠ 150006 → (sI (arR σ (g.D p 6) (g.D p 7) m c0) 610000 (g.A 10) (g.B m) 0).2.1 c0' x i = σ.2.1 c0' x i := by
          intro c0' x i h1
          show (arR σ (g.D p 6) (g.D p 7) m c0).2.1 c0' x i = _
          unfold arR
          split
          · exact rOO h1
          · exact rOO h1
        have kY : (itF (mlF g.A p (g.B m)) it' 0 (itF (lsF g.D p a3') it' 0 (sI (arR σ (g.D p 6) (g.D p 7) m c0) 610000 (g.A 10) (g.B m) 0))).2.2 = σ.2.2 := by
          rw [ml_k, ls_k]
          show (arR σ (g.D p 6) (g.D p 7) m c0).2.2 = σ.2.2
          exact arR_k
        have z1 : ∀ {c0' x i : Nat}, c0' < 60000 → (itF (mlF g.A p (g.B m)) it' 0 (itF (lsF g.D p a3') it' 0 (sI (arR σ (g.D p 6) (g.D p 7) m c0) 610000 (g.A 10) (g.B m) 0))).1 c0' x i = σ.1 c0' x i := fun {c0' x i} h => (y1 (by omega) (by omega)).trans (x1' (by omega) (by omega) (by omega))
        have z6 : ∀ {c0' x i : Nat}, 60000 ≤ c0' → c0' < 80000 → (itF (mlF g.A p (g.B m)) it' 0 (itF (lsF g.D p a3') it' 0 (sI (arR σ (g.D p 6) (g.D p 7) m c0) 610000 (g.A 10) (g.B m) 0))).1 c0' x i = σ.1 c0' x i := fun {c0' x i} h h2 => (y1 (by omega) (by omega)).trans (x1' (by omega) (by omega) (by omega))
        have z7 : ∀ {c0' x i : Nat}, 620000 ≤ c0' → (itF (mlF g.A p (g.B m)) it' 0 (itF (lsF g.D p a3') it' 0 (sI (arR σ (g.D p 6) (g.D p 7) m c0) 610000 (g.A 10) (g.B m) 0))).1 c0' x i = σ.1 c0' x i := fun {c0' x i} h => (y1 (by omega) (by omega)).trans (x1' (by omega) (by omega) (by omega))
        have z2 : ∀ {c0' x i : Nat}, c0' ≠ 120003 → c0' ≠ 150006 → (itF (mlF g.A p (g.B m)) it' 0 (itF (lsF g.D p a3') it' 0 (sI (arR σ (g.D p 6) (g.D p 7) m c0) 610000 (g.A 10) (g.B m) 0))).2.1 c0' x i = σ.2.1 c0' x i := fun h1 h2 => (y2 h1).trans (x2' h2)
        have z3 : ∀ b, b ≠ g.B m → (itF (mlF g.A p (g.B m)) it' 0 (itF (lsF g.D p a3') it' 0 (sI (arR σ (g.D p 6) (g.D p 7) m c0) 610000 (g.A 10) (g.B m) 0))).1 610000 (g.A 10) b = σ.1 610000 (g.A 10) b := fun b hb => (y1 (by decide) (by decide)).trans (X4 b hb)
        have haY : al g (itF (mlF g.A p (g.B m)) it' 0 (itF (lsF g.D p a3') it' 0 (sI (arR σ (g.D p 6) (g.D p 7) m c0) 610000 (g.A 10) (g.B m) 0))) p := by
          unfold al
          rw [y1 (by decide) (by decide), x1' (by decide) (by decide) (by decide)]; exact ha
        have kYa : (itF (mlF g.A p (g.B m)) it' 0 (itF (lsF g.D p a3') it' 0 (sI (arR σ (g.D p 6) (g.D p 7) m c0) 610000 (g.A 10) (g.B m) 0))).2.2.2 a = 3 := by rw [kY]; exact ha3
        have dYa : (itF (mlF g.A p (g.B m)) it' 0 (itF (lsF g.D p a3') it' 0 (sI (arR σ (g.D p 6) (g.D p 7) m c0) 610000 (g.A 10) (g.B m) 0))).1 30200 a 0 = 0 := by rw [z1 (by decide)]; exact had
        have oYa : (itF (mlF g.A p (g.B m)) it' 0 (itF (lsF g.D p a3') it' 0 (sI (arR σ (g.D p 6) (g.D p 7) m c0) 610000 (g.A 10) (g.B m) 0))).1 30000 a 0 = nI p := by rw [z1 (by decide)]; exact hao
        have QY := RY.q.1 a p kYa dYa hp oYa
        have QY1 := QY.1
        rw [hQ] at QY1
        obtain ⟨q1, q2⟩ := QY1
        obtain ⟨cm, hcm, hsm⟩ := QY.2.2.1 mm (by rw [hQ]; exact List.mem_cons_self)
        have hm6' : (itF (mlF g.A p (g.B m)) it' 0 (itF (lsF g.D p a3') it' 0 (sI (arR σ (g.D p 6) (g.D p 7) m c0) 610000 (g.A 10) (g.B m) 0))).2.2.2 mm = 6 := RY.s.wf _ _ _ _ hcm.2.1 (by decide)
        -- the class's last steps at Y
        have eU : ∀ (τ : Sg), τ.2.1 30406 a 0 = some mm → τ.1 60000 mm 0 = 2 → τ.2.1 60303 mm 0 = some a → ctF a mm τ = sI (sO (if τ.2.1 61106 mm 0 = none then sO (sO (sI τ 30300 a 0 0) 30406 a 0 none) 30506 a 0 none else sO (sI τ 30300 a 0 0) 30406 a 0 (τ.2.1 61106 mm 0)) 61106 mm 0 none) 30300 a 0 1 := by
          intro τ e1 e2 e3
          unfold ctF unqF
          rw [show (sI τ 30300 a 0 0).2.1 30406 a 0 = some mm from e1]
          dsimp only
          have e4 : ∀ Z : Sg, Z.1 = (sI τ 30300 a 0 0).1 → Z.2.1 60303 mm 0 = some a → bsyS Z mm = sI Z 30300 a 0 1 := by
            intro Z z1 z2
            unfold bsyS
            rw [if_pos (by rw [z1, rII (by decide)]; exact e2), z2]
          rw [e4 _ (by split <;> rfl) (by
            rw [rOO (by decide)]
            split
            · rw [rOO (by decide), rOO (by decide)]; exact e3
            · rw [rOO (by decide)]; exact e3)]
          rfl
        have nodeY : (itF (mlF g.A p (g.B m)) it' 0 (itF (lsF g.D p a3') it' 0 (sI (arR σ (g.D p 6) (g.D p 7) m c0) 610000 (g.A 10) (g.B m) 0))).2.1 60303 mm 0 = some a := hcm.2.2.2
        have eZ := eU (itF (mlF g.A p (g.B m)) it' 0 (itF (lsF g.D p a3') it' 0 (sI (arR σ (g.D p 6) (g.D p 7) m c0) 610000 (g.A 10) (g.B m) 0))) q1 hcm.2.2.1 nodeY
        have WFo : ∀ y, (itF (mlF g.A p (g.B m)) it' 0 (itF (lsF g.D p a3') it' 0 (sI (arR σ (g.D p 6) (g.D p 7) m c0) 610000 (g.A 10) (g.B m) 0))).2.1 61106 mm 0 = some y → (itF (mlF g.A p (g.B m)) it' 0 (itF (lsF g.D p a3') it' 0 (sI (arR σ (g.D p 6) (g.D p 7) m c0) 610000 (g.A 10) (g.B m) 0))).2.2.2 y = 6 := fun y h => RY.s.wf _ _ _ _ h (by decide)
        have bY : (itF (mlF g.A p (g.B m)) it' 0 (itF (lsF g.D p a3') it' 0 (sI (arR σ (g.D p 6) (g.D p 7) m c0) 610000 (g.A 10) (g.B m) 0))).1 30300 a 0 = 1 := by rw [z1 (by decide)]; exact hbusy
        have hact : ∀ c m', ow g (itF (mlF g.A p (g.B m)) it' 0 (itF (lsF g.D p a3') it' 0 (sI (arR σ (g.D p 6) (g.D p 7) m c0) 610000 (g.A 10) (g.B m) 0))) p a c m' → (itF (mlF g.A p (g.B m)) it' 0 (itF (lsF g.D p a3') it' 0 (sI (arR σ (g.D p 6) (g.D p 7) m c0) 610000 (g.A 10) (g.B m) 0))).1 610000 (g.A 10) (g.B m') = 1 := by
          intro c' m' ho
          by_cases z : (itF (mlF g.A p (g.B m)) it' 0 (itF (lsF g.D p a3') it' 0 (sI (arR σ (g.D p 6) (g.D p 7) m c0) 610000 (g.A 10) (g.B m) 0))).1 610000 (g.A 10) (g.B m') = 1
          · exact z
          · exfalso
            have hcc : c' ≠ c0 := by
              rintro rfl
              have := ho.2.1
              rw [y2 (by decide), X1] at this; cases this
            have hmY : σ.2.1 150006 (g.D p 7) c' = some m' := by
              have := ho.2.1
              rw [y2 (by decide), X2 c' hcc] at this; exact this
            have hneB : g.B m' ≠ g.B m := fun e => hcc (A0.inj ho.1 hc hmY hm e).1
            have ho' : ow g σ p a c' m' := ⟨ho.1, hmY, by have := ho.2.2.1; rw [z6 (by decide) (by decide)] at this; exact this, by have := ho.2.2.2; rw [z2 (by decide) (by decide)] at this; exact this⟩
            rw [z3 _ hneB] at z
            have := Q0.2.2.2.2.2.2 c' c0 m' m ho' how z (by rw [hs3]; decide)
            subst this
            exact hneB rfl
        have FZ : Fr (fun c => KU.contains c) (fun _ => false) (itF (mlF g.A p (g.B m)) it' 0 (itF (lsF g.D p a3') it' 0 (sI (arR σ (g.D p 6) (g.D p 7) m c0) 610000 (g.A 10) (g.B m) 0))) (sI (ctF a mm (itF (mlF g.A p (g.B m)) it' 0 (itF (lsF g.D p a3') it' 0 (sI (arR σ (g.D p 6) (g.D p 7) m c0) 610000 (g.A 10) (g.B m) 0)))) 610000 (g.A 10) (g.B mm) 2) := by
          rw [eZ]
          refine FrL.i ?_ (by decide)
          have F1 : Fr (fun c => [30406, 30506, 61106, 610000, 30300].contains c) (fun _ => false) (itF (mlF g.A p (g.B m)) it' 0 (itF (lsF g.D p a3') it' 0 (sI (arR σ (g.D p 6) (g.D p 7) m c0) 610000 (g.A 10) (g.B m) 0))) (sI (sO (if (itF (mlF g.A p (g.B m)) it' 0 (itF (lsF g.D p a3') it' 0 (sI (arR σ (g.D p 6) (g.D p 7) m c0) 610000 (g.A 10) (g.B m) 0))).2.1 61106 mm 0 = none then sO (sO (sI (itF (mlF g.A p (g.B m)) it' 0 (itF (lsF g.D p a3') it' 0 (sI (arR σ (g.D p 6) (g.D p 7) m c0) 610000 (g.A 10) (g.B m) 0))) 30300 a 0 0) 30406 a 0 none) 30506 a 0 none else sO (sI (itF (mlF g.A p (g.B m)) it' 0 (itF (lsF g.D p a3') it' 0 (sI (arR σ (g.D p 6) (g.D p 7) m c0) 610000 (g.A 10) (g.B m) 0))) 30300 a 0 0) 30406 a 0 ((itF (mlF g.A p (g.B m)) it' 0 (itF (lsF g.D p a3') it' 0 (sI (arR σ (g.D p 6) (g.D p 7) m c0) 610000 (g.A 10) (g.B m) 0))).2.1 61106 mm 0)) 61106 mm 0 none) 30300 a 0 1) := by
            refine FrL.i (FrL.o ?_ (by decide)) (by decide)
            split
            · exact FrL.o (FrL.o (FrL.i Fr.refl (by decide)) (by decide)) (by decide)
            · exact FrL.o (FrL.i Fr.refl (by decide)) (by decide)
          refine ⟨F1.1, F1.2.1, fun c' x' i' hx hc' => ?_⟩
          by_cases e : c' = 30300
          · subst e
            refine ⟨?_, ?_⟩
            · have hz : (sO (if (itF (mlF g.A p (g.B m)) it' 0 (itF (lsF g.D p a3') it' 0 (sI (arR σ (g.D p 6) (g.D p 7) m c0) 610000 (g.A 10) (g.B m) 0))).2.1 61106 mm 0 = none then sO (sO (sI (itF (mlF g.A p (g.B m)) it' 0 (itF (lsF g.D p a3') it' 0 (sI (arR σ (g.D p 6) (g.D p 7) m c0) 610000 (g.A 10) (g.B m) 0))) 30300 a 0 0) 30406 a 0 none) 30506 a 0 none else sO (sI (itF (mlF g.A p (g.B m)) it' 0 (itF (lsF g.D p a3') it' 0 (sI (arR σ (g.D p 6) (g.D p 7) m c0) 610000 (g.A 10) (g.B m) 0))) 30300 a 0 0) 30406 a 0 ((itF (mlF g.A p (g.B m)) it' 0 (itF (lsF g.D p a3') it' 0 (sI (arR σ (g.D p 6) (g.D p 7) m c0) 610000 (g.A 10) (g.B m) 0))).2.1 61106 mm 0)) 61106 mm 0 none).1 = (sI (itF (mlF g.A p (g.B m)) it' 0 (itF (lsF g.D p a3') it' 0 (sI (arR σ (g.D p 6) (g.D p 7) m c0) 610000 (g.A 10) (g.B m) 0))) 30300 a 0 0).1 := by
                show (if _ then _ else _ : Sg).1 = _
                split <;> rfl
              by_cases e2 : x' = a ∧ i' = 0
              · obtain ⟨rfl, rfl⟩ := e2
                rw [rIs, bY]
              · show (if 30300 = 30300 ∧ x' = a ∧ i' = 0 then 1 else _) = _
                rw [if_neg (fun z => e2 z.2), hz]
                show (if 30300 = 30300 ∧ x' = a ∧ i' = 0 then 0 else _) = _
                rw [if_neg (fun z => e2 z.2)]
            · show (sO (if (itF (mlF g.A p (g.B m)) it' 0 (itF (lsF g.D p a3') it' 0 (sI (arR σ (g.D p 6) (g.D p 7) m c0) 610000 (g.A 10) (g.B m) 0))).2.1 61106 mm 0 = none then _ else _) 61106 mm 0 none).2.1 30300 x' i' = _
              rw [rOO (by decide)]
              split
              · rw [rOO (by decide), rOO (by decide)]; rfl
              · rw [rOO (by decide)]; rfl
          · refine F1.2.2 c' x' i' hx ?_
            have h9 : c' ∉ KU := by simpa using hc'
            simp only [KU, List.mem_cons, List.not_mem_nil, or_false, not_or] at h9
            simp [h9, e]
        have hwZ : WF (sI (ctF a mm (itF (mlF g.A p (g.B m)) it' 0 (itF (lsF g.D p a3') it' 0 (sI (arR σ (g.D p 6) (g.D p 7) m c0) 610000 (g.A 10) (g.B m) 0)))) 610000 (g.A 10) (g.B mm) 2) := by
          rw [eZ]
          refine WF.i (WF.i (WF.oN ?_))
          split
          · exact WF.oN (WF.oN (WF.i RY.s.wf))
          · cases e : (itF (mlF g.A p (g.B m)) it' 0 (itF (lsF g.D p a3') it' 0 (sI (arR σ (g.D p 6) (g.D p 7) m c0) 610000 (g.A 10) (g.B m) 0))).2.1 61106 mm 0 with
            | none => exact WF.oN (WF.i RY.s.wf)
            | some y => exact WF.oS (WF.i RY.s.wf) (fun _ => WFo y e)
        have RZ : RR E (gQ g a t) n (sI (ctF a mm (itF (mlF g.A p (g.B m)) it' 0 (itF (lsF g.D p a3') it' 0 (sI (arR σ (g.D p 6) (g.D p 7) m c0) 610000 (g.A 10) (g.B m) 0)))) 610000 (g.A 10) (g.B mm) 2) := by
          refine RY.unq hp haY kYa dYa oYa hQ hact FZ hwZ ?_ ?_ ?_ (fun y hy hne => ?_) (fun y hy hne => ?_) rIs (fun b hb => ?_)
          · rw [eZ]
            show (sO (if (itF (mlF g.A p (g.B m)) it' 0 (itF (lsF g.D p a3') it' 0 (sI (arR σ (g.D p 6) (g.D p 7) m c0) 610000 (g.A 10) (g.B m) 0))).2.1 61106 mm 0 = none then _ else _) 61106 mm 0 none).2.1 30406 a 0 = _
            rw [rOO (by decide)]
            split
            · rename_i h0
              rw [rOO (by decide), rOs, h0]
            · rw [rOs]
          · rw [eZ]
            show (sO (if (itF (mlF g.A p (g.B m)) it' 0 (itF (lsF g.D p a3') it' 0 (sI (arR σ (g.D p 6) (g.D p 7) m c0) 610000 (g.A 10) (g.B m) 0))).2.1 61106 mm 0 = none then _ else _) 61106 mm 0 none).2.1 30506 a 0 = _
            rw [rOO (by decide)]
            have ht : (itF (mlF g.A p (g.B m)) it' 0 (itF (lsF g.D p a3') it' 0 (sI (arR σ (g.D p 6) (g.D p 7) m c0) 610000 (g.A 10) (g.B m) 0))).2.1 61106 mm 0 = none ↔ t = [] := by
              cases t with
              | nil => exact ⟨fun _ => rfl, fun _ => q2⟩
              | cons y ys => rw [show (itF (mlF g.A p (g.B m)) it' 0 (itF (lsF g.D p a3') it' 0 (sI (arR σ (g.D p 6) (g.D p 7) m c0) 610000 (g.A 10) (g.B m) 0))).2.1 61106 mm 0 = some y from q2.1]; simp
            by_cases h0 : (itF (mlF g.A p (g.B m)) it' 0 (itF (lsF g.D p a3') it' 0 (sI (arR σ (g.D p 6) (g.D p 7) m c0) 610000 (g.A 10) (g.B m) 0))).2.1 61106 mm 0 = none
            · rw [if_pos h0, if_pos (ht.mp h0), rOs]
            · rw [if_neg h0, if_neg (mt ht.mpr h0), rOO (by decide)]; rfl
          · rw [eZ]
            show (sO (if (itF (mlF g.A p (g.B m)) it' 0 (itF (lsF g.D p a3') it' 0 (sI (arR σ (g.D p 6) (g.D p 7) m c0) 610000 (g.A 10) (g.B m) 0))).2.1 61106 mm 0 = none then _ else _) 61106 mm 0 none).2.1 61106 mm 0 = _
            rw [rOs]
          · rw [eZ]
            constructor
            · show (sO (if (itF (mlF g.A p (g.B m)) it' 0 (itF (lsF g.D p a3') it' 0 (sI (arR σ (g.D p 6) (g.D p 7) m c0) 610000 (g.A 10) (g.B m) 0))).2.1 61106 mm 0 = none then _ else _) 61106 mm 0 none).2.1 30406 y 0 = _
              rw [rOO (by decide)]
              split
              · rw [rOO (by decide)]; simp [sO, sI, hne]
              · simp [sO, sI, hne]
            · show (sO (if (itF (mlF g.A p (g.B m)) it' 0 (itF (lsF g.D p a3') it' 0 (sI (arR σ (g.D p 6) (g.D p 7) m c0) 610000 (g.A 10) (g.B m) 0))).2.1 61106 mm 0 = none then _ else _) 61106 mm 0 none).2.1 30506 y 0 = _
              rw [rOO (by decide)]
              split
              · simp [sO, sI, hne]
              · simp [sO, sI]
          · rw [eZ]
            show (sO (if (itF (mlF g.A p (g.B m)) it' 0 (itF (lsF g.D p a3') it' 0 (sI (arR σ (g.D p 6) (g.D p 7) m c0) 610000 (g.A 10) (g.B m) 0))).2.1 61106 mm 0 = none then _ else _) 61106 mm 0 none).2.1 61106 y 0 = _
            have : ∀ Z : Sg, (sO Z 61106 mm 0 none).2.1 61106 y 0 = Z.2.1 61106 y 0 := fun Z => by simp [sO, hne]
            rw [this]
            split
            · rw [rOO (by decide), rOO (by decide)]; rfl
            · rw [rOO (by decide)]; rfl
          · rw [rIx hb, (ct_C (A := g.A) (m := g.m)).1 (itF (mlF g.A p (g.B m)) it' 0 (itF (lsF g.D p a3') it' 0 (sI (arR σ (g.D p 6) (g.D p 7) m c0) 610000 (g.A 10) (g.B m) 0))) _ _ _ (plA (by decide) (by decide))]
        -- the class's own store
        have bq1 : (itF (lsF g.D p a3') it' 0 (arR σ (g.D p 6) (g.D p 7) m c0)).2.1 30406 a 0 = some mm := by
          have e1 : (itF (lsF g.D p a3') it' 0 (arR σ (g.D p 6) (g.D p 7) m c0)).2.1 30406 a 0 = (arR σ (g.D p 6) (g.D p 7) m c0).2.1 30406 a 0 := itF_ind (f := lsF g.D p a3') (fun _ s => s.2.1 30406 a 0 = (arR σ (g.D p 6) (g.D p 7) m c0).2.1 30406 a 0) it' 0 _ rfl (fun j s _ _ h => (loseF_o (by decide)).trans h)
          rw [e1]; exact (x2' (by decide)).trans ((z2 (by decide) (by decide)).symm.trans q1)
        have kB : (itF (lsF g.D p a3') it' 0 (arR σ (g.D p 6) (g.D p 7) m c0)).2.2 = σ.2.2 := by
          rw [ls_k]; exact arR_k
        have bk2 : (itF (lsF g.D p a3') it' 0 (arR σ (g.D p 6) (g.D p 7) m c0)).1 60000 mm 0 = 2 := by
          rw [ls_r (by decide)]
          have e1 : (arR σ (g.D p 6) (g.D p 7) m c0).1 60000 mm 0 = σ.1 60000 mm 0 := by
            have := x1' (c0' := 60000) (x := mm) (i := 0) (by decide) (by decide) (by decide)
            rw [rII (by decide)] at this; exact this
          rw [e1, ← z6 (by decide) (by decide)]; exact hcm.2.2.1
        have bn : (itF (lsF g.D p a3') it' 0 (arR σ (g.D p 6) (g.D p 7) m c0)).2.1 60303 mm 0 = some a := by
          have e1 : (itF (lsF g.D p a3') it' 0 (arR σ (g.D p 6) (g.D p 7) m c0)).2.1 60303 mm 0 = (arR σ (g.D p 6) (g.D p 7) m c0).2.1 60303 mm 0 := itF_ind (f := lsF g.D p a3') (fun _ s => s.2.1 60303 mm 0 = (arR σ (g.D p 6) (g.D p 7) m c0).2.1 60303 mm 0) it' 0 _ rfl (fun j s _ _ h => (loseF_o (by decide)).trans h)
          rw [e1]; exact (x2' (by decide)).trans ((z2 (by decide) (by decide)).symm.trans nodeY)
        have eB := eU (itF (lsF g.D p a3') it' 0 (arR σ (g.D p 6) (g.D p 7) m c0)) bq1 bk2 bn
        have kT : (ctF a mm (itF (lsF g.D p a3') it' 0 (arR σ (g.D p 6) (g.D p 7) m c0))).2.2 = σ.2.2 := by
          rw [eB]
          show (if _ then _ else _ : Sg).2.2 = _
          rw [← kB]
          split <;> rfl
        have u1 : (unqF (sI (itF (lsF g.D p a3') it' 0 (arR σ (g.D p 6) (g.D p 7) m c0)) 30300 a 0 0) a).1 = some mm := by
          unfold unqF
          rw [show (sI (itF (lsF g.D p a3') it' 0 (arR σ (g.D p 6) (g.D p 7) m c0)) 30300 a 0 0).2.1 30406 a 0 = some mm from bq1]
        unfold snP at h
        rw [u1] at h
        dsimp only at h
        obtain ⟨q, AR', hq0, hqe, hl, he⟩ := h
        have he : Eqk E 20 41 (wkS (ctF a mm (itF (lsF g.D p a3') it' 0 (arR σ (g.D p 6) (g.D p 7) m c0))) q ((sN (ctF a mm (itF (lsF g.D p a3') it' 0 (arR σ (g.D p 6) (g.D p 7) m c0))) q 5).1 60000 mm 0) (some mm) 0) σ1 := he
        have uk : (unqF (sI (itF (lsF g.D p a3') it' 0 (arR σ (g.D p 6) (g.D p 7) m c0)) 30300 a 0 0) a).2.2.2 = σ.2.2 := by
          unfold unqF
          rw [show (sI (itF (lsF g.D p a3') it' 0 (arR σ (g.D p 6) (g.D p 7) m c0)) 30300 a 0 0).2.1 30406 a 0 = some mm from bq1]
          dsimp only
          rw [← kB]
          show (if _ then _ else _ : Sg).2.2 = _
          split <;> rfl
        have q0 : σ.2.2.2 q = 0 := by rw [uk] at hq0; exact hq0
        have hm6s : σ.2.2.2 mm = 6 := by rw [kY] at hm6'; exact hm6'
        have hmq : mm ≠ q := ne0 hm6s q0 (by decide)
        have ekd : (sN (ctF a mm (itF (lsF g.D p a3') it' 0 (arR σ (g.D p 6) (g.D p 7) m c0))) q 5).1 60000 mm 0 = 2 := by
          have : (sN (ctF a mm (itF (lsF g.D p a3') it' 0 (arR σ (g.D p 6) (g.D p 7) m c0))) q 5).1 60000 mm 0 = (ctF a mm (itF (lsF g.D p a3') it' 0 (arR σ (g.D p 6) (g.D p 7) m c0))).1 60000 mm 0 := by simp [sN, hmq]
          rw [this, eB]
          rw [rII (by decide)]
          show (if _ then _ else _ : Sg).1 60000 mm 0 = _
          split
          · show (sI (itF (lsF g.D p a3') it' 0 (arR σ (g.D p 6) (g.D p 7) m c0)) 30300 a 0 0).1 60000 mm 0 = 2; rw [rII (by decide)]; exact bk2
          · show (sI (itF (lsF g.D p a3') it' 0 (arR σ (g.D p 6) (g.D p 7) m c0)) 30300 a 0 0).1 60000 mm 0 = 2; rw [rII (by decide)]; exact bk2
        rw [ekd] at he
        -- the model's steps
        have M3 : MOp g.A g.m (fun τ => sI (mfS τ g.A p (g.B m) it') 610000 (g.A 10) (g.B mm) 2) := MOp.comp (M := fun τ => mfS τ g.A p (g.B m) it') (N := fun τ => sI τ 610000 (g.A 10) (g.B mm) 2) mfS_M (MOp.w (plA (by decide) (by decide)) (fun _ _ _ => rfl))
        have hAq : ∀ j, j < 31 → g.A j ≠ q := fun j hj e => R.s.kA hj (by rw [e]; exact q0)
        have hmmq : g.m ≠ q := fun e => R.s.km (by rw [e]; exact q0)
        have eT : sI (mfS (ctF a mm (itF (lsF g.D p a3') it' 0 (arR σ (g.D p 6) (g.D p 7) m c0))) g.A p (g.B m) it') 610000 (g.A 10) (g.B mm) 2 = sI (ctF a mm (itF (mlF g.A p (g.B m)) it' 0 (itF (lsF g.D p a3') it' 0 (sI (arR σ (g.D p 6) (g.D p 7) m c0) 610000 (g.A 10) (g.B m) 0)))) 610000 (g.A 10) (g.B mm) 2 := by
          have h1 := MC_comm (mfS_M (p := p) (b := g.B m) (it := it')) (ct_C (A := g.A) (m := g.m) (a := a) (mm := mm)) (itF (lsF g.D p a3') it' 0 (arR σ (g.D p 6) (g.D p 7) m c0))
          have h2 := MC_comm MW CLs (arR σ (g.D p 6) (g.D p 7) m c0)
          rw [h1]
          unfold mfS
          rw [h2]
        have he2 : Eqk E 20 41 (wkS (sI (ctF a mm (itF (mlF g.A p (g.B m)) it' 0 (itF (lsF g.D p a3') it' 0 (sI (arR σ (g.D p 6) (g.D p 7) m c0) 610000 (g.A 10) (g.B m) 0)))) 610000 (g.A 10) (g.B mm) 2) q 2 (some mm) 0) (sI (mfS σ1 g.A p (g.B m) it') 610000 (g.A 10) (g.B mm) 2) := by
          have h1 := Eqk.mo (M := fun τ => sI (mfS τ g.A p (g.B m) it') 610000 (g.A 10) (g.B mm) 2) M3 he (by decide) (by decide) (fun j hj => by
            show (if g.A j = q then 5 else (ctF a mm (itF (lsF g.D p a3') it' 0 (arR σ (g.D p 6) (g.D p 7) m c0))).2.2.2 (g.A j)) ≠ 0
            rw [if_neg (hAq j hj), kT]; exact R.s.kA hj) (by
            show (if g.m = q then 5 else (ctF a mm (itF (lsF g.D p a3') it' 0 (arR σ (g.D p 6) (g.D p 7) m c0))).2.2.2 g.m) ≠ 0
            rw [if_neg hmmq, kT]; exact R.s.km)
          have h2 := wkS_m (M := fun τ => sI (mfS τ g.A p (g.B m) it') 610000 (g.A 10) (g.B mm) 2) (σ := ctF a mm (itF (lsF g.D p a3') it' 0 (arR σ (g.D p 6) (g.D p 7) m c0))) (k := 2) (c := 0) (mo := some mm) M3 hAq hmmq
          have h2' := h2.trans (congrArg (fun z => wkS z q 2 (some mm) 0) eT)
          rw [h2'] at h1
          exact h1
        have hl2 : LLx E 20 41 5 (fun p => g.D p 12) (upL g.L1 p (g.L1 p ++ [q])) AR' (sI (mfS σ1 g.A p (g.B m) it') 610000 (g.A 10) (g.B mm) 2) := LLx.mo (M := fun τ => sI (mfS τ g.A p (g.B m) it') 610000 (g.A 10) (g.B mm) 2) M3 hl (by decide) (by decide)
        have kZ : (sI (ctF a mm (itF (mlF g.A p (g.B m)) it' 0 (itF (lsF g.D p a3') it' 0 (sI (arR σ (g.D p 6) (g.D p 7) m c0) 610000 (g.A 10) (g.B m) 0)))) 610000 (g.A 10) (g.B mm) 2).2.2 = σ.2.2 := by
          rw [eZ]
          show (if _ then _ else _ : Sg).2.2 = _
          rw [← kY]
          split <;> rfl
        have hlen : (g.L1 p).length < 64 := by have := R.len hp ha; omega
        -- what the model reads
        have E1 : MEq g.A g.m σ1 σ := by
          have e1 : MEq g.A g.m (wkS (ctF a mm (itF (lsF g.D p a3') it' 0 (arR σ (g.D p 6) (g.D p 7) m c0))) q 2 (some mm) 0) σ1 := by
            rintro c' x' i' ⟨hc', hx'⟩
            have hx0 : (wkS (ctF a mm (itF (lsF g.D p a3') it' 0 (arR σ (g.D p 6) (g.D p 7) m c0))) q 2 (some mm) 0).2.2.2 x' ≠ 0 := by
              rcases hx' with rfl | ⟨j, hj, rfl⟩
              · show (if g.m = q then 5 else (ctF a mm (itF (lsF g.D p a3') it' 0 (arR σ (g.D p 6) (g.D p 7) m c0))).2.2.2 g.m) ≠ 0
                rw [if_neg hmmq, kT]; exact R.s.km
              · show (if g.A j = q then 5 else (ctF a mm (itF (lsF g.D p a3') it' 0 (arR σ (g.D p 6) (g.D p 7) m c0))).2.2.2 (g.A j)) ≠ 0
                rw [if_neg (hAq j hj), kT]; exact R.s.kA hj
            exact (he.2.2.1 c' x' i' hx0 (by omega) (by omega)).1.symm
          have e2 : MEq g.A g.m (wkS (ctF a mm (itF (lsF g.D p a3') it' 0 (arR σ (g.D p 6) (g.D p 7) m c0))) q 2 (some mm) 0) (ctF a mm (itF (lsF g.D p a3') it' 0 (arR σ (g.D p 6) (g.D p 7) m c0))) := by
            rintro c' x' i' ⟨hc', hx'⟩
            have hx0 : x' ≠ q := by
              rcases hx' with rfl | ⟨j, hj, rfl⟩
              · exact hmmq
              · exact hAq j hj
            simp [wkS, sI, sO, sN, hx0]
          exact e1.symm.trans (e2.trans (((ct_C (A := g.A) (m := g.m)).1 (itF (lsF g.D p a3') it' 0 (arR σ (g.D p 6) (g.D p 7) m c0))).trans ((CLs.1 _).trans (CAr.1 σ))))
        have ES : MEq g.A g.m (mfS (Th g.m σ1) g.A p (g.B m) it') (itF (mlF g.A p (g.B m)) it' 0 (itF (lsF g.D p a3') it' 0 (sI (arR σ (g.D p 6) (g.D p 7) m c0) 610000 (g.A 10) (g.B m) 0))) := by
          have h1 := (mfS_M (A := g.A) (m := g.m) (p := p) (b := g.B m) (it := it')).2 _ _ (((Th_C (A := g.A) (m := g.m) (y := g.m)).1 σ1).trans E1)
          have h2 := (mfS_M (A := g.A) (m := g.m) (p := p) (b := g.B m) (it := it')).2 _ _ ((CLs.1 _).trans (CAr.1 σ))
          have h3 := MC_comm MW CLs (arR σ (g.D p 6) (g.D p 7) m c0)
          refine h1.trans (h2.symm.trans ?_)
          show MEq g.A g.m (mfS (itF (lsF g.D p a3') it' 0 (arR σ (g.D p 6) (g.D p 7) m c0)) g.A p (g.B m) it') (itF (mlF g.A p (g.B m)) it' 0 (itF (lsF g.D p a3') it' 0 (sI (arR σ (g.D p 6) (g.D p 7) m c0) 610000 (g.A 10) (g.B m) 0)))
          unfold mfS
          rw [h3]
          exact fun _ _ _ _ => rfl
        have hN := RY.nxt hn hp haY kYa dYa oYa
        rw [hQ] at hN
        have hN : _ = nI (g.B mm) := hN
        have eN : mfN (mfS (Th g.m σ1) g.A p (g.B m) it') g.A p (g.B m) = nI (g.B mm) := by
          unfold mfN
          rw [ES.a (c := 610000) (j := 10) (by decide) (by decide), ES.a (c := 650000) (j := 14) (by decide) (by decide), ES.a (c := 670000) (j := 16) (by decide) (by decide), show (itF (mlF g.A p (g.B m)) it' 0 (itF (lsF g.D p a3') it' 0 (sI (arR σ (g.D p 6) (g.D p 7) m c0) 610000 (g.A 10) (g.B m) 0))).1 650000 (g.A 14) (g.B m) = nI (g.N a) from (z7 (by decide)).trans hfb]
          exact hN
        obtain ⟨w1, w2, -⟩ := ((RY.a p hp).1 haY).1.1 cm mm hcm.1 hcm.2.1
        obtain ⟨kk, ss, ll, itt, tt, TT, aa1, aa2, aa3, v1, v2, v3, v4, v5, v6, v7, v8, v9, v10, v11, v12, v13, v14, -⟩ := ((RY.a p hp).1 haY).2.1 cm mm hcm.1 hcm.2.1
        have fnm : (itF (mlF g.A p (g.B m)) it' 0 (itF (lsF g.D p a3') it' 0 (sI (arR σ (g.D p 6) (g.D p 7) m c0) 610000 (g.A 10) (g.B m) 0))).1 650000 (g.A 14) (g.B mm) = nI (g.N a) := by
          rcases v14 with ⟨z, -⟩ | ⟨y, z1', z2'⟩
          · rw [nodeY] at z; cases z
          · rw [nodeY] at z1'; cases z1'; exact z2'
        have hNb := R.no.ok R.p (by omega) ha3
        have hmod := (R.no.m R.p (by omega) ha3).2.1
        have hres : mfrF σ1 g.m g.A p (g.L1 p).length (nI c0) = (1, sI (cmS (sI (mfS σ1 g.A p (g.B m) it') 610000 (g.A 10) (g.B mm) 2) g.A p (g.L1 p).length 2 (nI (g.B mm)) (nI (g.N a % 10)) (nI ss) 0) 500000 g.m 0 0) := by
          rw [mres _ E1, if_pos k2]
          unfold mfrG
          rw [eN, if_neg (lt0_nI (by omega)), nI_clamp (by omega), ES.a (c := 650000) (j := 14) (by decide) (by decide), ES.a (c := 660000) (j := 15) (by decide) (by decide), fnm, nI_clamp (by omega), v8]
          have h1 := MC_comm M3 (Th_C (A := g.A) (m := g.m) (y := g.m)) σ1
          rw [h1]
          show (1, cmS (sI _ 500000 g.m 0 0) g.A p _ 2 _ _ _ 0) = _
          rw [cmS_th]
        have AW : AddW E (gQ g a t) p q 2 (some mm) 0 (sI (ctF a mm (itF (mlF g.A p (g.B m)) it' 0 (itF (lsF g.D p a3') it' 0 (sI (arR σ (g.D p 6) (g.D p 7) m c0) 610000 (g.A 10) (g.B m) 0)))) 610000 (g.A 10) (g.B mm) 2) (cmS (sI (mfS σ1 g.A p (g.B m) it') 610000 (g.A 10) (g.B mm) 2) g.A p (g.L1 p).length 2 (nI (g.B mm)) (nI (g.N a % 10)) (nI ss) 0) :=
          AddW.of (g := gQ g a t) RZ.s hp (by rw [kZ]; exact q0) hqe (fun m' e => by cases e; rw [kZ]; exact hm6s) hl2 he2 hlen
        have zc : ∀ {c0' x i : Nat}, 60000 ≤ c0' → c0' < 61000 ∨ c0' = 61000 → (sI (ctF a mm (itF (mlF g.A p (g.B m)) it' 0 (itF (lsF g.D p a3') it' 0 (sI (arR σ (g.D p 6) (g.D p 7) m c0) 610000 (g.A 10) (g.B m) 0)))) 610000 (g.A 10) (g.B mm) 2).1 c0' x i = (itF (mlF g.A p (g.B m)) it' 0 (itF (lsF g.D p a3') it' 0 (sI (arR σ (g.D p 6) (g.D p 7) m c0) 610000 (g.A 10) (g.B m) 0))).1 c0' x i := by
          intro c0' x i h1 h2
          rw [rII (by omega), eZ, rII (by omega)]
          show (if _ then _ else _ : Sg).1 c0' x i = _
          split
          · show (sI (itF (mlF g.A p (g.B m)) it' 0 (itF (lsF g.D p a3') it' 0 (sI (arR σ (g.D p 6) (g.D p 7) m c0) 610000 (g.A 10) (g.B m) 0))) 30300 a 0 0).1 c0' x i = _; rw [rII (by omega)]
          · show (sI (itF (mlF g.A p (g.B m)) it' 0 (itF (lsF g.D p a3') it' 0 (sI (arR σ (g.D p 6) (g.D p 7) m c0) 610000 (g.A 10) (g.B m) 0))) 30300 a 0 0).1 c0' x i = _; rw [rII (by omega)]
        have zo : ∀ {c0' x i : Nat}, c0' ≠ 30406 → c0' ≠ 30506 → c0' ≠ 61106 → (sI (ctF a mm (itF (mlF g.A p (g.B m)) it' 0 (itF (lsF g.D p a3') it' 0 (sI (arR σ (g.D p 6) (g.D p 7) m c0) 610000 (g.A 10) (g.B m) 0)))) 610000 (g.A 10) (g.B mm) 2).2.1 c0' x i = (itF (mlF g.A p (g.B m)) it' 0 (itF (lsF g.D p a3') it' 0 (sI (arR σ (g.D p 6) (g.D p 7) m c0) 610000 (g.A 10) (g.B m) 0))).2.1 c0' x i := by
          intro c0' x i h1 h2 h3
          rw [rOI, eZ, rOI, rOO h3]
          split
          · rw [rOO h2, rOO h1]; rfl
          · rw [rOO h1]; rfl
        have RF := RR.addM (k := 2) (c := cm) (m := mm) RZ hp (by
            unfold al
            show (sI (ctF a mm (itF (mlF g.A p (g.B m)) it' 0 (itF (lsF g.D p a3') it' 0 (sI (arR σ (g.D p 6) (g.D p 7) m c0) 610000 (g.A 10) (g.B m) 0)))) 610000 (g.A 10) (g.B mm) 2).1 510000 (g.A 0) p = 1
            rw [rII (by decide), (ct_C (A := g.A) (m := g.m)).1 (itF (mlF g.A p (g.B m)) it' 0 (itF (lsF g.D p a3') it' 0 (sI (arR σ (g.D p 6) (g.D p 7) m c0) 610000 (g.A 10) (g.B m) 0))) _ _ _ (plA (by decide) (by decide))]; exact haY) AW hcm.1 (by
            show (sI (ctF a mm (itF (mlF g.A p (g.B m)) it' 0 (itF (lsF g.D p a3') it' 0 (sI (arR σ (g.D p 6) (g.D p 7) m c0) 610000 (g.A 10) (g.B m) 0)))) 610000 (g.A 10) (g.B mm) 2).2.1 150006 (g.D p 7) cm = some mm
            rw [zo (by decide) (by decide) (by decide)]; exact hcm.2.1) (by rw [zc (by decide) (by decide)]; exact hcm.2.2.1) (by decide) rIs
          (fun i w hi e => by
            have hi' : (g.L1 p)[i]? = some w := hi
            rw [zo (by decide) (by decide) (by decide)] at e
            rcases ((RY.i p hp).1 i w hi').2.2 with ⟨z, -⟩ | ⟨m2, c2, r1, r2, r3, r4, r5, -⟩
            · rw [z] at e; cases e
            · rw [r1] at e; cases e
              rw [hsm] at r5; exact absurd r5 (by decide)) hlen cm_r.1 cm_r.2.1 (by
            rw [zo (by decide) (by decide) (by decide), nodeY]
            dsimp only
            have e1 : (sI (ctF a mm (itF (mlF g.A p (g.B m)) it' 0 (itF (lsF g.D p a3') it' 0 (sI (arR σ (g.D p 6) (g.D p 7) m c0) 610000 (g.A 10) (g.B m) 0)))) 610000 (g.A 10) (g.B mm) 2).1 30100 a 0 = σ.1 30100 a 0 := by
              rw [rII (by decide), eZ, rII (by decide)]
              show (if _ then _ else _ : Sg).1 30100 a 0 = _
              split
              · show (sI (itF (mlF g.A p (g.B m)) it' 0 (itF (lsF g.D p a3') it' 0 (sI (arR σ (g.D p 6) (g.D p 7) m c0) 610000 (g.A 10) (g.B m) 0))) 30300 a 0 0).1 30100 a 0 = _; rw [rII (by decide)]; exact z1 (by decide)
              · show (sI (itF (mlF g.A p (g.B m)) it' 0 (itF (lsF g.D p a3') it' 0 (sI (arR σ (g.D p 6) (g.D p 7) m c0) 610000 (g.A 10) (g.B m) 0))) 30300 a 0 0).1 30100 a 0 = _; rw [rII (by decide)]; exact z1 (by decide)
            rw [e1, hmod]
            exact cm_r.2.2.1) (by
            rw [zc (by decide) (by decide), v4]; exact cm_r.2.2.2.1) cm_r.2.2.2.2.1 (fun h => absurd h (by decide)) (fun h => absurd h (by decide)) (fun h => absurd h (by decide)) (fun h => absurd rfl h)
        exact ⟨_, _, hres, (RF.th 0).mono (by omega), rIs, rfl, rfl, rfl⟩
    · rw [if_neg (mt k2i.mp k2)] at h
      subst h
      have RX : RR E g n (sI (arR σ (g.D p 6) (g.D p 7) m c0) 610000 (g.A 10) (g.B m) 0) := by
        refine R.rem hp ha hc hm hs3 FX PX hwX X1 X2 rIs X4 X5 X6 (fun y hy => ?_)
        rw [X30, if_neg (fun z => k2 (k2i.mp z.1))]
      have haX : al g (sI (arR σ (g.D p 6) (g.D p 7) m c0) 610000 (g.A 10) (g.B m) 0) p := (al.fr R.s FX (by decide) p).mpr ha
      have RY := (RX.loseN (a3 := a3') (b := g.B m) (it := it') hn hp haX (held (fun a i => arO a i) (fun i => by rw [rII (by decide)]; exact ar7 i))).1
      refine ⟨_, g, ?_, (RY.th 0).mono (by omega), rIs, rfl, rfl, rfl⟩
      rw [mres _ ((CLs.1 _).trans (CAr.1 σ)), if_neg k2, stepY _ COp.id]; rfl
end MC
