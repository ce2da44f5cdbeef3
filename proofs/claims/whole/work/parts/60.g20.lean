section FRM
variable {E : FE} {g : Gh} {σ σ' σ2 : Sg} {K J : Nat → Bool} {n n' : Nat}
def KO1 : Nat → Bool := fun c => c / 10000 == 21 || c / 10000 == 42
def KO2 : Nat → Bool := fun c => c / 10000 == 21 || c / 10000 == 42 || c == 750000 || c == 760000 || c == 740000
def gO (g : Gh) (p m : Nat) : Gh := (Gh.mk g.x g.a0 g.m g.D g.A g.N g.B g.Q g.L1 (upL g.L2 p (g.L2 p ++ [m])) g.L3 g.lv)
/-- a call joins the open ones -/
theorem RR.opn {p m s l : Nat} (R : RR E g n σ) (hp : p < 4) (ha : al g σ p) (hm6 : σ.2.2.2 m = 6) (F : Fr KO2 J σ σ2) (hJ : J 3 = false) (FP : ∀ r, r ≠ p → FrP g r KO1 J σ σ2) (hw' : WF σ2) (hfe' : σ2.2.2.2 (fe E) = 0) (l2 : ∃ AR, LLx E 21 42 6 (fun p => g.D p 13) (upL g.L2 p (g.L2 p ++ [m])) AR σ2)
    (e1 : σ.1 60100 m 0 = nI s) (hs : s < 4) (e2 : σ.1 60200 m 0 = nI l) (hl : l ≤ g.lv s) (hlen : (g.L2 p).length < 12) (e3 : σ2.1 750000 (g.A 24) (12 * p + (g.L2 p).length) = nI s) (e4 : σ2.1 760000 (g.A 25) (12 * p + (g.L2 p).length) = nI l) (e5 : σ2.1 740000 (g.A 23) p = nI ((g.L2 p).length + 1))
    (e6 : ∀ i, i < (g.L2 p).length → σ2.1 750000 (g.A 24) (12 * p + i) = σ.1 750000 (g.A 24) (12 * p + i) ∧ σ2.1 760000 (g.A 25) (12 * p + i) = σ.1 760000 (g.A 25) (12 * p + i))
    (hc : ∀ r, r < 4 → al g σ r → outN g σ r + (if oM σ r (g.lv r) m then 1 else 0) ≤ if σ.1 770000 (g.A 26) r = 0 then 0 else 1) : RR E (gO g p m) n σ2 := by
  have l1' : ∃ AR, LLx E 20 41 5 (fun p => g.D p 12) g.L1 AR σ2 := by obtain ⟨A, h⟩ := R.s.l1; exact ⟨A, h.fr F hfe' (by decide) (by decide) (by decide)⟩
  have l3' : ∃ AR, LLx E 22 43 7 (fun p => g.D p 14) g.L3 AR σ2 := by obtain ⟨A, h⟩ := R.s.l3; exact ⟨A, h.fr F hfe' (by decide) (by decide) (by decide)⟩
  have s' : RS E (gO g p m) σ2 := R.s.fr F hw' (by decide) (by decide) (by decide) rfl rfl rfl rfl rfl l1' l2 l3'
  have o' : ∀ r, r < 4 → RO (gO g p m) r σ2 := by
    intro r hr
    by_cases e : r = p
    · subst e
      have eL : (gO g r m).L2 r = g.L2 r ++ [m] := upL_s
      obtain ⟨h1, h3, h4, h5⟩ := R.o r hr
      refine ⟨fun i x hi => ?_, ?_, ?_, fun z => absurd ((al.fr R.s F (by decide) r).mpr ha) z⟩
      · rw [eL] at hi
        show ∃ s l, σ2.1 60100 x 0 = nI s ∧ s < 4 ∧ σ2.1 60200 x 0 = nI l ∧ l ≤ g.lv s ∧ σ2.1 750000 (g.A 24) (12 * r + i) = nI s ∧ σ2.1 760000 (g.A 25) (12 * r + i) = nI l
        rcases app_get hi with ⟨hil, hj⟩ | ⟨rfl, rfl⟩
        · have hx := R.s.k2 hr hj
          rw [((F.at g r).o R.s hx (by decide) (by decide) (by decide)).1, ((F.at g r).o R.s hx (by decide) (by decide) (by decide)).1, (e6 i hil).1, (e6 i hil).2]
          exact h1 i x hj
        · rw [((F.at g r).o R.s hm6 (by decide) (by decide) (by decide)).1, ((F.at g r).o R.s hm6 (by decide) (by decide) (by decide)).1]
          exact ⟨s, l, e1, hs, e2, hl, e3, e4⟩
      · rw [eL, List.length_append]; exact e5
      · rw [eL, List.length_append]; show (g.L2 r).length + 1 ≤ 12; omega
    · have h := (R.o r hr).fr hr R.s (FP r e) (by decide)
      unfold RO at h ⊢
      rw [show (gO g p m).L2 r = g.L2 r from upL_n e]; exact h
  have c' : RC (gO g p m) σ2 := by
    intro r hr har
    have har' := (al.fr R.s F (by decide) r).mp har
    show outN (gO g p m) σ2 r ≤ if σ2.1 770000 (g.A 26) r = 0 then 0 else 1
    rw [(F.2.2 _ _ _ (R.s.kA (by decide)) (by decide)).1]
    refine Nat.le_trans (Nat.le_of_eq ?_) (hc r hr har')
    rw [← outN.fr R.s (F.at g r) (by decide) hr, ← oM.fr R.s (F.at g r) hm6 (by decide) (by decide)]
    have hP : ∀ r', outP (gO g p m) σ2 r r' = outP g σ2 r r' + if r' = p ∧ oM σ2 r (g.lv r) m = true then 1 else 0 := by
      intro r'
      unfold outP
      by_cases e : r' = p
      · subst e
        rw [show (gO g r' m).L2 r' = g.L2 r' ++ [m] from upL_s, countP_app]
        show (g.L1 r').countP (oW σ2 r (g.lv r)) + ((g.L2 r').countP (oM σ2 r (g.lv r)) + if oM σ2 r (g.lv r) m = true then 1 else 0) = _
        by_cases z : oM σ2 r (g.lv r) m = true
        · rw [if_pos z, if_pos ⟨rfl, z⟩]; omega
        · rw [if_neg z, if_neg (fun y => z y.2)]; omega
      · rw [show (gO g p m).L2 r' = g.L2 r' from upL_n e, if_neg (fun y => e y.1)]
        rfl
    have hs : ((if 0 = p ∧ oM σ2 r (g.lv r) m = true then 1 else 0) + (if 1 = p ∧ oM σ2 r (g.lv r) m = true then 1 else 0) + (if 2 = p ∧ oM σ2 r (g.lv r) m = true then 1 else 0) + (if 3 = p ∧ oM σ2 r (g.lv r) m = true then 1 else 0) : Nat) = if oM σ2 r (g.lv r) m = true then 1 else 0 := by
      by_cases z : oM σ2 r (g.lv r) m = true
      · have : p = 0 ∨ p = 1 ∨ p = 2 ∨ p = 3 := by omega
        rcases this with rfl | rfl | rfl | rfl <;> simp [z]
      · simp [z]
    unfold outN
    rw [hP 0, hP 1, hP 2, hP 3]
    show _ + (g.L1 r).countP (rW σ2) = _
    omega
  exact
  RR.mk
    (s := s')
    (p := (show RP g n σ2 from R.p.fr R.s F (by decide)))
    (no := (show RNo g σ2 from R.no.fr R.s F (by decide) hJ))
    (mg := (show RMg g σ2 from R.mg.fr R.s F (by decide)))
    (h := fun p hp => (show RH g n p σ2 from (R.h p hp).fr hp R.s (F.at _ p) (by decide)))
    (d := fun p hp => (show RD g p σ2 from (R.d p hp).fr hp R.s (F.at _ p) (by decide)))
    (o := o')
    (v := fun p hp => (show RV g p σ2 from (R.v p hp).fr hp R.s (F.at _ p) (by decide)))
    (a := fun p hp => (show RA g p σ2 from (R.a p hp).fr hp R.s (F.at _ p) (by decide) (by decide)))
    (l := fun p hp => (show RL g p σ2 from (R.l p hp).fr hp R.s (F.at _ p) (by decide) (by decide)))
    (i := fun p hp => (show RI g p σ2 from (R.i p hp).fr hp R.s (fun c m h1 h2 _ => RBn.of R.a p c m hp h1 h2) (F.at _ p) (by decide)))
    (q := (show RQ g σ2 from R.q.fr R.s (RBn.of R.a) F (by decide) (by decide) hJ))
    (c := c')
    (b := (show RB g σ2 from R.b.fr R.s F (by decide) (by decide)))
    (t := by obtain ⟨T9, t1, t2⟩ := R.t; exact ⟨T9, by show σ2.1 502300 g.m 0 = _; rw [(F.2.2 _ _ _ R.s.km (by decide)).1]; exact t1, t2⟩)
/-- the inbox moved up by one in the model -/
def shF (A : Nat → Nat) : Nat → Sg → Sg := fun k τ => sI τ 730000 (A 22) k (τ.1 730000 (A 22) (k + 6))
theorem sh_r {A : Nat → Nat} : ∀ (N i : Nat) (τ : Sg), (∀ x, (itF (shF A) N i τ).1 730000 (A 22) x = if i ≤ x ∧ x < i + N then τ.1 730000 (A 22) (x + 6) else τ.1 730000 (A 22) x) ∧ (∀ c a x, c ≠ 730000 → (itF (shF A) N i τ).1 c a x = τ.1 c a x) ∧ (itF (shF A) N i τ).2 = τ.2 ∧ (∀ a x, a ≠ A 22 → (itF (shF A) N i τ).1 730000 a x = τ.1 730000 a x)
  | 0, i, τ => ⟨fun x => by rw [if_neg (by omega)]; rfl, fun _ _ _ _ => rfl, rfl, fun _ _ _ => rfl⟩
  | N + 1, i, τ => by
    obtain ⟨h1, h2, h3, h4⟩ := sh_r (A := A) N (i + 1) (shF A i τ)
    rw [itF_succ]
    refine ⟨fun x => ?_, fun c a x hc => ?_, by rw [h3]; rfl, fun a x ha => ?_⟩
    · rw [h1]
      unfold shF
      by_cases e : i + 1 ≤ x ∧ x < i + 1 + N
      · rw [if_pos e, if_pos (by omega), rIx (by omega)]
      · rw [if_neg e]
        by_cases e2 : x = i
        · subst e2; rw [rIs, if_pos (by omega)]
        · rw [rIx e2, if_neg (by omega)]
    · rw [h2 c a x hc]; exact rII hc
    · rw [h4 a x ha]; exact rIa ha
/-- take: the class and the model -/
def otkP (E : FE) (D : Nat → Nat → Nat) (p : Nat) (L1 L2 : Nat → List Nat) (σ : Sg) (v : Int32) (σ1 : Sg) : Prop := match (L1 p)[0]? with
  | none => v = 0 ∧ σ1 = σ
  | some w => if σ.1 50000 w 0 = 1 ∧ 12 ≤ (L2 p).length then v = 0 ∧ σ1 = σ else v = σ.1 50000 w 0 ∧ ∃ σa, (∃ AR, LLx E 20 41 5 (fun p => D p 12) (upL L1 p (L1 p).tail) AR σa) ∧ Eqk E 20 41 σ σa ∧ accP E D p w L2 σa σ1
def tkL (σ : Sg) (A : Nat → Nat) (p : Nat) (τ : Sg) : Sg := sI (sI (sI (sI (sI τ 810000 (A 30) (5 * p) (σ.1 730000 (A 22) (384 * p))) 810000 (A 30) (5 * p + 1) (σ.1 730000 (A 22) (384 * p + 2))) 810000 (A 30) (5 * p + 2) (if σ.1 730000 (A 22) (384 * p + 1) < 0 then -1 else σ.1 620000 (A 11) (σ.1 730000 (A 22) (384 * p + 1)).toNatClampNeg)) 810000 (A 30) (5 * p + 3) (σ.1 730000 (A 22) (384 * p + 3))) 810000 (A 30) (5 * p + 4) (σ.1 730000 (A 22) (384 * p + 4))
def tkO (σ : Sg) (A : Nat → Nat) (p O : Nat) (τ : Sg) : Sg := if σ.1 730000 (A 22) (384 * p) = 1 then sI (sI (sI τ 750000 (A 24) (12 * p + O) (σ.1 730000 (A 22) (384 * p + 3))) 760000 (A 25) (12 * p + O) (σ.1 730000 (A 22) (384 * p + 5))) 740000 (A 23) p (nI (O + 1)) else τ
def tkV (σ : Sg) (A : Nat → Nat) (p : Nat) (τ : Sg) : Sg := if σ.1 730000 (A 22) (384 * p) = 3 then sI τ 770000 (A 26) p 0 else if σ.1 730000 (A 22) (384 * p) = 5 then sI τ 770000 (A 26) p 0 else τ
def tkB (σ : Sg) (A : Nat → Nat) (p : Nat) (τ : Sg) : Sg := if σ.1 730000 (A 22) (384 * p + 1) < 0 then τ else sI τ 610000 (A 10) (σ.1 730000 (A 22) (384 * p + 1)).toNatClampNeg 3
def mtkF (σ : Sg) (m : Nat) (A : Nat → Nat) (p W O : Nat) : Int32 × Sg :=
  if W = 0 then (0, sI σ 500000 m 0 0) else if σ.1 730000 (A 22) (384 * p) = 1 ∧ O = 12 then (0, sI σ 500000 m 0 0) else
  (σ.1 730000 (A 22) (384 * p), itF (shF A) (6 * (W - 1)) (384 * p) (sI (tkB σ A p (tkL σ A p (tkV σ A p (tkO σ A p O (sI σ 500000 m 0 0))))) 720000 (A 21) p (nI (W - 1))))
end FRM
