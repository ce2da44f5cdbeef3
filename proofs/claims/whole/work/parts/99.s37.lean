/-- the model's store after the moves, read -/
def MR (g : Gh) (p q b it z : Nat) (w tv t : Int32) (σ Ms : Sg) : Prop := (∀ c x i, (c = 540000 ∨ c = 550000 → i / 16 ≠ q) → (KMA.contains c = true → i ≠ b) → (c = 690000 ∨ c = 700000 ∨ c = 710000 → i / 4 ≠ b) → (c = 570000 ∨ c = 580000 → i ≠ p) → c ≠ 502300 → Ms.1 c x i = σ.1 c x i) ∧ (Ms.1 610000 (g.A 10) b = 2) ∧ (Ms.1 620000 (g.A 11) b = t) ∧ (Ms.1 630000 (g.A 12) b = nI (max 1 (it + z))) ∧ (Ms.1 640000 (g.A 13) b = w) ∧ (Ms.1 650000 (g.A 14) b = tv) ∧ (Ms.1 660000 (g.A 15) b = nI p) ∧ (Ms.1 670000 (g.A 16) b = σ.1 502300 g.m 0) ∧ (Ms.1 680000 (g.A 17) b = nI it) ∧ (Ms.1 502300 g.m 0 = σ.1 502300 g.m 0 + 1) ∧ (Ms.1 570000 (g.A 6) p = 0) ∧ (Ms.1 580000 (g.A 7) p = 0)
theorem MR.o {g : Gh} {p q b it z : Nat} {w tv t : Int32} {σ Ms : Sg} (h9 : MR g p q b it z w tv t σ Ms) : ∀ c x i, (c = 540000 ∨ c = 550000 → i / 16 ≠ q) → (KMA.contains c = true → i ≠ b) → (c = 690000 ∨ c = 700000 ∨ c = 710000 → i / 4 ≠ b) → (c = 570000 ∨ c = 580000 → i ≠ p) → c ≠ 502300 → Ms.1 c x i = σ.1 c x i := h9.1
theorem MR.r0 {g : Gh} {p q b it z : Nat} {w tv t : Int32} {σ Ms : Sg} (h9 : MR g p q b it z w tv t σ Ms) : Ms.1 610000 (g.A 10) b = 2 := h9.2.1
theorem MR.r1 {g : Gh} {p q b it z : Nat} {w tv t : Int32} {σ Ms : Sg} (h9 : MR g p q b it z w tv t σ Ms) : Ms.1 620000 (g.A 11) b = t := h9.2.2.1
theorem MR.r2 {g : Gh} {p q b it z : Nat} {w tv t : Int32} {σ Ms : Sg} (h9 : MR g p q b it z w tv t σ Ms) : Ms.1 630000 (g.A 12) b = nI (max 1 (it + z)) := h9.2.2.2.1
theorem MR.r3 {g : Gh} {p q b it z : Nat} {w tv t : Int32} {σ Ms : Sg} (h9 : MR g p q b it z w tv t σ Ms) : Ms.1 640000 (g.A 13) b = w := h9.2.2.2.2.1
theorem MR.r4 {g : Gh} {p q b it z : Nat} {w tv t : Int32} {σ Ms : Sg} (h9 : MR g p q b it z w tv t σ Ms) : Ms.1 650000 (g.A 14) b = tv := h9.2.2.2.2.2.1
theorem MR.r5 {g : Gh} {p q b it z : Nat} {w tv t : Int32} {σ Ms : Sg} (h9 : MR g p q b it z w tv t σ Ms) : Ms.1 660000 (g.A 15) b = nI p := h9.2.2.2.2.2.2.1
theorem MR.r6 {g : Gh} {p q b it z : Nat} {w tv t : Int32} {σ Ms : Sg} (h9 : MR g p q b it z w tv t σ Ms) : Ms.1 670000 (g.A 16) b = σ.1 502300 g.m 0 := h9.2.2.2.2.2.2.2.1
theorem MR.r7 {g : Gh} {p q b it z : Nat} {w tv t : Int32} {σ Ms : Sg} (h9 : MR g p q b it z w tv t σ Ms) : Ms.1 680000 (g.A 17) b = nI it := h9.2.2.2.2.2.2.2.2.1
theorem MR.t2 {g : Gh} {p q b it z : Nat} {w tv t : Int32} {σ Ms : Sg} (h9 : MR g p q b it z w tv t σ Ms) : Ms.1 502300 g.m 0 = σ.1 502300 g.m 0 + 1 := h9.2.2.2.2.2.2.2.2.2.1
theorem MR.d3 {g : Gh} {p q b it z : Nat} {w tv t : Int32} {σ Ms : Sg} (h9 : MR g p q b it z w tv t σ Ms) : Ms.1 570000 (g.A 6) p = 0 := h9.2.2.2.2.2.2.2.2.2.2.1
theorem MR.d4 {g : Gh} {p q b it z : Nat} {w tv t : Int32} {σ Ms : Sg} (h9 : MR g p q b it z w tv t σ Ms) : Ms.1 580000 (g.A 7) p = 0 := h9.2.2.2.2.2.2.2.2.2.2.2
theorem MR.mk {g : Gh} {p q b it z : Nat} {w tv t : Int32} {σ Ms : Sg} (o : ∀ c x i, (c = 540000 ∨ c = 550000 → i / 16 ≠ q) → (KMA.contains c = true → i ≠ b) → (c = 690000 ∨ c = 700000 ∨ c = 710000 → i / 4 ≠ b) → (c = 570000 ∨ c = 580000 → i ≠ p) → c ≠ 502300 → Ms.1 c x i = σ.1 c x i) (r0 : Ms.1 610000 (g.A 10) b = 2) (r1 : Ms.1 620000 (g.A 11) b = t) (r2 : Ms.1 630000 (g.A 12) b = nI (max 1 (it + z))) (r3 : Ms.1 640000 (g.A 13) b = w) (r4 : Ms.1 650000 (g.A 14) b = tv) (r5 : Ms.1 660000 (g.A 15) b = nI p) (r6 : Ms.1 670000 (g.A 16) b = σ.1 502300 g.m 0) (r7 : Ms.1 680000 (g.A 17) b = nI it) (t2 : Ms.1 502300 g.m 0 = σ.1 502300 g.m 0 + 1) (d3 : Ms.1 570000 (g.A 6) p = 0) (d4 : Ms.1 580000 (g.A 7) p = 0) : MR g p q b it z w tv t σ Ms := ⟨o, r0, r1, r2, r3, r4, r5, r6, r7, t2, d3, d4⟩
/-- the state T by the class's s5 and the model's Ms -/
def TF (g : Gh) (p b : Nat) (v st : Int32) (s5 Ms T : Sg) : Prop := (∀ x, s5.2.2.2 x ≠ 0 → T.2.2.2 x = s5.2.2.2 x) ∧ (∀ x, s5.2.2.2 x = 0 → T.2.2.2 x = 0 ∨ T.2.2.2 x = 42) ∧ (∀ c x i, s5.2.2.2 x ≠ 0 → c < 500000 → c ≠ 30300 → KO1 c = false → ¬ (c = 21000 ∧ x = g.D p 0) → T.1 c x i = s5.1 c x i) ∧ (∀ c x i, s5.2.2.2 x ≠ 0 → c ≠ 30406 → c ≠ 30506 → c ≠ 61106 → KO1 c = false → T.2.1 c x i = s5.2.1 c x i) ∧ (∀ c x i, c ≠ 740000 → ¬ (c = 770000 ∧ i = p) → ¬ (c = 610000 ∧ i = b) → mpl g.A g.m c x → T.1 c x i = Ms.1 c x i) ∧ (∀ x i, i ≠ p → mpl g.A g.m 740000 x → T.1 740000 x i = Ms.1 740000 x i) ∧ (∀ c x i, s5.2.2.2 x ≠ 0 → 500000 < c → ¬ mpl g.A g.m c x → T.1 c x i = s5.1 c x i) ∧ (T.1 21000 (g.D p 0) 0 = v) ∧ (T.1 770000 (g.A 26) p = v) ∧ (T.1 610000 (g.A 10) b = st) ∧ (WF T)
theorem TF.a1 {g : Gh} {p b : Nat} {v st : Int32} {s5 Ms T : Sg} (h9 : TF g p b v st s5 Ms T) : ∀ x, s5.2.2.2 x ≠ 0 → T.2.2.2 x = s5.2.2.2 x := h9.1
theorem TF.a1n {g : Gh} {p b : Nat} {v st : Int32} {s5 Ms T : Sg} (h9 : TF g p b v st s5 Ms T) : ∀ x, s5.2.2.2 x = 0 → T.2.2.2 x = 0 ∨ T.2.2.2 x = 42 := h9.2.1
theorem TF.a2 {g : Gh} {p b : Nat} {v st : Int32} {s5 Ms T : Sg} (h9 : TF g p b v st s5 Ms T) : ∀ c x i, s5.2.2.2 x ≠ 0 → c < 500000 → c ≠ 30300 → KO1 c = false → ¬ (c = 21000 ∧ x = g.D p 0) → T.1 c x i = s5.1 c x i := h9.2.2.1
theorem TF.a3 {g : Gh} {p b : Nat} {v st : Int32} {s5 Ms T : Sg} (h9 : TF g p b v st s5 Ms T) : ∀ c x i, s5.2.2.2 x ≠ 0 → c ≠ 30406 → c ≠ 30506 → c ≠ 61106 → KO1 c = false → T.2.1 c x i = s5.2.1 c x i := h9.2.2.2.1
theorem TF.a4 {g : Gh} {p b : Nat} {v st : Int32} {s5 Ms T : Sg} (h9 : TF g p b v st s5 Ms T) : ∀ c x i, c ≠ 740000 → ¬ (c = 770000 ∧ i = p) → ¬ (c = 610000 ∧ i = b) → mpl g.A g.m c x → T.1 c x i = Ms.1 c x i := h9.2.2.2.2.1
theorem TF.a4o {g : Gh} {p b : Nat} {v st : Int32} {s5 Ms T : Sg} (h9 : TF g p b v st s5 Ms T) : ∀ x i, i ≠ p → mpl g.A g.m 740000 x → T.1 740000 x i = Ms.1 740000 x i := h9.2.2.2.2.2.1
theorem TF.a5 {g : Gh} {p b : Nat} {v st : Int32} {s5 Ms T : Sg} (h9 : TF g p b v st s5 Ms T) : ∀ c x i, s5.2.2.2 x ≠ 0 → 500000 < c → ¬ mpl g.A g.m c x → T.1 c x i = s5.1 c x i := h9.2.2.2.2.2.2.1
theorem TF.v1 {g : Gh} {p b : Nat} {v st : Int32} {s5 Ms T : Sg} (h9 : TF g p b v st s5 Ms T) : T.1 21000 (g.D p 0) 0 = v := h9.2.2.2.2.2.2.2.1
theorem TF.v2 {g : Gh} {p b : Nat} {v st : Int32} {s5 Ms T : Sg} (h9 : TF g p b v st s5 Ms T) : T.1 770000 (g.A 26) p = v := h9.2.2.2.2.2.2.2.2.1
theorem TF.r0 {g : Gh} {p b : Nat} {v st : Int32} {s5 Ms T : Sg} (h9 : TF g p b v st s5 Ms T) : T.1 610000 (g.A 10) b = st := h9.2.2.2.2.2.2.2.2.2.1
theorem TF.wf {g : Gh} {p b : Nat} {v st : Int32} {s5 Ms T : Sg} (h9 : TF g p b v st s5 Ms T) : WF T := h9.2.2.2.2.2.2.2.2.2.2
theorem TF.mk {g : Gh} {p b : Nat} {v st : Int32} {s5 Ms T : Sg} (a1 : ∀ x, s5.2.2.2 x ≠ 0 → T.2.2.2 x = s5.2.2.2 x) (a1n : ∀ x, s5.2.2.2 x = 0 → T.2.2.2 x = 0 ∨ T.2.2.2 x = 42) (a2 : ∀ c x i, s5.2.2.2 x ≠ 0 → c < 500000 → c ≠ 30300 → KO1 c = false → ¬ (c = 21000 ∧ x = g.D p 0) → T.1 c x i = s5.1 c x i) (a3 : ∀ c x i, s5.2.2.2 x ≠ 0 → c ≠ 30406 → c ≠ 30506 → c ≠ 61106 → KO1 c = false → T.2.1 c x i = s5.2.1 c x i) (a4 : ∀ c x i, c ≠ 740000 → ¬ (c = 770000 ∧ i = p) → ¬ (c = 610000 ∧ i = b) → mpl g.A g.m c x → T.1 c x i = Ms.1 c x i) (a4o : ∀ x i, i ≠ p → mpl g.A g.m 740000 x → T.1 740000 x i = Ms.1 740000 x i) (a5 : ∀ c x i, s5.2.2.2 x ≠ 0 → 500000 < c → ¬ mpl g.A g.m c x → T.1 c x i = s5.1 c x i) (v1 : T.1 21000 (g.D p 0) 0 = v) (v2 : T.1 770000 (g.A 26) p = v) (r0 : T.1 610000 (g.A 10) b = st) (wf : WF T) : TF g p b v st s5 Ms T := ⟨a1, a1n, a2, a3, a4, a4o, a5, v1, v2, r0, wf⟩
section TPO
variable {E : FE} {g : Gh} {σ σ' σ2 τ τ' T s3 s5 υ0 υ : Sg} {n : Nat} {p q m c k it z a1 a2 a3 b : Nat} {nd : Option Nat} {v st w tv t : Int32}
theorem mr_of {V : Nat → Option Nat} {dv dn : Nat} (hk4 : it ≤ 4) (I : PI g n p q b dv dn a1 a2 a3 it V (itF (mv1 g.A g.m p b) it 0 (mvA σ g.m g.A p b it z w tv t)) σ it τ (itF (mv2 g.A p q b) it 0 (itF (mv1 g.A g.m p b) it 0 (mvA σ g.m g.A p b it z w tv t)))) : MR g p q b it z w tv t σ (mvS σ g.m g.A p q b it z w tv t) := by
  obtain ⟨V1, V2, V3, V4⟩ := mv0_r (σ := σ) (m := g.m) (A := g.A) (p := p) (b := b) (z := z) (w := w) (v := tv) (t := t) hk4
  obtain ⟨A1, A2, A3, A4, A5, A6, A7, A8, A9, A10, A11⟩ := mvA_r (σ := σ) (m := g.m) (A := g.A) (p := p) (b := b) (k := it) (z := z) (w := w) (v := tv) (t := t)
  have rd : ∀ {c x i}, ¬ ((c = 570000 ∨ c = 580000) ∧ i = p) → (mvS σ g.m g.A p q b it z w tv t).1 c x i = (itF (mv2 g.A p q b) it 0 (itF (mv1 g.A g.m p b) it 0 (mvA σ g.m g.A p b it z w tv t))).1 c x i := fun {c x i} h => by
    unfold mvS
    show (if c = 580000 ∧ x = g.A 7 ∧ i = p then (0 : Int32) else if c = 570000 ∧ x = g.A 6 ∧ i = p then 0 else _) = _
    rw [if_neg (fun y => h ⟨Or.inr y.1, y.2.2⟩), if_neg (fun y => h ⟨Or.inl y.1, y.2.2⟩)]
  have rr : ∀ {c x i}, c ≠ 710000 → c ≠ 690000 → c ≠ 700000 → c ≠ 550000 → c ≠ 540000 → c ≠ 570000 → c ≠ 580000 → (mvS σ g.m g.A p q b it z w tv t).1 c x i = (mvA σ g.m g.A p b it z w tv t).1 c x i := fun {c x i} h1 h2 h3 h4 h5 h6 h7 => by
    rw [rd (fun y => y.1.elim h6 h7), I.m1 _ _ _ h1 h2 h3 h4 h5, V1 _ _ _ h1]
  refine MR.mk (fun c x i h1 h2 h3 h4 h5 => ?_) (by rw [rr (by decide) (by decide) (by decide) (by decide) (by decide) (by decide) (by decide)]; exact A3) (by rw [rr (by decide) (by decide) (by decide) (by decide) (by decide) (by decide) (by decide)]; exact A4) (by rw [rr (by decide) (by decide) (by decide) (by decide) (by decide) (by decide) (by decide)]; exact A5) (by rw [rr (by decide) (by decide) (by decide) (by decide) (by decide) (by decide) (by decide)]; exact A6) (by rw [rr (by decide) (by decide) (by decide) (by decide) (by decide) (by decide) (by decide)]; exact A7) (by rw [rr (by decide) (by decide) (by decide) (by decide) (by decide) (by decide) (by decide)]; exact A8) (by rw [rr (by decide) (by decide) (by decide) (by decide) (by decide) (by decide) (by decide)]; exact A9) (by rw [rr (by decide) (by decide) (by decide) (by decide) (by decide) (by decide) (by decide)]; exact A10) (by rw [rr (by decide) (by decide) (by decide) (by decide) (by decide) (by decide) (by decide)]; exact A11) (by unfold mvS; rw [rII (by decide)]; exact rIs) rIs
  rw [rd (fun y => h4 y.1 y.2)]
  by_cases c1 : c = 540000
  · subst c1
    rw [(I.m2 x i (h1 (Or.inl rfl))).2, V1 _ _ _ (by decide), A1 _ _ _ (by decide) (fun h => absurd h (by decide))]
  by_cases c2 : c = 550000
  · subst c2
    rw [(I.m2 x i (h1 (Or.inr rfl))).1, V1 _ _ _ (by decide), A1 _ _ _ (by decide) (fun h => absurd h (by decide))]
  by_cases c3 : c = 690000
  · subst c3
    rw [(I.m3 x i (h3 (Or.inl rfl))).1, V1 _ _ _ (by decide), A1 _ _ _ (by decide) (fun h => absurd h (by decide))]
  by_cases c4 : c = 700000
  · subst c4
    rw [(I.m3 x i (h3 (Or.inr (Or.inl rfl)))).2.1, V1 _ _ _ (by decide), A1 _ _ _ (by decide) (fun h => absurd h (by decide))]
  by_cases c5 : c = 710000
  · subst c5
    rw [(I.m3 x i (h3 (Or.inr (Or.inr rfl)))).2.2, V2 _ _ (h3 (Or.inr (Or.inr rfl)))]
  rw [I.m1 _ _ _ c5 c3 c4 c2 c1, V1 _ _ _ c5, A1 _ _ _ h5 h2]
set_option maxHeartbeats 2000000 in
theorem tp_of {Tk : Nat} (R : RR E g n σ) (hn : n ≤ 512) (hp : p < 4) (hq : q < 4) (hk4 : it ≤ 4) (hz4 : z ≤ 20) (hkk : 1 ≤ k ∧ k ≤ 3) (A : PD g p q m c k it (max 1 (it + z)) a1 a2 a3 nd σ s3 s5)
    (hk3 : k = 3 ↔ nd = none) (hnd : ∀ a, nd = some a → σ.2.2.2 a = 3 ∧ σ.1 30200 a 0 = 0 ∧ σ.1 30000 a 0 = nI q) (hNR : NR g.N nd tv) (hw : w = if k = 2 then 1 else 0)
    (hfit : c + max 1 (it + z) ≤ 64 ∧ (∀ c', c ≤ c' → c' < c + max 1 (it + z) → σ.2.1 150006 (g.D q 7) c' = none) ∧ ∀ c' m l, c' < c → σ.2.1 150006 (g.D q 7) c' = some m → σ.1 60400 m 0 = nI l → l ≤ 64 → c' + l ≤ c)
    (hb1 : 64 * q ≤ g.B m) (hb2 : g.B m < 64 * q + 64) (hb0 : σ.1 610000 (g.A 10) (g.B m) ≤ 0) (ht : σ.1 502300 g.m 0 = nI Tk) (hu3 : k = 2 → ∀ u, σ.1 90200 (g.D q 6) 0 = nI u → u ≤ 32 → u + max 1 (it + z) ≤ 32)
    (I : PI g n p q (g.B m) (g.D p 10) (g.D p 11) a1 a2 a3 it ((pstN σ g.x g.D p it).2.1 180003 (g.D p 11)) (itF (mv1 g.A g.m p (g.B m)) it 0 (mvA σ g.m g.A p (g.B m) it z w tv (nI c))) σ it (itF (riF g.D q (g.D p 10) (g.D p 11) a1 a2 a3) it 0 s3) (itF (mv2 g.A p q (g.B m)) it 0 (itF (mv1 g.A g.m p (g.B m)) it 0 (mvA σ g.m g.A p (g.B m) it z w tv (nI c)))))
    (B : TF g p (g.B m) v st s5 (mvS σ g.m g.A p q (g.B m) it z w tv (nI c)) T) (hv3 : v = 1 ∨ v = σ.1 770000 (g.A 26) p) (hst : st = 1 ∨ st = 2) (hfe : T.2.2.2 (fe E) = 0) : TP E g n p q m c k it (max 1 (it + z)) Tk a1 a2 a3 v st σ T := by
  have M := mr_of hk4 I
  have nf : ∀ {b x}, σ.2.2.2 b ≠ 0 → σ.2.2.2 x = 0 → b ≠ x := fun h1 h2 e => h1 (by rw [e]; exact h2)
  have kd : ∀ x, σ.2.2.2 x ≠ 0 → T.2.2.2 x = σ.2.2.2 x := fun x hx => by
    have e : s5.2.2.2 x = σ.2.2.2 x := by rw [A.kd x, if_neg (nf hx A.y3), if_neg (nf hx A.y2), if_neg (nf hx A.y1), if_neg (nf hx A.y0)]
    rw [B.a1 x (by rw [e]; exact hx), A.kd x, if_neg (nf hx A.y3), if_neg (nf hx A.y2), if_neg (nf hx A.y1), if_neg (nf hx A.y0)]
  have k5 : ∀ {x}, σ.2.2.2 x ≠ 0 → s5.2.2.2 x ≠ 0 := fun {x} hx => by
    rw [A.kd x, if_neg (nf hx A.y3), if_neg (nf hx A.y2), if_neg (nf hx A.y1), if_neg (nf hx A.y0)]; exact hx
  have km : s5.2.2.2 m ≠ 0 := by rw [A.km]; decide
  have kn : ∀ x, σ.2.2.2 x = 0 → T.2.2.2 x ≠ 0 → (J6 (T.2.2.2 x) || T.2.2.2 x == 42) = true := fun x hx h => by
    by_cases z : s5.2.2.2 x = 0
    · rcases B.a1n x z with y | y
      · exact absurd y h
      · rw [y]; rfl
    · rw [B.a1 x z, A.kd x] at h ⊢
      by_cases e3 : x = a3
      · rw [if_pos e3]; decide
      · by_cases e2 : x = a2
        · rw [if_neg e3, if_pos e2]; decide
        · by_cases e1 : x = a1
          · rw [if_neg e3, if_neg e2, if_pos e1]; decide
          · by_cases e0 : x = m
            · rw [if_neg e3, if_neg e2, if_neg e1, if_pos e0]; decide
            · rw [if_neg e3, if_neg e2, if_neg e1, if_neg e0] at h; exact absurd hx h
  -- what is not written
  have gI : ∀ c' x i, σ.2.2.2 x ≠ 0 → c' ≠ 500000 → c' ≠ 30300 → ¬ (c' = 21000 ∧ x = g.D p 0) → ¬ (c' = 90100 ∧ x = g.D q 6) → ¬ (c' = 90200 ∧ x = g.D q 6) → ¬ (c' = 130000 ∧ x = g.D q 4) → ¬ (c' = 80300 ∧ x = g.D q 2) → ¬ (c' = 40300 ∧ x = g.D p 8) → ¬ (c' = 40400 ∧ x = g.D p 8) → ¬ (c' = 770000 ∧ i = p) → ¬ (c' = 610000 ∧ i = g.B m) → (c' = 540000 ∨ c' = 550000 → i / 16 ≠ q) → (KMA.contains c' = true → i ≠ g.B m) → (c' = 690000 ∨ c' = 700000 ∨ c' = 710000 → i / 4 ≠ g.B m) → (c' = 570000 ∨ c' = 580000 → i ≠ p) → c' ≠ 502300 → KO1 c' = false → (c' = 740000 → i ≠ p) → T.1 c' x i = σ.1 c' x i := by
    intro c' x i hx h0 h1 h2 h3 h4 h5 h6 h7 h8 h9 h10 h11 h12 h13 h14 h15 h16 h17
    by_cases e : c' < 500000
    · rw [B.a2 _ _ _ (k5 hx) e h1 h16 h2]; exact A.I _ _ _ hx h3 h4 h5 h6 h7 h8
    · by_cases e2 : mpl g.A g.m c' x
      · by_cases e4 : c' = 740000
        · subst e4
          rw [B.a4o _ _ (h17 rfl) e2]; exact M.o _ _ _ h11 h12 h13 h14 h15
        · rw [B.a4 _ _ _ e4 h9 h10 e2]; exact M.o _ _ _ h11 h12 h13 h14 h15
      · rw [B.a5 _ _ _ (k5 hx) (Nat.lt_of_le_of_ne (Nat.not_lt.mp e) (Ne.symm h0)) e2]; exact A.I _ _ _ hx h3 h4 h5 h6 h7 h8
  have gO : ∀ c' x i, σ.2.2.2 x ≠ 0 → c' ≠ 30406 → c' ≠ 30506 → c' ≠ 61106 → ¬ (c' = 180003 ∧ x = g.D p 11) → ¬ (c' = 120003 ∧ x = g.D q 3) → ¬ (c' = 150006 ∧ x = g.D q 7 ∧ i = c) → KO1 c' = false → T.2.1 c' x i = σ.2.1 c' x i := by
    intro c' x i hx h1 h2 h3 h4 h5 h6 h7
    rw [B.a3 _ _ _ (k5 hx) h1 h2 h3 h7]; exact A.O _ _ _ hx h4 h5 h6
  have nc : ∀ {l : List Nat} {c' d : Nat}, l.contains c' = false → l.contains d = true → c' ≠ d := fun h1 h2 e => by
    rw [e, h2] at h1; cases h1
  have hD : ∀ {r j}, r < 4 → j < 15 → σ.2.2.2 (g.D r j) ≠ 0 := fun hr hj => R.s.kD hr hj
  have F : Fr (fun c => KT.contains c || KO2 c) (fun j => J6 j || j == 42) σ T := by
    refine ⟨kd, kn, fun c' x i hx hc => ?_⟩
    have hcc : (KT.contains c' || KO2 c') = false := hc
    rw [Bool.or_eq_false_iff] at hcc
    have hc' : KT.contains c' = false := hcc.1
    have ho1 : KO1 c' = false := by
      have h9 := hcc.2
      unfold KO2 at h9
      simp only [Bool.or_eq_false_iff] at h9
      unfold KO1
      rw [h9.1.1.1.1, h9.1.1.1.2]; rfl
    have ho2 : c' ≠ 740000 := fun e => by rw [e] at hcc; exact absurd hcc.2 (by decide)
    have nk := fun {d} (h : KT.contains d = true) => nc hc' h
    refine ⟨gI c' x i hx (nk (by decide)) (nk (by decide)) (fun h => nk (d := 21000) (by decide) h.1) (fun h => nk (d := 90100) (by decide) h.1) (fun h => nk (d := 90200) (by decide) h.1) (fun h => nk (d := 130000) (by decide) h.1) (fun h => nk (d := 80300) (by decide) h.1) (fun h => nk (d := 40300) (by decide) h.1) (fun h => nk (d := 40400) (by decide) h.1) (fun h => nk (d := 770000) (by decide) h.1) (fun h => nk (d := 610000) (by decide) h.1) (fun h => h.elim (fun y => absurd y (nk (by decide))) (fun y => absurd y (nk (by decide)))) (fun h => ?_) (fun h => h.elim (fun y => absurd y (nk (by decide))) (fun h => h.elim (fun y => absurd y (nk (by decide))) (fun y => absurd y (nk (by decide))))) (fun h => h.elim (fun y => absurd y (nk (by decide))) (fun y => absurd y (nk (by decide)))) (nk (by decide)) ho1 (fun y => absurd y ho2), gO c' x i hx (nk (by decide)) (nk (by decide)) (nk (by decide)) (fun h => nk (d := 180003) (by decide) h.1) (fun h => nk (d := 120003) (by decide) h.1) (fun h => nk (d := 150006) (by decide) h.1) ho1⟩
    have := all_c (l := KMA) (P := fun c => KT.contains c) (by decide) h
    rw [hc'] at this; cases this
  have FQ : ∀ r, r ≠ q → FrP g r (fun c => KPc.contains c || KO2 c) (fun j => J6 j || j == 42) σ T := by
    intro r hr
    refine ⟨kd, kn, fun c' x i hx hc hi => ?_⟩
    have hcc : (KPc.contains c' || KO2 c') = false := hc
    rw [Bool.or_eq_false_iff] at hcc
    have hc' : KPc.contains c' = false := hcc.1
    have ho1 : KO1 c' = false := by
      have h9 := hcc.2
      unfold KO2 at h9
      simp only [Bool.or_eq_false_iff] at h9
      unfold KO1
      rw [h9.1.1.1.1, h9.1.1.1.2]; rfl
    have ho2 : c' ≠ 740000 := fun e => by rw [e] at hcc; exact absurd hcc.2 (by decide)
    have nk := fun {d} (h : KPc.contains d = true) => nc hc' h
    have dq : ∀ {d j}, d < 500000 → j < 15 → ¬ (c' = d ∧ x = g.D q j) := fun hd hj h => hr (hi.1 (by rw [h.1]; exact hd) q _ hq hj h.2).symm
    have wq : ∀ {d e}, 510000 ≤ d → wd d = e → c' = d → i / e = r := fun hd he h => by
      have := hi.2 (by rw [h]; exact hd)
      rw [h, he] at this; exact this
    refine ⟨gI c' x i hx (nk (by decide)) (nk (by decide)) (fun h => nk (d := 21000) (by decide) h.1) (dq (by decide) (by decide)) (dq (by decide) (by decide)) (dq (by decide) (by decide)) (dq (by decide) (by decide)) (fun h => nk (d := 40300) (by decide) h.1) (fun h => nk (d := 40400) (by decide) h.1) (fun h => nk (d := 770000) (by decide) h.1) (fun h => ?_) (fun h => ?_) (fun h => ?_) (fun h => ?_) (fun h => h.elim (fun y => absurd y (nk (by decide))) (fun y => absurd y (nk (by decide)))) (nk (by decide)) ho1 (fun y => absurd y ho2), gO c' x i hx (nk (by decide)) (nk (by decide)) (nk (by decide)) (fun h => nk (d := 180003) (by decide) h.1) (dq (by decide) (by decide)) (fun h => dq (d := 150006) (j := 7) (by decide) (by decide) ⟨h.1, h.2.1⟩) ho1⟩
    · have := wq (d := 610000) (e := 64) (by decide) rfl h.1
      omega
    · have : i / 16 = r := h.elim (fun y => wq (d := 540000) (e := 16) (by decide) rfl y) (fun y => wq (d := 550000) (e := 16) (by decide) rfl y)
      omega
    · have : i / 64 = r := by
        have e : wd c' = 64 ∧ 510000 ≤ c' := by
          have h1 := all_c (l := KMA) (P := fun c => decide (wd c = 64 ∧ 510000 ≤ c)) (by decide) h
          simpa using h1
        have := hi.2 e.2
        rw [e.1] at this; exact this
      omega
    · have : i / 256 = r := by
        rcases h with y | y | y
        · exact wq (d := 690000) (e := 256) (by decide) rfl y
        · exact wq (d := 700000) (e := 256) (by decide) rfl y
        · exact wq (d := 710000) (e := 256) (by decide) rfl y
      omega
  have FP : ∀ r, r ≠ p → FrP g r (fun c => KQc.contains c || KO1 c) (fun j => J6 j || j == 42) σ T := by
    intro r hr
    refine ⟨kd, kn, fun c' x i hx hc hi => ?_⟩
    have hcc : (KQc.contains c' || KO1 c') = false := hc
    rw [Bool.or_eq_false_iff] at hcc
    have hc' : KQc.contains c' = false := hcc.1
    have ho1 : KO1 c' = false := hcc.2
    have nk := fun {d} (h : KQc.contains d = true) => nc hc' h
    have dp : ∀ {d j}, d < 500000 → j < 15 → ¬ (c' = d ∧ x = g.D p j) := fun hd hj h => hr (hi.1 (by rw [h.1]; exact hd) p _ hp hj h.2).symm
    have wq : ∀ {d e}, 510000 ≤ d → wd d = e → c' = d → i / e = r := fun hd he h => by
      have := hi.2 (by rw [h]; exact hd)
      rw [h, he] at this; exact this
    refine ⟨gI c' x i hx (nk (by decide)) (nk (by decide)) (dp (by decide) (by decide)) (fun h => nk (d := 90100) (by decide) h.1) (fun h => nk (d := 90200) (by decide) h.1) (fun h => nk (d := 130000) (by decide) h.1) (fun h => nk (d := 80300) (by decide) h.1) (dp (by decide) (by decide)) (dp (by decide) (by decide)) (fun h => ?_) (fun h => nk (d := 610000) (by decide) h.1) (fun h => h.elim (fun y => absurd y (nk (by decide))) (fun y => absurd y (nk (by decide)))) (fun h => ?_) (fun h => h.elim (fun y => absurd y (nk (by decide))) (fun h => h.elim (fun y => absurd y (nk (by decide))) (fun y => absurd y (nk (by decide))))) (fun h => ?_) (nk (by decide)) ho1 (fun h => ?_), gO c' x i hx (nk (by decide)) (nk (by decide)) (nk (by decide)) (dp (by decide) (by decide)) (fun h => nk (d := 120003) (by decide) h.1) (fun h => nk (d := 150006) (by decide) h.1) ho1⟩
    · have := wq (d := 770000) (e := 1) (by decide) rfl h.1
      omega
    · have := all_c (l := KMA) (P := fun c => KQc.contains c) (by decide) h
      rw [hc'] at this; cases this
    · have : i / 1 = r := h.elim (fun y => wq (d := 570000) (e := 1) (by decide) rfl y) (fun y => wq (d := 580000) (e := 1) (by decide) rfl y)
      omega
    · have : i / 1 = r := wq (d := 740000) (e := 1) (by decide) rfl h
      omega
  have mA : ∀ {c' j}, 500000 < c' → j < 31 → mpl g.A g.m c' (g.A j) := fun h1 h2 => plA h1 h2
  have tm : ∀ {c' j i}, 500000 < c' → j < 31 → c' ≠ 770000 → c' ≠ 610000 → c' ≠ 740000 → T.1 c' (g.A j) i = (mvS σ g.m g.A p q (g.B m) it z w tv (nI c)).1 c' (g.A j) i := fun h1 h2 h3 h4 h5 => B.a4 _ _ _ h5 (fun y => h3 y.1) (fun y => h4 y.1) (mA h1 h2)
  have mI : ∀ {c' x i}, c' ≠ 570000 → c' ≠ 580000 → (mvS σ g.m g.A p q (g.B m) it z w tv (nI c)).1 c' x i = (itF (mv2 g.A p q (g.B m)) it 0 (itF (mv1 g.A g.m p (g.B m)) it 0 (mvA σ g.m g.A p (g.B m) it z w tv (nI c)))).1 c' x i := fun h1 h2 => by
    unfold mvS; rw [rII h2, rII h1]
  have ts : ∀ {c' x i}, s5.2.2.2 x ≠ 0 → c' < 500000 → c' ≠ 30300 → c' ≠ 21000 → KO1 c' = false → T.1 c' x i = s5.1 c' x i := fun h0 h1 h2 h3 h4 => B.a2 _ _ _ h0 h1 h2 h4 (fun y => h3 y.1)
  have to : ∀ {c' x i}, s5.2.2.2 x ≠ 0 → c' ≠ 30406 → c' ≠ 30506 → c' ≠ 61106 → KO1 c' = false → T.2.1 c' x i = s5.2.1 c' x i := fun h0 h1 h2 h3 h4 => B.a3 _ _ _ h0 h1 h2 h3 h4
  have kA1 : s5.2.2.2 a1 ≠ 0 ∧ s5.2.2.2 a2 ≠ 0 ∧ s5.2.2.2 a3 ≠ 0 := by
    refine ⟨?_, ?_, ?_⟩ <;> rw [A.kd] <;> repeat' split
    all_goals first | decide | exact absurd rfl (by assumption)
  have hnd3 : T.2.1 120003 (g.D q 3) = (itF (riF g.D q (g.D p 10) (g.D p 11) a1 a2 a3) it 0 s3).2.1 120003 (g.D q 3) := funext fun i => by rw [to (k5 (hD hq (by decide))) (by decide) (by decide) (by decide) (by decide), A.s35o]
  have t5 : ∀ {c' x i}, c' < 500000 → c' ≠ 30300 → c' ≠ 21000 → c' ≠ 40300 → c' ≠ 40400 → s5.2.2.2 x ≠ 0 → KO1 c' = false → T.1 c' x i = (itF (riF g.D q (g.D p 10) (g.D p 11) a1 a2 a3) it 0 s3).1 c' x i := fun h1 h2 h3 h4 h5 h6 h7 => by rw [ts h6 h1 h2 h3 h7, A.s35 _ _ _ h4 h5]
  have f3 : T.2.1 60303 m 0 = nd := by rw [to km (by decide) (by decide) (by decide) (by decide)]; exact A.f3
  unfold TP
  exact ⟨(A.y0),
    (A.y1),
    (A.y2),
    (A.y3),
    (F),
    (FQ),
    (FP),
    (B.wf),
    (hfe),
    ((by rw [B.a1 m km]; exact A.km)),
    ((I.hr.mono (by omega)).cong (fun h h1 h2 => ⟨by rw [hnd3], t5 (by decide) (by decide) (by decide) (by decide) (by decide) (k5 (hD hq (by decide))) (by decide), t5 (by decide) (by decide) (by decide) (by decide) (by decide) (k5 (hD hq (by decide))) (by decide), (tm (by decide) (by decide) (by decide) (by decide) (by decide)).trans (mI (by decide) (by decide)), (tm (by decide) (by decide) (by decide) (by decide) (by decide)).trans (mI (by decide) (by decide)), (tm (by decide) (by decide) (by decide) (by decide) (by decide)).trans (mI (by decide) (by decide))⟩)),
    ((by rw [hnd3, t5 (by decide) (by decide) (by decide) (by decide) (by decide) (k5 (hD hq (by decide))) (by decide)]; exact I.ct)),
    ((by rw [ts (k5 (hD hp (by decide))) (by decide) (by decide) (by decide) (by decide)]; exact A.d1)),
    ((by rw [ts (k5 (hD hp (by decide))) (by decide) (by decide) (by decide) (by decide)]; exact A.d2)),
    ((by rw [tm (by decide) (by decide) (by decide) (by decide) (by decide)]; exact M.d3)),
    ((by rw [tm (by decide) (by decide) (by decide) (by decide) (by decide)]; exact M.d4)),
    (B.v1),
    (B.v2),
    (hv3),
    (hfit.1),
    ((by omega)),
    (hfit.2.1),
    (hfit.2.2),
    (hb1),
    (hb2),
    (hb0),
    (hkk.1),
    (hkk.2),
    ((by rw [ts km (by decide) (by decide) (by decide) (by decide)]; exact A.f0)),
    ((by rw [ts km (by decide) (by decide) (by decide) (by decide)]; exact A.f1)),
    ((by rw [ts km (by decide) (by decide) (by decide) (by decide)]; exact A.f2)),
    ((by rw [f3]; exact hk3)),
    (fun a h => hnd a (by rw [← f3]; exact h)),
    ((by rw [ts km (by decide) (by decide) (by decide) (by decide)]; exact A.f4)),
    ((by rw [ts km (by decide) (by decide) (by decide) (by decide)]; exact A.f5)),
    (hk4),
    ((by rw [to km (by decide) (by decide) (by decide) (by decide)]; exact A.f6)),
    ((by rw [to km (by decide) (by decide) (by decide) (by decide)]; exact A.f7)),
    ((by rw [to km (by decide) (by decide) (by decide) (by decide)]; exact A.f8)),
    ((by rw [ts kA1.1 (by decide) (by decide) (by decide) (by decide)]; exact A.f6l)),
    ((by rw [ts kA1.2.1 (by decide) (by decide) (by decide) (by decide)]; exact A.f7l)),
    ((by rw [ts kA1.2.2 (by decide) (by decide) (by decide) (by decide)]; exact A.f8l)),
    ((by rw [ts km (by decide) (by decide) (by decide) (by decide)]; exact A.f9)),
    ((by rw [ts km (by decide) (by decide) (by decide) (by decide)]; exact A.f10)),
    ((by rw [to (k5 (hD hq (by decide))) (by decide) (by decide) (by decide) (by decide)]; exact A.o1)),
    (fun c' h => gO _ _ _ (hD hq (by decide)) (by decide) (by decide) (by decide) (fun y => absurd y.1 (by decide)) (fun y => absurd y.1 (by decide)) (fun y => h y.2.2) (by decide)),
    (hst),
    (B.r0),
    ((by rw [tm (by decide) (by decide) (by decide) (by decide) (by decide)]; exact M.r1)),
    ((by rw [tm (by decide) (by decide) (by decide) (by decide) (by decide)]; exact M.r2)),
    ((by rw [tm (by decide) (by decide) (by decide) (by decide) (by decide), M.r3, hw])),
    ((by rw [tm (by decide) (by decide) (by decide) (by decide) (by decide), M.r4, f3]; exact hNR)),
    ((by rw [tm (by decide) (by decide) (by decide) (by decide) (by decide)]; exact M.r5)),
    ((by rw [tm (by decide) (by decide) (by decide) (by decide) (by decide), M.r6]; exact ht)),
    ((by rw [tm (by decide) (by decide) (by decide) (by decide) (by decide)]; exact M.r7)),
    (fun i hi => by
      rw [t5 (by decide) (by decide) (by decide) (by decide) (by decide) kA1.1 (by decide), t5 (by decide) (by decide) (by decide) (by decide) (by decide) kA1.2.1 (by decide), to kA1.2.2 (by decide) (by decide) (by decide) (by decide), A.s35o, tm (by decide) (by decide) (by decide) (by decide) (by decide), tm (by decide) (by decide) (by decide) (by decide) (by decide), tm (by decide) (by decide) (by decide) (by decide) (by decide), mI (by decide) (by decide), mI (by decide) (by decide), mI (by decide) (by decide)]
      exact I.it i hi),
    (fun b hb => by
      have h9 : ∀ {c' j}, 500000 < c' → j < 31 → c' ≠ 770000 → (c' = 540000 ∨ c' = 550000 → False) → (c' = 690000 ∨ c' = 700000 ∨ c' = 710000 → False) → (c' = 570000 ∨ c' = 580000 → False) → c' ≠ 502300 → c' ≠ 740000 → T.1 c' (g.A j) b = σ.1 c' (g.A j) b := fun h1 h2 h3 h4 h5 h6 h7 h8 => by
        rw [B.a4 _ _ _ h8 (fun y => h3 y.1) (fun y => hb y.2) (mA h1 h2)]
        exact M.o _ _ _ (fun y => (h4 y).elim) (fun _ => hb) (fun y => (h5 y).elim) (fun y => (h6 y).elim) h7
      exact ⟨h9 (by decide) (by decide) (by decide) (by decide) (by decide) (by decide) (by decide) (by decide), h9 (by decide) (by decide) (by decide) (by decide) (by decide) (by decide) (by decide) (by decide), h9 (by decide) (by decide) (by decide) (by decide) (by decide) (by decide) (by decide) (by decide), h9 (by decide) (by decide) (by decide) (by decide) (by decide) (by decide) (by decide) (by decide), h9 (by decide) (by decide) (by decide) (by decide) (by decide) (by decide) (by decide) (by decide), h9 (by decide) (by decide) (by decide) (by decide) (by decide) (by decide) (by decide) (by decide), h9 (by decide) (by decide) (by decide) (by decide) (by decide) (by decide) (by decide) (by decide), h9 (by decide) (by decide) (by decide) (by decide) (by decide) (by decide) (by decide) (by decide)⟩),
    (fun b i hb hi => by
      have h9 : ∀ {c' j}, 500000 < c' → j < 31 → c' ≠ 770000 → c' ≠ 610000 → KMA.contains c' = false → (c' = 540000 ∨ c' = 550000 → False) → (c' = 570000 ∨ c' = 580000 → False) → c' ≠ 502300 → c' ≠ 740000 → T.1 c' (g.A j) (4 * b + i) = σ.1 c' (g.A j) (4 * b + i) := fun h1 h2 h3 h3' h4 h5 h6 h7 h8 => by
        rw [tm h1 h2 h3 h3' h8]
        exact M.o _ _ _ (fun y => (h5 y).elim) (fun y => by rw [h4] at y; cases y) (fun _ => by omega) (fun y => (h6 y).elim) h7
      exact ⟨h9 (by decide) (by decide) (by decide) (by decide) (by decide) (by decide) (by decide) (by decide) (by decide), h9 (by decide) (by decide) (by decide) (by decide) (by decide) (by decide) (by decide) (by decide) (by decide), h9 (by decide) (by decide) (by decide) (by decide) (by decide) (by decide) (by decide) (by decide) (by decide)⟩),
    (ht),
    ((by rw [B.a4 _ _ _ (by decide) (fun y => absurd y.1 (by decide)) (fun y => absurd y.1 (by decide)) (plM (by decide)), M.t2, ht, nI_1])),
    ((by rw [ts (k5 (hD hq (by decide))) (by decide) (by decide) (by decide) (by decide)]; exact A.u1)),
    ((by rw [ts (k5 (hD hq (by decide))) (by decide) (by decide) (by decide) (by decide)]; exact A.u2)),
    (hu3)⟩
end TPO
