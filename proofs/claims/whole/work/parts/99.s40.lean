/-- what the class's last step leaves -/
def C6S (g : Gh) (s5 C6 : Sg) : Prop := (C6.2.2 = s5.2.2) ∧ (∀ c x i, c ≠ 30300 → C6.1 c x i = s5.1 c x i) ∧ (∀ c x i, c ≠ 30406 → c ≠ 30506 → c ≠ 61106 → C6.2.1 c x i = s5.2.1 c x i) ∧ (WF C6)
theorem C6S.k {g : Gh} {s5 C6 : Sg} (h9 : C6S g s5 C6) : C6.2.2 = s5.2.2 := h9.1
theorem C6S.i {g : Gh} {s5 C6 : Sg} (h9 : C6S g s5 C6) : ∀ c x i, c ≠ 30300 → C6.1 c x i = s5.1 c x i := h9.2.1
theorem C6S.o {g : Gh} {s5 C6 : Sg} (h9 : C6S g s5 C6) : ∀ c x i, c ≠ 30406 → c ≠ 30506 → c ≠ 61106 → C6.2.1 c x i = s5.2.1 c x i := h9.2.2.1
theorem C6S.wf {g : Gh} {s5 C6 : Sg} (h9 : C6S g s5 C6) : WF C6 := h9.2.2.2
theorem C6S.mk {g : Gh} {s5 C6 : Sg} (k : C6.2.2 = s5.2.2) (i : ∀ c x i, c ≠ 30300 → C6.1 c x i = s5.1 c x i) (o : ∀ c x i, c ≠ 30406 → c ≠ 30506 → c ≠ 61106 → C6.2.1 c x i = s5.2.1 c x i) (wf : WF C6) : C6S g s5 C6 := ⟨k, i, o, wf⟩
section DN
variable {E : FE} {g : Gh} {σ σ' σ1 σ2 τ τ' s3 s5 C6 : Sg} {n p q m c k it z a1 a2 a3 b : Nat} {nd : Option Nat} {w tv t v st : Int32}
/-- the model's turn after the class's -/
def XS (g : Gh) (p q b it z : Nat) (w tv t : Int32) (f : Bool) (τ : Sg) : Sg := if f = true then sI (sI (mvS (sI τ 500000 g.m 0 0) g.m g.A p q b it z w tv t) 21000 (g.D p 0) 0 1) 770000 (g.A 26) p 1 else mvS (sI τ 500000 g.m 0 0) g.m g.A p q b it z w tv t
theorem XS_o {f : Bool} : (XS g p q b it z w tv t f τ).2 = τ.2 := by
  unfold XS
  split
  · show (mvS _ _ _ _ _ _ _ _ _ _ _).2 = _; rw [mvS_O]; rfl
  · rw [mvS_O]; rfl
theorem XS_i {f : Bool} {c x i : Nat} (h0 : c ≠ 500000) (h1 : ¬ (c = 21000 ∧ x = g.D p 0)) (h2 : ¬ mpl g.A g.m c x) : (XS g p q b it z w tv t f τ).1 c x i = τ.1 c x i := by
  have e : (mvS (sI τ 500000 g.m 0 0) g.m g.A p q b it z w tv t).1 c x i = τ.1 c x i := by
    rw [(mvS_M.1 (sI τ 500000 g.m 0 0)).2 c x i h2, rII h0]
  unfold XS
  split
  · rw [rIe (fun y => h2 (by rw [y.1, y.2]; exact plA (by decide) (by decide))), rIe h1, e]
  · exact e
theorem XS_m {f : Bool} {c x i : Nat} (hM : MEq g.A g.m τ σ) (h1 : ¬ (c = 770000 ∧ i = p)) (h2 : mpl g.A g.m c x) : (XS g p q b it z w tv t f τ).1 c x i = (mvS σ g.m g.A p q b it z w tv t).1 c x i := by
  have hM2 : MEq g.A g.m (sI τ 500000 g.m 0 0) σ := fun c' x' i' hz => by
    rw [rII (by have := hz.1; omega)]; exact hM c' x' i' hz
  have e : (mvS (sI τ 500000 g.m 0 0) g.m g.A p q b it z w tv t).1 c x i = (mvS σ g.m g.A p q b it z w tv t).1 c x i := mvS_M.2 _ _ hM2 c x i h2
  unfold XS
  split
  · rw [← e]
    show (if c = 770000 ∧ x = g.A 26 ∧ i = p then (1 : Int32) else _) = _
    rw [if_neg (fun y => h1 ⟨y.1, y.2.2⟩), rII (by have := h2.1; omega)]
  · exact e
theorem PD.meq {L : Nat} (A : PD g p q m c k it L a1 a2 a3 nd σ s3 s5) (R : RR E g n σ) : MEq g.A g.m s5 σ := by
  rintro c' x i ⟨hc, hx⟩
  refine A.I c' x i ?_ (fun h => by omega) (fun h => by omega) (fun h => by omega) (fun h => by omega) (fun h => by omega) (fun h => by omega)
  rcases hx with rfl | ⟨j, hj, rfl⟩
  · exact R.s.km
  · exact R.s.kA hj
theorem C6S.meq (B : C6S g s5 C6) (h : MEq g.A g.m s5 σ) : MEq g.A g.m C6 σ := fun c x i hz => by
  rw [B.i c x i (by have := hz.1; omega)]; exact h c x i hz
theorem tf_of {L : Nat} {f : Bool} {V : Nat → Option Nat} {dv dn : Nat} (R : RR E g n σ) (hp : p < 4) (ha : al g σ p) (hk4 : it ≤ 4) (A : PD g p q m c k it L a1 a2 a3 nd σ s3 s5) (B : C6S g s5 C6) (M : MR g p q b it z w tv t σ (mvS σ g.m g.A p q b it z w tv t)) :
    TF g p b (if f = true then 1 else σ.1 770000 (g.A 26) p) 2 s5 (mvS σ g.m g.A p q b it z w tv t) (XS g p q b it z w tv t f C6) := by
  have hM := B.meq (A.meq R)
  have nm : ∀ {c x}, c < 500000 → ¬ mpl g.A g.m c x := fun hc z => by have := z.1; omega
  have hD0 : σ.2.2.2 (g.D p 0) ≠ 0 := R.s.kD hp (by decide)
  have m77 : mpl g.A g.m 770000 (g.A 26) := plA (by decide) (by decide)
  refine TF.mk (fun x _ => by rw [XS_o, B.k]) (fun x h => by rw [XS_o, B.k]; exact Or.inl h) (fun c x i _ hc h1 _ h2 => ?_) (fun c x i _ h1 h2 h3 _ => ?_) (fun c x i _ h1 _ h3 => XS_m hM h1 h3) (fun x i h1 h2 => XS_m hM (fun y => absurd y.1 (by decide)) h2) (fun c x i _ hc h1 => ?_) ?_ ?_ ?_ ?_
  · rw [XS_i (by omega) h2 (nm hc)]; exact B.i c x i h1
  · rw [show (XS g p q b it z w tv t f C6).2.1 = C6.2.1 from by rw [XS_o]]; exact B.o c x i h1 h2 h3
  · rw [XS_i (by omega) (fun y => by omega) h1]; exact B.i c x i (by omega)
  · cases f with
    | true => show (sI (sI _ _ _ _ _) _ _ _ _).1 _ _ _ = _; rw [rII (by decide)]; exact rIs
    | false =>
      show (mvS (sI C6 500000 g.m 0 0) g.m g.A p q b it z w tv t).1 21000 (g.D p 0) 0 = _
      rw [(mvS_M.1 _).2 _ _ _ (nm (by decide)), rII (by decide), B.i _ _ _ (by decide), A.I _ _ _ hD0 (fun h => absurd h.1 (by decide)) (fun h => absurd h.1 (by decide)) (fun h => absurd h.1 (by decide)) (fun h => absurd h.1 (by decide)) (fun h => absurd h.1 (by decide)) (fun h => absurd h.1 (by decide))]
      exact ((R.l p hp).1 ha).2.1
  · cases f with
    | true => exact rIs
    | false =>
      show (mvS (sI C6 500000 g.m 0 0) g.m g.A p q b it z w tv t).1 770000 (g.A 26) p = σ.1 770000 (g.A 26) p
      rw [mvS_w (by decide), rII (by decide)]
      exact hM _ _ _ m77
  · rw [XS_m hM (fun y => absurd y.1 (by decide)) (plA (by decide) (by decide))]; exact M.r0
  · intro c' a x b' hb hc'
    rw [XS_o] at hb ⊢
    exact B.wf c' a x b' hb hc'
theorem Eqk.ci {k ka c x i : Nat} {v : Int32} (h : Eqk E k ka τ τ') (h1 : c / 10000 ≠ k) (h2 : c / 10000 ≠ ka) : Eqk E k ka (sI τ c x i v) (sI τ' c x i v) := by
  refine ⟨h.1, h.2.1, fun c' x' i' hx n1 n2 => ⟨?_, (h.2.2.1 c' x' i' hx n1 n2).2⟩, h.2.2.2.1, h.2.2.2.2.1, h.2.2.2.2.2⟩
  show (if c' = c ∧ x' = x ∧ i' = i then v else τ'.1 c' x' i') = (if c' = c ∧ x' = x ∧ i' = i then v else τ.1 c' x' i')
  rw [(h.2.2.1 c' x' i' hx n1 n2).1]
theorem wkS_ci {wk c x i : Nat} {kk c0 v : Int32} {mo : Option Nat} (hx : x ≠ wk) : sI (wkS τ wk kk mo c0) c x i v = wkS (sI τ c x i v) wk kk mo c0 := by
  refine Prod.ext (funext fun c' => funext fun x' => funext fun i' => ?_) rfl
  simp only [wkS, sI, sO, sN]
  by_cases e : x' = wk
  · subst e
    simp [hx.symm]
  · simp [e]
theorem Eqk.xs {f : Bool} {wk : Nat} {kk c0 : Int32} {mo : Option Nat} (s : RS E g σ) (hk : ∀ x, σ.2.2.2 x ≠ 0 → τ.2.2.2 x ≠ 0) (hp : p < 4) (h0 : τ.2.2.2 wk = 0) (h : Eqk E 20 41 (wkS τ wk kk mo c0) σ1) : Eqk E 20 41 (wkS (XS g p q b it z w tv t f τ) wk kk mo c0) (XS g p q b it z w tv t f σ1) := by
  have nw : ∀ {x}, σ.2.2.2 x ≠ 0 → x ≠ wk := fun hx e => hk _ hx (by rw [e]; exact h0)
  have hA : ∀ j, j < 31 → g.A j ≠ wk := fun j hj => nw (s.kA hj)
  have h1 := h.ci (c := 500000) (x := g.m) (i := 0) (v := 0) (by decide) (by decide)
  rw [wkS_ci (nw s.km)] at h1
  have kw : ∀ {x}, σ.2.2.2 x ≠ 0 → (wkS (sI τ 500000 g.m 0 0) wk kk mo c0).2.2.2 x ≠ 0 := fun {x} hx => by
    have : (wkS (sI τ 500000 g.m 0 0) wk kk mo c0).2.2.2 x = τ.2.2.2 x := by simp [wkS, sI, sO, sN, nw hx]
    rw [this]; exact hk _ hx
  have h2 := Eqk.mo (A := g.A) (m := g.m) (M := fun τ => mvS τ g.m g.A p q b it z w tv t) mvS_M h1 (by decide) (by decide) (fun j hj => kw (s.kA hj)) (kw s.km)
  rw [wkS_m (A := g.A) (m := g.m) mvS_M hA (nw s.km)] at h2
  unfold XS
  split
  · have h3 := (h2.ci (c := 21000) (x := g.D p 0) (i := 0) (v := 1) (by decide) (by decide)).ci (c := 770000) (x := g.A 26) (i := p) (v := 1) (by decide) (by decide)
    rw [wkS_ci (nw (s.kD hp (by decide))), wkS_ci (hA 26 (by decide))] at h3
    exact h3
  · exact h2
theorem LLx.xs {f : Bool} {k ka tk : Nat} {ad : Nat → Nat} {L : Nat → List Nat} {AR : Nat → Nat} (h : LLx E k ka tk ad L AR σ1) (hk : k < 49) (hka : ka < 49) (h2 : 10000 * k + 200 ≠ 21000 ∧ 10000 * ka + 9900 ≠ 21000) : LLx E k ka tk ad L AR (XS g p q b it z w tv t f σ1) := by
  refine h.cg (by rw [XS_o]) (fun x i => XS_i (by omega) (fun y => h2.1 y.1) (fun y => by have := y.1; omega)) (fun x i => XS_i (by omega) (fun y => h2.2 y.1) (fun y => by have := y.1; omega)) (fun x i => by rw [XS_o]) (fun x i => by rw [XS_o])
/-- a message that comes at once: class and model say the same -/
theorem done_N {L Tk wk : Nat} {f : Bool} {key : Int32} {AR' : Nat → Nat} (R : RR E g n σ) (hn : n ≤ 512) (hp : p < 4) (ha : al g σ p) (hq : q < 4) (haq : al g σ q) (A : PD g p q m c k it L a1 a2 a3 nd σ s3 s5) (B : C6S g s5 C6)
    (P : TP E g n p q m c k it L Tk a1 a2 a3 (if f = true then 1 else σ.1 770000 (g.A 26) p) 2 σ (XS g p q (g.B m) it z w tv t f C6)) (hT : Tk ≤ n) (hz : ∀ a, k = 2 → nd = some a → σ.1 30300 a 0 = 0)
    (e1 : ∀ x, σ.2.2.2 x = 3 → C6.2.1 30406 x 0 = σ.2.1 30406 x 0 ∧ C6.2.1 30506 x 0 = σ.2.1 30506 x 0 ∧ C6.1 30300 x 0 = if k = 2 ∧ nd = some x then 1 else σ.1 30300 x 0) (e2 : ∀ m', σ.2.2.2 m' = 6 → C6.2.1 61106 m' 0 = σ.2.1 61106 m' 0)
    (hl : LLx E 20 41 5 (fun p => g.D p 12) (upL g.L1 q (g.L1 q ++ [wk])) AR' σ1) (he : Eqk E 20 41 (wkS C6 wk (nI k) (some m) 0) σ1) (hw0 : s5.2.2.2 wk = 0) (hwe : wk ≠ fe E) (hb12 : k ≠ 2 → (g.L1 q).length < 12) (hk3 : k ≠ 3) (hf1 : k = 1 → f = true ∧ σ.1 770000 (g.A 26) p = 0)
    (hkey : key = match nd with
      | none => -1
      | some a => σ.1 30100 a 0) (hnd : ∀ a, nd = some a → σ.2.2.2 a = 3) : RR E (gW g q wk) (n + 1) (cmS (XS g p q (g.B m) it z w tv t f σ1) g.A q (g.L1 q).length (nI k) (nI (g.B m)) key (nI p) 0) := by
  have f3 : (XS g p q (g.B m) it z w tv t f C6).2.1 60303 m 0 = nd := by rw [XS_o, B.o _ _ _ (by decide) (by decide) (by decide)]; exact A.f3
  have nm : ∀ {c x}, c < 500000 → ¬ mpl g.A g.m c x := fun hc z => by have := z.1; omega
  have RT0 := P.r5s R (P.r4m R hn hp ha hq haq) (fun c' x i hc hx => by
    have ho : c' ≠ 30300 ∧ c' ≠ 500000 ∧ c' ≠ 21000 ∧ c' ≠ 90100 ∧ c' ≠ 90200 ∧ c' ≠ 130000 ∧ c' ≠ 80300 ∧ c' ≠ 40300 ∧ c' ≠ 40400 ∧ c' ≠ 30406 ∧ c' ≠ 30506 ∧ c' ≠ 61106 ∧ c' ≠ 180003 ∧ c' ≠ 120003 ∧ c' ≠ 150006 := by
      unfold KO2 at hc
      simp only [Bool.or_eq_true, beq_iff_eq] at hc
      omega
    obtain ⟨h1, h2, h3, h4, h5, h6, h7, h8, h9, h10, h11, h12, h13, h14, h15⟩ := ho
    refine ⟨?_, ?_⟩
    · by_cases y : mpl g.A g.m c' x
      · have hc7 : c' ≠ 770000 := by
          unfold KO2 at hc
          simp only [Bool.or_eq_true, beq_iff_eq] at hc
          omega
        have hl' : c' ∉ [610000, 620000, 630000, 640000, 650000, 660000, 670000, 502300, 680000, 710000, 690000, 700000, 550000, 540000, 570000, 580000] := by
          unfold KO2 at hc
          simp only [Bool.or_eq_true, beq_iff_eq] at hc
          simp only [List.mem_cons, List.not_mem_nil, or_false, not_or]
          omega
        rw [XS_m (B.meq (A.meq R)) (fun z => hc7 z.1) y, mvS_w hl']
      · rw [XS_i h2 (fun z => h3 z.1) y, B.i _ _ _ h1]
        exact A.I _ _ _ hx (fun z => h4 z.1) (fun z => h5 z.1) (fun z => h6 z.1) (fun z => h7 z.1) (fun z => h8 z.1) (fun z => h9 z.1)
    · rw [XS_o, B.o _ _ _ h10 h11 h12]
      exact A.O _ _ _ hx (fun z => h13 z.1) (fun z => h14 z.1) (fun z => h15 z.1))
  have RT : RR E g (n + 1) (XS g p q (g.B m) it z w tv t f C6) := by
    refine P.rrN (L2' := g.L2) R hn hp hq haq RT0 hT (fun a k2 h => hz a k2 (by rw [← f3]; exact h)) (fun x hx => ?_) (fun m' hm' => ?_)
    · obtain ⟨y1, y2, y3⟩ := e1 x hx
      rw [f3, XS_o, XS_i (by decide) (fun z => absurd z.1 (by decide)) (nm (by decide))]
      exact ⟨y1, y2, y3⟩
    · rw [XS_o]; exact e2 m' hm'
  have kd : ∀ x, σ.2.2.2 x ≠ 0 → C6.2.2.2 x ≠ 0 := fun x hx => by
    have h9 := P.F.1 x hx
    rw [XS_o] at h9
    rw [h9]; exact hx
  have hlen := R.len hq haq
  have hC0 : C6.2.2.2 wk = 0 := by rw [B.k]; exact hw0
  have hX := Eqk.xs (p := p) (q := q) (b := g.B m) (it := it) (z := z) (w := w) (tv := tv) (t := t) (f := f) R.s kd hp hC0 he
  have AW := AddW.of (k' := nI k) (b := nI (g.B m)) (y := key) (s' := nI p) (c' := 0) RT.s hq (by rw [XS_o]; exact hC0) hwe (fun m' e => by cases e; exact P.m6) (hl.xs (by decide) (by decide) (by decide)) hX (by omega)
  obtain ⟨q0, q1, q2, q3, q4, q5⟩ := cm_r (σ := XS g p q (g.B m) it z w tv t f σ1) (A := g.A) (p := q) (w := (g.L1 q).length) (k := nI k) (b := nI (g.B m)) (y := key) (s := nI p) (c := 0)
  have hp0 : ¬ nI p < 0 := lt0_nI (by omega)
  have MX : ∀ {c' j i}, 500000 < c' → j < 31 → (XS g p q (g.B m) it z w tv t f σ1).1 c' (g.A j) i = (XS g p q (g.B m) it z w tv t f C6).1 c' (g.A j) i := fun {c' j i} h1 h2 => by
    have hne : g.A j ≠ wk := fun e => kd _ (R.s.kA h2) (by rw [e]; exact hC0)
    have h9 := (hX.2.2.1 c' (g.A j) i (by
      have : (wkS (XS g p q (g.B m) it z w tv t f C6) wk (nI k) (some m) 0).2.2.2 (g.A j) = C6.2.2.2 (g.A j) := by
        simp only [wkS, sI, sO, sN, hne, if_false]; rw [XS_o]
      rw [this]; exact kd _ (R.s.kA h2)) (by omega) (by omega)).1
    rw [h9]
    simp [wkS, sI, sO, sN, hne]
  refine RT.addM (k := k) hq ((al.fr R.s P.F (by decide) q).mpr haq) AW (by have := P.c64; have := P.L1; omega) P.e1 P.f0 P.k3 P.r0 (fun i w' hi h9 => ?_) (by omega) q0 q1 ?_ ?_ q4 (fun k1 => ?_) (fun k1 r hr har => ?_) (fun k3 => absurd k3 hk3) (fun h => hb12 h)
  · have w5 := R.s.k1 hq hi
    have wz : σ.2.2.2 w' ≠ 0 := by rw [w5]; decide
    rw [(P.F.2.2 _ _ _ wz (by decide)).2] at h9
    have := R.s.wf _ _ _ _ h9 (by decide)
    rw [A.y0] at this; cases this
  · rw [q2, f3, hkey]
    cases nd with
    | none => rfl
    | some a =>
      dsimp only
      exact (P.F.2.2 _ _ _ (by rw [hnd a rfl]; decide) (by decide)).1.symm
  · rw [q3]; exact P.f1.symm
  · rw [q5, if_neg hp0, nI_clamp (by omega), MX (by decide) (by decide), P.f2, (P.F.2.2 _ _ _ (R.s.kA (by decide)) (by decide)).1]
    exact (R.p p hp).2.2.2.1
  · obtain ⟨hft, hw7⟩ := hf1 k1
    have h9 := RT.c r hr har
    have eo : oM (XS g p q (g.B m) it z w tv t f C6) r (g.lv r) m = decide (r = p) := by
      unfold oM
      rw [P.f1, P.f2]
      by_cases e : r = p
      · subst e; simp
      · have : ¬ nI p = nI r := fun y => e ((nI_eq (by omega) (by omega)).mp y).symm
        simp [this, e]
    rw [eo]
    by_cases e : r = p
    · subst e
      have h8 := R.c r hr ((al.fr R.s P.F (by decide) r).mp har)
      rw [hw7, if_pos rfl] at h8
      have h7 := outN.fr R.s (P.F.at g 0) (by decide) hr
      have h6 := P.v2
      rw [hft, if_pos rfl] at h6
      rw [hft] at h7 ⊢
      rw [h7, h6, decide_eq_true rfl, if_pos rfl, if_neg (show ¬ (1 : Int32) = 0 by decide)]
      omega
    · simp [e]; exact h9
end DN
