section RPL
variable {E : FE} {g : Gh} {σ σ' σ1 σ2 σa τ τ' s3 s5 C6 T Ms : Sg} {n p q m c k it z a1 a2 a3 b : Nat} {nd : Option Nat} {w tv t v st : Int32}
/-- a message that comes at once, before its work -/
theorem done_T {L Tk : Nat} {f : Bool} (R : RR E g n σ) (hn : n ≤ 512) (hp : p < 4) (ha : al g σ p) (hq : q < 4) (haq : al g σ q) (A : PD g p q m c k it L a1 a2 a3 nd σ s3 s5) (B : C6S g s5 C6)
    (P : TP E g n p q m c k it L Tk a1 a2 a3 (if f = true then 1 else σ.1 770000 (g.A 26) p) 2 σ (XS g p q (g.B m) it z w tv t f C6)) (hT : Tk ≤ n) (hz : ∀ a, k = 2 → nd = some a → σ.1 30300 a 0 = 0)
    (e1 : ∀ x, σ.2.2.2 x = 3 → C6.2.1 30406 x 0 = σ.2.1 30406 x 0 ∧ C6.2.1 30506 x 0 = σ.2.1 30506 x 0 ∧ C6.1 30300 x 0 = if k = 2 ∧ nd = some x then 1 else σ.1 30300 x 0) (e2 : ∀ m', σ.2.2.2 m' = 6 → C6.2.1 61106 m' 0 = σ.2.1 61106 m' 0) : RR E g (n + 1) (XS g p q (g.B m) it z w tv t f C6) := by
  have f3 : (XS g p q (g.B m) it z w tv t f C6).2.1 60303 m 0 = nd := by rw [XS_o, B.o _ _ _ (by decide) (by decide) (by decide)]; exact A.f3
  have nm : ∀ {c x}, c < 500000 → ¬ mpl g.A g.m c x := fun hc z => by have := z.1; omega
  have RT0 := P.r5s R (P.r4m R hn hp ha hq haq) (fun c' x i hc hx => by
    have ho : c' ≠ 30300 ∧ c' ≠ 500000 ∧ c' ≠ 21000 ∧ c' ≠ 90100 ∧ c' ≠ 90200 ∧ c' ≠ 130000 ∧ c' ≠ 80300 ∧ c' ≠ 40300 ∧ c' ≠ 40400 ∧ c' ≠ 30406 ∧ c' ≠ 30506 ∧ c' ≠ 61106 ∧ c' ≠ 180003 ∧ c' ≠ 120003 ∧ c' ≠ 150006 := by
      unfold KO2 at hc
      simp only [Bool.or_eq_true, beq_iff_eq] at hc
      omega
    obtain ⟨h1, h2, h3, h4, h5, h6, h7, h8, h9, h10, h11, h12, h13, h14, h15⟩ := ho
    refine ⟨?_, ?_⟩
    · by_cases y : mpl g.A g.m c' x
      · have hc7 : c' ≠ 770000 := by
          unfold KO2 at hc
          simp only [Bool.or_eq_true, beq_iff_eq] at hc
          omega
        have hl' : c' ∉ [610000, 620000, 630000, 640000, 650000, 660000, 670000, 502300, 680000, 710000, 690000, 700000, 550000, 540000, 570000, 580000] := by
          unfold KO2 at hc
          simp only [Bool.or_eq_true, beq_iff_eq] at hc
          simp only [List.mem_cons, List.not_mem_nil, or_false, not_or]
          omega
        rw [XS_m (B.meq (A.meq R)) (fun z => hc7 z.1) y, mvS_w hl']
      · rw [XS_i h2 (fun z => h3 z.1) y, B.i _ _ _ h1]
        exact A.I _ _ _ hx (fun z => h4 z.1) (fun z => h5 z.1) (fun z => h6 z.1) (fun z => h7 z.1) (fun z => h8 z.1) (fun z => h9 z.1)
    · rw [XS_o, B.o _ _ _ h10 h11 h12]
      exact A.O _ _ _ hx (fun z => h13 z.1) (fun z => h14 z.1) (fun z => h15 z.1))
  refine P.rrN (L2' := g.L2) R hn hp hq haq RT0 hT (fun a k2 h => hz a k2 (by rw [← f3]; exact h)) (fun x hx => ?_) (fun m' hm' => ?_)
  · obtain ⟨y1, y2, y3⟩ := e1 x hx
    rw [f3, XS_o, XS_i (by decide) (fun z => absurd z.1 (by decide)) (nm (by decide))]
    exact ⟨y1, y2, y3⟩
  · rw [XS_o]; exact e2 m' hm'
theorem Eqk.xs2 {wk : Nat} (s : RS E g σ) (hk : ∀ x, σ.2.2.2 x ≠ 0 → σa.2.2.2 x ≠ 0) (h : Eqk E 21 42 σa σ1) : Eqk E 21 42 (XS g p q b it z w tv t false σa) (XS g p q b it z w tv t false σ1) := by
  have h1 := h.ci (c := 500000) (x := g.m) (i := 0) (v := 0) (by decide) (by decide)
  have h2 := Eqk.mo (A := g.A) (m := g.m) (M := fun τ => mvS τ g.m g.A p q b it z w tv t) mvS_M h1 (by decide) (by decide) (fun j hj => hk _ (s.kA hj)) (hk _ s.km)
  rw [XS_f, XS_f]; exact h2
/-- the reply's work, and the call gone -/
theorem addP_of {wk : Nat} {L : List Nat} {kk k' b' y' s' c' : Int32} {mo : Option Nat} {AR1 AR2 : Nat → Nat} {m0 : Nat} (R : RR E g n τ) (hp : p < 4) (hq : q < 4) (q0 : τ.2.2.2 wk = 0) (hqe : wk ≠ fe E) (hmo : ∀ m, mo = some m → τ.2.2.2 m = 6) (hl : LLx E 20 41 5 (fun p => g.D p 12) (upL g.L1 q (g.L1 q ++ [wk])) AR1 σa) (he : Eqk E 20 41 (wkS τ wk kk mo 0) σa) (he2 : Eqk E 21 42 σa σ1) (hl2 : LLx E 21 42 6 (fun p => g.D p 13) (upL g.L2 p L) AR2 σ1) (hlen : (g.L1 q).length < 64) (h0 : g.L2 p = L ++ [m0]) :
    AddP E g p q wk L kk mo 0 τ (sI (cmS σ1 g.A q (g.L1 q).length k' b' y' s' c') 740000 (g.A 23) p (nI L.length)) := by
  have hwk : WF (wkS τ wk kk mo 0) := wkS_wf R.s.wf q0 hmo
  have hwa : WF σa := he.2.2.2.2.2 hwk
  have hw1 : WF σ1 := he2.2.2.2.2.2 hwa
  have F1 : Fr KL1 JW τ σa := ((Fr.wk (K := fun _ => false) q0).trans (Fr.k he)).weak (fun c hc => by simpa [KL1] using hc) (fun j hj => by simpa [JW] using hj)
  have F2 : Fr KO1 (fun j => j == 42) σa σ1 := (Fr.k he2).weak (fun c hc => by simpa [KO1] using hc) (fun j hj => hj)
  have F12 : Fr (fun c => KL1 c || KO1 c) JWO τ σ1 := (F1.trans F2).weak (fun c hc => hc) (fun j hj => by simpa [JWO] using hj)
  have F3 : Fr (fun c => c == 730000 || c == 720000 || c == 740000) (fun _ => false) σ1 (sI (cmS σ1 g.A q (g.L1 q).length k' b' y' s' c') 740000 (g.A 23) p (nI L.length)) := by
    unfold cmS
    exact Fr.iK (Fr.iK (Fr.iK (Fr.iK (Fr.iK (Fr.iK (Fr.iK (Fr.iK Fr.refl (by decide)) (by decide)) (by decide)) (by decide)) (by decide)) (by decide)) (by decide)) (by decide)
  have kq : (wkS τ wk kk mo 0).2.2.2 wk = 5 := by simp [wkS, sI, sO, sN]
  have ka : σa.2.2.2 wk = 5 := by rw [he.1 wk (by rw [kq]; decide), kq]
  have k1 : σ1.2.2.2 wk = 5 := by rw [he2.1 wk (by rw [ka]; decide), ka]
  have rq : ∀ {c0}, c0 < 100000 → (sI (cmS σ1 g.A q (g.L1 q).length k' b' y' s' c') 740000 (g.A 23) p (nI L.length)).1 c0 wk 0 = (wkS τ wk kk mo 0).1 c0 wk 0 ∧ (sI (cmS σ1 g.A q (g.L1 q).length k' b' y' s' c') 740000 (g.A 23) p (nI L.length)).2.1 c0 wk 0 = (wkS τ wk kk mo 0).2.1 c0 wk 0 := fun {c0} h => by
    have h1 := F3.2.2 c0 wk 0 (by rw [k1]; decide) (by simp only [Bool.or_eq_false_iff, beq_eq_false_iff_ne]; omega)
    have h2 := he2.2.2.1 c0 wk 0 (by rw [ka]; decide) (by omega) (by omega)
    have h3 := he.2.2.1 c0 wk 0 (by rw [kq]; decide) (by omega) (by omega)
    exact ⟨h1.1.trans (h2.1.trans h3.1), h1.2.trans (h2.2.trans h3.2)⟩
  have hfe : (wkS τ wk kk mo 0).2.2.2 (fe E) = 0 := by
    show (if fe E = wk then 5 else τ.2.2.2 (fe E)) = 0
    rw [if_neg hqe.symm]; exact R.s.f0
  have fa : σa.2.2.2 (fe E) = 0 := hl.1
  have f1 : σ1.2.2.2 (fe E) = 0 := hl2.1
  have f2 : (sI (cmS σ1 g.A q (g.L1 q).length k' b' y' s' c') 740000 (g.A 23) p (nI L.length)).2.2.2 (fe E) = 0 := f1
  refine AddP.mk ?_ (fun r hr => ?_) (fun r hr => ?_) q0 ?_ ?_ ?_ ?_ (fun i h1 h2 => ?_) hw1 ⟨AR1, ?_⟩ ⟨AR2, hl2.fr F3 f2 (by decide) (by decide) (by decide)⟩ ?_ rIs (fun i hi => ?_)
  · refine (F12.trans F3).weak (fun c hc => ?_) (fun j hj => by simpa using hj)
    simp only [KWO, KW1, KL1, KO1, KO2, Bool.or_eq_false_iff, beq_eq_false_iff_ne] at hc ⊢
    omega
  · have e1 : ∀ j, j < 6 → ¬ InP g r 730000 (g.A 22) (384 * q + 6 * (g.L1 q).length + j) := fun j hj => niA (by decide) (show (384 * q + 6 * (g.L1 q).length + j) / 384 = q by omega) hr
    have FP1 : FrP g r KLO JWO τ σ1 := (F12.weak (fun c hc => by
      simp only [KLO, KL1, KO1, KO2, Bool.or_eq_false_iff, beq_eq_false_iff_ne] at hc ⊢
      omega) (fun j hj => hj)).at g r
    unfold cmS
    exact FrP.iw (FrP.iw (FrP.iw (FrP.iw (FrP.iw (FrP.iw (FrP.iw (FrP.iw FP1 (Or.inr (e1 0 (by decide)))) (Or.inr (e1 1 (by decide)))) (Or.inr (e1 2 (by decide)))) (Or.inr (e1 3 (by decide)))) (Or.inr (e1 4 (by decide)))) (Or.inr (e1 5 (by decide)))) (Or.inr (niA (by decide) (show q / 1 = q by omega) hr))) (Or.inl (by decide))
  · have FP1 : FrP g r (fun c => KW1 c || KO1 c) JWO τ σ1 := (F12.weak (fun c hc => by
      simp only [KW1, KL1, KO1, Bool.or_eq_false_iff, beq_eq_false_iff_ne] at hc ⊢
      omega) (fun j hj => hj)).at g r
    unfold cmS
    exact FrP.iw (FrP.iw (FrP.iw (FrP.iw (FrP.iw (FrP.iw (FrP.iw (FrP.iw FP1 (Or.inl (by decide))) (Or.inl (by decide))) (Or.inl (by decide))) (Or.inl (by decide))) (Or.inl (by decide))) (Or.inl (by decide))) (Or.inl (by decide))) (Or.inr (niA (by decide) (show p / 1 = p by omega) hr))
  · rw [(rq (by decide)).1]; simp [wkS, sI, sO, sN]
  · rw [(rq (by decide)).2]; simp [wkS, sI, sO, sN]
  · rw [(rq (by decide)).1]; simp [wkS, sI, sO, sN]
  · rw [rII (by decide)]; exact rIs
  · have e1 : σ1.1 730000 (g.A 22) i = τ.1 730000 (g.A 22) i := (F12.2.2 _ _ _ (R.s.kA (by decide)) (by decide)).1
    rw [rII (by decide), ← e1]
    unfold cmS
    rw [rII (by decide), rIx (by omega), rIx (by omega), rIx (by omega), rIx (by omega), rIx (by omega), rIx (by omega)]
  · have h9 : LLx E 20 41 5 (fun p => g.D p 12) (upL g.L1 q (g.L1 q ++ [wk])) AR1 σ1 := hl.fr F2 f1 (by decide) (by decide) (by decide)
    exact h9.fr F3 f2 (by decide) (by decide) (by decide)
  · obtain ⟨AR3, h3⟩ := R.s.l3
    have h9 : LLx E 22 43 7 (fun p => g.D p 14) g.L3 AR3 σ1 := h3.fr F12 f1 (by decide) (by decide) (by decide)
    exact ⟨AR3, h9.fr F3 f2 (by decide) (by decide) (by decide)⟩
  · have e : ∀ {c j x}, c ≠ 740000 → c ≠ 730000 → c ≠ 720000 → j < 31 → (KL1 c || KO1 c) = false → (sI (cmS σ1 g.A q (g.L1 q).length k' b' y' s' c') 740000 (g.A 23) p (nI L.length)).1 c (g.A j) x = τ.1 c (g.A j) x := fun {c j x} n1 n2 n3 hj hk => by
      rw [rII n1]
      unfold cmS
      rw [rII n3, rII n2, rII n2, rII n2, rII n2, rII n2, rII n2]
      exact (F12.2.2 _ _ _ (R.s.kA hj) hk).1
    exact ⟨e (by decide) (by decide) (by decide) (by decide) (by decide), e (by decide) (by decide) (by decide) (by decide) (by decide)⟩
end RPL
