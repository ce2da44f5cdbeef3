section SND
variable {E : FE} {g : Gh} {σ σ' σ1 σ2 τ τ' s3 s5 C6 T Ms : Sg} {n p q m c k it z a1 a2 a3 b : Nat} {nd : Option Nat} {w tv t v st : Int32}
theorem sI_id {c x i : Nat} {v : Int32} (h : τ.1 c x i = v) : sI τ c x i v = τ := by
  refine Prod.ext (funext fun c' => funext fun x' => funext fun i' => ?_) rfl
  show (if c' = c ∧ x' = x ∧ i' = i then v else τ.1 c' x' i') = _
  by_cases y : c' = c ∧ x' = x ∧ i' = i
  · obtain ⟨rfl, rfl, rfl⟩ := y; rw [if_pos ⟨rfl, rfl, rfl⟩, h]
  · rw [if_neg y]
theorem cmS_ci {A : Nat → Nat} {p w c x i : Nat} {k b y s c0 v : Int32} (h1 : c ≠ 730000) (h2 : c ≠ 720000) (h3 : c ≠ 520000) : cmS (sI σ c x i v) A p w k b y s c0 = sI (cmS σ A p w k b y s c0) c x i v := by
  unfold cmS
  rw [rII (Ne.symm h3)]
  rw [sI_comm (c := c) h1, sI_comm (c := c) h1, sI_comm (c := c) h1, sI_comm (c := c) h1, sI_comm (c := c) h1, sI_comm (c := c) h1, sI_comm (c := c) h2]
theorem mvS_ci {c x i : Nat} {v : Int32} {m : Nat} {A : Nat → Nat} (h : c < 500000) : mvS (sI (sI τ c x i v) 500000 m 0 0) m A p q b it z w tv t = sI (mvS (sI τ 500000 m 0 0) m A p q b it z w tv t) c x i v := by
  rw [sI_comm (by omega)]
  exact MC_comm (A := A) (m := m) (M := fun τ => mvS τ m A p q b it z w tv t) (C := fun τ => sI τ c x i v) mvS_M (COp.w (v := fun _ => v) (by omega) (fun _ _ _ => rfl)) _
theorem tf_q (h : TF g p b v 2 s5 Ms T) : TF g p b v 1 s5 Ms (sI T 610000 (g.A 10) b 1) := by
  refine TF.mk h.a1 h.a1n (fun c x i h0 h1 h2 h3 h4 => ?_) h.a3 (fun c x i h0 h1 h2 h3 => ?_) (fun x i h1 h2 => ?_) (fun c x i h0 h1 h2 => ?_) ?_ ?_ rIs h.wf
  · rw [rII (by omega)]; exact h.a2 c x i h0 h1 h2 h3 h4
  · have : (sI T 610000 (g.A 10) b 1).1 c x i = T.1 c x i := by
      show (if c = 610000 ∧ x = g.A 10 ∧ i = b then (1 : Int32) else T.1 c x i) = _
      exact if_neg (fun y => h2 ⟨y.1, y.2.2⟩)
    rw [this]; exact h.a4 c x i h0 h1 h2 h3
  · rw [rII (by decide)]; exact h.a4o x i h1 h2
  · have : (sI T 610000 (g.A 10) b 1).1 c x i = T.1 c x i := by
      show (if c = 610000 ∧ x = g.A 10 ∧ i = b then (1 : Int32) else T.1 c x i) = _
      exact if_neg (fun y => h2 (by rw [y.1, y.2.1]; exact plA (by decide) (by decide)))
    rw [this]; exact h.a5 c x i h0 h1 h2
  · rw [rII (by decide)]; exact h.v1
  · rw [rII (by decide)]; exact h.v2
theorem bsy_6 {L : Nat} (A : PD g p q m c k it L a1 a2 a3 nd σ s3 s5) (hkk : k ≤ 3) (hw : WF s5) (hnd : ∀ a, nd = some a → σ.2.2.2 a = 3) : C6S g s5 (bsyS s5 m) ∧ (∀ x, σ.2.2.2 x = 3 → (bsyS s5 m).2.1 30406 x 0 = σ.2.1 30406 x 0 ∧ (bsyS s5 m).2.1 30506 x 0 = σ.2.1 30506 x 0 ∧ (bsyS s5 m).1 30300 x 0 = if k = 2 ∧ nd = some x then 1 else σ.1 30300 x 0) ∧ (∀ m', σ.2.2.2 m' = 6 → (bsyS s5 m).2.1 61106 m' 0 = σ.2.1 61106 m' 0) := by
  have o5 : ∀ {c' x i}, σ.2.2.2 x ≠ 0 → c' ≠ 180003 → c' ≠ 120003 → c' ≠ 150006 → s5.2.1 c' x i = σ.2.1 c' x i := fun hx h1 h2 h3 => A.O _ _ _ hx (fun y => h1 y.1) (fun y => h2 y.1) (fun y => h3 y.1)
  have i5 : ∀ {x}, σ.2.2.2 x ≠ 0 → s5.1 30300 x 0 = σ.1 30300 x 0 := fun hx => A.I _ _ _ hx (fun h => absurd h.1 (by decide)) (fun h => absurd h.1 (by decide)) (fun h => absurd h.1 (by decide)) (fun h => absurd h.1 (by decide)) (fun h => absurd h.1 (by decide)) (fun h => absurd h.1 (by decide))
  have k2 : nI k = 2 ↔ k = 2 := nI_eq (b := 2) (by omega) (by omega)
  have eo : (bsyS s5 m).2 = s5.2 := by
    unfold bsyS
    split
    · split <;> rfl
    · rfl
  have ei : ∀ c x i, c ≠ 30300 → (bsyS s5 m).1 c x i = s5.1 c x i := fun c x i hc => by
    unfold bsyS
    split
    · split
      · rfl
      · exact rII hc
    · rfl
  have e3 : ∀ x, σ.2.2.2 x = 3 → (bsyS s5 m).1 30300 x 0 = if k = 2 ∧ nd = some x then 1 else σ.1 30300 x 0 := fun x hx => by
    have xz : σ.2.2.2 x ≠ 0 := by rw [hx]; decide
    unfold bsyS
    rw [A.f0, A.f3]
    by_cases c2 : k = 2
    · rw [if_pos (k2.mpr c2)]
      cases nd with
      | none => dsimp only; rw [if_neg (fun y => by cases y.2)]; exact i5 xz
      | some a =>
        dsimp only
        by_cases e : x = a
        · subst e; rw [if_pos ⟨c2, rfl⟩]; exact rIs
        · rw [if_neg (fun y => e (Option.some.inj y.2).symm), rIa e]; exact i5 xz
    · rw [if_neg (fun y => c2 (k2.mp y)), if_neg (fun y => c2 y.1)]; exact i5 xz
  refine ⟨C6S.mk (by rw [eo]) ei (fun c x i _ _ _ => by rw [eo]) (fun c' a x b' hb hc' => by rw [eo] at hb ⊢; exact hw c' a x b' hb hc'), fun x hx => ?_, fun m' hm' => ?_⟩
  · have xz : σ.2.2.2 x ≠ 0 := by rw [hx]; decide
    rw [eo, o5 xz (by decide) (by decide) (by decide), o5 xz (by decide) (by decide) (by decide)]
    exact ⟨rfl, rfl, e3 x hx⟩
  · rw [eo, o5 (by rw [hm']; decide) (by decide) (by decide) (by decide)]
/-- a message that waits -/
theorem done_W {L Tk a : Nat} (R : RR E g n σ) (hn : n ≤ 512) (hp : p < 4) (ha : al g σ p) (hq : q < 4) (haq : al g σ q) (A : PD g p q m c 2 it L a1 a2 a3 (some a) σ s3 s5) (hw5 : WF s5) (a3k : σ.2.2.2 a = 3) (hd : σ.1 30200 a 0 = 0) (ho : σ.1 30000 a 0 = nI q) (hbz : σ.1 30300 a 0 = 1)
    (M : MR g p q (g.B m) it z w tv t σ (mvS σ g.m g.A p q (g.B m) it z w tv t)) (hk4 : it ≤ 4) (hT : Tk ≤ n)
    (P : ∀ T, TF g p (g.B m) (σ.1 770000 (g.A 26) p) 1 s5 (mvS σ g.m g.A p q (g.B m) it z w tv t) T → T.2.2.2 (fe E) = 0 → TP E g n p q m c 2 it L Tk a1 a2 a3 (σ.1 770000 (g.A 26) p) 1 σ T) (hfe : s5.2.2.2 (fe E) = 0) : RR E (gQ g a (g.Q a ++ [m])) (n + 1) (sI (mvS (sI (queF s5 a m) 500000 g.m 0 0) g.m g.A p q (g.B m) it z w tv t) 610000 (g.A 10) (g.B m) 1) := by
  have az : σ.2.2.2 a ≠ 0 := by rw [a3k]; decide
  have o5 : ∀ {c' x i}, σ.2.2.2 x ≠ 0 → c' ≠ 180003 → c' ≠ 120003 → c' ≠ 150006 → s5.2.1 c' x i = σ.2.1 c' x i := fun hx h1 h2 h3 => A.O _ _ _ hx (fun y => h1 y.1) (fun y => h2 y.1) (fun y => h3 y.1)
  have Q := R.q.1 a q a3k hd hq ho
  have e5 : s5.2.1 30506 a 0 = (g.Q a).getLast? := by rw [o5 az (by decide) (by decide) (by decide)]; exact Q.2.1
  have k6 : ∀ {m'}, m' ∈ g.Q a → σ.2.2.2 m' = 6 := fun hm => by
    obtain ⟨c', hc', -⟩ := Q.2.2.1 _ hm
    exact R.s.wf _ _ _ _ hc'.2.1 (by decide)
  have nm6 : ∀ {x}, σ.2.2.2 x ≠ 0 → x ≠ m := fun hx e => hx (by rw [e]; exact A.y0)
  -- what the queue's write leaves
  have qd : (queF s5 a m).1 = s5.1 ∧ (queF s5 a m).2.2 = s5.2.2 ∧ (∀ c' x i, c' ≠ 30406 → c' ≠ 30506 → c' ≠ 61106 → (queF s5 a m).2.1 c' x i = s5.2.1 c' x i) ∧ WF (queF s5 a m) ∧ (queF s5 a m).2.1 30506 a 0 = some m ∧ (queF s5 a m).2.1 30406 a 0 = (if g.Q a = [] then some m else σ.2.1 30406 a 0) ∧ (∀ x, x ≠ a → (queF s5 a m).2.1 30406 x 0 = s5.2.1 30406 x 0 ∧ (queF s5 a m).2.1 30506 x 0 = s5.2.1 30506 x 0) ∧ (∀ m', some m' ≠ (g.Q a).getLast? → (queF s5 a m).2.1 61106 m' 0 = s5.2.1 61106 m' 0) ∧ (∀ m', (g.Q a).getLast? = some m' → (queF s5 a m).2.1 61106 m' 0 = some m) := by
    unfold queF
    rw [e5]
    cases e : (g.Q a).getLast? with
    | none =>
      dsimp only
      have hnil : g.Q a = [] := List.getLast?_eq_none_iff.mp e
      refine ⟨rfl, rfl, fun c' x i h1 h2 h3 => by rw [rOO h2, rOO h1], WF.oS (WF.oS hw5 (fun _ => A.km)) (fun _ => A.km), rOs, by rw [rOO (by decide), if_pos hnil]; exact rOs, fun x hx => ⟨by rw [rOO (by decide)]; simp [sO, hx], by simp [sO, hx]⟩, fun m' _ => by rw [rOO (by decide), rOO (by decide)], fun m' h => by cases h⟩
    | some b' =>
      dsimp only
      have hne : g.Q a ≠ [] := fun h => by rw [h] at e; cases e
      refine ⟨rfl, rfl, fun c' x i h1 h2 h3 => by rw [rOO h2, rOO h3], WF.oS (WF.oS hw5 (fun _ => A.km)) (fun _ => A.km), rOs, by rw [rOO (by decide), rOO (by decide), if_neg hne]; exact o5 az (by decide) (by decide) (by decide), fun x hx => ⟨by rw [rOO (by decide), rOO (by decide)], by rw [show (sO (sO s5 61106 b' 0 (some m)) 30506 a 0 (some m)).2.1 30506 x 0 = (sO s5 61106 b' 0 (some m)).2.1 30506 x 0 from by simp [sO, hx], rOO (by decide)]⟩, fun m' h => ?_, fun m' h => ?_⟩
      · have : m' ≠ b' := fun y => h (by rw [y])
        rw [rOO (by decide)]; simp [sO, this]
      · cases h; rw [rOO (by decide)]; exact rOs
  obtain ⟨d1, d2, d3, d4, d5, d6, d7, d8, d9⟩ := qd
  have B : C6S g s5 (queF s5 a m) := C6S.mk d2 (fun c' x i _ => by rw [d1]) d3 d4
  have TF1 := tf_q (tf_of (f := false) (V := fun _ => none) (dv := 0) (dn := 0) R hp ha hk4 A B M)
  have eX : XS g p q (g.B m) it z w tv t false (queF s5 a m) = mvS (sI (queF s5 a m) 500000 g.m 0 0) g.m g.A p q (g.B m) it z w tv t := rfl
  rw [eX] at TF1
  have TP1 := P _ TF1 (by show (mvS _ _ _ _ _ _ _ _ _ _ _).2.2.2 (fe E) = 0; rw [mvS_O]; show (queF s5 a m).2.2.2 (fe E) = 0; rw [d2]; exact hfe)
  have eo : ∀ c' x i, (sI (mvS (sI (queF s5 a m) 500000 g.m 0 0) g.m g.A p q (g.B m) it z w tv t) 610000 (g.A 10) (g.B m) 1).2.1 c' x i = (queF s5 a m).2.1 c' x i := fun c' x i => by
    show (mvS _ _ _ _ _ _ _ _ _ _ _).2.1 c' x i = _; rw [mvS_O]; rfl
  have ei : ∀ c' x i, c' < 500000 → (sI (mvS (sI (queF s5 a m) 500000 g.m 0 0) g.m g.A p q (g.B m) it z w tv t) 610000 (g.A 10) (g.B m) 1).1 c' x i = s5.1 c' x i := fun c' x i hc => by
    rw [rII (by omega), (mvS_M.1 _).2 _ _ _ (fun z => by have := z.1; omega), rII (by omega), d1]
  have RT0 := TP1.r5s R (TP1.r4m R hn hp ha hq haq) (fun c' x i hc hx => by
    have ho : c' ≠ 30300 ∧ c' ≠ 500000 ∧ c' ≠ 21000 ∧ c' ≠ 90100 ∧ c' ≠ 90200 ∧ c' ≠ 130000 ∧ c' ≠ 80300 ∧ c' ≠ 40300 ∧ c' ≠ 40400 ∧ c' ≠ 30406 ∧ c' ≠ 30506 ∧ c' ≠ 61106 ∧ c' ≠ 180003 ∧ c' ≠ 120003 ∧ c' ≠ 150006 ∧ c' ≠ 610000 := by
      unfold KO2 at hc
      simp only [Bool.or_eq_true, beq_iff_eq] at hc
      omega
    obtain ⟨h1, h2, h3, h4, h5, h6, h7, h8, h9, h10, h11, h12, h13, h14, h15, h16⟩ := ho
    refine ⟨?_, ?_⟩
    · have hl' : c' ∉ [610000, 620000, 630000, 640000, 650000, 660000, 670000, 502300, 680000, 710000, 690000, 700000, 550000, 540000, 570000, 580000] := by
        unfold KO2 at hc
        simp only [Bool.or_eq_true, beq_iff_eq] at hc
        simp only [List.mem_cons, List.not_mem_nil, or_false, not_or]
        omega
      rw [rII h16, mvS_w hl', rII h2, d1]
      exact A.I _ _ _ hx (fun z => h4 z.1) (fun z => h5 z.1) (fun z => h6 z.1) (fun z => h7 z.1) (fun z => h8 z.1) (fun z => h9 z.1)
    · rw [eo, d3 _ _ _ h10 h11 h12]
      exact A.O _ _ _ hx (fun z => h13 z.1) (fun z => h14 z.1) (fun z => h15 z.1))
  refine TP1.rrW (L2' := g.L2) R hn hp hq haq RT0 hT (by rw [eo, d3 _ _ _ (by decide) (by decide) (by decide)]; exact A.f3) hbz ?_ (fun x hx => ?_) (fun x hx hxa => ?_) (by rw [eo]; exact d5) (by rw [eo]; exact d6) (fun m' hm' hne => ?_) (fun m' h => by rw [eo]; exact d9 m' h)
  · rw [eo, d8 m (fun e => nm6 (by rw [k6 (List.mem_of_getLast? e.symm)]; decide) rfl)]; exact A.f11
  · rw [ei _ _ _ (by decide)]
    exact A.I _ _ _ (by rw [hx]; decide) (fun h => absurd h.1 (by decide)) (fun h => absurd h.1 (by decide)) (fun h => absurd h.1 (by decide)) (fun h => absurd h.1 (by decide)) (fun h => absurd h.1 (by decide)) (fun h => absurd h.1 (by decide))
  · have xz : σ.2.2.2 x ≠ 0 := by rw [hx]; decide
    rw [eo, eo, (d7 x hxa).1, (d7 x hxa).2, o5 xz (by decide) (by decide) (by decide), o5 xz (by decide) (by decide) (by decide)]
    exact ⟨rfl, rfl⟩
  · rw [eo, d8 m' hne, o5 (by rw [hm']; decide) (by decide) (by decide) (by decide)]
def gB (g : Gh) (m b : Nat) : Gh := (Gh.mk g.x g.a0 g.m g.D g.A g.N (upN g.B m b) g.Q g.L1 g.L2 g.L3 g.lv)
theorem RR.gB {m b : Nat} (R : RR E g n σ) (h0 : σ.2.2.2 m = 0) : RR E (gB g m b) n σ :=
  R.gh (N' := g.N) (Q' := g.Q) (fun _ _ => ⟨rfl, rfl⟩) (fun m' hm' => upN_n (fun e => by rw [e, h0] at hm'; cases hm'))
/-- what post says, with its message -/
theorem post_tp (R : RR E g n σ) (hn : n ≤ 512) (hp : p < 4) (ha : al g σ p) (hq : q < 4) (haq : al g σ q) (hk : σ.1 40300 (g.D p 8) 0 = nI it) (hk4 : it ≤ 4) (hz : σ.1 40400 (g.D p 8) 0 = nI z) (hz4 : z ≤ 20) (hkk : 1 ≤ k ∧ k ≤ 3) (hk3 : k = 3 ↔ nd = none) (hnd : ∀ a, nd = some a → σ.2.2.2 a = 3 ∧ σ.1 30200 a 0 = 0 ∧ σ.1 30000 a 0 = nI q) (hNR : NR g.N nd tv) (hw : w = if k = 2 then 1 else 0)
    (hf : pstF E (pstN σ g.x g.D p it) m a1 a2 a3 g.D p it (nI k) nd) (hc : c < 64) (hbg : bgR (pstN σ g.x g.D p it) (g.D q 7) (celF (pstN σ g.x g.D p it) (g.D p 8)) = nI c) (hroom : ¬ hrfF (pstN σ g.x g.D p it) (g.D q) (g.D p 8) (g.D p 11) it (nI k) = 0)
    (hb1 : 64 * q ≤ g.B m) (hb2 : g.B m < 64 * q + 64) (hb0 : σ.1 610000 (g.A 10) (g.B m) ≤ 0) :
    bgR σ (g.D q 7) (nI (max 1 (it + z))) = nI c ∧ PD g p q m c k it (max 1 (it + z)) a1 a2 a3 nd σ (arP (pst2 (pstN σ g.x g.D p it) g.D p it m (nI k) nd a1 a2 a3) (g.D q 6) (g.D q 7) m c) (pst5 (pstN σ g.x g.D p it) g.D p q it m (nI k) nd a1 a2 a3 c) ∧ MR g p q (g.B m) it z w tv (nI c) σ (mvS σ g.m g.A p q (g.B m) it z w tv (nI c)) ∧ (pst5 (pstN σ g.x g.D p it) g.D p q it m (nI k) nd a1 a2 a3 c).2.2.2 (fe E) = 0 ∧ ∃ Tk, Tk ≤ n ∧
      ∀ T v st, TF g p (g.B m) v st (pst5 (pstN σ g.x g.D p it) g.D p q it m (nI k) nd a1 a2 a3 c) (mvS σ g.m g.A p q (g.B m) it z w tv (nI c)) T → (v = 1 ∨ v = σ.1 770000 (g.A 26) p) → (st = 1 ∨ st = 2) → T.2.2.2 (fe E) = 0 → TP E g n p q m c k it (max 1 (it + z)) Tk a1 a2 a3 v st σ T := by
  obtain ⟨N1, N2, N3, N4, N5⟩ := pstN_r (σ := σ) (x := g.x) (j := p) (k := it) (D := g.D)
  have ecel : celF (pstN σ g.x g.D p it) (g.D p 8) = nI (max 1 (it + z)) := cel_eq (by rw [N1]; exact hk) (by rw [N1]; exact hz) hk4 hz4
  have ebg : bgR σ (g.D q 7) (nI (max 1 (it + z))) = nI c := by
    rw [← hbg, ecel]; exact (bg_c (fun i => N3 _ _ _ (by decide)) N1).symm
  obtain ⟨r1, r2, -⟩ := R.rm hn hq haq hk hk4 hz hz4 hkk.2 hroom
  have A := pd_of (c := c) (nd := nd) R hp ha hq hk hk4 hz hz4 hkk.2 hf
  have fit : c + max 1 (it + z) ≤ 64 ∧ (∀ c', c ≤ c' → c' < c + max 1 (it + z) → σ.2.1 150006 (g.D q 7) c' = none) ∧ ∀ c' m l, c' < c → σ.2.1 150006 (g.D q 7) c' = some m → σ.1 60400 m 0 = nI l → l ≤ 64 → c' + l ≤ c := by
    rcases R.fit hq haq (L := max 1 (it + z)) (by omega) (by omega) with e | ⟨c', e, h⟩
    · rw [ebg] at e; exact absurd e (nI_m1 c (by omega))
    · have : c' = c := (nI_eq (by omega) (by omega)).mp (e.symm.trans ebg)
      subst this; exact h
  have hD : ∀ {r j}, r < 4 → j < 15 → σ.2.2.2 (g.D r j) ≠ 0 := fun hr hj => R.s.kD hr hj
  have I0 := pi_g (σ := σ) (μ := σ) (b := g.B m) (z := z) (w := w) (tv := tv) (t := nI c) (a1 := a1) (a2 := a2) R hn hp ha hq haq hk hk4 (fun _ _ _ _ => rfl) (fun c' x i hx h1 h2 => A.I3 c' x i hx (fun h => h1 h.1) (fun h => h2 h.1)) (funext fun i => A.O3 _ _ _ (hD hq (by decide)) (fun h => absurd h.1 (by decide)) (fun h => absurd h.1 (by decide))) A.v3 A.n3 r1
  have I := itF_ind2 (f := riF g.D q (g.D p 10) (g.D p 11) a1 a2 a3) (h := mv2 g.A p q (g.B m)) (fun i τ υ => PI g n p q (g.B m) (g.D p 10) (g.D p 11) a1 a2 a3 it ((pstN σ g.x g.D p it).2.1 180003 (g.D p 11)) (itF (mv1 g.A g.m p (g.B m)) it 0 (mvA σ g.m g.A p (g.B m) it z w tv (nI c))) σ i τ υ) it 0 _ _ I0 (fun j τ υ _ h2 h => (h.step R hn hq (R.s.nm q hq) (fun j a hj ha => R.vk hj ha) hk4 (by omega)).1)
  rw [Nat.zero_add] at I
  obtain ⟨T0, t1, t2⟩ := R.t
  refine ⟨ebg, A, mr_of hk4 I, ?_, T0, t2, fun T v st B hv hst hfe => tp_of R hn hp hq hk4 hz4 hkk A hk3 hnd hNR hw fit hb1 hb2 hb0 t1 r2 I B hv hst hfe⟩
  obtain ⟨h0, h0e, h1, h1e, h2, h2e, h3, h3e⟩ := hf
  rw [A.kd, if_neg h3e.symm, if_neg h2e.symm, if_neg h1e.symm, if_neg h0e.symm]; exact R.s.f0
end SND
