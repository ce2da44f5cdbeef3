/-! die -/
section DIS
variable {E : FE} {g : Gh} {σ σ1 : Sg} {n p : Nat}
/-- the ghosts when p has died -/
def gX (g : Gh) (p : Nat) (L1 L3 : Nat → List Nat) : Gh := (Gh.mk g.x g.a0 g.m g.D g.A g.N g.B g.Q (L1) (upL g.L2 p []) (L3) g.lv)
set_option maxHeartbeats 4000000 in
theorem sim_die (R : RR E g n σ) (hn : n ≤ 512) (hp : p < 4) (ha : al g σ p) (h : odiP E g.D g.x p g.L1 g.L2 g.L3 σ σ1) :
    ∃ (IV JV : Nat → Sg → Prop) (g' : Gh), (g.L1 p).length ≤ 64 ∧ (g.L2 p).length ≤ 12 ∧ (∀ i τ, i < 4 → IV i τ → IV (i + 1) (di1 g.A p (g.L1 p).length (g.L2 p).length i τ) ∧ τ.1 720000 (g.A 21) p = nI (g.L1 p).length ∧ τ.1 740000 (g.A 23) p = nI (g.L2 p).length ∧ ∃ W, τ.1 720000 (g.A 21) i = nI W ∧ W < 64) ∧
      (∀ i τ, i < 4 → JV i τ → JV (i + 1) (di2 g.A p i τ) ∧ (¬ i = p → ¬ τ.1 510000 (g.A 0) i = 0 → ∃ W V, τ.1 720000 (g.A 21) i = nI W ∧ τ.1 780000 (g.A 27) i = nI V ∧ V ≤ 8 ∧ W + V ≤ 64 ∧ ∀ j, j < V → ¬ τ.1 790000 (g.A 28) (8 * i + j) < 0)) ∧ IV 0 (diA σ1 g.m g.A p) ∧ JV 0 (itF (di1 g.A p (g.L1 p).length (g.L2 p).length) 4 0 (diA σ1 g.m g.A p)) ∧
      MEq g.A g.m σ1 σ ∧ RR E g' (n + 1) (diS σ1 g.m g.A p (g.L1 p).length (g.L2 p).length) ∧ (diS σ1 g.m g.A p (g.L1 p).length (g.L2 p).length).1 500000 g.m 0 = 0 ∧ g'.x = g.x ∧ g'.m = g.m ∧ g'.A = g.A := by
  have s := R.s
  obtain ⟨L1', L3', FC, FP, hw', ⟨AR1, hl1⟩, ⟨AR2, hl2⟩, ⟨AR3, hl3⟩, CW, z1, z3, hL3, zv, hw7, hn3, hn1, hmg⟩ := die_cls (fl := fun r => decide (¬ hcB σ (g.D r 0) (g.L1 p) (g.L2 p) = 0)) s hp (fun r _ _ => decide_eq_true_iff) h
  generalize hfl0 : (fun r => decide (¬ hcB σ (g.D r 0) (g.L1 p) (g.L2 p) = 0)) = fl at CW
  have hfl1 : ∀ r, fl r = true ↔ ¬ hcB σ (g.D r 0) (g.L1 p) (g.L2 p) = 0 := fun r => by rw [← hfl0]; exact decide_eq_true_iff
  have hM : MEq g.A g.m σ1 σ := fun c x i hx => (FC.2.2 c x i (by
    rcases hx.2 with e | ⟨j, hj, e⟩
    · rw [e]; exact s.km
    · rw [e]; exact s.kA hj) (KDi_m c (Nat.le_of_lt hx.1))).1
  have mA : ∀ {c j}, 500000 < c → j < 31 → mpl g.A g.m c (g.A j) := fun h1 h2 => ⟨h1, Or.inr ⟨_, h2, rfl⟩⟩
  have mm : ∀ {c}, 500000 < c → mpl g.A g.m c g.m := fun h1 => ⟨h1, Or.inl rfl⟩
  obtain ⟨a1, a2, a3, a4, a5, a6⟩ := diA_f (σ := σ1) (m := g.m) (A := g.A) (p := p)
  generalize hs0 : diA σ1 g.m g.A p = s0 at a1 a2 a3 a4 a5 a6
  have sM : ∀ c a x, c ≠ 510000 → mpl g.A g.m c a → c ≠ 500300 → s0.1 c a x = σ.1 c a x := fun c a x h1 h2 h3 => (a2 c a x (by have := h2.1; omega) h1 h3).trans (hM c a x h2)
  have s51 : ∀ r, r ≠ p → s0.1 510000 (g.A 0) r = σ.1 510000 (g.A 0) r := fun r hr => (a3 _ r hr).trans (hM _ _ _ (mA (by decide) (by decide)))
  have hflM : ∀ r, r < 4 → r ≠ p → (fl r = true ↔ ¬ wfR s0 g.A r p (g.L1 p).length (g.L2 p).length = 0) := fun r hr hrp => (hfl1 r).trans (R.hasCall hn hp ha hr sM (s51 r hrp))
  have dead1 : ∀ r, r < 4 → ¬ al g σ r → g.L1 r = [] ∧ g.L3 r = [] := fun r hr h9 => ⟨(R.i r hr).2.2.2.1 h9, (R.v r hr).2 h9⟩
  have len3 : ∀ r, r < 4 → (g.L1 r).length + (g.L3 r).length ≤ 57 := fun r hr => by
    by_cases z : al g σ r
    · exact R.len3 hr z
    · rw [(dead1 r hr z).1, (dead1 r hr z).2]; decide
  have len8 : ∀ r, r < 4 → (g.L3 r).length ≤ 8 := fun r hr => by
    by_cases z : al g σ r
    · exact ((R.v r hr).1 z).2.2
    · rw [(dead1 r hr z).2]; decide
  have hn2 : s0.1 740000 (g.A 23) p = nI (g.L2 p).length := (sM _ _ _ (by decide) (mA (by decide) (by decide)) (by decide)).trans (R.o p hp).2.1
  have hlp : ∀ r, r < 4 → (g.L1 r).length ≤ 57 := fun r hr => by have := len3 r hr; omega
  have IV0 : IVd g.A s0 (fun r => (g.L1 r).length) p fl 0 s0 := by
    refine ⟨⟨rfl, fun _ _ _ _ => rfl⟩, fun r hr => ?_, fun _ _ _ _ => rfl, fun r i k c hr hi => ?_⟩
    · have e : V1 p fl 0 r = [] := if_neg (by omega)
      rw [e]
      exact (sM _ _ _ (by decide) (mA (by decide) (by decide)) (by decide)).trans (R.i r hr).2.2.1
    · have e : V1 p fl 0 r = [] := if_neg (by omega)
      rw [e] at hi; cases hi
  have IV4 := IVd.end (A := g.A) (ln := fun r => (g.L1 r).length) hp hlp hflM hn2 IV0
  have wtb : ∀ {r i w}, r < 4 → al g σ r → (g.L3 r)[i]? = some w → tbW p (σ.1 520000 (g.A 1) p) (wlF g σ w) = ddW σ1 w ∧ (wlF g σ w).1 = σ.1 790000 (g.A 28) (8 * r + i) ∧ (wlF g σ w).2 = σ.1 800000 (g.A 29) (8 * r + i) ∧ ¬ (wlF g σ w).1 < 0 := fun {r i w} hr har hi => R.wtb hn hp ha hr har hi (hw7 w (s.k3 hr hi)).1 (fun m h1 h2 => (hn3 m h1 h2).1) hn1
  have al0 : ∀ r, r < 4 → (¬ σ.1 510000 (g.A 0) r = 0 ↔ al g σ r) := fun r hr => by
    unfold al
    rcases (R.p r hr).2.1 with z | z
    · rw [z]; decide
    · rw [z]; decide
  have hwl : ∀ (r j : Nat) (x : Int32 × Int32), r < 4 → ((g.L3 r).map (wlF g σ))[j]? = some x → s0.1 790000 (g.A 28) (8 * r + j) = x.1 ∧ s0.1 800000 (g.A 29) (8 * r + j) = x.2 ∧ ¬ x.1 < 0 := by
    intro r j x hr hx
    rw [List.getElem?_map] at hx
    cases e : (g.L3 r)[j]? with
    | none => rw [e] at hx; cases hx
    | some w =>
      rw [e] at hx
      have hx' : wlF g σ w = x := Option.some.inj hx
      have har : al g σ r := Classical.byContradiction (fun z => by rw [(dead1 r hr z).2] at e; cases e)
      obtain ⟨-, y2, y3, y4⟩ := wtb hr har e
      rw [← hx']
      exact ⟨(sM _ _ _ (by decide) (mA (by decide) (by decide)) (by decide)).trans y2.symm, (sM _ _ _ (by decide) (mA (by decide) (by decide)) (by decide)).trans y3.symm, y4⟩
  have JVs : ∀ {i τ}, i < 4 → JVd g.A s0 (fun r => (g.L1 r).length) p (V1 p fl 4) (fun r => (g.L3 r).map (wlF g σ)) i τ → _ := fun {i τ} hi hj => JVd.step (A := g.A) (ln := fun r => (g.L1 r).length) (V := V1 p fl 4) (wl := fun r => (g.L3 r).map (wlF g σ)) hp (fun r hr => by
      have h1 := len3 r hr
      have h2 := V1_le (p := p) (fl := fl) (i := 4) (r := r)
      rw [List.length_map]; omega) (fun r hr => by rw [List.length_map]; exact len8 r hr) (fun r hr hrp har => by
      rw [s51 r hrp] at har
      rw [List.length_map]
      exact (sM _ _ _ (by decide) (mA (by decide) (by decide)) (by decide)).trans ((R.v r hr).1 ((al0 r hr).mp har)).2.1) (fun r hr hrp har => by
      rw [s51 r hrp] at har
      have : ¬ al g σ r := fun z => (al0 r hr).mpr z har
      show (g.L3 r).map (wlF g σ) = []
      rw [(dead1 r hr this).2]; rfl) hwl hi hj
  have JV0 : JVd g.A s0 (fun r => (g.L1 r).length) p (V1 p fl 4) (fun r => (g.L3 r).map (wlF g σ)) 0 (itF (di1 g.A p (g.L1 p).length (g.L2 p).length) 4 0 s0) := by
    obtain ⟨o1, o2⟩ := IV4
    refine ⟨⟨o1.1, fun c a x hc => o1.2 c a x (fun y => hc (by revert y; unfold tl5; simp only [List.mem_cons, List.not_mem_nil, or_false]; omega))⟩, o2.cg (fun r hr => by unfold V2; rw [if_neg (by omega), List.append_nil]), fun r hr h0 => absurd h0 (Nat.not_lt_zero _), fun r hr _ => ⟨o1.2 _ _ _ (by decide), fun j hj => ⟨o1.2 _ _ _ (by decide), o1.2 _ _ _ (by decide)⟩⟩⟩
  have JV4 := itF_ind (f := di2 g.A p) (JVd g.A s0 (fun r => (g.L1 r).length) p (V1 p fl 4) (fun r => (g.L3 r).map (wlF g σ))) 4 0 _ JV0 (fun j b _ hj hb => (JVs (by omega) hb).1)
  rw [Nat.zero_add] at JV4
  refine ⟨IVd g.A s0 (fun r => (g.L1 r).length) p fl, JVd g.A s0 (fun r => (g.L1 r).length) p (V1 p fl 4) (fun r => (g.L3 r).map (wlF g σ)), gX g p L1' L3', by have := hlp p hp; omega, (R.o p hp).2.2.1, fun i τ hi hv => IVd.step (ln := fun r => (g.L1 r).length) hp hlp hflM hn2 hi hv, fun i τ hi hv => JVs hi hv, hs0 ▸ IV0, hs0 ▸ JV0, hM, ?_⟩
  unfold diS
  rw [hs0]
  generalize itF (di2 g.A p) 4 0 (itF (di1 g.A p (g.L1 p).length (g.L2 p).length) 4 0 s0) = X at JV4
  obtain ⟨x1, x2, x3, -⟩ := JV4
  generalize hT : sI (sI X 720000 (g.A 21) p 0) 740000 (g.A 23) p 0 = T
  have e520 : s0.1 520000 (g.A 1) p = σ.1 520000 (g.A 1) p := sM _ _ _ (by decide) (mA (by decide) (by decide)) (by decide)
  -- T
  have T2 : T.2 = σ1.2 := by rw [← hT]; exact x1.1.trans a1
  have tX : ∀ c a x, c ≠ 720000 → c ≠ 740000 → T.1 c a x = X.1 c a x := fun c a x h1 h2 => by rw [← hT, rII h2, rII h1]
  have tc : ∀ c a x, c ∉ ml9 → T.1 c a x = σ1.1 c a x := fun c a x hc => by
    unfold ml9 at hc
    simp only [List.mem_cons, List.not_mem_nil, or_false, not_or] at hc
    obtain ⟨c1, c2, c3, c4, c5, c6, c7, c8, c9⟩ := hc
    rw [tX c a x c4 c6, x1.2 c a x (by unfold tl5; simp only [List.mem_cons, List.not_mem_nil, or_false, not_or]; exact ⟨c4, c5, c7, c8, c9⟩), a2 c a x c1 c2 c3]
  have t51 : ∀ a i, i ≠ p → T.1 510000 a i = σ1.1 510000 a i := fun a i hi => by rw [tX _ _ _ (by decide) (by decide), x1.2 _ _ _ (by decide), a3 a i hi]
  have t51p : T.1 510000 (g.A 0) p = 0 := by rw [tX _ _ _ (by decide) (by decide), x1.2 _ _ _ (by decide), a4]
  have t74 : ∀ a i, i ≠ p → T.1 740000 a i = σ1.1 740000 a i := fun a i hi => by
    rw [← hT]
    have : (sI (sI X 720000 (g.A 21) p 0) 740000 (g.A 23) p 0).1 740000 a i = (sI X 720000 (g.A 21) p 0).1 740000 a i := by simp [sI, hi]
    rw [this, rII (by decide), x1.2 _ _ _ (by decide), a2 _ _ _ (by decide) (by decide) (by decide)]
  have t74p : T.1 740000 (g.A 23) p = 0 := by rw [← hT]; exact rIs
  have t72p : T.1 720000 (g.A 21) p = 0 := by rw [← hT, rII (by decide)]; exact rIs
  have t72 : ∀ r, r ≠ p → T.1 720000 (g.A 21) r = X.1 720000 (g.A 21) r := fun r hr => by rw [← hT, rII (by decide), rIx hr]
  have FT : Fr KT9 JDi σ T := by
    refine ⟨fun x hx => by rw [T2]; exact FC.1 x hx, fun x h0 h1 => ?_, fun c x i hx hk => ?_⟩
    · rw [T2] at h1 ⊢; exact FC.2.1 x h0 h1
    · unfold KT9 at hk
      rw [Bool.or_eq_false_iff] at hk
      have q := FC.2.2 c x i hx hk.1
      refine ⟨(tc c x i (fun y => ?_)).trans q.1, by rw [T2]; exact q.2⟩
      rw [List.contains_iff_mem.mpr y] at hk; exact absurd hk.2 (by decide)
  have FPT : ∀ r, r ≠ p → FrP g r KT7 JDi σ T := by
    intro r hr
    have F := FP r hr
    refine ⟨FT.1, FT.2.1, fun c x i hx hk hz => ?_⟩
    unfold KT7 at hk
    rw [Bool.or_eq_false_iff] at hk
    have q := F.2.2 c x i hx hk.1 hz
    have m7 : c ∉ ml7 := fun y => by rw [List.contains_iff_mem.mpr y] at hk; exact absurd hk.2 (by decide)
    refine ⟨?_, by rw [T2]; exact q.2⟩
    rw [← q.1]
    by_cases c1 : c = 510000
    · rw [c1] at hz ⊢
      have : i / 1 = r := hz.2 (by decide)
      exact t51 x i (by omega)
    · by_cases c2 : c = 740000
      · rw [c2] at hz ⊢
        have : i / 1 = r := hz.2 (by decide)
        exact t74 x i (by omega)
      · exact tc c x i (fun y => m7 (by revert y; unfold ml9 ml7; simp only [List.mem_cons, List.not_mem_nil, or_false]; omega))
  have FQ : ∀ r, r ≠ p → FrP g r KQ7 JDi σ (ndR σ T) := by
    intro r hr
    have F := FPT r hr
    refine ⟨FT.1, FT.2.1, fun c x i hx hk hz => ?_⟩
    by_cases c1 : c = 30200 ∨ c = 30406 ∨ c = 30506
    · exact ⟨if_pos c1, if_pos c1⟩
    · have q := F.2.2 c x i hx (by
        unfold KQ7 at hk
        unfold KT7 KDx
        simp only [Bool.or_eq_false_iff, beq_eq_false_iff_ne] at hk ⊢
        refine ⟨⟨?_, hk.1.2⟩, hk.2⟩
        have := hk.1.1
        cases e : [10103, 30200, 30406, 30506].contains c with
        | false => rfl
        | true =>
          have := List.contains_iff_mem.mp e
          simp only [List.mem_cons, List.not_mem_nil, or_false] at this
          omega) hz
      exact ⟨(if_neg c1).trans q.1, (if_neg c1).trans q.2⟩
  have dd : ¬ al g T p := by unfold al; rw [t51p]; decide
  have alT : ∀ r, r ≠ p → (al g T r ↔ al g σ r) := fun r hr => al.frp s (FPT r hr) (by decide)
  have T1c : ∀ {c a x}, c ∉ ml9 → T.1 c a x = σ1.1 c a x := fun h9 => tc _ _ _ h9
  have k3T : ∀ a, T.2.2.2 a = 3 → σ.2.2.2 a = 3 := by
    intro a h9
    by_cases z : σ.2.2.2 a = 0
    · have := FT.2.1 a z (by rw [h9]; decide)
      rw [h9] at this; exact absurd this (by decide)
    · rw [← FT.1 a z]; exact h9
  -- nodes
  have own : ∀ a o, σ.2.2.2 a = 3 → σ.1 30000 a 0 = nI o → o < 4 → o ≠ p → ∀ k, k < 10 → σ.2.1 110003 (g.D p 1) k ≠ some a := by
    intro a o h3 h4 h5 h6 k hk e
    obtain ⟨w, o', k', e1, e2, e3, e4, e5, -⟩ := R.no.1 a h3
    have : o' = o := (nI_eq (by omega) (by omega)).mp (e5.symm.trans h4)
    rcases R.no.2.2 p k hp hk with ⟨z, -⟩ | ⟨a', q1, q2, q3, q4, q5⟩
    · rw [z] at e; cases e
    · rw [q1] at e; cases e
      omega
  have nsame : ∀ a o, σ.2.2.2 a = 3 → σ.1 30000 a 0 = nI o → o < 4 → o ≠ p → T.1 30200 a 0 = σ.1 30200 a 0 ∧ T.2.1 30406 a 0 = σ.2.1 30406 a 0 ∧ T.2.1 30506 a 0 = σ.2.1 30506 a 0 := by
    intro a o h3 h4 h5 h6
    obtain ⟨y1, y2, y3⟩ := hn3 a h3 (own a o h3 h4 h5 h6)
    rw [T1c (by decide), T2]; exact ⟨y1, y2, y3⟩
  have ndead : ∀ a, σ.2.2.2 a = 3 → σ.1 30000 a 0 = nI p → T.1 30200 a 0 = 1 := by
    intro a h3 h4
    obtain ⟨w, o, k, e1, e2, e3, e4, e5, e6, e7⟩ := R.no.1 a h3
    have : o = p := (nI_eq (by omega) (by omega)).mp (e5.symm.trans h4)
    subst this
    rw [T1c (by decide)]
    rcases e7 with ⟨f1, f2, f3, f4⟩ | ⟨f1, f2⟩
    · exact hn1 k a e3 f4
    · rw [(hn3 a h3 (fun k' hk' e => ?_)).1]; exact f1
      rcases R.no.2.2 o k' hp hk' with ⟨z, -⟩ | ⟨a', q1, q2, q3, q4, q5⟩
      · rw [z] at e; cases e
      · rw [q1] at e; cases e
        rw [q5] at f1; exact absurd f1 (by decide)
  have n30 : ∀ {a}, σ.2.2.2 a = 3 → T.1 30000 a 0 = σ.1 30000 a 0 ∧ T.1 30100 a 0 = σ.1 30100 a 0 := fun {a} h3 => ⟨(FT.2.2 _ _ _ (by rw [h3]; decide) (by decide)).1, (FT.2.2 _ _ _ (by rw [h3]; decide) (by decide)).1⟩
  have zvT : ZV g p T := by
    obtain ⟨v1, v2, v3, v4, v5, v6, v7, v8, v9, v10, v11⟩ := zv
    unfold ZV
    rw [T2]
    exact ⟨fun h9 h1 h2 => ⟨(v1 h9 h1 h2).1, (T1c (by decide)).trans (v1 h9 h1 h2).2.1, (T1c (by decide)).trans (v1 h9 h1 h2).2.2⟩, (T1c (by decide)).trans v2, v3, (T1c (by decide)).trans v4, (T1c (by decide)).trans v5, (T1c (by decide)).trans v6, (T1c (by decide)).trans v7, (T1c (by decide)).trans v8, v9, (T1c (by decide)).trans v10, v11⟩
  obtain ⟨v1, v2, v3, v4, v5, v6, v7, v8, v9, v10, v11⟩ := zvT
  have hwT : WF T := by intro c a x b hb hc; rw [T2] at hb ⊢; exact hw' c a x b hb hc
  have hLL : ∀ {k ka tk : Nat} {ad : Nat → Nat} {L : Nat → List Nat} {AR : Nat → Nat}, LLx E k ka tk ad L AR σ1 → 10000 * k + 200 < 500000 → 10000 * ka + 9900 < 500000 → LLx E k ka tk ad L AR T := fun {k ka tk ad L AR} hl h1 h2 => hl.cg (by rw [T2]) (fun x i => tc _ _ _ (fun y => by unfold ml9 at y; simp only [List.mem_cons, List.not_mem_nil, or_false] at y; omega)) (fun x i => tc _ _ _ (fun y => by unfold ml9 at y; simp only [List.mem_cons, List.not_mem_nil, or_false] at y; omega)) (fun x i => by rw [T2]) (fun x i => by rw [T2])
  have sT : RS E (gX g p L1' L3') T := s.fr FT hwT (by decide) (by decide) (by decide) rfl rfl rfl rfl rfl ⟨AR1, hLL hl1 (by decide) (by decide)⟩ ⟨AR2, hLL hl2 (by decide) (by decide)⟩ ⟨AR3, hLL hl3 (by decide) (by decide)⟩
  -- the works
  have CWT : ∀ r, r < 4 → r ≠ p → ∃ W, L1' r = g.L1 r ++ W ∧ W.length = (V2F p σ1 fl g.L3 r).length ∧ ∀ (i w : Nat), W[i]? = some w → ∃ k c, (V2F p σ1 fl g.L3 r)[i]? = some (k, c) ∧ T.2.2.2 w = 5 ∧ T.1 50000 w 0 = k ∧ T.2.1 50106 w 0 = none ∧ T.1 50200 w 0 = c := by
    intro r hr hrp
    obtain ⟨W, h1, h2, h3⟩ := CW r hr hrp
    refine ⟨W, h1, h2, fun i w hi => ?_⟩
    obtain ⟨k, c, e1, e2, e3, e4, e5⟩ := h3 i w hi
    exact ⟨k, c, e1, by rw [T2]; exact e2, (T1c (by decide)).trans e3, by rw [T2]; exact e4, (T1c (by decide)).trans e5⟩
  have dk : ∀ r, r < 4 → r ≠ p → dtW p (s0.1 520000 (g.A 1) p) ((g.L3 r).map (wlF g σ)) = dthC σ1 (g.L3 r) ∧ kpW p (s0.1 520000 (g.A 1) p) ((g.L3 r).map (wlF g σ)) = (L3' r).map (wlF g σ) := by
    intro r hr hrp
    rw [e520]
    have q := dk_map (p := p) (l := σ.1 520000 (g.A 1) p) (f := wlF g σ) (d := ddW σ1) (g.L3 r) (fun w hw => by
      obtain ⟨i, hi⟩ := List.getElem?_of_mem hw
      have har : al g σ r := Classical.byContradiction (fun z => by rw [(dead1 r hr z).2] at hw; cases hw)
      exact (wtb hr har hi).1)
    rw [hL3 r hr hrp]
    refine ⟨q.1.trans ?_, q.2⟩
    unfold dthC
    refine List.map_congr_left (fun w hw => ?_)
    obtain ⟨i, hi⟩ := List.getElem?_of_mem (List.mem_filter.mp hw).1
    show (4, σ.1 70100 w 0) = _
    rw [(hw7 w (s.k3 hr hi)).2]
  have V2e : ∀ r, r < 4 → r ≠ p → V2 p (s0.1 520000 (g.A 1) p) (V1 p fl 4) (fun r => (g.L3 r).map (wlF g σ)) 4 r = V2F p σ1 fl g.L3 r := by
    intro r hr hrp
    unfold V2 V2F
    rw [if_pos ⟨hr, hrp⟩, (dk r hr hrp).1]
  have lens : ∀ r, r < 4 → r ≠ p → (dthC σ1 (g.L3 r)).length + (L3' r).length = (g.L3 r).length := by
    intro r hr hrp
    have := flt_len (d := ddW σ1) (g.L3 r)
    rw [hL3 r hr hrp]
    unfold dthC kpC
    rw [List.length_map]; exact this
  have fl0 : ∀ r, r < 4 → r ≠ p → ¬ al g σ r → V2F p σ1 fl g.L3 r = [] := by
    intro r hr hrp z
    unfold V2F
    rw [(dead1 r hr z).2]
    have : ¬ fl r = true := fun y => by
      have y2 := (hfl1 r).mp y
      obtain ⟨p1, p2, -⟩ := R.p r hr
      have z0 : σ.1 510000 (g.A 0) r = 0 := Classical.byContradiction (fun q => z ((al0 r hr).mp q))
      have y3 := (R.hasCall hn hp ha hr (s0 := σ) (fun _ _ _ _ _ _ => rfl) rfl).mp y2
      refine y3 ?_
      unfold wfR
      rw [z0]; simp
    unfold V1
    rw [if_neg (fun y => this y.2.2)]; rfl
  have rows : ∀ r, r < 4 → r ≠ p → T.1 720000 (g.A 21) r = nI (L1' r).length ∧ (L1' r).length ≤ 64 := by
    intro r hr hrp
    obtain ⟨W, h1, h2, -⟩ := CWT r hr hrp
    have h3 := x2.1 r hr
    rw [V2e r hr hrp] at h3
    rw [t72 r hrp, h3, h1, List.length_append, h2]
    refine ⟨rfl, ?_⟩
    have l1 := len3 r hr
    have l2 := V1_le (p := p) (fl := fl) (i := 4) (r := r)
    have l3 := lens r hr hrp
    unfold V2F
    rw [List.length_append]
    omega
  have t73 : ∀ i, T.1 730000 (g.A 22) i = X.1 730000 (g.A 22) i := fun i => tX _ _ _ (by decide) (by decide)
  have iT : ∀ r, r < 4 → RI (gX g p L1' L3') r T := by
    intro r hr
    by_cases e : r = p
    · subst e
      have eL : (gX g r L1' L3').L1 r = [] := z1
      unfold RI
      rw [eL]
      refine ⟨(fun i w hi => by cases hi), (fun i i' w w' m hi => by cases hi), ?_, fun _ => rfl, by decide⟩
      show T.1 720000 (g.A 21) r = nI 0
      rw [t72p]; rfl
    · obtain ⟨W, c1, c2, c3⟩ := CWT r hr e
      have eL : (gX g p L1' L3').L1 r = g.L1 r ++ W := c1
      obtain ⟨h1, h2, h3, h4, h5⟩ := R.i r hr
      have em : ∀ i w, (g.L1 r)[i]? = some w → T.2.1 50106 w 0 = σ.2.1 50106 w 0 := fun i w hi => ((FPT r e).o s (s.k1 hr hi) (by decide) (by decide) (by decide)).2
      have sp : ∀ i w, (g.L1 r ++ W)[i]? = some w → (i < (g.L1 r).length ∧ (g.L1 r)[i]? = some w) ∨ ((g.L1 r).length ≤ i ∧ W[i - (g.L1 r).length]? = some w) := fun i w hi => by
        by_cases z : i < (g.L1 r).length
        · rw [List.getElem?_append_left z] at hi; exact Or.inl ⟨z, hi⟩
        · rw [List.getElem?_append_right (by omega)] at hi; exact Or.inr ⟨by omega, hi⟩
      have V2r := V2e r hr e
      unfold RI
      rw [eL]
      refine ⟨fun i w hi => ?_, fun i i' w w' m hi hi' hm hm' => ?_, ?_, fun z => ?_, ?_⟩
      · rcases sp i w hi with ⟨il, hj⟩ | ⟨il, hj⟩
        · exact show InR g r i w T from (h1 i w hj).mv (s.k1 hr hj) s (FPT r e) (fun j hj' => by
            rw [t73, show 384 * r + 6 * i + j = 384 * r + (6 * i + j) from by omega, x2.2.1 r (6 * i + j) hr (show 6 * i + j < 6 * (g.L1 r).length by omega)]
            exact sM _ _ _ (by decide) (mA (by decide) (by decide)) (by decide)) (by decide) (fun c m hc hm _ => ⟨by rw [((FPT r e).d s hr (by decide) (by decide) (by decide)).2]; exact hm, by
            obtain ⟨b1, b2⟩ := RBn.of R.a r c m hr hc hm
            exact (FPT r e).a s (by decide) (by decide) (by decide) (by show g.B m / 64 = r; omega)⟩)
        · obtain ⟨k, c, f1, f2, f3, f4, f5⟩ := c3 _ w hj
          rw [← V2r] at f1
          obtain ⟨r1, r2, r3, r4, r5⟩ := x2.2.2 r _ k c hr f1
          have ei : 384 * r + 6 * ((g.L1 r).length + (i - (g.L1 r).length)) = 384 * r + 6 * i := by omega
          dsimp only at r1 r2 r3 r4 r5
          rw [ei] at r1 r2 r3 r4 r5
          have hk45 : k = 4 ∨ k = 5 := by
            rw [V2r] at f1
            unfold V2F at f1
            have hm := List.mem_of_getElem? f1
            rcases List.mem_append.mp hm with hm | hm
            · right
              unfold V1 at hm
              split at hm
              · exact (Prod.mk.inj (List.mem_singleton.mp hm)).1
              · cases hm
            · left; exact dth_k hm
          show InR g r i w T
          refine ⟨by rw [f3, t73]; exact r1.symm, by rw [f5, t73]; exact r5.symm, Or.inl ⟨f4, by rw [t73, r1]; exact hk45, by rw [t73]; exact r2, by rw [t73]; exact r3, by rw [t73]; exact r4⟩⟩
      · rcases sp i w hi with ⟨il, hj⟩ | ⟨il, hj⟩
        · rcases sp i' w' hi' with ⟨il', hj'⟩ | ⟨il', hj'⟩
          · rw [em i w hj] at hm
            rw [em i' w' hj'] at hm'
            exact h2 i i' w w' m hj hj' hm hm'
          · obtain ⟨k, c, f1, f2, f3, f4, f5⟩ := c3 _ w' hj'
            rw [f4] at hm'; cases hm'
        · obtain ⟨k, c, f1, f2, f3, f4, f5⟩ := c3 _ w hj
          rw [f4] at hm; cases hm
      · rw [← c1]; exact (rows r hr e).1
      · have z' : ¬ al g σ r := fun y => z ((alT r e).mpr y)
        rw [fl0 r hr e z'] at c2
        rw [(dead1 r hr z').1, List.eq_nil_of_length_eq_zero c2]; rfl
      · rw [← c1]; exact (rows r hr e).2
  have cnt : ∀ r, r < 4 → r ≠ p → ∀ (P : Int32 → Bool), (L1' r).countP (fun w => P (T.1 50000 w 0)) = (g.L1 r).countP (fun w => P (σ.1 50000 w 0)) + ((if P 5 = true then (V1 p fl 4 r).length else 0) + (if P 4 = true then (dthC σ1 (g.L3 r)).length else 0)) := by
    intro r hr hrp P
    obtain ⟨W, c1, c2, c3⟩ := CWT r hr hrp
    rw [c1, List.countP_append, cnt_map (P := P) c2 (fun i w hi => by obtain ⟨k, c, f1, f2, f3, -⟩ := c3 i w hi; exact ⟨k, c, f1, f3⟩)]
    unfold V2F
    rw [List.countP_append, V1_c, countP_cong (l := g.L1 r) (P := fun w => P (T.1 50000 w 0)) (Q := fun w => P (σ.1 50000 w 0)) (fun w hw => by rw [((FPT r hrp).o s (s.m1 hr hw) (by decide) (by decide) (by decide)).1])]
    by_cases c : P 4 = true
    · rw [if_pos c, dth_c1 c]
    · rw [if_neg c, dth_c0 (by cases e : P 4 <;> simp_all)]
  have vT : ∀ r, r < 4 → RV (gX g p L1' L3') r T := by
    intro r hr
    by_cases e : r = p
    · subst e
      exact ⟨fun z => absurd z dd, fun _ => z3⟩
    · refine ⟨fun z => ?_, fun z => ?_⟩
      · have z' : al g σ r := (alT r e).mp z
        obtain ⟨y1, y2⟩ := x3 r hr hr e (by rw [s51 r e]; exact (al0 r hr).mpr z')
        rw [(dk r hr e).2] at y1 y2
        rw [List.length_map] at y1
        refine ⟨fun i w hi => ?_, ?_, ?_⟩
        · have hi' : (L3' r)[i]? = some w := hi
          have hmem : w ∈ g.L3 r ∧ ddW σ1 w = false := by
            have hm := List.mem_of_getElem? hi'
            rw [hL3 r hr e] at hm
            have := List.mem_filter.mp hm
            exact ⟨this.1, by have := this.2; cases e9 : ddW σ1 w <;> simp_all⟩
          obtain ⟨j, hj⟩ := List.getElem?_of_mem hmem.1
          obtain ⟨a, q1, q2, q3, q4⟩ := ((R.v r hr).1 z').1 j w hj
          have w7 := s.k3 hr hj
          obtain ⟨u1, u2⟩ := hw7 w w7
          obtain ⟨t1, t2⟩ := y2 i (wlF g σ w) (by rw [List.getElem?_map, hi']; rfl)
          have ewl : wlF g σ w = (nI (g.N a), σ.1 70100 w 0) := by unfold wlF; rw [q1]; rfl
          refine ⟨a, by rw [T2, u1]; exact q1, ?_, ?_, ?_⟩
          · rw [T1c (by decide)]
            have hd := hmem.2
            unfold ddW at hd
            rw [u1, q1] at hd
            simpa using hd
          · show T.1 790000 (g.A 28) (8 * r + i) = nI (g.N a)
            rw [tX _ _ _ (by decide) (by decide), t1, ewl]
          · show T.1 70100 w 0 = T.1 800000 (g.A 29) (8 * r + i)
            rw [T1c (by decide), u2, tX _ _ _ (by decide) (by decide), t2, ewl]
        · show T.1 780000 (g.A 27) r = nI (L3' r).length
          rw [tX _ _ _ (by decide) (by decide)]; exact y1
        · show (L3' r).length ≤ 8
          have l1 := lens r hr e
          have l2 := len8 r hr
          omega
      · have z' : ¬ al g σ r := fun y => z ((alT r e).mpr y)
        show L3' r = []
        rw [hL3 r hr e, (dead1 r hr z').2]; rfl
  have aT : ∀ r, r < 4 → RA g r T := by
    intro r hr
    by_cases e : r = p
    · subst e
      exact ⟨fun z => absurd z dd, fun _ => ⟨v3, v4, v5⟩⟩
    · refine RA.nd (σ := σ) ((R.a r hr).fr hr s (FQ r e) (by decide) (by decide)) hwT (fun a h3 h4 => ?_)
      have h3' := k3T a h3
      rw [(n30 h3').1] at h4
      exact (nsame a r h3' h4 hr e).1
  have noT : RNo g T := by
    obtain ⟨h1, h2, h3⟩ := R.no
    refine ⟨fun a h9 => ?_, fun a b q1 q2 => h2 a b (k3T a q1) (k3T b q2), fun q k hq hk => ?_⟩
    · have h3' := k3T a h9
      obtain ⟨w, o, k, e1, e2, e3, e4, e5, e6, e7⟩ := h1 a h3'
      refine ⟨w, o, k, e1, e2, e3, e4, by rw [(n30 h3').1]; exact e5, by rw [(n30 h3').2]; exact e6, ?_⟩
      by_cases e : o = p
      · subst e
        exact Or.inr ⟨ndead a h3' e5, fun y => dd y.2⟩
      · rw [(nsame a o h3' e5 e2 e).1, alT o e, ((FPT o e).d s e2 (by decide) (by decide) (by decide)).2]
        exact e7
    · by_cases e : q = p
      · subst e
        exact Or.inl ⟨v11 k hk, fun y => absurd y dd⟩
      · rw [((FPT q e).d s hq (by decide) (by decide) (by decide)).2, alT q e, (FPT q e).a s (by decide) (by decide) (by decide) (by show (10 * q + k) / 10 = q; omega)]
        rcases h3 q k hq hk with z | ⟨a, q1, q2, q3, q4, q5⟩
        · exact Or.inl z
        · refine Or.inr ⟨a, q1, q2, q3, q4, ?_⟩
          have ka := s.wf _ _ _ _ q1 (by decide)
          obtain ⟨w, o, k', e1, e2, e3, e4, e5, -⟩ := h1 a ka
          have : o = q := by omega
          subst this
          rw [(nsame a o ka e5 e2 e).1]; exact q5
  have mgT : RMg g T := by
    obtain ⟨m1, m2⟩ := R.mg
    have e3 : T.1 500300 g.m 0 = s0.1 500300 g.m 0 := by rw [tX _ _ _ (by decide) (by decide), x1.2 _ _ _ (by decide)]
    have e4 : σ1.1 500300 g.m 0 = σ.1 500300 g.m 0 := hM _ _ _ (mm (by decide))
    unfold RMg
    rw [T2, e3, a6, e4, hmg]
    rcases m1 with ⟨c1, c2⟩ | ⟨a, c1, c2⟩
    · rw [c1, c2, if_pos (by decide)]
      exact ⟨Or.inl ⟨rfl, rfl⟩, fun a h9 => by cases h9⟩
    · have ka := s.wf _ _ _ _ c1 (by decide)
      have hb := R.no.ok R.p (by omega) ka
      obtain ⟨q1, -, -, q4⟩ := R.no.m R.p (by omega) ka
      rw [c1, c2, if_neg (lt0_nI (by omega))]
      dsimp only
      rw [q1]
      by_cases z : nI (pOf (nI (g.N a))) = nI p
      · rw [if_pos z, if_pos z]
        exact ⟨Or.inl ⟨rfl, rfl⟩, fun a h9 => by cases h9⟩
      · rw [if_neg z, if_neg z]
        refine ⟨Or.inr ⟨a, rfl, rfl⟩, fun b h9 => ?_⟩
        cases h9
        have hlt : pOf (nI (g.N a)) < 4 := by rw [q4]; omega
        rw [(nsame a _ ka q1 hlt (fun y => z (by rw [y]))).1]
        exact m2 a c1
  have qT : RQ g T := by
    refine ⟨fun a o h9 h1 ho h2 => ?_, fun r c m hr h1 hc hm hs => ?_⟩
    · have h3' := k3T a h9
      rw [(n30 h3').1] at h2
      have hop : o ≠ p := fun y => by
        subst y
        rw [ndead a h3' h2] at h1; exact absurd h1 (by decide)
      obtain ⟨y1, y2, y3⟩ := nsame a o h3' h2 ho hop
      rw [y1] at h1
      have q := (R.q.1 a o h3' h1 ho h2).fr h3' ho s (fun c m => RBn.of R.a o c m ho) (FQ o hop) (by decide)
      obtain ⟨b1, b2, b3, b4, b5, b6, b7⟩ := q
      refine ⟨?_, ?_, b3, b4, b5, b6, b7⟩
      · rw [y2]; exact b1
      · rw [y3]; exact b2
    · have hrp : r ≠ p := fun y => by subst y; exact dd h1
      have h1' := (alT r hrp).mp h1
      rw [((FPT r hrp).d s hr (by decide) (by decide) (by decide)).2] at hm
      obtain ⟨b1, b2⟩ := RBn.of R.a r c m hr hc hm
      rw [(FPT r hrp).a s (by decide) (by decide) (by decide) (by show g.B m / 64 = r; omega)] at hs
      rw [((FPT r hrp).o s (s.wf _ _ _ _ hm (by decide)) (by decide) (by decide) (by decide)).1]
      exact R.q.2 r c m hr h1' hc hm hs
  have cT : RC (gX g p L1' L3') T := by
    intro q hq h1
    have hqp : q ≠ p := fun y => by subst y; exact dd h1
    have h1' := (alT q hqp).mp h1
    have e0 := R.c q hq h1'
    show outN (gX g p L1' L3') T q ≤ if T.1 770000 (g.A 26) q = 0 then 0 else 1
    rw [(FPT q hqp).a s (by decide) (by decide) (by decide) (by show q / 1 = q; omega)]
    have oP : ∀ r, r < 4 → outP (gX g p L1' L3') T q r = if r = p then 0 else outP g σ q r := by
      intro r hr
      unfold outP
      by_cases e : r = p
      · rw [if_pos e, e]
        rw [show (gX g p L1' L3').L1 p = [] from z1, show (gX g p L1' L3').L2 p = [] from upL_s]; rfl
      · rw [if_neg e]
        obtain ⟨W, c1, c2, c3⟩ := CWT r hr e
        rw [show (gX g p L1' L3').L1 r = g.L1 r ++ W from c1, show (gX g p L1' L3').L2 r = g.L2 r from upL_n e, List.countP_append]
        show (g.L1 r).countP (oW T q (g.lv q)) + W.countP (oW T q (g.lv q)) + (g.L2 r).countP (oM T q (g.lv q)) = _
        have w0 : W.countP (oW T q (g.lv q)) = 0 := by
          rw [List.countP_eq_zero]
          intro w hw
          obtain ⟨i, hi⟩ := List.getElem?_of_mem hw
          obtain ⟨k, c, f1, f2, f3, f4, f5⟩ := c3 i w hi
          unfold oW
          rw [f4]; simp
        rw [w0, countP_cong (l := g.L1 r) (P := oW T q (g.lv q)) (Q := oW σ q (g.lv q)) (fun w hw => oW.fr s (FPT q hqp) (s.m1 hr hw) (by decide)), countP_cong (l := g.L2 r) (P := oM T q (g.lv q)) (Q := oM σ q (g.lv q)) (fun m hm => oM.fr s (FPT q hqp) (s.m2 hr hm) (by decide) (by decide))]
        rfl
    have rr := cnt q hq hqp (fun k => k == 3 || k == 5)
    have rr1 : ((gX g p L1' L3').L1 q).countP (rW T) = (g.L1 q).countP (rW σ) + (V1 p fl 4 q).length := by
      have e5 : (if ((5 : Int32) == 3 || (5 : Int32) == 5) = true then (V1 p fl 4 q).length else 0) = (V1 p fl 4 q).length := if_pos (by decide)
      have e4 : (if ((4 : Int32) == 3 || (4 : Int32) == 5) = true then (dthC σ1 (g.L3 q)).length else 0) = 0 := if_neg (by decide)
      rw [e5, e4, Nat.add_zero] at rr
      exact rr
    have hv : (V1 p fl 4 q).length ≤ outP g σ q p := by
      unfold V1
      split
      · rename_i y
        exact R.hcOut hq h1' ((hfl1 q).mp y.2.2)
      · exact Nat.zero_le _
    unfold outN at e0 ⊢
    rw [oP 0 (by decide), oP 1 (by decide), oP 2 (by decide), oP 3 (by decide), rr1]
    have hp4 : p = 0 ∨ p = 1 ∨ p = 2 ∨ p = 3 := by omega
    refine Nat.le_trans ?_ e0
    rcases hp4 with e | e | e | e <;> simp only [e] at hv ⊢ <;> simp <;> omega
  have bT : RB (gX g p L1' L3') T := by
    intro q hq h1
    have hqp : q ≠ p := fun y => by subst y; exact dd h1
    have h1' := (alT q hqp).mp h1
    have e0 := R.b q hq h1'
    show (L1' q).countP (fun w => !(T.1 50000 w 0 == 2)) + (L3' q).length ≤ 24 + (L1' q).countP (fun w => T.1 50000 w 0 == 5)
    rw [cnt q hq hqp (fun k => !(k == 2)), cnt q hq hqp (fun k => k == 5)]
    have l1 := lens q hq hqp
    have e5 : (if (!((5 : Int32) == 2)) = true then (V1 p fl 4 q).length else 0) = (V1 p fl 4 q).length := if_pos (by decide)
    have e4 : (if (!((4 : Int32) == 2)) = true then (dthC σ1 (g.L3 q)).length else 0) = (dthC σ1 (g.L3 q)).length := if_pos (by decide)
    have e55 : (if ((5 : Int32) == 5) = true then (V1 p fl 4 q).length else 0) = (V1 p fl 4 q).length := if_pos (by decide)
    have e45 : (if ((4 : Int32) == 5) = true then (dthC σ1 (g.L3 q)).length else 0) = 0 := if_neg (by decide)
    rw [e5, e4, e55, e45]
    omega
  have t50 : T.1 500000 g.m 0 = 0 := by rw [tX _ _ _ (by decide) (by decide), x1.2 _ _ _ (by decide), a5]
  have RT : RR E (gX g p L1' L3') n T :=
    RR.mk
      (s := sT)
      (p := fun r hr => by
        obtain ⟨p1, p2, p3, p4, p5⟩ := R.p r hr
        by_cases e : r = p
        · subst e
          refine ⟨v10.trans t51p.symm, Or.inl t51p, ?_, ?_, p5⟩
          · show T.1 20900 (g.D r 0) 0 = nI (g.lv r)
            rw [(FT.2.2 _ _ _ (s.kD hr (by decide)) (by decide)).1]; exact p3
          · show T.1 520000 (g.A 1) r = nI (g.lv r)
            rw [(FT.2.2 _ _ _ (s.kA (by decide)) (by decide)).1]; exact p4
        · show T.1 20800 (g.D r 0) 0 = T.1 510000 (g.A 0) r ∧ (T.1 510000 (g.A 0) r = 0 ∨ T.1 510000 (g.A 0) r = 1) ∧ T.1 20900 (g.D r 0) 0 = nI (g.lv r) ∧ T.1 520000 (g.A 1) r = nI (g.lv r) ∧ g.lv r ≤ n
          rw [((FPT r e).d s hr (by decide) (by decide) (by decide)).1, ((FPT r e).d s hr (by decide) (by decide) (by decide)).1, (FPT r e).a s (by decide) (by decide) (by decide) (by show r / 1 = r; omega), (FPT r e).a s (by decide) (by decide) (by decide) (by show r / 1 = r; omega)]
          exact ⟨p1, p2, p3, p4, p5⟩)
      (no := noT)
      (mg := mgT)
      (h := fun r hr => by
        by_cases e : r = p
        · subst e; exact ⟨fun z => absurd z dd, fun _ => ⟨v1, v2⟩⟩
        · exact show RH g n r T from (R.h r hr).fr hr s (FPT r e) (by decide))
      (d := fun r hr => by
        by_cases e : r = p
        · subst e
          obtain ⟨k, z, d1, d2, d3, d4, d5, d6⟩ := R.d r hr
          exact ⟨k, z, d1, d2, by rw [← d3]; exact (FT.2.2 _ _ _ (s.kA (by decide)) (by decide)).1, by rw [← d4]; exact (FT.2.2 _ _ _ (s.kA (by decide)) (by decide)).1, fun z => absurd z dd, fun _ => ⟨v6, v7⟩⟩
        · exact show RD g r T from (R.d r hr).fr hr s (FPT r e) (by decide))
      (a := aT)
      (i := iT)
      (o := fun r hr => by
        by_cases e : r = p
        · subst e
          have eL : (gX g r L1' L3').L2 r = [] := upL_s
          unfold RO
          rw [eL]
          exact ⟨(fun i m hi => by cases hi), t74p, by decide, fun _ => rfl⟩
        · have h9 := (R.o r hr).fr hr s (FPT r e) (by decide)
          unfold RO at h9 ⊢
          rw [show (gX g p L1' L3').L2 r = g.L2 r from upL_n e]; exact h9)
      (v := vT)
      (l := fun r hr => by
        by_cases e : r = p
        · subst e; exact ⟨fun z => absurd z dd, fun _ => ⟨v9, v8⟩⟩
        · exact show RL g r T from (R.l r hr).fr hr s (FPT r e) (by decide) (by decide))
      (q := qT)
      (c := cT)
      (b := bT)
      (t := by obtain ⟨T9, t1, t2⟩ := R.t; exact ⟨T9, by show T.1 502300 g.m 0 = _; rw [(FT.2.2 _ _ _ s.km (by decide)).1]; exact t1, t2⟩)
  exact ⟨RT.mono (Nat.le_succ n), t50, rfl, rfl, rfl⟩
end DIS
