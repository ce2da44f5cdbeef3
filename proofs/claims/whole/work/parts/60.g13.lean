section FRM
variable {E : FE} {g : Gh} {σ σ' : Sg} {K J : Nat → Bool} {n n' : Nat}
theorem NR.gh {N N' : Nat → Nat} {o : Option Nat} {x : Int32} (h : NR N o x) (e : ∀ a, o = some a → N' a = N a) : NR N' o x := by
  rcases h with h | ⟨a, h1, h2⟩
  · exact Or.inl h
  · exact Or.inr ⟨a, h1, by rw [e a h1]; exact h2⟩
/-- other names for what is not there yet -/
theorem RR.gh {N' B' : Nat → Nat} {Q' : Nat → List Nat} (R : RR E g n σ) (hN : ∀ a, σ.2.2.2 a = 3 → N' a = g.N a ∧ Q' a = g.Q a) (hB : ∀ m, σ.2.2.2 m = 6 → B' m = g.B m) : RR E (Gh.mk g.x g.a0 g.m g.D g.A (N') (B') (Q') g.L1 g.L2 g.L3 g.lv) n σ := by
  have w := R.s.wf
  have k6 : ∀ {p c m}, σ.2.1 150006 (g.D p 7) c = some m → B' m = g.B m := fun hm => hB _ (w _ _ _ _ hm (by decide))
  exact
  RR.mk
    (s := RS.mk
            (wf := R.s.wf)
            (mo := R.s.mo)
            (sh := R.s.sh)
            (dj := R.s.dj)
            (x1 := R.s.x1)
            (x2 := R.s.x2)
            (x3 := R.s.x3)
            (nm := R.s.nm)
            (l1 := R.s.l1)
            (l2 := R.s.l2)
            (l3 := R.s.l3))
    (p := R.p)
    (no := by
      obtain ⟨h1, h2, h3⟩ := R.no
      refine ⟨fun a ha => ?_, fun a b ha hb => ?_, fun p k hp hk => ?_⟩
      · show ∃ w o k, N' a = _ ∧ _
        rw [(hN a ha).1]; exact h1 a ha
      · show N' a = N' b → _
        rw [(hN a ha).1, (hN b hb).1]; exact h2 a b ha hb
      · rcases h3 p k hp hk with q | ⟨a, q1, q2, q3, q4⟩
        · exact Or.inl q
        · exact Or.inr ⟨a, q1, q2, by show N' a = _; rw [(hN a (w _ _ _ _ q1 (by decide))).1]; exact q3, q4⟩)
    (mg := ⟨R.mg.1.gh (fun a ha => (hN a (w _ _ _ _ ha (by decide))).1), R.mg.2⟩)
    (h := fun p hp => by
      refine ⟨fun ha => ⟨⟨fun h h1 h2 => ?_, ((R.h p hp).1 ha).1.2⟩, ((R.h p hp).1 ha).2⟩, (R.h p hp).2⟩
      obtain ⟨e1, e2, s, w', f1, f2, f3, f4, f5⟩ := ((R.h p hp).1 ha).1.1 h h1 h2
      refine ⟨e1, e2, s, w', f1, f2, f3, f4, f5.imp id ?_⟩
      rintro ⟨a, q1, q2, q3⟩
      exact ⟨a, q1, q2, by show _ = nI (N' a); rw [(hN a (w _ _ _ _ q1 (by decide))).1]; exact q3⟩)
    (d := R.d)
    (a := fun p hp => by
      refine ⟨fun ha => ?_, (R.a p hp).2⟩
      obtain ⟨h1, h2, h3⟩ := (R.a p hp).1 ha
      refine ⟨⟨fun c m hc hm => ?_, fun b b1 b2 b3 => ?_⟩, fun c m hc hm => ?_, h3⟩
      · show 64 * p ≤ B' m ∧ B' m < 64 * p + 64 ∧ ¬ σ.1 610000 (g.A 10) (B' m) ≤ 0 ∧ σ.1 620000 (g.A 11) (B' m) = nI c ∧ σ.1 630000 (g.A 12) (B' m) = _ ∧ _
        rw [k6 hm]; exact h1.1 c m hc hm
      · obtain ⟨c, m, hc, hm, e⟩ := h1.2 b b1 b2 b3
        exact ⟨c, m, hc, hm, by show B' m = b; rw [k6 hm]; exact e⟩
      · have h := h2 c m hc hm
        have ek := k6 hm
        unfold MsR at h ⊢
        show ∃ k s l it t T a1 a2 a3, _ ∧ _ ∧ _ ∧ _ ∧ _ ∧ _ ∧ _ ∧ σ.1 660000 (g.A 15) (B' m) = nI s ∧ _ ∧ _ ∧ _ ∧ σ.1 680000 (g.A 17) (B' m) = nI it ∧ σ.1 640000 (g.A 13) (B' m) = _ ∧ NR N' _ (σ.1 650000 (g.A 14) (B' m)) ∧ _ ∧ _ ∧ _ ∧ _ ∧ _ ∧ _ ∧ _ ∧ _ ∧ (∀ i, i < it → σ.1 310000 a1 i = σ.1 690000 (g.A 18) (4 * B' m + i) ∧ σ.1 320000 a2 i = σ.1 700000 (g.A 19) (4 * B' m + i) ∧ NR N' (σ.2.1 330003 a3 i) (σ.1 710000 (g.A 20) (4 * B' m + i))) ∧ (σ.1 610000 (g.A 10) (B' m) = 1 ∨ σ.1 610000 (g.A 10) (B' m) = 2 ∨ σ.1 610000 (g.A 10) (B' m) = 3) ∧ σ.1 61000 m 0 = (if σ.1 610000 (g.A 10) (B' m) = 3 then 1 else 0) ∧ σ.1 670000 (g.A 16) (B' m) = nI t ∧ _
        rw [ek]
        obtain ⟨k, s', l, it, t, T, a1, a2, a3, e1, e2, e3, e4, e5, e6, e7, e8, e9, e10, e11, e12, e13, e14, e15, e16, e17, e18, e19, e20, e21, e22, e23, e24⟩ := h
        exact ⟨k, s', l, it, t, T, a1, a2, a3, e1, e2, e3, e4, e5, e6, e7, e8, e9, e10, e11, e12, e13, e14.gh (fun a ha => (hN a (w _ _ _ _ ha (by decide))).1), e15, e16, e17, e18, e19, e20, e21, e22, fun i hi => ⟨(e23 i hi).1, (e23 i hi).2.1, (e23 i hi).2.2.gh (fun a ha => (hN a (w _ _ _ _ ha (by decide))).1)⟩, e24⟩)
    (i := fun p hp => by
      obtain ⟨h1, h2⟩ := R.i p hp
      refine ⟨fun i wk hi => ?_, h2⟩
      obtain ⟨q1, q2, q3⟩ := h1 i wk hi
      refine ⟨q1, q2, q3.imp id ?_⟩
      rintro ⟨m, c, r1, r2, r3, r4, r5, r6, r7⟩
      exact ⟨m, c, r1, r2, r3, r4, by show σ.1 610000 (g.A 10) (B' m) = 2; rw [k6 r3]; exact r5, by show _ = nI (B' m); rw [k6 r3]; exact r6, r7⟩)
    (o := R.o)
    (v := fun p hp => by
      refine ⟨fun ha => ?_, (R.v p hp).2⟩
      obtain ⟨h1, h2⟩ := (R.v p hp).1 ha
      refine ⟨fun i wk hi => ?_, h2⟩
      obtain ⟨a, q1, q2, q3, q4⟩ := h1 i wk hi
      exact ⟨a, q1, q2, by show _ = nI (N' a); rw [(hN a (w _ _ _ _ q1 (by decide))).1]; exact q3, q4⟩)
    (l := R.l)
    (q := by
      refine ⟨fun a o ha hd ho hw => ?_, fun p c m hp ha hc hm hs => R.q.2 p c m hp ha hc hm (by rw [← k6 hm]; exact hs)⟩
      obtain ⟨h1, h2, h3, h4, h5, h6, h7⟩ := R.q.1 a o ha hd ho hw
      have e : ∀ {c m}, ow g σ o a c m → B' m = g.B m := fun h => k6 h.2.1
      have eQ := (hN a ha).2
      have eB : ∀ m, m ∈ g.Q a → B' m = g.B m := fun m hm => by obtain ⟨c, hc, -⟩ := h3 m hm; exact e hc
      refine ⟨by show chn _ _ (Q' a); rw [eQ]; exact h1, by show _ = (Q' a).getLast?; rw [eQ]; exact h2, fun m hm => ?_, ?_, fun c m hm hs => ?_, h6, fun c c' m m' hm hm' hs hs' => ?_⟩
      · have hm' : m ∈ g.Q a := by rw [← eQ]; exact hm
        obtain ⟨c, hc, hs⟩ := h3 m hm'
        exact ⟨c, hc, by show σ.1 610000 (g.A 10) (B' m) = 1; rw [e hc]; exact hs⟩
      · show List.Pairwise (fun m m' => σ.1 670000 (g.A 16) (B' m) < σ.1 670000 (g.A 16) (B' m')) (Q' a)
        rw [eQ]
        exact List.Pairwise.imp_of_mem (fun {x y} hx hy hxy => by rw [eB x hx, eB y hy]; exact hxy) h4
      · show m ∈ Q' a
        rw [eQ]; exact h5 c m hm (by rw [← e hm]; exact hs)
      · exact h7 c c' m m' hm hm' (by rw [← e hm]; exact hs) (by rw [← e hm']; exact hs'))
    (c := R.c)
    (b := R.b)
    (t := R.t)
theorem FrL.iq {K J : Nat → Bool} {a b : Sg} {c x i : Nat} {v : Int32} (h : Fr K J a b) (hx : a.2.2.2 x = 0) : Fr K J a (sI b c x i v) :=
  ⟨h.1, h.2.1, fun c' x' i' hx' hk => by
    have : x' ≠ x := fun e => hx' (by rw [e]; exact hx)
    have e := h.2.2 c' x' i' hx' hk
    exact ⟨by simp only [sI]; rw [if_neg (fun z => this z.2.1)]; exact e.1, e.2⟩⟩
theorem FrL.oq {K J : Nat → Bool} {a b : Sg} {c x i : Nat} {v : Option Nat} (h : Fr K J a b) (hx : a.2.2.2 x = 0) : Fr K J a (sO b c x i v) :=
  ⟨h.1, h.2.1, fun c' x' i' hx' hk => by
    have : x' ≠ x := fun e => hx' (by rw [e]; exact hx)
    have e := h.2.2 c' x' i' hx' hk
    exact ⟨e.1, by simp only [sO]; rw [if_neg (fun z => this z.2.1)]; exact e.2⟩⟩
def upN {α : Type} (f : Nat → α) (q : Nat) (v : α) : Nat → α := fun x => if x = q then v else f x
theorem upN_s {α : Type} {f : Nat → α} {q : Nat} {v : α} : upN f q v q = v := if_pos rfl
theorem upN_n {α : Type} {f : Nat → α} {q x : Nat} {v : α} (h : x ≠ q) : upN f q v x = f x := if_neg h
/-- a new node -/
theorem RR.node {p k q : Nat} (R : RR E g n σ) (hp : p < 4) (ha : al g σ p) (hk : k < 10) (h0 : σ.2.1 110003 (g.D p 1) k = none) (hq : σ.2.2.2 q = 0) (hqe : q ≠ fe E) :
    RR E (Gh.mk g.x g.a0 g.m g.D g.A (upN g.N q (40 * g.lv p + 10 * p + k)) (g.B) (upN g.Q q []) g.L1 g.L2 g.L3 g.lv) n (sI (sO (sI (sI (sN σ q 3) 30000 q 0 (nI p)) 30100 q 0 (nI k)) 110003 (g.D p 1) k (some q)) 530000 (g.A 2) (10 * p + k) 1) := by
  have nq : ∀ {a}, σ.2.2.2 a ≠ 0 → a ≠ q := fun h e => h (by rw [e]; exact hq)
  have R' := R.gh (N' := upN g.N q (40 * g.lv p + 10 * p + k)) (B' := g.B) (Q' := upN g.Q q []) (fun a ha3 => ⟨upN_n (nq (by rw [ha3]; decide)), upN_n (nq (by rw [ha3]; decide))⟩) (fun _ _ => rfl)
  have hw' : WF (sI (sO (sI (sI (sN σ q 3) 30000 q 0 (nI p)) 30100 q 0 (nI k)) 110003 (g.D p 1) k (some q)) 530000 (g.A 2) (10 * p + k) 1) := WF.i (WF.oS (WF.i (WF.i (R.s.wf.n hq))) (fun _ => by simp [sI, sN]))
  have hfe' : (sI (sO (sI (sI (sN σ q 3) 30000 q 0 (nI p)) 30100 q 0 (nI k)) 110003 (g.D p 1) k (some q)) 530000 (g.A 2) (10 * p + k) 1).2.2.2 (fe E) = 0 := by
    show (if fe E = q then 3 else σ.2.2.2 (fe E)) = 0
    rw [if_neg (fun e => hqe e.symm)]; exact R.s.f0
  generalize hg : ((Gh.mk g.x g.a0 g.m g.D g.A (upN g.N q (40 * g.lv p + 10 * p + k)) (g.B) (upN g.Q q []) g.L1 g.L2 g.L3 g.lv) : Gh) = g' at R'
  have gD : g'.D = g.D := by rw [← hg]; try rfl
  have gA : g'.A = g.A := by rw [← hg]; try rfl
  have gL : g'.lv = g.lv := by rw [← hg]; try rfl
  have gN : g'.N = upN g.N q (40 * g.lv p + 10 * p + k) := by rw [← hg]; try rfl
  have gQ : g'.Q = upN g.Q q [] := by rw [← hg]; try rfl
  have F : Fr (fun c => [110003, 530000].contains c) (fun j => j == 3) σ (sI (sO (sI (sI (sN σ q 3) 30000 q 0 (nI p)) 30100 q 0 (nI k)) 110003 (g.D p 1) k (some q)) 530000 (g.A 2) (10 * p + k) 1) := FrL.i (FrL.o (FrL.iq (FrL.iq (Fr.n hq) hq) hq) (by decide)) (by decide)
  generalize hσ : sI (sO (sI (sI (sN σ q 3) 30000 q 0 (nI p)) 30100 q 0 (nI k)) 110003 (g.D p 1) k (some q)) 530000 (g.A 2) (10 * p + k) 1 = σ2 at hw' hfe' F
  have rd : ∀ c i, σ2.1 c q i = if c = 30100 ∧ i = 0 then nI k else if c = 30000 ∧ i = 0 then nI p else if c = 530000 ∧ q = g.A 2 ∧ i = 10 * p + k then 1 else 0 := by
    intro c i
    rw [← hσ]
    have : q ≠ g.A 2 := fun e => (nq (R.s.kA (j := 2) (by decide))) e.symm
    simp [sI, sO, sN, this]
  have rO : ∀ c i, σ2.2.1 c q i = none := by
    intro c i
    rw [← hσ]
    have : q ≠ g.D p 1 := fun e => (nq (R.s.kD (j := 1) hp (by decide))) e.symm
    simp [sI, sO, sN, this]
  have rk : σ2.2.2.2 q = 3 := by rw [← hσ]; simp [sI, sO, sN]
  have rn : ∀ p' k', p' < 4 → σ2.2.1 110003 (g.D p' 1) k' = if p' = p ∧ k' = k then some q else σ.2.1 110003 (g.D p' 1) k' := by
    intro p' k' hp'
    rw [← hσ]
    have h1 : g.D p' 1 ≠ q := nq (R.s.kD hp' (by decide))
    show (if 110003 = 110003 ∧ g.D p' 1 = g.D p 1 ∧ k' = k then some q else if g.D p' 1 = q then none else σ.2.1 110003 (g.D p' 1) k') = _
    by_cases e : p' = p ∧ k' = k
    · rw [if_pos e, e.1, if_pos ⟨rfl, rfl, e.2⟩]
    · rw [if_neg e, if_neg h1, if_neg (fun z => e ⟨R.s.dj p' p 1 hp' hp (by decide) z.2.1, z.2.2⟩)]
  have rs : ∀ i, σ2.1 530000 (g.A 2) i = if i = 10 * p + k then 1 else σ.1 530000 (g.A 2) i := by
    intro i
    rw [← hσ]
    have h1 : g.A 2 ≠ q := nq (R.s.kA (by decide))
    by_cases e : i = 10 * p + k
    · rw [if_pos e, e, rIs]
    · rw [if_neg e, rIx e]; simp [sI, sO, sN, h1]
  have k3 : ∀ a, σ2.2.2.2 a = 3 → a = q ∨ (a ≠ q ∧ σ.2.2.2 a = 3) := by
    intro a h
    by_cases e : a = q
    · exact Or.inl e
    · refine Or.inr ⟨e, ?_⟩
      rw [← hσ] at h
      simpa [sI, sO, sN, e] using h
  have nz : ∀ {a}, σ.2.2.2 a = 3 → σ.2.2.2 a ≠ 0 := fun e => by rw [e]; decide
  have ea : ∀ p, al g σ2 p ↔ al g σ p := al.fr R.s F (by decide)
  have old : ∀ a, σ.2.2.2 a = 3 → σ.1 30200 a 0 = 0 → ∀ o k', o < 4 → k' < 10 → g.N a = 40 * g.lv o + 10 * o + k' → σ.2.1 110003 (g.D o 1) k' = some a := by
    intro a ha3 hd o k' ho hk' hN
    obtain ⟨w, o1, k1, e1, e2, e3, e4, e5, e6, e7⟩ := R.no.1 a ha3
    rcases e7 with ⟨-, f2, -, f4⟩ | ⟨f1, -⟩
    · have : o1 = o ∧ k1 = k' := by omega
      rw [← this.1, ← this.2]; exact f4
    · rw [hd] at f1; exact absurd f1 (by decide)
  have no' : RNo g' σ2 := by
    unfold RNo
    rw [gD, gA, gN, gL]
    refine ⟨fun a ha3 => ?_, fun a b ha3 hb3 => ?_, fun p' k' hp' hk' => ?_⟩
    · rcases k3 a ha3 with rfl | ⟨hne, h3⟩
      · rw [upN_s]
        refine ⟨g.lv p, p, k, rfl, hp, hk, Nat.le_refl _, by rw [rd]; simp, by rw [rd]; simp, Or.inl ⟨by rw [rd]; simp, rfl, ?_, by rw [rn p k hp, if_pos ⟨rfl, rfl⟩]⟩⟩
        unfold al; rw [gA]; exact (ea p).mpr ha
      · rw [upN_n hne]
        obtain ⟨w, o1, k1, e1, e2, e3, e4, e5, e6, e7⟩ := R.no.1 a h3
        refine ⟨w, o1, k1, e1, e2, e3, e4, by rw [(F.2.2 _ _ _ (nz h3) (by decide)).1]; exact e5, by rw [(F.2.2 _ _ _ (nz h3) (by decide)).1]; exact e6, ?_⟩
        rw [(F.2.2 _ _ _ (nz h3) (by decide)).1]
        have eq : al g' σ2 o1 ↔ al g σ o1 := by unfold al; rw [gA]; exact ea o1
        rw [eq]
        rcases e7 with ⟨f1, f2, f3, f4⟩ | f
        · refine Or.inl ⟨f1, f2, f3, ?_⟩
          rw [rn o1 k1 e2, if_neg]
          · exact f4
          · rintro ⟨rfl, rfl⟩; rw [h0] at f4; cases f4
        · exact Or.inr f
    · have inj : ∀ a, σ.2.2.2 a = 3 → ¬ g.N a = 40 * g.lv p + 10 * p + k := by
        intro a h3 hN
        obtain ⟨w, o1, k1, e1, e2, e3, e4, e5, e6, e7⟩ := R.no.1 a h3
        have ho : o1 = p := by omega
        have hk1 : k1 = k := by omega
        have hw1 : w = g.lv p := by omega
        subst ho; subst hk1; subst hw1
        rcases e7 with ⟨-, -, -, f4⟩ | ⟨-, f2⟩
        · rw [h0] at f4; cases f4
        · exact f2 ⟨rfl, ha⟩
      rcases k3 a ha3 with rfl | ⟨hne, h3⟩ <;> rcases k3 b hb3 with rfl | ⟨hne', h3'⟩
      · exact fun _ => rfl
      · rw [upN_s, upN_n hne']; exact fun e => absurd e.symm (inj b h3')
      · rw [upN_s, upN_n hne]; exact fun e => absurd e (inj a h3)
      · rw [upN_n hne, upN_n hne']; exact R.no.2.1 a b h3 h3'
    · rw [rn p' k' hp', rs]
      have eq : al g' σ2 p' ↔ al g σ p' := by unfold al; rw [gA]; exact ea p'
      rw [eq]
      by_cases e : p' = p ∧ k' = k
      · obtain ⟨rfl, rfl⟩ := e
        refine Or.inr ⟨q, by rw [if_pos ⟨rfl, rfl⟩], by rw [if_pos rfl], upN_s, ha, by rw [rd]; simp⟩
      · rw [if_neg e, if_neg (by omega)]
        rcases R.no.2.2 p' k' hp' hk' with z | ⟨a, z1, z2, z3, z4, z5⟩
        · exact Or.inl z
        · have h3 := R.s.wf _ _ _ _ z1 (by decide)
          exact Or.inr ⟨a, z1, z2, by rw [upN_n (nq (by rw [h3]; decide))]; exact z3, z4, by rw [(F.2.2 _ _ _ (by rw [h3]; decide) (by decide)).1]; exact z5⟩
  have q' : RQ g' σ2 := by
    refine ⟨fun a o ha3 hd ho hw => ?_, fun p c m hp ha hc hm hs => ?_⟩
    · rcases k3 a ha3 with rfl | ⟨hne, h3⟩
      · have noow : ∀ c m, ¬ ow g' σ2 o a c m := by
          rintro c m ⟨-, h2, -, h4⟩
          rw [gD, (F.2.2 _ _ _ (R.s.kD ho (by decide)) (by decide)).2] at h2
          have hm6 := R.s.wf _ _ _ _ h2 (by decide)
          rw [(F.2.2 _ _ _ (by rw [hm6]; decide) (by decide)).2] at h4
          have := R.s.wf _ _ _ _ h4 (by decide)
          rw [hq] at this; cases this
        have eQ : g'.Q a = [] := by rw [gQ, upN_s]
        refine ⟨by rw [eQ, rO]; rfl, by rw [eQ, rO]; rfl, fun m hm => ?_, ?_, fun c m hm => absurd hm (noow c m), Or.inl ⟨by rw [rd]; simp, noow⟩, fun c c' m m' hm => absurd hm (noow c m)⟩
        · rw [eQ] at hm; cases hm
        · rw [eQ]; exact List.Pairwise.nil
      · rw [(F.2.2 _ _ _ (nz h3) (by decide)).1] at hd hw
        exact (R'.q.1 a o h3 hd ho hw).fr h3 ho R'.s (fun c m => RBn.of R'.a o c m ho) (F.at _ o) (by decide)
    · rw [gD, (F.2.2 _ _ _ (R.s.kD hp (by decide)) (by decide)).2] at hm
      rw [gA, (F.2.2 _ _ _ (R.s.kA (by decide)) (by decide)).1] at hs
      rw [(F.2.2 _ _ _ (by rw [R.s.wf _ _ _ _ hm (by decide)]; decide) (by decide)).1]
      exact R'.q.2 p c m hp ((al.fr R'.s F (by decide) p).mp ha) hc (by rw [gD]; exact hm) (by rw [gA]; exact hs)
  exact RR.mk
          (s := R'.s.fr0 F hw' hfe' (by decide) (by decide) (by decide) (by decide))
          (p := R'.p.fr R'.s F (by decide))
          (no := no')
          (mg := R'.mg.fr R'.s F (by decide))
          (h := fun p hp => (R'.h p hp).fr hp R'.s (F.at _ p) (by decide))
          (d := fun p hp => (R'.d p hp).fr hp R'.s (F.at _ p) (by decide))
          (a := fun p hp => (R'.a p hp).fr hp R'.s (F.at _ p) (by decide) (by decide))
          (i := fun p hp => (R'.i p hp).fr hp R'.s (fun c m h1 h2 _ => RBn.of R'.a p c m hp h1 h2) (F.at _ p) (by decide))
          (o := fun p hp => (R'.o p hp).fr hp R'.s (F.at _ p) (by decide))
          (v := fun p hp => (R'.v p hp).fr hp R'.s (F.at _ p) (by decide))
          (l := fun p hp => (R'.l p hp).fr hp R'.s (F.at _ p) (by decide) (by decide))
          (q := q')
          (c := R'.c.fr R'.s F (by decide) (by decide))
          (b := R'.b.fr R'.s F (by decide) (by decide))
          (t := by obtain ⟨T9, t1, t2⟩ := R'.t; exact ⟨T9, by rw [(F.2.2 _ _ _ R'.s.km (by decide)).1]; exact t1, t2⟩)
/-- serve: the class's answer and store -/
def osvP (E : FE) (σ : Sg) (a p : Nat) (x : Int32) (v : Int32) (σ' : Sg) : Prop := if x < 0 then v = 0 ∧ σ' = σ else if x < 10 then (match σ.2.1 110003 a x.toNatClampNeg with
  | none => v = 1 ∧ ∃ q, σ.2.2.2 q = 0 ∧ q ≠ fe E ∧ σ' = sO (sI (sI (sN σ q 3) 30000 q 0 (nI p)) 30100 q 0 x) 110003 a x.toNatClampNeg (some q)
  | some _ => v = 0 ∧ σ' = σ) else v = 0 ∧ σ' = σ
theorem sim_serve {p : Nat} (R : RR E g n σ) (hn : n ≤ 512) (hp : p < 4) (ha : al g σ p) (x : Int32) {v : Int32} {σ1 : Sg} (h : osvP E σ (g.D p 1) p x v σ1) :
    ∃ σ2 g', msvF σ1 g.m g.A (nI p) x = (v, σ2) ∧ RR E g' (n + 1) σ2 ∧ σ2.1 500000 g.m 0 = 0 ∧ g'.x = g.x ∧ g'.m = g.m ∧ g'.A = g.A := by
  have hc : (nI p).toNatClampNeg = p := nI_clamp (by omega)
  unfold osvP at h
  by_cases c1 : x < 0
  · rw [if_pos c1] at h
    obtain ⟨rfl, rfl⟩ := h
    exact ⟨_, g, by unfold msvF ikF; rw [ab0 hp ha, if_pos rfl, if_pos c1, if_pos rfl, th0 hp ha], (R.th 0).mono (by omega), rIs, rfl, rfl, rfl⟩
  · rw [if_neg c1] at h
    by_cases c2 : x < 10
    · rw [if_pos c2] at h
      have c3 : ¬ 9 < x := by
        rw [Int32.lt_iff_toInt_lt] at c2 ⊢
        have : (10 : Int32).toInt = 10 := rfl
        have : (9 : Int32).toInt = 9 := rfl
        omega
      obtain ⟨k, k1, k2, rfl⟩ := i_rng c1 c3 (by decide)
      have : (9 : Int32).toInt = 9 := rfl
      have hk : k < 10 := by omega
      rw [nI_clamp (by omega)] at h
      have hik : ¬ ikF (nI k) = 0 := by unfold ikF; rw [if_neg c1, if_neg c3]; decide
      rcases R.no.2.2 p k hp hk with ⟨z1, z2⟩ | ⟨a, z1, z2, -⟩
      · rw [z1] at h
        obtain ⟨rfl, q, hq, hqe, rfl⟩ := h
        have hb : al g (sO (sI (sI (sN σ q 3) 30000 q 0 (nI p)) 30100 q 0 (nI k)) 110003 (g.D p 1) k (some q)) p := by
          have : g.A 0 ≠ q := fun e => R.s.kA (j := 0) (by decide) (by rw [e]; exact hq)
          unfold al
          simp only [sO, sI, sN]
          simp [this]; exact ha
        have hz : (sO (sI (sI (sN σ q 3) 30000 q 0 (nI p)) 30100 q 0 (nI k)) 110003 (g.D p 1) k (some q)).1 530000 (g.A 2) (10 * p + k) = 0 := by
          have : g.A 2 ≠ q := fun e => R.s.kA (j := 2) (by decide) (by rw [e]; exact hq)
          simp [sO, sI, sN, this]; exact z2 ha
        refine ⟨_, (Gh.mk g.x g.a0 g.m g.D g.A (upN g.N q (40 * g.lv p + 10 * p + k)) (g.B) (upN g.Q q []) g.L1 g.L2 g.L3 g.lv), by unfold msvF; rw [ab0 hp hb, if_pos rfl, if_neg hik, hc, nI_clamp (by omega), hz, if_pos rfl, th0 hp hb], ?_, by simp [sI], rfl, rfl, rfl⟩
        rw [sI_comm (by decide)]
        exact ((R.node hp ha hk z1 hq hqe).th 0).mono (by omega)
      · rw [z1] at h
        obtain ⟨rfl, rfl⟩ := h
        exact ⟨_, g, by unfold msvF; rw [ab0 hp ha, if_pos rfl, if_neg hik, hc, nI_clamp (by omega), z2, if_neg (by decide), th0 hp ha], (R.th 0).mono (by omega), rIs, rfl, rfl, rfl⟩
    · rw [if_neg c2] at h
      obtain ⟨rfl, rfl⟩ := h
      have c3 : 9 < x := by
        rw [Int32.lt_iff_toInt_lt] at c2 ⊢
        have : (10 : Int32).toInt = 10 := rfl
        have : (9 : Int32).toInt = 9 := rfl
        omega
      exact ⟨_, g, by unfold msvF ikF; rw [ab0 hp ha, if_pos rfl, if_neg c1, if_pos c3, if_pos rfl, th0 hp ha], (R.th 0).mono (by omega), rIs, rfl, rfl, rfl⟩
end FRM
