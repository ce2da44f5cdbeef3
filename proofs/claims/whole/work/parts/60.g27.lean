section FRM
variable {E : FE} {g : Gh} {σ σ' σ2 : Sg} {K J : Nat → Bool} {n n' : Nat}
def gQ (g : Gh) (a : Nat) (l : List Nat) : Gh := (Gh.mk g.x g.a0 g.m g.D g.A g.N g.B (upN g.Q a l) g.L1 g.L2 g.L3 g.lv)
def KU : List Nat := [30406, 30506, 61106, 610000]
/-- the first message that waits at a is to come now -/
theorem RR.unq {p a mm : Nat} {t : List Nat} (R : RR E g n σ) (hp : p < 4) (ha : al g σ p) (ha3 : σ.2.2.2 a = 3) (hd : σ.1 30200 a 0 = 0) (hw : σ.1 30000 a 0 = nI p) (hQ : g.Q a = mm :: t) (hact : ∀ c m, ow g σ p a c m → σ.1 610000 (g.A 10) (g.B m) = 1)
    (F : Fr (fun c => KU.contains c) (fun _ => false) σ σ2) (hw' : WF σ2) (e1 : σ2.2.1 30406 a 0 = σ.2.1 61106 mm 0) (e2 : σ2.2.1 30506 a 0 = if t = [] then none else σ.2.1 30506 a 0) (e3 : σ2.2.1 61106 mm 0 = none) (e4 : ∀ x, σ.2.2.2 x = 3 → x ≠ a → σ2.2.1 30406 x 0 = σ.2.1 30406 x 0 ∧ σ2.2.1 30506 x 0 = σ.2.1 30506 x 0) (e5 : ∀ x, σ.2.2.2 x = 6 → x ≠ mm → σ2.2.1 61106 x 0 = σ.2.1 61106 x 0)
    (e6 : σ2.1 610000 (g.A 10) (g.B mm) = 2) (e7 : ∀ b, b ≠ g.B mm → σ2.1 610000 (g.A 10) b = σ.1 610000 (g.A 10) b) : RR E (gQ g a t) n σ2 := by
  have hfe' := F.f0 (fun _ => rfl) R.s.f0
  have bB := RBn.of R.a
  obtain ⟨h1, h2, h3, h4, h5, h6, h7⟩ := R.q.1 a p ha3 hd hp hw
  rw [hQ] at h1 h2 h3 h4 h5
  obtain ⟨cm, hcm, hsm⟩ := h3 mm List.mem_cons_self
  have A := ((R.a p hp).1 ha).1
  have k6 : ∀ {r c' m'}, σ.2.1 150006 (g.D r 7) c' = some m' → σ.2.2.2 m' = 6 := fun h => R.s.wf _ _ _ _ h (by decide)
  have inj : ∀ r c' m', r < 4 → c' < 64 → σ.2.1 150006 (g.D r 7) c' = some m' → m' ≠ mm → g.B m' ≠ g.B mm := by
    intro r c' m' hr hc' hm' hne e
    have := bB r c' m' hr hc' hm'
    have := bB p cm mm hp hcm.1 hcm.2.1
    have hrp : r = p := by omega
    subst hrp
    exact hne (A.inj hc' hcm.1 hm' hcm.2.1 e).2
  have al' : ∀ r, al g σ2 r ↔ al g σ r := al.fr R.s F (by decide)
  have F3 : ∀ {x}, σ2.2.2.2 x = 3 → σ.2.2.2 x = 3 := by
    intro x h
    by_cases z : σ.2.2.2 x = 0
    · have := F.2.1 x z (by rw [h]; decide)
      cases this
    · rw [← F.1 x z]; exact h
  have a' : ∀ r, r < 4 → RA g r σ2 := by
    intro r hr
    refine (R.a r hr).fr2 hr R.s (F.at g r) (by decide) (by decide) (fun b _ _ => ?_) (fun har c' m' hc' hm' => ?_)
    · by_cases e : b = g.B mm
      · subst e; rw [e6, hsm]; decide
      · rw [e7 b e]
    · obtain ⟨k, s', l, it, t', T, a1, a2, a3, x1, x2, x3, x4, x5, x6, x7, x8, x9, x10, x11, x12, x13, x14, x15, x16, x17, x18, x19, x20, x21, x22, x23, x24, x25, x26⟩ := ((R.a r hr).1 har).2.1 c' m' hc' hm'
      rw [((F.at g r).o R.s (k6 hm') (by decide) (by decide) (by decide)).1]
      by_cases e : m' = mm
      · subst e
        rw [hsm, if_neg (by decide)] at x25
        rw [e6, if_neg (by decide)]; exact ⟨Or.inr (Or.inl rfl), x25⟩
      · rw [e7 _ (inj r c' m' hr hc' hm' e)]; exact ⟨x24, x25⟩
  have i' : ∀ r, r < 4 → RI g r σ2 := by
    intro r hr
    obtain ⟨q1, q2, q3, q4, q5⟩ := R.i r hr
    have em : ∀ i w, (g.L1 r)[i]? = some w → σ2.2.1 50106 w 0 = σ.2.1 50106 w 0 := fun i w hi => ((F.at g r).o R.s (R.s.k1 hr hi) (by decide) (by decide) (by decide)).2
    refine ⟨fun i w hi => ?_, fun i i' w w' m hi hi' hm hm' => ?_, by rw [(F.2.2 _ _ _ (R.s.kA (by decide)) (by decide)).1]; exact q3, fun z => q4 (fun y => z ((al' r).mpr y)), q5⟩
    · refine (q1 i w hi).mv (R.s.k1 hr hi) R.s (F.at g r) (fun j _ => (F.2.2 _ _ _ (R.s.kA (by decide)) (by decide)).1) (by decide) (fun c' m' hc' hm' hmw => ⟨by rw [(F.2.2 _ _ _ (R.s.kD hr (by decide)) (by decide)).2]; exact hm', ?_⟩)
      have hne : m' ≠ mm := by
        rintro rfl
        rcases (q1 i w hi).2.2 with ⟨z, -⟩ | ⟨m2, c2, r1, r2, r3, r4, r5, -⟩
        · rw [z] at hmw; cases hmw
        · rw [r1] at hmw; cases hmw
          rw [hsm] at r5; exact absurd r5 (by decide)
      rw [e7 _ (inj r c' m' hr hc' hm' hne)]
    · rw [em i w hi] at hm
      rw [em i' w' hi'] at hm'
      exact q2 i i' w w' m hi hi' hm hm'
  have w : ∀ {o x c' m'}, o < 4 → (ow g σ2 o x c' m' ↔ ow g σ o x c' m') := fun ho => ow.fr ho R.s (F.at g _) (by decide) (by decide) (by decide)
  have e67 : σ2.1 670000 (g.A 16) = σ.1 670000 (g.A 16) := funext fun i => (F.2.2 _ _ _ (R.s.kA (by decide)) (by decide)).1
  have hnt : mm ∉ t := by
    intro hm
    have := (List.pairwise_cons.mp h4).1 mm hm
    rw [Int32.lt_iff_toInt_lt] at this
    omega
  have q' : RQ (gQ g a t) σ2 := by
    refine ⟨fun x o hx hxd ho hxw => ?_, fun r c' m' hr har hc' hm' hs => ?_⟩
    · have x3 := F3 hx
      rw [((F.at g o).o R.s x3 (by decide) (by decide) (by decide)).1] at hxd hxw
      by_cases e : x = a
      · subst e
        have hop : o = p := (nI_eq (by omega) (by omega)).mp (hxw.symm.trans hw)
        subst hop
        have eQ : (gQ g x t).Q x = t := upN_s
        unfold RQa
        rw [eQ]
        show chn (fun m => σ2.2.1 61106 m 0) (σ2.2.1 30406 x 0) t ∧ σ2.2.1 30506 x 0 = t.getLast? ∧ (∀ m, m ∈ t → ∃ c, ow g σ2 o x c m ∧ σ2.1 610000 (g.A 10) (g.B m) = 1) ∧ t.Pairwise (fun m m' => σ2.1 670000 (g.A 16) (g.B m) < σ2.1 670000 (g.A 16) (g.B m')) ∧ (∀ c m, ow g σ2 o x c m → σ2.1 610000 (g.A 10) (g.B m) = 1 → m ∈ t) ∧ ((σ2.1 30300 x 0 = 0 ∧ ∀ c m, ¬ ow g σ2 o x c m) ∨ (σ2.1 30300 x 0 = 1 ∧ ∃ c m, ow g σ2 o x c m)) ∧ (∀ c c' m m', ow g σ2 o x c m → ow g σ2 o x c' m' → ¬ σ2.1 610000 (g.A 10) (g.B m) = 1 → ¬ σ2.1 610000 (g.A 10) (g.B m') = 1 → m = m')
        simp only [w ho]
        rw [e67]
        refine ⟨?_, ?_, fun m hm => ?_, (List.pairwise_cons.mp h4).2, fun c m hm hs => ?_, ?_, fun c c' m m' hm hm' hs hs' => ?_⟩
        · rw [e1]
          refine h1.2.cong (fun m hm => ?_)
          have hne : m ≠ mm := by rintro rfl; exact hnt hm
          obtain ⟨c, hc, -⟩ := h3 m (List.mem_cons_of_mem _ hm)
          exact e5 m (k6 hc.2.1) hne
        · rw [e2]
          by_cases z : t = []
          · rw [if_pos z, z]; rfl
          · rw [if_neg z, h2]
            cases t with
            | nil => exact absurd rfl z
            | cons y ys => rfl
        · obtain ⟨c, hc, hs⟩ := h3 m (List.mem_cons_of_mem _ hm)
          have hne : m ≠ mm := by rintro rfl; exact hnt hm
          exact ⟨c, hc, by rw [e7 _ (inj o c m ho hc.1 hc.2.1 hne)]; exact hs⟩
        · have hne : m ≠ mm := by rintro rfl; rw [e6] at hs; exact absurd hs (by decide)
          rw [e7 _ (inj o c m ho hm.1 hm.2.1 hne)] at hs
          rcases List.mem_cons.mp (h5 c m hm hs) with z | z
          · exact absurd z hne
          · exact z
        · rw [((F.at g o).o R.s x3 (by decide) (by decide) (by decide)).1]; exact h6
        · have m1 : m = mm := by
            by_cases z : m = mm
            · exact z
            · rw [e7 _ (inj o c m ho hm.1 hm.2.1 z)] at hs; exact absurd (hact c m hm) hs
          have m2 : m' = mm := by
            by_cases z : m' = mm
            · exact z
            · rw [e7 _ (inj o c' m' ho hm'.1 hm'.2.1 z)] at hs'; exact absurd (hact c' m' hm') hs'
          rw [m1, m2]
      · have Q := R.q.1 x o x3 hxd ho hxw
        obtain ⟨g1, g2, g3, g4, g5, g6, g7⟩ := Q
        have eQ : (gQ g a t).Q x = g.Q x := upN_n e
        have hne : ∀ {c m}, ow g σ o x c m → m ≠ mm := by
          rintro c m hm rfl
          have : some x = some a := hm.2.2.2.symm.trans hcm.2.2.2
          exact e (Option.some.inj this)
        have st : ∀ {c m}, ow g σ o x c m → σ2.1 610000 (g.A 10) (g.B m) = σ.1 610000 (g.A 10) (g.B m) := fun {c m} hm => e7 _ (inj o c m ho hm.1 hm.2.1 (hne hm))
        unfold RQa
        rw [eQ]
        show chn (fun m => σ2.2.1 61106 m 0) (σ2.2.1 30406 x 0) (g.Q x) ∧ σ2.2.1 30506 x 0 = (g.Q x).getLast? ∧ (∀ m, m ∈ g.Q x → ∃ c, ow g σ2 o x c m ∧ σ2.1 610000 (g.A 10) (g.B m) = 1) ∧ (g.Q x).Pairwise (fun m m' => σ2.1 670000 (g.A 16) (g.B m) < σ2.1 670000 (g.A 16) (g.B m')) ∧ (∀ c m, ow g σ2 o x c m → σ2.1 610000 (g.A 10) (g.B m) = 1 → m ∈ g.Q x) ∧ ((σ2.1 30300 x 0 = 0 ∧ ∀ c m, ¬ ow g σ2 o x c m) ∨ (σ2.1 30300 x 0 = 1 ∧ ∃ c m, ow g σ2 o x c m)) ∧ (∀ c c' m m', ow g σ2 o x c m → ow g σ2 o x c' m' → ¬ σ2.1 610000 (g.A 10) (g.B m) = 1 → ¬ σ2.1 610000 (g.A 10) (g.B m') = 1 → m = m')
        simp only [w ho]
        rw [e67, (e4 x x3 e).1, (e4 x x3 e).2, ((F.at g o).o R.s x3 (by decide) (by decide) (by decide)).1]
        refine ⟨g1.cong (fun m hm => ?_), g2, fun m hm => ?_, g4, fun c m hm hs => g5 c m hm (by rw [← st hm]; exact hs), g6, fun c c' m m' hm hm' hs hs' => g7 c c' m m' hm hm' (by rw [← st hm]; exact hs) (by rw [← st hm']; exact hs')⟩
        · obtain ⟨c, hc, -⟩ := g3 m hm
          exact e5 m (k6 hc.2.1) (hne hc)
        · obtain ⟨c, hc, hs⟩ := g3 m hm
          exact ⟨c, hc, by rw [st hc]; exact hs⟩
    · have hm1 : σ.2.1 150006 (g.D r 7) c' = some m' := by
        have : σ2.2.1 150006 (g.D r 7) c' = some m' := hm'
        rw [(F.2.2 _ _ _ (R.s.kD hr (by decide)) (by decide)).2] at this; exact this
      have hs1 : σ2.1 610000 (g.A 10) (g.B m') = 1 := hs
      have hne : m' ≠ mm := by rintro rfl; rw [e6] at hs1; exact absurd hs1 (by decide)
      rw [e7 _ (inj r c' m' hr hc' hm1 hne)] at hs1
      rw [((F.at g r).o R.s (k6 hm1) (by decide) (by decide) (by decide)).1]
      exact R.q.2 r c' m' hr ((al' r).mp har) hc' hm1 hs1
  have s0 : RS E g σ2 := R.s.fr0 F hw' hfe' (by decide) (by decide) (by decide) (by decide)
  have s' : RS E (gQ g a t) σ2 := RS.mk
                                    (wf := s0.wf)
                                    (mo := s0.mo)
                                    (sh := s0.sh)
                                    (dj := s0.dj)
                                    (x1 := s0.x1)
                                    (x2 := s0.x2)
                                    (x3 := s0.x3)
                                    (nm := s0.nm)
                                    (l1 := s0.l1)
                                    (l2 := s0.l2)
                                    (l3 := s0.l3)
  exact
  RR.mk
    (s := s')
    (p := (show RP g n σ2 from R.p.fr R.s F (by decide)))
    (no := (show RNo g σ2 from R.no.fr R.s F (by decide) (by decide)))
    (mg := (show RMg g σ2 from R.mg.fr R.s F (by decide)))
    (h := fun p hp => (show RH g n p σ2 from (R.h p hp).fr hp R.s (F.at _ p) (by decide)))
    (d := fun p hp => (show RD g p σ2 from (R.d p hp).fr hp R.s (F.at _ p) (by decide)))
    (o := fun p hp => (show RO g p σ2 from (R.o p hp).fr hp R.s (F.at _ p) (by decide)))
    (v := fun p hp => (show RV g p σ2 from (R.v p hp).fr hp R.s (F.at _ p) (by decide)))
    (a := a')
    (l := fun p hp => (show RL g p σ2 from (R.l p hp).fr hp R.s (F.at _ p) (by decide) (by decide)))
    (i := i')
    (q := q')
    (c := (show RC g σ2 from R.c.fr R.s F (by decide) (by decide)))
    (b := (show RB g σ2 from R.b.fr R.s F (by decide) (by decide)))
    (t := by obtain ⟨T9, t1, t2⟩ := R.t; exact ⟨T9, by show σ2.1 502300 g.m 0 = _; rw [(F.2.2 _ _ _ R.s.km (by decide)).1]; exact t1, t2⟩)
/-- a work with a message joins the inbox -/
theorem RR.addM {p q m c k : Nat} {τ : Sg} (R : RR E g n τ) (hp : p < 4) (ha : al g τ p) (A : AddW E g p q (nI k) (some m) 0 τ σ2) (hc : c < 64) (hm : τ.2.1 150006 (g.D p 7) c = some m) (hk : τ.1 60000 m 0 = nI k) (hk3 : k ≤ 3) (hs2 : τ.1 610000 (g.A 10) (g.B m) = 2)
    (hno : ∀ (i w : Nat), (g.L1 p)[i]? = some w → τ.2.1 50106 w 0 ≠ some m) (hlen : (g.L1 p).length < 64)
    (r0 : σ2.1 730000 (g.A 22) (384 * p + 6 * (g.L1 p).length) = nI k) (r1 : σ2.1 730000 (g.A 22) (384 * p + 6 * (g.L1 p).length + 1) = nI (g.B m)) (r2 : σ2.1 730000 (g.A 22) (384 * p + 6 * (g.L1 p).length + 2) = (match τ.2.1 60303 m 0 with
      | none => -1
      | some a => τ.1 30100 a 0)) (r3 : σ2.1 730000 (g.A 22) (384 * p + 6 * (g.L1 p).length + 3) = τ.1 60100 m 0) (r4 : σ2.1 730000 (g.A 22) (384 * p + 6 * (g.L1 p).length + 4) = 0) (r5 : k = 1 → σ2.1 730000 (g.A 22) (384 * p + 6 * (g.L1 p).length + 5) = τ.1 60200 m 0)
    (h1 : k = 1 → ∀ r, r < 4 → al g τ r → outN g τ r + (if oM τ r (g.lv r) m then 1 else 0) ≤ (if τ.1 770000 (g.A 26) r = 0 then 0 else 1)) (h3 : k = 3 → outN g τ p + 1 ≤ (if τ.1 770000 (g.A 26) p = 0 then 0 else 1)) (hb : k ≠ 2 → (g.L1 p).length < 12) : RR E (gW g p q) n σ2 := by
  have hm6 := R.s.wf _ _ _ _ hm (by decide)
  have F := A.F
  have nk : nkF σ2 q = (match τ.2.1 60303 m 0 with
      | none => -1
      | some a => τ.1 30100 a 0) := by
    unfold nkF
    rw [A.r2]
    dsimp only
    rw [((F.at g p).o R.s hm6 (by decide) (by decide) (by decide)).2]
    cases e : τ.2.1 60303 m 0 with
    | none => rfl
    | some a => exact ((F.at g p).o R.s (R.s.wf _ _ _ _ e (by decide)) (by decide) (by decide) (by decide)).1
  have eoM : ∀ r l, oM σ2 r l m = oM τ r l m := fun r l => oM.fr R.s (F.at g p) hm6 (by decide) (by decide)
  have eo : ∀ r, oW σ2 r (g.lv r) q = (decide (k = 1) && oM τ r (g.lv r) m) := fun r => by
    unfold oW
    rw [A.r1, A.r2]
    dsimp only
    rw [eoM]
    congr 1
    have := nI_eq (a := k) (b := 1) (by omega) (by omega)
    by_cases z : k = 1
    · subst z; rfl
    · rw [decide_eq_false z]
      simp only [beq_eq_false_iff_ne]
      exact fun y => z (this.mp y)
  refine R.addW hp ha A hlen ?_ (fun i w m' hi hmw e => by cases e; exact hno i w hi hmw) (fun r hr har => ?_) (fun r hr har => ?_)
  · refine ⟨by rw [A.r1]; exact r0.symm, by rw [A.r3]; exact r4.symm, Or.inr ⟨m, c, A.r2, hc, ?_, ?_, ?_, r1, by rw [nk]; exact r2, ?_, fun hz => ?_⟩⟩
    · show σ2.2.1 150006 (g.D p 7) c = some m
      rw [(F.2.2 _ _ _ (R.s.kD hp (by decide)) (by decide)).2]; exact hm
    · rw [((F.at g p).o R.s hm6 (by decide) (by decide) (by decide)).1, hk]; exact r0.symm
    · show σ2.1 610000 (g.A 10) (g.B m) = 2
      rw [(F.2.2 _ _ _ (R.s.kA (by decide)) (by decide)).1]; exact hs2
    · rw [((F.at g p).o R.s hm6 (by decide) (by decide) (by decide)).1]; exact r3
    · rw [((F.at g p).o R.s hm6 (by decide) (by decide) (by decide)).1] at hz ⊢
      rw [hk] at hz
      exact r5 ((nI_eq (b := 1) (by omega) (by omega)).mp hz)
  · have har' : al g τ r := (al.fr R.s F (by decide) r).mp har
    show outN (gW g p q) σ2 r ≤ if σ2.1 770000 (g.A 26) r = 0 then 0 else 1
    rw [out_add R hp hr A, eo r, (F.2.2 _ _ _ (R.s.kA (by decide)) (by decide)).1]
    have h0 := R.c r hr har'
    have erw : rW σ2 q = decide (k = 3) := by
      unfold rW
      rw [A.r1]
      have e3 := nI_eq (a := k) (b := 3) (by omega) (by omega)
      have e5 := nI_eq (a := k) (b := 5) (by omega) (by omega)
      by_cases z : k = 3
      · subst z; rfl
      · rw [decide_eq_false z]
        simp only [Bool.or_eq_false_iff, beq_eq_false_iff_ne]
        exact ⟨fun y => z (e3.mp y), fun y => by have := e5.mp y; omega⟩
    rw [erw]
    by_cases k1 : k = 1
    · subst k1
      have := h1 rfl r hr har'
      simp only [decide_true, Bool.true_and, show decide ((1 : Nat) = 3) = false from rfl, Bool.false_eq_true, and_false, if_false, Nat.add_zero]
      exact this
    · rw [decide_eq_false k1]
      by_cases k3 : k = 3
      · subst k3
        by_cases e : r = p
        · subst e
          have := h3 rfl
          simp only [Bool.false_and, Bool.false_eq_true, if_false, decide_true, and_true, if_true, Nat.add_zero]
          exact this
        · simp only [Bool.false_and, Bool.false_eq_true, if_false, e, false_and, Nat.add_zero]
          exact h0
      · rw [decide_eq_false k3]
        simp only [Bool.false_and, Bool.false_eq_true, if_false, and_false, Nat.add_zero]
        exact h0
  · have har' : al g τ r := (al.fr R.s F (by decide) r).mp har
    by_cases e : r = p
    · subst e
      show ((gW g r q).L1 r).countP _ + (g.L3 r).length ≤ 24 + ((gW g r q).L1 r).countP _
      have ek : ∀ w, w ∈ g.L1 r → σ2.1 50000 w 0 = τ.1 50000 w 0 := fun w hw => ((F.at g r).o R.s (R.s.m1 hr hw) (by decide) (by decide) (by decide)).1
      rw [show (gW g r q).L1 r = g.L1 r ++ [q] from upL_s, countP_app, countP_app, A.r1, countP_cong (l := g.L1 r) (P := fun w => !(σ2.1 50000 w 0 == 2)) (fun w hw => by rw [ek w hw]), countP_cong (l := g.L1 r) (P := fun w => σ2.1 50000 w 0 == 5) (fun w hw => by rw [ek w hw])]
      have h0 := R.b r hr har'
      have hv := ((R.v r hr).1 har').2.2
      by_cases k2 : k = 2
      · subst k2
        rw [show (if (!(nI 2 == 2)) = true then 1 else 0 : Nat) = 0 from rfl]
        omega
      · have h12 := hb k2
        have hcl := List.countP_le_length (p := fun w => !(τ.1 50000 w 0 == 2)) (l := g.L1 r)
        have : (if (!(nI k == 2)) = true then 1 else 0 : Nat) ≤ 1 := by split <;> omega
        omega
    · show ((gW g p q).L1 r).countP _ + (g.L3 r).length ≤ 24 + ((gW g p q).L1 r).countP _
      rw [show (gW g p q).L1 r = g.L1 r from upL_n e]
      exact RB.frp (g := g) hr (R.b r hr har') R.s (A.FP r e) (by decide)
end FRM
