section FRM
variable {E : FE} {g : Gh} {σ σ' σ2 : Sg} {K J : Nat → Bool} {n n' : Nat}
def celN (sta len ow : Nat → Int32) (w : Int32) : Nat → Nat := fun b => if sta b ≤ 0 then 0 else if ow b = 0 ∧ ¬ w = 0 then 0 else (len b).toNatClampNeg
theorem cels_n {sta len ow : Nat → Int32} {w : Int32} {p : Nat} (h : ∀ b, 64 * p ≤ b → b < 64 * p + 64 → ¬ sta b ≤ 0 → ∃ L, L ≤ 64 ∧ len b = nI L) : itF (celsF sta len ow w) 64 (64 * p) 0 = nI (sumR (celN sta len ow w) 64 (64 * p)) := by
  have := itF_sum (f := celsF sta len ow w) (h := celN sta len ow w) 64 (64 * p) 0 (fun j v j1 j2 => by
    unfold celsF celN
    by_cases z : sta j ≤ 0
    · rw [if_pos z, if_pos z]; rfl
    · obtain ⟨L, hL, e⟩ := h j j1 j2 z
      rw [if_neg z, if_neg z, e, nI_clamp (by omega)]
      by_cases y : ow j = 0
      · rw [if_pos y]
        by_cases y2 : w = 0
        · rw [if_pos y2, if_neg (fun q => q.2 y2)]
        · rw [if_neg y2, if_pos ⟨y, y2⟩]; rfl
      · rw [if_neg y, if_neg (fun q => y q.1)])
  rw [Nat.zero_add] at this
  exact this
def KR : List Nat := [150006, 90100, 90200, 610000, 30300]
set_option maxHeartbeats 1000000 in
/-- a message is gone from its cell: its node is busy as long as one waits -/
theorem RR.rem {p c m : Nat} (R : RR E g n σ) (hp : p < 4) (ha : al g σ p) (hc : c < 64) (hm : σ.2.1 150006 (g.D p 7) c = some m) (h3 : σ.1 610000 (g.A 10) (g.B m) = 3)
    (F : Fr (fun c => KR.contains c) (fun _ => false) σ σ2) (FP : ∀ r, r ≠ p → FrP g r (fun c => [30300].contains c) (fun _ => false) σ σ2) (hw' : WF σ2)
    (e1 : σ2.2.1 150006 (g.D p 7) c = none) (e2 : ∀ c', c' ≠ c → σ2.2.1 150006 (g.D p 7) c' = σ.2.1 150006 (g.D p 7) c') (e3 : σ2.1 610000 (g.A 10) (g.B m) = 0) (e4 : ∀ b, b ≠ g.B m → σ2.1 610000 (g.A 10) b = σ.1 610000 (g.A 10) b)
    (e5 : σ2.1 90100 (g.D p 6) 0 = σ.1 90100 (g.D p 6) 0 - σ.1 60400 m 0) (e6 : σ2.1 90200 (g.D p 6) 0 = if σ.1 60000 m 0 = 2 then σ.1 90200 (g.D p 6) 0 - σ.1 60400 m 0 else σ.1 90200 (g.D p 6) 0)
    (e7 : ∀ x, σ.2.2.2 x = 3 → σ2.1 30300 x 0 = if σ.1 60000 m 0 = 2 ∧ σ.2.1 60303 m 0 = some x ∧ g.Q x = [] then 0 else σ.1 30300 x 0) : RR E g n σ2 := by
  have hfe' := F.f0 (fun _ => rfl) R.s.f0
  have bB := RBn.of R.a
  obtain ⟨A, AM, AU, u, hu, AU1, AU2⟩ := (R.a p hp).1 ha
  obtain ⟨b1, b2, b3, b4, b5, L, b6, b7, b8, b9⟩ := A.1 c m hc hm
  have inj : ∀ r c' m', r < 4 → c' < 64 → σ.2.1 150006 (g.D r 7) c' = some m' → ¬ (r = p ∧ c' = c) → g.B m' ≠ g.B m := by
    intro r c' m' hr hc' hm' hne e
    have := bB r c' m' hr hc' hm'
    have hrp : r = p := by omega
    subst hrp
    exact hne ⟨rfl, (A.inj hc' hc hm' hm e).1⟩
  have al' : ∀ r, al g σ2 r ↔ al g σ r := al.fr R.s F (by decide)
  have k6 : ∀ {r c' m'}, σ.2.1 150006 (g.D r 7) c' = some m' → σ.2.2.2 m' = 6 := fun h => R.s.wf _ _ _ _ h (by decide)
  obtain ⟨k, s, l, it, t, T, a1, a2, a3, x1, x2, x3, x4, x5, x6, x7, x8, x9, x10, x11, x12, x13, x14, x15, x16, x17, x18, x19, x20, x21, x22, x23, x24, x25, x26, x27, x28⟩ := AM c m hc hm
  have lens : ∀ b, 64 * p ≤ b → b < 64 * p + 64 → ¬ σ.1 610000 (g.A 10) b ≤ 0 → ∃ L, L ≤ 64 ∧ σ.1 630000 (g.A 12) b = nI L := by
    intro b h1 h2 h3
    obtain ⟨c', m', hc', hm', rfl⟩ := A.2 b h1 h2 h3
    obtain ⟨-, -, -, -, y5, L', y6, -, y8, -⟩ := A.1 c' m' hc' hm'
    exact ⟨L', by omega, by rw [y5, y6]⟩
  have e63 : ∀ b, σ2.1 630000 (g.A 12) b = σ.1 630000 (g.A 12) b := fun b => (F.2.2 _ _ _ (R.s.kA (by decide)) (by decide)).1
  have e64 : ∀ b, σ2.1 640000 (g.A 13) b = σ.1 640000 (g.A 13) b := fun b => (F.2.2 _ _ _ (R.s.kA (by decide)) (by decide)).1
  have e62 : ∀ b, σ2.1 620000 (g.A 11) b = σ.1 620000 (g.A 11) b := fun b => (F.2.2 _ _ _ (R.s.kA (by decide)) (by decide)).1
  have lens2 : ∀ b, 64 * p ≤ b → b < 64 * p + 64 → ¬ σ2.1 610000 (g.A 10) b ≤ 0 → ∃ L, L ≤ 64 ∧ σ2.1 630000 (g.A 12) b = nI L := by
    intro b h1 h2 h3'
    rw [e63]
    by_cases z : b = g.B m
    · subst z; rw [e3] at h3'; exact absurd (by decide) h3'
    · rw [e4 b z] at h3'; exact lens b h1 h2 h3'
  have sums : ∀ w : Int32, sumR (celN (σ2.1 610000 (g.A 10)) (σ2.1 630000 (g.A 12)) (σ2.1 640000 (g.A 13)) w) 64 (64 * p) + (if σ.1 640000 (g.A 13) (g.B m) = 0 ∧ ¬ w = 0 then 0 else L) = sumR (celN (σ.1 610000 (g.A 10)) (σ.1 630000 (g.A 12)) (σ.1 640000 (g.A 13)) w) 64 (64 * p) := by
    intro w
    have h9 := sumR_upd (f := celN (σ.1 610000 (g.A 10)) (σ.1 630000 (g.A 12)) (σ.1 640000 (g.A 13)) w) (g := celN (σ2.1 610000 (g.A 10)) (σ2.1 630000 (g.A 12)) (σ2.1 640000 (g.A 13)) w) (j0 := g.B m) 64 (64 * p) b1 b2 (fun j _ _ hj => by
      unfold celN
      rw [e4 j hj, e63, e64])
    have z1 : celN (σ2.1 610000 (g.A 10)) (σ2.1 630000 (g.A 12)) (σ2.1 640000 (g.A 13)) w (g.B m) = 0 := by
      unfold celN; rw [e3, if_pos (by decide)]
    have z2 : celN (σ.1 610000 (g.A 10)) (σ.1 630000 (g.A 12)) (σ.1 640000 (g.A 13)) w (g.B m) = if σ.1 640000 (g.A 13) (g.B m) = 0 ∧ ¬ w = 0 then 0 else L := by
      unfold celN; rw [if_neg b3, b5, show (fun m => σ.1 60400 m 0) m = nI L from b6, nI_clamp (by omega)]
    rw [z1, z2] at h9
    omega
  have a' : ∀ r, r < 4 → RA g r σ2 := by
    intro r hr
    by_cases e : r = p
    · subst e
      refine ⟨fun _ => ⟨⟨fun c' m' hc' hm' => ?_, fun b h1 h2 h3' => ?_⟩, fun c' m' hc' hm' => ?_, ?_, ?_⟩, fun z => absurd ((al' r).mpr ha) z⟩
      · have hcc : c' ≠ c := by rintro rfl; rw [e1] at hm'; cases hm'
        rw [e2 c' hcc] at hm'
        obtain ⟨y1, y2, y3, y4, y5, L', y6, y7, y8, y9⟩ := A.1 c' m' hc' hm'
        have hne := inj r c' m' hr hc' hm' (fun z => hcc z.2)
        have hcl : σ2.1 60400 m' 0 = σ.1 60400 m' 0 := ((F.at g r).o R.s (k6 hm') (by decide) (by decide) (by decide)).1
        show 64 * r ≤ g.B m' ∧ g.B m' < 64 * r + 64 ∧ ¬ σ2.1 610000 (g.A 10) (g.B m') ≤ 0 ∧ σ2.1 620000 (g.A 11) (g.B m') = nI c' ∧ σ2.1 630000 (g.A 12) (g.B m') = σ2.1 60400 m' 0 ∧ ∃ L, σ2.1 60400 m' 0 = nI L ∧ 1 ≤ L ∧ c' + L ≤ 64 ∧ ∀ c2, c' < c2 → c2 < c' + L → σ2.2.1 150006 (g.D r 7) c2 = none
        rw [e4 _ hne, e62, e63, hcl]
        refine ⟨y1, y2, y3, y4, y5, L', y6, y7, y8, fun c2 h1 h2 => ?_⟩
        by_cases z : c2 = c
        · subst z; exact e1
        · rw [e2 c2 z]; exact y9 c2 h1 h2
      · have hne : b ≠ g.B m := by rintro rfl; rw [e3] at h3'; exact absurd (by decide) h3'
        rw [e4 b hne] at h3'
        obtain ⟨c', m', hc', hm', rfl⟩ := A.2 b h1 h2 h3'
        have hcc : c' ≠ c := by
          rintro rfl
          rw [hm] at hm'; cases hm'; exact hne rfl
        exact ⟨c', m', hc', by rw [e2 c' hcc]; exact hm', rfl⟩
      · have hcc : c' ≠ c := by rintro rfl; rw [e1] at hm'; cases hm'
        rw [e2 c' hcc] at hm'
        have hne := inj r c' m' hr hc' hm' (fun z => hcc z.2)
        obtain ⟨y1, y2, -⟩ := A.1 c' m' hc' hm'
        refine (AM c' m' hc' hm').fr2 (k6 hm') ?_ ⟨y1, y2⟩ R.s (F.at g r) (by decide)
        obtain ⟨_, _, _, _, _, _, _, _, _, z1, z2, z3, z4, z5, z6, z7, z8, z9, z10, z11, z12, z13, z14, z15, z16, z17, z18, z19, z20, z21, z22, z23, z24, z25, -⟩ := AM c' m' hc' hm'
        rw [e4 _ hne, ((F.at g r).o R.s (k6 hm') (by decide) (by decide) (by decide)).1]
        exact ⟨z24, z25⟩
      · rw [e5, AU, cels_n lens, cels_n lens2, show σ.1 60400 m 0 = nI L from b6, ← sums 0]
        rw [if_neg (fun q => q.2 rfl), nI_sub9 (by omega), Nat.add_sub_cancel]
      · have hs1 := sums 1
        rw [cels_n lens] at AU2
        rw [x13] at hs1
        rw [x1] at e6
        by_cases k2 : k = 2
        · subst k2
          rw [if_pos rfl, if_neg (fun q => absurd q.1 (by decide))] at hs1
          have hu' : sumR (celN (σ.1 610000 (g.A 10)) (σ.1 630000 (g.A 12)) (σ.1 640000 (g.A 13)) 1) 64 (64 * r) = u := by
            have hle := sumR_le (f := celN (σ.1 610000 (g.A 10)) (σ.1 630000 (g.A 12)) (σ.1 640000 (g.A 13)) 1) (M := 64) 64 (64 * r) (fun j h1 h2 => by
              unfold celN
              split
              · omega
              · split
                · omega
                · rename_i z _
                  obtain ⟨L', hL', eL⟩ := lens j h1 h2 z
                  rw [eL, nI_clamp (by omega)]; exact hL')
            exact (nI_eq (by omega) (by omega)).mp AU2
          rw [hu'] at hs1
          refine ⟨u - L, by omega, ?_, ?_⟩
          · rw [e6, if_pos (show nI 2 = 2 from rfl), AU1, show σ.1 60400 m 0 = nI L from b6, nI_sub9 (by omega)]
          · rw [cels_n lens2]; exact congrArg nI (by omega)
        · rw [if_neg k2, if_pos ⟨rfl, by decide⟩] at hs1
          refine ⟨u, hu, ?_, ?_⟩
          · rw [e6, if_neg (show ¬ nI k = 2 from fun z => k2 ((nI_eq (b := 2) (by omega) (by omega)).mp z)), AU1]
          · rw [cels_n lens2, ← AU2]; exact congrArg nI (by omega)
    · refine (R.a r hr).fr2 hr R.s (FP r e) (by decide) (by decide) (fun b h1 h2 => ?_) (fun har c' m' hc' hm' => ?_)
      · rw [(FP r e).a R.s (by decide) (by decide) (by decide) (show b / 64 = r by omega)]
      · have hb := bB r c' m' hr hc' hm'
        rw [(FP r e).a R.s (by decide) (by decide) (by decide) (show g.B m' / 64 = r by omega), ((FP r e).o R.s (k6 hm') (by decide) (by decide) (by decide)).1]
        obtain ⟨_, _, _, _, _, _, _, _, _, z1, z2, z3, z4, z5, z6, z7, z8, z9, z10, z11, z12, z13, z14, z15, z16, z17, z18, z19, z20, z21, z22, z23, z24, z25, -⟩ := ((R.a r hr).1 har).2.1 c' m' hc' hm'
        exact ⟨z24, z25⟩
  have i' : ∀ r, r < 4 → RI g r σ2 := by
    intro r hr
    obtain ⟨h1, h2', h3', h4, h5⟩ := R.i r hr
    have em : ∀ i w, (g.L1 r)[i]? = some w → σ2.2.1 50106 w 0 = σ.2.1 50106 w 0 := fun i w hi => ((F.at g r).o R.s (R.s.k1 hr hi) (by decide) (by decide) (by decide)).2
    refine ⟨fun i w hi => ?_, fun i i' w w' m hi hi' hm hm' => ?_, by rw [(F.2.2 _ _ _ (R.s.kA (by decide)) (by decide)).1]; exact h3', fun z => h4 (fun y => z ((al' r).mpr y)), h5⟩
    · have hst : ∀ c' m', c' < 64 → σ.2.1 150006 (g.D r 7) c' = some m' → σ.2.1 50106 w 0 = some m' → σ.1 610000 (g.A 10) (g.B m') = 2 := by
        intro c' m' hc' hm' hmw
        rcases (h1 i w hi).2.2 with ⟨z, -⟩ | ⟨m2, c2, r1, r2, r3, r4, r5, -⟩
        · rw [z] at hmw; cases hmw
        · rw [r1] at hmw; cases hmw; exact r5
      refine (h1 i w hi).mv (R.s.k1 hr hi) R.s (F.at g r) (fun j _ => (F.2.2 _ _ _ (R.s.kA (by decide)) (by decide)).1) (by decide) (fun c' m' hc' hm' hmw => ?_)
      have h2s := hst c' m' hc' hm' hmw
      have hne : ¬ (r = p ∧ c' = c) := by
        rintro ⟨rfl, rfl⟩
        rw [hm] at hm'; cases hm'
        rw [h3] at h2s; exact absurd h2s (by decide)
      refine ⟨?_, by rw [e4 _ (inj r c' m' hr hc' hm' hne)]⟩
      by_cases e : r = p
      · subst e
        rw [e2 c' (fun z => hne ⟨rfl, z⟩)]; exact hm'
      · rw [((FP r e).d R.s hr (by decide) (by decide) (by decide)).2]; exact hm'
    · rw [em i w hi] at hm
      rw [em i' w' hi'] at hm'
      exact h2' i i' w w' m hi hi' hm hm'
  have q' : RQ g σ2 := by
    refine ⟨fun a o h hd ho hw => ?_, fun r c' m' hr har hc' hm' hs => ?_⟩
    · have a3 : σ.2.2.2 a = 3 := by
        by_cases z : σ.2.2.2 a = 0
        · have := F.2.1 a z (by rw [h]; decide)
          cases this
        · rw [← F.1 a z]; exact h
      rw [((F.at g o).o R.s a3 (by decide) (by decide) (by decide)).1] at hd hw
      have Q := R.q.1 a o a3 hd ho hw
      obtain ⟨h1, h2, h3', h4, h5, h6, h7⟩ := Q
      have w : ∀ {c' m'}, ow g σ2 o a c' m' ↔ (ow g σ o a c' m' ∧ ¬ (o = p ∧ c' = c)) := by
        intro c' m'
        unfold ow
        by_cases e : o = p
        · subst e
          by_cases ec : c' = c
          · subst ec
            rw [e1]
            constructor
            · intro y; cases y.2.1
            · intro y; exact absurd ⟨rfl, rfl⟩ y.2
          · rw [e2 c' ec]
            constructor
            · rintro ⟨y1, y2, y3, y4⟩
              rw [((F.at g o).o R.s (k6 y2) (by decide) (by decide) (by decide)).1] at y3
              rw [((F.at g o).o R.s (k6 y2) (by decide) (by decide) (by decide)).2] at y4
              exact ⟨⟨y1, y2, y3, y4⟩, fun z => ec z.2⟩
            · rintro ⟨⟨y1, y2, y3, y4⟩, -⟩
              rw [((F.at g o).o R.s (k6 y2) (by decide) (by decide) (by decide)).1, ((F.at g o).o R.s (k6 y2) (by decide) (by decide) (by decide)).2]
              exact ⟨y1, y2, y3, y4⟩
        · have := ow.fr (a := a) (c := c') (m := m') ho R.s (FP o e) (by decide) (by decide) (by decide)
          exact this.trans ⟨fun y => ⟨y, fun z => e z.1⟩, fun y => y.1⟩
      have st : ∀ {c' m'}, ow g σ o a c' m' → ¬ (o = p ∧ c' = c) → σ2.1 610000 (g.A 10) (g.B m') = σ.1 610000 (g.A 10) (g.B m') := fun hm' hn => e4 _ (inj o _ _ ho hm'.1 hm'.2.1 hn)
      have notm : ∀ {c' m'}, ow g σ o a c' m' → σ.1 610000 (g.A 10) (g.B m') = 1 → ¬ (o = p ∧ c' = c) := by
        rintro c' m' hm' hs ⟨rfl, rfl⟩
        have : m' = m := Option.some.inj (hm'.2.1.symm.trans hm)
        subst this
        rw [h3] at hs; exact absurd hs (by decide)
      refine ⟨?_, ?_, fun m' hm' => ?_, ?_, fun c' m' hm' hs => ?_, ?_, fun c1 c2 m1 m2 hm1 hm2 hs1 hs2 => ?_⟩
      · rw [((F.at g o).o R.s a3 (by decide) (by decide) (by decide)).2]
        refine h1.cong (fun m' hm' => ?_)
        obtain ⟨c', hc', -⟩ := h3' m' hm'
        exact ((F.at g o).o R.s (k6 hc'.2.1) (by decide) (by decide) (by decide)).2
      · rw [((F.at g o).o R.s a3 (by decide) (by decide) (by decide)).2]; exact h2
      · obtain ⟨c', hc', hs⟩ := h3' m' hm'
        have hn := notm hc' hs
        exact ⟨c', w.mpr ⟨hc', hn⟩, by rw [st hc' hn]; exact hs⟩
      · rw [show σ2.1 670000 (g.A 16) = σ.1 670000 (g.A 16) from funext fun i => (F.2.2 _ _ _ (R.s.kA (by decide)) (by decide)).1]; exact h4
      · obtain ⟨hm1, hn⟩ := w.mp hm'
        rw [st hm1 hn] at hs
        exact h5 c' m' hm1 hs
      · rw [e7 a a3]
        by_cases z : σ.1 60000 m 0 = 2 ∧ σ.2.1 60303 m 0 = some a ∧ g.Q a = []
        · rw [if_pos z]
          refine Or.inl ⟨rfl, fun c' m' hm' => ?_⟩
          obtain ⟨hm1, hn⟩ := w.mp hm'
          obtain ⟨z1, z2, z3⟩ := z
          have hop : o = p := by
            have h16 := (x16 a z2).2
            exact (nI_eq (by omega) (by omega)).mp (hw.symm.trans h16)
          subst hop
          by_cases y : σ.1 610000 (g.A 10) (g.B m') = 1
          · have := h5 c' m' hm1 y
            rw [z3] at this; cases this
          · have hmm := h7 c' c m' m hm1 ⟨hc, hm, z1, z2⟩ y (by rw [h3]; decide)
            subst hmm
            exact hn ⟨rfl, (A.inj hm1.1 hc hm1.2.1 hm rfl).1⟩
        · rw [if_neg z]
          rcases h6 with ⟨y1, y2⟩ | ⟨y1, c', m', hm'⟩
          · exact Or.inl ⟨y1, fun c' m' hm' => y2 c' m' (w.mp hm').1⟩
          · refine Or.inr ⟨y1, ?_⟩
            by_cases hn : o = p ∧ c' = c
            · obtain ⟨rfl, rfl⟩ := hn
              have hmm : m' = m := Option.some.inj (hm'.2.1.symm.trans hm)
              subst hmm
              have hq : g.Q a ≠ [] := fun q => z ⟨hm'.2.2.1, hm'.2.2.2, q⟩
              cases eq : g.Q a with
              | nil => exact absurd eq hq
              | cons m2 t2 =>
                obtain ⟨c2, hc2, hs2⟩ := h3' m2 (by rw [eq]; exact List.mem_cons_self)
                exact ⟨c2, m2, w.mpr ⟨hc2, notm hc2 hs2⟩⟩
            · exact ⟨c', m', w.mpr ⟨hm', hn⟩⟩
      · obtain ⟨g1, n1⟩ := w.mp hm1
        obtain ⟨g2, n2⟩ := w.mp hm2
        rw [st g1 n1] at hs1
        rw [st g2 n2] at hs2
        exact h7 c1 c2 m1 m2 g1 g2 hs1 hs2
    · have hn : ¬ (r = p ∧ c' = c) := by
        rintro ⟨rfl, rfl⟩
        rw [e1] at hm'; cases hm'
      have hm1 : σ.2.1 150006 (g.D r 7) c' = some m' := by
        by_cases e : r = p
        · subst e
          rw [e2 c' (fun z => hn ⟨rfl, z⟩)] at hm'; exact hm'
        · rw [((FP r e).d R.s hr (by decide) (by decide) (by decide)).2] at hm'; exact hm'
      rw [e4 _ (inj r c' m' hr hc' hm1 hn)] at hs
      rw [((F.at g r).o R.s (k6 hm1) (by decide) (by decide) (by decide)).1]
      exact R.q.2 r c' m' hr ((al' r).mp har) hc' hm1 hs
  exact RR.mk
          (s := R.s.fr0 F hw' hfe' (by decide) (by decide) (by decide) (by decide))
          (p := R.p.fr R.s F (by decide))
          (no := R.no.fr R.s F (by decide) (by decide))
          (mg := R.mg.fr R.s F (by decide))
          (h := fun p hp => (R.h p hp).fr hp R.s (F.at _ p) (by decide))
          (d := fun p hp => (R.d p hp).fr hp R.s (F.at _ p) (by decide))
          (a := a')
          (i := i')
          (o := fun p hp => (R.o p hp).fr hp R.s (F.at _ p) (by decide))
          (v := fun p hp => (R.v p hp).fr hp R.s (F.at _ p) (by decide))
          (l := fun p hp => (R.l p hp).fr hp R.s (F.at _ p) (by decide) (by decide))
          (q := q')
          (c := R.c.fr R.s F (by decide) (by decide))
          (b := R.b.fr R.s F (by decide) (by decide))
          (t := by obtain ⟨T9, t1, t2⟩ := R.t; exact ⟨T9, by rw [(F.2.2 _ _ _ R.s.km (by decide)).1]; exact t1, t2⟩)
end FRM
