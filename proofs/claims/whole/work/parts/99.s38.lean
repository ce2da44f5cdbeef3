section ADP
variable {E : FE} {g : Gh} {σ σ' σ2 τ : Sg} {K J : Nat → Bool} {n : Nat}
def KWO : Nat → Bool := fun c => KW1 c || KO2 c
def KLO : Nat → Bool := fun c => KL1 c || KO2 c
def JWO : Nat → Bool := fun j => JW j || j == 42
/-- a reply joins the inbox of p, and the call that it answers leaves p0 -/
def AddP (E : FE) (g : Gh) (p0 p q : Nat) (L : List Nat) (k : Int32) (mo : Option Nat) (c : Int32) (τ σ2 : Sg) : Prop := (Fr KWO JWO τ σ2) ∧ (∀ r, r ≠ p → FrP g r KLO JWO τ σ2) ∧ (∀ r, r ≠ p0 → FrP g r (fun c => KW1 c || KO1 c) JWO τ σ2) ∧ (τ.2.2.2 q = 0) ∧ (σ2.1 50000 q 0 = k) ∧ (σ2.2.1 50106 q 0 = mo) ∧ (σ2.1 50200 q 0 = c) ∧ (σ2.1 720000 (g.A 21) p = nI ((g.L1 p).length + 1)) ∧ (∀ i, 384 * p ≤ i → i < 384 * p + 6 * (g.L1 p).length → σ2.1 730000 (g.A 22) i = τ.1 730000 (g.A 22) i) ∧ (WF σ2) ∧ (∃ AR, LLx E 20 41 5 (fun p => g.D p 12) (upL g.L1 p (g.L1 p ++ [q])) AR σ2) ∧ (∃ AR, LLx E 21 42 6 (fun p => g.D p 13) (upL g.L2 p0 L) AR σ2) ∧ (∃ AR, LLx E 22 43 7 (fun p => g.D p 14) g.L3 AR σ2) ∧ (σ2.1 740000 (g.A 23) p0 = nI L.length) ∧ (∀ i, i < L.length → σ2.1 750000 (g.A 24) (12 * p0 + i) = τ.1 750000 (g.A 24) (12 * p0 + i) ∧ σ2.1 760000 (g.A 25) (12 * p0 + i) = τ.1 760000 (g.A 25) (12 * p0 + i))
theorem AddP.ff {E : FE} {g : Gh} {p0 p q : Nat} {L : List Nat} {k : Int32} {mo : Option Nat} {c : Int32} {τ σ2 : Sg} (h9 : AddP E g p0 p q L k mo c τ σ2) : Fr KWO JWO τ σ2 := h9.1
theorem AddP.fp {E : FE} {g : Gh} {p0 p q : Nat} {L : List Nat} {k : Int32} {mo : Option Nat} {c : Int32} {τ σ2 : Sg} (h9 : AddP E g p0 p q L k mo c τ σ2) : ∀ r, r ≠ p → FrP g r KLO JWO τ σ2 := h9.2.1
theorem AddP.fo {E : FE} {g : Gh} {p0 p q : Nat} {L : List Nat} {k : Int32} {mo : Option Nat} {c : Int32} {τ σ2 : Sg} (h9 : AddP E g p0 p q L k mo c τ σ2) : ∀ r, r ≠ p0 → FrP g r (fun c => KW1 c || KO1 c) JWO τ σ2 := h9.2.2.1
theorem AddP.q0 {E : FE} {g : Gh} {p0 p q : Nat} {L : List Nat} {k : Int32} {mo : Option Nat} {c : Int32} {τ σ2 : Sg} (h9 : AddP E g p0 p q L k mo c τ σ2) : τ.2.2.2 q = 0 := h9.2.2.2.1
theorem AddP.r1 {E : FE} {g : Gh} {p0 p q : Nat} {L : List Nat} {k : Int32} {mo : Option Nat} {c : Int32} {τ σ2 : Sg} (h9 : AddP E g p0 p q L k mo c τ σ2) : σ2.1 50000 q 0 = k := h9.2.2.2.2.1
theorem AddP.r2 {E : FE} {g : Gh} {p0 p q : Nat} {L : List Nat} {k : Int32} {mo : Option Nat} {c : Int32} {τ σ2 : Sg} (h9 : AddP E g p0 p q L k mo c τ σ2) : σ2.2.1 50106 q 0 = mo := h9.2.2.2.2.2.1
theorem AddP.r3 {E : FE} {g : Gh} {p0 p q : Nat} {L : List Nat} {k : Int32} {mo : Option Nat} {c : Int32} {τ σ2 : Sg} (h9 : AddP E g p0 p q L k mo c τ σ2) : σ2.1 50200 q 0 = c := h9.2.2.2.2.2.2.1
theorem AddP.w {E : FE} {g : Gh} {p0 p q : Nat} {L : List Nat} {k : Int32} {mo : Option Nat} {c : Int32} {τ σ2 : Sg} (h9 : AddP E g p0 p q L k mo c τ σ2) : σ2.1 720000 (g.A 21) p = nI ((g.L1 p).length + 1) := h9.2.2.2.2.2.2.2.1
theorem AddP.old {E : FE} {g : Gh} {p0 p q : Nat} {L : List Nat} {k : Int32} {mo : Option Nat} {c : Int32} {τ σ2 : Sg} (h9 : AddP E g p0 p q L k mo c τ σ2) : ∀ i, 384 * p ≤ i → i < 384 * p + 6 * (g.L1 p).length → σ2.1 730000 (g.A 22) i = τ.1 730000 (g.A 22) i := h9.2.2.2.2.2.2.2.2.1
theorem AddP.wf {E : FE} {g : Gh} {p0 p q : Nat} {L : List Nat} {k : Int32} {mo : Option Nat} {c : Int32} {τ σ2 : Sg} (h9 : AddP E g p0 p q L k mo c τ σ2) : WF σ2 := h9.2.2.2.2.2.2.2.2.2.1
theorem AddP.l1 {E : FE} {g : Gh} {p0 p q : Nat} {L : List Nat} {k : Int32} {mo : Option Nat} {c : Int32} {τ σ2 : Sg} (h9 : AddP E g p0 p q L k mo c τ σ2) : ∃ AR, LLx E 20 41 5 (fun p => g.D p 12) (upL g.L1 p (g.L1 p ++ [q])) AR σ2 := h9.2.2.2.2.2.2.2.2.2.2.1
theorem AddP.l2 {E : FE} {g : Gh} {p0 p q : Nat} {L : List Nat} {k : Int32} {mo : Option Nat} {c : Int32} {τ σ2 : Sg} (h9 : AddP E g p0 p q L k mo c τ σ2) : ∃ AR, LLx E 21 42 6 (fun p => g.D p 13) (upL g.L2 p0 L) AR σ2 := h9.2.2.2.2.2.2.2.2.2.2.2.1
theorem AddP.l3 {E : FE} {g : Gh} {p0 p q : Nat} {L : List Nat} {k : Int32} {mo : Option Nat} {c : Int32} {τ σ2 : Sg} (h9 : AddP E g p0 p q L k mo c τ σ2) : ∃ AR, LLx E 22 43 7 (fun p => g.D p 14) g.L3 AR σ2 := h9.2.2.2.2.2.2.2.2.2.2.2.2.1
theorem AddP.e5 {E : FE} {g : Gh} {p0 p q : Nat} {L : List Nat} {k : Int32} {mo : Option Nat} {c : Int32} {τ σ2 : Sg} (h9 : AddP E g p0 p q L k mo c τ σ2) : σ2.1 740000 (g.A 23) p0 = nI L.length := h9.2.2.2.2.2.2.2.2.2.2.2.2.2.1
theorem AddP.e6 {E : FE} {g : Gh} {p0 p q : Nat} {L : List Nat} {k : Int32} {mo : Option Nat} {c : Int32} {τ σ2 : Sg} (h9 : AddP E g p0 p q L k mo c τ σ2) : ∀ i, i < L.length → σ2.1 750000 (g.A 24) (12 * p0 + i) = τ.1 750000 (g.A 24) (12 * p0 + i) ∧ σ2.1 760000 (g.A 25) (12 * p0 + i) = τ.1 760000 (g.A 25) (12 * p0 + i) := h9.2.2.2.2.2.2.2.2.2.2.2.2.2.2
theorem AddP.mk {E : FE} {g : Gh} {p0 p q : Nat} {L : List Nat} {k : Int32} {mo : Option Nat} {c : Int32} {τ σ2 : Sg} (ff : Fr KWO JWO τ σ2) (fp : ∀ r, r ≠ p → FrP g r KLO JWO τ σ2) (fo : ∀ r, r ≠ p0 → FrP g r (fun c => KW1 c || KO1 c) JWO τ σ2) (q0 : τ.2.2.2 q = 0) (r1 : σ2.1 50000 q 0 = k) (r2 : σ2.2.1 50106 q 0 = mo) (r3 : σ2.1 50200 q 0 = c) (w : σ2.1 720000 (g.A 21) p = nI ((g.L1 p).length + 1)) (old : ∀ i, 384 * p ≤ i → i < 384 * p + 6 * (g.L1 p).length → σ2.1 730000 (g.A 22) i = τ.1 730000 (g.A 22) i) (wf : WF σ2) (l1 : ∃ AR, LLx E 20 41 5 (fun p => g.D p 12) (upL g.L1 p (g.L1 p ++ [q])) AR σ2) (l2 : ∃ AR, LLx E 21 42 6 (fun p => g.D p 13) (upL g.L2 p0 L) AR σ2) (l3 : ∃ AR, LLx E 22 43 7 (fun p => g.D p 14) g.L3 AR σ2) (e5 : σ2.1 740000 (g.A 23) p0 = nI L.length) (e6 : ∀ i, i < L.length → σ2.1 750000 (g.A 24) (12 * p0 + i) = τ.1 750000 (g.A 24) (12 * p0 + i) ∧ σ2.1 760000 (g.A 25) (12 * p0 + i) = τ.1 760000 (g.A 25) (12 * p0 + i)) : AddP E g p0 p q L k mo c τ σ2 := ⟨ff, fp, fo, q0, r1, r2, r3, w, old, wf, l1, l2, l3, e5, e6⟩
theorem out_ad2 {p q r : Nat} (R : RR E g n τ) (hp : p < 4) (hr : r < 4) (F : Fr K J τ σ2) (hK : ([60100, 60200, 50000, 50106].all fun c => !K c) = true) : outN (gW g p q) σ2 r = outN g τ r + (if oW σ2 r (g.lv r) q then 1 else 0) + (if r = p ∧ rW σ2 q = true then 1 else 0) := by
  have hK0 := hK
  simp only [List.all_cons, List.all_nil, Bool.and_true, Bool.and_eq_true, Bool.not_eq_true'] at hK0
  have h1 : ∀ p', p' < 4 → outP (gW g p q) σ2 r p' = outP g τ r p' + if p' = p ∧ oW σ2 r (g.lv r) q = true then 1 else 0 := by
    intro p' hp'
    rw [← outP.fr R.s (F.at g p') hK hp']
    unfold outP
    by_cases e : p' = p
    · subst e
      rw [show (gW g p' q).L1 p' = g.L1 p' ++ [q] from upL_s, countP_app]
      show (g.L1 p').countP (oW σ2 r (g.lv r)) + (if oW σ2 r (g.lv r) q = true then 1 else 0) + (g.L2 p').countP (oM σ2 r (g.lv r)) = _
      by_cases z : oW σ2 r (g.lv r) q = true
      · rw [if_pos z, if_pos ⟨rfl, z⟩]
        omega
      · rw [if_neg z, if_neg (fun y => z y.2)]
        omega
    · rw [show (gW g p q).L1 p' = g.L1 p' from upL_n e, if_neg (fun y => e y.1)]
      rfl
  have h2 : ((gW g p q).L1 r).countP (rW σ2) = (g.L1 r).countP (rW τ) + if r = p ∧ rW σ2 q = true then 1 else 0 := by
    rw [← countP_cong (l := g.L1 r) (P := rW σ2) (Q := rW τ) (fun w hw => by unfold rW; rw [((F.at g r).o R.s (R.s.m1 hr hw) (by decide) (by decide) hK0.2.2.1).1])]
    by_cases e : r = p
    · subst e
      rw [show (gW g r q).L1 r = g.L1 r ++ [q] from upL_s, countP_app]
      by_cases z : rW σ2 q = true
      · rw [if_pos z, if_pos ⟨rfl, z⟩]
      · rw [if_neg z, if_neg (fun y => z y.2)]
    · rw [show (gW g p q).L1 r = g.L1 r from upL_n e, if_neg (fun y => e y.1)]
      rfl
  have hs : ((if 0 = p ∧ oW σ2 r (g.lv r) q = true then 1 else 0) + (if 1 = p ∧ oW σ2 r (g.lv r) q = true then 1 else 0) + (if 2 = p ∧ oW σ2 r (g.lv r) q = true then 1 else 0) + (if 3 = p ∧ oW σ2 r (g.lv r) q = true then 1 else 0) : Nat) = if oW σ2 r (g.lv r) q = true then 1 else 0 := by
    by_cases z : oW σ2 r (g.lv r) q = true
    · have : p = 0 ∨ p = 1 ∨ p = 2 ∨ p = 3 := by omega
      rcases this with rfl | rfl | rfl | rfl <;> simp [z]
    · simp [z]
  unfold outN
  rw [h1 0 (by decide), h1 1 (by decide), h1 2 (by decide), h1 3 (by decide), h2]
  omega
set_option maxHeartbeats 1000000 in
theorem RR.addR {p0 p q m m0 c : Nat} {L : List Nat} (R : RR E g n τ) (hp0 : p0 < 4) (ha0 : al g τ p0) (hp : p < 4) (ha : al g τ p) (A : AddP E g p0 p q L 3 (some m) 0 τ σ2) (h0 : g.L2 p0 = L ++ [m0]) (hm0 : oM τ p (g.lv p) m0 = true) (hc : c < 64) (hm : τ.2.1 150006 (g.D p 7) c = some m) (hk : τ.1 60000 m 0 = nI 3) (hs2 : τ.1 610000 (g.A 10) (g.B m) = 2)
    (hno : ∀ (i w : Nat), (g.L1 p)[i]? = some w → τ.2.1 50106 w 0 ≠ some m) (hlen : (g.L1 p).length < 12) (hnd : τ.2.1 60303 m 0 = none)
    (r0 : σ2.1 730000 (g.A 22) (384 * p + 6 * (g.L1 p).length) = 3) (r1 : σ2.1 730000 (g.A 22) (384 * p + 6 * (g.L1 p).length + 1) = nI (g.B m)) (r2 : σ2.1 730000 (g.A 22) (384 * p + 6 * (g.L1 p).length + 2) = -1) (r3 : σ2.1 730000 (g.A 22) (384 * p + 6 * (g.L1 p).length + 3) = τ.1 60100 m 0) (r4 : σ2.1 730000 (g.A 22) (384 * p + 6 * (g.L1 p).length + 4) = 0) : RR E (gD (gW g p q) p0 L) n σ2 := by
  have F := A.ff
  have hw' := A.wf
  have hm6 := R.s.wf _ _ _ _ hm (by decide)
  have s' : RS E (gD (gW g p q) p0 L) σ2 := R.s.fr F hw' (by decide) (by decide) (by decide) rfl rfl rfl rfl rfl A.l1 A.l2 A.l3
  have bB := RBn.of R.a
  have nk : nkF σ2 q = -1 := by
    unfold nkF
    rw [A.r2]
    dsimp only
    rw [((F.at g p).o R.s hm6 (by decide) (by decide) (by decide)).2, hnd]
  have hIn : InR g p (g.L1 p).length q σ2 := by
    refine ⟨by rw [A.r1]; exact r0.symm, by rw [A.r3]; exact r4.symm, Or.inr ⟨m, c, A.r2, hc, ?_, ?_, ?_, r1, by rw [nk]; exact r2, ?_, fun hz => ?_⟩⟩
    · rw [(F.2.2 _ _ _ (R.s.kD hp (by decide)) (by decide)).2]; exact hm
    · rw [((F.at g p).o R.s hm6 (by decide) (by decide) (by decide)).1, hk]; exact r0.symm
    · rw [(F.2.2 _ _ _ (R.s.kA (by decide)) (by decide)).1]; exact hs2
    · rw [((F.at g p).o R.s hm6 (by decide) (by decide) (by decide)).1]; exact r3
    · rw [((F.at g p).o R.s hm6 (by decide) (by decide) (by decide)).1, hk] at hz
      exact absurd hz (by decide)
  have i' : ∀ r, r < 4 → RI (gD (gW g p q) p0 L) r σ2 := by
    intro r hr
    by_cases e : r = p
    · subst e
      have eL : (gD (gW g r q) p0 L).L1 r = g.L1 r ++ [q] := upL_s
      obtain ⟨h1, h2, h3, h4, h5⟩ := R.i r hr
      have em : ∀ i w, (g.L1 r)[i]? = some w → σ2.2.1 50106 w 0 = τ.2.1 50106 w 0 := fun i w hi => ((F.at g r).o R.s (R.s.k1 hr hi) (by decide) (by decide) (by decide)).2
      refine ⟨fun i w hi => ?_, fun i i' w w' m' hi hi' hm1 hm2 => ?_, ?_, fun z => absurd ((al.fr R.s F (by decide) r).mpr ha) z, ?_⟩
      · rw [eL] at hi
        rcases app_get hi with ⟨hil, hi⟩ | ⟨rfl, rfl⟩
        · exact show InR g r i w σ2 from (h1 i w hi).mv (R.s.k1 hr hi) R.s (F.at g r) (fun j hj => A.old _ (by omega) (by omega)) (by decide) (fun c m hc hm _ => ⟨by rw [(F.2.2 _ _ _ (R.s.kD hr (by decide)) (by decide)).2]; exact hm, by rw [(F.2.2 _ _ _ (R.s.kA (by decide)) (by decide)).1]⟩)
        · exact hIn
      · rw [eL] at hi hi'
        rcases app_get hi with ⟨hil, hj⟩ | ⟨rfl, rfl⟩ <;> rcases app_get hi' with ⟨hil', hj'⟩ | ⟨rfl, rfl⟩
        · rw [em i w hj] at hm1
          rw [em i' w' hj'] at hm2
          exact h2 i i' w w' m' hj hj' hm1 hm2
        · rw [em i w hj] at hm1
          rw [A.r2] at hm2; cases hm2
          exact absurd hm1 (hno i w hj)
        · rw [em i' w' hj'] at hm2
          rw [A.r2] at hm1; cases hm1
          exact absurd hm2 (hno i' w' hj')
        · rfl
      · rw [eL, List.length_append]; exact A.w
      · rw [eL, List.length_append]; show (g.L1 r).length + 1 ≤ 64; omega
    · have h := (R.i r hr).fr hr R.s (fun c m h1 h2 _ => bB r c m hr h1 h2) (A.fp r e) (by decide)
      unfold RI at h ⊢
      rw [show (gD (gW g p q) p0 L).L1 r = g.L1 r from upL_n e]; exact h
  have o' : ∀ r, r < 4 → RO (gD (gW g p q) p0 L) r σ2 := by
    intro r hr
    by_cases e : r = p0
    · subst e
      have eL : (gD (gW g p q) r L).L2 r = L := upL_s
      obtain ⟨h1, h3, h4, h5⟩ := R.o r hr
      rw [h0] at h1 h3 h4
      rw [List.length_append] at h4
      refine ⟨fun i x hi => ?_, ?_, ?_, fun z => absurd ((al.fr R.s F (by decide) r).mpr ha0) z⟩
      · rw [eL] at hi
        show ∃ s l, σ2.1 60100 x 0 = nI s ∧ s < 4 ∧ σ2.1 60200 x 0 = nI l ∧ l ≤ g.lv s ∧ σ2.1 750000 (g.A 24) (12 * r + i) = nI s ∧ σ2.1 760000 (g.A 25) (12 * r + i) = nI l
        have hil := (List.getElem?_eq_some_iff.mp hi).1
        have hj : (L ++ [m0])[i]? = some x := by rw [List.getElem?_append_left hil]; exact hi
        have hx := R.s.k2 hr (h0 ▸ hj)
        rw [((F.at g r).o R.s hx (by decide) (by decide) (by decide)).1, ((F.at g r).o R.s hx (by decide) (by decide) (by decide)).1, (A.e6 i hil).1, (A.e6 i hil).2]
        exact h1 i x hj
      · rw [eL]; exact A.e5
      · rw [eL]; omega
    · have h := (R.o r hr).fr hr R.s (A.fo r e) (by decide)
      unfold RO at h ⊢
      rw [show (gD (gW g p q) p0 L).L2 r = g.L2 r from upL_n e]; exact h
  have c' : RC (gD (gW g p q) p0 L) σ2 := by
    intro r hr har
    have har' := (al.fr R.s F (by decide) r).mp har
    show outN (gD (gW g p q) p0 L) σ2 r ≤ if σ2.1 770000 (g.A 26) r = 0 then 0 else 1
    rw [(F.2.2 _ _ _ (R.s.kA (by decide)) (by decide)).1]
    have h9 := R.c r hr har'
    have e1 := out_pop (σ := σ2) (r := r) (g := gW g p q) hp0 (show (gW g p q).L2 p0 = L ++ [m0] from h0)
    have e2 := out_ad2 (q := q) R hp hr F (by decide)
    have eo : oW σ2 r (g.lv r) q = false := by unfold oW; rw [A.r1]; rfl
    have er : rW σ2 q = true := by unfold rW; rw [A.r1]; rfl
    have e2 : outN (gW g p q) σ2 r = outN g τ r + if r = p then 1 else 0 := by rw [e2, eo, er]; simp
    have hm06 := R.s.k2 hp0 (h0 ▸ (show (L ++ [m0])[L.length]? = some m0 by simp))
    have eoM : oM σ2 r ((gW g p q).lv r) m0 = oM τ r (g.lv r) m0 := oM.fr R.s (F.at g p) hm06 (by decide) (by decide)
    rw [eoM] at e1
    by_cases z : r = p
    · subst z
      rw [hm0, if_pos rfl] at e1
      rw [if_pos rfl] at e2
      omega
    · rw [if_neg z] at e2
      omega
  have b' : RB (gD (gW g p q) p0 L) σ2 := by
    intro r hr har
    have har' : al g τ r := (al.fr R.s F (by decide) r).mp har
    by_cases e : r = p
    · subst e
      show ((gW g r q).L1 r).countP _ + (g.L3 r).length ≤ 24 + ((gW g r q).L1 r).countP _
      have ek : ∀ w, w ∈ g.L1 r → σ2.1 50000 w 0 = τ.1 50000 w 0 := fun w hw => ((F.at g r).o R.s (R.s.m1 hr hw) (by decide) (by decide) (by decide)).1
      rw [show (gW g r q).L1 r = g.L1 r ++ [q] from upL_s, countP_app, countP_app, A.r1, countP_cong (l := g.L1 r) (P := fun w => !(σ2.1 50000 w 0 == 2)) (fun w hw => by rw [ek w hw]), countP_cong (l := g.L1 r) (P := fun w => σ2.1 50000 w 0 == 5) (fun w hw => by rw [ek w hw])]
      have hv := ((R.v r hr).1 har').2.2
      have hcl := List.countP_le_length (p := fun w => !(τ.1 50000 w 0 == 2)) (l := g.L1 r)
      have : (if (!((3 : Int32) == 2)) = true then 1 else 0 : Nat) ≤ 1 := by decide
      omega
    · show ((gW g p q).L1 r).countP _ + (g.L3 r).length ≤ 24 + ((gW g p q).L1 r).countP _
      rw [show (gW g p q).L1 r = g.L1 r from upL_n e]
      exact RB.frp (g := g) hr (R.b r hr har') R.s (A.fp r e) (by decide)
  exact
  RR.mk
    (s := s')
    (p := (show RP g n σ2 from R.p.fr R.s F (by decide)))
    (no := (show RNo g σ2 from R.no.fr R.s F (by decide) (by decide)))
    (mg := (show RMg g σ2 from R.mg.fr R.s F (by decide)))
    (h := fun p hp => (show RH g n p σ2 from (R.h p hp).fr hp R.s (F.at _ p) (by decide)))
    (d := fun p hp => (show RD g p σ2 from (R.d p hp).fr hp R.s (F.at _ p) (by decide)))
    (a := fun p hp => (show RA g p σ2 from (R.a p hp).fr hp R.s (F.at _ p) (by decide) (by decide)))
    (i := i')
    (o := o')
    (v := fun p hp => (show RV g p σ2 from (R.v p hp).fr hp R.s (F.at _ p) (by decide)))
    (l := fun p hp => (show RL g p σ2 from (R.l p hp).fr hp R.s (F.at _ p) (by decide) (by decide)))
    (q := (show RQ g σ2 from R.q.fr R.s (RBn.of R.a) F (by decide) (by decide) (by decide)))
    (c := c')
    (b := b')
    (t := by obtain ⟨T9, t1, t2⟩ := R.t; exact ⟨T9, by show σ2.1 502300 g.m 0 = _; rw [(F.2.2 _ _ _ R.s.km (by decide)).1]; exact t1, t2⟩)
/-- a row is free where a cell is -/
theorem RR.row {q c : Nat} (R : RR E g n σ) (hq : q < 4) (ha : al g σ q) (hc : c < 64) (h0 : σ.2.1 150006 (g.D q 7) c = none) : ∃ b, 64 * q ≤ b ∧ b < 64 * q + 64 ∧ σ.1 610000 (g.A 10) b ≤ 0 ∧ ∀ i, 64 * q ≤ i → i < b → ¬ σ.1 610000 (g.A 10) i ≤ 0 := by
  have A := ((R.a q hq).1 ha).1
  have ex : ∃ b, 64 * q ≤ b ∧ b < 64 * q + 64 ∧ σ.1 610000 (g.A 10) b ≤ 0 := by
    refine Classical.byContradiction (fun hz => ?_)
    have hall : ∀ j, ∃ c', j < 64 → c' < 64 ∧ ∃ m, σ.2.1 150006 (g.D q 7) c' = some m ∧ g.B m = 64 * q + j := fun j => by
      by_cases hj : j < 64
      · obtain ⟨c', m, h1, h2, h3⟩ := A.2 (64 * q + j) (by omega) (by omega) (fun y => hz ⟨64 * q + j, by omega, by omega, y⟩)
        exact ⟨c', fun _ => ⟨h1, m, h2, h3⟩⟩
      · exact ⟨0, fun y => absurd y hj⟩
    let f : Nat → Nat := fun j => Classical.choose (hall j)
    have hf : ∀ j, j < 64 → f j < 64 ∧ ∃ m, σ.2.1 150006 (g.D q 7) (f j) = some m ∧ g.B m = 64 * q + j := fun j hj => Classical.choose_spec (hall j) hj
    have nd : ((List.range 64).map f).Nodup := by
      unfold List.Nodup
      rw [List.pairwise_map]
      refine List.Pairwise.imp_of_mem (fun {x y} hx hy hne e => hne ?_) List.nodup_range
      obtain ⟨-, m1, a1, a2⟩ := hf x (List.mem_range.mp hx)
      obtain ⟨-, m2, b1, b2⟩ := hf y (List.mem_range.mp hy)
      rw [e, b1] at a1; cases a1
      omega
    have h9 := nodup_le (k := 64) (i := 0) ((List.range 64).map f) (fun x => if x = c then 0 else 1) nd (fun x hx => by
      obtain ⟨j, hj, rfl⟩ := List.mem_map.mp hx
      obtain ⟨h1, m, h2, -⟩ := hf j (List.mem_range.mp hj)
      refine ⟨by omega, by omega, ?_⟩
      have : f j ≠ c := fun e => by rw [e, h0] at h2; cases h2
      show 1 ≤ if f j = c then 0 else 1
      rw [if_neg this]; exact Nat.le_refl _)
    rw [List.length_map, List.length_range] at h9
    have h8 := sumR_upd (f := fun _ => 1) (g := fun x => if x = c then 0 else 1) (j0 := c) 64 0 (by omega) (by omega) (fun j _ _ hj => if_neg hj)
    have h7 := sumR_le (f := fun _ => 1) (M := 1) 64 0 (fun _ _ _ => Nat.le_refl _)
    have h6 : (if c = c then 0 else 1 : Nat) = 0 := if_pos rfl
    rw [h6] at h8
    omega
  obtain ⟨b, h1, h2, h3⟩ := ex
  have st : ∀ k, k < 64 → σ.1 610000 (g.A 10) (64 * q + k) ≤ 0 → ∃ b, 64 * q ≤ b ∧ b < 64 * q + 64 ∧ σ.1 610000 (g.A 10) b ≤ 0 ∧ ∀ i, 64 * q ≤ i → i < b → ¬ σ.1 610000 (g.A 10) i ≤ 0 := by
    intro k
    induction k using Nat.strongRecOn with
    | _ k ih =>
      intro hk hb
      by_cases y : ∃ k', k' < k ∧ σ.1 610000 (g.A 10) (64 * q + k') ≤ 0
      · obtain ⟨k', y1, y2⟩ := y
        exact ih k' y1 (by omega) y2
      · refine ⟨64 * q + k, by omega, by omega, hb, fun i i1 i2 hi => y ⟨i - 64 * q, by omega, ?_⟩⟩
        rw [show 64 * q + (i - 64 * q) = i from by omega]; exact hi
  exact st (b - 64 * q) (by omega) (by rw [show 64 * q + (b - 64 * q) = b from by omega]; exact h3)
end ADP
