/-! the law, case by case: 2 -/
set_option maxRecDepth 20000 in
set_option maxHeartbeats 4000000 in
theorem lc_send (l : Launch) (E : FE) (g : Gh) (t : Nat) (σ : Sg) (o b L : Nat) (xs : Nat → Int32) {args : Array Value} {QF : State → List Frame → State → Prop} {cs sl : Nat} (R : RR E g t σ) (ht : t ≤ 511) (hl0 : l.stackTraces = false) (ho : σ.2.2.2 o = 90) (hL : L ≤ 2560) (h5 : 5 * t + 5 ≤ L) (hcs : cs + 58 ≤ 601024) (hsl : sl + 12696 ≤ 7293034) (K : ∀ σ', (∃ k, PO E g.x g.m o g.A (t + 1) k σ') → WG l E room_1 132 args (SCR E b L xs) QF (1388, [(0, vR (some b)), (1, vR (some g.x)), (2, vR (some g.m)), (3, vR (some o)), (4, vI (nI (5 * t)))], [], σ', cs + 58, sl + 12696)) : WG l E room_1 132 args (SCR E b L xs) QF (504, [(0, vR (some b)), (1, vR (some g.x)), (2, vR (some g.m)), (3, vR (some o)), (4, vI (nI (5 * t)))], [], σ, cs, sl) := by
  refine w_run 5 (S' := (510, [(0, vR (some b)), (1, vR (some g.x)), (2, vR (some g.m)), (3, vR (some o)), (4, vI (nI (5 * t)))], [vI ((nI (5 * t)) + 1), vR (some b), vR (some g.x)], σ, cs, sl)) rfl ?_
  rw [show ((nI (5 * t)) + 1 : Int32) = nI (5 * t + 1) from by simp only [nl0, nl1, nl2, nl3, nl4, nl5, nl6, nl8, nl9, nl10, nl12, nl15, nl16, nl20, nl24, nl32, nl40, nl64, nl65, nl384, pk_mul, nI_add]]
  show WG _ _ _ _ _ _ _ (510, [(0, vR (some b)), (1, vR (some g.x)), (2, vR (some g.m)), (3, vR (some o)), (4, vI (nI (5 * t)))], [vI (nI (5 * t + 1)), vR (some b), vR (some g.x)], σ, cs, sl)
  refine w_sld rfl (fun _ h => h) (vp_in_nI (n := 5 * t + 1) (by omega) (by omega)) ?_
  show WG _ _ _ _ _ _ _ (511, [(0, vR (some b)), (1, vR (some g.x)), (2, vR (some g.m)), (3, vR (some o)), (4, vI (nI (5 * t)))], [vI (xs (nI (5 * t + 1) : Int32).toNatClampNeg), vR (some g.x)], σ, cs, sl)
  rw [show (nI (5 * t + 1) : Int32).toNatClampNeg = 5 * t + 1 from nI_clamp (n := 5 * t + 1) (by omega)]
  show WG _ _ _ _ _ _ _ (511, [(0, vR (some b)), (1, vR (some g.x)), (2, vR (some g.m)), (3, vR (some o)), (4, vI (nI (5 * t)))], [vI (xs (5 * t + 1)), vR (some g.x)], σ, cs, sl)
  refine w_run 4 (S' := (516, [(0, vR (some b)), (1, vR (some g.x)), (2, vR (some g.m)), (3, vR (some o)), (4, vI (nI (5 * t)))], [vI ((nI (5 * t)) + 2), vR (some b), vI (xs (5 * t + 1)), vR (some g.x)], σ, cs, sl)) rfl ?_
  rw [show ((nI (5 * t)) + 2 : Int32) = nI (5 * t + 2) from by simp only [nl0, nl1, nl2, nl3, nl4, nl5, nl6, nl8, nl9, nl10, nl12, nl15, nl16, nl20, nl24, nl32, nl40, nl64, nl65, nl384, pk_mul, nI_add]]
  show WG _ _ _ _ _ _ _ (516, [(0, vR (some b)), (1, vR (some g.x)), (2, vR (some g.m)), (3, vR (some o)), (4, vI (nI (5 * t)))], [vI (nI (5 * t + 2)), vR (some b), vI (xs (5 * t + 1)), vR (some g.x)], σ, cs, sl)
  refine w_sld rfl (fun _ h => h) (vp_in_nI (n := 5 * t + 2) (by omega) (by omega)) ?_
  show WG _ _ _ _ _ _ _ (517, [(0, vR (some b)), (1, vR (some g.x)), (2, vR (some g.m)), (3, vR (some o)), (4, vI (nI (5 * t)))], [vI (xs (nI (5 * t + 2) : Int32).toNatClampNeg), vI (xs (5 * t + 1)), vR (some g.x)], σ, cs, sl)
  rw [show (nI (5 * t + 2) : Int32).toNatClampNeg = 5 * t + 2 from nI_clamp (n := 5 * t + 2) (by omega)]
  show WG _ _ _ _ _ _ _ (517, [(0, vR (some b)), (1, vR (some g.x)), (2, vR (some g.m)), (3, vR (some o)), (4, vI (nI (5 * t)))], [vI (xs (5 * t + 2)), vI (xs (5 * t + 1)), vR (some g.x)], σ, cs, sl)
  refine w_run 4 (S' := (522, [(0, vR (some b)), (1, vR (some g.x)), (2, vR (some g.m)), (3, vR (some o)), (4, vI (nI (5 * t)))], [vI ((nI (5 * t)) + 3), vR (some b), vI (xs (5 * t + 2)), vI (xs (5 * t + 1)), vR (some g.x)], σ, cs, sl)) rfl ?_
  rw [show ((nI (5 * t)) + 3 : Int32) = nI (5 * t + 3) from by simp only [nl0, nl1, nl2, nl3, nl4, nl5, nl6, nl8, nl9, nl10, nl12, nl15, nl16, nl20, nl24, nl32, nl40, nl64, nl65, nl384, pk_mul, nI_add]]
  show WG _ _ _ _ _ _ _ (522, [(0, vR (some b)), (1, vR (some g.x)), (2, vR (some g.m)), (3, vR (some o)), (4, vI (nI (5 * t)))], [vI (nI (5 * t + 3)), vR (some b), vI (xs (5 * t + 2)), vI (xs (5 * t + 1)), vR (some g.x)], σ, cs, sl)
  refine w_sld rfl (fun _ h => h) (vp_in_nI (n := 5 * t + 3) (by omega) (by omega)) ?_
  show WG _ _ _ _ _ _ _ (523, [(0, vR (some b)), (1, vR (some g.x)), (2, vR (some g.m)), (3, vR (some o)), (4, vI (nI (5 * t)))], [vI (xs (nI (5 * t + 3) : Int32).toNatClampNeg), vI (xs (5 * t + 2)), vI (xs (5 * t + 1)), vR (some g.x)], σ, cs, sl)
  rw [show (nI (5 * t + 3) : Int32).toNatClampNeg = 5 * t + 3 from nI_clamp (n := 5 * t + 3) (by omega)]
  show WG _ _ _ _ _ _ _ (523, [(0, vR (some b)), (1, vR (some g.x)), (2, vR (some g.m)), (3, vR (some o)), (4, vI (nI (5 * t)))], [vI (xs (5 * t + 3)), vI (xs (5 * t + 2)), vI (xs (5 * t + 1)), vR (some g.x)], σ, cs, sl)
  refine w_if_eq rfl (fun c1 => ?_) (fun c1 => ?_)
  · refine w_run 2 (S' := (532, [(0, vR (some b)), (1, vR (some g.x)), (2, vR (some g.m)), (3, vR (some o)), (4, vI (nI (5 * t)))], [vR (some o), vI 0, vI (xs (5 * t + 2)), vI (xs (5 * t + 1)), vR (some g.x)], σ, cs, sl)) rfl ?_
    refine w_callW (st := []) (d := 12) [vR (some g.x), vI (xs (5 * t + 1)), vI (xs (5 * t + 2)), vI 0, vR (some o)] rfl mlw_121 rfl (by decide) (by decide +kernel) rfl (show cs + 8 ≤ 601024 by omega) (show sl + 489 ≤ 7293034 by omega) (st_send l E g t σ o R (by omega) hl0 ho (xs (5 * t + 1)) (xs (5 * t + 2)) 0 (Or.inl rfl)) (fun _ _ h => h.elim) ?_
    rintro r9 s9 ⟨k, rfl, hk9, hm⟩
    show WG _ _ _ _ _ _ _ (535, [(0, vR (some b)), (1, vR (some g.x)), (2, vR (some g.m)), (3, vR (some o)), (4, vI (nI (5 * t)))], [vI k], s9, cs + 8, sl + 489)
    refine w_run 6 (S' := (543, [(5, vI k), (0, vR (some b)), (1, vR (some g.x)), (2, vR (some g.m)), (3, vR (some o)), (4, vI (nI (5 * t)))], [vI ((nI (5 * t)) + 1), vR (some b), vR (some g.m)], s9, cs + 8, sl + 489)) rfl ?_
    rw [show ((nI (5 * t)) + 1 : Int32) = nI (5 * t + 1) from by simp only [nl0, nl1, nl2, nl3, nl4, nl5, nl6, nl8, nl9, nl10, nl12, nl15, nl16, nl20, nl24, nl32, nl40, nl64, nl65, nl384, pk_mul, nI_add]]
    show WG _ _ _ _ _ _ _ (543, [(5, vI k), (0, vR (some b)), (1, vR (some g.x)), (2, vR (some g.m)), (3, vR (some o)), (4, vI (nI (5 * t)))], [vI (nI (5 * t + 1)), vR (some b), vR (some g.m)], s9, cs + 8, sl + 489)
    refine w_sld rfl (fun _ h => h) (vp_in_nI (n := 5 * t + 1) (by omega) (by omega)) ?_
    show WG _ _ _ _ _ _ _ (544, [(5, vI k), (0, vR (some b)), (1, vR (some g.x)), (2, vR (some g.m)), (3, vR (some o)), (4, vI (nI (5 * t)))], [vI (xs (nI (5 * t + 1) : Int32).toNatClampNeg), vR (some g.m)], s9, cs + 8, sl + 489)
    rw [show (nI (5 * t + 1) : Int32).toNatClampNeg = 5 * t + 1 from nI_clamp (n := 5 * t + 1) (by omega)]
    show WG _ _ _ _ _ _ _ (544, [(5, vI k), (0, vR (some b)), (1, vR (some g.x)), (2, vR (some g.m)), (3, vR (some o)), (4, vI (nI (5 * t)))], [vI (xs (5 * t + 1)), vR (some g.m)], s9, cs + 8, sl + 489)
    refine w_run 4 (S' := (549, [(5, vI k), (0, vR (some b)), (1, vR (some g.x)), (2, vR (some g.m)), (3, vR (some o)), (4, vI (nI (5 * t)))], [vI ((nI (5 * t)) + 2), vR (some b), vI (xs (5 * t + 1)), vR (some g.m)], s9, cs + 8, sl + 489)) rfl ?_
    rw [show ((nI (5 * t)) + 2 : Int32) = nI (5 * t + 2) from by simp only [nl0, nl1, nl2, nl3, nl4, nl5, nl6, nl8, nl9, nl10, nl12, nl15, nl16, nl20, nl24, nl32, nl40, nl64, nl65, nl384, pk_mul, nI_add]]
    show WG _ _ _ _ _ _ _ (549, [(5, vI k), (0, vR (some b)), (1, vR (some g.x)), (2, vR (some g.m)), (3, vR (some o)), (4, vI (nI (5 * t)))], [vI (nI (5 * t + 2)), vR (some b), vI (xs (5 * t + 1)), vR (some g.m)], s9, cs + 8, sl + 489)
    refine w_sld rfl (fun _ h => h) (vp_in_nI (n := 5 * t + 2) (by omega) (by omega)) ?_
    show WG _ _ _ _ _ _ _ (550, [(5, vI k), (0, vR (some b)), (1, vR (some g.x)), (2, vR (some g.m)), (3, vR (some o)), (4, vI (nI (5 * t)))], [vI (xs (nI (5 * t + 2) : Int32).toNatClampNeg), vI (xs (5 * t + 1)), vR (some g.m)], s9, cs + 8, sl + 489)
    rw [show (nI (5 * t + 2) : Int32).toNatClampNeg = 5 * t + 2 from nI_clamp (n := 5 * t + 2) (by omega)]
    show WG _ _ _ _ _ _ _ (550, [(5, vI k), (0, vR (some b)), (1, vR (some g.x)), (2, vR (some g.m)), (3, vR (some o)), (4, vI (nI (5 * t)))], [vI (xs (5 * t + 2)), vI (xs (5 * t + 1)), vR (some g.m)], s9, cs + 8, sl + 489)
    refine w_run 4 (S' := (555, [(5, vI k), (0, vR (some b)), (1, vR (some g.x)), (2, vR (some g.m)), (3, vR (some o)), (4, vI (nI (5 * t)))], [vI ((nI (5 * t)) + 3), vR (some b), vI (xs (5 * t + 2)), vI (xs (5 * t + 1)), vR (some g.m)], s9, cs + 8, sl + 489)) rfl ?_
    rw [show ((nI (5 * t)) + 3 : Int32) = nI (5 * t + 3) from by simp only [nl0, nl1, nl2, nl3, nl4, nl5, nl6, nl8, nl9, nl10, nl12, nl15, nl16, nl20, nl24, nl32, nl40, nl64, nl65, nl384, pk_mul, nI_add]]
    show WG _ _ _ _ _ _ _ (555, [(5, vI k), (0, vR (some b)), (1, vR (some g.x)), (2, vR (some g.m)), (3, vR (some o)), (4, vI (nI (5 * t)))], [vI (nI (5 * t + 3)), vR (some b), vI (xs (5 * t + 2)), vI (xs (5 * t + 1)), vR (some g.m)], s9, cs + 8, sl + 489)
    refine w_sld rfl (fun _ h => h) (vp_in_nI (n := 5 * t + 3) (by omega) (by omega)) ?_
    show WG _ _ _ _ _ _ _ (556, [(5, vI k), (0, vR (some b)), (1, vR (some g.x)), (2, vR (some g.m)), (3, vR (some o)), (4, vI (nI (5 * t)))], [vI (xs (nI (5 * t + 3) : Int32).toNatClampNeg), vI (xs (5 * t + 2)), vI (xs (5 * t + 1)), vR (some g.m)], s9, cs + 8, sl + 489)
    rw [show (nI (5 * t + 3) : Int32).toNatClampNeg = 5 * t + 3 from nI_clamp (n := 5 * t + 3) (by omega)]
    show WG _ _ _ _ _ _ _ (556, [(5, vI k), (0, vR (some b)), (1, vR (some g.x)), (2, vR (some g.m)), (3, vR (some o)), (4, vI (nI (5 * t)))], [vI (xs (5 * t + 3)), vI (xs (5 * t + 2)), vI (xs (5 * t + 1)), vR (some g.m)], s9, cs + 8, sl + 489)
    refine w_if_eq rfl (fun c2 => ?_) (fun c2 => (absurd c1 c2))
    refine w_run 1 (S' := (564, [(5, vI k), (0, vR (some b)), (1, vR (some g.x)), (2, vR (some g.m)), (3, vR (some o)), (4, vI (nI (5 * t)))], [vI 0, vI (xs (5 * t + 2)), vI (xs (5 * t + 1)), vR (some g.m)], s9, cs + 8, sl + 489)) rfl ?_
    refine w_callV (st := []) (d := 8) [vI (xs (5 * t + 1)), vI (xs (5 * t + 2)), vI 0] rfl ml_11_109 rfl rfl hk9 rfl rfl rfl (by decide) (by decide +kernel) rfl (show cs + 8 + 0 ≤ 601024 by omega) (show sl + 489 + 0 ≤ 7293034 by omega) hm (fun _ _ h => h.elim) ?_
    rintro r9 s10 ⟨v, rfl, hPO, hJ⟩
    obtain ⟨g', R', e1, e2, e3, e4, e5⟩ := id hPO
    have hM10 : MO s10 g.m g.A := by have h1 := R'.s.mo; rw [e2, e3] at h1; exact h1
    show WG _ _ _ _ _ _ _ (567, [(5, vI k), (0, vR (some b)), (1, vR (some g.x)), (2, vR (some g.m)), (3, vR (some o)), (4, vI (nI (5 * t)))], [vI v], s10, cs + 8 + 0, sl + 489 + 0)
    refine w_run 2 (S' := (570, [(6, vI v), (5, vI k), (0, vR (some b)), (1, vR (some g.x)), (2, vR (some g.m)), (3, vR (some o)), (4, vI (nI (5 * t)))], [vR (some g.m)], s10, cs + 8 + 0, sl + 489 + 0)) rfl ?_
    refine w_callV (st := []) (d := 8) [] rfl ml_11_85 rfl rfl hM10.1 rfl rfl rfl (by decide) (by decide +kernel) rfl (show cs + 8 + 0 + 0 ≤ 601024 by omega) (show sl + 489 + 0 + 0 ≤ 7293034 by omega) (c_mo_thrown l E 8 s10 g.m g.A hM10) (fun _ _ h => h.elim) ?_
    rintro r9 s11 ⟨rfl, rfl⟩
    rw [e4]
    show WG _ _ _ _ _ _ _ (573, [(6, vI v), (5, vI k), (0, vR (some b)), (1, vR (some g.x)), (2, vR (some g.m)), (3, vR (some o)), (4, vI (nI (5 * t)))], [vI k], s11, cs + 8 + 0 + 0, sl + 489 + 0 + 0)
    refine w_run 1 (S' := (575, [(6, vI v), (5, vI k), (0, vR (some b)), (1, vR (some g.x)), (2, vR (some g.m)), (3, vR (some o)), (4, vI (nI (5 * t)))], [vI k, vI k], s11, cs + 8 + 0 + 0, sl + 489 + 0 + 0)) rfl ?_
    refine w_ic_eq rfl (fun c3 => ?_) (fun c3 => (absurd rfl c3))
    refine w_run 1 (S' := (582, [(6, vI v), (5, vI k), (0, vR (some b)), (1, vR (some g.x)), (2, vR (some g.m)), (3, vR (some o)), (4, vI (nI (5 * t)))], [vI k], s11, cs + 8 + 0 + 0, sl + 489 + 0 + 0)) rfl ?_
    refine w_if_ne rfl (fun c4 => ?_) (fun c4 => ?_)
    · refine w_run 1 (S' := (1388, [(6, vI v), (5, vI k), (0, vR (some b)), (1, vR (some g.x)), (2, vR (some g.m)), (3, vR (some o)), (4, vI (nI (5 * t)))], [], s11, cs + 8 + 0 + 0, sl + 489 + 0 + 0)) rfl ?_
      refine w_lsP [2, 3, 4, 5, 6] ?_
      show WG _ _ _ _ _ _ _ (1388, [(0, vR (some b)), (1, vR (some g.x)), (2, vR (some g.m)), (3, vR (some o)), (4, vI (nI (5 * t)))], [], s11, cs + 8 + 0 + 0, sl + 489 + 0 + 0)
      refine w_wid (S := (1388, [(0, vR (some b)), (1, vR (some g.x)), (2, vR (some g.m)), (3, vR (some o)), (4, vI (nI (5 * t)))], [], s11)) (cs + 58) (sl + 12696) (by omega) (by omega) ?_
      exact K s11 ⟨k, hPO⟩
    · have hJ9 := hJ c4
      refine w_run 2 (S' := (587, [(6, vI v), (5, vI k), (0, vR (some b)), (1, vR (some g.x)), (2, vR (some g.m)), (3, vR (some o)), (4, vI (nI (5 * t)))], [vI 0, vR (some o)], s11, cs + 8 + 0 + 0, sl + 489 + 0 + 0)) rfl ?_
      refine w_lald rfl rfl e5 (vp_in_nI (n := 0) (by decide) (by decide)) ?_
      show WG _ _ _ _ _ _ _ (588, [(6, vI v), (5, vI k), (0, vR (some b)), (1, vR (some g.x)), (2, vR (some g.m)), (3, vR (some o)), (4, vI (nI (5 * t)))], [vL (s11.2.2.1 o 0)], s11, cs + 8 + 0 + 0, sl + 489 + 0 + 0)
      rw [hJ9]
      show WG _ _ _ _ _ _ _ (588, [(6, vI v), (5, vI k), (0, vR (some b)), (1, vR (some g.x)), (2, vR (some g.m)), (3, vR (some o)), (4, vI (nI (5 * t)))], [vL (fIL v)], s11, cs + 8 + 0 + 0, sl + 489 + 0 + 0)
      refine w_run 3 (S' := (592, [(6, vI v), (5, vI k), (0, vR (some b)), (1, vR (some g.x)), (2, vR (some g.m)), (3, vR (some o)), (4, vI (nI (5 * t)))], [vI (lg_cmp (fIL v) v.toInt64)], s11, cs + 8 + 0 + 0, sl + 489 + 0 + 0)) rfl ?_
      refine w_if_eq rfl (fun c5 => ?_) (fun c5 => (absurd (lg_self _) c5))
      refine w_run 1 (S' := (1388, [(6, vI v), (5, vI k), (0, vR (some b)), (1, vR (some g.x)), (2, vR (some g.m)), (3, vR (some o)), (4, vI (nI (5 * t)))], [], s11, cs + 8 + 0 + 0, sl + 489 + 0 + 0)) rfl ?_
      refine w_lsP [2, 3, 4, 5, 6] ?_
      show WG _ _ _ _ _ _ _ (1388, [(0, vR (some b)), (1, vR (some g.x)), (2, vR (some g.m)), (3, vR (some o)), (4, vI (nI (5 * t)))], [], s11, cs + 8 + 0 + 0, sl + 489 + 0 + 0)
      refine w_wid (S := (1388, [(0, vR (some b)), (1, vR (some g.x)), (2, vR (some g.m)), (3, vR (some o)), (4, vI (nI (5 * t)))], [], s11)) (cs + 58) (sl + 12696) (by omega) (by omega) ?_
      exact K s11 ⟨k, hPO⟩
  · refine w_run 3 (S' := (532, [(0, vR (some b)), (1, vR (some g.x)), (2, vR (some g.m)), (3, vR (some o)), (4, vI (nI (5 * t)))], [vR (some o), vI 1, vI (xs (5 * t + 2)), vI (xs (5 * t + 1)), vR (some g.x)], σ, cs, sl)) rfl ?_
    refine w_callW (st := []) (d := 12) [vR (some g.x), vI (xs (5 * t + 1)), vI (xs (5 * t + 2)), vI 1, vR (some o)] rfl mlw_121 rfl (by decide) (by decide +kernel) rfl (show cs + 8 ≤ 601024 by omega) (show sl + 489 ≤ 7293034 by omega) (st_send l E g t σ o R (by omega) hl0 ho (xs (5 * t + 1)) (xs (5 * t + 2)) 1 (Or.inr rfl)) (fun _ _ h => h.elim) ?_
    rintro r9 s9 ⟨k, rfl, hk9, hm⟩
    show WG _ _ _ _ _ _ _ (535, [(0, vR (some b)), (1, vR (some g.x)), (2, vR (some g.m)), (3, vR (some o)), (4, vI (nI (5 * t)))], [vI k], s9, cs + 8, sl + 489)
    refine w_run 6 (S' := (543, [(5, vI k), (0, vR (some b)), (1, vR (some g.x)), (2, vR (some g.m)), (3, vR (some o)), (4, vI (nI (5 * t)))], [vI ((nI (5 * t)) + 1), vR (some b), vR (some g.m)], s9, cs + 8, sl + 489)) rfl ?_
    rw [show ((nI (5 * t)) + 1 : Int32) = nI (5 * t + 1) from by simp only [nl0, nl1, nl2, nl3, nl4, nl5, nl6, nl8, nl9, nl10, nl12, nl15, nl16, nl20, nl24, nl32, nl40, nl64, nl65, nl384, pk_mul, nI_add]]
    show WG _ _ _ _ _ _ _ (543, [(5, vI k), (0, vR (some b)), (1, vR (some g.x)), (2, vR (some g.m)), (3, vR (some o)), (4, vI (nI (5 * t)))], [vI (nI (5 * t + 1)), vR (some b), vR (some g.m)], s9, cs + 8, sl + 489)
    refine w_sld rfl (fun _ h => h) (vp_in_nI (n := 5 * t + 1) (by omega) (by omega)) ?_
    show WG _ _ _ _ _ _ _ (544, [(5, vI k), (0, vR (some b)), (1, vR (some g.x)), (2, vR (some g.m)), (3, vR (some o)), (4, vI (nI (5 * t)))], [vI (xs (nI (5 * t + 1) : Int32).toNatClampNeg), vR (some g.m)], s9, cs + 8, sl + 489)
    rw [show (nI (5 * t + 1) : Int32).toNatClampNeg = 5 * t + 1 from nI_clamp (n := 5 * t + 1) (by omega)]
    show WG _ _ _ _ _ _ _ (544, [(5, vI k), (0, vR (some b)), (1, vR (some g.x)), (2, vR (some g.m)), (3, vR (some o)), (4, vI (nI (5 * t)))], [vI (xs (5 * t + 1)), vR (some g.m)], s9, cs + 8, sl + 489)
    refine w_run 4 (S' := (549, [(5, vI k), (0, vR (some b)), (1, vR (some g.x)), (2, vR (some g.m)), (3, vR (some o)), (4, vI (nI (5 * t)))], [vI ((nI (5 * t)) + 2), vR (some b), vI (xs (5 * t + 1)), vR (some g.m)], s9, cs + 8, sl + 489)) rfl ?_
    rw [show ((nI (5 * t)) + 2 : Int32) = nI (5 * t + 2) from by simp only [nl0, nl1, nl2, nl3, nl4, nl5, nl6, nl8, nl9, nl10, nl12, nl15, nl16, nl20, nl24, nl32, nl40, nl64, nl65, nl384, pk_mul, nI_add]]
    show WG _ _ _ _ _ _ _ (549, [(5, vI k), (0, vR (some b)), (1, vR (some g.x)), (2, vR (some g.m)), (3, vR (some o)), (4, vI (nI (5 * t)))], [vI (nI (5 * t + 2)), vR (some b), vI (xs (5 * t + 1)), vR (some g.m)], s9, cs + 8, sl + 489)
    refine w_sld rfl (fun _ h => h) (vp_in_nI (n := 5 * t + 2) (by omega) (by omega)) ?_
    show WG _ _ _ _ _ _ _ (550, [(5, vI k), (0, vR (some b)), (1, vR (some g.x)), (2, vR (some g.m)), (3, vR (some o)), (4, vI (nI (5 * t)))], [vI (xs (nI (5 * t + 2) : Int32).toNatClampNeg), vI (xs (5 * t + 1)), vR (some g.m)], s9, cs + 8, sl + 489)
    rw [show (nI (5 * t + 2) : Int32).toNatClampNeg = 5 * t + 2 from nI_clamp (n := 5 * t + 2) (by omega)]
    show WG _ _ _ _ _ _ _ (550, [(5, vI k), (0, vR (some b)), (1, vR (some g.x)), (2, vR (some g.m)), (3, vR (some o)), (4, vI (nI (5 * t)))], [vI (xs (5 * t + 2)), vI (xs (5 * t + 1)), vR (some g.m)], s9, cs + 8, sl + 489)
    refine w_run 4 (S' := (555, [(5, vI k), (0, vR (some b)), (1, vR (some g.x)), (2, vR (some g.m)), (3, vR (some o)), (4, vI (nI (5 * t)))], [vI ((nI (5 * t)) + 3), vR (some b), vI (xs (5 * t + 2)), vI (xs (5 * t + 1)), vR (some g.m)], s9, cs + 8, sl + 489)) rfl ?_
    rw [show ((nI (5 * t)) + 3 : Int32) = nI (5 * t + 3) from by simp only [nl0, nl1, nl2, nl3, nl4, nl5, nl6, nl8, nl9, nl10, nl12, nl15, nl16, nl20, nl24, nl32, nl40, nl64, nl65, nl384, pk_mul, nI_add]]
    show WG _ _ _ _ _ _ _ (555, [(5, vI k), (0, vR (some b)), (1, vR (some g.x)), (2, vR (some g.m)), (3, vR (some o)), (4, vI (nI (5 * t)))], [vI (nI (5 * t + 3)), vR (some b), vI (xs (5 * t + 2)), vI (xs (5 * t + 1)), vR (some g.m)], s9, cs + 8, sl + 489)
    refine w_sld rfl (fun _ h => h) (vp_in_nI (n := 5 * t + 3) (by omega) (by omega)) ?_
    show WG _ _ _ _ _ _ _ (556, [(5, vI k), (0, vR (some b)), (1, vR (some g.x)), (2, vR (some g.m)), (3, vR (some o)), (4, vI (nI (5 * t)))], [vI (xs (nI (5 * t + 3) : Int32).toNatClampNeg), vI (xs (5 * t + 2)), vI (xs (5 * t + 1)), vR (some g.m)], s9, cs + 8, sl + 489)
    rw [show (nI (5 * t + 3) : Int32).toNatClampNeg = 5 * t + 3 from nI_clamp (n := 5 * t + 3) (by omega)]
    show WG _ _ _ _ _ _ _ (556, [(5, vI k), (0, vR (some b)), (1, vR (some g.x)), (2, vR (some g.m)), (3, vR (some o)), (4, vI (nI (5 * t)))], [vI (xs (5 * t + 3)), vI (xs (5 * t + 2)), vI (xs (5 * t + 1)), vR (some g.m)], s9, cs + 8, sl + 489)
    refine w_if_eq rfl (fun c6 => (absurd c6 c1)) (fun c6 => ?_)
    refine w_run 2 (S' := (564, [(5, vI k), (0, vR (some b)), (1, vR (some g.x)), (2, vR (some g.m)), (3, vR (some o)), (4, vI (nI (5 * t)))], [vI 1, vI (xs (5 * t + 2)), vI (xs (5 * t + 1)), vR (some g.m)], s9, cs + 8, sl + 489)) rfl ?_
    refine w_callV (st := []) (d := 8) [vI (xs (5 * t + 1)), vI (xs (5 * t + 2)), vI 1] rfl ml_11_109 rfl rfl hk9 rfl rfl rfl (by decide) (by decide +kernel) rfl (show cs + 8 + 0 ≤ 601024 by omega) (show sl + 489 + 0 ≤ 7293034 by omega) hm (fun _ _ h => h.elim) ?_
    rintro r9 s10 ⟨v, rfl, hPO, hJ⟩
    obtain ⟨g', R', e1, e2, e3, e4, e5⟩ := id hPO
    have hM10 : MO s10 g.m g.A := by have h1 := R'.s.mo; rw [e2, e3] at h1; exact h1
    show WG _ _ _ _ _ _ _ (567, [(5, vI k), (0, vR (some b)), (1, vR (some g.x)), (2, vR (some g.m)), (3, vR (some o)), (4, vI (nI (5 * t)))], [vI v], s10, cs + 8 + 0, sl + 489 + 0)
    refine w_run 2 (S' := (570, [(6, vI v), (5, vI k), (0, vR (some b)), (1, vR (some g.x)), (2, vR (some g.m)), (3, vR (some o)), (4, vI (nI (5 * t)))], [vR (some g.m)], s10, cs + 8 + 0, sl + 489 + 0)) rfl ?_
    refine w_callV (st := []) (d := 8) [] rfl ml_11_85 rfl rfl hM10.1 rfl rfl rfl (by decide) (by decide +kernel) rfl (show cs + 8 + 0 + 0 ≤ 601024 by omega) (show sl + 489 + 0 + 0 ≤ 7293034 by omega) (c_mo_thrown l E 8 s10 g.m g.A hM10) (fun _ _ h => h.elim) ?_
    rintro r9 s11 ⟨rfl, rfl⟩
    rw [e4]
    show WG _ _ _ _ _ _ _ (573, [(6, vI v), (5, vI k), (0, vR (some b)), (1, vR (some g.x)), (2, vR (some g.m)), (3, vR (some o)), (4, vI (nI (5 * t)))], [vI k], s11, cs + 8 + 0 + 0, sl + 489 + 0 + 0)
    refine w_run 1 (S' := (575, [(6, vI v), (5, vI k), (0, vR (some b)), (1, vR (some g.x)), (2, vR (some g.m)), (3, vR (some o)), (4, vI (nI (5 * t)))], [vI k, vI k], s11, cs + 8 + 0 + 0, sl + 489 + 0 + 0)) rfl ?_
    refine w_ic_eq rfl (fun c7 => ?_) (fun c7 => (absurd rfl c7))
    refine w_run 1 (S' := (582, [(6, vI v), (5, vI k), (0, vR (some b)), (1, vR (some g.x)), (2, vR (some g.m)), (3, vR (some o)), (4, vI (nI (5 * t)))], [vI k], s11, cs + 8 + 0 + 0, sl + 489 + 0 + 0)) rfl ?_
    refine w_if_ne rfl (fun c8 => ?_) (fun c8 => ?_)
    · refine w_run 1 (S' := (1388, [(6, vI v), (5, vI k), (0, vR (some b)), (1, vR (some g.x)), (2, vR (some g.m)), (3, vR (some o)), (4, vI (nI (5 * t)))], [], s11, cs + 8 + 0 + 0, sl + 489 + 0 + 0)) rfl ?_
      refine w_lsP [2, 3, 4, 5, 6] ?_
      show WG _ _ _ _ _ _ _ (1388, [(0, vR (some b)), (1, vR (some g.x)), (2, vR (some g.m)), (3, vR (some o)), (4, vI (nI (5 * t)))], [], s11, cs + 8 + 0 + 0, sl + 489 + 0 + 0)
      refine w_wid (S := (1388, [(0, vR (some b)), (1, vR (some g.x)), (2, vR (some g.m)), (3, vR (some o)), (4, vI (nI (5 * t)))], [], s11)) (cs + 58) (sl + 12696) (by omega) (by omega) ?_
      exact K s11 ⟨k, hPO⟩
    · have hJ9 := hJ c8
      refine w_run 2 (S' := (587, [(6, vI v), (5, vI k), (0, vR (some b)), (1, vR (some g.x)), (2, vR (some g.m)), (3, vR (some o)), (4, vI (nI (5 * t)))], [vI 0, vR (some o)], s11, cs + 8 + 0 + 0, sl + 489 + 0 + 0)) rfl ?_
      refine w_lald rfl rfl e5 (vp_in_nI (n := 0) (by decide) (by decide)) ?_
      show WG _ _ _ _ _ _ _ (588, [(6, vI v), (5, vI k), (0, vR (some b)), (1, vR (some g.x)), (2, vR (some g.m)), (3, vR (some o)), (4, vI (nI (5 * t)))], [vL (s11.2.2.1 o 0)], s11, cs + 8 + 0 + 0, sl + 489 + 0 + 0)
      rw [hJ9]
      show WG _ _ _ _ _ _ _ (588, [(6, vI v), (5, vI k), (0, vR (some b)), (1, vR (some g.x)), (2, vR (some g.m)), (3, vR (some o)), (4, vI (nI (5 * t)))], [vL (fIL v)], s11, cs + 8 + 0 + 0, sl + 489 + 0 + 0)
      refine w_run 3 (S' := (592, [(6, vI v), (5, vI k), (0, vR (some b)), (1, vR (some g.x)), (2, vR (some g.m)), (3, vR (some o)), (4, vI (nI (5 * t)))], [vI (lg_cmp (fIL v) v.toInt64)], s11, cs + 8 + 0 + 0, sl + 489 + 0 + 0)) rfl ?_
      refine w_if_eq rfl (fun c9 => ?_) (fun c9 => (absurd (lg_self _) c9))
      refine w_run 1 (S' := (1388, [(6, vI v), (5, vI k), (0, vR (some b)), (1, vR (some g.x)), (2, vR (some g.m)), (3, vR (some o)), (4, vI (nI (5 * t)))], [], s11, cs + 8 + 0 + 0, sl + 489 + 0 + 0)) rfl ?_
      refine w_lsP [2, 3, 4, 5, 6] ?_
      show WG _ _ _ _ _ _ _ (1388, [(0, vR (some b)), (1, vR (some g.x)), (2, vR (some g.m)), (3, vR (some o)), (4, vI (nI (5 * t)))], [], s11, cs + 8 + 0 + 0, sl + 489 + 0 + 0)
      refine w_wid (S := (1388, [(0, vR (some b)), (1, vR (some g.x)), (2, vR (some g.m)), (3, vR (some o)), (4, vI (nI (5 * t)))], [], s11)) (cs + 58) (sl + 12696) (by omega) (by omega) ?_
      exact K s11 ⟨k, hPO⟩
set_option maxRecDepth 20000 in
set_option maxHeartbeats 4000000 in
theorem lc_take (l : Launch) (E : FE) (g : Gh) (t : Nat) (σ : Sg) (o b L : Nat) (xs : Nat → Int32) {args : Array Value} {QF : State → List Frame → State → Prop} {cs sl : Nat} (R : RR E g t σ) (ht : t ≤ 511) (hl0 : l.stackTraces = false) (ho : σ.2.2.2 o = 90) (hL : L ≤ 2560) (h5 : 5 * t + 5 ≤ L) (hcs : cs + 58 ≤ 601024) (hsl : sl + 12696 ≤ 7293034) (K : ∀ σ', (∃ k, PO E g.x g.m o g.A (t + 1) k σ') → WG l E room_1 132 args (SCR E b L xs) QF (1388, [(0, vR (some b)), (1, vR (some g.x)), (2, vR (some g.m)), (3, vR (some o)), (4, vI (nI (5 * t)))], [], σ', cs + 58, sl + 12696)) : WG l E room_1 132 args (SCR E b L xs) QF (600, [(0, vR (some b)), (1, vR (some g.x)), (2, vR (some g.m)), (3, vR (some o)), (4, vI (nI (5 * t)))], [], σ, cs, sl) := by
  refine w_run 5 (S' := (606, [(0, vR (some b)), (1, vR (some g.x)), (2, vR (some g.m)), (3, vR (some o)), (4, vI (nI (5 * t)))], [vI ((nI (5 * t)) + 1), vR (some b), vR (some g.x)], σ, cs, sl)) rfl ?_
  rw [show ((nI (5 * t)) + 1 : Int32) = nI (5 * t + 1) from by simp only [nl0, nl1, nl2, nl3, nl4, nl5, nl6, nl8, nl9, nl10, nl12, nl15, nl16, nl20, nl24, nl32, nl40, nl64, nl65, nl384, pk_mul, nI_add]]
  show WG _ _ _ _ _ _ _ (606, [(0, vR (some b)), (1, vR (some g.x)), (2, vR (some g.m)), (3, vR (some o)), (4, vI (nI (5 * t)))], [vI (nI (5 * t + 1)), vR (some b), vR (some g.x)], σ, cs, sl)
  refine w_sld rfl (fun _ h => h) (vp_in_nI (n := 5 * t + 1) (by omega) (by omega)) ?_
  show WG _ _ _ _ _ _ _ (607, [(0, vR (some b)), (1, vR (some g.x)), (2, vR (some g.m)), (3, vR (some o)), (4, vI (nI (5 * t)))], [vI (xs (nI (5 * t + 1) : Int32).toNatClampNeg), vR (some g.x)], σ, cs, sl)
  rw [show (nI (5 * t + 1) : Int32).toNatClampNeg = 5 * t + 1 from nI_clamp (n := 5 * t + 1) (by omega)]
  show WG _ _ _ _ _ _ _ (607, [(0, vR (some b)), (1, vR (some g.x)), (2, vR (some g.m)), (3, vR (some o)), (4, vI (nI (5 * t)))], [vI (xs (5 * t + 1)), vR (some g.x)], σ, cs, sl)
  refine w_run 1 (S' := (608, [(0, vR (some b)), (1, vR (some g.x)), (2, vR (some g.m)), (3, vR (some o)), (4, vI (nI (5 * t)))], [vR (some o), vI (xs (5 * t + 1)), vR (some g.x)], σ, cs, sl)) rfl ?_
  refine w_callW (st := []) (d := 12) [vR (some g.x), vI (xs (5 * t + 1)), vR (some o)] rfl mlw_122 rfl (by decide) (by decide +kernel) rfl (show cs + 3 ≤ 601024 by omega) (show sl + 470 ≤ 7293034 by omega) (st_take l E g t σ o R (by omega) hl0 ho (xs (5 * t + 1))) (fun _ _ h => h.elim) ?_
  rintro r9 s9 ⟨k, rfl, hk9, hm⟩
  show WG _ _ _ _ _ _ _ (611, [(0, vR (some b)), (1, vR (some g.x)), (2, vR (some g.m)), (3, vR (some o)), (4, vI (nI (5 * t)))], [vI k], s9, cs + 3, sl + 470)
  refine w_run 6 (S' := (619, [(5, vI k), (0, vR (some b)), (1, vR (some g.x)), (2, vR (some g.m)), (3, vR (some o)), (4, vI (nI (5 * t)))], [vI ((nI (5 * t)) + 1), vR (some b), vR (some g.m)], s9, cs + 3, sl + 470)) rfl ?_
  rw [show ((nI (5 * t)) + 1 : Int32) = nI (5 * t + 1) from by simp only [nl0, nl1, nl2, nl3, nl4, nl5, nl6, nl8, nl9, nl10, nl12, nl15, nl16, nl20, nl24, nl32, nl40, nl64, nl65, nl384, pk_mul, nI_add]]
  show WG _ _ _ _ _ _ _ (619, [(5, vI k), (0, vR (some b)), (1, vR (some g.x)), (2, vR (some g.m)), (3, vR (some o)), (4, vI (nI (5 * t)))], [vI (nI (5 * t + 1)), vR (some b), vR (some g.m)], s9, cs + 3, sl + 470)
  refine w_sld rfl (fun _ h => h) (vp_in_nI (n := 5 * t + 1) (by omega) (by omega)) ?_
  show WG _ _ _ _ _ _ _ (620, [(5, vI k), (0, vR (some b)), (1, vR (some g.x)), (2, vR (some g.m)), (3, vR (some o)), (4, vI (nI (5 * t)))], [vI (xs (nI (5 * t + 1) : Int32).toNatClampNeg), vR (some g.m)], s9, cs + 3, sl + 470)
  rw [show (nI (5 * t + 1) : Int32).toNatClampNeg = 5 * t + 1 from nI_clamp (n := 5 * t + 1) (by omega)]
  show WG _ _ _ _ _ _ _ (620, [(5, vI k), (0, vR (some b)), (1, vR (some g.x)), (2, vR (some g.m)), (3, vR (some o)), (4, vI (nI (5 * t)))], [vI (xs (5 * t + 1)), vR (some g.m)], s9, cs + 3, sl + 470)
  refine w_callV (st := []) (d := 8) [vI (xs (5 * t + 1))] rfl ml_11_113 rfl rfl hk9 rfl rfl rfl (by decide) (by decide +kernel) rfl (show cs + 3 + 0 ≤ 601024 by omega) (show sl + 470 + 0 ≤ 7293034 by omega) hm (fun _ _ h => h.elim) ?_
  rintro r9 s10 ⟨v, rfl, hPO, hJ⟩
  obtain ⟨g', R', e1, e2, e3, e4, e5⟩ := id hPO
  have hM10 : MO s10 g.m g.A := by have h1 := R'.s.mo; rw [e2, e3] at h1; exact h1
  show WG _ _ _ _ _ _ _ (623, [(5, vI k), (0, vR (some b)), (1, vR (some g.x)), (2, vR (some g.m)), (3, vR (some o)), (4, vI (nI (5 * t)))], [vI v], s10, cs + 3 + 0, sl + 470 + 0)
  refine w_run 2 (S' := (626, [(6, vI v), (5, vI k), (0, vR (some b)), (1, vR (some g.x)), (2, vR (some g.m)), (3, vR (some o)), (4, vI (nI (5 * t)))], [vR (some g.m)], s10, cs + 3 + 0, sl + 470 + 0)) rfl ?_
  refine w_callV (st := []) (d := 8) [] rfl ml_11_85 rfl rfl hM10.1 rfl rfl rfl (by decide) (by decide +kernel) rfl (show cs + 3 + 0 + 0 ≤ 601024 by omega) (show sl + 470 + 0 + 0 ≤ 7293034 by omega) (c_mo_thrown l E 8 s10 g.m g.A hM10) (fun _ _ h => h.elim) ?_
  rintro r9 s11 ⟨rfl, rfl⟩
  rw [e4]
  show WG _ _ _ _ _ _ _ (629, [(6, vI v), (5, vI k), (0, vR (some b)), (1, vR (some g.x)), (2, vR (some g.m)), (3, vR (some o)), (4, vI (nI (5 * t)))], [vI k], s11, cs + 3 + 0 + 0, sl + 470 + 0 + 0)
  refine w_run 1 (S' := (631, [(6, vI v), (5, vI k), (0, vR (some b)), (1, vR (some g.x)), (2, vR (some g.m)), (3, vR (some o)), (4, vI (nI (5 * t)))], [vI k, vI k], s11, cs + 3 + 0 + 0, sl + 470 + 0 + 0)) rfl ?_
  refine w_ic_eq rfl (fun c1 => ?_) (fun c1 => (absurd rfl c1))
  refine w_run 1 (S' := (638, [(6, vI v), (5, vI k), (0, vR (some b)), (1, vR (some g.x)), (2, vR (some g.m)), (3, vR (some o)), (4, vI (nI (5 * t)))], [vI k], s11, cs + 3 + 0 + 0, sl + 470 + 0 + 0)) rfl ?_
  refine w_if_ne rfl (fun c2 => ?_) (fun c2 => ?_)
  · refine w_run 1 (S' := (1388, [(6, vI v), (5, vI k), (0, vR (some b)), (1, vR (some g.x)), (2, vR (some g.m)), (3, vR (some o)), (4, vI (nI (5 * t)))], [], s11, cs + 3 + 0 + 0, sl + 470 + 0 + 0)) rfl ?_
    refine w_lsP [2, 3, 4, 5, 6] ?_
    show WG _ _ _ _ _ _ _ (1388, [(0, vR (some b)), (1, vR (some g.x)), (2, vR (some g.m)), (3, vR (some o)), (4, vI (nI (5 * t)))], [], s11, cs + 3 + 0 + 0, sl + 470 + 0 + 0)
    refine w_wid (S := (1388, [(0, vR (some b)), (1, vR (some g.x)), (2, vR (some g.m)), (3, vR (some o)), (4, vI (nI (5 * t)))], [], s11)) (cs + 58) (sl + 12696) (by omega) (by omega) ?_
    exact K s11 ⟨k, hPO⟩
  · have hJ9 := hJ c2
    refine w_run 2 (S' := (643, [(6, vI v), (5, vI k), (0, vR (some b)), (1, vR (some g.x)), (2, vR (some g.m)), (3, vR (some o)), (4, vI (nI (5 * t)))], [vI 0, vR (some o)], s11, cs + 3 + 0 + 0, sl + 470 + 0 + 0)) rfl ?_
    refine w_lald rfl rfl e5 (vp_in_nI (n := 0) (by decide) (by decide)) ?_
    show WG _ _ _ _ _ _ _ (644, [(6, vI v), (5, vI k), (0, vR (some b)), (1, vR (some g.x)), (2, vR (some g.m)), (3, vR (some o)), (4, vI (nI (5 * t)))], [vL (s11.2.2.1 o 0)], s11, cs + 3 + 0 + 0, sl + 470 + 0 + 0)
    rw [hJ9]
    show WG _ _ _ _ _ _ _ (644, [(6, vI v), (5, vI k), (0, vR (some b)), (1, vR (some g.x)), (2, vR (some g.m)), (3, vR (some o)), (4, vI (nI (5 * t)))], [vL (fIL v)], s11, cs + 3 + 0 + 0, sl + 470 + 0 + 0)
    refine w_run 3 (S' := (648, [(6, vI v), (5, vI k), (0, vR (some b)), (1, vR (some g.x)), (2, vR (some g.m)), (3, vR (some o)), (4, vI (nI (5 * t)))], [vI (lg_cmp (fIL v) v.toInt64)], s11, cs + 3 + 0 + 0, sl + 470 + 0 + 0)) rfl ?_
    refine w_if_eq rfl (fun c3 => ?_) (fun c3 => (absurd (lg_self _) c3))
    refine w_run 1 (S' := (1388, [(6, vI v), (5, vI k), (0, vR (some b)), (1, vR (some g.x)), (2, vR (some g.m)), (3, vR (some o)), (4, vI (nI (5 * t)))], [], s11, cs + 3 + 0 + 0, sl + 470 + 0 + 0)) rfl ?_
    refine w_lsP [2, 3, 4, 5, 6] ?_
    show WG _ _ _ _ _ _ _ (1388, [(0, vR (some b)), (1, vR (some g.x)), (2, vR (some g.m)), (3, vR (some o)), (4, vI (nI (5 * t)))], [], s11, cs + 3 + 0 + 0, sl + 470 + 0 + 0)
    refine w_wid (S := (1388, [(0, vR (some b)), (1, vR (some g.x)), (2, vR (some g.m)), (3, vR (some o)), (4, vI (nI (5 * t)))], [], s11)) (cs + 58) (sl + 12696) (by omega) (by omega) ?_
    exact K s11 ⟨k, hPO⟩
set_option maxRecDepth 20000 in
set_option maxHeartbeats 4000000 in
theorem lc_latest (l : Launch) (E : FE) (g : Gh) (t : Nat) (σ : Sg) (o b L : Nat) (xs : Nat → Int32) {args : Array Value} {QF : State → List Frame → State → Prop} {cs sl : Nat} (R : RR E g t σ) (ht : t ≤ 511) (hl0 : l.stackTraces = false) (ho : σ.2.2.2 o = 90) (hL : L ≤ 2560) (h5 : 5 * t + 5 ≤ L) (hcs : cs + 58 ≤ 601024) (hsl : sl + 12696 ≤ 7293034) (K : ∀ σ', (∃ k, PO E g.x g.m o g.A (t + 1) k σ') → WG l E room_1 132 args (SCR E b L xs) QF (1388, [(0, vR (some b)), (1, vR (some g.x)), (2, vR (some g.m)), (3, vR (some o)), (4, vI (nI (5 * t)))], [], σ', cs + 58, sl + 12696)) : WG l E room_1 132 args (SCR E b L xs) QF (656, [(0, vR (some b)), (1, vR (some g.x)), (2, vR (some g.m)), (3, vR (some o)), (4, vI (nI (5 * t)))], [], σ, cs, sl) := by
  refine w_run 5 (S' := (662, [(0, vR (some b)), (1, vR (some g.x)), (2, vR (some g.m)), (3, vR (some o)), (4, vI (nI (5 * t)))], [vI ((nI (5 * t)) + 1), vR (some b), vR (some g.x)], σ, cs, sl)) rfl ?_
  rw [show ((nI (5 * t)) + 1 : Int32) = nI (5 * t + 1) from by simp only [nl0, nl1, nl2, nl3, nl4, nl5, nl6, nl8, nl9, nl10, nl12, nl15, nl16, nl20, nl24, nl32, nl40, nl64, nl65, nl384, pk_mul, nI_add]]
  show WG _ _ _ _ _ _ _ (662, [(0, vR (some b)), (1, vR (some g.x)), (2, vR (some g.m)), (3, vR (some o)), (4, vI (nI (5 * t)))], [vI (nI (5 * t + 1)), vR (some b), vR (some g.x)], σ, cs, sl)
  refine w_sld rfl (fun _ h => h) (vp_in_nI (n := 5 * t + 1) (by omega) (by omega)) ?_
  show WG _ _ _ _ _ _ _ (663, [(0, vR (some b)), (1, vR (some g.x)), (2, vR (some g.m)), (3, vR (some o)), (4, vI (nI (5 * t)))], [vI (xs (nI (5 * t + 1) : Int32).toNatClampNeg), vR (some g.x)], σ, cs, sl)
  rw [show (nI (5 * t + 1) : Int32).toNatClampNeg = 5 * t + 1 from nI_clamp (n := 5 * t + 1) (by omega)]
  show WG _ _ _ _ _ _ _ (663, [(0, vR (some b)), (1, vR (some g.x)), (2, vR (some g.m)), (3, vR (some o)), (4, vI (nI (5 * t)))], [vI (xs (5 * t + 1)), vR (some g.x)], σ, cs, sl)
  refine w_run 4 (S' := (668, [(0, vR (some b)), (1, vR (some g.x)), (2, vR (some g.m)), (3, vR (some o)), (4, vI (nI (5 * t)))], [vI ((nI (5 * t)) + 2), vR (some b), vI (xs (5 * t + 1)), vR (some g.x)], σ, cs, sl)) rfl ?_
  rw [show ((nI (5 * t)) + 2 : Int32) = nI (5 * t + 2) from by simp only [nl0, nl1, nl2, nl3, nl4, nl5, nl6, nl8, nl9, nl10, nl12, nl15, nl16, nl20, nl24, nl32, nl40, nl64, nl65, nl384, pk_mul, nI_add]]
  show WG _ _ _ _ _ _ _ (668, [(0, vR (some b)), (1, vR (some g.x)), (2, vR (some g.m)), (3, vR (some o)), (4, vI (nI (5 * t)))], [vI (nI (5 * t + 2)), vR (some b), vI (xs (5 * t + 1)), vR (some g.x)], σ, cs, sl)
  refine w_sld rfl (fun _ h => h) (vp_in_nI (n := 5 * t + 2) (by omega) (by omega)) ?_
  show WG _ _ _ _ _ _ _ (669, [(0, vR (some b)), (1, vR (some g.x)), (2, vR (some g.m)), (3, vR (some o)), (4, vI (nI (5 * t)))], [vI (xs (nI (5 * t + 2) : Int32).toNatClampNeg), vI (xs (5 * t + 1)), vR (some g.x)], σ, cs, sl)
  rw [show (nI (5 * t + 2) : Int32).toNatClampNeg = 5 * t + 2 from nI_clamp (n := 5 * t + 2) (by omega)]
  show WG _ _ _ _ _ _ _ (669, [(0, vR (some b)), (1, vR (some g.x)), (2, vR (some g.m)), (3, vR (some o)), (4, vI (nI (5 * t)))], [vI (xs (5 * t + 2)), vI (xs (5 * t + 1)), vR (some g.x)], σ, cs, sl)
  refine w_run 1 (S' := (670, [(0, vR (some b)), (1, vR (some g.x)), (2, vR (some g.m)), (3, vR (some o)), (4, vI (nI (5 * t)))], [vR (some o), vI (xs (5 * t + 2)), vI (xs (5 * t + 1)), vR (some g.x)], σ, cs, sl)) rfl ?_
  refine w_callW (st := []) (d := 12) [vR (some g.x), vI (xs (5 * t + 1)), vI (xs (5 * t + 2)), vR (some o)] rfl mlw_123 rfl (by decide) (by decide +kernel) rfl (show cs + 3 ≤ 601024 by omega) (show sl + 18 ≤ 7293034 by omega) (st_latest l E g t σ o R (by omega) hl0 ho (xs (5 * t + 1)) (xs (5 * t + 2))) (fun _ _ h => h.elim) ?_
  rintro r9 s9 ⟨k, rfl, hk9, hm⟩
  show WG _ _ _ _ _ _ _ (673, [(0, vR (some b)), (1, vR (some g.x)), (2, vR (some g.m)), (3, vR (some o)), (4, vI (nI (5 * t)))], [vI k], s9, cs + 3, sl + 18)
  refine w_run 6 (S' := (681, [(5, vI k), (0, vR (some b)), (1, vR (some g.x)), (2, vR (some g.m)), (3, vR (some o)), (4, vI (nI (5 * t)))], [vI ((nI (5 * t)) + 1), vR (some b), vR (some g.m)], s9, cs + 3, sl + 18)) rfl ?_
  rw [show ((nI (5 * t)) + 1 : Int32) = nI (5 * t + 1) from by simp only [nl0, nl1, nl2, nl3, nl4, nl5, nl6, nl8, nl9, nl10, nl12, nl15, nl16, nl20, nl24, nl32, nl40, nl64, nl65, nl384, pk_mul, nI_add]]
  show WG _ _ _ _ _ _ _ (681, [(5, vI k), (0, vR (some b)), (1, vR (some g.x)), (2, vR (some g.m)), (3, vR (some o)), (4, vI (nI (5 * t)))], [vI (nI (5 * t + 1)), vR (some b), vR (some g.m)], s9, cs + 3, sl + 18)
  refine w_sld rfl (fun _ h => h) (vp_in_nI (n := 5 * t + 1) (by omega) (by omega)) ?_
  show WG _ _ _ _ _ _ _ (682, [(5, vI k), (0, vR (some b)), (1, vR (some g.x)), (2, vR (some g.m)), (3, vR (some o)), (4, vI (nI (5 * t)))], [vI (xs (nI (5 * t + 1) : Int32).toNatClampNeg), vR (some g.m)], s9, cs + 3, sl + 18)
  rw [show (nI (5 * t + 1) : Int32).toNatClampNeg = 5 * t + 1 from nI_clamp (n := 5 * t + 1) (by omega)]
  show WG _ _ _ _ _ _ _ (682, [(5, vI k), (0, vR (some b)), (1, vR (some g.x)), (2, vR (some g.m)), (3, vR (some o)), (4, vI (nI (5 * t)))], [vI (xs (5 * t + 1)), vR (some g.m)], s9, cs + 3, sl + 18)
  refine w_run 4 (S' := (687, [(5, vI k), (0, vR (some b)), (1, vR (some g.x)), (2, vR (some g.m)), (3, vR (some o)), (4, vI (nI (5 * t)))], [vI ((nI (5 * t)) + 2), vR (some b), vI (xs (5 * t + 1)), vR (some g.m)], s9, cs + 3, sl + 18)) rfl ?_
  rw [show ((nI (5 * t)) + 2 : Int32) = nI (5 * t + 2) from by simp only [nl0, nl1, nl2, nl3, nl4, nl5, nl6, nl8, nl9, nl10, nl12, nl15, nl16, nl20, nl24, nl32, nl40, nl64, nl65, nl384, pk_mul, nI_add]]
  show WG _ _ _ _ _ _ _ (687, [(5, vI k), (0, vR (some b)), (1, vR (some g.x)), (2, vR (some g.m)), (3, vR (some o)), (4, vI (nI (5 * t)))], [vI (nI (5 * t + 2)), vR (some b), vI (xs (5 * t + 1)), vR (some g.m)], s9, cs + 3, sl + 18)
  refine w_sld rfl (fun _ h => h) (vp_in_nI (n := 5 * t + 2) (by omega) (by omega)) ?_
  show WG _ _ _ _ _ _ _ (688, [(5, vI k), (0, vR (some b)), (1, vR (some g.x)), (2, vR (some g.m)), (3, vR (some o)), (4, vI (nI (5 * t)))], [vI (xs (nI (5 * t + 2) : Int32).toNatClampNeg), vI (xs (5 * t + 1)), vR (some g.m)], s9, cs + 3, sl + 18)
  rw [show (nI (5 * t + 2) : Int32).toNatClampNeg = 5 * t + 2 from nI_clamp (n := 5 * t + 2) (by omega)]
  show WG _ _ _ _ _ _ _ (688, [(5, vI k), (0, vR (some b)), (1, vR (some g.x)), (2, vR (some g.m)), (3, vR (some o)), (4, vI (nI (5 * t)))], [vI (xs (5 * t + 2)), vI (xs (5 * t + 1)), vR (some g.m)], s9, cs + 3, sl + 18)
  refine w_callV (st := []) (d := 8) [vI (xs (5 * t + 1)), vI (xs (5 * t + 2))] rfl ml_11_116 rfl rfl hk9 rfl rfl rfl (by decide) (by decide +kernel) rfl (show cs + 3 + 0 ≤ 601024 by omega) (show sl + 18 + 0 ≤ 7293034 by omega) hm (fun _ _ h => h.elim) ?_
  rintro r9 s10 ⟨v, rfl, hPO, hJ⟩
  obtain ⟨g', R', e1, e2, e3, e4, e5⟩ := id hPO
  have hM10 : MO s10 g.m g.A := by have h1 := R'.s.mo; rw [e2, e3] at h1; exact h1
  show WG _ _ _ _ _ _ _ (691, [(5, vI k), (0, vR (some b)), (1, vR (some g.x)), (2, vR (some g.m)), (3, vR (some o)), (4, vI (nI (5 * t)))], [vI v], s10, cs + 3 + 0, sl + 18 + 0)
  refine w_run 2 (S' := (694, [(6, vI v), (5, vI k), (0, vR (some b)), (1, vR (some g.x)), (2, vR (some g.m)), (3, vR (some o)), (4, vI (nI (5 * t)))], [vR (some g.m)], s10, cs + 3 + 0, sl + 18 + 0)) rfl ?_
  refine w_callV (st := []) (d := 8) [] rfl ml_11_85 rfl rfl hM10.1 rfl rfl rfl (by decide) (by decide +kernel) rfl (show cs + 3 + 0 + 0 ≤ 601024 by omega) (show sl + 18 + 0 + 0 ≤ 7293034 by omega) (c_mo_thrown l E 8 s10 g.m g.A hM10) (fun _ _ h => h.elim) ?_
  rintro r9 s11 ⟨rfl, rfl⟩
  rw [e4]
  show WG _ _ _ _ _ _ _ (697, [(6, vI v), (5, vI k), (0, vR (some b)), (1, vR (some g.x)), (2, vR (some g.m)), (3, vR (some o)), (4, vI (nI (5 * t)))], [vI k], s11, cs + 3 + 0 + 0, sl + 18 + 0 + 0)
  refine w_run 1 (S' := (699, [(6, vI v), (5, vI k), (0, vR (some b)), (1, vR (some g.x)), (2, vR (some g.m)), (3, vR (some o)), (4, vI (nI (5 * t)))], [vI k, vI k], s11, cs + 3 + 0 + 0, sl + 18 + 0 + 0)) rfl ?_
  refine w_ic_eq rfl (fun c1 => ?_) (fun c1 => (absurd rfl c1))
  refine w_run 1 (S' := (706, [(6, vI v), (5, vI k), (0, vR (some b)), (1, vR (some g.x)), (2, vR (some g.m)), (3, vR (some o)), (4, vI (nI (5 * t)))], [vI k], s11, cs + 3 + 0 + 0, sl + 18 + 0 + 0)) rfl ?_
  refine w_if_ne rfl (fun c2 => ?_) (fun c2 => ?_)
  · refine w_run 1 (S' := (1388, [(6, vI v), (5, vI k), (0, vR (some b)), (1, vR (some g.x)), (2, vR (some g.m)), (3, vR (some o)), (4, vI (nI (5 * t)))], [], s11, cs + 3 + 0 + 0, sl + 18 + 0 + 0)) rfl ?_
    refine w_lsP [2, 3, 4, 5, 6] ?_
    show WG _ _ _ _ _ _ _ (1388, [(0, vR (some b)), (1, vR (some g.x)), (2, vR (some g.m)), (3, vR (some o)), (4, vI (nI (5 * t)))], [], s11, cs + 3 + 0 + 0, sl + 18 + 0 + 0)
    refine w_wid (S := (1388, [(0, vR (some b)), (1, vR (some g.x)), (2, vR (some g.m)), (3, vR (some o)), (4, vI (nI (5 * t)))], [], s11)) (cs + 58) (sl + 12696) (by omega) (by omega) ?_
    exact K s11 ⟨k, hPO⟩
  · have hJ9 := hJ c2
    refine w_run 2 (S' := (711, [(6, vI v), (5, vI k), (0, vR (some b)), (1, vR (some g.x)), (2, vR (some g.m)), (3, vR (some o)), (4, vI (nI (5 * t)))], [vI 0, vR (some o)], s11, cs + 3 + 0 + 0, sl + 18 + 0 + 0)) rfl ?_
    refine w_lald rfl rfl e5 (vp_in_nI (n := 0) (by decide) (by decide)) ?_
    show WG _ _ _ _ _ _ _ (712, [(6, vI v), (5, vI k), (0, vR (some b)), (1, vR (some g.x)), (2, vR (some g.m)), (3, vR (some o)), (4, vI (nI (5 * t)))], [vL (s11.2.2.1 o 0)], s11, cs + 3 + 0 + 0, sl + 18 + 0 + 0)
    rw [hJ9]
    show WG _ _ _ _ _ _ _ (712, [(6, vI v), (5, vI k), (0, vR (some b)), (1, vR (some g.x)), (2, vR (some g.m)), (3, vR (some o)), (4, vI (nI (5 * t)))], [vL (fIL v)], s11, cs + 3 + 0 + 0, sl + 18 + 0 + 0)
    refine w_run 3 (S' := (716, [(6, vI v), (5, vI k), (0, vR (some b)), (1, vR (some g.x)), (2, vR (some g.m)), (3, vR (some o)), (4, vI (nI (5 * t)))], [vI (lg_cmp (fIL v) v.toInt64)], s11, cs + 3 + 0 + 0, sl + 18 + 0 + 0)) rfl ?_
    refine w_if_eq rfl (fun c3 => ?_) (fun c3 => (absurd (lg_self _) c3))
    refine w_run 1 (S' := (1388, [(6, vI v), (5, vI k), (0, vR (some b)), (1, vR (some g.x)), (2, vR (some g.m)), (3, vR (some o)), (4, vI (nI (5 * t)))], [], s11, cs + 3 + 0 + 0, sl + 18 + 0 + 0)) rfl ?_
    refine w_lsP [2, 3, 4, 5, 6] ?_
    show WG _ _ _ _ _ _ _ (1388, [(0, vR (some b)), (1, vR (some g.x)), (2, vR (some g.m)), (3, vR (some o)), (4, vI (nI (5 * t)))], [], s11, cs + 3 + 0 + 0, sl + 18 + 0 + 0)
    refine w_wid (S := (1388, [(0, vR (some b)), (1, vR (some g.x)), (2, vR (some g.m)), (3, vR (some o)), (4, vI (nI (5 * t)))], [], s11)) (cs + 58) (sl + 12696) (by omega) (by omega) ?_
    exact K s11 ⟨k, hPO⟩
