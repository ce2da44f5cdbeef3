/-! the law, case by case: 3 -/
set_option maxRecDepth 20000 in
set_option maxHeartbeats 4000000 in
theorem lc_reply (l : Launch) (E : FE) (g : Gh) (t : Nat) (σ : Sg) (o b L : Nat) (xs : Nat → Int32) {args : Array Value} {QF : State → List Frame → State → Prop} {cs sl : Nat} (R : RR E g t σ) (ht : t ≤ 511) (hl0 : l.stackTraces = false) (ho : σ.2.2.2 o = 90) (hL : L ≤ 2560) (h5 : 5 * t + 5 ≤ L) (hcs : cs + 58 ≤ 601024) (hsl : sl + 12696 ≤ 7293034) (K : ∀ σ', (∃ k, PO E g.x g.m o g.A (t + 1) k σ') → WG l E room_1 132 args (SCR E b L xs) QF (1388, [(0, vR (some b)), (1, vR (some g.x)), (2, vR (some g.m)), (3, vR (some o)), (4, vI (nI (5 * t)))], [], σ', cs + 58, sl + 12696)) : WG l E room_1 132 args (SCR E b L xs) QF (724, [(0, vR (some b)), (1, vR (some g.x)), (2, vR (some g.m)), (3, vR (some o)), (4, vI (nI (5 * t)))], [], σ, cs, sl) := by
  refine w_run 5 (S' := (730, [(0, vR (some b)), (1, vR (some g.x)), (2, vR (some g.m)), (3, vR (some o)), (4, vI (nI (5 * t)))], [vI ((nI (5 * t)) + 1), vR (some b), vR (some g.x)], σ, cs, sl)) rfl ?_
  rw [show ((nI (5 * t)) + 1 : Int32) = nI (5 * t + 1) from by simp only [nl0, nl1, nl2, nl3, nl4, nl5, nl6, nl8, nl9, nl10, nl12, nl15, nl16, nl20, nl24, nl32, nl40, nl64, nl65, nl384, pk_mul, nI_add]]
  show WG _ _ _ _ _ _ _ (730, [(0, vR (some b)), (1, vR (some g.x)), (2, vR (some g.m)), (3, vR (some o)), (4, vI (nI (5 * t)))], [vI (nI (5 * t + 1)), vR (some b), vR (some g.x)], σ, cs, sl)
  refine w_sld rfl (fun _ h => h) (vp_in_nI (n := 5 * t + 1) (by omega) (by omega)) ?_
  show WG _ _ _ _ _ _ _ (731, [(0, vR (some b)), (1, vR (some g.x)), (2, vR (some g.m)), (3, vR (some o)), (4, vI (nI (5 * t)))], [vI (xs (nI (5 * t + 1) : Int32).toNatClampNeg), vR (some g.x)], σ, cs, sl)
  rw [show (nI (5 * t + 1) : Int32).toNatClampNeg = 5 * t + 1 from nI_clamp (n := 5 * t + 1) (by omega)]
  show WG _ _ _ _ _ _ _ (731, [(0, vR (some b)), (1, vR (some g.x)), (2, vR (some g.m)), (3, vR (some o)), (4, vI (nI (5 * t)))], [vI (xs (5 * t + 1)), vR (some g.x)], σ, cs, sl)
  refine w_run 1 (S' := (732, [(0, vR (some b)), (1, vR (some g.x)), (2, vR (some g.m)), (3, vR (some o)), (4, vI (nI (5 * t)))], [vR (some o), vI (xs (5 * t + 1)), vR (some g.x)], σ, cs, sl)) rfl ?_
  refine w_callW (st := []) (d := 12) [vR (some g.x), vI (xs (5 * t + 1)), vR (some o)] rfl mlw_124 rfl (by decide) (by decide +kernel) rfl (show cs + 8 ≤ 601024 by omega) (show sl + 489 ≤ 7293034 by omega) (st_reply l E g t σ o R (by omega) hl0 ho (xs (5 * t + 1))) (fun _ _ h => h.elim) ?_
  rintro r9 s9 ⟨k, rfl, hk9, hm⟩
  show WG _ _ _ _ _ _ _ (735, [(0, vR (some b)), (1, vR (some g.x)), (2, vR (some g.m)), (3, vR (some o)), (4, vI (nI (5 * t)))], [vI k], s9, cs + 8, sl + 489)
  refine w_run 6 (S' := (743, [(5, vI k), (0, vR (some b)), (1, vR (some g.x)), (2, vR (some g.m)), (3, vR (some o)), (4, vI (nI (5 * t)))], [vI ((nI (5 * t)) + 1), vR (some b), vR (some g.m)], s9, cs + 8, sl + 489)) rfl ?_
  rw [show ((nI (5 * t)) + 1 : Int32) = nI (5 * t + 1) from by simp only [nl0, nl1, nl2, nl3, nl4, nl5, nl6, nl8, nl9, nl10, nl12, nl15, nl16, nl20, nl24, nl32, nl40, nl64, nl65, nl384, pk_mul, nI_add]]
  show WG _ _ _ _ _ _ _ (743, [(5, vI k), (0, vR (some b)), (1, vR (some g.x)), (2, vR (some g.m)), (3, vR (some o)), (4, vI (nI (5 * t)))], [vI (nI (5 * t + 1)), vR (some b), vR (some g.m)], s9, cs + 8, sl + 489)
  refine w_sld rfl (fun _ h => h) (vp_in_nI (n := 5 * t + 1) (by omega) (by omega)) ?_
  show WG _ _ _ _ _ _ _ (744, [(5, vI k), (0, vR (some b)), (1, vR (some g.x)), (2, vR (some g.m)), (3, vR (some o)), (4, vI (nI (5 * t)))], [vI (xs (nI (5 * t + 1) : Int32).toNatClampNeg), vR (some g.m)], s9, cs + 8, sl + 489)
  rw [show (nI (5 * t + 1) : Int32).toNatClampNeg = 5 * t + 1 from nI_clamp (n := 5 * t + 1) (by omega)]
  show WG _ _ _ _ _ _ _ (744, [(5, vI k), (0, vR (some b)), (1, vR (some g.x)), (2, vR (some g.m)), (3, vR (some o)), (4, vI (nI (5 * t)))], [vI (xs (5 * t + 1)), vR (some g.m)], s9, cs + 8, sl + 489)
  refine w_callV (st := []) (d := 8) [vI (xs (5 * t + 1))] rfl ml_11_119 rfl rfl hk9 rfl rfl rfl (by decide) (by decide +kernel) rfl (show cs + 8 + 0 ≤ 601024 by omega) (show sl + 489 + 0 ≤ 7293034 by omega) hm (fun _ _ h => h.elim) ?_
  rintro r9 s10 ⟨v, rfl, hPO, hJ⟩
  obtain ⟨g', R', e1, e2, e3, e4, e5⟩ := id hPO
  have hM10 : MO s10 g.m g.A := by have h1 := R'.s.mo; rw [e2, e3] at h1; exact h1
  show WG _ _ _ _ _ _ _ (747, [(5, vI k), (0, vR (some b)), (1, vR (some g.x)), (2, vR (some g.m)), (3, vR (some o)), (4, vI (nI (5 * t)))], [vI v], s10, cs + 8 + 0, sl + 489 + 0)
  refine w_run 2 (S' := (750, [(6, vI v), (5, vI k), (0, vR (some b)), (1, vR (some g.x)), (2, vR (some g.m)), (3, vR (some o)), (4, vI (nI (5 * t)))], [vR (some g.m)], s10, cs + 8 + 0, sl + 489 + 0)) rfl ?_
  refine w_callV (st := []) (d := 8) [] rfl ml_11_85 rfl rfl hM10.1 rfl rfl rfl (by decide) (by decide +kernel) rfl (show cs + 8 + 0 + 0 ≤ 601024 by omega) (show sl + 489 + 0 + 0 ≤ 7293034 by omega) (c_mo_thrown l E 8 s10 g.m g.A hM10) (fun _ _ h => h.elim) ?_
  rintro r9 s11 ⟨rfl, rfl⟩
  rw [e4]
  show WG _ _ _ _ _ _ _ (753, [(6, vI v), (5, vI k), (0, vR (some b)), (1, vR (some g.x)), (2, vR (some g.m)), (3, vR (some o)), (4, vI (nI (5 * t)))], [vI k], s11, cs + 8 + 0 + 0, sl + 489 + 0 + 0)
  refine w_run 1 (S' := (755, [(6, vI v), (5, vI k), (0, vR (some b)), (1, vR (some g.x)), (2, vR (some g.m)), (3, vR (some o)), (4, vI (nI (5 * t)))], [vI k, vI k], s11, cs + 8 + 0 + 0, sl + 489 + 0 + 0)) rfl ?_
  refine w_ic_eq rfl (fun c1 => ?_) (fun c1 => (absurd rfl c1))
  refine w_run 1 (S' := (762, [(6, vI v), (5, vI k), (0, vR (some b)), (1, vR (some g.x)), (2, vR (some g.m)), (3, vR (some o)), (4, vI (nI (5 * t)))], [vI k], s11, cs + 8 + 0 + 0, sl + 489 + 0 + 0)) rfl ?_
  refine w_if_ne rfl (fun c2 => ?_) (fun c2 => ?_)
  · refine w_run 1 (S' := (1388, [(6, vI v), (5, vI k), (0, vR (some b)), (1, vR (some g.x)), (2, vR (some g.m)), (3, vR (some o)), (4, vI (nI (5 * t)))], [], s11, cs + 8 + 0 + 0, sl + 489 + 0 + 0)) rfl ?_
    refine w_lsP [2, 3, 4, 5, 6] ?_
    show WG _ _ _ _ _ _ _ (1388, [(0, vR (some b)), (1, vR (some g.x)), (2, vR (some g.m)), (3, vR (some o)), (4, vI (nI (5 * t)))], [], s11, cs + 8 + 0 + 0, sl + 489 + 0 + 0)
    refine w_wid (S := (1388, [(0, vR (some b)), (1, vR (some g.x)), (2, vR (some g.m)), (3, vR (some o)), (4, vI (nI (5 * t)))], [], s11)) (cs + 58) (sl + 12696) (by omega) (by omega) ?_
    exact K s11 ⟨k, hPO⟩
  · have hJ9 := hJ c2
    refine w_run 2 (S' := (767, [(6, vI v), (5, vI k), (0, vR (some b)), (1, vR (some g.x)), (2, vR (some g.m)), (3, vR (some o)), (4, vI (nI (5 * t)))], [vI 0, vR (some o)], s11, cs + 8 + 0 + 0, sl + 489 + 0 + 0)) rfl ?_
    refine w_lald rfl rfl e5 (vp_in_nI (n := 0) (by decide) (by decide)) ?_
    show WG _ _ _ _ _ _ _ (768, [(6, vI v), (5, vI k), (0, vR (some b)), (1, vR (some g.x)), (2, vR (some g.m)), (3, vR (some o)), (4, vI (nI (5 * t)))], [vL (s11.2.2.1 o 0)], s11, cs + 8 + 0 + 0, sl + 489 + 0 + 0)
    rw [hJ9]
    show WG _ _ _ _ _ _ _ (768, [(6, vI v), (5, vI k), (0, vR (some b)), (1, vR (some g.x)), (2, vR (some g.m)), (3, vR (some o)), (4, vI (nI (5 * t)))], [vL (fIL v)], s11, cs + 8 + 0 + 0, sl + 489 + 0 + 0)
    refine w_run 3 (S' := (772, [(6, vI v), (5, vI k), (0, vR (some b)), (1, vR (some g.x)), (2, vR (some g.m)), (3, vR (some o)), (4, vI (nI (5 * t)))], [vI (lg_cmp (fIL v) v.toInt64)], s11, cs + 8 + 0 + 0, sl + 489 + 0 + 0)) rfl ?_
    refine w_if_eq rfl (fun c3 => ?_) (fun c3 => (absurd (lg_self _) c3))
    refine w_run 1 (S' := (1388, [(6, vI v), (5, vI k), (0, vR (some b)), (1, vR (some g.x)), (2, vR (some g.m)), (3, vR (some o)), (4, vI (nI (5 * t)))], [], s11, cs + 8 + 0 + 0, sl + 489 + 0 + 0)) rfl ?_
    refine w_lsP [2, 3, 4, 5, 6] ?_
    show WG _ _ _ _ _ _ _ (1388, [(0, vR (some b)), (1, vR (some g.x)), (2, vR (some g.m)), (3, vR (some o)), (4, vI (nI (5 * t)))], [], s11, cs + 8 + 0 + 0, sl + 489 + 0 + 0)
    refine w_wid (S := (1388, [(0, vR (some b)), (1, vR (some g.x)), (2, vR (some g.m)), (3, vR (some o)), (4, vI (nI (5 * t)))], [], s11)) (cs + 58) (sl + 12696) (by omega) (by omega) ?_
    exact K s11 ⟨k, hPO⟩
set_option maxRecDepth 20000 in
set_option maxHeartbeats 4000000 in
theorem lc_free (l : Launch) (E : FE) (g : Gh) (t : Nat) (σ : Sg) (o b L : Nat) (xs : Nat → Int32) {args : Array Value} {QF : State → List Frame → State → Prop} {cs sl : Nat} (R : RR E g t σ) (ht : t ≤ 511) (hl0 : l.stackTraces = false) (ho : σ.2.2.2 o = 90) (hL : L ≤ 2560) (h5 : 5 * t + 5 ≤ L) (hcs : cs + 58 ≤ 601024) (hsl : sl + 12696 ≤ 7293034) (K : ∀ σ', (∃ k, PO E g.x g.m o g.A (t + 1) k σ') → WG l E room_1 132 args (SCR E b L xs) QF (1388, [(0, vR (some b)), (1, vR (some g.x)), (2, vR (some g.m)), (3, vR (some o)), (4, vI (nI (5 * t)))], [], σ', cs + 58, sl + 12696)) : WG l E room_1 132 args (SCR E b L xs) QF (780, [(0, vR (some b)), (1, vR (some g.x)), (2, vR (some g.m)), (3, vR (some o)), (4, vI (nI (5 * t)))], [], σ, cs, sl) := by
  refine w_run 5 (S' := (786, [(0, vR (some b)), (1, vR (some g.x)), (2, vR (some g.m)), (3, vR (some o)), (4, vI (nI (5 * t)))], [vI ((nI (5 * t)) + 1), vR (some b), vR (some g.x)], σ, cs, sl)) rfl ?_
  rw [show ((nI (5 * t)) + 1 : Int32) = nI (5 * t + 1) from by simp only [nl0, nl1, nl2, nl3, nl4, nl5, nl6, nl8, nl9, nl10, nl12, nl15, nl16, nl20, nl24, nl32, nl40, nl64, nl65, nl384, pk_mul, nI_add]]
  show WG _ _ _ _ _ _ _ (786, [(0, vR (some b)), (1, vR (some g.x)), (2, vR (some g.m)), (3, vR (some o)), (4, vI (nI (5 * t)))], [vI (nI (5 * t + 1)), vR (some b), vR (some g.x)], σ, cs, sl)
  refine w_sld rfl (fun _ h => h) (vp_in_nI (n := 5 * t + 1) (by omega) (by omega)) ?_
  show WG _ _ _ _ _ _ _ (787, [(0, vR (some b)), (1, vR (some g.x)), (2, vR (some g.m)), (3, vR (some o)), (4, vI (nI (5 * t)))], [vI (xs (nI (5 * t + 1) : Int32).toNatClampNeg), vR (some g.x)], σ, cs, sl)
  rw [show (nI (5 * t + 1) : Int32).toNatClampNeg = 5 * t + 1 from nI_clamp (n := 5 * t + 1) (by omega)]
  show WG _ _ _ _ _ _ _ (787, [(0, vR (some b)), (1, vR (some g.x)), (2, vR (some g.m)), (3, vR (some o)), (4, vI (nI (5 * t)))], [vI (xs (5 * t + 1)), vR (some g.x)], σ, cs, sl)
  refine w_run 4 (S' := (792, [(0, vR (some b)), (1, vR (some g.x)), (2, vR (some g.m)), (3, vR (some o)), (4, vI (nI (5 * t)))], [vI ((nI (5 * t)) + 2), vR (some b), vI (xs (5 * t + 1)), vR (some g.x)], σ, cs, sl)) rfl ?_
  rw [show ((nI (5 * t)) + 2 : Int32) = nI (5 * t + 2) from by simp only [nl0, nl1, nl2, nl3, nl4, nl5, nl6, nl8, nl9, nl10, nl12, nl15, nl16, nl20, nl24, nl32, nl40, nl64, nl65, nl384, pk_mul, nI_add]]
  show WG _ _ _ _ _ _ _ (792, [(0, vR (some b)), (1, vR (some g.x)), (2, vR (some g.m)), (3, vR (some o)), (4, vI (nI (5 * t)))], [vI (nI (5 * t + 2)), vR (some b), vI (xs (5 * t + 1)), vR (some g.x)], σ, cs, sl)
  refine w_sld rfl (fun _ h => h) (vp_in_nI (n := 5 * t + 2) (by omega) (by omega)) ?_
  show WG _ _ _ _ _ _ _ (793, [(0, vR (some b)), (1, vR (some g.x)), (2, vR (some g.m)), (3, vR (some o)), (4, vI (nI (5 * t)))], [vI (xs (nI (5 * t + 2) : Int32).toNatClampNeg), vI (xs (5 * t + 1)), vR (some g.x)], σ, cs, sl)
  rw [show (nI (5 * t + 2) : Int32).toNatClampNeg = 5 * t + 2 from nI_clamp (n := 5 * t + 2) (by omega)]
  show WG _ _ _ _ _ _ _ (793, [(0, vR (some b)), (1, vR (some g.x)), (2, vR (some g.m)), (3, vR (some o)), (4, vI (nI (5 * t)))], [vI (xs (5 * t + 2)), vI (xs (5 * t + 1)), vR (some g.x)], σ, cs, sl)
  refine w_run 1 (S' := (794, [(0, vR (some b)), (1, vR (some g.x)), (2, vR (some g.m)), (3, vR (some o)), (4, vI (nI (5 * t)))], [vR (some o), vI (xs (5 * t + 2)), vI (xs (5 * t + 1)), vR (some g.x)], σ, cs, sl)) rfl ?_
  refine w_callW (st := []) (d := 12) [vR (some g.x), vI (xs (5 * t + 1)), vI (xs (5 * t + 2)), vR (some o)] rfl mlw_125 rfl (by decide) (by decide +kernel) rfl (show cs + 4 ≤ 601024 by omega) (show sl + 470 ≤ 7293034 by omega) (st_free l E g t σ o R (by omega) hl0 ho (xs (5 * t + 1)) (xs (5 * t + 2))) (fun _ _ h => h.elim) ?_
  rintro r9 s9 ⟨k, rfl, hk9, hm⟩
  show WG _ _ _ _ _ _ _ (797, [(0, vR (some b)), (1, vR (some g.x)), (2, vR (some g.m)), (3, vR (some o)), (4, vI (nI (5 * t)))], [vI k], s9, cs + 4, sl + 470)
  refine w_run 6 (S' := (805, [(5, vI k), (0, vR (some b)), (1, vR (some g.x)), (2, vR (some g.m)), (3, vR (some o)), (4, vI (nI (5 * t)))], [vI ((nI (5 * t)) + 1), vR (some b), vR (some g.m)], s9, cs + 4, sl + 470)) rfl ?_
  rw [show ((nI (5 * t)) + 1 : Int32) = nI (5 * t + 1) from by simp only [nl0, nl1, nl2, nl3, nl4, nl5, nl6, nl8, nl9, nl10, nl12, nl15, nl16, nl20, nl24, nl32, nl40, nl64, nl65, nl384, pk_mul, nI_add]]
  show WG _ _ _ _ _ _ _ (805, [(5, vI k), (0, vR (some b)), (1, vR (some g.x)), (2, vR (some g.m)), (3, vR (some o)), (4, vI (nI (5 * t)))], [vI (nI (5 * t + 1)), vR (some b), vR (some g.m)], s9, cs + 4, sl + 470)
  refine w_sld rfl (fun _ h => h) (vp_in_nI (n := 5 * t + 1) (by omega) (by omega)) ?_
  show WG _ _ _ _ _ _ _ (806, [(5, vI k), (0, vR (some b)), (1, vR (some g.x)), (2, vR (some g.m)), (3, vR (some o)), (4, vI (nI (5 * t)))], [vI (xs (nI (5 * t + 1) : Int32).toNatClampNeg), vR (some g.m)], s9, cs + 4, sl + 470)
  rw [show (nI (5 * t + 1) : Int32).toNatClampNeg = 5 * t + 1 from nI_clamp (n := 5 * t + 1) (by omega)]
  show WG _ _ _ _ _ _ _ (806, [(5, vI k), (0, vR (some b)), (1, vR (some g.x)), (2, vR (some g.m)), (3, vR (some o)), (4, vI (nI (5 * t)))], [vI (xs (5 * t + 1)), vR (some g.m)], s9, cs + 4, sl + 470)
  refine w_run 4 (S' := (811, [(5, vI k), (0, vR (some b)), (1, vR (some g.x)), (2, vR (some g.m)), (3, vR (some o)), (4, vI (nI (5 * t)))], [vI ((nI (5 * t)) + 2), vR (some b), vI (xs (5 * t + 1)), vR (some g.m)], s9, cs + 4, sl + 470)) rfl ?_
  rw [show ((nI (5 * t)) + 2 : Int32) = nI (5 * t + 2) from by simp only [nl0, nl1, nl2, nl3, nl4, nl5, nl6, nl8, nl9, nl10, nl12, nl15, nl16, nl20, nl24, nl32, nl40, nl64, nl65, nl384, pk_mul, nI_add]]
  show WG _ _ _ _ _ _ _ (811, [(5, vI k), (0, vR (some b)), (1, vR (some g.x)), (2, vR (some g.m)), (3, vR (some o)), (4, vI (nI (5 * t)))], [vI (nI (5 * t + 2)), vR (some b), vI (xs (5 * t + 1)), vR (some g.m)], s9, cs + 4, sl + 470)
  refine w_sld rfl (fun _ h => h) (vp_in_nI (n := 5 * t + 2) (by omega) (by omega)) ?_
  show WG _ _ _ _ _ _ _ (812, [(5, vI k), (0, vR (some b)), (1, vR (some g.x)), (2, vR (some g.m)), (3, vR (some o)), (4, vI (nI (5 * t)))], [vI (xs (nI (5 * t + 2) : Int32).toNatClampNeg), vI (xs (5 * t + 1)), vR (some g.m)], s9, cs + 4, sl + 470)
  rw [show (nI (5 * t + 2) : Int32).toNatClampNeg = 5 * t + 2 from nI_clamp (n := 5 * t + 2) (by omega)]
  show WG _ _ _ _ _ _ _ (812, [(5, vI k), (0, vR (some b)), (1, vR (some g.x)), (2, vR (some g.m)), (3, vR (some o)), (4, vI (nI (5 * t)))], [vI (xs (5 * t + 2)), vI (xs (5 * t + 1)), vR (some g.m)], s9, cs + 4, sl + 470)
  refine w_callV (st := []) (d := 8) [vI (xs (5 * t + 1)), vI (xs (5 * t + 2))] rfl ml_11_122 rfl rfl hk9 rfl rfl rfl (by decide) (by decide +kernel) rfl (show cs + 4 + 0 ≤ 601024 by omega) (show sl + 470 + 0 ≤ 7293034 by omega) hm (fun _ _ h => h.elim) ?_
  rintro r9 s10 ⟨v, rfl, hPO, hJ⟩
  obtain ⟨g', R', e1, e2, e3, e4, e5⟩ := id hPO
  have hM10 : MO s10 g.m g.A := by have h1 := R'.s.mo; rw [e2, e3] at h1; exact h1
  show WG _ _ _ _ _ _ _ (815, [(5, vI k), (0, vR (some b)), (1, vR (some g.x)), (2, vR (some g.m)), (3, vR (some o)), (4, vI (nI (5 * t)))], [vI v], s10, cs + 4 + 0, sl + 470 + 0)
  refine w_run 2 (S' := (818, [(6, vI v), (5, vI k), (0, vR (some b)), (1, vR (some g.x)), (2, vR (some g.m)), (3, vR (some o)), (4, vI (nI (5 * t)))], [vR (some g.m)], s10, cs + 4 + 0, sl + 470 + 0)) rfl ?_
  refine w_callV (st := []) (d := 8) [] rfl ml_11_85 rfl rfl hM10.1 rfl rfl rfl (by decide) (by decide +kernel) rfl (show cs + 4 + 0 + 0 ≤ 601024 by omega) (show sl + 470 + 0 + 0 ≤ 7293034 by omega) (c_mo_thrown l E 8 s10 g.m g.A hM10) (fun _ _ h => h.elim) ?_
  rintro r9 s11 ⟨rfl, rfl⟩
  rw [e4]
  show WG _ _ _ _ _ _ _ (821, [(6, vI v), (5, vI k), (0, vR (some b)), (1, vR (some g.x)), (2, vR (some g.m)), (3, vR (some o)), (4, vI (nI (5 * t)))], [vI k], s11, cs + 4 + 0 + 0, sl + 470 + 0 + 0)
  refine w_run 1 (S' := (823, [(6, vI v), (5, vI k), (0, vR (some b)), (1, vR (some g.x)), (2, vR (some g.m)), (3, vR (some o)), (4, vI (nI (5 * t)))], [vI k, vI k], s11, cs + 4 + 0 + 0, sl + 470 + 0 + 0)) rfl ?_
  refine w_ic_eq rfl (fun c1 => ?_) (fun c1 => (absurd rfl c1))
  refine w_run 1 (S' := (830, [(6, vI v), (5, vI k), (0, vR (some b)), (1, vR (some g.x)), (2, vR (some g.m)), (3, vR (some o)), (4, vI (nI (5 * t)))], [vI k], s11, cs + 4 + 0 + 0, sl + 470 + 0 + 0)) rfl ?_
  refine w_if_ne rfl (fun c2 => ?_) (fun c2 => ?_)
  · refine w_run 1 (S' := (1388, [(6, vI v), (5, vI k), (0, vR (some b)), (1, vR (some g.x)), (2, vR (some g.m)), (3, vR (some o)), (4, vI (nI (5 * t)))], [], s11, cs + 4 + 0 + 0, sl + 470 + 0 + 0)) rfl ?_
    refine w_lsP [2, 3, 4, 5, 6] ?_
    show WG _ _ _ _ _ _ _ (1388, [(0, vR (some b)), (1, vR (some g.x)), (2, vR (some g.m)), (3, vR (some o)), (4, vI (nI (5 * t)))], [], s11, cs + 4 + 0 + 0, sl + 470 + 0 + 0)
    refine w_wid (S := (1388, [(0, vR (some b)), (1, vR (some g.x)), (2, vR (some g.m)), (3, vR (some o)), (4, vI (nI (5 * t)))], [], s11)) (cs + 58) (sl + 12696) (by omega) (by omega) ?_
    exact K s11 ⟨k, hPO⟩
  · have hJ9 := hJ c2
    refine w_run 2 (S' := (835, [(6, vI v), (5, vI k), (0, vR (some b)), (1, vR (some g.x)), (2, vR (some g.m)), (3, vR (some o)), (4, vI (nI (5 * t)))], [vI 0, vR (some o)], s11, cs + 4 + 0 + 0, sl + 470 + 0 + 0)) rfl ?_
    refine w_lald rfl rfl e5 (vp_in_nI (n := 0) (by decide) (by decide)) ?_
    show WG _ _ _ _ _ _ _ (836, [(6, vI v), (5, vI k), (0, vR (some b)), (1, vR (some g.x)), (2, vR (some g.m)), (3, vR (some o)), (4, vI (nI (5 * t)))], [vL (s11.2.2.1 o 0)], s11, cs + 4 + 0 + 0, sl + 470 + 0 + 0)
    rw [hJ9]
    show WG _ _ _ _ _ _ _ (836, [(6, vI v), (5, vI k), (0, vR (some b)), (1, vR (some g.x)), (2, vR (some g.m)), (3, vR (some o)), (4, vI (nI (5 * t)))], [vL (fZL v)], s11, cs + 4 + 0 + 0, sl + 470 + 0 + 0)
    refine w_run 1 (S' := (838, [(6, vI v), (5, vI k), (0, vR (some b)), (1, vR (some g.x)), (2, vR (some g.m)), (3, vR (some o)), (4, vI (nI (5 * t)))], [vI v, vL (fZL v)], s11, cs + 4 + 0 + 0, sl + 470 + 0 + 0)) rfl ?_
    refine w_if_eq rfl (fun c3 => ?_) (fun c3 => ?_)
    · refine w_run 2 (S' := (847, [(6, vI v), (5, vI k), (0, vR (some b)), (1, vR (some g.x)), (2, vR (some g.m)), (3, vR (some o)), (4, vI (nI (5 * t)))], [vI (lg_cmp (fZL v) 0)], s11, cs + 4 + 0 + 0, sl + 470 + 0 + 0)) rfl ?_
      refine w_if_eq rfl (fun c4 => ?_) (fun c4 => (absurd (lg_z c3) c4))
      refine w_run 1 (S' := (1388, [(6, vI v), (5, vI k), (0, vR (some b)), (1, vR (some g.x)), (2, vR (some g.m)), (3, vR (some o)), (4, vI (nI (5 * t)))], [], s11, cs + 4 + 0 + 0, sl + 470 + 0 + 0)) rfl ?_
      refine w_lsP [2, 3, 4, 5, 6] ?_
      show WG _ _ _ _ _ _ _ (1388, [(0, vR (some b)), (1, vR (some g.x)), (2, vR (some g.m)), (3, vR (some o)), (4, vI (nI (5 * t)))], [], s11, cs + 4 + 0 + 0, sl + 470 + 0 + 0)
      refine w_wid (S := (1388, [(0, vR (some b)), (1, vR (some g.x)), (2, vR (some g.m)), (3, vR (some o)), (4, vI (nI (5 * t)))], [], s11)) (cs + 58) (sl + 12696) (by omega) (by omega) ?_
      exact K s11 ⟨k, hPO⟩
    · refine w_run 3 (S' := (847, [(6, vI v), (5, vI k), (0, vR (some b)), (1, vR (some g.x)), (2, vR (some g.m)), (3, vR (some o)), (4, vI (nI (5 * t)))], [vI (lg_cmp (fZL v) 1)], s11, cs + 4 + 0 + 0, sl + 470 + 0 + 0)) rfl ?_
      refine w_if_eq rfl (fun c5 => ?_) (fun c5 => (absurd (lg_o c3) c5))
      refine w_run 1 (S' := (1388, [(6, vI v), (5, vI k), (0, vR (some b)), (1, vR (some g.x)), (2, vR (some g.m)), (3, vR (some o)), (4, vI (nI (5 * t)))], [], s11, cs + 4 + 0 + 0, sl + 470 + 0 + 0)) rfl ?_
      refine w_lsP [2, 3, 4, 5, 6] ?_
      show WG _ _ _ _ _ _ _ (1388, [(0, vR (some b)), (1, vR (some g.x)), (2, vR (some g.m)), (3, vR (some o)), (4, vI (nI (5 * t)))], [], s11, cs + 4 + 0 + 0, sl + 470 + 0 + 0)
      refine w_wid (S := (1388, [(0, vR (some b)), (1, vR (some g.x)), (2, vR (some g.m)), (3, vR (some o)), (4, vI (nI (5 * t)))], [], s11)) (cs + 58) (sl + 12696) (by omega) (by omega) ?_
      exact K s11 ⟨k, hPO⟩
set_option maxRecDepth 20000 in
set_option maxHeartbeats 4000000 in
theorem lc_read (l : Launch) (E : FE) (g : Gh) (t : Nat) (σ : Sg) (o b L : Nat) (xs : Nat → Int32) {args : Array Value} {QF : State → List Frame → State → Prop} {cs sl : Nat} (R : RR E g t σ) (ht : t ≤ 511) (hl0 : l.stackTraces = false) (ho : σ.2.2.2 o = 90) (hL : L ≤ 2560) (h5 : 5 * t + 5 ≤ L) (hcs : cs + 58 ≤ 601024) (hsl : sl + 12696 ≤ 7293034) (K : ∀ σ', (∃ k, PO E g.x g.m o g.A (t + 1) k σ') → WG l E room_1 132 args (SCR E b L xs) QF (1388, [(0, vR (some b)), (1, vR (some g.x)), (2, vR (some g.m)), (3, vR (some o)), (4, vI (nI (5 * t)))], [], σ', cs + 58, sl + 12696)) : WG l E room_1 132 args (SCR E b L xs) QF (855, [(0, vR (some b)), (1, vR (some g.x)), (2, vR (some g.m)), (3, vR (some o)), (4, vI (nI (5 * t)))], [], σ, cs, sl) := by
  refine w_run 5 (S' := (861, [(0, vR (some b)), (1, vR (some g.x)), (2, vR (some g.m)), (3, vR (some o)), (4, vI (nI (5 * t)))], [vI ((nI (5 * t)) + 1), vR (some b), vR (some g.x)], σ, cs, sl)) rfl ?_
  rw [show ((nI (5 * t)) + 1 : Int32) = nI (5 * t + 1) from by simp only [nl0, nl1, nl2, nl3, nl4, nl5, nl6, nl8, nl9, nl10, nl12, nl15, nl16, nl20, nl24, nl32, nl40, nl64, nl65, nl384, pk_mul, nI_add]]
  show WG _ _ _ _ _ _ _ (861, [(0, vR (some b)), (1, vR (some g.x)), (2, vR (some g.m)), (3, vR (some o)), (4, vI (nI (5 * t)))], [vI (nI (5 * t + 1)), vR (some b), vR (some g.x)], σ, cs, sl)
  refine w_sld rfl (fun _ h => h) (vp_in_nI (n := 5 * t + 1) (by omega) (by omega)) ?_
  show WG _ _ _ _ _ _ _ (862, [(0, vR (some b)), (1, vR (some g.x)), (2, vR (some g.m)), (3, vR (some o)), (4, vI (nI (5 * t)))], [vI (xs (nI (5 * t + 1) : Int32).toNatClampNeg), vR (some g.x)], σ, cs, sl)
  rw [show (nI (5 * t + 1) : Int32).toNatClampNeg = 5 * t + 1 from nI_clamp (n := 5 * t + 1) (by omega)]
  show WG _ _ _ _ _ _ _ (862, [(0, vR (some b)), (1, vR (some g.x)), (2, vR (some g.m)), (3, vR (some o)), (4, vI (nI (5 * t)))], [vI (xs (5 * t + 1)), vR (some g.x)], σ, cs, sl)
  refine w_run 4 (S' := (867, [(0, vR (some b)), (1, vR (some g.x)), (2, vR (some g.m)), (3, vR (some o)), (4, vI (nI (5 * t)))], [vI ((nI (5 * t)) + 2), vR (some b), vI (xs (5 * t + 1)), vR (some g.x)], σ, cs, sl)) rfl ?_
  rw [show ((nI (5 * t)) + 2 : Int32) = nI (5 * t + 2) from by simp only [nl0, nl1, nl2, nl3, nl4, nl5, nl6, nl8, nl9, nl10, nl12, nl15, nl16, nl20, nl24, nl32, nl40, nl64, nl65, nl384, pk_mul, nI_add]]
  show WG _ _ _ _ _ _ _ (867, [(0, vR (some b)), (1, vR (some g.x)), (2, vR (some g.m)), (3, vR (some o)), (4, vI (nI (5 * t)))], [vI (nI (5 * t + 2)), vR (some b), vI (xs (5 * t + 1)), vR (some g.x)], σ, cs, sl)
  refine w_sld rfl (fun _ h => h) (vp_in_nI (n := 5 * t + 2) (by omega) (by omega)) ?_
  show WG _ _ _ _ _ _ _ (868, [(0, vR (some b)), (1, vR (some g.x)), (2, vR (some g.m)), (3, vR (some o)), (4, vI (nI (5 * t)))], [vI (xs (nI (5 * t + 2) : Int32).toNatClampNeg), vI (xs (5 * t + 1)), vR (some g.x)], σ, cs, sl)
  rw [show (nI (5 * t + 2) : Int32).toNatClampNeg = 5 * t + 2 from nI_clamp (n := 5 * t + 2) (by omega)]
  show WG _ _ _ _ _ _ _ (868, [(0, vR (some b)), (1, vR (some g.x)), (2, vR (some g.m)), (3, vR (some o)), (4, vI (nI (5 * t)))], [vI (xs (5 * t + 2)), vI (xs (5 * t + 1)), vR (some g.x)], σ, cs, sl)
  refine w_run 4 (S' := (873, [(0, vR (some b)), (1, vR (some g.x)), (2, vR (some g.m)), (3, vR (some o)), (4, vI (nI (5 * t)))], [vI ((nI (5 * t)) + 3), vR (some b), vI (xs (5 * t + 2)), vI (xs (5 * t + 1)), vR (some g.x)], σ, cs, sl)) rfl ?_
  rw [show ((nI (5 * t)) + 3 : Int32) = nI (5 * t + 3) from by simp only [nl0, nl1, nl2, nl3, nl4, nl5, nl6, nl8, nl9, nl10, nl12, nl15, nl16, nl20, nl24, nl32, nl40, nl64, nl65, nl384, pk_mul, nI_add]]
  show WG _ _ _ _ _ _ _ (873, [(0, vR (some b)), (1, vR (some g.x)), (2, vR (some g.m)), (3, vR (some o)), (4, vI (nI (5 * t)))], [vI (nI (5 * t + 3)), vR (some b), vI (xs (5 * t + 2)), vI (xs (5 * t + 1)), vR (some g.x)], σ, cs, sl)
  refine w_sld rfl (fun _ h => h) (vp_in_nI (n := 5 * t + 3) (by omega) (by omega)) ?_
  show WG _ _ _ _ _ _ _ (874, [(0, vR (some b)), (1, vR (some g.x)), (2, vR (some g.m)), (3, vR (some o)), (4, vI (nI (5 * t)))], [vI (xs (nI (5 * t + 3) : Int32).toNatClampNeg), vI (xs (5 * t + 2)), vI (xs (5 * t + 1)), vR (some g.x)], σ, cs, sl)
  rw [show (nI (5 * t + 3) : Int32).toNatClampNeg = 5 * t + 3 from nI_clamp (n := 5 * t + 3) (by omega)]
  show WG _ _ _ _ _ _ _ (874, [(0, vR (some b)), (1, vR (some g.x)), (2, vR (some g.m)), (3, vR (some o)), (4, vI (nI (5 * t)))], [vI (xs (5 * t + 3)), vI (xs (5 * t + 2)), vI (xs (5 * t + 1)), vR (some g.x)], σ, cs, sl)
  refine w_run 4 (S' := (879, [(0, vR (some b)), (1, vR (some g.x)), (2, vR (some g.m)), (3, vR (some o)), (4, vI (nI (5 * t)))], [vI ((nI (5 * t)) + 4), vR (some b), vI (xs (5 * t + 3)), vI (xs (5 * t + 2)), vI (xs (5 * t + 1)), vR (some g.x)], σ, cs, sl)) rfl ?_
  rw [show ((nI (5 * t)) + 4 : Int32) = nI (5 * t + 4) from by simp only [nl0, nl1, nl2, nl3, nl4, nl5, nl6, nl8, nl9, nl10, nl12, nl15, nl16, nl20, nl24, nl32, nl40, nl64, nl65, nl384, pk_mul, nI_add]]
  show WG _ _ _ _ _ _ _ (879, [(0, vR (some b)), (1, vR (some g.x)), (2, vR (some g.m)), (3, vR (some o)), (4, vI (nI (5 * t)))], [vI (nI (5 * t + 4)), vR (some b), vI (xs (5 * t + 3)), vI (xs (5 * t + 2)), vI (xs (5 * t + 1)), vR (some g.x)], σ, cs, sl)
  refine w_sld rfl (fun _ h => h) (vp_in_nI (n := 5 * t + 4) (by omega) (by omega)) ?_
  show WG _ _ _ _ _ _ _ (880, [(0, vR (some b)), (1, vR (some g.x)), (2, vR (some g.m)), (3, vR (some o)), (4, vI (nI (5 * t)))], [vI (xs (nI (5 * t + 4) : Int32).toNatClampNeg), vI (xs (5 * t + 3)), vI (xs (5 * t + 2)), vI (xs (5 * t + 1)), vR (some g.x)], σ, cs, sl)
  rw [show (nI (5 * t + 4) : Int32).toNatClampNeg = 5 * t + 4 from nI_clamp (n := 5 * t + 4) (by omega)]
  show WG _ _ _ _ _ _ _ (880, [(0, vR (some b)), (1, vR (some g.x)), (2, vR (some g.m)), (3, vR (some o)), (4, vI (nI (5 * t)))], [vI (xs (5 * t + 4)), vI (xs (5 * t + 3)), vI (xs (5 * t + 2)), vI (xs (5 * t + 1)), vR (some g.x)], σ, cs, sl)
  refine w_run 1 (S' := (881, [(0, vR (some b)), (1, vR (some g.x)), (2, vR (some g.m)), (3, vR (some o)), (4, vI (nI (5 * t)))], [vR (some o), vI (xs (5 * t + 4)), vI (xs (5 * t + 3)), vI (xs (5 * t + 2)), vI (xs (5 * t + 1)), vR (some g.x)], σ, cs, sl)) rfl ?_
  refine w_callW (st := []) (d := 12) [vR (some g.x), vI (xs (5 * t + 1)), vI (xs (5 * t + 2)), vI (xs (5 * t + 3)), vI (xs (5 * t + 4)), vR (some o)] rfl mlw_126 rfl (by decide) (by decide +kernel) rfl (show cs + 3 ≤ 601024 by omega) (show sl + 18 ≤ 7293034 by omega) (st_read l E g t σ o R (by omega) hl0 ho (xs (5 * t + 1)) (xs (5 * t + 2)) (xs (5 * t + 3)) (xs (5 * t + 4))) (fun _ _ h => h.elim) ?_
  rintro r9 s9 ⟨k, rfl, hk9, hm⟩
  show WG _ _ _ _ _ _ _ (884, [(0, vR (some b)), (1, vR (some g.x)), (2, vR (some g.m)), (3, vR (some o)), (4, vI (nI (5 * t)))], [vI k], s9, cs + 3, sl + 18)
  refine w_run 6 (S' := (892, [(5, vI k), (0, vR (some b)), (1, vR (some g.x)), (2, vR (some g.m)), (3, vR (some o)), (4, vI (nI (5 * t)))], [vI ((nI (5 * t)) + 1), vR (some b), vR (some g.m)], s9, cs + 3, sl + 18)) rfl ?_
  rw [show ((nI (5 * t)) + 1 : Int32) = nI (5 * t + 1) from by simp only [nl0, nl1, nl2, nl3, nl4, nl5, nl6, nl8, nl9, nl10, nl12, nl15, nl16, nl20, nl24, nl32, nl40, nl64, nl65, nl384, pk_mul, nI_add]]
  show WG _ _ _ _ _ _ _ (892, [(5, vI k), (0, vR (some b)), (1, vR (some g.x)), (2, vR (some g.m)), (3, vR (some o)), (4, vI (nI (5 * t)))], [vI (nI (5 * t + 1)), vR (some b), vR (some g.m)], s9, cs + 3, sl + 18)
  refine w_sld rfl (fun _ h => h) (vp_in_nI (n := 5 * t + 1) (by omega) (by omega)) ?_
  show WG _ _ _ _ _ _ _ (893, [(5, vI k), (0, vR (some b)), (1, vR (some g.x)), (2, vR (some g.m)), (3, vR (some o)), (4, vI (nI (5 * t)))], [vI (xs (nI (5 * t + 1) : Int32).toNatClampNeg), vR (some g.m)], s9, cs + 3, sl + 18)
  rw [show (nI (5 * t + 1) : Int32).toNatClampNeg = 5 * t + 1 from nI_clamp (n := 5 * t + 1) (by omega)]
  show WG _ _ _ _ _ _ _ (893, [(5, vI k), (0, vR (some b)), (1, vR (some g.x)), (2, vR (some g.m)), (3, vR (some o)), (4, vI (nI (5 * t)))], [vI (xs (5 * t + 1)), vR (some g.m)], s9, cs + 3, sl + 18)
  refine w_run 4 (S' := (898, [(5, vI k), (0, vR (some b)), (1, vR (some g.x)), (2, vR (some g.m)), (3, vR (some o)), (4, vI (nI (5 * t)))], [vI ((nI (5 * t)) + 2), vR (some b), vI (xs (5 * t + 1)), vR (some g.m)], s9, cs + 3, sl + 18)) rfl ?_
  rw [show ((nI (5 * t)) + 2 : Int32) = nI (5 * t + 2) from by simp only [nl0, nl1, nl2, nl3, nl4, nl5, nl6, nl8, nl9, nl10, nl12, nl15, nl16, nl20, nl24, nl32, nl40, nl64, nl65, nl384, pk_mul, nI_add]]
  show WG _ _ _ _ _ _ _ (898, [(5, vI k), (0, vR (some b)), (1, vR (some g.x)), (2, vR (some g.m)), (3, vR (some o)), (4, vI (nI (5 * t)))], [vI (nI (5 * t + 2)), vR (some b), vI (xs (5 * t + 1)), vR (some g.m)], s9, cs + 3, sl + 18)
  refine w_sld rfl (fun _ h => h) (vp_in_nI (n := 5 * t + 2) (by omega) (by omega)) ?_
  show WG _ _ _ _ _ _ _ (899, [(5, vI k), (0, vR (some b)), (1, vR (some g.x)), (2, vR (some g.m)), (3, vR (some o)), (4, vI (nI (5 * t)))], [vI (xs (nI (5 * t + 2) : Int32).toNatClampNeg), vI (xs (5 * t + 1)), vR (some g.m)], s9, cs + 3, sl + 18)
  rw [show (nI (5 * t + 2) : Int32).toNatClampNeg = 5 * t + 2 from nI_clamp (n := 5 * t + 2) (by omega)]
  show WG _ _ _ _ _ _ _ (899, [(5, vI k), (0, vR (some b)), (1, vR (some g.x)), (2, vR (some g.m)), (3, vR (some o)), (4, vI (nI (5 * t)))], [vI (xs (5 * t + 2)), vI (xs (5 * t + 1)), vR (some g.m)], s9, cs + 3, sl + 18)
  refine w_run 4 (S' := (904, [(5, vI k), (0, vR (some b)), (1, vR (some g.x)), (2, vR (some g.m)), (3, vR (some o)), (4, vI (nI (5 * t)))], [vI ((nI (5 * t)) + 3), vR (some b), vI (xs (5 * t + 2)), vI (xs (5 * t + 1)), vR (some g.m)], s9, cs + 3, sl + 18)) rfl ?_
  rw [show ((nI (5 * t)) + 3 : Int32) = nI (5 * t + 3) from by simp only [nl0, nl1, nl2, nl3, nl4, nl5, nl6, nl8, nl9, nl10, nl12, nl15, nl16, nl20, nl24, nl32, nl40, nl64, nl65, nl384, pk_mul, nI_add]]
  show WG _ _ _ _ _ _ _ (904, [(5, vI k), (0, vR (some b)), (1, vR (some g.x)), (2, vR (some g.m)), (3, vR (some o)), (4, vI (nI (5 * t)))], [vI (nI (5 * t + 3)), vR (some b), vI (xs (5 * t + 2)), vI (xs (5 * t + 1)), vR (some g.m)], s9, cs + 3, sl + 18)
  refine w_sld rfl (fun _ h => h) (vp_in_nI (n := 5 * t + 3) (by omega) (by omega)) ?_
  show WG _ _ _ _ _ _ _ (905, [(5, vI k), (0, vR (some b)), (1, vR (some g.x)), (2, vR (some g.m)), (3, vR (some o)), (4, vI (nI (5 * t)))], [vI (xs (nI (5 * t + 3) : Int32).toNatClampNeg), vI (xs (5 * t + 2)), vI (xs (5 * t + 1)), vR (some g.m)], s9, cs + 3, sl + 18)
  rw [show (nI (5 * t + 3) : Int32).toNatClampNeg = 5 * t + 3 from nI_clamp (n := 5 * t + 3) (by omega)]
  show WG _ _ _ _ _ _ _ (905, [(5, vI k), (0, vR (some b)), (1, vR (some g.x)), (2, vR (some g.m)), (3, vR (some o)), (4, vI (nI (5 * t)))], [vI (xs (5 * t + 3)), vI (xs (5 * t + 2)), vI (xs (5 * t + 1)), vR (some g.m)], s9, cs + 3, sl + 18)
  refine w_run 4 (S' := (910, [(5, vI k), (0, vR (some b)), (1, vR (some g.x)), (2, vR (some g.m)), (3, vR (some o)), (4, vI (nI (5 * t)))], [vI ((nI (5 * t)) + 4), vR (some b), vI (xs (5 * t + 3)), vI (xs (5 * t + 2)), vI (xs (5 * t + 1)), vR (some g.m)], s9, cs + 3, sl + 18)) rfl ?_
  rw [show ((nI (5 * t)) + 4 : Int32) = nI (5 * t + 4) from by simp only [nl0, nl1, nl2, nl3, nl4, nl5, nl6, nl8, nl9, nl10, nl12, nl15, nl16, nl20, nl24, nl32, nl40, nl64, nl65, nl384, pk_mul, nI_add]]
  show WG _ _ _ _ _ _ _ (910, [(5, vI k), (0, vR (some b)), (1, vR (some g.x)), (2, vR (some g.m)), (3, vR (some o)), (4, vI (nI (5 * t)))], [vI (nI (5 * t + 4)), vR (some b), vI (xs (5 * t + 3)), vI (xs (5 * t + 2)), vI (xs (5 * t + 1)), vR (some g.m)], s9, cs + 3, sl + 18)
  refine w_sld rfl (fun _ h => h) (vp_in_nI (n := 5 * t + 4) (by omega) (by omega)) ?_
  show WG _ _ _ _ _ _ _ (911, [(5, vI k), (0, vR (some b)), (1, vR (some g.x)), (2, vR (some g.m)), (3, vR (some o)), (4, vI (nI (5 * t)))], [vI (xs (nI (5 * t + 4) : Int32).toNatClampNeg), vI (xs (5 * t + 3)), vI (xs (5 * t + 2)), vI (xs (5 * t + 1)), vR (some g.m)], s9, cs + 3, sl + 18)
  rw [show (nI (5 * t + 4) : Int32).toNatClampNeg = 5 * t + 4 from nI_clamp (n := 5 * t + 4) (by omega)]
  show WG _ _ _ _ _ _ _ (911, [(5, vI k), (0, vR (some b)), (1, vR (some g.x)), (2, vR (some g.m)), (3, vR (some o)), (4, vI (nI (5 * t)))], [vI (xs (5 * t + 4)), vI (xs (5 * t + 3)), vI (xs (5 * t + 2)), vI (xs (5 * t + 1)), vR (some g.m)], s9, cs + 3, sl + 18)
  refine w_callV (st := []) (d := 8) [vI (xs (5 * t + 1)), vI (xs (5 * t + 2)), vI (xs (5 * t + 3)), vI (xs (5 * t + 4))] rfl ml_11_126 rfl rfl hk9 rfl rfl rfl (by decide) (by decide +kernel) rfl (show cs + 3 + 0 ≤ 601024 by omega) (show sl + 18 + 0 ≤ 7293034 by omega) hm (fun _ _ h => h.elim) ?_
  rintro r9 s10 ⟨v, rfl, hPO, hJ⟩
  obtain ⟨g', R', e1, e2, e3, e4, e5⟩ := id hPO
  have hM10 : MO s10 g.m g.A := by have h1 := R'.s.mo; rw [e2, e3] at h1; exact h1
  show WG _ _ _ _ _ _ _ (914, [(5, vI k), (0, vR (some b)), (1, vR (some g.x)), (2, vR (some g.m)), (3, vR (some o)), (4, vI (nI (5 * t)))], [vI v], s10, cs + 3 + 0, sl + 18 + 0)
  refine w_run 2 (S' := (917, [(6, vI v), (5, vI k), (0, vR (some b)), (1, vR (some g.x)), (2, vR (some g.m)), (3, vR (some o)), (4, vI (nI (5 * t)))], [vR (some g.m)], s10, cs + 3 + 0, sl + 18 + 0)) rfl ?_
  refine w_callV (st := []) (d := 8) [] rfl ml_11_85 rfl rfl hM10.1 rfl rfl rfl (by decide) (by decide +kernel) rfl (show cs + 3 + 0 + 0 ≤ 601024 by omega) (show sl + 18 + 0 + 0 ≤ 7293034 by omega) (c_mo_thrown l E 8 s10 g.m g.A hM10) (fun _ _ h => h.elim) ?_
  rintro r9 s11 ⟨rfl, rfl⟩
  rw [e4]
  show WG _ _ _ _ _ _ _ (920, [(6, vI v), (5, vI k), (0, vR (some b)), (1, vR (some g.x)), (2, vR (some g.m)), (3, vR (some o)), (4, vI (nI (5 * t)))], [vI k], s11, cs + 3 + 0 + 0, sl + 18 + 0 + 0)
  refine w_run 1 (S' := (922, [(6, vI v), (5, vI k), (0, vR (some b)), (1, vR (some g.x)), (2, vR (some g.m)), (3, vR (some o)), (4, vI (nI (5 * t)))], [vI k, vI k], s11, cs + 3 + 0 + 0, sl + 18 + 0 + 0)) rfl ?_
  refine w_ic_eq rfl (fun c1 => ?_) (fun c1 => (absurd rfl c1))
  refine w_run 1 (S' := (929, [(6, vI v), (5, vI k), (0, vR (some b)), (1, vR (some g.x)), (2, vR (some g.m)), (3, vR (some o)), (4, vI (nI (5 * t)))], [vI k], s11, cs + 3 + 0 + 0, sl + 18 + 0 + 0)) rfl ?_
  refine w_if_ne rfl (fun c2 => ?_) (fun c2 => ?_)
  · refine w_run 1 (S' := (1388, [(6, vI v), (5, vI k), (0, vR (some b)), (1, vR (some g.x)), (2, vR (some g.m)), (3, vR (some o)), (4, vI (nI (5 * t)))], [], s11, cs + 3 + 0 + 0, sl + 18 + 0 + 0)) rfl ?_
    refine w_lsP [2, 3, 4, 5, 6] ?_
    show WG _ _ _ _ _ _ _ (1388, [(0, vR (some b)), (1, vR (some g.x)), (2, vR (some g.m)), (3, vR (some o)), (4, vI (nI (5 * t)))], [], s11, cs + 3 + 0 + 0, sl + 18 + 0 + 0)
    refine w_wid (S := (1388, [(0, vR (some b)), (1, vR (some g.x)), (2, vR (some g.m)), (3, vR (some o)), (4, vI (nI (5 * t)))], [], s11)) (cs + 58) (sl + 12696) (by omega) (by omega) ?_
    exact K s11 ⟨k, hPO⟩
  · have hJ9 := hJ c2
    refine w_run 2 (S' := (934, [(6, vI v), (5, vI k), (0, vR (some b)), (1, vR (some g.x)), (2, vR (some g.m)), (3, vR (some o)), (4, vI (nI (5 * t)))], [vI 0, vR (some o)], s11, cs + 3 + 0 + 0, sl + 18 + 0 + 0)) rfl ?_
    refine w_lald rfl rfl e5 (vp_in_nI (n := 0) (by decide) (by decide)) ?_
    show WG _ _ _ _ _ _ _ (935, [(6, vI v), (5, vI k), (0, vR (some b)), (1, vR (some g.x)), (2, vR (some g.m)), (3, vR (some o)), (4, vI (nI (5 * t)))], [vL (s11.2.2.1 o 0)], s11, cs + 3 + 0 + 0, sl + 18 + 0 + 0)
    rw [hJ9]
    show WG _ _ _ _ _ _ _ (935, [(6, vI v), (5, vI k), (0, vR (some b)), (1, vR (some g.x)), (2, vR (some g.m)), (3, vR (some o)), (4, vI (nI (5 * t)))], [vL (fIL v)], s11, cs + 3 + 0 + 0, sl + 18 + 0 + 0)
    refine w_run 3 (S' := (939, [(6, vI v), (5, vI k), (0, vR (some b)), (1, vR (some g.x)), (2, vR (some g.m)), (3, vR (some o)), (4, vI (nI (5 * t)))], [vI (lg_cmp (fIL v) v.toInt64)], s11, cs + 3 + 0 + 0, sl + 18 + 0 + 0)) rfl ?_
    refine w_if_eq rfl (fun c3 => ?_) (fun c3 => (absurd (lg_self _) c3))
    refine w_run 1 (S' := (1388, [(6, vI v), (5, vI k), (0, vR (some b)), (1, vR (some g.x)), (2, vR (some g.m)), (3, vR (some o)), (4, vI (nI (5 * t)))], [], s11, cs + 3 + 0 + 0, sl + 18 + 0 + 0)) rfl ?_
    refine w_lsP [2, 3, 4, 5, 6] ?_
    show WG _ _ _ _ _ _ _ (1388, [(0, vR (some b)), (1, vR (some g.x)), (2, vR (some g.m)), (3, vR (some o)), (4, vI (nI (5 * t)))], [], s11, cs + 3 + 0 + 0, sl + 18 + 0 + 0)
    refine w_wid (S := (1388, [(0, vR (some b)), (1, vR (some g.x)), (2, vR (some g.m)), (3, vR (some o)), (4, vI (nI (5 * t)))], [], s11)) (cs + 58) (sl + 12696) (by omega) (by omega) ?_
    exact K s11 ⟨k, hPO⟩
