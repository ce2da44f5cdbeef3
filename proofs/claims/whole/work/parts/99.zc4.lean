/-! the law, case by case: 4 -/
set_option maxRecDepth 20000 in
set_option maxHeartbeats 4000000 in
theorem lc_hold (l : Launch) (E : FE) (g : Gh) (t : Nat) (σ : Sg) (o b L : Nat) (xs : Nat → Int32) {args : Array Value} {QF : State → List Frame → State → Prop} {cs sl : Nat} (R : RR E g t σ) (ht : t ≤ 511) (hl0 : l.stackTraces = false) (ho : σ.2.2.2 o = 90) (hL : L ≤ 2560) (h5 : 5 * t + 5 ≤ L) (hcs : cs + 58 ≤ 601024) (hsl : sl + 12696 ≤ 7293034) (K : ∀ σ', (∃ k, PO E g.x g.m o g.A (t + 1) k σ') → WG l E room_1 132 args (SCR E b L xs) QF (1388, [(0, vR (some b)), (1, vR (some g.x)), (2, vR (some g.m)), (3, vR (some o)), (4, vI (nI (5 * t)))], [], σ', cs + 58, sl + 12696)) : WG l E room_1 132 args (SCR E b L xs) QF (947, [(0, vR (some b)), (1, vR (some g.x)), (2, vR (some g.m)), (3, vR (some o)), (4, vI (nI (5 * t)))], [], σ, cs, sl) := by
  refine w_run 5 (S' := (953, [(0, vR (some b)), (1, vR (some g.x)), (2, vR (some g.m)), (3, vR (some o)), (4, vI (nI (5 * t)))], [vI ((nI (5 * t)) + 1), vR (some b), vR (some g.x)], σ, cs, sl)) rfl ?_
  rw [show ((nI (5 * t)) + 1 : Int32) = nI (5 * t + 1) from by simp only [nl0, nl1, nl2, nl3, nl4, nl5, nl6, nl8, nl9, nl10, nl12, nl15, nl16, nl20, nl24, nl32, nl40, nl64, nl65, nl384, pk_mul, nI_add]]
  show WG _ _ _ _ _ _ _ (953, [(0, vR (some b)), (1, vR (some g.x)), (2, vR (some g.m)), (3, vR (some o)), (4, vI (nI (5 * t)))], [vI (nI (5 * t + 1)), vR (some b), vR (some g.x)], σ, cs, sl)
  refine w_sld rfl (fun _ h => h) (vp_in_nI (n := 5 * t + 1) (by omega) (by omega)) ?_
  show WG _ _ _ _ _ _ _ (954, [(0, vR (some b)), (1, vR (some g.x)), (2, vR (some g.m)), (3, vR (some o)), (4, vI (nI (5 * t)))], [vI (xs (nI (5 * t + 1) : Int32).toNatClampNeg), vR (some g.x)], σ, cs, sl)
  rw [show (nI (5 * t + 1) : Int32).toNatClampNeg = 5 * t + 1 from nI_clamp (n := 5 * t + 1) (by omega)]
  show WG _ _ _ _ _ _ _ (954, [(0, vR (some b)), (1, vR (some g.x)), (2, vR (some g.m)), (3, vR (some o)), (4, vI (nI (5 * t)))], [vI (xs (5 * t + 1)), vR (some g.x)], σ, cs, sl)
  refine w_run 4 (S' := (959, [(0, vR (some b)), (1, vR (some g.x)), (2, vR (some g.m)), (3, vR (some o)), (4, vI (nI (5 * t)))], [vI ((nI (5 * t)) + 2), vR (some b), vI (xs (5 * t + 1)), vR (some g.x)], σ, cs, sl)) rfl ?_
  rw [show ((nI (5 * t)) + 2 : Int32) = nI (5 * t + 2) from by simp only [nl0, nl1, nl2, nl3, nl4, nl5, nl6, nl8, nl9, nl10, nl12, nl15, nl16, nl20, nl24, nl32, nl40, nl64, nl65, nl384, pk_mul, nI_add]]
  show WG _ _ _ _ _ _ _ (959, [(0, vR (some b)), (1, vR (some g.x)), (2, vR (some g.m)), (3, vR (some o)), (4, vI (nI (5 * t)))], [vI (nI (5 * t + 2)), vR (some b), vI (xs (5 * t + 1)), vR (some g.x)], σ, cs, sl)
  refine w_sld rfl (fun _ h => h) (vp_in_nI (n := 5 * t + 2) (by omega) (by omega)) ?_
  show WG _ _ _ _ _ _ _ (960, [(0, vR (some b)), (1, vR (some g.x)), (2, vR (some g.m)), (3, vR (some o)), (4, vI (nI (5 * t)))], [vI (xs (nI (5 * t + 2) : Int32).toNatClampNeg), vI (xs (5 * t + 1)), vR (some g.x)], σ, cs, sl)
  rw [show (nI (5 * t + 2) : Int32).toNatClampNeg = 5 * t + 2 from nI_clamp (n := 5 * t + 2) (by omega)]
  show WG _ _ _ _ _ _ _ (960, [(0, vR (some b)), (1, vR (some g.x)), (2, vR (some g.m)), (3, vR (some o)), (4, vI (nI (5 * t)))], [vI (xs (5 * t + 2)), vI (xs (5 * t + 1)), vR (some g.x)], σ, cs, sl)
  refine w_run 4 (S' := (965, [(0, vR (some b)), (1, vR (some g.x)), (2, vR (some g.m)), (3, vR (some o)), (4, vI (nI (5 * t)))], [vI ((nI (5 * t)) + 3), vR (some b), vI (xs (5 * t + 2)), vI (xs (5 * t + 1)), vR (some g.x)], σ, cs, sl)) rfl ?_
  rw [show ((nI (5 * t)) + 3 : Int32) = nI (5 * t + 3) from by simp only [nl0, nl1, nl2, nl3, nl4, nl5, nl6, nl8, nl9, nl10, nl12, nl15, nl16, nl20, nl24, nl32, nl40, nl64, nl65, nl384, pk_mul, nI_add]]
  show WG _ _ _ _ _ _ _ (965, [(0, vR (some b)), (1, vR (some g.x)), (2, vR (some g.m)), (3, vR (some o)), (4, vI (nI (5 * t)))], [vI (nI (5 * t + 3)), vR (some b), vI (xs (5 * t + 2)), vI (xs (5 * t + 1)), vR (some g.x)], σ, cs, sl)
  refine w_sld rfl (fun _ h => h) (vp_in_nI (n := 5 * t + 3) (by omega) (by omega)) ?_
  show WG _ _ _ _ _ _ _ (966, [(0, vR (some b)), (1, vR (some g.x)), (2, vR (some g.m)), (3, vR (some o)), (4, vI (nI (5 * t)))], [vI (xs (nI (5 * t + 3) : Int32).toNatClampNeg), vI (xs (5 * t + 2)), vI (xs (5 * t + 1)), vR (some g.x)], σ, cs, sl)
  rw [show (nI (5 * t + 3) : Int32).toNatClampNeg = 5 * t + 3 from nI_clamp (n := 5 * t + 3) (by omega)]
  show WG _ _ _ _ _ _ _ (966, [(0, vR (some b)), (1, vR (some g.x)), (2, vR (some g.m)), (3, vR (some o)), (4, vI (nI (5 * t)))], [vI (xs (5 * t + 3)), vI (xs (5 * t + 2)), vI (xs (5 * t + 1)), vR (some g.x)], σ, cs, sl)
  refine w_if_eq rfl (fun c1 => ?_) (fun c1 => ?_)
  · refine w_run 2 (S' := (975, [(0, vR (some b)), (1, vR (some g.x)), (2, vR (some g.m)), (3, vR (some o)), (4, vI (nI (5 * t)))], [vR (some o), vI 0, vI (xs (5 * t + 2)), vI (xs (5 * t + 1)), vR (some g.x)], σ, cs, sl)) rfl ?_
    refine w_callW (st := []) (d := 12) [vR (some g.x), vI (xs (5 * t + 1)), vI (xs (5 * t + 2)), vI 0, vR (some o)] rfl mlw_127 rfl (by decide) (by decide +kernel) rfl (show cs + 2 ≤ 601024 by omega) (show sl + 12 ≤ 7293034 by omega) (st_hold l E g t σ o R (by omega) hl0 ho (xs (5 * t + 1)) (xs (5 * t + 2)) 0) (fun _ _ h => h.elim) ?_
    rintro r9 s9 ⟨k, rfl, hk9, hm⟩
    show WG _ _ _ _ _ _ _ (978, [(0, vR (some b)), (1, vR (some g.x)), (2, vR (some g.m)), (3, vR (some o)), (4, vI (nI (5 * t)))], [vI k], s9, cs + 2, sl + 12)
    refine w_run 6 (S' := (986, [(5, vI k), (0, vR (some b)), (1, vR (some g.x)), (2, vR (some g.m)), (3, vR (some o)), (4, vI (nI (5 * t)))], [vI ((nI (5 * t)) + 1), vR (some b), vR (some g.m)], s9, cs + 2, sl + 12)) rfl ?_
    rw [show ((nI (5 * t)) + 1 : Int32) = nI (5 * t + 1) from by simp only [nl0, nl1, nl2, nl3, nl4, nl5, nl6, nl8, nl9, nl10, nl12, nl15, nl16, nl20, nl24, nl32, nl40, nl64, nl65, nl384, pk_mul, nI_add]]
    show WG _ _ _ _ _ _ _ (986, [(5, vI k), (0, vR (some b)), (1, vR (some g.x)), (2, vR (some g.m)), (3, vR (some o)), (4, vI (nI (5 * t)))], [vI (nI (5 * t + 1)), vR (some b), vR (some g.m)], s9, cs + 2, sl + 12)
    refine w_sld rfl (fun _ h => h) (vp_in_nI (n := 5 * t + 1) (by omega) (by omega)) ?_
    show WG _ _ _ _ _ _ _ (987, [(5, vI k), (0, vR (some b)), (1, vR (some g.x)), (2, vR (some g.m)), (3, vR (some o)), (4, vI (nI (5 * t)))], [vI (xs (nI (5 * t + 1) : Int32).toNatClampNeg), vR (some g.m)], s9, cs + 2, sl + 12)
    rw [show (nI (5 * t + 1) : Int32).toNatClampNeg = 5 * t + 1 from nI_clamp (n := 5 * t + 1) (by omega)]
    show WG _ _ _ _ _ _ _ (987, [(5, vI k), (0, vR (some b)), (1, vR (some g.x)), (2, vR (some g.m)), (3, vR (some o)), (4, vI (nI (5 * t)))], [vI (xs (5 * t + 1)), vR (some g.m)], s9, cs + 2, sl + 12)
    refine w_run 4 (S' := (992, [(5, vI k), (0, vR (some b)), (1, vR (some g.x)), (2, vR (some g.m)), (3, vR (some o)), (4, vI (nI (5 * t)))], [vI ((nI (5 * t)) + 2), vR (some b), vI (xs (5 * t + 1)), vR (some g.m)], s9, cs + 2, sl + 12)) rfl ?_
    rw [show ((nI (5 * t)) + 2 : Int32) = nI (5 * t + 2) from by simp only [nl0, nl1, nl2, nl3, nl4, nl5, nl6, nl8, nl9, nl10, nl12, nl15, nl16, nl20, nl24, nl32, nl40, nl64, nl65, nl384, pk_mul, nI_add]]
    show WG _ _ _ _ _ _ _ (992, [(5, vI k), (0, vR (some b)), (1, vR (some g.x)), (2, vR (some g.m)), (3, vR (some o)), (4, vI (nI (5 * t)))], [vI (nI (5 * t + 2)), vR (some b), vI (xs (5 * t + 1)), vR (some g.m)], s9, cs + 2, sl + 12)
    refine w_sld rfl (fun _ h => h) (vp_in_nI (n := 5 * t + 2) (by omega) (by omega)) ?_
    show WG _ _ _ _ _ _ _ (993, [(5, vI k), (0, vR (some b)), (1, vR (some g.x)), (2, vR (some g.m)), (3, vR (some o)), (4, vI (nI (5 * t)))], [vI (xs (nI (5 * t + 2) : Int32).toNatClampNeg), vI (xs (5 * t + 1)), vR (some g.m)], s9, cs + 2, sl + 12)
    rw [show (nI (5 * t + 2) : Int32).toNatClampNeg = 5 * t + 2 from nI_clamp (n := 5 * t + 2) (by omega)]
    show WG _ _ _ _ _ _ _ (993, [(5, vI k), (0, vR (some b)), (1, vR (some g.x)), (2, vR (some g.m)), (3, vR (some o)), (4, vI (nI (5 * t)))], [vI (xs (5 * t + 2)), vI (xs (5 * t + 1)), vR (some g.m)], s9, cs + 2, sl + 12)
    refine w_run 4 (S' := (998, [(5, vI k), (0, vR (some b)), (1, vR (some g.x)), (2, vR (some g.m)), (3, vR (some o)), (4, vI (nI (5 * t)))], [vI ((nI (5 * t)) + 3), vR (some b), vI (xs (5 * t + 2)), vI (xs (5 * t + 1)), vR (some g.m)], s9, cs + 2, sl + 12)) rfl ?_
    rw [show ((nI (5 * t)) + 3 : Int32) = nI (5 * t + 3) from by simp only [nl0, nl1, nl2, nl3, nl4, nl5, nl6, nl8, nl9, nl10, nl12, nl15, nl16, nl20, nl24, nl32, nl40, nl64, nl65, nl384, pk_mul, nI_add]]
    show WG _ _ _ _ _ _ _ (998, [(5, vI k), (0, vR (some b)), (1, vR (some g.x)), (2, vR (some g.m)), (3, vR (some o)), (4, vI (nI (5 * t)))], [vI (nI (5 * t + 3)), vR (some b), vI (xs (5 * t + 2)), vI (xs (5 * t + 1)), vR (some g.m)], s9, cs + 2, sl + 12)
    refine w_sld rfl (fun _ h => h) (vp_in_nI (n := 5 * t + 3) (by omega) (by omega)) ?_
    show WG _ _ _ _ _ _ _ (999, [(5, vI k), (0, vR (some b)), (1, vR (some g.x)), (2, vR (some g.m)), (3, vR (some o)), (4, vI (nI (5 * t)))], [vI (xs (nI (5 * t + 3) : Int32).toNatClampNeg), vI (xs (5 * t + 2)), vI (xs (5 * t + 1)), vR (some g.m)], s9, cs + 2, sl + 12)
    rw [show (nI (5 * t + 3) : Int32).toNatClampNeg = 5 * t + 3 from nI_clamp (n := 5 * t + 3) (by omega)]
    show WG _ _ _ _ _ _ _ (999, [(5, vI k), (0, vR (some b)), (1, vR (some g.x)), (2, vR (some g.m)), (3, vR (some o)), (4, vI (nI (5 * t)))], [vI (xs (5 * t + 3)), vI (xs (5 * t + 2)), vI (xs (5 * t + 1)), vR (some g.m)], s9, cs + 2, sl + 12)
    refine w_if_eq rfl (fun c2 => ?_) (fun c2 => (absurd c1 c2))
    refine w_run 1 (S' := (1007, [(5, vI k), (0, vR (some b)), (1, vR (some g.x)), (2, vR (some g.m)), (3, vR (some o)), (4, vI (nI (5 * t)))], [vI 0, vI (xs (5 * t + 2)), vI (xs (5 * t + 1)), vR (some g.m)], s9, cs + 2, sl + 12)) rfl ?_
    refine w_callV (st := []) (d := 8) [vI (xs (5 * t + 1)), vI (xs (5 * t + 2)), vI 0] rfl ml_11_129 rfl rfl hk9 rfl rfl rfl (by decide) (by decide +kernel) rfl (show cs + 2 + 0 ≤ 601024 by omega) (show sl + 12 + 0 ≤ 7293034 by omega) hm (fun _ _ h => h.elim) ?_
    rintro r9 s10 ⟨v, rfl, hPO, hJ⟩
    obtain ⟨g', R', e1, e2, e3, e4, e5⟩ := id hPO
    have hM10 : MO s10 g.m g.A := by have h1 := R'.s.mo; rw [e2, e3] at h1; exact h1
    show WG _ _ _ _ _ _ _ (1010, [(5, vI k), (0, vR (some b)), (1, vR (some g.x)), (2, vR (some g.m)), (3, vR (some o)), (4, vI (nI (5 * t)))], [vI v], s10, cs + 2 + 0, sl + 12 + 0)
    refine w_run 2 (S' := (1013, [(6, vI v), (5, vI k), (0, vR (some b)), (1, vR (some g.x)), (2, vR (some g.m)), (3, vR (some o)), (4, vI (nI (5 * t)))], [vR (some g.m)], s10, cs + 2 + 0, sl + 12 + 0)) rfl ?_
    refine w_callV (st := []) (d := 8) [] rfl ml_11_85 rfl rfl hM10.1 rfl rfl rfl (by decide) (by decide +kernel) rfl (show cs + 2 + 0 + 0 ≤ 601024 by omega) (show sl + 12 + 0 + 0 ≤ 7293034 by omega) (c_mo_thrown l E 8 s10 g.m g.A hM10) (fun _ _ h => h.elim) ?_
    rintro r9 s11 ⟨rfl, rfl⟩
    rw [e4]
    show WG _ _ _ _ _ _ _ (1016, [(6, vI v), (5, vI k), (0, vR (some b)), (1, vR (some g.x)), (2, vR (some g.m)), (3, vR (some o)), (4, vI (nI (5 * t)))], [vI k], s11, cs + 2 + 0 + 0, sl + 12 + 0 + 0)
    refine w_run 1 (S' := (1018, [(6, vI v), (5, vI k), (0, vR (some b)), (1, vR (some g.x)), (2, vR (some g.m)), (3, vR (some o)), (4, vI (nI (5 * t)))], [vI k, vI k], s11, cs + 2 + 0 + 0, sl + 12 + 0 + 0)) rfl ?_
    refine w_ic_eq rfl (fun c3 => ?_) (fun c3 => (absurd rfl c3))
    refine w_run 1 (S' := (1025, [(6, vI v), (5, vI k), (0, vR (some b)), (1, vR (some g.x)), (2, vR (some g.m)), (3, vR (some o)), (4, vI (nI (5 * t)))], [vI k], s11, cs + 2 + 0 + 0, sl + 12 + 0 + 0)) rfl ?_
    refine w_if_ne rfl (fun c4 => ?_) (fun c4 => ?_)
    · refine w_run 1 (S' := (1388, [(6, vI v), (5, vI k), (0, vR (some b)), (1, vR (some g.x)), (2, vR (some g.m)), (3, vR (some o)), (4, vI (nI (5 * t)))], [], s11, cs + 2 + 0 + 0, sl + 12 + 0 + 0)) rfl ?_
      refine w_lsP [2, 3, 4, 5, 6] ?_
      show WG _ _ _ _ _ _ _ (1388, [(0, vR (some b)), (1, vR (some g.x)), (2, vR (some g.m)), (3, vR (some o)), (4, vI (nI (5 * t)))], [], s11, cs + 2 + 0 + 0, sl + 12 + 0 + 0)
      refine w_wid (S := (1388, [(0, vR (some b)), (1, vR (some g.x)), (2, vR (some g.m)), (3, vR (some o)), (4, vI (nI (5 * t)))], [], s11)) (cs + 58) (sl + 12696) (by omega) (by omega) ?_
      exact K s11 ⟨k, hPO⟩
    · have hJ9 := hJ c4
      refine w_run 2 (S' := (1030, [(6, vI v), (5, vI k), (0, vR (some b)), (1, vR (some g.x)), (2, vR (some g.m)), (3, vR (some o)), (4, vI (nI (5 * t)))], [vI 0, vR (some o)], s11, cs + 2 + 0 + 0, sl + 12 + 0 + 0)) rfl ?_
      refine w_lald rfl rfl e5 (vp_in_nI (n := 0) (by decide) (by decide)) ?_
      show WG _ _ _ _ _ _ _ (1031, [(6, vI v), (5, vI k), (0, vR (some b)), (1, vR (some g.x)), (2, vR (some g.m)), (3, vR (some o)), (4, vI (nI (5 * t)))], [vL (s11.2.2.1 o 0)], s11, cs + 2 + 0 + 0, sl + 12 + 0 + 0)
      rw [hJ9]
      show WG _ _ _ _ _ _ _ (1031, [(6, vI v), (5, vI k), (0, vR (some b)), (1, vR (some g.x)), (2, vR (some g.m)), (3, vR (some o)), (4, vI (nI (5 * t)))], [vL (fZL v)], s11, cs + 2 + 0 + 0, sl + 12 + 0 + 0)
      refine w_run 1 (S' := (1033, [(6, vI v), (5, vI k), (0, vR (some b)), (1, vR (some g.x)), (2, vR (some g.m)), (3, vR (some o)), (4, vI (nI (5 * t)))], [vI v, vL (fZL v)], s11, cs + 2 + 0 + 0, sl + 12 + 0 + 0)) rfl ?_
      refine w_if_eq rfl (fun c5 => ?_) (fun c5 => ?_)
      · refine w_run 2 (S' := (1042, [(6, vI v), (5, vI k), (0, vR (some b)), (1, vR (some g.x)), (2, vR (some g.m)), (3, vR (some o)), (4, vI (nI (5 * t)))], [vI (lg_cmp (fZL v) 0)], s11, cs + 2 + 0 + 0, sl + 12 + 0 + 0)) rfl ?_
        refine w_if_eq rfl (fun c6 => ?_) (fun c6 => (absurd (lg_z c5) c6))
        refine w_run 1 (S' := (1388, [(6, vI v), (5, vI k), (0, vR (some b)), (1, vR (some g.x)), (2, vR (some g.m)), (3, vR (some o)), (4, vI (nI (5 * t)))], [], s11, cs + 2 + 0 + 0, sl + 12 + 0 + 0)) rfl ?_
        refine w_lsP [2, 3, 4, 5, 6] ?_
        show WG _ _ _ _ _ _ _ (1388, [(0, vR (some b)), (1, vR (some g.x)), (2, vR (some g.m)), (3, vR (some o)), (4, vI (nI (5 * t)))], [], s11, cs + 2 + 0 + 0, sl + 12 + 0 + 0)
        refine w_wid (S := (1388, [(0, vR (some b)), (1, vR (some g.x)), (2, vR (some g.m)), (3, vR (some o)), (4, vI (nI (5 * t)))], [], s11)) (cs + 58) (sl + 12696) (by omega) (by omega) ?_
        exact K s11 ⟨k, hPO⟩
      · refine w_run 3 (S' := (1042, [(6, vI v), (5, vI k), (0, vR (some b)), (1, vR (some g.x)), (2, vR (some g.m)), (3, vR (some o)), (4, vI (nI (5 * t)))], [vI (lg_cmp (fZL v) 1)], s11, cs + 2 + 0 + 0, sl + 12 + 0 + 0)) rfl ?_
        refine w_if_eq rfl (fun c7 => ?_) (fun c7 => (absurd (lg_o c5) c7))
        refine w_run 1 (S' := (1388, [(6, vI v), (5, vI k), (0, vR (some b)), (1, vR (some g.x)), (2, vR (some g.m)), (3, vR (some o)), (4, vI (nI (5 * t)))], [], s11, cs + 2 + 0 + 0, sl + 12 + 0 + 0)) rfl ?_
        refine w_lsP [2, 3, 4, 5, 6] ?_
        show WG _ _ _ _ _ _ _ (1388, [(0, vR (some b)), (1, vR (some g.x)), (2, vR (some g.m)), (3, vR (some o)), (4, vI (nI (5 * t)))], [], s11, cs + 2 + 0 + 0, sl + 12 + 0 + 0)
        refine w_wid (S := (1388, [(0, vR (some b)), (1, vR (some g.x)), (2, vR (some g.m)), (3, vR (some o)), (4, vI (nI (5 * t)))], [], s11)) (cs + 58) (sl + 12696) (by omega) (by omega) ?_
        exact K s11 ⟨k, hPO⟩
  · refine w_run 3 (S' := (975, [(0, vR (some b)), (1, vR (some g.x)), (2, vR (some g.m)), (3, vR (some o)), (4, vI (nI (5 * t)))], [vR (some o), vI 1, vI (xs (5 * t + 2)), vI (xs (5 * t + 1)), vR (some g.x)], σ, cs, sl)) rfl ?_
    refine w_callW (st := []) (d := 12) [vR (some g.x), vI (xs (5 * t + 1)), vI (xs (5 * t + 2)), vI 1, vR (some o)] rfl mlw_127 rfl (by decide) (by decide +kernel) rfl (show cs + 2 ≤ 601024 by omega) (show sl + 12 ≤ 7293034 by omega) (st_hold l E g t σ o R (by omega) hl0 ho (xs (5 * t + 1)) (xs (5 * t + 2)) 1) (fun _ _ h => h.elim) ?_
    rintro r9 s9 ⟨k, rfl, hk9, hm⟩
    show WG _ _ _ _ _ _ _ (978, [(0, vR (some b)), (1, vR (some g.x)), (2, vR (some g.m)), (3, vR (some o)), (4, vI (nI (5 * t)))], [vI k], s9, cs + 2, sl + 12)
    refine w_run 6 (S' := (986, [(5, vI k), (0, vR (some b)), (1, vR (some g.x)), (2, vR (some g.m)), (3, vR (some o)), (4, vI (nI (5 * t)))], [vI ((nI (5 * t)) + 1), vR (some b), vR (some g.m)], s9, cs + 2, sl + 12)) rfl ?_
    rw [show ((nI (5 * t)) + 1 : Int32) = nI (5 * t + 1) from by simp only [nl0, nl1, nl2, nl3, nl4, nl5, nl6, nl8, nl9, nl10, nl12, nl15, nl16, nl20, nl24, nl32, nl40, nl64, nl65, nl384, pk_mul, nI_add]]
    show WG _ _ _ _ _ _ _ (986, [(5, vI k), (0, vR (some b)), (1, vR (some g.x)), (2, vR (some g.m)), (3, vR (some o)), (4, vI (nI (5 * t)))], [vI (nI (5 * t + 1)), vR (some b), vR (some g.m)], s9, cs + 2, sl + 12)
    refine w_sld rfl (fun _ h => h) (vp_in_nI (n := 5 * t + 1) (by omega) (by omega)) ?_
    show WG _ _ _ _ _ _ _ (987, [(5, vI k), (0, vR (some b)), (1, vR (some g.x)), (2, vR (some g.m)), (3, vR (some o)), (4, vI (nI (5 * t)))], [vI (xs (nI (5 * t + 1) : Int32).toNatClampNeg), vR (some g.m)], s9, cs + 2, sl + 12)
    rw [show (nI (5 * t + 1) : Int32).toNatClampNeg = 5 * t + 1 from nI_clamp (n := 5 * t + 1) (by omega)]
    show WG _ _ _ _ _ _ _ (987, [(5, vI k), (0, vR (some b)), (1, vR (some g.x)), (2, vR (some g.m)), (3, vR (some o)), (4, vI (nI (5 * t)))], [vI (xs (5 * t + 1)), vR (some g.m)], s9, cs + 2, sl + 12)
    refine w_run 4 (S' := (992, [(5, vI k), (0, vR (some b)), (1, vR (some g.x)), (2, vR (some g.m)), (3, vR (some o)), (4, vI (nI (5 * t)))], [vI ((nI (5 * t)) + 2), vR (some b), vI (xs (5 * t + 1)), vR (some g.m)], s9, cs + 2, sl + 12)) rfl ?_
    rw [show ((nI (5 * t)) + 2 : Int32) = nI (5 * t + 2) from by simp only [nl0, nl1, nl2, nl3, nl4, nl5, nl6, nl8, nl9, nl10, nl12, nl15, nl16, nl20, nl24, nl32, nl40, nl64, nl65, nl384, pk_mul, nI_add]]
    show WG _ _ _ _ _ _ _ (992, [(5, vI k), (0, vR (some b)), (1, vR (some g.x)), (2, vR (some g.m)), (3, vR (some o)), (4, vI (nI (5 * t)))], [vI (nI (5 * t + 2)), vR (some b), vI (xs (5 * t + 1)), vR (some g.m)], s9, cs + 2, sl + 12)
    refine w_sld rfl (fun _ h => h) (vp_in_nI (n := 5 * t + 2) (by omega) (by omega)) ?_
    show WG _ _ _ _ _ _ _ (993, [(5, vI k), (0, vR (some b)), (1, vR (some g.x)), (2, vR (some g.m)), (3, vR (some o)), (4, vI (nI (5 * t)))], [vI (xs (nI (5 * t + 2) : Int32).toNatClampNeg), vI (xs (5 * t + 1)), vR (some g.m)], s9, cs + 2, sl + 12)
    rw [show (nI (5 * t + 2) : Int32).toNatClampNeg = 5 * t + 2 from nI_clamp (n := 5 * t + 2) (by omega)]
    show WG _ _ _ _ _ _ _ (993, [(5, vI k), (0, vR (some b)), (1, vR (some g.x)), (2, vR (some g.m)), (3, vR (some o)), (4, vI (nI (5 * t)))], [vI (xs (5 * t + 2)), vI (xs (5 * t + 1)), vR (some g.m)], s9, cs + 2, sl + 12)
    refine w_run 4 (S' := (998, [(5, vI k), (0, vR (some b)), (1, vR (some g.x)), (2, vR (some g.m)), (3, vR (some o)), (4, vI (nI (5 * t)))], [vI ((nI (5 * t)) + 3), vR (some b), vI (xs (5 * t + 2)), vI (xs (5 * t + 1)), vR (some g.m)], s9, cs + 2, sl + 12)) rfl ?_
    rw [show ((nI (5 * t)) + 3 : Int32) = nI (5 * t + 3) from by simp only [nl0, nl1, nl2, nl3, nl4, nl5, nl6, nl8, nl9, nl10, nl12, nl15, nl16, nl20, nl24, nl32, nl40, nl64, nl65, nl384, pk_mul, nI_add]]
    show WG _ _ _ _ _ _ _ (998, [(5, vI k), (0, vR (some b)), (1, vR (some g.x)), (2, vR (some g.m)), (3, vR (some o)), (4, vI (nI (5 * t)))], [vI (nI (5 * t + 3)), vR (some b), vI (xs (5 * t + 2)), vI (xs (5 * t + 1)), vR (some g.m)], s9, cs + 2, sl + 12)
    refine w_sld rfl (fun _ h => h) (vp_in_nI (n := 5 * t + 3) (by omega) (by omega)) ?_
    show WG _ _ _ _ _ _ _ (999, [(5, vI k), (0, vR (some b)), (1, vR (some g.x)), (2, vR (some g.m)), (3, vR (some o)), (4, vI (nI (5 * t)))], [vI (xs (nI (5 * t + 3) : Int32).toNatClampNeg), vI (xs (5 * t + 2)), vI (xs (5 * t + 1)), vR (some g.m)], s9, cs + 2, sl + 12)
    rw [show (nI (5 * t + 3) : Int32).toNatClampNeg = 5 * t + 3 from nI_clamp (n := 5 * t + 3) (by omega)]
    show WG _ _ _ _ _ _ _ (999, [(5, vI k), (0, vR (some b)), (1, vR (some g.x)), (2, vR (some g.m)), (3, vR (some o)), (4, vI (nI (5 * t)))], [vI (xs (5 * t + 3)), vI (xs (5 * t + 2)), vI (xs (5 * t + 1)), vR (some g.m)], s9, cs + 2, sl + 12)
    refine w_if_eq rfl (fun c8 => (absurd c8 c1)) (fun c8 => ?_)
    refine w_run 2 (S' := (1007, [(5, vI k), (0, vR (some b)), (1, vR (some g.x)), (2, vR (some g.m)), (3, vR (some o)), (4, vI (nI (5 * t)))], [vI 1, vI (xs (5 * t + 2)), vI (xs (5 * t + 1)), vR (some g.m)], s9, cs + 2, sl + 12)) rfl ?_
    refine w_callV (st := []) (d := 8) [vI (xs (5 * t + 1)), vI (xs (5 * t + 2)), vI 1] rfl ml_11_129 rfl rfl hk9 rfl rfl rfl (by decide) (by decide +kernel) rfl (show cs + 2 + 0 ≤ 601024 by omega) (show sl + 12 + 0 ≤ 7293034 by omega) hm (fun _ _ h => h.elim) ?_
    rintro r9 s10 ⟨v, rfl, hPO, hJ⟩
    obtain ⟨g', R', e1, e2, e3, e4, e5⟩ := id hPO
    have hM10 : MO s10 g.m g.A := by have h1 := R'.s.mo; rw [e2, e3] at h1; exact h1
    show WG _ _ _ _ _ _ _ (1010, [(5, vI k), (0, vR (some b)), (1, vR (some g.x)), (2, vR (some g.m)), (3, vR (some o)), (4, vI (nI (5 * t)))], [vI v], s10, cs + 2 + 0, sl + 12 + 0)
    refine w_run 2 (S' := (1013, [(6, vI v), (5, vI k), (0, vR (some b)), (1, vR (some g.x)), (2, vR (some g.m)), (3, vR (some o)), (4, vI (nI (5 * t)))], [vR (some g.m)], s10, cs + 2 + 0, sl + 12 + 0)) rfl ?_
    refine w_callV (st := []) (d := 8) [] rfl ml_11_85 rfl rfl hM10.1 rfl rfl rfl (by decide) (by decide +kernel) rfl (show cs + 2 + 0 + 0 ≤ 601024 by omega) (show sl + 12 + 0 + 0 ≤ 7293034 by omega) (c_mo_thrown l E 8 s10 g.m g.A hM10) (fun _ _ h => h.elim) ?_
    rintro r9 s11 ⟨rfl, rfl⟩
    rw [e4]
    show WG _ _ _ _ _ _ _ (1016, [(6, vI v), (5, vI k), (0, vR (some b)), (1, vR (some g.x)), (2, vR (some g.m)), (3, vR (some o)), (4, vI (nI (5 * t)))], [vI k], s11, cs + 2 + 0 + 0, sl + 12 + 0 + 0)
    refine w_run 1 (S' := (1018, [(6, vI v), (5, vI k), (0, vR (some b)), (1, vR (some g.x)), (2, vR (some g.m)), (3, vR (some o)), (4, vI (nI (5 * t)))], [vI k, vI k], s11, cs + 2 + 0 + 0, sl + 12 + 0 + 0)) rfl ?_
    refine w_ic_eq rfl (fun c9 => ?_) (fun c9 => (absurd rfl c9))
    refine w_run 1 (S' := (1025, [(6, vI v), (5, vI k), (0, vR (some b)), (1, vR (some g.x)), (2, vR (some g.m)), (3, vR (some o)), (4, vI (nI (5 * t)))], [vI k], s11, cs + 2 + 0 + 0, sl + 12 + 0 + 0)) rfl ?_
    refine w_if_ne rfl (fun c10 => ?_) (fun c10 => ?_)
    · refine w_run 1 (S' := (1388, [(6, vI v), (5, vI k), (0, vR (some b)), (1, vR (some g.x)), (2, vR (some g.m)), (3, vR (some o)), (4, vI (nI (5 * t)))], [], s11, cs + 2 + 0 + 0, sl + 12 + 0 + 0)) rfl ?_
      refine w_lsP [2, 3, 4, 5, 6] ?_
      show WG _ _ _ _ _ _ _ (1388, [(0, vR (some b)), (1, vR (some g.x)), (2, vR (some g.m)), (3, vR (some o)), (4, vI (nI (5 * t)))], [], s11, cs + 2 + 0 + 0, sl + 12 + 0 + 0)
      refine w_wid (S := (1388, [(0, vR (some b)), (1, vR (some g.x)), (2, vR (some g.m)), (3, vR (some o)), (4, vI (nI (5 * t)))], [], s11)) (cs + 58) (sl + 12696) (by omega) (by omega) ?_
      exact K s11 ⟨k, hPO⟩
    · have hJ9 := hJ c10
      refine w_run 2 (S' := (1030, [(6, vI v), (5, vI k), (0, vR (some b)), (1, vR (some g.x)), (2, vR (some g.m)), (3, vR (some o)), (4, vI (nI (5 * t)))], [vI 0, vR (some o)], s11, cs + 2 + 0 + 0, sl + 12 + 0 + 0)) rfl ?_
      refine w_lald rfl rfl e5 (vp_in_nI (n := 0) (by decide) (by decide)) ?_
      show WG _ _ _ _ _ _ _ (1031, [(6, vI v), (5, vI k), (0, vR (some b)), (1, vR (some g.x)), (2, vR (some g.m)), (3, vR (some o)), (4, vI (nI (5 * t)))], [vL (s11.2.2.1 o 0)], s11, cs + 2 + 0 + 0, sl + 12 + 0 + 0)
      rw [hJ9]
      show WG _ _ _ _ _ _ _ (1031, [(6, vI v), (5, vI k), (0, vR (some b)), (1, vR (some g.x)), (2, vR (some g.m)), (3, vR (some o)), (4, vI (nI (5 * t)))], [vL (fZL v)], s11, cs + 2 + 0 + 0, sl + 12 + 0 + 0)
      refine w_run 1 (S' := (1033, [(6, vI v), (5, vI k), (0, vR (some b)), (1, vR (some g.x)), (2, vR (some g.m)), (3, vR (some o)), (4, vI (nI (5 * t)))], [vI v, vL (fZL v)], s11, cs + 2 + 0 + 0, sl + 12 + 0 + 0)) rfl ?_
      refine w_if_eq rfl (fun c11 => ?_) (fun c11 => ?_)
      · refine w_run 2 (S' := (1042, [(6, vI v), (5, vI k), (0, vR (some b)), (1, vR (some g.x)), (2, vR (some g.m)), (3, vR (some o)), (4, vI (nI (5 * t)))], [vI (lg_cmp (fZL v) 0)], s11, cs + 2 + 0 + 0, sl + 12 + 0 + 0)) rfl ?_
        refine w_if_eq rfl (fun c12 => ?_) (fun c12 => (absurd (lg_z c11) c12))
        refine w_run 1 (S' := (1388, [(6, vI v), (5, vI k), (0, vR (some b)), (1, vR (some g.x)), (2, vR (some g.m)), (3, vR (some o)), (4, vI (nI (5 * t)))], [], s11, cs + 2 + 0 + 0, sl + 12 + 0 + 0)) rfl ?_
        refine w_lsP [2, 3, 4, 5, 6] ?_
        show WG _ _ _ _ _ _ _ (1388, [(0, vR (some b)), (1, vR (some g.x)), (2, vR (some g.m)), (3, vR (some o)), (4, vI (nI (5 * t)))], [], s11, cs + 2 + 0 + 0, sl + 12 + 0 + 0)
        refine w_wid (S := (1388, [(0, vR (some b)), (1, vR (some g.x)), (2, vR (some g.m)), (3, vR (some o)), (4, vI (nI (5 * t)))], [], s11)) (cs + 58) (sl + 12696) (by omega) (by omega) ?_
        exact K s11 ⟨k, hPO⟩
      · refine w_run 3 (S' := (1042, [(6, vI v), (5, vI k), (0, vR (some b)), (1, vR (some g.x)), (2, vR (some g.m)), (3, vR (some o)), (4, vI (nI (5 * t)))], [vI (lg_cmp (fZL v) 1)], s11, cs + 2 + 0 + 0, sl + 12 + 0 + 0)) rfl ?_
        refine w_if_eq rfl (fun c13 => ?_) (fun c13 => (absurd (lg_o c11) c13))
        refine w_run 1 (S' := (1388, [(6, vI v), (5, vI k), (0, vR (some b)), (1, vR (some g.x)), (2, vR (some g.m)), (3, vR (some o)), (4, vI (nI (5 * t)))], [], s11, cs + 2 + 0 + 0, sl + 12 + 0 + 0)) rfl ?_
        refine w_lsP [2, 3, 4, 5, 6] ?_
        show WG _ _ _ _ _ _ _ (1388, [(0, vR (some b)), (1, vR (some g.x)), (2, vR (some g.m)), (3, vR (some o)), (4, vI (nI (5 * t)))], [], s11, cs + 2 + 0 + 0, sl + 12 + 0 + 0)
        refine w_wid (S := (1388, [(0, vR (some b)), (1, vR (some g.x)), (2, vR (some g.m)), (3, vR (some o)), (4, vI (nI (5 * t)))], [], s11)) (cs + 58) (sl + 12696) (by omega) (by omega) ?_
        exact K s11 ⟨k, hPO⟩
set_option maxRecDepth 20000 in
set_option maxHeartbeats 4000000 in
theorem lc_drop (l : Launch) (E : FE) (g : Gh) (t : Nat) (σ : Sg) (o b L : Nat) (xs : Nat → Int32) {args : Array Value} {QF : State → List Frame → State → Prop} {cs sl : Nat} (R : RR E g t σ) (ht : t ≤ 511) (hl0 : l.stackTraces = false) (ho : σ.2.2.2 o = 90) (hL : L ≤ 2560) (h5 : 5 * t + 5 ≤ L) (hcs : cs + 58 ≤ 601024) (hsl : sl + 12696 ≤ 7293034) (K : ∀ σ', (∃ k, PO E g.x g.m o g.A (t + 1) k σ') → WG l E room_1 132 args (SCR E b L xs) QF (1388, [(0, vR (some b)), (1, vR (some g.x)), (2, vR (some g.m)), (3, vR (some o)), (4, vI (nI (5 * t)))], [], σ', cs + 58, sl + 12696)) : WG l E room_1 132 args (SCR E b L xs) QF (1050, [(0, vR (some b)), (1, vR (some g.x)), (2, vR (some g.m)), (3, vR (some o)), (4, vI (nI (5 * t)))], [], σ, cs, sl) := by
  refine w_run 5 (S' := (1056, [(0, vR (some b)), (1, vR (some g.x)), (2, vR (some g.m)), (3, vR (some o)), (4, vI (nI (5 * t)))], [vI ((nI (5 * t)) + 1), vR (some b), vR (some g.x)], σ, cs, sl)) rfl ?_
  rw [show ((nI (5 * t)) + 1 : Int32) = nI (5 * t + 1) from by simp only [nl0, nl1, nl2, nl3, nl4, nl5, nl6, nl8, nl9, nl10, nl12, nl15, nl16, nl20, nl24, nl32, nl40, nl64, nl65, nl384, pk_mul, nI_add]]
  show WG _ _ _ _ _ _ _ (1056, [(0, vR (some b)), (1, vR (some g.x)), (2, vR (some g.m)), (3, vR (some o)), (4, vI (nI (5 * t)))], [vI (nI (5 * t + 1)), vR (some b), vR (some g.x)], σ, cs, sl)
  refine w_sld rfl (fun _ h => h) (vp_in_nI (n := 5 * t + 1) (by omega) (by omega)) ?_
  show WG _ _ _ _ _ _ _ (1057, [(0, vR (some b)), (1, vR (some g.x)), (2, vR (some g.m)), (3, vR (some o)), (4, vI (nI (5 * t)))], [vI (xs (nI (5 * t + 1) : Int32).toNatClampNeg), vR (some g.x)], σ, cs, sl)
  rw [show (nI (5 * t + 1) : Int32).toNatClampNeg = 5 * t + 1 from nI_clamp (n := 5 * t + 1) (by omega)]
  show WG _ _ _ _ _ _ _ (1057, [(0, vR (some b)), (1, vR (some g.x)), (2, vR (some g.m)), (3, vR (some o)), (4, vI (nI (5 * t)))], [vI (xs (5 * t + 1)), vR (some g.x)], σ, cs, sl)
  refine w_run 4 (S' := (1062, [(0, vR (some b)), (1, vR (some g.x)), (2, vR (some g.m)), (3, vR (some o)), (4, vI (nI (5 * t)))], [vI ((nI (5 * t)) + 2), vR (some b), vI (xs (5 * t + 1)), vR (some g.x)], σ, cs, sl)) rfl ?_
  rw [show ((nI (5 * t)) + 2 : Int32) = nI (5 * t + 2) from by simp only [nl0, nl1, nl2, nl3, nl4, nl5, nl6, nl8, nl9, nl10, nl12, nl15, nl16, nl20, nl24, nl32, nl40, nl64, nl65, nl384, pk_mul, nI_add]]
  show WG _ _ _ _ _ _ _ (1062, [(0, vR (some b)), (1, vR (some g.x)), (2, vR (some g.m)), (3, vR (some o)), (4, vI (nI (5 * t)))], [vI (nI (5 * t + 2)), vR (some b), vI (xs (5 * t + 1)), vR (some g.x)], σ, cs, sl)
  refine w_sld rfl (fun _ h => h) (vp_in_nI (n := 5 * t + 2) (by omega) (by omega)) ?_
  show WG _ _ _ _ _ _ _ (1063, [(0, vR (some b)), (1, vR (some g.x)), (2, vR (some g.m)), (3, vR (some o)), (4, vI (nI (5 * t)))], [vI (xs (nI (5 * t + 2) : Int32).toNatClampNeg), vI (xs (5 * t + 1)), vR (some g.x)], σ, cs, sl)
  rw [show (nI (5 * t + 2) : Int32).toNatClampNeg = 5 * t + 2 from nI_clamp (n := 5 * t + 2) (by omega)]
  show WG _ _ _ _ _ _ _ (1063, [(0, vR (some b)), (1, vR (some g.x)), (2, vR (some g.m)), (3, vR (some o)), (4, vI (nI (5 * t)))], [vI (xs (5 * t + 2)), vI (xs (5 * t + 1)), vR (some g.x)], σ, cs, sl)
  refine w_run 4 (S' := (1068, [(0, vR (some b)), (1, vR (some g.x)), (2, vR (some g.m)), (3, vR (some o)), (4, vI (nI (5 * t)))], [vI ((nI (5 * t)) + 3), vR (some b), vI (xs (5 * t + 2)), vI (xs (5 * t + 1)), vR (some g.x)], σ, cs, sl)) rfl ?_
  rw [show ((nI (5 * t)) + 3 : Int32) = nI (5 * t + 3) from by simp only [nl0, nl1, nl2, nl3, nl4, nl5, nl6, nl8, nl9, nl10, nl12, nl15, nl16, nl20, nl24, nl32, nl40, nl64, nl65, nl384, pk_mul, nI_add]]
  show WG _ _ _ _ _ _ _ (1068, [(0, vR (some b)), (1, vR (some g.x)), (2, vR (some g.m)), (3, vR (some o)), (4, vI (nI (5 * t)))], [vI (nI (5 * t + 3)), vR (some b), vI (xs (5 * t + 2)), vI (xs (5 * t + 1)), vR (some g.x)], σ, cs, sl)
  refine w_sld rfl (fun _ h => h) (vp_in_nI (n := 5 * t + 3) (by omega) (by omega)) ?_
  show WG _ _ _ _ _ _ _ (1069, [(0, vR (some b)), (1, vR (some g.x)), (2, vR (some g.m)), (3, vR (some o)), (4, vI (nI (5 * t)))], [vI (xs (nI (5 * t + 3) : Int32).toNatClampNeg), vI (xs (5 * t + 2)), vI (xs (5 * t + 1)), vR (some g.x)], σ, cs, sl)
  rw [show (nI (5 * t + 3) : Int32).toNatClampNeg = 5 * t + 3 from nI_clamp (n := 5 * t + 3) (by omega)]
  show WG _ _ _ _ _ _ _ (1069, [(0, vR (some b)), (1, vR (some g.x)), (2, vR (some g.m)), (3, vR (some o)), (4, vI (nI (5 * t)))], [vI (xs (5 * t + 3)), vI (xs (5 * t + 2)), vI (xs (5 * t + 1)), vR (some g.x)], σ, cs, sl)
  refine w_if_eq rfl (fun c1 => ?_) (fun c1 => ?_)
  · refine w_run 2 (S' := (1078, [(0, vR (some b)), (1, vR (some g.x)), (2, vR (some g.m)), (3, vR (some o)), (4, vI (nI (5 * t)))], [vR (some o), vI 0, vI (xs (5 * t + 2)), vI (xs (5 * t + 1)), vR (some g.x)], σ, cs, sl)) rfl ?_
    refine w_callW (st := []) (d := 12) [vR (some g.x), vI (xs (5 * t + 1)), vI (xs (5 * t + 2)), vI 0, vR (some o)] rfl mlw_128 rfl (by decide) (by decide +kernel) rfl (show cs + 2 ≤ 601024 by omega) (show sl + 12 ≤ 7293034 by omega) (st_drop l E g t σ o R (by omega) hl0 ho (xs (5 * t + 1)) (xs (5 * t + 2)) 0) (fun _ _ h => h.elim) ?_
    rintro r9 s9 ⟨k, rfl, hk9, hm⟩
    show WG _ _ _ _ _ _ _ (1081, [(0, vR (some b)), (1, vR (some g.x)), (2, vR (some g.m)), (3, vR (some o)), (4, vI (nI (5 * t)))], [vI k], s9, cs + 2, sl + 12)
    refine w_run 6 (S' := (1089, [(5, vI k), (0, vR (some b)), (1, vR (some g.x)), (2, vR (some g.m)), (3, vR (some o)), (4, vI (nI (5 * t)))], [vI ((nI (5 * t)) + 1), vR (some b), vR (some g.m)], s9, cs + 2, sl + 12)) rfl ?_
    rw [show ((nI (5 * t)) + 1 : Int32) = nI (5 * t + 1) from by simp only [nl0, nl1, nl2, nl3, nl4, nl5, nl6, nl8, nl9, nl10, nl12, nl15, nl16, nl20, nl24, nl32, nl40, nl64, nl65, nl384, pk_mul, nI_add]]
    show WG _ _ _ _ _ _ _ (1089, [(5, vI k), (0, vR (some b)), (1, vR (some g.x)), (2, vR (some g.m)), (3, vR (some o)), (4, vI (nI (5 * t)))], [vI (nI (5 * t + 1)), vR (some b), vR (some g.m)], s9, cs + 2, sl + 12)
    refine w_sld rfl (fun _ h => h) (vp_in_nI (n := 5 * t + 1) (by omega) (by omega)) ?_
    show WG _ _ _ _ _ _ _ (1090, [(5, vI k), (0, vR (some b)), (1, vR (some g.x)), (2, vR (some g.m)), (3, vR (some o)), (4, vI (nI (5 * t)))], [vI (xs (nI (5 * t + 1) : Int32).toNatClampNeg), vR (some g.m)], s9, cs + 2, sl + 12)
    rw [show (nI (5 * t + 1) : Int32).toNatClampNeg = 5 * t + 1 from nI_clamp (n := 5 * t + 1) (by omega)]
    show WG _ _ _ _ _ _ _ (1090, [(5, vI k), (0, vR (some b)), (1, vR (some g.x)), (2, vR (some g.m)), (3, vR (some o)), (4, vI (nI (5 * t)))], [vI (xs (5 * t + 1)), vR (some g.m)], s9, cs + 2, sl + 12)
    refine w_run 4 (S' := (1095, [(5, vI k), (0, vR (some b)), (1, vR (some g.x)), (2, vR (some g.m)), (3, vR (some o)), (4, vI (nI (5 * t)))], [vI ((nI (5 * t)) + 2), vR (some b), vI (xs (5 * t + 1)), vR (some g.m)], s9, cs + 2, sl + 12)) rfl ?_
    rw [show ((nI (5 * t)) + 2 : Int32) = nI (5 * t + 2) from by simp only [nl0, nl1, nl2, nl3, nl4, nl5, nl6, nl8, nl9, nl10, nl12, nl15, nl16, nl20, nl24, nl32, nl40, nl64, nl65, nl384, pk_mul, nI_add]]
    show WG _ _ _ _ _ _ _ (1095, [(5, vI k), (0, vR (some b)), (1, vR (some g.x)), (2, vR (some g.m)), (3, vR (some o)), (4, vI (nI (5 * t)))], [vI (nI (5 * t + 2)), vR (some b), vI (xs (5 * t + 1)), vR (some g.m)], s9, cs + 2, sl + 12)
    refine w_sld rfl (fun _ h => h) (vp_in_nI (n := 5 * t + 2) (by omega) (by omega)) ?_
    show WG _ _ _ _ _ _ _ (1096, [(5, vI k), (0, vR (some b)), (1, vR (some g.x)), (2, vR (some g.m)), (3, vR (some o)), (4, vI (nI (5 * t)))], [vI (xs (nI (5 * t + 2) : Int32).toNatClampNeg), vI (xs (5 * t + 1)), vR (some g.m)], s9, cs + 2, sl + 12)
    rw [show (nI (5 * t + 2) : Int32).toNatClampNeg = 5 * t + 2 from nI_clamp (n := 5 * t + 2) (by omega)]
    show WG _ _ _ _ _ _ _ (1096, [(5, vI k), (0, vR (some b)), (1, vR (some g.x)), (2, vR (some g.m)), (3, vR (some o)), (4, vI (nI (5 * t)))], [vI (xs (5 * t + 2)), vI (xs (5 * t + 1)), vR (some g.m)], s9, cs + 2, sl + 12)
    refine w_run 4 (S' := (1101, [(5, vI k), (0, vR (some b)), (1, vR (some g.x)), (2, vR (some g.m)), (3, vR (some o)), (4, vI (nI (5 * t)))], [vI ((nI (5 * t)) + 3), vR (some b), vI (xs (5 * t + 2)), vI (xs (5 * t + 1)), vR (some g.m)], s9, cs + 2, sl + 12)) rfl ?_
    rw [show ((nI (5 * t)) + 3 : Int32) = nI (5 * t + 3) from by simp only [nl0, nl1, nl2, nl3, nl4, nl5, nl6, nl8, nl9, nl10, nl12, nl15, nl16, nl20, nl24, nl32, nl40, nl64, nl65, nl384, pk_mul, nI_add]]
    show WG _ _ _ _ _ _ _ (1101, [(5, vI k), (0, vR (some b)), (1, vR (some g.x)), (2, vR (some g.m)), (3, vR (some o)), (4, vI (nI (5 * t)))], [vI (nI (5 * t + 3)), vR (some b), vI (xs (5 * t + 2)), vI (xs (5 * t + 1)), vR (some g.m)], s9, cs + 2, sl + 12)
    refine w_sld rfl (fun _ h => h) (vp_in_nI (n := 5 * t + 3) (by omega) (by omega)) ?_
    show WG _ _ _ _ _ _ _ (1102, [(5, vI k), (0, vR (some b)), (1, vR (some g.x)), (2, vR (some g.m)), (3, vR (some o)), (4, vI (nI (5 * t)))], [vI (xs (nI (5 * t + 3) : Int32).toNatClampNeg), vI (xs (5 * t + 2)), vI (xs (5 * t + 1)), vR (some g.m)], s9, cs + 2, sl + 12)
    rw [show (nI (5 * t + 3) : Int32).toNatClampNeg = 5 * t + 3 from nI_clamp (n := 5 * t + 3) (by omega)]
    show WG _ _ _ _ _ _ _ (1102, [(5, vI k), (0, vR (some b)), (1, vR (some g.x)), (2, vR (some g.m)), (3, vR (some o)), (4, vI (nI (5 * t)))], [vI (xs (5 * t + 3)), vI (xs (5 * t + 2)), vI (xs (5 * t + 1)), vR (some g.m)], s9, cs + 2, sl + 12)
    refine w_if_eq rfl (fun c2 => ?_) (fun c2 => (absurd c1 c2))
    refine w_run 1 (S' := (1110, [(5, vI k), (0, vR (some b)), (1, vR (some g.x)), (2, vR (some g.m)), (3, vR (some o)), (4, vI (nI (5 * t)))], [vI 0, vI (xs (5 * t + 2)), vI (xs (5 * t + 1)), vR (some g.m)], s9, cs + 2, sl + 12)) rfl ?_
    refine w_callV (st := []) (d := 8) [vI (xs (5 * t + 1)), vI (xs (5 * t + 2)), vI 0] rfl ml_11_132 rfl rfl hk9 rfl rfl rfl (by decide) (by decide +kernel) rfl (show cs + 2 + 0 ≤ 601024 by omega) (show sl + 12 + 0 ≤ 7293034 by omega) hm (fun _ _ h => h.elim) ?_
    rintro r9 s10 ⟨v, rfl, hPO, hJ⟩
    obtain ⟨g', R', e1, e2, e3, e4, e5⟩ := id hPO
    have hM10 : MO s10 g.m g.A := by have h1 := R'.s.mo; rw [e2, e3] at h1; exact h1
    show WG _ _ _ _ _ _ _ (1113, [(5, vI k), (0, vR (some b)), (1, vR (some g.x)), (2, vR (some g.m)), (3, vR (some o)), (4, vI (nI (5 * t)))], [vI v], s10, cs + 2 + 0, sl + 12 + 0)
    refine w_run 2 (S' := (1116, [(6, vI v), (5, vI k), (0, vR (some b)), (1, vR (some g.x)), (2, vR (some g.m)), (3, vR (some o)), (4, vI (nI (5 * t)))], [vR (some g.m)], s10, cs + 2 + 0, sl + 12 + 0)) rfl ?_
    refine w_callV (st := []) (d := 8) [] rfl ml_11_85 rfl rfl hM10.1 rfl rfl rfl (by decide) (by decide +kernel) rfl (show cs + 2 + 0 + 0 ≤ 601024 by omega) (show sl + 12 + 0 + 0 ≤ 7293034 by omega) (c_mo_thrown l E 8 s10 g.m g.A hM10) (fun _ _ h => h.elim) ?_
    rintro r9 s11 ⟨rfl, rfl⟩
    rw [e4]
    show WG _ _ _ _ _ _ _ (1119, [(6, vI v), (5, vI k), (0, vR (some b)), (1, vR (some g.x)), (2, vR (some g.m)), (3, vR (some o)), (4, vI (nI (5 * t)))], [vI k], s11, cs + 2 + 0 + 0, sl + 12 + 0 + 0)
    refine w_run 1 (S' := (1121, [(6, vI v), (5, vI k), (0, vR (some b)), (1, vR (some g.x)), (2, vR (some g.m)), (3, vR (some o)), (4, vI (nI (5 * t)))], [vI k, vI k], s11, cs + 2 + 0 + 0, sl + 12 + 0 + 0)) rfl ?_
    refine w_ic_eq rfl (fun c3 => ?_) (fun c3 => (absurd rfl c3))
    refine w_run 1 (S' := (1128, [(6, vI v), (5, vI k), (0, vR (some b)), (1, vR (some g.x)), (2, vR (some g.m)), (3, vR (some o)), (4, vI (nI (5 * t)))], [vI k], s11, cs + 2 + 0 + 0, sl + 12 + 0 + 0)) rfl ?_
    refine w_if_ne rfl (fun c4 => ?_) (fun c4 => ?_)
    · refine w_run 1 (S' := (1388, [(6, vI v), (5, vI k), (0, vR (some b)), (1, vR (some g.x)), (2, vR (some g.m)), (3, vR (some o)), (4, vI (nI (5 * t)))], [], s11, cs + 2 + 0 + 0, sl + 12 + 0 + 0)) rfl ?_
      refine w_lsP [2, 3, 4, 5, 6] ?_
      show WG _ _ _ _ _ _ _ (1388, [(0, vR (some b)), (1, vR (some g.x)), (2, vR (some g.m)), (3, vR (some o)), (4, vI (nI (5 * t)))], [], s11, cs + 2 + 0 + 0, sl + 12 + 0 + 0)
      refine w_wid (S := (1388, [(0, vR (some b)), (1, vR (some g.x)), (2, vR (some g.m)), (3, vR (some o)), (4, vI (nI (5 * t)))], [], s11)) (cs + 58) (sl + 12696) (by omega) (by omega) ?_
      exact K s11 ⟨k, hPO⟩
    · have hJ9 := hJ c4
      refine w_run 2 (S' := (1133, [(6, vI v), (5, vI k), (0, vR (some b)), (1, vR (some g.x)), (2, vR (some g.m)), (3, vR (some o)), (4, vI (nI (5 * t)))], [vI 0, vR (some o)], s11, cs + 2 + 0 + 0, sl + 12 + 0 + 0)) rfl ?_
      refine w_lald rfl rfl e5 (vp_in_nI (n := 0) (by decide) (by decide)) ?_
      show WG _ _ _ _ _ _ _ (1134, [(6, vI v), (5, vI k), (0, vR (some b)), (1, vR (some g.x)), (2, vR (some g.m)), (3, vR (some o)), (4, vI (nI (5 * t)))], [vL (s11.2.2.1 o 0)], s11, cs + 2 + 0 + 0, sl + 12 + 0 + 0)
      rw [hJ9]
      show WG _ _ _ _ _ _ _ (1134, [(6, vI v), (5, vI k), (0, vR (some b)), (1, vR (some g.x)), (2, vR (some g.m)), (3, vR (some o)), (4, vI (nI (5 * t)))], [vL (fZL v)], s11, cs + 2 + 0 + 0, sl + 12 + 0 + 0)
      refine w_run 1 (S' := (1136, [(6, vI v), (5, vI k), (0, vR (some b)), (1, vR (some g.x)), (2, vR (some g.m)), (3, vR (some o)), (4, vI (nI (5 * t)))], [vI v, vL (fZL v)], s11, cs + 2 + 0 + 0, sl + 12 + 0 + 0)) rfl ?_
      refine w_if_eq rfl (fun c5 => ?_) (fun c5 => ?_)
      · refine w_run 2 (S' := (1145, [(6, vI v), (5, vI k), (0, vR (some b)), (1, vR (some g.x)), (2, vR (some g.m)), (3, vR (some o)), (4, vI (nI (5 * t)))], [vI (lg_cmp (fZL v) 0)], s11, cs + 2 + 0 + 0, sl + 12 + 0 + 0)) rfl ?_
        refine w_if_eq rfl (fun c6 => ?_) (fun c6 => (absurd (lg_z c5) c6))
        refine w_run 1 (S' := (1388, [(6, vI v), (5, vI k), (0, vR (some b)), (1, vR (some g.x)), (2, vR (some g.m)), (3, vR (some o)), (4, vI (nI (5 * t)))], [], s11, cs + 2 + 0 + 0, sl + 12 + 0 + 0)) rfl ?_
        refine w_lsP [2, 3, 4, 5, 6] ?_
        show WG _ _ _ _ _ _ _ (1388, [(0, vR (some b)), (1, vR (some g.x)), (2, vR (some g.m)), (3, vR (some o)), (4, vI (nI (5 * t)))], [], s11, cs + 2 + 0 + 0, sl + 12 + 0 + 0)
        refine w_wid (S := (1388, [(0, vR (some b)), (1, vR (some g.x)), (2, vR (some g.m)), (3, vR (some o)), (4, vI (nI (5 * t)))], [], s11)) (cs + 58) (sl + 12696) (by omega) (by omega) ?_
        exact K s11 ⟨k, hPO⟩
      · refine w_run 3 (S' := (1145, [(6, vI v), (5, vI k), (0, vR (some b)), (1, vR (some g.x)), (2, vR (some g.m)), (3, vR (some o)), (4, vI (nI (5 * t)))], [vI (lg_cmp (fZL v) 1)], s11, cs + 2 + 0 + 0, sl + 12 + 0 + 0)) rfl ?_
        refine w_if_eq rfl (fun c7 => ?_) (fun c7 => (absurd (lg_o c5) c7))
        refine w_run 1 (S' := (1388, [(6, vI v), (5, vI k), (0, vR (some b)), (1, vR (some g.x)), (2, vR (some g.m)), (3, vR (some o)), (4, vI (nI (5 * t)))], [], s11, cs + 2 + 0 + 0, sl + 12 + 0 + 0)) rfl ?_
        refine w_lsP [2, 3, 4, 5, 6] ?_
        show WG _ _ _ _ _ _ _ (1388, [(0, vR (some b)), (1, vR (some g.x)), (2, vR (some g.m)), (3, vR (some o)), (4, vI (nI (5 * t)))], [], s11, cs + 2 + 0 + 0, sl + 12 + 0 + 0)
        refine w_wid (S := (1388, [(0, vR (some b)), (1, vR (some g.x)), (2, vR (some g.m)), (3, vR (some o)), (4, vI (nI (5 * t)))], [], s11)) (cs + 58) (sl + 12696) (by omega) (by omega) ?_
        exact K s11 ⟨k, hPO⟩
  · refine w_run 3 (S' := (1078, [(0, vR (some b)), (1, vR (some g.x)), (2, vR (some g.m)), (3, vR (some o)), (4, vI (nI (5 * t)))], [vR (some o), vI 1, vI (xs (5 * t + 2)), vI (xs (5 * t + 1)), vR (some g.x)], σ, cs, sl)) rfl ?_
    refine w_callW (st := []) (d := 12) [vR (some g.x), vI (xs (5 * t + 1)), vI (xs (5 * t + 2)), vI 1, vR (some o)] rfl mlw_128 rfl (by decide) (by decide +kernel) rfl (show cs + 2 ≤ 601024 by omega) (show sl + 12 ≤ 7293034 by omega) (st_drop l E g t σ o R (by omega) hl0 ho (xs (5 * t + 1)) (xs (5 * t + 2)) 1) (fun _ _ h => h.elim) ?_
    rintro r9 s9 ⟨k, rfl, hk9, hm⟩
    show WG _ _ _ _ _ _ _ (1081, [(0, vR (some b)), (1, vR (some g.x)), (2, vR (some g.m)), (3, vR (some o)), (4, vI (nI (5 * t)))], [vI k], s9, cs + 2, sl + 12)
    refine w_run 6 (S' := (1089, [(5, vI k), (0, vR (some b)), (1, vR (some g.x)), (2, vR (some g.m)), (3, vR (some o)), (4, vI (nI (5 * t)))], [vI ((nI (5 * t)) + 1), vR (some b), vR (some g.m)], s9, cs + 2, sl + 12)) rfl ?_
    rw [show ((nI (5 * t)) + 1 : Int32) = nI (5 * t + 1) from by simp only [nl0, nl1, nl2, nl3, nl4, nl5, nl6, nl8, nl9, nl10, nl12, nl15, nl16, nl20, nl24, nl32, nl40, nl64, nl65, nl384, pk_mul, nI_add]]
    show WG _ _ _ _ _ _ _ (1089, [(5, vI k), (0, vR (some b)), (1, vR (some g.x)), (2, vR (some g.m)), (3, vR (some o)), (4, vI (nI (5 * t)))], [vI (nI (5 * t + 1)), vR (some b), vR (some g.m)], s9, cs + 2, sl + 12)
    refine w_sld rfl (fun _ h => h) (vp_in_nI (n := 5 * t + 1) (by omega) (by omega)) ?_
    show WG _ _ _ _ _ _ _ (1090, [(5, vI k), (0, vR (some b)), (1, vR (some g.x)), (2, vR (some g.m)), (3, vR (some o)), (4, vI (nI (5 * t)))], [vI (xs (nI (5 * t + 1) : Int32).toNatClampNeg), vR (some g.m)], s9, cs + 2, sl + 12)
    rw [show (nI (5 * t + 1) : Int32).toNatClampNeg = 5 * t + 1 from nI_clamp (n := 5 * t + 1) (by omega)]
    show WG _ _ _ _ _ _ _ (1090, [(5, vI k), (0, vR (some b)), (1, vR (some g.x)), (2, vR (some g.m)), (3, vR (some o)), (4, vI (nI (5 * t)))], [vI (xs (5 * t + 1)), vR (some g.m)], s9, cs + 2, sl + 12)
    refine w_run 4 (S' := (1095, [(5, vI k), (0, vR (some b)), (1, vR (some g.x)), (2, vR (some g.m)), (3, vR (some o)), (4, vI (nI (5 * t)))], [vI ((nI (5 * t)) + 2), vR (some b), vI (xs (5 * t + 1)), vR (some g.m)], s9, cs + 2, sl + 12)) rfl ?_
    rw [show ((nI (5 * t)) + 2 : Int32) = nI (5 * t + 2) from by simp only [nl0, nl1, nl2, nl3, nl4, nl5, nl6, nl8, nl9, nl10, nl12, nl15, nl16, nl20, nl24, nl32, nl40, nl64, nl65, nl384, pk_mul, nI_add]]
    show WG _ _ _ _ _ _ _ (1095, [(5, vI k), (0, vR (some b)), (1, vR (some g.x)), (2, vR (some g.m)), (3, vR (some o)), (4, vI (nI (5 * t)))], [vI (nI (5 * t + 2)), vR (some b), vI (xs (5 * t + 1)), vR (some g.m)], s9, cs + 2, sl + 12)
    refine w_sld rfl (fun _ h => h) (vp_in_nI (n := 5 * t + 2) (by omega) (by omega)) ?_
    show WG _ _ _ _ _ _ _ (1096, [(5, vI k), (0, vR (some b)), (1, vR (some g.x)), (2, vR (some g.m)), (3, vR (some o)), (4, vI (nI (5 * t)))], [vI (xs (nI (5 * t + 2) : Int32).toNatClampNeg), vI (xs (5 * t + 1)), vR (some g.m)], s9, cs + 2, sl + 12)
    rw [show (nI (5 * t + 2) : Int32).toNatClampNeg = 5 * t + 2 from nI_clamp (n := 5 * t + 2) (by omega)]
    show WG _ _ _ _ _ _ _ (1096, [(5, vI k), (0, vR (some b)), (1, vR (some g.x)), (2, vR (some g.m)), (3, vR (some o)), (4, vI (nI (5 * t)))], [vI (xs (5 * t + 2)), vI (xs (5 * t + 1)), vR (some g.m)], s9, cs + 2, sl + 12)
    refine w_run 4 (S' := (1101, [(5, vI k), (0, vR (some b)), (1, vR (some g.x)), (2, vR (some g.m)), (3, vR (some o)), (4, vI (nI (5 * t)))], [vI ((nI (5 * t)) + 3), vR (some b), vI (xs (5 * t + 2)), vI (xs (5 * t + 1)), vR (some g.m)], s9, cs + 2, sl + 12)) rfl ?_
    rw [show ((nI (5 * t)) + 3 : Int32) = nI (5 * t + 3) from by simp only [nl0, nl1, nl2, nl3, nl4, nl5, nl6, nl8, nl9, nl10, nl12, nl15, nl16, nl20, nl24, nl32, nl40, nl64, nl65, nl384, pk_mul, nI_add]]
    show WG _ _ _ _ _ _ _ (1101, [(5, vI k), (0, vR (some b)), (1, vR (some g.x)), (2, vR (some g.m)), (3, vR (some o)), (4, vI (nI (5 * t)))], [vI (nI (5 * t + 3)), vR (some b), vI (xs (5 * t + 2)), vI (xs (5 * t + 1)), vR (some g.m)], s9, cs + 2, sl + 12)
    refine w_sld rfl (fun _ h => h) (vp_in_nI (n := 5 * t + 3) (by omega) (by omega)) ?_
    show WG _ _ _ _ _ _ _ (1102, [(5, vI k), (0, vR (some b)), (1, vR (some g.x)), (2, vR (some g.m)), (3, vR (some o)), (4, vI (nI (5 * t)))], [vI (xs (nI (5 * t + 3) : Int32).toNatClampNeg), vI (xs (5 * t + 2)), vI (xs (5 * t + 1)), vR (some g.m)], s9, cs + 2, sl + 12)
    rw [show (nI (5 * t + 3) : Int32).toNatClampNeg = 5 * t + 3 from nI_clamp (n := 5 * t + 3) (by omega)]
    show WG _ _ _ _ _ _ _ (1102, [(5, vI k), (0, vR (some b)), (1, vR (some g.x)), (2, vR (some g.m)), (3, vR (some o)), (4, vI (nI (5 * t)))], [vI (xs (5 * t + 3)), vI (xs (5 * t + 2)), vI (xs (5 * t + 1)), vR (some g.m)], s9, cs + 2, sl + 12)
    refine w_if_eq rfl (fun c8 => (absurd c8 c1)) (fun c8 => ?_)
    refine w_run 2 (S' := (1110, [(5, vI k), (0, vR (some b)), (1, vR (some g.x)), (2, vR (some g.m)), (3, vR (some o)), (4, vI (nI (5 * t)))], [vI 1, vI (xs (5 * t + 2)), vI (xs (5 * t + 1)), vR (some g.m)], s9, cs + 2, sl + 12)) rfl ?_
    refine w_callV (st := []) (d := 8) [vI (xs (5 * t + 1)), vI (xs (5 * t + 2)), vI 1] rfl ml_11_132 rfl rfl hk9 rfl rfl rfl (by decide) (by decide +kernel) rfl (show cs + 2 + 0 ≤ 601024 by omega) (show sl + 12 + 0 ≤ 7293034 by omega) hm (fun _ _ h => h.elim) ?_
    rintro r9 s10 ⟨v, rfl, hPO, hJ⟩
    obtain ⟨g', R', e1, e2, e3, e4, e5⟩ := id hPO
    have hM10 : MO s10 g.m g.A := by have h1 := R'.s.mo; rw [e2, e3] at h1; exact h1
    show WG _ _ _ _ _ _ _ (1113, [(5, vI k), (0, vR (some b)), (1, vR (some g.x)), (2, vR (some g.m)), (3, vR (some o)), (4, vI (nI (5 * t)))], [vI v], s10, cs + 2 + 0, sl + 12 + 0)
    refine w_run 2 (S' := (1116, [(6, vI v), (5, vI k), (0, vR (some b)), (1, vR (some g.x)), (2, vR (some g.m)), (3, vR (some o)), (4, vI (nI (5 * t)))], [vR (some g.m)], s10, cs + 2 + 0, sl + 12 + 0)) rfl ?_
    refine w_callV (st := []) (d := 8) [] rfl ml_11_85 rfl rfl hM10.1 rfl rfl rfl (by decide) (by decide +kernel) rfl (show cs + 2 + 0 + 0 ≤ 601024 by omega) (show sl + 12 + 0 + 0 ≤ 7293034 by omega) (c_mo_thrown l E 8 s10 g.m g.A hM10) (fun _ _ h => h.elim) ?_
    rintro r9 s11 ⟨rfl, rfl⟩
    rw [e4]
    show WG _ _ _ _ _ _ _ (1119, [(6, vI v), (5, vI k), (0, vR (some b)), (1, vR (some g.x)), (2, vR (some g.m)), (3, vR (some o)), (4, vI (nI (5 * t)))], [vI k], s11, cs + 2 + 0 + 0, sl + 12 + 0 + 0)
    refine w_run 1 (S' := (1121, [(6, vI v), (5, vI k), (0, vR (some b)), (1, vR (some g.x)), (2, vR (some g.m)), (3, vR (some o)), (4, vI (nI (5 * t)))], [vI k, vI k], s11, cs + 2 + 0 + 0, sl + 12 + 0 + 0)) rfl ?_
    refine w_ic_eq rfl (fun c9 => ?_) (fun c9 => (absurd rfl c9))
    refine w_run 1 (S' := (1128, [(6, vI v), (5, vI k), (0, vR (some b)), (1, vR (some g.x)), (2, vR (some g.m)), (3, vR (some o)), (4, vI (nI (5 * t)))], [vI k], s11, cs + 2 + 0 + 0, sl + 12 + 0 + 0)) rfl ?_
    refine w_if_ne rfl (fun c10 => ?_) (fun c10 => ?_)
    · refine w_run 1 (S' := (1388, [(6, vI v), (5, vI k), (0, vR (some b)), (1, vR (some g.x)), (2, vR (some g.m)), (3, vR (some o)), (4, vI (nI (5 * t)))], [], s11, cs + 2 + 0 + 0, sl + 12 + 0 + 0)) rfl ?_
      refine w_lsP [2, 3, 4, 5, 6] ?_
      show WG _ _ _ _ _ _ _ (1388, [(0, vR (some b)), (1, vR (some g.x)), (2, vR (some g.m)), (3, vR (some o)), (4, vI (nI (5 * t)))], [], s11, cs + 2 + 0 + 0, sl + 12 + 0 + 0)
      refine w_wid (S := (1388, [(0, vR (some b)), (1, vR (some g.x)), (2, vR (some g.m)), (3, vR (some o)), (4, vI (nI (5 * t)))], [], s11)) (cs + 58) (sl + 12696) (by omega) (by omega) ?_
      exact K s11 ⟨k, hPO⟩
    · have hJ9 := hJ c10
      refine w_run 2 (S' := (1133, [(6, vI v), (5, vI k), (0, vR (some b)), (1, vR (some g.x)), (2, vR (some g.m)), (3, vR (some o)), (4, vI (nI (5 * t)))], [vI 0, vR (some o)], s11, cs + 2 + 0 + 0, sl + 12 + 0 + 0)) rfl ?_
      refine w_lald rfl rfl e5 (vp_in_nI (n := 0) (by decide) (by decide)) ?_
      show WG _ _ _ _ _ _ _ (1134, [(6, vI v), (5, vI k), (0, vR (some b)), (1, vR (some g.x)), (2, vR (some g.m)), (3, vR (some o)), (4, vI (nI (5 * t)))], [vL (s11.2.2.1 o 0)], s11, cs + 2 + 0 + 0, sl + 12 + 0 + 0)
      rw [hJ9]
      show WG _ _ _ _ _ _ _ (1134, [(6, vI v), (5, vI k), (0, vR (some b)), (1, vR (some g.x)), (2, vR (some g.m)), (3, vR (some o)), (4, vI (nI (5 * t)))], [vL (fZL v)], s11, cs + 2 + 0 + 0, sl + 12 + 0 + 0)
      refine w_run 1 (S' := (1136, [(6, vI v), (5, vI k), (0, vR (some b)), (1, vR (some g.x)), (2, vR (some g.m)), (3, vR (some o)), (4, vI (nI (5 * t)))], [vI v, vL (fZL v)], s11, cs + 2 + 0 + 0, sl + 12 + 0 + 0)) rfl ?_
      refine w_if_eq rfl (fun c11 => ?_) (fun c11 => ?_)
      · refine w_run 2 (S' := (1145, [(6, vI v), (5, vI k), (0, vR (some b)), (1, vR (some g.x)), (2, vR (some g.m)), (3, vR (some o)), (4, vI (nI (5 * t)))], [vI (lg_cmp (fZL v) 0)], s11, cs + 2 + 0 + 0, sl + 12 + 0 + 0)) rfl ?_
        refine w_if_eq rfl (fun c12 => ?_) (fun c12 => (absurd (lg_z c11) c12))
        refine w_run 1 (S' := (1388, [(6, vI v), (5, vI k), (0, vR (some b)), (1, vR (some g.x)), (2, vR (some g.m)), (3, vR (some o)), (4, vI (nI (5 * t)))], [], s11, cs + 2 + 0 + 0, sl + 12 + 0 + 0)) rfl ?_
        refine w_lsP [2, 3, 4, 5, 6] ?_
        show WG _ _ _ _ _ _ _ (1388, [(0, vR (some b)), (1, vR (some g.x)), (2, vR (some g.m)), (3, vR (some o)), (4, vI (nI (5 * t)))], [], s11, cs + 2 + 0 + 0, sl + 12 + 0 + 0)
        refine w_wid (S := (1388, [(0, vR (some b)), (1, vR (some g.x)), (2, vR (some g.m)), (3, vR (some o)), (4, vI (nI (5 * t)))], [], s11)) (cs + 58) (sl + 12696) (by omega) (by omega) ?_
        exact K s11 ⟨k, hPO⟩
      · refine w_run 3 (S' := (1145, [(6, vI v), (5, vI k), (0, vR (some b)), (1, vR (some g.x)), (2, vR (some g.m)), (3, vR (some o)), (4, vI (nI (5 * t)))], [vI (lg_cmp (fZL v) 1)], s11, cs + 2 + 0 + 0, sl + 12 + 0 + 0)) rfl ?_
        refine w_if_eq rfl (fun c13 => ?_) (fun c13 => (absurd (lg_o c11) c13))
        refine w_run 1 (S' := (1388, [(6, vI v), (5, vI k), (0, vR (some b)), (1, vR (some g.x)), (2, vR (some g.m)), (3, vR (some o)), (4, vI (nI (5 * t)))], [], s11, cs + 2 + 0 + 0, sl + 12 + 0 + 0)) rfl ?_
        refine w_lsP [2, 3, 4, 5, 6] ?_
        show WG _ _ _ _ _ _ _ (1388, [(0, vR (some b)), (1, vR (some g.x)), (2, vR (some g.m)), (3, vR (some o)), (4, vI (nI (5 * t)))], [], s11, cs + 2 + 0 + 0, sl + 12 + 0 + 0)
        refine w_wid (S := (1388, [(0, vR (some b)), (1, vR (some g.x)), (2, vR (some g.m)), (3, vR (some o)), (4, vI (nI (5 * t)))], [], s11)) (cs + 58) (sl + 12696) (by omega) (by omega) ?_
        exact K s11 ⟨k, hPO⟩
