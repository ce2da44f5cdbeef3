/-! the law, case by case: 1 -/
set_option maxRecDepth 20000 in
set_option maxHeartbeats 4000000 in
theorem lc_manage (l : Launch) (E : FE) (g : Gh) (t : Nat) (σ : Sg) (o b L : Nat) (xs : Nat → Int32) {args : Array Value} {QF : State → List Frame → State → Prop} {cs sl : Nat} (R : RR E g t σ) (ht : t ≤ 511) (hl0 : l.stackTraces = false) (ho : σ.2.2.2 o = 90) (hL : L ≤ 2560) (h5 : 5 * t + 5 ≤ L) (hcs : cs + 58 ≤ 601024) (hsl : sl + 12696 ≤ 7293034) (K : ∀ σ', (∃ k, PO E g.x g.m o g.A (t + 1) k σ') → WG l E room_1 132 args (SCR E b L xs) QF (1388, [(0, vR (some b)), (1, vR (some g.x)), (2, vR (some g.m)), (3, vR (some o)), (4, vI (nI (5 * t)))], [], σ', cs + 58, sl + 12696)) : WG l E room_1 132 args (SCR E b L xs) QF (267, [(0, vR (some b)), (1, vR (some g.x)), (2, vR (some g.m)), (3, vR (some o)), (4, vI (nI (5 * t)))], [], σ, cs, sl) := by
  refine w_run 5 (S' := (273, [(0, vR (some b)), (1, vR (some g.x)), (2, vR (some g.m)), (3, vR (some o)), (4, vI (nI (5 * t)))], [vI ((nI (5 * t)) + 1), vR (some b), vR (some g.x)], σ, cs, sl)) rfl ?_
  rw [show ((nI (5 * t)) + 1 : Int32) = nI (5 * t + 1) from by simp only [nl0, nl1, nl2, nl3, nl4, nl5, nl6, nl8, nl9, nl10, nl12, nl15, nl16, nl20, nl24, nl32, nl40, nl64, nl65, nl384, pk_mul, nI_add]]
  show WG _ _ _ _ _ _ _ (273, [(0, vR (some b)), (1, vR (some g.x)), (2, vR (some g.m)), (3, vR (some o)), (4, vI (nI (5 * t)))], [vI (nI (5 * t + 1)), vR (some b), vR (some g.x)], σ, cs, sl)
  refine w_sld rfl (fun _ h => h) (vp_in_nI (n := 5 * t + 1) (by omega) (by omega)) ?_
  show WG _ _ _ _ _ _ _ (274, [(0, vR (some b)), (1, vR (some g.x)), (2, vR (some g.m)), (3, vR (some o)), (4, vI (nI (5 * t)))], [vI (xs (nI (5 * t + 1) : Int32).toNatClampNeg), vR (some g.x)], σ, cs, sl)
  rw [show (nI (5 * t + 1) : Int32).toNatClampNeg = 5 * t + 1 from nI_clamp (n := 5 * t + 1) (by omega)]
  show WG _ _ _ _ _ _ _ (274, [(0, vR (some b)), (1, vR (some g.x)), (2, vR (some g.m)), (3, vR (some o)), (4, vI (nI (5 * t)))], [vI (xs (5 * t + 1)), vR (some g.x)], σ, cs, sl)
  refine w_run 4 (S' := (279, [(0, vR (some b)), (1, vR (some g.x)), (2, vR (some g.m)), (3, vR (some o)), (4, vI (nI (5 * t)))], [vI ((nI (5 * t)) + 2), vR (some b), vI (xs (5 * t + 1)), vR (some g.x)], σ, cs, sl)) rfl ?_
  rw [show ((nI (5 * t)) + 2 : Int32) = nI (5 * t + 2) from by simp only [nl0, nl1, nl2, nl3, nl4, nl5, nl6, nl8, nl9, nl10, nl12, nl15, nl16, nl20, nl24, nl32, nl40, nl64, nl65, nl384, pk_mul, nI_add]]
  show WG _ _ _ _ _ _ _ (279, [(0, vR (some b)), (1, vR (some g.x)), (2, vR (some g.m)), (3, vR (some o)), (4, vI (nI (5 * t)))], [vI (nI (5 * t + 2)), vR (some b), vI (xs (5 * t + 1)), vR (some g.x)], σ, cs, sl)
  refine w_sld rfl (fun _ h => h) (vp_in_nI (n := 5 * t + 2) (by omega) (by omega)) ?_
  show WG _ _ _ _ _ _ _ (280, [(0, vR (some b)), (1, vR (some g.x)), (2, vR (some g.m)), (3, vR (some o)), (4, vI (nI (5 * t)))], [vI (xs (nI (5 * t + 2) : Int32).toNatClampNeg), vI (xs (5 * t + 1)), vR (some g.x)], σ, cs, sl)
  rw [show (nI (5 * t + 2) : Int32).toNatClampNeg = 5 * t + 2 from nI_clamp (n := 5 * t + 2) (by omega)]
  show WG _ _ _ _ _ _ _ (280, [(0, vR (some b)), (1, vR (some g.x)), (2, vR (some g.m)), (3, vR (some o)), (4, vI (nI (5 * t)))], [vI (xs (5 * t + 2)), vI (xs (5 * t + 1)), vR (some g.x)], σ, cs, sl)
  refine w_run 1 (S' := (281, [(0, vR (some b)), (1, vR (some g.x)), (2, vR (some g.m)), (3, vR (some o)), (4, vI (nI (5 * t)))], [vR (some o), vI (xs (5 * t + 2)), vI (xs (5 * t + 1)), vR (some g.x)], σ, cs, sl)) rfl ?_
  refine w_callW (st := []) (d := 12) [vR (some g.x), vI (xs (5 * t + 1)), vI (xs (5 * t + 2)), vR (some o)] rfl mlw_118 rfl (by decide) (by decide +kernel) rfl (show cs + 2 ≤ 601024 by omega) (show sl + 12 ≤ 7293034 by omega) (st_manage l E g t σ o R (by omega) hl0 ho (xs (5 * t + 1)) (xs (5 * t + 2))) (fun _ _ h => h.elim) ?_
  rintro r9 s9 ⟨k, rfl, hk9, hm⟩
  show WG _ _ _ _ _ _ _ (284, [(0, vR (some b)), (1, vR (some g.x)), (2, vR (some g.m)), (3, vR (some o)), (4, vI (nI (5 * t)))], [vI k], s9, cs + 2, sl + 12)
  refine w_run 6 (S' := (292, [(5, vI k), (0, vR (some b)), (1, vR (some g.x)), (2, vR (some g.m)), (3, vR (some o)), (4, vI (nI (5 * t)))], [vI ((nI (5 * t)) + 1), vR (some b), vR (some g.m)], s9, cs + 2, sl + 12)) rfl ?_
  rw [show ((nI (5 * t)) + 1 : Int32) = nI (5 * t + 1) from by simp only [nl0, nl1, nl2, nl3, nl4, nl5, nl6, nl8, nl9, nl10, nl12, nl15, nl16, nl20, nl24, nl32, nl40, nl64, nl65, nl384, pk_mul, nI_add]]
  show WG _ _ _ _ _ _ _ (292, [(5, vI k), (0, vR (some b)), (1, vR (some g.x)), (2, vR (some g.m)), (3, vR (some o)), (4, vI (nI (5 * t)))], [vI (nI (5 * t + 1)), vR (some b), vR (some g.m)], s9, cs + 2, sl + 12)
  refine w_sld rfl (fun _ h => h) (vp_in_nI (n := 5 * t + 1) (by omega) (by omega)) ?_
  show WG _ _ _ _ _ _ _ (293, [(5, vI k), (0, vR (some b)), (1, vR (some g.x)), (2, vR (some g.m)), (3, vR (some o)), (4, vI (nI (5 * t)))], [vI (xs (nI (5 * t + 1) : Int32).toNatClampNeg), vR (some g.m)], s9, cs + 2, sl + 12)
  rw [show (nI (5 * t + 1) : Int32).toNatClampNeg = 5 * t + 1 from nI_clamp (n := 5 * t + 1) (by omega)]
  show WG _ _ _ _ _ _ _ (293, [(5, vI k), (0, vR (some b)), (1, vR (some g.x)), (2, vR (some g.m)), (3, vR (some o)), (4, vI (nI (5 * t)))], [vI (xs (5 * t + 1)), vR (some g.m)], s9, cs + 2, sl + 12)
  refine w_run 4 (S' := (298, [(5, vI k), (0, vR (some b)), (1, vR (some g.x)), (2, vR (some g.m)), (3, vR (some o)), (4, vI (nI (5 * t)))], [vI ((nI (5 * t)) + 2), vR (some b), vI (xs (5 * t + 1)), vR (some g.m)], s9, cs + 2, sl + 12)) rfl ?_
  rw [show ((nI (5 * t)) + 2 : Int32) = nI (5 * t + 2) from by simp only [nl0, nl1, nl2, nl3, nl4, nl5, nl6, nl8, nl9, nl10, nl12, nl15, nl16, nl20, nl24, nl32, nl40, nl64, nl65, nl384, pk_mul, nI_add]]
  show WG _ _ _ _ _ _ _ (298, [(5, vI k), (0, vR (some b)), (1, vR (some g.x)), (2, vR (some g.m)), (3, vR (some o)), (4, vI (nI (5 * t)))], [vI (nI (5 * t + 2)), vR (some b), vI (xs (5 * t + 1)), vR (some g.m)], s9, cs + 2, sl + 12)
  refine w_sld rfl (fun _ h => h) (vp_in_nI (n := 5 * t + 2) (by omega) (by omega)) ?_
  show WG _ _ _ _ _ _ _ (299, [(5, vI k), (0, vR (some b)), (1, vR (some g.x)), (2, vR (some g.m)), (3, vR (some o)), (4, vI (nI (5 * t)))], [vI (xs (nI (5 * t + 2) : Int32).toNatClampNeg), vI (xs (5 * t + 1)), vR (some g.m)], s9, cs + 2, sl + 12)
  rw [show (nI (5 * t + 2) : Int32).toNatClampNeg = 5 * t + 2 from nI_clamp (n := 5 * t + 2) (by omega)]
  show WG _ _ _ _ _ _ _ (299, [(5, vI k), (0, vR (some b)), (1, vR (some g.x)), (2, vR (some g.m)), (3, vR (some o)), (4, vI (nI (5 * t)))], [vI (xs (5 * t + 2)), vI (xs (5 * t + 1)), vR (some g.m)], s9, cs + 2, sl + 12)
  refine w_callV (st := []) (d := 8) [vI (xs (5 * t + 1)), vI (xs (5 * t + 2))] rfl ml_11_98 rfl rfl hk9 rfl rfl rfl (by decide) (by decide +kernel) rfl (show cs + 2 + 0 ≤ 601024 by omega) (show sl + 12 + 0 ≤ 7293034 by omega) hm (fun _ _ h => h.elim) ?_
  rintro r9 s10 ⟨v, rfl, hPO, hJ⟩
  obtain ⟨g', R', e1, e2, e3, e4, e5⟩ := id hPO
  have hM10 : MO s10 g.m g.A := by have h1 := R'.s.mo; rw [e2, e3] at h1; exact h1
  show WG _ _ _ _ _ _ _ (302, [(5, vI k), (0, vR (some b)), (1, vR (some g.x)), (2, vR (some g.m)), (3, vR (some o)), (4, vI (nI (5 * t)))], [vI v], s10, cs + 2 + 0, sl + 12 + 0)
  refine w_run 2 (S' := (305, [(6, vI v), (5, vI k), (0, vR (some b)), (1, vR (some g.x)), (2, vR (some g.m)), (3, vR (some o)), (4, vI (nI (5 * t)))], [vR (some g.m)], s10, cs + 2 + 0, sl + 12 + 0)) rfl ?_
  refine w_callV (st := []) (d := 8) [] rfl ml_11_85 rfl rfl hM10.1 rfl rfl rfl (by decide) (by decide +kernel) rfl (show cs + 2 + 0 + 0 ≤ 601024 by omega) (show sl + 12 + 0 + 0 ≤ 7293034 by omega) (c_mo_thrown l E 8 s10 g.m g.A hM10) (fun _ _ h => h.elim) ?_
  rintro r9 s11 ⟨rfl, rfl⟩
  rw [e4]
  show WG _ _ _ _ _ _ _ (308, [(6, vI v), (5, vI k), (0, vR (some b)), (1, vR (some g.x)), (2, vR (some g.m)), (3, vR (some o)), (4, vI (nI (5 * t)))], [vI k], s11, cs + 2 + 0 + 0, sl + 12 + 0 + 0)
  refine w_run 1 (S' := (310, [(6, vI v), (5, vI k), (0, vR (some b)), (1, vR (some g.x)), (2, vR (some g.m)), (3, vR (some o)), (4, vI (nI (5 * t)))], [vI k, vI k], s11, cs + 2 + 0 + 0, sl + 12 + 0 + 0)) rfl ?_
  refine w_ic_eq rfl (fun c1 => ?_) (fun c1 => (absurd rfl c1))
  refine w_run 1 (S' := (317, [(6, vI v), (5, vI k), (0, vR (some b)), (1, vR (some g.x)), (2, vR (some g.m)), (3, vR (some o)), (4, vI (nI (5 * t)))], [vI k], s11, cs + 2 + 0 + 0, sl + 12 + 0 + 0)) rfl ?_
  refine w_if_ne rfl (fun c2 => ?_) (fun c2 => ?_)
  · refine w_run 1 (S' := (1388, [(6, vI v), (5, vI k), (0, vR (some b)), (1, vR (some g.x)), (2, vR (some g.m)), (3, vR (some o)), (4, vI (nI (5 * t)))], [], s11, cs + 2 + 0 + 0, sl + 12 + 0 + 0)) rfl ?_
    refine w_lsP [2, 3, 4, 5, 6] ?_
    show WG _ _ _ _ _ _ _ (1388, [(0, vR (some b)), (1, vR (some g.x)), (2, vR (some g.m)), (3, vR (some o)), (4, vI (nI (5 * t)))], [], s11, cs + 2 + 0 + 0, sl + 12 + 0 + 0)
    refine w_wid (S := (1388, [(0, vR (some b)), (1, vR (some g.x)), (2, vR (some g.m)), (3, vR (some o)), (4, vI (nI (5 * t)))], [], s11)) (cs + 58) (sl + 12696) (by omega) (by omega) ?_
    exact K s11 ⟨k, hPO⟩
  · have hJ9 := hJ c2
    refine w_run 2 (S' := (322, [(6, vI v), (5, vI k), (0, vR (some b)), (1, vR (some g.x)), (2, vR (some g.m)), (3, vR (some o)), (4, vI (nI (5 * t)))], [vI 0, vR (some o)], s11, cs + 2 + 0 + 0, sl + 12 + 0 + 0)) rfl ?_
    refine w_lald rfl rfl e5 (vp_in_nI (n := 0) (by decide) (by decide)) ?_
    show WG _ _ _ _ _ _ _ (323, [(6, vI v), (5, vI k), (0, vR (some b)), (1, vR (some g.x)), (2, vR (some g.m)), (3, vR (some o)), (4, vI (nI (5 * t)))], [vL (s11.2.2.1 o 0)], s11, cs + 2 + 0 + 0, sl + 12 + 0 + 0)
    rw [hJ9]
    show WG _ _ _ _ _ _ _ (323, [(6, vI v), (5, vI k), (0, vR (some b)), (1, vR (some g.x)), (2, vR (some g.m)), (3, vR (some o)), (4, vI (nI (5 * t)))], [vL (fZL v)], s11, cs + 2 + 0 + 0, sl + 12 + 0 + 0)
    refine w_run 1 (S' := (325, [(6, vI v), (5, vI k), (0, vR (some b)), (1, vR (some g.x)), (2, vR (some g.m)), (3, vR (some o)), (4, vI (nI (5 * t)))], [vI v, vL (fZL v)], s11, cs + 2 + 0 + 0, sl + 12 + 0 + 0)) rfl ?_
    refine w_if_eq rfl (fun c3 => ?_) (fun c3 => ?_)
    · refine w_run 2 (S' := (334, [(6, vI v), (5, vI k), (0, vR (some b)), (1, vR (some g.x)), (2, vR (some g.m)), (3, vR (some o)), (4, vI (nI (5 * t)))], [vI (lg_cmp (fZL v) 0)], s11, cs + 2 + 0 + 0, sl + 12 + 0 + 0)) rfl ?_
      refine w_if_eq rfl (fun c4 => ?_) (fun c4 => (absurd (lg_z c3) c4))
      refine w_run 1 (S' := (1388, [(6, vI v), (5, vI k), (0, vR (some b)), (1, vR (some g.x)), (2, vR (some g.m)), (3, vR (some o)), (4, vI (nI (5 * t)))], [], s11, cs + 2 + 0 + 0, sl + 12 + 0 + 0)) rfl ?_
      refine w_lsP [2, 3, 4, 5, 6] ?_
      show WG _ _ _ _ _ _ _ (1388, [(0, vR (some b)), (1, vR (some g.x)), (2, vR (some g.m)), (3, vR (some o)), (4, vI (nI (5 * t)))], [], s11, cs + 2 + 0 + 0, sl + 12 + 0 + 0)
      refine w_wid (S := (1388, [(0, vR (some b)), (1, vR (some g.x)), (2, vR (some g.m)), (3, vR (some o)), (4, vI (nI (5 * t)))], [], s11)) (cs + 58) (sl + 12696) (by omega) (by omega) ?_
      exact K s11 ⟨k, hPO⟩
    · refine w_run 3 (S' := (334, [(6, vI v), (5, vI k), (0, vR (some b)), (1, vR (some g.x)), (2, vR (some g.m)), (3, vR (some o)), (4, vI (nI (5 * t)))], [vI (lg_cmp (fZL v) 1)], s11, cs + 2 + 0 + 0, sl + 12 + 0 + 0)) rfl ?_
      refine w_if_eq rfl (fun c5 => ?_) (fun c5 => (absurd (lg_o c3) c5))
      refine w_run 1 (S' := (1388, [(6, vI v), (5, vI k), (0, vR (some b)), (1, vR (some g.x)), (2, vR (some g.m)), (3, vR (some o)), (4, vI (nI (5 * t)))], [], s11, cs + 2 + 0 + 0, sl + 12 + 0 + 0)) rfl ?_
      refine w_lsP [2, 3, 4, 5, 6] ?_
      show WG _ _ _ _ _ _ _ (1388, [(0, vR (some b)), (1, vR (some g.x)), (2, vR (some g.m)), (3, vR (some o)), (4, vI (nI (5 * t)))], [], s11, cs + 2 + 0 + 0, sl + 12 + 0 + 0)
      refine w_wid (S := (1388, [(0, vR (some b)), (1, vR (some g.x)), (2, vR (some g.m)), (3, vR (some o)), (4, vI (nI (5 * t)))], [], s11)) (cs + 58) (sl + 12696) (by omega) (by omega) ?_
      exact K s11 ⟨k, hPO⟩
set_option maxRecDepth 20000 in
set_option maxHeartbeats 4000000 in
theorem lc_item (l : Launch) (E : FE) (g : Gh) (t : Nat) (σ : Sg) (o b L : Nat) (xs : Nat → Int32) {args : Array Value} {QF : State → List Frame → State → Prop} {cs sl : Nat} (R : RR E g t σ) (ht : t ≤ 511) (hl0 : l.stackTraces = false) (ho : σ.2.2.2 o = 90) (hL : L ≤ 2560) (h5 : 5 * t + 5 ≤ L) (hcs : cs + 58 ≤ 601024) (hsl : sl + 12696 ≤ 7293034) (K : ∀ σ', (∃ k, PO E g.x g.m o g.A (t + 1) k σ') → WG l E room_1 132 args (SCR E b L xs) QF (1388, [(0, vR (some b)), (1, vR (some g.x)), (2, vR (some g.m)), (3, vR (some o)), (4, vI (nI (5 * t)))], [], σ', cs + 58, sl + 12696)) : WG l E room_1 132 args (SCR E b L xs) QF (342, [(0, vR (some b)), (1, vR (some g.x)), (2, vR (some g.m)), (3, vR (some o)), (4, vI (nI (5 * t)))], [], σ, cs, sl) := by
  refine w_run 5 (S' := (348, [(0, vR (some b)), (1, vR (some g.x)), (2, vR (some g.m)), (3, vR (some o)), (4, vI (nI (5 * t)))], [vI ((nI (5 * t)) + 1), vR (some b), vR (some g.x)], σ, cs, sl)) rfl ?_
  rw [show ((nI (5 * t)) + 1 : Int32) = nI (5 * t + 1) from by simp only [nl0, nl1, nl2, nl3, nl4, nl5, nl6, nl8, nl9, nl10, nl12, nl15, nl16, nl20, nl24, nl32, nl40, nl64, nl65, nl384, pk_mul, nI_add]]
  show WG _ _ _ _ _ _ _ (348, [(0, vR (some b)), (1, vR (some g.x)), (2, vR (some g.m)), (3, vR (some o)), (4, vI (nI (5 * t)))], [vI (nI (5 * t + 1)), vR (some b), vR (some g.x)], σ, cs, sl)
  refine w_sld rfl (fun _ h => h) (vp_in_nI (n := 5 * t + 1) (by omega) (by omega)) ?_
  show WG _ _ _ _ _ _ _ (349, [(0, vR (some b)), (1, vR (some g.x)), (2, vR (some g.m)), (3, vR (some o)), (4, vI (nI (5 * t)))], [vI (xs (nI (5 * t + 1) : Int32).toNatClampNeg), vR (some g.x)], σ, cs, sl)
  rw [show (nI (5 * t + 1) : Int32).toNatClampNeg = 5 * t + 1 from nI_clamp (n := 5 * t + 1) (by omega)]
  show WG _ _ _ _ _ _ _ (349, [(0, vR (some b)), (1, vR (some g.x)), (2, vR (some g.m)), (3, vR (some o)), (4, vI (nI (5 * t)))], [vI (xs (5 * t + 1)), vR (some g.x)], σ, cs, sl)
  refine w_run 4 (S' := (354, [(0, vR (some b)), (1, vR (some g.x)), (2, vR (some g.m)), (3, vR (some o)), (4, vI (nI (5 * t)))], [vI ((nI (5 * t)) + 2), vR (some b), vI (xs (5 * t + 1)), vR (some g.x)], σ, cs, sl)) rfl ?_
  rw [show ((nI (5 * t)) + 2 : Int32) = nI (5 * t + 2) from by simp only [nl0, nl1, nl2, nl3, nl4, nl5, nl6, nl8, nl9, nl10, nl12, nl15, nl16, nl20, nl24, nl32, nl40, nl64, nl65, nl384, pk_mul, nI_add]]
  show WG _ _ _ _ _ _ _ (354, [(0, vR (some b)), (1, vR (some g.x)), (2, vR (some g.m)), (3, vR (some o)), (4, vI (nI (5 * t)))], [vI (nI (5 * t + 2)), vR (some b), vI (xs (5 * t + 1)), vR (some g.x)], σ, cs, sl)
  refine w_sld rfl (fun _ h => h) (vp_in_nI (n := 5 * t + 2) (by omega) (by omega)) ?_
  show WG _ _ _ _ _ _ _ (355, [(0, vR (some b)), (1, vR (some g.x)), (2, vR (some g.m)), (3, vR (some o)), (4, vI (nI (5 * t)))], [vI (xs (nI (5 * t + 2) : Int32).toNatClampNeg), vI (xs (5 * t + 1)), vR (some g.x)], σ, cs, sl)
  rw [show (nI (5 * t + 2) : Int32).toNatClampNeg = 5 * t + 2 from nI_clamp (n := 5 * t + 2) (by omega)]
  show WG _ _ _ _ _ _ _ (355, [(0, vR (some b)), (1, vR (some g.x)), (2, vR (some g.m)), (3, vR (some o)), (4, vI (nI (5 * t)))], [vI (xs (5 * t + 2)), vI (xs (5 * t + 1)), vR (some g.x)], σ, cs, sl)
  refine w_run 4 (S' := (360, [(0, vR (some b)), (1, vR (some g.x)), (2, vR (some g.m)), (3, vR (some o)), (4, vI (nI (5 * t)))], [vI ((nI (5 * t)) + 3), vR (some b), vI (xs (5 * t + 2)), vI (xs (5 * t + 1)), vR (some g.x)], σ, cs, sl)) rfl ?_
  rw [show ((nI (5 * t)) + 3 : Int32) = nI (5 * t + 3) from by simp only [nl0, nl1, nl2, nl3, nl4, nl5, nl6, nl8, nl9, nl10, nl12, nl15, nl16, nl20, nl24, nl32, nl40, nl64, nl65, nl384, pk_mul, nI_add]]
  show WG _ _ _ _ _ _ _ (360, [(0, vR (some b)), (1, vR (some g.x)), (2, vR (some g.m)), (3, vR (some o)), (4, vI (nI (5 * t)))], [vI (nI (5 * t + 3)), vR (some b), vI (xs (5 * t + 2)), vI (xs (5 * t + 1)), vR (some g.x)], σ, cs, sl)
  refine w_sld rfl (fun _ h => h) (vp_in_nI (n := 5 * t + 3) (by omega) (by omega)) ?_
  show WG _ _ _ _ _ _ _ (361, [(0, vR (some b)), (1, vR (some g.x)), (2, vR (some g.m)), (3, vR (some o)), (4, vI (nI (5 * t)))], [vI (xs (nI (5 * t + 3) : Int32).toNatClampNeg), vI (xs (5 * t + 2)), vI (xs (5 * t + 1)), vR (some g.x)], σ, cs, sl)
  rw [show (nI (5 * t + 3) : Int32).toNatClampNeg = 5 * t + 3 from nI_clamp (n := 5 * t + 3) (by omega)]
  show WG _ _ _ _ _ _ _ (361, [(0, vR (some b)), (1, vR (some g.x)), (2, vR (some g.m)), (3, vR (some o)), (4, vI (nI (5 * t)))], [vI (xs (5 * t + 3)), vI (xs (5 * t + 2)), vI (xs (5 * t + 1)), vR (some g.x)], σ, cs, sl)
  refine w_run 1 (S' := (362, [(0, vR (some b)), (1, vR (some g.x)), (2, vR (some g.m)), (3, vR (some o)), (4, vI (nI (5 * t)))], [vR (some o), vI (xs (5 * t + 3)), vI (xs (5 * t + 2)), vI (xs (5 * t + 1)), vR (some g.x)], σ, cs, sl)) rfl ?_
  refine w_callW (st := []) (d := 12) [vR (some g.x), vI (xs (5 * t + 1)), vI (xs (5 * t + 2)), vI (xs (5 * t + 3)), vR (some o)] rfl mlw_119 rfl (by decide) (by decide +kernel) rfl (show cs + 2 ≤ 601024 by omega) (show sl + 12 ≤ 7293034 by omega) (st_item l E g t σ o R (by omega) hl0 ho (xs (5 * t + 1)) (xs (5 * t + 2)) (xs (5 * t + 3))) (fun _ _ h => h.elim) ?_
  rintro r9 s9 ⟨k, rfl, hk9, hm⟩
  show WG _ _ _ _ _ _ _ (365, [(0, vR (some b)), (1, vR (some g.x)), (2, vR (some g.m)), (3, vR (some o)), (4, vI (nI (5 * t)))], [vI k], s9, cs + 2, sl + 12)
  refine w_run 6 (S' := (373, [(5, vI k), (0, vR (some b)), (1, vR (some g.x)), (2, vR (some g.m)), (3, vR (some o)), (4, vI (nI (5 * t)))], [vI ((nI (5 * t)) + 1), vR (some b), vR (some g.m)], s9, cs + 2, sl + 12)) rfl ?_
  rw [show ((nI (5 * t)) + 1 : Int32) = nI (5 * t + 1) from by simp only [nl0, nl1, nl2, nl3, nl4, nl5, nl6, nl8, nl9, nl10, nl12, nl15, nl16, nl20, nl24, nl32, nl40, nl64, nl65, nl384, pk_mul, nI_add]]
  show WG _ _ _ _ _ _ _ (373, [(5, vI k), (0, vR (some b)), (1, vR (some g.x)), (2, vR (some g.m)), (3, vR (some o)), (4, vI (nI (5 * t)))], [vI (nI (5 * t + 1)), vR (some b), vR (some g.m)], s9, cs + 2, sl + 12)
  refine w_sld rfl (fun _ h => h) (vp_in_nI (n := 5 * t + 1) (by omega) (by omega)) ?_
  show WG _ _ _ _ _ _ _ (374, [(5, vI k), (0, vR (some b)), (1, vR (some g.x)), (2, vR (some g.m)), (3, vR (some o)), (4, vI (nI (5 * t)))], [vI (xs (nI (5 * t + 1) : Int32).toNatClampNeg), vR (some g.m)], s9, cs + 2, sl + 12)
  rw [show (nI (5 * t + 1) : Int32).toNatClampNeg = 5 * t + 1 from nI_clamp (n := 5 * t + 1) (by omega)]
  show WG _ _ _ _ _ _ _ (374, [(5, vI k), (0, vR (some b)), (1, vR (some g.x)), (2, vR (some g.m)), (3, vR (some o)), (4, vI (nI (5 * t)))], [vI (xs (5 * t + 1)), vR (some g.m)], s9, cs + 2, sl + 12)
  refine w_run 4 (S' := (379, [(5, vI k), (0, vR (some b)), (1, vR (some g.x)), (2, vR (some g.m)), (3, vR (some o)), (4, vI (nI (5 * t)))], [vI ((nI (5 * t)) + 2), vR (some b), vI (xs (5 * t + 1)), vR (some g.m)], s9, cs + 2, sl + 12)) rfl ?_
  rw [show ((nI (5 * t)) + 2 : Int32) = nI (5 * t + 2) from by simp only [nl0, nl1, nl2, nl3, nl4, nl5, nl6, nl8, nl9, nl10, nl12, nl15, nl16, nl20, nl24, nl32, nl40, nl64, nl65, nl384, pk_mul, nI_add]]
  show WG _ _ _ _ _ _ _ (379, [(5, vI k), (0, vR (some b)), (1, vR (some g.x)), (2, vR (some g.m)), (3, vR (some o)), (4, vI (nI (5 * t)))], [vI (nI (5 * t + 2)), vR (some b), vI (xs (5 * t + 1)), vR (some g.m)], s9, cs + 2, sl + 12)
  refine w_sld rfl (fun _ h => h) (vp_in_nI (n := 5 * t + 2) (by omega) (by omega)) ?_
  show WG _ _ _ _ _ _ _ (380, [(5, vI k), (0, vR (some b)), (1, vR (some g.x)), (2, vR (some g.m)), (3, vR (some o)), (4, vI (nI (5 * t)))], [vI (xs (nI (5 * t + 2) : Int32).toNatClampNeg), vI (xs (5 * t + 1)), vR (some g.m)], s9, cs + 2, sl + 12)
  rw [show (nI (5 * t + 2) : Int32).toNatClampNeg = 5 * t + 2 from nI_clamp (n := 5 * t + 2) (by omega)]
  show WG _ _ _ _ _ _ _ (380, [(5, vI k), (0, vR (some b)), (1, vR (some g.x)), (2, vR (some g.m)), (3, vR (some o)), (4, vI (nI (5 * t)))], [vI (xs (5 * t + 2)), vI (xs (5 * t + 1)), vR (some g.m)], s9, cs + 2, sl + 12)
  refine w_run 4 (S' := (385, [(5, vI k), (0, vR (some b)), (1, vR (some g.x)), (2, vR (some g.m)), (3, vR (some o)), (4, vI (nI (5 * t)))], [vI ((nI (5 * t)) + 3), vR (some b), vI (xs (5 * t + 2)), vI (xs (5 * t + 1)), vR (some g.m)], s9, cs + 2, sl + 12)) rfl ?_
  rw [show ((nI (5 * t)) + 3 : Int32) = nI (5 * t + 3) from by simp only [nl0, nl1, nl2, nl3, nl4, nl5, nl6, nl8, nl9, nl10, nl12, nl15, nl16, nl20, nl24, nl32, nl40, nl64, nl65, nl384, pk_mul, nI_add]]
  show WG _ _ _ _ _ _ _ (385, [(5, vI k), (0, vR (some b)), (1, vR (some g.x)), (2, vR (some g.m)), (3, vR (some o)), (4, vI (nI (5 * t)))], [vI (nI (5 * t + 3)), vR (some b), vI (xs (5 * t + 2)), vI (xs (5 * t + 1)), vR (some g.m)], s9, cs + 2, sl + 12)
  refine w_sld rfl (fun _ h => h) (vp_in_nI (n := 5 * t + 3) (by omega) (by omega)) ?_
  show WG _ _ _ _ _ _ _ (386, [(5, vI k), (0, vR (some b)), (1, vR (some g.x)), (2, vR (some g.m)), (3, vR (some o)), (4, vI (nI (5 * t)))], [vI (xs (nI (5 * t + 3) : Int32).toNatClampNeg), vI (xs (5 * t + 2)), vI (xs (5 * t + 1)), vR (some g.m)], s9, cs + 2, sl + 12)
  rw [show (nI (5 * t + 3) : Int32).toNatClampNeg = 5 * t + 3 from nI_clamp (n := 5 * t + 3) (by omega)]
  show WG _ _ _ _ _ _ _ (386, [(5, vI k), (0, vR (some b)), (1, vR (some g.x)), (2, vR (some g.m)), (3, vR (some o)), (4, vI (nI (5 * t)))], [vI (xs (5 * t + 3)), vI (xs (5 * t + 2)), vI (xs (5 * t + 1)), vR (some g.m)], s9, cs + 2, sl + 12)
  refine w_callV (st := []) (d := 8) [vI (xs (5 * t + 1)), vI (xs (5 * t + 2)), vI (xs (5 * t + 3))] rfl ml_11_102 rfl rfl hk9 rfl rfl rfl (by decide) (by decide +kernel) rfl (show cs + 2 + 0 ≤ 601024 by omega) (show sl + 12 + 0 ≤ 7293034 by omega) hm (fun _ _ h => h.elim) ?_
  rintro r9 s10 ⟨v, rfl, hPO, hJ⟩
  obtain ⟨g', R', e1, e2, e3, e4, e5⟩ := id hPO
  have hM10 : MO s10 g.m g.A := by have h1 := R'.s.mo; rw [e2, e3] at h1; exact h1
  show WG _ _ _ _ _ _ _ (389, [(5, vI k), (0, vR (some b)), (1, vR (some g.x)), (2, vR (some g.m)), (3, vR (some o)), (4, vI (nI (5 * t)))], [vI v], s10, cs + 2 + 0, sl + 12 + 0)
  refine w_run 2 (S' := (392, [(6, vI v), (5, vI k), (0, vR (some b)), (1, vR (some g.x)), (2, vR (some g.m)), (3, vR (some o)), (4, vI (nI (5 * t)))], [vR (some g.m)], s10, cs + 2 + 0, sl + 12 + 0)) rfl ?_
  refine w_callV (st := []) (d := 8) [] rfl ml_11_85 rfl rfl hM10.1 rfl rfl rfl (by decide) (by decide +kernel) rfl (show cs + 2 + 0 + 0 ≤ 601024 by omega) (show sl + 12 + 0 + 0 ≤ 7293034 by omega) (c_mo_thrown l E 8 s10 g.m g.A hM10) (fun _ _ h => h.elim) ?_
  rintro r9 s11 ⟨rfl, rfl⟩
  rw [e4]
  show WG _ _ _ _ _ _ _ (395, [(6, vI v), (5, vI k), (0, vR (some b)), (1, vR (some g.x)), (2, vR (some g.m)), (3, vR (some o)), (4, vI (nI (5 * t)))], [vI k], s11, cs + 2 + 0 + 0, sl + 12 + 0 + 0)
  refine w_run 1 (S' := (397, [(6, vI v), (5, vI k), (0, vR (some b)), (1, vR (some g.x)), (2, vR (some g.m)), (3, vR (some o)), (4, vI (nI (5 * t)))], [vI k, vI k], s11, cs + 2 + 0 + 0, sl + 12 + 0 + 0)) rfl ?_
  refine w_ic_eq rfl (fun c1 => ?_) (fun c1 => (absurd rfl c1))
  refine w_run 1 (S' := (404, [(6, vI v), (5, vI k), (0, vR (some b)), (1, vR (some g.x)), (2, vR (some g.m)), (3, vR (some o)), (4, vI (nI (5 * t)))], [vI k], s11, cs + 2 + 0 + 0, sl + 12 + 0 + 0)) rfl ?_
  refine w_if_ne rfl (fun c2 => ?_) (fun c2 => ?_)
  · refine w_run 1 (S' := (1388, [(6, vI v), (5, vI k), (0, vR (some b)), (1, vR (some g.x)), (2, vR (some g.m)), (3, vR (some o)), (4, vI (nI (5 * t)))], [], s11, cs + 2 + 0 + 0, sl + 12 + 0 + 0)) rfl ?_
    refine w_lsP [2, 3, 4, 5, 6] ?_
    show WG _ _ _ _ _ _ _ (1388, [(0, vR (some b)), (1, vR (some g.x)), (2, vR (some g.m)), (3, vR (some o)), (4, vI (nI (5 * t)))], [], s11, cs + 2 + 0 + 0, sl + 12 + 0 + 0)
    refine w_wid (S := (1388, [(0, vR (some b)), (1, vR (some g.x)), (2, vR (some g.m)), (3, vR (some o)), (4, vI (nI (5 * t)))], [], s11)) (cs + 58) (sl + 12696) (by omega) (by omega) ?_
    exact K s11 ⟨k, hPO⟩
  · have hJ9 := hJ c2
    refine w_run 2 (S' := (409, [(6, vI v), (5, vI k), (0, vR (some b)), (1, vR (some g.x)), (2, vR (some g.m)), (3, vR (some o)), (4, vI (nI (5 * t)))], [vI 0, vR (some o)], s11, cs + 2 + 0 + 0, sl + 12 + 0 + 0)) rfl ?_
    refine w_lald rfl rfl e5 (vp_in_nI (n := 0) (by decide) (by decide)) ?_
    show WG _ _ _ _ _ _ _ (410, [(6, vI v), (5, vI k), (0, vR (some b)), (1, vR (some g.x)), (2, vR (some g.m)), (3, vR (some o)), (4, vI (nI (5 * t)))], [vL (s11.2.2.1 o 0)], s11, cs + 2 + 0 + 0, sl + 12 + 0 + 0)
    rw [hJ9]
    show WG _ _ _ _ _ _ _ (410, [(6, vI v), (5, vI k), (0, vR (some b)), (1, vR (some g.x)), (2, vR (some g.m)), (3, vR (some o)), (4, vI (nI (5 * t)))], [vL (fZL v)], s11, cs + 2 + 0 + 0, sl + 12 + 0 + 0)
    refine w_run 1 (S' := (412, [(6, vI v), (5, vI k), (0, vR (some b)), (1, vR (some g.x)), (2, vR (some g.m)), (3, vR (some o)), (4, vI (nI (5 * t)))], [vI v, vL (fZL v)], s11, cs + 2 + 0 + 0, sl + 12 + 0 + 0)) rfl ?_
    refine w_if_eq rfl (fun c3 => ?_) (fun c3 => ?_)
    · refine w_run 2 (S' := (421, [(6, vI v), (5, vI k), (0, vR (some b)), (1, vR (some g.x)), (2, vR (some g.m)), (3, vR (some o)), (4, vI (nI (5 * t)))], [vI (lg_cmp (fZL v) 0)], s11, cs + 2 + 0 + 0, sl + 12 + 0 + 0)) rfl ?_
      refine w_if_eq rfl (fun c4 => ?_) (fun c4 => (absurd (lg_z c3) c4))
      refine w_run 1 (S' := (1388, [(6, vI v), (5, vI k), (0, vR (some b)), (1, vR (some g.x)), (2, vR (some g.m)), (3, vR (some o)), (4, vI (nI (5 * t)))], [], s11, cs + 2 + 0 + 0, sl + 12 + 0 + 0)) rfl ?_
      refine w_lsP [2, 3, 4, 5, 6] ?_
      show WG _ _ _ _ _ _ _ (1388, [(0, vR (some b)), (1, vR (some g.x)), (2, vR (some g.m)), (3, vR (some o)), (4, vI (nI (5 * t)))], [], s11, cs + 2 + 0 + 0, sl + 12 + 0 + 0)
      refine w_wid (S := (1388, [(0, vR (some b)), (1, vR (some g.x)), (2, vR (some g.m)), (3, vR (some o)), (4, vI (nI (5 * t)))], [], s11)) (cs + 58) (sl + 12696) (by omega) (by omega) ?_
      exact K s11 ⟨k, hPO⟩
    · refine w_run 3 (S' := (421, [(6, vI v), (5, vI k), (0, vR (some b)), (1, vR (some g.x)), (2, vR (some g.m)), (3, vR (some o)), (4, vI (nI (5 * t)))], [vI (lg_cmp (fZL v) 1)], s11, cs + 2 + 0 + 0, sl + 12 + 0 + 0)) rfl ?_
      refine w_if_eq rfl (fun c5 => ?_) (fun c5 => (absurd (lg_o c3) c5))
      refine w_run 1 (S' := (1388, [(6, vI v), (5, vI k), (0, vR (some b)), (1, vR (some g.x)), (2, vR (some g.m)), (3, vR (some o)), (4, vI (nI (5 * t)))], [], s11, cs + 2 + 0 + 0, sl + 12 + 0 + 0)) rfl ?_
      refine w_lsP [2, 3, 4, 5, 6] ?_
      show WG _ _ _ _ _ _ _ (1388, [(0, vR (some b)), (1, vR (some g.x)), (2, vR (some g.m)), (3, vR (some o)), (4, vI (nI (5 * t)))], [], s11, cs + 2 + 0 + 0, sl + 12 + 0 + 0)
      refine w_wid (S := (1388, [(0, vR (some b)), (1, vR (some g.x)), (2, vR (some g.m)), (3, vR (some o)), (4, vI (nI (5 * t)))], [], s11)) (cs + 58) (sl + 12696) (by omega) (by omega) ?_
      exact K s11 ⟨k, hPO⟩
set_option maxRecDepth 20000 in
set_option maxHeartbeats 4000000 in
theorem lc_draft (l : Launch) (E : FE) (g : Gh) (t : Nat) (σ : Sg) (o b L : Nat) (xs : Nat → Int32) {args : Array Value} {QF : State → List Frame → State → Prop} {cs sl : Nat} (R : RR E g t σ) (ht : t ≤ 511) (hl0 : l.stackTraces = false) (ho : σ.2.2.2 o = 90) (hL : L ≤ 2560) (h5 : 5 * t + 5 ≤ L) (hcs : cs + 58 ≤ 601024) (hsl : sl + 12696 ≤ 7293034) (K : ∀ σ', (∃ k, PO E g.x g.m o g.A (t + 1) k σ') → WG l E room_1 132 args (SCR E b L xs) QF (1388, [(0, vR (some b)), (1, vR (some g.x)), (2, vR (some g.m)), (3, vR (some o)), (4, vI (nI (5 * t)))], [], σ', cs + 58, sl + 12696)) : WG l E room_1 132 args (SCR E b L xs) QF (429, [(0, vR (some b)), (1, vR (some g.x)), (2, vR (some g.m)), (3, vR (some o)), (4, vI (nI (5 * t)))], [], σ, cs, sl) := by
  refine w_run 5 (S' := (435, [(0, vR (some b)), (1, vR (some g.x)), (2, vR (some g.m)), (3, vR (some o)), (4, vI (nI (5 * t)))], [vI ((nI (5 * t)) + 1), vR (some b), vR (some g.x)], σ, cs, sl)) rfl ?_
  rw [show ((nI (5 * t)) + 1 : Int32) = nI (5 * t + 1) from by simp only [nl0, nl1, nl2, nl3, nl4, nl5, nl6, nl8, nl9, nl10, nl12, nl15, nl16, nl20, nl24, nl32, nl40, nl64, nl65, nl384, pk_mul, nI_add]]
  show WG _ _ _ _ _ _ _ (435, [(0, vR (some b)), (1, vR (some g.x)), (2, vR (some g.m)), (3, vR (some o)), (4, vI (nI (5 * t)))], [vI (nI (5 * t + 1)), vR (some b), vR (some g.x)], σ, cs, sl)
  refine w_sld rfl (fun _ h => h) (vp_in_nI (n := 5 * t + 1) (by omega) (by omega)) ?_
  show WG _ _ _ _ _ _ _ (436, [(0, vR (some b)), (1, vR (some g.x)), (2, vR (some g.m)), (3, vR (some o)), (4, vI (nI (5 * t)))], [vI (xs (nI (5 * t + 1) : Int32).toNatClampNeg), vR (some g.x)], σ, cs, sl)
  rw [show (nI (5 * t + 1) : Int32).toNatClampNeg = 5 * t + 1 from nI_clamp (n := 5 * t + 1) (by omega)]
  show WG _ _ _ _ _ _ _ (436, [(0, vR (some b)), (1, vR (some g.x)), (2, vR (some g.m)), (3, vR (some o)), (4, vI (nI (5 * t)))], [vI (xs (5 * t + 1)), vR (some g.x)], σ, cs, sl)
  refine w_run 4 (S' := (441, [(0, vR (some b)), (1, vR (some g.x)), (2, vR (some g.m)), (3, vR (some o)), (4, vI (nI (5 * t)))], [vI ((nI (5 * t)) + 2), vR (some b), vI (xs (5 * t + 1)), vR (some g.x)], σ, cs, sl)) rfl ?_
  rw [show ((nI (5 * t)) + 2 : Int32) = nI (5 * t + 2) from by simp only [nl0, nl1, nl2, nl3, nl4, nl5, nl6, nl8, nl9, nl10, nl12, nl15, nl16, nl20, nl24, nl32, nl40, nl64, nl65, nl384, pk_mul, nI_add]]
  show WG _ _ _ _ _ _ _ (441, [(0, vR (some b)), (1, vR (some g.x)), (2, vR (some g.m)), (3, vR (some o)), (4, vI (nI (5 * t)))], [vI (nI (5 * t + 2)), vR (some b), vI (xs (5 * t + 1)), vR (some g.x)], σ, cs, sl)
  refine w_sld rfl (fun _ h => h) (vp_in_nI (n := 5 * t + 2) (by omega) (by omega)) ?_
  show WG _ _ _ _ _ _ _ (442, [(0, vR (some b)), (1, vR (some g.x)), (2, vR (some g.m)), (3, vR (some o)), (4, vI (nI (5 * t)))], [vI (xs (nI (5 * t + 2) : Int32).toNatClampNeg), vI (xs (5 * t + 1)), vR (some g.x)], σ, cs, sl)
  rw [show (nI (5 * t + 2) : Int32).toNatClampNeg = 5 * t + 2 from nI_clamp (n := 5 * t + 2) (by omega)]
  show WG _ _ _ _ _ _ _ (442, [(0, vR (some b)), (1, vR (some g.x)), (2, vR (some g.m)), (3, vR (some o)), (4, vI (nI (5 * t)))], [vI (xs (5 * t + 2)), vI (xs (5 * t + 1)), vR (some g.x)], σ, cs, sl)
  refine w_run 1 (S' := (443, [(0, vR (some b)), (1, vR (some g.x)), (2, vR (some g.m)), (3, vR (some o)), (4, vI (nI (5 * t)))], [vR (some o), vI (xs (5 * t + 2)), vI (xs (5 * t + 1)), vR (some g.x)], σ, cs, sl)) rfl ?_
  refine w_callW (st := []) (d := 12) [vR (some g.x), vI (xs (5 * t + 1)), vI (xs (5 * t + 2)), vR (some o)] rfl mlw_120 rfl (by decide) (by decide +kernel) rfl (show cs + 2 ≤ 601024 by omega) (show sl + 12 ≤ 7293034 by omega) (st_draft l E g t σ o R (by omega) hl0 ho (xs (5 * t + 1)) (xs (5 * t + 2))) (fun _ _ h => h.elim) ?_
  rintro r9 s9 ⟨k, rfl, hk9, hm⟩
  show WG _ _ _ _ _ _ _ (446, [(0, vR (some b)), (1, vR (some g.x)), (2, vR (some g.m)), (3, vR (some o)), (4, vI (nI (5 * t)))], [vI k], s9, cs + 2, sl + 12)
  refine w_run 6 (S' := (454, [(5, vI k), (0, vR (some b)), (1, vR (some g.x)), (2, vR (some g.m)), (3, vR (some o)), (4, vI (nI (5 * t)))], [vI ((nI (5 * t)) + 1), vR (some b), vR (some g.m)], s9, cs + 2, sl + 12)) rfl ?_
  rw [show ((nI (5 * t)) + 1 : Int32) = nI (5 * t + 1) from by simp only [nl0, nl1, nl2, nl3, nl4, nl5, nl6, nl8, nl9, nl10, nl12, nl15, nl16, nl20, nl24, nl32, nl40, nl64, nl65, nl384, pk_mul, nI_add]]
  show WG _ _ _ _ _ _ _ (454, [(5, vI k), (0, vR (some b)), (1, vR (some g.x)), (2, vR (some g.m)), (3, vR (some o)), (4, vI (nI (5 * t)))], [vI (nI (5 * t + 1)), vR (some b), vR (some g.m)], s9, cs + 2, sl + 12)
  refine w_sld rfl (fun _ h => h) (vp_in_nI (n := 5 * t + 1) (by omega) (by omega)) ?_
  show WG _ _ _ _ _ _ _ (455, [(5, vI k), (0, vR (some b)), (1, vR (some g.x)), (2, vR (some g.m)), (3, vR (some o)), (4, vI (nI (5 * t)))], [vI (xs (nI (5 * t + 1) : Int32).toNatClampNeg), vR (some g.m)], s9, cs + 2, sl + 12)
  rw [show (nI (5 * t + 1) : Int32).toNatClampNeg = 5 * t + 1 from nI_clamp (n := 5 * t + 1) (by omega)]
  show WG _ _ _ _ _ _ _ (455, [(5, vI k), (0, vR (some b)), (1, vR (some g.x)), (2, vR (some g.m)), (3, vR (some o)), (4, vI (nI (5 * t)))], [vI (xs (5 * t + 1)), vR (some g.m)], s9, cs + 2, sl + 12)
  refine w_run 4 (S' := (460, [(5, vI k), (0, vR (some b)), (1, vR (some g.x)), (2, vR (some g.m)), (3, vR (some o)), (4, vI (nI (5 * t)))], [vI ((nI (5 * t)) + 2), vR (some b), vI (xs (5 * t + 1)), vR (some g.m)], s9, cs + 2, sl + 12)) rfl ?_
  rw [show ((nI (5 * t)) + 2 : Int32) = nI (5 * t + 2) from by simp only [nl0, nl1, nl2, nl3, nl4, nl5, nl6, nl8, nl9, nl10, nl12, nl15, nl16, nl20, nl24, nl32, nl40, nl64, nl65, nl384, pk_mul, nI_add]]
  show WG _ _ _ _ _ _ _ (460, [(5, vI k), (0, vR (some b)), (1, vR (some g.x)), (2, vR (some g.m)), (3, vR (some o)), (4, vI (nI (5 * t)))], [vI (nI (5 * t + 2)), vR (some b), vI (xs (5 * t + 1)), vR (some g.m)], s9, cs + 2, sl + 12)
  refine w_sld rfl (fun _ h => h) (vp_in_nI (n := 5 * t + 2) (by omega) (by omega)) ?_
  show WG _ _ _ _ _ _ _ (461, [(5, vI k), (0, vR (some b)), (1, vR (some g.x)), (2, vR (some g.m)), (3, vR (some o)), (4, vI (nI (5 * t)))], [vI (xs (nI (5 * t + 2) : Int32).toNatClampNeg), vI (xs (5 * t + 1)), vR (some g.m)], s9, cs + 2, sl + 12)
  rw [show (nI (5 * t + 2) : Int32).toNatClampNeg = 5 * t + 2 from nI_clamp (n := 5 * t + 2) (by omega)]
  show WG _ _ _ _ _ _ _ (461, [(5, vI k), (0, vR (some b)), (1, vR (some g.x)), (2, vR (some g.m)), (3, vR (some o)), (4, vI (nI (5 * t)))], [vI (xs (5 * t + 2)), vI (xs (5 * t + 1)), vR (some g.m)], s9, cs + 2, sl + 12)
  refine w_callV (st := []) (d := 8) [vI (xs (5 * t + 1)), vI (xs (5 * t + 2))] rfl ml_11_105 rfl rfl hk9 rfl rfl rfl (by decide) (by decide +kernel) rfl (show cs + 2 + 0 ≤ 601024 by omega) (show sl + 12 + 0 ≤ 7293034 by omega) hm (fun _ _ h => h.elim) ?_
  rintro r9 s10 ⟨v, rfl, hPO, hJ⟩
  obtain ⟨g', R', e1, e2, e3, e4, e5⟩ := id hPO
  have hM10 : MO s10 g.m g.A := by have h1 := R'.s.mo; rw [e2, e3] at h1; exact h1
  show WG _ _ _ _ _ _ _ (464, [(5, vI k), (0, vR (some b)), (1, vR (some g.x)), (2, vR (some g.m)), (3, vR (some o)), (4, vI (nI (5 * t)))], [vI v], s10, cs + 2 + 0, sl + 12 + 0)
  refine w_run 2 (S' := (467, [(6, vI v), (5, vI k), (0, vR (some b)), (1, vR (some g.x)), (2, vR (some g.m)), (3, vR (some o)), (4, vI (nI (5 * t)))], [vR (some g.m)], s10, cs + 2 + 0, sl + 12 + 0)) rfl ?_
  refine w_callV (st := []) (d := 8) [] rfl ml_11_85 rfl rfl hM10.1 rfl rfl rfl (by decide) (by decide +kernel) rfl (show cs + 2 + 0 + 0 ≤ 601024 by omega) (show sl + 12 + 0 + 0 ≤ 7293034 by omega) (c_mo_thrown l E 8 s10 g.m g.A hM10) (fun _ _ h => h.elim) ?_
  rintro r9 s11 ⟨rfl, rfl⟩
  rw [e4]
  show WG _ _ _ _ _ _ _ (470, [(6, vI v), (5, vI k), (0, vR (some b)), (1, vR (some g.x)), (2, vR (some g.m)), (3, vR (some o)), (4, vI (nI (5 * t)))], [vI k], s11, cs + 2 + 0 + 0, sl + 12 + 0 + 0)
  refine w_run 1 (S' := (472, [(6, vI v), (5, vI k), (0, vR (some b)), (1, vR (some g.x)), (2, vR (some g.m)), (3, vR (some o)), (4, vI (nI (5 * t)))], [vI k, vI k], s11, cs + 2 + 0 + 0, sl + 12 + 0 + 0)) rfl ?_
  refine w_ic_eq rfl (fun c1 => ?_) (fun c1 => (absurd rfl c1))
  refine w_run 1 (S' := (479, [(6, vI v), (5, vI k), (0, vR (some b)), (1, vR (some g.x)), (2, vR (some g.m)), (3, vR (some o)), (4, vI (nI (5 * t)))], [vI k], s11, cs + 2 + 0 + 0, sl + 12 + 0 + 0)) rfl ?_
  refine w_if_ne rfl (fun c2 => ?_) (fun c2 => ?_)
  · refine w_run 1 (S' := (1388, [(6, vI v), (5, vI k), (0, vR (some b)), (1, vR (some g.x)), (2, vR (some g.m)), (3, vR (some o)), (4, vI (nI (5 * t)))], [], s11, cs + 2 + 0 + 0, sl + 12 + 0 + 0)) rfl ?_
    refine w_lsP [2, 3, 4, 5, 6] ?_
    show WG _ _ _ _ _ _ _ (1388, [(0, vR (some b)), (1, vR (some g.x)), (2, vR (some g.m)), (3, vR (some o)), (4, vI (nI (5 * t)))], [], s11, cs + 2 + 0 + 0, sl + 12 + 0 + 0)
    refine w_wid (S := (1388, [(0, vR (some b)), (1, vR (some g.x)), (2, vR (some g.m)), (3, vR (some o)), (4, vI (nI (5 * t)))], [], s11)) (cs + 58) (sl + 12696) (by omega) (by omega) ?_
    exact K s11 ⟨k, hPO⟩
  · have hJ9 := hJ c2
    refine w_run 2 (S' := (484, [(6, vI v), (5, vI k), (0, vR (some b)), (1, vR (some g.x)), (2, vR (some g.m)), (3, vR (some o)), (4, vI (nI (5 * t)))], [vI 0, vR (some o)], s11, cs + 2 + 0 + 0, sl + 12 + 0 + 0)) rfl ?_
    refine w_lald rfl rfl e5 (vp_in_nI (n := 0) (by decide) (by decide)) ?_
    show WG _ _ _ _ _ _ _ (485, [(6, vI v), (5, vI k), (0, vR (some b)), (1, vR (some g.x)), (2, vR (some g.m)), (3, vR (some o)), (4, vI (nI (5 * t)))], [vL (s11.2.2.1 o 0)], s11, cs + 2 + 0 + 0, sl + 12 + 0 + 0)
    rw [hJ9]
    show WG _ _ _ _ _ _ _ (485, [(6, vI v), (5, vI k), (0, vR (some b)), (1, vR (some g.x)), (2, vR (some g.m)), (3, vR (some o)), (4, vI (nI (5 * t)))], [vL (fZL v)], s11, cs + 2 + 0 + 0, sl + 12 + 0 + 0)
    refine w_run 1 (S' := (487, [(6, vI v), (5, vI k), (0, vR (some b)), (1, vR (some g.x)), (2, vR (some g.m)), (3, vR (some o)), (4, vI (nI (5 * t)))], [vI v, vL (fZL v)], s11, cs + 2 + 0 + 0, sl + 12 + 0 + 0)) rfl ?_
    refine w_if_eq rfl (fun c3 => ?_) (fun c3 => ?_)
    · refine w_run 2 (S' := (496, [(6, vI v), (5, vI k), (0, vR (some b)), (1, vR (some g.x)), (2, vR (some g.m)), (3, vR (some o)), (4, vI (nI (5 * t)))], [vI (lg_cmp (fZL v) 0)], s11, cs + 2 + 0 + 0, sl + 12 + 0 + 0)) rfl ?_
      refine w_if_eq rfl (fun c4 => ?_) (fun c4 => (absurd (lg_z c3) c4))
      refine w_run 1 (S' := (1388, [(6, vI v), (5, vI k), (0, vR (some b)), (1, vR (some g.x)), (2, vR (some g.m)), (3, vR (some o)), (4, vI (nI (5 * t)))], [], s11, cs + 2 + 0 + 0, sl + 12 + 0 + 0)) rfl ?_
      refine w_lsP [2, 3, 4, 5, 6] ?_
      show WG _ _ _ _ _ _ _ (1388, [(0, vR (some b)), (1, vR (some g.x)), (2, vR (some g.m)), (3, vR (some o)), (4, vI (nI (5 * t)))], [], s11, cs + 2 + 0 + 0, sl + 12 + 0 + 0)
      refine w_wid (S := (1388, [(0, vR (some b)), (1, vR (some g.x)), (2, vR (some g.m)), (3, vR (some o)), (4, vI (nI (5 * t)))], [], s11)) (cs + 58) (sl + 12696) (by omega) (by omega) ?_
      exact K s11 ⟨k, hPO⟩
    · refine w_run 3 (S' := (496, [(6, vI v), (5, vI k), (0, vR (some b)), (1, vR (some g.x)), (2, vR (some g.m)), (3, vR (some o)), (4, vI (nI (5 * t)))], [vI (lg_cmp (fZL v) 1)], s11, cs + 2 + 0 + 0, sl + 12 + 0 + 0)) rfl ?_
      refine w_if_eq rfl (fun c5 => ?_) (fun c5 => (absurd (lg_o c3) c5))
      refine w_run 1 (S' := (1388, [(6, vI v), (5, vI k), (0, vR (some b)), (1, vR (some g.x)), (2, vR (some g.m)), (3, vR (some o)), (4, vI (nI (5 * t)))], [], s11, cs + 2 + 0 + 0, sl + 12 + 0 + 0)) rfl ?_
      refine w_lsP [2, 3, 4, 5, 6] ?_
      show WG _ _ _ _ _ _ _ (1388, [(0, vR (some b)), (1, vR (some g.x)), (2, vR (some g.m)), (3, vR (some o)), (4, vI (nI (5 * t)))], [], s11, cs + 2 + 0 + 0, sl + 12 + 0 + 0)
      refine w_wid (S := (1388, [(0, vR (some b)), (1, vR (some g.x)), (2, vR (some g.m)), (3, vR (some o)), (4, vI (nI (5 * t)))], [], s11)) (cs + 58) (sl + 12696) (by omega) (by omega) ?_
      exact K s11 ⟨k, hPO⟩
