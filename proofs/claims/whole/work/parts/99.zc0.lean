/-! the law, case by case: 0 -/
theorem lg_self (x : Int64) : lg_cmp x x = 0 := by
  unfold lg_cmp
  rw [if_neg (show ¬ x > x from fun h => absurd h (Int64.lt_irrefl)), if_pos rfl]
theorem lg_z {v : Int32} (h : v = 0) : lg_cmp (fZL v) 0 = 0 := by
  unfold fZL; rw [if_pos h]; exact lg_self 0
theorem lg_o {v : Int32} (h : ¬ v = 0) : lg_cmp (fZL v) 1 = 0 := by
  unfold fZL; rw [if_neg h]; exact lg_self 1
set_option maxRecDepth 20000 in
set_option maxHeartbeats 4000000 in
theorem lc_born (l : Launch) (E : FE) (g : Gh) (t : Nat) (σ : Sg) (o b L : Nat) (xs : Nat → Int32) {args : Array Value} {QF : State → List Frame → State → Prop} {cs sl : Nat} (R : RR E g t σ) (ht : t ≤ 511) (hl0 : l.stackTraces = false) (ho : σ.2.2.2 o = 90) (hL : L ≤ 2560) (h5 : 5 * t + 5 ≤ L) (hcs : cs + 58 ≤ 601024) (hsl : sl + 12696 ≤ 7293034) (K : ∀ σ', (∃ k, PO E g.x g.m o g.A (t + 1) k σ') → WG l E room_1 132 args (SCR E b L xs) QF (1388, [(0, vR (some b)), (1, vR (some g.x)), (2, vR (some g.m)), (3, vR (some o)), (4, vI (nI (5 * t)))], [], σ', cs + 58, sl + 12696)) : WG l E room_1 132 args (SCR E b L xs) QF (120, [(0, vR (some b)), (1, vR (some g.x)), (2, vR (some g.m)), (3, vR (some o)), (4, vI (nI (5 * t)))], [], σ, cs, sl) := by
  refine w_run 5 (S' := (126, [(0, vR (some b)), (1, vR (some g.x)), (2, vR (some g.m)), (3, vR (some o)), (4, vI (nI (5 * t)))], [vI ((nI (5 * t)) + 1), vR (some b), vR (some g.x)], σ, cs, sl)) rfl ?_
  rw [show ((nI (5 * t)) + 1 : Int32) = nI (5 * t + 1) from by simp only [nl0, nl1, nl2, nl3, nl4, nl5, nl6, nl8, nl9, nl10, nl12, nl15, nl16, nl20, nl24, nl32, nl40, nl64, nl65, nl384, pk_mul, nI_add]]
  show WG _ _ _ _ _ _ _ (126, [(0, vR (some b)), (1, vR (some g.x)), (2, vR (some g.m)), (3, vR (some o)), (4, vI (nI (5 * t)))], [vI (nI (5 * t + 1)), vR (some b), vR (some g.x)], σ, cs, sl)
  refine w_sld rfl (fun _ h => h) (vp_in_nI (n := 5 * t + 1) (by omega) (by omega)) ?_
  show WG _ _ _ _ _ _ _ (127, [(0, vR (some b)), (1, vR (some g.x)), (2, vR (some g.m)), (3, vR (some o)), (4, vI (nI (5 * t)))], [vI (xs (nI (5 * t + 1) : Int32).toNatClampNeg), vR (some g.x)], σ, cs, sl)
  rw [show (nI (5 * t + 1) : Int32).toNatClampNeg = 5 * t + 1 from nI_clamp (n := 5 * t + 1) (by omega)]
  show WG _ _ _ _ _ _ _ (127, [(0, vR (some b)), (1, vR (some g.x)), (2, vR (some g.m)), (3, vR (some o)), (4, vI (nI (5 * t)))], [vI (xs (5 * t + 1)), vR (some g.x)], σ, cs, sl)
  refine w_callW (st := []) (d := 12) [vR (some g.x), vI (xs (5 * t + 1))] rfl mlw_115 rfl (by decide) (by decide +kernel) rfl (show cs + 2 ≤ 601024 by omega) (show sl + 12 ≤ 7293034 by omega) (st_born l E g t σ o R (by omega) hl0 ho (xs (5 * t + 1))) (fun _ _ h => h.elim) ?_
  rintro r9 s9 ⟨k, rfl, hk9, hm⟩
  show WG _ _ _ _ _ _ _ (130, [(0, vR (some b)), (1, vR (some g.x)), (2, vR (some g.m)), (3, vR (some o)), (4, vI (nI (5 * t)))], [vI k], s9, cs + 2, sl + 12)
  refine w_run 6 (S' := (138, [(5, vI k), (0, vR (some b)), (1, vR (some g.x)), (2, vR (some g.m)), (3, vR (some o)), (4, vI (nI (5 * t)))], [vI ((nI (5 * t)) + 1), vR (some b), vR (some g.m)], s9, cs + 2, sl + 12)) rfl ?_
  rw [show ((nI (5 * t)) + 1 : Int32) = nI (5 * t + 1) from by simp only [nl0, nl1, nl2, nl3, nl4, nl5, nl6, nl8, nl9, nl10, nl12, nl15, nl16, nl20, nl24, nl32, nl40, nl64, nl65, nl384, pk_mul, nI_add]]
  show WG _ _ _ _ _ _ _ (138, [(5, vI k), (0, vR (some b)), (1, vR (some g.x)), (2, vR (some g.m)), (3, vR (some o)), (4, vI (nI (5 * t)))], [vI (nI (5 * t + 1)), vR (some b), vR (some g.m)], s9, cs + 2, sl + 12)
  refine w_sld rfl (fun _ h => h) (vp_in_nI (n := 5 * t + 1) (by omega) (by omega)) ?_
  show WG _ _ _ _ _ _ _ (139, [(5, vI k), (0, vR (some b)), (1, vR (some g.x)), (2, vR (some g.m)), (3, vR (some o)), (4, vI (nI (5 * t)))], [vI (xs (nI (5 * t + 1) : Int32).toNatClampNeg), vR (some g.m)], s9, cs + 2, sl + 12)
  rw [show (nI (5 * t + 1) : Int32).toNatClampNeg = 5 * t + 1 from nI_clamp (n := 5 * t + 1) (by omega)]
  show WG _ _ _ _ _ _ _ (139, [(5, vI k), (0, vR (some b)), (1, vR (some g.x)), (2, vR (some g.m)), (3, vR (some o)), (4, vI (nI (5 * t)))], [vI (xs (5 * t + 1)), vR (some g.m)], s9, cs + 2, sl + 12)
  refine w_callV (st := []) (d := 8) [vI (xs (5 * t + 1))] rfl ml_11_84 rfl rfl hk9 rfl rfl rfl (by decide) (by decide +kernel) rfl (show cs + 2 + 0 ≤ 601024 by omega) (show sl + 12 + 0 ≤ 7293034 by omega) hm (fun _ _ h => h.elim) ?_
  rintro r9 s10 ⟨rfl, hPO⟩
  obtain ⟨g', R', e1, e2, e3, e4, e5⟩ := id hPO
  have hM10 : MO s10 g.m g.A := by have h1 := R'.s.mo; rw [e2, e3] at h1; exact h1
  show WG _ _ _ _ _ _ _ (142, [(5, vI k), (0, vR (some b)), (1, vR (some g.x)), (2, vR (some g.m)), (3, vR (some o)), (4, vI (nI (5 * t)))], [], s10, cs + 2 + 0, sl + 12 + 0)
  refine w_run 1 (S' := (143, [(5, vI k), (0, vR (some b)), (1, vR (some g.x)), (2, vR (some g.m)), (3, vR (some o)), (4, vI (nI (5 * t)))], [vR (some g.m)], s10, cs + 2 + 0, sl + 12 + 0)) rfl ?_
  refine w_callV (st := []) (d := 8) [] rfl ml_11_85 rfl rfl hM10.1 rfl rfl rfl (by decide) (by decide +kernel) rfl (show cs + 2 + 0 + 0 ≤ 601024 by omega) (show sl + 12 + 0 + 0 ≤ 7293034 by omega) (c_mo_thrown l E 8 s10 g.m g.A hM10) (fun _ _ h => h.elim) ?_
  rintro r9 s11 ⟨rfl, rfl⟩
  rw [e4]
  show WG _ _ _ _ _ _ _ (146, [(5, vI k), (0, vR (some b)), (1, vR (some g.x)), (2, vR (some g.m)), (3, vR (some o)), (4, vI (nI (5 * t)))], [vI k], s11, cs + 2 + 0 + 0, sl + 12 + 0 + 0)
  refine w_run 1 (S' := (148, [(5, vI k), (0, vR (some b)), (1, vR (some g.x)), (2, vR (some g.m)), (3, vR (some o)), (4, vI (nI (5 * t)))], [vI k, vI k], s11, cs + 2 + 0 + 0, sl + 12 + 0 + 0)) rfl ?_
  refine w_ic_eq rfl (fun c1 => ?_) (fun c1 => (absurd rfl c1))
  refine w_run 1 (S' := (1388, [(5, vI k), (0, vR (some b)), (1, vR (some g.x)), (2, vR (some g.m)), (3, vR (some o)), (4, vI (nI (5 * t)))], [], s11, cs + 2 + 0 + 0, sl + 12 + 0 + 0)) rfl ?_
  refine w_lsP [1, 2, 3, 4, 5] ?_
  show WG _ _ _ _ _ _ _ (1388, [(0, vR (some b)), (1, vR (some g.x)), (2, vR (some g.m)), (3, vR (some o)), (4, vI (nI (5 * t)))], [], s11, cs + 2 + 0 + 0, sl + 12 + 0 + 0)
  refine w_wid (S := (1388, [(0, vR (some b)), (1, vR (some g.x)), (2, vR (some g.m)), (3, vR (some o)), (4, vI (nI (5 * t)))], [], s11)) (cs + 58) (sl + 12696) (by omega) (by omega) ?_
  exact K s11 ⟨k, hPO⟩
set_option maxRecDepth 20000 in
set_option maxHeartbeats 4000000 in
theorem lc_die (l : Launch) (E : FE) (g : Gh) (t : Nat) (σ : Sg) (o b L : Nat) (xs : Nat → Int32) {args : Array Value} {QF : State → List Frame → State → Prop} {cs sl : Nat} (R : RR E g t σ) (ht : t ≤ 511) (hl0 : l.stackTraces = false) (ho : σ.2.2.2 o = 90) (hL : L ≤ 2560) (h5 : 5 * t + 5 ≤ L) (hcs : cs + 58 ≤ 601024) (hsl : sl + 12696 ≤ 7293034) (K : ∀ σ', (∃ k, PO E g.x g.m o g.A (t + 1) k σ') → WG l E room_1 132 args (SCR E b L xs) QF (1388, [(0, vR (some b)), (1, vR (some g.x)), (2, vR (some g.m)), (3, vR (some o)), (4, vI (nI (5 * t)))], [], σ', cs + 58, sl + 12696)) : WG l E room_1 132 args (SCR E b L xs) QF (156, [(0, vR (some b)), (1, vR (some g.x)), (2, vR (some g.m)), (3, vR (some o)), (4, vI (nI (5 * t)))], [], σ, cs, sl) := by
  refine w_run 5 (S' := (162, [(0, vR (some b)), (1, vR (some g.x)), (2, vR (some g.m)), (3, vR (some o)), (4, vI (nI (5 * t)))], [vI ((nI (5 * t)) + 1), vR (some b), vR (some g.x)], σ, cs, sl)) rfl ?_
  rw [show ((nI (5 * t)) + 1 : Int32) = nI (5 * t + 1) from by simp only [nl0, nl1, nl2, nl3, nl4, nl5, nl6, nl8, nl9, nl10, nl12, nl15, nl16, nl20, nl24, nl32, nl40, nl64, nl65, nl384, pk_mul, nI_add]]
  show WG _ _ _ _ _ _ _ (162, [(0, vR (some b)), (1, vR (some g.x)), (2, vR (some g.m)), (3, vR (some o)), (4, vI (nI (5 * t)))], [vI (nI (5 * t + 1)), vR (some b), vR (some g.x)], σ, cs, sl)
  refine w_sld rfl (fun _ h => h) (vp_in_nI (n := 5 * t + 1) (by omega) (by omega)) ?_
  show WG _ _ _ _ _ _ _ (163, [(0, vR (some b)), (1, vR (some g.x)), (2, vR (some g.m)), (3, vR (some o)), (4, vI (nI (5 * t)))], [vI (xs (nI (5 * t + 1) : Int32).toNatClampNeg), vR (some g.x)], σ, cs, sl)
  rw [show (nI (5 * t + 1) : Int32).toNatClampNeg = 5 * t + 1 from nI_clamp (n := 5 * t + 1) (by omega)]
  show WG _ _ _ _ _ _ _ (163, [(0, vR (some b)), (1, vR (some g.x)), (2, vR (some g.m)), (3, vR (some o)), (4, vI (nI (5 * t)))], [vI (xs (5 * t + 1)), vR (some g.x)], σ, cs, sl)
  refine w_callW (st := []) (d := 12) [vR (some g.x), vI (xs (5 * t + 1))] rfl mlw_116 rfl (by decide) (by decide +kernel) rfl (show cs + 58 ≤ 601024 by omega) (show sl + 12696 ≤ 7293034 by omega) (st_die l E g t σ o R (by omega) hl0 ho (xs (5 * t + 1))) (fun _ _ h => h.elim) ?_
  rintro r9 s9 ⟨k, rfl, hk9, hm⟩
  show WG _ _ _ _ _ _ _ (166, [(0, vR (some b)), (1, vR (some g.x)), (2, vR (some g.m)), (3, vR (some o)), (4, vI (nI (5 * t)))], [vI k], s9, cs + 58, sl + 12696)
  refine w_run 6 (S' := (174, [(5, vI k), (0, vR (some b)), (1, vR (some g.x)), (2, vR (some g.m)), (3, vR (some o)), (4, vI (nI (5 * t)))], [vI ((nI (5 * t)) + 1), vR (some b), vR (some g.m)], s9, cs + 58, sl + 12696)) rfl ?_
  rw [show ((nI (5 * t)) + 1 : Int32) = nI (5 * t + 1) from by simp only [nl0, nl1, nl2, nl3, nl4, nl5, nl6, nl8, nl9, nl10, nl12, nl15, nl16, nl20, nl24, nl32, nl40, nl64, nl65, nl384, pk_mul, nI_add]]
  show WG _ _ _ _ _ _ _ (174, [(5, vI k), (0, vR (some b)), (1, vR (some g.x)), (2, vR (some g.m)), (3, vR (some o)), (4, vI (nI (5 * t)))], [vI (nI (5 * t + 1)), vR (some b), vR (some g.m)], s9, cs + 58, sl + 12696)
  refine w_sld rfl (fun _ h => h) (vp_in_nI (n := 5 * t + 1) (by omega) (by omega)) ?_
  show WG _ _ _ _ _ _ _ (175, [(5, vI k), (0, vR (some b)), (1, vR (some g.x)), (2, vR (some g.m)), (3, vR (some o)), (4, vI (nI (5 * t)))], [vI (xs (nI (5 * t + 1) : Int32).toNatClampNeg), vR (some g.m)], s9, cs + 58, sl + 12696)
  rw [show (nI (5 * t + 1) : Int32).toNatClampNeg = 5 * t + 1 from nI_clamp (n := 5 * t + 1) (by omega)]
  show WG _ _ _ _ _ _ _ (175, [(5, vI k), (0, vR (some b)), (1, vR (some g.x)), (2, vR (some g.m)), (3, vR (some o)), (4, vI (nI (5 * t)))], [vI (xs (5 * t + 1)), vR (some g.m)], s9, cs + 58, sl + 12696)
  refine w_callV (st := []) (d := 8) [vI (xs (5 * t + 1))] rfl ml_11_91 rfl rfl hk9 rfl rfl rfl (by decide) (by decide +kernel) rfl (show cs + 58 + 0 ≤ 601024 by omega) (show sl + 12696 + 0 ≤ 7293034 by omega) hm (fun _ _ h => h.elim) ?_
  rintro r9 s10 ⟨rfl, hPO⟩
  obtain ⟨g', R', e1, e2, e3, e4, e5⟩ := id hPO
  have hM10 : MO s10 g.m g.A := by have h1 := R'.s.mo; rw [e2, e3] at h1; exact h1
  show WG _ _ _ _ _ _ _ (178, [(5, vI k), (0, vR (some b)), (1, vR (some g.x)), (2, vR (some g.m)), (3, vR (some o)), (4, vI (nI (5 * t)))], [], s10, cs + 58 + 0, sl + 12696 + 0)
  refine w_run 1 (S' := (179, [(5, vI k), (0, vR (some b)), (1, vR (some g.x)), (2, vR (some g.m)), (3, vR (some o)), (4, vI (nI (5 * t)))], [vR (some g.m)], s10, cs + 58 + 0, sl + 12696 + 0)) rfl ?_
  refine w_callV (st := []) (d := 8) [] rfl ml_11_85 rfl rfl hM10.1 rfl rfl rfl (by decide) (by decide +kernel) rfl (show cs + 58 + 0 + 0 ≤ 601024 by omega) (show sl + 12696 + 0 + 0 ≤ 7293034 by omega) (c_mo_thrown l E 8 s10 g.m g.A hM10) (fun _ _ h => h.elim) ?_
  rintro r9 s11 ⟨rfl, rfl⟩
  rw [e4]
  show WG _ _ _ _ _ _ _ (182, [(5, vI k), (0, vR (some b)), (1, vR (some g.x)), (2, vR (some g.m)), (3, vR (some o)), (4, vI (nI (5 * t)))], [vI k], s11, cs + 58 + 0 + 0, sl + 12696 + 0 + 0)
  refine w_run 1 (S' := (184, [(5, vI k), (0, vR (some b)), (1, vR (some g.x)), (2, vR (some g.m)), (3, vR (some o)), (4, vI (nI (5 * t)))], [vI k, vI k], s11, cs + 58 + 0 + 0, sl + 12696 + 0 + 0)) rfl ?_
  refine w_ic_eq rfl (fun c1 => ?_) (fun c1 => (absurd rfl c1))
  refine w_run 1 (S' := (1388, [(5, vI k), (0, vR (some b)), (1, vR (some g.x)), (2, vR (some g.m)), (3, vR (some o)), (4, vI (nI (5 * t)))], [], s11, cs + 58 + 0 + 0, sl + 12696 + 0 + 0)) rfl ?_
  refine w_lsP [1, 2, 3, 4, 5] ?_
  show WG _ _ _ _ _ _ _ (1388, [(0, vR (some b)), (1, vR (some g.x)), (2, vR (some g.m)), (3, vR (some o)), (4, vI (nI (5 * t)))], [], s11, cs + 58 + 0 + 0, sl + 12696 + 0 + 0)
  refine w_wid (S := (1388, [(0, vR (some b)), (1, vR (some g.x)), (2, vR (some g.m)), (3, vR (some o)), (4, vI (nI (5 * t)))], [], s11)) (cs + 58) (sl + 12696) (by omega) (by omega) ?_
  exact K s11 ⟨k, hPO⟩
set_option maxRecDepth 20000 in
set_option maxHeartbeats 4000000 in
theorem lc_serve (l : Launch) (E : FE) (g : Gh) (t : Nat) (σ : Sg) (o b L : Nat) (xs : Nat → Int32) {args : Array Value} {QF : State → List Frame → State → Prop} {cs sl : Nat} (R : RR E g t σ) (ht : t ≤ 511) (hl0 : l.stackTraces = false) (ho : σ.2.2.2 o = 90) (hL : L ≤ 2560) (h5 : 5 * t + 5 ≤ L) (hcs : cs + 58 ≤ 601024) (hsl : sl + 12696 ≤ 7293034) (K : ∀ σ', (∃ k, PO E g.x g.m o g.A (t + 1) k σ') → WG l E room_1 132 args (SCR E b L xs) QF (1388, [(0, vR (some b)), (1, vR (some g.x)), (2, vR (some g.m)), (3, vR (some o)), (4, vI (nI (5 * t)))], [], σ', cs + 58, sl + 12696)) : WG l E room_1 132 args (SCR E b L xs) QF (192, [(0, vR (some b)), (1, vR (some g.x)), (2, vR (some g.m)), (3, vR (some o)), (4, vI (nI (5 * t)))], [], σ, cs, sl) := by
  refine w_run 5 (S' := (198, [(0, vR (some b)), (1, vR (some g.x)), (2, vR (some g.m)), (3, vR (some o)), (4, vI (nI (5 * t)))], [vI ((nI (5 * t)) + 1), vR (some b), vR (some g.x)], σ, cs, sl)) rfl ?_
  rw [show ((nI (5 * t)) + 1 : Int32) = nI (5 * t + 1) from by simp only [nl0, nl1, nl2, nl3, nl4, nl5, nl6, nl8, nl9, nl10, nl12, nl15, nl16, nl20, nl24, nl32, nl40, nl64, nl65, nl384, pk_mul, nI_add]]
  show WG _ _ _ _ _ _ _ (198, [(0, vR (some b)), (1, vR (some g.x)), (2, vR (some g.m)), (3, vR (some o)), (4, vI (nI (5 * t)))], [vI (nI (5 * t + 1)), vR (some b), vR (some g.x)], σ, cs, sl)
  refine w_sld rfl (fun _ h => h) (vp_in_nI (n := 5 * t + 1) (by omega) (by omega)) ?_
  show WG _ _ _ _ _ _ _ (199, [(0, vR (some b)), (1, vR (some g.x)), (2, vR (some g.m)), (3, vR (some o)), (4, vI (nI (5 * t)))], [vI (xs (nI (5 * t + 1) : Int32).toNatClampNeg), vR (some g.x)], σ, cs, sl)
  rw [show (nI (5 * t + 1) : Int32).toNatClampNeg = 5 * t + 1 from nI_clamp (n := 5 * t + 1) (by omega)]
  show WG _ _ _ _ _ _ _ (199, [(0, vR (some b)), (1, vR (some g.x)), (2, vR (some g.m)), (3, vR (some o)), (4, vI (nI (5 * t)))], [vI (xs (5 * t + 1)), vR (some g.x)], σ, cs, sl)
  refine w_run 4 (S' := (204, [(0, vR (some b)), (1, vR (some g.x)), (2, vR (some g.m)), (3, vR (some o)), (4, vI (nI (5 * t)))], [vI ((nI (5 * t)) + 2), vR (some b), vI (xs (5 * t + 1)), vR (some g.x)], σ, cs, sl)) rfl ?_
  rw [show ((nI (5 * t)) + 2 : Int32) = nI (5 * t + 2) from by simp only [nl0, nl1, nl2, nl3, nl4, nl5, nl6, nl8, nl9, nl10, nl12, nl15, nl16, nl20, nl24, nl32, nl40, nl64, nl65, nl384, pk_mul, nI_add]]
  show WG _ _ _ _ _ _ _ (204, [(0, vR (some b)), (1, vR (some g.x)), (2, vR (some g.m)), (3, vR (some o)), (4, vI (nI (5 * t)))], [vI (nI (5 * t + 2)), vR (some b), vI (xs (5 * t + 1)), vR (some g.x)], σ, cs, sl)
  refine w_sld rfl (fun _ h => h) (vp_in_nI (n := 5 * t + 2) (by omega) (by omega)) ?_
  show WG _ _ _ _ _ _ _ (205, [(0, vR (some b)), (1, vR (some g.x)), (2, vR (some g.m)), (3, vR (some o)), (4, vI (nI (5 * t)))], [vI (xs (nI (5 * t + 2) : Int32).toNatClampNeg), vI (xs (5 * t + 1)), vR (some g.x)], σ, cs, sl)
  rw [show (nI (5 * t + 2) : Int32).toNatClampNeg = 5 * t + 2 from nI_clamp (n := 5 * t + 2) (by omega)]
  show WG _ _ _ _ _ _ _ (205, [(0, vR (some b)), (1, vR (some g.x)), (2, vR (some g.m)), (3, vR (some o)), (4, vI (nI (5 * t)))], [vI (xs (5 * t + 2)), vI (xs (5 * t + 1)), vR (some g.x)], σ, cs, sl)
  refine w_run 1 (S' := (206, [(0, vR (some b)), (1, vR (some g.x)), (2, vR (some g.m)), (3, vR (some o)), (4, vI (nI (5 * t)))], [vR (some o), vI (xs (5 * t + 2)), vI (xs (5 * t + 1)), vR (some g.x)], σ, cs, sl)) rfl ?_
  refine w_callW (st := []) (d := 12) [vR (some g.x), vI (xs (5 * t + 1)), vI (xs (5 * t + 2)), vR (some o)] rfl mlw_117 rfl (by decide) (by decide +kernel) rfl (show cs + 3 ≤ 601024 by omega) (show sl + 18 ≤ 7293034 by omega) (st_serve l E g t σ o R (by omega) hl0 ho (xs (5 * t + 1)) (xs (5 * t + 2))) (fun _ _ h => h.elim) ?_
  rintro r9 s9 ⟨k, rfl, hk9, hm⟩
  show WG _ _ _ _ _ _ _ (209, [(0, vR (some b)), (1, vR (some g.x)), (2, vR (some g.m)), (3, vR (some o)), (4, vI (nI (5 * t)))], [vI k], s9, cs + 3, sl + 18)
  refine w_run 6 (S' := (217, [(5, vI k), (0, vR (some b)), (1, vR (some g.x)), (2, vR (some g.m)), (3, vR (some o)), (4, vI (nI (5 * t)))], [vI ((nI (5 * t)) + 1), vR (some b), vR (some g.m)], s9, cs + 3, sl + 18)) rfl ?_
  rw [show ((nI (5 * t)) + 1 : Int32) = nI (5 * t + 1) from by simp only [nl0, nl1, nl2, nl3, nl4, nl5, nl6, nl8, nl9, nl10, nl12, nl15, nl16, nl20, nl24, nl32, nl40, nl64, nl65, nl384, pk_mul, nI_add]]
  show WG _ _ _ _ _ _ _ (217, [(5, vI k), (0, vR (some b)), (1, vR (some g.x)), (2, vR (some g.m)), (3, vR (some o)), (4, vI (nI (5 * t)))], [vI (nI (5 * t + 1)), vR (some b), vR (some g.m)], s9, cs + 3, sl + 18)
  refine w_sld rfl (fun _ h => h) (vp_in_nI (n := 5 * t + 1) (by omega) (by omega)) ?_
  show WG _ _ _ _ _ _ _ (218, [(5, vI k), (0, vR (some b)), (1, vR (some g.x)), (2, vR (some g.m)), (3, vR (some o)), (4, vI (nI (5 * t)))], [vI (xs (nI (5 * t + 1) : Int32).toNatClampNeg), vR (some g.m)], s9, cs + 3, sl + 18)
  rw [show (nI (5 * t + 1) : Int32).toNatClampNeg = 5 * t + 1 from nI_clamp (n := 5 * t + 1) (by omega)]
  show WG _ _ _ _ _ _ _ (218, [(5, vI k), (0, vR (some b)), (1, vR (some g.x)), (2, vR (some g.m)), (3, vR (some o)), (4, vI (nI (5 * t)))], [vI (xs (5 * t + 1)), vR (some g.m)], s9, cs + 3, sl + 18)
  refine w_run 4 (S' := (223, [(5, vI k), (0, vR (some b)), (1, vR (some g.x)), (2, vR (some g.m)), (3, vR (some o)), (4, vI (nI (5 * t)))], [vI ((nI (5 * t)) + 2), vR (some b), vI (xs (5 * t + 1)), vR (some g.m)], s9, cs + 3, sl + 18)) rfl ?_
  rw [show ((nI (5 * t)) + 2 : Int32) = nI (5 * t + 2) from by simp only [nl0, nl1, nl2, nl3, nl4, nl5, nl6, nl8, nl9, nl10, nl12, nl15, nl16, nl20, nl24, nl32, nl40, nl64, nl65, nl384, pk_mul, nI_add]]
  show WG _ _ _ _ _ _ _ (223, [(5, vI k), (0, vR (some b)), (1, vR (some g.x)), (2, vR (some g.m)), (3, vR (some o)), (4, vI (nI (5 * t)))], [vI (nI (5 * t + 2)), vR (some b), vI (xs (5 * t + 1)), vR (some g.m)], s9, cs + 3, sl + 18)
  refine w_sld rfl (fun _ h => h) (vp_in_nI (n := 5 * t + 2) (by omega) (by omega)) ?_
  show WG _ _ _ _ _ _ _ (224, [(5, vI k), (0, vR (some b)), (1, vR (some g.x)), (2, vR (some g.m)), (3, vR (some o)), (4, vI (nI (5 * t)))], [vI (xs (nI (5 * t + 2) : Int32).toNatClampNeg), vI (xs (5 * t + 1)), vR (some g.m)], s9, cs + 3, sl + 18)
  rw [show (nI (5 * t + 2) : Int32).toNatClampNeg = 5 * t + 2 from nI_clamp (n := 5 * t + 2) (by omega)]
  show WG _ _ _ _ _ _ _ (224, [(5, vI k), (0, vR (some b)), (1, vR (some g.x)), (2, vR (some g.m)), (3, vR (some o)), (4, vI (nI (5 * t)))], [vI (xs (5 * t + 2)), vI (xs (5 * t + 1)), vR (some g.m)], s9, cs + 3, sl + 18)
  refine w_callV (st := []) (d := 8) [vI (xs (5 * t + 1)), vI (xs (5 * t + 2))] rfl ml_11_95 rfl rfl hk9 rfl rfl rfl (by decide) (by decide +kernel) rfl (show cs + 3 + 0 ≤ 601024 by omega) (show sl + 18 + 0 ≤ 7293034 by omega) hm (fun _ _ h => h.elim) ?_
  rintro r9 s10 ⟨v, rfl, hPO, hJ⟩
  obtain ⟨g', R', e1, e2, e3, e4, e5⟩ := id hPO
  have hM10 : MO s10 g.m g.A := by have h1 := R'.s.mo; rw [e2, e3] at h1; exact h1
  show WG _ _ _ _ _ _ _ (227, [(5, vI k), (0, vR (some b)), (1, vR (some g.x)), (2, vR (some g.m)), (3, vR (some o)), (4, vI (nI (5 * t)))], [vI v], s10, cs + 3 + 0, sl + 18 + 0)
  refine w_run 2 (S' := (230, [(6, vI v), (5, vI k), (0, vR (some b)), (1, vR (some g.x)), (2, vR (some g.m)), (3, vR (some o)), (4, vI (nI (5 * t)))], [vR (some g.m)], s10, cs + 3 + 0, sl + 18 + 0)) rfl ?_
  refine w_callV (st := []) (d := 8) [] rfl ml_11_85 rfl rfl hM10.1 rfl rfl rfl (by decide) (by decide +kernel) rfl (show cs + 3 + 0 + 0 ≤ 601024 by omega) (show sl + 18 + 0 + 0 ≤ 7293034 by omega) (c_mo_thrown l E 8 s10 g.m g.A hM10) (fun _ _ h => h.elim) ?_
  rintro r9 s11 ⟨rfl, rfl⟩
  rw [e4]
  show WG _ _ _ _ _ _ _ (233, [(6, vI v), (5, vI k), (0, vR (some b)), (1, vR (some g.x)), (2, vR (some g.m)), (3, vR (some o)), (4, vI (nI (5 * t)))], [vI k], s11, cs + 3 + 0 + 0, sl + 18 + 0 + 0)
  refine w_run 1 (S' := (235, [(6, vI v), (5, vI k), (0, vR (some b)), (1, vR (some g.x)), (2, vR (some g.m)), (3, vR (some o)), (4, vI (nI (5 * t)))], [vI k, vI k], s11, cs + 3 + 0 + 0, sl + 18 + 0 + 0)) rfl ?_
  refine w_ic_eq rfl (fun c1 => ?_) (fun c1 => (absurd rfl c1))
  refine w_run 1 (S' := (242, [(6, vI v), (5, vI k), (0, vR (some b)), (1, vR (some g.x)), (2, vR (some g.m)), (3, vR (some o)), (4, vI (nI (5 * t)))], [vI k], s11, cs + 3 + 0 + 0, sl + 18 + 0 + 0)) rfl ?_
  refine w_if_ne rfl (fun c2 => ?_) (fun c2 => ?_)
  · refine w_run 1 (S' := (1388, [(6, vI v), (5, vI k), (0, vR (some b)), (1, vR (some g.x)), (2, vR (some g.m)), (3, vR (some o)), (4, vI (nI (5 * t)))], [], s11, cs + 3 + 0 + 0, sl + 18 + 0 + 0)) rfl ?_
    refine w_lsP [2, 3, 4, 5, 6] ?_
    show WG _ _ _ _ _ _ _ (1388, [(0, vR (some b)), (1, vR (some g.x)), (2, vR (some g.m)), (3, vR (some o)), (4, vI (nI (5 * t)))], [], s11, cs + 3 + 0 + 0, sl + 18 + 0 + 0)
    refine w_wid (S := (1388, [(0, vR (some b)), (1, vR (some g.x)), (2, vR (some g.m)), (3, vR (some o)), (4, vI (nI (5 * t)))], [], s11)) (cs + 58) (sl + 12696) (by omega) (by omega) ?_
    exact K s11 ⟨k, hPO⟩
  · have hJ9 := hJ c2
    refine w_run 2 (S' := (247, [(6, vI v), (5, vI k), (0, vR (some b)), (1, vR (some g.x)), (2, vR (some g.m)), (3, vR (some o)), (4, vI (nI (5 * t)))], [vI 0, vR (some o)], s11, cs + 3 + 0 + 0, sl + 18 + 0 + 0)) rfl ?_
    refine w_lald rfl rfl e5 (vp_in_nI (n := 0) (by decide) (by decide)) ?_
    show WG _ _ _ _ _ _ _ (248, [(6, vI v), (5, vI k), (0, vR (some b)), (1, vR (some g.x)), (2, vR (some g.m)), (3, vR (some o)), (4, vI (nI (5 * t)))], [vL (s11.2.2.1 o 0)], s11, cs + 3 + 0 + 0, sl + 18 + 0 + 0)
    rw [hJ9]
    show WG _ _ _ _ _ _ _ (248, [(6, vI v), (5, vI k), (0, vR (some b)), (1, vR (some g.x)), (2, vR (some g.m)), (3, vR (some o)), (4, vI (nI (5 * t)))], [vL (fZL v)], s11, cs + 3 + 0 + 0, sl + 18 + 0 + 0)
    refine w_run 1 (S' := (250, [(6, vI v), (5, vI k), (0, vR (some b)), (1, vR (some g.x)), (2, vR (some g.m)), (3, vR (some o)), (4, vI (nI (5 * t)))], [vI v, vL (fZL v)], s11, cs + 3 + 0 + 0, sl + 18 + 0 + 0)) rfl ?_
    refine w_if_eq rfl (fun c3 => ?_) (fun c3 => ?_)
    · refine w_run 2 (S' := (259, [(6, vI v), (5, vI k), (0, vR (some b)), (1, vR (some g.x)), (2, vR (some g.m)), (3, vR (some o)), (4, vI (nI (5 * t)))], [vI (lg_cmp (fZL v) 0)], s11, cs + 3 + 0 + 0, sl + 18 + 0 + 0)) rfl ?_
      refine w_if_eq rfl (fun c4 => ?_) (fun c4 => (absurd (lg_z c3) c4))
      refine w_run 1 (S' := (1388, [(6, vI v), (5, vI k), (0, vR (some b)), (1, vR (some g.x)), (2, vR (some g.m)), (3, vR (some o)), (4, vI (nI (5 * t)))], [], s11, cs + 3 + 0 + 0, sl + 18 + 0 + 0)) rfl ?_
      refine w_lsP [2, 3, 4, 5, 6] ?_
      show WG _ _ _ _ _ _ _ (1388, [(0, vR (some b)), (1, vR (some g.x)), (2, vR (some g.m)), (3, vR (some o)), (4, vI (nI (5 * t)))], [], s11, cs + 3 + 0 + 0, sl + 18 + 0 + 0)
      refine w_wid (S := (1388, [(0, vR (some b)), (1, vR (some g.x)), (2, vR (some g.m)), (3, vR (some o)), (4, vI (nI (5 * t)))], [], s11)) (cs + 58) (sl + 12696) (by omega) (by omega) ?_
      exact K s11 ⟨k, hPO⟩
    · refine w_run 3 (S' := (259, [(6, vI v), (5, vI k), (0, vR (some b)), (1, vR (some g.x)), (2, vR (some g.m)), (3, vR (some o)), (4, vI (nI (5 * t)))], [vI (lg_cmp (fZL v) 1)], s11, cs + 3 + 0 + 0, sl + 18 + 0 + 0)) rfl ?_
      refine w_if_eq rfl (fun c5 => ?_) (fun c5 => (absurd (lg_o c3) c5))
      refine w_run 1 (S' := (1388, [(6, vI v), (5, vI k), (0, vR (some b)), (1, vR (some g.x)), (2, vR (some g.m)), (3, vR (some o)), (4, vI (nI (5 * t)))], [], s11, cs + 3 + 0 + 0, sl + 18 + 0 + 0)) rfl ?_
      refine w_lsP [2, 3, 4, 5, 6] ?_
      show WG _ _ _ _ _ _ _ (1388, [(0, vR (some b)), (1, vR (some g.x)), (2, vR (some g.m)), (3, vR (some o)), (4, vI (nI (5 * t)))], [], s11, cs + 3 + 0 + 0, sl + 18 + 0 + 0)
      refine w_wid (S := (1388, [(0, vR (some b)), (1, vR (some g.x)), (2, vR (some g.m)), (3, vR (some o)), (4, vI (nI (5 * t)))], [], s11)) (cs + 58) (sl + 12696) (by omega) (by omega) ?_
      exact K s11 ⟨k, hPO⟩
