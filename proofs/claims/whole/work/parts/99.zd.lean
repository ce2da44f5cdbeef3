/-! the law: a step of its loop, the loop, its body from the entry on -/
theorem hd_gt {t L : Nat} (h1 : 5 * t ≤ 2560) (h2 : L ≤ 2560) : (nI L) - 5 < nI (5 * t) ↔ L < 5 * t + 5 := by
  have e1 : ((nI L) - 5).toInt = (L : Int) - 5 := by
    rw [Int32.toInt_sub, nI_toInt (by omega), show (5 : Int32).toInt = 5 from rfl]
    apply Int.bmod_eq_of_le <;> omega
  have e2 : (nI (5 * t)).toInt = ((5 * t : Nat) : Int) := nI_toInt (by omega)
  rw [Int32.lt_iff_toInt_lt, e1, e2]
  omega
set_option maxRecDepth 20000 in
set_option maxHeartbeats 4000000 in
theorem law_step (l : Launch) (E : FE) (g : Gh) (t : Nat) (σ : Sg) (o b L : Nat) (xs : Nat → Int32) {args : Array Value} {QF : State → List Frame → State → Prop} {cs sl : Nat} (R : RR E g t σ) (ht : 5 * t ≤ 2560) (hl0 : l.stackTraces = false) (ho : σ.2.2.2 o = 90) (hL : L ≤ 2560) (hcs : 5 * t + 5 ≤ L → cs + 58 ≤ 601024) (hsl : 5 * t + 5 ≤ L → sl + 12696 ≤ 7293034) (KX : WG l E room_1 132 args (SCR E b L xs) QF (1394, [(0, vR (some b)), (1, vR (some g.x)), (2, vR (some g.m)), (3, vR (some o)), (4, vI (nI (5 * t)))], [], σ, cs, sl)) (KN : 5 * t + 5 ≤ L → ∀ σ', (∃ k, PO E g.x g.m o g.A (t + 1) k σ') → WG l E room_1 132 args (SCR E b L xs) QF (23, [(0, vR (some b)), (1, vR (some g.x)), (2, vR (some g.m)), (3, vR (some o)), (4, vI (nI (5 * (t + 1))))], [], σ', cs + 58, sl + 12696)) : WG l E room_1 132 args (SCR E b L xs) QF (23, [(0, vR (some b)), (1, vR (some g.x)), (2, vR (some g.m)), (3, vR (some o)), (4, vI (nI (5 * t)))], [], σ, cs, sl) := by
  refine w_run 2 (S' := (26, [(0, vR (some b)), (1, vR (some g.x)), (2, vR (some g.m)), (3, vR (some o)), (4, vI (nI (5 * t)))], [vR (some b), vI (nI (5 * t))], σ, cs, sl)) rfl ?_
  refine w_slen rfl (fun _ h => h) ?_
  show WG _ _ _ _ _ _ _ (27, [(0, vR (some b)), (1, vR (some g.x)), (2, vR (some g.m)), (3, vR (some o)), (4, vI (nI (5 * t)))], [vI (nI L), vI (nI (5 * t))], σ, cs, sl)
  refine w_run 2 (S' := (29, [(0, vR (some b)), (1, vR (some g.x)), (2, vR (some g.m)), (3, vR (some o)), (4, vI (nI (5 * t)))], [vI ((nI L) - 5), vI (nI (5 * t))], σ, cs, sl)) rfl ?_
  refine w_ic_gt rfl (fun c1 => ?_) (fun c1 => ?_)
  · exact KX
  · have h5 : 5 * t + 5 ≤ L := Nat.not_lt.mp (fun h => c1 ((hd_gt ht hL).mpr h))
    have K1 : ∀ σ', (∃ k, PO E g.x g.m o g.A (t + 1) k σ') → WG l E room_1 132 args (SCR E b L xs) QF (1388, [(0, vR (some b)), (1, vR (some g.x)), (2, vR (some g.m)), (3, vR (some o)), (4, vI (nI (5 * t)))], [], σ', cs + 58, sl + 12696) := by
      intro s9 h9
      refine w_run 2 (S' := (23, [(4, vI ((nI (5 * t)) + 5)), (0, vR (some b)), (1, vR (some g.x)), (2, vR (some g.m)), (3, vR (some o))], [], s9, cs + 58, sl + 12696)) rfl ?_
      refine w_lsP [1, 2, 3, 4, 0] ?_
      show WG _ _ _ _ _ _ _ (23, [(0, vR (some b)), (1, vR (some g.x)), (2, vR (some g.m)), (3, vR (some o)), (4, vI ((nI (5 * t)) + 5))], [], s9, cs + 58, sl + 12696)
      rw [show ((nI (5 * t)) + 5 : Int32) = nI (5 * (t + 1)) from by rw [show 5 * (t + 1) = 5 * t + 5 from by omega]; simp only [nl5, nI_add]]
      exact KN h5 s9 h9
    refine w_run 2 (S' := (35, [(0, vR (some b)), (1, vR (some g.x)), (2, vR (some g.m)), (3, vR (some o)), (4, vI (nI (5 * t)))], [vI (nI (5 * t)), vR (some b)], σ, cs, sl)) rfl ?_
    refine w_sld rfl (fun _ h => h) (vp_in_nI (n := 5 * t) (by omega) (by omega)) ?_
    show WG _ _ _ _ _ _ _ (36, [(0, vR (some b)), (1, vR (some g.x)), (2, vR (some g.m)), (3, vR (some o)), (4, vI (nI (5 * t)))], [vI (xs (nI (5 * t) : Int32).toNatClampNeg)], σ, cs, sl)
    rw [show (nI (5 * t) : Int32).toNatClampNeg = 5 * t from nI_clamp (n := 5 * t) (by omega)]
    show WG _ _ _ _ _ _ _ (36, [(0, vR (some b)), (1, vR (some g.x)), (2, vR (some g.m)), (3, vR (some o)), (4, vI (nI (5 * t)))], [vI (xs (5 * t))], σ, cs, sl)
    refine w_run 2 (S' := (39, [(0, vR (some b)), (1, vR (some g.x)), (2, vR (some g.m)), (3, vR (some o)), (4, vI (nI (5 * t)))], [vI ((xs (5 * t)) &&& 31)], σ, cs, sl)) rfl ?_
    by_cases c2 : (xs (5 * t)) &&& 31 = 0
    · rw [c2]
      show WG _ _ _ _ _ _ _ (39, [(0, vR (some b)), (1, vR (some g.x)), (2, vR (some g.m)), (3, vR (some o)), (4, vI (nI (5 * t)))], [vI 0], σ, cs, sl)
      refine w_tsIn rfl (by decide) (by decide) rfl rfl ?_
      exact lc_born l E g t σ o b L xs R (by omega) hl0 ho hL h5 (hcs h5) (hsl h5) K1
    by_cases c3 : (xs (5 * t)) &&& 31 = 1
    · rw [c3]
      show WG _ _ _ _ _ _ _ (39, [(0, vR (some b)), (1, vR (some g.x)), (2, vR (some g.m)), (3, vR (some o)), (4, vI (nI (5 * t)))], [vI 1], σ, cs, sl)
      refine w_tsIn rfl (by decide) (by decide) rfl rfl ?_
      exact lc_die l E g t σ o b L xs R (by omega) hl0 ho hL h5 (hcs h5) (hsl h5) K1
    by_cases c4 : (xs (5 * t)) &&& 31 = 2
    · rw [c4]
      show WG _ _ _ _ _ _ _ (39, [(0, vR (some b)), (1, vR (some g.x)), (2, vR (some g.m)), (3, vR (some o)), (4, vI (nI (5 * t)))], [vI 2], σ, cs, sl)
      refine w_tsIn rfl (by decide) (by decide) rfl rfl ?_
      exact lc_serve l E g t σ o b L xs R (by omega) hl0 ho hL h5 (hcs h5) (hsl h5) K1
    by_cases c5 : (xs (5 * t)) &&& 31 = 3
    · rw [c5]
      show WG _ _ _ _ _ _ _ (39, [(0, vR (some b)), (1, vR (some g.x)), (2, vR (some g.m)), (3, vR (some o)), (4, vI (nI (5 * t)))], [vI 3], σ, cs, sl)
      refine w_tsIn rfl (by decide) (by decide) rfl rfl ?_
      exact lc_manage l E g t σ o b L xs R (by omega) hl0 ho hL h5 (hcs h5) (hsl h5) K1
    by_cases c6 : (xs (5 * t)) &&& 31 = 4
    · rw [c6]
      show WG _ _ _ _ _ _ _ (39, [(0, vR (some b)), (1, vR (some g.x)), (2, vR (some g.m)), (3, vR (some o)), (4, vI (nI (5 * t)))], [vI 4], σ, cs, sl)
      refine w_tsIn rfl (by decide) (by decide) rfl rfl ?_
      exact lc_item l E g t σ o b L xs R (by omega) hl0 ho hL h5 (hcs h5) (hsl h5) K1
    by_cases c7 : (xs (5 * t)) &&& 31 = 5
    · rw [c7]
      show WG _ _ _ _ _ _ _ (39, [(0, vR (some b)), (1, vR (some g.x)), (2, vR (some g.m)), (3, vR (some o)), (4, vI (nI (5 * t)))], [vI 5], σ, cs, sl)
      refine w_tsIn rfl (by decide) (by decide) rfl rfl ?_
      exact lc_draft l E g t σ o b L xs R (by omega) hl0 ho hL h5 (hcs h5) (hsl h5) K1
    by_cases c8 : (xs (5 * t)) &&& 31 = 6
    · rw [c8]
      show WG _ _ _ _ _ _ _ (39, [(0, vR (some b)), (1, vR (some g.x)), (2, vR (some g.m)), (3, vR (some o)), (4, vI (nI (5 * t)))], [vI 6], σ, cs, sl)
      refine w_tsIn rfl (by decide) (by decide) rfl rfl ?_
      exact lc_send l E g t σ o b L xs R (by omega) hl0 ho hL h5 (hcs h5) (hsl h5) K1
    by_cases c9 : (xs (5 * t)) &&& 31 = 7
    · rw [c9]
      show WG _ _ _ _ _ _ _ (39, [(0, vR (some b)), (1, vR (some g.x)), (2, vR (some g.m)), (3, vR (some o)), (4, vI (nI (5 * t)))], [vI 7], σ, cs, sl)
      refine w_tsIn rfl (by decide) (by decide) rfl rfl ?_
      exact lc_take l E g t σ o b L xs R (by omega) hl0 ho hL h5 (hcs h5) (hsl h5) K1
    by_cases c10 : (xs (5 * t)) &&& 31 = 8
    · rw [c10]
      show WG _ _ _ _ _ _ _ (39, [(0, vR (some b)), (1, vR (some g.x)), (2, vR (some g.m)), (3, vR (some o)), (4, vI (nI (5 * t)))], [vI 8], σ, cs, sl)
      refine w_tsIn rfl (by decide) (by decide) rfl rfl ?_
      exact lc_latest l E g t σ o b L xs R (by omega) hl0 ho hL h5 (hcs h5) (hsl h5) K1
    by_cases c11 : (xs (5 * t)) &&& 31 = 9
    · rw [c11]
      show WG _ _ _ _ _ _ _ (39, [(0, vR (some b)), (1, vR (some g.x)), (2, vR (some g.m)), (3, vR (some o)), (4, vI (nI (5 * t)))], [vI 9], σ, cs, sl)
      refine w_tsIn rfl (by decide) (by decide) rfl rfl ?_
      exact lc_reply l E g t σ o b L xs R (by omega) hl0 ho hL h5 (hcs h5) (hsl h5) K1
    by_cases c12 : (xs (5 * t)) &&& 31 = 10
    · rw [c12]
      show WG _ _ _ _ _ _ _ (39, [(0, vR (some b)), (1, vR (some g.x)), (2, vR (some g.m)), (3, vR (some o)), (4, vI (nI (5 * t)))], [vI 10], σ, cs, sl)
      refine w_tsIn rfl (by decide) (by decide) rfl rfl ?_
      exact lc_free l E g t σ o b L xs R (by omega) hl0 ho hL h5 (hcs h5) (hsl h5) K1
    by_cases c13 : (xs (5 * t)) &&& 31 = 11
    · rw [c13]
      show WG _ _ _ _ _ _ _ (39, [(0, vR (some b)), (1, vR (some g.x)), (2, vR (some g.m)), (3, vR (some o)), (4, vI (nI (5 * t)))], [vI 11], σ, cs, sl)
      refine w_tsIn rfl (by decide) (by decide) rfl rfl ?_
      exact lc_read l E g t σ o b L xs R (by omega) hl0 ho hL h5 (hcs h5) (hsl h5) K1
    by_cases c14 : (xs (5 * t)) &&& 31 = 12
    · rw [c14]
      show WG _ _ _ _ _ _ _ (39, [(0, vR (some b)), (1, vR (some g.x)), (2, vR (some g.m)), (3, vR (some o)), (4, vI (nI (5 * t)))], [vI 12], σ, cs, sl)
      refine w_tsIn rfl (by decide) (by decide) rfl rfl ?_
      exact lc_hold l E g t σ o b L xs R (by omega) hl0 ho hL h5 (hcs h5) (hsl h5) K1
    by_cases c15 : (xs (5 * t)) &&& 31 = 13
    · rw [c15]
      show WG _ _ _ _ _ _ _ (39, [(0, vR (some b)), (1, vR (some g.x)), (2, vR (some g.m)), (3, vR (some o)), (4, vI (nI (5 * t)))], [vI 13], σ, cs, sl)
      refine w_tsIn rfl (by decide) (by decide) rfl rfl ?_
      exact lc_drop l E g t σ o b L xs R (by omega) hl0 ho hL h5 (hcs h5) (hsl h5) K1
    by_cases c16 : (xs (5 * t)) &&& 31 = 14
    · rw [c16]
      show WG _ _ _ _ _ _ _ (39, [(0, vR (some b)), (1, vR (some g.x)), (2, vR (some g.m)), (3, vR (some o)), (4, vI (nI (5 * t)))], [vI 14], σ, cs, sl)
      refine w_tsIn rfl (by decide) (by decide) rfl rfl ?_
      exact lc_watch l E g t σ o b L xs R (by omega) hl0 ho hL h5 (hcs h5) (hsl h5) K1
    by_cases c17 : (xs (5 * t)) &&& 31 = 15
    · rw [c17]
      show WG _ _ _ _ _ _ _ (39, [(0, vR (some b)), (1, vR (some g.x)), (2, vR (some g.m)), (3, vR (some o)), (4, vI (nI (5 * t)))], [vI 15], σ, cs, sl)
      refine w_tsIn rfl (by decide) (by decide) rfl rfl ?_
      exact lc_count l E g t σ o b L xs R (by omega) hl0 ho hL h5 (hcs h5) (hsl h5) K1
    by_cases c18 : (xs (5 * t)) &&& 31 = 16
    · rw [c18]
      show WG _ _ _ _ _ _ _ (39, [(0, vR (some b)), (1, vR (some g.x)), (2, vR (some g.m)), (3, vR (some o)), (4, vI (nI (5 * t)))], [vI 16], σ, cs, sl)
      refine w_tsIn rfl (by decide) (by decide) rfl rfl ?_
      exact lc_handle l E g t σ o b L xs R (by omega) hl0 ho hL h5 (hcs h5) (hsl h5) K1
    · have tc2 : ((xs (5 * t)) &&& 31).toInt ≠ 0 := fun e9 => c2 (Int32.toInt_inj.mp e9)
      have tc3 : ((xs (5 * t)) &&& 31).toInt ≠ 1 := fun e9 => c3 (Int32.toInt_inj.mp e9)
      have tc4 : ((xs (5 * t)) &&& 31).toInt ≠ 2 := fun e9 => c4 (Int32.toInt_inj.mp e9)
      have tc5 : ((xs (5 * t)) &&& 31).toInt ≠ 3 := fun e9 => c5 (Int32.toInt_inj.mp e9)
      have tc6 : ((xs (5 * t)) &&& 31).toInt ≠ 4 := fun e9 => c6 (Int32.toInt_inj.mp e9)
      have tc7 : ((xs (5 * t)) &&& 31).toInt ≠ 5 := fun e9 => c7 (Int32.toInt_inj.mp e9)
      have tc8 : ((xs (5 * t)) &&& 31).toInt ≠ 6 := fun e9 => c8 (Int32.toInt_inj.mp e9)
      have tc9 : ((xs (5 * t)) &&& 31).toInt ≠ 7 := fun e9 => c9 (Int32.toInt_inj.mp e9)
      have tc10 : ((xs (5 * t)) &&& 31).toInt ≠ 8 := fun e9 => c10 (Int32.toInt_inj.mp e9)
      have tc11 : ((xs (5 * t)) &&& 31).toInt ≠ 9 := fun e9 => c11 (Int32.toInt_inj.mp e9)
      have tc12 : ((xs (5 * t)) &&& 31).toInt ≠ 10 := fun e9 => c12 (Int32.toInt_inj.mp e9)
      have tc13 : ((xs (5 * t)) &&& 31).toInt ≠ 11 := fun e9 => c13 (Int32.toInt_inj.mp e9)
      have tc14 : ((xs (5 * t)) &&& 31).toInt ≠ 12 := fun e9 => c14 (Int32.toInt_inj.mp e9)
      have tc15 : ((xs (5 * t)) &&& 31).toInt ≠ 13 := fun e9 => c15 (Int32.toInt_inj.mp e9)
      have tc16 : ((xs (5 * t)) &&& 31).toInt ≠ 14 := fun e9 => c16 (Int32.toInt_inj.mp e9)
      have tc17 : ((xs (5 * t)) &&& 31).toInt ≠ 15 := fun e9 => c17 (Int32.toInt_inj.mp e9)
      have tc18 : ((xs (5 * t)) &&& 31).toInt ≠ 16 := fun e9 => c18 (Int32.toInt_inj.mp e9)
      refine w_tsOut rfl (by omega) rfl ?_
      refine w_wid (S := (1388, [(0, vR (some b)), (1, vR (some g.x)), (2, vR (some g.m)), (3, vR (some o)), (4, vI (nI (5 * t)))], [], σ)) (cs + 58) (sl + 12696) (by omega) (by omega) ?_
      exact K1 σ ⟨_, g, R.mono (Nat.le_succ t), rfl, rfl, rfl, rfl, ho⟩
theorem law_loop (l : Launch) (E : FE) (o b L : Nat) (xs : Nat → Int32) {args : Array Value} {QF : State → List Frame → State → Prop} {c0 s0 : Nat} (hl0 : l.stackTraces = false) (hL : L ≤ 2560) (hc : c0 + 29696 ≤ 601024) (hs : s0 + 6500352 ≤ 7293034) (KX : ∀ ls σ cs sl, cs ≤ 601024 → sl ≤ 7293034 → WG l E room_1 132 args (SCR E b L xs) QF (1394, ls, [], σ, cs, sl)) : ∀ (n t : Nat) (g : Gh) (σ : Sg), t + n = 512 → RR E g t σ → σ.2.2.2 o = 90 → WG l E room_1 132 args (SCR E b L xs) QF (23, [(0, vR (some b)), (1, vR (some g.x)), (2, vR (some g.m)), (3, vR (some o)), (4, vI (nI (5 * t)))], [], σ, c0 + 58 * t, s0 + 12696 * t)
  | 0, t, g, σ, e, R, ho => law_step l E g t σ o b L xs R (by omega) hl0 ho hL (fun h => by omega) (fun h => by omega) (KX _ _ _ _ (by omega) (by omega)) (fun h => by omega)
  | n + 1, t, g, σ, e, R, ho => law_step l E g t σ o b L xs R (by omega) hl0 ho hL (fun h => by omega) (fun h => by omega) (KX _ _ _ _ (by omega) (by omega)) (fun h s9 h9 => by
      obtain ⟨k, g9, R9, e1, e2, e3, e4, e5⟩ := h9
      rw [← e1, ← e2]
      have h8 := law_loop l E o b L xs hl0 hL hc hs KX n (t + 1) g9 s9 (by omega) R9 e5
      rw [show c0 + 58 * (t + 1) = c0 + 58 * t + 58 from by omega, show s0 + 12696 * (t + 1) = s0 + 12696 * t + 12696 from by omega] at h8
      exact h8)
def σz : Sg := (fun _ _ _ => 0, fun _ _ _ => none, fun _ _ => 0, fun _ => 0)
theorem wf_z : WF σz := fun _ _ _ _ h _ => by cases h
set_option maxRecDepth 20000 in
theorem law_body (l : Launch) (E : FE) (b L : Nat) (xs : Nat → Int32) {args : Array Value} {QF : State → List Frame → State → Prop} (hl0 : l.stackTraces = false) (hL : L ≤ 2560) (KX : ∀ ls σ cs sl, cs ≤ 601024 → sl ≤ 7293034 → WG l E room_1 132 args (SCR E b L xs) QF (1394, ls, [], σ, cs, sl)) : WG l E room_1 132 args (SCR E b L xs) QF (0, [(0, vR (some b))], [], σz, 0, 0) := by
  refine w_new (k := 1) rfl rfl 1 rfl rfl (by decide) (by decide) (fun x hx hxe => ?_)
  show WG _ _ _ _ _ _ _ (3, [(0, vR (some b))], [vR (some x)], sN σz x 1, 1, 2)
  refine w_run 1 (S' := (4, [(0, vR (some b))], [vR (some x), vR (some x)], sN σz x 1, 1, 2)) rfl ?_
  refine w_callI (st := [vR (some x)]) (d := 11) [] rfl ml_11_75 rfl rfl (by decide) (by decide +kernel) rfl (by decide) (by decide) (c_od_init l E 11 (sN σz x 1) x (by decide) (if_pos rfl)) ?_
  rintro r9 τ1 ⟨rfl, a0, D, h1⟩
  show WG _ _ _ _ _ _ _ (7, [(0, vR (some b))], [vR (some x)], τ1, 62, 902)
  refine w_run 1 (S' := (8, [(1, vR (some x)), (0, vR (some b))], [], τ1, 62, 902)) rfl ?_
  refine w_new (k := 50) rfl rfl 50 rfl rfl (by decide) (by decide) (fun m hm hme => ?_)
  show WG _ _ _ _ _ _ _ (11, [(1, vR (some x)), (0, vR (some b))], [vR (some m)], sN τ1 m 50, 63, 936)
  refine w_run 1 (S' := (12, [(1, vR (some x)), (0, vR (some b))], [vR (some m), vR (some m)], sN τ1 m 50, 63, 936)) rfl ?_
  refine w_callI (st := [vR (some m)]) (d := 11) [] rfl ml_11_78 rfl rfl (by decide) (by decide +kernel) rfl (by decide) (by decide) (c_mo_init l E 11 (sN τ1 m 50) m (by decide) (if_pos rfl)) ?_
  rintro r9 τ2 ⟨rfl, A, h2⟩
  show WG _ _ _ _ _ _ _ (15, [(1, vR (some x)), (0, vR (some b))], [vR (some m)], τ2, 94, 8068)
  refine w_run 2 (S' := (17, [(2, vR (some m)), (1, vR (some x)), (0, vR (some b))], [vI 1], τ2, 94, 8068)) rfl ?_
  refine w_newl rfl (by decide) (by decide) (fun o ho hoe => ?_)
  show WG _ _ _ _ _ _ _ (19, [(2, vR (some m)), (1, vR (some x)), (0, vR (some b))], [vR (some o)], sL τ2 o, 95, 8069)
  refine w_run 3 (S' := (23, [(4, vI 0), (3, vR (some o)), (2, vR (some m)), (1, vR (some x)), (0, vR (some b))], [], sL τ2 o, 95, 8069)) rfl ?_
  refine w_lsP [4, 3, 2, 1, 0] ?_
  show WG _ _ _ _ _ _ _ (23, [(0, vR (some b)), (1, vR (some x)), (2, vR (some m)), (3, vR (some o)), (4, vI 0)], [], sL τ2 o, 95, 8069)
  obtain ⟨R, ho9⟩ := rr_start (fun _ => rfl) wf_z hxe h1 hm hme h2 ho hoe
  exact law_loop l E o b L xs (c0 := 95) (s0 := 8069) hl0 hL (by decide) (by decide) KX 512 0 (gS x a0 m D A) (sL τ2 o) rfl R ho9
