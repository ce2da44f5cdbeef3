/-! the law: calls of what catches, the script, an array of longs, room -/
theorem all_cut {α : Type} {P : α → Prop} {k : List α} (n : Nat) (h1 : ∀ q ∈ k.take n, P q) (h2 : ∀ q ∈ k.drop n, P q) : ∀ q ∈ k, P q := by
  intro q hq
  rw [← List.take_append_drop n k] at hq
  rcases List.mem_append.mp hq with h | h
  · exact h1 q h
  · exact h2 q h
theorem drop_go {α : Type} {P : α → Prop} {k : List α} {a b : Nat} (h1 : ∀ q ∈ (k.drop a).take b, P q) (h2 : ∀ q ∈ k.drop (a + b), P q) : ∀ q ∈ k.drop a, P q := all_cut b h1 (by rw [List.drop_drop]; exact h2)
set_option maxRecDepth 20000 in
theorem ok_lw_law : mOK 132 := ⟨rfl, all_cut (k := k_lw_law) 54 okl_0 (drop_go okl_1 (drop_go okl_2 (drop_go okl_3 (drop_go okl_4 (drop_go okl_5 (drop_go okl_6 (drop_go okl_7 (drop_go okl_8 (drop_go okl_9 (drop_go okl_10 (drop_go okl_11 (drop_go okl_12 (drop_go okl_13 (drop_go okl_14 (drop_go okl_15 (fun q h => absurd h (by rw [List.drop_eq_nil_of_le (by decide +kernel)]; exact List.not_mem_nil)))))))))))))))))⟩
def MLW (c idx mid n : Nat) : Prop := Cond.methodLink (RCn c) idx (mY mid) ∈ GW ∧ Cond.static (mY mid) ∈ GW ∧ Cond.initialized (mY mid).cls ∈ GW ∧ Cond.codeWith (mY mid) (mB mid) (mL mid) (mR mid) (mH mid) ∈ GW ∧ dOKm (mY mid) n ∧ mW mid = .codeWith (mY mid) (mB mid) (mL mid) (mR mid) (mH mid)
section WLW
variable {l : Launch} {E : FE} {R : Room} {mid : Nat} {args : Array Value} {XX : State → Prop} {QF : State → List Frame → State → Prop}
variable {pc len tgt : Nat} {ls : List (Nat × MV)} {st : List MV} {σ : Sg} {cs sl : Nat}
theorem w_callW {idx mid' n d mc ms : Nat} {Qr : Option MV → Sg → Prop} {Qt : String → Sg → Prop} (as : List MV) (hq : lkp pc (insL mid) = some (.invokestatic idx, len, tgt)) (ML : MLW (cnoM mid) idx mid' n) (hn : as.length = n) (hfr : d + 1 ≤ R.frames) (hlo : 8 + (mL mid' + 11) + (30 * d + 121) ≤ R.locals) (hw : wt8 st = true) (hc : cs + mc ≤ R.cells) (hs : sl + ms ≤ R.slots) (con : CT l E d mid' as σ mc ms Qr Qt)
    (kx : ∀ X σ', Qt X σ' → XT l E R mid args XX QF X (pc, ls, st, σ', cs + mc, sl + ms))
    (kk : ∀ r' σ', Qr r' σ' → WG l E R mid args XX QF (pc + 3, ls, r'.toList ++ st, σ', cs + mc, sl + ms)) : WG l E R mid args XX QF (pc, ls, as.reverse ++ st, σ, cs, sl) := by
  intro ok p e s m below meth c H locs arr hX F hR hS hl
  obtain ⟨hx, hb, hml, hret, hown, hts, hlocks, hnm, hK, hz, hZ, htab⟩ := id F
  obtain ⟨hd, hlen, hoff⟩ := ok.at hq
  cases hlen rfl
  obtain ⟨w1, w2, w4, w5, w6, w7⟩ := ML
  have hown' : s.vm.findClass (RCn (cnoM mid)) = some m.cls := by rw [ok.1] at hown; exact hown
  have hstk : (as.reverse ++ st).map toV = (as.map toV).reverse ++ st.map toV := by rw [List.map_append, List.map_reverse]
  show W p l e R s m args below meth c H locs cs sl (QF s below) (F0 m pc arr ((as.reverse ++ st).map toV))
  rw [hstk]
  refine fx_call (vx_runSX (hh := mH mid') (As := as.map toV) (rest := st.map toV) ⟨hx, hb, hml, hown', hts⟩ con (vx_cwSW (ws' := GW) n hts (gw_pre3 w1 w2 w4 (show GoodIn GW (wsM mid') by unfold wsM; rw [w7]; exact gw_in w5)) (by unfold wsM; rw [w7]) rfl rfl w6 ⟨hfr, hlo⟩) ⟨fS.blind, fun U hU hW => ⟨rfl, fS.mk hR hK hS hz hZ hU hW⟩⟩ rfl (by rw [List.length_map]; exact hn) hl.1 rfl (lv_room (wt8_V hw)) hd ⟨hc, hs⟩) hS (fun X ce q9 σ' H1 locs1 hQ hR1 hS1 h1 h2 h3 => ?_) (fun r' σ' H1 locs1 hQ hR1 hS1 => ?_)
  · exact kx X σ' hQ ok p e s m below meth c H1 locs1 arr q9 ce hX F hR1 hS1 hl h1 h2 h3
  · rw [opt_V]
    exact kk r' σ' hQ ok p e s m below meth c H1 locs1 arr hX F hR1 hS1 hl
/-- what holds of the script at the law's entry -/
def SCR (E : FE) (b L : Nat) (xs : Nat → Int32) (s : State) : Prop := va_X b L xs s s.heap ∧ b < s.heap.size ∧ b < fz E ∧ s.heap.size = fz E
theorem w_sld {b L : Nat} {xs : Nat → Int32} {i : Int32} (hq : lkp pc (insL mid) = some (.iaload, len, tgt)) (hX9 : ∀ s, XX s → SCR E b L xs s) (hin : vp_in i L) (kk : WG l E R mid args XX QF (pc + 1, ls, vI (xs i.toNatClampNeg) :: st, σ, cs, sl)) : WG l E R mid args XX QF (pc, ls, vI i :: vR (some b) :: st, σ, cs, sl) := by
  intro ok p e s m below meth c H locs arr hX F hR hS hl
  obtain ⟨hx, hb, hml, hret, hown, hts, hlocks, hnm, hK, hz, hZ, htab⟩ := id F
  obtain ⟨hd, hlen, hoff⟩ := ok.at hq
  cases hlen rfl
  obtain ⟨y1, y2, y3, -⟩ := hX9 s hX
  exact va_sld (A := fA E) hx hb y1 y2 (Nat.not_le.mpr y3) hS hin hd (kk ok p e s m below meth c H locs arr hX F hR hS hl)
theorem w_slen {b L : Nat} {xs : Nat → Int32} (hq : lkp pc (insL mid) = some (.arraylength, len, tgt)) (hX9 : ∀ s, XX s → SCR E b L xs s) (kk : WG l E R mid args XX QF (pc + 1, ls, vI (nI L) :: st, σ, cs, sl)) : WG l E R mid args XX QF (pc, ls, vR (some b) :: st, σ, cs, sl) := by
  intro ok p e s m below meth c H locs arr hX F hR hS hl
  obtain ⟨hx, hb, hml, hret, hown, hts, hlocks, hnm, hK, hz, hZ, htab⟩ := id F
  obtain ⟨hd, hlen, hoff⟩ := ok.at hq
  cases hlen rfl
  obtain ⟨y1, y2, y3, -⟩ := hX9 s hX
  exact va_slen (A := fA E) hx hb y1 y2 (Nat.not_le.mpr y3) hS hd (kk ok p e s m below meth c H locs arr hX F hR hS hl)
theorem newL {q : Nat} : NewAt E σ (sL σ q) q 90 := by
  refine ⟨rfl, fun b k' hb => cellK_L hb, fun c a x b h => ?_⟩
  have h' : (if a = q then none else σ.2.1 c a x) = some b := h
  by_cases e : a = q
  · rw [if_pos e] at h'; cases h'
  · rw [if_neg e] at h'; exact h'
theorem w_newl (hq : lkp pc (insL mid) = some (.newarray .long, len, tgt)) (hcs : cs + 1 ≤ R.cells) (hsl : sl + 1 ≤ R.slots) (kk : ∀ q, σ.2.2.2 q = 0 → q ≠ fe E → WG l E R mid args XX QF (pc + 2, ls, vR (some q) :: st, sL σ q, cs + 1, sl + 1)) : WG l E R mid args XX QF (pc, ls, vI 1 :: st, σ, cs, sl) := by
  intro ok p e s m below meth c H locs arr hX F hR hS hl
  obtain ⟨hx, hb, hml, hret, hown, hts, hlocks, hnm, hK, hz, hZ, htab⟩ := id F
  obtain ⟨hd, hlen, hoff⟩ := ok.at hq
  cases hlen rfl
  obtain ⟨⟨ws, hP, hD, hw⟩, hwf⟩ := id hR
  refine va_newa (atype := .long) (ty := .long) (n := (1 : Int32)) (N' := 1) (a0 := (1, .inr (.inl (fun _ => 0)))) hx hb (hts _ ac_long) rfl hK hP hD hS (fun q h => Nat.le_trans hz h) (fun cA => rfl) (by decide) rfl (by decide) hcs hsl hd (fun q cA H1 hK1 hP1 hD1 hS1 => ?_)
  have e1 := K_same hK (t := 2) rfl hK1
  subst e1
  obtain ⟨h0, h1⟩ := HR.push (σ' := sL σ q) (k := 90) hwf hw hP1 hD1
  have e2 : cellK (fC E) 90 (sL σ q) q = .inl (fC E 2, 1, .inr (.inl (fun _ => 0))) := by
    show (Sum.inl (fC E 2, 1, .inr (.inl (fun x => if q = q then (0 : Int64) else σ.2.2.1 q x))) : va_E) = _
    simp
  have hR1 := h1 newL e2
  exact kk q h0 (fun e9 => by
    have h9 := fe_kd ⟨H1, hR1⟩ ⟨s, hZ⟩
    rw [← e9] at h9
    have h8 : (sL σ q).2.2.2 q = 90 := if_pos rfl
    rw [h8] at h9; exact absurd h9 (by decide)) ok p e s m below meth c H1 locs arr hX F hR1 hS1 hl
theorem w_wid {S : Nat × List (Nat × MV) × List MV × Sg} (cs' sl' : Nat) (hc : cs ≤ cs') (hs : sl ≤ sl') (kk : WG l E R mid args XX QF (S.1, S.2.1, S.2.2.1, S.2.2.2, cs', sl')) : WG l E R mid args XX QF (S.1, S.2.1, S.2.2.1, S.2.2.2, cs, sl) := by
  intro ok p e s m below meth c H locs arr hX F hR hS hl
  exact W.widen (k := cs') (n := sl') hc hs (kk ok p e s m below meth c H locs arr hX F hR hS hl)
end WLW
theorem mlw_115 : MLW 11 79 115 2 := ⟨(gwl (List.mem_of_getElem? (i := 239) (by decide +kernel)) rfl), (gwl (List.mem_of_getElem? (i := 240) (by decide +kernel)) rfl), mi_115, mc_115, ⟨by decide +kernel, by decide +kernel, by decide +kernel⟩, rfl⟩
theorem mlw_116 : MLW 11 89 116 2 := ⟨(gwl (List.mem_of_getElem? (i := 336) (by decide +kernel)) rfl), (gwl (List.mem_of_getElem? (i := 337) (by decide +kernel)) rfl), mi_116, mc_116, ⟨by decide +kernel, by decide +kernel, by decide +kernel⟩, rfl⟩
theorem mlw_117 : MLW 11 92 117 4 := ⟨(gwl (List.mem_of_getElem? (i := 502) (by decide +kernel)) rfl), (gwl (List.mem_of_getElem? (i := 503) (by decide +kernel)) rfl), mi_117, mc_117, ⟨by decide +kernel, by decide +kernel, by decide +kernel⟩, rfl⟩
theorem mlw_118 : MLW 11 96 118 4 := ⟨(gwl (List.mem_of_getElem? (i := 542) (by decide +kernel)) rfl), (gwl (List.mem_of_getElem? (i := 543) (by decide +kernel)) rfl), mi_118, mc_118, ⟨by decide +kernel, by decide +kernel, by decide +kernel⟩, rfl⟩
theorem mlw_119 : MLW 11 99 119 5 := ⟨(gwl (List.mem_of_getElem? (i := 553) (by decide +kernel)) rfl), (gwl (List.mem_of_getElem? (i := 554) (by decide +kernel)) rfl), mi_119, mc_119, ⟨by decide +kernel, by decide +kernel, by decide +kernel⟩, rfl⟩
theorem mlw_120 : MLW 11 103 120 4 := ⟨(gwl (List.mem_of_getElem? (i := 564) (by decide +kernel)) rfl), (gwl (List.mem_of_getElem? (i := 565) (by decide +kernel)) rfl), mi_120, mc_120, ⟨by decide +kernel, by decide +kernel, by decide +kernel⟩, rfl⟩
theorem mlw_121 : MLW 11 106 121 5 := ⟨(gwl (List.mem_of_getElem? (i := 572) (by decide +kernel)) rfl), (gwl (List.mem_of_getElem? (i := 573) (by decide +kernel)) rfl), mi_121, mc_121, ⟨by decide +kernel, by decide +kernel, by decide +kernel⟩, rfl⟩
theorem mlw_122 : MLW 11 110 122 3 := ⟨(gwl (List.mem_of_getElem? (i := 725) (by decide +kernel)) rfl), (gwl (List.mem_of_getElem? (i := 726) (by decide +kernel)) rfl), mi_122, mc_122, ⟨by decide +kernel, by decide +kernel, by decide +kernel⟩, rfl⟩
theorem mlw_123 : MLW 11 114 123 4 := ⟨(gwl (List.mem_of_getElem? (i := 742) (by decide +kernel)) rfl), (gwl (List.mem_of_getElem? (i := 743) (by decide +kernel)) rfl), mi_123, mc_123, ⟨by decide +kernel, by decide +kernel, by decide +kernel⟩, rfl⟩
theorem mlw_124 : MLW 11 117 124 3 := ⟨(gwl (List.mem_of_getElem? (i := 770) (by decide +kernel)) rfl), (gwl (List.mem_of_getElem? (i := 771) (by decide +kernel)) rfl), mi_124, mc_124, ⟨by decide +kernel, by decide +kernel, by decide +kernel⟩, rfl⟩
theorem mlw_125 : MLW 11 120 125 4 := ⟨(gwl (List.mem_of_getElem? (i := 778) (by decide +kernel)) rfl), (gwl (List.mem_of_getElem? (i := 779) (by decide +kernel)) rfl), mi_125, mc_125, ⟨by decide +kernel, by decide +kernel, by decide +kernel⟩, rfl⟩
theorem mlw_126 : MLW 11 123 126 6 := ⟨(gwl (List.mem_of_getElem? (i := 810) (by decide +kernel)) rfl), (gwl (List.mem_of_getElem? (i := 811) (by decide +kernel)) rfl), mi_126, mc_126, ⟨by decide +kernel, by decide +kernel, by decide +kernel⟩, rfl⟩
theorem mlw_127 : MLW 11 127 127 5 := ⟨(gwl (List.mem_of_getElem? (i := 820) (by decide +kernel)) rfl), (gwl (List.mem_of_getElem? (i := 821) (by decide +kernel)) rfl), mi_127, mc_127, ⟨by decide +kernel, by decide +kernel, by decide +kernel⟩, rfl⟩
theorem mlw_128 : MLW 11 130 128 5 := ⟨(gwl (List.mem_of_getElem? (i := 831) (by decide +kernel)) rfl), (gwl (List.mem_of_getElem? (i := 832) (by decide +kernel)) rfl), mi_128, mc_128, ⟨by decide +kernel, by decide +kernel, by decide +kernel⟩, rfl⟩
theorem mlw_129 : MLW 11 133 129 5 := ⟨(gwl (List.mem_of_getElem? (i := 839) (by decide +kernel)) rfl), (gwl (List.mem_of_getElem? (i := 840) (by decide +kernel)) rfl), mi_129, mc_129, ⟨by decide +kernel, by decide +kernel, by decide +kernel⟩, rfl⟩
theorem mlw_130 : MLW 11 136 130 4 := ⟨(gwl (List.mem_of_getElem? (i := 869) (by decide +kernel)) rfl), (gwl (List.mem_of_getElem? (i := 870) (by decide +kernel)) rfl), mi_130, mc_130, ⟨by decide +kernel, by decide +kernel, by decide +kernel⟩, rfl⟩
theorem mlw_131 : MLW 11 139 131 5 := ⟨(gwl (List.mem_of_getElem? (i := 876) (by decide +kernel)) rfl), (gwl (List.mem_of_getElem? (i := 877) (by decide +kernel)) rfl), mi_131, mc_131, ⟨by decide +kernel, by decide +kernel, by decide +kernel⟩, rfl⟩
