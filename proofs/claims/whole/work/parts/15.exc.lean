/-! throwing, catching, Object's constructor, Math.max, switches -/
theorem HR.kept {E : FE} {σ : Sg} {H H1 : Heap} (h : HR E σ H) (hq : ∀ q : Nat, q < H.size → H1[q]? = H[q]?) : HR E σ H1 := by
  obtain ⟨⟨ws, hP, hD, hw⟩, hwf⟩ := h
  exact ⟨⟨ws, hP.kept (fun k q hk => hq q.1 (hP k q hk).lt), hD, hw⟩, hwf⟩
def xNm : List String := ["java/lang/RuntimeException", "java/lang/Exception"]
def TS (ik ic : Nat) (X : String) : Prop := Bundle.fit X = true ∧ Cond.classLink "ObjectDriver" ik X ∈ GW ∧ Cond.initialized X ∈ GW ∧ (∀ w ∈ (vx_atS "ObjectDriver" ic X xNm).filter goodWord, w ∈ lw_tbl) ∧ (∀ w ∈ (vx_atS "ObjectDriver" ic X xNm).filter (fun w => !goodWord w), w ∈ BW) ∧ ∀ w ∈ Cond.classLink "ObjectDriver" ik X :: Cond.initialized X :: vx_atS "ObjectDriver" ic X xNm, vx_ot w = true
theorem TS.hat {ik ic : Nat} {X : String} (h : TS ik ic X) {args : Array Value} {s : State} (hts : ∀ w ∈ GW, w.before args s = true) (hB : ∀ w ∈ BW, va_Nw w s) : ∀ w ∈ vx_atS "ObjectDriver" ic X xNm, w.before args s = true := by
  intro w hw
  by_cases g : goodWord w = true
  · exact hts w (List.mem_filter.mpr ⟨h.2.2.2.1 w (List.mem_filter.mpr ⟨hw, g⟩), g⟩)
  · have hm := h.2.2.2.2.1 w (List.mem_filter.mpr ⟨hw, by cases hg : goodWord w <;> simp_all⟩)
    have hk := (List.mem_filter.mp hm).2
    have hb := hB w hm
    cases w with
    | declares y => exact va_Nw.use rfl hb
    | castable a b => exact va_Nw.use rfl hb
    | _ => cases hk
section TH
variable {l : Launch} {E : FE} {d mid : Nat} {av : List MV} {mc ms : Nat} {Qr : Option MV → Sg → Prop} {Qt : String → Sg → Prop}
variable {pc len tgt : Nat} {ls : List (Nat × MV)} {σ : Sg} {cs sl : Nat}
theorem w_throwS {ik is ic t0 t3 t4 t6 t9 l0 l3 l4 l6 l9 : Nat} {X text : String} (hl0 : l.stackTraces = false) (h0 : lkp pc (insL mid) = some (.new ik, l0, t0)) (h3 : lkp (pc + 3) (insL mid) = some (.dup, l3, t3)) (h4 : lkp (pc + 4) (insL mid) = some (.ldc is, l4, t4)) (h6 : lkp (pc + 6) (insL mid) = some (.invokespecial ic, l6, t6)) (h9 : lkp (pc + 9) (insL mid) = some (.athrow, l9, t9)) (ts : TS ik ic X) (hstr : (is, text) ∈ SL) (hcn : cnoM mid = 0) (hh : mH mid = []) (hd5 : 6 ≤ d) (hc : cs + 1 ≤ mc) (hs : sl + 6 ≤ ms) (h : Qt X σ) : WP l E d mid av mc ms Qr Qt (pc, ls, [], σ, cs, sl) := by
  intro ok p e s m below meth c H locs arr hX F hR hS hl
  obtain ⟨hx, hb, hml, hret, hown, hts, hlocks, hnm, hK, hz, hZ, htab⟩ := id F
  obtain ⟨d0, e0, -⟩ := ok.at h0
  cases e0 rfl
  obtain ⟨d3, e3, -⟩ := ok.at h3
  cases e3 rfl
  obtain ⟨d4, e4, -⟩ := ok.at h4
  cases e4 rfl
  obtain ⟨d6, e6, -⟩ := ok.at h6
  cases e6 rfl
  obtain ⟨d9, e9, -⟩ := ok.at h9
  cases e9 rfl
  have hown' : s.vm.findClass "ObjectDriver" = some m.cls := by
    have h1 := hown
    rw [ok.1, hcn] at h1
    exact h1
  obtain ⟨sa, hsa⟩ := hZ.2.2.2.1 _ hstr
  refine vx_throwS (own := "ObjectDriver") (cls := X) (text := text) (names := xNm) (ik := ik) (is := is) (ic := ic) (sa := sa) (A := fA E) hx hb hl0 hown' ts.1 (by decide +kernel) (hts _ ts.2.1) (hts _ ts.2.2.1) hsa (ts.hat hts hZ.2.1) ts.2.2.2.2.2 hZ.2.2.2.2.2.1 hZ.2.2.2.2.2.2.1 hS (by rw [hml]; exact hl.1) d0 d3 d4 d6 d9 (fun x hx9 => ?_) (show xNm.length + 3 < d by show 2 + 3 < d; omega) (show _ ≤ 30 * d + 121 by show 0 + (13 * 3 + 43) ≤ _; omega) hc hs hlocks (fun t hA h1 h2 => ?_) hS.2.2 hc hs
  · rw [htab, hh] at hx9
    cases hx9
  · exact ⟨⟨σ, h, hR.kept h2⟩, Nat.le_trans hS.1 h1, fun q hq hn => (h2 q (Nat.lt_of_lt_of_le hq hS.1)).trans (hS.2.1 q hq hn)⟩
theorem w_throwW {ik is ic t0 t3 t4 t6 t9 l0 l3 l4 l6 l9 : Nat} {X text : String} (hl0 : l.stackTraces = false) (h0 : lkp pc (insL mid) = some (.new ik, l0, t0)) (h3 : lkp (pc + 3) (insL mid) = some (.dup, l3, t3)) (h4 : lkp (pc + 4) (insL mid) = some (.ldc_w is, l4, t4)) (h6 : lkp (pc + 7) (insL mid) = some (.invokespecial ic, l6, t6)) (h9 : lkp (pc + 10) (insL mid) = some (.athrow, l9, t9)) (ts : TS ik ic X) (hstr : (is, text) ∈ SL) (hcn : cnoM mid = 0) (hh : mH mid = []) (hd5 : 6 ≤ d) (hc : cs + 1 ≤ mc) (hs : sl + 6 ≤ ms) (h : Qt X σ) : WP l E d mid av mc ms Qr Qt (pc, ls, [], σ, cs, sl) := by
  intro ok p e s m below meth c H locs arr hX F hR hS hl
  obtain ⟨hx, hb, hml, hret, hown, hts, hlocks, hnm, hK, hz, hZ, htab⟩ := id F
  obtain ⟨d0, e0, -⟩ := ok.at h0
  cases e0 rfl
  obtain ⟨d3, e3, -⟩ := ok.at h3
  cases e3 rfl
  obtain ⟨d4, e4, -⟩ := ok.at h4
  cases e4 rfl
  obtain ⟨d6, e6, -⟩ := ok.at h6
  cases e6 rfl
  obtain ⟨d9, e9, -⟩ := ok.at h9
  cases e9 rfl
  have hown' : s.vm.findClass "ObjectDriver" = some m.cls := by
    have h1 := hown
    rw [ok.1, hcn] at h1
    exact h1
  obtain ⟨sa, hsa⟩ := hZ.2.2.2.1 _ hstr
  refine vx_throwSW (own := "ObjectDriver") (cls := X) (text := text) (names := xNm) (ik := ik) (is := is) (ic := ic) (sa := sa) (A := fA E) hx hb hl0 hown' ts.1 (by decide +kernel) (hts _ ts.2.1) (hts _ ts.2.2.1) hsa (ts.hat hts hZ.2.1) ts.2.2.2.2.2 hZ.2.2.2.2.2.1 hZ.2.2.2.2.2.2.1 hS (by rw [hml]; exact hl.1) d0 d3 d4 d6 d9 (fun x hx9 => ?_) (show xNm.length + 3 < d by show 2 + 3 < d; omega) (show _ ≤ 30 * d + 121 by show 0 + (13 * 3 + 43) ≤ _; omega) hc hs hlocks (fun t hA h1 h2 => ?_) hS.2.2 hc hs
  · rw [htab, hh] at hx9
    cases hx9
  · exact ⟨⟨σ, h, hR.kept h2⟩, Nat.le_trans hS.1 h1, fun q hq hn => (h2 q (Nat.lt_of_lt_of_le hq hS.1)).trans (hS.2.1 q hq hn)⟩
end TH
theorem ts_IS : TS 26 30 "java/lang/IllegalStateException" := ⟨by decide +kernel, gwm (List.mem_of_getElem? (i := 285) (by decide +kernel)) rfl, gwm (List.mem_of_getElem? (i := 14) (by decide +kernel)) rfl, by decide +kernel, by decide +kernel, by decide +kernel⟩
theorem ts_IA : TS 263 267 "java/lang/IllegalArgumentException" := ⟨by decide +kernel, gwm (List.mem_of_getElem? (i := 217) (by decide +kernel)) rfl, gwm (List.mem_of_getElem? (i := 13) (by decide +kernel)) rfl, by decide +kernel, by decide +kernel, by decide +kernel⟩
def LC : List (Nat × String) := [(13, "java/lang/IllegalArgumentException"), (15, "java/lang/IllegalStateException"), (46, "java/util/NoSuchElementException")]
theorem LC_w : ∀ q ∈ LC, Cond.classLink "ObjectDriverLaw" q.1 q.2 ∈ GW ∧ Cond.castable q.2 q.2 ∈ BW ∧ q.1 ≠ 0 := List.forall_mem_cons.mpr ⟨⟨gwm (List.mem_of_getElem? (i := 207) (by decide +kernel)) rfl, List.mem_filter.mpr ⟨List.mem_of_getElem? (i := 219) (by decide +kernel), rfl⟩, by decide⟩, List.forall_mem_cons.mpr ⟨⟨gwm (List.mem_of_getElem? (i := 208) (by decide +kernel)) rfl, List.mem_filter.mpr ⟨List.mem_of_getElem? (i := 287) (by decide +kernel), rfl⟩, by decide⟩, List.forall_mem_cons.mpr ⟨⟨gwm (List.mem_of_getElem? (i := 710) (by decide +kernel)) rfl, List.mem_filter.mpr ⟨List.mem_of_getElem? (i := 721) (by decide +kernel), rfl⟩, by decide⟩, fun _ h => absurd h List.not_mem_nil⟩⟩⟩
section CC
variable {l : Launch} {E : FE} {R : Room} {mid : Nat} {args : Array Value} {XX : State → Prop} {QF : State → List Frame → State → Prop}
variable {pc len tgt : Nat} {ls : List (Nat × MV)} {st : List MV} {σ : Sg} {cs sl : Nat}
theorem x_catch {X : String} (pre : List (Nat × Nat × Nat × Nat)) (z : Nat × Nat × Nat × Nat) (suf : List (Nat × Nat × Nat × Nat)) (hsp : mH mid = pre ++ z :: suf) (hcn : cnoM mid = 11) (hpass : ∀ y ∈ pre, ∃ nm : String, (y.2.2.2, nm) ∈ LC ∧ (X, nm) ∈ NC) (hz1 : (decide (z.1 ≤ pc) && decide (pc < z.2.1)) = true) (hzl : (z.2.2.2, X) ∈ LC)
    (k : ∀ q, WG l E R mid args XX QF (z.2.2.1, ls, [vR (some q)], σ, cs, sl)) : XT l E R mid args XX QF X (pc, ls, st, σ, cs, sl) := by
  intro ok p e s m below meth c H locs arr q ce hX F hR hS hl h1 h2 h3
  obtain ⟨hx, hb, hml, hret, hown, hts, hlocks, hnm, hK, hz, hZ, htab⟩ := id F
  have hown' : s.vm.findClass "ObjectDriverLaw" = some m.cls := by
    have h9 := hown
    rw [ok.1, hcn] at h9
    exact h9
  obtain ⟨w1, w2, w3⟩ := LC_w _ hzl
  refine vx_catch (own := "ObjectDriverLaw") (name := X) (E := X) hown' (tableOf pre) ⟨z.1, z.2.1, z.2.2.1, z.2.2.2⟩ (tableOf suf) (by rw [htab, hsp]; simp [tableOf]) (fun y hy => Or.inr ?_) hz1 w3 (hts _ w1) (va_Nw.use rfl (hZ.2.1 _ w2)) h1 h2 h3 (k q ok p e s m below meth c H locs arr hX F hR hS hl)
  obtain ⟨y9, hy9, rfl⟩ := List.mem_map.mp hy
  obtain ⟨nm, n1, n2⟩ := hpass y9 hy9
  obtain ⟨v1, v2, v3⟩ := LC_w _ n1
  exact ⟨v3, nm, hts _ v1, hZ.2.2.2.2.1 _ n2⟩
theorem w_objI {idx b : Nat} {r : Option Nat} (hq : lkp pc (insL mid) = some (.invokespecial idx, len, tgt)) (hlk : Cond.methodLink (RCn (cnoM mid)) idx Lib.objectInit ∈ GW) (hr : r = some b) (hw : wt8 st = true) (hfr : 1 ≤ R.frames) (hlo : 20 ≤ R.locals) (kk : WG l E R mid args XX QF (pc + 3, ls, st, σ, cs, sl)) : WG l E R mid args XX QF (pc, ls, vR r :: st, σ, cs, sl) := by
  intro ok p e s m below meth c H locs arr hX F hR hS hl
  obtain ⟨hx, hb, hml, hret, hown, hts, hlocks, hnm, hK, hz, hZ, htab⟩ := id F
  obtain ⟨hd, hlen, hoff⟩ := ok.at hq
  cases hlen rfl
  subst hr
  have hown' : s.vm.findClass (RCn (cnoM mid)) = some m.cls := by rw [ok.1] at hown; exact hown
  exact W.objInit hx hb hown' (hts _ hlk) (hts _ (gwm (List.mem_of_getElem? (i := 32) (by decide +kernel)) rfl)) (hts _ (gwm (List.mem_of_getElem? (i := 33) rfl) rfl)) rfl (by rw [hml]; exact hl.1) rfl hd hfr (by show 2 * 0 + ((st.map toV).map fun v => v.category).sum + 12 ≤ R.locals; have := wt8_V hw; omega) (kk ok p e s m below meth c H locs arr hX F hR hS hl)
theorem w_max {idx : Nat} {x y : Int32} (hq : lkp pc (insL mid) = some (.invokestatic idx, len, tgt)) (hlk : Cond.methodLink (RCn (cnoM mid)) idx Lib.Math.max.name ∈ GW) (hw : wt8 st = true) (hfr : 1 ≤ R.frames) (hlo : 21 ≤ R.locals) (hc : cs ≤ R.cells) (hs : sl ≤ R.slots) (kk : WG l E R mid args XX QF (pc + 3, ls, vI (if x < y then y else x) :: st, σ, cs, sl)) : WG l E R mid args XX QF (pc, ls, vI y :: vI x :: st, σ, cs, sl) := by
  intro ok p e s m below meth c H locs arr hX F hR hS hl
  obtain ⟨hx, hb, hml, hret, hown, hts, hlocks, hnm, hK, hz, hZ, htab⟩ := id F
  obtain ⟨hd, hlen, hoff⟩ := ok.at hq
  cases hlen rfl
  have hown' : s.vm.findClass (RCn (cnoM mid)) = some m.cls := by rw [ok.1] at hown; exact hown
  have hw8 := wt8_V hw
  exact va_mmax hx hb (by rw [hml]; exact hl.1.symm) hown' (hts _ hlk) (hts _ (gwm (List.mem_of_getElem? (i := 390) (by decide +kernel)) rfl)) (hts _ (gwm (List.mem_of_getElem? (i := 19) (by decide +kernel)) rfl)) (hts _ (gwm (List.mem_of_getElem? (i := 391) (by decide +kernel)) rfl)) hfr (by omega) hc hs hd (kk ok p e s m below meth c H locs arr hX F hR hS hl)
theorem w_tsIn {dflt lo hi : Int} {offs : Array Int} {x : Int32} {off : Int} {t : Nat} (hq : lkp pc (insL mid) = some (.tableswitch dflt lo hi offs, len, tgt)) (h1 : ¬ x.toInt < lo) (h2 : ¬ hi < x.toInt) (ho : offs[(x.toInt - lo).toNat]? = some off) (ht : (pc : Int) + off = (t : Int)) (k : WG l E R mid args XX QF (t, ls, st, σ, cs, sl)) : WG l E R mid args XX QF (pc, ls, vI x :: st, σ, cs, sl) := by
  intro ok p e s m below meth c H locs arr hX F hR hS hl
  obtain ⟨hx, hb, hml, hret, hown, hts, hlocks, hnm, hK, hz, hZ, htab⟩ := id F
  obtain ⟨hd, -, -⟩ := ok.at hq
  exact lv_tableIn hx hb hd h1 h2 ho ht (k ok p e s m below meth c H locs arr hX F hR hS hl)
theorem w_tsOut {dflt lo hi : Int} {offs : Array Int} {x : Int32} {t : Nat} (hq : lkp pc (insL mid) = some (.tableswitch dflt lo hi offs, len, tgt)) (h : x.toInt < lo ∨ hi < x.toInt) (ht : (pc : Int) + dflt = (t : Int)) (k : WG l E R mid args XX QF (t, ls, st, σ, cs, sl)) : WG l E R mid args XX QF (pc, ls, vI x :: st, σ, cs, sl) := by
  intro ok p e s m below meth c H locs arr hX F hR hS hl
  obtain ⟨hx, hb, hml, hret, hown, hts, hlocks, hnm, hK, hz, hZ, htab⟩ := id F
  obtain ⟨hd, -, -⟩ := ok.at hq
  exact lv_tableOut hx hb hd h ht (k ok p e s m below meth c H locs arr hX F hR hS hl)
theorem w_lsw {dflt : Int} {ps : Array (Int × Int)} {x : Int32} {off : Int} {t : Nat} (hq : lkp pc (insL mid) = some (.lookupswitch dflt ps, len, tgt)) (hp : (ps.toList.zip (ps.toList.drop 1)).all (fun (a, next) => a.1 < next.1) = true) (ho : Op.lookupswitch.offset ps.toList dflt x.toInt = off) (ht : (pc : Int) + off = (t : Int)) (k : WG l E R mid args XX QF (t, ls, st, σ, cs, sl)) : WG l E R mid args XX QF (pc, ls, vI x :: st, σ, cs, sl) := by
  intro ok p e s m below meth c H locs arr hX F hR hS hl
  obtain ⟨hx, hb, hml, hret, hown, hts, hlocks, hnm, hK, hz, hZ, htab⟩ := id F
  obtain ⟨hd, -, -⟩ := ok.at hq
  exact lv_lookup hx hb hd hp ho ht (k ok p e s m below meth c H locs arr hX F hR hS hl)
end CC
