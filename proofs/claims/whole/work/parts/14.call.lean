/-! calls, returns, exceptions -/
def dOKm (y : MethodName) (n : Nat) : Prop := y.cls ≠ "java/lang/invoke/MethodHandle" ∧ y.cls ≠ "java/lang/invoke/VarHandle" ∧ (parseMethodDescriptor y.desc).map (fun d => d.parameters.length) = some n
def MLV (c idx mid n : Nat) : Prop := Cond.methodLink (RCn c) idx (mY mid) ∈ GW ∧ Cond.instanceMethod (mY mid) ∈ GW ∧ Cond.selects (mY mid).cls (mY mid) (mY mid) ∈ GW ∧ Cond.initialized (mY mid).cls ∈ GW ∧ Cond.code (mY mid) (mB mid) (mL mid) (mR mid) ∈ GW ∧ dOKm (mY mid) n ∧ mW mid = .code (mY mid) (mB mid) (mL mid) (mR mid)
def MLS (c idx mid n : Nat) : Prop := Cond.methodLink (RCn c) idx (mY mid) ∈ GW ∧ Cond.static (mY mid) ∈ GW ∧ Cond.initialized (RCn c) ∈ GW ∧ Cond.code (mY mid) (mB mid) (mL mid) (mR mid) ∈ GW ∧ dOKm (mY mid) n ∧ mW mid = .code (mY mid) (mB mid) (mL mid) (mR mid) ∧ (mY mid).cls = RCn c
def MLT (c idx mid n : Nat) : Prop := Cond.methodLink (RCn c) idx (mY mid) ∈ GW ∧ Cond.static (mY mid) ∈ GW ∧ Cond.initialized (mY mid).cls ∈ GW ∧ Cond.code (mY mid) (mB mid) (mL mid) (mR mid) ∈ GW ∧ dOKm (mY mid) n ∧ mW mid = .code (mY mid) (mB mid) (mL mid) (mR mid)
def MLI (c idx mid n : Nat) : Prop := Cond.methodLink (RCn c) idx (mY mid) ∈ GW ∧ Cond.instanceMethod (mY mid) ∈ GW ∧ Cond.initialized (mY mid).cls ∈ GW ∧ Cond.code (mY mid) (mB mid) (mL mid) none ∈ GW ∧ dOKm (mY mid) n ∧ mW mid = .code (mY mid) (mB mid) (mL mid) none ∧ (mY mid).name = "<init>"
def MLN (c idx mid n : Nat) : Prop := (RCn c, idx, mY mid) ∈ NL ∧ Cond.instanceMethod (mY mid) ∈ GW ∧ Cond.initialized (mY mid).cls ∈ GW ∧ Cond.code (mY mid) (mB mid) (mL mid) none ∈ GW ∧ dOKm (mY mid) n ∧ mW mid = .code (mY mid) (mB mid) (mL mid) none ∧ (mY mid).name = "<init>"
theorem gw_in {w : Cond} (h : w ∈ GW) : GoodIn GW (w :: GW) := fun u hu => by
  rcases List.mem_cons.mp hu with rfl | hu
  · exact ⟨h, good_of_word (gw_good _ h)⟩
  · exact ⟨hu, good_of_word (gw_good _ hu)⟩
theorem gw_pre {a b c d : Cond} {ws : List Cond} (ha : a ∈ GW) (hb : b ∈ GW) (hc : c ∈ GW) (hd : d ∈ GW) (h : GoodIn GW ws) : GoodIn GW ([a, b, c, d] ++ ws) := fun u hu => by
  rcases List.mem_append.mp hu with hu | hu
  · have hm : u ∈ GW := by
      rcases List.mem_cons.mp hu with rfl | hu
      · exact ha
      rcases List.mem_cons.mp hu with rfl | hu
      · exact hb
      rcases List.mem_cons.mp hu with rfl | hu
      · exact hc
      rcases List.mem_cons.mp hu with rfl | hu
      · exact hd
      cases hu
    exact ⟨hm, good_of_word (gw_good _ hm)⟩
  · exact h u hu
theorem gw_pre3 {a b c : Cond} {ws : List Cond} (ha : a ∈ GW) (hb : b ∈ GW) (hc : c ∈ GW) (h : GoodIn GW ws) : GoodIn GW ([a, b, c] ++ ws) := fun u hu => by
  rcases List.mem_append.mp hu with hu | hu
  · have hm : u ∈ GW := by
      rcases List.mem_cons.mp hu with rfl | hu
      · exact ha
      rcases List.mem_cons.mp hu with rfl | hu
      · exact hb
      rcases List.mem_cons.mp hu with rfl | hu
      · exact hc
      cases hu
    exact ⟨hm, good_of_word (gw_good _ hm)⟩
  · exact h u hu
theorem CT.met {l : Launch} {E : FE} {d mid : Nat} {av : List MV} {σ : Sg} {mc ms : Nat} {Qr : Option MV → Sg → Prop} (h : CT l E d mid av σ mc ms Qr (fun _ _ => False)) : Met l (mY mid) (wsM mid) (RM d mc ms) (va_Pc (av.map toV) (fS E σ)) (Qc E Qr) mc ms (fA E) := by
  refine MetFree.mono h (fun _ _ h => h) (fun _ _ _ _ _ h => h) ?_
  rintro a st o t - (h | ⟨q, -, X, ce, L, ⟨⟨σ', hf, -⟩, -⟩, -⟩)
  · exact h
  · exact hf.elim
/-- q of the type named X is thrown over the frame -/
def XT (l : Launch) (E : FE) (R : Room) (mid : Nat) (args : Array Value) (XX : State → Prop) (QF : State → List Frame → State → Prop) (X : String) (S : MS) : Prop :=
  mOK mid → ∀ (p : Program) (e : Env) (s : State) (m : MethodId) (below : List Frame) (meth : Method) (c : Code) (H : Heap) (locs : List Loc) (arr : Array Slot) (q : Addr) (ce : Cell),
    XX s → fW p s m args meth c mid E → HR E S.2.2.2.1 H → va_S (fA E) s.heap H locs → lv_has arr (mL mid) (lsV S.2.1) → H[q]? = some ce → ce.vm = .none → s.vm.findClass X = some ce.cls →
    vx_W p l e R s m args below meth c H locs S.2.2.2.2.1 S.2.2.2.2.2 (QF s below) (F0 m S.1 arr (S.2.2.1.map toV)) q
section CA
variable {p : Program} {l : Launch} {e : Env} {R : Room} {s : State} {m : MethodId} {args : Array Value} {below : List Frame} {meth : Method} {c : Code} {H : Heap} {locs : List Loc} {cells slots : Nat} {Q : State → Prop}
variable {pc : Nat} {ls : Array Slot} {rest st0 : List Value} {a : Array Value} {H0 : Heap} {mc ms : Nat} {E : FE} {Qr : Option MV → Sg → Prop} {Qt : String → Sg → Prop}
theorem fx_call (hr : vx_Run p l e R s m args below meth c H locs cells slots mc ms (F0 m pc ls st0) rest (Qc E Qr a) (Xc E Qt) (fA E)) (hS : va_S (fA E) H0 H locs)
    (kx : ∀ (X : String) (ce : Cell) (q9 : Addr) (σ : Sg) (H1 : Heap) (locs1 : List Loc), Qt X σ → HR E σ H1 → va_S (fA E) H0 H1 locs1 → H1[q9]? = some ce → ce.vm = .none → s.vm.findClass X = some ce.cls → vx_W p l e R s m args below meth c H1 locs1 (cells + mc) (slots + ms) Q (F0 m pc ls rest) q9)
    (kk : ∀ (r : Option MV) (σ : Sg) (H1 : Heap) (locs1 : List Loc), Qr r σ → HR E σ H1 → va_S (fA E) H0 H1 locs1 → W p l e R s m args below meth c H1 locs1 (cells + mc) (slots + ms) Q (F0 m (pc + 3) ls ((r.map toV).toList ++ rest))) : W p l e R s m args below meth c H locs cells slots Q (F0 m pc ls st0) := by
  intro T hT X
  rcases hr T hT X with ⟨v, st₀, t, T', L, h0, X', hL, e1, e2, ⟨⟨r, σ, hv, hp, hb⟩, hF⟩, st⟩ | ⟨q, st₀, t, T', L, X9, ce, h0, X', hL, e1, e2, ⟨⟨σ, hp, hb⟩, hF⟩, hce, hcv, hcl, st⟩
  · cases hv
    obtain ⟨k1, k2, k3⟩ := vx_keep (A0 := fA E) (A1 := fA E) h0 e1 hS (fun _ _ h => h) (fun _ h => h) hL hF
    obtain ⟨t2, a1, b1⟩ := kk r σ T'.heap (locs ++ L) hp (by rw [e1]; exact hb) k3 T' rfl X'
    exact ⟨t2, st t2 a1, b1⟩
  · obtain ⟨k1, k2, k3⟩ := vx_keep (A0 := fA E) (A1 := fA E) h0 e1 hS (fun _ _ h => h) (fun _ h => h) hL hF
    obtain ⟨t2, a1, b1⟩ := kx X9 ce q σ T'.heap (locs ++ L) hp (by rw [e1]; exact hb) k3 (by rw [e1]; exact hce) hcv hcl T' rfl X'
    exact ⟨t2, st.trans a1, b1⟩
theorem fv_call (hr : va_Run p l e R s m args below meth c H locs cells slots mc ms (F0 m pc ls st0) rest (Qc E Qr a) (fA E)) (hS : va_S (fA E) H0 H locs)
    (kk : ∀ (r : Option MV) (σ : Sg) (H1 : Heap) (locs1 : List Loc), Qr r σ → HR E σ H1 → va_S (fA E) H0 H1 locs1 → W p l e R s m args below meth c H1 locs1 (cells + mc) (slots + ms) Q (F0 m (pc + 3) ls ((r.map toV).toList ++ rest))) : W p l e R s m args below meth c H locs cells slots Q (F0 m pc ls st0) := by
  intro T hT X
  obtain ⟨v, st₀, t, T', L, h0, X', hL, e1, e2, ⟨⟨r, σ, hv, hp, hb⟩, hF⟩, st⟩ := hr T hT X
  cases hv
  obtain ⟨k1, k2, k3⟩ := vx_keep (A0 := fA E) (A1 := fA E) h0 e1 hS (fun _ _ h => h) (fun _ h => h) hL hF
  obtain ⟨t2, a1, b1⟩ := kk r σ T'.heap (locs ++ L) hp (by rw [e1]; exact hb) k3 T' rfl X'
  exact ⟨t2, st t2 a1, b1⟩
end CA
/-- what lies below the arguments of a call weighs little -/
def wt8 (st : List MV) : Bool := decide ((st.map (fun v => if isL v then 2 else 1)).sum ≤ 8)
theorem wt8_V {st : List MV} (h : wt8 st = true) : ((st.map toV).map fun v => v.category).sum ≤ 8 := by
  have e : ∀ st : List MV, ((st.map toV).map fun v => v.category).sum = (st.map (fun v => if isL v then 2 else 1)).sum := by
    intro st
    induction st with
    | nil => rfl
    | cons v st ih =>
      simp only [List.map_cons, List.sum_cons, ih]
      congr 1
      rcases v with x | r | x
      · rfl
      · cases r <;> rfl
      · rfl
  rw [e]
  exact of_decide_eq_true h
theorem opt_V (r : Option MV) (st : List MV) : (r.map toV).toList ++ st.map toV = (r.toList ++ st).map toV := by cases r <;> rfl
section CB
variable {l : Launch} {E : FE} {R : Room} {mid : Nat} {args : Array Value} {XX : State → Prop} {QF : State → List Frame → State → Prop}
variable {pc len tgt : Nat} {ls : List (Nat × MV)} {st : List MV} {σ : Sg} {cs sl : Nat}
theorem w_callV {idx mid' n b kb ci d mc ms : Nat} {r : Option Nat} {q : vw_C} {ds : List (Option Nat)} {Qr : Option MV → Sg → Prop} {Qt : String → Sg → Prop} (as : List MV) (hq : lkp pc (insL mid) = some (.invokevirtual idx, len, tgt)) (ML : MLV (cnoM mid) idx mid' n) (hn : as.length = n) (hr : r = some b) (hkb : σ.2.2.2 b = kb) (hds : fdT kb = some (ci, ds)) (hcl : vwCl[ci]? = some q) (hC : q.1 = (mY mid').cls) (hfr : d + 1 ≤ R.frames) (hlo : 8 + (mL mid' + 11) + (30 * d + 121) ≤ R.locals) (hw : wt8 st = true) (hc : cs + mc ≤ R.cells) (hs : sl + ms ≤ R.slots) (con : CT l E d mid' (vR r :: as) σ mc ms Qr Qt)
    (kx : ∀ X σ', Qt X σ' → XT l E R mid args XX QF X (pc, ls, st, σ', cs + mc, sl + ms))
    (kk : ∀ r' σ', Qr r' σ' → WG l E R mid args XX QF (pc + 3, ls, r'.toList ++ st, σ', cs + mc, sl + ms)) : WG l E R mid args XX QF (pc, ls, as.reverse ++ vR r :: st, σ, cs, sl) := by
  intro ok p e s m below meth c H locs arr hX F hR hS hl
  obtain ⟨hx, hb, hml, hret, hown, hts, hlocks, hnm, hK, hz, hZ, htab⟩ := id F
  obtain ⟨hd, hlen, hoff⟩ := ok.at hq
  cases hlen rfl
  subst hr
  obtain ⟨w1, w2, w3, w4, w5, w6, w7⟩ := ML
  have hown' : s.vm.findClass (RCn (cnoM mid)) = some m.cls := by rw [ok.1] at hown; exact hown
  have hstk : (as.reverse ++ vR (some b) :: st).map toV = (as.map toV).reverse ++ .ref b :: st.map toV := by rw [List.map_append, List.map_reverse]; rfl
  show W p l e R s m args below meth c H locs cs sl (QF s below) (F0 m pc arr ((as.reverse ++ vR (some b) :: st).map toV))
  rw [hstk]
  refine fx_call (vx_runV (As := as.map toV) (rest := st.map toV) (b := b) ⟨hx, hb, hml, hown', hts⟩ con (cwV (C := (mY mid').cls) (ws' := GW) n hts (gw_pre w1 w2 w3 w4 (show GoodIn GW (wsM mid') by unfold wsM; rw [w7]; exact gw_in w5)) (by unfold wsM; rw [w7]) rfl rfl ⟨rfl, w6⟩ ⟨hfr, hlo⟩) ⟨fS.blind, ?_, fun U hU hW => ⟨rfl, fS.mk hR hK hS hz hZ hU hW⟩⟩ rfl (by rw [List.length_map]; exact hn) hl.1 rfl (lv_room (wt8_V hw)) hd ⟨hc, hs⟩) hS (fun X ce q9 σ' H1 locs1 hQ hR1 hS1 h1 h2 h3 => ?_) (fun r' σ' H1 locs1 hQ hR1 hS1 => ?_)
  · rw [← hC]
    exact va_recv (q0 := 0) hK (hR.one hkb (fd0 hds) (cellK_obj hds)) hcl rfl
  · exact kx X σ' hQ ok p e s m below meth c H1 locs1 arr q9 ce hX F hR1 hS1 hl h1 h2 h3
  · rw [opt_V]
    exact kk r' σ' hQ ok p e s m below meth c H1 locs1 arr hX F hR1 hS1 hl
theorem w_callS {idx mid' n d mc ms : Nat} {Qr : Option MV → Sg → Prop} {Qt : String → Sg → Prop} (as : List MV) (hq : lkp pc (insL mid) = some (.invokestatic idx, len, tgt)) (ML : MLS (cnoM mid) idx mid' n) (hn : as.length = n) (hfr : d + 1 ≤ R.frames) (hlo : 8 + (mL mid' + 11) + (30 * d + 121) ≤ R.locals) (hw : wt8 st = true) (hc : cs + mc ≤ R.cells) (hs : sl + ms ≤ R.slots) (con : CT l E d mid' as σ mc ms Qr Qt)
    (kx : ∀ X σ', Qt X σ' → XT l E R mid args XX QF X (pc, ls, st, σ', cs + mc, sl + ms))
    (kk : ∀ r' σ', Qr r' σ' → WG l E R mid args XX QF (pc + 3, ls, r'.toList ++ st, σ', cs + mc, sl + ms)) : WG l E R mid args XX QF (pc, ls, as.reverse ++ st, σ, cs, sl) := by
  intro ok p e s m below meth c H locs arr hX F hR hS hl
  obtain ⟨hx, hb, hml, hret, hown, hts, hlocks, hnm, hK, hz, hZ, htab⟩ := id F
  obtain ⟨hd, hlen, hoff⟩ := ok.at hq
  cases hlen rfl
  obtain ⟨w1, w2, w4, w5, w6, w7, w8⟩ := ML
  have hown' : s.vm.findClass (RCn (cnoM mid)) = some m.cls := by rw [ok.1] at hown; exact hown
  have hstk : (as.reverse ++ st).map toV = (as.map toV).reverse ++ st.map toV := by rw [List.map_append, List.map_reverse]
  show W p l e R s m args below meth c H locs cs sl (QF s below) (F0 m pc arr ((as.reverse ++ st).map toV))
  rw [hstk]
  refine fx_call (vx_runS (As := as.map toV) (rest := st.map toV) ⟨hx, hb, hml, hown', hts⟩ con (cwS (ws' := GW) n hts (gw_pre3 w1 w2 w4 (show GoodIn GW (wsM mid') by unfold wsM; rw [w7]; exact gw_in w5)) (by unfold wsM; rw [w7]) rfl rfl ⟨w8, w6⟩ ⟨hfr, hlo⟩) ⟨fS.blind, fun U hU hW => ⟨rfl, fS.mk hR hK hS hz hZ hU hW⟩⟩ rfl (by rw [List.length_map]; exact hn) hl.1 rfl (lv_room (wt8_V hw)) hd ⟨hc, hs⟩) hS (fun X ce q9 σ' H1 locs1 hQ hR1 hS1 h1 h2 h3 => ?_) (fun r' σ' H1 locs1 hQ hR1 hS1 => ?_)
  · exact kx X σ' hQ ok p e s m below meth c H1 locs1 arr q9 ce hX F hR1 hS1 hl h1 h2 h3
  · rw [opt_V]
    exact kk r' σ' hQ ok p e s m below meth c H1 locs1 arr hX F hR1 hS1 hl
theorem w_callT {idx mid' n d mc ms : Nat} {Qr : Option MV → Sg → Prop} {Qt : String → Sg → Prop} (as : List MV) (hq : lkp pc (insL mid) = some (.invokestatic idx, len, tgt)) (ML : MLT (cnoM mid) idx mid' n) (hn : as.length = n) (hfr : d + 1 ≤ R.frames) (hlo : 8 + (mL mid' + 11) + (30 * d + 121) ≤ R.locals) (hw : wt8 st = true) (hc : cs + mc ≤ R.cells) (hs : sl + ms ≤ R.slots) (con : CT l E d mid' as σ mc ms Qr Qt)
    (kx : ∀ X σ', Qt X σ' → XT l E R mid args XX QF X (pc, ls, st, σ', cs + mc, sl + ms))
    (kk : ∀ r' σ', Qr r' σ' → WG l E R mid args XX QF (pc + 3, ls, r'.toList ++ st, σ', cs + mc, sl + ms)) : WG l E R mid args XX QF (pc, ls, as.reverse ++ st, σ, cs, sl) := by
  intro ok p e s m below meth c H locs arr hX F hR hS hl
  obtain ⟨hx, hb, hml, hret, hown, hts, hlocks, hnm, hK, hz, hZ, htab⟩ := id F
  obtain ⟨hd, hlen, hoff⟩ := ok.at hq
  cases hlen rfl
  obtain ⟨w1, w2, w4, w5, w6, w7⟩ := ML
  have hown' : s.vm.findClass (RCn (cnoM mid)) = some m.cls := by rw [ok.1] at hown; exact hown
  have hstk : (as.reverse ++ st).map toV = (as.map toV).reverse ++ st.map toV := by rw [List.map_append, List.map_reverse]
  show W p l e R s m args below meth c H locs cs sl (QF s below) (F0 m pc arr ((as.reverse ++ st).map toV))
  rw [hstk]
  refine fx_call (vx_runS (As := as.map toV) (rest := st.map toV) ⟨hx, hb, hml, hown', hts⟩ con (va_cwS (ws' := GW) n hts (gw_pre3 w1 w2 w4 (show GoodIn GW (wsM mid') by unfold wsM; rw [w7]; exact gw_in w5)) (by unfold wsM; rw [w7]) rfl rfl w6 ⟨hfr, hlo⟩) ⟨fS.blind, fun U hU hW => ⟨rfl, fS.mk hR hK hS hz hZ hU hW⟩⟩ rfl (by rw [List.length_map]; exact hn) hl.1 rfl (lv_room (wt8_V hw)) hd ⟨hc, hs⟩) hS (fun X ce q9 σ' H1 locs1 hQ hR1 hS1 h1 h2 h3 => ?_) (fun r' σ' H1 locs1 hQ hR1 hS1 => ?_)
  · exact kx X σ' hQ ok p e s m below meth c H1 locs1 arr q9 ce hX F hR1 hS1 hl h1 h2 h3
  · rw [opt_V]
    exact kk r' σ' hQ ok p e s m below meth c H1 locs1 arr hX F hR1 hS1 hl
theorem w_callI {idx mid' n b d mc ms : Nat} {r : Option Nat} {Qr : Option MV → Sg → Prop} (as : List MV) (hq : lkp pc (insL mid) = some (.invokespecial idx, len, tgt)) (ML : MLI (cnoM mid) idx mid' n) (hn : as.length = n) (hr : r = some b) (hfr : d + 1 ≤ R.frames) (hlo : 8 + (mL mid' + 11) + (30 * d + 121) ≤ R.locals) (hw : wt8 st = true) (hc : cs + mc ≤ R.cells) (hs : sl + ms ≤ R.slots) (con : CT l E d mid' (vR r :: as) σ mc ms Qr (fun _ _ => False))
    (kk : ∀ r' σ', Qr r' σ' → WG l E R mid args XX QF (pc + 3, ls, r'.toList ++ st, σ', cs + mc, sl + ms)) : WG l E R mid args XX QF (pc, ls, as.reverse ++ vR r :: st, σ, cs, sl) := by
  intro ok p e s m below meth c H locs arr hX F hR hS hl
  obtain ⟨hx, hb, hml, hret, hown, hts, hlocks, hnm, hK, hz, hZ, htab⟩ := id F
  obtain ⟨hd, hlen, hoff⟩ := ok.at hq
  cases hlen rfl
  subst hr
  obtain ⟨w1, w2, w4, w5, w6, w7, w8⟩ := ML
  have hown' : s.vm.findClass (RCn (cnoM mid)) = some m.cls := by rw [ok.1] at hown; exact hown
  have hstk : (as.reverse ++ vR (some b) :: st).map toV = (as.map toV).reverse ++ .ref b :: st.map toV := by rw [List.map_append, List.map_reverse]; rfl
  show W p l e R s m args below meth c H locs cs sl (QF s below) (F0 m pc arr ((as.reverse ++ vR (some b) :: st).map toV))
  rw [hstk]
  refine fv_call (va_runI (As := as.map toV) (rest := st.map toV) (b := b) ⟨hx, hb, hml, hown', hts⟩ con.met (cwI (ws' := GW) n hts (show GoodIn GW (wsM mid') by unfold wsM; rw [w7]; exact gw_in w5) (by unfold wsM; rw [w7]) rfl rfl (hts _ w4) (hts _ w1) (hts _ w2) w8 w6 ⟨hfr, hlo⟩) ⟨fS.blind, fun U hU hW => ⟨rfl, fS.mk hR hK hS hz hZ hU hW⟩⟩ rfl (by rw [List.length_map]; exact hn) hl.1 rfl (lv_room (wt8_V hw)) hd ⟨hc, hs⟩) hS (fun r' σ' H1 locs1 hQ hR1 hS1 => ?_)
  rw [opt_V]
  exact kk r' σ' hQ ok p e s m below meth c H1 locs1 arr hX F hR1 hS1 hl
theorem w_callN {idx mid' n b d mc ms : Nat} {r : Option Nat} {Qr : Option MV → Sg → Prop} (as : List MV) (hq : lkp pc (insL mid) = some (.invokespecial idx, len, tgt)) (ML : MLN (cnoM mid) idx mid' n) (hn : as.length = n) (hr : r = some b) (hfr : d + 1 ≤ R.frames) (hlo : 8 + (mL mid' + 11) + (30 * d + 121) ≤ R.locals) (hw : wt8 st = true) (hc : cs + mc ≤ R.cells) (hs : sl + ms ≤ R.slots) (con : CT l E d mid' (vR r :: as) σ mc ms Qr (fun _ _ => False))
    (kk : ∀ r' σ', Qr r' σ' → WG l E R mid args XX QF (pc + 3, ls, r'.toList ++ st, σ', cs + mc, sl + ms)) : WG l E R mid args XX QF (pc, ls, as.reverse ++ vR r :: st, σ, cs, sl) := by
  intro ok p e s m below meth c H locs arr hX F hR hS hl
  obtain ⟨hx, hb, hml, hret, hown, hts, hlocks, hnm, hK, hz, hZ, htab⟩ := id F
  obtain ⟨hd, hlen, hoff⟩ := ok.at hq
  cases hlen rfl
  subst hr
  obtain ⟨w1, w2, w4, w5, w6, w7, w8⟩ := ML
  have hown' : s.vm.findClass (RCn (cnoM mid)) = some m.cls := by rw [ok.1] at hown; exact hown
  have hstk : (as.reverse ++ vR (some b) :: st).map toV = (as.map toV).reverse ++ .ref b :: st.map toV := by rw [List.map_append, List.map_reverse]; rfl
  show W p l e R s m args below meth c H locs cs sl (QF s below) (F0 m pc arr ((as.reverse ++ vR (some b) :: st).map toV))
  rw [hstk]
  have hn9 : va_Nw (.methodLinkNest (RCn (cnoM mid)) idx (mY mid') "ObjectDriver") s := hZ.2.2.1 (RCn (cnoM mid), idx, mY mid') w1
  have hg9 : GoodIn GW (wsM mid') := by unfold wsM; rw [w7]; exact gw_in w5
  have hw9 : wsM mid' = .code (mY mid') (mB mid') (mL mid') none :: GW := by unfold wsM; rw [w7]
  have cn9 : va_CN R s args (RCn (cnoM mid)) idx (mY mid') "ObjectDriver" (mB mid') (mL mid') none (wsM mid') (RM d mc ms) mc ms n := va_cnB n hts hg9 hw9 rfl rfl hn9 (hts _ w4) w6 ⟨hfr, hlo⟩
  have hi9 : (Cond.instanceMethod (mY mid')).before args s = true := hts _ w2
  have cm9 := con.met
  refine fv_call (va_runIN (own := RCn (cnoM mid)) (y := mY mid') (host := "ObjectDriver") (As := as.map toV) (rest := st.map toV) (b := b) ⟨hx, hb, hml, hown', hts⟩ cm9 ⟨cn9, w8, hi9⟩ ⟨fS.blind, fun U hU hW => ⟨rfl, fS.mk hR hK hS hz hZ hU hW⟩⟩ rfl (by rw [List.length_map]; exact hn) hl.1 rfl (lv_room (wt8_V hw)) hd ⟨hc, hs⟩) hS (fun r' σ' H1 locs1 hQ hR1 hS1 => ?_)
  rw [opt_V]
  exact kk r' σ' hQ ok p e s m below meth c H1 locs1 arr hX F hR1 hS1 hl
end CB
section CR
variable {l : Launch} {E : FE} {d mid : Nat} {av : List MV} {mc ms : Nat} {Qr : Option MV → Sg → Prop} {Qt : String → Sg → Prop}
variable {pc len tgt : Nat} {ls : List (Nat × MV)} {σ : Sg} {cs sl : Nat}
theorem w_iret {x : Int32} (hq : lkp pc (insL mid) = some (.ireturn, len, tgt)) (hr : mR mid = some .int ∨ (mR mid = some .boolean ∧ (x = 0 ∨ x = 1))) (hc : cs ≤ mc) (hs : sl ≤ ms) (h : Qr (some (vI x)) σ) : WP l E d mid av mc ms Qr Qt (pc, ls, [vI x], σ, cs, sl) := by
  intro ok p e s m below meth c H locs arr hX F hR hS hl
  obtain ⟨hx, hb, hml, hret, hown, hts, hlocks, hnm, hK, hz, hZ, htab⟩ := id F
  obtain ⟨hd, hlen, hoff⟩ := ok.at hq
  cases hlen rfl
  refine vx_ret (W.widen (k := mc) (n := ms) hc hs ?_)
  rcases hr with h1 | ⟨h1, h2⟩
  · exact W.iret (v := x) hx hb (by rw [hret, h1]) (fun t ht hW => ⟨⟨some (vI x), σ, rfl, h, by rw [ht]; exact hR⟩, hS.F ht⟩) hS.2.2 hd
  · exact W.zret (v := x) (ty := .boolean) hx hb (by rw [hret, h1]) (by rcases h2 with rfl | rfl <;> decide) (fun t ht hW => ⟨⟨some (vI x), σ, rfl, h, by rw [ht]; exact hR⟩, hS.F ht⟩) hS.2.2 hd
theorem w_aret {x : Option Nat} {rt : FieldType} (hq : lkp pc (insL mid) = some (.areturn, len, tgt)) (hr : mR mid = some rt) (hrt : (∃ n, rt = .object n) ∨ ∃ t, rt = .array t) (hc : cs ≤ mc) (hs : sl ≤ ms) (h : Qr (some (vR x)) σ) : WP l E d mid av mc ms Qr Qt (pc, ls, [vR x], σ, cs, sl) := by
  intro ok p e s m below meth c H locs arr hX F hR hS hl
  obtain ⟨hx, hb, hml, hret, hown, hts, hlocks, hnm, hK, hz, hZ, htab⟩ := id F
  obtain ⟨hd, hlen, hoff⟩ := ok.at hq
  cases hlen rfl
  refine vx_ret (W.widen (k := mc) (n := ms) hc hs ?_)
  exact W.aret (v := va_rf x) hx hb (by rw [hret, hr]) hrt (va_rf_or x) (fun t ht hW => ⟨⟨some (vR x), σ, rfl, h, by rw [ht]; exact hR⟩, hS.F ht⟩) hS.2.2 hd
theorem w_vret (hq : lkp pc (insL mid) = some (.return_, len, tgt)) (hr : mR mid = none) (hc : cs ≤ mc) (hs : sl ≤ ms) (h : Qr none σ) : WP l E d mid av mc ms Qr Qt (pc, ls, [], σ, cs, sl) := by
  intro ok p e s m below meth c H locs arr hX F hR hS hl
  obtain ⟨hx, hb, hml, hret, hown, hts, hlocks, hnm, hK, hz, hZ, htab⟩ := id F
  obtain ⟨hd, hlen, hoff⟩ := ok.at hq
  cases hlen rfl
  refine vx_ret (W.widen (k := mc) (n := ms) hc hs ?_)
  exact W.vret hx hb (by rw [hret, hr]) (fun t ht hW => ⟨⟨none, σ, rfl, h, by rw [ht]; exact hR⟩, hS.F ht⟩) hS.2.2 hd
/-- not caught in this method -/
theorem x_out {X : String} {st : List MV} (hh : mH mid = []) (hc : cs ≤ mc) (hs : sl ≤ ms) (h : Qt X σ) : XT l E (RM d mc ms) mid (av.map toV).toArray (fun _ => True) (fun s below => vx_MQ below (Qc E Qr) (Xc E Qt) (av.map toV).toArray s mc ms (fA E)) X (pc, ls, st, σ, cs, sl) := by
  intro ok p e s m below meth c H locs arr q ce hX F hR hS hl h1 h2 h3
  obtain ⟨hx, hb, hml, hret, hown, hts, hlocks, hnm, hK, hz, hZ, htab⟩ := id F
  refine vx_out (fun x hx9 => ?_) hlocks h1 h2 h3 (fun t ht hA => ⟨⟨σ, h, by rw [ht]; exact hR⟩, hS.F ht⟩) hS.2.2 hc hs
  rw [htab, hh] at hx9
  cases hx9
end CR
