/-! arrays, new cells, casts -/
theorem dfl_V {ds : List (Option Nat)} {j : Nat} : ((dfl ds).map toV)[j]? = (ds[j]?).map (fun d => match d with
  | none => Value.int 0
  | some _ => Value.null) := by
  unfold dfl
  rw [List.getElem?_map, List.getElem?_map]
  cases ds[j]? with
  | none => rfl
  | some d => cases d <;> rfl
section RA
variable {l : Launch} {E : FE} {R : Room} {mid : Nat} {args : Array Value} {XX : State → Prop} {QF : State → List Frame → State → Prop}
variable {pc len tgt : Nat} {ls : List (Nat × MV)} {st : List MV} {σ : Sg} {cs sl : Nat}
theorem w_iald {a k : Nat} {r n : Option Nat} {i : Int32} (hq : lkp pc (insL mid) = some (.iaload, len, tgt)) (ha : r = some a) (hk : σ.2.2.2 a = k) (had : adT k = some (0, n, none)) (hin : vp_in i (lenK k σ a n)) (kk : WG l E R mid args XX QF (pc + 1, ls, vI (σ.1 (10000 * k) a i.toNatClampNeg) :: st, σ, cs, sl)) : WG l E R mid args XX QF (pc, ls, vI i :: vR r :: st, σ, cs, sl) := by
  intro ok p e s m below meth c H locs arr hX F hR hS hl
  obtain ⟨hx, hb, hml, hret, hown, hts, hlocks, hnm, hK, hz, hZ, htab⟩ := id F
  obtain ⟨hd, hlen, hoff⟩ := ok.at hq
  cases hlen rfl
  subst ha
  exact f_iald hx hb hK hR hk (ad0 had) (cellK_ai had) hin hd (kk ok p e s m below meth c H locs arr hX F hR hS hl)
theorem w_zald {a k : Nat} {r n : Option Nat} {i : Int32} (hq : lkp pc (insL mid) = some (.baload, len, tgt)) (ha : r = some a) (hk : σ.2.2.2 a = k) (had : adT k = some (1, n, none)) (hin : vp_in i (lenK k σ a n)) (kk : WG l E R mid args XX QF (pc + 1, ls, vI (σ.1 (10000 * k) a i.toNatClampNeg) :: st, σ, cs, sl)) : WG l E R mid args XX QF (pc, ls, vI i :: vR r :: st, σ, cs, sl) := by
  intro ok p e s m below meth c H locs arr hX F hR hS hl
  obtain ⟨hx, hb, hml, hret, hown, hts, hlocks, hnm, hK, hz, hZ, htab⟩ := id F
  obtain ⟨hd, hlen, hoff⟩ := ok.at hq
  cases hlen rfl
  subst ha
  exact f_zald hx hb hK hR hk (ad0 had) (cellK_ai had) hin hd (kk ok p e s m below meth c H locs arr hX F hR hS hl)
theorem w_lald {a : Nat} {r : Option Nat} {i : Int32} (hq : lkp pc (insL mid) = some (.laload, len, tgt)) (ha : r = some a) (hk : σ.2.2.2 a = 90) (hin : vp_in i 1) (kk : WG l E R mid args XX QF (pc + 1, ls, vL (σ.2.2.1 a i.toNatClampNeg) :: st, σ, cs, sl)) : WG l E R mid args XX QF (pc, ls, vI i :: vR r :: st, σ, cs, sl) := by
  intro ok p e s m below meth c H locs arr hX F hR hS hl
  obtain ⟨hx, hb, hml, hret, hown, hts, hlocks, hnm, hK, hz, hZ, htab⟩ := id F
  obtain ⟨hd, hlen, hoff⟩ := ok.at hq
  cases hlen rfl
  subst ha
  exact f_lald hx hb hK hR hk (by decide) (n := 1) (f := fun x => σ.2.2.1 a x) rfl hin hd (kk ok p e s m below meth c H locs arr hX F hR hS hl)
theorem w_aald {a k t tk : Nat} {r n : Option Nat} {C : String} {i : Int32} (hq : lkp pc (insL mid) = some (.aaload, len, tgt)) (ha : r = some a) (hk : σ.2.2.2 a = k) (had : adT k = some (t, n, some tk)) (ht : (fT E)[t]? = some (fC E t, .object C)) (hin : vp_in i (lenK k σ a n)) (kk : WG l E R mid args XX QF (pc + 1, ls, vR (σ.2.1 (10000 * k + tk) a i.toNatClampNeg) :: st, σ, cs, sl)) : WG l E R mid args XX QF (pc, ls, vI i :: vR r :: st, σ, cs, sl) := by
  intro ok p e s m below meth c H locs arr hX F hR hS hl
  obtain ⟨hx, hb, hml, hret, hown, hts, hlocks, hnm, hK, hz, hZ, htab⟩ := id F
  obtain ⟨hd, hlen, hoff⟩ := ok.at hq
  cases hlen rfl
  subst ha
  exact f_aald hx hb hK hR hk (ad0 had) t (cellK_aq had) ht hin hd (kk ok p e s m below meth c H locs arr hX F hR hS hl)
theorem set_ai {k t a : Nat} {n : Option Nat} {i : Nat} {x : Int32} (hw : WF σ) (hk : σ.2.2.2 a = k) (had : adT k = some (t, n, none)) : SetAt E σ (sI σ (10000 * k) a i x) a (.inl (fC E t, lenK k σ a n, .inl (upd (fun y => σ.1 (10000 * k) a y) i x))) := by
  refine setI hw hk ?_
  rw [cellK_ai had]
  have h1 : lenK k (sI σ (10000 * k) a i x) a n = lenK k σ a n := by
    cases n with
    | some n => rfl
    | none => simp only [lenK, sI]; rw [if_neg (by omega)]
  rw [h1]
  congr 4
  funext y
  simp [sI, upd]
theorem set_aq {k t tk a : Nat} {n : Option Nat} {i : Nat} {x : Option Nat} (hw : WF σ) (hk : σ.2.2.2 a = k) (had : adT k = some (t, n, some tk)) (h100 : tk < 100) (hx : ∀ b, x = some b → tk ≠ 0 → σ.2.2.2 b = tk) : SetAt E σ (sO σ (10000 * k + tk) a i x) a (.inl (fC E t, lenK k σ a n, .inr (.inr (.inr (.inr (va_up (fun y => σ.2.1 (10000 * k + tk) a y) i x)))))) := by
  refine setO hw (fun b hb hc => ?_) hk ?_
  · have e9 : (10000 * k + tk) % 100 = tk := by omega
    rw [e9] at hc ⊢
    exact hx b hb hc
  · rw [cellK_aq had]
    have h1 : lenK k (sO σ (10000 * k + tk) a i x) a n = lenK k σ a n := by cases n <;> rfl
    rw [h1]
    congr 7
    funext y
    simp [sO, va_up]
theorem w_iast {a k : Nat} {r n : Option Nat} {i x : Int32} (hq : lkp pc (insL mid) = some (.iastore, len, tgt)) (ha : r = some a) (hk : σ.2.2.2 a = k) (had : adT k = some (0, n, none)) (hin : vp_in i (lenK k σ a n)) (kk : WG l E R mid args XX QF (pc + 1, ls, st, sI σ (10000 * k) a i.toNatClampNeg x, cs, sl)) : WG l E R mid args XX QF (pc, ls, vI x :: vI i :: vR r :: st, σ, cs, sl) := by
  intro ok p e s m below meth c H locs arr hX F hR hS hl
  obtain ⟨hx, hb, hml, hret, hown, hts, hlocks, hnm, hK, hz, hZ, htab⟩ := id F
  obtain ⟨hd, hlen, hoff⟩ := ok.at hq
  cases hlen rfl
  subst ha
  exact f_iast hx hb hK hR hS hk (ad0 had) (cellK_ai had) hin (set_ai hR.wf hk had) hd (fun H1 locs1 hR1 hS1 => kk ok p e s m below meth c H1 locs1 arr hX F hR1 hS1 hl)
theorem w_zast {a k : Nat} {r n : Option Nat} {i x : Int32} (hq : lkp pc (insL mid) = some (.bastore, len, tgt)) (ha : r = some a) (hk : σ.2.2.2 a = k) (had : adT k = some (1, n, none)) (hin : vp_in i (lenK k σ a n)) (h01 : x = 0 ∨ x = 1) (kk : WG l E R mid args XX QF (pc + 1, ls, st, sI σ (10000 * k) a i.toNatClampNeg x, cs, sl)) : WG l E R mid args XX QF (pc, ls, vI x :: vI i :: vR r :: st, σ, cs, sl) := by
  intro ok p e s m below meth c H locs arr hX F hR hS hl
  obtain ⟨hx, hb, hml, hret, hown, hts, hlocks, hnm, hK, hz, hZ, htab⟩ := id F
  obtain ⟨hd, hlen, hoff⟩ := ok.at hq
  cases hlen rfl
  subst ha
  have hv : vp_nar .boolean x = x := by rcases h01 with rfl | rfl <;> decide
  exact f_zast hx hb hK hR hS hk (ad0 had) (cellK_ai had) hin (by rw [hv]; exact set_ai hR.wf hk had) hd (fun H1 locs1 hR1 hS1 => kk ok p e s m below meth c H1 locs1 arr hX F hR1 hS1 hl)
theorem w_last {a : Nat} {r : Option Nat} {i : Int32} {x : Int64} (hq : lkp pc (insL mid) = some (.lastore, len, tgt)) (ha : r = some a) (hk : σ.2.2.2 a = 90) (hin : vp_in i 1) (kk : WG l E R mid args XX QF (pc + 1, ls, st, sJ σ a i.toNatClampNeg x, cs, sl)) : WG l E R mid args XX QF (pc, ls, vL x :: vI i :: vR r :: st, σ, cs, sl) := by
  intro ok p e s m below meth c H locs arr hX F hR hS hl
  obtain ⟨hx, hb, hml, hret, hown, hts, hlocks, hnm, hK, hz, hZ, htab⟩ := id F
  obtain ⟨hd, hlen, hoff⟩ := ok.at hq
  cases hlen rfl
  subst ha
  refine f_last hx hb hK hR hS hk (by decide) (n := 1) (f := fun x => σ.2.2.1 a x) rfl hin (setJ hR.wf hk ?_) hd (fun H1 locs1 hR1 hS1 => kk ok p e s m below meth c H1 locs1 arr hX F hR1 hS1 hl)
  have e9 : (fun y => (sJ σ a i.toNatClampNeg x).2.2.1 a y) = vp_updL (fun x => σ.2.2.1 a x) i.toNatClampNeg x := by
    funext y
    simp [sJ, vp_updL]
  show (Sum.inl (fC E 2, 1, .inr (.inl (fun y => (sJ σ a i.toNatClampNeg x).2.2.1 a y))) : va_E) = _
  rw [e9]
theorem w_aastN {a k t tk : Nat} {r n : Option Nat} {C : String} {i : Int32} (hq : lkp pc (insL mid) = some (.aastore, len, tgt)) (ha : r = some a) (hk : σ.2.2.2 a = k) (had : adT k = some (t, n, some tk)) (h100 : tk < 100) (ht : (fT E)[t]? = some (fC E t, .object C)) (hin : vp_in i (lenK k σ a n)) (kk : WG l E R mid args XX QF (pc + 1, ls, st, sO σ (10000 * k + tk) a i.toNatClampNeg none, cs, sl)) : WG l E R mid args XX QF (pc, ls, vR none :: vI i :: vR r :: st, σ, cs, sl) := by
  intro ok p e s m below meth c H locs arr hX F hR hS hl
  obtain ⟨hx, hb, hml, hret, hown, hts, hlocks, hnm, hK, hz, hZ, htab⟩ := id F
  obtain ⟨hd, hlen, hoff⟩ := ok.at hq
  cases hlen rfl
  subst ha
  exact f_aastN hx hb hK hR hS hk (ad0 had) t (cellK_aq had) ht hin (set_aq hR.wf hk had h100 (fun b h => by cases h)) hd (fun H1 locs1 hR1 hS1 => kk ok p e s m below meth c H1 locs1 arr hX F hR1 hS1 hl)
theorem w_aast {a k t tk b ci : Nat} {r n : Option Nat} {q : vw_C} {ds : List (Option Nat)} {i : Int32} {x : Option Nat} (hq : lkp pc (insL mid) = some (.aastore, len, tgt)) (ha : r = some a) (hk : σ.2.2.2 a = k) (had : adT k = some (t, n, some tk)) (h100 : tk < 100) (hxb : x = some b) (hkb : σ.2.2.2 b = tk) (hds : fdT tk = some (ci, ds)) (hcl : vwCl[ci]? = some q) (ht : (fT E)[t]? = some (fC E t, .object q.1)) (hin : vp_in i (lenK k σ a n)) (kk : WG l E R mid args XX QF (pc + 1, ls, st, sO σ (10000 * k + tk) a i.toNatClampNeg x, cs, sl)) : WG l E R mid args XX QF (pc, ls, vR x :: vI i :: vR r :: st, σ, cs, sl) := by
  intro ok p e s m below meth c H locs arr hX F hR hS hl
  obtain ⟨hx, hb, hml, hret, hown, hts, hlocks, hnm, hK, hz, hZ, htab⟩ := id F
  obtain ⟨hd, hlen, hoff⟩ := ok.at hq
  cases hlen rfl
  subst ha
  subst hxb
  exact f_aast hx hb hK hR hS hk (ad0 had) t (cellK_aq had) ht hkb (fd0 hds) (cellK_obj hds) hcl hin (set_aq hR.wf hk had h100 (fun b9 h _ => by cases h; exact hkb)) hd (fun H1 locs1 hR1 hS1 => kk ok p e s m below meth c H1 locs1 arr hX F hR1 hS1 hl)
theorem fe_kd (hR : ∃ H, HR E σ H) (hZ : ∃ s, fZ E s s.heap) : σ.2.2.2 (fe E) = 0 := by
  obtain ⟨H, hR⟩ := hR
  obtain ⟨s, hZ⟩ := hZ
  by_cases h : σ.2.2.2 (fe E) = 0
  · exact h
  · exact absurd (hR.ge h) hZ.2.2.2.2.2.2.2.2.1.out
theorem w_new {idx ci k : Nat} {ds : List (Option Nat)} (hq : lkp pc (insL mid) = some (.new idx, len, tgt)) (hc : lkp idx (clT (cnoM mid)) = some ci) (k0 : Nat) (hk0 : k0 = k) (hds : fdT k = some (ci, ds)) (hcs : cs + 1 ≤ R.cells) (hsl : sl + ds.length ≤ R.slots) (kk : ∀ q, σ.2.2.2 q = 0 → q ≠ fe E → WG l E R mid args XX QF (pc + 3, ls, vR (some q) :: st, sN σ q k, cs + 1, sl + ds.length)) : WG l E R mid args XX QF (pc, ls, st, σ, cs, sl) := by
  intro ok p e s m below meth c H locs arr hX F hR hS hl
  obtain ⟨hx, hb, hml, hret, hown, hts, hlocks, hnm, hK, hz, hZ, htab⟩ := id F
  obtain ⟨hd, hlen, hoff⟩ := ok.at hq
  cases hlen rfl
  obtain ⟨⟨C, T, N⟩, hr, hN, h100, hdf⟩ := fdOK hds
  have hN : ds.length = N := hN
  obtain ⟨hin, hpar, hnms, hinst, hini⟩ := vwOK ci _ hr
  have hown' : s.vm.findClass (RCn (cnoM mid)) = some m.cls := by rw [ok.1] at hown; exact hown
  refine f_new (fs := (dfl ds).map toV) hx hb hts hin (yTy ci) hpar hown' (hts _ (clOK hc hr)) (hts _ hinst) (hts _ hini) hK hR hS hz hr (fun j hj => ?_) hcs (by rw [← hN]; exact hsl) (k := k) (fun q => by rw [cellK_obj hds, mkF_new]) hd (fun q H1 h0 hR1 hS1 => ?_)
  · have hjd : j < ds.length := by rw [hN]; exact hj
    have h9 := hdf j hj
    have e1 : vp_V ((dfl ds).map toV) j = (((dfl ds).map toV)[j]?).getD .null := by unfold vp_V; rw [List.getD_eq_getElem?_getD]
    rw [e1, dfl_V]
    cases hdj : ds[j]? with
    | none => rw [List.getElem?_eq_none_iff] at hdj; omega
    | some d => cases d with
      | none => exact h9.1 hdj
      | some t => exact h9.2 t hdj
  · have k9 := kk q h0 (fun e9 => by have h9 := fe_kd ⟨H1, hR1⟩ ⟨s, hZ⟩; rw [← e9] at h9; have h8 : (sN σ q k).2.2.2 q = k := (by simp [sN]); rw [h8] at h9; exact fd0 hds h9) ok p e s m below meth c H1 locs arr hX F hR1 hS1 hl
    rw [← hN]
    exact k9
set_option maxRecDepth 20000 in
theorem w_newa_int {k N : Nat} {n : Option Nat} {x : Int32} (hq : lkp pc (insL mid) = some (.newarray .int, len, tgt)) (hx9 : x = nI N) (hN : N ≤ 100000) (k0 : Nat) (hk0 : k0 = k) (had : adT k = some (0, n, none)) (hn : n = none ∨ n = some N) (hcs : cs + 1 ≤ R.cells) (hsl : sl + N ≤ R.slots) (kk : ∀ q, σ.2.2.2 q = 0 → WG l E R mid args XX QF (pc + 2, ls, vR (some q) :: st, sA σ q k N, cs + 1, sl + N)) : WG l E R mid args XX QF (pc, ls, vI x :: st, σ, cs, sl) := by
  intro ok p e s m below meth c H locs arr hX F hR hS hl
  obtain ⟨hx, hb, hml, hret, hown, hts, hlocks, hnm, hK, hz, hZ, htab⟩ := id F
  obtain ⟨hd, hlen, hoff⟩ := ok.at hq
  cases hlen rfl
  subst hx9
  refine f_newa (atype := .int) (ty := .int) (a0 := (N, .inl (fun _ => 0))) (t := 0) hx hb (hts _ ac_int) rfl hK hR hS hz rfl (fun cA => rfl) (nI_pos (by omega)) (nI_clamp (by omega)) (by show N * _ ≤ _; simp only [componentBytes]; omega) hcs hsl (k := k) (fun q => ?_) hd (fun q H1 h0 hR1 hS1 => kk q h0 ok p e s m below meth c H1 locs arr hX F hR1 hS1 hl)
  rw [cellK_ai had]
  have e1 : lenK k (sA σ q k N) q n = N := by
    rcases hn with rfl | rfl
    · simp [lenK, sA, sI, nI_clamp (show N < 2 ^ 31 by omega)]
    · rfl
  rw [e1]
  congr 4
  funext y
  simp only [sA, sI, sN]
  rw [if_neg (by omega), if_pos trivial]
set_option maxRecDepth 20000 in
theorem w_newa_boolean {k N : Nat} {n : Option Nat} {x : Int32} (hq : lkp pc (insL mid) = some (.newarray .boolean, len, tgt)) (hx9 : x = nI N) (hN : N ≤ 100000) (k0 : Nat) (hk0 : k0 = k) (had : adT k = some (1, n, none)) (hn : n = none ∨ n = some N) (hcs : cs + 1 ≤ R.cells) (hsl : sl + N ≤ R.slots) (kk : ∀ q, σ.2.2.2 q = 0 → WG l E R mid args XX QF (pc + 2, ls, vR (some q) :: st, sA σ q k N, cs + 1, sl + N)) : WG l E R mid args XX QF (pc, ls, vI x :: st, σ, cs, sl) := by
  intro ok p e s m below meth c H locs arr hX F hR hS hl
  obtain ⟨hx, hb, hml, hret, hown, hts, hlocks, hnm, hK, hz, hZ, htab⟩ := id F
  obtain ⟨hd, hlen, hoff⟩ := ok.at hq
  cases hlen rfl
  subst hx9
  refine f_newa (atype := .boolean) (ty := .boolean) (a0 := (N, .inl (fun _ => 0))) (t := 1) hx hb (hts _ ac_boolean) rfl hK hR hS hz rfl (fun cA => rfl) (nI_pos (by omega)) (nI_clamp (by omega)) (by show N * _ ≤ _; simp only [componentBytes]; omega) hcs hsl (k := k) (fun q => ?_) hd (fun q H1 h0 hR1 hS1 => kk q h0 ok p e s m below meth c H1 locs arr hX F hR1 hS1 hl)
  rw [cellK_ai had]
  have e1 : lenK k (sA σ q k N) q n = N := by
    rcases hn with rfl | rfl
    · simp [lenK, sA, sI, nI_clamp (show N < 2 ^ 31 by omega)]
    · rfl
  rw [e1]
  congr 4
  funext y
  simp only [sA, sI, sN]
  rw [if_neg (by omega), if_pos trivial]
set_option maxRecDepth 20000 in
theorem w_newq {idx ci k N t tk : Nat} {n : Option Nat} {q9 : vw_C} {x : Int32} (hq : lkp pc (insL mid) = some (.anewarray idx, len, tgt)) (hc : lkp idx (clT (cnoM mid)) = some ci) (hr : vwCl[ci]? = some q9) (hao : q9.1 ∈ AOs) (ht : (fT E)[t]? = some (fC E t, .object q9.1)) (hx9 : x = nI N) (hN : N ≤ 100000) (k0 : Nat) (hk0 : k0 = k) (had : adT k = some (t, n, some tk)) (h100 : tk < 100) (hn : n = none ∨ n = some N) (hcs : cs + 1 ≤ R.cells) (hsl : sl + N ≤ R.slots) (kk : ∀ q, σ.2.2.2 q = 0 → WG l E R mid args XX QF (pc + 3, ls, vR (some q) :: st, sA σ q k N, cs + 1, sl + N)) : WG l E R mid args XX QF (pc, ls, vI x :: st, σ, cs, sl) := by
  intro ok p e s m below meth c H locs arr hX F hR hS hl
  obtain ⟨hx, hb, hml, hret, hown, hts, hlocks, hnm, hK, hz, hZ, htab⟩ := id F
  obtain ⟨hd, hlen, hoff⟩ := ok.at hq
  cases hlen rfl
  subst hx9
  have hown' : s.vm.findClass (RCn (cnoM mid)) = some m.cls := by rw [ok.1] at hown; exact hown
  refine f_newq hx hb hown' (hts _ (clOK hc hr)) (hZ.1 _ hao) hK hR hS hz ht (nI_pos (by omega)) (nI_clamp (by omega)) (by omega) hcs hsl (k := k) (fun q => ?_) hd (fun q H1 h0 hR1 hS1 => kk q h0 ok p e s m below meth c H1 locs arr hX F hR1 hS1 hl)
  rw [cellK_aq had]
  have e1 : lenK k (sA σ q k N) q n = N := by
    rcases hn with rfl | rfl
    · simp [lenK, sA, sI, nI_clamp (show N < 2 ^ 31 by omega)]
    · rfl
  rw [e1]
  congr 7
  funext y
  simp [sA, sI, sN]
theorem w_cast {idx ci k : Nat} {r : Option Nat} {ds : List (Option Nat)} (hq : lkp pc (insL mid) = some (.checkcast idx, len, tgt)) (hc : lkp idx (clT (cnoM mid)) = some ci) (hr : ∀ b, r = some b → σ.2.2.2 b = k) (hds : fdT k = some (ci, ds)) (kk : WG l E R mid args XX QF (pc + 3, ls, vR r :: st, σ, cs, sl)) : WG l E R mid args XX QF (pc, ls, vR r :: st, σ, cs, sl) := by
  intro ok p e s m below meth c H locs arr hX F hR hS hl
  obtain ⟨hx, hb, hml, hret, hown, hts, hlocks, hnm, hK, hz, hZ, htab⟩ := id F
  obtain ⟨hd, hlen, hoff⟩ := ok.at hq
  cases hlen rfl
  obtain ⟨⟨C, T, N⟩, hr9, hN, -, -⟩ := fdOK hds
  have hown' : s.vm.findClass (RCn (cnoM mid)) = some m.cls := by rw [ok.1] at hown; exact hown
  have k9 := kk ok p e s m below meth c H locs arr hX F hR hS hl
  cases r with
  | none => exact lv_castN hx hb hd k9
  | some b => exact va_castS hx hb hown' (hts _ (clOK hc hr9)) (hK.1 ci _ hr9).2 (va_recv (q0 := 0) hK (hR.one (hr b rfl) (fd0 hds) (cellK_obj hds)) hr9 rfl) hd k9
end RA
