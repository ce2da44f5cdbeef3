/-! rules that only the JDK's methods use -/
/-- all places of an array of references at once -/
def sC (σ : Sg) (c a : Nat) (f : Nat → Option Nat) : Sg := (σ.1, fun c' a' x' => if c' = c ∧ a' = a then f x' else σ.2.1 c' a' x', σ.2.2)
theorem mkF_C {k : Nat} {σ : Sg} {c a b : Nat} {f : Nat → Option Nat} (hb : b ≠ a) : ∀ (ds : List (Option Nat)) (j : Nat), mkF k (sC σ c a f) b j ds = mkF k σ b j ds
  | [], _ => rfl
  | none :: ds, j => by simp only [mkF, mkF_C hb ds]; simp [sC]
  | some t :: ds, j => by simp only [mkF, mkF_C hb ds]; simp [sC, hb]
theorem cellK_C {cA : Nat → ClassId} {k : Nat} {σ : Sg} {c a b : Nat} {f : Nat → Option Nat} (hb : b ≠ a) : cellK cA k (sC σ c a f) b = cellK cA k σ b := by
  unfold cellK
  cases fdT k with
  | some q => obtain ⟨ci, ds⟩ := q; simp only [mkF_C hb]
  | none => cases adT k with
    | none => rfl
    | some q => obtain ⟨t, n, tk⟩ := q; cases n <;> cases tk <;> simp [lenK, sC, hb]
theorem set_C {E : FE} {σ : Sg} {k t tk a : Nat} {n : Option Nat} {f : Nat → Option Nat} (hw : WF σ) (hk : σ.2.2.2 a = k) (had : adT k = some (t, n, some tk)) (h100 : tk < 100) (hf : ∀ x b, f x = some b → tk ≠ 0 → σ.2.2.2 b = tk) : SetAt E σ (sC σ (10000 * k + tk) a f) a (.inl (fC E t, lenK k σ a n, .inr (.inr (.inr (.inr f))))) := by
  refine ⟨rfl, fun b _ hb => cellK_C hb, ?_, fun c' a' x' b hb hc => ?_⟩
  · rw [hk, cellK_aq had]
    have h1 : lenK k (sC σ (10000 * k + tk) a f) a n = lenK k σ a n := by cases n <;> rfl
    rw [h1]
    congr 7
    funext y
    simp [sC]
  · show σ.2.2.2 b = _
    have hb' : (if c' = 10000 * k + tk ∧ a' = a then f x' else σ.2.1 c' a' x') = some b := hb
    by_cases h : c' = 10000 * k + tk ∧ a' = a
    · rw [if_pos h] at hb'
      have e9 : c' % 100 = tk := by omega
      rw [e9] at hc ⊢
      exact hf x' b hb' hc
    · rw [if_neg h] at hb'
      exact hw c' a' x' b hb' hc
theorem any_of {E : FE} {σ : Sg} {s : State} {H : Heap} (hK : va_K (fD E) vwCl (fT E) s) (hR : HR E σ H) (hZ : fZ E s s.heap) {b k ci : Nat} {ds : List (Option Nat)} {q : vw_C} (hk : σ.2.2.2 b = k) (hds : fdT k = some (ci, ds)) (hcl : vwCl[ci]? = some q) (hca : Cond.castable q.1 "java/lang/Object" ∈ BW) : va_Any "java/lang/Object" s H b :=
  va_rAny (q0 := 0) hK (hR.one hk (fd0 hds) (cellK_obj hds)) rfl hcl (fun comp c0 h1 h2 => vb_asgC (hZ.2.1 _ hca) comp c0 h1 h2)
def bwB : Cond → Bool := fun w => match w with
  | .declares _ => true
  | .castable _ _ => true
  | _ => false
theorem bwm {w : Cond} (h : w ∈ tables_1) (g : bwB w = true) : w ∈ BW := List.mem_filter.mpr ⟨h, g⟩
theorem bw_5 : Cond.castable RC4 "java/lang/Object" ∈ BW := bwm (List.mem_of_getElem? (i := 1146) (by decide +kernel)) rfl
theorem bw_6 : Cond.castable RC5 "java/lang/Object" ∈ BW := bwm (List.mem_of_getElem? (i := 1148) (by decide +kernel)) rfl
theorem bw_7 : Cond.castable RC6 "java/lang/Object" ∈ BW := bwm (List.mem_of_getElem? (i := 1149) (by decide +kernel)) rfl
theorem any_k {E : FE} {σ : Sg} {s : State} {H : Heap} (hK : va_K (fD E) vwCl (fT E) s) (hR : HR E σ H) (hZ : fZ E s s.heap) {b k : Nat} (hk : σ.2.2.2 b = k) (h : k = 5 ∨ k = 6 ∨ k = 7) : va_Any "java/lang/Object" s H b := by
  rcases h with rfl | rfl | rfl
  · exact any_of hK hR hZ hk rfl rfl bw_5
  · exact any_of hK hR hZ hk rfl rfl bw_6
  · exact any_of hK hR hZ hk rfl rfl bw_7
section JR
variable {l : Launch} {E : FE} {R : Room} {mid : Nat} {args : Array Value} {XX : State → Prop} {QF : State → List Frame → State → Prop}
variable {pc len tgt : Nat} {ls : List (Nat × MV)} {st : List MV} {σ : Sg} {cs sl : Nat}
/-- the three kinds of lists' arrays -/
def AK (k tk : Nat) : Prop := (k = 41 ∧ tk = 5) ∨ (k = 42 ∧ tk = 6) ∨ (k = 43 ∧ tk = 7)
theorem AK.ad {k tk : Nat} (h : AK k tk) : adT k = some (6, none, some tk) := by rcases h with ⟨rfl, rfl⟩ | ⟨rfl, rfl⟩ | ⟨rfl, rfl⟩ <;> rfl
theorem AK.el {k tk : Nat} (h : AK k tk) : tk = 5 ∨ tk = 6 ∨ tk = 7 := by rcases h with ⟨-, h⟩ | ⟨-, h⟩ | ⟨-, h⟩ <;> simp [h]
theorem AK.lt {k tk : Nat} (h : AK k tk) : tk < 100 := by rcases h with ⟨-, rfl⟩ | ⟨-, rfl⟩ | ⟨-, rfl⟩ <;> decide
theorem AK.ne {k tk : Nat} (h : AK k tk) : tk ≠ 0 := by rcases h with ⟨-, rfl⟩ | ⟨-, rfl⟩ | ⟨-, rfl⟩ <;> decide
/-- the length that is kept -/
def lnK (k : Nat) (σ : Sg) (a : Nat) : Nat := (σ.1 (10000 * k + 9900) a 0).toNatClampNeg
theorem w_len {a k tk : Nat} {r : Option Nat} (hq : lkp pc (insL mid) = some (.arraylength, len, tgt)) (ha : r = some a) (hk : σ.2.2.2 a = k) (hA : AK k tk) (kk : WG l E R mid args XX QF (pc + 1, ls, vI (nI (lnK k σ a)) :: st, σ, cs, sl)) : WG l E R mid args XX QF (pc, ls, vR r :: st, σ, cs, sl) := by
  intro ok p e s m below meth c H locs arr hX F hR hS hl
  obtain ⟨hx, hb, hml, hret, hown, hts, hlocks, hnm, hK, hz, hZ, htab⟩ := id F
  obtain ⟨hd, hlen, hoff⟩ := ok.at hq
  cases hlen rfl
  subst ha
  exact f_alen hx hb hK hR hk (ad0 hA.ad) 6 (cellK_aq hA.ad) rfl rfl hd (kk ok p e s m below meth c H locs arr hX F hR hS hl)
theorem w_lenE {r : Option Nat} (hq : lkp pc (insL mid) = some (.arraylength, len, tgt)) (ha : r = some (fe E)) (kk : WG l E R mid args XX QF (pc + 1, ls, vI 0 :: st, σ, cs, sl)) : WG l E R mid args XX QF (pc, ls, vR r :: st, σ, cs, sl) := by
  intro ok p e s m below meth c H locs arr hX F hR hS hl
  obtain ⟨hx, hb, hml, hret, hown, hts, hlocks, hnm, hK, hz, hZ, htab⟩ := id F
  obtain ⟨hd, hlen, hoff⟩ := ok.at hq
  cases hlen rfl
  subst ha
  exact va_tlen hx hb hZ.2.2.2.2.2.2.2.2.1 hS rfl hd (kk ok p e s m below meth c H locs arr hX F hR hS hl)
theorem w_getsE {idx : Nat} (hq : lkp pc (insL mid) = some (.getstatic idx, len, tgt)) (hlk : Cond.fieldLink (RCn (cnoM mid)) idx "java/util/ArrayList" "DEFAULTCAPACITY_EMPTY_ELEMENTDATA" "[Ljava/lang/Object;" ∈ GW) (kk : WG l E R mid args XX QF (pc + 3, ls, vR (some (fe E)) :: st, σ, cs, sl)) : WG l E R mid args XX QF (pc, ls, st, σ, cs, sl) := by
  intro ok p e s m below meth c H locs arr hX F hR hS hl
  obtain ⟨hx, hb, hml, hret, hown, hts, hlocks, hnm, hK, hz, hZ, htab⟩ := id F
  obtain ⟨hd, hlen, hoff⟩ := ok.at hq
  cases hlen rfl
  have hown' : s.vm.findClass (RCn (cnoM mid)) = some m.cls := by rw [ok.1] at hown; exact hown
  exact va_gets hx hb hZ.2.2.2.2.2.2.2.1 hS hown' (hts _ hlk) (fun _ h => h) hd (kk ok p e s m below meth c H locs arr hX F hR hS hl)
theorem w_ldcI {idx : Nat} {v : Int32} (hq : lkp pc (insL mid) = some (.ldc idx, len, tgt)) (hlk : Cond.constant (RCn (cnoM mid)) idx v ∈ GW) (kk : WG l E R mid args XX QF (pc + 2, ls, vI v :: st, σ, cs, sl)) : WG l E R mid args XX QF (pc, ls, st, σ, cs, sl) := by
  intro ok p e s m below meth c H locs arr hX F hR hS hl
  obtain ⟨hx, hb, hml, hret, hown, hts, hlocks, hnm, hK, hz, hZ, htab⟩ := id F
  obtain ⟨hd, hlen, hoff⟩ := ok.at hq
  cases hlen rfl
  have hown' : s.vm.findClass (RCn (cnoM mid)) = some m.cls := by rw [ok.1] at hown; exact hown
  exact lv_ldc hx hb hown' (hts _ hlk) hd (kk ok p e s m below meth c H locs arr hX F hR hS hl)
theorem w_ldcM {idx : Nat} (hq : lkp pc (insL mid) = some (.ldc idx, len, tgt)) (hlk : Cond.classLink (RCn (cnoM mid)) idx "[Ljava/lang/Object;" ∈ GW) (kk : WG l E R mid args XX QF (pc + 2, ls, vR (some (fm E)) :: st, σ, cs, sl)) : WG l E R mid args XX QF (pc, ls, st, σ, cs, sl) := by
  intro ok p e s m below meth c H locs arr hX F hR hS hl
  obtain ⟨hx, hb, hml, hret, hown, hts, hlocks, hnm, hK, hz, hZ, htab⟩ := id F
  obtain ⟨hd, hlen, hoff⟩ := ok.at hq
  cases hlen rfl
  have hown' : s.vm.findClass (RCn (cnoM mid)) = some m.cls := by rw [ok.1] at hown; exact hown
  exact va_ldcM hx hb hown' (hts _ hlk) hZ.2.2.2.2.2.2.2.2.2 hd (kk ok p e s m below meth c H locs arr hX F hR hS hl)
set_option maxRecDepth 20000 in
theorem w_newqO {idx k tk N : Nat} {x : Int32} (hq : lkp pc (insL mid) = some (.anewarray idx, len, tgt)) (hlk : Cond.classLink (RCn (cnoM mid)) idx "java/lang/Object" ∈ GW) (hA : AK k tk) (hx9 : x = nI N) (hN : N ≤ 100000) (hcs : cs + 1 ≤ R.cells) (hsl : sl + N ≤ R.slots) (kk : ∀ q, σ.2.2.2 q = 0 → q ≠ fe E → WG l E R mid args XX QF (pc + 3, ls, vR (some q) :: st, sA σ q k N, cs + 1, sl + N)) : WG l E R mid args XX QF (pc, ls, vI x :: st, σ, cs, sl) := by
  intro ok p e s m below meth c H locs arr hX F hR hS hl
  obtain ⟨hx, hb, hml, hret, hown, hts, hlocks, hnm, hK, hz, hZ, htab⟩ := id F
  obtain ⟨hd, hlen, hoff⟩ := ok.at hq
  cases hlen rfl
  subst hx9
  have hown' : s.vm.findClass (RCn (cnoM mid)) = some m.cls := by rw [ok.1] at hown; exact hown
  refine f_newq hx hb hown' (hts _ hlk) (hZ.1 _ (by decide)) hK hR hS hz (t := 6) rfl (nI_pos (by omega)) (nI_clamp (by omega)) (by omega) hcs hsl (k := k) (fun q => ?_) hd (fun q H1 h0 hR1 hS1 => kk q h0 (fun e9 => by have h9 := fe_kd ⟨H1, hR1⟩ ⟨s, hZ⟩; rw [← e9] at h9; have h8 : (sA σ q k N).2.2.2 q = k := (by simp [sA, sI, sN]); rw [h8] at h9; exact ad0 hA.ad h9) ok p e s m below meth c H1 locs arr hX F hR1 hS1 hl)
  rw [cellK_aq hA.ad]
  have e1 : lenK k (sA σ q k N) q none = N := by simp [lenK, sA, sI, nI_clamp (show N < 2 ^ 31 by omega)]
  rw [e1]
  congr 7
  funext y
  simp [sA, sI, sN]
theorem w_aastM {a k tk b : Nat} {r : Option Nat} {i : Int32} {x : Option Nat} (hq : lkp pc (insL mid) = some (.aastore, len, tgt)) (ha : r = some a) (hk : σ.2.2.2 a = k) (hA : AK k tk) (hxb : x = some b) (hkb : σ.2.2.2 b = tk) (hin : vp_in i (lnK k σ a)) (kk : WG l E R mid args XX QF (pc + 1, ls, st, sO σ (10000 * k + tk) a i.toNatClampNeg x, cs, sl)) : WG l E R mid args XX QF (pc, ls, vR x :: vI i :: vR r :: st, σ, cs, sl) := by
  intro ok p e s m below meth c H locs arr hX F hR hS hl
  obtain ⟨hx, hb, hml, hret, hown, hts, hlocks, hnm, hK, hz, hZ, htab⟩ := id F
  obtain ⟨hd, hlen, hoff⟩ := ok.at hq
  cases hlen rfl
  subst ha
  subst hxb
  have hany := any_k hK hR hZ hkb hA.el
  obtain ⟨⟨ws, hP, hD, hw⟩, hwf⟩ := hR
  have h1 := hw a (by rw [hk]; exact ad0 hA.ad)
  rw [hk, cellK_aq hA.ad] at h1
  obtain ⟨n1, hn1⟩ := List.getElem?_of_mem h1
  exact va_astqM hx hb hK hP hD hS n1 6 hn1 rfl hany hin hd (fun H1 locs1 hP1 hD1 hS1 => kk ok p e s m below meth c H1 locs1 arr hX F (HR.to (set_aq hwf hk hA.ad hA.lt (fun b9 h _ => by cases h; exact hkb)) hD hw hn1 hP1 hD1) hS1 hl)
theorem w_copy {idx a0 a k tk : Nat} {r0 r : Option Nat} {sp dp n : Int32} (hq : lkp pc (insL mid) = some (.invokestatic idx, len, tgt)) (hlk : Cond.methodLink (RCn (cnoM mid)) idx arraycopyName ∈ GW) (ha0 : r0 = some a0) (ha : r = some a) (hk0 : σ.2.2.2 a0 = k) (hk : σ.2.2.2 a = k) (hA : AK k tk) (h1 : ¬ sp < 0) (h2 : ¬ dp < 0) (h3 : ¬ n < 0) (h4 : sp.toNatClampNeg + n.toNatClampNeg ≤ lnK k σ a0) (h5 : dp.toNatClampNeg + n.toNatClampNeg ≤ lnK k σ a) (hw8 : wt8 st = true) (hfr : 1 ≤ R.frames) (hlo : 100 ≤ R.locals)
    (kk : WG l E R mid args XX QF (pc + 3, ls, st, sC σ (10000 * k + tk) a (va_cpy (σ.2.1 (10000 * k + tk) a0) (σ.2.1 (10000 * k + tk) a) sp.toNatClampNeg dp.toNatClampNeg n.toNatClampNeg), cs, sl)) : WG l E R mid args XX QF (pc, ls, vI n :: vI dp :: vR r :: vI sp :: vR r0 :: st, σ, cs, sl) := by
  intro ok p e s m below meth c H locs arr hX F hR hS hl
  obtain ⟨hx, hb, hml, hret, hown, hts, hlocks, hnm, hK, hz, hZ, htab⟩ := id F
  obtain ⟨hd, hlen, hoff⟩ := ok.at hq
  cases hlen rfl
  subst ha
  subst ha0
  have hown' : s.vm.findClass (RCn (cnoM mid)) = some m.cls := by rw [ok.1] at hown; exact hown
  have hR0 := hR
  obtain ⟨⟨ws, hP, hD, hw⟩, hwf⟩ := hR
  have g1 := hw a (by rw [hk]; exact ad0 hA.ad)
  rw [hk, cellK_aq hA.ad] at g1
  obtain ⟨n1, hn1⟩ := List.getElem?_of_mem g1
  have g0 := hw a0 (by rw [hk0]; exact ad0 hA.ad)
  rw [hk0, cellK_aq hA.ad] at g0
  obtain ⟨n0, hn0⟩ := List.getElem?_of_mem g0
  have e9 : (10000 * k + tk) % 100 = tk := by have := hA.lt; rcases hA with ⟨rfl, rfl⟩ | ⟨rfl, rfl⟩ | ⟨rfl, rfl⟩ <;> decide
  have hel : ∀ y b, σ.2.1 (10000 * k + tk) y b ≠ none → True := fun _ _ _ => trivial
  have hkd : ∀ y i b, σ.2.1 (10000 * k + tk) y i = some b → σ.2.2.2 b = tk := fun y i b hb9 => by
    have := hwf _ _ _ _ hb9 (by rw [e9]; exact hA.ne)
    rw [e9] at this
    exact this
  refine va_copyM hx hb (by rw [hml]; exact hl.1.symm) hown' (hts _ hlk) (hts _ (gwl (List.mem_of_getElem? (i := 463) (by decide +kernel)) rfl)) (hts _ (gwl (List.mem_of_getElem? (i := 462) (by decide +kernel)) rfl)) (hts _ (gwl (List.mem_of_getElem? (i := 56) (by decide +kernel)) rfl)) hK hP hD hS n0 n1 6 6 hn0 hn1 rfl rfl h1 h2 h3 h4 h5 (fun i _ y hy => any_k hK hR0 hZ (hkd _ _ _ hy) hA.el) hfr (show _ ≤ R.locals from Nat.le_trans (Nat.add_le_add (wt8_V hw8) (show nativeFrameWords "java/lang/System" "arraycopy" 5 + 11 ≤ 92 by decide +kernel)) hlo) hd (fun H1 locs1 hP1 hD1 hS1 => kk ok p e s m below meth c H1 locs1 arr hX F (HR.to (set_C hwf hk hA.ad hA.lt (fun x b hb9 _ => ?_)) hD hw hn1 hP1 hD1) hS1 hl)
  unfold va_cpy at hb9
  split at hb9
  · exact hkd _ _ _ hb9
  · exact hkd _ _ _ hb9
theorem w_getC {idx a k tk : Nat} {r : Option Nat} (hq : lkp pc (insL mid) = some (.invokevirtual idx, len, tgt)) (hlk : Cond.methodLink (RCn (cnoM mid)) idx ⟨"java/lang/Object", "getClass", "()Ljava/lang/Class;"⟩ ∈ GW) (ha : r = some a) (hk : σ.2.2.2 a = k) (hA : AK k tk) (hw8 : wt8 st = true) (hfr : 1 ≤ R.frames) (hlo : 100 ≤ R.locals) (kk : WG l E R mid args XX QF (pc + 3, ls, vR (some (fm E)) :: st, σ, cs, sl)) : WG l E R mid args XX QF (pc, ls, vR r :: st, σ, cs, sl) := by
  intro ok p e s m below meth c H locs arr hX F hR hS hl
  obtain ⟨hx, hb, hml, hret, hown, hts, hlocks, hnm, hK, hz, hZ, htab⟩ := id F
  obtain ⟨hd, hlen, hoff⟩ := ok.at hq
  cases hlen rfl
  subst ha
  have hown' : s.vm.findClass (RCn (cnoM mid)) = some m.cls := by rw [ok.1] at hown; exact hown
  have hr : ∃ cell : Cell, H[a]? = some cell ∧ cell.vm.isStatics = false ∧ s.vm.findClass "[Ljava/lang/Object;" = some cell.cls := by
    have h1 := hR.one hk (ad0 hA.ad) (cellK_aq hA.ad) 0 _ rfl
    have h2 := va_nmO (nm := "[Ljava/lang/Object;") (hK.2 6 _ rfl).2 (by decide +kernel)
    exact ⟨_, h1, rfl, h2⟩
  exact va_getC hx hb (by rw [hml]; exact hl.1.symm) hown' (hts _ hlk) (va_Nw.use rfl (hZ.2.1 _ (bwm (List.mem_of_getElem? (i := 1139) (by decide +kernel)) rfl))) (hts _ (gwl (List.mem_of_getElem? (i := 1173) (by decide +kernel)) rfl)) (hts _ (gwl (List.mem_of_getElem? (i := 435) (by decide +kernel)) rfl)) (hts _ (gwl (List.mem_of_getElem? (i := 451) (by decide +kernel)) rfl)) hZ.2.2.2.2.2.2.2.2.2 hr hfr (by have := wt8_V hw8; omega) hd (kk ok p e s m below meth c H locs arr hX F hR hS hl)
end JR
theorem lk_empty : Cond.fieldLink (RCn 9) 39 "java/util/ArrayList" "DEFAULTCAPACITY_EMPTY_ELEMENTDATA" "[Ljava/lang/Object;" ∈ GW := (gwl (List.mem_of_getElem? (i := 168) (by decide +kernel)) rfl)
theorem lk_max : Cond.constant (RCn 16) 200 2147483639 ∈ GW := (gwl (List.mem_of_getElem? (i := 427) (by decide +kernel)) rfl)
theorem lk_mir : Cond.classLink (RCn 17) 110 "[Ljava/lang/Object;" ∈ GW := (gwl (List.mem_of_getElem? (i := 455) (by decide +kernel)) rfl)
theorem lk_obj17 : Cond.classLink (RCn 17) 2 "java/lang/Object" ∈ GW := (gwl (List.mem_of_getElem? (i := 457) (by decide +kernel)) rfl)
theorem lk_obj9 : Cond.classLink (RCn 9) 7 "java/lang/Object" ∈ GW := (gwl (List.mem_of_getElem? (i := 465) (by decide +kernel)) rfl)
theorem lk_gc : Cond.methodLink (RCn 17) 86 ⟨"java/lang/Object", "getClass", "()Ljava/lang/Class;"⟩ ∈ GW := (gwl (List.mem_of_getElem? (i := 434) (by decide +kernel)) rfl)
theorem lk_cp17 : Cond.methodLink (RCn 17) 150 arraycopyName ∈ GW := (gwl (List.mem_of_getElem? (i := 461) (by decide +kernel)) rfl)
theorem lk_cp9 : Cond.methodLink (RCn 9) 112 arraycopyName ∈ GW := (gwl (List.mem_of_getElem? (i := 499) (by decide +kernel)) rfl)
