/-! branches, and the store: reads, writes, new cells -/
theorem mOK.at {mid pc len tgt : Nat} {i : Instr} (ok : mOK mid) (hq : lkp pc (insL mid) = some (i, len, tgt)) : decode (mB mid) pc = .ok (i, len) ∧ (isSw i = false → len = ilen i) ∧ ∀ o, ioff i = some o → (pc : Int) + o = (tgt : Int) := by
  obtain ⟨hd, htg, -⟩ := ok.2 _ (lkp_mem hq)
  refine ⟨hd, fun hs => ?_, fun o ho => ?_⟩
  · simp only [tgB, hs, Bool.false_or, Bool.and_eq_true, beq_iff_eq] at htg
    exact htg.1
  · simp only [tgB, ho, Bool.and_eq_true, beq_iff_eq] at htg
    exact htg.2
theorem cellK_obj {cA : Nat → ClassId} {k ci : Nat} {ds : List (Option Nat)} {σ : Sg} {a : Nat} (h : fdT k = some (ci, ds)) : cellK cA k σ a = .inr (ci, (mkF k σ a 0 ds).map toV) := by unfold cellK; rw [h]
theorem adfd {k : Nat} {q : Nat × Option Nat × Option Nat} (h : adT k = some q) : fdT k = none := by
  unfold adT at h
  split at h <;> first | rfl | cases h
theorem cellK_ai {cA : Nat → ClassId} {k t : Nat} {n : Option Nat} {σ : Sg} {a : Nat} (h : adT k = some (t, n, none)) : cellK cA k σ a = .inl (cA t, lenK k σ a n, .inl (fun x => σ.1 (10000 * k) a x)) := by unfold cellK; rw [adfd h, h]
theorem cellK_aq {cA : Nat → ClassId} {k t tk : Nat} {n : Option Nat} {σ : Sg} {a : Nat} (h : adT k = some (t, n, some tk)) : cellK cA k σ a = .inl (cA t, lenK k σ a n, .inr (.inr (.inr (.inr (fun x => σ.2.1 (10000 * k + tk) a x))))) := by unfold cellK; rw [adfd h, h]
theorem fd0 {k : Nat} {q : Nat × List (Option Nat)} (h : fdT k = some q) : k ≠ 0 := fun e => by subst e; cases h
theorem ad0 {k : Nat} {q : Nat × Option Nat × Option Nat} (h : adT k = some q) : k ≠ 0 := fun e => by subst e; cases h
def finB (ci j : Nat) : Bool := ((vwCl[ci]?).map (fun r => (r.2.1 j).2.2.2)).getD true
def dclS (ci j : Nat) : String := ((vwCl[ci]?).map (fun r => (r.2.1 j).1)).getD ""
def dfl (ds : List (Option Nat)) : List MV := ds.map (fun d => match d with
  | none => vI 0
  | some _ => vR none)
theorem mkF_new {k k' : Nat} {σ : Sg} {q : Nat} : ∀ (ds : List (Option Nat)) (j : Nat), mkF k (sN σ q k') q j ds = dfl ds
  | [], _ => rfl
  | none :: ds, j => by simp only [mkF, mkF_new ds]; simp [sN, dfl]
  | some t :: ds, j => by simp only [mkF, mkF_new ds]; simp [sN, dfl]
section RU
variable {l : Launch} {E : FE} {R : Room} {mid : Nat} {args : Array Value} {XX : State → Prop} {QF : State → List Frame → State → Prop}
variable {pc len tgt : Nat} {ls : List (Nat × MV)} {st : List MV} {σ : Sg} {cs sl : Nat}
theorem w_if_eq {o : Int} {x : Int32} (hq : lkp pc (insL mid) = some (.ifCond .eq o, len, tgt)) (kt : x = 0 → WG l E R mid args XX QF (tgt, ls, st, σ, cs, sl)) (kf : ¬ x = 0 → WG l E R mid args XX QF (pc + 3, ls, st, σ, cs, sl)) : WG l E R mid args XX QF (pc, ls, vI x :: st, σ, cs, sl) := by
  intro ok p e s m below meth c H locs arr hX F hR hS hl
  obtain ⟨hx, hb, hml, hret, hown, hts, hlocks, hnm, hK, hz, hZ, htab⟩ := id F
  obtain ⟨hd, hlen, hoff⟩ := ok.at hq
  cases hlen rfl
  exact lv_if_eq hx hb hd (hoff _ rfl) (fun h => kt h ok p e s m below meth c H locs arr hX F hR hS hl) (fun h => kf h ok p e s m below meth c H locs arr hX F hR hS hl)
theorem w_ic_eq {o : Int} {x y : Int32} (hq : lkp pc (insL mid) = some (.if_icmp .eq o, len, tgt)) (kt : x = y → WG l E R mid args XX QF (tgt, ls, st, σ, cs, sl)) (kf : ¬ x = y → WG l E R mid args XX QF (pc + 3, ls, st, σ, cs, sl)) : WG l E R mid args XX QF (pc, ls, vI y :: vI x :: st, σ, cs, sl) := by
  intro ok p e s m below meth c H locs arr hX F hR hS hl
  obtain ⟨hx, hb, hml, hret, hown, hts, hlocks, hnm, hK, hz, hZ, htab⟩ := id F
  obtain ⟨hd, hlen, hoff⟩ := ok.at hq
  cases hlen rfl
  exact lv_icmp_eq hx hb hd (hoff _ rfl) (fun h => kt h ok p e s m below meth c H locs arr hX F hR hS hl) (fun h => kf h ok p e s m below meth c H locs arr hX F hR hS hl)
theorem w_if_ne {o : Int} {x : Int32} (hq : lkp pc (insL mid) = some (.ifCond .ne o, len, tgt)) (kt : ¬ x = 0 → WG l E R mid args XX QF (tgt, ls, st, σ, cs, sl)) (kf : x = 0 → WG l E R mid args XX QF (pc + 3, ls, st, σ, cs, sl)) : WG l E R mid args XX QF (pc, ls, vI x :: st, σ, cs, sl) := by
  intro ok p e s m below meth c H locs arr hX F hR hS hl
  obtain ⟨hx, hb, hml, hret, hown, hts, hlocks, hnm, hK, hz, hZ, htab⟩ := id F
  obtain ⟨hd, hlen, hoff⟩ := ok.at hq
  cases hlen rfl
  exact lv_if_ne hx hb hd (hoff _ rfl) (fun h => kt h ok p e s m below meth c H locs arr hX F hR hS hl) (fun h => kf h ok p e s m below meth c H locs arr hX F hR hS hl)
theorem w_ic_ne {o : Int} {x y : Int32} (hq : lkp pc (insL mid) = some (.if_icmp .ne o, len, tgt)) (kt : ¬ x = y → WG l E R mid args XX QF (tgt, ls, st, σ, cs, sl)) (kf : x = y → WG l E R mid args XX QF (pc + 3, ls, st, σ, cs, sl)) : WG l E R mid args XX QF (pc, ls, vI y :: vI x :: st, σ, cs, sl) := by
  intro ok p e s m below meth c H locs arr hX F hR hS hl
  obtain ⟨hx, hb, hml, hret, hown, hts, hlocks, hnm, hK, hz, hZ, htab⟩ := id F
  obtain ⟨hd, hlen, hoff⟩ := ok.at hq
  cases hlen rfl
  exact lv_icmp_ne hx hb hd (hoff _ rfl) (fun h => kt h ok p e s m below meth c H locs arr hX F hR hS hl) (fun h => kf h ok p e s m below meth c H locs arr hX F hR hS hl)
theorem w_if_lt {o : Int} {x : Int32} (hq : lkp pc (insL mid) = some (.ifCond .lt o, len, tgt)) (kt : x < 0 → WG l E R mid args XX QF (tgt, ls, st, σ, cs, sl)) (kf : ¬ x < 0 → WG l E R mid args XX QF (pc + 3, ls, st, σ, cs, sl)) : WG l E R mid args XX QF (pc, ls, vI x :: st, σ, cs, sl) := by
  intro ok p e s m below meth c H locs arr hX F hR hS hl
  obtain ⟨hx, hb, hml, hret, hown, hts, hlocks, hnm, hK, hz, hZ, htab⟩ := id F
  obtain ⟨hd, hlen, hoff⟩ := ok.at hq
  cases hlen rfl
  exact lv_if_lt hx hb hd (hoff _ rfl) (fun h => kt h ok p e s m below meth c H locs arr hX F hR hS hl) (fun h => kf h ok p e s m below meth c H locs arr hX F hR hS hl)
theorem w_ic_lt {o : Int} {x y : Int32} (hq : lkp pc (insL mid) = some (.if_icmp .lt o, len, tgt)) (kt : x < y → WG l E R mid args XX QF (tgt, ls, st, σ, cs, sl)) (kf : ¬ x < y → WG l E R mid args XX QF (pc + 3, ls, st, σ, cs, sl)) : WG l E R mid args XX QF (pc, ls, vI y :: vI x :: st, σ, cs, sl) := by
  intro ok p e s m below meth c H locs arr hX F hR hS hl
  obtain ⟨hx, hb, hml, hret, hown, hts, hlocks, hnm, hK, hz, hZ, htab⟩ := id F
  obtain ⟨hd, hlen, hoff⟩ := ok.at hq
  cases hlen rfl
  exact lv_icmp_lt hx hb hd (hoff _ rfl) (fun h => kt h ok p e s m below meth c H locs arr hX F hR hS hl) (fun h => kf h ok p e s m below meth c H locs arr hX F hR hS hl)
theorem w_if_ge {o : Int} {x : Int32} (hq : lkp pc (insL mid) = some (.ifCond .ge o, len, tgt)) (kt : 0 ≤ x → WG l E R mid args XX QF (tgt, ls, st, σ, cs, sl)) (kf : ¬ 0 ≤ x → WG l E R mid args XX QF (pc + 3, ls, st, σ, cs, sl)) : WG l E R mid args XX QF (pc, ls, vI x :: st, σ, cs, sl) := by
  intro ok p e s m below meth c H locs arr hX F hR hS hl
  obtain ⟨hx, hb, hml, hret, hown, hts, hlocks, hnm, hK, hz, hZ, htab⟩ := id F
  obtain ⟨hd, hlen, hoff⟩ := ok.at hq
  cases hlen rfl
  exact lv_if_ge hx hb hd (hoff _ rfl) (fun h => kt h ok p e s m below meth c H locs arr hX F hR hS hl) (fun h => kf h ok p e s m below meth c H locs arr hX F hR hS hl)
theorem w_ic_ge {o : Int} {x y : Int32} (hq : lkp pc (insL mid) = some (.if_icmp .ge o, len, tgt)) (kt : y ≤ x → WG l E R mid args XX QF (tgt, ls, st, σ, cs, sl)) (kf : ¬ y ≤ x → WG l E R mid args XX QF (pc + 3, ls, st, σ, cs, sl)) : WG l E R mid args XX QF (pc, ls, vI y :: vI x :: st, σ, cs, sl) := by
  intro ok p e s m below meth c H locs arr hX F hR hS hl
  obtain ⟨hx, hb, hml, hret, hown, hts, hlocks, hnm, hK, hz, hZ, htab⟩ := id F
  obtain ⟨hd, hlen, hoff⟩ := ok.at hq
  cases hlen rfl
  exact lv_icmp_ge hx hb hd (hoff _ rfl) (fun h => kt h ok p e s m below meth c H locs arr hX F hR hS hl) (fun h => kf h ok p e s m below meth c H locs arr hX F hR hS hl)
theorem w_if_gt {o : Int} {x : Int32} (hq : lkp pc (insL mid) = some (.ifCond .gt o, len, tgt)) (kt : 0 < x → WG l E R mid args XX QF (tgt, ls, st, σ, cs, sl)) (kf : ¬ 0 < x → WG l E R mid args XX QF (pc + 3, ls, st, σ, cs, sl)) : WG l E R mid args XX QF (pc, ls, vI x :: st, σ, cs, sl) := by
  intro ok p e s m below meth c H locs arr hX F hR hS hl
  obtain ⟨hx, hb, hml, hret, hown, hts, hlocks, hnm, hK, hz, hZ, htab⟩ := id F
  obtain ⟨hd, hlen, hoff⟩ := ok.at hq
  cases hlen rfl
  exact lv_if_gt hx hb hd (hoff _ rfl) (fun h => kt h ok p e s m below meth c H locs arr hX F hR hS hl) (fun h => kf h ok p e s m below meth c H locs arr hX F hR hS hl)
theorem w_ic_gt {o : Int} {x y : Int32} (hq : lkp pc (insL mid) = some (.if_icmp .gt o, len, tgt)) (kt : y < x → WG l E R mid args XX QF (tgt, ls, st, σ, cs, sl)) (kf : ¬ y < x → WG l E R mid args XX QF (pc + 3, ls, st, σ, cs, sl)) : WG l E R mid args XX QF (pc, ls, vI y :: vI x :: st, σ, cs, sl) := by
  intro ok p e s m below meth c H locs arr hX F hR hS hl
  obtain ⟨hx, hb, hml, hret, hown, hts, hlocks, hnm, hK, hz, hZ, htab⟩ := id F
  obtain ⟨hd, hlen, hoff⟩ := ok.at hq
  cases hlen rfl
  exact lv_icmp_gt hx hb hd (hoff _ rfl) (fun h => kt h ok p e s m below meth c H locs arr hX F hR hS hl) (fun h => kf h ok p e s m below meth c H locs arr hX F hR hS hl)
theorem w_if_le {o : Int} {x : Int32} (hq : lkp pc (insL mid) = some (.ifCond .le o, len, tgt)) (kt : x ≤ 0 → WG l E R mid args XX QF (tgt, ls, st, σ, cs, sl)) (kf : ¬ x ≤ 0 → WG l E R mid args XX QF (pc + 3, ls, st, σ, cs, sl)) : WG l E R mid args XX QF (pc, ls, vI x :: st, σ, cs, sl) := by
  intro ok p e s m below meth c H locs arr hX F hR hS hl
  obtain ⟨hx, hb, hml, hret, hown, hts, hlocks, hnm, hK, hz, hZ, htab⟩ := id F
  obtain ⟨hd, hlen, hoff⟩ := ok.at hq
  cases hlen rfl
  exact lv_if_le hx hb hd (hoff _ rfl) (fun h => kt h ok p e s m below meth c H locs arr hX F hR hS hl) (fun h => kf h ok p e s m below meth c H locs arr hX F hR hS hl)
theorem w_ic_le {o : Int} {x y : Int32} (hq : lkp pc (insL mid) = some (.if_icmp .le o, len, tgt)) (kt : x ≤ y → WG l E R mid args XX QF (tgt, ls, st, σ, cs, sl)) (kf : ¬ x ≤ y → WG l E R mid args XX QF (pc + 3, ls, st, σ, cs, sl)) : WG l E R mid args XX QF (pc, ls, vI y :: vI x :: st, σ, cs, sl) := by
  intro ok p e s m below meth c H locs arr hX F hR hS hl
  obtain ⟨hx, hb, hml, hret, hown, hts, hlocks, hnm, hK, hz, hZ, htab⟩ := id F
  obtain ⟨hd, hlen, hoff⟩ := ok.at hq
  cases hlen rfl
  exact lv_icmp_le hx hb hd (hoff _ rfl) (fun h => kt h ok p e s m below meth c H locs arr hX F hR hS hl) (fun h => kf h ok p e s m below meth c H locs arr hX F hR hS hl)
theorem w_ac_eq {o : Int} {x y : Option Nat} (hq : lkp pc (insL mid) = some (.if_acmp .eq o, len, tgt)) (kt : x = y → WG l E R mid args XX QF (tgt, ls, st, σ, cs, sl)) (kf : ¬ x = y → WG l E R mid args XX QF (pc + 3, ls, st, σ, cs, sl)) : WG l E R mid args XX QF (pc, ls, vR y :: vR x :: st, σ, cs, sl) := by
  intro ok p e s m below meth c H locs arr hX F hR hS hl
  obtain ⟨hx, hb, hml, hret, hown, hts, hlocks, hnm, hK, hz, hZ, htab⟩ := id F
  obtain ⟨hd, hlen, hoff⟩ := ok.at hq
  cases hlen rfl
  exact lv_acmp_eq hx hb hd (hoff _ rfl) (fun h => kt h ok p e s m below meth c H locs arr hX F hR hS hl) (fun h => kf h ok p e s m below meth c H locs arr hX F hR hS hl)
theorem w_ac_ne {o : Int} {x y : Option Nat} (hq : lkp pc (insL mid) = some (.if_acmp .ne o, len, tgt)) (kt : ¬ x = y → WG l E R mid args XX QF (tgt, ls, st, σ, cs, sl)) (kf : x = y → WG l E R mid args XX QF (pc + 3, ls, st, σ, cs, sl)) : WG l E R mid args XX QF (pc, ls, vR y :: vR x :: st, σ, cs, sl) := by
  intro ok p e s m below meth c H locs arr hX F hR hS hl
  obtain ⟨hx, hb, hml, hret, hown, hts, hlocks, hnm, hK, hz, hZ, htab⟩ := id F
  obtain ⟨hd, hlen, hoff⟩ := ok.at hq
  cases hlen rfl
  exact lv_acmp_ne hx hb hd (hoff _ rfl) (fun h => kt h ok p e s m below meth c H locs arr hX F hR hS hl) (fun h => kf h ok p e s m below meth c H locs arr hX F hR hS hl)
theorem w_null {o : Int} {x : Option Nat} (hq : lkp pc (insL mid) = some (.ifnull o, len, tgt)) (kt : x = none → WG l E R mid args XX QF (tgt, ls, st, σ, cs, sl)) (kf : ∀ b, x = some b → WG l E R mid args XX QF (pc + 3, ls, st, σ, cs, sl)) : WG l E R mid args XX QF (pc, ls, vR x :: st, σ, cs, sl) := by
  intro ok p e s m below meth c H locs arr hX F hR hS hl
  obtain ⟨hx, hb, hml, hret, hown, hts, hlocks, hnm, hK, hz, hZ, htab⟩ := id F
  obtain ⟨hd, hlen, hoff⟩ := ok.at hq
  cases hlen rfl
  cases x with
  | none => exact lv_ifnullN hx hb hd (hoff _ rfl) (kt rfl ok p e s m below meth c H locs arr hX F hR hS hl)
  | some b => exact lv_ifnull hx hb hd (kf b rfl ok p e s m below meth c H locs arr hX F hR hS hl)
theorem w_nonnull {o : Int} {x : Option Nat} (hq : lkp pc (insL mid) = some (.ifnonnull o, len, tgt)) (kt : ∀ b, x = some b → WG l E R mid args XX QF (tgt, ls, st, σ, cs, sl)) (kf : x = none → WG l E R mid args XX QF (pc + 3, ls, st, σ, cs, sl)) : WG l E R mid args XX QF (pc, ls, vR x :: st, σ, cs, sl) := by
  intro ok p e s m below meth c H locs arr hX F hR hS hl
  obtain ⟨hx, hb, hml, hret, hown, hts, hlocks, hnm, hK, hz, hZ, htab⟩ := id F
  obtain ⟨hd, hlen, hoff⟩ := ok.at hq
  cases hlen rfl
  cases x with
  | none => exact lv_ifnonnullN hx hb hd (kf rfl ok p e s m below meth c H locs arr hX F hR hS hl)
  | some b => exact lv_ifnonnull hx hb hd (hoff _ rfl) (kt b rfl ok p e s m below meth c H locs arr hX F hR hS hl)
theorem w_idiv {x y : Int32} (hq : lkp pc (insL mid) = some (.idiv, len, tgt)) (hy : ¬ y = 0) (k : WG l E R mid args XX QF (pc + 1, ls, vI (x / y) :: st, σ, cs, sl)) : WG l E R mid args XX QF (pc, ls, vI y :: vI x :: st, σ, cs, sl) := by
  intro ok p e s m below meth c H locs arr hX F hR hS hl
  obtain ⟨hx, hb, hml, hret, hown, hts, hlocks, hnm, hK, hz, hZ, htab⟩ := id F
  obtain ⟨hd, hlen, hoff⟩ := ok.at hq
  cases hlen rfl
  exact lv_idiv hx hb hd hy (k ok p e s m below meth c H locs arr hX F hR hS hl)
theorem w_irem {x y : Int32} (hq : lkp pc (insL mid) = some (.irem, len, tgt)) (hy : ¬ y = 0) (k : WG l E R mid args XX QF (pc + 1, ls, vI (x - x / y * y) :: st, σ, cs, sl)) : WG l E R mid args XX QF (pc, ls, vI y :: vI x :: st, σ, cs, sl) := by
  intro ok p e s m below meth c H locs arr hX F hR hS hl
  obtain ⟨hx, hb, hml, hret, hown, hts, hlocks, hnm, hK, hz, hZ, htab⟩ := id F
  obtain ⟨hd, hlen, hoff⟩ := ok.at hq
  cases hlen rfl
  exact lv_irem hx hb hd hy (k ok p e s m below meth c H locs arr hX F hR hS hl)
theorem w_get {idx ci j a k : Nat} {r : Option Nat} {ds : List (Option Nat)} (v : MV) (hq : lkp pc (insL mid) = some (.getfield idx, len, tgt)) (hf : lkp idx (flT (cnoM mid)) = some (ci, j)) (ha : r = some a) (hk : σ.2.2.2 a = k) (hds : fdT k = some (ci, ds)) (hv : (mkF k σ a 0 ds)[j]? = some v) (kk : WG l E R mid args XX QF (pc + 3, ls, v :: st, σ, cs, sl)) : WG l E R mid args XX QF (pc, ls, vR r :: st, σ, cs, sl) := by
  intro ok p e s m below meth c H locs arr hX F hR hS hl
  obtain ⟨hx, hb, hml, hret, hown, hts, hlocks, hnm, hK, hz, hZ, htab⟩ := id F
  obtain ⟨hd, hlen, hoff⟩ := ok.at hq
  cases hlen rfl
  subst ha
  obtain ⟨T0, hT0, ref, hfl, hsm⟩ := flOK hf
  obtain ⟨⟨C, T, N⟩, hr, hN, -, -⟩ := fdOK hds
  rw [hr] at hT0
  cases hT0
  have hN : ds.length = N := hN
  have hfl : Cond.fieldLink (RCn (cnoM mid)) idx ref (T j).2.1 (T j).2.2.1 ∈ GW := hfl
  have hsm : ref = (T j).1 ∨ Cond.sameField ref (T j).1 (T j).2.1 (T j).2.2.1 ∈ GW := hsm
  have hs9 : ∀ x, s.fieldFound? (T j).1 (T j).2.1 (T j).2.2.1 = some x → s.fieldFound? ref (T j).2.1 (T j).2.2.1 = some x := by
    rcases hsm with h9 | h9
    · rw [h9]; exact fun _ h => h
    · exact fun x h => u_same (hts _ h9) x h
  have hj : j < N := by rw [← hN, ← mkF_len (k := k) (σ := σ) (a := a) ds 0]; exact (List.getElem?_eq_some_iff.mp hv).1
  exact f_get hx hb hts (vwOK ci _ hr).1 (by rw [ok.1] at hown; exact hown) hK hR hk (fd0 hds) (cellK_obj hds) hr j hj (hts _ hfl) hs9 (v := toV v) (by rw [List.getElem?_map, hv]; rfl) hd (kk ok p e s m below meth c H locs arr hX F hR hS hl)
theorem w_puti {idx ci j a k : Nat} {r : Option Nat} {ds : List (Option Nat)} {x : Int32} (hq : lkp pc (insL mid) = some (.putfield idx, len, tgt)) (hf : lkp idx (flT (cnoM mid)) = some (ci, j)) (ha : r = some a) (hk : σ.2.2.2 a = k) (hds : fdT k = some (ci, ds)) (hj : ds[j]? = some none) (hty : yTy ci j = .int ∨ (yTy ci j = .boolean ∧ (x = 0 ∨ x = 1))) (hfin : finB ci j = false ∨ ((mY mid).name = "<init>" ∧ dclS ci j = RCn (cnoM mid))) (kk : WG l E R mid args XX QF (pc + 3, ls, st, sI σ (10000 * k + 100 * j) a 0 x, cs, sl)) : WG l E R mid args XX QF (pc, ls, vI x :: vR r :: st, σ, cs, sl) := by
  intro ok p e s m below meth c H locs arr hX F hR hS hl
  obtain ⟨hx, hb, hml, hret, hown, hts, hlocks, hnm, hK, hz, hZ, htab⟩ := id F
  obtain ⟨hd, hlen, hoff⟩ := ok.at hq
  cases hlen rfl
  subst ha
  obtain ⟨T0, hT0, ref, hfl, hsm⟩ := flOK hf
  obtain ⟨⟨C, T, N⟩, hr, hN, h100, -⟩ := fdOK hds
  rw [hr] at hT0
  cases hT0
  have hN : ds.length = N := hN
  have hfl : Cond.fieldLink (RCn (cnoM mid)) idx ref (T j).2.1 (T j).2.2.1 ∈ GW := hfl
  have hsm : ref = (T j).1 ∨ Cond.sameField ref (T j).1 (T j).2.1 (T j).2.2.1 ∈ GW := hsm
  have hs9 : ∀ x, s.fieldFound? (T j).1 (T j).2.1 (T j).2.2.1 = some x → s.fieldFound? ref (T j).2.1 (T j).2.2.1 = some x := by
    rcases hsm with h9 | h9
    · rw [h9]; exact fun _ h => h
    · exact fun x h => u_same (hts _ h9) x h
  have hjN : j < N := by rw [← hN]; exact (List.getElem?_eq_some_iff.mp hj).1
  obtain ⟨hin, hpar, hnms, -, -⟩ := vwOK ci _ hr
  have hown' : s.vm.findClass (RCn (cnoM mid)) = some m.cls := by rw [ok.1] at hown; exact hown
  have hset : SetAt E σ (sI σ (10000 * k + 100 * j) a 0 x) a (.inr (ci, ((mkF k σ a 0 ds).map toV).set j (.int x))) := by
    refine setI hR.wf hk ?_
    rw [cellK_obj hds]
    have h9 := mkF_setI (k := k) (σ := σ) (a := a) (v := x) (i := j) ds 0 hj h100
    rw [Nat.zero_add] at h9
    rw [h9, List.map_set]
    rfl
  have hnf : narrow (yTy ci j) (.int x) = .int x ∧ fits (yTy ci j) (.int x) = true := by
    rcases hty with h | ⟨h, rfl | rfl⟩ <;> rw [h]
    · exact ⟨rfl, rfl⟩
    · exact ⟨by decide, by decide⟩
    · exact ⟨by decide, by decide⟩
  have hlj : j < ((mkF k σ a 0 ds).map toV).length := by rw [List.length_map, mkF_len, hN]; exact hjN
  have hfe : finB ci j = (T j).2.2.2 := by unfold finB; rw [hr]; rfl
  have hde : dclS ci j = (T j).1 := by unfold dclS; rw [hr]; rfl
  have kk' : ∀ (H1 : Heap) (locs1 : List Loc), HR E (sI σ (10000 * k + 100 * j) a 0 x) H1 → va_S (fA E) s.heap H1 locs1 → _ := fun H1 locs1 hR1 hS1 => kk ok p e s m below meth c H1 locs1 arr hX F hR1 hS1 hl
  rcases hfin with h | ⟨h1, h2⟩
  · exact f_put hx hb hts hin _ hpar hnms hown' hK hR hS hk (fd0 hds) (cellK_obj hds) hr j hjN (hts _ hfl) hs9 (by rw [← hfe]; exact h) (hpar j hjN) hnf.1 hnf.2 hlj hset hd kk'
  · cases hff : (T j).2.2.2 with
    | false => exact f_put hx hb hts hin _ hpar hnms hown' hK hR hS hk (fd0 hds) (cellK_obj hds) hr j hjN (hts _ hfl) hs9 hff (hpar j hjN) hnf.1 hnf.2 hlj hset hd kk'
    | true => exact f_putF hx hb hts hin _ hpar hnms hown' hK hR hS hk (fd0 hds) (cellK_obj hds) hr j hjN (hts _ hfl) hs9 hff (by rw [hnm]; exact h1) (by rw [← hde]; exact h2) (hpar j hjN) hnf.1 hnf.2 hlj hset hd kk'
theorem w_putr {idx ci j a k t : Nat} {r : Option Nat} {ds : List (Option Nat)} {x : Option Nat} (hq : lkp pc (insL mid) = some (.putfield idx, len, tgt)) (hf : lkp idx (flT (cnoM mid)) = some (ci, j)) (ha : r = some a) (hk : σ.2.2.2 a = k) (hds : fdT k = some (ci, ds)) (hj : ds[j]? = some (some t)) (hx0 : ∀ b, x = some b → t ≠ 0 → σ.2.2.2 b = t) (hty : (yTy ci j).isReference = true) (hfin : finB ci j = false ∨ ((mY mid).name = "<init>" ∧ dclS ci j = RCn (cnoM mid))) (kk : WG l E R mid args XX QF (pc + 3, ls, st, sO σ (10000 * k + 100 * j + t) a 0 x, cs, sl)) : WG l E R mid args XX QF (pc, ls, vR x :: vR r :: st, σ, cs, sl) := by
  intro ok p e s m below meth c H locs arr hX F hR hS hl
  obtain ⟨hx, hb, hml, hret, hown, hts, hlocks, hnm, hK, hz, hZ, htab⟩ := id F
  obtain ⟨hd, hlen, hoff⟩ := ok.at hq
  cases hlen rfl
  subst ha
  obtain ⟨T0, hT0, ref, hfl, hsm⟩ := flOK hf
  obtain ⟨⟨C, T, N⟩, hr, hN, h100, -⟩ := fdOK hds
  rw [hr] at hT0
  cases hT0
  have hN : ds.length = N := hN
  have hfl : Cond.fieldLink (RCn (cnoM mid)) idx ref (T j).2.1 (T j).2.2.1 ∈ GW := hfl
  have hsm : ref = (T j).1 ∨ Cond.sameField ref (T j).1 (T j).2.1 (T j).2.2.1 ∈ GW := hsm
  have hs9 : ∀ x, s.fieldFound? (T j).1 (T j).2.1 (T j).2.2.1 = some x → s.fieldFound? ref (T j).2.1 (T j).2.2.1 = some x := by
    rcases hsm with h9 | h9
    · rw [h9]; exact fun _ h => h
    · exact fun x h => u_same (hts _ h9) x h
  have hjN : j < N := by rw [← hN]; exact (List.getElem?_eq_some_iff.mp hj).1
  have ht : t < 100 := h100 (some t) (List.mem_of_getElem? hj) t rfl
  obtain ⟨hin, hpar, hnms, -, -⟩ := vwOK ci _ hr
  have hown' : s.vm.findClass (RCn (cnoM mid)) = some m.cls := by rw [ok.1] at hown; exact hown
  have hset : SetAt E σ (sO σ (10000 * k + 100 * j + t) a 0 x) a (.inr (ci, ((mkF k σ a 0 ds).map toV).set j (va_rf x))) := by
    refine setO hR.wf (fun b hb hc => ?_) hk ?_
    · have e9 : (10000 * k + 100 * j + t) % 100 = t := by omega
      rw [e9] at hc ⊢
      exact hx0 b hb hc
    · rw [cellK_obj hds]
      have h9 := mkF_setO (k := k) (σ := σ) (a := a) (v := x) (i := j) (t := t) ds 0 hj h100
      rw [Nat.zero_add] at h9
      rw [h9, List.map_set]
      rfl
  have hnf : narrow (yTy ci j) (va_rf x) = va_rf x ∧ fits (yTy ci j) (va_rf x) = true := by
    cases hy : yTy ci j <;> rw [hy] at hty <;> first | (cases hty; done) | (cases x <;> exact ⟨rfl, rfl⟩)
  have hlj : j < ((mkF k σ a 0 ds).map toV).length := by rw [List.length_map, mkF_len, hN]; exact hjN
  have hfe : finB ci j = (T j).2.2.2 := by unfold finB; rw [hr]; rfl
  have hde : dclS ci j = (T j).1 := by unfold dclS; rw [hr]; rfl
  have kk' : ∀ (H1 : Heap) (locs1 : List Loc), HR E (sO σ (10000 * k + 100 * j + t) a 0 x) H1 → va_S (fA E) s.heap H1 locs1 → _ := fun H1 locs1 hR1 hS1 => kk ok p e s m below meth c H1 locs1 arr hX F hR1 hS1 hl
  rcases hfin with h | ⟨h1, h2⟩
  · exact f_put hx hb hts hin _ hpar hnms hown' hK hR hS hk (fd0 hds) (cellK_obj hds) hr j hjN (hts _ hfl) hs9 (by rw [← hfe]; exact h) (hpar j hjN) hnf.1 hnf.2 hlj hset hd kk'
  · cases hff : (T j).2.2.2 with
    | false => exact f_put hx hb hts hin _ hpar hnms hown' hK hR hS hk (fd0 hds) (cellK_obj hds) hr j hjN (hts _ hfl) hs9 hff (hpar j hjN) hnf.1 hnf.2 hlj hset hd kk'
    | true => exact f_putF hx hb hts hin _ hpar hnms hown' hK hR hS hk (fd0 hds) (cellK_obj hds) hr j hjN (hts _ hfl) hs9 hff (by rw [hnm]; exact h1) (by rw [← hde]; exact h2) (hpar j hjN) hnf.1 hnf.2 hlj hset hd kk'
end RU
