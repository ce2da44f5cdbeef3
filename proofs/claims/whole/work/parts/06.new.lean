/-! new cells -/
def NewAt (E : FE) (σ σ' : Sg) (q k : Nat) : Prop := σ'.2.2.2 = (fun a => if a = q then k else σ.2.2.2 a) ∧ (∀ (b k' : Nat), b ≠ q → cellK (fC E) k' σ' b = cellK (fC E) k' σ b) ∧ ∀ (c a x b : Nat), σ'.2.1 c a x = some b → σ.2.1 c a x = some b
theorem newN {E : FE} {σ : Sg} {q k : Nat} : NewAt E σ (sN σ q k) q k := by
  refine ⟨rfl, fun b k' hb => cellK_N hb, fun c a x b h => ?_⟩
  have h' : (if a = q then none else σ.2.1 c a x) = some b := h
  by_cases e : a = q
  · rw [if_pos e] at h'; cases h'
  · rw [if_neg e] at h'; exact h'
theorem newA {E : FE} {σ : Sg} {q k n : Nat} : NewAt E σ (sA σ q k n) q k :=
  ⟨rfl, fun b k' hb => cellK_A hb, fun c a x b h => newN (E := E).2.2 c a x b h⟩
theorem HR.push {E : FE} {σ σ' : Sg} {q k : Nat} {e : va_E} {ws : va_W} {H1 : Heap} (hwf : WF σ) (hw : ∀ b : Nat, σ.2.2.2 b ≠ 0 → (b, cellK (fC E) (σ.2.2.2 b) σ b) ∈ ws) (hP1 : va_P (fD E) vwCl (ws ++ [(q, e)]) H1) (hD1 : va_D (fA E) (ws ++ [(q, e)])) : σ.2.2.2 q = 0 ∧ (NewAt E σ σ' q k → cellK (fC E) k σ' q = e → HR E σ' H1) := by
  have hq : σ.2.2.2 q = 0 := by
    by_cases h : σ.2.2.2 q = 0
    · exact h
    · obtain ⟨n, hn⟩ := List.getElem?_of_mem (hw q h)
      have hlt : n < ws.length := (List.getElem?_eq_some_iff.mp hn).1
      have h1 : (ws ++ [(q, e)])[n]? = some (q, cellK (fC E) (σ.2.2.2 q) σ q) := by rw [List.getElem?_append_left hlt]; exact hn
      have h2 : (ws ++ [(q, e)])[ws.length]? = some (q, e) := by simp
      have := hD1.1 _ _ _ _ h1 h2 rfl
      omega
  refine ⟨hq, fun hn he => ⟨⟨_, hP1, hD1, fun a ha => ?_⟩, fun c a x b hb hc => ?_⟩⟩
  · rw [hn.1] at ha ⊢
    by_cases h : a = q
    · subst h
      simp only [if_true]
      rw [he]
      exact List.mem_append_right _ (List.mem_singleton.mpr rfl)
    · simp only [if_neg h] at ha ⊢
      rw [hn.2.1 a _ h]
      exact List.mem_append_left _ (hw a ha)
  · have h1 := hwf c a x b (hn.2.2 c a x b hb) hc
    rw [hn.1]
    have hbq : b ≠ q := fun h => hc (by rw [← h1, h]; exact hq)
    simp only [if_neg hbq]
    exact h1
theorem K_same {E : FE} {s : State} (hK : va_K (fD E) vwCl (fT E) s) {t : Nat} {ty : FieldType} (ht : (fT E)[t]? = some (fC E t, ty)) {cA : ClassId} (h : va_K (fD E) vwCl (fT E ++ [(cA, ty)]) s) : cA = fC E t := by
  have h1 := (hK.2 t _ ht).2
  have h2 := (h.2 (fT E).length (cA, ty) (by simp)).2
  cases ty with
  | object C =>
    obtain ⟨_, _, -, -, -, e1⟩ := h1
    obtain ⟨_, _, -, -, -, e2⟩ := h2
    exact Option.some.inj (e2.symm.trans e1)
  | _ => exact Option.some.inj ((show s.vm.findClass _ = some cA from h2).symm.trans h1)
section FN
variable {p : Program} {l : Launch} {e : Env} {R : Room} {s : State} {m : MethodId} {args : Array Value} {below : List Frame} {meth : Method} {c : Code} {H : Heap} {locs : List Loc} {cells slots : Nat} {Q : State → Prop}
variable {cc : ByteArray} {pc : Nat} {ls : Array Slot} {rest : List Value} {E : FE} {σ : Sg} {H0 : Heap}
theorem f_new (hx : p.tables.exec = Jvm.exec) (hb : c.code = cc) {own C : String} {T : u_T} {N ci index : Nat} {Ts : List Cond} (hts : ∀ w ∈ Ts, w.before args s = true) (hin : ∀ w ∈ u_ws C T N, w ∈ Ts) (ty : Nat → FieldType) (hty : ∀ k, k < N → parseFieldDescriptor (T k).2.2.1 = some (ty k)) (hown : s.vm.findClass own = some m.cls) (hlk : (Cond.classLink own index C).before args s = true) (hinst : (Cond.instantiable C N).before args s = true) (hini : (Cond.initialized C).before args s = true)
    (hK : va_K (fD E) vwCl (fT E) s) (hR : HR E σ H) (hS : va_S (fA E) H0 H locs) (hz : fz E ≤ H0.size) (hc : vwCl[ci]? = some (C, T, N)) {fs : List Value} (hfs : ∀ j, j < N → defaultValue (ty j) = vp_V fs j) (hcells : cells + 1 ≤ R.cells) (hslots : slots + N ≤ R.slots) {k : Nat} (hnew : ∀ q, cellK (fC E) k (sN σ q k) q = .inr (ci, fs)) (hdg : decode cc pc = .ok (.new index, 3))
    (kk : ∀ (q : Nat) (H1 : Heap), σ.2.2.2 q = 0 → HR E (sN σ q k) H1 → va_S (fA E) H0 H1 locs → W p l e R s m args below meth c H1 locs (cells + 1) (slots + N) Q (F0 m (pc + 3) ls (.ref q :: rest))) : W p l e R s m args below meth c H locs cells slots Q (F0 m pc ls rest) := by
  obtain ⟨⟨ws, hP, hD, hw⟩, hwf⟩ := hR
  refine va_new hx hb hts hin ty hty hown hlk hinst hini hK hP hD hS (fun q h => Nat.le_trans hz h) hc hfs hcells hslots hdg (fun q H1 hP1 hD1 hS1 => ?_)
  obtain ⟨h0, h1⟩ := HR.push (σ' := sN σ q k) (k := k) hwf hw hP1 hD1
  exact kk q H1 h0 (h1 newN (hnew q)) hS1
theorem f_newa (hx : p.tables.exec = Jvm.exec) (hb : c.code = cc) {atype : ArrayType} (harr : (Cond.arrayClass (newarray.typeOf atype)).before args s = true) {ty : FieldType} (hty : newarray.typeOf atype = ty) (hK : va_K (fD E) vwCl (fT E) s) (hR : HR E σ H) (hS : va_S (fA E) H0 H locs) (hz : fz E ≤ H0.size)
    {t : Nat} (ht : (fT E)[t]? = some (fC E t, ty)) {n : Int32} {N' : Nat} {a0 : vp_A} (ha : ∀ cA : ClassId, vp_cell cA a0 = arrV cA N' (fun _ => defaultValue ty)) (hn : ¬ n < 0) (hN : n.toNatClampNeg = N') (hbytes : N' * componentBytes ty ≤ 536870912) (hcells : cells + 1 ≤ R.cells) (hslots : slots + N' ≤ R.slots) {k : Nat} (hnew : ∀ q, cellK (fC E) k (sA σ q k N') q = .inl (fC E t, a0)) (hdg : decode cc pc = .ok (.newarray atype, 2))
    (kk : ∀ (q : Nat) (H1 : Heap), σ.2.2.2 q = 0 → HR E (sA σ q k N') H1 → va_S (fA E) H0 H1 locs → W p l e R s m args below meth c H1 locs (cells + 1) (slots + N') Q (F0 m (pc + 2) ls (.ref q :: rest))) : W p l e R s m args below meth c H locs cells slots Q (F0 m pc ls (.int n :: rest)) := by
  obtain ⟨⟨ws, hP, hD, hw⟩, hwf⟩ := hR
  refine va_newa hx hb harr hty hK hP hD hS (fun q h => Nat.le_trans hz h) ha hn hN hbytes hcells hslots hdg (fun q cA H1 hK1 hP1 hD1 hS1 => ?_)
  have e1 := K_same hK ht hK1
  subst e1
  obtain ⟨h0, h1⟩ := HR.push (σ' := sA σ q k N') (k := k) hwf hw hP1 hD1
  exact kk q H1 h0 (h1 newA (hnew q)) hS1
theorem f_newq (hx : p.tables.exec = Jvm.exec) (hb : c.code = cc) {own C : String} {index : Nat} (hown : s.vm.findClass own = some m.cls) (hclink : (Cond.classLink own index C).before args s = true) (hover : va_AO C s) (hK : va_K (fD E) vwCl (fT E) s) (hR : HR E σ H) (hS : va_S (fA E) H0 H locs) (hz : fz E ≤ H0.size)
    {t : Nat} (ht : (fT E)[t]? = some (fC E t, .object C)) {n : Int32} {N' : Nat} (hn : ¬ n < 0) (hN : n.toNatClampNeg = N') (hbytes : N' * 4 ≤ 536870912) (hcells : cells + 1 ≤ R.cells) (hslots : slots + N' ≤ R.slots) {k : Nat} (hnew : ∀ q, cellK (fC E) k (sA σ q k N') q = .inl (fC E t, N', .inr (.inr (.inr (.inr (fun _ => none)))))) (hdg : decode cc pc = .ok (.anewarray index, 3))
    (kk : ∀ (q : Nat) (H1 : Heap), σ.2.2.2 q = 0 → HR E (sA σ q k N') H1 → va_S (fA E) H0 H1 locs → W p l e R s m args below meth c H1 locs (cells + 1) (slots + N') Q (F0 m (pc + 3) ls (.ref q :: rest))) : W p l e R s m args below meth c H locs cells slots Q (F0 m pc ls (.int n :: rest)) := by
  obtain ⟨⟨ws, hP, hD, hw⟩, hwf⟩ := hR
  refine va_newq hx hb hown hclink hover hK hP hD hS (fun q h => Nat.le_trans hz h) hn hN hbytes hcells hslots hdg (fun q cA H1 hK1 hP1 hD1 hS1 => ?_)
  have e1 := K_same hK ht hK1
  subst e1
  obtain ⟨h0, h1⟩ := HR.push (σ' := sA σ q k N') (k := k) hwf hw hP1 hD1
  exact kk q H1 h0 (h1 newA (hnew q)) hS1
end FN
