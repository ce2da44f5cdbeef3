/-! rows over a typed store: a state of all cells is σ = (ints, references, longs, kinds); HR says that the heap holds it -/
abbrev FE : Type := (Nat → ClassId) × (Nat → Nat → Nat) × (Nat → ClassId) × Nat × Nat
abbrev fD (E : FE) : va_G := (E.1, E.2.1)
abbrev fC (E : FE) : Nat → ClassId := E.2.2.1
abbrev fz (E : FE) : Nat := E.2.2.2.1
abbrev fe (E : FE) : Nat := E.2.2.2.2
abbrev fA (E : FE) : Nat → Prop := fun q => fz E ≤ q
def fT (E : FE) : List (ClassId × FieldType) := [(fC E 0, .int), (fC E 1, .boolean), (fC E 2, .long), (fC E 3, .object "ObjectDriver$Proc"), (fC E 4, .object "ObjectDriver$Node"), (fC E 5, .object "ObjectDriver$Message"), (fC E 6, .object "java/lang/Object")]
/-- no reference stands where another kind is asked for: a code's last two digits are the kind of what it refers to -/
def WF (σ : Sg) : Prop := ∀ (c a x b : Nat), σ.2.1 c a x = some b → c % 100 ≠ 0 → σ.2.2.2 b = c % 100
def HR (E : FE) (σ : Sg) (H : Heap) : Prop := (∃ ws : va_W, va_P (fD E) vwCl ws H ∧ va_D (fA E) ws ∧ ∀ a : Nat, σ.2.2.2 a ≠ 0 → (a, cellK (fC E) (σ.2.2.2 a) σ a) ∈ ws) ∧ WF σ
def SetAt (E : FE) (σ σ' : Sg) (a : Nat) (e : va_E) : Prop := σ'.2.2.2 = σ.2.2.2 ∧ (∀ b : Nat, σ.2.2.2 b ≠ 0 → b ≠ a → cellK (fC E) (σ.2.2.2 b) σ' b = cellK (fC E) (σ.2.2.2 b) σ b) ∧ cellK (fC E) (σ.2.2.2 a) σ' a = e ∧ WF σ'
theorem HR.one {E : FE} {σ : Sg} {H : Heap} (h : HR E σ H) {a k : Nat} (hk : σ.2.2.2 a = k) (h0 : k ≠ 0) {e : va_E} (he : cellK (fC E) k σ a = e) : va_P (fD E) vwCl [(a, e)] H := by
  obtain ⟨⟨ws, hP, -, hw⟩, -⟩ := h
  have h1 := hw a (by rw [hk]; exact h0)
  rw [hk, he] at h1
  obtain ⟨n, hn⟩ := List.getElem?_of_mem h1
  intro i q hq
  cases i with
  | zero => cases hq; exact hP n _ hn
  | succ i => cases hq
theorem HR.kd_lt {E : FE} {σ : Sg} {H : Heap} (h : HR E σ H) {a : Nat} (h0 : σ.2.2.2 a ≠ 0) : a < H.size := by
  have h1 := h.one (a := a) rfl h0 rfl
  exact (h1 0 _ rfl).lt
theorem HR.wf {E : FE} {σ : Sg} {H : Heap} (h : HR E σ H) : WF σ := h.2
theorem HR.ge {E : FE} {σ : Sg} {H : Heap} (h : HR E σ H) {a : Nat} (h0 : σ.2.2.2 a ≠ 0) : fz E ≤ a := by
  obtain ⟨⟨ws, -, hD, hw⟩, -⟩ := h
  obtain ⟨n, hn⟩ := List.getElem?_of_mem (hw a h0)
  exact hD.2 n _ hn
/-- where a list world's one place was set, the store is set there -/
theorem HR.to {E : FE} {σ σ' : Sg} {a n : Nat} {e e0 : va_E} {ws : va_W} {H1 : Heap} (hset : SetAt E σ σ' a e) (hD : va_D (fA E) ws) (hw : ∀ b : Nat, σ.2.2.2 b ≠ 0 → (b, cellK (fC E) (σ.2.2.2 b) σ b) ∈ ws) (hn : ws[n]? = some (a, e0)) (hP1 : va_P (fD E) vwCl (ws.set n (a, e)) H1) (hD1 : va_D (fA E) (ws.set n (a, e))) : HR E σ' H1 := by
  obtain ⟨h1, h2, h3, h4⟩ := hset
  refine ⟨⟨_, hP1, hD1, fun b hb => ?_⟩, h4⟩
  rw [h1] at hb ⊢
  have hlt : n < ws.length := (List.getElem?_eq_some_iff.mp hn).1
  by_cases hba : b = a
  · subst hba
    rw [h3]
    exact List.mem_of_getElem? (i := n) (by simp [hlt])
  · rw [h2 b hb hba]
    obtain ⟨j, hj⟩ := List.getElem?_of_mem (hw b hb)
    have hjn : n ≠ j := by
      intro q
      rw [← q, hn] at hj
      cases hj
      exact hba rfl
    exact List.mem_of_getElem? (i := j) (by rw [List.getElem?_set_ne hjn]; exact hj)
theorem setI {E : FE} {σ : Sg} {c a x : Nat} {v : Int32} {e : va_E} (hw : WF σ) {k : Nat} (hk : σ.2.2.2 a = k) (he : cellK (fC E) k (sI σ c a x v) a = e) : SetAt E σ (sI σ c a x v) a e :=
  ⟨rfl, fun b _ hb => cellK_I hb, by rw [hk]; exact he, hw⟩
theorem setJ {E : FE} {σ : Sg} {a x : Nat} {v : Int64} {e : va_E} (hw : WF σ) {k : Nat} (hk : σ.2.2.2 a = k) (he : cellK (fC E) k (sJ σ a x v) a = e) : SetAt E σ (sJ σ a x v) a e :=
  ⟨rfl, fun b _ hb => cellK_J hb, by rw [hk]; exact he, hw⟩
theorem setO {E : FE} {σ : Sg} {c a x : Nat} {v : Option Nat} {e : va_E} (hw : WF σ) (hv : ∀ b : Nat, v = some b → c % 100 ≠ 0 → σ.2.2.2 b = c % 100) {k : Nat} (hk : σ.2.2.2 a = k) (he : cellK (fC E) k (sO σ c a x v) a = e) : SetAt E σ (sO σ c a x v) a e := by
  refine ⟨rfl, fun b _ hb => cellK_O hb, by rw [hk]; exact he, fun c' a' x' b hb hc => ?_⟩
  show σ.2.2.2 b = _
  have hb' : (if c' = c ∧ a' = a ∧ x' = x then v else σ.2.1 c' a' x') = some b := hb
  by_cases h : c' = c ∧ a' = a ∧ x' = x
  · rw [if_pos h] at hb'
    rw [h.1] at hc ⊢
    exact hv b hb' hc
  · rw [if_neg h] at hb'
    exact hw c' a' x' b hb' hc
section FR
variable {p : Program} {l : Launch} {e : Env} {R : Room} {s : State} {m : MethodId} {args : Array Value} {below : List Frame} {meth : Method} {c : Code} {H : Heap} {locs : List Loc} {cells slots : Nat} {Q : State → Prop}
variable {cc : ByteArray} {pc : Nat} {ls : Array Slot} {rest : List Value} {E : FE} {σ : Sg} {a : Nat} {H0 : Heap}
theorem f_get (hx : p.tables.exec = Jvm.exec) (hb : c.code = cc) {own ref C : String} {T : u_T} {N ci index : Nat} {Ts : List Cond} (hts : ∀ w ∈ Ts, w.before args s = true) (hin : ∀ w ∈ u_ws C T N, w ∈ Ts) (hown : s.vm.findClass own = some m.cls) (hK : va_K (fD E) vwCl (fT E) s) (hR : HR E σ H) {k : Nat} (hk : σ.2.2.2 a = k) (h0 : k ≠ 0) {fs : List Value} (hc : cellK (fC E) k σ a = .inr (ci, fs)) (hcl : vwCl[ci]? = some (C, T, N)) (j : Nat) (hj : j < N) (hlink : (Cond.fieldLink own index ref (T j).2.1 (T j).2.2.1).before args s = true) (hsame : ∀ x, s.fieldFound? (T j).1 (T j).2.1 (T j).2.2.1 = some x → s.fieldFound? ref (T j).2.1 (T j).2.2.1 = some x) {v : Value} (hv : fs[j]? = some v) (hdg : decode cc pc = .ok (.getfield index, 3))
    (kk : W p l e R s m args below meth c H locs cells slots Q (F0 m (pc + 3) ls (v :: rest))) : W p l e R s m args below meth c H locs cells slots Q (F0 m pc ls (.ref a :: rest)) :=
  va_get hx hb hts hin hown hK (hR.one hk h0 hc) 0 rfl hcl j hj hlink hsame hv hdg kk
theorem f_put (hx : p.tables.exec = Jvm.exec) (hb : c.code = cc) {own ref C : String} {T : u_T} {N ci index : Nat} {Ts : List Cond} (hts : ∀ w ∈ Ts, w.before args s = true) (hin : ∀ w ∈ u_ws C T N, w ∈ Ts) (ty0 : Nat → FieldType) (hty : ∀ k, k < N → parseFieldDescriptor (T k).2.2.1 = some (ty0 k)) (hnm : ∀ a, a < N → ∀ b, b < N → a ≠ b → (T a).2.1 ≠ (T b).2.1) (hown : s.vm.findClass own = some m.cls) (hK : va_K (fD E) vwCl (fT E) s) (hR : HR E σ H) (hS : va_S (fA E) H0 H locs) {k : Nat} (hk : σ.2.2.2 a = k) (h0 : k ≠ 0) {fs : List Value} (hc : cellK (fC E) k σ a = .inr (ci, fs)) (hcl : vwCl[ci]? = some (C, T, N)) (j : Nat) (hj : j < N) (hlink : (Cond.fieldLink own index ref (T j).2.1 (T j).2.2.1).before args s = true) (hsame : ∀ x, s.fieldFound? (T j).1 (T j).2.1 (T j).2.2.1 = some x → s.fieldFound? ref (T j).2.1 (T j).2.2.1 = some x) (hfin : (T j).2.2.2 = false) {ty : FieldType} {v : Value} (hd : parseFieldDescriptor (T j).2.2.1 = some ty) (hn : narrow ty v = v) (hfit : fits ty v = true) (hl : j < fs.length) {σ' : Sg} (hset : SetAt E σ σ' a (.inr (ci, fs.set j v)))
    (hdg : decode cc pc = .ok (.putfield index, 3)) (kk : ∀ (H1 : Heap) (locs1 : List Loc), HR E σ' H1 → va_S (fA E) H0 H1 locs1 → W p l e R s m args below meth c H1 locs1 cells slots Q (F0 m (pc + 3) ls rest)) : W p l e R s m args below meth c H locs cells slots Q (F0 m pc ls (v :: .ref a :: rest)) := by
  obtain ⟨⟨ws, hP, hD, hw⟩, -⟩ := hR
  have h1 := hw a (by rw [hk]; exact h0)
  rw [hk, hc] at h1
  obtain ⟨n, hn1⟩ := List.getElem?_of_mem h1
  exact va_put hx hb hts hin ty0 hty hnm hown hK hP hD hS n hn1 hcl j hj hlink hsame hfin hd hn hfit hl hdg (fun H1 locs1 hP1 hD1 hS1 => kk H1 locs1 (HR.to hset hD hw hn1 hP1 hD1) hS1)
theorem f_putF (hx : p.tables.exec = Jvm.exec) (hb : c.code = cc) {own ref C : String} {T : u_T} {N ci index : Nat} {Ts : List Cond} (hts : ∀ w ∈ Ts, w.before args s = true) (hin : ∀ w ∈ u_ws C T N, w ∈ Ts) (ty0 : Nat → FieldType) (hty : ∀ k, k < N → parseFieldDescriptor (T k).2.2.1 = some (ty0 k)) (hnm : ∀ a, a < N → ∀ b, b < N → a ≠ b → (T a).2.1 ≠ (T b).2.1) (hown : s.vm.findClass own = some m.cls) (hK : va_K (fD E) vwCl (fT E) s) (hR : HR E σ H) (hS : va_S (fA E) H0 H locs) {k : Nat} (hk : σ.2.2.2 a = k) (h0 : k ≠ 0) {fs : List Value} (hc : cellK (fC E) k σ a = .inr (ci, fs)) (hcl : vwCl[ci]? = some (C, T, N)) (j : Nat) (hj : j < N) (hlink : (Cond.fieldLink own index ref (T j).2.1 (T j).2.2.1).before args s = true) (hsame : ∀ x, s.fieldFound? (T j).1 (T j).2.1 (T j).2.2.1 = some x → s.fieldFound? ref (T j).2.1 (T j).2.2.1 = some x) (hfin : (T j).2.2.2 = true) (hin2 : meth.name = "<init>") (hdecl : (T j).1 = own) {ty : FieldType} {v : Value} (hd : parseFieldDescriptor (T j).2.2.1 = some ty) (hn : narrow ty v = v) (hfit : fits ty v = true) (hl : j < fs.length) {σ' : Sg} (hset : SetAt E σ σ' a (.inr (ci, fs.set j v)))
    (hdg : decode cc pc = .ok (.putfield index, 3)) (kk : ∀ (H1 : Heap) (locs1 : List Loc), HR E σ' H1 → va_S (fA E) H0 H1 locs1 → W p l e R s m args below meth c H1 locs1 cells slots Q (F0 m (pc + 3) ls rest)) : W p l e R s m args below meth c H locs cells slots Q (F0 m pc ls (v :: .ref a :: rest)) := by
  obtain ⟨⟨ws, hP, hD, hw⟩, -⟩ := hR
  have h1 := hw a (by rw [hk]; exact h0)
  rw [hk, hc] at h1
  obtain ⟨n, hn1⟩ := List.getElem?_of_mem h1
  exact va_putF hx hb hts hin ty0 hty hnm hown hK hP hD hS n hn1 hcl j hj hlink hsame hfin hin2 hdecl hd hn hfit hl hdg (fun H1 locs1 hP1 hD1 hS1 => kk H1 locs1 (HR.to hset hD hw hn1 hP1 hD1) hS1)
theorem f_iald (hx : p.tables.exec = Jvm.exec) (hb : c.code = cc) (hK : va_K (fD E) vwCl (fT E) s) (hR : HR E σ H) {k : Nat} (hk : σ.2.2.2 a = k) (h0 : k ≠ 0) {n : Nat} {f : Nat → Int32} (hc : cellK (fC E) k σ a = .inl (fC E 0, n, .inl f)) {i : Int32} (hin : vp_in i n) (hdg : decode cc pc = .ok (.iaload, 1))
    (kk : W p l e R s m args below meth c H locs cells slots Q (F0 m (pc + 1) ls (.int (f i.toNatClampNeg) :: rest))) : W p l e R s m args below meth c H locs cells slots Q (F0 m pc ls (.int i :: .ref a :: rest)) :=
  va_iald hx hb hK (hR.one hk h0 hc) 0 0 rfl rfl hin hdg kk
theorem f_zald (hx : p.tables.exec = Jvm.exec) (hb : c.code = cc) (hK : va_K (fD E) vwCl (fT E) s) (hR : HR E σ H) {k : Nat} (hk : σ.2.2.2 a = k) (h0 : k ≠ 0) {n : Nat} {f : Nat → Int32} (hc : cellK (fC E) k σ a = .inl (fC E 1, n, .inl f)) {i : Int32} (hin : vp_in i n) (hdg : decode cc pc = .ok (.baload, 1))
    (kk : W p l e R s m args below meth c H locs cells slots Q (F0 m (pc + 1) ls (.int (f i.toNatClampNeg) :: rest))) : W p l e R s m args below meth c H locs cells slots Q (F0 m pc ls (.int i :: .ref a :: rest)) :=
  va_zald hx hb hK (hR.one hk h0 hc) 0 1 rfl rfl hin hdg kk
theorem f_lald (hx : p.tables.exec = Jvm.exec) (hb : c.code = cc) (hK : va_K (fD E) vwCl (fT E) s) (hR : HR E σ H) {k : Nat} (hk : σ.2.2.2 a = k) (h0 : k ≠ 0) {n : Nat} {f : Nat → Int64} (hc : cellK (fC E) k σ a = .inl (fC E 2, n, .inr (.inl f))) {i : Int32} (hin : vp_in i n) (hdg : decode cc pc = .ok (.laload, 1))
    (kk : W p l e R s m args below meth c H locs cells slots Q (F0 m (pc + 1) ls (.long (f i.toNatClampNeg) :: rest))) : W p l e R s m args below meth c H locs cells slots Q (F0 m pc ls (.int i :: .ref a :: rest)) :=
  va_lald hx hb hK (hR.one hk h0 hc) 0 2 rfl rfl hin hdg kk
theorem f_aald (hx : p.tables.exec = Jvm.exec) (hb : c.code = cc) (hK : va_K (fD E) vwCl (fT E) s) (hR : HR E σ H) {k : Nat} (hk : σ.2.2.2 a = k) (h0 : k ≠ 0) (t0 : Nat) {C : String} {n : Nat} {f : Nat → Option Nat} (hc : cellK (fC E) k σ a = .inl (fC E t0, n, .inr (.inr (.inr (.inr f))))) (ht : (fT E)[t0]? = some (fC E t0, .object C)) {i : Int32} (hin : vp_in i n) (hdg : decode cc pc = .ok (.aaload, 1))
    (kk : W p l e R s m args below meth c H locs cells slots Q (F0 m (pc + 1) ls (va_rf (f i.toNatClampNeg) :: rest))) : W p l e R s m args below meth c H locs cells slots Q (F0 m pc ls (.int i :: .ref a :: rest)) :=
  va_aldq hx hb hK (hR.one hk h0 hc) 0 t0 rfl ht hin hdg kk
theorem f_alen (hx : p.tables.exec = Jvm.exec) (hb : c.code = cc) (hK : va_K (fD E) vwCl (fT E) s) (hR : HR E σ H) {k : Nat} (hk : σ.2.2.2 a = k) (h0 : k ≠ 0) (t0 : Nat) {x : vp_A} {ty : FieldType} (hc : cellK (fC E) k σ a = .inl (fC E t0, x)) (ht : (fT E)[t0]? = some (fC E t0, ty)) {v : Int32} (hv : Int32.ofNat x.1 = v) (hdg : decode cc pc = .ok (.arraylength, 1))
    (kk : W p l e R s m args below meth c H locs cells slots Q (F0 m (pc + 1) ls (.int v :: rest))) : W p l e R s m args below meth c H locs cells slots Q (F0 m pc ls (.ref a :: rest)) :=
  va_alen hx hb hK (hR.one hk h0 hc) 0 t0 rfl ht hv hdg kk
theorem f_iast (hx : p.tables.exec = Jvm.exec) (hb : c.code = cc) (hK : va_K (fD E) vwCl (fT E) s) (hR : HR E σ H) (hS : va_S (fA E) H0 H locs) {k : Nat} (hk : σ.2.2.2 a = k) (h0 : k ≠ 0) {n : Nat} {f : Nat → Int32} (hc : cellK (fC E) k σ a = .inl (fC E 0, n, .inl f)) {i x : Int32} (hin : vp_in i n) {σ' : Sg} (hset : SetAt E σ σ' a (.inl (fC E 0, n, .inl (upd f i.toNatClampNeg x)))) (hdg : decode cc pc = .ok (.iastore, 1))
    (kk : ∀ (H1 : Heap) (locs1 : List Loc), HR E σ' H1 → va_S (fA E) H0 H1 locs1 → W p l e R s m args below meth c H1 locs1 cells slots Q (F0 m (pc + 1) ls rest)) : W p l e R s m args below meth c H locs cells slots Q (F0 m pc ls (.int x :: .int i :: .ref a :: rest)) := by
  obtain ⟨⟨ws, hP, hD, hw⟩, -⟩ := hR
  have h1 := hw a (by rw [hk]; exact h0)
  rw [hk, hc] at h1
  obtain ⟨n1, hn1⟩ := List.getElem?_of_mem h1
  exact va_iast hx hb hK hP hD hS n1 0 hn1 rfl hin hdg (fun H1 locs1 hP1 hD1 hS1 => kk H1 locs1 (HR.to hset hD hw hn1 hP1 hD1) hS1)
theorem f_zast (hx : p.tables.exec = Jvm.exec) (hb : c.code = cc) (hK : va_K (fD E) vwCl (fT E) s) (hR : HR E σ H) (hS : va_S (fA E) H0 H locs) {k : Nat} (hk : σ.2.2.2 a = k) (h0 : k ≠ 0) {n : Nat} {f : Nat → Int32} (hc : cellK (fC E) k σ a = .inl (fC E 1, n, .inl f)) {i x : Int32} (hin : vp_in i n) {σ' : Sg} (hset : SetAt E σ σ' a (.inl (fC E 1, n, .inl (upd f i.toNatClampNeg (vp_nar .boolean x))))) (hdg : decode cc pc = .ok (.bastore, 1))
    (kk : ∀ (H1 : Heap) (locs1 : List Loc), HR E σ' H1 → va_S (fA E) H0 H1 locs1 → W p l e R s m args below meth c H1 locs1 cells slots Q (F0 m (pc + 1) ls rest)) : W p l e R s m args below meth c H locs cells slots Q (F0 m pc ls (.int x :: .int i :: .ref a :: rest)) := by
  obtain ⟨⟨ws, hP, hD, hw⟩, -⟩ := hR
  have h1 := hw a (by rw [hk]; exact h0)
  rw [hk, hc] at h1
  obtain ⟨n1, hn1⟩ := List.getElem?_of_mem h1
  exact va_zast hx hb hK hP hD hS n1 1 hn1 rfl hin hdg (fun H1 locs1 hP1 hD1 hS1 => kk H1 locs1 (HR.to hset hD hw hn1 hP1 hD1) hS1)
theorem f_last (hx : p.tables.exec = Jvm.exec) (hb : c.code = cc) (hK : va_K (fD E) vwCl (fT E) s) (hR : HR E σ H) (hS : va_S (fA E) H0 H locs) {k : Nat} (hk : σ.2.2.2 a = k) (h0 : k ≠ 0) {n : Nat} {f : Nat → Int64} (hc : cellK (fC E) k σ a = .inl (fC E 2, n, .inr (.inl f))) {i : Int32} {x : Int64} (hin : vp_in i n) {σ' : Sg} (hset : SetAt E σ σ' a (.inl (fC E 2, n, .inr (.inl (vp_updL f i.toNatClampNeg x))))) (hdg : decode cc pc = .ok (.lastore, 1))
    (kk : ∀ (H1 : Heap) (locs1 : List Loc), HR E σ' H1 → va_S (fA E) H0 H1 locs1 → W p l e R s m args below meth c H1 locs1 cells slots Q (F0 m (pc + 1) ls rest)) : W p l e R s m args below meth c H locs cells slots Q (F0 m pc ls (.long x :: .int i :: .ref a :: rest)) := by
  obtain ⟨⟨ws, hP, hD, hw⟩, -⟩ := hR
  have h1 := hw a (by rw [hk]; exact h0)
  rw [hk, hc] at h1
  obtain ⟨n1, hn1⟩ := List.getElem?_of_mem h1
  exact va_last hx hb hK hP hD hS n1 2 hn1 rfl hin hdg (fun H1 locs1 hP1 hD1 hS1 => kk H1 locs1 (HR.to hset hD hw hn1 hP1 hD1) hS1)
theorem f_aastN (hx : p.tables.exec = Jvm.exec) (hb : c.code = cc) (hK : va_K (fD E) vwCl (fT E) s) (hR : HR E σ H) (hS : va_S (fA E) H0 H locs) {k : Nat} (hk : σ.2.2.2 a = k) (h0 : k ≠ 0) (t0 : Nat) {C : String} {n : Nat} {f : Nat → Option Nat} (hc : cellK (fC E) k σ a = .inl (fC E t0, n, .inr (.inr (.inr (.inr f))))) (ht : (fT E)[t0]? = some (fC E t0, .object C)) {i : Int32} (hin : vp_in i n) {σ' : Sg} (hset : SetAt E σ σ' a (.inl (fC E t0, n, .inr (.inr (.inr (.inr (va_up f i.toNatClampNeg none))))))) (hdg : decode cc pc = .ok (.aastore, 1))
    (kk : ∀ (H1 : Heap) (locs1 : List Loc), HR E σ' H1 → va_S (fA E) H0 H1 locs1 → W p l e R s m args below meth c H1 locs1 cells slots Q (F0 m (pc + 1) ls rest)) : W p l e R s m args below meth c H locs cells slots Q (F0 m pc ls (.null :: .int i :: .ref a :: rest)) := by
  obtain ⟨⟨ws, hP, hD, hw⟩, -⟩ := hR
  have h1 := hw a (by rw [hk]; exact h0)
  rw [hk, hc] at h1
  obtain ⟨n1, hn1⟩ := List.getElem?_of_mem h1
  exact va_astqN hx hb hK hP hD hS n1 t0 hn1 ht hin hdg (fun H1 locs1 hP1 hD1 hS1 => kk H1 locs1 (HR.to hset hD hw hn1 hP1 hD1) hS1)
theorem f_aast (hx : p.tables.exec = Jvm.exec) (hb : c.code = cc) (hK : va_K (fD E) vwCl (fT E) s) (hR : HR E σ H) (hS : va_S (fA E) H0 H locs) {k : Nat} (hk : σ.2.2.2 a = k) (h0 : k ≠ 0) (t0 : Nat) {r : vw_C} {n : Nat} {f : Nat → Option Nat} (hc : cellK (fC E) k σ a = .inl (fC E t0, n, .inr (.inr (.inr (.inr f))))) (ht : (fT E)[t0]? = some (fC E t0, .object r.1)) {v k2 ci : Nat} {vs : List Value} (hk2 : σ.2.2.2 v = k2) (h02 : k2 ≠ 0) (hc2 : cellK (fC E) k2 σ v = .inr (ci, vs)) (hcl : vwCl[ci]? = some r) {i : Int32} (hin : vp_in i n) {σ' : Sg} (hset : SetAt E σ σ' a (.inl (fC E t0, n, .inr (.inr (.inr (.inr (va_up f i.toNatClampNeg (some v)))))))) (hdg : decode cc pc = .ok (.aastore, 1))
    (kk : ∀ (H1 : Heap) (locs1 : List Loc), HR E σ' H1 → va_S (fA E) H0 H1 locs1 → W p l e R s m args below meth c H1 locs1 cells slots Q (F0 m (pc + 1) ls rest)) : W p l e R s m args below meth c H locs cells slots Q (F0 m pc ls (.ref v :: .int i :: .ref a :: rest)) := by
  obtain ⟨⟨ws, hP, hD, hw⟩, -⟩ := hR
  have h1 := hw a (by rw [hk]; exact h0)
  rw [hk, hc] at h1
  obtain ⟨n1, hn1⟩ := List.getElem?_of_mem h1
  have h2 := hw v (by rw [hk2]; exact h02)
  rw [hk2, hc2] at h2
  obtain ⟨n2, hn2⟩ := List.getElem?_of_mem h2
  exact va_astq hx hb hK hP hD hS n1 t0 n2 ci hn1 ht hn2 hcl hin hdg (fun H1 locs1 hP1 hD1 hS1 => kk H1 locs1 (HR.to hset hD hw hn1 hP1 hD1) hS1)
end FR
