/-! contracts over the store, and the walk's judgement WG -/
def RM (d mc ms : Nat) : Room := { frames := d, cells := mc, slots := ms, locals := 30 * d + 121 }
def BW : List Cond := tables_1.filter (fun w => match w with
  | .declares _ => true
  | .castable _ _ => true
  | _ => false)
def NL : List (String × Nat × MethodName) := [("ObjectDriver$Proc", 19, ⟨"ObjectDriver$Handles", "<init>", "()V"⟩), ("ObjectDriver$Proc", 26, ⟨"ObjectDriver$Area", "<init>", "()V"⟩), ("ObjectDriver$Proc", 33, ⟨"ObjectDriver$Draft", "<init>", "()V"⟩)]
def SL : List (Nat × String) := [(265, "there is no such process"), (28, "the process is alive"), (268, "the process is not alive"), (164, "no such part of a work"), (206, "no buffer whose work was taken begins there"), (211, "no such item"), (220, "no such part of an item")]
def NC : List (String × String) := [("java/lang/IllegalStateException", "java/lang/IllegalArgumentException"), ("java/util/NoSuchElementException", "java/lang/IllegalArgumentException"), ("java/util/NoSuchElementException", "java/lang/IllegalStateException")]
def AOs : List String := ["ObjectDriver$Proc", "ObjectDriver$Node", "ObjectDriver$Message", "java/lang/Object"]
/-- where the Class object of Object[] lies -/
def fm (E : FE) : Nat := E.2.1 999 0
/-- what of the start stays true throughout -/
def fZ (E : FE) (U : State) (H : Heap) : Prop :=
  (∀ C ∈ AOs, va_AO C U) ∧ (∀ w ∈ BW, va_Nw w U) ∧ (∀ q ∈ NL, va_Nw (.methodLinkNest q.1 q.2.1 q.2.2 "ObjectDriver") U) ∧ (∀ q ∈ SL, ∃ a, vk_R "ObjectDriver" q.1 q.2 a U) ∧ (∀ q ∈ NC, va_Nc q.1 q.2 U) ∧
  vx_Zq Bundle.tN "UNASSIGNED_STACK" Bundle.steD (fA E) U H ∧ vx_Zq Bundle.tN "SUPPRESSED_SENTINEL" Bundle.listD (fA E) U H ∧
  va_Z "java/util/ArrayList" "DEFAULTCAPACITY_EMPTY_ELEMENTDATA" "[Ljava/lang/Object;" (.ref (fe E)) (fA E) U H ∧ va_T (.object "java/lang/Object") (fe E) 0 (fun _ => .null) (fA E) U H ∧ va_Mi "[Ljava/lang/Object;" (fm E) U
theorem fZ.moved {E : FE} {u U : State} {H : Heap} (hW : u.WarmedH U.vm) (h : fZ E u H) : fZ E U H := by
  obtain ⟨h1, h2, h3, h4, h5, h6, h7, h8, h9, h10⟩ := h
  refine ⟨fun C hC => va_AO.moved hW.alike (h1 C hC), fun w hw => ?_, fun q hq => va_Nw.warmM hW (h3 q hq), fun q hq => ?_, fun q hq => va_Nc.moved hW.alike (h5 q hq), vx_Zq.moved hW.alike h6, vx_Zq.moved hW.alike h7, va_Z.moved hW.alike h8, va_T.moved hW.alike h9, va_Mi.moved hW.alike h10⟩
  · have hk := (List.mem_filter.mp hw).2
    have hb := h2 w hw
    cases w with
    | declares y => exact va_tabs rfl (rfl : (u.setVm U.vm).vm = U.vm) (Cond.before_warmed (args := #[]) hW _ trivial hb)
    | castable a b => exact va_Nw.warmC hW hb
    | _ => cases hk
  · obtain ⟨a, ha⟩ := h4 q hq
    exact ⟨a, vk_R.warm hW ha⟩
theorem fZ.kept {E : FE} {U : State} {H H1 : Heap} (h : fZ E U H) (hq : ∀ a : Nat, a < H.size → ¬ fA E a → H1[a]? = H[a]?) : fZ E U H1 := by
  obtain ⟨h1, h2, h3, h4, h5, h6, h7, h8, h9, h10⟩ := h
  exact ⟨h1, h2, h3, h4, h5, vx_Zq.kept h6 hq, vx_Zq.kept h7 hq, va_Z.kept h8 hq, va_T.kept h9 hq, h10⟩
def fS (E : FE) (σ : Sg) (U : State) : Prop := HR E σ U.heap ∧ va_K (fD E) vwCl (fT E) U ∧ fz E ≤ U.heap.size ∧ fZ E U U.heap
theorem fS.mk {E : FE} {σ : Sg} {s U : State} {H : Heap} {locs : List Loc} (hR : HR E σ H) (hK : va_K (fD E) vwCl (fT E) s) (hS : va_S (fA E) s.heap H locs) (hz : fz E ≤ s.heap.size) (hZ : fZ E s s.heap) (hU : U.heap = H) (hW : s.WarmedH U.vm) : fS E σ U := by
  refine ⟨by rw [hU]; exact hR, va_K.moved hW.alike hK, by rw [hU]; exact Nat.le_trans hz hS.1, ?_⟩
  rw [hU]
  exact fZ.kept (fZ.moved hW hZ) hS.2.1
theorem fS.blind {E : FE} {σ : Sg} {av : List Value} : FrameBlind (va_Pc av (fS E σ)) := by
  intro a U g mk h
  obtain ⟨h1, hR, hK, hz, hZ⟩ := h
  exact ⟨h1, hR, va_K.moved (u := U) (U := U.calling g mk a) (Vm.Alike.refl U.vm) hK, hz, fZ.moved (u := U) (U := U.calling g mk a) (State.WarmedH.refl U) hZ⟩
/-- a method's end: its answer and the store; what it throws and the store -/
def Qc (E : FE) (Qr : Option MV → Sg → Prop) : Array Value → State → Outcome → State → Prop := fun _ st oc t => (∃ (r : Option MV) (σ : Sg), oc = .returned (r.map toV) ∧ Qr r σ ∧ HR E σ t.heap) ∧ va_F (fA E) st t
def Xc (E : FE) (Qt : String → Sg → Prop) : String → State → State → Prop := fun X st t => (∃ σ : Sg, Qt X σ ∧ HR E σ t.heap) ∧ va_F (fA E) st t
def wsM (mid : Nat) : List Cond := mW mid :: GW
/-- the contract of the method mid on the values av in the store σ: within d frames, mc cells and ms slots it returns with Qr or throws with Qt -/
def CT (l : Launch) (E : FE) (d mid : Nat) (av : List MV) (σ : Sg) (mc ms : Nat) (Qr : Option MV → Sg → Prop) (Qt : String → Sg → Prop) : Prop := vx_Met l (mY mid) (wsM mid) (RM d mc ms) (va_Pc (av.map toV) (fS E σ)) (Qc E Qr) (Xc E Qt) mc ms (fA E)
/-- what a walk carries from its entry on -/
def fW (p : Program) (s : State) (m : MethodId) (args : Array Value) (meth : Method) (c : Code) (mid : Nat) (E : FE) : Prop :=
  p.tables.exec = Jvm.exec ∧ c.code = mB mid ∧ c.maxLocals = mL mid ∧ meth.sig.returnType = mR mid ∧ s.vm.findClass (mY mid).cls = some m.cls ∧ (∀ w ∈ GW, w.before args s = true) ∧ meth.locks = false ∧ meth.name = (mY mid).name ∧ va_K (fD E) vwCl (fT E) s ∧ fz E ≤ s.heap.size ∧ fZ E s s.heap ∧ c.exceptionTable.toList = tableOf (mH mid)
/-- place, locals, stack, store, cells and slots made -/
abbrev MS : Type := Nat × List (Nat × MV) × List MV × Sg × Nat × Nat
def ilen : Instr → Nat
  | .bipush _ | .iload _ | .aload _ | .istore _ | .astore _ | .newarray _ | .ldc _ => 2
  | .sipush _ | .getstatic _ | .if_icmp _ _ | .if_acmp _ _ | .ifCond _ _ | .ifnull _ | .ifnonnull _ | .goto _ | .iinc _ _ | .getfield _ | .putfield _ | .invokevirtual _ | .invokespecial _ | .invokestatic _ | .new _ | .anewarray _ | .checkcast _ | .ldc_w _ => 3
  | _ => 1
def isSw : Instr → Bool
  | .tableswitch .. | .lookupswitch .. => true
  | _ => false
def ioff : Instr → Option Int
  | .if_icmp _ o | .if_acmp _ o | .ifCond _ o | .ifnull o | .ifnonnull o | .goto o => some o
  | _ => none
def tgB (q : Nat × Instr × Nat × Nat) : Bool := (isSw q.2.1 || q.2.2.1 == ilen q.2.1) && (match ioff q.2.1 with
  | some o => (q.1 : Int) + o == (q.2.2.2 : Int)
  | none => true)
def ist : Instr → Option Nat
  | .istore k | .astore k => some k
  | .istore_n k | .astore_n k => some (k : Nat)
  | _ => none
def stB (n : Nat) (q : Nat × Instr × Nat × Nat) : Bool := match ist q.2.1 with
  | some k => decide (k < n)
  | none => true
def mOK (mid : Nat) : Prop := (mY mid).cls = RCn (cnoM mid) ∧ ∀ q ∈ insL mid, decode (mB mid) q.1 = .ok (q.2.1, q.2.2.1) ∧ tgB q = true ∧ stB (mL mid) q = true
def lsV (ls : List (Nat × MV)) : List (Nat × Value) := ls.map (fun q => (q.1, toV q.2))
def WG (l : Launch) (E : FE) (R : Room) (mid : Nat) (args : Array Value) (XX : State → Prop) (QF : State → List Frame → State → Prop) (S : MS) : Prop :=
  mOK mid → ∀ (p : Program) (e : Env) (s : State) (m : MethodId) (below : List Frame) (meth : Method) (c : Code) (H : Heap) (locs : List Loc) (arr : Array Slot),
    XX s → fW p s m args meth c mid E → HR E S.2.2.2.1 H → va_S (fA E) s.heap H locs → lv_has arr (mL mid) (lsV S.2.1) →
    W p l e R s m args below meth c H locs S.2.2.2.2.1 S.2.2.2.2.2 (QF s below) (F0 m S.1 arr (S.2.2.1.map toV))
/-- the judgement in a method's body -/
abbrev WP (l : Launch) (E : FE) (d mid : Nat) (av : List MV) (mc ms : Nat) (Qr : Option MV → Sg → Prop) (Qt : String → Sg → Prop) (S : MS) : Prop :=
  WG l E (RM d mc ms) mid (av.map toV).toArray (fun _ => True) (fun s below => vx_MQ below (Qc E Qr) (Xc E Qt) (av.map toV).toArray s mc ms (fA E)) S
def argL : Nat → List MV → List (Nat × MV)
  | _, [] => []
  | i, .inr (.inr v) :: vs => (i, vL v) :: argL (i + 2) vs
  | i, v :: vs => (i, v) :: argL (i + 1) vs
theorem argL_V : ∀ (vs : List MV) (i : Nat), lsV (argL i vs) = lv_args i (vs.map toV)
  | [], _ => rfl
  | .inl v :: vs, i => by
    show (i, toV (.inl v)) :: lsV (argL (i + 1) vs) = _
    rw [argL_V vs]; rfl
  | .inr (.inr v) :: vs, i => by
    show (i, toV (.inr (.inr v))) :: lsV (argL (i + 2) vs) = _
    rw [argL_V vs]; rfl
  | .inr (.inl v) :: vs, i => by
    show (i, toV (.inr (.inl v))) :: lsV (argL (i + 1) vs) = _
    rw [argL_V vs]
    cases v <;> rfl
theorem CT.of {l : Launch} {E : FE} {d mid : Nat} {av : List MV} {σ : Sg} {mc ms : Nat} {Qr : Option MV → Sg → Prop} {Qt : String → Sg → Prop} (ok : mOK mid) (hy : plainName (mY mid).cls = true) (hm : mW mid = .code (mY mid) (mB mid) (mL mid) (mR mid)) (hh : mH mid = []) (hlen : (lg_sl (av.map toV)).length ≤ mL mid)
    (body : WP l E d mid av mc ms Qr Qt (0, argL 0 av, [], σ, 0, 0)) : CT l E d mid av σ mc ms Qr Qt := by
  refine vx_ofW (cc := mB mid) (maxL := mL mid) (ret := mR mid) (ws' := GW) hy (by unfold wsM; rw [hm]) ?_
  intro p e s m args below meth c s₁ B hml ht hv
  obtain ⟨rfl, hR, hK, hz, hZ⟩ := hv
  have hl := lv_entry (av.map toV) (n := mL mid) hlen
  rw [lg_entry_eq]
  generalize (lg_sl (av.map toV) ++ List.replicate (mL mid - (lg_sl (av.map toV)).length) Slot.unset).toArray = arr at hl ⊢
  have hts := atoms_spec (ws := wsM mid) B.pre
  refine body ok p e s m below meth c s.heap [] arr trivial ⟨B.exec, B.bytes, hml, B.returns, findClass_of_methodNamed B.named, fun w hw => hts w (List.mem_cons_of_mem _ hw), B.notSynchronized, (name_of_methodNamed B.named B.method).1, hK, hz, hZ, ?_⟩ hR va_S.rf (by rw [argL_V]; exact hl)
  rw [hh]
  exact List.eq_nil_iff_forall_not_mem.mpr (fun x hx => ht x hx)
theorem CT.ofH {l : Launch} {E : FE} {d mid : Nat} {av : List MV} {σ : Sg} {mc ms : Nat} {Qr : Option MV → Sg → Prop} {Qt : String → Sg → Prop} (ok : mOK mid) (hy : plainName (mY mid).cls = true) (hm : mW mid = .codeWith (mY mid) (mB mid) (mL mid) (mR mid) (mH mid)) (hlen : (lg_sl (av.map toV)).length ≤ mL mid)
    (body : WP l E d mid av mc ms Qr Qt (0, argL 0 av, [], σ, 0, 0)) : CT l E d mid av σ mc ms Qr Qt := by
  refine vx_ofWH (cc := mB mid) (maxL := mL mid) (ret := mR mid) (hh := mH mid) (ws' := GW) hy (by unfold wsM; rw [hm]) ?_
  intro p e s m args below meth c s₁ B hml hv
  obtain ⟨rfl, hR, hK, hz, hZ⟩ := hv
  have hl := lv_entry (av.map toV) (n := mL mid) hlen
  rw [lg_entry_eq]
  generalize (lg_sl (av.map toV) ++ List.replicate (mL mid - (lg_sl (av.map toV)).length) Slot.unset).toArray = arr at hl ⊢
  have hts := atoms_spec (ws := wsM mid) B.pre
  exact body ok p e s m below meth c s.heap [] arr trivial ⟨B.exec, B.bytes, hml, B.returns, findClass_of_methodNamed B.named, fun w hw => hts w (List.mem_cons_of_mem _ hw), B.notSynchronized, (name_of_methodNamed B.named B.method).1, hK, hz, hZ, vx_table (x := mY mid) B (hm ▸ hts _ List.mem_cons_self)⟩ hR va_S.rf (by rw [argL_V]; exact hl)
