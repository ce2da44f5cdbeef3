/-! the start: classes, array classes, strings, statics: the environment -/
theorem vkR_of {args : Array Value} {s : State} {k : Nat} {tx : String} (h1 : (Cond.stringRef "ObjectDriver" k tx).before args s = true) (h2 : (Cond.exactly (.string "ObjectDriver" k) "java/lang/String").before args s = true) : ∃ a, vk_R "ObjectDriver" k tx a s := by
  obtain ⟨a, c, cell, kk, ha, -⟩ := Cond.exactly_spec h2
  exact ⟨a, vk_R.of h1 ha⟩
theorem arr_of {args : Array Value} {s : State} {ty : FieldType} (hty : ∀ C, ty ≠ .object C) (h : (Cond.arrayClass ty).before args s = true) : ∃ cA : ClassId, ArrOfT s cA ty ∧ va_RA s cA ty := by
  obtain ⟨cA, kA, comp, h1, h2, h3⟩ := Cond.arrayClass_spec h
  refine ⟨cA, fun n z => ⟨fun k h => (by cases h), kA, h2, comp, h3⟩, ?_⟩
  cases ty with
  | object C => exact absurd rfl (hty C)
  | _ => exact h1
theorem arr_ofO {args : Array Value} {s : State} {C : String} (h : (Cond.arrayOver (.object C)).before args s = true) : ∃ cA : ClassId, ArrOfT s cA (.object C) ∧ va_RA s cA (.object C) := by
  obtain ⟨comp, cA, kA, h1, -, h3, h4, h5⟩ := Cond.arrayOver_spec h
  exact ⟨cA, fun n z => ⟨fun k h => (by cases h), kA, h3, comp, h4⟩, kA, comp, h3, h4, h1, h5⟩
set_option maxRecDepth 100000 in
set_option maxHeartbeats 4000000 in
theorem env_start {args : Array Value} {s : State} (hts : ∀ w ∈ lw_tbl, w.before args s = true) (hg : (Jvm.Cond.and given_1 narrow_1).before args s = true) : ∃ E : FE, fz E = s.heap.size ∧ va_K (fD E) vwCl (fT E) s ∧ fZ E s s.heap := by
  have hT : ∀ w ∈ tables_1, w.before args s = true := fun w h => hts w (List.mem_append_right _ h)
  have hG : ∀ w ∈ GW, w.before args s = true := fun w h => hts w (List.mem_filter.mp h).1
  have hf := flat_of_before _ hg
  have hA : ∀ a : Nat, a < s.heap.size → ¬ s.heap.size ≤ a := fun a h => Nat.not_le.mpr h
  have hk : ∀ c : Nat, ∃ q : ClassId × (Nat → Nat), ∀ r : vw_C, vwCl[c]? = some r → u_Kn s r.1 r.2.1 r.2.2 q.1 q.2 := by
    intro c
    cases e : vwCl[c]? with
    | none => exact ⟨(0, fun _ => 0), fun r h => by cases h⟩
    | some r =>
      obtain ⟨p1, -, -, p4, -⟩ := vwOK c r e
      obtain ⟨cC, iS, h⟩ := u_known hG p1 (hG _ p4)
      exact ⟨(cC, iS), fun r9 h9 => by cases h9; exact h⟩
  obtain ⟨f, hf9⟩ := Classical.axiomOfChoice hk
  obtain ⟨a0, x0, y0⟩ := arr_of (ty := .int) (fun _ h => by cases h) (hT (.arrayClass .int) (List.mem_of_getElem? (i := 68) (by decide +kernel)))
  obtain ⟨a1, x1, y1⟩ := arr_of (ty := .boolean) (fun _ h => by cases h) (hT (.arrayClass .boolean) (List.mem_of_getElem? (i := 957) (by decide +kernel)))
  obtain ⟨a2, x2, y2⟩ := arr_of (ty := .long) (fun _ h => by cases h) (hT (.arrayClass .long) (List.mem_of_getElem? (i := 1132) (by decide +kernel)))
  obtain ⟨a3, x3, y3⟩ := arr_ofO (hT (.arrayOver (.object "ObjectDriver$Proc")) (List.mem_of_getElem? (i := 35) (by decide +kernel)))
  obtain ⟨a4, x4, y4⟩ := arr_ofO (hT (.arrayOver (.object "ObjectDriver$Node")) (List.mem_of_getElem? (i := 42) (by decide +kernel)))
  obtain ⟨a5, x5, y5⟩ := arr_ofO (hT (.arrayOver (.object "ObjectDriver$Message")) (List.mem_of_getElem? (i := 76) (by decide +kernel)))
  obtain ⟨a6, x6, y6⟩ := arr_ofO (hT (.arrayOver (.object "java/lang/Object")) (List.mem_of_getElem? (i := 421) (by decide +kernel)))
  obtain ⟨mi, hmi⟩ := va_Mi.of (hf (.isRef (.mirror "[Ljava/lang/Object;")) (by decide +kernel))
  obtain ⟨ea, he1, he2⟩ := va_Tof (tm := .static "java/util/ArrayList" "DEFAULTCAPACITY_EMPTY_ELEMENTDATA" "[Ljava/lang/Object;") (ty := .object "java/lang/Object") (N := 0) (f := fun _ => .null) (A := fun q => s.heap.size ≤ q) (by decide) (hf (.arrayOf (.static "java/util/ArrayList" "DEFAULTCAPACITY_EMPTY_ELEMENTDATA" "[Ljava/lang/Object;") (.object "java/lang/Object")) (by decide +kernel)) (va_eqt (hf (.eq (.length (.static "java/util/ArrayList" "DEFAULTCAPACITY_EMPTY_ELEMENTDATA" "[Ljava/lang/Object;")) (.int 0)) (by decide +kernel))) (fun j h => absurd h (Nat.not_lt_zero j)) hA
  refine ⟨(fun c => (f c).1, fun c => if c = 999 then fun _ => mi else (f c).2, fun t => match t with
    | 0 => a0
    | 1 => a1
    | 2 => a2
    | 3 => a3
    | 4 => a4
    | 5 => a5
    | _ => a6, s.heap.size, ea), rfl, ⟨fun c q hq => ?_, fun k q hk => ?_⟩, ?_⟩
  · have h9 : c ≠ 999 := by
      intro e
      rw [e] at hq
      cases hq
    show u_Kn s q.1 q.2.1 q.2.2 (f c).1 (if c = 999 then fun _ => mi else (f c).2)
    rw [if_neg h9]
    exact hf9 c q hq
  · match k, hk with
    | 0, hk => cases hk; exact ⟨x0, y0⟩
    | 1, hk => cases hk; exact ⟨x1, y1⟩
    | 2, hk => cases hk; exact ⟨x2, y2⟩
    | 3, hk => cases hk; exact ⟨x3, y3⟩
    | 4, hk => cases hk; exact ⟨x4, y4⟩
    | 5, hk => cases hk; exact ⟨x5, y5⟩
    | 6, hk => cases hk; exact ⟨x6, y6⟩
    | k + 7, hk => cases hk
  · refine ⟨List.forall_mem_cons.mpr ⟨va_AO.of (hT (.arrayOver (.object "ObjectDriver$Proc")) (List.mem_of_getElem? (i := 35) (by decide +kernel))), List.forall_mem_cons.mpr ⟨va_AO.of (hT (.arrayOver (.object "ObjectDriver$Node")) (List.mem_of_getElem? (i := 42) (by decide +kernel))), List.forall_mem_cons.mpr ⟨va_AO.of (hT (.arrayOver (.object "ObjectDriver$Message")) (List.mem_of_getElem? (i := 76) (by decide +kernel))), List.forall_mem_cons.mpr ⟨va_AO.of (hT (.arrayOver (.object "java/lang/Object")) (List.mem_of_getElem? (i := 421) (by decide +kernel))), fun _ h => absurd h List.not_mem_nil⟩⟩⟩⟩, fun w hw => ?_, List.forall_mem_cons.mpr ⟨va_any (A := args) rfl (hT (.methodLinkNest "ObjectDriver$Proc" 19 ⟨"ObjectDriver$Handles", "<init>", "()V"⟩ "ObjectDriver") (List.mem_of_getElem? (i := 45) (by decide +kernel))), List.forall_mem_cons.mpr ⟨va_any (A := args) rfl (hT (.methodLinkNest "ObjectDriver$Proc" 26 ⟨"ObjectDriver$Area", "<init>", "()V"⟩ "ObjectDriver") (List.mem_of_getElem? (i := 71) (by decide +kernel))), List.forall_mem_cons.mpr ⟨va_any (A := args) rfl (hT (.methodLinkNest "ObjectDriver$Proc" 33 ⟨"ObjectDriver$Draft", "<init>", "()V"⟩ "ObjectDriver") (List.mem_of_getElem? (i := 92) (by decide +kernel))), fun _ h => absurd h List.not_mem_nil⟩⟩⟩, List.forall_mem_cons.mpr ⟨vkR_of (hT (.stringRef "ObjectDriver" 265 "there is no such process") (List.mem_of_getElem? (i := 258) (by decide +kernel))) (hf (.exactly (.string "ObjectDriver" 265) "java/lang/String") (by decide +kernel)), List.forall_mem_cons.mpr ⟨vkR_of (hT (.stringRef "ObjectDriver" 28 "the process is alive") (List.mem_of_getElem? (i := 294) (by decide +kernel))) (hf (.exactly (.string "ObjectDriver" 28) "java/lang/String") (by decide +kernel)), List.forall_mem_cons.mpr ⟨vkR_of (hT (.stringRef "ObjectDriver" 268 "the process is not alive") (List.mem_of_getElem? (i := 312) (by decide +kernel))) (hf (.exactly (.string "ObjectDriver" 268) "java/lang/String") (by decide +kernel)), List.forall_mem_cons.mpr ⟨vkR_of (hT (.stringRef "ObjectDriver" 164 "no such part of a work") (List.mem_of_getElem? (i := 728) (by decide +kernel))) (hf (.exactly (.string "ObjectDriver" 164) "java/lang/String") (by decide +kernel)), List.forall_mem_cons.mpr ⟨vkR_of (hT (.stringRef "ObjectDriver" 206 "no buffer whose work was taken begins there") (List.mem_of_getElem? (i := 782) (by decide +kernel))) (hf (.exactly (.string "ObjectDriver" 206) "java/lang/String") (by decide +kernel)), List.forall_mem_cons.mpr ⟨vkR_of (hT (.stringRef "ObjectDriver" 211 "no such item") (List.mem_of_getElem? (i := 783) (by decide +kernel))) (hf (.exactly (.string "ObjectDriver" 211) "java/lang/String") (by decide +kernel)), List.forall_mem_cons.mpr ⟨vkR_of (hT (.stringRef "ObjectDriver" 220 "no such part of an item") (List.mem_of_getElem? (i := 784) (by decide +kernel))) (hf (.exactly (.string "ObjectDriver" 220) "java/lang/String") (by decide +kernel)), fun _ h => absurd h List.not_mem_nil⟩⟩⟩⟩⟩⟩⟩, List.forall_mem_cons.mpr ⟨va_Nc.of (hf (.not (.castable "java/lang/IllegalStateException" "java/lang/IllegalArgumentException")) (by decide +kernel)), List.forall_mem_cons.mpr ⟨va_Nc.of (hf (.not (.castable "java/util/NoSuchElementException" "java/lang/IllegalArgumentException")) (by decide +kernel)), List.forall_mem_cons.mpr ⟨va_Nc.of (hf (.not (.castable "java/util/NoSuchElementException" "java/lang/IllegalStateException")) (by decide +kernel)), fun _ h => absurd h List.not_mem_nil⟩⟩⟩, vx_Zqof (hT (.laysStatic "java/lang/Throwable" "UNASSIGNED_STACK" "[Ljava/lang/StackTraceElement;") (List.mem_of_getElem? (i := 244) (by decide +kernel))) (hT (.initialized "java/lang/Throwable") (List.mem_of_getElem? (i := 10) (by decide +kernel))) (hf (.isRef (.static "java/lang/Throwable" "UNASSIGNED_STACK" "[Ljava/lang/StackTraceElement;")) (by decide +kernel)) hA, vx_Zqof (hT (.laysStatic "java/lang/Throwable" "SUPPRESSED_SENTINEL" "Ljava/util/List;") (List.mem_of_getElem? (i := 246) (by decide +kernel))) (hT (.initialized "java/lang/Throwable") (List.mem_of_getElem? (i := 10) (by decide +kernel))) (hf (.isRef (.static "java/lang/Throwable" "SUPPRESSED_SENTINEL" "Ljava/util/List;")) (by decide +kernel)) hA, va_Zof (hT (.laysStatic "java/util/ArrayList" "DEFAULTCAPACITY_EMPTY_ELEMENTDATA" "[Ljava/lang/Object;") (List.mem_of_getElem? (i := 134) (by decide +kernel))) (hT (.initialized "java/util/ArrayList") (List.mem_of_getElem? (i := 8) (by decide +kernel))) he1 hA, he2, hmi⟩
    have h1 := (List.mem_filter.mp hw).1
    have h2 := (List.mem_filter.mp hw).2
    cases w with
    | declares y => exact va_any (A := args) rfl (hT _ h1)
    | castable a b => exact va_any (A := args) rfl (hT _ h1)
    | _ => cases h2
