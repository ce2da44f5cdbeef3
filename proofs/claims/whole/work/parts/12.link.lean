/-! links of new, anewarray and checkcast -/
theorem cl_0_9 : Cond.classLink (RCn 0) 9 RC1 ∈ GW := (gwm (List.mem_of_getElem? (i := 34) (by decide +kernel)) rfl)
theorem cl_0_45 : Cond.classLink (RCn 0) 45 RC2 ∈ GW := (gwm (List.mem_of_getElem? (i := 474) (by decide +kernel)) rfl)
theorem cl_0_60 : Cond.classLink (RCn 0) 60 RC4 ∈ GW := (gwm (List.mem_of_getElem? (i := 349) (by decide +kernel)) rfl)
theorem cl_0_152 : Cond.classLink (RCn 0) 152 RC5 ∈ GW := (gwm (List.mem_of_getElem? (i := 598) (by decide +kernel)) rfl)
theorem cl_0 : ∀ q ∈ clT 0, ∀ r : vw_C, vwCl[q.2]? = some r → Cond.classLink (RCn 0) q.1 r.1 ∈ GW := List.forall_mem_cons.mpr ⟨fun r h => (by cases h; exact cl_0_9), List.forall_mem_cons.mpr ⟨fun r h => (by cases h), List.forall_mem_cons.mpr ⟨fun r h => (by cases h; exact cl_0_45), List.forall_mem_cons.mpr ⟨fun r h => (by cases h; exact cl_0_60), List.forall_mem_cons.mpr ⟨fun r h => (by cases h; exact cl_0_152), List.forall_mem_cons.mpr ⟨fun r h => (by cases h), List.forall_mem_cons.mpr ⟨fun r h => (by cases h), fun _ h => absurd h List.not_mem_nil⟩⟩⟩⟩⟩⟩⟩
theorem cl_1_9 : Cond.classLink (RCn 1) 9 RC2 ∈ GW := (gwm (List.mem_of_getElem? (i := 41) (by decide +kernel)) rfl)
theorem cl_1_17 : Cond.classLink (RCn 1) 17 RC7 ∈ GW := (gwm (List.mem_of_getElem? (i := 43) (by decide +kernel)) rfl)
theorem cl_1_24 : Cond.classLink (RCn 1) 24 RC8 ∈ GW := (gwm (List.mem_of_getElem? (i := 69) (by decide +kernel)) rfl)
theorem cl_1_31 : Cond.classLink (RCn 1) 31 RC3 ∈ GW := (gwm (List.mem_of_getElem? (i := 90) (by decide +kernel)) rfl)
theorem cl_1_38 : Cond.classLink (RCn 1) 38 RC9 ∈ GW := (gwm (List.mem_of_getElem? (i := 121) (by decide +kernel)) rfl)
theorem cl_1_73 : Cond.classLink (RCn 1) 73 RC4 ∈ GW := (gwm (List.mem_of_getElem? (i := 343) (by decide +kernel)) rfl)
theorem cl_1_83 : Cond.classLink (RCn 1) 83 RC5 ∈ GW := (gwm (List.mem_of_getElem? (i := 348) (by decide +kernel)) rfl)
theorem cl_1_172 : Cond.classLink (RCn 1) 172 RC6 ∈ GW := (gwm (List.mem_of_getElem? (i := 455) (by decide +kernel)) rfl)
theorem cl_1 : ∀ q ∈ clT 1, ∀ r : vw_C, vwCl[q.2]? = some r → Cond.classLink (RCn 1) q.1 r.1 ∈ GW := List.forall_mem_cons.mpr ⟨fun r h => (by cases h; exact cl_1_9), List.forall_mem_cons.mpr ⟨fun r h => (by cases h; exact cl_1_17), List.forall_mem_cons.mpr ⟨fun r h => (by cases h; exact cl_1_24), List.forall_mem_cons.mpr ⟨fun r h => (by cases h; exact cl_1_31), List.forall_mem_cons.mpr ⟨fun r h => (by cases h; exact cl_1_38), List.forall_mem_cons.mpr ⟨fun r h => (by cases h; exact cl_1_73), List.forall_mem_cons.mpr ⟨fun r h => (by cases h; exact cl_1_83), List.forall_mem_cons.mpr ⟨fun r h => (by cases h; exact cl_1_172), fun _ h => absurd h List.not_mem_nil⟩⟩⟩⟩⟩⟩⟩⟩
theorem cl_3_18 : Cond.classLink (RCn 3) 18 RC2 ∈ GW := (gwm (List.mem_of_getElem? (i := 96) (by decide +kernel)) rfl)
theorem cl_3 : ∀ q ∈ clT 3, ∀ r : vw_C, vwCl[q.2]? = some r → Cond.classLink (RCn 3) q.1 r.1 ∈ GW := List.forall_mem_cons.mpr ⟨fun r h => (by cases h; exact cl_3_18), fun _ h => absurd h List.not_mem_nil⟩
theorem cl_5_42 : Cond.classLink (RCn 5) 42 RC2 ∈ GW := (gwm (List.mem_of_getElem? (i := 605) (by decide +kernel)) rfl)
theorem cl_5 : ∀ q ∈ clT 5, ∀ r : vw_C, vwCl[q.2]? = some r → Cond.classLink (RCn 5) q.1 r.1 ∈ GW := List.forall_mem_cons.mpr ⟨fun r h => (by cases h; exact cl_5_42), fun _ h => absurd h List.not_mem_nil⟩
theorem cl_7_9 : Cond.classLink (RCn 7) 9 RC2 ∈ GW := (gwm (List.mem_of_getElem? (i := 49) (by decide +kernel)) rfl)
theorem cl_7 : ∀ q ∈ clT 7, ∀ r : vw_C, vwCl[q.2]? = some r → Cond.classLink (RCn 7) q.1 r.1 ∈ GW := List.forall_mem_cons.mpr ⟨fun r h => (by cases h; exact cl_7_9), fun _ h => absurd h List.not_mem_nil⟩
theorem cl_8_9 : Cond.classLink (RCn 8) 9 RC5 ∈ GW := (gwm (List.mem_of_getElem? (i := 75) (by decide +kernel)) rfl)
theorem cl_8 : ∀ q ∈ clT 8, ∀ r : vw_C, vwCl[q.2]? = some r → Cond.classLink (RCn 8) q.1 r.1 ∈ GW := List.forall_mem_cons.mpr ⟨fun r h => (by cases h; exact cl_8_9), fun _ h => absurd h List.not_mem_nil⟩
theorem cl_11_8 : Cond.classLink (RCn 11) 8 RC0 ∈ GW := (gwm (List.mem_of_getElem? (i := 26) (by decide +kernel)) rfl)
theorem cl_11_76 : Cond.classLink (RCn 11) 76 RC10 ∈ GW := (gwm (List.mem_of_getElem? (i := 848) (by decide +kernel)) rfl)
theorem cl_11 : ∀ q ∈ clT 11, ∀ r : vw_C, vwCl[q.2]? = some r → Cond.classLink (RCn 11) q.1 r.1 ∈ GW := List.forall_mem_cons.mpr ⟨fun r h => (by cases h; exact cl_11_8), List.forall_mem_cons.mpr ⟨fun r h => (by cases h; exact cl_11_76), fun _ h => absurd h List.not_mem_nil⟩⟩
theorem clOK {c idx ci : Nat} {r : vw_C} (h : lkp idx (clT c) = some ci) (hr : vwCl[ci]? = some r) : Cond.classLink (RCn c) idx r.1 ∈ GW := by
  have hm := lkp_mem h
  unfold clT at hm
  split at hm
  · exact cl_0 _ hm _ hr
  · exact cl_1 _ hm _ hr
  · exact cl_3 _ hm _ hr
  · exact cl_5 _ hm _ hr
  · exact cl_7 _ hm _ hr
  · exact cl_8 _ hm _ hr
  · exact cl_11 _ hm _ hr
  · cases hm
theorem ac_int : Cond.arrayClass .int ∈ GW := (gwm (List.mem_of_getElem? (i := 68) (by decide +kernel)) rfl)
theorem ac_boolean : Cond.arrayClass .boolean ∈ GW := (gwm (List.mem_of_getElem? (i := 957) (by decide +kernel)) rfl)
theorem ac_long : Cond.arrayClass .long ∈ GW := (gwm (List.mem_of_getElem? (i := 1132) (by decide +kernel)) rfl)
