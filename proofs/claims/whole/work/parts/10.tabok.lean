/-! the tables' words for fields, places and kinds, by program -/
theorem gwm {w : Cond} (h : w ∈ tables_1) (g : goodWord w = true) : w ∈ GW := List.mem_filter.mpr ⟨List.mem_append_right _ h, g⟩
theorem gw_good : ∀ w ∈ GW, goodWord w = true := fun w h => (List.mem_filter.mp h).2
theorem fl_0_11 : Cond.fieldLink (RCn 0) 11 "ObjectDriver" (TC0 0).2.1 (TC0 0).2.2.1 ∈ GW := (gwm (List.mem_of_getElem? (i := 197) (by decide +kernel)) rfl)
theorem fl_0_22 : Cond.fieldLink (RCn 0) 22 "ObjectDriver$Proc" (TC1 8).2.1 (TC1 8).2.2.1 ∈ GW := (gwm (List.mem_of_getElem? (i := 164) (by decide +kernel)) rfl)
theorem fl_0_33 : Cond.fieldLink (RCn 0) 33 "ObjectDriver$Proc" (TC1 9).2.1 (TC1 9).2.2.1 ∈ GW := (gwm (List.mem_of_getElem? (i := 166) (by decide +kernel)) rfl)
theorem fl_0_40 : Cond.fieldLink (RCn 0) 40 "ObjectDriver" (TC0 1).2.1 (TC0 1).2.2.1 ∈ GW := (gwm (List.mem_of_getElem? (i := 198) (by decide +kernel)) rfl)
theorem fl_0_44 : Cond.fieldLink (RCn 0) 44 "ObjectDriver$Node" (TC2 0).2.1 (TC2 0).2.2.1 ∈ GW := (gwm (List.mem_of_getElem? (i := 482) (by decide +kernel)) rfl)
theorem fl_0_56 : Cond.fieldLink (RCn 0) 56 "ObjectDriver$Proc" (TC1 5).2.1 (TC1 5).2.2.1 ∈ GW := (gwm (List.mem_of_getElem? (i := 159) (by decide +kernel)) rfl)
theorem fl_0_77 : Cond.fieldLink (RCn 0) 77 "ObjectDriver$Proc" (TC1 1).2.1 (TC1 1).2.2.1 ∈ GW := (gwm (List.mem_of_getElem? (i := 151) (by decide +kernel)) rfl)
theorem fl_0_88 : Cond.fieldLink (RCn 0) 88 "ObjectDriver$Proc" (TC1 4).2.1 (TC1 4).2.2.1 ∈ GW := (gwm (List.mem_of_getElem? (i := 157) (by decide +kernel)) rfl)
theorem fl_0_105 : Cond.fieldLink (RCn 0) 105 "ObjectDriver$Node" (TC2 2).2.1 (TC2 2).2.2.1 ∈ GW := (gwm (List.mem_of_getElem? (i := 489) (by decide +kernel)) rfl)
theorem fl_0_108 : Cond.fieldLink (RCn 0) 108 "ObjectDriver$Proc" (TC1 10).2.1 (TC1 10).2.2.1 ∈ GW := (gwm (List.mem_of_getElem? (i := 168) (by decide +kernel)) rfl)
theorem fl_0_123 : Cond.fieldLink (RCn 0) 123 "ObjectDriver$Work" (TC4 0).2.1 (TC4 0).2.2.1 ∈ GW := (gwm (List.mem_of_getElem? (i := 357) (by decide +kernel)) rfl)
theorem fl_0_126 : Cond.fieldLink (RCn 0) 126 "ObjectDriver$Proc" (TC1 6).2.1 (TC1 6).2.2.1 ∈ GW := (gwm (List.mem_of_getElem? (i := 161) (by decide +kernel)) rfl)
theorem fl_0_140 : Cond.fieldLink (RCn 0) 140 "ObjectDriver$Proc" (TC1 11).2.1 (TC1 11).2.2.1 ∈ GW := (gwm (List.mem_of_getElem? (i := 170) (by decide +kernel)) rfl)
theorem fl_0_147 : Cond.fieldLink (RCn 0) 147 "ObjectDriver$Work" (TC4 1).2.1 (TC4 1).2.2.1 ∈ GW := (gwm (List.mem_of_getElem? (i := 360) (by decide +kernel)) rfl)
theorem fl_0_151 : Cond.fieldLink (RCn 0) 151 "ObjectDriver$Message" (TC5 9).2.1 (TC5 9).2.2.1 ∈ GW := (gwm (List.mem_of_getElem? (i := 631) (by decide +kernel)) rfl)
theorem fl_0_156 : Cond.fieldLink (RCn 0) 156 "ObjectDriver$Message" (TC5 1).2.1 (TC5 1).2.2.1 ∈ GW := (gwm (List.mem_of_getElem? (i := 611) (by decide +kernel)) rfl)
theorem fl_0_159 : Cond.fieldLink (RCn 0) 159 "ObjectDriver$Work" (TC4 2).2.1 (TC4 2).2.2.1 ∈ GW := (gwm (List.mem_of_getElem? (i := 362) (by decide +kernel)) rfl)
theorem fl_0_170 : Cond.fieldLink (RCn 0) 170 "ObjectDriver$Proc" (TC1 3).2.1 (TC1 3).2.2.1 ∈ GW := (gwm (List.mem_of_getElem? (i := 155) (by decide +kernel)) rfl)
theorem fl_0_183 : Cond.fieldLink (RCn 0) 183 "ObjectDriver$Message" (TC5 5).2.1 (TC5 5).2.2.1 ∈ GW := (gwm (List.mem_of_getElem? (i := 622) (by decide +kernel)) rfl)
theorem fl_0_186 : Cond.fieldLink (RCn 0) 186 "ObjectDriver$Proc" (TC1 2).2.1 (TC1 2).2.2.1 ∈ GW := (gwm (List.mem_of_getElem? (i := 153) (by decide +kernel)) rfl)
theorem fl_0_190 : Cond.fieldLink (RCn 0) 190 "ObjectDriver$Message" (TC5 8).2.1 (TC5 8).2.2.1 ∈ GW := (gwm (List.mem_of_getElem? (i := 629) (by decide +kernel)) rfl)
theorem fl_0_199 : Cond.fieldLink (RCn 0) 199 "ObjectDriver$Message" (TC5 0).2.1 (TC5 0).2.2.1 ∈ GW := (gwm (List.mem_of_getElem? (i := 609) (by decide +kernel)) rfl)
theorem fl_0_200 : Cond.fieldLink (RCn 0) 200 "ObjectDriver$Message" (TC5 3).2.1 (TC5 3).2.2.1 ∈ GW := (gwm (List.mem_of_getElem? (i := 616) (by decide +kernel)) rfl)
theorem fl_0_208 : Cond.fieldLink (RCn 0) 208 "ObjectDriver$Message" (TC5 4).2.1 (TC5 4).2.2.1 ∈ GW := (gwm (List.mem_of_getElem? (i := 619) (by decide +kernel)) rfl)
theorem fl_0_213 : Cond.fieldLink (RCn 0) 213 "ObjectDriver$Message" (TC5 6).2.1 (TC5 6).2.2.1 ∈ GW := (gwm (List.mem_of_getElem? (i := 624) (by decide +kernel)) rfl)
theorem fl_0_217 : Cond.fieldLink (RCn 0) 217 "ObjectDriver$Message" (TC5 7).2.1 (TC5 7).2.2.1 ∈ GW := (gwm (List.mem_of_getElem? (i := 626) (by decide +kernel)) rfl)
theorem fl_0_236 : Cond.fieldLink (RCn 0) 236 "ObjectDriver$Handles" (TC7 0).2.1 (TC7 0).2.2.1 ∈ GW := (gwm (List.mem_of_getElem? (i := 51) (by decide +kernel)) rfl)
theorem fl_0_241 : Cond.fieldLink (RCn 0) 241 "ObjectDriver$Handles" (TC7 3).2.1 (TC7 3).2.2.1 ∈ GW := (gwm (List.mem_of_getElem? (i := 58) (by decide +kernel)) rfl)
theorem fl_0_244 : Cond.fieldLink (RCn 0) 244 "ObjectDriver$Area" (TC8 1).2.1 (TC8 1).2.2.1 ∈ GW := (gwm (List.mem_of_getElem? (i := 79) (by decide +kernel)) rfl)
theorem fl_0_247 : Cond.fieldLink (RCn 0) 247 "ObjectDriver$Area" (TC8 2).2.1 (TC8 2).2.2.1 ∈ GW := (gwm (List.mem_of_getElem? (i := 82) (by decide +kernel)) rfl)
theorem fl_0_250 : Cond.fieldLink (RCn 0) 250 "ObjectDriver$Proc" (TC1 7).2.1 (TC1 7).2.2.1 ∈ GW := (gwm (List.mem_of_getElem? (i := 163) (by decide +kernel)) rfl)
theorem fl_0_253 : Cond.fieldLink (RCn 0) 253 "ObjectDriver$Draft" (TC3 3).2.1 (TC3 3).2.2.1 ∈ GW := (gwm (List.mem_of_getElem? (i := 108) (by decide +kernel)) rfl)
theorem fl_0_254 : Cond.fieldLink (RCn 0) 254 "ObjectDriver$Handles" (TC7 1).2.1 (TC7 1).2.2.1 ∈ GW := (gwm (List.mem_of_getElem? (i := 53) (by decide +kernel)) rfl)
theorem fl_0_257 : Cond.fieldLink (RCn 0) 257 "ObjectDriver$Handles" (TC7 2).2.1 (TC7 2).2.2.1 ∈ GW := (gwm (List.mem_of_getElem? (i := 55) (by decide +kernel)) rfl)
theorem fl_0_260 : Cond.fieldLink (RCn 0) 260 "ObjectDriver$Node" (TC2 1).2.1 (TC2 1).2.2.1 ∈ GW := (gwm (List.mem_of_getElem? (i := 486) (by decide +kernel)) rfl)
theorem fl_0_276 : Cond.fieldLink (RCn 0) 276 "ObjectDriver$Node" (TC2 3).2.1 (TC2 3).2.2.1 ∈ GW := (gwm (List.mem_of_getElem? (i := 491) (by decide +kernel)) rfl)
theorem fl_0_283 : Cond.fieldLink (RCn 0) 283 "ObjectDriver$Proc" (TC1 0).2.1 (TC1 0).2.2.1 ∈ GW := (gwm (List.mem_of_getElem? (i := 149) (by decide +kernel)) rfl)
theorem fl_0_302 : Cond.fieldLink (RCn 0) 302 "ObjectDriver$Draft" (TC3 2).2.1 (TC3 2).2.2.1 ∈ GW := (gwm (List.mem_of_getElem? (i := 104) (by decide +kernel)) rfl)
theorem fl_0_303 : Cond.fieldLink (RCn 0) 303 "ObjectDriver$Draft" (TC3 0).2.1 (TC3 0).2.2.1 ∈ GW := (gwm (List.mem_of_getElem? (i := 98) (by decide +kernel)) rfl)
theorem fl_0_304 : Cond.fieldLink (RCn 0) 304 "ObjectDriver$Draft" (TC3 1).2.1 (TC3 1).2.2.1 ∈ GW := (gwm (List.mem_of_getElem? (i := 101) (by decide +kernel)) rfl)
theorem fl_0 : ∀ q ∈ flT 0, ∃ T : u_T, (vwCl[q.2.1]?).map (fun r => r.2.1) = some T ∧ ∃ ref : String, Cond.fieldLink (RCn 0) q.1 ref (T q.2.2).2.1 (T q.2.2).2.2.1 ∈ GW ∧ (ref = (T q.2.2).1 ∨ Cond.sameField ref (T q.2.2).1 (T q.2.2).2.1 (T q.2.2).2.2.1 ∈ GW) := List.forall_mem_cons.mpr ⟨⟨_, rfl, _, fl_0_11, Or.inl rfl⟩, List.forall_mem_cons.mpr ⟨⟨_, rfl, _, fl_0_22, Or.inl rfl⟩, List.forall_mem_cons.mpr ⟨⟨_, rfl, _, fl_0_33, Or.inl rfl⟩, List.forall_mem_cons.mpr ⟨⟨_, rfl, _, fl_0_40, Or.inl rfl⟩, List.forall_mem_cons.mpr ⟨⟨_, rfl, _, fl_0_44, Or.inl rfl⟩, List.forall_mem_cons.mpr ⟨⟨_, rfl, _, fl_0_56, Or.inl rfl⟩, List.forall_mem_cons.mpr ⟨⟨_, rfl, _, fl_0_77, Or.inl rfl⟩, List.forall_mem_cons.mpr ⟨⟨_, rfl, _, fl_0_88, Or.inl rfl⟩, List.forall_mem_cons.mpr ⟨⟨_, rfl, _, fl_0_105, Or.inl rfl⟩, List.forall_mem_cons.mpr ⟨⟨_, rfl, _, fl_0_108, Or.inl rfl⟩, List.forall_mem_cons.mpr ⟨⟨_, rfl, _, fl_0_123, Or.inl rfl⟩, List.forall_mem_cons.mpr ⟨⟨_, rfl, _, fl_0_126, Or.inl rfl⟩, List.forall_mem_cons.mpr ⟨⟨_, rfl, _, fl_0_140, Or.inl rfl⟩, List.forall_mem_cons.mpr ⟨⟨_, rfl, _, fl_0_147, Or.inl rfl⟩, List.forall_mem_cons.mpr ⟨⟨_, rfl, _, fl_0_151, Or.inl rfl⟩, List.forall_mem_cons.mpr ⟨⟨_, rfl, _, fl_0_156, Or.inl rfl⟩, List.forall_mem_cons.mpr ⟨⟨_, rfl, _, fl_0_159, Or.inl rfl⟩, List.forall_mem_cons.mpr ⟨⟨_, rfl, _, fl_0_170, Or.inl rfl⟩, List.forall_mem_cons.mpr ⟨⟨_, rfl, _, fl_0_183, Or.inl rfl⟩, List.forall_mem_cons.mpr ⟨⟨_, rfl, _, fl_0_186, Or.inl rfl⟩, List.forall_mem_cons.mpr ⟨⟨_, rfl, _, fl_0_190, Or.inl rfl⟩, List.forall_mem_cons.mpr ⟨⟨_, rfl, _, fl_0_199, Or.inl rfl⟩, List.forall_mem_cons.mpr ⟨⟨_, rfl, _, fl_0_200, Or.inl rfl⟩, List.forall_mem_cons.mpr ⟨⟨_, rfl, _, fl_0_208, Or.inl rfl⟩, List.forall_mem_cons.mpr ⟨⟨_, rfl, _, fl_0_213, Or.inl rfl⟩, List.forall_mem_cons.mpr ⟨⟨_, rfl, _, fl_0_217, Or.inl rfl⟩, List.forall_mem_cons.mpr ⟨⟨_, rfl, _, fl_0_236, Or.inl rfl⟩, List.forall_mem_cons.mpr ⟨⟨_, rfl, _, fl_0_241, Or.inl rfl⟩, List.forall_mem_cons.mpr ⟨⟨_, rfl, _, fl_0_244, Or.inl rfl⟩, List.forall_mem_cons.mpr ⟨⟨_, rfl, _, fl_0_247, Or.inl rfl⟩, List.forall_mem_cons.mpr ⟨⟨_, rfl, _, fl_0_250, Or.inl rfl⟩, List.forall_mem_cons.mpr ⟨⟨_, rfl, _, fl_0_253, Or.inl rfl⟩, List.forall_mem_cons.mpr ⟨⟨_, rfl, _, fl_0_254, Or.inl rfl⟩, List.forall_mem_cons.mpr ⟨⟨_, rfl, _, fl_0_257, Or.inl rfl⟩, List.forall_mem_cons.mpr ⟨⟨_, rfl, _, fl_0_260, Or.inl rfl⟩, List.forall_mem_cons.mpr ⟨⟨_, rfl, _, fl_0_276, Or.inl rfl⟩, List.forall_mem_cons.mpr ⟨⟨_, rfl, _, fl_0_283, Or.inl rfl⟩, List.forall_mem_cons.mpr ⟨⟨_, rfl, _, fl_0_302, Or.inl rfl⟩, List.forall_mem_cons.mpr ⟨⟨_, rfl, _, fl_0_303, Or.inl rfl⟩, List.forall_mem_cons.mpr ⟨⟨_, rfl, _, fl_0_304, Or.inl rfl⟩, fun _ h => absurd h List.not_mem_nil⟩⟩⟩⟩⟩⟩⟩⟩⟩⟩⟩⟩⟩⟩⟩⟩⟩⟩⟩⟩⟩⟩⟩⟩⟩⟩⟩⟩⟩⟩⟩⟩⟩⟩⟩⟩⟩⟩⟩⟩
theorem fl_1_11 : Cond.fieldLink (RCn 1) 11 "ObjectDriver$Proc" (TC1 1).2.1 (TC1 1).2.2.1 ∈ GW := (gwm (List.mem_of_getElem? (i := 150) (by decide +kernel)) rfl)
theorem fl_1_20 : Cond.fieldLink (RCn 1) 20 "ObjectDriver$Proc" (TC1 2).2.1 (TC1 2).2.2.1 ∈ GW := (gwm (List.mem_of_getElem? (i := 152) (by decide +kernel)) rfl)
theorem fl_1_27 : Cond.fieldLink (RCn 1) 27 "ObjectDriver$Proc" (TC1 3).2.1 (TC1 3).2.2.1 ∈ GW := (gwm (List.mem_of_getElem? (i := 154) (by decide +kernel)) rfl)
theorem fl_1_34 : Cond.fieldLink (RCn 1) 34 "ObjectDriver$Proc" (TC1 4).2.1 (TC1 4).2.2.1 ∈ GW := (gwm (List.mem_of_getElem? (i := 156) (by decide +kernel)) rfl)
theorem fl_1_41 : Cond.fieldLink (RCn 1) 41 "ObjectDriver$Proc" (TC1 5).2.1 (TC1 5).2.2.1 ∈ GW := (gwm (List.mem_of_getElem? (i := 158) (by decide +kernel)) rfl)
theorem fl_1_45 : Cond.fieldLink (RCn 1) 45 "ObjectDriver$Proc" (TC1 6).2.1 (TC1 6).2.2.1 ∈ GW := (gwm (List.mem_of_getElem? (i := 160) (by decide +kernel)) rfl)
theorem fl_1_48 : Cond.fieldLink (RCn 1) 48 "ObjectDriver$Proc" (TC1 7).2.1 (TC1 7).2.2.1 ∈ GW := (gwm (List.mem_of_getElem? (i := 162) (by decide +kernel)) rfl)
theorem fl_1_51 : Cond.fieldLink (RCn 1) 51 "ObjectDriver$Proc" (TC1 0).2.1 (TC1 0).2.2.1 ∈ GW := (gwm (List.mem_of_getElem? (i := 147) (by decide +kernel)) rfl)
theorem fl_1_55 : Cond.fieldLink (RCn 1) 55 "ObjectDriver$Node" (TC2 0).2.1 (TC2 0).2.2.1 ∈ GW := (gwm (List.mem_of_getElem? (i := 481) (by decide +kernel)) rfl)
theorem fl_1_58 : Cond.fieldLink (RCn 1) 58 "ObjectDriver$Node" (TC2 2).2.1 (TC2 2).2.2.1 ∈ GW := (gwm (List.mem_of_getElem? (i := 488) (by decide +kernel)) rfl)
theorem fl_1_75 : Cond.fieldLink (RCn 1) 75 "ObjectDriver$Work" (TC4 0).2.1 (TC4 0).2.2.1 ∈ GW := (gwm (List.mem_of_getElem? (i := 356) (by decide +kernel)) rfl)
theorem fl_1_78 : Cond.fieldLink (RCn 1) 78 "ObjectDriver$Work" (TC4 1).2.1 (TC4 1).2.2.1 ∈ GW := (gwm (List.mem_of_getElem? (i := 359) (by decide +kernel)) rfl)
theorem fl_1_95 : Cond.fieldLink (RCn 1) 95 "ObjectDriver$Area" (TC8 2).2.1 (TC8 2).2.2.1 ∈ GW := (gwm (List.mem_of_getElem? (i := 81) (by decide +kernel)) rfl)
theorem fl_1_98 : Cond.fieldLink (RCn 1) 98 "ObjectDriver$Handles" (TC7 3).2.1 (TC7 3).2.2.1 ∈ GW := (gwm (List.mem_of_getElem? (i := 57) (by decide +kernel)) rfl)
theorem fl_1_105 : Cond.fieldLink (RCn 1) 105 "ObjectDriver$Draft" (TC3 3).2.1 (TC3 3).2.2.1 ∈ GW := (gwm (List.mem_of_getElem? (i := 107) (by decide +kernel)) rfl)
theorem fl_1_108 : Cond.fieldLink (RCn 1) 108 "ObjectDriver$Draft" (TC3 2).2.1 (TC3 2).2.2.1 ∈ GW := (gwm (List.mem_of_getElem? (i := 103) (by decide +kernel)) rfl)
theorem fl_1_121 : Cond.fieldLink (RCn 1) 121 "ObjectDriver$Message" (TC5 5).2.1 (TC5 5).2.2.1 ∈ GW := (gwm (List.mem_of_getElem? (i := 621) (by decide +kernel)) rfl)
theorem fl_1_122 : Cond.fieldLink (RCn 1) 122 "ObjectDriver$Draft" (TC3 1).2.1 (TC3 1).2.2.1 ∈ GW := (gwm (List.mem_of_getElem? (i := 100) (by decide +kernel)) rfl)
theorem fl_1_130 : Cond.fieldLink (RCn 1) 130 "ObjectDriver$Node" (TC2 1).2.1 (TC2 1).2.2.1 ∈ GW := (gwm (List.mem_of_getElem? (i := 485) (by decide +kernel)) rfl)
theorem fl_1_136 : Cond.fieldLink (RCn 1) 136 "ObjectDriver$Message" (TC5 8).2.1 (TC5 8).2.2.1 ∈ GW := (gwm (List.mem_of_getElem? (i := 628) (by decide +kernel)) rfl)
theorem fl_1_139 : Cond.fieldLink (RCn 1) 139 "ObjectDriver$Message" (TC5 0).2.1 (TC5 0).2.2.1 ∈ GW := (gwm (List.mem_of_getElem? (i := 608) (by decide +kernel)) rfl)
theorem fl_1_140 : Cond.fieldLink (RCn 1) 140 "ObjectDriver$Message" (TC5 3).2.1 (TC5 3).2.2.1 ∈ GW := (gwm (List.mem_of_getElem? (i := 615) (by decide +kernel)) rfl)
theorem fl_1_144 : Cond.fieldLink (RCn 1) 144 "ObjectDriver$Node" (TC2 3).2.1 (TC2 3).2.2.1 ∈ GW := (gwm (List.mem_of_getElem? (i := 490) (by decide +kernel)) rfl)
theorem fl_1_162 : Cond.fieldLink (RCn 1) 162 "ObjectDriver$Proc" (TC1 11).2.1 (TC1 11).2.2.1 ∈ GW := (gwm (List.mem_of_getElem? (i := 171) (by decide +kernel)) rfl)
theorem fl_1_166 : Cond.fieldLink (RCn 1) 166 "ObjectDriver$Message" (TC5 10).2.1 (TC5 10).2.2.1 ∈ GW := (gwm (List.mem_of_getElem? (i := 633) (by decide +kernel)) rfl)
theorem fl_1_169 : Cond.fieldLink (RCn 1) 169 "ObjectDriver$Proc" (TC1 10).2.1 (TC1 10).2.2.1 ∈ GW := (gwm (List.mem_of_getElem? (i := 169) (by decide +kernel)) rfl)
theorem fl_1_177 : Cond.fieldLink (RCn 1) 177 "ObjectDriver$Watch" (TC6 0).2.1 (TC6 0).2.2.1 ∈ GW := (gwm (List.mem_of_getElem? (i := 826) (by decide +kernel)) rfl)
theorem fl_1_181 : Cond.fieldLink (RCn 1) 181 "ObjectDriver$Watch" (TC6 1).2.1 (TC6 1).2.2.1 ∈ GW := (gwm (List.mem_of_getElem? (i := 828) (by decide +kernel)) rfl)
theorem fl_1 : ∀ q ∈ flT 1, ∃ T : u_T, (vwCl[q.2.1]?).map (fun r => r.2.1) = some T ∧ ∃ ref : String, Cond.fieldLink (RCn 1) q.1 ref (T q.2.2).2.1 (T q.2.2).2.2.1 ∈ GW ∧ (ref = (T q.2.2).1 ∨ Cond.sameField ref (T q.2.2).1 (T q.2.2).2.1 (T q.2.2).2.2.1 ∈ GW) := List.forall_mem_cons.mpr ⟨⟨_, rfl, _, fl_1_11, Or.inl rfl⟩, List.forall_mem_cons.mpr ⟨⟨_, rfl, _, fl_1_20, Or.inl rfl⟩, List.forall_mem_cons.mpr ⟨⟨_, rfl, _, fl_1_27, Or.inl rfl⟩, List.forall_mem_cons.mpr ⟨⟨_, rfl, _, fl_1_34, Or.inl rfl⟩, List.forall_mem_cons.mpr ⟨⟨_, rfl, _, fl_1_41, Or.inl rfl⟩, List.forall_mem_cons.mpr ⟨⟨_, rfl, _, fl_1_45, Or.inl rfl⟩, List.forall_mem_cons.mpr ⟨⟨_, rfl, _, fl_1_48, Or.inl rfl⟩, List.forall_mem_cons.mpr ⟨⟨_, rfl, _, fl_1_51, Or.inl rfl⟩, List.forall_mem_cons.mpr ⟨⟨_, rfl, _, fl_1_55, Or.inl rfl⟩, List.forall_mem_cons.mpr ⟨⟨_, rfl, _, fl_1_58, Or.inl rfl⟩, List.forall_mem_cons.mpr ⟨⟨_, rfl, _, fl_1_75, Or.inl rfl⟩, List.forall_mem_cons.mpr ⟨⟨_, rfl, _, fl_1_78, Or.inl rfl⟩, List.forall_mem_cons.mpr ⟨⟨_, rfl, _, fl_1_95, Or.inl rfl⟩, List.forall_mem_cons.mpr ⟨⟨_, rfl, _, fl_1_98, Or.inl rfl⟩, List.forall_mem_cons.mpr ⟨⟨_, rfl, _, fl_1_105, Or.inl rfl⟩, List.forall_mem_cons.mpr ⟨⟨_, rfl, _, fl_1_108, Or.inl rfl⟩, List.forall_mem_cons.mpr ⟨⟨_, rfl, _, fl_1_121, Or.inl rfl⟩, List.forall_mem_cons.mpr ⟨⟨_, rfl, _, fl_1_122, Or.inl rfl⟩, List.forall_mem_cons.mpr ⟨⟨_, rfl, _, fl_1_130, Or.inl rfl⟩, List.forall_mem_cons.mpr ⟨⟨_, rfl, _, fl_1_136, Or.inl rfl⟩, List.forall_mem_cons.mpr ⟨⟨_, rfl, _, fl_1_139, Or.inl rfl⟩, List.forall_mem_cons.mpr ⟨⟨_, rfl, _, fl_1_140, Or.inl rfl⟩, List.forall_mem_cons.mpr ⟨⟨_, rfl, _, fl_1_144, Or.inl rfl⟩, List.forall_mem_cons.mpr ⟨⟨_, rfl, _, fl_1_162, Or.inl rfl⟩, List.forall_mem_cons.mpr ⟨⟨_, rfl, _, fl_1_166, Or.inl rfl⟩, List.forall_mem_cons.mpr ⟨⟨_, rfl, _, fl_1_169, Or.inl rfl⟩, List.forall_mem_cons.mpr ⟨⟨_, rfl, _, fl_1_177, Or.inl rfl⟩, List.forall_mem_cons.mpr ⟨⟨_, rfl, _, fl_1_181, Or.inl rfl⟩, fun _ h => absurd h List.not_mem_nil⟩⟩⟩⟩⟩⟩⟩⟩⟩⟩⟩⟩⟩⟩⟩⟩⟩⟩⟩⟩⟩⟩⟩⟩⟩⟩⟩⟩
theorem fl_2_7 : Cond.fieldLink (RCn 2) 7 "ObjectDriver$Node" (TC2 0).2.1 (TC2 0).2.2.1 ∈ GW := (gwm (List.mem_of_getElem? (i := 480) (by decide +kernel)) rfl)
theorem fl_2_13 : Cond.fieldLink (RCn 2) 13 "ObjectDriver$Node" (TC2 1).2.1 (TC2 1).2.2.1 ∈ GW := (gwm (List.mem_of_getElem? (i := 483) (by decide +kernel)) rfl)
theorem fl_2_16 : Cond.fieldLink (RCn 2) 16 "ObjectDriver$Node" (TC2 2).2.1 (TC2 2).2.2.1 ∈ GW := (gwm (List.mem_of_getElem? (i := 487) (by decide +kernel)) rfl)
theorem fl_2_20 : Cond.fieldLink (RCn 2) 20 "ObjectDriver$Node" (TC2 4).2.1 (TC2 4).2.2.1 ∈ GW := (gwm (List.mem_of_getElem? (i := 492) (by decide +kernel)) rfl)
theorem fl_2_24 : Cond.fieldLink (RCn 2) 24 "ObjectDriver$Node" (TC2 5).2.1 (TC2 5).2.2.1 ∈ GW := (gwm (List.mem_of_getElem? (i := 493) (by decide +kernel)) rfl)
theorem fl_2_27 : Cond.fieldLink (RCn 2) 27 "ObjectDriver$Message" (TC5 11).2.1 (TC5 11).2.2.1 ∈ GW := (gwm (List.mem_of_getElem? (i := 634) (by decide +kernel)) rfl)
theorem fl_2 : ∀ q ∈ flT 2, ∃ T : u_T, (vwCl[q.2.1]?).map (fun r => r.2.1) = some T ∧ ∃ ref : String, Cond.fieldLink (RCn 2) q.1 ref (T q.2.2).2.1 (T q.2.2).2.2.1 ∈ GW ∧ (ref = (T q.2.2).1 ∨ Cond.sameField ref (T q.2.2).1 (T q.2.2).2.1 (T q.2.2).2.2.1 ∈ GW) := List.forall_mem_cons.mpr ⟨⟨_, rfl, _, fl_2_7, Or.inl rfl⟩, List.forall_mem_cons.mpr ⟨⟨_, rfl, _, fl_2_13, Or.inl rfl⟩, List.forall_mem_cons.mpr ⟨⟨_, rfl, _, fl_2_16, Or.inl rfl⟩, List.forall_mem_cons.mpr ⟨⟨_, rfl, _, fl_2_20, Or.inl rfl⟩, List.forall_mem_cons.mpr ⟨⟨_, rfl, _, fl_2_24, Or.inl rfl⟩, List.forall_mem_cons.mpr ⟨⟨_, rfl, _, fl_2_27, Or.inl rfl⟩, fun _ h => absurd h List.not_mem_nil⟩⟩⟩⟩⟩⟩
theorem fl_3_9 : Cond.fieldLink (RCn 3) 9 "ObjectDriver$Draft" (TC3 0).2.1 (TC3 0).2.2.1 ∈ GW := (gwm (List.mem_of_getElem? (i := 97) (by decide +kernel)) rfl)
theorem fl_3_15 : Cond.fieldLink (RCn 3) 15 "ObjectDriver$Draft" (TC3 1).2.1 (TC3 1).2.2.1 ∈ GW := (gwm (List.mem_of_getElem? (i := 99) (by decide +kernel)) rfl)
theorem fl_3_20 : Cond.fieldLink (RCn 3) 20 "ObjectDriver$Draft" (TC3 2).2.1 (TC3 2).2.2.1 ∈ GW := (gwm (List.mem_of_getElem? (i := 102) (by decide +kernel)) rfl)
theorem fl_3_24 : Cond.fieldLink (RCn 3) 24 "ObjectDriver$Draft" (TC3 4).2.1 (TC3 4).2.2.1 ∈ GW := (gwm (List.mem_of_getElem? (i := 109) (by decide +kernel)) rfl)
theorem fl_3_28 : Cond.fieldLink (RCn 3) 28 "ObjectDriver$Draft" (TC3 3).2.1 (TC3 3).2.2.1 ∈ GW := (gwm (List.mem_of_getElem? (i := 106) (by decide +kernel)) rfl)
theorem fl_3 : ∀ q ∈ flT 3, ∃ T : u_T, (vwCl[q.2.1]?).map (fun r => r.2.1) = some T ∧ ∃ ref : String, Cond.fieldLink (RCn 3) q.1 ref (T q.2.2).2.1 (T q.2.2).2.2.1 ∈ GW ∧ (ref = (T q.2.2).1 ∨ Cond.sameField ref (T q.2.2).1 (T q.2.2).2.1 (T q.2.2).2.2.1 ∈ GW) := List.forall_mem_cons.mpr ⟨⟨_, rfl, _, fl_3_9, Or.inl rfl⟩, List.forall_mem_cons.mpr ⟨⟨_, rfl, _, fl_3_15, Or.inl rfl⟩, List.forall_mem_cons.mpr ⟨⟨_, rfl, _, fl_3_20, Or.inl rfl⟩, List.forall_mem_cons.mpr ⟨⟨_, rfl, _, fl_3_24, Or.inl rfl⟩, List.forall_mem_cons.mpr ⟨⟨_, rfl, _, fl_3_28, Or.inl rfl⟩, fun _ h => absurd h List.not_mem_nil⟩⟩⟩⟩⟩
theorem fl_4_9 : Cond.fieldLink (RCn 4) 9 "ObjectDriver$Work" (TC4 0).2.1 (TC4 0).2.2.1 ∈ GW := (gwm (List.mem_of_getElem? (i := 355) (by decide +kernel)) rfl)
theorem fl_4_15 : Cond.fieldLink (RCn 4) 15 "ObjectDriver$Work" (TC4 1).2.1 (TC4 1).2.2.1 ∈ GW := (gwm (List.mem_of_getElem? (i := 358) (by decide +kernel)) rfl)
theorem fl_4_19 : Cond.fieldLink (RCn 4) 19 "ObjectDriver$Work" (TC4 2).2.1 (TC4 2).2.2.1 ∈ GW := (gwm (List.mem_of_getElem? (i := 361) (by decide +kernel)) rfl)
theorem fl_4_22 : Cond.fieldLink (RCn 4) 22 "ObjectDriver$Message" (TC5 3).2.1 (TC5 3).2.2.1 ∈ GW := (gwm (List.mem_of_getElem? (i := 614) (by decide +kernel)) rfl)
theorem fl_4_28 : Cond.fieldLink (RCn 4) 28 "ObjectDriver$Node" (TC2 1).2.1 (TC2 1).2.2.1 ∈ GW := (gwm (List.mem_of_getElem? (i := 484) (by decide +kernel)) rfl)
theorem fl_4 : ∀ q ∈ flT 4, ∃ T : u_T, (vwCl[q.2.1]?).map (fun r => r.2.1) = some T ∧ ∃ ref : String, Cond.fieldLink (RCn 4) q.1 ref (T q.2.2).2.1 (T q.2.2).2.2.1 ∈ GW ∧ (ref = (T q.2.2).1 ∨ Cond.sameField ref (T q.2.2).1 (T q.2.2).2.1 (T q.2.2).2.2.1 ∈ GW) := List.forall_mem_cons.mpr ⟨⟨_, rfl, _, fl_4_9, Or.inl rfl⟩, List.forall_mem_cons.mpr ⟨⟨_, rfl, _, fl_4_15, Or.inl rfl⟩, List.forall_mem_cons.mpr ⟨⟨_, rfl, _, fl_4_19, Or.inl rfl⟩, List.forall_mem_cons.mpr ⟨⟨_, rfl, _, fl_4_22, Or.inl rfl⟩, List.forall_mem_cons.mpr ⟨⟨_, rfl, _, fl_4_28, Or.inl rfl⟩, fun _ h => absurd h List.not_mem_nil⟩⟩⟩⟩⟩
theorem fl_5_7 : Cond.fieldLink (RCn 5) 7 "ObjectDriver$Message" (TC5 0).2.1 (TC5 0).2.2.1 ∈ GW := (gwm (List.mem_of_getElem? (i := 606) (by decide +kernel)) rfl)
theorem fl_5_13 : Cond.fieldLink (RCn 5) 13 "ObjectDriver$Message" (TC5 1).2.1 (TC5 1).2.2.1 ∈ GW := (gwm (List.mem_of_getElem? (i := 610) (by decide +kernel)) rfl)
theorem fl_5_16 : Cond.fieldLink (RCn 5) 16 "ObjectDriver$Message" (TC5 2).2.1 (TC5 2).2.2.1 ∈ GW := (gwm (List.mem_of_getElem? (i := 612) (by decide +kernel)) rfl)
theorem fl_5_19 : Cond.fieldLink (RCn 5) 19 "ObjectDriver$Message" (TC5 3).2.1 (TC5 3).2.2.1 ∈ GW := (gwm (List.mem_of_getElem? (i := 613) (by decide +kernel)) rfl)
theorem fl_5_29 : Cond.fieldLink (RCn 5) 29 "ObjectDriver$Message" (TC5 4).2.1 (TC5 4).2.2.1 ∈ GW := (gwm (List.mem_of_getElem? (i := 617) (by decide +kernel)) rfl)
theorem fl_5_31 : Cond.fieldLink (RCn 5) 31 "ObjectDriver$Draft" (TC3 3).2.1 (TC3 3).2.2.1 ∈ GW := (gwm (List.mem_of_getElem? (i := 105) (by decide +kernel)) rfl)
theorem fl_5_34 : Cond.fieldLink (RCn 5) 34 "ObjectDriver$Message" (TC5 5).2.1 (TC5 5).2.2.1 ∈ GW := (gwm (List.mem_of_getElem? (i := 620) (by decide +kernel)) rfl)
theorem fl_5_35 : Cond.fieldLink (RCn 5) 35 "ObjectDriver$Message" (TC5 6).2.1 (TC5 6).2.2.1 ∈ GW := (gwm (List.mem_of_getElem? (i := 623) (by decide +kernel)) rfl)
theorem fl_5_39 : Cond.fieldLink (RCn 5) 39 "ObjectDriver$Message" (TC5 7).2.1 (TC5 7).2.2.1 ∈ GW := (gwm (List.mem_of_getElem? (i := 625) (by decide +kernel)) rfl)
theorem fl_5_44 : Cond.fieldLink (RCn 5) 44 "ObjectDriver$Message" (TC5 8).2.1 (TC5 8).2.2.1 ∈ GW := (gwm (List.mem_of_getElem? (i := 627) (by decide +kernel)) rfl)
theorem fl_5_48 : Cond.fieldLink (RCn 5) 48 "ObjectDriver$Proc" (TC1 8).2.1 (TC1 8).2.2.1 ∈ GW := (gwm (List.mem_of_getElem? (i := 165) (by decide +kernel)) rfl)
theorem fl_5_54 : Cond.fieldLink (RCn 5) 54 "ObjectDriver$Proc" (TC1 0).2.1 (TC1 0).2.2.1 ∈ GW := (gwm (List.mem_of_getElem? (i := 148) (by decide +kernel)) rfl)
theorem fl_5_57 : Cond.fieldLink (RCn 5) 57 "ObjectDriver$Proc" (TC1 9).2.1 (TC1 9).2.2.1 ∈ GW := (gwm (List.mem_of_getElem? (i := 167) (by decide +kernel)) rfl)
theorem fl_5 : ∀ q ∈ flT 5, ∃ T : u_T, (vwCl[q.2.1]?).map (fun r => r.2.1) = some T ∧ ∃ ref : String, Cond.fieldLink (RCn 5) q.1 ref (T q.2.2).2.1 (T q.2.2).2.2.1 ∈ GW ∧ (ref = (T q.2.2).1 ∨ Cond.sameField ref (T q.2.2).1 (T q.2.2).2.1 (T q.2.2).2.2.1 ∈ GW) := List.forall_mem_cons.mpr ⟨⟨_, rfl, _, fl_5_7, Or.inl rfl⟩, List.forall_mem_cons.mpr ⟨⟨_, rfl, _, fl_5_13, Or.inl rfl⟩, List.forall_mem_cons.mpr ⟨⟨_, rfl, _, fl_5_16, Or.inl rfl⟩, List.forall_mem_cons.mpr ⟨⟨_, rfl, _, fl_5_19, Or.inl rfl⟩, List.forall_mem_cons.mpr ⟨⟨_, rfl, _, fl_5_29, Or.inl rfl⟩, List.forall_mem_cons.mpr ⟨⟨_, rfl, _, fl_5_31, Or.inl rfl⟩, List.forall_mem_cons.mpr ⟨⟨_, rfl, _, fl_5_34, Or.inl rfl⟩, List.forall_mem_cons.mpr ⟨⟨_, rfl, _, fl_5_35, Or.inl rfl⟩, List.forall_mem_cons.mpr ⟨⟨_, rfl, _, fl_5_39, Or.inl rfl⟩, List.forall_mem_cons.mpr ⟨⟨_, rfl, _, fl_5_44, Or.inl rfl⟩, List.forall_mem_cons.mpr ⟨⟨_, rfl, _, fl_5_48, Or.inl rfl⟩, List.forall_mem_cons.mpr ⟨⟨_, rfl, _, fl_5_54, Or.inl rfl⟩, List.forall_mem_cons.mpr ⟨⟨_, rfl, _, fl_5_57, Or.inl rfl⟩, fun _ h => absurd h List.not_mem_nil⟩⟩⟩⟩⟩⟩⟩⟩⟩⟩⟩⟩⟩
theorem fl_6_7 : Cond.fieldLink (RCn 6) 7 "ObjectDriver$Watch" (TC6 0).2.1 (TC6 0).2.2.1 ∈ GW := (gwm (List.mem_of_getElem? (i := 825) (by decide +kernel)) rfl)
theorem fl_6_13 : Cond.fieldLink (RCn 6) 13 "ObjectDriver$Watch" (TC6 1).2.1 (TC6 1).2.2.1 ∈ GW := (gwm (List.mem_of_getElem? (i := 827) (by decide +kernel)) rfl)
theorem fl_6 : ∀ q ∈ flT 6, ∃ T : u_T, (vwCl[q.2.1]?).map (fun r => r.2.1) = some T ∧ ∃ ref : String, Cond.fieldLink (RCn 6) q.1 ref (T q.2.2).2.1 (T q.2.2).2.2.1 ∈ GW ∧ (ref = (T q.2.2).1 ∨ Cond.sameField ref (T q.2.2).1 (T q.2.2).2.1 (T q.2.2).2.2.1 ∈ GW) := List.forall_mem_cons.mpr ⟨⟨_, rfl, _, fl_6_7, Or.inl rfl⟩, List.forall_mem_cons.mpr ⟨⟨_, rfl, _, fl_6_13, Or.inl rfl⟩, fun _ h => absurd h List.not_mem_nil⟩⟩
theorem fl_7_11 : Cond.fieldLink (RCn 7) 11 "ObjectDriver$Handles" (TC7 0).2.1 (TC7 0).2.2.1 ∈ GW := (gwm (List.mem_of_getElem? (i := 50) (by decide +kernel)) rfl)
theorem fl_7_17 : Cond.fieldLink (RCn 7) 17 "ObjectDriver$Handles" (TC7 1).2.1 (TC7 1).2.2.1 ∈ GW := (gwm (List.mem_of_getElem? (i := 52) (by decide +kernel)) rfl)
theorem fl_7_21 : Cond.fieldLink (RCn 7) 21 "ObjectDriver$Handles" (TC7 2).2.1 (TC7 2).2.2.1 ∈ GW := (gwm (List.mem_of_getElem? (i := 54) (by decide +kernel)) rfl)
theorem fl_7_36 : Cond.fieldLink (RCn 7) 36 "ObjectDriver$Handles" (TC7 3).2.1 (TC7 3).2.2.1 ∈ GW := (gwm (List.mem_of_getElem? (i := 56) (by decide +kernel)) rfl)
theorem fl_7 : ∀ q ∈ flT 7, ∃ T : u_T, (vwCl[q.2.1]?).map (fun r => r.2.1) = some T ∧ ∃ ref : String, Cond.fieldLink (RCn 7) q.1 ref (T q.2.2).2.1 (T q.2.2).2.2.1 ∈ GW ∧ (ref = (T q.2.2).1 ∨ Cond.sameField ref (T q.2.2).1 (T q.2.2).2.1 (T q.2.2).2.2.1 ∈ GW) := List.forall_mem_cons.mpr ⟨⟨_, rfl, _, fl_7_11, Or.inl rfl⟩, List.forall_mem_cons.mpr ⟨⟨_, rfl, _, fl_7_17, Or.inl rfl⟩, List.forall_mem_cons.mpr ⟨⟨_, rfl, _, fl_7_21, Or.inl rfl⟩, List.forall_mem_cons.mpr ⟨⟨_, rfl, _, fl_7_36, Or.inl rfl⟩, fun _ h => absurd h List.not_mem_nil⟩⟩⟩⟩
theorem fl_8_11 : Cond.fieldLink (RCn 8) 11 "ObjectDriver$Area" (TC8 0).2.1 (TC8 0).2.2.1 ∈ GW := (gwm (List.mem_of_getElem? (i := 77) (by decide +kernel)) rfl)
theorem fl_8_17 : Cond.fieldLink (RCn 8) 17 "ObjectDriver$Message" (TC5 4).2.1 (TC5 4).2.2.1 ∈ GW := (gwm (List.mem_of_getElem? (i := 618) (by decide +kernel)) rfl)
theorem fl_8_25 : Cond.fieldLink (RCn 8) 25 "ObjectDriver$Message" (TC5 9).2.1 (TC5 9).2.2.1 ∈ GW := (gwm (List.mem_of_getElem? (i := 630) (by decide +kernel)) rfl)
theorem fl_8_28 : Cond.fieldLink (RCn 8) 28 "ObjectDriver$Area" (TC8 1).2.1 (TC8 1).2.2.1 ∈ GW := (gwm (List.mem_of_getElem? (i := 78) (by decide +kernel)) rfl)
theorem fl_8_31 : Cond.fieldLink (RCn 8) 31 "ObjectDriver$Message" (TC5 0).2.1 (TC5 0).2.2.1 ∈ GW := (gwm (List.mem_of_getElem? (i := 607) (by decide +kernel)) rfl)
theorem fl_8_34 : Cond.fieldLink (RCn 8) 34 "ObjectDriver$Area" (TC8 2).2.1 (TC8 2).2.2.1 ∈ GW := (gwm (List.mem_of_getElem? (i := 80) (by decide +kernel)) rfl)
theorem fl_8_37 : Cond.fieldLink (RCn 8) 37 "ObjectDriver$Message" (TC5 10).2.1 (TC5 10).2.2.1 ∈ GW := (gwm (List.mem_of_getElem? (i := 632) (by decide +kernel)) rfl)
theorem fl_8 : ∀ q ∈ flT 8, ∃ T : u_T, (vwCl[q.2.1]?).map (fun r => r.2.1) = some T ∧ ∃ ref : String, Cond.fieldLink (RCn 8) q.1 ref (T q.2.2).2.1 (T q.2.2).2.2.1 ∈ GW ∧ (ref = (T q.2.2).1 ∨ Cond.sameField ref (T q.2.2).1 (T q.2.2).2.1 (T q.2.2).2.2.1 ∈ GW) := List.forall_mem_cons.mpr ⟨⟨_, rfl, _, fl_8_11, Or.inl rfl⟩, List.forall_mem_cons.mpr ⟨⟨_, rfl, _, fl_8_17, Or.inl rfl⟩, List.forall_mem_cons.mpr ⟨⟨_, rfl, _, fl_8_25, Or.inl rfl⟩, List.forall_mem_cons.mpr ⟨⟨_, rfl, _, fl_8_28, Or.inl rfl⟩, List.forall_mem_cons.mpr ⟨⟨_, rfl, _, fl_8_31, Or.inl rfl⟩, List.forall_mem_cons.mpr ⟨⟨_, rfl, _, fl_8_34, Or.inl rfl⟩, List.forall_mem_cons.mpr ⟨⟨_, rfl, _, fl_8_37, Or.inl rfl⟩, fun _ h => absurd h List.not_mem_nil⟩⟩⟩⟩⟩⟩⟩
theorem fl_9_9 : Cond.fieldLink (RCn 9) 9 "java/util/ArrayList" (TC9 1).2.1 (TC9 1).2.2.1 ∈ GW := (gwm (List.mem_of_getElem? (i := 135) (by decide +kernel)) rfl)
theorem fl_9_48 : Cond.fieldLink (RCn 9) 48 "java/util/ArrayList" (TC9 2).2.1 (TC9 2).2.2.1 ∈ GW := (gwm (List.mem_of_getElem? (i := 136) (by decide +kernel)) rfl)
theorem fl_9_63 : Cond.fieldLink (RCn 9) 63 "java/util/ArrayList" (TC9 0).2.1 (TC9 0).2.2.1 ∈ GW := (gwm (List.mem_of_getElem? (i := 138) (by decide +kernel)) rfl)
theorem fl_9 : ∀ q ∈ flT 9, ∃ T : u_T, (vwCl[q.2.1]?).map (fun r => r.2.1) = some T ∧ ∃ ref : String, Cond.fieldLink (RCn 9) q.1 ref (T q.2.2).2.1 (T q.2.2).2.2.1 ∈ GW ∧ (ref = (T q.2.2).1 ∨ Cond.sameField ref (T q.2.2).1 (T q.2.2).2.1 (T q.2.2).2.2.1 ∈ GW) := List.forall_mem_cons.mpr ⟨⟨_, rfl, _, fl_9_9, Or.inl rfl⟩, List.forall_mem_cons.mpr ⟨⟨_, rfl, _, fl_9_48, Or.inl rfl⟩, List.forall_mem_cons.mpr ⟨⟨_, rfl, _, fl_9_63, Or.inr (gwm (List.mem_of_getElem? (i := 139) (by decide +kernel)) rfl)⟩, fun _ h => absurd h List.not_mem_nil⟩⟩⟩
theorem fl_10_7 : Cond.fieldLink (RCn 10) 7 "ObjectDriverModel" (TC10 1).2.1 (TC10 1).2.2.1 ∈ GW := (gwm (List.mem_of_getElem? (i := 855) (by decide +kernel)) rfl)
theorem fl_10_13 : Cond.fieldLink (RCn 10) 13 "ObjectDriverModel" (TC10 2).2.1 (TC10 2).2.2.1 ∈ GW := (gwm (List.mem_of_getElem? (i := 856) (by decide +kernel)) rfl)
theorem fl_10_17 : Cond.fieldLink (RCn 10) 17 "ObjectDriverModel" (TC10 3).2.1 (TC10 3).2.2.1 ∈ GW := (gwm (List.mem_of_getElem? (i := 857) (by decide +kernel)) rfl)
theorem fl_10_21 : Cond.fieldLink (RCn 10) 21 "ObjectDriverModel" (TC10 4).2.1 (TC10 4).2.2.1 ∈ GW := (gwm (List.mem_of_getElem? (i := 858) (by decide +kernel)) rfl)
theorem fl_10_24 : Cond.fieldLink (RCn 10) 24 "ObjectDriverModel" (TC10 5).2.1 (TC10 5).2.2.1 ∈ GW := (gwm (List.mem_of_getElem? (i := 859) (by decide +kernel)) rfl)
theorem fl_10_27 : Cond.fieldLink (RCn 10) 27 "ObjectDriverModel" (TC10 6).2.1 (TC10 6).2.2.1 ∈ GW := (gwm (List.mem_of_getElem? (i := 860) (by decide +kernel)) rfl)
theorem fl_10_30 : Cond.fieldLink (RCn 10) 30 "ObjectDriverModel" (TC10 7).2.1 (TC10 7).2.2.1 ∈ GW := (gwm (List.mem_of_getElem? (i := 861) (by decide +kernel)) rfl)
theorem fl_10_33 : Cond.fieldLink (RCn 10) 33 "ObjectDriverModel" (TC10 8).2.1 (TC10 8).2.2.1 ∈ GW := (gwm (List.mem_of_getElem? (i := 862) (by decide +kernel)) rfl)
theorem fl_10_36 : Cond.fieldLink (RCn 10) 36 "ObjectDriverModel" (TC10 9).2.1 (TC10 9).2.2.1 ∈ GW := (gwm (List.mem_of_getElem? (i := 863) (by decide +kernel)) rfl)
theorem fl_10_39 : Cond.fieldLink (RCn 10) 39 "ObjectDriverModel" (TC10 10).2.1 (TC10 10).2.2.1 ∈ GW := (gwm (List.mem_of_getElem? (i := 864) (by decide +kernel)) rfl)
theorem fl_10_42 : Cond.fieldLink (RCn 10) 42 "ObjectDriverModel" (TC10 11).2.1 (TC10 11).2.2.1 ∈ GW := (gwm (List.mem_of_getElem? (i := 865) (by decide +kernel)) rfl)
theorem fl_10_45 : Cond.fieldLink (RCn 10) 45 "ObjectDriverModel" (TC10 12).2.1 (TC10 12).2.2.1 ∈ GW := (gwm (List.mem_of_getElem? (i := 866) (by decide +kernel)) rfl)
theorem fl_10_48 : Cond.fieldLink (RCn 10) 48 "ObjectDriverModel" (TC10 13).2.1 (TC10 13).2.2.1 ∈ GW := (gwm (List.mem_of_getElem? (i := 867) (by decide +kernel)) rfl)
theorem fl_10_51 : Cond.fieldLink (RCn 10) 51 "ObjectDriverModel" (TC10 14).2.1 (TC10 14).2.2.1 ∈ GW := (gwm (List.mem_of_getElem? (i := 868) (by decide +kernel)) rfl)
theorem fl_10_54 : Cond.fieldLink (RCn 10) 54 "ObjectDriverModel" (TC10 15).2.1 (TC10 15).2.2.1 ∈ GW := (gwm (List.mem_of_getElem? (i := 869) (by decide +kernel)) rfl)
theorem fl_10_57 : Cond.fieldLink (RCn 10) 57 "ObjectDriverModel" (TC10 16).2.1 (TC10 16).2.2.1 ∈ GW := (gwm (List.mem_of_getElem? (i := 870) (by decide +kernel)) rfl)
theorem fl_10_60 : Cond.fieldLink (RCn 10) 60 "ObjectDriverModel" (TC10 17).2.1 (TC10 17).2.2.1 ∈ GW := (gwm (List.mem_of_getElem? (i := 871) (by decide +kernel)) rfl)
theorem fl_10_63 : Cond.fieldLink (RCn 10) 63 "ObjectDriverModel" (TC10 18).2.1 (TC10 18).2.2.1 ∈ GW := (gwm (List.mem_of_getElem? (i := 872) (by decide +kernel)) rfl)
theorem fl_10_66 : Cond.fieldLink (RCn 10) 66 "ObjectDriverModel" (TC10 19).2.1 (TC10 19).2.2.1 ∈ GW := (gwm (List.mem_of_getElem? (i := 873) (by decide +kernel)) rfl)
theorem fl_10_69 : Cond.fieldLink (RCn 10) 69 "ObjectDriverModel" (TC10 20).2.1 (TC10 20).2.2.1 ∈ GW := (gwm (List.mem_of_getElem? (i := 874) (by decide +kernel)) rfl)
theorem fl_10_72 : Cond.fieldLink (RCn 10) 72 "ObjectDriverModel" (TC10 21).2.1 (TC10 21).2.2.1 ∈ GW := (gwm (List.mem_of_getElem? (i := 875) (by decide +kernel)) rfl)
theorem fl_10_75 : Cond.fieldLink (RCn 10) 75 "ObjectDriverModel" (TC10 22).2.1 (TC10 22).2.2.1 ∈ GW := (gwm (List.mem_of_getElem? (i := 876) (by decide +kernel)) rfl)
theorem fl_10_78 : Cond.fieldLink (RCn 10) 78 "ObjectDriverModel" (TC10 24).2.1 (TC10 24).2.2.1 ∈ GW := (gwm (List.mem_of_getElem? (i := 878) (by decide +kernel)) rfl)
theorem fl_10_81 : Cond.fieldLink (RCn 10) 81 "ObjectDriverModel" (TC10 25).2.1 (TC10 25).2.2.1 ∈ GW := (gwm (List.mem_of_getElem? (i := 879) (by decide +kernel)) rfl)
theorem fl_10_84 : Cond.fieldLink (RCn 10) 84 "ObjectDriverModel" (TC10 26).2.1 (TC10 26).2.2.1 ∈ GW := (gwm (List.mem_of_getElem? (i := 880) (by decide +kernel)) rfl)
theorem fl_10_87 : Cond.fieldLink (RCn 10) 87 "ObjectDriverModel" (TC10 27).2.1 (TC10 27).2.2.1 ∈ GW := (gwm (List.mem_of_getElem? (i := 881) (by decide +kernel)) rfl)
theorem fl_10_90 : Cond.fieldLink (RCn 10) 90 "ObjectDriverModel" (TC10 28).2.1 (TC10 28).2.2.1 ∈ GW := (gwm (List.mem_of_getElem? (i := 882) (by decide +kernel)) rfl)
theorem fl_10_93 : Cond.fieldLink (RCn 10) 93 "ObjectDriverModel" (TC10 29).2.1 (TC10 29).2.2.1 ∈ GW := (gwm (List.mem_of_getElem? (i := 883) (by decide +kernel)) rfl)
theorem fl_10_96 : Cond.fieldLink (RCn 10) 96 "ObjectDriverModel" (TC10 30).2.1 (TC10 30).2.2.1 ∈ GW := (gwm (List.mem_of_getElem? (i := 884) (by decide +kernel)) rfl)
theorem fl_10_99 : Cond.fieldLink (RCn 10) 99 "ObjectDriverModel" (TC10 31).2.1 (TC10 31).2.2.1 ∈ GW := (gwm (List.mem_of_getElem? (i := 885) (by decide +kernel)) rfl)
theorem fl_10_102 : Cond.fieldLink (RCn 10) 102 "ObjectDriverModel" (TC10 32).2.1 (TC10 32).2.2.1 ∈ GW := (gwm (List.mem_of_getElem? (i := 886) (by decide +kernel)) rfl)
theorem fl_10_105 : Cond.fieldLink (RCn 10) 105 "ObjectDriverModel" (TC10 33).2.1 (TC10 33).2.2.1 ∈ GW := (gwm (List.mem_of_getElem? (i := 887) (by decide +kernel)) rfl)
theorem fl_10_108 : Cond.fieldLink (RCn 10) 108 "ObjectDriverModel" (TC10 0).2.1 (TC10 0).2.2.1 ∈ GW := (gwm (List.mem_of_getElem? (i := 854) (by decide +kernel)) rfl)
theorem fl_10_175 : Cond.fieldLink (RCn 10) 175 "ObjectDriverModel" (TC10 23).2.1 (TC10 23).2.2.1 ∈ GW := (gwm (List.mem_of_getElem? (i := 877) (by decide +kernel)) rfl)
theorem fl_10 : ∀ q ∈ flT 10, ∃ T : u_T, (vwCl[q.2.1]?).map (fun r => r.2.1) = some T ∧ ∃ ref : String, Cond.fieldLink (RCn 10) q.1 ref (T q.2.2).2.1 (T q.2.2).2.2.1 ∈ GW ∧ (ref = (T q.2.2).1 ∨ Cond.sameField ref (T q.2.2).1 (T q.2.2).2.1 (T q.2.2).2.2.1 ∈ GW) := List.forall_mem_cons.mpr ⟨⟨_, rfl, _, fl_10_7, Or.inl rfl⟩, List.forall_mem_cons.mpr ⟨⟨_, rfl, _, fl_10_13, Or.inl rfl⟩, List.forall_mem_cons.mpr ⟨⟨_, rfl, _, fl_10_17, Or.inl rfl⟩, List.forall_mem_cons.mpr ⟨⟨_, rfl, _, fl_10_21, Or.inl rfl⟩, List.forall_mem_cons.mpr ⟨⟨_, rfl, _, fl_10_24, Or.inl rfl⟩, List.forall_mem_cons.mpr ⟨⟨_, rfl, _, fl_10_27, Or.inl rfl⟩, List.forall_mem_cons.mpr ⟨⟨_, rfl, _, fl_10_30, Or.inl rfl⟩, List.forall_mem_cons.mpr ⟨⟨_, rfl, _, fl_10_33, Or.inl rfl⟩, List.forall_mem_cons.mpr ⟨⟨_, rfl, _, fl_10_36, Or.inl rfl⟩, List.forall_mem_cons.mpr ⟨⟨_, rfl, _, fl_10_39, Or.inl rfl⟩, List.forall_mem_cons.mpr ⟨⟨_, rfl, _, fl_10_42, Or.inl rfl⟩, List.forall_mem_cons.mpr ⟨⟨_, rfl, _, fl_10_45, Or.inl rfl⟩, List.forall_mem_cons.mpr ⟨⟨_, rfl, _, fl_10_48, Or.inl rfl⟩, List.forall_mem_cons.mpr ⟨⟨_, rfl, _, fl_10_51, Or.inl rfl⟩, List.forall_mem_cons.mpr ⟨⟨_, rfl, _, fl_10_54, Or.inl rfl⟩, List.forall_mem_cons.mpr ⟨⟨_, rfl, _, fl_10_57, Or.inl rfl⟩, List.forall_mem_cons.mpr ⟨⟨_, rfl, _, fl_10_60, Or.inl rfl⟩, List.forall_mem_cons.mpr ⟨⟨_, rfl, _, fl_10_63, Or.inl rfl⟩, List.forall_mem_cons.mpr ⟨⟨_, rfl, _, fl_10_66, Or.inl rfl⟩, List.forall_mem_cons.mpr ⟨⟨_, rfl, _, fl_10_69, Or.inl rfl⟩, List.forall_mem_cons.mpr ⟨⟨_, rfl, _, fl_10_72, Or.inl rfl⟩, List.forall_mem_cons.mpr ⟨⟨_, rfl, _, fl_10_75, Or.inl rfl⟩, List.forall_mem_cons.mpr ⟨⟨_, rfl, _, fl_10_78, Or.inl rfl⟩, List.forall_mem_cons.mpr ⟨⟨_, rfl, _, fl_10_81, Or.inl rfl⟩, List.forall_mem_cons.mpr ⟨⟨_, rfl, _, fl_10_84, Or.inl rfl⟩, List.forall_mem_cons.mpr ⟨⟨_, rfl, _, fl_10_87, Or.inl rfl⟩, List.forall_mem_cons.mpr ⟨⟨_, rfl, _, fl_10_90, Or.inl rfl⟩, List.forall_mem_cons.mpr ⟨⟨_, rfl, _, fl_10_93, Or.inl rfl⟩, List.forall_mem_cons.mpr ⟨⟨_, rfl, _, fl_10_96, Or.inl rfl⟩, List.forall_mem_cons.mpr ⟨⟨_, rfl, _, fl_10_99, Or.inl rfl⟩, List.forall_mem_cons.mpr ⟨⟨_, rfl, _, fl_10_102, Or.inl rfl⟩, List.forall_mem_cons.mpr ⟨⟨_, rfl, _, fl_10_105, Or.inl rfl⟩, List.forall_mem_cons.mpr ⟨⟨_, rfl, _, fl_10_108, Or.inl rfl⟩, List.forall_mem_cons.mpr ⟨⟨_, rfl, _, fl_10_175, Or.inl rfl⟩, fun _ h => absurd h List.not_mem_nil⟩⟩⟩⟩⟩⟩⟩⟩⟩⟩⟩⟩⟩⟩⟩⟩⟩⟩⟩⟩⟩⟩⟩⟩⟩⟩⟩⟩⟩⟩⟩⟩⟩⟩
theorem fl_12_7 : Cond.fieldLink (RCn 12) 7 "java/util/AbstractList" (TC9 0).2.1 (TC9 0).2.2.1 ∈ GW := (gwm (List.mem_of_getElem? (i := 137) (by decide +kernel)) rfl)
theorem fl_12 : ∀ q ∈ flT 12, ∃ T : u_T, (vwCl[q.2.1]?).map (fun r => r.2.1) = some T ∧ ∃ ref : String, Cond.fieldLink (RCn 12) q.1 ref (T q.2.2).2.1 (T q.2.2).2.2.1 ∈ GW ∧ (ref = (T q.2.2).1 ∨ Cond.sameField ref (T q.2.2).1 (T q.2.2).2.1 (T q.2.2).2.2.1 ∈ GW) := List.forall_mem_cons.mpr ⟨⟨_, rfl, _, fl_12_7, Or.inl rfl⟩, fun _ h => absurd h List.not_mem_nil⟩
theorem flOK {c idx ci j : Nat} (h : lkp idx (flT c) = some (ci, j)) : ∃ T : u_T, (vwCl[ci]?).map (fun r => r.2.1) = some T ∧ ∃ ref : String, Cond.fieldLink (RCn c) idx ref (T j).2.1 (T j).2.2.1 ∈ GW ∧ (ref = (T j).1 ∨ Cond.sameField ref (T j).1 (T j).2.1 (T j).2.2.1 ∈ GW) := by
  have hm := lkp_mem h
  unfold flT at hm
  split at hm
  · exact fl_0 _ hm
  · exact fl_1 _ hm
  · exact fl_2 _ hm
  · exact fl_3 _ hm
  · exact fl_4 _ hm
  · exact fl_5 _ hm
  · exact fl_6 _ hm
  · exact fl_7 _ hm
  · exact fl_8 _ hm
  · exact fl_9 _ hm
  · exact fl_10 _ hm
  · exact fl_12 _ hm
  · cases hm
theorem uw_0 : ∀ w ∈ u_ws RC0 TC0 2, w ∈ GW := by
  show ∀ w ∈ [u_lay RC0 TC0 0, u_lay RC0 TC0 1], w ∈ GW
  exact List.forall_mem_cons.mpr ⟨(gwm (List.mem_of_getElem? (i := 199) (by decide +kernel)) rfl), List.forall_mem_cons.mpr ⟨(gwm (List.mem_of_getElem? (i := 201) (by decide +kernel)) rfl), fun _ h => absurd h List.not_mem_nil⟩⟩
theorem uw_1 : ∀ w ∈ u_ws RC1 TC1 12, w ∈ GW := by
  show ∀ w ∈ [u_lay RC1 TC1 0, u_lay RC1 TC1 1, u_lay RC1 TC1 2, u_lay RC1 TC1 3, u_lay RC1 TC1 4, u_lay RC1 TC1 5, u_lay RC1 TC1 6, u_lay RC1 TC1 7, u_lay RC1 TC1 8, u_lay RC1 TC1 9, u_lay RC1 TC1 10, u_lay RC1 TC1 11], w ∈ GW
  exact List.forall_mem_cons.mpr ⟨(gwm (List.mem_of_getElem? (i := 172) (by decide +kernel)) rfl), List.forall_mem_cons.mpr ⟨(gwm (List.mem_of_getElem? (i := 174) (by decide +kernel)) rfl), List.forall_mem_cons.mpr ⟨(gwm (List.mem_of_getElem? (i := 176) (by decide +kernel)) rfl), List.forall_mem_cons.mpr ⟨(gwm (List.mem_of_getElem? (i := 178) (by decide +kernel)) rfl), List.forall_mem_cons.mpr ⟨(gwm (List.mem_of_getElem? (i := 180) (by decide +kernel)) rfl), List.forall_mem_cons.mpr ⟨(gwm (List.mem_of_getElem? (i := 182) (by decide +kernel)) rfl), List.forall_mem_cons.mpr ⟨(gwm (List.mem_of_getElem? (i := 184) (by decide +kernel)) rfl), List.forall_mem_cons.mpr ⟨(gwm (List.mem_of_getElem? (i := 186) (by decide +kernel)) rfl), List.forall_mem_cons.mpr ⟨(gwm (List.mem_of_getElem? (i := 188) (by decide +kernel)) rfl), List.forall_mem_cons.mpr ⟨(gwm (List.mem_of_getElem? (i := 190) (by decide +kernel)) rfl), List.forall_mem_cons.mpr ⟨(gwm (List.mem_of_getElem? (i := 192) (by decide +kernel)) rfl), List.forall_mem_cons.mpr ⟨(gwm (List.mem_of_getElem? (i := 194) (by decide +kernel)) rfl), fun _ h => absurd h List.not_mem_nil⟩⟩⟩⟩⟩⟩⟩⟩⟩⟩⟩⟩
theorem uw_2 : ∀ w ∈ u_ws RC2 TC2 6, w ∈ GW := by
  show ∀ w ∈ [u_lay RC2 TC2 0, u_lay RC2 TC2 1, u_lay RC2 TC2 2, u_lay RC2 TC2 3, u_lay RC2 TC2 4, u_lay RC2 TC2 5], w ∈ GW
  exact List.forall_mem_cons.mpr ⟨(gwm (List.mem_of_getElem? (i := 494) (by decide +kernel)) rfl), List.forall_mem_cons.mpr ⟨(gwm (List.mem_of_getElem? (i := 496) (by decide +kernel)) rfl), List.forall_mem_cons.mpr ⟨(gwm (List.mem_of_getElem? (i := 498) (by decide +kernel)) rfl), List.forall_mem_cons.mpr ⟨(gwm (List.mem_of_getElem? (i := 500) (by decide +kernel)) rfl), List.forall_mem_cons.mpr ⟨(gwm (List.mem_of_getElem? (i := 502) (by decide +kernel)) rfl), List.forall_mem_cons.mpr ⟨(gwm (List.mem_of_getElem? (i := 504) (by decide +kernel)) rfl), fun _ h => absurd h List.not_mem_nil⟩⟩⟩⟩⟩⟩
theorem uw_3 : ∀ w ∈ u_ws RC3 TC3 5, w ∈ GW := by
  show ∀ w ∈ [u_lay RC3 TC3 0, u_lay RC3 TC3 1, u_lay RC3 TC3 2, u_lay RC3 TC3 3, u_lay RC3 TC3 4], w ∈ GW
  exact List.forall_mem_cons.mpr ⟨(gwm (List.mem_of_getElem? (i := 110) (by decide +kernel)) rfl), List.forall_mem_cons.mpr ⟨(gwm (List.mem_of_getElem? (i := 112) (by decide +kernel)) rfl), List.forall_mem_cons.mpr ⟨(gwm (List.mem_of_getElem? (i := 114) (by decide +kernel)) rfl), List.forall_mem_cons.mpr ⟨(gwm (List.mem_of_getElem? (i := 116) (by decide +kernel)) rfl), List.forall_mem_cons.mpr ⟨(gwm (List.mem_of_getElem? (i := 118) (by decide +kernel)) rfl), fun _ h => absurd h List.not_mem_nil⟩⟩⟩⟩⟩
theorem uw_4 : ∀ w ∈ u_ws RC4 TC4 3, w ∈ GW := by
  show ∀ w ∈ [u_lay RC4 TC4 0, u_lay RC4 TC4 1, u_lay RC4 TC4 2], w ∈ GW
  exact List.forall_mem_cons.mpr ⟨(gwm (List.mem_of_getElem? (i := 363) (by decide +kernel)) rfl), List.forall_mem_cons.mpr ⟨(gwm (List.mem_of_getElem? (i := 365) (by decide +kernel)) rfl), List.forall_mem_cons.mpr ⟨(gwm (List.mem_of_getElem? (i := 367) (by decide +kernel)) rfl), fun _ h => absurd h List.not_mem_nil⟩⟩⟩
theorem uw_5 : ∀ w ∈ u_ws RC5 TC5 12, w ∈ GW := by
  show ∀ w ∈ [u_lay RC5 TC5 0, u_lay RC5 TC5 1, u_lay RC5 TC5 2, u_lay RC5 TC5 3, u_lay RC5 TC5 4, u_lay RC5 TC5 5, u_lay RC5 TC5 6, u_lay RC5 TC5 7, u_lay RC5 TC5 8, u_lay RC5 TC5 9, u_lay RC5 TC5 10, u_lay RC5 TC5 11], w ∈ GW
  exact List.forall_mem_cons.mpr ⟨(gwm (List.mem_of_getElem? (i := 635) (by decide +kernel)) rfl), List.forall_mem_cons.mpr ⟨(gwm (List.mem_of_getElem? (i := 637) (by decide +kernel)) rfl), List.forall_mem_cons.mpr ⟨(gwm (List.mem_of_getElem? (i := 639) (by decide +kernel)) rfl), List.forall_mem_cons.mpr ⟨(gwm (List.mem_of_getElem? (i := 641) (by decide +kernel)) rfl), List.forall_mem_cons.mpr ⟨(gwm (List.mem_of_getElem? (i := 643) (by decide +kernel)) rfl), List.forall_mem_cons.mpr ⟨(gwm (List.mem_of_getElem? (i := 645) (by decide +kernel)) rfl), List.forall_mem_cons.mpr ⟨(gwm (List.mem_of_getElem? (i := 647) (by decide +kernel)) rfl), List.forall_mem_cons.mpr ⟨(gwm (List.mem_of_getElem? (i := 649) (by decide +kernel)) rfl), List.forall_mem_cons.mpr ⟨(gwm (List.mem_of_getElem? (i := 651) (by decide +kernel)) rfl), List.forall_mem_cons.mpr ⟨(gwm (List.mem_of_getElem? (i := 653) (by decide +kernel)) rfl), List.forall_mem_cons.mpr ⟨(gwm (List.mem_of_getElem? (i := 655) (by decide +kernel)) rfl), List.forall_mem_cons.mpr ⟨(gwm (List.mem_of_getElem? (i := 657) (by decide +kernel)) rfl), fun _ h => absurd h List.not_mem_nil⟩⟩⟩⟩⟩⟩⟩⟩⟩⟩⟩⟩
theorem uw_6 : ∀ w ∈ u_ws RC6 TC6 2, w ∈ GW := by
  show ∀ w ∈ [u_lay RC6 TC6 0, u_lay RC6 TC6 1], w ∈ GW
  exact List.forall_mem_cons.mpr ⟨(gwm (List.mem_of_getElem? (i := 829) (by decide +kernel)) rfl), List.forall_mem_cons.mpr ⟨(gwm (List.mem_of_getElem? (i := 831) (by decide +kernel)) rfl), fun _ h => absurd h List.not_mem_nil⟩⟩
theorem uw_7 : ∀ w ∈ u_ws RC7 TC7 4, w ∈ GW := by
  show ∀ w ∈ [u_lay RC7 TC7 0, u_lay RC7 TC7 1, u_lay RC7 TC7 2, u_lay RC7 TC7 3], w ∈ GW
  exact List.forall_mem_cons.mpr ⟨(gwm (List.mem_of_getElem? (i := 59) (by decide +kernel)) rfl), List.forall_mem_cons.mpr ⟨(gwm (List.mem_of_getElem? (i := 61) (by decide +kernel)) rfl), List.forall_mem_cons.mpr ⟨(gwm (List.mem_of_getElem? (i := 63) (by decide +kernel)) rfl), List.forall_mem_cons.mpr ⟨(gwm (List.mem_of_getElem? (i := 65) (by decide +kernel)) rfl), fun _ h => absurd h List.not_mem_nil⟩⟩⟩⟩
theorem uw_8 : ∀ w ∈ u_ws RC8 TC8 3, w ∈ GW := by
  show ∀ w ∈ [u_lay RC8 TC8 0, u_lay RC8 TC8 1, u_lay RC8 TC8 2], w ∈ GW
  exact List.forall_mem_cons.mpr ⟨(gwm (List.mem_of_getElem? (i := 83) (by decide +kernel)) rfl), List.forall_mem_cons.mpr ⟨(gwm (List.mem_of_getElem? (i := 85) (by decide +kernel)) rfl), List.forall_mem_cons.mpr ⟨(gwm (List.mem_of_getElem? (i := 87) (by decide +kernel)) rfl), fun _ h => absurd h List.not_mem_nil⟩⟩⟩
theorem uw_9 : ∀ w ∈ u_ws RC9 TC9 3, w ∈ GW := by
  show ∀ w ∈ [u_lay RC9 TC9 0, u_lay RC9 TC9 1, u_lay RC9 TC9 2], w ∈ GW
  exact List.forall_mem_cons.mpr ⟨(gwm (List.mem_of_getElem? (i := 144) (by decide +kernel)) rfl), List.forall_mem_cons.mpr ⟨(gwm (List.mem_of_getElem? (i := 140) (by decide +kernel)) rfl), List.forall_mem_cons.mpr ⟨(gwm (List.mem_of_getElem? (i := 142) (by decide +kernel)) rfl), fun _ h => absurd h List.not_mem_nil⟩⟩⟩
theorem uw_10 : ∀ w ∈ u_ws RC10 TC10 34, w ∈ GW := by
  show ∀ w ∈ [u_lay RC10 TC10 0, u_lay RC10 TC10 1, u_lay RC10 TC10 2, u_lay RC10 TC10 3, u_lay RC10 TC10 4, u_lay RC10 TC10 5, u_lay RC10 TC10 6, u_lay RC10 TC10 7, u_lay RC10 TC10 8, u_lay RC10 TC10 9, u_lay RC10 TC10 10, u_lay RC10 TC10 11, u_lay RC10 TC10 12, u_lay RC10 TC10 13, u_lay RC10 TC10 14, u_lay RC10 TC10 15, u_lay RC10 TC10 16, u_lay RC10 TC10 17, u_lay RC10 TC10 18, u_lay RC10 TC10 19, u_lay RC10 TC10 20, u_lay RC10 TC10 21, u_lay RC10 TC10 22, u_lay RC10 TC10 23, u_lay RC10 TC10 24, u_lay RC10 TC10 25, u_lay RC10 TC10 26, u_lay RC10 TC10 27, u_lay RC10 TC10 28, u_lay RC10 TC10 29, u_lay RC10 TC10 30, u_lay RC10 TC10 31, u_lay RC10 TC10 32, u_lay RC10 TC10 33], w ∈ GW
  exact List.forall_mem_cons.mpr ⟨(gwm (List.mem_of_getElem? (i := 888) (by decide +kernel)) rfl), List.forall_mem_cons.mpr ⟨(gwm (List.mem_of_getElem? (i := 890) (by decide +kernel)) rfl), List.forall_mem_cons.mpr ⟨(gwm (List.mem_of_getElem? (i := 892) (by decide +kernel)) rfl), List.forall_mem_cons.mpr ⟨(gwm (List.mem_of_getElem? (i := 894) (by decide +kernel)) rfl), List.forall_mem_cons.mpr ⟨(gwm (List.mem_of_getElem? (i := 896) (by decide +kernel)) rfl), List.forall_mem_cons.mpr ⟨(gwm (List.mem_of_getElem? (i := 898) (by decide +kernel)) rfl), List.forall_mem_cons.mpr ⟨(gwm (List.mem_of_getElem? (i := 900) (by decide +kernel)) rfl), List.forall_mem_cons.mpr ⟨(gwm (List.mem_of_getElem? (i := 902) (by decide +kernel)) rfl), List.forall_mem_cons.mpr ⟨(gwm (List.mem_of_getElem? (i := 904) (by decide +kernel)) rfl), List.forall_mem_cons.mpr ⟨(gwm (List.mem_of_getElem? (i := 906) (by decide +kernel)) rfl), List.forall_mem_cons.mpr ⟨(gwm (List.mem_of_getElem? (i := 908) (by decide +kernel)) rfl), List.forall_mem_cons.mpr ⟨(gwm (List.mem_of_getElem? (i := 910) (by decide +kernel)) rfl), List.forall_mem_cons.mpr ⟨(gwm (List.mem_of_getElem? (i := 912) (by decide +kernel)) rfl), List.forall_mem_cons.mpr ⟨(gwm (List.mem_of_getElem? (i := 914) (by decide +kernel)) rfl), List.forall_mem_cons.mpr ⟨(gwm (List.mem_of_getElem? (i := 916) (by decide +kernel)) rfl), List.forall_mem_cons.mpr ⟨(gwm (List.mem_of_getElem? (i := 918) (by decide +kernel)) rfl), List.forall_mem_cons.mpr ⟨(gwm (List.mem_of_getElem? (i := 920) (by decide +kernel)) rfl), List.forall_mem_cons.mpr ⟨(gwm (List.mem_of_getElem? (i := 922) (by decide +kernel)) rfl), List.forall_mem_cons.mpr ⟨(gwm (List.mem_of_getElem? (i := 924) (by decide +kernel)) rfl), List.forall_mem_cons.mpr ⟨(gwm (List.mem_of_getElem? (i := 926) (by decide +kernel)) rfl), List.forall_mem_cons.mpr ⟨(gwm (List.mem_of_getElem? (i := 928) (by decide +kernel)) rfl), List.forall_mem_cons.mpr ⟨(gwm (List.mem_of_getElem? (i := 930) (by decide +kernel)) rfl), List.forall_mem_cons.mpr ⟨(gwm (List.mem_of_getElem? (i := 932) (by decide +kernel)) rfl), List.forall_mem_cons.mpr ⟨(gwm (List.mem_of_getElem? (i := 934) (by decide +kernel)) rfl), List.forall_mem_cons.mpr ⟨(gwm (List.mem_of_getElem? (i := 936) (by decide +kernel)) rfl), List.forall_mem_cons.mpr ⟨(gwm (List.mem_of_getElem? (i := 938) (by decide +kernel)) rfl), List.forall_mem_cons.mpr ⟨(gwm (List.mem_of_getElem? (i := 940) (by decide +kernel)) rfl), List.forall_mem_cons.mpr ⟨(gwm (List.mem_of_getElem? (i := 942) (by decide +kernel)) rfl), List.forall_mem_cons.mpr ⟨(gwm (List.mem_of_getElem? (i := 944) (by decide +kernel)) rfl), List.forall_mem_cons.mpr ⟨(gwm (List.mem_of_getElem? (i := 946) (by decide +kernel)) rfl), List.forall_mem_cons.mpr ⟨(gwm (List.mem_of_getElem? (i := 948) (by decide +kernel)) rfl), List.forall_mem_cons.mpr ⟨(gwm (List.mem_of_getElem? (i := 950) (by decide +kernel)) rfl), List.forall_mem_cons.mpr ⟨(gwm (List.mem_of_getElem? (i := 952) (by decide +kernel)) rfl), List.forall_mem_cons.mpr ⟨(gwm (List.mem_of_getElem? (i := 954) (by decide +kernel)) rfl), fun _ h => absurd h List.not_mem_nil⟩⟩⟩⟩⟩⟩⟩⟩⟩⟩⟩⟩⟩⟩⟩⟩⟩⟩⟩⟩⟩⟩⟩⟩⟩⟩⟩⟩⟩⟩⟩⟩⟩⟩
def vwP (i : Nat) (r : vw_C) : Prop := (∀ w ∈ u_ws r.1 r.2.1 r.2.2, w ∈ GW) ∧ (∀ k, k < r.2.2 → parseFieldDescriptor (r.2.1 k).2.2.1 = some (yTy i k)) ∧ (∀ a, a < r.2.2 → ∀ b, b < r.2.2 → a ≠ b → (r.2.1 a).2.1 ≠ (r.2.1 b).2.1) ∧ Cond.instantiable r.1 r.2.2 ∈ GW ∧ Cond.initialized r.1 ∈ GW
theorem vw_0 : vwP 0 (RC0, TC0, 2) := ⟨uw_0, yC0_ok, nC0, (gwm (List.mem_of_getElem? (i := 27) (by decide +kernel)) rfl), (gwm (List.mem_of_getElem? (i := 1) (by decide +kernel)) rfl)⟩
theorem vw_1 : vwP 1 (RC1, TC1, 12) := ⟨uw_1, yC1_ok, nC1, (gwm (List.mem_of_getElem? (i := 36) (by decide +kernel)) rfl), (gwm (List.mem_of_getElem? (i := 2) (by decide +kernel)) rfl)⟩
theorem vw_2 : vwP 2 (RC2, TC2, 6) := ⟨uw_2, yC2_ok, nC2, (gwm (List.mem_of_getElem? (i := 475) (by decide +kernel)) rfl), (gwm (List.mem_of_getElem? (i := 22) (by decide +kernel)) rfl)⟩
theorem vw_3 : vwP 3 (RC3, TC3, 5) := ⟨uw_3, yC3_ok, nC3, (gwm (List.mem_of_getElem? (i := 91) (by decide +kernel)) rfl), (gwm (List.mem_of_getElem? (i := 5) (by decide +kernel)) rfl)⟩
theorem vw_4 : vwP 4 (RC4, TC4, 3) := ⟨uw_4, yC4_ok, nC4, (gwm (List.mem_of_getElem? (i := 350) (by decide +kernel)) rfl), (gwm (List.mem_of_getElem? (i := 17) (by decide +kernel)) rfl)⟩
theorem vw_5 : vwP 5 (RC5, TC5, 12) := ⟨uw_5, yC5_ok, nC5, (gwm (List.mem_of_getElem? (i := 599) (by decide +kernel)) rfl), (gwm (List.mem_of_getElem? (i := 23) (by decide +kernel)) rfl)⟩
theorem vw_6 : vwP 6 (RC6, TC6, 2) := ⟨uw_6, yC6_ok, nC6, (gwm (List.mem_of_getElem? (i := 820) (by decide +kernel)) rfl), (gwm (List.mem_of_getElem? (i := 25) (by decide +kernel)) rfl)⟩
theorem vw_7 : vwP 7 (RC7, TC7, 4) := ⟨uw_7, yC7_ok, nC7, (gwm (List.mem_of_getElem? (i := 44) (by decide +kernel)) rfl), (gwm (List.mem_of_getElem? (i := 3) (by decide +kernel)) rfl)⟩
theorem vw_8 : vwP 8 (RC8, TC8, 3) := ⟨uw_8, yC8_ok, nC8, (gwm (List.mem_of_getElem? (i := 70) (by decide +kernel)) rfl), (gwm (List.mem_of_getElem? (i := 4) (by decide +kernel)) rfl)⟩
theorem vw_9 : vwP 9 (RC9, TC9, 3) := ⟨uw_9, yC9_ok, nC9, (gwm (List.mem_of_getElem? (i := 122) (by decide +kernel)) rfl), (gwm (List.mem_of_getElem? (i := 8) (by decide +kernel)) rfl)⟩
theorem vw_10 : vwP 10 (RC10, TC10, 34) := ⟨uw_10, yC10_ok, nC10, (gwm (List.mem_of_getElem? (i := 849) (by decide +kernel)) rfl), (gwm (List.mem_of_getElem? (i := 9) (by decide +kernel)) rfl)⟩
theorem vwOK : ∀ (i : Nat) (r : vw_C), vwCl[i]? = some r → vwP i r
  | 0, _, h => by cases h; exact vw_0
  | 1, _, h => by cases h; exact vw_1
  | 2, _, h => by cases h; exact vw_2
  | 3, _, h => by cases h; exact vw_3
  | 4, _, h => by cases h; exact vw_4
  | 5, _, h => by cases h; exact vw_5
  | 6, _, h => by cases h; exact vw_6
  | 7, _, h => by cases h; exact vw_7
  | 8, _, h => by cases h; exact vw_8
  | 9, _, h => by cases h; exact vw_9
  | 10, _, h => by cases h; exact vw_10
  | n + 11, _, h => by cases h
def fdP (ci : Nat) (ds : List (Option Nat)) : Prop := ∃ r : vw_C, vwCl[ci]? = some r ∧ ds.length = r.2.2 ∧ (∀ t ∈ ds, ∀ u, t = some u → u < 100) ∧ ∀ j, j < r.2.2 → (ds[j]? = some none → defaultValue (yTy ci j) = .int 0) ∧ (∀ t, ds[j]? = some (some t) → defaultValue (yTy ci j) = .null)
theorem fd_1 : fdP 0 [some 10, some 3] := by
  refine ⟨_, rfl, rfl, by decide, ?_⟩
  have h : ∀ j, j < 2 → (([some 10, some 3] : List (Option Nat))[j]? = some none → defaultValue (yTy 0 j) = .int 0) ∧ ((([some 10, some 3] : List (Option Nat))[j]?.bind id).isSome = true → defaultValue (yTy 0 j) = .null) := by decide +kernel
  exact fun j hj => ⟨(h j hj).1, fun t ht => (h j hj).2 (by rw [ht]; rfl)⟩
theorem fd_2 : fdP 1 [none, some 11, some 8, some 9, some 4, some 20, some 21, some 22, none, none, none, some 5] := by
  refine ⟨_, rfl, rfl, by decide, ?_⟩
  have h : ∀ j, j < 12 → (([none, some 11, some 8, some 9, some 4, some 20, some 21, some 22, none, none, none, some 5] : List (Option Nat))[j]? = some none → defaultValue (yTy 1 j) = .int 0) ∧ ((([none, some 11, some 8, some 9, some 4, some 20, some 21, some 22, none, none, none, some 5] : List (Option Nat))[j]?.bind id).isSome = true → defaultValue (yTy 1 j) = .null) := by decide +kernel
  exact fun j hj => ⟨(h j hj).1, fun t ht => (h j hj).2 (by rw [ht]; rfl)⟩
theorem fd_3 : fdP 2 [none, none, none, none, some 6, some 6] := by
  refine ⟨_, rfl, rfl, by decide, ?_⟩
  have h : ∀ j, j < 6 → (([none, none, none, none, some 6, some 6] : List (Option Nat))[j]? = some none → defaultValue (yTy 2 j) = .int 0) ∧ ((([none, none, none, none, some 6, some 6] : List (Option Nat))[j]?.bind id).isSome = true → defaultValue (yTy 2 j) = .null) := by decide +kernel
  exact fun j hj => ⟨(h j hj).1, fun t ht => (h j hj).2 (by rw [ht]; rfl)⟩
theorem fd_4 : fdP 3 [some 16, some 17, some 18, none, none] := by
  refine ⟨_, rfl, rfl, by decide, ?_⟩
  have h : ∀ j, j < 5 → (([some 16, some 17, some 18, none, none] : List (Option Nat))[j]? = some none → defaultValue (yTy 3 j) = .int 0) ∧ ((([some 16, some 17, some 18, none, none] : List (Option Nat))[j]?.bind id).isSome = true → defaultValue (yTy 3 j) = .null) := by decide +kernel
  exact fun j hj => ⟨(h j hj).1, fun t ht => (h j hj).2 (by rw [ht]; rfl)⟩
theorem fd_5 : fdP 4 [none, some 6, none] := by
  refine ⟨_, rfl, rfl, by decide, ?_⟩
  have h : ∀ j, j < 3 → (([none, some 6, none] : List (Option Nat))[j]? = some none → defaultValue (yTy 4 j) = .int 0) ∧ ((([none, some 6, none] : List (Option Nat))[j]?.bind id).isSome = true → defaultValue (yTy 4 j) = .null) := by decide +kernel
  exact fun j hj => ⟨(h j hj).1, fun t ht => (h j hj).2 (by rw [ht]; rfl)⟩
theorem fd_6 : fdP 5 [none, none, none, some 3, none, none, some 31, some 32, some 33, none, none, some 6] := by
  refine ⟨_, rfl, rfl, by decide, ?_⟩
  have h : ∀ j, j < 12 → (([none, none, none, some 3, none, none, some 31, some 32, some 33, none, none, some 6] : List (Option Nat))[j]? = some none → defaultValue (yTy 5 j) = .int 0) ∧ ((([none, none, none, some 3, none, none, some 31, some 32, some 33, none, none, some 6] : List (Option Nat))[j]?.bind id).isSome = true → defaultValue (yTy 5 j) = .null) := by decide +kernel
  exact fun j hj => ⟨(h j hj).1, fun t ht => (h j hj).2 (by rw [ht]; rfl)⟩
theorem fd_7 : fdP 6 [some 3, none] := by
  refine ⟨_, rfl, rfl, by decide, ?_⟩
  have h : ∀ j, j < 2 → (([some 3, none] : List (Option Nat))[j]? = some none → defaultValue (yTy 6 j) = .int 0) ∧ ((([some 3, none] : List (Option Nat))[j]?.bind id).isSome = true → defaultValue (yTy 6 j) = .null) := by decide +kernel
  exact fun j hj => ⟨(h j hj).1, fun t ht => (h j hj).2 (by rw [ht]; rfl)⟩
theorem fd_8 : fdP 7 [some 12, some 13, some 14, none] := by
  refine ⟨_, rfl, rfl, by decide, ?_⟩
  have h : ∀ j, j < 4 → (([some 12, some 13, some 14, none] : List (Option Nat))[j]? = some none → defaultValue (yTy 7 j) = .int 0) ∧ ((([some 12, some 13, some 14, none] : List (Option Nat))[j]?.bind id).isSome = true → defaultValue (yTy 7 j) = .null) := by decide +kernel
  exact fun j hj => ⟨(h j hj).1, fun t ht => (h j hj).2 (by rw [ht]; rfl)⟩
theorem fd_9 : fdP 8 [some 15, none, none] := by
  refine ⟨_, rfl, rfl, by decide, ?_⟩
  have h : ∀ j, j < 3 → (([some 15, none, none] : List (Option Nat))[j]? = some none → defaultValue (yTy 8 j) = .int 0) ∧ ((([some 15, none, none] : List (Option Nat))[j]?.bind id).isSome = true → defaultValue (yTy 8 j) = .null) := by decide +kernel
  exact fun j hj => ⟨(h j hj).1, fun t ht => (h j hj).2 (by rw [ht]; rfl)⟩
theorem fd_20 : fdP 9 [none, some 0, none] := by
  refine ⟨_, rfl, rfl, by decide, ?_⟩
  have h : ∀ j, j < 3 → (([none, some 0, none] : List (Option Nat))[j]? = some none → defaultValue (yTy 9 j) = .int 0) ∧ ((([none, some 0, none] : List (Option Nat))[j]?.bind id).isSome = true → defaultValue (yTy 9 j) = .null) := by decide +kernel
  exact fun j hj => ⟨(h j hj).1, fun t ht => (h j hj).2 (by rw [ht]; rfl)⟩
theorem fd_21 : fdP 9 [none, some 0, none] := by
  refine ⟨_, rfl, rfl, by decide, ?_⟩
  have h : ∀ j, j < 3 → (([none, some 0, none] : List (Option Nat))[j]? = some none → defaultValue (yTy 9 j) = .int 0) ∧ ((([none, some 0, none] : List (Option Nat))[j]?.bind id).isSome = true → defaultValue (yTy 9 j) = .null) := by decide +kernel
  exact fun j hj => ⟨(h j hj).1, fun t ht => (h j hj).2 (by rw [ht]; rfl)⟩
theorem fd_22 : fdP 9 [none, some 0, none] := by
  refine ⟨_, rfl, rfl, by decide, ?_⟩
  have h : ∀ j, j < 3 → (([none, some 0, none] : List (Option Nat))[j]? = some none → defaultValue (yTy 9 j) = .int 0) ∧ ((([none, some 0, none] : List (Option Nat))[j]?.bind id).isSome = true → defaultValue (yTy 9 j) = .null) := by decide +kernel
  exact fun j hj => ⟨(h j hj).1, fun t ht => (h j hj).2 (by rw [ht]; rfl)⟩
theorem fd_50 : fdP 10 [none, some 51, some 52, none, some 53, some 54, some 55, some 56, some 57, some 58, some 59, some 60, some 61, some 62, some 63, some 64, some 65, some 66, some 67, some 68, some 69, some 70, some 71, none, some 72, some 73, some 74, some 75, some 76, some 77, some 78, some 79, some 80, some 81] := by
  refine ⟨_, rfl, rfl, by decide, ?_⟩
  have h : ∀ j, j < 34 → (([none, some 51, some 52, none, some 53, some 54, some 55, some 56, some 57, some 58, some 59, some 60, some 61, some 62, some 63, some 64, some 65, some 66, some 67, some 68, some 69, some 70, some 71, none, some 72, some 73, some 74, some 75, some 76, some 77, some 78, some 79, some 80, some 81] : List (Option Nat))[j]? = some none → defaultValue (yTy 10 j) = .int 0) ∧ ((([none, some 51, some 52, none, some 53, some 54, some 55, some 56, some 57, some 58, some 59, some 60, some 61, some 62, some 63, some 64, some 65, some 66, some 67, some 68, some 69, some 70, some 71, none, some 72, some 73, some 74, some 75, some 76, some 77, some 78, some 79, some 80, some 81] : List (Option Nat))[j]?.bind id).isSome = true → defaultValue (yTy 10 j) = .null) := by decide +kernel
  exact fun j hj => ⟨(h j hj).1, fun t ht => (h j hj).2 (by rw [ht]; rfl)⟩
theorem fdOK : ∀ {k ci : Nat} {ds : List (Option Nat)}, fdT k = some (ci, ds) → fdP ci ds := by
  intro k ci ds h
  unfold fdT at h
  split at h
  · cases h; exact fd_1
  · cases h; exact fd_2
  · cases h; exact fd_3
  · cases h; exact fd_4
  · cases h; exact fd_5
  · cases h; exact fd_6
  · cases h; exact fd_7
  · cases h; exact fd_8
  · cases h; exact fd_9
  · cases h; exact fd_20
  · cases h; exact fd_21
  · cases h; exact fd_22
  · cases h; exact fd_50
  · cases h
