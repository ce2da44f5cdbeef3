/-! links of calls, by program -/
theorem gwl {w : Cond} (h : w ∈ lw_tbl) (g : goodWord w = true) : w ∈ GW := List.mem_filter.mpr ⟨h, g⟩
theorem mo_0_1 : Cond.methodLink (RCn 0) 1 Lib.objectInit ∈ GW := (gwl (List.mem_of_getElem? (i := 66) (by decide +kernel)) rfl)
set_option maxRecDepth 100000 in
theorem mc_31 : Cond.code (mY 31) (mB 31) (mL 31) (mR 31) ∈ GW := (gwl (List.mem_of_getElem? (i := 74) rfl) rfl)
theorem mi_31 : Cond.initialized (mY 31).cls ∈ GW := (gwl (List.mem_of_getElem? (i := 37) (by decide +kernel)) rfl)
theorem mn_31 : Cond.instanceMethod (mY 31) ∈ GW := (gwl (List.mem_of_getElem? (i := 73) (by decide +kernel)) rfl)
theorem ml_0_15 : MLI 0 15 31 1 := ⟨(gwl (List.mem_of_getElem? (i := 72) (by decide +kernel)) rfl), mn_31, mi_31, mc_31, ⟨by decide +kernel, by decide +kernel, by decide +kernel⟩, rfl, rfl⟩
set_option maxRecDepth 100000 in
theorem mc_64 : Cond.code (mY 64) (mB 64) (mL 64) (mR 64) ∈ GW := (gwl (List.mem_of_getElem? (i := 251) rfl) rfl)
theorem mi_64 : Cond.initialized (mY 64).cls ∈ GW := (gwl (List.mem_of_getElem? (i := 36) (by decide +kernel)) rfl)
theorem mn_64 : Cond.instanceMethod (mY 64) ∈ GW := (gwl (List.mem_of_getElem? (i := 250) (by decide +kernel)) rfl)
theorem me_64 : Cond.selects (mY 64).cls (mY 64) (mY 64) ∈ GW := (gwl (List.mem_of_getElem? (i := 0) (by decide +kernel)) rfl)
theorem ml_0_18 : MLV 0 18 64 1 := ⟨(gwl (List.mem_of_getElem? (i := 248) (by decide +kernel)) rfl), mn_64, me_64, mi_64, mc_64, ⟨by decide +kernel, by decide +kernel, by decide +kernel⟩, rfl⟩
set_option maxRecDepth 100000 in
theorem mc_65 : Cond.code (mY 65) (mB 65) (mL 65) (mR 65) ∈ GW := (gwl (List.mem_of_getElem? (i := 346) rfl) rfl)
theorem mi_65 : Cond.initialized (mY 65).cls ∈ GW := (gwl (List.mem_of_getElem? (i := 36) (by decide +kernel)) rfl)
theorem mn_65 : Cond.instanceMethod (mY 65) ∈ GW := (gwl (List.mem_of_getElem? (i := 345) (by decide +kernel)) rfl)
theorem me_65 : Cond.selects (mY 65).cls (mY 65) (mY 65) ∈ GW := (gwl (List.mem_of_getElem? (i := 2) (by decide +kernel)) rfl)
theorem ml_0_37 : MLV 0 37 65 1 := ⟨(gwl (List.mem_of_getElem? (i := 343) (by decide +kernel)) rfl), mn_65, me_65, mi_65, mc_65, ⟨by decide +kernel, by decide +kernel, by decide +kernel⟩, rfl⟩
set_option maxRecDepth 100000 in
theorem mc_34 : Cond.code (mY 34) (mB 34) (mL 34) (mR 34) ∈ GW := (gwl (List.mem_of_getElem? (i := 351) rfl) rfl)
theorem mi_34 : Cond.initialized (mY 34).cls ∈ GW := (gwl (List.mem_of_getElem? (i := 37) (by decide +kernel)) rfl)
theorem mn_34 : Cond.instanceMethod (mY 34) ∈ GW := (gwl (List.mem_of_getElem? (i := 349) (by decide +kernel)) rfl)
theorem me_34 : Cond.selects (mY 34).cls (mY 34) (mY 34) ∈ GW := (gwl (List.mem_of_getElem? (i := 350) (by decide +kernel)) rfl)
theorem ml_0_49 : MLV 0 49 34 0 := ⟨(gwl (List.mem_of_getElem? (i := 348) (by decide +kernel)) rfl), mn_34, me_34, mi_34, mc_34, ⟨by decide +kernel, by decide +kernel, by decide +kernel⟩, rfl⟩
set_option maxRecDepth 100000 in
theorem mc_35 : Cond.code (mY 35) (mB 35) (mL 35) (mR 35) ∈ GW := (gwl (List.mem_of_getElem? (i := 359) rfl) rfl)
theorem mi_35 : Cond.initialized (mY 35).cls ∈ GW := (gwl (List.mem_of_getElem? (i := 37) (by decide +kernel)) rfl)
theorem mn_35 : Cond.instanceMethod (mY 35) ∈ GW := (gwl (List.mem_of_getElem? (i := 357) (by decide +kernel)) rfl)
theorem me_35 : Cond.selects (mY 35).cls (mY 35) (mY 35) ∈ GW := (gwl (List.mem_of_getElem? (i := 358) (by decide +kernel)) rfl)
theorem ml_0_52 : MLV 0 52 35 1 := ⟨(gwl (List.mem_of_getElem? (i := 356) (by decide +kernel)) rfl), mn_35, me_35, mi_35, mc_35, ⟨by decide +kernel, by decide +kernel, by decide +kernel⟩, rfl⟩
set_option maxRecDepth 100000 in
theorem mc_12 : Cond.code (mY 12) (mB 12) (mL 12) (mR 12) ∈ GW := (gwl (List.mem_of_getElem? (i := 388) rfl) rfl)
theorem mi_12 : Cond.initialized (mY 12).cls ∈ GW := (gwl (List.mem_of_getElem? (i := 52) (by decide +kernel)) rfl)
theorem mn_12 : Cond.instanceMethod (mY 12) ∈ GW := (gwl (List.mem_of_getElem? (i := 387) (by decide +kernel)) rfl)
theorem ml_0_62 : MLI 0 62 12 3 := ⟨(gwl (List.mem_of_getElem? (i := 386) (by decide +kernel)) rfl), mn_12, mi_12, mc_12, ⟨by decide +kernel, by decide +kernel, by decide +kernel⟩, rfl, rfl⟩
set_option maxRecDepth 100000 in
theorem mc_204 : Cond.code (mY 204) (mB 204) (mL 204) (mR 204) ∈ GW := (gwl (List.mem_of_getElem? (i := 408) rfl) rfl)
theorem mi_204 : Cond.initialized (mY 204).cls ∈ GW := (gwl (List.mem_of_getElem? (i := 43) (by decide +kernel)) rfl)
theorem mn_204 : Cond.instanceMethod (mY 204) ∈ GW := (gwl (List.mem_of_getElem? (i := 406) (by decide +kernel)) rfl)
theorem me_204 : Cond.selects (mY 204).cls (mY 204) (mY 204) ∈ GW := (gwl (List.mem_of_getElem? (i := 407) (by decide +kernel)) rfl)
theorem ml_0_65 : MLV 0 65 204 1 := ⟨(gwl (List.mem_of_getElem? (i := 405) (by decide +kernel)) rfl), mn_204, me_204, mi_204, mc_204, ⟨by decide +kernel, by decide +kernel, by decide +kernel⟩, rfl⟩
set_option maxRecDepth 100000 in
theorem mc_45 : Cond.code (mY 45) (mB 45) (mL 45) (mR 45) ∈ GW := (gwl (List.mem_of_getElem? (i := 469) rfl) rfl)
theorem mi_45 : Cond.initialized (mY 45).cls ∈ GW := (gwl (List.mem_of_getElem? (i := 37) (by decide +kernel)) rfl)
theorem mn_45 : Cond.instanceMethod (mY 45) ∈ GW := (gwl (List.mem_of_getElem? (i := 467) (by decide +kernel)) rfl)
theorem me_45 : Cond.selects (mY 45).cls (mY 45) (mY 45) ∈ GW := (gwl (List.mem_of_getElem? (i := 468) (by decide +kernel)) rfl)
theorem ml_0_71 : MLV 0 71 45 0 := ⟨(gwl (List.mem_of_getElem? (i := 466) (by decide +kernel)) rfl), mn_45, me_45, mi_45, mc_45, ⟨by decide +kernel, by decide +kernel, by decide +kernel⟩, rfl⟩
set_option maxRecDepth 100000 in
theorem mc_44 : Cond.code (mY 44) (mB 44) (mL 44) (mR 44) ∈ GW := (gwl (List.mem_of_getElem? (i := 489) rfl) rfl)
theorem mi_44 : Cond.initialized (mY 44).cls ∈ GW := (gwl (List.mem_of_getElem? (i := 37) (by decide +kernel)) rfl)
theorem mn_44 : Cond.instanceMethod (mY 44) ∈ GW := (gwl (List.mem_of_getElem? (i := 487) (by decide +kernel)) rfl)
theorem me_44 : Cond.selects (mY 44).cls (mY 44) (mY 44) ∈ GW := (gwl (List.mem_of_getElem? (i := 488) (by decide +kernel)) rfl)
theorem ml_0_74 : MLV 0 74 44 0 := ⟨(gwl (List.mem_of_getElem? (i := 486) (by decide +kernel)) rfl), mn_44, me_44, mi_44, mc_44, ⟨by decide +kernel, by decide +kernel, by decide +kernel⟩, rfl⟩
set_option maxRecDepth 100000 in
theorem mc_0 : Cond.code (mY 0) (mB 0) (mL 0) (mR 0) ∈ GW := (gwl (List.mem_of_getElem? (i := 513) rfl) rfl)
theorem mi_0 : Cond.initialized (mY 0).cls ∈ GW := (gwl (List.mem_of_getElem? (i := 57) (by decide +kernel)) rfl)
theorem mn_0 : Cond.instanceMethod (mY 0) ∈ GW := (gwl (List.mem_of_getElem? (i := 512) (by decide +kernel)) rfl)
theorem ml_0_81 : MLI 0 81 0 2 := ⟨(gwl (List.mem_of_getElem? (i := 511) (by decide +kernel)) rfl), mn_0, mi_0, mc_0, ⟨by decide +kernel, by decide +kernel, by decide +kernel⟩, rfl, rfl⟩
set_option maxRecDepth 100000 in
theorem mc_32 : Cond.code (mY 32) (mB 32) (mL 32) (mR 32) ∈ GW := (gwl (List.mem_of_getElem? (i := 552) rfl) rfl)
theorem mi_32 : Cond.initialized (mY 32).cls ∈ GW := (gwl (List.mem_of_getElem? (i := 37) (by decide +kernel)) rfl)
theorem mn_32 : Cond.instanceMethod (mY 32) ∈ GW := (gwl (List.mem_of_getElem? (i := 550) (by decide +kernel)) rfl)
theorem me_32 : Cond.selects (mY 32).cls (mY 32) (mY 32) ∈ GW := (gwl (List.mem_of_getElem? (i := 551) (by decide +kernel)) rfl)
theorem ml_0_84 : MLV 0 84 32 1 := ⟨(gwl (List.mem_of_getElem? (i := 549) (by decide +kernel)) rfl), mn_32, me_32, mi_32, mc_32, ⟨by decide +kernel, by decide +kernel, by decide +kernel⟩, rfl⟩
set_option maxRecDepth 100000 in
theorem mc_6 : Cond.code (mY 6) (mB 6) (mL 6) (mR 6) ∈ GW := (gwl (List.mem_of_getElem? (i := 563) rfl) rfl)
theorem mi_6 : Cond.initialized (mY 6).cls ∈ GW := (gwl (List.mem_of_getElem? (i := 40) (by decide +kernel)) rfl)
theorem mn_6 : Cond.instanceMethod (mY 6) ∈ GW := (gwl (List.mem_of_getElem? (i := 561) (by decide +kernel)) rfl)
theorem me_6 : Cond.selects (mY 6).cls (mY 6) (mY 6) ∈ GW := (gwl (List.mem_of_getElem? (i := 562) (by decide +kernel)) rfl)
theorem ml_0_92 : MLV 0 92 6 2 := ⟨(gwl (List.mem_of_getElem? (i := 560) (by decide +kernel)) rfl), mn_6, me_6, mi_6, mc_6, ⟨by decide +kernel, by decide +kernel, by decide +kernel⟩, rfl⟩
set_option maxRecDepth 100000 in
theorem mc_5 : Cond.code (mY 5) (mB 5) (mL 5) (mR 5) ∈ GW := (gwl (List.mem_of_getElem? (i := 481) rfl) rfl)
theorem mi_5 : Cond.initialized (mY 5).cls ∈ GW := (gwl (List.mem_of_getElem? (i := 40) (by decide +kernel)) rfl)
theorem mn_5 : Cond.instanceMethod (mY 5) ∈ GW := (gwl (List.mem_of_getElem? (i := 479) (by decide +kernel)) rfl)
theorem me_5 : Cond.selects (mY 5).cls (mY 5) (mY 5) ∈ GW := (gwl (List.mem_of_getElem? (i := 480) (by decide +kernel)) rfl)
theorem ml_0_98 : MLV 0 98 5 1 := ⟨(gwl (List.mem_of_getElem? (i := 571) (by decide +kernel)) rfl), mn_5, me_5, mi_5, mc_5, ⟨by decide +kernel, by decide +kernel, by decide +kernel⟩, rfl⟩
set_option maxRecDepth 100000 in
theorem mc_66 : Cond.code (mY 66) (mB 66) (mL 66) (mR 66) ∈ GW := (gwl (List.mem_of_getElem? (i := 582) rfl) rfl)
theorem mi_66 : Cond.initialized (mY 66).cls ∈ GW := (gwl (List.mem_of_getElem? (i := 36) (by decide +kernel)) rfl)
theorem mn_66 : Cond.instanceMethod (mY 66) ∈ GW := (gwl (List.mem_of_getElem? (i := 581) (by decide +kernel)) rfl)
theorem me_66 : Cond.selects (mY 66).cls (mY 66) (mY 66) ∈ GW := (gwl (List.mem_of_getElem? (i := 7) (by decide +kernel)) rfl)
theorem ml_0_101 : MLV 0 101 66 2 := ⟨(gwl (List.mem_of_getElem? (i := 579) (by decide +kernel)) rfl), mn_66, me_66, mi_66, mc_66, ⟨by decide +kernel, by decide +kernel, by decide +kernel⟩, rfl⟩
set_option maxRecDepth 100000 in
theorem mc_67 : Cond.code (mY 67) (mB 67) (mL 67) (mR 67) ∈ GW := (gwl (List.mem_of_getElem? (i := 594) rfl) rfl)
theorem mi_67 : Cond.initialized (mY 67).cls ∈ GW := (gwl (List.mem_of_getElem? (i := 36) (by decide +kernel)) rfl)
theorem mn_67 : Cond.instanceMethod (mY 67) ∈ GW := (gwl (List.mem_of_getElem? (i := 593) (by decide +kernel)) rfl)
theorem me_67 : Cond.selects (mY 67).cls (mY 67) (mY 67) ∈ GW := (gwl (List.mem_of_getElem? (i := 8) (by decide +kernel)) rfl)
theorem ml_0_111 : MLV 0 111 67 4 := ⟨(gwl (List.mem_of_getElem? (i := 591) (by decide +kernel)) rfl), mn_67, me_67, mi_67, mc_67, ⟨by decide +kernel, by decide +kernel, by decide +kernel⟩, rfl⟩
set_option maxRecDepth 100000 in
theorem mc_202 : Cond.code (mY 202) (mB 202) (mL 202) (mR 202) ∈ GW := (gwl (List.mem_of_getElem? (i := 735) rfl) rfl)
theorem mi_202 : Cond.initialized (mY 202).cls ∈ GW := (gwl (List.mem_of_getElem? (i := 43) (by decide +kernel)) rfl)
theorem mn_202 : Cond.instanceMethod (mY 202) ∈ GW := (gwl (List.mem_of_getElem? (i := 733) (by decide +kernel)) rfl)
theorem me_202 : Cond.selects (mY 202).cls (mY 202) (mY 202) ∈ GW := (gwl (List.mem_of_getElem? (i := 734) (by decide +kernel)) rfl)
theorem ml_0_115 : MLV 0 115 202 0 := ⟨(gwl (List.mem_of_getElem? (i := 732) (by decide +kernel)) rfl), mn_202, me_202, mi_202, mc_202, ⟨by decide +kernel, by decide +kernel, by decide +kernel⟩, rfl⟩
set_option maxRecDepth 100000 in
theorem mc_203 : Cond.code (mY 203) (mB 203) (mL 203) (mR 203) ∈ GW := (gwl (List.mem_of_getElem? (i := 367) rfl) rfl)
theorem mi_203 : Cond.initialized (mY 203).cls ∈ GW := (gwl (List.mem_of_getElem? (i := 43) (by decide +kernel)) rfl)
theorem mn_203 : Cond.instanceMethod (mY 203) ∈ GW := (gwl (List.mem_of_getElem? (i := 365) (by decide +kernel)) rfl)
theorem me_203 : Cond.selects (mY 203).cls (mY 203) (mY 203) ∈ GW := (gwl (List.mem_of_getElem? (i := 366) (by decide +kernel)) rfl)
theorem ml_0_119 : MLV 0 119 203 1 := ⟨(gwl (List.mem_of_getElem? (i := 736) (by decide +kernel)) rfl), mn_203, me_203, mi_203, mc_203, ⟨by decide +kernel, by decide +kernel, by decide +kernel⟩, rfl⟩
set_option maxRecDepth 100000 in
theorem mc_201 : Cond.code (mY 201) (mB 201) (mL 201) (mR 201) ∈ GW := (gwl (List.mem_of_getElem? (i := 363) rfl) rfl)
theorem mi_201 : Cond.initialized (mY 201).cls ∈ GW := (gwl (List.mem_of_getElem? (i := 43) (by decide +kernel)) rfl)
theorem mn_201 : Cond.instanceMethod (mY 201) ∈ GW := (gwl (List.mem_of_getElem? (i := 361) (by decide +kernel)) rfl)
theorem me_201 : Cond.selects (mY 201).cls (mY 201) (mY 201) ∈ GW := (gwl (List.mem_of_getElem? (i := 362) (by decide +kernel)) rfl)
theorem ml_0_129 : MLV 0 129 201 0 := ⟨(gwl (List.mem_of_getElem? (i := 603) (by decide +kernel)) rfl), mn_201, me_201, mi_201, mc_201, ⟨by decide +kernel, by decide +kernel, by decide +kernel⟩, rfl⟩
set_option maxRecDepth 100000 in
theorem mc_205 : Cond.code (mY 205) (mB 205) (mL 205) (mR 205) ∈ GW := (gwl (List.mem_of_getElem? (i := 494) rfl) rfl)
theorem mi_205 : Cond.initialized (mY 205).cls ∈ GW := (gwl (List.mem_of_getElem? (i := 43) (by decide +kernel)) rfl)
theorem mn_205 : Cond.instanceMethod (mY 205) ∈ GW := (gwl (List.mem_of_getElem? (i := 492) (by decide +kernel)) rfl)
theorem me_205 : Cond.selects (mY 205).cls (mY 205) (mY 205) ∈ GW := (gwl (List.mem_of_getElem? (i := 493) (by decide +kernel)) rfl)
theorem ml_0_133 : MLV 0 133 205 1 := ⟨(gwl (List.mem_of_getElem? (i := 737) (by decide +kernel)) rfl), mn_205, me_205, mi_205, mc_205, ⟨by decide +kernel, by decide +kernel, by decide +kernel⟩, rfl⟩
set_option maxRecDepth 100000 in
theorem mc_41 : Cond.code (mY 41) (mB 41) (mL 41) (mR 41) ∈ GW := (gwl (List.mem_of_getElem? (i := 741) rfl) rfl)
theorem mi_41 : Cond.initialized (mY 41).cls ∈ GW := (gwl (List.mem_of_getElem? (i := 37) (by decide +kernel)) rfl)
theorem mn_41 : Cond.instanceMethod (mY 41) ∈ GW := (gwl (List.mem_of_getElem? (i := 739) (by decide +kernel)) rfl)
theorem me_41 : Cond.selects (mY 41).cls (mY 41) (mY 41) ∈ GW := (gwl (List.mem_of_getElem? (i := 740) (by decide +kernel)) rfl)
theorem ml_0_136 : MLV 0 136 41 1 := ⟨(gwl (List.mem_of_getElem? (i := 738) (by decide +kernel)) rfl), mn_41, me_41, mi_41, mc_41, ⟨by decide +kernel, by decide +kernel, by decide +kernel⟩, rfl⟩
set_option maxRecDepth 100000 in
theorem mc_13 : Cond.code (mY 13) (mB 13) (mL 13) (mR 13) ∈ GW := (gwl (List.mem_of_getElem? (i := 753) rfl) rfl)
theorem mi_13 : Cond.initialized (mY 13).cls ∈ GW := (gwl (List.mem_of_getElem? (i := 52) (by decide +kernel)) rfl)
theorem mn_13 : Cond.instanceMethod (mY 13) ∈ GW := (gwl (List.mem_of_getElem? (i := 751) (by decide +kernel)) rfl)
theorem me_13 : Cond.selects (mY 13).cls (mY 13) (mY 13) ∈ GW := (gwl (List.mem_of_getElem? (i := 752) (by decide +kernel)) rfl)
theorem ml_0_144 : MLV 0 144 13 0 := ⟨(gwl (List.mem_of_getElem? (i := 750) (by decide +kernel)) rfl), mn_13, me_13, mi_13, mc_13, ⟨by decide +kernel, by decide +kernel, by decide +kernel⟩, rfl⟩
set_option maxRecDepth 100000 in
theorem mc_11 : Cond.code (mY 11) (mB 11) (mL 11) (mR 11) ∈ GW := (gwl (List.mem_of_getElem? (i := 382) rfl) rfl)
theorem mi_11 : Cond.initialized (mY 11).cls ∈ GW := (gwl (List.mem_of_getElem? (i := 58) (by decide +kernel)) rfl)
theorem mn_11 : Cond.instanceMethod (mY 11) ∈ GW := (gwl (List.mem_of_getElem? (i := 380) (by decide +kernel)) rfl)
theorem me_11 : Cond.selects (mY 11).cls (mY 11) (mY 11) ∈ GW := (gwl (List.mem_of_getElem? (i := 381) (by decide +kernel)) rfl)
theorem ml_0_167 : MLV 0 167 11 1 := ⟨(gwl (List.mem_of_getElem? (i := 777) (by decide +kernel)) rfl), mn_11, me_11, mi_11, mc_11, ⟨by decide +kernel, by decide +kernel, by decide +kernel⟩, rfl⟩
set_option maxRecDepth 100000 in
theorem mc_28 : Cond.code (mY 28) (mB 28) (mL 28) (mR 28) ∈ GW := (gwl (List.mem_of_getElem? (i := 788) rfl) rfl)
theorem mi_28 : Cond.initialized (mY 28).cls ∈ GW := (gwl (List.mem_of_getElem? (i := 39) (by decide +kernel)) rfl)
theorem mn_28 : Cond.instanceMethod (mY 28) ∈ GW := (gwl (List.mem_of_getElem? (i := 786) (by decide +kernel)) rfl)
theorem me_28 : Cond.selects (mY 28).cls (mY 28) (mY 28) ∈ GW := (gwl (List.mem_of_getElem? (i := 787) (by decide +kernel)) rfl)
theorem ml_0_174 : MLV 0 174 28 1 := ⟨(gwl (List.mem_of_getElem? (i := 785) (by decide +kernel)) rfl), mn_28, me_28, mi_28, mc_28, ⟨by decide +kernel, by decide +kernel, by decide +kernel⟩, rfl⟩
set_option maxRecDepth 100000 in
theorem mc_29 : Cond.code (mY 29) (mB 29) (mL 29) (mR 29) ∈ GW := (gwl (List.mem_of_getElem? (i := 792) rfl) rfl)
theorem mi_29 : Cond.initialized (mY 29).cls ∈ GW := (gwl (List.mem_of_getElem? (i := 39) (by decide +kernel)) rfl)
theorem mn_29 : Cond.instanceMethod (mY 29) ∈ GW := (gwl (List.mem_of_getElem? (i := 790) (by decide +kernel)) rfl)
theorem me_29 : Cond.selects (mY 29).cls (mY 29) (mY 29) ∈ GW := (gwl (List.mem_of_getElem? (i := 791) (by decide +kernel)) rfl)
theorem ml_0_180 : MLV 0 180 29 1 := ⟨(gwl (List.mem_of_getElem? (i := 789) (by decide +kernel)) rfl), mn_29, me_29, mi_29, mc_29, ⟨by decide +kernel, by decide +kernel, by decide +kernel⟩, rfl⟩
set_option maxRecDepth 100000 in
theorem mc_21 : Cond.code (mY 21) (mB 21) (mL 21) (mR 21) ∈ GW := (gwl (List.mem_of_getElem? (i := 796) rfl) rfl)
theorem mi_21 : Cond.initialized (mY 21).cls ∈ GW := (gwl (List.mem_of_getElem? (i := 38) (by decide +kernel)) rfl)
theorem mn_21 : Cond.instanceMethod (mY 21) ∈ GW := (gwl (List.mem_of_getElem? (i := 794) (by decide +kernel)) rfl)
theorem me_21 : Cond.selects (mY 21).cls (mY 21) (mY 21) ∈ GW := (gwl (List.mem_of_getElem? (i := 795) (by decide +kernel)) rfl)
theorem ml_0_193 : MLV 0 193 21 1 := ⟨(gwl (List.mem_of_getElem? (i := 793) (by decide +kernel)) rfl), mn_21, me_21, mi_21, mc_21, ⟨by decide +kernel, by decide +kernel, by decide +kernel⟩, rfl⟩
set_option maxRecDepth 100000 in
theorem mc_40 : Cond.code (mY 40) (mB 40) (mL 40) (mR 40) ∈ GW := (gwl (List.mem_of_getElem? (i := 804) rfl) rfl)
theorem mi_40 : Cond.initialized (mY 40).cls ∈ GW := (gwl (List.mem_of_getElem? (i := 37) (by decide +kernel)) rfl)
theorem mn_40 : Cond.instanceMethod (mY 40) ∈ GW := (gwl (List.mem_of_getElem? (i := 802) (by decide +kernel)) rfl)
theorem me_40 : Cond.selects (mY 40).cls (mY 40) (mY 40) ∈ GW := (gwl (List.mem_of_getElem? (i := 803) (by decide +kernel)) rfl)
theorem ml_0_203 : MLV 0 203 40 1 := ⟨(gwl (List.mem_of_getElem? (i := 801) (by decide +kernel)) rfl), mn_40, me_40, mi_40, mc_40, ⟨by decide +kernel, by decide +kernel, by decide +kernel⟩, rfl⟩
set_option maxRecDepth 100000 in
theorem mc_22 : Cond.code (mY 22) (mB 22) (mL 22) (mR 22) ∈ GW := (gwl (List.mem_of_getElem? (i := 830) rfl) rfl)
theorem mi_22 : Cond.initialized (mY 22).cls ∈ GW := (gwl (List.mem_of_getElem? (i := 38) (by decide +kernel)) rfl)
theorem mn_22 : Cond.instanceMethod (mY 22) ∈ GW := (gwl (List.mem_of_getElem? (i := 828) (by decide +kernel)) rfl)
theorem me_22 : Cond.selects (mY 22).cls (mY 22) (mY 22) ∈ GW := (gwl (List.mem_of_getElem? (i := 829) (by decide +kernel)) rfl)
theorem ml_0_222 : MLV 0 222 22 2 := ⟨(gwl (List.mem_of_getElem? (i := 827) (by decide +kernel)) rfl), mn_22, me_22, mi_22, mc_22, ⟨by decide +kernel, by decide +kernel, by decide +kernel⟩, rfl⟩
set_option maxRecDepth 100000 in
theorem mc_23 : Cond.code (mY 23) (mB 23) (mL 23) (mR 23) ∈ GW := (gwl (List.mem_of_getElem? (i := 800) rfl) rfl)
theorem mi_23 : Cond.initialized (mY 23).cls ∈ GW := (gwl (List.mem_of_getElem? (i := 38) (by decide +kernel)) rfl)
theorem mn_23 : Cond.instanceMethod (mY 23) ∈ GW := (gwl (List.mem_of_getElem? (i := 798) (by decide +kernel)) rfl)
theorem me_23 : Cond.selects (mY 23).cls (mY 23) (mY 23) ∈ GW := (gwl (List.mem_of_getElem? (i := 799) (by decide +kernel)) rfl)
theorem ml_0_226 : MLV 0 226 23 2 := ⟨(gwl (List.mem_of_getElem? (i := 838) (by decide +kernel)) rfl), mn_23, me_23, mi_23, mc_23, ⟨by decide +kernel, by decide +kernel, by decide +kernel⟩, rfl⟩
set_option maxRecDepth 100000 in
theorem mc_16 : Cond.code (mY 16) (mB 16) (mL 16) (mR 16) ∈ GW := (gwl (List.mem_of_getElem? (i := 590) rfl) rfl)
theorem mi_16 : Cond.initialized (mY 16).cls ∈ GW := (gwl (List.mem_of_getElem? (i := 38) (by decide +kernel)) rfl)
theorem mn_16 : Cond.instanceMethod (mY 16) ∈ GW := (gwl (List.mem_of_getElem? (i := 588) (by decide +kernel)) rfl)
theorem me_16 : Cond.selects (mY 16).cls (mY 16) (mY 16) ∈ GW := (gwl (List.mem_of_getElem? (i := 589) (by decide +kernel)) rfl)
theorem ml_0_229 : MLV 0 229 16 1 := ⟨(gwl (List.mem_of_getElem? (i := 846) (by decide +kernel)) rfl), mn_16, me_16, mi_16, mc_16, ⟨by decide +kernel, by decide +kernel, by decide +kernel⟩, rfl⟩
set_option maxRecDepth 100000 in
theorem mc_42 : Cond.code (mY 42) (mB 42) (mL 42) (mR 42) ∈ GW := (gwl (List.mem_of_getElem? (i := 850) rfl) rfl)
theorem mi_42 : Cond.initialized (mY 42).cls ∈ GW := (gwl (List.mem_of_getElem? (i := 37) (by decide +kernel)) rfl)
theorem mn_42 : Cond.instanceMethod (mY 42) ∈ GW := (gwl (List.mem_of_getElem? (i := 848) (by decide +kernel)) rfl)
theorem me_42 : Cond.selects (mY 42).cls (mY 42) (mY 42) ∈ GW := (gwl (List.mem_of_getElem? (i := 849) (by decide +kernel)) rfl)
theorem ml_0_233 : MLV 0 233 42 0 := ⟨(gwl (List.mem_of_getElem? (i := 847) (by decide +kernel)) rfl), mn_42, me_42, mi_42, mc_42, ⟨by decide +kernel, by decide +kernel, by decide +kernel⟩, rfl⟩
set_option maxRecDepth 100000 in
theorem mc_43 : Cond.code (mY 43) (mB 43) (mL 43) (mR 43) ∈ GW := (gwl (List.mem_of_getElem? (i := 854) rfl) rfl)
theorem mi_43 : Cond.initialized (mY 43).cls ∈ GW := (gwl (List.mem_of_getElem? (i := 37) (by decide +kernel)) rfl)
theorem mn_43 : Cond.instanceMethod (mY 43) ∈ GW := (gwl (List.mem_of_getElem? (i := 852) (by decide +kernel)) rfl)
theorem me_43 : Cond.selects (mY 43).cls (mY 43) (mY 43) ∈ GW := (gwl (List.mem_of_getElem? (i := 853) (by decide +kernel)) rfl)
theorem ml_0_237 : MLV 0 237 43 2 := ⟨(gwl (List.mem_of_getElem? (i := 851) (by decide +kernel)) rfl), mn_43, me_43, mi_43, mc_43, ⟨by decide +kernel, by decide +kernel, by decide +kernel⟩, rfl⟩
set_option maxRecDepth 100000 in
theorem mc_17 : Cond.code (mY 17) (mB 17) (mL 17) (mR 17) ∈ GW := (gwl (List.mem_of_getElem? (i := 586) rfl) rfl)
theorem mi_17 : Cond.initialized (mY 17).cls ∈ GW := (gwl (List.mem_of_getElem? (i := 38) (by decide +kernel)) rfl)
theorem mn_17 : Cond.instanceMethod (mY 17) ∈ GW := (gwl (List.mem_of_getElem? (i := 584) (by decide +kernel)) rfl)
theorem me_17 : Cond.selects (mY 17).cls (mY 17) (mY 17) ∈ GW := (gwl (List.mem_of_getElem? (i := 585) (by decide +kernel)) rfl)
theorem ml_0_270 : MLV 0 270 17 1 := ⟨(gwl (List.mem_of_getElem? (i := 583) (by decide +kernel)) rfl), mn_17, me_17, mi_17, mc_17, ⟨by decide +kernel, by decide +kernel, by decide +kernel⟩, rfl⟩
set_option maxRecDepth 100000 in
theorem mc_68 : Cond.code (mY 68) (mB 68) (mL 68) (mR 68) ∈ GW := (gwl (List.mem_of_getElem? (i := 598) rfl) rfl)
theorem mi_68 : Cond.initialized (mY 68).cls ∈ GW := (gwl (List.mem_of_getElem? (i := 36) (by decide +kernel)) rfl)
theorem mn_68 : Cond.instanceMethod (mY 68) ∈ GW := (gwl (List.mem_of_getElem? (i := 597) (by decide +kernel)) rfl)
theorem me_68 : Cond.selects (mY 68).cls (mY 68) (mY 68) ∈ GW := (gwl (List.mem_of_getElem? (i := 9) (by decide +kernel)) rfl)
theorem ml_0_272 : MLV 0 272 68 2 := ⟨(gwl (List.mem_of_getElem? (i := 595) (by decide +kernel)) rfl), mn_68, me_68, mi_68, mc_68, ⟨by decide +kernel, by decide +kernel, by decide +kernel⟩, rfl⟩
set_option maxRecDepth 100000 in
theorem mc_36 : Cond.code (mY 36) (mB 36) (mL 36) (mR 36) ∈ GW := (gwl (List.mem_of_getElem? (i := 607) rfl) rfl)
theorem mi_36 : Cond.initialized (mY 36).cls ∈ GW := (gwl (List.mem_of_getElem? (i := 37) (by decide +kernel)) rfl)
theorem mn_36 : Cond.instanceMethod (mY 36) ∈ GW := (gwl (List.mem_of_getElem? (i := 605) (by decide +kernel)) rfl)
theorem me_36 : Cond.selects (mY 36).cls (mY 36) (mY 36) ∈ GW := (gwl (List.mem_of_getElem? (i := 606) (by decide +kernel)) rfl)
theorem ml_0_279 : MLV 0 279 36 2 := ⟨(gwl (List.mem_of_getElem? (i := 604) (by decide +kernel)) rfl), mn_36, me_36, mi_36, mc_36, ⟨by decide +kernel, by decide +kernel, by decide +kernel⟩, rfl⟩
set_option maxRecDepth 100000 in
theorem mc_9 : Cond.code (mY 9) (mB 9) (mL 9) (mR 9) ∈ GW := (gwl (List.mem_of_getElem? (i := 637) rfl) rfl)
theorem mi_9 : Cond.initialized (mY 9).cls ∈ GW := (gwl (List.mem_of_getElem? (i := 58) (by decide +kernel)) rfl)
theorem mn_9 : Cond.instanceMethod (mY 9) ∈ GW := (gwl (List.mem_of_getElem? (i := 636) (by decide +kernel)) rfl)
theorem ml_0_286 : MLI 0 286 9 5 := ⟨(gwl (List.mem_of_getElem? (i := 635) (by decide +kernel)) rfl), mn_9, mi_9, mc_9, ⟨by decide +kernel, by decide +kernel, by decide +kernel⟩, rfl, rfl⟩
set_option maxRecDepth 100000 in
theorem mc_27 : Cond.code (mY 27) (mB 27) (mL 27) (mR 27) ∈ GW := (gwl (List.mem_of_getElem? (i := 698) rfl) rfl)
theorem mi_27 : Cond.initialized (mY 27).cls ∈ GW := (gwl (List.mem_of_getElem? (i := 39) (by decide +kernel)) rfl)
theorem mn_27 : Cond.instanceMethod (mY 27) ∈ GW := (gwl (List.mem_of_getElem? (i := 696) (by decide +kernel)) rfl)
theorem me_27 : Cond.selects (mY 27).cls (mY 27) (mY 27) ∈ GW := (gwl (List.mem_of_getElem? (i := 697) (by decide +kernel)) rfl)
theorem ml_0_289 : MLV 0 289 27 1 := ⟨(gwl (List.mem_of_getElem? (i := 695) (by decide +kernel)) rfl), mn_27, me_27, mi_27, mc_27, ⟨by decide +kernel, by decide +kernel, by decide +kernel⟩, rfl⟩
set_option maxRecDepth 100000 in
theorem mc_38 : Cond.code (mY 38) (mB 38) (mL 38) (mR 38) ∈ GW := (gwl (List.mem_of_getElem? (i := 703) rfl) rfl)
theorem mi_38 : Cond.initialized (mY 38).cls ∈ GW := (gwl (List.mem_of_getElem? (i := 37) (by decide +kernel)) rfl)
theorem mn_38 : Cond.instanceMethod (mY 38) ∈ GW := (gwl (List.mem_of_getElem? (i := 701) (by decide +kernel)) rfl)
theorem me_38 : Cond.selects (mY 38).cls (mY 38) (mY 38) ∈ GW := (gwl (List.mem_of_getElem? (i := 702) (by decide +kernel)) rfl)
theorem ml_0_292 : MLV 0 292 38 2 := ⟨(gwl (List.mem_of_getElem? (i := 700) (by decide +kernel)) rfl), mn_38, me_38, mi_38, mc_38, ⟨by decide +kernel, by decide +kernel, by decide +kernel⟩, rfl⟩
set_option maxRecDepth 100000 in
theorem mc_2 : Cond.code (mY 2) (mB 2) (mL 2) (mR 2) ∈ GW := (gwl (List.mem_of_getElem? (i := 720) rfl) rfl)
theorem mi_2 : Cond.initialized (mY 2).cls ∈ GW := (gwl (List.mem_of_getElem? (i := 57) (by decide +kernel)) rfl)
theorem mn_2 : Cond.instanceMethod (mY 2) ∈ GW := (gwl (List.mem_of_getElem? (i := 718) (by decide +kernel)) rfl)
theorem me_2 : Cond.selects (mY 2).cls (mY 2) (mY 2) ∈ GW := (gwl (List.mem_of_getElem? (i := 719) (by decide +kernel)) rfl)
theorem ml_0_296 : MLV 0 296 2 1 := ⟨(gwl (List.mem_of_getElem? (i := 717) (by decide +kernel)) rfl), mn_2, me_2, mi_2, mc_2, ⟨by decide +kernel, by decide +kernel, by decide +kernel⟩, rfl⟩
set_option maxRecDepth 100000 in
theorem mc_39 : Cond.code (mY 39) (mB 39) (mL 39) (mR 39) ∈ GW := (gwl (List.mem_of_getElem? (i := 724) rfl) rfl)
theorem mi_39 : Cond.initialized (mY 39).cls ∈ GW := (gwl (List.mem_of_getElem? (i := 37) (by decide +kernel)) rfl)
theorem mn_39 : Cond.instanceMethod (mY 39) ∈ GW := (gwl (List.mem_of_getElem? (i := 722) (by decide +kernel)) rfl)
theorem me_39 : Cond.selects (mY 39).cls (mY 39) (mY 39) ∈ GW := (gwl (List.mem_of_getElem? (i := 723) (by decide +kernel)) rfl)
theorem ml_0_299 : MLV 0 299 39 1 := ⟨(gwl (List.mem_of_getElem? (i := 721) (by decide +kernel)) rfl), mn_39, me_39, mi_39, mc_39, ⟨by decide +kernel, by decide +kernel, by decide +kernel⟩, rfl⟩
set_option maxRecDepth 100000 in
theorem mc_69 : Cond.code (mY 69) (mB 69) (mL 69) (mR 69) ∈ GW := (gwl (List.mem_of_getElem? (i := 602) rfl) rfl)
theorem mi_69 : Cond.initialized (mY 69).cls ∈ GW := (gwl (List.mem_of_getElem? (i := 36) (by decide +kernel)) rfl)
theorem mn_69 : Cond.instanceMethod (mY 69) ∈ GW := (gwl (List.mem_of_getElem? (i := 601) (by decide +kernel)) rfl)
theorem me_69 : Cond.selects (mY 69).cls (mY 69) (mY 69) ∈ GW := (gwl (List.mem_of_getElem? (i := 10) (by decide +kernel)) rfl)
theorem ml_0_305 : MLV 0 305 69 3 := ⟨(gwl (List.mem_of_getElem? (i := 599) (by decide +kernel)) rfl), mn_69, me_69, mi_69, mc_69, ⟨by decide +kernel, by decide +kernel, by decide +kernel⟩, rfl⟩
theorem mo_1_3 : Cond.methodLink (RCn 1) 3 Lib.objectInit ∈ GW := (gwl (List.mem_of_getElem? (i := 75) (by decide +kernel)) rfl)
set_option maxRecDepth 100000 in
theorem mc_15 : Cond.code (mY 15) (mB 15) (mL 15) (mR 15) ∈ GW := (gwl (List.mem_of_getElem? (i := 82) rfl) rfl)
theorem mi_15 : Cond.initialized (mY 15).cls ∈ GW := (gwl (List.mem_of_getElem? (i := 38) (by decide +kernel)) rfl)
theorem mn_15 : Cond.instanceMethod (mY 15) ∈ GW := (gwl (List.mem_of_getElem? (i := 81) (by decide +kernel)) rfl)
theorem ml_1_19 : MLN 1 19 15 0 := ⟨by decide +kernel, mn_15, mi_15, mc_15, ⟨by decide +kernel, by decide +kernel, by decide +kernel⟩, rfl, rfl⟩
set_option maxRecDepth 100000 in
theorem mc_25 : Cond.code (mY 25) (mB 25) (mL 25) (mR 25) ∈ GW := (gwl (List.mem_of_getElem? (i := 108) rfl) rfl)
theorem mi_25 : Cond.initialized (mY 25).cls ∈ GW := (gwl (List.mem_of_getElem? (i := 39) (by decide +kernel)) rfl)
theorem mn_25 : Cond.instanceMethod (mY 25) ∈ GW := (gwl (List.mem_of_getElem? (i := 107) (by decide +kernel)) rfl)
theorem ml_1_26 : MLN 1 26 25 0 := ⟨by decide +kernel, mn_25, mi_25, mc_25, ⟨by decide +kernel, by decide +kernel, by decide +kernel⟩, rfl, rfl⟩
set_option maxRecDepth 100000 in
theorem mc_4 : Cond.code (mY 4) (mB 4) (mL 4) (mR 4) ∈ GW := (gwl (List.mem_of_getElem? (i := 129) rfl) rfl)
theorem mi_4 : Cond.initialized (mY 4).cls ∈ GW := (gwl (List.mem_of_getElem? (i := 40) (by decide +kernel)) rfl)
theorem mn_4 : Cond.instanceMethod (mY 4) ∈ GW := (gwl (List.mem_of_getElem? (i := 128) (by decide +kernel)) rfl)
theorem ml_1_33 : MLN 1 33 4 0 := ⟨by decide +kernel, mn_4, mi_4, mc_4, ⟨by decide +kernel, by decide +kernel, by decide +kernel⟩, rfl, rfl⟩
set_option maxRecDepth 100000 in
theorem mc_200 : Cond.code (mY 200) (mB 200) (mL 200) (mR 200) ∈ GW := (gwl (List.mem_of_getElem? (i := 160) rfl) rfl)
theorem mi_200 : Cond.initialized (mY 200).cls ∈ GW := (gwl (List.mem_of_getElem? (i := 43) (by decide +kernel)) rfl)
theorem mn_200 : Cond.instanceMethod (mY 200) ∈ GW := (gwl (List.mem_of_getElem? (i := 159) (by decide +kernel)) rfl)
theorem ml_1_40 : MLI 1 40 200 0 := ⟨(gwl (List.mem_of_getElem? (i := 158) (by decide +kernel)) rfl), mn_200, mi_200, mc_200, ⟨by decide +kernel, by decide +kernel, by decide +kernel⟩, rfl, rfl⟩
set_option maxRecDepth 100000 in
theorem mc_1 : Cond.code (mY 1) (mB 1) (mL 1) (mR 1) ∈ GW := (gwl (List.mem_of_getElem? (i := 355) rfl) rfl)
theorem mi_1 : Cond.initialized (mY 1).cls ∈ GW := (gwl (List.mem_of_getElem? (i := 57) (by decide +kernel)) rfl)
theorem mn_1 : Cond.instanceMethod (mY 1) ∈ GW := (gwl (List.mem_of_getElem? (i := 353) (by decide +kernel)) rfl)
theorem me_1 : Cond.selects (mY 1).cls (mY 1) (mY 1) ∈ GW := (gwl (List.mem_of_getElem? (i := 354) (by decide +kernel)) rfl)
theorem ml_1_62 : MLV 1 62 1 0 := ⟨(gwl (List.mem_of_getElem? (i := 352) (by decide +kernel)) rfl), mn_1, me_1, mi_1, mc_1, ⟨by decide +kernel, by decide +kernel, by decide +kernel⟩, rfl⟩
theorem ml_1_65 : MLV 1 65 201 0 := ⟨(gwl (List.mem_of_getElem? (i := 360) (by decide +kernel)) rfl), mn_201, me_201, mi_201, mc_201, ⟨by decide +kernel, by decide +kernel, by decide +kernel⟩, rfl⟩
theorem ml_1_69 : MLV 1 69 203 1 := ⟨(gwl (List.mem_of_getElem? (i := 364) (by decide +kernel)) rfl), mn_203, me_203, mi_203, mc_203, ⟨by decide +kernel, by decide +kernel, by decide +kernel⟩, rfl⟩
theorem ml_1_82 : MLV 1 82 11 1 := ⟨(gwl (List.mem_of_getElem? (i := 379) (by decide +kernel)) rfl), mn_11, me_11, mi_11, mc_11, ⟨by decide +kernel, by decide +kernel, by decide +kernel⟩, rfl⟩
set_option maxRecDepth 100000 in
theorem mc_7 : Cond.code (mY 7) (mB 7) (mL 7) (mR 7) ∈ GW := (gwl (List.mem_of_getElem? (i := 611) rfl) rfl)
theorem mi_7 : Cond.initialized (mY 7).cls ∈ GW := (gwl (List.mem_of_getElem? (i := 40) (by decide +kernel)) rfl)
theorem mn_7 : Cond.instanceMethod (mY 7) ∈ GW := (gwl (List.mem_of_getElem? (i := 609) (by decide +kernel)) rfl)
theorem me_7 : Cond.selects (mY 7).cls (mY 7) (mY 7) ∈ GW := (gwl (List.mem_of_getElem? (i := 610) (by decide +kernel)) rfl)
theorem ml_1_88 : MLV 1 88 7 0 := ⟨(gwl (List.mem_of_getElem? (i := 608) (by decide +kernel)) rfl), mn_7, me_7, mi_7, mc_7, ⟨by decide +kernel, by decide +kernel, by decide +kernel⟩, rfl⟩
set_option maxRecDepth 100000 in
theorem mc_26 : Cond.code (mY 26) (mB 26) (mL 26) (mR 26) ∈ GW := (gwl (List.mem_of_getElem? (i := 616) rfl) rfl)
theorem mi_26 : Cond.initialized (mY 26).cls ∈ GW := (gwl (List.mem_of_getElem? (i := 39) (by decide +kernel)) rfl)
theorem mn_26 : Cond.instanceMethod (mY 26) ∈ GW := (gwl (List.mem_of_getElem? (i := 614) (by decide +kernel)) rfl)
theorem me_26 : Cond.selects (mY 26).cls (mY 26) (mY 26) ∈ GW := (gwl (List.mem_of_getElem? (i := 615) (by decide +kernel)) rfl)
theorem ml_1_91 : MLV 1 91 26 1 := ⟨(gwl (List.mem_of_getElem? (i := 613) (by decide +kernel)) rfl), mn_26, me_26, mi_26, mc_26, ⟨by decide +kernel, by decide +kernel, by decide +kernel⟩, rfl⟩
set_option maxRecDepth 100000 in
theorem mc_37 : Cond.code (mY 37) (mB 37) (mL 37) (mR 37) ∈ GW := (gwl (List.mem_of_getElem? (i := 620) rfl) rfl)
theorem mi_37 : Cond.initialized (mY 37).cls ∈ GW := (gwl (List.mem_of_getElem? (i := 37) (by decide +kernel)) rfl)
theorem mn_37 : Cond.instanceMethod (mY 37) ∈ GW := (gwl (List.mem_of_getElem? (i := 618) (by decide +kernel)) rfl)
theorem me_37 : Cond.selects (mY 37).cls (mY 37) (mY 37) ∈ GW := (gwl (List.mem_of_getElem? (i := 619) (by decide +kernel)) rfl)
theorem ml_1_101 : MLV 1 101 37 1 := ⟨(gwl (List.mem_of_getElem? (i := 617) (by decide +kernel)) rfl), mn_37, me_37, mi_37, mc_37, ⟨by decide +kernel, by decide +kernel, by decide +kernel⟩, rfl⟩
set_option maxRecDepth 100000 in
theorem mc_33 : Cond.code (mY 33) (mB 33) (mL 33) (mR 33) ∈ GW := (gwl (List.mem_of_getElem? (i := 624) rfl) rfl)
theorem mi_33 : Cond.initialized (mY 33).cls ∈ GW := (gwl (List.mem_of_getElem? (i := 37) (by decide +kernel)) rfl)
theorem mn_33 : Cond.instanceMethod (mY 33) ∈ GW := (gwl (List.mem_of_getElem? (i := 622) (by decide +kernel)) rfl)
theorem me_33 : Cond.selects (mY 33).cls (mY 33) (mY 33) ∈ GW := (gwl (List.mem_of_getElem? (i := 623) (by decide +kernel)) rfl)
theorem ml_1_109 : MLV 1 109 33 1 := ⟨(gwl (List.mem_of_getElem? (i := 621) (by decide +kernel)) rfl), mn_33, me_33, mi_33, mc_33, ⟨by decide +kernel, by decide +kernel, by decide +kernel⟩, rfl⟩
set_option maxRecDepth 100000 in
theorem mc_18 : Cond.code (mY 18) (mB 18) (mL 18) (mR 18) ∈ GW := (gwl (List.mem_of_getElem? (i := 628) rfl) rfl)
theorem mi_18 : Cond.initialized (mY 18).cls ∈ GW := (gwl (List.mem_of_getElem? (i := 38) (by decide +kernel)) rfl)
theorem mn_18 : Cond.instanceMethod (mY 18) ∈ GW := (gwl (List.mem_of_getElem? (i := 626) (by decide +kernel)) rfl)
theorem me_18 : Cond.selects (mY 18).cls (mY 18) (mY 18) ∈ GW := (gwl (List.mem_of_getElem? (i := 627) (by decide +kernel)) rfl)
theorem ml_1_113 : MLV 1 113 18 1 := ⟨(gwl (List.mem_of_getElem? (i := 625) (by decide +kernel)) rfl), mn_18, me_18, mi_18, mc_18, ⟨by decide +kernel, by decide +kernel, by decide +kernel⟩, rfl⟩
set_option maxRecDepth 100000 in
theorem mc_8 : Cond.code (mY 8) (mB 8) (mL 8) (mR 8) ∈ GW := (gwl (List.mem_of_getElem? (i := 632) rfl) rfl)
theorem mi_8 : Cond.initialized (mY 8).cls ∈ GW := (gwl (List.mem_of_getElem? (i := 40) (by decide +kernel)) rfl)
theorem mn_8 : Cond.instanceMethod (mY 8) ∈ GW := (gwl (List.mem_of_getElem? (i := 630) (by decide +kernel)) rfl)
theorem me_8 : Cond.selects (mY 8).cls (mY 8) (mY 8) ∈ GW := (gwl (List.mem_of_getElem? (i := 631) (by decide +kernel)) rfl)
theorem ml_1_117 : MLV 1 117 8 1 := ⟨(gwl (List.mem_of_getElem? (i := 629) (by decide +kernel)) rfl), mn_8, me_8, mi_8, mc_8, ⟨by decide +kernel, by decide +kernel, by decide +kernel⟩, rfl⟩
set_option maxRecDepth 100000 in
theorem mc_10 : Cond.code (mY 10) (mB 10) (mL 10) (mR 10) ∈ GW := (gwl (List.mem_of_getElem? (i := 707) rfl) rfl)
theorem mi_10 : Cond.initialized (mY 10).cls ∈ GW := (gwl (List.mem_of_getElem? (i := 58) (by decide +kernel)) rfl)
theorem mn_10 : Cond.instanceMethod (mY 10) ∈ GW := (gwl (List.mem_of_getElem? (i := 705) (by decide +kernel)) rfl)
theorem me_10 : Cond.selects (mY 10).cls (mY 10) (mY 10) ∈ GW := (gwl (List.mem_of_getElem? (i := 706) (by decide +kernel)) rfl)
theorem ml_1_126 : MLV 1 126 10 3 := ⟨(gwl (List.mem_of_getElem? (i := 704) (by decide +kernel)) rfl), mn_10, me_10, mi_10, mc_10, ⟨by decide +kernel, by decide +kernel, by decide +kernel⟩, rfl⟩
set_option maxRecDepth 100000 in
theorem mc_20 : Cond.code (mY 20) (mB 20) (mL 20) (mR 20) ∈ GW := (gwl (List.mem_of_getElem? (i := 711) rfl) rfl)
theorem mi_20 : Cond.initialized (mY 20).cls ∈ GW := (gwl (List.mem_of_getElem? (i := 38) (by decide +kernel)) rfl)
theorem mn_20 : Cond.instanceMethod (mY 20) ∈ GW := (gwl (List.mem_of_getElem? (i := 709) (by decide +kernel)) rfl)
theorem me_20 : Cond.selects (mY 20).cls (mY 20) (mY 20) ∈ GW := (gwl (List.mem_of_getElem? (i := 710) (by decide +kernel)) rfl)
theorem ml_1_133 : MLV 1 133 20 1 := ⟨(gwl (List.mem_of_getElem? (i := 708) (by decide +kernel)) rfl), mn_20, me_20, mi_20, mc_20, ⟨by decide +kernel, by decide +kernel, by decide +kernel⟩, rfl⟩
theorem ml_1_147 : MLI 1 147 12 3 := ⟨(gwl (List.mem_of_getElem? (i := 500) (by decide +kernel)) rfl), mn_12, mi_12, mc_12, ⟨by decide +kernel, by decide +kernel, by decide +kernel⟩, rfl, rfl⟩
theorem ml_1_150 : MLV 1 150 204 1 := ⟨(gwl (List.mem_of_getElem? (i := 501) (by decide +kernel)) rfl), mn_204, me_204, mi_204, mc_204, ⟨by decide +kernel, by decide +kernel, by decide +kernel⟩, rfl⟩
set_option maxRecDepth 100000 in
theorem mc_3 : Cond.code (mY 3) (mB 3) (mL 3) (mR 3) ∈ GW := (gwl (List.mem_of_getElem? (i := 808) rfl) rfl)
theorem mi_3 : Cond.initialized (mY 3).cls ∈ GW := (gwl (List.mem_of_getElem? (i := 57) (by decide +kernel)) rfl)
theorem mn_3 : Cond.instanceMethod (mY 3) ∈ GW := (gwl (List.mem_of_getElem? (i := 806) (by decide +kernel)) rfl)
theorem me_3 : Cond.selects (mY 3).cls (mY 3) (mY 3) ∈ GW := (gwl (List.mem_of_getElem? (i := 807) (by decide +kernel)) rfl)
theorem ml_1_154 : MLV 1 154 3 0 := ⟨(gwl (List.mem_of_getElem? (i := 805) (by decide +kernel)) rfl), mn_3, me_3, mi_3, mc_3, ⟨by decide +kernel, by decide +kernel, by decide +kernel⟩, rfl⟩
theorem ml_1_158 : MLV 1 158 39 1 := ⟨(gwl (List.mem_of_getElem? (i := 809) (by decide +kernel)) rfl), mn_39, me_39, mi_39, mc_39, ⟨by decide +kernel, by decide +kernel, by decide +kernel⟩, rfl⟩
set_option maxRecDepth 100000 in
theorem mc_14 : Cond.code (mY 14) (mB 14) (mL 14) (mR 14) ∈ GW := (gwl (List.mem_of_getElem? (i := 858) rfl) rfl)
theorem mi_14 : Cond.initialized (mY 14).cls ∈ GW := (gwl (List.mem_of_getElem? (i := 60) (by decide +kernel)) rfl)
theorem mn_14 : Cond.instanceMethod (mY 14) ∈ GW := (gwl (List.mem_of_getElem? (i := 857) (by decide +kernel)) rfl)
theorem ml_1_174 : MLI 1 174 14 2 := ⟨(gwl (List.mem_of_getElem? (i := 856) (by decide +kernel)) rfl), mn_14, mi_14, mc_14, ⟨by decide +kernel, by decide +kernel, by decide +kernel⟩, rfl, rfl⟩
theorem ml_1_178 : MLV 1 178 205 1 := ⟨(gwl (List.mem_of_getElem? (i := 491) (by decide +kernel)) rfl), mn_205, me_205, mi_205, mc_205, ⟨by decide +kernel, by decide +kernel, by decide +kernel⟩, rfl⟩
set_option maxRecDepth 100000 in
theorem mc_24 : Cond.code (mY 24) (mB 24) (mL 24) (mR 24) ∈ GW := (gwl (List.mem_of_getElem? (i := 473) rfl) rfl)
theorem mi_24 : Cond.initialized (mY 24).cls ∈ GW := (gwl (List.mem_of_getElem? (i := 38) (by decide +kernel)) rfl)
theorem mn_24 : Cond.instanceMethod (mY 24) ∈ GW := (gwl (List.mem_of_getElem? (i := 471) (by decide +kernel)) rfl)
theorem me_24 : Cond.selects (mY 24).cls (mY 24) (mY 24) ∈ GW := (gwl (List.mem_of_getElem? (i := 472) (by decide +kernel)) rfl)
theorem ml_1_184 : MLV 1 184 24 0 := ⟨(gwl (List.mem_of_getElem? (i := 470) (by decide +kernel)) rfl), mn_24, me_24, mi_24, mc_24, ⟨by decide +kernel, by decide +kernel, by decide +kernel⟩, rfl⟩
set_option maxRecDepth 100000 in
theorem mc_30 : Cond.code (mY 30) (mB 30) (mL 30) (mR 30) ∈ GW := (gwl (List.mem_of_getElem? (i := 477) rfl) rfl)
theorem mi_30 : Cond.initialized (mY 30).cls ∈ GW := (gwl (List.mem_of_getElem? (i := 39) (by decide +kernel)) rfl)
theorem mn_30 : Cond.instanceMethod (mY 30) ∈ GW := (gwl (List.mem_of_getElem? (i := 475) (by decide +kernel)) rfl)
theorem me_30 : Cond.selects (mY 30).cls (mY 30) (mY 30) ∈ GW := (gwl (List.mem_of_getElem? (i := 476) (by decide +kernel)) rfl)
theorem ml_1_187 : MLV 1 187 30 0 := ⟨(gwl (List.mem_of_getElem? (i := 474) (by decide +kernel)) rfl), mn_30, me_30, mi_30, mc_30, ⟨by decide +kernel, by decide +kernel, by decide +kernel⟩, rfl⟩
theorem ml_1_188 : MLV 1 188 5 1 := ⟨(gwl (List.mem_of_getElem? (i := 478) (by decide +kernel)) rfl), mn_5, me_5, mi_5, mc_5, ⟨by decide +kernel, by decide +kernel, by decide +kernel⟩, rfl⟩
set_option maxRecDepth 100000 in
theorem mc_206 : Cond.code (mY 206) (mB 206) (mL 206) (mR 206) ∈ GW := (gwl (List.mem_of_getElem? (i := 485) rfl) rfl)
theorem mi_206 : Cond.initialized (mY 206).cls ∈ GW := (gwl (List.mem_of_getElem? (i := 43) (by decide +kernel)) rfl)
theorem mn_206 : Cond.instanceMethod (mY 206) ∈ GW := (gwl (List.mem_of_getElem? (i := 483) (by decide +kernel)) rfl)
theorem me_206 : Cond.selects (mY 206).cls (mY 206) (mY 206) ∈ GW := (gwl (List.mem_of_getElem? (i := 484) (by decide +kernel)) rfl)
theorem ml_1_192 : MLV 1 192 206 0 := ⟨(gwl (List.mem_of_getElem? (i := 482) (by decide +kernel)) rfl), mn_206, me_206, mi_206, mc_206, ⟨by decide +kernel, by decide +kernel, by decide +kernel⟩, rfl⟩
theorem mo_2_1 : Cond.methodLink (RCn 2) 1 Lib.objectInit ∈ GW := (gwl (List.mem_of_getElem? (i := 514) (by decide +kernel)) rfl)
theorem mo_3_3 : Cond.methodLink (RCn 3) 3 Lib.objectInit ∈ GW := (gwl (List.mem_of_getElem? (i := 130) (by decide +kernel)) rfl)
theorem mx_3_31 : Cond.methodLink (RCn 3) 31 Lib.Math.max.name ∈ GW := (gwl (List.mem_of_getElem? (i := 612) (by decide +kernel)) rfl)
theorem mo_4_3 : Cond.methodLink (RCn 4) 3 Lib.objectInit ∈ GW := (gwl (List.mem_of_getElem? (i := 389) (by decide +kernel)) rfl)
theorem mo_5_1 : Cond.methodLink (RCn 5) 1 Lib.objectInit ∈ GW := (gwl (List.mem_of_getElem? (i := 638) (by decide +kernel)) rfl)
theorem ml_5_23 : MLV 5 23 7 0 := ⟨(gwl (List.mem_of_getElem? (i := 639) (by decide +kernel)) rfl), mn_7, me_7, mi_7, mc_7, ⟨by decide +kernel, by decide +kernel, by decide +kernel⟩, rfl⟩
theorem mo_6_1 : Cond.methodLink (RCn 6) 1 Lib.objectInit ∈ GW := (gwl (List.mem_of_getElem? (i := 859) (by decide +kernel)) rfl)
theorem mo_7_3 : Cond.methodLink (RCn 7) 3 Lib.objectInit ∈ GW := (gwl (List.mem_of_getElem? (i := 83) (by decide +kernel)) rfl)
theorem ml_7_24 : MLV 7 24 16 1 := ⟨(gwl (List.mem_of_getElem? (i := 587) (by decide +kernel)) rfl), mn_16, me_16, mi_16, mc_16, ⟨by decide +kernel, by decide +kernel, by decide +kernel⟩, rfl⟩
theorem ml_7_28 : MLV 7 28 18 1 := ⟨(gwl (List.mem_of_getElem? (i := 712) (by decide +kernel)) rfl), mn_18, me_18, mi_18, mc_18, ⟨by decide +kernel, by decide +kernel, by decide +kernel⟩, rfl⟩
set_option maxRecDepth 100000 in
theorem mc_19 : Cond.code (mY 19) (mB 19) (mL 19) (mR 19) ∈ GW := (gwl (List.mem_of_getElem? (i := 716) rfl) rfl)
theorem mi_19 : Cond.initialized (mY 19).cls ∈ GW := (gwl (List.mem_of_getElem? (i := 38) (by decide +kernel)) rfl)
theorem mn_19 : Cond.instanceMethod (mY 19) ∈ GW := (gwl (List.mem_of_getElem? (i := 714) (by decide +kernel)) rfl)
theorem me_19 : Cond.selects (mY 19).cls (mY 19) (mY 19) ∈ GW := (gwl (List.mem_of_getElem? (i := 715) (by decide +kernel)) rfl)
theorem ml_7_32 : MLV 7 32 19 0 := ⟨(gwl (List.mem_of_getElem? (i := 713) (by decide +kernel)) rfl), mn_19, me_19, mi_19, mc_19, ⟨by decide +kernel, by decide +kernel, by decide +kernel⟩, rfl⟩
theorem ml_7_40 : MLV 7 40 23 2 := ⟨(gwl (List.mem_of_getElem? (i := 797) (by decide +kernel)) rfl), mn_23, me_23, mi_23, mc_23, ⟨by decide +kernel, by decide +kernel, by decide +kernel⟩, rfl⟩
theorem mo_8_3 : Cond.methodLink (RCn 8) 3 Lib.objectInit ∈ GW := (gwl (List.mem_of_getElem? (i := 109) (by decide +kernel)) rfl)
theorem ml_8_21 : MLV 8 21 26 1 := ⟨(gwl (List.mem_of_getElem? (i := 699) (by decide +kernel)) rfl), mn_26, me_26, mi_26, mc_26, ⟨by decide +kernel, by decide +kernel, by decide +kernel⟩, rfl⟩
set_option maxRecDepth 100000 in
theorem mc_209 : Cond.code (mY 209) (mB 209) (mL 209) (mR 209) ∈ GW := (gwl (List.mem_of_getElem? (i := 163) rfl) rfl)
theorem mi_209 : Cond.initialized (mY 209).cls ∈ GW := (gwl (List.mem_of_getElem? (i := 42) (by decide +kernel)) rfl)
theorem mn_209 : Cond.instanceMethod (mY 209) ∈ GW := (gwl (List.mem_of_getElem? (i := 162) (by decide +kernel)) rfl)
theorem ml_9_1 : MLI 9 1 209 0 := ⟨(gwl (List.mem_of_getElem? (i := 161) (by decide +kernel)) rfl), mn_209, mi_209, mc_209, ⟨by decide +kernel, by decide +kernel, by decide +kernel⟩, rfl, rfl⟩
set_option maxRecDepth 100000 in
theorem mc_218 : Cond.code (mY 218) (mB 218) (mL 218) (mR 218) ∈ GW := (gwl (List.mem_of_getElem? (i := 433) rfl) rfl)
theorem mi_218 : Cond.initialized (mY 218).cls ∈ GW := (gwl (List.mem_of_getElem? (i := 55) (by decide +kernel)) rfl)
theorem ml_9_66 : MLT 9 66 218 2 := ⟨(gwl (List.mem_of_getElem? (i := 431) (by decide +kernel)) rfl), (gwl (List.mem_of_getElem? (i := 432) (by decide +kernel)) rfl), mi_218, mc_218, ⟨by decide +kernel, by decide +kernel, by decide +kernel⟩, rfl⟩
set_option maxRecDepth 100000 in
theorem mc_216 : Cond.code (mY 216) (mB 216) (mL 216) (mR 216) ∈ GW := (gwl (List.mem_of_getElem? (i := 420) rfl) rfl)
theorem mi_216 : Cond.initialized (mY 216).cls ∈ GW := (gwl (List.mem_of_getElem? (i := 43) (by decide +kernel)) rfl)
theorem mn_216 : Cond.instanceMethod (mY 216) ∈ GW := (gwl (List.mem_of_getElem? (i := 419) (by decide +kernel)) rfl)
theorem me_216 : Cond.selects (mY 216).cls (mY 216) (mY 216) ∈ GW := (gwl (List.mem_of_getElem? (i := 5) (by decide +kernel)) rfl)
theorem ml_9_69 : MLV 9 69 216 1 := ⟨(gwl (List.mem_of_getElem? (i := 417) (by decide +kernel)) rfl), mn_216, me_216, mi_216, mc_216, ⟨by decide +kernel, by decide +kernel, by decide +kernel⟩, rfl⟩
set_option maxRecDepth 100000 in
theorem mc_217 : Cond.code (mY 217) (mB 217) (mL 217) (mR 217) ∈ GW := (gwl (List.mem_of_getElem? (i := 423) rfl) rfl)
theorem mi_217 : Cond.initialized (mY 217).cls ∈ GW := (gwl (List.mem_of_getElem? (i := 53) (by decide +kernel)) rfl)
theorem ml_9_73 : MLT 9 73 217 3 := ⟨(gwl (List.mem_of_getElem? (i := 421) (by decide +kernel)) rfl), (gwl (List.mem_of_getElem? (i := 422) (by decide +kernel)) rfl), mi_217, mc_217, ⟨by decide +kernel, by decide +kernel, by decide +kernel⟩, rfl⟩
theorem mx_9_79 : Cond.methodLink (RCn 9) 79 Lib.Math.max.name ∈ GW := (gwl (List.mem_of_getElem? (i := 464) (by decide +kernel)) rfl)
set_option maxRecDepth 100000 in
theorem mc_211 : Cond.code (mY 211) (mB 211) (mL 211) (mR 211) ∈ GW := (gwl (List.mem_of_getElem? (i := 370) rfl) rfl)
theorem mi_211 : Cond.initialized (mY 211).cls ∈ GW := (gwl (List.mem_of_getElem? (i := 50) (by decide +kernel)) rfl)
theorem ml_9_118 : MLT 9 118 211 2 := ⟨(gwl (List.mem_of_getElem? (i := 368) (by decide +kernel)) rfl), (gwl (List.mem_of_getElem? (i := 369) (by decide +kernel)) rfl), mi_211, mc_211, ⟨by decide +kernel, by decide +kernel, by decide +kernel⟩, rfl⟩
set_option maxRecDepth 100000 in
theorem mc_213 : Cond.code (mY 213) (mB 213) (mL 213) (mR 213) ∈ GW := (gwl (List.mem_of_getElem? (i := 377) rfl) rfl)
theorem mi_213 : Cond.initialized (mY 213).cls ∈ GW := (gwl (List.mem_of_getElem? (i := 43) (by decide +kernel)) rfl)
theorem mn_213 : Cond.instanceMethod (mY 213) ∈ GW := (gwl (List.mem_of_getElem? (i := 375) (by decide +kernel)) rfl)
theorem me_213 : Cond.selects (mY 213).cls (mY 213) (mY 213) ∈ GW := (gwl (List.mem_of_getElem? (i := 376) (by decide +kernel)) rfl)
theorem ml_9_123 : MLV 9 123 213 1 := ⟨(gwl (List.mem_of_getElem? (i := 374) (by decide +kernel)) rfl), mn_213, me_213, mi_213, mc_213, ⟨by decide +kernel, by decide +kernel, by decide +kernel⟩, rfl⟩
set_option maxRecDepth 100000 in
theorem mc_215 : Cond.code (mY 215) (mB 215) (mL 215) (mR 215) ∈ GW := (gwl (List.mem_of_getElem? (i := 416) rfl) rfl)
theorem mi_215 : Cond.initialized (mY 215).cls ∈ GW := (gwl (List.mem_of_getElem? (i := 43) (by decide +kernel)) rfl)
theorem mn_215 : Cond.instanceMethod (mY 215) ∈ GW := (gwl (List.mem_of_getElem? (i := 415) (by decide +kernel)) rfl)
theorem me_215 : Cond.selects (mY 215).cls (mY 215) (mY 215) ∈ GW := (gwl (List.mem_of_getElem? (i := 4) (by decide +kernel)) rfl)
theorem ml_9_129 : MLV 9 129 215 0 := ⟨(gwl (List.mem_of_getElem? (i := 413) (by decide +kernel)) rfl), mn_215, me_215, mi_215, mc_215, ⟨by decide +kernel, by decide +kernel, by decide +kernel⟩, rfl⟩
set_option maxRecDepth 100000 in
theorem mc_214 : Cond.code (mY 214) (mB 214) (mL 214) (mR 214) ∈ GW := (gwl (List.mem_of_getElem? (i := 412) rfl) rfl)
theorem mi_214 : Cond.initialized (mY 214).cls ∈ GW := (gwl (List.mem_of_getElem? (i := 43) (by decide +kernel)) rfl)
theorem mn_214 : Cond.instanceMethod (mY 214) ∈ GW := (gwl (List.mem_of_getElem? (i := 411) (by decide +kernel)) rfl)
theorem me_214 : Cond.selects (mY 214).cls (mY 214) (mY 214) ∈ GW := (gwl (List.mem_of_getElem? (i := 3) (by decide +kernel)) rfl)
theorem ml_9_131 : MLV 9 131 214 3 := ⟨(gwl (List.mem_of_getElem? (i := 409) (by decide +kernel)) rfl), mn_214, me_214, mi_214, mc_214, ⟨by decide +kernel, by decide +kernel, by decide +kernel⟩, rfl⟩
set_option maxRecDepth 100000 in
theorem mc_221 : Cond.code (mY 221) (mB 221) (mL 221) (mR 221) ∈ GW := (gwl (List.mem_of_getElem? (i := 498) rfl) rfl)
theorem mi_221 : Cond.initialized (mY 221).cls ∈ GW := (gwl (List.mem_of_getElem? (i := 43) (by decide +kernel)) rfl)
theorem mn_221 : Cond.instanceMethod (mY 221) ∈ GW := (gwl (List.mem_of_getElem? (i := 497) (by decide +kernel)) rfl)
theorem me_221 : Cond.selects (mY 221).cls (mY 221) (mY 221) ∈ GW := (gwl (List.mem_of_getElem? (i := 6) (by decide +kernel)) rfl)
theorem ml_9_144 : MLV 9 144 221 2 := ⟨(gwl (List.mem_of_getElem? (i := 495) (by decide +kernel)) rfl), mn_221, me_221, mi_221, mc_221, ⟨by decide +kernel, by decide +kernel, by decide +kernel⟩, rfl⟩
theorem mo_10_1 : Cond.methodLink (RCn 10) 1 Lib.objectInit ∈ GW := (gwl (List.mem_of_getElem? (i := 888) (by decide +kernel)) rfl)
set_option maxRecDepth 100000 in
theorem mc_74 : Cond.code (mY 74) (mB 74) (mL 74) (mR 74) ∈ GW := (gwl (List.mem_of_getElem? (i := 1011) rfl) rfl)
theorem mi_74 : Cond.initialized (mY 74).cls ∈ GW := (gwl (List.mem_of_getElem? (i := 44) (by decide +kernel)) rfl)
theorem ml_10_111 : MLS 10 111 74 1 := ⟨(gwl (List.mem_of_getElem? (i := 1009) (by decide +kernel)) rfl), (gwl (List.mem_of_getElem? (i := 1010) (by decide +kernel)) rfl), (gwl (List.mem_of_getElem? (i := 44) (by decide +kernel)) rfl), mc_74, ⟨by decide +kernel, by decide +kernel, by decide +kernel⟩, rfl, rfl⟩
set_option maxRecDepth 100000 in
theorem mc_76 : Cond.code (mY 76) (mB 76) (mL 76) (mR 76) ∈ GW := (gwl (List.mem_of_getElem? (i := 1030) rfl) rfl)
theorem mi_76 : Cond.initialized (mY 76).cls ∈ GW := (gwl (List.mem_of_getElem? (i := 44) (by decide +kernel)) rfl)
theorem ml_10_115 : MLS 10 115 76 1 := ⟨(gwl (List.mem_of_getElem? (i := 1028) (by decide +kernel)) rfl), (gwl (List.mem_of_getElem? (i := 1029) (by decide +kernel)) rfl), (gwl (List.mem_of_getElem? (i := 44) (by decide +kernel)) rfl), mc_76, ⟨by decide +kernel, by decide +kernel, by decide +kernel⟩, rfl, rfl⟩
set_option maxRecDepth 100000 in
theorem mc_79 : Cond.code (mY 79) (mB 79) (mL 79) (mR 79) ∈ GW := (gwl (List.mem_of_getElem? (i := 1019) rfl) rfl)
theorem mi_79 : Cond.initialized (mY 79).cls ∈ GW := (gwl (List.mem_of_getElem? (i := 44) (by decide +kernel)) rfl)
theorem mn_79 : Cond.instanceMethod (mY 79) ∈ GW := (gwl (List.mem_of_getElem? (i := 1018) (by decide +kernel)) rfl)
theorem me_79 : Cond.selects (mY 79).cls (mY 79) (mY 79) ∈ GW := (gwl (List.mem_of_getElem? (i := 13) (by decide +kernel)) rfl)
theorem ml_10_119 : MLV 10 119 79 6 := ⟨(gwl (List.mem_of_getElem? (i := 1016) (by decide +kernel)) rfl), mn_79, me_79, mi_79, mc_79, ⟨by decide +kernel, by decide +kernel, by decide +kernel⟩, rfl⟩
set_option maxRecDepth 100000 in
theorem mc_72 : Cond.code (mY 72) (mB 72) (mL 72) (mR 72) ∈ GW := (gwl (List.mem_of_getElem? (i := 1008) rfl) rfl)
theorem mi_72 : Cond.initialized (mY 72).cls ∈ GW := (gwl (List.mem_of_getElem? (i := 44) (by decide +kernel)) rfl)
theorem mn_72 : Cond.instanceMethod (mY 72) ∈ GW := (gwl (List.mem_of_getElem? (i := 1007) (by decide +kernel)) rfl)
theorem me_72 : Cond.selects (mY 72).cls (mY 72) (mY 72) ∈ GW := (gwl (List.mem_of_getElem? (i := 11) (by decide +kernel)) rfl)
theorem ml_10_123 : MLV 10 123 72 1 := ⟨(gwl (List.mem_of_getElem? (i := 1005) (by decide +kernel)) rfl), mn_72, me_72, mi_72, mc_72, ⟨by decide +kernel, by decide +kernel, by decide +kernel⟩, rfl⟩
set_option maxRecDepth 100000 in
theorem mc_80 : Cond.code (mY 80) (mB 80) (mL 80) (mR 80) ∈ GW := (gwl (List.mem_of_getElem? (i := 1015) rfl) rfl)
theorem mi_80 : Cond.initialized (mY 80).cls ∈ GW := (gwl (List.mem_of_getElem? (i := 44) (by decide +kernel)) rfl)
theorem mn_80 : Cond.instanceMethod (mY 80) ∈ GW := (gwl (List.mem_of_getElem? (i := 1014) (by decide +kernel)) rfl)
theorem me_80 : Cond.selects (mY 80).cls (mY 80) (mY 80) ∈ GW := (gwl (List.mem_of_getElem? (i := 12) (by decide +kernel)) rfl)
theorem ml_10_126 : MLV 10 126 80 2 := ⟨(gwl (List.mem_of_getElem? (i := 1012) (by decide +kernel)) rfl), mn_80, me_80, mi_80, mc_80, ⟨by decide +kernel, by decide +kernel, by decide +kernel⟩, rfl⟩
set_option maxRecDepth 100000 in
theorem mc_81 : Cond.code (mY 81) (mB 81) (mL 81) (mR 81) ∈ GW := (gwl (List.mem_of_getElem? (i := 1023) rfl) rfl)
theorem mi_81 : Cond.initialized (mY 81).cls ∈ GW := (gwl (List.mem_of_getElem? (i := 44) (by decide +kernel)) rfl)
theorem mn_81 : Cond.instanceMethod (mY 81) ∈ GW := (gwl (List.mem_of_getElem? (i := 1022) (by decide +kernel)) rfl)
theorem me_81 : Cond.selects (mY 81).cls (mY 81) (mY 81) ∈ GW := (gwl (List.mem_of_getElem? (i := 14) (by decide +kernel)) rfl)
theorem ml_10_130 : MLV 10 130 81 2 := ⟨(gwl (List.mem_of_getElem? (i := 1020) (by decide +kernel)) rfl), mn_81, me_81, mi_81, mc_81, ⟨by decide +kernel, by decide +kernel, by decide +kernel⟩, rfl⟩
set_option maxRecDepth 100000 in
theorem mc_77 : Cond.code (mY 77) (mB 77) (mL 77) (mR 77) ∈ GW := (gwl (List.mem_of_getElem? (i := 1038) rfl) rfl)
theorem mi_77 : Cond.initialized (mY 77).cls ∈ GW := (gwl (List.mem_of_getElem? (i := 44) (by decide +kernel)) rfl)
theorem mn_77 : Cond.instanceMethod (mY 77) ∈ GW := (gwl (List.mem_of_getElem? (i := 1037) (by decide +kernel)) rfl)
theorem me_77 : Cond.selects (mY 77).cls (mY 77) (mY 77) ∈ GW := (gwl (List.mem_of_getElem? (i := 15) (by decide +kernel)) rfl)
theorem ml_10_134 : MLV 10 134 77 2 := ⟨(gwl (List.mem_of_getElem? (i := 1035) (by decide +kernel)) rfl), mn_77, me_77, mi_77, mc_77, ⟨by decide +kernel, by decide +kernel, by decide +kernel⟩, rfl⟩
set_option maxRecDepth 100000 in
theorem mc_73 : Cond.code (mY 73) (mB 73) (mL 73) (mR 73) ∈ GW := (gwl (List.mem_of_getElem? (i := 1042) rfl) rfl)
theorem mi_73 : Cond.initialized (mY 73).cls ∈ GW := (gwl (List.mem_of_getElem? (i := 44) (by decide +kernel)) rfl)
theorem mn_73 : Cond.instanceMethod (mY 73) ∈ GW := (gwl (List.mem_of_getElem? (i := 1041) (by decide +kernel)) rfl)
theorem me_73 : Cond.selects (mY 73).cls (mY 73) (mY 73) ∈ GW := (gwl (List.mem_of_getElem? (i := 16) (by decide +kernel)) rfl)
theorem ml_10_137 : MLV 10 137 73 2 := ⟨(gwl (List.mem_of_getElem? (i := 1039) (by decide +kernel)) rfl), mn_73, me_73, mi_73, mc_73, ⟨by decide +kernel, by decide +kernel, by decide +kernel⟩, rfl⟩
set_option maxRecDepth 100000 in
theorem mc_87 : Cond.code (mY 87) (mB 87) (mL 87) (mR 87) ∈ GW := (gwl (List.mem_of_getElem? (i := 1062) rfl) rfl)
theorem mi_87 : Cond.initialized (mY 87).cls ∈ GW := (gwl (List.mem_of_getElem? (i := 44) (by decide +kernel)) rfl)
theorem mn_87 : Cond.instanceMethod (mY 87) ∈ GW := (gwl (List.mem_of_getElem? (i := 1061) (by decide +kernel)) rfl)
theorem me_87 : Cond.selects (mY 87).cls (mY 87) (mY 87) ∈ GW := (gwl (List.mem_of_getElem? (i := 18) (by decide +kernel)) rfl)
theorem ml_10_141 : MLV 10 141 87 2 := ⟨(gwl (List.mem_of_getElem? (i := 1059) (by decide +kernel)) rfl), mn_87, me_87, mi_87, mc_87, ⟨by decide +kernel, by decide +kernel, by decide +kernel⟩, rfl⟩
set_option maxRecDepth 100000 in
theorem mc_90 : Cond.code (mY 90) (mB 90) (mL 90) (mR 90) ∈ GW := (gwl (List.mem_of_getElem? (i := 1074) rfl) rfl)
theorem mi_90 : Cond.initialized (mY 90).cls ∈ GW := (gwl (List.mem_of_getElem? (i := 44) (by decide +kernel)) rfl)
theorem mn_90 : Cond.instanceMethod (mY 90) ∈ GW := (gwl (List.mem_of_getElem? (i := 1073) (by decide +kernel)) rfl)
theorem me_90 : Cond.selects (mY 90).cls (mY 90) (mY 90) ∈ GW := (gwl (List.mem_of_getElem? (i := 21) (by decide +kernel)) rfl)
theorem ml_10_144 : MLV 10 144 90 2 := ⟨(gwl (List.mem_of_getElem? (i := 1071) (by decide +kernel)) rfl), mn_90, me_90, mi_90, mc_90, ⟨by decide +kernel, by decide +kernel, by decide +kernel⟩, rfl⟩
set_option maxRecDepth 100000 in
theorem mc_93 : Cond.code (mY 93) (mB 93) (mL 93) (mR 93) ∈ GW := (gwl (List.mem_of_getElem? (i := 1090) rfl) rfl)
theorem mi_93 : Cond.initialized (mY 93).cls ∈ GW := (gwl (List.mem_of_getElem? (i := 44) (by decide +kernel)) rfl)
theorem mn_93 : Cond.instanceMethod (mY 93) ∈ GW := (gwl (List.mem_of_getElem? (i := 1089) (by decide +kernel)) rfl)
theorem me_93 : Cond.selects (mY 93).cls (mY 93) (mY 93) ∈ GW := (gwl (List.mem_of_getElem? (i := 25) (by decide +kernel)) rfl)
theorem ml_10_147 : MLV 10 147 93 2 := ⟨(gwl (List.mem_of_getElem? (i := 1087) (by decide +kernel)) rfl), mn_93, me_93, mi_93, mc_93, ⟨by decide +kernel, by decide +kernel, by decide +kernel⟩, rfl⟩
set_option maxRecDepth 100000 in
theorem mc_94 : Cond.code (mY 94) (mB 94) (mL 94) (mR 94) ∈ GW := (gwl (List.mem_of_getElem? (i := 1094) rfl) rfl)
theorem mi_94 : Cond.initialized (mY 94).cls ∈ GW := (gwl (List.mem_of_getElem? (i := 44) (by decide +kernel)) rfl)
theorem mn_94 : Cond.instanceMethod (mY 94) ∈ GW := (gwl (List.mem_of_getElem? (i := 1093) (by decide +kernel)) rfl)
theorem me_94 : Cond.selects (mY 94).cls (mY 94) (mY 94) ∈ GW := (gwl (List.mem_of_getElem? (i := 26) (by decide +kernel)) rfl)
theorem ml_10_150 : MLV 10 150 94 2 := ⟨(gwl (List.mem_of_getElem? (i := 1091) (by decide +kernel)) rfl), mn_94, me_94, mi_94, mc_94, ⟨by decide +kernel, by decide +kernel, by decide +kernel⟩, rfl⟩
set_option maxRecDepth 100000 in
theorem mc_75 : Cond.code (mY 75) (mB 75) (mL 75) (mR 75) ∈ GW := (gwl (List.mem_of_getElem? (i := 1066) rfl) rfl)
theorem mi_75 : Cond.initialized (mY 75).cls ∈ GW := (gwl (List.mem_of_getElem? (i := 44) (by decide +kernel)) rfl)
theorem mn_75 : Cond.instanceMethod (mY 75) ∈ GW := (gwl (List.mem_of_getElem? (i := 1065) (by decide +kernel)) rfl)
theorem me_75 : Cond.selects (mY 75).cls (mY 75) (mY 75) ∈ GW := (gwl (List.mem_of_getElem? (i := 19) (by decide +kernel)) rfl)
theorem ml_10_153 : MLV 10 153 75 1 := ⟨(gwl (List.mem_of_getElem? (i := 1063) (by decide +kernel)) rfl), mn_75, me_75, mi_75, mc_75, ⟨by decide +kernel, by decide +kernel, by decide +kernel⟩, rfl⟩
set_option maxRecDepth 100000 in
theorem mc_89 : Cond.code (mY 89) (mB 89) (mL 89) (mR 89) ∈ GW := (gwl (List.mem_of_getElem? (i := 1110) rfl) rfl)
theorem mi_89 : Cond.initialized (mY 89).cls ∈ GW := (gwl (List.mem_of_getElem? (i := 44) (by decide +kernel)) rfl)
theorem mn_89 : Cond.instanceMethod (mY 89) ∈ GW := (gwl (List.mem_of_getElem? (i := 1109) (by decide +kernel)) rfl)
theorem me_89 : Cond.selects (mY 89).cls (mY 89) (mY 89) ∈ GW := (gwl (List.mem_of_getElem? (i := 30) (by decide +kernel)) rfl)
theorem ml_10_156 : MLV 10 156 89 2 := ⟨(gwl (List.mem_of_getElem? (i := 1107) (by decide +kernel)) rfl), mn_89, me_89, mi_89, mc_89, ⟨by decide +kernel, by decide +kernel, by decide +kernel⟩, rfl⟩
set_option maxRecDepth 100000 in
theorem mc_95 : Cond.code (mY 95) (mB 95) (mL 95) (mR 95) ∈ GW := (gwl (List.mem_of_getElem? (i := 1086) rfl) rfl)
theorem mi_95 : Cond.initialized (mY 95).cls ∈ GW := (gwl (List.mem_of_getElem? (i := 44) (by decide +kernel)) rfl)
theorem mn_95 : Cond.instanceMethod (mY 95) ∈ GW := (gwl (List.mem_of_getElem? (i := 1085) (by decide +kernel)) rfl)
theorem me_95 : Cond.selects (mY 95).cls (mY 95) (mY 95) ∈ GW := (gwl (List.mem_of_getElem? (i := 24) (by decide +kernel)) rfl)
theorem ml_10_159 : MLV 10 159 95 2 := ⟨(gwl (List.mem_of_getElem? (i := 1083) (by decide +kernel)) rfl), mn_95, me_95, mi_95, mc_95, ⟨by decide +kernel, by decide +kernel, by decide +kernel⟩, rfl⟩
set_option maxRecDepth 100000 in
theorem mc_92 : Cond.code (mY 92) (mB 92) (mL 92) (mR 92) ∈ GW := (gwl (List.mem_of_getElem? (i := 1098) rfl) rfl)
theorem mi_92 : Cond.initialized (mY 92).cls ∈ GW := (gwl (List.mem_of_getElem? (i := 44) (by decide +kernel)) rfl)
theorem mn_92 : Cond.instanceMethod (mY 92) ∈ GW := (gwl (List.mem_of_getElem? (i := 1097) (by decide +kernel)) rfl)
theorem me_92 : Cond.selects (mY 92).cls (mY 92) (mY 92) ∈ GW := (gwl (List.mem_of_getElem? (i := 27) (by decide +kernel)) rfl)
theorem ml_10_162 : MLV 10 162 92 2 := ⟨(gwl (List.mem_of_getElem? (i := 1095) (by decide +kernel)) rfl), mn_92, me_92, mi_92, mc_92, ⟨by decide +kernel, by decide +kernel, by decide +kernel⟩, rfl⟩
set_option maxRecDepth 100000 in
theorem mc_88 : Cond.code (mY 88) (mB 88) (mL 88) (mR 88) ∈ GW := (gwl (List.mem_of_getElem? (i := 1102) rfl) rfl)
theorem mi_88 : Cond.initialized (mY 88).cls ∈ GW := (gwl (List.mem_of_getElem? (i := 44) (by decide +kernel)) rfl)
theorem mn_88 : Cond.instanceMethod (mY 88) ∈ GW := (gwl (List.mem_of_getElem? (i := 1101) (by decide +kernel)) rfl)
theorem me_88 : Cond.selects (mY 88).cls (mY 88) (mY 88) ∈ GW := (gwl (List.mem_of_getElem? (i := 28) (by decide +kernel)) rfl)
theorem ml_10_166 : MLV 10 166 88 1 := ⟨(gwl (List.mem_of_getElem? (i := 1099) (by decide +kernel)) rfl), mn_88, me_88, mi_88, mc_88, ⟨by decide +kernel, by decide +kernel, by decide +kernel⟩, rfl⟩
set_option maxRecDepth 100000 in
theorem mc_96 : Cond.code (mY 96) (mB 96) (mL 96) (mR 96) ∈ GW := (gwl (List.mem_of_getElem? (i := 1106) rfl) rfl)
theorem mi_96 : Cond.initialized (mY 96).cls ∈ GW := (gwl (List.mem_of_getElem? (i := 44) (by decide +kernel)) rfl)
theorem mn_96 : Cond.instanceMethod (mY 96) ∈ GW := (gwl (List.mem_of_getElem? (i := 1105) (by decide +kernel)) rfl)
theorem me_96 : Cond.selects (mY 96).cls (mY 96) (mY 96) ∈ GW := (gwl (List.mem_of_getElem? (i := 29) (by decide +kernel)) rfl)
theorem ml_10_169 : MLV 10 169 96 2 := ⟨(gwl (List.mem_of_getElem? (i := 1103) (by decide +kernel)) rfl), mn_96, me_96, mi_96, mc_96, ⟨by decide +kernel, by decide +kernel, by decide +kernel⟩, rfl⟩
set_option maxRecDepth 100000 in
theorem mc_97 : Cond.code (mY 97) (mB 97) (mL 97) (mR 97) ∈ GW := (gwl (List.mem_of_getElem? (i := 1118) rfl) rfl)
theorem mi_97 : Cond.initialized (mY 97).cls ∈ GW := (gwl (List.mem_of_getElem? (i := 44) (by decide +kernel)) rfl)
theorem mn_97 : Cond.instanceMethod (mY 97) ∈ GW := (gwl (List.mem_of_getElem? (i := 1117) (by decide +kernel)) rfl)
theorem me_97 : Cond.selects (mY 97).cls (mY 97) (mY 97) ∈ GW := (gwl (List.mem_of_getElem? (i := 32) (by decide +kernel)) rfl)
theorem ml_10_172 : MLV 10 172 97 1 := ⟨(gwl (List.mem_of_getElem? (i := 1115) (by decide +kernel)) rfl), mn_97, me_97, mi_97, mc_97, ⟨by decide +kernel, by decide +kernel, by decide +kernel⟩, rfl⟩
set_option maxRecDepth 100000 in
theorem mc_99 : Cond.code (mY 99) (mB 99) (mL 99) (mR 99) ∈ GW := (gwl (List.mem_of_getElem? (i := 1122) rfl) rfl)
theorem mi_99 : Cond.initialized (mY 99).cls ∈ GW := (gwl (List.mem_of_getElem? (i := 44) (by decide +kernel)) rfl)
theorem mn_99 : Cond.instanceMethod (mY 99) ∈ GW := (gwl (List.mem_of_getElem? (i := 1121) (by decide +kernel)) rfl)
theorem me_99 : Cond.selects (mY 99).cls (mY 99) (mY 99) ∈ GW := (gwl (List.mem_of_getElem? (i := 33) (by decide +kernel)) rfl)
theorem ml_10_178 : MLV 10 178 99 2 := ⟨(gwl (List.mem_of_getElem? (i := 1119) (by decide +kernel)) rfl), mn_99, me_99, mi_99, mc_99, ⟨by decide +kernel, by decide +kernel, by decide +kernel⟩, rfl⟩
set_option maxRecDepth 100000 in
theorem mc_101 : Cond.code (mY 101) (mB 101) (mL 101) (mR 101) ∈ GW := (gwl (List.mem_of_getElem? (i := 1058) rfl) rfl)
theorem mi_101 : Cond.initialized (mY 101).cls ∈ GW := (gwl (List.mem_of_getElem? (i := 44) (by decide +kernel)) rfl)
theorem mn_101 : Cond.instanceMethod (mY 101) ∈ GW := (gwl (List.mem_of_getElem? (i := 1057) (by decide +kernel)) rfl)
theorem me_101 : Cond.selects (mY 101).cls (mY 101) (mY 101) ∈ GW := (gwl (List.mem_of_getElem? (i := 17) (by decide +kernel)) rfl)
theorem ml_10_181 : MLV 10 181 101 2 := ⟨(gwl (List.mem_of_getElem? (i := 1055) (by decide +kernel)) rfl), mn_101, me_101, mi_101, mc_101, ⟨by decide +kernel, by decide +kernel, by decide +kernel⟩, rfl⟩
set_option maxRecDepth 100000 in
theorem mc_91 : Cond.code (mY 91) (mB 91) (mL 91) (mR 91) ∈ GW := (gwl (List.mem_of_getElem? (i := 1070) rfl) rfl)
theorem mi_91 : Cond.initialized (mY 91).cls ∈ GW := (gwl (List.mem_of_getElem? (i := 44) (by decide +kernel)) rfl)
theorem mn_91 : Cond.instanceMethod (mY 91) ∈ GW := (gwl (List.mem_of_getElem? (i := 1069) (by decide +kernel)) rfl)
theorem me_91 : Cond.selects (mY 91).cls (mY 91) (mY 91) ∈ GW := (gwl (List.mem_of_getElem? (i := 20) (by decide +kernel)) rfl)
theorem ml_10_184 : MLV 10 184 91 1 := ⟨(gwl (List.mem_of_getElem? (i := 1067) (by decide +kernel)) rfl), mn_91, me_91, mi_91, mc_91, ⟨by decide +kernel, by decide +kernel, by decide +kernel⟩, rfl⟩
set_option maxRecDepth 100000 in
theorem mc_102 : Cond.code (mY 102) (mB 102) (mL 102) (mR 102) ∈ GW := (gwl (List.mem_of_getElem? (i := 1078) rfl) rfl)
theorem mi_102 : Cond.initialized (mY 102).cls ∈ GW := (gwl (List.mem_of_getElem? (i := 44) (by decide +kernel)) rfl)
theorem mn_102 : Cond.instanceMethod (mY 102) ∈ GW := (gwl (List.mem_of_getElem? (i := 1077) (by decide +kernel)) rfl)
theorem me_102 : Cond.selects (mY 102).cls (mY 102) (mY 102) ∈ GW := (gwl (List.mem_of_getElem? (i := 22) (by decide +kernel)) rfl)
theorem ml_10_187 : MLV 10 187 102 2 := ⟨(gwl (List.mem_of_getElem? (i := 1075) (by decide +kernel)) rfl), mn_102, me_102, mi_102, mc_102, ⟨by decide +kernel, by decide +kernel, by decide +kernel⟩, rfl⟩
set_option maxRecDepth 100000 in
theorem mc_98 : Cond.code (mY 98) (mB 98) (mL 98) (mR 98) ∈ GW := (gwl (List.mem_of_getElem? (i := 1082) rfl) rfl)
theorem mi_98 : Cond.initialized (mY 98).cls ∈ GW := (gwl (List.mem_of_getElem? (i := 44) (by decide +kernel)) rfl)
theorem mn_98 : Cond.instanceMethod (mY 98) ∈ GW := (gwl (List.mem_of_getElem? (i := 1081) (by decide +kernel)) rfl)
theorem me_98 : Cond.selects (mY 98).cls (mY 98) (mY 98) ∈ GW := (gwl (List.mem_of_getElem? (i := 23) (by decide +kernel)) rfl)
theorem ml_10_190 : MLV 10 190 98 4 := ⟨(gwl (List.mem_of_getElem? (i := 1079) (by decide +kernel)) rfl), mn_98, me_98, mi_98, mc_98, ⟨by decide +kernel, by decide +kernel, by decide +kernel⟩, rfl⟩
set_option maxRecDepth 100000 in
theorem mc_100 : Cond.code (mY 100) (mB 100) (mL 100) (mR 100) ∈ GW := (gwl (List.mem_of_getElem? (i := 1114) rfl) rfl)
theorem mi_100 : Cond.initialized (mY 100).cls ∈ GW := (gwl (List.mem_of_getElem? (i := 44) (by decide +kernel)) rfl)
theorem mn_100 : Cond.instanceMethod (mY 100) ∈ GW := (gwl (List.mem_of_getElem? (i := 1113) (by decide +kernel)) rfl)
theorem me_100 : Cond.selects (mY 100).cls (mY 100) (mY 100) ∈ GW := (gwl (List.mem_of_getElem? (i := 31) (by decide +kernel)) rfl)
theorem ml_10_194 : MLV 10 194 100 4 := ⟨(gwl (List.mem_of_getElem? (i := 1111) (by decide +kernel)) rfl), mn_100, me_100, mi_100, mc_100, ⟨by decide +kernel, by decide +kernel, by decide +kernel⟩, rfl⟩
set_option maxRecDepth 100000 in
theorem mc_107 : Cond.code (mY 107) (mB 107) (mL 107) (mR 107) ∈ GW := (gwl (List.mem_of_getElem? (i := 1142) rfl) rfl)
theorem mi_107 : Cond.initialized (mY 107).cls ∈ GW := (gwl (List.mem_of_getElem? (i := 44) (by decide +kernel)) rfl)
theorem mn_107 : Cond.instanceMethod (mY 107) ∈ GW := (gwl (List.mem_of_getElem? (i := 1141) (by decide +kernel)) rfl)
theorem me_107 : Cond.selects (mY 107).cls (mY 107) (mY 107) ∈ GW := (gwl (List.mem_of_getElem? (i := 34) (by decide +kernel)) rfl)
theorem ml_10_198 : MLV 10 198 107 2 := ⟨(gwl (List.mem_of_getElem? (i := 1139) (by decide +kernel)) rfl), mn_107, me_107, mi_107, mc_107, ⟨by decide +kernel, by decide +kernel, by decide +kernel⟩, rfl⟩
set_option maxRecDepth 100000 in
theorem mc_47 : Cond.code (mY 47) (mB 47) (mL 47) (mR 47) ∈ GW := (gwl (List.mem_of_getElem? (i := 247) rfl) rfl)
theorem mi_47 : Cond.initialized (mY 47).cls ∈ GW := (gwl (List.mem_of_getElem? (i := 36) (by decide +kernel)) rfl)
theorem mn_47 : Cond.instanceMethod (mY 47) ∈ GW := (gwl (List.mem_of_getElem? (i := 245) (by decide +kernel)) rfl)
theorem me_47 : Cond.selects (mY 47).cls (mY 47) (mY 47) ∈ GW := (gwl (List.mem_of_getElem? (i := 246) (by decide +kernel)) rfl)
theorem ml_11_7 : MLV 11 7 47 1 := ⟨(gwl (List.mem_of_getElem? (i := 244) (by decide +kernel)) rfl), mn_47, me_47, mi_47, mc_47, ⟨by decide +kernel, by decide +kernel, by decide +kernel⟩, rfl⟩
set_option maxRecDepth 100000 in
theorem mc_48 : Cond.code (mY 48) (mB 48) (mL 48) (mR 48) ∈ GW := (gwl (List.mem_of_getElem? (i := 342) rfl) rfl)
theorem mi_48 : Cond.initialized (mY 48).cls ∈ GW := (gwl (List.mem_of_getElem? (i := 36) (by decide +kernel)) rfl)
theorem mn_48 : Cond.instanceMethod (mY 48) ∈ GW := (gwl (List.mem_of_getElem? (i := 340) (by decide +kernel)) rfl)
theorem me_48 : Cond.selects (mY 48).cls (mY 48) (mY 48) ∈ GW := (gwl (List.mem_of_getElem? (i := 341) (by decide +kernel)) rfl)
theorem ml_11_17 : MLV 11 17 48 1 := ⟨(gwl (List.mem_of_getElem? (i := 339) (by decide +kernel)) rfl), mn_48, me_48, mi_48, mc_48, ⟨by decide +kernel, by decide +kernel, by decide +kernel⟩, rfl⟩
set_option maxRecDepth 100000 in
theorem mc_49 : Cond.code (mY 49) (mB 49) (mL 49) (mR 49) ∈ GW := (gwl (List.mem_of_getElem? (i := 508) rfl) rfl)
theorem mi_49 : Cond.initialized (mY 49).cls ∈ GW := (gwl (List.mem_of_getElem? (i := 36) (by decide +kernel)) rfl)
theorem mn_49 : Cond.instanceMethod (mY 49) ∈ GW := (gwl (List.mem_of_getElem? (i := 506) (by decide +kernel)) rfl)
theorem me_49 : Cond.selects (mY 49).cls (mY 49) (mY 49) ∈ GW := (gwl (List.mem_of_getElem? (i := 507) (by decide +kernel)) rfl)
theorem ml_11_20 : MLV 11 20 49 2 := ⟨(gwl (List.mem_of_getElem? (i := 505) (by decide +kernel)) rfl), mn_49, me_49, mi_49, mc_49, ⟨by decide +kernel, by decide +kernel, by decide +kernel⟩, rfl⟩
set_option maxRecDepth 100000 in
theorem mc_50 : Cond.code (mY 50) (mB 50) (mL 50) (mR 50) ∈ GW := (gwl (List.mem_of_getElem? (i := 548) rfl) rfl)
theorem mi_50 : Cond.initialized (mY 50).cls ∈ GW := (gwl (List.mem_of_getElem? (i := 36) (by decide +kernel)) rfl)
theorem mn_50 : Cond.instanceMethod (mY 50) ∈ GW := (gwl (List.mem_of_getElem? (i := 546) (by decide +kernel)) rfl)
theorem me_50 : Cond.selects (mY 50).cls (mY 50) (mY 50) ∈ GW := (gwl (List.mem_of_getElem? (i := 547) (by decide +kernel)) rfl)
theorem ml_11_24 : MLV 11 24 50 2 := ⟨(gwl (List.mem_of_getElem? (i := 545) (by decide +kernel)) rfl), mn_50, me_50, mi_50, mc_50, ⟨by decide +kernel, by decide +kernel, by decide +kernel⟩, rfl⟩
set_option maxRecDepth 100000 in
theorem mc_51 : Cond.code (mY 51) (mB 51) (mL 51) (mR 51) ∈ GW := (gwl (List.mem_of_getElem? (i := 559) rfl) rfl)
theorem mi_51 : Cond.initialized (mY 51).cls ∈ GW := (gwl (List.mem_of_getElem? (i := 36) (by decide +kernel)) rfl)
theorem mn_51 : Cond.instanceMethod (mY 51) ∈ GW := (gwl (List.mem_of_getElem? (i := 557) (by decide +kernel)) rfl)
theorem me_51 : Cond.selects (mY 51).cls (mY 51) (mY 51) ∈ GW := (gwl (List.mem_of_getElem? (i := 558) (by decide +kernel)) rfl)
theorem ml_11_27 : MLV 11 27 51 3 := ⟨(gwl (List.mem_of_getElem? (i := 556) (by decide +kernel)) rfl), mn_51, me_51, mi_51, mc_51, ⟨by decide +kernel, by decide +kernel, by decide +kernel⟩, rfl⟩
set_option maxRecDepth 100000 in
theorem mc_52 : Cond.code (mY 52) (mB 52) (mL 52) (mR 52) ∈ GW := (gwl (List.mem_of_getElem? (i := 570) rfl) rfl)
theorem mi_52 : Cond.initialized (mY 52).cls ∈ GW := (gwl (List.mem_of_getElem? (i := 36) (by decide +kernel)) rfl)
theorem mn_52 : Cond.instanceMethod (mY 52) ∈ GW := (gwl (List.mem_of_getElem? (i := 568) (by decide +kernel)) rfl)
theorem me_52 : Cond.selects (mY 52).cls (mY 52) (mY 52) ∈ GW := (gwl (List.mem_of_getElem? (i := 569) (by decide +kernel)) rfl)
theorem ml_11_31 : MLV 11 31 52 2 := ⟨(gwl (List.mem_of_getElem? (i := 567) (by decide +kernel)) rfl), mn_52, me_52, mi_52, mc_52, ⟨by decide +kernel, by decide +kernel, by decide +kernel⟩, rfl⟩
set_option maxRecDepth 100000 in
theorem mc_53 : Cond.code (mY 53) (mB 53) (mL 53) (mR 53) ∈ GW := (gwl (List.mem_of_getElem? (i := 578) rfl) rfl)
theorem mi_53 : Cond.initialized (mY 53).cls ∈ GW := (gwl (List.mem_of_getElem? (i := 36) (by decide +kernel)) rfl)
theorem mn_53 : Cond.instanceMethod (mY 53) ∈ GW := (gwl (List.mem_of_getElem? (i := 576) (by decide +kernel)) rfl)
theorem me_53 : Cond.selects (mY 53).cls (mY 53) (mY 53) ∈ GW := (gwl (List.mem_of_getElem? (i := 577) (by decide +kernel)) rfl)
theorem ml_11_34 : MLV 11 34 53 3 := ⟨(gwl (List.mem_of_getElem? (i := 575) (by decide +kernel)) rfl), mn_53, me_53, mi_53, mc_53, ⟨by decide +kernel, by decide +kernel, by decide +kernel⟩, rfl⟩
set_option maxRecDepth 100000 in
theorem mc_54 : Cond.code (mY 54) (mB 54) (mL 54) (mR 54) ∈ GW := (gwl (List.mem_of_getElem? (i := 731) rfl) rfl)
theorem mi_54 : Cond.initialized (mY 54).cls ∈ GW := (gwl (List.mem_of_getElem? (i := 36) (by decide +kernel)) rfl)
theorem mn_54 : Cond.instanceMethod (mY 54) ∈ GW := (gwl (List.mem_of_getElem? (i := 729) (by decide +kernel)) rfl)
theorem me_54 : Cond.selects (mY 54).cls (mY 54) (mY 54) ∈ GW := (gwl (List.mem_of_getElem? (i := 730) (by decide +kernel)) rfl)
theorem ml_11_38 : MLV 11 38 54 1 := ⟨(gwl (List.mem_of_getElem? (i := 728) (by decide +kernel)) rfl), mn_54, me_54, mi_54, mc_54, ⟨by decide +kernel, by decide +kernel, by decide +kernel⟩, rfl⟩
set_option maxRecDepth 100000 in
theorem mc_55 : Cond.code (mY 55) (mB 55) (mL 55) (mR 55) ∈ GW := (gwl (List.mem_of_getElem? (i := 749) rfl) rfl)
theorem mi_55 : Cond.initialized (mY 55).cls ∈ GW := (gwl (List.mem_of_getElem? (i := 36) (by decide +kernel)) rfl)
theorem mn_55 : Cond.instanceMethod (mY 55) ∈ GW := (gwl (List.mem_of_getElem? (i := 747) (by decide +kernel)) rfl)
theorem me_55 : Cond.selects (mY 55).cls (mY 55) (mY 55) ∈ GW := (gwl (List.mem_of_getElem? (i := 748) (by decide +kernel)) rfl)
theorem ml_11_42 : MLV 11 42 55 2 := ⟨(gwl (List.mem_of_getElem? (i := 746) (by decide +kernel)) rfl), mn_55, me_55, mi_55, mc_55, ⟨by decide +kernel, by decide +kernel, by decide +kernel⟩, rfl⟩
set_option maxRecDepth 100000 in
theorem mc_56 : Cond.code (mY 56) (mB 56) (mL 56) (mR 56) ∈ GW := (gwl (List.mem_of_getElem? (i := 776) rfl) rfl)
theorem mi_56 : Cond.initialized (mY 56).cls ∈ GW := (gwl (List.mem_of_getElem? (i := 36) (by decide +kernel)) rfl)
theorem mn_56 : Cond.instanceMethod (mY 56) ∈ GW := (gwl (List.mem_of_getElem? (i := 774) (by decide +kernel)) rfl)
theorem me_56 : Cond.selects (mY 56).cls (mY 56) (mY 56) ∈ GW := (gwl (List.mem_of_getElem? (i := 775) (by decide +kernel)) rfl)
theorem ml_11_48 : MLV 11 48 56 1 := ⟨(gwl (List.mem_of_getElem? (i := 773) (by decide +kernel)) rfl), mn_56, me_56, mi_56, mc_56, ⟨by decide +kernel, by decide +kernel, by decide +kernel⟩, rfl⟩
set_option maxRecDepth 100000 in
theorem mc_57 : Cond.code (mY 57) (mB 57) (mL 57) (mR 57) ∈ GW := (gwl (List.mem_of_getElem? (i := 784) rfl) rfl)
theorem mi_57 : Cond.initialized (mY 57).cls ∈ GW := (gwl (List.mem_of_getElem? (i := 36) (by decide +kernel)) rfl)
theorem mn_57 : Cond.instanceMethod (mY 57) ∈ GW := (gwl (List.mem_of_getElem? (i := 782) (by decide +kernel)) rfl)
theorem me_57 : Cond.selects (mY 57).cls (mY 57) (mY 57) ∈ GW := (gwl (List.mem_of_getElem? (i := 783) (by decide +kernel)) rfl)
theorem ml_11_51 : MLV 11 51 57 2 := ⟨(gwl (List.mem_of_getElem? (i := 781) (by decide +kernel)) rfl), mn_57, me_57, mi_57, mc_57, ⟨by decide +kernel, by decide +kernel, by decide +kernel⟩, rfl⟩
set_option maxRecDepth 100000 in
theorem mc_58 : Cond.code (mY 58) (mB 58) (mL 58) (mR 58) ∈ GW := (gwl (List.mem_of_getElem? (i := 816) rfl) rfl)
theorem mi_58 : Cond.initialized (mY 58).cls ∈ GW := (gwl (List.mem_of_getElem? (i := 36) (by decide +kernel)) rfl)
theorem mn_58 : Cond.instanceMethod (mY 58) ∈ GW := (gwl (List.mem_of_getElem? (i := 814) (by decide +kernel)) rfl)
theorem me_58 : Cond.selects (mY 58).cls (mY 58) (mY 58) ∈ GW := (gwl (List.mem_of_getElem? (i := 815) (by decide +kernel)) rfl)
theorem ml_11_54 : MLV 11 54 58 4 := ⟨(gwl (List.mem_of_getElem? (i := 813) (by decide +kernel)) rfl), mn_58, me_58, mi_58, mc_58, ⟨by decide +kernel, by decide +kernel, by decide +kernel⟩, rfl⟩
set_option maxRecDepth 100000 in
theorem mc_59 : Cond.code (mY 59) (mB 59) (mL 59) (mR 59) ∈ GW := (gwl (List.mem_of_getElem? (i := 826) rfl) rfl)
theorem mi_59 : Cond.initialized (mY 59).cls ∈ GW := (gwl (List.mem_of_getElem? (i := 36) (by decide +kernel)) rfl)
theorem mn_59 : Cond.instanceMethod (mY 59) ∈ GW := (gwl (List.mem_of_getElem? (i := 824) (by decide +kernel)) rfl)
theorem me_59 : Cond.selects (mY 59).cls (mY 59) (mY 59) ∈ GW := (gwl (List.mem_of_getElem? (i := 825) (by decide +kernel)) rfl)
theorem ml_11_58 : MLV 11 58 59 3 := ⟨(gwl (List.mem_of_getElem? (i := 823) (by decide +kernel)) rfl), mn_59, me_59, mi_59, mc_59, ⟨by decide +kernel, by decide +kernel, by decide +kernel⟩, rfl⟩
set_option maxRecDepth 100000 in
theorem mc_60 : Cond.code (mY 60) (mB 60) (mL 60) (mR 60) ∈ GW := (gwl (List.mem_of_getElem? (i := 837) rfl) rfl)
theorem mi_60 : Cond.initialized (mY 60).cls ∈ GW := (gwl (List.mem_of_getElem? (i := 36) (by decide +kernel)) rfl)
theorem mn_60 : Cond.instanceMethod (mY 60) ∈ GW := (gwl (List.mem_of_getElem? (i := 835) (by decide +kernel)) rfl)
theorem me_60 : Cond.selects (mY 60).cls (mY 60) (mY 60) ∈ GW := (gwl (List.mem_of_getElem? (i := 836) (by decide +kernel)) rfl)
theorem ml_11_62 : MLV 11 62 60 3 := ⟨(gwl (List.mem_of_getElem? (i := 834) (by decide +kernel)) rfl), mn_60, me_60, mi_60, mc_60, ⟨by decide +kernel, by decide +kernel, by decide +kernel⟩, rfl⟩
set_option maxRecDepth 100000 in
theorem mc_61 : Cond.code (mY 61) (mB 61) (mL 61) (mR 61) ∈ GW := (gwl (List.mem_of_getElem? (i := 845) rfl) rfl)
theorem mi_61 : Cond.initialized (mY 61).cls ∈ GW := (gwl (List.mem_of_getElem? (i := 36) (by decide +kernel)) rfl)
theorem mn_61 : Cond.instanceMethod (mY 61) ∈ GW := (gwl (List.mem_of_getElem? (i := 843) (by decide +kernel)) rfl)
theorem me_61 : Cond.selects (mY 61).cls (mY 61) (mY 61) ∈ GW := (gwl (List.mem_of_getElem? (i := 844) (by decide +kernel)) rfl)
theorem ml_11_65 : MLV 11 65 61 3 := ⟨(gwl (List.mem_of_getElem? (i := 842) (by decide +kernel)) rfl), mn_61, me_61, mi_61, mc_61, ⟨by decide +kernel, by decide +kernel, by decide +kernel⟩, rfl⟩
set_option maxRecDepth 100000 in
theorem mc_62 : Cond.code (mY 62) (mB 62) (mL 62) (mR 62) ∈ GW := (gwl (List.mem_of_getElem? (i := 875) rfl) rfl)
theorem mi_62 : Cond.initialized (mY 62).cls ∈ GW := (gwl (List.mem_of_getElem? (i := 36) (by decide +kernel)) rfl)
theorem mn_62 : Cond.instanceMethod (mY 62) ∈ GW := (gwl (List.mem_of_getElem? (i := 873) (by decide +kernel)) rfl)
theorem me_62 : Cond.selects (mY 62).cls (mY 62) (mY 62) ∈ GW := (gwl (List.mem_of_getElem? (i := 874) (by decide +kernel)) rfl)
theorem ml_11_68 : MLV 11 68 62 2 := ⟨(gwl (List.mem_of_getElem? (i := 872) (by decide +kernel)) rfl), mn_62, me_62, mi_62, mc_62, ⟨by decide +kernel, by decide +kernel, by decide +kernel⟩, rfl⟩
set_option maxRecDepth 100000 in
theorem mc_63 : Cond.code (mY 63) (mB 63) (mL 63) (mR 63) ∈ GW := (gwl (List.mem_of_getElem? (i := 882) rfl) rfl)
theorem mi_63 : Cond.initialized (mY 63).cls ∈ GW := (gwl (List.mem_of_getElem? (i := 36) (by decide +kernel)) rfl)
theorem mn_63 : Cond.instanceMethod (mY 63) ∈ GW := (gwl (List.mem_of_getElem? (i := 880) (by decide +kernel)) rfl)
theorem me_63 : Cond.selects (mY 63).cls (mY 63) (mY 63) ∈ GW := (gwl (List.mem_of_getElem? (i := 881) (by decide +kernel)) rfl)
theorem ml_11_71 : MLV 11 71 63 3 := ⟨(gwl (List.mem_of_getElem? (i := 879) (by decide +kernel)) rfl), mn_63, me_63, mi_63, mc_63, ⟨by decide +kernel, by decide +kernel, by decide +kernel⟩, rfl⟩
set_option maxRecDepth 100000 in
theorem mc_46 : Cond.code (mY 46) (mB 46) (mL 46) (mR 46) ∈ GW := (gwl (List.mem_of_getElem? (i := 65) rfl) rfl)
theorem mi_46 : Cond.initialized (mY 46).cls ∈ GW := (gwl (List.mem_of_getElem? (i := 36) (by decide +kernel)) rfl)
theorem mn_46 : Cond.instanceMethod (mY 46) ∈ GW := (gwl (List.mem_of_getElem? (i := 64) (by decide +kernel)) rfl)
theorem ml_11_75 : MLI 11 75 46 0 := ⟨(gwl (List.mem_of_getElem? (i := 63) (by decide +kernel)) rfl), mn_46, mi_46, mc_46, ⟨by decide +kernel, by decide +kernel, by decide +kernel⟩, rfl, rfl⟩
set_option maxRecDepth 100000 in
theorem mc_70 : Cond.code (mY 70) (mB 70) (mL 70) (mR 70) ∈ GW := (gwl (List.mem_of_getElem? (i := 887) rfl) rfl)
theorem mi_70 : Cond.initialized (mY 70).cls ∈ GW := (gwl (List.mem_of_getElem? (i := 44) (by decide +kernel)) rfl)
theorem mn_70 : Cond.instanceMethod (mY 70) ∈ GW := (gwl (List.mem_of_getElem? (i := 886) (by decide +kernel)) rfl)
theorem ml_11_78 : MLI 11 78 70 0 := ⟨(gwl (List.mem_of_getElem? (i := 885) (by decide +kernel)) rfl), mn_70, mi_70, mc_70, ⟨by decide +kernel, by decide +kernel, by decide +kernel⟩, rfl, rfl⟩
set_option maxRecDepth 100000 in
theorem mc_115 : Cond.codeWith (mY 115) (mB 115) (mL 115) (mR 115) (mH 115) ∈ GW := (gwl (List.mem_of_getElem? (i := 241) rfl) rfl)
theorem mi_115 : Cond.initialized (mY 115).cls ∈ GW := (gwl (List.mem_of_getElem? (i := 35) (by decide +kernel)) rfl)
set_option maxRecDepth 100000 in
theorem mc_78 : Cond.code (mY 78) (mB 78) (mL 78) (mR 78) ∈ GW := (gwl (List.mem_of_getElem? (i := 1000) rfl) rfl)
theorem mi_78 : Cond.initialized (mY 78).cls ∈ GW := (gwl (List.mem_of_getElem? (i := 44) (by decide +kernel)) rfl)
theorem mn_78 : Cond.instanceMethod (mY 78) ∈ GW := (gwl (List.mem_of_getElem? (i := 998) (by decide +kernel)) rfl)
theorem me_78 : Cond.selects (mY 78).cls (mY 78) (mY 78) ∈ GW := (gwl (List.mem_of_getElem? (i := 999) (by decide +kernel)) rfl)
theorem ml_11_84 : MLV 11 84 78 1 := ⟨(gwl (List.mem_of_getElem? (i := 997) (by decide +kernel)) rfl), mn_78, me_78, mi_78, mc_78, ⟨by decide +kernel, by decide +kernel, by decide +kernel⟩, rfl⟩
set_option maxRecDepth 100000 in
theorem mc_71 : Cond.code (mY 71) (mB 71) (mL 71) (mR 71) ∈ GW := (gwl (List.mem_of_getElem? (i := 996) rfl) rfl)
theorem mi_71 : Cond.initialized (mY 71).cls ∈ GW := (gwl (List.mem_of_getElem? (i := 44) (by decide +kernel)) rfl)
theorem mn_71 : Cond.instanceMethod (mY 71) ∈ GW := (gwl (List.mem_of_getElem? (i := 994) (by decide +kernel)) rfl)
theorem me_71 : Cond.selects (mY 71).cls (mY 71) (mY 71) ∈ GW := (gwl (List.mem_of_getElem? (i := 995) (by decide +kernel)) rfl)
theorem ml_11_85 : MLV 11 85 71 0 := ⟨(gwl (List.mem_of_getElem? (i := 993) (by decide +kernel)) rfl), mn_71, me_71, mi_71, mc_71, ⟨by decide +kernel, by decide +kernel, by decide +kernel⟩, rfl⟩
set_option maxRecDepth 100000 in
theorem mc_116 : Cond.codeWith (mY 116) (mB 116) (mL 116) (mR 116) (mH 116) ∈ GW := (gwl (List.mem_of_getElem? (i := 338) rfl) rfl)
theorem mi_116 : Cond.initialized (mY 116).cls ∈ GW := (gwl (List.mem_of_getElem? (i := 35) (by decide +kernel)) rfl)
set_option maxRecDepth 100000 in
theorem mc_82 : Cond.code (mY 82) (mB 82) (mL 82) (mR 82) ∈ GW := (gwl (List.mem_of_getElem? (i := 1004) rfl) rfl)
theorem mi_82 : Cond.initialized (mY 82).cls ∈ GW := (gwl (List.mem_of_getElem? (i := 44) (by decide +kernel)) rfl)
theorem mn_82 : Cond.instanceMethod (mY 82) ∈ GW := (gwl (List.mem_of_getElem? (i := 1002) (by decide +kernel)) rfl)
theorem me_82 : Cond.selects (mY 82).cls (mY 82) (mY 82) ∈ GW := (gwl (List.mem_of_getElem? (i := 1003) (by decide +kernel)) rfl)
theorem ml_11_91 : MLV 11 91 82 1 := ⟨(gwl (List.mem_of_getElem? (i := 1001) (by decide +kernel)) rfl), mn_82, me_82, mi_82, mc_82, ⟨by decide +kernel, by decide +kernel, by decide +kernel⟩, rfl⟩
set_option maxRecDepth 100000 in
theorem mc_117 : Cond.codeWith (mY 117) (mB 117) (mL 117) (mR 117) (mH 117) ∈ GW := (gwl (List.mem_of_getElem? (i := 504) rfl) rfl)
theorem mi_117 : Cond.initialized (mY 117).cls ∈ GW := (gwl (List.mem_of_getElem? (i := 35) (by decide +kernel)) rfl)
set_option maxRecDepth 100000 in
theorem mc_83 : Cond.code (mY 83) (mB 83) (mL 83) (mR 83) ∈ GW := (gwl (List.mem_of_getElem? (i := 1027) rfl) rfl)
theorem mi_83 : Cond.initialized (mY 83).cls ∈ GW := (gwl (List.mem_of_getElem? (i := 44) (by decide +kernel)) rfl)
theorem mn_83 : Cond.instanceMethod (mY 83) ∈ GW := (gwl (List.mem_of_getElem? (i := 1025) (by decide +kernel)) rfl)
theorem me_83 : Cond.selects (mY 83).cls (mY 83) (mY 83) ∈ GW := (gwl (List.mem_of_getElem? (i := 1026) (by decide +kernel)) rfl)
theorem ml_11_95 : MLV 11 95 83 2 := ⟨(gwl (List.mem_of_getElem? (i := 1024) (by decide +kernel)) rfl), mn_83, me_83, mi_83, mc_83, ⟨by decide +kernel, by decide +kernel, by decide +kernel⟩, rfl⟩
set_option maxRecDepth 100000 in
theorem mc_118 : Cond.codeWith (mY 118) (mB 118) (mL 118) (mR 118) (mH 118) ∈ GW := (gwl (List.mem_of_getElem? (i := 544) rfl) rfl)
theorem mi_118 : Cond.initialized (mY 118).cls ∈ GW := (gwl (List.mem_of_getElem? (i := 35) (by decide +kernel)) rfl)
set_option maxRecDepth 100000 in
theorem mc_84 : Cond.code (mY 84) (mB 84) (mL 84) (mR 84) ∈ GW := (gwl (List.mem_of_getElem? (i := 1034) rfl) rfl)
theorem mi_84 : Cond.initialized (mY 84).cls ∈ GW := (gwl (List.mem_of_getElem? (i := 44) (by decide +kernel)) rfl)
theorem mn_84 : Cond.instanceMethod (mY 84) ∈ GW := (gwl (List.mem_of_getElem? (i := 1032) (by decide +kernel)) rfl)
theorem me_84 : Cond.selects (mY 84).cls (mY 84) (mY 84) ∈ GW := (gwl (List.mem_of_getElem? (i := 1033) (by decide +kernel)) rfl)
theorem ml_11_98 : MLV 11 98 84 2 := ⟨(gwl (List.mem_of_getElem? (i := 1031) (by decide +kernel)) rfl), mn_84, me_84, mi_84, mc_84, ⟨by decide +kernel, by decide +kernel, by decide +kernel⟩, rfl⟩
set_option maxRecDepth 100000 in
theorem mc_119 : Cond.codeWith (mY 119) (mB 119) (mL 119) (mR 119) (mH 119) ∈ GW := (gwl (List.mem_of_getElem? (i := 555) rfl) rfl)
theorem mi_119 : Cond.initialized (mY 119).cls ∈ GW := (gwl (List.mem_of_getElem? (i := 35) (by decide +kernel)) rfl)
set_option maxRecDepth 100000 in
theorem mc_85 : Cond.code (mY 85) (mB 85) (mL 85) (mR 85) ∈ GW := (gwl (List.mem_of_getElem? (i := 1046) rfl) rfl)
theorem mi_85 : Cond.initialized (mY 85).cls ∈ GW := (gwl (List.mem_of_getElem? (i := 44) (by decide +kernel)) rfl)
theorem mn_85 : Cond.instanceMethod (mY 85) ∈ GW := (gwl (List.mem_of_getElem? (i := 1044) (by decide +kernel)) rfl)
theorem me_85 : Cond.selects (mY 85).cls (mY 85) (mY 85) ∈ GW := (gwl (List.mem_of_getElem? (i := 1045) (by decide +kernel)) rfl)
theorem ml_11_102 : MLV 11 102 85 3 := ⟨(gwl (List.mem_of_getElem? (i := 1043) (by decide +kernel)) rfl), mn_85, me_85, mi_85, mc_85, ⟨by decide +kernel, by decide +kernel, by decide +kernel⟩, rfl⟩
set_option maxRecDepth 100000 in
theorem mc_120 : Cond.codeWith (mY 120) (mB 120) (mL 120) (mR 120) (mH 120) ∈ GW := (gwl (List.mem_of_getElem? (i := 566) rfl) rfl)
theorem mi_120 : Cond.initialized (mY 120).cls ∈ GW := (gwl (List.mem_of_getElem? (i := 35) (by decide +kernel)) rfl)
set_option maxRecDepth 100000 in
theorem mc_86 : Cond.code (mY 86) (mB 86) (mL 86) (mR 86) ∈ GW := (gwl (List.mem_of_getElem? (i := 1050) rfl) rfl)
theorem mi_86 : Cond.initialized (mY 86).cls ∈ GW := (gwl (List.mem_of_getElem? (i := 44) (by decide +kernel)) rfl)
theorem mn_86 : Cond.instanceMethod (mY 86) ∈ GW := (gwl (List.mem_of_getElem? (i := 1048) (by decide +kernel)) rfl)
theorem me_86 : Cond.selects (mY 86).cls (mY 86) (mY 86) ∈ GW := (gwl (List.mem_of_getElem? (i := 1049) (by decide +kernel)) rfl)
theorem ml_11_105 : MLV 11 105 86 2 := ⟨(gwl (List.mem_of_getElem? (i := 1047) (by decide +kernel)) rfl), mn_86, me_86, mi_86, mc_86, ⟨by decide +kernel, by decide +kernel, by decide +kernel⟩, rfl⟩
set_option maxRecDepth 100000 in
theorem mc_121 : Cond.codeWith (mY 121) (mB 121) (mL 121) (mR 121) (mH 121) ∈ GW := (gwl (List.mem_of_getElem? (i := 574) rfl) rfl)
theorem mi_121 : Cond.initialized (mY 121).cls ∈ GW := (gwl (List.mem_of_getElem? (i := 35) (by decide +kernel)) rfl)
set_option maxRecDepth 100000 in
theorem mc_103 : Cond.code (mY 103) (mB 103) (mL 103) (mR 103) ∈ GW := (gwl (List.mem_of_getElem? (i := 1054) rfl) rfl)
theorem mi_103 : Cond.initialized (mY 103).cls ∈ GW := (gwl (List.mem_of_getElem? (i := 44) (by decide +kernel)) rfl)
theorem mn_103 : Cond.instanceMethod (mY 103) ∈ GW := (gwl (List.mem_of_getElem? (i := 1052) (by decide +kernel)) rfl)
theorem me_103 : Cond.selects (mY 103).cls (mY 103) (mY 103) ∈ GW := (gwl (List.mem_of_getElem? (i := 1053) (by decide +kernel)) rfl)
theorem ml_11_109 : MLV 11 109 103 3 := ⟨(gwl (List.mem_of_getElem? (i := 1051) (by decide +kernel)) rfl), mn_103, me_103, mi_103, mc_103, ⟨by decide +kernel, by decide +kernel, by decide +kernel⟩, rfl⟩
set_option maxRecDepth 100000 in
theorem mc_122 : Cond.codeWith (mY 122) (mB 122) (mL 122) (mR 122) (mH 122) ∈ GW := (gwl (List.mem_of_getElem? (i := 727) rfl) rfl)
theorem mi_122 : Cond.initialized (mY 122).cls ∈ GW := (gwl (List.mem_of_getElem? (i := 35) (by decide +kernel)) rfl)
set_option maxRecDepth 100000 in
theorem mc_104 : Cond.code (mY 104) (mB 104) (mL 104) (mR 104) ∈ GW := (gwl (List.mem_of_getElem? (i := 1126) rfl) rfl)
theorem mi_104 : Cond.initialized (mY 104).cls ∈ GW := (gwl (List.mem_of_getElem? (i := 44) (by decide +kernel)) rfl)
theorem mn_104 : Cond.instanceMethod (mY 104) ∈ GW := (gwl (List.mem_of_getElem? (i := 1124) (by decide +kernel)) rfl)
theorem me_104 : Cond.selects (mY 104).cls (mY 104) (mY 104) ∈ GW := (gwl (List.mem_of_getElem? (i := 1125) (by decide +kernel)) rfl)
theorem ml_11_113 : MLV 11 113 104 1 := ⟨(gwl (List.mem_of_getElem? (i := 1123) (by decide +kernel)) rfl), mn_104, me_104, mi_104, mc_104, ⟨by decide +kernel, by decide +kernel, by decide +kernel⟩, rfl⟩
set_option maxRecDepth 100000 in
theorem mc_123 : Cond.codeWith (mY 123) (mB 123) (mL 123) (mR 123) (mH 123) ∈ GW := (gwl (List.mem_of_getElem? (i := 744) rfl) rfl)
theorem mi_123 : Cond.initialized (mY 123).cls ∈ GW := (gwl (List.mem_of_getElem? (i := 35) (by decide +kernel)) rfl)
set_option maxRecDepth 100000 in
theorem mc_105 : Cond.code (mY 105) (mB 105) (mL 105) (mR 105) ∈ GW := (gwl (List.mem_of_getElem? (i := 1130) rfl) rfl)
theorem mi_105 : Cond.initialized (mY 105).cls ∈ GW := (gwl (List.mem_of_getElem? (i := 44) (by decide +kernel)) rfl)
theorem mn_105 : Cond.instanceMethod (mY 105) ∈ GW := (gwl (List.mem_of_getElem? (i := 1128) (by decide +kernel)) rfl)
theorem me_105 : Cond.selects (mY 105).cls (mY 105) (mY 105) ∈ GW := (gwl (List.mem_of_getElem? (i := 1129) (by decide +kernel)) rfl)
theorem ml_11_116 : MLV 11 116 105 2 := ⟨(gwl (List.mem_of_getElem? (i := 1127) (by decide +kernel)) rfl), mn_105, me_105, mi_105, mc_105, ⟨by decide +kernel, by decide +kernel, by decide +kernel⟩, rfl⟩
set_option maxRecDepth 100000 in
theorem mc_124 : Cond.codeWith (mY 124) (mB 124) (mL 124) (mR 124) (mH 124) ∈ GW := (gwl (List.mem_of_getElem? (i := 772) rfl) rfl)
theorem mi_124 : Cond.initialized (mY 124).cls ∈ GW := (gwl (List.mem_of_getElem? (i := 35) (by decide +kernel)) rfl)
set_option maxRecDepth 100000 in
theorem mc_106 : Cond.code (mY 106) (mB 106) (mL 106) (mR 106) ∈ GW := (gwl (List.mem_of_getElem? (i := 1134) rfl) rfl)
theorem mi_106 : Cond.initialized (mY 106).cls ∈ GW := (gwl (List.mem_of_getElem? (i := 44) (by decide +kernel)) rfl)
theorem mn_106 : Cond.instanceMethod (mY 106) ∈ GW := (gwl (List.mem_of_getElem? (i := 1132) (by decide +kernel)) rfl)
theorem me_106 : Cond.selects (mY 106).cls (mY 106) (mY 106) ∈ GW := (gwl (List.mem_of_getElem? (i := 1133) (by decide +kernel)) rfl)
theorem ml_11_119 : MLV 11 119 106 1 := ⟨(gwl (List.mem_of_getElem? (i := 1131) (by decide +kernel)) rfl), mn_106, me_106, mi_106, mc_106, ⟨by decide +kernel, by decide +kernel, by decide +kernel⟩, rfl⟩
set_option maxRecDepth 100000 in
theorem mc_125 : Cond.codeWith (mY 125) (mB 125) (mL 125) (mR 125) (mH 125) ∈ GW := (gwl (List.mem_of_getElem? (i := 780) rfl) rfl)
theorem mi_125 : Cond.initialized (mY 125).cls ∈ GW := (gwl (List.mem_of_getElem? (i := 35) (by decide +kernel)) rfl)
set_option maxRecDepth 100000 in
theorem mc_108 : Cond.code (mY 108) (mB 108) (mL 108) (mR 108) ∈ GW := (gwl (List.mem_of_getElem? (i := 1138) rfl) rfl)
theorem mi_108 : Cond.initialized (mY 108).cls ∈ GW := (gwl (List.mem_of_getElem? (i := 44) (by decide +kernel)) rfl)
theorem mn_108 : Cond.instanceMethod (mY 108) ∈ GW := (gwl (List.mem_of_getElem? (i := 1136) (by decide +kernel)) rfl)
theorem me_108 : Cond.selects (mY 108).cls (mY 108) (mY 108) ∈ GW := (gwl (List.mem_of_getElem? (i := 1137) (by decide +kernel)) rfl)
theorem ml_11_122 : MLV 11 122 108 2 := ⟨(gwl (List.mem_of_getElem? (i := 1135) (by decide +kernel)) rfl), mn_108, me_108, mi_108, mc_108, ⟨by decide +kernel, by decide +kernel, by decide +kernel⟩, rfl⟩
set_option maxRecDepth 100000 in
theorem mc_126 : Cond.codeWith (mY 126) (mB 126) (mL 126) (mR 126) (mH 126) ∈ GW := (gwl (List.mem_of_getElem? (i := 812) rfl) rfl)
theorem mi_126 : Cond.initialized (mY 126).cls ∈ GW := (gwl (List.mem_of_getElem? (i := 35) (by decide +kernel)) rfl)
set_option maxRecDepth 100000 in
theorem mc_109 : Cond.code (mY 109) (mB 109) (mL 109) (mR 109) ∈ GW := (gwl (List.mem_of_getElem? (i := 1146) rfl) rfl)
theorem mi_109 : Cond.initialized (mY 109).cls ∈ GW := (gwl (List.mem_of_getElem? (i := 44) (by decide +kernel)) rfl)
theorem mn_109 : Cond.instanceMethod (mY 109) ∈ GW := (gwl (List.mem_of_getElem? (i := 1144) (by decide +kernel)) rfl)
theorem me_109 : Cond.selects (mY 109).cls (mY 109) (mY 109) ∈ GW := (gwl (List.mem_of_getElem? (i := 1145) (by decide +kernel)) rfl)
theorem ml_11_126 : MLV 11 126 109 4 := ⟨(gwl (List.mem_of_getElem? (i := 1143) (by decide +kernel)) rfl), mn_109, me_109, mi_109, mc_109, ⟨by decide +kernel, by decide +kernel, by decide +kernel⟩, rfl⟩
set_option maxRecDepth 100000 in
theorem mc_127 : Cond.codeWith (mY 127) (mB 127) (mL 127) (mR 127) (mH 127) ∈ GW := (gwl (List.mem_of_getElem? (i := 822) rfl) rfl)
theorem mi_127 : Cond.initialized (mY 127).cls ∈ GW := (gwl (List.mem_of_getElem? (i := 35) (by decide +kernel)) rfl)
set_option maxRecDepth 100000 in
theorem mc_110 : Cond.code (mY 110) (mB 110) (mL 110) (mR 110) ∈ GW := (gwl (List.mem_of_getElem? (i := 1150) rfl) rfl)
theorem mi_110 : Cond.initialized (mY 110).cls ∈ GW := (gwl (List.mem_of_getElem? (i := 44) (by decide +kernel)) rfl)
theorem mn_110 : Cond.instanceMethod (mY 110) ∈ GW := (gwl (List.mem_of_getElem? (i := 1148) (by decide +kernel)) rfl)
theorem me_110 : Cond.selects (mY 110).cls (mY 110) (mY 110) ∈ GW := (gwl (List.mem_of_getElem? (i := 1149) (by decide +kernel)) rfl)
theorem ml_11_129 : MLV 11 129 110 3 := ⟨(gwl (List.mem_of_getElem? (i := 1147) (by decide +kernel)) rfl), mn_110, me_110, mi_110, mc_110, ⟨by decide +kernel, by decide +kernel, by decide +kernel⟩, rfl⟩
set_option maxRecDepth 100000 in
theorem mc_128 : Cond.codeWith (mY 128) (mB 128) (mL 128) (mR 128) (mH 128) ∈ GW := (gwl (List.mem_of_getElem? (i := 833) rfl) rfl)
theorem mi_128 : Cond.initialized (mY 128).cls ∈ GW := (gwl (List.mem_of_getElem? (i := 35) (by decide +kernel)) rfl)
set_option maxRecDepth 100000 in
theorem mc_111 : Cond.code (mY 111) (mB 111) (mL 111) (mR 111) ∈ GW := (gwl (List.mem_of_getElem? (i := 1154) rfl) rfl)
theorem mi_111 : Cond.initialized (mY 111).cls ∈ GW := (gwl (List.mem_of_getElem? (i := 44) (by decide +kernel)) rfl)
theorem mn_111 : Cond.instanceMethod (mY 111) ∈ GW := (gwl (List.mem_of_getElem? (i := 1152) (by decide +kernel)) rfl)
theorem me_111 : Cond.selects (mY 111).cls (mY 111) (mY 111) ∈ GW := (gwl (List.mem_of_getElem? (i := 1153) (by decide +kernel)) rfl)
theorem ml_11_132 : MLV 11 132 111 3 := ⟨(gwl (List.mem_of_getElem? (i := 1151) (by decide +kernel)) rfl), mn_111, me_111, mi_111, mc_111, ⟨by decide +kernel, by decide +kernel, by decide +kernel⟩, rfl⟩
set_option maxRecDepth 100000 in
theorem mc_129 : Cond.codeWith (mY 129) (mB 129) (mL 129) (mR 129) (mH 129) ∈ GW := (gwl (List.mem_of_getElem? (i := 841) rfl) rfl)
theorem mi_129 : Cond.initialized (mY 129).cls ∈ GW := (gwl (List.mem_of_getElem? (i := 35) (by decide +kernel)) rfl)
set_option maxRecDepth 100000 in
theorem mc_112 : Cond.code (mY 112) (mB 112) (mL 112) (mR 112) ∈ GW := (gwl (List.mem_of_getElem? (i := 1158) rfl) rfl)
theorem mi_112 : Cond.initialized (mY 112).cls ∈ GW := (gwl (List.mem_of_getElem? (i := 44) (by decide +kernel)) rfl)
theorem mn_112 : Cond.instanceMethod (mY 112) ∈ GW := (gwl (List.mem_of_getElem? (i := 1156) (by decide +kernel)) rfl)
theorem me_112 : Cond.selects (mY 112).cls (mY 112) (mY 112) ∈ GW := (gwl (List.mem_of_getElem? (i := 1157) (by decide +kernel)) rfl)
theorem ml_11_135 : MLV 11 135 112 3 := ⟨(gwl (List.mem_of_getElem? (i := 1155) (by decide +kernel)) rfl), mn_112, me_112, mi_112, mc_112, ⟨by decide +kernel, by decide +kernel, by decide +kernel⟩, rfl⟩
set_option maxRecDepth 100000 in
theorem mc_130 : Cond.codeWith (mY 130) (mB 130) (mL 130) (mR 130) (mH 130) ∈ GW := (gwl (List.mem_of_getElem? (i := 871) rfl) rfl)
theorem mi_130 : Cond.initialized (mY 130).cls ∈ GW := (gwl (List.mem_of_getElem? (i := 35) (by decide +kernel)) rfl)
set_option maxRecDepth 100000 in
theorem mc_113 : Cond.code (mY 113) (mB 113) (mL 113) (mR 113) ∈ GW := (gwl (List.mem_of_getElem? (i := 1162) rfl) rfl)
theorem mi_113 : Cond.initialized (mY 113).cls ∈ GW := (gwl (List.mem_of_getElem? (i := 44) (by decide +kernel)) rfl)
theorem mn_113 : Cond.instanceMethod (mY 113) ∈ GW := (gwl (List.mem_of_getElem? (i := 1160) (by decide +kernel)) rfl)
theorem me_113 : Cond.selects (mY 113).cls (mY 113) (mY 113) ∈ GW := (gwl (List.mem_of_getElem? (i := 1161) (by decide +kernel)) rfl)
theorem ml_11_138 : MLV 11 138 113 2 := ⟨(gwl (List.mem_of_getElem? (i := 1159) (by decide +kernel)) rfl), mn_113, me_113, mi_113, mc_113, ⟨by decide +kernel, by decide +kernel, by decide +kernel⟩, rfl⟩
set_option maxRecDepth 100000 in
theorem mc_131 : Cond.codeWith (mY 131) (mB 131) (mL 131) (mR 131) (mH 131) ∈ GW := (gwl (List.mem_of_getElem? (i := 878) rfl) rfl)
theorem mi_131 : Cond.initialized (mY 131).cls ∈ GW := (gwl (List.mem_of_getElem? (i := 35) (by decide +kernel)) rfl)
set_option maxRecDepth 100000 in
theorem mc_114 : Cond.code (mY 114) (mB 114) (mL 114) (mR 114) ∈ GW := (gwl (List.mem_of_getElem? (i := 1166) rfl) rfl)
theorem mi_114 : Cond.initialized (mY 114).cls ∈ GW := (gwl (List.mem_of_getElem? (i := 44) (by decide +kernel)) rfl)
theorem mn_114 : Cond.instanceMethod (mY 114) ∈ GW := (gwl (List.mem_of_getElem? (i := 1164) (by decide +kernel)) rfl)
theorem me_114 : Cond.selects (mY 114).cls (mY 114) (mY 114) ∈ GW := (gwl (List.mem_of_getElem? (i := 1165) (by decide +kernel)) rfl)
theorem ml_11_141 : MLV 11 141 114 3 := ⟨(gwl (List.mem_of_getElem? (i := 1163) (by decide +kernel)) rfl), mn_114, me_114, mi_114, mc_114, ⟨by decide +kernel, by decide +kernel, by decide +kernel⟩, rfl⟩
set_option maxRecDepth 100000 in
theorem mc_210 : Cond.code (mY 210) (mB 210) (mL 210) (mR 210) ∈ GW := (gwl (List.mem_of_getElem? (i := 166) rfl) rfl)
theorem mi_210 : Cond.initialized (mY 210).cls ∈ GW := (gwl (List.mem_of_getElem? (i := 41) (by decide +kernel)) rfl)
theorem mn_210 : Cond.instanceMethod (mY 210) ∈ GW := (gwl (List.mem_of_getElem? (i := 165) (by decide +kernel)) rfl)
theorem ml_12_1 : MLI 12 1 210 0 := ⟨(gwl (List.mem_of_getElem? (i := 164) (by decide +kernel)) rfl), mn_210, mi_210, mc_210, ⟨by decide +kernel, by decide +kernel, by decide +kernel⟩, rfl, rfl⟩
theorem mo_13_1 : Cond.methodLink (RCn 13) 1 Lib.objectInit ∈ GW := (gwl (List.mem_of_getElem? (i := 167) (by decide +kernel)) rfl)
set_option maxRecDepth 100000 in
theorem mc_212 : Cond.code (mY 212) (mB 212) (mL 212) (mR 212) ∈ GW := (gwl (List.mem_of_getElem? (i := 373) rfl) rfl)
theorem mi_212 : Cond.initialized (mY 212).cls ∈ GW := (gwl (List.mem_of_getElem? (i := 51) (by decide +kernel)) rfl)
theorem ml_14_105 : MLT 14 105 212 3 := ⟨(gwl (List.mem_of_getElem? (i := 371) (by decide +kernel)) rfl), (gwl (List.mem_of_getElem? (i := 372) (by decide +kernel)) rfl), mi_212, mc_212, ⟨by decide +kernel, by decide +kernel, by decide +kernel⟩, rfl⟩
theorem mx_16_194 : Cond.methodLink (RCn 16) 194 Lib.Math.max.name ∈ GW := (gwl (List.mem_of_getElem? (i := 424) (by decide +kernel)) rfl)
set_option maxRecDepth 100000 in
theorem mc_219 : Cond.code (mY 219) (mB 219) (mL 219) (mR 219) ∈ GW := (gwl (List.mem_of_getElem? (i := 454) rfl) rfl)
theorem mi_219 : Cond.initialized (mY 219).cls ∈ GW := (gwl (List.mem_of_getElem? (i := 55) (by decide +kernel)) rfl)
theorem ml_17_300 : MLS 17 300 219 3 := ⟨(gwl (List.mem_of_getElem? (i := 452) (by decide +kernel)) rfl), (gwl (List.mem_of_getElem? (i := 453) (by decide +kernel)) rfl), (gwl (List.mem_of_getElem? (i := 55) (by decide +kernel)) rfl), mc_219, ⟨by decide +kernel, by decide +kernel, by decide +kernel⟩, rfl, rfl⟩
set_option maxRecDepth 100000 in
theorem mc_220 : Cond.code (mY 220) (mB 220) (mL 220) (mR 220) ∈ GW := (gwl (List.mem_of_getElem? (i := 460) rfl) rfl)
theorem mi_220 : Cond.initialized (mY 220).cls ∈ GW := (gwl (List.mem_of_getElem? (i := 54) (by decide +kernel)) rfl)
theorem ml_17_304 : MLT 17 304 220 2 := ⟨(gwl (List.mem_of_getElem? (i := 458) (by decide +kernel)) rfl), (gwl (List.mem_of_getElem? (i := 459) (by decide +kernel)) rfl), mi_220, mc_220, ⟨by decide +kernel, by decide +kernel, by decide +kernel⟩, rfl⟩
