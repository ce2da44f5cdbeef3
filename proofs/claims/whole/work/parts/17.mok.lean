/-! each method's instructions are those of its bytes -/
set_option maxRecDepth 100000 in
theorem ok_nd_init : mOK 0 := ⟨rfl, by decide +kernel⟩
set_option maxRecDepth 100000 in
theorem ok_nd_end : mOK 1 := ⟨rfl, by decide +kernel⟩
set_option maxRecDepth 100000 in
theorem ok_nd_queue : mOK 2 := ⟨rfl, by decide +kernel⟩
set_option maxRecDepth 100000 in
theorem ok_nd_unqueue : mOK 3 := ⟨rfl, by decide +kernel⟩
set_option maxRecDepth 100000 in
theorem ok_dr_init : mOK 4 := ⟨rfl, by decide +kernel⟩
set_option maxRecDepth 100000 in
theorem ok_dr_begin : mOK 5 := ⟨rfl, by decide +kernel⟩
set_option maxRecDepth 100000 in
theorem ok_dr_append : mOK 6 := ⟨rfl, by decide +kernel⟩
set_option maxRecDepth 100000 in
theorem ok_dr_cells : mOK 7 := ⟨rfl, by decide +kernel⟩
set_option maxRecDepth 100000 in
theorem ok_dr_hasNodeBefore : mOK 8 := ⟨rfl, by decide +kernel⟩
set_option maxRecDepth 100000 in
theorem ok_ms_init : mOK 9 := ⟨rfl, by decide +kernel⟩
set_option maxRecDepth 100000 in
theorem ok_ms_setItem : mOK 10 := ⟨rfl, by decide +kernel⟩
set_option maxRecDepth 100000 in
theorem ok_ms_isFrom : mOK 11 := ⟨rfl, by decide +kernel⟩
set_option maxRecDepth 100000 in
theorem ok_wk_init : mOK 12 := ⟨rfl, by decide +kernel⟩
set_option maxRecDepth 100000 in
theorem ok_wk_nodeKey : mOK 13 := ⟨rfl, by decide +kernel⟩
set_option maxRecDepth 100000 in
theorem ok_wt_init : mOK 14 := ⟨rfl, by decide +kernel⟩
set_option maxRecDepth 100000 in
theorem ok_hs_init : mOK 15 := ⟨rfl, by decide +kernel⟩
set_option maxRecDepth 100000 in
theorem ok_hs_has : mOK 16 := ⟨rfl, by decide +kernel⟩
set_option maxRecDepth 100000 in
theorem ok_hs_strongNode : mOK 17 := ⟨rfl, by decide +kernel⟩
set_option maxRecDepth 100000 in
theorem ok_hs_numberOf : mOK 18 := ⟨rfl, by decide +kernel⟩
set_option maxRecDepth 100000 in
theorem ok_hs_leastFree : mOK 19 := ⟨rfl, by decide +kernel⟩
set_option maxRecDepth 100000 in
theorem ok_hs_giveStrong : mOK 20 := ⟨rfl, by decide +kernel⟩
set_option maxRecDepth 100000 in
theorem ok_hs_loseStrong : mOK 21 := ⟨rfl, by decide +kernel⟩
set_option maxRecDepth 100000 in
theorem ok_hs_addTo : mOK 22 := ⟨rfl, by decide +kernel⟩
set_option maxRecDepth 100000 in
theorem ok_hs_takeFrom : mOK 23 := ⟨rfl, by decide +kernel⟩
set_option maxRecDepth 100000 in
theorem ok_hs_empty : mOK 24 := ⟨rfl, by decide +kernel⟩
set_option maxRecDepth 100000 in
theorem ok_ar_init : mOK 25 := ⟨rfl, by decide +kernel⟩
set_option maxRecDepth 100000 in
theorem ok_ar_bestGap : mOK 26 := ⟨rfl, by decide +kernel⟩
set_option maxRecDepth 100000 in
theorem ok_ar_put : mOK 27 := ⟨rfl, by decide +kernel⟩
set_option maxRecDepth 100000 in
theorem ok_ar_takenAt : mOK 28 := ⟨rfl, by decide +kernel⟩
set_option maxRecDepth 100000 in
theorem ok_ar_remove : mOK 29 := ⟨rfl, by decide +kernel⟩
set_option maxRecDepth 100000 in
theorem ok_ar_empty : mOK 30 := ⟨rfl, by decide +kernel⟩
set_option maxRecDepth 100000 in
theorem ok_pr_init : mOK 31 := ⟨rfl, by decide +kernel⟩
set_option maxRecDepth 100000 in
theorem ok_pr_nodeAt : mOK 32 := ⟨rfl, by decide +kernel⟩
set_option maxRecDepth 100000 in
theorem ok_pr_owns : mOK 33 := ⟨rfl, by decide +kernel⟩
set_option maxRecDepth 100000 in
theorem ok_pr_endNodes : mOK 34 := ⟨rfl, by decide +kernel⟩
set_option maxRecDepth 100000 in
theorem ok_pr_hasCallOf : mOK 35 := ⟨rfl, by decide +kernel⟩
set_option maxRecDepth 100000 in
theorem ok_pr_hasRoomFor : mOK 36 := ⟨rfl, by decide +kernel⟩
set_option maxRecDepth 100000 in
theorem ok_pr_countNewHandles : mOK 37 := ⟨rfl, by decide +kernel⟩
set_option maxRecDepth 100000 in
theorem ok_pr_receiveItems : mOK 38 := ⟨rfl, by decide +kernel⟩
set_option maxRecDepth 100000 in
theorem ok_pr_deliver : mOK 39 := ⟨rfl, by decide +kernel⟩
set_option maxRecDepth 100000 in
theorem ok_pr_startNextOneWay : mOK 40 := ⟨rfl, by decide +kernel⟩
set_option maxRecDepth 100000 in
theorem ok_pr_accept : mOK 41 := ⟨rfl, by decide +kernel⟩
set_option maxRecDepth 100000 in
theorem ok_pr_hasRoomForWatch : mOK 42 := ⟨rfl, by decide +kernel⟩
set_option maxRecDepth 100000 in
theorem ok_pr_watchNode : mOK 43 := ⟨rfl, by decide +kernel⟩
set_option maxRecDepth 100000 in
theorem ok_pr_endWatchesOfTheDead : mOK 44 := ⟨rfl, by decide +kernel⟩
set_option maxRecDepth 100000 in
theorem ok_pr_empty : mOK 45 := ⟨rfl, by decide +kernel⟩
set_option maxRecDepth 100000 in
theorem ok_od_init : mOK 46 := ⟨rfl, by decide +kernel⟩
set_option maxRecDepth 100000 in
theorem ok_od_born : mOK 47 := ⟨rfl, by decide +kernel⟩
set_option maxRecDepth 100000 in
theorem ok_od_die : mOK 48 := ⟨rfl, by decide +kernel⟩
set_option maxRecDepth 100000 in
theorem ok_od_serve : mOK 49 := ⟨rfl, by decide +kernel⟩
set_option maxRecDepth 100000 in
theorem ok_od_manage : mOK 50 := ⟨rfl, by decide +kernel⟩
set_option maxRecDepth 100000 in
theorem ok_od_item : mOK 51 := ⟨rfl, by decide +kernel⟩
set_option maxRecDepth 100000 in
theorem ok_od_draft : mOK 52 := ⟨rfl, by decide +kernel⟩
set_option maxRecDepth 100000 in
theorem ok_od_send : mOK 53 := ⟨rfl, by decide +kernel⟩
set_option maxRecDepth 100000 in
theorem ok_od_take : mOK 54 := ⟨rfl, by decide +kernel⟩
set_option maxRecDepth 100000 in
theorem ok_od_latest : mOK 55 := ⟨rfl, by decide +kernel⟩
set_option maxRecDepth 100000 in
theorem ok_od_reply : mOK 56 := ⟨rfl, by decide +kernel⟩
set_option maxRecDepth 100000 in
theorem ok_od_free : mOK 57 := ⟨rfl, by decide +kernel⟩
set_option maxRecDepth 100000 in
theorem ok_od_read : mOK 58 := ⟨rfl, by decide +kernel⟩
set_option maxRecDepth 100000 in
theorem ok_od_hold : mOK 59 := ⟨rfl, by decide +kernel⟩
set_option maxRecDepth 100000 in
theorem ok_od_drop : mOK 60 := ⟨rfl, by decide +kernel⟩
set_option maxRecDepth 100000 in
theorem ok_od_watch : mOK 61 := ⟨rfl, by decide +kernel⟩
set_option maxRecDepth 100000 in
theorem ok_od_count : mOK 62 := ⟨rfl, by decide +kernel⟩
set_option maxRecDepth 100000 in
theorem ok_od_handle : mOK 63 := ⟨rfl, by decide +kernel⟩
set_option maxRecDepth 100000 in
theorem ok_od_existing : mOK 64 := ⟨rfl, by decide +kernel⟩
set_option maxRecDepth 100000 in
theorem ok_od_living : mOK 65 := ⟨rfl, by decide +kernel⟩
set_option maxRecDepth 100000 in
theorem ok_od_strongNode : mOK 66 := ⟨rfl, by decide +kernel⟩
set_option maxRecDepth 100000 in
theorem ok_od_post : mOK 67 := ⟨rfl, by decide +kernel⟩
set_option maxRecDepth 100000 in
theorem ok_od_findNodes : mOK 68 := ⟨rfl, by decide +kernel⟩
set_option maxRecDepth 100000 in
theorem ok_od_findNode : mOK 69 := ⟨rfl, by decide +kernel⟩
set_option maxRecDepth 100000 in
theorem ok_mo_init : mOK 70 := ⟨rfl, by decide +kernel⟩
set_option maxRecDepth 100000 in
theorem ok_mo_thrown : mOK 71 := ⟨rfl, by decide +kernel⟩
set_option maxRecDepth 100000 in
theorem ok_mo_absent : mOK 72 := ⟨rfl, by decide +kernel⟩
set_option maxRecDepth 100000 in
theorem ok_mo_node : mOK 73 := ⟨rfl, by decide +kernel⟩
set_option maxRecDepth 100000 in
theorem ok_mo_processOf : mOK 74 := ⟨rfl, by decide +kernel⟩
set_option maxRecDepth 100000 in
theorem ok_mo_isDead : mOK 75 := ⟨rfl, by decide +kernel⟩
set_option maxRecDepth 100000 in
theorem ok_mo_isKey : mOK 76 := ⟨rfl, by decide +kernel⟩
set_option maxRecDepth 100000 in
theorem ok_mo_hasNode : mOK 77 := ⟨rfl, by decide +kernel⟩
set_option maxRecDepth 100000 in
theorem ok_mo_born : mOK 78 := ⟨rfl, by decide +kernel⟩
set_option maxRecDepth 100000 in
theorem ok_mo_comes : mOK 79 := ⟨rfl, by decide +kernel⟩
set_option maxRecDepth 100000 in
theorem ok_mo_waitsFor : mOK 80 := ⟨rfl, by decide +kernel⟩
set_option maxRecDepth 100000 in
theorem ok_mo_tell : mOK 81 := ⟨rfl, by decide +kernel⟩
set_option maxRecDepth 100000 in
theorem ok_mo_die : mOK 82 := ⟨rfl, by decide +kernel⟩
set_option maxRecDepth 100000 in
theorem ok_mo_serve : mOK 83 := ⟨rfl, by decide +kernel⟩
set_option maxRecDepth 100000 in
theorem ok_mo_manage : mOK 84 := ⟨rfl, by decide +kernel⟩
set_option maxRecDepth 100000 in
theorem ok_mo_item : mOK 85 := ⟨rfl, by decide +kernel⟩
set_option maxRecDepth 100000 in
theorem ok_mo_draft : mOK 86 := ⟨rfl, by decide +kernel⟩
set_option maxRecDepth 100000 in
theorem ok_mo_hasHandle : mOK 87 := ⟨rfl, by decide +kernel⟩
set_option maxRecDepth 100000 in
theorem ok_mo_handles : mOK 88 := ⟨rfl, by decide +kernel⟩
set_option maxRecDepth 100000 in
theorem ok_mo_handleFor : mOK 89 := ⟨rfl, by decide +kernel⟩
set_option maxRecDepth 100000 in
theorem ok_mo_itemNode : mOK 90 := ⟨rfl, by decide +kernel⟩
set_option maxRecDepth 100000 in
theorem ok_mo_isBad : mOK 91 := ⟨rfl, by decide +kernel⟩
set_option maxRecDepth 100000 in
theorem ok_mo_cells : mOK 92 := ⟨rfl, by decide +kernel⟩
set_option maxRecDepth 100000 in
theorem ok_mo_nextBuffer : mOK 93 := ⟨rfl, by decide +kernel⟩
set_option maxRecDepth 100000 in
theorem ok_mo_behindBuffer : mOK 94 := ⟨rfl, by decide +kernel⟩
set_option maxRecDepth 100000 in
theorem ok_mo_gap : mOK 95 := ⟨rfl, by decide +kernel⟩
set_option maxRecDepth 100000 in
theorem ok_mo_handlesMore : mOK 96 := ⟨rfl, by decide +kernel⟩
set_option maxRecDepth 100000 in
theorem ok_mo_freeRow : mOK 97 := ⟨rfl, by decide +kernel⟩
set_option maxRecDepth 100000 in
theorem ok_mo_isFull : mOK 98 := ⟨rfl, by decide +kernel⟩
set_option maxRecDepth 100000 in
theorem ok_mo_newHandle : mOK 99 := ⟨rfl, by decide +kernel⟩
set_option maxRecDepth 100000 in
theorem ok_mo_moves : mOK 100 := ⟨rfl, by decide +kernel⟩
set_option maxRecDepth 100000 in
theorem ok_mo_target : mOK 101 := ⟨rfl, by decide +kernel⟩
set_option maxRecDepth 100000 in
theorem ok_mo_isBusy : mOK 102 := ⟨rfl, by decide +kernel⟩
set_option maxRecDepth 100000 in
theorem ok_mo_send : mOK 103 := ⟨rfl, by decide +kernel⟩
set_option maxRecDepth 100000 in
theorem ok_mo_take : mOK 104 := ⟨rfl, by decide +kernel⟩
set_option maxRecDepth 100000 in
theorem ok_mo_latest : mOK 105 := ⟨rfl, by decide +kernel⟩
set_option maxRecDepth 100000 in
theorem ok_mo_reply : mOK 106 := ⟨rfl, by decide +kernel⟩
set_option maxRecDepth 100000 in
theorem ok_mo_taken : mOK 107 := ⟨rfl, by decide +kernel⟩
set_option maxRecDepth 100000 in
theorem ok_mo_free : mOK 108 := ⟨rfl, by decide +kernel⟩
set_option maxRecDepth 100000 in
theorem ok_mo_read : mOK 109 := ⟨rfl, by decide +kernel⟩
set_option maxRecDepth 100000 in
theorem ok_mo_hold : mOK 110 := ⟨rfl, by decide +kernel⟩
set_option maxRecDepth 100000 in
theorem ok_mo_drop : mOK 111 := ⟨rfl, by decide +kernel⟩
set_option maxRecDepth 100000 in
theorem ok_mo_watch : mOK 112 := ⟨rfl, by decide +kernel⟩
set_option maxRecDepth 100000 in
theorem ok_mo_count : mOK 113 := ⟨rfl, by decide +kernel⟩
set_option maxRecDepth 100000 in
theorem ok_mo_handle : mOK 114 := ⟨rfl, by decide +kernel⟩
set_option maxRecDepth 100000 in
theorem ok_lw_born : mOK 115 := ⟨rfl, by decide +kernel⟩
set_option maxRecDepth 100000 in
theorem ok_lw_die : mOK 116 := ⟨rfl, by decide +kernel⟩
set_option maxRecDepth 100000 in
theorem ok_lw_serve : mOK 117 := ⟨rfl, by decide +kernel⟩
set_option maxRecDepth 100000 in
theorem ok_lw_manage : mOK 118 := ⟨rfl, by decide +kernel⟩
set_option maxRecDepth 100000 in
theorem ok_lw_item : mOK 119 := ⟨rfl, by decide +kernel⟩
set_option maxRecDepth 100000 in
theorem ok_lw_draft : mOK 120 := ⟨rfl, by decide +kernel⟩
set_option maxRecDepth 100000 in
theorem ok_lw_send : mOK 121 := ⟨rfl, by decide +kernel⟩
set_option maxRecDepth 100000 in
theorem ok_lw_take : mOK 122 := ⟨rfl, by decide +kernel⟩
set_option maxRecDepth 100000 in
theorem ok_lw_latest : mOK 123 := ⟨rfl, by decide +kernel⟩
set_option maxRecDepth 100000 in
theorem ok_lw_reply : mOK 124 := ⟨rfl, by decide +kernel⟩
set_option maxRecDepth 100000 in
theorem ok_lw_free : mOK 125 := ⟨rfl, by decide +kernel⟩
set_option maxRecDepth 100000 in
theorem ok_lw_read : mOK 126 := ⟨rfl, by decide +kernel⟩
set_option maxRecDepth 100000 in
theorem ok_lw_hold : mOK 127 := ⟨rfl, by decide +kernel⟩
set_option maxRecDepth 100000 in
theorem ok_lw_drop : mOK 128 := ⟨rfl, by decide +kernel⟩
set_option maxRecDepth 100000 in
theorem ok_lw_watch : mOK 129 := ⟨rfl, by decide +kernel⟩
set_option maxRecDepth 100000 in
theorem ok_lw_count : mOK 130 := ⟨rfl, by decide +kernel⟩
set_option maxRecDepth 100000 in
theorem ok_lw_handle : mOK 131 := ⟨rfl, by decide +kernel⟩
set_option maxRecDepth 100000 in
theorem ok_al_init : mOK 200 := ⟨rfl, by decide +kernel⟩
set_option maxRecDepth 100000 in
theorem ok_al_size : mOK 201 := ⟨rfl, by decide +kernel⟩
set_option maxRecDepth 100000 in
theorem ok_al_isEmpty : mOK 202 := ⟨rfl, by decide +kernel⟩
set_option maxRecDepth 100000 in
theorem ok_al_get : mOK 203 := ⟨rfl, by decide +kernel⟩
set_option maxRecDepth 100000 in
theorem ok_al_add : mOK 204 := ⟨rfl, by decide +kernel⟩
set_option maxRecDepth 100000 in
theorem ok_al_remove : mOK 205 := ⟨rfl, by decide +kernel⟩
set_option maxRecDepth 100000 in
theorem ok_al_clear : mOK 206 := ⟨rfl, by decide +kernel⟩
set_option maxRecDepth 100000 in
theorem ok_ab_init : mOK 209 := ⟨rfl, by decide +kernel⟩
set_option maxRecDepth 100000 in
theorem ok_ac_init : mOK 210 := ⟨rfl, by decide +kernel⟩
set_option maxRecDepth 100000 in
theorem ok_ob_checkIndex : mOK 211 := ⟨rfl, by decide +kernel⟩
set_option maxRecDepth 100000 in
theorem ok_pc_checkIndex : mOK 212 := ⟨rfl, by decide +kernel⟩
set_option maxRecDepth 100000 in
theorem ok_al_elementData : mOK 213 := ⟨rfl, by decide +kernel⟩
set_option maxRecDepth 100000 in
theorem ok_al_add3 : mOK 214 := ⟨rfl, by decide +kernel⟩
set_option maxRecDepth 100000 in
theorem ok_al_grow0 : mOK 215 := ⟨rfl, by decide +kernel⟩
set_option maxRecDepth 100000 in
theorem ok_al_grow : mOK 216 := ⟨rfl, by decide +kernel⟩
set_option maxRecDepth 100000 in
theorem ok_as_newLength : mOK 217 := ⟨rfl, by decide +kernel⟩
set_option maxRecDepth 100000 in
theorem ok_ay_copyOf : mOK 218 := ⟨rfl, by decide +kernel⟩
set_option maxRecDepth 100000 in
theorem ok_ay_copyOf3 : mOK 219 := ⟨rfl, by decide +kernel⟩
set_option maxRecDepth 100000 in
theorem ok_mt_min : mOK 220 := ⟨rfl, by decide +kernel⟩
set_option maxRecDepth 100000 in
theorem ok_al_fastRemove : mOK 221 := ⟨rfl, by decide +kernel⟩
