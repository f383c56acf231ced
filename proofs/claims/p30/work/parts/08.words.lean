theorem ingX0 : ∀ w ∈ wsX00, w ∈ lwg := fun w h => lwg_of ((by decide +kernel : ∀ w ∈ wsX00, w ∈ lw_tbl) w h) ((by decide +kernel : ∀ w ∈ wsX00, goodWord w = true) w h)
theorem ingX1 : ∀ w ∈ wsX10, w ∈ lwg := fun w h => lwg_of ((by decide +kernel : ∀ w ∈ wsX10, w ∈ lw_tbl) w h) ((by decide +kernel : ∀ w ∈ wsX10, goodWord w = true) w h)
theorem ingX2 : ∀ w ∈ wsX20, w ∈ lwg := fun w h => lwg_of ((by decide +kernel : ∀ w ∈ wsX20, w ∈ lw_tbl) w h) ((by decide +kernel : ∀ w ∈ wsX20, goodWord w = true) w h)
theorem ingX3 : ∀ w ∈ wsX30, w ∈ lwg := fun w h => lwg_of ((by decide +kernel : ∀ w ∈ wsX30, w ∈ lw_tbl) w h) ((by decide +kernel : ∀ w ∈ wsX30, goodWord w = true) w h)
theorem ingX4 : ∀ w ∈ wsX40, w ∈ lwg := fun w h => lwg_of ((by decide +kernel : ∀ w ∈ wsX40, w ∈ lw_tbl) w h) ((by decide +kernel : ∀ w ∈ wsX40, goodWord w = true) w h)
set_option maxRecDepth 100000 in
theorem ini_L : Cond.initialized RL ∈ lwg := lwg_of (List.mem_of_getElem? (i := 7) rfl) rfl
set_option maxRecDepth 100000 in
theorem ini_X4 : Cond.initialized RX4 ∈ lwg := lwg_of (List.mem_of_getElem? (i := 8) rfl) rfl
set_option maxRecDepth 100000 in
theorem ini_X3 : Cond.initialized RX3 ∈ lwg := lwg_of (List.mem_of_getElem? (i := 9) rfl) rfl
set_option maxRecDepth 100000 in
theorem ini_X0 : Cond.initialized RX0 ∈ lwg := lwg_of (List.mem_of_getElem? (i := 10) rfl) rfl
set_option maxRecDepth 100000 in
theorem ini_J7 : Cond.initialized RJ7 ∈ lwg := lwg_of (List.mem_of_getElem? (i := 11) rfl) rfl
set_option maxRecDepth 100000 in
theorem ini_J9 : Cond.initialized RJ9 ∈ lwg := lwg_of (List.mem_of_getElem? (i := 12) rfl) rfl
set_option maxRecDepth 100000 in
theorem ini_J10 : Cond.initialized RJ10 ∈ lwg := lwg_of (List.mem_of_getElem? (i := 13) rfl) rfl
set_option maxRecDepth 100000 in
theorem ini_X1 : Cond.initialized RX1 ∈ lwg := lwg_of (List.mem_of_getElem? (i := 14) rfl) rfl
set_option maxRecDepth 100000 in
theorem ini_X2 : Cond.initialized RX2 ∈ lwg := lwg_of (List.mem_of_getElem? (i := 15) rfl) rfl
set_option maxRecDepth 100000 in
theorem ini_J6 : Cond.initialized RJ6 ∈ lwg := lwg_of (List.mem_of_getElem? (i := 20) rfl) rfl
set_option maxRecDepth 100000 in
theorem lm_X4_init : LkM yX4_init cX4_init 1 (none) 0 := ⟨lwg_of (List.mem_of_getElem? (i := 27) rfl) rfl, ini_X4, ⟨by decide +kernel, by decide +kernel, by decide +kernel⟩, by decide⟩
set_option maxRecDepth 100000 in
theorem im_X4_init : Cond.instanceMethod yX4_init ∈ lwg := lwg_of (List.mem_of_getElem? (i := 26) rfl) rfl
set_option maxRecDepth 100000 in
theorem lm_X3_init : LkM yX3_init cX3_init 1 (none) 0 := ⟨lwg_of (List.mem_of_getElem? (i := 35) rfl) rfl, ini_X3, ⟨by decide +kernel, by decide +kernel, by decide +kernel⟩, by decide⟩
set_option maxRecDepth 100000 in
theorem im_X3_init : Cond.instanceMethod yX3_init ∈ lwg := lwg_of (List.mem_of_getElem? (i := 34) rfl) rfl
set_option maxRecDepth 100000 in
theorem lm_X0_init : LkM yX0_init cX0_init 1 (none) 0 := ⟨lwg_of (List.mem_of_getElem? (i := 41) rfl) rfl, ini_X0, ⟨by decide +kernel, by decide +kernel, by decide +kernel⟩, by decide⟩
set_option maxRecDepth 100000 in
theorem im_X0_init : Cond.instanceMethod yX0_init ∈ lwg := lwg_of (List.mem_of_getElem? (i := 40) rfl) rfl
set_option maxRecDepth 100000 in
theorem lm_J7_fill_53178 : LkM yJ7_fill_53178 cJ7_fill_53178 4 (none) 2 := ⟨lwg_of (List.mem_of_getElem? (i := 71) rfl) rfl, ini_J7, ⟨by decide +kernel, by decide +kernel, by decide +kernel⟩, by decide⟩
set_option maxRecDepth 100000 in
theorem sm_J7_fill_53178 : Cond.static yJ7_fill_53178 ∈ lwg := lwg_of (List.mem_of_getElem? (i := 70) rfl) rfl
set_option maxRecDepth 100000 in
theorem lm_X4_copyRow : LkM yX4_copyRow cX4_copyRow 2 (none) 2 := ⟨lwg_of (List.mem_of_getElem? (i := 76) rfl) rfl, ini_X4, ⟨by decide +kernel, by decide +kernel, by decide +kernel⟩, by decide⟩
set_option maxRecDepth 100000 in
theorem sm_X4_copyRow : Cond.static yX4_copyRow ∈ lwg := lwg_of (List.mem_of_getElem? (i := 75) rfl) rfl
set_option maxRecDepth 100000 in
theorem lm_J9_min_7cf53 : LkM yJ9_min_7cf53 cJ9_min_7cf53 2 (some .int) 2 := ⟨lwg_of (List.mem_of_getElem? (i := 79) rfl) rfl, ini_J9, ⟨by decide +kernel, by decide +kernel, by decide +kernel⟩, by decide⟩
set_option maxRecDepth 100000 in
theorem sm_J9_min_7cf53 : Cond.static yJ9_min_7cf53 ∈ lwg := lwg_of (List.mem_of_getElem? (i := 78) rfl) rfl
set_option maxRecDepth 100000 in
theorem lm_X1_init : LkM yX1_init cX1_init 2 (none) 0 := ⟨lwg_of (List.mem_of_getElem? (i := 120) rfl) rfl, ini_X1, ⟨by decide +kernel, by decide +kernel, by decide +kernel⟩, by decide⟩
set_option maxRecDepth 100000 in
theorem im_X1_init : Cond.instanceMethod yX1_init ∈ lwg := lwg_of (List.mem_of_getElem? (i := 119) rfl) rfl
set_option maxRecDepth 100000 in
theorem lm_X2_init : LkM yX2_init cX2_init 1 (none) 0 := ⟨lwg_of (List.mem_of_getElem? (i := 137) rfl) rfl, ini_X2, ⟨by decide +kernel, by decide +kernel, by decide +kernel⟩, by decide⟩
set_option maxRecDepth 100000 in
theorem im_X2_init : Cond.instanceMethod yX2_init ∈ lwg := lwg_of (List.mem_of_getElem? (i := 136) rfl) rfl
set_option maxRecDepth 100000 in
theorem lm_X4_keep : LkM yX4_keep cX4_keep 1 (some .int) 0 := ⟨lwg_of (List.mem_of_getElem? (i := 178) rfl) rfl, ini_X4, ⟨by decide +kernel, by decide +kernel, by decide +kernel⟩, by decide⟩
set_option maxRecDepth 100000 in
theorem im_X4_keep : Cond.instanceMethod yX4_keep ∈ lwg := lwg_of (List.mem_of_getElem? (i := 176) rfl) rfl
set_option maxRecDepth 100000 in
theorem se_X4_keep : Cond.selects RX4 yX4_keep yX4_keep ∈ lwg := lwg_of (List.mem_of_getElem? (i := 177) rfl) rfl
set_option maxRecDepth 100000 in
theorem lm_X3_copyFrom : LkM yX3_copyFrom cX3_copyFrom 2 (none) 1 := ⟨lwg_of (List.mem_of_getElem? (i := 182) rfl) rfl, ini_X3, ⟨by decide +kernel, by decide +kernel, by decide +kernel⟩, by decide⟩
set_option maxRecDepth 100000 in
theorem im_X3_copyFrom : Cond.instanceMethod yX3_copyFrom ∈ lwg := lwg_of (List.mem_of_getElem? (i := 180) rfl) rfl
set_option maxRecDepth 100000 in
theorem se_X3_copyFrom : Cond.selects RX3 yX3_copyFrom yX3_copyFrom ∈ lwg := lwg_of (List.mem_of_getElem? (i := 181) rfl) rfl
set_option maxRecDepth 100000 in
theorem lm_X0_copyFrom : LkM yX0_copyFrom cX0_copyFrom 2 (none) 1 := ⟨lwg_of (List.mem_of_getElem? (i := 186) rfl) rfl, ini_X0, ⟨by decide +kernel, by decide +kernel, by decide +kernel⟩, by decide⟩
set_option maxRecDepth 100000 in
theorem im_X0_copyFrom : Cond.instanceMethod yX0_copyFrom ∈ lwg := lwg_of (List.mem_of_getElem? (i := 184) rfl) rfl
set_option maxRecDepth 100000 in
theorem se_X0_copyFrom : Cond.selects RX0 yX0_copyFrom yX0_copyFrom ∈ lwg := lwg_of (List.mem_of_getElem? (i := 185) rfl) rfl
set_option maxRecDepth 100000 in
theorem lm_X4_undo : LkM yX4_undo cX4_undo 1 (some .int) 0 := ⟨lwg_of (List.mem_of_getElem? (i := 191) rfl) rfl, ini_X4, ⟨by decide +kernel, by decide +kernel, by decide +kernel⟩, by decide⟩
set_option maxRecDepth 100000 in
theorem im_X4_undo : Cond.instanceMethod yX4_undo ∈ lwg := lwg_of (List.mem_of_getElem? (i := 189) rfl) rfl
set_option maxRecDepth 100000 in
theorem se_X4_undo : Cond.selects RX4 yX4_undo yX4_undo ∈ lwg := lwg_of (List.mem_of_getElem? (i := 190) rfl) rfl
set_option maxRecDepth 100000 in
theorem lm_X1_restore : LkM yX1_restore cX1_restore 2 (none) 1 := ⟨lwg_of (List.mem_of_getElem? (i := 263) rfl) rfl, ini_X1, ⟨by decide +kernel, by decide +kernel, by decide +kernel⟩, by decide⟩
set_option maxRecDepth 100000 in
theorem im_X1_restore : Cond.instanceMethod yX1_restore ∈ lwg := lwg_of (List.mem_of_getElem? (i := 261) rfl) rfl
set_option maxRecDepth 100000 in
theorem se_X1_restore : Cond.selects RX1 yX1_restore yX1_restore ∈ lwg := lwg_of (List.mem_of_getElem? (i := 262) rfl) rfl
set_option maxRecDepth 100000 in
theorem lm_X4_count : LkM yX4_count cX4_count 2 (some .int) 1 := ⟨lwg_of (List.mem_of_getElem? (i := 268) rfl) rfl, ini_X4, ⟨by decide +kernel, by decide +kernel, by decide +kernel⟩, by decide⟩
set_option maxRecDepth 100000 in
theorem im_X4_count : Cond.instanceMethod yX4_count ∈ lwg := lwg_of (List.mem_of_getElem? (i := 266) rfl) rfl
set_option maxRecDepth 100000 in
theorem se_X4_count : Cond.selects RX4 yX4_count yX4_count ∈ lwg := lwg_of (List.mem_of_getElem? (i := 267) rfl) rfl
set_option maxRecDepth 100000 in
theorem lm_X3_breaks : LkM yX3_breaks cX3_breaks 5 (some .int) 0 := ⟨lwg_of (List.mem_of_getElem? (i := 288) rfl) rfl, ini_X3, ⟨by decide +kernel, by decide +kernel, by decide +kernel⟩, by decide⟩
set_option maxRecDepth 100000 in
theorem im_X3_breaks : Cond.instanceMethod yX3_breaks ∈ lwg := lwg_of (List.mem_of_getElem? (i := 286) rfl) rfl
set_option maxRecDepth 100000 in
theorem se_X3_breaks : Cond.selects RX3 yX3_breaks yX3_breaks ∈ lwg := lwg_of (List.mem_of_getElem? (i := 287) rfl) rfl
set_option maxRecDepth 100000 in
theorem lm_X3_stepOfMark : LkM yX3_stepOfMark cX3_stepOfMark 3 (some .int) 1 := ⟨lwg_of (List.mem_of_getElem? (i := 292) rfl) rfl, ini_X3, ⟨by decide +kernel, by decide +kernel, by decide +kernel⟩, by decide⟩
set_option maxRecDepth 100000 in
theorem im_X3_stepOfMark : Cond.instanceMethod yX3_stepOfMark ∈ lwg := lwg_of (List.mem_of_getElem? (i := 290) rfl) rfl
set_option maxRecDepth 100000 in
theorem se_X3_stepOfMark : Cond.selects RX3 yX3_stepOfMark yX3_stepOfMark ∈ lwg := lwg_of (List.mem_of_getElem? (i := 291) rfl) rfl
set_option maxRecDepth 100000 in
theorem lm_X4_at : LkM yX4_at cX4_at 2 (some .int) 2 := ⟨lwg_of (List.mem_of_getElem? (i := 295) rfl) rfl, ini_X4, ⟨by decide +kernel, by decide +kernel, by decide +kernel⟩, by decide⟩
set_option maxRecDepth 100000 in
theorem sm_X4_at : Cond.static yX4_at ∈ lwg := lwg_of (List.mem_of_getElem? (i := 294) rfl) rfl
set_option maxRecDepth 100000 in
theorem lm_X3_stepOfNumber : LkM yX3_stepOfNumber cX3_stepOfNumber 3 (some .int) 1 := ⟨lwg_of (List.mem_of_getElem? (i := 299) rfl) rfl, ini_X3, ⟨by decide +kernel, by decide +kernel, by decide +kernel⟩, by decide⟩
set_option maxRecDepth 100000 in
theorem im_X3_stepOfNumber : Cond.instanceMethod yX3_stepOfNumber ∈ lwg := lwg_of (List.mem_of_getElem? (i := 297) rfl) rfl
set_option maxRecDepth 100000 in
theorem se_X3_stepOfNumber : Cond.selects RX3 yX3_stepOfNumber yX3_stepOfNumber ∈ lwg := lwg_of (List.mem_of_getElem? (i := 298) rfl) rfl
set_option maxRecDepth 100000 in
theorem lm_X3_fault : LkM yX3_fault cX3_fault 1 (some .int) 0 := ⟨lwg_of (List.mem_of_getElem? (i := 303) rfl) rfl, ini_X3, ⟨by decide +kernel, by decide +kernel, by decide +kernel⟩, by decide⟩
set_option maxRecDepth 100000 in
theorem im_X3_fault : Cond.instanceMethod yX3_fault ∈ lwg := lwg_of (List.mem_of_getElem? (i := 301) rfl) rfl
set_option maxRecDepth 100000 in
theorem se_X3_fault : Cond.selects RX3 yX3_fault yX3_fault ∈ lwg := lwg_of (List.mem_of_getElem? (i := 302) rfl) rfl
set_option maxRecDepth 100000 in
theorem lm_X0_firstTurned : LkM yX0_firstTurned cX0_firstTurned 2 (some .int) 0 := ⟨lwg_of (List.mem_of_getElem? (i := 307) rfl) rfl, ini_X0, ⟨by decide +kernel, by decide +kernel, by decide +kernel⟩, by decide⟩
set_option maxRecDepth 100000 in
theorem im_X0_firstTurned : Cond.instanceMethod yX0_firstTurned ∈ lwg := lwg_of (List.mem_of_getElem? (i := 305) rfl) rfl
set_option maxRecDepth 100000 in
theorem se_X0_firstTurned : Cond.selects RX0 yX0_firstTurned yX0_firstTurned ∈ lwg := lwg_of (List.mem_of_getElem? (i := 306) rfl) rfl
set_option maxRecDepth 100000 in
theorem lm_X3_bookSheets : LkM yX3_bookSheets cX3_bookSheets 1 (some .int) 0 := ⟨lwg_of (List.mem_of_getElem? (i := 312) rfl) rfl, ini_X3, ⟨by decide +kernel, by decide +kernel, by decide +kernel⟩, by decide⟩
set_option maxRecDepth 100000 in
theorem im_X3_bookSheets : Cond.instanceMethod yX3_bookSheets ∈ lwg := lwg_of (List.mem_of_getElem? (i := 310) rfl) rfl
set_option maxRecDepth 100000 in
theorem se_X3_bookSheets : Cond.selects RX3 yX3_bookSheets yX3_bookSheets ∈ lwg := lwg_of (List.mem_of_getElem? (i := 311) rfl) rfl
set_option maxRecDepth 100000 in
theorem lm_X0_firstNotBelow : LkM yX0_firstNotBelow cX0_firstNotBelow 3 (some .int) 1 := ⟨lwg_of (List.mem_of_getElem? (i := 316) rfl) rfl, ini_X0, ⟨by decide +kernel, by decide +kernel, by decide +kernel⟩, by decide⟩
set_option maxRecDepth 100000 in
theorem im_X0_firstNotBelow : Cond.instanceMethod yX0_firstNotBelow ∈ lwg := lwg_of (List.mem_of_getElem? (i := 314) rfl) rfl
set_option maxRecDepth 100000 in
theorem se_X0_firstNotBelow : Cond.selects RX0 yX0_firstNotBelow yX0_firstNotBelow ∈ lwg := lwg_of (List.mem_of_getElem? (i := 315) rfl) rfl
set_option maxRecDepth 100000 in
theorem lm_X0_firstDouble : LkM yX0_firstDouble cX0_firstDouble 3 (some .int) 0 := ⟨lwg_of (List.mem_of_getElem? (i := 320) rfl) rfl, ini_X0, ⟨by decide +kernel, by decide +kernel, by decide +kernel⟩, by decide⟩
set_option maxRecDepth 100000 in
theorem im_X0_firstDouble : Cond.instanceMethod yX0_firstDouble ∈ lwg := lwg_of (List.mem_of_getElem? (i := 318) rfl) rfl
set_option maxRecDepth 100000 in
theorem se_X0_firstDouble : Cond.selects RX0 yX0_firstDouble yX0_firstDouble ∈ lwg := lwg_of (List.mem_of_getElem? (i := 319) rfl) rfl
set_option maxRecDepth 100000 in
theorem lm_X3_lowestMissing : LkM yX3_lowestMissing cX3_lowestMissing 2 (some .int) 0 := ⟨lwg_of (List.mem_of_getElem? (i := 324) rfl) rfl, ini_X3, ⟨by decide +kernel, by decide +kernel, by decide +kernel⟩, by decide⟩
set_option maxRecDepth 100000 in
theorem im_X3_lowestMissing : Cond.instanceMethod yX3_lowestMissing ∈ lwg := lwg_of (List.mem_of_getElem? (i := 322) rfl) rfl
set_option maxRecDepth 100000 in
theorem se_X3_lowestMissing : Cond.selects RX3 yX3_lowestMissing yX3_lowestMissing ∈ lwg := lwg_of (List.mem_of_getElem? (i := 323) rfl) rfl
set_option maxRecDepth 100000 in
theorem lm_X0_copiesOf : LkM yX0_copiesOf cX0_copiesOf 4 (some .int) 1 := ⟨lwg_of (List.mem_of_getElem? (i := 328) rfl) rfl, ini_X0, ⟨by decide +kernel, by decide +kernel, by decide +kernel⟩, by decide⟩
set_option maxRecDepth 100000 in
theorem im_X0_copiesOf : Cond.instanceMethod yX0_copiesOf ∈ lwg := lwg_of (List.mem_of_getElem? (i := 326) rfl) rfl
set_option maxRecDepth 100000 in
theorem se_X0_copiesOf : Cond.selects RX0 yX0_copiesOf yX0_copiesOf ∈ lwg := lwg_of (List.mem_of_getElem? (i := 327) rfl) rfl
set_option maxRecDepth 100000 in
theorem lm_X0_firstFall : LkM yX0_firstFall cX0_firstFall 2 (some .int) 0 := ⟨lwg_of (List.mem_of_getElem? (i := 332) rfl) rfl, ini_X0, ⟨by decide +kernel, by decide +kernel, by decide +kernel⟩, by decide⟩
set_option maxRecDepth 100000 in
theorem im_X0_firstFall : Cond.instanceMethod yX0_firstFall ∈ lwg := lwg_of (List.mem_of_getElem? (i := 330) rfl) rfl
set_option maxRecDepth 100000 in
theorem se_X0_firstFall : Cond.selects RX0 yX0_firstFall yX0_firstFall ∈ lwg := lwg_of (List.mem_of_getElem? (i := 331) rfl) rfl
set_option maxRecDepth 100000 in
theorem lm_X3_placeOfFault : LkM yX3_placeOfFault cX3_placeOfFault 1 (some .int) 0 := ⟨lwg_of (List.mem_of_getElem? (i := 336) rfl) rfl, ini_X3, ⟨by decide +kernel, by decide +kernel, by decide +kernel⟩, by decide⟩
set_option maxRecDepth 100000 in
theorem im_X3_placeOfFault : Cond.instanceMethod yX3_placeOfFault ∈ lwg := lwg_of (List.mem_of_getElem? (i := 334) rfl) rfl
set_option maxRecDepth 100000 in
theorem se_X3_placeOfFault : Cond.selects RX3 yX3_placeOfFault yX3_placeOfFault ∈ lwg := lwg_of (List.mem_of_getElem? (i := 335) rfl) rfl
set_option maxRecDepth 100000 in
theorem lm_X0_fewestMovesBySheets : LkM yX0_fewestMovesBySheets cX0_fewestMovesBySheets 1 (some .int) 0 := ⟨lwg_of (List.mem_of_getElem? (i := 342) rfl) rfl, ini_X0, ⟨by decide +kernel, by decide +kernel, by decide +kernel⟩, by decide⟩
set_option maxRecDepth 100000 in
theorem im_X0_fewestMovesBySheets : Cond.instanceMethod yX0_fewestMovesBySheets ∈ lwg := lwg_of (List.mem_of_getElem? (i := 340) rfl) rfl
set_option maxRecDepth 100000 in
theorem se_X0_fewestMovesBySheets : Cond.selects RX0 yX0_fewestMovesBySheets yX0_fewestMovesBySheets ∈ lwg := lwg_of (List.mem_of_getElem? (i := 341) rfl) rfl
set_option maxRecDepth 100000 in
theorem lm_X0_longestRowBySheets : LkM yX0_longestRowBySheets cX0_longestRowBySheets 3 (some .int) 0 := ⟨lwg_of (List.mem_of_getElem? (i := 346) rfl) rfl, ini_X0, ⟨by decide +kernel, by decide +kernel, by decide +kernel⟩, by decide⟩
set_option maxRecDepth 100000 in
theorem im_X0_longestRowBySheets : Cond.instanceMethod yX0_longestRowBySheets ∈ lwg := lwg_of (List.mem_of_getElem? (i := 344) rfl) rfl
set_option maxRecDepth 100000 in
theorem se_X0_longestRowBySheets : Cond.selects RX0 yX0_longestRowBySheets yX0_longestRowBySheets ∈ lwg := lwg_of (List.mem_of_getElem? (i := 345) rfl) rfl
set_option maxRecDepth 100000 in
theorem lm_X0_findLongestEnding : LkM yX0_findLongestEnding cX0_findLongestEnding 2 (none) 0 := ⟨lwg_of (List.mem_of_getElem? (i := 350) rfl) rfl, ini_X0, ⟨by decide +kernel, by decide +kernel, by decide +kernel⟩, by decide⟩
set_option maxRecDepth 100000 in
theorem im_X0_findLongestEnding : Cond.instanceMethod yX0_findLongestEnding ∈ lwg := lwg_of (List.mem_of_getElem? (i := 349) rfl) rfl
set_option maxRecDepth 100000 in
theorem se_X0_findLongestEnding : Cond.selects RX0 yX0_findLongestEnding yX0_findLongestEnding ∈ lwg := lwg_of (List.mem_of_getElem? (i := 1) rfl) rfl
set_option maxRecDepth 100000 in
theorem lm_X0_longestAhead : LkM yX0_longestAhead cX0_longestAhead 5 (some .int) 2 := ⟨lwg_of (List.mem_of_getElem? (i := 354) rfl) rfl, ini_X0, ⟨by decide +kernel, by decide +kernel, by decide +kernel⟩, by decide⟩
set_option maxRecDepth 100000 in
theorem im_X0_longestAhead : Cond.instanceMethod yX0_longestAhead ∈ lwg := lwg_of (List.mem_of_getElem? (i := 353) rfl) rfl
set_option maxRecDepth 100000 in
theorem se_X0_longestAhead : Cond.selects RX0 yX0_longestAhead yX0_longestAhead ∈ lwg := lwg_of (List.mem_of_getElem? (i := 2) rfl) rfl
set_option maxRecDepth 100000 in
theorem lm_J9_max_7cf53 : LkM yJ9_max_7cf53 cJ9_max_7cf53 2 (some .int) 2 := ⟨lwg_of (List.mem_of_getElem? (i := 357) rfl) rfl, ini_J9, ⟨by decide +kernel, by decide +kernel, by decide +kernel⟩, by decide⟩
set_option maxRecDepth 100000 in
theorem sm_J9_max_7cf53 : Cond.static yJ9_max_7cf53 ∈ lwg := lwg_of (List.mem_of_getElem? (i := 356) rfl) rfl
set_option maxRecDepth 100000 in
theorem lm_X4_put : LkM yX4_put cX4_put 3 (none) 3 := ⟨lwg_of (List.mem_of_getElem? (i := 360) rfl) rfl, ini_X4, ⟨by decide +kernel, by decide +kernel, by decide +kernel⟩, by decide⟩
set_option maxRecDepth 100000 in
theorem sm_X4_put : Cond.static yX4_put ∈ lwg := lwg_of (List.mem_of_getElem? (i := 359) rfl) rfl
set_option maxRecDepth 100000 in
theorem lm_X0_fewestMovesByPiles : LkM yX0_fewestMovesByPiles cX0_fewestMovesByPiles 1 (some .int) 0 := ⟨lwg_of (List.mem_of_getElem? (i := 364) rfl) rfl, ini_X0, ⟨by decide +kernel, by decide +kernel, by decide +kernel⟩, by decide⟩
set_option maxRecDepth 100000 in
theorem im_X0_fewestMovesByPiles : Cond.instanceMethod yX0_fewestMovesByPiles ∈ lwg := lwg_of (List.mem_of_getElem? (i := 362) rfl) rfl
set_option maxRecDepth 100000 in
theorem se_X0_fewestMovesByPiles : Cond.selects RX0 yX0_fewestMovesByPiles yX0_fewestMovesByPiles ∈ lwg := lwg_of (List.mem_of_getElem? (i := 363) rfl) rfl
set_option maxRecDepth 100000 in
theorem lm_X0_pilesOfSheets : LkM yX0_pilesOfSheets cX0_pilesOfSheets 5 (some .int) 0 := ⟨lwg_of (List.mem_of_getElem? (i := 368) rfl) rfl, ini_X0, ⟨by decide +kernel, by decide +kernel, by decide +kernel⟩, by decide⟩
set_option maxRecDepth 100000 in
theorem im_X0_pilesOfSheets : Cond.instanceMethod yX0_pilesOfSheets ∈ lwg := lwg_of (List.mem_of_getElem? (i := 367) rfl) rfl
set_option maxRecDepth 100000 in
theorem se_X0_pilesOfSheets : Cond.selects RX0 yX0_pilesOfSheets yX0_pilesOfSheets ∈ lwg := lwg_of (List.mem_of_getElem? (i := 3) rfl) rfl
set_option maxRecDepth 100000 in
theorem lm_X0_fallingPairs : LkM yX0_fallingPairs cX0_fallingPairs 3 (some .int) 0 := ⟨lwg_of (List.mem_of_getElem? (i := 372) rfl) rfl, ini_X0, ⟨by decide +kernel, by decide +kernel, by decide +kernel⟩, by decide⟩
set_option maxRecDepth 100000 in
theorem im_X0_fallingPairs : Cond.instanceMethod yX0_fallingPairs ∈ lwg := lwg_of (List.mem_of_getElem? (i := 370) rfl) rfl
set_option maxRecDepth 100000 in
theorem se_X0_fallingPairs : Cond.selects RX0 yX0_fallingPairs yX0_fallingPairs ∈ lwg := lwg_of (List.mem_of_getElem? (i := 371) rfl) rfl
set_option maxRecDepth 100000 in
theorem lm_X0_greaterAheadOf : LkM yX0_greaterAheadOf cX0_greaterAheadOf 4 (some .int) 1 := ⟨lwg_of (List.mem_of_getElem? (i := 376) rfl) rfl, ini_X0, ⟨by decide +kernel, by decide +kernel, by decide +kernel⟩, by decide⟩
set_option maxRecDepth 100000 in
theorem im_X0_greaterAheadOf : Cond.instanceMethod yX0_greaterAheadOf ∈ lwg := lwg_of (List.mem_of_getElem? (i := 374) rfl) rfl
set_option maxRecDepth 100000 in
theorem se_X0_greaterAheadOf : Cond.selects RX0 yX0_greaterAheadOf yX0_greaterAheadOf ∈ lwg := lwg_of (List.mem_of_getElem? (i := 375) rfl) rfl
set_option maxRecDepth 100000 in
theorem lm_X3_stitches : LkM yX3_stitches cX3_stitches 3 (some .int) 0 := ⟨lwg_of (List.mem_of_getElem? (i := 380) rfl) rfl, ini_X3, ⟨by decide +kernel, by decide +kernel, by decide +kernel⟩, by decide⟩
set_option maxRecDepth 100000 in
theorem im_X3_stitches : Cond.instanceMethod yX3_stitches ∈ lwg := lwg_of (List.mem_of_getElem? (i := 378) rfl) rfl
set_option maxRecDepth 100000 in
theorem se_X3_stitches : Cond.selects RX3 yX3_stitches yX3_stitches ∈ lwg := lwg_of (List.mem_of_getElem? (i := 379) rfl) rfl
set_option maxRecDepth 100000 in
theorem lm_X3_stitchesAheadOf : LkM yX3_stitchesAheadOf cX3_stitchesAheadOf 2 (some .int) 1 := ⟨lwg_of (List.mem_of_getElem? (i := 384) rfl) rfl, ini_X3, ⟨by decide +kernel, by decide +kernel, by decide +kernel⟩, by decide⟩
set_option maxRecDepth 100000 in
theorem im_X3_stitchesAheadOf : Cond.instanceMethod yX3_stitchesAheadOf ∈ lwg := lwg_of (List.mem_of_getElem? (i := 382) rfl) rfl
set_option maxRecDepth 100000 in
theorem se_X3_stitchesAheadOf : Cond.selects RX3 yX3_stitchesAheadOf yX3_stitchesAheadOf ∈ lwg := lwg_of (List.mem_of_getElem? (i := 383) rfl) rfl
set_option maxRecDepth 100000 in
theorem lm_X3_holesAt : LkM yX3_holesAt cX3_holesAt 2 (some .int) 1 := ⟨lwg_of (List.mem_of_getElem? (i := 388) rfl) rfl, ini_X3, ⟨by decide +kernel, by decide +kernel, by decide +kernel⟩, by decide⟩
set_option maxRecDepth 100000 in
theorem im_X3_holesAt : Cond.instanceMethod yX3_holesAt ∈ lwg := lwg_of (List.mem_of_getElem? (i := 386) rfl) rfl
set_option maxRecDepth 100000 in
theorem se_X3_holesAt : Cond.selects RX3 yX3_holesAt yX3_holesAt ∈ lwg := lwg_of (List.mem_of_getElem? (i := 387) rfl) rfl
set_option maxRecDepth 100000 in
theorem lm_J6_bitCount_0f7a4 : LkM yJ6_bitCount_0f7a4 cJ6_bitCount_0f7a4 1 (some .int) 1 := ⟨lwg_of (List.mem_of_getElem? (i := 391) rfl) rfl, ini_J6, ⟨by decide +kernel, by decide +kernel, by decide +kernel⟩, by decide⟩
set_option maxRecDepth 100000 in
theorem sm_J6_bitCount_0f7a4 : Cond.static yJ6_bitCount_0f7a4 ∈ lwg := lwg_of (List.mem_of_getElem? (i := 390) rfl) rfl
set_option maxRecDepth 100000 in
theorem lm_X3_threadLength : LkM yX3_threadLength cX3_threadLength 3 (some .int) 0 := ⟨lwg_of (List.mem_of_getElem? (i := 398) rfl) rfl, ini_X3, ⟨by decide +kernel, by decide +kernel, by decide +kernel⟩, by decide⟩
set_option maxRecDepth 100000 in
theorem im_X3_threadLength : Cond.instanceMethod yX3_threadLength ∈ lwg := lwg_of (List.mem_of_getElem? (i := 396) rfl) rfl
set_option maxRecDepth 100000 in
theorem se_X3_threadLength : Cond.selects RX3 yX3_threadLength yX3_threadLength ∈ lwg := lwg_of (List.mem_of_getElem? (i := 397) rfl) rfl
set_option maxRecDepth 100000 in
theorem lm_X3_spanOfHoles : LkM yX3_spanOfHoles cX3_spanOfHoles 3 (some .int) 1 := ⟨lwg_of (List.mem_of_getElem? (i := 402) rfl) rfl, ini_X3, ⟨by decide +kernel, by decide +kernel, by decide +kernel⟩, by decide⟩
set_option maxRecDepth 100000 in
theorem sm_X3_spanOfHoles : Cond.static yX3_spanOfHoles ∈ lwg := lwg_of (List.mem_of_getElem? (i := 401) rfl) rfl
set_option maxRecDepth 100000 in
theorem lm_X3_loosePlaces : LkM yX3_loosePlaces cX3_loosePlaces 3 (some .int) 0 := ⟨lwg_of (List.mem_of_getElem? (i := 407) rfl) rfl, ini_X3, ⟨by decide +kernel, by decide +kernel, by decide +kernel⟩, by decide⟩
set_option maxRecDepth 100000 in
theorem im_X3_loosePlaces : Cond.instanceMethod yX3_loosePlaces ∈ lwg := lwg_of (List.mem_of_getElem? (i := 405) rfl) rfl
set_option maxRecDepth 100000 in
theorem se_X3_loosePlaces : Cond.selects RX3 yX3_loosePlaces yX3_loosePlaces ∈ lwg := lwg_of (List.mem_of_getElem? (i := 406) rfl) rfl
set_option maxRecDepth 100000 in
theorem lm_X3_sheetsInBooks : LkM yX3_sheetsInBooks cX3_sheetsInBooks 3 (some .int) 0 := ⟨lwg_of (List.mem_of_getElem? (i := 411) rfl) rfl, ini_X3, ⟨by decide +kernel, by decide +kernel, by decide +kernel⟩, by decide⟩
set_option maxRecDepth 100000 in
theorem im_X3_sheetsInBooks : Cond.instanceMethod yX3_sheetsInBooks ∈ lwg := lwg_of (List.mem_of_getElem? (i := 409) rfl) rfl
set_option maxRecDepth 100000 in
theorem se_X3_sheetsInBooks : Cond.selects RX3 yX3_sheetsInBooks yX3_sheetsInBooks ∈ lwg := lwg_of (List.mem_of_getElem? (i := 410) rfl) rfl
set_option maxRecDepth 100000 in
theorem lm_L_cell : LkM yL_cell cL_cell 2 (some .int) 2 := ⟨lwg_of (List.mem_of_getElem? (i := 414) rfl) rfl, ini_L, ⟨by decide +kernel, by decide +kernel, by decide +kernel⟩, by decide⟩
set_option maxRecDepth 100000 in
theorem sm_L_cell : Cond.static yL_cell ∈ lwg := lwg_of (List.mem_of_getElem? (i := 413) rfl) rfl
set_option maxRecDepth 100000 in
theorem lm_L_up : LkM yL_up cL_up 2 (some .int) 2 := ⟨lwg_of (List.mem_of_getElem? (i := 418) rfl) rfl, ini_L, ⟨by decide +kernel, by decide +kernel, by decide +kernel⟩, by decide⟩
set_option maxRecDepth 100000 in
theorem sm_L_up : Cond.static yL_up ∈ lwg := lwg_of (List.mem_of_getElem? (i := 417) rfl) rfl
set_option maxRecDepth 100000 in
theorem lm_L_looks : LkM yL_looks cL_looks 4 (some .long) 1 := ⟨lwg_of (List.mem_of_getElem? (i := 422) rfl) rfl, ini_L, ⟨by decide +kernel, by decide +kernel, by decide +kernel⟩, by decide⟩
set_option maxRecDepth 100000 in
theorem sm_L_looks : Cond.static yL_looks ∈ lwg := lwg_of (List.mem_of_getElem? (i := 421) rfl) rfl
set_option maxRecDepth 100000 in
theorem lm_X4_sheet : LkM yX4_sheet cX4_sheet 3 (some .int) 2 := ⟨lwg_of (List.mem_of_getElem? (i := 428) rfl) rfl, ini_X4, ⟨by decide +kernel, by decide +kernel, by decide +kernel⟩, by decide⟩
set_option maxRecDepth 100000 in
theorem im_X4_sheet : Cond.instanceMethod yX4_sheet ∈ lwg := lwg_of (List.mem_of_getElem? (i := 426) rfl) rfl
set_option maxRecDepth 100000 in
theorem se_X4_sheet : Cond.selects RX4 yX4_sheet yX4_sheet ∈ lwg := lwg_of (List.mem_of_getElem? (i := 427) rfl) rfl
set_option maxRecDepth 100000 in
theorem lm_X0_hasPlace : LkM yX0_hasPlace cX0_hasPlace 2 (some .boolean) 1 := ⟨lwg_of (List.mem_of_getElem? (i := 448) rfl) rfl, ini_X0, ⟨by decide +kernel, by decide +kernel, by decide +kernel⟩, by decide⟩
set_option maxRecDepth 100000 in
theorem im_X0_hasPlace : Cond.instanceMethod yX0_hasPlace ∈ lwg := lwg_of (List.mem_of_getElem? (i := 446) rfl) rfl
set_option maxRecDepth 100000 in
theorem se_X0_hasPlace : Cond.selects RX0 yX0_hasPlace yX0_hasPlace ∈ lwg := lwg_of (List.mem_of_getElem? (i := 447) rfl) rfl
set_option maxRecDepth 100000 in
theorem lm_X3_breaksAheadOf : LkM yX3_breaksAheadOf cX3_breaksAheadOf 2 (some .boolean) 1 := ⟨lwg_of (List.mem_of_getElem? (i := 454) rfl) rfl, ini_X3, ⟨by decide +kernel, by decide +kernel, by decide +kernel⟩, by decide⟩
set_option maxRecDepth 100000 in
theorem im_X3_breaksAheadOf : Cond.instanceMethod yX3_breaksAheadOf ∈ lwg := lwg_of (List.mem_of_getElem? (i := 452) rfl) rfl
set_option maxRecDepth 100000 in
theorem se_X3_breaksAheadOf : Cond.selects RX3 yX3_breaksAheadOf yX3_breaksAheadOf ∈ lwg := lwg_of (List.mem_of_getElem? (i := 453) rfl) rfl
set_option maxRecDepth 100000 in
theorem lm_X3_stepDueAt : LkM yX3_stepDueAt cX3_stepDueAt 2 (some .int) 1 := ⟨lwg_of (List.mem_of_getElem? (i := 458) rfl) rfl, ini_X3, ⟨by decide +kernel, by decide +kernel, by decide +kernel⟩, by decide⟩
set_option maxRecDepth 100000 in
theorem im_X3_stepDueAt : Cond.instanceMethod yX3_stepDueAt ∈ lwg := lwg_of (List.mem_of_getElem? (i := 456) rfl) rfl
set_option maxRecDepth 100000 in
theorem se_X3_stepDueAt : Cond.selects RX3 yX3_stepDueAt yX3_stepDueAt ∈ lwg := lwg_of (List.mem_of_getElem? (i := 457) rfl) rfl
set_option maxRecDepth 100000 in
theorem lm_X4_bin : LkM yX4_bin cX4_bin 3 (some .int) 2 := ⟨lwg_of (List.mem_of_getElem? (i := 464) rfl) rfl, ini_X4, ⟨by decide +kernel, by decide +kernel, by decide +kernel⟩, by decide⟩
set_option maxRecDepth 100000 in
theorem im_X4_bin : Cond.instanceMethod yX4_bin ∈ lwg := lwg_of (List.mem_of_getElem? (i := 462) rfl) rfl
set_option maxRecDepth 100000 in
theorem se_X4_bin : Cond.selects RX4 yX4_bin yX4_bin ∈ lwg := lwg_of (List.mem_of_getElem? (i := 463) rfl) rfl
set_option maxRecDepth 100000 in
theorem lm_X4_isBin : LkM yX4_isBin cX4_isBin 1 (some .boolean) 1 := ⟨lwg_of (List.mem_of_getElem? (i := 467) rfl) rfl, ini_X4, ⟨by decide +kernel, by decide +kernel, by decide +kernel⟩, by decide⟩
set_option maxRecDepth 100000 in
theorem sm_X4_isBin : Cond.static yX4_isBin ∈ lwg := lwg_of (List.mem_of_getElem? (i := 466) rfl) rfl
set_option maxRecDepth 100000 in
theorem lm_X4_setting : LkM yX4_setting cX4_setting 2 (some .int) 1 := ⟨lwg_of (List.mem_of_getElem? (i := 473) rfl) rfl, ini_X4, ⟨by decide +kernel, by decide +kernel, by decide +kernel⟩, by decide⟩
set_option maxRecDepth 100000 in
theorem im_X4_setting : Cond.instanceMethod yX4_setting ∈ lwg := lwg_of (List.mem_of_getElem? (i := 471) rfl) rfl
set_option maxRecDepth 100000 in
theorem se_X4_setting : Cond.selects RX4 yX4_setting yX4_setting ∈ lwg := lwg_of (List.mem_of_getElem? (i := 472) rfl) rfl
set_option maxRecDepth 100000 in
theorem lm_X4_isSetting : LkM yX4_isSetting cX4_isSetting 1 (some .boolean) 1 := ⟨lwg_of (List.mem_of_getElem? (i := 476) rfl) rfl, ini_X4, ⟨by decide +kernel, by decide +kernel, by decide +kernel⟩, by decide⟩
set_option maxRecDepth 100000 in
theorem sm_X4_isSetting : Cond.static yX4_isSetting ∈ lwg := lwg_of (List.mem_of_getElem? (i := 475) rfl) rfl
set_option maxRecDepth 100000 in
theorem lm_L_act : LkM yL_act cL_act 8 (some .int) 3 := ⟨lwg_of (List.mem_of_getElem? (i := 480) rfl) rfl, ini_L, ⟨by decide +kernel, by decide +kernel, by decide +kernel⟩, by decide⟩
set_option maxRecDepth 100000 in
theorem sm_L_act : Cond.static yL_act ∈ lwg := lwg_of (List.mem_of_getElem? (i := 479) rfl) rfl
set_option maxRecDepth 100000 in
theorem lm_X4_fits : LkM yX4_fits cX4_fits 3 (some .int) 0 := ⟨lwg_of (List.mem_of_getElem? (i := 484) rfl) rfl, ini_X4, ⟨by decide +kernel, by decide +kernel, by decide +kernel⟩, by decide⟩
set_option maxRecDepth 100000 in
theorem im_X4_fits : Cond.instanceMethod yX4_fits ∈ lwg := lwg_of (List.mem_of_getElem? (i := 482) rfl) rfl
set_option maxRecDepth 100000 in
theorem se_X4_fits : Cond.selects RX4 yX4_fits yX4_fits ∈ lwg := lwg_of (List.mem_of_getElem? (i := 483) rfl) rfl
set_option maxRecDepth 100000 in
theorem lm_X4_set : LkM yX4_set cX4_set 4 (some .int) 2 := ⟨lwg_of (List.mem_of_getElem? (i := 490) rfl) rfl, ini_X4, ⟨by decide +kernel, by decide +kernel, by decide +kernel⟩, by decide⟩
set_option maxRecDepth 100000 in
theorem im_X4_set : Cond.instanceMethod yX4_set ∈ lwg := lwg_of (List.mem_of_getElem? (i := 488) rfl) rfl
set_option maxRecDepth 100000 in
theorem se_X4_set : Cond.selects RX4 yX4_set yX4_set ∈ lwg := lwg_of (List.mem_of_getElem? (i := 489) rfl) rfl
set_option maxRecDepth 100000 in
theorem lm_X1_save : LkM yX1_save cX1_save 2 (none) 1 := ⟨lwg_of (List.mem_of_getElem? (i := 499) rfl) rfl, ini_X1, ⟨by decide +kernel, by decide +kernel, by decide +kernel⟩, by decide⟩
set_option maxRecDepth 100000 in
theorem im_X1_save : Cond.instanceMethod yX1_save ∈ lwg := lwg_of (List.mem_of_getElem? (i := 497) rfl) rfl
set_option maxRecDepth 100000 in
theorem se_X1_save : Cond.selects RX1 yX1_save yX1_save ∈ lwg := lwg_of (List.mem_of_getElem? (i := 498) rfl) rfl
set_option maxRecDepth 100000 in
theorem lm_X1_dropOldest : LkM yX1_dropOldest cX1_dropOldest 3 (none) 0 := ⟨lwg_of (List.mem_of_getElem? (i := 503) rfl) rfl, ini_X1, ⟨by decide +kernel, by decide +kernel, by decide +kernel⟩, by decide⟩
set_option maxRecDepth 100000 in
theorem im_X1_dropOldest : Cond.instanceMethod yX1_dropOldest ∈ lwg := lwg_of (List.mem_of_getElem? (i := 502) rfl) rfl
set_option maxRecDepth 100000 in
theorem se_X1_dropOldest : Cond.selects RX1 yX1_dropOldest yX1_dropOldest ∈ lwg := lwg_of (List.mem_of_getElem? (i := 4) rfl) rfl
set_option maxRecDepth 100000 in
theorem lm_X4_punch : LkM yX4_punch cX4_punch 4 (some .int) 2 := ⟨lwg_of (List.mem_of_getElem? (i := 508) rfl) rfl, ini_X4, ⟨by decide +kernel, by decide +kernel, by decide +kernel⟩, by decide⟩
set_option maxRecDepth 100000 in
theorem im_X4_punch : Cond.instanceMethod yX4_punch ∈ lwg := lwg_of (List.mem_of_getElem? (i := 506) rfl) rfl
set_option maxRecDepth 100000 in
theorem se_X4_punch : Cond.selects RX4 yX4_punch yX4_punch ∈ lwg := lwg_of (List.mem_of_getElem? (i := 507) rfl) rfl
set_option maxRecDepth 100000 in
theorem lm_X4_print : LkM yX4_print cX4_print 3 (some .int) 2 := ⟨lwg_of (List.mem_of_getElem? (i := 513) rfl) rfl, ini_X4, ⟨by decide +kernel, by decide +kernel, by decide +kernel⟩, by decide⟩
set_option maxRecDepth 100000 in
theorem im_X4_print : Cond.instanceMethod yX4_print ∈ lwg := lwg_of (List.mem_of_getElem? (i := 511) rfl) rfl
set_option maxRecDepth 100000 in
theorem se_X4_print : Cond.selects RX4 yX4_print yX4_print ∈ lwg := lwg_of (List.mem_of_getElem? (i := 512) rfl) rfl
set_option maxRecDepth 100000 in
theorem lm_X4_addTo : LkM yX4_addTo cX4_addTo 3 (none) 3 := ⟨lwg_of (List.mem_of_getElem? (i := 518) rfl) rfl, ini_X4, ⟨by decide +kernel, by decide +kernel, by decide +kernel⟩, by decide⟩
set_option maxRecDepth 100000 in
theorem sm_X4_addTo : Cond.static yX4_addTo ∈ lwg := lwg_of (List.mem_of_getElem? (i := 517) rfl) rfl
set_option maxRecDepth 100000 in
theorem lm_X4_pull : LkM yX4_pull cX4_pull 2 (some .int) 1 := ⟨lwg_of (List.mem_of_getElem? (i := 522) rfl) rfl, ini_X4, ⟨by decide +kernel, by decide +kernel, by decide +kernel⟩, by decide⟩
set_option maxRecDepth 100000 in
theorem im_X4_pull : Cond.instanceMethod yX4_pull ∈ lwg := lwg_of (List.mem_of_getElem? (i := 520) rfl) rfl
set_option maxRecDepth 100000 in
theorem se_X4_pull : Cond.selects RX4 yX4_pull yX4_pull ∈ lwg := lwg_of (List.mem_of_getElem? (i := 521) rfl) rfl
set_option maxRecDepth 100000 in
theorem lm_X3_putBack : LkM yX3_putBack cX3_putBack 3 (some .int) 1 := ⟨lwg_of (List.mem_of_getElem? (i := 527) rfl) rfl, ini_X3, ⟨by decide +kernel, by decide +kernel, by decide +kernel⟩, by decide⟩
set_option maxRecDepth 100000 in
theorem im_X3_putBack : Cond.instanceMethod yX3_putBack ∈ lwg := lwg_of (List.mem_of_getElem? (i := 525) rfl) rfl
set_option maxRecDepth 100000 in
theorem se_X3_putBack : Cond.selects RX3 yX3_putBack yX3_putBack ∈ lwg := lwg_of (List.mem_of_getElem? (i := 526) rfl) rfl
set_option maxRecDepth 100000 in
theorem lm_X0_takeOut : LkM yX0_takeOut cX0_takeOut 3 (none) 1 := ⟨lwg_of (List.mem_of_getElem? (i := 531) rfl) rfl, ini_X0, ⟨by decide +kernel, by decide +kernel, by decide +kernel⟩, by decide⟩
set_option maxRecDepth 100000 in
theorem im_X0_takeOut : Cond.instanceMethod yX0_takeOut ∈ lwg := lwg_of (List.mem_of_getElem? (i := 529) rfl) rfl
set_option maxRecDepth 100000 in
theorem se_X0_takeOut : Cond.selects RX0 yX0_takeOut yX0_takeOut ∈ lwg := lwg_of (List.mem_of_getElem? (i := 530) rfl) rfl
set_option maxRecDepth 100000 in
theorem lm_X4_flip : LkM yX4_flip cX4_flip 2 (some .int) 1 := ⟨lwg_of (List.mem_of_getElem? (i := 537) rfl) rfl, ini_X4, ⟨by decide +kernel, by decide +kernel, by decide +kernel⟩, by decide⟩
set_option maxRecDepth 100000 in
theorem im_X4_flip : Cond.instanceMethod yX4_flip ∈ lwg := lwg_of (List.mem_of_getElem? (i := 535) rfl) rfl
set_option maxRecDepth 100000 in
theorem se_X4_flip : Cond.selects RX4 yX4_flip yX4_flip ∈ lwg := lwg_of (List.mem_of_getElem? (i := 536) rfl) rfl
set_option maxRecDepth 100000 in
theorem lm_X0_turnOver : LkM yX0_turnOver cX0_turnOver 2 (none) 1 := ⟨lwg_of (List.mem_of_getElem? (i := 541) rfl) rfl, ini_X0, ⟨by decide +kernel, by decide +kernel, by decide +kernel⟩, by decide⟩
set_option maxRecDepth 100000 in
theorem im_X0_turnOver : Cond.instanceMethod yX0_turnOver ∈ lwg := lwg_of (List.mem_of_getElem? (i := 539) rfl) rfl
set_option maxRecDepth 100000 in
theorem se_X0_turnOver : Cond.selects RX0 yX0_turnOver yX0_turnOver ∈ lwg := lwg_of (List.mem_of_getElem? (i := 540) rfl) rfl
set_option maxRecDepth 100000 in
theorem lm_X4_move : LkM yX4_move cX4_move 3 (some .int) 2 := ⟨lwg_of (List.mem_of_getElem? (i := 545) rfl) rfl, ini_X4, ⟨by decide +kernel, by decide +kernel, by decide +kernel⟩, by decide⟩
set_option maxRecDepth 100000 in
theorem im_X4_move : Cond.instanceMethod yX4_move ∈ lwg := lwg_of (List.mem_of_getElem? (i := 543) rfl) rfl
set_option maxRecDepth 100000 in
theorem se_X4_move : Cond.selects RX4 yX4_move yX4_move ∈ lwg := lwg_of (List.mem_of_getElem? (i := 544) rfl) rfl
set_option maxRecDepth 100000 in
theorem lm_X0_shift : LkM yX0_shift cX0_shift 5 (none) 2 := ⟨lwg_of (List.mem_of_getElem? (i := 550) rfl) rfl, ini_X0, ⟨by decide +kernel, by decide +kernel, by decide +kernel⟩, by decide⟩
set_option maxRecDepth 100000 in
theorem im_X0_shift : Cond.instanceMethod yX0_shift ∈ lwg := lwg_of (List.mem_of_getElem? (i := 548) rfl) rfl
set_option maxRecDepth 100000 in
theorem se_X0_shift : Cond.selects RX0 yX0_shift yX0_shift ∈ lwg := lwg_of (List.mem_of_getElem? (i := 549) rfl) rfl
set_option maxRecDepth 100000 in
theorem lm_X0_putIn : LkM yX0_putIn cX0_putIn 5 (none) 3 := ⟨lwg_of (List.mem_of_getElem? (i := 555) rfl) rfl, ini_X0, ⟨by decide +kernel, by decide +kernel, by decide +kernel⟩, by decide⟩
set_option maxRecDepth 100000 in
theorem im_X0_putIn : Cond.instanceMethod yX0_putIn ∈ lwg := lwg_of (List.mem_of_getElem? (i := 553) rfl) rfl
set_option maxRecDepth 100000 in
theorem se_X0_putIn : Cond.selects RX0 yX0_putIn yX0_putIn ∈ lwg := lwg_of (List.mem_of_getElem? (i := 554) rfl) rfl
set_option maxRecDepth 100000 in
theorem lm_X4_bind : LkM yX4_bind cX4_bind 1 (some .int) 0 := ⟨lwg_of (List.mem_of_getElem? (i := 559) rfl) rfl, ini_X4, ⟨by decide +kernel, by decide +kernel, by decide +kernel⟩, by decide⟩
set_option maxRecDepth 100000 in
theorem im_X4_bind : Cond.instanceMethod yX4_bind ∈ lwg := lwg_of (List.mem_of_getElem? (i := 557) rfl) rfl
set_option maxRecDepth 100000 in
theorem se_X4_bind : Cond.selects RX4 yX4_bind yX4_bind ∈ lwg := lwg_of (List.mem_of_getElem? (i := 558) rfl) rfl
set_option maxRecDepth 100000 in
theorem lm_X3_bindBlock : LkM yX3_bindBlock cX3_bindBlock 2 (none) 0 := ⟨lwg_of (List.mem_of_getElem? (i := 564) rfl) rfl, ini_X3, ⟨by decide +kernel, by decide +kernel, by decide +kernel⟩, by decide⟩
set_option maxRecDepth 100000 in
theorem im_X3_bindBlock : Cond.instanceMethod yX3_bindBlock ∈ lwg := lwg_of (List.mem_of_getElem? (i := 562) rfl) rfl
set_option maxRecDepth 100000 in
theorem se_X3_bindBlock : Cond.selects RX3 yX3_bindBlock yX3_bindBlock ∈ lwg := lwg_of (List.mem_of_getElem? (i := 563) rfl) rfl
set_option maxRecDepth 100000 in
theorem lm_X4_goBack : LkM yX4_goBack cX4_goBack 1 (some .int) 0 := ⟨lwg_of (List.mem_of_getElem? (i := 568) rfl) rfl, ini_X4, ⟨by decide +kernel, by decide +kernel, by decide +kernel⟩, by decide⟩
set_option maxRecDepth 100000 in
theorem im_X4_goBack : Cond.instanceMethod yX4_goBack ∈ lwg := lwg_of (List.mem_of_getElem? (i := 566) rfl) rfl
set_option maxRecDepth 100000 in
theorem se_X4_goBack : Cond.selects RX4 yX4_goBack yX4_goBack ∈ lwg := lwg_of (List.mem_of_getElem? (i := 567) rfl) rfl
set_option maxRecDepth 100000 in
theorem lm_X4_insert : LkM yX4_insert cX4_insert 3 (some .int) 2 := ⟨lwg_of (List.mem_of_getElem? (i := 573) rfl) rfl, ini_X4, ⟨by decide +kernel, by decide +kernel, by decide +kernel⟩, by decide⟩
set_option maxRecDepth 100000 in
theorem im_X4_insert : Cond.instanceMethod yX4_insert ∈ lwg := lwg_of (List.mem_of_getElem? (i := 571) rfl) rfl
set_option maxRecDepth 100000 in
theorem se_X4_insert : Cond.selects RX4 yX4_insert yX4_insert ∈ lwg := lwg_of (List.mem_of_getElem? (i := 572) rfl) rfl
set_option maxRecDepth 100000 in
theorem lm_X3_hasCopyAndRoom : LkM yX3_hasCopyAndRoom cX3_hasCopyAndRoom 2 (some .boolean) 1 := ⟨lwg_of (List.mem_of_getElem? (i := 578) rfl) rfl, ini_X3, ⟨by decide +kernel, by decide +kernel, by decide +kernel⟩, by decide⟩
set_option maxRecDepth 100000 in
theorem im_X3_hasCopyAndRoom : Cond.instanceMethod yX3_hasCopyAndRoom ∈ lwg := lwg_of (List.mem_of_getElem? (i := 576) rfl) rfl
set_option maxRecDepth 100000 in
theorem se_X3_hasCopyAndRoom : Cond.selects RX3 yX3_hasCopyAndRoom yX3_hasCopyAndRoom ∈ lwg := lwg_of (List.mem_of_getElem? (i := 577) rfl) rfl
set_option maxRecDepth 100000 in
theorem lm_X3_putFromBin : LkM yX3_putFromBin cX3_putFromBin 3 (none) 2 := ⟨lwg_of (List.mem_of_getElem? (i := 583) rfl) rfl, ini_X3, ⟨by decide +kernel, by decide +kernel, by decide +kernel⟩, by decide⟩
set_option maxRecDepth 100000 in
theorem im_X3_putFromBin : Cond.instanceMethod yX3_putFromBin ∈ lwg := lwg_of (List.mem_of_getElem? (i := 581) rfl) rfl
set_option maxRecDepth 100000 in
theorem se_X3_putFromBin : Cond.selects RX3 yX3_putFromBin yX3_putFromBin ∈ lwg := lwg_of (List.mem_of_getElem? (i := 582) rfl) rfl
set_option maxRecDepth 100000 in
theorem lm_X4_gather : LkM yX4_gather cX4_gather 2 (some .int) 1 := ⟨lwg_of (List.mem_of_getElem? (i := 588) rfl) rfl, ini_X4, ⟨by decide +kernel, by decide +kernel, by decide +kernel⟩, by decide⟩
set_option maxRecDepth 100000 in
theorem im_X4_gather : Cond.instanceMethod yX4_gather ∈ lwg := lwg_of (List.mem_of_getElem? (i := 586) rfl) rfl
set_option maxRecDepth 100000 in
theorem se_X4_gather : Cond.selects RX4 yX4_gather yX4_gather ∈ lwg := lwg_of (List.mem_of_getElem? (i := 587) rfl) rfl
set_option maxRecDepth 100000 in
theorem lm_L_holds : LkM yL_holds cL_holds 13 (some .boolean) 1 := ⟨lwg_of (List.mem_of_getElem? (i := 591) rfl) rfl, ini_L, ⟨by decide +kernel, by decide +kernel, by decide +kernel⟩, by decide⟩
set_option maxRecDepth 100000 in
theorem sm_L_holds : Cond.static yL_holds ∈ lwg := lwg_of (List.mem_of_getElem? (i := 590) rfl) rfl
set_option maxRecDepth 100000 in
theorem lm_X4_books : LkM yX4_books cX4_books 3 (some .int) 0 := ⟨lwg_of (List.mem_of_getElem? (i := 595) rfl) rfl, ini_X4, ⟨by decide +kernel, by decide +kernel, by decide +kernel⟩, by decide⟩
set_option maxRecDepth 100000 in
theorem im_X4_books : Cond.instanceMethod yX4_books ∈ lwg := lwg_of (List.mem_of_getElem? (i := 593) rfl) rfl
set_option maxRecDepth 100000 in
theorem se_X4_books : Cond.selects RX4 yX4_books yX4_books ∈ lwg := lwg_of (List.mem_of_getElem? (i := 594) rfl) rfl
set_option maxRecDepth 100000 in
theorem lm_X3_copiesInBinAndBlock : LkM yX3_copiesInBinAndBlock cX3_copiesInBinAndBlock 2 (some .int) 1 := ⟨lwg_of (List.mem_of_getElem? (i := 599) rfl) rfl, ini_X3, ⟨by decide +kernel, by decide +kernel, by decide +kernel⟩, by decide⟩
set_option maxRecDepth 100000 in
theorem im_X3_copiesInBinAndBlock : Cond.instanceMethod yX3_copiesInBinAndBlock ∈ lwg := lwg_of (List.mem_of_getElem? (i := 597) rfl) rfl
set_option maxRecDepth 100000 in
theorem se_X3_copiesInBinAndBlock : Cond.selects RX3 yX3_copiesInBinAndBlock yX3_copiesInBinAndBlock ∈ lwg := lwg_of (List.mem_of_getElem? (i := 598) rfl) rfl
set_option maxRecDepth 100000 in
theorem lm_X4_stairShare : LkM yX4_stairShare cX4_stairShare 2 (some .double) 0 := ⟨lwg_of (List.mem_of_getElem? (i := 604) rfl) rfl, ini_X4, ⟨by decide +kernel, by decide +kernel, by decide +kernel⟩, by decide⟩
set_option maxRecDepth 100000 in
theorem im_X4_stairShare : Cond.instanceMethod yX4_stairShare ∈ lwg := lwg_of (List.mem_of_getElem? (i := 602) rfl) rfl
set_option maxRecDepth 100000 in
theorem se_X4_stairShare : Cond.selects RX4 yX4_stairShare yX4_stairShare ∈ lwg := lwg_of (List.mem_of_getElem? (i := 603) rfl) rfl
set_option maxRecDepth 100000 in
theorem sm_L_isAhead : Cond.static yL_isAhead ∈ lwg := lwg_of (List.mem_of_getElem? (i := 606) rfl) rfl
set_option maxRecDepth 100000 in
theorem lm_X4_nextMove : LkM yX4_nextMove cX4_nextMove 6 (some .int) 0 := ⟨lwg_of (List.mem_of_getElem? (i := 611) rfl) rfl, ini_X4, ⟨by decide +kernel, by decide +kernel, by decide +kernel⟩, by decide⟩
set_option maxRecDepth 100000 in
theorem im_X4_nextMove : Cond.instanceMethod yX4_nextMove ∈ lwg := lwg_of (List.mem_of_getElem? (i := 609) rfl) rfl
set_option maxRecDepth 100000 in
theorem se_X4_nextMove : Cond.selects RX4 yX4_nextMove yX4_nextMove ∈ lwg := lwg_of (List.mem_of_getElem? (i := 610) rfl) rfl
set_option maxRecDepth 100000 in
theorem lm_X0_placeThatMakesRowOf : LkM yX0_placeThatMakesRowOf cX0_placeThatMakesRowOf 4 (some .int) 2 := ⟨lwg_of (List.mem_of_getElem? (i := 618) rfl) rfl, ini_X0, ⟨by decide +kernel, by decide +kernel, by decide +kernel⟩, by decide⟩
set_option maxRecDepth 100000 in
theorem im_X0_placeThatMakesRowOf : Cond.instanceMethod yX0_placeThatMakesRowOf ∈ lwg := lwg_of (List.mem_of_getElem? (i := 616) rfl) rfl
set_option maxRecDepth 100000 in
theorem se_X0_placeThatMakesRowOf : Cond.selects RX0 yX0_placeThatMakesRowOf yX0_placeThatMakesRowOf ∈ lwg := lwg_of (List.mem_of_getElem? (i := 617) rfl) rfl
set_option maxRecDepth 100000 in
theorem lm_X0_findLongestBeginning : LkM yX0_findLongestBeginning cX0_findLongestBeginning 2 (none) 0 := ⟨lwg_of (List.mem_of_getElem? (i := 622) rfl) rfl, ini_X0, ⟨by decide +kernel, by decide +kernel, by decide +kernel⟩, by decide⟩
set_option maxRecDepth 100000 in
theorem im_X0_findLongestBeginning : Cond.instanceMethod yX0_findLongestBeginning ∈ lwg := lwg_of (List.mem_of_getElem? (i := 621) rfl) rfl
set_option maxRecDepth 100000 in
theorem se_X0_findLongestBeginning : Cond.selects RX0 yX0_findLongestBeginning yX0_findLongestBeginning ∈ lwg := lwg_of (List.mem_of_getElem? (i := 5) rfl) rfl
set_option maxRecDepth 100000 in
theorem lm_X0_longestFrom : LkM yX0_longestFrom cX0_longestFrom 5 (some .int) 2 := ⟨lwg_of (List.mem_of_getElem? (i := 626) rfl) rfl, ini_X0, ⟨by decide +kernel, by decide +kernel, by decide +kernel⟩, by decide⟩
set_option maxRecDepth 100000 in
theorem im_X0_longestFrom : Cond.instanceMethod yX0_longestFrom ∈ lwg := lwg_of (List.mem_of_getElem? (i := 625) rfl) rfl
set_option maxRecDepth 100000 in
theorem se_X0_longestFrom : Cond.selects RX0 yX0_longestFrom yX0_longestFrom ∈ lwg := lwg_of (List.mem_of_getElem? (i := 6) rfl) rfl
set_option maxRecDepth 100000 in
theorem lm_X4_ifPulled : LkM yX4_ifPulled cX4_ifPulled 3 (some .int) 2 := ⟨lwg_of (List.mem_of_getElem? (i := 630) rfl) rfl, ini_X4, ⟨by decide +kernel, by decide +kernel, by decide +kernel⟩, by decide⟩
set_option maxRecDepth 100000 in
theorem im_X4_ifPulled : Cond.instanceMethod yX4_ifPulled ∈ lwg := lwg_of (List.mem_of_getElem? (i := 628) rfl) rfl
set_option maxRecDepth 100000 in
theorem se_X4_ifPulled : Cond.selects RX4 yX4_ifPulled yX4_ifPulled ∈ lwg := lwg_of (List.mem_of_getElem? (i := 629) rfl) rfl
set_option maxRecDepth 100000 in
theorem ml_L_88 : Cond.methodLink RL 88 yX4_init ∈ lwg := lwg_of (List.mem_of_getElem? (i := 25) rfl) rfl
set_option maxRecDepth 100000 in
theorem ml_X4_9 : Cond.methodLink RX4 9 yX3_init ∈ lwg := lwg_of (List.mem_of_getElem? (i := 33) rfl) rfl
set_option maxRecDepth 100000 in
theorem mn_X3_11 : Cond.methodLinkNest RX3 11 yX0_init "SteppedSpines" ∈ lw_tbl := List.mem_of_getElem? (i := 39) rfl
set_option maxRecDepth 100000 in
theorem fl_X0_9 : Cond.fieldLink RX0 9 "SteppedSpines$Block" "numbers" "[I" ∈ lwg := lwg_of (List.mem_of_getElem? (i := 43) rfl) rfl
set_option maxRecDepth 100000 in
theorem fl_X3_73 : Cond.fieldLink RX3 73 "SteppedSpines$Block" "numbers" "[I" ∈ lwg := lwg_of (List.mem_of_getElem? (i := 44) rfl) rfl
set_option maxRecDepth 100000 in
theorem fl_X4_198 : Cond.fieldLink RX4 198 "SteppedSpines$Block" "numbers" "[I" ∈ lwg := lwg_of (List.mem_of_getElem? (i := 45) rfl) rfl
set_option maxRecDepth 100000 in
theorem fl_X0_15 : Cond.fieldLink RX0 15 "SteppedSpines$Block" "turned" "[I" ∈ lwg := lwg_of (List.mem_of_getElem? (i := 46) rfl) rfl
set_option maxRecDepth 100000 in
theorem fl_X3_87 : Cond.fieldLink RX3 87 "SteppedSpines$Block" "turned" "[I" ∈ lwg := lwg_of (List.mem_of_getElem? (i := 47) rfl) rfl
set_option maxRecDepth 100000 in
theorem fl_X4_201 : Cond.fieldLink RX4 201 "SteppedSpines$Block" "turned" "[I" ∈ lwg := lwg_of (List.mem_of_getElem? (i := 48) rfl) rfl
set_option maxRecDepth 100000 in
theorem fl_X0_27 : Cond.fieldLink RX0 27 "SteppedSpines$Block" "size" "I" ∈ lwg := lwg_of (List.mem_of_getElem? (i := 49) rfl) rfl
set_option maxRecDepth 100000 in
theorem fl_X4_75 : Cond.fieldLink RX4 75 "SteppedSpines$Block" "size" "I" ∈ lwg := lwg_of (List.mem_of_getElem? (i := 50) rfl) rfl
set_option maxRecDepth 100000 in
theorem fl_X3_62 : Cond.fieldLink RX3 62 "SteppedSpines$Block" "size" "I" ∈ lwg := lwg_of (List.mem_of_getElem? (i := 51) rfl) rfl
set_option maxRecDepth 100000 in
theorem fl_X0_18 : Cond.fieldLink RX0 18 "SteppedSpines$Block" "longestEnding" "[I" ∈ lwg := lwg_of (List.mem_of_getElem? (i := 52) rfl) rfl
set_option maxRecDepth 100000 in
theorem fl_X0_21 : Cond.fieldLink RX0 21 "SteppedSpines$Block" "longestBeginning" "[I" ∈ lwg := lwg_of (List.mem_of_getElem? (i := 53) rfl) rfl
set_option maxRecDepth 100000 in
theorem fl_X0_24 : Cond.fieldLink RX0 24 "SteppedSpines$Block" "tops" "[I" ∈ lwg := lwg_of (List.mem_of_getElem? (i := 54) rfl) rfl
set_option maxRecDepth 100000 in
theorem ml_X3_34 : Cond.methodLink RX3 34 yJ7_fill_53178 ∈ lwg := lwg_of (List.mem_of_getElem? (i := 69) rfl) rfl
set_option maxRecDepth 100000 in
theorem mn_X3_43 : Cond.methodLinkNest RX3 43 yX4_copyRow "SteppedSpines" ∈ lw_tbl := List.mem_of_getElem? (i := 74) rfl
set_option maxRecDepth 100000 in
theorem ml_X4_274 : Cond.methodLink RX4 274 yJ9_min_7cf53 ∈ lwg := lwg_of (List.mem_of_getElem? (i := 77) rfl) rfl
set_option maxRecDepth 100000 in
theorem fl_X3_12 : Cond.fieldLink RX3 12 "SteppedSpines$State" "block" "LSteppedSpines$Block;" ∈ lwg := lwg_of (List.mem_of_getElem? (i := 83) rfl) rfl
set_option maxRecDepth 100000 in
theorem fl_X4_71 : Cond.fieldLink RX4 71 "SteppedSpines$State" "block" "LSteppedSpines$Block;" ∈ lwg := lwg_of (List.mem_of_getElem? (i := 84) rfl) rfl
set_option maxRecDepth 100000 in
theorem fl_X3_18 : Cond.fieldLink RX3 18 "SteppedSpines$State" "copies" "[I" ∈ lwg := lwg_of (List.mem_of_getElem? (i := 85) rfl) rfl
set_option maxRecDepth 100000 in
theorem fl_X4_127 : Cond.fieldLink RX4 127 "SteppedSpines$State" "copies" "[I" ∈ lwg := lwg_of (List.mem_of_getElem? (i := 86) rfl) rfl
set_option maxRecDepth 100000 in
theorem fl_X3_22 : Cond.fieldLink RX3 22 "SteppedSpines$State" "inBooks" "[I" ∈ lwg := lwg_of (List.mem_of_getElem? (i := 87) rfl) rfl
set_option maxRecDepth 100000 in
theorem fl_X4_216 : Cond.fieldLink RX4 216 "SteppedSpines$State" "inBooks" "[I" ∈ lwg := lwg_of (List.mem_of_getElem? (i := 88) rfl) rfl
set_option maxRecDepth 100000 in
theorem fl_X3_25 : Cond.fieldLink RX3 25 "SteppedSpines$State" "printed" "[I" ∈ lwg := lwg_of (List.mem_of_getElem? (i := 89) rfl) rfl
set_option maxRecDepth 100000 in
theorem fl_X4_140 : Cond.fieldLink RX4 140 "SteppedSpines$State" "printed" "[I" ∈ lwg := lwg_of (List.mem_of_getElem? (i := 90) rfl) rfl
set_option maxRecDepth 100000 in
theorem fl_X3_28 : Cond.fieldLink RX3 28 "SteppedSpines$State" "holes" "[I" ∈ lwg := lwg_of (List.mem_of_getElem? (i := 91) rfl) rfl
set_option maxRecDepth 100000 in
theorem fl_X4_145 : Cond.fieldLink RX4 145 "SteppedSpines$State" "holes" "[I" ∈ lwg := lwg_of (List.mem_of_getElem? (i := 92) rfl) rfl
set_option maxRecDepth 100000 in
theorem fl_X3_31 : Cond.fieldLink RX3 31 "SteppedSpines$State" "settings" "[I" ∈ lwg := lwg_of (List.mem_of_getElem? (i := 93) rfl) rfl
set_option maxRecDepth 100000 in
theorem fl_X4_164 : Cond.fieldLink RX4 164 "SteppedSpines$State" "settings" "[I" ∈ lwg := lwg_of (List.mem_of_getElem? (i := 94) rfl) rfl
set_option maxRecDepth 100000 in
theorem fl_X3_47 : Cond.fieldLink RX3 47 "SteppedSpines$State" "booksBound" "I" ∈ lwg := lwg_of (List.mem_of_getElem? (i := 95) rfl) rfl
set_option maxRecDepth 100000 in
theorem fl_X4_119 : Cond.fieldLink RX4 119 "SteppedSpines$State" "booksBound" "I" ∈ lwg := lwg_of (List.mem_of_getElem? (i := 96) rfl) rfl
set_option maxRecDepth 100000 in
theorem fl_X3_51 : Cond.fieldLink RX3 51 "SteppedSpines$State" "latestStop" "I" ∈ lwg := lwg_of (List.mem_of_getElem? (i := 97) rfl) rfl
set_option maxRecDepth 100000 in
theorem fl_X4_246 : Cond.fieldLink RX4 246 "SteppedSpines$State" "latestStop" "I" ∈ lwg := lwg_of (List.mem_of_getElem? (i := 98) rfl) rfl
set_option maxRecDepth 100000 in
theorem ml_X4_24 : Cond.methodLink RX4 24 yX1_init ∈ lwg := lwg_of (List.mem_of_getElem? (i := 118) rfl) rfl
set_option maxRecDepth 100000 in
theorem ml_X1_17 : Cond.methodLink RX1 17 yX3_init ∈ lwg := lwg_of (List.mem_of_getElem? (i := 124) rfl) rfl
set_option maxRecDepth 100000 in
theorem fl_X1_11 : Cond.fieldLink RX1 11 "SteppedSpines$History" "states" "[LSteppedSpines$State;" ∈ lwg := lwg_of (List.mem_of_getElem? (i := 125) rfl) rfl
set_option maxRecDepth 100000 in
theorem fl_X1_18 : Cond.fieldLink RX1 18 "SteppedSpines$History" "size" "I" ∈ lwg := lwg_of (List.mem_of_getElem? (i := 126) rfl) rfl
set_option maxRecDepth 100000 in
theorem fl_X4_188 : Cond.fieldLink RX4 188 "SteppedSpines$History" "size" "I" ∈ lwg := lwg_of (List.mem_of_getElem? (i := 127) rfl) rfl
set_option maxRecDepth 100000 in
theorem mn_X4_31 : Cond.methodLinkNest RX4 31 yX2_init "SteppedSpines" ∈ lw_tbl := List.mem_of_getElem? (i := 135) rfl
set_option maxRecDepth 100000 in
theorem fl_X4_10 : Cond.fieldLink RX4 10 "SteppedSpines" "now" "LSteppedSpines$State;" ∈ lwg := lwg_of (List.mem_of_getElem? (i := 150) rfl) rfl
set_option maxRecDepth 100000 in
theorem fl_X4_16 : Cond.fieldLink RX4 16 "SteppedSpines" "snapshot" "LSteppedSpines$State;" ∈ lwg := lwg_of (List.mem_of_getElem? (i := 151) rfl) rfl
set_option maxRecDepth 100000 in
theorem fl_X4_19 : Cond.fieldLink RX4 19 "SteppedSpines" "trial" "LSteppedSpines$State;" ∈ lwg := lwg_of (List.mem_of_getElem? (i := 152) rfl) rfl
set_option maxRecDepth 100000 in
theorem fl_X4_25 : Cond.fieldLink RX4 25 "SteppedSpines" "history" "LSteppedSpines$History;" ∈ lwg := lwg_of (List.mem_of_getElem? (i := 153) rfl) rfl
set_option maxRecDepth 100000 in
theorem fl_X4_32 : Cond.fieldLink RX4 32 "SteppedSpines" "reader" "LSteppedSpines$Reader;" ∈ lwg := lwg_of (List.mem_of_getElem? (i := 154) rfl) rfl
set_option maxRecDepth 100000 in
theorem fl_X4_36 : Cond.fieldLink RX4 36 "SteppedSpines" "buffer" "[I" ∈ lwg := lwg_of (List.mem_of_getElem? (i := 155) rfl) rfl
set_option maxRecDepth 100000 in
theorem fl_X4_40 : Cond.fieldLink RX4 40 "SteppedSpines" "bufferLength" "I" ∈ lwg := lwg_of (List.mem_of_getElem? (i := 156) rfl) rfl
set_option maxRecDepth 100000 in
theorem fl_X4_44 : Cond.fieldLink RX4 44 "SteppedSpines" "hasSnapshot" "Z" ∈ lwg := lwg_of (List.mem_of_getElem? (i := 157) rfl) rfl
set_option maxRecDepth 100000 in
theorem ml_L_89 : Cond.methodLink RL 89 yX4_keep ∈ lwg := lwg_of (List.mem_of_getElem? (i := 175) rfl) rfl
set_option maxRecDepth 100000 in
theorem ml_X4_183 : Cond.methodLink RX4 183 yX3_copyFrom ∈ lwg := lwg_of (List.mem_of_getElem? (i := 179) rfl) rfl
set_option maxRecDepth 100000 in
theorem ml_X3_54 : Cond.methodLink RX3 54 yX0_copyFrom ∈ lwg := lwg_of (List.mem_of_getElem? (i := 183) rfl) rfl
set_option maxRecDepth 100000 in
theorem mn_X0_31 : Cond.methodLinkNest RX0 31 yX4_copyRow "SteppedSpines" ∈ lw_tbl := List.mem_of_getElem? (i := 187) rfl
set_option maxRecDepth 100000 in
theorem ml_L_85 : Cond.methodLink RL 85 yX4_undo ∈ lwg := lwg_of (List.mem_of_getElem? (i := 188) rfl) rfl
set_option maxRecDepth 100000 in
theorem ml_X4_191 : Cond.methodLink RX4 191 yX1_restore ∈ lwg := lwg_of (List.mem_of_getElem? (i := 260) rfl) rfl
set_option maxRecDepth 100000 in
theorem ml_X1_25 : Cond.methodLink RX1 25 yX3_copyFrom ∈ lwg := lwg_of (List.mem_of_getElem? (i := 264) rfl) rfl
set_option maxRecDepth 100000 in
theorem ml_L_13 : Cond.methodLink RL 13 yX4_count ∈ lwg := lwg_of (List.mem_of_getElem? (i := 265) rfl) rfl
set_option maxRecDepth 100000 in
theorem ml_X4_107 : Cond.methodLink RX4 107 yX3_breaks ∈ lwg := lwg_of (List.mem_of_getElem? (i := 285) rfl) rfl
set_option maxRecDepth 100000 in
theorem ml_X3_90 : Cond.methodLink RX3 90 yX3_stepOfMark ∈ lwg := lwg_of (List.mem_of_getElem? (i := 289) rfl) rfl
set_option maxRecDepth 100000 in
theorem mn_X3_58 : Cond.methodLinkNest RX3 58 yX4_at "SteppedSpines" ∈ lw_tbl := List.mem_of_getElem? (i := 293) rfl
set_option maxRecDepth 100000 in
theorem ml_X3_84 : Cond.methodLink RX3 84 yX3_stepOfNumber ∈ lwg := lwg_of (List.mem_of_getElem? (i := 296) rfl) rfl
set_option maxRecDepth 100000 in
theorem ml_X4_111 : Cond.methodLink RX4 111 yX3_fault ∈ lwg := lwg_of (List.mem_of_getElem? (i := 300) rfl) rfl
set_option maxRecDepth 100000 in
theorem ml_X3_96 : Cond.methodLink RX3 96 yX0_firstTurned ∈ lwg := lwg_of (List.mem_of_getElem? (i := 304) rfl) rfl
set_option maxRecDepth 100000 in
theorem mn_X0_35 : Cond.methodLinkNest RX0 35 yX4_at "SteppedSpines" ∈ lw_tbl := List.mem_of_getElem? (i := 308) rfl
set_option maxRecDepth 100000 in
theorem ml_X3_100 : Cond.methodLink RX3 100 yX3_bookSheets ∈ lwg := lwg_of (List.mem_of_getElem? (i := 309) rfl) rfl
set_option maxRecDepth 100000 in
theorem ml_X3_103 : Cond.methodLink RX3 103 yX0_firstNotBelow ∈ lwg := lwg_of (List.mem_of_getElem? (i := 313) rfl) rfl
set_option maxRecDepth 100000 in
theorem ml_X3_106 : Cond.methodLink RX3 106 yX0_firstDouble ∈ lwg := lwg_of (List.mem_of_getElem? (i := 317) rfl) rfl
set_option maxRecDepth 100000 in
theorem ml_X3_109 : Cond.methodLink RX3 109 yX3_lowestMissing ∈ lwg := lwg_of (List.mem_of_getElem? (i := 321) rfl) rfl
set_option maxRecDepth 100000 in
theorem ml_X3_80 : Cond.methodLink RX3 80 yX0_copiesOf ∈ lwg := lwg_of (List.mem_of_getElem? (i := 325) rfl) rfl
set_option maxRecDepth 100000 in
theorem ml_X3_112 : Cond.methodLink RX3 112 yX0_firstFall ∈ lwg := lwg_of (List.mem_of_getElem? (i := 329) rfl) rfl
set_option maxRecDepth 100000 in
theorem ml_X4_219 : Cond.methodLink RX4 219 yX3_placeOfFault ∈ lwg := lwg_of (List.mem_of_getElem? (i := 333) rfl) rfl
set_option maxRecDepth 100000 in
theorem ml_X3_115 : Cond.methodLink RX3 115 yX3_fault ∈ lwg := lwg_of (List.mem_of_getElem? (i := 337) rfl) rfl
set_option maxRecDepth 100000 in
theorem ml_X4_222 : Cond.methodLink RX4 222 yX3_lowestMissing ∈ lwg := lwg_of (List.mem_of_getElem? (i := 338) rfl) rfl
set_option maxRecDepth 100000 in
theorem ml_X4_225 : Cond.methodLink RX4 225 yX0_fewestMovesBySheets ∈ lwg := lwg_of (List.mem_of_getElem? (i := 339) rfl) rfl
set_option maxRecDepth 100000 in
theorem ml_X0_59 : Cond.methodLink RX0 59 yX0_longestRowBySheets ∈ lwg := lwg_of (List.mem_of_getElem? (i := 343) rfl) rfl
set_option maxRecDepth 100000 in
theorem ml_X0_66 : Cond.methodLink RX0 66 yX0_findLongestEnding ∈ lwg := lwg_of (List.mem_of_getElem? (i := 347) rfl) rfl
set_option maxRecDepth 100000 in
theorem ml_X0_75 : Cond.methodLink RX0 75 yX0_longestAhead ∈ lwg := lwg_of (List.mem_of_getElem? (i := 351) rfl) rfl
set_option maxRecDepth 100000 in
theorem ml_X0_69 : Cond.methodLink RX0 69 yJ9_max_7cf53 ∈ lwg := lwg_of (List.mem_of_getElem? (i := 355) rfl) rfl
set_option maxRecDepth 100000 in
theorem mn_X0_39 : Cond.methodLinkNest RX0 39 yX4_put "SteppedSpines" ∈ lw_tbl := List.mem_of_getElem? (i := 358) rfl
set_option maxRecDepth 100000 in
theorem ml_X4_228 : Cond.methodLink RX4 228 yX0_fewestMovesByPiles ∈ lwg := lwg_of (List.mem_of_getElem? (i := 361) rfl) rfl
set_option maxRecDepth 100000 in
theorem ml_X0_63 : Cond.methodLink RX0 63 yX0_pilesOfSheets ∈ lwg := lwg_of (List.mem_of_getElem? (i := 365) rfl) rfl
set_option maxRecDepth 100000 in
theorem ml_X4_231 : Cond.methodLink RX4 231 yX0_fallingPairs ∈ lwg := lwg_of (List.mem_of_getElem? (i := 369) rfl) rfl
set_option maxRecDepth 100000 in
theorem ml_X0_55 : Cond.methodLink RX0 55 yX0_greaterAheadOf ∈ lwg := lwg_of (List.mem_of_getElem? (i := 373) rfl) rfl
set_option maxRecDepth 100000 in
theorem ml_X4_234 : Cond.methodLink RX4 234 yX3_stitches ∈ lwg := lwg_of (List.mem_of_getElem? (i := 377) rfl) rfl
set_option maxRecDepth 100000 in
theorem ml_X3_126 : Cond.methodLink RX3 126 yX3_stitchesAheadOf ∈ lwg := lwg_of (List.mem_of_getElem? (i := 381) rfl) rfl
set_option maxRecDepth 100000 in
theorem ml_X3_118 : Cond.methodLink RX3 118 yX3_holesAt ∈ lwg := lwg_of (List.mem_of_getElem? (i := 385) rfl) rfl
set_option maxRecDepth 100000 in
theorem ml_X3_121 : Cond.methodLink RX3 121 yJ6_bitCount_0f7a4 ∈ lwg := lwg_of (List.mem_of_getElem? (i := 389) rfl) rfl
set_option maxRecDepth 100000 in
theorem kc_J6_265 : Cond.constant RJ6 265 (1431655765) ∈ lwg := lwg_of (List.mem_of_getElem? (i := 392) rfl) rfl
set_option maxRecDepth 100000 in
theorem kc_J6_266 : Cond.constant RJ6 266 (858993459) ∈ lwg := lwg_of (List.mem_of_getElem? (i := 393) rfl) rfl
set_option maxRecDepth 100000 in
theorem kc_J6_267 : Cond.constant RJ6 267 (252645135) ∈ lwg := lwg_of (List.mem_of_getElem? (i := 394) rfl) rfl
set_option maxRecDepth 100000 in
theorem ml_X4_237 : Cond.methodLink RX4 237 yX3_threadLength ∈ lwg := lwg_of (List.mem_of_getElem? (i := 395) rfl) rfl
set_option maxRecDepth 100000 in
theorem ml_X3_129 : Cond.methodLink RX3 129 yX3_stitches ∈ lwg := lwg_of (List.mem_of_getElem? (i := 399) rfl) rfl
set_option maxRecDepth 100000 in
theorem ml_X3_132 : Cond.methodLink RX3 132 yX3_spanOfHoles ∈ lwg := lwg_of (List.mem_of_getElem? (i := 400) rfl) rfl
set_option maxRecDepth 100000 in
theorem ml_X3_135 : Cond.methodLink RX3 135 yJ9_max_7cf53 ∈ lwg := lwg_of (List.mem_of_getElem? (i := 403) rfl) rfl
set_option maxRecDepth 100000 in
theorem ml_X4_240 : Cond.methodLink RX4 240 yX3_loosePlaces ∈ lwg := lwg_of (List.mem_of_getElem? (i := 404) rfl) rfl
set_option maxRecDepth 100000 in
theorem ml_X4_243 : Cond.methodLink RX4 243 yX3_sheetsInBooks ∈ lwg := lwg_of (List.mem_of_getElem? (i := 408) rfl) rfl
set_option maxRecDepth 100000 in
theorem ml_L_96 : Cond.methodLink RL 96 yL_cell ∈ lwg := lwg_of (List.mem_of_getElem? (i := 412) rfl) rfl
set_option maxRecDepth 100000 in
theorem kc_L_7 : Cond.constant RL 7 (1812433253) ∈ lwg := lwg_of (List.mem_of_getElem? (i := 415) rfl) rfl
set_option maxRecDepth 100000 in
theorem ml_L_29 : Cond.methodLink RL 29 yL_up ∈ lwg := lwg_of (List.mem_of_getElem? (i := 416) rfl) rfl
set_option maxRecDepth 100000 in
theorem kc_L_8 : Cond.constant RL 8 (2147483647) ∈ lwg := lwg_of (List.mem_of_getElem? (i := 419) rfl) rfl
set_option maxRecDepth 100000 in
theorem ml_L_75 : Cond.methodLink RL 75 yL_looks ∈ lwg := lwg_of (List.mem_of_getElem? (i := 420) rfl) rfl
set_option maxRecDepth 100000 in
theorem ml_L_19 : Cond.methodLink RL 19 yX4_sheet ∈ lwg := lwg_of (List.mem_of_getElem? (i := 425) rfl) rfl
set_option maxRecDepth 100000 in
theorem ml_X4_86 : Cond.methodLink RX4 86 yX0_hasPlace ∈ lwg := lwg_of (List.mem_of_getElem? (i := 445) rfl) rfl
set_option maxRecDepth 100000 in
theorem ml_X4_130 : Cond.methodLink RX4 130 yX4_at ∈ lwg := lwg_of (List.mem_of_getElem? (i := 449) rfl) rfl
set_option maxRecDepth 100000 in
theorem ml_X4_99 : Cond.methodLink RX4 99 yX3_stepOfMark ∈ lwg := lwg_of (List.mem_of_getElem? (i := 450) rfl) rfl
set_option maxRecDepth 100000 in
theorem ml_X4_204 : Cond.methodLink RX4 204 yX3_breaksAheadOf ∈ lwg := lwg_of (List.mem_of_getElem? (i := 451) rfl) rfl
set_option maxRecDepth 100000 in
theorem ml_X3_93 : Cond.methodLink RX3 93 yX3_stepDueAt ∈ lwg := lwg_of (List.mem_of_getElem? (i := 455) rfl) rfl
set_option maxRecDepth 100000 in
theorem ml_X4_207 : Cond.methodLink RX4 207 yX3_stitchesAheadOf ∈ lwg := lwg_of (List.mem_of_getElem? (i := 459) rfl) rfl
set_option maxRecDepth 100000 in
theorem ml_X4_210 : Cond.methodLink RX4 210 yX0_greaterAheadOf ∈ lwg := lwg_of (List.mem_of_getElem? (i := 460) rfl) rfl
set_option maxRecDepth 100000 in
theorem ml_L_23 : Cond.methodLink RL 23 yX4_bin ∈ lwg := lwg_of (List.mem_of_getElem? (i := 461) rfl) rfl
set_option maxRecDepth 100000 in
theorem ml_X4_48 : Cond.methodLink RX4 48 yX4_isBin ∈ lwg := lwg_of (List.mem_of_getElem? (i := 465) rfl) rfl
set_option maxRecDepth 100000 in
theorem ml_X4_213 : Cond.methodLink RX4 213 yX0_copiesOf ∈ lwg := lwg_of (List.mem_of_getElem? (i := 469) rfl) rfl
set_option maxRecDepth 100000 in
theorem ml_L_26 : Cond.methodLink RL 26 yX4_setting ∈ lwg := lwg_of (List.mem_of_getElem? (i := 470) rfl) rfl
set_option maxRecDepth 100000 in
theorem ml_X4_151 : Cond.methodLink RX4 151 yX4_isSetting ∈ lwg := lwg_of (List.mem_of_getElem? (i := 474) rfl) rfl
set_option maxRecDepth 100000 in
theorem ml_L_100 : Cond.methodLink RL 100 yL_act ∈ lwg := lwg_of (List.mem_of_getElem? (i := 478) rfl) rfl
set_option maxRecDepth 100000 in
theorem ml_L_34 : Cond.methodLink RL 34 yX4_fits ∈ lwg := lwg_of (List.mem_of_getElem? (i := 481) rfl) rfl
set_option maxRecDepth 100000 in
theorem ml_X4_262 : Cond.methodLink RX4 262 yX3_stepDueAt ∈ lwg := lwg_of (List.mem_of_getElem? (i := 485) rfl) rfl
set_option maxRecDepth 100000 in
theorem ml_X4_265 : Cond.methodLink RX4 265 yX3_stepOfNumber ∈ lwg := lwg_of (List.mem_of_getElem? (i := 486) rfl) rfl
set_option maxRecDepth 100000 in
theorem ml_L_38 : Cond.methodLink RL 38 yX4_set ∈ lwg := lwg_of (List.mem_of_getElem? (i := 487) rfl) rfl
set_option maxRecDepth 100000 in
theorem fl_X4_156 : Cond.fieldLink RX4 156 "SteppedSpines" "LEAST_VALUES" "[I" ∈ lwg := lwg_of (List.mem_of_getElem? (i := 491) rfl) rfl
set_option maxRecDepth 100000 in
theorem fl_X4_159 : Cond.fieldLink RX4 159 "SteppedSpines" "MOST_VALUES" "[I" ∈ lwg := lwg_of (List.mem_of_getElem? (i := 493) rfl) rfl
set_option maxRecDepth 100000 in
theorem ml_X4_67 : Cond.methodLink RX4 67 yX1_save ∈ lwg := lwg_of (List.mem_of_getElem? (i := 496) rfl) rfl
set_option maxRecDepth 100000 in
theorem ml_X1_22 : Cond.methodLink RX1 22 yX1_dropOldest ∈ lwg := lwg_of (List.mem_of_getElem? (i := 500) rfl) rfl
set_option maxRecDepth 100000 in
theorem ml_X4_148 : Cond.methodLink RX4 148 yX4_put ∈ lwg := lwg_of (List.mem_of_getElem? (i := 504) rfl) rfl
set_option maxRecDepth 100000 in
theorem ml_L_41 : Cond.methodLink RL 41 yX4_punch ∈ lwg := lwg_of (List.mem_of_getElem? (i := 505) rfl) rfl
set_option maxRecDepth 100000 in
theorem ml_L_44 : Cond.methodLink RL 44 yX4_print ∈ lwg := lwg_of (List.mem_of_getElem? (i := 510) rfl) rfl
set_option maxRecDepth 100000 in
theorem ml_X4_136 : Cond.methodLink RX4 136 yX4_addTo ∈ lwg := lwg_of (List.mem_of_getElem? (i := 516) rfl) rfl
set_option maxRecDepth 100000 in
theorem ml_L_47 : Cond.methodLink RL 47 yX4_pull ∈ lwg := lwg_of (List.mem_of_getElem? (i := 519) rfl) rfl
set_option maxRecDepth 100000 in
theorem ml_X4_91 : Cond.methodLink RX4 91 yX3_putBack ∈ lwg := lwg_of (List.mem_of_getElem? (i := 524) rfl) rfl
set_option maxRecDepth 100000 in
theorem ml_X3_76 : Cond.methodLink RX3 76 yX0_takeOut ∈ lwg := lwg_of (List.mem_of_getElem? (i := 528) rfl) rfl
set_option maxRecDepth 100000 in
theorem ml_X0_43 : Cond.methodLink RX0 43 yX0_hasPlace ∈ lwg := lwg_of (List.mem_of_getElem? (i := 532) rfl) rfl
set_option maxRecDepth 100000 in
theorem mn_X3_65 : Cond.methodLinkNest RX3 65 yX4_addTo "SteppedSpines" ∈ lw_tbl := List.mem_of_getElem? (i := 533) rfl
set_option maxRecDepth 100000 in
theorem ml_L_50 : Cond.methodLink RL 50 yX4_flip ∈ lwg := lwg_of (List.mem_of_getElem? (i := 534) rfl) rfl
set_option maxRecDepth 100000 in
theorem ml_X4_95 : Cond.methodLink RX4 95 yX0_turnOver ∈ lwg := lwg_of (List.mem_of_getElem? (i := 538) rfl) rfl
set_option maxRecDepth 100000 in
theorem ml_L_53 : Cond.methodLink RL 53 yX4_move ∈ lwg := lwg_of (List.mem_of_getElem? (i := 542) rfl) rfl
set_option maxRecDepth 100000 in
theorem ml_X4_104 : Cond.methodLink RX4 104 yX0_shift ∈ lwg := lwg_of (List.mem_of_getElem? (i := 547) rfl) rfl
set_option maxRecDepth 100000 in
theorem ml_X0_47 : Cond.methodLink RX0 47 yX0_takeOut ∈ lwg := lwg_of (List.mem_of_getElem? (i := 551) rfl) rfl
set_option maxRecDepth 100000 in
theorem ml_X0_51 : Cond.methodLink RX0 51 yX0_putIn ∈ lwg := lwg_of (List.mem_of_getElem? (i := 552) rfl) rfl
set_option maxRecDepth 100000 in
theorem ml_L_56 : Cond.methodLink RL 56 yX4_bind ∈ lwg := lwg_of (List.mem_of_getElem? (i := 556) rfl) rfl
set_option maxRecDepth 100000 in
theorem ml_X4_116 : Cond.methodLink RX4 116 yX3_bindBlock ∈ lwg := lwg_of (List.mem_of_getElem? (i := 561) rfl) rfl
set_option maxRecDepth 100000 in
theorem ml_L_59 : Cond.methodLink RL 59 yX4_goBack ∈ lwg := lwg_of (List.mem_of_getElem? (i := 565) rfl) rfl
set_option maxRecDepth 100000 in
theorem ml_L_62 : Cond.methodLink RL 62 yX4_insert ∈ lwg := lwg_of (List.mem_of_getElem? (i := 570) rfl) rfl
set_option maxRecDepth 100000 in
theorem ml_X4_59 : Cond.methodLink RX4 59 yX3_hasCopyAndRoom ∈ lwg := lwg_of (List.mem_of_getElem? (i := 575) rfl) rfl
set_option maxRecDepth 100000 in
theorem ml_X4_80 : Cond.methodLink RX4 80 yX3_putFromBin ∈ lwg := lwg_of (List.mem_of_getElem? (i := 580) rfl) rfl
set_option maxRecDepth 100000 in
theorem ml_X3_69 : Cond.methodLink RX3 69 yX0_putIn ∈ lwg := lwg_of (List.mem_of_getElem? (i := 584) rfl) rfl
set_option maxRecDepth 100000 in
theorem ml_L_65 : Cond.methodLink RL 65 yX4_gather ∈ lwg := lwg_of (List.mem_of_getElem? (i := 585) rfl) rfl
set_option maxRecDepth 100000 in
theorem ml_L_92 : Cond.methodLink RL 92 yL_holds ∈ lwg := lwg_of (List.mem_of_getElem? (i := 589) rfl) rfl
set_option maxRecDepth 100000 in
theorem ml_L_68 : Cond.methodLink RL 68 yX4_books ∈ lwg := lwg_of (List.mem_of_getElem? (i := 592) rfl) rfl
set_option maxRecDepth 100000 in
theorem ml_X4_268 : Cond.methodLink RX4 268 yX3_copiesInBinAndBlock ∈ lwg := lwg_of (List.mem_of_getElem? (i := 596) rfl) rfl
set_option maxRecDepth 100000 in
theorem ml_X4_271 : Cond.methodLink RX4 271 yX3_bookSheets ∈ lwg := lwg_of (List.mem_of_getElem? (i := 600) rfl) rfl
set_option maxRecDepth 100000 in
theorem ml_L_71 : Cond.methodLink RL 71 yX4_stairShare ∈ lwg := lwg_of (List.mem_of_getElem? (i := 601) rfl) rfl
set_option maxRecDepth 100000 in
theorem ml_L_104 : Cond.methodLink RL 104 yL_isAhead ∈ lwg := lwg_of (List.mem_of_getElem? (i := 605) rfl) rfl
set_option maxRecDepth 100000 in
theorem ml_L_79 : Cond.methodLink RL 79 yX4_nextMove ∈ lwg := lwg_of (List.mem_of_getElem? (i := 608) rfl) rfl
set_option maxRecDepth 100000 in
theorem ml_X4_249 : Cond.methodLink RX4 249 yX0_longestRowBySheets ∈ lwg := lwg_of (List.mem_of_getElem? (i := 612) rfl) rfl
set_option maxRecDepth 100000 in
theorem ml_X4_252 : Cond.methodLink RX4 252 yX0_copyFrom ∈ lwg := lwg_of (List.mem_of_getElem? (i := 613) rfl) rfl
set_option maxRecDepth 100000 in
theorem ml_X4_255 : Cond.methodLink RX4 255 yX0_takeOut ∈ lwg := lwg_of (List.mem_of_getElem? (i := 614) rfl) rfl
set_option maxRecDepth 100000 in
theorem ml_X4_258 : Cond.methodLink RX4 258 yX0_placeThatMakesRowOf ∈ lwg := lwg_of (List.mem_of_getElem? (i := 615) rfl) rfl
set_option maxRecDepth 100000 in
theorem ml_X0_81 : Cond.methodLink RX0 81 yX0_findLongestBeginning ∈ lwg := lwg_of (List.mem_of_getElem? (i := 619) rfl) rfl
set_option maxRecDepth 100000 in
theorem ml_X0_78 : Cond.methodLink RX0 78 yX0_longestFrom ∈ lwg := lwg_of (List.mem_of_getElem? (i := 623) rfl) rfl
set_option maxRecDepth 100000 in
theorem ml_L_82 : Cond.methodLink RL 82 yX4_ifPulled ∈ lwg := lwg_of (List.mem_of_getElem? (i := 627) rfl) rfl
