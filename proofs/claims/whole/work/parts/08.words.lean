theorem ingX0 : ∀ w ∈ wsX00, w ∈ lwg := fun w h => lwg_of ((by decide +kernel : ∀ w ∈ wsX00, w ∈ lw_tbl) w h) ((by decide +kernel : ∀ w ∈ wsX00, goodWord w = true) w h)
theorem ingX1 : ∀ w ∈ wsX10, w ∈ lwg := fun w h => lwg_of ((by decide +kernel : ∀ w ∈ wsX10, w ∈ lw_tbl) w h) ((by decide +kernel : ∀ w ∈ wsX10, goodWord w = true) w h)
theorem ingX2 : ∀ w ∈ wsX20, w ∈ lwg := fun w h => lwg_of ((by decide +kernel : ∀ w ∈ wsX20, w ∈ lw_tbl) w h) ((by decide +kernel : ∀ w ∈ wsX20, goodWord w = true) w h)
theorem ingX3 : ∀ w ∈ wsX30, w ∈ lwg := fun w h => lwg_of ((by decide +kernel : ∀ w ∈ wsX30, w ∈ lw_tbl) w h) ((by decide +kernel : ∀ w ∈ wsX30, goodWord w = true) w h)
theorem ingX4 : ∀ w ∈ wsX40, w ∈ lwg := fun w h => lwg_of ((by decide +kernel : ∀ w ∈ wsX40, w ∈ lw_tbl) w h) ((by decide +kernel : ∀ w ∈ wsX40, goodWord w = true) w h)
theorem ingX5 : ∀ w ∈ wsX50, w ∈ lwg := fun w h => lwg_of ((by decide +kernel : ∀ w ∈ wsX50, w ∈ lw_tbl) w h) ((by decide +kernel : ∀ w ∈ wsX50, goodWord w = true) w h)
theorem ini_L : Cond.initialized RL ∈ lwg := lwg_of (List.mem_of_getElem? (i := 66) (by decide +kernel)) (by decide +kernel)
theorem ini_X4 : Cond.initialized RX4 ∈ lwg := lwg_of (List.mem_of_getElem? (i := 67) (by decide +kernel)) (by decide +kernel)
theorem ini_X3 : Cond.initialized RX3 ∈ lwg := lwg_of (List.mem_of_getElem? (i := 68) (by decide +kernel)) (by decide +kernel)
theorem ini_X0 : Cond.initialized RX0 ∈ lwg := lwg_of (List.mem_of_getElem? (i := 69) (by decide +kernel)) (by decide +kernel)
theorem ini_J7 : Cond.initialized RJ7 ∈ lwg := lwg_of (List.mem_of_getElem? (i := 70) (by decide +kernel)) (by decide +kernel)
theorem ini_J9 : Cond.initialized RJ9 ∈ lwg := lwg_of (List.mem_of_getElem? (i := 71) (by decide +kernel)) (by decide +kernel)
theorem ini_J10 : Cond.initialized RJ10 ∈ lwg := lwg_of (List.mem_of_getElem? (i := 72) (by decide +kernel)) (by decide +kernel)
theorem ini_X1 : Cond.initialized RX1 ∈ lwg := lwg_of (List.mem_of_getElem? (i := 73) (by decide +kernel)) (by decide +kernel)
theorem ini_X2 : Cond.initialized RX2 ∈ lwg := lwg_of (List.mem_of_getElem? (i := 74) (by decide +kernel)) (by decide +kernel)
theorem ini_X5 : Cond.initialized RX5 ∈ lwg := lwg_of (List.mem_of_getElem? (i := 75) (by decide +kernel)) (by decide +kernel)
theorem ini_J6 : Cond.initialized RJ6 ∈ lwg := lwg_of (List.mem_of_getElem? (i := 82) (by decide +kernel)) (by decide +kernel)
theorem lm_X4_init : LkM yX4_init cX4_init 1 (none) 0 := ⟨lwg_of (List.mem_of_getElem? (i := 87) (by decide +kernel)) rfl, ini_X4, ⟨by decide +kernel, by decide +kernel, by decide +kernel⟩, by decide⟩
theorem im_X4_init : Cond.instanceMethod yX4_init ∈ lwg := lwg_of (List.mem_of_getElem? (i := 86) (by decide +kernel)) (by decide +kernel)
theorem lm_X3_init : LkM yX3_init cX3_init 1 (none) 0 := ⟨lwg_of (List.mem_of_getElem? (i := 95) (by decide +kernel)) rfl, ini_X3, ⟨by decide +kernel, by decide +kernel, by decide +kernel⟩, by decide⟩
theorem im_X3_init : Cond.instanceMethod yX3_init ∈ lwg := lwg_of (List.mem_of_getElem? (i := 94) (by decide +kernel)) (by decide +kernel)
theorem lm_X0_init : LkM yX0_init cX0_init 1 (none) 0 := ⟨lwg_of (List.mem_of_getElem? (i := 101) (by decide +kernel)) rfl, ini_X0, ⟨by decide +kernel, by decide +kernel, by decide +kernel⟩, by decide⟩
theorem im_X0_init : Cond.instanceMethod yX0_init ∈ lwg := lwg_of (List.mem_of_getElem? (i := 100) (by decide +kernel)) (by decide +kernel)
theorem lm_J7_fill_53178 : LkM yJ7_fill_53178 cJ7_fill_53178 4 (none) 2 := ⟨lwg_of (List.mem_of_getElem? (i := 131) (by decide +kernel)) rfl, ini_J7, ⟨by decide +kernel, by decide +kernel, by decide +kernel⟩, by decide⟩
theorem sm_J7_fill_53178 : Cond.static yJ7_fill_53178 ∈ lwg := lwg_of (List.mem_of_getElem? (i := 130) (by decide +kernel)) (by decide +kernel)
theorem lm_X4_copyRow : LkM yX4_copyRow cX4_copyRow 2 (none) 2 := ⟨lwg_of (List.mem_of_getElem? (i := 136) (by decide +kernel)) rfl, ini_X4, ⟨by decide +kernel, by decide +kernel, by decide +kernel⟩, by decide⟩
theorem sm_X4_copyRow : Cond.static yX4_copyRow ∈ lwg := lwg_of (List.mem_of_getElem? (i := 135) (by decide +kernel)) (by decide +kernel)
theorem lm_J9_min_7cf53 : LkM yJ9_min_7cf53 cJ9_min_7cf53 2 (some .int) 2 := ⟨lwg_of (List.mem_of_getElem? (i := 139) (by decide +kernel)) rfl, ini_J9, ⟨by decide +kernel, by decide +kernel, by decide +kernel⟩, by decide⟩
theorem sm_J9_min_7cf53 : Cond.static yJ9_min_7cf53 ∈ lwg := lwg_of (List.mem_of_getElem? (i := 138) (by decide +kernel)) (by decide +kernel)
theorem lm_X1_init : LkM yX1_init cX1_init 2 (none) 0 := ⟨lwg_of (List.mem_of_getElem? (i := 180) (by decide +kernel)) rfl, ini_X1, ⟨by decide +kernel, by decide +kernel, by decide +kernel⟩, by decide⟩
theorem im_X1_init : Cond.instanceMethod yX1_init ∈ lwg := lwg_of (List.mem_of_getElem? (i := 179) (by decide +kernel)) (by decide +kernel)
theorem lm_X2_init : LkM yX2_init cX2_init 1 (none) 0 := ⟨lwg_of (List.mem_of_getElem? (i := 197) (by decide +kernel)) rfl, ini_X2, ⟨by decide +kernel, by decide +kernel, by decide +kernel⟩, by decide⟩
theorem im_X2_init : Cond.instanceMethod yX2_init ∈ lwg := lwg_of (List.mem_of_getElem? (i := 196) (by decide +kernel)) (by decide +kernel)
theorem lm_X4_clearBuffer : LkM yX4_clearBuffer cX4_clearBuffer 2 (some .int) 0 := ⟨lwg_of (List.mem_of_getElem? (i := 246) (by decide +kernel)) rfl, ini_X4, ⟨by decide +kernel, by decide +kernel, by decide +kernel⟩, by decide⟩
theorem im_X4_clearBuffer : Cond.instanceMethod yX4_clearBuffer ∈ lwg := lwg_of (List.mem_of_getElem? (i := 244) (by decide +kernel)) (by decide +kernel)
theorem se_X4_clearBuffer : Cond.selects RX4 yX4_clearBuffer yX4_clearBuffer ∈ lwg := lwg_of (List.mem_of_getElem? (i := 245) (by decide +kernel)) (by decide +kernel)
theorem lm_X4_firstError : LkM yX4_firstError cX4_firstError 1 (some .int) 0 := ⟨lwg_of (List.mem_of_getElem? (i := 250) (by decide +kernel)) rfl, ini_X4, ⟨by decide +kernel, by decide +kernel, by decide +kernel⟩, by decide⟩
theorem im_X4_firstError : Cond.instanceMethod yX4_firstError ∈ lwg := lwg_of (List.mem_of_getElem? (i := 248) (by decide +kernel)) (by decide +kernel)
theorem se_X4_firstError : Cond.selects RX4 yX4_firstError yX4_firstError ∈ lwg := lwg_of (List.mem_of_getElem? (i := 249) (by decide +kernel)) (by decide +kernel)
theorem lm_X4_readBuffer : LkM yX4_readBuffer cX4_readBuffer 2 (some .int) 0 := ⟨lwg_of (List.mem_of_getElem? (i := 254) (by decide +kernel)) rfl, ini_X4, ⟨by decide +kernel, by decide +kernel, by decide +kernel⟩, by decide⟩
theorem im_X4_readBuffer : Cond.instanceMethod yX4_readBuffer ∈ lwg := lwg_of (List.mem_of_getElem? (i := 253) (by decide +kernel)) (by decide +kernel)
theorem se_X4_readBuffer : Cond.selects RX4 yX4_readBuffer yX4_readBuffer ∈ lwg := lwg_of (List.mem_of_getElem? (i := 0) (by decide +kernel)) (by decide +kernel)
theorem lm_X2_start : LkM yX2_start cX2_start 1 (none) 0 := ⟨lwg_of (List.mem_of_getElem? (i := 258) (by decide +kernel)) rfl, ini_X2, ⟨by decide +kernel, by decide +kernel, by decide +kernel⟩, by decide⟩
theorem im_X2_start : Cond.instanceMethod yX2_start ∈ lwg := lwg_of (List.mem_of_getElem? (i := 256) (by decide +kernel)) (by decide +kernel)
theorem se_X2_start : Cond.selects RX2 yX2_start yX2_start ∈ lwg := lwg_of (List.mem_of_getElem? (i := 257) (by decide +kernel)) (by decide +kernel)
theorem lm_X4_at : LkM yX4_at cX4_at 2 (some .int) 2 := ⟨lwg_of (List.mem_of_getElem? (i := 261) (by decide +kernel)) rfl, ini_X4, ⟨by decide +kernel, by decide +kernel, by decide +kernel⟩, by decide⟩
theorem sm_X4_at : Cond.static yX4_at ∈ lwg := lwg_of (List.mem_of_getElem? (i := 260) (by decide +kernel)) (by decide +kernel)
theorem lm_X2_accepts : LkM yX2_accepts cX2_accepts 2 (some .boolean) 1 := ⟨lwg_of (List.mem_of_getElem? (i := 265) (by decide +kernel)) rfl, ini_X2, ⟨by decide +kernel, by decide +kernel, by decide +kernel⟩, by decide⟩
theorem im_X2_accepts : Cond.instanceMethod yX2_accepts ∈ lwg := lwg_of (List.mem_of_getElem? (i := 263) (by decide +kernel)) (by decide +kernel)
theorem se_X2_accepts : Cond.selects RX2 yX2_accepts yX2_accepts ∈ lwg := lwg_of (List.mem_of_getElem? (i := 264) (by decide +kernel)) (by decide +kernel)
theorem lm_X2_acceptsLetter : LkM yX2_acceptsLetter cX2_acceptsLetter 2 (some .boolean) 1 := ⟨lwg_of (List.mem_of_getElem? (i := 269) (by decide +kernel)) rfl, ini_X2, ⟨by decide +kernel, by decide +kernel, by decide +kernel⟩, by decide⟩
theorem im_X2_acceptsLetter : Cond.instanceMethod yX2_acceptsLetter ∈ lwg := lwg_of (List.mem_of_getElem? (i := 268) (by decide +kernel)) (by decide +kernel)
theorem se_X2_acceptsLetter : Cond.selects RX2 yX2_acceptsLetter yX2_acceptsLetter ∈ lwg := lwg_of (List.mem_of_getElem? (i := 1) (by decide +kernel)) (by decide +kernel)
theorem lm_X2_acceptsFirstDigit : LkM yX2_acceptsFirstDigit cX2_acceptsFirstDigit 2 (some .boolean) 1 := ⟨lwg_of (List.mem_of_getElem? (i := 273) (by decide +kernel)) rfl, ini_X2, ⟨by decide +kernel, by decide +kernel, by decide +kernel⟩, by decide⟩
theorem im_X2_acceptsFirstDigit : Cond.instanceMethod yX2_acceptsFirstDigit ∈ lwg := lwg_of (List.mem_of_getElem? (i := 272) (by decide +kernel)) (by decide +kernel)
theorem se_X2_acceptsFirstDigit : Cond.selects RX2 yX2_acceptsFirstDigit yX2_acceptsFirstDigit ∈ lwg := lwg_of (List.mem_of_getElem? (i := 2) (by decide +kernel)) (by decide +kernel)
theorem lm_X2_acceptsSecondDigit : LkM yX2_acceptsSecondDigit cX2_acceptsSecondDigit 4 (some .boolean) 1 := ⟨lwg_of (List.mem_of_getElem? (i := 277) (by decide +kernel)) rfl, ini_X2, ⟨by decide +kernel, by decide +kernel, by decide +kernel⟩, by decide⟩
theorem im_X2_acceptsSecondDigit : Cond.instanceMethod yX2_acceptsSecondDigit ∈ lwg := lwg_of (List.mem_of_getElem? (i := 276) (by decide +kernel)) (by decide +kernel)
theorem se_X2_acceptsSecondDigit : Cond.selects RX2 yX2_acceptsSecondDigit yX2_acceptsSecondDigit ∈ lwg := lwg_of (List.mem_of_getElem? (i := 3) (by decide +kernel)) (by decide +kernel)
theorem lm_X2_acceptsArrow : LkM yX2_acceptsArrow cX2_acceptsArrow 2 (some .boolean) 1 := ⟨lwg_of (List.mem_of_getElem? (i := 281) (by decide +kernel)) rfl, ini_X2, ⟨by decide +kernel, by decide +kernel, by decide +kernel⟩, by decide⟩
theorem im_X2_acceptsArrow : Cond.instanceMethod yX2_acceptsArrow ∈ lwg := lwg_of (List.mem_of_getElem? (i := 280) (by decide +kernel)) (by decide +kernel)
theorem se_X2_acceptsArrow : Cond.selects RX2 yX2_acceptsArrow yX2_acceptsArrow ∈ lwg := lwg_of (List.mem_of_getElem? (i := 4) (by decide +kernel)) (by decide +kernel)
theorem lm_X2_arrowIsDue : LkM yX2_arrowIsDue cX2_arrowIsDue 1 (some .boolean) 0 := ⟨lwg_of (List.mem_of_getElem? (i := 285) (by decide +kernel)) rfl, ini_X2, ⟨by decide +kernel, by decide +kernel, by decide +kernel⟩, by decide⟩
theorem im_X2_arrowIsDue : Cond.instanceMethod yX2_arrowIsDue ∈ lwg := lwg_of (List.mem_of_getElem? (i := 284) (by decide +kernel)) (by decide +kernel)
theorem se_X2_arrowIsDue : Cond.selects RX2 yX2_arrowIsDue yX2_arrowIsDue ∈ lwg := lwg_of (List.mem_of_getElem? (i := 5) (by decide +kernel)) (by decide +kernel)
theorem lm_X2_acceptsEndOfPart : LkM yX2_acceptsEndOfPart cX2_acceptsEndOfPart 2 (some .boolean) 1 := ⟨lwg_of (List.mem_of_getElem? (i := 289) (by decide +kernel)) rfl, ini_X2, ⟨by decide +kernel, by decide +kernel, by decide +kernel⟩, by decide⟩
theorem im_X2_acceptsEndOfPart : Cond.instanceMethod yX2_acceptsEndOfPart ∈ lwg := lwg_of (List.mem_of_getElem? (i := 288) (by decide +kernel)) (by decide +kernel)
theorem se_X2_acceptsEndOfPart : Cond.selects RX2 yX2_acceptsEndOfPart yX2_acceptsEndOfPart ∈ lwg := lwg_of (List.mem_of_getElem? (i := 6) (by decide +kernel)) (by decide +kernel)
theorem lm_X2_isComplete : LkM yX2_isComplete cX2_isComplete 1 (some .boolean) 0 := ⟨lwg_of (List.mem_of_getElem? (i := 293) (by decide +kernel)) rfl, ini_X2, ⟨by decide +kernel, by decide +kernel, by decide +kernel⟩, by decide⟩
theorem im_X2_isComplete : Cond.instanceMethod yX2_isComplete ∈ lwg := lwg_of (List.mem_of_getElem? (i := 291) (by decide +kernel)) (by decide +kernel)
theorem se_X2_isComplete : Cond.selects RX2 yX2_isComplete yX2_isComplete ∈ lwg := lwg_of (List.mem_of_getElem? (i := 292) (by decide +kernel)) (by decide +kernel)
theorem lm_X4_keep : LkM yX4_keep cX4_keep 1 (some .int) 0 := ⟨lwg_of (List.mem_of_getElem? (i := 297) (by decide +kernel)) rfl, ini_X4, ⟨by decide +kernel, by decide +kernel, by decide +kernel⟩, by decide⟩
theorem im_X4_keep : Cond.instanceMethod yX4_keep ∈ lwg := lwg_of (List.mem_of_getElem? (i := 295) (by decide +kernel)) (by decide +kernel)
theorem se_X4_keep : Cond.selects RX4 yX4_keep yX4_keep ∈ lwg := lwg_of (List.mem_of_getElem? (i := 296) (by decide +kernel)) (by decide +kernel)
theorem lm_X3_copyFrom : LkM yX3_copyFrom cX3_copyFrom 2 (none) 1 := ⟨lwg_of (List.mem_of_getElem? (i := 301) (by decide +kernel)) rfl, ini_X3, ⟨by decide +kernel, by decide +kernel, by decide +kernel⟩, by decide⟩
theorem im_X3_copyFrom : Cond.instanceMethod yX3_copyFrom ∈ lwg := lwg_of (List.mem_of_getElem? (i := 299) (by decide +kernel)) (by decide +kernel)
theorem se_X3_copyFrom : Cond.selects RX3 yX3_copyFrom yX3_copyFrom ∈ lwg := lwg_of (List.mem_of_getElem? (i := 300) (by decide +kernel)) (by decide +kernel)
theorem lm_X0_copyFrom : LkM yX0_copyFrom cX0_copyFrom 2 (none) 1 := ⟨lwg_of (List.mem_of_getElem? (i := 305) (by decide +kernel)) rfl, ini_X0, ⟨by decide +kernel, by decide +kernel, by decide +kernel⟩, by decide⟩
theorem im_X0_copyFrom : Cond.instanceMethod yX0_copyFrom ∈ lwg := lwg_of (List.mem_of_getElem? (i := 303) (by decide +kernel)) (by decide +kernel)
theorem se_X0_copyFrom : Cond.selects RX0 yX0_copyFrom yX0_copyFrom ∈ lwg := lwg_of (List.mem_of_getElem? (i := 304) (by decide +kernel)) (by decide +kernel)
theorem lm_X4_nextMove : LkM yX4_nextMove cX4_nextMove 6 (some .int) 0 := ⟨lwg_of (List.mem_of_getElem? (i := 310) (by decide +kernel)) rfl, ini_X4, ⟨by decide +kernel, by decide +kernel, by decide +kernel⟩, by decide⟩
theorem im_X4_nextMove : Cond.instanceMethod yX4_nextMove ∈ lwg := lwg_of (List.mem_of_getElem? (i := 308) (by decide +kernel)) (by decide +kernel)
theorem se_X4_nextMove : Cond.selects RX4 yX4_nextMove yX4_nextMove ∈ lwg := lwg_of (List.mem_of_getElem? (i := 309) (by decide +kernel)) (by decide +kernel)
theorem lm_X0_longestRowBySheets : LkM yX0_longestRowBySheets cX0_longestRowBySheets 3 (some .int) 0 := ⟨lwg_of (List.mem_of_getElem? (i := 314) (by decide +kernel)) rfl, ini_X0, ⟨by decide +kernel, by decide +kernel, by decide +kernel⟩, by decide⟩
theorem im_X0_longestRowBySheets : Cond.instanceMethod yX0_longestRowBySheets ∈ lwg := lwg_of (List.mem_of_getElem? (i := 312) (by decide +kernel)) (by decide +kernel)
theorem se_X0_longestRowBySheets : Cond.selects RX0 yX0_longestRowBySheets yX0_longestRowBySheets ∈ lwg := lwg_of (List.mem_of_getElem? (i := 313) (by decide +kernel)) (by decide +kernel)
theorem lm_X0_findLongestEnding : LkM yX0_findLongestEnding cX0_findLongestEnding 2 (none) 0 := ⟨lwg_of (List.mem_of_getElem? (i := 318) (by decide +kernel)) rfl, ini_X0, ⟨by decide +kernel, by decide +kernel, by decide +kernel⟩, by decide⟩
theorem im_X0_findLongestEnding : Cond.instanceMethod yX0_findLongestEnding ∈ lwg := lwg_of (List.mem_of_getElem? (i := 317) (by decide +kernel)) (by decide +kernel)
theorem se_X0_findLongestEnding : Cond.selects RX0 yX0_findLongestEnding yX0_findLongestEnding ∈ lwg := lwg_of (List.mem_of_getElem? (i := 7) (by decide +kernel)) (by decide +kernel)
theorem lm_X0_longestAhead : LkM yX0_longestAhead cX0_longestAhead 5 (some .int) 2 := ⟨lwg_of (List.mem_of_getElem? (i := 323) (by decide +kernel)) rfl, ini_X0, ⟨by decide +kernel, by decide +kernel, by decide +kernel⟩, by decide⟩
theorem im_X0_longestAhead : Cond.instanceMethod yX0_longestAhead ∈ lwg := lwg_of (List.mem_of_getElem? (i := 322) (by decide +kernel)) (by decide +kernel)
theorem se_X0_longestAhead : Cond.selects RX0 yX0_longestAhead yX0_longestAhead ∈ lwg := lwg_of (List.mem_of_getElem? (i := 8) (by decide +kernel)) (by decide +kernel)
theorem lm_J9_max_7cf53 : LkM yJ9_max_7cf53 cJ9_max_7cf53 2 (some .int) 2 := ⟨lwg_of (List.mem_of_getElem? (i := 326) (by decide +kernel)) rfl, ini_J9, ⟨by decide +kernel, by decide +kernel, by decide +kernel⟩, by decide⟩
theorem sm_J9_max_7cf53 : Cond.static yJ9_max_7cf53 ∈ lwg := lwg_of (List.mem_of_getElem? (i := 325) (by decide +kernel)) (by decide +kernel)
theorem lm_X4_put : LkM yX4_put cX4_put 3 (none) 3 := ⟨lwg_of (List.mem_of_getElem? (i := 329) (by decide +kernel)) rfl, ini_X4, ⟨by decide +kernel, by decide +kernel, by decide +kernel⟩, by decide⟩
theorem sm_X4_put : Cond.static yX4_put ∈ lwg := lwg_of (List.mem_of_getElem? (i := 328) (by decide +kernel)) (by decide +kernel)
theorem lm_X0_takeOut : LkM yX0_takeOut cX0_takeOut 3 (none) 1 := ⟨lwg_of (List.mem_of_getElem? (i := 334) (by decide +kernel)) rfl, ini_X0, ⟨by decide +kernel, by decide +kernel, by decide +kernel⟩, by decide⟩
theorem im_X0_takeOut : Cond.instanceMethod yX0_takeOut ∈ lwg := lwg_of (List.mem_of_getElem? (i := 332) (by decide +kernel)) (by decide +kernel)
theorem se_X0_takeOut : Cond.selects RX0 yX0_takeOut yX0_takeOut ∈ lwg := lwg_of (List.mem_of_getElem? (i := 333) (by decide +kernel)) (by decide +kernel)
theorem lm_X0_hasPlace : LkM yX0_hasPlace cX0_hasPlace 2 (some .boolean) 1 := ⟨lwg_of (List.mem_of_getElem? (i := 338) (by decide +kernel)) rfl, ini_X0, ⟨by decide +kernel, by decide +kernel, by decide +kernel⟩, by decide⟩
theorem im_X0_hasPlace : Cond.instanceMethod yX0_hasPlace ∈ lwg := lwg_of (List.mem_of_getElem? (i := 336) (by decide +kernel)) (by decide +kernel)
theorem se_X0_hasPlace : Cond.selects RX0 yX0_hasPlace yX0_hasPlace ∈ lwg := lwg_of (List.mem_of_getElem? (i := 337) (by decide +kernel)) (by decide +kernel)
theorem lm_X0_placeThatMakesRowOf : LkM yX0_placeThatMakesRowOf cX0_placeThatMakesRowOf 4 (some .int) 2 := ⟨lwg_of (List.mem_of_getElem? (i := 342) (by decide +kernel)) rfl, ini_X0, ⟨by decide +kernel, by decide +kernel, by decide +kernel⟩, by decide⟩
theorem im_X0_placeThatMakesRowOf : Cond.instanceMethod yX0_placeThatMakesRowOf ∈ lwg := lwg_of (List.mem_of_getElem? (i := 340) (by decide +kernel)) (by decide +kernel)
theorem se_X0_placeThatMakesRowOf : Cond.selects RX0 yX0_placeThatMakesRowOf yX0_placeThatMakesRowOf ∈ lwg := lwg_of (List.mem_of_getElem? (i := 341) (by decide +kernel)) (by decide +kernel)
theorem lm_X0_findLongestBeginning : LkM yX0_findLongestBeginning cX0_findLongestBeginning 2 (none) 0 := ⟨lwg_of (List.mem_of_getElem? (i := 346) (by decide +kernel)) rfl, ini_X0, ⟨by decide +kernel, by decide +kernel, by decide +kernel⟩, by decide⟩
theorem im_X0_findLongestBeginning : Cond.instanceMethod yX0_findLongestBeginning ∈ lwg := lwg_of (List.mem_of_getElem? (i := 345) (by decide +kernel)) (by decide +kernel)
theorem se_X0_findLongestBeginning : Cond.selects RX0 yX0_findLongestBeginning yX0_findLongestBeginning ∈ lwg := lwg_of (List.mem_of_getElem? (i := 9) (by decide +kernel)) (by decide +kernel)
theorem lm_X0_longestFrom : LkM yX0_longestFrom cX0_longestFrom 5 (some .int) 2 := ⟨lwg_of (List.mem_of_getElem? (i := 350) (by decide +kernel)) rfl, ini_X0, ⟨by decide +kernel, by decide +kernel, by decide +kernel⟩, by decide⟩
theorem im_X0_longestFrom : Cond.instanceMethod yX0_longestFrom ∈ lwg := lwg_of (List.mem_of_getElem? (i := 349) (by decide +kernel)) (by decide +kernel)
theorem se_X0_longestFrom : Cond.selects RX0 yX0_longestFrom yX0_longestFrom ∈ lwg := lwg_of (List.mem_of_getElem? (i := 10) (by decide +kernel)) (by decide +kernel)
theorem lm_X4_fits : LkM yX4_fits cX4_fits 3 (some .int) 0 := ⟨lwg_of (List.mem_of_getElem? (i := 354) (by decide +kernel)) rfl, ini_X4, ⟨by decide +kernel, by decide +kernel, by decide +kernel⟩, by decide⟩
theorem im_X4_fits : Cond.instanceMethod yX4_fits ∈ lwg := lwg_of (List.mem_of_getElem? (i := 352) (by decide +kernel)) (by decide +kernel)
theorem se_X4_fits : Cond.selects RX4 yX4_fits yX4_fits ∈ lwg := lwg_of (List.mem_of_getElem? (i := 353) (by decide +kernel)) (by decide +kernel)
theorem lm_X3_stepDueAt : LkM yX3_stepDueAt cX3_stepDueAt 2 (some .int) 1 := ⟨lwg_of (List.mem_of_getElem? (i := 358) (by decide +kernel)) rfl, ini_X3, ⟨by decide +kernel, by decide +kernel, by decide +kernel⟩, by decide⟩
theorem im_X3_stepDueAt : Cond.instanceMethod yX3_stepDueAt ∈ lwg := lwg_of (List.mem_of_getElem? (i := 356) (by decide +kernel)) (by decide +kernel)
theorem se_X3_stepDueAt : Cond.selects RX3 yX3_stepDueAt yX3_stepDueAt ∈ lwg := lwg_of (List.mem_of_getElem? (i := 357) (by decide +kernel)) (by decide +kernel)
theorem lm_X3_stepOfMark : LkM yX3_stepOfMark cX3_stepOfMark 3 (some .int) 1 := ⟨lwg_of (List.mem_of_getElem? (i := 362) (by decide +kernel)) rfl, ini_X3, ⟨by decide +kernel, by decide +kernel, by decide +kernel⟩, by decide⟩
theorem im_X3_stepOfMark : Cond.instanceMethod yX3_stepOfMark ∈ lwg := lwg_of (List.mem_of_getElem? (i := 360) (by decide +kernel)) (by decide +kernel)
theorem se_X3_stepOfMark : Cond.selects RX3 yX3_stepOfMark yX3_stepOfMark ∈ lwg := lwg_of (List.mem_of_getElem? (i := 361) (by decide +kernel)) (by decide +kernel)
theorem lm_X3_stepOfNumber : LkM yX3_stepOfNumber cX3_stepOfNumber 3 (some .int) 1 := ⟨lwg_of (List.mem_of_getElem? (i := 367) (by decide +kernel)) rfl, ini_X3, ⟨by decide +kernel, by decide +kernel, by decide +kernel⟩, by decide⟩
theorem im_X3_stepOfNumber : Cond.instanceMethod yX3_stepOfNumber ∈ lwg := lwg_of (List.mem_of_getElem? (i := 365) (by decide +kernel)) (by decide +kernel)
theorem se_X3_stepOfNumber : Cond.selects RX3 yX3_stepOfNumber yX3_stepOfNumber ∈ lwg := lwg_of (List.mem_of_getElem? (i := 366) (by decide +kernel)) (by decide +kernel)
theorem lm_X4_books : LkM yX4_books cX4_books 3 (some .int) 0 := ⟨lwg_of (List.mem_of_getElem? (i := 372) (by decide +kernel)) rfl, ini_X4, ⟨by decide +kernel, by decide +kernel, by decide +kernel⟩, by decide⟩
theorem im_X4_books : Cond.instanceMethod yX4_books ∈ lwg := lwg_of (List.mem_of_getElem? (i := 370) (by decide +kernel)) (by decide +kernel)
theorem se_X4_books : Cond.selects RX4 yX4_books yX4_books ∈ lwg := lwg_of (List.mem_of_getElem? (i := 371) (by decide +kernel)) (by decide +kernel)
theorem lm_X3_copiesInBinAndBlock : LkM yX3_copiesInBinAndBlock cX3_copiesInBinAndBlock 2 (some .int) 1 := ⟨lwg_of (List.mem_of_getElem? (i := 376) (by decide +kernel)) rfl, ini_X3, ⟨by decide +kernel, by decide +kernel, by decide +kernel⟩, by decide⟩
theorem im_X3_copiesInBinAndBlock : Cond.instanceMethod yX3_copiesInBinAndBlock ∈ lwg := lwg_of (List.mem_of_getElem? (i := 374) (by decide +kernel)) (by decide +kernel)
theorem se_X3_copiesInBinAndBlock : Cond.selects RX3 yX3_copiesInBinAndBlock yX3_copiesInBinAndBlock ∈ lwg := lwg_of (List.mem_of_getElem? (i := 375) (by decide +kernel)) (by decide +kernel)
theorem lm_X0_copiesOf : LkM yX0_copiesOf cX0_copiesOf 4 (some .int) 1 := ⟨lwg_of (List.mem_of_getElem? (i := 380) (by decide +kernel)) rfl, ini_X0, ⟨by decide +kernel, by decide +kernel, by decide +kernel⟩, by decide⟩
theorem im_X0_copiesOf : Cond.instanceMethod yX0_copiesOf ∈ lwg := lwg_of (List.mem_of_getElem? (i := 378) (by decide +kernel)) (by decide +kernel)
theorem se_X0_copiesOf : Cond.selects RX0 yX0_copiesOf yX0_copiesOf ∈ lwg := lwg_of (List.mem_of_getElem? (i := 379) (by decide +kernel)) (by decide +kernel)
theorem lm_X3_bookSheets : LkM yX3_bookSheets cX3_bookSheets 1 (some .int) 0 := ⟨lwg_of (List.mem_of_getElem? (i := 384) (by decide +kernel)) rfl, ini_X3, ⟨by decide +kernel, by decide +kernel, by decide +kernel⟩, by decide⟩
theorem im_X3_bookSheets : Cond.instanceMethod yX3_bookSheets ∈ lwg := lwg_of (List.mem_of_getElem? (i := 382) (by decide +kernel)) (by decide +kernel)
theorem se_X3_bookSheets : Cond.selects RX3 yX3_bookSheets yX3_bookSheets ∈ lwg := lwg_of (List.mem_of_getElem? (i := 383) (by decide +kernel)) (by decide +kernel)
theorem lm_X4_stairShare : LkM yX4_stairShare cX4_stairShare 2 (some .double) 0 := ⟨lwg_of (List.mem_of_getElem? (i := 388) (by decide +kernel)) rfl, ini_X4, ⟨by decide +kernel, by decide +kernel, by decide +kernel⟩, by decide⟩
theorem im_X4_stairShare : Cond.instanceMethod yX4_stairShare ∈ lwg := lwg_of (List.mem_of_getElem? (i := 386) (by decide +kernel)) (by decide +kernel)
theorem se_X4_stairShare : Cond.selects RX4 yX4_stairShare yX4_stairShare ∈ lwg := lwg_of (List.mem_of_getElem? (i := 387) (by decide +kernel)) (by decide +kernel)
theorem lm_X3_breaks : LkM yX3_breaks cX3_breaks 5 (some .int) 0 := ⟨lwg_of (List.mem_of_getElem? (i := 392) (by decide +kernel)) rfl, ini_X3, ⟨by decide +kernel, by decide +kernel, by decide +kernel⟩, by decide⟩
theorem im_X3_breaks : Cond.instanceMethod yX3_breaks ∈ lwg := lwg_of (List.mem_of_getElem? (i := 390) (by decide +kernel)) (by decide +kernel)
theorem se_X3_breaks : Cond.selects RX3 yX3_breaks yX3_breaks ∈ lwg := lwg_of (List.mem_of_getElem? (i := 391) (by decide +kernel)) (by decide +kernel)
theorem lm_X4_meanThread : LkM yX4_meanThread cX4_meanThread 2 (some .float) 0 := ⟨lwg_of (List.mem_of_getElem? (i := 396) (by decide +kernel)) rfl, ini_X4, ⟨by decide +kernel, by decide +kernel, by decide +kernel⟩, by decide⟩
theorem im_X4_meanThread : Cond.instanceMethod yX4_meanThread ∈ lwg := lwg_of (List.mem_of_getElem? (i := 394) (by decide +kernel)) (by decide +kernel)
theorem se_X4_meanThread : Cond.selects RX4 yX4_meanThread yX4_meanThread ∈ lwg := lwg_of (List.mem_of_getElem? (i := 395) (by decide +kernel)) (by decide +kernel)
theorem lm_X3_threadLength : LkM yX3_threadLength cX3_threadLength 3 (some .int) 0 := ⟨lwg_of (List.mem_of_getElem? (i := 400) (by decide +kernel)) rfl, ini_X3, ⟨by decide +kernel, by decide +kernel, by decide +kernel⟩, by decide⟩
theorem im_X3_threadLength : Cond.instanceMethod yX3_threadLength ∈ lwg := lwg_of (List.mem_of_getElem? (i := 398) (by decide +kernel)) (by decide +kernel)
theorem se_X3_threadLength : Cond.selects RX3 yX3_threadLength yX3_threadLength ∈ lwg := lwg_of (List.mem_of_getElem? (i := 399) (by decide +kernel)) (by decide +kernel)
theorem lm_X3_stitches : LkM yX3_stitches cX3_stitches 3 (some .int) 0 := ⟨lwg_of (List.mem_of_getElem? (i := 404) (by decide +kernel)) rfl, ini_X3, ⟨by decide +kernel, by decide +kernel, by decide +kernel⟩, by decide⟩
theorem im_X3_stitches : Cond.instanceMethod yX3_stitches ∈ lwg := lwg_of (List.mem_of_getElem? (i := 402) (by decide +kernel)) (by decide +kernel)
theorem se_X3_stitches : Cond.selects RX3 yX3_stitches yX3_stitches ∈ lwg := lwg_of (List.mem_of_getElem? (i := 403) (by decide +kernel)) (by decide +kernel)
theorem lm_X3_stitchesAheadOf : LkM yX3_stitchesAheadOf cX3_stitchesAheadOf 2 (some .int) 1 := ⟨lwg_of (List.mem_of_getElem? (i := 408) (by decide +kernel)) rfl, ini_X3, ⟨by decide +kernel, by decide +kernel, by decide +kernel⟩, by decide⟩
theorem im_X3_stitchesAheadOf : Cond.instanceMethod yX3_stitchesAheadOf ∈ lwg := lwg_of (List.mem_of_getElem? (i := 406) (by decide +kernel)) (by decide +kernel)
theorem se_X3_stitchesAheadOf : Cond.selects RX3 yX3_stitchesAheadOf yX3_stitchesAheadOf ∈ lwg := lwg_of (List.mem_of_getElem? (i := 407) (by decide +kernel)) (by decide +kernel)
theorem lm_X3_holesAt : LkM yX3_holesAt cX3_holesAt 2 (some .int) 1 := ⟨lwg_of (List.mem_of_getElem? (i := 412) (by decide +kernel)) rfl, ini_X3, ⟨by decide +kernel, by decide +kernel, by decide +kernel⟩, by decide⟩
theorem im_X3_holesAt : Cond.instanceMethod yX3_holesAt ∈ lwg := lwg_of (List.mem_of_getElem? (i := 410) (by decide +kernel)) (by decide +kernel)
theorem se_X3_holesAt : Cond.selects RX3 yX3_holesAt yX3_holesAt ∈ lwg := lwg_of (List.mem_of_getElem? (i := 411) (by decide +kernel)) (by decide +kernel)
theorem lm_J6_bitCount_0f7a4 : LkM yJ6_bitCount_0f7a4 cJ6_bitCount_0f7a4 1 (some .int) 1 := ⟨lwg_of (List.mem_of_getElem? (i := 415) (by decide +kernel)) rfl, ini_J6, ⟨by decide +kernel, by decide +kernel, by decide +kernel⟩, by decide⟩
theorem sm_J6_bitCount_0f7a4 : Cond.static yJ6_bitCount_0f7a4 ∈ lwg := lwg_of (List.mem_of_getElem? (i := 414) (by decide +kernel)) (by decide +kernel)
theorem lm_X3_spanOfHoles : LkM yX3_spanOfHoles cX3_spanOfHoles 3 (some .int) 1 := ⟨lwg_of (List.mem_of_getElem? (i := 421) (by decide +kernel)) rfl, ini_X3, ⟨by decide +kernel, by decide +kernel, by decide +kernel⟩, by decide⟩
theorem sm_X3_spanOfHoles : Cond.static yX3_spanOfHoles ∈ lwg := lwg_of (List.mem_of_getElem? (i := 420) (by decide +kernel)) (by decide +kernel)
theorem lm_X4_digest : LkM yX4_digest cX4_digest 5 (some .long) 0 := ⟨lwg_of (List.mem_of_getElem? (i := 426) (by decide +kernel)) rfl, ini_X4, ⟨by decide +kernel, by decide +kernel, by decide +kernel⟩, by decide⟩
theorem im_X4_digest : Cond.instanceMethod yX4_digest ∈ lwg := lwg_of (List.mem_of_getElem? (i := 424) (by decide +kernel)) (by decide +kernel)
theorem se_X4_digest : Cond.selects RX4 yX4_digest yX4_digest ∈ lwg := lwg_of (List.mem_of_getElem? (i := 425) (by decide +kernel)) (by decide +kernel)
theorem lm_X4_count : LkM yX4_count cX4_count 2 (some .int) 1 := ⟨lwg_of (List.mem_of_getElem? (i := 431) (by decide +kernel)) rfl, ini_X4, ⟨by decide +kernel, by decide +kernel, by decide +kernel⟩, by decide⟩
theorem im_X4_count : Cond.instanceMethod yX4_count ∈ lwg := lwg_of (List.mem_of_getElem? (i := 429) (by decide +kernel)) (by decide +kernel)
theorem se_X4_count : Cond.selects RX4 yX4_count yX4_count ∈ lwg := lwg_of (List.mem_of_getElem? (i := 430) (by decide +kernel)) (by decide +kernel)
theorem lm_X3_fault : LkM yX3_fault cX3_fault 1 (some .int) 0 := ⟨lwg_of (List.mem_of_getElem? (i := 503) (by decide +kernel)) rfl, ini_X3, ⟨by decide +kernel, by decide +kernel, by decide +kernel⟩, by decide⟩
theorem im_X3_fault : Cond.instanceMethod yX3_fault ∈ lwg := lwg_of (List.mem_of_getElem? (i := 501) (by decide +kernel)) (by decide +kernel)
theorem se_X3_fault : Cond.selects RX3 yX3_fault yX3_fault ∈ lwg := lwg_of (List.mem_of_getElem? (i := 502) (by decide +kernel)) (by decide +kernel)
theorem lm_X0_firstTurned : LkM yX0_firstTurned cX0_firstTurned 2 (some .int) 0 := ⟨lwg_of (List.mem_of_getElem? (i := 507) (by decide +kernel)) rfl, ini_X0, ⟨by decide +kernel, by decide +kernel, by decide +kernel⟩, by decide⟩
theorem im_X0_firstTurned : Cond.instanceMethod yX0_firstTurned ∈ lwg := lwg_of (List.mem_of_getElem? (i := 505) (by decide +kernel)) (by decide +kernel)
theorem se_X0_firstTurned : Cond.selects RX0 yX0_firstTurned yX0_firstTurned ∈ lwg := lwg_of (List.mem_of_getElem? (i := 506) (by decide +kernel)) (by decide +kernel)
theorem lm_X0_firstNotBelow : LkM yX0_firstNotBelow cX0_firstNotBelow 3 (some .int) 1 := ⟨lwg_of (List.mem_of_getElem? (i := 512) (by decide +kernel)) rfl, ini_X0, ⟨by decide +kernel, by decide +kernel, by decide +kernel⟩, by decide⟩
theorem im_X0_firstNotBelow : Cond.instanceMethod yX0_firstNotBelow ∈ lwg := lwg_of (List.mem_of_getElem? (i := 510) (by decide +kernel)) (by decide +kernel)
theorem se_X0_firstNotBelow : Cond.selects RX0 yX0_firstNotBelow yX0_firstNotBelow ∈ lwg := lwg_of (List.mem_of_getElem? (i := 511) (by decide +kernel)) (by decide +kernel)
theorem lm_X0_firstDouble : LkM yX0_firstDouble cX0_firstDouble 3 (some .int) 0 := ⟨lwg_of (List.mem_of_getElem? (i := 516) (by decide +kernel)) rfl, ini_X0, ⟨by decide +kernel, by decide +kernel, by decide +kernel⟩, by decide⟩
theorem im_X0_firstDouble : Cond.instanceMethod yX0_firstDouble ∈ lwg := lwg_of (List.mem_of_getElem? (i := 514) (by decide +kernel)) (by decide +kernel)
theorem se_X0_firstDouble : Cond.selects RX0 yX0_firstDouble yX0_firstDouble ∈ lwg := lwg_of (List.mem_of_getElem? (i := 515) (by decide +kernel)) (by decide +kernel)
theorem lm_X3_lowestMissing : LkM yX3_lowestMissing cX3_lowestMissing 2 (some .int) 0 := ⟨lwg_of (List.mem_of_getElem? (i := 520) (by decide +kernel)) rfl, ini_X3, ⟨by decide +kernel, by decide +kernel, by decide +kernel⟩, by decide⟩
theorem im_X3_lowestMissing : Cond.instanceMethod yX3_lowestMissing ∈ lwg := lwg_of (List.mem_of_getElem? (i := 518) (by decide +kernel)) (by decide +kernel)
theorem se_X3_lowestMissing : Cond.selects RX3 yX3_lowestMissing yX3_lowestMissing ∈ lwg := lwg_of (List.mem_of_getElem? (i := 519) (by decide +kernel)) (by decide +kernel)
theorem lm_X0_firstFall : LkM yX0_firstFall cX0_firstFall 2 (some .int) 0 := ⟨lwg_of (List.mem_of_getElem? (i := 524) (by decide +kernel)) rfl, ini_X0, ⟨by decide +kernel, by decide +kernel, by decide +kernel⟩, by decide⟩
theorem im_X0_firstFall : Cond.instanceMethod yX0_firstFall ∈ lwg := lwg_of (List.mem_of_getElem? (i := 522) (by decide +kernel)) (by decide +kernel)
theorem se_X0_firstFall : Cond.selects RX0 yX0_firstFall yX0_firstFall ∈ lwg := lwg_of (List.mem_of_getElem? (i := 523) (by decide +kernel)) (by decide +kernel)
theorem lm_X3_placeOfFault : LkM yX3_placeOfFault cX3_placeOfFault 1 (some .int) 0 := ⟨lwg_of (List.mem_of_getElem? (i := 528) (by decide +kernel)) rfl, ini_X3, ⟨by decide +kernel, by decide +kernel, by decide +kernel⟩, by decide⟩
theorem im_X3_placeOfFault : Cond.instanceMethod yX3_placeOfFault ∈ lwg := lwg_of (List.mem_of_getElem? (i := 526) (by decide +kernel)) (by decide +kernel)
theorem se_X3_placeOfFault : Cond.selects RX3 yX3_placeOfFault yX3_placeOfFault ∈ lwg := lwg_of (List.mem_of_getElem? (i := 527) (by decide +kernel)) (by decide +kernel)
theorem lm_X0_fewestMovesBySheets : LkM yX0_fewestMovesBySheets cX0_fewestMovesBySheets 1 (some .int) 0 := ⟨lwg_of (List.mem_of_getElem? (i := 534) (by decide +kernel)) rfl, ini_X0, ⟨by decide +kernel, by decide +kernel, by decide +kernel⟩, by decide⟩
theorem im_X0_fewestMovesBySheets : Cond.instanceMethod yX0_fewestMovesBySheets ∈ lwg := lwg_of (List.mem_of_getElem? (i := 532) (by decide +kernel)) (by decide +kernel)
theorem se_X0_fewestMovesBySheets : Cond.selects RX0 yX0_fewestMovesBySheets yX0_fewestMovesBySheets ∈ lwg := lwg_of (List.mem_of_getElem? (i := 533) (by decide +kernel)) (by decide +kernel)
theorem lm_X0_fewestMovesByPiles : LkM yX0_fewestMovesByPiles cX0_fewestMovesByPiles 1 (some .int) 0 := ⟨lwg_of (List.mem_of_getElem? (i := 539) (by decide +kernel)) rfl, ini_X0, ⟨by decide +kernel, by decide +kernel, by decide +kernel⟩, by decide⟩
theorem im_X0_fewestMovesByPiles : Cond.instanceMethod yX0_fewestMovesByPiles ∈ lwg := lwg_of (List.mem_of_getElem? (i := 537) (by decide +kernel)) (by decide +kernel)
theorem se_X0_fewestMovesByPiles : Cond.selects RX0 yX0_fewestMovesByPiles yX0_fewestMovesByPiles ∈ lwg := lwg_of (List.mem_of_getElem? (i := 538) (by decide +kernel)) (by decide +kernel)
theorem lm_X0_pilesOfSheets : LkM yX0_pilesOfSheets cX0_pilesOfSheets 5 (some .int) 0 := ⟨lwg_of (List.mem_of_getElem? (i := 543) (by decide +kernel)) rfl, ini_X0, ⟨by decide +kernel, by decide +kernel, by decide +kernel⟩, by decide⟩
theorem im_X0_pilesOfSheets : Cond.instanceMethod yX0_pilesOfSheets ∈ lwg := lwg_of (List.mem_of_getElem? (i := 542) (by decide +kernel)) (by decide +kernel)
theorem se_X0_pilesOfSheets : Cond.selects RX0 yX0_pilesOfSheets yX0_pilesOfSheets ∈ lwg := lwg_of (List.mem_of_getElem? (i := 12) (by decide +kernel)) (by decide +kernel)
theorem lm_X0_fallingPairs : LkM yX0_fallingPairs cX0_fallingPairs 3 (some .int) 0 := ⟨lwg_of (List.mem_of_getElem? (i := 547) (by decide +kernel)) rfl, ini_X0, ⟨by decide +kernel, by decide +kernel, by decide +kernel⟩, by decide⟩
theorem im_X0_fallingPairs : Cond.instanceMethod yX0_fallingPairs ∈ lwg := lwg_of (List.mem_of_getElem? (i := 545) (by decide +kernel)) (by decide +kernel)
theorem se_X0_fallingPairs : Cond.selects RX0 yX0_fallingPairs yX0_fallingPairs ∈ lwg := lwg_of (List.mem_of_getElem? (i := 546) (by decide +kernel)) (by decide +kernel)
theorem lm_X0_greaterAheadOf : LkM yX0_greaterAheadOf cX0_greaterAheadOf 4 (some .int) 1 := ⟨lwg_of (List.mem_of_getElem? (i := 551) (by decide +kernel)) rfl, ini_X0, ⟨by decide +kernel, by decide +kernel, by decide +kernel⟩, by decide⟩
theorem im_X0_greaterAheadOf : Cond.instanceMethod yX0_greaterAheadOf ∈ lwg := lwg_of (List.mem_of_getElem? (i := 549) (by decide +kernel)) (by decide +kernel)
theorem se_X0_greaterAheadOf : Cond.selects RX0 yX0_greaterAheadOf yX0_greaterAheadOf ∈ lwg := lwg_of (List.mem_of_getElem? (i := 550) (by decide +kernel)) (by decide +kernel)
theorem lm_X3_loosePlaces : LkM yX3_loosePlaces cX3_loosePlaces 3 (some .int) 0 := ⟨lwg_of (List.mem_of_getElem? (i := 556) (by decide +kernel)) rfl, ini_X3, ⟨by decide +kernel, by decide +kernel, by decide +kernel⟩, by decide⟩
theorem im_X3_loosePlaces : Cond.instanceMethod yX3_loosePlaces ∈ lwg := lwg_of (List.mem_of_getElem? (i := 554) (by decide +kernel)) (by decide +kernel)
theorem se_X3_loosePlaces : Cond.selects RX3 yX3_loosePlaces yX3_loosePlaces ∈ lwg := lwg_of (List.mem_of_getElem? (i := 555) (by decide +kernel)) (by decide +kernel)
theorem lm_X3_sheetsInBooks : LkM yX3_sheetsInBooks cX3_sheetsInBooks 3 (some .int) 0 := ⟨lwg_of (List.mem_of_getElem? (i := 560) (by decide +kernel)) rfl, ini_X3, ⟨by decide +kernel, by decide +kernel, by decide +kernel⟩, by decide⟩
theorem im_X3_sheetsInBooks : Cond.instanceMethod yX3_sheetsInBooks ∈ lwg := lwg_of (List.mem_of_getElem? (i := 558) (by decide +kernel)) (by decide +kernel)
theorem se_X3_sheetsInBooks : Cond.selects RX3 yX3_sheetsInBooks yX3_sheetsInBooks ∈ lwg := lwg_of (List.mem_of_getElem? (i := 559) (by decide +kernel)) (by decide +kernel)
theorem lm_X4_hashWith : LkM yX4_hashWith cX4_hashWith 4 (some .long) 2 := ⟨lwg_of (List.mem_of_getElem? (i := 563) (by decide +kernel)) rfl, ini_X4, ⟨by decide +kernel, by decide +kernel, by decide +kernel⟩, by decide⟩
theorem sm_X4_hashWith : Cond.static yX4_hashWith ∈ lwg := lwg_of (List.mem_of_getElem? (i := 562) (by decide +kernel)) (by decide +kernel)
theorem lm_X4_sheet : LkM yX4_sheet cX4_sheet 3 (some .int) 2 := ⟨lwg_of (List.mem_of_getElem? (i := 568) (by decide +kernel)) rfl, ini_X4, ⟨by decide +kernel, by decide +kernel, by decide +kernel⟩, by decide⟩
theorem im_X4_sheet : Cond.instanceMethod yX4_sheet ∈ lwg := lwg_of (List.mem_of_getElem? (i := 566) (by decide +kernel)) (by decide +kernel)
theorem se_X4_sheet : Cond.selects RX4 yX4_sheet yX4_sheet ∈ lwg := lwg_of (List.mem_of_getElem? (i := 567) (by decide +kernel)) (by decide +kernel)
theorem lm_X3_breaksAheadOf : LkM yX3_breaksAheadOf cX3_breaksAheadOf 2 (some .boolean) 1 := ⟨lwg_of (List.mem_of_getElem? (i := 590) (by decide +kernel)) rfl, ini_X3, ⟨by decide +kernel, by decide +kernel, by decide +kernel⟩, by decide⟩
theorem im_X3_breaksAheadOf : Cond.instanceMethod yX3_breaksAheadOf ∈ lwg := lwg_of (List.mem_of_getElem? (i := 588) (by decide +kernel)) (by decide +kernel)
theorem se_X3_breaksAheadOf : Cond.selects RX3 yX3_breaksAheadOf yX3_breaksAheadOf ∈ lwg := lwg_of (List.mem_of_getElem? (i := 589) (by decide +kernel)) (by decide +kernel)
theorem lm_X4_ifPulled : LkM yX4_ifPulled cX4_ifPulled 3 (some .int) 2 := ⟨lwg_of (List.mem_of_getElem? (i := 597) (by decide +kernel)) rfl, ini_X4, ⟨by decide +kernel, by decide +kernel, by decide +kernel⟩, by decide⟩
theorem im_X4_ifPulled : Cond.instanceMethod yX4_ifPulled ∈ lwg := lwg_of (List.mem_of_getElem? (i := 595) (by decide +kernel)) (by decide +kernel)
theorem se_X4_ifPulled : Cond.selects RX4 yX4_ifPulled yX4_ifPulled ∈ lwg := lwg_of (List.mem_of_getElem? (i := 596) (by decide +kernel)) (by decide +kernel)
theorem lm_X4_bin : LkM yX4_bin cX4_bin 3 (some .int) 2 := ⟨lwg_of (List.mem_of_getElem? (i := 602) (by decide +kernel)) rfl, ini_X4, ⟨by decide +kernel, by decide +kernel, by decide +kernel⟩, by decide⟩
theorem im_X4_bin : Cond.instanceMethod yX4_bin ∈ lwg := lwg_of (List.mem_of_getElem? (i := 600) (by decide +kernel)) (by decide +kernel)
theorem se_X4_bin : Cond.selects RX4 yX4_bin yX4_bin ∈ lwg := lwg_of (List.mem_of_getElem? (i := 601) (by decide +kernel)) (by decide +kernel)
theorem lm_X4_isBin : LkM yX4_isBin cX4_isBin 1 (some .boolean) 1 := ⟨lwg_of (List.mem_of_getElem? (i := 605) (by decide +kernel)) rfl, ini_X4, ⟨by decide +kernel, by decide +kernel, by decide +kernel⟩, by decide⟩
theorem sm_X4_isBin : Cond.static yX4_isBin ∈ lwg := lwg_of (List.mem_of_getElem? (i := 604) (by decide +kernel)) (by decide +kernel)
theorem lm_X4_bitsOfDouble : LkM yX4_bitsOfDouble cX4_bitsOfDouble 7 (some .long) 1 := ⟨lwg_of (List.mem_of_getElem? (i := 614) (by decide +kernel)) rfl, ini_X4, ⟨by decide +kernel, by decide +kernel, by decide +kernel⟩, by decide⟩
theorem sm_X4_bitsOfDouble : Cond.static yX4_bitsOfDouble ∈ lwg := lwg_of (List.mem_of_getElem? (i := 613) (by decide +kernel)) (by decide +kernel)
theorem lm_X4_bitsOfFloat : LkM yX4_bitsOfFloat cX4_bitsOfFloat 3 (some .int) 1 := ⟨lwg_of (List.mem_of_getElem? (i := 620) (by decide +kernel)) rfl, ini_X4, ⟨by decide +kernel, by decide +kernel, by decide +kernel⟩, by decide⟩
theorem sm_X4_bitsOfFloat : Cond.static yX4_bitsOfFloat ∈ lwg := lwg_of (List.mem_of_getElem? (i := 619) (by decide +kernel)) (by decide +kernel)
theorem lm_X4_hashWithBuffer : LkM yX4_hashWithBuffer cX4_hashWithBuffer 6 (some .long) 1 := ⟨lwg_of (List.mem_of_getElem? (i := 625) (by decide +kernel)) rfl, ini_X4, ⟨by decide +kernel, by decide +kernel, by decide +kernel⟩, by decide⟩
theorem im_X4_hashWithBuffer : Cond.instanceMethod yX4_hashWithBuffer ∈ lwg := lwg_of (List.mem_of_getElem? (i := 624) (by decide +kernel)) (by decide +kernel)
theorem se_X4_hashWithBuffer : Cond.selects RX4 yX4_hashWithBuffer yX4_hashWithBuffer ∈ lwg := lwg_of (List.mem_of_getElem? (i := 13) (by decide +kernel)) (by decide +kernel)
theorem sm_L_gather : Cond.static yL_gather ∈ lwg := lwg_of (List.mem_of_getElem? (i := 627) (by decide +kernel)) (by decide +kernel)
theorem lm_X4_gather : LkM yX4_gather cX4_gather 2 (some .int) 1 := ⟨lwg_of (List.mem_of_getElem? (i := 634) (by decide +kernel)) rfl, ini_X4, ⟨by decide +kernel, by decide +kernel, by decide +kernel⟩, by decide⟩
theorem im_X4_gather : Cond.instanceMethod yX4_gather ∈ lwg := lwg_of (List.mem_of_getElem? (i := 632) (by decide +kernel)) (by decide +kernel)
theorem se_X4_gather : Cond.selects RX4 yX4_gather yX4_gather ∈ lwg := lwg_of (List.mem_of_getElem? (i := 633) (by decide +kernel)) (by decide +kernel)
theorem lm_X3_hasCopyAndRoom : LkM yX3_hasCopyAndRoom cX3_hasCopyAndRoom 2 (some .boolean) 1 := ⟨lwg_of (List.mem_of_getElem? (i := 638) (by decide +kernel)) rfl, ini_X3, ⟨by decide +kernel, by decide +kernel, by decide +kernel⟩, by decide⟩
theorem im_X3_hasCopyAndRoom : Cond.instanceMethod yX3_hasCopyAndRoom ∈ lwg := lwg_of (List.mem_of_getElem? (i := 636) (by decide +kernel)) (by decide +kernel)
theorem se_X3_hasCopyAndRoom : Cond.selects RX3 yX3_hasCopyAndRoom yX3_hasCopyAndRoom ∈ lwg := lwg_of (List.mem_of_getElem? (i := 637) (by decide +kernel)) (by decide +kernel)
theorem lm_X1_save : LkM yX1_save cX1_save 2 (none) 1 := ⟨lwg_of (List.mem_of_getElem? (i := 658) (by decide +kernel)) rfl, ini_X1, ⟨by decide +kernel, by decide +kernel, by decide +kernel⟩, by decide⟩
theorem im_X1_save : Cond.instanceMethod yX1_save ∈ lwg := lwg_of (List.mem_of_getElem? (i := 656) (by decide +kernel)) (by decide +kernel)
theorem se_X1_save : Cond.selects RX1 yX1_save yX1_save ∈ lwg := lwg_of (List.mem_of_getElem? (i := 657) (by decide +kernel)) (by decide +kernel)
theorem lm_X1_dropOldest : LkM yX1_dropOldest cX1_dropOldest 3 (none) 0 := ⟨lwg_of (List.mem_of_getElem? (i := 662) (by decide +kernel)) rfl, ini_X1, ⟨by decide +kernel, by decide +kernel, by decide +kernel⟩, by decide⟩
theorem im_X1_dropOldest : Cond.instanceMethod yX1_dropOldest ∈ lwg := lwg_of (List.mem_of_getElem? (i := 661) (by decide +kernel)) (by decide +kernel)
theorem se_X1_dropOldest : Cond.selects RX1 yX1_dropOldest yX1_dropOldest ∈ lwg := lwg_of (List.mem_of_getElem? (i := 14) (by decide +kernel)) (by decide +kernel)
theorem lm_X3_putFromBin : LkM yX3_putFromBin cX3_putFromBin 3 (none) 2 := ⟨lwg_of (List.mem_of_getElem? (i := 667) (by decide +kernel)) rfl, ini_X3, ⟨by decide +kernel, by decide +kernel, by decide +kernel⟩, by decide⟩
theorem im_X3_putFromBin : Cond.instanceMethod yX3_putFromBin ∈ lwg := lwg_of (List.mem_of_getElem? (i := 665) (by decide +kernel)) (by decide +kernel)
theorem se_X3_putFromBin : Cond.selects RX3 yX3_putFromBin yX3_putFromBin ∈ lwg := lwg_of (List.mem_of_getElem? (i := 666) (by decide +kernel)) (by decide +kernel)
theorem lm_X4_addTo : LkM yX4_addTo cX4_addTo 3 (none) 3 := ⟨lwg_of (List.mem_of_getElem? (i := 670) (by decide +kernel)) rfl, ini_X4, ⟨by decide +kernel, by decide +kernel, by decide +kernel⟩, by decide⟩
theorem sm_X4_addTo : Cond.static yX4_addTo ∈ lwg := lwg_of (List.mem_of_getElem? (i := 669) (by decide +kernel)) (by decide +kernel)
theorem lm_X0_putIn : LkM yX0_putIn cX0_putIn 5 (none) 3 := ⟨lwg_of (List.mem_of_getElem? (i := 675) (by decide +kernel)) rfl, ini_X0, ⟨by decide +kernel, by decide +kernel, by decide +kernel⟩, by decide⟩
theorem im_X0_putIn : Cond.instanceMethod yX0_putIn ∈ lwg := lwg_of (List.mem_of_getElem? (i := 673) (by decide +kernel)) (by decide +kernel)
theorem se_X0_putIn : Cond.selects RX0 yX0_putIn yX0_putIn ∈ lwg := lwg_of (List.mem_of_getElem? (i := 674) (by decide +kernel)) (by decide +kernel)
theorem sm_L_insert : Cond.static yL_insert ∈ lwg := lwg_of (List.mem_of_getElem? (i := 677) (by decide +kernel)) (by decide +kernel)
theorem lm_X4_insert : LkM yX4_insert cX4_insert 3 (some .int) 2 := ⟨lwg_of (List.mem_of_getElem? (i := 682) (by decide +kernel)) rfl, ini_X4, ⟨by decide +kernel, by decide +kernel, by decide +kernel⟩, by decide⟩
theorem im_X4_insert : Cond.instanceMethod yX4_insert ∈ lwg := lwg_of (List.mem_of_getElem? (i := 680) (by decide +kernel)) (by decide +kernel)
theorem se_X4_insert : Cond.selects RX4 yX4_insert yX4_insert ∈ lwg := lwg_of (List.mem_of_getElem? (i := 681) (by decide +kernel)) (by decide +kernel)
theorem sm_L_pull : Cond.static yL_pull ∈ lwg := lwg_of (List.mem_of_getElem? (i := 685) (by decide +kernel)) (by decide +kernel)
theorem lm_X4_pull : LkM yX4_pull cX4_pull 2 (some .int) 1 := ⟨lwg_of (List.mem_of_getElem? (i := 690) (by decide +kernel)) rfl, ini_X4, ⟨by decide +kernel, by decide +kernel, by decide +kernel⟩, by decide⟩
theorem im_X4_pull : Cond.instanceMethod yX4_pull ∈ lwg := lwg_of (List.mem_of_getElem? (i := 688) (by decide +kernel)) (by decide +kernel)
theorem se_X4_pull : Cond.selects RX4 yX4_pull yX4_pull ∈ lwg := lwg_of (List.mem_of_getElem? (i := 689) (by decide +kernel)) (by decide +kernel)
theorem lm_X3_putBack : LkM yX3_putBack cX3_putBack 3 (some .int) 1 := ⟨lwg_of (List.mem_of_getElem? (i := 694) (by decide +kernel)) rfl, ini_X3, ⟨by decide +kernel, by decide +kernel, by decide +kernel⟩, by decide⟩
theorem im_X3_putBack : Cond.instanceMethod yX3_putBack ∈ lwg := lwg_of (List.mem_of_getElem? (i := 692) (by decide +kernel)) (by decide +kernel)
theorem se_X3_putBack : Cond.selects RX3 yX3_putBack yX3_putBack ∈ lwg := lwg_of (List.mem_of_getElem? (i := 693) (by decide +kernel)) (by decide +kernel)
theorem sm_L_flip : Cond.static yL_flip ∈ lwg := lwg_of (List.mem_of_getElem? (i := 697) (by decide +kernel)) (by decide +kernel)
theorem lm_X4_flip : LkM yX4_flip cX4_flip 2 (some .int) 1 := ⟨lwg_of (List.mem_of_getElem? (i := 702) (by decide +kernel)) rfl, ini_X4, ⟨by decide +kernel, by decide +kernel, by decide +kernel⟩, by decide⟩
theorem im_X4_flip : Cond.instanceMethod yX4_flip ∈ lwg := lwg_of (List.mem_of_getElem? (i := 700) (by decide +kernel)) (by decide +kernel)
theorem se_X4_flip : Cond.selects RX4 yX4_flip yX4_flip ∈ lwg := lwg_of (List.mem_of_getElem? (i := 701) (by decide +kernel)) (by decide +kernel)
theorem lm_X0_turnOver : LkM yX0_turnOver cX0_turnOver 2 (none) 1 := ⟨lwg_of (List.mem_of_getElem? (i := 706) (by decide +kernel)) rfl, ini_X0, ⟨by decide +kernel, by decide +kernel, by decide +kernel⟩, by decide⟩
theorem im_X0_turnOver : Cond.instanceMethod yX0_turnOver ∈ lwg := lwg_of (List.mem_of_getElem? (i := 704) (by decide +kernel)) (by decide +kernel)
theorem se_X0_turnOver : Cond.selects RX0 yX0_turnOver yX0_turnOver ∈ lwg := lwg_of (List.mem_of_getElem? (i := 705) (by decide +kernel)) (by decide +kernel)
theorem sm_L_move : Cond.static yL_move ∈ lwg := lwg_of (List.mem_of_getElem? (i := 708) (by decide +kernel)) (by decide +kernel)
theorem lm_X4_move : LkM yX4_move cX4_move 3 (some .int) 2 := ⟨lwg_of (List.mem_of_getElem? (i := 713) (by decide +kernel)) rfl, ini_X4, ⟨by decide +kernel, by decide +kernel, by decide +kernel⟩, by decide⟩
theorem im_X4_move : Cond.instanceMethod yX4_move ∈ lwg := lwg_of (List.mem_of_getElem? (i := 711) (by decide +kernel)) (by decide +kernel)
theorem se_X4_move : Cond.selects RX4 yX4_move yX4_move ∈ lwg := lwg_of (List.mem_of_getElem? (i := 712) (by decide +kernel)) (by decide +kernel)
theorem lm_X0_shift : LkM yX0_shift cX0_shift 5 (none) 2 := ⟨lwg_of (List.mem_of_getElem? (i := 718) (by decide +kernel)) rfl, ini_X0, ⟨by decide +kernel, by decide +kernel, by decide +kernel⟩, by decide⟩
theorem im_X0_shift : Cond.instanceMethod yX0_shift ∈ lwg := lwg_of (List.mem_of_getElem? (i := 716) (by decide +kernel)) (by decide +kernel)
theorem se_X0_shift : Cond.selects RX0 yX0_shift yX0_shift ∈ lwg := lwg_of (List.mem_of_getElem? (i := 717) (by decide +kernel)) (by decide +kernel)
theorem sm_L_bind : Cond.static yL_bind ∈ lwg := lwg_of (List.mem_of_getElem? (i := 722) (by decide +kernel)) (by decide +kernel)
theorem lm_X4_bind : LkM yX4_bind cX4_bind 1 (some .int) 0 := ⟨lwg_of (List.mem_of_getElem? (i := 727) (by decide +kernel)) rfl, ini_X4, ⟨by decide +kernel, by decide +kernel, by decide +kernel⟩, by decide⟩
theorem im_X4_bind : Cond.instanceMethod yX4_bind ∈ lwg := lwg_of (List.mem_of_getElem? (i := 725) (by decide +kernel)) (by decide +kernel)
theorem se_X4_bind : Cond.selects RX4 yX4_bind yX4_bind ∈ lwg := lwg_of (List.mem_of_getElem? (i := 726) (by decide +kernel)) (by decide +kernel)
theorem lm_X3_bindBlock : LkM yX3_bindBlock cX3_bindBlock 2 (none) 0 := ⟨lwg_of (List.mem_of_getElem? (i := 732) (by decide +kernel)) rfl, ini_X3, ⟨by decide +kernel, by decide +kernel, by decide +kernel⟩, by decide⟩
theorem im_X3_bindBlock : Cond.instanceMethod yX3_bindBlock ∈ lwg := lwg_of (List.mem_of_getElem? (i := 730) (by decide +kernel)) (by decide +kernel)
theorem se_X3_bindBlock : Cond.selects RX3 yX3_bindBlock yX3_bindBlock ∈ lwg := lwg_of (List.mem_of_getElem? (i := 731) (by decide +kernel)) (by decide +kernel)
theorem sm_L_print : Cond.static yL_print ∈ lwg := lwg_of (List.mem_of_getElem? (i := 734) (by decide +kernel)) (by decide +kernel)
theorem lm_X4_print : LkM yX4_print cX4_print 3 (some .int) 2 := ⟨lwg_of (List.mem_of_getElem? (i := 740) (by decide +kernel)) rfl, ini_X4, ⟨by decide +kernel, by decide +kernel, by decide +kernel⟩, by decide⟩
theorem im_X4_print : Cond.instanceMethod yX4_print ∈ lwg := lwg_of (List.mem_of_getElem? (i := 738) (by decide +kernel)) (by decide +kernel)
theorem se_X4_print : Cond.selects RX4 yX4_print yX4_print ∈ lwg := lwg_of (List.mem_of_getElem? (i := 739) (by decide +kernel)) (by decide +kernel)
theorem sm_L_punch : Cond.static yL_punch ∈ lwg := lwg_of (List.mem_of_getElem? (i := 745) (by decide +kernel)) (by decide +kernel)
theorem lm_X4_punch : LkM yX4_punch cX4_punch 4 (some .int) 2 := ⟨lwg_of (List.mem_of_getElem? (i := 750) (by decide +kernel)) rfl, ini_X4, ⟨by decide +kernel, by decide +kernel, by decide +kernel⟩, by decide⟩
theorem im_X4_punch : Cond.instanceMethod yX4_punch ∈ lwg := lwg_of (List.mem_of_getElem? (i := 748) (by decide +kernel)) (by decide +kernel)
theorem se_X4_punch : Cond.selects RX4 yX4_punch yX4_punch ∈ lwg := lwg_of (List.mem_of_getElem? (i := 749) (by decide +kernel)) (by decide +kernel)
theorem sm_L_set : Cond.static yL_set ∈ lwg := lwg_of (List.mem_of_getElem? (i := 753) (by decide +kernel)) (by decide +kernel)
theorem lm_X4_set : LkM yX4_set cX4_set 4 (some .int) 2 := ⟨lwg_of (List.mem_of_getElem? (i := 758) (by decide +kernel)) rfl, ini_X4, ⟨by decide +kernel, by decide +kernel, by decide +kernel⟩, by decide⟩
theorem im_X4_set : Cond.instanceMethod yX4_set ∈ lwg := lwg_of (List.mem_of_getElem? (i := 756) (by decide +kernel)) (by decide +kernel)
theorem se_X4_set : Cond.selects RX4 yX4_set yX4_set ∈ lwg := lwg_of (List.mem_of_getElem? (i := 757) (by decide +kernel)) (by decide +kernel)
theorem lm_X4_isSetting : LkM yX4_isSetting cX4_isSetting 1 (some .boolean) 1 := ⟨lwg_of (List.mem_of_getElem? (i := 761) (by decide +kernel)) rfl, ini_X4, ⟨by decide +kernel, by decide +kernel, by decide +kernel⟩, by decide⟩
theorem sm_X4_isSetting : Cond.static yX4_isSetting ∈ lwg := lwg_of (List.mem_of_getElem? (i := 760) (by decide +kernel)) (by decide +kernel)
theorem sm_L_append : Cond.static yL_append ∈ lwg := lwg_of (List.mem_of_getElem? (i := 769) (by decide +kernel)) (by decide +kernel)
theorem lm_X4_append : LkM yX4_append cX4_append 2 (some .int) 1 := ⟨lwg_of (List.mem_of_getElem? (i := 774) (by decide +kernel)) rfl, ini_X4, ⟨by decide +kernel, by decide +kernel, by decide +kernel⟩, by decide⟩
theorem im_X4_append : Cond.instanceMethod yX4_append ∈ lwg := lwg_of (List.mem_of_getElem? (i := 772) (by decide +kernel)) (by decide +kernel)
theorem se_X4_append : Cond.selects RX4 yX4_append yX4_append ∈ lwg := lwg_of (List.mem_of_getElem? (i := 773) (by decide +kernel)) (by decide +kernel)
theorem sm_L_work : Cond.static yL_work ∈ lwg := lwg_of (List.mem_of_getElem? (i := 778) (by decide +kernel)) (by decide +kernel)
theorem lm_X4_work : LkM yX4_work cX4_work 2 (some .int) 0 := ⟨lwg_of (List.mem_of_getElem? (i := 783) (by decide +kernel)) rfl, ini_X4, ⟨by decide +kernel, by decide +kernel, by decide +kernel⟩, by decide⟩
theorem im_X4_work : Cond.instanceMethod yX4_work ∈ lwg := lwg_of (List.mem_of_getElem? (i := 781) (by decide +kernel)) (by decide +kernel)
theorem se_X4_work : Cond.selects RX4 yX4_work yX4_work ∈ lwg := lwg_of (List.mem_of_getElem? (i := 782) (by decide +kernel)) (by decide +kernel)
theorem lm_X4_doParts : LkM yX4_doParts cX4_doParts 4 (some .int) 0 := ⟨lwg_of (List.mem_of_getElem? (i := 789) (by decide +kernel)) rfl, ini_X4, ⟨by decide +kernel, by decide +kernel, by decide +kernel⟩, by decide⟩
theorem im_X4_doParts : Cond.instanceMethod yX4_doParts ∈ lwg := lwg_of (List.mem_of_getElem? (i := 788) (by decide +kernel)) (by decide +kernel)
theorem se_X4_doParts : Cond.selects RX4 yX4_doParts yX4_doParts ∈ lwg := lwg_of (List.mem_of_getElem? (i := 15) (by decide +kernel)) (by decide +kernel)
theorem lm_X4_partCanBeDone : LkM yX4_partCanBeDone cX4_partCanBeDone 1 (some .boolean) 0 := ⟨lwg_of (List.mem_of_getElem? (i := 793) (by decide +kernel)) rfl, ini_X4, ⟨by decide +kernel, by decide +kernel, by decide +kernel⟩, by decide⟩
theorem im_X4_partCanBeDone : Cond.instanceMethod yX4_partCanBeDone ∈ lwg := lwg_of (List.mem_of_getElem? (i := 792) (by decide +kernel)) (by decide +kernel)
theorem se_X4_partCanBeDone : Cond.selects RX4 yX4_partCanBeDone yX4_partCanBeDone ∈ lwg := lwg_of (List.mem_of_getElem? (i := 16) (by decide +kernel)) (by decide +kernel)
theorem lm_X4_doPart : LkM yX4_doPart cX4_doPart 1 (none) 0 := ⟨lwg_of (List.mem_of_getElem? (i := 797) (by decide +kernel)) rfl, ini_X4, ⟨by decide +kernel, by decide +kernel, by decide +kernel⟩, by decide⟩
theorem im_X4_doPart : Cond.instanceMethod yX4_doPart ∈ lwg := lwg_of (List.mem_of_getElem? (i := 796) (by decide +kernel)) (by decide +kernel)
theorem se_X4_doPart : Cond.selects RX4 yX4_doPart yX4_doPart ∈ lwg := lwg_of (List.mem_of_getElem? (i := 17) (by decide +kernel)) (by decide +kernel)
theorem sm_L_goBack : Cond.static yL_goBack ∈ lwg := lwg_of (List.mem_of_getElem? (i := 799) (by decide +kernel)) (by decide +kernel)
theorem lm_X4_goBack : LkM yX4_goBack cX4_goBack 1 (some .int) 0 := ⟨lwg_of (List.mem_of_getElem? (i := 804) (by decide +kernel)) rfl, ini_X4, ⟨by decide +kernel, by decide +kernel, by decide +kernel⟩, by decide⟩
theorem im_X4_goBack : Cond.instanceMethod yX4_goBack ∈ lwg := lwg_of (List.mem_of_getElem? (i := 802) (by decide +kernel)) (by decide +kernel)
theorem se_X4_goBack : Cond.selects RX4 yX4_goBack yX4_goBack ∈ lwg := lwg_of (List.mem_of_getElem? (i := 803) (by decide +kernel)) (by decide +kernel)
theorem sm_L_undo : Cond.static yL_undo ∈ lwg := lwg_of (List.mem_of_getElem? (i := 807) (by decide +kernel)) (by decide +kernel)
theorem lm_X4_undo : LkM yX4_undo cX4_undo 1 (some .int) 0 := ⟨lwg_of (List.mem_of_getElem? (i := 812) (by decide +kernel)) rfl, ini_X4, ⟨by decide +kernel, by decide +kernel, by decide +kernel⟩, by decide⟩
theorem im_X4_undo : Cond.instanceMethod yX4_undo ∈ lwg := lwg_of (List.mem_of_getElem? (i := 810) (by decide +kernel)) (by decide +kernel)
theorem se_X4_undo : Cond.selects RX4 yX4_undo yX4_undo ∈ lwg := lwg_of (List.mem_of_getElem? (i := 811) (by decide +kernel)) (by decide +kernel)
theorem lm_X1_restore : LkM yX1_restore cX1_restore 2 (none) 1 := ⟨lwg_of (List.mem_of_getElem? (i := 817) (by decide +kernel)) rfl, ini_X1, ⟨by decide +kernel, by decide +kernel, by decide +kernel⟩, by decide⟩
theorem im_X1_restore : Cond.instanceMethod yX1_restore ∈ lwg := lwg_of (List.mem_of_getElem? (i := 815) (by decide +kernel)) (by decide +kernel)
theorem se_X1_restore : Cond.selects RX1 yX1_restore yX1_restore ∈ lwg := lwg_of (List.mem_of_getElem? (i := 816) (by decide +kernel)) (by decide +kernel)
theorem sm_L_sheet : Cond.static yL_sheet ∈ lwg := lwg_of (List.mem_of_getElem? (i := 819) (by decide +kernel)) (by decide +kernel)
theorem sm_L_bin : Cond.static yL_bin ∈ lwg := lwg_of (List.mem_of_getElem? (i := 823) (by decide +kernel)) (by decide +kernel)
theorem sm_L_count : Cond.static yL_count ∈ lwg := lwg_of (List.mem_of_getElem? (i := 827) (by decide +kernel)) (by decide +kernel)
theorem sm_L_setting : Cond.static yL_setting ∈ lwg := lwg_of (List.mem_of_getElem? (i := 831) (by decide +kernel)) (by decide +kernel)
theorem lm_X4_setting : LkM yX4_setting cX4_setting 2 (some .int) 1 := ⟨lwg_of (List.mem_of_getElem? (i := 836) (by decide +kernel)) rfl, ini_X4, ⟨by decide +kernel, by decide +kernel, by decide +kernel⟩, by decide⟩
theorem im_X4_setting : Cond.instanceMethod yX4_setting ∈ lwg := lwg_of (List.mem_of_getElem? (i := 834) (by decide +kernel)) (by decide +kernel)
theorem se_X4_setting : Cond.selects RX4 yX4_setting yX4_setting ∈ lwg := lwg_of (List.mem_of_getElem? (i := 835) (by decide +kernel)) (by decide +kernel)
theorem sm_L_ifPulled : Cond.static yL_ifPulled ∈ lwg := lwg_of (List.mem_of_getElem? (i := 838) (by decide +kernel)) (by decide +kernel)
theorem lm_X5_init : LkM yX5_init cX5_init 2 (none) 0 := ⟨lwg_of (List.mem_of_getElem? (i := 845) (by decide +kernel)) rfl, ini_X5, ⟨by decide +kernel, by decide +kernel, by decide +kernel⟩, by decide⟩
theorem im_X5_init : Cond.instanceMethod yX5_init ∈ lwg := lwg_of (List.mem_of_getElem? (i := 844) (by decide +kernel)) (by decide +kernel)
theorem lm_X5_thrown : LkM yX5_thrown cX5_thrown 1 (some .int) 0 := ⟨lwg_of (List.mem_of_getElem? (i := 896) (by decide +kernel)) rfl, ini_X5, ⟨by decide +kernel, by decide +kernel, by decide +kernel⟩, by decide⟩
theorem im_X5_thrown : Cond.instanceMethod yX5_thrown ∈ lwg := lwg_of (List.mem_of_getElem? (i := 894) (by decide +kernel)) (by decide +kernel)
theorem se_X5_thrown : Cond.selects RX5 yX5_thrown yX5_thrown ∈ lwg := lwg_of (List.mem_of_getElem? (i := 895) (by decide +kernel)) (by decide +kernel)
theorem lm_X5_gather : LkM yX5_gather cX5_gather 3 (some .int) 1 := ⟨lwg_of (List.mem_of_getElem? (i := 900) (by decide +kernel)) rfl, ini_X5, ⟨by decide +kernel, by decide +kernel, by decide +kernel⟩, by decide⟩
theorem im_X5_gather : Cond.instanceMethod yX5_gather ∈ lwg := lwg_of (List.mem_of_getElem? (i := 898) (by decide +kernel)) (by decide +kernel)
theorem se_X5_gather : Cond.selects RX5 yX5_gather yX5_gather ∈ lwg := lwg_of (List.mem_of_getElem? (i := 899) (by decide +kernel)) (by decide +kernel)
theorem lm_X5_isBin : LkM yX5_isBin cX5_isBin 1 (some .boolean) 1 := ⟨lwg_of (List.mem_of_getElem? (i := 903) (by decide +kernel)) rfl, ini_X5, ⟨by decide +kernel, by decide +kernel, by decide +kernel⟩, by decide⟩
theorem sm_X5_isBin : Cond.static yX5_isBin ∈ lwg := lwg_of (List.mem_of_getElem? (i := 902) (by decide +kernel)) (by decide +kernel)
theorem lm_X5_in : LkM yX5_in cX5_in 3 (some .boolean) 3 := ⟨lwg_of (List.mem_of_getElem? (i := 906) (by decide +kernel)) rfl, ini_X5, ⟨by decide +kernel, by decide +kernel, by decide +kernel⟩, by decide⟩
theorem sm_X5_in : Cond.static yX5_in ∈ lwg := lwg_of (List.mem_of_getElem? (i := 905) (by decide +kernel)) (by decide +kernel)
theorem lm_X5_canGather : LkM yX5_canGather cX5_canGather 2 (some .boolean) 1 := ⟨lwg_of (List.mem_of_getElem? (i := 910) (by decide +kernel)) rfl, ini_X5, ⟨by decide +kernel, by decide +kernel, by decide +kernel⟩, by decide⟩
theorem im_X5_canGather : Cond.instanceMethod yX5_canGather ∈ lwg := lwg_of (List.mem_of_getElem? (i := 909) (by decide +kernel)) (by decide +kernel)
theorem se_X5_canGather : Cond.selects RX5 yX5_canGather yX5_canGather ∈ lwg := lwg_of (List.mem_of_getElem? (i := 18) (by decide +kernel)) (by decide +kernel)
theorem lm_X5_holds : LkM yX5_holds cX5_holds 2 (some .boolean) 1 := ⟨lwg_of (List.mem_of_getElem? (i := 914) (by decide +kernel)) rfl, ini_X5, ⟨by decide +kernel, by decide +kernel, by decide +kernel⟩, by decide⟩
theorem im_X5_holds : Cond.instanceMethod yX5_holds ∈ lwg := lwg_of (List.mem_of_getElem? (i := 913) (by decide +kernel)) (by decide +kernel)
theorem se_X5_holds : Cond.selects RX5 yX5_holds yX5_holds ∈ lwg := lwg_of (List.mem_of_getElem? (i := 19) (by decide +kernel)) (by decide +kernel)
theorem lm_X5_save : LkM yX5_save cX5_save 2 (none) 0 := ⟨lwg_of (List.mem_of_getElem? (i := 918) (by decide +kernel)) rfl, ini_X5, ⟨by decide +kernel, by decide +kernel, by decide +kernel⟩, by decide⟩
theorem im_X5_save : Cond.instanceMethod yX5_save ∈ lwg := lwg_of (List.mem_of_getElem? (i := 917) (by decide +kernel)) (by decide +kernel)
theorem se_X5_save : Cond.selects RX5 yX5_save yX5_save ∈ lwg := lwg_of (List.mem_of_getElem? (i := 20) (by decide +kernel)) (by decide +kernel)
theorem lm_X5_copies : LkM yX5_copies cX5_copies 4 (none) 2 := ⟨lwg_of (List.mem_of_getElem? (i := 922) (by decide +kernel)) rfl, ini_X5, ⟨by decide +kernel, by decide +kernel, by decide +kernel⟩, by decide⟩
theorem im_X5_copies : Cond.instanceMethod yX5_copies ∈ lwg := lwg_of (List.mem_of_getElem? (i := 921) (by decide +kernel)) (by decide +kernel)
theorem se_X5_copies : Cond.selects RX5 yX5_copies yX5_copies ∈ lwg := lwg_of (List.mem_of_getElem? (i := 21) (by decide +kernel)) (by decide +kernel)
theorem lm_X5_inserts : LkM yX5_inserts cX5_inserts 4 (some .int) 2 := ⟨lwg_of (List.mem_of_getElem? (i := 926) (by decide +kernel)) rfl, ini_X5, ⟨by decide +kernel, by decide +kernel, by decide +kernel⟩, by decide⟩
theorem im_X5_inserts : Cond.instanceMethod yX5_inserts ∈ lwg := lwg_of (List.mem_of_getElem? (i := 925) (by decide +kernel)) (by decide +kernel)
theorem se_X5_inserts : Cond.selects RX5 yX5_inserts yX5_inserts ∈ lwg := lwg_of (List.mem_of_getElem? (i := 22) (by decide +kernel)) (by decide +kernel)
theorem lm_X5_insert : LkM yX5_insert cX5_insert 4 (some .int) 2 := ⟨lwg_of (List.mem_of_getElem? (i := 930) (by decide +kernel)) rfl, ini_X5, ⟨by decide +kernel, by decide +kernel, by decide +kernel⟩, by decide⟩
theorem im_X5_insert : Cond.instanceMethod yX5_insert ∈ lwg := lwg_of (List.mem_of_getElem? (i := 928) (by decide +kernel)) (by decide +kernel)
theorem se_X5_insert : Cond.selects RX5 yX5_insert yX5_insert ∈ lwg := lwg_of (List.mem_of_getElem? (i := 929) (by decide +kernel)) (by decide +kernel)
theorem lm_X5_pull : LkM yX5_pull cX5_pull 2 (some .int) 1 := ⟨lwg_of (List.mem_of_getElem? (i := 934) (by decide +kernel)) rfl, ini_X5, ⟨by decide +kernel, by decide +kernel, by decide +kernel⟩, by decide⟩
theorem im_X5_pull : Cond.instanceMethod yX5_pull ∈ lwg := lwg_of (List.mem_of_getElem? (i := 932) (by decide +kernel)) (by decide +kernel)
theorem se_X5_pull : Cond.selects RX5 yX5_pull yX5_pull ∈ lwg := lwg_of (List.mem_of_getElem? (i := 933) (by decide +kernel)) (by decide +kernel)
theorem lm_X5_isPlace : LkM yX5_isPlace cX5_isPlace 2 (some .boolean) 1 := ⟨lwg_of (List.mem_of_getElem? (i := 938) (by decide +kernel)) rfl, ini_X5, ⟨by decide +kernel, by decide +kernel, by decide +kernel⟩, by decide⟩
theorem im_X5_isPlace : Cond.instanceMethod yX5_isPlace ∈ lwg := lwg_of (List.mem_of_getElem? (i := 937) (by decide +kernel)) (by decide +kernel)
theorem se_X5_isPlace : Cond.selects RX5 yX5_isPlace yX5_isPlace ∈ lwg := lwg_of (List.mem_of_getElem? (i := 23) (by decide +kernel)) (by decide +kernel)
theorem lm_X5_pulls : LkM yX5_pulls cX5_pulls 4 (some .int) 1 := ⟨lwg_of (List.mem_of_getElem? (i := 942) (by decide +kernel)) rfl, ini_X5, ⟨by decide +kernel, by decide +kernel, by decide +kernel⟩, by decide⟩
theorem im_X5_pulls : Cond.instanceMethod yX5_pulls ∈ lwg := lwg_of (List.mem_of_getElem? (i := 941) (by decide +kernel)) (by decide +kernel)
theorem se_X5_pulls : Cond.selects RX5 yX5_pulls yX5_pulls ∈ lwg := lwg_of (List.mem_of_getElem? (i := 24) (by decide +kernel)) (by decide +kernel)
theorem lm_X5_flip : LkM yX5_flip cX5_flip 2 (some .int) 1 := ⟨lwg_of (List.mem_of_getElem? (i := 946) (by decide +kernel)) rfl, ini_X5, ⟨by decide +kernel, by decide +kernel, by decide +kernel⟩, by decide⟩
theorem im_X5_flip : Cond.instanceMethod yX5_flip ∈ lwg := lwg_of (List.mem_of_getElem? (i := 944) (by decide +kernel)) (by decide +kernel)
theorem se_X5_flip : Cond.selects RX5 yX5_flip yX5_flip ∈ lwg := lwg_of (List.mem_of_getElem? (i := 945) (by decide +kernel)) (by decide +kernel)
theorem lm_X5_flips : LkM yX5_flips cX5_flips 2 (some .int) 1 := ⟨lwg_of (List.mem_of_getElem? (i := 950) (by decide +kernel)) rfl, ini_X5, ⟨by decide +kernel, by decide +kernel, by decide +kernel⟩, by decide⟩
theorem im_X5_flips : Cond.instanceMethod yX5_flips ∈ lwg := lwg_of (List.mem_of_getElem? (i := 949) (by decide +kernel)) (by decide +kernel)
theorem se_X5_flips : Cond.selects RX5 yX5_flips yX5_flips ∈ lwg := lwg_of (List.mem_of_getElem? (i := 25) (by decide +kernel)) (by decide +kernel)
theorem lm_X5_mark : LkM yX5_mark cX5_mark 4 (some .int) 2 := ⟨lwg_of (List.mem_of_getElem? (i := 954) (by decide +kernel)) rfl, ini_X5, ⟨by decide +kernel, by decide +kernel, by decide +kernel⟩, by decide⟩
theorem im_X5_mark : Cond.instanceMethod yX5_mark ∈ lwg := lwg_of (List.mem_of_getElem? (i := 953) (by decide +kernel)) (by decide +kernel)
theorem se_X5_mark : Cond.selects RX5 yX5_mark yX5_mark ∈ lwg := lwg_of (List.mem_of_getElem? (i := 26) (by decide +kernel)) (by decide +kernel)
theorem lm_X5_move : LkM yX5_move cX5_move 3 (some .int) 2 := ⟨lwg_of (List.mem_of_getElem? (i := 958) (by decide +kernel)) rfl, ini_X5, ⟨by decide +kernel, by decide +kernel, by decide +kernel⟩, by decide⟩
theorem im_X5_move : Cond.instanceMethod yX5_move ∈ lwg := lwg_of (List.mem_of_getElem? (i := 956) (by decide +kernel)) (by decide +kernel)
theorem se_X5_move : Cond.selects RX5 yX5_move yX5_move ∈ lwg := lwg_of (List.mem_of_getElem? (i := 957) (by decide +kernel)) (by decide +kernel)
theorem lm_X5_moves : LkM yX5_moves cX5_moves 7 (some .int) 2 := ⟨lwg_of (List.mem_of_getElem? (i := 962) (by decide +kernel)) rfl, ini_X5, ⟨by decide +kernel, by decide +kernel, by decide +kernel⟩, by decide⟩
theorem im_X5_moves : Cond.instanceMethod yX5_moves ∈ lwg := lwg_of (List.mem_of_getElem? (i := 961) (by decide +kernel)) (by decide +kernel)
theorem se_X5_moves : Cond.selects RX5 yX5_moves yX5_moves ∈ lwg := lwg_of (List.mem_of_getElem? (i := 27) (by decide +kernel)) (by decide +kernel)
theorem lm_X5_laysOut : LkM yX5_laysOut cX5_laysOut 3 (none) 1 := ⟨lwg_of (List.mem_of_getElem? (i := 966) (by decide +kernel)) rfl, ini_X5, ⟨by decide +kernel, by decide +kernel, by decide +kernel⟩, by decide⟩
theorem im_X5_laysOut : Cond.instanceMethod yX5_laysOut ∈ lwg := lwg_of (List.mem_of_getElem? (i := 965) (by decide +kernel)) (by decide +kernel)
theorem se_X5_laysOut : Cond.selects RX5 yX5_laysOut yX5_laysOut ∈ lwg := lwg_of (List.mem_of_getElem? (i := 28) (by decide +kernel)) (by decide +kernel)
theorem lm_X5_breaks : LkM yX5_breaks cX5_breaks 3 (some .int) 0 := ⟨lwg_of (List.mem_of_getElem? (i := 970) (by decide +kernel)) rfl, ini_X5, ⟨by decide +kernel, by decide +kernel, by decide +kernel⟩, by decide⟩
theorem im_X5_breaks : Cond.instanceMethod yX5_breaks ∈ lwg := lwg_of (List.mem_of_getElem? (i := 969) (by decide +kernel)) (by decide +kernel)
theorem se_X5_breaks : Cond.selects RX5 yX5_breaks yX5_breaks ∈ lwg := lwg_of (List.mem_of_getElem? (i := 29) (by decide +kernel)) (by decide +kernel)
theorem lm_X5_breaksAt : LkM yX5_breaksAt cX5_breaksAt 3 (some .boolean) 1 := ⟨lwg_of (List.mem_of_getElem? (i := 974) (by decide +kernel)) rfl, ini_X5, ⟨by decide +kernel, by decide +kernel, by decide +kernel⟩, by decide⟩
theorem im_X5_breaksAt : Cond.instanceMethod yX5_breaksAt ∈ lwg := lwg_of (List.mem_of_getElem? (i := 973) (by decide +kernel)) (by decide +kernel)
theorem se_X5_breaksAt : Cond.selects RX5 yX5_breaksAt yX5_breaksAt ∈ lwg := lwg_of (List.mem_of_getElem? (i := 30) (by decide +kernel)) (by decide +kernel)
theorem lm_X5_bind : LkM yX5_bind cX5_bind 1 (some .int) 0 := ⟨lwg_of (List.mem_of_getElem? (i := 978) (by decide +kernel)) rfl, ini_X5, ⟨by decide +kernel, by decide +kernel, by decide +kernel⟩, by decide⟩
theorem im_X5_bind : Cond.instanceMethod yX5_bind ∈ lwg := lwg_of (List.mem_of_getElem? (i := 976) (by decide +kernel)) (by decide +kernel)
theorem se_X5_bind : Cond.selects RX5 yX5_bind yX5_bind ∈ lwg := lwg_of (List.mem_of_getElem? (i := 977) (by decide +kernel)) (by decide +kernel)
theorem lm_X5_canBind : LkM yX5_canBind cX5_canBind 1 (some .boolean) 0 := ⟨lwg_of (List.mem_of_getElem? (i := 982) (by decide +kernel)) rfl, ini_X5, ⟨by decide +kernel, by decide +kernel, by decide +kernel⟩, by decide⟩
theorem im_X5_canBind : Cond.instanceMethod yX5_canBind ∈ lwg := lwg_of (List.mem_of_getElem? (i := 981) (by decide +kernel)) (by decide +kernel)
theorem se_X5_canBind : Cond.selects RX5 yX5_canBind yX5_canBind ∈ lwg := lwg_of (List.mem_of_getElem? (i := 31) (by decide +kernel)) (by decide +kernel)
theorem lm_X5_fault : LkM yX5_fault cX5_fault 3 (some .int) 0 := ⟨lwg_of (List.mem_of_getElem? (i := 986) (by decide +kernel)) rfl, ini_X5, ⟨by decide +kernel, by decide +kernel, by decide +kernel⟩, by decide⟩
theorem im_X5_fault : Cond.instanceMethod yX5_fault ∈ lwg := lwg_of (List.mem_of_getElem? (i := 985) (by decide +kernel)) (by decide +kernel)
theorem se_X5_fault : Cond.selects RX5 yX5_fault yX5_fault ∈ lwg := lwg_of (List.mem_of_getElem? (i := 32) (by decide +kernel)) (by decide +kernel)
theorem lm_X5_missing : LkM yX5_missing cX5_missing 4 (some .int) 0 := ⟨lwg_of (List.mem_of_getElem? (i := 990) (by decide +kernel)) rfl, ini_X5, ⟨by decide +kernel, by decide +kernel, by decide +kernel⟩, by decide⟩
theorem im_X5_missing : Cond.instanceMethod yX5_missing ∈ lwg := lwg_of (List.mem_of_getElem? (i := 989) (by decide +kernel)) (by decide +kernel)
theorem se_X5_missing : Cond.selects RX5 yX5_missing yX5_missing ∈ lwg := lwg_of (List.mem_of_getElem? (i := 33) (by decide +kernel)) (by decide +kernel)
theorem lm_X5_placeOf : LkM yX5_placeOf cX5_placeOf 3 (some .int) 1 := ⟨lwg_of (List.mem_of_getElem? (i := 994) (by decide +kernel)) rfl, ini_X5, ⟨by decide +kernel, by decide +kernel, by decide +kernel⟩, by decide⟩
theorem im_X5_placeOf : Cond.instanceMethod yX5_placeOf ∈ lwg := lwg_of (List.mem_of_getElem? (i := 993) (by decide +kernel)) (by decide +kernel)
theorem se_X5_placeOf : Cond.selects RX5 yX5_placeOf yX5_placeOf ∈ lwg := lwg_of (List.mem_of_getElem? (i := 34) (by decide +kernel)) (by decide +kernel)
theorem lm_X5_isFault : LkM yX5_isFault cX5_isFault 3 (some .boolean) 2 := ⟨lwg_of (List.mem_of_getElem? (i := 998) (by decide +kernel)) rfl, ini_X5, ⟨by decide +kernel, by decide +kernel, by decide +kernel⟩, by decide⟩
theorem im_X5_isFault : Cond.instanceMethod yX5_isFault ∈ lwg := lwg_of (List.mem_of_getElem? (i := 997) (by decide +kernel)) (by decide +kernel)
theorem se_X5_isFault : Cond.selects RX5 yX5_isFault yX5_isFault ∈ lwg := lwg_of (List.mem_of_getElem? (i := 35) (by decide +kernel)) (by decide +kernel)
theorem lm_X5_isAhead : LkM yX5_isAhead cX5_isAhead 4 (some .boolean) 1 := ⟨lwg_of (List.mem_of_getElem? (i := 1002) (by decide +kernel)) rfl, ini_X5, ⟨by decide +kernel, by decide +kernel, by decide +kernel⟩, by decide⟩
theorem im_X5_isAhead : Cond.instanceMethod yX5_isAhead ∈ lwg := lwg_of (List.mem_of_getElem? (i := 1001) (by decide +kernel)) (by decide +kernel)
theorem se_X5_isAhead : Cond.selects RX5 yX5_isAhead yX5_isAhead ∈ lwg := lwg_of (List.mem_of_getElem? (i := 36) (by decide +kernel)) (by decide +kernel)
theorem lm_X5_binds : LkM yX5_binds cX5_binds 2 (some .int) 0 := ⟨lwg_of (List.mem_of_getElem? (i := 1006) (by decide +kernel)) rfl, ini_X5, ⟨by decide +kernel, by decide +kernel, by decide +kernel⟩, by decide⟩
theorem im_X5_binds : Cond.instanceMethod yX5_binds ∈ lwg := lwg_of (List.mem_of_getElem? (i := 1005) (by decide +kernel)) (by decide +kernel)
theorem se_X5_binds : Cond.selects RX5 yX5_binds yX5_binds ∈ lwg := lwg_of (List.mem_of_getElem? (i := 37) (by decide +kernel)) (by decide +kernel)
theorem lm_X5_print : LkM yX5_print cX5_print 4 (some .int) 2 := ⟨lwg_of (List.mem_of_getElem? (i := 1010) (by decide +kernel)) rfl, ini_X5, ⟨by decide +kernel, by decide +kernel, by decide +kernel⟩, by decide⟩
theorem im_X5_print : Cond.instanceMethod yX5_print ∈ lwg := lwg_of (List.mem_of_getElem? (i := 1008) (by decide +kernel)) (by decide +kernel)
theorem se_X5_print : Cond.selects RX5 yX5_print yX5_print ∈ lwg := lwg_of (List.mem_of_getElem? (i := 1009) (by decide +kernel)) (by decide +kernel)
theorem lm_X5_punch : LkM yX5_punch cX5_punch 3 (some .int) 2 := ⟨lwg_of (List.mem_of_getElem? (i := 1014) (by decide +kernel)) rfl, ini_X5, ⟨by decide +kernel, by decide +kernel, by decide +kernel⟩, by decide⟩
theorem im_X5_punch : Cond.instanceMethod yX5_punch ∈ lwg := lwg_of (List.mem_of_getElem? (i := 1012) (by decide +kernel)) (by decide +kernel)
theorem se_X5_punch : Cond.selects RX5 yX5_punch yX5_punch ∈ lwg := lwg_of (List.mem_of_getElem? (i := 1013) (by decide +kernel)) (by decide +kernel)
theorem lm_X5_changed : LkM yX5_changed cX5_changed 4 (some .int) 2 := ⟨lwg_of (List.mem_of_getElem? (i := 1018) (by decide +kernel)) rfl, ini_X5, ⟨by decide +kernel, by decide +kernel, by decide +kernel⟩, by decide⟩
theorem im_X5_changed : Cond.instanceMethod yX5_changed ∈ lwg := lwg_of (List.mem_of_getElem? (i := 1017) (by decide +kernel)) (by decide +kernel)
theorem se_X5_changed : Cond.selects RX5 yX5_changed yX5_changed ∈ lwg := lwg_of (List.mem_of_getElem? (i := 38) (by decide +kernel)) (by decide +kernel)
theorem lm_X5_set : LkM yX5_set cX5_set 5 (some .int) 2 := ⟨lwg_of (List.mem_of_getElem? (i := 1022) (by decide +kernel)) rfl, ini_X5, ⟨by decide +kernel, by decide +kernel, by decide +kernel⟩, by decide⟩
theorem im_X5_set : Cond.instanceMethod yX5_set ∈ lwg := lwg_of (List.mem_of_getElem? (i := 1020) (by decide +kernel)) (by decide +kernel)
theorem se_X5_set : Cond.selects RX5 yX5_set yX5_set ∈ lwg := lwg_of (List.mem_of_getElem? (i := 1021) (by decide +kernel)) (by decide +kernel)
theorem lm_X5_append : LkM yX5_append cX5_append 2 (some .int) 1 := ⟨lwg_of (List.mem_of_getElem? (i := 1026) (by decide +kernel)) rfl, ini_X5, ⟨by decide +kernel, by decide +kernel, by decide +kernel⟩, by decide⟩
theorem im_X5_append : Cond.instanceMethod yX5_append ∈ lwg := lwg_of (List.mem_of_getElem? (i := 1024) (by decide +kernel)) (by decide +kernel)
theorem se_X5_append : Cond.selects RX5 yX5_append yX5_append ∈ lwg := lwg_of (List.mem_of_getElem? (i := 1025) (by decide +kernel)) (by decide +kernel)
theorem lm_X5_clearBuffer : LkM yX5_clearBuffer cX5_clearBuffer 2 (some .int) 0 := ⟨lwg_of (List.mem_of_getElem? (i := 1030) (by decide +kernel)) rfl, ini_X5, ⟨by decide +kernel, by decide +kernel, by decide +kernel⟩, by decide⟩
theorem im_X5_clearBuffer : Cond.instanceMethod yX5_clearBuffer ∈ lwg := lwg_of (List.mem_of_getElem? (i := 1028) (by decide +kernel)) (by decide +kernel)
theorem se_X5_clearBuffer : Cond.selects RX5 yX5_clearBuffer yX5_clearBuffer ∈ lwg := lwg_of (List.mem_of_getElem? (i := 1029) (by decide +kernel)) (by decide +kernel)
theorem lm_X5_firstError : LkM yX5_firstError cX5_firstError 1 (some .int) 0 := ⟨lwg_of (List.mem_of_getElem? (i := 1034) (by decide +kernel)) rfl, ini_X5, ⟨by decide +kernel, by decide +kernel, by decide +kernel⟩, by decide⟩
theorem im_X5_firstError : Cond.instanceMethod yX5_firstError ∈ lwg := lwg_of (List.mem_of_getElem? (i := 1032) (by decide +kernel)) (by decide +kernel)
theorem se_X5_firstError : Cond.selects RX5 yX5_firstError yX5_firstError ∈ lwg := lwg_of (List.mem_of_getElem? (i := 1033) (by decide +kernel)) (by decide +kernel)
theorem lm_X5_isWork : LkM yX5_isWork cX5_isWork 1 (some .boolean) 0 := ⟨lwg_of (List.mem_of_getElem? (i := 1038) (by decide +kernel)) rfl, ini_X5, ⟨by decide +kernel, by decide +kernel, by decide +kernel⟩, by decide⟩
theorem im_X5_isWork : Cond.instanceMethod yX5_isWork ∈ lwg := lwg_of (List.mem_of_getElem? (i := 1037) (by decide +kernel)) (by decide +kernel)
theorem se_X5_isWork : Cond.selects RX5 yX5_isWork yX5_isWork ∈ lwg := lwg_of (List.mem_of_getElem? (i := 39) (by decide +kernel)) (by decide +kernel)
theorem lm_X5_readsPart : LkM yX5_readsPart cX5_readsPart 1 (some .boolean) 0 := ⟨lwg_of (List.mem_of_getElem? (i := 1042) (by decide +kernel)) rfl, ini_X5, ⟨by decide +kernel, by decide +kernel, by decide +kernel⟩, by decide⟩
theorem im_X5_readsPart : Cond.instanceMethod yX5_readsPart ∈ lwg := lwg_of (List.mem_of_getElem? (i := 1041) (by decide +kernel)) (by decide +kernel)
theorem se_X5_readsPart : Cond.selects RX5 yX5_readsPart yX5_readsPart ∈ lwg := lwg_of (List.mem_of_getElem? (i := 40) (by decide +kernel)) (by decide +kernel)
theorem lm_X5_sign : LkM yX5_sign cX5_sign 1 (some .int) 0 := ⟨lwg_of (List.mem_of_getElem? (i := 1046) (by decide +kernel)) rfl, ini_X5, ⟨by decide +kernel, by decide +kernel, by decide +kernel⟩, by decide⟩
theorem im_X5_sign : Cond.instanceMethod yX5_sign ∈ lwg := lwg_of (List.mem_of_getElem? (i := 1045) (by decide +kernel)) (by decide +kernel)
theorem se_X5_sign : Cond.selects RX5 yX5_sign yX5_sign ∈ lwg := lwg_of (List.mem_of_getElem? (i := 41) (by decide +kernel)) (by decide +kernel)
theorem lm_X5_takes : LkM yX5_takes cX5_takes 3 (some .boolean) 1 := ⟨lwg_of (List.mem_of_getElem? (i := 1050) (by decide +kernel)) rfl, ini_X5, ⟨by decide +kernel, by decide +kernel, by decide +kernel⟩, by decide⟩
theorem im_X5_takes : Cond.instanceMethod yX5_takes ∈ lwg := lwg_of (List.mem_of_getElem? (i := 1049) (by decide +kernel)) (by decide +kernel)
theorem se_X5_takes : Cond.selects RX5 yX5_takes yX5_takes ∈ lwg := lwg_of (List.mem_of_getElem? (i := 42) (by decide +kernel)) (by decide +kernel)
theorem lm_X5_number : LkM yX5_number cX5_number 3 (some .int) 1 := ⟨lwg_of (List.mem_of_getElem? (i := 1054) (by decide +kernel)) rfl, ini_X5, ⟨by decide +kernel, by decide +kernel, by decide +kernel⟩, by decide⟩
theorem im_X5_number : Cond.instanceMethod yX5_number ∈ lwg := lwg_of (List.mem_of_getElem? (i := 1053) (by decide +kernel)) (by decide +kernel)
theorem se_X5_number : Cond.selects RX5 yX5_number yX5_number ∈ lwg := lwg_of (List.mem_of_getElem? (i := 43) (by decide +kernel)) (by decide +kernel)
theorem lm_X5_work : LkM yX5_work cX5_work 3 (some .int) 0 := ⟨lwg_of (List.mem_of_getElem? (i := 1058) (by decide +kernel)) rfl, ini_X5, ⟨by decide +kernel, by decide +kernel, by decide +kernel⟩, by decide⟩
theorem im_X5_work : Cond.instanceMethod yX5_work ∈ lwg := lwg_of (List.mem_of_getElem? (i := 1056) (by decide +kernel)) (by decide +kernel)
theorem se_X5_work : Cond.selects RX5 yX5_work yX5_work ∈ lwg := lwg_of (List.mem_of_getElem? (i := 1057) (by decide +kernel)) (by decide +kernel)
theorem lm_X5_isDone : LkM yX5_isDone cX5_isDone 1 (some .boolean) 0 := ⟨lwg_of (List.mem_of_getElem? (i := 1062) (by decide +kernel)) rfl, ini_X5, ⟨by decide +kernel, by decide +kernel, by decide +kernel⟩, by decide⟩
theorem im_X5_isDone : Cond.instanceMethod yX5_isDone ∈ lwg := lwg_of (List.mem_of_getElem? (i := 1061) (by decide +kernel)) (by decide +kernel)
theorem se_X5_isDone : Cond.selects RX5 yX5_isDone yX5_isDone ∈ lwg := lwg_of (List.mem_of_getElem? (i := 44) (by decide +kernel)) (by decide +kernel)
theorem lm_X5_keep : LkM yX5_keep cX5_keep 1 (some .int) 0 := ⟨lwg_of (List.mem_of_getElem? (i := 1066) (by decide +kernel)) rfl, ini_X5, ⟨by decide +kernel, by decide +kernel, by decide +kernel⟩, by decide⟩
theorem im_X5_keep : Cond.instanceMethod yX5_keep ∈ lwg := lwg_of (List.mem_of_getElem? (i := 1064) (by decide +kernel)) (by decide +kernel)
theorem se_X5_keep : Cond.selects RX5 yX5_keep yX5_keep ∈ lwg := lwg_of (List.mem_of_getElem? (i := 1065) (by decide +kernel)) (by decide +kernel)
theorem lm_X5_goBack : LkM yX5_goBack cX5_goBack 1 (some .int) 0 := ⟨lwg_of (List.mem_of_getElem? (i := 1070) (by decide +kernel)) rfl, ini_X5, ⟨by decide +kernel, by decide +kernel, by decide +kernel⟩, by decide⟩
theorem im_X5_goBack : Cond.instanceMethod yX5_goBack ∈ lwg := lwg_of (List.mem_of_getElem? (i := 1068) (by decide +kernel)) (by decide +kernel)
theorem se_X5_goBack : Cond.selects RX5 yX5_goBack yX5_goBack ∈ lwg := lwg_of (List.mem_of_getElem? (i := 1069) (by decide +kernel)) (by decide +kernel)
theorem lm_X5_undo : LkM yX5_undo cX5_undo 1 (some .int) 0 := ⟨lwg_of (List.mem_of_getElem? (i := 1074) (by decide +kernel)) rfl, ini_X5, ⟨by decide +kernel, by decide +kernel, by decide +kernel⟩, by decide⟩
theorem im_X5_undo : Cond.instanceMethod yX5_undo ∈ lwg := lwg_of (List.mem_of_getElem? (i := 1072) (by decide +kernel)) (by decide +kernel)
theorem se_X5_undo : Cond.selects RX5 yX5_undo yX5_undo ∈ lwg := lwg_of (List.mem_of_getElem? (i := 1073) (by decide +kernel)) (by decide +kernel)
theorem lm_X5_sheet : LkM yX5_sheet cX5_sheet 3 (some .int) 2 := ⟨lwg_of (List.mem_of_getElem? (i := 1078) (by decide +kernel)) rfl, ini_X5, ⟨by decide +kernel, by decide +kernel, by decide +kernel⟩, by decide⟩
theorem im_X5_sheet : Cond.instanceMethod yX5_sheet ∈ lwg := lwg_of (List.mem_of_getElem? (i := 1076) (by decide +kernel)) (by decide +kernel)
theorem se_X5_sheet : Cond.selects RX5 yX5_sheet yX5_sheet ∈ lwg := lwg_of (List.mem_of_getElem? (i := 1077) (by decide +kernel)) (by decide +kernel)
theorem lm_X5_ofSheet : LkM yX5_ofSheet cX5_ofSheet 3 (some .int) 2 := ⟨lwg_of (List.mem_of_getElem? (i := 1082) (by decide +kernel)) rfl, ini_X5, ⟨by decide +kernel, by decide +kernel, by decide +kernel⟩, by decide⟩
theorem im_X5_ofSheet : Cond.instanceMethod yX5_ofSheet ∈ lwg := lwg_of (List.mem_of_getElem? (i := 1081) (by decide +kernel)) (by decide +kernel)
theorem se_X5_ofSheet : Cond.selects RX5 yX5_ofSheet yX5_ofSheet ∈ lwg := lwg_of (List.mem_of_getElem? (i := 45) (by decide +kernel)) (by decide +kernel)
theorem lm_X5_stitchesAt : LkM yX5_stitchesAt cX5_stitchesAt 5 (some .int) 1 := ⟨lwg_of (List.mem_of_getElem? (i := 1086) (by decide +kernel)) rfl, ini_X5, ⟨by decide +kernel, by decide +kernel, by decide +kernel⟩, by decide⟩
theorem im_X5_stitchesAt : Cond.instanceMethod yX5_stitchesAt ∈ lwg := lwg_of (List.mem_of_getElem? (i := 1085) (by decide +kernel)) (by decide +kernel)
theorem se_X5_stitchesAt : Cond.selects RX5 yX5_stitchesAt yX5_stitchesAt ∈ lwg := lwg_of (List.mem_of_getElem? (i := 46) (by decide +kernel)) (by decide +kernel)
theorem lm_X5_greaterAhead : LkM yX5_greaterAhead cX5_greaterAhead 4 (some .int) 1 := ⟨lwg_of (List.mem_of_getElem? (i := 1090) (by decide +kernel)) rfl, ini_X5, ⟨by decide +kernel, by decide +kernel, by decide +kernel⟩, by decide⟩
theorem im_X5_greaterAhead : Cond.instanceMethod yX5_greaterAhead ∈ lwg := lwg_of (List.mem_of_getElem? (i := 1089) (by decide +kernel)) (by decide +kernel)
theorem se_X5_greaterAhead : Cond.selects RX5 yX5_greaterAhead yX5_greaterAhead ∈ lwg := lwg_of (List.mem_of_getElem? (i := 47) (by decide +kernel)) (by decide +kernel)
theorem lm_X5_bin : LkM yX5_bin cX5_bin 3 (some .int) 2 := ⟨lwg_of (List.mem_of_getElem? (i := 1094) (by decide +kernel)) rfl, ini_X5, ⟨by decide +kernel, by decide +kernel, by decide +kernel⟩, by decide⟩
theorem im_X5_bin : Cond.instanceMethod yX5_bin ∈ lwg := lwg_of (List.mem_of_getElem? (i := 1092) (by decide +kernel)) (by decide +kernel)
theorem se_X5_bin : Cond.selects RX5 yX5_bin yX5_bin ∈ lwg := lwg_of (List.mem_of_getElem? (i := 1093) (by decide +kernel)) (by decide +kernel)
theorem lm_X5_ofBin : LkM yX5_ofBin cX5_ofBin 3 (some .int) 2 := ⟨lwg_of (List.mem_of_getElem? (i := 1098) (by decide +kernel)) rfl, ini_X5, ⟨by decide +kernel, by decide +kernel, by decide +kernel⟩, by decide⟩
theorem im_X5_ofBin : Cond.instanceMethod yX5_ofBin ∈ lwg := lwg_of (List.mem_of_getElem? (i := 1097) (by decide +kernel)) (by decide +kernel)
theorem se_X5_ofBin : Cond.selects RX5 yX5_ofBin yX5_ofBin ∈ lwg := lwg_of (List.mem_of_getElem? (i := 48) (by decide +kernel)) (by decide +kernel)
theorem lm_X5_inBlock : LkM yX5_inBlock cX5_inBlock 4 (some .int) 1 := ⟨lwg_of (List.mem_of_getElem? (i := 1102) (by decide +kernel)) rfl, ini_X5, ⟨by decide +kernel, by decide +kernel, by decide +kernel⟩, by decide⟩
theorem im_X5_inBlock : Cond.instanceMethod yX5_inBlock ∈ lwg := lwg_of (List.mem_of_getElem? (i := 1101) (by decide +kernel)) (by decide +kernel)
theorem se_X5_inBlock : Cond.selects RX5 yX5_inBlock yX5_inBlock ∈ lwg := lwg_of (List.mem_of_getElem? (i := 49) (by decide +kernel)) (by decide +kernel)
theorem lm_X5_count : LkM yX5_count cX5_count 2 (some .int) 1 := ⟨lwg_of (List.mem_of_getElem? (i := 1106) (by decide +kernel)) rfl, ini_X5, ⟨by decide +kernel, by decide +kernel, by decide +kernel⟩, by decide⟩
theorem im_X5_count : Cond.instanceMethod yX5_count ∈ lwg := lwg_of (List.mem_of_getElem? (i := 1104) (by decide +kernel)) (by decide +kernel)
theorem se_X5_count : Cond.selects RX5 yX5_count yX5_count ∈ lwg := lwg_of (List.mem_of_getElem? (i := 1105) (by decide +kernel)) (by decide +kernel)
theorem lm_X5_counted : LkM yX5_counted cX5_counted 2 (some .int) 1 := ⟨lwg_of (List.mem_of_getElem? (i := 1110) (by decide +kernel)) rfl, ini_X5, ⟨by decide +kernel, by decide +kernel, by decide +kernel⟩, by decide⟩
theorem im_X5_counted : Cond.instanceMethod yX5_counted ∈ lwg := lwg_of (List.mem_of_getElem? (i := 1109) (by decide +kernel)) (by decide +kernel)
theorem se_X5_counted : Cond.selects RX5 yX5_counted yX5_counted ∈ lwg := lwg_of (List.mem_of_getElem? (i := 50) (by decide +kernel)) (by decide +kernel)
theorem lm_X5_faultPlace : LkM yX5_faultPlace cX5_faultPlace 2 (some .int) 0 := ⟨lwg_of (List.mem_of_getElem? (i := 1114) (by decide +kernel)) rfl, ini_X5, ⟨by decide +kernel, by decide +kernel, by decide +kernel⟩, by decide⟩
theorem im_X5_faultPlace : Cond.instanceMethod yX5_faultPlace ∈ lwg := lwg_of (List.mem_of_getElem? (i := 1113) (by decide +kernel)) (by decide +kernel)
theorem se_X5_faultPlace : Cond.selects RX5 yX5_faultPlace yX5_faultPlace ∈ lwg := lwg_of (List.mem_of_getElem? (i := 51) (by decide +kernel)) (by decide +kernel)
theorem lm_X5_fewest : LkM yX5_fewest cX5_fewest 4 (some .int) 0 := ⟨lwg_of (List.mem_of_getElem? (i := 1118) (by decide +kernel)) rfl, ini_X5, ⟨by decide +kernel, by decide +kernel, by decide +kernel⟩, by decide⟩
theorem im_X5_fewest : Cond.instanceMethod yX5_fewest ∈ lwg := lwg_of (List.mem_of_getElem? (i := 1117) (by decide +kernel)) (by decide +kernel)
theorem se_X5_fewest : Cond.selects RX5 yX5_fewest yX5_fewest ∈ lwg := lwg_of (List.mem_of_getElem? (i := 52) (by decide +kernel)) (by decide +kernel)
theorem lm_X5_pairs : LkM yX5_pairs cX5_pairs 3 (some .int) 0 := ⟨lwg_of (List.mem_of_getElem? (i := 1122) (by decide +kernel)) rfl, ini_X5, ⟨by decide +kernel, by decide +kernel, by decide +kernel⟩, by decide⟩
theorem im_X5_pairs : Cond.instanceMethod yX5_pairs ∈ lwg := lwg_of (List.mem_of_getElem? (i := 1121) (by decide +kernel)) (by decide +kernel)
theorem se_X5_pairs : Cond.selects RX5 yX5_pairs yX5_pairs ∈ lwg := lwg_of (List.mem_of_getElem? (i := 53) (by decide +kernel)) (by decide +kernel)
theorem lm_X5_stitches : LkM yX5_stitches cX5_stitches 3 (some .int) 0 := ⟨lwg_of (List.mem_of_getElem? (i := 1126) (by decide +kernel)) rfl, ini_X5, ⟨by decide +kernel, by decide +kernel, by decide +kernel⟩, by decide⟩
theorem im_X5_stitches : Cond.instanceMethod yX5_stitches ∈ lwg := lwg_of (List.mem_of_getElem? (i := 1125) (by decide +kernel)) (by decide +kernel)
theorem se_X5_stitches : Cond.selects RX5 yX5_stitches yX5_stitches ∈ lwg := lwg_of (List.mem_of_getElem? (i := 54) (by decide +kernel)) (by decide +kernel)
theorem lm_X5_thread : LkM yX5_thread cX5_thread 3 (some .int) 0 := ⟨lwg_of (List.mem_of_getElem? (i := 1130) (by decide +kernel)) rfl, ini_X5, ⟨by decide +kernel, by decide +kernel, by decide +kernel⟩, by decide⟩
theorem im_X5_thread : Cond.instanceMethod yX5_thread ∈ lwg := lwg_of (List.mem_of_getElem? (i := 1129) (by decide +kernel)) (by decide +kernel)
theorem se_X5_thread : Cond.selects RX5 yX5_thread yX5_thread ∈ lwg := lwg_of (List.mem_of_getElem? (i := 55) (by decide +kernel)) (by decide +kernel)
theorem lm_X5_span : LkM yX5_span cX5_span 3 (some .int) 1 := ⟨lwg_of (List.mem_of_getElem? (i := 1133) (by decide +kernel)) rfl, ini_X5, ⟨by decide +kernel, by decide +kernel, by decide +kernel⟩, by decide⟩
theorem sm_X5_span : Cond.static yX5_span ∈ lwg := lwg_of (List.mem_of_getElem? (i := 1132) (by decide +kernel)) (by decide +kernel)
theorem lm_X5_loose : LkM yX5_loose cX5_loose 3 (some .int) 0 := ⟨lwg_of (List.mem_of_getElem? (i := 1137) (by decide +kernel)) rfl, ini_X5, ⟨by decide +kernel, by decide +kernel, by decide +kernel⟩, by decide⟩
theorem im_X5_loose : Cond.instanceMethod yX5_loose ∈ lwg := lwg_of (List.mem_of_getElem? (i := 1136) (by decide +kernel)) (by decide +kernel)
theorem se_X5_loose : Cond.selects RX5 yX5_loose yX5_loose ∈ lwg := lwg_of (List.mem_of_getElem? (i := 56) (by decide +kernel)) (by decide +kernel)
theorem lm_X5_boundSheets : LkM yX5_boundSheets cX5_boundSheets 3 (some .int) 0 := ⟨lwg_of (List.mem_of_getElem? (i := 1141) (by decide +kernel)) rfl, ini_X5, ⟨by decide +kernel, by decide +kernel, by decide +kernel⟩, by decide⟩
theorem im_X5_boundSheets : Cond.instanceMethod yX5_boundSheets ∈ lwg := lwg_of (List.mem_of_getElem? (i := 1140) (by decide +kernel)) (by decide +kernel)
theorem se_X5_boundSheets : Cond.selects RX5 yX5_boundSheets yX5_boundSheets ∈ lwg := lwg_of (List.mem_of_getElem? (i := 57) (by decide +kernel)) (by decide +kernel)
theorem lm_X5_setting : LkM yX5_setting cX5_setting 2 (some .int) 1 := ⟨lwg_of (List.mem_of_getElem? (i := 1145) (by decide +kernel)) rfl, ini_X5, ⟨by decide +kernel, by decide +kernel, by decide +kernel⟩, by decide⟩
theorem im_X5_setting : Cond.instanceMethod yX5_setting ∈ lwg := lwg_of (List.mem_of_getElem? (i := 1143) (by decide +kernel)) (by decide +kernel)
theorem se_X5_setting : Cond.selects RX5 yX5_setting yX5_setting ∈ lwg := lwg_of (List.mem_of_getElem? (i := 1144) (by decide +kernel)) (by decide +kernel)
theorem lm_X5_nextMove : LkM yX5_nextMove cX5_nextMove 1 (some .int) 0 := ⟨lwg_of (List.mem_of_getElem? (i := 1149) (by decide +kernel)) rfl, ini_X5, ⟨by decide +kernel, by decide +kernel, by decide +kernel⟩, by decide⟩
theorem im_X5_nextMove : Cond.instanceMethod yX5_nextMove ∈ lwg := lwg_of (List.mem_of_getElem? (i := 1147) (by decide +kernel)) (by decide +kernel)
theorem se_X5_nextMove : Cond.selects RX5 yX5_nextMove yX5_nextMove ∈ lwg := lwg_of (List.mem_of_getElem? (i := 1148) (by decide +kernel)) (by decide +kernel)
theorem lm_X5_moveNext : LkM yX5_moveNext cX5_moveNext 4 (some .int) 0 := ⟨lwg_of (List.mem_of_getElem? (i := 1153) (by decide +kernel)) rfl, ini_X5, ⟨by decide +kernel, by decide +kernel, by decide +kernel⟩, by decide⟩
theorem im_X5_moveNext : Cond.instanceMethod yX5_moveNext ∈ lwg := lwg_of (List.mem_of_getElem? (i := 1152) (by decide +kernel)) (by decide +kernel)
theorem se_X5_moveNext : Cond.selects RX5 yX5_moveNext yX5_moveNext ∈ lwg := lwg_of (List.mem_of_getElem? (i := 58) (by decide +kernel)) (by decide +kernel)
theorem lm_X5_fewestBehind : LkM yX5_fewestBehind cX5_fewestBehind 4 (some .int) 2 := ⟨lwg_of (List.mem_of_getElem? (i := 1157) (by decide +kernel)) rfl, ini_X5, ⟨by decide +kernel, by decide +kernel, by decide +kernel⟩, by decide⟩
theorem im_X5_fewestBehind : Cond.instanceMethod yX5_fewestBehind ∈ lwg := lwg_of (List.mem_of_getElem? (i := 1156) (by decide +kernel)) (by decide +kernel)
theorem se_X5_fewestBehind : Cond.selects RX5 yX5_fewestBehind yX5_fewestBehind ∈ lwg := lwg_of (List.mem_of_getElem? (i := 59) (by decide +kernel)) (by decide +kernel)
theorem lm_X5_ifPulled : LkM yX5_ifPulled cX5_ifPulled 3 (some .int) 2 := ⟨lwg_of (List.mem_of_getElem? (i := 1161) (by decide +kernel)) rfl, ini_X5, ⟨by decide +kernel, by decide +kernel, by decide +kernel⟩, by decide⟩
theorem im_X5_ifPulled : Cond.instanceMethod yX5_ifPulled ∈ lwg := lwg_of (List.mem_of_getElem? (i := 1159) (by decide +kernel)) (by decide +kernel)
theorem se_X5_ifPulled : Cond.selects RX5 yX5_ifPulled yX5_ifPulled ∈ lwg := lwg_of (List.mem_of_getElem? (i := 1160) (by decide +kernel)) (by decide +kernel)
theorem lm_X5_without : LkM yX5_without cX5_without 3 (some .int) 2 := ⟨lwg_of (List.mem_of_getElem? (i := 1165) (by decide +kernel)) rfl, ini_X5, ⟨by decide +kernel, by decide +kernel, by decide +kernel⟩, by decide⟩
theorem im_X5_without : Cond.instanceMethod yX5_without ∈ lwg := lwg_of (List.mem_of_getElem? (i := 1164) (by decide +kernel)) (by decide +kernel)
theorem se_X5_without : Cond.selects RX5 yX5_without yX5_without ∈ lwg := lwg_of (List.mem_of_getElem? (i := 60) (by decide +kernel)) (by decide +kernel)
theorem lm_X5_fits : LkM yX5_fits cX5_fits 1 (some .int) 0 := ⟨lwg_of (List.mem_of_getElem? (i := 1169) (by decide +kernel)) rfl, ini_X5, ⟨by decide +kernel, by decide +kernel, by decide +kernel⟩, by decide⟩
theorem im_X5_fits : Cond.instanceMethod yX5_fits ∈ lwg := lwg_of (List.mem_of_getElem? (i := 1167) (by decide +kernel)) (by decide +kernel)
theorem se_X5_fits : Cond.selects RX5 yX5_fits yX5_fits ∈ lwg := lwg_of (List.mem_of_getElem? (i := 1168) (by decide +kernel)) (by decide +kernel)
theorem lm_X5_fitting : LkM yX5_fitting cX5_fitting 2 (some .int) 0 := ⟨lwg_of (List.mem_of_getElem? (i := 1173) (by decide +kernel)) rfl, ini_X5, ⟨by decide +kernel, by decide +kernel, by decide +kernel⟩, by decide⟩
theorem im_X5_fitting : Cond.instanceMethod yX5_fitting ∈ lwg := lwg_of (List.mem_of_getElem? (i := 1172) (by decide +kernel)) (by decide +kernel)
theorem se_X5_fitting : Cond.selects RX5 yX5_fitting yX5_fitting ∈ lwg := lwg_of (List.mem_of_getElem? (i := 61) (by decide +kernel)) (by decide +kernel)
theorem lm_X5_books : LkM yX5_books cX5_books 1 (some .int) 0 := ⟨lwg_of (List.mem_of_getElem? (i := 1177) (by decide +kernel)) rfl, ini_X5, ⟨by decide +kernel, by decide +kernel, by decide +kernel⟩, by decide⟩
theorem im_X5_books : Cond.instanceMethod yX5_books ∈ lwg := lwg_of (List.mem_of_getElem? (i := 1175) (by decide +kernel)) (by decide +kernel)
theorem se_X5_books : Cond.selects RX5 yX5_books yX5_books ∈ lwg := lwg_of (List.mem_of_getElem? (i := 1176) (by decide +kernel)) (by decide +kernel)
theorem lm_X5_possible : LkM yX5_possible cX5_possible 4 (some .int) 0 := ⟨lwg_of (List.mem_of_getElem? (i := 1181) (by decide +kernel)) rfl, ini_X5, ⟨by decide +kernel, by decide +kernel, by decide +kernel⟩, by decide⟩
theorem im_X5_possible : Cond.instanceMethod yX5_possible ∈ lwg := lwg_of (List.mem_of_getElem? (i := 1180) (by decide +kernel)) (by decide +kernel)
theorem se_X5_possible : Cond.selects RX5 yX5_possible yX5_possible ∈ lwg := lwg_of (List.mem_of_getElem? (i := 62) (by decide +kernel)) (by decide +kernel)
theorem lm_X5_stairShare : LkM yX5_stairShare cX5_stairShare 1 (some .double) 0 := ⟨lwg_of (List.mem_of_getElem? (i := 1185) (by decide +kernel)) rfl, ini_X5, ⟨by decide +kernel, by decide +kernel, by decide +kernel⟩, by decide⟩
theorem im_X5_stairShare : Cond.instanceMethod yX5_stairShare ∈ lwg := lwg_of (List.mem_of_getElem? (i := 1183) (by decide +kernel)) (by decide +kernel)
theorem se_X5_stairShare : Cond.selects RX5 yX5_stairShare yX5_stairShare ∈ lwg := lwg_of (List.mem_of_getElem? (i := 1184) (by decide +kernel)) (by decide +kernel)
theorem lm_X5_share : LkM yX5_share cX5_share 1 (some .double) 0 := ⟨lwg_of (List.mem_of_getElem? (i := 1189) (by decide +kernel)) rfl, ini_X5, ⟨by decide +kernel, by decide +kernel, by decide +kernel⟩, by decide⟩
theorem im_X5_share : Cond.instanceMethod yX5_share ∈ lwg := lwg_of (List.mem_of_getElem? (i := 1188) (by decide +kernel)) (by decide +kernel)
theorem se_X5_share : Cond.selects RX5 yX5_share yX5_share ∈ lwg := lwg_of (List.mem_of_getElem? (i := 63) (by decide +kernel)) (by decide +kernel)
theorem lm_X5_meanThread : LkM yX5_meanThread cX5_meanThread 1 (some .float) 0 := ⟨lwg_of (List.mem_of_getElem? (i := 1193) (by decide +kernel)) rfl, ini_X5, ⟨by decide +kernel, by decide +kernel, by decide +kernel⟩, by decide⟩
theorem im_X5_meanThread : Cond.instanceMethod yX5_meanThread ∈ lwg := lwg_of (List.mem_of_getElem? (i := 1191) (by decide +kernel)) (by decide +kernel)
theorem se_X5_meanThread : Cond.selects RX5 yX5_meanThread yX5_meanThread ∈ lwg := lwg_of (List.mem_of_getElem? (i := 1192) (by decide +kernel)) (by decide +kernel)
theorem lm_X5_mean : LkM yX5_mean cX5_mean 1 (some .float) 0 := ⟨lwg_of (List.mem_of_getElem? (i := 1197) (by decide +kernel)) rfl, ini_X5, ⟨by decide +kernel, by decide +kernel, by decide +kernel⟩, by decide⟩
theorem im_X5_mean : Cond.instanceMethod yX5_mean ∈ lwg := lwg_of (List.mem_of_getElem? (i := 1196) (by decide +kernel)) (by decide +kernel)
theorem se_X5_mean : Cond.selects RX5 yX5_mean yX5_mean ∈ lwg := lwg_of (List.mem_of_getElem? (i := 64) (by decide +kernel)) (by decide +kernel)
theorem lm_X5_digest : LkM yX5_digest cX5_digest 3 (some .long) 0 := ⟨lwg_of (List.mem_of_getElem? (i := 1201) (by decide +kernel)) rfl, ini_X5, ⟨by decide +kernel, by decide +kernel, by decide +kernel⟩, by decide⟩
theorem im_X5_digest : Cond.instanceMethod yX5_digest ∈ lwg := lwg_of (List.mem_of_getElem? (i := 1199) (by decide +kernel)) (by decide +kernel)
theorem se_X5_digest : Cond.selects RX5 yX5_digest yX5_digest ∈ lwg := lwg_of (List.mem_of_getElem? (i := 1200) (by decide +kernel)) (by decide +kernel)
theorem lm_X5_mix : LkM yX5_mix cX5_mix 3 (none) 1 := ⟨lwg_of (List.mem_of_getElem? (i := 1206) (by decide +kernel)) rfl, ini_X5, ⟨by decide +kernel, by decide +kernel, by decide +kernel⟩, by decide⟩
theorem im_X5_mix : Cond.instanceMethod yX5_mix ∈ lwg := lwg_of (List.mem_of_getElem? (i := 1205) (by decide +kernel)) (by decide +kernel)
theorem se_X5_mix : Cond.selects RX5 yX5_mix yX5_mix ∈ lwg := lwg_of (List.mem_of_getElem? (i := 65) (by decide +kernel)) (by decide +kernel)
theorem lm_X5_bits : LkM yX5_bits cX5_bits 6 (some .long) 1 := ⟨lwg_of (List.mem_of_getElem? (i := 1210) (by decide +kernel)) rfl, ini_X5, ⟨by decide +kernel, by decide +kernel, by decide +kernel⟩, by decide⟩
theorem sm_X5_bits : Cond.static yX5_bits ∈ lwg := lwg_of (List.mem_of_getElem? (i := 1209) (by decide +kernel)) (by decide +kernel)
theorem lm_X5_floatBits : LkM yX5_floatBits cX5_floatBits 3 (some .int) 1 := ⟨lwg_of (List.mem_of_getElem? (i := 1217) (by decide +kernel)) rfl, ini_X5, ⟨by decide +kernel, by decide +kernel, by decide +kernel⟩, by decide⟩
theorem sm_X5_floatBits : Cond.static yX5_floatBits ∈ lwg := lwg_of (List.mem_of_getElem? (i := 1216) (by decide +kernel)) (by decide +kernel)
theorem ml_L_72 : Cond.methodLink RL 72 yX4_init ∈ lwg := lwg_of (List.mem_of_getElem? (i := 85) (by decide +kernel)) (by decide +kernel)
theorem ml_X4_9 : Cond.methodLink RX4 9 yX3_init ∈ lwg := lwg_of (List.mem_of_getElem? (i := 93) (by decide +kernel)) (by decide +kernel)
theorem mn_X3_11 : Cond.methodLinkNest RX3 11 yX0_init "SteppedSpines" ∈ lw_tbl := List.mem_of_getElem? (i := 99) (by decide +kernel)
theorem fl_X0_9 : Cond.fieldLink RX0 9 "SteppedSpines$Block" "numbers" "[I" ∈ lwg := lwg_of (List.mem_of_getElem? (i := 103) (by decide +kernel)) (by decide +kernel)
theorem fl_X3_73 : Cond.fieldLink RX3 73 "SteppedSpines$Block" "numbers" "[I" ∈ lwg := lwg_of (List.mem_of_getElem? (i := 104) (by decide +kernel)) (by decide +kernel)
theorem fl_X4_198 : Cond.fieldLink RX4 198 "SteppedSpines$Block" "numbers" "[I" ∈ lwg := lwg_of (List.mem_of_getElem? (i := 105) (by decide +kernel)) (by decide +kernel)
theorem fl_X0_15 : Cond.fieldLink RX0 15 "SteppedSpines$Block" "turned" "[I" ∈ lwg := lwg_of (List.mem_of_getElem? (i := 106) (by decide +kernel)) (by decide +kernel)
theorem fl_X3_87 : Cond.fieldLink RX3 87 "SteppedSpines$Block" "turned" "[I" ∈ lwg := lwg_of (List.mem_of_getElem? (i := 107) (by decide +kernel)) (by decide +kernel)
theorem fl_X4_201 : Cond.fieldLink RX4 201 "SteppedSpines$Block" "turned" "[I" ∈ lwg := lwg_of (List.mem_of_getElem? (i := 108) (by decide +kernel)) (by decide +kernel)
theorem fl_X0_27 : Cond.fieldLink RX0 27 "SteppedSpines$Block" "size" "I" ∈ lwg := lwg_of (List.mem_of_getElem? (i := 109) (by decide +kernel)) (by decide +kernel)
theorem fl_X4_75 : Cond.fieldLink RX4 75 "SteppedSpines$Block" "size" "I" ∈ lwg := lwg_of (List.mem_of_getElem? (i := 110) (by decide +kernel)) (by decide +kernel)
theorem fl_X3_62 : Cond.fieldLink RX3 62 "SteppedSpines$Block" "size" "I" ∈ lwg := lwg_of (List.mem_of_getElem? (i := 111) (by decide +kernel)) (by decide +kernel)
theorem fl_X0_18 : Cond.fieldLink RX0 18 "SteppedSpines$Block" "longestEnding" "[I" ∈ lwg := lwg_of (List.mem_of_getElem? (i := 112) (by decide +kernel)) (by decide +kernel)
theorem fl_X0_21 : Cond.fieldLink RX0 21 "SteppedSpines$Block" "longestBeginning" "[I" ∈ lwg := lwg_of (List.mem_of_getElem? (i := 113) (by decide +kernel)) (by decide +kernel)
theorem fl_X0_24 : Cond.fieldLink RX0 24 "SteppedSpines$Block" "tops" "[I" ∈ lwg := lwg_of (List.mem_of_getElem? (i := 114) (by decide +kernel)) (by decide +kernel)
theorem ml_X3_34 : Cond.methodLink RX3 34 yJ7_fill_53178 ∈ lwg := lwg_of (List.mem_of_getElem? (i := 129) (by decide +kernel)) (by decide +kernel)
theorem mn_X3_43 : Cond.methodLinkNest RX3 43 yX4_copyRow "SteppedSpines" ∈ lw_tbl := List.mem_of_getElem? (i := 134) (by decide +kernel)
theorem ml_X4_274 : Cond.methodLink RX4 274 yJ9_min_7cf53 ∈ lwg := lwg_of (List.mem_of_getElem? (i := 137) (by decide +kernel)) (by decide +kernel)
theorem fl_X3_12 : Cond.fieldLink RX3 12 "SteppedSpines$State" "block" "LSteppedSpines$Block;" ∈ lwg := lwg_of (List.mem_of_getElem? (i := 143) (by decide +kernel)) (by decide +kernel)
theorem fl_X4_71 : Cond.fieldLink RX4 71 "SteppedSpines$State" "block" "LSteppedSpines$Block;" ∈ lwg := lwg_of (List.mem_of_getElem? (i := 144) (by decide +kernel)) (by decide +kernel)
theorem fl_X3_18 : Cond.fieldLink RX3 18 "SteppedSpines$State" "copies" "[I" ∈ lwg := lwg_of (List.mem_of_getElem? (i := 145) (by decide +kernel)) (by decide +kernel)
theorem fl_X4_127 : Cond.fieldLink RX4 127 "SteppedSpines$State" "copies" "[I" ∈ lwg := lwg_of (List.mem_of_getElem? (i := 146) (by decide +kernel)) (by decide +kernel)
theorem fl_X3_22 : Cond.fieldLink RX3 22 "SteppedSpines$State" "inBooks" "[I" ∈ lwg := lwg_of (List.mem_of_getElem? (i := 147) (by decide +kernel)) (by decide +kernel)
theorem fl_X4_216 : Cond.fieldLink RX4 216 "SteppedSpines$State" "inBooks" "[I" ∈ lwg := lwg_of (List.mem_of_getElem? (i := 148) (by decide +kernel)) (by decide +kernel)
theorem fl_X3_25 : Cond.fieldLink RX3 25 "SteppedSpines$State" "printed" "[I" ∈ lwg := lwg_of (List.mem_of_getElem? (i := 149) (by decide +kernel)) (by decide +kernel)
theorem fl_X4_140 : Cond.fieldLink RX4 140 "SteppedSpines$State" "printed" "[I" ∈ lwg := lwg_of (List.mem_of_getElem? (i := 150) (by decide +kernel)) (by decide +kernel)
theorem fl_X3_28 : Cond.fieldLink RX3 28 "SteppedSpines$State" "holes" "[I" ∈ lwg := lwg_of (List.mem_of_getElem? (i := 151) (by decide +kernel)) (by decide +kernel)
theorem fl_X4_145 : Cond.fieldLink RX4 145 "SteppedSpines$State" "holes" "[I" ∈ lwg := lwg_of (List.mem_of_getElem? (i := 152) (by decide +kernel)) (by decide +kernel)
theorem fl_X3_31 : Cond.fieldLink RX3 31 "SteppedSpines$State" "settings" "[I" ∈ lwg := lwg_of (List.mem_of_getElem? (i := 153) (by decide +kernel)) (by decide +kernel)
theorem fl_X4_164 : Cond.fieldLink RX4 164 "SteppedSpines$State" "settings" "[I" ∈ lwg := lwg_of (List.mem_of_getElem? (i := 154) (by decide +kernel)) (by decide +kernel)
theorem fl_X3_47 : Cond.fieldLink RX3 47 "SteppedSpines$State" "booksBound" "I" ∈ lwg := lwg_of (List.mem_of_getElem? (i := 155) (by decide +kernel)) (by decide +kernel)
theorem fl_X4_119 : Cond.fieldLink RX4 119 "SteppedSpines$State" "booksBound" "I" ∈ lwg := lwg_of (List.mem_of_getElem? (i := 156) (by decide +kernel)) (by decide +kernel)
theorem fl_X3_51 : Cond.fieldLink RX3 51 "SteppedSpines$State" "latestStop" "I" ∈ lwg := lwg_of (List.mem_of_getElem? (i := 157) (by decide +kernel)) (by decide +kernel)
theorem fl_X4_246 : Cond.fieldLink RX4 246 "SteppedSpines$State" "latestStop" "I" ∈ lwg := lwg_of (List.mem_of_getElem? (i := 158) (by decide +kernel)) (by decide +kernel)
theorem ml_X4_24 : Cond.methodLink RX4 24 yX1_init ∈ lwg := lwg_of (List.mem_of_getElem? (i := 178) (by decide +kernel)) (by decide +kernel)
theorem ml_X1_17 : Cond.methodLink RX1 17 yX3_init ∈ lwg := lwg_of (List.mem_of_getElem? (i := 184) (by decide +kernel)) (by decide +kernel)
theorem fl_X1_11 : Cond.fieldLink RX1 11 "SteppedSpines$History" "states" "[LSteppedSpines$State;" ∈ lwg := lwg_of (List.mem_of_getElem? (i := 185) (by decide +kernel)) (by decide +kernel)
theorem fl_X1_18 : Cond.fieldLink RX1 18 "SteppedSpines$History" "size" "I" ∈ lwg := lwg_of (List.mem_of_getElem? (i := 186) (by decide +kernel)) (by decide +kernel)
theorem fl_X4_188 : Cond.fieldLink RX4 188 "SteppedSpines$History" "size" "I" ∈ lwg := lwg_of (List.mem_of_getElem? (i := 187) (by decide +kernel)) (by decide +kernel)
theorem mn_X4_31 : Cond.methodLinkNest RX4 31 yX2_init "SteppedSpines" ∈ lw_tbl := List.mem_of_getElem? (i := 195) (by decide +kernel)
theorem fl_X2_9 : Cond.fieldLink RX2 9 "SteppedSpines$Reader" "letter" "C" ∈ lwg := lwg_of (List.mem_of_getElem? (i := 199) (by decide +kernel)) (by decide +kernel)
theorem fl_X4_338 : Cond.fieldLink RX4 338 "SteppedSpines$Reader" "letter" "C" ∈ lwg := lwg_of (List.mem_of_getElem? (i := 200) (by decide +kernel)) (by decide +kernel)
theorem fl_X2_15 : Cond.fieldLink RX2 15 "SteppedSpines$Reader" "firstNumber" "I" ∈ lwg := lwg_of (List.mem_of_getElem? (i := 201) (by decide +kernel)) (by decide +kernel)
theorem fl_X4_345 : Cond.fieldLink RX4 345 "SteppedSpines$Reader" "firstNumber" "I" ∈ lwg := lwg_of (List.mem_of_getElem? (i := 202) (by decide +kernel)) (by decide +kernel)
theorem fl_X2_19 : Cond.fieldLink RX2 19 "SteppedSpines$Reader" "number" "I" ∈ lwg := lwg_of (List.mem_of_getElem? (i := 203) (by decide +kernel)) (by decide +kernel)
theorem fl_X4_342 : Cond.fieldLink RX4 342 "SteppedSpines$Reader" "number" "I" ∈ lwg := lwg_of (List.mem_of_getElem? (i := 204) (by decide +kernel)) (by decide +kernel)
theorem fl_X2_22 : Cond.fieldLink RX2 22 "SteppedSpines$Reader" "where" "I" ∈ lwg := lwg_of (List.mem_of_getElem? (i := 205) (by decide +kernel)) (by decide +kernel)
theorem fl_X2_25 : Cond.fieldLink RX2 25 "SteppedSpines$Reader" "firstIsRead" "Z" ∈ lwg := lwg_of (List.mem_of_getElem? (i := 206) (by decide +kernel)) (by decide +kernel)
theorem fl_X4_10 : Cond.fieldLink RX4 10 "SteppedSpines" "now" "LSteppedSpines$State;" ∈ lwg := lwg_of (List.mem_of_getElem? (i := 218) (by decide +kernel)) (by decide +kernel)
theorem fl_X4_16 : Cond.fieldLink RX4 16 "SteppedSpines" "snapshot" "LSteppedSpines$State;" ∈ lwg := lwg_of (List.mem_of_getElem? (i := 219) (by decide +kernel)) (by decide +kernel)
theorem fl_X4_19 : Cond.fieldLink RX4 19 "SteppedSpines" "trial" "LSteppedSpines$State;" ∈ lwg := lwg_of (List.mem_of_getElem? (i := 220) (by decide +kernel)) (by decide +kernel)
theorem fl_X4_25 : Cond.fieldLink RX4 25 "SteppedSpines" "history" "LSteppedSpines$History;" ∈ lwg := lwg_of (List.mem_of_getElem? (i := 221) (by decide +kernel)) (by decide +kernel)
theorem fl_X4_32 : Cond.fieldLink RX4 32 "SteppedSpines" "reader" "LSteppedSpines$Reader;" ∈ lwg := lwg_of (List.mem_of_getElem? (i := 222) (by decide +kernel)) (by decide +kernel)
theorem fl_X4_36 : Cond.fieldLink RX4 36 "SteppedSpines" "buffer" "[I" ∈ lwg := lwg_of (List.mem_of_getElem? (i := 223) (by decide +kernel)) (by decide +kernel)
theorem fl_X4_40 : Cond.fieldLink RX4 40 "SteppedSpines" "bufferLength" "I" ∈ lwg := lwg_of (List.mem_of_getElem? (i := 224) (by decide +kernel)) (by decide +kernel)
theorem fl_X4_44 : Cond.fieldLink RX4 44 "SteppedSpines" "hasSnapshot" "Z" ∈ lwg := lwg_of (List.mem_of_getElem? (i := 225) (by decide +kernel)) (by decide +kernel)
theorem ml_L_114 : Cond.methodLink RL 114 yX4_clearBuffer ∈ lwg := lwg_of (List.mem_of_getElem? (i := 243) (by decide +kernel)) (by decide +kernel)
theorem ml_L_118 : Cond.methodLink RL 118 yX4_firstError ∈ lwg := lwg_of (List.mem_of_getElem? (i := 247) (by decide +kernel)) (by decide +kernel)
theorem ml_X4_171 : Cond.methodLink RX4 171 yX4_readBuffer ∈ lwg := lwg_of (List.mem_of_getElem? (i := 251) (by decide +kernel)) (by decide +kernel)
theorem ml_X4_326 : Cond.methodLink RX4 326 yX2_start ∈ lwg := lwg_of (List.mem_of_getElem? (i := 255) (by decide +kernel)) (by decide +kernel)
theorem ml_X4_130 : Cond.methodLink RX4 130 yX4_at ∈ lwg := lwg_of (List.mem_of_getElem? (i := 259) (by decide +kernel)) (by decide +kernel)
theorem ml_X4_329 : Cond.methodLink RX4 329 yX2_accepts ∈ lwg := lwg_of (List.mem_of_getElem? (i := 262) (by decide +kernel)) (by decide +kernel)
theorem ml_X2_29 : Cond.methodLink RX2 29 yX2_acceptsLetter ∈ lwg := lwg_of (List.mem_of_getElem? (i := 266) (by decide +kernel)) (by decide +kernel)
theorem ml_X2_33 : Cond.methodLink RX2 33 yX2_acceptsFirstDigit ∈ lwg := lwg_of (List.mem_of_getElem? (i := 270) (by decide +kernel)) (by decide +kernel)
theorem ml_X2_36 : Cond.methodLink RX2 36 yX2_acceptsSecondDigit ∈ lwg := lwg_of (List.mem_of_getElem? (i := 274) (by decide +kernel)) (by decide +kernel)
theorem ml_X2_39 : Cond.methodLink RX2 39 yX2_acceptsArrow ∈ lwg := lwg_of (List.mem_of_getElem? (i := 278) (by decide +kernel)) (by decide +kernel)
theorem ml_X2_45 : Cond.methodLink RX2 45 yX2_arrowIsDue ∈ lwg := lwg_of (List.mem_of_getElem? (i := 282) (by decide +kernel)) (by decide +kernel)
theorem ml_X2_42 : Cond.methodLink RX2 42 yX2_acceptsEndOfPart ∈ lwg := lwg_of (List.mem_of_getElem? (i := 286) (by decide +kernel)) (by decide +kernel)
theorem ml_X2_49 : Cond.methodLink RX2 49 yX2_isComplete ∈ lwg := lwg_of (List.mem_of_getElem? (i := 290) (by decide +kernel)) (by decide +kernel)
theorem ml_L_125 : Cond.methodLink RL 125 yX4_keep ∈ lwg := lwg_of (List.mem_of_getElem? (i := 294) (by decide +kernel)) (by decide +kernel)
theorem ml_X4_183 : Cond.methodLink RX4 183 yX3_copyFrom ∈ lwg := lwg_of (List.mem_of_getElem? (i := 298) (by decide +kernel)) (by decide +kernel)
theorem ml_X3_54 : Cond.methodLink RX3 54 yX0_copyFrom ∈ lwg := lwg_of (List.mem_of_getElem? (i := 302) (by decide +kernel)) (by decide +kernel)
theorem mn_X0_31 : Cond.methodLinkNest RX0 31 yX4_copyRow "SteppedSpines" ∈ lw_tbl := List.mem_of_getElem? (i := 306) (by decide +kernel)
theorem ml_L_147 : Cond.methodLink RL 147 yX4_nextMove ∈ lwg := lwg_of (List.mem_of_getElem? (i := 307) (by decide +kernel)) (by decide +kernel)
theorem ml_X4_249 : Cond.methodLink RX4 249 yX0_longestRowBySheets ∈ lwg := lwg_of (List.mem_of_getElem? (i := 311) (by decide +kernel)) (by decide +kernel)
theorem ml_X0_66 : Cond.methodLink RX0 66 yX0_findLongestEnding ∈ lwg := lwg_of (List.mem_of_getElem? (i := 315) (by decide +kernel)) (by decide +kernel)
theorem mn_X0_35 : Cond.methodLinkNest RX0 35 yX4_at "SteppedSpines" ∈ lw_tbl := List.mem_of_getElem? (i := 319) (by decide +kernel)
theorem ml_X0_75 : Cond.methodLink RX0 75 yX0_longestAhead ∈ lwg := lwg_of (List.mem_of_getElem? (i := 320) (by decide +kernel)) (by decide +kernel)
theorem ml_X0_69 : Cond.methodLink RX0 69 yJ9_max_7cf53 ∈ lwg := lwg_of (List.mem_of_getElem? (i := 324) (by decide +kernel)) (by decide +kernel)
theorem mn_X0_39 : Cond.methodLinkNest RX0 39 yX4_put "SteppedSpines" ∈ lw_tbl := List.mem_of_getElem? (i := 327) (by decide +kernel)
theorem ml_X4_252 : Cond.methodLink RX4 252 yX0_copyFrom ∈ lwg := lwg_of (List.mem_of_getElem? (i := 330) (by decide +kernel)) (by decide +kernel)
theorem ml_X4_255 : Cond.methodLink RX4 255 yX0_takeOut ∈ lwg := lwg_of (List.mem_of_getElem? (i := 331) (by decide +kernel)) (by decide +kernel)
theorem ml_X0_43 : Cond.methodLink RX0 43 yX0_hasPlace ∈ lwg := lwg_of (List.mem_of_getElem? (i := 335) (by decide +kernel)) (by decide +kernel)
theorem ml_X4_258 : Cond.methodLink RX4 258 yX0_placeThatMakesRowOf ∈ lwg := lwg_of (List.mem_of_getElem? (i := 339) (by decide +kernel)) (by decide +kernel)
theorem ml_X0_81 : Cond.methodLink RX0 81 yX0_findLongestBeginning ∈ lwg := lwg_of (List.mem_of_getElem? (i := 343) (by decide +kernel)) (by decide +kernel)
theorem ml_X0_78 : Cond.methodLink RX0 78 yX0_longestFrom ∈ lwg := lwg_of (List.mem_of_getElem? (i := 347) (by decide +kernel)) (by decide +kernel)
theorem ml_L_154 : Cond.methodLink RL 154 yX4_fits ∈ lwg := lwg_of (List.mem_of_getElem? (i := 351) (by decide +kernel)) (by decide +kernel)
theorem ml_X4_262 : Cond.methodLink RX4 262 yX3_stepDueAt ∈ lwg := lwg_of (List.mem_of_getElem? (i := 355) (by decide +kernel)) (by decide +kernel)
theorem ml_X3_90 : Cond.methodLink RX3 90 yX3_stepOfMark ∈ lwg := lwg_of (List.mem_of_getElem? (i := 359) (by decide +kernel)) (by decide +kernel)
theorem mn_X3_58 : Cond.methodLinkNest RX3 58 yX4_at "SteppedSpines" ∈ lw_tbl := List.mem_of_getElem? (i := 363) (by decide +kernel)
theorem ml_X3_84 : Cond.methodLink RX3 84 yX3_stepOfNumber ∈ lwg := lwg_of (List.mem_of_getElem? (i := 364) (by decide +kernel)) (by decide +kernel)
theorem ml_X4_265 : Cond.methodLink RX4 265 yX3_stepOfNumber ∈ lwg := lwg_of (List.mem_of_getElem? (i := 368) (by decide +kernel)) (by decide +kernel)
theorem ml_L_158 : Cond.methodLink RL 158 yX4_books ∈ lwg := lwg_of (List.mem_of_getElem? (i := 369) (by decide +kernel)) (by decide +kernel)
theorem ml_X4_268 : Cond.methodLink RX4 268 yX3_copiesInBinAndBlock ∈ lwg := lwg_of (List.mem_of_getElem? (i := 373) (by decide +kernel)) (by decide +kernel)
theorem ml_X3_80 : Cond.methodLink RX3 80 yX0_copiesOf ∈ lwg := lwg_of (List.mem_of_getElem? (i := 377) (by decide +kernel)) (by decide +kernel)
theorem ml_X4_271 : Cond.methodLink RX4 271 yX3_bookSheets ∈ lwg := lwg_of (List.mem_of_getElem? (i := 381) (by decide +kernel)) (by decide +kernel)
theorem ml_L_162 : Cond.methodLink RL 162 yX4_stairShare ∈ lwg := lwg_of (List.mem_of_getElem? (i := 385) (by decide +kernel)) (by decide +kernel)
theorem ml_X4_107 : Cond.methodLink RX4 107 yX3_breaks ∈ lwg := lwg_of (List.mem_of_getElem? (i := 389) (by decide +kernel)) (by decide +kernel)
theorem ml_L_167 : Cond.methodLink RL 167 yX4_meanThread ∈ lwg := lwg_of (List.mem_of_getElem? (i := 393) (by decide +kernel)) (by decide +kernel)
theorem ml_X4_237 : Cond.methodLink RX4 237 yX3_threadLength ∈ lwg := lwg_of (List.mem_of_getElem? (i := 397) (by decide +kernel)) (by decide +kernel)
theorem ml_X3_129 : Cond.methodLink RX3 129 yX3_stitches ∈ lwg := lwg_of (List.mem_of_getElem? (i := 401) (by decide +kernel)) (by decide +kernel)
theorem ml_X3_126 : Cond.methodLink RX3 126 yX3_stitchesAheadOf ∈ lwg := lwg_of (List.mem_of_getElem? (i := 405) (by decide +kernel)) (by decide +kernel)
theorem ml_X3_118 : Cond.methodLink RX3 118 yX3_holesAt ∈ lwg := lwg_of (List.mem_of_getElem? (i := 409) (by decide +kernel)) (by decide +kernel)
theorem ml_X3_121 : Cond.methodLink RX3 121 yJ6_bitCount_0f7a4 ∈ lwg := lwg_of (List.mem_of_getElem? (i := 413) (by decide +kernel)) (by decide +kernel)
theorem kc_J6_265 : Cond.constant RJ6 265 (1431655765) ∈ lwg := lwg_of (List.mem_of_getElem? (i := 416) (by decide +kernel)) (by decide +kernel)
theorem kc_J6_266 : Cond.constant RJ6 266 (858993459) ∈ lwg := lwg_of (List.mem_of_getElem? (i := 417) (by decide +kernel)) (by decide +kernel)
theorem kc_J6_267 : Cond.constant RJ6 267 (252645135) ∈ lwg := lwg_of (List.mem_of_getElem? (i := 418) (by decide +kernel)) (by decide +kernel)
theorem ml_X3_132 : Cond.methodLink RX3 132 yX3_spanOfHoles ∈ lwg := lwg_of (List.mem_of_getElem? (i := 419) (by decide +kernel)) (by decide +kernel)
theorem ml_X3_135 : Cond.methodLink RX3 135 yJ9_max_7cf53 ∈ lwg := lwg_of (List.mem_of_getElem? (i := 422) (by decide +kernel)) (by decide +kernel)
theorem ml_L_172 : Cond.methodLink RL 172 yX4_digest ∈ lwg := lwg_of (List.mem_of_getElem? (i := 423) (by decide +kernel)) (by decide +kernel)
theorem ml_X4_281 : Cond.methodLink RX4 281 yX4_count ∈ lwg := lwg_of (List.mem_of_getElem? (i := 428) (by decide +kernel)) (by decide +kernel)
theorem ml_X4_111 : Cond.methodLink RX4 111 yX3_fault ∈ lwg := lwg_of (List.mem_of_getElem? (i := 500) (by decide +kernel)) (by decide +kernel)
theorem ml_X3_96 : Cond.methodLink RX3 96 yX0_firstTurned ∈ lwg := lwg_of (List.mem_of_getElem? (i := 504) (by decide +kernel)) (by decide +kernel)
theorem ml_X3_100 : Cond.methodLink RX3 100 yX3_bookSheets ∈ lwg := lwg_of (List.mem_of_getElem? (i := 508) (by decide +kernel)) (by decide +kernel)
theorem ml_X3_103 : Cond.methodLink RX3 103 yX0_firstNotBelow ∈ lwg := lwg_of (List.mem_of_getElem? (i := 509) (by decide +kernel)) (by decide +kernel)
theorem ml_X3_106 : Cond.methodLink RX3 106 yX0_firstDouble ∈ lwg := lwg_of (List.mem_of_getElem? (i := 513) (by decide +kernel)) (by decide +kernel)
theorem ml_X3_109 : Cond.methodLink RX3 109 yX3_lowestMissing ∈ lwg := lwg_of (List.mem_of_getElem? (i := 517) (by decide +kernel)) (by decide +kernel)
theorem ml_X3_112 : Cond.methodLink RX3 112 yX0_firstFall ∈ lwg := lwg_of (List.mem_of_getElem? (i := 521) (by decide +kernel)) (by decide +kernel)
theorem ml_X4_219 : Cond.methodLink RX4 219 yX3_placeOfFault ∈ lwg := lwg_of (List.mem_of_getElem? (i := 525) (by decide +kernel)) (by decide +kernel)
theorem ml_X3_115 : Cond.methodLink RX3 115 yX3_fault ∈ lwg := lwg_of (List.mem_of_getElem? (i := 529) (by decide +kernel)) (by decide +kernel)
theorem ml_X4_222 : Cond.methodLink RX4 222 yX3_lowestMissing ∈ lwg := lwg_of (List.mem_of_getElem? (i := 530) (by decide +kernel)) (by decide +kernel)
theorem ml_X4_225 : Cond.methodLink RX4 225 yX0_fewestMovesBySheets ∈ lwg := lwg_of (List.mem_of_getElem? (i := 531) (by decide +kernel)) (by decide +kernel)
theorem ml_X0_59 : Cond.methodLink RX0 59 yX0_longestRowBySheets ∈ lwg := lwg_of (List.mem_of_getElem? (i := 535) (by decide +kernel)) (by decide +kernel)
theorem ml_X4_228 : Cond.methodLink RX4 228 yX0_fewestMovesByPiles ∈ lwg := lwg_of (List.mem_of_getElem? (i := 536) (by decide +kernel)) (by decide +kernel)
theorem ml_X0_63 : Cond.methodLink RX0 63 yX0_pilesOfSheets ∈ lwg := lwg_of (List.mem_of_getElem? (i := 540) (by decide +kernel)) (by decide +kernel)
theorem ml_X4_231 : Cond.methodLink RX4 231 yX0_fallingPairs ∈ lwg := lwg_of (List.mem_of_getElem? (i := 544) (by decide +kernel)) (by decide +kernel)
theorem ml_X0_55 : Cond.methodLink RX0 55 yX0_greaterAheadOf ∈ lwg := lwg_of (List.mem_of_getElem? (i := 548) (by decide +kernel)) (by decide +kernel)
theorem ml_X4_234 : Cond.methodLink RX4 234 yX3_stitches ∈ lwg := lwg_of (List.mem_of_getElem? (i := 552) (by decide +kernel)) (by decide +kernel)
theorem ml_X4_240 : Cond.methodLink RX4 240 yX3_loosePlaces ∈ lwg := lwg_of (List.mem_of_getElem? (i := 553) (by decide +kernel)) (by decide +kernel)
theorem ml_X4_243 : Cond.methodLink RX4 243 yX3_sheetsInBooks ∈ lwg := lwg_of (List.mem_of_getElem? (i := 557) (by decide +kernel)) (by decide +kernel)
theorem ml_X4_284 : Cond.methodLink RX4 284 yX4_hashWith ∈ lwg := lwg_of (List.mem_of_getElem? (i := 561) (by decide +kernel)) (by decide +kernel)
theorem ml_X4_288 : Cond.methodLink RX4 288 yX4_sheet ∈ lwg := lwg_of (List.mem_of_getElem? (i := 565) (by decide +kernel)) (by decide +kernel)
theorem ml_X4_86 : Cond.methodLink RX4 86 yX0_hasPlace ∈ lwg := lwg_of (List.mem_of_getElem? (i := 585) (by decide +kernel)) (by decide +kernel)
theorem ml_X4_99 : Cond.methodLink RX4 99 yX3_stepOfMark ∈ lwg := lwg_of (List.mem_of_getElem? (i := 586) (by decide +kernel)) (by decide +kernel)
theorem ml_X4_204 : Cond.methodLink RX4 204 yX3_breaksAheadOf ∈ lwg := lwg_of (List.mem_of_getElem? (i := 587) (by decide +kernel)) (by decide +kernel)
theorem ml_X3_93 : Cond.methodLink RX3 93 yX3_stepDueAt ∈ lwg := lwg_of (List.mem_of_getElem? (i := 591) (by decide +kernel)) (by decide +kernel)
theorem ml_X4_207 : Cond.methodLink RX4 207 yX3_stitchesAheadOf ∈ lwg := lwg_of (List.mem_of_getElem? (i := 592) (by decide +kernel)) (by decide +kernel)
theorem ml_X4_210 : Cond.methodLink RX4 210 yX0_greaterAheadOf ∈ lwg := lwg_of (List.mem_of_getElem? (i := 593) (by decide +kernel)) (by decide +kernel)
theorem ml_X4_291 : Cond.methodLink RX4 291 yX4_ifPulled ∈ lwg := lwg_of (List.mem_of_getElem? (i := 594) (by decide +kernel)) (by decide +kernel)
theorem ml_X4_294 : Cond.methodLink RX4 294 yX4_bin ∈ lwg := lwg_of (List.mem_of_getElem? (i := 599) (by decide +kernel)) (by decide +kernel)
theorem ml_X4_48 : Cond.methodLink RX4 48 yX4_isBin ∈ lwg := lwg_of (List.mem_of_getElem? (i := 603) (by decide +kernel)) (by decide +kernel)
theorem ml_X4_213 : Cond.methodLink RX4 213 yX0_copiesOf ∈ lwg := lwg_of (List.mem_of_getElem? (i := 607) (by decide +kernel)) (by decide +kernel)
theorem ml_X4_297 : Cond.methodLink RX4 297 yX4_nextMove ∈ lwg := lwg_of (List.mem_of_getElem? (i := 608) (by decide +kernel)) (by decide +kernel)
theorem ml_X4_300 : Cond.methodLink RX4 300 yX4_fits ∈ lwg := lwg_of (List.mem_of_getElem? (i := 609) (by decide +kernel)) (by decide +kernel)
theorem ml_X4_303 : Cond.methodLink RX4 303 yX4_books ∈ lwg := lwg_of (List.mem_of_getElem? (i := 610) (by decide +kernel)) (by decide +kernel)
theorem ml_X4_306 : Cond.methodLink RX4 306 yX4_stairShare ∈ lwg := lwg_of (List.mem_of_getElem? (i := 611) (by decide +kernel)) (by decide +kernel)
theorem ml_X4_310 : Cond.methodLink RX4 310 yX4_bitsOfDouble ∈ lwg := lwg_of (List.mem_of_getElem? (i := 612) (by decide +kernel)) (by decide +kernel)
theorem ml_X4_314 : Cond.methodLink RX4 314 yX4_meanThread ∈ lwg := lwg_of (List.mem_of_getElem? (i := 617) (by decide +kernel)) (by decide +kernel)
theorem ml_X4_318 : Cond.methodLink RX4 318 yX4_bitsOfFloat ∈ lwg := lwg_of (List.mem_of_getElem? (i := 618) (by decide +kernel)) (by decide +kernel)
theorem ml_X4_322 : Cond.methodLink RX4 322 yX4_hashWithBuffer ∈ lwg := lwg_of (List.mem_of_getElem? (i := 622) (by decide +kernel)) (by decide +kernel)
theorem ml_L_76 : Cond.methodLink RL 76 yL_gather ∈ lwg := lwg_of (List.mem_of_getElem? (i := 626) (by decide +kernel)) (by decide +kernel)
theorem ml_L_7 : Cond.methodLink RL 7 yX4_gather ∈ lwg := lwg_of (List.mem_of_getElem? (i := 631) (by decide +kernel)) (by decide +kernel)
theorem ml_X4_59 : Cond.methodLink RX4 59 yX3_hasCopyAndRoom ∈ lwg := lwg_of (List.mem_of_getElem? (i := 635) (by decide +kernel)) (by decide +kernel)
theorem ml_X4_67 : Cond.methodLink RX4 67 yX1_save ∈ lwg := lwg_of (List.mem_of_getElem? (i := 655) (by decide +kernel)) (by decide +kernel)
theorem ml_X1_22 : Cond.methodLink RX1 22 yX1_dropOldest ∈ lwg := lwg_of (List.mem_of_getElem? (i := 659) (by decide +kernel)) (by decide +kernel)
theorem ml_X1_25 : Cond.methodLink RX1 25 yX3_copyFrom ∈ lwg := lwg_of (List.mem_of_getElem? (i := 663) (by decide +kernel)) (by decide +kernel)
theorem ml_X4_80 : Cond.methodLink RX4 80 yX3_putFromBin ∈ lwg := lwg_of (List.mem_of_getElem? (i := 664) (by decide +kernel)) (by decide +kernel)
theorem mn_X3_65 : Cond.methodLinkNest RX3 65 yX4_addTo "SteppedSpines" ∈ lw_tbl := List.mem_of_getElem? (i := 668) (by decide +kernel)
theorem ml_X4_148 : Cond.methodLink RX4 148 yX4_put ∈ lwg := lwg_of (List.mem_of_getElem? (i := 671) (by decide +kernel)) (by decide +kernel)
theorem ml_X3_69 : Cond.methodLink RX3 69 yX0_putIn ∈ lwg := lwg_of (List.mem_of_getElem? (i := 672) (by decide +kernel)) (by decide +kernel)
theorem ml_L_85 : Cond.methodLink RL 85 yL_insert ∈ lwg := lwg_of (List.mem_of_getElem? (i := 676) (by decide +kernel)) (by decide +kernel)
theorem ml_L_17 : Cond.methodLink RL 17 yX4_insert ∈ lwg := lwg_of (List.mem_of_getElem? (i := 679) (by decide +kernel)) (by decide +kernel)
theorem ml_L_89 : Cond.methodLink RL 89 yL_pull ∈ lwg := lwg_of (List.mem_of_getElem? (i := 684) (by decide +kernel)) (by decide +kernel)
theorem ml_L_21 : Cond.methodLink RL 21 yX4_pull ∈ lwg := lwg_of (List.mem_of_getElem? (i := 687) (by decide +kernel)) (by decide +kernel)
theorem ml_X4_91 : Cond.methodLink RX4 91 yX3_putBack ∈ lwg := lwg_of (List.mem_of_getElem? (i := 691) (by decide +kernel)) (by decide +kernel)
theorem ml_X3_76 : Cond.methodLink RX3 76 yX0_takeOut ∈ lwg := lwg_of (List.mem_of_getElem? (i := 695) (by decide +kernel)) (by decide +kernel)
theorem ml_L_92 : Cond.methodLink RL 92 yL_flip ∈ lwg := lwg_of (List.mem_of_getElem? (i := 696) (by decide +kernel)) (by decide +kernel)
theorem ml_L_24 : Cond.methodLink RL 24 yX4_flip ∈ lwg := lwg_of (List.mem_of_getElem? (i := 699) (by decide +kernel)) (by decide +kernel)
theorem ml_X4_95 : Cond.methodLink RX4 95 yX0_turnOver ∈ lwg := lwg_of (List.mem_of_getElem? (i := 703) (by decide +kernel)) (by decide +kernel)
theorem ml_L_95 : Cond.methodLink RL 95 yL_move ∈ lwg := lwg_of (List.mem_of_getElem? (i := 707) (by decide +kernel)) (by decide +kernel)
theorem ml_L_27 : Cond.methodLink RL 27 yX4_move ∈ lwg := lwg_of (List.mem_of_getElem? (i := 710) (by decide +kernel)) (by decide +kernel)
theorem ml_X4_104 : Cond.methodLink RX4 104 yX0_shift ∈ lwg := lwg_of (List.mem_of_getElem? (i := 715) (by decide +kernel)) (by decide +kernel)
theorem ml_X0_47 : Cond.methodLink RX0 47 yX0_takeOut ∈ lwg := lwg_of (List.mem_of_getElem? (i := 719) (by decide +kernel)) (by decide +kernel)
theorem ml_X0_51 : Cond.methodLink RX0 51 yX0_putIn ∈ lwg := lwg_of (List.mem_of_getElem? (i := 720) (by decide +kernel)) (by decide +kernel)
theorem ml_L_98 : Cond.methodLink RL 98 yL_bind ∈ lwg := lwg_of (List.mem_of_getElem? (i := 721) (by decide +kernel)) (by decide +kernel)
theorem ml_L_30 : Cond.methodLink RL 30 yX4_bind ∈ lwg := lwg_of (List.mem_of_getElem? (i := 724) (by decide +kernel)) (by decide +kernel)
theorem ml_X4_116 : Cond.methodLink RX4 116 yX3_bindBlock ∈ lwg := lwg_of (List.mem_of_getElem? (i := 729) (by decide +kernel)) (by decide +kernel)
theorem ml_L_102 : Cond.methodLink RL 102 yL_print ∈ lwg := lwg_of (List.mem_of_getElem? (i := 733) (by decide +kernel)) (by decide +kernel)
theorem ml_L_34 : Cond.methodLink RL 34 yX4_print ∈ lwg := lwg_of (List.mem_of_getElem? (i := 737) (by decide +kernel)) (by decide +kernel)
theorem ml_X4_136 : Cond.methodLink RX4 136 yX4_addTo ∈ lwg := lwg_of (List.mem_of_getElem? (i := 743) (by decide +kernel)) (by decide +kernel)
theorem ml_L_105 : Cond.methodLink RL 105 yL_punch ∈ lwg := lwg_of (List.mem_of_getElem? (i := 744) (by decide +kernel)) (by decide +kernel)
theorem ml_L_39 : Cond.methodLink RL 39 yX4_punch ∈ lwg := lwg_of (List.mem_of_getElem? (i := 747) (by decide +kernel)) (by decide +kernel)
theorem ml_L_108 : Cond.methodLink RL 108 yL_set ∈ lwg := lwg_of (List.mem_of_getElem? (i := 752) (by decide +kernel)) (by decide +kernel)
theorem ml_L_42 : Cond.methodLink RL 42 yX4_set ∈ lwg := lwg_of (List.mem_of_getElem? (i := 755) (by decide +kernel)) (by decide +kernel)
theorem ml_X4_151 : Cond.methodLink RX4 151 yX4_isSetting ∈ lwg := lwg_of (List.mem_of_getElem? (i := 759) (by decide +kernel)) (by decide +kernel)
theorem fl_X4_156 : Cond.fieldLink RX4 156 "SteppedSpines" "LEAST_VALUES" "[I" ∈ lwg := lwg_of (List.mem_of_getElem? (i := 763) (by decide +kernel)) (by decide +kernel)
theorem fl_X4_159 : Cond.fieldLink RX4 159 "SteppedSpines" "MOST_VALUES" "[I" ∈ lwg := lwg_of (List.mem_of_getElem? (i := 765) (by decide +kernel)) (by decide +kernel)
theorem ml_L_111 : Cond.methodLink RL 111 yL_append ∈ lwg := lwg_of (List.mem_of_getElem? (i := 768) (by decide +kernel)) (by decide +kernel)
theorem ml_L_45 : Cond.methodLink RL 45 yX4_append ∈ lwg := lwg_of (List.mem_of_getElem? (i := 771) (by decide +kernel)) (by decide +kernel)
theorem ml_L_122 : Cond.methodLink RL 122 yL_work ∈ lwg := lwg_of (List.mem_of_getElem? (i := 777) (by decide +kernel)) (by decide +kernel)
theorem ml_L_48 : Cond.methodLink RL 48 yX4_work ∈ lwg := lwg_of (List.mem_of_getElem? (i := 780) (by decide +kernel)) (by decide +kernel)
theorem ml_X4_174 : Cond.methodLink RX4 174 yX2_isComplete ∈ lwg := lwg_of (List.mem_of_getElem? (i := 784) (by decide +kernel)) (by decide +kernel)
theorem ml_X4_180 : Cond.methodLink RX4 180 yX4_doParts ∈ lwg := lwg_of (List.mem_of_getElem? (i := 786) (by decide +kernel)) (by decide +kernel)
theorem ml_X4_332 : Cond.methodLink RX4 332 yX4_partCanBeDone ∈ lwg := lwg_of (List.mem_of_getElem? (i := 790) (by decide +kernel)) (by decide +kernel)
theorem ml_X4_335 : Cond.methodLink RX4 335 yX4_doPart ∈ lwg := lwg_of (List.mem_of_getElem? (i := 794) (by decide +kernel)) (by decide +kernel)
theorem ml_L_129 : Cond.methodLink RL 129 yL_goBack ∈ lwg := lwg_of (List.mem_of_getElem? (i := 798) (by decide +kernel)) (by decide +kernel)
theorem ml_L_51 : Cond.methodLink RL 51 yX4_goBack ∈ lwg := lwg_of (List.mem_of_getElem? (i := 801) (by decide +kernel)) (by decide +kernel)
theorem ml_L_132 : Cond.methodLink RL 132 yL_undo ∈ lwg := lwg_of (List.mem_of_getElem? (i := 806) (by decide +kernel)) (by decide +kernel)
theorem ml_L_54 : Cond.methodLink RL 54 yX4_undo ∈ lwg := lwg_of (List.mem_of_getElem? (i := 809) (by decide +kernel)) (by decide +kernel)
theorem ml_X4_191 : Cond.methodLink RX4 191 yX1_restore ∈ lwg := lwg_of (List.mem_of_getElem? (i := 814) (by decide +kernel)) (by decide +kernel)
theorem ml_L_135 : Cond.methodLink RL 135 yL_sheet ∈ lwg := lwg_of (List.mem_of_getElem? (i := 818) (by decide +kernel)) (by decide +kernel)
theorem ml_L_57 : Cond.methodLink RL 57 yX4_sheet ∈ lwg := lwg_of (List.mem_of_getElem? (i := 821) (by decide +kernel)) (by decide +kernel)
theorem ml_L_138 : Cond.methodLink RL 138 yL_bin ∈ lwg := lwg_of (List.mem_of_getElem? (i := 822) (by decide +kernel)) (by decide +kernel)
theorem ml_L_60 : Cond.methodLink RL 60 yX4_bin ∈ lwg := lwg_of (List.mem_of_getElem? (i := 825) (by decide +kernel)) (by decide +kernel)
theorem ml_L_141 : Cond.methodLink RL 141 yL_count ∈ lwg := lwg_of (List.mem_of_getElem? (i := 826) (by decide +kernel)) (by decide +kernel)
theorem ml_L_63 : Cond.methodLink RL 63 yX4_count ∈ lwg := lwg_of (List.mem_of_getElem? (i := 829) (by decide +kernel)) (by decide +kernel)
theorem ml_L_144 : Cond.methodLink RL 144 yL_setting ∈ lwg := lwg_of (List.mem_of_getElem? (i := 830) (by decide +kernel)) (by decide +kernel)
theorem ml_L_66 : Cond.methodLink RL 66 yX4_setting ∈ lwg := lwg_of (List.mem_of_getElem? (i := 833) (by decide +kernel)) (by decide +kernel)
theorem ml_L_151 : Cond.methodLink RL 151 yL_ifPulled ∈ lwg := lwg_of (List.mem_of_getElem? (i := 837) (by decide +kernel)) (by decide +kernel)
theorem ml_L_69 : Cond.methodLink RL 69 yX4_ifPulled ∈ lwg := lwg_of (List.mem_of_getElem? (i := 840) (by decide +kernel)) (by decide +kernel)
theorem ml_L_75 : Cond.methodLink RL 75 yX5_init ∈ lwg := lwg_of (List.mem_of_getElem? (i := 843) (by decide +kernel)) (by decide +kernel)
theorem fl_X5_25 : Cond.fieldLink RX5 25 "SteppedSpinesModel" "thrown" "I" ∈ lwg := lwg_of (List.mem_of_getElem? (i := 847) (by decide +kernel)) (by decide +kernel)
theorem fl_X5_7 : Cond.fieldLink RX5 7 "SteppedSpinesModel" "s" "[I" ∈ lwg := lwg_of (List.mem_of_getElem? (i := 848) (by decide +kernel)) (by decide +kernel)
theorem fl_X5_81 : Cond.fieldLink RX5 81 "SteppedSpinesModel" "saved" "I" ∈ lwg := lwg_of (List.mem_of_getElem? (i := 849) (by decide +kernel)) (by decide +kernel)
theorem fl_X5_158 : Cond.fieldLink RX5 158 "SteppedSpinesModel" "isKept" "Z" ∈ lwg := lwg_of (List.mem_of_getElem? (i := 850) (by decide +kernel)) (by decide +kernel)
theorem fl_X5_13 : Cond.fieldLink RX5 13 "SteppedSpinesModel" "text" "[I" ∈ lwg := lwg_of (List.mem_of_getElem? (i := 851) (by decide +kernel)) (by decide +kernel)
theorem fl_X5_125 : Cond.fieldLink RX5 125 "SteppedSpinesModel" "length" "I" ∈ lwg := lwg_of (List.mem_of_getElem? (i := 852) (by decide +kernel)) (by decide +kernel)
theorem fl_X5_128 : Cond.fieldLink RX5 128 "SteppedSpinesModel" "at" "I" ∈ lwg := lwg_of (List.mem_of_getElem? (i := 853) (by decide +kernel)) (by decide +kernel)
theorem fl_X5_134 : Cond.fieldLink RX5 134 "SteppedSpinesModel" "letter" "I" ∈ lwg := lwg_of (List.mem_of_getElem? (i := 854) (by decide +kernel)) (by decide +kernel)
theorem fl_X5_143 : Cond.fieldLink RX5 143 "SteppedSpinesModel" "first" "I" ∈ lwg := lwg_of (List.mem_of_getElem? (i := 855) (by decide +kernel)) (by decide +kernel)
theorem fl_X5_146 : Cond.fieldLink RX5 146 "SteppedSpinesModel" "second" "I" ∈ lwg := lwg_of (List.mem_of_getElem? (i := 856) (by decide +kernel)) (by decide +kernel)
theorem fl_X5_16 : Cond.fieldLink RX5 16 "SteppedSpinesModel" "row" "[I" ∈ lwg := lwg_of (List.mem_of_getElem? (i := 857) (by decide +kernel)) (by decide +kernel)
theorem fl_X5_19 : Cond.fieldLink RX5 19 "SteppedSpinesModel" "down" "[I" ∈ lwg := lwg_of (List.mem_of_getElem? (i := 858) (by decide +kernel)) (by decide +kernel)
theorem fl_X5_33 : Cond.fieldLink RX5 33 "SteppedSpinesModel" "many" "I" ∈ lwg := lwg_of (List.mem_of_getElem? (i := 859) (by decide +kernel)) (by decide +kernel)
theorem fl_X5_22 : Cond.fieldLink RX5 22 "SteppedSpinesModel" "longest" "[I" ∈ lwg := lwg_of (List.mem_of_getElem? (i := 860) (by decide +kernel)) (by decide +kernel)
theorem fl_X5_217 : Cond.fieldLink RX5 217 "SteppedSpinesModel" "hash" "J" ∈ lwg := lwg_of (List.mem_of_getElem? (i := 861) (by decide +kernel)) (by decide +kernel)
theorem ml_L_82 : Cond.methodLink RL 82 yX5_thrown ∈ lwg := lwg_of (List.mem_of_getElem? (i := 893) (by decide +kernel)) (by decide +kernel)
theorem ml_L_81 : Cond.methodLink RL 81 yX5_gather ∈ lwg := lwg_of (List.mem_of_getElem? (i := 897) (by decide +kernel)) (by decide +kernel)
theorem ml_X5_88 : Cond.methodLink RX5 88 yX5_isBin ∈ lwg := lwg_of (List.mem_of_getElem? (i := 901) (by decide +kernel)) (by decide +kernel)
theorem ml_X5_29 : Cond.methodLink RX5 29 yX5_in ∈ lwg := lwg_of (List.mem_of_getElem? (i := 904) (by decide +kernel)) (by decide +kernel)
theorem ml_X5_91 : Cond.methodLink RX5 91 yX5_canGather ∈ lwg := lwg_of (List.mem_of_getElem? (i := 907) (by decide +kernel)) (by decide +kernel)
theorem ml_X5_94 : Cond.methodLink RX5 94 yX5_holds ∈ lwg := lwg_of (List.mem_of_getElem? (i := 911) (by decide +kernel)) (by decide +kernel)
theorem ml_X5_97 : Cond.methodLink RX5 97 yX5_save ∈ lwg := lwg_of (List.mem_of_getElem? (i := 915) (by decide +kernel)) (by decide +kernel)
theorem ml_X5_84 : Cond.methodLink RX5 84 yX5_copies ∈ lwg := lwg_of (List.mem_of_getElem? (i := 919) (by decide +kernel)) (by decide +kernel)
theorem ml_X5_100 : Cond.methodLink RX5 100 yX5_inserts ∈ lwg := lwg_of (List.mem_of_getElem? (i := 923) (by decide +kernel)) (by decide +kernel)
theorem ml_L_88 : Cond.methodLink RL 88 yX5_insert ∈ lwg := lwg_of (List.mem_of_getElem? (i := 927) (by decide +kernel)) (by decide +kernel)
theorem ml_L_91 : Cond.methodLink RL 91 yX5_pull ∈ lwg := lwg_of (List.mem_of_getElem? (i := 931) (by decide +kernel)) (by decide +kernel)
theorem ml_X5_103 : Cond.methodLink RX5 103 yX5_isPlace ∈ lwg := lwg_of (List.mem_of_getElem? (i := 935) (by decide +kernel)) (by decide +kernel)
theorem ml_X5_106 : Cond.methodLink RX5 106 yX5_pulls ∈ lwg := lwg_of (List.mem_of_getElem? (i := 939) (by decide +kernel)) (by decide +kernel)
theorem ml_L_94 : Cond.methodLink RL 94 yX5_flip ∈ lwg := lwg_of (List.mem_of_getElem? (i := 943) (by decide +kernel)) (by decide +kernel)
theorem ml_X5_109 : Cond.methodLink RX5 109 yX5_flips ∈ lwg := lwg_of (List.mem_of_getElem? (i := 947) (by decide +kernel)) (by decide +kernel)
theorem ml_X5_36 : Cond.methodLink RX5 36 yX5_mark ∈ lwg := lwg_of (List.mem_of_getElem? (i := 951) (by decide +kernel)) (by decide +kernel)
theorem ml_L_97 : Cond.methodLink RL 97 yX5_move ∈ lwg := lwg_of (List.mem_of_getElem? (i := 955) (by decide +kernel)) (by decide +kernel)
theorem ml_X5_112 : Cond.methodLink RX5 112 yX5_moves ∈ lwg := lwg_of (List.mem_of_getElem? (i := 959) (by decide +kernel)) (by decide +kernel)
theorem ml_X5_71 : Cond.methodLink RX5 71 yX5_laysOut ∈ lwg := lwg_of (List.mem_of_getElem? (i := 963) (by decide +kernel)) (by decide +kernel)
theorem ml_X5_75 : Cond.methodLink RX5 75 yX5_breaks ∈ lwg := lwg_of (List.mem_of_getElem? (i := 967) (by decide +kernel)) (by decide +kernel)
theorem ml_X5_40 : Cond.methodLink RX5 40 yX5_breaksAt ∈ lwg := lwg_of (List.mem_of_getElem? (i := 971) (by decide +kernel)) (by decide +kernel)
theorem ml_L_101 : Cond.methodLink RL 101 yX5_bind ∈ lwg := lwg_of (List.mem_of_getElem? (i := 975) (by decide +kernel)) (by decide +kernel)
theorem ml_X5_115 : Cond.methodLink RX5 115 yX5_canBind ∈ lwg := lwg_of (List.mem_of_getElem? (i := 979) (by decide +kernel)) (by decide +kernel)
theorem ml_X5_78 : Cond.methodLink RX5 78 yX5_fault ∈ lwg := lwg_of (List.mem_of_getElem? (i := 983) (by decide +kernel)) (by decide +kernel)
theorem ml_X5_51 : Cond.methodLink RX5 51 yX5_missing ∈ lwg := lwg_of (List.mem_of_getElem? (i := 987) (by decide +kernel)) (by decide +kernel)
theorem ml_X5_55 : Cond.methodLink RX5 55 yX5_placeOf ∈ lwg := lwg_of (List.mem_of_getElem? (i := 991) (by decide +kernel)) (by decide +kernel)
theorem ml_X5_47 : Cond.methodLink RX5 47 yX5_isFault ∈ lwg := lwg_of (List.mem_of_getElem? (i := 995) (by decide +kernel)) (by decide +kernel)
theorem ml_X5_44 : Cond.methodLink RX5 44 yX5_isAhead ∈ lwg := lwg_of (List.mem_of_getElem? (i := 999) (by decide +kernel)) (by decide +kernel)
theorem ml_X5_119 : Cond.methodLink RX5 119 yX5_binds ∈ lwg := lwg_of (List.mem_of_getElem? (i := 1003) (by decide +kernel)) (by decide +kernel)
theorem ml_L_104 : Cond.methodLink RL 104 yX5_print ∈ lwg := lwg_of (List.mem_of_getElem? (i := 1007) (by decide +kernel)) (by decide +kernel)
theorem ml_L_107 : Cond.methodLink RL 107 yX5_punch ∈ lwg := lwg_of (List.mem_of_getElem? (i := 1011) (by decide +kernel)) (by decide +kernel)
theorem ml_X5_122 : Cond.methodLink RX5 122 yX5_changed ∈ lwg := lwg_of (List.mem_of_getElem? (i := 1015) (by decide +kernel)) (by decide +kernel)
theorem ml_L_110 : Cond.methodLink RL 110 yX5_set ∈ lwg := lwg_of (List.mem_of_getElem? (i := 1019) (by decide +kernel)) (by decide +kernel)
theorem ml_L_113 : Cond.methodLink RL 113 yX5_append ∈ lwg := lwg_of (List.mem_of_getElem? (i := 1023) (by decide +kernel)) (by decide +kernel)
theorem ml_L_117 : Cond.methodLink RL 117 yX5_clearBuffer ∈ lwg := lwg_of (List.mem_of_getElem? (i := 1027) (by decide +kernel)) (by decide +kernel)
theorem ml_L_121 : Cond.methodLink RL 121 yX5_firstError ∈ lwg := lwg_of (List.mem_of_getElem? (i := 1031) (by decide +kernel)) (by decide +kernel)
theorem ml_X5_152 : Cond.methodLink RX5 152 yX5_isWork ∈ lwg := lwg_of (List.mem_of_getElem? (i := 1035) (by decide +kernel)) (by decide +kernel)
theorem ml_X5_149 : Cond.methodLink RX5 149 yX5_readsPart ∈ lwg := lwg_of (List.mem_of_getElem? (i := 1039) (by decide +kernel)) (by decide +kernel)
theorem ml_X5_131 : Cond.methodLink RX5 131 yX5_sign ∈ lwg := lwg_of (List.mem_of_getElem? (i := 1043) (by decide +kernel)) (by decide +kernel)
theorem ml_X5_137 : Cond.methodLink RX5 137 yX5_takes ∈ lwg := lwg_of (List.mem_of_getElem? (i := 1047) (by decide +kernel)) (by decide +kernel)
theorem ml_X5_140 : Cond.methodLink RX5 140 yX5_number ∈ lwg := lwg_of (List.mem_of_getElem? (i := 1051) (by decide +kernel)) (by decide +kernel)
theorem ml_L_124 : Cond.methodLink RL 124 yX5_work ∈ lwg := lwg_of (List.mem_of_getElem? (i := 1055) (by decide +kernel)) (by decide +kernel)
theorem ml_X5_155 : Cond.methodLink RX5 155 yX5_isDone ∈ lwg := lwg_of (List.mem_of_getElem? (i := 1059) (by decide +kernel)) (by decide +kernel)
theorem ml_L_128 : Cond.methodLink RL 128 yX5_keep ∈ lwg := lwg_of (List.mem_of_getElem? (i := 1063) (by decide +kernel)) (by decide +kernel)
theorem ml_L_131 : Cond.methodLink RL 131 yX5_goBack ∈ lwg := lwg_of (List.mem_of_getElem? (i := 1067) (by decide +kernel)) (by decide +kernel)
theorem ml_L_134 : Cond.methodLink RL 134 yX5_undo ∈ lwg := lwg_of (List.mem_of_getElem? (i := 1071) (by decide +kernel)) (by decide +kernel)
theorem ml_L_137 : Cond.methodLink RL 137 yX5_sheet ∈ lwg := lwg_of (List.mem_of_getElem? (i := 1075) (by decide +kernel)) (by decide +kernel)
theorem ml_X5_162 : Cond.methodLink RX5 162 yX5_ofSheet ∈ lwg := lwg_of (List.mem_of_getElem? (i := 1079) (by decide +kernel)) (by decide +kernel)
theorem ml_X5_62 : Cond.methodLink RX5 62 yX5_stitchesAt ∈ lwg := lwg_of (List.mem_of_getElem? (i := 1083) (by decide +kernel)) (by decide +kernel)
theorem ml_X5_59 : Cond.methodLink RX5 59 yX5_greaterAhead ∈ lwg := lwg_of (List.mem_of_getElem? (i := 1087) (by decide +kernel)) (by decide +kernel)
theorem ml_L_140 : Cond.methodLink RL 140 yX5_bin ∈ lwg := lwg_of (List.mem_of_getElem? (i := 1091) (by decide +kernel)) (by decide +kernel)
theorem ml_X5_168 : Cond.methodLink RX5 168 yX5_ofBin ∈ lwg := lwg_of (List.mem_of_getElem? (i := 1095) (by decide +kernel)) (by decide +kernel)
theorem ml_X5_165 : Cond.methodLink RX5 165 yX5_inBlock ∈ lwg := lwg_of (List.mem_of_getElem? (i := 1099) (by decide +kernel)) (by decide +kernel)
theorem ml_L_143 : Cond.methodLink RL 143 yX5_count ∈ lwg := lwg_of (List.mem_of_getElem? (i := 1103) (by decide +kernel)) (by decide +kernel)
theorem ml_X5_189 : Cond.methodLink RX5 189 yX5_counted ∈ lwg := lwg_of (List.mem_of_getElem? (i := 1107) (by decide +kernel)) (by decide +kernel)
theorem ml_X5_171 : Cond.methodLink RX5 171 yX5_faultPlace ∈ lwg := lwg_of (List.mem_of_getElem? (i := 1111) (by decide +kernel)) (by decide +kernel)
theorem ml_X5_174 : Cond.methodLink RX5 174 yX5_fewest ∈ lwg := lwg_of (List.mem_of_getElem? (i := 1115) (by decide +kernel)) (by decide +kernel)
theorem ml_X5_177 : Cond.methodLink RX5 177 yX5_pairs ∈ lwg := lwg_of (List.mem_of_getElem? (i := 1119) (by decide +kernel)) (by decide +kernel)
theorem ml_X5_65 : Cond.methodLink RX5 65 yX5_stitches ∈ lwg := lwg_of (List.mem_of_getElem? (i := 1123) (by decide +kernel)) (by decide +kernel)
theorem ml_X5_180 : Cond.methodLink RX5 180 yX5_thread ∈ lwg := lwg_of (List.mem_of_getElem? (i := 1127) (by decide +kernel)) (by decide +kernel)
theorem ml_X5_68 : Cond.methodLink RX5 68 yX5_span ∈ lwg := lwg_of (List.mem_of_getElem? (i := 1131) (by decide +kernel)) (by decide +kernel)
theorem ml_X5_183 : Cond.methodLink RX5 183 yX5_loose ∈ lwg := lwg_of (List.mem_of_getElem? (i := 1134) (by decide +kernel)) (by decide +kernel)
theorem ml_X5_186 : Cond.methodLink RX5 186 yX5_boundSheets ∈ lwg := lwg_of (List.mem_of_getElem? (i := 1138) (by decide +kernel)) (by decide +kernel)
theorem ml_L_146 : Cond.methodLink RL 146 yX5_setting ∈ lwg := lwg_of (List.mem_of_getElem? (i := 1142) (by decide +kernel)) (by decide +kernel)
theorem ml_L_150 : Cond.methodLink RL 150 yX5_nextMove ∈ lwg := lwg_of (List.mem_of_getElem? (i := 1146) (by decide +kernel)) (by decide +kernel)
theorem ml_X5_195 : Cond.methodLink RX5 195 yX5_moveNext ∈ lwg := lwg_of (List.mem_of_getElem? (i := 1150) (by decide +kernel)) (by decide +kernel)
theorem ml_X5_192 : Cond.methodLink RX5 192 yX5_fewestBehind ∈ lwg := lwg_of (List.mem_of_getElem? (i := 1154) (by decide +kernel)) (by decide +kernel)
theorem ml_L_153 : Cond.methodLink RL 153 yX5_ifPulled ∈ lwg := lwg_of (List.mem_of_getElem? (i := 1158) (by decide +kernel)) (by decide +kernel)
theorem ml_X5_198 : Cond.methodLink RX5 198 yX5_without ∈ lwg := lwg_of (List.mem_of_getElem? (i := 1162) (by decide +kernel)) (by decide +kernel)
theorem ml_L_157 : Cond.methodLink RL 157 yX5_fits ∈ lwg := lwg_of (List.mem_of_getElem? (i := 1166) (by decide +kernel)) (by decide +kernel)
theorem ml_X5_201 : Cond.methodLink RX5 201 yX5_fitting ∈ lwg := lwg_of (List.mem_of_getElem? (i := 1170) (by decide +kernel)) (by decide +kernel)
theorem ml_L_161 : Cond.methodLink RL 161 yX5_books ∈ lwg := lwg_of (List.mem_of_getElem? (i := 1174) (by decide +kernel)) (by decide +kernel)
theorem ml_X5_204 : Cond.methodLink RX5 204 yX5_possible ∈ lwg := lwg_of (List.mem_of_getElem? (i := 1178) (by decide +kernel)) (by decide +kernel)
theorem ml_L_166 : Cond.methodLink RL 166 yX5_stairShare ∈ lwg := lwg_of (List.mem_of_getElem? (i := 1182) (by decide +kernel)) (by decide +kernel)
theorem ml_X5_207 : Cond.methodLink RX5 207 yX5_share ∈ lwg := lwg_of (List.mem_of_getElem? (i := 1186) (by decide +kernel)) (by decide +kernel)
theorem ml_L_171 : Cond.methodLink RL 171 yX5_meanThread ∈ lwg := lwg_of (List.mem_of_getElem? (i := 1190) (by decide +kernel)) (by decide +kernel)
theorem ml_X5_211 : Cond.methodLink RX5 211 yX5_mean ∈ lwg := lwg_of (List.mem_of_getElem? (i := 1194) (by decide +kernel)) (by decide +kernel)
theorem ml_L_176 : Cond.methodLink RL 176 yX5_digest ∈ lwg := lwg_of (List.mem_of_getElem? (i := 1198) (by decide +kernel)) (by decide +kernel)
theorem ml_X5_233 : Cond.methodLink RX5 233 yX5_mix ∈ lwg := lwg_of (List.mem_of_getElem? (i := 1203) (by decide +kernel)) (by decide +kernel)
theorem ml_X5_237 : Cond.methodLink RX5 237 yX5_bits ∈ lwg := lwg_of (List.mem_of_getElem? (i := 1208) (by decide +kernel)) (by decide +kernel)
theorem ml_X5_241 : Cond.methodLink RX5 241 yX5_floatBits ∈ lwg := lwg_of (List.mem_of_getElem? (i := 1215) (by decide +kernel)) (by decide +kernel)
theorem kc_X5_229 : Cond.constant RX5 229 (8388608) ∈ lwg := lwg_of (List.mem_of_getElem? (i := 1218) (by decide +kernel)) (by decide +kernel)
