theorem mw_tab {w : Cond} (i : Nat) (h : tables_1[i]? = some w) (g : goodWord w = true) : w ∈ mw := List.mem_filter.mpr ⟨List.mem_append_right _ (List.mem_of_getElem? h), g⟩
theorem mw_sel {w : Cond} (i : Nat) (h : (k2_sels lw_privs)[i]? = some w) (g : goodWord w = true) : w ∈ mw := List.mem_filter.mpr ⟨List.mem_append_left _ (List.mem_of_getElem? h), g⟩
theorem w_init_L : Cond.initialized RL ∈ mw := mw_tab 0 (by decide +kernel) rfl
theorem w_init_X7 : Cond.initialized RX7 ∈ mw := mw_tab 1 (by decide +kernel) rfl
theorem w_init_X1 : Cond.initialized RX1 ∈ mw := mw_tab 2 (by decide +kernel) rfl
theorem w_init_X5 : Cond.initialized RX5 ∈ mw := mw_tab 3 (by decide +kernel) rfl
theorem w_init_X3 : Cond.initialized RX3 ∈ mw := mw_tab 4 (by decide +kernel) rfl
theorem w_init_X2 : Cond.initialized RX2 ∈ mw := mw_tab 5 (by decide +kernel) rfl
theorem w_init_X4 : Cond.initialized RX4 ∈ mw := mw_tab 6 (by decide +kernel) rfl
theorem w_init_X6 : Cond.initialized RX6 ∈ mw := mw_tab 7 (by decide +kernel) rfl
theorem w_init_X0 : Cond.initialized RX0 ∈ mw := mw_tab 8 (by decide +kernel) rfl
theorem w_init_X8 : Cond.initialized RX8 ∈ mw := mw_tab 9 (by decide +kernel) rfl
theorem w_init_J9 : Cond.initialized RJ9 ∈ mw := mw_tab 10 (by decide +kernel) rfl
theorem w_init_J10 : Cond.initialized RJ10 ∈ mw := mw_tab 11 (by decide +kernel) rfl
theorem w_init_J7 : Cond.initialized RJ7 ∈ mw := mw_tab 12 (by decide +kernel) rfl
theorem w_init_J6 : Cond.initialized RJ6 ∈ mw := mw_tab 13 (by decide +kernel) rfl
abbrev zX7_init : mY := (yX7_init, cX7_init, 2, none)
set_option maxRecDepth 100000 in
theorem wc_X7_init : Cond.code yX7_init cX7_init 2 none ∈ mw := mw_tab 18 rfl rfl
theorem wy_X7_init : mCy zX7_init 0 := ⟨wc_X7_init, w_init_X7, by decide +kernel, by decide +kernel, by decide +kernel⟩
abbrev zX1_init : mY := (yX1_init, cX1_init, 1, none)
set_option maxRecDepth 100000 in
theorem wc_X1_init : Cond.code yX1_init cX1_init 1 none ∈ mw := mw_tab 26 rfl rfl
theorem wy_X1_init : mCy zX1_init 0 := ⟨wc_X1_init, w_init_X1, by decide +kernel, by decide +kernel, by decide +kernel⟩
abbrev zX5_init : mY := (yX5_init, cX5_init, 1, none)
set_option maxRecDepth 100000 in
theorem wc_X5_init : Cond.code yX5_init cX5_init 1 none ∈ mw := mw_tab 53 rfl rfl
theorem wy_X5_init : mCy zX5_init 0 := ⟨wc_X5_init, w_init_X5, by decide +kernel, by decide +kernel, by decide +kernel⟩
abbrev zX3_init : mY := (yX3_init, cX3_init, 1, none)
set_option maxRecDepth 100000 in
theorem wc_X3_init : Cond.code yX3_init cX3_init 1 none ∈ mw := mw_tab 96 rfl rfl
theorem wy_X3_init : mCy zX3_init 0 := ⟨wc_X3_init, w_init_X3, by decide +kernel, by decide +kernel, by decide +kernel⟩
abbrev zX2_init : mY := (yX2_init, cX2_init, 1, none)
set_option maxRecDepth 100000 in
theorem wc_X2_init : Cond.code yX2_init cX2_init 1 none ∈ mw := mw_tab 132 rfl rfl
theorem wy_X2_init : mCy zX2_init 0 := ⟨wc_X2_init, w_init_X2, by decide +kernel, by decide +kernel, by decide +kernel⟩
abbrev zX4_init : mY := (yX4_init, cX4_init, 1, none)
set_option maxRecDepth 100000 in
theorem wc_X4_init : Cond.code yX4_init cX4_init 1 none ∈ mw := mw_tab 150 rfl rfl
theorem wy_X4_init : mCy zX4_init 0 := ⟨wc_X4_init, w_init_X4, by decide +kernel, by decide +kernel, by decide +kernel⟩
abbrev zX6_init : mY := (yX6_init, cX6_init, 1, none)
set_option maxRecDepth 100000 in
theorem wc_X6_init : Cond.code yX6_init cX6_init 1 none ∈ mw := mw_tab 163 rfl rfl
theorem wy_X6_init : mCy zX6_init 0 := ⟨wc_X6_init, w_init_X6, by decide +kernel, by decide +kernel, by decide +kernel⟩
abbrev zX0_init : mY := (yX0_init, cX0_init, 1, none)
set_option maxRecDepth 100000 in
theorem wc_X0_init : Cond.code yX0_init cX0_init 1 none ∈ mw := mw_tab 203 rfl rfl
theorem wy_X0_init : mCy zX0_init 0 := ⟨wc_X0_init, w_init_X0, by decide +kernel, by decide +kernel, by decide +kernel⟩
abbrev zX7_type : mY := (yX7_type, cX7_type, 2, (some .int))
set_option maxRecDepth 100000 in
theorem wc_X7_type : Cond.code yX7_type cX7_type 2 (some .int) ∈ mw := mw_tab 260 rfl rfl
theorem wy_X7_type : mCy zX7_type 1 := ⟨wc_X7_type, w_init_X7, by decide +kernel, by decide +kernel, by decide +kernel⟩
abbrev zX1_append : mY := (yX1_append, cX1_append, 2, none)
set_option maxRecDepth 100000 in
theorem wc_X1_append : Cond.code yX1_append cX1_append 2 none ∈ mw := mw_tab 264 rfl rfl
theorem wy_X1_append : mCy zX1_append 1 := ⟨wc_X1_append, w_init_X1, by decide +kernel, by decide +kernel, by decide +kernel⟩
abbrev zX7_clear : mY := (yX7_clear, cX7_clear, 2, (some .int))
set_option maxRecDepth 100000 in
theorem wc_X7_clear : Cond.code yX7_clear cX7_clear 2 (some .int) ∈ mw := mw_tab 268 rfl rfl
theorem wy_X7_clear : mCy zX7_clear 0 := ⟨wc_X7_clear, w_init_X7, by decide +kernel, by decide +kernel, by decide +kernel⟩
abbrev zX7_desk : mY := (yX7_desk, cX7_desk, 3, (some .int))
set_option maxRecDepth 100000 in
theorem wc_X7_desk : Cond.code yX7_desk cX7_desk 3 (some .int) ∈ mw := mw_tab 272 rfl rfl
theorem wy_X7_desk : mCy zX7_desk 0 := ⟨wc_X7_desk, w_init_X7, by decide +kernel, by decide +kernel, by decide +kernel⟩
abbrev zX1_read : mY := (yX1_read, cX1_read, 3, (some .int))
set_option maxRecDepth 100000 in
theorem wc_X1_read : Cond.code yX1_read cX1_read 3 (some .int) ∈ mw := mw_tab 276 rfl rfl
theorem wy_X1_read : mCy zX1_read 1 := ⟨wc_X1_read, w_init_X1, by decide +kernel, by decide +kernel, by decide +kernel⟩
abbrev zX5_empty : mY := (yX5_empty, cX5_empty, 1, none)
set_option maxRecDepth 100000 in
theorem wc_X5_empty : Cond.code yX5_empty cX5_empty 1 none ∈ mw := mw_tab 280 rfl rfl
theorem wy_X5_empty : mCy zX5_empty 0 := ⟨wc_X5_empty, w_init_X5, by decide +kernel, by decide +kernel, by decide +kernel⟩
abbrev zX1_nextToken : mY := (yX1_nextToken, cX1_nextToken, 1, none)
set_option maxRecDepth 100000 in
theorem wc_X1_nextToken : Cond.code yX1_nextToken cX1_nextToken 1 none ∈ mw := mw_tab 284 rfl rfl
theorem wy_X1_nextToken : mCy zX1_nextToken 0 := ⟨wc_X1_nextToken, w_init_X1, by decide +kernel, by decide +kernel, by decide +kernel⟩
abbrev zX1_isLetter : mY := (yX1_isLetter, cX1_isLetter, 1, (some .boolean))
set_option maxRecDepth 100000 in
theorem wc_X1_isLetter : Cond.code yX1_isLetter cX1_isLetter 1 (some .boolean) ∈ mw := mw_tab 287 rfl rfl
theorem wy_X1_isLetter : mCy zX1_isLetter 1 := ⟨wc_X1_isLetter, w_init_X1, by decide +kernel, by decide +kernel, by decide +kernel⟩
abbrev zX1_takeLetters : mY := (yX1_takeLetters, cX1_takeLetters, 1, none)
set_option maxRecDepth 100000 in
theorem wc_X1_takeLetters : Cond.code yX1_takeLetters cX1_takeLetters 1 none ∈ mw := mw_tab 291 rfl rfl
theorem wy_X1_takeLetters : mCy zX1_takeLetters 0 := ⟨wc_X1_takeLetters, w_init_X1, by decide +kernel, by decide +kernel, by decide +kernel⟩
abbrev zX1_isDigit : mY := (yX1_isDigit, cX1_isDigit, 1, (some .boolean))
set_option maxRecDepth 100000 in
theorem wc_X1_isDigit : Cond.code yX1_isDigit cX1_isDigit 1 (some .boolean) ∈ mw := mw_tab 294 rfl rfl
theorem wy_X1_isDigit : mCy zX1_isDigit 1 := ⟨wc_X1_isDigit, w_init_X1, by decide +kernel, by decide +kernel, by decide +kernel⟩
abbrev zX1_takeDigits : mY := (yX1_takeDigits, cX1_takeDigits, 3, none)
set_option maxRecDepth 100000 in
theorem wc_X1_takeDigits : Cond.code yX1_takeDigits cX1_takeDigits 3 none ∈ mw := mw_tab 298 rfl rfl
theorem wy_X1_takeDigits : mCy zX1_takeDigits 0 := ⟨wc_X1_takeDigits, w_init_X1, by decide +kernel, by decide +kernel, by decide +kernel⟩
abbrev zJ9_min_7cf53 : mY := (yJ9_min_7cf53, cJ9_min_7cf53, 2, (some .int))
set_option maxRecDepth 100000 in
theorem wc_J9_min_7cf53 : Cond.code yJ9_min_7cf53 cJ9_min_7cf53 2 (some .int) ∈ mw := mw_tab 301 rfl rfl
theorem wy_J9_min_7cf53 : mCy zJ9_min_7cf53 2 := ⟨wc_J9_min_7cf53, w_init_J9, by decide +kernel, by decide +kernel, by decide +kernel⟩
abbrev zX1_readItem : mY := (yX1_readItem, cX1_readItem, 3, (some .boolean))
set_option maxRecDepth 100000 in
theorem wc_X1_readItem : Cond.code yX1_readItem cX1_readItem 3 (some .boolean) ∈ mw := mw_tab 305 rfl rfl
theorem wy_X1_readItem : mCy zX1_readItem 1 := ⟨wc_X1_readItem, w_init_X1, by decide +kernel, by decide +kernel, by decide +kernel⟩
abbrev zX1_readBoth : mY := (yX1_readBoth, cX1_readBoth, 2, (some .boolean))
set_option maxRecDepth 100000 in
theorem wc_X1_readBoth : Cond.code yX1_readBoth cX1_readBoth 2 (some .boolean) ∈ mw := mw_tab 309 rfl rfl
theorem wy_X1_readBoth : mCy zX1_readBoth 1 := ⟨wc_X1_readBoth, w_init_X1, by decide +kernel, by decide +kernel, by decide +kernel⟩
abbrev zX1_readCube : mY := (yX1_readCube, cX1_readCube, 3, (some .boolean))
set_option maxRecDepth 100000 in
theorem wc_X1_readCube : Cond.code yX1_readCube cX1_readCube 3 (some .boolean) ∈ mw := mw_tab 313 rfl rfl
theorem wy_X1_readCube : mCy zX1_readCube 1 := ⟨wc_X1_readCube, w_init_X1, by decide +kernel, by decide +kernel, by decide +kernel⟩
abbrev zX1_isNumberBelow : mY := (yX1_isNumberBelow, cX1_isNumberBelow, 2, (some .boolean))
set_option maxRecDepth 100000 in
theorem wc_X1_isNumberBelow : Cond.code yX1_isNumberBelow cX1_isNumberBelow 2 (some .boolean) ∈ mw := mw_tab 317 rfl rfl
theorem wy_X1_isNumberBelow : mCy zX1_isNumberBelow 1 := ⟨wc_X1_isNumberBelow, w_init_X1, by decide +kernel, by decide +kernel, by decide +kernel⟩
abbrev zX1_readDay : mY := (yX1_readDay, cX1_readDay, 2, (some .boolean))
set_option maxRecDepth 100000 in
theorem wc_X1_readDay : Cond.code yX1_readDay cX1_readDay 2 (some .boolean) ∈ mw := mw_tab 321 rfl rfl
theorem wy_X1_readDay : mCy zX1_readDay 1 := ⟨wc_X1_readDay, w_init_X1, by decide +kernel, by decide +kernel, by decide +kernel⟩
abbrev zX5_howManyNumbers : mY := (yX5_howManyNumbers, cX5_howManyNumbers, 1, (some .int))
set_option maxRecDepth 100000 in
theorem wc_X5_howManyNumbers : Cond.code yX5_howManyNumbers cX5_howManyNumbers 1 (some .int) ∈ mw := mw_tab 325 rfl rfl
theorem wy_X5_howManyNumbers : mCy zX5_howManyNumbers 0 := ⟨wc_X5_howManyNumbers, w_init_X5, by decide +kernel, by decide +kernel, by decide +kernel⟩
abbrev zX3_begin : mY := (yX3_begin, cX3_begin, 3, none)
set_option maxRecDepth 100000 in
theorem wc_X3_begin : Cond.code yX3_begin cX3_begin 3 none ∈ mw := mw_tab 331 rfl rfl
theorem wy_X3_begin : mCy zX3_begin 1 := ⟨wc_X3_begin, w_init_X3, by decide +kernel, by decide +kernel, by decide +kernel⟩
abbrev zX7_forgetImages : mY := (yX7_forgetImages, cX7_forgetImages, 2, none)
set_option maxRecDepth 100000 in
theorem wc_X7_forgetImages : Cond.code yX7_forgetImages cX7_forgetImages 2 none ∈ mw := mw_tab 338 rfl rfl
theorem wy_X7_forgetImages : mCy zX7_forgetImages 0 := ⟨wc_X7_forgetImages, w_init_X7, by decide +kernel, by decide +kernel, by decide +kernel⟩
abbrev zX7_side : mY := (yX7_side, cX7_side, 3, (some .int))
set_option maxRecDepth 100000 in
theorem wc_X7_side : Cond.code yX7_side cX7_side 3 (some .int) ∈ mw := mw_tab 342 rfl rfl
theorem wy_X7_side : mCy zX7_side 2 := ⟨wc_X7_side, w_init_X7, by decide +kernel, by decide +kernel, by decide +kernel⟩
abbrev zX7_isCube : mY := (yX7_isCube, cX7_isCube, 2, (some .boolean))
set_option maxRecDepth 100000 in
theorem wc_X7_isCube : Cond.code yX7_isCube cX7_isCube 2 (some .boolean) ∈ mw := mw_tab 346 rfl rfl
theorem wy_X7_isCube : mCy zX7_isCube 1 := ⟨wc_X7_isCube, w_init_X7, by decide +kernel, by decide +kernel, by decide +kernel⟩
abbrev zX7_isSide : mY := (yX7_isSide, cX7_isSide, 1, (some .boolean))
set_option maxRecDepth 100000 in
theorem wc_X7_isSide : Cond.code yX7_isSide cX7_isSide 1 (some .boolean) ∈ mw := mw_tab 349 rfl rfl
theorem wy_X7_isSide : mCy zX7_isSide 1 := ⟨wc_X7_isSide, w_init_X7, by decide +kernel, by decide +kernel, by decide +kernel⟩
abbrev zX7_cube : mY := (yX7_cube, cX7_cube, 3, (some .int))
set_option maxRecDepth 100000 in
theorem wc_X7_cube : Cond.code yX7_cube cX7_cube 3 (some .int) ∈ mw := mw_tab 353 rfl rfl
theorem wy_X7_cube : mCy zX7_cube 2 := ⟨wc_X7_cube, w_init_X7, by decide +kernel, by decide +kernel, by decide +kernel⟩
abbrev zX3_placeOf : mY := (yX3_placeOf, cX3_placeOf, 3, (some .int))
set_option maxRecDepth 100000 in
theorem wc_X3_placeOf : Cond.code yX3_placeOf cX3_placeOf 3 (some .int) ∈ mw := mw_tab 357 rfl rfl
theorem wy_X3_placeOf : mCy zX3_placeOf 1 := ⟨wc_X3_placeOf, w_init_X3, by decide +kernel, by decide +kernel, by decide +kernel⟩
abbrev zX3_figuresOf : mY := (yX3_figuresOf, cX3_figuresOf, 4, (some .int))
set_option maxRecDepth 100000 in
theorem wc_X3_figuresOf : Cond.code yX3_figuresOf cX3_figuresOf 4 (some .int) ∈ mw := mw_tab 361 rfl rfl
theorem wy_X3_figuresOf : mCy zX3_figuresOf 1 := ⟨wc_X3_figuresOf, w_init_X3, by decide +kernel, by decide +kernel, by decide +kernel⟩
abbrev zX7_sidesNeeded : mY := (yX7_sidesNeeded, cX7_sidesNeeded, 5, (some .int))
set_option maxRecDepth 100000 in
theorem wc_X7_sidesNeeded : Cond.code yX7_sidesNeeded cX7_sidesNeeded 5 (some .int) ∈ mw := mw_tab 365 rfl rfl
theorem wy_X7_sidesNeeded : mCy zX7_sidesNeeded 1 := ⟨wc_X7_sidesNeeded, w_init_X7, by decide +kernel, by decide +kernel, by decide +kernel⟩
abbrev zX7_tellersBut : mY := (yX7_tellersBut, cX7_tellersBut, 2, (some (.object "DayCubes$Tellers")))
set_option maxRecDepth 100000 in
theorem wc_X7_tellersBut : Cond.code yX7_tellersBut cX7_tellersBut 2 (some (.object "DayCubes$Tellers")) ∈ mw := mw_tab 369 rfl rfl
theorem wy_X7_tellersBut : mCy zX7_tellersBut 1 := ⟨wc_X7_tellersBut, w_init_X7, by decide +kernel, by decide +kernel, by decide +kernel⟩
abbrev zX4_take : mY := (yX4_take, cX4_take, 5, none)
set_option maxRecDepth 100000 in
theorem wc_X4_take : Cond.code yX4_take cX4_take 5 none ∈ mw := mw_tab 373 rfl rfl
theorem wy_X4_take : mCy zX4_take 3 := ⟨wc_X4_take, w_init_X4, by decide +kernel, by decide +kernel, by decide +kernel⟩
abbrev zJ7_fill_53178 : mY := (yJ7_fill_53178, cJ7_fill_53178, 4, none)
set_option maxRecDepth 100000 in
theorem wc_J7_fill_53178 : Cond.code yJ7_fill_53178 cJ7_fill_53178 4 none ∈ mw := mw_tab 376 rfl rfl
theorem wy_J7_fill_53178 : mCy zJ7_fill_53178 2 := ⟨wc_J7_fill_53178, w_init_J7, by decide +kernel, by decide +kernel, by decide +kernel⟩
abbrev zX4_daysDone : mY := (yX4_daysDone, cX4_daysDone, 4, (some .int))
set_option maxRecDepth 100000 in
theorem wc_X4_daysDone : Cond.code yX4_daysDone cX4_daysDone 4 (some .int) ∈ mw := mw_tab 380 rfl rfl
theorem wy_X4_daysDone : mCy zX4_daysDone 1 := ⟨wc_X4_daysDone, w_init_X4, by decide +kernel, by decide +kernel, by decide +kernel⟩
abbrev zX4_canTell : mY := (yX4_canTell, cX4_canTell, 5, (some .boolean))
set_option maxRecDepth 100000 in
theorem wc_X4_canTell : Cond.code yX4_canTell cX4_canTell 5 (some .boolean) ∈ mw := mw_tab 384 rfl rfl
theorem wy_X4_canTell : mCy zX4_canTell 1 := ⟨wc_X4_canTell, w_init_X4, by decide +kernel, by decide +kernel, by decide +kernel⟩
abbrev zX4_withOneMore : mY := (yX4_withOneMore, cX4_withOneMore, 5, (some .int))
set_option maxRecDepth 100000 in
theorem wc_X4_withOneMore : Cond.code yX4_withOneMore cX4_withOneMore 5 (some .int) ∈ mw := mw_tab 388 rfl rfl
theorem wy_X4_withOneMore : mCy zX4_withOneMore 2 := ⟨wc_X4_withOneMore, w_init_X4, by decide +kernel, by decide +kernel, by decide +kernel⟩
abbrev zX7_place : mY := (yX7_place, cX7_place, 2, (some .int))
set_option maxRecDepth 100000 in
theorem wc_X7_place : Cond.code yX7_place cX7_place 2 (some .int) ∈ mw := mw_tab 394 rfl rfl
theorem wy_X7_place : mCy zX7_place 1 := ⟨wc_X7_place, w_init_X7, by decide +kernel, by decide +kernel, by decide +kernel⟩
abbrev zX7_isPlace : mY := (yX7_isPlace, cX7_isPlace, 2, (some .boolean))
set_option maxRecDepth 100000 in
theorem wc_X7_isPlace : Cond.code yX7_isPlace cX7_isPlace 2 (some .boolean) ∈ mw := mw_tab 398 rfl rfl
theorem wy_X7_isPlace : mCy zX7_isPlace 1 := ⟨wc_X7_isPlace, w_init_X7, by decide +kernel, by decide +kernel, by decide +kernel⟩
abbrev zX7_day : mY := (yX7_day, cX7_day, 2, (some .int))
set_option maxRecDepth 100000 in
theorem wc_X7_day : Cond.code yX7_day cX7_day 2 (some .int) ∈ mw := mw_tab 402 rfl rfl
theorem wy_X7_day : mCy zX7_day 1 := ⟨wc_X7_day, w_init_X7, by decide +kernel, by decide +kernel, by decide +kernel⟩
abbrev zX7_turn : mY := (yX7_turn, cX7_turn, 3, (some .int))
set_option maxRecDepth 100000 in
theorem wc_X7_turn : Cond.code yX7_turn cX7_turn 3 (some .int) ∈ mw := mw_tab 406 rfl rfl
theorem wy_X7_turn : mCy zX7_turn 2 := ⟨wc_X7_turn, w_init_X7, by decide +kernel, by decide +kernel, by decide +kernel⟩
abbrev zX3_turnCube : mY := (yX3_turnCube, cX3_turnCube, 3, none)
set_option maxRecDepth 100000 in
theorem wc_X3_turnCube : Cond.code yX3_turnCube cX3_turnCube 3 none ∈ mw := mw_tab 410 rfl rfl
theorem wy_X3_turnCube : mCy zX3_turnCube 2 := ⟨wc_X3_turnCube, w_init_X3, by decide +kernel, by decide +kernel, by decide +kernel⟩
abbrev zX3_remember : mY := (yX3_remember, cX3_remember, 5, none)
set_option maxRecDepth 100000 in
theorem wc_X3_remember : Cond.code yX3_remember cX3_remember 5 none ∈ mw := mw_tab 414 rfl rfl
theorem wy_X3_remember : mCy zX3_remember 3 := ⟨wc_X3_remember, w_init_X3, by decide +kernel, by decide +kernel, by decide +kernel⟩
abbrev zX3_turnWork : mY := (yX3_turnWork, cX3_turnWork, 2, (some .int))
set_option maxRecDepth 100000 in
theorem wc_X3_turnWork : Cond.code yX3_turnWork cX3_turnWork 2 (some .int) ∈ mw := mw_tab 417 rfl rfl
theorem wy_X3_turnWork : mCy zX3_turnWork 2 := ⟨wc_X3_turnWork, w_init_X3, by decide +kernel, by decide +kernel, by decide +kernel⟩
abbrev zX3_addWork : mY := (yX3_addWork, cX3_addWork, 2, none)
set_option maxRecDepth 100000 in
theorem wc_X3_addWork : Cond.code yX3_addWork cX3_addWork 2 none ∈ mw := mw_tab 421 rfl rfl
theorem wy_X3_addWork : mCy zX3_addWork 1 := ⟨wc_X3_addWork, w_init_X3, by decide +kernel, by decide +kernel, by decide +kernel⟩
abbrev zX7_changes : mY := (yX7_changes, cX7_changes, 3, (some .int))
set_option maxRecDepth 100000 in
theorem wc_X7_changes : Cond.code yX7_changes cX7_changes 3 (some .int) ∈ mw := mw_tab 426 rfl rfl
theorem wy_X7_changes : mCy zX7_changes 2 := ⟨wc_X7_changes, w_init_X7, by decide +kernel, by decide +kernel, by decide +kernel⟩
abbrev zX3_changePlaces : mY := (yX3_changePlaces, cX3_changePlaces, 3, none)
set_option maxRecDepth 100000 in
theorem wc_X3_changePlaces : Cond.code yX3_changePlaces cX3_changePlaces 3 none ∈ mw := mw_tab 430 rfl rfl
theorem wy_X3_changePlaces : mCy zX3_changePlaces 2 := ⟨wc_X3_changePlaces, w_init_X3, by decide +kernel, by decide +kernel, by decide +kernel⟩
abbrev zX3_exchange : mY := (yX3_exchange, cX3_exchange, 4, none)
set_option maxRecDepth 100000 in
theorem wc_X3_exchange : Cond.code yX3_exchange cX3_exchange 4 none ∈ mw := mw_tab 434 rfl rfl
theorem wy_X3_exchange : mCy zX3_exchange 2 := ⟨wc_X3_exchange, w_init_X3, by decide +kernel, by decide +kernel, by decide +kernel⟩
abbrev zX7_pastes : mY := (yX7_pastes, cX7_pastes, 5, (some .int))
set_option maxRecDepth 100000 in
theorem wc_X7_pastes : Cond.code yX7_pastes cX7_pastes 5 (some .int) ∈ mw := mw_tab 438 rfl rfl
theorem wy_X7_pastes : mCy zX7_pastes 3 := ⟨wc_X7_pastes, w_init_X7, by decide +kernel, by decide +kernel, by decide +kernel⟩
abbrev zX7_isFigure : mY := (yX7_isFigure, cX7_isFigure, 1, (some .boolean))
set_option maxRecDepth 100000 in
theorem wc_X7_isFigure : Cond.code yX7_isFigure cX7_isFigure 1 (some .boolean) ∈ mw := mw_tab 441 rfl rfl
theorem wy_X7_isFigure : mCy zX7_isFigure 1 := ⟨wc_X7_isFigure, w_init_X7, by decide +kernel, by decide +kernel, by decide +kernel⟩
abbrev zX3_pasteFigure : mY := (yX3_pasteFigure, cX3_pasteFigure, 3, none)
set_option maxRecDepth 100000 in
theorem wc_X3_pasteFigure : Cond.code yX3_pasteFigure cX3_pasteFigure 3 none ∈ mw := mw_tab 445 rfl rfl
theorem wy_X3_pasteFigure : mCy zX3_pasteFigure 2 := ⟨wc_X3_pasteFigure, w_init_X3, by decide +kernel, by decide +kernel, by decide +kernel⟩
abbrev zX7_undo : mY := (yX7_undo, cX7_undo, 1, (some .int))
set_option maxRecDepth 100000 in
theorem wc_X7_undo : Cond.code yX7_undo cX7_undo 1 (some .int) ∈ mw := mw_tab 449 rfl rfl
theorem wy_X7_undo : mCy zX7_undo 0 := ⟨wc_X7_undo, w_init_X7, by decide +kernel, by decide +kernel, by decide +kernel⟩
abbrev zX3_takeBack : mY := (yX3_takeBack, cX3_takeBack, 4, none)
set_option maxRecDepth 100000 in
theorem wc_X3_takeBack : Cond.code yX3_takeBack cX3_takeBack 4 none ∈ mw := mw_tab 453 rfl rfl
theorem wy_X3_takeBack : mCy zX3_takeBack 0 := ⟨wc_X3_takeBack, w_init_X3, by decide +kernel, by decide +kernel, by decide +kernel⟩
abbrev zX7_now : mY := (yX7_now, cX7_now, 2, (some .int))
set_option maxRecDepth 100000 in
theorem wc_X7_now : Cond.code yX7_now cX7_now 2 (some .int) ∈ mw := mw_tab 457 rfl rfl
theorem wy_X7_now : mCy zX7_now 1 := ⟨wc_X7_now, w_init_X7, by decide +kernel, by decide +kernel, by decide +kernel⟩
abbrev zX7_numberInFront : mY := (yX7_numberInFront, cX7_numberInFront, 3, (some .int))
set_option maxRecDepth 100000 in
theorem wc_X7_numberInFront : Cond.code yX7_numberInFront cX7_numberInFront 3 (some .int) ∈ mw := mw_tab 461 rfl rfl
theorem wy_X7_numberInFront : mCy zX7_numberInFront 0 := ⟨wc_X7_numberInFront, w_init_X7, by decide +kernel, by decide +kernel, by decide +kernel⟩
abbrev zX3_figureInFront : mY := (yX3_figureInFront, cX3_figureInFront, 2, (some .int))
set_option maxRecDepth 100000 in
theorem wc_X3_figureInFront : Cond.code yX3_figureInFront cX3_figureInFront 2 (some .int) ∈ mw := mw_tab 465 rfl rfl
theorem wy_X3_figureInFront : mCy zX3_figureInFront 1 := ⟨wc_X3_figureInFront, w_init_X3, by decide +kernel, by decide +kernel, by decide +kernel⟩
abbrev zX4_many : mY := (yX4_many, cX4_many, 1, (some .int))
set_option maxRecDepth 100000 in
theorem wc_X4_many : Cond.code yX4_many cX4_many 1 (some .int) ∈ mw := mw_tab 469 rfl rfl
theorem wy_X4_many : mCy zX4_many 0 := ⟨wc_X4_many, w_init_X4, by decide +kernel, by decide +kernel, by decide +kernel⟩
abbrev zX4_manyFrom : mY := (yX4_manyFrom, cX4_manyFrom, 10, (some .int))
set_option maxRecDepth 100000 in
theorem wc_X4_manyFrom : Cond.code yX4_manyFrom cX4_manyFrom 10 (some .int) ∈ mw := mw_tab 473 rfl rfl
theorem wy_X4_manyFrom : mCy zX4_manyFrom 5 := ⟨wc_X4_manyFrom, w_init_X4, by decide +kernel, by decide +kernel, by decide +kernel⟩
abbrev zX4_leastUntold : mY := (yX4_leastUntold, cX4_leastUntold, 2, (some .int))
set_option maxRecDepth 100000 in
theorem wc_X4_leastUntold : Cond.code yX4_leastUntold cX4_leastUntold 2 (some .int) ∈ mw := mw_tab 477 rfl rfl
theorem wy_X4_leastUntold : mCy zX4_leastUntold 0 := ⟨wc_X4_leastUntold, w_init_X4, by decide +kernel, by decide +kernel, by decide +kernel⟩
abbrev zX7_number : mY := (yX7_number, cX7_number, 3, (some .int))
set_option maxRecDepth 100000 in
theorem wc_X7_number : Cond.code yX7_number cX7_number 3 (some .int) ∈ mw := mw_tab 482 rfl rfl
theorem wy_X7_number : mCy zX7_number 2 := ⟨wc_X7_number, w_init_X7, by decide +kernel, by decide +kernel, by decide +kernel⟩
abbrev zX7_isNumber : mY := (yX7_isNumber, cX7_isNumber, 2, (some .boolean))
set_option maxRecDepth 100000 in
theorem wc_X7_isNumber : Cond.code yX7_isNumber cX7_isNumber 2 (some .boolean) ∈ mw := mw_tab 486 rfl rfl
theorem wy_X7_isNumber : mCy zX7_isNumber 1 := ⟨wc_X7_isNumber, w_init_X7, by decide +kernel, by decide +kernel, by decide +kernel⟩
abbrev zX7_isTold : mY := (yX7_isTold, cX7_isTold, 4, (some .boolean))
set_option maxRecDepth 100000 in
theorem wc_X7_isTold : Cond.code yX7_isTold cX7_isTold 4 (some .boolean) ∈ mw := mw_tab 491 rfl rfl
theorem wy_X7_isTold : mCy zX7_isTold 1 := ⟨wc_X7_isTold, w_init_X7, by decide +kernel, by decide +kernel, by decide +kernel⟩
abbrev zX5_fits : mY := (yX5_fits, cX5_fits, 3, (some .boolean))
set_option maxRecDepth 100000 in
theorem wc_X5_fits : Cond.code yX5_fits cX5_fits 3 (some .boolean) ∈ mw := mw_tab 495 rfl rfl
theorem wy_X5_fits : mCy zX5_fits 2 := ⟨wc_X5_fits, w_init_X5, by decide +kernel, by decide +kernel, by decide +kernel⟩
abbrev zX5_upright : mY := (yX5_upright, cX5_upright, 2, (some .int))
set_option maxRecDepth 100000 in
theorem wc_X5_upright : Cond.code yX5_upright cX5_upright 2 (some .int) ∈ mw := mw_tab 499 rfl rfl
theorem wy_X5_upright : mCy zX5_upright 1 := ⟨wc_X5_upright, w_init_X5, by decide +kernel, by decide +kernel, by decide +kernel⟩
abbrev zX7_leastWork : mY := (yX7_leastWork, cX7_leastWork, 4, (some .int))
set_option maxRecDepth 100000 in
theorem wc_X7_leastWork : Cond.code yX7_leastWork cX7_leastWork 4 (some .int) ∈ mw := mw_tab 504 rfl rfl
theorem wy_X7_leastWork : mCy zX7_leastWork 2 := ⟨wc_X7_leastWork, w_init_X7, by decide +kernel, by decide +kernel, by decide +kernel⟩
abbrev zX6_leastThrough : mY := (yX6_leastThrough, cX6_leastThrough, 6, (some .int))
set_option maxRecDepth 100000 in
theorem wc_X6_leastThrough : Cond.code yX6_leastThrough cX6_leastThrough 6 (some .int) ∈ mw := mw_tab 508 rfl rfl
theorem wy_X6_leastThrough : mCy zX6_leastThrough 4 := ⟨wc_X6_leastThrough, w_init_X6, by decide +kernel, by decide +kernel, by decide +kernel⟩
abbrev zX6_takeWanted : mY := (yX6_takeWanted, cX6_takeWanted, 5, none)
set_option maxRecDepth 100000 in
theorem wc_X6_takeWanted : Cond.code yX6_takeWanted cX6_takeWanted 5 none ∈ mw := mw_tab 512 rfl rfl
theorem wy_X6_takeWanted : mCy zX6_takeWanted 2 := ⟨wc_X6_takeWanted, w_init_X6, by decide +kernel, by decide +kernel, by decide +kernel⟩
abbrev zX6_reckonTurns : mY := (yX6_reckonTurns, cX6_reckonTurns, 3, none)
set_option maxRecDepth 100000 in
theorem wc_X6_reckonTurns : Cond.code yX6_reckonTurns cX6_reckonTurns 3 none ∈ mw := mw_tab 516 rfl rfl
theorem wy_X6_reckonTurns : mCy zX6_reckonTurns 1 := ⟨wc_X6_reckonTurns, w_init_X6, by decide +kernel, by decide +kernel, by decide +kernel⟩
abbrev zX6_reckonPathsFrom : mY := (yX6_reckonPathsFrom, cX6_reckonPathsFrom, 7, none)
set_option maxRecDepth 100000 in
theorem wc_X6_reckonPathsFrom : Cond.code yX6_reckonPathsFrom cX6_reckonPathsFrom 7 none ∈ mw := mw_tab 520 rfl rfl
theorem wy_X6_reckonPathsFrom : mCy zX6_reckonPathsFrom 3 := ⟨wc_X6_reckonPathsFrom, w_init_X6, by decide +kernel, by decide +kernel, by decide +kernel⟩
abbrev zX6_longerPath : mY := (yX6_longerPath, cX6_longerPath, 2, (some .int))
set_option maxRecDepth 100000 in
theorem wc_X6_longerPath : Cond.code yX6_longerPath cX6_longerPath 2 (some .int) ∈ mw := mw_tab 523 rfl rfl
theorem wy_X6_longerPath : mCy zX6_longerPath 2 := ⟨wc_X6_longerPath, w_init_X6, by decide +kernel, by decide +kernel, by decide +kernel⟩
abbrev zX6_reckonSides : mY := (yX6_reckonSides, cX6_reckonSides, 9, (some .int))
set_option maxRecDepth 100000 in
theorem wc_X6_reckonSides : Cond.code yX6_reckonSides cX6_reckonSides 9 (some .int) ∈ mw := mw_tab 527 rfl rfl
theorem wy_X6_reckonSides : mCy zX6_reckonSides 3 := ⟨wc_X6_reckonSides, w_init_X6, by decide +kernel, by decide +kernel, by decide +kernel⟩
abbrev zX6_choose : mY := (yX6_choose, cX6_choose, 9, none)
set_option maxRecDepth 100000 in
theorem wc_X6_choose : Cond.code yX6_choose cX6_choose 9 none ∈ mw := mw_tab 534 rfl rfl
theorem wy_X6_choose : mCy zX6_choose 4 := ⟨wc_X6_choose, w_init_X6, by decide +kernel, by decide +kernel, by decide +kernel⟩
abbrev zX6_changesTo : mY := (yX6_changesTo, cX6_changesTo, 7, (some .int))
set_option maxRecDepth 100000 in
theorem wc_X6_changesTo : Cond.code yX6_changesTo cX6_changesTo 7 (some .int) ∈ mw := mw_tab 538 rfl rfl
theorem wy_X6_changesTo : mCy zX6_changesTo 1 := ⟨wc_X6_changesTo, w_init_X6, by decide +kernel, by decide +kernel, by decide +kernel⟩
abbrev zX6_goOn : mY := (yX6_goOn, cX6_goOn, 3, none)
set_option maxRecDepth 100000 in
theorem wc_X6_goOn : Cond.code yX6_goOn cX6_goOn 3 none ∈ mw := mw_tab 542 rfl rfl
theorem wy_X6_goOn : mCy zX6_goOn 2 := ⟨wc_X6_goOn, w_init_X6, by decide +kernel, by decide +kernel, by decide +kernel⟩
abbrev zX4_fewestPastes : mY := (yX4_fewestPastes, cX4_fewestPastes, 6, (some .int))
set_option maxRecDepth 100000 in
theorem wc_X4_fewestPastes : Cond.code yX4_fewestPastes cX4_fewestPastes 6 (some .int) ∈ mw := mw_tab 546 rfl rfl
theorem wy_X4_fewestPastes : mCy zX4_fewestPastes 1 := ⟨wc_X4_fewestPastes, w_init_X4, by decide +kernel, by decide +kernel, by decide +kernel⟩
abbrev zJ6_bitCount_0f7a4 : mY := (yJ6_bitCount_0f7a4, cJ6_bitCount_0f7a4, 1, (some .int))
set_option maxRecDepth 100000 in
theorem wc_J6_bitCount_0f7a4 : Cond.code yJ6_bitCount_0f7a4 cJ6_bitCount_0f7a4 1 (some .int) ∈ mw := mw_tab 549 rfl rfl
theorem wy_J6_bitCount_0f7a4 : mCy zJ6_bitCount_0f7a4 1 := ⟨wc_J6_bitCount_0f7a4, w_init_J6, by decide +kernel, by decide +kernel, by decide +kernel⟩
abbrev zJ9_max_7cf53 : mY := (yJ9_max_7cf53, cJ9_max_7cf53, 2, (some .int))
set_option maxRecDepth 100000 in
theorem wc_J9_max_7cf53 : Cond.code yJ9_max_7cf53 cJ9_max_7cf53 2 (some .int) ∈ mw := mw_tab 555 rfl rfl
theorem wy_J9_max_7cf53 : mCy zJ9_max_7cf53 2 := ⟨wc_J9_max_7cf53, w_init_J9, by decide +kernel, by decide +kernel, by decide +kernel⟩
abbrev zX7_through : mY := (yX7_through, cX7_through, 3, (some .int))
set_option maxRecDepth 100000 in
theorem wc_X7_through : Cond.code yX7_through cX7_through 3 (some .int) ∈ mw := mw_tab 559 rfl rfl
theorem wy_X7_through : mCy zX7_through 2 := ⟨wc_X7_through, w_init_X7, by decide +kernel, by decide +kernel, by decide +kernel⟩
abbrev zX7_odds : mY := (yX7_odds, cX7_odds, 3, (some .int))
set_option maxRecDepth 100000 in
theorem wc_X7_odds : Cond.code yX7_odds cX7_odds 3 (some .int) ∈ mw := mw_tab 563 rfl rfl
theorem wy_X7_odds : mCy zX7_odds 2 := ⟨wc_X7_odds, w_init_X7, by decide +kernel, by decide +kernel, by decide +kernel⟩
abbrev zX0_reckon : mY := (yX0_reckon, cX0_reckon, 6, none)
set_option maxRecDepth 100000 in
theorem wc_X0_reckon : Cond.code yX0_reckon cX0_reckon 6 none ∈ mw := mw_tab 567 rfl rfl
theorem wy_X0_reckon : mCy zX0_reckon 3 := ⟨wc_X0_reckon, w_init_X0, by decide +kernel, by decide +kernel, by decide +kernel⟩
abbrev zX0_fallsFrom : mY := (yX0_fallsFrom, cX0_fallsFrom, 5, (some .int))
set_option maxRecDepth 100000 in
theorem wc_X0_fallsFrom : Cond.code yX0_fallsFrom cX0_fallsFrom 5 (some .int) ∈ mw := mw_tab 573 rfl rfl
theorem wy_X0_fallsFrom : mCy zX0_fallsFrom 1 := ⟨wc_X0_fallsFrom, w_init_X0, by decide +kernel, by decide +kernel, by decide +kernel⟩
abbrev zX0_reduce : mY := (yX0_reduce, cX0_reduce, 2, none)
set_option maxRecDepth 100000 in
theorem wc_X0_reduce : Cond.code yX0_reduce cX0_reduce 2 none ∈ mw := mw_tab 579 rfl rfl
theorem wy_X0_reduce : mCy zX0_reduce 0 := ⟨wc_X0_reduce, w_init_X0, by decide +kernel, by decide +kernel, by decide +kernel⟩
abbrev zX0_reduceBy : mY := (yX0_reduceBy, cX0_reduceBy, 2, none)
set_option maxRecDepth 100000 in
theorem wc_X0_reduceBy : Cond.code yX0_reduceBy cX0_reduceBy 2 none ∈ mw := mw_tab 583 rfl rfl
theorem wy_X0_reduceBy : mCy zX0_reduceBy 1 := ⟨wc_X0_reduceBy, w_init_X0, by decide +kernel, by decide +kernel, by decide +kernel⟩
abbrev zX7_sees : mY := (yX7_sees, cX7_sees, 3, (some .int))
set_option maxRecDepth 100000 in
theorem wc_X7_sees : Cond.code yX7_sees cX7_sees 3 (some .int) ∈ mw := mw_tab 587 rfl rfl
theorem wy_X7_sees : mCy zX7_sees 2 := ⟨wc_X7_sees, w_init_X7, by decide +kernel, by decide +kernel, by decide +kernel⟩
abbrev zX2_append : mY := (yX2_append, cX2_append, 3, none)
set_option maxRecDepth 100000 in
theorem wc_X2_append : Cond.code yX2_append cX2_append 3 none ∈ mw := mw_tab 591 rfl rfl
theorem wy_X2_append : mCy zX2_append 2 := ⟨wc_X2_append, w_init_X2, by decide +kernel, by decide +kernel, by decide +kernel⟩
abbrev zX7_forget : mY := (yX7_forget, cX7_forget, 2, (some .int))
set_option maxRecDepth 100000 in
theorem wc_X7_forget : Cond.code yX7_forget cX7_forget 2 (some .int) ∈ mw := mw_tab 595 rfl rfl
theorem wy_X7_forget : mCy zX7_forget 0 := ⟨wc_X7_forget, w_init_X7, by decide +kernel, by decide +kernel, by decide +kernel⟩
abbrev zX7_which : mY := (yX7_which, cX7_which, 1, (some .int))
set_option maxRecDepth 100000 in
theorem wc_X7_which : Cond.code yX7_which cX7_which 1 (some .int) ∈ mw := mw_tab 599 rfl rfl
theorem wy_X7_which : mCy zX7_which 0 := ⟨wc_X7_which, w_init_X7, by decide +kernel, by decide +kernel, by decide +kernel⟩
abbrev zX2_cubesThatMayBe : mY := (yX2_cubesThatMayBe, cX2_cubesThatMayBe, 5, (some .int))
set_option maxRecDepth 100000 in
theorem wc_X2_cubesThatMayBe : Cond.code yX2_cubesThatMayBe cX2_cubesThatMayBe 5 (some .int) ∈ mw := mw_tab 603 rfl rfl
theorem wy_X2_cubesThatMayBe : mCy zX2_cubesThatMayBe 2 := ⟨wc_X2_cubesThatMayBe, w_init_X2, by decide +kernel, by decide +kernel, by decide +kernel⟩
abbrev zX2_mayBe : mY := (yX2_mayBe, cX2_mayBe, 3, (some .boolean))
set_option maxRecDepth 100000 in
theorem wc_X2_mayBe : Cond.code yX2_mayBe cX2_mayBe 3 (some .boolean) ∈ mw := mw_tab 608 rfl rfl
theorem wy_X2_mayBe : mCy zX2_mayBe 1 := ⟨wc_X2_mayBe, w_init_X2, by decide +kernel, by decide +kernel, by decide +kernel⟩
abbrev zX7_look : mY := (yX7_look, cX7_look, 1, (some .int))
set_option maxRecDepth 100000 in
theorem wc_X7_look : Cond.code yX7_look cX7_look 1 (some .int) ∈ mw := mw_tab 612 rfl rfl
theorem wy_X7_look : mCy zX7_look 0 := ⟨wc_X7_look, w_init_X7, by decide +kernel, by decide +kernel, by decide +kernel⟩
abbrev zX2_bestToLookFor : mY := (yX2_bestToLookFor, cX2_bestToLookFor, 10, (some .int))
set_option maxRecDepth 100000 in
theorem wc_X2_bestToLookFor : Cond.code yX2_bestToLookFor cX2_bestToLookFor 10 (some .int) ∈ mw := mw_tab 616 rfl rfl
theorem wy_X2_bestToLookFor : mCy zX2_bestToLookFor 2 := ⟨wc_X2_bestToLookFor, w_init_X2, by decide +kernel, by decide +kernel, by decide +kernel⟩
abbrev zX2_howManyHave : mY := (yX2_howManyHave, cX2_howManyHave, 6, (some .int))
set_option maxRecDepth 100000 in
theorem wc_X2_howManyHave : Cond.code yX2_howManyHave cX2_howManyHave 6 (some .int) ∈ mw := mw_tab 621 rfl rfl
theorem wy_X2_howManyHave : mCy zX2_howManyHave 4 := ⟨wc_X2_howManyHave, w_init_X2, by decide +kernel, by decide +kernel, by decide +kernel⟩
abbrev zX7_mark : mY := (yX7_mark, cX7_mark, 3, (some .int))
set_option maxRecDepth 100000 in
theorem wc_X7_mark : Cond.code yX7_mark cX7_mark 3 (some .int) ∈ mw := mw_tab 626 rfl rfl
theorem wy_X7_mark : mCy zX7_mark 2 := ⟨wc_X7_mark, w_init_X7, by decide +kernel, by decide +kernel, by decide +kernel⟩
abbrev zX7_markAs : mY := (yX7_markAs, cX7_markAs, 4, (some .int))
set_option maxRecDepth 100000 in
theorem wc_X7_markAs : Cond.code yX7_markAs cX7_markAs 4 (some .int) ∈ mw := mw_tab 631 rfl rfl
theorem wy_X7_markAs : mCy zX7_markAs 2 := ⟨wc_X7_markAs, w_init_X7, by decide +kernel, by decide +kernel, by decide +kernel⟩
abbrev zX7_keep : mY := (yX7_keep, cX7_keep, 2, (some .int))
set_option maxRecDepth 100000 in
theorem wc_X7_keep : Cond.code yX7_keep cX7_keep 2 (some .int) ∈ mw := mw_tab 640 rfl rfl
theorem wy_X7_keep : mCy zX7_keep 1 := ⟨wc_X7_keep, w_init_X7, by decide +kernel, by decide +kernel, by decide +kernel⟩
abbrev zX7_isImage : mY := (yX7_isImage, cX7_isImage, 1, (some .boolean))
set_option maxRecDepth 100000 in
theorem wc_X7_isImage : Cond.code yX7_isImage cX7_isImage 1 (some .boolean) ∈ mw := mw_tab 643 rfl rfl
theorem wy_X7_isImage : mCy zX7_isImage 1 := ⟨wc_X7_isImage, w_init_X7, by decide +kernel, by decide +kernel, by decide +kernel⟩
abbrev zX3_copy : mY := (yX3_copy, cX3_copy, 2, none)
set_option maxRecDepth 100000 in
theorem wc_X3_copy : Cond.code yX3_copy cX3_copy 2 none ∈ mw := mw_tab 647 rfl rfl
theorem wy_X3_copy : mCy zX3_copy 1 := ⟨wc_X3_copy, w_init_X3, by decide +kernel, by decide +kernel, by decide +kernel⟩
abbrev zX7_back : mY := (yX7_back, cX7_back, 2, (some .int))
set_option maxRecDepth 100000 in
theorem wc_X7_back : Cond.code yX7_back cX7_back 2 (some .int) ∈ mw := mw_tab 651 rfl rfl
theorem wy_X7_back : mCy zX7_back 1 := ⟨wc_X7_back, w_init_X7, by decide +kernel, by decide +kernel, by decide +kernel⟩
abbrev zX7_count : mY := (yX7_count, cX7_count, 2, (some .int))
set_option maxRecDepth 100000 in
theorem wc_X7_count : Cond.code yX7_count cX7_count 2 (some .int) ∈ mw := mw_tab 655 rfl rfl
theorem wy_X7_count : mCy zX7_count 1 := ⟨wc_X7_count, w_init_X7, by decide +kernel, by decide +kernel, by decide +kernel⟩
abbrev zX7_trace : mY := (yX7_trace, cX7_trace, 1, (some .long))
set_option maxRecDepth 100000 in
theorem wc_X7_trace : Cond.code yX7_trace cX7_trace 1 (some .long) ∈ mw := mw_tab 659 rfl rfl
theorem wy_X7_trace : mCy zX7_trace 0 := ⟨wc_X7_trace, w_init_X7, by decide +kernel, by decide +kernel, by decide +kernel⟩
abbrev zX8_init : mY := (yX8_init, cX8_init, 1, none)
set_option maxRecDepth 100000 in
theorem wc_X8_init : Cond.code yX8_init cX8_init 1 none ∈ mw := mw_tab 664 rfl rfl
theorem wy_X8_init : mCy zX8_init 0 := ⟨wc_X8_init, w_init_X8, by decide +kernel, by decide +kernel, by decide +kernel⟩
abbrev zX8_begin : mY := (yX8_begin, cX8_begin, 2, none)
set_option maxRecDepth 100000 in
theorem wc_X8_begin : Cond.code yX8_begin cX8_begin 2 none ∈ mw := mw_tab 669 rfl rfl
theorem wy_X8_begin : mCy zX8_begin 0 := ⟨wc_X8_begin, w_init_X8, by decide +kernel, by decide +kernel, by decide +kernel⟩
abbrev zX8_tellOrders : mY := (yX8_tellOrders, cX8_tellOrders, 2, none)
set_option maxRecDepth 100000 in
theorem wc_X8_tellOrders : Cond.code yX8_tellOrders cX8_tellOrders 2 none ∈ mw := mw_tab 673 rfl rfl
theorem wy_X8_tellOrders : mCy zX8_tellOrders 0 := ⟨wc_X8_tellOrders, w_init_X8, by decide +kernel, by decide +kernel, by decide +kernel⟩
abbrev zX8_codes : mY := (yX8_codes, cX8_codes, 1, (some .int))
set_option maxRecDepth 100000 in
theorem wc_X8_codes : Cond.code yX8_codes cX8_codes 1 (some .int) ∈ mw := mw_tab 677 rfl rfl
theorem wy_X8_codes : mCy zX8_codes 0 := ⟨wc_X8_codes, w_init_X8, by decide +kernel, by decide +kernel, by decide +kernel⟩
abbrev zX8_isOrder : mY := (yX8_isOrder, cX8_isOrder, 4, (some .boolean))
set_option maxRecDepth 100000 in
theorem wc_X8_isOrder : Cond.code yX8_isOrder cX8_isOrder 4 (some .boolean) ∈ mw := mw_tab 681 rfl rfl
theorem wy_X8_isOrder : mCy zX8_isOrder 1 := ⟨wc_X8_isOrder, w_init_X8, by decide +kernel, by decide +kernel, by decide +kernel⟩
abbrev zX8_cubeIn : mY := (yX8_cubeIn, cX8_cubeIn, 2, (some .int))
set_option maxRecDepth 100000 in
theorem wc_X8_cubeIn : Cond.code yX8_cubeIn cX8_cubeIn 2 (some .int) ∈ mw := mw_tab 684 rfl rfl
theorem wy_X8_cubeIn : mCy zX8_cubeIn 2 := ⟨wc_X8_cubeIn, w_init_X8, by decide +kernel, by decide +kernel, by decide +kernel⟩
abbrev zX8_type : mY := (yX8_type, cX8_type, 2, (some .int))
set_option maxRecDepth 100000 in
theorem wc_X8_type : Cond.code yX8_type cX8_type 2 (some .int) ∈ mw := mw_tab 765 rfl rfl
theorem wy_X8_type : mCy zX8_type 1 := ⟨wc_X8_type, w_init_X8, by decide +kernel, by decide +kernel, by decide +kernel⟩
abbrev zX8_in : mY := (yX8_in, cX8_in, 3, (some .boolean))
set_option maxRecDepth 100000 in
theorem wc_X8_in : Cond.code yX8_in cX8_in 3 (some .boolean) ∈ mw := mw_tab 768 rfl rfl
theorem wy_X8_in : mCy zX8_in 3 := ⟨wc_X8_in, w_init_X8, by decide +kernel, by decide +kernel, by decide +kernel⟩
abbrev zX8_clear : mY := (yX8_clear, cX8_clear, 2, (some .int))
set_option maxRecDepth 100000 in
theorem wc_X8_clear : Cond.code yX8_clear cX8_clear 2 (some .int) ∈ mw := mw_tab 772 rfl rfl
theorem wy_X8_clear : mCy zX8_clear 0 := ⟨wc_X8_clear, w_init_X8, by decide +kernel, by decide +kernel, by decide +kernel⟩
abbrev zX8_desk : mY := (yX8_desk, cX8_desk, 2, (some .int))
set_option maxRecDepth 100000 in
theorem wc_X8_desk : Cond.code yX8_desk cX8_desk 2 (some .int) ∈ mw := mw_tab 776 rfl rfl
theorem wy_X8_desk : mCy zX8_desk 0 := ⟨wc_X8_desk, w_init_X8, by decide +kernel, by decide +kernel, by decide +kernel⟩
abbrev zX8_read : mY := (yX8_read, cX8_read, 2, none)
set_option maxRecDepth 100000 in
theorem wc_X8_read : Cond.code yX8_read cX8_read 2 none ∈ mw := mw_tab 780 rfl rfl
theorem wy_X8_read : mCy zX8_read 0 := ⟨wc_X8_read, w_init_X8, by decide +kernel, by decide +kernel, by decide +kernel⟩
abbrev zX8_step : mY := (yX8_step, cX8_step, 2, none)
set_option maxRecDepth 100000 in
theorem wc_X8_step : Cond.code yX8_step cX8_step 2 none ∈ mw := mw_tab 784 rfl rfl
theorem wy_X8_step : mCy zX8_step 0 := ⟨wc_X8_step, w_init_X8, by decide +kernel, by decide +kernel, by decide +kernel⟩
abbrev zX8_here : mY := (yX8_here, cX8_here, 1, (some .int))
set_option maxRecDepth 100000 in
theorem wc_X8_here : Cond.code yX8_here cX8_here 1 (some .int) ∈ mw := mw_tab 788 rfl rfl
theorem wy_X8_here : mCy zX8_here 0 := ⟨wc_X8_here, w_init_X8, by decide +kernel, by decide +kernel, by decide +kernel⟩
abbrev zX8_may : mY := (yX8_may, cX8_may, 2, (some .boolean))
set_option maxRecDepth 100000 in
theorem wc_X8_may : Cond.code yX8_may cX8_may 2 (some .boolean) ∈ mw := mw_tab 792 rfl rfl
theorem wy_X8_may : mCy zX8_may 1 := ⟨wc_X8_may, w_init_X8, by decide +kernel, by decide +kernel, by decide +kernel⟩
abbrev zX8_due : mY := (yX8_due, cX8_due, 2, none)
set_option maxRecDepth 100000 in
theorem wc_X8_due : Cond.code yX8_due cX8_due 2 none ∈ mw := mw_tab 796 rfl rfl
theorem wy_X8_due : mCy zX8_due 1 := ⟨wc_X8_due, w_init_X8, by decide +kernel, by decide +kernel, by decide +kernel⟩
abbrev zX8_item : mY := (yX8_item, cX8_item, 3, none)
set_option maxRecDepth 100000 in
theorem wc_X8_item : Cond.code yX8_item cX8_item 3 none ∈ mw := mw_tab 800 rfl rfl
theorem wy_X8_item : mCy zX8_item 1 := ⟨wc_X8_item, w_init_X8, by decide +kernel, by decide +kernel, by decide +kernel⟩
abbrev zX8_amount : mY := (yX8_amount, cX8_amount, 4, (some .int))
set_option maxRecDepth 100000 in
theorem wc_X8_amount : Cond.code yX8_amount cX8_amount 4 (some .int) ∈ mw := mw_tab 804 rfl rfl
theorem wy_X8_amount : mCy zX8_amount 2 := ⟨wc_X8_amount, w_init_X8, by decide +kernel, by decide +kernel, by decide +kernel⟩
abbrev zX8_power : mY := (yX8_power, cX8_power, 3, (some .int))
set_option maxRecDepth 100000 in
theorem wc_X8_power : Cond.code yX8_power cX8_power 3 (some .int) ∈ mw := mw_tab 807 rfl rfl
theorem wy_X8_power : mCy zX8_power 1 := ⟨wc_X8_power, w_init_X8, by decide +kernel, by decide +kernel, by decide +kernel⟩
abbrev zX8_side : mY := (yX8_side, cX8_side, 3, (some .int))
set_option maxRecDepth 100000 in
theorem wc_X8_side : Cond.code yX8_side cX8_side 3 (some .int) ∈ mw := mw_tab 811 rfl rfl
theorem wy_X8_side : mCy zX8_side 2 := ⟨wc_X8_side, w_init_X8, by decide +kernel, by decide +kernel, by decide +kernel⟩
abbrev zX8_isCube : mY := (yX8_isCube, cX8_isCube, 2, (some .boolean))
set_option maxRecDepth 100000 in
theorem wc_X8_isCube : Cond.code yX8_isCube cX8_isCube 2 (some .boolean) ∈ mw := mw_tab 815 rfl rfl
theorem wy_X8_isCube : mCy zX8_isCube 1 := ⟨wc_X8_isCube, w_init_X8, by decide +kernel, by decide +kernel, by decide +kernel⟩
abbrev zX8_isSide : mY := (yX8_isSide, cX8_isSide, 1, (some .boolean))
set_option maxRecDepth 100000 in
theorem wc_X8_isSide : Cond.code yX8_isSide cX8_isSide 1 (some .boolean) ∈ mw := mw_tab 818 rfl rfl
theorem wy_X8_isSide : mCy zX8_isSide 1 := ⟨wc_X8_isSide, w_init_X8, by decide +kernel, by decide +kernel, by decide +kernel⟩
abbrev zX8_cube : mY := (yX8_cube, cX8_cube, 3, (some .int))
set_option maxRecDepth 100000 in
theorem wc_X8_cube : Cond.code yX8_cube cX8_cube 3 (some .int) ∈ mw := mw_tab 822 rfl rfl
theorem wy_X8_cube : mCy zX8_cube 2 := ⟨wc_X8_cube, w_init_X8, by decide +kernel, by decide +kernel, by decide +kernel⟩
abbrev zX8_placeOf : mY := (yX8_placeOf, cX8_placeOf, 4, (some .int))
set_option maxRecDepth 100000 in
theorem wc_X8_placeOf : Cond.code yX8_placeOf cX8_placeOf 4 (some .int) ∈ mw := mw_tab 826 rfl rfl
theorem wy_X8_placeOf : mCy zX8_placeOf 1 := ⟨wc_X8_placeOf, w_init_X8, by decide +kernel, by decide +kernel, by decide +kernel⟩
abbrev zX8_figuresOf : mY := (yX8_figuresOf, cX8_figuresOf, 4, (some .int))
set_option maxRecDepth 100000 in
theorem wc_X8_figuresOf : Cond.code yX8_figuresOf cX8_figuresOf 4 (some .int) ∈ mw := mw_tab 830 rfl rfl
theorem wy_X8_figuresOf : mCy zX8_figuresOf 1 := ⟨wc_X8_figuresOf, w_init_X8, by decide +kernel, by decide +kernel, by decide +kernel⟩
abbrev zX8_neededOf : mY := (yX8_neededOf, cX8_neededOf, 7, (some .int))
set_option maxRecDepth 100000 in
theorem wc_X8_neededOf : Cond.code yX8_neededOf cX8_neededOf 7 (some .int) ∈ mw := mw_tab 834 rfl rfl
theorem wy_X8_neededOf : mCy zX8_neededOf 1 := ⟨wc_X8_neededOf, w_init_X8, by decide +kernel, by decide +kernel, by decide +kernel⟩
abbrev zX8_doneNow : mY := (yX8_doneNow, cX8_doneNow, 3, (some .int))
set_option maxRecDepth 100000 in
theorem wc_X8_doneNow : Cond.code yX8_doneNow cX8_doneNow 3 (some .int) ∈ mw := mw_tab 838 rfl rfl
theorem wy_X8_doneNow : mCy zX8_doneNow 0 := ⟨wc_X8_doneNow, w_init_X8, by decide +kernel, by decide +kernel, by decide +kernel⟩
abbrev zX8_can : mY := (yX8_can, cX8_can, 8, (some .boolean))
set_option maxRecDepth 100000 in
theorem wc_X8_can : Cond.code yX8_can cX8_can 8 (some .boolean) ∈ mw := mw_tab 842 rfl rfl
theorem wy_X8_can : mCy zX8_can 3 := ⟨wc_X8_can, w_init_X8, by decide +kernel, by decide +kernel, by decide +kernel⟩
abbrev zX8_figureOf : mY := (yX8_figureOf, cX8_figureOf, 3, (some .int))
set_option maxRecDepth 100000 in
theorem wc_X8_figureOf : Cond.code yX8_figureOf cX8_figureOf 3 (some .int) ∈ mw := mw_tab 846 rfl rfl
theorem wy_X8_figureOf : mCy zX8_figureOf 2 := ⟨wc_X8_figureOf, w_init_X8, by decide +kernel, by decide +kernel, by decide +kernel⟩
abbrev zX8_hasFit : mY := (yX8_hasFit, cX8_hasFit, 6, (some .boolean))
set_option maxRecDepth 100000 in
theorem wc_X8_hasFit : Cond.code yX8_hasFit cX8_hasFit 6 (some .boolean) ∈ mw := mw_tab 850 rfl rfl
theorem wy_X8_hasFit : mCy zX8_hasFit 3 := ⟨wc_X8_hasFit, w_init_X8, by decide +kernel, by decide +kernel, by decide +kernel⟩
abbrev zX8_fits : mY := (yX8_fits, cX8_fits, 3, (some .boolean))
set_option maxRecDepth 100000 in
theorem wc_X8_fits : Cond.code yX8_fits cX8_fits 3 (some .boolean) ∈ mw := mw_tab 854 rfl rfl
theorem wy_X8_fits : mCy zX8_fits 2 := ⟨wc_X8_fits, w_init_X8, by decide +kernel, by decide +kernel, by decide +kernel⟩
abbrev zX8_has : mY := (yX8_has, cX8_has, 2, (some .boolean))
set_option maxRecDepth 100000 in
theorem wc_X8_has : Cond.code yX8_has cX8_has 2 (some .boolean) ∈ mw := mw_tab 857 rfl rfl
theorem wy_X8_has : mCy zX8_has 2 := ⟨wc_X8_has, w_init_X8, by decide +kernel, by decide +kernel, by decide +kernel⟩
abbrev zX8_place : mY := (yX8_place, cX8_place, 2, (some .int))
set_option maxRecDepth 100000 in
theorem wc_X8_place : Cond.code yX8_place cX8_place 2 (some .int) ∈ mw := mw_tab 861 rfl rfl
theorem wy_X8_place : mCy zX8_place 1 := ⟨wc_X8_place, w_init_X8, by decide +kernel, by decide +kernel, by decide +kernel⟩
abbrev zX8_day : mY := (yX8_day, cX8_day, 2, (some .int))
set_option maxRecDepth 100000 in
theorem wc_X8_day : Cond.code yX8_day cX8_day 2 (some .int) ∈ mw := mw_tab 865 rfl rfl
theorem wy_X8_day : mCy zX8_day 1 := ⟨wc_X8_day, w_init_X8, by decide +kernel, by decide +kernel, by decide +kernel⟩
abbrev zX8_turn : mY := (yX8_turn, cX8_turn, 4, (some .int))
set_option maxRecDepth 100000 in
theorem wc_X8_turn : Cond.code yX8_turn cX8_turn 4 (some .int) ∈ mw := mw_tab 869 rfl rfl
theorem wy_X8_turn : mCy zX8_turn 2 := ⟨wc_X8_turn, w_init_X8, by decide +kernel, by decide +kernel, by decide +kernel⟩
abbrev zX8_know : mY := (yX8_know, cX8_know, 2, none)
set_option maxRecDepth 100000 in
theorem wc_X8_know : Cond.code yX8_know cX8_know 2 none ∈ mw := mw_tab 873 rfl rfl
theorem wy_X8_know : mCy zX8_know 0 := ⟨wc_X8_know, w_init_X8, by decide +kernel, by decide +kernel, by decide +kernel⟩
abbrev zX8_turnsTo : mY := (yX8_turnsTo, cX8_turnsTo, 2, (some .int))
set_option maxRecDepth 100000 in
theorem wc_X8_turnsTo : Cond.code yX8_turnsTo cX8_turnsTo 2 (some .int) ∈ mw := mw_tab 876 rfl rfl
theorem wy_X8_turnsTo : mCy zX8_turnsTo 2 := ⟨wc_X8_turnsTo, w_init_X8, by decide +kernel, by decide +kernel, by decide +kernel⟩
abbrev zX8_worked : mY := (yX8_worked, cX8_worked, 2, (some .int))
set_option maxRecDepth 100000 in
theorem wc_X8_worked : Cond.code yX8_worked cX8_worked 2 (some .int) ∈ mw := mw_tab 880 rfl rfl
theorem wy_X8_worked : mCy zX8_worked 1 := ⟨wc_X8_worked, w_init_X8, by decide +kernel, by decide +kernel, by decide +kernel⟩
abbrev zX8_changes : mY := (yX8_changes, cX8_changes, 4, (some .int))
set_option maxRecDepth 100000 in
theorem wc_X8_changes : Cond.code yX8_changes cX8_changes 4 (some .int) ∈ mw := mw_tab 884 rfl rfl
theorem wy_X8_changes : mCy zX8_changes 2 := ⟨wc_X8_changes, w_init_X8, by decide +kernel, by decide +kernel, by decide +kernel⟩
abbrev zX8_pastes : mY := (yX8_pastes, cX8_pastes, 5, (some .int))
set_option maxRecDepth 100000 in
theorem wc_X8_pastes : Cond.code yX8_pastes cX8_pastes 5 (some .int) ∈ mw := mw_tab 888 rfl rfl
theorem wy_X8_pastes : mCy zX8_pastes 3 := ⟨wc_X8_pastes, w_init_X8, by decide +kernel, by decide +kernel, by decide +kernel⟩
abbrev zX8_undo : mY := (yX8_undo, cX8_undo, 2, (some .int))
set_option maxRecDepth 100000 in
theorem wc_X8_undo : Cond.code yX8_undo cX8_undo 2 (some .int) ∈ mw := mw_tab 892 rfl rfl
theorem wy_X8_undo : mCy zX8_undo 0 := ⟨wc_X8_undo, w_init_X8, by decide +kernel, by decide +kernel, by decide +kernel⟩
abbrev zX8_now : mY := (yX8_now, cX8_now, 4, (some .int))
set_option maxRecDepth 100000 in
theorem wc_X8_now : Cond.code yX8_now cX8_now 4 (some .int) ∈ mw := mw_tab 896 rfl rfl
theorem wy_X8_now : mCy zX8_now 1 := ⟨wc_X8_now, w_init_X8, by decide +kernel, by decide +kernel, by decide +kernel⟩
abbrev zX8_inFront : mY := (yX8_inFront, cX8_inFront, 2, (some .int))
set_option maxRecDepth 100000 in
theorem wc_X8_inFront : Cond.code yX8_inFront cX8_inFront 2 (some .int) ∈ mw := mw_tab 900 rfl rfl
theorem wy_X8_inFront : mCy zX8_inFront 1 := ⟨wc_X8_inFront, w_init_X8, by decide +kernel, by decide +kernel, by decide +kernel⟩
abbrev zX8_number : mY := (yX8_number, cX8_number, 3, (some .int))
set_option maxRecDepth 100000 in
theorem wc_X8_number : Cond.code yX8_number cX8_number 3 (some .int) ∈ mw := mw_tab 904 rfl rfl
theorem wy_X8_number : mCy zX8_number 2 := ⟨wc_X8_number, w_init_X8, by decide +kernel, by decide +kernel, by decide +kernel⟩
abbrev zX8_isNumber : mY := (yX8_isNumber, cX8_isNumber, 2, (some .boolean))
set_option maxRecDepth 100000 in
theorem wc_X8_isNumber : Cond.code yX8_isNumber cX8_isNumber 2 (some .boolean) ∈ mw := mw_tab 908 rfl rfl
theorem wy_X8_isNumber : mCy zX8_isNumber 1 := ⟨wc_X8_isNumber, w_init_X8, by decide +kernel, by decide +kernel, by decide +kernel⟩
abbrev zX8_isTold : mY := (yX8_isTold, cX8_isTold, 4, (some .boolean))
set_option maxRecDepth 100000 in
theorem wc_X8_isTold : Cond.code yX8_isTold cX8_isTold 4 (some .boolean) ∈ mw := mw_tab 912 rfl rfl
theorem wy_X8_isTold : mCy zX8_isTold 1 := ⟨wc_X8_isTold, w_init_X8, by decide +kernel, by decide +kernel, by decide +kernel⟩
abbrev zX8_workFor : mY := (yX8_workFor, cX8_workFor, 12, (some .int))
set_option maxRecDepth 100000 in
theorem wc_X8_workFor : Cond.code yX8_workFor cX8_workFor 12 (some .int) ∈ mw := mw_tab 916 rfl rfl
theorem wy_X8_workFor : mCy zX8_workFor 2 := ⟨wc_X8_workFor, w_init_X8, by decide +kernel, by decide +kernel, by decide +kernel⟩
abbrev zX8_tellTurns : mY := (yX8_tellTurns, cX8_tellTurns, 10, none)
set_option maxRecDepth 100000 in
theorem wc_X8_tellTurns : Cond.code yX8_tellTurns cX8_tellTurns 10 none ∈ mw := mw_tab 920 rfl rfl
theorem wy_X8_tellTurns : mCy zX8_tellTurns 2 := ⟨wc_X8_tellTurns, w_init_X8, by decide +kernel, by decide +kernel, by decide +kernel⟩
abbrev zX8_turnsFor : mY := (yX8_turnsFor, cX8_turnsFor, 13, (some .int))
set_option maxRecDepth 100000 in
theorem wc_X8_turnsFor : Cond.code yX8_turnsFor cX8_turnsFor 13 (some .int) ∈ mw := mw_tab 924 rfl rfl
theorem wy_X8_turnsFor : mCy zX8_turnsFor 5 := ⟨wc_X8_turnsFor, w_init_X8, by decide +kernel, by decide +kernel, by decide +kernel⟩
abbrev zX8_orderNow : mY := (yX8_orderNow, cX8_orderNow, 3, (some .int))
set_option maxRecDepth 100000 in
theorem wc_X8_orderNow : Cond.code yX8_orderNow cX8_orderNow 3 (some .int) ∈ mw := mw_tab 929 rfl rfl
theorem wy_X8_orderNow : mCy zX8_orderNow 0 := ⟨wc_X8_orderNow, w_init_X8, by decide +kernel, by decide +kernel, by decide +kernel⟩
abbrev zX8_changesTo : mY := (yX8_changesTo, cX8_changesTo, 10, (some .int))
set_option maxRecDepth 100000 in
theorem wc_X8_changesTo : Cond.code yX8_changesTo cX8_changesTo 10 (some .int) ∈ mw := mw_tab 933 rfl rfl
theorem wy_X8_changesTo : mCy zX8_changesTo 2 := ⟨wc_X8_changesTo, w_init_X8, by decide +kernel, by decide +kernel, by decide +kernel⟩
abbrev zX8_workBy : mY := (yX8_workBy, cX8_workBy, 6, (some .int))
set_option maxRecDepth 100000 in
theorem wc_X8_workBy : Cond.code yX8_workBy cX8_workBy 6 (some .int) ∈ mw := mw_tab 937 rfl rfl
theorem wy_X8_workBy : mCy zX8_workBy 3 := ⟨wc_X8_workBy, w_init_X8, by decide +kernel, by decide +kernel, by decide +kernel⟩
abbrev zX8_placeIn : mY := (yX8_placeIn, cX8_placeIn, 5, (some .int))
set_option maxRecDepth 100000 in
theorem wc_X8_placeIn : Cond.code yX8_placeIn cX8_placeIn 5 (some .int) ∈ mw := mw_tab 941 rfl rfl
theorem wy_X8_placeIn : mCy zX8_placeIn 2 := ⟨wc_X8_placeIn, w_init_X8, by decide +kernel, by decide +kernel, by decide +kernel⟩
abbrev zX8_pastesFor : mY := (yX8_pastesFor, cX8_pastesFor, 6, (some .int))
set_option maxRecDepth 100000 in
theorem wc_X8_pastesFor : Cond.code yX8_pastesFor cX8_pastesFor 6 (some .int) ∈ mw := mw_tab 945 rfl rfl
theorem wy_X8_pastesFor : mCy zX8_pastesFor 1 := ⟨wc_X8_pastesFor, w_init_X8, by decide +kernel, by decide +kernel, by decide +kernel⟩
abbrev zX8_through : mY := (yX8_through, cX8_through, 3, (some .int))
set_option maxRecDepth 100000 in
theorem wc_X8_through : Cond.code yX8_through cX8_through 3 (some .int) ∈ mw := mw_tab 949 rfl rfl
theorem wy_X8_through : mCy zX8_through 2 := ⟨wc_X8_through, w_init_X8, by decide +kernel, by decide +kernel, by decide +kernel⟩
abbrev zX8_odds : mY := (yX8_odds, cX8_odds, 8, (some .int))
set_option maxRecDepth 100000 in
theorem wc_X8_odds : Cond.code yX8_odds cX8_odds 8 (some .int) ∈ mw := mw_tab 953 rfl rfl
theorem wy_X8_odds : mCy zX8_odds 2 := ⟨wc_X8_odds, w_init_X8, by decide +kernel, by decide +kernel, by decide +kernel⟩
abbrev zX8_isBy : mY := (yX8_isBy, cX8_isBy, 9, (some .boolean))
set_option maxRecDepth 100000 in
theorem wc_X8_isBy : Cond.code yX8_isBy cX8_isBy 9 (some .boolean) ∈ mw := mw_tab 957 rfl rfl
theorem wy_X8_isBy : mCy zX8_isBy 2 := ⟨wc_X8_isBy, w_init_X8, by decide +kernel, by decide +kernel, by decide +kernel⟩
abbrev zX8_sees : mY := (yX8_sees, cX8_sees, 3, (some .int))
set_option maxRecDepth 100000 in
theorem wc_X8_sees : Cond.code yX8_sees cX8_sees 3 (some .int) ∈ mw := mw_tab 961 rfl rfl
theorem wy_X8_sees : mCy zX8_sees 2 := ⟨wc_X8_sees, w_init_X8, by decide +kernel, by decide +kernel, by decide +kernel⟩
abbrev zX8_forget : mY := (yX8_forget, cX8_forget, 2, (some .int))
set_option maxRecDepth 100000 in
theorem wc_X8_forget : Cond.code yX8_forget cX8_forget 2 (some .int) ∈ mw := mw_tab 965 rfl rfl
theorem wy_X8_forget : mCy zX8_forget 0 := ⟨wc_X8_forget, w_init_X8, by decide +kernel, by decide +kernel, by decide +kernel⟩
abbrev zX8_which : mY := (yX8_which, cX8_which, 5, (some .int))
set_option maxRecDepth 100000 in
theorem wc_X8_which : Cond.code yX8_which cX8_which 5 (some .int) ∈ mw := mw_tab 969 rfl rfl
theorem wy_X8_which : mCy zX8_which 0 := ⟨wc_X8_which, w_init_X8, by decide +kernel, by decide +kernel, by decide +kernel⟩
abbrev zX8_look : mY := (yX8_look, cX8_look, 8, (some .int))
set_option maxRecDepth 100000 in
theorem wc_X8_look : Cond.code yX8_look cX8_look 8 (some .int) ∈ mw := mw_tab 973 rfl rfl
theorem wy_X8_look : mCy zX8_look 0 := ⟨wc_X8_look, w_init_X8, by decide +kernel, by decide +kernel, by decide +kernel⟩
abbrev zX8_bitsOf : mY := (yX8_bitsOf, cX8_bitsOf, 3, (some .int))
set_option maxRecDepth 100000 in
theorem wc_X8_bitsOf : Cond.code yX8_bitsOf cX8_bitsOf 3 (some .int) ∈ mw := mw_tab 977 rfl rfl
theorem wy_X8_bitsOf : mCy zX8_bitsOf 1 := ⟨wc_X8_bitsOf, w_init_X8, by decide +kernel, by decide +kernel, by decide +kernel⟩
abbrev zX8_mark : mY := (yX8_mark, cX8_mark, 7, (some .int))
set_option maxRecDepth 100000 in
theorem wc_X8_mark : Cond.code yX8_mark cX8_mark 7 (some .int) ∈ mw := mw_tab 981 rfl rfl
theorem wy_X8_mark : mCy zX8_mark 2 := ⟨wc_X8_mark, w_init_X8, by decide +kernel, by decide +kernel, by decide +kernel⟩
abbrev zX8_bodiesOf : mY := (yX8_bodiesOf, cX8_bodiesOf, 1, (some .int))
set_option maxRecDepth 100000 in
theorem wc_X8_bodiesOf : Cond.code yX8_bodiesOf cX8_bodiesOf 1 (some .int) ∈ mw := mw_tab 985 rfl rfl
theorem wy_X8_bodiesOf : mCy zX8_bodiesOf 1 := ⟨wc_X8_bodiesOf, w_init_X8, by decide +kernel, by decide +kernel, by decide +kernel⟩
abbrev zX8_trace : mY := (yX8_trace, cX8_trace, 1, (some .long))
set_option maxRecDepth 100000 in
theorem wc_X8_trace : Cond.code yX8_trace cX8_trace 1 (some .long) ∈ mw := mw_tab 990 rfl rfl
theorem wy_X8_trace : mCy zX8_trace 0 := ⟨wc_X8_trace, w_init_X8, by decide +kernel, by decide +kernel, by decide +kernel⟩
abbrev zX8_keep : mY := (yX8_keep, cX8_keep, 3, (some .int))
set_option maxRecDepth 100000 in
theorem wc_X8_keep : Cond.code yX8_keep cX8_keep 3 (some .int) ∈ mw := mw_tab 994 rfl rfl
theorem wy_X8_keep : mCy zX8_keep 1 := ⟨wc_X8_keep, w_init_X8, by decide +kernel, by decide +kernel, by decide +kernel⟩
abbrev zX8_back : mY := (yX8_back, cX8_back, 3, (some .int))
set_option maxRecDepth 100000 in
theorem wc_X8_back : Cond.code yX8_back cX8_back 3 (some .int) ∈ mw := mw_tab 998 rfl rfl
theorem wy_X8_back : mCy zX8_back 1 := ⟨wc_X8_back, w_init_X8, by decide +kernel, by decide +kernel, by decide +kernel⟩
abbrev zX8_count : mY := (yX8_count, cX8_count, 2, (some .int))
set_option maxRecDepth 100000 in
theorem wc_X8_count : Cond.code yX8_count cX8_count 2 (some .int) ∈ mw := mw_tab 1002 rfl rfl
theorem wy_X8_count : mCy zX8_count 1 := ⟨wc_X8_count, w_init_X8, by decide +kernel, by decide +kernel, by decide +kernel⟩
theorem wf_X0_0 : u_lay RX0 TX0 0 ∈ mw := mw_tab 212 (by decide +kernel) rfl
theorem wf_X0_1 : u_lay RX0 TX0 1 ∈ mw := mw_tab 214 (by decide +kernel) rfl
theorem wf_X0_2 : u_lay RX0 TX0 2 ∈ mw := mw_tab 216 (by decide +kernel) rfl
theorem wf_X0_3 : u_lay RX0 TX0 3 ∈ mw := mw_tab 218 (by decide +kernel) rfl
theorem wf_X0_4 : u_lay RX0 TX0 4 ∈ mw := mw_tab 220 (by decide +kernel) rfl
theorem wi_X0 : ∀ w ∈ u_ws RX0 TX0 5, w ∈ mw := by
  intro w hw
  obtain ⟨k, hk, rfl⟩ := List.mem_map.mp hw
  have hk := List.mem_range.mp hk
  match k, hk with
  | 0, _ => exact wf_X0_0
  | 1, _ => exact wf_X0_1
  | 2, _ => exact wf_X0_2
  | 3, _ => exact wf_X0_3
  | 4, _ => exact wf_X0_4
  | k + 5, hk => exact absurd hk (by omega)
theorem wf_X1_0 : u_lay RX1 TX1 0 ∈ mw := mw_tab 35 (by decide +kernel) rfl
theorem wf_X1_1 : u_lay RX1 TX1 1 ∈ mw := mw_tab 37 (by decide +kernel) rfl
theorem wf_X1_2 : u_lay RX1 TX1 2 ∈ mw := mw_tab 39 (by decide +kernel) rfl
theorem wf_X1_3 : u_lay RX1 TX1 3 ∈ mw := mw_tab 41 (by decide +kernel) rfl
theorem wf_X1_4 : u_lay RX1 TX1 4 ∈ mw := mw_tab 43 (by decide +kernel) rfl
theorem wf_X1_5 : u_lay RX1 TX1 5 ∈ mw := mw_tab 45 (by decide +kernel) rfl
theorem wi_X1 : ∀ w ∈ u_ws RX1 TX1 6, w ∈ mw := by
  intro w hw
  obtain ⟨k, hk, rfl⟩ := List.mem_map.mp hw
  have hk := List.mem_range.mp hk
  match k, hk with
  | 0, _ => exact wf_X1_0
  | 1, _ => exact wf_X1_1
  | 2, _ => exact wf_X1_2
  | 3, _ => exact wf_X1_3
  | 4, _ => exact wf_X1_4
  | 5, _ => exact wf_X1_5
  | k + 6, hk => exact absurd hk (by omega)
theorem wf_X2_0 : u_lay RX2 TX2 0 ∈ mw := mw_tab 138 (by decide +kernel) rfl
theorem wf_X2_1 : u_lay RX2 TX2 1 ∈ mw := mw_tab 140 (by decide +kernel) rfl
theorem wf_X2_2 : u_lay RX2 TX2 2 ∈ mw := mw_tab 142 (by decide +kernel) rfl
theorem wi_X2 : ∀ w ∈ u_ws RX2 TX2 3, w ∈ mw := by
  intro w hw
  obtain ⟨k, hk, rfl⟩ := List.mem_map.mp hw
  have hk := List.mem_range.mp hk
  match k, hk with
  | 0, _ => exact wf_X2_0
  | 1, _ => exact wf_X2_1
  | 2, _ => exact wf_X2_2
  | k + 3, hk => exact absurd hk (by omega)
theorem wf_X3_0 : u_lay RX3 TX3 0 ∈ mw := mw_tab 114 (by decide +kernel) rfl
theorem wf_X3_1 : u_lay RX3 TX3 1 ∈ mw := mw_tab 116 (by decide +kernel) rfl
theorem wf_X3_2 : u_lay RX3 TX3 2 ∈ mw := mw_tab 118 (by decide +kernel) rfl
theorem wf_X3_3 : u_lay RX3 TX3 3 ∈ mw := mw_tab 120 (by decide +kernel) rfl
theorem wf_X3_4 : u_lay RX3 TX3 4 ∈ mw := mw_tab 122 (by decide +kernel) rfl
theorem wf_X3_5 : u_lay RX3 TX3 5 ∈ mw := mw_tab 124 (by decide +kernel) rfl
theorem wi_X3 : ∀ w ∈ u_ws RX3 TX3 6, w ∈ mw := by
  intro w hw
  obtain ⟨k, hk, rfl⟩ := List.mem_map.mp hw
  have hk := List.mem_range.mp hk
  match k, hk with
  | 0, _ => exact wf_X3_0
  | 1, _ => exact wf_X3_1
  | 2, _ => exact wf_X3_2
  | 3, _ => exact wf_X3_3
  | 4, _ => exact wf_X3_4
  | 5, _ => exact wf_X3_5
  | k + 6, hk => exact absurd hk (by omega)
theorem wf_X4_0 : u_lay RX4 TX4 0 ∈ mw := mw_tab 154 (by decide +kernel) rfl
theorem wf_X4_1 : u_lay RX4 TX4 1 ∈ mw := mw_tab 156 (by decide +kernel) rfl
theorem wi_X4 : ∀ w ∈ u_ws RX4 TX4 2, w ∈ mw := by
  intro w hw
  obtain ⟨k, hk, rfl⟩ := List.mem_map.mp hw
  have hk := List.mem_range.mp hk
  match k, hk with
  | 0, _ => exact wf_X4_0
  | 1, _ => exact wf_X4_1
  | k + 2, hk => exact absurd hk (by omega)
theorem wf_X5_0 : u_lay RX5 TX5 0 ∈ mw := mw_tab 79 (by decide +kernel) rfl
theorem wf_X5_1 : u_lay RX5 TX5 1 ∈ mw := mw_tab 81 (by decide +kernel) rfl
theorem wf_X5_2 : u_lay RX5 TX5 2 ∈ mw := mw_tab 83 (by decide +kernel) rfl
theorem wf_X5_3 : u_lay RX5 TX5 3 ∈ mw := mw_tab 85 (by decide +kernel) rfl
theorem wf_X5_4 : u_lay RX5 TX5 4 ∈ mw := mw_tab 87 (by decide +kernel) rfl
theorem wf_X5_5 : u_lay RX5 TX5 5 ∈ mw := mw_tab 89 (by decide +kernel) rfl
theorem wi_X5 : ∀ w ∈ u_ws RX5 TX5 6, w ∈ mw := by
  intro w hw
  obtain ⟨k, hk, rfl⟩ := List.mem_map.mp hw
  have hk := List.mem_range.mp hk
  match k, hk with
  | 0, _ => exact wf_X5_0
  | 1, _ => exact wf_X5_1
  | 2, _ => exact wf_X5_2
  | 3, _ => exact wf_X5_3
  | 4, _ => exact wf_X5_4
  | 5, _ => exact wf_X5_5
  | k + 6, hk => exact absurd hk (by omega)
theorem wf_X6_0 : u_lay RX6 TX6 0 ∈ mw := mw_tab 176 (by decide +kernel) rfl
theorem wf_X6_1 : u_lay RX6 TX6 1 ∈ mw := mw_tab 178 (by decide +kernel) rfl
theorem wf_X6_2 : u_lay RX6 TX6 2 ∈ mw := mw_tab 180 (by decide +kernel) rfl
theorem wf_X6_3 : u_lay RX6 TX6 3 ∈ mw := mw_tab 182 (by decide +kernel) rfl
theorem wf_X6_4 : u_lay RX6 TX6 4 ∈ mw := mw_tab 184 (by decide +kernel) rfl
theorem wf_X6_5 : u_lay RX6 TX6 5 ∈ mw := mw_tab 186 (by decide +kernel) rfl
theorem wf_X6_6 : u_lay RX6 TX6 6 ∈ mw := mw_tab 188 (by decide +kernel) rfl
theorem wf_X6_7 : u_lay RX6 TX6 7 ∈ mw := mw_tab 190 (by decide +kernel) rfl
theorem wf_X6_8 : u_lay RX6 TX6 8 ∈ mw := mw_tab 192 (by decide +kernel) rfl
theorem wf_X6_9 : u_lay RX6 TX6 9 ∈ mw := mw_tab 194 (by decide +kernel) rfl
theorem wf_X6_10 : u_lay RX6 TX6 10 ∈ mw := mw_tab 196 (by decide +kernel) rfl
theorem wi_X6 : ∀ w ∈ u_ws RX6 TX6 11, w ∈ mw := by
  intro w hw
  obtain ⟨k, hk, rfl⟩ := List.mem_map.mp hw
  have hk := List.mem_range.mp hk
  match k, hk with
  | 0, _ => exact wf_X6_0
  | 1, _ => exact wf_X6_1
  | 2, _ => exact wf_X6_2
  | 3, _ => exact wf_X6_3
  | 4, _ => exact wf_X6_4
  | 5, _ => exact wf_X6_5
  | 6, _ => exact wf_X6_6
  | 7, _ => exact wf_X6_7
  | 8, _ => exact wf_X6_8
  | 9, _ => exact wf_X6_9
  | 10, _ => exact wf_X6_10
  | k + 11, hk => exact absurd hk (by omega)
theorem wf_X7_0 : u_lay RX7 TX7 0 ∈ mw := mw_tab 234 (by decide +kernel) rfl
theorem wf_X7_1 : u_lay RX7 TX7 1 ∈ mw := mw_tab 236 (by decide +kernel) rfl
theorem wf_X7_2 : u_lay RX7 TX7 2 ∈ mw := mw_tab 238 (by decide +kernel) rfl
theorem wf_X7_3 : u_lay RX7 TX7 3 ∈ mw := mw_tab 240 (by decide +kernel) rfl
theorem wf_X7_4 : u_lay RX7 TX7 4 ∈ mw := mw_tab 242 (by decide +kernel) rfl
theorem wf_X7_5 : u_lay RX7 TX7 5 ∈ mw := mw_tab 244 (by decide +kernel) rfl
theorem wf_X7_6 : u_lay RX7 TX7 6 ∈ mw := mw_tab 246 (by decide +kernel) rfl
theorem wf_X7_7 : u_lay RX7 TX7 7 ∈ mw := mw_tab 248 (by decide +kernel) rfl
theorem wf_X7_8 : u_lay RX7 TX7 8 ∈ mw := mw_tab 250 (by decide +kernel) rfl
theorem wf_X7_9 : u_lay RX7 TX7 9 ∈ mw := mw_tab 252 (by decide +kernel) rfl
theorem wf_X7_10 : u_lay RX7 TX7 10 ∈ mw := mw_tab 254 (by decide +kernel) rfl
theorem wi_X7 : ∀ w ∈ u_ws RX7 TX7 11, w ∈ mw := by
  intro w hw
  obtain ⟨k, hk, rfl⟩ := List.mem_map.mp hw
  have hk := List.mem_range.mp hk
  match k, hk with
  | 0, _ => exact wf_X7_0
  | 1, _ => exact wf_X7_1
  | 2, _ => exact wf_X7_2
  | 3, _ => exact wf_X7_3
  | 4, _ => exact wf_X7_4
  | 5, _ => exact wf_X7_5
  | 6, _ => exact wf_X7_6
  | 7, _ => exact wf_X7_7
  | 8, _ => exact wf_X7_8
  | 9, _ => exact wf_X7_9
  | 10, _ => exact wf_X7_10
  | k + 11, hk => exact absurd hk (by omega)
theorem wf_X8_0 : u_lay RX8 TX8 0 ∈ mw := mw_tab 710 (by decide +kernel) rfl
theorem wf_X8_1 : u_lay RX8 TX8 1 ∈ mw := mw_tab 712 (by decide +kernel) rfl
theorem wf_X8_2 : u_lay RX8 TX8 2 ∈ mw := mw_tab 714 (by decide +kernel) rfl
theorem wf_X8_3 : u_lay RX8 TX8 3 ∈ mw := mw_tab 716 (by decide +kernel) rfl
theorem wf_X8_4 : u_lay RX8 TX8 4 ∈ mw := mw_tab 718 (by decide +kernel) rfl
theorem wf_X8_5 : u_lay RX8 TX8 5 ∈ mw := mw_tab 720 (by decide +kernel) rfl
theorem wf_X8_6 : u_lay RX8 TX8 6 ∈ mw := mw_tab 722 (by decide +kernel) rfl
theorem wf_X8_7 : u_lay RX8 TX8 7 ∈ mw := mw_tab 724 (by decide +kernel) rfl
theorem wf_X8_8 : u_lay RX8 TX8 8 ∈ mw := mw_tab 726 (by decide +kernel) rfl
theorem wf_X8_9 : u_lay RX8 TX8 9 ∈ mw := mw_tab 728 (by decide +kernel) rfl
theorem wf_X8_10 : u_lay RX8 TX8 10 ∈ mw := mw_tab 730 (by decide +kernel) rfl
theorem wf_X8_11 : u_lay RX8 TX8 11 ∈ mw := mw_tab 732 (by decide +kernel) rfl
theorem wf_X8_12 : u_lay RX8 TX8 12 ∈ mw := mw_tab 734 (by decide +kernel) rfl
theorem wf_X8_13 : u_lay RX8 TX8 13 ∈ mw := mw_tab 736 (by decide +kernel) rfl
theorem wf_X8_14 : u_lay RX8 TX8 14 ∈ mw := mw_tab 738 (by decide +kernel) rfl
theorem wf_X8_15 : u_lay RX8 TX8 15 ∈ mw := mw_tab 740 (by decide +kernel) rfl
theorem wf_X8_16 : u_lay RX8 TX8 16 ∈ mw := mw_tab 742 (by decide +kernel) rfl
theorem wf_X8_17 : u_lay RX8 TX8 17 ∈ mw := mw_tab 744 (by decide +kernel) rfl
theorem wf_X8_18 : u_lay RX8 TX8 18 ∈ mw := mw_tab 746 (by decide +kernel) rfl
theorem wf_X8_19 : u_lay RX8 TX8 19 ∈ mw := mw_tab 748 (by decide +kernel) rfl
theorem wf_X8_20 : u_lay RX8 TX8 20 ∈ mw := mw_tab 750 (by decide +kernel) rfl
theorem wf_X8_21 : u_lay RX8 TX8 21 ∈ mw := mw_tab 752 (by decide +kernel) rfl
theorem wf_X8_22 : u_lay RX8 TX8 22 ∈ mw := mw_tab 754 (by decide +kernel) rfl
theorem wf_X8_23 : u_lay RX8 TX8 23 ∈ mw := mw_tab 756 (by decide +kernel) rfl
theorem wf_X8_24 : u_lay RX8 TX8 24 ∈ mw := mw_tab 758 (by decide +kernel) rfl
theorem wi_X8 : ∀ w ∈ u_ws RX8 TX8 25, w ∈ mw := by
  intro w hw
  obtain ⟨k, hk, rfl⟩ := List.mem_map.mp hw
  have hk := List.mem_range.mp hk
  match k, hk with
  | 0, _ => exact wf_X8_0
  | 1, _ => exact wf_X8_1
  | 2, _ => exact wf_X8_2
  | 3, _ => exact wf_X8_3
  | 4, _ => exact wf_X8_4
  | 5, _ => exact wf_X8_5
  | 6, _ => exact wf_X8_6
  | 7, _ => exact wf_X8_7
  | 8, _ => exact wf_X8_8
  | 9, _ => exact wf_X8_9
  | 10, _ => exact wf_X8_10
  | 11, _ => exact wf_X8_11
  | 12, _ => exact wf_X8_12
  | 13, _ => exact wf_X8_13
  | 14, _ => exact wf_X8_14
  | 15, _ => exact wf_X8_15
  | 16, _ => exact wf_X8_16
  | 17, _ => exact wf_X8_17
  | 18, _ => exact wf_X8_18
  | 19, _ => exact wf_X8_19
  | 20, _ => exact wf_X8_20
  | 21, _ => exact wf_X8_21
  | 22, _ => exact wf_X8_22
  | 23, _ => exact wf_X8_23
  | 24, _ => exact wf_X8_24
  | k + 25, hk => exact absurd hk (by omega)
theorem wl_X1_9 : Cond.fieldLink RX1 9 (TX1 0).1 (TX1 0).2.1 (TX1 0).2.2.1 ∈ mw := mw_tab 28 (by decide +kernel) rfl
theorem fX1_9 : mFd RX1 9 1 0 := ⟨_, _, _, rfl, wi_X1, by decide, wl_X1_9⟩
theorem pX1_9 : mPd RX1 9 1 0 (.array .int) true := ⟨_, _, _, tyX1, rfl, wi_X1, by decide, wl_X1_9, tyX1_ok, nmX1, rfl, rfl, fun _ => by decide +kernel⟩
theorem wl_X1_15 : Cond.fieldLink RX1 15 (TX1 1).1 (TX1 1).2.1 (TX1 1).2.2.1 ∈ mw := mw_tab 29 (by decide +kernel) rfl
theorem fX1_15 : mFd RX1 15 1 1 := ⟨_, _, _, rfl, wi_X1, by decide, wl_X1_15⟩
theorem pX1_15 : mPd RX1 15 1 1 .int false := ⟨_, _, _, tyX1, rfl, wi_X1, by decide, wl_X1_15, tyX1_ok, nmX1, rfl, rfl, fun q => by cases q⟩
theorem wl_X7_69 : Cond.fieldLink RX7 69 (TX1 1).1 (TX1 1).2.1 (TX1 1).2.2.1 ∈ mw := mw_tab 30 (by decide +kernel) rfl
theorem fX7_69 : mFd RX7 69 1 1 := ⟨_, _, _, rfl, wi_X1, by decide, wl_X7_69⟩
theorem pX7_69 : mPd RX7 69 1 1 .int false := ⟨_, _, _, tyX1, rfl, wi_X1, by decide, wl_X7_69, tyX1_ok, nmX1, rfl, rfl, fun q => by cases q⟩
theorem wl_X1_24 : Cond.fieldLink RX1 24 (TX1 2).1 (TX1 2).2.1 (TX1 2).2.2.1 ∈ mw := mw_tab 31 (by decide +kernel) rfl
theorem fX1_24 : mFd RX1 24 1 2 := ⟨_, _, _, rfl, wi_X1, by decide, wl_X1_24⟩
theorem pX1_24 : mPd RX1 24 1 2 .int false := ⟨_, _, _, tyX1, rfl, wi_X1, by decide, wl_X1_24, tyX1_ok, nmX1, rfl, rfl, fun q => by cases q⟩
theorem wl_X1_30 : Cond.fieldLink RX1 30 (TX1 3).1 (TX1 3).2.1 (TX1 3).2.2.1 ∈ mw := mw_tab 32 (by decide +kernel) rfl
theorem fX1_30 : mFd RX1 30 1 3 := ⟨_, _, _, rfl, wi_X1, by decide, wl_X1_30⟩
theorem pX1_30 : mPd RX1 30 1 3 .int false := ⟨_, _, _, tyX1, rfl, wi_X1, by decide, wl_X1_30, tyX1_ok, nmX1, rfl, rfl, fun q => by cases q⟩
theorem wl_X1_37 : Cond.fieldLink RX1 37 (TX1 4).1 (TX1 4).2.1 (TX1 4).2.2.1 ∈ mw := mw_tab 33 (by decide +kernel) rfl
theorem fX1_37 : mFd RX1 37 1 4 := ⟨_, _, _, rfl, wi_X1, by decide, wl_X1_37⟩
theorem pX1_37 : mPd RX1 37 1 4 .int false := ⟨_, _, _, tyX1, rfl, wi_X1, by decide, wl_X1_37, tyX1_ok, nmX1, rfl, rfl, fun q => by cases q⟩
theorem wl_X1_43 : Cond.fieldLink RX1 43 (TX1 5).1 (TX1 5).2.1 (TX1 5).2.2.1 ∈ mw := mw_tab 34 (by decide +kernel) rfl
theorem fX1_43 : mFd RX1 43 1 5 := ⟨_, _, _, rfl, wi_X1, by decide, wl_X1_43⟩
theorem pX1_43 : mPd RX1 43 1 5 .int false := ⟨_, _, _, tyX1, rfl, wi_X1, by decide, wl_X1_43, tyX1_ok, nmX1, rfl, rfl, fun q => by cases q⟩
theorem wl_X5_9 : Cond.fieldLink RX5 9 (TX5 0).1 (TX5 0).2.1 (TX5 0).2.2.1 ∈ mw := mw_tab 55 (by decide +kernel) rfl
theorem fX5_9 : mFd RX5 9 5 0 := ⟨_, _, _, rfl, wi_X5, by decide, wl_X5_9⟩
theorem pX5_9 : mPd RX5 9 5 0 (.array .int) true := ⟨_, _, _, tyX5, rfl, wi_X5, by decide, wl_X5_9, tyX5_ok, nmX5, rfl, rfl, fun _ => by decide +kernel⟩
theorem wl_X3_24 : Cond.fieldLink RX3 24 (TX5 0).1 (TX5 0).2.1 (TX5 0).2.2.1 ∈ mw := mw_tab 56 (by decide +kernel) rfl
theorem fX3_24 : mFd RX3 24 5 0 := ⟨_, _, _, rfl, wi_X5, by decide, wl_X3_24⟩
theorem wl_X1_66 : Cond.fieldLink RX1 66 (TX5 0).1 (TX5 0).2.1 (TX5 0).2.2.1 ∈ mw := mw_tab 57 (by decide +kernel) rfl
theorem fX1_66 : mFd RX1 66 5 0 := ⟨_, _, _, rfl, wi_X5, by decide, wl_X1_66⟩
theorem wl_X5_15 : Cond.fieldLink RX5 15 (TX5 1).1 (TX5 1).2.1 (TX5 1).2.2.1 ∈ mw := mw_tab 58 (by decide +kernel) rfl
theorem fX5_15 : mFd RX5 15 5 1 := ⟨_, _, _, rfl, wi_X5, by decide, wl_X5_15⟩
theorem pX5_15 : mPd RX5 15 5 1 (.array .int) true := ⟨_, _, _, tyX5, rfl, wi_X5, by decide, wl_X5_15, tyX5_ok, nmX5, rfl, rfl, fun _ => by decide +kernel⟩
theorem wl_X4_44 : Cond.fieldLink RX4 44 (TX5 1).1 (TX5 1).2.1 (TX5 1).2.2.1 ∈ mw := mw_tab 59 (by decide +kernel) rfl
theorem fX4_44 : mFd RX4 44 5 1 := ⟨_, _, _, rfl, wi_X5, by decide, wl_X4_44⟩
theorem wl_X1_76 : Cond.fieldLink RX1 76 (TX5 1).1 (TX5 1).2.1 (TX5 1).2.2.1 ∈ mw := mw_tab 60 (by decide +kernel) rfl
theorem fX1_76 : mFd RX1 76 5 1 := ⟨_, _, _, rfl, wi_X5, by decide, wl_X1_76⟩
theorem wl_X7_127 : Cond.fieldLink RX7 127 (TX5 1).1 (TX5 1).2.1 (TX5 1).2.2.1 ∈ mw := mw_tab 61 (by decide +kernel) rfl
theorem fX7_127 : mFd RX7 127 5 1 := ⟨_, _, _, rfl, wi_X5, by decide, wl_X7_127⟩
theorem wl_X5_18 : Cond.fieldLink RX5 18 (TX5 2).1 (TX5 2).2.1 (TX5 2).2.2.1 ∈ mw := mw_tab 62 (by decide +kernel) rfl
theorem fX5_18 : mFd RX5 18 5 2 := ⟨_, _, _, rfl, wi_X5, by decide, wl_X5_18⟩
theorem pX5_18 : mPd RX5 18 5 2 .int false := ⟨_, _, _, tyX5, rfl, wi_X5, by decide, wl_X5_18, tyX5_ok, nmX5, rfl, rfl, fun q => by cases q⟩
theorem wl_X4_15 : Cond.fieldLink RX4 15 (TX5 2).1 (TX5 2).2.1 (TX5 2).2.2.1 ∈ mw := mw_tab 63 (by decide +kernel) rfl
theorem fX4_15 : mFd RX4 15 5 2 := ⟨_, _, _, rfl, wi_X5, by decide, wl_X4_15⟩
theorem pX4_15 : mPd RX4 15 5 2 .int false := ⟨_, _, _, tyX5, rfl, wi_X5, by decide, wl_X4_15, tyX5_ok, nmX5, rfl, rfl, fun q => by cases q⟩
theorem wl_X6_38 : Cond.fieldLink RX6 38 (TX5 2).1 (TX5 2).2.1 (TX5 2).2.2.1 ∈ mw := mw_tab 64 (by decide +kernel) rfl
theorem fX6_38 : mFd RX6 38 5 2 := ⟨_, _, _, rfl, wi_X5, by decide, wl_X6_38⟩
theorem pX6_38 : mPd RX6 38 5 2 .int false := ⟨_, _, _, tyX5, rfl, wi_X5, by decide, wl_X6_38, tyX5_ok, nmX5, rfl, rfl, fun q => by cases q⟩
theorem wl_X0_29 : Cond.fieldLink RX0 29 (TX5 2).1 (TX5 2).2.1 (TX5 2).2.2.1 ∈ mw := mw_tab 65 (by decide +kernel) rfl
theorem fX0_29 : mFd RX0 29 5 2 := ⟨_, _, _, rfl, wi_X5, by decide, wl_X0_29⟩
theorem pX0_29 : mPd RX0 29 5 2 .int false := ⟨_, _, _, tyX5, rfl, wi_X5, by decide, wl_X0_29, tyX5_ok, nmX5, rfl, rfl, fun q => by cases q⟩
theorem wl_X1_59 : Cond.fieldLink RX1 59 (TX5 2).1 (TX5 2).2.1 (TX5 2).2.2.1 ∈ mw := mw_tab 66 (by decide +kernel) rfl
theorem fX1_59 : mFd RX1 59 5 2 := ⟨_, _, _, rfl, wi_X5, by decide, wl_X1_59⟩
theorem pX1_59 : mPd RX1 59 5 2 .int false := ⟨_, _, _, tyX5, rfl, wi_X5, by decide, wl_X1_59, tyX5_ok, nmX5, rfl, rfl, fun q => by cases q⟩
theorem wl_X7_197 : Cond.fieldLink RX7 197 (TX5 2).1 (TX5 2).2.1 (TX5 2).2.2.1 ∈ mw := mw_tab 67 (by decide +kernel) rfl
theorem fX7_197 : mFd RX7 197 5 2 := ⟨_, _, _, rfl, wi_X5, by decide, wl_X7_197⟩
theorem pX7_197 : mPd RX7 197 5 2 .int false := ⟨_, _, _, tyX5, rfl, wi_X5, by decide, wl_X7_197, tyX5_ok, nmX5, rfl, rfl, fun q => by cases q⟩
theorem wl_X5_22 : Cond.fieldLink RX5 22 (TX5 3).1 (TX5 3).2.1 (TX5 3).2.2.1 ∈ mw := mw_tab 68 (by decide +kernel) rfl
theorem fX5_22 : mFd RX5 22 5 3 := ⟨_, _, _, rfl, wi_X5, by decide, wl_X5_22⟩
theorem pX5_22 : mPd RX5 22 5 3 .int false := ⟨_, _, _, tyX5, rfl, wi_X5, by decide, wl_X5_22, tyX5_ok, nmX5, rfl, rfl, fun q => by cases q⟩
theorem wl_X4_41 : Cond.fieldLink RX4 41 (TX5 3).1 (TX5 3).2.1 (TX5 3).2.2.1 ∈ mw := mw_tab 69 (by decide +kernel) rfl
theorem fX4_41 : mFd RX4 41 5 3 := ⟨_, _, _, rfl, wi_X5, by decide, wl_X4_41⟩
theorem pX4_41 : mPd RX4 41 5 3 .int false := ⟨_, _, _, tyX5, rfl, wi_X5, by decide, wl_X4_41, tyX5_ok, nmX5, rfl, rfl, fun q => by cases q⟩
theorem wl_X1_69 : Cond.fieldLink RX1 69 (TX5 3).1 (TX5 3).2.1 (TX5 3).2.2.1 ∈ mw := mw_tab 70 (by decide +kernel) rfl
theorem fX1_69 : mFd RX1 69 5 3 := ⟨_, _, _, rfl, wi_X5, by decide, wl_X1_69⟩
theorem pX1_69 : mPd RX1 69 5 3 .int false := ⟨_, _, _, tyX5, rfl, wi_X5, by decide, wl_X1_69, tyX5_ok, nmX5, rfl, rfl, fun q => by cases q⟩
theorem wl_X7_124 : Cond.fieldLink RX7 124 (TX5 3).1 (TX5 3).2.1 (TX5 3).2.2.1 ∈ mw := mw_tab 71 (by decide +kernel) rfl
theorem fX7_124 : mFd RX7 124 5 3 := ⟨_, _, _, rfl, wi_X5, by decide, wl_X7_124⟩
theorem pX7_124 : mPd RX7 124 5 3 .int false := ⟨_, _, _, tyX5, rfl, wi_X5, by decide, wl_X7_124, tyX5_ok, nmX5, rfl, rfl, fun q => by cases q⟩
theorem wl_X5_25 : Cond.fieldLink RX5 25 (TX5 4).1 (TX5 4).2.1 (TX5 4).2.2.1 ∈ mw := mw_tab 72 (by decide +kernel) rfl
theorem fX5_25 : mFd RX5 25 5 4 := ⟨_, _, _, rfl, wi_X5, by decide, wl_X5_25⟩
theorem pX5_25 : mPd RX5 25 5 4 .int false := ⟨_, _, _, tyX5, rfl, wi_X5, by decide, wl_X5_25, tyX5_ok, nmX5, rfl, rfl, fun q => by cases q⟩
theorem wl_X1_40 : Cond.fieldLink RX1 40 (TX5 4).1 (TX5 4).2.1 (TX5 4).2.2.1 ∈ mw := mw_tab 73 (by decide +kernel) rfl
theorem fX1_40 : mFd RX1 40 5 4 := ⟨_, _, _, rfl, wi_X5, by decide, wl_X1_40⟩
theorem pX1_40 : mPd RX1 40 5 4 .int false := ⟨_, _, _, tyX5, rfl, wi_X5, by decide, wl_X1_40, tyX5_ok, nmX5, rfl, rfl, fun q => by cases q⟩
theorem wl_X7_91 : Cond.fieldLink RX7 91 (TX5 4).1 (TX5 4).2.1 (TX5 4).2.2.1 ∈ mw := mw_tab 74 (by decide +kernel) rfl
theorem fX7_91 : mFd RX7 91 5 4 := ⟨_, _, _, rfl, wi_X5, by decide, wl_X7_91⟩
theorem pX7_91 : mPd RX7 91 5 4 .int false := ⟨_, _, _, tyX5, rfl, wi_X5, by decide, wl_X7_91, tyX5_ok, nmX5, rfl, rfl, fun q => by cases q⟩
theorem wl_X5_28 : Cond.fieldLink RX5 28 (TX5 5).1 (TX5 5).2.1 (TX5 5).2.2.1 ∈ mw := mw_tab 75 (by decide +kernel) rfl
theorem fX5_28 : mFd RX5 28 5 5 := ⟨_, _, _, rfl, wi_X5, by decide, wl_X5_28⟩
theorem pX5_28 : mPd RX5 28 5 5 .boolean false := ⟨_, _, _, tyX5, rfl, wi_X5, by decide, wl_X5_28, tyX5_ok, nmX5, rfl, rfl, fun q => by cases q⟩
theorem wl_X4_33 : Cond.fieldLink RX4 33 (TX5 5).1 (TX5 5).2.1 (TX5 5).2.2.1 ∈ mw := mw_tab 76 (by decide +kernel) rfl
theorem fX4_33 : mFd RX4 33 5 5 := ⟨_, _, _, rfl, wi_X5, by decide, wl_X4_33⟩
theorem pX4_33 : mPd RX4 33 5 5 .boolean false := ⟨_, _, _, tyX5, rfl, wi_X5, by decide, wl_X4_33, tyX5_ok, nmX5, rfl, rfl, fun q => by cases q⟩
theorem wl_X1_55 : Cond.fieldLink RX1 55 (TX5 5).1 (TX5 5).2.1 (TX5 5).2.2.1 ∈ mw := mw_tab 77 (by decide +kernel) rfl
theorem fX1_55 : mFd RX1 55 5 5 := ⟨_, _, _, rfl, wi_X5, by decide, wl_X1_55⟩
theorem pX1_55 : mPd RX1 55 5 5 .boolean false := ⟨_, _, _, tyX5, rfl, wi_X5, by decide, wl_X1_55, tyX5_ok, nmX5, rfl, rfl, fun q => by cases q⟩
theorem wl_X7_218 : Cond.fieldLink RX7 218 (TX5 5).1 (TX5 5).2.1 (TX5 5).2.2.1 ∈ mw := mw_tab 78 (by decide +kernel) rfl
theorem fX7_218 : mFd RX7 218 5 5 := ⟨_, _, _, rfl, wi_X5, by decide, wl_X7_218⟩
theorem pX7_218 : mPd RX7 218 5 5 .boolean false := ⟨_, _, _, tyX5, rfl, wi_X5, by decide, wl_X7_218, tyX5_ok, nmX5, rfl, rfl, fun q => by cases q⟩
theorem wl_X3_9 : Cond.fieldLink RX3 9 (TX3 0).1 (TX3 0).2.1 (TX3 0).2.2.1 ∈ mw := mw_tab 98 (by decide +kernel) rfl
theorem fX3_9 : mFd RX3 9 3 0 := ⟨_, _, _, rfl, wi_X3, by decide, wl_X3_9⟩
theorem pX3_9 : mPd RX3 9 3 0 (.array .int) true := ⟨_, _, _, tyX3, rfl, wi_X3, by decide, wl_X3_9, tyX3_ok, nmX3, rfl, rfl, fun _ => by decide +kernel⟩
theorem wl_X4_28 : Cond.fieldLink RX4 28 (TX3 0).1 (TX3 0).2.1 (TX3 0).2.2.1 ∈ mw := mw_tab 99 (by decide +kernel) rfl
theorem fX4_28 : mFd RX4 28 3 0 := ⟨_, _, _, rfl, wi_X3, by decide, wl_X4_28⟩
theorem wl_X0_54 : Cond.fieldLink RX0 54 (TX3 0).1 (TX3 0).2.1 (TX3 0).2.2.1 ∈ mw := mw_tab 100 (by decide +kernel) rfl
theorem fX0_54 : mFd RX0 54 3 0 := ⟨_, _, _, rfl, wi_X3, by decide, wl_X0_54⟩
theorem wl_X7_101 : Cond.fieldLink RX7 101 (TX3 0).1 (TX3 0).2.1 (TX3 0).2.2.1 ∈ mw := mw_tab 101 (by decide +kernel) rfl
theorem fX7_101 : mFd RX7 101 3 0 := ⟨_, _, _, rfl, wi_X3, by decide, wl_X7_101⟩
theorem wl_X6_81 : Cond.fieldLink RX6 81 (TX3 0).1 (TX3 0).2.1 (TX3 0).2.2.1 ∈ mw := mw_tab 102 (by decide +kernel) rfl
theorem fX6_81 : mFd RX6 81 3 0 := ⟨_, _, _, rfl, wi_X3, by decide, wl_X6_81⟩
theorem wl_X3_15 : Cond.fieldLink RX3 15 (TX3 1).1 (TX3 1).2.1 (TX3 1).2.2.1 ∈ mw := mw_tab 103 (by decide +kernel) rfl
theorem fX3_15 : mFd RX3 15 3 1 := ⟨_, _, _, rfl, wi_X3, by decide, wl_X3_15⟩
theorem pX3_15 : mPd RX3 15 3 1 (.array .int) true := ⟨_, _, _, tyX3, rfl, wi_X3, by decide, wl_X3_15, tyX3_ok, nmX3, rfl, rfl, fun _ => by decide +kernel⟩
theorem wl_X6_56 : Cond.fieldLink RX6 56 (TX3 1).1 (TX3 1).2.1 (TX3 1).2.2.1 ∈ mw := mw_tab 104 (by decide +kernel) rfl
theorem fX6_56 : mFd RX6 56 3 1 := ⟨_, _, _, rfl, wi_X3, by decide, wl_X6_56⟩
theorem wl_X7_121 : Cond.fieldLink RX7 121 (TX3 1).1 (TX3 1).2.1 (TX3 1).2.2.1 ∈ mw := mw_tab 105 (by decide +kernel) rfl
theorem fX7_121 : mFd RX7 121 3 1 := ⟨_, _, _, rfl, wi_X3, by decide, wl_X7_121⟩
theorem wl_X3_18 : Cond.fieldLink RX3 18 (TX3 2).1 (TX3 2).2.1 (TX3 2).2.2.1 ∈ mw := mw_tab 106 (by decide +kernel) rfl
theorem fX3_18 : mFd RX3 18 3 2 := ⟨_, _, _, rfl, wi_X3, by decide, wl_X3_18⟩
theorem pX3_18 : mPd RX3 18 3 2 (.array .int) true := ⟨_, _, _, tyX3, rfl, wi_X3, by decide, wl_X3_18, tyX3_ok, nmX3, rfl, rfl, fun _ => by decide +kernel⟩
theorem wl_X6_66 : Cond.fieldLink RX6 66 (TX3 2).1 (TX3 2).2.1 (TX3 2).2.2.1 ∈ mw := mw_tab 107 (by decide +kernel) rfl
theorem fX6_66 : mFd RX6 66 3 2 := ⟨_, _, _, rfl, wi_X3, by decide, wl_X6_66⟩
theorem wl_X7_109 : Cond.fieldLink RX7 109 (TX3 2).1 (TX3 2).2.1 (TX3 2).2.2.1 ∈ mw := mw_tab 108 (by decide +kernel) rfl
theorem fX7_109 : mFd RX7 109 3 2 := ⟨_, _, _, rfl, wi_X3, by decide, wl_X7_109⟩
theorem wl_X3_21 : Cond.fieldLink RX3 21 (TX3 3).1 (TX3 3).2.1 (TX3 3).2.2.1 ∈ mw := mw_tab 109 (by decide +kernel) rfl
theorem fX3_21 : mFd RX3 21 3 3 := ⟨_, _, _, rfl, wi_X3, by decide, wl_X3_21⟩
theorem pX3_21 : mPd RX3 21 3 3 (.array .int) true := ⟨_, _, _, tyX3, rfl, wi_X3, by decide, wl_X3_21, tyX3_ok, nmX3, rfl, rfl, fun _ => by decide +kernel⟩
theorem wl_X3_33 : Cond.fieldLink RX3 33 (TX3 4).1 (TX3 4).2.1 (TX3 4).2.2.1 ∈ mw := mw_tab 110 (by decide +kernel) rfl
theorem fX3_33 : mFd RX3 33 3 4 := ⟨_, _, _, rfl, wi_X3, by decide, wl_X3_33⟩
theorem pX3_33 : mPd RX3 33 3 4 .int false := ⟨_, _, _, tyX3, rfl, wi_X3, by decide, wl_X3_33, tyX3_ok, nmX3, rfl, rfl, fun q => by cases q⟩
theorem wl_X7_146 : Cond.fieldLink RX7 146 (TX3 4).1 (TX3 4).2.1 (TX3 4).2.2.1 ∈ mw := mw_tab 111 (by decide +kernel) rfl
theorem fX7_146 : mFd RX7 146 3 4 := ⟨_, _, _, rfl, wi_X3, by decide, wl_X7_146⟩
theorem pX7_146 : mPd RX7 146 3 4 .int false := ⟨_, _, _, tyX3, rfl, wi_X3, by decide, wl_X7_146, tyX3_ok, nmX3, rfl, rfl, fun q => by cases q⟩
theorem wl_X3_37 : Cond.fieldLink RX3 37 (TX3 5).1 (TX3 5).2.1 (TX3 5).2.2.1 ∈ mw := mw_tab 112 (by decide +kernel) rfl
theorem fX3_37 : mFd RX3 37 3 5 := ⟨_, _, _, rfl, wi_X3, by decide, wl_X3_37⟩
theorem pX3_37 : mPd RX3 37 3 5 .int false := ⟨_, _, _, tyX3, rfl, wi_X3, by decide, wl_X3_37, tyX3_ok, nmX3, rfl, rfl, fun q => by cases q⟩
theorem wl_X7_134 : Cond.fieldLink RX7 134 (TX3 5).1 (TX3 5).2.1 (TX3 5).2.2.1 ∈ mw := mw_tab 113 (by decide +kernel) rfl
theorem fX7_134 : mFd RX7 134 3 5 := ⟨_, _, _, rfl, wi_X3, by decide, wl_X7_134⟩
theorem pX7_134 : mPd RX7 134 3 5 .int false := ⟨_, _, _, tyX3, rfl, wi_X3, by decide, wl_X7_134, tyX3_ok, nmX3, rfl, rfl, fun q => by cases q⟩
theorem wl_X2_9 : Cond.fieldLink RX2 9 (TX2 0).1 (TX2 0).2.1 (TX2 0).2.2.1 ∈ mw := mw_tab 134 (by decide +kernel) rfl
theorem fX2_9 : mFd RX2 9 2 0 := ⟨_, _, _, rfl, wi_X2, by decide, wl_X2_9⟩
theorem pX2_9 : mPd RX2 9 2 0 (.array .int) true := ⟨_, _, _, tyX2, rfl, wi_X2, by decide, wl_X2_9, tyX2_ok, nmX2, rfl, rfl, fun _ => by decide +kernel⟩
theorem wl_X2_15 : Cond.fieldLink RX2 15 (TX2 1).1 (TX2 1).2.1 (TX2 1).2.2.1 ∈ mw := mw_tab 135 (by decide +kernel) rfl
theorem fX2_15 : mFd RX2 15 2 1 := ⟨_, _, _, rfl, wi_X2, by decide, wl_X2_15⟩
theorem pX2_15 : mPd RX2 15 2 1 (.array .int) true := ⟨_, _, _, tyX2, rfl, wi_X2, by decide, wl_X2_15, tyX2_ok, nmX2, rfl, rfl, fun _ => by decide +kernel⟩
theorem wl_X2_18 : Cond.fieldLink RX2 18 (TX2 2).1 (TX2 2).2.1 (TX2 2).2.2.1 ∈ mw := mw_tab 136 (by decide +kernel) rfl
theorem fX2_18 : mFd RX2 18 2 2 := ⟨_, _, _, rfl, wi_X2, by decide, wl_X2_18⟩
theorem pX2_18 : mPd RX2 18 2 2 .int false := ⟨_, _, _, tyX2, rfl, wi_X2, by decide, wl_X2_18, tyX2_ok, nmX2, rfl, rfl, fun q => by cases q⟩
theorem wl_X7_85 : Cond.fieldLink RX7 85 (TX2 2).1 (TX2 2).2.1 (TX2 2).2.2.1 ∈ mw := mw_tab 137 (by decide +kernel) rfl
theorem fX7_85 : mFd RX7 85 2 2 := ⟨_, _, _, rfl, wi_X2, by decide, wl_X7_85⟩
theorem pX7_85 : mPd RX7 85 2 2 .int false := ⟨_, _, _, tyX2, rfl, wi_X2, by decide, wl_X7_85, tyX2_ok, nmX2, rfl, rfl, fun q => by cases q⟩
theorem wl_X4_9 : Cond.fieldLink RX4 9 (TX4 0).1 (TX4 0).2.1 (TX4 0).2.2.1 ∈ mw := mw_tab 152 (by decide +kernel) rfl
theorem fX4_9 : mFd RX4 9 4 0 := ⟨_, _, _, rfl, wi_X4, by decide, wl_X4_9⟩
theorem pX4_9 : mPd RX4 9 4 0 (.array .int) true := ⟨_, _, _, tyX4, rfl, wi_X4, by decide, wl_X4_9, tyX4_ok, nmX4, rfl, rfl, fun _ => by decide +kernel⟩
theorem wl_X4_21 : Cond.fieldLink RX4 21 (TX4 1).1 (TX4 1).2.1 (TX4 1).2.2.1 ∈ mw := mw_tab 153 (by decide +kernel) rfl
theorem fX4_21 : mFd RX4 21 4 1 := ⟨_, _, _, rfl, wi_X4, by decide, wl_X4_21⟩
theorem pX4_21 : mPd RX4 21 4 1 .int false := ⟨_, _, _, tyX4, rfl, wi_X4, by decide, wl_X4_21, tyX4_ok, nmX4, rfl, rfl, fun q => by cases q⟩
theorem wl_X6_9 : Cond.fieldLink RX6 9 (TX6 0).1 (TX6 0).2.1 (TX6 0).2.2.1 ∈ mw := mw_tab 165 (by decide +kernel) rfl
theorem fX6_9 : mFd RX6 9 6 0 := ⟨_, _, _, rfl, wi_X6, by decide, wl_X6_9⟩
theorem pX6_9 : mPd RX6 9 6 0 (.array .int) true := ⟨_, _, _, tyX6, rfl, wi_X6, by decide, wl_X6_9, tyX6_ok, nmX6, rfl, rfl, fun _ => by decide +kernel⟩
theorem wl_X6_15 : Cond.fieldLink RX6 15 (TX6 1).1 (TX6 1).2.1 (TX6 1).2.2.1 ∈ mw := mw_tab 166 (by decide +kernel) rfl
theorem fX6_15 : mFd RX6 15 6 1 := ⟨_, _, _, rfl, wi_X6, by decide, wl_X6_15⟩
theorem pX6_15 : mPd RX6 15 6 1 (.array .int) true := ⟨_, _, _, tyX6, rfl, wi_X6, by decide, wl_X6_15, tyX6_ok, nmX6, rfl, rfl, fun _ => by decide +kernel⟩
theorem wl_X6_18 : Cond.fieldLink RX6 18 (TX6 2).1 (TX6 2).2.1 (TX6 2).2.2.1 ∈ mw := mw_tab 167 (by decide +kernel) rfl
theorem fX6_18 : mFd RX6 18 6 2 := ⟨_, _, _, rfl, wi_X6, by decide, wl_X6_18⟩
theorem pX6_18 : mPd RX6 18 6 2 (.array .int) true := ⟨_, _, _, tyX6, rfl, wi_X6, by decide, wl_X6_18, tyX6_ok, nmX6, rfl, rfl, fun _ => by decide +kernel⟩
theorem wl_X6_21 : Cond.fieldLink RX6 21 (TX6 3).1 (TX6 3).2.1 (TX6 3).2.2.1 ∈ mw := mw_tab 168 (by decide +kernel) rfl
theorem fX6_21 : mFd RX6 21 6 3 := ⟨_, _, _, rfl, wi_X6, by decide, wl_X6_21⟩
theorem pX6_21 : mPd RX6 21 6 3 (.array .int) true := ⟨_, _, _, tyX6, rfl, wi_X6, by decide, wl_X6_21, tyX6_ok, nmX6, rfl, rfl, fun _ => by decide +kernel⟩
theorem wl_X6_24 : Cond.fieldLink RX6 24 (TX6 4).1 (TX6 4).2.1 (TX6 4).2.2.1 ∈ mw := mw_tab 169 (by decide +kernel) rfl
theorem fX6_24 : mFd RX6 24 6 4 := ⟨_, _, _, rfl, wi_X6, by decide, wl_X6_24⟩
theorem pX6_24 : mPd RX6 24 6 4 (.array .int) true := ⟨_, _, _, tyX6, rfl, wi_X6, by decide, wl_X6_24, tyX6_ok, nmX6, rfl, rfl, fun _ => by decide +kernel⟩
theorem wl_X6_27 : Cond.fieldLink RX6 27 (TX6 5).1 (TX6 5).2.1 (TX6 5).2.2.1 ∈ mw := mw_tab 170 (by decide +kernel) rfl
theorem fX6_27 : mFd RX6 27 6 5 := ⟨_, _, _, rfl, wi_X6, by decide, wl_X6_27⟩
theorem pX6_27 : mPd RX6 27 6 5 (.array .int) true := ⟨_, _, _, tyX6, rfl, wi_X6, by decide, wl_X6_27, tyX6_ok, nmX6, rfl, rfl, fun _ => by decide +kernel⟩
theorem wl_X6_30 : Cond.fieldLink RX6 30 (TX6 6).1 (TX6 6).2.1 (TX6 6).2.2.1 ∈ mw := mw_tab 171 (by decide +kernel) rfl
theorem fX6_30 : mFd RX6 30 6 6 := ⟨_, _, _, rfl, wi_X6, by decide, wl_X6_30⟩
theorem pX6_30 : mPd RX6 30 6 6 (.object "DayCubes$Told") false := ⟨_, _, _, tyX6, rfl, wi_X6, by decide, wl_X6_30, tyX6_ok, nmX6, rfl, rfl, fun q => by cases q⟩
theorem wl_X6_34 : Cond.fieldLink RX6 34 (TX6 7).1 (TX6 7).2.1 (TX6 7).2.2.1 ∈ mw := mw_tab 172 (by decide +kernel) rfl
theorem fX6_34 : mFd RX6 34 6 7 := ⟨_, _, _, rfl, wi_X6, by decide, wl_X6_34⟩
theorem pX6_34 : mPd RX6 34 6 7 (.object "DayCubes$Stand") false := ⟨_, _, _, tyX6, rfl, wi_X6, by decide, wl_X6_34, tyX6_ok, nmX6, rfl, rfl, fun q => by cases q⟩
theorem wl_X6_44 : Cond.fieldLink RX6 44 (TX6 8).1 (TX6 8).2.1 (TX6 8).2.2.1 ∈ mw := mw_tab 173 (by decide +kernel) rfl
theorem fX6_44 : mFd RX6 44 6 8 := ⟨_, _, _, rfl, wi_X6, by decide, wl_X6_44⟩
theorem pX6_44 : mPd RX6 44 6 8 .int false := ⟨_, _, _, tyX6, rfl, wi_X6, by decide, wl_X6_44, tyX6_ok, nmX6, rfl, rfl, fun q => by cases q⟩
theorem wl_X6_45 : Cond.fieldLink RX6 45 (TX6 9).1 (TX6 9).2.1 (TX6 9).2.2.1 ∈ mw := mw_tab 174 (by decide +kernel) rfl
theorem fX6_45 : mFd RX6 45 6 9 := ⟨_, _, _, rfl, wi_X6, by decide, wl_X6_45⟩
theorem pX6_45 : mPd RX6 45 6 9 .int false := ⟨_, _, _, tyX6, rfl, wi_X6, by decide, wl_X6_45, tyX6_ok, nmX6, rfl, rfl, fun q => by cases q⟩
theorem wl_X6_59 : Cond.fieldLink RX6 59 (TX6 10).1 (TX6 10).2.1 (TX6 10).2.2.1 ∈ mw := mw_tab 175 (by decide +kernel) rfl
theorem fX6_59 : mFd RX6 59 6 10 := ⟨_, _, _, rfl, wi_X6, by decide, wl_X6_59⟩
theorem pX6_59 : mPd RX6 59 6 10 .int false := ⟨_, _, _, tyX6, rfl, wi_X6, by decide, wl_X6_59, tyX6_ok, nmX6, rfl, rfl, fun q => by cases q⟩
theorem wl_X0_9 : Cond.fieldLink RX0 9 (TX0 0).1 (TX0 0).2.1 (TX0 0).2.2.1 ∈ mw := mw_tab 205 (by decide +kernel) rfl
theorem fX0_9 : mFd RX0 9 0 0 := ⟨_, _, _, rfl, wi_X0, by decide, wl_X0_9⟩
theorem pX0_9 : mPd RX0 9 0 0 (.array .int) true := ⟨_, _, _, tyX0, rfl, wi_X0, by decide, wl_X0_9, tyX0_ok, nmX0, rfl, rfl, fun _ => by decide +kernel⟩
theorem wl_X0_15 : Cond.fieldLink RX0 15 (TX0 1).1 (TX0 1).2.1 (TX0 1).2.2.1 ∈ mw := mw_tab 206 (by decide +kernel) rfl
theorem fX0_15 : mFd RX0 15 0 1 := ⟨_, _, _, rfl, wi_X0, by decide, wl_X0_15⟩
theorem pX0_15 : mPd RX0 15 0 1 (.object "DayCubes$Told") false := ⟨_, _, _, tyX0, rfl, wi_X0, by decide, wl_X0_15, tyX0_ok, nmX0, rfl, rfl, fun q => by cases q⟩
theorem wl_X0_19 : Cond.fieldLink RX0 19 (TX0 2).1 (TX0 2).2.1 (TX0 2).2.2.1 ∈ mw := mw_tab 207 (by decide +kernel) rfl
theorem fX0_19 : mFd RX0 19 0 2 := ⟨_, _, _, rfl, wi_X0, by decide, wl_X0_19⟩
theorem pX0_19 : mPd RX0 19 0 2 (.object "DayCubes$Stand") false := ⟨_, _, _, tyX0, rfl, wi_X0, by decide, wl_X0_19, tyX0_ok, nmX0, rfl, rfl, fun q => by cases q⟩
theorem wl_X0_42 : Cond.fieldLink RX0 42 (TX0 3).1 (TX0 3).2.1 (TX0 3).2.2.1 ∈ mw := mw_tab 208 (by decide +kernel) rfl
theorem fX0_42 : mFd RX0 42 0 3 := ⟨_, _, _, rfl, wi_X0, by decide, wl_X0_42⟩
theorem pX0_42 : mPd RX0 42 0 3 .int false := ⟨_, _, _, tyX0, rfl, wi_X0, by decide, wl_X0_42, tyX0_ok, nmX0, rfl, rfl, fun q => by cases q⟩
theorem wl_X7_189 : Cond.fieldLink RX7 189 (TX0 3).1 (TX0 3).2.1 (TX0 3).2.2.1 ∈ mw := mw_tab 209 (by decide +kernel) rfl
theorem fX7_189 : mFd RX7 189 0 3 := ⟨_, _, _, rfl, wi_X0, by decide, wl_X7_189⟩
theorem pX7_189 : mPd RX7 189 0 3 .int false := ⟨_, _, _, tyX0, rfl, wi_X0, by decide, wl_X7_189, tyX0_ok, nmX0, rfl, rfl, fun q => by cases q⟩
theorem wl_X0_48 : Cond.fieldLink RX0 48 (TX0 4).1 (TX0 4).2.1 (TX0 4).2.2.1 ∈ mw := mw_tab 210 (by decide +kernel) rfl
theorem fX0_48 : mFd RX0 48 0 4 := ⟨_, _, _, rfl, wi_X0, by decide, wl_X0_48⟩
theorem pX0_48 : mPd RX0 48 0 4 .int false := ⟨_, _, _, tyX0, rfl, wi_X0, by decide, wl_X0_48, tyX0_ok, nmX0, rfl, rfl, fun q => by cases q⟩
theorem wl_X7_192 : Cond.fieldLink RX7 192 (TX0 4).1 (TX0 4).2.1 (TX0 4).2.2.1 ∈ mw := mw_tab 211 (by decide +kernel) rfl
theorem fX7_192 : mFd RX7 192 0 4 := ⟨_, _, _, rfl, wi_X0, by decide, wl_X7_192⟩
theorem pX7_192 : mPd RX7 192 0 4 .int false := ⟨_, _, _, tyX0, rfl, wi_X0, by decide, wl_X7_192, tyX0_ok, nmX0, rfl, rfl, fun q => by cases q⟩
theorem wl_X7_10 : Cond.fieldLink RX7 10 (TX7 0).1 (TX7 0).2.1 (TX7 0).2.2.1 ∈ mw := mw_tab 223 (by decide +kernel) rfl
theorem fX7_10 : mFd RX7 10 7 0 := ⟨_, _, _, rfl, wi_X7, by decide, wl_X7_10⟩
theorem pX7_10 : mPd RX7 10 7 0 (.object "DayCubes$Reader") true := ⟨_, _, _, tyX7, rfl, wi_X7, by decide, wl_X7_10, tyX7_ok, nmX7, rfl, rfl, fun _ => by decide +kernel⟩
theorem wl_X7_19 : Cond.fieldLink RX7 19 (TX7 1).1 (TX7 1).2.1 (TX7 1).2.2.1 ∈ mw := mw_tab 224 (by decide +kernel) rfl
theorem fX7_19 : mFd RX7 19 7 1 := ⟨_, _, _, rfl, wi_X7, by decide, wl_X7_19⟩
theorem pX7_19 : mPd RX7 19 7 1 (.object "DayCubes$Told") false := ⟨_, _, _, tyX7, rfl, wi_X7, by decide, wl_X7_19, tyX7_ok, nmX7, rfl, rfl, fun q => by cases q⟩
theorem wl_X7_23 : Cond.fieldLink RX7 23 (TX7 2).1 (TX7 2).2.1 (TX7 2).2.2.1 ∈ mw := mw_tab 225 (by decide +kernel) rfl
theorem fX7_23 : mFd RX7 23 7 2 := ⟨_, _, _, rfl, wi_X7, by decide, wl_X7_23⟩
theorem pX7_23 : mPd RX7 23 7 2 (.object "DayCubes$Told") false := ⟨_, _, _, tyX7, rfl, wi_X7, by decide, wl_X7_23, tyX7_ok, nmX7, rfl, rfl, fun q => by cases q⟩
theorem wl_X7_29 : Cond.fieldLink RX7 29 (TX7 3).1 (TX7 3).2.1 (TX7 3).2.2.1 ∈ mw := mw_tab 226 (by decide +kernel) rfl
theorem fX7_29 : mFd RX7 29 7 3 := ⟨_, _, _, rfl, wi_X7, by decide, wl_X7_29⟩
theorem pX7_29 : mPd RX7 29 7 3 (.object "DayCubes$Stand") true := ⟨_, _, _, tyX7, rfl, wi_X7, by decide, wl_X7_29, tyX7_ok, nmX7, rfl, rfl, fun _ => by decide +kernel⟩
theorem wl_X7_33 : Cond.fieldLink RX7 33 (TX7 4).1 (TX7 4).2.1 (TX7 4).2.2.1 ∈ mw := mw_tab 227 (by decide +kernel) rfl
theorem fX7_33 : mFd RX7 33 7 4 := ⟨_, _, _, rfl, wi_X7, by decide, wl_X7_33⟩
theorem pX7_33 : mPd RX7 33 7 4 (.array (.object "DayCubes$Stand")) true := ⟨_, _, _, tyX7, rfl, wi_X7, by decide, wl_X7_33, tyX7_ok, nmX7, rfl, rfl, fun _ => by decide +kernel⟩
theorem wl_X7_37 : Cond.fieldLink RX7 37 (TX7 5).1 (TX7 5).2.1 (TX7 5).2.2.1 ∈ mw := mw_tab 228 (by decide +kernel) rfl
theorem fX7_37 : mFd RX7 37 7 5 := ⟨_, _, _, rfl, wi_X7, by decide, wl_X7_37⟩
theorem pX7_37 : mPd RX7 37 7 5 (.array .boolean) true := ⟨_, _, _, tyX7, rfl, wi_X7, by decide, wl_X7_37, tyX7_ok, nmX7, rfl, rfl, fun _ => by decide +kernel⟩
theorem wl_X7_44 : Cond.fieldLink RX7 44 (TX7 6).1 (TX7 6).2.1 (TX7 6).2.2.1 ∈ mw := mw_tab 229 (by decide +kernel) rfl
theorem fX7_44 : mFd RX7 44 7 6 := ⟨_, _, _, rfl, wi_X7, by decide, wl_X7_44⟩
theorem pX7_44 : mPd RX7 44 7 6 (.object "DayCubes$Seen") true := ⟨_, _, _, tyX7, rfl, wi_X7, by decide, wl_X7_44, tyX7_ok, nmX7, rfl, rfl, fun _ => by decide +kernel⟩
theorem wl_X7_51 : Cond.fieldLink RX7 51 (TX7 7).1 (TX7 7).2.1 (TX7 7).2.2.1 ∈ mw := mw_tab 230 (by decide +kernel) rfl
theorem fX7_51 : mFd RX7 51 7 7 := ⟨_, _, _, rfl, wi_X7, by decide, wl_X7_51⟩
theorem pX7_51 : mPd RX7 51 7 7 (.object "DayCubes$Tellers") true := ⟨_, _, _, tyX7, rfl, wi_X7, by decide, wl_X7_51, tyX7_ok, nmX7, rfl, rfl, fun _ => by decide +kernel⟩
theorem wl_X7_58 : Cond.fieldLink RX7 58 (TX7 8).1 (TX7 8).2.1 (TX7 8).2.2.1 ∈ mw := mw_tab 231 (by decide +kernel) rfl
theorem fX7_58 : mFd RX7 58 7 8 := ⟨_, _, _, rfl, wi_X7, by decide, wl_X7_58⟩
theorem pX7_58 : mPd RX7 58 7 8 (.object "DayCubes$Walk") true := ⟨_, _, _, tyX7, rfl, wi_X7, by decide, wl_X7_58, tyX7_ok, nmX7, rfl, rfl, fun _ => by decide +kernel⟩
theorem wl_X7_65 : Cond.fieldLink RX7 65 (TX7 9).1 (TX7 9).2.1 (TX7 9).2.2.1 ∈ mw := mw_tab 232 (by decide +kernel) rfl
theorem fX7_65 : mFd RX7 65 7 9 := ⟨_, _, _, rfl, wi_X7, by decide, wl_X7_65⟩
theorem pX7_65 : mPd RX7 65 7 9 (.object "DayCubes$Fall") true := ⟨_, _, _, tyX7, rfl, wi_X7, by decide, wl_X7_65, tyX7_ok, nmX7, rfl, rfl, fun _ => by decide +kernel⟩
theorem wl_X7_222 : Cond.fieldLink RX7 222 (TX7 10).1 (TX7 10).2.1 (TX7 10).2.2.1 ∈ mw := mw_tab 233 (by decide +kernel) rfl
theorem fX7_222 : mFd RX7 222 7 10 := ⟨_, _, _, rfl, wi_X7, by decide, wl_X7_222⟩
theorem pX7_222 : mPd RX7 222 7 10 .long false := ⟨_, _, _, tyX7, rfl, wi_X7, by decide, wl_X7_222, tyX7_ok, nmX7, rfl, rfl, fun q => by cases q⟩
theorem gX4_69 : Cond.fieldLink RX4 69 "DayCubes$Tellers" "SETS_WITHOUT" "[I" ∈ mw := mw_tab 389 (by decide +kernel) rfl
theorem kJ6_265 : Cond.constant RJ6 265 (1431655765) ∈ mw := mw_tab 550 (by decide +kernel) rfl
theorem kJ6_266 : Cond.constant RJ6 266 (858993459) ∈ mw := mw_tab 551 (by decide +kernel) rfl
theorem kJ6_267 : Cond.constant RJ6 267 (252645135) ∈ mw := mw_tab 552 (by decide +kernel) rfl
theorem kX7_207 : Cond.constant RX7 207 (-1000000) ∈ mw := mw_tab 627 (by decide +kernel) rfl
theorem gX7_243 : Cond.fieldLink RX7 243 "DayCubes" "KIND_TRACE" "[I" ∈ mw := mw_tab 632 (by decide +kernel) rfl
theorem gX7_246 : Cond.fieldLink RX7 246 "DayCubes" "KIND_ABOVE" "[I" ∈ mw := mw_tab 634 (by decide +kernel) rfl
theorem wl_X8_7 : Cond.fieldLink RX8 7 (TX8 0).1 (TX8 0).2.1 (TX8 0).2.2.1 ∈ mw := mw_tab 685 (by decide +kernel) rfl
theorem fX8_7 : mFd RX8 7 8 0 := ⟨_, _, _, rfl, wi_X8, by decide, wl_X8_7⟩
theorem pX8_7 : mPd RX8 7 8 0 (.array .byte) true := ⟨_, _, _, tyX8, rfl, wi_X8, by decide, wl_X8_7, tyX8_ok, nmX8, rfl, rfl, fun _ => by decide +kernel⟩
theorem wl_X8_67 : Cond.fieldLink RX8 67 (TX8 1).1 (TX8 1).2.1 (TX8 1).2.2.1 ∈ mw := mw_tab 686 (by decide +kernel) rfl
theorem fX8_67 : mFd RX8 67 8 1 := ⟨_, _, _, rfl, wi_X8, by decide, wl_X8_67⟩
theorem pX8_67 : mPd RX8 67 8 1 .int false := ⟨_, _, _, tyX8, rfl, wi_X8, by decide, wl_X8_67, tyX8_ok, nmX8, rfl, rfl, fun q => by cases q⟩
theorem wl_X8_13 : Cond.fieldLink RX8 13 (TX8 2).1 (TX8 2).2.1 (TX8 2).2.2.1 ∈ mw := mw_tab 687 (by decide +kernel) rfl
theorem fX8_13 : mFd RX8 13 8 2 := ⟨_, _, _, rfl, wi_X8, by decide, wl_X8_13⟩
theorem pX8_13 : mPd RX8 13 8 2 (.array .int) true := ⟨_, _, _, tyX8, rfl, wi_X8, by decide, wl_X8_13, tyX8_ok, nmX8, rfl, rfl, fun _ => by decide +kernel⟩
theorem wl_X8_17 : Cond.fieldLink RX8 17 (TX8 3).1 (TX8 3).2.1 (TX8 3).2.2.1 ∈ mw := mw_tab 688 (by decide +kernel) rfl
theorem fX8_17 : mFd RX8 17 8 3 := ⟨_, _, _, rfl, wi_X8, by decide, wl_X8_17⟩
theorem pX8_17 : mPd RX8 17 8 3 (.array .int) true := ⟨_, _, _, tyX8, rfl, wi_X8, by decide, wl_X8_17, tyX8_ok, nmX8, rfl, rfl, fun _ => by decide +kernel⟩
theorem wl_X8_20 : Cond.fieldLink RX8 20 (TX8 4).1 (TX8 4).2.1 (TX8 4).2.2.1 ∈ mw := mw_tab 689 (by decide +kernel) rfl
theorem fX8_20 : mFd RX8 20 8 4 := ⟨_, _, _, rfl, wi_X8, by decide, wl_X8_20⟩
theorem pX8_20 : mPd RX8 20 8 4 (.array .int) true := ⟨_, _, _, tyX8, rfl, wi_X8, by decide, wl_X8_20, tyX8_ok, nmX8, rfl, rfl, fun _ => by decide +kernel⟩
theorem wl_X8_23 : Cond.fieldLink RX8 23 (TX8 5).1 (TX8 5).2.1 (TX8 5).2.2.1 ∈ mw := mw_tab 690 (by decide +kernel) rfl
theorem fX8_23 : mFd RX8 23 8 5 := ⟨_, _, _, rfl, wi_X8, by decide, wl_X8_23⟩
theorem pX8_23 : mPd RX8 23 8 5 (.array .int) true := ⟨_, _, _, tyX8, rfl, wi_X8, by decide, wl_X8_23, tyX8_ok, nmX8, rfl, rfl, fun _ => by decide +kernel⟩
theorem wl_X8_26 : Cond.fieldLink RX8 26 (TX8 6).1 (TX8 6).2.1 (TX8 6).2.2.1 ∈ mw := mw_tab 691 (by decide +kernel) rfl
theorem fX8_26 : mFd RX8 26 8 6 := ⟨_, _, _, rfl, wi_X8, by decide, wl_X8_26⟩
theorem pX8_26 : mPd RX8 26 8 6 (.array .int) true := ⟨_, _, _, tyX8, rfl, wi_X8, by decide, wl_X8_26, tyX8_ok, nmX8, rfl, rfl, fun _ => by decide +kernel⟩
theorem wl_X8_71 : Cond.fieldLink RX8 71 (TX8 7).1 (TX8 7).2.1 (TX8 7).2.2.1 ∈ mw := mw_tab 692 (by decide +kernel) rfl
theorem fX8_71 : mFd RX8 71 8 7 := ⟨_, _, _, rfl, wi_X8, by decide, wl_X8_71⟩
theorem pX8_71 : mPd RX8 71 8 7 .int false := ⟨_, _, _, tyX8, rfl, wi_X8, by decide, wl_X8_71, tyX8_ok, nmX8, rfl, rfl, fun q => by cases q⟩
theorem wl_X8_78 : Cond.fieldLink RX8 78 (TX8 8).1 (TX8 8).2.1 (TX8 8).2.2.1 ∈ mw := mw_tab 693 (by decide +kernel) rfl
theorem fX8_78 : mFd RX8 78 8 8 := ⟨_, _, _, rfl, wi_X8, by decide, wl_X8_78⟩
theorem pX8_78 : mPd RX8 78 8 8 .int false := ⟨_, _, _, tyX8, rfl, wi_X8, by decide, wl_X8_78, tyX8_ok, nmX8, rfl, rfl, fun q => by cases q⟩
theorem wl_X8_84 : Cond.fieldLink RX8 84 (TX8 9).1 (TX8 9).2.1 (TX8 9).2.2.1 ∈ mw := mw_tab 694 (by decide +kernel) rfl
theorem fX8_84 : mFd RX8 84 8 9 := ⟨_, _, _, rfl, wi_X8, by decide, wl_X8_84⟩
theorem pX8_84 : mPd RX8 84 8 9 .int false := ⟨_, _, _, tyX8, rfl, wi_X8, by decide, wl_X8_84, tyX8_ok, nmX8, rfl, rfl, fun q => by cases q⟩
theorem wl_X8_81 : Cond.fieldLink RX8 81 (TX8 10).1 (TX8 10).2.1 (TX8 10).2.2.1 ∈ mw := mw_tab 695 (by decide +kernel) rfl
theorem fX8_81 : mFd RX8 81 8 10 := ⟨_, _, _, rfl, wi_X8, by decide, wl_X8_81⟩
theorem pX8_81 : mPd RX8 81 8 10 .int false := ⟨_, _, _, tyX8, rfl, wi_X8, by decide, wl_X8_81, tyX8_ok, nmX8, rfl, rfl, fun q => by cases q⟩
theorem wl_X8_87 : Cond.fieldLink RX8 87 (TX8 11).1 (TX8 11).2.1 (TX8 11).2.2.1 ∈ mw := mw_tab 696 (by decide +kernel) rfl
theorem fX8_87 : mFd RX8 87 8 11 := ⟨_, _, _, rfl, wi_X8, by decide, wl_X8_87⟩
theorem pX8_87 : mPd RX8 87 8 11 .boolean false := ⟨_, _, _, tyX8, rfl, wi_X8, by decide, wl_X8_87, tyX8_ok, nmX8, rfl, rfl, fun q => by cases q⟩
theorem wl_X8_106 : Cond.fieldLink RX8 106 (TX8 12).1 (TX8 12).2.1 (TX8 12).2.2.1 ∈ mw := mw_tab 697 (by decide +kernel) rfl
theorem fX8_106 : mFd RX8 106 8 12 := ⟨_, _, _, rfl, wi_X8, by decide, wl_X8_106⟩
theorem pX8_106 : mPd RX8 106 8 12 .int false := ⟨_, _, _, tyX8, rfl, wi_X8, by decide, wl_X8_106, tyX8_ok, nmX8, rfl, rfl, fun q => by cases q⟩
theorem wl_X8_29 : Cond.fieldLink RX8 29 (TX8 13).1 (TX8 13).2.1 (TX8 13).2.2.1 ∈ mw := mw_tab 698 (by decide +kernel) rfl
theorem fX8_29 : mFd RX8 29 8 13 := ⟨_, _, _, rfl, wi_X8, by decide, wl_X8_29⟩
theorem pX8_29 : mPd RX8 29 8 13 (.array .int) true := ⟨_, _, _, tyX8, rfl, wi_X8, by decide, wl_X8_29, tyX8_ok, nmX8, rfl, rfl, fun _ => by decide +kernel⟩
theorem wl_X8_32 : Cond.fieldLink RX8 32 (TX8 14).1 (TX8 14).2.1 (TX8 14).2.2.1 ∈ mw := mw_tab 699 (by decide +kernel) rfl
theorem fX8_32 : mFd RX8 32 8 14 := ⟨_, _, _, rfl, wi_X8, by decide, wl_X8_32⟩
theorem pX8_32 : mPd RX8 32 8 14 (.array .int) true := ⟨_, _, _, tyX8, rfl, wi_X8, by decide, wl_X8_32, tyX8_ok, nmX8, rfl, rfl, fun _ => by decide +kernel⟩
theorem wl_X8_35 : Cond.fieldLink RX8 35 (TX8 15).1 (TX8 15).2.1 (TX8 15).2.2.1 ∈ mw := mw_tab 700 (by decide +kernel) rfl
theorem fX8_35 : mFd RX8 35 8 15 := ⟨_, _, _, rfl, wi_X8, by decide, wl_X8_35⟩
theorem pX8_35 : mPd RX8 35 8 15 (.array .int) true := ⟨_, _, _, tyX8, rfl, wi_X8, by decide, wl_X8_35, tyX8_ok, nmX8, rfl, rfl, fun _ => by decide +kernel⟩
theorem wl_X8_38 : Cond.fieldLink RX8 38 (TX8 16).1 (TX8 16).2.1 (TX8 16).2.2.1 ∈ mw := mw_tab 701 (by decide +kernel) rfl
theorem fX8_38 : mFd RX8 38 8 16 := ⟨_, _, _, rfl, wi_X8, by decide, wl_X8_38⟩
theorem pX8_38 : mPd RX8 38 8 16 (.array .int) true := ⟨_, _, _, tyX8, rfl, wi_X8, by decide, wl_X8_38, tyX8_ok, nmX8, rfl, rfl, fun _ => by decide +kernel⟩
theorem wl_X8_41 : Cond.fieldLink RX8 41 (TX8 17).1 (TX8 17).2.1 (TX8 17).2.2.1 ∈ mw := mw_tab 702 (by decide +kernel) rfl
theorem fX8_41 : mFd RX8 41 8 17 := ⟨_, _, _, rfl, wi_X8, by decide, wl_X8_41⟩
theorem pX8_41 : mPd RX8 41 8 17 (.array .boolean) true := ⟨_, _, _, tyX8, rfl, wi_X8, by decide, wl_X8_41, tyX8_ok, nmX8, rfl, rfl, fun _ => by decide +kernel⟩
theorem wl_X8_45 : Cond.fieldLink RX8 45 (TX8 18).1 (TX8 18).2.1 (TX8 18).2.2.1 ∈ mw := mw_tab 703 (by decide +kernel) rfl
theorem fX8_45 : mFd RX8 45 8 18 := ⟨_, _, _, rfl, wi_X8, by decide, wl_X8_45⟩
theorem pX8_45 : mPd RX8 45 8 18 (.array .int) true := ⟨_, _, _, tyX8, rfl, wi_X8, by decide, wl_X8_45, tyX8_ok, nmX8, rfl, rfl, fun _ => by decide +kernel⟩
theorem wl_X8_48 : Cond.fieldLink RX8 48 (TX8 19).1 (TX8 19).2.1 (TX8 19).2.2.1 ∈ mw := mw_tab 704 (by decide +kernel) rfl
theorem fX8_48 : mFd RX8 48 8 19 := ⟨_, _, _, rfl, wi_X8, by decide, wl_X8_48⟩
theorem pX8_48 : mPd RX8 48 8 19 (.array .int) true := ⟨_, _, _, tyX8, rfl, wi_X8, by decide, wl_X8_48, tyX8_ok, nmX8, rfl, rfl, fun _ => by decide +kernel⟩
theorem wl_X8_130 : Cond.fieldLink RX8 130 (TX8 20).1 (TX8 20).2.1 (TX8 20).2.2.1 ∈ mw := mw_tab 705 (by decide +kernel) rfl
theorem fX8_130 : mFd RX8 130 8 20 := ⟨_, _, _, rfl, wi_X8, by decide, wl_X8_130⟩
theorem pX8_130 : mPd RX8 130 8 20 .int false := ⟨_, _, _, tyX8, rfl, wi_X8, by decide, wl_X8_130, tyX8_ok, nmX8, rfl, rfl, fun q => by cases q⟩
theorem wl_X8_51 : Cond.fieldLink RX8 51 (TX8 21).1 (TX8 21).2.1 (TX8 21).2.2.1 ∈ mw := mw_tab 706 (by decide +kernel) rfl
theorem fX8_51 : mFd RX8 51 8 21 := ⟨_, _, _, rfl, wi_X8, by decide, wl_X8_51⟩
theorem pX8_51 : mPd RX8 51 8 21 (.array .int) true := ⟨_, _, _, tyX8, rfl, wi_X8, by decide, wl_X8_51, tyX8_ok, nmX8, rfl, rfl, fun _ => by decide +kernel⟩
theorem wl_X8_54 : Cond.fieldLink RX8 54 (TX8 22).1 (TX8 22).2.1 (TX8 22).2.2.1 ∈ mw := mw_tab 707 (by decide +kernel) rfl
theorem fX8_54 : mFd RX8 54 8 22 := ⟨_, _, _, rfl, wi_X8, by decide, wl_X8_54⟩
theorem pX8_54 : mPd RX8 54 8 22 (.array .int) true := ⟨_, _, _, tyX8, rfl, wi_X8, by decide, wl_X8_54, tyX8_ok, nmX8, rfl, rfl, fun _ => by decide +kernel⟩
theorem wl_X8_120 : Cond.fieldLink RX8 120 (TX8 23).1 (TX8 23).2.1 (TX8 23).2.2.1 ∈ mw := mw_tab 708 (by decide +kernel) rfl
theorem fX8_120 : mFd RX8 120 8 23 := ⟨_, _, _, rfl, wi_X8, by decide, wl_X8_120⟩
theorem pX8_120 : mPd RX8 120 8 23 .int false := ⟨_, _, _, tyX8, rfl, wi_X8, by decide, wl_X8_120, tyX8_ok, nmX8, rfl, rfl, fun q => by cases q⟩
theorem wl_X8_228 : Cond.fieldLink RX8 228 (TX8 24).1 (TX8 24).2.1 (TX8 24).2.2.1 ∈ mw := mw_tab 709 (by decide +kernel) rfl
theorem fX8_228 : mFd RX8 228 8 24 := ⟨_, _, _, rfl, wi_X8, by decide, wl_X8_228⟩
theorem pX8_228 : mPd RX8 228 8 24 .long false := ⟨_, _, _, tyX8, rfl, wi_X8, by decide, wl_X8_228, tyX8_ok, nmX8, rfl, rfl, fun q => by cases q⟩
theorem kX8_175 : Cond.constant RX8 175 (100000) ∈ mw := mw_tab 925 (by decide +kernel) rfl
theorem kX8_224 : Cond.constant RX8 224 (-1000000) ∈ mw := mw_tab 982 (by decide +kernel) rfl
theorem kX8_232 : Cond.constantLong RX8 232 (10) ∈ mw := mw_tab 986 (by decide +kernel) rfl
theorem wm_L_9 : Cond.methodLink RL 9 yX7_init ∈ mw := mw_tab 16 (by decide +kernel) rfl
theorem oX7_1 : Cond.methodLink RX7 1 objectInit ∈ mw := mw_tab 19 (by decide +kernel) rfl
theorem oX1_3 : Cond.methodLink RX1 3 objectInit ∈ mw := mw_tab 27 (by decide +kernel) rfl
theorem oX5_3 : Cond.methodLink RX5 3 objectInit ∈ mw := mw_tab 54 (by decide +kernel) rfl
theorem oX3_3 : Cond.methodLink RX3 3 objectInit ∈ mw := mw_tab 97 (by decide +kernel) rfl
theorem oX2_3 : Cond.methodLink RX2 3 objectInit ∈ mw := mw_tab 133 (by decide +kernel) rfl
theorem oX4_3 : Cond.methodLink RX4 3 objectInit ∈ mw := mw_tab 151 (by decide +kernel) rfl
theorem oX6_3 : Cond.methodLink RX6 3 objectInit ∈ mw := mw_tab 164 (by decide +kernel) rfl
theorem oX0_3 : Cond.methodLink RX0 3 objectInit ∈ mw := mw_tab 204 (by decide +kernel) rfl
theorem wm_L_13 : Cond.methodLink RL 13 yX7_type ∈ mw := mw_tab 257 (by decide +kernel) rfl
theorem vL_13 : mCv RL 13 zX7_type 1 7 := ⟨wy_X7_type, wm_L_13, mw_tab 258 (by decide +kernel) rfl, mw_tab 259 (by decide +kernel) rfl, TX7, 11, rfl⟩
theorem wm_X7_73 : Cond.methodLink RX7 73 yX1_append ∈ mw := mw_tab 261 (by decide +kernel) rfl
theorem vX7_73 : mCv RX7 73 zX1_append 1 1 := ⟨wy_X1_append, wm_X7_73, mw_tab 262 (by decide +kernel) rfl, mw_tab 263 (by decide +kernel) rfl, TX1, 6, rfl⟩
theorem wm_L_18 : Cond.methodLink RL 18 yX7_clear ∈ mw := mw_tab 265 (by decide +kernel) rfl
theorem vL_18 : mCv RL 18 zX7_clear 0 7 := ⟨wy_X7_clear, wm_L_18, mw_tab 266 (by decide +kernel) rfl, mw_tab 267 (by decide +kernel) rfl, TX7, 11, rfl⟩
theorem wm_L_23 : Cond.methodLink RL 23 yX7_desk ∈ mw := mw_tab 269 (by decide +kernel) rfl
theorem vL_23 : mCv RL 23 zX7_desk 0 7 := ⟨wy_X7_desk, wm_L_23, mw_tab 270 (by decide +kernel) rfl, mw_tab 271 (by decide +kernel) rfl, TX7, 11, rfl⟩
theorem wm_X7_77 : Cond.methodLink RX7 77 yX1_read ∈ mw := mw_tab 273 (by decide +kernel) rfl
theorem vX7_77 : mCv RX7 77 zX1_read 1 1 := ⟨wy_X1_read, wm_X7_77, mw_tab 274 (by decide +kernel) rfl, mw_tab 275 (by decide +kernel) rfl, TX1, 6, rfl⟩
theorem wm_X1_19 : Cond.methodLink RX1 19 yX5_empty ∈ mw := mw_tab 277 (by decide +kernel) rfl
theorem vX1_19 : mCv RX1 19 zX5_empty 0 5 := ⟨wy_X5_empty, wm_X1_19, mw_tab 278 (by decide +kernel) rfl, mw_tab 279 (by decide +kernel) rfl, TX5, 6, rfl⟩
theorem wm_X1_27 : Cond.methodLink RX1 27 yX1_nextToken ∈ mw := mw_tab 281 (by decide +kernel) rfl
theorem vX1_27 : mCv RX1 27 zX1_nextToken 0 1 := ⟨wy_X1_nextToken, wm_X1_27, mw_tab 283 (by decide +kernel) rfl, mw_sel 0 (by decide +kernel) rfl, TX1, 6, rfl⟩
theorem wm_X1_79 : Cond.methodLink RX1 79 yX1_isLetter ∈ mw := mw_tab 285 (by decide +kernel) rfl
theorem sX1_79 : mCs RX1 79 zX1_isLetter 1 := ⟨wy_X1_isLetter, wm_X1_79, mw_tab 286 (by decide +kernel) rfl⟩
theorem wm_X1_82 : Cond.methodLink RX1 82 yX1_takeLetters ∈ mw := mw_tab 288 (by decide +kernel) rfl
theorem vX1_82 : mCv RX1 82 zX1_takeLetters 0 1 := ⟨wy_X1_takeLetters, wm_X1_82, mw_tab 290 (by decide +kernel) rfl, mw_sel 1 (by decide +kernel) rfl, TX1, 6, rfl⟩
theorem wm_X1_85 : Cond.methodLink RX1 85 yX1_isDigit ∈ mw := mw_tab 292 (by decide +kernel) rfl
theorem sX1_85 : mCs RX1 85 zX1_isDigit 1 := ⟨wy_X1_isDigit, wm_X1_85, mw_tab 293 (by decide +kernel) rfl⟩
theorem wm_X1_88 : Cond.methodLink RX1 88 yX1_takeDigits ∈ mw := mw_tab 295 (by decide +kernel) rfl
theorem vX1_88 : mCv RX1 88 zX1_takeDigits 0 1 := ⟨wy_X1_takeDigits, wm_X1_88, mw_tab 297 (by decide +kernel) rfl, mw_sel 2 (by decide +kernel) rfl, TX1, 6, rfl⟩
theorem aX1_91 : Cond.methodLink RX1 91 Lib.Math.min.name ∈ mw := mw_tab 299 (by decide +kernel) rfl
theorem wm_X1_33 : Cond.methodLink RX1 33 yX1_readItem ∈ mw := mw_tab 302 (by decide +kernel) rfl
theorem vX1_33 : mCv RX1 33 zX1_readItem 1 1 := ⟨wy_X1_readItem, wm_X1_33, mw_tab 304 (by decide +kernel) rfl, mw_sel 3 (by decide +kernel) rfl, TX1, 6, rfl⟩
theorem wm_X1_46 : Cond.methodLink RX1 46 yX1_readBoth ∈ mw := mw_tab 306 (by decide +kernel) rfl
theorem vX1_46 : mCv RX1 46 zX1_readBoth 1 1 := ⟨wy_X1_readBoth, wm_X1_46, mw_tab 308 (by decide +kernel) rfl, mw_sel 4 (by decide +kernel) rfl, TX1, 6, rfl⟩
theorem wm_X1_49 : Cond.methodLink RX1 49 yX1_readCube ∈ mw := mw_tab 310 (by decide +kernel) rfl
theorem vX1_49 : mCv RX1 49 zX1_readCube 1 1 := ⟨wy_X1_readCube, wm_X1_49, mw_tab 312 (by decide +kernel) rfl, mw_sel 5 (by decide +kernel) rfl, TX1, 6, rfl⟩
theorem wm_X1_62 : Cond.methodLink RX1 62 yX1_isNumberBelow ∈ mw := mw_tab 314 (by decide +kernel) rfl
theorem vX1_62 : mCv RX1 62 zX1_isNumberBelow 1 1 := ⟨wy_X1_isNumberBelow, wm_X1_62, mw_tab 316 (by decide +kernel) rfl, mw_sel 6 (by decide +kernel) rfl, TX1, 6, rfl⟩
theorem wm_X1_52 : Cond.methodLink RX1 52 yX1_readDay ∈ mw := mw_tab 318 (by decide +kernel) rfl
theorem vX1_52 : mCv RX1 52 zX1_readDay 1 1 := ⟨wy_X1_readDay, wm_X1_52, mw_tab 320 (by decide +kernel) rfl, mw_sel 7 (by decide +kernel) rfl, TX1, 6, rfl⟩
theorem wm_X1_72 : Cond.methodLink RX1 72 yX5_howManyNumbers ∈ mw := mw_tab 322 (by decide +kernel) rfl
theorem vX1_72 : mCv RX1 72 zX5_howManyNumbers 0 5 := ⟨wy_X5_howManyNumbers, wm_X1_72, mw_tab 323 (by decide +kernel) rfl, mw_tab 324 (by decide +kernel) rfl, TX5, 6, rfl⟩
theorem wm_X7_81 : Cond.methodLink RX7 81 yX3_begin ∈ mw := mw_tab 328 (by decide +kernel) rfl
theorem vX7_81 : mCv RX7 81 zX3_begin 1 3 := ⟨wy_X3_begin, wm_X7_81, mw_tab 329 (by decide +kernel) rfl, mw_tab 330 (by decide +kernel) rfl, TX3, 6, rfl⟩
theorem aX3_27 : Cond.methodLink RX3 27 arraycopyName ∈ mw := mw_tab 332 (by decide +kernel) rfl
theorem wm_X7_88 : Cond.methodLink RX7 88 yX7_forgetImages ∈ mw := mw_tab 335 (by decide +kernel) rfl
theorem vX7_88 : mCv RX7 88 zX7_forgetImages 0 7 := ⟨wy_X7_forgetImages, wm_X7_88, mw_tab 337 (by decide +kernel) rfl, mw_sel 8 (by decide +kernel) rfl, TX7, 11, rfl⟩
theorem wm_L_27 : Cond.methodLink RL 27 yX7_side ∈ mw := mw_tab 339 (by decide +kernel) rfl
theorem vL_27 : mCv RL 27 zX7_side 2 7 := ⟨wy_X7_side, wm_L_27, mw_tab 340 (by decide +kernel) rfl, mw_tab 341 (by decide +kernel) rfl, TX7, 11, rfl⟩
theorem wm_X7_94 : Cond.methodLink RX7 94 yX7_isCube ∈ mw := mw_tab 343 (by decide +kernel) rfl
theorem vX7_94 : mCv RX7 94 zX7_isCube 1 7 := ⟨wy_X7_isCube, wm_X7_94, mw_tab 345 (by decide +kernel) rfl, mw_sel 9 (by decide +kernel) rfl, TX7, 11, rfl⟩
theorem wm_X7_98 : Cond.methodLink RX7 98 yX7_isSide ∈ mw := mw_tab 347 (by decide +kernel) rfl
theorem sX7_98 : mCs RX7 98 zX7_isSide 1 := ⟨wy_X7_isSide, wm_X7_98, mw_tab 348 (by decide +kernel) rfl⟩
theorem wm_L_32 : Cond.methodLink RL 32 yX7_cube ∈ mw := mw_tab 350 (by decide +kernel) rfl
theorem vL_32 : mCv RL 32 zX7_cube 2 7 := ⟨wy_X7_cube, wm_L_32, mw_tab 351 (by decide +kernel) rfl, mw_tab 352 (by decide +kernel) rfl, TX7, 11, rfl⟩
theorem wm_X7_105 : Cond.methodLink RX7 105 yX3_placeOf ∈ mw := mw_tab 354 (by decide +kernel) rfl
theorem vX7_105 : mCv RX7 105 zX3_placeOf 1 3 := ⟨wy_X3_placeOf, wm_X7_105, mw_tab 355 (by decide +kernel) rfl, mw_tab 356 (by decide +kernel) rfl, TX3, 6, rfl⟩
theorem wm_X7_112 : Cond.methodLink RX7 112 yX3_figuresOf ∈ mw := mw_tab 358 (by decide +kernel) rfl
theorem vX7_112 : mCv RX7 112 zX3_figuresOf 1 3 := ⟨wy_X3_figuresOf, wm_X7_112, mw_tab 359 (by decide +kernel) rfl, mw_tab 360 (by decide +kernel) rfl, TX3, 6, rfl⟩
theorem wm_X7_115 : Cond.methodLink RX7 115 yX7_sidesNeeded ∈ mw := mw_tab 362 (by decide +kernel) rfl
theorem vX7_115 : mCv RX7 115 zX7_sidesNeeded 1 7 := ⟨wy_X7_sidesNeeded, wm_X7_115, mw_tab 364 (by decide +kernel) rfl, mw_sel 10 (by decide +kernel) rfl, TX7, 11, rfl⟩
theorem wm_X7_156 : Cond.methodLink RX7 156 yX7_tellersBut ∈ mw := mw_tab 366 (by decide +kernel) rfl
theorem vX7_156 : mCv RX7 156 zX7_tellersBut 1 7 := ⟨wy_X7_tellersBut, wm_X7_156, mw_tab 368 (by decide +kernel) rfl, mw_sel 11 (by decide +kernel) rfl, TX7, 11, rfl⟩
theorem wm_X7_229 : Cond.methodLink RX7 229 yX4_take ∈ mw := mw_tab 370 (by decide +kernel) rfl
theorem vX7_229 : mCv RX7 229 zX4_take 3 4 := ⟨wy_X4_take, wm_X7_229, mw_tab 371 (by decide +kernel) rfl, mw_tab 372 (by decide +kernel) rfl, TX4, 2, rfl⟩
theorem wm_X4_22 : Cond.methodLink RX4 22 yJ7_fill_53178 ∈ mw := mw_tab 374 (by decide +kernel) rfl
theorem sX4_22 : mCs RX4 22 zJ7_fill_53178 2 := ⟨wy_J7_fill_53178, wm_X4_22, mw_tab 375 (by decide +kernel) rfl⟩
theorem wm_X7_166 : Cond.methodLink RX7 166 yX4_daysDone ∈ mw := mw_tab 377 (by decide +kernel) rfl
theorem vX7_166 : mCv RX7 166 zX4_daysDone 1 4 := ⟨wy_X4_daysDone, wm_X7_166, mw_tab 378 (by decide +kernel) rfl, mw_tab 379 (by decide +kernel) rfl, TX4, 2, rfl⟩
theorem wm_X4_47 : Cond.methodLink RX4 47 yX4_canTell ∈ mw := mw_tab 381 (by decide +kernel) rfl
theorem vX4_47 : mCv RX4 47 zX4_canTell 1 4 := ⟨wy_X4_canTell, wm_X4_47, mw_tab 382 (by decide +kernel) rfl, mw_tab 383 (by decide +kernel) rfl, TX4, 2, rfl⟩
theorem wm_X4_37 : Cond.methodLink RX4 37 yX4_withOneMore ∈ mw := mw_tab 385 (by decide +kernel) rfl
theorem vX4_37 : mCv RX4 37 zX4_withOneMore 2 4 := ⟨wy_X4_withOneMore, wm_X4_37, mw_tab 387 (by decide +kernel) rfl, mw_sel 12 (by decide +kernel) rfl, TX4, 2, rfl⟩
theorem wm_L_36 : Cond.methodLink RL 36 yX7_place ∈ mw := mw_tab 391 (by decide +kernel) rfl
theorem vL_36 : mCv RL 36 zX7_place 1 7 := ⟨wy_X7_place, wm_L_36, mw_tab 392 (by decide +kernel) rfl, mw_tab 393 (by decide +kernel) rfl, TX7, 11, rfl⟩
theorem wm_X7_118 : Cond.methodLink RX7 118 yX7_isPlace ∈ mw := mw_tab 395 (by decide +kernel) rfl
theorem vX7_118 : mCv RX7 118 zX7_isPlace 1 7 := ⟨wy_X7_isPlace, wm_X7_118, mw_tab 397 (by decide +kernel) rfl, mw_sel 13 (by decide +kernel) rfl, TX7, 11, rfl⟩
theorem wm_L_40 : Cond.methodLink RL 40 yX7_day ∈ mw := mw_tab 399 (by decide +kernel) rfl
theorem vL_40 : mCv RL 40 zX7_day 1 7 := ⟨wy_X7_day, wm_L_40, mw_tab 400 (by decide +kernel) rfl, mw_tab 401 (by decide +kernel) rfl, TX7, 11, rfl⟩
theorem wm_L_44 : Cond.methodLink RL 44 yX7_turn ∈ mw := mw_tab 403 (by decide +kernel) rfl
theorem vL_44 : mCv RL 44 zX7_turn 2 7 := ⟨wy_X7_turn, wm_L_44, mw_tab 404 (by decide +kernel) rfl, mw_tab 405 (by decide +kernel) rfl, TX7, 11, rfl⟩
theorem wm_X7_130 : Cond.methodLink RX7 130 yX3_turnCube ∈ mw := mw_tab 407 (by decide +kernel) rfl
theorem vX7_130 : mCv RX7 130 zX3_turnCube 2 3 := ⟨wy_X3_turnCube, wm_X7_130, mw_tab 408 (by decide +kernel) rfl, mw_tab 409 (by decide +kernel) rfl, TX3, 6, rfl⟩
theorem wm_X3_40 : Cond.methodLink RX3 40 yX3_remember ∈ mw := mw_tab 411 (by decide +kernel) rfl
theorem vX3_40 : mCv RX3 40 zX3_remember 3 3 := ⟨wy_X3_remember, wm_X3_40, mw_tab 413 (by decide +kernel) rfl, mw_sel 14 (by decide +kernel) rfl, TX3, 6, rfl⟩
theorem wm_X3_44 : Cond.methodLink RX3 44 yX3_turnWork ∈ mw := mw_tab 415 (by decide +kernel) rfl
theorem sX3_44 : mCs RX3 44 zX3_turnWork 2 := ⟨wy_X3_turnWork, wm_X3_44, mw_tab 416 (by decide +kernel) rfl⟩
theorem wm_X3_48 : Cond.methodLink RX3 48 yX3_addWork ∈ mw := mw_tab 418 (by decide +kernel) rfl
theorem vX3_48 : mCv RX3 48 zX3_addWork 1 3 := ⟨wy_X3_addWork, wm_X3_48, mw_tab 420 (by decide +kernel) rfl, mw_sel 15 (by decide +kernel) rfl, TX3, 6, rfl⟩
theorem aX3_56 : Cond.methodLink RX3 56 Lib.Math.min.name ∈ mw := mw_tab 422 (by decide +kernel) rfl
theorem wm_L_48 : Cond.methodLink RL 48 yX7_changes ∈ mw := mw_tab 423 (by decide +kernel) rfl
theorem vL_48 : mCv RL 48 zX7_changes 2 7 := ⟨wy_X7_changes, wm_L_48, mw_tab 424 (by decide +kernel) rfl, mw_tab 425 (by decide +kernel) rfl, TX7, 11, rfl⟩
theorem wm_X7_137 : Cond.methodLink RX7 137 yX3_changePlaces ∈ mw := mw_tab 427 (by decide +kernel) rfl
theorem vX7_137 : mCv RX7 137 zX3_changePlaces 2 3 := ⟨wy_X3_changePlaces, wm_X7_137, mw_tab 428 (by decide +kernel) rfl, mw_tab 429 (by decide +kernel) rfl, TX3, 6, rfl⟩
theorem wm_X3_52 : Cond.methodLink RX3 52 yX3_exchange ∈ mw := mw_tab 431 (by decide +kernel) rfl
theorem vX3_52 : mCv RX3 52 zX3_exchange 2 3 := ⟨wy_X3_exchange, wm_X3_52, mw_tab 433 (by decide +kernel) rfl, mw_sel 16 (by decide +kernel) rfl, TX3, 6, rfl⟩
theorem wm_L_52 : Cond.methodLink RL 52 yX7_pastes ∈ mw := mw_tab 435 (by decide +kernel) rfl
theorem vL_52 : mCv RL 52 zX7_pastes 3 7 := ⟨wy_X7_pastes, wm_L_52, mw_tab 436 (by decide +kernel) rfl, mw_tab 437 (by decide +kernel) rfl, TX7, 11, rfl⟩
theorem wm_X7_140 : Cond.methodLink RX7 140 yX7_isFigure ∈ mw := mw_tab 439 (by decide +kernel) rfl
theorem sX7_140 : mCs RX7 140 zX7_isFigure 1 := ⟨wy_X7_isFigure, wm_X7_140, mw_tab 440 (by decide +kernel) rfl⟩
theorem wm_X7_143 : Cond.methodLink RX7 143 yX3_pasteFigure ∈ mw := mw_tab 442 (by decide +kernel) rfl
theorem vX7_143 : mCv RX7 143 zX3_pasteFigure 2 3 := ⟨wy_X3_pasteFigure, wm_X7_143, mw_tab 443 (by decide +kernel) rfl, mw_tab 444 (by decide +kernel) rfl, TX3, 6, rfl⟩
theorem wm_L_57 : Cond.methodLink RL 57 yX7_undo ∈ mw := mw_tab 446 (by decide +kernel) rfl
theorem vL_57 : mCv RL 57 zX7_undo 0 7 := ⟨wy_X7_undo, wm_L_57, mw_tab 447 (by decide +kernel) rfl, mw_tab 448 (by decide +kernel) rfl, TX7, 11, rfl⟩
theorem wm_X7_149 : Cond.methodLink RX7 149 yX3_takeBack ∈ mw := mw_tab 450 (by decide +kernel) rfl
theorem vX7_149 : mCv RX7 149 zX3_takeBack 0 3 := ⟨wy_X3_takeBack, wm_X7_149, mw_tab 451 (by decide +kernel) rfl, mw_tab 452 (by decide +kernel) rfl, TX3, 6, rfl⟩
theorem wm_L_61 : Cond.methodLink RL 61 yX7_now ∈ mw := mw_tab 454 (by decide +kernel) rfl
theorem vL_61 : mCv RL 61 zX7_now 1 7 := ⟨wy_X7_now, wm_L_61, mw_tab 455 (by decide +kernel) rfl, mw_tab 456 (by decide +kernel) rfl, TX7, 11, rfl⟩
theorem wm_X7_152 : Cond.methodLink RX7 152 yX7_numberInFront ∈ mw := mw_tab 458 (by decide +kernel) rfl
theorem vX7_152 : mCv RX7 152 zX7_numberInFront 0 7 := ⟨wy_X7_numberInFront, wm_X7_152, mw_tab 460 (by decide +kernel) rfl, mw_sel 17 (by decide +kernel) rfl, TX7, 11, rfl⟩
theorem wm_X7_232 : Cond.methodLink RX7 232 yX3_figureInFront ∈ mw := mw_tab 462 (by decide +kernel) rfl
theorem vX7_232 : mCv RX7 232 zX3_figureInFront 1 3 := ⟨wy_X3_figureInFront, wm_X7_232, mw_tab 463 (by decide +kernel) rfl, mw_tab 464 (by decide +kernel) rfl, TX3, 6, rfl⟩
theorem wm_X7_160 : Cond.methodLink RX7 160 yX4_many ∈ mw := mw_tab 466 (by decide +kernel) rfl
theorem vX7_160 : mCv RX7 160 zX4_many 0 4 := ⟨wy_X4_many, wm_X7_160, mw_tab 467 (by decide +kernel) rfl, mw_tab 468 (by decide +kernel) rfl, TX4, 2, rfl⟩
theorem wm_X4_65 : Cond.methodLink RX4 65 yX4_manyFrom ∈ mw := mw_tab 470 (by decide +kernel) rfl
theorem vX4_65 : mCv RX4 65 zX4_manyFrom 5 4 := ⟨wy_X4_manyFrom, wm_X4_65, mw_tab 472 (by decide +kernel) rfl, mw_sel 18 (by decide +kernel) rfl, TX4, 2, rfl⟩
theorem wm_X7_163 : Cond.methodLink RX7 163 yX4_leastUntold ∈ mw := mw_tab 474 (by decide +kernel) rfl
theorem vX7_163 : mCv RX7 163 zX4_leastUntold 0 4 := ⟨wy_X4_leastUntold, wm_X7_163, mw_tab 475 (by decide +kernel) rfl, mw_tab 476 (by decide +kernel) rfl, TX4, 2, rfl⟩
theorem wm_L_65 : Cond.methodLink RL 65 yX7_number ∈ mw := mw_tab 479 (by decide +kernel) rfl
theorem vL_65 : mCv RL 65 zX7_number 2 7 := ⟨wy_X7_number, wm_L_65, mw_tab 480 (by decide +kernel) rfl, mw_tab 481 (by decide +kernel) rfl, TX7, 11, rfl⟩
theorem wm_X7_169 : Cond.methodLink RX7 169 yX7_isNumber ∈ mw := mw_tab 483 (by decide +kernel) rfl
theorem vX7_169 : mCv RX7 169 zX7_isNumber 1 7 := ⟨wy_X7_isNumber, wm_X7_169, mw_tab 485 (by decide +kernel) rfl, mw_sel 19 (by decide +kernel) rfl, TX7, 11, rfl⟩
theorem wm_X7_226 : Cond.methodLink RX7 226 yX5_howManyNumbers ∈ mw := mw_tab 487 (by decide +kernel) rfl
theorem vX7_226 : mCv RX7 226 zX5_howManyNumbers 0 5 := ⟨wy_X5_howManyNumbers, wm_X7_226, mw_tab 323 (by decide +kernel) rfl, mw_tab 324 (by decide +kernel) rfl, TX5, 6, rfl⟩
theorem wm_X7_172 : Cond.methodLink RX7 172 yX7_isTold ∈ mw := mw_tab 488 (by decide +kernel) rfl
theorem vX7_172 : mCv RX7 172 zX7_isTold 1 7 := ⟨wy_X7_isTold, wm_X7_172, mw_tab 490 (by decide +kernel) rfl, mw_sel 20 (by decide +kernel) rfl, TX7, 11, rfl⟩
theorem wm_X7_235 : Cond.methodLink RX7 235 yX5_fits ∈ mw := mw_tab 492 (by decide +kernel) rfl
theorem vX7_235 : mCv RX7 235 zX5_fits 2 5 := ⟨wy_X5_fits, wm_X7_235, mw_tab 493 (by decide +kernel) rfl, mw_tab 494 (by decide +kernel) rfl, TX5, 6, rfl⟩
theorem wm_X5_35 : Cond.methodLink RX5 35 yX5_upright ∈ mw := mw_tab 496 (by decide +kernel) rfl
theorem vX5_35 : mCv RX5 35 zX5_upright 1 5 := ⟨wy_X5_upright, wm_X5_35, mw_tab 497 (by decide +kernel) rfl, mw_tab 498 (by decide +kernel) rfl, TX5, 6, rfl⟩
theorem wm_X7_175 : Cond.methodLink RX7 175 yX4_canTell ∈ mw := mw_tab 500 (by decide +kernel) rfl
theorem vX7_175 : mCv RX7 175 zX4_canTell 1 4 := ⟨wy_X4_canTell, wm_X7_175, mw_tab 382 (by decide +kernel) rfl, mw_tab 383 (by decide +kernel) rfl, TX4, 2, rfl⟩
theorem wm_X7_178 : Cond.methodLink RX7 178 yX7_leastWork ∈ mw := mw_tab 501 (by decide +kernel) rfl
theorem vX7_178 : mCv RX7 178 zX7_leastWork 2 7 := ⟨wy_X7_leastWork, wm_X7_178, mw_tab 503 (by decide +kernel) rfl, mw_sel 21 (by decide +kernel) rfl, TX7, 11, rfl⟩
theorem wm_X7_239 : Cond.methodLink RX7 239 yX6_leastThrough ∈ mw := mw_tab 505 (by decide +kernel) rfl
theorem vX7_239 : mCv RX7 239 zX6_leastThrough 4 6 := ⟨wy_X6_leastThrough, wm_X7_239, mw_tab 506 (by decide +kernel) rfl, mw_tab 507 (by decide +kernel) rfl, TX6, 11, rfl⟩
theorem wm_X6_48 : Cond.methodLink RX6 48 yX6_takeWanted ∈ mw := mw_tab 509 (by decide +kernel) rfl
theorem vX6_48 : mCv RX6 48 zX6_takeWanted 2 6 := ⟨wy_X6_takeWanted, wm_X6_48, mw_tab 511 (by decide +kernel) rfl, mw_sel 22 (by decide +kernel) rfl, TX6, 11, rfl⟩
theorem wm_X6_52 : Cond.methodLink RX6 52 yX6_reckonTurns ∈ mw := mw_tab 513 (by decide +kernel) rfl
theorem vX6_52 : mCv RX6 52 zX6_reckonTurns 1 6 := ⟨wy_X6_reckonTurns, wm_X6_52, mw_tab 515 (by decide +kernel) rfl, mw_sel 23 (by decide +kernel) rfl, TX6, 11, rfl⟩
theorem wm_X6_69 : Cond.methodLink RX6 69 yX6_reckonPathsFrom ∈ mw := mw_tab 517 (by decide +kernel) rfl
theorem vX6_69 : mCv RX6 69 zX6_reckonPathsFrom 3 6 := ⟨wy_X6_reckonPathsFrom, wm_X6_69, mw_tab 519 (by decide +kernel) rfl, mw_sel 24 (by decide +kernel) rfl, TX6, 11, rfl⟩
theorem wm_X6_73 : Cond.methodLink RX6 73 yX6_longerPath ∈ mw := mw_tab 521 (by decide +kernel) rfl
theorem sX6_73 : mCs RX6 73 zX6_longerPath 2 := ⟨wy_X6_longerPath, wm_X6_73, mw_tab 522 (by decide +kernel) rfl⟩
theorem wm_X6_77 : Cond.methodLink RX6 77 yX6_reckonSides ∈ mw := mw_tab 524 (by decide +kernel) rfl
theorem vX6_77 : mCv RX6 77 zX6_reckonSides 3 6 := ⟨wy_X6_reckonSides, wm_X6_77, mw_tab 526 (by decide +kernel) rfl, mw_sel 25 (by decide +kernel) rfl, TX6, 11, rfl⟩
theorem wm_X6_84 : Cond.methodLink RX6 84 yX5_fits ∈ mw := mw_tab 528 (by decide +kernel) rfl
theorem vX6_84 : mCv RX6 84 zX5_fits 2 5 := ⟨wy_X5_fits, wm_X6_84, mw_tab 493 (by decide +kernel) rfl, mw_tab 494 (by decide +kernel) rfl, TX5, 6, rfl⟩
theorem wm_X6_88 : Cond.methodLink RX6 88 yX3_turnWork ∈ mw := mw_tab 529 (by decide +kernel) rfl
theorem sX6_88 : mCs RX6 88 zX3_turnWork 2 := ⟨wy_X3_turnWork, wm_X6_88, mw_tab 416 (by decide +kernel) rfl⟩
theorem aX6_91 : Cond.methodLink RX6 91 Lib.Math.min.name ∈ mw := mw_tab 530 (by decide +kernel) rfl
theorem wm_X6_62 : Cond.methodLink RX6 62 yX6_choose ∈ mw := mw_tab 531 (by decide +kernel) rfl
theorem vX6_62 : mCv RX6 62 zX6_choose 4 6 := ⟨wy_X6_choose, wm_X6_62, mw_tab 533 (by decide +kernel) rfl, mw_sel 26 (by decide +kernel) rfl, TX6, 11, rfl⟩
theorem wm_X6_96 : Cond.methodLink RX6 96 yX6_changesTo ∈ mw := mw_tab 535 (by decide +kernel) rfl
theorem vX6_96 : mCv RX6 96 zX6_changesTo 1 6 := ⟨wy_X6_changesTo, wm_X6_96, mw_tab 537 (by decide +kernel) rfl, mw_sel 27 (by decide +kernel) rfl, TX6, 11, rfl⟩
theorem wm_X6_100 : Cond.methodLink RX6 100 yX6_goOn ∈ mw := mw_tab 539 (by decide +kernel) rfl
theorem vX6_100 : mCv RX6 100 zX6_goOn 2 6 := ⟨wy_X6_goOn, wm_X6_100, mw_tab 541 (by decide +kernel) rfl, mw_sel 28 (by decide +kernel) rfl, TX6, 11, rfl⟩
theorem wm_X7_182 : Cond.methodLink RX7 182 yX4_fewestPastes ∈ mw := mw_tab 543 (by decide +kernel) rfl
theorem vX7_182 : mCv RX7 182 zX4_fewestPastes 1 4 := ⟨wy_X4_fewestPastes, wm_X7_182, mw_tab 544 (by decide +kernel) rfl, mw_tab 545 (by decide +kernel) rfl, TX4, 2, rfl⟩
theorem wm_X4_54 : Cond.methodLink RX4 54 yJ6_bitCount_0f7a4 ∈ mw := mw_tab 547 (by decide +kernel) rfl
theorem sX4_54 : mCs RX4 54 zJ6_bitCount_0f7a4 1 := ⟨wy_J6_bitCount_0f7a4, wm_X4_54, mw_tab 548 (by decide +kernel) rfl⟩
theorem aX4_60 : Cond.methodLink RX4 60 Lib.Math.max.name ∈ mw := mw_tab 553 (by decide +kernel) rfl
theorem wm_L_69 : Cond.methodLink RL 69 yX7_through ∈ mw := mw_tab 556 (by decide +kernel) rfl
theorem vL_69 : mCv RL 69 zX7_through 2 7 := ⟨wy_X7_through, wm_L_69, mw_tab 557 (by decide +kernel) rfl, mw_tab 558 (by decide +kernel) rfl, TX7, 11, rfl⟩
theorem wm_L_73 : Cond.methodLink RL 73 yX7_odds ∈ mw := mw_tab 560 (by decide +kernel) rfl
theorem vL_73 : mCv RL 73 zX7_odds 2 7 := ⟨wy_X7_odds, wm_L_73, mw_tab 561 (by decide +kernel) rfl, mw_tab 562 (by decide +kernel) rfl, TX7, 11, rfl⟩
theorem wm_X7_185 : Cond.methodLink RX7 185 yX0_reckon ∈ mw := mw_tab 564 (by decide +kernel) rfl
theorem vX7_185 : mCv RX7 185 zX0_reckon 3 0 := ⟨wy_X0_reckon, wm_X7_185, mw_tab 565 (by decide +kernel) rfl, mw_tab 566 (by decide +kernel) rfl, TX0, 5, rfl⟩
theorem wm_X0_23 : Cond.methodLink RX0 23 yJ7_fill_53178 ∈ mw := mw_tab 568 (by decide +kernel) rfl
theorem sX0_23 : mCs RX0 23 zJ7_fill_53178 2 := ⟨wy_J7_fill_53178, wm_X0_23, mw_tab 375 (by decide +kernel) rfl⟩
theorem wm_X0_35 : Cond.methodLink RX0 35 yX5_upright ∈ mw := mw_tab 569 (by decide +kernel) rfl
theorem vX0_35 : mCv RX0 35 zX5_upright 1 5 := ⟨wy_X5_upright, wm_X0_35, mw_tab 497 (by decide +kernel) rfl, mw_tab 498 (by decide +kernel) rfl, TX5, 6, rfl⟩
theorem wm_X0_39 : Cond.methodLink RX0 39 yX0_fallsFrom ∈ mw := mw_tab 570 (by decide +kernel) rfl
theorem vX0_39 : mCv RX0 39 zX0_fallsFrom 1 0 := ⟨wy_X0_fallsFrom, wm_X0_39, mw_tab 572 (by decide +kernel) rfl, mw_sel 29 (by decide +kernel) rfl, TX0, 5, rfl⟩
theorem wm_X0_51 : Cond.methodLink RX0 51 yX0_reduce ∈ mw := mw_tab 576 (by decide +kernel) rfl
theorem vX0_51 : mCv RX0 51 zX0_reduce 0 0 := ⟨wy_X0_reduce, wm_X0_51, mw_tab 578 (by decide +kernel) rfl, mw_sel 30 (by decide +kernel) rfl, TX0, 5, rfl⟩
theorem wm_X0_59 : Cond.methodLink RX0 59 yX0_reduceBy ∈ mw := mw_tab 580 (by decide +kernel) rfl
theorem vX0_59 : mCv RX0 59 zX0_reduceBy 1 0 := ⟨wy_X0_reduceBy, wm_X0_59, mw_tab 582 (by decide +kernel) rfl, mw_sel 31 (by decide +kernel) rfl, TX0, 5, rfl⟩
theorem wm_L_77 : Cond.methodLink RL 77 yX7_sees ∈ mw := mw_tab 584 (by decide +kernel) rfl
theorem vL_77 : mCv RL 77 zX7_sees 2 7 := ⟨wy_X7_sees, wm_L_77, mw_tab 585 (by decide +kernel) rfl, mw_tab 586 (by decide +kernel) rfl, TX7, 11, rfl⟩
theorem wm_X7_195 : Cond.methodLink RX7 195 yX2_append ∈ mw := mw_tab 588 (by decide +kernel) rfl
theorem vX7_195 : mCv RX7 195 zX2_append 2 2 := ⟨wy_X2_append, wm_X7_195, mw_tab 589 (by decide +kernel) rfl, mw_tab 590 (by decide +kernel) rfl, TX2, 3, rfl⟩
theorem wm_L_81 : Cond.methodLink RL 81 yX7_forget ∈ mw := mw_tab 592 (by decide +kernel) rfl
theorem vL_81 : mCv RL 81 zX7_forget 0 7 := ⟨wy_X7_forget, wm_L_81, mw_tab 593 (by decide +kernel) rfl, mw_tab 594 (by decide +kernel) rfl, TX7, 11, rfl⟩
theorem wm_L_85 : Cond.methodLink RL 85 yX7_which ∈ mw := mw_tab 596 (by decide +kernel) rfl
theorem vL_85 : mCv RL 85 zX7_which 0 7 := ⟨wy_X7_which, wm_L_85, mw_tab 597 (by decide +kernel) rfl, mw_tab 598 (by decide +kernel) rfl, TX7, 11, rfl⟩
theorem wm_X7_200 : Cond.methodLink RX7 200 yX2_cubesThatMayBe ∈ mw := mw_tab 600 (by decide +kernel) rfl
theorem vX7_200 : mCv RX7 200 zX2_cubesThatMayBe 2 2 := ⟨wy_X2_cubesThatMayBe, wm_X7_200, mw_tab 601 (by decide +kernel) rfl, mw_tab 602 (by decide +kernel) rfl, TX2, 3, rfl⟩
theorem wm_X2_22 : Cond.methodLink RX2 22 yX3_figuresOf ∈ mw := mw_tab 604 (by decide +kernel) rfl
theorem vX2_22 : mCv RX2 22 zX3_figuresOf 1 3 := ⟨wy_X3_figuresOf, wm_X2_22, mw_tab 359 (by decide +kernel) rfl, mw_tab 360 (by decide +kernel) rfl, TX3, 6, rfl⟩
theorem wm_X2_28 : Cond.methodLink RX2 28 yX2_mayBe ∈ mw := mw_tab 605 (by decide +kernel) rfl
theorem vX2_28 : mCv RX2 28 zX2_mayBe 1 2 := ⟨wy_X2_mayBe, wm_X2_28, mw_tab 607 (by decide +kernel) rfl, mw_sel 32 (by decide +kernel) rfl, TX2, 3, rfl⟩
theorem wm_L_89 : Cond.methodLink RL 89 yX7_look ∈ mw := mw_tab 609 (by decide +kernel) rfl
theorem vL_89 : mCv RL 89 zX7_look 0 7 := ⟨wy_X7_look, wm_L_89, mw_tab 610 (by decide +kernel) rfl, mw_tab 611 (by decide +kernel) rfl, TX7, 11, rfl⟩
theorem wm_X7_204 : Cond.methodLink RX7 204 yX2_bestToLookFor ∈ mw := mw_tab 613 (by decide +kernel) rfl
theorem vX7_204 : mCv RX7 204 zX2_bestToLookFor 2 2 := ⟨wy_X2_bestToLookFor, wm_X7_204, mw_tab 614 (by decide +kernel) rfl, mw_tab 615 (by decide +kernel) rfl, TX2, 3, rfl⟩
theorem wm_X2_32 : Cond.methodLink RX2 32 yX2_cubesThatMayBe ∈ mw := mw_tab 617 (by decide +kernel) rfl
theorem vX2_32 : mCv RX2 32 zX2_cubesThatMayBe 2 2 := ⟨wy_X2_cubesThatMayBe, wm_X2_32, mw_tab 601 (by decide +kernel) rfl, mw_tab 602 (by decide +kernel) rfl, TX2, 3, rfl⟩
theorem wm_X2_36 : Cond.methodLink RX2 36 yJ6_bitCount_0f7a4 ∈ mw := mw_tab 618 (by decide +kernel) rfl
theorem sX2_36 : mCs RX2 36 zJ6_bitCount_0f7a4 1 := ⟨wy_J6_bitCount_0f7a4, wm_X2_36, mw_tab 548 (by decide +kernel) rfl⟩
theorem wm_X2_41 : Cond.methodLink RX2 41 yX2_howManyHave ∈ mw := mw_tab 619 (by decide +kernel) rfl
theorem sX2_41 : mCs RX2 41 zX2_howManyHave 4 := ⟨wy_X2_howManyHave, wm_X2_41, mw_tab 620 (by decide +kernel) rfl⟩
theorem aX2_45 : Cond.methodLink RX2 45 Lib.Math.max.name ∈ mw := mw_tab 622 (by decide +kernel) rfl
theorem wm_L_93 : Cond.methodLink RL 93 yX7_mark ∈ mw := mw_tab 623 (by decide +kernel) rfl
theorem vL_93 : mCv RL 93 zX7_mark 2 7 := ⟨wy_X7_mark, wm_L_93, mw_tab 624 (by decide +kernel) rfl, mw_tab 625 (by decide +kernel) rfl, TX7, 11, rfl⟩
theorem wm_X7_208 : Cond.methodLink RX7 208 yX7_markAs ∈ mw := mw_tab 628 (by decide +kernel) rfl
theorem vX7_208 : mCv RX7 208 zX7_markAs 2 7 := ⟨wy_X7_markAs, wm_X7_208, mw_tab 630 (by decide +kernel) rfl, mw_sel 33 (by decide +kernel) rfl, TX7, 11, rfl⟩
theorem wm_X7_249 : Cond.methodLink RX7 249 yJ6_bitCount_0f7a4 ∈ mw := mw_tab 636 (by decide +kernel) rfl
theorem sX7_249 : mCs RX7 249 zJ6_bitCount_0f7a4 1 := ⟨wy_J6_bitCount_0f7a4, wm_X7_249, mw_tab 548 (by decide +kernel) rfl⟩
theorem wm_L_97 : Cond.methodLink RL 97 yX7_keep ∈ mw := mw_tab 637 (by decide +kernel) rfl
theorem vL_97 : mCv RL 97 zX7_keep 1 7 := ⟨wy_X7_keep, wm_L_97, mw_tab 638 (by decide +kernel) rfl, mw_tab 639 (by decide +kernel) rfl, TX7, 11, rfl⟩
theorem wm_X7_211 : Cond.methodLink RX7 211 yX7_isImage ∈ mw := mw_tab 641 (by decide +kernel) rfl
theorem sX7_211 : mCs RX7 211 zX7_isImage 1 := ⟨wy_X7_isImage, wm_X7_211, mw_tab 642 (by decide +kernel) rfl⟩
theorem wm_X7_214 : Cond.methodLink RX7 214 yX3_copy ∈ mw := mw_tab 644 (by decide +kernel) rfl
theorem vX7_214 : mCv RX7 214 zX3_copy 1 3 := ⟨wy_X3_copy, wm_X7_214, mw_tab 645 (by decide +kernel) rfl, mw_tab 646 (by decide +kernel) rfl, TX3, 6, rfl⟩
theorem wm_L_101 : Cond.methodLink RL 101 yX7_back ∈ mw := mw_tab 648 (by decide +kernel) rfl
theorem vL_101 : mCv RL 101 zX7_back 1 7 := ⟨wy_X7_back, wm_L_101, mw_tab 649 (by decide +kernel) rfl, mw_tab 650 (by decide +kernel) rfl, TX7, 11, rfl⟩
theorem wm_L_105 : Cond.methodLink RL 105 yX7_count ∈ mw := mw_tab 652 (by decide +kernel) rfl
theorem vL_105 : mCv RL 105 zX7_count 1 7 := ⟨wy_X7_count, wm_L_105, mw_tab 653 (by decide +kernel) rfl, mw_tab 654 (by decide +kernel) rfl, TX7, 11, rfl⟩
theorem wm_L_109 : Cond.methodLink RL 109 yX7_trace ∈ mw := mw_tab 656 (by decide +kernel) rfl
theorem vL_109 : mCv RL 109 zX7_trace 0 7 := ⟨wy_X7_trace, wm_L_109, mw_tab 657 (by decide +kernel) rfl, mw_tab 658 (by decide +kernel) rfl, TX7, 11, rfl⟩
theorem wm_L_12 : Cond.methodLink RL 12 yX8_init ∈ mw := mw_tab 662 (by decide +kernel) rfl
theorem oX8_1 : Cond.methodLink RX8 1 objectInit ∈ mw := mw_tab 665 (by decide +kernel) rfl
theorem wm_X8_57 : Cond.methodLink RX8 57 yX8_begin ∈ mw := mw_tab 666 (by decide +kernel) rfl
theorem vX8_57 : mCv RX8 57 zX8_begin 0 8 := ⟨wy_X8_begin, wm_X8_57, mw_tab 668 (by decide +kernel) rfl, mw_sel 34 (by decide +kernel) rfl, TX8, 25, rfl⟩
theorem wm_X8_60 : Cond.methodLink RX8 60 yX8_tellOrders ∈ mw := mw_tab 670 (by decide +kernel) rfl
theorem vX8_60 : mCv RX8 60 zX8_tellOrders 0 8 := ⟨wy_X8_tellOrders, wm_X8_60, mw_tab 672 (by decide +kernel) rfl, mw_sel 35 (by decide +kernel) rfl, TX8, 25, rfl⟩
theorem wm_X8_180 : Cond.methodLink RX8 180 yX8_codes ∈ mw := mw_tab 674 (by decide +kernel) rfl
theorem vX8_180 : mCv RX8 180 zX8_codes 0 8 := ⟨wy_X8_codes, wm_X8_180, mw_tab 676 (by decide +kernel) rfl, mw_sel 36 (by decide +kernel) rfl, TX8, 25, rfl⟩
theorem wm_X8_183 : Cond.methodLink RX8 183 yX8_isOrder ∈ mw := mw_tab 678 (by decide +kernel) rfl
theorem vX8_183 : mCv RX8 183 zX8_isOrder 1 8 := ⟨wy_X8_isOrder, wm_X8_183, mw_tab 680 (by decide +kernel) rfl, mw_sel 37 (by decide +kernel) rfl, TX8, 25, rfl⟩
theorem wm_X8_127 : Cond.methodLink RX8 127 yX8_cubeIn ∈ mw := mw_tab 682 (by decide +kernel) rfl
theorem sX8_127 : mCs RX8 127 zX8_cubeIn 2 := ⟨wy_X8_cubeIn, wm_X8_127, mw_tab 683 (by decide +kernel) rfl⟩
theorem wm_L_17 : Cond.methodLink RL 17 yX8_type ∈ mw := mw_tab 762 (by decide +kernel) rfl
theorem vL_17 : mCv RL 17 zX8_type 1 8 := ⟨wy_X8_type, wm_L_17, mw_tab 763 (by decide +kernel) rfl, mw_tab 764 (by decide +kernel) rfl, TX8, 25, rfl⟩
theorem wm_X8_63 : Cond.methodLink RX8 63 yX8_in ∈ mw := mw_tab 766 (by decide +kernel) rfl
theorem sX8_63 : mCs RX8 63 zX8_in 3 := ⟨wy_X8_in, wm_X8_63, mw_tab 767 (by decide +kernel) rfl⟩
theorem wm_L_22 : Cond.methodLink RL 22 yX8_clear ∈ mw := mw_tab 769 (by decide +kernel) rfl
theorem vL_22 : mCv RL 22 zX8_clear 0 8 := ⟨wy_X8_clear, wm_L_22, mw_tab 770 (by decide +kernel) rfl, mw_tab 771 (by decide +kernel) rfl, TX8, 25, rfl⟩
theorem wm_L_26 : Cond.methodLink RL 26 yX8_desk ∈ mw := mw_tab 773 (by decide +kernel) rfl
theorem vL_26 : mCv RL 26 zX8_desk 0 8 := ⟨wy_X8_desk, wm_L_26, mw_tab 774 (by decide +kernel) rfl, mw_tab 775 (by decide +kernel) rfl, TX8, 25, rfl⟩
theorem wm_X8_117 : Cond.methodLink RX8 117 yX8_read ∈ mw := mw_tab 777 (by decide +kernel) rfl
theorem vX8_117 : mCv RX8 117 zX8_read 0 8 := ⟨wy_X8_read, wm_X8_117, mw_tab 779 (by decide +kernel) rfl, mw_sel 38 (by decide +kernel) rfl, TX8, 25, rfl⟩
theorem wm_X8_91 : Cond.methodLink RX8 91 yX8_step ∈ mw := mw_tab 781 (by decide +kernel) rfl
theorem vX8_91 : mCv RX8 91 zX8_step 0 8 := ⟨wy_X8_step, wm_X8_91, mw_tab 783 (by decide +kernel) rfl, mw_sel 39 (by decide +kernel) rfl, TX8, 25, rfl⟩
theorem wm_X8_74 : Cond.methodLink RX8 74 yX8_here ∈ mw := mw_tab 785 (by decide +kernel) rfl
theorem vX8_74 : mCv RX8 74 zX8_here 0 8 := ⟨wy_X8_here, wm_X8_74, mw_tab 787 (by decide +kernel) rfl, mw_sel 40 (by decide +kernel) rfl, TX8, 25, rfl⟩
theorem wm_X8_109 : Cond.methodLink RX8 109 yX8_may ∈ mw := mw_tab 789 (by decide +kernel) rfl
theorem vX8_109 : mCv RX8 109 zX8_may 1 8 := ⟨wy_X8_may, wm_X8_109, mw_tab 791 (by decide +kernel) rfl, mw_sel 41 (by decide +kernel) rfl, TX8, 25, rfl⟩
theorem wm_X8_94 : Cond.methodLink RX8 94 yX8_due ∈ mw := mw_tab 793 (by decide +kernel) rfl
theorem vX8_94 : mCv RX8 94 zX8_due 1 8 := ⟨wy_X8_due, wm_X8_94, mw_tab 795 (by decide +kernel) rfl, mw_sel 42 (by decide +kernel) rfl, TX8, 25, rfl⟩
theorem wm_X8_113 : Cond.methodLink RX8 113 yX8_item ∈ mw := mw_tab 797 (by decide +kernel) rfl
theorem vX8_113 : mCv RX8 113 zX8_item 1 8 := ⟨wy_X8_item, wm_X8_113, mw_tab 799 (by decide +kernel) rfl, mw_sel 43 (by decide +kernel) rfl, TX8, 25, rfl⟩
theorem wm_X8_98 : Cond.methodLink RX8 98 yX8_amount ∈ mw := mw_tab 801 (by decide +kernel) rfl
theorem vX8_98 : mCv RX8 98 zX8_amount 2 8 := ⟨wy_X8_amount, wm_X8_98, mw_tab 803 (by decide +kernel) rfl, mw_sel 44 (by decide +kernel) rfl, TX8, 25, rfl⟩
theorem wm_X8_102 : Cond.methodLink RX8 102 yX8_power ∈ mw := mw_tab 805 (by decide +kernel) rfl
theorem sX8_102 : mCs RX8 102 zX8_power 1 := ⟨wy_X8_power, wm_X8_102, mw_tab 806 (by decide +kernel) rfl⟩
theorem wm_L_31 : Cond.methodLink RL 31 yX8_side ∈ mw := mw_tab 808 (by decide +kernel) rfl
theorem vL_31 : mCv RL 31 zX8_side 2 8 := ⟨wy_X8_side, wm_L_31, mw_tab 809 (by decide +kernel) rfl, mw_tab 810 (by decide +kernel) rfl, TX8, 25, rfl⟩
theorem wm_X8_148 : Cond.methodLink RX8 148 yX8_isCube ∈ mw := mw_tab 812 (by decide +kernel) rfl
theorem vX8_148 : mCv RX8 148 zX8_isCube 1 8 := ⟨wy_X8_isCube, wm_X8_148, mw_tab 814 (by decide +kernel) rfl, mw_sel 45 (by decide +kernel) rfl, TX8, 25, rfl⟩
theorem wm_X8_151 : Cond.methodLink RX8 151 yX8_isSide ∈ mw := mw_tab 816 (by decide +kernel) rfl
theorem sX8_151 : mCs RX8 151 zX8_isSide 1 := ⟨wy_X8_isSide, wm_X8_151, mw_tab 817 (by decide +kernel) rfl⟩
theorem wm_L_35 : Cond.methodLink RL 35 yX8_cube ∈ mw := mw_tab 819 (by decide +kernel) rfl
theorem vL_35 : mCv RL 35 zX8_cube 2 8 := ⟨wy_X8_cube, wm_L_35, mw_tab 820 (by decide +kernel) rfl, mw_tab 821 (by decide +kernel) rfl, TX8, 25, rfl⟩
theorem wm_X8_154 : Cond.methodLink RX8 154 yX8_placeOf ∈ mw := mw_tab 823 (by decide +kernel) rfl
theorem vX8_154 : mCv RX8 154 zX8_placeOf 1 8 := ⟨wy_X8_placeOf, wm_X8_154, mw_tab 825 (by decide +kernel) rfl, mw_sel 46 (by decide +kernel) rfl, TX8, 25, rfl⟩
theorem wm_X8_157 : Cond.methodLink RX8 157 yX8_figuresOf ∈ mw := mw_tab 827 (by decide +kernel) rfl
theorem vX8_157 : mCv RX8 157 zX8_figuresOf 1 8 := ⟨wy_X8_figuresOf, wm_X8_157, mw_tab 829 (by decide +kernel) rfl, mw_sel 47 (by decide +kernel) rfl, TX8, 25, rfl⟩
theorem wm_X8_160 : Cond.methodLink RX8 160 yX8_neededOf ∈ mw := mw_tab 831 (by decide +kernel) rfl
theorem vX8_160 : mCv RX8 160 zX8_neededOf 1 8 := ⟨wy_X8_neededOf, wm_X8_160, mw_tab 833 (by decide +kernel) rfl, mw_sel 48 (by decide +kernel) rfl, TX8, 25, rfl⟩
theorem wm_X8_142 : Cond.methodLink RX8 142 yX8_doneNow ∈ mw := mw_tab 835 (by decide +kernel) rfl
theorem vX8_142 : mCv RX8 142 zX8_doneNow 0 8 := ⟨wy_X8_doneNow, wm_X8_142, mw_tab 837 (by decide +kernel) rfl, mw_sel 49 (by decide +kernel) rfl, TX8, 25, rfl⟩
theorem wm_X8_139 : Cond.methodLink RX8 139 yX8_can ∈ mw := mw_tab 839 (by decide +kernel) rfl
theorem vX8_139 : mCv RX8 139 zX8_can 3 8 := ⟨wy_X8_can, wm_X8_139, mw_tab 841 (by decide +kernel) rfl, mw_sel 50 (by decide +kernel) rfl, TX8, 25, rfl⟩
theorem wm_X8_133 : Cond.methodLink RX8 133 yX8_figureOf ∈ mw := mw_tab 843 (by decide +kernel) rfl
theorem vX8_133 : mCv RX8 133 zX8_figureOf 2 8 := ⟨wy_X8_figureOf, wm_X8_133, mw_tab 845 (by decide +kernel) rfl, mw_sel 51 (by decide +kernel) rfl, TX8, 25, rfl⟩
theorem wm_X8_136 : Cond.methodLink RX8 136 yX8_hasFit ∈ mw := mw_tab 847 (by decide +kernel) rfl
theorem vX8_136 : mCv RX8 136 zX8_hasFit 3 8 := ⟨wy_X8_hasFit, wm_X8_136, mw_tab 849 (by decide +kernel) rfl, mw_sel 52 (by decide +kernel) rfl, TX8, 25, rfl⟩
theorem wm_X8_123 : Cond.methodLink RX8 123 yX8_fits ∈ mw := mw_tab 851 (by decide +kernel) rfl
theorem vX8_123 : mCv RX8 123 zX8_fits 2 8 := ⟨wy_X8_fits, wm_X8_123, mw_tab 853 (by decide +kernel) rfl, mw_sel 53 (by decide +kernel) rfl, TX8, 25, rfl⟩
theorem wm_X8_145 : Cond.methodLink RX8 145 yX8_has ∈ mw := mw_tab 855 (by decide +kernel) rfl
theorem sX8_145 : mCs RX8 145 zX8_has 2 := ⟨wy_X8_has, wm_X8_145, mw_tab 856 (by decide +kernel) rfl⟩
theorem wm_L_39 : Cond.methodLink RL 39 yX8_place ∈ mw := mw_tab 858 (by decide +kernel) rfl
theorem vL_39 : mCv RL 39 zX8_place 1 8 := ⟨wy_X8_place, wm_L_39, mw_tab 859 (by decide +kernel) rfl, mw_tab 860 (by decide +kernel) rfl, TX8, 25, rfl⟩
theorem wm_L_43 : Cond.methodLink RL 43 yX8_day ∈ mw := mw_tab 862 (by decide +kernel) rfl
theorem vL_43 : mCv RL 43 zX8_day 1 8 := ⟨wy_X8_day, wm_L_43, mw_tab 863 (by decide +kernel) rfl, mw_tab 864 (by decide +kernel) rfl, TX8, 25, rfl⟩
theorem wm_L_47 : Cond.methodLink RL 47 yX8_turn ∈ mw := mw_tab 866 (by decide +kernel) rfl
theorem vL_47 : mCv RL 47 zX8_turn 2 8 := ⟨wy_X8_turn, wm_L_47, mw_tab 867 (by decide +kernel) rfl, mw_tab 868 (by decide +kernel) rfl, TX8, 25, rfl⟩
theorem wm_X8_163 : Cond.methodLink RX8 163 yX8_know ∈ mw := mw_tab 870 (by decide +kernel) rfl
theorem vX8_163 : mCv RX8 163 zX8_know 0 8 := ⟨wy_X8_know, wm_X8_163, mw_tab 872 (by decide +kernel) rfl, mw_sel 54 (by decide +kernel) rfl, TX8, 25, rfl⟩
theorem wm_X8_166 : Cond.methodLink RX8 166 yX8_turnsTo ∈ mw := mw_tab 874 (by decide +kernel) rfl
theorem sX8_166 : mCs RX8 166 zX8_turnsTo 2 := ⟨wy_X8_turnsTo, wm_X8_166, mw_tab 875 (by decide +kernel) rfl⟩
theorem wm_X8_169 : Cond.methodLink RX8 169 yX8_worked ∈ mw := mw_tab 877 (by decide +kernel) rfl
theorem vX8_169 : mCv RX8 169 zX8_worked 1 8 := ⟨wy_X8_worked, wm_X8_169, mw_tab 879 (by decide +kernel) rfl, mw_sel 55 (by decide +kernel) rfl, TX8, 25, rfl⟩
theorem wm_L_51 : Cond.methodLink RL 51 yX8_changes ∈ mw := mw_tab 881 (by decide +kernel) rfl
theorem vL_51 : mCv RL 51 zX8_changes 2 8 := ⟨wy_X8_changes, wm_L_51, mw_tab 882 (by decide +kernel) rfl, mw_tab 883 (by decide +kernel) rfl, TX8, 25, rfl⟩
theorem wm_L_56 : Cond.methodLink RL 56 yX8_pastes ∈ mw := mw_tab 885 (by decide +kernel) rfl
theorem vL_56 : mCv RL 56 zX8_pastes 3 8 := ⟨wy_X8_pastes, wm_L_56, mw_tab 886 (by decide +kernel) rfl, mw_tab 887 (by decide +kernel) rfl, TX8, 25, rfl⟩
theorem wm_L_60 : Cond.methodLink RL 60 yX8_undo ∈ mw := mw_tab 889 (by decide +kernel) rfl
theorem vL_60 : mCv RL 60 zX8_undo 0 8 := ⟨wy_X8_undo, wm_L_60, mw_tab 890 (by decide +kernel) rfl, mw_tab 891 (by decide +kernel) rfl, TX8, 25, rfl⟩
theorem wm_L_64 : Cond.methodLink RL 64 yX8_now ∈ mw := mw_tab 893 (by decide +kernel) rfl
theorem vL_64 : mCv RL 64 zX8_now 1 8 := ⟨wy_X8_now, wm_L_64, mw_tab 894 (by decide +kernel) rfl, mw_tab 895 (by decide +kernel) rfl, TX8, 25, rfl⟩
theorem wm_X8_172 : Cond.methodLink RX8 172 yX8_inFront ∈ mw := mw_tab 897 (by decide +kernel) rfl
theorem vX8_172 : mCv RX8 172 zX8_inFront 1 8 := ⟨wy_X8_inFront, wm_X8_172, mw_tab 899 (by decide +kernel) rfl, mw_sel 56 (by decide +kernel) rfl, TX8, 25, rfl⟩
theorem wm_L_68 : Cond.methodLink RL 68 yX8_number ∈ mw := mw_tab 901 (by decide +kernel) rfl
theorem vL_68 : mCv RL 68 zX8_number 2 8 := ⟨wy_X8_number, wm_L_68, mw_tab 902 (by decide +kernel) rfl, mw_tab 903 (by decide +kernel) rfl, TX8, 25, rfl⟩
theorem wm_X8_203 : Cond.methodLink RX8 203 yX8_isNumber ∈ mw := mw_tab 905 (by decide +kernel) rfl
theorem vX8_203 : mCv RX8 203 zX8_isNumber 1 8 := ⟨wy_X8_isNumber, wm_X8_203, mw_tab 907 (by decide +kernel) rfl, mw_sel 57 (by decide +kernel) rfl, TX8, 25, rfl⟩
theorem wm_X8_206 : Cond.methodLink RX8 206 yX8_isTold ∈ mw := mw_tab 909 (by decide +kernel) rfl
theorem vX8_206 : mCv RX8 206 zX8_isTold 1 8 := ⟨wy_X8_isTold, wm_X8_206, mw_tab 911 (by decide +kernel) rfl, mw_sel 58 (by decide +kernel) rfl, TX8, 25, rfl⟩
theorem wm_X8_209 : Cond.methodLink RX8 209 yX8_workFor ∈ mw := mw_tab 913 (by decide +kernel) rfl
theorem vX8_209 : mCv RX8 209 zX8_workFor 2 8 := ⟨wy_X8_workFor, wm_X8_209, mw_tab 915 (by decide +kernel) rfl, mw_sel 59 (by decide +kernel) rfl, TX8, 25, rfl⟩
theorem wm_X8_189 : Cond.methodLink RX8 189 yX8_tellTurns ∈ mw := mw_tab 917 (by decide +kernel) rfl
theorem vX8_189 : mCv RX8 189 zX8_tellTurns 2 8 := ⟨wy_X8_tellTurns, wm_X8_189, mw_tab 919 (by decide +kernel) rfl, mw_sel 60 (by decide +kernel) rfl, TX8, 25, rfl⟩
theorem wm_X8_176 : Cond.methodLink RX8 176 yX8_turnsFor ∈ mw := mw_tab 921 (by decide +kernel) rfl
theorem vX8_176 : mCv RX8 176 zX8_turnsFor 5 8 := ⟨wy_X8_turnsFor, wm_X8_176, mw_tab 923 (by decide +kernel) rfl, mw_sel 61 (by decide +kernel) rfl, TX8, 25, rfl⟩
theorem wm_X8_193 : Cond.methodLink RX8 193 yX8_orderNow ∈ mw := mw_tab 926 (by decide +kernel) rfl
theorem vX8_193 : mCv RX8 193 zX8_orderNow 0 8 := ⟨wy_X8_orderNow, wm_X8_193, mw_tab 928 (by decide +kernel) rfl, mw_sel 62 (by decide +kernel) rfl, TX8, 25, rfl⟩
theorem wm_X8_196 : Cond.methodLink RX8 196 yX8_changesTo ∈ mw := mw_tab 930 (by decide +kernel) rfl
theorem vX8_196 : mCv RX8 196 zX8_changesTo 2 8 := ⟨wy_X8_changesTo, wm_X8_196, mw_tab 932 (by decide +kernel) rfl, mw_sel 63 (by decide +kernel) rfl, TX8, 25, rfl⟩
theorem wm_X8_199 : Cond.methodLink RX8 199 yX8_workBy ∈ mw := mw_tab 934 (by decide +kernel) rfl
theorem vX8_199 : mCv RX8 199 zX8_workBy 3 8 := ⟨wy_X8_workBy, wm_X8_199, mw_tab 936 (by decide +kernel) rfl, mw_sel 64 (by decide +kernel) rfl, TX8, 25, rfl⟩
theorem wm_X8_186 : Cond.methodLink RX8 186 yX8_placeIn ∈ mw := mw_tab 938 (by decide +kernel) rfl
theorem vX8_186 : mCv RX8 186 zX8_placeIn 2 8 := ⟨wy_X8_placeIn, wm_X8_186, mw_tab 940 (by decide +kernel) rfl, mw_sel 65 (by decide +kernel) rfl, TX8, 25, rfl⟩
theorem wm_X8_212 : Cond.methodLink RX8 212 yX8_pastesFor ∈ mw := mw_tab 942 (by decide +kernel) rfl
theorem vX8_212 : mCv RX8 212 zX8_pastesFor 1 8 := ⟨wy_X8_pastesFor, wm_X8_212, mw_tab 944 (by decide +kernel) rfl, mw_sel 66 (by decide +kernel) rfl, TX8, 25, rfl⟩
theorem wm_L_72 : Cond.methodLink RL 72 yX8_through ∈ mw := mw_tab 946 (by decide +kernel) rfl
theorem vL_72 : mCv RL 72 zX8_through 2 8 := ⟨wy_X8_through, wm_L_72, mw_tab 947 (by decide +kernel) rfl, mw_tab 948 (by decide +kernel) rfl, TX8, 25, rfl⟩
theorem wm_L_76 : Cond.methodLink RL 76 yX8_odds ∈ mw := mw_tab 950 (by decide +kernel) rfl
theorem vL_76 : mCv RL 76 zX8_odds 2 8 := ⟨wy_X8_odds, wm_L_76, mw_tab 951 (by decide +kernel) rfl, mw_tab 952 (by decide +kernel) rfl, TX8, 25, rfl⟩
theorem wm_X8_215 : Cond.methodLink RX8 215 yX8_isBy ∈ mw := mw_tab 954 (by decide +kernel) rfl
theorem vX8_215 : mCv RX8 215 zX8_isBy 2 8 := ⟨wy_X8_isBy, wm_X8_215, mw_tab 956 (by decide +kernel) rfl, mw_sel 67 (by decide +kernel) rfl, TX8, 25, rfl⟩
theorem wm_L_80 : Cond.methodLink RL 80 yX8_sees ∈ mw := mw_tab 958 (by decide +kernel) rfl
theorem vL_80 : mCv RL 80 zX8_sees 2 8 := ⟨wy_X8_sees, wm_L_80, mw_tab 959 (by decide +kernel) rfl, mw_tab 960 (by decide +kernel) rfl, TX8, 25, rfl⟩
theorem wm_L_84 : Cond.methodLink RL 84 yX8_forget ∈ mw := mw_tab 962 (by decide +kernel) rfl
theorem vL_84 : mCv RL 84 zX8_forget 0 8 := ⟨wy_X8_forget, wm_L_84, mw_tab 963 (by decide +kernel) rfl, mw_tab 964 (by decide +kernel) rfl, TX8, 25, rfl⟩
theorem wm_L_88 : Cond.methodLink RL 88 yX8_which ∈ mw := mw_tab 966 (by decide +kernel) rfl
theorem vL_88 : mCv RL 88 zX8_which 0 8 := ⟨wy_X8_which, wm_L_88, mw_tab 967 (by decide +kernel) rfl, mw_tab 968 (by decide +kernel) rfl, TX8, 25, rfl⟩
theorem wm_L_92 : Cond.methodLink RL 92 yX8_look ∈ mw := mw_tab 970 (by decide +kernel) rfl
theorem vL_92 : mCv RL 92 zX8_look 0 8 := ⟨wy_X8_look, wm_L_92, mw_tab 971 (by decide +kernel) rfl, mw_tab 972 (by decide +kernel) rfl, TX8, 25, rfl⟩
theorem wm_X8_218 : Cond.methodLink RX8 218 yX8_which ∈ mw := mw_tab 974 (by decide +kernel) rfl
theorem vX8_218 : mCv RX8 218 zX8_which 0 8 := ⟨wy_X8_which, wm_X8_218, mw_tab 967 (by decide +kernel) rfl, mw_tab 968 (by decide +kernel) rfl, TX8, 25, rfl⟩
theorem wm_X8_221 : Cond.methodLink RX8 221 yX8_bitsOf ∈ mw := mw_tab 975 (by decide +kernel) rfl
theorem sX8_221 : mCs RX8 221 zX8_bitsOf 1 := ⟨wy_X8_bitsOf, wm_X8_221, mw_tab 976 (by decide +kernel) rfl⟩
theorem wm_L_96 : Cond.methodLink RL 96 yX8_mark ∈ mw := mw_tab 978 (by decide +kernel) rfl
theorem vL_96 : mCv RL 96 zX8_mark 2 8 := ⟨wy_X8_mark, wm_L_96, mw_tab 979 (by decide +kernel) rfl, mw_tab 980 (by decide +kernel) rfl, TX8, 25, rfl⟩
theorem wm_X8_225 : Cond.methodLink RX8 225 yX8_bodiesOf ∈ mw := mw_tab 983 (by decide +kernel) rfl
theorem sX8_225 : mCs RX8 225 zX8_bodiesOf 1 := ⟨wy_X8_bodiesOf, wm_X8_225, mw_tab 984 (by decide +kernel) rfl⟩
theorem wm_L_113 : Cond.methodLink RL 113 yX8_trace ∈ mw := mw_tab 987 (by decide +kernel) rfl
theorem vL_113 : mCv RL 113 zX8_trace 0 8 := ⟨wy_X8_trace, wm_L_113, mw_tab 988 (by decide +kernel) rfl, mw_tab 989 (by decide +kernel) rfl, TX8, 25, rfl⟩
theorem wm_L_100 : Cond.methodLink RL 100 yX8_keep ∈ mw := mw_tab 991 (by decide +kernel) rfl
theorem vL_100 : mCv RL 100 zX8_keep 1 8 := ⟨wy_X8_keep, wm_L_100, mw_tab 992 (by decide +kernel) rfl, mw_tab 993 (by decide +kernel) rfl, TX8, 25, rfl⟩
theorem wm_L_104 : Cond.methodLink RL 104 yX8_back ∈ mw := mw_tab 995 (by decide +kernel) rfl
theorem vL_104 : mCv RL 104 zX8_back 1 8 := ⟨wy_X8_back, wm_L_104, mw_tab 996 (by decide +kernel) rfl, mw_tab 997 (by decide +kernel) rfl, TX8, 25, rfl⟩
theorem wm_L_108 : Cond.methodLink RL 108 yX8_count ∈ mw := mw_tab 999 (by decide +kernel) rfl
theorem vL_108 : mCv RL 108 zX8_count 1 8 := ⟨wy_X8_count, wm_L_108, mw_tab 1000 (by decide +kernel) rfl, mw_tab 1001 (by decide +kernel) rfl, TX8, 25, rfl⟩
theorem w_objinit : Cond.instanceMethod objectInit ∈ mw ∧ Cond.code objectInit ⟨#[0xb1]⟩ 1 none ∈ mw := ⟨mw_tab 20 (by decide +kernel) rfl, mw_tab 21 (by decide +kernel) rfl⟩
theorem w_min : Cond.static Lib.Math.min.name ∈ mw ∧ Cond.initialized "java/lang/Math" ∈ mw ∧ Cond.code Lib.Math.min.name Lib.Math.min.code 2 (some .int) ∈ mw := ⟨mw_tab 300 (by decide +kernel) rfl, mw_tab 10 (by decide +kernel) rfl, mw_tab 301 (by decide +kernel) rfl⟩
theorem w_max : Cond.static Lib.Math.max.name ∈ mw ∧ Cond.initialized "java/lang/Math" ∈ mw ∧ Cond.code Lib.Math.max.name Lib.Math.max.code 2 (some .int) ∈ mw := ⟨mw_tab 554 (by decide +kernel) rfl, mw_tab 10 (by decide +kernel) rfl, mw_tab 555 (by decide +kernel) rfl⟩
theorem w_copy : Cond.native arraycopyName ∈ mw ∧ Cond.static arraycopyName ∈ mw ∧ Cond.initialized "java/lang/System" ∈ mw := ⟨mw_tab 334 (by decide +kernel) rfl, mw_tab 333 (by decide +kernel) rfl, mw_tab 11 (by decide +kernel) rfl⟩
theorem qL_7 : Cond.classLink RL 7 RX7 ∈ mw := mw_tab 14 (by decide +kernel) rfl
theorem w_inst_X7 : Cond.instantiable RX7 11 ∈ mw := mw_tab 15 (by decide +kernel) rfl
theorem qX7_7 : Cond.classLink RX7 7 RX1 ∈ mw := mw_tab 22 (by decide +kernel) rfl
theorem w_inst_X1 : Cond.instantiable RX1 6 ∈ mw := mw_tab 23 (by decide +kernel) rfl
theorem w_arr_int : Cond.arrayClass .int ∈ mw := mw_tab 48 (by decide +kernel) rfl
theorem qX7_16 : Cond.classLink RX7 16 RX5 ∈ mw := mw_tab 49 (by decide +kernel) rfl
theorem w_inst_X5 : Cond.instantiable RX5 6 ∈ mw := mw_tab 50 (by decide +kernel) rfl
theorem qX7_26 : Cond.classLink RX7 26 RX3 ∈ mw := mw_tab 92 (by decide +kernel) rfl
theorem w_inst_X3 : Cond.instantiable RX3 6 ∈ mw := mw_tab 93 (by decide +kernel) rfl
theorem qX7_41 : Cond.classLink RX7 41 RX2 ∈ mw := mw_tab 128 (by decide +kernel) rfl
theorem w_inst_X2 : Cond.instantiable RX2 3 ∈ mw := mw_tab 129 (by decide +kernel) rfl
theorem w_arr_boolean : Cond.arrayClass .boolean ∈ mw := mw_tab 145 (by decide +kernel) rfl
theorem qX7_48 : Cond.classLink RX7 48 RX4 ∈ mw := mw_tab 146 (by decide +kernel) rfl
theorem w_inst_X4 : Cond.instantiable RX4 2 ∈ mw := mw_tab 147 (by decide +kernel) rfl
theorem qX7_55 : Cond.classLink RX7 55 RX6 ∈ mw := mw_tab 159 (by decide +kernel) rfl
theorem w_inst_X6 : Cond.instantiable RX6 11 ∈ mw := mw_tab 160 (by decide +kernel) rfl
theorem qX7_62 : Cond.classLink RX7 62 RX0 ∈ mw := mw_tab 199 (by decide +kernel) rfl
theorem w_inst_X0 : Cond.instantiable RX0 5 ∈ mw := mw_tab 200 (by decide +kernel) rfl
theorem qL_10 : Cond.classLink RL 10 RX8 ∈ mw := mw_tab 660 (by decide +kernel) rfl
theorem w_inst_X8 : Cond.instantiable RX8 25 ∈ mw := mw_tab 661 (by decide +kernel) rfl
theorem w_arr_byte : Cond.arrayClass .byte ∈ mw := mw_tab 761 (by decide +kernel) rfl
