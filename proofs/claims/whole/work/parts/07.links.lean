/-! method records, links: by program -/
theorem mg_all (ws : List Cond) (ps : List Nat) (hp : ws = ps.filterMap (fun i => lw_tbl[i]?)) (hg : ws.all goodWord = true) : ∀ w ∈ ws, w ∈ mGood := by
  intro w hw
  refine List.mem_filter.mpr ⟨?_, List.all_eq_true.mp hg w hw⟩
  rw [hp] at hw
  obtain ⟨i, -, hi⟩ := List.mem_filterMap.mp hw
  exact List.mem_of_getElem? hi
abbrev mX0_init : MI := (yX0_init, cX0_init, 1, none, { frames := 1, cells := 0, slots := 0, locals := 20 })
abbrev mX0_tellLoss : MI := (yX0_tellLoss, cX0_tellLoss, 4, some .int, { frames := 1, cells := 0, slots := 0, locals := 21 })
abbrev mX0_bytesBy : MI := (yX0_bytesBy, cX0_bytesBy, 2, some .long, { frames := 0, cells := 0, slots := 0, locals := 0 })
abbrev mX0_carry : MI := (yX0_carry, cX0_carry, 4, some .boolean, { frames := 0, cells := 0, slots := 0, locals := 0 })
abbrev mX1_init : MI := (yX1_init, cX1_init, 1, none, { frames := 2, cells := 5, slots := 1507, locals := 42 })
abbrev mX1_become : MI := (yX1_become, cX1_become, 3, none, { frames := 0, cells := 0, slots := 0, locals := 0 })
abbrev mX1_isByTarget : MI := (yX1_isByTarget, cX1_isByTarget, 1, some .boolean, { frames := 0, cells := 0, slots := 0, locals := 0 })
abbrev mX2_init : MI := (yX2_init, cX2_init, 2, none, { frames := 2, cells := 5, slots := 534, locals := 42 })
abbrev mX2_start : MI := (yX2_start, cX2_start, 6, none, { frames := 2, cells := 0, slots := 0, locals := 41 })
abbrev mX2_wantsMore : MI := (yX2_wantsMore, cX2_wantsMore, 1, some .boolean, { frames := 1, cells := 0, slots := 0, locals := 21 })
abbrev mX2_toDoCount : MI := (yX2_toDoCount, cX2_toDoCount, 3, some .int, { frames := 0, cells := 0, slots := 0, locals := 0 })
abbrev mX2_makeNext : MI := (yX2_makeNext, cX2_makeNext, 3, none, { frames := 2, cells := 0, slots := 0, locals := 49 })
abbrev mX2_takeNode : MI := (yX2_takeNode, cX2_takeNode, 4, none, { frames := 1, cells := 0, slots := 0, locals := 21 })
abbrev mX2_takeGone : MI := (yX2_takeGone, cX2_takeGone, 1, none, { frames := 3, cells := 0, slots := 0, locals := 69 })
abbrev mX2_takeBytes : MI := (yX2_takeBytes, cX2_takeBytes, 2, none, { frames := 2, cells := 0, slots := 0, locals := 44 })
abbrev mX2_takeBlock : MI := (yX2_takeBlock, cX2_takeBlock, 5, none, { frames := 2, cells := 0, slots := 0, locals := 43 })
abbrev mX2_takeEnd : MI := (yX2_takeEnd, cX2_takeEnd, 3, none, { frames := 3, cells := 0, slots := 0, locals := 70 })
abbrev mX2_dropTold : MI := (yX2_dropTold, cX2_dropTold, 2, none, { frames := 3, cells := 0, slots := 0, locals := 69 })
abbrev mX2_forgetBuilt : MI := (yX2_forgetBuilt, cX2_forgetBuilt, 1, none, { frames := 1, cells := 0, slots := 0, locals := 21 })
abbrev mX2_settle : MI := (yX2_settle, cX2_settle, 1, none, { frames := 1, cells := 0, slots := 0, locals := 20 })
abbrev mX2_putToWait : MI := (yX2_putToWait, cX2_putToWait, 2, none, { frames := 0, cells := 0, slots := 0, locals := 0 })
abbrev mX2_leastToDo : MI := (yX2_leastToDo, cX2_leastToDo, 2, some .int, { frames := 0, cells := 0, slots := 0, locals := 0 })
abbrev mX3_init : MI := (yX3_init, cX3_init, 2, none, { frames := 1, cells := 1, slots := 500, locals := 21 })
abbrev mX3_count : MI := (yX3_count, cX3_count, 1, some .int, { frames := 0, cells := 0, slots := 0, locals := 0 })
abbrev mX3_holds : MI := (yX3_holds, cX3_holds, 3, some .boolean, { frames := 0, cells := 0, slots := 0, locals := 0 })
abbrev mX3_get : MI := (yX3_get, cX3_get, 2, some .int, { frames := 0, cells := 0, slots := 0, locals := 0 })
abbrev mX3_set : MI := (yX3_set, cX3_set, 3, none, { frames := 0, cells := 0, slots := 0, locals := 0 })
abbrev mX3_add : MI := (yX3_add, cX3_add, 2, none, { frames := 1, cells := 0, slots := 0, locals := 22 })
abbrev mX3_addAll : MI := (yX3_addAll, cX3_addAll, 3, none, { frames := 1, cells := 0, slots := 0, locals := 22 })
abbrev mX3_keep : MI := (yX3_keep, cX3_keep, 2, none, { frames := 0, cells := 0, slots := 0, locals := 0 })
abbrev mX3_digestOf : MI := (yX3_digestOf, cX3_digestOf, 6, some .long, { frames := 0, cells := 0, slots := 0, locals := 0 })
abbrev mX3_weakOf : MI := (yX3_weakOf, cX3_weakOf, 6, some .long, { frames := 0, cells := 0, slots := 0, locals := 0 })
abbrev mX4_init : MI := (yX4_init, cX4_init, 4, none, { frames := 3, cells := 16, slots := 3075, locals := 63 })
abbrev mX4_goes : MI := (yX4_goes, cX4_goes, 1, some .boolean, { frames := 0, cells := 0, slots := 0, locals := 0 })
abbrev mX4_start : MI := (yX4_start, cX4_start, 5, none, { frames := 3, cells := 0, slots := 0, locals := 66 })
abbrev mX4_stop : MI := (yX4_stop, cX4_stop, 1, some .int, { frames := 2, cells := 0, slots := 0, locals := 41 })
abbrev mX4_oneStep : MI := (yX4_oneStep, cX4_oneStep, 1, none, { frames := 5, cells := 0, slots := 0, locals := 117 })
abbrev mX4_tell : MI := (yX4_tell, cX4_tell, 2, some .int, { frames := 1, cells := 0, slots := 0, locals := 22 })
abbrev mX4_builtByte : MI := (yX4_builtByte, cX4_builtByte, 2, some .int, { frames := 1, cells := 0, slots := 0, locals := 21 })
abbrev mX4_sumOf : MI := (yX4_sumOf, cX4_sumOf, 3, some .long, { frames := 1, cells := 0, slots := 0, locals := 22 })
abbrev mX4_makeMessage : MI := (yX4_makeMessage, cX4_makeMessage, 1, none, { frames := 4, cells := 0, slots := 0, locals := 97 })
abbrev mX4_emit : MI := (yX4_emit, cX4_emit, 1, none, { frames := 1, cells := 0, slots := 0, locals := 23 })
abbrev mX4_takeMessage : MI := (yX4_takeMessage, cX4_takeMessage, 1, none, { frames := 4, cells := 0, slots := 0, locals := 92 })
abbrev mX4_finishIfNothingFollows : MI := (yX4_finishIfNothingFollows, cX4_finishIfNothingFollows, 2, none, { frames := 4, cells := 0, slots := 0, locals := 90 })
abbrev mX5_init : MI := (yX5_init, cX5_init, 2, none, { frames := 2, cells := 3, slots := 1005, locals := 40 })
abbrev mX5_start : MI := (yX5_start, cX5_start, 2, none, { frames := 0, cells := 0, slots := 0, locals := 0 })
abbrev mX5_takeSums : MI := (yX5_takeSums, cX5_takeSums, 3, none, { frames := 2, cells := 0, slots := 0, locals := 61 })
abbrev mX5_makeNode : MI := (yX5_makeNode, cX5_makeNode, 2, none, { frames := 1, cells := 0, slots := 0, locals := 22 })
abbrev mX5_makeNext : MI := (yX5_makeNext, cX5_makeNext, 3, none, { frames := 3, cells := 0, slots := 0, locals := 75 })
abbrev mX5_makePart : MI := (yX5_makePart, cX5_makePart, 6, none, { frames := 2, cells := 0, slots := 0, locals := 50 })
abbrev mX5_look : MI := (yX5_look, cX5_look, 6, some .int, { frames := 1, cells := 0, slots := 0, locals := 25 })
abbrev mX6_init : MI := (yX6_init, cX6_init, 2, none, { frames := 2, cells := 19, slots := 4048, locals := 48 })
abbrev mX6_existing : MI := (yX6_existing, cX6_existing, 2, some (.object "RollingSync$Row"), { frames := 1, cells := 0, slots := 0, locals := 20 })
abbrev mX6_countOf : MI := (yX6_countOf, cX6_countOf, 3, some .int, { frames := 2, cells := 0, slots := 0, locals := 41 })
abbrev mX6_digestAt : MI := (yX6_digestAt, cX6_digestAt, 2, some .long, { frames := 0, cells := 0, slots := 0, locals := 0 })
abbrev mX6_put : MI := (yX6_put, cX6_put, 7, none, { frames := 2, cells := 0, slots := 0, locals := 48 })
abbrev mX6_replace : MI := (yX6_replace, cX6_replace, 3, none, { frames := 2, cells := 0, slots := 0, locals := 48 })
abbrev mX6_remove : MI := (yX6_remove, cX6_remove, 2, none, { frames := 2, cells := 0, slots := 0, locals := 48 })
abbrev mX6_refresh : MI := (yX6_refresh, cX6_refresh, 3, none, { frames := 1, cells := 0, slots := 0, locals := 26 })
abbrev mX6_mixed : MI := (yX6_mixed, cX6_mixed, 7, some .long, { frames := 0, cells := 0, slots := 0, locals := 0 })
abbrev mX7_init : MI := (yX7_init, cX7_init, 1, none, { frames := 1, cells := 2, slots := 1000, locals := 20 })
abbrev mX7_count : MI := (yX7_count, cX7_count, 1, some .int, { frames := 0, cells := 0, slots := 0, locals := 0 })
abbrev mX7_block : MI := (yX7_block, cX7_block, 1, some .int, { frames := 0, cells := 0, slots := 0, locals := 0 })
abbrev mX7_k : MI := (yX7_k, cX7_k, 1, some .int, { frames := 0, cells := 0, slots := 0, locals := 0 })
abbrev mX7_fill : MI := (yX7_fill, cX7_fill, 5, none, { frames := 1, cells := 0, slots := 0, locals := 25 })
abbrev mX7_copyFrom : MI := (yX7_copyFrom, cX7_copyFrom, 2, none, { frames := 1, cells := 0, slots := 0, locals := 40 })
abbrev mX7_sumOf : MI := (yX7_sumOf, cX7_sumOf, 3, some .long, { frames := 0, cells := 0, slots := 0, locals := 0 })
abbrev mX7_hasWeak : MI := (yX7_hasWeak, cX7_hasWeak, 4, some .boolean, { frames := 0, cells := 0, slots := 0, locals := 0 })
abbrev mX7_find : MI := (yX7_find, cX7_find, 6, some .int, { frames := 0, cells := 0, slots := 0, locals := 0 })
abbrev mX8_init : MI := (yX8_init, cX8_init, 1, none, { frames := 4, cells := 58, slots := 11195, locals := 86 })
abbrev mX8_write : MI := (yX8_write, cX8_write, 8, some .int, { frames := 3, cells := 0, slots := 0, locals := 74 })
abbrev mX8_again : MI := (yX8_again, cX8_again, 7, some .int, { frames := 3, cells := 0, slots := 0, locals := 63 })
abbrev mX8_trim : MI := (yX8_trim, cX8_trim, 6, some .int, { frames := 3, cells := 0, slots := 0, locals := 63 })
abbrev mX8_drop : MI := (yX8_drop, cX8_drop, 5, some .int, { frames := 3, cells := 0, slots := 0, locals := 69 })
abbrev mX8_same : MI := (yX8_same, cX8_same, 5, some .int, { frames := 3, cells := 0, slots := 0, locals := 70 })
abbrev mX8_at : MI := (yX8_at, cX8_at, 5, some .int, { frames := 3, cells := 0, slots := 0, locals := 63 })
abbrev mX8_size : MI := (yX8_size, cX8_size, 4, some .int, { frames := 2, cells := 0, slots := 0, locals := 41 })
abbrev mX8_node : MI := (yX8_node, cX8_node, 3, some .long, { frames := 1, cells := 0, slots := 0, locals := 21 })
abbrev mX8_begin : MI := (yX8_begin, cX8_begin, 5, some .int, { frames := 4, cells := 0, slots := 0, locals := 90 })
abbrev mX8_step : MI := (yX8_step, cX8_step, 3, some .int, { frames := 6, cells := 0, slots := 0, locals := 137 })
abbrev mX8_lose : MI := (yX8_lose, cX8_lose, 2, some .int, { frames := 2, cells := 0, slots := 0, locals := 44 })
abbrev mX8_cut : MI := (yX8_cut, cX8_cut, 1, some .int, { frames := 3, cells := 0, slots := 0, locals := 61 })
abbrev mX8_state : MI := (yX8_state, cX8_state, 2, some .int, { frames := 2, cells := 0, slots := 0, locals := 43 })
abbrev mX8_sent : MI := (yX8_sent, cX8_sent, 2, some .long, { frames := 1, cells := 0, slots := 0, locals := 21 })
abbrev mX8_built : MI := (yX8_built, cX8_built, 2, some .int, { frames := 2, cells := 0, slots := 0, locals := 42 })
abbrev mX8_sums : MI := (yX8_sums, cX8_sums, 3, some .long, { frames := 2, cells := 0, slots := 0, locals := 44 })
abbrev mX8_weak : MI := (yX8_weak, cX8_weak, 6, some .long, { frames := 3, cells := 0, slots := 0, locals := 63 })
abbrev mX8_isEnd : MI := (yX8_isEnd, cX8_isEnd, 1, some .boolean, { frames := 0, cells := 0, slots := 0, locals := 0 })
abbrev mX8_isFile : MI := (yX8_isFile, cX8_isFile, 1, some .boolean, { frames := 0, cells := 0, slots := 0, locals := 0 })
abbrev mX8_strong : MI := (yX8_strong, cX8_strong, 3, some .long, { frames := 0, cells := 0, slots := 0, locals := 0 })
abbrev mX8_side : MI := (yX8_side, cX8_side, 2, some (.object "RollingSync$Side"), { frames := 0, cells := 0, slots := 0, locals := 0 })
abbrev mX8_existing : MI := (yX8_existing, cX8_existing, 3, some (.object "RollingSync$Row"), { frames := 2, cells := 0, slots := 0, locals := 41 })
abbrev mX9_init : MI := (yX9_init, cX9_init, 2, none, { frames := 1, cells := 16, slots := 10622, locals := 20 })
abbrev mX9_greater : MI := (yX9_greater, cX9_greater, 2, some .int, { frames := 0, cells := 0, slots := 0, locals := 0 })
abbrev mX9_lesser : MI := (yX9_lesser, cX9_lesser, 2, some .int, { frames := 0, cells := 0, slots := 0, locals := 0 })
abbrev mX9_isFile : MI := (yX9_isFile, cX9_isFile, 2, some .boolean, { frames := 0, cells := 0, slots := 0, locals := 0 })
abbrev mX9_sizeOf : MI := (yX9_sizeOf, cX9_sizeOf, 2, some .int, { frames := 1, cells := 0, slots := 0, locals := 21 })
abbrev mX9_write : MI := (yX9_write, cX9_write, 9, some .int, { frames := 2, cells := 0, slots := 0, locals := 42 })
abbrev mX9_again : MI := (yX9_again, cX9_again, 7, some .int, { frames := 2, cells := 0, slots := 0, locals := 42 })
abbrev mX9_trim : MI := (yX9_trim, cX9_trim, 5, some .int, { frames := 1, cells := 0, slots := 0, locals := 21 })
abbrev mX9_drop : MI := (yX9_drop, cX9_drop, 4, some .int, { frames := 1, cells := 0, slots := 0, locals := 21 })
abbrev mX9_same : MI := (yX9_same, cX9_same, 6, some .int, { frames := 2, cells := 0, slots := 0, locals := 42 })
abbrev mX9_at : MI := (yX9_at, cX9_at, 4, some .int, { frames := 1, cells := 0, slots := 0, locals := 21 })
abbrev mX9_size : MI := (yX9_size, cX9_size, 3, some .int, { frames := 1, cells := 0, slots := 0, locals := 21 })
abbrev mX9_digest : MI := (yX9_digest, cX9_digest, 6, some .long, { frames := 0, cells := 0, slots := 0, locals := 0 })
abbrev mX9_strong : MI := (yX9_strong, cX9_strong, 6, some .long, { frames := 1, cells := 0, slots := 0, locals := 25 })
abbrev mX9_weakOf : MI := (yX9_weakOf, cX9_weakOf, 8, some .long, { frames := 0, cells := 0, slots := 0, locals := 0 })
abbrev mX9_weak : MI := (yX9_weak, cX9_weak, 5, some .long, { frames := 1, cells := 0, slots := 0, locals := 27 })
abbrev mX9_node : MI := (yX9_node, cX9_node, 5, some .long, { frames := 1, cells := 0, slots := 0, locals := 25 })
abbrev mX9_target : MI := (yX9_target, cX9_target, 1, some .int, { frames := 0, cells := 0, slots := 0, locals := 0 })
abbrev mX9_begin : MI := (yX9_begin, cX9_begin, 6, some .int, { frames := 0, cells := 0, slots := 0, locals := 0 })
abbrev mX9_step : MI := (yX9_step, cX9_step, 3, some .int, { frames := 6, cells := 0, slots := 0, locals := 139 })
abbrev mX9_steps : MI := (yX9_steps, cX9_steps, 1, none, { frames := 5, cells := 0, slots := 0, locals := 119 })
abbrev mX9_ends : MI := (yX9_ends, cX9_ends, 2, none, { frames := 1, cells := 0, slots := 0, locals := 20 })
abbrev mX9_isToLose : MI := (yX9_isToLose, cX9_isToLose, 4, some .boolean, { frames := 0, cells := 0, slots := 0, locals := 0 })
abbrev mX9_leastToDo : MI := (yX9_leastToDo, cX9_leastToDo, 2, some .int, { frames := 0, cells := 0, slots := 0, locals := 0 })
abbrev mX9_message : MI := (yX9_message, cX9_message, 4, none, { frames := 0, cells := 0, slots := 0, locals := 0 })
abbrev mX9_makes : MI := (yX9_makes, cX9_makes, 1, none, { frames := 4, cells := 0, slots := 0, locals := 99 })
abbrev mX9_makesSums : MI := (yX9_makesSums, cX9_makesSums, 3, none, { frames := 2, cells := 0, slots := 0, locals := 50 })
abbrev mX9_makesOfFile : MI := (yX9_makesOfFile, cX9_makesOfFile, 3, none, { frames := 3, cells := 0, slots := 0, locals := 77 })
abbrev mX9_look : MI := (yX9_look, cX9_look, 8, some .int, { frames := 2, cells := 0, slots := 0, locals := 50 })
abbrev mX9_comes : MI := (yX9_comes, cX9_comes, 2, none, { frames := 3, cells := 0, slots := 0, locals := 69 })
abbrev mX9_builds : MI := (yX9_builds, cX9_builds, 2, none, { frames := 0, cells := 0, slots := 0, locals := 0 })
abbrev mX9_nodeComes : MI := (yX9_nodeComes, cX9_nodeComes, 1, none, { frames := 2, cells := 0, slots := 0, locals := 49 })
abbrev mX9_sumsCome : MI := (yX9_sumsCome, cX9_sumsCome, 2, none, { frames := 0, cells := 0, slots := 0, locals := 0 })
abbrev mX9_endComes : MI := (yX9_endComes, cX9_endComes, 3, none, { frames := 1, cells := 0, slots := 0, locals := 25 })
abbrev mX9_lose : MI := (yX9_lose, cX9_lose, 3, some .int, { frames := 0, cells := 0, slots := 0, locals := 0 })
abbrev mX9_cut : MI := (yX9_cut, cX9_cut, 1, some .int, { frames := 0, cells := 0, slots := 0, locals := 0 })
abbrev mX9_state : MI := (yX9_state, cX9_state, 4, some .int, { frames := 0, cells := 0, slots := 0, locals := 0 })
abbrev mX9_sent : MI := (yX9_sent, cX9_sent, 2, some .long, { frames := 0, cells := 0, slots := 0, locals := 0 })
abbrev mX9_built : MI := (yX9_built, cX9_built, 2, some .int, { frames := 0, cells := 0, slots := 0, locals := 0 })
abbrev mX9_sums : MI := (yX9_sums, cX9_sums, 3, some .long, { frames := 0, cells := 0, slots := 0, locals := 0 })
abbrev mJ13_bitCount_95d88 : MI := (yJ13_bitCount_95d88, cJ13_bitCount_95d88, 2, some .int, { frames := 0, cells := 0, slots := 0, locals := 0 })
abbrev mJ9_max_7cf53 : MI := (yJ9_max_7cf53, cJ9_max_7cf53, 2, some .int, { frames := 0, cells := 0, slots := 0, locals := 0 })
abbrev mJ9_min_7cf53 : MI := (yJ9_min_7cf53, cJ9_min_7cf53, 2, some .int, { frames := 0, cells := 0, slots := 0, locals := 0 })
abbrev mL_law : MI := (yL_law, cL_law, 4, some .boolean, room_1)
theorem inM_X0 : ∀ w ∈ u_ws RX0 TX0 3, w ∈ mGood := mg_all _ [113, 115, 117] (by decide +kernel) (by decide +kernel)
theorem inM_X1 : ∀ w ∈ u_ws RX1 TX1 6, w ∈ mGood := mg_all _ [172, 174, 176, 178, 180, 182] (by decide +kernel) (by decide +kernel)
theorem inM_X2 : ∀ w ∈ u_ws RX2 TX2 17, w ∈ mGood := mg_all _ [247, 249, 251, 253, 255, 257, 259, 261, 263, 265, 267, 269, 271, 273, 275, 277, 279] (by decide +kernel) (by decide +kernel)
theorem inM_X3 : ∀ w ∈ u_ws RX3 TX3 2, w ∈ mGood := mg_all _ [67, 69] (by decide +kernel) (by decide +kernel)
theorem inM_X4 : ∀ w ∈ u_ws RX4 TX4 15, w ∈ mGood := mg_all _ [297, 299, 301, 303, 305, 307, 309, 311, 313, 315, 317, 319, 321, 323, 325] (by decide +kernel) (by decide +kernel)
theorem inM_X5 : ∀ w ∈ u_ws RX5 TX5 6, w ∈ mGood := mg_all _ [202, 204, 206, 208, 210, 212] (by decide +kernel) (by decide +kernel)
theorem inM_X6 : ∀ w ∈ u_ws RX6 TX6 3, w ∈ mGood := mg_all _ [97, 99, 101] (by decide +kernel) (by decide +kernel)
theorem inM_X7 : ∀ w ∈ u_ws RX7 TX7 5, w ∈ mGood := mg_all _ [145, 147, 149, 151, 153] (by decide +kernel) (by decide +kernel)
theorem inM_X8 : ∀ w ∈ u_ws RX8 TX8 4, w ∈ mGood := mg_all _ [332, 334, 336, 338] (by decide +kernel) (by decide +kernel)
theorem inM_X9 : ∀ w ∈ u_ws RX9 TX9 42, w ∈ mGood := mg_all _ [755, 757, 759, 761, 763, 765, 767, 769, 771, 773, 775, 777, 779, 781, 783, 785, 787, 789, 791, 793, 795, 797, 799, 801, 803, 805, 807, 809, 811, 813, 815, 817, 819, 821, 823, 825, 827, 829, 831, 833, 835, 837] (by decide +kernel) (by decide +kernel)
theorem oi_X0 : Cond.methodLink RX0 3 Lib.objectInit ∈ mGood := mg 109 (by decide +kernel) rfl
theorem fl_X0_9 : FL RX0 9 0 0 false := ⟨RX0, TX0, rfl, by decide, inM_X0, tyX0_ok, nmX0, rfl, rfl, Or.inl (mg 110 (by decide +kernel) rfl)⟩
theorem cn_J13_bitCount_95d88 : CN mJ13_bitCount_95d88 1 := ⟨mg 646 (by decide +kernel) rfl, mg 40 (by decide +kernel) rfl, by decide +kernel⟩
theorem lk_X0_15 : LS2 RX0 mJ13_bitCount_95d88 15 := ⟨mg 645 (by decide +kernel) rfl, Or.inl (mg 644 (by decide +kernel) rfl)⟩
theorem fl_X0_21 : FL RX0 21 0 1 false := ⟨RX0, TX0, rfl, by decide, inM_X0, tyX0_ok, nmX0, rfl, rfl, Or.inl (mg 111 (by decide +kernel) rfl)⟩
theorem fl_X0_24 : FL RX0 24 0 2 false := ⟨RX0, TX0, rfl, by decide, inM_X0, tyX0_ok, nmX0, rfl, rfl, Or.inl (mg 112 (by decide +kernel) rfl)⟩
theorem oi_X1 : Cond.methodLink RX1 3 Lib.objectInit ∈ mGood := mg 131 (by decide +kernel) rfl
theorem nw_X1_9 : NW RX1 9 3 := ⟨RX3, TX3, rfl, inM_X3, tyX3_ok, mg 132 (by decide +kernel) rfl, mg 57 (by decide +kernel) rfl, mg 30 (by decide +kernel) rfl, by decide⟩
theorem cn_X3_init : CN mX3_init 1 := ⟨mg 60 (by decide +kernel) rfl, mg 30 (by decide +kernel) rfl, by decide +kernel⟩
theorem lk_X1_11 : LI RX1 mX3_init 11 := ⟨rfl, rfl, mg 59 (by decide +kernel) rfl, Or.inl (mg 133 (by decide +kernel) rfl)⟩
theorem fl_X1_14 : FL RX1 14 1 0 true := ⟨RX1, TX1, rfl, by decide, inM_X1, tyX1_ok, nmX1, rfl, rfl, Or.inl (mg 156 (by decide +kernel) rfl)⟩
theorem ff_X1_14 : FF RX1 14 1 0 := ⟨RX1, TX1, rfl, by decide, inM_X1, tyX1_ok, nmX1, rfl, rfl, mg 156 (by decide +kernel) rfl⟩
theorem nw_X1_20 : NW RX1 20 7 := ⟨RX7, TX7, rfl, inM_X7, tyX7_ok, mg 134 (by decide +kernel) rfl, mg 135 (by decide +kernel) rfl, mg 35 (by decide +kernel) rfl, by decide⟩
theorem cn_X7_init : CN mX7_init 0 := ⟨mg 138 (by decide +kernel) rfl, mg 35 (by decide +kernel) rfl, by decide +kernel⟩
theorem lk_X1_22 : LI RX1 mX7_init 22 := ⟨rfl, rfl, mg 137 (by decide +kernel) rfl, Or.inr ⟨"RollingSync", mn 136 (by decide +kernel) rfl⟩⟩
theorem fl_X1_23 : FL RX1 23 1 1 true := ⟨RX1, TX1, rfl, by decide, inM_X1, tyX1_ok, nmX1, rfl, rfl, Or.inl (mg 159 (by decide +kernel) rfl)⟩
theorem ff_X1_23 : FF RX1 23 1 1 := ⟨RX1, TX1, rfl, by decide, inM_X1, tyX1_ok, nmX1, rfl, rfl, mg 159 (by decide +kernel) rfl⟩
theorem fl_X1_27 : FL RX1 27 1 2 false := ⟨RX1, TX1, rfl, by decide, inM_X1, tyX1_ok, nmX1, rfl, rfl, Or.inl (mg 162 (by decide +kernel) rfl)⟩
theorem fl_X1_31 : FL RX1 31 1 3 false := ⟨RX1, TX1, rfl, by decide, inM_X1, tyX1_ok, nmX1, rfl, rfl, Or.inl (mg 165 (by decide +kernel) rfl)⟩
theorem oi_X2 : Cond.methodLink RX2 3 Lib.objectInit ∈ mGood := mg 220 (by decide +kernel) rfl
theorem fl_X2_9 : FL RX2 9 2 0 true := ⟨RX2, TX2, rfl, by decide, inM_X2, tyX2_ok, nmX2, rfl, rfl, Or.inl (mg 223 (by decide +kernel) rfl)⟩
theorem ff_X2_9 : FF RX2 9 2 0 := ⟨RX2, TX2, rfl, by decide, inM_X2, tyX2_ok, nmX2, rfl, rfl, mg 223 (by decide +kernel) rfl⟩
theorem fl_X2_15 : FL RX2 15 2 1 true := ⟨RX2, TX2, rfl, by decide, inM_X2, tyX2_ok, nmX2, rfl, rfl, Or.inl (mg 224 (by decide +kernel) rfl)⟩
theorem ff_X2_15 : FF RX2 15 2 1 := ⟨RX2, TX2, rfl, by decide, inM_X2, tyX2_ok, nmX2, rfl, rfl, mg 224 (by decide +kernel) rfl⟩
theorem fl_X2_19 : FL RX2 19 2 2 true := ⟨RX2, TX2, rfl, by decide, inM_X2, tyX2_ok, nmX2, rfl, rfl, Or.inl (mg 225 (by decide +kernel) rfl)⟩
theorem ff_X2_19 : FF RX2 19 2 2 := ⟨RX2, TX2, rfl, by decide, inM_X2, tyX2_ok, nmX2, rfl, rfl, mg 225 (by decide +kernel) rfl⟩
theorem nw_X2_22 : NW RX2 22 3 := ⟨RX3, TX3, rfl, inM_X3, tyX3_ok, mg 221 (by decide +kernel) rfl, mg 57 (by decide +kernel) rfl, mg 30 (by decide +kernel) rfl, by decide⟩
theorem lk_X2_24 : LI RX2 mX3_init 24 := ⟨rfl, rfl, mg 59 (by decide +kernel) rfl, Or.inl (mg 222 (by decide +kernel) rfl)⟩
theorem fl_X2_27 : FL RX2 27 2 3 true := ⟨RX2, TX2, rfl, by decide, inM_X2, tyX2_ok, nmX2, rfl, rfl, Or.inl (mg 226 (by decide +kernel) rfl)⟩
theorem ff_X2_27 : FF RX2 27 2 3 := ⟨RX2, TX2, rfl, by decide, inM_X2, tyX2_ok, nmX2, rfl, rfl, mg 226 (by decide +kernel) rfl⟩
theorem fl_X2_31 : FL RX2 31 2 9 false := ⟨RX2, TX2, rfl, by decide, inM_X2, tyX2_ok, nmX2, rfl, rfl, Or.inl (mg 234 (by decide +kernel) rfl)⟩
theorem fl_X2_35 : FL RX2 35 2 4 false := ⟨RX2, TX2, rfl, by decide, inM_X2, tyX2_ok, nmX2, rfl, rfl, Or.inl (mg 228 (by decide +kernel) rfl)⟩
theorem fl_X2_39 : FL RX2 39 2 6 false := ⟨RX2, TX2, rfl, by decide, inM_X2, tyX2_ok, nmX2, rfl, rfl, Or.inl (mg 231 (by decide +kernel) rfl)⟩
theorem fl_X2_42 : FL RX2 42 2 7 false := ⟨RX2, TX2, rfl, by decide, inM_X2, tyX2_ok, nmX2, rfl, rfl, Or.inl (mg 232 (by decide +kernel) rfl)⟩
theorem fl_X2_45 : FL RX2 45 2 8 false := ⟨RX2, TX2, rfl, by decide, inM_X2, tyX2_ok, nmX2, rfl, rfl, Or.inl (mg 233 (by decide +kernel) rfl)⟩
theorem fl_X2_48 : FL RX2 48 2 5 false := ⟨RX2, TX2, rfl, by decide, inM_X2, tyX2_ok, nmX2, rfl, rfl, Or.inl (mg 229 (by decide +kernel) rfl)⟩
theorem cn_X2_putToWait : CN mX2_putToWait 1 := ⟨mg 465 (by decide +kernel) rfl, mg 37 (by decide +kernel) rfl, by decide +kernel⟩
theorem lk_X2_51 : LV RX2 mX2_putToWait 51 := ⟨mg 464 (by decide +kernel) rfl, mg 2 (by decide +kernel) rfl, Or.inl (mg 462 (by decide +kernel) rfl)⟩
theorem cn_X2_forgetBuilt : CN mX2_forgetBuilt 0 := ⟨mg 469 (by decide +kernel) rfl, mg 37 (by decide +kernel) rfl, by decide +kernel⟩
theorem lk_X2_54 : LV RX2 mX2_forgetBuilt 54 := ⟨mg 467 (by decide +kernel) rfl, mg 468 (by decide +kernel) rfl, Or.inl (mg 466 (by decide +kernel) rfl)⟩
theorem fl_X2_57 : FL RX2 57 2 12 false := ⟨RX2, TX2, rfl, by decide, inM_X2, tyX2_ok, nmX2, rfl, rfl, Or.inl (mg 237 (by decide +kernel) rfl)⟩
theorem fl_X2_60 : FL RX2 60 2 13 false := ⟨RX2, TX2, rfl, by decide, inM_X2, tyX2_ok, nmX2, rfl, rfl, Or.inl (mg 239 (by decide +kernel) rfl)⟩
theorem fl_X2_63 : FL RX2 63 2 14 false := ⟨RX2, TX2, rfl, by decide, inM_X2, tyX2_ok, nmX2, rfl, rfl, Or.inl (mg 241 (by decide +kernel) rfl)⟩
theorem fl_X2_66 : FL RX2 66 2 15 false := ⟨RX2, TX2, rfl, by decide, inM_X2, tyX2_ok, nmX2, rfl, rfl, Or.inl (mg 243 (by decide +kernel) rfl)⟩
theorem fl_X2_69 : FL RX2 69 2 16 false := ⟨RX2, TX2, rfl, by decide, inM_X2, tyX2_ok, nmX2, rfl, rfl, Or.inl (mg 245 (by decide +kernel) rfl)⟩
theorem cn_X2_leastToDo : CN mX2_leastToDo 0 := ⟨mg 545 (by decide +kernel) rfl, mg 37 (by decide +kernel) rfl, by decide +kernel⟩
theorem lk_X2_72 : LV RX2 mX2_leastToDo 72 := ⟨mg 544 (by decide +kernel) rfl, mg 6 (by decide +kernel) rfl, Or.inl (mg 542 (by decide +kernel) rfl)⟩
theorem cn_X1_become : CN mX1_become 2 := ⟨mg 474 (by decide +kernel) rfl, mg 34 (by decide +kernel) rfl, by decide +kernel⟩
theorem lk_X2_76 : LV RX2 mX1_become 76 := ⟨mg 472 (by decide +kernel) rfl, mg 473 (by decide +kernel) rfl, Or.inl (mg 541 (by decide +kernel) rfl)⟩
theorem fl_X2_82 : FL RX2 82 1 4 false := ⟨RX1, TX1, rfl, by decide, inM_X1, tyX1_ok, nmX1, rfl, rfl, Or.inl (mg 168 (by decide +kernel) rfl)⟩
theorem fl_X2_85 : FL RX2 85 2 10 false := ⟨RX2, TX2, rfl, by decide, inM_X2, tyX2_ok, nmX2, rfl, rfl, Or.inl (mg 235 (by decide +kernel) rfl)⟩
theorem fl_X2_88 : FL RX2 88 2 11 false := ⟨RX2, TX2, rfl, by decide, inM_X2, tyX2_ok, nmX2, rfl, rfl, Or.inl (mg 236 (by decide +kernel) rfl)⟩
theorem fl_X2_91 : FL RX2 91 1 1 true := ⟨RX1, TX1, rfl, by decide, inM_X1, tyX1_ok, nmX1, rfl, rfl, Or.inl (mg 160 (by decide +kernel) rfl)⟩
theorem cn_X6_existing : CN mX6_existing 1 := ⟨mg 360 (by decide +kernel) rfl, mg 29 (by decide +kernel) rfl, by decide +kernel⟩
theorem lk_X2_95 : LV RX2 mX6_existing 95 := ⟨mg 358 (by decide +kernel) rfl, mg 359 (by decide +kernel) rfl, Or.inl (mg 546 (by decide +kernel) rfl)⟩
theorem cn_X7_fill : CN mX7_fill 3 := ⟨mg 550 (by decide +kernel) rfl, mg 35 (by decide +kernel) rfl, by decide +kernel⟩
theorem lk_X2_101 : LV RX2 mX7_fill 101 := ⟨mg 548 (by decide +kernel) rfl, mg 549 (by decide +kernel) rfl, Or.inl (mg 547 (by decide +kernel) rfl)⟩
theorem cn_X7_count : CN mX7_count 0 := ⟨mg 558 (by decide +kernel) rfl, mg 35 (by decide +kernel) rfl, by decide +kernel⟩
theorem lk_X2_107 : LV RX2 mX7_count 107 := ⟨mg 556 (by decide +kernel) rfl, mg 557 (by decide +kernel) rfl, Or.inl (mg 555 (by decide +kernel) rfl)⟩
theorem cn_X6_digestAt : CN mX6_digestAt 1 := ⟨mg 441 (by decide +kernel) rfl, mg 29 (by decide +kernel) rfl, by decide +kernel⟩
theorem lk_X2_110 : LV RX2 mX6_digestAt 110 := ⟨mg 439 (by decide +kernel) rfl, mg 440 (by decide +kernel) rfl, Or.inl (mg 580 (by decide +kernel) rfl)⟩
theorem cn_X2_settle : CN mX2_settle 0 := ⟨mg 599 (by decide +kernel) rfl, mg 37 (by decide +kernel) rfl, by decide +kernel⟩
theorem lk_X2_114 : LV RX2 mX2_settle 114 := ⟨mg 598 (by decide +kernel) rfl, mg 9 (by decide +kernel) rfl, Or.inl (mg 596 (by decide +kernel) rfl)⟩
theorem cn_X6_remove : CN mX6_remove 1 := ⟨mg 412 (by decide +kernel) rfl, mg 29 (by decide +kernel) rfl, by decide +kernel⟩
theorem lk_X2_117 : LV RX2 mX6_remove 117 := ⟨mg 410 (by decide +kernel) rfl, mg 411 (by decide +kernel) rfl, Or.inl (mg 601 (by decide +kernel) rfl)⟩
theorem cn_X8_isFile : CN mX8_isFile 1 := ⟨mg 81 (by decide +kernel) rfl, mg 28 (by decide +kernel) rfl, by decide +kernel⟩
theorem lk_X2_120 : LS2 RX2 mX8_isFile 120 := ⟨mg 80 (by decide +kernel) rfl, Or.inr ⟨"RollingSync", mn 600 (by decide +kernel) rfl⟩⟩
theorem cn_X3_count : CN mX3_count 0 := ⟨mg 364 (by decide +kernel) rfl, mg 30 (by decide +kernel) rfl, by decide +kernel⟩
theorem lk_X2_124 : LV RX2 mX3_count 124 := ⟨mg 362 (by decide +kernel) rfl, mg 363 (by decide +kernel) rfl, Or.inl (mg 606 (by decide +kernel) rfl)⟩
theorem cn_X3_addAll : CN mX3_addAll 1 := ⟨mg 425 (by decide +kernel) rfl, mg 30 (by decide +kernel) rfl, by decide +kernel⟩
theorem lk_X2_125 : LV RX2 mX3_addAll 125 := ⟨mg 423 (by decide +kernel) rfl, mg 424 (by decide +kernel) rfl, Or.inl (mg 607 (by decide +kernel) rfl)⟩
theorem cn_X3_get : CN mX3_get 1 := ⟨mg 390 (by decide +kernel) rfl, mg 30 (by decide +kernel) rfl, by decide +kernel⟩
theorem lk_X2_129 : LV RX2 mX3_get 129 := ⟨mg 388 (by decide +kernel) rfl, mg 389 (by decide +kernel) rfl, Or.inl (mg 612 (by decide +kernel) rfl)⟩
theorem cn_X3_add : CN mX3_add 1 := ⟨mg 394 (by decide +kernel) rfl, mg 30 (by decide +kernel) rfl, by decide +kernel⟩
theorem lk_X2_133 : LV RX2 mX3_add 133 := ⟨mg 392 (by decide +kernel) rfl, mg 393 (by decide +kernel) rfl, Or.inl (mg 613 (by decide +kernel) rfl)⟩
theorem cn_X3_digestOf : CN mX3_digestOf 2 := ⟨mg 85 (by decide +kernel) rfl, mg 30 (by decide +kernel) rfl, by decide +kernel⟩
theorem lk_X2_136 : LV RX2 mX3_digestOf 136 := ⟨mg 83 (by decide +kernel) rfl, mg 84 (by decide +kernel) rfl, Or.inl (mg 618 (by decide +kernel) rfl)⟩
theorem cn_X6_replace : CN mX6_replace 2 := ⟨mg 421 (by decide +kernel) rfl, mg 29 (by decide +kernel) rfl, by decide +kernel⟩
theorem lk_X2_140 : LV RX2 mX6_replace 140 := ⟨mg 419 (by decide +kernel) rfl, mg 420 (by decide +kernel) rfl, Or.inl (mg 619 (by decide +kernel) rfl)⟩
theorem cn_J9_min_7cf53 : CN mJ9_min_7cf53 2 := ⟨mg 622 (by decide +kernel) rfl, mg 31 (by decide +kernel) rfl, by decide +kernel⟩
theorem lk_X2_144 : LS2 RX2 mJ9_min_7cf53 144 := ⟨mg 621 (by decide +kernel) rfl, Or.inl (mg 620 (by decide +kernel) rfl)⟩
theorem cn_X3_keep : CN mX3_keep 1 := ⟨mg 404 (by decide +kernel) rfl, mg 30 (by decide +kernel) rfl, by decide +kernel⟩
theorem lk_X2_150 : LV RX2 mX3_keep 150 := ⟨mg 402 (by decide +kernel) rfl, mg 403 (by decide +kernel) rfl, Or.inl (mg 470 (by decide +kernel) rfl)⟩
theorem oi_X3 : Cond.methodLink RX3 3 Lib.objectInit ∈ mGood := mg 61 (by decide +kernel) rfl
theorem cn_J9_max_7cf53 : CN mJ9_max_7cf53 2 := ⟨mg 64 (by decide +kernel) rfl, mg 31 (by decide +kernel) rfl, by decide +kernel⟩
theorem lk_X3_9 : LS2 RX3 mJ9_max_7cf53 9 := ⟨mg 63 (by decide +kernel) rfl, Or.inl (mg 62 (by decide +kernel) rfl)⟩
theorem fl_X3_15 : FL RX3 15 3 0 true := ⟨RX3, TX3, rfl, by decide, inM_X3, tyX3_ok, nmX3, rfl, rfl, Or.inl (mg 65 (by decide +kernel) rfl)⟩
theorem ff_X3_15 : FF RX3 15 3 0 := ⟨RX3, TX3, rfl, by decide, inM_X3, tyX3_ok, nmX3, rfl, rfl, mg 65 (by decide +kernel) rfl⟩
theorem fl_X3_21 : FL RX3 21 3 1 false := ⟨RX3, TX3, rfl, by decide, inM_X3, tyX3_ok, nmX3, rfl, rfl, Or.inl (mg 66 (by decide +kernel) rfl)⟩
theorem cn_X3_set : CN mX3_set 2 := ⟨mg 372 (by decide +kernel) rfl, mg 30 (by decide +kernel) rfl, by decide +kernel⟩
theorem lk_X3_25 : LV RX3 mX3_set 25 := ⟨mg 370 (by decide +kernel) rfl, mg 371 (by decide +kernel) rfl, Or.inl (mg 395 (by decide +kernel) rfl)⟩
theorem kl_X3_29 : Cond.constantLong RX3 29 (-3750763034362895579) ∈ mGood := mg 86 (by decide +kernel) rfl
theorem kl_X3_31 : Cond.constantLong RX3 31 (1099511628211) ∈ mGood := mg 87 (by decide +kernel) rfl
theorem kl_X3_33 : Cond.constantLong RX3 33 (65535) ∈ mGood := mg 518 (by decide +kernel) rfl
theorem oi_X4 : Cond.methodLink RX4 3 Lib.objectInit ∈ mGood := mg 125 (by decide +kernel) rfl
theorem nw_X4_9 : NW RX4 9 1 := ⟨RX1, TX1, rfl, inM_X1, tyX1_ok, mg 126 (by decide +kernel) rfl, mg 127 (by decide +kernel) rfl, mg 34 (by decide +kernel) rfl, by decide⟩
theorem cn_X1_init : CN mX1_init 0 := ⟨mg 130 (by decide +kernel) rfl, mg 34 (by decide +kernel) rfl, by decide +kernel⟩
theorem lk_X4_11 : LI RX4 mX1_init 11 := ⟨rfl, rfl, mg 129 (by decide +kernel) rfl, Or.inr ⟨"RollingSync", mn 128 (by decide +kernel) rfl⟩⟩
theorem fl_X4_12 : FL RX4 12 4 5 true := ⟨RX4, TX4, rfl, by decide, inM_X4, tyX4_ok, nmX4, rfl, rfl, Or.inl (mg 287 (by decide +kernel) rfl)⟩
theorem ff_X4_12 : FF RX4 12 4 5 := ⟨RX4, TX4, rfl, by decide, inM_X4, tyX4_ok, nmX4, rfl, rfl, mg 287 (by decide +kernel) rfl⟩
theorem fl_X4_18 : FL RX4 18 4 6 false := ⟨RX4, TX4, rfl, by decide, inM_X4, tyX4_ok, nmX4, rfl, rfl, Or.inl (mg 288 (by decide +kernel) rfl)⟩
theorem fl_X4_22 : FL RX4 22 4 14 false := ⟨RX4, TX4, rfl, by decide, inM_X4, tyX4_ok, nmX4, rfl, rfl, Or.inl (mg 296 (by decide +kernel) rfl)⟩
theorem fl_X4_25 : FL RX4 25 4 0 true := ⟨RX4, TX4, rfl, by decide, inM_X4, tyX4_ok, nmX4, rfl, rfl, Or.inl (mg 282 (by decide +kernel) rfl)⟩
theorem ff_X4_25 : FF RX4 25 4 0 := ⟨RX4, TX4, rfl, by decide, inM_X4, tyX4_ok, nmX4, rfl, rfl, mg 282 (by decide +kernel) rfl⟩
theorem fl_X4_29 : FL RX4 29 4 1 true := ⟨RX4, TX4, rfl, by decide, inM_X4, tyX4_ok, nmX4, rfl, rfl, Or.inl (mg 283 (by decide +kernel) rfl)⟩
theorem ff_X4_29 : FF RX4 29 4 1 := ⟨RX4, TX4, rfl, by decide, inM_X4, tyX4_ok, nmX4, rfl, rfl, mg 283 (by decide +kernel) rfl⟩
theorem fl_X4_32 : FL RX4 32 4 2 true := ⟨RX4, TX4, rfl, by decide, inM_X4, tyX4_ok, nmX4, rfl, rfl, Or.inl (mg 284 (by decide +kernel) rfl)⟩
theorem ff_X4_32 : FF RX4 32 4 2 := ⟨RX4, TX4, rfl, by decide, inM_X4, tyX4_ok, nmX4, rfl, rfl, mg 284 (by decide +kernel) rfl⟩
theorem nw_X4_36 : NW RX4 36 5 := ⟨RX5, TX5, rfl, inM_X5, tyX5_ok, mg 185 (by decide +kernel) rfl, mg 186 (by decide +kernel) rfl, mg 36 (by decide +kernel) rfl, by decide⟩
theorem cn_X5_init : CN mX5_init 1 := ⟨mg 189 (by decide +kernel) rfl, mg 36 (by decide +kernel) rfl, by decide +kernel⟩
theorem lk_X4_38 : LI RX4 mX5_init 38 := ⟨rfl, rfl, mg 188 (by decide +kernel) rfl, Or.inl (mg 187 (by decide +kernel) rfl)⟩
theorem fl_X4_41 : FL RX4 41 4 3 true := ⟨RX4, TX4, rfl, by decide, inM_X4, tyX4_ok, nmX4, rfl, rfl, Or.inl (mg 285 (by decide +kernel) rfl)⟩
theorem ff_X4_41 : FF RX4 41 4 3 := ⟨RX4, TX4, rfl, by decide, inM_X4, tyX4_ok, nmX4, rfl, rfl, mg 285 (by decide +kernel) rfl⟩
theorem nw_X4_45 : NW RX4 45 2 := ⟨RX2, TX2, rfl, inM_X2, tyX2_ok, mg 215 (by decide +kernel) rfl, mg 216 (by decide +kernel) rfl, mg 37 (by decide +kernel) rfl, by decide⟩
theorem cn_X2_init : CN mX2_init 1 := ⟨mg 219 (by decide +kernel) rfl, mg 37 (by decide +kernel) rfl, by decide +kernel⟩
theorem lk_X4_47 : LI RX4 mX2_init 47 := ⟨rfl, rfl, mg 218 (by decide +kernel) rfl, Or.inl (mg 217 (by decide +kernel) rfl)⟩
theorem fl_X4_48 : FL RX4 48 4 4 true := ⟨RX4, TX4, rfl, by decide, inM_X4, tyX4_ok, nmX4, rfl, rfl, Or.inl (mg 286 (by decide +kernel) rfl)⟩
theorem ff_X4_48 : FF RX4 48 4 4 := ⟨RX4, TX4, rfl, by decide, inM_X4, tyX4_ok, nmX4, rfl, rfl, mg 286 (by decide +kernel) rfl⟩
theorem fl_X4_52 : FL RX4 52 4 7 false := ⟨RX4, TX4, rfl, by decide, inM_X4, tyX4_ok, nmX4, rfl, rfl, Or.inl (mg 289 (by decide +kernel) rfl)⟩
theorem cn_X5_start : CN mX5_start 1 := ⟨mg 457 (by decide +kernel) rfl, mg 36 (by decide +kernel) rfl, by decide +kernel⟩
theorem lk_X4_55 : LV RX4 mX5_start 55 := ⟨mg 455 (by decide +kernel) rfl, mg 456 (by decide +kernel) rfl, Or.inl (mg 454 (by decide +kernel) rfl)⟩
theorem cn_X2_start : CN mX2_start 4 := ⟨mg 461 (by decide +kernel) rfl, mg 37 (by decide +kernel) rfl, by decide +kernel⟩
theorem lk_X4_58 : LV RX4 mX2_start 58 := ⟨mg 459 (by decide +kernel) rfl, mg 460 (by decide +kernel) rfl, Or.inl (mg 458 (by decide +kernel) rfl)⟩
theorem lk_X4_61 : LV RX4 mX1_become 61 := ⟨mg 472 (by decide +kernel) rfl, mg 473 (by decide +kernel) rfl, Or.inl (mg 471 (by decide +kernel) rfl)⟩
theorem fl_X4_65 : FL RX4 65 4 8 false := ⟨RX4, TX4, rfl, by decide, inM_X4, tyX4_ok, nmX4, rfl, rfl, Or.inl (mg 290 (by decide +kernel) rfl)⟩
theorem fl_X4_69 : FL RX4 69 4 9 false := ⟨RX4, TX4, rfl, by decide, inM_X4, tyX4_ok, nmX4, rfl, rfl, Or.inl (mg 291 (by decide +kernel) rfl)⟩
theorem fl_X4_72 : FL RX4 72 4 10 false := ⟨RX4, TX4, rfl, by decide, inM_X4, tyX4_ok, nmX4, rfl, rfl, Or.inl (mg 292 (by decide +kernel) rfl)⟩
theorem fl_X4_75 : FL RX4 75 4 11 false := ⟨RX4, TX4, rfl, by decide, inM_X4, tyX4_ok, nmX4, rfl, rfl, Or.inl (mg 293 (by decide +kernel) rfl)⟩
theorem fl_X4_78 : FL RX4 78 4 12 false := ⟨RX4, TX4, rfl, by decide, inM_X4, tyX4_ok, nmX4, rfl, rfl, Or.inl (mg 294 (by decide +kernel) rfl)⟩
theorem fl_X4_81 : FL RX4 81 4 13 false := ⟨RX4, TX4, rfl, by decide, inM_X4, tyX4_ok, nmX4, rfl, rfl, Or.inl (mg 295 (by decide +kernel) rfl)⟩
theorem lk_X4_84 : LV RX4 mX2_forgetBuilt 84 := ⟨mg 467 (by decide +kernel) rfl, mg 468 (by decide +kernel) rfl, Or.inl (mg 635 (by decide +kernel) rfl)⟩
theorem cn_X4_makeMessage : CN mX4_makeMessage 0 := ⟨mg 486 (by decide +kernel) rfl, mg 33 (by decide +kernel) rfl, by decide +kernel⟩
theorem lk_X4_87 : LV RX4 mX4_makeMessage 87 := ⟨mg 485 (by decide +kernel) rfl, mg 3 (by decide +kernel) rfl, Or.inl (mg 483 (by decide +kernel) rfl)⟩
theorem cn_X4_emit : CN mX4_emit 0 := ⟨mg 562 (by decide +kernel) rfl, mg 33 (by decide +kernel) rfl, by decide +kernel⟩
theorem lk_X4_90 : LV RX4 mX4_emit 90 := ⟨mg 561 (by decide +kernel) rfl, mg 7 (by decide +kernel) rfl, Or.inl (mg 559 (by decide +kernel) rfl)⟩
theorem cn_X4_takeMessage : CN mX4_takeMessage 0 := ⟨mg 575 (by decide +kernel) rfl, mg 33 (by decide +kernel) rfl, by decide +kernel⟩
theorem lk_X4_93 : LV RX4 mX4_takeMessage 93 := ⟨mg 574 (by decide +kernel) rfl, mg 8 (by decide +kernel) rfl, Or.inl (mg 572 (by decide +kernel) rfl)⟩
theorem cn_X4_finishIfNothingFollows : CN mX4_finishIfNothingFollows 0 := ⟨mg 626 (by decide +kernel) rfl, mg 33 (by decide +kernel) rfl, by decide +kernel⟩
theorem lk_X4_96 : LV RX4 mX4_finishIfNothingFollows 96 := ⟨mg 625 (by decide +kernel) rfl, mg 10 (by decide +kernel) rfl, Or.inl (mg 623 (by decide +kernel) rfl)⟩
theorem cn_X2_toDoCount : CN mX2_toDoCount 0 := ⟨mg 669 (by decide +kernel) rfl, mg 37 (by decide +kernel) rfl, by decide +kernel⟩
theorem lk_X4_99 : LV RX4 mX2_toDoCount 99 := ⟨mg 667 (by decide +kernel) rfl, mg 668 (by decide +kernel) rfl, Or.inl (mg 666 (by decide +kernel) rfl)⟩
theorem fl_X4_103 : FL RX4 103 2 12 false := ⟨RX2, TX2, rfl, by decide, inM_X2, tyX2_ok, nmX2, rfl, rfl, Or.inr ⟨"RollingSync", mn 238 (by decide +kernel) rfl⟩⟩
theorem fl_X4_106 : FL RX4 106 2 13 false := ⟨RX2, TX2, rfl, by decide, inM_X2, tyX2_ok, nmX2, rfl, rfl, Or.inr ⟨"RollingSync", mn 240 (by decide +kernel) rfl⟩⟩
theorem fl_X4_109 : FL RX4 109 2 14 false := ⟨RX2, TX2, rfl, by decide, inM_X2, tyX2_ok, nmX2, rfl, rfl, Or.inr ⟨"RollingSync", mn 242 (by decide +kernel) rfl⟩⟩
theorem fl_X4_112 : FL RX4 112 2 15 false := ⟨RX2, TX2, rfl, by decide, inM_X2, tyX2_ok, nmX2, rfl, rfl, Or.inr ⟨"RollingSync", mn 244 (by decide +kernel) rfl⟩⟩
theorem fl_X4_115 : FL RX4 115 2 16 false := ⟨RX2, TX2, rfl, by decide, inM_X2, tyX2_ok, nmX2, rfl, rfl, Or.inr ⟨"RollingSync", mn 246 (by decide +kernel) rfl⟩⟩
theorem fl_X4_118 : FL RX4 118 5 4 false := ⟨RX5, TX5, rfl, by decide, inM_X5, tyX5_ok, nmX5, rfl, rfl, Or.inr ⟨"RollingSync", mn 199 (by decide +kernel) rfl⟩⟩
theorem fl_X4_121 : FL RX4 121 5 5 false := ⟨RX5, TX5, rfl, by decide, inM_X5, tyX5_ok, nmX5, rfl, rfl, Or.inr ⟨"RollingSync", mn 201 (by decide +kernel) rfl⟩⟩
theorem fl_X4_124 : FL RX4 124 2 3 true := ⟨RX2, TX2, rfl, by decide, inM_X2, tyX2_ok, nmX2, rfl, rfl, Or.inr ⟨"RollingSync", mn 227 (by decide +kernel) rfl⟩⟩
theorem lk_X4_128 : LV RX4 mX3_count 128 := ⟨mg 362 (by decide +kernel) rfl, mg 363 (by decide +kernel) rfl, Or.inl (mg 670 (by decide +kernel) rfl)⟩
theorem fl_X4_133 : FL RX4 133 2 5 false := ⟨RX2, TX2, rfl, by decide, inM_X2, tyX2_ok, nmX2, rfl, rfl, Or.inr ⟨"RollingSync", mn 230 (by decide +kernel) rfl⟩⟩
theorem lk_X4_136 : LV RX4 mX3_get 136 := ⟨mg 388 (by decide +kernel) rfl, mg 389 (by decide +kernel) rfl, Or.inl (mg 688 (by decide +kernel) rfl)⟩
theorem fl_X4_140 : FL RX4 140 5 0 true := ⟨RX5, TX5, rfl, by decide, inM_X5, tyX5_ok, nmX5, rfl, rfl, Or.inr ⟨"RollingSync", mn 194 (by decide +kernel) rfl⟩⟩
theorem cn_X7_sumOf : CN mX7_sumOf 2 := ⟨mg 700 (by decide +kernel) rfl, mg 35 (by decide +kernel) rfl, by decide +kernel⟩
theorem lk_X4_144 : LV RX4 mX7_sumOf 144 := ⟨mg 698 (by decide +kernel) rfl, mg 699 (by decide +kernel) rfl, Or.inl (mg 697 (by decide +kernel) rfl)⟩
theorem fl_X4_150 : FL RX4 150 1 2 false := ⟨RX1, TX1, rfl, by decide, inM_X1, tyX1_ok, nmX1, rfl, rfl, Or.inl (mg 164 (by decide +kernel) rfl)⟩
theorem cn_X5_makeNode : CN mX5_makeNode 1 := ⟨mg 490 (by decide +kernel) rfl, mg 36 (by decide +kernel) rfl, by decide +kernel⟩
theorem lk_X4_153 : LV RX4 mX5_makeNode 153 := ⟨mg 488 (by decide +kernel) rfl, mg 489 (by decide +kernel) rfl, Or.inl (mg 487 (by decide +kernel) rfl)⟩
theorem cn_X5_makeNext : CN mX5_makeNext 1 := ⟨mg 496 (by decide +kernel) rfl, mg 36 (by decide +kernel) rfl, by decide +kernel⟩
theorem lk_X4_157 : LV RX4 mX5_makeNext 157 := ⟨mg 494 (by decide +kernel) rfl, mg 495 (by decide +kernel) rfl, Or.inl (mg 493 (by decide +kernel) rfl)⟩
theorem cn_X2_makeNext : CN mX2_makeNext 1 := ⟨mg 540 (by decide +kernel) rfl, mg 37 (by decide +kernel) rfl, by decide +kernel⟩
theorem lk_X4_160 : LV RX4 mX2_makeNext 160 := ⟨mg 538 (by decide +kernel) rfl, mg 539 (by decide +kernel) rfl, Or.inl (mg 537 (by decide +kernel) rfl)⟩
theorem fl_X4_161 : FL RX4 161 1 1 true := ⟨RX1, TX1, rfl, by decide, inM_X1, tyX1_ok, nmX1, rfl, rfl, Or.inl (mg 161 (by decide +kernel) rfl)⟩
theorem cn_X7_k : CN mX7_k 0 := ⟨mg 526 (by decide +kernel) rfl, mg 35 (by decide +kernel) rfl, by decide +kernel⟩
theorem lk_X4_162 : LV RX4 mX7_k 162 := ⟨mg 524 (by decide +kernel) rfl, mg 525 (by decide +kernel) rfl, Or.inl (mg 563 (by decide +kernel) rfl)⟩
theorem cn_X1_isByTarget : CN mX1_isByTarget 0 := ⟨mg 567 (by decide +kernel) rfl, mg 34 (by decide +kernel) rfl, by decide +kernel⟩
theorem lk_X4_165 : LV RX4 mX1_isByTarget 165 := ⟨mg 565 (by decide +kernel) rfl, mg 566 (by decide +kernel) rfl, Or.inl (mg 564 (by decide +kernel) rfl)⟩
theorem fl_X4_169 : FL RX4 169 1 3 false := ⟨RX1, TX1, rfl, by decide, inM_X1, tyX1_ok, nmX1, rfl, rfl, Or.inl (mg 166 (by decide +kernel) rfl)⟩
theorem cn_X0_carry : CN mX0_carry 2 := ⟨mg 571 (by decide +kernel) rfl, mg 32 (by decide +kernel) rfl, by decide +kernel⟩
theorem lk_X4_172 : LV RX4 mX0_carry 172 := ⟨mg 569 (by decide +kernel) rfl, mg 570 (by decide +kernel) rfl, Or.inl (mg 568 (by decide +kernel) rfl)⟩
theorem fl_X4_178 : FL RX4 178 1 4 false := ⟨RX1, TX1, rfl, by decide, inM_X1, tyX1_ok, nmX1, rfl, rfl, Or.inl (mg 169 (by decide +kernel) rfl)⟩
theorem fl_X4_181 : FL RX4 181 1 5 false := ⟨RX1, TX1, rfl, by decide, inM_X1, tyX1_ok, nmX1, rfl, rfl, Or.inl (mg 171 (by decide +kernel) rfl)⟩
theorem cn_X2_takeNode : CN mX2_takeNode 2 := ⟨mg 579 (by decide +kernel) rfl, mg 37 (by decide +kernel) rfl, by decide +kernel⟩
theorem lk_X4_185 : LV RX4 mX2_takeNode 185 := ⟨mg 577 (by decide +kernel) rfl, mg 578 (by decide +kernel) rfl, Or.inl (mg 576 (by decide +kernel) rfl)⟩
theorem cn_X5_takeSums : CN mX5_takeSums 2 := ⟨mg 584 (by decide +kernel) rfl, mg 36 (by decide +kernel) rfl, by decide +kernel⟩
theorem lk_X4_189 : LV RX4 mX5_takeSums 189 := ⟨mg 582 (by decide +kernel) rfl, mg 583 (by decide +kernel) rfl, Or.inl (mg 581 (by decide +kernel) rfl)⟩
theorem cn_X2_takeGone : CN mX2_takeGone 0 := ⟨mg 595 (by decide +kernel) rfl, mg 37 (by decide +kernel) rfl, by decide +kernel⟩
theorem lk_X4_193 : LV RX4 mX2_takeGone 193 := ⟨mg 593 (by decide +kernel) rfl, mg 594 (by decide +kernel) rfl, Or.inl (mg 592 (by decide +kernel) rfl)⟩
theorem fl_X4_196 : FL RX4 196 1 0 true := ⟨RX1, TX1, rfl, by decide, inM_X1, tyX1_ok, nmX1, rfl, rfl, Or.inl (mg 158 (by decide +kernel) rfl)⟩
theorem cn_X2_takeBytes : CN mX2_takeBytes 1 := ⟨mg 605 (by decide +kernel) rfl, mg 37 (by decide +kernel) rfl, by decide +kernel⟩
theorem lk_X4_199 : LV RX4 mX2_takeBytes 199 := ⟨mg 603 (by decide +kernel) rfl, mg 604 (by decide +kernel) rfl, Or.inl (mg 602 (by decide +kernel) rfl)⟩
theorem cn_X2_takeBlock : CN mX2_takeBlock 1 := ⟨mg 611 (by decide +kernel) rfl, mg 37 (by decide +kernel) rfl, by decide +kernel⟩
theorem lk_X4_203 : LV RX4 mX2_takeBlock 203 := ⟨mg 609 (by decide +kernel) rfl, mg 610 (by decide +kernel) rfl, Or.inl (mg 608 (by decide +kernel) rfl)⟩
theorem cn_X2_takeEnd : CN mX2_takeEnd 1 := ⟨mg 617 (by decide +kernel) rfl, mg 37 (by decide +kernel) rfl, by decide +kernel⟩
theorem lk_X4_207 : LV RX4 mX2_takeEnd 207 := ⟨mg 615 (by decide +kernel) rfl, mg 616 (by decide +kernel) rfl, Or.inl (mg 614 (by decide +kernel) rfl)⟩
theorem cn_X2_wantsMore : CN mX2_wantsMore 0 := ⟨mg 630 (by decide +kernel) rfl, mg 37 (by decide +kernel) rfl, by decide +kernel⟩
theorem lk_X4_211 : LV RX4 mX2_wantsMore 211 := ⟨mg 628 (by decide +kernel) rfl, mg 629 (by decide +kernel) rfl, Or.inl (mg 627 (by decide +kernel) rfl)⟩
theorem cn_X2_dropTold : CN mX2_dropTold 0 := ⟨mg 634 (by decide +kernel) rfl, mg 37 (by decide +kernel) rfl, by decide +kernel⟩
theorem lk_X4_214 : LV RX4 mX2_dropTold 214 := ⟨mg 632 (by decide +kernel) rfl, mg 633 (by decide +kernel) rfl, Or.inl (mg 631 (by decide +kernel) rfl)⟩
theorem oi_X5 : Cond.methodLink RX5 3 Lib.objectInit ∈ mGood := mg 190 (by decide +kernel) rfl
theorem nw_X5_9 : NW RX5 9 7 := ⟨RX7, TX7, rfl, inM_X7, tyX7_ok, mg 191 (by decide +kernel) rfl, mg 135 (by decide +kernel) rfl, mg 35 (by decide +kernel) rfl, by decide⟩
theorem lk_X5_11 : LI RX5 mX7_init 11 := ⟨rfl, rfl, mg 137 (by decide +kernel) rfl, Or.inr ⟨"RollingSync", mn 192 (by decide +kernel) rfl⟩⟩
theorem fl_X5_12 : FL RX5 12 5 0 true := ⟨RX5, TX5, rfl, by decide, inM_X5, tyX5_ok, nmX5, rfl, rfl, Or.inl (mg 193 (by decide +kernel) rfl)⟩
theorem ff_X5_12 : FF RX5 12 5 0 := ⟨RX5, TX5, rfl, by decide, inM_X5, tyX5_ok, nmX5, rfl, rfl, mg 193 (by decide +kernel) rfl⟩
theorem fl_X5_18 : FL RX5 18 5 1 false := ⟨RX5, TX5, rfl, by decide, inM_X5, tyX5_ok, nmX5, rfl, rfl, Or.inl (mg 195 (by decide +kernel) rfl)⟩
theorem fl_X5_22 : FL RX5 22 5 4 false := ⟨RX5, TX5, rfl, by decide, inM_X5, tyX5_ok, nmX5, rfl, rfl, Or.inl (mg 198 (by decide +kernel) rfl)⟩
theorem fl_X5_26 : FL RX5 26 5 5 false := ⟨RX5, TX5, rfl, by decide, inM_X5, tyX5_ok, nmX5, rfl, rfl, Or.inl (mg 200 (by decide +kernel) rfl)⟩
theorem cn_X7_copyFrom : CN mX7_copyFrom 1 := ⟨mg 588 (by decide +kernel) rfl, mg 35 (by decide +kernel) rfl, by decide +kernel⟩
theorem lk_X5_29 : LV RX5 mX7_copyFrom 29 := ⟨mg 586 (by decide +kernel) rfl, mg 587 (by decide +kernel) rfl, Or.inl (mg 585 (by decide +kernel) rfl)⟩
theorem fl_X5_33 : FL RX5 33 5 2 false := ⟨RX5, TX5, rfl, by decide, inM_X5, tyX5_ok, nmX5, rfl, rfl, Or.inl (mg 196 (by decide +kernel) rfl)⟩
theorem fl_X5_36 : FL RX5 36 5 3 false := ⟨RX5, TX5, rfl, by decide, inM_X5, tyX5_ok, nmX5, rfl, rfl, Or.inl (mg 197 (by decide +kernel) rfl)⟩
theorem lk_X5_39 : LV RX5 mX1_become 39 := ⟨mg 472 (by decide +kernel) rfl, mg 473 (by decide +kernel) rfl, Or.inl (mg 491 (by decide +kernel) rfl)⟩
theorem fl_X5_45 : FL RX5 45 1 4 false := ⟨RX1, TX1, rfl, by decide, inM_X1, tyX1_ok, nmX1, rfl, rfl, Or.inl (mg 167 (by decide +kernel) rfl)⟩
theorem lk_X5_48 : LV RX5 mX6_digestAt 48 := ⟨mg 439 (by decide +kernel) rfl, mg 440 (by decide +kernel) rfl, Or.inl (mg 492 (by decide +kernel) rfl)⟩
theorem fl_X5_54 : FL RX5 54 1 5 false := ⟨RX1, TX1, rfl, by decide, inM_X1, tyX1_ok, nmX1, rfl, rfl, Or.inl (mg 170 (by decide +kernel) rfl)⟩
theorem lk_X5_58 : LV RX5 mX6_existing 58 := ⟨mg 358 (by decide +kernel) rfl, mg 359 (by decide +kernel) rfl, Or.inl (mg 497 (by decide +kernel) rfl)⟩
theorem fl_X5_62 : FL RX5 62 1 2 false := ⟨RX1, TX1, rfl, by decide, inM_X1, tyX1_ok, nmX1, rfl, rfl, Or.inl (mg 163 (by decide +kernel) rfl)⟩
theorem lk_X5_65 : LV RX5 mX3_count 65 := ⟨mg 362 (by decide +kernel) rfl, mg 363 (by decide +kernel) rfl, Or.inl (mg 498 (by decide +kernel) rfl)⟩
theorem kl_X5_71 : Cond.constantLong RX5 71 (-3750763034362895579) ∈ mGood := mg 499 (by decide +kernel) rfl
theorem lk_X5_73 : LV RX5 mX3_digestOf 73 := ⟨mg 83 (by decide +kernel) rfl, mg 84 (by decide +kernel) rfl, Or.inl (mg 500 (by decide +kernel) rfl)⟩
theorem cn_X5_makePart : CN mX5_makePart 2 := ⟨mg 504 (by decide +kernel) rfl, mg 36 (by decide +kernel) rfl, by decide +kernel⟩
theorem lk_X5_77 : LV RX5 mX5_makePart 77 := ⟨mg 503 (by decide +kernel) rfl, mg 4 (by decide +kernel) rfl, Or.inl (mg 501 (by decide +kernel) rfl)⟩
theorem cn_X5_look : CN mX5_look 1 := ⟨mg 508 (by decide +kernel) rfl, mg 36 (by decide +kernel) rfl, by decide +kernel⟩
theorem lk_X5_81 : LV RX5 mX5_look 81 := ⟨mg 507 (by decide +kernel) rfl, mg 5 (by decide +kernel) rfl, Or.inl (mg 505 (by decide +kernel) rfl)⟩
theorem cn_X7_block : CN mX7_block 0 := ⟨mg 512 (by decide +kernel) rfl, mg 35 (by decide +kernel) rfl, by decide +kernel⟩
theorem lk_X5_85 : LV RX5 mX7_block 85 := ⟨mg 510 (by decide +kernel) rfl, mg 511 (by decide +kernel) rfl, Or.inl (mg 509 (by decide +kernel) rfl)⟩
theorem fl_X5_88 : FL RX5 88 1 0 true := ⟨RX1, TX1, rfl, by decide, inM_X1, tyX1_ok, nmX1, rfl, rfl, Or.inl (mg 157 (by decide +kernel) rfl)⟩
theorem lk_X5_92 : LV RX5 mX3_keep 92 := ⟨mg 402 (by decide +kernel) rfl, mg 403 (by decide +kernel) rfl, Or.inl (mg 534 (by decide +kernel) rfl)⟩
theorem lk_X5_96 : LV RX5 mX3_get 96 := ⟨mg 388 (by decide +kernel) rfl, mg 389 (by decide +kernel) rfl, Or.inl (mg 535 (by decide +kernel) rfl)⟩
theorem lk_X5_100 : LV RX5 mX3_add 100 := ⟨mg 392 (by decide +kernel) rfl, mg 393 (by decide +kernel) rfl, Or.inl (mg 536 (by decide +kernel) rfl)⟩
theorem cn_X3_holds : CN mX3_holds 2 := ⟨mg 385 (by decide +kernel) rfl, mg 30 (by decide +kernel) rfl, by decide +kernel⟩
theorem lk_X5_103 : LV RX5 mX3_holds 103 := ⟨mg 383 (by decide +kernel) rfl, mg 384 (by decide +kernel) rfl, Or.inl (mg 513 (by decide +kernel) rfl)⟩
theorem cn_X3_weakOf : CN mX3_weakOf 2 := ⟨mg 517 (by decide +kernel) rfl, mg 30 (by decide +kernel) rfl, by decide +kernel⟩
theorem lk_X5_107 : LV RX5 mX3_weakOf 107 := ⟨mg 515 (by decide +kernel) rfl, mg 516 (by decide +kernel) rfl, Or.inl (mg 514 (by decide +kernel) rfl)⟩
theorem cn_X7_hasWeak : CN mX7_hasWeak 1 := ⟨mg 522 (by decide +kernel) rfl, mg 35 (by decide +kernel) rfl, by decide +kernel⟩
theorem lk_X5_110 : LV RX5 mX7_hasWeak 110 := ⟨mg 520 (by decide +kernel) rfl, mg 521 (by decide +kernel) rfl, Or.inl (mg 519 (by decide +kernel) rfl)⟩
theorem lk_X5_114 : LV RX5 mX7_k 114 := ⟨mg 524 (by decide +kernel) rfl, mg 525 (by decide +kernel) rfl, Or.inl (mg 523 (by decide +kernel) rfl)⟩
theorem cn_X8_strong : CN mX8_strong 2 := ⟨mg 529 (by decide +kernel) rfl, mg 28 (by decide +kernel) rfl, by decide +kernel⟩
theorem lk_X5_117 : LS2 RX5 mX8_strong 117 := ⟨mg 528 (by decide +kernel) rfl, Or.inr ⟨"RollingSync", mn 527 (by decide +kernel) rfl⟩⟩
theorem cn_X7_find : CN mX7_find 2 := ⟨mg 533 (by decide +kernel) rfl, mg 35 (by decide +kernel) rfl, by decide +kernel⟩
theorem lk_X5_121 : LV RX5 mX7_find 121 := ⟨mg 531 (by decide +kernel) rfl, mg 532 (by decide +kernel) rfl, Or.inl (mg 530 (by decide +kernel) rfl)⟩
theorem oi_X6 : Cond.methodLink RX6 3 Lib.objectInit ∈ mGood := mg 54 (by decide +kernel) rfl
theorem al_X6_9 : Cond.classLink RX6 9 RX3 ∈ mGood := mg 55 (by decide +kernel) rfl
theorem fl_X6_11 : FL RX6 11 6 0 true := ⟨RX6, TX6, rfl, by decide, inM_X6, tyX6_ok, nmX6, rfl, rfl, Or.inl (mg 94 (by decide +kernel) rfl)⟩
theorem ff_X6_11 : FF RX6 11 6 0 := ⟨RX6, TX6, rfl, by decide, inM_X6, tyX6_ok, nmX6, rfl, rfl, mg 94 (by decide +kernel) rfl⟩
theorem fl_X6_17 : FL RX6 17 6 1 true := ⟨RX6, TX6, rfl, by decide, inM_X6, tyX6_ok, nmX6, rfl, rfl, Or.inl (mg 95 (by decide +kernel) rfl)⟩
theorem ff_X6_17 : FF RX6 17 6 1 := ⟨RX6, TX6, rfl, by decide, inM_X6, tyX6_ok, nmX6, rfl, rfl, mg 95 (by decide +kernel) rfl⟩
theorem fl_X6_21 : FL RX6 21 6 2 true := ⟨RX6, TX6, rfl, by decide, inM_X6, tyX6_ok, nmX6, rfl, rfl, Or.inl (mg 96 (by decide +kernel) rfl)⟩
theorem ff_X6_21 : FF RX6 21 6 2 := ⟨RX6, TX6, rfl, by decide, inM_X6, tyX6_ok, nmX6, rfl, rfl, mg 96 (by decide +kernel) rfl⟩
theorem nw_X6_9 : NW RX6 9 3 := ⟨RX3, TX3, rfl, inM_X3, tyX3_ok, mg 55 (by decide +kernel) rfl, mg 57 (by decide +kernel) rfl, mg 30 (by decide +kernel) rfl, by decide⟩
theorem lk_X6_25 : LI RX6 mX3_init 25 := ⟨rfl, rfl, mg 59 (by decide +kernel) rfl, Or.inl (mg 58 (by decide +kernel) rfl)⟩
theorem cn_X6_refresh : CN mX6_refresh 1 := ⟨mg 78 (by decide +kernel) rfl, mg 29 (by decide +kernel) rfl, by decide +kernel⟩
theorem lk_X6_28 : LV RX6 mX6_refresh 28 := ⟨mg 76 (by decide +kernel) rfl, mg 77 (by decide +kernel) rfl, Or.inl (mg 75 (by decide +kernel) rfl)⟩
theorem lk_X6_31 : LS2 RX6 mX8_isFile 31 := ⟨mg 80 (by decide +kernel) rfl, Or.inr ⟨"RollingSync", mn 79 (by decide +kernel) rfl⟩⟩
theorem lk_X6_35 : LV RX6 mX6_existing 35 := ⟨mg 358 (by decide +kernel) rfl, mg 359 (by decide +kernel) rfl, Or.inl (mg 357 (by decide +kernel) rfl)⟩
theorem lk_X6_39 : LV RX6 mX3_count 39 := ⟨mg 362 (by decide +kernel) rfl, mg 363 (by decide +kernel) rfl, Or.inl (mg 361 (by decide +kernel) rfl)⟩
theorem lk_X6_43 : LV RX6 mX3_set 43 := ⟨mg 370 (by decide +kernel) rfl, mg 371 (by decide +kernel) rfl, Or.inl (mg 369 (by decide +kernel) rfl)⟩
theorem lk_X6_47 : LV RX6 mX3_keep 47 := ⟨mg 402 (by decide +kernel) rfl, mg 403 (by decide +kernel) rfl, Or.inl (mg 413 (by decide +kernel) rfl)⟩
theorem lk_X6_50 : LV RX6 mX3_addAll 50 := ⟨mg 423 (by decide +kernel) rfl, mg 424 (by decide +kernel) rfl, Or.inl (mg 422 (by decide +kernel) rfl)⟩
theorem lk_X6_54 : LV RX6 mX3_digestOf 54 := ⟨mg 83 (by decide +kernel) rfl, mg 84 (by decide +kernel) rfl, Or.inl (mg 82 (by decide +kernel) rfl)⟩
theorem kl_X6_58 : Cond.constantLong RX6 58 (-3750763034362895579) ∈ mGood := mg 88 (by decide +kernel) rfl
theorem cn_X6_mixed : CN mX6_mixed 2 := ⟨mg 91 (by decide +kernel) rfl, mg 29 (by decide +kernel) rfl, by decide +kernel⟩
theorem lk_X6_60 : LS2 RX6 mX6_mixed 60 := ⟨mg 90 (by decide +kernel) rfl, Or.inl (mg 89 (by decide +kernel) rfl)⟩
theorem kl_X6_64 : Cond.constantLong RX6 64 (255) ∈ mGood := mg 92 (by decide +kernel) rfl
theorem kl_X6_66 : Cond.constantLong RX6 66 (1099511628211) ∈ mGood := mg 93 (by decide +kernel) rfl
theorem oi_X7 : Cond.methodLink RX7 3 Lib.objectInit ∈ mGood := mg 139 (by decide +kernel) rfl
theorem fl_X7_9 : FL RX7 9 7 0 true := ⟨RX7, TX7, rfl, by decide, inM_X7, tyX7_ok, nmX7, rfl, rfl, Or.inl (mg 140 (by decide +kernel) rfl)⟩
theorem ff_X7_9 : FF RX7 9 7 0 := ⟨RX7, TX7, rfl, by decide, inM_X7, tyX7_ok, nmX7, rfl, rfl, mg 140 (by decide +kernel) rfl⟩
theorem fl_X7_15 : FL RX7 15 7 1 true := ⟨RX7, TX7, rfl, by decide, inM_X7, tyX7_ok, nmX7, rfl, rfl, Or.inl (mg 141 (by decide +kernel) rfl)⟩
theorem ff_X7_15 : FF RX7 15 7 1 := ⟨RX7, TX7, rfl, by decide, inM_X7, tyX7_ok, nmX7, rfl, rfl, mg 141 (by decide +kernel) rfl⟩
theorem fl_X7_18 : FL RX7 18 7 2 false := ⟨RX7, TX7, rfl, by decide, inM_X7, tyX7_ok, nmX7, rfl, rfl, Or.inl (mg 142 (by decide +kernel) rfl)⟩
theorem fl_X7_22 : FL RX7 22 7 3 false := ⟨RX7, TX7, rfl, by decide, inM_X7, tyX7_ok, nmX7, rfl, rfl, Or.inl (mg 143 (by decide +kernel) rfl)⟩
theorem fl_X7_25 : FL RX7 25 7 4 false := ⟨RX7, TX7, rfl, by decide, inM_X7, tyX7_ok, nmX7, rfl, rfl, Or.inl (mg 144 (by decide +kernel) rfl)⟩
theorem lk_X7_28 : LV RX7 mX3_holds 28 := ⟨mg 383 (by decide +kernel) rfl, mg 384 (by decide +kernel) rfl, Or.inl (mg 551 (by decide +kernel) rfl)⟩
theorem lk_X7_34 : LV RX7 mX3_weakOf 34 := ⟨mg 515 (by decide +kernel) rfl, mg 516 (by decide +kernel) rfl, Or.inl (mg 552 (by decide +kernel) rfl)⟩
theorem lk_X7_38 : LV RX7 mX3_digestOf 38 := ⟨mg 83 (by decide +kernel) rfl, mg 84 (by decide +kernel) rfl, Or.inl (mg 553 (by decide +kernel) rfl)⟩
theorem lk_X7_41 : LS2 RX7 mX8_strong 41 := ⟨mg 528 (by decide +kernel) rfl, Or.inr ⟨"RollingSync", mn 554 (by decide +kernel) rfl⟩⟩
theorem ac_X7_45 : Cond.methodLink RX7 45 arraycopyName ∈ mGood := mg 589 (by decide +kernel) rfl
theorem kl_X7_51 : Cond.constantLong RX7 51 (-1) ∈ mGood := mg 701 (by decide +kernel) rfl
theorem oi_X8 : Cond.methodLink RX8 3 Lib.objectInit ∈ mGood := mg 46 (by decide +kernel) rfl
theorem nw_X8_9 : NW RX8 9 6 := ⟨RX6, TX6, rfl, inM_X6, tyX6_ok, mg 49 (by decide +kernel) rfl, mg 50 (by decide +kernel) rfl, mg 29 (by decide +kernel) rfl, by decide⟩
theorem cn_X6_init : CN mX6_init 0 := ⟨mg 53 (by decide +kernel) rfl, mg 29 (by decide +kernel) rfl, by decide +kernel⟩
theorem lk_X8_11 : LI RX8 mX6_init 11 := ⟨rfl, rfl, mg 52 (by decide +kernel) rfl, Or.inl (mg 51 (by decide +kernel) rfl)⟩
theorem fl_X8_12 : FL RX8 12 8 0 true := ⟨RX8, TX8, rfl, by decide, inM_X8, tyX8_ok, nmX8, rfl, rfl, Or.inl (mg 328 (by decide +kernel) rfl)⟩
theorem ff_X8_12 : FF RX8 12 8 0 := ⟨RX8, TX8, rfl, by decide, inM_X8, tyX8_ok, nmX8, rfl, rfl, mg 328 (by decide +kernel) rfl⟩
theorem fl_X8_16 : FL RX8 16 8 1 true := ⟨RX8, TX8, rfl, by decide, inM_X8, tyX8_ok, nmX8, rfl, rfl, Or.inl (mg 329 (by decide +kernel) rfl)⟩
theorem ff_X8_16 : FF RX8 16 8 1 := ⟨RX8, TX8, rfl, by decide, inM_X8, tyX8_ok, nmX8, rfl, rfl, mg 329 (by decide +kernel) rfl⟩
theorem nw_X8_19 : NW RX8 19 0 := ⟨RX0, TX0, rfl, inM_X0, tyX0_ok, mg 104 (by decide +kernel) rfl, mg 105 (by decide +kernel) rfl, mg 32 (by decide +kernel) rfl, by decide⟩
theorem cn_X0_init : CN mX0_init 0 := ⟨mg 108 (by decide +kernel) rfl, mg 32 (by decide +kernel) rfl, by decide +kernel⟩
theorem lk_X8_21 : LI RX8 mX0_init 21 := ⟨rfl, rfl, mg 107 (by decide +kernel) rfl, Or.inr ⟨"RollingSync", mn 106 (by decide +kernel) rfl⟩⟩
theorem fl_X8_22 : FL RX8 22 8 2 true := ⟨RX8, TX8, rfl, by decide, inM_X8, tyX8_ok, nmX8, rfl, rfl, Or.inl (mg 330 (by decide +kernel) rfl)⟩
theorem ff_X8_22 : FF RX8 22 8 2 := ⟨RX8, TX8, rfl, by decide, inM_X8, tyX8_ok, nmX8, rfl, rfl, mg 330 (by decide +kernel) rfl⟩
theorem nw_X8_26 : NW RX8 26 4 := ⟨RX4, TX4, rfl, inM_X4, tyX4_ok, mg 120 (by decide +kernel) rfl, mg 121 (by decide +kernel) rfl, mg 33 (by decide +kernel) rfl, by decide⟩
theorem cn_X4_init : CN mX4_init 3 := ⟨mg 124 (by decide +kernel) rfl, mg 33 (by decide +kernel) rfl, by decide +kernel⟩
theorem lk_X8_28 : LI RX8 mX4_init 28 := ⟨rfl, rfl, mg 123 (by decide +kernel) rfl, Or.inl (mg 122 (by decide +kernel) rfl)⟩
theorem fl_X8_31 : FL RX8 31 8 3 true := ⟨RX8, TX8, rfl, by decide, inM_X8, tyX8_ok, nmX8, rfl, rfl, Or.inl (mg 331 (by decide +kernel) rfl)⟩
theorem ff_X8_31 : FF RX8 31 8 3 := ⟨RX8, TX8, rfl, by decide, inM_X8, tyX8_ok, nmX8, rfl, rfl, mg 331 (by decide +kernel) rfl⟩
theorem cn_X8_isEnd : CN mX8_isEnd 1 := ⟨mg 347 (by decide +kernel) rfl, mg 28 (by decide +kernel) rfl, by decide +kernel⟩
theorem lk_X8_35 : LS2 RX8 mX8_isEnd 35 := ⟨mg 346 (by decide +kernel) rfl, Or.inl (mg 345 (by decide +kernel) rfl)⟩
theorem lk_X8_39 : LS2 RX8 mX8_isFile 39 := ⟨mg 80 (by decide +kernel) rfl, Or.inl (mg 348 (by decide +kernel) rfl)⟩
theorem cn_X8_side : CN mX8_side 1 := ⟨mg 352 (by decide +kernel) rfl, mg 28 (by decide +kernel) rfl, by decide +kernel⟩
theorem lk_X8_42 : LV RX8 mX8_side 42 := ⟨mg 351 (by decide +kernel) rfl, mg 0 (by decide +kernel) rfl, Or.inl (mg 349 (by decide +kernel) rfl)⟩
theorem cn_X6_countOf : CN mX6_countOf 1 := ⟨mg 356 (by decide +kernel) rfl, mg 29 (by decide +kernel) rfl, by decide +kernel⟩
theorem lk_X8_46 : LV RX8 mX6_countOf 46 := ⟨mg 354 (by decide +kernel) rfl, mg 355 (by decide +kernel) rfl, Or.inl (mg 353 (by decide +kernel) rfl)⟩
theorem cn_X6_put : CN mX6_put 4 := ⟨mg 368 (by decide +kernel) rfl, mg 29 (by decide +kernel) rfl, by decide +kernel⟩
theorem lk_X8_50 : LV RX8 mX6_put 50 := ⟨mg 366 (by decide +kernel) rfl, mg 367 (by decide +kernel) rfl, Or.inl (mg 365 (by decide +kernel) rfl)⟩
theorem cn_X8_existing : CN mX8_existing 2 := ⟨mg 380 (by decide +kernel) rfl, mg 28 (by decide +kernel) rfl, by decide +kernel⟩
theorem lk_X8_54 : LV RX8 mX8_existing 54 := ⟨mg 379 (by decide +kernel) rfl, mg 1 (by decide +kernel) rfl, Or.inl (mg 377 (by decide +kernel) rfl)⟩
theorem lk_X8_58 : LV RX8 mX3_holds 58 := ⟨mg 383 (by decide +kernel) rfl, mg 384 (by decide +kernel) rfl, Or.inl (mg 382 (by decide +kernel) rfl)⟩
theorem lk_X8_64 : LV RX8 mX3_count 64 := ⟨mg 362 (by decide +kernel) rfl, mg 363 (by decide +kernel) rfl, Or.inl (mg 386 (by decide +kernel) rfl)⟩
theorem lk_X8_68 : LV RX8 mX3_get 68 := ⟨mg 388 (by decide +kernel) rfl, mg 389 (by decide +kernel) rfl, Or.inl (mg 387 (by decide +kernel) rfl)⟩
theorem lk_X8_71 : LV RX8 mX3_add 71 := ⟨mg 392 (by decide +kernel) rfl, mg 393 (by decide +kernel) rfl, Or.inl (mg 391 (by decide +kernel) rfl)⟩
theorem lk_X8_75 : LV RX8 mX6_refresh 75 := ⟨mg 76 (by decide +kernel) rfl, mg 77 (by decide +kernel) rfl, Or.inl (mg 396 (by decide +kernel) rfl)⟩
theorem lk_X8_78 : LV RX8 mX3_keep 78 := ⟨mg 402 (by decide +kernel) rfl, mg 403 (by decide +kernel) rfl, Or.inl (mg 401 (by decide +kernel) rfl)⟩
theorem lk_X8_81 : LV RX8 mX6_remove 81 := ⟨mg 410 (by decide +kernel) rfl, mg 411 (by decide +kernel) rfl, Or.inl (mg 409 (by decide +kernel) rfl)⟩
theorem lk_X8_84 : LV RX8 mX6_existing 84 := ⟨mg 358 (by decide +kernel) rfl, mg 359 (by decide +kernel) rfl, Or.inl (mg 381 (by decide +kernel) rfl)⟩
theorem lk_X8_87 : LV RX8 mX6_replace 87 := ⟨mg 419 (by decide +kernel) rfl, mg 420 (by decide +kernel) rfl, Or.inl (mg 418 (by decide +kernel) rfl)⟩
theorem lk_X8_91 : LV RX8 mX6_digestAt 91 := ⟨mg 439 (by decide +kernel) rfl, mg 440 (by decide +kernel) rfl, Or.inl (mg 438 (by decide +kernel) rfl)⟩
theorem cn_X4_goes : CN mX4_goes 0 := ⟨mg 449 (by decide +kernel) rfl, mg 33 (by decide +kernel) rfl, by decide +kernel⟩
theorem lk_X8_95 : LV RX8 mX4_goes 95 := ⟨mg 447 (by decide +kernel) rfl, mg 448 (by decide +kernel) rfl, Or.inl (mg 446 (by decide +kernel) rfl)⟩
theorem cn_X4_start : CN mX4_start 4 := ⟨mg 453 (by decide +kernel) rfl, mg 33 (by decide +kernel) rfl, by decide +kernel⟩
theorem lk_X8_99 : LV RX8 mX4_start 99 := ⟨mg 451 (by decide +kernel) rfl, mg 452 (by decide +kernel) rfl, Or.inl (mg 450 (by decide +kernel) rfl)⟩
theorem cn_X4_oneStep : CN mX4_oneStep 0 := ⟨mg 482 (by decide +kernel) rfl, mg 33 (by decide +kernel) rfl, by decide +kernel⟩
theorem lk_X8_103 : LV RX8 mX4_oneStep 103 := ⟨mg 480 (by decide +kernel) rfl, mg 481 (by decide +kernel) rfl, Or.inl (mg 479 (by decide +kernel) rfl)⟩
theorem cn_X0_tellLoss : CN mX0_tellLoss 1 := ⟨mg 643 (by decide +kernel) rfl, mg 32 (by decide +kernel) rfl, by decide +kernel⟩
theorem lk_X8_106 : LV RX8 mX0_tellLoss 106 := ⟨mg 641 (by decide +kernel) rfl, mg 642 (by decide +kernel) rfl, Or.inl (mg 640 (by decide +kernel) rfl)⟩
theorem cn_X4_stop : CN mX4_stop 0 := ⟨mg 657 (by decide +kernel) rfl, mg 33 (by decide +kernel) rfl, by decide +kernel⟩
theorem lk_X8_109 : LV RX8 mX4_stop 109 := ⟨mg 655 (by decide +kernel) rfl, mg 656 (by decide +kernel) rfl, Or.inl (mg 654 (by decide +kernel) rfl)⟩
theorem cn_X4_tell : CN mX4_tell 1 := ⟨mg 665 (by decide +kernel) rfl, mg 33 (by decide +kernel) rfl, by decide +kernel⟩
theorem lk_X8_112 : LV RX8 mX4_tell 112 := ⟨mg 663 (by decide +kernel) rfl, mg 664 (by decide +kernel) rfl, Or.inl (mg 662 (by decide +kernel) rfl)⟩
theorem cn_X0_bytesBy : CN mX0_bytesBy 1 := ⟨mg 678 (by decide +kernel) rfl, mg 32 (by decide +kernel) rfl, by decide +kernel⟩
theorem lk_X8_115 : LV RX8 mX0_bytesBy 115 := ⟨mg 676 (by decide +kernel) rfl, mg 677 (by decide +kernel) rfl, Or.inl (mg 675 (by decide +kernel) rfl)⟩
theorem kl_X8_118 : Cond.constantLong RX8 118 (-1) ∈ mGood := mg 679 (by decide +kernel) rfl
theorem cn_X4_builtByte : CN mX4_builtByte 1 := ⟨mg 687 (by decide +kernel) rfl, mg 33 (by decide +kernel) rfl, by decide +kernel⟩
theorem lk_X8_120 : LV RX8 mX4_builtByte 120 := ⟨mg 685 (by decide +kernel) rfl, mg 686 (by decide +kernel) rfl, Or.inl (mg 684 (by decide +kernel) rfl)⟩
theorem cn_X4_sumOf : CN mX4_sumOf 2 := ⟨mg 696 (by decide +kernel) rfl, mg 33 (by decide +kernel) rfl, by decide +kernel⟩
theorem lk_X8_123 : LV RX8 mX4_sumOf 123 := ⟨mg 694 (by decide +kernel) rfl, mg 695 (by decide +kernel) rfl, Or.inl (mg 693 (by decide +kernel) rfl)⟩
theorem lk_X8_127 : LV RX8 mX3_weakOf 127 := ⟨mg 515 (by decide +kernel) rfl, mg 516 (by decide +kernel) rfl, Or.inl (mg 706 (by decide +kernel) rfl)⟩
theorem oi_X9 : Cond.methodLink RX9 1 Lib.objectInit ∈ mGood := mg 712 (by decide +kernel) rfl
theorem fl_X9_7 : FL RX9 7 9 0 true := ⟨RX9, TX9, rfl, by decide, inM_X9, tyX9_ok, nmX9, rfl, rfl, Or.inl (mg 713 (by decide +kernel) rfl)⟩
theorem ff_X9_7 : FF RX9 7 9 0 := ⟨RX9, TX9, rfl, by decide, inM_X9, tyX9_ok, nmX9, rfl, rfl, mg 713 (by decide +kernel) rfl⟩
theorem fl_X9_13 : FL RX9 13 9 1 true := ⟨RX9, TX9, rfl, by decide, inM_X9, tyX9_ok, nmX9, rfl, rfl, Or.inl (mg 714 (by decide +kernel) rfl)⟩
theorem ff_X9_13 : FF RX9 13 9 1 := ⟨RX9, TX9, rfl, by decide, inM_X9, tyX9_ok, nmX9, rfl, rfl, mg 714 (by decide +kernel) rfl⟩
theorem fl_X9_17 : FL RX9 17 9 2 true := ⟨RX9, TX9, rfl, by decide, inM_X9, tyX9_ok, nmX9, rfl, rfl, Or.inl (mg 715 (by decide +kernel) rfl)⟩
theorem ff_X9_17 : FF RX9 17 9 2 := ⟨RX9, TX9, rfl, by decide, inM_X9, tyX9_ok, nmX9, rfl, rfl, mg 715 (by decide +kernel) rfl⟩
theorem fl_X9_20 : FL RX9 20 9 3 true := ⟨RX9, TX9, rfl, by decide, inM_X9, tyX9_ok, nmX9, rfl, rfl, Or.inl (mg 716 (by decide +kernel) rfl)⟩
theorem ff_X9_20 : FF RX9 20 9 3 := ⟨RX9, TX9, rfl, by decide, inM_X9, tyX9_ok, nmX9, rfl, rfl, mg 716 (by decide +kernel) rfl⟩
theorem fl_X9_24 : FL RX9 24 9 9 true := ⟨RX9, TX9, rfl, by decide, inM_X9, tyX9_ok, nmX9, rfl, rfl, Or.inl (mg 722 (by decide +kernel) rfl)⟩
theorem ff_X9_24 : FF RX9 24 9 9 := ⟨RX9, TX9, rfl, by decide, inM_X9, tyX9_ok, nmX9, rfl, rfl, mg 722 (by decide +kernel) rfl⟩
theorem fl_X9_27 : FL RX9 27 9 10 true := ⟨RX9, TX9, rfl, by decide, inM_X9, tyX9_ok, nmX9, rfl, rfl, Or.inl (mg 723 (by decide +kernel) rfl)⟩
theorem ff_X9_27 : FF RX9 27 9 10 := ⟨RX9, TX9, rfl, by decide, inM_X9, tyX9_ok, nmX9, rfl, rfl, mg 723 (by decide +kernel) rfl⟩
theorem fl_X9_30 : FL RX9 30 9 11 true := ⟨RX9, TX9, rfl, by decide, inM_X9, tyX9_ok, nmX9, rfl, rfl, Or.inl (mg 724 (by decide +kernel) rfl)⟩
theorem ff_X9_30 : FF RX9 30 9 11 := ⟨RX9, TX9, rfl, by decide, inM_X9, tyX9_ok, nmX9, rfl, rfl, mg 724 (by decide +kernel) rfl⟩
theorem fl_X9_33 : FL RX9 33 9 13 true := ⟨RX9, TX9, rfl, by decide, inM_X9, tyX9_ok, nmX9, rfl, rfl, Or.inl (mg 726 (by decide +kernel) rfl)⟩
theorem ff_X9_33 : FF RX9 33 9 13 := ⟨RX9, TX9, rfl, by decide, inM_X9, tyX9_ok, nmX9, rfl, rfl, mg 726 (by decide +kernel) rfl⟩
theorem fl_X9_37 : FL RX9 37 9 14 true := ⟨RX9, TX9, rfl, by decide, inM_X9, tyX9_ok, nmX9, rfl, rfl, Or.inl (mg 727 (by decide +kernel) rfl)⟩
theorem ff_X9_37 : FF RX9 37 9 14 := ⟨RX9, TX9, rfl, by decide, inM_X9, tyX9_ok, nmX9, rfl, rfl, mg 727 (by decide +kernel) rfl⟩
theorem fl_X9_40 : FL RX9 40 9 22 true := ⟨RX9, TX9, rfl, by decide, inM_X9, tyX9_ok, nmX9, rfl, rfl, Or.inl (mg 735 (by decide +kernel) rfl)⟩
theorem ff_X9_40 : FF RX9 40 9 22 := ⟨RX9, TX9, rfl, by decide, inM_X9, tyX9_ok, nmX9, rfl, rfl, mg 735 (by decide +kernel) rfl⟩
theorem fl_X9_43 : FL RX9 43 9 29 true := ⟨RX9, TX9, rfl, by decide, inM_X9, tyX9_ok, nmX9, rfl, rfl, Or.inl (mg 742 (by decide +kernel) rfl)⟩
theorem ff_X9_43 : FF RX9 43 9 29 := ⟨RX9, TX9, rfl, by decide, inM_X9, tyX9_ok, nmX9, rfl, rfl, mg 742 (by decide +kernel) rfl⟩
theorem fl_X9_46 : FL RX9 46 9 33 true := ⟨RX9, TX9, rfl, by decide, inM_X9, tyX9_ok, nmX9, rfl, rfl, Or.inl (mg 746 (by decide +kernel) rfl)⟩
theorem ff_X9_46 : FF RX9 46 9 33 := ⟨RX9, TX9, rfl, by decide, inM_X9, tyX9_ok, nmX9, rfl, rfl, mg 746 (by decide +kernel) rfl⟩
theorem fl_X9_49 : FL RX9 49 9 34 true := ⟨RX9, TX9, rfl, by decide, inM_X9, tyX9_ok, nmX9, rfl, rfl, Or.inl (mg 747 (by decide +kernel) rfl)⟩
theorem ff_X9_49 : FF RX9 49 9 34 := ⟨RX9, TX9, rfl, by decide, inM_X9, tyX9_ok, nmX9, rfl, rfl, mg 747 (by decide +kernel) rfl⟩
theorem fl_X9_52 : FL RX9 52 9 36 true := ⟨RX9, TX9, rfl, by decide, inM_X9, tyX9_ok, nmX9, rfl, rfl, Or.inl (mg 749 (by decide +kernel) rfl)⟩
theorem ff_X9_52 : FF RX9 52 9 36 := ⟨RX9, TX9, rfl, by decide, inM_X9, tyX9_ok, nmX9, rfl, rfl, mg 749 (by decide +kernel) rfl⟩
theorem fl_X9_55 : FL RX9 55 9 37 true := ⟨RX9, TX9, rfl, by decide, inM_X9, tyX9_ok, nmX9, rfl, rfl, Or.inl (mg 750 (by decide +kernel) rfl)⟩
theorem ff_X9_55 : FF RX9 55 9 37 := ⟨RX9, TX9, rfl, by decide, inM_X9, tyX9_ok, nmX9, rfl, rfl, mg 750 (by decide +kernel) rfl⟩
theorem fl_X9_58 : FL RX9 58 9 40 true := ⟨RX9, TX9, rfl, by decide, inM_X9, tyX9_ok, nmX9, rfl, rfl, Or.inl (mg 753 (by decide +kernel) rfl)⟩
theorem ff_X9_58 : FF RX9 58 9 40 := ⟨RX9, TX9, rfl, by decide, inM_X9, tyX9_ok, nmX9, rfl, rfl, mg 753 (by decide +kernel) rfl⟩
theorem cn_X9_greater : CN mX9_greater 2 := ⟨mg 854 (by decide +kernel) rfl, mg 38 (by decide +kernel) rfl, by decide +kernel⟩
theorem lk_X9_61 : LS2 RX9 mX9_greater 61 := ⟨mg 853 (by decide +kernel) rfl, Or.inl (mg 852 (by decide +kernel) rfl)⟩
theorem cn_X9_isFile : CN mX9_isFile 2 := ⟨mg 847 (by decide +kernel) rfl, mg 38 (by decide +kernel) rfl, by decide +kernel⟩
theorem lk_X9_65 : LS2 RX9 mX9_isFile 65 := ⟨mg 846 (by decide +kernel) rfl, Or.inl (mg 845 (by decide +kernel) rfl)⟩
theorem cn_X9_sizeOf : CN mX9_sizeOf 1 := ⟨mg 851 (by decide +kernel) rfl, mg 38 (by decide +kernel) rfl, by decide +kernel⟩
theorem lk_X9_69 : LV RX9 mX9_sizeOf 69 := ⟨mg 850 (by decide +kernel) rfl, mg 11 (by decide +kernel) rfl, Or.inl (mg 848 (by decide +kernel) rfl)⟩
theorem kl_X9_73 : Cond.constantLong RX9 73 (-3750763034362895579) ∈ mGood := mg 896 (by decide +kernel) rfl
theorem kl_X9_75 : Cond.constantLong RX9 75 (255) ∈ mGood := mg 887 (by decide +kernel) rfl
theorem kl_X9_77 : Cond.constantLong RX9 77 (1099511628211) ∈ mGood := mg 897 (by decide +kernel) rfl
theorem cn_X9_digest : CN mX9_digest 3 := ⟨mg 895 (by decide +kernel) rfl, mg 38 (by decide +kernel) rfl, by decide +kernel⟩
theorem lk_X9_79 : LS2 RX9 mX9_digest 79 := ⟨mg 894 (by decide +kernel) rfl, Or.inl (mg 893 (by decide +kernel) rfl)⟩
theorem kl_X9_83 : Cond.constantLong RX9 83 (65536) ∈ mGood := mg 888 (by decide +kernel) rfl
theorem kl_X9_85 : Cond.constantLong RX9 85 (-1) ∈ mGood := mg 883 (by decide +kernel) rfl
theorem cn_X9_weakOf : CN mX9_weakOf 3 := ⟨mg 886 (by decide +kernel) rfl, mg 38 (by decide +kernel) rfl, by decide +kernel⟩
theorem lk_X9_87 : LS2 RX9 mX9_weakOf 87 := ⟨mg 885 (by decide +kernel) rfl, Or.inl (mg 884 (by decide +kernel) rfl)⟩
theorem fl_X9_90 : FL RX9 90 9 5 false := ⟨RX9, TX9, rfl, by decide, inM_X9, tyX9_ok, nmX9, rfl, rfl, Or.inl (mg 718 (by decide +kernel) rfl)⟩
theorem fl_X9_94 : FL RX9 94 9 4 false := ⟨RX9, TX9, rfl, by decide, inM_X9, tyX9_ok, nmX9, rfl, rfl, Or.inl (mg 717 (by decide +kernel) rfl)⟩
theorem fl_X9_97 : FL RX9 97 9 6 false := ⟨RX9, TX9, rfl, by decide, inM_X9, tyX9_ok, nmX9, rfl, rfl, Or.inl (mg 719 (by decide +kernel) rfl)⟩
theorem fl_X9_100 : FL RX9 100 9 8 false := ⟨RX9, TX9, rfl, by decide, inM_X9, tyX9_ok, nmX9, rfl, rfl, Or.inl (mg 721 (by decide +kernel) rfl)⟩
theorem fl_X9_103 : FL RX9 103 9 7 false := ⟨RX9, TX9, rfl, by decide, inM_X9, tyX9_ok, nmX9, rfl, rfl, Or.inl (mg 720 (by decide +kernel) rfl)⟩
theorem fl_X9_106 : FL RX9 106 9 12 false := ⟨RX9, TX9, rfl, by decide, inM_X9, tyX9_ok, nmX9, rfl, rfl, Or.inl (mg 725 (by decide +kernel) rfl)⟩
theorem fl_X9_109 : FL RX9 109 9 15 false := ⟨RX9, TX9, rfl, by decide, inM_X9, tyX9_ok, nmX9, rfl, rfl, Or.inl (mg 728 (by decide +kernel) rfl)⟩
theorem fl_X9_112 : FL RX9 112 9 16 false := ⟨RX9, TX9, rfl, by decide, inM_X9, tyX9_ok, nmX9, rfl, rfl, Or.inl (mg 729 (by decide +kernel) rfl)⟩
theorem fl_X9_115 : FL RX9 115 9 31 false := ⟨RX9, TX9, rfl, by decide, inM_X9, tyX9_ok, nmX9, rfl, rfl, Or.inl (mg 744 (by decide +kernel) rfl)⟩
theorem fl_X9_119 : FL RX9 119 9 23 false := ⟨RX9, TX9, rfl, by decide, inM_X9, tyX9_ok, nmX9, rfl, rfl, Or.inl (mg 736 (by decide +kernel) rfl)⟩
theorem cn_X9_steps : CN mX9_steps 0 := ⟨mg 909 (by decide +kernel) rfl, mg 38 (by decide +kernel) rfl, by decide +kernel⟩
theorem lk_X9_122 : LV RX9 mX9_steps 122 := ⟨mg 908 (by decide +kernel) rfl, mg 12 (by decide +kernel) rfl, Or.inl (mg 906 (by decide +kernel) rfl)⟩
theorem fl_X9_125 : FL RX9 125 9 32 false := ⟨RX9, TX9, rfl, by decide, inM_X9, tyX9_ok, nmX9, rfl, rfl, Or.inl (mg 745 (by decide +kernel) rfl)⟩
theorem cn_X9_makes : CN mX9_makes 0 := ⟨mg 913 (by decide +kernel) rfl, mg 38 (by decide +kernel) rfl, by decide +kernel⟩
theorem lk_X9_128 : LV RX9 mX9_makes 128 := ⟨mg 912 (by decide +kernel) rfl, mg 13 (by decide +kernel) rfl, Or.inl (mg 910 (by decide +kernel) rfl)⟩
theorem fl_X9_131 : FL RX9 131 9 25 false := ⟨RX9, TX9, rfl, by decide, inM_X9, tyX9_ok, nmX9, rfl, rfl, Or.inl (mg 738 (by decide +kernel) rfl)⟩
theorem fl_X9_134 : FL RX9 134 9 27 false := ⟨RX9, TX9, rfl, by decide, inM_X9, tyX9_ok, nmX9, rfl, rfl, Or.inl (mg 740 (by decide +kernel) rfl)⟩
theorem fl_X9_137 : FL RX9 137 9 24 false := ⟨RX9, TX9, rfl, by decide, inM_X9, tyX9_ok, nmX9, rfl, rfl, Or.inl (mg 737 (by decide +kernel) rfl)⟩
theorem fl_X9_140 : FL RX9 140 9 26 false := ⟨RX9, TX9, rfl, by decide, inM_X9, tyX9_ok, nmX9, rfl, rfl, Or.inl (mg 739 (by decide +kernel) rfl)⟩
theorem cn_X9_isToLose : CN mX9_isToLose 0 := ⟨mg 945 (by decide +kernel) rfl, mg 38 (by decide +kernel) rfl, by decide +kernel⟩
theorem lk_X9_143 : LV RX9 mX9_isToLose 143 := ⟨mg 944 (by decide +kernel) rfl, mg 20 (by decide +kernel) rfl, Or.inl (mg 942 (by decide +kernel) rfl)⟩
theorem cn_X9_comes : CN mX9_comes 0 := ⟨mg 949 (by decide +kernel) rfl, mg 38 (by decide +kernel) rfl, by decide +kernel⟩
theorem lk_X9_147 : LV RX9 mX9_comes 147 := ⟨mg 948 (by decide +kernel) rfl, mg 21 (by decide +kernel) rfl, Or.inl (mg 946 (by decide +kernel) rfl)⟩
theorem cn_X9_leastToDo : CN mX9_leastToDo 0 := ⟨mg 941 (by decide +kernel) rfl, mg 38 (by decide +kernel) rfl, by decide +kernel⟩
theorem lk_X9_150 : LV RX9 mX9_leastToDo 150 := ⟨mg 940 (by decide +kernel) rfl, mg 19 (by decide +kernel) rfl, Or.inl (mg 938 (by decide +kernel) rfl)⟩
theorem cn_X9_ends : CN mX9_ends 0 := ⟨mg 972 (by decide +kernel) rfl, mg 38 (by decide +kernel) rfl, by decide +kernel⟩
theorem lk_X9_154 : LV RX9 mX9_ends 154 := ⟨mg 971 (by decide +kernel) rfl, mg 26 (by decide +kernel) rfl, Or.inl (mg 969 (by decide +kernel) rfl)⟩
theorem cn_X9_target : CN mX9_target 0 := ⟨mg 933 (by decide +kernel) rfl, mg 38 (by decide +kernel) rfl, by decide +kernel⟩
theorem lk_X9_157 : LV RX9 mX9_target 157 := ⟨mg 932 (by decide +kernel) rfl, mg 17 (by decide +kernel) rfl, Or.inl (mg 930 (by decide +kernel) rfl)⟩
theorem fl_X9_160 : FL RX9 160 9 41 false := ⟨RX9, TX9, rfl, by decide, inM_X9, tyX9_ok, nmX9, rfl, rfl, Or.inl (mg 754 (by decide +kernel) rfl)⟩
theorem cn_X9_message : CN mX9_message 3 := ⟨mg 917 (by decide +kernel) rfl, mg 38 (by decide +kernel) rfl, by decide +kernel⟩
theorem lk_X9_163 : LV RX9 mX9_message 163 := ⟨mg 916 (by decide +kernel) rfl, mg 14 (by decide +kernel) rfl, Or.inl (mg 914 (by decide +kernel) rfl)⟩
theorem cn_X9_node : CN mX9_node 2 := ⟨mg 892 (by decide +kernel) rfl, mg 38 (by decide +kernel) rfl, by decide +kernel⟩
theorem lk_X9_167 : LV RX9 mX9_node 167 := ⟨mg 890 (by decide +kernel) rfl, mg 891 (by decide +kernel) rfl, Or.inl (mg 918 (by decide +kernel) rfl)⟩
theorem fl_X9_171 : FL RX9 171 9 28 false := ⟨RX9, TX9, rfl, by decide, inM_X9, tyX9_ok, nmX9, rfl, rfl, Or.inl (mg 741 (by decide +kernel) rfl)⟩
theorem cn_X9_makesOfFile : CN mX9_makesOfFile 0 := ⟨mg 922 (by decide +kernel) rfl, mg 38 (by decide +kernel) rfl, by decide +kernel⟩
theorem lk_X9_175 : LV RX9 mX9_makesOfFile 175 := ⟨mg 921 (by decide +kernel) rfl, mg 15 (by decide +kernel) rfl, Or.inl (mg 919 (by decide +kernel) rfl)⟩
theorem cn_X9_makesSums : CN mX9_makesSums 0 := ⟨mg 937 (by decide +kernel) rfl, mg 38 (by decide +kernel) rfl, by decide +kernel⟩
theorem lk_X9_178 : LV RX9 mX9_makesSums 178 := ⟨mg 936 (by decide +kernel) rfl, mg 18 (by decide +kernel) rfl, Or.inl (mg 934 (by decide +kernel) rfl)⟩
theorem fl_X9_181 : FL RX9 181 9 17 false := ⟨RX9, TX9, rfl, by decide, inM_X9, tyX9_ok, nmX9, rfl, rfl, Or.inl (mg 730 (by decide +kernel) rfl)⟩
theorem fl_X9_184 : FL RX9 184 9 18 false := ⟨RX9, TX9, rfl, by decide, inM_X9, tyX9_ok, nmX9, rfl, rfl, Or.inl (mg 731 (by decide +kernel) rfl)⟩
theorem fl_X9_187 : FL RX9 187 9 35 false := ⟨RX9, TX9, rfl, by decide, inM_X9, tyX9_ok, nmX9, rfl, rfl, Or.inl (mg 748 (by decide +kernel) rfl)⟩
theorem cn_X9_strong : CN mX9_strong 4 := ⟨mg 929 (by decide +kernel) rfl, mg 38 (by decide +kernel) rfl, by decide +kernel⟩
theorem lk_X9_190 : LS2 RX9 mX9_strong 190 := ⟨mg 928 (by decide +kernel) rfl, Or.inl (mg 927 (by decide +kernel) rfl)⟩
theorem fl_X9_194 : FL RX9 194 9 20 false := ⟨RX9, TX9, rfl, by decide, inM_X9, tyX9_ok, nmX9, rfl, rfl, Or.inl (mg 733 (by decide +kernel) rfl)⟩
theorem fl_X9_197 : FL RX9 197 9 19 false := ⟨RX9, TX9, rfl, by decide, inM_X9, tyX9_ok, nmX9, rfl, rfl, Or.inl (mg 732 (by decide +kernel) rfl)⟩
theorem cn_X9_look : CN mX9_look 1 := ⟨mg 926 (by decide +kernel) rfl, mg 38 (by decide +kernel) rfl, by decide +kernel⟩
theorem lk_X9_200 : LV RX9 mX9_look 200 := ⟨mg 925 (by decide +kernel) rfl, mg 16 (by decide +kernel) rfl, Or.inl (mg 923 (by decide +kernel) rfl)⟩
theorem fl_X9_203 : FL RX9 203 9 30 false := ⟨RX9, TX9, rfl, by decide, inM_X9, tyX9_ok, nmX9, rfl, rfl, Or.inl (mg 743 (by decide +kernel) rfl)⟩
theorem fl_X9_206 : FL RX9 206 9 39 false := ⟨RX9, TX9, rfl, by decide, inM_X9, tyX9_ok, nmX9, rfl, rfl, Or.inl (mg 752 (by decide +kernel) rfl)⟩
theorem fl_X9_209 : FL RX9 209 9 38 false := ⟨RX9, TX9, rfl, by decide, inM_X9, tyX9_ok, nmX9, rfl, rfl, Or.inl (mg 751 (by decide +kernel) rfl)⟩
theorem cn_X9_nodeComes : CN mX9_nodeComes 0 := ⟨mg 953 (by decide +kernel) rfl, mg 38 (by decide +kernel) rfl, by decide +kernel⟩
theorem lk_X9_212 : LV RX9 mX9_nodeComes 212 := ⟨mg 952 (by decide +kernel) rfl, mg 22 (by decide +kernel) rfl, Or.inl (mg 950 (by decide +kernel) rfl)⟩
theorem cn_X9_sumsCome : CN mX9_sumsCome 0 := ⟨mg 957 (by decide +kernel) rfl, mg 38 (by decide +kernel) rfl, by decide +kernel⟩
theorem lk_X9_215 : LV RX9 mX9_sumsCome 215 := ⟨mg 956 (by decide +kernel) rfl, mg 23 (by decide +kernel) rfl, Or.inl (mg 954 (by decide +kernel) rfl)⟩
theorem cn_X9_builds : CN mX9_builds 1 := ⟨mg 961 (by decide +kernel) rfl, mg 38 (by decide +kernel) rfl, by decide +kernel⟩
theorem lk_X9_218 : LV RX9 mX9_builds 218 := ⟨mg 960 (by decide +kernel) rfl, mg 24 (by decide +kernel) rfl, Or.inl (mg 958 (by decide +kernel) rfl)⟩
theorem cn_X9_endComes : CN mX9_endComes 0 := ⟨mg 965 (by decide +kernel) rfl, mg 38 (by decide +kernel) rfl, by decide +kernel⟩
theorem lk_X9_222 : LV RX9 mX9_endComes 222 := ⟨mg 964 (by decide +kernel) rfl, mg 25 (by decide +kernel) rfl, Or.inl (mg 962 (by decide +kernel) rfl)⟩
theorem fl_X9_225 : FL RX9 225 9 21 false := ⟨RX9, TX9, rfl, by decide, inM_X9, tyX9_ok, nmX9, rfl, rfl, Or.inl (mg 734 (by decide +kernel) rfl)⟩
theorem cn_X9_lesser : CN mX9_lesser 2 := ⟨mg 968 (by decide +kernel) rfl, mg 38 (by decide +kernel) rfl, by decide +kernel⟩
theorem lk_X9_228 : LS2 RX9 mX9_lesser 228 := ⟨mg 967 (by decide +kernel) rfl, Or.inl (mg 966 (by decide +kernel) rfl)⟩
theorem kl_J13_314 : Cond.constantLong RJ13 314 (6148914691236517205) ∈ mGood := mg 647 (by decide +kernel) rfl
theorem kl_J13_316 : Cond.constantLong RJ13 316 (3689348814741910323) ∈ mGood := mg 648 (by decide +kernel) rfl
theorem kl_J13_318 : Cond.constantLong RJ13 318 (1085102592571150095) ∈ mGood := mg 649 (by decide +kernel) rfl
theorem nw_L_7 : NW RL 7 8 := ⟨RX8, TX8, rfl, inM_X8, tyX8_ok, mg 41 (by decide +kernel) rfl, mg 42 (by decide +kernel) rfl, mg 28 (by decide +kernel) rfl, by decide⟩
theorem cn_X8_init : CN mX8_init 0 := ⟨mg 45 (by decide +kernel) rfl, mg 28 (by decide +kernel) rfl, by decide +kernel⟩
theorem lk_L_9 : LI RL mX8_init 9 := ⟨rfl, rfl, mg 44 (by decide +kernel) rfl, Or.inl (mg 43 (by decide +kernel) rfl)⟩
theorem nw_L_10 : NW RL 10 9 := ⟨RX9, TX9, rfl, inM_X9, tyX9_ok, mg 707 (by decide +kernel) rfl, mg 708 (by decide +kernel) rfl, mg 38 (by decide +kernel) rfl, by decide⟩
theorem cn_X9_init : CN mX9_init 0 := ⟨mg 711 (by decide +kernel) rfl, mg 38 (by decide +kernel) rfl, by decide +kernel⟩
theorem lk_L_12 : LI RL mX9_init 12 := ⟨rfl, rfl, mg 710 (by decide +kernel) rfl, Or.inl (mg 709 (by decide +kernel) rfl)⟩
theorem kl_L_13 : Cond.constantLong RL 13 (4294967295) ∈ mGood := mg 997 (by decide +kernel) rfl
theorem cn_X8_write : CN mX8_write 5 := ⟨mg 344 (by decide +kernel) rfl, mg 28 (by decide +kernel) rfl, by decide +kernel⟩
theorem lk_L_15 : LV RL mX8_write 15 := ⟨mg 342 (by decide +kernel) rfl, mg 343 (by decide +kernel) rfl, Or.inl (mg 341 (by decide +kernel) rfl)⟩
theorem cn_X9_write : CN mX9_write 5 := ⟨mg 844 (by decide +kernel) rfl, mg 38 (by decide +kernel) rfl, by decide +kernel⟩
theorem lk_L_19 : LV RL mX9_write 19 := ⟨mg 842 (by decide +kernel) rfl, mg 843 (by decide +kernel) rfl, Or.inl (mg 841 (by decide +kernel) rfl)⟩
theorem cn_X8_again : CN mX8_again 4 := ⟨mg 376 (by decide +kernel) rfl, mg 28 (by decide +kernel) rfl, by decide +kernel⟩
theorem lk_L_20 : LV RL mX8_again 20 := ⟨mg 374 (by decide +kernel) rfl, mg 375 (by decide +kernel) rfl, Or.inl (mg 373 (by decide +kernel) rfl)⟩
theorem cn_X9_again : CN mX9_again 4 := ⟨mg 858 (by decide +kernel) rfl, mg 38 (by decide +kernel) rfl, by decide +kernel⟩
theorem lk_L_24 : LV RL mX9_again 24 := ⟨mg 856 (by decide +kernel) rfl, mg 857 (by decide +kernel) rfl, Or.inl (mg 855 (by decide +kernel) rfl)⟩
theorem cn_X8_trim : CN mX8_trim 3 := ⟨mg 400 (by decide +kernel) rfl, mg 28 (by decide +kernel) rfl, by decide +kernel⟩
theorem lk_L_25 : LV RL mX8_trim 25 := ⟨mg 398 (by decide +kernel) rfl, mg 399 (by decide +kernel) rfl, Or.inl (mg 397 (by decide +kernel) rfl)⟩
theorem cn_X9_trim : CN mX9_trim 3 := ⟨mg 862 (by decide +kernel) rfl, mg 38 (by decide +kernel) rfl, by decide +kernel⟩
theorem lk_L_29 : LV RL mX9_trim 29 := ⟨mg 860 (by decide +kernel) rfl, mg 861 (by decide +kernel) rfl, Or.inl (mg 859 (by decide +kernel) rfl)⟩
theorem cn_X8_drop : CN mX8_drop 2 := ⟨mg 408 (by decide +kernel) rfl, mg 28 (by decide +kernel) rfl, by decide +kernel⟩
theorem lk_L_30 : LV RL mX8_drop 30 := ⟨mg 406 (by decide +kernel) rfl, mg 407 (by decide +kernel) rfl, Or.inl (mg 405 (by decide +kernel) rfl)⟩
theorem cn_X9_drop : CN mX9_drop 2 := ⟨mg 866 (by decide +kernel) rfl, mg 38 (by decide +kernel) rfl, by decide +kernel⟩
theorem lk_L_34 : LV RL mX9_drop 34 := ⟨mg 864 (by decide +kernel) rfl, mg 865 (by decide +kernel) rfl, Or.inl (mg 863 (by decide +kernel) rfl)⟩
theorem cn_X8_same : CN mX8_same 2 := ⟨mg 417 (by decide +kernel) rfl, mg 28 (by decide +kernel) rfl, by decide +kernel⟩
theorem lk_L_35 : LV RL mX8_same 35 := ⟨mg 415 (by decide +kernel) rfl, mg 416 (by decide +kernel) rfl, Or.inl (mg 414 (by decide +kernel) rfl)⟩
theorem cn_X9_same : CN mX9_same 2 := ⟨mg 870 (by decide +kernel) rfl, mg 38 (by decide +kernel) rfl, by decide +kernel⟩
theorem lk_L_38 : LV RL mX9_same 38 := ⟨mg 868 (by decide +kernel) rfl, mg 869 (by decide +kernel) rfl, Or.inl (mg 867 (by decide +kernel) rfl)⟩
theorem cn_X8_at : CN mX8_at 3 := ⟨mg 429 (by decide +kernel) rfl, mg 28 (by decide +kernel) rfl, by decide +kernel⟩
theorem lk_L_39 : LV RL mX8_at 39 := ⟨mg 427 (by decide +kernel) rfl, mg 428 (by decide +kernel) rfl, Or.inl (mg 426 (by decide +kernel) rfl)⟩
theorem cn_X9_at : CN mX9_at 3 := ⟨mg 874 (by decide +kernel) rfl, mg 38 (by decide +kernel) rfl, by decide +kernel⟩
theorem lk_L_42 : LV RL mX9_at 42 := ⟨mg 872 (by decide +kernel) rfl, mg 873 (by decide +kernel) rfl, Or.inl (mg 871 (by decide +kernel) rfl)⟩
theorem cn_X8_size : CN mX8_size 2 := ⟨mg 433 (by decide +kernel) rfl, mg 28 (by decide +kernel) rfl, by decide +kernel⟩
theorem lk_L_43 : LV RL mX8_size 43 := ⟨mg 431 (by decide +kernel) rfl, mg 432 (by decide +kernel) rfl, Or.inl (mg 430 (by decide +kernel) rfl)⟩
theorem cn_X9_size : CN mX9_size 2 := ⟨mg 878 (by decide +kernel) rfl, mg 38 (by decide +kernel) rfl, by decide +kernel⟩
theorem lk_L_46 : LV RL mX9_size 46 := ⟨mg 876 (by decide +kernel) rfl, mg 877 (by decide +kernel) rfl, Or.inl (mg 875 (by decide +kernel) rfl)⟩
theorem cn_X8_node : CN mX8_node 2 := ⟨mg 437 (by decide +kernel) rfl, mg 28 (by decide +kernel) rfl, by decide +kernel⟩
theorem lk_L_47 : LV RL mX8_node 47 := ⟨mg 435 (by decide +kernel) rfl, mg 436 (by decide +kernel) rfl, Or.inl (mg 434 (by decide +kernel) rfl)⟩
theorem lk_L_51 : LV RL mX9_node 51 := ⟨mg 890 (by decide +kernel) rfl, mg 891 (by decide +kernel) rfl, Or.inl (mg 889 (by decide +kernel) rfl)⟩
theorem cn_X8_begin : CN mX8_begin 4 := ⟨mg 445 (by decide +kernel) rfl, mg 28 (by decide +kernel) rfl, by decide +kernel⟩
theorem lk_L_52 : LV RL mX8_begin 52 := ⟨mg 443 (by decide +kernel) rfl, mg 444 (by decide +kernel) rfl, Or.inl (mg 442 (by decide +kernel) rfl)⟩
theorem cn_X9_begin : CN mX9_begin 4 := ⟨mg 901 (by decide +kernel) rfl, mg 38 (by decide +kernel) rfl, by decide +kernel⟩
theorem lk_L_55 : LV RL mX9_begin 55 := ⟨mg 899 (by decide +kernel) rfl, mg 900 (by decide +kernel) rfl, Or.inl (mg 898 (by decide +kernel) rfl)⟩
theorem cn_X8_step : CN mX8_step 1 := ⟨mg 478 (by decide +kernel) rfl, mg 28 (by decide +kernel) rfl, by decide +kernel⟩
theorem lk_L_56 : LV RL mX8_step 56 := ⟨mg 476 (by decide +kernel) rfl, mg 477 (by decide +kernel) rfl, Or.inl (mg 475 (by decide +kernel) rfl)⟩
theorem cn_X9_step : CN mX9_step 1 := ⟨mg 905 (by decide +kernel) rfl, mg 38 (by decide +kernel) rfl, by decide +kernel⟩
theorem lk_L_60 : LV RL mX9_step 60 := ⟨mg 903 (by decide +kernel) rfl, mg 904 (by decide +kernel) rfl, Or.inl (mg 902 (by decide +kernel) rfl)⟩
theorem cn_X8_lose : CN mX8_lose 1 := ⟨mg 639 (by decide +kernel) rfl, mg 28 (by decide +kernel) rfl, by decide +kernel⟩
theorem lk_L_61 : LV RL mX8_lose 61 := ⟨mg 637 (by decide +kernel) rfl, mg 638 (by decide +kernel) rfl, Or.inl (mg 636 (by decide +kernel) rfl)⟩
theorem cn_X9_lose : CN mX9_lose 1 := ⟨mg 976 (by decide +kernel) rfl, mg 38 (by decide +kernel) rfl, by decide +kernel⟩
theorem lk_L_64 : LV RL mX9_lose 64 := ⟨mg 974 (by decide +kernel) rfl, mg 975 (by decide +kernel) rfl, Or.inl (mg 973 (by decide +kernel) rfl)⟩
theorem cn_X8_cut : CN mX8_cut 0 := ⟨mg 653 (by decide +kernel) rfl, mg 28 (by decide +kernel) rfl, by decide +kernel⟩
theorem lk_L_65 : LV RL mX8_cut 65 := ⟨mg 651 (by decide +kernel) rfl, mg 652 (by decide +kernel) rfl, Or.inl (mg 650 (by decide +kernel) rfl)⟩
theorem cn_X9_cut : CN mX9_cut 0 := ⟨mg 980 (by decide +kernel) rfl, mg 38 (by decide +kernel) rfl, by decide +kernel⟩
theorem lk_L_69 : LV RL mX9_cut 69 := ⟨mg 978 (by decide +kernel) rfl, mg 979 (by decide +kernel) rfl, Or.inl (mg 977 (by decide +kernel) rfl)⟩
theorem cn_X8_state : CN mX8_state 1 := ⟨mg 661 (by decide +kernel) rfl, mg 28 (by decide +kernel) rfl, by decide +kernel⟩
theorem lk_L_70 : LV RL mX8_state 70 := ⟨mg 659 (by decide +kernel) rfl, mg 660 (by decide +kernel) rfl, Or.inl (mg 658 (by decide +kernel) rfl)⟩
theorem cn_X9_state : CN mX9_state 1 := ⟨mg 984 (by decide +kernel) rfl, mg 38 (by decide +kernel) rfl, by decide +kernel⟩
theorem lk_L_73 : LV RL mX9_state 73 := ⟨mg 982 (by decide +kernel) rfl, mg 983 (by decide +kernel) rfl, Or.inl (mg 981 (by decide +kernel) rfl)⟩
theorem cn_X8_sent : CN mX8_sent 1 := ⟨mg 674 (by decide +kernel) rfl, mg 28 (by decide +kernel) rfl, by decide +kernel⟩
theorem lk_L_74 : LV RL mX8_sent 74 := ⟨mg 672 (by decide +kernel) rfl, mg 673 (by decide +kernel) rfl, Or.inl (mg 671 (by decide +kernel) rfl)⟩
theorem cn_X9_sent : CN mX9_sent 1 := ⟨mg 988 (by decide +kernel) rfl, mg 38 (by decide +kernel) rfl, by decide +kernel⟩
theorem lk_L_78 : LV RL mX9_sent 78 := ⟨mg 986 (by decide +kernel) rfl, mg 987 (by decide +kernel) rfl, Or.inl (mg 985 (by decide +kernel) rfl)⟩
theorem cn_X8_built : CN mX8_built 1 := ⟨mg 683 (by decide +kernel) rfl, mg 28 (by decide +kernel) rfl, by decide +kernel⟩
theorem lk_L_79 : LV RL mX8_built 79 := ⟨mg 681 (by decide +kernel) rfl, mg 682 (by decide +kernel) rfl, Or.inl (mg 680 (by decide +kernel) rfl)⟩
theorem cn_X9_built : CN mX9_built 1 := ⟨mg 992 (by decide +kernel) rfl, mg 38 (by decide +kernel) rfl, by decide +kernel⟩
theorem lk_L_82 : LV RL mX9_built 82 := ⟨mg 990 (by decide +kernel) rfl, mg 991 (by decide +kernel) rfl, Or.inl (mg 989 (by decide +kernel) rfl)⟩
theorem cn_X8_sums : CN mX8_sums 2 := ⟨mg 692 (by decide +kernel) rfl, mg 28 (by decide +kernel) rfl, by decide +kernel⟩
theorem lk_L_83 : LV RL mX8_sums 83 := ⟨mg 690 (by decide +kernel) rfl, mg 691 (by decide +kernel) rfl, Or.inl (mg 689 (by decide +kernel) rfl)⟩
theorem cn_X9_sums : CN mX9_sums 2 := ⟨mg 996 (by decide +kernel) rfl, mg 38 (by decide +kernel) rfl, by decide +kernel⟩
theorem lk_L_86 : LV RL mX9_sums 86 := ⟨mg 994 (by decide +kernel) rfl, mg 995 (by decide +kernel) rfl, Or.inl (mg 993 (by decide +kernel) rfl)⟩
theorem cn_X8_weak : CN mX8_weak 4 := ⟨mg 705 (by decide +kernel) rfl, mg 28 (by decide +kernel) rfl, by decide +kernel⟩
theorem lk_L_87 : LV RL mX8_weak 87 := ⟨mg 703 (by decide +kernel) rfl, mg 704 (by decide +kernel) rfl, Or.inl (mg 702 (by decide +kernel) rfl)⟩
theorem cn_X9_weak : CN mX9_weak 4 := ⟨mg 882 (by decide +kernel) rfl, mg 38 (by decide +kernel) rfl, by decide +kernel⟩
theorem lk_L_91 : LV RL mX9_weak 91 := ⟨mg 880 (by decide +kernel) rfl, mg 881 (by decide +kernel) rfl, Or.inl (mg 879 (by decide +kernel) rfl)⟩
theorem oi_inst : Cond.instanceMethod Lib.objectInit ∈ mGood := mg 47 (by decide +kernel) rfl
theorem oi_code : Cond.code Lib.objectInit ⟨#[0xb1]⟩ 1 none ∈ mGood := mg 48 (by decide +kernel) rfl
theorem ar_boolean : Cond.arrayClass .boolean ∈ mGood := mg 72 (by decide +kernel) rfl
theorem ar_long : Cond.arrayClass .long ∈ mGood := mg 73 (by decide +kernel) rfl
theorem ar_int : Cond.arrayClass .int ∈ mGood := mg 74 (by decide +kernel) rfl
theorem ac_nat : Cond.native arraycopyName ∈ mGood := mg 591 (by decide +kernel) rfl
theorem ac_st : Cond.static arraycopyName ∈ mGood := mg 590 (by decide +kernel) rfl
theorem ac_in : Cond.initialized "java/lang/System" ∈ mGood := mg 39 (by decide +kernel) rfl
theorem ar_byte : Cond.arrayClass .byte ∈ mGood := mg 840 (by decide +kernel) rfl
