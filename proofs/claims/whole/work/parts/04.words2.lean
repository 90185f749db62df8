set_option maxRecDepth 100000 in
theorem wc_X3_spreadFrom : Cond.code yX3_spreadFrom cX3_spreadFrom 8 none ∈ WS := ws_m 360 rfl rfl
theorem wi_X3_spreadFrom : Cond.instanceMethod yX3_spreadFrom ∈ WS := ws_m 359 (by decide +kernel) rfl
theorem wl_X3_spreadFrom : Cond.selects RX3 yX3_spreadFrom yX3_spreadFrom ∈ WS := ws_m 6 (by decide +kernel) rfl
theorem k_X3_74 : CkV RX3 74 yX3_spreadFrom cX3_spreadFrom 8 none RX3 3 := ⟨ws_m 357 (by decide +kernel) rfl, wi_X3_spreadFrom, wl_X3_spreadFrom, wn_X3, wc_X3_spreadFrom, rfl, ⟨by decide +kernel, by decide +kernel, by decide +kernel⟩, by decide⟩
set_option maxRecDepth 100000 in
theorem wc_X3_stateIn : Cond.code yX3_stateIn cX3_stateIn 3 (some .int) ∈ WS := ws_m 364 rfl rfl
theorem wi_X3_stateIn : Cond.instanceMethod yX3_stateIn ∈ WS := ws_m 363 (by decide +kernel) rfl
theorem wl_X3_stateIn : Cond.selects RX3 yX3_stateIn yX3_stateIn ∈ WS := ws_m 7 (by decide +kernel) rfl
theorem k_X3_88 : CkV RX3 88 yX3_stateIn cX3_stateIn 3 (some .int) RX3 2 := ⟨ws_m 361 (by decide +kernel) rfl, wi_X3_stateIn, wl_X3_stateIn, wn_X3, wc_X3_stateIn, rfl, ⟨by decide +kernel, by decide +kernel, by decide +kernel⟩, by decide⟩
set_option maxRecDepth 100000 in
theorem wc_X3_has : Cond.code yX3_has cX3_has 2 (some .boolean) ∈ WS := ws_m 368 rfl rfl
theorem wi_X3_has : Cond.instanceMethod yX3_has ∈ WS := ws_m 367 (by decide +kernel) rfl
theorem wl_X3_has : Cond.selects RX3 yX3_has yX3_has ∈ WS := ws_m 8 (by decide +kernel) rfl
theorem k_X3_107 : CkV RX3 107 yX3_has cX3_has 2 (some .boolean) RX3 1 := ⟨ws_m 365 (by decide +kernel) rfl, wi_X3_has, wl_X3_has, wn_X3, wc_X3_has, rfl, ⟨by decide +kernel, by decide +kernel, by decide +kernel⟩, by decide⟩
set_option maxRecDepth 100000 in
theorem wc_X2_missingSet : Cond.code yX2_missingSet cX2_missingSet 2 (some .int) ∈ WS := ws_m 372 rfl rfl
theorem wi_X2_missingSet : Cond.instanceMethod yX2_missingSet ∈ WS := ws_m 371 (by decide +kernel) rfl
theorem wl_X2_missingSet : Cond.selects RX2 yX2_missingSet yX2_missingSet ∈ WS := ws_m 9 (by decide +kernel) rfl
theorem k_X3_92 : CkVN RX3 92 yX2_missingSet cX2_missingSet 2 (some .int) RX2 1 := ⟨List.mem_of_getElem? (i := 273) (by decide +kernel), wi_X2_missingSet, wl_X2_missingSet, wn_X2, wc_X2_missingSet, rfl, ⟨by decide +kernel, by decide +kernel, by decide +kernel⟩, by decide⟩
set_option maxRecDepth 100000 in
theorem wc_X7_isState : Cond.code yX7_isState cX7_isState 1 (some .boolean) ∈ WS := ws_m 375 rfl rfl
theorem ws_X7_isState : Cond.static yX7_isState ∈ WS := ws_m 374 (by decide +kernel) rfl
theorem k_X2_40 : CkSN RX2 40 yX7_isState cX7_isState 1 (some .boolean) 1 := ⟨List.mem_of_getElem? (i := 277) (by decide +kernel), ws_X7_isState, wn_X7, wc_X7_isState, ⟨by decide +kernel, by decide +kernel, by decide +kernel⟩, by decide⟩
set_option maxRecDepth 100000 in
theorem wc_X3_allMarked : Cond.code yX3_allMarked cX3_allMarked 5 (some .boolean) ∈ WS := ws_m 379 rfl rfl
theorem wi_X3_allMarked : Cond.instanceMethod yX3_allMarked ∈ WS := ws_m 378 (by decide +kernel) rfl
theorem wl_X3_allMarked : Cond.selects RX3 yX3_allMarked yX3_allMarked ∈ WS := ws_m 10 (by decide +kernel) rfl
theorem k_X3_95 : CkV RX3 95 yX3_allMarked cX3_allMarked 5 (some .boolean) RX3 3 := ⟨ws_m 376 (by decide +kernel) rfl, wi_X3_allMarked, wl_X3_allMarked, wn_X3, wc_X3_allMarked, rfl, ⟨by decide +kernel, by decide +kernel, by decide +kernel⟩, by decide⟩
set_option maxRecDepth 100000 in
theorem wc_X3_codeBehind : Cond.code yX3_codeBehind cX3_codeBehind 8 (some .int) ∈ WS := ws_m 383 rfl rfl
theorem wi_X3_codeBehind : Cond.instanceMethod yX3_codeBehind ∈ WS := ws_m 382 (by decide +kernel) rfl
theorem wl_X3_codeBehind : Cond.selects RX3 yX3_codeBehind yX3_codeBehind ∈ WS := ws_m 11 (by decide +kernel) rfl
theorem k_X3_99 : CkV RX3 99 yX3_codeBehind cX3_codeBehind 8 (some .int) RX3 4 := ⟨ws_m 380 (by decide +kernel) rfl, wi_X3_codeBehind, wl_X3_codeBehind, wn_X3, wc_X3_codeBehind, rfl, ⟨by decide +kernel, by decide +kernel, by decide +kernel⟩, by decide⟩
set_option maxRecDepth 100000 in
theorem wc_X2_target : Cond.code yX2_target cX2_target 3 (some .int) ∈ WS := ws_m 387 rfl rfl
theorem wi_X2_target : Cond.instanceMethod yX2_target ∈ WS := ws_m 386 (by decide +kernel) rfl
theorem wl_X2_target : Cond.selects RX2 yX2_target yX2_target ∈ WS := ws_m 12 (by decide +kernel) rfl
theorem k_X3_111 : CkVN RX3 111 yX2_target cX2_target 3 (some .int) RX2 2 := ⟨List.mem_of_getElem? (i := 288) (by decide +kernel), wi_X2_target, wl_X2_target, wn_X2, wc_X2_target, rfl, ⟨by decide +kernel, by decide +kernel, by decide +kernel⟩, by decide⟩
set_option maxRecDepth 100000 in
theorem wc_X7_isEvent : Cond.code yX7_isEvent cX7_isEvent 1 (some .boolean) ∈ WS := ws_m 390 rfl rfl
theorem ws_X7_isEvent : Cond.static yX7_isEvent ∈ WS := ws_m 389 (by decide +kernel) rfl
theorem k_X2_44 : CkSN RX2 44 yX7_isEvent cX7_isEvent 1 (some .boolean) 1 := ⟨List.mem_of_getElem? (i := 292) (by decide +kernel), ws_X7_isEvent, wn_X7, wc_X7_isEvent, ⟨by decide +kernel, by decide +kernel, by decide +kernel⟩, by decide⟩
set_option maxRecDepth 100000 in
theorem wc_X3_addEdge : Cond.code yX3_addEdge cX3_addEdge 5 none ∈ WS := ws_m 394 rfl rfl
theorem wi_X3_addEdge : Cond.instanceMethod yX3_addEdge ∈ WS := ws_m 393 (by decide +kernel) rfl
theorem wl_X3_addEdge : Cond.selects RX3 yX3_addEdge yX3_addEdge ∈ WS := ws_m 13 (by decide +kernel) rfl
theorem k_X3_103 : CkV RX3 103 yX3_addEdge cX3_addEdge 5 none RX3 3 := ⟨ws_m 391 (by decide +kernel) rfl, wi_X3_addEdge, wl_X3_addEdge, wn_X3, wc_X3_addEdge, rfl, ⟨by decide +kernel, by decide +kernel, by decide +kernel⟩, by decide⟩
set_option maxRecDepth 100000 in
theorem wc_X7_controlAnew : Cond.code yX7_controlAnew cX7_controlAnew 1 none ∈ WS := ws_m 398 rfl rfl
theorem wi_X7_controlAnew : Cond.instanceMethod yX7_controlAnew ∈ WS := ws_m 397 (by decide +kernel) rfl
theorem wl_X7_controlAnew : Cond.selects RX7 yX7_controlAnew yX7_controlAnew ∈ WS := ws_m 14 (by decide +kernel) rfl
theorem k_X7_84 : CkV RX7 84 yX7_controlAnew cX7_controlAnew 1 none RX7 0 := ⟨ws_m 395 (by decide +kernel) rfl, wi_X7_controlAnew, wl_X7_controlAnew, wn_X7, wc_X7_controlAnew, rfl, ⟨by decide +kernel, by decide +kernel, by decide +kernel⟩, by decide⟩
set_option maxRecDepth 100000 in
theorem wc_X1_sift : Cond.code yX1_sift cX1_sift 5 none ∈ WS := ws_m 402 rfl rfl
theorem wi_X1_sift : Cond.instanceMethod yX1_sift ∈ WS := ws_m 401 (by decide +kernel) rfl
theorem wl_X1_sift : Cond.selects RX1 yX1_sift yX1_sift ∈ WS := ws_m 15 (by decide +kernel) rfl
theorem k_X7_235 : CkVN RX7 235 yX1_sift cX1_sift 5 none RX1 2 := ⟨List.mem_of_getElem? (i := 303) (by decide +kernel), wi_X1_sift, wl_X1_sift, wn_X1, wc_X1_sift, rfl, ⟨by decide +kernel, by decide +kernel, by decide +kernel⟩, by decide⟩
theorem k_X1_34 : CkS RX1 34 yJ7_fill_53178 cJ7_fill_53178 4 none 2 := ⟨ws_m 403 (by decide +kernel) rfl, ws_J7_fill_53178, wn_J7, wc_J7_fill_53178, ⟨by decide +kernel, by decide +kernel, by decide +kernel⟩, by decide⟩
set_option maxRecDepth 100000 in
theorem wc_X1_loseClashing : Cond.code yX1_loseClashing cX1_loseClashing 5 none ∈ WS := ws_m 407 rfl rfl
theorem wi_X1_loseClashing : Cond.instanceMethod yX1_loseClashing ∈ WS := ws_m 406 (by decide +kernel) rfl
theorem wl_X1_loseClashing : Cond.selects RX1 yX1_loseClashing yX1_loseClashing ∈ WS := ws_m 16 (by decide +kernel) rfl
theorem k_X1_46 : CkV RX1 46 yX1_loseClashing cX1_loseClashing 5 none RX1 2 := ⟨ws_m 404 (by decide +kernel) rfl, wi_X1_loseClashing, wl_X1_loseClashing, wn_X1, wc_X1_loseClashing, rfl, ⟨by decide +kernel, by decide +kernel, by decide +kernel⟩, by decide⟩
set_option maxRecDepth 100000 in
theorem wc_X3_clashSet : Cond.code yX3_clashSet cX3_clashSet 3 (some .int) ∈ WS := ws_m 411 rfl rfl
theorem wi_X3_clashSet : Cond.instanceMethod yX3_clashSet ∈ WS := ws_m 410 (by decide +kernel) rfl
theorem wl_X3_clashSet : Cond.selects RX3 yX3_clashSet yX3_clashSet ∈ WS := ws_m 17 (by decide +kernel) rfl
theorem k_X1_60 : CkVN RX1 60 yX3_clashSet cX3_clashSet 3 (some .int) RX3 2 := ⟨List.mem_of_getElem? (i := 312) (by decide +kernel), wi_X3_clashSet, wl_X3_clashSet, wn_X3, wc_X3_clashSet, rfl, ⟨by decide +kernel, by decide +kernel, by decide +kernel⟩, by decide⟩
set_option maxRecDepth 100000 in
theorem wc_X7_leastIn : Cond.code yX7_leastIn cX7_leastIn 2 (some .int) ∈ WS := ws_m 414 rfl rfl
theorem ws_X7_leastIn : Cond.static yX7_leastIn ∈ WS := ws_m 413 (by decide +kernel) rfl
theorem k_X1_64 : CkSN RX1 64 yX7_leastIn cX7_leastIn 2 (some .int) 1 := ⟨List.mem_of_getElem? (i := 316) (by decide +kernel), ws_X7_leastIn, wn_X7, wc_X7_leastIn, ⟨by decide +kernel, by decide +kernel, by decide +kernel⟩, by decide⟩
theorem k_X7_246 : CkS RX7 246 yX7_isIn cX7_isIn 2 (some .boolean) 2 := ⟨ws_m 415 (by decide +kernel) rfl, ws_X7_isIn, wn_X7, wc_X7_isIn, ⟨by decide +kernel, by decide +kernel, by decide +kernel⟩, by decide⟩
set_option maxRecDepth 100000 in
theorem wc_X1_lose : Cond.code yX1_lose cX1_lose 5 none ∈ WS := ws_m 419 rfl rfl
theorem wi_X1_lose : Cond.instanceMethod yX1_lose ∈ WS := ws_m 418 (by decide +kernel) rfl
theorem wl_X1_lose : Cond.selects RX1 yX1_lose yX1_lose ∈ WS := ws_m 18 (by decide +kernel) rfl
theorem k_X1_68 : CkV RX1 68 yX1_lose cX1_lose 5 none RX1 4 := ⟨ws_m 416 (by decide +kernel) rfl, wi_X1_lose, wl_X1_lose, wn_X1, wc_X1_lose, rfl, ⟨by decide +kernel, by decide +kernel, by decide +kernel⟩, by decide⟩
theorem k_X1_100 : CkSN RX1 100 yX7_isJoint cX7_isJoint 1 (some .boolean) 1 := ⟨List.mem_of_getElem? (i := 324) (by decide +kernel), ws_X7_isJoint, wn_X7, wc_X7_isJoint, ⟨by decide +kernel, by decide +kernel, by decide +kernel⟩, by decide⟩
set_option maxRecDepth 100000 in
theorem wc_X1_losePushed : Cond.code yX1_losePushed cX1_losePushed 5 none ∈ WS := ws_m 424 rfl rfl
theorem wi_X1_losePushed : Cond.instanceMethod yX1_losePushed ∈ WS := ws_m 423 (by decide +kernel) rfl
theorem wl_X1_losePushed : Cond.selects RX1 yX1_losePushed yX1_losePushed ∈ WS := ws_m 19 (by decide +kernel) rfl
theorem k_X1_50 : CkV RX1 50 yX1_losePushed cX1_losePushed 5 none RX1 2 := ⟨ws_m 421 (by decide +kernel) rfl, wi_X1_losePushed, wl_X1_losePushed, wn_X1, wc_X1_losePushed, rfl, ⟨by decide +kernel, by decide +kernel, by decide +kernel⟩, by decide⟩
set_option maxRecDepth 100000 in
theorem wc_X3_leadSet : Cond.code yX3_leadSet cX3_leadSet 2 (some .int) ∈ WS := ws_m 428 rfl rfl
theorem wi_X3_leadSet : Cond.instanceMethod yX3_leadSet ∈ WS := ws_m 427 (by decide +kernel) rfl
theorem wl_X3_leadSet : Cond.selects RX3 yX3_leadSet yX3_leadSet ∈ WS := ws_m 20 (by decide +kernel) rfl
theorem k_X1_72 : CkVN RX1 72 yX3_leadSet cX3_leadSet 2 (some .int) RX3 1 := ⟨List.mem_of_getElem? (i := 329) (by decide +kernel), wi_X3_leadSet, wl_X3_leadSet, wn_X3, wc_X3_leadSet, rfl, ⟨by decide +kernel, by decide +kernel, by decide +kernel⟩, by decide⟩
set_option maxRecDepth 100000 in
theorem wc_X1_isLost : Cond.code yX1_isLost cX1_isLost 2 (some .boolean) ∈ WS := ws_m 432 rfl rfl
theorem wi_X1_isLost : Cond.instanceMethod yX1_isLost ∈ WS := ws_m 431 (by decide +kernel) rfl
theorem wl_X1_isLost : Cond.selects RX1 yX1_isLost yX1_isLost ∈ WS := ws_m 21 (by decide +kernel) rfl
theorem k_X1_75 : CkV RX1 75 yX1_isLost cX1_isLost 2 (some .boolean) RX1 1 := ⟨ws_m 429 (by decide +kernel) rfl, wi_X1_isLost, wl_X1_isLost, wn_X1, wc_X1_isLost, rfl, ⟨by decide +kernel, by decide +kernel, by decide +kernel⟩, by decide⟩
set_option maxRecDepth 100000 in
theorem wc_X1_waveOf : Cond.code yX1_waveOf cX1_waveOf 2 (some .int) ∈ WS := ws_m 436 rfl rfl
theorem wi_X1_waveOf : Cond.instanceMethod yX1_waveOf ∈ WS := ws_m 435 (by decide +kernel) rfl
theorem wl_X1_waveOf : Cond.selects RX1 yX1_waveOf yX1_waveOf ∈ WS := ws_m 22 (by decide +kernel) rfl
theorem k_X1_103 : CkV RX1 103 yX1_waveOf cX1_waveOf 2 (some .int) RX1 1 := ⟨ws_m 433 (by decide +kernel) rfl, wi_X1_waveOf, wl_X1_waveOf, wn_X1, wc_X1_waveOf, rfl, ⟨by decide +kernel, by decide +kernel, by decide +kernel⟩, by decide⟩
set_option maxRecDepth 100000 in
theorem wc_X1_losePushedBy : Cond.code yX1_losePushedBy cX1_losePushedBy 5 none ∈ WS := ws_m 440 rfl rfl
theorem wi_X1_losePushedBy : Cond.instanceMethod yX1_losePushedBy ∈ WS := ws_m 439 (by decide +kernel) rfl
theorem wl_X1_losePushedBy : Cond.selects RX1 yX1_losePushedBy yX1_losePushedBy ∈ WS := ws_m 23 (by decide +kernel) rfl
theorem k_X1_79 : CkV RX1 79 yX1_losePushedBy cX1_losePushedBy 5 none RX1 3 := ⟨ws_m 437 (by decide +kernel) rfl, wi_X1_losePushedBy, wl_X1_losePushedBy, wn_X1, wc_X1_losePushedBy, rfl, ⟨by decide +kernel, by decide +kernel, by decide +kernel⟩, by decide⟩
theorem k_X1_83 : CkSN RX1 83 yX7_isIn cX7_isIn 2 (some .boolean) 2 := ⟨List.mem_of_getElem? (i := 345) (by decide +kernel), ws_X7_isIn, wn_X7, wc_X7_isIn, ⟨by decide +kernel, by decide +kernel, by decide +kernel⟩, by decide⟩
set_option maxRecDepth 100000 in
theorem wc_X3_target : Cond.code yX3_target cX3_target 3 (some .int) ∈ WS := ws_m 445 rfl rfl
theorem wi_X3_target : Cond.instanceMethod yX3_target ∈ WS := ws_m 444 (by decide +kernel) rfl
theorem wl_X3_target : Cond.selects RX3 yX3_target yX3_target ∈ WS := ws_m 24 (by decide +kernel) rfl
theorem k_X1_87 : CkVN RX1 87 yX3_target cX3_target 3 (some .int) RX3 2 := ⟨List.mem_of_getElem? (i := 346) (by decide +kernel), wi_X3_target, wl_X3_target, wn_X3, wc_X3_target, rfl, ⟨by decide +kernel, by decide +kernel, by decide +kernel⟩, by decide⟩
theorem k_X3_139 : CkSN RX3 139 yX7_isEvent cX7_isEvent 1 (some .boolean) 1 := ⟨List.mem_of_getElem? (i := 350) (by decide +kernel), ws_X7_isEvent, wn_X7, wc_X7_isEvent, ⟨by decide +kernel, by decide +kernel, by decide +kernel⟩, by decide⟩
set_option maxRecDepth 100000 in
theorem wc_X1_isLostInEarlierWave : Cond.code yX1_isLostInEarlierWave cX1_isLostInEarlierWave 2 (some .boolean) ∈ WS := ws_m 450 rfl rfl
theorem wi_X1_isLostInEarlierWave : Cond.instanceMethod yX1_isLostInEarlierWave ∈ WS := ws_m 449 (by decide +kernel) rfl
theorem wl_X1_isLostInEarlierWave : Cond.selects RX1 yX1_isLostInEarlierWave yX1_isLostInEarlierWave ∈ WS := ws_m 25 (by decide +kernel) rfl
theorem k_X1_90 : CkV RX1 90 yX1_isLostInEarlierWave cX1_isLostInEarlierWave 2 (some .boolean) RX1 1 := ⟨ws_m 447 (by decide +kernel) rfl, wi_X1_isLostInEarlierWave, wl_X1_isLostInEarlierWave, wn_X1, wc_X1_isLostInEarlierWave, rfl, ⟨by decide +kernel, by decide +kernel, by decide +kernel⟩, by decide⟩
set_option maxRecDepth 100000 in
theorem wc_X1_loseStuck : Cond.code yX1_loseStuck cX1_loseStuck 3 none ∈ WS := ws_m 454 rfl rfl
theorem wi_X1_loseStuck : Cond.instanceMethod yX1_loseStuck ∈ WS := ws_m 453 (by decide +kernel) rfl
theorem wl_X1_loseStuck : Cond.selects RX1 yX1_loseStuck yX1_loseStuck ∈ WS := ws_m 26 (by decide +kernel) rfl
theorem k_X1_53 : CkV RX1 53 yX1_loseStuck cX1_loseStuck 3 none RX1 1 := ⟨ws_m 451 (by decide +kernel) rfl, wi_X1_loseStuck, wl_X1_loseStuck, wn_X1, wc_X1_loseStuck, rfl, ⟨by decide +kernel, by decide +kernel, by decide +kernel⟩, by decide⟩
set_option maxRecDepth 100000 in
theorem wc_X3_measure : Cond.code yX3_measure cX3_measure 3 none ∈ WS := ws_m 458 rfl rfl
theorem wi_X3_measure : Cond.instanceMethod yX3_measure ∈ WS := ws_m 457 (by decide +kernel) rfl
theorem wl_X3_measure : Cond.selects RX3 yX3_measure yX3_measure ∈ WS := ws_m 27 (by decide +kernel) rfl
theorem k_X1_93 : CkVN RX1 93 yX3_measure cX3_measure 3 none RX3 1 := ⟨List.mem_of_getElem? (i := 359) (by decide +kernel), wi_X3_measure, wl_X3_measure, wn_X3, wc_X3_measure, rfl, ⟨by decide +kernel, by decide +kernel, by decide +kernel⟩, by decide⟩
set_option maxRecDepth 100000 in
theorem wc_X3_enqueue : Cond.code yX3_enqueue cX3_enqueue 3 none ∈ WS := ws_m 462 rfl rfl
theorem wi_X3_enqueue : Cond.instanceMethod yX3_enqueue ∈ WS := ws_m 461 (by decide +kernel) rfl
theorem wl_X3_enqueue : Cond.selects RX3 yX3_enqueue yX3_enqueue ∈ WS := ws_m 28 (by decide +kernel) rfl
theorem k_X3_124 : CkV RX3 124 yX3_enqueue cX3_enqueue 3 none RX3 2 := ⟨ws_m 459 (by decide +kernel) rfl, wi_X3_enqueue, wl_X3_enqueue, wn_X3, wc_X3_enqueue, rfl, ⟨by decide +kernel, by decide +kernel, by decide +kernel⟩, by decide⟩
set_option maxRecDepth 100000 in
theorem wc_X3_measureBackFrom : Cond.code yX3_measureBackFrom cX3_measureBackFrom 6 none ∈ WS := ws_m 466 rfl rfl
theorem wi_X3_measureBackFrom : Cond.instanceMethod yX3_measureBackFrom ∈ WS := ws_m 465 (by decide +kernel) rfl
theorem wl_X3_measureBackFrom : Cond.selects RX3 yX3_measureBackFrom yX3_measureBackFrom ∈ WS := ws_m 29 (by decide +kernel) rfl
theorem k_X3_128 : CkV RX3 128 yX3_measureBackFrom cX3_measureBackFrom 6 none RX3 2 := ⟨ws_m 463 (by decide +kernel) rfl, wi_X3_measureBackFrom, wl_X3_measureBackFrom, wn_X3, wc_X3_measureBackFrom, rfl, ⟨by decide +kernel, by decide +kernel, by decide +kernel⟩, by decide⟩
set_option maxRecDepth 100000 in
theorem wc_X3_farOf : Cond.code yX3_farOf cX3_farOf 2 (some .int) ∈ WS := ws_m 470 rfl rfl
theorem wi_X3_farOf : Cond.instanceMethod yX3_farOf ∈ WS := ws_m 469 (by decide +kernel) rfl
theorem wl_X3_farOf : Cond.selects RX3 yX3_farOf yX3_farOf ∈ WS := ws_m 30 (by decide +kernel) rfl
theorem k_X1_97 : CkVN RX1 97 yX3_farOf cX3_farOf 2 (some .int) RX3 1 := ⟨List.mem_of_getElem? (i := 371) (by decide +kernel), wi_X3_farOf, wl_X3_farOf, wn_X3, wc_X3_farOf, rfl, ⟨by decide +kernel, by decide +kernel, by decide +kernel⟩, by decide⟩
set_option maxRecDepth 100000 in
theorem wc_X0_spread : Cond.code yX0_spread cX0_spread 4 none ∈ WS := ws_m 474 rfl rfl
theorem wi_X0_spread : Cond.instanceMethod yX0_spread ∈ WS := ws_m 473 (by decide +kernel) rfl
theorem wl_X0_spread : Cond.selects RX0 yX0_spread yX0_spread ∈ WS := ws_m 31 (by decide +kernel) rfl
theorem k_X7_239 : CkVN RX7 239 yX0_spread cX0_spread 4 none RX0 2 := ⟨List.mem_of_getElem? (i := 375) (by decide +kernel), wi_X0_spread, wl_X0_spread, wn_X0, wc_X0_spread, rfl, ⟨by decide +kernel, by decide +kernel, by decide +kernel⟩, by decide⟩
theorem k_X0_31 : CkS RX0 31 yJ7_fill_53178 cJ7_fill_53178 4 none 2 := ⟨ws_m 475 (by decide +kernel) rfl, ws_J7_fill_53178, wn_J7, wc_J7_fill_53178, ⟨by decide +kernel, by decide +kernel, by decide +kernel⟩, by decide⟩
theorem k_X0_37 : CkVN RX0 37 yX3_has cX3_has 2 (some .boolean) RX3 1 := ⟨List.mem_of_getElem? (i := 380) (by decide +kernel), wi_X3_has, wl_X3_has, wn_X3, wc_X3_has, rfl, ⟨by decide +kernel, by decide +kernel, by decide +kernel⟩, by decide⟩
theorem k_X0_43 : CkVN RX0 43 yX1_isLost cX1_isLost 2 (some .boolean) RX1 1 := ⟨List.mem_of_getElem? (i := 381) (by decide +kernel), wi_X1_isLost, wl_X1_isLost, wn_X1, wc_X1_isLost, rfl, ⟨by decide +kernel, by decide +kernel, by decide +kernel⟩, by decide⟩
set_option maxRecDepth 100000 in
theorem wc_X0_comeTo : Cond.code yX0_comeTo cX0_comeTo 4 none ∈ WS := ws_m 481 rfl rfl
theorem wi_X0_comeTo : Cond.instanceMethod yX0_comeTo ∈ WS := ws_m 480 (by decide +kernel) rfl
theorem wl_X0_comeTo : Cond.selects RX0 yX0_comeTo yX0_comeTo ∈ WS := ws_m 32 (by decide +kernel) rfl
theorem k_X0_48 : CkV RX0 48 yX0_comeTo cX0_comeTo 4 none RX0 3 := ⟨ws_m 478 (by decide +kernel) rfl, wi_X0_comeTo, wl_X0_comeTo, wn_X0, wc_X0_comeTo, rfl, ⟨by decide +kernel, by decide +kernel, by decide +kernel⟩, by decide⟩
set_option maxRecDepth 100000 in
theorem wc_X0_spreadFrom : Cond.code yX0_spreadFrom cX0_spreadFrom 8 none ∈ WS := ws_m 485 rfl rfl
theorem wi_X0_spreadFrom : Cond.instanceMethod yX0_spreadFrom ∈ WS := ws_m 484 (by decide +kernel) rfl
theorem wl_X0_spreadFrom : Cond.selects RX0 yX0_spreadFrom yX0_spreadFrom ∈ WS := ws_m 33 (by decide +kernel) rfl
theorem k_X0_52 : CkV RX0 52 yX0_spreadFrom cX0_spreadFrom 8 none RX0 3 := ⟨ws_m 482 (by decide +kernel) rfl, wi_X0_spreadFrom, wl_X0_spreadFrom, wn_X0, wc_X0_spreadFrom, rfl, ⟨by decide +kernel, by decide +kernel, by decide +kernel⟩, by decide⟩
theorem k_X0_56 : CkVN RX0 56 yX3_leadSet cX3_leadSet 2 (some .int) RX3 1 := ⟨List.mem_of_getElem? (i := 390) (by decide +kernel), wi_X3_leadSet, wl_X3_leadSet, wn_X3, wc_X3_leadSet, rfl, ⟨by decide +kernel, by decide +kernel, by decide +kernel⟩, by decide⟩
theorem k_X0_60 : CkSN RX0 60 yX7_isIn cX7_isIn 2 (some .boolean) 2 := ⟨List.mem_of_getElem? (i := 391) (by decide +kernel), ws_X7_isIn, wn_X7, wc_X7_isIn, ⟨by decide +kernel, by decide +kernel, by decide +kernel⟩, by decide⟩
theorem k_X0_64 : CkVN RX0 64 yX3_target cX3_target 3 (some .int) RX3 2 := ⟨List.mem_of_getElem? (i := 392) (by decide +kernel), wi_X3_target, wl_X3_target, wn_X3, wc_X3_target, rfl, ⟨by decide +kernel, by decide +kernel, by decide +kernel⟩, by decide⟩
theorem k_X0_68 : CkSN RX0 68 yX7_isJoint cX7_isJoint 1 (some .boolean) 1 := ⟨List.mem_of_getElem? (i := 393) (by decide +kernel), ws_X7_isJoint, wn_X7, wc_X7_isJoint, ⟨by decide +kernel, by decide +kernel, by decide +kernel⟩, by decide⟩
set_option maxRecDepth 100000 in
theorem wc_X0_holds : Cond.code yX0_holds cX0_holds 2 (some .boolean) ∈ WS := ws_m 493 rfl rfl
theorem wi_X0_holds : Cond.instanceMethod yX0_holds ∈ WS := ws_m 492 (by decide +kernel) rfl
theorem wl_X0_holds : Cond.selects RX0 yX0_holds yX0_holds ∈ WS := ws_m 34 (by decide +kernel) rfl
theorem k_X0_71 : CkV RX0 71 yX0_holds cX0_holds 2 (some .boolean) RX0 1 := ⟨ws_m 490 (by decide +kernel) rfl, wi_X0_holds, wl_X0_holds, wn_X0, wc_X0_holds, rfl, ⟨by decide +kernel, by decide +kernel, by decide +kernel⟩, by decide⟩
set_option maxRecDepth 100000 in
theorem wc_X0_depthOf : Cond.code yX0_depthOf cX0_depthOf 2 (some .int) ∈ WS := ws_m 497 rfl rfl
theorem wi_X0_depthOf : Cond.instanceMethod yX0_depthOf ∈ WS := ws_m 496 (by decide +kernel) rfl
theorem wl_X0_depthOf : Cond.selects RX0 yX0_depthOf yX0_depthOf ∈ WS := ws_m 35 (by decide +kernel) rfl
theorem k_X0_79 : CkV RX0 79 yX0_depthOf cX0_depthOf 2 (some .int) RX0 1 := ⟨ws_m 494 (by decide +kernel) rfl, wi_X0_depthOf, wl_X0_depthOf, wn_X0, wc_X0_depthOf, rfl, ⟨by decide +kernel, by decide +kernel, by decide +kernel⟩, by decide⟩
set_option maxRecDepth 100000 in
theorem wc_J6_bitCount_0f7a4 : Cond.code yJ6_bitCount_0f7a4 cJ6_bitCount_0f7a4 1 (some .int) ∈ WS := ws_m 500 rfl rfl
theorem ws_J6_bitCount_0f7a4 : Cond.static yJ6_bitCount_0f7a4 ∈ WS := ws_m 499 (by decide +kernel) rfl
theorem wn_J6 : Cond.initialized RJ6 ∈ WS := ws_m 106 (by decide +kernel) rfl
theorem k_X0_74 : CkS RX0 74 yJ6_bitCount_0f7a4 cJ6_bitCount_0f7a4 1 (some .int) 1 := ⟨ws_m 498 (by decide +kernel) rfl, ws_J6_bitCount_0f7a4, wn_J6, wc_J6_bitCount_0f7a4, ⟨by decide +kernel, by decide +kernel, by decide +kernel⟩, by decide⟩
set_option maxRecDepth 100000 in
theorem wc_X6_begin : Cond.code yX6_begin cX6_begin 1 none ∈ WS := ws_m 507 rfl rfl
theorem wi_X6_begin : Cond.instanceMethod yX6_begin ∈ WS := ws_m 506 (by decide +kernel) rfl
theorem wl_X6_begin : Cond.selects RX6 yX6_begin yX6_begin ∈ WS := ws_m 36 (by decide +kernel) rfl
theorem k_X7_243 : CkVN RX7 243 yX6_begin cX6_begin 1 none RX6 0 := ⟨List.mem_of_getElem? (i := 408) (by decide +kernel), wi_X6_begin, wl_X6_begin, wn_X6, wc_X6_begin, rfl, ⟨by decide +kernel, by decide +kernel, by decide +kernel⟩, by decide⟩
set_option maxRecDepth 100000 in
theorem wc_X7_type : Cond.code yX7_type cX7_type 2 (some .int) ∈ WS := ws_m 548 rfl rfl
theorem wi_X7_type : Cond.instanceMethod yX7_type ∈ WS := ws_m 546 (by decide +kernel) rfl
theorem wl_X7_type : Cond.selects RX7 yX7_type yX7_type ∈ WS := ws_m 547 (by decide +kernel) rfl
theorem k_L_13 : CkV RL 13 yX7_type cX7_type 2 (some .int) RX7 1 := ⟨ws_m 545 (by decide +kernel) rfl, wi_X7_type, wl_X7_type, wn_X7, wc_X7_type, rfl, ⟨by decide +kernel, by decide +kernel, by decide +kernel⟩, by decide⟩
set_option maxRecDepth 100000 in
theorem wc_X5_put : Cond.code yX5_put cX5_put 2 (some .boolean) ∈ WS := ws_m 552 rfl rfl
theorem wi_X5_put : Cond.instanceMethod yX5_put ∈ WS := ws_m 551 (by decide +kernel) rfl
theorem wl_X5_put : Cond.selects RX5 yX5_put yX5_put ∈ WS := ws_m 37 (by decide +kernel) rfl
theorem k_X7_87 : CkVN RX7 87 yX5_put cX5_put 2 (some .boolean) RX5 1 := ⟨List.mem_of_getElem? (i := 453) (by decide +kernel), wi_X5_put, wl_X5_put, wn_X5, wc_X5_put, rfl, ⟨by decide +kernel, by decide +kernel, by decide +kernel⟩, by decide⟩
set_option maxRecDepth 100000 in
theorem wc_X7_wipe : Cond.code yX7_wipe cX7_wipe 2 (some .int) ∈ WS := ws_m 556 rfl rfl
theorem wi_X7_wipe : Cond.instanceMethod yX7_wipe ∈ WS := ws_m 554 (by decide +kernel) rfl
theorem wl_X7_wipe : Cond.selects RX7 yX7_wipe yX7_wipe ∈ WS := ws_m 555 (by decide +kernel) rfl
theorem k_L_18 : CkV RL 18 yX7_wipe cX7_wipe 2 (some .int) RX7 0 := ⟨ws_m 553 (by decide +kernel) rfl, wi_X7_wipe, wl_X7_wipe, wn_X7, wc_X7_wipe, rfl, ⟨by decide +kernel, by decide +kernel, by decide +kernel⟩, by decide⟩
set_option maxRecDepth 100000 in
theorem wc_X5_clear : Cond.code yX5_clear cX5_clear 1 none ∈ WS := ws_m 560 rfl rfl
theorem wi_X5_clear : Cond.instanceMethod yX5_clear ∈ WS := ws_m 559 (by decide +kernel) rfl
theorem wl_X5_clear : Cond.selects RX5 yX5_clear yX5_clear ∈ WS := ws_m 38 (by decide +kernel) rfl
theorem k_X7_94 : CkVN RX7 94 yX5_clear cX5_clear 1 none RX5 0 := ⟨List.mem_of_getElem? (i := 461) (by decide +kernel), wi_X5_clear, wl_X5_clear, wn_X5, wc_X5_clear, rfl, ⟨by decide +kernel, by decide +kernel, by decide +kernel⟩, by decide⟩
set_option maxRecDepth 100000 in
theorem wc_X7_machine : Cond.code yX7_machine cX7_machine 3 (some .int) ∈ WS := ws_m 564 rfl rfl
theorem wi_X7_machine : Cond.instanceMethod yX7_machine ∈ WS := ws_m 562 (by decide +kernel) rfl
theorem wl_X7_machine : Cond.selects RX7 yX7_machine yX7_machine ∈ WS := ws_m 563 (by decide +kernel) rfl
theorem k_L_23 : CkV RL 23 yX7_machine cX7_machine 3 (some .int) RX7 1 := ⟨ws_m 561 (by decide +kernel) rfl, wi_X7_machine, wl_X7_machine, wn_X7, wc_X7_machine, rfl, ⟨by decide +kernel, by decide +kernel, by decide +kernel⟩, by decide⟩
set_option maxRecDepth 100000 in
theorem wc_X4_read : Cond.code yX4_read cX4_read 5 (some .int) ∈ WS := ws_m 568 rfl rfl
