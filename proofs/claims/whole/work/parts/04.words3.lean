theorem wi_X4_read : Cond.instanceMethod yX4_read ∈ WS := ws_m 567 (by decide +kernel) rfl
theorem wl_X4_read : Cond.selects RX4 yX4_read yX4_read ∈ WS := ws_m 39 (by decide +kernel) rfl
theorem k_X7_97 : CkVN RX7 97 yX4_read cX4_read 5 (some .int) RX4 3 := ⟨List.mem_of_getElem? (i := 469) (by decide +kernel), wi_X4_read, wl_X4_read, wn_X4, wc_X4_read, rfl, ⟨by decide +kernel, by decide +kernel, by decide +kernel⟩, by decide⟩
set_option maxRecDepth 100000 in
theorem wc_X2_clear : Cond.code yX2_clear cX2_clear 2 none ∈ WS := ws_m 572 rfl rfl
theorem wi_X2_clear : Cond.instanceMethod yX2_clear ∈ WS := ws_m 571 (by decide +kernel) rfl
theorem wl_X2_clear : Cond.selects RX2 yX2_clear yX2_clear ∈ WS := ws_m 40 (by decide +kernel) rfl
theorem k_X4_21 : CkVN RX4 21 yX2_clear cX2_clear 2 none RX2 1 := ⟨List.mem_of_getElem? (i := 473) (by decide +kernel), wi_X2_clear, wl_X2_clear, wn_X2, wc_X2_clear, rfl, ⟨by decide +kernel, by decide +kernel, by decide +kernel⟩, by decide⟩
theorem k_X2_34 : CkS RX2 34 yJ7_fill_53178 cJ7_fill_53178 4 none 2 := ⟨ws_m 573 (by decide +kernel) rfl, ws_J7_fill_53178, wn_J7, wc_J7_fill_53178, ⟨by decide +kernel, by decide +kernel, by decide +kernel⟩, by decide⟩
set_option maxRecDepth 100000 in
theorem wc_X4_takes : Cond.code yX4_takes cX4_takes 3 (some .boolean) ∈ WS := ws_m 577 rfl rfl
theorem wi_X4_takes : Cond.instanceMethod yX4_takes ∈ WS := ws_m 576 (by decide +kernel) rfl
theorem wl_X4_takes : Cond.selects RX4 yX4_takes yX4_takes ∈ WS := ws_m 41 (by decide +kernel) rfl
theorem k_X4_36 : CkV RX4 36 yX4_takes cX4_takes 3 (some .boolean) RX4 2 := ⟨ws_m 574 (by decide +kernel) rfl, wi_X4_takes, wl_X4_takes, wn_X4, wc_X4_takes, rfl, ⟨by decide +kernel, by decide +kernel, by decide +kernel⟩, by decide⟩
set_option maxRecDepth 100000 in
theorem wc_X4_opensItem : Cond.code yX4_opensItem cX4_opensItem 2 (some .boolean) ∈ WS := ws_m 581 rfl rfl
theorem wi_X4_opensItem : Cond.instanceMethod yX4_opensItem ∈ WS := ws_m 580 (by decide +kernel) rfl
theorem wl_X4_opensItem : Cond.selects RX4 yX4_opensItem yX4_opensItem ∈ WS := ws_m 42 (by decide +kernel) rfl
theorem k_X4_40 : CkV RX4 40 yX4_opensItem cX4_opensItem 2 (some .boolean) RX4 1 := ⟨ws_m 578 (by decide +kernel) rfl, wi_X4_opensItem, wl_X4_opensItem, wn_X4, wc_X4_opensItem, rfl, ⟨by decide +kernel, by decide +kernel, by decide +kernel⟩, by decide⟩
theorem k_X4_59 : CkSN RX4 59 yX7_isState cX7_isState 1 (some .boolean) 1 := ⟨List.mem_of_getElem? (i := 486) (by decide +kernel), ws_X7_isState, wn_X7, wc_X7_isState, ⟨by decide +kernel, by decide +kernel, by decide +kernel⟩, by decide⟩
set_option maxRecDepth 100000 in
theorem wc_X4_takesLetter : Cond.code yX4_takesLetter cX4_takesLetter 2 (some .boolean) ∈ WS := ws_m 586 rfl rfl
theorem wi_X4_takesLetter : Cond.instanceMethod yX4_takesLetter ∈ WS := ws_m 585 (by decide +kernel) rfl
theorem wl_X4_takesLetter : Cond.selects RX4 yX4_takesLetter yX4_takesLetter ∈ WS := ws_m 43 (by decide +kernel) rfl
theorem k_X4_44 : CkV RX4 44 yX4_takesLetter cX4_takesLetter 2 (some .boolean) RX4 1 := ⟨ws_m 583 (by decide +kernel) rfl, wi_X4_takesLetter, wl_X4_takesLetter, wn_X4, wc_X4_takesLetter, rfl, ⟨by decide +kernel, by decide +kernel, by decide +kernel⟩, by decide⟩
theorem k_X4_62 : CkSN RX4 62 yX7_isEvent cX7_isEvent 1 (some .boolean) 1 := ⟨List.mem_of_getElem? (i := 491) (by decide +kernel), ws_X7_isEvent, wn_X7, wc_X7_isEvent, ⟨by decide +kernel, by decide +kernel, by decide +kernel⟩, by decide⟩
set_option maxRecDepth 100000 in
theorem wc_X4_takesFigure : Cond.code yX4_takesFigure cX4_takesFigure 3 (some .boolean) ∈ WS := ws_m 591 rfl rfl
theorem wi_X4_takesFigure : Cond.instanceMethod yX4_takesFigure ∈ WS := ws_m 590 (by decide +kernel) rfl
theorem wl_X4_takesFigure : Cond.selects RX4 yX4_takesFigure yX4_takesFigure ∈ WS := ws_m 44 (by decide +kernel) rfl
theorem k_X4_47 : CkV RX4 47 yX4_takesFigure cX4_takesFigure 3 (some .boolean) RX4 2 := ⟨ws_m 588 (by decide +kernel) rfl, wi_X4_takesFigure, wl_X4_takesFigure, wn_X4, wc_X4_takesFigure, rfl, ⟨by decide +kernel, by decide +kernel, by decide +kernel⟩, by decide⟩
set_option maxRecDepth 100000 in
theorem wc_X2_tellStep : Cond.code yX2_tellStep cX2_tellStep 5 (some .boolean) ∈ WS := ws_m 595 rfl rfl
theorem wi_X2_tellStep : Cond.instanceMethod yX2_tellStep ∈ WS := ws_m 594 (by decide +kernel) rfl
theorem wl_X2_tellStep : Cond.selects RX2 yX2_tellStep yX2_tellStep ∈ WS := ws_m 45 (by decide +kernel) rfl
theorem k_X4_65 : CkVN RX4 65 yX2_tellStep cX2_tellStep 5 (some .boolean) RX2 3 := ⟨List.mem_of_getElem? (i := 496) (by decide +kernel), wi_X2_tellStep, wl_X2_tellStep, wn_X2, wc_X2_tellStep, rfl, ⟨by decide +kernel, by decide +kernel, by decide +kernel⟩, by decide⟩
set_option maxRecDepth 100000 in
theorem wc_J9_max_7cf53 : Cond.code yJ9_max_7cf53 cJ9_max_7cf53 2 (some .int) ∈ WS := ws_m 598 rfl rfl
theorem ws_J9_max_7cf53 : Cond.static yJ9_max_7cf53 ∈ WS := ws_m 597 (by decide +kernel) rfl
theorem wn_J9 : Cond.initialized RJ9 ∈ WS := ws_m 108 (by decide +kernel) rfl
theorem k_X2_47 : CkS RX2 47 yJ9_max_7cf53 cJ9_max_7cf53 2 (some .int) 2 := ⟨ws_m 596 (by decide +kernel) rfl, ws_J9_max_7cf53, wn_J9, wc_J9_max_7cf53, ⟨by decide +kernel, by decide +kernel, by decide +kernel⟩, by decide⟩
set_option maxRecDepth 100000 in
theorem wc_X4_takesMark : Cond.code yX4_takesMark cX4_takesMark 3 (some .boolean) ∈ WS := ws_m 602 rfl rfl
theorem wi_X4_takesMark : Cond.instanceMethod yX4_takesMark ∈ WS := ws_m 601 (by decide +kernel) rfl
theorem wl_X4_takesMark : Cond.selects RX4 yX4_takesMark yX4_takesMark ∈ WS := ws_m 46 (by decide +kernel) rfl
theorem k_X4_50 : CkV RX4 50 yX4_takesMark cX4_takesMark 3 (some .boolean) RX4 2 := ⟨ws_m 599 (by decide +kernel) rfl, wi_X4_takesMark, wl_X4_takesMark, wn_X4, wc_X4_takesMark, rfl, ⟨by decide +kernel, by decide +kernel, by decide +kernel⟩, by decide⟩
set_option maxRecDepth 100000 in
theorem wc_X2_tellMarked : Cond.code yX2_tellMarked cX2_tellMarked 2 (some .boolean) ∈ WS := ws_m 606 rfl rfl
theorem wi_X2_tellMarked : Cond.instanceMethod yX2_tellMarked ∈ WS := ws_m 605 (by decide +kernel) rfl
theorem wl_X2_tellMarked : Cond.selects RX2 yX2_tellMarked yX2_tellMarked ∈ WS := ws_m 47 (by decide +kernel) rfl
theorem k_X4_69 : CkVN RX4 69 yX2_tellMarked cX2_tellMarked 2 (some .boolean) RX2 1 := ⟨List.mem_of_getElem? (i := 507) (by decide +kernel), wi_X2_tellMarked, wl_X2_tellMarked, wn_X2, wc_X2_tellMarked, rfl, ⟨by decide +kernel, by decide +kernel, by decide +kernel⟩, by decide⟩
set_option maxRecDepth 100000 in
theorem wc_X4_takesName : Cond.code yX4_takesName cX4_takesName 3 (some .boolean) ∈ WS := ws_m 610 rfl rfl
theorem wi_X4_takesName : Cond.instanceMethod yX4_takesName ∈ WS := ws_m 609 (by decide +kernel) rfl
theorem wl_X4_takesName : Cond.selects RX4 yX4_takesName yX4_takesName ∈ WS := ws_m 48 (by decide +kernel) rfl
theorem k_X4_53 : CkV RX4 53 yX4_takesName cX4_takesName 3 (some .boolean) RX4 2 := ⟨ws_m 607 (by decide +kernel) rfl, wi_X4_takesName, wl_X4_takesName, wn_X4, wc_X4_takesName, rfl, ⟨by decide +kernel, by decide +kernel, by decide +kernel⟩, by decide⟩
set_option maxRecDepth 100000 in
theorem wc_X2_tellEvent : Cond.code yX2_tellEvent cX2_tellEvent 2 (some .boolean) ∈ WS := ws_m 614 rfl rfl
theorem wi_X2_tellEvent : Cond.instanceMethod yX2_tellEvent ∈ WS := ws_m 613 (by decide +kernel) rfl
theorem wl_X2_tellEvent : Cond.selects RX2 yX2_tellEvent yX2_tellEvent ∈ WS := ws_m 49 (by decide +kernel) rfl
theorem k_X4_72 : CkVN RX4 72 yX2_tellEvent cX2_tellEvent 2 (some .boolean) RX2 1 := ⟨List.mem_of_getElem? (i := 515) (by decide +kernel), wi_X2_tellEvent, wl_X2_tellEvent, wn_X2, wc_X2_tellEvent, rfl, ⟨by decide +kernel, by decide +kernel, by decide +kernel⟩, by decide⟩
set_option maxRecDepth 100000 in
theorem wc_X4_takesBlank : Cond.code yX4_takesBlank cX4_takesBlank 2 (some .boolean) ∈ WS := ws_m 618 rfl rfl
theorem wi_X4_takesBlank : Cond.instanceMethod yX4_takesBlank ∈ WS := ws_m 617 (by decide +kernel) rfl
theorem wl_X4_takesBlank : Cond.selects RX4 yX4_takesBlank yX4_takesBlank ∈ WS := ws_m 50 (by decide +kernel) rfl
theorem k_X4_56 : CkV RX4 56 yX4_takesBlank cX4_takesBlank 2 (some .boolean) RX4 1 := ⟨ws_m 615 (by decide +kernel) rfl, wi_X4_takesBlank, wl_X4_takesBlank, wn_X4, wc_X4_takesBlank, rfl, ⟨by decide +kernel, by decide +kernel, by decide +kernel⟩, by decide⟩
set_option maxRecDepth 100000 in
theorem wc_X7_drop : Cond.code yX7_drop cX7_drop 1 (some .int) ∈ WS := ws_m 622 rfl rfl
theorem wi_X7_drop : Cond.instanceMethod yX7_drop ∈ WS := ws_m 620 (by decide +kernel) rfl
theorem wl_X7_drop : Cond.selects RX7 yX7_drop yX7_drop ∈ WS := ws_m 621 (by decide +kernel) rfl
theorem k_L_27 : CkV RL 27 yX7_drop cX7_drop 1 (some .int) RX7 0 := ⟨ws_m 619 (by decide +kernel) rfl, wi_X7_drop, wl_X7_drop, wn_X7, wc_X7_drop, rfl, ⟨by decide +kernel, by decide +kernel, by decide +kernel⟩, by decide⟩
set_option maxRecDepth 100000 in
theorem wc_X7_free : Cond.code yX7_free cX7_free 4 (some .int) ∈ WS := ws_m 626 rfl rfl
theorem wi_X7_free : Cond.instanceMethod yX7_free ∈ WS := ws_m 624 (by decide +kernel) rfl
theorem wl_X7_free : Cond.selects RX7 yX7_free yX7_free ∈ WS := ws_m 625 (by decide +kernel) rfl
theorem k_L_31 : CkV RL 31 yX7_free cX7_free 4 (some .int) RX7 2 := ⟨ws_m 623 (by decide +kernel) rfl, wi_X7_free, wl_X7_free, wn_X7, wc_X7_free, rfl, ⟨by decide +kernel, by decide +kernel, by decide +kernel⟩, by decide⟩
theorem k_X7_101 : CkS RX7 101 yX7_isEvent cX7_isEvent 1 (some .boolean) 1 := ⟨ws_m 627 (by decide +kernel) rfl, ws_X7_isEvent, wn_X7, wc_X7_isEvent, ⟨by decide +kernel, by decide +kernel, by decide +kernel⟩, by decide⟩
set_option maxRecDepth 100000 in
theorem wc_X7_anew : Cond.code yX7_anew cX7_anew 2 (some .int) ∈ WS := ws_m 631 rfl rfl
theorem wi_X7_anew : Cond.instanceMethod yX7_anew ∈ WS := ws_m 629 (by decide +kernel) rfl
theorem wl_X7_anew : Cond.selects RX7 yX7_anew yX7_anew ∈ WS := ws_m 630 (by decide +kernel) rfl
theorem k_L_36 : CkV RL 36 yX7_anew cX7_anew 2 (some .int) RX7 0 := ⟨ws_m 628 (by decide +kernel) rfl, wi_X7_anew, wl_X7_anew, wn_X7, wc_X7_anew, rfl, ⟨by decide +kernel, by decide +kernel, by decide +kernel⟩, by decide⟩
set_option maxRecDepth 100000 in
theorem wc_X7_ofMachine : Cond.code yX7_ofMachine cX7_ofMachine 4 (some .int) ∈ WS := ws_m 635 rfl rfl
theorem wi_X7_ofMachine : Cond.instanceMethod yX7_ofMachine ∈ WS := ws_m 633 (by decide +kernel) rfl
theorem wl_X7_ofMachine : Cond.selects RX7 yX7_ofMachine yX7_ofMachine ∈ WS := ws_m 634 (by decide +kernel) rfl
theorem k_L_40 : CkV RL 40 yX7_ofMachine cX7_ofMachine 4 (some .int) RX7 2 := ⟨ws_m 632 (by decide +kernel) rfl, wi_X7_ofMachine, wl_X7_ofMachine, wn_X7, wc_X7_ofMachine, rfl, ⟨by decide +kernel, by decide +kernel, by decide +kernel⟩, by decide⟩
set_option maxRecDepth 100000 in
theorem wc_X7_isMachine : Cond.code yX7_isMachine cX7_isMachine 2 (some .boolean) ∈ WS := ws_m 639 rfl rfl
theorem wi_X7_isMachine : Cond.instanceMethod yX7_isMachine ∈ WS := ws_m 638 (by decide +kernel) rfl
theorem wl_X7_isMachine : Cond.selects RX7 yX7_isMachine yX7_isMachine ∈ WS := ws_m 51 (by decide +kernel) rfl
theorem k_X7_104 : CkV RX7 104 yX7_isMachine cX7_isMachine 2 (some .boolean) RX7 1 := ⟨ws_m 636 (by decide +kernel) rfl, wi_X7_isMachine, wl_X7_isMachine, wn_X7, wc_X7_isMachine, rfl, ⟨by decide +kernel, by decide +kernel, by decide +kernel⟩, by decide⟩
set_option maxRecDepth 100000 in
theorem wc_X7_step : Cond.code yX7_step cX7_step 4 (some .int) ∈ WS := ws_m 643 rfl rfl
theorem wi_X7_step : Cond.instanceMethod yX7_step ∈ WS := ws_m 641 (by decide +kernel) rfl
theorem wl_X7_step : Cond.selects RX7 yX7_step yX7_step ∈ WS := ws_m 642 (by decide +kernel) rfl
theorem k_L_44 : CkV RL 44 yX7_step cX7_step 4 (some .int) RX7 3 := ⟨ws_m 640 (by decide +kernel) rfl, wi_X7_step, wl_X7_step, wn_X7, wc_X7_step, rfl, ⟨by decide +kernel, by decide +kernel, by decide +kernel⟩, by decide⟩
theorem k_X7_122 : CkS RX7 122 yX7_isState cX7_isState 1 (some .boolean) 1 := ⟨ws_m 644 (by decide +kernel) rfl, ws_X7_isState, wn_X7, wc_X7_isState, ⟨by decide +kernel, by decide +kernel, by decide +kernel⟩, by decide⟩
theorem k_X7_125 : CkVN RX7 125 yX2_target cX2_target 3 (some .int) RX2 2 := ⟨List.mem_of_getElem? (i := 549) (by decide +kernel), wi_X2_target, wl_X2_target, wn_X2, wc_X2_target, rfl, ⟨by decide +kernel, by decide +kernel, by decide +kernel⟩, by decide⟩
set_option maxRecDepth 100000 in
theorem wc_X7_stateOf : Cond.code yX7_stateOf cX7_stateOf 3 (some .int) ∈ WS := ws_m 649 rfl rfl
theorem wi_X7_stateOf : Cond.instanceMethod yX7_stateOf ∈ WS := ws_m 647 (by decide +kernel) rfl
theorem wl_X7_stateOf : Cond.selects RX7 yX7_stateOf yX7_stateOf ∈ WS := ws_m 648 (by decide +kernel) rfl
theorem k_L_49 : CkV RL 49 yX7_stateOf cX7_stateOf 3 (some .int) RX7 2 := ⟨ws_m 646 (by decide +kernel) rfl, wi_X7_stateOf, wl_X7_stateOf, wn_X7, wc_X7_stateOf, rfl, ⟨by decide +kernel, by decide +kernel, by decide +kernel⟩, by decide⟩
theorem k_X7_129 : CkVN RX7 129 yX3_has cX3_has 2 (some .boolean) RX3 1 := ⟨List.mem_of_getElem? (i := 554) (by decide +kernel), wi_X3_has, wl_X3_has, wn_X3, wc_X3_has, rfl, ⟨by decide +kernel, by decide +kernel, by decide +kernel⟩, by decide⟩
theorem k_X7_132 : CkVN RX7 132 yX3_stateIn cX3_stateIn 3 (some .int) RX3 2 := ⟨List.mem_of_getElem? (i := 555) (by decide +kernel), wi_X3_stateIn, wl_X3_stateIn, wn_X3, wc_X3_stateIn, rfl, ⟨by decide +kernel, by decide +kernel, by decide +kernel⟩, by decide⟩
set_option maxRecDepth 100000 in
theorem wc_X7_leads : Cond.code yX7_leads cX7_leads 3 (some .int) ∈ WS := ws_m 655 rfl rfl
theorem wi_X7_leads : Cond.instanceMethod yX7_leads ∈ WS := ws_m 653 (by decide +kernel) rfl
theorem wl_X7_leads : Cond.selects RX7 yX7_leads yX7_leads ∈ WS := ws_m 654 (by decide +kernel) rfl
theorem k_L_53 : CkV RL 53 yX7_leads cX7_leads 3 (some .int) RX7 2 := ⟨ws_m 652 (by decide +kernel) rfl, wi_X7_leads, wl_X7_leads, wn_X7, wc_X7_leads, rfl, ⟨by decide +kernel, by decide +kernel, by decide +kernel⟩, by decide⟩
theorem k_X7_135 : CkVN RX7 135 yX3_target cX3_target 3 (some .int) RX3 2 := ⟨List.mem_of_getElem? (i := 560) (by decide +kernel), wi_X3_target, wl_X3_target, wn_X3, wc_X3_target, rfl, ⟨by decide +kernel, by decide +kernel, by decide +kernel⟩, by decide⟩
set_option maxRecDepth 100000 in
theorem wc_X7_joint : Cond.code yX7_joint cX7_joint 3 (some .int) ∈ WS := ws_m 660 rfl rfl
theorem wi_X7_joint : Cond.instanceMethod yX7_joint ∈ WS := ws_m 658 (by decide +kernel) rfl
theorem wl_X7_joint : Cond.selects RX7 yX7_joint yX7_joint ∈ WS := ws_m 659 (by decide +kernel) rfl
theorem k_L_57 : CkV RL 57 yX7_joint cX7_joint 3 (some .int) RX7 2 := ⟨ws_m 657 (by decide +kernel) rfl, wi_X7_joint, wl_X7_joint, wn_X7, wc_X7_joint, rfl, ⟨by decide +kernel, by decide +kernel, by decide +kernel⟩, by decide⟩
set_option maxRecDepth 100000 in
theorem wc_X3_isFinished : Cond.code yX3_isFinished cX3_isFinished 2 (some .boolean) ∈ WS := ws_m 664 rfl rfl
theorem wi_X3_isFinished : Cond.instanceMethod yX3_isFinished ∈ WS := ws_m 663 (by decide +kernel) rfl
theorem wl_X3_isFinished : Cond.selects RX3 yX3_isFinished yX3_isFinished ∈ WS := ws_m 52 (by decide +kernel) rfl
theorem k_X7_136 : CkVN RX7 136 yX3_isFinished cX3_isFinished 2 (some .boolean) RX3 1 := ⟨List.mem_of_getElem? (i := 565) (by decide +kernel), wi_X3_isFinished, wl_X3_isFinished, wn_X3, wc_X3_isFinished, rfl, ⟨by decide +kernel, by decide +kernel, by decide +kernel⟩, by decide⟩
theorem k_X7_139 : CkVN RX7 139 yX3_leadSet cX3_leadSet 2 (some .int) RX3 1 := ⟨List.mem_of_getElem? (i := 569) (by decide +kernel), wi_X3_leadSet, wl_X3_leadSet, wn_X3, wc_X3_leadSet, rfl, ⟨by decide +kernel, by decide +kernel, by decide +kernel⟩, by decide⟩
theorem k_X7_143 : CkVN RX7 143 yX3_clashSet cX3_clashSet 3 (some .int) RX3 2 := ⟨List.mem_of_getElem? (i := 570) (by decide +kernel), wi_X3_clashSet, wl_X3_clashSet, wn_X3, wc_X3_clashSet, rfl, ⟨by decide +kernel, by decide +kernel, by decide +kernel⟩, by decide⟩
theorem k_X7_146 : CkVN RX7 146 yX1_isLost cX1_isLost 2 (some .boolean) RX1 1 := ⟨List.mem_of_getElem? (i := 571) (by decide +kernel), wi_X1_isLost, wl_X1_isLost, wn_X1, wc_X1_isLost, rfl, ⟨by decide +kernel, by decide +kernel, by decide +kernel⟩, by decide⟩
theorem k_X7_149 : CkVN RX7 149 yX0_holds cX0_holds 2 (some .boolean) RX0 1 := ⟨List.mem_of_getElem? (i := 572) (by decide +kernel), wi_X0_holds, wl_X0_holds, wn_X0, wc_X0_holds, rfl, ⟨by decide +kernel, by decide +kernel, by decide +kernel⟩, by decide⟩
theorem k_X7_152 : CkVN RX7 152 yX1_waveOf cX1_waveOf 2 (some .int) RX1 1 := ⟨List.mem_of_getElem? (i := 573) (by decide +kernel), wi_X1_waveOf, wl_X1_waveOf, wn_X1, wc_X1_waveOf, rfl, ⟨by decide +kernel, by decide +kernel, by decide +kernel⟩, by decide⟩
set_option maxRecDepth 100000 in
theorem wc_X0_barredSet : Cond.code yX0_barredSet cX0_barredSet 2 (some .int) ∈ WS := ws_m 673 rfl rfl
theorem wi_X0_barredSet : Cond.instanceMethod yX0_barredSet ∈ WS := ws_m 672 (by decide +kernel) rfl
theorem wl_X0_barredSet : Cond.selects RX0 yX0_barredSet yX0_barredSet ∈ WS := ws_m 53 (by decide +kernel) rfl
theorem k_X7_155 : CkVN RX7 155 yX0_barredSet cX0_barredSet 2 (some .int) RX0 1 := ⟨List.mem_of_getElem? (i := 574) (by decide +kernel), wi_X0_barredSet, wl_X0_barredSet, wn_X0, wc_X0_barredSet, rfl, ⟨by decide +kernel, by decide +kernel, by decide +kernel⟩, by decide⟩
set_option maxRecDepth 100000 in
theorem wc_X7_why : Cond.code yX7_why cX7_why 5 (some .int) ∈ WS := ws_m 677 rfl rfl
theorem wi_X7_why : Cond.instanceMethod yX7_why ∈ WS := ws_m 675 (by decide +kernel) rfl
theorem wl_X7_why : Cond.selects RX7 yX7_why yX7_why ∈ WS := ws_m 676 (by decide +kernel) rfl
theorem k_L_61 : CkV RL 61 yX7_why cX7_why 5 (some .int) RX7 3 := ⟨ws_m 674 (by decide +kernel) rfl, wi_X7_why, wl_X7_why, wn_X7, wc_X7_why, rfl, ⟨by decide +kernel, by decide +kernel, by decide +kernel⟩, by decide⟩
set_option maxRecDepth 100000 in
theorem wc_X1_linkBehind : Cond.code yX1_linkBehind cX1_linkBehind 5 (some .int) ∈ WS := ws_m 681 rfl rfl
theorem wi_X1_linkBehind : Cond.instanceMethod yX1_linkBehind ∈ WS := ws_m 680 (by decide +kernel) rfl
theorem wl_X1_linkBehind : Cond.selects RX1 yX1_linkBehind yX1_linkBehind ∈ WS := ws_m 54 (by decide +kernel) rfl
theorem k_X7_158 : CkVN RX7 158 yX1_linkBehind cX1_linkBehind 5 (some .int) RX1 2 := ⟨List.mem_of_getElem? (i := 582) (by decide +kernel), wi_X1_linkBehind, wl_X1_linkBehind, wn_X1, wc_X1_linkBehind, rfl, ⟨by decide +kernel, by decide +kernel, by decide +kernel⟩, by decide⟩
set_option maxRecDepth 100000 in
theorem wc_X1_reasonOf : Cond.code yX1_reasonOf cX1_reasonOf 2 (some .int) ∈ WS := ws_m 685 rfl rfl
theorem wi_X1_reasonOf : Cond.instanceMethod yX1_reasonOf ∈ WS := ws_m 684 (by decide +kernel) rfl
theorem wl_X1_reasonOf : Cond.selects RX1 yX1_reasonOf yX1_reasonOf ∈ WS := ws_m 55 (by decide +kernel) rfl
theorem k_X7_161 : CkVN RX7 161 yX1_reasonOf cX1_reasonOf 2 (some .int) RX1 1 := ⟨List.mem_of_getElem? (i := 586) (by decide +kernel), wi_X1_reasonOf, wl_X1_reasonOf, wn_X1, wc_X1_reasonOf, rfl, ⟨by decide +kernel, by decide +kernel, by decide +kernel⟩, by decide⟩
set_option maxRecDepth 100000 in
theorem wc_X1_eventOf : Cond.code yX1_eventOf cX1_eventOf 2 (some .int) ∈ WS := ws_m 689 rfl rfl
theorem wi_X1_eventOf : Cond.instanceMethod yX1_eventOf ∈ WS := ws_m 688 (by decide +kernel) rfl
theorem wl_X1_eventOf : Cond.selects RX1 yX1_eventOf yX1_eventOf ∈ WS := ws_m 56 (by decide +kernel) rfl
theorem k_X7_164 : CkVN RX7 164 yX1_eventOf cX1_eventOf 2 (some .int) RX1 1 := ⟨List.mem_of_getElem? (i := 590) (by decide +kernel), wi_X1_eventOf, wl_X1_eventOf, wn_X1, wc_X1_eventOf, rfl, ⟨by decide +kernel, by decide +kernel, by decide +kernel⟩, by decide⟩
set_option maxRecDepth 100000 in
theorem wc_X7_wave : Cond.code yX7_wave cX7_wave 2 (some .int) ∈ WS := ws_m 693 rfl rfl
theorem wi_X7_wave : Cond.instanceMethod yX7_wave ∈ WS := ws_m 691 (by decide +kernel) rfl
theorem wl_X7_wave : Cond.selects RX7 yX7_wave yX7_wave ∈ WS := ws_m 692 (by decide +kernel) rfl
theorem k_L_65 : CkV RL 65 yX7_wave cX7_wave 2 (some .int) RX7 1 := ⟨ws_m 690 (by decide +kernel) rfl, wi_X7_wave, wl_X7_wave, wn_X7, wc_X7_wave, rfl, ⟨by decide +kernel, by decide +kernel, by decide +kernel⟩, by decide⟩
set_option maxRecDepth 100000 in
theorem wc_X1_hasWave : Cond.code yX1_hasWave cX1_hasWave 2 (some .boolean) ∈ WS := ws_m 697 rfl rfl
theorem wi_X1_hasWave : Cond.instanceMethod yX1_hasWave ∈ WS := ws_m 696 (by decide +kernel) rfl
theorem wl_X1_hasWave : Cond.selects RX1 yX1_hasWave yX1_hasWave ∈ WS := ws_m 57 (by decide +kernel) rfl
theorem k_X7_167 : CkVN RX7 167 yX1_hasWave cX1_hasWave 2 (some .boolean) RX1 1 := ⟨List.mem_of_getElem? (i := 598) (by decide +kernel), wi_X1_hasWave, wl_X1_hasWave, wn_X1, wc_X1_hasWave, rfl, ⟨by decide +kernel, by decide +kernel, by decide +kernel⟩, by decide⟩
set_option maxRecDepth 100000 in
theorem wc_X1_sizeOfWave : Cond.code yX1_sizeOfWave cX1_sizeOfWave 2 (some .int) ∈ WS := ws_m 701 rfl rfl
theorem wi_X1_sizeOfWave : Cond.instanceMethod yX1_sizeOfWave ∈ WS := ws_m 700 (by decide +kernel) rfl
theorem wl_X1_sizeOfWave : Cond.selects RX1 yX1_sizeOfWave yX1_sizeOfWave ∈ WS := ws_m 58 (by decide +kernel) rfl
theorem k_X7_170 : CkVN RX7 170 yX1_sizeOfWave cX1_sizeOfWave 2 (some .int) RX1 1 := ⟨List.mem_of_getElem? (i := 602) (by decide +kernel), wi_X1_sizeOfWave, wl_X1_sizeOfWave, wn_X1, wc_X1_sizeOfWave, rfl, ⟨by decide +kernel, by decide +kernel, by decide +kernel⟩, by decide⟩
set_option maxRecDepth 100000 in
theorem wc_X7_some : Cond.code yX7_some cX7_some 3 (some .int) ∈ WS := ws_m 705 rfl rfl
theorem wi_X7_some : Cond.instanceMethod yX7_some ∈ WS := ws_m 703 (by decide +kernel) rfl
theorem wl_X7_some : Cond.selects RX7 yX7_some yX7_some ∈ WS := ws_m 704 (by decide +kernel) rfl
theorem k_L_69 : CkV RL 69 yX7_some cX7_some 3 (some .int) RX7 2 := ⟨ws_m 702 (by decide +kernel) rfl, wi_X7_some, wl_X7_some, wn_X7, wc_X7_some, rfl, ⟨by decide +kernel, by decide +kernel, by decide +kernel⟩, by decide⟩
set_option maxRecDepth 100000 in
theorem wc_X7_joinPart : Cond.code yX7_joinPart cX7_joinPart 2 none ∈ WS := ws_m 709 rfl rfl
theorem wi_X7_joinPart : Cond.instanceMethod yX7_joinPart ∈ WS := ws_m 708 (by decide +kernel) rfl
theorem wl_X7_joinPart : Cond.selects RX7 yX7_joinPart yX7_joinPart ∈ WS := ws_m 59 (by decide +kernel) rfl
theorem k_X7_177 : CkV RX7 177 yX7_joinPart cX7_joinPart 2 none RX7 1 := ⟨ws_m 706 (by decide +kernel) rfl, wi_X7_joinPart, wl_X7_joinPart, wn_X7, wc_X7_joinPart, rfl, ⟨by decide +kernel, by decide +kernel, by decide +kernel⟩, by decide⟩
theorem k_X7_231 : CkVN RX7 231 yX3_measure cX3_measure 3 none RX3 1 := ⟨List.mem_of_getElem? (i := 614) (by decide +kernel), wi_X3_measure, wl_X3_measure, wn_X3, wc_X3_measure, rfl, ⟨by decide +kernel, by decide +kernel, by decide +kernel⟩, by decide⟩
set_option maxRecDepth 100000 in
theorem wc_X3_countStuck : Cond.code yX3_countStuck cX3_countStuck 1 (some .int) ∈ WS := ws_m 714 rfl rfl
theorem wi_X3_countStuck : Cond.instanceMethod yX3_countStuck ∈ WS := ws_m 713 (by decide +kernel) rfl
theorem wl_X3_countStuck : Cond.selects RX3 yX3_countStuck yX3_countStuck ∈ WS := ws_m 60 (by decide +kernel) rfl
theorem k_X7_188 : CkVN RX7 188 yX3_countStuck cX3_countStuck 1 (some .int) RX3 0 := ⟨List.mem_of_getElem? (i := 615) (by decide +kernel), wi_X3_countStuck, wl_X3_countStuck, wn_X3, wc_X3_countStuck, rfl, ⟨by decide +kernel, by decide +kernel, by decide +kernel⟩, by decide⟩
set_option maxRecDepth 100000 in
theorem wc_X7_go : Cond.code yX7_go cX7_go 3 (some .int) ∈ WS := ws_m 718 rfl rfl
theorem wi_X7_go : Cond.instanceMethod yX7_go ∈ WS := ws_m 716 (by decide +kernel) rfl
theorem wl_X7_go : Cond.selects RX7 yX7_go yX7_go ∈ WS := ws_m 717 (by decide +kernel) rfl
theorem k_L_73 : CkV RL 73 yX7_go cX7_go 3 (some .int) RX7 1 := ⟨ws_m 715 (by decide +kernel) rfl, wi_X7_go, wl_X7_go, wn_X7, wc_X7_go, rfl, ⟨by decide +kernel, by decide +kernel, by decide +kernel⟩, by decide⟩
set_option maxRecDepth 100000 in
theorem wc_X6_moveTo : Cond.code yX6_moveTo cX6_moveTo 2 none ∈ WS := ws_m 722 rfl rfl
theorem wi_X6_moveTo : Cond.instanceMethod yX6_moveTo ∈ WS := ws_m 721 (by decide +kernel) rfl
theorem wl_X6_moveTo : Cond.selects RX6 yX6_moveTo yX6_moveTo ∈ WS := ws_m 61 (by decide +kernel) rfl
theorem k_X7_194 : CkVN RX7 194 yX6_moveTo cX6_moveTo 2 none RX6 1 := ⟨List.mem_of_getElem? (i := 623) (by decide +kernel), wi_X6_moveTo, wl_X6_moveTo, wn_X6, wc_X6_moveTo, rfl, ⟨by decide +kernel, by decide +kernel, by decide +kernel⟩, by decide⟩
set_option maxRecDepth 100000 in
theorem wc_J9_min_7cf53 : Cond.code yJ9_min_7cf53 cJ9_min_7cf53 2 (some .int) ∈ WS := ws_m 725 rfl rfl
theorem ws_J9_min_7cf53 : Cond.static yJ9_min_7cf53 ∈ WS := ws_m 724 (by decide +kernel) rfl
theorem k_X6_25 : CkS RX6 25 yJ9_min_7cf53 cJ9_min_7cf53 2 (some .int) 2 := ⟨ws_m 723 (by decide +kernel) rfl, ws_J9_min_7cf53, wn_J9, wc_J9_min_7cf53, ⟨by decide +kernel, by decide +kernel, by decide +kernel⟩, by decide⟩
set_option maxRecDepth 100000 in
theorem wc_X7_back : Cond.code yX7_back cX7_back 1 (some .int) ∈ WS := ws_m 729 rfl rfl
theorem wi_X7_back : Cond.instanceMethod yX7_back ∈ WS := ws_m 727 (by decide +kernel) rfl
theorem wl_X7_back : Cond.selects RX7 yX7_back yX7_back ∈ WS := ws_m 728 (by decide +kernel) rfl
theorem k_L_77 : CkV RL 77 yX7_back cX7_back 1 (some .int) RX7 0 := ⟨ws_m 726 (by decide +kernel) rfl, wi_X7_back, wl_X7_back, wn_X7, wc_X7_back, rfl, ⟨by decide +kernel, by decide +kernel, by decide +kernel⟩, by decide⟩
set_option maxRecDepth 100000 in
theorem wc_X6_turnBack : Cond.code yX6_turnBack cX6_turnBack 1 (some .boolean) ∈ WS := ws_m 733 rfl rfl
theorem wi_X6_turnBack : Cond.instanceMethod yX6_turnBack ∈ WS := ws_m 732 (by decide +kernel) rfl
theorem wl_X6_turnBack : Cond.selects RX6 yX6_turnBack yX6_turnBack ∈ WS := ws_m 62 (by decide +kernel) rfl
theorem k_X7_197 : CkVN RX7 197 yX6_turnBack cX6_turnBack 1 (some .boolean) RX6 0 := ⟨List.mem_of_getElem? (i := 634) (by decide +kernel), wi_X6_turnBack, wl_X6_turnBack, wn_X6, wc_X6_turnBack, rfl, ⟨by decide +kernel, by decide +kernel, by decide +kernel⟩, by decide⟩
set_option maxRecDepth 100000 in
theorem wc_J9_floorMod_7cf53 : Cond.code yJ9_floorMod_7cf53 cJ9_floorMod_7cf53 3 (some .int) ∈ WS := ws_m 736 rfl rfl
