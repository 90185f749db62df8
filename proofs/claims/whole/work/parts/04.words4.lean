theorem ws_J9_floorMod_7cf53 : Cond.static yJ9_floorMod_7cf53 ∈ WS := ws_m 735 (by decide +kernel) rfl
theorem k_X6_31 : CkS RX6 31 yJ9_floorMod_7cf53 cJ9_floorMod_7cf53 3 (some .int) 2 := ⟨ws_m 734 (by decide +kernel) rfl, ws_J9_floorMod_7cf53, wn_J9, wc_J9_floorMod_7cf53, ⟨by decide +kernel, by decide +kernel, by decide +kernel⟩, by decide⟩
set_option maxRecDepth 100000 in
theorem wc_X7_at : Cond.code yX7_at cX7_at 1 (some .int) ∈ WS := ws_m 740 rfl rfl
theorem wi_X7_at : Cond.instanceMethod yX7_at ∈ WS := ws_m 738 (by decide +kernel) rfl
theorem wl_X7_at : Cond.selects RX7 yX7_at yX7_at ∈ WS := ws_m 739 (by decide +kernel) rfl
theorem k_L_81 : CkV RL 81 yX7_at cX7_at 1 (some .int) RX7 0 := ⟨ws_m 737 (by decide +kernel) rfl, wi_X7_at, wl_X7_at, wn_X7, wc_X7_at, rfl, ⟨by decide +kernel, by decide +kernel, by decide +kernel⟩, by decide⟩
set_option maxRecDepth 100000 in
theorem wc_X7_finish : Cond.code yX7_finish cX7_finish 2 (some .int) ∈ WS := ws_m 744 rfl rfl
theorem wi_X7_finish : Cond.instanceMethod yX7_finish ∈ WS := ws_m 742 (by decide +kernel) rfl
theorem wl_X7_finish : Cond.selects RX7 yX7_finish yX7_finish ∈ WS := ws_m 743 (by decide +kernel) rfl
theorem k_L_85 : CkV RL 85 yX7_finish cX7_finish 2 (some .int) RX7 1 := ⟨ws_m 741 (by decide +kernel) rfl, wi_X7_finish, wl_X7_finish, wn_X7, wc_X7_finish, rfl, ⟨by decide +kernel, by decide +kernel, by decide +kernel⟩, by decide⟩
set_option maxRecDepth 100000 in
theorem wc_X7_isPlaceInWord : Cond.code yX7_isPlaceInWord cX7_isPlaceInWord 1 (some .boolean) ∈ WS := ws_m 747 rfl rfl
theorem ws_X7_isPlaceInWord : Cond.static yX7_isPlaceInWord ∈ WS := ws_m 746 (by decide +kernel) rfl
theorem k_X7_201 : CkS RX7 201 yX7_isPlaceInWord cX7_isPlaceInWord 1 (some .boolean) 1 := ⟨ws_m 745 (by decide +kernel) rfl, ws_X7_isPlaceInWord, wn_X7, wc_X7_isPlaceInWord, ⟨by decide +kernel, by decide +kernel, by decide +kernel⟩, by decide⟩
theorem k_X7_204 : CkVN RX7 204 yX3_farOf cX3_farOf 2 (some .int) RX3 1 := ⟨List.mem_of_getElem? (i := 652) (by decide +kernel), wi_X3_farOf, wl_X3_farOf, wn_X3, wc_X3_farOf, rfl, ⟨by decide +kernel, by decide +kernel, by decide +kernel⟩, by decide⟩
set_option maxRecDepth 100000 in
theorem wc_X3_eventToFinish : Cond.code yX3_eventToFinish cX3_eventToFinish 5 (some .int) ∈ WS := ws_m 752 rfl rfl
theorem wi_X3_eventToFinish : Cond.instanceMethod yX3_eventToFinish ∈ WS := ws_m 751 (by decide +kernel) rfl
theorem wl_X3_eventToFinish : Cond.selects RX3 yX3_eventToFinish yX3_eventToFinish ∈ WS := ws_m 63 (by decide +kernel) rfl
theorem k_X7_207 : CkVN RX7 207 yX3_eventToFinish cX3_eventToFinish 5 (some .int) RX3 2 := ⟨List.mem_of_getElem? (i := 653) (by decide +kernel), wi_X3_eventToFinish, wl_X3_eventToFinish, wn_X3, wc_X3_eventToFinish, rfl, ⟨by decide +kernel, by decide +kernel, by decide +kernel⟩, by decide⟩
set_option maxRecDepth 100000 in
theorem wc_X3_nearerBy : Cond.code yX3_nearerBy cX3_nearerBy 3 (some .int) ∈ WS := ws_m 756 rfl rfl
theorem wi_X3_nearerBy : Cond.instanceMethod yX3_nearerBy ∈ WS := ws_m 755 (by decide +kernel) rfl
theorem wl_X3_nearerBy : Cond.selects RX3 yX3_nearerBy yX3_nearerBy ∈ WS := ws_m 64 (by decide +kernel) rfl
theorem k_X3_132 : CkV RX3 132 yX3_nearerBy cX3_nearerBy 3 (some .int) RX3 1 := ⟨ws_m 753 (by decide +kernel) rfl, wi_X3_nearerBy, wl_X3_nearerBy, wn_X3, wc_X3_nearerBy, rfl, ⟨by decide +kernel, by decide +kernel, by decide +kernel⟩, by decide⟩
theorem k_X3_136 : CkV RX3 136 yX3_farOf cX3_farOf 2 (some .int) RX3 1 := ⟨ws_m 757 (by decide +kernel) rfl, wi_X3_farOf, wl_X3_farOf, wn_X3, wc_X3_farOf, rfl, ⟨by decide +kernel, by decide +kernel, by decide +kernel⟩, by decide⟩
theorem k_X3_135 : CkV RX3 135 yX3_target cX3_target 3 (some .int) RX3 2 := ⟨ws_m 758 (by decide +kernel) rfl, wi_X3_target, wl_X3_target, wn_X3, wc_X3_target, rfl, ⟨by decide +kernel, by decide +kernel, by decide +kernel⟩, by decide⟩
set_option maxRecDepth 100000 in
theorem wc_X7_word : Cond.code yX7_word cX7_word 3 (some .int) ∈ WS := ws_m 762 rfl rfl
theorem wi_X7_word : Cond.instanceMethod yX7_word ∈ WS := ws_m 760 (by decide +kernel) rfl
theorem wl_X7_word : Cond.selects RX7 yX7_word yX7_word ∈ WS := ws_m 761 (by decide +kernel) rfl
theorem k_L_89 : CkV RL 89 yX7_word cX7_word 3 (some .int) RX7 2 := ⟨ws_m 759 (by decide +kernel) rfl, wi_X7_word, wl_X7_word, wn_X7, wc_X7_word, rfl, ⟨by decide +kernel, by decide +kernel, by decide +kernel⟩, by decide⟩
theorem k_X7_210 : CkVN RX7 210 yX0_depthOf cX0_depthOf 2 (some .int) RX0 1 := ⟨List.mem_of_getElem? (i := 667) (by decide +kernel), wi_X0_depthOf, wl_X0_depthOf, wn_X0, wc_X0_depthOf, rfl, ⟨by decide +kernel, by decide +kernel, by decide +kernel⟩, by decide⟩
set_option maxRecDepth 100000 in
theorem wc_X0_eventTo : Cond.code yX0_eventTo cX0_eventTo 5 (some .int) ∈ WS := ws_m 767 rfl rfl
theorem wi_X0_eventTo : Cond.instanceMethod yX0_eventTo ∈ WS := ws_m 766 (by decide +kernel) rfl
theorem wl_X0_eventTo : Cond.selects RX0 yX0_eventTo yX0_eventTo ∈ WS := ws_m 65 (by decide +kernel) rfl
theorem k_X7_213 : CkVN RX7 213 yX0_eventTo cX0_eventTo 5 (some .int) RX0 2 := ⟨List.mem_of_getElem? (i := 668) (by decide +kernel), wi_X0_eventTo, wl_X0_eventTo, wn_X0, wc_X0_eventTo, rfl, ⟨by decide +kernel, by decide +kernel, by decide +kernel⟩, by decide⟩
set_option maxRecDepth 100000 in
theorem wc_X7_many : Cond.code yX7_many cX7_many 2 (some .int) ∈ WS := ws_m 771 rfl rfl
theorem wi_X7_many : Cond.instanceMethod yX7_many ∈ WS := ws_m 769 (by decide +kernel) rfl
theorem wl_X7_many : Cond.selects RX7 yX7_many yX7_many ∈ WS := ws_m 770 (by decide +kernel) rfl
theorem k_L_93 : CkV RL 93 yX7_many cX7_many 2 (some .int) RX7 1 := ⟨ws_m 768 (by decide +kernel) rfl, wi_X7_many, wl_X7_many, wn_X7, wc_X7_many, rfl, ⟨by decide +kernel, by decide +kernel, by decide +kernel⟩, by decide⟩
set_option maxRecDepth 100000 in
theorem wc_X8_init : Cond.code yX8_init cX8_init 1 none ∈ WS := ws_m 776 rfl rfl
theorem wi_X8_init : Cond.instanceMethod yX8_init ∈ WS := ws_m 775 (by decide +kernel) rfl
theorem wn_X8 : Cond.initialized RX8 ∈ WS := ws_m 107 (by decide +kernel) rfl
set_option maxRecDepth 100000 in
theorem wc_X8_type : Cond.code yX8_type cX8_type 2 (some .int) ∈ WS := ws_m 857 rfl rfl
theorem wi_X8_type : Cond.instanceMethod yX8_type ∈ WS := ws_m 855 (by decide +kernel) rfl
theorem wl_X8_type : Cond.selects RX8 yX8_type yX8_type ∈ WS := ws_m 856 (by decide +kernel) rfl
theorem k_L_17 : CkV RL 17 yX8_type cX8_type 2 (some .int) RX8 1 := ⟨ws_m 854 (by decide +kernel) rfl, wi_X8_type, wl_X8_type, wn_X8, wc_X8_type, rfl, ⟨by decide +kernel, by decide +kernel, by decide +kernel⟩, by decide⟩
set_option maxRecDepth 100000 in
theorem wc_X8_within : Cond.code yX8_within cX8_within 3 (some .boolean) ∈ WS := ws_m 860 rfl rfl
theorem ws_X8_within : Cond.static yX8_within ∈ WS := ws_m 859 (by decide +kernel) rfl
theorem k_X8_59 : CkS RX8 59 yX8_within cX8_within 3 (some .boolean) 3 := ⟨ws_m 858 (by decide +kernel) rfl, ws_X8_within, wn_X8, wc_X8_within, ⟨by decide +kernel, by decide +kernel, by decide +kernel⟩, by decide⟩
set_option maxRecDepth 100000 in
theorem wc_X8_wipe : Cond.code yX8_wipe cX8_wipe 2 (some .int) ∈ WS := ws_m 864 rfl rfl
theorem wi_X8_wipe : Cond.instanceMethod yX8_wipe ∈ WS := ws_m 862 (by decide +kernel) rfl
theorem wl_X8_wipe : Cond.selects RX8 yX8_wipe yX8_wipe ∈ WS := ws_m 863 (by decide +kernel) rfl
theorem k_L_22 : CkV RL 22 yX8_wipe cX8_wipe 2 (some .int) RX8 0 := ⟨ws_m 861 (by decide +kernel) rfl, wi_X8_wipe, wl_X8_wipe, wn_X8, wc_X8_wipe, rfl, ⟨by decide +kernel, by decide +kernel, by decide +kernel⟩, by decide⟩
set_option maxRecDepth 100000 in
theorem wc_X8_machine : Cond.code yX8_machine cX8_machine 4 (some .int) ∈ WS := ws_m 868 rfl rfl
theorem wi_X8_machine : Cond.instanceMethod yX8_machine ∈ WS := ws_m 866 (by decide +kernel) rfl
theorem wl_X8_machine : Cond.selects RX8 yX8_machine yX8_machine ∈ WS := ws_m 867 (by decide +kernel) rfl
theorem k_L_26 : CkV RL 26 yX8_machine cX8_machine 4 (some .int) RX8 1 := ⟨ws_m 865 (by decide +kernel) rfl, wi_X8_machine, wl_X8_machine, wn_X8, wc_X8_machine, rfl, ⟨by decide +kernel, by decide +kernel, by decide +kernel⟩, by decide⟩
set_option maxRecDepth 100000 in
theorem wc_X8_reads : Cond.code yX8_reads cX8_reads 2 (some .boolean) ∈ WS := ws_m 872 rfl rfl
theorem wi_X8_reads : Cond.instanceMethod yX8_reads ∈ WS := ws_m 871 (by decide +kernel) rfl
theorem wl_X8_reads : Cond.selects RX8 yX8_reads yX8_reads ∈ WS := ws_m 66 (by decide +kernel) rfl
theorem k_X8_99 : CkV RX8 99 yX8_reads cX8_reads 2 (some .boolean) RX8 1 := ⟨ws_m 869 (by decide +kernel) rfl, wi_X8_reads, wl_X8_reads, wn_X8, wc_X8_reads, rfl, ⟨by decide +kernel, by decide +kernel, by decide +kernel⟩, by decide⟩
set_option maxRecDepth 100000 in
theorem wc_X8_readsItem : Cond.code yX8_readsItem cX8_readsItem 3 (some .boolean) ∈ WS := ws_m 876 rfl rfl
theorem wi_X8_readsItem : Cond.instanceMethod yX8_readsItem ∈ WS := ws_m 875 (by decide +kernel) rfl
theorem wl_X8_readsItem : Cond.selects RX8 yX8_readsItem yX8_readsItem ∈ WS := ws_m 67 (by decide +kernel) rfl
theorem k_X8_93 : CkV RX8 93 yX8_readsItem cX8_readsItem 3 (some .boolean) RX8 1 := ⟨ws_m 873 (by decide +kernel) rfl, wi_X8_readsItem, wl_X8_readsItem, wn_X8, wc_X8_readsItem, rfl, ⟨by decide +kernel, by decide +kernel, by decide +kernel⟩, by decide⟩
set_option maxRecDepth 100000 in
theorem wc_X8_isFigure : Cond.code yX8_isFigure cX8_isFigure 1 (some .boolean) ∈ WS := ws_m 880 rfl rfl
theorem wi_X8_isFigure : Cond.instanceMethod yX8_isFigure ∈ WS := ws_m 879 (by decide +kernel) rfl
theorem wl_X8_isFigure : Cond.selects RX8 yX8_isFigure yX8_isFigure ∈ WS := ws_m 68 (by decide +kernel) rfl
theorem k_X8_78 : CkV RX8 78 yX8_isFigure cX8_isFigure 1 (some .boolean) RX8 0 := ⟨ws_m 877 (by decide +kernel) rfl, wi_X8_isFigure, wl_X8_isFigure, wn_X8, wc_X8_isFigure, rfl, ⟨by decide +kernel, by decide +kernel, by decide +kernel⟩, by decide⟩
set_option maxRecDepth 100000 in
theorem wc_X8_codeHere : Cond.code yX8_codeHere cX8_codeHere 1 (some .int) ∈ WS := ws_m 884 rfl rfl
theorem wi_X8_codeHere : Cond.instanceMethod yX8_codeHere ∈ WS := ws_m 883 (by decide +kernel) rfl
theorem wl_X8_codeHere : Cond.selects RX8 yX8_codeHere yX8_codeHere ∈ WS := ws_m 69 (by decide +kernel) rfl
theorem k_X8_70 : CkV RX8 70 yX8_codeHere cX8_codeHere 1 (some .int) RX8 0 := ⟨ws_m 881 (by decide +kernel) rfl, wi_X8_codeHere, wl_X8_codeHere, wn_X8, wc_X8_codeHere, rfl, ⟨by decide +kernel, by decide +kernel, by decide +kernel⟩, by decide⟩
set_option maxRecDepth 100000 in
theorem wc_X8_readsStep : Cond.code yX8_readsStep cX8_readsStep 6 (some .boolean) ∈ WS := ws_m 888 rfl rfl
theorem wi_X8_readsStep : Cond.instanceMethod yX8_readsStep ∈ WS := ws_m 887 (by decide +kernel) rfl
theorem wl_X8_readsStep : Cond.selects RX8 yX8_readsStep yX8_readsStep ∈ WS := ws_m 70 (by decide +kernel) rfl
theorem k_X8_89 : CkV RX8 89 yX8_readsStep cX8_readsStep 6 (some .boolean) RX8 1 := ⟨ws_m 885 (by decide +kernel) rfl, wi_X8_readsStep, wl_X8_readsStep, wn_X8, wc_X8_readsStep, rfl, ⟨by decide +kernel, by decide +kernel, by decide +kernel⟩, by decide⟩
set_option maxRecDepth 100000 in
theorem wc_X8_isLetter : Cond.code yX8_isLetter cX8_isLetter 1 (some .boolean) ∈ WS := ws_m 892 rfl rfl
theorem wi_X8_isLetter : Cond.instanceMethod yX8_isLetter ∈ WS := ws_m 891 (by decide +kernel) rfl
theorem wl_X8_isLetter : Cond.selects RX8 yX8_isLetter yX8_isLetter ∈ WS := ws_m 71 (by decide +kernel) rfl
theorem k_X8_74 : CkV RX8 74 yX8_isLetter cX8_isLetter 1 (some .boolean) RX8 0 := ⟨ws_m 889 (by decide +kernel) rfl, wi_X8_isLetter, wl_X8_isLetter, wn_X8, wc_X8_isLetter, rfl, ⟨by decide +kernel, by decide +kernel, by decide +kernel⟩, by decide⟩
set_option maxRecDepth 100000 in
theorem wc_X8_stepAt : Cond.code yX8_stepAt cX8_stepAt 3 (some .int) ∈ WS := ws_m 895 rfl rfl
theorem ws_X8_stepAt : Cond.static yX8_stepAt ∈ WS := ws_m 894 (by decide +kernel) rfl
theorem k_X8_81 : CkS RX8 81 yX8_stepAt cX8_stepAt 3 (some .int) 3 := ⟨ws_m 893 (by decide +kernel) rfl, ws_X8_stepAt, wn_X8, wc_X8_stepAt, ⟨by decide +kernel, by decide +kernel, by decide +kernel⟩, by decide⟩
set_option maxRecDepth 100000 in
theorem wc_X8_names : Cond.code yX8_names cX8_names 3 none ∈ WS := ws_m 899 rfl rfl
theorem wi_X8_names : Cond.instanceMethod yX8_names ∈ WS := ws_m 898 (by decide +kernel) rfl
theorem wl_X8_names : Cond.selects RX8 yX8_names yX8_names ∈ WS := ws_m 72 (by decide +kernel) rfl
theorem k_X8_85 : CkV RX8 85 yX8_names cX8_names 3 none RX8 2 := ⟨ws_m 896 (by decide +kernel) rfl, wi_X8_names, wl_X8_names, wn_X8, wc_X8_names, rfl, ⟨by decide +kernel, by decide +kernel, by decide +kernel⟩, by decide⟩
set_option maxRecDepth 100000 in
theorem wc_X8_begins : Cond.code yX8_begins cX8_begins 1 none ∈ WS := ws_m 903 rfl rfl
theorem wi_X8_begins : Cond.instanceMethod yX8_begins ∈ WS := ws_m 902 (by decide +kernel) rfl
theorem wl_X8_begins : Cond.selects RX8 yX8_begins yX8_begins ∈ WS := ws_m 73 (by decide +kernel) rfl
theorem k_X8_102 : CkV RX8 102 yX8_begins cX8_begins 1 none RX8 0 := ⟨ws_m 900 (by decide +kernel) rfl, wi_X8_begins, wl_X8_begins, wn_X8, wc_X8_begins, rfl, ⟨by decide +kernel, by decide +kernel, by decide +kernel⟩, by decide⟩
set_option maxRecDepth 100000 in
theorem wc_X8_drop : Cond.code yX8_drop cX8_drop 1 (some .int) ∈ WS := ws_m 907 rfl rfl
theorem wi_X8_drop : Cond.instanceMethod yX8_drop ∈ WS := ws_m 905 (by decide +kernel) rfl
theorem wl_X8_drop : Cond.selects RX8 yX8_drop yX8_drop ∈ WS := ws_m 906 (by decide +kernel) rfl
theorem k_L_30 : CkV RL 30 yX8_drop cX8_drop 1 (some .int) RX8 0 := ⟨ws_m 904 (by decide +kernel) rfl, wi_X8_drop, wl_X8_drop, wn_X8, wc_X8_drop, rfl, ⟨by decide +kernel, by decide +kernel, by decide +kernel⟩, by decide⟩
set_option maxRecDepth 100000 in
theorem wc_X8_free : Cond.code yX8_free cX8_free 4 (some .int) ∈ WS := ws_m 911 rfl rfl
theorem wi_X8_free : Cond.instanceMethod yX8_free ∈ WS := ws_m 909 (by decide +kernel) rfl
theorem wl_X8_free : Cond.selects RX8 yX8_free yX8_free ∈ WS := ws_m 910 (by decide +kernel) rfl
theorem k_L_35 : CkV RL 35 yX8_free cX8_free 4 (some .int) RX8 2 := ⟨ws_m 908 (by decide +kernel) rfl, wi_X8_free, wl_X8_free, wn_X8, wc_X8_free, rfl, ⟨by decide +kernel, by decide +kernel, by decide +kernel⟩, by decide⟩
set_option maxRecDepth 100000 in
theorem wc_X8_isEvent : Cond.code yX8_isEvent cX8_isEvent 1 (some .boolean) ∈ WS := ws_m 914 rfl rfl
theorem ws_X8_isEvent : Cond.static yX8_isEvent ∈ WS := ws_m 913 (by decide +kernel) rfl
theorem k_X8_115 : CkS RX8 115 yX8_isEvent cX8_isEvent 1 (some .boolean) 1 := ⟨ws_m 912 (by decide +kernel) rfl, ws_X8_isEvent, wn_X8, wc_X8_isEvent, ⟨by decide +kernel, by decide +kernel, by decide +kernel⟩, by decide⟩
set_option maxRecDepth 100000 in
theorem wc_X8_bit : Cond.code yX8_bit cX8_bit 2 (some .int) ∈ WS := ws_m 917 rfl rfl
theorem ws_X8_bit : Cond.static yX8_bit ∈ WS := ws_m 916 (by decide +kernel) rfl
theorem k_X8_121 : CkS RX8 121 yX8_bit cX8_bit 2 (some .int) 2 := ⟨ws_m 915 (by decide +kernel) rfl, ws_X8_bit, wn_X8, wc_X8_bit, ⟨by decide +kernel, by decide +kernel, by decide +kernel⟩, by decide⟩
set_option maxRecDepth 100000 in
theorem wc_X8_anew : Cond.code yX8_anew cX8_anew 2 (some .int) ∈ WS := ws_m 921 rfl rfl
theorem wi_X8_anew : Cond.instanceMethod yX8_anew ∈ WS := ws_m 919 (by decide +kernel) rfl
theorem wl_X8_anew : Cond.selects RX8 yX8_anew yX8_anew ∈ WS := ws_m 920 (by decide +kernel) rfl
theorem k_L_39 : CkV RL 39 yX8_anew cX8_anew 2 (some .int) RX8 0 := ⟨ws_m 918 (by decide +kernel) rfl, wi_X8_anew, wl_X8_anew, wn_X8, wc_X8_anew, rfl, ⟨by decide +kernel, by decide +kernel, by decide +kernel⟩, by decide⟩
set_option maxRecDepth 100000 in
theorem wc_X8_ofMachine : Cond.code yX8_ofMachine cX8_ofMachine 3 (some .int) ∈ WS := ws_m 925 rfl rfl
theorem wi_X8_ofMachine : Cond.instanceMethod yX8_ofMachine ∈ WS := ws_m 923 (by decide +kernel) rfl
theorem wl_X8_ofMachine : Cond.selects RX8 yX8_ofMachine yX8_ofMachine ∈ WS := ws_m 924 (by decide +kernel) rfl
theorem k_L_43 : CkV RL 43 yX8_ofMachine cX8_ofMachine 3 (some .int) RX8 2 := ⟨ws_m 922 (by decide +kernel) rfl, wi_X8_ofMachine, wl_X8_ofMachine, wn_X8, wc_X8_ofMachine, rfl, ⟨by decide +kernel, by decide +kernel, by decide +kernel⟩, by decide⟩
set_option maxRecDepth 100000 in
theorem wc_X8_isMachine : Cond.code yX8_isMachine cX8_isMachine 2 (some .boolean) ∈ WS := ws_m 929 rfl rfl
theorem wi_X8_isMachine : Cond.instanceMethod yX8_isMachine ∈ WS := ws_m 928 (by decide +kernel) rfl
theorem wl_X8_isMachine : Cond.selects RX8 yX8_isMachine yX8_isMachine ∈ WS := ws_m 74 (by decide +kernel) rfl
theorem k_X8_125 : CkV RX8 125 yX8_isMachine cX8_isMachine 2 (some .boolean) RX8 1 := ⟨ws_m 926 (by decide +kernel) rfl, wi_X8_isMachine, wl_X8_isMachine, wn_X8, wc_X8_isMachine, rfl, ⟨by decide +kernel, by decide +kernel, by decide +kernel⟩, by decide⟩
set_option maxRecDepth 100000 in
theorem wc_X8_step : Cond.code yX8_step cX8_step 4 (some .int) ∈ WS := ws_m 933 rfl rfl
theorem wi_X8_step : Cond.instanceMethod yX8_step ∈ WS := ws_m 931 (by decide +kernel) rfl
theorem wl_X8_step : Cond.selects RX8 yX8_step yX8_step ∈ WS := ws_m 932 (by decide +kernel) rfl
theorem k_L_48 : CkV RL 48 yX8_step cX8_step 4 (some .int) RX8 3 := ⟨ws_m 930 (by decide +kernel) rfl, wi_X8_step, wl_X8_step, wn_X8, wc_X8_step, rfl, ⟨by decide +kernel, by decide +kernel, by decide +kernel⟩, by decide⟩
set_option maxRecDepth 100000 in
theorem wc_X8_stateOf : Cond.code yX8_stateOf cX8_stateOf 3 (some .int) ∈ WS := ws_m 937 rfl rfl
theorem wi_X8_stateOf : Cond.instanceMethod yX8_stateOf ∈ WS := ws_m 935 (by decide +kernel) rfl
theorem wl_X8_stateOf : Cond.selects RX8 yX8_stateOf yX8_stateOf ∈ WS := ws_m 936 (by decide +kernel) rfl
theorem k_L_52 : CkV RL 52 yX8_stateOf cX8_stateOf 3 (some .int) RX8 2 := ⟨ws_m 934 (by decide +kernel) rfl, wi_X8_stateOf, wl_X8_stateOf, wn_X8, wc_X8_stateOf, rfl, ⟨by decide +kernel, by decide +kernel, by decide +kernel⟩, by decide⟩
set_option maxRecDepth 100000 in
theorem wc_X8_isJoint : Cond.code yX8_isJoint cX8_isJoint 2 (some .boolean) ∈ WS := ws_m 941 rfl rfl
theorem wi_X8_isJoint : Cond.instanceMethod yX8_isJoint ∈ WS := ws_m 940 (by decide +kernel) rfl
theorem wl_X8_isJoint : Cond.selects RX8 yX8_isJoint yX8_isJoint ∈ WS := ws_m 75 (by decide +kernel) rfl
theorem k_X8_183 : CkV RX8 183 yX8_isJoint cX8_isJoint 2 (some .boolean) RX8 1 := ⟨ws_m 938 (by decide +kernel) rfl, wi_X8_isJoint, wl_X8_isJoint, wn_X8, wc_X8_isJoint, rfl, ⟨by decide +kernel, by decide +kernel, by decide +kernel⟩, by decide⟩
set_option maxRecDepth 100000 in
theorem wc_X8_knows : Cond.code yX8_knows cX8_knows 1 none ∈ WS := ws_m 945 rfl rfl
theorem wi_X8_knows : Cond.instanceMethod yX8_knows ∈ WS := ws_m 944 (by decide +kernel) rfl
theorem wl_X8_knows : Cond.selects RX8 yX8_knows yX8_knows ∈ WS := ws_m 76 (by decide +kernel) rfl
theorem k_X8_180 : CkV RX8 180 yX8_knows cX8_knows 1 none RX8 0 := ⟨ws_m 942 (by decide +kernel) rfl, wi_X8_knows, wl_X8_knows, wn_X8, wc_X8_knows, rfl, ⟨by decide +kernel, by decide +kernel, by decide +kernel⟩, by decide⟩
set_option maxRecDepth 100000 in
theorem wc_X8_all : Cond.code yX8_all cX8_all 1 (some .int) ∈ WS := ws_m 949 rfl rfl
theorem wi_X8_all : Cond.instanceMethod yX8_all ∈ WS := ws_m 948 (by decide +kernel) rfl
theorem wl_X8_all : Cond.selects RX8 yX8_all yX8_all ∈ WS := ws_m 77 (by decide +kernel) rfl
theorem k_X8_155 : CkV RX8 155 yX8_all cX8_all 1 (some .int) RX8 0 := ⟨ws_m 946 (by decide +kernel) rfl, wi_X8_all, wl_X8_all, wn_X8, wc_X8_all, rfl, ⟨by decide +kernel, by decide +kernel, by decide +kernel⟩, by decide⟩
set_option maxRecDepth 100000 in
theorem wc_X8_builds : Cond.code yX8_builds cX8_builds 6 (some .boolean) ∈ WS := ws_m 953 rfl rfl
theorem wi_X8_builds : Cond.instanceMethod yX8_builds ∈ WS := ws_m 952 (by decide +kernel) rfl
theorem wl_X8_builds : Cond.selects RX8 yX8_builds yX8_builds ∈ WS := ws_m 78 (by decide +kernel) rfl
theorem k_X8_165 : CkV RX8 165 yX8_builds cX8_builds 6 (some .boolean) RX8 1 := ⟨ws_m 950 (by decide +kernel) rfl, wi_X8_builds, wl_X8_builds, wn_X8, wc_X8_builds, rfl, ⟨by decide +kernel, by decide +kernel, by decide +kernel⟩, by decide⟩
set_option maxRecDepth 100000 in
theorem wc_X8_led : Cond.code yX8_led cX8_led 8 (some .int) ∈ WS := ws_m 957 rfl rfl
theorem wi_X8_led : Cond.instanceMethod yX8_led ∈ WS := ws_m 956 (by decide +kernel) rfl
theorem wl_X8_led : Cond.selects RX8 yX8_led yX8_led ∈ WS := ws_m 79 (by decide +kernel) rfl
theorem k_X8_134 : CkV RX8 134 yX8_led cX8_led 8 (some .int) RX8 3 := ⟨ws_m 954 (by decide +kernel) rfl, wi_X8_led, wl_X8_led, wn_X8, wc_X8_led, rfl, ⟨by decide +kernel, by decide +kernel, by decide +kernel⟩, by decide⟩
set_option maxRecDepth 100000 in
theorem wc_X8_stateIn : Cond.code yX8_stateIn cX8_stateIn 2 (some .int) ∈ WS := ws_m 960 rfl rfl
theorem ws_X8_stateIn : Cond.static yX8_stateIn ∈ WS := ws_m 959 (by decide +kernel) rfl
theorem k_X8_128 : CkS RX8 128 yX8_stateIn cX8_stateIn 2 (some .int) 2 := ⟨ws_m 958 (by decide +kernel) rfl, ws_X8_stateIn, wn_X8, wc_X8_stateIn, ⟨by decide +kernel, by decide +kernel, by decide +kernel⟩, by decide⟩
set_option maxRecDepth 100000 in
theorem wc_X8_numberOf : Cond.code yX8_numberOf cX8_numberOf 3 (some .int) ∈ WS := ws_m 964 rfl rfl
theorem wi_X8_numberOf : Cond.instanceMethod yX8_numberOf ∈ WS := ws_m 963 (by decide +kernel) rfl
theorem wl_X8_numberOf : Cond.selects RX8 yX8_numberOf yX8_numberOf ∈ WS := ws_m 80 (by decide +kernel) rfl
theorem k_X8_137 : CkV RX8 137 yX8_numberOf cX8_numberOf 3 (some .int) RX8 1 := ⟨ws_m 961 (by decide +kernel) rfl, wi_X8_numberOf, wl_X8_numberOf, wn_X8, wc_X8_numberOf, rfl, ⟨by decide +kernel, by decide +kernel, by decide +kernel⟩, by decide⟩
set_option maxRecDepth 100000 in
theorem wc_X8_losesClashes : Cond.code yX8_losesClashes cX8_losesClashes 3 none ∈ WS := ws_m 968 rfl rfl
theorem wi_X8_losesClashes : Cond.instanceMethod yX8_losesClashes ∈ WS := ws_m 967 (by decide +kernel) rfl
theorem wl_X8_losesClashes : Cond.selects RX8 yX8_losesClashes yX8_losesClashes ∈ WS := ws_m 81 (by decide +kernel) rfl
theorem k_X8_168 : CkV RX8 168 yX8_losesClashes cX8_losesClashes 3 none RX8 0 := ⟨ws_m 965 (by decide +kernel) rfl, wi_X8_losesClashes, wl_X8_losesClashes, wn_X8, wc_X8_losesClashes, rfl, ⟨by decide +kernel, by decide +kernel, by decide +kernel⟩, by decide⟩
set_option maxRecDepth 100000 in
theorem wc_X8_clashes : Cond.code yX8_clashes cX8_clashes 8 (some .boolean) ∈ WS := ws_m 972 rfl rfl
theorem wi_X8_clashes : Cond.instanceMethod yX8_clashes ∈ WS := ws_m 971 (by decide +kernel) rfl
theorem wl_X8_clashes : Cond.selects RX8 yX8_clashes yX8_clashes ∈ WS := ws_m 82 (by decide +kernel) rfl
theorem k_X8_141 : CkV RX8 141 yX8_clashes cX8_clashes 8 (some .boolean) RX8 2 := ⟨ws_m 969 (by decide +kernel) rfl, wi_X8_clashes, wl_X8_clashes, wn_X8, wc_X8_clashes, rfl, ⟨by decide +kernel, by decide +kernel, by decide +kernel⟩, by decide⟩
set_option maxRecDepth 100000 in
theorem wc_X8_loses : Cond.code yX8_loses cX8_loses 5 none ∈ WS := ws_m 976 rfl rfl
theorem wi_X8_loses : Cond.instanceMethod yX8_loses ∈ WS := ws_m 975 (by decide +kernel) rfl
theorem wl_X8_loses : Cond.selects RX8 yX8_loses yX8_loses ∈ WS := ws_m 83 (by decide +kernel) rfl
theorem k_X8_145 : CkV RX8 145 yX8_loses cX8_loses 5 none RX8 4 := ⟨ws_m 973 (by decide +kernel) rfl, wi_X8_loses, wl_X8_loses, wn_X8, wc_X8_loses, rfl, ⟨by decide +kernel, by decide +kernel, by decide +kernel⟩, by decide⟩
set_option maxRecDepth 100000 in
theorem wc_X8_losesPushed : Cond.code yX8_losesPushed cX8_losesPushed 5 (some .boolean) ∈ WS := ws_m 980 rfl rfl
theorem wi_X8_losesPushed : Cond.instanceMethod yX8_losesPushed ∈ WS := ws_m 979 (by decide +kernel) rfl
theorem wl_X8_losesPushed : Cond.selects RX8 yX8_losesPushed yX8_losesPushed ∈ WS := ws_m 84 (by decide +kernel) rfl
theorem k_X8_171 : CkV RX8 171 yX8_losesPushed cX8_losesPushed 5 (some .boolean) RX8 1 := ⟨ws_m 977 (by decide +kernel) rfl, wi_X8_losesPushed, wl_X8_losesPushed, wn_X8, wc_X8_losesPushed, rfl, ⟨by decide +kernel, by decide +kernel, by decide +kernel⟩, by decide⟩
set_option maxRecDepth 100000 in
theorem wc_X8_pushes : Cond.code yX8_pushes cX8_pushes 5 (some .int) ∈ WS := ws_m 984 rfl rfl
theorem wi_X8_pushes : Cond.instanceMethod yX8_pushes ∈ WS := ws_m 983 (by decide +kernel) rfl
theorem wl_X8_pushes : Cond.selects RX8 yX8_pushes yX8_pushes ∈ WS := ws_m 85 (by decide +kernel) rfl
