theorem k_X8_149 : CkV RX8 149 yX8_pushes cX8_pushes 5 (some .int) RX8 2 := ⟨ws_m 981 (by decide +kernel) rfl, wi_X8_pushes, wl_X8_pushes, wn_X8, wc_X8_pushes, rfl, ⟨by decide +kernel, by decide +kernel, by decide +kernel⟩, by decide⟩
set_option maxRecDepth 100000 in
theorem wc_X8_losesStuck : Cond.code yX8_losesStuck cX8_losesStuck 4 (some .boolean) ∈ WS := ws_m 988 rfl rfl
theorem wi_X8_losesStuck : Cond.instanceMethod yX8_losesStuck ∈ WS := ws_m 987 (by decide +kernel) rfl
theorem wl_X8_losesStuck : Cond.selects RX8 yX8_losesStuck yX8_losesStuck ∈ WS := ws_m 86 (by decide +kernel) rfl
theorem k_X8_174 : CkV RX8 174 yX8_losesStuck cX8_losesStuck 4 (some .boolean) RX8 1 := ⟨ws_m 985 (by decide +kernel) rfl, wi_X8_losesStuck, wl_X8_losesStuck, wn_X8, wc_X8_losesStuck, rfl, ⟨by decide +kernel, by decide +kernel, by decide +kernel⟩, by decide⟩
set_option maxRecDepth 100000 in
theorem wc_X8_findEnds : Cond.code yX8_findEnds cX8_findEnds 5 none ∈ WS := ws_m 992 rfl rfl
theorem wi_X8_findEnds : Cond.instanceMethod yX8_findEnds ∈ WS := ws_m 991 (by decide +kernel) rfl
theorem wl_X8_findEnds : Cond.selects RX8 yX8_findEnds yX8_findEnds ∈ WS := ws_m 87 (by decide +kernel) rfl
theorem k_X8_158 : CkV RX8 158 yX8_findEnds cX8_findEnds 5 none RX8 1 := ⟨ws_m 989 (by decide +kernel) rfl, wi_X8_findEnds, wl_X8_findEnds, wn_X8, wc_X8_findEnds, rfl, ⟨by decide +kernel, by decide +kernel, by decide +kernel⟩, by decide⟩
set_option maxRecDepth 100000 in
theorem wc_X8_isFinished : Cond.code yX8_isFinished cX8_isFinished 4 (some .boolean) ∈ WS := ws_m 996 rfl rfl
theorem wi_X8_isFinished : Cond.instanceMethod yX8_isFinished ∈ WS := ws_m 995 (by decide +kernel) rfl
theorem wl_X8_isFinished : Cond.selects RX8 yX8_isFinished yX8_isFinished ∈ WS := ws_m 88 (by decide +kernel) rfl
theorem k_X8_152 : CkV RX8 152 yX8_isFinished cX8_isFinished 4 (some .boolean) RX8 2 := ⟨ws_m 993 (by decide +kernel) rfl, wi_X8_isFinished, wl_X8_isFinished, wn_X8, wc_X8_isFinished, rfl, ⟨by decide +kernel, by decide +kernel, by decide +kernel⟩, by decide⟩
set_option maxRecDepth 100000 in
theorem wc_X8_findControlled : Cond.code yX8_findControlled cX8_findControlled 4 none ∈ WS := ws_m 1000 rfl rfl
theorem wi_X8_findControlled : Cond.instanceMethod yX8_findControlled ∈ WS := ws_m 999 (by decide +kernel) rfl
theorem wl_X8_findControlled : Cond.selects RX8 yX8_findControlled yX8_findControlled ∈ WS := ws_m 89 (by decide +kernel) rfl
theorem k_X8_177 : CkV RX8 177 yX8_findControlled cX8_findControlled 4 none RX8 0 := ⟨ws_m 997 (by decide +kernel) rfl, wi_X8_findControlled, wl_X8_findControlled, wn_X8, wc_X8_findControlled, rfl, ⟨by decide +kernel, by decide +kernel, by decide +kernel⟩, by decide⟩
set_option maxRecDepth 100000 in
theorem wc_X8_leads : Cond.code yX8_leads cX8_leads 3 (some .int) ∈ WS := ws_m 1004 rfl rfl
theorem wi_X8_leads : Cond.instanceMethod yX8_leads ∈ WS := ws_m 1002 (by decide +kernel) rfl
theorem wl_X8_leads : Cond.selects RX8 yX8_leads yX8_leads ∈ WS := ws_m 1003 (by decide +kernel) rfl
theorem k_L_56 : CkV RL 56 yX8_leads cX8_leads 3 (some .int) RX8 2 := ⟨ws_m 1001 (by decide +kernel) rfl, wi_X8_leads, wl_X8_leads, wn_X8, wc_X8_leads, rfl, ⟨by decide +kernel, by decide +kernel, by decide +kernel⟩, by decide⟩
set_option maxRecDepth 100000 in
theorem wc_X8_joint : Cond.code yX8_joint cX8_joint 3 (some .int) ∈ WS := ws_m 1008 rfl rfl
theorem wi_X8_joint : Cond.instanceMethod yX8_joint ∈ WS := ws_m 1006 (by decide +kernel) rfl
theorem wl_X8_joint : Cond.selects RX8 yX8_joint yX8_joint ∈ WS := ws_m 1007 (by decide +kernel) rfl
theorem k_L_60 : CkV RL 60 yX8_joint cX8_joint 3 (some .int) RX8 2 := ⟨ws_m 1005 (by decide +kernel) rfl, wi_X8_joint, wl_X8_joint, wn_X8, wc_X8_joint, rfl, ⟨by decide +kernel, by decide +kernel, by decide +kernel⟩, by decide⟩
set_option maxRecDepth 100000 in
theorem wc_X8_eventsAt : Cond.code yX8_eventsAt cX8_eventsAt 6 (some .int) ∈ WS := ws_m 1012 rfl rfl
theorem wi_X8_eventsAt : Cond.instanceMethod yX8_eventsAt ∈ WS := ws_m 1011 (by decide +kernel) rfl
theorem wl_X8_eventsAt : Cond.selects RX8 yX8_eventsAt yX8_eventsAt ∈ WS := ws_m 90 (by decide +kernel) rfl
theorem k_X8_189 : CkV RX8 189 yX8_eventsAt cX8_eventsAt 6 (some .int) RX8 2 := ⟨ws_m 1009 (by decide +kernel) rfl, wi_X8_eventsAt, wl_X8_eventsAt, wn_X8, wc_X8_eventsAt, rfl, ⟨by decide +kernel, by decide +kernel, by decide +kernel⟩, by decide⟩
set_option maxRecDepth 100000 in
theorem wc_X8_isBarred : Cond.code yX8_isBarred cX8_isBarred 4 (some .boolean) ∈ WS := ws_m 1016 rfl rfl
theorem wi_X8_isBarred : Cond.instanceMethod yX8_isBarred ∈ WS := ws_m 1015 (by decide +kernel) rfl
theorem wl_X8_isBarred : Cond.selects RX8 yX8_isBarred yX8_isBarred ∈ WS := ws_m 91 (by decide +kernel) rfl
theorem k_X8_186 : CkV RX8 186 yX8_isBarred cX8_isBarred 4 (some .boolean) RX8 2 := ⟨ws_m 1013 (by decide +kernel) rfl, wi_X8_isBarred, wl_X8_isBarred, wn_X8, wc_X8_isBarred, rfl, ⟨by decide +kernel, by decide +kernel, by decide +kernel⟩, by decide⟩
set_option maxRecDepth 100000 in
theorem wc_X8_why : Cond.code yX8_why cX8_why 6 (some .int) ∈ WS := ws_m 1020 rfl rfl
theorem wi_X8_why : Cond.instanceMethod yX8_why ∈ WS := ws_m 1018 (by decide +kernel) rfl
theorem wl_X8_why : Cond.selects RX8 yX8_why yX8_why ∈ WS := ws_m 1019 (by decide +kernel) rfl
theorem k_L_64 : CkV RL 64 yX8_why cX8_why 6 (some .int) RX8 3 := ⟨ws_m 1017 (by decide +kernel) rfl, wi_X8_why, wl_X8_why, wn_X8, wc_X8_why, rfl, ⟨by decide +kernel, by decide +kernel, by decide +kernel⟩, by decide⟩
set_option maxRecDepth 100000 in
theorem wc_X8_wave : Cond.code yX8_wave cX8_wave 4 (some .int) ∈ WS := ws_m 1024 rfl rfl
theorem wi_X8_wave : Cond.instanceMethod yX8_wave ∈ WS := ws_m 1022 (by decide +kernel) rfl
theorem wl_X8_wave : Cond.selects RX8 yX8_wave yX8_wave ∈ WS := ws_m 1023 (by decide +kernel) rfl
theorem k_L_68 : CkV RL 68 yX8_wave cX8_wave 4 (some .int) RX8 1 := ⟨ws_m 1021 (by decide +kernel) rfl, wi_X8_wave, wl_X8_wave, wn_X8, wc_X8_wave, rfl, ⟨by decide +kernel, by decide +kernel, by decide +kernel⟩, by decide⟩
set_option maxRecDepth 100000 in
theorem wc_X8_some : Cond.code yX8_some cX8_some 5 (some .int) ∈ WS := ws_m 1028 rfl rfl
theorem wi_X8_some : Cond.instanceMethod yX8_some ∈ WS := ws_m 1026 (by decide +kernel) rfl
theorem wl_X8_some : Cond.selects RX8 yX8_some yX8_some ∈ WS := ws_m 1027 (by decide +kernel) rfl
theorem k_L_72 : CkV RL 72 yX8_some cX8_some 5 (some .int) RX8 2 := ⟨ws_m 1025 (by decide +kernel) rfl, wi_X8_some, wl_X8_some, wn_X8, wc_X8_some, rfl, ⟨by decide +kernel, by decide +kernel, by decide +kernel⟩, by decide⟩
set_option maxRecDepth 100000 in
theorem wc_X8_go : Cond.code yX8_go cX8_go 4 (some .int) ∈ WS := ws_m 1032 rfl rfl
theorem wi_X8_go : Cond.instanceMethod yX8_go ∈ WS := ws_m 1030 (by decide +kernel) rfl
theorem wl_X8_go : Cond.selects RX8 yX8_go yX8_go ∈ WS := ws_m 1031 (by decide +kernel) rfl
theorem k_L_76 : CkV RL 76 yX8_go cX8_go 4 (some .int) RX8 1 := ⟨ws_m 1029 (by decide +kernel) rfl, wi_X8_go, wl_X8_go, wn_X8, wc_X8_go, rfl, ⟨by decide +kernel, by decide +kernel, by decide +kernel⟩, by decide⟩
set_option maxRecDepth 100000 in
theorem wc_X8_isShut : Cond.code yX8_isShut cX8_isShut 1 (some .boolean) ∈ WS := ws_m 1036 rfl rfl
theorem wi_X8_isShut : Cond.instanceMethod yX8_isShut ∈ WS := ws_m 1035 (by decide +kernel) rfl
theorem wl_X8_isShut : Cond.selects RX8 yX8_isShut yX8_isShut ∈ WS := ws_m 92 (by decide +kernel) rfl
theorem k_X8_192 : CkV RX8 192 yX8_isShut cX8_isShut 1 (some .boolean) RX8 0 := ⟨ws_m 1033 (by decide +kernel) rfl, wi_X8_isShut, wl_X8_isShut, wn_X8, wc_X8_isShut, rfl, ⟨by decide +kernel, by decide +kernel, by decide +kernel⟩, by decide⟩
set_option maxRecDepth 100000 in
theorem wc_X8_back : Cond.code yX8_back cX8_back 1 (some .int) ∈ WS := ws_m 1040 rfl rfl
theorem wi_X8_back : Cond.instanceMethod yX8_back ∈ WS := ws_m 1038 (by decide +kernel) rfl
theorem wl_X8_back : Cond.selects RX8 yX8_back yX8_back ∈ WS := ws_m 1039 (by decide +kernel) rfl
theorem k_L_80 : CkV RL 80 yX8_back cX8_back 1 (some .int) RX8 0 := ⟨ws_m 1037 (by decide +kernel) rfl, wi_X8_back, wl_X8_back, wn_X8, wc_X8_back, rfl, ⟨by decide +kernel, by decide +kernel, by decide +kernel⟩, by decide⟩
set_option maxRecDepth 100000 in
theorem wc_X8_at : Cond.code yX8_at cX8_at 1 (some .int) ∈ WS := ws_m 1044 rfl rfl
theorem wi_X8_at : Cond.instanceMethod yX8_at ∈ WS := ws_m 1042 (by decide +kernel) rfl
theorem wl_X8_at : Cond.selects RX8 yX8_at yX8_at ∈ WS := ws_m 1043 (by decide +kernel) rfl
theorem k_L_84 : CkV RL 84 yX8_at cX8_at 1 (some .int) RX8 0 := ⟨ws_m 1041 (by decide +kernel) rfl, wi_X8_at, wl_X8_at, wn_X8, wc_X8_at, rfl, ⟨by decide +kernel, by decide +kernel, by decide +kernel⟩, by decide⟩
set_option maxRecDepth 100000 in
theorem wc_X8_finish : Cond.code yX8_finish cX8_finish 3 (some .int) ∈ WS := ws_m 1048 rfl rfl
theorem wi_X8_finish : Cond.instanceMethod yX8_finish ∈ WS := ws_m 1046 (by decide +kernel) rfl
theorem wl_X8_finish : Cond.selects RX8 yX8_finish yX8_finish ∈ WS := ws_m 1047 (by decide +kernel) rfl
theorem k_L_88 : CkV RL 88 yX8_finish cX8_finish 3 (some .int) RX8 1 := ⟨ws_m 1045 (by decide +kernel) rfl, wi_X8_finish, wl_X8_finish, wn_X8, wc_X8_finish, rfl, ⟨by decide +kernel, by decide +kernel, by decide +kernel⟩, by decide⟩
set_option maxRecDepth 100000 in
theorem wc_X8_isPlace : Cond.code yX8_isPlace cX8_isPlace 1 (some .boolean) ∈ WS := ws_m 1051 rfl rfl
theorem ws_X8_isPlace : Cond.static yX8_isPlace ∈ WS := ws_m 1050 (by decide +kernel) rfl
theorem k_X8_198 : CkS RX8 198 yX8_isPlace cX8_isPlace 1 (some .boolean) 1 := ⟨ws_m 1049 (by decide +kernel) rfl, ws_X8_isPlace, wn_X8, wc_X8_isPlace, ⟨by decide +kernel, by decide +kernel, by decide +kernel⟩, by decide⟩
set_option maxRecDepth 100000 in
theorem wc_X8_findFar : Cond.code yX8_findFar cX8_findFar 6 none ∈ WS := ws_m 1055 rfl rfl
theorem wi_X8_findFar : Cond.instanceMethod yX8_findFar ∈ WS := ws_m 1054 (by decide +kernel) rfl
theorem wl_X8_findFar : Cond.selects RX8 yX8_findFar yX8_findFar ∈ WS := ws_m 93 (by decide +kernel) rfl
theorem k_X8_201 : CkV RX8 201 yX8_findFar cX8_findFar 6 none RX8 0 := ⟨ws_m 1052 (by decide +kernel) rfl, wi_X8_findFar, wl_X8_findFar, wn_X8, wc_X8_findFar, rfl, ⟨by decide +kernel, by decide +kernel, by decide +kernel⟩, by decide⟩
set_option maxRecDepth 100000 in
theorem wc_X8_tellWord : Cond.code yX8_tellWord cX8_tellWord 5 (some .int) ∈ WS := ws_m 1059 rfl rfl
theorem wi_X8_tellWord : Cond.instanceMethod yX8_tellWord ∈ WS := ws_m 1058 (by decide +kernel) rfl
theorem wl_X8_tellWord : Cond.selects RX8 yX8_tellWord yX8_tellWord ∈ WS := ws_m 94 (by decide +kernel) rfl
theorem k_X8_204 : CkV RX8 204 yX8_tellWord cX8_tellWord 5 (some .int) RX8 2 := ⟨ws_m 1056 (by decide +kernel) rfl, wi_X8_tellWord, wl_X8_tellWord, wn_X8, wc_X8_tellWord, rfl, ⟨by decide +kernel, by decide +kernel, by decide +kernel⟩, by decide⟩
set_option maxRecDepth 100000 in
theorem wc_X8_nearer : Cond.code yX8_nearer cX8_nearer 3 (some .int) ∈ WS := ws_m 1063 rfl rfl
theorem wi_X8_nearer : Cond.instanceMethod yX8_nearer ∈ WS := ws_m 1062 (by decide +kernel) rfl
theorem wl_X8_nearer : Cond.selects RX8 yX8_nearer yX8_nearer ∈ WS := ws_m 95 (by decide +kernel) rfl
theorem k_X8_195 : CkV RX8 195 yX8_nearer cX8_nearer 3 (some .int) RX8 1 := ⟨ws_m 1060 (by decide +kernel) rfl, wi_X8_nearer, wl_X8_nearer, wn_X8, wc_X8_nearer, rfl, ⟨by decide +kernel, by decide +kernel, by decide +kernel⟩, by decide⟩
set_option maxRecDepth 100000 in
theorem wc_X8_word : Cond.code yX8_word cX8_word 4 (some .int) ∈ WS := ws_m 1067 rfl rfl
theorem wi_X8_word : Cond.instanceMethod yX8_word ∈ WS := ws_m 1065 (by decide +kernel) rfl
theorem wl_X8_word : Cond.selects RX8 yX8_word yX8_word ∈ WS := ws_m 1066 (by decide +kernel) rfl
theorem k_L_92 : CkV RL 92 yX8_word cX8_word 4 (some .int) RX8 2 := ⟨ws_m 1064 (by decide +kernel) rfl, wi_X8_word, wl_X8_word, wn_X8, wc_X8_word, rfl, ⟨by decide +kernel, by decide +kernel, by decide +kernel⟩, by decide⟩
set_option maxRecDepth 100000 in
theorem wc_X8_many : Cond.code yX8_many cX8_many 7 (some .int) ∈ WS := ws_m 1071 rfl rfl
theorem wi_X8_many : Cond.instanceMethod yX8_many ∈ WS := ws_m 1069 (by decide +kernel) rfl
theorem wl_X8_many : Cond.selects RX8 yX8_many yX8_many ∈ WS := ws_m 1070 (by decide +kernel) rfl
theorem k_L_96 : CkV RL 96 yX8_many cX8_many 7 (some .int) RX8 1 := ⟨ws_m 1068 (by decide +kernel) rfl, wi_X8_many, wl_X8_many, wn_X8, wc_X8_many, rfl, ⟨by decide +kernel, by decide +kernel, by decide +kernel⟩, by decide⟩
theorem kc_X3_114 : Cond.constant RX3 114 (-1640531535) ∈ WS := ws_m 349 (by decide +kernel) rfl
theorem kc_J6_265 : Cond.constant RJ6 265 (1431655765) ∈ WS := ws_m 501 (by decide +kernel) rfl
theorem kc_J6_266 : Cond.constant RJ6 266 (858993459) ∈ WS := ws_m 502 (by decide +kernel) rfl
theorem kc_J6_267 : Cond.constant RJ6 267 (252645135) ∈ WS := ws_m 503 (by decide +kernel) rfl
