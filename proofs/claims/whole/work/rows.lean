section
-- ===== PART A: goes FIRST, ahead of the names: the tables' words, and 'selects' of the private methods out of them =====
/-- a private method of a class that the tables say can be made, by its rows of tables_1 -/
def lw_okq (q : MethodName × Nat) : Prop := (q.1.cls ≠ "java/lang/invoke/MethodHandle" ∧ q.1.cls ≠ "java/lang/invoke/VarHandle") ∧ Cond.instantiable q.1.cls q.2 ∈ tables_1 ∧ Cond.privateMethod q.1 ∈ tables_1 ∧ Cond.instanceMethod q.1 ∈ tables_1
theorem lw_p0 : lw_okq (⟨"LeastBars", "joinAnew", "()V"⟩, 12) := ⟨⟨by decide +kernel, by decide +kernel⟩, List.mem_of_getElem? (i := 14) (by decide +kernel), List.mem_of_getElem? (i := 230) (by decide +kernel), List.mem_of_getElem? (i := 231) (by decide +kernel)⟩
theorem lw_p1 : lw_okq (⟨"LeastBars", "setOfAllMachines", "()I"⟩, 12) := ⟨⟨by decide +kernel, by decide +kernel⟩, List.mem_of_getElem? (i := 14) (by decide +kernel), List.mem_of_getElem? (i := 234) (by decide +kernel), List.mem_of_getElem? (i := 235) (by decide +kernel)⟩
theorem lw_p2 : lw_okq (⟨"LeastBars$Net", "join", "([LLeastBars$Machine;I)V"⟩, 15) := ⟨⟨by decide +kernel, by decide +kernel⟩, List.mem_of_getElem? (i := 92) (by decide +kernel), List.mem_of_getElem? (i := 238) (by decide +kernel), List.mem_of_getElem? (i := 239) (by decide +kernel)⟩
theorem lw_p3 : lw_okq (⟨"LeastBars$Net", "gatherAlphabets", "([LLeastBars$Machine;I)V"⟩, 15) := ⟨⟨by decide +kernel, by decide +kernel⟩, List.mem_of_getElem? (i := 92) (by decide +kernel), List.mem_of_getElem? (i := 243) (by decide +kernel), List.mem_of_getElem? (i := 244) (by decide +kernel)⟩
theorem lw_p4 : lw_okq (⟨"LeastBars$Net", "meet", "(I)I"⟩, 15) := ⟨⟨by decide +kernel, by decide +kernel⟩, List.mem_of_getElem? (i := 92) (by decide +kernel), List.mem_of_getElem? (i := 250) (by decide +kernel), List.mem_of_getElem? (i := 251) (by decide +kernel)⟩
theorem lw_p5 : lw_okq (⟨"LeastBars$Net", "add", "(I)I"⟩, 15) := ⟨⟨by decide +kernel, by decide +kernel⟩, List.mem_of_getElem? (i := 92) (by decide +kernel), List.mem_of_getElem? (i := 255) (by decide +kernel), List.mem_of_getElem? (i := 256) (by decide +kernel)⟩
theorem lw_p6 : lw_okq (⟨"LeastBars$Net", "spreadFrom", "(I[LLeastBars$Machine;I)V"⟩, 15) := ⟨⟨by decide +kernel, by decide +kernel⟩, List.mem_of_getElem? (i := 92) (by decide +kernel), List.mem_of_getElem? (i := 262) (by decide +kernel), List.mem_of_getElem? (i := 263) (by decide +kernel)⟩
theorem lw_p7 : lw_okq (⟨"LeastBars$Net", "stateIn", "(II)I"⟩, 15) := ⟨⟨by decide +kernel, by decide +kernel⟩, List.mem_of_getElem? (i := 92) (by decide +kernel), List.mem_of_getElem? (i := 266) (by decide +kernel), List.mem_of_getElem? (i := 267) (by decide +kernel)⟩
theorem lw_p8 : lw_okq (⟨"LeastBars$Net", "has", "(I)Z"⟩, 15) := ⟨⟨by decide +kernel, by decide +kernel⟩, List.mem_of_getElem? (i := 92) (by decide +kernel), List.mem_of_getElem? (i := 270) (by decide +kernel), List.mem_of_getElem? (i := 271) (by decide +kernel)⟩
theorem lw_p9 : lw_okq (⟨"LeastBars$Machine", "missingSet", "(I)I"⟩, 7) := ⟨⟨by decide +kernel, by decide +kernel⟩, List.mem_of_getElem? (i := 56) (by decide +kernel), List.mem_of_getElem? (i := 274) (by decide +kernel), List.mem_of_getElem? (i := 275) (by decide +kernel)⟩
theorem lw_p10 : lw_okq (⟨"LeastBars$Net", "allMarked", "(I[LLeastBars$Machine;I)Z"⟩, 15) := ⟨⟨by decide +kernel, by decide +kernel⟩, List.mem_of_getElem? (i := 92) (by decide +kernel), List.mem_of_getElem? (i := 281) (by decide +kernel), List.mem_of_getElem? (i := 282) (by decide +kernel)⟩
theorem lw_p11 : lw_okq (⟨"LeastBars$Net", "codeBehind", "(II[LLeastBars$Machine;I)I"⟩, 15) := ⟨⟨by decide +kernel, by decide +kernel⟩, List.mem_of_getElem? (i := 92) (by decide +kernel), List.mem_of_getElem? (i := 285) (by decide +kernel), List.mem_of_getElem? (i := 286) (by decide +kernel)⟩
theorem lw_p12 : lw_okq (⟨"LeastBars$Machine", "target", "(II)I"⟩, 7) := ⟨⟨by decide +kernel, by decide +kernel⟩, List.mem_of_getElem? (i := 56) (by decide +kernel), List.mem_of_getElem? (i := 289) (by decide +kernel), List.mem_of_getElem? (i := 290) (by decide +kernel)⟩
theorem lw_p13 : lw_okq (⟨"LeastBars$Net", "addEdge", "(III)V"⟩, 15) := ⟨⟨by decide +kernel, by decide +kernel⟩, List.mem_of_getElem? (i := 92) (by decide +kernel), List.mem_of_getElem? (i := 296) (by decide +kernel), List.mem_of_getElem? (i := 297) (by decide +kernel)⟩
theorem lw_p14 : lw_okq (⟨"LeastBars", "controlAnew", "()V"⟩, 12) := ⟨⟨by decide +kernel, by decide +kernel⟩, List.mem_of_getElem? (i := 14) (by decide +kernel), List.mem_of_getElem? (i := 300) (by decide +kernel), List.mem_of_getElem? (i := 301) (by decide +kernel)⟩
theorem lw_p15 : lw_okq (⟨"LeastBars$Losses", "sift", "(LLeastBars$Net;I)V"⟩, 7) := ⟨⟨by decide +kernel, by decide +kernel⟩, List.mem_of_getElem? (i := 152) (by decide +kernel), List.mem_of_getElem? (i := 304) (by decide +kernel), List.mem_of_getElem? (i := 305) (by decide +kernel)⟩
def lw_privs_1 : List (MethodName × Nat) := [(⟨"LeastBars", "joinAnew", "()V"⟩, 12), (⟨"LeastBars", "setOfAllMachines", "()I"⟩, 12), (⟨"LeastBars$Net", "join", "([LLeastBars$Machine;I)V"⟩, 15), (⟨"LeastBars$Net", "gatherAlphabets", "([LLeastBars$Machine;I)V"⟩, 15), (⟨"LeastBars$Net", "meet", "(I)I"⟩, 15), (⟨"LeastBars$Net", "add", "(I)I"⟩, 15), (⟨"LeastBars$Net", "spreadFrom", "(I[LLeastBars$Machine;I)V"⟩, 15), (⟨"LeastBars$Net", "stateIn", "(II)I"⟩, 15), (⟨"LeastBars$Net", "has", "(I)Z"⟩, 15), (⟨"LeastBars$Machine", "missingSet", "(I)I"⟩, 7), (⟨"LeastBars$Net", "allMarked", "(I[LLeastBars$Machine;I)Z"⟩, 15), (⟨"LeastBars$Net", "codeBehind", "(II[LLeastBars$Machine;I)I"⟩, 15), (⟨"LeastBars$Machine", "target", "(II)I"⟩, 7), (⟨"LeastBars$Net", "addEdge", "(III)V"⟩, 15), (⟨"LeastBars", "controlAnew", "()V"⟩, 12), (⟨"LeastBars$Losses", "sift", "(LLeastBars$Net;I)V"⟩, 7)]
theorem lw_r1 : ∀ q ∈ lw_privs_1, lw_okq q := List.forall_mem_cons.mpr ⟨lw_p0, List.forall_mem_cons.mpr ⟨lw_p1, List.forall_mem_cons.mpr ⟨lw_p2, List.forall_mem_cons.mpr ⟨lw_p3, List.forall_mem_cons.mpr ⟨lw_p4, List.forall_mem_cons.mpr ⟨lw_p5, List.forall_mem_cons.mpr ⟨lw_p6, List.forall_mem_cons.mpr ⟨lw_p7, List.forall_mem_cons.mpr ⟨lw_p8, List.forall_mem_cons.mpr ⟨lw_p9, List.forall_mem_cons.mpr ⟨lw_p10, List.forall_mem_cons.mpr ⟨lw_p11, List.forall_mem_cons.mpr ⟨lw_p12, List.forall_mem_cons.mpr ⟨lw_p13, List.forall_mem_cons.mpr ⟨lw_p14, List.forall_mem_cons.mpr ⟨lw_p15, fun _ h => absurd h List.not_mem_nil⟩⟩⟩⟩⟩⟩⟩⟩⟩⟩⟩⟩⟩⟩⟩⟩
theorem lw_p16 : lw_okq (⟨"LeastBars$Losses", "loseClashing", "(LLeastBars$Net;I)V"⟩, 7) := ⟨⟨by decide +kernel, by decide +kernel⟩, List.mem_of_getElem? (i := 152) (by decide +kernel), List.mem_of_getElem? (i := 309) (by decide +kernel), List.mem_of_getElem? (i := 310) (by decide +kernel)⟩
theorem lw_p17 : lw_okq (⟨"LeastBars$Net", "clashSet", "(II)I"⟩, 15) := ⟨⟨by decide +kernel, by decide +kernel⟩, List.mem_of_getElem? (i := 92) (by decide +kernel), List.mem_of_getElem? (i := 313) (by decide +kernel), List.mem_of_getElem? (i := 314) (by decide +kernel)⟩
theorem lw_p18 : lw_okq (⟨"LeastBars$Losses", "lose", "(IIII)V"⟩, 7) := ⟨⟨by decide +kernel, by decide +kernel⟩, List.mem_of_getElem? (i := 152) (by decide +kernel), List.mem_of_getElem? (i := 321) (by decide +kernel), List.mem_of_getElem? (i := 322) (by decide +kernel)⟩
theorem lw_p19 : lw_okq (⟨"LeastBars$Losses", "losePushed", "(LLeastBars$Net;I)V"⟩, 7) := ⟨⟨by decide +kernel, by decide +kernel⟩, List.mem_of_getElem? (i := 152) (by decide +kernel), List.mem_of_getElem? (i := 326) (by decide +kernel), List.mem_of_getElem? (i := 327) (by decide +kernel)⟩
theorem lw_p20 : lw_okq (⟨"LeastBars$Net", "leadSet", "(I)I"⟩, 15) := ⟨⟨by decide +kernel, by decide +kernel⟩, List.mem_of_getElem? (i := 92) (by decide +kernel), List.mem_of_getElem? (i := 330) (by decide +kernel), List.mem_of_getElem? (i := 331) (by decide +kernel)⟩
theorem lw_p21 : lw_okq (⟨"LeastBars$Losses", "isLost", "(I)Z"⟩, 7) := ⟨⟨by decide +kernel, by decide +kernel⟩, List.mem_of_getElem? (i := 152) (by decide +kernel), List.mem_of_getElem? (i := 334) (by decide +kernel), List.mem_of_getElem? (i := 335) (by decide +kernel)⟩
theorem lw_p22 : lw_okq (⟨"LeastBars$Losses", "waveOf", "(I)I"⟩, 7) := ⟨⟨by decide +kernel, by decide +kernel⟩, List.mem_of_getElem? (i := 152) (by decide +kernel), List.mem_of_getElem? (i := 338) (by decide +kernel), List.mem_of_getElem? (i := 339) (by decide +kernel)⟩
theorem lw_p23 : lw_okq (⟨"LeastBars$Losses", "losePushedBy", "(LLeastBars$Net;II)V"⟩, 7) := ⟨⟨by decide +kernel, by decide +kernel⟩, List.mem_of_getElem? (i := 152) (by decide +kernel), List.mem_of_getElem? (i := 342) (by decide +kernel), List.mem_of_getElem? (i := 343) (by decide +kernel)⟩
theorem lw_p24 : lw_okq (⟨"LeastBars$Net", "target", "(II)I"⟩, 15) := ⟨⟨by decide +kernel, by decide +kernel⟩, List.mem_of_getElem? (i := 92) (by decide +kernel), List.mem_of_getElem? (i := 347) (by decide +kernel), List.mem_of_getElem? (i := 348) (by decide +kernel)⟩
theorem lw_p25 : lw_okq (⟨"LeastBars$Losses", "isLostInEarlierWave", "(I)Z"⟩, 7) := ⟨⟨by decide +kernel, by decide +kernel⟩, List.mem_of_getElem? (i := 152) (by decide +kernel), List.mem_of_getElem? (i := 352) (by decide +kernel), List.mem_of_getElem? (i := 353) (by decide +kernel)⟩
theorem lw_p26 : lw_okq (⟨"LeastBars$Losses", "loseStuck", "(LLeastBars$Net;)V"⟩, 7) := ⟨⟨by decide +kernel, by decide +kernel⟩, List.mem_of_getElem? (i := 152) (by decide +kernel), List.mem_of_getElem? (i := 356) (by decide +kernel), List.mem_of_getElem? (i := 357) (by decide +kernel)⟩
theorem lw_p27 : lw_okq (⟨"LeastBars$Net", "measure", "([I)V"⟩, 15) := ⟨⟨by decide +kernel, by decide +kernel⟩, List.mem_of_getElem? (i := 92) (by decide +kernel), List.mem_of_getElem? (i := 360) (by decide +kernel), List.mem_of_getElem? (i := 361) (by decide +kernel)⟩
theorem lw_p28 : lw_okq (⟨"LeastBars$Net", "enqueue", "(II)V"⟩, 15) := ⟨⟨by decide +kernel, by decide +kernel⟩, List.mem_of_getElem? (i := 92) (by decide +kernel), List.mem_of_getElem? (i := 364) (by decide +kernel), List.mem_of_getElem? (i := 365) (by decide +kernel)⟩
theorem lw_p29 : lw_okq (⟨"LeastBars$Net", "measureBackFrom", "(I[I)V"⟩, 15) := ⟨⟨by decide +kernel, by decide +kernel⟩, List.mem_of_getElem? (i := 92) (by decide +kernel), List.mem_of_getElem? (i := 368) (by decide +kernel), List.mem_of_getElem? (i := 369) (by decide +kernel)⟩
theorem lw_p30 : lw_okq (⟨"LeastBars$Net", "farOf", "(I)I"⟩, 15) := ⟨⟨by decide +kernel, by decide +kernel⟩, List.mem_of_getElem? (i := 92) (by decide +kernel), List.mem_of_getElem? (i := 372) (by decide +kernel), List.mem_of_getElem? (i := 373) (by decide +kernel)⟩
theorem lw_p31 : lw_okq (⟨"LeastBars$Control", "spread", "(LLeastBars$Net;LLeastBars$Losses;)V"⟩, 6) := ⟨⟨by decide +kernel, by decide +kernel⟩, List.mem_of_getElem? (i := 182) (by decide +kernel), List.mem_of_getElem? (i := 376) (by decide +kernel), List.mem_of_getElem? (i := 377) (by decide +kernel)⟩
def lw_privs_2 : List (MethodName × Nat) := [(⟨"LeastBars$Losses", "loseClashing", "(LLeastBars$Net;I)V"⟩, 7), (⟨"LeastBars$Net", "clashSet", "(II)I"⟩, 15), (⟨"LeastBars$Losses", "lose", "(IIII)V"⟩, 7), (⟨"LeastBars$Losses", "losePushed", "(LLeastBars$Net;I)V"⟩, 7), (⟨"LeastBars$Net", "leadSet", "(I)I"⟩, 15), (⟨"LeastBars$Losses", "isLost", "(I)Z"⟩, 7), (⟨"LeastBars$Losses", "waveOf", "(I)I"⟩, 7), (⟨"LeastBars$Losses", "losePushedBy", "(LLeastBars$Net;II)V"⟩, 7), (⟨"LeastBars$Net", "target", "(II)I"⟩, 15), (⟨"LeastBars$Losses", "isLostInEarlierWave", "(I)Z"⟩, 7), (⟨"LeastBars$Losses", "loseStuck", "(LLeastBars$Net;)V"⟩, 7), (⟨"LeastBars$Net", "measure", "([I)V"⟩, 15), (⟨"LeastBars$Net", "enqueue", "(II)V"⟩, 15), (⟨"LeastBars$Net", "measureBackFrom", "(I[I)V"⟩, 15), (⟨"LeastBars$Net", "farOf", "(I)I"⟩, 15), (⟨"LeastBars$Control", "spread", "(LLeastBars$Net;LLeastBars$Losses;)V"⟩, 6)]
theorem lw_r2 : ∀ q ∈ lw_privs_2, lw_okq q := List.forall_mem_cons.mpr ⟨lw_p16, List.forall_mem_cons.mpr ⟨lw_p17, List.forall_mem_cons.mpr ⟨lw_p18, List.forall_mem_cons.mpr ⟨lw_p19, List.forall_mem_cons.mpr ⟨lw_p20, List.forall_mem_cons.mpr ⟨lw_p21, List.forall_mem_cons.mpr ⟨lw_p22, List.forall_mem_cons.mpr ⟨lw_p23, List.forall_mem_cons.mpr ⟨lw_p24, List.forall_mem_cons.mpr ⟨lw_p25, List.forall_mem_cons.mpr ⟨lw_p26, List.forall_mem_cons.mpr ⟨lw_p27, List.forall_mem_cons.mpr ⟨lw_p28, List.forall_mem_cons.mpr ⟨lw_p29, List.forall_mem_cons.mpr ⟨lw_p30, List.forall_mem_cons.mpr ⟨lw_p31, fun _ h => absurd h List.not_mem_nil⟩⟩⟩⟩⟩⟩⟩⟩⟩⟩⟩⟩⟩⟩⟩⟩
theorem lw_p32 : lw_okq (⟨"LeastBars$Control", "comeTo", "(III)V"⟩, 6) := ⟨⟨by decide +kernel, by decide +kernel⟩, List.mem_of_getElem? (i := 182) (by decide +kernel), List.mem_of_getElem? (i := 383) (by decide +kernel), List.mem_of_getElem? (i := 384) (by decide +kernel)⟩
theorem lw_p33 : lw_okq (⟨"LeastBars$Control", "spreadFrom", "(ILLeastBars$Net;LLeastBars$Losses;)V"⟩, 6) := ⟨⟨by decide +kernel, by decide +kernel⟩, List.mem_of_getElem? (i := 182) (by decide +kernel), List.mem_of_getElem? (i := 387) (by decide +kernel), List.mem_of_getElem? (i := 388) (by decide +kernel)⟩
theorem lw_p34 : lw_okq (⟨"LeastBars$Control", "holds", "(I)Z"⟩, 6) := ⟨⟨by decide +kernel, by decide +kernel⟩, List.mem_of_getElem? (i := 182) (by decide +kernel), List.mem_of_getElem? (i := 395) (by decide +kernel), List.mem_of_getElem? (i := 396) (by decide +kernel)⟩
theorem lw_p35 : lw_okq (⟨"LeastBars$Control", "depthOf", "(I)I"⟩, 6) := ⟨⟨by decide +kernel, by decide +kernel⟩, List.mem_of_getElem? (i := 182) (by decide +kernel), List.mem_of_getElem? (i := 399) (by decide +kernel), List.mem_of_getElem? (i := 400) (by decide +kernel)⟩
theorem lw_p36 : lw_okq (⟨"LeastBars$Trail", "begin", "()V"⟩, 4) := ⟨⟨by decide +kernel, by decide +kernel⟩, List.mem_of_getElem? (i := 209) (by decide +kernel), List.mem_of_getElem? (i := 409) (by decide +kernel), List.mem_of_getElem? (i := 410) (by decide +kernel)⟩
theorem lw_p37 : lw_okq (⟨"LeastBars$Tape", "put", "(I)Z"⟩, 2) := ⟨⟨by decide +kernel, by decide +kernel⟩, List.mem_of_getElem? (i := 22) (by decide +kernel), List.mem_of_getElem? (i := 454) (by decide +kernel), List.mem_of_getElem? (i := 455) (by decide +kernel)⟩
theorem lw_p38 : lw_okq (⟨"LeastBars$Tape", "clear", "()V"⟩, 2) := ⟨⟨by decide +kernel, by decide +kernel⟩, List.mem_of_getElem? (i := 22) (by decide +kernel), List.mem_of_getElem? (i := 462) (by decide +kernel), List.mem_of_getElem? (i := 463) (by decide +kernel)⟩
theorem lw_p39 : lw_okq (⟨"LeastBars$Reader", "read", "(LLeastBars$Tape;LLeastBars$Machine;I)I"⟩, 3) := ⟨⟨by decide +kernel, by decide +kernel⟩, List.mem_of_getElem? (i := 39) (by decide +kernel), List.mem_of_getElem? (i := 470) (by decide +kernel), List.mem_of_getElem? (i := 471) (by decide +kernel)⟩
theorem lw_p40 : lw_okq (⟨"LeastBars$Machine", "clear", "(I)V"⟩, 7) := ⟨⟨by decide +kernel, by decide +kernel⟩, List.mem_of_getElem? (i := 56) (by decide +kernel), List.mem_of_getElem? (i := 474) (by decide +kernel), List.mem_of_getElem? (i := 475) (by decide +kernel)⟩
theorem lw_p41 : lw_okq (⟨"LeastBars$Reader", "takes", "(ILLeastBars$Machine;)Z"⟩, 3) := ⟨⟨by decide +kernel, by decide +kernel⟩, List.mem_of_getElem? (i := 39) (by decide +kernel), List.mem_of_getElem? (i := 479) (by decide +kernel), List.mem_of_getElem? (i := 480) (by decide +kernel)⟩
theorem lw_p42 : lw_okq (⟨"LeastBars$Reader", "opensItem", "(I)Z"⟩, 3) := ⟨⟨by decide +kernel, by decide +kernel⟩, List.mem_of_getElem? (i := 39) (by decide +kernel), List.mem_of_getElem? (i := 483) (by decide +kernel), List.mem_of_getElem? (i := 484) (by decide +kernel)⟩
theorem lw_p43 : lw_okq (⟨"LeastBars$Reader", "takesLetter", "(I)Z"⟩, 3) := ⟨⟨by decide +kernel, by decide +kernel⟩, List.mem_of_getElem? (i := 39) (by decide +kernel), List.mem_of_getElem? (i := 488) (by decide +kernel), List.mem_of_getElem? (i := 489) (by decide +kernel)⟩
theorem lw_p44 : lw_okq (⟨"LeastBars$Reader", "takesFigure", "(ILLeastBars$Machine;)Z"⟩, 3) := ⟨⟨by decide +kernel, by decide +kernel⟩, List.mem_of_getElem? (i := 39) (by decide +kernel), List.mem_of_getElem? (i := 493) (by decide +kernel), List.mem_of_getElem? (i := 494) (by decide +kernel)⟩
theorem lw_p45 : lw_okq (⟨"LeastBars$Machine", "tellStep", "(III)Z"⟩, 7) := ⟨⟨by decide +kernel, by decide +kernel⟩, List.mem_of_getElem? (i := 56) (by decide +kernel), List.mem_of_getElem? (i := 497) (by decide +kernel), List.mem_of_getElem? (i := 498) (by decide +kernel)⟩
theorem lw_p46 : lw_okq (⟨"LeastBars$Reader", "takesMark", "(ILLeastBars$Machine;)Z"⟩, 3) := ⟨⟨by decide +kernel, by decide +kernel⟩, List.mem_of_getElem? (i := 39) (by decide +kernel), List.mem_of_getElem? (i := 504) (by decide +kernel), List.mem_of_getElem? (i := 505) (by decide +kernel)⟩
theorem lw_p47 : lw_okq (⟨"LeastBars$Machine", "tellMarked", "(I)Z"⟩, 7) := ⟨⟨by decide +kernel, by decide +kernel⟩, List.mem_of_getElem? (i := 56) (by decide +kernel), List.mem_of_getElem? (i := 508) (by decide +kernel), List.mem_of_getElem? (i := 509) (by decide +kernel)⟩
def lw_privs_3 : List (MethodName × Nat) := [(⟨"LeastBars$Control", "comeTo", "(III)V"⟩, 6), (⟨"LeastBars$Control", "spreadFrom", "(ILLeastBars$Net;LLeastBars$Losses;)V"⟩, 6), (⟨"LeastBars$Control", "holds", "(I)Z"⟩, 6), (⟨"LeastBars$Control", "depthOf", "(I)I"⟩, 6), (⟨"LeastBars$Trail", "begin", "()V"⟩, 4), (⟨"LeastBars$Tape", "put", "(I)Z"⟩, 2), (⟨"LeastBars$Tape", "clear", "()V"⟩, 2), (⟨"LeastBars$Reader", "read", "(LLeastBars$Tape;LLeastBars$Machine;I)I"⟩, 3), (⟨"LeastBars$Machine", "clear", "(I)V"⟩, 7), (⟨"LeastBars$Reader", "takes", "(ILLeastBars$Machine;)Z"⟩, 3), (⟨"LeastBars$Reader", "opensItem", "(I)Z"⟩, 3), (⟨"LeastBars$Reader", "takesLetter", "(I)Z"⟩, 3), (⟨"LeastBars$Reader", "takesFigure", "(ILLeastBars$Machine;)Z"⟩, 3), (⟨"LeastBars$Machine", "tellStep", "(III)Z"⟩, 7), (⟨"LeastBars$Reader", "takesMark", "(ILLeastBars$Machine;)Z"⟩, 3), (⟨"LeastBars$Machine", "tellMarked", "(I)Z"⟩, 7)]
theorem lw_r3 : ∀ q ∈ lw_privs_3, lw_okq q := List.forall_mem_cons.mpr ⟨lw_p32, List.forall_mem_cons.mpr ⟨lw_p33, List.forall_mem_cons.mpr ⟨lw_p34, List.forall_mem_cons.mpr ⟨lw_p35, List.forall_mem_cons.mpr ⟨lw_p36, List.forall_mem_cons.mpr ⟨lw_p37, List.forall_mem_cons.mpr ⟨lw_p38, List.forall_mem_cons.mpr ⟨lw_p39, List.forall_mem_cons.mpr ⟨lw_p40, List.forall_mem_cons.mpr ⟨lw_p41, List.forall_mem_cons.mpr ⟨lw_p42, List.forall_mem_cons.mpr ⟨lw_p43, List.forall_mem_cons.mpr ⟨lw_p44, List.forall_mem_cons.mpr ⟨lw_p45, List.forall_mem_cons.mpr ⟨lw_p46, List.forall_mem_cons.mpr ⟨lw_p47, fun _ h => absurd h List.not_mem_nil⟩⟩⟩⟩⟩⟩⟩⟩⟩⟩⟩⟩⟩⟩⟩⟩
theorem lw_p48 : lw_okq (⟨"LeastBars$Reader", "takesName", "(ILLeastBars$Machine;)Z"⟩, 3) := ⟨⟨by decide +kernel, by decide +kernel⟩, List.mem_of_getElem? (i := 39) (by decide +kernel), List.mem_of_getElem? (i := 512) (by decide +kernel), List.mem_of_getElem? (i := 513) (by decide +kernel)⟩
theorem lw_p49 : lw_okq (⟨"LeastBars$Machine", "tellEvent", "(I)Z"⟩, 7) := ⟨⟨by decide +kernel, by decide +kernel⟩, List.mem_of_getElem? (i := 56) (by decide +kernel), List.mem_of_getElem? (i := 516) (by decide +kernel), List.mem_of_getElem? (i := 517) (by decide +kernel)⟩
theorem lw_p50 : lw_okq (⟨"LeastBars$Reader", "takesBlank", "(I)Z"⟩, 3) := ⟨⟨by decide +kernel, by decide +kernel⟩, List.mem_of_getElem? (i := 39) (by decide +kernel), List.mem_of_getElem? (i := 520) (by decide +kernel), List.mem_of_getElem? (i := 521) (by decide +kernel)⟩
theorem lw_p51 : lw_okq (⟨"LeastBars", "isMachine", "(I)Z"⟩, 12) := ⟨⟨by decide +kernel, by decide +kernel⟩, List.mem_of_getElem? (i := 14) (by decide +kernel), List.mem_of_getElem? (i := 541) (by decide +kernel), List.mem_of_getElem? (i := 542) (by decide +kernel)⟩
theorem lw_p52 : lw_okq (⟨"LeastBars$Net", "isFinished", "(I)Z"⟩, 15) := ⟨⟨by decide +kernel, by decide +kernel⟩, List.mem_of_getElem? (i := 92) (by decide +kernel), List.mem_of_getElem? (i := 566) (by decide +kernel), List.mem_of_getElem? (i := 567) (by decide +kernel)⟩
theorem lw_p53 : lw_okq (⟨"LeastBars$Control", "barredSet", "(I)I"⟩, 6) := ⟨⟨by decide +kernel, by decide +kernel⟩, List.mem_of_getElem? (i := 182) (by decide +kernel), List.mem_of_getElem? (i := 575) (by decide +kernel), List.mem_of_getElem? (i := 576) (by decide +kernel)⟩
theorem lw_p54 : lw_okq (⟨"LeastBars$Losses", "linkBehind", "(II)I"⟩, 7) := ⟨⟨by decide +kernel, by decide +kernel⟩, List.mem_of_getElem? (i := 152) (by decide +kernel), List.mem_of_getElem? (i := 583) (by decide +kernel), List.mem_of_getElem? (i := 584) (by decide +kernel)⟩
theorem lw_p55 : lw_okq (⟨"LeastBars$Losses", "reasonOf", "(I)I"⟩, 7) := ⟨⟨by decide +kernel, by decide +kernel⟩, List.mem_of_getElem? (i := 152) (by decide +kernel), List.mem_of_getElem? (i := 587) (by decide +kernel), List.mem_of_getElem? (i := 588) (by decide +kernel)⟩
theorem lw_p56 : lw_okq (⟨"LeastBars$Losses", "eventOf", "(I)I"⟩, 7) := ⟨⟨by decide +kernel, by decide +kernel⟩, List.mem_of_getElem? (i := 152) (by decide +kernel), List.mem_of_getElem? (i := 591) (by decide +kernel), List.mem_of_getElem? (i := 592) (by decide +kernel)⟩
theorem lw_p57 : lw_okq (⟨"LeastBars$Losses", "hasWave", "(I)Z"⟩, 7) := ⟨⟨by decide +kernel, by decide +kernel⟩, List.mem_of_getElem? (i := 152) (by decide +kernel), List.mem_of_getElem? (i := 599) (by decide +kernel), List.mem_of_getElem? (i := 600) (by decide +kernel)⟩
theorem lw_p58 : lw_okq (⟨"LeastBars$Losses", "sizeOfWave", "(I)I"⟩, 7) := ⟨⟨by decide +kernel, by decide +kernel⟩, List.mem_of_getElem? (i := 152) (by decide +kernel), List.mem_of_getElem? (i := 603) (by decide +kernel), List.mem_of_getElem? (i := 604) (by decide +kernel)⟩
theorem lw_p59 : lw_okq (⟨"LeastBars", "joinPart", "(I)V"⟩, 12) := ⟨⟨by decide +kernel, by decide +kernel⟩, List.mem_of_getElem? (i := 14) (by decide +kernel), List.mem_of_getElem? (i := 611) (by decide +kernel), List.mem_of_getElem? (i := 612) (by decide +kernel)⟩
theorem lw_p60 : lw_okq (⟨"LeastBars$Net", "countStuck", "()I"⟩, 15) := ⟨⟨by decide +kernel, by decide +kernel⟩, List.mem_of_getElem? (i := 92) (by decide +kernel), List.mem_of_getElem? (i := 616) (by decide +kernel), List.mem_of_getElem? (i := 617) (by decide +kernel)⟩
theorem lw_p61 : lw_okq (⟨"LeastBars$Trail", "moveTo", "(I)V"⟩, 4) := ⟨⟨by decide +kernel, by decide +kernel⟩, List.mem_of_getElem? (i := 209) (by decide +kernel), List.mem_of_getElem? (i := 624) (by decide +kernel), List.mem_of_getElem? (i := 625) (by decide +kernel)⟩
theorem lw_p62 : lw_okq (⟨"LeastBars$Trail", "turnBack", "()Z"⟩, 4) := ⟨⟨by decide +kernel, by decide +kernel⟩, List.mem_of_getElem? (i := 209) (by decide +kernel), List.mem_of_getElem? (i := 635) (by decide +kernel), List.mem_of_getElem? (i := 636) (by decide +kernel)⟩
theorem lw_p63 : lw_okq (⟨"LeastBars$Net", "eventToFinish", "(II)I"⟩, 15) := ⟨⟨by decide +kernel, by decide +kernel⟩, List.mem_of_getElem? (i := 92) (by decide +kernel), List.mem_of_getElem? (i := 654) (by decide +kernel), List.mem_of_getElem? (i := 655) (by decide +kernel)⟩
def lw_privs_4 : List (MethodName × Nat) := [(⟨"LeastBars$Reader", "takesName", "(ILLeastBars$Machine;)Z"⟩, 3), (⟨"LeastBars$Machine", "tellEvent", "(I)Z"⟩, 7), (⟨"LeastBars$Reader", "takesBlank", "(I)Z"⟩, 3), (⟨"LeastBars", "isMachine", "(I)Z"⟩, 12), (⟨"LeastBars$Net", "isFinished", "(I)Z"⟩, 15), (⟨"LeastBars$Control", "barredSet", "(I)I"⟩, 6), (⟨"LeastBars$Losses", "linkBehind", "(II)I"⟩, 7), (⟨"LeastBars$Losses", "reasonOf", "(I)I"⟩, 7), (⟨"LeastBars$Losses", "eventOf", "(I)I"⟩, 7), (⟨"LeastBars$Losses", "hasWave", "(I)Z"⟩, 7), (⟨"LeastBars$Losses", "sizeOfWave", "(I)I"⟩, 7), (⟨"LeastBars", "joinPart", "(I)V"⟩, 12), (⟨"LeastBars$Net", "countStuck", "()I"⟩, 15), (⟨"LeastBars$Trail", "moveTo", "(I)V"⟩, 4), (⟨"LeastBars$Trail", "turnBack", "()Z"⟩, 4), (⟨"LeastBars$Net", "eventToFinish", "(II)I"⟩, 15)]
theorem lw_r4 : ∀ q ∈ lw_privs_4, lw_okq q := List.forall_mem_cons.mpr ⟨lw_p48, List.forall_mem_cons.mpr ⟨lw_p49, List.forall_mem_cons.mpr ⟨lw_p50, List.forall_mem_cons.mpr ⟨lw_p51, List.forall_mem_cons.mpr ⟨lw_p52, List.forall_mem_cons.mpr ⟨lw_p53, List.forall_mem_cons.mpr ⟨lw_p54, List.forall_mem_cons.mpr ⟨lw_p55, List.forall_mem_cons.mpr ⟨lw_p56, List.forall_mem_cons.mpr ⟨lw_p57, List.forall_mem_cons.mpr ⟨lw_p58, List.forall_mem_cons.mpr ⟨lw_p59, List.forall_mem_cons.mpr ⟨lw_p60, List.forall_mem_cons.mpr ⟨lw_p61, List.forall_mem_cons.mpr ⟨lw_p62, List.forall_mem_cons.mpr ⟨lw_p63, fun _ h => absurd h List.not_mem_nil⟩⟩⟩⟩⟩⟩⟩⟩⟩⟩⟩⟩⟩⟩⟩⟩
theorem lw_p64 : lw_okq (⟨"LeastBars$Net", "nearerBy", "(I)I"⟩, 15) := ⟨⟨by decide +kernel, by decide +kernel⟩, List.mem_of_getElem? (i := 92) (by decide +kernel), List.mem_of_getElem? (i := 658) (by decide +kernel), List.mem_of_getElem? (i := 659) (by decide +kernel)⟩
theorem lw_p65 : lw_okq (⟨"LeastBars$Control", "eventTo", "(II)I"⟩, 6) := ⟨⟨by decide +kernel, by decide +kernel⟩, List.mem_of_getElem? (i := 182) (by decide +kernel), List.mem_of_getElem? (i := 669) (by decide +kernel), List.mem_of_getElem? (i := 670) (by decide +kernel)⟩
theorem lw_p66 : lw_okq (⟨"LeastBarsModel", "reads", "(I)Z"⟩, 25) := ⟨⟨by decide +kernel, by decide +kernel⟩, List.mem_of_getElem? (i := 677) (by decide +kernel), List.mem_of_getElem? (i := 774) (by decide +kernel), List.mem_of_getElem? (i := 775) (by decide +kernel)⟩
theorem lw_p67 : lw_okq (⟨"LeastBarsModel", "readsItem", "(I)Z"⟩, 25) := ⟨⟨by decide +kernel, by decide +kernel⟩, List.mem_of_getElem? (i := 677) (by decide +kernel), List.mem_of_getElem? (i := 778) (by decide +kernel), List.mem_of_getElem? (i := 779) (by decide +kernel)⟩
theorem lw_p68 : lw_okq (⟨"LeastBarsModel", "isFigure", "()Z"⟩, 25) := ⟨⟨by decide +kernel, by decide +kernel⟩, List.mem_of_getElem? (i := 677) (by decide +kernel), List.mem_of_getElem? (i := 782) (by decide +kernel), List.mem_of_getElem? (i := 783) (by decide +kernel)⟩
theorem lw_p69 : lw_okq (⟨"LeastBarsModel", "codeHere", "()I"⟩, 25) := ⟨⟨by decide +kernel, by decide +kernel⟩, List.mem_of_getElem? (i := 677) (by decide +kernel), List.mem_of_getElem? (i := 786) (by decide +kernel), List.mem_of_getElem? (i := 787) (by decide +kernel)⟩
theorem lw_p70 : lw_okq (⟨"LeastBarsModel", "readsStep", "(I)Z"⟩, 25) := ⟨⟨by decide +kernel, by decide +kernel⟩, List.mem_of_getElem? (i := 677) (by decide +kernel), List.mem_of_getElem? (i := 790) (by decide +kernel), List.mem_of_getElem? (i := 791) (by decide +kernel)⟩
theorem lw_p71 : lw_okq (⟨"LeastBarsModel", "isLetter", "()Z"⟩, 25) := ⟨⟨by decide +kernel, by decide +kernel⟩, List.mem_of_getElem? (i := 677) (by decide +kernel), List.mem_of_getElem? (i := 794) (by decide +kernel), List.mem_of_getElem? (i := 795) (by decide +kernel)⟩
theorem lw_p72 : lw_okq (⟨"LeastBarsModel", "names", "(II)V"⟩, 25) := ⟨⟨by decide +kernel, by decide +kernel⟩, List.mem_of_getElem? (i := 677) (by decide +kernel), List.mem_of_getElem? (i := 801) (by decide +kernel), List.mem_of_getElem? (i := 802) (by decide +kernel)⟩
theorem lw_p73 : lw_okq (⟨"LeastBarsModel", "begins", "()V"⟩, 25) := ⟨⟨by decide +kernel, by decide +kernel⟩, List.mem_of_getElem? (i := 677) (by decide +kernel), List.mem_of_getElem? (i := 805) (by decide +kernel), List.mem_of_getElem? (i := 806) (by decide +kernel)⟩
theorem lw_p74 : lw_okq (⟨"LeastBarsModel", "isMachine", "(I)Z"⟩, 25) := ⟨⟨by decide +kernel, by decide +kernel⟩, List.mem_of_getElem? (i := 677) (by decide +kernel), List.mem_of_getElem? (i := 831) (by decide +kernel), List.mem_of_getElem? (i := 832) (by decide +kernel)⟩
theorem lw_p75 : lw_okq (⟨"LeastBarsModel", "isJoint", "(I)Z"⟩, 25) := ⟨⟨by decide +kernel, by decide +kernel⟩, List.mem_of_getElem? (i := 677) (by decide +kernel), List.mem_of_getElem? (i := 843) (by decide +kernel), List.mem_of_getElem? (i := 844) (by decide +kernel)⟩
theorem lw_p76 : lw_okq (⟨"LeastBarsModel", "knows", "()V"⟩, 25) := ⟨⟨by decide +kernel, by decide +kernel⟩, List.mem_of_getElem? (i := 677) (by decide +kernel), List.mem_of_getElem? (i := 847) (by decide +kernel), List.mem_of_getElem? (i := 848) (by decide +kernel)⟩
theorem lw_p77 : lw_okq (⟨"LeastBarsModel", "all", "()I"⟩, 25) := ⟨⟨by decide +kernel, by decide +kernel⟩, List.mem_of_getElem? (i := 677) (by decide +kernel), List.mem_of_getElem? (i := 851) (by decide +kernel), List.mem_of_getElem? (i := 852) (by decide +kernel)⟩
theorem lw_p78 : lw_okq (⟨"LeastBarsModel", "builds", "(I)Z"⟩, 25) := ⟨⟨by decide +kernel, by decide +kernel⟩, List.mem_of_getElem? (i := 677) (by decide +kernel), List.mem_of_getElem? (i := 855) (by decide +kernel), List.mem_of_getElem? (i := 856) (by decide +kernel)⟩
theorem lw_p79 : lw_okq (⟨"LeastBarsModel", "led", "(III)I"⟩, 25) := ⟨⟨by decide +kernel, by decide +kernel⟩, List.mem_of_getElem? (i := 677) (by decide +kernel), List.mem_of_getElem? (i := 859) (by decide +kernel), List.mem_of_getElem? (i := 860) (by decide +kernel)⟩
def lw_privs_5 : List (MethodName × Nat) := [(⟨"LeastBars$Net", "nearerBy", "(I)I"⟩, 15), (⟨"LeastBars$Control", "eventTo", "(II)I"⟩, 6), (⟨"LeastBarsModel", "reads", "(I)Z"⟩, 25), (⟨"LeastBarsModel", "readsItem", "(I)Z"⟩, 25), (⟨"LeastBarsModel", "isFigure", "()Z"⟩, 25), (⟨"LeastBarsModel", "codeHere", "()I"⟩, 25), (⟨"LeastBarsModel", "readsStep", "(I)Z"⟩, 25), (⟨"LeastBarsModel", "isLetter", "()Z"⟩, 25), (⟨"LeastBarsModel", "names", "(II)V"⟩, 25), (⟨"LeastBarsModel", "begins", "()V"⟩, 25), (⟨"LeastBarsModel", "isMachine", "(I)Z"⟩, 25), (⟨"LeastBarsModel", "isJoint", "(I)Z"⟩, 25), (⟨"LeastBarsModel", "knows", "()V"⟩, 25), (⟨"LeastBarsModel", "all", "()I"⟩, 25), (⟨"LeastBarsModel", "builds", "(I)Z"⟩, 25), (⟨"LeastBarsModel", "led", "(III)I"⟩, 25)]
theorem lw_r5 : ∀ q ∈ lw_privs_5, lw_okq q := List.forall_mem_cons.mpr ⟨lw_p64, List.forall_mem_cons.mpr ⟨lw_p65, List.forall_mem_cons.mpr ⟨lw_p66, List.forall_mem_cons.mpr ⟨lw_p67, List.forall_mem_cons.mpr ⟨lw_p68, List.forall_mem_cons.mpr ⟨lw_p69, List.forall_mem_cons.mpr ⟨lw_p70, List.forall_mem_cons.mpr ⟨lw_p71, List.forall_mem_cons.mpr ⟨lw_p72, List.forall_mem_cons.mpr ⟨lw_p73, List.forall_mem_cons.mpr ⟨lw_p74, List.forall_mem_cons.mpr ⟨lw_p75, List.forall_mem_cons.mpr ⟨lw_p76, List.forall_mem_cons.mpr ⟨lw_p77, List.forall_mem_cons.mpr ⟨lw_p78, List.forall_mem_cons.mpr ⟨lw_p79, fun _ h => absurd h List.not_mem_nil⟩⟩⟩⟩⟩⟩⟩⟩⟩⟩⟩⟩⟩⟩⟩⟩
theorem lw_p80 : lw_okq (⟨"LeastBarsModel", "numberOf", "(I)I"⟩, 25) := ⟨⟨by decide +kernel, by decide +kernel⟩, List.mem_of_getElem? (i := 677) (by decide +kernel), List.mem_of_getElem? (i := 866) (by decide +kernel), List.mem_of_getElem? (i := 867) (by decide +kernel)⟩
theorem lw_p81 : lw_okq (⟨"LeastBarsModel", "losesClashes", "()V"⟩, 25) := ⟨⟨by decide +kernel, by decide +kernel⟩, List.mem_of_getElem? (i := 677) (by decide +kernel), List.mem_of_getElem? (i := 870) (by decide +kernel), List.mem_of_getElem? (i := 871) (by decide +kernel)⟩
theorem lw_p82 : lw_okq (⟨"LeastBarsModel", "clashes", "(II)Z"⟩, 25) := ⟨⟨by decide +kernel, by decide +kernel⟩, List.mem_of_getElem? (i := 677) (by decide +kernel), List.mem_of_getElem? (i := 874) (by decide +kernel), List.mem_of_getElem? (i := 875) (by decide +kernel)⟩
theorem lw_p83 : lw_okq (⟨"LeastBarsModel", "loses", "(IIII)V"⟩, 25) := ⟨⟨by decide +kernel, by decide +kernel⟩, List.mem_of_getElem? (i := 677) (by decide +kernel), List.mem_of_getElem? (i := 878) (by decide +kernel), List.mem_of_getElem? (i := 879) (by decide +kernel)⟩
theorem lw_p84 : lw_okq (⟨"LeastBarsModel", "losesPushed", "(I)Z"⟩, 25) := ⟨⟨by decide +kernel, by decide +kernel⟩, List.mem_of_getElem? (i := 677) (by decide +kernel), List.mem_of_getElem? (i := 882) (by decide +kernel), List.mem_of_getElem? (i := 883) (by decide +kernel)⟩
theorem lw_p85 : lw_okq (⟨"LeastBarsModel", "pushes", "(II)I"⟩, 25) := ⟨⟨by decide +kernel, by decide +kernel⟩, List.mem_of_getElem? (i := 677) (by decide +kernel), List.mem_of_getElem? (i := 886) (by decide +kernel), List.mem_of_getElem? (i := 887) (by decide +kernel)⟩
theorem lw_p86 : lw_okq (⟨"LeastBarsModel", "losesStuck", "(I)Z"⟩, 25) := ⟨⟨by decide +kernel, by decide +kernel⟩, List.mem_of_getElem? (i := 677) (by decide +kernel), List.mem_of_getElem? (i := 890) (by decide +kernel), List.mem_of_getElem? (i := 891) (by decide +kernel)⟩
theorem lw_p87 : lw_okq (⟨"LeastBarsModel", "findEnds", "(I)V"⟩, 25) := ⟨⟨by decide +kernel, by decide +kernel⟩, List.mem_of_getElem? (i := 677) (by decide +kernel), List.mem_of_getElem? (i := 894) (by decide +kernel), List.mem_of_getElem? (i := 895) (by decide +kernel)⟩
theorem lw_p88 : lw_okq (⟨"LeastBarsModel", "isFinished", "(II)Z"⟩, 25) := ⟨⟨by decide +kernel, by decide +kernel⟩, List.mem_of_getElem? (i := 677) (by decide +kernel), List.mem_of_getElem? (i := 898) (by decide +kernel), List.mem_of_getElem? (i := 899) (by decide +kernel)⟩
theorem lw_p89 : lw_okq (⟨"LeastBarsModel", "findControlled", "()V"⟩, 25) := ⟨⟨by decide +kernel, by decide +kernel⟩, List.mem_of_getElem? (i := 677) (by decide +kernel), List.mem_of_getElem? (i := 902) (by decide +kernel), List.mem_of_getElem? (i := 903) (by decide +kernel)⟩
theorem lw_p90 : lw_okq (⟨"LeastBarsModel", "eventsAt", "(II)I"⟩, 25) := ⟨⟨by decide +kernel, by decide +kernel⟩, List.mem_of_getElem? (i := 677) (by decide +kernel), List.mem_of_getElem? (i := 914) (by decide +kernel), List.mem_of_getElem? (i := 915) (by decide +kernel)⟩
theorem lw_p91 : lw_okq (⟨"LeastBarsModel", "isBarred", "(II)Z"⟩, 25) := ⟨⟨by decide +kernel, by decide +kernel⟩, List.mem_of_getElem? (i := 677) (by decide +kernel), List.mem_of_getElem? (i := 918) (by decide +kernel), List.mem_of_getElem? (i := 919) (by decide +kernel)⟩
theorem lw_p92 : lw_okq (⟨"LeastBarsModel", "isShut", "()Z"⟩, 25) := ⟨⟨by decide +kernel, by decide +kernel⟩, List.mem_of_getElem? (i := 677) (by decide +kernel), List.mem_of_getElem? (i := 938) (by decide +kernel), List.mem_of_getElem? (i := 939) (by decide +kernel)⟩
theorem lw_p93 : lw_okq (⟨"LeastBarsModel", "findFar", "()V"⟩, 25) := ⟨⟨by decide +kernel, by decide +kernel⟩, List.mem_of_getElem? (i := 677) (by decide +kernel), List.mem_of_getElem? (i := 957) (by decide +kernel), List.mem_of_getElem? (i := 958) (by decide +kernel)⟩
theorem lw_p94 : lw_okq (⟨"LeastBarsModel", "tellWord", "(II)I"⟩, 25) := ⟨⟨by decide +kernel, by decide +kernel⟩, List.mem_of_getElem? (i := 677) (by decide +kernel), List.mem_of_getElem? (i := 961) (by decide +kernel), List.mem_of_getElem? (i := 962) (by decide +kernel)⟩
theorem lw_p95 : lw_okq (⟨"LeastBarsModel", "nearer", "(I)I"⟩, 25) := ⟨⟨by decide +kernel, by decide +kernel⟩, List.mem_of_getElem? (i := 677) (by decide +kernel), List.mem_of_getElem? (i := 965) (by decide +kernel), List.mem_of_getElem? (i := 966) (by decide +kernel)⟩
def lw_privs_6 : List (MethodName × Nat) := [(⟨"LeastBarsModel", "numberOf", "(I)I"⟩, 25), (⟨"LeastBarsModel", "losesClashes", "()V"⟩, 25), (⟨"LeastBarsModel", "clashes", "(II)Z"⟩, 25), (⟨"LeastBarsModel", "loses", "(IIII)V"⟩, 25), (⟨"LeastBarsModel", "losesPushed", "(I)Z"⟩, 25), (⟨"LeastBarsModel", "pushes", "(II)I"⟩, 25), (⟨"LeastBarsModel", "losesStuck", "(I)Z"⟩, 25), (⟨"LeastBarsModel", "findEnds", "(I)V"⟩, 25), (⟨"LeastBarsModel", "isFinished", "(II)Z"⟩, 25), (⟨"LeastBarsModel", "findControlled", "()V"⟩, 25), (⟨"LeastBarsModel", "eventsAt", "(II)I"⟩, 25), (⟨"LeastBarsModel", "isBarred", "(II)Z"⟩, 25), (⟨"LeastBarsModel", "isShut", "()Z"⟩, 25), (⟨"LeastBarsModel", "findFar", "()V"⟩, 25), (⟨"LeastBarsModel", "tellWord", "(II)I"⟩, 25), (⟨"LeastBarsModel", "nearer", "(I)I"⟩, 25)]
theorem lw_r6 : ∀ q ∈ lw_privs_6, lw_okq q := List.forall_mem_cons.mpr ⟨lw_p80, List.forall_mem_cons.mpr ⟨lw_p81, List.forall_mem_cons.mpr ⟨lw_p82, List.forall_mem_cons.mpr ⟨lw_p83, List.forall_mem_cons.mpr ⟨lw_p84, List.forall_mem_cons.mpr ⟨lw_p85, List.forall_mem_cons.mpr ⟨lw_p86, List.forall_mem_cons.mpr ⟨lw_p87, List.forall_mem_cons.mpr ⟨lw_p88, List.forall_mem_cons.mpr ⟨lw_p89, List.forall_mem_cons.mpr ⟨lw_p90, List.forall_mem_cons.mpr ⟨lw_p91, List.forall_mem_cons.mpr ⟨lw_p92, List.forall_mem_cons.mpr ⟨lw_p93, List.forall_mem_cons.mpr ⟨lw_p94, List.forall_mem_cons.mpr ⟨lw_p95, fun _ h => absurd h List.not_mem_nil⟩⟩⟩⟩⟩⟩⟩⟩⟩⟩⟩⟩⟩⟩⟩⟩
def lw_privs : List (MethodName × Nat) := lw_privs_1 ++ (lw_privs_2 ++ (lw_privs_3 ++ (lw_privs_4 ++ (lw_privs_5 ++ (lw_privs_6)))))
def lw_tbl : List Cond := k2_sels lw_privs ++ tables_1
theorem lw_privs_ok : ∀ q ∈ lw_privs, lw_okq q := by
  show ∀ q ∈ lw_privs_1 ++ (lw_privs_2 ++ (lw_privs_3 ++ (lw_privs_4 ++ (lw_privs_5 ++ (lw_privs_6))))), lw_okq q
  exact List.forall_mem_append.mpr ⟨lw_r1, List.forall_mem_append.mpr ⟨lw_r2, List.forall_mem_append.mpr ⟨lw_r3, List.forall_mem_append.mpr ⟨lw_r4, List.forall_mem_append.mpr ⟨lw_r5, lw_r6⟩⟩⟩⟩⟩
end
section
/-! ===== BEGIN words of one list among another's, by their places ===== -/
theorem goodIn_r {big : List Cond} (ws : List Cond) (ps : List Nat) (hp : ws = ps.filterMap (fun i => big[i]?)) (h : ws.all goodWord = true) : GoodIn big ws := by
  intro w hw
  have h1 := List.all_eq_true.mp h w hw
  rw [hp] at hw
  obtain ⟨i, -, hi⟩ := List.mem_filterMap.mp hw
  have hm : w ∈ big := by first | exact List.mem_of_getElem? hi | exact List.getElem?_mem hi
  exact ⟨hm, good_of_word h1⟩
theorem goodIn_app {big a b : List Cond} (ha : GoodIn big a) (hb : GoodIn big b) : GoodIn big (a ++ b) := fun w h => (List.mem_append.mp h).elim (ha w) (hb w)
theorem goodIn_ca {big a b : List Cond} {c : Cond} (ha : GoodIn big (c :: a)) (hb : GoodIn big b) : GoodIn big (c :: (a ++ b)) := fun w h => (List.mem_cons.mp h).elim (fun e => ha w (List.mem_cons.mpr (Or.inl e))) (fun h => (List.mem_append.mp h).elim (fun h => ha w (List.mem_cons.mpr (Or.inr h))) (hb w))
theorem goodIn_sub {big ws : List Cond} (hm : ∀ w ∈ ws, w ∈ big) (h : ws.all goodWord = true) : GoodIn big ws := fun w hw => ⟨hm w hw, good_of_word (List.all_eq_true.mp h w hw)⟩
/-! ===== END ===== -/

/-! ===== BEGIN printed: names, fields, word lists, decode rows ===== -/
def RX0 : String := "LeastBars$Control"
def TX0 : u_T := fun k => match k with
  | 0 => ("LeastBars$Control", "depths", "[I", true)
  | 1 => ("LeastBars$Control", "edgesInto", "[I", true)
  | 2 => ("LeastBars$Control", "barredSets", "[I", true)
  | 3 => ("LeastBars$Control", "queue", "[I", true)
  | 4 => ("LeastBars$Control", "size", "I", false)
  | _ => ("LeastBars$Control", "bars", "I", false)
def tyX0 : Nat → FieldType := fun k => match k with
  | 0 => .array .int
  | 1 => .array .int
  | 2 => .array .int
  | 3 => .array .int
  | 4 => .int
  | _ => .int
abbrev wsX00 : List Cond := u_ws RX0 TX0 6
theorem nmX0 : ∀ a, a < 6 → ∀ b, b < 6 → a ≠ b → (TX0 a).2.1 ≠ (TX0 b).2.1 := by decide +kernel
theorem tyX0_ok : ∀ k, k < 6 → parseFieldDescriptor (TX0 k).2.2.1 = some (tyX0 k) := by decide +kernel
abbrev cX0_init : ByteArray := prog_2_method_1_code
def yX0_init : MethodName := ⟨RX0, "<init>", "()V"⟩
abbrev cX0_spread : ByteArray := prog_2_method_2_code
def yX0_spread : MethodName := ⟨RX0, "spread", "(LLeastBars$Net;LLeastBars$Losses;)V"⟩
abbrev cX0_spreadFrom : ByteArray := prog_2_method_3_code
def yX0_spreadFrom : MethodName := ⟨RX0, "spreadFrom", "(ILLeastBars$Net;LLeastBars$Losses;)V"⟩
abbrev cX0_comeTo : ByteArray := prog_2_method_4_code
def yX0_comeTo : MethodName := ⟨RX0, "comeTo", "(III)V"⟩
abbrev cX0_holds : ByteArray := prog_2_method_5_code
def yX0_holds : MethodName := ⟨RX0, "holds", "(I)Z"⟩
abbrev cX0_depthOf : ByteArray := prog_2_method_6_code
def yX0_depthOf : MethodName := ⟨RX0, "depthOf", "(I)I"⟩
abbrev cX0_barredSet : ByteArray := prog_2_method_7_code
def yX0_barredSet : MethodName := ⟨RX0, "barredSet", "(I)I"⟩
abbrev cX0_eventTo : ByteArray := prog_2_method_8_code
def yX0_eventTo : MethodName := ⟨RX0, "eventTo", "(II)I"⟩
def RX1 : String := "LeastBars$Losses"
def TX1 : u_T := fun k => match k with
  | 0 => ("LeastBars$Losses", "lostIn", "[I", true)
  | 1 => ("LeastBars$Losses", "reasons", "[I", true)
  | 2 => ("LeastBars$Losses", "events", "[I", true)
  | 3 => ("LeastBars$Losses", "causes", "[I", true)
  | 4 => ("LeastBars$Losses", "waveSizes", "[I", true)
  | 5 => ("LeastBars$Losses", "waves", "I", false)
  | _ => ("LeastBars$Losses", "lost", "I", false)
def tyX1 : Nat → FieldType := fun k => match k with
  | 0 => .array .int
  | 1 => .array .int
  | 2 => .array .int
  | 3 => .array .int
  | 4 => .array .int
  | 5 => .int
  | _ => .int
abbrev wsX10 : List Cond := u_ws RX1 TX1 7
theorem nmX1 : ∀ a, a < 7 → ∀ b, b < 7 → a ≠ b → (TX1 a).2.1 ≠ (TX1 b).2.1 := by decide +kernel
theorem tyX1_ok : ∀ k, k < 7 → parseFieldDescriptor (TX1 k).2.2.1 = some (tyX1 k) := by decide +kernel
abbrev cX1_init : ByteArray := prog_3_method_1_code
def yX1_init : MethodName := ⟨RX1, "<init>", "()V"⟩
abbrev cX1_sift : ByteArray := prog_3_method_2_code
def yX1_sift : MethodName := ⟨RX1, "sift", "(LLeastBars$Net;I)V"⟩
abbrev cX1_loseClashing : ByteArray := prog_3_method_3_code
def yX1_loseClashing : MethodName := ⟨RX1, "loseClashing", "(LLeastBars$Net;I)V"⟩
abbrev cX1_losePushed : ByteArray := prog_3_method_4_code
def yX1_losePushed : MethodName := ⟨RX1, "losePushed", "(LLeastBars$Net;I)V"⟩
abbrev cX1_losePushedBy : ByteArray := prog_3_method_5_code
def yX1_losePushedBy : MethodName := ⟨RX1, "losePushedBy", "(LLeastBars$Net;II)V"⟩
abbrev cX1_loseStuck : ByteArray := prog_3_method_6_code
def yX1_loseStuck : MethodName := ⟨RX1, "loseStuck", "(LLeastBars$Net;)V"⟩
abbrev cX1_lose : ByteArray := prog_3_method_7_code
def yX1_lose : MethodName := ⟨RX1, "lose", "(IIII)V"⟩
abbrev cX1_isLost : ByteArray := prog_3_method_8_code
def yX1_isLost : MethodName := ⟨RX1, "isLost", "(I)Z"⟩
abbrev cX1_isLostInEarlierWave : ByteArray := prog_3_method_9_code
def yX1_isLostInEarlierWave : MethodName := ⟨RX1, "isLostInEarlierWave", "(I)Z"⟩
abbrev cX1_waveOf : ByteArray := prog_3_method_10_code
def yX1_waveOf : MethodName := ⟨RX1, "waveOf", "(I)I"⟩
abbrev cX1_reasonOf : ByteArray := prog_3_method_11_code
def yX1_reasonOf : MethodName := ⟨RX1, "reasonOf", "(I)I"⟩
abbrev cX1_eventOf : ByteArray := prog_3_method_12_code
def yX1_eventOf : MethodName := ⟨RX1, "eventOf", "(I)I"⟩
abbrev cX1_linkBehind : ByteArray := prog_3_method_13_code
def yX1_linkBehind : MethodName := ⟨RX1, "linkBehind", "(II)I"⟩
abbrev cX1_hasWave : ByteArray := prog_3_method_14_code
def yX1_hasWave : MethodName := ⟨RX1, "hasWave", "(I)Z"⟩
abbrev cX1_sizeOfWave : ByteArray := prog_3_method_15_code
def yX1_sizeOfWave : MethodName := ⟨RX1, "sizeOfWave", "(I)I"⟩
def RX2 : String := "LeastBars$Machine"
def TX2 : u_T := fun k => match k with
  | 0 => ("LeastBars$Machine", "targets", "[I", true)
  | 1 => ("LeastBars$Machine", "stepSets", "[I", true)
  | 2 => ("LeastBars$Machine", "kind", "I", false)
  | 3 => ("LeastBars$Machine", "alphabet", "I", false)
  | 4 => ("LeastBars$Machine", "marked", "I", false)
  | 5 => ("LeastBars$Machine", "steps", "I", false)
  | _ => ("LeastBars$Machine", "greatest", "I", false)
def tyX2 : Nat → FieldType := fun k => match k with
  | 0 => .array .int
  | 1 => .array .int
  | 2 => .int
  | 3 => .int
  | 4 => .int
  | 5 => .int
  | _ => .int
abbrev wsX20 : List Cond := u_ws RX2 TX2 7
theorem nmX2 : ∀ a, a < 7 → ∀ b, b < 7 → a ≠ b → (TX2 a).2.1 ≠ (TX2 b).2.1 := by decide +kernel
theorem tyX2_ok : ∀ k, k < 7 → parseFieldDescriptor (TX2 k).2.2.1 = some (tyX2 k) := by decide +kernel
abbrev cX2_init : ByteArray := prog_4_method_1_code
def yX2_init : MethodName := ⟨RX2, "<init>", "()V"⟩
abbrev cX2_clear : ByteArray := prog_4_method_2_code
def yX2_clear : MethodName := ⟨RX2, "clear", "(I)V"⟩
abbrev cX2_tellStep : ByteArray := prog_4_method_3_code
def yX2_tellStep : MethodName := ⟨RX2, "tellStep", "(III)Z"⟩
abbrev cX2_tellMarked : ByteArray := prog_4_method_4_code
def yX2_tellMarked : MethodName := ⟨RX2, "tellMarked", "(I)Z"⟩
abbrev cX2_tellEvent : ByteArray := prog_4_method_5_code
def yX2_tellEvent : MethodName := ⟨RX2, "tellEvent", "(I)Z"⟩
abbrev cX2_target : ByteArray := prog_4_method_6_code
def yX2_target : MethodName := ⟨RX2, "target", "(II)I"⟩
abbrev cX2_missingSet : ByteArray := prog_4_method_7_code
def yX2_missingSet : MethodName := ⟨RX2, "missingSet", "(I)I"⟩
def RX3 : String := "LeastBars$Net"
def TX3 : u_T := fun k => match k with
  | 0 => ("LeastBars$Net", "codes", "[I", true)
  | 1 => ("LeastBars$Net", "leadSets", "[I", true)
  | 2 => ("LeastBars$Net", "stoppedSets", "[I", true)
  | 3 => ("LeastBars$Net", "finished", "[Z", true)
  | 4 => ("LeastBars$Net", "targets", "[I", true)
  | 5 => ("LeastBars$Net", "lastInto", "[I", true)
  | 6 => ("LeastBars$Net", "earlierInto", "[I", true)
  | 7 => ("LeastBars$Net", "slots", "[I", true)
  | 8 => ("LeastBars$Net", "far", "[I", true)
  | 9 => ("LeastBars$Net", "queue", "[I", true)
  | 10 => ("LeastBars$Net", "queued", "I", false)
  | 11 => ("LeastBars$Net", "alphabet", "I", false)
  | 12 => ("LeastBars$Net", "plantAlphabet", "I", false)
  | 13 => ("LeastBars$Net", "size", "I", false)
  | _ => ("LeastBars$Net", "isOver", "Z", false)
def tyX3 : Nat → FieldType := fun k => match k with
  | 0 => .array .int
  | 1 => .array .int
  | 2 => .array .int
  | 3 => .array .boolean
  | 4 => .array .int
  | 5 => .array .int
  | 6 => .array .int
  | 7 => .array .int
  | 8 => .array .int
  | 9 => .array .int
  | 10 => .int
  | 11 => .int
  | 12 => .int
  | 13 => .int
  | _ => .boolean
abbrev wsX30 : List Cond := u_ws RX3 TX3 15
theorem nmX3 : ∀ a, a < 15 → ∀ b, b < 15 → a ≠ b → (TX3 a).2.1 ≠ (TX3 b).2.1 := by decide +kernel
theorem tyX3_ok : ∀ k, k < 15 → parseFieldDescriptor (TX3 k).2.2.1 = some (tyX3 k) := by decide +kernel
abbrev cX3_init : ByteArray := prog_5_method_1_code
def yX3_init : MethodName := ⟨RX3, "<init>", "()V"⟩
abbrev cX3_join : ByteArray := prog_5_method_2_code
def yX3_join : MethodName := ⟨RX3, "join", "([LLeastBars$Machine;I)V"⟩
abbrev cX3_gatherAlphabets : ByteArray := prog_5_method_3_code
def yX3_gatherAlphabets : MethodName := ⟨RX3, "gatherAlphabets", "([LLeastBars$Machine;I)V"⟩
abbrev cX3_spreadFrom : ByteArray := prog_5_method_4_code
def yX3_spreadFrom : MethodName := ⟨RX3, "spreadFrom", "(I[LLeastBars$Machine;I)V"⟩
abbrev cX3_addEdge : ByteArray := prog_5_method_5_code
def yX3_addEdge : MethodName := ⟨RX3, "addEdge", "(III)V"⟩
abbrev cX3_codeBehind : ByteArray := prog_5_method_6_code
def yX3_codeBehind : MethodName := ⟨RX3, "codeBehind", "(II[LLeastBars$Machine;I)I"⟩
abbrev cX3_meet : ByteArray := prog_5_method_7_code
def yX3_meet : MethodName := ⟨RX3, "meet", "(I)I"⟩
abbrev cX3_add : ByteArray := prog_5_method_8_code
def yX3_add : MethodName := ⟨RX3, "add", "(I)I"⟩
abbrev cX3_allMarked : ByteArray := prog_5_method_9_code
def yX3_allMarked : MethodName := ⟨RX3, "allMarked", "(I[LLeastBars$Machine;I)Z"⟩
abbrev cX3_measure : ByteArray := prog_5_method_10_code
def yX3_measure : MethodName := ⟨RX3, "measure", "([I)V"⟩
abbrev cX3_measureBackFrom : ByteArray := prog_5_method_11_code
def yX3_measureBackFrom : MethodName := ⟨RX3, "measureBackFrom", "(I[I)V"⟩
abbrev cX3_enqueue : ByteArray := prog_5_method_12_code
def yX3_enqueue : MethodName := ⟨RX3, "enqueue", "(II)V"⟩
abbrev cX3_countStuck : ByteArray := prog_5_method_13_code
def yX3_countStuck : MethodName := ⟨RX3, "countStuck", "()I"⟩
abbrev cX3_eventToFinish : ByteArray := prog_5_method_14_code
def yX3_eventToFinish : MethodName := ⟨RX3, "eventToFinish", "(II)I"⟩
abbrev cX3_nearerBy : ByteArray := prog_5_method_15_code
def yX3_nearerBy : MethodName := ⟨RX3, "nearerBy", "(I)I"⟩
abbrev cX3_has : ByteArray := prog_5_method_16_code
def yX3_has : MethodName := ⟨RX3, "has", "(I)Z"⟩
abbrev cX3_stateIn : ByteArray := prog_5_method_17_code
def yX3_stateIn : MethodName := ⟨RX3, "stateIn", "(II)I"⟩
abbrev cX3_target : ByteArray := prog_5_method_18_code
def yX3_target : MethodName := ⟨RX3, "target", "(II)I"⟩
abbrev cX3_isFinished : ByteArray := prog_5_method_19_code
def yX3_isFinished : MethodName := ⟨RX3, "isFinished", "(I)Z"⟩
abbrev cX3_leadSet : ByteArray := prog_5_method_20_code
def yX3_leadSet : MethodName := ⟨RX3, "leadSet", "(I)I"⟩
abbrev cX3_clashSet : ByteArray := prog_5_method_21_code
def yX3_clashSet : MethodName := ⟨RX3, "clashSet", "(II)I"⟩
abbrev cX3_farOf : ByteArray := prog_5_method_22_code
def yX3_farOf : MethodName := ⟨RX3, "farOf", "(I)I"⟩
def RX4 : String := "LeastBars$Reader"
def TX4 : u_T := fun k => match k with
  | 0 => ("LeastBars$Reader", "awaited", "I", false)
  | 1 => ("LeastBars$Reader", "from", "I", false)
  | _ => ("LeastBars$Reader", "event", "I", false)
def tyX4 : Nat → FieldType := fun k => match k with
  | 0 => .int
  | 1 => .int
  | _ => .int
abbrev wsX40 : List Cond := u_ws RX4 TX4 3
theorem nmX4 : ∀ a, a < 3 → ∀ b, b < 3 → a ≠ b → (TX4 a).2.1 ≠ (TX4 b).2.1 := by decide +kernel
theorem tyX4_ok : ∀ k, k < 3 → parseFieldDescriptor (TX4 k).2.2.1 = some (tyX4 k) := by decide +kernel
abbrev cX4_init : ByteArray := prog_6_method_1_code
def yX4_init : MethodName := ⟨RX4, "<init>", "()V"⟩
abbrev cX4_read : ByteArray := prog_6_method_2_code
def yX4_read : MethodName := ⟨RX4, "read", "(LLeastBars$Tape;LLeastBars$Machine;I)I"⟩
abbrev cX4_takes : ByteArray := prog_6_method_3_code
def yX4_takes : MethodName := ⟨RX4, "takes", "(ILLeastBars$Machine;)Z"⟩
abbrev cX4_opensItem : ByteArray := prog_6_method_4_code
def yX4_opensItem : MethodName := ⟨RX4, "opensItem", "(I)Z"⟩
abbrev cX4_takesLetter : ByteArray := prog_6_method_5_code
def yX4_takesLetter : MethodName := ⟨RX4, "takesLetter", "(I)Z"⟩
abbrev cX4_takesFigure : ByteArray := prog_6_method_6_code
def yX4_takesFigure : MethodName := ⟨RX4, "takesFigure", "(ILLeastBars$Machine;)Z"⟩
abbrev cX4_takesMark : ByteArray := prog_6_method_7_code
def yX4_takesMark : MethodName := ⟨RX4, "takesMark", "(ILLeastBars$Machine;)Z"⟩
abbrev cX4_takesName : ByteArray := prog_6_method_8_code
def yX4_takesName : MethodName := ⟨RX4, "takesName", "(ILLeastBars$Machine;)Z"⟩
abbrev cX4_takesBlank : ByteArray := prog_6_method_9_code
def yX4_takesBlank : MethodName := ⟨RX4, "takesBlank", "(I)Z"⟩
def RX5 : String := "LeastBars$Tape"
def TX5 : u_T := fun k => match k with
  | 0 => ("LeastBars$Tape", "codes", "[I", true)
  | _ => ("LeastBars$Tape", "length", "I", false)
def tyX5 : Nat → FieldType := fun k => match k with
  | 0 => .array .int
  | _ => .int
abbrev wsX50 : List Cond := u_ws RX5 TX5 2
theorem nmX5 : ∀ a, a < 2 → ∀ b, b < 2 → a ≠ b → (TX5 a).2.1 ≠ (TX5 b).2.1 := by decide +kernel
theorem tyX5_ok : ∀ k, k < 2 → parseFieldDescriptor (TX5 k).2.2.1 = some (tyX5 k) := by decide +kernel
abbrev cX5_init : ByteArray := prog_7_method_1_code
def yX5_init : MethodName := ⟨RX5, "<init>", "()V"⟩
abbrev cX5_put : ByteArray := prog_7_method_2_code
def yX5_put : MethodName := ⟨RX5, "put", "(I)Z"⟩
abbrev cX5_clear : ByteArray := prog_7_method_3_code
def yX5_clear : MethodName := ⟨RX5, "clear", "()V"⟩
def RX6 : String := "LeastBars$Trail"
def TX6 : u_T := fun k => match k with
  | 0 => ("LeastBars$Trail", "places", "[I", true)
  | 1 => ("LeastBars$Trail", "next", "I", false)
  | 2 => ("LeastBars$Trail", "length", "I", false)
  | _ => ("LeastBars$Trail", "place", "I", false)
def tyX6 : Nat → FieldType := fun k => match k with
  | 0 => .array .int
  | 1 => .int
  | 2 => .int
  | _ => .int
abbrev wsX60 : List Cond := u_ws RX6 TX6 4
theorem nmX6 : ∀ a, a < 4 → ∀ b, b < 4 → a ≠ b → (TX6 a).2.1 ≠ (TX6 b).2.1 := by decide +kernel
theorem tyX6_ok : ∀ k, k < 4 → parseFieldDescriptor (TX6 k).2.2.1 = some (tyX6 k) := by decide +kernel
abbrev cX6_init : ByteArray := prog_8_method_1_code
def yX6_init : MethodName := ⟨RX6, "<init>", "()V"⟩
abbrev cX6_begin : ByteArray := prog_8_method_2_code
def yX6_begin : MethodName := ⟨RX6, "begin", "()V"⟩
abbrev cX6_moveTo : ByteArray := prog_8_method_3_code
def yX6_moveTo : MethodName := ⟨RX6, "moveTo", "(I)V"⟩
abbrev cX6_turnBack : ByteArray := prog_8_method_4_code
def yX6_turnBack : MethodName := ⟨RX6, "turnBack", "()Z"⟩
def RX7 : String := "LeastBars"
def TX7 : u_T := fun k => match k with
  | 0 => ("LeastBars", "tape", "LLeastBars$Tape;", true)
  | 1 => ("LeastBars", "reader", "LLeastBars$Reader;", true)
  | 2 => ("LeastBars", "machines", "[LLeastBars$Machine;", true)
  | 3 => ("LeastBars", "net", "LLeastBars$Net;", true)
  | 4 => ("LeastBars", "part", "LLeastBars$Net;", true)
  | 5 => ("LeastBars", "nothingLost", "[I", true)
  | 6 => ("LeastBars", "losses", "LLeastBars$Losses;", true)
  | 7 => ("LeastBars", "control", "LLeastBars$Control;", true)
  | 8 => ("LeastBars", "trail", "LLeastBars$Trail;", true)
  | 9 => ("LeastBars", "machineCount", "I", false)
  | 10 => ("LeastBars", "freeSet", "I", false)
  | _ => ("LeastBars", "partSet", "I", false)
def tyX7 : Nat → FieldType := fun k => match k with
  | 0 => .object "LeastBars$Tape"
  | 1 => .object "LeastBars$Reader"
  | 2 => .array (.object "LeastBars$Machine")
  | 3 => .object "LeastBars$Net"
  | 4 => .object "LeastBars$Net"
  | 5 => .array .int
  | 6 => .object "LeastBars$Losses"
  | 7 => .object "LeastBars$Control"
  | 8 => .object "LeastBars$Trail"
  | 9 => .int
  | 10 => .int
  | _ => .int
abbrev wsX70 : List Cond := u_ws RX7 TX7 12
theorem nmX7 : ∀ a, a < 12 → ∀ b, b < 12 → a ≠ b → (TX7 a).2.1 ≠ (TX7 b).2.1 := by decide +kernel
theorem tyX7_ok : ∀ k, k < 12 → parseFieldDescriptor (TX7 k).2.2.1 = some (tyX7 k) := by decide +kernel
abbrev cX7_init : ByteArray := prog_1_method_1_code
def yX7_init : MethodName := ⟨RX7, "<init>", "()V"⟩
abbrev cX7_type : ByteArray := prog_1_method_2_code
def yX7_type : MethodName := ⟨RX7, "type", "(I)I"⟩
abbrev cX7_wipe : ByteArray := prog_1_method_3_code
def yX7_wipe : MethodName := ⟨RX7, "wipe", "()I"⟩
abbrev cX7_machine : ByteArray := prog_1_method_4_code
def yX7_machine : MethodName := ⟨RX7, "machine", "(I)I"⟩
abbrev cX7_drop : ByteArray := prog_1_method_5_code
def yX7_drop : MethodName := ⟨RX7, "drop", "()I"⟩
abbrev cX7_free : ByteArray := prog_1_method_6_code
def yX7_free : MethodName := ⟨RX7, "free", "(II)I"⟩
abbrev cX7_anew : ByteArray := prog_1_method_7_code
def yX7_anew : MethodName := ⟨RX7, "anew", "()I"⟩
abbrev cX7_ofMachine : ByteArray := prog_1_method_8_code
def yX7_ofMachine : MethodName := ⟨RX7, "ofMachine", "(II)I"⟩
abbrev cX7_step : ByteArray := prog_1_method_9_code
def yX7_step : MethodName := ⟨RX7, "step", "(III)I"⟩
abbrev cX7_stateOf : ByteArray := prog_1_method_10_code
def yX7_stateOf : MethodName := ⟨RX7, "stateOf", "(II)I"⟩
abbrev cX7_leads : ByteArray := prog_1_method_11_code
def yX7_leads : MethodName := ⟨RX7, "leads", "(II)I"⟩
abbrev cX7_joint : ByteArray := prog_1_method_12_code
def yX7_joint : MethodName := ⟨RX7, "joint", "(II)I"⟩
abbrev cX7_why : ByteArray := prog_1_method_13_code
def yX7_why : MethodName := ⟨RX7, "why", "(III)I"⟩
abbrev cX7_wave : ByteArray := prog_1_method_14_code
def yX7_wave : MethodName := ⟨RX7, "wave", "(I)I"⟩
abbrev cX7_some : ByteArray := prog_1_method_15_code
def yX7_some : MethodName := ⟨RX7, "some", "(II)I"⟩
abbrev cX7_go : ByteArray := prog_1_method_16_code
def yX7_go : MethodName := ⟨RX7, "go", "(I)I"⟩
abbrev cX7_back : ByteArray := prog_1_method_17_code
def yX7_back : MethodName := ⟨RX7, "back", "()I"⟩
abbrev cX7_at : ByteArray := prog_1_method_18_code
def yX7_at : MethodName := ⟨RX7, "at", "()I"⟩
abbrev cX7_finish : ByteArray := prog_1_method_19_code
def yX7_finish : MethodName := ⟨RX7, "finish", "(I)I"⟩
abbrev cX7_word : ByteArray := prog_1_method_20_code
def yX7_word : MethodName := ⟨RX7, "word", "(II)I"⟩
abbrev cX7_many : ByteArray := prog_1_method_21_code
def yX7_many : MethodName := ⟨RX7, "many", "(I)I"⟩
abbrev cX7_joinAnew : ByteArray := prog_1_method_22_code
def yX7_joinAnew : MethodName := ⟨RX7, "joinAnew", "()V"⟩
abbrev cX7_joinPart : ByteArray := prog_1_method_23_code
def yX7_joinPart : MethodName := ⟨RX7, "joinPart", "(I)V"⟩
abbrev cX7_controlAnew : ByteArray := prog_1_method_24_code
def yX7_controlAnew : MethodName := ⟨RX7, "controlAnew", "()V"⟩
abbrev cX7_setOfAllMachines : ByteArray := prog_1_method_25_code
def yX7_setOfAllMachines : MethodName := ⟨RX7, "setOfAllMachines", "()I"⟩
abbrev cX7_isMachine : ByteArray := prog_1_method_26_code
def yX7_isMachine : MethodName := ⟨RX7, "isMachine", "(I)Z"⟩
abbrev cX7_isState : ByteArray := prog_1_method_27_code
def yX7_isState : MethodName := ⟨RX7, "isState", "(I)Z"⟩
abbrev cX7_isEvent : ByteArray := prog_1_method_28_code
def yX7_isEvent : MethodName := ⟨RX7, "isEvent", "(I)Z"⟩
abbrev cX7_isJoint : ByteArray := prog_1_method_29_code
def yX7_isJoint : MethodName := ⟨RX7, "isJoint", "(I)Z"⟩
abbrev cX7_isPlaceInWord : ByteArray := prog_1_method_30_code
def yX7_isPlaceInWord : MethodName := ⟨RX7, "isPlaceInWord", "(I)Z"⟩
abbrev cX7_isIn : ByteArray := prog_1_method_31_code
def yX7_isIn : MethodName := ⟨RX7, "isIn", "(II)Z"⟩
abbrev cX7_leastIn : ByteArray := prog_1_method_32_code
def yX7_leastIn : MethodName := ⟨RX7, "leastIn", "(I)I"⟩
def RX8 : String := "LeastBarsModel"
def TX8 : u_T := fun k => match k with
  | 0 => ("LeastBarsModel", "tape", "[I", true)
  | 1 => ("LeastBarsModel", "taped", "I", false)
  | 2 => ("LeastBarsModel", "machines", "I", false)
  | 3 => ("LeastBarsModel", "kindOf", "[I", true)
  | 4 => ("LeastBarsModel", "alphabet", "[I", true)
  | 5 => ("LeastBarsModel", "marked", "[I", true)
  | 6 => ("LeastBarsModel", "manySteps", "[I", true)
  | 7 => ("LeastBarsModel", "greatest", "[I", true)
  | 8 => ("LeastBarsModel", "stepTo", "[I", true)
  | 9 => ("LeastBarsModel", "freeOnes", "I", false)
  | 10 => ("LeastBarsModel", "place", "I", false)
  | 11 => ("LeastBarsModel", "joints", "I", false)
  | 12 => ("LeastBarsModel", "codeOf", "[I", true)
  | 13 => ("LeastBarsModel", "toOf", "[I", true)
  | 14 => ("LeastBarsModel", "isKnown", "Z", false)
  | 15 => ("LeastBarsModel", "waveOf", "[I", true)
  | 16 => ("LeastBarsModel", "reasonOf", "[I", true)
  | 17 => ("LeastBarsModel", "eventOf", "[I", true)
  | 18 => ("LeastBarsModel", "canEnd", "[Z", true)
  | 19 => ("LeastBarsModel", "isControlled", "[Z", true)
  | 20 => ("LeastBarsModel", "waves", "I", false)
  | 21 => ("LeastBarsModel", "at", "I", false)
  | 22 => ("LeastBarsModel", "taken", "I", false)
  | 23 => ("LeastBarsModel", "takenFrom", "[I", true)
  | _ => ("LeastBarsModel", "farOf", "[I", true)
def tyX8 : Nat → FieldType := fun k => match k with
  | 0 => .array .int
  | 1 => .int
  | 2 => .int
  | 3 => .array .int
  | 4 => .array .int
  | 5 => .array .int
  | 6 => .array .int
  | 7 => .array .int
  | 8 => .array .int
  | 9 => .int
  | 10 => .int
  | 11 => .int
  | 12 => .array .int
  | 13 => .array .int
  | 14 => .boolean
  | 15 => .array .int
  | 16 => .array .int
  | 17 => .array .int
  | 18 => .array .boolean
  | 19 => .array .boolean
  | 20 => .int
  | 21 => .int
  | 22 => .int
  | 23 => .array .int
  | _ => .array .int
abbrev wsX80 : List Cond := u_ws RX8 TX8 25
theorem nmX8 : ∀ a, a < 25 → ∀ b, b < 25 → a ≠ b → (TX8 a).2.1 ≠ (TX8 b).2.1 := by decide +kernel
theorem tyX8_ok : ∀ k, k < 25 → parseFieldDescriptor (TX8 k).2.2.1 = some (tyX8 k) := by decide +kernel
abbrev cX8_init : ByteArray := prog_10_method_1_code
def yX8_init : MethodName := ⟨RX8, "<init>", "()V"⟩
abbrev cX8_within : ByteArray := prog_10_method_2_code
def yX8_within : MethodName := ⟨RX8, "within", "(III)Z"⟩
abbrev cX8_bit : ByteArray := prog_10_method_3_code
def yX8_bit : MethodName := ⟨RX8, "bit", "(II)I"⟩
abbrev cX8_type : ByteArray := prog_10_method_4_code
def yX8_type : MethodName := ⟨RX8, "type", "(I)I"⟩
abbrev cX8_wipe : ByteArray := prog_10_method_5_code
def yX8_wipe : MethodName := ⟨RX8, "wipe", "()I"⟩
abbrev cX8_stepAt : ByteArray := prog_10_method_6_code
def yX8_stepAt : MethodName := ⟨RX8, "stepAt", "(III)I"⟩
abbrev cX8_codeHere : ByteArray := prog_10_method_7_code
def yX8_codeHere : MethodName := ⟨RX8, "codeHere", "()I"⟩
abbrev cX8_isFigure : ByteArray := prog_10_method_8_code
def yX8_isFigure : MethodName := ⟨RX8, "isFigure", "()Z"⟩
abbrev cX8_isLetter : ByteArray := prog_10_method_9_code
def yX8_isLetter : MethodName := ⟨RX8, "isLetter", "()Z"⟩
abbrev cX8_names : ByteArray := prog_10_method_10_code
def yX8_names : MethodName := ⟨RX8, "names", "(II)V"⟩
abbrev cX8_readsStep : ByteArray := prog_10_method_11_code
def yX8_readsStep : MethodName := ⟨RX8, "readsStep", "(I)Z"⟩
abbrev cX8_readsItem : ByteArray := prog_10_method_12_code
def yX8_readsItem : MethodName := ⟨RX8, "readsItem", "(I)Z"⟩
abbrev cX8_reads : ByteArray := prog_10_method_13_code
def yX8_reads : MethodName := ⟨RX8, "reads", "(I)Z"⟩
abbrev cX8_machine : ByteArray := prog_10_method_14_code
def yX8_machine : MethodName := ⟨RX8, "machine", "(I)I"⟩
abbrev cX8_begins : ByteArray := prog_10_method_15_code
def yX8_begins : MethodName := ⟨RX8, "begins", "()V"⟩
abbrev cX8_drop : ByteArray := prog_10_method_16_code
def yX8_drop : MethodName := ⟨RX8, "drop", "()I"⟩
abbrev cX8_free : ByteArray := prog_10_method_17_code
def yX8_free : MethodName := ⟨RX8, "free", "(II)I"⟩
abbrev cX8_anew : ByteArray := prog_10_method_18_code
def yX8_anew : MethodName := ⟨RX8, "anew", "()I"⟩
abbrev cX8_isEvent : ByteArray := prog_10_method_19_code
def yX8_isEvent : MethodName := ⟨RX8, "isEvent", "(I)Z"⟩
abbrev cX8_isMachine : ByteArray := prog_10_method_20_code
def yX8_isMachine : MethodName := ⟨RX8, "isMachine", "(I)Z"⟩
abbrev cX8_ofMachine : ByteArray := prog_10_method_21_code
def yX8_ofMachine : MethodName := ⟨RX8, "ofMachine", "(II)I"⟩
abbrev cX8_step : ByteArray := prog_10_method_22_code
def yX8_step : MethodName := ⟨RX8, "step", "(III)I"⟩
abbrev cX8_stateIn : ByteArray := prog_10_method_23_code
def yX8_stateIn : MethodName := ⟨RX8, "stateIn", "(II)I"⟩
abbrev cX8_led : ByteArray := prog_10_method_24_code
def yX8_led : MethodName := ⟨RX8, "led", "(III)I"⟩
abbrev cX8_numberOf : ByteArray := prog_10_method_25_code
def yX8_numberOf : MethodName := ⟨RX8, "numberOf", "(I)I"⟩
abbrev cX8_builds : ByteArray := prog_10_method_26_code
def yX8_builds : MethodName := ⟨RX8, "builds", "(I)Z"⟩
abbrev cX8_isFinished : ByteArray := prog_10_method_27_code
def yX8_isFinished : MethodName := ⟨RX8, "isFinished", "(II)Z"⟩
abbrev cX8_all : ByteArray := prog_10_method_28_code
def yX8_all : MethodName := ⟨RX8, "all", "()I"⟩
abbrev cX8_clashes : ByteArray := prog_10_method_29_code
def yX8_clashes : MethodName := ⟨RX8, "clashes", "(II)Z"⟩
abbrev cX8_loses : ByteArray := prog_10_method_30_code
def yX8_loses : MethodName := ⟨RX8, "loses", "(IIII)V"⟩
abbrev cX8_losesClashes : ByteArray := prog_10_method_31_code
def yX8_losesClashes : MethodName := ⟨RX8, "losesClashes", "()V"⟩
abbrev cX8_pushes : ByteArray := prog_10_method_32_code
def yX8_pushes : MethodName := ⟨RX8, "pushes", "(II)I"⟩
abbrev cX8_losesPushed : ByteArray := prog_10_method_33_code
def yX8_losesPushed : MethodName := ⟨RX8, "losesPushed", "(I)Z"⟩
abbrev cX8_findEnds : ByteArray := prog_10_method_34_code
def yX8_findEnds : MethodName := ⟨RX8, "findEnds", "(I)V"⟩
abbrev cX8_losesStuck : ByteArray := prog_10_method_35_code
def yX8_losesStuck : MethodName := ⟨RX8, "losesStuck", "(I)Z"⟩
abbrev cX8_findControlled : ByteArray := prog_10_method_36_code
def yX8_findControlled : MethodName := ⟨RX8, "findControlled", "()V"⟩
abbrev cX8_knows : ByteArray := prog_10_method_37_code
def yX8_knows : MethodName := ⟨RX8, "knows", "()V"⟩
abbrev cX8_isJoint : ByteArray := prog_10_method_38_code
def yX8_isJoint : MethodName := ⟨RX8, "isJoint", "(I)Z"⟩
abbrev cX8_stateOf : ByteArray := prog_10_method_39_code
def yX8_stateOf : MethodName := ⟨RX8, "stateOf", "(II)I"⟩
abbrev cX8_leads : ByteArray := prog_10_method_40_code
def yX8_leads : MethodName := ⟨RX8, "leads", "(II)I"⟩
abbrev cX8_isBarred : ByteArray := prog_10_method_41_code
def yX8_isBarred : MethodName := ⟨RX8, "isBarred", "(II)Z"⟩
abbrev cX8_eventsAt : ByteArray := prog_10_method_42_code
def yX8_eventsAt : MethodName := ⟨RX8, "eventsAt", "(II)I"⟩
abbrev cX8_joint : ByteArray := prog_10_method_43_code
def yX8_joint : MethodName := ⟨RX8, "joint", "(II)I"⟩
abbrev cX8_why : ByteArray := prog_10_method_44_code
def yX8_why : MethodName := ⟨RX8, "why", "(III)I"⟩
abbrev cX8_wave : ByteArray := prog_10_method_45_code
def yX8_wave : MethodName := ⟨RX8, "wave", "(I)I"⟩
abbrev cX8_some : ByteArray := prog_10_method_46_code
def yX8_some : MethodName := ⟨RX8, "some", "(II)I"⟩
abbrev cX8_isShut : ByteArray := prog_10_method_47_code
def yX8_isShut : MethodName := ⟨RX8, "isShut", "()Z"⟩
abbrev cX8_go : ByteArray := prog_10_method_48_code
def yX8_go : MethodName := ⟨RX8, "go", "(I)I"⟩
abbrev cX8_back : ByteArray := prog_10_method_49_code
def yX8_back : MethodName := ⟨RX8, "back", "()I"⟩
abbrev cX8_at : ByteArray := prog_10_method_50_code
def yX8_at : MethodName := ⟨RX8, "at", "()I"⟩
abbrev cX8_findFar : ByteArray := prog_10_method_51_code
def yX8_findFar : MethodName := ⟨RX8, "findFar", "()V"⟩
abbrev cX8_nearer : ByteArray := prog_10_method_52_code
def yX8_nearer : MethodName := ⟨RX8, "nearer", "(I)I"⟩
abbrev cX8_tellWord : ByteArray := prog_10_method_53_code
def yX8_tellWord : MethodName := ⟨RX8, "tellWord", "(II)I"⟩
abbrev cX8_isPlace : ByteArray := prog_10_method_54_code
def yX8_isPlace : MethodName := ⟨RX8, "isPlace", "(I)Z"⟩
abbrev cX8_finish : ByteArray := prog_10_method_55_code
def yX8_finish : MethodName := ⟨RX8, "finish", "(I)I"⟩
abbrev cX8_word : ByteArray := prog_10_method_56_code
def yX8_word : MethodName := ⟨RX8, "word", "(II)I"⟩
abbrev cX8_many : ByteArray := prog_10_method_57_code
def yX8_many : MethodName := ⟨RX8, "many", "(I)I"⟩
def RJ6 : String := "java/lang/Integer"
abbrev cJ6_bitCount_0f7a4 : ByteArray := prog_11_method_49_code
def yJ6_bitCount_0f7a4 : MethodName := ⟨RJ6, "bitCount", "(I)I"⟩
def RJ9 : String := "java/lang/Math"
abbrev cJ9_floorMod_7cf53 : ByteArray := prog_12_method_50_code
def yJ9_floorMod_7cf53 : MethodName := ⟨RJ9, "floorMod", "(II)I"⟩
abbrev cJ9_max_7cf53 : ByteArray := prog_12_method_65_code
def yJ9_max_7cf53 : MethodName := ⟨RJ9, "max", "(II)I"⟩
abbrev cJ9_min_7cf53 : ByteArray := prog_12_method_69_code
def yJ9_min_7cf53 : MethodName := ⟨RJ9, "min", "(II)I"⟩
def RJ7 : String := "java/util/Arrays"
abbrev cJ7_fill_53178 : ByteArray := prog_13_method_103_code
def yJ7_fill_53178 : MethodName := ⟨RJ7, "fill", "([II)V"⟩
def RL : String := "LeastBarsLaw"
abbrev cL_law : ByteArray := code
def yL_law : MethodName := ⟨RL, "law", "([I)Z"⟩
abbrev vwCl : List vw_C := [(RX0, TX0, 6), (RX1, TX1, 7), (RX2, TX2, 7), (RX3, TX3, 15), (RX4, TX4, 3), (RX5, TX5, 2), (RX6, TX6, 4), (RX7, TX7, 12), (RX8, TX8, 25)]
end
section
/-! THE MACHINE OVER A FIXED GRAPH OF CELLS: once both objects are made no cell comes and no reference changes: a state is the numbers alone.
 Mm: the number at a cell's place (a field's slot, an array's index). Vl: a number, or a cell of the graph. Gc: a cell's shape: an array (kind 0 int, 1 boolean, 2 references; length; what it refers to) or an object (class; its fields: 0 a number, a + 1 the cell a). -/
abbrev Mm : Type := Nat → Nat → Int32
abbrev Vl : Type := Int32 ⊕ Nat
abbrev Gc : Type := (Nat × Nat × List Nat) ⊕ (Nat × List Nat)
abbrev Tc : Type := ClassId × ClassId × ClassId
def m_up (σ : Mm) (a k : Nat) (v : Int32) : Mm := fun x => if x = a then upd (σ x) k v else σ x
def e_val (ρ : Nat → Nat) : Vl → Value
  | .inl x => .int x
  | .inr a => .ref (ρ a)
def e_fld (ρ : Nat → Nat) (f : Nat → Int32) (k c : Nat) : Value := match c with
  | 0 => .int (f k)
  | a + 1 => .ref (ρ a)
def e_cell (t : Tc) (ρ : Nat → Nat) (f : Nat → Int32) : Gc → va_E
  | .inl (0, n, _) => .inl (t.1, n, .inl f)
  | .inl (1, n, _) => .inl (t.2.1, n, .inl f)
  | .inl (_ + 2, n, ids) => .inl (t.2.2, n, .inr (.inr (.inr (.inr (fun j => (ids[j]?).map ρ)))))
  | .inr (ci, fs) => .inr (ci, fs.mapIdx (e_fld ρ f))
def e_W (t : Tc) (Γ : List Gc) (ρ : Nat → Nat) (σ : Mm) : va_W := Γ.mapIdx (fun a c => (ρ a, e_cell t ρ (σ a) c))
theorem e_get {t : Tc} {Γ : List Gc} {ρ : Nat → Nat} {σ : Mm} {a : Nat} {c : Gc} (h : Γ[a]? = some c) : (e_W t Γ ρ σ)[a]? = some (ρ a, e_cell t ρ (σ a) c) := by
  simp [e_W, List.getElem?_mapIdx, h]
theorem e_set {t : Tc} {Γ : List Gc} {ρ : Nat → Nat} {σ : Mm} {a k : Nat} {v : Int32} {c : Gc} {q : va_E} (h : Γ[a]? = some c) (hc : q = e_cell t ρ (upd (σ a) k v) c) : (e_W t Γ ρ σ).set a (ρ a, q) = e_W t Γ ρ (m_up σ a k v) := by
  subst hc
  apply List.ext_getElem?
  intro i
  rw [List.getElem?_set]
  have hlt : a < Γ.length := (List.getElem?_eq_some_iff.mp h).1
  by_cases hi : a = i
  · subst hi
    rw [if_pos rfl, if_pos (by simpa [e_W] using hlt), e_get h]
    simp [m_up]
  · rw [if_neg hi]
    have hi' : ¬ i = a := fun q => hi q.symm
    simp only [e_W, List.getElem?_mapIdx]
    cases Γ[i]? with
    | none => rfl
    | some x => simp [m_up, hi']
theorem e_fset {ρ : Nat → Nat} {f : Nat → Int32} {fs : List Nat} {k : Nat} {v : Int32} (h : fs[k]? = some 0) : (fs.mapIdx (e_fld ρ f)).set k (.int v) = fs.mapIdx (e_fld ρ (upd f k v)) := by
  apply List.ext_getElem?
  intro i
  rw [List.getElem?_set]
  have hlt : k < fs.length := (List.getElem?_eq_some_iff.mp h).1
  by_cases hi : k = i
  · subst hi
    rw [if_pos rfl, if_pos (by simpa using hlt), List.getElem?_mapIdx, h]
    simp [e_fld, upd]
  · rw [if_neg hi]
    have hi' : ¬ i = k := fun q => hi q.symm
    simp only [List.getElem?_mapIdx]
    cases fs[i]? with
    | none => rfl
    | some x => cases x <;> simp [e_fld, upd, hi']
theorem e_fget {ρ : Nat → Nat} {f : Nat → Int32} {fs : List Nat} {k c : Nat} (h : fs[k]? = some c) : (fs.mapIdx (e_fld ρ f))[k]? = some (e_fld ρ f k c) := by
  simp [List.getElem?_mapIdx, h]
/-- the addresses don't hang on the numbers -/
theorem e_adr {t : Tc} {Γ : List Gc} {ρ : Nat → Nat} {σ : Mm} {k : Nat} {q : Nat × va_E} (h : (e_W t Γ ρ σ)[k]? = some q) : k < Γ.length ∧ q.1 = ρ k := by
  simp only [e_W, List.getElem?_mapIdx] at h
  cases hk : Γ[k]? with
  | none => rw [hk] at h; cases h
  | some c => rw [hk] at h; cases h; exact ⟨(List.getElem?_eq_some_iff.mp hk).1, rfl⟩
theorem e_some {t : Tc} {Γ : List Gc} {ρ : Nat → Nat} {σ : Mm} {k : Nat} (h : k < Γ.length) : ∃ x : va_E, (e_W t Γ ρ σ)[k]? = some (ρ k, x) := ⟨_, e_get (List.getElem?_eq_getElem h)⟩
theorem e_D {t : Tc} {Γ : List Gc} {ρ : Nat → Nat} {σ σ' : Mm} {A : Nat → Prop} (h : va_D A (e_W t Γ ρ σ)) : va_D A (e_W t Γ ρ σ') := by
  refine ⟨fun i j p q hi hj hpq => ?_, fun k q hk => ?_⟩
  · obtain ⟨a1, a2⟩ := e_adr hi
    obtain ⟨b1, b2⟩ := e_adr hj
    obtain ⟨x, hx⟩ := e_some (t := t) (ρ := ρ) (σ := σ) a1
    obtain ⟨y, hy⟩ := e_some (t := t) (ρ := ρ) (σ := σ) b1
    exact h.1 i j _ _ hx hy (by rw [← a2, ← b2]; exact hpq)
  · obtain ⟨a1, a2⟩ := e_adr hk
    obtain ⟨x, hx⟩ := e_some (t := t) (ρ := ρ) (σ := σ) a1
    rw [a2]
    exact h.2 k _ hx
theorem e_A {t : Tc} {Γ : List Gc} {ρ : Nat → Nat} {σ σ' : Mm} {sz q : Nat} (h : va_A (e_W t Γ ρ σ) sz q) : va_A (e_W t Γ ρ σ') sz q := by
  rcases h with ⟨k, x, hk⟩ | h
  · obtain ⟨a1, a2⟩ := e_adr hk
    obtain ⟨y, hy⟩ := e_some (t := t) (ρ := ρ) (σ := σ') a1
    refine Or.inl ⟨k, y, ?_⟩
    rw [hy]
    exact congrArg some (Prod.ext a2.symm rfl)
  · exact Or.inr h
/-! locals -/
theorem e_cat (ρ : Nat → Nat) (v : Vl) : (e_val ρ v).category = 1 := by cases v <;> rfl
theorem e_cats (ρ : Nat → Nat) (st : List Vl) : ((st.map (e_val ρ)).map fun v => v.category).sum = st.length := by
  induction st with
  | nil => rfl
  | cons a l ih =>
    simp only [List.map_cons, List.sum_cons, List.length_cons, e_cat] at ih ⊢
    omega
def lvR (ρ : Nat → Nat) (ls : Array Slot) (nL : Nat) (L : List (Option Vl)) : Prop := ls.size = nL ∧ lv_wf ls ∧ L.length = nL ∧ ∀ (i : Nat) (v : Vl), L[i]? = some (some v) → ls[i]? = some (.val (e_val ρ v))
def lvl (ρ : Nat → Nat) (L : List (Option Vl)) : List (Nat × Value) := (List.range L.length).filterMap fun i => match L[i]? with
  | some (some v) => some (i, e_val ρ v)
  | _ => none
theorem lvl_mem {ρ : Nat → Nat} {L : List (Option Vl)} {q : Nat × Value} : q ∈ lvl ρ L ↔ ∃ v : Vl, L[q.1]? = some (some v) ∧ q.2 = e_val ρ v := by
  unfold lvl
  rw [List.mem_filterMap]
  constructor
  · rintro ⟨i, -, h⟩
    split at h
    next v hv =>
      cases h
      exact ⟨v, hv, rfl⟩
    next => cases h
  · rintro ⟨v, hv, h2⟩
    refine ⟨q.1, List.mem_range.mpr (List.getElem?_eq_some_iff.mp hv).1, ?_⟩
    rw [hv]
    exact congrArg some (Prod.ext rfl h2.symm)
theorem lvR.has {ρ : Nat → Nat} {ls : Array Slot} {nL : Nat} {L : List (Option Vl)} (h : lvR ρ ls nL L) : lv_has ls nL (lvl ρ L) := by
  refine ⟨h.1, h.2.1, fun q hq => ?_⟩
  obtain ⟨v, h1, h2⟩ := lvl_mem.mp hq
  rw [h2]
  exact h.2.2.2 _ _ h1
theorem lvR.store {ρ : Nat → Nat} {ls ls' : Array Slot} {nL i : Nat} {L : List (Option Vl)} {v : Vl} (h : lvR ρ ls nL L) (hi : i < nL) (h' : lv_has ls' nL ((i, e_val ρ v) :: (lvl ρ L).filter (fun q => !(q.1 == i) && !(q.1 + 1 == i && q.2.category == 2)))) : lvR ρ ls' nL (L.set i (some v)) := by
  refine ⟨h'.1, h'.2.1, by simpa using h.2.2.1, fun j w hj => ?_⟩
  rw [List.getElem?_set] at hj
  by_cases hij : i = j
  · subst hij
    rw [if_pos rfl, if_pos (by rw [h.2.2.1]; exact hi)] at hj
    cases hj
    exact h'.2.2 _ List.mem_cons_self
  · rw [if_neg hij] at hj
    refine h'.2.2 (j, e_val ρ w) (List.mem_cons_of_mem _ (List.mem_filter.mpr ⟨lvl_mem.mpr ⟨w, hj, rfl⟩, ?_⟩))
    have h1 : (j == i) = false := by simpa using fun q => hij q.symm
    simp [h1, e_cat]
theorem e_args (ρ : Nat → Nat) : ∀ (As : List Vl) (k i : Nat) (v : Vl), As[i]? = some v → (k + i, e_val ρ v) ∈ lv_args k (As.map (e_val ρ)) := by
  intro As
  induction As with
  | nil => intro k i v h; simp at h
  | cons a l ih =>
    intro k i v h
    have hc : ¬ (e_val ρ a).category = 2 := by rw [e_cat]; decide
    simp only [List.map_cons, lv_args, if_neg hc]
    cases i with
    | zero =>
      simp at h
      subst h
      exact List.mem_cons_self
    | succ i =>
      have h2 := ih (k + 1) i v (by simpa using h)
      rw [show k + (i + 1) = k + 1 + i by omega]
      exact List.mem_cons_of_mem _ h2
theorem e_sl (ρ : Nat → Nat) (As : List Vl) : (lg_sl (As.map (e_val ρ))).length = As.length := by
  induction As with
  | nil => rfl
  | cons a l ih =>
    have hc : ¬ (e_val ρ a).category = 2 := by rw [e_cat]; decide
    simp only [lg_sl, List.map_cons, List.flatMap_cons, if_neg hc, List.length_append, List.length_cons, List.length_nil] at ih ⊢
    omega
def L0 (As : List Vl) (nL : Nat) : List (Option Vl) := As.map some ++ List.replicate (nL - As.length) none
theorem lvR.entry (ρ : Nat → Nat) (As : List Vl) {nL : Nat} (h : As.length ≤ nL) : lvR ρ ((lg_sl (As.map (e_val ρ)) ++ List.replicate (nL - (lg_sl (As.map (e_val ρ))).length) Slot.unset).toArray) nL (L0 As nL) := by
  have h1 := lv_entry (As.map (e_val ρ)) (n := nL) (by rw [e_sl]; exact h)
  refine ⟨h1.1, h1.2.1, by simp [L0]; omega, fun i v hi => ?_⟩
  unfold L0 at hi
  by_cases hl : i < As.length
  · rw [List.getElem?_append_left (by simpa using hl), List.getElem?_map] at hi
    cases ha : As[i]? with
    | none => rw [ha] at hi; cases hi
    | some w =>
      rw [ha] at hi
      cases hi
      have h2 := h1.2.2 _ (e_args ρ As 0 i v ha)
      simpa using h2
  · rw [List.getElem?_append_right (by simpa using hl)] at hi
    have := List.eq_of_mem_replicate (List.mem_of_getElem? hi)
    cases this
/-! the nest's words -/
def isNest : Cond → Bool
  | .fieldLinkNest .. => true
  | .methodLinkNest .. => true
  | _ => false
def NS (U : State) : Prop := ∀ w ∈ tables_1, isNest w = true → va_Nw w U
theorem NS.warm {s U : State} (hW : s.WarmedH U.vm) (h : NS s) : NS U := by
  intro w hw hn
  have h1 := h w hw hn
  cases w <;> first | exact va_Nw.warmF hW h1 | exact va_Nw.warmM hW h1 | (simp [isNest] at hn; done)
theorem NS.same {s U : State} (hW : s.vm = U.vm) (h : NS s) : NS U := by
  intro w hw hn
  have h1 := h w hw hn
  cases w <;> first | exact va_Nw.same rfl hW h1 | (simp [isNest] at hn; done)
/-! the words: all good ones of the tables -/
def WS : List Cond := lw_tbl.filter goodWord
theorem ws_m {w : Cond} (i : Nat) (h : lw_tbl[i]? = some w) (hg : goodWord w = true) : w ∈ WS := List.mem_filter.mpr ⟨List.mem_of_getElem? h, hg⟩
theorem ws_p {ws : List Cond} (ps : List Nat) (hp : ws = ps.filterMap (fun i => lw_tbl[i]?)) (h : ws.all goodWord = true) : ∀ w ∈ ws, w ∈ WS := by
  intro w hw
  have h1 := List.all_eq_true.mp h w hw
  rw [hp] at hw
  obtain ⟨i, -, hi⟩ := List.mem_filterMap.mp hw
  exact ws_m i hi h1
/-! what a field's link and a call's link are -/
def Fk (own : String) (index ci k : Nat) (ty : FieldType) (fin : Bool) : Prop := ∃ (C : String) (T : u_T) (N : Nat), vwCl[ci]? = some (C, T, N) ∧ k < N ∧
  (Cond.fieldLink own index C (T k).2.1 (T k).2.2.1 ∈ WS ∨ ∃ host : String, Cond.fieldLinkNest own index C (T k).2.1 (T k).2.2.1 host ∈ tables_1) ∧
  (∀ w ∈ u_ws C T N, w ∈ WS) ∧ (T k).1 = C ∧
  (∃ ty0 : Nat → FieldType, (∀ k, k < N → parseFieldDescriptor (T k).2.2.1 = some (ty0 k)) ∧ (∀ a, a < N → ∀ b, b < N → a ≠ b → (T a).2.1 ≠ (T b).2.1)) ∧
  parseFieldDescriptor (T k).2.2.1 = some ty ∧ (T k).2.2.2 = fin
abbrev Ck0 (y : MethodName) (n : Nat) : Prop := y.cls ≠ "java/lang/invoke/MethodHandle" ∧ y.cls ≠ "java/lang/invoke/VarHandle" ∧ (parseMethodDescriptor y.desc).map (fun d => d.parameters.length) = some n
def CkV (own : String) (index : Nat) (y : MethodName) (cc : ByteArray) (nL : Nat) (ret : Option FieldType) (C : String) (n : Nat) : Prop :=
  Cond.methodLink own index y ∈ WS ∧ Cond.instanceMethod y ∈ WS ∧ Cond.selects C y y ∈ WS ∧ Cond.initialized C ∈ WS ∧ Cond.code y cc nL ret ∈ WS ∧ y.cls = C ∧ Ck0 y n ∧ nL ≤ 17
def CkVN (own : String) (index : Nat) (y : MethodName) (cc : ByteArray) (nL : Nat) (ret : Option FieldType) (C : String) (n : Nat) : Prop :=
  Cond.methodLinkNest own index y RX7 ∈ tables_1 ∧ Cond.instanceMethod y ∈ WS ∧ Cond.selects C y y ∈ WS ∧ Cond.initialized C ∈ WS ∧ Cond.code y cc nL ret ∈ WS ∧ y.cls = C ∧ Ck0 y n ∧ nL ≤ 17
def CkS (own : String) (index : Nat) (y : MethodName) (cc : ByteArray) (nL : Nat) (ret : Option FieldType) (n : Nat) : Prop :=
  Cond.methodLink own index y ∈ WS ∧ Cond.static y ∈ WS ∧ Cond.initialized y.cls ∈ WS ∧ Cond.code y cc nL ret ∈ WS ∧ Ck0 y n ∧ nL ≤ 17
def CkSN (own : String) (index : Nat) (y : MethodName) (cc : ByteArray) (nL : Nat) (ret : Option FieldType) (n : Nat) : Prop :=
  Cond.methodLinkNest own index y RX7 ∈ tables_1 ∧ Cond.static y ∈ WS ∧ Cond.initialized y.cls ∈ WS ∧ Cond.code y cc nL ret ∈ WS ∧ Ck0 y n ∧ nL ≤ 17
theorem ws_in {ws : List Cond} (h : ∀ w ∈ ws, w ∈ WS) : GoodIn WS ws := fun w hw => ⟨h w hw, good_of_word (List.mem_filter.mp (h w hw)).2⟩
/-! the judgement -/
def rmd (d : Nat) : Room := { frames := d, cells := 0, slots := 0, locals := 36 * d }
abbrev tysOf (t : Tc) : List (ClassId × FieldType) := [(t.1, .int), (t.2.1, .boolean), (t.2.2, .object RX2)]
abbrev Bw (D : va_G) (t : Tc) (Γ : List Gc) (ρ : Nat → Nat) (σ : Mm) (U : State) : Prop := va_P D vwCl (e_W t Γ ρ σ) U.heap
def QQ (D : va_G) (t : Tc) (Γ : List Gc) (ρ : Nat → Nat) (A : Nat → Prop) (ret : Option FieldType) (post : Int32 → Mm → Prop) : Array Value → State → Outcome → State → Prop := match ret with
  | none => va_Qv (S := Mm) (post 0) (Bw D t Γ ρ) A
  | some _ => va_Qi (S := Mm) post (Bw D t Γ ρ) A
def Cx (own : String) (cc : ByteArray) (nL : Nat) (ret : Option FieldType) (D : va_G) (t : Tc) (A : Nat → Prop) (p : Program) (s : State) (m : MethodId) (args : Array Value) (meth : Method) (c : Code) : Prop :=
  p.tables.exec = Jvm.exec ∧ c.code = cc ∧ c.maxLocals = nL ∧ s.vm.findClass own = some m.cls ∧ meth.sig.returnType = ret ∧ meth.locks = false ∧ (∀ w ∈ WS, w.before args s = true) ∧ NS s ∧ va_K D vwCl (tysOf t) s ∧ ∀ q : Nat, s.heap.size ≤ q → A q
/-- the method with this code, now at pc with locals L, stack st and numbers σ, ends with an answer r and numbers σ' of which post holds -/
def AJ (Γ : List Gc) (d : Nat) (own : String) (cc : ByteArray) (nL : Nat) (ret : Option FieldType) (post : Int32 → Mm → Prop) (pc : Nat) (L : List (Option Vl)) (st : List Vl) (σ : Mm) : Prop :=
  ∀ (D : va_G) (t : Tc) (ρ : Nat → Nat) (A : Nat → Prop) (p : Program) (l : Launch) (e : Env) (s : State) (m : MethodId) (args : Array Value) (below : List Frame) (meth : Method) (c : Code) (H : Heap) (locs : List Loc) (ls : Array Slot),
    Cx own cc nL ret D t A p s m args meth c → va_P D vwCl (e_W t Γ ρ σ) H → va_D A (e_W t Γ ρ σ) → va_S A s.heap H locs → lvR ρ ls nL L →
    W p l e (rmd d) s m args below meth c H locs 0 0 (MQ below (QQ D t Γ ρ A ret post) args s 0 0 A) (F0 m pc ls (st.map (e_val ρ)))
/-- a method's contract: called with these arguments at these numbers it ends, with post -/
def EV (Γ : List Gc) (d : Nat) (y : MethodName) (cc : ByteArray) (nL : Nat) (ret : Option FieldType) (As : List Vl) (σ : Mm) (post : Int32 → Mm → Prop) : Prop :=
  ∀ (l : Launch) (D : va_G) (t : Tc) (ρ : Nat → Nat) (sz : Nat), Met l y (.code y cc nL ret :: WS) (rmd d)
    (va_Pc (As.map (e_val ρ)) (fun U => U.heap.size = sz ∧ va_P D vwCl (e_W t Γ ρ σ) U.heap ∧ va_K D vwCl (tysOf t) U ∧ va_D (fun _ => True) (e_W t Γ ρ σ) ∧ NS U))
    (QQ D t Γ ρ (va_A (e_W t Γ ρ σ) sz) ret post) 0 0 (va_A (e_W t Γ ρ σ) sz)
theorem EV.intro {Γ : List Gc} {d : Nat} {y : MethodName} {cc : ByteArray} {nL : Nat} {ret : Option FieldType} {As : List Vl} {σ : Mm} {post : Int32 → Mm → Prop} (hy : plainName y.cls = true) (hn : As.length ≤ nL)
    (h : AJ Γ d y.cls cc nL ret post 0 (L0 As nL) [] σ) : EV Γ d y cc nL ret As σ post := by
  intro l D t ρ sz
  refine Met.ofW (cc := cc) (maxL := nL) (ret := ret) hy rfl ?_
  intro p e s m args below meth c s₁ B hml hv
  obtain ⟨rfl, hsz, hP, hK, hD0, hN⟩ := hv
  have hx := B.exec
  have hb := B.bytes
  have hr := B.returns
  have hts := atoms_spec (ws := Cond.code y cc nL ret :: WS) B.pre
  have hown : s.vm.findClass y.cls = some m.cls := findClass_of_methodNamed B.named
  have hlocks : meth.locks = false := B.notSynchronized
  subst hsz
  have hD := hD0.self (sz := s.heap.size)
  rw [lg_entry_eq]
  exact h D t ρ _ p l e s m _ below meth c s.heap [] _ ⟨hx, hb, hml, hown, hr, hlocks, fun w hw => hts w (List.mem_cons_of_mem _ hw), hN, hK, fun q hq => Or.inr hq⟩ hP hD va_S.rf (lvR.entry ρ As hn)
section Rules
variable {Γ : List Gc} {d : Nat} {own : String} {cc : ByteArray} {nL : Nat} {ret : Option FieldType} {post : Int32 → Mm → Prop} {pc : Nat} {L : List (Option Vl)} {st : List Vl} {σ : Mm}
theorem AJ.eq {pc' : Nat} {L' : List (Option Vl)} {st' : List Vl} {σ' : Mm} (k : AJ Γ d own cc nL ret post pc' L' st' σ') (h1 : pc = pc') (h2 : L = L') (h3 : st = st') (h4 : σ = σ') : AJ Γ d own cc nL ret post pc L st σ := by
  subst h1; subst h2; subst h3; subst h4; exact k
theorem j_iconst {n : Int} (hd : decode cc pc = .ok (.iconst n, 1)) {v : Int32} (hv : Int32.ofInt n = v) (k : AJ Γ d own cc nL ret post (pc + 1) L (.inl v :: st) σ) : AJ Γ d own cc nL ret post pc L st σ := by
  intro D t ρ A p l e s m args below meth c H locs ls C hP hD hS hl
  exact lv_iconst C.1 C.2.1 hd hv (k D t ρ A p l e s m args below meth c H locs ls C hP hD hS hl)
theorem j_bipush {n : Int} (hd : decode cc pc = .ok (.bipush n, 2)) {v : Int32} (hv : (Int8.ofInt n).toInt32 = v) (k : AJ Γ d own cc nL ret post (pc + 2) L (.inl v :: st) σ) : AJ Γ d own cc nL ret post pc L st σ := by
  intro D t ρ A p l e s m args below meth c H locs ls C hP hD hS hl
  exact lv_bipush C.1 C.2.1 hd hv (k D t ρ A p l e s m args below meth c H locs ls C hP hD hS hl)
theorem j_sipush {n : Int} (hd : decode cc pc = .ok (.sipush n, 3)) {v : Int32} (hv : (Int16.ofInt n).toInt32 = v) (k : AJ Γ d own cc nL ret post (pc + 3) L (.inl v :: st) σ) : AJ Γ d own cc nL ret post pc L st σ := by
  intro D t ρ A p l e s m args below meth c H locs ls C hP hD hS hl
  exact lv_sipush C.1 C.2.1 hd hv (k D t ρ A p l e s m args below meth c H locs ls C hP hD hS hl)
theorem j_ldc {index : Nat} {v : Int32} (hd : decode cc pc = .ok (.ldc index, 2)) (hw : Cond.constant own index v ∈ WS) (k : AJ Γ d own cc nL ret post (pc + 2) L (.inl v :: st) σ) : AJ Γ d own cc nL ret post pc L st σ := by
  intro D t ρ A p l e s m args below meth c H locs ls C hP hD hS hl
  exact lv_ldc C.1 C.2.1 C.2.2.2.1 (C.2.2.2.2.2.2.1 _ hw) hd (k D t ρ A p l e s m args below meth c H locs ls C hP hD hS hl)
theorem j_ldcw {index : Nat} {v : Int32} (hd : decode cc pc = .ok (.ldc_w index, 3)) (hw : Cond.constant own index v ∈ WS) (k : AJ Γ d own cc nL ret post (pc + 3) L (.inl v :: st) σ) : AJ Γ d own cc nL ret post pc L st σ := by
  intro D t ρ A p l e s m args below meth c H locs ls C hP hD hS hl
  exact lv_ldcw C.1 C.2.1 C.2.2.2.1 (C.2.2.2.2.2.2.1 _ hw) hd (k D t ρ A p l e s m args below meth c H locs ls C hP hD hS hl)
theorem j_iload {i : Nat} {x : Int32} (hd : decode cc pc = .ok (.iload i, 2)) (h : L[i]? = some (some (.inl x))) (k : AJ Γ d own cc nL ret post (pc + 2) L (.inl x :: st) σ) : AJ Γ d own cc nL ret post pc L st σ := by
  intro D t ρ A p l e s m args below meth c H locs ls C hP hD hS hl
  exact lv_iload C.1 C.2.1 hd (hl.2.2.2 _ _ h) (k D t ρ A p l e s m args below meth c H locs ls C hP hD hS hl)
theorem j_iload_n {i : Fin 4} {x : Int32} (hd : decode cc pc = .ok (.iload_n i, 1)) (h : L[i.val]? = some (some (.inl x))) (k : AJ Γ d own cc nL ret post (pc + 1) L (.inl x :: st) σ) : AJ Γ d own cc nL ret post pc L st σ := by
  intro D t ρ A p l e s m args below meth c H locs ls C hP hD hS hl
  exact lv_iload_n C.1 C.2.1 hd rfl (hl.2.2.2 _ _ h) (k D t ρ A p l e s m args below meth c H locs ls C hP hD hS hl)
theorem j_aload {i : Nat} {x : Nat} (hd : decode cc pc = .ok (.aload i, 2)) (h : L[i]? = some (some (.inr x))) (k : AJ Γ d own cc nL ret post (pc + 2) L (.inr x :: st) σ) : AJ Γ d own cc nL ret post pc L st σ := by
  intro D t ρ A p l e s m args below meth c H locs ls C hP hD hS hl
  exact lv_aload C.1 C.2.1 hd (hl.2.2.2 _ _ h) (k D t ρ A p l e s m args below meth c H locs ls C hP hD hS hl)
theorem j_aload_n {i : Fin 4} {x : Nat} (hd : decode cc pc = .ok (.aload_n i, 1)) (h : L[i.val]? = some (some (.inr x))) (k : AJ Γ d own cc nL ret post (pc + 1) L (.inr x :: st) σ) : AJ Γ d own cc nL ret post pc L st σ := by
  intro D t ρ A p l e s m args below meth c H locs ls C hP hD hS hl
  exact lv_aload_n C.1 C.2.1 hd rfl (hl.2.2.2 _ _ h) (k D t ρ A p l e s m args below meth c H locs ls C hP hD hS hl)
theorem j_istore {i : Nat} {x : Int32} (hd : decode cc pc = .ok (.istore i, 2)) (hi : i < nL) (k : AJ Γ d own cc nL ret post (pc + 2) (L.set i (some (.inl x))) st σ) : AJ Γ d own cc nL ret post pc L (.inl x :: st) σ := by
  intro D t ρ A p l e s m args below meth c H locs ls C hP hD hS hl
  exact lv_istore C.1 C.2.1 hd hl.has hi rfl (fun ls' h' => k D t ρ A p l e s m args below meth c H locs ls' C hP hD hS (hl.store (v := .inl x) hi h'))
theorem j_istore_n {i : Fin 4} {x : Int32} (hd : decode cc pc = .ok (.istore_n i, 1)) (hi : i.val < nL) (k : AJ Γ d own cc nL ret post (pc + 1) (L.set i.val (some (.inl x))) st σ) : AJ Γ d own cc nL ret post pc L (.inl x :: st) σ := by
  intro D t ρ A p l e s m args below meth c H locs ls C hP hD hS hl
  exact lv_istore_n C.1 C.2.1 hd rfl hl.has hi rfl (fun ls' h' => k D t ρ A p l e s m args below meth c H locs ls' C hP hD hS (hl.store (v := .inl x) hi h'))
theorem j_astore_n {i : Fin 4} {x : Nat} (hd : decode cc pc = .ok (.astore_n i, 1)) (hi : i.val < nL) (k : AJ Γ d own cc nL ret post (pc + 1) (L.set i.val (some (.inr x))) st σ) : AJ Γ d own cc nL ret post pc L (.inr x :: st) σ := by
  intro D t ρ A p l e s m args below meth c H locs ls C hP hD hS hl
  exact lv_astore_n C.1 C.2.1 hd rfl hl.has hi rfl (fun ls' h' => k D t ρ A p l e s m args below meth c H locs ls' C hP hD hS (hl.store (v := .inr x) hi h'))
theorem j_iinc {i : Nat} {n : Int} {x v : Int32} (hd : decode cc pc = .ok (.iinc i n, 3)) (h : L[i]? = some (some (.inl x))) (hv : x + Int32.ofInt n = v) (k : AJ Γ d own cc nL ret post (pc + 3) (L.set i (some (.inl v))) st σ) : AJ Γ d own cc nL ret post pc L st σ := by
  intro D t ρ A p l e s m args below meth c H locs ls C hP hD hS hl
  have hi : i < nL := by rw [← hl.2.2.1]; exact (List.getElem?_eq_some_iff.mp h).1
  have hm : (i, Value.int x) ∈ lvl ρ L := lvl_mem.mpr ⟨.inl x, h, rfl⟩
  obtain ⟨q, hq⟩ := List.getElem?_of_mem hm
  exact lv_iinc C.1 C.2.1 hd hl.has hq hv hi rfl (fun ls' h' => k D t ρ A p l e s m args below meth c H locs ls' C hP hD hS (hl.store (v := .inl v) hi h'))
theorem j_dup {v : Vl} (hd : decode cc pc = .ok (.dup, 1)) (k : AJ Γ d own cc nL ret post (pc + 1) L (v :: v :: st) σ) : AJ Γ d own cc nL ret post pc L (v :: st) σ := by
  intro D t ρ A p l e s m args below meth c H locs ls C hP hD hS hl
  exact lv_dup C.1 C.2.1 hd (e_cat ρ v) (k D t ρ A p l e s m args below meth c H locs ls C hP hD hS hl)
theorem j_dup2 {v w : Vl} (hd : decode cc pc = .ok (.dup2, 1)) (k : AJ Γ d own cc nL ret post (pc + 1) L (v :: w :: v :: w :: st) σ) : AJ Γ d own cc nL ret post pc L (v :: w :: st) σ := by
  intro D t ρ A p l e s m args below meth c H locs ls C hP hD hS hl
  exact lv_dup2_11 C.1 C.2.1 hd (e_cat ρ v) (e_cat ρ w) (k D t ρ A p l e s m args below meth c H locs ls C hP hD hS hl)
theorem j_pop {v : Vl} (hd : decode cc pc = .ok (.pop, 1)) (k : AJ Γ d own cc nL ret post (pc + 1) L st σ) : AJ Γ d own cc nL ret post pc L (v :: st) σ := by
  intro D t ρ A p l e s m args below meth c H locs ls C hP hD hS hl
  exact lv_pop C.1 C.2.1 hd (e_cat ρ v) (k D t ρ A p l e s m args below meth c H locs ls C hP hD hS hl)
theorem j_goto {off : Int} {tgt : Nat} (hd : decode cc pc = .ok (.goto off, 3)) (ht : (pc : Int) + off = (tgt : Int)) (k : AJ Γ d own cc nL ret post tgt L st σ) : AJ Γ d own cc nL ret post pc L st σ := by
  intro D t ρ A p l e s m args below meth c H locs ls C hP hD hS hl
  exact lv_goto C.1 C.2.1 hd ht (k D t ρ A p l e s m args below meth c H locs ls C hP hD hS hl)
theorem j_iadd {x y : Int32} (hd : decode cc pc = .ok (.iadd, 1)) (k : AJ Γ d own cc nL ret post (pc + 1) L (.inl (x + y) :: st) σ) : AJ Γ d own cc nL ret post pc L (.inl y :: .inl x :: st) σ := by
  intro D t ρ A p l e s m args below meth c H locs ls C hP hD hS hl
  exact lv_iadd C.1 C.2.1 hd (k D t ρ A p l e s m args below meth c H locs ls C hP hD hS hl)
theorem j_isub {x y : Int32} (hd : decode cc pc = .ok (.isub, 1)) (k : AJ Γ d own cc nL ret post (pc + 1) L (.inl (x - y) :: st) σ) : AJ Γ d own cc nL ret post pc L (.inl y :: .inl x :: st) σ := by
  intro D t ρ A p l e s m args below meth c H locs ls C hP hD hS hl
  exact lv_isub C.1 C.2.1 hd (k D t ρ A p l e s m args below meth c H locs ls C hP hD hS hl)
theorem j_imul {x y : Int32} (hd : decode cc pc = .ok (.imul, 1)) (k : AJ Γ d own cc nL ret post (pc + 1) L (.inl (x * y) :: st) σ) : AJ Γ d own cc nL ret post pc L (.inl y :: .inl x :: st) σ := by
  intro D t ρ A p l e s m args below meth c H locs ls C hP hD hS hl
  exact lv_imul C.1 C.2.1 hd (k D t ρ A p l e s m args below meth c H locs ls C hP hD hS hl)
theorem j_iand {x y : Int32} (hd : decode cc pc = .ok (.iand, 1)) (k : AJ Γ d own cc nL ret post (pc + 1) L (.inl (x &&& y) :: st) σ) : AJ Γ d own cc nL ret post pc L (.inl y :: .inl x :: st) σ := by
  intro D t ρ A p l e s m args below meth c H locs ls C hP hD hS hl
  exact lv_iand C.1 C.2.1 hd (k D t ρ A p l e s m args below meth c H locs ls C hP hD hS hl)
theorem j_ior {x y : Int32} (hd : decode cc pc = .ok (.ior, 1)) (k : AJ Γ d own cc nL ret post (pc + 1) L (.inl (x ||| y) :: st) σ) : AJ Γ d own cc nL ret post pc L (.inl y :: .inl x :: st) σ := by
  intro D t ρ A p l e s m args below meth c H locs ls C hP hD hS hl
  exact lv_ior C.1 C.2.1 hd (k D t ρ A p l e s m args below meth c H locs ls C hP hD hS hl)
theorem j_ixor {x y : Int32} (hd : decode cc pc = .ok (.ixor, 1)) (k : AJ Γ d own cc nL ret post (pc + 1) L (.inl (x ^^^ y) :: st) σ) : AJ Γ d own cc nL ret post pc L (.inl y :: .inl x :: st) σ := by
  intro D t ρ A p l e s m args below meth c H locs ls C hP hD hS hl
  exact lv_ixor C.1 C.2.1 hd (k D t ρ A p l e s m args below meth c H locs ls C hP hD hS hl)
theorem j_ishl {x y : Int32} (hd : decode cc pc = .ok (.ishl, 1)) (k : AJ Γ d own cc nL ret post (pc + 1) L (.inl (x <<< (y &&& 31)) :: st) σ) : AJ Γ d own cc nL ret post pc L (.inl y :: .inl x :: st) σ := by
  intro D t ρ A p l e s m args below meth c H locs ls C hP hD hS hl
  exact lv_ishl C.1 C.2.1 hd (k D t ρ A p l e s m args below meth c H locs ls C hP hD hS hl)
theorem j_ishr {x y : Int32} (hd : decode cc pc = .ok (.ishr, 1)) (k : AJ Γ d own cc nL ret post (pc + 1) L (.inl (x >>> (y &&& 31)) :: st) σ) : AJ Γ d own cc nL ret post pc L (.inl y :: .inl x :: st) σ := by
  intro D t ρ A p l e s m args below meth c H locs ls C hP hD hS hl
  exact lv_ishr C.1 C.2.1 hd (k D t ρ A p l e s m args below meth c H locs ls C hP hD hS hl)
theorem j_idiv {x y : Int32} (hd : decode cc pc = .ok (.idiv, 1)) (hne : ¬ y = 0) (k : AJ Γ d own cc nL ret post (pc + 1) L (.inl (x / y) :: st) σ) : AJ Γ d own cc nL ret post pc L (.inl y :: .inl x :: st) σ := by
  intro D t ρ A p l e s m args below meth c H locs ls C hP hD hS hl
  exact lv_idiv C.1 C.2.1 hd hne (k D t ρ A p l e s m args below meth c H locs ls C hP hD hS hl)
theorem j_irem {x y : Int32} (hd : decode cc pc = .ok (.irem, 1)) (hne : ¬ y = 0) (k : AJ Γ d own cc nL ret post (pc + 1) L (.inl (x - x / y * y) :: st) σ) : AJ Γ d own cc nL ret post pc L (.inl y :: .inl x :: st) σ := by
  intro D t ρ A p l e s m args below meth c H locs ls C hP hD hS hl
  exact lv_irem C.1 C.2.1 hd hne (k D t ρ A p l e s m args below meth c H locs ls C hP hD hS hl)
theorem j_iushr {x y v : Int32} (hd : decode cc pc = .ok (.iushr, 1)) (hv : (x.toUInt32 >>> (y.toUInt32 &&& Int32.toUInt32 31)).toInt32 = v) (k : AJ Γ d own cc nL ret post (pc + 1) L (.inl v :: st) σ) : AJ Γ d own cc nL ret post pc L (.inl y :: .inl x :: st) σ := by
  intro D t ρ A p l e s m args below meth c H locs ls C hP hD hS hl
  exact lv_iushr C.1 C.2.1 hd hv (k D t ρ A p l e s m args below meth c H locs ls C hP hD hS hl)
theorem j_icmp_eq {x y : Int32} {off : Int} {tgt : Nat} (hd : decode cc pc = .ok (.if_icmp .eq off, 3)) (ht : (pc : Int) + off = (tgt : Int)) (kt : x = y → AJ Γ d own cc nL ret post tgt L st σ) (kf : ¬ x = y → AJ Γ d own cc nL ret post (pc + 3) L st σ) : AJ Γ d own cc nL ret post pc L (.inl y :: .inl x :: st) σ := by
  intro D t ρ A p l e s m args below meth c H locs ls C hP hD hS hl
  exact lv_icmp_eq C.1 C.2.1 hd ht (fun h => kt h D t ρ A p l e s m args below meth c H locs ls C hP hD hS hl) (fun h => kf h D t ρ A p l e s m args below meth c H locs ls C hP hD hS hl)
theorem j_icmp_ne {x y : Int32} {off : Int} {tgt : Nat} (hd : decode cc pc = .ok (.if_icmp .ne off, 3)) (ht : (pc : Int) + off = (tgt : Int)) (kt : ¬ x = y → AJ Γ d own cc nL ret post tgt L st σ) (kf : x = y → AJ Γ d own cc nL ret post (pc + 3) L st σ) : AJ Γ d own cc nL ret post pc L (.inl y :: .inl x :: st) σ := by
  intro D t ρ A p l e s m args below meth c H locs ls C hP hD hS hl
  exact lv_icmp_ne C.1 C.2.1 hd ht (fun h => kt h D t ρ A p l e s m args below meth c H locs ls C hP hD hS hl) (fun h => kf h D t ρ A p l e s m args below meth c H locs ls C hP hD hS hl)
theorem j_icmp_lt {x y : Int32} {off : Int} {tgt : Nat} (hd : decode cc pc = .ok (.if_icmp .lt off, 3)) (ht : (pc : Int) + off = (tgt : Int)) (kt : x < y → AJ Γ d own cc nL ret post tgt L st σ) (kf : ¬ x < y → AJ Γ d own cc nL ret post (pc + 3) L st σ) : AJ Γ d own cc nL ret post pc L (.inl y :: .inl x :: st) σ := by
  intro D t ρ A p l e s m args below meth c H locs ls C hP hD hS hl
  exact lv_icmp_lt C.1 C.2.1 hd ht (fun h => kt h D t ρ A p l e s m args below meth c H locs ls C hP hD hS hl) (fun h => kf h D t ρ A p l e s m args below meth c H locs ls C hP hD hS hl)
theorem j_icmp_ge {x y : Int32} {off : Int} {tgt : Nat} (hd : decode cc pc = .ok (.if_icmp .ge off, 3)) (ht : (pc : Int) + off = (tgt : Int)) (kt : y ≤ x → AJ Γ d own cc nL ret post tgt L st σ) (kf : ¬ y ≤ x → AJ Γ d own cc nL ret post (pc + 3) L st σ) : AJ Γ d own cc nL ret post pc L (.inl y :: .inl x :: st) σ := by
  intro D t ρ A p l e s m args below meth c H locs ls C hP hD hS hl
  exact lv_icmp_ge C.1 C.2.1 hd ht (fun h => kt h D t ρ A p l e s m args below meth c H locs ls C hP hD hS hl) (fun h => kf h D t ρ A p l e s m args below meth c H locs ls C hP hD hS hl)
theorem j_icmp_gt {x y : Int32} {off : Int} {tgt : Nat} (hd : decode cc pc = .ok (.if_icmp .gt off, 3)) (ht : (pc : Int) + off = (tgt : Int)) (kt : y < x → AJ Γ d own cc nL ret post tgt L st σ) (kf : ¬ y < x → AJ Γ d own cc nL ret post (pc + 3) L st σ) : AJ Γ d own cc nL ret post pc L (.inl y :: .inl x :: st) σ := by
  intro D t ρ A p l e s m args below meth c H locs ls C hP hD hS hl
  exact lv_icmp_gt C.1 C.2.1 hd ht (fun h => kt h D t ρ A p l e s m args below meth c H locs ls C hP hD hS hl) (fun h => kf h D t ρ A p l e s m args below meth c H locs ls C hP hD hS hl)
theorem j_icmp_le {x y : Int32} {off : Int} {tgt : Nat} (hd : decode cc pc = .ok (.if_icmp .le off, 3)) (ht : (pc : Int) + off = (tgt : Int)) (kt : x ≤ y → AJ Γ d own cc nL ret post tgt L st σ) (kf : ¬ x ≤ y → AJ Γ d own cc nL ret post (pc + 3) L st σ) : AJ Γ d own cc nL ret post pc L (.inl y :: .inl x :: st) σ := by
  intro D t ρ A p l e s m args below meth c H locs ls C hP hD hS hl
  exact lv_icmp_le C.1 C.2.1 hd ht (fun h => kt h D t ρ A p l e s m args below meth c H locs ls C hP hD hS hl) (fun h => kf h D t ρ A p l e s m args below meth c H locs ls C hP hD hS hl)
theorem j_if_eq {x : Int32} {off : Int} {tgt : Nat} (hd : decode cc pc = .ok (.ifCond .eq off, 3)) (ht : (pc : Int) + off = (tgt : Int)) (kt : x = 0 → AJ Γ d own cc nL ret post tgt L st σ) (kf : ¬ x = 0 → AJ Γ d own cc nL ret post (pc + 3) L st σ) : AJ Γ d own cc nL ret post pc L (.inl x :: st) σ := by
  intro D t ρ A p l e s m args below meth c H locs ls C hP hD hS hl
  exact lv_if_eq C.1 C.2.1 hd ht (fun h => kt h D t ρ A p l e s m args below meth c H locs ls C hP hD hS hl) (fun h => kf h D t ρ A p l e s m args below meth c H locs ls C hP hD hS hl)
theorem j_if_ne {x : Int32} {off : Int} {tgt : Nat} (hd : decode cc pc = .ok (.ifCond .ne off, 3)) (ht : (pc : Int) + off = (tgt : Int)) (kt : ¬ x = 0 → AJ Γ d own cc nL ret post tgt L st σ) (kf : x = 0 → AJ Γ d own cc nL ret post (pc + 3) L st σ) : AJ Γ d own cc nL ret post pc L (.inl x :: st) σ := by
  intro D t ρ A p l e s m args below meth c H locs ls C hP hD hS hl
  exact lv_if_ne C.1 C.2.1 hd ht (fun h => kt h D t ρ A p l e s m args below meth c H locs ls C hP hD hS hl) (fun h => kf h D t ρ A p l e s m args below meth c H locs ls C hP hD hS hl)
theorem j_if_lt {x : Int32} {off : Int} {tgt : Nat} (hd : decode cc pc = .ok (.ifCond .lt off, 3)) (ht : (pc : Int) + off = (tgt : Int)) (kt : x < 0 → AJ Γ d own cc nL ret post tgt L st σ) (kf : ¬ x < 0 → AJ Γ d own cc nL ret post (pc + 3) L st σ) : AJ Γ d own cc nL ret post pc L (.inl x :: st) σ := by
  intro D t ρ A p l e s m args below meth c H locs ls C hP hD hS hl
  exact lv_if_lt C.1 C.2.1 hd ht (fun h => kt h D t ρ A p l e s m args below meth c H locs ls C hP hD hS hl) (fun h => kf h D t ρ A p l e s m args below meth c H locs ls C hP hD hS hl)
theorem j_if_ge {x : Int32} {off : Int} {tgt : Nat} (hd : decode cc pc = .ok (.ifCond .ge off, 3)) (ht : (pc : Int) + off = (tgt : Int)) (kt : 0 ≤ x → AJ Γ d own cc nL ret post tgt L st σ) (kf : ¬ 0 ≤ x → AJ Γ d own cc nL ret post (pc + 3) L st σ) : AJ Γ d own cc nL ret post pc L (.inl x :: st) σ := by
  intro D t ρ A p l e s m args below meth c H locs ls C hP hD hS hl
  exact lv_if_ge C.1 C.2.1 hd ht (fun h => kt h D t ρ A p l e s m args below meth c H locs ls C hP hD hS hl) (fun h => kf h D t ρ A p l e s m args below meth c H locs ls C hP hD hS hl)
theorem j_if_gt {x : Int32} {off : Int} {tgt : Nat} (hd : decode cc pc = .ok (.ifCond .gt off, 3)) (ht : (pc : Int) + off = (tgt : Int)) (kt : 0 < x → AJ Γ d own cc nL ret post tgt L st σ) (kf : ¬ 0 < x → AJ Γ d own cc nL ret post (pc + 3) L st σ) : AJ Γ d own cc nL ret post pc L (.inl x :: st) σ := by
  intro D t ρ A p l e s m args below meth c H locs ls C hP hD hS hl
  exact lv_if_gt C.1 C.2.1 hd ht (fun h => kt h D t ρ A p l e s m args below meth c H locs ls C hP hD hS hl) (fun h => kf h D t ρ A p l e s m args below meth c H locs ls C hP hD hS hl)
theorem j_if_le {x : Int32} {off : Int} {tgt : Nat} (hd : decode cc pc = .ok (.ifCond .le off, 3)) (ht : (pc : Int) + off = (tgt : Int)) (kt : x ≤ 0 → AJ Γ d own cc nL ret post tgt L st σ) (kf : ¬ x ≤ 0 → AJ Γ d own cc nL ret post (pc + 3) L st σ) : AJ Γ d own cc nL ret post pc L (.inl x :: st) σ := by
  intro D t ρ A p l e s m args below meth c H locs ls C hP hD hS hl
  exact lv_if_le C.1 C.2.1 hd ht (fun h => kt h D t ρ A p l e s m args below meth c H locs ls C hP hD hS hl) (fun h => kf h D t ρ A p l e s m args below meth c H locs ls C hP hD hS hl)
theorem j_tableIn {dflt lo hi : Int} {offs : Array Int} {len : Nat} {x : Int32} {off : Int} {tgt : Nat} (hd : decode cc pc = .ok (.tableswitch dflt lo hi offs, len)) (h1 : ¬ x.toInt < lo) (h2 : ¬ hi < x.toInt) (ho : offs[(x.toInt - lo).toNat]? = some off) (ht : (pc : Int) + off = (tgt : Int)) (k : AJ Γ d own cc nL ret post tgt L st σ) : AJ Γ d own cc nL ret post pc L (.inl x :: st) σ := by
  intro D t ρ A p l e s m args below meth c H locs ls C hP hD hS hl
  exact lv_tableIn C.1 C.2.1 hd h1 h2 ho ht (k D t ρ A p l e s m args below meth c H locs ls C hP hD hS hl)
theorem j_tableOut {dflt lo hi : Int} {offs : Array Int} {len : Nat} {x : Int32} {tgt : Nat} (hd : decode cc pc = .ok (.tableswitch dflt lo hi offs, len)) (h : x.toInt < lo ∨ hi < x.toInt) (ht : (pc : Int) + dflt = (tgt : Int)) (k : AJ Γ d own cc nL ret post tgt L st σ) : AJ Γ d own cc nL ret post pc L (.inl x :: st) σ := by
  intro D t ρ A p l e s m args below meth c H locs ls C hP hD hS hl
  exact lv_tableOut C.1 C.2.1 hd h ht (k D t ρ A p l e s m args below meth c H locs ls C hP hD hS hl)
theorem j_lookup {dflt : Int} {ps : Array (Int × Int)} {len : Nat} {x : Int32} {off : Int} {tgt : Nat} (hd : decode cc pc = .ok (.lookupswitch dflt ps, len)) (hp : (ps.toList.zip (ps.toList.drop 1)).all (fun (a, next) => a.1 < next.1) = true) (ho : Op.lookupswitch.offset ps.toList dflt x.toInt = off) (ht : (pc : Int) + off = (tgt : Int)) (k : AJ Γ d own cc nL ret post tgt L st σ) : AJ Γ d own cc nL ret post pc L (.inl x :: st) σ := by
  intro D t ρ A p l e s m args below meth c H locs ls C hP hD hS hl
  exact lv_lookup C.1 C.2.1 hd hp ho ht (k D t ρ A p l e s m args below meth c H locs ls C hP hD hS hl)
theorem j_getI {index ci k a : Nat} {ty : FieldType} {fin : Bool} {fs : List Nat} (hd : decode cc pc = .ok (.getfield index, 3)) (fk : Fk own index ci k ty fin) (hg : Γ[a]? = some (.inr (ci, fs))) (hf : fs[k]? = some 0) (kk : AJ Γ d own cc nL ret post (pc + 3) L (.inl (σ a k) :: st) σ) : AJ Γ d own cc nL ret post pc L (.inr a :: st) σ := by
  intro D t ρ A p l e s m args below meth c H locs ls C hP hD hS hl
  obtain ⟨C1, T, N, hc, hk, hlink, hin, hC, -, -, -⟩ := fk
  have hv : (fs.mapIdx (e_fld ρ (σ a)))[k]? = some (.int (σ a k)) := e_fget hf
  have hts := C.2.2.2.2.2.2.1
  rcases hlink with hlink | ⟨host, hlink⟩
  · exact va_get C.1 C.2.1 hts hin C.2.2.2.1 C.2.2.2.2.2.2.2.2.1 hP a (e_get hg) hc k hk (hts _ hlink) (fun _ h9 => by rw [hC] at h9; exact h9) hv hd (kk D t ρ A p l e s m args below meth c H locs ls C hP hD hS hl)
  · exact va_getN C.1 C.2.1 hts hin C.2.2.2.1 C.2.2.2.2.2.2.2.2.1 hP a (e_get hg) hc k hk (va_Nw.use rfl (C.2.2.2.2.2.2.2.1 _ hlink rfl)) (fun _ h9 => by rw [hC] at h9; exact h9) hv hd (kk D t ρ A p l e s m args below meth c H locs ls C hP hD hS hl)
theorem j_getR {index ci k a b : Nat} {ty : FieldType} {fin : Bool} {fs : List Nat} (hd : decode cc pc = .ok (.getfield index, 3)) (fk : Fk own index ci k ty fin) (hg : Γ[a]? = some (.inr (ci, fs))) (hf : fs[k]? = some (b + 1)) (kk : AJ Γ d own cc nL ret post (pc + 3) L (.inr b :: st) σ) : AJ Γ d own cc nL ret post pc L (.inr a :: st) σ := by
  intro D t ρ A p l e s m args below meth c H locs ls C hP hD hS hl
  obtain ⟨C1, T, N, hc, hk, hlink, hin, hC, -, -, -⟩ := fk
  have hv : (fs.mapIdx (e_fld ρ (σ a)))[k]? = some (.ref (ρ b)) := e_fget hf
  have hts := C.2.2.2.2.2.2.1
  rcases hlink with hlink | ⟨host, hlink⟩
  · exact va_get C.1 C.2.1 hts hin C.2.2.2.1 C.2.2.2.2.2.2.2.2.1 hP a (e_get hg) hc k hk (hts _ hlink) (fun _ h9 => by rw [hC] at h9; exact h9) hv hd (kk D t ρ A p l e s m args below meth c H locs ls C hP hD hS hl)
  · exact va_getN C.1 C.2.1 hts hin C.2.2.2.1 C.2.2.2.2.2.2.2.2.1 hP a (e_get hg) hc k hk (va_Nw.use rfl (C.2.2.2.2.2.2.2.1 _ hlink rfl)) (fun _ h9 => by rw [hC] at h9; exact h9) hv hd (kk D t ρ A p l e s m args below meth c H locs ls C hP hD hS hl)
theorem j_putX {index ci k a : Nat} {ty : FieldType} {fs : List Nat} {v : Int32} (hd : decode cc pc = .ok (.putfield index, 3)) (fk : Fk own index ci k ty false) (hg : Γ[a]? = some (.inr (ci, fs))) (hf : fs[k]? = some 0) (hn : narrow ty (.int v) = .int v) (hfit : fits ty (.int v) = true) (kk : AJ Γ d own cc nL ret post (pc + 3) L st (m_up σ a k v)) : AJ Γ d own cc nL ret post pc L (.inl v :: .inr a :: st) σ := by
  intro D t ρ A p l e s m args below meth c H locs ls C hP hD hS hl
  obtain ⟨C1, T, N, hc, hk, hlink, hin, hC, ⟨ty0, hty, hnm⟩, hdd, hfin⟩ := fk
  have hts := C.2.2.2.2.2.2.1
  have hq : (e_W t Γ ρ σ).set a (ρ a, .inr (ci, (fs.mapIdx (e_fld ρ (σ a))).set k (.int v))) = e_W t Γ ρ (m_up σ a k v) := e_set hg (by rw [e_fset hf]; rfl)
  have hlen : k < (fs.mapIdx (e_fld ρ (σ a))).length := by
    rw [List.length_mapIdx]
    exact (List.getElem?_eq_some_iff.mp hf).1
  rcases hlink with hlink | ⟨host, hlink⟩
  · refine va_put (v := .int v) C.1 C.2.1 hts hin ty0 hty hnm C.2.2.2.1 C.2.2.2.2.2.2.2.2.1 hP hD hS a (e_get hg) hc k hk (hts _ hlink) (fun _ h9 => by rw [hC] at h9; exact h9) hfin hdd hn hfit hlen hd (fun H1 locs1 hP1 hD1 hS1 => ?_)
    rw [hq] at hP1 hD1
    exact kk D t ρ A p l e s m args below meth c H1 locs1 ls C hP1 hD1 hS1 hl
  · refine va_putN (v := .int v) C.1 C.2.1 hts hin ty0 hty hnm C.2.2.2.1 C.2.2.2.2.2.2.2.2.1 hP hD hS a (e_get hg) hc k hk (va_Nw.use rfl (C.2.2.2.2.2.2.2.1 _ hlink rfl)) (fun _ h9 => by rw [hC] at h9; exact h9) hfin hdd hn hfit hlen hd (fun H1 locs1 hP1 hD1 hS1 => ?_)
    rw [hq] at hP1 hD1
    exact kk D t ρ A p l e s m args below meth c H1 locs1 ls C hP1 hD1 hS1 hl
theorem j_put {index ci k a : Nat} {fs : List Nat} {v : Int32} (hd : decode cc pc = .ok (.putfield index, 3)) (fk : Fk own index ci k .int false) (hg : Γ[a]? = some (.inr (ci, fs))) (hf : fs[k]? = some 0) (kk : AJ Γ d own cc nL ret post (pc + 3) L st (m_up σ a k v)) : AJ Γ d own cc nL ret post pc L (.inl v :: .inr a :: st) σ := j_putX hd fk hg hf rfl rfl kk
theorem nz_of {v : Int32} (hv : v = 0 ∨ v = 1) : narrow .boolean (.int v) = .int v ∧ fits .boolean (.int v) = true ∧ vp_nar .boolean v = v := by
  rcases hv with rfl | rfl <;> exact ⟨by decide, by decide, by decide⟩
theorem j_putZ {index ci k a : Nat} {fs : List Nat} {v : Int32} (hd : decode cc pc = .ok (.putfield index, 3)) (fk : Fk own index ci k .boolean false) (hg : Γ[a]? = some (.inr (ci, fs))) (hf : fs[k]? = some 0) (hv : v = 0 ∨ v = 1) (kk : AJ Γ d own cc nL ret post (pc + 3) L st (m_up σ a k v)) : AJ Γ d own cc nL ret post pc L (.inl v :: .inr a :: st) σ := j_putX hd fk hg hf (nz_of hv).1 (nz_of hv).2.1 kk
theorem j_iald {a n : Nat} {ids : List Nat} {i : Int32} (hd : decode cc pc = .ok (.iaload, 1)) (hg : Γ[a]? = some (.inl (0, n, ids))) (hin : vp_in i n) (kk : AJ Γ d own cc nL ret post (pc + 1) L (.inl (σ a i.toNatClampNeg) :: st) σ) : AJ Γ d own cc nL ret post pc L (.inl i :: .inr a :: st) σ := by
  intro D t ρ A p l e s m args below meth c H locs ls C hP hD hS hl
  exact va_iald C.1 C.2.1 C.2.2.2.2.2.2.2.2.1 hP a 0 (e_get hg) rfl hin hd (kk D t ρ A p l e s m args below meth c H locs ls C hP hD hS hl)
theorem j_zald {a n : Nat} {ids : List Nat} {i : Int32} (hd : decode cc pc = .ok (.baload, 1)) (hg : Γ[a]? = some (.inl (1, n, ids))) (hin : vp_in i n) (kk : AJ Γ d own cc nL ret post (pc + 1) L (.inl (σ a i.toNatClampNeg) :: st) σ) : AJ Γ d own cc nL ret post pc L (.inl i :: .inr a :: st) σ := by
  intro D t ρ A p l e s m args below meth c H locs ls C hP hD hS hl
  exact va_zald C.1 C.2.1 C.2.2.2.2.2.2.2.2.1 hP a 1 (e_get hg) rfl hin hd (kk D t ρ A p l e s m args below meth c H locs ls C hP hD hS hl)
theorem j_iast {a n : Nat} {ids : List Nat} {i v : Int32} (hd : decode cc pc = .ok (.iastore, 1)) (hg : Γ[a]? = some (.inl (0, n, ids))) (hin : vp_in i n) (kk : AJ Γ d own cc nL ret post (pc + 1) L st (m_up σ a i.toNatClampNeg v)) : AJ Γ d own cc nL ret post pc L (.inl v :: .inl i :: .inr a :: st) σ := by
  intro D t ρ A p l e s m args below meth c H locs ls C hP hD hS hl
  refine va_iast C.1 C.2.1 C.2.2.2.2.2.2.2.2.1 hP hD hS a 0 (e_get hg) rfl hin hd (fun H1 locs1 hP1 hD1 hS1 => ?_)
  have hq : (e_W t Γ ρ σ).set a (ρ a, .inl (t.1, n, .inl (upd (σ a) i.toNatClampNeg v))) = e_W t Γ ρ (m_up σ a i.toNatClampNeg v) := e_set hg rfl
  rw [hq] at hP1 hD1
  exact kk D t ρ A p l e s m args below meth c H1 locs1 ls C hP1 hD1 hS1 hl
theorem j_zast {a n : Nat} {ids : List Nat} {i v : Int32} (hd : decode cc pc = .ok (.bastore, 1)) (hg : Γ[a]? = some (.inl (1, n, ids))) (hin : vp_in i n) (hv : v = 0 ∨ v = 1) (kk : AJ Γ d own cc nL ret post (pc + 1) L st (m_up σ a i.toNatClampNeg v)) : AJ Γ d own cc nL ret post pc L (.inl v :: .inl i :: .inr a :: st) σ := by
  intro D t ρ A p l e s m args below meth c H locs ls C hP hD hS hl
  refine va_zast C.1 C.2.1 C.2.2.2.2.2.2.2.2.1 hP hD hS a 1 (e_get hg) rfl hin hd (fun H1 locs1 hP1 hD1 hS1 => ?_)
  rw [(nz_of hv).2.2] at hP1 hD1
  have hq : (e_W t Γ ρ σ).set a (ρ a, .inl (t.2.1, n, .inl (upd (σ a) i.toNatClampNeg v))) = e_W t Γ ρ (m_up σ a i.toNatClampNeg v) := e_set hg rfl
  rw [hq] at hP1 hD1
  exact kk D t ρ A p l e s m args below meth c H1 locs1 ls C hP1 hD1 hS1 hl
theorem j_aald {a n b : Nat} {ids : List Nat} {i : Int32} (hd : decode cc pc = .ok (.aaload, 1)) (hg : Γ[a]? = some (.inl (2, n, ids))) (hin : vp_in i n) (hb : ids[i.toNatClampNeg]? = some b) (kk : AJ Γ d own cc nL ret post (pc + 1) L (.inr b :: st) σ) : AJ Γ d own cc nL ret post pc L (.inl i :: .inr a :: st) σ := by
  intro D t ρ A p l e s m args below meth c H locs ls C hP hD hS hl
  refine va_aldq C.1 C.2.1 C.2.2.2.2.2.2.2.2.1 hP a 2 (e_get hg) rfl hin hd ?_
  have h2 : va_rf ((ids[i.toNatClampNeg]?).map ρ) = .ref (ρ b) := by rw [hb]; rfl
  show W p l e (rmd d) s m args below meth c H locs 0 0 _ (F0 m (pc + 1) ls (va_rf ((ids[i.toNatClampNeg]?).map ρ) :: st.map (e_val ρ)))
  rw [h2]
  exact kk D t ρ A p l e s m args below meth c H locs ls C hP hD hS hl
theorem j_alen {a k n : Nat} {ids : List Nat} {v : Int32} (hd : decode cc pc = .ok (.arraylength, 1)) (hg : Γ[a]? = some (.inl (k, n, ids))) (hv : Int32.ofNat n = v) (kk : AJ Γ d own cc nL ret post (pc + 1) L (.inl v :: st) σ) : AJ Γ d own cc nL ret post pc L (.inr a :: st) σ := by
  intro D t ρ A p l e s m args below meth c H locs ls C hP hD hS hl
  have kk := kk D t ρ A p l e s m args below meth c H locs ls C hP hD hS hl
  match k, hg with
  | 0, hg => exact va_alen C.1 C.2.1 C.2.2.2.2.2.2.2.2.1 hP a 0 (e_get hg) rfl hv hd kk
  | 1, hg => exact va_alen C.1 C.2.1 C.2.2.2.2.2.2.2.2.1 hP a 1 (e_get hg) rfl hv hd kk
  | k + 2, hg => exact va_alen C.1 C.2.1 C.2.2.2.2.2.2.2.2.1 hP a 2 (e_get hg) rfl hv hd kk
/-! ends -/
theorem j_vret (hd : decode cc pc = .ok (.return_, 1)) (hp : post 0 σ) : AJ Γ d own cc nL none post pc L [] σ := by
  intro D t ρ A p l e s m args below meth c H locs ls C hP hD hS hl
  have hlocks : meth.locks = false := C.2.2.2.2.2.1
  exact W.vret C.1 C.2.1 C.2.2.2.2.1 (fun t1 ht hW => ⟨⟨σ, rfl, hp, by show va_P _ _ _ t1.heap; rw [ht]; exact hP⟩, hS.F ht⟩) hS.2.2 hd
theorem j_iret {v : Int32} (hd : decode cc pc = .ok (.ireturn, 1)) (hp : post v σ) : AJ Γ d own cc nL (some .int) post pc L [.inl v] σ := by
  intro D t ρ A p l e s m args below meth c H locs ls C hP hD hS hl
  have hlocks : meth.locks = false := C.2.2.2.2.2.1
  exact W.iret (v := v) C.1 C.2.1 C.2.2.2.2.1 (fun t1 ht hW => ⟨⟨v, σ, rfl, hp, by show va_P _ _ _ t1.heap; rw [ht]; exact hP⟩, hS.F ht⟩) hS.2.2 hd
theorem j_zret {v : Int32} (hd : decode cc pc = .ok (.ireturn, 1)) (hv : v = 0 ∨ v = 1) (hp : post v σ) : AJ Γ d own cc nL (some .boolean) post pc L [.inl v] σ := by
  intro D t ρ A p l e s m args below meth c H locs ls C hP hD hS hl
  have hlocks : meth.locks = false := C.2.2.2.2.2.1
  exact W.zret (v := v) C.1 C.2.1 C.2.2.2.2.1 (nz_of hv).1 (fun t1 ht hW => ⟨⟨v, σ, rfl, hp, by show va_P _ _ _ t1.heap; rw [ht]; exact hP⟩, hS.F ht⟩) hS.2.2 hd
/-! calls -/
theorem e_blind {D : va_G} {t : Tc} {ρ : Nat → Nat} {As : List Vl} {sz : Nat} : FrameBlind (va_Pc (As.map (e_val ρ)) (fun U => U.heap.size = sz ∧ va_P D vwCl (e_W t Γ ρ σ) U.heap ∧ va_K D vwCl (tysOf t) U ∧ va_D (fun _ => True) (e_W t Γ ρ σ) ∧ NS U)) := fun a U g mk q => by
  obtain ⟨q0, q1, qP, qK, qD, qN⟩ := q
  exact ⟨q0, q1, qP, va_K.moved (u := U) (U := U.calling g mk a) (Vm.Alike.refl U.vm) qK, qD, NS.same (s := U) (U := U.calling g mk a) rfl qN⟩
theorem e_freeA {D : va_G} {t : Tc} {ρ : Nat → Nat} {A : Nat → Prop} {s : State} {H : Heap} {locs : List Loc} (hD : va_D A (e_W t Γ ρ σ)) (hS : va_S A s.heap H locs) (hA : ∀ q : Nat, s.heap.size ≤ q → A q) : ∀ q : Nat, va_A (e_W t Γ ρ σ) H.size q → A q := by
  intro q h
  rcases h with ⟨k, x, hk⟩ | h
  · exact hD.2 k _ hk
  · exact hA q (Nat.le_trans hS.1 h)
section Call
variable {index : Nat} {y : MethodName} {cc' : ByteArray} {nL' d' n b : Nat} {ty : FieldType} {C1 : String} {As st0 : List Vl} {post' : Int32 → Mm → Prop}
theorem e_stk {ρ : Nat → Nat} (hst : st0 = As.reverse ++ .inr b :: st) : st0.map (e_val ρ) = (As.map (e_val ρ)).reverse ++ .ref (ρ b) :: st.map (e_val ρ) := by
  subst hst
  rw [List.map_append, List.map_reverse]
  rfl
theorem e_stkS {ρ : Nat → Nat} (hst : st0 = As.reverse ++ st) : st0.map (e_val ρ) = (As.map (e_val ρ)).reverse ++ st.map (e_val ρ) := by
  subst hst
  rw [List.map_append, List.map_reverse]
theorem e_room {m : MethodId} {ls : Array Slot} {r2 : List Value} {ρ : Nat → Nat} (h : st.length ≤ 8) : 2 * (F0 m pc ls r2).monitorRoom + (((st.map (e_val ρ)).map fun v => v.category).sum) ≤ 8 := lv_room (by rw [e_cats]; exact h)
theorem e_rm (h1 : d' < d) (h2 : nL' ≤ 17) : (rmd d').frames + 1 ≤ (rmd d).frames ∧ 8 + (nL' + 11) + (rmd d').locals ≤ (rmd d).locals := ⟨h1, by show 8 + (nL' + 11) + 36 * d' ≤ 36 * d; omega⟩
theorem g_code {ret' : Option FieldType} (h : Cond.code y cc' nL' ret' ∈ WS) : ∀ w ∈ Cond.code y cc' nL' ret' :: WS, w ∈ WS := fun w hw => (List.mem_cons.mp hw).elim (fun e => e ▸ h) id
theorem g_V {ret' : Option FieldType} (ck : CkV own index y cc' nL' ret' C1 n) : GoodIn WS (wsV own index C1 y (Cond.code y cc' nL' ret' :: WS)) := ws_in (by
  obtain ⟨h1, h2, h3, h4, h5, -⟩ := ck
  intro w hw
  rcases List.mem_append.mp hw with h | h
  · rcases List.mem_cons.mp h with rfl | h
    · exact h1
    · rcases List.mem_cons.mp h with rfl | h
      · exact h2
      · rcases List.mem_cons.mp h with rfl | h
        · exact h3
        · rcases List.mem_cons.mp h with rfl | h
          · exact h4
          · cases h
  · exact g_code h5 w h)
theorem g_S {ret' : Option FieldType} (ck : CkS own index y cc' nL' ret' n) : GoodIn WS (va_wsS own index y (Cond.code y cc' nL' ret' :: WS)) := ws_in (by
  obtain ⟨h1, h2, h3, h5, -⟩ := ck
  intro w hw
  rcases List.mem_append.mp hw with h | h
  · rcases List.mem_cons.mp h with rfl | h
    · exact h1
    · rcases List.mem_cons.mp h with rfl | h
      · exact h2
      · rcases List.mem_cons.mp h with rfl | h
        · exact h3
        · cases h
  · exact g_code h5 w h)
theorem e_preV {D : va_G} {t : Tc} {ρ : Nat → Nat} {A : Nat → Prop} {p : Program} {s : State} {m : MethodId} {args : Array Value} {meth : Method} {c : Code} {H : Heap} {ci : Nat} {T : u_T} {N : Nat} {fs : List Nat} (C : Cx own cc nL ret D t A p s m args meth c) (hP : va_P D vwCl (e_W t Γ ρ σ) H) (hD : va_D A (e_W t Γ ρ σ)) (hr : Γ[b]? = some (.inr (ci, fs))) (hc : vwCl[ci]? = some (C1, T, N)) :
    PreV s H C1 (ρ b) (va_Pc ((.inr b :: As).map (e_val ρ)) (fun U => U.heap.size = H.size ∧ va_P D vwCl (e_W t Γ ρ σ) U.heap ∧ va_K D vwCl (tysOf t) U ∧ va_D (fun _ => True) (e_W t Γ ρ σ) ∧ NS U)) (As.map (e_val ρ)) := by
  refine ⟨e_blind, va_recv C.2.2.2.2.2.2.2.2.1 hP hc (e_get hr), fun U hU hW => ⟨rfl, by rw [hU], by rw [hU]; exact hP, va_K.moved hW.alike C.2.2.2.2.2.2.2.2.1, hD.weaken (fun _ _ _ _ => trivial), NS.warm hW C.2.2.2.2.2.2.2.1⟩⟩
theorem e_preS {D : va_G} {t : Tc} {ρ : Nat → Nat} {A : Nat → Prop} {p : Program} {s : State} {m : MethodId} {args : Array Value} {meth : Method} {c : Code} {H : Heap} (C : Cx own cc nL ret D t A p s m args meth c) (hP : va_P D vwCl (e_W t Γ ρ σ) H) (hD : va_D A (e_W t Γ ρ σ)) :
    PreS s H (va_Pc (As.map (e_val ρ)) (fun U => U.heap.size = H.size ∧ va_P D vwCl (e_W t Γ ρ σ) U.heap ∧ va_K D vwCl (tysOf t) U ∧ va_D (fun _ => True) (e_W t Γ ρ σ) ∧ NS U)) (As.map (e_val ρ)) := by
  refine ⟨e_blind, fun U hU hW => ⟨rfl, by rw [hU], by rw [hU]; exact hP, va_K.moved hW.alike C.2.2.2.2.2.2.2.2.1, hD.weaken (fun _ _ _ _ => trivial), NS.warm hW C.2.2.2.2.2.2.2.1⟩⟩
theorem j_callVi {ci : Nat} {T : u_T} {N : Nat} {fs : List Nat} (hd : decode cc pc = .ok (.invokevirtual index, 3)) (ck : CkV own index y cc' nL' (some ty) C1 n) (hev : EV Γ d' y cc' nL' (some ty) (.inr b :: As) σ post') (hr : Γ[b]? = some (.inr (ci, fs))) (hc : vwCl[ci]? = some (C1, T, N)) (hn : As.length = n) (hdd : d' < d) (hst : st0 = As.reverse ++ .inr b :: st) (hsz : st.length ≤ 8) (k : ∀ (r : Int32) (σ1 : Mm), post' r σ1 → AJ Γ d own cc nL ret post (pc + 3) L (.inl r :: st) σ1) : AJ Γ d own cc nL ret post pc L st0 σ := by
  intro D t ρ A p l e s m args below meth c H locs ls C hP hD hS hl
  have hts := C.2.2.2.2.2.2.1
  have hFc := e_freeA (D := D) hD hS C.2.2.2.2.2.2.2.2.2
  refine va_calli (va_runV (As := As.map (e_val ρ)) (rest := st.map (e_val ρ)) (C := C1) (b := ρ b) ⟨C.1, C.2.1, C.2.2.1, C.2.2.2.1, hts⟩ (hev l D t ρ H.size) (cwV n hts (g_V ck) rfl rfl rfl ⟨ck.2.2.2.2.2.1, ck.2.2.2.2.2.2.1⟩ (e_rm hdd ck.2.2.2.2.2.2.2)) (e_preV C hP hD hr hc) rfl (by rw [List.length_map]; exact hn) hl.1 (e_stk hst) (e_room hsz) hd ⟨Nat.le_refl _, Nat.le_refl _⟩) hS (fun q _ h => hFc q h) hFc (fun r u t1 H1 locs1 ht hvm hw hB hz1 hk1 hS1 => ?_)
  have hB' : va_P D vwCl (e_W t Γ ρ u) H1 := by rw [← ht]; exact hB
  exact k r u hw D t ρ A p l e s m args below meth c H1 locs1 ls C hB' (e_D hD) hS1 hl
theorem j_callSi (hd : decode cc pc = .ok (.invokestatic index, 3)) (ck : CkS own index y cc' nL' (some ty) n) (hev : EV Γ d' y cc' nL' (some ty) As σ post') (hn : As.length = n) (hdd : d' < d) (hst : st0 = As.reverse ++ st) (hsz : st.length ≤ 8) (k : ∀ (r : Int32) (σ1 : Mm), post' r σ1 → AJ Γ d own cc nL ret post (pc + 3) L (.inl r :: st) σ1) : AJ Γ d own cc nL ret post pc L st0 σ := by
  intro D t ρ A p l e s m args below meth c H locs ls C hP hD hS hl
  have hts := C.2.2.2.2.2.2.1
  have hFc := e_freeA (D := D) hD hS C.2.2.2.2.2.2.2.2.2
  refine va_calli (va_runS (As := As.map (e_val ρ)) (rest := st.map (e_val ρ)) ⟨C.1, C.2.1, C.2.2.1, C.2.2.2.1, hts⟩ (hev l D t ρ H.size) (va_cwS n hts (g_S ck) rfl rfl rfl ck.2.2.2.2.1 (e_rm hdd ck.2.2.2.2.2)) (e_preS C hP hD) rfl (by rw [List.length_map]; exact hn) hl.1 (e_stkS hst) (e_room hsz) hd ⟨Nat.le_refl _, Nat.le_refl _⟩) hS (fun q _ h => hFc q h) hFc (fun r u t1 H1 locs1 ht hvm hw hB hz1 hk1 hS1 => ?_)
  have hB' : va_P D vwCl (e_W t Γ ρ u) H1 := by rw [← ht]; exact hB
  exact k r u hw D t ρ A p l e s m args below meth c H1 locs1 ls C hB' (e_D hD) hS1 hl
theorem j_callVv {ci : Nat} {T : u_T} {N : Nat} {fs : List Nat} (hd : decode cc pc = .ok (.invokevirtual index, 3)) (ck : CkV own index y cc' nL' none C1 n) (hev : EV Γ d' y cc' nL' none (.inr b :: As) σ post') (hr : Γ[b]? = some (.inr (ci, fs))) (hc : vwCl[ci]? = some (C1, T, N)) (hn : As.length = n) (hdd : d' < d) (hst : st0 = As.reverse ++ .inr b :: st) (hsz : st.length ≤ 8) (k : ∀ σ1 : Mm, post' 0 σ1 → AJ Γ d own cc nL ret post (pc + 3) L st σ1) : AJ Γ d own cc nL ret post pc L st0 σ := by
  intro D t ρ A p l e s m args below meth c H locs ls C hP hD hS hl
  have hts := C.2.2.2.2.2.2.1
  have hFc := e_freeA (D := D) hD hS C.2.2.2.2.2.2.2.2.2
  refine va_callv (va_runV (As := As.map (e_val ρ)) (rest := st.map (e_val ρ)) (C := C1) (b := ρ b) ⟨C.1, C.2.1, C.2.2.1, C.2.2.2.1, hts⟩ (hev l D t ρ H.size) (cwV n hts (g_V ck) rfl rfl rfl ⟨ck.2.2.2.2.2.1, ck.2.2.2.2.2.2.1⟩ (e_rm hdd ck.2.2.2.2.2.2.2)) (e_preV C hP hD hr hc) rfl (by rw [List.length_map]; exact hn) hl.1 (e_stk hst) (e_room hsz) hd ⟨Nat.le_refl _, Nat.le_refl _⟩) hS (fun q _ h => hFc q h) hFc (fun u t1 H1 locs1 ht hvm hw hB hz1 hk1 hS1 => ?_)
  have hB' : va_P D vwCl (e_W t Γ ρ u) H1 := by rw [← ht]; exact hB
  exact k u hw D t ρ A p l e s m args below meth c H1 locs1 ls C hB' (e_D hD) hS1 hl
theorem j_callSv (hd : decode cc pc = .ok (.invokestatic index, 3)) (ck : CkS own index y cc' nL' none n) (hev : EV Γ d' y cc' nL' none As σ post') (hn : As.length = n) (hdd : d' < d) (hst : st0 = As.reverse ++ st) (hsz : st.length ≤ 8) (k : ∀ σ1 : Mm, post' 0 σ1 → AJ Γ d own cc nL ret post (pc + 3) L st σ1) : AJ Γ d own cc nL ret post pc L st0 σ := by
  intro D t ρ A p l e s m args below meth c H locs ls C hP hD hS hl
  have hts := C.2.2.2.2.2.2.1
  have hFc := e_freeA (D := D) hD hS C.2.2.2.2.2.2.2.2.2
  refine va_callv (va_runS (As := As.map (e_val ρ)) (rest := st.map (e_val ρ)) ⟨C.1, C.2.1, C.2.2.1, C.2.2.2.1, hts⟩ (hev l D t ρ H.size) (va_cwS n hts (g_S ck) rfl rfl rfl ck.2.2.2.2.1 (e_rm hdd ck.2.2.2.2.2)) (e_preS C hP hD) rfl (by rw [List.length_map]; exact hn) hl.1 (e_stkS hst) (e_room hsz) hd ⟨Nat.le_refl _, Nat.le_refl _⟩) hS (fun q _ h => hFc q h) hFc (fun u t1 H1 locs1 ht hvm hw hB hz1 hk1 hS1 => ?_)
  have hB' : va_P D vwCl (e_W t Γ ρ u) H1 := by rw [← ht]; exact hB
  exact k u hw D t ρ A p l e s m args below meth c H1 locs1 ls C hB' (e_D hD) hS1 hl
theorem j_callVNi {ci : Nat} {T : u_T} {N : Nat} {fs : List Nat} (hd : decode cc pc = .ok (.invokevirtual index, 3)) (ck : CkVN own index y cc' nL' (some ty) C1 n) (hev : EV Γ d' y cc' nL' (some ty) (.inr b :: As) σ post') (hr : Γ[b]? = some (.inr (ci, fs))) (hc : vwCl[ci]? = some (C1, T, N)) (hn : As.length = n) (hdd : d' < d) (hst : st0 = As.reverse ++ .inr b :: st) (hsz : st.length ≤ 8) (k : ∀ (r : Int32) (σ1 : Mm), post' r σ1 → AJ Γ d own cc nL ret post (pc + 3) L (.inl r :: st) σ1) : AJ Γ d own cc nL ret post pc L st0 σ := by
  intro D t ρ A p l e s m args below meth c H locs ls C hP hD hS hl
  have hts := C.2.2.2.2.2.2.1
  have hFc := e_freeA (D := D) hD hS C.2.2.2.2.2.2.2.2.2
  refine va_calli (va_runVN (As := As.map (e_val ρ)) (rest := st.map (e_val ρ)) (C := C1) (b := ρ b) ⟨C.1, C.2.1, C.2.2.1, C.2.2.2.1, hts⟩ (hev l D t ρ H.size) ⟨va_cnB n hts (ws_in (g_code ck.2.2.2.2.1)) rfl rfl rfl (C.2.2.2.2.2.2.2.1 _ ck.1 rfl) (by rw [ck.2.2.2.2.2.1]; exact hts _ ck.2.2.2.1) ck.2.2.2.2.2.2.1 (e_rm hdd ck.2.2.2.2.2.2.2), hts _ ck.2.1, hts _ ck.2.2.1⟩ (e_preV C hP hD hr hc) rfl (by rw [List.length_map]; exact hn) hl.1 (e_stk hst) (e_room hsz) hd ⟨Nat.le_refl _, Nat.le_refl _⟩) hS (fun q _ h => hFc q h) hFc (fun r u t1 H1 locs1 ht hvm hw hB hz1 hk1 hS1 => ?_)
  have hB' : va_P D vwCl (e_W t Γ ρ u) H1 := by rw [← ht]; exact hB
  exact k r u hw D t ρ A p l e s m args below meth c H1 locs1 ls C hB' (e_D hD) hS1 hl
theorem j_callSNi (hd : decode cc pc = .ok (.invokestatic index, 3)) (ck : CkSN own index y cc' nL' (some ty) n) (hev : EV Γ d' y cc' nL' (some ty) As σ post') (hn : As.length = n) (hdd : d' < d) (hst : st0 = As.reverse ++ st) (hsz : st.length ≤ 8) (k : ∀ (r : Int32) (σ1 : Mm), post' r σ1 → AJ Γ d own cc nL ret post (pc + 3) L (.inl r :: st) σ1) : AJ Γ d own cc nL ret post pc L st0 σ := by
  intro D t ρ A p l e s m args below meth c H locs ls C hP hD hS hl
  have hts := C.2.2.2.2.2.2.1
  have hFc := e_freeA (D := D) hD hS C.2.2.2.2.2.2.2.2.2
  refine va_calli (va_runSN (As := As.map (e_val ρ)) (rest := st.map (e_val ρ)) ⟨C.1, C.2.1, C.2.2.1, C.2.2.2.1, hts⟩ (hev l D t ρ H.size) ⟨va_cnB n hts (ws_in (g_code ck.2.2.2.1)) rfl rfl rfl (C.2.2.2.2.2.2.2.1 _ ck.1 rfl) (hts _ ck.2.2.1) ck.2.2.2.2.1 (e_rm hdd ck.2.2.2.2.2), hts _ ck.2.1, trivial⟩ (e_preS C hP hD) rfl (by rw [List.length_map]; exact hn) hl.1 (e_stkS hst) (e_room hsz) hd ⟨Nat.le_refl _, Nat.le_refl _⟩) hS (fun q _ h => hFc q h) hFc (fun r u t1 H1 locs1 ht hvm hw hB hz1 hk1 hS1 => ?_)
  have hB' : va_P D vwCl (e_W t Γ ρ u) H1 := by rw [← ht]; exact hB
  exact k r u hw D t ρ A p l e s m args below meth c H1 locs1 ls C hB' (e_D hD) hS1 hl
theorem j_callVNv {ci : Nat} {T : u_T} {N : Nat} {fs : List Nat} (hd : decode cc pc = .ok (.invokevirtual index, 3)) (ck : CkVN own index y cc' nL' none C1 n) (hev : EV Γ d' y cc' nL' none (.inr b :: As) σ post') (hr : Γ[b]? = some (.inr (ci, fs))) (hc : vwCl[ci]? = some (C1, T, N)) (hn : As.length = n) (hdd : d' < d) (hst : st0 = As.reverse ++ .inr b :: st) (hsz : st.length ≤ 8) (k : ∀ σ1 : Mm, post' 0 σ1 → AJ Γ d own cc nL ret post (pc + 3) L st σ1) : AJ Γ d own cc nL ret post pc L st0 σ := by
  intro D t ρ A p l e s m args below meth c H locs ls C hP hD hS hl
  have hts := C.2.2.2.2.2.2.1
  have hFc := e_freeA (D := D) hD hS C.2.2.2.2.2.2.2.2.2
  refine va_callv (va_runVN (As := As.map (e_val ρ)) (rest := st.map (e_val ρ)) (C := C1) (b := ρ b) ⟨C.1, C.2.1, C.2.2.1, C.2.2.2.1, hts⟩ (hev l D t ρ H.size) ⟨va_cnB n hts (ws_in (g_code ck.2.2.2.2.1)) rfl rfl rfl (C.2.2.2.2.2.2.2.1 _ ck.1 rfl) (by rw [ck.2.2.2.2.2.1]; exact hts _ ck.2.2.2.1) ck.2.2.2.2.2.2.1 (e_rm hdd ck.2.2.2.2.2.2.2), hts _ ck.2.1, hts _ ck.2.2.1⟩ (e_preV C hP hD hr hc) rfl (by rw [List.length_map]; exact hn) hl.1 (e_stk hst) (e_room hsz) hd ⟨Nat.le_refl _, Nat.le_refl _⟩) hS (fun q _ h => hFc q h) hFc (fun u t1 H1 locs1 ht hvm hw hB hz1 hk1 hS1 => ?_)
  have hB' : va_P D vwCl (e_W t Γ ρ u) H1 := by rw [← ht]; exact hB
  exact k u hw D t ρ A p l e s m args below meth c H1 locs1 ls C hB' (e_D hD) hS1 hl
theorem j_callSNv (hd : decode cc pc = .ok (.invokestatic index, 3)) (ck : CkSN own index y cc' nL' none n) (hev : EV Γ d' y cc' nL' none As σ post') (hn : As.length = n) (hdd : d' < d) (hst : st0 = As.reverse ++ st) (hsz : st.length ≤ 8) (k : ∀ σ1 : Mm, post' 0 σ1 → AJ Γ d own cc nL ret post (pc + 3) L st σ1) : AJ Γ d own cc nL ret post pc L st0 σ := by
  intro D t ρ A p l e s m args below meth c H locs ls C hP hD hS hl
  have hts := C.2.2.2.2.2.2.1
  have hFc := e_freeA (D := D) hD hS C.2.2.2.2.2.2.2.2.2
  refine va_callv (va_runSN (As := As.map (e_val ρ)) (rest := st.map (e_val ρ)) ⟨C.1, C.2.1, C.2.2.1, C.2.2.2.1, hts⟩ (hev l D t ρ H.size) ⟨va_cnB n hts (ws_in (g_code ck.2.2.2.1)) rfl rfl rfl (C.2.2.2.2.2.2.2.1 _ ck.1 rfl) (hts _ ck.2.2.1) ck.2.2.2.2.1 (e_rm hdd ck.2.2.2.2.2), hts _ ck.2.1, trivial⟩ (e_preS C hP hD) rfl (by rw [List.length_map]; exact hn) hl.1 (e_stkS hst) (e_room hsz) hd ⟨Nat.le_refl _, Nat.le_refl _⟩) hS (fun q _ h => hFc q h) hFc (fun u t1 H1 locs1 ht hvm hw hB hz1 hk1 hS1 => ?_)
  have hB' : va_P D vwCl (e_W t Γ ρ u) H1 := by rw [← ht]; exact hB
  exact k u hw D t ρ A p l e s m args below meth c H1 locs1 ls C hB' (e_D hD) hS1 hl
end Call
end Rules
end
section
theorem inl_X0 : ∀ w ∈ wsX00, w ∈ WS := ws_p [291, 293, 295, 297, 299, 301] (by decide +kernel) (by decide +kernel)
theorem inl_X1 : ∀ w ∈ wsX10, w ∈ WS := ws_p [262, 264, 266, 268, 270, 272, 274] (by decide +kernel) (by decide +kernel)
theorem inl_X2 : ∀ w ∈ wsX20, w ∈ WS := ws_p [172, 174, 176, 178, 180, 182, 184] (by decide +kernel) (by decide +kernel)
theorem inl_X3 : ∀ w ∈ wsX30, w ∈ WS := ws_p [212, 214, 216, 218, 220, 222, 224, 226, 228, 230, 232, 234, 236, 238, 240] (by decide +kernel) (by decide +kernel)
theorem inl_X4 : ∀ w ∈ wsX40, w ∈ WS := ws_p [143, 145, 147] (by decide +kernel) (by decide +kernel)
theorem inl_X5 : ∀ w ∈ wsX50, w ∈ WS := ws_p [128, 130] (by decide +kernel) (by decide +kernel)
theorem inl_X6 : ∀ w ∈ wsX60, w ∈ WS := ws_p [316, 318, 320, 322] (by decide +kernel) (by decide +kernel)
theorem inl_X7 : ∀ w ∈ wsX70, w ∈ WS := ws_p [520, 522, 524, 526, 528, 530, 532, 534, 536, 538, 540, 542] (by decide +kernel) (by decide +kernel)
theorem inl_X8 : ∀ w ∈ wsX80, w ∈ WS := ws_p [803, 805, 807, 809, 811, 813, 815, 817, 819, 821, 823, 825, 827, 829, 831, 833, 835, 837, 839, 841, 843, 845, 847, 849, 851] (by decide +kernel) (by decide +kernel)
theorem f_X5_9 : Fk RX5 9 5 0 (.array .int) true := ⟨RX5, TX5, 2, rfl, by decide, Or.inl (ws_m 123 (by decide +kernel) rfl), inl_X5, rfl, ⟨tyX5, tyX5_ok, nmX5⟩, by decide +kernel, rfl⟩
theorem f_X4_32 : Fk RX4 32 5 0 (.array .int) true := ⟨RX5, TX5, 2, rfl, by decide, Or.inr ⟨"LeastBars", List.mem_of_getElem? (i := 28) (by decide +kernel)⟩, inl_X5, rfl, ⟨tyX5, tyX5_ok, nmX5⟩, by decide +kernel, rfl⟩
theorem f_X5_15 : Fk RX5 15 5 1 .int false := ⟨RX5, TX5, 2, rfl, by decide, Or.inl (ws_m 125 (by decide +kernel) rfl), inl_X5, rfl, ⟨tyX5, tyX5_ok, nmX5⟩, by decide +kernel, rfl⟩
theorem f_X4_27 : Fk RX4 27 5 1 .int false := ⟨RX5, TX5, 2, rfl, by decide, Or.inr ⟨"LeastBars", List.mem_of_getElem? (i := 30) (by decide +kernel)⟩, inl_X5, rfl, ⟨tyX5, tyX5_ok, nmX5⟩, by decide +kernel, rfl⟩
theorem f_X7_91 : Fk RX7 91 5 1 .int false := ⟨RX5, TX5, 2, rfl, by decide, Or.inr ⟨"LeastBars", List.mem_of_getElem? (i := 31) (by decide +kernel)⟩, inl_X5, rfl, ⟨tyX5, tyX5_ok, nmX5⟩, by decide +kernel, rfl⟩
theorem f_X4_11 : Fk RX4 11 4 0 .int false := ⟨RX4, TX4, 3, rfl, by decide, Or.inl (ws_m 140 (by decide +kernel) rfl), inl_X4, rfl, ⟨tyX4, tyX4_ok, nmX4⟩, by decide +kernel, rfl⟩
theorem f_X4_15 : Fk RX4 15 4 1 .int false := ⟨RX4, TX4, 3, rfl, by decide, Or.inl (ws_m 141 (by decide +kernel) rfl), inl_X4, rfl, ⟨tyX4, tyX4_ok, nmX4⟩, by decide +kernel, rfl⟩
theorem f_X4_18 : Fk RX4 18 4 2 .int false := ⟨RX4, TX4, 3, rfl, by decide, Or.inl (ws_m 142 (by decide +kernel) rfl), inl_X4, rfl, ⟨tyX4, tyX4_ok, nmX4⟩, by decide +kernel, rfl⟩
theorem f_X2_9 : Fk RX2 9 2 0 (.array .int) true := ⟨RX2, TX2, 7, rfl, by decide, Or.inl (ws_m 157 (by decide +kernel) rfl), inl_X2, rfl, ⟨tyX2, tyX2_ok, nmX2⟩, by decide +kernel, rfl⟩
theorem f_X2_15 : Fk RX2 15 2 1 (.array .int) true := ⟨RX2, TX2, 7, rfl, by decide, Or.inl (ws_m 158 (by decide +kernel) rfl), inl_X2, rfl, ⟨tyX2, tyX2_ok, nmX2⟩, by decide +kernel, rfl⟩
theorem f_X2_18 : Fk RX2 18 2 2 .int false := ⟨RX2, TX2, 7, rfl, by decide, Or.inl (ws_m 159 (by decide +kernel) rfl), inl_X2, rfl, ⟨tyX2, tyX2_ok, nmX2⟩, by decide +kernel, rfl⟩
theorem f_X3_85 : Fk RX3 85 2 2 .int false := ⟨RX2, TX2, 7, rfl, by decide, Or.inr ⟨"LeastBars", List.mem_of_getElem? (i := 64) (by decide +kernel)⟩, inl_X2, rfl, ⟨tyX2, tyX2_ok, nmX2⟩, by decide +kernel, rfl⟩
theorem f_X7_107 : Fk RX7 107 2 2 .int false := ⟨RX2, TX2, 7, rfl, by decide, Or.inr ⟨"LeastBars", List.mem_of_getElem? (i := 65) (by decide +kernel)⟩, inl_X2, rfl, ⟨tyX2, tyX2_ok, nmX2⟩, by decide +kernel, rfl⟩
theorem f_X2_22 : Fk RX2 22 2 3 .int false := ⟨RX2, TX2, 7, rfl, by decide, Or.inl (ws_m 162 (by decide +kernel) rfl), inl_X2, rfl, ⟨tyX2, tyX2_ok, nmX2⟩, by decide +kernel, rfl⟩
theorem f_X3_82 : Fk RX3 82 2 3 .int false := ⟨RX2, TX2, 7, rfl, by decide, Or.inr ⟨"LeastBars", List.mem_of_getElem? (i := 67) (by decide +kernel)⟩, inl_X2, rfl, ⟨tyX2, tyX2_ok, nmX2⟩, by decide +kernel, rfl⟩
theorem f_X7_110 : Fk RX7 110 2 3 .int false := ⟨RX2, TX2, 7, rfl, by decide, Or.inr ⟨"LeastBars", List.mem_of_getElem? (i := 68) (by decide +kernel)⟩, inl_X2, rfl, ⟨tyX2, tyX2_ok, nmX2⟩, by decide +kernel, rfl⟩
theorem f_X2_25 : Fk RX2 25 2 4 .int false := ⟨RX2, TX2, 7, rfl, by decide, Or.inl (ws_m 165 (by decide +kernel) rfl), inl_X2, rfl, ⟨tyX2, tyX2_ok, nmX2⟩, by decide +kernel, rfl⟩
theorem f_X7_113 : Fk RX7 113 2 4 .int false := ⟨RX2, TX2, 7, rfl, by decide, Or.inr ⟨"LeastBars", List.mem_of_getElem? (i := 70) (by decide +kernel)⟩, inl_X2, rfl, ⟨tyX2, tyX2_ok, nmX2⟩, by decide +kernel, rfl⟩
theorem f_X3_121 : Fk RX3 121 2 4 .int false := ⟨RX2, TX2, 7, rfl, by decide, Or.inr ⟨"LeastBars", List.mem_of_getElem? (i := 71) (by decide +kernel)⟩, inl_X2, rfl, ⟨tyX2, tyX2_ok, nmX2⟩, by decide +kernel, rfl⟩
theorem f_X2_28 : Fk RX2 28 2 5 .int false := ⟨RX2, TX2, 7, rfl, by decide, Or.inl (ws_m 168 (by decide +kernel) rfl), inl_X2, rfl, ⟨tyX2, tyX2_ok, nmX2⟩, by decide +kernel, rfl⟩
theorem f_X7_116 : Fk RX7 116 2 5 .int false := ⟨RX2, TX2, 7, rfl, by decide, Or.inr ⟨"LeastBars", List.mem_of_getElem? (i := 73) (by decide +kernel)⟩, inl_X2, rfl, ⟨tyX2, tyX2_ok, nmX2⟩, by decide +kernel, rfl⟩
theorem f_X2_31 : Fk RX2 31 2 6 .int false := ⟨RX2, TX2, 7, rfl, by decide, Or.inl (ws_m 170 (by decide +kernel) rfl), inl_X2, rfl, ⟨tyX2, tyX2_ok, nmX2⟩, by decide +kernel, rfl⟩
theorem f_X7_119 : Fk RX7 119 2 6 .int false := ⟨RX2, TX2, 7, rfl, by decide, Or.inr ⟨"LeastBars", List.mem_of_getElem? (i := 75) (by decide +kernel)⟩, inl_X2, rfl, ⟨tyX2, tyX2_ok, nmX2⟩, by decide +kernel, rfl⟩
theorem f_X3_9 : Fk RX3 9 3 0 (.array .int) true := ⟨RX3, TX3, 15, rfl, by decide, Or.inl (ws_m 193 (by decide +kernel) rfl), inl_X3, rfl, ⟨tyX3, tyX3_ok, nmX3⟩, by decide +kernel, rfl⟩
theorem f_X3_15 : Fk RX3 15 3 1 (.array .int) true := ⟨RX3, TX3, 15, rfl, by decide, Or.inl (ws_m 194 (by decide +kernel) rfl), inl_X3, rfl, ⟨tyX3, tyX3_ok, nmX3⟩, by decide +kernel, rfl⟩
theorem f_X3_18 : Fk RX3 18 3 2 (.array .int) true := ⟨RX3, TX3, 15, rfl, by decide, Or.inl (ws_m 195 (by decide +kernel) rfl), inl_X3, rfl, ⟨tyX3, tyX3_ok, nmX3⟩, by decide +kernel, rfl⟩
theorem f_X3_21 : Fk RX3 21 3 3 (.array .boolean) true := ⟨RX3, TX3, 15, rfl, by decide, Or.inl (ws_m 196 (by decide +kernel) rfl), inl_X3, rfl, ⟨tyX3, tyX3_ok, nmX3⟩, by decide +kernel, rfl⟩
theorem f_X3_25 : Fk RX3 25 3 4 (.array .int) true := ⟨RX3, TX3, 15, rfl, by decide, Or.inl (ws_m 197 (by decide +kernel) rfl), inl_X3, rfl, ⟨tyX3, tyX3_ok, nmX3⟩, by decide +kernel, rfl⟩
theorem f_X3_28 : Fk RX3 28 3 5 (.array .int) true := ⟨RX3, TX3, 15, rfl, by decide, Or.inl (ws_m 198 (by decide +kernel) rfl), inl_X3, rfl, ⟨tyX3, tyX3_ok, nmX3⟩, by decide +kernel, rfl⟩
theorem f_X3_31 : Fk RX3 31 3 6 (.array .int) true := ⟨RX3, TX3, 15, rfl, by decide, Or.inl (ws_m 199 (by decide +kernel) rfl), inl_X3, rfl, ⟨tyX3, tyX3_ok, nmX3⟩, by decide +kernel, rfl⟩
theorem f_X3_34 : Fk RX3 34 3 7 (.array .int) true := ⟨RX3, TX3, 15, rfl, by decide, Or.inl (ws_m 200 (by decide +kernel) rfl), inl_X3, rfl, ⟨tyX3, tyX3_ok, nmX3⟩, by decide +kernel, rfl⟩
theorem f_X3_37 : Fk RX3 37 3 8 (.array .int) true := ⟨RX3, TX3, 15, rfl, by decide, Or.inl (ws_m 201 (by decide +kernel) rfl), inl_X3, rfl, ⟨tyX3, tyX3_ok, nmX3⟩, by decide +kernel, rfl⟩
theorem f_X3_40 : Fk RX3 40 3 9 (.array .int) true := ⟨RX3, TX3, 15, rfl, by decide, Or.inl (ws_m 202 (by decide +kernel) rfl), inl_X3, rfl, ⟨tyX3, tyX3_ok, nmX3⟩, by decide +kernel, rfl⟩
theorem f_X3_43 : Fk RX3 43 3 10 .int false := ⟨RX3, TX3, 15, rfl, by decide, Or.inl (ws_m 203 (by decide +kernel) rfl), inl_X3, rfl, ⟨tyX3, tyX3_ok, nmX3⟩, by decide +kernel, rfl⟩
theorem f_X3_47 : Fk RX3 47 3 11 .int false := ⟨RX3, TX3, 15, rfl, by decide, Or.inl (ws_m 204 (by decide +kernel) rfl), inl_X3, rfl, ⟨tyX3, tyX3_ok, nmX3⟩, by decide +kernel, rfl⟩
theorem f_X3_50 : Fk RX3 50 3 12 .int false := ⟨RX3, TX3, 15, rfl, by decide, Or.inl (ws_m 205 (by decide +kernel) rfl), inl_X3, rfl, ⟨tyX3, tyX3_ok, nmX3⟩, by decide +kernel, rfl⟩
theorem f_X3_53 : Fk RX3 53 3 13 .int false := ⟨RX3, TX3, 15, rfl, by decide, Or.inl (ws_m 206 (by decide +kernel) rfl), inl_X3, rfl, ⟨tyX3, tyX3_ok, nmX3⟩, by decide +kernel, rfl⟩
theorem f_X1_57 : Fk RX1 57 3 13 .int false := ⟨RX3, TX3, 15, rfl, by decide, Or.inr ⟨"LeastBars", List.mem_of_getElem? (i := 111) (by decide +kernel)⟩, inl_X3, rfl, ⟨tyX3, tyX3_ok, nmX3⟩, by decide +kernel, rfl⟩
theorem f_X7_185 : Fk RX7 185 3 13 .int false := ⟨RX3, TX3, 15, rfl, by decide, Or.inr ⟨"LeastBars", List.mem_of_getElem? (i := 112) (by decide +kernel)⟩, inl_X3, rfl, ⟨tyX3, tyX3_ok, nmX3⟩, by decide +kernel, rfl⟩
theorem f_X3_56 : Fk RX3 56 3 14 .boolean false := ⟨RX3, TX3, 15, rfl, by decide, Or.inl (ws_m 209 (by decide +kernel) rfl), inl_X3, rfl, ⟨tyX3, tyX3_ok, nmX3⟩, by decide +kernel, rfl⟩
theorem f_X1_40 : Fk RX1 40 3 14 .boolean false := ⟨RX3, TX3, 15, rfl, by decide, Or.inr ⟨"LeastBars", List.mem_of_getElem? (i := 114) (by decide +kernel)⟩, inl_X3, rfl, ⟨tyX3, tyX3_ok, nmX3⟩, by decide +kernel, rfl⟩
theorem f_X7_181 : Fk RX7 181 3 14 .boolean false := ⟨RX3, TX3, 15, rfl, by decide, Or.inr ⟨"LeastBars", List.mem_of_getElem? (i := 115) (by decide +kernel)⟩, inl_X3, rfl, ⟨tyX3, tyX3_ok, nmX3⟩, by decide +kernel, rfl⟩
theorem f_X1_9 : Fk RX1 9 1 0 (.array .int) true := ⟨RX1, TX1, 7, rfl, by decide, Or.inl (ws_m 253 (by decide +kernel) rfl), inl_X1, rfl, ⟨tyX1, tyX1_ok, nmX1⟩, by decide +kernel, rfl⟩
theorem f_X1_15 : Fk RX1 15 1 1 (.array .int) true := ⟨RX1, TX1, 7, rfl, by decide, Or.inl (ws_m 254 (by decide +kernel) rfl), inl_X1, rfl, ⟨tyX1, tyX1_ok, nmX1⟩, by decide +kernel, rfl⟩
theorem f_X1_18 : Fk RX1 18 1 2 (.array .int) true := ⟨RX1, TX1, 7, rfl, by decide, Or.inl (ws_m 255 (by decide +kernel) rfl), inl_X1, rfl, ⟨tyX1, tyX1_ok, nmX1⟩, by decide +kernel, rfl⟩
theorem f_X1_21 : Fk RX1 21 1 3 (.array .int) true := ⟨RX1, TX1, 7, rfl, by decide, Or.inl (ws_m 256 (by decide +kernel) rfl), inl_X1, rfl, ⟨tyX1, tyX1_ok, nmX1⟩, by decide +kernel, rfl⟩
theorem f_X1_24 : Fk RX1 24 1 4 (.array .int) true := ⟨RX1, TX1, 7, rfl, by decide, Or.inl (ws_m 257 (by decide +kernel) rfl), inl_X1, rfl, ⟨tyX1, tyX1_ok, nmX1⟩, by decide +kernel, rfl⟩
theorem f_X1_27 : Fk RX1 27 1 5 .int false := ⟨RX1, TX1, 7, rfl, by decide, Or.inl (ws_m 258 (by decide +kernel) rfl), inl_X1, rfl, ⟨tyX1, tyX1_ok, nmX1⟩, by decide +kernel, rfl⟩
theorem f_X7_220 : Fk RX7 220 1 5 .int false := ⟨RX1, TX1, 7, rfl, by decide, Or.inr ⟨"LeastBars", List.mem_of_getElem? (i := 163) (by decide +kernel)⟩, inl_X1, rfl, ⟨tyX1, tyX1_ok, nmX1⟩, by decide +kernel, rfl⟩
theorem f_X1_31 : Fk RX1 31 1 6 .int false := ⟨RX1, TX1, 7, rfl, by decide, Or.inl (ws_m 260 (by decide +kernel) rfl), inl_X1, rfl, ⟨tyX1, tyX1_ok, nmX1⟩, by decide +kernel, rfl⟩
theorem f_X7_216 : Fk RX7 216 1 6 .int false := ⟨RX1, TX1, 7, rfl, by decide, Or.inr ⟨"LeastBars", List.mem_of_getElem? (i := 165) (by decide +kernel)⟩, inl_X1, rfl, ⟨tyX1, tyX1_ok, nmX1⟩, by decide +kernel, rfl⟩
theorem f_X0_9 : Fk RX0 9 0 0 (.array .int) true := ⟨RX0, TX0, 6, rfl, by decide, Or.inl (ws_m 283 (by decide +kernel) rfl), inl_X0, rfl, ⟨tyX0, tyX0_ok, nmX0⟩, by decide +kernel, rfl⟩
theorem f_X0_15 : Fk RX0 15 0 1 (.array .int) true := ⟨RX0, TX0, 6, rfl, by decide, Or.inl (ws_m 284 (by decide +kernel) rfl), inl_X0, rfl, ⟨tyX0, tyX0_ok, nmX0⟩, by decide +kernel, rfl⟩
theorem f_X0_18 : Fk RX0 18 0 2 (.array .int) true := ⟨RX0, TX0, 6, rfl, by decide, Or.inl (ws_m 285 (by decide +kernel) rfl), inl_X0, rfl, ⟨tyX0, tyX0_ok, nmX0⟩, by decide +kernel, rfl⟩
theorem f_X0_21 : Fk RX0 21 0 3 (.array .int) true := ⟨RX0, TX0, 6, rfl, by decide, Or.inl (ws_m 286 (by decide +kernel) rfl), inl_X0, rfl, ⟨tyX0, tyX0_ok, nmX0⟩, by decide +kernel, rfl⟩
theorem f_X0_24 : Fk RX0 24 0 4 .int false := ⟨RX0, TX0, 6, rfl, by decide, Or.inl (ws_m 287 (by decide +kernel) rfl), inl_X0, rfl, ⟨tyX0, tyX0_ok, nmX0⟩, by decide +kernel, rfl⟩
theorem f_X7_219 : Fk RX7 219 0 4 .int false := ⟨RX0, TX0, 6, rfl, by decide, Or.inr ⟨"LeastBars", List.mem_of_getElem? (i := 192) (by decide +kernel)⟩, inl_X0, rfl, ⟨tyX0, tyX0_ok, nmX0⟩, by decide +kernel, rfl⟩
theorem f_X0_28 : Fk RX0 28 0 5 .int false := ⟨RX0, TX0, 6, rfl, by decide, Or.inl (ws_m 289 (by decide +kernel) rfl), inl_X0, rfl, ⟨tyX0, tyX0_ok, nmX0⟩, by decide +kernel, rfl⟩
theorem f_X7_224 : Fk RX7 224 0 5 .int false := ⟨RX0, TX0, 6, rfl, by decide, Or.inr ⟨"LeastBars", List.mem_of_getElem? (i := 194) (by decide +kernel)⟩, inl_X0, rfl, ⟨tyX0, tyX0_ok, nmX0⟩, by decide +kernel, rfl⟩
theorem f_X6_9 : Fk RX6 9 6 0 (.array .int) true := ⟨RX6, TX6, 4, rfl, by decide, Or.inl (ws_m 310 (by decide +kernel) rfl), inl_X6, rfl, ⟨tyX6, tyX6_ok, nmX6⟩, by decide +kernel, rfl⟩
theorem f_X6_15 : Fk RX6 15 6 1 .int false := ⟨RX6, TX6, 4, rfl, by decide, Or.inl (ws_m 311 (by decide +kernel) rfl), inl_X6, rfl, ⟨tyX6, tyX6_ok, nmX6⟩, by decide +kernel, rfl⟩
theorem f_X6_19 : Fk RX6 19 6 2 .int false := ⟨RX6, TX6, 4, rfl, by decide, Or.inl (ws_m 312 (by decide +kernel) rfl), inl_X6, rfl, ⟨tyX6, tyX6_ok, nmX6⟩, by decide +kernel, rfl⟩
theorem f_X7_223 : Fk RX7 223 6 2 .int false := ⟨RX6, TX6, 4, rfl, by decide, Or.inr ⟨"LeastBars", List.mem_of_getElem? (i := 217) (by decide +kernel)⟩, inl_X6, rfl, ⟨tyX6, tyX6_ok, nmX6⟩, by decide +kernel, rfl⟩
theorem f_X6_22 : Fk RX6 22 6 3 .int false := ⟨RX6, TX6, 4, rfl, by decide, Or.inl (ws_m 314 (by decide +kernel) rfl), inl_X6, rfl, ⟨tyX6, tyX6_ok, nmX6⟩, by decide +kernel, rfl⟩
theorem f_X7_191 : Fk RX7 191 6 3 .int false := ⟨RX6, TX6, 4, rfl, by decide, Or.inr ⟨"LeastBars", List.mem_of_getElem? (i := 219) (by decide +kernel)⟩, inl_X6, rfl, ⟨tyX6, tyX6_ok, nmX6⟩, by decide +kernel, rfl⟩
theorem f_X7_12 : Fk RX7 12 7 0 (.object "LeastBars$Tape") true := ⟨RX7, TX7, 12, rfl, by decide, Or.inl (ws_m 508 (by decide +kernel) rfl), inl_X7, rfl, ⟨tyX7, tyX7_ok, nmX7⟩, by decide +kernel, rfl⟩
theorem f_X7_19 : Fk RX7 19 7 1 (.object "LeastBars$Reader") true := ⟨RX7, TX7, 12, rfl, by decide, Or.inl (ws_m 509 (by decide +kernel) rfl), inl_X7, rfl, ⟨tyX7, tyX7_ok, nmX7⟩, by decide +kernel, rfl⟩
theorem f_X7_25 : Fk RX7 25 7 2 (.array (.object "LeastBars$Machine")) true := ⟨RX7, TX7, 12, rfl, by decide, Or.inl (ws_m 510 (by decide +kernel) rfl), inl_X7, rfl, ⟨tyX7, tyX7_ok, nmX7⟩, by decide +kernel, rfl⟩
theorem f_X7_33 : Fk RX7 33 7 3 (.object "LeastBars$Net") true := ⟨RX7, TX7, 12, rfl, by decide, Or.inl (ws_m 511 (by decide +kernel) rfl), inl_X7, rfl, ⟨tyX7, tyX7_ok, nmX7⟩, by decide +kernel, rfl⟩
theorem f_X7_37 : Fk RX7 37 7 4 (.object "LeastBars$Net") true := ⟨RX7, TX7, 12, rfl, by decide, Or.inl (ws_m 512 (by decide +kernel) rfl), inl_X7, rfl, ⟨tyX7, tyX7_ok, nmX7⟩, by decide +kernel, rfl⟩
theorem f_X7_40 : Fk RX7 40 7 5 (.array .int) true := ⟨RX7, TX7, 12, rfl, by decide, Or.inl (ws_m 513 (by decide +kernel) rfl), inl_X7, rfl, ⟨tyX7, tyX7_ok, nmX7⟩, by decide +kernel, rfl⟩
theorem f_X7_53 : Fk RX7 53 7 6 (.object "LeastBars$Losses") true := ⟨RX7, TX7, 12, rfl, by decide, Or.inl (ws_m 514 (by decide +kernel) rfl), inl_X7, rfl, ⟨tyX7, tyX7_ok, nmX7⟩, by decide +kernel, rfl⟩
theorem f_X7_60 : Fk RX7 60 7 7 (.object "LeastBars$Control") true := ⟨RX7, TX7, 12, rfl, by decide, Or.inl (ws_m 515 (by decide +kernel) rfl), inl_X7, rfl, ⟨tyX7, tyX7_ok, nmX7⟩, by decide +kernel, rfl⟩
theorem f_X7_67 : Fk RX7 67 7 8 (.object "LeastBars$Trail") true := ⟨RX7, TX7, 12, rfl, by decide, Or.inl (ws_m 516 (by decide +kernel) rfl), inl_X7, rfl, ⟨tyX7, tyX7_ok, nmX7⟩, by decide +kernel, rfl⟩
theorem f_X7_71 : Fk RX7 71 7 9 .int false := ⟨RX7, TX7, 12, rfl, by decide, Or.inl (ws_m 517 (by decide +kernel) rfl), inl_X7, rfl, ⟨tyX7, tyX7_ok, nmX7⟩, by decide +kernel, rfl⟩
theorem f_X7_75 : Fk RX7 75 7 10 .int false := ⟨RX7, TX7, 12, rfl, by decide, Or.inl (ws_m 518 (by decide +kernel) rfl), inl_X7, rfl, ⟨tyX7, tyX7_ok, nmX7⟩, by decide +kernel, rfl⟩
theorem f_X7_78 : Fk RX7 78 7 11 .int false := ⟨RX7, TX7, 12, rfl, by decide, Or.inl (ws_m 519 (by decide +kernel) rfl), inl_X7, rfl, ⟨tyX7, tyX7_ok, nmX7⟩, by decide +kernel, rfl⟩
theorem f_X8_7 : Fk RX8 7 8 0 (.array .int) true := ⟨RX8, TX8, 25, rfl, by decide, Or.inl (ws_m 778 (by decide +kernel) rfl), inl_X8, rfl, ⟨tyX8, tyX8_ok, nmX8⟩, by decide +kernel, rfl⟩
theorem f_X8_63 : Fk RX8 63 8 1 .int false := ⟨RX8, TX8, 25, rfl, by decide, Or.inl (ws_m 779 (by decide +kernel) rfl), inl_X8, rfl, ⟨tyX8, tyX8_ok, nmX8⟩, by decide +kernel, rfl⟩
theorem f_X8_96 : Fk RX8 96 8 2 .int false := ⟨RX8, TX8, 25, rfl, by decide, Or.inl (ws_m 780 (by decide +kernel) rfl), inl_X8, rfl, ⟨tyX8, tyX8_ok, nmX8⟩, by decide +kernel, rfl⟩
theorem f_X8_13 : Fk RX8 13 8 3 (.array .int) true := ⟨RX8, TX8, 25, rfl, by decide, Or.inl (ws_m 781 (by decide +kernel) rfl), inl_X8, rfl, ⟨tyX8, tyX8_ok, nmX8⟩, by decide +kernel, rfl⟩
theorem f_X8_16 : Fk RX8 16 8 4 (.array .int) true := ⟨RX8, TX8, 25, rfl, by decide, Or.inl (ws_m 782 (by decide +kernel) rfl), inl_X8, rfl, ⟨tyX8, tyX8_ok, nmX8⟩, by decide +kernel, rfl⟩
theorem f_X8_19 : Fk RX8 19 8 5 (.array .int) true := ⟨RX8, TX8, 25, rfl, by decide, Or.inl (ws_m 783 (by decide +kernel) rfl), inl_X8, rfl, ⟨tyX8, tyX8_ok, nmX8⟩, by decide +kernel, rfl⟩
theorem f_X8_22 : Fk RX8 22 8 6 (.array .int) true := ⟨RX8, TX8, 25, rfl, by decide, Or.inl (ws_m 784 (by decide +kernel) rfl), inl_X8, rfl, ⟨tyX8, tyX8_ok, nmX8⟩, by decide +kernel, rfl⟩
theorem f_X8_25 : Fk RX8 25 8 7 (.array .int) true := ⟨RX8, TX8, 25, rfl, by decide, Or.inl (ws_m 785 (by decide +kernel) rfl), inl_X8, rfl, ⟨tyX8, tyX8_ok, nmX8⟩, by decide +kernel, rfl⟩
theorem f_X8_28 : Fk RX8 28 8 8 (.array .int) true := ⟨RX8, TX8, 25, rfl, by decide, Or.inl (ws_m 786 (by decide +kernel) rfl), inl_X8, rfl, ⟨tyX8, tyX8_ok, nmX8⟩, by decide +kernel, rfl⟩
theorem f_X8_118 : Fk RX8 118 8 9 .int false := ⟨RX8, TX8, 25, rfl, by decide, Or.inl (ws_m 787 (by decide +kernel) rfl), inl_X8, rfl, ⟨tyX8, tyX8_ok, nmX8⟩, by decide +kernel, rfl⟩
theorem f_X8_67 : Fk RX8 67 8 10 .int false := ⟨RX8, TX8, 25, rfl, by decide, Or.inl (ws_m 788 (by decide +kernel) rfl), inl_X8, rfl, ⟨tyX8, tyX8_ok, nmX8⟩, by decide +kernel, rfl⟩
theorem f_X8_131 : Fk RX8 131 8 11 .int false := ⟨RX8, TX8, 25, rfl, by decide, Or.inl (ws_m 789 (by decide +kernel) rfl), inl_X8, rfl, ⟨tyX8, tyX8_ok, nmX8⟩, by decide +kernel, rfl⟩
theorem f_X8_31 : Fk RX8 31 8 12 (.array .int) true := ⟨RX8, TX8, 25, rfl, by decide, Or.inl (ws_m 790 (by decide +kernel) rfl), inl_X8, rfl, ⟨tyX8, tyX8_ok, nmX8⟩, by decide +kernel, rfl⟩
theorem f_X8_34 : Fk RX8 34 8 13 (.array .int) true := ⟨RX8, TX8, 25, rfl, by decide, Or.inl (ws_m 791 (by decide +kernel) rfl), inl_X8, rfl, ⟨tyX8, tyX8_ok, nmX8⟩, by decide +kernel, rfl⟩
theorem f_X8_105 : Fk RX8 105 8 14 .boolean false := ⟨RX8, TX8, 25, rfl, by decide, Or.inl (ws_m 792 (by decide +kernel) rfl), inl_X8, rfl, ⟨tyX8, tyX8_ok, nmX8⟩, by decide +kernel, rfl⟩
theorem f_X8_37 : Fk RX8 37 8 15 (.array .int) true := ⟨RX8, TX8, 25, rfl, by decide, Or.inl (ws_m 793 (by decide +kernel) rfl), inl_X8, rfl, ⟨tyX8, tyX8_ok, nmX8⟩, by decide +kernel, rfl⟩
theorem f_X8_40 : Fk RX8 40 8 16 (.array .int) true := ⟨RX8, TX8, 25, rfl, by decide, Or.inl (ws_m 794 (by decide +kernel) rfl), inl_X8, rfl, ⟨tyX8, tyX8_ok, nmX8⟩, by decide +kernel, rfl⟩
theorem f_X8_43 : Fk RX8 43 8 17 (.array .int) true := ⟨RX8, TX8, 25, rfl, by decide, Or.inl (ws_m 795 (by decide +kernel) rfl), inl_X8, rfl, ⟨tyX8, tyX8_ok, nmX8⟩, by decide +kernel, rfl⟩
theorem f_X8_46 : Fk RX8 46 8 18 (.array .boolean) true := ⟨RX8, TX8, 25, rfl, by decide, Or.inl (ws_m 796 (by decide +kernel) rfl), inl_X8, rfl, ⟨tyX8, tyX8_ok, nmX8⟩, by decide +kernel, rfl⟩
theorem f_X8_50 : Fk RX8 50 8 19 (.array .boolean) true := ⟨RX8, TX8, 25, rfl, by decide, Or.inl (ws_m 797 (by decide +kernel) rfl), inl_X8, rfl, ⟨tyX8, tyX8_ok, nmX8⟩, by decide +kernel, rfl⟩
theorem f_X8_162 : Fk RX8 162 8 20 .int false := ⟨RX8, TX8, 25, rfl, by decide, Or.inl (ws_m 798 (by decide +kernel) rfl), inl_X8, rfl, ⟨tyX8, tyX8_ok, nmX8⟩, by decide +kernel, rfl⟩
theorem f_X8_109 : Fk RX8 109 8 21 .int false := ⟨RX8, TX8, 25, rfl, by decide, Or.inl (ws_m 799 (by decide +kernel) rfl), inl_X8, rfl, ⟨tyX8, tyX8_ok, nmX8⟩, by decide +kernel, rfl⟩
theorem f_X8_112 : Fk RX8 112 8 22 .int false := ⟨RX8, TX8, 25, rfl, by decide, Or.inl (ws_m 800 (by decide +kernel) rfl), inl_X8, rfl, ⟨tyX8, tyX8_ok, nmX8⟩, by decide +kernel, rfl⟩
theorem f_X8_53 : Fk RX8 53 8 23 (.array .int) true := ⟨RX8, TX8, 25, rfl, by decide, Or.inl (ws_m 801 (by decide +kernel) rfl), inl_X8, rfl, ⟨tyX8, tyX8_ok, nmX8⟩, by decide +kernel, rfl⟩
theorem f_X8_56 : Fk RX8 56 8 24 (.array .int) true := ⟨RX8, TX8, 25, rfl, by decide, Or.inl (ws_m 802 (by decide +kernel) rfl), inl_X8, rfl, ⟨tyX8, tyX8_ok, nmX8⟩, by decide +kernel, rfl⟩
set_option maxRecDepth 100000 in
theorem wc_X7_init : Cond.code yX7_init cX7_init 2 none ∈ WS := ws_m 113 rfl rfl
theorem wi_X7_init : Cond.instanceMethod yX7_init ∈ WS := ws_m 112 (by decide +kernel) rfl
theorem wn_X7 : Cond.initialized RX7 ∈ WS := ws_m 97 (by decide +kernel) rfl
set_option maxRecDepth 100000 in
theorem wc_X5_init : Cond.code yX5_init cX5_init 1 none ∈ WS := ws_m 121 rfl rfl
theorem wi_X5_init : Cond.instanceMethod yX5_init ∈ WS := ws_m 120 (by decide +kernel) rfl
theorem wn_X5 : Cond.initialized RX5 ∈ WS := ws_m 98 (by decide +kernel) rfl
set_option maxRecDepth 100000 in
theorem wc_X4_init : Cond.code yX4_init cX4_init 1 none ∈ WS := ws_m 138 rfl rfl
theorem wi_X4_init : Cond.instanceMethod yX4_init ∈ WS := ws_m 137 (by decide +kernel) rfl
theorem wn_X4 : Cond.initialized RX4 ∈ WS := ws_m 99 (by decide +kernel) rfl
set_option maxRecDepth 100000 in
theorem wc_X2_init : Cond.code yX2_init cX2_init 1 none ∈ WS := ws_m 155 rfl rfl
theorem wi_X2_init : Cond.instanceMethod yX2_init ∈ WS := ws_m 154 (by decide +kernel) rfl
theorem wn_X2 : Cond.initialized RX2 ∈ WS := ws_m 100 (by decide +kernel) rfl
set_option maxRecDepth 100000 in
theorem wc_X3_init : Cond.code yX3_init cX3_init 1 none ∈ WS := ws_m 191 rfl rfl
theorem wi_X3_init : Cond.instanceMethod yX3_init ∈ WS := ws_m 190 (by decide +kernel) rfl
theorem wn_X3 : Cond.initialized RX3 ∈ WS := ws_m 101 (by decide +kernel) rfl
set_option maxRecDepth 100000 in
theorem wc_J7_fill_53178 : Cond.code yJ7_fill_53178 cJ7_fill_53178 4 none ∈ WS := ws_m 246 rfl rfl
theorem ws_J7_fill_53178 : Cond.static yJ7_fill_53178 ∈ WS := ws_m 245 (by decide +kernel) rfl
theorem wn_J7 : Cond.initialized RJ7 ∈ WS := ws_m 102 (by decide +kernel) rfl
theorem k_X7_44 : CkS RX7 44 yJ7_fill_53178 cJ7_fill_53178 4 none 2 := ⟨ws_m 244 (by decide +kernel) rfl, ws_J7_fill_53178, wn_J7, wc_J7_fill_53178, ⟨by decide +kernel, by decide +kernel, by decide +kernel⟩, by decide⟩
set_option maxRecDepth 100000 in
theorem wc_X1_init : Cond.code yX1_init cX1_init 1 none ∈ WS := ws_m 251 rfl rfl
theorem wi_X1_init : Cond.instanceMethod yX1_init ∈ WS := ws_m 250 (by decide +kernel) rfl
theorem wn_X1 : Cond.initialized RX1 ∈ WS := ws_m 103 (by decide +kernel) rfl
set_option maxRecDepth 100000 in
theorem wc_X0_init : Cond.code yX0_init cX0_init 1 none ∈ WS := ws_m 281 rfl rfl
theorem wi_X0_init : Cond.instanceMethod yX0_init ∈ WS := ws_m 280 (by decide +kernel) rfl
theorem wn_X0 : Cond.initialized RX0 ∈ WS := ws_m 104 (by decide +kernel) rfl
set_option maxRecDepth 100000 in
theorem wc_X6_init : Cond.code yX6_init cX6_init 1 none ∈ WS := ws_m 308 rfl rfl
theorem wi_X6_init : Cond.instanceMethod yX6_init ∈ WS := ws_m 307 (by decide +kernel) rfl
theorem wn_X6 : Cond.initialized RX6 ∈ WS := ws_m 105 (by decide +kernel) rfl
set_option maxRecDepth 100000 in
theorem wc_X7_joinAnew : Cond.code yX7_joinAnew cX7_joinAnew 1 none ∈ WS := ws_m 328 rfl rfl
theorem wi_X7_joinAnew : Cond.instanceMethod yX7_joinAnew ∈ WS := ws_m 327 (by decide +kernel) rfl
theorem wl_X7_joinAnew : Cond.selects RX7 yX7_joinAnew yX7_joinAnew ∈ WS := ws_m 0 (by decide +kernel) rfl
theorem k_X7_81 : CkV RX7 81 yX7_joinAnew cX7_joinAnew 1 none RX7 0 := ⟨ws_m 325 (by decide +kernel) rfl, wi_X7_joinAnew, wl_X7_joinAnew, wn_X7, wc_X7_joinAnew, rfl, ⟨by decide +kernel, by decide +kernel, by decide +kernel⟩, by decide⟩
set_option maxRecDepth 100000 in
theorem wc_X7_setOfAllMachines : Cond.code yX7_setOfAllMachines cX7_setOfAllMachines 1 (some .int) ∈ WS := ws_m 332 rfl rfl
theorem wi_X7_setOfAllMachines : Cond.instanceMethod yX7_setOfAllMachines ∈ WS := ws_m 331 (by decide +kernel) rfl
theorem wl_X7_setOfAllMachines : Cond.selects RX7 yX7_setOfAllMachines yX7_setOfAllMachines ∈ WS := ws_m 1 (by decide +kernel) rfl
theorem k_X7_173 : CkV RX7 173 yX7_setOfAllMachines cX7_setOfAllMachines 1 (some .int) RX7 0 := ⟨ws_m 329 (by decide +kernel) rfl, wi_X7_setOfAllMachines, wl_X7_setOfAllMachines, wn_X7, wc_X7_setOfAllMachines, rfl, ⟨by decide +kernel, by decide +kernel, by decide +kernel⟩, by decide⟩
set_option maxRecDepth 100000 in
theorem wc_X3_join : Cond.code yX3_join cX3_join 4 none ∈ WS := ws_m 336 rfl rfl
theorem wi_X3_join : Cond.instanceMethod yX3_join ∈ WS := ws_m 335 (by decide +kernel) rfl
theorem wl_X3_join : Cond.selects RX3 yX3_join yX3_join ∈ WS := ws_m 2 (by decide +kernel) rfl
theorem k_X7_227 : CkVN RX7 227 yX3_join cX3_join 4 none RX3 2 := ⟨List.mem_of_getElem? (i := 237) (by decide +kernel), wi_X3_join, wl_X3_join, wn_X3, wc_X3_join, rfl, ⟨by decide +kernel, by decide +kernel, by decide +kernel⟩, by decide⟩
theorem k_X3_60 : CkS RX3 60 yJ7_fill_53178 cJ7_fill_53178 4 none 2 := ⟨ws_m 337 (by decide +kernel) rfl, ws_J7_fill_53178, wn_J7, wc_J7_fill_53178, ⟨by decide +kernel, by decide +kernel, by decide +kernel⟩, by decide⟩
set_option maxRecDepth 100000 in
theorem wc_X3_gatherAlphabets : Cond.code yX3_gatherAlphabets cX3_gatherAlphabets 4 none ∈ WS := ws_m 341 rfl rfl
theorem wi_X3_gatherAlphabets : Cond.instanceMethod yX3_gatherAlphabets ∈ WS := ws_m 340 (by decide +kernel) rfl
theorem wl_X3_gatherAlphabets : Cond.selects RX3 yX3_gatherAlphabets yX3_gatherAlphabets ∈ WS := ws_m 3 (by decide +kernel) rfl
theorem k_X3_66 : CkV RX3 66 yX3_gatherAlphabets cX3_gatherAlphabets 4 none RX3 2 := ⟨ws_m 338 (by decide +kernel) rfl, wi_X3_gatherAlphabets, wl_X3_gatherAlphabets, wn_X3, wc_X3_gatherAlphabets, rfl, ⟨by decide +kernel, by decide +kernel, by decide +kernel⟩, by decide⟩
set_option maxRecDepth 100000 in
theorem wc_X7_isIn : Cond.code yX7_isIn cX7_isIn 2 (some .boolean) ∈ WS := ws_m 344 rfl rfl
theorem ws_X7_isIn : Cond.static yX7_isIn ∈ WS := ws_m 343 (by decide +kernel) rfl
theorem k_X3_78 : CkSN RX3 78 yX7_isIn cX7_isIn 2 (some .boolean) 2 := ⟨List.mem_of_getElem? (i := 246) (by decide +kernel), ws_X7_isIn, wn_X7, wc_X7_isIn, ⟨by decide +kernel, by decide +kernel, by decide +kernel⟩, by decide⟩
set_option maxRecDepth 100000 in
theorem wc_X3_meet : Cond.code yX3_meet cX3_meet 5 (some .int) ∈ WS := ws_m 348 rfl rfl
theorem wi_X3_meet : Cond.instanceMethod yX3_meet ∈ WS := ws_m 347 (by decide +kernel) rfl
theorem wl_X3_meet : Cond.selects RX3 yX3_meet yX3_meet ∈ WS := ws_m 4 (by decide +kernel) rfl
theorem k_X3_70 : CkV RX3 70 yX3_meet cX3_meet 5 (some .int) RX3 1 := ⟨ws_m 345 (by decide +kernel) rfl, wi_X3_meet, wl_X3_meet, wn_X3, wc_X3_meet, rfl, ⟨by decide +kernel, by decide +kernel, by decide +kernel⟩, by decide⟩
set_option maxRecDepth 100000 in
theorem wc_X3_add : Cond.code yX3_add cX3_add 2 (some .int) ∈ WS := ws_m 353 rfl rfl
theorem wi_X3_add : Cond.instanceMethod yX3_add ∈ WS := ws_m 352 (by decide +kernel) rfl
theorem wl_X3_add : Cond.selects RX3 yX3_add yX3_add ∈ WS := ws_m 5 (by decide +kernel) rfl
theorem k_X3_115 : CkV RX3 115 yX3_add cX3_add 2 (some .int) RX3 1 := ⟨ws_m 350 (by decide +kernel) rfl, wi_X3_add, wl_X3_add, wn_X3, wc_X3_add, rfl, ⟨by decide +kernel, by decide +kernel, by decide +kernel⟩, by decide⟩
set_option maxRecDepth 100000 in
theorem wc_X7_isJoint : Cond.code yX7_isJoint cX7_isJoint 1 (some .boolean) ∈ WS := ws_m 356 rfl rfl
theorem ws_X7_isJoint : Cond.static yX7_isJoint ∈ WS := ws_m 355 (by decide +kernel) rfl
theorem k_X3_118 : CkSN RX3 118 yX7_isJoint cX7_isJoint 1 (some .boolean) 1 := ⟨List.mem_of_getElem? (i := 258) (by decide +kernel), ws_X7_isJoint, wn_X7, wc_X7_isJoint, ⟨by decide +kernel, by decide +kernel, by decide +kernel⟩, by decide⟩
end
section
set_option maxRecDepth 100000 in
theorem wc_X3_spreadFrom : Cond.code yX3_spreadFrom cX3_spreadFrom 8 none ∈ WS := ws_m 360 rfl rfl
theorem wi_X3_spreadFrom : Cond.instanceMethod yX3_spreadFrom ∈ WS := ws_m 359 (by decide +kernel) rfl
theorem wl_X3_spreadFrom : Cond.selects RX3 yX3_spreadFrom yX3_spreadFrom ∈ WS := ws_m 6 (by decide +kernel) rfl
theorem k_X3_74 : CkV RX3 74 yX3_spreadFrom cX3_spreadFrom 8 none RX3 3 := ⟨ws_m 357 (by decide +kernel) rfl, wi_X3_spreadFrom, wl_X3_spreadFrom, wn_X3, wc_X3_spreadFrom, rfl, ⟨by decide +kernel, by decide +kernel, by decide +kernel⟩, by decide⟩
set_option maxRecDepth 100000 in
theorem wc_X3_stateIn : Cond.code yX3_stateIn cX3_stateIn 3 (some .int) ∈ WS := ws_m 364 rfl rfl
theorem wi_X3_stateIn : Cond.instanceMethod yX3_stateIn ∈ WS := ws_m 363 (by decide +kernel) rfl
theorem wl_X3_stateIn : Cond.selects RX3 yX3_stateIn yX3_stateIn ∈ WS := ws_m 7 (by decide +kernel) rfl
theorem k_X3_88 : CkV RX3 88 yX3_stateIn cX3_stateIn 3 (some .int) RX3 2 := ⟨ws_m 361 (by decide +kernel) rfl, wi_X3_stateIn, wl_X3_stateIn, wn_X3, wc_X3_stateIn, rfl, ⟨by decide +kernel, by decide +kernel, by decide +kernel⟩, by decide⟩
set_option maxRecDepth 100000 in
theorem wc_X3_has : Cond.code yX3_has cX3_has 2 (some .boolean) ∈ WS := ws_m 368 rfl rfl
theorem wi_X3_has : Cond.instanceMethod yX3_has ∈ WS := ws_m 367 (by decide +kernel) rfl
theorem wl_X3_has : Cond.selects RX3 yX3_has yX3_has ∈ WS := ws_m 8 (by decide +kernel) rfl
theorem k_X3_107 : CkV RX3 107 yX3_has cX3_has 2 (some .boolean) RX3 1 := ⟨ws_m 365 (by decide +kernel) rfl, wi_X3_has, wl_X3_has, wn_X3, wc_X3_has, rfl, ⟨by decide +kernel, by decide +kernel, by decide +kernel⟩, by decide⟩
set_option maxRecDepth 100000 in
theorem wc_X2_missingSet : Cond.code yX2_missingSet cX2_missingSet 2 (some .int) ∈ WS := ws_m 372 rfl rfl
theorem wi_X2_missingSet : Cond.instanceMethod yX2_missingSet ∈ WS := ws_m 371 (by decide +kernel) rfl
theorem wl_X2_missingSet : Cond.selects RX2 yX2_missingSet yX2_missingSet ∈ WS := ws_m 9 (by decide +kernel) rfl
theorem k_X3_92 : CkVN RX3 92 yX2_missingSet cX2_missingSet 2 (some .int) RX2 1 := ⟨List.mem_of_getElem? (i := 273) (by decide +kernel), wi_X2_missingSet, wl_X2_missingSet, wn_X2, wc_X2_missingSet, rfl, ⟨by decide +kernel, by decide +kernel, by decide +kernel⟩, by decide⟩
set_option maxRecDepth 100000 in
theorem wc_X7_isState : Cond.code yX7_isState cX7_isState 1 (some .boolean) ∈ WS := ws_m 375 rfl rfl
theorem ws_X7_isState : Cond.static yX7_isState ∈ WS := ws_m 374 (by decide +kernel) rfl
theorem k_X2_40 : CkSN RX2 40 yX7_isState cX7_isState 1 (some .boolean) 1 := ⟨List.mem_of_getElem? (i := 277) (by decide +kernel), ws_X7_isState, wn_X7, wc_X7_isState, ⟨by decide +kernel, by decide +kernel, by decide +kernel⟩, by decide⟩
set_option maxRecDepth 100000 in
theorem wc_X3_allMarked : Cond.code yX3_allMarked cX3_allMarked 5 (some .boolean) ∈ WS := ws_m 379 rfl rfl
theorem wi_X3_allMarked : Cond.instanceMethod yX3_allMarked ∈ WS := ws_m 378 (by decide +kernel) rfl
theorem wl_X3_allMarked : Cond.selects RX3 yX3_allMarked yX3_allMarked ∈ WS := ws_m 10 (by decide +kernel) rfl
theorem k_X3_95 : CkV RX3 95 yX3_allMarked cX3_allMarked 5 (some .boolean) RX3 3 := ⟨ws_m 376 (by decide +kernel) rfl, wi_X3_allMarked, wl_X3_allMarked, wn_X3, wc_X3_allMarked, rfl, ⟨by decide +kernel, by decide +kernel, by decide +kernel⟩, by decide⟩
set_option maxRecDepth 100000 in
theorem wc_X3_codeBehind : Cond.code yX3_codeBehind cX3_codeBehind 8 (some .int) ∈ WS := ws_m 383 rfl rfl
theorem wi_X3_codeBehind : Cond.instanceMethod yX3_codeBehind ∈ WS := ws_m 382 (by decide +kernel) rfl
theorem wl_X3_codeBehind : Cond.selects RX3 yX3_codeBehind yX3_codeBehind ∈ WS := ws_m 11 (by decide +kernel) rfl
theorem k_X3_99 : CkV RX3 99 yX3_codeBehind cX3_codeBehind 8 (some .int) RX3 4 := ⟨ws_m 380 (by decide +kernel) rfl, wi_X3_codeBehind, wl_X3_codeBehind, wn_X3, wc_X3_codeBehind, rfl, ⟨by decide +kernel, by decide +kernel, by decide +kernel⟩, by decide⟩
set_option maxRecDepth 100000 in
theorem wc_X2_target : Cond.code yX2_target cX2_target 3 (some .int) ∈ WS := ws_m 387 rfl rfl
theorem wi_X2_target : Cond.instanceMethod yX2_target ∈ WS := ws_m 386 (by decide +kernel) rfl
theorem wl_X2_target : Cond.selects RX2 yX2_target yX2_target ∈ WS := ws_m 12 (by decide +kernel) rfl
theorem k_X3_111 : CkVN RX3 111 yX2_target cX2_target 3 (some .int) RX2 2 := ⟨List.mem_of_getElem? (i := 288) (by decide +kernel), wi_X2_target, wl_X2_target, wn_X2, wc_X2_target, rfl, ⟨by decide +kernel, by decide +kernel, by decide +kernel⟩, by decide⟩
set_option maxRecDepth 100000 in
theorem wc_X7_isEvent : Cond.code yX7_isEvent cX7_isEvent 1 (some .boolean) ∈ WS := ws_m 390 rfl rfl
theorem ws_X7_isEvent : Cond.static yX7_isEvent ∈ WS := ws_m 389 (by decide +kernel) rfl
theorem k_X2_44 : CkSN RX2 44 yX7_isEvent cX7_isEvent 1 (some .boolean) 1 := ⟨List.mem_of_getElem? (i := 292) (by decide +kernel), ws_X7_isEvent, wn_X7, wc_X7_isEvent, ⟨by decide +kernel, by decide +kernel, by decide +kernel⟩, by decide⟩
set_option maxRecDepth 100000 in
theorem wc_X3_addEdge : Cond.code yX3_addEdge cX3_addEdge 5 none ∈ WS := ws_m 394 rfl rfl
theorem wi_X3_addEdge : Cond.instanceMethod yX3_addEdge ∈ WS := ws_m 393 (by decide +kernel) rfl
theorem wl_X3_addEdge : Cond.selects RX3 yX3_addEdge yX3_addEdge ∈ WS := ws_m 13 (by decide +kernel) rfl
theorem k_X3_103 : CkV RX3 103 yX3_addEdge cX3_addEdge 5 none RX3 3 := ⟨ws_m 391 (by decide +kernel) rfl, wi_X3_addEdge, wl_X3_addEdge, wn_X3, wc_X3_addEdge, rfl, ⟨by decide +kernel, by decide +kernel, by decide +kernel⟩, by decide⟩
set_option maxRecDepth 100000 in
theorem wc_X7_controlAnew : Cond.code yX7_controlAnew cX7_controlAnew 1 none ∈ WS := ws_m 398 rfl rfl
theorem wi_X7_controlAnew : Cond.instanceMethod yX7_controlAnew ∈ WS := ws_m 397 (by decide +kernel) rfl
theorem wl_X7_controlAnew : Cond.selects RX7 yX7_controlAnew yX7_controlAnew ∈ WS := ws_m 14 (by decide +kernel) rfl
theorem k_X7_84 : CkV RX7 84 yX7_controlAnew cX7_controlAnew 1 none RX7 0 := ⟨ws_m 395 (by decide +kernel) rfl, wi_X7_controlAnew, wl_X7_controlAnew, wn_X7, wc_X7_controlAnew, rfl, ⟨by decide +kernel, by decide +kernel, by decide +kernel⟩, by decide⟩
set_option maxRecDepth 100000 in
theorem wc_X1_sift : Cond.code yX1_sift cX1_sift 5 none ∈ WS := ws_m 402 rfl rfl
theorem wi_X1_sift : Cond.instanceMethod yX1_sift ∈ WS := ws_m 401 (by decide +kernel) rfl
theorem wl_X1_sift : Cond.selects RX1 yX1_sift yX1_sift ∈ WS := ws_m 15 (by decide +kernel) rfl
theorem k_X7_235 : CkVN RX7 235 yX1_sift cX1_sift 5 none RX1 2 := ⟨List.mem_of_getElem? (i := 303) (by decide +kernel), wi_X1_sift, wl_X1_sift, wn_X1, wc_X1_sift, rfl, ⟨by decide +kernel, by decide +kernel, by decide +kernel⟩, by decide⟩
theorem k_X1_34 : CkS RX1 34 yJ7_fill_53178 cJ7_fill_53178 4 none 2 := ⟨ws_m 403 (by decide +kernel) rfl, ws_J7_fill_53178, wn_J7, wc_J7_fill_53178, ⟨by decide +kernel, by decide +kernel, by decide +kernel⟩, by decide⟩
set_option maxRecDepth 100000 in
theorem wc_X1_loseClashing : Cond.code yX1_loseClashing cX1_loseClashing 5 none ∈ WS := ws_m 407 rfl rfl
theorem wi_X1_loseClashing : Cond.instanceMethod yX1_loseClashing ∈ WS := ws_m 406 (by decide +kernel) rfl
theorem wl_X1_loseClashing : Cond.selects RX1 yX1_loseClashing yX1_loseClashing ∈ WS := ws_m 16 (by decide +kernel) rfl
theorem k_X1_46 : CkV RX1 46 yX1_loseClashing cX1_loseClashing 5 none RX1 2 := ⟨ws_m 404 (by decide +kernel) rfl, wi_X1_loseClashing, wl_X1_loseClashing, wn_X1, wc_X1_loseClashing, rfl, ⟨by decide +kernel, by decide +kernel, by decide +kernel⟩, by decide⟩
set_option maxRecDepth 100000 in
theorem wc_X3_clashSet : Cond.code yX3_clashSet cX3_clashSet 3 (some .int) ∈ WS := ws_m 411 rfl rfl
theorem wi_X3_clashSet : Cond.instanceMethod yX3_clashSet ∈ WS := ws_m 410 (by decide +kernel) rfl
theorem wl_X3_clashSet : Cond.selects RX3 yX3_clashSet yX3_clashSet ∈ WS := ws_m 17 (by decide +kernel) rfl
theorem k_X1_60 : CkVN RX1 60 yX3_clashSet cX3_clashSet 3 (some .int) RX3 2 := ⟨List.mem_of_getElem? (i := 312) (by decide +kernel), wi_X3_clashSet, wl_X3_clashSet, wn_X3, wc_X3_clashSet, rfl, ⟨by decide +kernel, by decide +kernel, by decide +kernel⟩, by decide⟩
set_option maxRecDepth 100000 in
theorem wc_X7_leastIn : Cond.code yX7_leastIn cX7_leastIn 2 (some .int) ∈ WS := ws_m 414 rfl rfl
theorem ws_X7_leastIn : Cond.static yX7_leastIn ∈ WS := ws_m 413 (by decide +kernel) rfl
theorem k_X1_64 : CkSN RX1 64 yX7_leastIn cX7_leastIn 2 (some .int) 1 := ⟨List.mem_of_getElem? (i := 316) (by decide +kernel), ws_X7_leastIn, wn_X7, wc_X7_leastIn, ⟨by decide +kernel, by decide +kernel, by decide +kernel⟩, by decide⟩
theorem k_X7_246 : CkS RX7 246 yX7_isIn cX7_isIn 2 (some .boolean) 2 := ⟨ws_m 415 (by decide +kernel) rfl, ws_X7_isIn, wn_X7, wc_X7_isIn, ⟨by decide +kernel, by decide +kernel, by decide +kernel⟩, by decide⟩
set_option maxRecDepth 100000 in
theorem wc_X1_lose : Cond.code yX1_lose cX1_lose 5 none ∈ WS := ws_m 419 rfl rfl
theorem wi_X1_lose : Cond.instanceMethod yX1_lose ∈ WS := ws_m 418 (by decide +kernel) rfl
theorem wl_X1_lose : Cond.selects RX1 yX1_lose yX1_lose ∈ WS := ws_m 18 (by decide +kernel) rfl
theorem k_X1_68 : CkV RX1 68 yX1_lose cX1_lose 5 none RX1 4 := ⟨ws_m 416 (by decide +kernel) rfl, wi_X1_lose, wl_X1_lose, wn_X1, wc_X1_lose, rfl, ⟨by decide +kernel, by decide +kernel, by decide +kernel⟩, by decide⟩
theorem k_X1_100 : CkSN RX1 100 yX7_isJoint cX7_isJoint 1 (some .boolean) 1 := ⟨List.mem_of_getElem? (i := 324) (by decide +kernel), ws_X7_isJoint, wn_X7, wc_X7_isJoint, ⟨by decide +kernel, by decide +kernel, by decide +kernel⟩, by decide⟩
set_option maxRecDepth 100000 in
theorem wc_X1_losePushed : Cond.code yX1_losePushed cX1_losePushed 5 none ∈ WS := ws_m 424 rfl rfl
theorem wi_X1_losePushed : Cond.instanceMethod yX1_losePushed ∈ WS := ws_m 423 (by decide +kernel) rfl
theorem wl_X1_losePushed : Cond.selects RX1 yX1_losePushed yX1_losePushed ∈ WS := ws_m 19 (by decide +kernel) rfl
theorem k_X1_50 : CkV RX1 50 yX1_losePushed cX1_losePushed 5 none RX1 2 := ⟨ws_m 421 (by decide +kernel) rfl, wi_X1_losePushed, wl_X1_losePushed, wn_X1, wc_X1_losePushed, rfl, ⟨by decide +kernel, by decide +kernel, by decide +kernel⟩, by decide⟩
set_option maxRecDepth 100000 in
theorem wc_X3_leadSet : Cond.code yX3_leadSet cX3_leadSet 2 (some .int) ∈ WS := ws_m 428 rfl rfl
theorem wi_X3_leadSet : Cond.instanceMethod yX3_leadSet ∈ WS := ws_m 427 (by decide +kernel) rfl
theorem wl_X3_leadSet : Cond.selects RX3 yX3_leadSet yX3_leadSet ∈ WS := ws_m 20 (by decide +kernel) rfl
theorem k_X1_72 : CkVN RX1 72 yX3_leadSet cX3_leadSet 2 (some .int) RX3 1 := ⟨List.mem_of_getElem? (i := 329) (by decide +kernel), wi_X3_leadSet, wl_X3_leadSet, wn_X3, wc_X3_leadSet, rfl, ⟨by decide +kernel, by decide +kernel, by decide +kernel⟩, by decide⟩
set_option maxRecDepth 100000 in
theorem wc_X1_isLost : Cond.code yX1_isLost cX1_isLost 2 (some .boolean) ∈ WS := ws_m 432 rfl rfl
theorem wi_X1_isLost : Cond.instanceMethod yX1_isLost ∈ WS := ws_m 431 (by decide +kernel) rfl
theorem wl_X1_isLost : Cond.selects RX1 yX1_isLost yX1_isLost ∈ WS := ws_m 21 (by decide +kernel) rfl
theorem k_X1_75 : CkV RX1 75 yX1_isLost cX1_isLost 2 (some .boolean) RX1 1 := ⟨ws_m 429 (by decide +kernel) rfl, wi_X1_isLost, wl_X1_isLost, wn_X1, wc_X1_isLost, rfl, ⟨by decide +kernel, by decide +kernel, by decide +kernel⟩, by decide⟩
set_option maxRecDepth 100000 in
theorem wc_X1_waveOf : Cond.code yX1_waveOf cX1_waveOf 2 (some .int) ∈ WS := ws_m 436 rfl rfl
theorem wi_X1_waveOf : Cond.instanceMethod yX1_waveOf ∈ WS := ws_m 435 (by decide +kernel) rfl
theorem wl_X1_waveOf : Cond.selects RX1 yX1_waveOf yX1_waveOf ∈ WS := ws_m 22 (by decide +kernel) rfl
theorem k_X1_103 : CkV RX1 103 yX1_waveOf cX1_waveOf 2 (some .int) RX1 1 := ⟨ws_m 433 (by decide +kernel) rfl, wi_X1_waveOf, wl_X1_waveOf, wn_X1, wc_X1_waveOf, rfl, ⟨by decide +kernel, by decide +kernel, by decide +kernel⟩, by decide⟩
set_option maxRecDepth 100000 in
theorem wc_X1_losePushedBy : Cond.code yX1_losePushedBy cX1_losePushedBy 5 none ∈ WS := ws_m 440 rfl rfl
theorem wi_X1_losePushedBy : Cond.instanceMethod yX1_losePushedBy ∈ WS := ws_m 439 (by decide +kernel) rfl
theorem wl_X1_losePushedBy : Cond.selects RX1 yX1_losePushedBy yX1_losePushedBy ∈ WS := ws_m 23 (by decide +kernel) rfl
theorem k_X1_79 : CkV RX1 79 yX1_losePushedBy cX1_losePushedBy 5 none RX1 3 := ⟨ws_m 437 (by decide +kernel) rfl, wi_X1_losePushedBy, wl_X1_losePushedBy, wn_X1, wc_X1_losePushedBy, rfl, ⟨by decide +kernel, by decide +kernel, by decide +kernel⟩, by decide⟩
theorem k_X1_83 : CkSN RX1 83 yX7_isIn cX7_isIn 2 (some .boolean) 2 := ⟨List.mem_of_getElem? (i := 345) (by decide +kernel), ws_X7_isIn, wn_X7, wc_X7_isIn, ⟨by decide +kernel, by decide +kernel, by decide +kernel⟩, by decide⟩
set_option maxRecDepth 100000 in
theorem wc_X3_target : Cond.code yX3_target cX3_target 3 (some .int) ∈ WS := ws_m 445 rfl rfl
theorem wi_X3_target : Cond.instanceMethod yX3_target ∈ WS := ws_m 444 (by decide +kernel) rfl
theorem wl_X3_target : Cond.selects RX3 yX3_target yX3_target ∈ WS := ws_m 24 (by decide +kernel) rfl
theorem k_X1_87 : CkVN RX1 87 yX3_target cX3_target 3 (some .int) RX3 2 := ⟨List.mem_of_getElem? (i := 346) (by decide +kernel), wi_X3_target, wl_X3_target, wn_X3, wc_X3_target, rfl, ⟨by decide +kernel, by decide +kernel, by decide +kernel⟩, by decide⟩
theorem k_X3_139 : CkSN RX3 139 yX7_isEvent cX7_isEvent 1 (some .boolean) 1 := ⟨List.mem_of_getElem? (i := 350) (by decide +kernel), ws_X7_isEvent, wn_X7, wc_X7_isEvent, ⟨by decide +kernel, by decide +kernel, by decide +kernel⟩, by decide⟩
set_option maxRecDepth 100000 in
theorem wc_X1_isLostInEarlierWave : Cond.code yX1_isLostInEarlierWave cX1_isLostInEarlierWave 2 (some .boolean) ∈ WS := ws_m 450 rfl rfl
theorem wi_X1_isLostInEarlierWave : Cond.instanceMethod yX1_isLostInEarlierWave ∈ WS := ws_m 449 (by decide +kernel) rfl
theorem wl_X1_isLostInEarlierWave : Cond.selects RX1 yX1_isLostInEarlierWave yX1_isLostInEarlierWave ∈ WS := ws_m 25 (by decide +kernel) rfl
theorem k_X1_90 : CkV RX1 90 yX1_isLostInEarlierWave cX1_isLostInEarlierWave 2 (some .boolean) RX1 1 := ⟨ws_m 447 (by decide +kernel) rfl, wi_X1_isLostInEarlierWave, wl_X1_isLostInEarlierWave, wn_X1, wc_X1_isLostInEarlierWave, rfl, ⟨by decide +kernel, by decide +kernel, by decide +kernel⟩, by decide⟩
set_option maxRecDepth 100000 in
theorem wc_X1_loseStuck : Cond.code yX1_loseStuck cX1_loseStuck 3 none ∈ WS := ws_m 454 rfl rfl
theorem wi_X1_loseStuck : Cond.instanceMethod yX1_loseStuck ∈ WS := ws_m 453 (by decide +kernel) rfl
theorem wl_X1_loseStuck : Cond.selects RX1 yX1_loseStuck yX1_loseStuck ∈ WS := ws_m 26 (by decide +kernel) rfl
theorem k_X1_53 : CkV RX1 53 yX1_loseStuck cX1_loseStuck 3 none RX1 1 := ⟨ws_m 451 (by decide +kernel) rfl, wi_X1_loseStuck, wl_X1_loseStuck, wn_X1, wc_X1_loseStuck, rfl, ⟨by decide +kernel, by decide +kernel, by decide +kernel⟩, by decide⟩
set_option maxRecDepth 100000 in
theorem wc_X3_measure : Cond.code yX3_measure cX3_measure 3 none ∈ WS := ws_m 458 rfl rfl
theorem wi_X3_measure : Cond.instanceMethod yX3_measure ∈ WS := ws_m 457 (by decide +kernel) rfl
theorem wl_X3_measure : Cond.selects RX3 yX3_measure yX3_measure ∈ WS := ws_m 27 (by decide +kernel) rfl
theorem k_X1_93 : CkVN RX1 93 yX3_measure cX3_measure 3 none RX3 1 := ⟨List.mem_of_getElem? (i := 359) (by decide +kernel), wi_X3_measure, wl_X3_measure, wn_X3, wc_X3_measure, rfl, ⟨by decide +kernel, by decide +kernel, by decide +kernel⟩, by decide⟩
set_option maxRecDepth 100000 in
theorem wc_X3_enqueue : Cond.code yX3_enqueue cX3_enqueue 3 none ∈ WS := ws_m 462 rfl rfl
theorem wi_X3_enqueue : Cond.instanceMethod yX3_enqueue ∈ WS := ws_m 461 (by decide +kernel) rfl
theorem wl_X3_enqueue : Cond.selects RX3 yX3_enqueue yX3_enqueue ∈ WS := ws_m 28 (by decide +kernel) rfl
theorem k_X3_124 : CkV RX3 124 yX3_enqueue cX3_enqueue 3 none RX3 2 := ⟨ws_m 459 (by decide +kernel) rfl, wi_X3_enqueue, wl_X3_enqueue, wn_X3, wc_X3_enqueue, rfl, ⟨by decide +kernel, by decide +kernel, by decide +kernel⟩, by decide⟩
set_option maxRecDepth 100000 in
theorem wc_X3_measureBackFrom : Cond.code yX3_measureBackFrom cX3_measureBackFrom 6 none ∈ WS := ws_m 466 rfl rfl
theorem wi_X3_measureBackFrom : Cond.instanceMethod yX3_measureBackFrom ∈ WS := ws_m 465 (by decide +kernel) rfl
theorem wl_X3_measureBackFrom : Cond.selects RX3 yX3_measureBackFrom yX3_measureBackFrom ∈ WS := ws_m 29 (by decide +kernel) rfl
theorem k_X3_128 : CkV RX3 128 yX3_measureBackFrom cX3_measureBackFrom 6 none RX3 2 := ⟨ws_m 463 (by decide +kernel) rfl, wi_X3_measureBackFrom, wl_X3_measureBackFrom, wn_X3, wc_X3_measureBackFrom, rfl, ⟨by decide +kernel, by decide +kernel, by decide +kernel⟩, by decide⟩
set_option maxRecDepth 100000 in
theorem wc_X3_farOf : Cond.code yX3_farOf cX3_farOf 2 (some .int) ∈ WS := ws_m 470 rfl rfl
theorem wi_X3_farOf : Cond.instanceMethod yX3_farOf ∈ WS := ws_m 469 (by decide +kernel) rfl
theorem wl_X3_farOf : Cond.selects RX3 yX3_farOf yX3_farOf ∈ WS := ws_m 30 (by decide +kernel) rfl
theorem k_X1_97 : CkVN RX1 97 yX3_farOf cX3_farOf 2 (some .int) RX3 1 := ⟨List.mem_of_getElem? (i := 371) (by decide +kernel), wi_X3_farOf, wl_X3_farOf, wn_X3, wc_X3_farOf, rfl, ⟨by decide +kernel, by decide +kernel, by decide +kernel⟩, by decide⟩
set_option maxRecDepth 100000 in
theorem wc_X0_spread : Cond.code yX0_spread cX0_spread 4 none ∈ WS := ws_m 474 rfl rfl
theorem wi_X0_spread : Cond.instanceMethod yX0_spread ∈ WS := ws_m 473 (by decide +kernel) rfl
theorem wl_X0_spread : Cond.selects RX0 yX0_spread yX0_spread ∈ WS := ws_m 31 (by decide +kernel) rfl
theorem k_X7_239 : CkVN RX7 239 yX0_spread cX0_spread 4 none RX0 2 := ⟨List.mem_of_getElem? (i := 375) (by decide +kernel), wi_X0_spread, wl_X0_spread, wn_X0, wc_X0_spread, rfl, ⟨by decide +kernel, by decide +kernel, by decide +kernel⟩, by decide⟩
theorem k_X0_31 : CkS RX0 31 yJ7_fill_53178 cJ7_fill_53178 4 none 2 := ⟨ws_m 475 (by decide +kernel) rfl, ws_J7_fill_53178, wn_J7, wc_J7_fill_53178, ⟨by decide +kernel, by decide +kernel, by decide +kernel⟩, by decide⟩
theorem k_X0_37 : CkVN RX0 37 yX3_has cX3_has 2 (some .boolean) RX3 1 := ⟨List.mem_of_getElem? (i := 380) (by decide +kernel), wi_X3_has, wl_X3_has, wn_X3, wc_X3_has, rfl, ⟨by decide +kernel, by decide +kernel, by decide +kernel⟩, by decide⟩
theorem k_X0_43 : CkVN RX0 43 yX1_isLost cX1_isLost 2 (some .boolean) RX1 1 := ⟨List.mem_of_getElem? (i := 381) (by decide +kernel), wi_X1_isLost, wl_X1_isLost, wn_X1, wc_X1_isLost, rfl, ⟨by decide +kernel, by decide +kernel, by decide +kernel⟩, by decide⟩
set_option maxRecDepth 100000 in
theorem wc_X0_comeTo : Cond.code yX0_comeTo cX0_comeTo 4 none ∈ WS := ws_m 481 rfl rfl
theorem wi_X0_comeTo : Cond.instanceMethod yX0_comeTo ∈ WS := ws_m 480 (by decide +kernel) rfl
theorem wl_X0_comeTo : Cond.selects RX0 yX0_comeTo yX0_comeTo ∈ WS := ws_m 32 (by decide +kernel) rfl
theorem k_X0_48 : CkV RX0 48 yX0_comeTo cX0_comeTo 4 none RX0 3 := ⟨ws_m 478 (by decide +kernel) rfl, wi_X0_comeTo, wl_X0_comeTo, wn_X0, wc_X0_comeTo, rfl, ⟨by decide +kernel, by decide +kernel, by decide +kernel⟩, by decide⟩
set_option maxRecDepth 100000 in
theorem wc_X0_spreadFrom : Cond.code yX0_spreadFrom cX0_spreadFrom 8 none ∈ WS := ws_m 485 rfl rfl
theorem wi_X0_spreadFrom : Cond.instanceMethod yX0_spreadFrom ∈ WS := ws_m 484 (by decide +kernel) rfl
theorem wl_X0_spreadFrom : Cond.selects RX0 yX0_spreadFrom yX0_spreadFrom ∈ WS := ws_m 33 (by decide +kernel) rfl
theorem k_X0_52 : CkV RX0 52 yX0_spreadFrom cX0_spreadFrom 8 none RX0 3 := ⟨ws_m 482 (by decide +kernel) rfl, wi_X0_spreadFrom, wl_X0_spreadFrom, wn_X0, wc_X0_spreadFrom, rfl, ⟨by decide +kernel, by decide +kernel, by decide +kernel⟩, by decide⟩
theorem k_X0_56 : CkVN RX0 56 yX3_leadSet cX3_leadSet 2 (some .int) RX3 1 := ⟨List.mem_of_getElem? (i := 390) (by decide +kernel), wi_X3_leadSet, wl_X3_leadSet, wn_X3, wc_X3_leadSet, rfl, ⟨by decide +kernel, by decide +kernel, by decide +kernel⟩, by decide⟩
theorem k_X0_60 : CkSN RX0 60 yX7_isIn cX7_isIn 2 (some .boolean) 2 := ⟨List.mem_of_getElem? (i := 391) (by decide +kernel), ws_X7_isIn, wn_X7, wc_X7_isIn, ⟨by decide +kernel, by decide +kernel, by decide +kernel⟩, by decide⟩
theorem k_X0_64 : CkVN RX0 64 yX3_target cX3_target 3 (some .int) RX3 2 := ⟨List.mem_of_getElem? (i := 392) (by decide +kernel), wi_X3_target, wl_X3_target, wn_X3, wc_X3_target, rfl, ⟨by decide +kernel, by decide +kernel, by decide +kernel⟩, by decide⟩
theorem k_X0_68 : CkSN RX0 68 yX7_isJoint cX7_isJoint 1 (some .boolean) 1 := ⟨List.mem_of_getElem? (i := 393) (by decide +kernel), ws_X7_isJoint, wn_X7, wc_X7_isJoint, ⟨by decide +kernel, by decide +kernel, by decide +kernel⟩, by decide⟩
set_option maxRecDepth 100000 in
theorem wc_X0_holds : Cond.code yX0_holds cX0_holds 2 (some .boolean) ∈ WS := ws_m 493 rfl rfl
theorem wi_X0_holds : Cond.instanceMethod yX0_holds ∈ WS := ws_m 492 (by decide +kernel) rfl
theorem wl_X0_holds : Cond.selects RX0 yX0_holds yX0_holds ∈ WS := ws_m 34 (by decide +kernel) rfl
theorem k_X0_71 : CkV RX0 71 yX0_holds cX0_holds 2 (some .boolean) RX0 1 := ⟨ws_m 490 (by decide +kernel) rfl, wi_X0_holds, wl_X0_holds, wn_X0, wc_X0_holds, rfl, ⟨by decide +kernel, by decide +kernel, by decide +kernel⟩, by decide⟩
set_option maxRecDepth 100000 in
theorem wc_X0_depthOf : Cond.code yX0_depthOf cX0_depthOf 2 (some .int) ∈ WS := ws_m 497 rfl rfl
theorem wi_X0_depthOf : Cond.instanceMethod yX0_depthOf ∈ WS := ws_m 496 (by decide +kernel) rfl
theorem wl_X0_depthOf : Cond.selects RX0 yX0_depthOf yX0_depthOf ∈ WS := ws_m 35 (by decide +kernel) rfl
theorem k_X0_79 : CkV RX0 79 yX0_depthOf cX0_depthOf 2 (some .int) RX0 1 := ⟨ws_m 494 (by decide +kernel) rfl, wi_X0_depthOf, wl_X0_depthOf, wn_X0, wc_X0_depthOf, rfl, ⟨by decide +kernel, by decide +kernel, by decide +kernel⟩, by decide⟩
set_option maxRecDepth 100000 in
theorem wc_J6_bitCount_0f7a4 : Cond.code yJ6_bitCount_0f7a4 cJ6_bitCount_0f7a4 1 (some .int) ∈ WS := ws_m 500 rfl rfl
theorem ws_J6_bitCount_0f7a4 : Cond.static yJ6_bitCount_0f7a4 ∈ WS := ws_m 499 (by decide +kernel) rfl
theorem wn_J6 : Cond.initialized RJ6 ∈ WS := ws_m 106 (by decide +kernel) rfl
theorem k_X0_74 : CkS RX0 74 yJ6_bitCount_0f7a4 cJ6_bitCount_0f7a4 1 (some .int) 1 := ⟨ws_m 498 (by decide +kernel) rfl, ws_J6_bitCount_0f7a4, wn_J6, wc_J6_bitCount_0f7a4, ⟨by decide +kernel, by decide +kernel, by decide +kernel⟩, by decide⟩
set_option maxRecDepth 100000 in
theorem wc_X6_begin : Cond.code yX6_begin cX6_begin 1 none ∈ WS := ws_m 507 rfl rfl
theorem wi_X6_begin : Cond.instanceMethod yX6_begin ∈ WS := ws_m 506 (by decide +kernel) rfl
theorem wl_X6_begin : Cond.selects RX6 yX6_begin yX6_begin ∈ WS := ws_m 36 (by decide +kernel) rfl
theorem k_X7_243 : CkVN RX7 243 yX6_begin cX6_begin 1 none RX6 0 := ⟨List.mem_of_getElem? (i := 408) (by decide +kernel), wi_X6_begin, wl_X6_begin, wn_X6, wc_X6_begin, rfl, ⟨by decide +kernel, by decide +kernel, by decide +kernel⟩, by decide⟩
set_option maxRecDepth 100000 in
theorem wc_X7_type : Cond.code yX7_type cX7_type 2 (some .int) ∈ WS := ws_m 548 rfl rfl
theorem wi_X7_type : Cond.instanceMethod yX7_type ∈ WS := ws_m 546 (by decide +kernel) rfl
theorem wl_X7_type : Cond.selects RX7 yX7_type yX7_type ∈ WS := ws_m 547 (by decide +kernel) rfl
theorem k_L_13 : CkV RL 13 yX7_type cX7_type 2 (some .int) RX7 1 := ⟨ws_m 545 (by decide +kernel) rfl, wi_X7_type, wl_X7_type, wn_X7, wc_X7_type, rfl, ⟨by decide +kernel, by decide +kernel, by decide +kernel⟩, by decide⟩
set_option maxRecDepth 100000 in
theorem wc_X5_put : Cond.code yX5_put cX5_put 2 (some .boolean) ∈ WS := ws_m 552 rfl rfl
theorem wi_X5_put : Cond.instanceMethod yX5_put ∈ WS := ws_m 551 (by decide +kernel) rfl
theorem wl_X5_put : Cond.selects RX5 yX5_put yX5_put ∈ WS := ws_m 37 (by decide +kernel) rfl
theorem k_X7_87 : CkVN RX7 87 yX5_put cX5_put 2 (some .boolean) RX5 1 := ⟨List.mem_of_getElem? (i := 453) (by decide +kernel), wi_X5_put, wl_X5_put, wn_X5, wc_X5_put, rfl, ⟨by decide +kernel, by decide +kernel, by decide +kernel⟩, by decide⟩
set_option maxRecDepth 100000 in
theorem wc_X7_wipe : Cond.code yX7_wipe cX7_wipe 2 (some .int) ∈ WS := ws_m 556 rfl rfl
theorem wi_X7_wipe : Cond.instanceMethod yX7_wipe ∈ WS := ws_m 554 (by decide +kernel) rfl
theorem wl_X7_wipe : Cond.selects RX7 yX7_wipe yX7_wipe ∈ WS := ws_m 555 (by decide +kernel) rfl
theorem k_L_18 : CkV RL 18 yX7_wipe cX7_wipe 2 (some .int) RX7 0 := ⟨ws_m 553 (by decide +kernel) rfl, wi_X7_wipe, wl_X7_wipe, wn_X7, wc_X7_wipe, rfl, ⟨by decide +kernel, by decide +kernel, by decide +kernel⟩, by decide⟩
set_option maxRecDepth 100000 in
theorem wc_X5_clear : Cond.code yX5_clear cX5_clear 1 none ∈ WS := ws_m 560 rfl rfl
theorem wi_X5_clear : Cond.instanceMethod yX5_clear ∈ WS := ws_m 559 (by decide +kernel) rfl
theorem wl_X5_clear : Cond.selects RX5 yX5_clear yX5_clear ∈ WS := ws_m 38 (by decide +kernel) rfl
theorem k_X7_94 : CkVN RX7 94 yX5_clear cX5_clear 1 none RX5 0 := ⟨List.mem_of_getElem? (i := 461) (by decide +kernel), wi_X5_clear, wl_X5_clear, wn_X5, wc_X5_clear, rfl, ⟨by decide +kernel, by decide +kernel, by decide +kernel⟩, by decide⟩
set_option maxRecDepth 100000 in
theorem wc_X7_machine : Cond.code yX7_machine cX7_machine 3 (some .int) ∈ WS := ws_m 564 rfl rfl
theorem wi_X7_machine : Cond.instanceMethod yX7_machine ∈ WS := ws_m 562 (by decide +kernel) rfl
theorem wl_X7_machine : Cond.selects RX7 yX7_machine yX7_machine ∈ WS := ws_m 563 (by decide +kernel) rfl
theorem k_L_23 : CkV RL 23 yX7_machine cX7_machine 3 (some .int) RX7 1 := ⟨ws_m 561 (by decide +kernel) rfl, wi_X7_machine, wl_X7_machine, wn_X7, wc_X7_machine, rfl, ⟨by decide +kernel, by decide +kernel, by decide +kernel⟩, by decide⟩
set_option maxRecDepth 100000 in
theorem wc_X4_read : Cond.code yX4_read cX4_read 5 (some .int) ∈ WS := ws_m 568 rfl rfl
end
section
theorem wi_X4_read : Cond.instanceMethod yX4_read ∈ WS := ws_m 567 (by decide +kernel) rfl
theorem wl_X4_read : Cond.selects RX4 yX4_read yX4_read ∈ WS := ws_m 39 (by decide +kernel) rfl
theorem k_X7_97 : CkVN RX7 97 yX4_read cX4_read 5 (some .int) RX4 3 := ⟨List.mem_of_getElem? (i := 469) (by decide +kernel), wi_X4_read, wl_X4_read, wn_X4, wc_X4_read, rfl, ⟨by decide +kernel, by decide +kernel, by decide +kernel⟩, by decide⟩
set_option maxRecDepth 100000 in
theorem wc_X2_clear : Cond.code yX2_clear cX2_clear 2 none ∈ WS := ws_m 572 rfl rfl
theorem wi_X2_clear : Cond.instanceMethod yX2_clear ∈ WS := ws_m 571 (by decide +kernel) rfl
theorem wl_X2_clear : Cond.selects RX2 yX2_clear yX2_clear ∈ WS := ws_m 40 (by decide +kernel) rfl
theorem k_X4_21 : CkVN RX4 21 yX2_clear cX2_clear 2 none RX2 1 := ⟨List.mem_of_getElem? (i := 473) (by decide +kernel), wi_X2_clear, wl_X2_clear, wn_X2, wc_X2_clear, rfl, ⟨by decide +kernel, by decide +kernel, by decide +kernel⟩, by decide⟩
theorem k_X2_34 : CkS RX2 34 yJ7_fill_53178 cJ7_fill_53178 4 none 2 := ⟨ws_m 573 (by decide +kernel) rfl, ws_J7_fill_53178, wn_J7, wc_J7_fill_53178, ⟨by decide +kernel, by decide +kernel, by decide +kernel⟩, by decide⟩
set_option maxRecDepth 100000 in
theorem wc_X4_takes : Cond.code yX4_takes cX4_takes 3 (some .boolean) ∈ WS := ws_m 577 rfl rfl
theorem wi_X4_takes : Cond.instanceMethod yX4_takes ∈ WS := ws_m 576 (by decide +kernel) rfl
theorem wl_X4_takes : Cond.selects RX4 yX4_takes yX4_takes ∈ WS := ws_m 41 (by decide +kernel) rfl
theorem k_X4_36 : CkV RX4 36 yX4_takes cX4_takes 3 (some .boolean) RX4 2 := ⟨ws_m 574 (by decide +kernel) rfl, wi_X4_takes, wl_X4_takes, wn_X4, wc_X4_takes, rfl, ⟨by decide +kernel, by decide +kernel, by decide +kernel⟩, by decide⟩
set_option maxRecDepth 100000 in
theorem wc_X4_opensItem : Cond.code yX4_opensItem cX4_opensItem 2 (some .boolean) ∈ WS := ws_m 581 rfl rfl
theorem wi_X4_opensItem : Cond.instanceMethod yX4_opensItem ∈ WS := ws_m 580 (by decide +kernel) rfl
theorem wl_X4_opensItem : Cond.selects RX4 yX4_opensItem yX4_opensItem ∈ WS := ws_m 42 (by decide +kernel) rfl
theorem k_X4_40 : CkV RX4 40 yX4_opensItem cX4_opensItem 2 (some .boolean) RX4 1 := ⟨ws_m 578 (by decide +kernel) rfl, wi_X4_opensItem, wl_X4_opensItem, wn_X4, wc_X4_opensItem, rfl, ⟨by decide +kernel, by decide +kernel, by decide +kernel⟩, by decide⟩
theorem k_X4_59 : CkSN RX4 59 yX7_isState cX7_isState 1 (some .boolean) 1 := ⟨List.mem_of_getElem? (i := 486) (by decide +kernel), ws_X7_isState, wn_X7, wc_X7_isState, ⟨by decide +kernel, by decide +kernel, by decide +kernel⟩, by decide⟩
set_option maxRecDepth 100000 in
theorem wc_X4_takesLetter : Cond.code yX4_takesLetter cX4_takesLetter 2 (some .boolean) ∈ WS := ws_m 586 rfl rfl
theorem wi_X4_takesLetter : Cond.instanceMethod yX4_takesLetter ∈ WS := ws_m 585 (by decide +kernel) rfl
theorem wl_X4_takesLetter : Cond.selects RX4 yX4_takesLetter yX4_takesLetter ∈ WS := ws_m 43 (by decide +kernel) rfl
theorem k_X4_44 : CkV RX4 44 yX4_takesLetter cX4_takesLetter 2 (some .boolean) RX4 1 := ⟨ws_m 583 (by decide +kernel) rfl, wi_X4_takesLetter, wl_X4_takesLetter, wn_X4, wc_X4_takesLetter, rfl, ⟨by decide +kernel, by decide +kernel, by decide +kernel⟩, by decide⟩
theorem k_X4_62 : CkSN RX4 62 yX7_isEvent cX7_isEvent 1 (some .boolean) 1 := ⟨List.mem_of_getElem? (i := 491) (by decide +kernel), ws_X7_isEvent, wn_X7, wc_X7_isEvent, ⟨by decide +kernel, by decide +kernel, by decide +kernel⟩, by decide⟩
set_option maxRecDepth 100000 in
theorem wc_X4_takesFigure : Cond.code yX4_takesFigure cX4_takesFigure 3 (some .boolean) ∈ WS := ws_m 591 rfl rfl
theorem wi_X4_takesFigure : Cond.instanceMethod yX4_takesFigure ∈ WS := ws_m 590 (by decide +kernel) rfl
theorem wl_X4_takesFigure : Cond.selects RX4 yX4_takesFigure yX4_takesFigure ∈ WS := ws_m 44 (by decide +kernel) rfl
theorem k_X4_47 : CkV RX4 47 yX4_takesFigure cX4_takesFigure 3 (some .boolean) RX4 2 := ⟨ws_m 588 (by decide +kernel) rfl, wi_X4_takesFigure, wl_X4_takesFigure, wn_X4, wc_X4_takesFigure, rfl, ⟨by decide +kernel, by decide +kernel, by decide +kernel⟩, by decide⟩
set_option maxRecDepth 100000 in
theorem wc_X2_tellStep : Cond.code yX2_tellStep cX2_tellStep 5 (some .boolean) ∈ WS := ws_m 595 rfl rfl
theorem wi_X2_tellStep : Cond.instanceMethod yX2_tellStep ∈ WS := ws_m 594 (by decide +kernel) rfl
theorem wl_X2_tellStep : Cond.selects RX2 yX2_tellStep yX2_tellStep ∈ WS := ws_m 45 (by decide +kernel) rfl
theorem k_X4_65 : CkVN RX4 65 yX2_tellStep cX2_tellStep 5 (some .boolean) RX2 3 := ⟨List.mem_of_getElem? (i := 496) (by decide +kernel), wi_X2_tellStep, wl_X2_tellStep, wn_X2, wc_X2_tellStep, rfl, ⟨by decide +kernel, by decide +kernel, by decide +kernel⟩, by decide⟩
set_option maxRecDepth 100000 in
theorem wc_J9_max_7cf53 : Cond.code yJ9_max_7cf53 cJ9_max_7cf53 2 (some .int) ∈ WS := ws_m 598 rfl rfl
theorem ws_J9_max_7cf53 : Cond.static yJ9_max_7cf53 ∈ WS := ws_m 597 (by decide +kernel) rfl
theorem wn_J9 : Cond.initialized RJ9 ∈ WS := ws_m 108 (by decide +kernel) rfl
theorem k_X2_47 : CkS RX2 47 yJ9_max_7cf53 cJ9_max_7cf53 2 (some .int) 2 := ⟨ws_m 596 (by decide +kernel) rfl, ws_J9_max_7cf53, wn_J9, wc_J9_max_7cf53, ⟨by decide +kernel, by decide +kernel, by decide +kernel⟩, by decide⟩
set_option maxRecDepth 100000 in
theorem wc_X4_takesMark : Cond.code yX4_takesMark cX4_takesMark 3 (some .boolean) ∈ WS := ws_m 602 rfl rfl
theorem wi_X4_takesMark : Cond.instanceMethod yX4_takesMark ∈ WS := ws_m 601 (by decide +kernel) rfl
theorem wl_X4_takesMark : Cond.selects RX4 yX4_takesMark yX4_takesMark ∈ WS := ws_m 46 (by decide +kernel) rfl
theorem k_X4_50 : CkV RX4 50 yX4_takesMark cX4_takesMark 3 (some .boolean) RX4 2 := ⟨ws_m 599 (by decide +kernel) rfl, wi_X4_takesMark, wl_X4_takesMark, wn_X4, wc_X4_takesMark, rfl, ⟨by decide +kernel, by decide +kernel, by decide +kernel⟩, by decide⟩
set_option maxRecDepth 100000 in
theorem wc_X2_tellMarked : Cond.code yX2_tellMarked cX2_tellMarked 2 (some .boolean) ∈ WS := ws_m 606 rfl rfl
theorem wi_X2_tellMarked : Cond.instanceMethod yX2_tellMarked ∈ WS := ws_m 605 (by decide +kernel) rfl
theorem wl_X2_tellMarked : Cond.selects RX2 yX2_tellMarked yX2_tellMarked ∈ WS := ws_m 47 (by decide +kernel) rfl
theorem k_X4_69 : CkVN RX4 69 yX2_tellMarked cX2_tellMarked 2 (some .boolean) RX2 1 := ⟨List.mem_of_getElem? (i := 507) (by decide +kernel), wi_X2_tellMarked, wl_X2_tellMarked, wn_X2, wc_X2_tellMarked, rfl, ⟨by decide +kernel, by decide +kernel, by decide +kernel⟩, by decide⟩
set_option maxRecDepth 100000 in
theorem wc_X4_takesName : Cond.code yX4_takesName cX4_takesName 3 (some .boolean) ∈ WS := ws_m 610 rfl rfl
theorem wi_X4_takesName : Cond.instanceMethod yX4_takesName ∈ WS := ws_m 609 (by decide +kernel) rfl
theorem wl_X4_takesName : Cond.selects RX4 yX4_takesName yX4_takesName ∈ WS := ws_m 48 (by decide +kernel) rfl
theorem k_X4_53 : CkV RX4 53 yX4_takesName cX4_takesName 3 (some .boolean) RX4 2 := ⟨ws_m 607 (by decide +kernel) rfl, wi_X4_takesName, wl_X4_takesName, wn_X4, wc_X4_takesName, rfl, ⟨by decide +kernel, by decide +kernel, by decide +kernel⟩, by decide⟩
set_option maxRecDepth 100000 in
theorem wc_X2_tellEvent : Cond.code yX2_tellEvent cX2_tellEvent 2 (some .boolean) ∈ WS := ws_m 614 rfl rfl
theorem wi_X2_tellEvent : Cond.instanceMethod yX2_tellEvent ∈ WS := ws_m 613 (by decide +kernel) rfl
theorem wl_X2_tellEvent : Cond.selects RX2 yX2_tellEvent yX2_tellEvent ∈ WS := ws_m 49 (by decide +kernel) rfl
theorem k_X4_72 : CkVN RX4 72 yX2_tellEvent cX2_tellEvent 2 (some .boolean) RX2 1 := ⟨List.mem_of_getElem? (i := 515) (by decide +kernel), wi_X2_tellEvent, wl_X2_tellEvent, wn_X2, wc_X2_tellEvent, rfl, ⟨by decide +kernel, by decide +kernel, by decide +kernel⟩, by decide⟩
set_option maxRecDepth 100000 in
theorem wc_X4_takesBlank : Cond.code yX4_takesBlank cX4_takesBlank 2 (some .boolean) ∈ WS := ws_m 618 rfl rfl
theorem wi_X4_takesBlank : Cond.instanceMethod yX4_takesBlank ∈ WS := ws_m 617 (by decide +kernel) rfl
theorem wl_X4_takesBlank : Cond.selects RX4 yX4_takesBlank yX4_takesBlank ∈ WS := ws_m 50 (by decide +kernel) rfl
theorem k_X4_56 : CkV RX4 56 yX4_takesBlank cX4_takesBlank 2 (some .boolean) RX4 1 := ⟨ws_m 615 (by decide +kernel) rfl, wi_X4_takesBlank, wl_X4_takesBlank, wn_X4, wc_X4_takesBlank, rfl, ⟨by decide +kernel, by decide +kernel, by decide +kernel⟩, by decide⟩
set_option maxRecDepth 100000 in
theorem wc_X7_drop : Cond.code yX7_drop cX7_drop 1 (some .int) ∈ WS := ws_m 622 rfl rfl
theorem wi_X7_drop : Cond.instanceMethod yX7_drop ∈ WS := ws_m 620 (by decide +kernel) rfl
theorem wl_X7_drop : Cond.selects RX7 yX7_drop yX7_drop ∈ WS := ws_m 621 (by decide +kernel) rfl
theorem k_L_27 : CkV RL 27 yX7_drop cX7_drop 1 (some .int) RX7 0 := ⟨ws_m 619 (by decide +kernel) rfl, wi_X7_drop, wl_X7_drop, wn_X7, wc_X7_drop, rfl, ⟨by decide +kernel, by decide +kernel, by decide +kernel⟩, by decide⟩
set_option maxRecDepth 100000 in
theorem wc_X7_free : Cond.code yX7_free cX7_free 4 (some .int) ∈ WS := ws_m 626 rfl rfl
theorem wi_X7_free : Cond.instanceMethod yX7_free ∈ WS := ws_m 624 (by decide +kernel) rfl
theorem wl_X7_free : Cond.selects RX7 yX7_free yX7_free ∈ WS := ws_m 625 (by decide +kernel) rfl
theorem k_L_31 : CkV RL 31 yX7_free cX7_free 4 (some .int) RX7 2 := ⟨ws_m 623 (by decide +kernel) rfl, wi_X7_free, wl_X7_free, wn_X7, wc_X7_free, rfl, ⟨by decide +kernel, by decide +kernel, by decide +kernel⟩, by decide⟩
theorem k_X7_101 : CkS RX7 101 yX7_isEvent cX7_isEvent 1 (some .boolean) 1 := ⟨ws_m 627 (by decide +kernel) rfl, ws_X7_isEvent, wn_X7, wc_X7_isEvent, ⟨by decide +kernel, by decide +kernel, by decide +kernel⟩, by decide⟩
set_option maxRecDepth 100000 in
theorem wc_X7_anew : Cond.code yX7_anew cX7_anew 2 (some .int) ∈ WS := ws_m 631 rfl rfl
theorem wi_X7_anew : Cond.instanceMethod yX7_anew ∈ WS := ws_m 629 (by decide +kernel) rfl
theorem wl_X7_anew : Cond.selects RX7 yX7_anew yX7_anew ∈ WS := ws_m 630 (by decide +kernel) rfl
theorem k_L_36 : CkV RL 36 yX7_anew cX7_anew 2 (some .int) RX7 0 := ⟨ws_m 628 (by decide +kernel) rfl, wi_X7_anew, wl_X7_anew, wn_X7, wc_X7_anew, rfl, ⟨by decide +kernel, by decide +kernel, by decide +kernel⟩, by decide⟩
set_option maxRecDepth 100000 in
theorem wc_X7_ofMachine : Cond.code yX7_ofMachine cX7_ofMachine 4 (some .int) ∈ WS := ws_m 635 rfl rfl
theorem wi_X7_ofMachine : Cond.instanceMethod yX7_ofMachine ∈ WS := ws_m 633 (by decide +kernel) rfl
theorem wl_X7_ofMachine : Cond.selects RX7 yX7_ofMachine yX7_ofMachine ∈ WS := ws_m 634 (by decide +kernel) rfl
theorem k_L_40 : CkV RL 40 yX7_ofMachine cX7_ofMachine 4 (some .int) RX7 2 := ⟨ws_m 632 (by decide +kernel) rfl, wi_X7_ofMachine, wl_X7_ofMachine, wn_X7, wc_X7_ofMachine, rfl, ⟨by decide +kernel, by decide +kernel, by decide +kernel⟩, by decide⟩
set_option maxRecDepth 100000 in
theorem wc_X7_isMachine : Cond.code yX7_isMachine cX7_isMachine 2 (some .boolean) ∈ WS := ws_m 639 rfl rfl
theorem wi_X7_isMachine : Cond.instanceMethod yX7_isMachine ∈ WS := ws_m 638 (by decide +kernel) rfl
theorem wl_X7_isMachine : Cond.selects RX7 yX7_isMachine yX7_isMachine ∈ WS := ws_m 51 (by decide +kernel) rfl
theorem k_X7_104 : CkV RX7 104 yX7_isMachine cX7_isMachine 2 (some .boolean) RX7 1 := ⟨ws_m 636 (by decide +kernel) rfl, wi_X7_isMachine, wl_X7_isMachine, wn_X7, wc_X7_isMachine, rfl, ⟨by decide +kernel, by decide +kernel, by decide +kernel⟩, by decide⟩
set_option maxRecDepth 100000 in
theorem wc_X7_step : Cond.code yX7_step cX7_step 4 (some .int) ∈ WS := ws_m 643 rfl rfl
theorem wi_X7_step : Cond.instanceMethod yX7_step ∈ WS := ws_m 641 (by decide +kernel) rfl
theorem wl_X7_step : Cond.selects RX7 yX7_step yX7_step ∈ WS := ws_m 642 (by decide +kernel) rfl
theorem k_L_44 : CkV RL 44 yX7_step cX7_step 4 (some .int) RX7 3 := ⟨ws_m 640 (by decide +kernel) rfl, wi_X7_step, wl_X7_step, wn_X7, wc_X7_step, rfl, ⟨by decide +kernel, by decide +kernel, by decide +kernel⟩, by decide⟩
theorem k_X7_122 : CkS RX7 122 yX7_isState cX7_isState 1 (some .boolean) 1 := ⟨ws_m 644 (by decide +kernel) rfl, ws_X7_isState, wn_X7, wc_X7_isState, ⟨by decide +kernel, by decide +kernel, by decide +kernel⟩, by decide⟩
theorem k_X7_125 : CkVN RX7 125 yX2_target cX2_target 3 (some .int) RX2 2 := ⟨List.mem_of_getElem? (i := 549) (by decide +kernel), wi_X2_target, wl_X2_target, wn_X2, wc_X2_target, rfl, ⟨by decide +kernel, by decide +kernel, by decide +kernel⟩, by decide⟩
set_option maxRecDepth 100000 in
theorem wc_X7_stateOf : Cond.code yX7_stateOf cX7_stateOf 3 (some .int) ∈ WS := ws_m 649 rfl rfl
theorem wi_X7_stateOf : Cond.instanceMethod yX7_stateOf ∈ WS := ws_m 647 (by decide +kernel) rfl
theorem wl_X7_stateOf : Cond.selects RX7 yX7_stateOf yX7_stateOf ∈ WS := ws_m 648 (by decide +kernel) rfl
theorem k_L_49 : CkV RL 49 yX7_stateOf cX7_stateOf 3 (some .int) RX7 2 := ⟨ws_m 646 (by decide +kernel) rfl, wi_X7_stateOf, wl_X7_stateOf, wn_X7, wc_X7_stateOf, rfl, ⟨by decide +kernel, by decide +kernel, by decide +kernel⟩, by decide⟩
theorem k_X7_129 : CkVN RX7 129 yX3_has cX3_has 2 (some .boolean) RX3 1 := ⟨List.mem_of_getElem? (i := 554) (by decide +kernel), wi_X3_has, wl_X3_has, wn_X3, wc_X3_has, rfl, ⟨by decide +kernel, by decide +kernel, by decide +kernel⟩, by decide⟩
theorem k_X7_132 : CkVN RX7 132 yX3_stateIn cX3_stateIn 3 (some .int) RX3 2 := ⟨List.mem_of_getElem? (i := 555) (by decide +kernel), wi_X3_stateIn, wl_X3_stateIn, wn_X3, wc_X3_stateIn, rfl, ⟨by decide +kernel, by decide +kernel, by decide +kernel⟩, by decide⟩
set_option maxRecDepth 100000 in
theorem wc_X7_leads : Cond.code yX7_leads cX7_leads 3 (some .int) ∈ WS := ws_m 655 rfl rfl
theorem wi_X7_leads : Cond.instanceMethod yX7_leads ∈ WS := ws_m 653 (by decide +kernel) rfl
theorem wl_X7_leads : Cond.selects RX7 yX7_leads yX7_leads ∈ WS := ws_m 654 (by decide +kernel) rfl
theorem k_L_53 : CkV RL 53 yX7_leads cX7_leads 3 (some .int) RX7 2 := ⟨ws_m 652 (by decide +kernel) rfl, wi_X7_leads, wl_X7_leads, wn_X7, wc_X7_leads, rfl, ⟨by decide +kernel, by decide +kernel, by decide +kernel⟩, by decide⟩
theorem k_X7_135 : CkVN RX7 135 yX3_target cX3_target 3 (some .int) RX3 2 := ⟨List.mem_of_getElem? (i := 560) (by decide +kernel), wi_X3_target, wl_X3_target, wn_X3, wc_X3_target, rfl, ⟨by decide +kernel, by decide +kernel, by decide +kernel⟩, by decide⟩
set_option maxRecDepth 100000 in
theorem wc_X7_joint : Cond.code yX7_joint cX7_joint 3 (some .int) ∈ WS := ws_m 660 rfl rfl
theorem wi_X7_joint : Cond.instanceMethod yX7_joint ∈ WS := ws_m 658 (by decide +kernel) rfl
theorem wl_X7_joint : Cond.selects RX7 yX7_joint yX7_joint ∈ WS := ws_m 659 (by decide +kernel) rfl
theorem k_L_57 : CkV RL 57 yX7_joint cX7_joint 3 (some .int) RX7 2 := ⟨ws_m 657 (by decide +kernel) rfl, wi_X7_joint, wl_X7_joint, wn_X7, wc_X7_joint, rfl, ⟨by decide +kernel, by decide +kernel, by decide +kernel⟩, by decide⟩
set_option maxRecDepth 100000 in
theorem wc_X3_isFinished : Cond.code yX3_isFinished cX3_isFinished 2 (some .boolean) ∈ WS := ws_m 664 rfl rfl
theorem wi_X3_isFinished : Cond.instanceMethod yX3_isFinished ∈ WS := ws_m 663 (by decide +kernel) rfl
theorem wl_X3_isFinished : Cond.selects RX3 yX3_isFinished yX3_isFinished ∈ WS := ws_m 52 (by decide +kernel) rfl
theorem k_X7_136 : CkVN RX7 136 yX3_isFinished cX3_isFinished 2 (some .boolean) RX3 1 := ⟨List.mem_of_getElem? (i := 565) (by decide +kernel), wi_X3_isFinished, wl_X3_isFinished, wn_X3, wc_X3_isFinished, rfl, ⟨by decide +kernel, by decide +kernel, by decide +kernel⟩, by decide⟩
theorem k_X7_139 : CkVN RX7 139 yX3_leadSet cX3_leadSet 2 (some .int) RX3 1 := ⟨List.mem_of_getElem? (i := 569) (by decide +kernel), wi_X3_leadSet, wl_X3_leadSet, wn_X3, wc_X3_leadSet, rfl, ⟨by decide +kernel, by decide +kernel, by decide +kernel⟩, by decide⟩
theorem k_X7_143 : CkVN RX7 143 yX3_clashSet cX3_clashSet 3 (some .int) RX3 2 := ⟨List.mem_of_getElem? (i := 570) (by decide +kernel), wi_X3_clashSet, wl_X3_clashSet, wn_X3, wc_X3_clashSet, rfl, ⟨by decide +kernel, by decide +kernel, by decide +kernel⟩, by decide⟩
theorem k_X7_146 : CkVN RX7 146 yX1_isLost cX1_isLost 2 (some .boolean) RX1 1 := ⟨List.mem_of_getElem? (i := 571) (by decide +kernel), wi_X1_isLost, wl_X1_isLost, wn_X1, wc_X1_isLost, rfl, ⟨by decide +kernel, by decide +kernel, by decide +kernel⟩, by decide⟩
theorem k_X7_149 : CkVN RX7 149 yX0_holds cX0_holds 2 (some .boolean) RX0 1 := ⟨List.mem_of_getElem? (i := 572) (by decide +kernel), wi_X0_holds, wl_X0_holds, wn_X0, wc_X0_holds, rfl, ⟨by decide +kernel, by decide +kernel, by decide +kernel⟩, by decide⟩
theorem k_X7_152 : CkVN RX7 152 yX1_waveOf cX1_waveOf 2 (some .int) RX1 1 := ⟨List.mem_of_getElem? (i := 573) (by decide +kernel), wi_X1_waveOf, wl_X1_waveOf, wn_X1, wc_X1_waveOf, rfl, ⟨by decide +kernel, by decide +kernel, by decide +kernel⟩, by decide⟩
set_option maxRecDepth 100000 in
theorem wc_X0_barredSet : Cond.code yX0_barredSet cX0_barredSet 2 (some .int) ∈ WS := ws_m 673 rfl rfl
theorem wi_X0_barredSet : Cond.instanceMethod yX0_barredSet ∈ WS := ws_m 672 (by decide +kernel) rfl
theorem wl_X0_barredSet : Cond.selects RX0 yX0_barredSet yX0_barredSet ∈ WS := ws_m 53 (by decide +kernel) rfl
theorem k_X7_155 : CkVN RX7 155 yX0_barredSet cX0_barredSet 2 (some .int) RX0 1 := ⟨List.mem_of_getElem? (i := 574) (by decide +kernel), wi_X0_barredSet, wl_X0_barredSet, wn_X0, wc_X0_barredSet, rfl, ⟨by decide +kernel, by decide +kernel, by decide +kernel⟩, by decide⟩
set_option maxRecDepth 100000 in
theorem wc_X7_why : Cond.code yX7_why cX7_why 5 (some .int) ∈ WS := ws_m 677 rfl rfl
theorem wi_X7_why : Cond.instanceMethod yX7_why ∈ WS := ws_m 675 (by decide +kernel) rfl
theorem wl_X7_why : Cond.selects RX7 yX7_why yX7_why ∈ WS := ws_m 676 (by decide +kernel) rfl
theorem k_L_61 : CkV RL 61 yX7_why cX7_why 5 (some .int) RX7 3 := ⟨ws_m 674 (by decide +kernel) rfl, wi_X7_why, wl_X7_why, wn_X7, wc_X7_why, rfl, ⟨by decide +kernel, by decide +kernel, by decide +kernel⟩, by decide⟩
set_option maxRecDepth 100000 in
theorem wc_X1_linkBehind : Cond.code yX1_linkBehind cX1_linkBehind 5 (some .int) ∈ WS := ws_m 681 rfl rfl
theorem wi_X1_linkBehind : Cond.instanceMethod yX1_linkBehind ∈ WS := ws_m 680 (by decide +kernel) rfl
theorem wl_X1_linkBehind : Cond.selects RX1 yX1_linkBehind yX1_linkBehind ∈ WS := ws_m 54 (by decide +kernel) rfl
theorem k_X7_158 : CkVN RX7 158 yX1_linkBehind cX1_linkBehind 5 (some .int) RX1 2 := ⟨List.mem_of_getElem? (i := 582) (by decide +kernel), wi_X1_linkBehind, wl_X1_linkBehind, wn_X1, wc_X1_linkBehind, rfl, ⟨by decide +kernel, by decide +kernel, by decide +kernel⟩, by decide⟩
set_option maxRecDepth 100000 in
theorem wc_X1_reasonOf : Cond.code yX1_reasonOf cX1_reasonOf 2 (some .int) ∈ WS := ws_m 685 rfl rfl
theorem wi_X1_reasonOf : Cond.instanceMethod yX1_reasonOf ∈ WS := ws_m 684 (by decide +kernel) rfl
theorem wl_X1_reasonOf : Cond.selects RX1 yX1_reasonOf yX1_reasonOf ∈ WS := ws_m 55 (by decide +kernel) rfl
theorem k_X7_161 : CkVN RX7 161 yX1_reasonOf cX1_reasonOf 2 (some .int) RX1 1 := ⟨List.mem_of_getElem? (i := 586) (by decide +kernel), wi_X1_reasonOf, wl_X1_reasonOf, wn_X1, wc_X1_reasonOf, rfl, ⟨by decide +kernel, by decide +kernel, by decide +kernel⟩, by decide⟩
set_option maxRecDepth 100000 in
theorem wc_X1_eventOf : Cond.code yX1_eventOf cX1_eventOf 2 (some .int) ∈ WS := ws_m 689 rfl rfl
theorem wi_X1_eventOf : Cond.instanceMethod yX1_eventOf ∈ WS := ws_m 688 (by decide +kernel) rfl
theorem wl_X1_eventOf : Cond.selects RX1 yX1_eventOf yX1_eventOf ∈ WS := ws_m 56 (by decide +kernel) rfl
theorem k_X7_164 : CkVN RX7 164 yX1_eventOf cX1_eventOf 2 (some .int) RX1 1 := ⟨List.mem_of_getElem? (i := 590) (by decide +kernel), wi_X1_eventOf, wl_X1_eventOf, wn_X1, wc_X1_eventOf, rfl, ⟨by decide +kernel, by decide +kernel, by decide +kernel⟩, by decide⟩
set_option maxRecDepth 100000 in
theorem wc_X7_wave : Cond.code yX7_wave cX7_wave 2 (some .int) ∈ WS := ws_m 693 rfl rfl
theorem wi_X7_wave : Cond.instanceMethod yX7_wave ∈ WS := ws_m 691 (by decide +kernel) rfl
theorem wl_X7_wave : Cond.selects RX7 yX7_wave yX7_wave ∈ WS := ws_m 692 (by decide +kernel) rfl
theorem k_L_65 : CkV RL 65 yX7_wave cX7_wave 2 (some .int) RX7 1 := ⟨ws_m 690 (by decide +kernel) rfl, wi_X7_wave, wl_X7_wave, wn_X7, wc_X7_wave, rfl, ⟨by decide +kernel, by decide +kernel, by decide +kernel⟩, by decide⟩
set_option maxRecDepth 100000 in
theorem wc_X1_hasWave : Cond.code yX1_hasWave cX1_hasWave 2 (some .boolean) ∈ WS := ws_m 697 rfl rfl
theorem wi_X1_hasWave : Cond.instanceMethod yX1_hasWave ∈ WS := ws_m 696 (by decide +kernel) rfl
theorem wl_X1_hasWave : Cond.selects RX1 yX1_hasWave yX1_hasWave ∈ WS := ws_m 57 (by decide +kernel) rfl
theorem k_X7_167 : CkVN RX7 167 yX1_hasWave cX1_hasWave 2 (some .boolean) RX1 1 := ⟨List.mem_of_getElem? (i := 598) (by decide +kernel), wi_X1_hasWave, wl_X1_hasWave, wn_X1, wc_X1_hasWave, rfl, ⟨by decide +kernel, by decide +kernel, by decide +kernel⟩, by decide⟩
set_option maxRecDepth 100000 in
theorem wc_X1_sizeOfWave : Cond.code yX1_sizeOfWave cX1_sizeOfWave 2 (some .int) ∈ WS := ws_m 701 rfl rfl
theorem wi_X1_sizeOfWave : Cond.instanceMethod yX1_sizeOfWave ∈ WS := ws_m 700 (by decide +kernel) rfl
theorem wl_X1_sizeOfWave : Cond.selects RX1 yX1_sizeOfWave yX1_sizeOfWave ∈ WS := ws_m 58 (by decide +kernel) rfl
theorem k_X7_170 : CkVN RX7 170 yX1_sizeOfWave cX1_sizeOfWave 2 (some .int) RX1 1 := ⟨List.mem_of_getElem? (i := 602) (by decide +kernel), wi_X1_sizeOfWave, wl_X1_sizeOfWave, wn_X1, wc_X1_sizeOfWave, rfl, ⟨by decide +kernel, by decide +kernel, by decide +kernel⟩, by decide⟩
set_option maxRecDepth 100000 in
theorem wc_X7_some : Cond.code yX7_some cX7_some 3 (some .int) ∈ WS := ws_m 705 rfl rfl
theorem wi_X7_some : Cond.instanceMethod yX7_some ∈ WS := ws_m 703 (by decide +kernel) rfl
theorem wl_X7_some : Cond.selects RX7 yX7_some yX7_some ∈ WS := ws_m 704 (by decide +kernel) rfl
theorem k_L_69 : CkV RL 69 yX7_some cX7_some 3 (some .int) RX7 2 := ⟨ws_m 702 (by decide +kernel) rfl, wi_X7_some, wl_X7_some, wn_X7, wc_X7_some, rfl, ⟨by decide +kernel, by decide +kernel, by decide +kernel⟩, by decide⟩
set_option maxRecDepth 100000 in
theorem wc_X7_joinPart : Cond.code yX7_joinPart cX7_joinPart 2 none ∈ WS := ws_m 709 rfl rfl
theorem wi_X7_joinPart : Cond.instanceMethod yX7_joinPart ∈ WS := ws_m 708 (by decide +kernel) rfl
theorem wl_X7_joinPart : Cond.selects RX7 yX7_joinPart yX7_joinPart ∈ WS := ws_m 59 (by decide +kernel) rfl
theorem k_X7_177 : CkV RX7 177 yX7_joinPart cX7_joinPart 2 none RX7 1 := ⟨ws_m 706 (by decide +kernel) rfl, wi_X7_joinPart, wl_X7_joinPart, wn_X7, wc_X7_joinPart, rfl, ⟨by decide +kernel, by decide +kernel, by decide +kernel⟩, by decide⟩
theorem k_X7_231 : CkVN RX7 231 yX3_measure cX3_measure 3 none RX3 1 := ⟨List.mem_of_getElem? (i := 614) (by decide +kernel), wi_X3_measure, wl_X3_measure, wn_X3, wc_X3_measure, rfl, ⟨by decide +kernel, by decide +kernel, by decide +kernel⟩, by decide⟩
set_option maxRecDepth 100000 in
theorem wc_X3_countStuck : Cond.code yX3_countStuck cX3_countStuck 1 (some .int) ∈ WS := ws_m 714 rfl rfl
theorem wi_X3_countStuck : Cond.instanceMethod yX3_countStuck ∈ WS := ws_m 713 (by decide +kernel) rfl
theorem wl_X3_countStuck : Cond.selects RX3 yX3_countStuck yX3_countStuck ∈ WS := ws_m 60 (by decide +kernel) rfl
theorem k_X7_188 : CkVN RX7 188 yX3_countStuck cX3_countStuck 1 (some .int) RX3 0 := ⟨List.mem_of_getElem? (i := 615) (by decide +kernel), wi_X3_countStuck, wl_X3_countStuck, wn_X3, wc_X3_countStuck, rfl, ⟨by decide +kernel, by decide +kernel, by decide +kernel⟩, by decide⟩
set_option maxRecDepth 100000 in
theorem wc_X7_go : Cond.code yX7_go cX7_go 3 (some .int) ∈ WS := ws_m 718 rfl rfl
theorem wi_X7_go : Cond.instanceMethod yX7_go ∈ WS := ws_m 716 (by decide +kernel) rfl
theorem wl_X7_go : Cond.selects RX7 yX7_go yX7_go ∈ WS := ws_m 717 (by decide +kernel) rfl
theorem k_L_73 : CkV RL 73 yX7_go cX7_go 3 (some .int) RX7 1 := ⟨ws_m 715 (by decide +kernel) rfl, wi_X7_go, wl_X7_go, wn_X7, wc_X7_go, rfl, ⟨by decide +kernel, by decide +kernel, by decide +kernel⟩, by decide⟩
set_option maxRecDepth 100000 in
theorem wc_X6_moveTo : Cond.code yX6_moveTo cX6_moveTo 2 none ∈ WS := ws_m 722 rfl rfl
theorem wi_X6_moveTo : Cond.instanceMethod yX6_moveTo ∈ WS := ws_m 721 (by decide +kernel) rfl
theorem wl_X6_moveTo : Cond.selects RX6 yX6_moveTo yX6_moveTo ∈ WS := ws_m 61 (by decide +kernel) rfl
theorem k_X7_194 : CkVN RX7 194 yX6_moveTo cX6_moveTo 2 none RX6 1 := ⟨List.mem_of_getElem? (i := 623) (by decide +kernel), wi_X6_moveTo, wl_X6_moveTo, wn_X6, wc_X6_moveTo, rfl, ⟨by decide +kernel, by decide +kernel, by decide +kernel⟩, by decide⟩
set_option maxRecDepth 100000 in
theorem wc_J9_min_7cf53 : Cond.code yJ9_min_7cf53 cJ9_min_7cf53 2 (some .int) ∈ WS := ws_m 725 rfl rfl
theorem ws_J9_min_7cf53 : Cond.static yJ9_min_7cf53 ∈ WS := ws_m 724 (by decide +kernel) rfl
theorem k_X6_25 : CkS RX6 25 yJ9_min_7cf53 cJ9_min_7cf53 2 (some .int) 2 := ⟨ws_m 723 (by decide +kernel) rfl, ws_J9_min_7cf53, wn_J9, wc_J9_min_7cf53, ⟨by decide +kernel, by decide +kernel, by decide +kernel⟩, by decide⟩
set_option maxRecDepth 100000 in
theorem wc_X7_back : Cond.code yX7_back cX7_back 1 (some .int) ∈ WS := ws_m 729 rfl rfl
theorem wi_X7_back : Cond.instanceMethod yX7_back ∈ WS := ws_m 727 (by decide +kernel) rfl
theorem wl_X7_back : Cond.selects RX7 yX7_back yX7_back ∈ WS := ws_m 728 (by decide +kernel) rfl
theorem k_L_77 : CkV RL 77 yX7_back cX7_back 1 (some .int) RX7 0 := ⟨ws_m 726 (by decide +kernel) rfl, wi_X7_back, wl_X7_back, wn_X7, wc_X7_back, rfl, ⟨by decide +kernel, by decide +kernel, by decide +kernel⟩, by decide⟩
set_option maxRecDepth 100000 in
theorem wc_X6_turnBack : Cond.code yX6_turnBack cX6_turnBack 1 (some .boolean) ∈ WS := ws_m 733 rfl rfl
theorem wi_X6_turnBack : Cond.instanceMethod yX6_turnBack ∈ WS := ws_m 732 (by decide +kernel) rfl
theorem wl_X6_turnBack : Cond.selects RX6 yX6_turnBack yX6_turnBack ∈ WS := ws_m 62 (by decide +kernel) rfl
theorem k_X7_197 : CkVN RX7 197 yX6_turnBack cX6_turnBack 1 (some .boolean) RX6 0 := ⟨List.mem_of_getElem? (i := 634) (by decide +kernel), wi_X6_turnBack, wl_X6_turnBack, wn_X6, wc_X6_turnBack, rfl, ⟨by decide +kernel, by decide +kernel, by decide +kernel⟩, by decide⟩
set_option maxRecDepth 100000 in
theorem wc_J9_floorMod_7cf53 : Cond.code yJ9_floorMod_7cf53 cJ9_floorMod_7cf53 3 (some .int) ∈ WS := ws_m 736 rfl rfl
end
section
theorem ws_J9_floorMod_7cf53 : Cond.static yJ9_floorMod_7cf53 ∈ WS := ws_m 735 (by decide +kernel) rfl
theorem k_X6_31 : CkS RX6 31 yJ9_floorMod_7cf53 cJ9_floorMod_7cf53 3 (some .int) 2 := ⟨ws_m 734 (by decide +kernel) rfl, ws_J9_floorMod_7cf53, wn_J9, wc_J9_floorMod_7cf53, ⟨by decide +kernel, by decide +kernel, by decide +kernel⟩, by decide⟩
set_option maxRecDepth 100000 in
theorem wc_X7_at : Cond.code yX7_at cX7_at 1 (some .int) ∈ WS := ws_m 740 rfl rfl
theorem wi_X7_at : Cond.instanceMethod yX7_at ∈ WS := ws_m 738 (by decide +kernel) rfl
theorem wl_X7_at : Cond.selects RX7 yX7_at yX7_at ∈ WS := ws_m 739 (by decide +kernel) rfl
theorem k_L_81 : CkV RL 81 yX7_at cX7_at 1 (some .int) RX7 0 := ⟨ws_m 737 (by decide +kernel) rfl, wi_X7_at, wl_X7_at, wn_X7, wc_X7_at, rfl, ⟨by decide +kernel, by decide +kernel, by decide +kernel⟩, by decide⟩
set_option maxRecDepth 100000 in
theorem wc_X7_finish : Cond.code yX7_finish cX7_finish 2 (some .int) ∈ WS := ws_m 744 rfl rfl
theorem wi_X7_finish : Cond.instanceMethod yX7_finish ∈ WS := ws_m 742 (by decide +kernel) rfl
theorem wl_X7_finish : Cond.selects RX7 yX7_finish yX7_finish ∈ WS := ws_m 743 (by decide +kernel) rfl
theorem k_L_85 : CkV RL 85 yX7_finish cX7_finish 2 (some .int) RX7 1 := ⟨ws_m 741 (by decide +kernel) rfl, wi_X7_finish, wl_X7_finish, wn_X7, wc_X7_finish, rfl, ⟨by decide +kernel, by decide +kernel, by decide +kernel⟩, by decide⟩
set_option maxRecDepth 100000 in
theorem wc_X7_isPlaceInWord : Cond.code yX7_isPlaceInWord cX7_isPlaceInWord 1 (some .boolean) ∈ WS := ws_m 747 rfl rfl
theorem ws_X7_isPlaceInWord : Cond.static yX7_isPlaceInWord ∈ WS := ws_m 746 (by decide +kernel) rfl
theorem k_X7_201 : CkS RX7 201 yX7_isPlaceInWord cX7_isPlaceInWord 1 (some .boolean) 1 := ⟨ws_m 745 (by decide +kernel) rfl, ws_X7_isPlaceInWord, wn_X7, wc_X7_isPlaceInWord, ⟨by decide +kernel, by decide +kernel, by decide +kernel⟩, by decide⟩
theorem k_X7_204 : CkVN RX7 204 yX3_farOf cX3_farOf 2 (some .int) RX3 1 := ⟨List.mem_of_getElem? (i := 652) (by decide +kernel), wi_X3_farOf, wl_X3_farOf, wn_X3, wc_X3_farOf, rfl, ⟨by decide +kernel, by decide +kernel, by decide +kernel⟩, by decide⟩
set_option maxRecDepth 100000 in
theorem wc_X3_eventToFinish : Cond.code yX3_eventToFinish cX3_eventToFinish 5 (some .int) ∈ WS := ws_m 752 rfl rfl
theorem wi_X3_eventToFinish : Cond.instanceMethod yX3_eventToFinish ∈ WS := ws_m 751 (by decide +kernel) rfl
theorem wl_X3_eventToFinish : Cond.selects RX3 yX3_eventToFinish yX3_eventToFinish ∈ WS := ws_m 63 (by decide +kernel) rfl
theorem k_X7_207 : CkVN RX7 207 yX3_eventToFinish cX3_eventToFinish 5 (some .int) RX3 2 := ⟨List.mem_of_getElem? (i := 653) (by decide +kernel), wi_X3_eventToFinish, wl_X3_eventToFinish, wn_X3, wc_X3_eventToFinish, rfl, ⟨by decide +kernel, by decide +kernel, by decide +kernel⟩, by decide⟩
set_option maxRecDepth 100000 in
theorem wc_X3_nearerBy : Cond.code yX3_nearerBy cX3_nearerBy 3 (some .int) ∈ WS := ws_m 756 rfl rfl
theorem wi_X3_nearerBy : Cond.instanceMethod yX3_nearerBy ∈ WS := ws_m 755 (by decide +kernel) rfl
theorem wl_X3_nearerBy : Cond.selects RX3 yX3_nearerBy yX3_nearerBy ∈ WS := ws_m 64 (by decide +kernel) rfl
theorem k_X3_132 : CkV RX3 132 yX3_nearerBy cX3_nearerBy 3 (some .int) RX3 1 := ⟨ws_m 753 (by decide +kernel) rfl, wi_X3_nearerBy, wl_X3_nearerBy, wn_X3, wc_X3_nearerBy, rfl, ⟨by decide +kernel, by decide +kernel, by decide +kernel⟩, by decide⟩
theorem k_X3_136 : CkV RX3 136 yX3_farOf cX3_farOf 2 (some .int) RX3 1 := ⟨ws_m 757 (by decide +kernel) rfl, wi_X3_farOf, wl_X3_farOf, wn_X3, wc_X3_farOf, rfl, ⟨by decide +kernel, by decide +kernel, by decide +kernel⟩, by decide⟩
theorem k_X3_135 : CkV RX3 135 yX3_target cX3_target 3 (some .int) RX3 2 := ⟨ws_m 758 (by decide +kernel) rfl, wi_X3_target, wl_X3_target, wn_X3, wc_X3_target, rfl, ⟨by decide +kernel, by decide +kernel, by decide +kernel⟩, by decide⟩
set_option maxRecDepth 100000 in
theorem wc_X7_word : Cond.code yX7_word cX7_word 3 (some .int) ∈ WS := ws_m 762 rfl rfl
theorem wi_X7_word : Cond.instanceMethod yX7_word ∈ WS := ws_m 760 (by decide +kernel) rfl
theorem wl_X7_word : Cond.selects RX7 yX7_word yX7_word ∈ WS := ws_m 761 (by decide +kernel) rfl
theorem k_L_89 : CkV RL 89 yX7_word cX7_word 3 (some .int) RX7 2 := ⟨ws_m 759 (by decide +kernel) rfl, wi_X7_word, wl_X7_word, wn_X7, wc_X7_word, rfl, ⟨by decide +kernel, by decide +kernel, by decide +kernel⟩, by decide⟩
theorem k_X7_210 : CkVN RX7 210 yX0_depthOf cX0_depthOf 2 (some .int) RX0 1 := ⟨List.mem_of_getElem? (i := 667) (by decide +kernel), wi_X0_depthOf, wl_X0_depthOf, wn_X0, wc_X0_depthOf, rfl, ⟨by decide +kernel, by decide +kernel, by decide +kernel⟩, by decide⟩
set_option maxRecDepth 100000 in
theorem wc_X0_eventTo : Cond.code yX0_eventTo cX0_eventTo 5 (some .int) ∈ WS := ws_m 767 rfl rfl
theorem wi_X0_eventTo : Cond.instanceMethod yX0_eventTo ∈ WS := ws_m 766 (by decide +kernel) rfl
theorem wl_X0_eventTo : Cond.selects RX0 yX0_eventTo yX0_eventTo ∈ WS := ws_m 65 (by decide +kernel) rfl
theorem k_X7_213 : CkVN RX7 213 yX0_eventTo cX0_eventTo 5 (some .int) RX0 2 := ⟨List.mem_of_getElem? (i := 668) (by decide +kernel), wi_X0_eventTo, wl_X0_eventTo, wn_X0, wc_X0_eventTo, rfl, ⟨by decide +kernel, by decide +kernel, by decide +kernel⟩, by decide⟩
set_option maxRecDepth 100000 in
theorem wc_X7_many : Cond.code yX7_many cX7_many 2 (some .int) ∈ WS := ws_m 771 rfl rfl
theorem wi_X7_many : Cond.instanceMethod yX7_many ∈ WS := ws_m 769 (by decide +kernel) rfl
theorem wl_X7_many : Cond.selects RX7 yX7_many yX7_many ∈ WS := ws_m 770 (by decide +kernel) rfl
theorem k_L_93 : CkV RL 93 yX7_many cX7_many 2 (some .int) RX7 1 := ⟨ws_m 768 (by decide +kernel) rfl, wi_X7_many, wl_X7_many, wn_X7, wc_X7_many, rfl, ⟨by decide +kernel, by decide +kernel, by decide +kernel⟩, by decide⟩
set_option maxRecDepth 100000 in
theorem wc_X8_init : Cond.code yX8_init cX8_init 1 none ∈ WS := ws_m 776 rfl rfl
theorem wi_X8_init : Cond.instanceMethod yX8_init ∈ WS := ws_m 775 (by decide +kernel) rfl
theorem wn_X8 : Cond.initialized RX8 ∈ WS := ws_m 107 (by decide +kernel) rfl
set_option maxRecDepth 100000 in
theorem wc_X8_type : Cond.code yX8_type cX8_type 2 (some .int) ∈ WS := ws_m 857 rfl rfl
theorem wi_X8_type : Cond.instanceMethod yX8_type ∈ WS := ws_m 855 (by decide +kernel) rfl
theorem wl_X8_type : Cond.selects RX8 yX8_type yX8_type ∈ WS := ws_m 856 (by decide +kernel) rfl
theorem k_L_17 : CkV RL 17 yX8_type cX8_type 2 (some .int) RX8 1 := ⟨ws_m 854 (by decide +kernel) rfl, wi_X8_type, wl_X8_type, wn_X8, wc_X8_type, rfl, ⟨by decide +kernel, by decide +kernel, by decide +kernel⟩, by decide⟩
set_option maxRecDepth 100000 in
theorem wc_X8_within : Cond.code yX8_within cX8_within 3 (some .boolean) ∈ WS := ws_m 860 rfl rfl
theorem ws_X8_within : Cond.static yX8_within ∈ WS := ws_m 859 (by decide +kernel) rfl
theorem k_X8_59 : CkS RX8 59 yX8_within cX8_within 3 (some .boolean) 3 := ⟨ws_m 858 (by decide +kernel) rfl, ws_X8_within, wn_X8, wc_X8_within, ⟨by decide +kernel, by decide +kernel, by decide +kernel⟩, by decide⟩
set_option maxRecDepth 100000 in
theorem wc_X8_wipe : Cond.code yX8_wipe cX8_wipe 2 (some .int) ∈ WS := ws_m 864 rfl rfl
theorem wi_X8_wipe : Cond.instanceMethod yX8_wipe ∈ WS := ws_m 862 (by decide +kernel) rfl
theorem wl_X8_wipe : Cond.selects RX8 yX8_wipe yX8_wipe ∈ WS := ws_m 863 (by decide +kernel) rfl
theorem k_L_22 : CkV RL 22 yX8_wipe cX8_wipe 2 (some .int) RX8 0 := ⟨ws_m 861 (by decide +kernel) rfl, wi_X8_wipe, wl_X8_wipe, wn_X8, wc_X8_wipe, rfl, ⟨by decide +kernel, by decide +kernel, by decide +kernel⟩, by decide⟩
set_option maxRecDepth 100000 in
theorem wc_X8_machine : Cond.code yX8_machine cX8_machine 4 (some .int) ∈ WS := ws_m 868 rfl rfl
theorem wi_X8_machine : Cond.instanceMethod yX8_machine ∈ WS := ws_m 866 (by decide +kernel) rfl
theorem wl_X8_machine : Cond.selects RX8 yX8_machine yX8_machine ∈ WS := ws_m 867 (by decide +kernel) rfl
theorem k_L_26 : CkV RL 26 yX8_machine cX8_machine 4 (some .int) RX8 1 := ⟨ws_m 865 (by decide +kernel) rfl, wi_X8_machine, wl_X8_machine, wn_X8, wc_X8_machine, rfl, ⟨by decide +kernel, by decide +kernel, by decide +kernel⟩, by decide⟩
set_option maxRecDepth 100000 in
theorem wc_X8_reads : Cond.code yX8_reads cX8_reads 2 (some .boolean) ∈ WS := ws_m 872 rfl rfl
theorem wi_X8_reads : Cond.instanceMethod yX8_reads ∈ WS := ws_m 871 (by decide +kernel) rfl
theorem wl_X8_reads : Cond.selects RX8 yX8_reads yX8_reads ∈ WS := ws_m 66 (by decide +kernel) rfl
theorem k_X8_99 : CkV RX8 99 yX8_reads cX8_reads 2 (some .boolean) RX8 1 := ⟨ws_m 869 (by decide +kernel) rfl, wi_X8_reads, wl_X8_reads, wn_X8, wc_X8_reads, rfl, ⟨by decide +kernel, by decide +kernel, by decide +kernel⟩, by decide⟩
set_option maxRecDepth 100000 in
theorem wc_X8_readsItem : Cond.code yX8_readsItem cX8_readsItem 3 (some .boolean) ∈ WS := ws_m 876 rfl rfl
theorem wi_X8_readsItem : Cond.instanceMethod yX8_readsItem ∈ WS := ws_m 875 (by decide +kernel) rfl
theorem wl_X8_readsItem : Cond.selects RX8 yX8_readsItem yX8_readsItem ∈ WS := ws_m 67 (by decide +kernel) rfl
theorem k_X8_93 : CkV RX8 93 yX8_readsItem cX8_readsItem 3 (some .boolean) RX8 1 := ⟨ws_m 873 (by decide +kernel) rfl, wi_X8_readsItem, wl_X8_readsItem, wn_X8, wc_X8_readsItem, rfl, ⟨by decide +kernel, by decide +kernel, by decide +kernel⟩, by decide⟩
set_option maxRecDepth 100000 in
theorem wc_X8_isFigure : Cond.code yX8_isFigure cX8_isFigure 1 (some .boolean) ∈ WS := ws_m 880 rfl rfl
theorem wi_X8_isFigure : Cond.instanceMethod yX8_isFigure ∈ WS := ws_m 879 (by decide +kernel) rfl
theorem wl_X8_isFigure : Cond.selects RX8 yX8_isFigure yX8_isFigure ∈ WS := ws_m 68 (by decide +kernel) rfl
theorem k_X8_78 : CkV RX8 78 yX8_isFigure cX8_isFigure 1 (some .boolean) RX8 0 := ⟨ws_m 877 (by decide +kernel) rfl, wi_X8_isFigure, wl_X8_isFigure, wn_X8, wc_X8_isFigure, rfl, ⟨by decide +kernel, by decide +kernel, by decide +kernel⟩, by decide⟩
set_option maxRecDepth 100000 in
theorem wc_X8_codeHere : Cond.code yX8_codeHere cX8_codeHere 1 (some .int) ∈ WS := ws_m 884 rfl rfl
theorem wi_X8_codeHere : Cond.instanceMethod yX8_codeHere ∈ WS := ws_m 883 (by decide +kernel) rfl
theorem wl_X8_codeHere : Cond.selects RX8 yX8_codeHere yX8_codeHere ∈ WS := ws_m 69 (by decide +kernel) rfl
theorem k_X8_70 : CkV RX8 70 yX8_codeHere cX8_codeHere 1 (some .int) RX8 0 := ⟨ws_m 881 (by decide +kernel) rfl, wi_X8_codeHere, wl_X8_codeHere, wn_X8, wc_X8_codeHere, rfl, ⟨by decide +kernel, by decide +kernel, by decide +kernel⟩, by decide⟩
set_option maxRecDepth 100000 in
theorem wc_X8_readsStep : Cond.code yX8_readsStep cX8_readsStep 6 (some .boolean) ∈ WS := ws_m 888 rfl rfl
theorem wi_X8_readsStep : Cond.instanceMethod yX8_readsStep ∈ WS := ws_m 887 (by decide +kernel) rfl
theorem wl_X8_readsStep : Cond.selects RX8 yX8_readsStep yX8_readsStep ∈ WS := ws_m 70 (by decide +kernel) rfl
theorem k_X8_89 : CkV RX8 89 yX8_readsStep cX8_readsStep 6 (some .boolean) RX8 1 := ⟨ws_m 885 (by decide +kernel) rfl, wi_X8_readsStep, wl_X8_readsStep, wn_X8, wc_X8_readsStep, rfl, ⟨by decide +kernel, by decide +kernel, by decide +kernel⟩, by decide⟩
set_option maxRecDepth 100000 in
theorem wc_X8_isLetter : Cond.code yX8_isLetter cX8_isLetter 1 (some .boolean) ∈ WS := ws_m 892 rfl rfl
theorem wi_X8_isLetter : Cond.instanceMethod yX8_isLetter ∈ WS := ws_m 891 (by decide +kernel) rfl
theorem wl_X8_isLetter : Cond.selects RX8 yX8_isLetter yX8_isLetter ∈ WS := ws_m 71 (by decide +kernel) rfl
theorem k_X8_74 : CkV RX8 74 yX8_isLetter cX8_isLetter 1 (some .boolean) RX8 0 := ⟨ws_m 889 (by decide +kernel) rfl, wi_X8_isLetter, wl_X8_isLetter, wn_X8, wc_X8_isLetter, rfl, ⟨by decide +kernel, by decide +kernel, by decide +kernel⟩, by decide⟩
set_option maxRecDepth 100000 in
theorem wc_X8_stepAt : Cond.code yX8_stepAt cX8_stepAt 3 (some .int) ∈ WS := ws_m 895 rfl rfl
theorem ws_X8_stepAt : Cond.static yX8_stepAt ∈ WS := ws_m 894 (by decide +kernel) rfl
theorem k_X8_81 : CkS RX8 81 yX8_stepAt cX8_stepAt 3 (some .int) 3 := ⟨ws_m 893 (by decide +kernel) rfl, ws_X8_stepAt, wn_X8, wc_X8_stepAt, ⟨by decide +kernel, by decide +kernel, by decide +kernel⟩, by decide⟩
set_option maxRecDepth 100000 in
theorem wc_X8_names : Cond.code yX8_names cX8_names 3 none ∈ WS := ws_m 899 rfl rfl
theorem wi_X8_names : Cond.instanceMethod yX8_names ∈ WS := ws_m 898 (by decide +kernel) rfl
theorem wl_X8_names : Cond.selects RX8 yX8_names yX8_names ∈ WS := ws_m 72 (by decide +kernel) rfl
theorem k_X8_85 : CkV RX8 85 yX8_names cX8_names 3 none RX8 2 := ⟨ws_m 896 (by decide +kernel) rfl, wi_X8_names, wl_X8_names, wn_X8, wc_X8_names, rfl, ⟨by decide +kernel, by decide +kernel, by decide +kernel⟩, by decide⟩
set_option maxRecDepth 100000 in
theorem wc_X8_begins : Cond.code yX8_begins cX8_begins 1 none ∈ WS := ws_m 903 rfl rfl
theorem wi_X8_begins : Cond.instanceMethod yX8_begins ∈ WS := ws_m 902 (by decide +kernel) rfl
theorem wl_X8_begins : Cond.selects RX8 yX8_begins yX8_begins ∈ WS := ws_m 73 (by decide +kernel) rfl
theorem k_X8_102 : CkV RX8 102 yX8_begins cX8_begins 1 none RX8 0 := ⟨ws_m 900 (by decide +kernel) rfl, wi_X8_begins, wl_X8_begins, wn_X8, wc_X8_begins, rfl, ⟨by decide +kernel, by decide +kernel, by decide +kernel⟩, by decide⟩
set_option maxRecDepth 100000 in
theorem wc_X8_drop : Cond.code yX8_drop cX8_drop 1 (some .int) ∈ WS := ws_m 907 rfl rfl
theorem wi_X8_drop : Cond.instanceMethod yX8_drop ∈ WS := ws_m 905 (by decide +kernel) rfl
theorem wl_X8_drop : Cond.selects RX8 yX8_drop yX8_drop ∈ WS := ws_m 906 (by decide +kernel) rfl
theorem k_L_30 : CkV RL 30 yX8_drop cX8_drop 1 (some .int) RX8 0 := ⟨ws_m 904 (by decide +kernel) rfl, wi_X8_drop, wl_X8_drop, wn_X8, wc_X8_drop, rfl, ⟨by decide +kernel, by decide +kernel, by decide +kernel⟩, by decide⟩
set_option maxRecDepth 100000 in
theorem wc_X8_free : Cond.code yX8_free cX8_free 4 (some .int) ∈ WS := ws_m 911 rfl rfl
theorem wi_X8_free : Cond.instanceMethod yX8_free ∈ WS := ws_m 909 (by decide +kernel) rfl
theorem wl_X8_free : Cond.selects RX8 yX8_free yX8_free ∈ WS := ws_m 910 (by decide +kernel) rfl
theorem k_L_35 : CkV RL 35 yX8_free cX8_free 4 (some .int) RX8 2 := ⟨ws_m 908 (by decide +kernel) rfl, wi_X8_free, wl_X8_free, wn_X8, wc_X8_free, rfl, ⟨by decide +kernel, by decide +kernel, by decide +kernel⟩, by decide⟩
set_option maxRecDepth 100000 in
theorem wc_X8_isEvent : Cond.code yX8_isEvent cX8_isEvent 1 (some .boolean) ∈ WS := ws_m 914 rfl rfl
theorem ws_X8_isEvent : Cond.static yX8_isEvent ∈ WS := ws_m 913 (by decide +kernel) rfl
theorem k_X8_115 : CkS RX8 115 yX8_isEvent cX8_isEvent 1 (some .boolean) 1 := ⟨ws_m 912 (by decide +kernel) rfl, ws_X8_isEvent, wn_X8, wc_X8_isEvent, ⟨by decide +kernel, by decide +kernel, by decide +kernel⟩, by decide⟩
set_option maxRecDepth 100000 in
theorem wc_X8_bit : Cond.code yX8_bit cX8_bit 2 (some .int) ∈ WS := ws_m 917 rfl rfl
theorem ws_X8_bit : Cond.static yX8_bit ∈ WS := ws_m 916 (by decide +kernel) rfl
theorem k_X8_121 : CkS RX8 121 yX8_bit cX8_bit 2 (some .int) 2 := ⟨ws_m 915 (by decide +kernel) rfl, ws_X8_bit, wn_X8, wc_X8_bit, ⟨by decide +kernel, by decide +kernel, by decide +kernel⟩, by decide⟩
set_option maxRecDepth 100000 in
theorem wc_X8_anew : Cond.code yX8_anew cX8_anew 2 (some .int) ∈ WS := ws_m 921 rfl rfl
theorem wi_X8_anew : Cond.instanceMethod yX8_anew ∈ WS := ws_m 919 (by decide +kernel) rfl
theorem wl_X8_anew : Cond.selects RX8 yX8_anew yX8_anew ∈ WS := ws_m 920 (by decide +kernel) rfl
theorem k_L_39 : CkV RL 39 yX8_anew cX8_anew 2 (some .int) RX8 0 := ⟨ws_m 918 (by decide +kernel) rfl, wi_X8_anew, wl_X8_anew, wn_X8, wc_X8_anew, rfl, ⟨by decide +kernel, by decide +kernel, by decide +kernel⟩, by decide⟩
set_option maxRecDepth 100000 in
theorem wc_X8_ofMachine : Cond.code yX8_ofMachine cX8_ofMachine 3 (some .int) ∈ WS := ws_m 925 rfl rfl
theorem wi_X8_ofMachine : Cond.instanceMethod yX8_ofMachine ∈ WS := ws_m 923 (by decide +kernel) rfl
theorem wl_X8_ofMachine : Cond.selects RX8 yX8_ofMachine yX8_ofMachine ∈ WS := ws_m 924 (by decide +kernel) rfl
theorem k_L_43 : CkV RL 43 yX8_ofMachine cX8_ofMachine 3 (some .int) RX8 2 := ⟨ws_m 922 (by decide +kernel) rfl, wi_X8_ofMachine, wl_X8_ofMachine, wn_X8, wc_X8_ofMachine, rfl, ⟨by decide +kernel, by decide +kernel, by decide +kernel⟩, by decide⟩
set_option maxRecDepth 100000 in
theorem wc_X8_isMachine : Cond.code yX8_isMachine cX8_isMachine 2 (some .boolean) ∈ WS := ws_m 929 rfl rfl
theorem wi_X8_isMachine : Cond.instanceMethod yX8_isMachine ∈ WS := ws_m 928 (by decide +kernel) rfl
theorem wl_X8_isMachine : Cond.selects RX8 yX8_isMachine yX8_isMachine ∈ WS := ws_m 74 (by decide +kernel) rfl
theorem k_X8_125 : CkV RX8 125 yX8_isMachine cX8_isMachine 2 (some .boolean) RX8 1 := ⟨ws_m 926 (by decide +kernel) rfl, wi_X8_isMachine, wl_X8_isMachine, wn_X8, wc_X8_isMachine, rfl, ⟨by decide +kernel, by decide +kernel, by decide +kernel⟩, by decide⟩
set_option maxRecDepth 100000 in
theorem wc_X8_step : Cond.code yX8_step cX8_step 4 (some .int) ∈ WS := ws_m 933 rfl rfl
theorem wi_X8_step : Cond.instanceMethod yX8_step ∈ WS := ws_m 931 (by decide +kernel) rfl
theorem wl_X8_step : Cond.selects RX8 yX8_step yX8_step ∈ WS := ws_m 932 (by decide +kernel) rfl
theorem k_L_48 : CkV RL 48 yX8_step cX8_step 4 (some .int) RX8 3 := ⟨ws_m 930 (by decide +kernel) rfl, wi_X8_step, wl_X8_step, wn_X8, wc_X8_step, rfl, ⟨by decide +kernel, by decide +kernel, by decide +kernel⟩, by decide⟩
set_option maxRecDepth 100000 in
theorem wc_X8_stateOf : Cond.code yX8_stateOf cX8_stateOf 3 (some .int) ∈ WS := ws_m 937 rfl rfl
theorem wi_X8_stateOf : Cond.instanceMethod yX8_stateOf ∈ WS := ws_m 935 (by decide +kernel) rfl
theorem wl_X8_stateOf : Cond.selects RX8 yX8_stateOf yX8_stateOf ∈ WS := ws_m 936 (by decide +kernel) rfl
theorem k_L_52 : CkV RL 52 yX8_stateOf cX8_stateOf 3 (some .int) RX8 2 := ⟨ws_m 934 (by decide +kernel) rfl, wi_X8_stateOf, wl_X8_stateOf, wn_X8, wc_X8_stateOf, rfl, ⟨by decide +kernel, by decide +kernel, by decide +kernel⟩, by decide⟩
set_option maxRecDepth 100000 in
theorem wc_X8_isJoint : Cond.code yX8_isJoint cX8_isJoint 2 (some .boolean) ∈ WS := ws_m 941 rfl rfl
theorem wi_X8_isJoint : Cond.instanceMethod yX8_isJoint ∈ WS := ws_m 940 (by decide +kernel) rfl
theorem wl_X8_isJoint : Cond.selects RX8 yX8_isJoint yX8_isJoint ∈ WS := ws_m 75 (by decide +kernel) rfl
theorem k_X8_183 : CkV RX8 183 yX8_isJoint cX8_isJoint 2 (some .boolean) RX8 1 := ⟨ws_m 938 (by decide +kernel) rfl, wi_X8_isJoint, wl_X8_isJoint, wn_X8, wc_X8_isJoint, rfl, ⟨by decide +kernel, by decide +kernel, by decide +kernel⟩, by decide⟩
set_option maxRecDepth 100000 in
theorem wc_X8_knows : Cond.code yX8_knows cX8_knows 1 none ∈ WS := ws_m 945 rfl rfl
theorem wi_X8_knows : Cond.instanceMethod yX8_knows ∈ WS := ws_m 944 (by decide +kernel) rfl
theorem wl_X8_knows : Cond.selects RX8 yX8_knows yX8_knows ∈ WS := ws_m 76 (by decide +kernel) rfl
theorem k_X8_180 : CkV RX8 180 yX8_knows cX8_knows 1 none RX8 0 := ⟨ws_m 942 (by decide +kernel) rfl, wi_X8_knows, wl_X8_knows, wn_X8, wc_X8_knows, rfl, ⟨by decide +kernel, by decide +kernel, by decide +kernel⟩, by decide⟩
set_option maxRecDepth 100000 in
theorem wc_X8_all : Cond.code yX8_all cX8_all 1 (some .int) ∈ WS := ws_m 949 rfl rfl
theorem wi_X8_all : Cond.instanceMethod yX8_all ∈ WS := ws_m 948 (by decide +kernel) rfl
theorem wl_X8_all : Cond.selects RX8 yX8_all yX8_all ∈ WS := ws_m 77 (by decide +kernel) rfl
theorem k_X8_155 : CkV RX8 155 yX8_all cX8_all 1 (some .int) RX8 0 := ⟨ws_m 946 (by decide +kernel) rfl, wi_X8_all, wl_X8_all, wn_X8, wc_X8_all, rfl, ⟨by decide +kernel, by decide +kernel, by decide +kernel⟩, by decide⟩
set_option maxRecDepth 100000 in
theorem wc_X8_builds : Cond.code yX8_builds cX8_builds 6 (some .boolean) ∈ WS := ws_m 953 rfl rfl
theorem wi_X8_builds : Cond.instanceMethod yX8_builds ∈ WS := ws_m 952 (by decide +kernel) rfl
theorem wl_X8_builds : Cond.selects RX8 yX8_builds yX8_builds ∈ WS := ws_m 78 (by decide +kernel) rfl
theorem k_X8_165 : CkV RX8 165 yX8_builds cX8_builds 6 (some .boolean) RX8 1 := ⟨ws_m 950 (by decide +kernel) rfl, wi_X8_builds, wl_X8_builds, wn_X8, wc_X8_builds, rfl, ⟨by decide +kernel, by decide +kernel, by decide +kernel⟩, by decide⟩
set_option maxRecDepth 100000 in
theorem wc_X8_led : Cond.code yX8_led cX8_led 8 (some .int) ∈ WS := ws_m 957 rfl rfl
theorem wi_X8_led : Cond.instanceMethod yX8_led ∈ WS := ws_m 956 (by decide +kernel) rfl
theorem wl_X8_led : Cond.selects RX8 yX8_led yX8_led ∈ WS := ws_m 79 (by decide +kernel) rfl
theorem k_X8_134 : CkV RX8 134 yX8_led cX8_led 8 (some .int) RX8 3 := ⟨ws_m 954 (by decide +kernel) rfl, wi_X8_led, wl_X8_led, wn_X8, wc_X8_led, rfl, ⟨by decide +kernel, by decide +kernel, by decide +kernel⟩, by decide⟩
set_option maxRecDepth 100000 in
theorem wc_X8_stateIn : Cond.code yX8_stateIn cX8_stateIn 2 (some .int) ∈ WS := ws_m 960 rfl rfl
theorem ws_X8_stateIn : Cond.static yX8_stateIn ∈ WS := ws_m 959 (by decide +kernel) rfl
theorem k_X8_128 : CkS RX8 128 yX8_stateIn cX8_stateIn 2 (some .int) 2 := ⟨ws_m 958 (by decide +kernel) rfl, ws_X8_stateIn, wn_X8, wc_X8_stateIn, ⟨by decide +kernel, by decide +kernel, by decide +kernel⟩, by decide⟩
set_option maxRecDepth 100000 in
theorem wc_X8_numberOf : Cond.code yX8_numberOf cX8_numberOf 3 (some .int) ∈ WS := ws_m 964 rfl rfl
theorem wi_X8_numberOf : Cond.instanceMethod yX8_numberOf ∈ WS := ws_m 963 (by decide +kernel) rfl
theorem wl_X8_numberOf : Cond.selects RX8 yX8_numberOf yX8_numberOf ∈ WS := ws_m 80 (by decide +kernel) rfl
theorem k_X8_137 : CkV RX8 137 yX8_numberOf cX8_numberOf 3 (some .int) RX8 1 := ⟨ws_m 961 (by decide +kernel) rfl, wi_X8_numberOf, wl_X8_numberOf, wn_X8, wc_X8_numberOf, rfl, ⟨by decide +kernel, by decide +kernel, by decide +kernel⟩, by decide⟩
set_option maxRecDepth 100000 in
theorem wc_X8_losesClashes : Cond.code yX8_losesClashes cX8_losesClashes 3 none ∈ WS := ws_m 968 rfl rfl
theorem wi_X8_losesClashes : Cond.instanceMethod yX8_losesClashes ∈ WS := ws_m 967 (by decide +kernel) rfl
theorem wl_X8_losesClashes : Cond.selects RX8 yX8_losesClashes yX8_losesClashes ∈ WS := ws_m 81 (by decide +kernel) rfl
theorem k_X8_168 : CkV RX8 168 yX8_losesClashes cX8_losesClashes 3 none RX8 0 := ⟨ws_m 965 (by decide +kernel) rfl, wi_X8_losesClashes, wl_X8_losesClashes, wn_X8, wc_X8_losesClashes, rfl, ⟨by decide +kernel, by decide +kernel, by decide +kernel⟩, by decide⟩
set_option maxRecDepth 100000 in
theorem wc_X8_clashes : Cond.code yX8_clashes cX8_clashes 8 (some .boolean) ∈ WS := ws_m 972 rfl rfl
theorem wi_X8_clashes : Cond.instanceMethod yX8_clashes ∈ WS := ws_m 971 (by decide +kernel) rfl
theorem wl_X8_clashes : Cond.selects RX8 yX8_clashes yX8_clashes ∈ WS := ws_m 82 (by decide +kernel) rfl
theorem k_X8_141 : CkV RX8 141 yX8_clashes cX8_clashes 8 (some .boolean) RX8 2 := ⟨ws_m 969 (by decide +kernel) rfl, wi_X8_clashes, wl_X8_clashes, wn_X8, wc_X8_clashes, rfl, ⟨by decide +kernel, by decide +kernel, by decide +kernel⟩, by decide⟩
set_option maxRecDepth 100000 in
theorem wc_X8_loses : Cond.code yX8_loses cX8_loses 5 none ∈ WS := ws_m 976 rfl rfl
theorem wi_X8_loses : Cond.instanceMethod yX8_loses ∈ WS := ws_m 975 (by decide +kernel) rfl
theorem wl_X8_loses : Cond.selects RX8 yX8_loses yX8_loses ∈ WS := ws_m 83 (by decide +kernel) rfl
theorem k_X8_145 : CkV RX8 145 yX8_loses cX8_loses 5 none RX8 4 := ⟨ws_m 973 (by decide +kernel) rfl, wi_X8_loses, wl_X8_loses, wn_X8, wc_X8_loses, rfl, ⟨by decide +kernel, by decide +kernel, by decide +kernel⟩, by decide⟩
set_option maxRecDepth 100000 in
theorem wc_X8_losesPushed : Cond.code yX8_losesPushed cX8_losesPushed 5 (some .boolean) ∈ WS := ws_m 980 rfl rfl
theorem wi_X8_losesPushed : Cond.instanceMethod yX8_losesPushed ∈ WS := ws_m 979 (by decide +kernel) rfl
theorem wl_X8_losesPushed : Cond.selects RX8 yX8_losesPushed yX8_losesPushed ∈ WS := ws_m 84 (by decide +kernel) rfl
theorem k_X8_171 : CkV RX8 171 yX8_losesPushed cX8_losesPushed 5 (some .boolean) RX8 1 := ⟨ws_m 977 (by decide +kernel) rfl, wi_X8_losesPushed, wl_X8_losesPushed, wn_X8, wc_X8_losesPushed, rfl, ⟨by decide +kernel, by decide +kernel, by decide +kernel⟩, by decide⟩
set_option maxRecDepth 100000 in
theorem wc_X8_pushes : Cond.code yX8_pushes cX8_pushes 5 (some .int) ∈ WS := ws_m 984 rfl rfl
theorem wi_X8_pushes : Cond.instanceMethod yX8_pushes ∈ WS := ws_m 983 (by decide +kernel) rfl
theorem wl_X8_pushes : Cond.selects RX8 yX8_pushes yX8_pushes ∈ WS := ws_m 85 (by decide +kernel) rfl
end
section
theorem k_X8_149 : CkV RX8 149 yX8_pushes cX8_pushes 5 (some .int) RX8 2 := ⟨ws_m 981 (by decide +kernel) rfl, wi_X8_pushes, wl_X8_pushes, wn_X8, wc_X8_pushes, rfl, ⟨by decide +kernel, by decide +kernel, by decide +kernel⟩, by decide⟩
set_option maxRecDepth 100000 in
theorem wc_X8_losesStuck : Cond.code yX8_losesStuck cX8_losesStuck 4 (some .boolean) ∈ WS := ws_m 988 rfl rfl
theorem wi_X8_losesStuck : Cond.instanceMethod yX8_losesStuck ∈ WS := ws_m 987 (by decide +kernel) rfl
theorem wl_X8_losesStuck : Cond.selects RX8 yX8_losesStuck yX8_losesStuck ∈ WS := ws_m 86 (by decide +kernel) rfl
theorem k_X8_174 : CkV RX8 174 yX8_losesStuck cX8_losesStuck 4 (some .boolean) RX8 1 := ⟨ws_m 985 (by decide +kernel) rfl, wi_X8_losesStuck, wl_X8_losesStuck, wn_X8, wc_X8_losesStuck, rfl, ⟨by decide +kernel, by decide +kernel, by decide +kernel⟩, by decide⟩
set_option maxRecDepth 100000 in
theorem wc_X8_findEnds : Cond.code yX8_findEnds cX8_findEnds 5 none ∈ WS := ws_m 992 rfl rfl
theorem wi_X8_findEnds : Cond.instanceMethod yX8_findEnds ∈ WS := ws_m 991 (by decide +kernel) rfl
theorem wl_X8_findEnds : Cond.selects RX8 yX8_findEnds yX8_findEnds ∈ WS := ws_m 87 (by decide +kernel) rfl
theorem k_X8_158 : CkV RX8 158 yX8_findEnds cX8_findEnds 5 none RX8 1 := ⟨ws_m 989 (by decide +kernel) rfl, wi_X8_findEnds, wl_X8_findEnds, wn_X8, wc_X8_findEnds, rfl, ⟨by decide +kernel, by decide +kernel, by decide +kernel⟩, by decide⟩
set_option maxRecDepth 100000 in
theorem wc_X8_isFinished : Cond.code yX8_isFinished cX8_isFinished 4 (some .boolean) ∈ WS := ws_m 996 rfl rfl
theorem wi_X8_isFinished : Cond.instanceMethod yX8_isFinished ∈ WS := ws_m 995 (by decide +kernel) rfl
theorem wl_X8_isFinished : Cond.selects RX8 yX8_isFinished yX8_isFinished ∈ WS := ws_m 88 (by decide +kernel) rfl
theorem k_X8_152 : CkV RX8 152 yX8_isFinished cX8_isFinished 4 (some .boolean) RX8 2 := ⟨ws_m 993 (by decide +kernel) rfl, wi_X8_isFinished, wl_X8_isFinished, wn_X8, wc_X8_isFinished, rfl, ⟨by decide +kernel, by decide +kernel, by decide +kernel⟩, by decide⟩
set_option maxRecDepth 100000 in
theorem wc_X8_findControlled : Cond.code yX8_findControlled cX8_findControlled 4 none ∈ WS := ws_m 1000 rfl rfl
theorem wi_X8_findControlled : Cond.instanceMethod yX8_findControlled ∈ WS := ws_m 999 (by decide +kernel) rfl
theorem wl_X8_findControlled : Cond.selects RX8 yX8_findControlled yX8_findControlled ∈ WS := ws_m 89 (by decide +kernel) rfl
theorem k_X8_177 : CkV RX8 177 yX8_findControlled cX8_findControlled 4 none RX8 0 := ⟨ws_m 997 (by decide +kernel) rfl, wi_X8_findControlled, wl_X8_findControlled, wn_X8, wc_X8_findControlled, rfl, ⟨by decide +kernel, by decide +kernel, by decide +kernel⟩, by decide⟩
set_option maxRecDepth 100000 in
theorem wc_X8_leads : Cond.code yX8_leads cX8_leads 3 (some .int) ∈ WS := ws_m 1004 rfl rfl
theorem wi_X8_leads : Cond.instanceMethod yX8_leads ∈ WS := ws_m 1002 (by decide +kernel) rfl
theorem wl_X8_leads : Cond.selects RX8 yX8_leads yX8_leads ∈ WS := ws_m 1003 (by decide +kernel) rfl
theorem k_L_56 : CkV RL 56 yX8_leads cX8_leads 3 (some .int) RX8 2 := ⟨ws_m 1001 (by decide +kernel) rfl, wi_X8_leads, wl_X8_leads, wn_X8, wc_X8_leads, rfl, ⟨by decide +kernel, by decide +kernel, by decide +kernel⟩, by decide⟩
set_option maxRecDepth 100000 in
theorem wc_X8_joint : Cond.code yX8_joint cX8_joint 3 (some .int) ∈ WS := ws_m 1008 rfl rfl
theorem wi_X8_joint : Cond.instanceMethod yX8_joint ∈ WS := ws_m 1006 (by decide +kernel) rfl
theorem wl_X8_joint : Cond.selects RX8 yX8_joint yX8_joint ∈ WS := ws_m 1007 (by decide +kernel) rfl
theorem k_L_60 : CkV RL 60 yX8_joint cX8_joint 3 (some .int) RX8 2 := ⟨ws_m 1005 (by decide +kernel) rfl, wi_X8_joint, wl_X8_joint, wn_X8, wc_X8_joint, rfl, ⟨by decide +kernel, by decide +kernel, by decide +kernel⟩, by decide⟩
set_option maxRecDepth 100000 in
theorem wc_X8_eventsAt : Cond.code yX8_eventsAt cX8_eventsAt 6 (some .int) ∈ WS := ws_m 1012 rfl rfl
theorem wi_X8_eventsAt : Cond.instanceMethod yX8_eventsAt ∈ WS := ws_m 1011 (by decide +kernel) rfl
theorem wl_X8_eventsAt : Cond.selects RX8 yX8_eventsAt yX8_eventsAt ∈ WS := ws_m 90 (by decide +kernel) rfl
theorem k_X8_189 : CkV RX8 189 yX8_eventsAt cX8_eventsAt 6 (some .int) RX8 2 := ⟨ws_m 1009 (by decide +kernel) rfl, wi_X8_eventsAt, wl_X8_eventsAt, wn_X8, wc_X8_eventsAt, rfl, ⟨by decide +kernel, by decide +kernel, by decide +kernel⟩, by decide⟩
set_option maxRecDepth 100000 in
theorem wc_X8_isBarred : Cond.code yX8_isBarred cX8_isBarred 4 (some .boolean) ∈ WS := ws_m 1016 rfl rfl
theorem wi_X8_isBarred : Cond.instanceMethod yX8_isBarred ∈ WS := ws_m 1015 (by decide +kernel) rfl
theorem wl_X8_isBarred : Cond.selects RX8 yX8_isBarred yX8_isBarred ∈ WS := ws_m 91 (by decide +kernel) rfl
theorem k_X8_186 : CkV RX8 186 yX8_isBarred cX8_isBarred 4 (some .boolean) RX8 2 := ⟨ws_m 1013 (by decide +kernel) rfl, wi_X8_isBarred, wl_X8_isBarred, wn_X8, wc_X8_isBarred, rfl, ⟨by decide +kernel, by decide +kernel, by decide +kernel⟩, by decide⟩
set_option maxRecDepth 100000 in
theorem wc_X8_why : Cond.code yX8_why cX8_why 6 (some .int) ∈ WS := ws_m 1020 rfl rfl
theorem wi_X8_why : Cond.instanceMethod yX8_why ∈ WS := ws_m 1018 (by decide +kernel) rfl
theorem wl_X8_why : Cond.selects RX8 yX8_why yX8_why ∈ WS := ws_m 1019 (by decide +kernel) rfl
theorem k_L_64 : CkV RL 64 yX8_why cX8_why 6 (some .int) RX8 3 := ⟨ws_m 1017 (by decide +kernel) rfl, wi_X8_why, wl_X8_why, wn_X8, wc_X8_why, rfl, ⟨by decide +kernel, by decide +kernel, by decide +kernel⟩, by decide⟩
set_option maxRecDepth 100000 in
theorem wc_X8_wave : Cond.code yX8_wave cX8_wave 4 (some .int) ∈ WS := ws_m 1024 rfl rfl
theorem wi_X8_wave : Cond.instanceMethod yX8_wave ∈ WS := ws_m 1022 (by decide +kernel) rfl
theorem wl_X8_wave : Cond.selects RX8 yX8_wave yX8_wave ∈ WS := ws_m 1023 (by decide +kernel) rfl
theorem k_L_68 : CkV RL 68 yX8_wave cX8_wave 4 (some .int) RX8 1 := ⟨ws_m 1021 (by decide +kernel) rfl, wi_X8_wave, wl_X8_wave, wn_X8, wc_X8_wave, rfl, ⟨by decide +kernel, by decide +kernel, by decide +kernel⟩, by decide⟩
set_option maxRecDepth 100000 in
theorem wc_X8_some : Cond.code yX8_some cX8_some 5 (some .int) ∈ WS := ws_m 1028 rfl rfl
theorem wi_X8_some : Cond.instanceMethod yX8_some ∈ WS := ws_m 1026 (by decide +kernel) rfl
theorem wl_X8_some : Cond.selects RX8 yX8_some yX8_some ∈ WS := ws_m 1027 (by decide +kernel) rfl
theorem k_L_72 : CkV RL 72 yX8_some cX8_some 5 (some .int) RX8 2 := ⟨ws_m 1025 (by decide +kernel) rfl, wi_X8_some, wl_X8_some, wn_X8, wc_X8_some, rfl, ⟨by decide +kernel, by decide +kernel, by decide +kernel⟩, by decide⟩
set_option maxRecDepth 100000 in
theorem wc_X8_go : Cond.code yX8_go cX8_go 4 (some .int) ∈ WS := ws_m 1032 rfl rfl
theorem wi_X8_go : Cond.instanceMethod yX8_go ∈ WS := ws_m 1030 (by decide +kernel) rfl
theorem wl_X8_go : Cond.selects RX8 yX8_go yX8_go ∈ WS := ws_m 1031 (by decide +kernel) rfl
theorem k_L_76 : CkV RL 76 yX8_go cX8_go 4 (some .int) RX8 1 := ⟨ws_m 1029 (by decide +kernel) rfl, wi_X8_go, wl_X8_go, wn_X8, wc_X8_go, rfl, ⟨by decide +kernel, by decide +kernel, by decide +kernel⟩, by decide⟩
set_option maxRecDepth 100000 in
theorem wc_X8_isShut : Cond.code yX8_isShut cX8_isShut 1 (some .boolean) ∈ WS := ws_m 1036 rfl rfl
theorem wi_X8_isShut : Cond.instanceMethod yX8_isShut ∈ WS := ws_m 1035 (by decide +kernel) rfl
theorem wl_X8_isShut : Cond.selects RX8 yX8_isShut yX8_isShut ∈ WS := ws_m 92 (by decide +kernel) rfl
theorem k_X8_192 : CkV RX8 192 yX8_isShut cX8_isShut 1 (some .boolean) RX8 0 := ⟨ws_m 1033 (by decide +kernel) rfl, wi_X8_isShut, wl_X8_isShut, wn_X8, wc_X8_isShut, rfl, ⟨by decide +kernel, by decide +kernel, by decide +kernel⟩, by decide⟩
set_option maxRecDepth 100000 in
theorem wc_X8_back : Cond.code yX8_back cX8_back 1 (some .int) ∈ WS := ws_m 1040 rfl rfl
theorem wi_X8_back : Cond.instanceMethod yX8_back ∈ WS := ws_m 1038 (by decide +kernel) rfl
theorem wl_X8_back : Cond.selects RX8 yX8_back yX8_back ∈ WS := ws_m 1039 (by decide +kernel) rfl
theorem k_L_80 : CkV RL 80 yX8_back cX8_back 1 (some .int) RX8 0 := ⟨ws_m 1037 (by decide +kernel) rfl, wi_X8_back, wl_X8_back, wn_X8, wc_X8_back, rfl, ⟨by decide +kernel, by decide +kernel, by decide +kernel⟩, by decide⟩
set_option maxRecDepth 100000 in
theorem wc_X8_at : Cond.code yX8_at cX8_at 1 (some .int) ∈ WS := ws_m 1044 rfl rfl
theorem wi_X8_at : Cond.instanceMethod yX8_at ∈ WS := ws_m 1042 (by decide +kernel) rfl
theorem wl_X8_at : Cond.selects RX8 yX8_at yX8_at ∈ WS := ws_m 1043 (by decide +kernel) rfl
theorem k_L_84 : CkV RL 84 yX8_at cX8_at 1 (some .int) RX8 0 := ⟨ws_m 1041 (by decide +kernel) rfl, wi_X8_at, wl_X8_at, wn_X8, wc_X8_at, rfl, ⟨by decide +kernel, by decide +kernel, by decide +kernel⟩, by decide⟩
set_option maxRecDepth 100000 in
theorem wc_X8_finish : Cond.code yX8_finish cX8_finish 3 (some .int) ∈ WS := ws_m 1048 rfl rfl
theorem wi_X8_finish : Cond.instanceMethod yX8_finish ∈ WS := ws_m 1046 (by decide +kernel) rfl
theorem wl_X8_finish : Cond.selects RX8 yX8_finish yX8_finish ∈ WS := ws_m 1047 (by decide +kernel) rfl
theorem k_L_88 : CkV RL 88 yX8_finish cX8_finish 3 (some .int) RX8 1 := ⟨ws_m 1045 (by decide +kernel) rfl, wi_X8_finish, wl_X8_finish, wn_X8, wc_X8_finish, rfl, ⟨by decide +kernel, by decide +kernel, by decide +kernel⟩, by decide⟩
set_option maxRecDepth 100000 in
theorem wc_X8_isPlace : Cond.code yX8_isPlace cX8_isPlace 1 (some .boolean) ∈ WS := ws_m 1051 rfl rfl
theorem ws_X8_isPlace : Cond.static yX8_isPlace ∈ WS := ws_m 1050 (by decide +kernel) rfl
theorem k_X8_198 : CkS RX8 198 yX8_isPlace cX8_isPlace 1 (some .boolean) 1 := ⟨ws_m 1049 (by decide +kernel) rfl, ws_X8_isPlace, wn_X8, wc_X8_isPlace, ⟨by decide +kernel, by decide +kernel, by decide +kernel⟩, by decide⟩
set_option maxRecDepth 100000 in
theorem wc_X8_findFar : Cond.code yX8_findFar cX8_findFar 6 none ∈ WS := ws_m 1055 rfl rfl
theorem wi_X8_findFar : Cond.instanceMethod yX8_findFar ∈ WS := ws_m 1054 (by decide +kernel) rfl
theorem wl_X8_findFar : Cond.selects RX8 yX8_findFar yX8_findFar ∈ WS := ws_m 93 (by decide +kernel) rfl
theorem k_X8_201 : CkV RX8 201 yX8_findFar cX8_findFar 6 none RX8 0 := ⟨ws_m 1052 (by decide +kernel) rfl, wi_X8_findFar, wl_X8_findFar, wn_X8, wc_X8_findFar, rfl, ⟨by decide +kernel, by decide +kernel, by decide +kernel⟩, by decide⟩
set_option maxRecDepth 100000 in
theorem wc_X8_tellWord : Cond.code yX8_tellWord cX8_tellWord 5 (some .int) ∈ WS := ws_m 1059 rfl rfl
theorem wi_X8_tellWord : Cond.instanceMethod yX8_tellWord ∈ WS := ws_m 1058 (by decide +kernel) rfl
theorem wl_X8_tellWord : Cond.selects RX8 yX8_tellWord yX8_tellWord ∈ WS := ws_m 94 (by decide +kernel) rfl
theorem k_X8_204 : CkV RX8 204 yX8_tellWord cX8_tellWord 5 (some .int) RX8 2 := ⟨ws_m 1056 (by decide +kernel) rfl, wi_X8_tellWord, wl_X8_tellWord, wn_X8, wc_X8_tellWord, rfl, ⟨by decide +kernel, by decide +kernel, by decide +kernel⟩, by decide⟩
set_option maxRecDepth 100000 in
theorem wc_X8_nearer : Cond.code yX8_nearer cX8_nearer 3 (some .int) ∈ WS := ws_m 1063 rfl rfl
theorem wi_X8_nearer : Cond.instanceMethod yX8_nearer ∈ WS := ws_m 1062 (by decide +kernel) rfl
theorem wl_X8_nearer : Cond.selects RX8 yX8_nearer yX8_nearer ∈ WS := ws_m 95 (by decide +kernel) rfl
theorem k_X8_195 : CkV RX8 195 yX8_nearer cX8_nearer 3 (some .int) RX8 1 := ⟨ws_m 1060 (by decide +kernel) rfl, wi_X8_nearer, wl_X8_nearer, wn_X8, wc_X8_nearer, rfl, ⟨by decide +kernel, by decide +kernel, by decide +kernel⟩, by decide⟩
set_option maxRecDepth 100000 in
theorem wc_X8_word : Cond.code yX8_word cX8_word 4 (some .int) ∈ WS := ws_m 1067 rfl rfl
theorem wi_X8_word : Cond.instanceMethod yX8_word ∈ WS := ws_m 1065 (by decide +kernel) rfl
theorem wl_X8_word : Cond.selects RX8 yX8_word yX8_word ∈ WS := ws_m 1066 (by decide +kernel) rfl
theorem k_L_92 : CkV RL 92 yX8_word cX8_word 4 (some .int) RX8 2 := ⟨ws_m 1064 (by decide +kernel) rfl, wi_X8_word, wl_X8_word, wn_X8, wc_X8_word, rfl, ⟨by decide +kernel, by decide +kernel, by decide +kernel⟩, by decide⟩
set_option maxRecDepth 100000 in
theorem wc_X8_many : Cond.code yX8_many cX8_many 7 (some .int) ∈ WS := ws_m 1071 rfl rfl
theorem wi_X8_many : Cond.instanceMethod yX8_many ∈ WS := ws_m 1069 (by decide +kernel) rfl
theorem wl_X8_many : Cond.selects RX8 yX8_many yX8_many ∈ WS := ws_m 1070 (by decide +kernel) rfl
theorem k_L_96 : CkV RL 96 yX8_many cX8_many 7 (some .int) RX8 1 := ⟨ws_m 1068 (by decide +kernel) rfl, wi_X8_many, wl_X8_many, wn_X8, wc_X8_many, rfl, ⟨by decide +kernel, by decide +kernel, by decide +kernel⟩, by decide⟩
theorem kc_X3_114 : Cond.constant RX3 114 (-1640531535) ∈ WS := ws_m 349 (by decide +kernel) rfl
theorem kc_J6_265 : Cond.constant RJ6 265 (1431655765) ∈ WS := ws_m 501 (by decide +kernel) rfl
theorem kc_J6_266 : Cond.constant RJ6 266 (858993459) ∈ WS := ws_m 502 (by decide +kernel) rfl
theorem kc_J6_267 : Cond.constant RJ6 267 (252645135) ∈ WS := ws_m 503 (by decide +kernel) rfl
end
section
theorem dJ6_bitCount_0f7a4_0 : decode cJ6_bitCount_0f7a4 0 = .ok (.iload_n 0, 1) := by decide +kernel
theorem dJ6_bitCount_0f7a4_1 : decode cJ6_bitCount_0f7a4 1 = .ok (.iload_n 0, 1) := by decide +kernel
theorem dJ6_bitCount_0f7a4_2 : decode cJ6_bitCount_0f7a4 2 = .ok (.iconst 1, 1) := by decide +kernel
theorem dJ6_bitCount_0f7a4_3 : decode cJ6_bitCount_0f7a4 3 = .ok (.iushr, 1) := by decide +kernel
theorem dJ6_bitCount_0f7a4_4 : decode cJ6_bitCount_0f7a4 4 = .ok (.ldc_w 265, 3) := by decide +kernel
theorem dJ6_bitCount_0f7a4_7 : decode cJ6_bitCount_0f7a4 7 = .ok (.iand, 1) := by decide +kernel
theorem dJ6_bitCount_0f7a4_8 : decode cJ6_bitCount_0f7a4 8 = .ok (.isub, 1) := by decide +kernel
theorem dJ6_bitCount_0f7a4_9 : decode cJ6_bitCount_0f7a4 9 = .ok (.istore_n 0, 1) := by decide +kernel
theorem dJ6_bitCount_0f7a4_10 : decode cJ6_bitCount_0f7a4 10 = .ok (.iload_n 0, 1) := by decide +kernel
theorem dJ6_bitCount_0f7a4_11 : decode cJ6_bitCount_0f7a4 11 = .ok (.ldc_w 266, 3) := by decide +kernel
theorem dJ6_bitCount_0f7a4_14 : decode cJ6_bitCount_0f7a4 14 = .ok (.iand, 1) := by decide +kernel
theorem dJ6_bitCount_0f7a4_15 : decode cJ6_bitCount_0f7a4 15 = .ok (.iload_n 0, 1) := by decide +kernel
theorem dJ6_bitCount_0f7a4_16 : decode cJ6_bitCount_0f7a4 16 = .ok (.iconst 2, 1) := by decide +kernel
theorem dJ6_bitCount_0f7a4_17 : decode cJ6_bitCount_0f7a4 17 = .ok (.iushr, 1) := by decide +kernel
theorem dJ6_bitCount_0f7a4_18 : decode cJ6_bitCount_0f7a4 18 = .ok (.ldc_w 266, 3) := by decide +kernel
theorem dJ6_bitCount_0f7a4_21 : decode cJ6_bitCount_0f7a4 21 = .ok (.iand, 1) := by decide +kernel
theorem dJ6_bitCount_0f7a4_22 : decode cJ6_bitCount_0f7a4 22 = .ok (.iadd, 1) := by decide +kernel
theorem dJ6_bitCount_0f7a4_23 : decode cJ6_bitCount_0f7a4 23 = .ok (.istore_n 0, 1) := by decide +kernel
theorem dJ6_bitCount_0f7a4_24 : decode cJ6_bitCount_0f7a4 24 = .ok (.iload_n 0, 1) := by decide +kernel
theorem dJ6_bitCount_0f7a4_25 : decode cJ6_bitCount_0f7a4 25 = .ok (.iload_n 0, 1) := by decide +kernel
theorem dJ6_bitCount_0f7a4_26 : decode cJ6_bitCount_0f7a4 26 = .ok (.iconst 4, 1) := by decide +kernel
theorem dJ6_bitCount_0f7a4_27 : decode cJ6_bitCount_0f7a4 27 = .ok (.iushr, 1) := by decide +kernel
theorem dJ6_bitCount_0f7a4_28 : decode cJ6_bitCount_0f7a4 28 = .ok (.iadd, 1) := by decide +kernel
theorem dJ6_bitCount_0f7a4_29 : decode cJ6_bitCount_0f7a4 29 = .ok (.ldc_w 267, 3) := by decide +kernel
theorem dJ6_bitCount_0f7a4_32 : decode cJ6_bitCount_0f7a4 32 = .ok (.iand, 1) := by decide +kernel
theorem dJ6_bitCount_0f7a4_33 : decode cJ6_bitCount_0f7a4 33 = .ok (.istore_n 0, 1) := by decide +kernel
theorem dJ6_bitCount_0f7a4_34 : decode cJ6_bitCount_0f7a4 34 = .ok (.iload_n 0, 1) := by decide +kernel
theorem dJ6_bitCount_0f7a4_35 : decode cJ6_bitCount_0f7a4 35 = .ok (.iload_n 0, 1) := by decide +kernel
theorem dJ6_bitCount_0f7a4_36 : decode cJ6_bitCount_0f7a4 36 = .ok (.bipush 8, 2) := by decide +kernel
theorem dJ6_bitCount_0f7a4_38 : decode cJ6_bitCount_0f7a4 38 = .ok (.iushr, 1) := by decide +kernel
theorem dJ6_bitCount_0f7a4_39 : decode cJ6_bitCount_0f7a4 39 = .ok (.iadd, 1) := by decide +kernel
theorem dJ6_bitCount_0f7a4_40 : decode cJ6_bitCount_0f7a4 40 = .ok (.istore_n 0, 1) := by decide +kernel
theorem dJ6_bitCount_0f7a4_41 : decode cJ6_bitCount_0f7a4 41 = .ok (.iload_n 0, 1) := by decide +kernel
theorem dJ6_bitCount_0f7a4_42 : decode cJ6_bitCount_0f7a4 42 = .ok (.iload_n 0, 1) := by decide +kernel
theorem dJ6_bitCount_0f7a4_43 : decode cJ6_bitCount_0f7a4 43 = .ok (.bipush 16, 2) := by decide +kernel
theorem dJ6_bitCount_0f7a4_45 : decode cJ6_bitCount_0f7a4 45 = .ok (.iushr, 1) := by decide +kernel
theorem dJ6_bitCount_0f7a4_46 : decode cJ6_bitCount_0f7a4 46 = .ok (.iadd, 1) := by decide +kernel
theorem dJ6_bitCount_0f7a4_47 : decode cJ6_bitCount_0f7a4 47 = .ok (.istore_n 0, 1) := by decide +kernel
theorem dJ6_bitCount_0f7a4_48 : decode cJ6_bitCount_0f7a4 48 = .ok (.iload_n 0, 1) := by decide +kernel
theorem dJ6_bitCount_0f7a4_49 : decode cJ6_bitCount_0f7a4 49 = .ok (.bipush 63, 2) := by decide +kernel
theorem dJ6_bitCount_0f7a4_51 : decode cJ6_bitCount_0f7a4 51 = .ok (.iand, 1) := by decide +kernel
theorem dJ6_bitCount_0f7a4_52 : decode cJ6_bitCount_0f7a4 52 = .ok (.ireturn, 1) := by decide +kernel
theorem dJ7_fill_53178_0 : decode cJ7_fill_53178 0 = .ok (.iconst 0, 1) := by decide +kernel
theorem dJ7_fill_53178_1 : decode cJ7_fill_53178 1 = .ok (.istore_n 2, 1) := by decide +kernel
theorem dJ7_fill_53178_2 : decode cJ7_fill_53178 2 = .ok (.aload_n 0, 1) := by decide +kernel
theorem dJ7_fill_53178_3 : decode cJ7_fill_53178 3 = .ok (.arraylength, 1) := by decide +kernel
theorem dJ7_fill_53178_4 : decode cJ7_fill_53178 4 = .ok (.istore_n 3, 1) := by decide +kernel
theorem dJ7_fill_53178_5 : decode cJ7_fill_53178 5 = .ok (.iload_n 2, 1) := by decide +kernel
theorem dJ7_fill_53178_6 : decode cJ7_fill_53178 6 = .ok (.iload_n 3, 1) := by decide +kernel
theorem dJ7_fill_53178_7 : decode cJ7_fill_53178 7 = .ok (.if_icmp .ge 13, 3) := by decide +kernel
theorem dJ7_fill_53178_10 : decode cJ7_fill_53178 10 = .ok (.aload_n 0, 1) := by decide +kernel
theorem dJ7_fill_53178_11 : decode cJ7_fill_53178 11 = .ok (.iload_n 2, 1) := by decide +kernel
theorem dJ7_fill_53178_12 : decode cJ7_fill_53178 12 = .ok (.iload_n 1, 1) := by decide +kernel
theorem dJ7_fill_53178_13 : decode cJ7_fill_53178 13 = .ok (.iastore, 1) := by decide +kernel
theorem dJ7_fill_53178_14 : decode cJ7_fill_53178 14 = .ok (.iinc 2 1, 3) := by decide +kernel
theorem dJ7_fill_53178_17 : decode cJ7_fill_53178 17 = .ok (.goto (-12), 3) := by decide +kernel
theorem dJ7_fill_53178_20 : decode cJ7_fill_53178 20 = .ok (.return_, 1) := by decide +kernel
theorem dJ9_floorMod_7cf53_0 : decode cJ9_floorMod_7cf53 0 = .ok (.iload_n 0, 1) := by decide +kernel
theorem dJ9_floorMod_7cf53_1 : decode cJ9_floorMod_7cf53 1 = .ok (.iload_n 1, 1) := by decide +kernel
theorem dJ9_floorMod_7cf53_2 : decode cJ9_floorMod_7cf53 2 = .ok (.irem, 1) := by decide +kernel
theorem dJ9_floorMod_7cf53_3 : decode cJ9_floorMod_7cf53 3 = .ok (.istore_n 2, 1) := by decide +kernel
theorem dJ9_floorMod_7cf53_4 : decode cJ9_floorMod_7cf53 4 = .ok (.iload_n 0, 1) := by decide +kernel
theorem dJ9_floorMod_7cf53_5 : decode cJ9_floorMod_7cf53 5 = .ok (.iload_n 1, 1) := by decide +kernel
theorem dJ9_floorMod_7cf53_6 : decode cJ9_floorMod_7cf53 6 = .ok (.ixor, 1) := by decide +kernel
theorem dJ9_floorMod_7cf53_7 : decode cJ9_floorMod_7cf53 7 = .ok (.ifCond .ge 11, 3) := by decide +kernel
theorem dJ9_floorMod_7cf53_10 : decode cJ9_floorMod_7cf53 10 = .ok (.iload_n 2, 1) := by decide +kernel
theorem dJ9_floorMod_7cf53_11 : decode cJ9_floorMod_7cf53 11 = .ok (.ifCond .eq 7, 3) := by decide +kernel
theorem dJ9_floorMod_7cf53_14 : decode cJ9_floorMod_7cf53 14 = .ok (.iload_n 2, 1) := by decide +kernel
theorem dJ9_floorMod_7cf53_15 : decode cJ9_floorMod_7cf53 15 = .ok (.iload_n 1, 1) := by decide +kernel
theorem dJ9_floorMod_7cf53_16 : decode cJ9_floorMod_7cf53 16 = .ok (.iadd, 1) := by decide +kernel
theorem dJ9_floorMod_7cf53_17 : decode cJ9_floorMod_7cf53 17 = .ok (.ireturn, 1) := by decide +kernel
theorem dJ9_floorMod_7cf53_18 : decode cJ9_floorMod_7cf53 18 = .ok (.iload_n 2, 1) := by decide +kernel
theorem dJ9_floorMod_7cf53_19 : decode cJ9_floorMod_7cf53 19 = .ok (.ireturn, 1) := by decide +kernel
theorem dJ9_max_7cf53_0 : decode cJ9_max_7cf53 0 = .ok (.iload_n 0, 1) := by decide +kernel
theorem dJ9_max_7cf53_1 : decode cJ9_max_7cf53 1 = .ok (.iload_n 1, 1) := by decide +kernel
theorem dJ9_max_7cf53_2 : decode cJ9_max_7cf53 2 = .ok (.if_icmp .lt 7, 3) := by decide +kernel
theorem dJ9_max_7cf53_5 : decode cJ9_max_7cf53 5 = .ok (.iload_n 0, 1) := by decide +kernel
theorem dJ9_max_7cf53_6 : decode cJ9_max_7cf53 6 = .ok (.goto 4, 3) := by decide +kernel
theorem dJ9_max_7cf53_9 : decode cJ9_max_7cf53 9 = .ok (.iload_n 1, 1) := by decide +kernel
theorem dJ9_max_7cf53_10 : decode cJ9_max_7cf53 10 = .ok (.ireturn, 1) := by decide +kernel
theorem dJ9_min_7cf53_0 : decode cJ9_min_7cf53 0 = .ok (.iload_n 0, 1) := by decide +kernel
theorem dJ9_min_7cf53_1 : decode cJ9_min_7cf53 1 = .ok (.iload_n 1, 1) := by decide +kernel
theorem dJ9_min_7cf53_2 : decode cJ9_min_7cf53 2 = .ok (.if_icmp .gt 7, 3) := by decide +kernel
theorem dJ9_min_7cf53_5 : decode cJ9_min_7cf53 5 = .ok (.iload_n 0, 1) := by decide +kernel
theorem dJ9_min_7cf53_6 : decode cJ9_min_7cf53 6 = .ok (.goto 4, 3) := by decide +kernel
theorem dJ9_min_7cf53_9 : decode cJ9_min_7cf53 9 = .ok (.iload_n 1, 1) := by decide +kernel
theorem dJ9_min_7cf53_10 : decode cJ9_min_7cf53 10 = .ok (.ireturn, 1) := by decide +kernel
theorem dL_law_0 : decode cL_law 0 = .ok (.new 7, 3) := by decide +kernel
theorem dL_law_3 : decode cL_law 3 = .ok (.dup, 1) := by decide +kernel
theorem dL_law_4 : decode cL_law 4 = .ok (.invokespecial 9, 3) := by decide +kernel
theorem dL_law_7 : decode cL_law 7 = .ok (.astore_n 1, 1) := by decide +kernel
theorem dL_law_8 : decode cL_law 8 = .ok (.new 10, 3) := by decide +kernel
theorem dL_law_11 : decode cL_law 11 = .ok (.dup, 1) := by decide +kernel
theorem dL_law_12 : decode cL_law 12 = .ok (.invokespecial 12, 3) := by decide +kernel
theorem dL_law_15 : decode cL_law 15 = .ok (.astore_n 2, 1) := by decide +kernel
theorem dL_law_16 : decode cL_law 16 = .ok (.iconst 0, 1) := by decide +kernel
theorem dL_law_17 : decode cL_law 17 = .ok (.istore_n 3, 1) := by decide +kernel
theorem dL_law_18 : decode cL_law 18 = .ok (.iload_n 3, 1) := by decide +kernel
theorem dL_law_19 : decode cL_law 19 = .ok (.aload_n 0, 1) := by decide +kernel
theorem dL_law_20 : decode cL_law 20 = .ok (.arraylength, 1) := by decide +kernel
theorem dL_law_21 : decode cL_law 21 = .ok (.iconst 4, 1) := by decide +kernel
theorem dL_law_22 : decode cL_law 22 = .ok (.isub, 1) := by decide +kernel
theorem dL_law_23 : decode cL_law 23 = .ok (.if_icmp .gt 631, 3) := by decide +kernel
theorem dL_law_26 : decode cL_law 26 = .ok (.aload_n 0, 1) := by decide +kernel
theorem dL_law_27 : decode cL_law 27 = .ok (.iload_n 3, 1) := by decide +kernel
theorem dL_law_28 : decode cL_law 28 = .ok (.iaload, 1) := by decide +kernel
theorem dL_law_29 : decode cL_law 29 = .ok (.bipush 31, 2) := by decide +kernel
theorem dL_law_31 : decode cL_law 31 = .ok (.iand, 1) := by decide +kernel
theorem dL_law_32 : decode cL_law 32 = .ok (.tableswitch 616 0 19 #[96, 119, 132, 155, 168, 201, 214, 247, 290, 323, 356, 389, 432, 455, 488, 511, 524, 537, 560, 593], 96) := by decide +kernel
theorem dL_law_128 : decode cL_law 128 = .ok (.aload_n 1, 1) := by decide +kernel
theorem dL_law_129 : decode cL_law 129 = .ok (.aload_n 0, 1) := by decide +kernel
theorem dL_law_130 : decode cL_law 130 = .ok (.iload_n 3, 1) := by decide +kernel
theorem dL_law_131 : decode cL_law 131 = .ok (.iconst 1, 1) := by decide +kernel
theorem dL_law_132 : decode cL_law 132 = .ok (.iadd, 1) := by decide +kernel
theorem dL_law_133 : decode cL_law 133 = .ok (.iaload, 1) := by decide +kernel
theorem dL_law_134 : decode cL_law 134 = .ok (.invokevirtual 13, 3) := by decide +kernel
theorem dL_law_137 : decode cL_law 137 = .ok (.aload_n 2, 1) := by decide +kernel
theorem dL_law_138 : decode cL_law 138 = .ok (.aload_n 0, 1) := by decide +kernel
theorem dL_law_139 : decode cL_law 139 = .ok (.iload_n 3, 1) := by decide +kernel
theorem dL_law_140 : decode cL_law 140 = .ok (.iconst 1, 1) := by decide +kernel
theorem dL_law_141 : decode cL_law 141 = .ok (.iadd, 1) := by decide +kernel
theorem dL_law_142 : decode cL_law 142 = .ok (.iaload, 1) := by decide +kernel
theorem dL_law_143 : decode cL_law 143 = .ok (.invokevirtual 17, 3) := by decide +kernel
theorem dL_law_146 : decode cL_law 146 = .ok (.if_icmp .eq 502, 3) := by decide +kernel
theorem dL_law_149 : decode cL_law 149 = .ok (.iconst 0, 1) := by decide +kernel
theorem dL_law_150 : decode cL_law 150 = .ok (.ireturn, 1) := by decide +kernel
theorem dL_law_151 : decode cL_law 151 = .ok (.aload_n 1, 1) := by decide +kernel
theorem dL_law_152 : decode cL_law 152 = .ok (.invokevirtual 18, 3) := by decide +kernel
theorem dL_law_155 : decode cL_law 155 = .ok (.aload_n 2, 1) := by decide +kernel
theorem dL_law_156 : decode cL_law 156 = .ok (.invokevirtual 22, 3) := by decide +kernel
theorem dL_law_159 : decode cL_law 159 = .ok (.if_icmp .eq 489, 3) := by decide +kernel
theorem dL_law_162 : decode cL_law 162 = .ok (.iconst 0, 1) := by decide +kernel
theorem dL_law_163 : decode cL_law 163 = .ok (.ireturn, 1) := by decide +kernel
theorem dL_law_164 : decode cL_law 164 = .ok (.aload_n 1, 1) := by decide +kernel
theorem dL_law_165 : decode cL_law 165 = .ok (.aload_n 0, 1) := by decide +kernel
theorem dL_law_166 : decode cL_law 166 = .ok (.iload_n 3, 1) := by decide +kernel
theorem dL_law_167 : decode cL_law 167 = .ok (.iconst 1, 1) := by decide +kernel
theorem dL_law_168 : decode cL_law 168 = .ok (.iadd, 1) := by decide +kernel
theorem dL_law_169 : decode cL_law 169 = .ok (.iaload, 1) := by decide +kernel
theorem dL_law_170 : decode cL_law 170 = .ok (.invokevirtual 23, 3) := by decide +kernel
theorem dL_law_173 : decode cL_law 173 = .ok (.aload_n 2, 1) := by decide +kernel
theorem dL_law_174 : decode cL_law 174 = .ok (.aload_n 0, 1) := by decide +kernel
theorem dL_law_175 : decode cL_law 175 = .ok (.iload_n 3, 1) := by decide +kernel
theorem dL_law_176 : decode cL_law 176 = .ok (.iconst 1, 1) := by decide +kernel
theorem dL_law_177 : decode cL_law 177 = .ok (.iadd, 1) := by decide +kernel
theorem dL_law_178 : decode cL_law 178 = .ok (.iaload, 1) := by decide +kernel
theorem dL_law_179 : decode cL_law 179 = .ok (.invokevirtual 26, 3) := by decide +kernel
theorem dL_law_182 : decode cL_law 182 = .ok (.if_icmp .eq 466, 3) := by decide +kernel
theorem dL_law_185 : decode cL_law 185 = .ok (.iconst 0, 1) := by decide +kernel
theorem dL_law_186 : decode cL_law 186 = .ok (.ireturn, 1) := by decide +kernel
theorem dL_law_187 : decode cL_law 187 = .ok (.aload_n 1, 1) := by decide +kernel
theorem dL_law_188 : decode cL_law 188 = .ok (.invokevirtual 27, 3) := by decide +kernel
theorem dL_law_191 : decode cL_law 191 = .ok (.aload_n 2, 1) := by decide +kernel
theorem dL_law_192 : decode cL_law 192 = .ok (.invokevirtual 30, 3) := by decide +kernel
theorem dL_law_195 : decode cL_law 195 = .ok (.if_icmp .eq 453, 3) := by decide +kernel
theorem dL_law_198 : decode cL_law 198 = .ok (.iconst 0, 1) := by decide +kernel
theorem dL_law_199 : decode cL_law 199 = .ok (.ireturn, 1) := by decide +kernel
theorem dL_law_200 : decode cL_law 200 = .ok (.aload_n 1, 1) := by decide +kernel
theorem dL_law_201 : decode cL_law 201 = .ok (.aload_n 0, 1) := by decide +kernel
theorem dL_law_202 : decode cL_law 202 = .ok (.iload_n 3, 1) := by decide +kernel
theorem dL_law_203 : decode cL_law 203 = .ok (.iconst 1, 1) := by decide +kernel
theorem dL_law_204 : decode cL_law 204 = .ok (.iadd, 1) := by decide +kernel
theorem dL_law_205 : decode cL_law 205 = .ok (.iaload, 1) := by decide +kernel
theorem dL_law_206 : decode cL_law 206 = .ok (.aload_n 0, 1) := by decide +kernel
theorem dL_law_207 : decode cL_law 207 = .ok (.iload_n 3, 1) := by decide +kernel
theorem dL_law_208 : decode cL_law 208 = .ok (.iconst 2, 1) := by decide +kernel
theorem dL_law_209 : decode cL_law 209 = .ok (.iadd, 1) := by decide +kernel
theorem dL_law_210 : decode cL_law 210 = .ok (.iaload, 1) := by decide +kernel
theorem dL_law_211 : decode cL_law 211 = .ok (.invokevirtual 31, 3) := by decide +kernel
theorem dL_law_214 : decode cL_law 214 = .ok (.aload_n 2, 1) := by decide +kernel
theorem dL_law_215 : decode cL_law 215 = .ok (.aload_n 0, 1) := by decide +kernel
theorem dL_law_216 : decode cL_law 216 = .ok (.iload_n 3, 1) := by decide +kernel
theorem dL_law_217 : decode cL_law 217 = .ok (.iconst 1, 1) := by decide +kernel
theorem dL_law_218 : decode cL_law 218 = .ok (.iadd, 1) := by decide +kernel
theorem dL_law_219 : decode cL_law 219 = .ok (.iaload, 1) := by decide +kernel
theorem dL_law_220 : decode cL_law 220 = .ok (.aload_n 0, 1) := by decide +kernel
theorem dL_law_221 : decode cL_law 221 = .ok (.iload_n 3, 1) := by decide +kernel
theorem dL_law_222 : decode cL_law 222 = .ok (.iconst 2, 1) := by decide +kernel
theorem dL_law_223 : decode cL_law 223 = .ok (.iadd, 1) := by decide +kernel
theorem dL_law_224 : decode cL_law 224 = .ok (.iaload, 1) := by decide +kernel
theorem dL_law_225 : decode cL_law 225 = .ok (.invokevirtual 35, 3) := by decide +kernel
theorem dL_law_228 : decode cL_law 228 = .ok (.if_icmp .eq 420, 3) := by decide +kernel
theorem dL_law_231 : decode cL_law 231 = .ok (.iconst 0, 1) := by decide +kernel
theorem dL_law_232 : decode cL_law 232 = .ok (.ireturn, 1) := by decide +kernel
theorem dL_law_233 : decode cL_law 233 = .ok (.aload_n 1, 1) := by decide +kernel
theorem dL_law_234 : decode cL_law 234 = .ok (.invokevirtual 36, 3) := by decide +kernel
theorem dL_law_237 : decode cL_law 237 = .ok (.aload_n 2, 1) := by decide +kernel
theorem dL_law_238 : decode cL_law 238 = .ok (.invokevirtual 39, 3) := by decide +kernel
theorem dL_law_241 : decode cL_law 241 = .ok (.if_icmp .eq 407, 3) := by decide +kernel
theorem dL_law_244 : decode cL_law 244 = .ok (.iconst 0, 1) := by decide +kernel
theorem dL_law_245 : decode cL_law 245 = .ok (.ireturn, 1) := by decide +kernel
theorem dL_law_246 : decode cL_law 246 = .ok (.aload_n 1, 1) := by decide +kernel
theorem dL_law_247 : decode cL_law 247 = .ok (.aload_n 0, 1) := by decide +kernel
theorem dL_law_248 : decode cL_law 248 = .ok (.iload_n 3, 1) := by decide +kernel
theorem dL_law_249 : decode cL_law 249 = .ok (.iconst 1, 1) := by decide +kernel
theorem dL_law_250 : decode cL_law 250 = .ok (.iadd, 1) := by decide +kernel
theorem dL_law_251 : decode cL_law 251 = .ok (.iaload, 1) := by decide +kernel
theorem dL_law_252 : decode cL_law 252 = .ok (.aload_n 0, 1) := by decide +kernel
theorem dL_law_253 : decode cL_law 253 = .ok (.iload_n 3, 1) := by decide +kernel
theorem dL_law_254 : decode cL_law 254 = .ok (.iconst 2, 1) := by decide +kernel
theorem dL_law_255 : decode cL_law 255 = .ok (.iadd, 1) := by decide +kernel
theorem dL_law_256 : decode cL_law 256 = .ok (.iaload, 1) := by decide +kernel
theorem dL_law_257 : decode cL_law 257 = .ok (.invokevirtual 40, 3) := by decide +kernel
theorem dL_law_260 : decode cL_law 260 = .ok (.aload_n 2, 1) := by decide +kernel
theorem dL_law_261 : decode cL_law 261 = .ok (.aload_n 0, 1) := by decide +kernel
theorem dL_law_262 : decode cL_law 262 = .ok (.iload_n 3, 1) := by decide +kernel
theorem dL_law_263 : decode cL_law 263 = .ok (.iconst 1, 1) := by decide +kernel
theorem dL_law_264 : decode cL_law 264 = .ok (.iadd, 1) := by decide +kernel
theorem dL_law_265 : decode cL_law 265 = .ok (.iaload, 1) := by decide +kernel
theorem dL_law_266 : decode cL_law 266 = .ok (.aload_n 0, 1) := by decide +kernel
theorem dL_law_267 : decode cL_law 267 = .ok (.iload_n 3, 1) := by decide +kernel
theorem dL_law_268 : decode cL_law 268 = .ok (.iconst 2, 1) := by decide +kernel
theorem dL_law_269 : decode cL_law 269 = .ok (.iadd, 1) := by decide +kernel
theorem dL_law_270 : decode cL_law 270 = .ok (.iaload, 1) := by decide +kernel
theorem dL_law_271 : decode cL_law 271 = .ok (.invokevirtual 43, 3) := by decide +kernel
theorem dL_law_274 : decode cL_law 274 = .ok (.if_icmp .eq 374, 3) := by decide +kernel
theorem dL_law_277 : decode cL_law 277 = .ok (.iconst 0, 1) := by decide +kernel
theorem dL_law_278 : decode cL_law 278 = .ok (.ireturn, 1) := by decide +kernel
theorem dL_law_279 : decode cL_law 279 = .ok (.aload_n 1, 1) := by decide +kernel
theorem dL_law_280 : decode cL_law 280 = .ok (.aload_n 0, 1) := by decide +kernel
theorem dL_law_281 : decode cL_law 281 = .ok (.iload_n 3, 1) := by decide +kernel
theorem dL_law_282 : decode cL_law 282 = .ok (.iconst 1, 1) := by decide +kernel
theorem dL_law_283 : decode cL_law 283 = .ok (.iadd, 1) := by decide +kernel
theorem dL_law_284 : decode cL_law 284 = .ok (.iaload, 1) := by decide +kernel
theorem dL_law_285 : decode cL_law 285 = .ok (.aload_n 0, 1) := by decide +kernel
theorem dL_law_286 : decode cL_law 286 = .ok (.iload_n 3, 1) := by decide +kernel
theorem dL_law_287 : decode cL_law 287 = .ok (.iconst 2, 1) := by decide +kernel
theorem dL_law_288 : decode cL_law 288 = .ok (.iadd, 1) := by decide +kernel
theorem dL_law_289 : decode cL_law 289 = .ok (.iaload, 1) := by decide +kernel
theorem dL_law_290 : decode cL_law 290 = .ok (.aload_n 0, 1) := by decide +kernel
theorem dL_law_291 : decode cL_law 291 = .ok (.iload_n 3, 1) := by decide +kernel
theorem dL_law_292 : decode cL_law 292 = .ok (.iconst 3, 1) := by decide +kernel
theorem dL_law_293 : decode cL_law 293 = .ok (.iadd, 1) := by decide +kernel
theorem dL_law_294 : decode cL_law 294 = .ok (.iaload, 1) := by decide +kernel
theorem dL_law_295 : decode cL_law 295 = .ok (.invokevirtual 44, 3) := by decide +kernel
theorem dL_law_298 : decode cL_law 298 = .ok (.aload_n 2, 1) := by decide +kernel
theorem dL_law_299 : decode cL_law 299 = .ok (.aload_n 0, 1) := by decide +kernel
theorem dL_law_300 : decode cL_law 300 = .ok (.iload_n 3, 1) := by decide +kernel
theorem dL_law_301 : decode cL_law 301 = .ok (.iconst 1, 1) := by decide +kernel
theorem dL_law_302 : decode cL_law 302 = .ok (.iadd, 1) := by decide +kernel
theorem dL_law_303 : decode cL_law 303 = .ok (.iaload, 1) := by decide +kernel
theorem dL_law_304 : decode cL_law 304 = .ok (.aload_n 0, 1) := by decide +kernel
theorem dL_law_305 : decode cL_law 305 = .ok (.iload_n 3, 1) := by decide +kernel
theorem dL_law_306 : decode cL_law 306 = .ok (.iconst 2, 1) := by decide +kernel
theorem dL_law_307 : decode cL_law 307 = .ok (.iadd, 1) := by decide +kernel
theorem dL_law_308 : decode cL_law 308 = .ok (.iaload, 1) := by decide +kernel
theorem dL_law_309 : decode cL_law 309 = .ok (.aload_n 0, 1) := by decide +kernel
theorem dL_law_310 : decode cL_law 310 = .ok (.iload_n 3, 1) := by decide +kernel
theorem dL_law_311 : decode cL_law 311 = .ok (.iconst 3, 1) := by decide +kernel
theorem dL_law_312 : decode cL_law 312 = .ok (.iadd, 1) := by decide +kernel
theorem dL_law_313 : decode cL_law 313 = .ok (.iaload, 1) := by decide +kernel
theorem dL_law_314 : decode cL_law 314 = .ok (.invokevirtual 48, 3) := by decide +kernel
theorem dL_law_317 : decode cL_law 317 = .ok (.if_icmp .eq 331, 3) := by decide +kernel
theorem dL_law_320 : decode cL_law 320 = .ok (.iconst 0, 1) := by decide +kernel
theorem dL_law_321 : decode cL_law 321 = .ok (.ireturn, 1) := by decide +kernel
theorem dL_law_322 : decode cL_law 322 = .ok (.aload_n 1, 1) := by decide +kernel
theorem dL_law_323 : decode cL_law 323 = .ok (.aload_n 0, 1) := by decide +kernel
theorem dL_law_324 : decode cL_law 324 = .ok (.iload_n 3, 1) := by decide +kernel
theorem dL_law_325 : decode cL_law 325 = .ok (.iconst 1, 1) := by decide +kernel
theorem dL_law_326 : decode cL_law 326 = .ok (.iadd, 1) := by decide +kernel
theorem dL_law_327 : decode cL_law 327 = .ok (.iaload, 1) := by decide +kernel
theorem dL_law_328 : decode cL_law 328 = .ok (.aload_n 0, 1) := by decide +kernel
theorem dL_law_329 : decode cL_law 329 = .ok (.iload_n 3, 1) := by decide +kernel
theorem dL_law_330 : decode cL_law 330 = .ok (.iconst 2, 1) := by decide +kernel
theorem dL_law_331 : decode cL_law 331 = .ok (.iadd, 1) := by decide +kernel
theorem dL_law_332 : decode cL_law 332 = .ok (.iaload, 1) := by decide +kernel
theorem dL_law_333 : decode cL_law 333 = .ok (.invokevirtual 49, 3) := by decide +kernel
theorem dL_law_336 : decode cL_law 336 = .ok (.aload_n 2, 1) := by decide +kernel
theorem dL_law_337 : decode cL_law 337 = .ok (.aload_n 0, 1) := by decide +kernel
theorem dL_law_338 : decode cL_law 338 = .ok (.iload_n 3, 1) := by decide +kernel
theorem dL_law_339 : decode cL_law 339 = .ok (.iconst 1, 1) := by decide +kernel
theorem dL_law_340 : decode cL_law 340 = .ok (.iadd, 1) := by decide +kernel
theorem dL_law_341 : decode cL_law 341 = .ok (.iaload, 1) := by decide +kernel
theorem dL_law_342 : decode cL_law 342 = .ok (.aload_n 0, 1) := by decide +kernel
theorem dL_law_343 : decode cL_law 343 = .ok (.iload_n 3, 1) := by decide +kernel
theorem dL_law_344 : decode cL_law 344 = .ok (.iconst 2, 1) := by decide +kernel
theorem dL_law_345 : decode cL_law 345 = .ok (.iadd, 1) := by decide +kernel
theorem dL_law_346 : decode cL_law 346 = .ok (.iaload, 1) := by decide +kernel
theorem dL_law_347 : decode cL_law 347 = .ok (.invokevirtual 52, 3) := by decide +kernel
theorem dL_law_350 : decode cL_law 350 = .ok (.if_icmp .eq 298, 3) := by decide +kernel
theorem dL_law_353 : decode cL_law 353 = .ok (.iconst 0, 1) := by decide +kernel
theorem dL_law_354 : decode cL_law 354 = .ok (.ireturn, 1) := by decide +kernel
theorem dL_law_355 : decode cL_law 355 = .ok (.aload_n 1, 1) := by decide +kernel
theorem dL_law_356 : decode cL_law 356 = .ok (.aload_n 0, 1) := by decide +kernel
theorem dL_law_357 : decode cL_law 357 = .ok (.iload_n 3, 1) := by decide +kernel
theorem dL_law_358 : decode cL_law 358 = .ok (.iconst 1, 1) := by decide +kernel
theorem dL_law_359 : decode cL_law 359 = .ok (.iadd, 1) := by decide +kernel
theorem dL_law_360 : decode cL_law 360 = .ok (.iaload, 1) := by decide +kernel
theorem dL_law_361 : decode cL_law 361 = .ok (.aload_n 0, 1) := by decide +kernel
theorem dL_law_362 : decode cL_law 362 = .ok (.iload_n 3, 1) := by decide +kernel
theorem dL_law_363 : decode cL_law 363 = .ok (.iconst 2, 1) := by decide +kernel
theorem dL_law_364 : decode cL_law 364 = .ok (.iadd, 1) := by decide +kernel
theorem dL_law_365 : decode cL_law 365 = .ok (.iaload, 1) := by decide +kernel
theorem dL_law_366 : decode cL_law 366 = .ok (.invokevirtual 53, 3) := by decide +kernel
theorem dL_law_369 : decode cL_law 369 = .ok (.aload_n 2, 1) := by decide +kernel
theorem dL_law_370 : decode cL_law 370 = .ok (.aload_n 0, 1) := by decide +kernel
theorem dL_law_371 : decode cL_law 371 = .ok (.iload_n 3, 1) := by decide +kernel
theorem dL_law_372 : decode cL_law 372 = .ok (.iconst 1, 1) := by decide +kernel
theorem dL_law_373 : decode cL_law 373 = .ok (.iadd, 1) := by decide +kernel
theorem dL_law_374 : decode cL_law 374 = .ok (.iaload, 1) := by decide +kernel
theorem dL_law_375 : decode cL_law 375 = .ok (.aload_n 0, 1) := by decide +kernel
theorem dL_law_376 : decode cL_law 376 = .ok (.iload_n 3, 1) := by decide +kernel
theorem dL_law_377 : decode cL_law 377 = .ok (.iconst 2, 1) := by decide +kernel
theorem dL_law_378 : decode cL_law 378 = .ok (.iadd, 1) := by decide +kernel
theorem dL_law_379 : decode cL_law 379 = .ok (.iaload, 1) := by decide +kernel
theorem dL_law_380 : decode cL_law 380 = .ok (.invokevirtual 56, 3) := by decide +kernel
theorem dL_law_383 : decode cL_law 383 = .ok (.if_icmp .eq 265, 3) := by decide +kernel
theorem dL_law_386 : decode cL_law 386 = .ok (.iconst 0, 1) := by decide +kernel
theorem dL_law_387 : decode cL_law 387 = .ok (.ireturn, 1) := by decide +kernel
theorem dL_law_388 : decode cL_law 388 = .ok (.aload_n 1, 1) := by decide +kernel
theorem dL_law_389 : decode cL_law 389 = .ok (.aload_n 0, 1) := by decide +kernel
theorem dL_law_390 : decode cL_law 390 = .ok (.iload_n 3, 1) := by decide +kernel
theorem dL_law_391 : decode cL_law 391 = .ok (.iconst 1, 1) := by decide +kernel
theorem dL_law_392 : decode cL_law 392 = .ok (.iadd, 1) := by decide +kernel
theorem dL_law_393 : decode cL_law 393 = .ok (.iaload, 1) := by decide +kernel
theorem dL_law_394 : decode cL_law 394 = .ok (.aload_n 0, 1) := by decide +kernel
theorem dL_law_395 : decode cL_law 395 = .ok (.iload_n 3, 1) := by decide +kernel
theorem dL_law_396 : decode cL_law 396 = .ok (.iconst 2, 1) := by decide +kernel
theorem dL_law_397 : decode cL_law 397 = .ok (.iadd, 1) := by decide +kernel
theorem dL_law_398 : decode cL_law 398 = .ok (.iaload, 1) := by decide +kernel
theorem dL_law_399 : decode cL_law 399 = .ok (.invokevirtual 57, 3) := by decide +kernel
theorem dL_law_402 : decode cL_law 402 = .ok (.aload_n 2, 1) := by decide +kernel
theorem dL_law_403 : decode cL_law 403 = .ok (.aload_n 0, 1) := by decide +kernel
theorem dL_law_404 : decode cL_law 404 = .ok (.iload_n 3, 1) := by decide +kernel
theorem dL_law_405 : decode cL_law 405 = .ok (.iconst 1, 1) := by decide +kernel
theorem dL_law_406 : decode cL_law 406 = .ok (.iadd, 1) := by decide +kernel
theorem dL_law_407 : decode cL_law 407 = .ok (.iaload, 1) := by decide +kernel
theorem dL_law_408 : decode cL_law 408 = .ok (.aload_n 0, 1) := by decide +kernel
theorem dL_law_409 : decode cL_law 409 = .ok (.iload_n 3, 1) := by decide +kernel
theorem dL_law_410 : decode cL_law 410 = .ok (.iconst 2, 1) := by decide +kernel
theorem dL_law_411 : decode cL_law 411 = .ok (.iadd, 1) := by decide +kernel
theorem dL_law_412 : decode cL_law 412 = .ok (.iaload, 1) := by decide +kernel
theorem dL_law_413 : decode cL_law 413 = .ok (.invokevirtual 60, 3) := by decide +kernel
theorem dL_law_416 : decode cL_law 416 = .ok (.if_icmp .eq 232, 3) := by decide +kernel
theorem dL_law_419 : decode cL_law 419 = .ok (.iconst 0, 1) := by decide +kernel
theorem dL_law_420 : decode cL_law 420 = .ok (.ireturn, 1) := by decide +kernel
theorem dL_law_421 : decode cL_law 421 = .ok (.aload_n 1, 1) := by decide +kernel
theorem dL_law_422 : decode cL_law 422 = .ok (.aload_n 0, 1) := by decide +kernel
theorem dL_law_423 : decode cL_law 423 = .ok (.iload_n 3, 1) := by decide +kernel
theorem dL_law_424 : decode cL_law 424 = .ok (.iconst 1, 1) := by decide +kernel
theorem dL_law_425 : decode cL_law 425 = .ok (.iadd, 1) := by decide +kernel
theorem dL_law_426 : decode cL_law 426 = .ok (.iaload, 1) := by decide +kernel
theorem dL_law_427 : decode cL_law 427 = .ok (.aload_n 0, 1) := by decide +kernel
theorem dL_law_428 : decode cL_law 428 = .ok (.iload_n 3, 1) := by decide +kernel
theorem dL_law_429 : decode cL_law 429 = .ok (.iconst 2, 1) := by decide +kernel
theorem dL_law_430 : decode cL_law 430 = .ok (.iadd, 1) := by decide +kernel
theorem dL_law_431 : decode cL_law 431 = .ok (.iaload, 1) := by decide +kernel
theorem dL_law_432 : decode cL_law 432 = .ok (.aload_n 0, 1) := by decide +kernel
theorem dL_law_433 : decode cL_law 433 = .ok (.iload_n 3, 1) := by decide +kernel
theorem dL_law_434 : decode cL_law 434 = .ok (.iconst 3, 1) := by decide +kernel
theorem dL_law_435 : decode cL_law 435 = .ok (.iadd, 1) := by decide +kernel
theorem dL_law_436 : decode cL_law 436 = .ok (.iaload, 1) := by decide +kernel
theorem dL_law_437 : decode cL_law 437 = .ok (.invokevirtual 61, 3) := by decide +kernel
theorem dL_law_440 : decode cL_law 440 = .ok (.aload_n 2, 1) := by decide +kernel
theorem dL_law_441 : decode cL_law 441 = .ok (.aload_n 0, 1) := by decide +kernel
theorem dL_law_442 : decode cL_law 442 = .ok (.iload_n 3, 1) := by decide +kernel
theorem dL_law_443 : decode cL_law 443 = .ok (.iconst 1, 1) := by decide +kernel
theorem dL_law_444 : decode cL_law 444 = .ok (.iadd, 1) := by decide +kernel
theorem dL_law_445 : decode cL_law 445 = .ok (.iaload, 1) := by decide +kernel
theorem dL_law_446 : decode cL_law 446 = .ok (.aload_n 0, 1) := by decide +kernel
theorem dL_law_447 : decode cL_law 447 = .ok (.iload_n 3, 1) := by decide +kernel
theorem dL_law_448 : decode cL_law 448 = .ok (.iconst 2, 1) := by decide +kernel
theorem dL_law_449 : decode cL_law 449 = .ok (.iadd, 1) := by decide +kernel
theorem dL_law_450 : decode cL_law 450 = .ok (.iaload, 1) := by decide +kernel
theorem dL_law_451 : decode cL_law 451 = .ok (.aload_n 0, 1) := by decide +kernel
theorem dL_law_452 : decode cL_law 452 = .ok (.iload_n 3, 1) := by decide +kernel
theorem dL_law_453 : decode cL_law 453 = .ok (.iconst 3, 1) := by decide +kernel
theorem dL_law_454 : decode cL_law 454 = .ok (.iadd, 1) := by decide +kernel
theorem dL_law_455 : decode cL_law 455 = .ok (.iaload, 1) := by decide +kernel
theorem dL_law_456 : decode cL_law 456 = .ok (.invokevirtual 64, 3) := by decide +kernel
theorem dL_law_459 : decode cL_law 459 = .ok (.if_icmp .eq 189, 3) := by decide +kernel
theorem dL_law_462 : decode cL_law 462 = .ok (.iconst 0, 1) := by decide +kernel
theorem dL_law_463 : decode cL_law 463 = .ok (.ireturn, 1) := by decide +kernel
theorem dL_law_464 : decode cL_law 464 = .ok (.aload_n 1, 1) := by decide +kernel
theorem dL_law_465 : decode cL_law 465 = .ok (.aload_n 0, 1) := by decide +kernel
theorem dL_law_466 : decode cL_law 466 = .ok (.iload_n 3, 1) := by decide +kernel
theorem dL_law_467 : decode cL_law 467 = .ok (.iconst 1, 1) := by decide +kernel
theorem dL_law_468 : decode cL_law 468 = .ok (.iadd, 1) := by decide +kernel
theorem dL_law_469 : decode cL_law 469 = .ok (.iaload, 1) := by decide +kernel
theorem dL_law_470 : decode cL_law 470 = .ok (.invokevirtual 65, 3) := by decide +kernel
theorem dL_law_473 : decode cL_law 473 = .ok (.aload_n 2, 1) := by decide +kernel
theorem dL_law_474 : decode cL_law 474 = .ok (.aload_n 0, 1) := by decide +kernel
theorem dL_law_475 : decode cL_law 475 = .ok (.iload_n 3, 1) := by decide +kernel
theorem dL_law_476 : decode cL_law 476 = .ok (.iconst 1, 1) := by decide +kernel
theorem dL_law_477 : decode cL_law 477 = .ok (.iadd, 1) := by decide +kernel
theorem dL_law_478 : decode cL_law 478 = .ok (.iaload, 1) := by decide +kernel
theorem dL_law_479 : decode cL_law 479 = .ok (.invokevirtual 68, 3) := by decide +kernel
theorem dL_law_482 : decode cL_law 482 = .ok (.if_icmp .eq 166, 3) := by decide +kernel
theorem dL_law_485 : decode cL_law 485 = .ok (.iconst 0, 1) := by decide +kernel
theorem dL_law_486 : decode cL_law 486 = .ok (.ireturn, 1) := by decide +kernel
theorem dL_law_487 : decode cL_law 487 = .ok (.aload_n 1, 1) := by decide +kernel
theorem dL_law_488 : decode cL_law 488 = .ok (.aload_n 0, 1) := by decide +kernel
theorem dL_law_489 : decode cL_law 489 = .ok (.iload_n 3, 1) := by decide +kernel
theorem dL_law_490 : decode cL_law 490 = .ok (.iconst 1, 1) := by decide +kernel
theorem dL_law_491 : decode cL_law 491 = .ok (.iadd, 1) := by decide +kernel
theorem dL_law_492 : decode cL_law 492 = .ok (.iaload, 1) := by decide +kernel
theorem dL_law_493 : decode cL_law 493 = .ok (.aload_n 0, 1) := by decide +kernel
theorem dL_law_494 : decode cL_law 494 = .ok (.iload_n 3, 1) := by decide +kernel
theorem dL_law_495 : decode cL_law 495 = .ok (.iconst 2, 1) := by decide +kernel
theorem dL_law_496 : decode cL_law 496 = .ok (.iadd, 1) := by decide +kernel
theorem dL_law_497 : decode cL_law 497 = .ok (.iaload, 1) := by decide +kernel
theorem dL_law_498 : decode cL_law 498 = .ok (.invokevirtual 69, 3) := by decide +kernel
theorem dL_law_501 : decode cL_law 501 = .ok (.aload_n 2, 1) := by decide +kernel
theorem dL_law_502 : decode cL_law 502 = .ok (.aload_n 0, 1) := by decide +kernel
theorem dL_law_503 : decode cL_law 503 = .ok (.iload_n 3, 1) := by decide +kernel
theorem dL_law_504 : decode cL_law 504 = .ok (.iconst 1, 1) := by decide +kernel
theorem dL_law_505 : decode cL_law 505 = .ok (.iadd, 1) := by decide +kernel
theorem dL_law_506 : decode cL_law 506 = .ok (.iaload, 1) := by decide +kernel
theorem dL_law_507 : decode cL_law 507 = .ok (.aload_n 0, 1) := by decide +kernel
theorem dL_law_508 : decode cL_law 508 = .ok (.iload_n 3, 1) := by decide +kernel
theorem dL_law_509 : decode cL_law 509 = .ok (.iconst 2, 1) := by decide +kernel
theorem dL_law_510 : decode cL_law 510 = .ok (.iadd, 1) := by decide +kernel
theorem dL_law_511 : decode cL_law 511 = .ok (.iaload, 1) := by decide +kernel
theorem dL_law_512 : decode cL_law 512 = .ok (.invokevirtual 72, 3) := by decide +kernel
theorem dL_law_515 : decode cL_law 515 = .ok (.if_icmp .eq 133, 3) := by decide +kernel
theorem dL_law_518 : decode cL_law 518 = .ok (.iconst 0, 1) := by decide +kernel
theorem dL_law_519 : decode cL_law 519 = .ok (.ireturn, 1) := by decide +kernel
theorem dL_law_520 : decode cL_law 520 = .ok (.aload_n 1, 1) := by decide +kernel
theorem dL_law_521 : decode cL_law 521 = .ok (.aload_n 0, 1) := by decide +kernel
theorem dL_law_522 : decode cL_law 522 = .ok (.iload_n 3, 1) := by decide +kernel
theorem dL_law_523 : decode cL_law 523 = .ok (.iconst 1, 1) := by decide +kernel
theorem dL_law_524 : decode cL_law 524 = .ok (.iadd, 1) := by decide +kernel
theorem dL_law_525 : decode cL_law 525 = .ok (.iaload, 1) := by decide +kernel
theorem dL_law_526 : decode cL_law 526 = .ok (.invokevirtual 73, 3) := by decide +kernel
theorem dL_law_529 : decode cL_law 529 = .ok (.aload_n 2, 1) := by decide +kernel
theorem dL_law_530 : decode cL_law 530 = .ok (.aload_n 0, 1) := by decide +kernel
theorem dL_law_531 : decode cL_law 531 = .ok (.iload_n 3, 1) := by decide +kernel
theorem dL_law_532 : decode cL_law 532 = .ok (.iconst 1, 1) := by decide +kernel
theorem dL_law_533 : decode cL_law 533 = .ok (.iadd, 1) := by decide +kernel
theorem dL_law_534 : decode cL_law 534 = .ok (.iaload, 1) := by decide +kernel
theorem dL_law_535 : decode cL_law 535 = .ok (.invokevirtual 76, 3) := by decide +kernel
theorem dL_law_538 : decode cL_law 538 = .ok (.if_icmp .eq 110, 3) := by decide +kernel
theorem dL_law_541 : decode cL_law 541 = .ok (.iconst 0, 1) := by decide +kernel
theorem dL_law_542 : decode cL_law 542 = .ok (.ireturn, 1) := by decide +kernel
theorem dL_law_543 : decode cL_law 543 = .ok (.aload_n 1, 1) := by decide +kernel
theorem dL_law_544 : decode cL_law 544 = .ok (.invokevirtual 77, 3) := by decide +kernel
theorem dL_law_547 : decode cL_law 547 = .ok (.aload_n 2, 1) := by decide +kernel
theorem dL_law_548 : decode cL_law 548 = .ok (.invokevirtual 80, 3) := by decide +kernel
theorem dL_law_551 : decode cL_law 551 = .ok (.if_icmp .eq 97, 3) := by decide +kernel
theorem dL_law_554 : decode cL_law 554 = .ok (.iconst 0, 1) := by decide +kernel
theorem dL_law_555 : decode cL_law 555 = .ok (.ireturn, 1) := by decide +kernel
theorem dL_law_556 : decode cL_law 556 = .ok (.aload_n 1, 1) := by decide +kernel
theorem dL_law_557 : decode cL_law 557 = .ok (.invokevirtual 81, 3) := by decide +kernel
theorem dL_law_560 : decode cL_law 560 = .ok (.aload_n 2, 1) := by decide +kernel
theorem dL_law_561 : decode cL_law 561 = .ok (.invokevirtual 84, 3) := by decide +kernel
theorem dL_law_564 : decode cL_law 564 = .ok (.if_icmp .eq 84, 3) := by decide +kernel
theorem dL_law_567 : decode cL_law 567 = .ok (.iconst 0, 1) := by decide +kernel
theorem dL_law_568 : decode cL_law 568 = .ok (.ireturn, 1) := by decide +kernel
theorem dL_law_569 : decode cL_law 569 = .ok (.aload_n 1, 1) := by decide +kernel
theorem dL_law_570 : decode cL_law 570 = .ok (.aload_n 0, 1) := by decide +kernel
theorem dL_law_571 : decode cL_law 571 = .ok (.iload_n 3, 1) := by decide +kernel
theorem dL_law_572 : decode cL_law 572 = .ok (.iconst 1, 1) := by decide +kernel
theorem dL_law_573 : decode cL_law 573 = .ok (.iadd, 1) := by decide +kernel
theorem dL_law_574 : decode cL_law 574 = .ok (.iaload, 1) := by decide +kernel
theorem dL_law_575 : decode cL_law 575 = .ok (.invokevirtual 85, 3) := by decide +kernel
theorem dL_law_578 : decode cL_law 578 = .ok (.aload_n 2, 1) := by decide +kernel
theorem dL_law_579 : decode cL_law 579 = .ok (.aload_n 0, 1) := by decide +kernel
theorem dL_law_580 : decode cL_law 580 = .ok (.iload_n 3, 1) := by decide +kernel
theorem dL_law_581 : decode cL_law 581 = .ok (.iconst 1, 1) := by decide +kernel
theorem dL_law_582 : decode cL_law 582 = .ok (.iadd, 1) := by decide +kernel
theorem dL_law_583 : decode cL_law 583 = .ok (.iaload, 1) := by decide +kernel
theorem dL_law_584 : decode cL_law 584 = .ok (.invokevirtual 88, 3) := by decide +kernel
theorem dL_law_587 : decode cL_law 587 = .ok (.if_icmp .eq 61, 3) := by decide +kernel
theorem dL_law_590 : decode cL_law 590 = .ok (.iconst 0, 1) := by decide +kernel
theorem dL_law_591 : decode cL_law 591 = .ok (.ireturn, 1) := by decide +kernel
theorem dL_law_592 : decode cL_law 592 = .ok (.aload_n 1, 1) := by decide +kernel
theorem dL_law_593 : decode cL_law 593 = .ok (.aload_n 0, 1) := by decide +kernel
theorem dL_law_594 : decode cL_law 594 = .ok (.iload_n 3, 1) := by decide +kernel
theorem dL_law_595 : decode cL_law 595 = .ok (.iconst 1, 1) := by decide +kernel
theorem dL_law_596 : decode cL_law 596 = .ok (.iadd, 1) := by decide +kernel
theorem dL_law_597 : decode cL_law 597 = .ok (.iaload, 1) := by decide +kernel
theorem dL_law_598 : decode cL_law 598 = .ok (.aload_n 0, 1) := by decide +kernel
theorem dL_law_599 : decode cL_law 599 = .ok (.iload_n 3, 1) := by decide +kernel
theorem dL_law_600 : decode cL_law 600 = .ok (.iconst 2, 1) := by decide +kernel
theorem dL_law_601 : decode cL_law 601 = .ok (.iadd, 1) := by decide +kernel
theorem dL_law_602 : decode cL_law 602 = .ok (.iaload, 1) := by decide +kernel
theorem dL_law_603 : decode cL_law 603 = .ok (.invokevirtual 89, 3) := by decide +kernel
theorem dL_law_606 : decode cL_law 606 = .ok (.aload_n 2, 1) := by decide +kernel
theorem dL_law_607 : decode cL_law 607 = .ok (.aload_n 0, 1) := by decide +kernel
theorem dL_law_608 : decode cL_law 608 = .ok (.iload_n 3, 1) := by decide +kernel
theorem dL_law_609 : decode cL_law 609 = .ok (.iconst 1, 1) := by decide +kernel
theorem dL_law_610 : decode cL_law 610 = .ok (.iadd, 1) := by decide +kernel
theorem dL_law_611 : decode cL_law 611 = .ok (.iaload, 1) := by decide +kernel
theorem dL_law_612 : decode cL_law 612 = .ok (.aload_n 0, 1) := by decide +kernel
theorem dL_law_613 : decode cL_law 613 = .ok (.iload_n 3, 1) := by decide +kernel
theorem dL_law_614 : decode cL_law 614 = .ok (.iconst 2, 1) := by decide +kernel
theorem dL_law_615 : decode cL_law 615 = .ok (.iadd, 1) := by decide +kernel
theorem dL_law_616 : decode cL_law 616 = .ok (.iaload, 1) := by decide +kernel
theorem dL_law_617 : decode cL_law 617 = .ok (.invokevirtual 92, 3) := by decide +kernel
theorem dL_law_620 : decode cL_law 620 = .ok (.if_icmp .eq 28, 3) := by decide +kernel
theorem dL_law_623 : decode cL_law 623 = .ok (.iconst 0, 1) := by decide +kernel
theorem dL_law_624 : decode cL_law 624 = .ok (.ireturn, 1) := by decide +kernel
theorem dL_law_625 : decode cL_law 625 = .ok (.aload_n 1, 1) := by decide +kernel
theorem dL_law_626 : decode cL_law 626 = .ok (.aload_n 0, 1) := by decide +kernel
theorem dL_law_627 : decode cL_law 627 = .ok (.iload_n 3, 1) := by decide +kernel
theorem dL_law_628 : decode cL_law 628 = .ok (.iconst 1, 1) := by decide +kernel
theorem dL_law_629 : decode cL_law 629 = .ok (.iadd, 1) := by decide +kernel
theorem dL_law_630 : decode cL_law 630 = .ok (.iaload, 1) := by decide +kernel
theorem dL_law_631 : decode cL_law 631 = .ok (.invokevirtual 93, 3) := by decide +kernel
theorem dL_law_634 : decode cL_law 634 = .ok (.aload_n 2, 1) := by decide +kernel
theorem dL_law_635 : decode cL_law 635 = .ok (.aload_n 0, 1) := by decide +kernel
theorem dL_law_636 : decode cL_law 636 = .ok (.iload_n 3, 1) := by decide +kernel
theorem dL_law_637 : decode cL_law 637 = .ok (.iconst 1, 1) := by decide +kernel
theorem dL_law_638 : decode cL_law 638 = .ok (.iadd, 1) := by decide +kernel
theorem dL_law_639 : decode cL_law 639 = .ok (.iaload, 1) := by decide +kernel
theorem dL_law_640 : decode cL_law 640 = .ok (.invokevirtual 96, 3) := by decide +kernel
theorem dL_law_643 : decode cL_law 643 = .ok (.if_icmp .eq 5, 3) := by decide +kernel
theorem dL_law_646 : decode cL_law 646 = .ok (.iconst 0, 1) := by decide +kernel
theorem dL_law_647 : decode cL_law 647 = .ok (.ireturn, 1) := by decide +kernel
theorem dL_law_648 : decode cL_law 648 = .ok (.iinc 3 4, 3) := by decide +kernel
theorem dL_law_651 : decode cL_law 651 = .ok (.goto (-633), 3) := by decide +kernel
theorem dL_law_654 : decode cL_law 654 = .ok (.iconst 1, 1) := by decide +kernel
theorem dL_law_655 : decode cL_law 655 = .ok (.ireturn, 1) := by decide +kernel
theorem dX0_init_0 : decode cX0_init 0 = .ok (.aload_n 0, 1) := by decide +kernel
theorem dX0_init_1 : decode cX0_init 1 = .ok (.invokespecial 3, 3) := by decide +kernel
theorem dX0_init_4 : decode cX0_init 4 = .ok (.aload_n 0, 1) := by decide +kernel
theorem dX0_init_5 : decode cX0_init 5 = .ok (.sipush 150, 3) := by decide +kernel
theorem dX0_init_8 : decode cX0_init 8 = .ok (.newarray .int, 2) := by decide +kernel
theorem dX0_init_10 : decode cX0_init 10 = .ok (.putfield 9, 3) := by decide +kernel
theorem dX0_init_13 : decode cX0_init 13 = .ok (.aload_n 0, 1) := by decide +kernel
theorem dX0_init_14 : decode cX0_init 14 = .ok (.sipush 150, 3) := by decide +kernel
theorem dX0_init_17 : decode cX0_init 17 = .ok (.newarray .int, 2) := by decide +kernel
theorem dX0_init_19 : decode cX0_init 19 = .ok (.putfield 15, 3) := by decide +kernel
theorem dX0_init_22 : decode cX0_init 22 = .ok (.aload_n 0, 1) := by decide +kernel
theorem dX0_init_23 : decode cX0_init 23 = .ok (.sipush 150, 3) := by decide +kernel
theorem dX0_init_26 : decode cX0_init 26 = .ok (.newarray .int, 2) := by decide +kernel
theorem dX0_init_28 : decode cX0_init 28 = .ok (.putfield 18, 3) := by decide +kernel
theorem dX0_init_31 : decode cX0_init 31 = .ok (.aload_n 0, 1) := by decide +kernel
theorem dX0_init_32 : decode cX0_init 32 = .ok (.sipush 150, 3) := by decide +kernel
theorem dX0_init_35 : decode cX0_init 35 = .ok (.newarray .int, 2) := by decide +kernel
theorem dX0_init_37 : decode cX0_init 37 = .ok (.putfield 21, 3) := by decide +kernel
theorem dX0_init_40 : decode cX0_init 40 = .ok (.aload_n 0, 1) := by decide +kernel
theorem dX0_init_41 : decode cX0_init 41 = .ok (.iconst 0, 1) := by decide +kernel
theorem dX0_init_42 : decode cX0_init 42 = .ok (.putfield 24, 3) := by decide +kernel
theorem dX0_init_45 : decode cX0_init 45 = .ok (.aload_n 0, 1) := by decide +kernel
theorem dX0_init_46 : decode cX0_init 46 = .ok (.iconst 0, 1) := by decide +kernel
theorem dX0_init_47 : decode cX0_init 47 = .ok (.putfield 28, 3) := by decide +kernel
theorem dX0_init_50 : decode cX0_init 50 = .ok (.return_, 1) := by decide +kernel
theorem dX0_spread_0 : decode cX0_spread 0 = .ok (.aload_n 0, 1) := by decide +kernel
theorem dX0_spread_1 : decode cX0_spread 1 = .ok (.getfield 9, 3) := by decide +kernel
theorem dX0_spread_4 : decode cX0_spread 4 = .ok (.bipush (-9), 2) := by decide +kernel
theorem dX0_spread_6 : decode cX0_spread 6 = .ok (.invokestatic 31, 3) := by decide +kernel
theorem dX0_spread_9 : decode cX0_spread 9 = .ok (.aload_n 0, 1) := by decide +kernel
theorem dX0_spread_10 : decode cX0_spread 10 = .ok (.iconst 0, 1) := by decide +kernel
theorem dX0_spread_11 : decode cX0_spread 11 = .ok (.putfield 24, 3) := by decide +kernel
theorem dX0_spread_14 : decode cX0_spread 14 = .ok (.aload_n 0, 1) := by decide +kernel
theorem dX0_spread_15 : decode cX0_spread 15 = .ok (.iconst 0, 1) := by decide +kernel
theorem dX0_spread_16 : decode cX0_spread 16 = .ok (.putfield 28, 3) := by decide +kernel
theorem dX0_spread_19 : decode cX0_spread 19 = .ok (.aload_n 1, 1) := by decide +kernel
theorem dX0_spread_20 : decode cX0_spread 20 = .ok (.iconst 0, 1) := by decide +kernel
theorem dX0_spread_21 : decode cX0_spread 21 = .ok (.invokevirtual 37, 3) := by decide +kernel
theorem dX0_spread_24 : decode cX0_spread 24 = .ok (.ifCond .eq 11, 3) := by decide +kernel
theorem dX0_spread_27 : decode cX0_spread 27 = .ok (.aload_n 2, 1) := by decide +kernel
theorem dX0_spread_28 : decode cX0_spread 28 = .ok (.iconst 0, 1) := by decide +kernel
theorem dX0_spread_29 : decode cX0_spread 29 = .ok (.invokevirtual 43, 3) := by decide +kernel
theorem dX0_spread_32 : decode cX0_spread 32 = .ok (.ifCond .eq 4, 3) := by decide +kernel
theorem dX0_spread_35 : decode cX0_spread 35 = .ok (.return_, 1) := by decide +kernel
theorem dX0_spread_36 : decode cX0_spread 36 = .ok (.aload_n 0, 1) := by decide +kernel
theorem dX0_spread_37 : decode cX0_spread 37 = .ok (.iconst 0, 1) := by decide +kernel
theorem dX0_spread_38 : decode cX0_spread 38 = .ok (.bipush (-9), 2) := by decide +kernel
theorem dX0_spread_40 : decode cX0_spread 40 = .ok (.iconst 0, 1) := by decide +kernel
theorem dX0_spread_41 : decode cX0_spread 41 = .ok (.invokevirtual 48, 3) := by decide +kernel
theorem dX0_spread_44 : decode cX0_spread 44 = .ok (.iconst 0, 1) := by decide +kernel
theorem dX0_spread_45 : decode cX0_spread 45 = .ok (.istore_n 3, 1) := by decide +kernel
theorem dX0_spread_46 : decode cX0_spread 46 = .ok (.iload_n 3, 1) := by decide +kernel
theorem dX0_spread_47 : decode cX0_spread 47 = .ok (.aload_n 0, 1) := by decide +kernel
theorem dX0_spread_48 : decode cX0_spread 48 = .ok (.getfield 24, 3) := by decide +kernel
theorem dX0_spread_51 : decode cX0_spread 51 = .ok (.if_icmp .ge 28, 3) := by decide +kernel
theorem dX0_spread_54 : decode cX0_spread 54 = .ok (.iload_n 3, 1) := by decide +kernel
theorem dX0_spread_55 : decode cX0_spread 55 = .ok (.sipush 150, 3) := by decide +kernel
theorem dX0_spread_58 : decode cX0_spread 58 = .ok (.if_icmp .ge 21, 3) := by decide +kernel
theorem dX0_spread_61 : decode cX0_spread 61 = .ok (.aload_n 0, 1) := by decide +kernel
theorem dX0_spread_62 : decode cX0_spread 62 = .ok (.aload_n 0, 1) := by decide +kernel
theorem dX0_spread_63 : decode cX0_spread 63 = .ok (.getfield 21, 3) := by decide +kernel
theorem dX0_spread_66 : decode cX0_spread 66 = .ok (.iload_n 3, 1) := by decide +kernel
theorem dX0_spread_67 : decode cX0_spread 67 = .ok (.iaload, 1) := by decide +kernel
theorem dX0_spread_68 : decode cX0_spread 68 = .ok (.aload_n 1, 1) := by decide +kernel
theorem dX0_spread_69 : decode cX0_spread 69 = .ok (.aload_n 2, 1) := by decide +kernel
theorem dX0_spread_70 : decode cX0_spread 70 = .ok (.invokevirtual 52, 3) := by decide +kernel
theorem dX0_spread_73 : decode cX0_spread 73 = .ok (.iinc 3 1, 3) := by decide +kernel
theorem dX0_spread_76 : decode cX0_spread 76 = .ok (.goto (-30), 3) := by decide +kernel
theorem dX0_spread_79 : decode cX0_spread 79 = .ok (.return_, 1) := by decide +kernel
theorem dX0_spreadFrom_0 : decode cX0_spreadFrom 0 = .ok (.aload_n 2, 1) := by decide +kernel
theorem dX0_spreadFrom_1 : decode cX0_spreadFrom 1 = .ok (.iload_n 1, 1) := by decide +kernel
theorem dX0_spreadFrom_2 : decode cX0_spreadFrom 2 = .ok (.invokevirtual 56, 3) := by decide +kernel
theorem dX0_spreadFrom_5 : decode cX0_spreadFrom 5 = .ok (.istore 4, 2) := by decide +kernel
theorem dX0_spreadFrom_7 : decode cX0_spreadFrom 7 = .ok (.iconst 0, 1) := by decide +kernel
theorem dX0_spreadFrom_8 : decode cX0_spreadFrom 8 = .ok (.istore 5, 2) := by decide +kernel
theorem dX0_spreadFrom_10 : decode cX0_spreadFrom 10 = .ok (.iconst 0, 1) := by decide +kernel
theorem dX0_spreadFrom_11 : decode cX0_spreadFrom 11 = .ok (.istore 6, 2) := by decide +kernel
theorem dX0_spreadFrom_13 : decode cX0_spreadFrom 13 = .ok (.iload 6, 2) := by decide +kernel
theorem dX0_spreadFrom_15 : decode cX0_spreadFrom 15 = .ok (.bipush 8, 2) := by decide +kernel
theorem dX0_spreadFrom_17 : decode cX0_spreadFrom 17 = .ok (.if_icmp .ge 98, 3) := by decide +kernel
theorem dX0_spreadFrom_20 : decode cX0_spreadFrom 20 = .ok (.iload 4, 2) := by decide +kernel
theorem dX0_spreadFrom_22 : decode cX0_spreadFrom 22 = .ok (.iload 6, 2) := by decide +kernel
theorem dX0_spreadFrom_24 : decode cX0_spreadFrom 24 = .ok (.ishr, 1) := by decide +kernel
theorem dX0_spreadFrom_25 : decode cX0_spreadFrom 25 = .ok (.ifCond .eq 90, 3) := by decide +kernel
theorem dX0_spreadFrom_28 : decode cX0_spreadFrom 28 = .ok (.iload 4, 2) := by decide +kernel
theorem dX0_spreadFrom_30 : decode cX0_spreadFrom 30 = .ok (.iload 6, 2) := by decide +kernel
theorem dX0_spreadFrom_32 : decode cX0_spreadFrom 32 = .ok (.invokestatic 60, 3) := by decide +kernel
theorem dX0_spreadFrom_35 : decode cX0_spreadFrom 35 = .ok (.ifCond .ne 6, 3) := by decide +kernel
theorem dX0_spreadFrom_38 : decode cX0_spreadFrom 38 = .ok (.goto 71, 3) := by decide +kernel
theorem dX0_spreadFrom_41 : decode cX0_spreadFrom 41 = .ok (.aload_n 2, 1) := by decide +kernel
theorem dX0_spreadFrom_42 : decode cX0_spreadFrom 42 = .ok (.iload_n 1, 1) := by decide +kernel
theorem dX0_spreadFrom_43 : decode cX0_spreadFrom 43 = .ok (.iload 6, 2) := by decide +kernel
theorem dX0_spreadFrom_45 : decode cX0_spreadFrom 45 = .ok (.invokevirtual 64, 3) := by decide +kernel
theorem dX0_spreadFrom_48 : decode cX0_spreadFrom 48 = .ok (.istore 7, 2) := by decide +kernel
theorem dX0_spreadFrom_50 : decode cX0_spreadFrom 50 = .ok (.aload_n 3, 1) := by decide +kernel
theorem dX0_spreadFrom_51 : decode cX0_spreadFrom 51 = .ok (.iload 7, 2) := by decide +kernel
theorem dX0_spreadFrom_53 : decode cX0_spreadFrom 53 = .ok (.invokevirtual 43, 3) := by decide +kernel
theorem dX0_spreadFrom_56 : decode cX0_spreadFrom 56 = .ok (.ifCond .eq 15, 3) := by decide +kernel
theorem dX0_spreadFrom_59 : decode cX0_spreadFrom 59 = .ok (.iload 5, 2) := by decide +kernel
theorem dX0_spreadFrom_61 : decode cX0_spreadFrom 61 = .ok (.iconst 1, 1) := by decide +kernel
theorem dX0_spreadFrom_62 : decode cX0_spreadFrom 62 = .ok (.iload 6, 2) := by decide +kernel
theorem dX0_spreadFrom_64 : decode cX0_spreadFrom 64 = .ok (.ishl, 1) := by decide +kernel
theorem dX0_spreadFrom_65 : decode cX0_spreadFrom 65 = .ok (.ior, 1) := by decide +kernel
theorem dX0_spreadFrom_66 : decode cX0_spreadFrom 66 = .ok (.istore 5, 2) := by decide +kernel
theorem dX0_spreadFrom_68 : decode cX0_spreadFrom 68 = .ok (.goto 41, 3) := by decide +kernel
theorem dX0_spreadFrom_71 : decode cX0_spreadFrom 71 = .ok (.iload 7, 2) := by decide +kernel
theorem dX0_spreadFrom_73 : decode cX0_spreadFrom 73 = .ok (.invokestatic 68, 3) := by decide +kernel
theorem dX0_spreadFrom_76 : decode cX0_spreadFrom 76 = .ok (.ifCond .eq 33, 3) := by decide +kernel
theorem dX0_spreadFrom_79 : decode cX0_spreadFrom 79 = .ok (.aload_n 0, 1) := by decide +kernel
theorem dX0_spreadFrom_80 : decode cX0_spreadFrom 80 = .ok (.iload 7, 2) := by decide +kernel
theorem dX0_spreadFrom_82 : decode cX0_spreadFrom 82 = .ok (.invokevirtual 71, 3) := by decide +kernel
theorem dX0_spreadFrom_85 : decode cX0_spreadFrom 85 = .ok (.ifCond .ne 24, 3) := by decide +kernel
theorem dX0_spreadFrom_88 : decode cX0_spreadFrom 88 = .ok (.aload_n 0, 1) := by decide +kernel
theorem dX0_spreadFrom_89 : decode cX0_spreadFrom 89 = .ok (.iload 7, 2) := by decide +kernel
theorem dX0_spreadFrom_91 : decode cX0_spreadFrom 91 = .ok (.iload_n 1, 1) := by decide +kernel
theorem dX0_spreadFrom_92 : decode cX0_spreadFrom 92 = .ok (.bipush 8, 2) := by decide +kernel
theorem dX0_spreadFrom_94 : decode cX0_spreadFrom 94 = .ok (.imul, 1) := by decide +kernel
theorem dX0_spreadFrom_95 : decode cX0_spreadFrom 95 = .ok (.iload 6, 2) := by decide +kernel
theorem dX0_spreadFrom_97 : decode cX0_spreadFrom 97 = .ok (.iadd, 1) := by decide +kernel
theorem dX0_spreadFrom_98 : decode cX0_spreadFrom 98 = .ok (.aload_n 0, 1) := by decide +kernel
theorem dX0_spreadFrom_99 : decode cX0_spreadFrom 99 = .ok (.getfield 9, 3) := by decide +kernel
theorem dX0_spreadFrom_102 : decode cX0_spreadFrom 102 = .ok (.iload_n 1, 1) := by decide +kernel
theorem dX0_spreadFrom_103 : decode cX0_spreadFrom 103 = .ok (.iaload, 1) := by decide +kernel
theorem dX0_spreadFrom_104 : decode cX0_spreadFrom 104 = .ok (.iconst 1, 1) := by decide +kernel
theorem dX0_spreadFrom_105 : decode cX0_spreadFrom 105 = .ok (.iadd, 1) := by decide +kernel
theorem dX0_spreadFrom_106 : decode cX0_spreadFrom 106 = .ok (.invokevirtual 48, 3) := by decide +kernel
theorem dX0_spreadFrom_109 : decode cX0_spreadFrom 109 = .ok (.iinc 6 1, 3) := by decide +kernel
theorem dX0_spreadFrom_112 : decode cX0_spreadFrom 112 = .ok (.goto (-99), 3) := by decide +kernel
theorem dX0_spreadFrom_115 : decode cX0_spreadFrom 115 = .ok (.aload_n 0, 1) := by decide +kernel
theorem dX0_spreadFrom_116 : decode cX0_spreadFrom 116 = .ok (.getfield 18, 3) := by decide +kernel
theorem dX0_spreadFrom_119 : decode cX0_spreadFrom 119 = .ok (.iload_n 1, 1) := by decide +kernel
theorem dX0_spreadFrom_120 : decode cX0_spreadFrom 120 = .ok (.iload 5, 2) := by decide +kernel
theorem dX0_spreadFrom_122 : decode cX0_spreadFrom 122 = .ok (.iastore, 1) := by decide +kernel
theorem dX0_spreadFrom_123 : decode cX0_spreadFrom 123 = .ok (.aload_n 0, 1) := by decide +kernel
theorem dX0_spreadFrom_124 : decode cX0_spreadFrom 124 = .ok (.dup, 1) := by decide +kernel
theorem dX0_spreadFrom_125 : decode cX0_spreadFrom 125 = .ok (.getfield 28, 3) := by decide +kernel
theorem dX0_spreadFrom_128 : decode cX0_spreadFrom 128 = .ok (.iload 5, 2) := by decide +kernel
theorem dX0_spreadFrom_130 : decode cX0_spreadFrom 130 = .ok (.invokestatic 74, 3) := by decide +kernel
theorem dX0_spreadFrom_133 : decode cX0_spreadFrom 133 = .ok (.iadd, 1) := by decide +kernel
theorem dX0_spreadFrom_134 : decode cX0_spreadFrom 134 = .ok (.putfield 28, 3) := by decide +kernel
theorem dX0_spreadFrom_137 : decode cX0_spreadFrom 137 = .ok (.return_, 1) := by decide +kernel
theorem dX0_comeTo_0 : decode cX0_comeTo 0 = .ok (.aload_n 0, 1) := by decide +kernel
theorem dX0_comeTo_1 : decode cX0_comeTo 1 = .ok (.getfield 24, 3) := by decide +kernel
theorem dX0_comeTo_4 : decode cX0_comeTo 4 = .ok (.sipush 150, 3) := by decide +kernel
theorem dX0_comeTo_7 : decode cX0_comeTo 7 = .ok (.if_icmp .ge 37, 3) := by decide +kernel
theorem dX0_comeTo_10 : decode cX0_comeTo 10 = .ok (.aload_n 0, 1) := by decide +kernel
theorem dX0_comeTo_11 : decode cX0_comeTo 11 = .ok (.getfield 9, 3) := by decide +kernel
theorem dX0_comeTo_14 : decode cX0_comeTo 14 = .ok (.iload_n 1, 1) := by decide +kernel
theorem dX0_comeTo_15 : decode cX0_comeTo 15 = .ok (.iload_n 3, 1) := by decide +kernel
theorem dX0_comeTo_16 : decode cX0_comeTo 16 = .ok (.iastore, 1) := by decide +kernel
theorem dX0_comeTo_17 : decode cX0_comeTo 17 = .ok (.aload_n 0, 1) := by decide +kernel
theorem dX0_comeTo_18 : decode cX0_comeTo 18 = .ok (.getfield 15, 3) := by decide +kernel
theorem dX0_comeTo_21 : decode cX0_comeTo 21 = .ok (.iload_n 1, 1) := by decide +kernel
theorem dX0_comeTo_22 : decode cX0_comeTo 22 = .ok (.iload_n 2, 1) := by decide +kernel
theorem dX0_comeTo_23 : decode cX0_comeTo 23 = .ok (.iastore, 1) := by decide +kernel
theorem dX0_comeTo_24 : decode cX0_comeTo 24 = .ok (.aload_n 0, 1) := by decide +kernel
theorem dX0_comeTo_25 : decode cX0_comeTo 25 = .ok (.getfield 21, 3) := by decide +kernel
theorem dX0_comeTo_28 : decode cX0_comeTo 28 = .ok (.aload_n 0, 1) := by decide +kernel
theorem dX0_comeTo_29 : decode cX0_comeTo 29 = .ok (.getfield 24, 3) := by decide +kernel
theorem dX0_comeTo_32 : decode cX0_comeTo 32 = .ok (.iload_n 1, 1) := by decide +kernel
theorem dX0_comeTo_33 : decode cX0_comeTo 33 = .ok (.iastore, 1) := by decide +kernel
theorem dX0_comeTo_34 : decode cX0_comeTo 34 = .ok (.aload_n 0, 1) := by decide +kernel
theorem dX0_comeTo_35 : decode cX0_comeTo 35 = .ok (.dup, 1) := by decide +kernel
theorem dX0_comeTo_36 : decode cX0_comeTo 36 = .ok (.getfield 24, 3) := by decide +kernel
theorem dX0_comeTo_39 : decode cX0_comeTo 39 = .ok (.iconst 1, 1) := by decide +kernel
theorem dX0_comeTo_40 : decode cX0_comeTo 40 = .ok (.iadd, 1) := by decide +kernel
theorem dX0_comeTo_41 : decode cX0_comeTo 41 = .ok (.putfield 24, 3) := by decide +kernel
theorem dX0_comeTo_44 : decode cX0_comeTo 44 = .ok (.return_, 1) := by decide +kernel
theorem dX0_holds_0 : decode cX0_holds 0 = .ok (.aload_n 0, 1) := by decide +kernel
theorem dX0_holds_1 : decode cX0_holds 1 = .ok (.iload_n 1, 1) := by decide +kernel
theorem dX0_holds_2 : decode cX0_holds 2 = .ok (.invokevirtual 79, 3) := by decide +kernel
theorem dX0_holds_5 : decode cX0_holds 5 = .ok (.bipush (-9), 2) := by decide +kernel
theorem dX0_holds_7 : decode cX0_holds 7 = .ok (.if_icmp .eq 7, 3) := by decide +kernel
theorem dX0_holds_10 : decode cX0_holds 10 = .ok (.iconst 1, 1) := by decide +kernel
theorem dX0_holds_11 : decode cX0_holds 11 = .ok (.goto 4, 3) := by decide +kernel
theorem dX0_holds_14 : decode cX0_holds 14 = .ok (.iconst 0, 1) := by decide +kernel
theorem dX0_holds_15 : decode cX0_holds 15 = .ok (.ireturn, 1) := by decide +kernel
theorem dX0_depthOf_0 : decode cX0_depthOf 0 = .ok (.iload_n 1, 1) := by decide +kernel
theorem dX0_depthOf_1 : decode cX0_depthOf 1 = .ok (.invokestatic 68, 3) := by decide +kernel
theorem dX0_depthOf_4 : decode cX0_depthOf 4 = .ok (.ifCond .eq 12, 3) := by decide +kernel
theorem dX0_depthOf_7 : decode cX0_depthOf 7 = .ok (.aload_n 0, 1) := by decide +kernel
theorem dX0_depthOf_8 : decode cX0_depthOf 8 = .ok (.getfield 9, 3) := by decide +kernel
theorem dX0_depthOf_11 : decode cX0_depthOf 11 = .ok (.iload_n 1, 1) := by decide +kernel
theorem dX0_depthOf_12 : decode cX0_depthOf 12 = .ok (.iaload, 1) := by decide +kernel
theorem dX0_depthOf_13 : decode cX0_depthOf 13 = .ok (.goto 5, 3) := by decide +kernel
theorem dX0_depthOf_16 : decode cX0_depthOf 16 = .ok (.bipush (-9), 2) := by decide +kernel
theorem dX0_depthOf_18 : decode cX0_depthOf 18 = .ok (.ireturn, 1) := by decide +kernel
theorem dX0_barredSet_0 : decode cX0_barredSet 0 = .ok (.aload_n 0, 1) := by decide +kernel
theorem dX0_barredSet_1 : decode cX0_barredSet 1 = .ok (.iload_n 1, 1) := by decide +kernel
theorem dX0_barredSet_2 : decode cX0_barredSet 2 = .ok (.invokevirtual 71, 3) := by decide +kernel
theorem dX0_barredSet_5 : decode cX0_barredSet 5 = .ok (.ifCond .eq 12, 3) := by decide +kernel
theorem dX0_barredSet_8 : decode cX0_barredSet 8 = .ok (.aload_n 0, 1) := by decide +kernel
theorem dX0_barredSet_9 : decode cX0_barredSet 9 = .ok (.getfield 18, 3) := by decide +kernel
theorem dX0_barredSet_12 : decode cX0_barredSet 12 = .ok (.iload_n 1, 1) := by decide +kernel
theorem dX0_barredSet_13 : decode cX0_barredSet 13 = .ok (.iaload, 1) := by decide +kernel
theorem dX0_barredSet_14 : decode cX0_barredSet 14 = .ok (.goto 5, 3) := by decide +kernel
theorem dX0_barredSet_17 : decode cX0_barredSet 17 = .ok (.bipush (-9), 2) := by decide +kernel
theorem dX0_barredSet_19 : decode cX0_barredSet 19 = .ok (.ireturn, 1) := by decide +kernel
theorem dX0_eventTo_0 : decode cX0_eventTo 0 = .ok (.iload_n 1, 1) := by decide +kernel
theorem dX0_eventTo_1 : decode cX0_eventTo 1 = .ok (.istore_n 3, 1) := by decide +kernel
theorem dX0_eventTo_2 : decode cX0_eventTo 2 = .ok (.iconst 0, 1) := by decide +kernel
theorem dX0_eventTo_3 : decode cX0_eventTo 3 = .ok (.istore 4, 2) := by decide +kernel
theorem dX0_eventTo_5 : decode cX0_eventTo 5 = .ok (.iload 4, 2) := by decide +kernel
theorem dX0_eventTo_7 : decode cX0_eventTo 7 = .ok (.sipush 150, 3) := by decide +kernel
theorem dX0_eventTo_10 : decode cX0_eventTo 10 = .ok (.if_icmp .ge 30, 3) := by decide +kernel
theorem dX0_eventTo_13 : decode cX0_eventTo 13 = .ok (.aload_n 0, 1) := by decide +kernel
theorem dX0_eventTo_14 : decode cX0_eventTo 14 = .ok (.iload_n 3, 1) := by decide +kernel
theorem dX0_eventTo_15 : decode cX0_eventTo 15 = .ok (.invokevirtual 79, 3) := by decide +kernel
theorem dX0_eventTo_18 : decode cX0_eventTo 18 = .ok (.iload_n 2, 1) := by decide +kernel
theorem dX0_eventTo_19 : decode cX0_eventTo 19 = .ok (.iconst 1, 1) := by decide +kernel
theorem dX0_eventTo_20 : decode cX0_eventTo 20 = .ok (.iadd, 1) := by decide +kernel
theorem dX0_eventTo_21 : decode cX0_eventTo 21 = .ok (.if_icmp .le 19, 3) := by decide +kernel
theorem dX0_eventTo_24 : decode cX0_eventTo 24 = .ok (.aload_n 0, 1) := by decide +kernel
theorem dX0_eventTo_25 : decode cX0_eventTo 25 = .ok (.getfield 15, 3) := by decide +kernel
theorem dX0_eventTo_28 : decode cX0_eventTo 28 = .ok (.iload_n 3, 1) := by decide +kernel
theorem dX0_eventTo_29 : decode cX0_eventTo 29 = .ok (.iaload, 1) := by decide +kernel
theorem dX0_eventTo_30 : decode cX0_eventTo 30 = .ok (.bipush 8, 2) := by decide +kernel
theorem dX0_eventTo_32 : decode cX0_eventTo 32 = .ok (.idiv, 1) := by decide +kernel
theorem dX0_eventTo_33 : decode cX0_eventTo 33 = .ok (.istore_n 3, 1) := by decide +kernel
theorem dX0_eventTo_34 : decode cX0_eventTo 34 = .ok (.iinc 4 1, 3) := by decide +kernel
theorem dX0_eventTo_37 : decode cX0_eventTo 37 = .ok (.goto (-32), 3) := by decide +kernel
theorem dX0_eventTo_40 : decode cX0_eventTo 40 = .ok (.aload_n 0, 1) := by decide +kernel
theorem dX0_eventTo_41 : decode cX0_eventTo 41 = .ok (.iload_n 3, 1) := by decide +kernel
theorem dX0_eventTo_42 : decode cX0_eventTo 42 = .ok (.invokevirtual 79, 3) := by decide +kernel
theorem dX0_eventTo_45 : decode cX0_eventTo 45 = .ok (.iload_n 2, 1) := by decide +kernel
theorem dX0_eventTo_46 : decode cX0_eventTo 46 = .ok (.iconst 1, 1) := by decide +kernel
theorem dX0_eventTo_47 : decode cX0_eventTo 47 = .ok (.iadd, 1) := by decide +kernel
theorem dX0_eventTo_48 : decode cX0_eventTo 48 = .ok (.if_icmp .ne 15, 3) := by decide +kernel
theorem dX0_eventTo_51 : decode cX0_eventTo 51 = .ok (.aload_n 0, 1) := by decide +kernel
theorem dX0_eventTo_52 : decode cX0_eventTo 52 = .ok (.getfield 15, 3) := by decide +kernel
theorem dX0_eventTo_55 : decode cX0_eventTo 55 = .ok (.iload_n 3, 1) := by decide +kernel
theorem dX0_eventTo_56 : decode cX0_eventTo 56 = .ok (.iaload, 1) := by decide +kernel
theorem dX0_eventTo_57 : decode cX0_eventTo 57 = .ok (.bipush 8, 2) := by decide +kernel
theorem dX0_eventTo_59 : decode cX0_eventTo 59 = .ok (.irem, 1) := by decide +kernel
theorem dX0_eventTo_60 : decode cX0_eventTo 60 = .ok (.goto 5, 3) := by decide +kernel
theorem dX0_eventTo_63 : decode cX0_eventTo 63 = .ok (.bipush (-9), 2) := by decide +kernel
theorem dX0_eventTo_65 : decode cX0_eventTo 65 = .ok (.ireturn, 1) := by decide +kernel
theorem dX1_init_0 : decode cX1_init 0 = .ok (.aload_n 0, 1) := by decide +kernel
theorem dX1_init_1 : decode cX1_init 1 = .ok (.invokespecial 3, 3) := by decide +kernel
theorem dX1_init_4 : decode cX1_init 4 = .ok (.aload_n 0, 1) := by decide +kernel
theorem dX1_init_5 : decode cX1_init 5 = .ok (.sipush 150, 3) := by decide +kernel
theorem dX1_init_8 : decode cX1_init 8 = .ok (.newarray .int, 2) := by decide +kernel
theorem dX1_init_10 : decode cX1_init 10 = .ok (.putfield 9, 3) := by decide +kernel
theorem dX1_init_13 : decode cX1_init 13 = .ok (.aload_n 0, 1) := by decide +kernel
theorem dX1_init_14 : decode cX1_init 14 = .ok (.sipush 150, 3) := by decide +kernel
theorem dX1_init_17 : decode cX1_init 17 = .ok (.newarray .int, 2) := by decide +kernel
theorem dX1_init_19 : decode cX1_init 19 = .ok (.putfield 15, 3) := by decide +kernel
theorem dX1_init_22 : decode cX1_init 22 = .ok (.aload_n 0, 1) := by decide +kernel
theorem dX1_init_23 : decode cX1_init 23 = .ok (.sipush 150, 3) := by decide +kernel
theorem dX1_init_26 : decode cX1_init 26 = .ok (.newarray .int, 2) := by decide +kernel
theorem dX1_init_28 : decode cX1_init 28 = .ok (.putfield 18, 3) := by decide +kernel
theorem dX1_init_31 : decode cX1_init 31 = .ok (.aload_n 0, 1) := by decide +kernel
theorem dX1_init_32 : decode cX1_init 32 = .ok (.sipush 150, 3) := by decide +kernel
theorem dX1_init_35 : decode cX1_init 35 = .ok (.newarray .int, 2) := by decide +kernel
theorem dX1_init_37 : decode cX1_init 37 = .ok (.putfield 21, 3) := by decide +kernel
theorem dX1_init_40 : decode cX1_init 40 = .ok (.aload_n 0, 1) := by decide +kernel
theorem dX1_init_41 : decode cX1_init 41 = .ok (.sipush 151, 3) := by decide +kernel
theorem dX1_init_44 : decode cX1_init 44 = .ok (.newarray .int, 2) := by decide +kernel
theorem dX1_init_46 : decode cX1_init 46 = .ok (.putfield 24, 3) := by decide +kernel
theorem dX1_init_49 : decode cX1_init 49 = .ok (.aload_n 0, 1) := by decide +kernel
theorem dX1_init_50 : decode cX1_init 50 = .ok (.iconst 0, 1) := by decide +kernel
theorem dX1_init_51 : decode cX1_init 51 = .ok (.putfield 27, 3) := by decide +kernel
theorem dX1_init_54 : decode cX1_init 54 = .ok (.aload_n 0, 1) := by decide +kernel
theorem dX1_init_55 : decode cX1_init 55 = .ok (.iconst 0, 1) := by decide +kernel
theorem dX1_init_56 : decode cX1_init 56 = .ok (.putfield 31, 3) := by decide +kernel
theorem dX1_init_59 : decode cX1_init 59 = .ok (.return_, 1) := by decide +kernel
theorem dX1_sift_0 : decode cX1_sift 0 = .ok (.aload_n 0, 1) := by decide +kernel
theorem dX1_sift_1 : decode cX1_sift 1 = .ok (.getfield 9, 3) := by decide +kernel
theorem dX1_sift_4 : decode cX1_sift 4 = .ok (.bipush (-9), 2) := by decide +kernel
theorem dX1_sift_6 : decode cX1_sift 6 = .ok (.invokestatic 34, 3) := by decide +kernel
theorem dX1_sift_9 : decode cX1_sift 9 = .ok (.aload_n 0, 1) := by decide +kernel
theorem dX1_sift_10 : decode cX1_sift 10 = .ok (.getfield 24, 3) := by decide +kernel
theorem dX1_sift_13 : decode cX1_sift 13 = .ok (.iconst 0, 1) := by decide +kernel
theorem dX1_sift_14 : decode cX1_sift 14 = .ok (.invokestatic 34, 3) := by decide +kernel
theorem dX1_sift_17 : decode cX1_sift 17 = .ok (.aload_n 0, 1) := by decide +kernel
theorem dX1_sift_18 : decode cX1_sift 18 = .ok (.iconst 0, 1) := by decide +kernel
theorem dX1_sift_19 : decode cX1_sift 19 = .ok (.putfield 27, 3) := by decide +kernel
theorem dX1_sift_22 : decode cX1_sift 22 = .ok (.aload_n 0, 1) := by decide +kernel
theorem dX1_sift_23 : decode cX1_sift 23 = .ok (.iconst 0, 1) := by decide +kernel
theorem dX1_sift_24 : decode cX1_sift 24 = .ok (.putfield 31, 3) := by decide +kernel
theorem dX1_sift_27 : decode cX1_sift 27 = .ok (.aload_n 1, 1) := by decide +kernel
theorem dX1_sift_28 : decode cX1_sift 28 = .ok (.getfield 40, 3) := by decide +kernel
theorem dX1_sift_31 : decode cX1_sift 31 = .ok (.ifCond .eq 4, 3) := by decide +kernel
theorem dX1_sift_34 : decode cX1_sift 34 = .ok (.return_, 1) := by decide +kernel
theorem dX1_sift_35 : decode cX1_sift 35 = .ok (.aload_n 0, 1) := by decide +kernel
theorem dX1_sift_36 : decode cX1_sift 36 = .ok (.aload_n 1, 1) := by decide +kernel
theorem dX1_sift_37 : decode cX1_sift 37 = .ok (.iload_n 2, 1) := by decide +kernel
theorem dX1_sift_38 : decode cX1_sift 38 = .ok (.invokevirtual 46, 3) := by decide +kernel
theorem dX1_sift_41 : decode cX1_sift 41 = .ok (.aload_n 0, 1) := by decide +kernel
theorem dX1_sift_42 : decode cX1_sift 42 = .ok (.iconst 1, 1) := by decide +kernel
theorem dX1_sift_43 : decode cX1_sift 43 = .ok (.putfield 27, 3) := by decide +kernel
theorem dX1_sift_46 : decode cX1_sift 46 = .ok (.iconst 0, 1) := by decide +kernel
theorem dX1_sift_47 : decode cX1_sift 47 = .ok (.istore_n 3, 1) := by decide +kernel
theorem dX1_sift_48 : decode cX1_sift 48 = .ok (.iload_n 3, 1) := by decide +kernel
theorem dX1_sift_49 : decode cX1_sift 49 = .ok (.sipush 151, 3) := by decide +kernel
theorem dX1_sift_52 : decode cX1_sift 52 = .ok (.if_icmp .ge 57, 3) := by decide +kernel
theorem dX1_sift_55 : decode cX1_sift 55 = .ok (.aload_n 0, 1) := by decide +kernel
theorem dX1_sift_56 : decode cX1_sift 56 = .ok (.getfield 31, 3) := by decide +kernel
theorem dX1_sift_59 : decode cX1_sift 59 = .ok (.istore 4, 2) := by decide +kernel
theorem dX1_sift_61 : decode cX1_sift 61 = .ok (.aload_n 0, 1) := by decide +kernel
theorem dX1_sift_62 : decode cX1_sift 62 = .ok (.aload_n 1, 1) := by decide +kernel
theorem dX1_sift_63 : decode cX1_sift 63 = .ok (.iload_n 2, 1) := by decide +kernel
theorem dX1_sift_64 : decode cX1_sift 64 = .ok (.invokevirtual 50, 3) := by decide +kernel
theorem dX1_sift_67 : decode cX1_sift 67 = .ok (.aload_n 0, 1) := by decide +kernel
theorem dX1_sift_68 : decode cX1_sift 68 = .ok (.getfield 31, 3) := by decide +kernel
theorem dX1_sift_71 : decode cX1_sift 71 = .ok (.iload 4, 2) := by decide +kernel
theorem dX1_sift_73 : decode cX1_sift 73 = .ok (.if_icmp .ne 8, 3) := by decide +kernel
theorem dX1_sift_76 : decode cX1_sift 76 = .ok (.aload_n 0, 1) := by decide +kernel
theorem dX1_sift_77 : decode cX1_sift 77 = .ok (.aload_n 1, 1) := by decide +kernel
theorem dX1_sift_78 : decode cX1_sift 78 = .ok (.invokevirtual 53, 3) := by decide +kernel
theorem dX1_sift_81 : decode cX1_sift 81 = .ok (.aload_n 0, 1) := by decide +kernel
theorem dX1_sift_82 : decode cX1_sift 82 = .ok (.getfield 31, 3) := by decide +kernel
theorem dX1_sift_85 : decode cX1_sift 85 = .ok (.iload 4, 2) := by decide +kernel
theorem dX1_sift_87 : decode cX1_sift 87 = .ok (.if_icmp .ne 6, 3) := by decide +kernel
theorem dX1_sift_90 : decode cX1_sift 90 = .ok (.goto 19, 3) := by decide +kernel
theorem dX1_sift_93 : decode cX1_sift 93 = .ok (.aload_n 0, 1) := by decide +kernel
theorem dX1_sift_94 : decode cX1_sift 94 = .ok (.dup, 1) := by decide +kernel
theorem dX1_sift_95 : decode cX1_sift 95 = .ok (.getfield 27, 3) := by decide +kernel
theorem dX1_sift_98 : decode cX1_sift 98 = .ok (.iconst 1, 1) := by decide +kernel
theorem dX1_sift_99 : decode cX1_sift 99 = .ok (.iadd, 1) := by decide +kernel
theorem dX1_sift_100 : decode cX1_sift 100 = .ok (.putfield 27, 3) := by decide +kernel
theorem dX1_sift_103 : decode cX1_sift 103 = .ok (.iinc 3 1, 3) := by decide +kernel
theorem dX1_sift_106 : decode cX1_sift 106 = .ok (.goto (-58), 3) := by decide +kernel
theorem dX1_sift_109 : decode cX1_sift 109 = .ok (.return_, 1) := by decide +kernel
theorem dX1_loseClashing_0 : decode cX1_loseClashing 0 = .ok (.iconst 0, 1) := by decide +kernel
theorem dX1_loseClashing_1 : decode cX1_loseClashing 1 = .ok (.istore_n 3, 1) := by decide +kernel
theorem dX1_loseClashing_2 : decode cX1_loseClashing 2 = .ok (.iload_n 3, 1) := by decide +kernel
theorem dX1_loseClashing_3 : decode cX1_loseClashing 3 = .ok (.aload_n 1, 1) := by decide +kernel
theorem dX1_loseClashing_4 : decode cX1_loseClashing 4 = .ok (.getfield 57, 3) := by decide +kernel
theorem dX1_loseClashing_7 : decode cX1_loseClashing 7 = .ok (.if_icmp .ge 35, 3) := by decide +kernel
theorem dX1_loseClashing_10 : decode cX1_loseClashing 10 = .ok (.aload_n 1, 1) := by decide +kernel
theorem dX1_loseClashing_11 : decode cX1_loseClashing 11 = .ok (.iload_n 3, 1) := by decide +kernel
theorem dX1_loseClashing_12 : decode cX1_loseClashing 12 = .ok (.iload_n 2, 1) := by decide +kernel
theorem dX1_loseClashing_13 : decode cX1_loseClashing 13 = .ok (.invokevirtual 60, 3) := by decide +kernel
theorem dX1_loseClashing_16 : decode cX1_loseClashing 16 = .ok (.istore 4, 2) := by decide +kernel
theorem dX1_loseClashing_18 : decode cX1_loseClashing 18 = .ok (.iload 4, 2) := by decide +kernel
theorem dX1_loseClashing_20 : decode cX1_loseClashing 20 = .ok (.ifCond .eq 16, 3) := by decide +kernel
theorem dX1_loseClashing_23 : decode cX1_loseClashing 23 = .ok (.aload_n 0, 1) := by decide +kernel
theorem dX1_loseClashing_24 : decode cX1_loseClashing 24 = .ok (.iload_n 3, 1) := by decide +kernel
theorem dX1_loseClashing_25 : decode cX1_loseClashing 25 = .ok (.iconst 1, 1) := by decide +kernel
theorem dX1_loseClashing_26 : decode cX1_loseClashing 26 = .ok (.iload 4, 2) := by decide +kernel
theorem dX1_loseClashing_28 : decode cX1_loseClashing 28 = .ok (.invokestatic 64, 3) := by decide +kernel
theorem dX1_loseClashing_31 : decode cX1_loseClashing 31 = .ok (.bipush (-9), 2) := by decide +kernel
theorem dX1_loseClashing_33 : decode cX1_loseClashing 33 = .ok (.invokevirtual 68, 3) := by decide +kernel
theorem dX1_loseClashing_36 : decode cX1_loseClashing 36 = .ok (.iinc 3 1, 3) := by decide +kernel
theorem dX1_loseClashing_39 : decode cX1_loseClashing 39 = .ok (.goto (-37), 3) := by decide +kernel
theorem dX1_loseClashing_42 : decode cX1_loseClashing 42 = .ok (.return_, 1) := by decide +kernel
theorem dX1_losePushed_0 : decode cX1_losePushed 0 = .ok (.iconst 0, 1) := by decide +kernel
theorem dX1_losePushed_1 : decode cX1_losePushed 1 = .ok (.istore_n 3, 1) := by decide +kernel
theorem dX1_losePushed_2 : decode cX1_losePushed 2 = .ok (.iload_n 3, 1) := by decide +kernel
theorem dX1_losePushed_3 : decode cX1_losePushed 3 = .ok (.aload_n 1, 1) := by decide +kernel
theorem dX1_losePushed_4 : decode cX1_losePushed 4 = .ok (.getfield 57, 3) := by decide +kernel
theorem dX1_losePushed_7 : decode cX1_losePushed 7 = .ok (.if_icmp .ge 39, 3) := by decide +kernel
theorem dX1_losePushed_10 : decode cX1_losePushed 10 = .ok (.aload_n 1, 1) := by decide +kernel
theorem dX1_losePushed_11 : decode cX1_losePushed 11 = .ok (.iload_n 3, 1) := by decide +kernel
theorem dX1_losePushed_12 : decode cX1_losePushed 12 = .ok (.invokevirtual 72, 3) := by decide +kernel
theorem dX1_losePushed_15 : decode cX1_losePushed 15 = .ok (.iload_n 2, 1) := by decide +kernel
theorem dX1_losePushed_16 : decode cX1_losePushed 16 = .ok (.iand, 1) := by decide +kernel
theorem dX1_losePushed_17 : decode cX1_losePushed 17 = .ok (.istore 4, 2) := by decide +kernel
theorem dX1_losePushed_19 : decode cX1_losePushed 19 = .ok (.iload 4, 2) := by decide +kernel
theorem dX1_losePushed_21 : decode cX1_losePushed 21 = .ok (.ifCond .eq 19, 3) := by decide +kernel
theorem dX1_losePushed_24 : decode cX1_losePushed 24 = .ok (.aload_n 0, 1) := by decide +kernel
theorem dX1_losePushed_25 : decode cX1_losePushed 25 = .ok (.iload_n 3, 1) := by decide +kernel
theorem dX1_losePushed_26 : decode cX1_losePushed 26 = .ok (.invokevirtual 75, 3) := by decide +kernel
theorem dX1_losePushed_29 : decode cX1_losePushed 29 = .ok (.ifCond .ne 11, 3) := by decide +kernel
theorem dX1_losePushed_32 : decode cX1_losePushed 32 = .ok (.aload_n 0, 1) := by decide +kernel
theorem dX1_losePushed_33 : decode cX1_losePushed 33 = .ok (.aload_n 1, 1) := by decide +kernel
theorem dX1_losePushed_34 : decode cX1_losePushed 34 = .ok (.iload_n 3, 1) := by decide +kernel
theorem dX1_losePushed_35 : decode cX1_losePushed 35 = .ok (.iload 4, 2) := by decide +kernel
theorem dX1_losePushed_37 : decode cX1_losePushed 37 = .ok (.invokevirtual 79, 3) := by decide +kernel
theorem dX1_losePushed_40 : decode cX1_losePushed 40 = .ok (.iinc 3 1, 3) := by decide +kernel
theorem dX1_losePushed_43 : decode cX1_losePushed 43 = .ok (.goto (-41), 3) := by decide +kernel
theorem dX1_losePushed_46 : decode cX1_losePushed 46 = .ok (.return_, 1) := by decide +kernel
theorem dX1_losePushedBy_0 : decode cX1_losePushedBy 0 = .ok (.iconst 0, 1) := by decide +kernel
theorem dX1_losePushedBy_1 : decode cX1_losePushedBy 1 = .ok (.istore 4, 2) := by decide +kernel
theorem dX1_losePushedBy_3 : decode cX1_losePushedBy 3 = .ok (.iload 4, 2) := by decide +kernel
theorem dX1_losePushedBy_5 : decode cX1_losePushedBy 5 = .ok (.bipush 8, 2) := by decide +kernel
theorem dX1_losePushedBy_7 : decode cX1_losePushedBy 7 = .ok (.if_icmp .ge 48, 3) := by decide +kernel
theorem dX1_losePushedBy_10 : decode cX1_losePushedBy 10 = .ok (.iload_n 3, 1) := by decide +kernel
theorem dX1_losePushedBy_11 : decode cX1_losePushedBy 11 = .ok (.iload 4, 2) := by decide +kernel
theorem dX1_losePushedBy_13 : decode cX1_losePushedBy 13 = .ok (.invokestatic 83, 3) := by decide +kernel
theorem dX1_losePushedBy_16 : decode cX1_losePushedBy 16 = .ok (.ifCond .eq 33, 3) := by decide +kernel
theorem dX1_losePushedBy_19 : decode cX1_losePushedBy 19 = .ok (.aload_n 0, 1) := by decide +kernel
theorem dX1_losePushedBy_20 : decode cX1_losePushedBy 20 = .ok (.aload_n 1, 1) := by decide +kernel
theorem dX1_losePushedBy_21 : decode cX1_losePushedBy 21 = .ok (.iload_n 2, 1) := by decide +kernel
theorem dX1_losePushedBy_22 : decode cX1_losePushedBy 22 = .ok (.iload 4, 2) := by decide +kernel
theorem dX1_losePushedBy_24 : decode cX1_losePushedBy 24 = .ok (.invokevirtual 87, 3) := by decide +kernel
theorem dX1_losePushedBy_27 : decode cX1_losePushedBy 27 = .ok (.invokevirtual 90, 3) := by decide +kernel
theorem dX1_losePushedBy_30 : decode cX1_losePushedBy 30 = .ok (.ifCond .eq 19, 3) := by decide +kernel
theorem dX1_losePushedBy_33 : decode cX1_losePushedBy 33 = .ok (.aload_n 0, 1) := by decide +kernel
theorem dX1_losePushedBy_34 : decode cX1_losePushedBy 34 = .ok (.iload_n 2, 1) := by decide +kernel
theorem dX1_losePushedBy_35 : decode cX1_losePushedBy 35 = .ok (.iconst 2, 1) := by decide +kernel
theorem dX1_losePushedBy_36 : decode cX1_losePushedBy 36 = .ok (.iload 4, 2) := by decide +kernel
theorem dX1_losePushedBy_38 : decode cX1_losePushedBy 38 = .ok (.aload_n 1, 1) := by decide +kernel
theorem dX1_losePushedBy_39 : decode cX1_losePushedBy 39 = .ok (.iload_n 2, 1) := by decide +kernel
theorem dX1_losePushedBy_40 : decode cX1_losePushedBy 40 = .ok (.iload 4, 2) := by decide +kernel
theorem dX1_losePushedBy_42 : decode cX1_losePushedBy 42 = .ok (.invokevirtual 87, 3) := by decide +kernel
theorem dX1_losePushedBy_45 : decode cX1_losePushedBy 45 = .ok (.invokevirtual 68, 3) := by decide +kernel
theorem dX1_losePushedBy_48 : decode cX1_losePushedBy 48 = .ok (.return_, 1) := by decide +kernel
theorem dX1_losePushedBy_49 : decode cX1_losePushedBy 49 = .ok (.iinc 4 1, 3) := by decide +kernel
theorem dX1_losePushedBy_52 : decode cX1_losePushedBy 52 = .ok (.goto (-49), 3) := by decide +kernel
theorem dX1_losePushedBy_55 : decode cX1_losePushedBy 55 = .ok (.return_, 1) := by decide +kernel
theorem dX1_loseStuck_0 : decode cX1_loseStuck 0 = .ok (.aload_n 1, 1) := by decide +kernel
theorem dX1_loseStuck_1 : decode cX1_loseStuck 1 = .ok (.aload_n 0, 1) := by decide +kernel
theorem dX1_loseStuck_2 : decode cX1_loseStuck 2 = .ok (.getfield 9, 3) := by decide +kernel
theorem dX1_loseStuck_5 : decode cX1_loseStuck 5 = .ok (.invokevirtual 93, 3) := by decide +kernel
theorem dX1_loseStuck_8 : decode cX1_loseStuck 8 = .ok (.iconst 0, 1) := by decide +kernel
theorem dX1_loseStuck_9 : decode cX1_loseStuck 9 = .ok (.istore_n 2, 1) := by decide +kernel
theorem dX1_loseStuck_10 : decode cX1_loseStuck 10 = .ok (.iload_n 2, 1) := by decide +kernel
theorem dX1_loseStuck_11 : decode cX1_loseStuck 11 = .ok (.aload_n 1, 1) := by decide +kernel
theorem dX1_loseStuck_12 : decode cX1_loseStuck 12 = .ok (.getfield 57, 3) := by decide +kernel
theorem dX1_loseStuck_15 : decode cX1_loseStuck 15 = .ok (.if_icmp .ge 37, 3) := by decide +kernel
theorem dX1_loseStuck_18 : decode cX1_loseStuck 18 = .ok (.aload_n 0, 1) := by decide +kernel
theorem dX1_loseStuck_19 : decode cX1_loseStuck 19 = .ok (.iload_n 2, 1) := by decide +kernel
theorem dX1_loseStuck_20 : decode cX1_loseStuck 20 = .ok (.invokevirtual 75, 3) := by decide +kernel
theorem dX1_loseStuck_23 : decode cX1_loseStuck 23 = .ok (.ifCond .ne 23, 3) := by decide +kernel
theorem dX1_loseStuck_26 : decode cX1_loseStuck 26 = .ok (.aload_n 1, 1) := by decide +kernel
theorem dX1_loseStuck_27 : decode cX1_loseStuck 27 = .ok (.iload_n 2, 1) := by decide +kernel
theorem dX1_loseStuck_28 : decode cX1_loseStuck 28 = .ok (.invokevirtual 97, 3) := by decide +kernel
theorem dX1_loseStuck_31 : decode cX1_loseStuck 31 = .ok (.bipush (-9), 2) := by decide +kernel
theorem dX1_loseStuck_33 : decode cX1_loseStuck 33 = .ok (.if_icmp .ne 13, 3) := by decide +kernel
theorem dX1_loseStuck_36 : decode cX1_loseStuck 36 = .ok (.aload_n 0, 1) := by decide +kernel
theorem dX1_loseStuck_37 : decode cX1_loseStuck 37 = .ok (.iload_n 2, 1) := by decide +kernel
theorem dX1_loseStuck_38 : decode cX1_loseStuck 38 = .ok (.iconst 3, 1) := by decide +kernel
theorem dX1_loseStuck_39 : decode cX1_loseStuck 39 = .ok (.bipush (-9), 2) := by decide +kernel
theorem dX1_loseStuck_41 : decode cX1_loseStuck 41 = .ok (.bipush (-9), 2) := by decide +kernel
theorem dX1_loseStuck_43 : decode cX1_loseStuck 43 = .ok (.invokevirtual 68, 3) := by decide +kernel
theorem dX1_loseStuck_46 : decode cX1_loseStuck 46 = .ok (.iinc 2 1, 3) := by decide +kernel
theorem dX1_loseStuck_49 : decode cX1_loseStuck 49 = .ok (.goto (-39), 3) := by decide +kernel
theorem dX1_loseStuck_52 : decode cX1_loseStuck 52 = .ok (.return_, 1) := by decide +kernel
theorem dX1_lose_0 : decode cX1_lose 0 = .ok (.iload_n 1, 1) := by decide +kernel
theorem dX1_lose_1 : decode cX1_lose 1 = .ok (.invokestatic 100, 3) := by decide +kernel
theorem dX1_lose_4 : decode cX1_lose 4 = .ok (.ifCond .eq 13, 3) := by decide +kernel
theorem dX1_lose_7 : decode cX1_lose 7 = .ok (.aload_n 0, 1) := by decide +kernel
theorem dX1_lose_8 : decode cX1_lose 8 = .ok (.getfield 27, 3) := by decide +kernel
theorem dX1_lose_11 : decode cX1_lose 11 = .ok (.sipush 151, 3) := by decide +kernel
theorem dX1_lose_14 : decode cX1_lose 14 = .ok (.if_icmp .lt 4, 3) := by decide +kernel
theorem dX1_lose_17 : decode cX1_lose 17 = .ok (.return_, 1) := by decide +kernel
theorem dX1_lose_18 : decode cX1_lose 18 = .ok (.aload_n 0, 1) := by decide +kernel
theorem dX1_lose_19 : decode cX1_lose 19 = .ok (.getfield 9, 3) := by decide +kernel
theorem dX1_lose_22 : decode cX1_lose 22 = .ok (.iload_n 1, 1) := by decide +kernel
theorem dX1_lose_23 : decode cX1_lose 23 = .ok (.aload_n 0, 1) := by decide +kernel
theorem dX1_lose_24 : decode cX1_lose 24 = .ok (.getfield 27, 3) := by decide +kernel
theorem dX1_lose_27 : decode cX1_lose 27 = .ok (.iastore, 1) := by decide +kernel
theorem dX1_lose_28 : decode cX1_lose 28 = .ok (.aload_n 0, 1) := by decide +kernel
theorem dX1_lose_29 : decode cX1_lose 29 = .ok (.getfield 15, 3) := by decide +kernel
theorem dX1_lose_32 : decode cX1_lose 32 = .ok (.iload_n 1, 1) := by decide +kernel
theorem dX1_lose_33 : decode cX1_lose 33 = .ok (.iload_n 2, 1) := by decide +kernel
theorem dX1_lose_34 : decode cX1_lose 34 = .ok (.iastore, 1) := by decide +kernel
theorem dX1_lose_35 : decode cX1_lose 35 = .ok (.aload_n 0, 1) := by decide +kernel
theorem dX1_lose_36 : decode cX1_lose 36 = .ok (.getfield 18, 3) := by decide +kernel
theorem dX1_lose_39 : decode cX1_lose 39 = .ok (.iload_n 1, 1) := by decide +kernel
theorem dX1_lose_40 : decode cX1_lose 40 = .ok (.iload_n 3, 1) := by decide +kernel
theorem dX1_lose_41 : decode cX1_lose 41 = .ok (.iastore, 1) := by decide +kernel
theorem dX1_lose_42 : decode cX1_lose 42 = .ok (.aload_n 0, 1) := by decide +kernel
theorem dX1_lose_43 : decode cX1_lose 43 = .ok (.getfield 21, 3) := by decide +kernel
theorem dX1_lose_46 : decode cX1_lose 46 = .ok (.iload_n 1, 1) := by decide +kernel
theorem dX1_lose_47 : decode cX1_lose 47 = .ok (.iload 4, 2) := by decide +kernel
theorem dX1_lose_49 : decode cX1_lose 49 = .ok (.iastore, 1) := by decide +kernel
theorem dX1_lose_50 : decode cX1_lose 50 = .ok (.aload_n 0, 1) := by decide +kernel
theorem dX1_lose_51 : decode cX1_lose 51 = .ok (.getfield 24, 3) := by decide +kernel
theorem dX1_lose_54 : decode cX1_lose 54 = .ok (.aload_n 0, 1) := by decide +kernel
theorem dX1_lose_55 : decode cX1_lose 55 = .ok (.getfield 27, 3) := by decide +kernel
theorem dX1_lose_58 : decode cX1_lose 58 = .ok (.dup2, 1) := by decide +kernel
theorem dX1_lose_59 : decode cX1_lose 59 = .ok (.iaload, 1) := by decide +kernel
theorem dX1_lose_60 : decode cX1_lose 60 = .ok (.iconst 1, 1) := by decide +kernel
theorem dX1_lose_61 : decode cX1_lose 61 = .ok (.iadd, 1) := by decide +kernel
theorem dX1_lose_62 : decode cX1_lose 62 = .ok (.iastore, 1) := by decide +kernel
theorem dX1_lose_63 : decode cX1_lose 63 = .ok (.aload_n 0, 1) := by decide +kernel
theorem dX1_lose_64 : decode cX1_lose 64 = .ok (.dup, 1) := by decide +kernel
theorem dX1_lose_65 : decode cX1_lose 65 = .ok (.getfield 31, 3) := by decide +kernel
theorem dX1_lose_68 : decode cX1_lose 68 = .ok (.iconst 1, 1) := by decide +kernel
theorem dX1_lose_69 : decode cX1_lose 69 = .ok (.iadd, 1) := by decide +kernel
theorem dX1_lose_70 : decode cX1_lose 70 = .ok (.putfield 31, 3) := by decide +kernel
theorem dX1_lose_73 : decode cX1_lose 73 = .ok (.return_, 1) := by decide +kernel
theorem dX1_isLost_0 : decode cX1_isLost 0 = .ok (.aload_n 0, 1) := by decide +kernel
theorem dX1_isLost_1 : decode cX1_isLost 1 = .ok (.iload_n 1, 1) := by decide +kernel
theorem dX1_isLost_2 : decode cX1_isLost 2 = .ok (.invokevirtual 103, 3) := by decide +kernel
theorem dX1_isLost_5 : decode cX1_isLost 5 = .ok (.bipush (-9), 2) := by decide +kernel
theorem dX1_isLost_7 : decode cX1_isLost 7 = .ok (.if_icmp .eq 7, 3) := by decide +kernel
theorem dX1_isLost_10 : decode cX1_isLost 10 = .ok (.iconst 1, 1) := by decide +kernel
theorem dX1_isLost_11 : decode cX1_isLost 11 = .ok (.goto 4, 3) := by decide +kernel
theorem dX1_isLost_14 : decode cX1_isLost 14 = .ok (.iconst 0, 1) := by decide +kernel
theorem dX1_isLost_15 : decode cX1_isLost 15 = .ok (.ireturn, 1) := by decide +kernel
theorem dX1_isLostInEarlierWave_0 : decode cX1_isLostInEarlierWave 0 = .ok (.iload_n 1, 1) := by decide +kernel
theorem dX1_isLostInEarlierWave_1 : decode cX1_isLostInEarlierWave 1 = .ok (.invokestatic 100, 3) := by decide +kernel
theorem dX1_isLostInEarlierWave_4 : decode cX1_isLostInEarlierWave 4 = .ok (.ifCond .eq 31, 3) := by decide +kernel
theorem dX1_isLostInEarlierWave_7 : decode cX1_isLostInEarlierWave 7 = .ok (.aload_n 0, 1) := by decide +kernel
theorem dX1_isLostInEarlierWave_8 : decode cX1_isLostInEarlierWave 8 = .ok (.getfield 9, 3) := by decide +kernel
theorem dX1_isLostInEarlierWave_11 : decode cX1_isLostInEarlierWave 11 = .ok (.iload_n 1, 1) := by decide +kernel
theorem dX1_isLostInEarlierWave_12 : decode cX1_isLostInEarlierWave 12 = .ok (.iaload, 1) := by decide +kernel
theorem dX1_isLostInEarlierWave_13 : decode cX1_isLostInEarlierWave 13 = .ok (.bipush (-9), 2) := by decide +kernel
theorem dX1_isLostInEarlierWave_15 : decode cX1_isLostInEarlierWave 15 = .ok (.if_icmp .eq 20, 3) := by decide +kernel
theorem dX1_isLostInEarlierWave_18 : decode cX1_isLostInEarlierWave 18 = .ok (.aload_n 0, 1) := by decide +kernel
theorem dX1_isLostInEarlierWave_19 : decode cX1_isLostInEarlierWave 19 = .ok (.getfield 9, 3) := by decide +kernel
theorem dX1_isLostInEarlierWave_22 : decode cX1_isLostInEarlierWave 22 = .ok (.iload_n 1, 1) := by decide +kernel
theorem dX1_isLostInEarlierWave_23 : decode cX1_isLostInEarlierWave 23 = .ok (.iaload, 1) := by decide +kernel
theorem dX1_isLostInEarlierWave_24 : decode cX1_isLostInEarlierWave 24 = .ok (.aload_n 0, 1) := by decide +kernel
theorem dX1_isLostInEarlierWave_25 : decode cX1_isLostInEarlierWave 25 = .ok (.getfield 27, 3) := by decide +kernel
theorem dX1_isLostInEarlierWave_28 : decode cX1_isLostInEarlierWave 28 = .ok (.if_icmp .ge 7, 3) := by decide +kernel
theorem dX1_isLostInEarlierWave_31 : decode cX1_isLostInEarlierWave 31 = .ok (.iconst 1, 1) := by decide +kernel
theorem dX1_isLostInEarlierWave_32 : decode cX1_isLostInEarlierWave 32 = .ok (.goto 4, 3) := by decide +kernel
theorem dX1_isLostInEarlierWave_35 : decode cX1_isLostInEarlierWave 35 = .ok (.iconst 0, 1) := by decide +kernel
theorem dX1_isLostInEarlierWave_36 : decode cX1_isLostInEarlierWave 36 = .ok (.ireturn, 1) := by decide +kernel
theorem dX1_waveOf_0 : decode cX1_waveOf 0 = .ok (.iload_n 1, 1) := by decide +kernel
theorem dX1_waveOf_1 : decode cX1_waveOf 1 = .ok (.invokestatic 100, 3) := by decide +kernel
theorem dX1_waveOf_4 : decode cX1_waveOf 4 = .ok (.ifCond .eq 12, 3) := by decide +kernel
theorem dX1_waveOf_7 : decode cX1_waveOf 7 = .ok (.aload_n 0, 1) := by decide +kernel
theorem dX1_waveOf_8 : decode cX1_waveOf 8 = .ok (.getfield 9, 3) := by decide +kernel
theorem dX1_waveOf_11 : decode cX1_waveOf 11 = .ok (.iload_n 1, 1) := by decide +kernel
theorem dX1_waveOf_12 : decode cX1_waveOf 12 = .ok (.iaload, 1) := by decide +kernel
theorem dX1_waveOf_13 : decode cX1_waveOf 13 = .ok (.goto 5, 3) := by decide +kernel
theorem dX1_waveOf_16 : decode cX1_waveOf 16 = .ok (.bipush (-9), 2) := by decide +kernel
theorem dX1_waveOf_18 : decode cX1_waveOf 18 = .ok (.ireturn, 1) := by decide +kernel
theorem dX1_reasonOf_0 : decode cX1_reasonOf 0 = .ok (.aload_n 0, 1) := by decide +kernel
theorem dX1_reasonOf_1 : decode cX1_reasonOf 1 = .ok (.iload_n 1, 1) := by decide +kernel
theorem dX1_reasonOf_2 : decode cX1_reasonOf 2 = .ok (.invokevirtual 75, 3) := by decide +kernel
theorem dX1_reasonOf_5 : decode cX1_reasonOf 5 = .ok (.ifCond .eq 12, 3) := by decide +kernel
theorem dX1_reasonOf_8 : decode cX1_reasonOf 8 = .ok (.aload_n 0, 1) := by decide +kernel
theorem dX1_reasonOf_9 : decode cX1_reasonOf 9 = .ok (.getfield 15, 3) := by decide +kernel
theorem dX1_reasonOf_12 : decode cX1_reasonOf 12 = .ok (.iload_n 1, 1) := by decide +kernel
theorem dX1_reasonOf_13 : decode cX1_reasonOf 13 = .ok (.iaload, 1) := by decide +kernel
theorem dX1_reasonOf_14 : decode cX1_reasonOf 14 = .ok (.goto 5, 3) := by decide +kernel
theorem dX1_reasonOf_17 : decode cX1_reasonOf 17 = .ok (.bipush (-9), 2) := by decide +kernel
theorem dX1_reasonOf_19 : decode cX1_reasonOf 19 = .ok (.ireturn, 1) := by decide +kernel
theorem dX1_eventOf_0 : decode cX1_eventOf 0 = .ok (.aload_n 0, 1) := by decide +kernel
theorem dX1_eventOf_1 : decode cX1_eventOf 1 = .ok (.iload_n 1, 1) := by decide +kernel
theorem dX1_eventOf_2 : decode cX1_eventOf 2 = .ok (.invokevirtual 75, 3) := by decide +kernel
theorem dX1_eventOf_5 : decode cX1_eventOf 5 = .ok (.ifCond .eq 12, 3) := by decide +kernel
theorem dX1_eventOf_8 : decode cX1_eventOf 8 = .ok (.aload_n 0, 1) := by decide +kernel
theorem dX1_eventOf_9 : decode cX1_eventOf 9 = .ok (.getfield 18, 3) := by decide +kernel
theorem dX1_eventOf_12 : decode cX1_eventOf 12 = .ok (.iload_n 1, 1) := by decide +kernel
theorem dX1_eventOf_13 : decode cX1_eventOf 13 = .ok (.iaload, 1) := by decide +kernel
theorem dX1_eventOf_14 : decode cX1_eventOf 14 = .ok (.goto 5, 3) := by decide +kernel
theorem dX1_eventOf_17 : decode cX1_eventOf 17 = .ok (.bipush (-9), 2) := by decide +kernel
theorem dX1_eventOf_19 : decode cX1_eventOf 19 = .ok (.ireturn, 1) := by decide +kernel
theorem dX1_linkBehind_0 : decode cX1_linkBehind 0 = .ok (.aload_n 0, 1) := by decide +kernel
theorem dX1_linkBehind_1 : decode cX1_linkBehind 1 = .ok (.iload_n 1, 1) := by decide +kernel
theorem dX1_linkBehind_2 : decode cX1_linkBehind 2 = .ok (.invokevirtual 75, 3) := by decide +kernel
theorem dX1_linkBehind_5 : decode cX1_linkBehind 5 = .ok (.ifCond .eq 7, 3) := by decide +kernel
theorem dX1_linkBehind_8 : decode cX1_linkBehind 8 = .ok (.iload_n 1, 1) := by decide +kernel
theorem dX1_linkBehind_9 : decode cX1_linkBehind 9 = .ok (.goto 5, 3) := by decide +kernel
theorem dX1_linkBehind_12 : decode cX1_linkBehind 12 = .ok (.bipush (-9), 2) := by decide +kernel
theorem dX1_linkBehind_14 : decode cX1_linkBehind 14 = .ok (.istore_n 3, 1) := by decide +kernel
theorem dX1_linkBehind_15 : decode cX1_linkBehind 15 = .ok (.iconst 0, 1) := by decide +kernel
theorem dX1_linkBehind_16 : decode cX1_linkBehind 16 = .ok (.istore 4, 2) := by decide +kernel
theorem dX1_linkBehind_18 : decode cX1_linkBehind 18 = .ok (.iload 4, 2) := by decide +kernel
theorem dX1_linkBehind_20 : decode cX1_linkBehind 20 = .ok (.iload_n 2, 1) := by decide +kernel
theorem dX1_linkBehind_21 : decode cX1_linkBehind 21 = .ok (.if_icmp .ge 23, 3) := by decide +kernel
theorem dX1_linkBehind_24 : decode cX1_linkBehind 24 = .ok (.iload_n 3, 1) := by decide +kernel
theorem dX1_linkBehind_25 : decode cX1_linkBehind 25 = .ok (.invokestatic 100, 3) := by decide +kernel
theorem dX1_linkBehind_28 : decode cX1_linkBehind 28 = .ok (.ifCond .eq 16, 3) := by decide +kernel
theorem dX1_linkBehind_31 : decode cX1_linkBehind 31 = .ok (.aload_n 0, 1) := by decide +kernel
theorem dX1_linkBehind_32 : decode cX1_linkBehind 32 = .ok (.getfield 21, 3) := by decide +kernel
theorem dX1_linkBehind_35 : decode cX1_linkBehind 35 = .ok (.iload_n 3, 1) := by decide +kernel
theorem dX1_linkBehind_36 : decode cX1_linkBehind 36 = .ok (.iaload, 1) := by decide +kernel
theorem dX1_linkBehind_37 : decode cX1_linkBehind 37 = .ok (.istore_n 3, 1) := by decide +kernel
theorem dX1_linkBehind_38 : decode cX1_linkBehind 38 = .ok (.iinc 4 1, 3) := by decide +kernel
theorem dX1_linkBehind_41 : decode cX1_linkBehind 41 = .ok (.goto (-23), 3) := by decide +kernel
theorem dX1_linkBehind_44 : decode cX1_linkBehind 44 = .ok (.iload_n 3, 1) := by decide +kernel
theorem dX1_linkBehind_45 : decode cX1_linkBehind 45 = .ok (.ireturn, 1) := by decide +kernel
theorem dX1_hasWave_0 : decode cX1_hasWave 0 = .ok (.iload_n 1, 1) := by decide +kernel
theorem dX1_hasWave_1 : decode cX1_hasWave 1 = .ok (.ifCond .lt 15, 3) := by decide +kernel
theorem dX1_hasWave_4 : decode cX1_hasWave 4 = .ok (.iload_n 1, 1) := by decide +kernel
theorem dX1_hasWave_5 : decode cX1_hasWave 5 = .ok (.aload_n 0, 1) := by decide +kernel
theorem dX1_hasWave_6 : decode cX1_hasWave 6 = .ok (.getfield 27, 3) := by decide +kernel
theorem dX1_hasWave_9 : decode cX1_hasWave 9 = .ok (.if_icmp .ge 7, 3) := by decide +kernel
theorem dX1_hasWave_12 : decode cX1_hasWave 12 = .ok (.iconst 1, 1) := by decide +kernel
theorem dX1_hasWave_13 : decode cX1_hasWave 13 = .ok (.goto 4, 3) := by decide +kernel
theorem dX1_hasWave_16 : decode cX1_hasWave 16 = .ok (.iconst 0, 1) := by decide +kernel
theorem dX1_hasWave_17 : decode cX1_hasWave 17 = .ok (.ireturn, 1) := by decide +kernel
theorem dX1_sizeOfWave_0 : decode cX1_sizeOfWave 0 = .ok (.iload_n 1, 1) := by decide +kernel
theorem dX1_sizeOfWave_1 : decode cX1_sizeOfWave 1 = .ok (.ifCond .lt 19, 3) := by decide +kernel
theorem dX1_sizeOfWave_4 : decode cX1_sizeOfWave 4 = .ok (.iload_n 1, 1) := by decide +kernel
theorem dX1_sizeOfWave_5 : decode cX1_sizeOfWave 5 = .ok (.sipush 151, 3) := by decide +kernel
theorem dX1_sizeOfWave_8 : decode cX1_sizeOfWave 8 = .ok (.if_icmp .ge 12, 3) := by decide +kernel
theorem dX1_sizeOfWave_11 : decode cX1_sizeOfWave 11 = .ok (.aload_n 0, 1) := by decide +kernel
theorem dX1_sizeOfWave_12 : decode cX1_sizeOfWave 12 = .ok (.getfield 24, 3) := by decide +kernel
theorem dX1_sizeOfWave_15 : decode cX1_sizeOfWave 15 = .ok (.iload_n 1, 1) := by decide +kernel
theorem dX1_sizeOfWave_16 : decode cX1_sizeOfWave 16 = .ok (.iaload, 1) := by decide +kernel
theorem dX1_sizeOfWave_17 : decode cX1_sizeOfWave 17 = .ok (.goto 4, 3) := by decide +kernel
theorem dX1_sizeOfWave_20 : decode cX1_sizeOfWave 20 = .ok (.iconst 0, 1) := by decide +kernel
theorem dX1_sizeOfWave_21 : decode cX1_sizeOfWave 21 = .ok (.ireturn, 1) := by decide +kernel
theorem dX2_init_0 : decode cX2_init 0 = .ok (.aload_n 0, 1) := by decide +kernel
theorem dX2_init_1 : decode cX2_init 1 = .ok (.invokespecial 3, 3) := by decide +kernel
theorem dX2_init_4 : decode cX2_init 4 = .ok (.aload_n 0, 1) := by decide +kernel
theorem dX2_init_5 : decode cX2_init 5 = .ok (.bipush 48, 2) := by decide +kernel
theorem dX2_init_7 : decode cX2_init 7 = .ok (.newarray .int, 2) := by decide +kernel
theorem dX2_init_9 : decode cX2_init 9 = .ok (.putfield 9, 3) := by decide +kernel
theorem dX2_init_12 : decode cX2_init 12 = .ok (.aload_n 0, 1) := by decide +kernel
theorem dX2_init_13 : decode cX2_init 13 = .ok (.bipush 6, 2) := by decide +kernel
theorem dX2_init_15 : decode cX2_init 15 = .ok (.newarray .int, 2) := by decide +kernel
theorem dX2_init_17 : decode cX2_init 17 = .ok (.putfield 15, 3) := by decide +kernel
theorem dX2_init_20 : decode cX2_init 20 = .ok (.aload_n 0, 1) := by decide +kernel
theorem dX2_init_21 : decode cX2_init 21 = .ok (.iconst 0, 1) := by decide +kernel
theorem dX2_init_22 : decode cX2_init 22 = .ok (.putfield 18, 3) := by decide +kernel
theorem dX2_init_25 : decode cX2_init 25 = .ok (.aload_n 0, 1) := by decide +kernel
theorem dX2_init_26 : decode cX2_init 26 = .ok (.iconst 0, 1) := by decide +kernel
theorem dX2_init_27 : decode cX2_init 27 = .ok (.putfield 22, 3) := by decide +kernel
theorem dX2_init_30 : decode cX2_init 30 = .ok (.aload_n 0, 1) := by decide +kernel
theorem dX2_init_31 : decode cX2_init 31 = .ok (.iconst 0, 1) := by decide +kernel
theorem dX2_init_32 : decode cX2_init 32 = .ok (.putfield 25, 3) := by decide +kernel
theorem dX2_init_35 : decode cX2_init 35 = .ok (.aload_n 0, 1) := by decide +kernel
theorem dX2_init_36 : decode cX2_init 36 = .ok (.iconst 0, 1) := by decide +kernel
theorem dX2_init_37 : decode cX2_init 37 = .ok (.putfield 28, 3) := by decide +kernel
theorem dX2_init_40 : decode cX2_init 40 = .ok (.aload_n 0, 1) := by decide +kernel
theorem dX2_init_41 : decode cX2_init 41 = .ok (.iconst 0, 1) := by decide +kernel
theorem dX2_init_42 : decode cX2_init 42 = .ok (.putfield 31, 3) := by decide +kernel
theorem dX2_init_45 : decode cX2_init 45 = .ok (.return_, 1) := by decide +kernel
theorem dX2_clear_0 : decode cX2_clear 0 = .ok (.aload_n 0, 1) := by decide +kernel
theorem dX2_clear_1 : decode cX2_clear 1 = .ok (.getfield 9, 3) := by decide +kernel
theorem dX2_clear_4 : decode cX2_clear 4 = .ok (.bipush (-9), 2) := by decide +kernel
theorem dX2_clear_6 : decode cX2_clear 6 = .ok (.invokestatic 34, 3) := by decide +kernel
theorem dX2_clear_9 : decode cX2_clear 9 = .ok (.aload_n 0, 1) := by decide +kernel
theorem dX2_clear_10 : decode cX2_clear 10 = .ok (.getfield 15, 3) := by decide +kernel
theorem dX2_clear_13 : decode cX2_clear 13 = .ok (.iconst 0, 1) := by decide +kernel
theorem dX2_clear_14 : decode cX2_clear 14 = .ok (.invokestatic 34, 3) := by decide +kernel
theorem dX2_clear_17 : decode cX2_clear 17 = .ok (.aload_n 0, 1) := by decide +kernel
theorem dX2_clear_18 : decode cX2_clear 18 = .ok (.iload_n 1, 1) := by decide +kernel
theorem dX2_clear_19 : decode cX2_clear 19 = .ok (.putfield 18, 3) := by decide +kernel
theorem dX2_clear_22 : decode cX2_clear 22 = .ok (.aload_n 0, 1) := by decide +kernel
theorem dX2_clear_23 : decode cX2_clear 23 = .ok (.iconst 0, 1) := by decide +kernel
theorem dX2_clear_24 : decode cX2_clear 24 = .ok (.putfield 22, 3) := by decide +kernel
theorem dX2_clear_27 : decode cX2_clear 27 = .ok (.aload_n 0, 1) := by decide +kernel
theorem dX2_clear_28 : decode cX2_clear 28 = .ok (.iconst 0, 1) := by decide +kernel
theorem dX2_clear_29 : decode cX2_clear 29 = .ok (.putfield 25, 3) := by decide +kernel
theorem dX2_clear_32 : decode cX2_clear 32 = .ok (.aload_n 0, 1) := by decide +kernel
theorem dX2_clear_33 : decode cX2_clear 33 = .ok (.iconst 0, 1) := by decide +kernel
theorem dX2_clear_34 : decode cX2_clear 34 = .ok (.putfield 28, 3) := by decide +kernel
theorem dX2_clear_37 : decode cX2_clear 37 = .ok (.aload_n 0, 1) := by decide +kernel
theorem dX2_clear_38 : decode cX2_clear 38 = .ok (.iconst 0, 1) := by decide +kernel
theorem dX2_clear_39 : decode cX2_clear 39 = .ok (.putfield 31, 3) := by decide +kernel
theorem dX2_clear_42 : decode cX2_clear 42 = .ok (.return_, 1) := by decide +kernel
theorem dX2_tellStep_0 : decode cX2_tellStep 0 = .ok (.iload_n 1, 1) := by decide +kernel
theorem dX2_tellStep_1 : decode cX2_tellStep 1 = .ok (.invokestatic 40, 3) := by decide +kernel
theorem dX2_tellStep_4 : decode cX2_tellStep 4 = .ok (.ifCond .eq 17, 3) := by decide +kernel
theorem dX2_tellStep_7 : decode cX2_tellStep 7 = .ok (.iload_n 2, 1) := by decide +kernel
theorem dX2_tellStep_8 : decode cX2_tellStep 8 = .ok (.invokestatic 44, 3) := by decide +kernel
theorem dX2_tellStep_11 : decode cX2_tellStep 11 = .ok (.ifCond .eq 10, 3) := by decide +kernel
theorem dX2_tellStep_14 : decode cX2_tellStep 14 = .ok (.iload_n 3, 1) := by decide +kernel
theorem dX2_tellStep_15 : decode cX2_tellStep 15 = .ok (.invokestatic 40, 3) := by decide +kernel
theorem dX2_tellStep_18 : decode cX2_tellStep 18 = .ok (.ifCond .ne 5, 3) := by decide +kernel
theorem dX2_tellStep_21 : decode cX2_tellStep 21 = .ok (.iconst 0, 1) := by decide +kernel
theorem dX2_tellStep_22 : decode cX2_tellStep 22 = .ok (.ireturn, 1) := by decide +kernel
theorem dX2_tellStep_23 : decode cX2_tellStep 23 = .ok (.aload_n 0, 1) := by decide +kernel
theorem dX2_tellStep_24 : decode cX2_tellStep 24 = .ok (.getfield 9, 3) := by decide +kernel
theorem dX2_tellStep_27 : decode cX2_tellStep 27 = .ok (.iload_n 1, 1) := by decide +kernel
theorem dX2_tellStep_28 : decode cX2_tellStep 28 = .ok (.bipush 8, 2) := by decide +kernel
theorem dX2_tellStep_30 : decode cX2_tellStep 30 = .ok (.imul, 1) := by decide +kernel
theorem dX2_tellStep_31 : decode cX2_tellStep 31 = .ok (.iload_n 2, 1) := by decide +kernel
theorem dX2_tellStep_32 : decode cX2_tellStep 32 = .ok (.iadd, 1) := by decide +kernel
theorem dX2_tellStep_33 : decode cX2_tellStep 33 = .ok (.iaload, 1) := by decide +kernel
theorem dX2_tellStep_34 : decode cX2_tellStep 34 = .ok (.istore 4, 2) := by decide +kernel
theorem dX2_tellStep_36 : decode cX2_tellStep 36 = .ok (.iload 4, 2) := by decide +kernel
theorem dX2_tellStep_38 : decode cX2_tellStep 38 = .ok (.bipush (-9), 2) := by decide +kernel
theorem dX2_tellStep_40 : decode cX2_tellStep 40 = .ok (.if_icmp .eq 15, 3) := by decide +kernel
theorem dX2_tellStep_43 : decode cX2_tellStep 43 = .ok (.iload 4, 2) := by decide +kernel
theorem dX2_tellStep_45 : decode cX2_tellStep 45 = .ok (.iload_n 3, 1) := by decide +kernel
theorem dX2_tellStep_46 : decode cX2_tellStep 46 = .ok (.if_icmp .ne 7, 3) := by decide +kernel
theorem dX2_tellStep_49 : decode cX2_tellStep 49 = .ok (.iconst 1, 1) := by decide +kernel
theorem dX2_tellStep_50 : decode cX2_tellStep 50 = .ok (.goto 4, 3) := by decide +kernel
theorem dX2_tellStep_53 : decode cX2_tellStep 53 = .ok (.iconst 0, 1) := by decide +kernel
theorem dX2_tellStep_54 : decode cX2_tellStep 54 = .ok (.ireturn, 1) := by decide +kernel
theorem dX2_tellStep_55 : decode cX2_tellStep 55 = .ok (.aload_n 0, 1) := by decide +kernel
theorem dX2_tellStep_56 : decode cX2_tellStep 56 = .ok (.getfield 9, 3) := by decide +kernel
theorem dX2_tellStep_59 : decode cX2_tellStep 59 = .ok (.iload_n 1, 1) := by decide +kernel
theorem dX2_tellStep_60 : decode cX2_tellStep 60 = .ok (.bipush 8, 2) := by decide +kernel
theorem dX2_tellStep_62 : decode cX2_tellStep 62 = .ok (.imul, 1) := by decide +kernel
theorem dX2_tellStep_63 : decode cX2_tellStep 63 = .ok (.iload_n 2, 1) := by decide +kernel
theorem dX2_tellStep_64 : decode cX2_tellStep 64 = .ok (.iadd, 1) := by decide +kernel
theorem dX2_tellStep_65 : decode cX2_tellStep 65 = .ok (.iload_n 3, 1) := by decide +kernel
theorem dX2_tellStep_66 : decode cX2_tellStep 66 = .ok (.iastore, 1) := by decide +kernel
theorem dX2_tellStep_67 : decode cX2_tellStep 67 = .ok (.aload_n 0, 1) := by decide +kernel
theorem dX2_tellStep_68 : decode cX2_tellStep 68 = .ok (.getfield 15, 3) := by decide +kernel
theorem dX2_tellStep_71 : decode cX2_tellStep 71 = .ok (.iload_n 1, 1) := by decide +kernel
theorem dX2_tellStep_72 : decode cX2_tellStep 72 = .ok (.dup2, 1) := by decide +kernel
theorem dX2_tellStep_73 : decode cX2_tellStep 73 = .ok (.iaload, 1) := by decide +kernel
theorem dX2_tellStep_74 : decode cX2_tellStep 74 = .ok (.iconst 1, 1) := by decide +kernel
theorem dX2_tellStep_75 : decode cX2_tellStep 75 = .ok (.iload_n 2, 1) := by decide +kernel
theorem dX2_tellStep_76 : decode cX2_tellStep 76 = .ok (.ishl, 1) := by decide +kernel
theorem dX2_tellStep_77 : decode cX2_tellStep 77 = .ok (.ior, 1) := by decide +kernel
theorem dX2_tellStep_78 : decode cX2_tellStep 78 = .ok (.iastore, 1) := by decide +kernel
theorem dX2_tellStep_79 : decode cX2_tellStep 79 = .ok (.aload_n 0, 1) := by decide +kernel
theorem dX2_tellStep_80 : decode cX2_tellStep 80 = .ok (.dup, 1) := by decide +kernel
theorem dX2_tellStep_81 : decode cX2_tellStep 81 = .ok (.getfield 22, 3) := by decide +kernel
theorem dX2_tellStep_84 : decode cX2_tellStep 84 = .ok (.iconst 1, 1) := by decide +kernel
theorem dX2_tellStep_85 : decode cX2_tellStep 85 = .ok (.iload_n 2, 1) := by decide +kernel
theorem dX2_tellStep_86 : decode cX2_tellStep 86 = .ok (.ishl, 1) := by decide +kernel
theorem dX2_tellStep_87 : decode cX2_tellStep 87 = .ok (.ior, 1) := by decide +kernel
theorem dX2_tellStep_88 : decode cX2_tellStep 88 = .ok (.putfield 22, 3) := by decide +kernel
theorem dX2_tellStep_91 : decode cX2_tellStep 91 = .ok (.aload_n 0, 1) := by decide +kernel
theorem dX2_tellStep_92 : decode cX2_tellStep 92 = .ok (.dup, 1) := by decide +kernel
theorem dX2_tellStep_93 : decode cX2_tellStep 93 = .ok (.getfield 28, 3) := by decide +kernel
theorem dX2_tellStep_96 : decode cX2_tellStep 96 = .ok (.iconst 1, 1) := by decide +kernel
theorem dX2_tellStep_97 : decode cX2_tellStep 97 = .ok (.iadd, 1) := by decide +kernel
theorem dX2_tellStep_98 : decode cX2_tellStep 98 = .ok (.putfield 28, 3) := by decide +kernel
theorem dX2_tellStep_101 : decode cX2_tellStep 101 = .ok (.aload_n 0, 1) := by decide +kernel
theorem dX2_tellStep_102 : decode cX2_tellStep 102 = .ok (.aload_n 0, 1) := by decide +kernel
theorem dX2_tellStep_103 : decode cX2_tellStep 103 = .ok (.getfield 31, 3) := by decide +kernel
theorem dX2_tellStep_106 : decode cX2_tellStep 106 = .ok (.iload_n 1, 1) := by decide +kernel
theorem dX2_tellStep_107 : decode cX2_tellStep 107 = .ok (.iload_n 3, 1) := by decide +kernel
theorem dX2_tellStep_108 : decode cX2_tellStep 108 = .ok (.invokestatic 47, 3) := by decide +kernel
theorem dX2_tellStep_111 : decode cX2_tellStep 111 = .ok (.invokestatic 47, 3) := by decide +kernel
theorem dX2_tellStep_114 : decode cX2_tellStep 114 = .ok (.putfield 31, 3) := by decide +kernel
theorem dX2_tellStep_117 : decode cX2_tellStep 117 = .ok (.iconst 1, 1) := by decide +kernel
theorem dX2_tellStep_118 : decode cX2_tellStep 118 = .ok (.ireturn, 1) := by decide +kernel
theorem dX2_tellMarked_0 : decode cX2_tellMarked 0 = .ok (.iload_n 1, 1) := by decide +kernel
theorem dX2_tellMarked_1 : decode cX2_tellMarked 1 = .ok (.invokestatic 40, 3) := by decide +kernel
theorem dX2_tellMarked_4 : decode cX2_tellMarked 4 = .ok (.ifCond .ne 5, 3) := by decide +kernel
theorem dX2_tellMarked_7 : decode cX2_tellMarked 7 = .ok (.iconst 0, 1) := by decide +kernel
theorem dX2_tellMarked_8 : decode cX2_tellMarked 8 = .ok (.ireturn, 1) := by decide +kernel
theorem dX2_tellMarked_9 : decode cX2_tellMarked 9 = .ok (.aload_n 0, 1) := by decide +kernel
theorem dX2_tellMarked_10 : decode cX2_tellMarked 10 = .ok (.dup, 1) := by decide +kernel
theorem dX2_tellMarked_11 : decode cX2_tellMarked 11 = .ok (.getfield 25, 3) := by decide +kernel
theorem dX2_tellMarked_14 : decode cX2_tellMarked 14 = .ok (.iconst 1, 1) := by decide +kernel
theorem dX2_tellMarked_15 : decode cX2_tellMarked 15 = .ok (.iload_n 1, 1) := by decide +kernel
theorem dX2_tellMarked_16 : decode cX2_tellMarked 16 = .ok (.ishl, 1) := by decide +kernel
theorem dX2_tellMarked_17 : decode cX2_tellMarked 17 = .ok (.ior, 1) := by decide +kernel
theorem dX2_tellMarked_18 : decode cX2_tellMarked 18 = .ok (.putfield 25, 3) := by decide +kernel
theorem dX2_tellMarked_21 : decode cX2_tellMarked 21 = .ok (.aload_n 0, 1) := by decide +kernel
theorem dX2_tellMarked_22 : decode cX2_tellMarked 22 = .ok (.aload_n 0, 1) := by decide +kernel
theorem dX2_tellMarked_23 : decode cX2_tellMarked 23 = .ok (.getfield 31, 3) := by decide +kernel
theorem dX2_tellMarked_26 : decode cX2_tellMarked 26 = .ok (.iload_n 1, 1) := by decide +kernel
theorem dX2_tellMarked_27 : decode cX2_tellMarked 27 = .ok (.invokestatic 47, 3) := by decide +kernel
theorem dX2_tellMarked_30 : decode cX2_tellMarked 30 = .ok (.putfield 31, 3) := by decide +kernel
theorem dX2_tellMarked_33 : decode cX2_tellMarked 33 = .ok (.iconst 1, 1) := by decide +kernel
theorem dX2_tellMarked_34 : decode cX2_tellMarked 34 = .ok (.ireturn, 1) := by decide +kernel
theorem dX2_tellEvent_0 : decode cX2_tellEvent 0 = .ok (.iload_n 1, 1) := by decide +kernel
theorem dX2_tellEvent_1 : decode cX2_tellEvent 1 = .ok (.invokestatic 44, 3) := by decide +kernel
theorem dX2_tellEvent_4 : decode cX2_tellEvent 4 = .ok (.ifCond .ne 5, 3) := by decide +kernel
theorem dX2_tellEvent_7 : decode cX2_tellEvent 7 = .ok (.iconst 0, 1) := by decide +kernel
theorem dX2_tellEvent_8 : decode cX2_tellEvent 8 = .ok (.ireturn, 1) := by decide +kernel
theorem dX2_tellEvent_9 : decode cX2_tellEvent 9 = .ok (.aload_n 0, 1) := by decide +kernel
theorem dX2_tellEvent_10 : decode cX2_tellEvent 10 = .ok (.dup, 1) := by decide +kernel
theorem dX2_tellEvent_11 : decode cX2_tellEvent 11 = .ok (.getfield 22, 3) := by decide +kernel
theorem dX2_tellEvent_14 : decode cX2_tellEvent 14 = .ok (.iconst 1, 1) := by decide +kernel
theorem dX2_tellEvent_15 : decode cX2_tellEvent 15 = .ok (.iload_n 1, 1) := by decide +kernel
theorem dX2_tellEvent_16 : decode cX2_tellEvent 16 = .ok (.ishl, 1) := by decide +kernel
theorem dX2_tellEvent_17 : decode cX2_tellEvent 17 = .ok (.ior, 1) := by decide +kernel
theorem dX2_tellEvent_18 : decode cX2_tellEvent 18 = .ok (.putfield 22, 3) := by decide +kernel
theorem dX2_tellEvent_21 : decode cX2_tellEvent 21 = .ok (.iconst 1, 1) := by decide +kernel
theorem dX2_tellEvent_22 : decode cX2_tellEvent 22 = .ok (.ireturn, 1) := by decide +kernel
theorem dX2_target_0 : decode cX2_target 0 = .ok (.iload_n 1, 1) := by decide +kernel
theorem dX2_target_1 : decode cX2_target 1 = .ok (.invokestatic 40, 3) := by decide +kernel
theorem dX2_target_4 : decode cX2_target 4 = .ok (.ifCond .eq 24, 3) := by decide +kernel
theorem dX2_target_7 : decode cX2_target 7 = .ok (.iload_n 2, 1) := by decide +kernel
theorem dX2_target_8 : decode cX2_target 8 = .ok (.invokestatic 44, 3) := by decide +kernel
theorem dX2_target_11 : decode cX2_target 11 = .ok (.ifCond .eq 17, 3) := by decide +kernel
theorem dX2_target_14 : decode cX2_target 14 = .ok (.aload_n 0, 1) := by decide +kernel
theorem dX2_target_15 : decode cX2_target 15 = .ok (.getfield 9, 3) := by decide +kernel
theorem dX2_target_18 : decode cX2_target 18 = .ok (.iload_n 1, 1) := by decide +kernel
theorem dX2_target_19 : decode cX2_target 19 = .ok (.bipush 8, 2) := by decide +kernel
theorem dX2_target_21 : decode cX2_target 21 = .ok (.imul, 1) := by decide +kernel
theorem dX2_target_22 : decode cX2_target 22 = .ok (.iload_n 2, 1) := by decide +kernel
theorem dX2_target_23 : decode cX2_target 23 = .ok (.iadd, 1) := by decide +kernel
theorem dX2_target_24 : decode cX2_target 24 = .ok (.iaload, 1) := by decide +kernel
theorem dX2_target_25 : decode cX2_target 25 = .ok (.goto 5, 3) := by decide +kernel
theorem dX2_target_28 : decode cX2_target 28 = .ok (.bipush (-9), 2) := by decide +kernel
theorem dX2_target_30 : decode cX2_target 30 = .ok (.ireturn, 1) := by decide +kernel
theorem dX2_missingSet_0 : decode cX2_missingSet 0 = .ok (.iload_n 1, 1) := by decide +kernel
theorem dX2_missingSet_1 : decode cX2_missingSet 1 = .ok (.invokestatic 40, 3) := by decide +kernel
theorem dX2_missingSet_4 : decode cX2_missingSet 4 = .ok (.ifCond .eq 19, 3) := by decide +kernel
theorem dX2_missingSet_7 : decode cX2_missingSet 7 = .ok (.aload_n 0, 1) := by decide +kernel
theorem dX2_missingSet_8 : decode cX2_missingSet 8 = .ok (.getfield 22, 3) := by decide +kernel
theorem dX2_missingSet_11 : decode cX2_missingSet 11 = .ok (.aload_n 0, 1) := by decide +kernel
theorem dX2_missingSet_12 : decode cX2_missingSet 12 = .ok (.getfield 15, 3) := by decide +kernel
theorem dX2_missingSet_15 : decode cX2_missingSet 15 = .ok (.iload_n 1, 1) := by decide +kernel
theorem dX2_missingSet_16 : decode cX2_missingSet 16 = .ok (.iaload, 1) := by decide +kernel
theorem dX2_missingSet_17 : decode cX2_missingSet 17 = .ok (.iconst (-1), 1) := by decide +kernel
theorem dX2_missingSet_18 : decode cX2_missingSet 18 = .ok (.ixor, 1) := by decide +kernel
theorem dX2_missingSet_19 : decode cX2_missingSet 19 = .ok (.iand, 1) := by decide +kernel
theorem dX2_missingSet_20 : decode cX2_missingSet 20 = .ok (.goto 4, 3) := by decide +kernel
theorem dX2_missingSet_23 : decode cX2_missingSet 23 = .ok (.iconst 0, 1) := by decide +kernel
theorem dX2_missingSet_24 : decode cX2_missingSet 24 = .ok (.ireturn, 1) := by decide +kernel
theorem dX3_init_0 : decode cX3_init 0 = .ok (.aload_n 0, 1) := by decide +kernel
theorem dX3_init_1 : decode cX3_init 1 = .ok (.invokespecial 3, 3) := by decide +kernel
theorem dX3_init_4 : decode cX3_init 4 = .ok (.aload_n 0, 1) := by decide +kernel
theorem dX3_init_5 : decode cX3_init 5 = .ok (.sipush 150, 3) := by decide +kernel
theorem dX3_init_8 : decode cX3_init 8 = .ok (.newarray .int, 2) := by decide +kernel
theorem dX3_init_10 : decode cX3_init 10 = .ok (.putfield 9, 3) := by decide +kernel
theorem dX3_init_13 : decode cX3_init 13 = .ok (.aload_n 0, 1) := by decide +kernel
theorem dX3_init_14 : decode cX3_init 14 = .ok (.sipush 150, 3) := by decide +kernel
theorem dX3_init_17 : decode cX3_init 17 = .ok (.newarray .int, 2) := by decide +kernel
theorem dX3_init_19 : decode cX3_init 19 = .ok (.putfield 15, 3) := by decide +kernel
theorem dX3_init_22 : decode cX3_init 22 = .ok (.aload_n 0, 1) := by decide +kernel
theorem dX3_init_23 : decode cX3_init 23 = .ok (.sipush 150, 3) := by decide +kernel
theorem dX3_init_26 : decode cX3_init 26 = .ok (.newarray .int, 2) := by decide +kernel
theorem dX3_init_28 : decode cX3_init 28 = .ok (.putfield 18, 3) := by decide +kernel
theorem dX3_init_31 : decode cX3_init 31 = .ok (.aload_n 0, 1) := by decide +kernel
theorem dX3_init_32 : decode cX3_init 32 = .ok (.sipush 150, 3) := by decide +kernel
theorem dX3_init_35 : decode cX3_init 35 = .ok (.newarray .boolean, 2) := by decide +kernel
theorem dX3_init_37 : decode cX3_init 37 = .ok (.putfield 21, 3) := by decide +kernel
theorem dX3_init_40 : decode cX3_init 40 = .ok (.aload_n 0, 1) := by decide +kernel
theorem dX3_init_41 : decode cX3_init 41 = .ok (.sipush 1200, 3) := by decide +kernel
theorem dX3_init_44 : decode cX3_init 44 = .ok (.newarray .int, 2) := by decide +kernel
theorem dX3_init_46 : decode cX3_init 46 = .ok (.putfield 25, 3) := by decide +kernel
theorem dX3_init_49 : decode cX3_init 49 = .ok (.aload_n 0, 1) := by decide +kernel
theorem dX3_init_50 : decode cX3_init 50 = .ok (.sipush 150, 3) := by decide +kernel
theorem dX3_init_53 : decode cX3_init 53 = .ok (.newarray .int, 2) := by decide +kernel
theorem dX3_init_55 : decode cX3_init 55 = .ok (.putfield 28, 3) := by decide +kernel
theorem dX3_init_58 : decode cX3_init 58 = .ok (.aload_n 0, 1) := by decide +kernel
theorem dX3_init_59 : decode cX3_init 59 = .ok (.sipush 1200, 3) := by decide +kernel
theorem dX3_init_62 : decode cX3_init 62 = .ok (.newarray .int, 2) := by decide +kernel
theorem dX3_init_64 : decode cX3_init 64 = .ok (.putfield 31, 3) := by decide +kernel
theorem dX3_init_67 : decode cX3_init 67 = .ok (.aload_n 0, 1) := by decide +kernel
theorem dX3_init_68 : decode cX3_init 68 = .ok (.sipush 256, 3) := by decide +kernel
theorem dX3_init_71 : decode cX3_init 71 = .ok (.newarray .int, 2) := by decide +kernel
theorem dX3_init_73 : decode cX3_init 73 = .ok (.putfield 34, 3) := by decide +kernel
theorem dX3_init_76 : decode cX3_init 76 = .ok (.aload_n 0, 1) := by decide +kernel
theorem dX3_init_77 : decode cX3_init 77 = .ok (.sipush 150, 3) := by decide +kernel
theorem dX3_init_80 : decode cX3_init 80 = .ok (.newarray .int, 2) := by decide +kernel
theorem dX3_init_82 : decode cX3_init 82 = .ok (.putfield 37, 3) := by decide +kernel
theorem dX3_init_85 : decode cX3_init 85 = .ok (.aload_n 0, 1) := by decide +kernel
theorem dX3_init_86 : decode cX3_init 86 = .ok (.sipush 150, 3) := by decide +kernel
theorem dX3_init_89 : decode cX3_init 89 = .ok (.newarray .int, 2) := by decide +kernel
theorem dX3_init_91 : decode cX3_init 91 = .ok (.putfield 40, 3) := by decide +kernel
theorem dX3_init_94 : decode cX3_init 94 = .ok (.aload_n 0, 1) := by decide +kernel
theorem dX3_init_95 : decode cX3_init 95 = .ok (.iconst 0, 1) := by decide +kernel
theorem dX3_init_96 : decode cX3_init 96 = .ok (.putfield 43, 3) := by decide +kernel
theorem dX3_init_99 : decode cX3_init 99 = .ok (.aload_n 0, 1) := by decide +kernel
theorem dX3_init_100 : decode cX3_init 100 = .ok (.iconst 0, 1) := by decide +kernel
theorem dX3_init_101 : decode cX3_init 101 = .ok (.putfield 47, 3) := by decide +kernel
theorem dX3_init_104 : decode cX3_init 104 = .ok (.aload_n 0, 1) := by decide +kernel
theorem dX3_init_105 : decode cX3_init 105 = .ok (.iconst 0, 1) := by decide +kernel
theorem dX3_init_106 : decode cX3_init 106 = .ok (.putfield 50, 3) := by decide +kernel
theorem dX3_init_109 : decode cX3_init 109 = .ok (.aload_n 0, 1) := by decide +kernel
theorem dX3_init_110 : decode cX3_init 110 = .ok (.iconst 0, 1) := by decide +kernel
theorem dX3_init_111 : decode cX3_init 111 = .ok (.putfield 53, 3) := by decide +kernel
theorem dX3_init_114 : decode cX3_init 114 = .ok (.aload_n 0, 1) := by decide +kernel
theorem dX3_init_115 : decode cX3_init 115 = .ok (.iconst 0, 1) := by decide +kernel
theorem dX3_init_116 : decode cX3_init 116 = .ok (.putfield 56, 3) := by decide +kernel
theorem dX3_init_119 : decode cX3_init 119 = .ok (.return_, 1) := by decide +kernel
theorem dX3_join_0 : decode cX3_join 0 = .ok (.aload_n 0, 1) := by decide +kernel
theorem dX3_join_1 : decode cX3_join 1 = .ok (.iconst 0, 1) := by decide +kernel
theorem dX3_join_2 : decode cX3_join 2 = .ok (.putfield 53, 3) := by decide +kernel
theorem dX3_join_5 : decode cX3_join 5 = .ok (.aload_n 0, 1) := by decide +kernel
theorem dX3_join_6 : decode cX3_join 6 = .ok (.iconst 0, 1) := by decide +kernel
theorem dX3_join_7 : decode cX3_join 7 = .ok (.putfield 56, 3) := by decide +kernel
theorem dX3_join_10 : decode cX3_join 10 = .ok (.aload_n 0, 1) := by decide +kernel
theorem dX3_join_11 : decode cX3_join 11 = .ok (.getfield 34, 3) := by decide +kernel
theorem dX3_join_14 : decode cX3_join 14 = .ok (.bipush (-9), 2) := by decide +kernel
theorem dX3_join_16 : decode cX3_join 16 = .ok (.invokestatic 60, 3) := by decide +kernel
theorem dX3_join_19 : decode cX3_join 19 = .ok (.aload_n 0, 1) := by decide +kernel
theorem dX3_join_20 : decode cX3_join 20 = .ok (.aload_n 1, 1) := by decide +kernel
theorem dX3_join_21 : decode cX3_join 21 = .ok (.iload_n 2, 1) := by decide +kernel
theorem dX3_join_22 : decode cX3_join 22 = .ok (.invokevirtual 66, 3) := by decide +kernel
theorem dX3_join_25 : decode cX3_join 25 = .ok (.aload_n 0, 1) := by decide +kernel
theorem dX3_join_26 : decode cX3_join 26 = .ok (.iconst 0, 1) := by decide +kernel
theorem dX3_join_27 : decode cX3_join 27 = .ok (.invokevirtual 70, 3) := by decide +kernel
theorem dX3_join_30 : decode cX3_join 30 = .ok (.pop, 1) := by decide +kernel
theorem dX3_join_31 : decode cX3_join 31 = .ok (.iconst 0, 1) := by decide +kernel
theorem dX3_join_32 : decode cX3_join 32 = .ok (.istore_n 3, 1) := by decide +kernel
theorem dX3_join_33 : decode cX3_join 33 = .ok (.iload_n 3, 1) := by decide +kernel
theorem dX3_join_34 : decode cX3_join 34 = .ok (.aload_n 0, 1) := by decide +kernel
theorem dX3_join_35 : decode cX3_join 35 = .ok (.getfield 53, 3) := by decide +kernel
theorem dX3_join_38 : decode cX3_join 38 = .ok (.if_icmp .ge 30, 3) := by decide +kernel
theorem dX3_join_41 : decode cX3_join 41 = .ok (.iload_n 3, 1) := by decide +kernel
theorem dX3_join_42 : decode cX3_join 42 = .ok (.sipush 150, 3) := by decide +kernel
theorem dX3_join_45 : decode cX3_join 45 = .ok (.if_icmp .ge 23, 3) := by decide +kernel
theorem dX3_join_48 : decode cX3_join 48 = .ok (.aload_n 0, 1) := by decide +kernel
theorem dX3_join_49 : decode cX3_join 49 = .ok (.getfield 56, 3) := by decide +kernel
theorem dX3_join_52 : decode cX3_join 52 = .ok (.ifCond .ne 16, 3) := by decide +kernel
theorem dX3_join_55 : decode cX3_join 55 = .ok (.aload_n 0, 1) := by decide +kernel
theorem dX3_join_56 : decode cX3_join 56 = .ok (.iload_n 3, 1) := by decide +kernel
theorem dX3_join_57 : decode cX3_join 57 = .ok (.aload_n 1, 1) := by decide +kernel
theorem dX3_join_58 : decode cX3_join 58 = .ok (.iload_n 2, 1) := by decide +kernel
theorem dX3_join_59 : decode cX3_join 59 = .ok (.invokevirtual 74, 3) := by decide +kernel
theorem dX3_join_62 : decode cX3_join 62 = .ok (.iinc 3 1, 3) := by decide +kernel
theorem dX3_join_65 : decode cX3_join 65 = .ok (.goto (-32), 3) := by decide +kernel
theorem dX3_join_68 : decode cX3_join 68 = .ok (.aload_n 0, 1) := by decide +kernel
theorem dX3_join_69 : decode cX3_join 69 = .ok (.getfield 56, 3) := by decide +kernel
theorem dX3_join_72 : decode cX3_join 72 = .ok (.ifCond .eq 8, 3) := by decide +kernel
theorem dX3_join_75 : decode cX3_join 75 = .ok (.aload_n 0, 1) := by decide +kernel
theorem dX3_join_76 : decode cX3_join 76 = .ok (.iconst 0, 1) := by decide +kernel
theorem dX3_join_77 : decode cX3_join 77 = .ok (.putfield 53, 3) := by decide +kernel
theorem dX3_join_80 : decode cX3_join 80 = .ok (.return_, 1) := by decide +kernel
theorem dX3_gatherAlphabets_0 : decode cX3_gatherAlphabets 0 = .ok (.aload_n 0, 1) := by decide +kernel
theorem dX3_gatherAlphabets_1 : decode cX3_gatherAlphabets 1 = .ok (.iconst 0, 1) := by decide +kernel
theorem dX3_gatherAlphabets_2 : decode cX3_gatherAlphabets 2 = .ok (.putfield 47, 3) := by decide +kernel
theorem dX3_gatherAlphabets_5 : decode cX3_gatherAlphabets 5 = .ok (.aload_n 0, 1) := by decide +kernel
theorem dX3_gatherAlphabets_6 : decode cX3_gatherAlphabets 6 = .ok (.iconst 0, 1) := by decide +kernel
theorem dX3_gatherAlphabets_7 : decode cX3_gatherAlphabets 7 = .ok (.putfield 50, 3) := by decide +kernel
theorem dX3_gatherAlphabets_10 : decode cX3_gatherAlphabets 10 = .ok (.iconst 0, 1) := by decide +kernel
theorem dX3_gatherAlphabets_11 : decode cX3_gatherAlphabets 11 = .ok (.istore_n 3, 1) := by decide +kernel
theorem dX3_gatherAlphabets_12 : decode cX3_gatherAlphabets 12 = .ok (.iload_n 3, 1) := by decide +kernel
theorem dX3_gatherAlphabets_13 : decode cX3_gatherAlphabets 13 = .ok (.aload_n 1, 1) := by decide +kernel
theorem dX3_gatherAlphabets_14 : decode cX3_gatherAlphabets 14 = .ok (.arraylength, 1) := by decide +kernel
theorem dX3_gatherAlphabets_15 : decode cX3_gatherAlphabets 15 = .ok (.if_icmp .ge 62, 3) := by decide +kernel
theorem dX3_gatherAlphabets_18 : decode cX3_gatherAlphabets 18 = .ok (.iload_n 2, 1) := by decide +kernel
theorem dX3_gatherAlphabets_19 : decode cX3_gatherAlphabets 19 = .ok (.iload_n 3, 1) := by decide +kernel
theorem dX3_gatherAlphabets_20 : decode cX3_gatherAlphabets 20 = .ok (.ishr, 1) := by decide +kernel
theorem dX3_gatherAlphabets_21 : decode cX3_gatherAlphabets 21 = .ok (.ifCond .eq 56, 3) := by decide +kernel
theorem dX3_gatherAlphabets_24 : decode cX3_gatherAlphabets 24 = .ok (.iload_n 2, 1) := by decide +kernel
theorem dX3_gatherAlphabets_25 : decode cX3_gatherAlphabets 25 = .ok (.iload_n 3, 1) := by decide +kernel
theorem dX3_gatherAlphabets_26 : decode cX3_gatherAlphabets 26 = .ok (.invokestatic 78, 3) := by decide +kernel
theorem dX3_gatherAlphabets_29 : decode cX3_gatherAlphabets 29 = .ok (.ifCond .eq 42, 3) := by decide +kernel
theorem dX3_gatherAlphabets_32 : decode cX3_gatherAlphabets 32 = .ok (.aload_n 0, 1) := by decide +kernel
theorem dX3_gatherAlphabets_33 : decode cX3_gatherAlphabets 33 = .ok (.dup, 1) := by decide +kernel
theorem dX3_gatherAlphabets_34 : decode cX3_gatherAlphabets 34 = .ok (.getfield 47, 3) := by decide +kernel
theorem dX3_gatherAlphabets_37 : decode cX3_gatherAlphabets 37 = .ok (.aload_n 1, 1) := by decide +kernel
theorem dX3_gatherAlphabets_38 : decode cX3_gatherAlphabets 38 = .ok (.iload_n 3, 1) := by decide +kernel
theorem dX3_gatherAlphabets_39 : decode cX3_gatherAlphabets 39 = .ok (.aaload, 1) := by decide +kernel
theorem dX3_gatherAlphabets_40 : decode cX3_gatherAlphabets 40 = .ok (.getfield 82, 3) := by decide +kernel
theorem dX3_gatherAlphabets_43 : decode cX3_gatherAlphabets 43 = .ok (.ior, 1) := by decide +kernel
theorem dX3_gatherAlphabets_44 : decode cX3_gatherAlphabets 44 = .ok (.putfield 47, 3) := by decide +kernel
theorem dX3_gatherAlphabets_47 : decode cX3_gatherAlphabets 47 = .ok (.aload_n 1, 1) := by decide +kernel
theorem dX3_gatherAlphabets_48 : decode cX3_gatherAlphabets 48 = .ok (.iload_n 3, 1) := by decide +kernel
theorem dX3_gatherAlphabets_49 : decode cX3_gatherAlphabets 49 = .ok (.aaload, 1) := by decide +kernel
theorem dX3_gatherAlphabets_50 : decode cX3_gatherAlphabets 50 = .ok (.getfield 85, 3) := by decide +kernel
theorem dX3_gatherAlphabets_53 : decode cX3_gatherAlphabets 53 = .ok (.ifCond .ne 18, 3) := by decide +kernel
theorem dX3_gatherAlphabets_56 : decode cX3_gatherAlphabets 56 = .ok (.aload_n 0, 1) := by decide +kernel
theorem dX3_gatherAlphabets_57 : decode cX3_gatherAlphabets 57 = .ok (.dup, 1) := by decide +kernel
theorem dX3_gatherAlphabets_58 : decode cX3_gatherAlphabets 58 = .ok (.getfield 50, 3) := by decide +kernel
theorem dX3_gatherAlphabets_61 : decode cX3_gatherAlphabets 61 = .ok (.aload_n 1, 1) := by decide +kernel
theorem dX3_gatherAlphabets_62 : decode cX3_gatherAlphabets 62 = .ok (.iload_n 3, 1) := by decide +kernel
theorem dX3_gatherAlphabets_63 : decode cX3_gatherAlphabets 63 = .ok (.aaload, 1) := by decide +kernel
theorem dX3_gatherAlphabets_64 : decode cX3_gatherAlphabets 64 = .ok (.getfield 82, 3) := by decide +kernel
theorem dX3_gatherAlphabets_67 : decode cX3_gatherAlphabets 67 = .ok (.ior, 1) := by decide +kernel
theorem dX3_gatherAlphabets_68 : decode cX3_gatherAlphabets 68 = .ok (.putfield 50, 3) := by decide +kernel
theorem dX3_gatherAlphabets_71 : decode cX3_gatherAlphabets 71 = .ok (.iinc 3 1, 3) := by decide +kernel
theorem dX3_gatherAlphabets_74 : decode cX3_gatherAlphabets 74 = .ok (.goto (-62), 3) := by decide +kernel
theorem dX3_gatherAlphabets_77 : decode cX3_gatherAlphabets 77 = .ok (.return_, 1) := by decide +kernel
theorem dX3_spreadFrom_0 : decode cX3_spreadFrom 0 = .ok (.iconst 0, 1) := by decide +kernel
theorem dX3_spreadFrom_1 : decode cX3_spreadFrom 1 = .ok (.istore 4, 2) := by decide +kernel
theorem dX3_spreadFrom_3 : decode cX3_spreadFrom 3 = .ok (.iconst 0, 1) := by decide +kernel
theorem dX3_spreadFrom_4 : decode cX3_spreadFrom 4 = .ok (.istore 5, 2) := by decide +kernel
theorem dX3_spreadFrom_6 : decode cX3_spreadFrom 6 = .ok (.iconst 0, 1) := by decide +kernel
theorem dX3_spreadFrom_7 : decode cX3_spreadFrom 7 = .ok (.istore 6, 2) := by decide +kernel
theorem dX3_spreadFrom_9 : decode cX3_spreadFrom 9 = .ok (.iload 6, 2) := by decide +kernel
theorem dX3_spreadFrom_11 : decode cX3_spreadFrom 11 = .ok (.aload_n 2, 1) := by decide +kernel
theorem dX3_spreadFrom_12 : decode cX3_spreadFrom 12 = .ok (.arraylength, 1) := by decide +kernel
theorem dX3_spreadFrom_13 : decode cX3_spreadFrom 13 = .ok (.if_icmp .ge 68, 3) := by decide +kernel
theorem dX3_spreadFrom_16 : decode cX3_spreadFrom 16 = .ok (.iload_n 3, 1) := by decide +kernel
theorem dX3_spreadFrom_17 : decode cX3_spreadFrom 17 = .ok (.iload 6, 2) := by decide +kernel
theorem dX3_spreadFrom_19 : decode cX3_spreadFrom 19 = .ok (.ishr, 1) := by decide +kernel
theorem dX3_spreadFrom_20 : decode cX3_spreadFrom 20 = .ok (.ifCond .eq 61, 3) := by decide +kernel
theorem dX3_spreadFrom_23 : decode cX3_spreadFrom 23 = .ok (.iload_n 3, 1) := by decide +kernel
theorem dX3_spreadFrom_24 : decode cX3_spreadFrom 24 = .ok (.iload 6, 2) := by decide +kernel
theorem dX3_spreadFrom_26 : decode cX3_spreadFrom 26 = .ok (.invokestatic 78, 3) := by decide +kernel
theorem dX3_spreadFrom_29 : decode cX3_spreadFrom 29 = .ok (.ifCond .eq 46, 3) := by decide +kernel
theorem dX3_spreadFrom_32 : decode cX3_spreadFrom 32 = .ok (.aload_n 2, 1) := by decide +kernel
theorem dX3_spreadFrom_33 : decode cX3_spreadFrom 33 = .ok (.iload 6, 2) := by decide +kernel
theorem dX3_spreadFrom_35 : decode cX3_spreadFrom 35 = .ok (.aaload, 1) := by decide +kernel
theorem dX3_spreadFrom_36 : decode cX3_spreadFrom 36 = .ok (.aload_n 0, 1) := by decide +kernel
theorem dX3_spreadFrom_37 : decode cX3_spreadFrom 37 = .ok (.iload_n 1, 1) := by decide +kernel
theorem dX3_spreadFrom_38 : decode cX3_spreadFrom 38 = .ok (.iload 6, 2) := by decide +kernel
theorem dX3_spreadFrom_40 : decode cX3_spreadFrom 40 = .ok (.invokevirtual 88, 3) := by decide +kernel
theorem dX3_spreadFrom_43 : decode cX3_spreadFrom 43 = .ok (.invokevirtual 92, 3) := by decide +kernel
theorem dX3_spreadFrom_46 : decode cX3_spreadFrom 46 = .ok (.istore 7, 2) := by decide +kernel
theorem dX3_spreadFrom_48 : decode cX3_spreadFrom 48 = .ok (.aload_n 2, 1) := by decide +kernel
theorem dX3_spreadFrom_49 : decode cX3_spreadFrom 49 = .ok (.iload 6, 2) := by decide +kernel
theorem dX3_spreadFrom_51 : decode cX3_spreadFrom 51 = .ok (.aaload, 1) := by decide +kernel
theorem dX3_spreadFrom_52 : decode cX3_spreadFrom 52 = .ok (.getfield 85, 3) := by decide +kernel
theorem dX3_spreadFrom_55 : decode cX3_spreadFrom 55 = .ok (.ifCond .ne 13, 3) := by decide +kernel
theorem dX3_spreadFrom_58 : decode cX3_spreadFrom 58 = .ok (.iload 4, 2) := by decide +kernel
theorem dX3_spreadFrom_60 : decode cX3_spreadFrom 60 = .ok (.iload 7, 2) := by decide +kernel
theorem dX3_spreadFrom_62 : decode cX3_spreadFrom 62 = .ok (.ior, 1) := by decide +kernel
theorem dX3_spreadFrom_63 : decode cX3_spreadFrom 63 = .ok (.istore 4, 2) := by decide +kernel
theorem dX3_spreadFrom_65 : decode cX3_spreadFrom 65 = .ok (.goto 10, 3) := by decide +kernel
theorem dX3_spreadFrom_68 : decode cX3_spreadFrom 68 = .ok (.iload 5, 2) := by decide +kernel
theorem dX3_spreadFrom_70 : decode cX3_spreadFrom 70 = .ok (.iload 7, 2) := by decide +kernel
theorem dX3_spreadFrom_72 : decode cX3_spreadFrom 72 = .ok (.ior, 1) := by decide +kernel
theorem dX3_spreadFrom_73 : decode cX3_spreadFrom 73 = .ok (.istore 5, 2) := by decide +kernel
theorem dX3_spreadFrom_75 : decode cX3_spreadFrom 75 = .ok (.iinc 6 1, 3) := by decide +kernel
theorem dX3_spreadFrom_78 : decode cX3_spreadFrom 78 = .ok (.goto (-69), 3) := by decide +kernel
theorem dX3_spreadFrom_81 : decode cX3_spreadFrom 81 = .ok (.aload_n 0, 1) := by decide +kernel
theorem dX3_spreadFrom_82 : decode cX3_spreadFrom 82 = .ok (.getfield 21, 3) := by decide +kernel
theorem dX3_spreadFrom_85 : decode cX3_spreadFrom 85 = .ok (.iload_n 1, 1) := by decide +kernel
theorem dX3_spreadFrom_86 : decode cX3_spreadFrom 86 = .ok (.aload_n 0, 1) := by decide +kernel
theorem dX3_spreadFrom_87 : decode cX3_spreadFrom 87 = .ok (.aload_n 0, 1) := by decide +kernel
theorem dX3_spreadFrom_88 : decode cX3_spreadFrom 88 = .ok (.getfield 9, 3) := by decide +kernel
theorem dX3_spreadFrom_91 : decode cX3_spreadFrom 91 = .ok (.iload_n 1, 1) := by decide +kernel
theorem dX3_spreadFrom_92 : decode cX3_spreadFrom 92 = .ok (.iaload, 1) := by decide +kernel
theorem dX3_spreadFrom_93 : decode cX3_spreadFrom 93 = .ok (.aload_n 2, 1) := by decide +kernel
theorem dX3_spreadFrom_94 : decode cX3_spreadFrom 94 = .ok (.iload_n 3, 1) := by decide +kernel
theorem dX3_spreadFrom_95 : decode cX3_spreadFrom 95 = .ok (.invokevirtual 95, 3) := by decide +kernel
theorem dX3_spreadFrom_98 : decode cX3_spreadFrom 98 = .ok (.bastore, 1) := by decide +kernel
theorem dX3_spreadFrom_99 : decode cX3_spreadFrom 99 = .ok (.aload_n 0, 1) := by decide +kernel
theorem dX3_spreadFrom_100 : decode cX3_spreadFrom 100 = .ok (.getfield 15, 3) := by decide +kernel
theorem dX3_spreadFrom_103 : decode cX3_spreadFrom 103 = .ok (.iload_n 1, 1) := by decide +kernel
theorem dX3_spreadFrom_104 : decode cX3_spreadFrom 104 = .ok (.aload_n 0, 1) := by decide +kernel
theorem dX3_spreadFrom_105 : decode cX3_spreadFrom 105 = .ok (.getfield 47, 3) := by decide +kernel
theorem dX3_spreadFrom_108 : decode cX3_spreadFrom 108 = .ok (.iload 4, 2) := by decide +kernel
theorem dX3_spreadFrom_110 : decode cX3_spreadFrom 110 = .ok (.iconst (-1), 1) := by decide +kernel
theorem dX3_spreadFrom_111 : decode cX3_spreadFrom 111 = .ok (.ixor, 1) := by decide +kernel
theorem dX3_spreadFrom_112 : decode cX3_spreadFrom 112 = .ok (.iand, 1) := by decide +kernel
theorem dX3_spreadFrom_113 : decode cX3_spreadFrom 113 = .ok (.iload 5, 2) := by decide +kernel
theorem dX3_spreadFrom_115 : decode cX3_spreadFrom 115 = .ok (.iconst (-1), 1) := by decide +kernel
theorem dX3_spreadFrom_116 : decode cX3_spreadFrom 116 = .ok (.ixor, 1) := by decide +kernel
theorem dX3_spreadFrom_117 : decode cX3_spreadFrom 117 = .ok (.iand, 1) := by decide +kernel
theorem dX3_spreadFrom_118 : decode cX3_spreadFrom 118 = .ok (.iastore, 1) := by decide +kernel
theorem dX3_spreadFrom_119 : decode cX3_spreadFrom 119 = .ok (.aload_n 0, 1) := by decide +kernel
theorem dX3_spreadFrom_120 : decode cX3_spreadFrom 120 = .ok (.getfield 18, 3) := by decide +kernel
theorem dX3_spreadFrom_123 : decode cX3_spreadFrom 123 = .ok (.iload_n 1, 1) := by decide +kernel
theorem dX3_spreadFrom_124 : decode cX3_spreadFrom 124 = .ok (.aload_n 0, 1) := by decide +kernel
theorem dX3_spreadFrom_125 : decode cX3_spreadFrom 125 = .ok (.getfield 50, 3) := by decide +kernel
theorem dX3_spreadFrom_128 : decode cX3_spreadFrom 128 = .ok (.iload 4, 2) := by decide +kernel
theorem dX3_spreadFrom_130 : decode cX3_spreadFrom 130 = .ok (.iconst (-1), 1) := by decide +kernel
theorem dX3_spreadFrom_131 : decode cX3_spreadFrom 131 = .ok (.ixor, 1) := by decide +kernel
theorem dX3_spreadFrom_132 : decode cX3_spreadFrom 132 = .ok (.iand, 1) := by decide +kernel
theorem dX3_spreadFrom_133 : decode cX3_spreadFrom 133 = .ok (.iload 5, 2) := by decide +kernel
theorem dX3_spreadFrom_135 : decode cX3_spreadFrom 135 = .ok (.iand, 1) := by decide +kernel
theorem dX3_spreadFrom_136 : decode cX3_spreadFrom 136 = .ok (.iastore, 1) := by decide +kernel
theorem dX3_spreadFrom_137 : decode cX3_spreadFrom 137 = .ok (.iconst 0, 1) := by decide +kernel
theorem dX3_spreadFrom_138 : decode cX3_spreadFrom 138 = .ok (.istore 6, 2) := by decide +kernel
theorem dX3_spreadFrom_140 : decode cX3_spreadFrom 140 = .ok (.iload 6, 2) := by decide +kernel
theorem dX3_spreadFrom_142 : decode cX3_spreadFrom 142 = .ok (.bipush 8, 2) := by decide +kernel
theorem dX3_spreadFrom_144 : decode cX3_spreadFrom 144 = .ok (.if_icmp .ge 62, 3) := by decide +kernel
theorem dX3_spreadFrom_147 : decode cX3_spreadFrom 147 = .ok (.aload_n 0, 1) := by decide +kernel
theorem dX3_spreadFrom_148 : decode cX3_spreadFrom 148 = .ok (.getfield 25, 3) := by decide +kernel
theorem dX3_spreadFrom_151 : decode cX3_spreadFrom 151 = .ok (.iload_n 1, 1) := by decide +kernel
theorem dX3_spreadFrom_152 : decode cX3_spreadFrom 152 = .ok (.bipush 8, 2) := by decide +kernel
theorem dX3_spreadFrom_154 : decode cX3_spreadFrom 154 = .ok (.imul, 1) := by decide +kernel
theorem dX3_spreadFrom_155 : decode cX3_spreadFrom 155 = .ok (.iload 6, 2) := by decide +kernel
theorem dX3_spreadFrom_157 : decode cX3_spreadFrom 157 = .ok (.iadd, 1) := by decide +kernel
theorem dX3_spreadFrom_158 : decode cX3_spreadFrom 158 = .ok (.bipush (-9), 2) := by decide +kernel
theorem dX3_spreadFrom_160 : decode cX3_spreadFrom 160 = .ok (.iastore, 1) := by decide +kernel
theorem dX3_spreadFrom_161 : decode cX3_spreadFrom 161 = .ok (.aload_n 0, 1) := by decide +kernel
theorem dX3_spreadFrom_162 : decode cX3_spreadFrom 162 = .ok (.getfield 15, 3) := by decide +kernel
theorem dX3_spreadFrom_165 : decode cX3_spreadFrom 165 = .ok (.iload_n 1, 1) := by decide +kernel
theorem dX3_spreadFrom_166 : decode cX3_spreadFrom 166 = .ok (.iaload, 1) := by decide +kernel
theorem dX3_spreadFrom_167 : decode cX3_spreadFrom 167 = .ok (.iload 6, 2) := by decide +kernel
theorem dX3_spreadFrom_169 : decode cX3_spreadFrom 169 = .ok (.invokestatic 78, 3) := by decide +kernel
theorem dX3_spreadFrom_172 : decode cX3_spreadFrom 172 = .ok (.ifCond .eq 28, 3) := by decide +kernel
theorem dX3_spreadFrom_175 : decode cX3_spreadFrom 175 = .ok (.aload_n 0, 1) := by decide +kernel
theorem dX3_spreadFrom_176 : decode cX3_spreadFrom 176 = .ok (.iload_n 1, 1) := by decide +kernel
theorem dX3_spreadFrom_177 : decode cX3_spreadFrom 177 = .ok (.iload 6, 2) := by decide +kernel
theorem dX3_spreadFrom_179 : decode cX3_spreadFrom 179 = .ok (.aload_n 0, 1) := by decide +kernel
theorem dX3_spreadFrom_180 : decode cX3_spreadFrom 180 = .ok (.aload_n 0, 1) := by decide +kernel
theorem dX3_spreadFrom_181 : decode cX3_spreadFrom 181 = .ok (.aload_n 0, 1) := by decide +kernel
theorem dX3_spreadFrom_182 : decode cX3_spreadFrom 182 = .ok (.getfield 9, 3) := by decide +kernel
theorem dX3_spreadFrom_185 : decode cX3_spreadFrom 185 = .ok (.iload_n 1, 1) := by decide +kernel
theorem dX3_spreadFrom_186 : decode cX3_spreadFrom 186 = .ok (.iaload, 1) := by decide +kernel
theorem dX3_spreadFrom_187 : decode cX3_spreadFrom 187 = .ok (.iload 6, 2) := by decide +kernel
theorem dX3_spreadFrom_189 : decode cX3_spreadFrom 189 = .ok (.aload_n 2, 1) := by decide +kernel
theorem dX3_spreadFrom_190 : decode cX3_spreadFrom 190 = .ok (.iload_n 3, 1) := by decide +kernel
theorem dX3_spreadFrom_191 : decode cX3_spreadFrom 191 = .ok (.invokevirtual 99, 3) := by decide +kernel
theorem dX3_spreadFrom_194 : decode cX3_spreadFrom 194 = .ok (.invokevirtual 70, 3) := by decide +kernel
theorem dX3_spreadFrom_197 : decode cX3_spreadFrom 197 = .ok (.invokevirtual 103, 3) := by decide +kernel
theorem dX3_spreadFrom_200 : decode cX3_spreadFrom 200 = .ok (.iinc 6 1, 3) := by decide +kernel
theorem dX3_spreadFrom_203 : decode cX3_spreadFrom 203 = .ok (.goto (-63), 3) := by decide +kernel
theorem dX3_spreadFrom_206 : decode cX3_spreadFrom 206 = .ok (.return_, 1) := by decide +kernel
theorem dX3_addEdge_0 : decode cX3_addEdge 0 = .ok (.aload_n 0, 1) := by decide +kernel
theorem dX3_addEdge_1 : decode cX3_addEdge 1 = .ok (.iload_n 3, 1) := by decide +kernel
theorem dX3_addEdge_2 : decode cX3_addEdge 2 = .ok (.invokevirtual 107, 3) := by decide +kernel
theorem dX3_addEdge_5 : decode cX3_addEdge 5 = .ok (.ifCond .ne 9, 3) := by decide +kernel
theorem dX3_addEdge_8 : decode cX3_addEdge 8 = .ok (.aload_n 0, 1) := by decide +kernel
theorem dX3_addEdge_9 : decode cX3_addEdge 9 = .ok (.iconst 1, 1) := by decide +kernel
theorem dX3_addEdge_10 : decode cX3_addEdge 10 = .ok (.putfield 56, 3) := by decide +kernel
theorem dX3_addEdge_13 : decode cX3_addEdge 13 = .ok (.return_, 1) := by decide +kernel
theorem dX3_addEdge_14 : decode cX3_addEdge 14 = .ok (.iload_n 1, 1) := by decide +kernel
theorem dX3_addEdge_15 : decode cX3_addEdge 15 = .ok (.bipush 8, 2) := by decide +kernel
theorem dX3_addEdge_17 : decode cX3_addEdge 17 = .ok (.imul, 1) := by decide +kernel
theorem dX3_addEdge_18 : decode cX3_addEdge 18 = .ok (.iload_n 2, 1) := by decide +kernel
theorem dX3_addEdge_19 : decode cX3_addEdge 19 = .ok (.iadd, 1) := by decide +kernel
theorem dX3_addEdge_20 : decode cX3_addEdge 20 = .ok (.istore 4, 2) := by decide +kernel
theorem dX3_addEdge_22 : decode cX3_addEdge 22 = .ok (.aload_n 0, 1) := by decide +kernel
theorem dX3_addEdge_23 : decode cX3_addEdge 23 = .ok (.getfield 25, 3) := by decide +kernel
theorem dX3_addEdge_26 : decode cX3_addEdge 26 = .ok (.iload 4, 2) := by decide +kernel
theorem dX3_addEdge_28 : decode cX3_addEdge 28 = .ok (.iload_n 3, 1) := by decide +kernel
theorem dX3_addEdge_29 : decode cX3_addEdge 29 = .ok (.iastore, 1) := by decide +kernel
theorem dX3_addEdge_30 : decode cX3_addEdge 30 = .ok (.aload_n 0, 1) := by decide +kernel
theorem dX3_addEdge_31 : decode cX3_addEdge 31 = .ok (.getfield 31, 3) := by decide +kernel
theorem dX3_addEdge_34 : decode cX3_addEdge 34 = .ok (.iload 4, 2) := by decide +kernel
theorem dX3_addEdge_36 : decode cX3_addEdge 36 = .ok (.aload_n 0, 1) := by decide +kernel
theorem dX3_addEdge_37 : decode cX3_addEdge 37 = .ok (.getfield 28, 3) := by decide +kernel
theorem dX3_addEdge_40 : decode cX3_addEdge 40 = .ok (.iload_n 3, 1) := by decide +kernel
theorem dX3_addEdge_41 : decode cX3_addEdge 41 = .ok (.iaload, 1) := by decide +kernel
theorem dX3_addEdge_42 : decode cX3_addEdge 42 = .ok (.iastore, 1) := by decide +kernel
theorem dX3_addEdge_43 : decode cX3_addEdge 43 = .ok (.aload_n 0, 1) := by decide +kernel
theorem dX3_addEdge_44 : decode cX3_addEdge 44 = .ok (.getfield 28, 3) := by decide +kernel
theorem dX3_addEdge_47 : decode cX3_addEdge 47 = .ok (.iload_n 3, 1) := by decide +kernel
theorem dX3_addEdge_48 : decode cX3_addEdge 48 = .ok (.iload 4, 2) := by decide +kernel
theorem dX3_addEdge_50 : decode cX3_addEdge 50 = .ok (.iastore, 1) := by decide +kernel
theorem dX3_addEdge_51 : decode cX3_addEdge 51 = .ok (.return_, 1) := by decide +kernel
theorem dX3_codeBehind_0 : decode cX3_codeBehind 0 = .ok (.iload_n 1, 1) := by decide +kernel
theorem dX3_codeBehind_1 : decode cX3_codeBehind 1 = .ok (.istore 5, 2) := by decide +kernel
theorem dX3_codeBehind_3 : decode cX3_codeBehind 3 = .ok (.iconst 0, 1) := by decide +kernel
theorem dX3_codeBehind_4 : decode cX3_codeBehind 4 = .ok (.istore 6, 2) := by decide +kernel
theorem dX3_codeBehind_6 : decode cX3_codeBehind 6 = .ok (.iload 6, 2) := by decide +kernel
theorem dX3_codeBehind_8 : decode cX3_codeBehind 8 = .ok (.aload_n 3, 1) := by decide +kernel
theorem dX3_codeBehind_9 : decode cX3_codeBehind 9 = .ok (.arraylength, 1) := by decide +kernel
theorem dX3_codeBehind_10 : decode cX3_codeBehind 10 = .ok (.if_icmp .ge 75, 3) := by decide +kernel
theorem dX3_codeBehind_13 : decode cX3_codeBehind 13 = .ok (.iload 4, 2) := by decide +kernel
theorem dX3_codeBehind_15 : decode cX3_codeBehind 15 = .ok (.iload 6, 2) := by decide +kernel
theorem dX3_codeBehind_17 : decode cX3_codeBehind 17 = .ok (.ishr, 1) := by decide +kernel
theorem dX3_codeBehind_18 : decode cX3_codeBehind 18 = .ok (.ifCond .eq 67, 3) := by decide +kernel
theorem dX3_codeBehind_21 : decode cX3_codeBehind 21 = .ok (.iload 4, 2) := by decide +kernel
theorem dX3_codeBehind_23 : decode cX3_codeBehind 23 = .ok (.iload 6, 2) := by decide +kernel
theorem dX3_codeBehind_25 : decode cX3_codeBehind 25 = .ok (.invokestatic 78, 3) := by decide +kernel
theorem dX3_codeBehind_28 : decode cX3_codeBehind 28 = .ok (.ifCond .eq 51, 3) := by decide +kernel
theorem dX3_codeBehind_31 : decode cX3_codeBehind 31 = .ok (.aload_n 3, 1) := by decide +kernel
theorem dX3_codeBehind_32 : decode cX3_codeBehind 32 = .ok (.iload 6, 2) := by decide +kernel
theorem dX3_codeBehind_34 : decode cX3_codeBehind 34 = .ok (.aaload, 1) := by decide +kernel
theorem dX3_codeBehind_35 : decode cX3_codeBehind 35 = .ok (.iload_n 1, 1) := by decide +kernel
theorem dX3_codeBehind_36 : decode cX3_codeBehind 36 = .ok (.iload 6, 2) := by decide +kernel
theorem dX3_codeBehind_38 : decode cX3_codeBehind 38 = .ok (.iconst 3, 1) := by decide +kernel
theorem dX3_codeBehind_39 : decode cX3_codeBehind 39 = .ok (.imul, 1) := by decide +kernel
theorem dX3_codeBehind_40 : decode cX3_codeBehind 40 = .ok (.ishr, 1) := by decide +kernel
theorem dX3_codeBehind_41 : decode cX3_codeBehind 41 = .ok (.bipush 7, 2) := by decide +kernel
theorem dX3_codeBehind_43 : decode cX3_codeBehind 43 = .ok (.iand, 1) := by decide +kernel
theorem dX3_codeBehind_44 : decode cX3_codeBehind 44 = .ok (.iload_n 2, 1) := by decide +kernel
theorem dX3_codeBehind_45 : decode cX3_codeBehind 45 = .ok (.invokevirtual 111, 3) := by decide +kernel
theorem dX3_codeBehind_48 : decode cX3_codeBehind 48 = .ok (.istore 7, 2) := by decide +kernel
theorem dX3_codeBehind_50 : decode cX3_codeBehind 50 = .ok (.iload 7, 2) := by decide +kernel
theorem dX3_codeBehind_52 : decode cX3_codeBehind 52 = .ok (.bipush (-9), 2) := by decide +kernel
theorem dX3_codeBehind_54 : decode cX3_codeBehind 54 = .ok (.if_icmp .eq 25, 3) := by decide +kernel
theorem dX3_codeBehind_57 : decode cX3_codeBehind 57 = .ok (.iload 5, 2) := by decide +kernel
theorem dX3_codeBehind_59 : decode cX3_codeBehind 59 = .ok (.bipush 7, 2) := by decide +kernel
theorem dX3_codeBehind_61 : decode cX3_codeBehind 61 = .ok (.iload 6, 2) := by decide +kernel
theorem dX3_codeBehind_63 : decode cX3_codeBehind 63 = .ok (.iconst 3, 1) := by decide +kernel
theorem dX3_codeBehind_64 : decode cX3_codeBehind 64 = .ok (.imul, 1) := by decide +kernel
theorem dX3_codeBehind_65 : decode cX3_codeBehind 65 = .ok (.ishl, 1) := by decide +kernel
theorem dX3_codeBehind_66 : decode cX3_codeBehind 66 = .ok (.iconst (-1), 1) := by decide +kernel
theorem dX3_codeBehind_67 : decode cX3_codeBehind 67 = .ok (.ixor, 1) := by decide +kernel
theorem dX3_codeBehind_68 : decode cX3_codeBehind 68 = .ok (.iand, 1) := by decide +kernel
theorem dX3_codeBehind_69 : decode cX3_codeBehind 69 = .ok (.iload 7, 2) := by decide +kernel
theorem dX3_codeBehind_71 : decode cX3_codeBehind 71 = .ok (.iload 6, 2) := by decide +kernel
theorem dX3_codeBehind_73 : decode cX3_codeBehind 73 = .ok (.iconst 3, 1) := by decide +kernel
theorem dX3_codeBehind_74 : decode cX3_codeBehind 74 = .ok (.imul, 1) := by decide +kernel
theorem dX3_codeBehind_75 : decode cX3_codeBehind 75 = .ok (.ishl, 1) := by decide +kernel
theorem dX3_codeBehind_76 : decode cX3_codeBehind 76 = .ok (.ior, 1) := by decide +kernel
theorem dX3_codeBehind_77 : decode cX3_codeBehind 77 = .ok (.istore 5, 2) := by decide +kernel
theorem dX3_codeBehind_79 : decode cX3_codeBehind 79 = .ok (.iinc 6 1, 3) := by decide +kernel
theorem dX3_codeBehind_82 : decode cX3_codeBehind 82 = .ok (.goto (-76), 3) := by decide +kernel
theorem dX3_codeBehind_85 : decode cX3_codeBehind 85 = .ok (.iload 5, 2) := by decide +kernel
theorem dX3_codeBehind_87 : decode cX3_codeBehind 87 = .ok (.ireturn, 1) := by decide +kernel
theorem dX3_meet_0 : decode cX3_meet 0 = .ok (.iload_n 1, 1) := by decide +kernel
theorem dX3_meet_1 : decode cX3_meet 1 = .ok (.ldc 114, 2) := by decide +kernel
theorem dX3_meet_3 : decode cX3_meet 3 = .ok (.imul, 1) := by decide +kernel
theorem dX3_meet_4 : decode cX3_meet 4 = .ok (.bipush 24, 2) := by decide +kernel
theorem dX3_meet_6 : decode cX3_meet 6 = .ok (.iushr, 1) := by decide +kernel
theorem dX3_meet_7 : decode cX3_meet 7 = .ok (.istore_n 2, 1) := by decide +kernel
theorem dX3_meet_8 : decode cX3_meet 8 = .ok (.iconst 0, 1) := by decide +kernel
theorem dX3_meet_9 : decode cX3_meet 9 = .ok (.istore_n 3, 1) := by decide +kernel
theorem dX3_meet_10 : decode cX3_meet 10 = .ok (.iload_n 3, 1) := by decide +kernel
theorem dX3_meet_11 : decode cX3_meet 11 = .ok (.sipush 256, 3) := by decide +kernel
theorem dX3_meet_14 : decode cX3_meet 14 = .ok (.if_icmp .ge 72, 3) := by decide +kernel
theorem dX3_meet_17 : decode cX3_meet 17 = .ok (.aload_n 0, 1) := by decide +kernel
theorem dX3_meet_18 : decode cX3_meet 18 = .ok (.getfield 34, 3) := by decide +kernel
theorem dX3_meet_21 : decode cX3_meet 21 = .ok (.iload_n 2, 1) := by decide +kernel
theorem dX3_meet_22 : decode cX3_meet 22 = .ok (.iaload, 1) := by decide +kernel
theorem dX3_meet_23 : decode cX3_meet 23 = .ok (.istore 4, 2) := by decide +kernel
theorem dX3_meet_25 : decode cX3_meet 25 = .ok (.iload 4, 2) := by decide +kernel
theorem dX3_meet_27 : decode cX3_meet 27 = .ok (.bipush (-9), 2) := by decide +kernel
theorem dX3_meet_29 : decode cX3_meet 29 = .ok (.if_icmp .ne 21, 3) := by decide +kernel
theorem dX3_meet_32 : decode cX3_meet 32 = .ok (.aload_n 0, 1) := by decide +kernel
theorem dX3_meet_33 : decode cX3_meet 33 = .ok (.getfield 34, 3) := by decide +kernel
theorem dX3_meet_36 : decode cX3_meet 36 = .ok (.iload_n 2, 1) := by decide +kernel
theorem dX3_meet_37 : decode cX3_meet 37 = .ok (.aload_n 0, 1) := by decide +kernel
theorem dX3_meet_38 : decode cX3_meet 38 = .ok (.iload_n 1, 1) := by decide +kernel
theorem dX3_meet_39 : decode cX3_meet 39 = .ok (.invokevirtual 115, 3) := by decide +kernel
theorem dX3_meet_42 : decode cX3_meet 42 = .ok (.iastore, 1) := by decide +kernel
theorem dX3_meet_43 : decode cX3_meet 43 = .ok (.aload_n 0, 1) := by decide +kernel
theorem dX3_meet_44 : decode cX3_meet 44 = .ok (.getfield 34, 3) := by decide +kernel
theorem dX3_meet_47 : decode cX3_meet 47 = .ok (.iload_n 2, 1) := by decide +kernel
theorem dX3_meet_48 : decode cX3_meet 48 = .ok (.iaload, 1) := by decide +kernel
theorem dX3_meet_49 : decode cX3_meet 49 = .ok (.ireturn, 1) := by decide +kernel
theorem dX3_meet_50 : decode cX3_meet 50 = .ok (.iload 4, 2) := by decide +kernel
theorem dX3_meet_52 : decode cX3_meet 52 = .ok (.invokestatic 118, 3) := by decide +kernel
theorem dX3_meet_55 : decode cX3_meet 55 = .ok (.ifCond .eq 17, 3) := by decide +kernel
theorem dX3_meet_58 : decode cX3_meet 58 = .ok (.aload_n 0, 1) := by decide +kernel
theorem dX3_meet_59 : decode cX3_meet 59 = .ok (.getfield 9, 3) := by decide +kernel
theorem dX3_meet_62 : decode cX3_meet 62 = .ok (.iload 4, 2) := by decide +kernel
theorem dX3_meet_64 : decode cX3_meet 64 = .ok (.iaload, 1) := by decide +kernel
theorem dX3_meet_65 : decode cX3_meet 65 = .ok (.iload_n 1, 1) := by decide +kernel
theorem dX3_meet_66 : decode cX3_meet 66 = .ok (.if_icmp .ne 6, 3) := by decide +kernel
theorem dX3_meet_69 : decode cX3_meet 69 = .ok (.iload 4, 2) := by decide +kernel
theorem dX3_meet_71 : decode cX3_meet 71 = .ok (.ireturn, 1) := by decide +kernel
theorem dX3_meet_72 : decode cX3_meet 72 = .ok (.iload_n 2, 1) := by decide +kernel
theorem dX3_meet_73 : decode cX3_meet 73 = .ok (.iconst 1, 1) := by decide +kernel
theorem dX3_meet_74 : decode cX3_meet 74 = .ok (.iadd, 1) := by decide +kernel
theorem dX3_meet_75 : decode cX3_meet 75 = .ok (.sipush 256, 3) := by decide +kernel
theorem dX3_meet_78 : decode cX3_meet 78 = .ok (.irem, 1) := by decide +kernel
theorem dX3_meet_79 : decode cX3_meet 79 = .ok (.istore_n 2, 1) := by decide +kernel
theorem dX3_meet_80 : decode cX3_meet 80 = .ok (.iinc 3 1, 3) := by decide +kernel
theorem dX3_meet_83 : decode cX3_meet 83 = .ok (.goto (-73), 3) := by decide +kernel
theorem dX3_meet_86 : decode cX3_meet 86 = .ok (.bipush (-9), 2) := by decide +kernel
theorem dX3_meet_88 : decode cX3_meet 88 = .ok (.ireturn, 1) := by decide +kernel
theorem dX3_add_0 : decode cX3_add 0 = .ok (.aload_n 0, 1) := by decide +kernel
theorem dX3_add_1 : decode cX3_add 1 = .ok (.getfield 53, 3) := by decide +kernel
theorem dX3_add_4 : decode cX3_add 4 = .ok (.invokestatic 118, 3) := by decide +kernel
theorem dX3_add_7 : decode cX3_add 7 = .ok (.ifCond .ne 6, 3) := by decide +kernel
theorem dX3_add_10 : decode cX3_add 10 = .ok (.bipush (-9), 2) := by decide +kernel
theorem dX3_add_12 : decode cX3_add 12 = .ok (.ireturn, 1) := by decide +kernel
theorem dX3_add_13 : decode cX3_add 13 = .ok (.aload_n 0, 1) := by decide +kernel
theorem dX3_add_14 : decode cX3_add 14 = .ok (.getfield 9, 3) := by decide +kernel
theorem dX3_add_17 : decode cX3_add 17 = .ok (.aload_n 0, 1) := by decide +kernel
theorem dX3_add_18 : decode cX3_add 18 = .ok (.getfield 53, 3) := by decide +kernel
theorem dX3_add_21 : decode cX3_add 21 = .ok (.iload_n 1, 1) := by decide +kernel
theorem dX3_add_22 : decode cX3_add 22 = .ok (.iastore, 1) := by decide +kernel
theorem dX3_add_23 : decode cX3_add 23 = .ok (.aload_n 0, 1) := by decide +kernel
theorem dX3_add_24 : decode cX3_add 24 = .ok (.getfield 28, 3) := by decide +kernel
theorem dX3_add_27 : decode cX3_add 27 = .ok (.aload_n 0, 1) := by decide +kernel
theorem dX3_add_28 : decode cX3_add 28 = .ok (.getfield 53, 3) := by decide +kernel
theorem dX3_add_31 : decode cX3_add 31 = .ok (.bipush (-9), 2) := by decide +kernel
theorem dX3_add_33 : decode cX3_add 33 = .ok (.iastore, 1) := by decide +kernel
theorem dX3_add_34 : decode cX3_add 34 = .ok (.aload_n 0, 1) := by decide +kernel
theorem dX3_add_35 : decode cX3_add 35 = .ok (.dup, 1) := by decide +kernel
theorem dX3_add_36 : decode cX3_add 36 = .ok (.getfield 53, 3) := by decide +kernel
theorem dX3_add_39 : decode cX3_add 39 = .ok (.iconst 1, 1) := by decide +kernel
theorem dX3_add_40 : decode cX3_add 40 = .ok (.iadd, 1) := by decide +kernel
theorem dX3_add_41 : decode cX3_add 41 = .ok (.putfield 53, 3) := by decide +kernel
theorem dX3_add_44 : decode cX3_add 44 = .ok (.aload_n 0, 1) := by decide +kernel
theorem dX3_add_45 : decode cX3_add 45 = .ok (.getfield 53, 3) := by decide +kernel
theorem dX3_add_48 : decode cX3_add 48 = .ok (.iconst 1, 1) := by decide +kernel
theorem dX3_add_49 : decode cX3_add 49 = .ok (.isub, 1) := by decide +kernel
theorem dX3_add_50 : decode cX3_add 50 = .ok (.ireturn, 1) := by decide +kernel
theorem dX3_allMarked_0 : decode cX3_allMarked 0 = .ok (.iconst 0, 1) := by decide +kernel
theorem dX3_allMarked_1 : decode cX3_allMarked 1 = .ok (.istore 4, 2) := by decide +kernel
theorem dX3_allMarked_3 : decode cX3_allMarked 3 = .ok (.iload 4, 2) := by decide +kernel
theorem dX3_allMarked_5 : decode cX3_allMarked 5 = .ok (.aload_n 2, 1) := by decide +kernel
theorem dX3_allMarked_6 : decode cX3_allMarked 6 = .ok (.arraylength, 1) := by decide +kernel
theorem dX3_allMarked_7 : decode cX3_allMarked 7 = .ok (.if_icmp .ge 49, 3) := by decide +kernel
theorem dX3_allMarked_10 : decode cX3_allMarked 10 = .ok (.iload_n 3, 1) := by decide +kernel
theorem dX3_allMarked_11 : decode cX3_allMarked 11 = .ok (.iload 4, 2) := by decide +kernel
theorem dX3_allMarked_13 : decode cX3_allMarked 13 = .ok (.ishr, 1) := by decide +kernel
theorem dX3_allMarked_14 : decode cX3_allMarked 14 = .ok (.ifCond .eq 42, 3) := by decide +kernel
theorem dX3_allMarked_17 : decode cX3_allMarked 17 = .ok (.iload_n 3, 1) := by decide +kernel
theorem dX3_allMarked_18 : decode cX3_allMarked 18 = .ok (.iload 4, 2) := by decide +kernel
theorem dX3_allMarked_20 : decode cX3_allMarked 20 = .ok (.invokestatic 78, 3) := by decide +kernel
theorem dX3_allMarked_23 : decode cX3_allMarked 23 = .ok (.ifCond .eq 27, 3) := by decide +kernel
theorem dX3_allMarked_26 : decode cX3_allMarked 26 = .ok (.aload_n 2, 1) := by decide +kernel
theorem dX3_allMarked_27 : decode cX3_allMarked 27 = .ok (.iload 4, 2) := by decide +kernel
theorem dX3_allMarked_29 : decode cX3_allMarked 29 = .ok (.aaload, 1) := by decide +kernel
theorem dX3_allMarked_30 : decode cX3_allMarked 30 = .ok (.getfield 121, 3) := by decide +kernel
theorem dX3_allMarked_33 : decode cX3_allMarked 33 = .ok (.iload_n 1, 1) := by decide +kernel
theorem dX3_allMarked_34 : decode cX3_allMarked 34 = .ok (.iload 4, 2) := by decide +kernel
theorem dX3_allMarked_36 : decode cX3_allMarked 36 = .ok (.iconst 3, 1) := by decide +kernel
theorem dX3_allMarked_37 : decode cX3_allMarked 37 = .ok (.imul, 1) := by decide +kernel
theorem dX3_allMarked_38 : decode cX3_allMarked 38 = .ok (.ishr, 1) := by decide +kernel
theorem dX3_allMarked_39 : decode cX3_allMarked 39 = .ok (.bipush 7, 2) := by decide +kernel
theorem dX3_allMarked_41 : decode cX3_allMarked 41 = .ok (.iand, 1) := by decide +kernel
theorem dX3_allMarked_42 : decode cX3_allMarked 42 = .ok (.invokestatic 78, 3) := by decide +kernel
theorem dX3_allMarked_45 : decode cX3_allMarked 45 = .ok (.ifCond .ne 5, 3) := by decide +kernel
theorem dX3_allMarked_48 : decode cX3_allMarked 48 = .ok (.iconst 0, 1) := by decide +kernel
theorem dX3_allMarked_49 : decode cX3_allMarked 49 = .ok (.ireturn, 1) := by decide +kernel
theorem dX3_allMarked_50 : decode cX3_allMarked 50 = .ok (.iinc 4 1, 3) := by decide +kernel
theorem dX3_allMarked_53 : decode cX3_allMarked 53 = .ok (.goto (-50), 3) := by decide +kernel
theorem dX3_allMarked_56 : decode cX3_allMarked 56 = .ok (.iconst 1, 1) := by decide +kernel
theorem dX3_allMarked_57 : decode cX3_allMarked 57 = .ok (.ireturn, 1) := by decide +kernel
theorem dX3_measure_0 : decode cX3_measure 0 = .ok (.aload_n 0, 1) := by decide +kernel
theorem dX3_measure_1 : decode cX3_measure 1 = .ok (.iconst 0, 1) := by decide +kernel
theorem dX3_measure_2 : decode cX3_measure 2 = .ok (.putfield 43, 3) := by decide +kernel
theorem dX3_measure_5 : decode cX3_measure 5 = .ok (.iconst 0, 1) := by decide +kernel
theorem dX3_measure_6 : decode cX3_measure 6 = .ok (.istore_n 2, 1) := by decide +kernel
theorem dX3_measure_7 : decode cX3_measure 7 = .ok (.iload_n 2, 1) := by decide +kernel
theorem dX3_measure_8 : decode cX3_measure 8 = .ok (.aload_n 0, 1) := by decide +kernel
theorem dX3_measure_9 : decode cX3_measure 9 = .ok (.getfield 53, 3) := by decide +kernel
theorem dX3_measure_12 : decode cX3_measure 12 = .ok (.if_icmp .ge 46, 3) := by decide +kernel
theorem dX3_measure_15 : decode cX3_measure 15 = .ok (.iload_n 2, 1) := by decide +kernel
theorem dX3_measure_16 : decode cX3_measure 16 = .ok (.aload_n 1, 1) := by decide +kernel
theorem dX3_measure_17 : decode cX3_measure 17 = .ok (.arraylength, 1) := by decide +kernel
theorem dX3_measure_18 : decode cX3_measure 18 = .ok (.if_icmp .ge 40, 3) := by decide +kernel
theorem dX3_measure_21 : decode cX3_measure 21 = .ok (.aload_n 0, 1) := by decide +kernel
theorem dX3_measure_22 : decode cX3_measure 22 = .ok (.getfield 37, 3) := by decide +kernel
theorem dX3_measure_25 : decode cX3_measure 25 = .ok (.iload_n 2, 1) := by decide +kernel
theorem dX3_measure_26 : decode cX3_measure 26 = .ok (.bipush (-9), 2) := by decide +kernel
theorem dX3_measure_28 : decode cX3_measure 28 = .ok (.iastore, 1) := by decide +kernel
theorem dX3_measure_29 : decode cX3_measure 29 = .ok (.aload_n 0, 1) := by decide +kernel
theorem dX3_measure_30 : decode cX3_measure 30 = .ok (.getfield 21, 3) := by decide +kernel
theorem dX3_measure_33 : decode cX3_measure 33 = .ok (.iload_n 2, 1) := by decide +kernel
theorem dX3_measure_34 : decode cX3_measure 34 = .ok (.baload, 1) := by decide +kernel
theorem dX3_measure_35 : decode cX3_measure 35 = .ok (.ifCond .eq 17, 3) := by decide +kernel
theorem dX3_measure_38 : decode cX3_measure 38 = .ok (.aload_n 1, 1) := by decide +kernel
theorem dX3_measure_39 : decode cX3_measure 39 = .ok (.iload_n 2, 1) := by decide +kernel
theorem dX3_measure_40 : decode cX3_measure 40 = .ok (.iaload, 1) := by decide +kernel
theorem dX3_measure_41 : decode cX3_measure 41 = .ok (.bipush (-9), 2) := by decide +kernel
theorem dX3_measure_43 : decode cX3_measure 43 = .ok (.if_icmp .ne 9, 3) := by decide +kernel
theorem dX3_measure_46 : decode cX3_measure 46 = .ok (.aload_n 0, 1) := by decide +kernel
theorem dX3_measure_47 : decode cX3_measure 47 = .ok (.iload_n 2, 1) := by decide +kernel
theorem dX3_measure_48 : decode cX3_measure 48 = .ok (.iconst 0, 1) := by decide +kernel
theorem dX3_measure_49 : decode cX3_measure 49 = .ok (.invokevirtual 124, 3) := by decide +kernel
theorem dX3_measure_52 : decode cX3_measure 52 = .ok (.iinc 2 1, 3) := by decide +kernel
theorem dX3_measure_55 : decode cX3_measure 55 = .ok (.goto (-48), 3) := by decide +kernel
theorem dX3_measure_58 : decode cX3_measure 58 = .ok (.iconst 0, 1) := by decide +kernel
theorem dX3_measure_59 : decode cX3_measure 59 = .ok (.istore_n 2, 1) := by decide +kernel
theorem dX3_measure_60 : decode cX3_measure 60 = .ok (.iload_n 2, 1) := by decide +kernel
theorem dX3_measure_61 : decode cX3_measure 61 = .ok (.aload_n 0, 1) := by decide +kernel
theorem dX3_measure_62 : decode cX3_measure 62 = .ok (.getfield 43, 3) := by decide +kernel
theorem dX3_measure_65 : decode cX3_measure 65 = .ok (.if_icmp .ge 27, 3) := by decide +kernel
theorem dX3_measure_68 : decode cX3_measure 68 = .ok (.iload_n 2, 1) := by decide +kernel
theorem dX3_measure_69 : decode cX3_measure 69 = .ok (.sipush 150, 3) := by decide +kernel
theorem dX3_measure_72 : decode cX3_measure 72 = .ok (.if_icmp .ge 20, 3) := by decide +kernel
theorem dX3_measure_75 : decode cX3_measure 75 = .ok (.aload_n 0, 1) := by decide +kernel
theorem dX3_measure_76 : decode cX3_measure 76 = .ok (.aload_n 0, 1) := by decide +kernel
theorem dX3_measure_77 : decode cX3_measure 77 = .ok (.getfield 40, 3) := by decide +kernel
end
section
theorem dX3_measure_80 : decode cX3_measure 80 = .ok (.iload_n 2, 1) := by decide +kernel
theorem dX3_measure_81 : decode cX3_measure 81 = .ok (.iaload, 1) := by decide +kernel
theorem dX3_measure_82 : decode cX3_measure 82 = .ok (.aload_n 1, 1) := by decide +kernel
theorem dX3_measure_83 : decode cX3_measure 83 = .ok (.invokevirtual 128, 3) := by decide +kernel
theorem dX3_measure_86 : decode cX3_measure 86 = .ok (.iinc 2 1, 3) := by decide +kernel
theorem dX3_measure_89 : decode cX3_measure 89 = .ok (.goto (-29), 3) := by decide +kernel
theorem dX3_measure_92 : decode cX3_measure 92 = .ok (.return_, 1) := by decide +kernel
theorem dX3_measureBackFrom_0 : decode cX3_measureBackFrom 0 = .ok (.aload_n 0, 1) := by decide +kernel
theorem dX3_measureBackFrom_1 : decode cX3_measureBackFrom 1 = .ok (.getfield 28, 3) := by decide +kernel
theorem dX3_measureBackFrom_4 : decode cX3_measureBackFrom 4 = .ok (.iload_n 1, 1) := by decide +kernel
theorem dX3_measureBackFrom_5 : decode cX3_measureBackFrom 5 = .ok (.iaload, 1) := by decide +kernel
theorem dX3_measureBackFrom_6 : decode cX3_measureBackFrom 6 = .ok (.istore_n 3, 1) := by decide +kernel
theorem dX3_measureBackFrom_7 : decode cX3_measureBackFrom 7 = .ok (.iconst 0, 1) := by decide +kernel
theorem dX3_measureBackFrom_8 : decode cX3_measureBackFrom 8 = .ok (.istore 4, 2) := by decide +kernel
theorem dX3_measureBackFrom_10 : decode cX3_measureBackFrom 10 = .ok (.iload 4, 2) := by decide +kernel
theorem dX3_measureBackFrom_12 : decode cX3_measureBackFrom 12 = .ok (.sipush 1200, 3) := by decide +kernel
theorem dX3_measureBackFrom_15 : decode cX3_measureBackFrom 15 = .ok (.if_icmp .ge 75, 3) := by decide +kernel
theorem dX3_measureBackFrom_18 : decode cX3_measureBackFrom 18 = .ok (.iload_n 3, 1) := by decide +kernel
theorem dX3_measureBackFrom_19 : decode cX3_measureBackFrom 19 = .ok (.ifCond .lt 71, 3) := by decide +kernel
theorem dX3_measureBackFrom_22 : decode cX3_measureBackFrom 22 = .ok (.iload_n 3, 1) := by decide +kernel
theorem dX3_measureBackFrom_23 : decode cX3_measureBackFrom 23 = .ok (.sipush 1200, 3) := by decide +kernel
theorem dX3_measureBackFrom_26 : decode cX3_measureBackFrom 26 = .ok (.if_icmp .ge 64, 3) := by decide +kernel
theorem dX3_measureBackFrom_29 : decode cX3_measureBackFrom 29 = .ok (.iload_n 3, 1) := by decide +kernel
theorem dX3_measureBackFrom_30 : decode cX3_measureBackFrom 30 = .ok (.bipush 8, 2) := by decide +kernel
theorem dX3_measureBackFrom_32 : decode cX3_measureBackFrom 32 = .ok (.idiv, 1) := by decide +kernel
theorem dX3_measureBackFrom_33 : decode cX3_measureBackFrom 33 = .ok (.istore 5, 2) := by decide +kernel
theorem dX3_measureBackFrom_35 : decode cX3_measureBackFrom 35 = .ok (.aload_n 0, 1) := by decide +kernel
theorem dX3_measureBackFrom_36 : decode cX3_measureBackFrom 36 = .ok (.getfield 37, 3) := by decide +kernel
theorem dX3_measureBackFrom_39 : decode cX3_measureBackFrom 39 = .ok (.iload 5, 2) := by decide +kernel
theorem dX3_measureBackFrom_41 : decode cX3_measureBackFrom 41 = .ok (.iaload, 1) := by decide +kernel
theorem dX3_measureBackFrom_42 : decode cX3_measureBackFrom 42 = .ok (.bipush (-9), 2) := by decide +kernel
theorem dX3_measureBackFrom_44 : decode cX3_measureBackFrom 44 = .ok (.if_icmp .ne 33, 3) := by decide +kernel
theorem dX3_measureBackFrom_47 : decode cX3_measureBackFrom 47 = .ok (.iload 5, 2) := by decide +kernel
theorem dX3_measureBackFrom_49 : decode cX3_measureBackFrom 49 = .ok (.aload_n 2, 1) := by decide +kernel
theorem dX3_measureBackFrom_50 : decode cX3_measureBackFrom 50 = .ok (.arraylength, 1) := by decide +kernel
theorem dX3_measureBackFrom_51 : decode cX3_measureBackFrom 51 = .ok (.if_icmp .ge 26, 3) := by decide +kernel
theorem dX3_measureBackFrom_54 : decode cX3_measureBackFrom 54 = .ok (.aload_n 2, 1) := by decide +kernel
theorem dX3_measureBackFrom_55 : decode cX3_measureBackFrom 55 = .ok (.iload 5, 2) := by decide +kernel
theorem dX3_measureBackFrom_57 : decode cX3_measureBackFrom 57 = .ok (.iaload, 1) := by decide +kernel
theorem dX3_measureBackFrom_58 : decode cX3_measureBackFrom 58 = .ok (.bipush (-9), 2) := by decide +kernel
theorem dX3_measureBackFrom_60 : decode cX3_measureBackFrom 60 = .ok (.if_icmp .ne 17, 3) := by decide +kernel
theorem dX3_measureBackFrom_63 : decode cX3_measureBackFrom 63 = .ok (.aload_n 0, 1) := by decide +kernel
theorem dX3_measureBackFrom_64 : decode cX3_measureBackFrom 64 = .ok (.iload 5, 2) := by decide +kernel
theorem dX3_measureBackFrom_66 : decode cX3_measureBackFrom 66 = .ok (.aload_n 0, 1) := by decide +kernel
theorem dX3_measureBackFrom_67 : decode cX3_measureBackFrom 67 = .ok (.getfield 37, 3) := by decide +kernel
theorem dX3_measureBackFrom_70 : decode cX3_measureBackFrom 70 = .ok (.iload_n 1, 1) := by decide +kernel
theorem dX3_measureBackFrom_71 : decode cX3_measureBackFrom 71 = .ok (.iaload, 1) := by decide +kernel
theorem dX3_measureBackFrom_72 : decode cX3_measureBackFrom 72 = .ok (.iconst 1, 1) := by decide +kernel
theorem dX3_measureBackFrom_73 : decode cX3_measureBackFrom 73 = .ok (.iadd, 1) := by decide +kernel
theorem dX3_measureBackFrom_74 : decode cX3_measureBackFrom 74 = .ok (.invokevirtual 124, 3) := by decide +kernel
theorem dX3_measureBackFrom_77 : decode cX3_measureBackFrom 77 = .ok (.aload_n 0, 1) := by decide +kernel
theorem dX3_measureBackFrom_78 : decode cX3_measureBackFrom 78 = .ok (.getfield 31, 3) := by decide +kernel
theorem dX3_measureBackFrom_81 : decode cX3_measureBackFrom 81 = .ok (.iload_n 3, 1) := by decide +kernel
theorem dX3_measureBackFrom_82 : decode cX3_measureBackFrom 82 = .ok (.iaload, 1) := by decide +kernel
theorem dX3_measureBackFrom_83 : decode cX3_measureBackFrom 83 = .ok (.istore_n 3, 1) := by decide +kernel
theorem dX3_measureBackFrom_84 : decode cX3_measureBackFrom 84 = .ok (.iinc 4 1, 3) := by decide +kernel
theorem dX3_measureBackFrom_87 : decode cX3_measureBackFrom 87 = .ok (.goto (-77), 3) := by decide +kernel
theorem dX3_measureBackFrom_90 : decode cX3_measureBackFrom 90 = .ok (.return_, 1) := by decide +kernel
theorem dX3_enqueue_0 : decode cX3_enqueue 0 = .ok (.aload_n 0, 1) := by decide +kernel
theorem dX3_enqueue_1 : decode cX3_enqueue 1 = .ok (.getfield 43, 3) := by decide +kernel
theorem dX3_enqueue_4 : decode cX3_enqueue 4 = .ok (.sipush 150, 3) := by decide +kernel
theorem dX3_enqueue_7 : decode cX3_enqueue 7 = .ok (.if_icmp .ge 30, 3) := by decide +kernel
theorem dX3_enqueue_10 : decode cX3_enqueue 10 = .ok (.aload_n 0, 1) := by decide +kernel
theorem dX3_enqueue_11 : decode cX3_enqueue 11 = .ok (.getfield 37, 3) := by decide +kernel
theorem dX3_enqueue_14 : decode cX3_enqueue 14 = .ok (.iload_n 1, 1) := by decide +kernel
theorem dX3_enqueue_15 : decode cX3_enqueue 15 = .ok (.iload_n 2, 1) := by decide +kernel
theorem dX3_enqueue_16 : decode cX3_enqueue 16 = .ok (.iastore, 1) := by decide +kernel
theorem dX3_enqueue_17 : decode cX3_enqueue 17 = .ok (.aload_n 0, 1) := by decide +kernel
theorem dX3_enqueue_18 : decode cX3_enqueue 18 = .ok (.getfield 40, 3) := by decide +kernel
theorem dX3_enqueue_21 : decode cX3_enqueue 21 = .ok (.aload_n 0, 1) := by decide +kernel
theorem dX3_enqueue_22 : decode cX3_enqueue 22 = .ok (.getfield 43, 3) := by decide +kernel
theorem dX3_enqueue_25 : decode cX3_enqueue 25 = .ok (.iload_n 1, 1) := by decide +kernel
theorem dX3_enqueue_26 : decode cX3_enqueue 26 = .ok (.iastore, 1) := by decide +kernel
theorem dX3_enqueue_27 : decode cX3_enqueue 27 = .ok (.aload_n 0, 1) := by decide +kernel
theorem dX3_enqueue_28 : decode cX3_enqueue 28 = .ok (.dup, 1) := by decide +kernel
theorem dX3_enqueue_29 : decode cX3_enqueue 29 = .ok (.getfield 43, 3) := by decide +kernel
theorem dX3_enqueue_32 : decode cX3_enqueue 32 = .ok (.iconst 1, 1) := by decide +kernel
theorem dX3_enqueue_33 : decode cX3_enqueue 33 = .ok (.iadd, 1) := by decide +kernel
theorem dX3_enqueue_34 : decode cX3_enqueue 34 = .ok (.putfield 43, 3) := by decide +kernel
theorem dX3_enqueue_37 : decode cX3_enqueue 37 = .ok (.return_, 1) := by decide +kernel
theorem dX3_countStuck_0 : decode cX3_countStuck 0 = .ok (.aload_n 0, 1) := by decide +kernel
theorem dX3_countStuck_1 : decode cX3_countStuck 1 = .ok (.getfield 53, 3) := by decide +kernel
theorem dX3_countStuck_4 : decode cX3_countStuck 4 = .ok (.aload_n 0, 1) := by decide +kernel
theorem dX3_countStuck_5 : decode cX3_countStuck 5 = .ok (.getfield 43, 3) := by decide +kernel
theorem dX3_countStuck_8 : decode cX3_countStuck 8 = .ok (.isub, 1) := by decide +kernel
theorem dX3_countStuck_9 : decode cX3_countStuck 9 = .ok (.ireturn, 1) := by decide +kernel
theorem dX3_eventToFinish_0 : decode cX3_eventToFinish 0 = .ok (.iload_n 1, 1) := by decide +kernel
theorem dX3_eventToFinish_1 : decode cX3_eventToFinish 1 = .ok (.istore_n 3, 1) := by decide +kernel
theorem dX3_eventToFinish_2 : decode cX3_eventToFinish 2 = .ok (.iconst 0, 1) := by decide +kernel
theorem dX3_eventToFinish_3 : decode cX3_eventToFinish 3 = .ok (.istore 4, 2) := by decide +kernel
theorem dX3_eventToFinish_5 : decode cX3_eventToFinish 5 = .ok (.iload 4, 2) := by decide +kernel
theorem dX3_eventToFinish_7 : decode cX3_eventToFinish 7 = .ok (.iload_n 2, 1) := by decide +kernel
theorem dX3_eventToFinish_8 : decode cX3_eventToFinish 8 = .ok (.if_icmp .ge 28, 3) := by decide +kernel
theorem dX3_eventToFinish_11 : decode cX3_eventToFinish 11 = .ok (.aload_n 0, 1) := by decide +kernel
theorem dX3_eventToFinish_12 : decode cX3_eventToFinish 12 = .ok (.iload_n 3, 1) := by decide +kernel
theorem dX3_eventToFinish_13 : decode cX3_eventToFinish 13 = .ok (.invokevirtual 107, 3) := by decide +kernel
theorem dX3_eventToFinish_16 : decode cX3_eventToFinish 16 = .ok (.ifCond .eq 20, 3) := by decide +kernel
theorem dX3_eventToFinish_19 : decode cX3_eventToFinish 19 = .ok (.aload_n 0, 1) := by decide +kernel
theorem dX3_eventToFinish_20 : decode cX3_eventToFinish 20 = .ok (.iload_n 3, 1) := by decide +kernel
theorem dX3_eventToFinish_21 : decode cX3_eventToFinish 21 = .ok (.aload_n 0, 1) := by decide +kernel
theorem dX3_eventToFinish_22 : decode cX3_eventToFinish 22 = .ok (.iload_n 3, 1) := by decide +kernel
theorem dX3_eventToFinish_23 : decode cX3_eventToFinish 23 = .ok (.invokevirtual 132, 3) := by decide +kernel
theorem dX3_eventToFinish_26 : decode cX3_eventToFinish 26 = .ok (.invokevirtual 135, 3) := by decide +kernel
theorem dX3_eventToFinish_29 : decode cX3_eventToFinish 29 = .ok (.istore_n 3, 1) := by decide +kernel
theorem dX3_eventToFinish_30 : decode cX3_eventToFinish 30 = .ok (.iinc 4 1, 3) := by decide +kernel
theorem dX3_eventToFinish_33 : decode cX3_eventToFinish 33 = .ok (.goto (-28), 3) := by decide +kernel
theorem dX3_eventToFinish_36 : decode cX3_eventToFinish 36 = .ok (.aload_n 0, 1) := by decide +kernel
theorem dX3_eventToFinish_37 : decode cX3_eventToFinish 37 = .ok (.iload_n 3, 1) := by decide +kernel
theorem dX3_eventToFinish_38 : decode cX3_eventToFinish 38 = .ok (.invokevirtual 132, 3) := by decide +kernel
theorem dX3_eventToFinish_41 : decode cX3_eventToFinish 41 = .ok (.ireturn, 1) := by decide +kernel
theorem dX3_nearerBy_0 : decode cX3_nearerBy 0 = .ok (.aload_n 0, 1) := by decide +kernel
theorem dX3_nearerBy_1 : decode cX3_nearerBy 1 = .ok (.iload_n 1, 1) := by decide +kernel
theorem dX3_nearerBy_2 : decode cX3_nearerBy 2 = .ok (.invokevirtual 136, 3) := by decide +kernel
theorem dX3_nearerBy_5 : decode cX3_nearerBy 5 = .ok (.ifCond .le 39, 3) := by decide +kernel
theorem dX3_nearerBy_8 : decode cX3_nearerBy 8 = .ok (.iconst 0, 1) := by decide +kernel
theorem dX3_nearerBy_9 : decode cX3_nearerBy 9 = .ok (.istore_n 2, 1) := by decide +kernel
theorem dX3_nearerBy_10 : decode cX3_nearerBy 10 = .ok (.iload_n 2, 1) := by decide +kernel
theorem dX3_nearerBy_11 : decode cX3_nearerBy 11 = .ok (.bipush 8, 2) := by decide +kernel
theorem dX3_nearerBy_13 : decode cX3_nearerBy 13 = .ok (.if_icmp .ge 31, 3) := by decide +kernel
theorem dX3_nearerBy_16 : decode cX3_nearerBy 16 = .ok (.aload_n 0, 1) := by decide +kernel
theorem dX3_nearerBy_17 : decode cX3_nearerBy 17 = .ok (.aload_n 0, 1) := by decide +kernel
theorem dX3_nearerBy_18 : decode cX3_nearerBy 18 = .ok (.iload_n 1, 1) := by decide +kernel
theorem dX3_nearerBy_19 : decode cX3_nearerBy 19 = .ok (.iload_n 2, 1) := by decide +kernel
theorem dX3_nearerBy_20 : decode cX3_nearerBy 20 = .ok (.invokevirtual 135, 3) := by decide +kernel
theorem dX3_nearerBy_23 : decode cX3_nearerBy 23 = .ok (.invokevirtual 136, 3) := by decide +kernel
theorem dX3_nearerBy_26 : decode cX3_nearerBy 26 = .ok (.aload_n 0, 1) := by decide +kernel
theorem dX3_nearerBy_27 : decode cX3_nearerBy 27 = .ok (.iload_n 1, 1) := by decide +kernel
theorem dX3_nearerBy_28 : decode cX3_nearerBy 28 = .ok (.invokevirtual 136, 3) := by decide +kernel
theorem dX3_nearerBy_31 : decode cX3_nearerBy 31 = .ok (.iconst 1, 1) := by decide +kernel
theorem dX3_nearerBy_32 : decode cX3_nearerBy 32 = .ok (.isub, 1) := by decide +kernel
theorem dX3_nearerBy_33 : decode cX3_nearerBy 33 = .ok (.if_icmp .ne 5, 3) := by decide +kernel
theorem dX3_nearerBy_36 : decode cX3_nearerBy 36 = .ok (.iload_n 2, 1) := by decide +kernel
theorem dX3_nearerBy_37 : decode cX3_nearerBy 37 = .ok (.ireturn, 1) := by decide +kernel
theorem dX3_nearerBy_38 : decode cX3_nearerBy 38 = .ok (.iinc 2 1, 3) := by decide +kernel
theorem dX3_nearerBy_41 : decode cX3_nearerBy 41 = .ok (.goto (-31), 3) := by decide +kernel
theorem dX3_nearerBy_44 : decode cX3_nearerBy 44 = .ok (.bipush (-9), 2) := by decide +kernel
theorem dX3_nearerBy_46 : decode cX3_nearerBy 46 = .ok (.ireturn, 1) := by decide +kernel
theorem dX3_has_0 : decode cX3_has 0 = .ok (.iload_n 1, 1) := by decide +kernel
theorem dX3_has_1 : decode cX3_has 1 = .ok (.ifCond .lt 22, 3) := by decide +kernel
theorem dX3_has_4 : decode cX3_has 4 = .ok (.iload_n 1, 1) := by decide +kernel
theorem dX3_has_5 : decode cX3_has 5 = .ok (.aload_n 0, 1) := by decide +kernel
theorem dX3_has_6 : decode cX3_has 6 = .ok (.getfield 53, 3) := by decide +kernel
theorem dX3_has_9 : decode cX3_has 9 = .ok (.if_icmp .ge 14, 3) := by decide +kernel
theorem dX3_has_12 : decode cX3_has 12 = .ok (.iload_n 1, 1) := by decide +kernel
theorem dX3_has_13 : decode cX3_has 13 = .ok (.sipush 150, 3) := by decide +kernel
theorem dX3_has_16 : decode cX3_has 16 = .ok (.if_icmp .ge 7, 3) := by decide +kernel
theorem dX3_has_19 : decode cX3_has 19 = .ok (.iconst 1, 1) := by decide +kernel
theorem dX3_has_20 : decode cX3_has 20 = .ok (.goto 4, 3) := by decide +kernel
theorem dX3_has_23 : decode cX3_has 23 = .ok (.iconst 0, 1) := by decide +kernel
theorem dX3_has_24 : decode cX3_has 24 = .ok (.ireturn, 1) := by decide +kernel
theorem dX3_stateIn_0 : decode cX3_stateIn 0 = .ok (.aload_n 0, 1) := by decide +kernel
theorem dX3_stateIn_1 : decode cX3_stateIn 1 = .ok (.iload_n 1, 1) := by decide +kernel
theorem dX3_stateIn_2 : decode cX3_stateIn 2 = .ok (.invokevirtual 107, 3) := by decide +kernel
theorem dX3_stateIn_5 : decode cX3_stateIn 5 = .ok (.ifCond .eq 19, 3) := by decide +kernel
theorem dX3_stateIn_8 : decode cX3_stateIn 8 = .ok (.aload_n 0, 1) := by decide +kernel
theorem dX3_stateIn_9 : decode cX3_stateIn 9 = .ok (.getfield 9, 3) := by decide +kernel
theorem dX3_stateIn_12 : decode cX3_stateIn 12 = .ok (.iload_n 1, 1) := by decide +kernel
theorem dX3_stateIn_13 : decode cX3_stateIn 13 = .ok (.iaload, 1) := by decide +kernel
theorem dX3_stateIn_14 : decode cX3_stateIn 14 = .ok (.iload_n 2, 1) := by decide +kernel
theorem dX3_stateIn_15 : decode cX3_stateIn 15 = .ok (.iconst 3, 1) := by decide +kernel
theorem dX3_stateIn_16 : decode cX3_stateIn 16 = .ok (.imul, 1) := by decide +kernel
theorem dX3_stateIn_17 : decode cX3_stateIn 17 = .ok (.ishr, 1) := by decide +kernel
theorem dX3_stateIn_18 : decode cX3_stateIn 18 = .ok (.bipush 7, 2) := by decide +kernel
theorem dX3_stateIn_20 : decode cX3_stateIn 20 = .ok (.iand, 1) := by decide +kernel
theorem dX3_stateIn_21 : decode cX3_stateIn 21 = .ok (.goto 5, 3) := by decide +kernel
theorem dX3_stateIn_24 : decode cX3_stateIn 24 = .ok (.bipush (-9), 2) := by decide +kernel
theorem dX3_stateIn_26 : decode cX3_stateIn 26 = .ok (.ireturn, 1) := by decide +kernel
theorem dX3_target_0 : decode cX3_target 0 = .ok (.aload_n 0, 1) := by decide +kernel
theorem dX3_target_1 : decode cX3_target 1 = .ok (.iload_n 1, 1) := by decide +kernel
theorem dX3_target_2 : decode cX3_target 2 = .ok (.invokevirtual 107, 3) := by decide +kernel
theorem dX3_target_5 : decode cX3_target 5 = .ok (.ifCond .eq 24, 3) := by decide +kernel
theorem dX3_target_8 : decode cX3_target 8 = .ok (.iload_n 2, 1) := by decide +kernel
theorem dX3_target_9 : decode cX3_target 9 = .ok (.invokestatic 139, 3) := by decide +kernel
theorem dX3_target_12 : decode cX3_target 12 = .ok (.ifCond .eq 17, 3) := by decide +kernel
theorem dX3_target_15 : decode cX3_target 15 = .ok (.aload_n 0, 1) := by decide +kernel
theorem dX3_target_16 : decode cX3_target 16 = .ok (.getfield 25, 3) := by decide +kernel
theorem dX3_target_19 : decode cX3_target 19 = .ok (.iload_n 1, 1) := by decide +kernel
theorem dX3_target_20 : decode cX3_target 20 = .ok (.bipush 8, 2) := by decide +kernel
theorem dX3_target_22 : decode cX3_target 22 = .ok (.imul, 1) := by decide +kernel
theorem dX3_target_23 : decode cX3_target 23 = .ok (.iload_n 2, 1) := by decide +kernel
theorem dX3_target_24 : decode cX3_target 24 = .ok (.iadd, 1) := by decide +kernel
theorem dX3_target_25 : decode cX3_target 25 = .ok (.iaload, 1) := by decide +kernel
theorem dX3_target_26 : decode cX3_target 26 = .ok (.goto 5, 3) := by decide +kernel
theorem dX3_target_29 : decode cX3_target 29 = .ok (.bipush (-9), 2) := by decide +kernel
theorem dX3_target_31 : decode cX3_target 31 = .ok (.ireturn, 1) := by decide +kernel
theorem dX3_isFinished_0 : decode cX3_isFinished 0 = .ok (.aload_n 0, 1) := by decide +kernel
theorem dX3_isFinished_1 : decode cX3_isFinished 1 = .ok (.iload_n 1, 1) := by decide +kernel
theorem dX3_isFinished_2 : decode cX3_isFinished 2 = .ok (.invokevirtual 107, 3) := by decide +kernel
theorem dX3_isFinished_5 : decode cX3_isFinished 5 = .ok (.ifCond .eq 16, 3) := by decide +kernel
theorem dX3_isFinished_8 : decode cX3_isFinished 8 = .ok (.aload_n 0, 1) := by decide +kernel
theorem dX3_isFinished_9 : decode cX3_isFinished 9 = .ok (.getfield 21, 3) := by decide +kernel
theorem dX3_isFinished_12 : decode cX3_isFinished 12 = .ok (.iload_n 1, 1) := by decide +kernel
theorem dX3_isFinished_13 : decode cX3_isFinished 13 = .ok (.baload, 1) := by decide +kernel
theorem dX3_isFinished_14 : decode cX3_isFinished 14 = .ok (.ifCond .eq 7, 3) := by decide +kernel
theorem dX3_isFinished_17 : decode cX3_isFinished 17 = .ok (.iconst 1, 1) := by decide +kernel
theorem dX3_isFinished_18 : decode cX3_isFinished 18 = .ok (.goto 4, 3) := by decide +kernel
theorem dX3_isFinished_21 : decode cX3_isFinished 21 = .ok (.iconst 0, 1) := by decide +kernel
theorem dX3_isFinished_22 : decode cX3_isFinished 22 = .ok (.ireturn, 1) := by decide +kernel
theorem dX3_leadSet_0 : decode cX3_leadSet 0 = .ok (.aload_n 0, 1) := by decide +kernel
theorem dX3_leadSet_1 : decode cX3_leadSet 1 = .ok (.iload_n 1, 1) := by decide +kernel
theorem dX3_leadSet_2 : decode cX3_leadSet 2 = .ok (.invokevirtual 107, 3) := by decide +kernel
theorem dX3_leadSet_5 : decode cX3_leadSet 5 = .ok (.ifCond .eq 12, 3) := by decide +kernel
theorem dX3_leadSet_8 : decode cX3_leadSet 8 = .ok (.aload_n 0, 1) := by decide +kernel
theorem dX3_leadSet_9 : decode cX3_leadSet 9 = .ok (.getfield 15, 3) := by decide +kernel
theorem dX3_leadSet_12 : decode cX3_leadSet 12 = .ok (.iload_n 1, 1) := by decide +kernel
theorem dX3_leadSet_13 : decode cX3_leadSet 13 = .ok (.iaload, 1) := by decide +kernel
theorem dX3_leadSet_14 : decode cX3_leadSet 14 = .ok (.goto 4, 3) := by decide +kernel
theorem dX3_leadSet_17 : decode cX3_leadSet 17 = .ok (.iconst 0, 1) := by decide +kernel
theorem dX3_leadSet_18 : decode cX3_leadSet 18 = .ok (.ireturn, 1) := by decide +kernel
theorem dX3_clashSet_0 : decode cX3_clashSet 0 = .ok (.aload_n 0, 1) := by decide +kernel
theorem dX3_clashSet_1 : decode cX3_clashSet 1 = .ok (.iload_n 1, 1) := by decide +kernel
theorem dX3_clashSet_2 : decode cX3_clashSet 2 = .ok (.invokevirtual 107, 3) := by decide +kernel
theorem dX3_clashSet_5 : decode cX3_clashSet 5 = .ok (.ifCond .eq 14, 3) := by decide +kernel
theorem dX3_clashSet_8 : decode cX3_clashSet 8 = .ok (.aload_n 0, 1) := by decide +kernel
theorem dX3_clashSet_9 : decode cX3_clashSet 9 = .ok (.getfield 18, 3) := by decide +kernel
theorem dX3_clashSet_12 : decode cX3_clashSet 12 = .ok (.iload_n 1, 1) := by decide +kernel
theorem dX3_clashSet_13 : decode cX3_clashSet 13 = .ok (.iaload, 1) := by decide +kernel
theorem dX3_clashSet_14 : decode cX3_clashSet 14 = .ok (.iload_n 2, 1) := by decide +kernel
theorem dX3_clashSet_15 : decode cX3_clashSet 15 = .ok (.iand, 1) := by decide +kernel
theorem dX3_clashSet_16 : decode cX3_clashSet 16 = .ok (.goto 4, 3) := by decide +kernel
theorem dX3_clashSet_19 : decode cX3_clashSet 19 = .ok (.iconst 0, 1) := by decide +kernel
theorem dX3_clashSet_20 : decode cX3_clashSet 20 = .ok (.ireturn, 1) := by decide +kernel
theorem dX3_farOf_0 : decode cX3_farOf 0 = .ok (.aload_n 0, 1) := by decide +kernel
theorem dX3_farOf_1 : decode cX3_farOf 1 = .ok (.iload_n 1, 1) := by decide +kernel
theorem dX3_farOf_2 : decode cX3_farOf 2 = .ok (.invokevirtual 107, 3) := by decide +kernel
theorem dX3_farOf_5 : decode cX3_farOf 5 = .ok (.ifCond .eq 12, 3) := by decide +kernel
theorem dX3_farOf_8 : decode cX3_farOf 8 = .ok (.aload_n 0, 1) := by decide +kernel
theorem dX3_farOf_9 : decode cX3_farOf 9 = .ok (.getfield 37, 3) := by decide +kernel
theorem dX3_farOf_12 : decode cX3_farOf 12 = .ok (.iload_n 1, 1) := by decide +kernel
theorem dX3_farOf_13 : decode cX3_farOf 13 = .ok (.iaload, 1) := by decide +kernel
theorem dX3_farOf_14 : decode cX3_farOf 14 = .ok (.goto 5, 3) := by decide +kernel
theorem dX3_farOf_17 : decode cX3_farOf 17 = .ok (.bipush (-9), 2) := by decide +kernel
theorem dX3_farOf_19 : decode cX3_farOf 19 = .ok (.ireturn, 1) := by decide +kernel
theorem dX4_init_0 : decode cX4_init 0 = .ok (.aload_n 0, 1) := by decide +kernel
theorem dX4_init_1 : decode cX4_init 1 = .ok (.invokespecial 3, 3) := by decide +kernel
theorem dX4_init_4 : decode cX4_init 4 = .ok (.aload_n 0, 1) := by decide +kernel
theorem dX4_init_5 : decode cX4_init 5 = .ok (.iconst 0, 1) := by decide +kernel
theorem dX4_init_6 : decode cX4_init 6 = .ok (.putfield 11, 3) := by decide +kernel
theorem dX4_init_9 : decode cX4_init 9 = .ok (.aload_n 0, 1) := by decide +kernel
theorem dX4_init_10 : decode cX4_init 10 = .ok (.iconst 0, 1) := by decide +kernel
theorem dX4_init_11 : decode cX4_init 11 = .ok (.putfield 15, 3) := by decide +kernel
theorem dX4_init_14 : decode cX4_init 14 = .ok (.aload_n 0, 1) := by decide +kernel
theorem dX4_init_15 : decode cX4_init 15 = .ok (.iconst 0, 1) := by decide +kernel
theorem dX4_init_16 : decode cX4_init 16 = .ok (.putfield 18, 3) := by decide +kernel
theorem dX4_init_19 : decode cX4_init 19 = .ok (.return_, 1) := by decide +kernel
theorem dX4_read_0 : decode cX4_read 0 = .ok (.aload_n 2, 1) := by decide +kernel
theorem dX4_read_1 : decode cX4_read 1 = .ok (.iload_n 3, 1) := by decide +kernel
theorem dX4_read_2 : decode cX4_read 2 = .ok (.invokevirtual 21, 3) := by decide +kernel
theorem dX4_read_5 : decode cX4_read 5 = .ok (.aload_n 0, 1) := by decide +kernel
theorem dX4_read_6 : decode cX4_read 6 = .ok (.iconst 0, 1) := by decide +kernel
theorem dX4_read_7 : decode cX4_read 7 = .ok (.putfield 11, 3) := by decide +kernel
theorem dX4_read_10 : decode cX4_read 10 = .ok (.iconst 0, 1) := by decide +kernel
theorem dX4_read_11 : decode cX4_read 11 = .ok (.istore 4, 2) := by decide +kernel
theorem dX4_read_13 : decode cX4_read 13 = .ok (.iload 4, 2) := by decide +kernel
theorem dX4_read_15 : decode cX4_read 15 = .ok (.aload_n 1, 1) := by decide +kernel
theorem dX4_read_16 : decode cX4_read 16 = .ok (.getfield 27, 3) := by decide +kernel
theorem dX4_read_19 : decode cX4_read 19 = .ok (.if_icmp .ge 34, 3) := by decide +kernel
theorem dX4_read_22 : decode cX4_read 22 = .ok (.iload 4, 2) := by decide +kernel
theorem dX4_read_24 : decode cX4_read 24 = .ok (.bipush 60, 2) := by decide +kernel
theorem dX4_read_26 : decode cX4_read 26 = .ok (.if_icmp .ge 27, 3) := by decide +kernel
theorem dX4_read_29 : decode cX4_read 29 = .ok (.aload_n 0, 1) := by decide +kernel
theorem dX4_read_30 : decode cX4_read 30 = .ok (.aload_n 1, 1) := by decide +kernel
theorem dX4_read_31 : decode cX4_read 31 = .ok (.getfield 32, 3) := by decide +kernel
theorem dX4_read_34 : decode cX4_read 34 = .ok (.iload 4, 2) := by decide +kernel
theorem dX4_read_36 : decode cX4_read 36 = .ok (.iaload, 1) := by decide +kernel
theorem dX4_read_37 : decode cX4_read 37 = .ok (.aload_n 2, 1) := by decide +kernel
theorem dX4_read_38 : decode cX4_read 38 = .ok (.invokevirtual 36, 3) := by decide +kernel
theorem dX4_read_41 : decode cX4_read 41 = .ok (.ifCond .ne 6, 3) := by decide +kernel
theorem dX4_read_44 : decode cX4_read 44 = .ok (.iload 4, 2) := by decide +kernel
theorem dX4_read_46 : decode cX4_read 46 = .ok (.ireturn, 1) := by decide +kernel
theorem dX4_read_47 : decode cX4_read 47 = .ok (.iinc 4 1, 3) := by decide +kernel
theorem dX4_read_50 : decode cX4_read 50 = .ok (.goto (-37), 3) := by decide +kernel
theorem dX4_read_53 : decode cX4_read 53 = .ok (.aload_n 0, 1) := by decide +kernel
theorem dX4_read_54 : decode cX4_read 54 = .ok (.getfield 11, 3) := by decide +kernel
theorem dX4_read_57 : decode cX4_read 57 = .ok (.iconst 5, 1) := by decide +kernel
theorem dX4_read_58 : decode cX4_read 58 = .ok (.if_icmp .ne 8, 3) := by decide +kernel
theorem dX4_read_61 : decode cX4_read 61 = .ok (.bipush (-9), 2) := by decide +kernel
theorem dX4_read_63 : decode cX4_read 63 = .ok (.goto 7, 3) := by decide +kernel
theorem dX4_read_66 : decode cX4_read 66 = .ok (.aload_n 1, 1) := by decide +kernel
theorem dX4_read_67 : decode cX4_read 67 = .ok (.getfield 27, 3) := by decide +kernel
theorem dX4_read_70 : decode cX4_read 70 = .ok (.ireturn, 1) := by decide +kernel
theorem dX4_takes_0 : decode cX4_takes 0 = .ok (.aload_n 0, 1) := by decide +kernel
theorem dX4_takes_1 : decode cX4_takes 1 = .ok (.getfield 11, 3) := by decide +kernel
theorem dX4_takes_4 : decode cX4_takes 4 = .ok (.tableswitch 69 0 4 #[36, 42, 48, 55, 62], 36) := by decide +kernel
theorem dX4_takes_40 : decode cX4_takes 40 = .ok (.aload_n 0, 1) := by decide +kernel
theorem dX4_takes_41 : decode cX4_takes 41 = .ok (.iload_n 1, 1) := by decide +kernel
theorem dX4_takes_42 : decode cX4_takes 42 = .ok (.invokevirtual 40, 3) := by decide +kernel
theorem dX4_takes_45 : decode cX4_takes 45 = .ok (.ireturn, 1) := by decide +kernel
theorem dX4_takes_46 : decode cX4_takes 46 = .ok (.aload_n 0, 1) := by decide +kernel
theorem dX4_takes_47 : decode cX4_takes 47 = .ok (.iload_n 1, 1) := by decide +kernel
theorem dX4_takes_48 : decode cX4_takes 48 = .ok (.invokevirtual 44, 3) := by decide +kernel
theorem dX4_takes_51 : decode cX4_takes 51 = .ok (.ireturn, 1) := by decide +kernel
theorem dX4_takes_52 : decode cX4_takes 52 = .ok (.aload_n 0, 1) := by decide +kernel
theorem dX4_takes_53 : decode cX4_takes 53 = .ok (.iload_n 1, 1) := by decide +kernel
theorem dX4_takes_54 : decode cX4_takes 54 = .ok (.aload_n 2, 1) := by decide +kernel
theorem dX4_takes_55 : decode cX4_takes 55 = .ok (.invokevirtual 47, 3) := by decide +kernel
theorem dX4_takes_58 : decode cX4_takes 58 = .ok (.ireturn, 1) := by decide +kernel
theorem dX4_takes_59 : decode cX4_takes 59 = .ok (.aload_n 0, 1) := by decide +kernel
theorem dX4_takes_60 : decode cX4_takes 60 = .ok (.iload_n 1, 1) := by decide +kernel
theorem dX4_takes_61 : decode cX4_takes 61 = .ok (.aload_n 2, 1) := by decide +kernel
theorem dX4_takes_62 : decode cX4_takes 62 = .ok (.invokevirtual 50, 3) := by decide +kernel
theorem dX4_takes_65 : decode cX4_takes 65 = .ok (.ireturn, 1) := by decide +kernel
theorem dX4_takes_66 : decode cX4_takes 66 = .ok (.aload_n 0, 1) := by decide +kernel
theorem dX4_takes_67 : decode cX4_takes 67 = .ok (.iload_n 1, 1) := by decide +kernel
theorem dX4_takes_68 : decode cX4_takes 68 = .ok (.aload_n 2, 1) := by decide +kernel
theorem dX4_takes_69 : decode cX4_takes 69 = .ok (.invokevirtual 53, 3) := by decide +kernel
theorem dX4_takes_72 : decode cX4_takes 72 = .ok (.ireturn, 1) := by decide +kernel
theorem dX4_takes_73 : decode cX4_takes 73 = .ok (.aload_n 0, 1) := by decide +kernel
theorem dX4_takes_74 : decode cX4_takes 74 = .ok (.iload_n 1, 1) := by decide +kernel
theorem dX4_takes_75 : decode cX4_takes 75 = .ok (.invokevirtual 56, 3) := by decide +kernel
theorem dX4_takes_78 : decode cX4_takes 78 = .ok (.ireturn, 1) := by decide +kernel
theorem dX4_opensItem_0 : decode cX4_opensItem 0 = .ok (.iload_n 1, 1) := by decide +kernel
theorem dX4_opensItem_1 : decode cX4_opensItem 1 = .ok (.bipush 42, 2) := by decide +kernel
theorem dX4_opensItem_3 : decode cX4_opensItem 3 = .ok (.if_icmp .ne 10, 3) := by decide +kernel
theorem dX4_opensItem_6 : decode cX4_opensItem 6 = .ok (.aload_n 0, 1) := by decide +kernel
theorem dX4_opensItem_7 : decode cX4_opensItem 7 = .ok (.iconst 3, 1) := by decide +kernel
theorem dX4_opensItem_8 : decode cX4_opensItem 8 = .ok (.putfield 11, 3) := by decide +kernel
theorem dX4_opensItem_11 : decode cX4_opensItem 11 = .ok (.iconst 1, 1) := by decide +kernel
theorem dX4_opensItem_12 : decode cX4_opensItem 12 = .ok (.ireturn, 1) := by decide +kernel
theorem dX4_opensItem_13 : decode cX4_opensItem 13 = .ok (.iload_n 1, 1) := by decide +kernel
theorem dX4_opensItem_14 : decode cX4_opensItem 14 = .ok (.bipush 33, 2) := by decide +kernel
theorem dX4_opensItem_16 : decode cX4_opensItem 16 = .ok (.if_icmp .ne 10, 3) := by decide +kernel
theorem dX4_opensItem_19 : decode cX4_opensItem 19 = .ok (.aload_n 0, 1) := by decide +kernel
theorem dX4_opensItem_20 : decode cX4_opensItem 20 = .ok (.iconst 4, 1) := by decide +kernel
theorem dX4_opensItem_21 : decode cX4_opensItem 21 = .ok (.putfield 11, 3) := by decide +kernel
theorem dX4_opensItem_24 : decode cX4_opensItem 24 = .ok (.iconst 1, 1) := by decide +kernel
theorem dX4_opensItem_25 : decode cX4_opensItem 25 = .ok (.ireturn, 1) := by decide +kernel
theorem dX4_opensItem_26 : decode cX4_opensItem 26 = .ok (.aload_n 0, 1) := by decide +kernel
theorem dX4_opensItem_27 : decode cX4_opensItem 27 = .ok (.iload_n 1, 1) := by decide +kernel
theorem dX4_opensItem_28 : decode cX4_opensItem 28 = .ok (.bipush 48, 2) := by decide +kernel
theorem dX4_opensItem_30 : decode cX4_opensItem 30 = .ok (.isub, 1) := by decide +kernel
theorem dX4_opensItem_31 : decode cX4_opensItem 31 = .ok (.putfield 15, 3) := by decide +kernel
theorem dX4_opensItem_34 : decode cX4_opensItem 34 = .ok (.aload_n 0, 1) := by decide +kernel
theorem dX4_opensItem_35 : decode cX4_opensItem 35 = .ok (.iconst 1, 1) := by decide +kernel
theorem dX4_opensItem_36 : decode cX4_opensItem 36 = .ok (.putfield 11, 3) := by decide +kernel
theorem dX4_opensItem_39 : decode cX4_opensItem 39 = .ok (.aload_n 0, 1) := by decide +kernel
theorem dX4_opensItem_40 : decode cX4_opensItem 40 = .ok (.getfield 15, 3) := by decide +kernel
theorem dX4_opensItem_43 : decode cX4_opensItem 43 = .ok (.invokestatic 59, 3) := by decide +kernel
theorem dX4_opensItem_46 : decode cX4_opensItem 46 = .ok (.ireturn, 1) := by decide +kernel
theorem dX4_takesLetter_0 : decode cX4_takesLetter 0 = .ok (.aload_n 0, 1) := by decide +kernel
theorem dX4_takesLetter_1 : decode cX4_takesLetter 1 = .ok (.iload_n 1, 1) := by decide +kernel
theorem dX4_takesLetter_2 : decode cX4_takesLetter 2 = .ok (.bipush 97, 2) := by decide +kernel
theorem dX4_takesLetter_4 : decode cX4_takesLetter 4 = .ok (.isub, 1) := by decide +kernel
theorem dX4_takesLetter_5 : decode cX4_takesLetter 5 = .ok (.putfield 18, 3) := by decide +kernel
theorem dX4_takesLetter_8 : decode cX4_takesLetter 8 = .ok (.aload_n 0, 1) := by decide +kernel
theorem dX4_takesLetter_9 : decode cX4_takesLetter 9 = .ok (.iconst 2, 1) := by decide +kernel
theorem dX4_takesLetter_10 : decode cX4_takesLetter 10 = .ok (.putfield 11, 3) := by decide +kernel
theorem dX4_takesLetter_13 : decode cX4_takesLetter 13 = .ok (.aload_n 0, 1) := by decide +kernel
theorem dX4_takesLetter_14 : decode cX4_takesLetter 14 = .ok (.getfield 18, 3) := by decide +kernel
theorem dX4_takesLetter_17 : decode cX4_takesLetter 17 = .ok (.invokestatic 62, 3) := by decide +kernel
theorem dX4_takesLetter_20 : decode cX4_takesLetter 20 = .ok (.ireturn, 1) := by decide +kernel
theorem dX4_takesFigure_0 : decode cX4_takesFigure 0 = .ok (.aload_n 0, 1) := by decide +kernel
theorem dX4_takesFigure_1 : decode cX4_takesFigure 1 = .ok (.iconst 5, 1) := by decide +kernel
theorem dX4_takesFigure_2 : decode cX4_takesFigure 2 = .ok (.putfield 11, 3) := by decide +kernel
theorem dX4_takesFigure_5 : decode cX4_takesFigure 5 = .ok (.aload_n 2, 1) := by decide +kernel
theorem dX4_takesFigure_6 : decode cX4_takesFigure 6 = .ok (.aload_n 0, 1) := by decide +kernel
theorem dX4_takesFigure_7 : decode cX4_takesFigure 7 = .ok (.getfield 15, 3) := by decide +kernel
theorem dX4_takesFigure_10 : decode cX4_takesFigure 10 = .ok (.aload_n 0, 1) := by decide +kernel
theorem dX4_takesFigure_11 : decode cX4_takesFigure 11 = .ok (.getfield 18, 3) := by decide +kernel
theorem dX4_takesFigure_14 : decode cX4_takesFigure 14 = .ok (.iload_n 1, 1) := by decide +kernel
theorem dX4_takesFigure_15 : decode cX4_takesFigure 15 = .ok (.bipush 48, 2) := by decide +kernel
theorem dX4_takesFigure_17 : decode cX4_takesFigure 17 = .ok (.isub, 1) := by decide +kernel
theorem dX4_takesFigure_18 : decode cX4_takesFigure 18 = .ok (.invokevirtual 65, 3) := by decide +kernel
theorem dX4_takesFigure_21 : decode cX4_takesFigure 21 = .ok (.ireturn, 1) := by decide +kernel
theorem dX4_takesMark_0 : decode cX4_takesMark 0 = .ok (.aload_n 0, 1) := by decide +kernel
theorem dX4_takesMark_1 : decode cX4_takesMark 1 = .ok (.iconst 5, 1) := by decide +kernel
theorem dX4_takesMark_2 : decode cX4_takesMark 2 = .ok (.putfield 11, 3) := by decide +kernel
theorem dX4_takesMark_5 : decode cX4_takesMark 5 = .ok (.aload_n 2, 1) := by decide +kernel
theorem dX4_takesMark_6 : decode cX4_takesMark 6 = .ok (.iload_n 1, 1) := by decide +kernel
theorem dX4_takesMark_7 : decode cX4_takesMark 7 = .ok (.bipush 48, 2) := by decide +kernel
theorem dX4_takesMark_9 : decode cX4_takesMark 9 = .ok (.isub, 1) := by decide +kernel
theorem dX4_takesMark_10 : decode cX4_takesMark 10 = .ok (.invokevirtual 69, 3) := by decide +kernel
theorem dX4_takesMark_13 : decode cX4_takesMark 13 = .ok (.ireturn, 1) := by decide +kernel
theorem dX4_takesName_0 : decode cX4_takesName 0 = .ok (.aload_n 0, 1) := by decide +kernel
theorem dX4_takesName_1 : decode cX4_takesName 1 = .ok (.iconst 5, 1) := by decide +kernel
theorem dX4_takesName_2 : decode cX4_takesName 2 = .ok (.putfield 11, 3) := by decide +kernel
theorem dX4_takesName_5 : decode cX4_takesName 5 = .ok (.aload_n 2, 1) := by decide +kernel
theorem dX4_takesName_6 : decode cX4_takesName 6 = .ok (.iload_n 1, 1) := by decide +kernel
theorem dX4_takesName_7 : decode cX4_takesName 7 = .ok (.bipush 97, 2) := by decide +kernel
theorem dX4_takesName_9 : decode cX4_takesName 9 = .ok (.isub, 1) := by decide +kernel
theorem dX4_takesName_10 : decode cX4_takesName 10 = .ok (.invokevirtual 72, 3) := by decide +kernel
theorem dX4_takesName_13 : decode cX4_takesName 13 = .ok (.ireturn, 1) := by decide +kernel
theorem dX4_takesBlank_0 : decode cX4_takesBlank 0 = .ok (.aload_n 0, 1) := by decide +kernel
theorem dX4_takesBlank_1 : decode cX4_takesBlank 1 = .ok (.iconst 0, 1) := by decide +kernel
theorem dX4_takesBlank_2 : decode cX4_takesBlank 2 = .ok (.putfield 11, 3) := by decide +kernel
theorem dX4_takesBlank_5 : decode cX4_takesBlank 5 = .ok (.iload_n 1, 1) := by decide +kernel
theorem dX4_takesBlank_6 : decode cX4_takesBlank 6 = .ok (.bipush 32, 2) := by decide +kernel
theorem dX4_takesBlank_8 : decode cX4_takesBlank 8 = .ok (.if_icmp .ne 7, 3) := by decide +kernel
theorem dX4_takesBlank_11 : decode cX4_takesBlank 11 = .ok (.iconst 1, 1) := by decide +kernel
theorem dX4_takesBlank_12 : decode cX4_takesBlank 12 = .ok (.goto 4, 3) := by decide +kernel
theorem dX4_takesBlank_15 : decode cX4_takesBlank 15 = .ok (.iconst 0, 1) := by decide +kernel
theorem dX4_takesBlank_16 : decode cX4_takesBlank 16 = .ok (.ireturn, 1) := by decide +kernel
theorem dX5_init_0 : decode cX5_init 0 = .ok (.aload_n 0, 1) := by decide +kernel
theorem dX5_init_1 : decode cX5_init 1 = .ok (.invokespecial 3, 3) := by decide +kernel
theorem dX5_init_4 : decode cX5_init 4 = .ok (.aload_n 0, 1) := by decide +kernel
theorem dX5_init_5 : decode cX5_init 5 = .ok (.bipush 60, 2) := by decide +kernel
theorem dX5_init_7 : decode cX5_init 7 = .ok (.newarray .int, 2) := by decide +kernel
theorem dX5_init_9 : decode cX5_init 9 = .ok (.putfield 9, 3) := by decide +kernel
theorem dX5_init_12 : decode cX5_init 12 = .ok (.aload_n 0, 1) := by decide +kernel
theorem dX5_init_13 : decode cX5_init 13 = .ok (.iconst 0, 1) := by decide +kernel
theorem dX5_init_14 : decode cX5_init 14 = .ok (.putfield 15, 3) := by decide +kernel
theorem dX5_init_17 : decode cX5_init 17 = .ok (.return_, 1) := by decide +kernel
theorem dX5_put_0 : decode cX5_put 0 = .ok (.aload_n 0, 1) := by decide +kernel
theorem dX5_put_1 : decode cX5_put 1 = .ok (.getfield 15, 3) := by decide +kernel
theorem dX5_put_4 : decode cX5_put 4 = .ok (.ifCond .lt 12, 3) := by decide +kernel
theorem dX5_put_7 : decode cX5_put 7 = .ok (.aload_n 0, 1) := by decide +kernel
theorem dX5_put_8 : decode cX5_put 8 = .ok (.getfield 15, 3) := by decide +kernel
theorem dX5_put_11 : decode cX5_put 11 = .ok (.bipush 60, 2) := by decide +kernel
theorem dX5_put_13 : decode cX5_put 13 = .ok (.if_icmp .lt 5, 3) := by decide +kernel
theorem dX5_put_16 : decode cX5_put 16 = .ok (.iconst 0, 1) := by decide +kernel
theorem dX5_put_17 : decode cX5_put 17 = .ok (.ireturn, 1) := by decide +kernel
theorem dX5_put_18 : decode cX5_put 18 = .ok (.aload_n 0, 1) := by decide +kernel
theorem dX5_put_19 : decode cX5_put 19 = .ok (.getfield 9, 3) := by decide +kernel
theorem dX5_put_22 : decode cX5_put 22 = .ok (.aload_n 0, 1) := by decide +kernel
theorem dX5_put_23 : decode cX5_put 23 = .ok (.getfield 15, 3) := by decide +kernel
theorem dX5_put_26 : decode cX5_put 26 = .ok (.iload_n 1, 1) := by decide +kernel
theorem dX5_put_27 : decode cX5_put 27 = .ok (.iastore, 1) := by decide +kernel
theorem dX5_put_28 : decode cX5_put 28 = .ok (.aload_n 0, 1) := by decide +kernel
theorem dX5_put_29 : decode cX5_put 29 = .ok (.dup, 1) := by decide +kernel
theorem dX5_put_30 : decode cX5_put 30 = .ok (.getfield 15, 3) := by decide +kernel
theorem dX5_put_33 : decode cX5_put 33 = .ok (.iconst 1, 1) := by decide +kernel
theorem dX5_put_34 : decode cX5_put 34 = .ok (.iadd, 1) := by decide +kernel
theorem dX5_put_35 : decode cX5_put 35 = .ok (.putfield 15, 3) := by decide +kernel
theorem dX5_put_38 : decode cX5_put 38 = .ok (.iconst 1, 1) := by decide +kernel
theorem dX5_put_39 : decode cX5_put 39 = .ok (.ireturn, 1) := by decide +kernel
theorem dX5_clear_0 : decode cX5_clear 0 = .ok (.aload_n 0, 1) := by decide +kernel
theorem dX5_clear_1 : decode cX5_clear 1 = .ok (.iconst 0, 1) := by decide +kernel
theorem dX5_clear_2 : decode cX5_clear 2 = .ok (.putfield 15, 3) := by decide +kernel
theorem dX5_clear_5 : decode cX5_clear 5 = .ok (.return_, 1) := by decide +kernel
theorem dX6_init_0 : decode cX6_init 0 = .ok (.aload_n 0, 1) := by decide +kernel
theorem dX6_init_1 : decode cX6_init 1 = .ok (.invokespecial 3, 3) := by decide +kernel
theorem dX6_init_4 : decode cX6_init 4 = .ok (.aload_n 0, 1) := by decide +kernel
theorem dX6_init_5 : decode cX6_init 5 = .ok (.bipush 16, 2) := by decide +kernel
theorem dX6_init_7 : decode cX6_init 7 = .ok (.newarray .int, 2) := by decide +kernel
theorem dX6_init_9 : decode cX6_init 9 = .ok (.putfield 9, 3) := by decide +kernel
theorem dX6_init_12 : decode cX6_init 12 = .ok (.aload_n 0, 1) := by decide +kernel
theorem dX6_init_13 : decode cX6_init 13 = .ok (.iconst 0, 1) := by decide +kernel
theorem dX6_init_14 : decode cX6_init 14 = .ok (.putfield 15, 3) := by decide +kernel
theorem dX6_init_17 : decode cX6_init 17 = .ok (.aload_n 0, 1) := by decide +kernel
theorem dX6_init_18 : decode cX6_init 18 = .ok (.iconst 0, 1) := by decide +kernel
theorem dX6_init_19 : decode cX6_init 19 = .ok (.putfield 19, 3) := by decide +kernel
theorem dX6_init_22 : decode cX6_init 22 = .ok (.aload_n 0, 1) := by decide +kernel
theorem dX6_init_23 : decode cX6_init 23 = .ok (.iconst 0, 1) := by decide +kernel
theorem dX6_init_24 : decode cX6_init 24 = .ok (.putfield 22, 3) := by decide +kernel
theorem dX6_init_27 : decode cX6_init 27 = .ok (.return_, 1) := by decide +kernel
theorem dX6_begin_0 : decode cX6_begin 0 = .ok (.aload_n 0, 1) := by decide +kernel
theorem dX6_begin_1 : decode cX6_begin 1 = .ok (.iconst 0, 1) := by decide +kernel
theorem dX6_begin_2 : decode cX6_begin 2 = .ok (.putfield 15, 3) := by decide +kernel
theorem dX6_begin_5 : decode cX6_begin 5 = .ok (.aload_n 0, 1) := by decide +kernel
theorem dX6_begin_6 : decode cX6_begin 6 = .ok (.iconst 0, 1) := by decide +kernel
theorem dX6_begin_7 : decode cX6_begin 7 = .ok (.putfield 19, 3) := by decide +kernel
theorem dX6_begin_10 : decode cX6_begin 10 = .ok (.aload_n 0, 1) := by decide +kernel
theorem dX6_begin_11 : decode cX6_begin 11 = .ok (.iconst 0, 1) := by decide +kernel
theorem dX6_begin_12 : decode cX6_begin 12 = .ok (.putfield 22, 3) := by decide +kernel
theorem dX6_begin_15 : decode cX6_begin 15 = .ok (.return_, 1) := by decide +kernel
theorem dX6_moveTo_0 : decode cX6_moveTo 0 = .ok (.aload_n 0, 1) := by decide +kernel
theorem dX6_moveTo_1 : decode cX6_moveTo 1 = .ok (.getfield 15, 3) := by decide +kernel
theorem dX6_moveTo_4 : decode cX6_moveTo 4 = .ok (.ifCond .lt 12, 3) := by decide +kernel
theorem dX6_moveTo_7 : decode cX6_moveTo 7 = .ok (.aload_n 0, 1) := by decide +kernel
theorem dX6_moveTo_8 : decode cX6_moveTo 8 = .ok (.getfield 15, 3) := by decide +kernel
theorem dX6_moveTo_11 : decode cX6_moveTo 11 = .ok (.bipush 16, 2) := by decide +kernel
theorem dX6_moveTo_13 : decode cX6_moveTo 13 = .ok (.if_icmp .lt 4, 3) := by decide +kernel
theorem dX6_moveTo_16 : decode cX6_moveTo 16 = .ok (.return_, 1) := by decide +kernel
theorem dX6_moveTo_17 : decode cX6_moveTo 17 = .ok (.aload_n 0, 1) := by decide +kernel
theorem dX6_moveTo_18 : decode cX6_moveTo 18 = .ok (.getfield 9, 3) := by decide +kernel
theorem dX6_moveTo_21 : decode cX6_moveTo 21 = .ok (.aload_n 0, 1) := by decide +kernel
theorem dX6_moveTo_22 : decode cX6_moveTo 22 = .ok (.getfield 15, 3) := by decide +kernel
theorem dX6_moveTo_25 : decode cX6_moveTo 25 = .ok (.aload_n 0, 1) := by decide +kernel
theorem dX6_moveTo_26 : decode cX6_moveTo 26 = .ok (.getfield 22, 3) := by decide +kernel
theorem dX6_moveTo_29 : decode cX6_moveTo 29 = .ok (.iastore, 1) := by decide +kernel
theorem dX6_moveTo_30 : decode cX6_moveTo 30 = .ok (.aload_n 0, 1) := by decide +kernel
theorem dX6_moveTo_31 : decode cX6_moveTo 31 = .ok (.aload_n 0, 1) := by decide +kernel
theorem dX6_moveTo_32 : decode cX6_moveTo 32 = .ok (.getfield 15, 3) := by decide +kernel
theorem dX6_moveTo_35 : decode cX6_moveTo 35 = .ok (.iconst 1, 1) := by decide +kernel
theorem dX6_moveTo_36 : decode cX6_moveTo 36 = .ok (.iadd, 1) := by decide +kernel
theorem dX6_moveTo_37 : decode cX6_moveTo 37 = .ok (.bipush 16, 2) := by decide +kernel
theorem dX6_moveTo_39 : decode cX6_moveTo 39 = .ok (.irem, 1) := by decide +kernel
theorem dX6_moveTo_40 : decode cX6_moveTo 40 = .ok (.putfield 15, 3) := by decide +kernel
theorem dX6_moveTo_43 : decode cX6_moveTo 43 = .ok (.aload_n 0, 1) := by decide +kernel
theorem dX6_moveTo_44 : decode cX6_moveTo 44 = .ok (.aload_n 0, 1) := by decide +kernel
theorem dX6_moveTo_45 : decode cX6_moveTo 45 = .ok (.getfield 19, 3) := by decide +kernel
theorem dX6_moveTo_48 : decode cX6_moveTo 48 = .ok (.iconst 1, 1) := by decide +kernel
theorem dX6_moveTo_49 : decode cX6_moveTo 49 = .ok (.iadd, 1) := by decide +kernel
theorem dX6_moveTo_50 : decode cX6_moveTo 50 = .ok (.bipush 16, 2) := by decide +kernel
theorem dX6_moveTo_52 : decode cX6_moveTo 52 = .ok (.invokestatic 25, 3) := by decide +kernel
theorem dX6_moveTo_55 : decode cX6_moveTo 55 = .ok (.putfield 19, 3) := by decide +kernel
theorem dX6_moveTo_58 : decode cX6_moveTo 58 = .ok (.aload_n 0, 1) := by decide +kernel
theorem dX6_moveTo_59 : decode cX6_moveTo 59 = .ok (.iload_n 1, 1) := by decide +kernel
theorem dX6_moveTo_60 : decode cX6_moveTo 60 = .ok (.putfield 22, 3) := by decide +kernel
theorem dX6_moveTo_63 : decode cX6_moveTo 63 = .ok (.return_, 1) := by decide +kernel
theorem dX6_turnBack_0 : decode cX6_turnBack 0 = .ok (.aload_n 0, 1) := by decide +kernel
theorem dX6_turnBack_1 : decode cX6_turnBack 1 = .ok (.getfield 19, 3) := by decide +kernel
theorem dX6_turnBack_4 : decode cX6_turnBack 4 = .ok (.ifCond .ne 5, 3) := by decide +kernel
theorem dX6_turnBack_7 : decode cX6_turnBack 7 = .ok (.iconst 0, 1) := by decide +kernel
theorem dX6_turnBack_8 : decode cX6_turnBack 8 = .ok (.ireturn, 1) := by decide +kernel
theorem dX6_turnBack_9 : decode cX6_turnBack 9 = .ok (.aload_n 0, 1) := by decide +kernel
theorem dX6_turnBack_10 : decode cX6_turnBack 10 = .ok (.aload_n 0, 1) := by decide +kernel
theorem dX6_turnBack_11 : decode cX6_turnBack 11 = .ok (.getfield 15, 3) := by decide +kernel
theorem dX6_turnBack_14 : decode cX6_turnBack 14 = .ok (.iconst 1, 1) := by decide +kernel
theorem dX6_turnBack_15 : decode cX6_turnBack 15 = .ok (.isub, 1) := by decide +kernel
theorem dX6_turnBack_16 : decode cX6_turnBack 16 = .ok (.bipush 16, 2) := by decide +kernel
theorem dX6_turnBack_18 : decode cX6_turnBack 18 = .ok (.invokestatic 31, 3) := by decide +kernel
theorem dX6_turnBack_21 : decode cX6_turnBack 21 = .ok (.putfield 15, 3) := by decide +kernel
theorem dX6_turnBack_24 : decode cX6_turnBack 24 = .ok (.aload_n 0, 1) := by decide +kernel
theorem dX6_turnBack_25 : decode cX6_turnBack 25 = .ok (.aload_n 0, 1) := by decide +kernel
theorem dX6_turnBack_26 : decode cX6_turnBack 26 = .ok (.getfield 9, 3) := by decide +kernel
theorem dX6_turnBack_29 : decode cX6_turnBack 29 = .ok (.aload_n 0, 1) := by decide +kernel
theorem dX6_turnBack_30 : decode cX6_turnBack 30 = .ok (.getfield 15, 3) := by decide +kernel
theorem dX6_turnBack_33 : decode cX6_turnBack 33 = .ok (.iaload, 1) := by decide +kernel
theorem dX6_turnBack_34 : decode cX6_turnBack 34 = .ok (.putfield 22, 3) := by decide +kernel
theorem dX6_turnBack_37 : decode cX6_turnBack 37 = .ok (.aload_n 0, 1) := by decide +kernel
theorem dX6_turnBack_38 : decode cX6_turnBack 38 = .ok (.dup, 1) := by decide +kernel
theorem dX6_turnBack_39 : decode cX6_turnBack 39 = .ok (.getfield 19, 3) := by decide +kernel
theorem dX6_turnBack_42 : decode cX6_turnBack 42 = .ok (.iconst 1, 1) := by decide +kernel
theorem dX6_turnBack_43 : decode cX6_turnBack 43 = .ok (.isub, 1) := by decide +kernel
theorem dX6_turnBack_44 : decode cX6_turnBack 44 = .ok (.putfield 19, 3) := by decide +kernel
theorem dX6_turnBack_47 : decode cX6_turnBack 47 = .ok (.iconst 1, 1) := by decide +kernel
theorem dX6_turnBack_48 : decode cX6_turnBack 48 = .ok (.ireturn, 1) := by decide +kernel
theorem dX7_init_0 : decode cX7_init 0 = .ok (.aload_n 0, 1) := by decide +kernel
theorem dX7_init_1 : decode cX7_init 1 = .ok (.invokespecial 3, 3) := by decide +kernel
theorem dX7_init_4 : decode cX7_init 4 = .ok (.aload_n 0, 1) := by decide +kernel
theorem dX7_init_5 : decode cX7_init 5 = .ok (.new 9, 3) := by decide +kernel
theorem dX7_init_8 : decode cX7_init 8 = .ok (.dup, 1) := by decide +kernel
theorem dX7_init_9 : decode cX7_init 9 = .ok (.invokespecial 11, 3) := by decide +kernel
theorem dX7_init_12 : decode cX7_init 12 = .ok (.putfield 12, 3) := by decide +kernel
theorem dX7_init_15 : decode cX7_init 15 = .ok (.aload_n 0, 1) := by decide +kernel
theorem dX7_init_16 : decode cX7_init 16 = .ok (.new 16, 3) := by decide +kernel
theorem dX7_init_19 : decode cX7_init 19 = .ok (.dup, 1) := by decide +kernel
theorem dX7_init_20 : decode cX7_init 20 = .ok (.invokespecial 18, 3) := by decide +kernel
theorem dX7_init_23 : decode cX7_init 23 = .ok (.putfield 19, 3) := by decide +kernel
theorem dX7_init_26 : decode cX7_init 26 = .ok (.aload_n 0, 1) := by decide +kernel
theorem dX7_init_27 : decode cX7_init 27 = .ok (.bipush 6, 2) := by decide +kernel
theorem dX7_init_29 : decode cX7_init 29 = .ok (.anewarray 23, 3) := by decide +kernel
theorem dX7_init_32 : decode cX7_init 32 = .ok (.putfield 25, 3) := by decide +kernel
theorem dX7_init_35 : decode cX7_init 35 = .ok (.iconst 0, 1) := by decide +kernel
theorem dX7_init_36 : decode cX7_init 36 = .ok (.istore_n 1, 1) := by decide +kernel
theorem dX7_init_37 : decode cX7_init 37 = .ok (.iload_n 1, 1) := by decide +kernel
theorem dX7_init_38 : decode cX7_init 38 = .ok (.bipush 6, 2) := by decide +kernel
theorem dX7_init_40 : decode cX7_init 40 = .ok (.if_icmp .ge 22, 3) := by decide +kernel
theorem dX7_init_43 : decode cX7_init 43 = .ok (.aload_n 0, 1) := by decide +kernel
theorem dX7_init_44 : decode cX7_init 44 = .ok (.getfield 25, 3) := by decide +kernel
theorem dX7_init_47 : decode cX7_init 47 = .ok (.iload_n 1, 1) := by decide +kernel
theorem dX7_init_48 : decode cX7_init 48 = .ok (.new 23, 3) := by decide +kernel
theorem dX7_init_51 : decode cX7_init 51 = .ok (.dup, 1) := by decide +kernel
theorem dX7_init_52 : decode cX7_init 52 = .ok (.invokespecial 29, 3) := by decide +kernel
theorem dX7_init_55 : decode cX7_init 55 = .ok (.aastore, 1) := by decide +kernel
theorem dX7_init_56 : decode cX7_init 56 = .ok (.iinc 1 1, 3) := by decide +kernel
theorem dX7_init_59 : decode cX7_init 59 = .ok (.goto (-22), 3) := by decide +kernel
theorem dX7_init_62 : decode cX7_init 62 = .ok (.aload_n 0, 1) := by decide +kernel
theorem dX7_init_63 : decode cX7_init 63 = .ok (.new 30, 3) := by decide +kernel
theorem dX7_init_66 : decode cX7_init 66 = .ok (.dup, 1) := by decide +kernel
theorem dX7_init_67 : decode cX7_init 67 = .ok (.invokespecial 32, 3) := by decide +kernel
theorem dX7_init_70 : decode cX7_init 70 = .ok (.putfield 33, 3) := by decide +kernel
theorem dX7_init_73 : decode cX7_init 73 = .ok (.aload_n 0, 1) := by decide +kernel
theorem dX7_init_74 : decode cX7_init 74 = .ok (.new 30, 3) := by decide +kernel
theorem dX7_init_77 : decode cX7_init 77 = .ok (.dup, 1) := by decide +kernel
theorem dX7_init_78 : decode cX7_init 78 = .ok (.invokespecial 32, 3) := by decide +kernel
theorem dX7_init_81 : decode cX7_init 81 = .ok (.putfield 37, 3) := by decide +kernel
theorem dX7_init_84 : decode cX7_init 84 = .ok (.aload_n 0, 1) := by decide +kernel
theorem dX7_init_85 : decode cX7_init 85 = .ok (.sipush 150, 3) := by decide +kernel
theorem dX7_init_88 : decode cX7_init 88 = .ok (.newarray .int, 2) := by decide +kernel
theorem dX7_init_90 : decode cX7_init 90 = .ok (.putfield 40, 3) := by decide +kernel
theorem dX7_init_93 : decode cX7_init 93 = .ok (.aload_n 0, 1) := by decide +kernel
theorem dX7_init_94 : decode cX7_init 94 = .ok (.getfield 40, 3) := by decide +kernel
theorem dX7_init_97 : decode cX7_init 97 = .ok (.bipush (-9), 2) := by decide +kernel
theorem dX7_init_99 : decode cX7_init 99 = .ok (.invokestatic 44, 3) := by decide +kernel
theorem dX7_init_102 : decode cX7_init 102 = .ok (.aload_n 0, 1) := by decide +kernel
theorem dX7_init_103 : decode cX7_init 103 = .ok (.new 50, 3) := by decide +kernel
theorem dX7_init_106 : decode cX7_init 106 = .ok (.dup, 1) := by decide +kernel
theorem dX7_init_107 : decode cX7_init 107 = .ok (.invokespecial 52, 3) := by decide +kernel
theorem dX7_init_110 : decode cX7_init 110 = .ok (.putfield 53, 3) := by decide +kernel
theorem dX7_init_113 : decode cX7_init 113 = .ok (.aload_n 0, 1) := by decide +kernel
theorem dX7_init_114 : decode cX7_init 114 = .ok (.new 57, 3) := by decide +kernel
theorem dX7_init_117 : decode cX7_init 117 = .ok (.dup, 1) := by decide +kernel
theorem dX7_init_118 : decode cX7_init 118 = .ok (.invokespecial 59, 3) := by decide +kernel
theorem dX7_init_121 : decode cX7_init 121 = .ok (.putfield 60, 3) := by decide +kernel
theorem dX7_init_124 : decode cX7_init 124 = .ok (.aload_n 0, 1) := by decide +kernel
theorem dX7_init_125 : decode cX7_init 125 = .ok (.new 64, 3) := by decide +kernel
theorem dX7_init_128 : decode cX7_init 128 = .ok (.dup, 1) := by decide +kernel
theorem dX7_init_129 : decode cX7_init 129 = .ok (.invokespecial 66, 3) := by decide +kernel
theorem dX7_init_132 : decode cX7_init 132 = .ok (.putfield 67, 3) := by decide +kernel
theorem dX7_init_135 : decode cX7_init 135 = .ok (.aload_n 0, 1) := by decide +kernel
theorem dX7_init_136 : decode cX7_init 136 = .ok (.iconst 0, 1) := by decide +kernel
theorem dX7_init_137 : decode cX7_init 137 = .ok (.putfield 71, 3) := by decide +kernel
theorem dX7_init_140 : decode cX7_init 140 = .ok (.aload_n 0, 1) := by decide +kernel
theorem dX7_init_141 : decode cX7_init 141 = .ok (.iconst 0, 1) := by decide +kernel
theorem dX7_init_142 : decode cX7_init 142 = .ok (.putfield 75, 3) := by decide +kernel
theorem dX7_init_145 : decode cX7_init 145 = .ok (.aload_n 0, 1) := by decide +kernel
theorem dX7_init_146 : decode cX7_init 146 = .ok (.bipush (-9), 2) := by decide +kernel
theorem dX7_init_148 : decode cX7_init 148 = .ok (.putfield 78, 3) := by decide +kernel
theorem dX7_init_151 : decode cX7_init 151 = .ok (.aload_n 0, 1) := by decide +kernel
theorem dX7_init_152 : decode cX7_init 152 = .ok (.invokevirtual 81, 3) := by decide +kernel
theorem dX7_init_155 : decode cX7_init 155 = .ok (.aload_n 0, 1) := by decide +kernel
theorem dX7_init_156 : decode cX7_init 156 = .ok (.invokevirtual 84, 3) := by decide +kernel
theorem dX7_init_159 : decode cX7_init 159 = .ok (.return_, 1) := by decide +kernel
theorem dX7_type_0 : decode cX7_type 0 = .ok (.iload_n 1, 1) := by decide +kernel
theorem dX7_type_1 : decode cX7_type 1 = .ok (.ifCond .lt 9, 3) := by decide +kernel
theorem dX7_type_4 : decode cX7_type 4 = .ok (.iload_n 1, 1) := by decide +kernel
theorem dX7_type_5 : decode cX7_type 5 = .ok (.bipush 127, 2) := by decide +kernel
theorem dX7_type_7 : decode cX7_type 7 = .ok (.if_icmp .le 6, 3) := by decide +kernel
theorem dX7_type_10 : decode cX7_type 10 = .ok (.bipush (-2), 2) := by decide +kernel
theorem dX7_type_12 : decode cX7_type 12 = .ok (.ireturn, 1) := by decide +kernel
theorem dX7_type_13 : decode cX7_type 13 = .ok (.aload_n 0, 1) := by decide +kernel
theorem dX7_type_14 : decode cX7_type 14 = .ok (.getfield 12, 3) := by decide +kernel
theorem dX7_type_17 : decode cX7_type 17 = .ok (.iload_n 1, 1) := by decide +kernel
theorem dX7_type_18 : decode cX7_type 18 = .ok (.invokevirtual 87, 3) := by decide +kernel
theorem dX7_type_21 : decode cX7_type 21 = .ok (.ifCond .eq 13, 3) := by decide +kernel
theorem dX7_type_24 : decode cX7_type 24 = .ok (.aload_n 0, 1) := by decide +kernel
theorem dX7_type_25 : decode cX7_type 25 = .ok (.getfield 12, 3) := by decide +kernel
theorem dX7_type_28 : decode cX7_type 28 = .ok (.getfield 91, 3) := by decide +kernel
theorem dX7_type_31 : decode cX7_type 31 = .ok (.goto 5, 3) := by decide +kernel
theorem dX7_type_34 : decode cX7_type 34 = .ok (.bipush (-4), 2) := by decide +kernel
theorem dX7_type_36 : decode cX7_type 36 = .ok (.ireturn, 1) := by decide +kernel
theorem dX7_wipe_0 : decode cX7_wipe 0 = .ok (.aload_n 0, 1) := by decide +kernel
theorem dX7_wipe_1 : decode cX7_wipe 1 = .ok (.getfield 12, 3) := by decide +kernel
theorem dX7_wipe_4 : decode cX7_wipe 4 = .ok (.getfield 91, 3) := by decide +kernel
theorem dX7_wipe_7 : decode cX7_wipe 7 = .ok (.istore_n 1, 1) := by decide +kernel
theorem dX7_wipe_8 : decode cX7_wipe 8 = .ok (.aload_n 0, 1) := by decide +kernel
theorem dX7_wipe_9 : decode cX7_wipe 9 = .ok (.getfield 12, 3) := by decide +kernel
theorem dX7_wipe_12 : decode cX7_wipe 12 = .ok (.invokevirtual 94, 3) := by decide +kernel
theorem dX7_wipe_15 : decode cX7_wipe 15 = .ok (.iload_n 1, 1) := by decide +kernel
theorem dX7_wipe_16 : decode cX7_wipe 16 = .ok (.ireturn, 1) := by decide +kernel
theorem dX7_machine_0 : decode cX7_machine 0 = .ok (.iload_n 1, 1) := by decide +kernel
theorem dX7_machine_1 : decode cX7_machine 1 = .ok (.ifCond .eq 11, 3) := by decide +kernel
theorem dX7_machine_4 : decode cX7_machine 4 = .ok (.iload_n 1, 1) := by decide +kernel
theorem dX7_machine_5 : decode cX7_machine 5 = .ok (.iconst 1, 1) := by decide +kernel
theorem dX7_machine_6 : decode cX7_machine 6 = .ok (.if_icmp .eq 6, 3) := by decide +kernel
theorem dX7_machine_9 : decode cX7_machine 9 = .ok (.bipush (-2), 2) := by decide +kernel
theorem dX7_machine_11 : decode cX7_machine 11 = .ok (.ireturn, 1) := by decide +kernel
theorem dX7_machine_12 : decode cX7_machine 12 = .ok (.aload_n 0, 1) := by decide +kernel
theorem dX7_machine_13 : decode cX7_machine 13 = .ok (.getfield 71, 3) := by decide +kernel
theorem dX7_machine_16 : decode cX7_machine 16 = .ok (.bipush 6, 2) := by decide +kernel
theorem dX7_machine_18 : decode cX7_machine 18 = .ok (.if_icmp .lt 6, 3) := by decide +kernel
theorem dX7_machine_21 : decode cX7_machine 21 = .ok (.bipush (-4), 2) := by decide +kernel
theorem dX7_machine_23 : decode cX7_machine 23 = .ok (.ireturn, 1) := by decide +kernel
theorem dX7_machine_24 : decode cX7_machine 24 = .ok (.aload_n 0, 1) := by decide +kernel
theorem dX7_machine_25 : decode cX7_machine 25 = .ok (.getfield 19, 3) := by decide +kernel
theorem dX7_machine_28 : decode cX7_machine 28 = .ok (.aload_n 0, 1) := by decide +kernel
theorem dX7_machine_29 : decode cX7_machine 29 = .ok (.getfield 12, 3) := by decide +kernel
theorem dX7_machine_32 : decode cX7_machine 32 = .ok (.aload_n 0, 1) := by decide +kernel
theorem dX7_machine_33 : decode cX7_machine 33 = .ok (.getfield 25, 3) := by decide +kernel
theorem dX7_machine_36 : decode cX7_machine 36 = .ok (.aload_n 0, 1) := by decide +kernel
theorem dX7_machine_37 : decode cX7_machine 37 = .ok (.getfield 71, 3) := by decide +kernel
theorem dX7_machine_40 : decode cX7_machine 40 = .ok (.aaload, 1) := by decide +kernel
theorem dX7_machine_41 : decode cX7_machine 41 = .ok (.iload_n 1, 1) := by decide +kernel
theorem dX7_machine_42 : decode cX7_machine 42 = .ok (.invokevirtual 97, 3) := by decide +kernel
theorem dX7_machine_45 : decode cX7_machine 45 = .ok (.istore_n 2, 1) := by decide +kernel
theorem dX7_machine_46 : decode cX7_machine 46 = .ok (.iload_n 2, 1) := by decide +kernel
theorem dX7_machine_47 : decode cX7_machine 47 = .ok (.bipush (-9), 2) := by decide +kernel
theorem dX7_machine_49 : decode cX7_machine 49 = .ok (.if_icmp .eq 8, 3) := by decide +kernel
theorem dX7_machine_52 : decode cX7_machine 52 = .ok (.bipush (-100), 2) := by decide +kernel
theorem dX7_machine_54 : decode cX7_machine 54 = .ok (.iload_n 2, 1) := by decide +kernel
theorem dX7_machine_55 : decode cX7_machine 55 = .ok (.isub, 1) := by decide +kernel
theorem dX7_machine_56 : decode cX7_machine 56 = .ok (.ireturn, 1) := by decide +kernel
theorem dX7_machine_57 : decode cX7_machine 57 = .ok (.aload_n 0, 1) := by decide +kernel
theorem dX7_machine_58 : decode cX7_machine 58 = .ok (.getfield 12, 3) := by decide +kernel
theorem dX7_machine_61 : decode cX7_machine 61 = .ok (.invokevirtual 94, 3) := by decide +kernel
theorem dX7_machine_64 : decode cX7_machine 64 = .ok (.aload_n 0, 1) := by decide +kernel
theorem dX7_machine_65 : decode cX7_machine 65 = .ok (.dup, 1) := by decide +kernel
theorem dX7_machine_66 : decode cX7_machine 66 = .ok (.getfield 71, 3) := by decide +kernel
theorem dX7_machine_69 : decode cX7_machine 69 = .ok (.iconst 1, 1) := by decide +kernel
theorem dX7_machine_70 : decode cX7_machine 70 = .ok (.iadd, 1) := by decide +kernel
theorem dX7_machine_71 : decode cX7_machine 71 = .ok (.putfield 71, 3) := by decide +kernel
theorem dX7_machine_74 : decode cX7_machine 74 = .ok (.aload_n 0, 1) := by decide +kernel
theorem dX7_machine_75 : decode cX7_machine 75 = .ok (.invokevirtual 81, 3) := by decide +kernel
theorem dX7_machine_78 : decode cX7_machine 78 = .ok (.aload_n 0, 1) := by decide +kernel
theorem dX7_machine_79 : decode cX7_machine 79 = .ok (.invokevirtual 84, 3) := by decide +kernel
theorem dX7_machine_82 : decode cX7_machine 82 = .ok (.aload_n 0, 1) := by decide +kernel
theorem dX7_machine_83 : decode cX7_machine 83 = .ok (.getfield 71, 3) := by decide +kernel
theorem dX7_machine_86 : decode cX7_machine 86 = .ok (.iconst 1, 1) := by decide +kernel
theorem dX7_machine_87 : decode cX7_machine 87 = .ok (.isub, 1) := by decide +kernel
theorem dX7_machine_88 : decode cX7_machine 88 = .ok (.ireturn, 1) := by decide +kernel
theorem dX7_drop_0 : decode cX7_drop 0 = .ok (.aload_n 0, 1) := by decide +kernel
theorem dX7_drop_1 : decode cX7_drop 1 = .ok (.getfield 71, 3) := by decide +kernel
theorem dX7_drop_4 : decode cX7_drop 4 = .ok (.ifCond .ne 6, 3) := by decide +kernel
theorem dX7_drop_7 : decode cX7_drop 7 = .ok (.bipush (-3), 2) := by decide +kernel
theorem dX7_drop_9 : decode cX7_drop 9 = .ok (.ireturn, 1) := by decide +kernel
theorem dX7_drop_10 : decode cX7_drop 10 = .ok (.aload_n 0, 1) := by decide +kernel
theorem dX7_drop_11 : decode cX7_drop 11 = .ok (.dup, 1) := by decide +kernel
theorem dX7_drop_12 : decode cX7_drop 12 = .ok (.getfield 71, 3) := by decide +kernel
theorem dX7_drop_15 : decode cX7_drop 15 = .ok (.iconst 1, 1) := by decide +kernel
theorem dX7_drop_16 : decode cX7_drop 16 = .ok (.isub, 1) := by decide +kernel
theorem dX7_drop_17 : decode cX7_drop 17 = .ok (.putfield 71, 3) := by decide +kernel
theorem dX7_drop_20 : decode cX7_drop 20 = .ok (.aload_n 0, 1) := by decide +kernel
theorem dX7_drop_21 : decode cX7_drop 21 = .ok (.invokevirtual 81, 3) := by decide +kernel
theorem dX7_drop_24 : decode cX7_drop 24 = .ok (.aload_n 0, 1) := by decide +kernel
theorem dX7_drop_25 : decode cX7_drop 25 = .ok (.invokevirtual 84, 3) := by decide +kernel
theorem dX7_drop_28 : decode cX7_drop 28 = .ok (.aload_n 0, 1) := by decide +kernel
theorem dX7_drop_29 : decode cX7_drop 29 = .ok (.getfield 71, 3) := by decide +kernel
theorem dX7_drop_32 : decode cX7_drop 32 = .ok (.ireturn, 1) := by decide +kernel
theorem dX7_free_0 : decode cX7_free 0 = .ok (.iload_n 1, 1) := by decide +kernel
theorem dX7_free_1 : decode cX7_free 1 = .ok (.invokestatic 101, 3) := by decide +kernel
theorem dX7_free_4 : decode cX7_free 4 = .ok (.ifCond .ne 5, 3) := by decide +kernel
theorem dX7_free_7 : decode cX7_free 7 = .ok (.iconst (-1), 1) := by decide +kernel
theorem dX7_free_8 : decode cX7_free 8 = .ok (.ireturn, 1) := by decide +kernel
theorem dX7_free_9 : decode cX7_free 9 = .ok (.iload_n 2, 1) := by decide +kernel
theorem dX7_free_10 : decode cX7_free 10 = .ok (.ifCond .eq 11, 3) := by decide +kernel
theorem dX7_free_13 : decode cX7_free 13 = .ok (.iload_n 2, 1) := by decide +kernel
theorem dX7_free_14 : decode cX7_free 14 = .ok (.iconst 1, 1) := by decide +kernel
theorem dX7_free_15 : decode cX7_free 15 = .ok (.if_icmp .eq 6, 3) := by decide +kernel
theorem dX7_free_18 : decode cX7_free 18 = .ok (.bipush (-2), 2) := by decide +kernel
theorem dX7_free_20 : decode cX7_free 20 = .ok (.ireturn, 1) := by decide +kernel
theorem dX7_free_21 : decode cX7_free 21 = .ok (.aload_n 0, 1) := by decide +kernel
theorem dX7_free_22 : decode cX7_free 22 = .ok (.getfield 75, 3) := by decide +kernel
theorem dX7_free_25 : decode cX7_free 25 = .ok (.iload_n 1, 1) := by decide +kernel
theorem dX7_free_26 : decode cX7_free 26 = .ok (.ishr, 1) := by decide +kernel
theorem dX7_free_27 : decode cX7_free 27 = .ok (.iconst 1, 1) := by decide +kernel
theorem dX7_free_28 : decode cX7_free 28 = .ok (.iand, 1) := by decide +kernel
theorem dX7_free_29 : decode cX7_free 29 = .ok (.istore_n 3, 1) := by decide +kernel
theorem dX7_free_30 : decode cX7_free 30 = .ok (.aload_n 0, 1) := by decide +kernel
theorem dX7_free_31 : decode cX7_free 31 = .ok (.aload_n 0, 1) := by decide +kernel
theorem dX7_free_32 : decode cX7_free 32 = .ok (.getfield 75, 3) := by decide +kernel
theorem dX7_free_35 : decode cX7_free 35 = .ok (.iconst 1, 1) := by decide +kernel
theorem dX7_free_36 : decode cX7_free 36 = .ok (.iload_n 1, 1) := by decide +kernel
theorem dX7_free_37 : decode cX7_free 37 = .ok (.ishl, 1) := by decide +kernel
theorem dX7_free_38 : decode cX7_free 38 = .ok (.iconst (-1), 1) := by decide +kernel
theorem dX7_free_39 : decode cX7_free 39 = .ok (.ixor, 1) := by decide +kernel
theorem dX7_free_40 : decode cX7_free 40 = .ok (.iand, 1) := by decide +kernel
theorem dX7_free_41 : decode cX7_free 41 = .ok (.iload_n 2, 1) := by decide +kernel
theorem dX7_free_42 : decode cX7_free 42 = .ok (.iload_n 1, 1) := by decide +kernel
theorem dX7_free_43 : decode cX7_free 43 = .ok (.ishl, 1) := by decide +kernel
theorem dX7_free_44 : decode cX7_free 44 = .ok (.ior, 1) := by decide +kernel
theorem dX7_free_45 : decode cX7_free 45 = .ok (.putfield 75, 3) := by decide +kernel
theorem dX7_free_48 : decode cX7_free 48 = .ok (.aload_n 0, 1) := by decide +kernel
theorem dX7_free_49 : decode cX7_free 49 = .ok (.invokevirtual 84, 3) := by decide +kernel
theorem dX7_free_52 : decode cX7_free 52 = .ok (.iload_n 3, 1) := by decide +kernel
theorem dX7_free_53 : decode cX7_free 53 = .ok (.ireturn, 1) := by decide +kernel
theorem dX7_anew_0 : decode cX7_anew 0 = .ok (.aload_n 0, 1) := by decide +kernel
theorem dX7_anew_1 : decode cX7_anew 1 = .ok (.getfield 71, 3) := by decide +kernel
theorem dX7_anew_4 : decode cX7_anew 4 = .ok (.istore_n 1, 1) := by decide +kernel
theorem dX7_anew_5 : decode cX7_anew 5 = .ok (.aload_n 0, 1) := by decide +kernel
theorem dX7_anew_6 : decode cX7_anew 6 = .ok (.iconst 0, 1) := by decide +kernel
theorem dX7_anew_7 : decode cX7_anew 7 = .ok (.putfield 71, 3) := by decide +kernel
theorem dX7_anew_10 : decode cX7_anew 10 = .ok (.aload_n 0, 1) := by decide +kernel
theorem dX7_anew_11 : decode cX7_anew 11 = .ok (.iconst 0, 1) := by decide +kernel
theorem dX7_anew_12 : decode cX7_anew 12 = .ok (.putfield 75, 3) := by decide +kernel
theorem dX7_anew_15 : decode cX7_anew 15 = .ok (.aload_n 0, 1) := by decide +kernel
theorem dX7_anew_16 : decode cX7_anew 16 = .ok (.invokevirtual 81, 3) := by decide +kernel
theorem dX7_anew_19 : decode cX7_anew 19 = .ok (.aload_n 0, 1) := by decide +kernel
theorem dX7_anew_20 : decode cX7_anew 20 = .ok (.invokevirtual 84, 3) := by decide +kernel
theorem dX7_anew_23 : decode cX7_anew 23 = .ok (.iload_n 1, 1) := by decide +kernel
theorem dX7_anew_24 : decode cX7_anew 24 = .ok (.ireturn, 1) := by decide +kernel
theorem dX7_ofMachine_0 : decode cX7_ofMachine 0 = .ok (.aload_n 0, 1) := by decide +kernel
theorem dX7_ofMachine_1 : decode cX7_ofMachine 1 = .ok (.iload_n 1, 1) := by decide +kernel
theorem dX7_ofMachine_2 : decode cX7_ofMachine 2 = .ok (.invokevirtual 104, 3) := by decide +kernel
theorem dX7_ofMachine_5 : decode cX7_ofMachine 5 = .ok (.ifCond .ne 5, 3) := by decide +kernel
theorem dX7_ofMachine_8 : decode cX7_ofMachine 8 = .ok (.iconst (-1), 1) := by decide +kernel
theorem dX7_ofMachine_9 : decode cX7_ofMachine 9 = .ok (.ireturn, 1) := by decide +kernel
theorem dX7_ofMachine_10 : decode cX7_ofMachine 10 = .ok (.aload_n 0, 1) := by decide +kernel
theorem dX7_ofMachine_11 : decode cX7_ofMachine 11 = .ok (.getfield 25, 3) := by decide +kernel
theorem dX7_ofMachine_14 : decode cX7_ofMachine 14 = .ok (.iload_n 1, 1) := by decide +kernel
theorem dX7_ofMachine_15 : decode cX7_ofMachine 15 = .ok (.aaload, 1) := by decide +kernel
theorem dX7_ofMachine_16 : decode cX7_ofMachine 16 = .ok (.astore_n 3, 1) := by decide +kernel
theorem dX7_ofMachine_17 : decode cX7_ofMachine 17 = .ok (.iload_n 2, 1) := by decide +kernel
theorem dX7_ofMachine_18 : decode cX7_ofMachine 18 = .ok (.tableswitch 59 0 4 #[34, 39, 44, 49, 54], 34) := by decide +kernel
theorem dX7_ofMachine_52 : decode cX7_ofMachine 52 = .ok (.aload_n 3, 1) := by decide +kernel
theorem dX7_ofMachine_53 : decode cX7_ofMachine 53 = .ok (.getfield 107, 3) := by decide +kernel
theorem dX7_ofMachine_56 : decode cX7_ofMachine 56 = .ok (.ireturn, 1) := by decide +kernel
theorem dX7_ofMachine_57 : decode cX7_ofMachine 57 = .ok (.aload_n 3, 1) := by decide +kernel
theorem dX7_ofMachine_58 : decode cX7_ofMachine 58 = .ok (.getfield 110, 3) := by decide +kernel
theorem dX7_ofMachine_61 : decode cX7_ofMachine 61 = .ok (.ireturn, 1) := by decide +kernel
theorem dX7_ofMachine_62 : decode cX7_ofMachine 62 = .ok (.aload_n 3, 1) := by decide +kernel
theorem dX7_ofMachine_63 : decode cX7_ofMachine 63 = .ok (.getfield 113, 3) := by decide +kernel
theorem dX7_ofMachine_66 : decode cX7_ofMachine 66 = .ok (.ireturn, 1) := by decide +kernel
theorem dX7_ofMachine_67 : decode cX7_ofMachine 67 = .ok (.aload_n 3, 1) := by decide +kernel
theorem dX7_ofMachine_68 : decode cX7_ofMachine 68 = .ok (.getfield 116, 3) := by decide +kernel
theorem dX7_ofMachine_71 : decode cX7_ofMachine 71 = .ok (.ireturn, 1) := by decide +kernel
theorem dX7_ofMachine_72 : decode cX7_ofMachine 72 = .ok (.aload_n 3, 1) := by decide +kernel
theorem dX7_ofMachine_73 : decode cX7_ofMachine 73 = .ok (.getfield 119, 3) := by decide +kernel
theorem dX7_ofMachine_76 : decode cX7_ofMachine 76 = .ok (.ireturn, 1) := by decide +kernel
theorem dX7_ofMachine_77 : decode cX7_ofMachine 77 = .ok (.bipush (-2), 2) := by decide +kernel
theorem dX7_ofMachine_79 : decode cX7_ofMachine 79 = .ok (.ireturn, 1) := by decide +kernel
theorem dX7_step_0 : decode cX7_step 0 = .ok (.aload_n 0, 1) := by decide +kernel
theorem dX7_step_1 : decode cX7_step 1 = .ok (.iload_n 1, 1) := by decide +kernel
theorem dX7_step_2 : decode cX7_step 2 = .ok (.invokevirtual 104, 3) := by decide +kernel
theorem dX7_step_5 : decode cX7_step 5 = .ok (.ifCond .eq 17, 3) := by decide +kernel
theorem dX7_step_8 : decode cX7_step 8 = .ok (.iload_n 2, 1) := by decide +kernel
theorem dX7_step_9 : decode cX7_step 9 = .ok (.invokestatic 122, 3) := by decide +kernel
theorem dX7_step_12 : decode cX7_step 12 = .ok (.ifCond .eq 10, 3) := by decide +kernel
theorem dX7_step_15 : decode cX7_step 15 = .ok (.iload_n 3, 1) := by decide +kernel
theorem dX7_step_16 : decode cX7_step 16 = .ok (.invokestatic 101, 3) := by decide +kernel
theorem dX7_step_19 : decode cX7_step 19 = .ok (.ifCond .ne 5, 3) := by decide +kernel
theorem dX7_step_22 : decode cX7_step 22 = .ok (.iconst (-1), 1) := by decide +kernel
theorem dX7_step_23 : decode cX7_step 23 = .ok (.ireturn, 1) := by decide +kernel
theorem dX7_step_24 : decode cX7_step 24 = .ok (.aload_n 0, 1) := by decide +kernel
theorem dX7_step_25 : decode cX7_step 25 = .ok (.getfield 25, 3) := by decide +kernel
theorem dX7_step_28 : decode cX7_step 28 = .ok (.iload_n 1, 1) := by decide +kernel
theorem dX7_step_29 : decode cX7_step 29 = .ok (.aaload, 1) := by decide +kernel
theorem dX7_step_30 : decode cX7_step 30 = .ok (.iload_n 2, 1) := by decide +kernel
theorem dX7_step_31 : decode cX7_step 31 = .ok (.iload_n 3, 1) := by decide +kernel
theorem dX7_step_32 : decode cX7_step 32 = .ok (.invokevirtual 125, 3) := by decide +kernel
theorem dX7_step_35 : decode cX7_step 35 = .ok (.ireturn, 1) := by decide +kernel
theorem dX7_stateOf_0 : decode cX7_stateOf 0 = .ok (.aload_n 0, 1) := by decide +kernel
theorem dX7_stateOf_1 : decode cX7_stateOf 1 = .ok (.getfield 33, 3) := by decide +kernel
theorem dX7_stateOf_4 : decode cX7_stateOf 4 = .ok (.iload_n 1, 1) := by decide +kernel
theorem dX7_stateOf_5 : decode cX7_stateOf 5 = .ok (.invokevirtual 129, 3) := by decide +kernel
theorem dX7_stateOf_8 : decode cX7_stateOf 8 = .ok (.ifCond .eq 11, 3) := by decide +kernel
theorem dX7_stateOf_11 : decode cX7_stateOf 11 = .ok (.aload_n 0, 1) := by decide +kernel
theorem dX7_stateOf_12 : decode cX7_stateOf 12 = .ok (.iload_n 2, 1) := by decide +kernel
theorem dX7_stateOf_13 : decode cX7_stateOf 13 = .ok (.invokevirtual 104, 3) := by decide +kernel
theorem dX7_stateOf_16 : decode cX7_stateOf 16 = .ok (.ifCond .ne 5, 3) := by decide +kernel
theorem dX7_stateOf_19 : decode cX7_stateOf 19 = .ok (.iconst (-1), 1) := by decide +kernel
theorem dX7_stateOf_20 : decode cX7_stateOf 20 = .ok (.ireturn, 1) := by decide +kernel
theorem dX7_stateOf_21 : decode cX7_stateOf 21 = .ok (.aload_n 0, 1) := by decide +kernel
theorem dX7_stateOf_22 : decode cX7_stateOf 22 = .ok (.getfield 33, 3) := by decide +kernel
theorem dX7_stateOf_25 : decode cX7_stateOf 25 = .ok (.iload_n 1, 1) := by decide +kernel
theorem dX7_stateOf_26 : decode cX7_stateOf 26 = .ok (.iload_n 2, 1) := by decide +kernel
theorem dX7_stateOf_27 : decode cX7_stateOf 27 = .ok (.invokevirtual 132, 3) := by decide +kernel
theorem dX7_stateOf_30 : decode cX7_stateOf 30 = .ok (.ireturn, 1) := by decide +kernel
theorem dX7_leads_0 : decode cX7_leads 0 = .ok (.aload_n 0, 1) := by decide +kernel
theorem dX7_leads_1 : decode cX7_leads 1 = .ok (.getfield 33, 3) := by decide +kernel
theorem dX7_leads_4 : decode cX7_leads 4 = .ok (.iload_n 1, 1) := by decide +kernel
theorem dX7_leads_5 : decode cX7_leads 5 = .ok (.invokevirtual 129, 3) := by decide +kernel
theorem dX7_leads_8 : decode cX7_leads 8 = .ok (.ifCond .eq 10, 3) := by decide +kernel
theorem dX7_leads_11 : decode cX7_leads 11 = .ok (.iload_n 2, 1) := by decide +kernel
theorem dX7_leads_12 : decode cX7_leads 12 = .ok (.invokestatic 101, 3) := by decide +kernel
theorem dX7_leads_15 : decode cX7_leads 15 = .ok (.ifCond .ne 5, 3) := by decide +kernel
theorem dX7_leads_18 : decode cX7_leads 18 = .ok (.iconst (-1), 1) := by decide +kernel
theorem dX7_leads_19 : decode cX7_leads 19 = .ok (.ireturn, 1) := by decide +kernel
theorem dX7_leads_20 : decode cX7_leads 20 = .ok (.aload_n 0, 1) := by decide +kernel
theorem dX7_leads_21 : decode cX7_leads 21 = .ok (.getfield 33, 3) := by decide +kernel
theorem dX7_leads_24 : decode cX7_leads 24 = .ok (.iload_n 1, 1) := by decide +kernel
theorem dX7_leads_25 : decode cX7_leads 25 = .ok (.iload_n 2, 1) := by decide +kernel
theorem dX7_leads_26 : decode cX7_leads 26 = .ok (.invokevirtual 135, 3) := by decide +kernel
theorem dX7_leads_29 : decode cX7_leads 29 = .ok (.ireturn, 1) := by decide +kernel
theorem dX7_joint_0 : decode cX7_joint 0 = .ok (.aload_n 0, 1) := by decide +kernel
theorem dX7_joint_1 : decode cX7_joint 1 = .ok (.getfield 33, 3) := by decide +kernel
theorem dX7_joint_4 : decode cX7_joint 4 = .ok (.iload_n 1, 1) := by decide +kernel
theorem dX7_joint_5 : decode cX7_joint 5 = .ok (.invokevirtual 129, 3) := by decide +kernel
theorem dX7_joint_8 : decode cX7_joint 8 = .ok (.ifCond .ne 5, 3) := by decide +kernel
theorem dX7_joint_11 : decode cX7_joint 11 = .ok (.iconst (-1), 1) := by decide +kernel
theorem dX7_joint_12 : decode cX7_joint 12 = .ok (.ireturn, 1) := by decide +kernel
theorem dX7_joint_13 : decode cX7_joint 13 = .ok (.iload_n 2, 1) := by decide +kernel
theorem dX7_joint_14 : decode cX7_joint 14 = .ok (.tableswitch 133 0 6 #[42, 59, 68, 81, 98, 115, 124], 42) := by decide +kernel
theorem dX7_joint_56 : decode cX7_joint 56 = .ok (.aload_n 0, 1) := by decide +kernel
theorem dX7_joint_57 : decode cX7_joint 57 = .ok (.getfield 33, 3) := by decide +kernel
theorem dX7_joint_60 : decode cX7_joint 60 = .ok (.iload_n 1, 1) := by decide +kernel
theorem dX7_joint_61 : decode cX7_joint 61 = .ok (.invokevirtual 136, 3) := by decide +kernel
theorem dX7_joint_64 : decode cX7_joint 64 = .ok (.ifCond .eq 7, 3) := by decide +kernel
theorem dX7_joint_67 : decode cX7_joint 67 = .ok (.iconst 1, 1) := by decide +kernel
theorem dX7_joint_68 : decode cX7_joint 68 = .ok (.goto 4, 3) := by decide +kernel
theorem dX7_joint_71 : decode cX7_joint 71 = .ok (.iconst 0, 1) := by decide +kernel
theorem dX7_joint_72 : decode cX7_joint 72 = .ok (.ireturn, 1) := by decide +kernel
theorem dX7_joint_73 : decode cX7_joint 73 = .ok (.aload_n 0, 1) := by decide +kernel
theorem dX7_joint_74 : decode cX7_joint 74 = .ok (.getfield 33, 3) := by decide +kernel
theorem dX7_joint_77 : decode cX7_joint 77 = .ok (.iload_n 1, 1) := by decide +kernel
theorem dX7_joint_78 : decode cX7_joint 78 = .ok (.invokevirtual 139, 3) := by decide +kernel
theorem dX7_joint_81 : decode cX7_joint 81 = .ok (.ireturn, 1) := by decide +kernel
theorem dX7_joint_82 : decode cX7_joint 82 = .ok (.aload_n 0, 1) := by decide +kernel
theorem dX7_joint_83 : decode cX7_joint 83 = .ok (.getfield 33, 3) := by decide +kernel
theorem dX7_joint_86 : decode cX7_joint 86 = .ok (.iload_n 1, 1) := by decide +kernel
theorem dX7_joint_87 : decode cX7_joint 87 = .ok (.aload_n 0, 1) := by decide +kernel
theorem dX7_joint_88 : decode cX7_joint 88 = .ok (.getfield 75, 3) := by decide +kernel
theorem dX7_joint_91 : decode cX7_joint 91 = .ok (.invokevirtual 143, 3) := by decide +kernel
theorem dX7_joint_94 : decode cX7_joint 94 = .ok (.ireturn, 1) := by decide +kernel
theorem dX7_joint_95 : decode cX7_joint 95 = .ok (.aload_n 0, 1) := by decide +kernel
theorem dX7_joint_96 : decode cX7_joint 96 = .ok (.getfield 53, 3) := by decide +kernel
theorem dX7_joint_99 : decode cX7_joint 99 = .ok (.iload_n 1, 1) := by decide +kernel
theorem dX7_joint_100 : decode cX7_joint 100 = .ok (.invokevirtual 146, 3) := by decide +kernel
theorem dX7_joint_103 : decode cX7_joint 103 = .ok (.ifCond .eq 7, 3) := by decide +kernel
theorem dX7_joint_106 : decode cX7_joint 106 = .ok (.iconst 0, 1) := by decide +kernel
theorem dX7_joint_107 : decode cX7_joint 107 = .ok (.goto 4, 3) := by decide +kernel
theorem dX7_joint_110 : decode cX7_joint 110 = .ok (.iconst 1, 1) := by decide +kernel
theorem dX7_joint_111 : decode cX7_joint 111 = .ok (.ireturn, 1) := by decide +kernel
theorem dX7_joint_112 : decode cX7_joint 112 = .ok (.aload_n 0, 1) := by decide +kernel
theorem dX7_joint_113 : decode cX7_joint 113 = .ok (.getfield 60, 3) := by decide +kernel
theorem dX7_joint_116 : decode cX7_joint 116 = .ok (.iload_n 1, 1) := by decide +kernel
theorem dX7_joint_117 : decode cX7_joint 117 = .ok (.invokevirtual 149, 3) := by decide +kernel
theorem dX7_joint_120 : decode cX7_joint 120 = .ok (.ifCond .eq 7, 3) := by decide +kernel
theorem dX7_joint_123 : decode cX7_joint 123 = .ok (.iconst 1, 1) := by decide +kernel
theorem dX7_joint_124 : decode cX7_joint 124 = .ok (.goto 4, 3) := by decide +kernel
theorem dX7_joint_127 : decode cX7_joint 127 = .ok (.iconst 0, 1) := by decide +kernel
theorem dX7_joint_128 : decode cX7_joint 128 = .ok (.ireturn, 1) := by decide +kernel
theorem dX7_joint_129 : decode cX7_joint 129 = .ok (.aload_n 0, 1) := by decide +kernel
theorem dX7_joint_130 : decode cX7_joint 130 = .ok (.getfield 53, 3) := by decide +kernel
theorem dX7_joint_133 : decode cX7_joint 133 = .ok (.iload_n 1, 1) := by decide +kernel
theorem dX7_joint_134 : decode cX7_joint 134 = .ok (.invokevirtual 152, 3) := by decide +kernel
theorem dX7_joint_137 : decode cX7_joint 137 = .ok (.ireturn, 1) := by decide +kernel
theorem dX7_joint_138 : decode cX7_joint 138 = .ok (.aload_n 0, 1) := by decide +kernel
theorem dX7_joint_139 : decode cX7_joint 139 = .ok (.getfield 60, 3) := by decide +kernel
theorem dX7_joint_142 : decode cX7_joint 142 = .ok (.iload_n 1, 1) := by decide +kernel
theorem dX7_joint_143 : decode cX7_joint 143 = .ok (.invokevirtual 155, 3) := by decide +kernel
theorem dX7_joint_146 : decode cX7_joint 146 = .ok (.ireturn, 1) := by decide +kernel
theorem dX7_joint_147 : decode cX7_joint 147 = .ok (.bipush (-2), 2) := by decide +kernel
theorem dX7_joint_149 : decode cX7_joint 149 = .ok (.ireturn, 1) := by decide +kernel
theorem dX7_why_0 : decode cX7_why 0 = .ok (.aload_n 0, 1) := by decide +kernel
theorem dX7_why_1 : decode cX7_why 1 = .ok (.getfield 33, 3) := by decide +kernel
theorem dX7_why_4 : decode cX7_why 4 = .ok (.iload_n 1, 1) := by decide +kernel
theorem dX7_why_5 : decode cX7_why 5 = .ok (.invokevirtual 129, 3) := by decide +kernel
theorem dX7_why_8 : decode cX7_why 8 = .ok (.ifCond .ne 5, 3) := by decide +kernel
theorem dX7_why_11 : decode cX7_why 11 = .ok (.iconst (-1), 1) := by decide +kernel
theorem dX7_why_12 : decode cX7_why 12 = .ok (.ireturn, 1) := by decide +kernel
theorem dX7_why_13 : decode cX7_why 13 = .ok (.iload_n 2, 1) := by decide +kernel
theorem dX7_why_14 : decode cX7_why 14 = .ok (.ifCond .lt 19, 3) := by decide +kernel
theorem dX7_why_17 : decode cX7_why 17 = .ok (.iload_n 2, 1) := by decide +kernel
theorem dX7_why_18 : decode cX7_why 18 = .ok (.sipush 150, 3) := by decide +kernel
theorem dX7_why_21 : decode cX7_why 21 = .ok (.if_icmp .ge 12, 3) := by decide +kernel
theorem dX7_why_24 : decode cX7_why 24 = .ok (.iload_n 3, 1) := by decide +kernel
theorem dX7_why_25 : decode cX7_why 25 = .ok (.ifCond .lt 8, 3) := by decide +kernel
theorem dX7_why_28 : decode cX7_why 28 = .ok (.iload_n 3, 1) := by decide +kernel
theorem dX7_why_29 : decode cX7_why 29 = .ok (.iconst 2, 1) := by decide +kernel
theorem dX7_why_30 : decode cX7_why 30 = .ok (.if_icmp .le 6, 3) := by decide +kernel
theorem dX7_why_33 : decode cX7_why 33 = .ok (.bipush (-2), 2) := by decide +kernel
theorem dX7_why_35 : decode cX7_why 35 = .ok (.ireturn, 1) := by decide +kernel
theorem dX7_why_36 : decode cX7_why 36 = .ok (.aload_n 0, 1) := by decide +kernel
theorem dX7_why_37 : decode cX7_why 37 = .ok (.getfield 53, 3) := by decide +kernel
theorem dX7_why_40 : decode cX7_why 40 = .ok (.iload_n 1, 1) := by decide +kernel
theorem dX7_why_41 : decode cX7_why 41 = .ok (.iload_n 2, 1) := by decide +kernel
theorem dX7_why_42 : decode cX7_why 42 = .ok (.invokevirtual 158, 3) := by decide +kernel
theorem dX7_why_45 : decode cX7_why 45 = .ok (.istore 4, 2) := by decide +kernel
theorem dX7_why_47 : decode cX7_why 47 = .ok (.iload_n 3, 1) := by decide +kernel
theorem dX7_why_48 : decode cX7_why 48 = .ok (.lookupswitch 48 #[(0, 28), (1, 38)], 28) := by decide +kernel
theorem dX7_why_76 : decode cX7_why 76 = .ok (.aload_n 0, 1) := by decide +kernel
theorem dX7_why_77 : decode cX7_why 77 = .ok (.getfield 53, 3) := by decide +kernel
theorem dX7_why_80 : decode cX7_why 80 = .ok (.iload 4, 2) := by decide +kernel
theorem dX7_why_82 : decode cX7_why 82 = .ok (.invokevirtual 161, 3) := by decide +kernel
theorem dX7_why_85 : decode cX7_why 85 = .ok (.ireturn, 1) := by decide +kernel
theorem dX7_why_86 : decode cX7_why 86 = .ok (.aload_n 0, 1) := by decide +kernel
theorem dX7_why_87 : decode cX7_why 87 = .ok (.getfield 53, 3) := by decide +kernel
theorem dX7_why_90 : decode cX7_why 90 = .ok (.iload 4, 2) := by decide +kernel
theorem dX7_why_92 : decode cX7_why 92 = .ok (.invokevirtual 164, 3) := by decide +kernel
theorem dX7_why_95 : decode cX7_why 95 = .ok (.ireturn, 1) := by decide +kernel
theorem dX7_why_96 : decode cX7_why 96 = .ok (.iload 4, 2) := by decide +kernel
theorem dX7_why_98 : decode cX7_why 98 = .ok (.ireturn, 1) := by decide +kernel
theorem dX7_wave_0 : decode cX7_wave 0 = .ok (.aload_n 0, 1) := by decide +kernel
theorem dX7_wave_1 : decode cX7_wave 1 = .ok (.getfield 53, 3) := by decide +kernel
theorem dX7_wave_4 : decode cX7_wave 4 = .ok (.iload_n 1, 1) := by decide +kernel
theorem dX7_wave_5 : decode cX7_wave 5 = .ok (.invokevirtual 167, 3) := by decide +kernel
theorem dX7_wave_8 : decode cX7_wave 8 = .ok (.ifCond .eq 14, 3) := by decide +kernel
theorem dX7_wave_11 : decode cX7_wave 11 = .ok (.aload_n 0, 1) := by decide +kernel
theorem dX7_wave_12 : decode cX7_wave 12 = .ok (.getfield 53, 3) := by decide +kernel
theorem dX7_wave_15 : decode cX7_wave 15 = .ok (.iload_n 1, 1) := by decide +kernel
theorem dX7_wave_16 : decode cX7_wave 16 = .ok (.invokevirtual 170, 3) := by decide +kernel
theorem dX7_wave_19 : decode cX7_wave 19 = .ok (.goto 4, 3) := by decide +kernel
theorem dX7_wave_22 : decode cX7_wave 22 = .ok (.iconst (-1), 1) := by decide +kernel
theorem dX7_wave_23 : decode cX7_wave 23 = .ok (.ireturn, 1) := by decide +kernel
theorem dX7_some_0 : decode cX7_some 0 = .ok (.iload_n 1, 1) := by decide +kernel
theorem dX7_some_1 : decode cX7_some 1 = .ok (.ifCond .lt 20, 3) := by decide +kernel
theorem dX7_some_4 : decode cX7_some 4 = .ok (.iload_n 1, 1) := by decide +kernel
theorem dX7_some_5 : decode cX7_some 5 = .ok (.aload_n 0, 1) := by decide +kernel
theorem dX7_some_6 : decode cX7_some 6 = .ok (.invokevirtual 173, 3) := by decide +kernel
theorem dX7_some_9 : decode cX7_some 9 = .ok (.if_icmp .gt 12, 3) := by decide +kernel
theorem dX7_some_12 : decode cX7_some 12 = .ok (.iload_n 2, 1) := by decide +kernel
theorem dX7_some_13 : decode cX7_some 13 = .ok (.ifCond .lt 8, 3) := by decide +kernel
theorem dX7_some_16 : decode cX7_some 16 = .ok (.iload_n 2, 1) := by decide +kernel
theorem dX7_some_17 : decode cX7_some 17 = .ok (.iconst 1, 1) := by decide +kernel
theorem dX7_some_18 : decode cX7_some 18 = .ok (.if_icmp .le 6, 3) := by decide +kernel
theorem dX7_some_21 : decode cX7_some 21 = .ok (.bipush (-2), 2) := by decide +kernel
theorem dX7_some_23 : decode cX7_some 23 = .ok (.ireturn, 1) := by decide +kernel
theorem dX7_some_24 : decode cX7_some 24 = .ok (.aload_n 0, 1) := by decide +kernel
theorem dX7_some_25 : decode cX7_some 25 = .ok (.iload_n 1, 1) := by decide +kernel
theorem dX7_some_26 : decode cX7_some 26 = .ok (.invokevirtual 177, 3) := by decide +kernel
theorem dX7_some_29 : decode cX7_some 29 = .ok (.aload_n 0, 1) := by decide +kernel
theorem dX7_some_30 : decode cX7_some 30 = .ok (.getfield 37, 3) := by decide +kernel
theorem dX7_some_33 : decode cX7_some 33 = .ok (.getfield 181, 3) := by decide +kernel
theorem dX7_some_36 : decode cX7_some 36 = .ok (.ifCond .eq 6, 3) := by decide +kernel
theorem dX7_some_39 : decode cX7_some 39 = .ok (.bipush (-9), 2) := by decide +kernel
theorem dX7_some_41 : decode cX7_some 41 = .ok (.ireturn, 1) := by decide +kernel
theorem dX7_some_42 : decode cX7_some 42 = .ok (.iload_n 2, 1) := by decide +kernel
theorem dX7_some_43 : decode cX7_some 43 = .ok (.ifCond .ne 13, 3) := by decide +kernel
theorem dX7_some_46 : decode cX7_some 46 = .ok (.aload_n 0, 1) := by decide +kernel
theorem dX7_some_47 : decode cX7_some 47 = .ok (.getfield 37, 3) := by decide +kernel
theorem dX7_some_50 : decode cX7_some 50 = .ok (.getfield 185, 3) := by decide +kernel
theorem dX7_some_53 : decode cX7_some 53 = .ok (.goto 10, 3) := by decide +kernel
theorem dX7_some_56 : decode cX7_some 56 = .ok (.aload_n 0, 1) := by decide +kernel
theorem dX7_some_57 : decode cX7_some 57 = .ok (.getfield 37, 3) := by decide +kernel
theorem dX7_some_60 : decode cX7_some 60 = .ok (.invokevirtual 188, 3) := by decide +kernel
theorem dX7_some_63 : decode cX7_some 63 = .ok (.ireturn, 1) := by decide +kernel
theorem dX7_go_0 : decode cX7_go 0 = .ok (.iload_n 1, 1) := by decide +kernel
theorem dX7_go_1 : decode cX7_go 1 = .ok (.invokestatic 101, 3) := by decide +kernel
theorem dX7_go_4 : decode cX7_go 4 = .ok (.ifCond .ne 5, 3) := by decide +kernel
theorem dX7_go_7 : decode cX7_go 7 = .ok (.iconst (-1), 1) := by decide +kernel
theorem dX7_go_8 : decode cX7_go 8 = .ok (.ireturn, 1) := by decide +kernel
theorem dX7_go_9 : decode cX7_go 9 = .ok (.aload_n 0, 1) := by decide +kernel
theorem dX7_go_10 : decode cX7_go 10 = .ok (.getfield 60, 3) := by decide +kernel
theorem dX7_go_13 : decode cX7_go 13 = .ok (.iconst 0, 1) := by decide +kernel
theorem dX7_go_14 : decode cX7_go 14 = .ok (.invokevirtual 149, 3) := by decide +kernel
theorem dX7_go_17 : decode cX7_go 17 = .ok (.ifCond .ne 6, 3) := by decide +kernel
theorem dX7_go_20 : decode cX7_go 20 = .ok (.bipush (-3), 2) := by decide +kernel
theorem dX7_go_22 : decode cX7_go 22 = .ok (.ireturn, 1) := by decide +kernel
theorem dX7_go_23 : decode cX7_go 23 = .ok (.aload_n 0, 1) := by decide +kernel
theorem dX7_go_24 : decode cX7_go 24 = .ok (.getfield 33, 3) := by decide +kernel
theorem dX7_go_27 : decode cX7_go 27 = .ok (.aload_n 0, 1) := by decide +kernel
theorem dX7_go_28 : decode cX7_go 28 = .ok (.getfield 67, 3) := by decide +kernel
theorem dX7_go_31 : decode cX7_go 31 = .ok (.getfield 191, 3) := by decide +kernel
theorem dX7_go_34 : decode cX7_go 34 = .ok (.iload_n 1, 1) := by decide +kernel
theorem dX7_go_35 : decode cX7_go 35 = .ok (.invokevirtual 135, 3) := by decide +kernel
theorem dX7_go_38 : decode cX7_go 38 = .ok (.istore_n 2, 1) := by decide +kernel
theorem dX7_go_39 : decode cX7_go 39 = .ok (.aload_n 0, 1) := by decide +kernel
theorem dX7_go_40 : decode cX7_go 40 = .ok (.getfield 60, 3) := by decide +kernel
theorem dX7_go_43 : decode cX7_go 43 = .ok (.iload_n 2, 1) := by decide +kernel
theorem dX7_go_44 : decode cX7_go 44 = .ok (.invokevirtual 149, 3) := by decide +kernel
theorem dX7_go_47 : decode cX7_go 47 = .ok (.ifCond .ne 6, 3) := by decide +kernel
theorem dX7_go_50 : decode cX7_go 50 = .ok (.bipush (-9), 2) := by decide +kernel
theorem dX7_go_52 : decode cX7_go 52 = .ok (.ireturn, 1) := by decide +kernel
theorem dX7_go_53 : decode cX7_go 53 = .ok (.aload_n 0, 1) := by decide +kernel
theorem dX7_go_54 : decode cX7_go 54 = .ok (.getfield 67, 3) := by decide +kernel
theorem dX7_go_57 : decode cX7_go 57 = .ok (.iload_n 2, 1) := by decide +kernel
theorem dX7_go_58 : decode cX7_go 58 = .ok (.invokevirtual 194, 3) := by decide +kernel
theorem dX7_go_61 : decode cX7_go 61 = .ok (.iload_n 2, 1) := by decide +kernel
theorem dX7_go_62 : decode cX7_go 62 = .ok (.ireturn, 1) := by decide +kernel
theorem dX7_back_0 : decode cX7_back 0 = .ok (.aload_n 0, 1) := by decide +kernel
theorem dX7_back_1 : decode cX7_back 1 = .ok (.getfield 67, 3) := by decide +kernel
theorem dX7_back_4 : decode cX7_back 4 = .ok (.invokevirtual 197, 3) := by decide +kernel
theorem dX7_back_7 : decode cX7_back 7 = .ok (.ifCond .eq 13, 3) := by decide +kernel
theorem dX7_back_10 : decode cX7_back 10 = .ok (.aload_n 0, 1) := by decide +kernel
theorem dX7_back_11 : decode cX7_back 11 = .ok (.getfield 67, 3) := by decide +kernel
theorem dX7_back_14 : decode cX7_back 14 = .ok (.getfield 191, 3) := by decide +kernel
theorem dX7_back_17 : decode cX7_back 17 = .ok (.goto 5, 3) := by decide +kernel
theorem dX7_back_20 : decode cX7_back 20 = .ok (.bipush (-3), 2) := by decide +kernel
theorem dX7_back_22 : decode cX7_back 22 = .ok (.ireturn, 1) := by decide +kernel
theorem dX7_at_0 : decode cX7_at 0 = .ok (.aload_n 0, 1) := by decide +kernel
theorem dX7_at_1 : decode cX7_at 1 = .ok (.getfield 60, 3) := by decide +kernel
theorem dX7_at_4 : decode cX7_at 4 = .ok (.iconst 0, 1) := by decide +kernel
theorem dX7_at_5 : decode cX7_at 5 = .ok (.invokevirtual 149, 3) := by decide +kernel
theorem dX7_at_8 : decode cX7_at 8 = .ok (.ifCond .eq 13, 3) := by decide +kernel
theorem dX7_at_11 : decode cX7_at 11 = .ok (.aload_n 0, 1) := by decide +kernel
theorem dX7_at_12 : decode cX7_at 12 = .ok (.getfield 67, 3) := by decide +kernel
theorem dX7_at_15 : decode cX7_at 15 = .ok (.getfield 191, 3) := by decide +kernel
theorem dX7_at_18 : decode cX7_at 18 = .ok (.goto 5, 3) := by decide +kernel
theorem dX7_at_21 : decode cX7_at 21 = .ok (.bipush (-3), 2) := by decide +kernel
theorem dX7_at_23 : decode cX7_at 23 = .ok (.ireturn, 1) := by decide +kernel
theorem dX7_finish_0 : decode cX7_finish 0 = .ok (.iload_n 1, 1) := by decide +kernel
theorem dX7_finish_1 : decode cX7_finish 1 = .ok (.invokestatic 201, 3) := by decide +kernel
theorem dX7_finish_4 : decode cX7_finish 4 = .ok (.ifCond .ne 6, 3) := by decide +kernel
theorem dX7_finish_7 : decode cX7_finish 7 = .ok (.bipush (-2), 2) := by decide +kernel
theorem dX7_finish_9 : decode cX7_finish 9 = .ok (.ireturn, 1) := by decide +kernel
theorem dX7_finish_10 : decode cX7_finish 10 = .ok (.aload_n 0, 1) := by decide +kernel
theorem dX7_finish_11 : decode cX7_finish 11 = .ok (.getfield 60, 3) := by decide +kernel
theorem dX7_finish_14 : decode cX7_finish 14 = .ok (.iconst 0, 1) := by decide +kernel
theorem dX7_finish_15 : decode cX7_finish 15 = .ok (.invokevirtual 149, 3) := by decide +kernel
theorem dX7_finish_18 : decode cX7_finish 18 = .ok (.ifCond .ne 6, 3) := by decide +kernel
theorem dX7_finish_21 : decode cX7_finish 21 = .ok (.bipush (-3), 2) := by decide +kernel
theorem dX7_finish_23 : decode cX7_finish 23 = .ok (.ireturn, 1) := by decide +kernel
theorem dX7_finish_24 : decode cX7_finish 24 = .ok (.iload_n 1, 1) := by decide +kernel
theorem dX7_finish_25 : decode cX7_finish 25 = .ok (.bipush (-9), 2) := by decide +kernel
theorem dX7_finish_27 : decode cX7_finish 27 = .ok (.if_icmp .ne 20, 3) := by decide +kernel
theorem dX7_finish_30 : decode cX7_finish 30 = .ok (.aload_n 0, 1) := by decide +kernel
theorem dX7_finish_31 : decode cX7_finish 31 = .ok (.getfield 33, 3) := by decide +kernel
theorem dX7_finish_34 : decode cX7_finish 34 = .ok (.aload_n 0, 1) := by decide +kernel
theorem dX7_finish_35 : decode cX7_finish 35 = .ok (.getfield 67, 3) := by decide +kernel
theorem dX7_finish_38 : decode cX7_finish 38 = .ok (.getfield 191, 3) := by decide +kernel
theorem dX7_finish_41 : decode cX7_finish 41 = .ok (.invokevirtual 204, 3) := by decide +kernel
theorem dX7_finish_44 : decode cX7_finish 44 = .ok (.goto 18, 3) := by decide +kernel
theorem dX7_finish_47 : decode cX7_finish 47 = .ok (.aload_n 0, 1) := by decide +kernel
theorem dX7_finish_48 : decode cX7_finish 48 = .ok (.getfield 33, 3) := by decide +kernel
theorem dX7_finish_51 : decode cX7_finish 51 = .ok (.aload_n 0, 1) := by decide +kernel
theorem dX7_finish_52 : decode cX7_finish 52 = .ok (.getfield 67, 3) := by decide +kernel
theorem dX7_finish_55 : decode cX7_finish 55 = .ok (.getfield 191, 3) := by decide +kernel
theorem dX7_finish_58 : decode cX7_finish 58 = .ok (.iload_n 1, 1) := by decide +kernel
theorem dX7_finish_59 : decode cX7_finish 59 = .ok (.invokevirtual 207, 3) := by decide +kernel
theorem dX7_finish_62 : decode cX7_finish 62 = .ok (.ireturn, 1) := by decide +kernel
theorem dX7_word_0 : decode cX7_word 0 = .ok (.aload_n 0, 1) := by decide +kernel
theorem dX7_word_1 : decode cX7_word 1 = .ok (.getfield 33, 3) := by decide +kernel
theorem dX7_word_4 : decode cX7_word 4 = .ok (.iload_n 1, 1) := by decide +kernel
theorem dX7_word_5 : decode cX7_word 5 = .ok (.invokevirtual 129, 3) := by decide +kernel
theorem dX7_word_8 : decode cX7_word 8 = .ok (.ifCond .ne 5, 3) := by decide +kernel
theorem dX7_word_11 : decode cX7_word 11 = .ok (.iconst (-1), 1) := by decide +kernel
theorem dX7_word_12 : decode cX7_word 12 = .ok (.ireturn, 1) := by decide +kernel
theorem dX7_word_13 : decode cX7_word 13 = .ok (.iload_n 2, 1) := by decide +kernel
theorem dX7_word_14 : decode cX7_word 14 = .ok (.invokestatic 201, 3) := by decide +kernel
theorem dX7_word_17 : decode cX7_word 17 = .ok (.ifCond .ne 6, 3) := by decide +kernel
theorem dX7_word_20 : decode cX7_word 20 = .ok (.bipush (-2), 2) := by decide +kernel
theorem dX7_word_22 : decode cX7_word 22 = .ok (.ireturn, 1) := by decide +kernel
theorem dX7_word_23 : decode cX7_word 23 = .ok (.iload_n 2, 1) := by decide +kernel
theorem dX7_word_24 : decode cX7_word 24 = .ok (.bipush (-9), 2) := by decide +kernel
theorem dX7_word_26 : decode cX7_word 26 = .ok (.if_icmp .ne 14, 3) := by decide +kernel
theorem dX7_word_29 : decode cX7_word 29 = .ok (.aload_n 0, 1) := by decide +kernel
theorem dX7_word_30 : decode cX7_word 30 = .ok (.getfield 60, 3) := by decide +kernel
theorem dX7_word_33 : decode cX7_word 33 = .ok (.iload_n 1, 1) := by decide +kernel
theorem dX7_word_34 : decode cX7_word 34 = .ok (.invokevirtual 210, 3) := by decide +kernel
theorem dX7_word_37 : decode cX7_word 37 = .ok (.goto 12, 3) := by decide +kernel
theorem dX7_word_40 : decode cX7_word 40 = .ok (.aload_n 0, 1) := by decide +kernel
theorem dX7_word_41 : decode cX7_word 41 = .ok (.getfield 60, 3) := by decide +kernel
theorem dX7_word_44 : decode cX7_word 44 = .ok (.iload_n 1, 1) := by decide +kernel
theorem dX7_word_45 : decode cX7_word 45 = .ok (.iload_n 2, 1) := by decide +kernel
theorem dX7_word_46 : decode cX7_word 46 = .ok (.invokevirtual 213, 3) := by decide +kernel
theorem dX7_word_49 : decode cX7_word 49 = .ok (.ireturn, 1) := by decide +kernel
theorem dX7_many_0 : decode cX7_many 0 = .ok (.iload_n 1, 1) := by decide +kernel
theorem dX7_many_1 : decode cX7_many 1 = .ok (.tableswitch 123 0 7 #[47, 52, 60, 83, 91, 99, 107, 115], 47) := by decide +kernel
theorem dX7_many_48 : decode cX7_many 48 = .ok (.aload_n 0, 1) := by decide +kernel
theorem dX7_many_49 : decode cX7_many 49 = .ok (.getfield 71, 3) := by decide +kernel
theorem dX7_many_52 : decode cX7_many 52 = .ok (.ireturn, 1) := by decide +kernel
theorem dX7_many_53 : decode cX7_many 53 = .ok (.aload_n 0, 1) := by decide +kernel
theorem dX7_many_54 : decode cX7_many 54 = .ok (.getfield 12, 3) := by decide +kernel
theorem dX7_many_57 : decode cX7_many 57 = .ok (.getfield 91, 3) := by decide +kernel
theorem dX7_many_60 : decode cX7_many 60 = .ok (.ireturn, 1) := by decide +kernel
theorem dX7_many_61 : decode cX7_many 61 = .ok (.aload_n 0, 1) := by decide +kernel
theorem dX7_many_62 : decode cX7_many 62 = .ok (.getfield 33, 3) := by decide +kernel
theorem dX7_many_65 : decode cX7_many 65 = .ok (.getfield 181, 3) := by decide +kernel
theorem dX7_many_68 : decode cX7_many 68 = .ok (.ifCond .eq 8, 3) := by decide +kernel
theorem dX7_many_71 : decode cX7_many 71 = .ok (.bipush (-9), 2) := by decide +kernel
theorem dX7_many_73 : decode cX7_many 73 = .ok (.goto 10, 3) := by decide +kernel
theorem dX7_many_76 : decode cX7_many 76 = .ok (.aload_n 0, 1) := by decide +kernel
theorem dX7_many_77 : decode cX7_many 77 = .ok (.getfield 33, 3) := by decide +kernel
theorem dX7_many_80 : decode cX7_many 80 = .ok (.getfield 185, 3) := by decide +kernel
theorem dX7_many_83 : decode cX7_many 83 = .ok (.ireturn, 1) := by decide +kernel
theorem dX7_many_84 : decode cX7_many 84 = .ok (.aload_n 0, 1) := by decide +kernel
theorem dX7_many_85 : decode cX7_many 85 = .ok (.getfield 53, 3) := by decide +kernel
theorem dX7_many_88 : decode cX7_many 88 = .ok (.getfield 216, 3) := by decide +kernel
theorem dX7_many_91 : decode cX7_many 91 = .ok (.ireturn, 1) := by decide +kernel
theorem dX7_many_92 : decode cX7_many 92 = .ok (.aload_n 0, 1) := by decide +kernel
theorem dX7_many_93 : decode cX7_many 93 = .ok (.getfield 60, 3) := by decide +kernel
theorem dX7_many_96 : decode cX7_many 96 = .ok (.getfield 219, 3) := by decide +kernel
theorem dX7_many_99 : decode cX7_many 99 = .ok (.ireturn, 1) := by decide +kernel
theorem dX7_many_100 : decode cX7_many 100 = .ok (.aload_n 0, 1) := by decide +kernel
theorem dX7_many_101 : decode cX7_many 101 = .ok (.getfield 53, 3) := by decide +kernel
theorem dX7_many_104 : decode cX7_many 104 = .ok (.getfield 220, 3) := by decide +kernel
theorem dX7_many_107 : decode cX7_many 107 = .ok (.ireturn, 1) := by decide +kernel
theorem dX7_many_108 : decode cX7_many 108 = .ok (.aload_n 0, 1) := by decide +kernel
theorem dX7_many_109 : decode cX7_many 109 = .ok (.getfield 67, 3) := by decide +kernel
theorem dX7_many_112 : decode cX7_many 112 = .ok (.getfield 223, 3) := by decide +kernel
theorem dX7_many_115 : decode cX7_many 115 = .ok (.ireturn, 1) := by decide +kernel
theorem dX7_many_116 : decode cX7_many 116 = .ok (.aload_n 0, 1) := by decide +kernel
theorem dX7_many_117 : decode cX7_many 117 = .ok (.getfield 60, 3) := by decide +kernel
theorem dX7_many_120 : decode cX7_many 120 = .ok (.getfield 224, 3) := by decide +kernel
theorem dX7_many_123 : decode cX7_many 123 = .ok (.ireturn, 1) := by decide +kernel
theorem dX7_many_124 : decode cX7_many 124 = .ok (.bipush (-2), 2) := by decide +kernel
theorem dX7_many_126 : decode cX7_many 126 = .ok (.ireturn, 1) := by decide +kernel
theorem dX7_joinAnew_0 : decode cX7_joinAnew 0 = .ok (.aload_n 0, 1) := by decide +kernel
theorem dX7_joinAnew_1 : decode cX7_joinAnew 1 = .ok (.getfield 33, 3) := by decide +kernel
theorem dX7_joinAnew_4 : decode cX7_joinAnew 4 = .ok (.aload_n 0, 1) := by decide +kernel
theorem dX7_joinAnew_5 : decode cX7_joinAnew 5 = .ok (.getfield 25, 3) := by decide +kernel
theorem dX7_joinAnew_8 : decode cX7_joinAnew 8 = .ok (.aload_n 0, 1) := by decide +kernel
theorem dX7_joinAnew_9 : decode cX7_joinAnew 9 = .ok (.invokevirtual 173, 3) := by decide +kernel
theorem dX7_joinAnew_12 : decode cX7_joinAnew 12 = .ok (.invokevirtual 227, 3) := by decide +kernel
theorem dX7_joinAnew_15 : decode cX7_joinAnew 15 = .ok (.aload_n 0, 1) := by decide +kernel
theorem dX7_joinAnew_16 : decode cX7_joinAnew 16 = .ok (.bipush (-9), 2) := by decide +kernel
theorem dX7_joinAnew_18 : decode cX7_joinAnew 18 = .ok (.putfield 78, 3) := by decide +kernel
theorem dX7_joinAnew_21 : decode cX7_joinAnew 21 = .ok (.return_, 1) := by decide +kernel
theorem dX7_joinPart_0 : decode cX7_joinPart 0 = .ok (.iload_n 1, 1) := by decide +kernel
theorem dX7_joinPart_1 : decode cX7_joinPart 1 = .ok (.aload_n 0, 1) := by decide +kernel
theorem dX7_joinPart_2 : decode cX7_joinPart 2 = .ok (.getfield 78, 3) := by decide +kernel
theorem dX7_joinPart_5 : decode cX7_joinPart 5 = .ok (.if_icmp .eq 31, 3) := by decide +kernel
theorem dX7_joinPart_8 : decode cX7_joinPart 8 = .ok (.aload_n 0, 1) := by decide +kernel
theorem dX7_joinPart_9 : decode cX7_joinPart 9 = .ok (.getfield 37, 3) := by decide +kernel
theorem dX7_joinPart_12 : decode cX7_joinPart 12 = .ok (.aload_n 0, 1) := by decide +kernel
theorem dX7_joinPart_13 : decode cX7_joinPart 13 = .ok (.getfield 25, 3) := by decide +kernel
theorem dX7_joinPart_16 : decode cX7_joinPart 16 = .ok (.iload_n 1, 1) := by decide +kernel
theorem dX7_joinPart_17 : decode cX7_joinPart 17 = .ok (.invokevirtual 227, 3) := by decide +kernel
theorem dX7_joinPart_20 : decode cX7_joinPart 20 = .ok (.aload_n 0, 1) := by decide +kernel
theorem dX7_joinPart_21 : decode cX7_joinPart 21 = .ok (.getfield 37, 3) := by decide +kernel
theorem dX7_joinPart_24 : decode cX7_joinPart 24 = .ok (.aload_n 0, 1) := by decide +kernel
theorem dX7_joinPart_25 : decode cX7_joinPart 25 = .ok (.getfield 40, 3) := by decide +kernel
theorem dX7_joinPart_28 : decode cX7_joinPart 28 = .ok (.invokevirtual 231, 3) := by decide +kernel
theorem dX7_joinPart_31 : decode cX7_joinPart 31 = .ok (.aload_n 0, 1) := by decide +kernel
theorem dX7_joinPart_32 : decode cX7_joinPart 32 = .ok (.iload_n 1, 1) := by decide +kernel
theorem dX7_joinPart_33 : decode cX7_joinPart 33 = .ok (.putfield 78, 3) := by decide +kernel
theorem dX7_joinPart_36 : decode cX7_joinPart 36 = .ok (.return_, 1) := by decide +kernel
theorem dX7_controlAnew_0 : decode cX7_controlAnew 0 = .ok (.aload_n 0, 1) := by decide +kernel
theorem dX7_controlAnew_1 : decode cX7_controlAnew 1 = .ok (.getfield 53, 3) := by decide +kernel
theorem dX7_controlAnew_4 : decode cX7_controlAnew 4 = .ok (.aload_n 0, 1) := by decide +kernel
theorem dX7_controlAnew_5 : decode cX7_controlAnew 5 = .ok (.getfield 33, 3) := by decide +kernel
theorem dX7_controlAnew_8 : decode cX7_controlAnew 8 = .ok (.aload_n 0, 1) := by decide +kernel
theorem dX7_controlAnew_9 : decode cX7_controlAnew 9 = .ok (.getfield 75, 3) := by decide +kernel
theorem dX7_controlAnew_12 : decode cX7_controlAnew 12 = .ok (.invokevirtual 235, 3) := by decide +kernel
theorem dX7_controlAnew_15 : decode cX7_controlAnew 15 = .ok (.aload_n 0, 1) := by decide +kernel
theorem dX7_controlAnew_16 : decode cX7_controlAnew 16 = .ok (.getfield 60, 3) := by decide +kernel
theorem dX7_controlAnew_19 : decode cX7_controlAnew 19 = .ok (.aload_n 0, 1) := by decide +kernel
theorem dX7_controlAnew_20 : decode cX7_controlAnew 20 = .ok (.getfield 33, 3) := by decide +kernel
theorem dX7_controlAnew_23 : decode cX7_controlAnew 23 = .ok (.aload_n 0, 1) := by decide +kernel
theorem dX7_controlAnew_24 : decode cX7_controlAnew 24 = .ok (.getfield 53, 3) := by decide +kernel
theorem dX7_controlAnew_27 : decode cX7_controlAnew 27 = .ok (.invokevirtual 239, 3) := by decide +kernel
theorem dX7_controlAnew_30 : decode cX7_controlAnew 30 = .ok (.aload_n 0, 1) := by decide +kernel
theorem dX7_controlAnew_31 : decode cX7_controlAnew 31 = .ok (.getfield 67, 3) := by decide +kernel
theorem dX7_controlAnew_34 : decode cX7_controlAnew 34 = .ok (.invokevirtual 243, 3) := by decide +kernel
theorem dX7_controlAnew_37 : decode cX7_controlAnew 37 = .ok (.return_, 1) := by decide +kernel
theorem dX7_setOfAllMachines_0 : decode cX7_setOfAllMachines 0 = .ok (.iconst 1, 1) := by decide +kernel
theorem dX7_setOfAllMachines_1 : decode cX7_setOfAllMachines 1 = .ok (.aload_n 0, 1) := by decide +kernel
theorem dX7_setOfAllMachines_2 : decode cX7_setOfAllMachines 2 = .ok (.getfield 71, 3) := by decide +kernel
theorem dX7_setOfAllMachines_5 : decode cX7_setOfAllMachines 5 = .ok (.ishl, 1) := by decide +kernel
theorem dX7_setOfAllMachines_6 : decode cX7_setOfAllMachines 6 = .ok (.iconst 1, 1) := by decide +kernel
theorem dX7_setOfAllMachines_7 : decode cX7_setOfAllMachines 7 = .ok (.isub, 1) := by decide +kernel
theorem dX7_setOfAllMachines_8 : decode cX7_setOfAllMachines 8 = .ok (.ireturn, 1) := by decide +kernel
theorem dX7_isMachine_0 : decode cX7_isMachine 0 = .ok (.iload_n 1, 1) := by decide +kernel
theorem dX7_isMachine_1 : decode cX7_isMachine 1 = .ok (.ifCond .lt 15, 3) := by decide +kernel
theorem dX7_isMachine_4 : decode cX7_isMachine 4 = .ok (.iload_n 1, 1) := by decide +kernel
theorem dX7_isMachine_5 : decode cX7_isMachine 5 = .ok (.aload_n 0, 1) := by decide +kernel
theorem dX7_isMachine_6 : decode cX7_isMachine 6 = .ok (.getfield 71, 3) := by decide +kernel
theorem dX7_isMachine_9 : decode cX7_isMachine 9 = .ok (.if_icmp .ge 7, 3) := by decide +kernel
theorem dX7_isMachine_12 : decode cX7_isMachine 12 = .ok (.iconst 1, 1) := by decide +kernel
theorem dX7_isMachine_13 : decode cX7_isMachine 13 = .ok (.goto 4, 3) := by decide +kernel
theorem dX7_isMachine_16 : decode cX7_isMachine 16 = .ok (.iconst 0, 1) := by decide +kernel
theorem dX7_isMachine_17 : decode cX7_isMachine 17 = .ok (.ireturn, 1) := by decide +kernel
theorem dX7_isState_0 : decode cX7_isState 0 = .ok (.iload_n 0, 1) := by decide +kernel
theorem dX7_isState_1 : decode cX7_isState 1 = .ok (.ifCond .lt 13, 3) := by decide +kernel
theorem dX7_isState_4 : decode cX7_isState 4 = .ok (.iload_n 0, 1) := by decide +kernel
theorem dX7_isState_5 : decode cX7_isState 5 = .ok (.bipush 6, 2) := by decide +kernel
theorem dX7_isState_7 : decode cX7_isState 7 = .ok (.if_icmp .ge 7, 3) := by decide +kernel
theorem dX7_isState_10 : decode cX7_isState 10 = .ok (.iconst 1, 1) := by decide +kernel
theorem dX7_isState_11 : decode cX7_isState 11 = .ok (.goto 4, 3) := by decide +kernel
theorem dX7_isState_14 : decode cX7_isState 14 = .ok (.iconst 0, 1) := by decide +kernel
theorem dX7_isState_15 : decode cX7_isState 15 = .ok (.ireturn, 1) := by decide +kernel
theorem dX7_isEvent_0 : decode cX7_isEvent 0 = .ok (.iload_n 0, 1) := by decide +kernel
theorem dX7_isEvent_1 : decode cX7_isEvent 1 = .ok (.ifCond .lt 13, 3) := by decide +kernel
theorem dX7_isEvent_4 : decode cX7_isEvent 4 = .ok (.iload_n 0, 1) := by decide +kernel
theorem dX7_isEvent_5 : decode cX7_isEvent 5 = .ok (.bipush 8, 2) := by decide +kernel
theorem dX7_isEvent_7 : decode cX7_isEvent 7 = .ok (.if_icmp .ge 7, 3) := by decide +kernel
theorem dX7_isEvent_10 : decode cX7_isEvent 10 = .ok (.iconst 1, 1) := by decide +kernel
theorem dX7_isEvent_11 : decode cX7_isEvent 11 = .ok (.goto 4, 3) := by decide +kernel
theorem dX7_isEvent_14 : decode cX7_isEvent 14 = .ok (.iconst 0, 1) := by decide +kernel
theorem dX7_isEvent_15 : decode cX7_isEvent 15 = .ok (.ireturn, 1) := by decide +kernel
theorem dX7_isJoint_0 : decode cX7_isJoint 0 = .ok (.iload_n 0, 1) := by decide +kernel
theorem dX7_isJoint_1 : decode cX7_isJoint 1 = .ok (.ifCond .lt 14, 3) := by decide +kernel
theorem dX7_isJoint_4 : decode cX7_isJoint 4 = .ok (.iload_n 0, 1) := by decide +kernel
theorem dX7_isJoint_5 : decode cX7_isJoint 5 = .ok (.sipush 150, 3) := by decide +kernel
theorem dX7_isJoint_8 : decode cX7_isJoint 8 = .ok (.if_icmp .ge 7, 3) := by decide +kernel
theorem dX7_isJoint_11 : decode cX7_isJoint 11 = .ok (.iconst 1, 1) := by decide +kernel
theorem dX7_isJoint_12 : decode cX7_isJoint 12 = .ok (.goto 4, 3) := by decide +kernel
theorem dX7_isJoint_15 : decode cX7_isJoint 15 = .ok (.iconst 0, 1) := by decide +kernel
theorem dX7_isJoint_16 : decode cX7_isJoint 16 = .ok (.ireturn, 1) := by decide +kernel
theorem dX7_isPlaceInWord_0 : decode cX7_isPlaceInWord 0 = .ok (.iload_n 0, 1) := by decide +kernel
theorem dX7_isPlaceInWord_1 : decode cX7_isPlaceInWord 1 = .ok (.bipush (-9), 2) := by decide +kernel
theorem dX7_isPlaceInWord_3 : decode cX7_isPlaceInWord 3 = .ok (.if_icmp .eq 14, 3) := by decide +kernel
theorem dX7_isPlaceInWord_6 : decode cX7_isPlaceInWord 6 = .ok (.iload_n 0, 1) := by decide +kernel
theorem dX7_isPlaceInWord_7 : decode cX7_isPlaceInWord 7 = .ok (.ifCond .lt 14, 3) := by decide +kernel
theorem dX7_isPlaceInWord_10 : decode cX7_isPlaceInWord 10 = .ok (.iload_n 0, 1) := by decide +kernel
theorem dX7_isPlaceInWord_11 : decode cX7_isPlaceInWord 11 = .ok (.sipush 150, 3) := by decide +kernel
theorem dX7_isPlaceInWord_14 : decode cX7_isPlaceInWord 14 = .ok (.if_icmp .ge 7, 3) := by decide +kernel
theorem dX7_isPlaceInWord_17 : decode cX7_isPlaceInWord 17 = .ok (.iconst 1, 1) := by decide +kernel
theorem dX7_isPlaceInWord_18 : decode cX7_isPlaceInWord 18 = .ok (.goto 4, 3) := by decide +kernel
theorem dX7_isPlaceInWord_21 : decode cX7_isPlaceInWord 21 = .ok (.iconst 0, 1) := by decide +kernel
theorem dX7_isPlaceInWord_22 : decode cX7_isPlaceInWord 22 = .ok (.ireturn, 1) := by decide +kernel
theorem dX7_isIn_0 : decode cX7_isIn 0 = .ok (.iload_n 0, 1) := by decide +kernel
theorem dX7_isIn_1 : decode cX7_isIn 1 = .ok (.iload_n 1, 1) := by decide +kernel
theorem dX7_isIn_2 : decode cX7_isIn 2 = .ok (.ishr, 1) := by decide +kernel
theorem dX7_isIn_3 : decode cX7_isIn 3 = .ok (.iconst 1, 1) := by decide +kernel
theorem dX7_isIn_4 : decode cX7_isIn 4 = .ok (.iand, 1) := by decide +kernel
theorem dX7_isIn_5 : decode cX7_isIn 5 = .ok (.iconst 1, 1) := by decide +kernel
theorem dX7_isIn_6 : decode cX7_isIn 6 = .ok (.if_icmp .ne 7, 3) := by decide +kernel
theorem dX7_isIn_9 : decode cX7_isIn 9 = .ok (.iconst 1, 1) := by decide +kernel
theorem dX7_isIn_10 : decode cX7_isIn 10 = .ok (.goto 4, 3) := by decide +kernel
theorem dX7_isIn_13 : decode cX7_isIn 13 = .ok (.iconst 0, 1) := by decide +kernel
theorem dX7_isIn_14 : decode cX7_isIn 14 = .ok (.ireturn, 1) := by decide +kernel
theorem dX7_leastIn_0 : decode cX7_leastIn 0 = .ok (.iconst 0, 1) := by decide +kernel
theorem dX7_leastIn_1 : decode cX7_leastIn 1 = .ok (.istore_n 1, 1) := by decide +kernel
theorem dX7_leastIn_2 : decode cX7_leastIn 2 = .ok (.iload_n 1, 1) := by decide +kernel
theorem dX7_leastIn_3 : decode cX7_leastIn 3 = .ok (.bipush 8, 2) := by decide +kernel
theorem dX7_leastIn_5 : decode cX7_leastIn 5 = .ok (.if_icmp .ge 19, 3) := by decide +kernel
theorem dX7_leastIn_8 : decode cX7_leastIn 8 = .ok (.iload_n 0, 1) := by decide +kernel
theorem dX7_leastIn_9 : decode cX7_leastIn 9 = .ok (.iload_n 1, 1) := by decide +kernel
theorem dX7_leastIn_10 : decode cX7_leastIn 10 = .ok (.invokestatic 246, 3) := by decide +kernel
theorem dX7_leastIn_13 : decode cX7_leastIn 13 = .ok (.ifCond .eq 5, 3) := by decide +kernel
theorem dX7_leastIn_16 : decode cX7_leastIn 16 = .ok (.iload_n 1, 1) := by decide +kernel
theorem dX7_leastIn_17 : decode cX7_leastIn 17 = .ok (.ireturn, 1) := by decide +kernel
theorem dX7_leastIn_18 : decode cX7_leastIn 18 = .ok (.iinc 1 1, 3) := by decide +kernel
theorem dX7_leastIn_21 : decode cX7_leastIn 21 = .ok (.goto (-19), 3) := by decide +kernel
theorem dX7_leastIn_24 : decode cX7_leastIn 24 = .ok (.bipush (-9), 2) := by decide +kernel
theorem dX7_leastIn_26 : decode cX7_leastIn 26 = .ok (.ireturn, 1) := by decide +kernel
theorem dX8_init_0 : decode cX8_init 0 = .ok (.aload_n 0, 1) := by decide +kernel
theorem dX8_init_1 : decode cX8_init 1 = .ok (.invokespecial 1, 3) := by decide +kernel
theorem dX8_init_4 : decode cX8_init 4 = .ok (.aload_n 0, 1) := by decide +kernel
theorem dX8_init_5 : decode cX8_init 5 = .ok (.bipush 60, 2) := by decide +kernel
theorem dX8_init_7 : decode cX8_init 7 = .ok (.newarray .int, 2) := by decide +kernel
theorem dX8_init_9 : decode cX8_init 9 = .ok (.putfield 7, 3) := by decide +kernel
theorem dX8_init_12 : decode cX8_init 12 = .ok (.aload_n 0, 1) := by decide +kernel
theorem dX8_init_13 : decode cX8_init 13 = .ok (.bipush 6, 2) := by decide +kernel
theorem dX8_init_15 : decode cX8_init 15 = .ok (.newarray .int, 2) := by decide +kernel
theorem dX8_init_17 : decode cX8_init 17 = .ok (.putfield 13, 3) := by decide +kernel
theorem dX8_init_20 : decode cX8_init 20 = .ok (.aload_n 0, 1) := by decide +kernel
theorem dX8_init_21 : decode cX8_init 21 = .ok (.bipush 6, 2) := by decide +kernel
theorem dX8_init_23 : decode cX8_init 23 = .ok (.newarray .int, 2) := by decide +kernel
theorem dX8_init_25 : decode cX8_init 25 = .ok (.putfield 16, 3) := by decide +kernel
theorem dX8_init_28 : decode cX8_init 28 = .ok (.aload_n 0, 1) := by decide +kernel
theorem dX8_init_29 : decode cX8_init 29 = .ok (.bipush 6, 2) := by decide +kernel
theorem dX8_init_31 : decode cX8_init 31 = .ok (.newarray .int, 2) := by decide +kernel
theorem dX8_init_33 : decode cX8_init 33 = .ok (.putfield 19, 3) := by decide +kernel
theorem dX8_init_36 : decode cX8_init 36 = .ok (.aload_n 0, 1) := by decide +kernel
theorem dX8_init_37 : decode cX8_init 37 = .ok (.bipush 6, 2) := by decide +kernel
theorem dX8_init_39 : decode cX8_init 39 = .ok (.newarray .int, 2) := by decide +kernel
theorem dX8_init_41 : decode cX8_init 41 = .ok (.putfield 22, 3) := by decide +kernel
theorem dX8_init_44 : decode cX8_init 44 = .ok (.aload_n 0, 1) := by decide +kernel
theorem dX8_init_45 : decode cX8_init 45 = .ok (.bipush 6, 2) := by decide +kernel
theorem dX8_init_47 : decode cX8_init 47 = .ok (.newarray .int, 2) := by decide +kernel
theorem dX8_init_49 : decode cX8_init 49 = .ok (.putfield 25, 3) := by decide +kernel
theorem dX8_init_52 : decode cX8_init 52 = .ok (.aload_n 0, 1) := by decide +kernel
theorem dX8_init_53 : decode cX8_init 53 = .ok (.sipush 288, 3) := by decide +kernel
theorem dX8_init_56 : decode cX8_init 56 = .ok (.newarray .int, 2) := by decide +kernel
theorem dX8_init_58 : decode cX8_init 58 = .ok (.putfield 28, 3) := by decide +kernel
theorem dX8_init_61 : decode cX8_init 61 = .ok (.aload_n 0, 1) := by decide +kernel
theorem dX8_init_62 : decode cX8_init 62 = .ok (.sipush 150, 3) := by decide +kernel
theorem dX8_init_65 : decode cX8_init 65 = .ok (.newarray .int, 2) := by decide +kernel
theorem dX8_init_67 : decode cX8_init 67 = .ok (.putfield 31, 3) := by decide +kernel
theorem dX8_init_70 : decode cX8_init 70 = .ok (.aload_n 0, 1) := by decide +kernel
theorem dX8_init_71 : decode cX8_init 71 = .ok (.sipush 1200, 3) := by decide +kernel
theorem dX8_init_74 : decode cX8_init 74 = .ok (.newarray .int, 2) := by decide +kernel
theorem dX8_init_76 : decode cX8_init 76 = .ok (.putfield 34, 3) := by decide +kernel
theorem dX8_init_79 : decode cX8_init 79 = .ok (.aload_n 0, 1) := by decide +kernel
theorem dX8_init_80 : decode cX8_init 80 = .ok (.sipush 150, 3) := by decide +kernel
theorem dX8_init_83 : decode cX8_init 83 = .ok (.newarray .int, 2) := by decide +kernel
theorem dX8_init_85 : decode cX8_init 85 = .ok (.putfield 37, 3) := by decide +kernel
theorem dX8_init_88 : decode cX8_init 88 = .ok (.aload_n 0, 1) := by decide +kernel
theorem dX8_init_89 : decode cX8_init 89 = .ok (.sipush 150, 3) := by decide +kernel
theorem dX8_init_92 : decode cX8_init 92 = .ok (.newarray .int, 2) := by decide +kernel
theorem dX8_init_94 : decode cX8_init 94 = .ok (.putfield 40, 3) := by decide +kernel
theorem dX8_init_97 : decode cX8_init 97 = .ok (.aload_n 0, 1) := by decide +kernel
theorem dX8_init_98 : decode cX8_init 98 = .ok (.sipush 150, 3) := by decide +kernel
theorem dX8_init_101 : decode cX8_init 101 = .ok (.newarray .int, 2) := by decide +kernel
theorem dX8_init_103 : decode cX8_init 103 = .ok (.putfield 43, 3) := by decide +kernel
theorem dX8_init_106 : decode cX8_init 106 = .ok (.aload_n 0, 1) := by decide +kernel
theorem dX8_init_107 : decode cX8_init 107 = .ok (.sipush 150, 3) := by decide +kernel
theorem dX8_init_110 : decode cX8_init 110 = .ok (.newarray .boolean, 2) := by decide +kernel
theorem dX8_init_112 : decode cX8_init 112 = .ok (.putfield 46, 3) := by decide +kernel
theorem dX8_init_115 : decode cX8_init 115 = .ok (.aload_n 0, 1) := by decide +kernel
theorem dX8_init_116 : decode cX8_init 116 = .ok (.sipush 150, 3) := by decide +kernel
theorem dX8_init_119 : decode cX8_init 119 = .ok (.newarray .boolean, 2) := by decide +kernel
theorem dX8_init_121 : decode cX8_init 121 = .ok (.putfield 50, 3) := by decide +kernel
theorem dX8_init_124 : decode cX8_init 124 = .ok (.aload_n 0, 1) := by decide +kernel
theorem dX8_init_125 : decode cX8_init 125 = .ok (.bipush 16, 2) := by decide +kernel
theorem dX8_init_127 : decode cX8_init 127 = .ok (.newarray .int, 2) := by decide +kernel
theorem dX8_init_129 : decode cX8_init 129 = .ok (.putfield 53, 3) := by decide +kernel
theorem dX8_init_132 : decode cX8_init 132 = .ok (.aload_n 0, 1) := by decide +kernel
theorem dX8_init_133 : decode cX8_init 133 = .ok (.sipush 150, 3) := by decide +kernel
theorem dX8_init_136 : decode cX8_init 136 = .ok (.newarray .int, 2) := by decide +kernel
theorem dX8_init_138 : decode cX8_init 138 = .ok (.putfield 56, 3) := by decide +kernel
theorem dX8_init_141 : decode cX8_init 141 = .ok (.return_, 1) := by decide +kernel
theorem dX8_within_0 : decode cX8_within 0 = .ok (.iload_n 0, 1) := by decide +kernel
theorem dX8_within_1 : decode cX8_within 1 = .ok (.iload_n 1, 1) := by decide +kernel
theorem dX8_within_2 : decode cX8_within 2 = .ok (.if_icmp .lt 12, 3) := by decide +kernel
theorem dX8_within_5 : decode cX8_within 5 = .ok (.iload_n 0, 1) := by decide +kernel
theorem dX8_within_6 : decode cX8_within 6 = .ok (.iload_n 2, 1) := by decide +kernel
theorem dX8_within_7 : decode cX8_within 7 = .ok (.if_icmp .gt 7, 3) := by decide +kernel
theorem dX8_within_10 : decode cX8_within 10 = .ok (.iconst 1, 1) := by decide +kernel
theorem dX8_within_11 : decode cX8_within 11 = .ok (.goto 4, 3) := by decide +kernel
theorem dX8_within_14 : decode cX8_within 14 = .ok (.iconst 0, 1) := by decide +kernel
theorem dX8_within_15 : decode cX8_within 15 = .ok (.ireturn, 1) := by decide +kernel
theorem dX8_bit_0 : decode cX8_bit 0 = .ok (.iload_n 0, 1) := by decide +kernel
theorem dX8_bit_1 : decode cX8_bit 1 = .ok (.iload_n 1, 1) := by decide +kernel
theorem dX8_bit_2 : decode cX8_bit 2 = .ok (.ishr, 1) := by decide +kernel
theorem dX8_bit_3 : decode cX8_bit 3 = .ok (.iconst 1, 1) := by decide +kernel
theorem dX8_bit_4 : decode cX8_bit 4 = .ok (.iand, 1) := by decide +kernel
theorem dX8_bit_5 : decode cX8_bit 5 = .ok (.ireturn, 1) := by decide +kernel
theorem dX8_type_0 : decode cX8_type 0 = .ok (.iload_n 1, 1) := by decide +kernel
theorem dX8_type_1 : decode cX8_type 1 = .ok (.iconst 0, 1) := by decide +kernel
theorem dX8_type_2 : decode cX8_type 2 = .ok (.bipush 127, 2) := by decide +kernel
theorem dX8_type_4 : decode cX8_type 4 = .ok (.invokestatic 59, 3) := by decide +kernel
theorem dX8_type_7 : decode cX8_type 7 = .ok (.ifCond .ne 6, 3) := by decide +kernel
theorem dX8_type_10 : decode cX8_type 10 = .ok (.bipush (-2), 2) := by decide +kernel
theorem dX8_type_12 : decode cX8_type 12 = .ok (.ireturn, 1) := by decide +kernel
theorem dX8_type_13 : decode cX8_type 13 = .ok (.aload_n 0, 1) := by decide +kernel
theorem dX8_type_14 : decode cX8_type 14 = .ok (.getfield 63, 3) := by decide +kernel
theorem dX8_type_17 : decode cX8_type 17 = .ok (.bipush 60, 2) := by decide +kernel
theorem dX8_type_19 : decode cX8_type 19 = .ok (.if_icmp .ne 6, 3) := by decide +kernel
theorem dX8_type_22 : decode cX8_type 22 = .ok (.bipush (-4), 2) := by decide +kernel
theorem dX8_type_24 : decode cX8_type 24 = .ok (.ireturn, 1) := by decide +kernel
theorem dX8_type_25 : decode cX8_type 25 = .ok (.aload_n 0, 1) := by decide +kernel
theorem dX8_type_26 : decode cX8_type 26 = .ok (.getfield 7, 3) := by decide +kernel
theorem dX8_type_29 : decode cX8_type 29 = .ok (.aload_n 0, 1) := by decide +kernel
theorem dX8_type_30 : decode cX8_type 30 = .ok (.getfield 63, 3) := by decide +kernel
theorem dX8_type_33 : decode cX8_type 33 = .ok (.iload_n 1, 1) := by decide +kernel
theorem dX8_type_34 : decode cX8_type 34 = .ok (.iastore, 1) := by decide +kernel
theorem dX8_type_35 : decode cX8_type 35 = .ok (.aload_n 0, 1) := by decide +kernel
theorem dX8_type_36 : decode cX8_type 36 = .ok (.dup, 1) := by decide +kernel
theorem dX8_type_37 : decode cX8_type 37 = .ok (.getfield 63, 3) := by decide +kernel
theorem dX8_type_40 : decode cX8_type 40 = .ok (.iconst 1, 1) := by decide +kernel
theorem dX8_type_41 : decode cX8_type 41 = .ok (.iadd, 1) := by decide +kernel
theorem dX8_type_42 : decode cX8_type 42 = .ok (.putfield 63, 3) := by decide +kernel
theorem dX8_type_45 : decode cX8_type 45 = .ok (.aload_n 0, 1) := by decide +kernel
theorem dX8_type_46 : decode cX8_type 46 = .ok (.getfield 63, 3) := by decide +kernel
theorem dX8_type_49 : decode cX8_type 49 = .ok (.ireturn, 1) := by decide +kernel
theorem dX8_wipe_0 : decode cX8_wipe 0 = .ok (.aload_n 0, 1) := by decide +kernel
theorem dX8_wipe_1 : decode cX8_wipe 1 = .ok (.getfield 63, 3) := by decide +kernel
theorem dX8_wipe_4 : decode cX8_wipe 4 = .ok (.istore_n 1, 1) := by decide +kernel
theorem dX8_wipe_5 : decode cX8_wipe 5 = .ok (.aload_n 0, 1) := by decide +kernel
theorem dX8_wipe_6 : decode cX8_wipe 6 = .ok (.iconst 0, 1) := by decide +kernel
theorem dX8_wipe_7 : decode cX8_wipe 7 = .ok (.putfield 63, 3) := by decide +kernel
theorem dX8_wipe_10 : decode cX8_wipe 10 = .ok (.iload_n 1, 1) := by decide +kernel
theorem dX8_wipe_11 : decode cX8_wipe 11 = .ok (.ireturn, 1) := by decide +kernel
theorem dX8_stepAt_0 : decode cX8_stepAt 0 = .ok (.bipush 8, 2) := by decide +kernel
theorem dX8_stepAt_2 : decode cX8_stepAt 2 = .ok (.bipush 6, 2) := by decide +kernel
theorem dX8_stepAt_4 : decode cX8_stepAt 4 = .ok (.iload_n 0, 1) := by decide +kernel
theorem dX8_stepAt_5 : decode cX8_stepAt 5 = .ok (.imul, 1) := by decide +kernel
theorem dX8_stepAt_6 : decode cX8_stepAt 6 = .ok (.iload_n 1, 1) := by decide +kernel
theorem dX8_stepAt_7 : decode cX8_stepAt 7 = .ok (.iadd, 1) := by decide +kernel
theorem dX8_stepAt_8 : decode cX8_stepAt 8 = .ok (.imul, 1) := by decide +kernel
theorem dX8_stepAt_9 : decode cX8_stepAt 9 = .ok (.iload_n 2, 1) := by decide +kernel
theorem dX8_stepAt_10 : decode cX8_stepAt 10 = .ok (.iadd, 1) := by decide +kernel
theorem dX8_stepAt_11 : decode cX8_stepAt 11 = .ok (.ireturn, 1) := by decide +kernel
theorem dX8_codeHere_0 : decode cX8_codeHere 0 = .ok (.aload_n 0, 1) := by decide +kernel
theorem dX8_codeHere_1 : decode cX8_codeHere 1 = .ok (.getfield 67, 3) := by decide +kernel
theorem dX8_codeHere_4 : decode cX8_codeHere 4 = .ok (.aload_n 0, 1) := by decide +kernel
theorem dX8_codeHere_5 : decode cX8_codeHere 5 = .ok (.getfield 63, 3) := by decide +kernel
theorem dX8_codeHere_8 : decode cX8_codeHere 8 = .ok (.if_icmp .ge 15, 3) := by decide +kernel
theorem dX8_codeHere_11 : decode cX8_codeHere 11 = .ok (.aload_n 0, 1) := by decide +kernel
theorem dX8_codeHere_12 : decode cX8_codeHere 12 = .ok (.getfield 7, 3) := by decide +kernel
theorem dX8_codeHere_15 : decode cX8_codeHere 15 = .ok (.aload_n 0, 1) := by decide +kernel
theorem dX8_codeHere_16 : decode cX8_codeHere 16 = .ok (.getfield 67, 3) := by decide +kernel
theorem dX8_codeHere_19 : decode cX8_codeHere 19 = .ok (.iaload, 1) := by decide +kernel
theorem dX8_codeHere_20 : decode cX8_codeHere 20 = .ok (.goto 5, 3) := by decide +kernel
theorem dX8_codeHere_23 : decode cX8_codeHere 23 = .ok (.bipush (-9), 2) := by decide +kernel
theorem dX8_codeHere_25 : decode cX8_codeHere 25 = .ok (.ireturn, 1) := by decide +kernel
theorem dX8_isFigure_0 : decode cX8_isFigure 0 = .ok (.aload_n 0, 1) := by decide +kernel
theorem dX8_isFigure_1 : decode cX8_isFigure 1 = .ok (.invokevirtual 70, 3) := by decide +kernel
theorem dX8_isFigure_4 : decode cX8_isFigure 4 = .ok (.bipush 48, 2) := by decide +kernel
theorem dX8_isFigure_6 : decode cX8_isFigure 6 = .ok (.bipush 53, 2) := by decide +kernel
theorem dX8_isFigure_8 : decode cX8_isFigure 8 = .ok (.invokestatic 59, 3) := by decide +kernel
theorem dX8_isFigure_11 : decode cX8_isFigure 11 = .ok (.ireturn, 1) := by decide +kernel
theorem dX8_isLetter_0 : decode cX8_isLetter 0 = .ok (.aload_n 0, 1) := by decide +kernel
theorem dX8_isLetter_1 : decode cX8_isLetter 1 = .ok (.invokevirtual 70, 3) := by decide +kernel
theorem dX8_isLetter_4 : decode cX8_isLetter 4 = .ok (.bipush 97, 2) := by decide +kernel
theorem dX8_isLetter_6 : decode cX8_isLetter 6 = .ok (.bipush 104, 2) := by decide +kernel
theorem dX8_isLetter_8 : decode cX8_isLetter 8 = .ok (.invokestatic 59, 3) := by decide +kernel
theorem dX8_isLetter_11 : decode cX8_isLetter 11 = .ok (.ireturn, 1) := by decide +kernel
theorem dX8_names_0 : decode cX8_names 0 = .ok (.aload_n 0, 1) := by decide +kernel
theorem dX8_names_1 : decode cX8_names 1 = .ok (.getfield 25, 3) := by decide +kernel
theorem dX8_names_4 : decode cX8_names 4 = .ok (.iload_n 1, 1) := by decide +kernel
theorem dX8_names_5 : decode cX8_names 5 = .ok (.iload_n 2, 1) := by decide +kernel
theorem dX8_names_6 : decode cX8_names 6 = .ok (.aload_n 0, 1) := by decide +kernel
theorem dX8_names_7 : decode cX8_names 7 = .ok (.getfield 25, 3) := by decide +kernel
theorem dX8_names_10 : decode cX8_names 10 = .ok (.iload_n 1, 1) := by decide +kernel
theorem dX8_names_11 : decode cX8_names 11 = .ok (.iaload, 1) := by decide +kernel
theorem dX8_names_12 : decode cX8_names 12 = .ok (.if_icmp .le 7, 3) := by decide +kernel
theorem dX8_names_15 : decode cX8_names 15 = .ok (.iload_n 2, 1) := by decide +kernel
theorem dX8_names_16 : decode cX8_names 16 = .ok (.goto 9, 3) := by decide +kernel
theorem dX8_names_19 : decode cX8_names 19 = .ok (.aload_n 0, 1) := by decide +kernel
theorem dX8_names_20 : decode cX8_names 20 = .ok (.getfield 25, 3) := by decide +kernel
theorem dX8_names_23 : decode cX8_names 23 = .ok (.iload_n 1, 1) := by decide +kernel
theorem dX8_names_24 : decode cX8_names 24 = .ok (.iaload, 1) := by decide +kernel
theorem dX8_names_25 : decode cX8_names 25 = .ok (.iastore, 1) := by decide +kernel
theorem dX8_names_26 : decode cX8_names 26 = .ok (.return_, 1) := by decide +kernel
theorem dX8_readsStep_0 : decode cX8_readsStep 0 = .ok (.aload_n 0, 1) := by decide +kernel
theorem dX8_readsStep_1 : decode cX8_readsStep 1 = .ok (.invokevirtual 70, 3) := by decide +kernel
theorem dX8_readsStep_4 : decode cX8_readsStep 4 = .ok (.bipush 48, 2) := by decide +kernel
theorem dX8_readsStep_6 : decode cX8_readsStep 6 = .ok (.isub, 1) := by decide +kernel
theorem dX8_readsStep_7 : decode cX8_readsStep 7 = .ok (.istore_n 2, 1) := by decide +kernel
theorem dX8_readsStep_8 : decode cX8_readsStep 8 = .ok (.aload_n 0, 1) := by decide +kernel
theorem dX8_readsStep_9 : decode cX8_readsStep 9 = .ok (.dup, 1) := by decide +kernel
theorem dX8_readsStep_10 : decode cX8_readsStep 10 = .ok (.getfield 67, 3) := by decide +kernel
theorem dX8_readsStep_13 : decode cX8_readsStep 13 = .ok (.iconst 1, 1) := by decide +kernel
theorem dX8_readsStep_14 : decode cX8_readsStep 14 = .ok (.iadd, 1) := by decide +kernel
theorem dX8_readsStep_15 : decode cX8_readsStep 15 = .ok (.putfield 67, 3) := by decide +kernel
theorem dX8_readsStep_18 : decode cX8_readsStep 18 = .ok (.aload_n 0, 1) := by decide +kernel
theorem dX8_readsStep_19 : decode cX8_readsStep 19 = .ok (.invokevirtual 74, 3) := by decide +kernel
theorem dX8_readsStep_22 : decode cX8_readsStep 22 = .ok (.ifCond .ne 5, 3) := by decide +kernel
theorem dX8_readsStep_25 : decode cX8_readsStep 25 = .ok (.iconst 0, 1) := by decide +kernel
theorem dX8_readsStep_26 : decode cX8_readsStep 26 = .ok (.ireturn, 1) := by decide +kernel
theorem dX8_readsStep_27 : decode cX8_readsStep 27 = .ok (.aload_n 0, 1) := by decide +kernel
theorem dX8_readsStep_28 : decode cX8_readsStep 28 = .ok (.invokevirtual 70, 3) := by decide +kernel
theorem dX8_readsStep_31 : decode cX8_readsStep 31 = .ok (.bipush 97, 2) := by decide +kernel
theorem dX8_readsStep_33 : decode cX8_readsStep 33 = .ok (.isub, 1) := by decide +kernel
theorem dX8_readsStep_34 : decode cX8_readsStep 34 = .ok (.istore_n 3, 1) := by decide +kernel
theorem dX8_readsStep_35 : decode cX8_readsStep 35 = .ok (.aload_n 0, 1) := by decide +kernel
theorem dX8_readsStep_36 : decode cX8_readsStep 36 = .ok (.dup, 1) := by decide +kernel
theorem dX8_readsStep_37 : decode cX8_readsStep 37 = .ok (.getfield 67, 3) := by decide +kernel
theorem dX8_readsStep_40 : decode cX8_readsStep 40 = .ok (.iconst 1, 1) := by decide +kernel
theorem dX8_readsStep_41 : decode cX8_readsStep 41 = .ok (.iadd, 1) := by decide +kernel
theorem dX8_readsStep_42 : decode cX8_readsStep 42 = .ok (.putfield 67, 3) := by decide +kernel
theorem dX8_readsStep_45 : decode cX8_readsStep 45 = .ok (.aload_n 0, 1) := by decide +kernel
theorem dX8_readsStep_46 : decode cX8_readsStep 46 = .ok (.invokevirtual 78, 3) := by decide +kernel
theorem dX8_readsStep_49 : decode cX8_readsStep 49 = .ok (.ifCond .ne 5, 3) := by decide +kernel
theorem dX8_readsStep_52 : decode cX8_readsStep 52 = .ok (.iconst 0, 1) := by decide +kernel
theorem dX8_readsStep_53 : decode cX8_readsStep 53 = .ok (.ireturn, 1) := by decide +kernel
theorem dX8_readsStep_54 : decode cX8_readsStep 54 = .ok (.aload_n 0, 1) := by decide +kernel
theorem dX8_readsStep_55 : decode cX8_readsStep 55 = .ok (.invokevirtual 70, 3) := by decide +kernel
theorem dX8_readsStep_58 : decode cX8_readsStep 58 = .ok (.bipush 48, 2) := by decide +kernel
theorem dX8_readsStep_60 : decode cX8_readsStep 60 = .ok (.isub, 1) := by decide +kernel
theorem dX8_readsStep_61 : decode cX8_readsStep 61 = .ok (.istore 4, 2) := by decide +kernel
theorem dX8_readsStep_63 : decode cX8_readsStep 63 = .ok (.iload_n 1, 1) := by decide +kernel
theorem dX8_readsStep_64 : decode cX8_readsStep 64 = .ok (.iload_n 2, 1) := by decide +kernel
theorem dX8_readsStep_65 : decode cX8_readsStep 65 = .ok (.iload_n 3, 1) := by decide +kernel
theorem dX8_readsStep_66 : decode cX8_readsStep 66 = .ok (.invokestatic 81, 3) := by decide +kernel
theorem dX8_readsStep_69 : decode cX8_readsStep 69 = .ok (.istore 5, 2) := by decide +kernel
theorem dX8_readsStep_71 : decode cX8_readsStep 71 = .ok (.aload_n 0, 1) := by decide +kernel
theorem dX8_readsStep_72 : decode cX8_readsStep 72 = .ok (.getfield 28, 3) := by decide +kernel
theorem dX8_readsStep_75 : decode cX8_readsStep 75 = .ok (.iload 5, 2) := by decide +kernel
theorem dX8_readsStep_77 : decode cX8_readsStep 77 = .ok (.iaload, 1) := by decide +kernel
theorem dX8_readsStep_78 : decode cX8_readsStep 78 = .ok (.bipush (-9), 2) := by decide +kernel
theorem dX8_readsStep_80 : decode cX8_readsStep 80 = .ok (.if_icmp .eq 17, 3) := by decide +kernel
theorem dX8_readsStep_83 : decode cX8_readsStep 83 = .ok (.aload_n 0, 1) := by decide +kernel
theorem dX8_readsStep_84 : decode cX8_readsStep 84 = .ok (.getfield 28, 3) := by decide +kernel
theorem dX8_readsStep_87 : decode cX8_readsStep 87 = .ok (.iload 5, 2) := by decide +kernel
theorem dX8_readsStep_89 : decode cX8_readsStep 89 = .ok (.iaload, 1) := by decide +kernel
theorem dX8_readsStep_90 : decode cX8_readsStep 90 = .ok (.iload 4, 2) := by decide +kernel
theorem dX8_readsStep_92 : decode cX8_readsStep 92 = .ok (.if_icmp .eq 5, 3) := by decide +kernel
theorem dX8_readsStep_95 : decode cX8_readsStep 95 = .ok (.iconst 0, 1) := by decide +kernel
theorem dX8_readsStep_96 : decode cX8_readsStep 96 = .ok (.ireturn, 1) := by decide +kernel
theorem dX8_readsStep_97 : decode cX8_readsStep 97 = .ok (.aload_n 0, 1) := by decide +kernel
theorem dX8_readsStep_98 : decode cX8_readsStep 98 = .ok (.getfield 22, 3) := by decide +kernel
theorem dX8_readsStep_101 : decode cX8_readsStep 101 = .ok (.iload_n 1, 1) := by decide +kernel
theorem dX8_readsStep_102 : decode cX8_readsStep 102 = .ok (.dup2, 1) := by decide +kernel
theorem dX8_readsStep_103 : decode cX8_readsStep 103 = .ok (.iaload, 1) := by decide +kernel
theorem dX8_readsStep_104 : decode cX8_readsStep 104 = .ok (.aload_n 0, 1) := by decide +kernel
theorem dX8_readsStep_105 : decode cX8_readsStep 105 = .ok (.getfield 28, 3) := by decide +kernel
theorem dX8_readsStep_108 : decode cX8_readsStep 108 = .ok (.iload 5, 2) := by decide +kernel
theorem dX8_readsStep_110 : decode cX8_readsStep 110 = .ok (.iaload, 1) := by decide +kernel
theorem dX8_readsStep_111 : decode cX8_readsStep 111 = .ok (.bipush (-9), 2) := by decide +kernel
theorem dX8_readsStep_113 : decode cX8_readsStep 113 = .ok (.if_icmp .ne 7, 3) := by decide +kernel
theorem dX8_readsStep_116 : decode cX8_readsStep 116 = .ok (.iconst 1, 1) := by decide +kernel
theorem dX8_readsStep_117 : decode cX8_readsStep 117 = .ok (.goto 4, 3) := by decide +kernel
theorem dX8_readsStep_120 : decode cX8_readsStep 120 = .ok (.iconst 0, 1) := by decide +kernel
theorem dX8_readsStep_121 : decode cX8_readsStep 121 = .ok (.iadd, 1) := by decide +kernel
theorem dX8_readsStep_122 : decode cX8_readsStep 122 = .ok (.iastore, 1) := by decide +kernel
theorem dX8_readsStep_123 : decode cX8_readsStep 123 = .ok (.aload_n 0, 1) := by decide +kernel
theorem dX8_readsStep_124 : decode cX8_readsStep 124 = .ok (.getfield 28, 3) := by decide +kernel
theorem dX8_readsStep_127 : decode cX8_readsStep 127 = .ok (.iload 5, 2) := by decide +kernel
theorem dX8_readsStep_129 : decode cX8_readsStep 129 = .ok (.iload 4, 2) := by decide +kernel
theorem dX8_readsStep_131 : decode cX8_readsStep 131 = .ok (.iastore, 1) := by decide +kernel
theorem dX8_readsStep_132 : decode cX8_readsStep 132 = .ok (.aload_n 0, 1) := by decide +kernel
theorem dX8_readsStep_133 : decode cX8_readsStep 133 = .ok (.getfield 16, 3) := by decide +kernel
theorem dX8_readsStep_136 : decode cX8_readsStep 136 = .ok (.iload_n 1, 1) := by decide +kernel
theorem dX8_readsStep_137 : decode cX8_readsStep 137 = .ok (.dup2, 1) := by decide +kernel
theorem dX8_readsStep_138 : decode cX8_readsStep 138 = .ok (.iaload, 1) := by decide +kernel
theorem dX8_readsStep_139 : decode cX8_readsStep 139 = .ok (.iconst 1, 1) := by decide +kernel
theorem dX8_readsStep_140 : decode cX8_readsStep 140 = .ok (.iload_n 3, 1) := by decide +kernel
theorem dX8_readsStep_141 : decode cX8_readsStep 141 = .ok (.ishl, 1) := by decide +kernel
theorem dX8_readsStep_142 : decode cX8_readsStep 142 = .ok (.ior, 1) := by decide +kernel
theorem dX8_readsStep_143 : decode cX8_readsStep 143 = .ok (.iastore, 1) := by decide +kernel
theorem dX8_readsStep_144 : decode cX8_readsStep 144 = .ok (.aload_n 0, 1) := by decide +kernel
theorem dX8_readsStep_145 : decode cX8_readsStep 145 = .ok (.iload_n 1, 1) := by decide +kernel
theorem dX8_readsStep_146 : decode cX8_readsStep 146 = .ok (.iload_n 2, 1) := by decide +kernel
theorem dX8_readsStep_147 : decode cX8_readsStep 147 = .ok (.invokevirtual 85, 3) := by decide +kernel
theorem dX8_readsStep_150 : decode cX8_readsStep 150 = .ok (.aload_n 0, 1) := by decide +kernel
theorem dX8_readsStep_151 : decode cX8_readsStep 151 = .ok (.iload_n 1, 1) := by decide +kernel
theorem dX8_readsStep_152 : decode cX8_readsStep 152 = .ok (.iload 4, 2) := by decide +kernel
theorem dX8_readsStep_154 : decode cX8_readsStep 154 = .ok (.invokevirtual 85, 3) := by decide +kernel
theorem dX8_readsStep_157 : decode cX8_readsStep 157 = .ok (.aload_n 0, 1) := by decide +kernel
theorem dX8_readsStep_158 : decode cX8_readsStep 158 = .ok (.dup, 1) := by decide +kernel
theorem dX8_readsStep_159 : decode cX8_readsStep 159 = .ok (.getfield 67, 3) := by decide +kernel
theorem dX8_readsStep_162 : decode cX8_readsStep 162 = .ok (.iconst 1, 1) := by decide +kernel
theorem dX8_readsStep_163 : decode cX8_readsStep 163 = .ok (.iadd, 1) := by decide +kernel
theorem dX8_readsStep_164 : decode cX8_readsStep 164 = .ok (.putfield 67, 3) := by decide +kernel
theorem dX8_readsStep_167 : decode cX8_readsStep 167 = .ok (.iconst 1, 1) := by decide +kernel
theorem dX8_readsStep_168 : decode cX8_readsStep 168 = .ok (.ireturn, 1) := by decide +kernel
theorem dX8_readsItem_0 : decode cX8_readsItem 0 = .ok (.aload_n 0, 1) := by decide +kernel
theorem dX8_readsItem_1 : decode cX8_readsItem 1 = .ok (.invokevirtual 78, 3) := by decide +kernel
theorem dX8_readsItem_4 : decode cX8_readsItem 4 = .ok (.ifCond .eq 9, 3) := by decide +kernel
theorem dX8_readsItem_7 : decode cX8_readsItem 7 = .ok (.aload_n 0, 1) := by decide +kernel
theorem dX8_readsItem_8 : decode cX8_readsItem 8 = .ok (.iload_n 1, 1) := by decide +kernel
theorem dX8_readsItem_9 : decode cX8_readsItem 9 = .ok (.invokevirtual 89, 3) := by decide +kernel
theorem dX8_readsItem_12 : decode cX8_readsItem 12 = .ok (.ireturn, 1) := by decide +kernel
theorem dX8_readsItem_13 : decode cX8_readsItem 13 = .ok (.aload_n 0, 1) := by decide +kernel
theorem dX8_readsItem_14 : decode cX8_readsItem 14 = .ok (.invokevirtual 70, 3) := by decide +kernel
theorem dX8_readsItem_17 : decode cX8_readsItem 17 = .ok (.istore_n 2, 1) := by decide +kernel
theorem dX8_readsItem_18 : decode cX8_readsItem 18 = .ok (.iload_n 2, 1) := by decide +kernel
theorem dX8_readsItem_19 : decode cX8_readsItem 19 = .ok (.bipush 42, 2) := by decide +kernel
theorem dX8_readsItem_21 : decode cX8_readsItem 21 = .ok (.if_icmp .eq 11, 3) := by decide +kernel
theorem dX8_readsItem_24 : decode cX8_readsItem 24 = .ok (.iload_n 2, 1) := by decide +kernel
theorem dX8_readsItem_25 : decode cX8_readsItem 25 = .ok (.bipush 33, 2) := by decide +kernel
theorem dX8_readsItem_27 : decode cX8_readsItem 27 = .ok (.if_icmp .eq 5, 3) := by decide +kernel
theorem dX8_readsItem_30 : decode cX8_readsItem 30 = .ok (.iconst 0, 1) := by decide +kernel
theorem dX8_readsItem_31 : decode cX8_readsItem 31 = .ok (.ireturn, 1) := by decide +kernel
theorem dX8_readsItem_32 : decode cX8_readsItem 32 = .ok (.aload_n 0, 1) := by decide +kernel
theorem dX8_readsItem_33 : decode cX8_readsItem 33 = .ok (.dup, 1) := by decide +kernel
theorem dX8_readsItem_34 : decode cX8_readsItem 34 = .ok (.getfield 67, 3) := by decide +kernel
theorem dX8_readsItem_37 : decode cX8_readsItem 37 = .ok (.iconst 1, 1) := by decide +kernel
theorem dX8_readsItem_38 : decode cX8_readsItem 38 = .ok (.iadd, 1) := by decide +kernel
theorem dX8_readsItem_39 : decode cX8_readsItem 39 = .ok (.putfield 67, 3) := by decide +kernel
theorem dX8_readsItem_42 : decode cX8_readsItem 42 = .ok (.iload_n 2, 1) := by decide +kernel
theorem dX8_readsItem_43 : decode cX8_readsItem 43 = .ok (.bipush 42, 2) := by decide +kernel
theorem dX8_readsItem_45 : decode cX8_readsItem 45 = .ok (.if_icmp .ne 13, 3) := by decide +kernel
theorem dX8_readsItem_48 : decode cX8_readsItem 48 = .ok (.aload_n 0, 1) := by decide +kernel
theorem dX8_readsItem_49 : decode cX8_readsItem 49 = .ok (.invokevirtual 78, 3) := by decide +kernel
theorem dX8_readsItem_52 : decode cX8_readsItem 52 = .ok (.ifCond .ne 15, 3) := by decide +kernel
theorem dX8_readsItem_55 : decode cX8_readsItem 55 = .ok (.goto 10, 3) := by decide +kernel
theorem dX8_readsItem_58 : decode cX8_readsItem 58 = .ok (.aload_n 0, 1) := by decide +kernel
theorem dX8_readsItem_59 : decode cX8_readsItem 59 = .ok (.invokevirtual 74, 3) := by decide +kernel
theorem dX8_readsItem_62 : decode cX8_readsItem 62 = .ok (.ifCond .ne 5, 3) := by decide +kernel
theorem dX8_readsItem_65 : decode cX8_readsItem 65 = .ok (.iconst 0, 1) := by decide +kernel
theorem dX8_readsItem_66 : decode cX8_readsItem 66 = .ok (.ireturn, 1) := by decide +kernel
theorem dX8_readsItem_67 : decode cX8_readsItem 67 = .ok (.iload_n 2, 1) := by decide +kernel
theorem dX8_readsItem_68 : decode cX8_readsItem 68 = .ok (.bipush 42, 2) := by decide +kernel
theorem dX8_readsItem_70 : decode cX8_readsItem 70 = .ok (.if_icmp .ne 36, 3) := by decide +kernel
theorem dX8_readsItem_73 : decode cX8_readsItem 73 = .ok (.aload_n 0, 1) := by decide +kernel
theorem dX8_readsItem_74 : decode cX8_readsItem 74 = .ok (.getfield 19, 3) := by decide +kernel
theorem dX8_readsItem_77 : decode cX8_readsItem 77 = .ok (.iload_n 1, 1) := by decide +kernel
theorem dX8_readsItem_78 : decode cX8_readsItem 78 = .ok (.dup2, 1) := by decide +kernel
theorem dX8_readsItem_79 : decode cX8_readsItem 79 = .ok (.iaload, 1) := by decide +kernel
theorem dX8_readsItem_80 : decode cX8_readsItem 80 = .ok (.iconst 1, 1) := by decide +kernel
theorem dX8_readsItem_81 : decode cX8_readsItem 81 = .ok (.aload_n 0, 1) := by decide +kernel
theorem dX8_readsItem_82 : decode cX8_readsItem 82 = .ok (.invokevirtual 70, 3) := by decide +kernel
theorem dX8_readsItem_85 : decode cX8_readsItem 85 = .ok (.bipush 48, 2) := by decide +kernel
theorem dX8_readsItem_87 : decode cX8_readsItem 87 = .ok (.isub, 1) := by decide +kernel
theorem dX8_readsItem_88 : decode cX8_readsItem 88 = .ok (.ishl, 1) := by decide +kernel
theorem dX8_readsItem_89 : decode cX8_readsItem 89 = .ok (.ior, 1) := by decide +kernel
theorem dX8_readsItem_90 : decode cX8_readsItem 90 = .ok (.iastore, 1) := by decide +kernel
theorem dX8_readsItem_91 : decode cX8_readsItem 91 = .ok (.aload_n 0, 1) := by decide +kernel
theorem dX8_readsItem_92 : decode cX8_readsItem 92 = .ok (.iload_n 1, 1) := by decide +kernel
theorem dX8_readsItem_93 : decode cX8_readsItem 93 = .ok (.aload_n 0, 1) := by decide +kernel
theorem dX8_readsItem_94 : decode cX8_readsItem 94 = .ok (.invokevirtual 70, 3) := by decide +kernel
theorem dX8_readsItem_97 : decode cX8_readsItem 97 = .ok (.bipush 48, 2) := by decide +kernel
theorem dX8_readsItem_99 : decode cX8_readsItem 99 = .ok (.isub, 1) := by decide +kernel
theorem dX8_readsItem_100 : decode cX8_readsItem 100 = .ok (.invokevirtual 85, 3) := by decide +kernel
theorem dX8_readsItem_103 : decode cX8_readsItem 103 = .ok (.goto 21, 3) := by decide +kernel
theorem dX8_readsItem_106 : decode cX8_readsItem 106 = .ok (.aload_n 0, 1) := by decide +kernel
theorem dX8_readsItem_107 : decode cX8_readsItem 107 = .ok (.getfield 16, 3) := by decide +kernel
theorem dX8_readsItem_110 : decode cX8_readsItem 110 = .ok (.iload_n 1, 1) := by decide +kernel
theorem dX8_readsItem_111 : decode cX8_readsItem 111 = .ok (.dup2, 1) := by decide +kernel
theorem dX8_readsItem_112 : decode cX8_readsItem 112 = .ok (.iaload, 1) := by decide +kernel
theorem dX8_readsItem_113 : decode cX8_readsItem 113 = .ok (.iconst 1, 1) := by decide +kernel
theorem dX8_readsItem_114 : decode cX8_readsItem 114 = .ok (.aload_n 0, 1) := by decide +kernel
theorem dX8_readsItem_115 : decode cX8_readsItem 115 = .ok (.invokevirtual 70, 3) := by decide +kernel
theorem dX8_readsItem_118 : decode cX8_readsItem 118 = .ok (.bipush 97, 2) := by decide +kernel
theorem dX8_readsItem_120 : decode cX8_readsItem 120 = .ok (.isub, 1) := by decide +kernel
theorem dX8_readsItem_121 : decode cX8_readsItem 121 = .ok (.ishl, 1) := by decide +kernel
theorem dX8_readsItem_122 : decode cX8_readsItem 122 = .ok (.ior, 1) := by decide +kernel
theorem dX8_readsItem_123 : decode cX8_readsItem 123 = .ok (.iastore, 1) := by decide +kernel
theorem dX8_readsItem_124 : decode cX8_readsItem 124 = .ok (.aload_n 0, 1) := by decide +kernel
theorem dX8_readsItem_125 : decode cX8_readsItem 125 = .ok (.dup, 1) := by decide +kernel
theorem dX8_readsItem_126 : decode cX8_readsItem 126 = .ok (.getfield 67, 3) := by decide +kernel
theorem dX8_readsItem_129 : decode cX8_readsItem 129 = .ok (.iconst 1, 1) := by decide +kernel
theorem dX8_readsItem_130 : decode cX8_readsItem 130 = .ok (.iadd, 1) := by decide +kernel
theorem dX8_readsItem_131 : decode cX8_readsItem 131 = .ok (.putfield 67, 3) := by decide +kernel
theorem dX8_readsItem_134 : decode cX8_readsItem 134 = .ok (.iconst 1, 1) := by decide +kernel
theorem dX8_readsItem_135 : decode cX8_readsItem 135 = .ok (.ireturn, 1) := by decide +kernel
theorem dX8_reads_0 : decode cX8_reads 0 = .ok (.aload_n 0, 1) := by decide +kernel
theorem dX8_reads_1 : decode cX8_reads 1 = .ok (.iconst 0, 1) := by decide +kernel
theorem dX8_reads_2 : decode cX8_reads 2 = .ok (.putfield 67, 3) := by decide +kernel
theorem dX8_reads_5 : decode cX8_reads 5 = .ok (.aload_n 0, 1) := by decide +kernel
theorem dX8_reads_6 : decode cX8_reads 6 = .ok (.iload_n 1, 1) := by decide +kernel
theorem dX8_reads_7 : decode cX8_reads 7 = .ok (.invokevirtual 93, 3) := by decide +kernel
theorem dX8_reads_10 : decode cX8_reads 10 = .ok (.ifCond .ne 5, 3) := by decide +kernel
theorem dX8_reads_13 : decode cX8_reads 13 = .ok (.iconst 0, 1) := by decide +kernel
theorem dX8_reads_14 : decode cX8_reads 14 = .ok (.ireturn, 1) := by decide +kernel
theorem dX8_reads_15 : decode cX8_reads 15 = .ok (.aload_n 0, 1) := by decide +kernel
theorem dX8_reads_16 : decode cX8_reads 16 = .ok (.getfield 67, 3) := by decide +kernel
theorem dX8_reads_19 : decode cX8_reads 19 = .ok (.aload_n 0, 1) := by decide +kernel
theorem dX8_reads_20 : decode cX8_reads 20 = .ok (.getfield 63, 3) := by decide +kernel
theorem dX8_reads_23 : decode cX8_reads 23 = .ok (.if_icmp .ge 34, 3) := by decide +kernel
theorem dX8_reads_26 : decode cX8_reads 26 = .ok (.aload_n 0, 1) := by decide +kernel
theorem dX8_reads_27 : decode cX8_reads 27 = .ok (.invokevirtual 70, 3) := by decide +kernel
theorem dX8_reads_30 : decode cX8_reads 30 = .ok (.bipush 32, 2) := by decide +kernel
theorem dX8_reads_32 : decode cX8_reads 32 = .ok (.if_icmp .eq 5, 3) := by decide +kernel
theorem dX8_reads_35 : decode cX8_reads 35 = .ok (.iconst 0, 1) := by decide +kernel
theorem dX8_reads_36 : decode cX8_reads 36 = .ok (.ireturn, 1) := by decide +kernel
theorem dX8_reads_37 : decode cX8_reads 37 = .ok (.aload_n 0, 1) := by decide +kernel
theorem dX8_reads_38 : decode cX8_reads 38 = .ok (.dup, 1) := by decide +kernel
theorem dX8_reads_39 : decode cX8_reads 39 = .ok (.getfield 67, 3) := by decide +kernel
theorem dX8_reads_42 : decode cX8_reads 42 = .ok (.iconst 1, 1) := by decide +kernel
theorem dX8_reads_43 : decode cX8_reads 43 = .ok (.iadd, 1) := by decide +kernel
theorem dX8_reads_44 : decode cX8_reads 44 = .ok (.putfield 67, 3) := by decide +kernel
theorem dX8_reads_47 : decode cX8_reads 47 = .ok (.aload_n 0, 1) := by decide +kernel
theorem dX8_reads_48 : decode cX8_reads 48 = .ok (.iload_n 1, 1) := by decide +kernel
theorem dX8_reads_49 : decode cX8_reads 49 = .ok (.invokevirtual 93, 3) := by decide +kernel
theorem dX8_reads_52 : decode cX8_reads 52 = .ok (.ifCond .ne (-37), 3) := by decide +kernel
theorem dX8_reads_55 : decode cX8_reads 55 = .ok (.iconst 0, 1) := by decide +kernel
theorem dX8_reads_56 : decode cX8_reads 56 = .ok (.ireturn, 1) := by decide +kernel
theorem dX8_reads_57 : decode cX8_reads 57 = .ok (.iconst 1, 1) := by decide +kernel
theorem dX8_reads_58 : decode cX8_reads 58 = .ok (.ireturn, 1) := by decide +kernel
theorem dX8_machine_0 : decode cX8_machine 0 = .ok (.iload_n 1, 1) := by decide +kernel
theorem dX8_machine_1 : decode cX8_machine 1 = .ok (.iconst 0, 1) := by decide +kernel
theorem dX8_machine_2 : decode cX8_machine 2 = .ok (.iconst 1, 1) := by decide +kernel
theorem dX8_machine_3 : decode cX8_machine 3 = .ok (.invokestatic 59, 3) := by decide +kernel
theorem dX8_machine_6 : decode cX8_machine 6 = .ok (.ifCond .ne 6, 3) := by decide +kernel
theorem dX8_machine_9 : decode cX8_machine 9 = .ok (.bipush (-2), 2) := by decide +kernel
theorem dX8_machine_11 : decode cX8_machine 11 = .ok (.ireturn, 1) := by decide +kernel
theorem dX8_machine_12 : decode cX8_machine 12 = .ok (.aload_n 0, 1) := by decide +kernel
theorem dX8_machine_13 : decode cX8_machine 13 = .ok (.getfield 96, 3) := by decide +kernel
theorem dX8_machine_16 : decode cX8_machine 16 = .ok (.bipush 6, 2) := by decide +kernel
theorem dX8_machine_18 : decode cX8_machine 18 = .ok (.if_icmp .ne 6, 3) := by decide +kernel
theorem dX8_machine_21 : decode cX8_machine 21 = .ok (.bipush (-4), 2) := by decide +kernel
theorem dX8_machine_23 : decode cX8_machine 23 = .ok (.ireturn, 1) := by decide +kernel
theorem dX8_machine_24 : decode cX8_machine 24 = .ok (.aload_n 0, 1) := by decide +kernel
theorem dX8_machine_25 : decode cX8_machine 25 = .ok (.getfield 96, 3) := by decide +kernel
theorem dX8_machine_28 : decode cX8_machine 28 = .ok (.istore_n 2, 1) := by decide +kernel
theorem dX8_machine_29 : decode cX8_machine 29 = .ok (.aload_n 0, 1) := by decide +kernel
theorem dX8_machine_30 : decode cX8_machine 30 = .ok (.getfield 13, 3) := by decide +kernel
theorem dX8_machine_33 : decode cX8_machine 33 = .ok (.iload_n 2, 1) := by decide +kernel
theorem dX8_machine_34 : decode cX8_machine 34 = .ok (.iload_n 1, 1) := by decide +kernel
theorem dX8_machine_35 : decode cX8_machine 35 = .ok (.iastore, 1) := by decide +kernel
theorem dX8_machine_36 : decode cX8_machine 36 = .ok (.aload_n 0, 1) := by decide +kernel
theorem dX8_machine_37 : decode cX8_machine 37 = .ok (.getfield 16, 3) := by decide +kernel
theorem dX8_machine_40 : decode cX8_machine 40 = .ok (.iload_n 2, 1) := by decide +kernel
theorem dX8_machine_41 : decode cX8_machine 41 = .ok (.iconst 0, 1) := by decide +kernel
theorem dX8_machine_42 : decode cX8_machine 42 = .ok (.iastore, 1) := by decide +kernel
theorem dX8_machine_43 : decode cX8_machine 43 = .ok (.aload_n 0, 1) := by decide +kernel
theorem dX8_machine_44 : decode cX8_machine 44 = .ok (.getfield 19, 3) := by decide +kernel
theorem dX8_machine_47 : decode cX8_machine 47 = .ok (.iload_n 2, 1) := by decide +kernel
theorem dX8_machine_48 : decode cX8_machine 48 = .ok (.iconst 0, 1) := by decide +kernel
theorem dX8_machine_49 : decode cX8_machine 49 = .ok (.iastore, 1) := by decide +kernel
theorem dX8_machine_50 : decode cX8_machine 50 = .ok (.aload_n 0, 1) := by decide +kernel
theorem dX8_machine_51 : decode cX8_machine 51 = .ok (.getfield 22, 3) := by decide +kernel
theorem dX8_machine_54 : decode cX8_machine 54 = .ok (.iload_n 2, 1) := by decide +kernel
theorem dX8_machine_55 : decode cX8_machine 55 = .ok (.iconst 0, 1) := by decide +kernel
theorem dX8_machine_56 : decode cX8_machine 56 = .ok (.iastore, 1) := by decide +kernel
theorem dX8_machine_57 : decode cX8_machine 57 = .ok (.aload_n 0, 1) := by decide +kernel
theorem dX8_machine_58 : decode cX8_machine 58 = .ok (.getfield 25, 3) := by decide +kernel
theorem dX8_machine_61 : decode cX8_machine 61 = .ok (.iload_n 2, 1) := by decide +kernel
theorem dX8_machine_62 : decode cX8_machine 62 = .ok (.iconst 0, 1) := by decide +kernel
theorem dX8_machine_63 : decode cX8_machine 63 = .ok (.iastore, 1) := by decide +kernel
theorem dX8_machine_64 : decode cX8_machine 64 = .ok (.iconst 0, 1) := by decide +kernel
theorem dX8_machine_65 : decode cX8_machine 65 = .ok (.istore_n 3, 1) := by decide +kernel
theorem dX8_machine_66 : decode cX8_machine 66 = .ok (.iload_n 3, 1) := by decide +kernel
theorem dX8_machine_67 : decode cX8_machine 67 = .ok (.bipush 48, 2) := by decide +kernel
theorem dX8_machine_69 : decode cX8_machine 69 = .ok (.if_icmp .ge 22, 3) := by decide +kernel
theorem dX8_machine_72 : decode cX8_machine 72 = .ok (.aload_n 0, 1) := by decide +kernel
theorem dX8_machine_73 : decode cX8_machine 73 = .ok (.getfield 28, 3) := by decide +kernel
theorem dX8_machine_76 : decode cX8_machine 76 = .ok (.bipush 48, 2) := by decide +kernel
theorem dX8_machine_78 : decode cX8_machine 78 = .ok (.iload_n 2, 1) := by decide +kernel
theorem dX8_machine_79 : decode cX8_machine 79 = .ok (.imul, 1) := by decide +kernel
theorem dX8_machine_80 : decode cX8_machine 80 = .ok (.iload_n 3, 1) := by decide +kernel
theorem dX8_machine_81 : decode cX8_machine 81 = .ok (.iadd, 1) := by decide +kernel
theorem dX8_machine_82 : decode cX8_machine 82 = .ok (.bipush (-9), 2) := by decide +kernel
theorem dX8_machine_84 : decode cX8_machine 84 = .ok (.iastore, 1) := by decide +kernel
theorem dX8_machine_85 : decode cX8_machine 85 = .ok (.iinc 3 1, 3) := by decide +kernel
theorem dX8_machine_88 : decode cX8_machine 88 = .ok (.goto (-22), 3) := by decide +kernel
theorem dX8_machine_91 : decode cX8_machine 91 = .ok (.aload_n 0, 1) := by decide +kernel
theorem dX8_machine_92 : decode cX8_machine 92 = .ok (.iload_n 2, 1) := by decide +kernel
theorem dX8_machine_93 : decode cX8_machine 93 = .ok (.invokevirtual 99, 3) := by decide +kernel
theorem dX8_machine_96 : decode cX8_machine 96 = .ok (.ifCond .ne 11, 3) := by decide +kernel
theorem dX8_machine_99 : decode cX8_machine 99 = .ok (.bipush (-100), 2) := by decide +kernel
theorem dX8_machine_101 : decode cX8_machine 101 = .ok (.aload_n 0, 1) := by decide +kernel
theorem dX8_machine_102 : decode cX8_machine 102 = .ok (.getfield 67, 3) := by decide +kernel
theorem dX8_machine_105 : decode cX8_machine 105 = .ok (.isub, 1) := by decide +kernel
theorem dX8_machine_106 : decode cX8_machine 106 = .ok (.ireturn, 1) := by decide +kernel
theorem dX8_machine_107 : decode cX8_machine 107 = .ok (.aload_n 0, 1) := by decide +kernel
theorem dX8_machine_108 : decode cX8_machine 108 = .ok (.dup, 1) := by decide +kernel
theorem dX8_machine_109 : decode cX8_machine 109 = .ok (.getfield 96, 3) := by decide +kernel
theorem dX8_machine_112 : decode cX8_machine 112 = .ok (.iconst 1, 1) := by decide +kernel
theorem dX8_machine_113 : decode cX8_machine 113 = .ok (.iadd, 1) := by decide +kernel
theorem dX8_machine_114 : decode cX8_machine 114 = .ok (.putfield 96, 3) := by decide +kernel
theorem dX8_machine_117 : decode cX8_machine 117 = .ok (.aload_n 0, 1) := by decide +kernel
theorem dX8_machine_118 : decode cX8_machine 118 = .ok (.iconst 0, 1) := by decide +kernel
theorem dX8_machine_119 : decode cX8_machine 119 = .ok (.putfield 63, 3) := by decide +kernel
theorem dX8_machine_122 : decode cX8_machine 122 = .ok (.aload_n 0, 1) := by decide +kernel
theorem dX8_machine_123 : decode cX8_machine 123 = .ok (.invokevirtual 102, 3) := by decide +kernel
theorem dX8_machine_126 : decode cX8_machine 126 = .ok (.iload_n 2, 1) := by decide +kernel
theorem dX8_machine_127 : decode cX8_machine 127 = .ok (.ireturn, 1) := by decide +kernel
theorem dX8_begins_0 : decode cX8_begins 0 = .ok (.aload_n 0, 1) := by decide +kernel
theorem dX8_begins_1 : decode cX8_begins 1 = .ok (.iconst 0, 1) := by decide +kernel
theorem dX8_begins_2 : decode cX8_begins 2 = .ok (.putfield 105, 3) := by decide +kernel
theorem dX8_begins_5 : decode cX8_begins 5 = .ok (.aload_n 0, 1) := by decide +kernel
theorem dX8_begins_6 : decode cX8_begins 6 = .ok (.iconst 0, 1) := by decide +kernel
theorem dX8_begins_7 : decode cX8_begins 7 = .ok (.putfield 109, 3) := by decide +kernel
theorem dX8_begins_10 : decode cX8_begins 10 = .ok (.aload_n 0, 1) := by decide +kernel
theorem dX8_begins_11 : decode cX8_begins 11 = .ok (.iconst 0, 1) := by decide +kernel
theorem dX8_begins_12 : decode cX8_begins 12 = .ok (.putfield 112, 3) := by decide +kernel
theorem dX8_begins_15 : decode cX8_begins 15 = .ok (.return_, 1) := by decide +kernel
theorem dX8_drop_0 : decode cX8_drop 0 = .ok (.aload_n 0, 1) := by decide +kernel
theorem dX8_drop_1 : decode cX8_drop 1 = .ok (.getfield 96, 3) := by decide +kernel
theorem dX8_drop_4 : decode cX8_drop 4 = .ok (.ifCond .ne 6, 3) := by decide +kernel
theorem dX8_drop_7 : decode cX8_drop 7 = .ok (.bipush (-3), 2) := by decide +kernel
theorem dX8_drop_9 : decode cX8_drop 9 = .ok (.ireturn, 1) := by decide +kernel
theorem dX8_drop_10 : decode cX8_drop 10 = .ok (.aload_n 0, 1) := by decide +kernel
theorem dX8_drop_11 : decode cX8_drop 11 = .ok (.dup, 1) := by decide +kernel
theorem dX8_drop_12 : decode cX8_drop 12 = .ok (.getfield 96, 3) := by decide +kernel
theorem dX8_drop_15 : decode cX8_drop 15 = .ok (.iconst 1, 1) := by decide +kernel
theorem dX8_drop_16 : decode cX8_drop 16 = .ok (.isub, 1) := by decide +kernel
theorem dX8_drop_17 : decode cX8_drop 17 = .ok (.putfield 96, 3) := by decide +kernel
theorem dX8_drop_20 : decode cX8_drop 20 = .ok (.aload_n 0, 1) := by decide +kernel
theorem dX8_drop_21 : decode cX8_drop 21 = .ok (.invokevirtual 102, 3) := by decide +kernel
theorem dX8_drop_24 : decode cX8_drop 24 = .ok (.aload_n 0, 1) := by decide +kernel
theorem dX8_drop_25 : decode cX8_drop 25 = .ok (.getfield 96, 3) := by decide +kernel
theorem dX8_drop_28 : decode cX8_drop 28 = .ok (.ireturn, 1) := by decide +kernel
theorem dX8_free_0 : decode cX8_free 0 = .ok (.iload_n 1, 1) := by decide +kernel
theorem dX8_free_1 : decode cX8_free 1 = .ok (.invokestatic 115, 3) := by decide +kernel
theorem dX8_free_4 : decode cX8_free 4 = .ok (.ifCond .ne 5, 3) := by decide +kernel
theorem dX8_free_7 : decode cX8_free 7 = .ok (.iconst (-1), 1) := by decide +kernel
theorem dX8_free_8 : decode cX8_free 8 = .ok (.ireturn, 1) := by decide +kernel
theorem dX8_free_9 : decode cX8_free 9 = .ok (.iload_n 2, 1) := by decide +kernel
theorem dX8_free_10 : decode cX8_free 10 = .ok (.iconst 0, 1) := by decide +kernel
theorem dX8_free_11 : decode cX8_free 11 = .ok (.iconst 1, 1) := by decide +kernel
theorem dX8_free_12 : decode cX8_free 12 = .ok (.invokestatic 59, 3) := by decide +kernel
theorem dX8_free_15 : decode cX8_free 15 = .ok (.ifCond .ne 6, 3) := by decide +kernel
theorem dX8_free_18 : decode cX8_free 18 = .ok (.bipush (-2), 2) := by decide +kernel
theorem dX8_free_20 : decode cX8_free 20 = .ok (.ireturn, 1) := by decide +kernel
theorem dX8_free_21 : decode cX8_free 21 = .ok (.aload_n 0, 1) := by decide +kernel
theorem dX8_free_22 : decode cX8_free 22 = .ok (.getfield 118, 3) := by decide +kernel
theorem dX8_free_25 : decode cX8_free 25 = .ok (.iload_n 1, 1) := by decide +kernel
theorem dX8_free_26 : decode cX8_free 26 = .ok (.invokestatic 121, 3) := by decide +kernel
theorem dX8_free_29 : decode cX8_free 29 = .ok (.istore_n 3, 1) := by decide +kernel
theorem dX8_free_30 : decode cX8_free 30 = .ok (.aload_n 0, 1) := by decide +kernel
theorem dX8_free_31 : decode cX8_free 31 = .ok (.aload_n 0, 1) := by decide +kernel
theorem dX8_free_32 : decode cX8_free 32 = .ok (.getfield 118, 3) := by decide +kernel
theorem dX8_free_35 : decode cX8_free 35 = .ok (.iconst 1, 1) := by decide +kernel
theorem dX8_free_36 : decode cX8_free 36 = .ok (.iload_n 1, 1) := by decide +kernel
theorem dX8_free_37 : decode cX8_free 37 = .ok (.ishl, 1) := by decide +kernel
theorem dX8_free_38 : decode cX8_free 38 = .ok (.iconst (-1), 1) := by decide +kernel
theorem dX8_free_39 : decode cX8_free 39 = .ok (.ixor, 1) := by decide +kernel
theorem dX8_free_40 : decode cX8_free 40 = .ok (.iand, 1) := by decide +kernel
theorem dX8_free_41 : decode cX8_free 41 = .ok (.iload_n 2, 1) := by decide +kernel
theorem dX8_free_42 : decode cX8_free 42 = .ok (.iload_n 1, 1) := by decide +kernel
theorem dX8_free_43 : decode cX8_free 43 = .ok (.ishl, 1) := by decide +kernel
theorem dX8_free_44 : decode cX8_free 44 = .ok (.ior, 1) := by decide +kernel
theorem dX8_free_45 : decode cX8_free 45 = .ok (.putfield 118, 3) := by decide +kernel
theorem dX8_free_48 : decode cX8_free 48 = .ok (.aload_n 0, 1) := by decide +kernel
theorem dX8_free_49 : decode cX8_free 49 = .ok (.invokevirtual 102, 3) := by decide +kernel
theorem dX8_free_52 : decode cX8_free 52 = .ok (.iload_n 3, 1) := by decide +kernel
theorem dX8_free_53 : decode cX8_free 53 = .ok (.ireturn, 1) := by decide +kernel
theorem dX8_anew_0 : decode cX8_anew 0 = .ok (.aload_n 0, 1) := by decide +kernel
theorem dX8_anew_1 : decode cX8_anew 1 = .ok (.getfield 96, 3) := by decide +kernel
theorem dX8_anew_4 : decode cX8_anew 4 = .ok (.istore_n 1, 1) := by decide +kernel
theorem dX8_anew_5 : decode cX8_anew 5 = .ok (.aload_n 0, 1) := by decide +kernel
theorem dX8_anew_6 : decode cX8_anew 6 = .ok (.iconst 0, 1) := by decide +kernel
theorem dX8_anew_7 : decode cX8_anew 7 = .ok (.putfield 96, 3) := by decide +kernel
theorem dX8_anew_10 : decode cX8_anew 10 = .ok (.aload_n 0, 1) := by decide +kernel
theorem dX8_anew_11 : decode cX8_anew 11 = .ok (.iconst 0, 1) := by decide +kernel
theorem dX8_anew_12 : decode cX8_anew 12 = .ok (.putfield 118, 3) := by decide +kernel
theorem dX8_anew_15 : decode cX8_anew 15 = .ok (.aload_n 0, 1) := by decide +kernel
theorem dX8_anew_16 : decode cX8_anew 16 = .ok (.invokevirtual 102, 3) := by decide +kernel
theorem dX8_anew_19 : decode cX8_anew 19 = .ok (.iload_n 1, 1) := by decide +kernel
theorem dX8_anew_20 : decode cX8_anew 20 = .ok (.ireturn, 1) := by decide +kernel
theorem dX8_isEvent_0 : decode cX8_isEvent 0 = .ok (.iload_n 0, 1) := by decide +kernel
theorem dX8_isEvent_1 : decode cX8_isEvent 1 = .ok (.iconst 0, 1) := by decide +kernel
theorem dX8_isEvent_2 : decode cX8_isEvent 2 = .ok (.bipush 7, 2) := by decide +kernel
theorem dX8_isEvent_4 : decode cX8_isEvent 4 = .ok (.invokestatic 59, 3) := by decide +kernel
theorem dX8_isEvent_7 : decode cX8_isEvent 7 = .ok (.ireturn, 1) := by decide +kernel
theorem dX8_isMachine_0 : decode cX8_isMachine 0 = .ok (.iload_n 1, 1) := by decide +kernel
theorem dX8_isMachine_1 : decode cX8_isMachine 1 = .ok (.iconst 0, 1) := by decide +kernel
theorem dX8_isMachine_2 : decode cX8_isMachine 2 = .ok (.aload_n 0, 1) := by decide +kernel
theorem dX8_isMachine_3 : decode cX8_isMachine 3 = .ok (.getfield 96, 3) := by decide +kernel
end
section
theorem dX8_isMachine_6 : decode cX8_isMachine 6 = .ok (.iconst 1, 1) := by decide +kernel
theorem dX8_isMachine_7 : decode cX8_isMachine 7 = .ok (.isub, 1) := by decide +kernel
theorem dX8_isMachine_8 : decode cX8_isMachine 8 = .ok (.invokestatic 59, 3) := by decide +kernel
theorem dX8_isMachine_11 : decode cX8_isMachine 11 = .ok (.ireturn, 1) := by decide +kernel
theorem dX8_ofMachine_0 : decode cX8_ofMachine 0 = .ok (.aload_n 0, 1) := by decide +kernel
theorem dX8_ofMachine_1 : decode cX8_ofMachine 1 = .ok (.iload_n 1, 1) := by decide +kernel
theorem dX8_ofMachine_2 : decode cX8_ofMachine 2 = .ok (.invokevirtual 125, 3) := by decide +kernel
theorem dX8_ofMachine_5 : decode cX8_ofMachine 5 = .ok (.ifCond .ne 5, 3) := by decide +kernel
theorem dX8_ofMachine_8 : decode cX8_ofMachine 8 = .ok (.iconst (-1), 1) := by decide +kernel
theorem dX8_ofMachine_9 : decode cX8_ofMachine 9 = .ok (.ireturn, 1) := by decide +kernel
theorem dX8_ofMachine_10 : decode cX8_ofMachine 10 = .ok (.iload_n 2, 1) := by decide +kernel
theorem dX8_ofMachine_11 : decode cX8_ofMachine 11 = .ok (.tableswitch 68 0 4 #[33, 40, 47, 54, 61], 33) := by decide +kernel
theorem dX8_ofMachine_44 : decode cX8_ofMachine 44 = .ok (.aload_n 0, 1) := by decide +kernel
theorem dX8_ofMachine_45 : decode cX8_ofMachine 45 = .ok (.getfield 13, 3) := by decide +kernel
theorem dX8_ofMachine_48 : decode cX8_ofMachine 48 = .ok (.iload_n 1, 1) := by decide +kernel
theorem dX8_ofMachine_49 : decode cX8_ofMachine 49 = .ok (.iaload, 1) := by decide +kernel
theorem dX8_ofMachine_50 : decode cX8_ofMachine 50 = .ok (.ireturn, 1) := by decide +kernel
theorem dX8_ofMachine_51 : decode cX8_ofMachine 51 = .ok (.aload_n 0, 1) := by decide +kernel
theorem dX8_ofMachine_52 : decode cX8_ofMachine 52 = .ok (.getfield 16, 3) := by decide +kernel
theorem dX8_ofMachine_55 : decode cX8_ofMachine 55 = .ok (.iload_n 1, 1) := by decide +kernel
theorem dX8_ofMachine_56 : decode cX8_ofMachine 56 = .ok (.iaload, 1) := by decide +kernel
theorem dX8_ofMachine_57 : decode cX8_ofMachine 57 = .ok (.ireturn, 1) := by decide +kernel
theorem dX8_ofMachine_58 : decode cX8_ofMachine 58 = .ok (.aload_n 0, 1) := by decide +kernel
theorem dX8_ofMachine_59 : decode cX8_ofMachine 59 = .ok (.getfield 19, 3) := by decide +kernel
theorem dX8_ofMachine_62 : decode cX8_ofMachine 62 = .ok (.iload_n 1, 1) := by decide +kernel
theorem dX8_ofMachine_63 : decode cX8_ofMachine 63 = .ok (.iaload, 1) := by decide +kernel
theorem dX8_ofMachine_64 : decode cX8_ofMachine 64 = .ok (.ireturn, 1) := by decide +kernel
theorem dX8_ofMachine_65 : decode cX8_ofMachine 65 = .ok (.aload_n 0, 1) := by decide +kernel
theorem dX8_ofMachine_66 : decode cX8_ofMachine 66 = .ok (.getfield 22, 3) := by decide +kernel
theorem dX8_ofMachine_69 : decode cX8_ofMachine 69 = .ok (.iload_n 1, 1) := by decide +kernel
theorem dX8_ofMachine_70 : decode cX8_ofMachine 70 = .ok (.iaload, 1) := by decide +kernel
theorem dX8_ofMachine_71 : decode cX8_ofMachine 71 = .ok (.ireturn, 1) := by decide +kernel
theorem dX8_ofMachine_72 : decode cX8_ofMachine 72 = .ok (.aload_n 0, 1) := by decide +kernel
theorem dX8_ofMachine_73 : decode cX8_ofMachine 73 = .ok (.getfield 25, 3) := by decide +kernel
theorem dX8_ofMachine_76 : decode cX8_ofMachine 76 = .ok (.iload_n 1, 1) := by decide +kernel
theorem dX8_ofMachine_77 : decode cX8_ofMachine 77 = .ok (.iaload, 1) := by decide +kernel
theorem dX8_ofMachine_78 : decode cX8_ofMachine 78 = .ok (.ireturn, 1) := by decide +kernel
theorem dX8_ofMachine_79 : decode cX8_ofMachine 79 = .ok (.bipush (-2), 2) := by decide +kernel
theorem dX8_ofMachine_81 : decode cX8_ofMachine 81 = .ok (.ireturn, 1) := by decide +kernel
theorem dX8_step_0 : decode cX8_step 0 = .ok (.aload_n 0, 1) := by decide +kernel
theorem dX8_step_1 : decode cX8_step 1 = .ok (.iload_n 1, 1) := by decide +kernel
theorem dX8_step_2 : decode cX8_step 2 = .ok (.invokevirtual 125, 3) := by decide +kernel
theorem dX8_step_5 : decode cX8_step 5 = .ok (.ifCond .eq 33, 3) := by decide +kernel
theorem dX8_step_8 : decode cX8_step 8 = .ok (.iload_n 2, 1) := by decide +kernel
theorem dX8_step_9 : decode cX8_step 9 = .ok (.iconst 0, 1) := by decide +kernel
theorem dX8_step_10 : decode cX8_step 10 = .ok (.iconst 5, 1) := by decide +kernel
theorem dX8_step_11 : decode cX8_step 11 = .ok (.invokestatic 59, 3) := by decide +kernel
theorem dX8_step_14 : decode cX8_step 14 = .ok (.ifCond .eq 24, 3) := by decide +kernel
theorem dX8_step_17 : decode cX8_step 17 = .ok (.iload_n 3, 1) := by decide +kernel
theorem dX8_step_18 : decode cX8_step 18 = .ok (.invokestatic 115, 3) := by decide +kernel
theorem dX8_step_21 : decode cX8_step 21 = .ok (.ifCond .eq 17, 3) := by decide +kernel
theorem dX8_step_24 : decode cX8_step 24 = .ok (.aload_n 0, 1) := by decide +kernel
theorem dX8_step_25 : decode cX8_step 25 = .ok (.getfield 28, 3) := by decide +kernel
theorem dX8_step_28 : decode cX8_step 28 = .ok (.iload_n 1, 1) := by decide +kernel
theorem dX8_step_29 : decode cX8_step 29 = .ok (.iload_n 2, 1) := by decide +kernel
theorem dX8_step_30 : decode cX8_step 30 = .ok (.iload_n 3, 1) := by decide +kernel
theorem dX8_step_31 : decode cX8_step 31 = .ok (.invokestatic 81, 3) := by decide +kernel
theorem dX8_step_34 : decode cX8_step 34 = .ok (.iaload, 1) := by decide +kernel
theorem dX8_step_35 : decode cX8_step 35 = .ok (.goto 4, 3) := by decide +kernel
theorem dX8_step_38 : decode cX8_step 38 = .ok (.iconst (-1), 1) := by decide +kernel
theorem dX8_step_39 : decode cX8_step 39 = .ok (.ireturn, 1) := by decide +kernel
theorem dX8_stateIn_0 : decode cX8_stateIn 0 = .ok (.iload_n 0, 1) := by decide +kernel
theorem dX8_stateIn_1 : decode cX8_stateIn 1 = .ok (.iconst 3, 1) := by decide +kernel
theorem dX8_stateIn_2 : decode cX8_stateIn 2 = .ok (.iload_n 1, 1) := by decide +kernel
theorem dX8_stateIn_3 : decode cX8_stateIn 3 = .ok (.imul, 1) := by decide +kernel
theorem dX8_stateIn_4 : decode cX8_stateIn 4 = .ok (.ishr, 1) := by decide +kernel
theorem dX8_stateIn_5 : decode cX8_stateIn 5 = .ok (.bipush 7, 2) := by decide +kernel
theorem dX8_stateIn_7 : decode cX8_stateIn 7 = .ok (.iand, 1) := by decide +kernel
theorem dX8_stateIn_8 : decode cX8_stateIn 8 = .ok (.ireturn, 1) := by decide +kernel
theorem dX8_led_0 : decode cX8_led 0 = .ok (.iload_n 1, 1) := by decide +kernel
theorem dX8_led_1 : decode cX8_led 1 = .ok (.istore 4, 2) := by decide +kernel
theorem dX8_led_3 : decode cX8_led 3 = .ok (.iconst 0, 1) := by decide +kernel
theorem dX8_led_4 : decode cX8_led 4 = .ok (.istore 5, 2) := by decide +kernel
theorem dX8_led_6 : decode cX8_led 6 = .ok (.iconst 0, 1) := by decide +kernel
theorem dX8_led_7 : decode cX8_led 7 = .ok (.istore 6, 2) := by decide +kernel
theorem dX8_led_9 : decode cX8_led 9 = .ok (.iload 6, 2) := by decide +kernel
theorem dX8_led_11 : decode cX8_led 11 = .ok (.aload_n 0, 1) := by decide +kernel
theorem dX8_led_12 : decode cX8_led 12 = .ok (.getfield 96, 3) := by decide +kernel
theorem dX8_led_15 : decode cX8_led 15 = .ok (.if_icmp .ge 88, 3) := by decide +kernel
theorem dX8_led_18 : decode cX8_led 18 = .ok (.iload_n 2, 1) := by decide +kernel
theorem dX8_led_19 : decode cX8_led 19 = .ok (.iload 6, 2) := by decide +kernel
theorem dX8_led_21 : decode cX8_led 21 = .ok (.invokestatic 121, 3) := by decide +kernel
theorem dX8_led_24 : decode cX8_led 24 = .ok (.iconst 1, 1) := by decide +kernel
theorem dX8_led_25 : decode cX8_led 25 = .ok (.if_icmp .ne 72, 3) := by decide +kernel
theorem dX8_led_28 : decode cX8_led 28 = .ok (.aload_n 0, 1) := by decide +kernel
theorem dX8_led_29 : decode cX8_led 29 = .ok (.getfield 16, 3) := by decide +kernel
theorem dX8_led_32 : decode cX8_led 32 = .ok (.iload 6, 2) := by decide +kernel
theorem dX8_led_34 : decode cX8_led 34 = .ok (.iaload, 1) := by decide +kernel
theorem dX8_led_35 : decode cX8_led 35 = .ok (.iload_n 3, 1) := by decide +kernel
theorem dX8_led_36 : decode cX8_led 36 = .ok (.invokestatic 121, 3) := by decide +kernel
theorem dX8_led_39 : decode cX8_led 39 = .ok (.iconst 1, 1) := by decide +kernel
theorem dX8_led_40 : decode cX8_led 40 = .ok (.if_icmp .ne 57, 3) := by decide +kernel
theorem dX8_led_43 : decode cX8_led 43 = .ok (.aload_n 0, 1) := by decide +kernel
theorem dX8_led_44 : decode cX8_led 44 = .ok (.getfield 28, 3) := by decide +kernel
theorem dX8_led_47 : decode cX8_led 47 = .ok (.iload 6, 2) := by decide +kernel
theorem dX8_led_49 : decode cX8_led 49 = .ok (.iload_n 1, 1) := by decide +kernel
theorem dX8_led_50 : decode cX8_led 50 = .ok (.iload 6, 2) := by decide +kernel
theorem dX8_led_52 : decode cX8_led 52 = .ok (.invokestatic 128, 3) := by decide +kernel
theorem dX8_led_55 : decode cX8_led 55 = .ok (.iload_n 3, 1) := by decide +kernel
theorem dX8_led_56 : decode cX8_led 56 = .ok (.invokestatic 81, 3) := by decide +kernel
theorem dX8_led_59 : decode cX8_led 59 = .ok (.iaload, 1) := by decide +kernel
theorem dX8_led_60 : decode cX8_led 60 = .ok (.istore 7, 2) := by decide +kernel
theorem dX8_led_62 : decode cX8_led 62 = .ok (.iload 7, 2) := by decide +kernel
theorem dX8_led_64 : decode cX8_led 64 = .ok (.bipush (-9), 2) := by decide +kernel
theorem dX8_led_66 : decode cX8_led 66 = .ok (.if_icmp .ne 6, 3) := by decide +kernel
theorem dX8_led_69 : decode cX8_led 69 = .ok (.bipush (-9), 2) := by decide +kernel
theorem dX8_led_71 : decode cX8_led 71 = .ok (.ireturn, 1) := by decide +kernel
theorem dX8_led_72 : decode cX8_led 72 = .ok (.iconst 1, 1) := by decide +kernel
theorem dX8_led_73 : decode cX8_led 73 = .ok (.istore 5, 2) := by decide +kernel
theorem dX8_led_75 : decode cX8_led 75 = .ok (.iload 4, 2) := by decide +kernel
theorem dX8_led_77 : decode cX8_led 77 = .ok (.bipush 7, 2) := by decide +kernel
theorem dX8_led_79 : decode cX8_led 79 = .ok (.iconst 3, 1) := by decide +kernel
theorem dX8_led_80 : decode cX8_led 80 = .ok (.iload 6, 2) := by decide +kernel
theorem dX8_led_82 : decode cX8_led 82 = .ok (.imul, 1) := by decide +kernel
theorem dX8_led_83 : decode cX8_led 83 = .ok (.ishl, 1) := by decide +kernel
theorem dX8_led_84 : decode cX8_led 84 = .ok (.iconst (-1), 1) := by decide +kernel
theorem dX8_led_85 : decode cX8_led 85 = .ok (.ixor, 1) := by decide +kernel
theorem dX8_led_86 : decode cX8_led 86 = .ok (.iand, 1) := by decide +kernel
theorem dX8_led_87 : decode cX8_led 87 = .ok (.iload 7, 2) := by decide +kernel
theorem dX8_led_89 : decode cX8_led 89 = .ok (.iconst 3, 1) := by decide +kernel
theorem dX8_led_90 : decode cX8_led 90 = .ok (.iload 6, 2) := by decide +kernel
theorem dX8_led_92 : decode cX8_led 92 = .ok (.imul, 1) := by decide +kernel
theorem dX8_led_93 : decode cX8_led 93 = .ok (.ishl, 1) := by decide +kernel
theorem dX8_led_94 : decode cX8_led 94 = .ok (.ior, 1) := by decide +kernel
theorem dX8_led_95 : decode cX8_led 95 = .ok (.istore 4, 2) := by decide +kernel
theorem dX8_led_97 : decode cX8_led 97 = .ok (.iinc 6 1, 3) := by decide +kernel
theorem dX8_led_100 : decode cX8_led 100 = .ok (.goto (-91), 3) := by decide +kernel
theorem dX8_led_103 : decode cX8_led 103 = .ok (.iload 5, 2) := by decide +kernel
theorem dX8_led_105 : decode cX8_led 105 = .ok (.ifCond .eq 8, 3) := by decide +kernel
theorem dX8_led_108 : decode cX8_led 108 = .ok (.iload 4, 2) := by decide +kernel
theorem dX8_led_110 : decode cX8_led 110 = .ok (.goto 5, 3) := by decide +kernel
theorem dX8_led_113 : decode cX8_led 113 = .ok (.bipush (-9), 2) := by decide +kernel
theorem dX8_led_115 : decode cX8_led 115 = .ok (.ireturn, 1) := by decide +kernel
theorem dX8_numberOf_0 : decode cX8_numberOf 0 = .ok (.iconst 0, 1) := by decide +kernel
theorem dX8_numberOf_1 : decode cX8_numberOf 1 = .ok (.istore_n 2, 1) := by decide +kernel
theorem dX8_numberOf_2 : decode cX8_numberOf 2 = .ok (.iload_n 2, 1) := by decide +kernel
theorem dX8_numberOf_3 : decode cX8_numberOf 3 = .ok (.aload_n 0, 1) := by decide +kernel
theorem dX8_numberOf_4 : decode cX8_numberOf 4 = .ok (.getfield 131, 3) := by decide +kernel
theorem dX8_numberOf_7 : decode cX8_numberOf 7 = .ok (.if_icmp .ge 21, 3) := by decide +kernel
theorem dX8_numberOf_10 : decode cX8_numberOf 10 = .ok (.aload_n 0, 1) := by decide +kernel
theorem dX8_numberOf_11 : decode cX8_numberOf 11 = .ok (.getfield 31, 3) := by decide +kernel
theorem dX8_numberOf_14 : decode cX8_numberOf 14 = .ok (.iload_n 2, 1) := by decide +kernel
theorem dX8_numberOf_15 : decode cX8_numberOf 15 = .ok (.iaload, 1) := by decide +kernel
theorem dX8_numberOf_16 : decode cX8_numberOf 16 = .ok (.iload_n 1, 1) := by decide +kernel
theorem dX8_numberOf_17 : decode cX8_numberOf 17 = .ok (.if_icmp .ne 5, 3) := by decide +kernel
theorem dX8_numberOf_20 : decode cX8_numberOf 20 = .ok (.iload_n 2, 1) := by decide +kernel
theorem dX8_numberOf_21 : decode cX8_numberOf 21 = .ok (.ireturn, 1) := by decide +kernel
theorem dX8_numberOf_22 : decode cX8_numberOf 22 = .ok (.iinc 2 1, 3) := by decide +kernel
theorem dX8_numberOf_25 : decode cX8_numberOf 25 = .ok (.goto (-23), 3) := by decide +kernel
theorem dX8_numberOf_28 : decode cX8_numberOf 28 = .ok (.bipush (-9), 2) := by decide +kernel
theorem dX8_numberOf_30 : decode cX8_numberOf 30 = .ok (.ireturn, 1) := by decide +kernel
theorem dX8_builds_0 : decode cX8_builds 0 = .ok (.aload_n 0, 1) := by decide +kernel
theorem dX8_builds_1 : decode cX8_builds 1 = .ok (.iconst 1, 1) := by decide +kernel
theorem dX8_builds_2 : decode cX8_builds 2 = .ok (.putfield 131, 3) := by decide +kernel
theorem dX8_builds_5 : decode cX8_builds 5 = .ok (.aload_n 0, 1) := by decide +kernel
theorem dX8_builds_6 : decode cX8_builds 6 = .ok (.getfield 31, 3) := by decide +kernel
theorem dX8_builds_9 : decode cX8_builds 9 = .ok (.iconst 0, 1) := by decide +kernel
theorem dX8_builds_10 : decode cX8_builds 10 = .ok (.iconst 0, 1) := by decide +kernel
theorem dX8_builds_11 : decode cX8_builds 11 = .ok (.iastore, 1) := by decide +kernel
theorem dX8_builds_12 : decode cX8_builds 12 = .ok (.iconst 0, 1) := by decide +kernel
theorem dX8_builds_13 : decode cX8_builds 13 = .ok (.istore_n 2, 1) := by decide +kernel
theorem dX8_builds_14 : decode cX8_builds 14 = .ok (.iload_n 2, 1) := by decide +kernel
theorem dX8_builds_15 : decode cX8_builds 15 = .ok (.aload_n 0, 1) := by decide +kernel
theorem dX8_builds_16 : decode cX8_builds 16 = .ok (.getfield 131, 3) := by decide +kernel
theorem dX8_builds_19 : decode cX8_builds 19 = .ok (.if_icmp .ge 128, 3) := by decide +kernel
theorem dX8_builds_22 : decode cX8_builds 22 = .ok (.iconst 0, 1) := by decide +kernel
theorem dX8_builds_23 : decode cX8_builds 23 = .ok (.istore_n 3, 1) := by decide +kernel
theorem dX8_builds_24 : decode cX8_builds 24 = .ok (.iload_n 3, 1) := by decide +kernel
theorem dX8_builds_25 : decode cX8_builds 25 = .ok (.bipush 8, 2) := by decide +kernel
theorem dX8_builds_27 : decode cX8_builds 27 = .ok (.if_icmp .ge 114, 3) := by decide +kernel
theorem dX8_builds_30 : decode cX8_builds 30 = .ok (.aload_n 0, 1) := by decide +kernel
theorem dX8_builds_31 : decode cX8_builds 31 = .ok (.aload_n 0, 1) := by decide +kernel
theorem dX8_builds_32 : decode cX8_builds 32 = .ok (.getfield 31, 3) := by decide +kernel
theorem dX8_builds_35 : decode cX8_builds 35 = .ok (.iload_n 2, 1) := by decide +kernel
theorem dX8_builds_36 : decode cX8_builds 36 = .ok (.iaload, 1) := by decide +kernel
theorem dX8_builds_37 : decode cX8_builds 37 = .ok (.iload_n 1, 1) := by decide +kernel
theorem dX8_builds_38 : decode cX8_builds 38 = .ok (.iload_n 3, 1) := by decide +kernel
theorem dX8_builds_39 : decode cX8_builds 39 = .ok (.invokevirtual 134, 3) := by decide +kernel
theorem dX8_builds_42 : decode cX8_builds 42 = .ok (.istore 4, 2) := by decide +kernel
theorem dX8_builds_44 : decode cX8_builds 44 = .ok (.iload 4, 2) := by decide +kernel
theorem dX8_builds_46 : decode cX8_builds 46 = .ok (.bipush (-9), 2) := by decide +kernel
theorem dX8_builds_48 : decode cX8_builds 48 = .ok (.if_icmp .ne 8, 3) := by decide +kernel
theorem dX8_builds_51 : decode cX8_builds 51 = .ok (.bipush (-9), 2) := by decide +kernel
theorem dX8_builds_53 : decode cX8_builds 53 = .ok (.goto 9, 3) := by decide +kernel
theorem dX8_builds_56 : decode cX8_builds 56 = .ok (.aload_n 0, 1) := by decide +kernel
theorem dX8_builds_57 : decode cX8_builds 57 = .ok (.iload 4, 2) := by decide +kernel
theorem dX8_builds_59 : decode cX8_builds 59 = .ok (.invokevirtual 137, 3) := by decide +kernel
theorem dX8_builds_62 : decode cX8_builds 62 = .ok (.istore 5, 2) := by decide +kernel
theorem dX8_builds_64 : decode cX8_builds 64 = .ok (.iload 4, 2) := by decide +kernel
theorem dX8_builds_66 : decode cX8_builds 66 = .ok (.bipush (-9), 2) := by decide +kernel
theorem dX8_builds_68 : decode cX8_builds 68 = .ok (.if_icmp .eq 54, 3) := by decide +kernel
theorem dX8_builds_71 : decode cX8_builds 71 = .ok (.iload 5, 2) := by decide +kernel
theorem dX8_builds_73 : decode cX8_builds 73 = .ok (.bipush (-9), 2) := by decide +kernel
theorem dX8_builds_75 : decode cX8_builds 75 = .ok (.if_icmp .ne 47, 3) := by decide +kernel
theorem dX8_builds_78 : decode cX8_builds 78 = .ok (.aload_n 0, 1) := by decide +kernel
theorem dX8_builds_79 : decode cX8_builds 79 = .ok (.getfield 131, 3) := by decide +kernel
theorem dX8_builds_82 : decode cX8_builds 82 = .ok (.sipush 150, 3) := by decide +kernel
theorem dX8_builds_85 : decode cX8_builds 85 = .ok (.if_icmp .ne 10, 3) := by decide +kernel
theorem dX8_builds_88 : decode cX8_builds 88 = .ok (.aload_n 0, 1) := by decide +kernel
theorem dX8_builds_89 : decode cX8_builds 89 = .ok (.iconst 0, 1) := by decide +kernel
theorem dX8_builds_90 : decode cX8_builds 90 = .ok (.putfield 131, 3) := by decide +kernel
theorem dX8_builds_93 : decode cX8_builds 93 = .ok (.iconst 0, 1) := by decide +kernel
theorem dX8_builds_94 : decode cX8_builds 94 = .ok (.ireturn, 1) := by decide +kernel
theorem dX8_builds_95 : decode cX8_builds 95 = .ok (.aload_n 0, 1) := by decide +kernel
theorem dX8_builds_96 : decode cX8_builds 96 = .ok (.getfield 131, 3) := by decide +kernel
theorem dX8_builds_99 : decode cX8_builds 99 = .ok (.istore 5, 2) := by decide +kernel
theorem dX8_builds_101 : decode cX8_builds 101 = .ok (.aload_n 0, 1) := by decide +kernel
theorem dX8_builds_102 : decode cX8_builds 102 = .ok (.getfield 31, 3) := by decide +kernel
theorem dX8_builds_105 : decode cX8_builds 105 = .ok (.aload_n 0, 1) := by decide +kernel
theorem dX8_builds_106 : decode cX8_builds 106 = .ok (.getfield 131, 3) := by decide +kernel
theorem dX8_builds_109 : decode cX8_builds 109 = .ok (.iload 4, 2) := by decide +kernel
theorem dX8_builds_111 : decode cX8_builds 111 = .ok (.iastore, 1) := by decide +kernel
theorem dX8_builds_112 : decode cX8_builds 112 = .ok (.aload_n 0, 1) := by decide +kernel
theorem dX8_builds_113 : decode cX8_builds 113 = .ok (.dup, 1) := by decide +kernel
theorem dX8_builds_114 : decode cX8_builds 114 = .ok (.getfield 131, 3) := by decide +kernel
theorem dX8_builds_117 : decode cX8_builds 117 = .ok (.iconst 1, 1) := by decide +kernel
theorem dX8_builds_118 : decode cX8_builds 118 = .ok (.iadd, 1) := by decide +kernel
theorem dX8_builds_119 : decode cX8_builds 119 = .ok (.putfield 131, 3) := by decide +kernel
theorem dX8_builds_122 : decode cX8_builds 122 = .ok (.aload_n 0, 1) := by decide +kernel
theorem dX8_builds_123 : decode cX8_builds 123 = .ok (.getfield 34, 3) := by decide +kernel
theorem dX8_builds_126 : decode cX8_builds 126 = .ok (.bipush 8, 2) := by decide +kernel
theorem dX8_builds_128 : decode cX8_builds 128 = .ok (.iload_n 2, 1) := by decide +kernel
theorem dX8_builds_129 : decode cX8_builds 129 = .ok (.imul, 1) := by decide +kernel
theorem dX8_builds_130 : decode cX8_builds 130 = .ok (.iload_n 3, 1) := by decide +kernel
theorem dX8_builds_131 : decode cX8_builds 131 = .ok (.iadd, 1) := by decide +kernel
theorem dX8_builds_132 : decode cX8_builds 132 = .ok (.iload 5, 2) := by decide +kernel
theorem dX8_builds_134 : decode cX8_builds 134 = .ok (.iastore, 1) := by decide +kernel
theorem dX8_builds_135 : decode cX8_builds 135 = .ok (.iinc 3 1, 3) := by decide +kernel
theorem dX8_builds_138 : decode cX8_builds 138 = .ok (.goto (-114), 3) := by decide +kernel
theorem dX8_builds_141 : decode cX8_builds 141 = .ok (.iinc 2 1, 3) := by decide +kernel
theorem dX8_builds_144 : decode cX8_builds 144 = .ok (.goto (-130), 3) := by decide +kernel
theorem dX8_builds_147 : decode cX8_builds 147 = .ok (.iconst 1, 1) := by decide +kernel
theorem dX8_builds_148 : decode cX8_builds 148 = .ok (.ireturn, 1) := by decide +kernel
theorem dX8_isFinished_0 : decode cX8_isFinished 0 = .ok (.iconst 0, 1) := by decide +kernel
theorem dX8_isFinished_1 : decode cX8_isFinished 1 = .ok (.istore_n 3, 1) := by decide +kernel
theorem dX8_isFinished_2 : decode cX8_isFinished 2 = .ok (.iload_n 3, 1) := by decide +kernel
theorem dX8_isFinished_3 : decode cX8_isFinished 3 = .ok (.aload_n 0, 1) := by decide +kernel
theorem dX8_isFinished_4 : decode cX8_isFinished 4 = .ok (.getfield 96, 3) := by decide +kernel
theorem dX8_isFinished_7 : decode cX8_isFinished 7 = .ok (.if_icmp .ge 42, 3) := by decide +kernel
theorem dX8_isFinished_10 : decode cX8_isFinished 10 = .ok (.iload_n 2, 1) := by decide +kernel
theorem dX8_isFinished_11 : decode cX8_isFinished 11 = .ok (.iload_n 3, 1) := by decide +kernel
theorem dX8_isFinished_12 : decode cX8_isFinished 12 = .ok (.invokestatic 121, 3) := by decide +kernel
theorem dX8_isFinished_15 : decode cX8_isFinished 15 = .ok (.iconst 1, 1) := by decide +kernel
theorem dX8_isFinished_16 : decode cX8_isFinished 16 = .ok (.if_icmp .ne 27, 3) := by decide +kernel
theorem dX8_isFinished_19 : decode cX8_isFinished 19 = .ok (.aload_n 0, 1) := by decide +kernel
theorem dX8_isFinished_20 : decode cX8_isFinished 20 = .ok (.getfield 19, 3) := by decide +kernel
theorem dX8_isFinished_23 : decode cX8_isFinished 23 = .ok (.iload_n 3, 1) := by decide +kernel
theorem dX8_isFinished_24 : decode cX8_isFinished 24 = .ok (.iaload, 1) := by decide +kernel
theorem dX8_isFinished_25 : decode cX8_isFinished 25 = .ok (.aload_n 0, 1) := by decide +kernel
theorem dX8_isFinished_26 : decode cX8_isFinished 26 = .ok (.getfield 31, 3) := by decide +kernel
theorem dX8_isFinished_29 : decode cX8_isFinished 29 = .ok (.iload_n 1, 1) := by decide +kernel
theorem dX8_isFinished_30 : decode cX8_isFinished 30 = .ok (.iaload, 1) := by decide +kernel
theorem dX8_isFinished_31 : decode cX8_isFinished 31 = .ok (.iload_n 3, 1) := by decide +kernel
theorem dX8_isFinished_32 : decode cX8_isFinished 32 = .ok (.invokestatic 128, 3) := by decide +kernel
theorem dX8_isFinished_35 : decode cX8_isFinished 35 = .ok (.invokestatic 121, 3) := by decide +kernel
theorem dX8_isFinished_38 : decode cX8_isFinished 38 = .ok (.ifCond .ne 5, 3) := by decide +kernel
theorem dX8_isFinished_41 : decode cX8_isFinished 41 = .ok (.iconst 0, 1) := by decide +kernel
theorem dX8_isFinished_42 : decode cX8_isFinished 42 = .ok (.ireturn, 1) := by decide +kernel
theorem dX8_isFinished_43 : decode cX8_isFinished 43 = .ok (.iinc 3 1, 3) := by decide +kernel
theorem dX8_isFinished_46 : decode cX8_isFinished 46 = .ok (.goto (-44), 3) := by decide +kernel
theorem dX8_isFinished_49 : decode cX8_isFinished 49 = .ok (.iconst 1, 1) := by decide +kernel
theorem dX8_isFinished_50 : decode cX8_isFinished 50 = .ok (.ireturn, 1) := by decide +kernel
theorem dX8_all_0 : decode cX8_all 0 = .ok (.iconst 1, 1) := by decide +kernel
theorem dX8_all_1 : decode cX8_all 1 = .ok (.aload_n 0, 1) := by decide +kernel
theorem dX8_all_2 : decode cX8_all 2 = .ok (.getfield 96, 3) := by decide +kernel
theorem dX8_all_5 : decode cX8_all 5 = .ok (.ishl, 1) := by decide +kernel
theorem dX8_all_6 : decode cX8_all 6 = .ok (.iconst 1, 1) := by decide +kernel
theorem dX8_all_7 : decode cX8_all 7 = .ok (.isub, 1) := by decide +kernel
theorem dX8_all_8 : decode cX8_all 8 = .ok (.ireturn, 1) := by decide +kernel
theorem dX8_clashes_0 : decode cX8_clashes 0 = .ok (.aload_n 0, 1) := by decide +kernel
theorem dX8_clashes_1 : decode cX8_clashes 1 = .ok (.getfield 118, 3) := by decide +kernel
theorem dX8_clashes_4 : decode cX8_clashes 4 = .ok (.iload_n 2, 1) := by decide +kernel
theorem dX8_clashes_5 : decode cX8_clashes 5 = .ok (.invokestatic 121, 3) := by decide +kernel
theorem dX8_clashes_8 : decode cX8_clashes 8 = .ok (.ifCond .ne 5, 3) := by decide +kernel
theorem dX8_clashes_11 : decode cX8_clashes 11 = .ok (.iconst 0, 1) := by decide +kernel
theorem dX8_clashes_12 : decode cX8_clashes 12 = .ok (.ireturn, 1) := by decide +kernel
theorem dX8_clashes_13 : decode cX8_clashes 13 = .ok (.iconst 0, 1) := by decide +kernel
theorem dX8_clashes_14 : decode cX8_clashes 14 = .ok (.istore_n 3, 1) := by decide +kernel
theorem dX8_clashes_15 : decode cX8_clashes 15 = .ok (.iconst 0, 1) := by decide +kernel
theorem dX8_clashes_16 : decode cX8_clashes 16 = .ok (.istore 4, 2) := by decide +kernel
theorem dX8_clashes_18 : decode cX8_clashes 18 = .ok (.iconst 0, 1) := by decide +kernel
theorem dX8_clashes_19 : decode cX8_clashes 19 = .ok (.istore 5, 2) := by decide +kernel
theorem dX8_clashes_21 : decode cX8_clashes 21 = .ok (.iload 5, 2) := by decide +kernel
theorem dX8_clashes_23 : decode cX8_clashes 23 = .ok (.aload_n 0, 1) := by decide +kernel
theorem dX8_clashes_24 : decode cX8_clashes 24 = .ok (.getfield 96, 3) := by decide +kernel
theorem dX8_clashes_27 : decode cX8_clashes 27 = .ok (.if_icmp .ge 145, 3) := by decide +kernel
theorem dX8_clashes_30 : decode cX8_clashes 30 = .ok (.aload_n 0, 1) := by decide +kernel
theorem dX8_clashes_31 : decode cX8_clashes 31 = .ok (.getfield 16, 3) := by decide +kernel
theorem dX8_clashes_34 : decode cX8_clashes 34 = .ok (.iload 5, 2) := by decide +kernel
theorem dX8_clashes_36 : decode cX8_clashes 36 = .ok (.iaload, 1) := by decide +kernel
theorem dX8_clashes_37 : decode cX8_clashes 37 = .ok (.iload_n 2, 1) := by decide +kernel
theorem dX8_clashes_38 : decode cX8_clashes 38 = .ok (.invokestatic 121, 3) := by decide +kernel
theorem dX8_clashes_41 : decode cX8_clashes 41 = .ok (.iconst 1, 1) := by decide +kernel
theorem dX8_clashes_42 : decode cX8_clashes 42 = .ok (.if_icmp .ne 7, 3) := by decide +kernel
theorem dX8_clashes_45 : decode cX8_clashes 45 = .ok (.iconst 1, 1) := by decide +kernel
theorem dX8_clashes_46 : decode cX8_clashes 46 = .ok (.goto 4, 3) := by decide +kernel
theorem dX8_clashes_49 : decode cX8_clashes 49 = .ok (.iconst 0, 1) := by decide +kernel
theorem dX8_clashes_50 : decode cX8_clashes 50 = .ok (.istore 6, 2) := by decide +kernel
theorem dX8_clashes_52 : decode cX8_clashes 52 = .ok (.aload_n 0, 1) := by decide +kernel
theorem dX8_clashes_53 : decode cX8_clashes 53 = .ok (.getfield 28, 3) := by decide +kernel
theorem dX8_clashes_56 : decode cX8_clashes 56 = .ok (.iload 5, 2) := by decide +kernel
theorem dX8_clashes_58 : decode cX8_clashes 58 = .ok (.aload_n 0, 1) := by decide +kernel
theorem dX8_clashes_59 : decode cX8_clashes 59 = .ok (.getfield 31, 3) := by decide +kernel
theorem dX8_clashes_62 : decode cX8_clashes 62 = .ok (.iload_n 1, 1) := by decide +kernel
theorem dX8_clashes_63 : decode cX8_clashes 63 = .ok (.iaload, 1) := by decide +kernel
theorem dX8_clashes_64 : decode cX8_clashes 64 = .ok (.iload 5, 2) := by decide +kernel
theorem dX8_clashes_66 : decode cX8_clashes 66 = .ok (.invokestatic 128, 3) := by decide +kernel
theorem dX8_clashes_69 : decode cX8_clashes 69 = .ok (.iload_n 2, 1) := by decide +kernel
theorem dX8_clashes_70 : decode cX8_clashes 70 = .ok (.invokestatic 81, 3) := by decide +kernel
theorem dX8_clashes_73 : decode cX8_clashes 73 = .ok (.iaload, 1) := by decide +kernel
theorem dX8_clashes_74 : decode cX8_clashes 74 = .ok (.bipush (-9), 2) := by decide +kernel
theorem dX8_clashes_76 : decode cX8_clashes 76 = .ok (.if_icmp .eq 7, 3) := by decide +kernel
theorem dX8_clashes_79 : decode cX8_clashes 79 = .ok (.iconst 1, 1) := by decide +kernel
theorem dX8_clashes_80 : decode cX8_clashes 80 = .ok (.goto 4, 3) := by decide +kernel
theorem dX8_clashes_83 : decode cX8_clashes 83 = .ok (.iconst 0, 1) := by decide +kernel
theorem dX8_clashes_84 : decode cX8_clashes 84 = .ok (.istore 7, 2) := by decide +kernel
theorem dX8_clashes_86 : decode cX8_clashes 86 = .ok (.iload 6, 2) := by decide +kernel
theorem dX8_clashes_88 : decode cX8_clashes 88 = .ok (.ifCond .eq 20, 3) := by decide +kernel
theorem dX8_clashes_91 : decode cX8_clashes 91 = .ok (.aload_n 0, 1) := by decide +kernel
theorem dX8_clashes_92 : decode cX8_clashes 92 = .ok (.getfield 13, 3) := by decide +kernel
theorem dX8_clashes_95 : decode cX8_clashes 95 = .ok (.iload 5, 2) := by decide +kernel
theorem dX8_clashes_97 : decode cX8_clashes 97 = .ok (.iaload, 1) := by decide +kernel
theorem dX8_clashes_98 : decode cX8_clashes 98 = .ok (.ifCond .ne 10, 3) := by decide +kernel
theorem dX8_clashes_101 : decode cX8_clashes 101 = .ok (.iload 7, 2) := by decide +kernel
theorem dX8_clashes_103 : decode cX8_clashes 103 = .ok (.ifCond .ne 5, 3) := by decide +kernel
theorem dX8_clashes_106 : decode cX8_clashes 106 = .ok (.iconst 0, 1) := by decide +kernel
theorem dX8_clashes_107 : decode cX8_clashes 107 = .ok (.ireturn, 1) := by decide +kernel
theorem dX8_clashes_108 : decode cX8_clashes 108 = .ok (.iload_n 3, 1) := by decide +kernel
theorem dX8_clashes_109 : decode cX8_clashes 109 = .ok (.ifCond .ne 18, 3) := by decide +kernel
theorem dX8_clashes_112 : decode cX8_clashes 112 = .ok (.iload 6, 2) := by decide +kernel
theorem dX8_clashes_114 : decode cX8_clashes 114 = .ok (.ifCond .eq 17, 3) := by decide +kernel
theorem dX8_clashes_117 : decode cX8_clashes 117 = .ok (.aload_n 0, 1) := by decide +kernel
theorem dX8_clashes_118 : decode cX8_clashes 118 = .ok (.getfield 13, 3) := by decide +kernel
theorem dX8_clashes_121 : decode cX8_clashes 121 = .ok (.iload 5, 2) := by decide +kernel
theorem dX8_clashes_123 : decode cX8_clashes 123 = .ok (.iaload, 1) := by decide +kernel
theorem dX8_clashes_124 : decode cX8_clashes 124 = .ok (.ifCond .ne 7, 3) := by decide +kernel
theorem dX8_clashes_127 : decode cX8_clashes 127 = .ok (.iconst 1, 1) := by decide +kernel
theorem dX8_clashes_128 : decode cX8_clashes 128 = .ok (.goto 4, 3) := by decide +kernel
theorem dX8_clashes_131 : decode cX8_clashes 131 = .ok (.iconst 0, 1) := by decide +kernel
theorem dX8_clashes_132 : decode cX8_clashes 132 = .ok (.istore_n 3, 1) := by decide +kernel
theorem dX8_clashes_133 : decode cX8_clashes 133 = .ok (.iload 4, 2) := by decide +kernel
theorem dX8_clashes_135 : decode cX8_clashes 135 = .ok (.ifCond .ne 24, 3) := by decide +kernel
theorem dX8_clashes_138 : decode cX8_clashes 138 = .ok (.iload 6, 2) := by decide +kernel
theorem dX8_clashes_140 : decode cX8_clashes 140 = .ok (.ifCond .eq 23, 3) := by decide +kernel
theorem dX8_clashes_143 : decode cX8_clashes 143 = .ok (.aload_n 0, 1) := by decide +kernel
theorem dX8_clashes_144 : decode cX8_clashes 144 = .ok (.getfield 13, 3) := by decide +kernel
theorem dX8_clashes_147 : decode cX8_clashes 147 = .ok (.iload 5, 2) := by decide +kernel
theorem dX8_clashes_149 : decode cX8_clashes 149 = .ok (.iaload, 1) := by decide +kernel
theorem dX8_clashes_150 : decode cX8_clashes 150 = .ok (.iconst 1, 1) := by decide +kernel
theorem dX8_clashes_151 : decode cX8_clashes 151 = .ok (.if_icmp .ne 12, 3) := by decide +kernel
theorem dX8_clashes_154 : decode cX8_clashes 154 = .ok (.iload 7, 2) := by decide +kernel
theorem dX8_clashes_156 : decode cX8_clashes 156 = .ok (.ifCond .ne 7, 3) := by decide +kernel
theorem dX8_clashes_159 : decode cX8_clashes 159 = .ok (.iconst 1, 1) := by decide +kernel
theorem dX8_clashes_160 : decode cX8_clashes 160 = .ok (.goto 4, 3) := by decide +kernel
theorem dX8_clashes_163 : decode cX8_clashes 163 = .ok (.iconst 0, 1) := by decide +kernel
theorem dX8_clashes_164 : decode cX8_clashes 164 = .ok (.istore 4, 2) := by decide +kernel
theorem dX8_clashes_166 : decode cX8_clashes 166 = .ok (.iinc 5 1, 3) := by decide +kernel
theorem dX8_clashes_169 : decode cX8_clashes 169 = .ok (.goto (-148), 3) := by decide +kernel
theorem dX8_clashes_172 : decode cX8_clashes 172 = .ok (.iload_n 3, 1) := by decide +kernel
theorem dX8_clashes_173 : decode cX8_clashes 173 = .ok (.ifCond .eq 12, 3) := by decide +kernel
theorem dX8_clashes_176 : decode cX8_clashes 176 = .ok (.iload 4, 2) := by decide +kernel
theorem dX8_clashes_178 : decode cX8_clashes 178 = .ok (.ifCond .eq 7, 3) := by decide +kernel
theorem dX8_clashes_181 : decode cX8_clashes 181 = .ok (.iconst 1, 1) := by decide +kernel
theorem dX8_clashes_182 : decode cX8_clashes 182 = .ok (.goto 4, 3) := by decide +kernel
theorem dX8_clashes_185 : decode cX8_clashes 185 = .ok (.iconst 0, 1) := by decide +kernel
theorem dX8_clashes_186 : decode cX8_clashes 186 = .ok (.ireturn, 1) := by decide +kernel
theorem dX8_loses_0 : decode cX8_loses 0 = .ok (.aload_n 0, 1) := by decide +kernel
theorem dX8_loses_1 : decode cX8_loses 1 = .ok (.getfield 37, 3) := by decide +kernel
theorem dX8_loses_4 : decode cX8_loses 4 = .ok (.iload_n 1, 1) := by decide +kernel
theorem dX8_loses_5 : decode cX8_loses 5 = .ok (.iload_n 2, 1) := by decide +kernel
theorem dX8_loses_6 : decode cX8_loses 6 = .ok (.iastore, 1) := by decide +kernel
theorem dX8_loses_7 : decode cX8_loses 7 = .ok (.aload_n 0, 1) := by decide +kernel
theorem dX8_loses_8 : decode cX8_loses 8 = .ok (.getfield 40, 3) := by decide +kernel
theorem dX8_loses_11 : decode cX8_loses 11 = .ok (.iload_n 1, 1) := by decide +kernel
theorem dX8_loses_12 : decode cX8_loses 12 = .ok (.iload_n 3, 1) := by decide +kernel
theorem dX8_loses_13 : decode cX8_loses 13 = .ok (.iastore, 1) := by decide +kernel
theorem dX8_loses_14 : decode cX8_loses 14 = .ok (.aload_n 0, 1) := by decide +kernel
theorem dX8_loses_15 : decode cX8_loses 15 = .ok (.getfield 43, 3) := by decide +kernel
theorem dX8_loses_18 : decode cX8_loses 18 = .ok (.iload_n 1, 1) := by decide +kernel
theorem dX8_loses_19 : decode cX8_loses 19 = .ok (.iload 4, 2) := by decide +kernel
theorem dX8_loses_21 : decode cX8_loses 21 = .ok (.iastore, 1) := by decide +kernel
theorem dX8_loses_22 : decode cX8_loses 22 = .ok (.return_, 1) := by decide +kernel
theorem dX8_losesClashes_0 : decode cX8_losesClashes 0 = .ok (.iconst 0, 1) := by decide +kernel
theorem dX8_losesClashes_1 : decode cX8_losesClashes 1 = .ok (.istore_n 1, 1) := by decide +kernel
theorem dX8_losesClashes_2 : decode cX8_losesClashes 2 = .ok (.iload_n 1, 1) := by decide +kernel
theorem dX8_losesClashes_3 : decode cX8_losesClashes 3 = .ok (.aload_n 0, 1) := by decide +kernel
theorem dX8_losesClashes_4 : decode cX8_losesClashes 4 = .ok (.getfield 131, 3) := by decide +kernel
theorem dX8_losesClashes_7 : decode cX8_losesClashes 7 = .ok (.if_icmp .ge 47, 3) := by decide +kernel
theorem dX8_losesClashes_10 : decode cX8_losesClashes 10 = .ok (.aload_n 0, 1) := by decide +kernel
theorem dX8_losesClashes_11 : decode cX8_losesClashes 11 = .ok (.getfield 37, 3) := by decide +kernel
theorem dX8_losesClashes_14 : decode cX8_losesClashes 14 = .ok (.iload_n 1, 1) := by decide +kernel
theorem dX8_losesClashes_15 : decode cX8_losesClashes 15 = .ok (.bipush (-9), 2) := by decide +kernel
theorem dX8_losesClashes_17 : decode cX8_losesClashes 17 = .ok (.iastore, 1) := by decide +kernel
theorem dX8_losesClashes_18 : decode cX8_losesClashes 18 = .ok (.bipush 7, 2) := by decide +kernel
theorem dX8_losesClashes_20 : decode cX8_losesClashes 20 = .ok (.istore_n 2, 1) := by decide +kernel
theorem dX8_losesClashes_21 : decode cX8_losesClashes 21 = .ok (.iload_n 2, 1) := by decide +kernel
theorem dX8_losesClashes_22 : decode cX8_losesClashes 22 = .ok (.ifCond .lt 26, 3) := by decide +kernel
theorem dX8_losesClashes_25 : decode cX8_losesClashes 25 = .ok (.aload_n 0, 1) := by decide +kernel
theorem dX8_losesClashes_26 : decode cX8_losesClashes 26 = .ok (.iload_n 1, 1) := by decide +kernel
theorem dX8_losesClashes_27 : decode cX8_losesClashes 27 = .ok (.iload_n 2, 1) := by decide +kernel
theorem dX8_losesClashes_28 : decode cX8_losesClashes 28 = .ok (.invokevirtual 141, 3) := by decide +kernel
theorem dX8_losesClashes_31 : decode cX8_losesClashes 31 = .ok (.ifCond .eq 11, 3) := by decide +kernel
theorem dX8_losesClashes_34 : decode cX8_losesClashes 34 = .ok (.aload_n 0, 1) := by decide +kernel
theorem dX8_losesClashes_35 : decode cX8_losesClashes 35 = .ok (.iload_n 1, 1) := by decide +kernel
theorem dX8_losesClashes_36 : decode cX8_losesClashes 36 = .ok (.iconst 0, 1) := by decide +kernel
theorem dX8_losesClashes_37 : decode cX8_losesClashes 37 = .ok (.iconst 1, 1) := by decide +kernel
theorem dX8_losesClashes_38 : decode cX8_losesClashes 38 = .ok (.iload_n 2, 1) := by decide +kernel
theorem dX8_losesClashes_39 : decode cX8_losesClashes 39 = .ok (.invokevirtual 145, 3) := by decide +kernel
theorem dX8_losesClashes_42 : decode cX8_losesClashes 42 = .ok (.iinc 2 (-1), 3) := by decide +kernel
theorem dX8_losesClashes_45 : decode cX8_losesClashes 45 = .ok (.goto (-24), 3) := by decide +kernel
theorem dX8_losesClashes_48 : decode cX8_losesClashes 48 = .ok (.iinc 1 1, 3) := by decide +kernel
theorem dX8_losesClashes_51 : decode cX8_losesClashes 51 = .ok (.goto (-49), 3) := by decide +kernel
theorem dX8_losesClashes_54 : decode cX8_losesClashes 54 = .ok (.return_, 1) := by decide +kernel
theorem dX8_pushes_0 : decode cX8_pushes 0 = .ok (.iconst 0, 1) := by decide +kernel
theorem dX8_pushes_1 : decode cX8_pushes 1 = .ok (.istore_n 3, 1) := by decide +kernel
theorem dX8_pushes_2 : decode cX8_pushes 2 = .ok (.iload_n 3, 1) := by decide +kernel
theorem dX8_pushes_3 : decode cX8_pushes 3 = .ok (.bipush 8, 2) := by decide +kernel
theorem dX8_pushes_5 : decode cX8_pushes 5 = .ok (.if_icmp .ge 66, 3) := by decide +kernel
theorem dX8_pushes_8 : decode cX8_pushes 8 = .ok (.aload_n 0, 1) := by decide +kernel
theorem dX8_pushes_9 : decode cX8_pushes 9 = .ok (.getfield 34, 3) := by decide +kernel
theorem dX8_pushes_12 : decode cX8_pushes 12 = .ok (.bipush 8, 2) := by decide +kernel
theorem dX8_pushes_14 : decode cX8_pushes 14 = .ok (.iload_n 1, 1) := by decide +kernel
theorem dX8_pushes_15 : decode cX8_pushes 15 = .ok (.imul, 1) := by decide +kernel
theorem dX8_pushes_16 : decode cX8_pushes 16 = .ok (.iload_n 3, 1) := by decide +kernel
theorem dX8_pushes_17 : decode cX8_pushes 17 = .ok (.iadd, 1) := by decide +kernel
theorem dX8_pushes_18 : decode cX8_pushes 18 = .ok (.iaload, 1) := by decide +kernel
theorem dX8_pushes_19 : decode cX8_pushes 19 = .ok (.istore 4, 2) := by decide +kernel
theorem dX8_pushes_21 : decode cX8_pushes 21 = .ok (.aload_n 0, 1) := by decide +kernel
theorem dX8_pushes_22 : decode cX8_pushes 22 = .ok (.getfield 118, 3) := by decide +kernel
theorem dX8_pushes_25 : decode cX8_pushes 25 = .ok (.iload_n 3, 1) := by decide +kernel
theorem dX8_pushes_26 : decode cX8_pushes 26 = .ok (.invokestatic 121, 3) := by decide +kernel
theorem dX8_pushes_29 : decode cX8_pushes 29 = .ok (.iconst 1, 1) := by decide +kernel
theorem dX8_pushes_30 : decode cX8_pushes 30 = .ok (.if_icmp .ne 35, 3) := by decide +kernel
theorem dX8_pushes_33 : decode cX8_pushes 33 = .ok (.iload 4, 2) := by decide +kernel
theorem dX8_pushes_35 : decode cX8_pushes 35 = .ok (.bipush (-9), 2) := by decide +kernel
theorem dX8_pushes_37 : decode cX8_pushes 37 = .ok (.if_icmp .eq 28, 3) := by decide +kernel
theorem dX8_pushes_40 : decode cX8_pushes 40 = .ok (.aload_n 0, 1) := by decide +kernel
theorem dX8_pushes_41 : decode cX8_pushes 41 = .ok (.getfield 37, 3) := by decide +kernel
theorem dX8_pushes_44 : decode cX8_pushes 44 = .ok (.iload 4, 2) := by decide +kernel
theorem dX8_pushes_46 : decode cX8_pushes 46 = .ok (.iaload, 1) := by decide +kernel
theorem dX8_pushes_47 : decode cX8_pushes 47 = .ok (.bipush (-9), 2) := by decide +kernel
theorem dX8_pushes_49 : decode cX8_pushes 49 = .ok (.if_icmp .eq 16, 3) := by decide +kernel
theorem dX8_pushes_52 : decode cX8_pushes 52 = .ok (.aload_n 0, 1) := by decide +kernel
theorem dX8_pushes_53 : decode cX8_pushes 53 = .ok (.getfield 37, 3) := by decide +kernel
theorem dX8_pushes_56 : decode cX8_pushes 56 = .ok (.iload 4, 2) := by decide +kernel
theorem dX8_pushes_58 : decode cX8_pushes 58 = .ok (.iaload, 1) := by decide +kernel
theorem dX8_pushes_59 : decode cX8_pushes 59 = .ok (.iload_n 2, 1) := by decide +kernel
theorem dX8_pushes_60 : decode cX8_pushes 60 = .ok (.if_icmp .ge 5, 3) := by decide +kernel
theorem dX8_pushes_63 : decode cX8_pushes 63 = .ok (.iload_n 3, 1) := by decide +kernel
theorem dX8_pushes_64 : decode cX8_pushes 64 = .ok (.ireturn, 1) := by decide +kernel
theorem dX8_pushes_65 : decode cX8_pushes 65 = .ok (.iinc 3 1, 3) := by decide +kernel
theorem dX8_pushes_68 : decode cX8_pushes 68 = .ok (.goto (-66), 3) := by decide +kernel
theorem dX8_pushes_71 : decode cX8_pushes 71 = .ok (.bipush (-9), 2) := by decide +kernel
theorem dX8_pushes_73 : decode cX8_pushes 73 = .ok (.ireturn, 1) := by decide +kernel
theorem dX8_losesPushed_0 : decode cX8_losesPushed 0 = .ok (.iconst 0, 1) := by decide +kernel
theorem dX8_losesPushed_1 : decode cX8_losesPushed 1 = .ok (.istore_n 2, 1) := by decide +kernel
theorem dX8_losesPushed_2 : decode cX8_losesPushed 2 = .ok (.iconst 0, 1) := by decide +kernel
theorem dX8_losesPushed_3 : decode cX8_losesPushed 3 = .ok (.istore_n 3, 1) := by decide +kernel
theorem dX8_losesPushed_4 : decode cX8_losesPushed 4 = .ok (.iload_n 3, 1) := by decide +kernel
theorem dX8_losesPushed_5 : decode cX8_losesPushed 5 = .ok (.aload_n 0, 1) := by decide +kernel
theorem dX8_losesPushed_6 : decode cX8_losesPushed 6 = .ok (.getfield 131, 3) := by decide +kernel
theorem dX8_losesPushed_9 : decode cX8_losesPushed 9 = .ok (.if_icmp .ge 51, 3) := by decide +kernel
theorem dX8_losesPushed_12 : decode cX8_losesPushed 12 = .ok (.aload_n 0, 1) := by decide +kernel
theorem dX8_losesPushed_13 : decode cX8_losesPushed 13 = .ok (.getfield 37, 3) := by decide +kernel
theorem dX8_losesPushed_16 : decode cX8_losesPushed 16 = .ok (.iload_n 3, 1) := by decide +kernel
theorem dX8_losesPushed_17 : decode cX8_losesPushed 17 = .ok (.iaload, 1) := by decide +kernel
theorem dX8_losesPushed_18 : decode cX8_losesPushed 18 = .ok (.bipush (-9), 2) := by decide +kernel
theorem dX8_losesPushed_20 : decode cX8_losesPushed 20 = .ok (.if_icmp .ne 12, 3) := by decide +kernel
theorem dX8_losesPushed_23 : decode cX8_losesPushed 23 = .ok (.aload_n 0, 1) := by decide +kernel
theorem dX8_losesPushed_24 : decode cX8_losesPushed 24 = .ok (.iload_n 3, 1) := by decide +kernel
theorem dX8_losesPushed_25 : decode cX8_losesPushed 25 = .ok (.iload_n 1, 1) := by decide +kernel
theorem dX8_losesPushed_26 : decode cX8_losesPushed 26 = .ok (.invokevirtual 149, 3) := by decide +kernel
theorem dX8_losesPushed_29 : decode cX8_losesPushed 29 = .ok (.goto 5, 3) := by decide +kernel
theorem dX8_losesPushed_32 : decode cX8_losesPushed 32 = .ok (.bipush (-9), 2) := by decide +kernel
theorem dX8_losesPushed_34 : decode cX8_losesPushed 34 = .ok (.istore 4, 2) := by decide +kernel
theorem dX8_losesPushed_36 : decode cX8_losesPushed 36 = .ok (.iload 4, 2) := by decide +kernel
theorem dX8_losesPushed_38 : decode cX8_losesPushed 38 = .ok (.bipush (-9), 2) := by decide +kernel
theorem dX8_losesPushed_40 : decode cX8_losesPushed 40 = .ok (.if_icmp .eq 14, 3) := by decide +kernel
theorem dX8_losesPushed_43 : decode cX8_losesPushed 43 = .ok (.aload_n 0, 1) := by decide +kernel
theorem dX8_losesPushed_44 : decode cX8_losesPushed 44 = .ok (.iload_n 3, 1) := by decide +kernel
theorem dX8_losesPushed_45 : decode cX8_losesPushed 45 = .ok (.iload_n 1, 1) := by decide +kernel
theorem dX8_losesPushed_46 : decode cX8_losesPushed 46 = .ok (.iconst 2, 1) := by decide +kernel
theorem dX8_losesPushed_47 : decode cX8_losesPushed 47 = .ok (.iload 4, 2) := by decide +kernel
theorem dX8_losesPushed_49 : decode cX8_losesPushed 49 = .ok (.invokevirtual 145, 3) := by decide +kernel
theorem dX8_losesPushed_52 : decode cX8_losesPushed 52 = .ok (.iconst 1, 1) := by decide +kernel
theorem dX8_losesPushed_53 : decode cX8_losesPushed 53 = .ok (.istore_n 2, 1) := by decide +kernel
theorem dX8_losesPushed_54 : decode cX8_losesPushed 54 = .ok (.iinc 3 1, 3) := by decide +kernel
theorem dX8_losesPushed_57 : decode cX8_losesPushed 57 = .ok (.goto (-53), 3) := by decide +kernel
theorem dX8_losesPushed_60 : decode cX8_losesPushed 60 = .ok (.iload_n 2, 1) := by decide +kernel
theorem dX8_losesPushed_61 : decode cX8_losesPushed 61 = .ok (.ireturn, 1) := by decide +kernel
theorem dX8_findEnds_0 : decode cX8_findEnds 0 = .ok (.iconst 0, 1) := by decide +kernel
theorem dX8_findEnds_1 : decode cX8_findEnds 1 = .ok (.istore_n 2, 1) := by decide +kernel
theorem dX8_findEnds_2 : decode cX8_findEnds 2 = .ok (.iload_n 2, 1) := by decide +kernel
theorem dX8_findEnds_3 : decode cX8_findEnds 3 = .ok (.aload_n 0, 1) := by decide +kernel
theorem dX8_findEnds_4 : decode cX8_findEnds 4 = .ok (.getfield 131, 3) := by decide +kernel
theorem dX8_findEnds_7 : decode cX8_findEnds 7 = .ok (.if_icmp .ge 40, 3) := by decide +kernel
theorem dX8_findEnds_10 : decode cX8_findEnds 10 = .ok (.aload_n 0, 1) := by decide +kernel
theorem dX8_findEnds_11 : decode cX8_findEnds 11 = .ok (.getfield 46, 3) := by decide +kernel
theorem dX8_findEnds_14 : decode cX8_findEnds 14 = .ok (.iload_n 2, 1) := by decide +kernel
theorem dX8_findEnds_15 : decode cX8_findEnds 15 = .ok (.aload_n 0, 1) := by decide +kernel
theorem dX8_findEnds_16 : decode cX8_findEnds 16 = .ok (.getfield 37, 3) := by decide +kernel
theorem dX8_findEnds_19 : decode cX8_findEnds 19 = .ok (.iload_n 2, 1) := by decide +kernel
theorem dX8_findEnds_20 : decode cX8_findEnds 20 = .ok (.iaload, 1) := by decide +kernel
theorem dX8_findEnds_21 : decode cX8_findEnds 21 = .ok (.bipush (-9), 2) := by decide +kernel
theorem dX8_findEnds_23 : decode cX8_findEnds 23 = .ok (.if_icmp .ne 16, 3) := by decide +kernel
theorem dX8_findEnds_26 : decode cX8_findEnds 26 = .ok (.aload_n 0, 1) := by decide +kernel
theorem dX8_findEnds_27 : decode cX8_findEnds 27 = .ok (.iload_n 2, 1) := by decide +kernel
theorem dX8_findEnds_28 : decode cX8_findEnds 28 = .ok (.iload_n 1, 1) := by decide +kernel
theorem dX8_findEnds_29 : decode cX8_findEnds 29 = .ok (.invokevirtual 152, 3) := by decide +kernel
theorem dX8_findEnds_32 : decode cX8_findEnds 32 = .ok (.ifCond .eq 7, 3) := by decide +kernel
theorem dX8_findEnds_35 : decode cX8_findEnds 35 = .ok (.iconst 1, 1) := by decide +kernel
theorem dX8_findEnds_36 : decode cX8_findEnds 36 = .ok (.goto 4, 3) := by decide +kernel
theorem dX8_findEnds_39 : decode cX8_findEnds 39 = .ok (.iconst 0, 1) := by decide +kernel
theorem dX8_findEnds_40 : decode cX8_findEnds 40 = .ok (.bastore, 1) := by decide +kernel
theorem dX8_findEnds_41 : decode cX8_findEnds 41 = .ok (.iinc 2 1, 3) := by decide +kernel
theorem dX8_findEnds_44 : decode cX8_findEnds 44 = .ok (.goto (-42), 3) := by decide +kernel
theorem dX8_findEnds_47 : decode cX8_findEnds 47 = .ok (.iconst 1, 1) := by decide +kernel
theorem dX8_findEnds_48 : decode cX8_findEnds 48 = .ok (.istore_n 2, 1) := by decide +kernel
theorem dX8_findEnds_49 : decode cX8_findEnds 49 = .ok (.iload_n 2, 1) := by decide +kernel
theorem dX8_findEnds_50 : decode cX8_findEnds 50 = .ok (.ifCond .eq 90, 3) := by decide +kernel
theorem dX8_findEnds_53 : decode cX8_findEnds 53 = .ok (.iconst 0, 1) := by decide +kernel
theorem dX8_findEnds_54 : decode cX8_findEnds 54 = .ok (.istore_n 2, 1) := by decide +kernel
theorem dX8_findEnds_55 : decode cX8_findEnds 55 = .ok (.iconst 0, 1) := by decide +kernel
theorem dX8_findEnds_56 : decode cX8_findEnds 56 = .ok (.istore_n 3, 1) := by decide +kernel
theorem dX8_findEnds_57 : decode cX8_findEnds 57 = .ok (.iload_n 3, 1) := by decide +kernel
theorem dX8_findEnds_58 : decode cX8_findEnds 58 = .ok (.bipush 8, 2) := by decide +kernel
theorem dX8_findEnds_60 : decode cX8_findEnds 60 = .ok (.aload_n 0, 1) := by decide +kernel
theorem dX8_findEnds_61 : decode cX8_findEnds 61 = .ok (.getfield 131, 3) := by decide +kernel
theorem dX8_findEnds_64 : decode cX8_findEnds 64 = .ok (.imul, 1) := by decide +kernel
theorem dX8_findEnds_65 : decode cX8_findEnds 65 = .ok (.if_icmp .ge 72, 3) := by decide +kernel
theorem dX8_findEnds_68 : decode cX8_findEnds 68 = .ok (.iload_n 3, 1) := by decide +kernel
theorem dX8_findEnds_69 : decode cX8_findEnds 69 = .ok (.bipush 8, 2) := by decide +kernel
theorem dX8_findEnds_71 : decode cX8_findEnds 71 = .ok (.idiv, 1) := by decide +kernel
theorem dX8_findEnds_72 : decode cX8_findEnds 72 = .ok (.istore 4, 2) := by decide +kernel
theorem dX8_findEnds_74 : decode cX8_findEnds 74 = .ok (.aload_n 0, 1) := by decide +kernel
theorem dX8_findEnds_75 : decode cX8_findEnds 75 = .ok (.getfield 46, 3) := by decide +kernel
theorem dX8_findEnds_78 : decode cX8_findEnds 78 = .ok (.iload 4, 2) := by decide +kernel
theorem dX8_findEnds_80 : decode cX8_findEnds 80 = .ok (.baload, 1) := by decide +kernel
theorem dX8_findEnds_81 : decode cX8_findEnds 81 = .ok (.ifCond .ne 50, 3) := by decide +kernel
theorem dX8_findEnds_84 : decode cX8_findEnds 84 = .ok (.aload_n 0, 1) := by decide +kernel
theorem dX8_findEnds_85 : decode cX8_findEnds 85 = .ok (.getfield 37, 3) := by decide +kernel
theorem dX8_findEnds_88 : decode cX8_findEnds 88 = .ok (.iload 4, 2) := by decide +kernel
theorem dX8_findEnds_90 : decode cX8_findEnds 90 = .ok (.iaload, 1) := by decide +kernel
theorem dX8_findEnds_91 : decode cX8_findEnds 91 = .ok (.bipush (-9), 2) := by decide +kernel
theorem dX8_findEnds_93 : decode cX8_findEnds 93 = .ok (.if_icmp .ne 38, 3) := by decide +kernel
theorem dX8_findEnds_96 : decode cX8_findEnds 96 = .ok (.aload_n 0, 1) := by decide +kernel
theorem dX8_findEnds_97 : decode cX8_findEnds 97 = .ok (.getfield 34, 3) := by decide +kernel
theorem dX8_findEnds_100 : decode cX8_findEnds 100 = .ok (.iload_n 3, 1) := by decide +kernel
theorem dX8_findEnds_101 : decode cX8_findEnds 101 = .ok (.iaload, 1) := by decide +kernel
theorem dX8_findEnds_102 : decode cX8_findEnds 102 = .ok (.bipush (-9), 2) := by decide +kernel
theorem dX8_findEnds_104 : decode cX8_findEnds 104 = .ok (.if_icmp .eq 27, 3) := by decide +kernel
theorem dX8_findEnds_107 : decode cX8_findEnds 107 = .ok (.aload_n 0, 1) := by decide +kernel
theorem dX8_findEnds_108 : decode cX8_findEnds 108 = .ok (.getfield 46, 3) := by decide +kernel
theorem dX8_findEnds_111 : decode cX8_findEnds 111 = .ok (.aload_n 0, 1) := by decide +kernel
theorem dX8_findEnds_112 : decode cX8_findEnds 112 = .ok (.getfield 34, 3) := by decide +kernel
theorem dX8_findEnds_115 : decode cX8_findEnds 115 = .ok (.iload_n 3, 1) := by decide +kernel
theorem dX8_findEnds_116 : decode cX8_findEnds 116 = .ok (.iaload, 1) := by decide +kernel
theorem dX8_findEnds_117 : decode cX8_findEnds 117 = .ok (.baload, 1) := by decide +kernel
theorem dX8_findEnds_118 : decode cX8_findEnds 118 = .ok (.ifCond .eq 13, 3) := by decide +kernel
theorem dX8_findEnds_121 : decode cX8_findEnds 121 = .ok (.aload_n 0, 1) := by decide +kernel
theorem dX8_findEnds_122 : decode cX8_findEnds 122 = .ok (.getfield 46, 3) := by decide +kernel
theorem dX8_findEnds_125 : decode cX8_findEnds 125 = .ok (.iload 4, 2) := by decide +kernel
theorem dX8_findEnds_127 : decode cX8_findEnds 127 = .ok (.iconst 1, 1) := by decide +kernel
theorem dX8_findEnds_128 : decode cX8_findEnds 128 = .ok (.bastore, 1) := by decide +kernel
theorem dX8_findEnds_129 : decode cX8_findEnds 129 = .ok (.iconst 1, 1) := by decide +kernel
theorem dX8_findEnds_130 : decode cX8_findEnds 130 = .ok (.istore_n 2, 1) := by decide +kernel
theorem dX8_findEnds_131 : decode cX8_findEnds 131 = .ok (.iinc 3 1, 3) := by decide +kernel
theorem dX8_findEnds_134 : decode cX8_findEnds 134 = .ok (.goto (-77), 3) := by decide +kernel
theorem dX8_findEnds_137 : decode cX8_findEnds 137 = .ok (.goto (-88), 3) := by decide +kernel
theorem dX8_findEnds_140 : decode cX8_findEnds 140 = .ok (.return_, 1) := by decide +kernel
theorem dX8_losesStuck_0 : decode cX8_losesStuck 0 = .ok (.aload_n 0, 1) := by decide +kernel
theorem dX8_losesStuck_1 : decode cX8_losesStuck 1 = .ok (.aload_n 0, 1) := by decide +kernel
theorem dX8_losesStuck_2 : decode cX8_losesStuck 2 = .ok (.invokevirtual 155, 3) := by decide +kernel
theorem dX8_losesStuck_5 : decode cX8_losesStuck 5 = .ok (.invokevirtual 158, 3) := by decide +kernel
theorem dX8_losesStuck_8 : decode cX8_losesStuck 8 = .ok (.iconst 0, 1) := by decide +kernel
theorem dX8_losesStuck_9 : decode cX8_losesStuck 9 = .ok (.istore_n 2, 1) := by decide +kernel
theorem dX8_losesStuck_10 : decode cX8_losesStuck 10 = .ok (.iconst 0, 1) := by decide +kernel
theorem dX8_losesStuck_11 : decode cX8_losesStuck 11 = .ok (.istore_n 3, 1) := by decide +kernel
theorem dX8_losesStuck_12 : decode cX8_losesStuck 12 = .ok (.iload_n 3, 1) := by decide +kernel
theorem dX8_losesStuck_13 : decode cX8_losesStuck 13 = .ok (.aload_n 0, 1) := by decide +kernel
theorem dX8_losesStuck_14 : decode cX8_losesStuck 14 = .ok (.getfield 131, 3) := by decide +kernel
theorem dX8_losesStuck_17 : decode cX8_losesStuck 17 = .ok (.if_icmp .ge 40, 3) := by decide +kernel
theorem dX8_losesStuck_20 : decode cX8_losesStuck 20 = .ok (.aload_n 0, 1) := by decide +kernel
theorem dX8_losesStuck_21 : decode cX8_losesStuck 21 = .ok (.getfield 37, 3) := by decide +kernel
theorem dX8_losesStuck_24 : decode cX8_losesStuck 24 = .ok (.iload_n 3, 1) := by decide +kernel
theorem dX8_losesStuck_25 : decode cX8_losesStuck 25 = .ok (.iaload, 1) := by decide +kernel
theorem dX8_losesStuck_26 : decode cX8_losesStuck 26 = .ok (.bipush (-9), 2) := by decide +kernel
theorem dX8_losesStuck_28 : decode cX8_losesStuck 28 = .ok (.if_icmp .ne 23, 3) := by decide +kernel
theorem dX8_losesStuck_31 : decode cX8_losesStuck 31 = .ok (.aload_n 0, 1) := by decide +kernel
theorem dX8_losesStuck_32 : decode cX8_losesStuck 32 = .ok (.getfield 46, 3) := by decide +kernel
theorem dX8_losesStuck_35 : decode cX8_losesStuck 35 = .ok (.iload_n 3, 1) := by decide +kernel
theorem dX8_losesStuck_36 : decode cX8_losesStuck 36 = .ok (.baload, 1) := by decide +kernel
theorem dX8_losesStuck_37 : decode cX8_losesStuck 37 = .ok (.ifCond .ne 14, 3) := by decide +kernel
theorem dX8_losesStuck_40 : decode cX8_losesStuck 40 = .ok (.aload_n 0, 1) := by decide +kernel
theorem dX8_losesStuck_41 : decode cX8_losesStuck 41 = .ok (.iload_n 3, 1) := by decide +kernel
theorem dX8_losesStuck_42 : decode cX8_losesStuck 42 = .ok (.iload_n 1, 1) := by decide +kernel
theorem dX8_losesStuck_43 : decode cX8_losesStuck 43 = .ok (.iconst 3, 1) := by decide +kernel
theorem dX8_losesStuck_44 : decode cX8_losesStuck 44 = .ok (.bipush (-9), 2) := by decide +kernel
theorem dX8_losesStuck_46 : decode cX8_losesStuck 46 = .ok (.invokevirtual 145, 3) := by decide +kernel
theorem dX8_losesStuck_49 : decode cX8_losesStuck 49 = .ok (.iconst 1, 1) := by decide +kernel
theorem dX8_losesStuck_50 : decode cX8_losesStuck 50 = .ok (.istore_n 2, 1) := by decide +kernel
theorem dX8_losesStuck_51 : decode cX8_losesStuck 51 = .ok (.iinc 3 1, 3) := by decide +kernel
theorem dX8_losesStuck_54 : decode cX8_losesStuck 54 = .ok (.goto (-42), 3) := by decide +kernel
theorem dX8_losesStuck_57 : decode cX8_losesStuck 57 = .ok (.iload_n 2, 1) := by decide +kernel
theorem dX8_losesStuck_58 : decode cX8_losesStuck 58 = .ok (.ireturn, 1) := by decide +kernel
theorem dX8_findControlled_0 : decode cX8_findControlled 0 = .ok (.iconst 0, 1) := by decide +kernel
theorem dX8_findControlled_1 : decode cX8_findControlled 1 = .ok (.istore_n 1, 1) := by decide +kernel
theorem dX8_findControlled_2 : decode cX8_findControlled 2 = .ok (.iload_n 1, 1) := by decide +kernel
theorem dX8_findControlled_3 : decode cX8_findControlled 3 = .ok (.aload_n 0, 1) := by decide +kernel
theorem dX8_findControlled_4 : decode cX8_findControlled 4 = .ok (.getfield 131, 3) := by decide +kernel
theorem dX8_findControlled_7 : decode cX8_findControlled 7 = .ok (.if_icmp .ge 35, 3) := by decide +kernel
theorem dX8_findControlled_10 : decode cX8_findControlled 10 = .ok (.aload_n 0, 1) := by decide +kernel
theorem dX8_findControlled_11 : decode cX8_findControlled 11 = .ok (.getfield 50, 3) := by decide +kernel
theorem dX8_findControlled_14 : decode cX8_findControlled 14 = .ok (.iload_n 1, 1) := by decide +kernel
theorem dX8_findControlled_15 : decode cX8_findControlled 15 = .ok (.iload_n 1, 1) := by decide +kernel
theorem dX8_findControlled_16 : decode cX8_findControlled 16 = .ok (.ifCond .ne 18, 3) := by decide +kernel
theorem dX8_findControlled_19 : decode cX8_findControlled 19 = .ok (.aload_n 0, 1) := by decide +kernel
theorem dX8_findControlled_20 : decode cX8_findControlled 20 = .ok (.getfield 37, 3) := by decide +kernel
theorem dX8_findControlled_23 : decode cX8_findControlled 23 = .ok (.iconst 0, 1) := by decide +kernel
theorem dX8_findControlled_24 : decode cX8_findControlled 24 = .ok (.iaload, 1) := by decide +kernel
theorem dX8_findControlled_25 : decode cX8_findControlled 25 = .ok (.bipush (-9), 2) := by decide +kernel
theorem dX8_findControlled_27 : decode cX8_findControlled 27 = .ok (.if_icmp .ne 7, 3) := by decide +kernel
theorem dX8_findControlled_30 : decode cX8_findControlled 30 = .ok (.iconst 1, 1) := by decide +kernel
theorem dX8_findControlled_31 : decode cX8_findControlled 31 = .ok (.goto 4, 3) := by decide +kernel
theorem dX8_findControlled_34 : decode cX8_findControlled 34 = .ok (.iconst 0, 1) := by decide +kernel
theorem dX8_findControlled_35 : decode cX8_findControlled 35 = .ok (.bastore, 1) := by decide +kernel
theorem dX8_findControlled_36 : decode cX8_findControlled 36 = .ok (.iinc 1 1, 3) := by decide +kernel
theorem dX8_findControlled_39 : decode cX8_findControlled 39 = .ok (.goto (-37), 3) := by decide +kernel
theorem dX8_findControlled_42 : decode cX8_findControlled 42 = .ok (.iconst 1, 1) := by decide +kernel
theorem dX8_findControlled_43 : decode cX8_findControlled 43 = .ok (.istore_n 1, 1) := by decide +kernel
theorem dX8_findControlled_44 : decode cX8_findControlled 44 = .ok (.iload_n 1, 1) := by decide +kernel
theorem dX8_findControlled_45 : decode cX8_findControlled 45 = .ok (.ifCond .eq 81, 3) := by decide +kernel
theorem dX8_findControlled_48 : decode cX8_findControlled 48 = .ok (.iconst 0, 1) := by decide +kernel
theorem dX8_findControlled_49 : decode cX8_findControlled 49 = .ok (.istore_n 1, 1) := by decide +kernel
theorem dX8_findControlled_50 : decode cX8_findControlled 50 = .ok (.iconst 0, 1) := by decide +kernel
theorem dX8_findControlled_51 : decode cX8_findControlled 51 = .ok (.istore_n 2, 1) := by decide +kernel
theorem dX8_findControlled_52 : decode cX8_findControlled 52 = .ok (.iload_n 2, 1) := by decide +kernel
theorem dX8_findControlled_53 : decode cX8_findControlled 53 = .ok (.bipush 8, 2) := by decide +kernel
theorem dX8_findControlled_55 : decode cX8_findControlled 55 = .ok (.aload_n 0, 1) := by decide +kernel
theorem dX8_findControlled_56 : decode cX8_findControlled 56 = .ok (.getfield 131, 3) := by decide +kernel
theorem dX8_findControlled_59 : decode cX8_findControlled 59 = .ok (.imul, 1) := by decide +kernel
theorem dX8_findControlled_60 : decode cX8_findControlled 60 = .ok (.if_icmp .ge 63, 3) := by decide +kernel
theorem dX8_findControlled_63 : decode cX8_findControlled 63 = .ok (.aload_n 0, 1) := by decide +kernel
theorem dX8_findControlled_64 : decode cX8_findControlled 64 = .ok (.getfield 34, 3) := by decide +kernel
theorem dX8_findControlled_67 : decode cX8_findControlled 67 = .ok (.iload_n 2, 1) := by decide +kernel
theorem dX8_findControlled_68 : decode cX8_findControlled 68 = .ok (.iaload, 1) := by decide +kernel
theorem dX8_findControlled_69 : decode cX8_findControlled 69 = .ok (.istore_n 3, 1) := by decide +kernel
theorem dX8_findControlled_70 : decode cX8_findControlled 70 = .ok (.aload_n 0, 1) := by decide +kernel
theorem dX8_findControlled_71 : decode cX8_findControlled 71 = .ok (.getfield 50, 3) := by decide +kernel
theorem dX8_findControlled_74 : decode cX8_findControlled 74 = .ok (.iload_n 2, 1) := by decide +kernel
theorem dX8_findControlled_75 : decode cX8_findControlled 75 = .ok (.bipush 8, 2) := by decide +kernel
theorem dX8_findControlled_77 : decode cX8_findControlled 77 = .ok (.idiv, 1) := by decide +kernel
theorem dX8_findControlled_78 : decode cX8_findControlled 78 = .ok (.baload, 1) := by decide +kernel
theorem dX8_findControlled_79 : decode cX8_findControlled 79 = .ok (.ifCond .eq 38, 3) := by decide +kernel
theorem dX8_findControlled_82 : decode cX8_findControlled 82 = .ok (.iload_n 3, 1) := by decide +kernel
theorem dX8_findControlled_83 : decode cX8_findControlled 83 = .ok (.bipush (-9), 2) := by decide +kernel
theorem dX8_findControlled_85 : decode cX8_findControlled 85 = .ok (.if_icmp .eq 32, 3) := by decide +kernel
theorem dX8_findControlled_88 : decode cX8_findControlled 88 = .ok (.aload_n 0, 1) := by decide +kernel
theorem dX8_findControlled_89 : decode cX8_findControlled 89 = .ok (.getfield 37, 3) := by decide +kernel
theorem dX8_findControlled_92 : decode cX8_findControlled 92 = .ok (.iload_n 3, 1) := by decide +kernel
theorem dX8_findControlled_93 : decode cX8_findControlled 93 = .ok (.iaload, 1) := by decide +kernel
theorem dX8_findControlled_94 : decode cX8_findControlled 94 = .ok (.bipush (-9), 2) := by decide +kernel
theorem dX8_findControlled_96 : decode cX8_findControlled 96 = .ok (.if_icmp .ne 21, 3) := by decide +kernel
theorem dX8_findControlled_99 : decode cX8_findControlled 99 = .ok (.aload_n 0, 1) := by decide +kernel
theorem dX8_findControlled_100 : decode cX8_findControlled 100 = .ok (.getfield 50, 3) := by decide +kernel
theorem dX8_findControlled_103 : decode cX8_findControlled 103 = .ok (.iload_n 3, 1) := by decide +kernel
theorem dX8_findControlled_104 : decode cX8_findControlled 104 = .ok (.baload, 1) := by decide +kernel
theorem dX8_findControlled_105 : decode cX8_findControlled 105 = .ok (.ifCond .ne 12, 3) := by decide +kernel
theorem dX8_findControlled_108 : decode cX8_findControlled 108 = .ok (.aload_n 0, 1) := by decide +kernel
theorem dX8_findControlled_109 : decode cX8_findControlled 109 = .ok (.getfield 50, 3) := by decide +kernel
theorem dX8_findControlled_112 : decode cX8_findControlled 112 = .ok (.iload_n 3, 1) := by decide +kernel
theorem dX8_findControlled_113 : decode cX8_findControlled 113 = .ok (.iconst 1, 1) := by decide +kernel
theorem dX8_findControlled_114 : decode cX8_findControlled 114 = .ok (.bastore, 1) := by decide +kernel
theorem dX8_findControlled_115 : decode cX8_findControlled 115 = .ok (.iconst 1, 1) := by decide +kernel
theorem dX8_findControlled_116 : decode cX8_findControlled 116 = .ok (.istore_n 1, 1) := by decide +kernel
theorem dX8_findControlled_117 : decode cX8_findControlled 117 = .ok (.iinc 2 1, 3) := by decide +kernel
theorem dX8_findControlled_120 : decode cX8_findControlled 120 = .ok (.goto (-68), 3) := by decide +kernel
theorem dX8_findControlled_123 : decode cX8_findControlled 123 = .ok (.goto (-79), 3) := by decide +kernel
theorem dX8_findControlled_126 : decode cX8_findControlled 126 = .ok (.return_, 1) := by decide +kernel
theorem dX8_knows_0 : decode cX8_knows 0 = .ok (.aload_n 0, 1) := by decide +kernel
theorem dX8_knows_1 : decode cX8_knows 1 = .ok (.getfield 105, 3) := by decide +kernel
theorem dX8_knows_4 : decode cX8_knows 4 = .ok (.ifCond .eq 4, 3) := by decide +kernel
theorem dX8_knows_7 : decode cX8_knows 7 = .ok (.return_, 1) := by decide +kernel
theorem dX8_knows_8 : decode cX8_knows 8 = .ok (.aload_n 0, 1) := by decide +kernel
theorem dX8_knows_9 : decode cX8_knows 9 = .ok (.iconst 1, 1) := by decide +kernel
theorem dX8_knows_10 : decode cX8_knows 10 = .ok (.putfield 105, 3) := by decide +kernel
theorem dX8_knows_13 : decode cX8_knows 13 = .ok (.aload_n 0, 1) := by decide +kernel
theorem dX8_knows_14 : decode cX8_knows 14 = .ok (.iconst 0, 1) := by decide +kernel
theorem dX8_knows_15 : decode cX8_knows 15 = .ok (.putfield 162, 3) := by decide +kernel
theorem dX8_knows_18 : decode cX8_knows 18 = .ok (.aload_n 0, 1) := by decide +kernel
theorem dX8_knows_19 : decode cX8_knows 19 = .ok (.aload_n 0, 1) := by decide +kernel
theorem dX8_knows_20 : decode cX8_knows 20 = .ok (.invokevirtual 155, 3) := by decide +kernel
theorem dX8_knows_23 : decode cX8_knows 23 = .ok (.invokevirtual 165, 3) := by decide +kernel
theorem dX8_knows_26 : decode cX8_knows 26 = .ok (.ifCond .ne 4, 3) := by decide +kernel
theorem dX8_knows_29 : decode cX8_knows 29 = .ok (.return_, 1) := by decide +kernel
theorem dX8_knows_30 : decode cX8_knows 30 = .ok (.aload_n 0, 1) := by decide +kernel
theorem dX8_knows_31 : decode cX8_knows 31 = .ok (.invokevirtual 168, 3) := by decide +kernel
theorem dX8_knows_34 : decode cX8_knows 34 = .ok (.aload_n 0, 1) := by decide +kernel
theorem dX8_knows_35 : decode cX8_knows 35 = .ok (.iconst 1, 1) := by decide +kernel
theorem dX8_knows_36 : decode cX8_knows 36 = .ok (.putfield 162, 3) := by decide +kernel
theorem dX8_knows_39 : decode cX8_knows 39 = .ok (.aload_n 0, 1) := by decide +kernel
theorem dX8_knows_40 : decode cX8_knows 40 = .ok (.aload_n 0, 1) := by decide +kernel
theorem dX8_knows_41 : decode cX8_knows 41 = .ok (.getfield 162, 3) := by decide +kernel
theorem dX8_knows_44 : decode cX8_knows 44 = .ok (.invokevirtual 171, 3) := by decide +kernel
theorem dX8_knows_47 : decode cX8_knows 47 = .ok (.ifCond .ne 14, 3) := by decide +kernel
theorem dX8_knows_50 : decode cX8_knows 50 = .ok (.aload_n 0, 1) := by decide +kernel
theorem dX8_knows_51 : decode cX8_knows 51 = .ok (.aload_n 0, 1) := by decide +kernel
theorem dX8_knows_52 : decode cX8_knows 52 = .ok (.getfield 162, 3) := by decide +kernel
theorem dX8_knows_55 : decode cX8_knows 55 = .ok (.invokevirtual 174, 3) := by decide +kernel
theorem dX8_knows_58 : decode cX8_knows 58 = .ok (.ifCond .eq 16, 3) := by decide +kernel
theorem dX8_knows_61 : decode cX8_knows 61 = .ok (.aload_n 0, 1) := by decide +kernel
theorem dX8_knows_62 : decode cX8_knows 62 = .ok (.dup, 1) := by decide +kernel
theorem dX8_knows_63 : decode cX8_knows 63 = .ok (.getfield 162, 3) := by decide +kernel
theorem dX8_knows_66 : decode cX8_knows 66 = .ok (.iconst 1, 1) := by decide +kernel
theorem dX8_knows_67 : decode cX8_knows 67 = .ok (.iadd, 1) := by decide +kernel
theorem dX8_knows_68 : decode cX8_knows 68 = .ok (.putfield 162, 3) := by decide +kernel
theorem dX8_knows_71 : decode cX8_knows 71 = .ok (.goto (-32), 3) := by decide +kernel
theorem dX8_knows_74 : decode cX8_knows 74 = .ok (.aload_n 0, 1) := by decide +kernel
theorem dX8_knows_75 : decode cX8_knows 75 = .ok (.invokevirtual 177, 3) := by decide +kernel
theorem dX8_knows_78 : decode cX8_knows 78 = .ok (.return_, 1) := by decide +kernel
theorem dX8_isJoint_0 : decode cX8_isJoint 0 = .ok (.aload_n 0, 1) := by decide +kernel
theorem dX8_isJoint_1 : decode cX8_isJoint 1 = .ok (.invokevirtual 180, 3) := by decide +kernel
theorem dX8_isJoint_4 : decode cX8_isJoint 4 = .ok (.iload_n 1, 1) := by decide +kernel
theorem dX8_isJoint_5 : decode cX8_isJoint 5 = .ok (.iconst 0, 1) := by decide +kernel
theorem dX8_isJoint_6 : decode cX8_isJoint 6 = .ok (.aload_n 0, 1) := by decide +kernel
theorem dX8_isJoint_7 : decode cX8_isJoint 7 = .ok (.getfield 131, 3) := by decide +kernel
theorem dX8_isJoint_10 : decode cX8_isJoint 10 = .ok (.iconst 1, 1) := by decide +kernel
theorem dX8_isJoint_11 : decode cX8_isJoint 11 = .ok (.isub, 1) := by decide +kernel
theorem dX8_isJoint_12 : decode cX8_isJoint 12 = .ok (.invokestatic 59, 3) := by decide +kernel
theorem dX8_isJoint_15 : decode cX8_isJoint 15 = .ok (.ireturn, 1) := by decide +kernel
theorem dX8_stateOf_0 : decode cX8_stateOf 0 = .ok (.aload_n 0, 1) := by decide +kernel
theorem dX8_stateOf_1 : decode cX8_stateOf 1 = .ok (.iload_n 1, 1) := by decide +kernel
theorem dX8_stateOf_2 : decode cX8_stateOf 2 = .ok (.invokevirtual 183, 3) := by decide +kernel
theorem dX8_stateOf_5 : decode cX8_stateOf 5 = .ok (.ifCond .eq 24, 3) := by decide +kernel
theorem dX8_stateOf_8 : decode cX8_stateOf 8 = .ok (.aload_n 0, 1) := by decide +kernel
theorem dX8_stateOf_9 : decode cX8_stateOf 9 = .ok (.iload_n 2, 1) := by decide +kernel
theorem dX8_stateOf_10 : decode cX8_stateOf 10 = .ok (.invokevirtual 125, 3) := by decide +kernel
theorem dX8_stateOf_13 : decode cX8_stateOf 13 = .ok (.ifCond .eq 16, 3) := by decide +kernel
theorem dX8_stateOf_16 : decode cX8_stateOf 16 = .ok (.aload_n 0, 1) := by decide +kernel
theorem dX8_stateOf_17 : decode cX8_stateOf 17 = .ok (.getfield 31, 3) := by decide +kernel
theorem dX8_stateOf_20 : decode cX8_stateOf 20 = .ok (.iload_n 1, 1) := by decide +kernel
theorem dX8_stateOf_21 : decode cX8_stateOf 21 = .ok (.iaload, 1) := by decide +kernel
theorem dX8_stateOf_22 : decode cX8_stateOf 22 = .ok (.iload_n 2, 1) := by decide +kernel
theorem dX8_stateOf_23 : decode cX8_stateOf 23 = .ok (.invokestatic 128, 3) := by decide +kernel
theorem dX8_stateOf_26 : decode cX8_stateOf 26 = .ok (.goto 4, 3) := by decide +kernel
theorem dX8_stateOf_29 : decode cX8_stateOf 29 = .ok (.iconst (-1), 1) := by decide +kernel
theorem dX8_stateOf_30 : decode cX8_stateOf 30 = .ok (.ireturn, 1) := by decide +kernel
theorem dX8_leads_0 : decode cX8_leads 0 = .ok (.aload_n 0, 1) := by decide +kernel
theorem dX8_leads_1 : decode cX8_leads 1 = .ok (.iload_n 1, 1) := by decide +kernel
theorem dX8_leads_2 : decode cX8_leads 2 = .ok (.invokevirtual 183, 3) := by decide +kernel
theorem dX8_leads_5 : decode cX8_leads 5 = .ok (.ifCond .eq 24, 3) := by decide +kernel
theorem dX8_leads_8 : decode cX8_leads 8 = .ok (.iload_n 2, 1) := by decide +kernel
theorem dX8_leads_9 : decode cX8_leads 9 = .ok (.invokestatic 115, 3) := by decide +kernel
theorem dX8_leads_12 : decode cX8_leads 12 = .ok (.ifCond .eq 17, 3) := by decide +kernel
theorem dX8_leads_15 : decode cX8_leads 15 = .ok (.aload_n 0, 1) := by decide +kernel
theorem dX8_leads_16 : decode cX8_leads 16 = .ok (.getfield 34, 3) := by decide +kernel
theorem dX8_leads_19 : decode cX8_leads 19 = .ok (.bipush 8, 2) := by decide +kernel
theorem dX8_leads_21 : decode cX8_leads 21 = .ok (.iload_n 1, 1) := by decide +kernel
theorem dX8_leads_22 : decode cX8_leads 22 = .ok (.imul, 1) := by decide +kernel
theorem dX8_leads_23 : decode cX8_leads 23 = .ok (.iload_n 2, 1) := by decide +kernel
theorem dX8_leads_24 : decode cX8_leads 24 = .ok (.iadd, 1) := by decide +kernel
theorem dX8_leads_25 : decode cX8_leads 25 = .ok (.iaload, 1) := by decide +kernel
theorem dX8_leads_26 : decode cX8_leads 26 = .ok (.goto 4, 3) := by decide +kernel
theorem dX8_leads_29 : decode cX8_leads 29 = .ok (.iconst (-1), 1) := by decide +kernel
theorem dX8_leads_30 : decode cX8_leads 30 = .ok (.ireturn, 1) := by decide +kernel
theorem dX8_isBarred_0 : decode cX8_isBarred 0 = .ok (.aload_n 0, 1) := by decide +kernel
theorem dX8_isBarred_1 : decode cX8_isBarred 1 = .ok (.getfield 34, 3) := by decide +kernel
theorem dX8_isBarred_4 : decode cX8_isBarred 4 = .ok (.bipush 8, 2) := by decide +kernel
theorem dX8_isBarred_6 : decode cX8_isBarred 6 = .ok (.iload_n 1, 1) := by decide +kernel
theorem dX8_isBarred_7 : decode cX8_isBarred 7 = .ok (.imul, 1) := by decide +kernel
theorem dX8_isBarred_8 : decode cX8_isBarred 8 = .ok (.iload_n 2, 1) := by decide +kernel
theorem dX8_isBarred_9 : decode cX8_isBarred 9 = .ok (.iadd, 1) := by decide +kernel
theorem dX8_isBarred_10 : decode cX8_isBarred 10 = .ok (.iaload, 1) := by decide +kernel
theorem dX8_isBarred_11 : decode cX8_isBarred 11 = .ok (.istore_n 3, 1) := by decide +kernel
theorem dX8_isBarred_12 : decode cX8_isBarred 12 = .ok (.iload_n 3, 1) := by decide +kernel
theorem dX8_isBarred_13 : decode cX8_isBarred 13 = .ok (.bipush (-9), 2) := by decide +kernel
theorem dX8_isBarred_15 : decode cX8_isBarred 15 = .ok (.if_icmp .eq 18, 3) := by decide +kernel
theorem dX8_isBarred_18 : decode cX8_isBarred 18 = .ok (.aload_n 0, 1) := by decide +kernel
theorem dX8_isBarred_19 : decode cX8_isBarred 19 = .ok (.getfield 37, 3) := by decide +kernel
theorem dX8_isBarred_22 : decode cX8_isBarred 22 = .ok (.iload_n 3, 1) := by decide +kernel
theorem dX8_isBarred_23 : decode cX8_isBarred 23 = .ok (.iaload, 1) := by decide +kernel
theorem dX8_isBarred_24 : decode cX8_isBarred 24 = .ok (.bipush (-9), 2) := by decide +kernel
theorem dX8_isBarred_26 : decode cX8_isBarred 26 = .ok (.if_icmp .eq 7, 3) := by decide +kernel
theorem dX8_isBarred_29 : decode cX8_isBarred 29 = .ok (.iconst 1, 1) := by decide +kernel
theorem dX8_isBarred_30 : decode cX8_isBarred 30 = .ok (.goto 4, 3) := by decide +kernel
theorem dX8_isBarred_33 : decode cX8_isBarred 33 = .ok (.iconst 0, 1) := by decide +kernel
theorem dX8_isBarred_34 : decode cX8_isBarred 34 = .ok (.ireturn, 1) := by decide +kernel
theorem dX8_eventsAt_0 : decode cX8_eventsAt 0 = .ok (.iconst 0, 1) := by decide +kernel
theorem dX8_eventsAt_1 : decode cX8_eventsAt 1 = .ok (.istore_n 3, 1) := by decide +kernel
theorem dX8_eventsAt_2 : decode cX8_eventsAt 2 = .ok (.iconst 0, 1) := by decide +kernel
theorem dX8_eventsAt_3 : decode cX8_eventsAt 3 = .ok (.istore 4, 2) := by decide +kernel
theorem dX8_eventsAt_5 : decode cX8_eventsAt 5 = .ok (.iload 4, 2) := by decide +kernel
theorem dX8_eventsAt_7 : decode cX8_eventsAt 7 = .ok (.bipush 8, 2) := by decide +kernel
theorem dX8_eventsAt_9 : decode cX8_eventsAt 9 = .ok (.if_icmp .ge 79, 3) := by decide +kernel
theorem dX8_eventsAt_12 : decode cX8_eventsAt 12 = .ok (.iload_n 2, 1) := by decide +kernel
theorem dX8_eventsAt_13 : decode cX8_eventsAt 13 = .ok (.iconst 1, 1) := by decide +kernel
theorem dX8_eventsAt_14 : decode cX8_eventsAt 14 = .ok (.if_icmp .ne 28, 3) := by decide +kernel
theorem dX8_eventsAt_17 : decode cX8_eventsAt 17 = .ok (.aload_n 0, 1) := by decide +kernel
theorem dX8_eventsAt_18 : decode cX8_eventsAt 18 = .ok (.getfield 34, 3) := by decide +kernel
theorem dX8_eventsAt_21 : decode cX8_eventsAt 21 = .ok (.bipush 8, 2) := by decide +kernel
theorem dX8_eventsAt_23 : decode cX8_eventsAt 23 = .ok (.iload_n 1, 1) := by decide +kernel
theorem dX8_eventsAt_24 : decode cX8_eventsAt 24 = .ok (.imul, 1) := by decide +kernel
theorem dX8_eventsAt_25 : decode cX8_eventsAt 25 = .ok (.iload 4, 2) := by decide +kernel
theorem dX8_eventsAt_27 : decode cX8_eventsAt 27 = .ok (.iadd, 1) := by decide +kernel
theorem dX8_eventsAt_28 : decode cX8_eventsAt 28 = .ok (.iaload, 1) := by decide +kernel
theorem dX8_eventsAt_29 : decode cX8_eventsAt 29 = .ok (.bipush (-9), 2) := by decide +kernel
theorem dX8_eventsAt_31 : decode cX8_eventsAt 31 = .ok (.if_icmp .eq 7, 3) := by decide +kernel
theorem dX8_eventsAt_34 : decode cX8_eventsAt 34 = .ok (.iconst 1, 1) := by decide +kernel
theorem dX8_eventsAt_35 : decode cX8_eventsAt 35 = .ok (.goto 29, 3) := by decide +kernel
theorem dX8_eventsAt_38 : decode cX8_eventsAt 38 = .ok (.iconst 0, 1) := by decide +kernel
theorem dX8_eventsAt_39 : decode cX8_eventsAt 39 = .ok (.goto 25, 3) := by decide +kernel
theorem dX8_eventsAt_42 : decode cX8_eventsAt 42 = .ok (.iload_n 2, 1) := by decide +kernel
theorem dX8_eventsAt_43 : decode cX8_eventsAt 43 = .ok (.iconst 2, 1) := by decide +kernel
theorem dX8_eventsAt_44 : decode cX8_eventsAt 44 = .ok (.if_icmp .ne 13, 3) := by decide +kernel
theorem dX8_eventsAt_47 : decode cX8_eventsAt 47 = .ok (.aload_n 0, 1) := by decide +kernel
theorem dX8_eventsAt_48 : decode cX8_eventsAt 48 = .ok (.iload_n 1, 1) := by decide +kernel
theorem dX8_eventsAt_49 : decode cX8_eventsAt 49 = .ok (.iload 4, 2) := by decide +kernel
theorem dX8_eventsAt_51 : decode cX8_eventsAt 51 = .ok (.invokevirtual 141, 3) := by decide +kernel
theorem dX8_eventsAt_54 : decode cX8_eventsAt 54 = .ok (.goto 10, 3) := by decide +kernel
theorem dX8_eventsAt_57 : decode cX8_eventsAt 57 = .ok (.aload_n 0, 1) := by decide +kernel
theorem dX8_eventsAt_58 : decode cX8_eventsAt 58 = .ok (.iload_n 1, 1) := by decide +kernel
theorem dX8_eventsAt_59 : decode cX8_eventsAt 59 = .ok (.iload 4, 2) := by decide +kernel
theorem dX8_eventsAt_61 : decode cX8_eventsAt 61 = .ok (.invokevirtual 186, 3) := by decide +kernel
theorem dX8_eventsAt_64 : decode cX8_eventsAt 64 = .ok (.istore 5, 2) := by decide +kernel
theorem dX8_eventsAt_66 : decode cX8_eventsAt 66 = .ok (.iload_n 3, 1) := by decide +kernel
theorem dX8_eventsAt_67 : decode cX8_eventsAt 67 = .ok (.iload 5, 2) := by decide +kernel
theorem dX8_eventsAt_69 : decode cX8_eventsAt 69 = .ok (.ifCond .eq 10, 3) := by decide +kernel
theorem dX8_eventsAt_72 : decode cX8_eventsAt 72 = .ok (.iconst 1, 1) := by decide +kernel
theorem dX8_eventsAt_73 : decode cX8_eventsAt 73 = .ok (.iload 4, 2) := by decide +kernel
theorem dX8_eventsAt_75 : decode cX8_eventsAt 75 = .ok (.ishl, 1) := by decide +kernel
theorem dX8_eventsAt_76 : decode cX8_eventsAt 76 = .ok (.goto 4, 3) := by decide +kernel
theorem dX8_eventsAt_79 : decode cX8_eventsAt 79 = .ok (.iconst 0, 1) := by decide +kernel
theorem dX8_eventsAt_80 : decode cX8_eventsAt 80 = .ok (.ior, 1) := by decide +kernel
theorem dX8_eventsAt_81 : decode cX8_eventsAt 81 = .ok (.istore_n 3, 1) := by decide +kernel
theorem dX8_eventsAt_82 : decode cX8_eventsAt 82 = .ok (.iinc 4 1, 3) := by decide +kernel
theorem dX8_eventsAt_85 : decode cX8_eventsAt 85 = .ok (.goto (-80), 3) := by decide +kernel
theorem dX8_eventsAt_88 : decode cX8_eventsAt 88 = .ok (.iload_n 3, 1) := by decide +kernel
theorem dX8_eventsAt_89 : decode cX8_eventsAt 89 = .ok (.ireturn, 1) := by decide +kernel
theorem dX8_joint_0 : decode cX8_joint 0 = .ok (.aload_n 0, 1) := by decide +kernel
theorem dX8_joint_1 : decode cX8_joint 1 = .ok (.iload_n 1, 1) := by decide +kernel
theorem dX8_joint_2 : decode cX8_joint 2 = .ok (.invokevirtual 183, 3) := by decide +kernel
theorem dX8_joint_5 : decode cX8_joint 5 = .ok (.ifCond .ne 5, 3) := by decide +kernel
theorem dX8_joint_8 : decode cX8_joint 8 = .ok (.iconst (-1), 1) := by decide +kernel
theorem dX8_joint_9 : decode cX8_joint 9 = .ok (.ireturn, 1) := by decide +kernel
theorem dX8_joint_10 : decode cX8_joint 10 = .ok (.iload_n 2, 1) := by decide +kernel
theorem dX8_joint_11 : decode cX8_joint 11 = .ok (.tableswitch 127 0 6 #[41, 59, 59, 66, 83, 98, 105], 41) := by decide +kernel
theorem dX8_joint_52 : decode cX8_joint 52 = .ok (.aload_n 0, 1) := by decide +kernel
theorem dX8_joint_53 : decode cX8_joint 53 = .ok (.iload_n 1, 1) := by decide +kernel
theorem dX8_joint_54 : decode cX8_joint 54 = .ok (.aload_n 0, 1) := by decide +kernel
theorem dX8_joint_55 : decode cX8_joint 55 = .ok (.invokevirtual 155, 3) := by decide +kernel
theorem dX8_joint_58 : decode cX8_joint 58 = .ok (.invokevirtual 152, 3) := by decide +kernel
theorem dX8_joint_61 : decode cX8_joint 61 = .ok (.ifCond .eq 7, 3) := by decide +kernel
theorem dX8_joint_64 : decode cX8_joint 64 = .ok (.iconst 1, 1) := by decide +kernel
theorem dX8_joint_65 : decode cX8_joint 65 = .ok (.goto 4, 3) := by decide +kernel
theorem dX8_joint_68 : decode cX8_joint 68 = .ok (.iconst 0, 1) := by decide +kernel
theorem dX8_joint_69 : decode cX8_joint 69 = .ok (.ireturn, 1) := by decide +kernel
theorem dX8_joint_70 : decode cX8_joint 70 = .ok (.aload_n 0, 1) := by decide +kernel
theorem dX8_joint_71 : decode cX8_joint 71 = .ok (.iload_n 1, 1) := by decide +kernel
theorem dX8_joint_72 : decode cX8_joint 72 = .ok (.iload_n 2, 1) := by decide +kernel
theorem dX8_joint_73 : decode cX8_joint 73 = .ok (.invokevirtual 189, 3) := by decide +kernel
theorem dX8_joint_76 : decode cX8_joint 76 = .ok (.ireturn, 1) := by decide +kernel
theorem dX8_joint_77 : decode cX8_joint 77 = .ok (.aload_n 0, 1) := by decide +kernel
theorem dX8_joint_78 : decode cX8_joint 78 = .ok (.getfield 37, 3) := by decide +kernel
theorem dX8_joint_81 : decode cX8_joint 81 = .ok (.iload_n 1, 1) := by decide +kernel
theorem dX8_joint_82 : decode cX8_joint 82 = .ok (.iaload, 1) := by decide +kernel
theorem dX8_joint_83 : decode cX8_joint 83 = .ok (.bipush (-9), 2) := by decide +kernel
theorem dX8_joint_85 : decode cX8_joint 85 = .ok (.if_icmp .ne 7, 3) := by decide +kernel
theorem dX8_joint_88 : decode cX8_joint 88 = .ok (.iconst 1, 1) := by decide +kernel
theorem dX8_joint_89 : decode cX8_joint 89 = .ok (.goto 4, 3) := by decide +kernel
theorem dX8_joint_92 : decode cX8_joint 92 = .ok (.iconst 0, 1) := by decide +kernel
theorem dX8_joint_93 : decode cX8_joint 93 = .ok (.ireturn, 1) := by decide +kernel
theorem dX8_joint_94 : decode cX8_joint 94 = .ok (.aload_n 0, 1) := by decide +kernel
theorem dX8_joint_95 : decode cX8_joint 95 = .ok (.getfield 50, 3) := by decide +kernel
theorem dX8_joint_98 : decode cX8_joint 98 = .ok (.iload_n 1, 1) := by decide +kernel
theorem dX8_joint_99 : decode cX8_joint 99 = .ok (.baload, 1) := by decide +kernel
theorem dX8_joint_100 : decode cX8_joint 100 = .ok (.ifCond .eq 7, 3) := by decide +kernel
theorem dX8_joint_103 : decode cX8_joint 103 = .ok (.iconst 1, 1) := by decide +kernel
theorem dX8_joint_104 : decode cX8_joint 104 = .ok (.goto 4, 3) := by decide +kernel
theorem dX8_joint_107 : decode cX8_joint 107 = .ok (.iconst 0, 1) := by decide +kernel
theorem dX8_joint_108 : decode cX8_joint 108 = .ok (.ireturn, 1) := by decide +kernel
theorem dX8_joint_109 : decode cX8_joint 109 = .ok (.aload_n 0, 1) := by decide +kernel
theorem dX8_joint_110 : decode cX8_joint 110 = .ok (.getfield 37, 3) := by decide +kernel
theorem dX8_joint_113 : decode cX8_joint 113 = .ok (.iload_n 1, 1) := by decide +kernel
theorem dX8_joint_114 : decode cX8_joint 114 = .ok (.iaload, 1) := by decide +kernel
theorem dX8_joint_115 : decode cX8_joint 115 = .ok (.ireturn, 1) := by decide +kernel
theorem dX8_joint_116 : decode cX8_joint 116 = .ok (.aload_n 0, 1) := by decide +kernel
theorem dX8_joint_117 : decode cX8_joint 117 = .ok (.getfield 50, 3) := by decide +kernel
theorem dX8_joint_120 : decode cX8_joint 120 = .ok (.iload_n 1, 1) := by decide +kernel
theorem dX8_joint_121 : decode cX8_joint 121 = .ok (.baload, 1) := by decide +kernel
theorem dX8_joint_122 : decode cX8_joint 122 = .ok (.ifCond .eq 13, 3) := by decide +kernel
theorem dX8_joint_125 : decode cX8_joint 125 = .ok (.aload_n 0, 1) := by decide +kernel
theorem dX8_joint_126 : decode cX8_joint 126 = .ok (.iload_n 1, 1) := by decide +kernel
theorem dX8_joint_127 : decode cX8_joint 127 = .ok (.bipush 6, 2) := by decide +kernel
theorem dX8_joint_129 : decode cX8_joint 129 = .ok (.invokevirtual 189, 3) := by decide +kernel
theorem dX8_joint_132 : decode cX8_joint 132 = .ok (.goto 5, 3) := by decide +kernel
theorem dX8_joint_135 : decode cX8_joint 135 = .ok (.bipush (-9), 2) := by decide +kernel
theorem dX8_joint_137 : decode cX8_joint 137 = .ok (.ireturn, 1) := by decide +kernel
theorem dX8_joint_138 : decode cX8_joint 138 = .ok (.bipush (-2), 2) := by decide +kernel
theorem dX8_joint_140 : decode cX8_joint 140 = .ok (.ireturn, 1) := by decide +kernel
theorem dX8_why_0 : decode cX8_why 0 = .ok (.aload_n 0, 1) := by decide +kernel
theorem dX8_why_1 : decode cX8_why 1 = .ok (.iload_n 1, 1) := by decide +kernel
theorem dX8_why_2 : decode cX8_why 2 = .ok (.invokevirtual 183, 3) := by decide +kernel
theorem dX8_why_5 : decode cX8_why 5 = .ok (.ifCond .ne 5, 3) := by decide +kernel
theorem dX8_why_8 : decode cX8_why 8 = .ok (.iconst (-1), 1) := by decide +kernel
theorem dX8_why_9 : decode cX8_why 9 = .ok (.ireturn, 1) := by decide +kernel
theorem dX8_why_10 : decode cX8_why 10 = .ok (.iload_n 2, 1) := by decide +kernel
theorem dX8_why_11 : decode cX8_why 11 = .ok (.iconst 0, 1) := by decide +kernel
theorem dX8_why_12 : decode cX8_why 12 = .ok (.sipush 149, 3) := by decide +kernel
theorem dX8_why_15 : decode cX8_why 15 = .ok (.invokestatic 59, 3) := by decide +kernel
theorem dX8_why_18 : decode cX8_why 18 = .ok (.ifCond .eq 12, 3) := by decide +kernel
theorem dX8_why_21 : decode cX8_why 21 = .ok (.iload_n 3, 1) := by decide +kernel
theorem dX8_why_22 : decode cX8_why 22 = .ok (.iconst 0, 1) := by decide +kernel
theorem dX8_why_23 : decode cX8_why 23 = .ok (.iconst 2, 1) := by decide +kernel
theorem dX8_why_24 : decode cX8_why 24 = .ok (.invokestatic 59, 3) := by decide +kernel
theorem dX8_why_27 : decode cX8_why 27 = .ok (.ifCond .ne 6, 3) := by decide +kernel
theorem dX8_why_30 : decode cX8_why 30 = .ok (.bipush (-2), 2) := by decide +kernel
theorem dX8_why_32 : decode cX8_why 32 = .ok (.ireturn, 1) := by decide +kernel
theorem dX8_why_33 : decode cX8_why 33 = .ok (.iload_n 1, 1) := by decide +kernel
theorem dX8_why_34 : decode cX8_why 34 = .ok (.istore 4, 2) := by decide +kernel
theorem dX8_why_36 : decode cX8_why 36 = .ok (.aload_n 0, 1) := by decide +kernel
theorem dX8_why_37 : decode cX8_why 37 = .ok (.getfield 37, 3) := by decide +kernel
theorem dX8_why_40 : decode cX8_why 40 = .ok (.iload 4, 2) := by decide +kernel
theorem dX8_why_42 : decode cX8_why 42 = .ok (.iaload, 1) := by decide +kernel
theorem dX8_why_43 : decode cX8_why 43 = .ok (.bipush (-9), 2) := by decide +kernel
theorem dX8_why_45 : decode cX8_why 45 = .ok (.if_icmp .ne 6, 3) := by decide +kernel
theorem dX8_why_48 : decode cX8_why 48 = .ok (.bipush (-9), 2) := by decide +kernel
theorem dX8_why_50 : decode cX8_why 50 = .ok (.ireturn, 1) := by decide +kernel
theorem dX8_why_51 : decode cX8_why 51 = .ok (.iconst 0, 1) := by decide +kernel
theorem dX8_why_52 : decode cX8_why 52 = .ok (.istore 5, 2) := by decide +kernel
theorem dX8_why_54 : decode cX8_why 54 = .ok (.iload 5, 2) := by decide +kernel
theorem dX8_why_56 : decode cX8_why 56 = .ok (.iload_n 2, 1) := by decide +kernel
theorem dX8_why_57 : decode cX8_why 57 = .ok (.if_icmp .ge 43, 3) := by decide +kernel
theorem dX8_why_60 : decode cX8_why 60 = .ok (.aload_n 0, 1) := by decide +kernel
theorem dX8_why_61 : decode cX8_why 61 = .ok (.getfield 40, 3) := by decide +kernel
theorem dX8_why_64 : decode cX8_why 64 = .ok (.iload 4, 2) := by decide +kernel
theorem dX8_why_66 : decode cX8_why 66 = .ok (.iaload, 1) := by decide +kernel
theorem dX8_why_67 : decode cX8_why 67 = .ok (.iconst 2, 1) := by decide +kernel
theorem dX8_why_68 : decode cX8_why 68 = .ok (.if_icmp .eq 6, 3) := by decide +kernel
theorem dX8_why_71 : decode cX8_why 71 = .ok (.bipush (-9), 2) := by decide +kernel
theorem dX8_why_73 : decode cX8_why 73 = .ok (.ireturn, 1) := by decide +kernel
theorem dX8_why_74 : decode cX8_why 74 = .ok (.aload_n 0, 1) := by decide +kernel
theorem dX8_why_75 : decode cX8_why 75 = .ok (.getfield 34, 3) := by decide +kernel
theorem dX8_why_78 : decode cX8_why 78 = .ok (.bipush 8, 2) := by decide +kernel
theorem dX8_why_80 : decode cX8_why 80 = .ok (.iload 4, 2) := by decide +kernel
theorem dX8_why_82 : decode cX8_why 82 = .ok (.imul, 1) := by decide +kernel
theorem dX8_why_83 : decode cX8_why 83 = .ok (.aload_n 0, 1) := by decide +kernel
theorem dX8_why_84 : decode cX8_why 84 = .ok (.getfield 43, 3) := by decide +kernel
theorem dX8_why_87 : decode cX8_why 87 = .ok (.iload 4, 2) := by decide +kernel
theorem dX8_why_89 : decode cX8_why 89 = .ok (.iaload, 1) := by decide +kernel
theorem dX8_why_90 : decode cX8_why 90 = .ok (.iadd, 1) := by decide +kernel
theorem dX8_why_91 : decode cX8_why 91 = .ok (.iaload, 1) := by decide +kernel
theorem dX8_why_92 : decode cX8_why 92 = .ok (.istore 4, 2) := by decide +kernel
theorem dX8_why_94 : decode cX8_why 94 = .ok (.iinc 5 1, 3) := by decide +kernel
theorem dX8_why_97 : decode cX8_why 97 = .ok (.goto (-43), 3) := by decide +kernel
theorem dX8_why_100 : decode cX8_why 100 = .ok (.iload_n 3, 1) := by decide +kernel
theorem dX8_why_101 : decode cX8_why 101 = .ok (.ifCond .ne 13, 3) := by decide +kernel
theorem dX8_why_104 : decode cX8_why 104 = .ok (.aload_n 0, 1) := by decide +kernel
theorem dX8_why_105 : decode cX8_why 105 = .ok (.getfield 40, 3) := by decide +kernel
theorem dX8_why_108 : decode cX8_why 108 = .ok (.iload 4, 2) := by decide +kernel
theorem dX8_why_110 : decode cX8_why 110 = .ok (.iaload, 1) := by decide +kernel
theorem dX8_why_111 : decode cX8_why 111 = .ok (.goto 20, 3) := by decide +kernel
theorem dX8_why_114 : decode cX8_why 114 = .ok (.iload_n 3, 1) := by decide +kernel
theorem dX8_why_115 : decode cX8_why 115 = .ok (.iconst 1, 1) := by decide +kernel
theorem dX8_why_116 : decode cX8_why 116 = .ok (.if_icmp .ne 13, 3) := by decide +kernel
theorem dX8_why_119 : decode cX8_why 119 = .ok (.aload_n 0, 1) := by decide +kernel
theorem dX8_why_120 : decode cX8_why 120 = .ok (.getfield 43, 3) := by decide +kernel
theorem dX8_why_123 : decode cX8_why 123 = .ok (.iload 4, 2) := by decide +kernel
theorem dX8_why_125 : decode cX8_why 125 = .ok (.iaload, 1) := by decide +kernel
theorem dX8_why_126 : decode cX8_why 126 = .ok (.goto 5, 3) := by decide +kernel
theorem dX8_why_129 : decode cX8_why 129 = .ok (.iload 4, 2) := by decide +kernel
theorem dX8_why_131 : decode cX8_why 131 = .ok (.ireturn, 1) := by decide +kernel
theorem dX8_wave_0 : decode cX8_wave 0 = .ok (.aload_n 0, 1) := by decide +kernel
theorem dX8_wave_1 : decode cX8_wave 1 = .ok (.invokevirtual 180, 3) := by decide +kernel
theorem dX8_wave_4 : decode cX8_wave 4 = .ok (.iload_n 1, 1) := by decide +kernel
theorem dX8_wave_5 : decode cX8_wave 5 = .ok (.iconst 0, 1) := by decide +kernel
theorem dX8_wave_6 : decode cX8_wave 6 = .ok (.aload_n 0, 1) := by decide +kernel
theorem dX8_wave_7 : decode cX8_wave 7 = .ok (.getfield 162, 3) := by decide +kernel
theorem dX8_wave_10 : decode cX8_wave 10 = .ok (.iconst 1, 1) := by decide +kernel
theorem dX8_wave_11 : decode cX8_wave 11 = .ok (.isub, 1) := by decide +kernel
theorem dX8_wave_12 : decode cX8_wave 12 = .ok (.invokestatic 59, 3) := by decide +kernel
theorem dX8_wave_15 : decode cX8_wave 15 = .ok (.ifCond .ne 5, 3) := by decide +kernel
theorem dX8_wave_18 : decode cX8_wave 18 = .ok (.iconst (-1), 1) := by decide +kernel
theorem dX8_wave_19 : decode cX8_wave 19 = .ok (.ireturn, 1) := by decide +kernel
theorem dX8_wave_20 : decode cX8_wave 20 = .ok (.iconst 0, 1) := by decide +kernel
theorem dX8_wave_21 : decode cX8_wave 21 = .ok (.istore_n 2, 1) := by decide +kernel
theorem dX8_wave_22 : decode cX8_wave 22 = .ok (.iconst 0, 1) := by decide +kernel
theorem dX8_wave_23 : decode cX8_wave 23 = .ok (.istore_n 3, 1) := by decide +kernel
theorem dX8_wave_24 : decode cX8_wave 24 = .ok (.iload_n 3, 1) := by decide +kernel
theorem dX8_wave_25 : decode cX8_wave 25 = .ok (.aload_n 0, 1) := by decide +kernel
theorem dX8_wave_26 : decode cX8_wave 26 = .ok (.getfield 131, 3) := by decide +kernel
theorem dX8_wave_29 : decode cX8_wave 29 = .ok (.if_icmp .ge 27, 3) := by decide +kernel
theorem dX8_wave_32 : decode cX8_wave 32 = .ok (.iload_n 2, 1) := by decide +kernel
theorem dX8_wave_33 : decode cX8_wave 33 = .ok (.aload_n 0, 1) := by decide +kernel
theorem dX8_wave_34 : decode cX8_wave 34 = .ok (.getfield 37, 3) := by decide +kernel
theorem dX8_wave_37 : decode cX8_wave 37 = .ok (.iload_n 3, 1) := by decide +kernel
theorem dX8_wave_38 : decode cX8_wave 38 = .ok (.iaload, 1) := by decide +kernel
theorem dX8_wave_39 : decode cX8_wave 39 = .ok (.iload_n 1, 1) := by decide +kernel
theorem dX8_wave_40 : decode cX8_wave 40 = .ok (.if_icmp .ne 7, 3) := by decide +kernel
theorem dX8_wave_43 : decode cX8_wave 43 = .ok (.iconst 1, 1) := by decide +kernel
theorem dX8_wave_44 : decode cX8_wave 44 = .ok (.goto 4, 3) := by decide +kernel
theorem dX8_wave_47 : decode cX8_wave 47 = .ok (.iconst 0, 1) := by decide +kernel
theorem dX8_wave_48 : decode cX8_wave 48 = .ok (.iadd, 1) := by decide +kernel
theorem dX8_wave_49 : decode cX8_wave 49 = .ok (.istore_n 2, 1) := by decide +kernel
theorem dX8_wave_50 : decode cX8_wave 50 = .ok (.iinc 3 1, 3) := by decide +kernel
theorem dX8_wave_53 : decode cX8_wave 53 = .ok (.goto (-29), 3) := by decide +kernel
theorem dX8_wave_56 : decode cX8_wave 56 = .ok (.iload_n 2, 1) := by decide +kernel
theorem dX8_wave_57 : decode cX8_wave 57 = .ok (.ireturn, 1) := by decide +kernel
theorem dX8_some_0 : decode cX8_some 0 = .ok (.iload_n 1, 1) := by decide +kernel
theorem dX8_some_1 : decode cX8_some 1 = .ok (.ifCond .lt 20, 3) := by decide +kernel
theorem dX8_some_4 : decode cX8_some 4 = .ok (.iload_n 1, 1) := by decide +kernel
theorem dX8_some_5 : decode cX8_some 5 = .ok (.aload_n 0, 1) := by decide +kernel
theorem dX8_some_6 : decode cX8_some 6 = .ok (.invokevirtual 155, 3) := by decide +kernel
theorem dX8_some_9 : decode cX8_some 9 = .ok (.if_icmp .gt 12, 3) := by decide +kernel
theorem dX8_some_12 : decode cX8_some 12 = .ok (.iload_n 2, 1) := by decide +kernel
theorem dX8_some_13 : decode cX8_some 13 = .ok (.iconst 0, 1) := by decide +kernel
theorem dX8_some_14 : decode cX8_some 14 = .ok (.iconst 1, 1) := by decide +kernel
theorem dX8_some_15 : decode cX8_some 15 = .ok (.invokestatic 59, 3) := by decide +kernel
theorem dX8_some_18 : decode cX8_some 18 = .ok (.ifCond .ne 6, 3) := by decide +kernel
theorem dX8_some_21 : decode cX8_some 21 = .ok (.bipush (-2), 2) := by decide +kernel
theorem dX8_some_23 : decode cX8_some 23 = .ok (.ireturn, 1) := by decide +kernel
theorem dX8_some_24 : decode cX8_some 24 = .ok (.aload_n 0, 1) := by decide +kernel
theorem dX8_some_25 : decode cX8_some 25 = .ok (.iconst 0, 1) := by decide +kernel
theorem dX8_some_26 : decode cX8_some 26 = .ok (.putfield 105, 3) := by decide +kernel
theorem dX8_some_29 : decode cX8_some 29 = .ok (.aload_n 0, 1) := by decide +kernel
theorem dX8_some_30 : decode cX8_some 30 = .ok (.iload_n 1, 1) := by decide +kernel
theorem dX8_some_31 : decode cX8_some 31 = .ok (.invokevirtual 165, 3) := by decide +kernel
theorem dX8_some_34 : decode cX8_some 34 = .ok (.ifCond .ne 6, 3) := by decide +kernel
theorem dX8_some_37 : decode cX8_some 37 = .ok (.bipush (-9), 2) := by decide +kernel
theorem dX8_some_39 : decode cX8_some 39 = .ok (.ireturn, 1) := by decide +kernel
theorem dX8_some_40 : decode cX8_some 40 = .ok (.iconst 0, 1) := by decide +kernel
theorem dX8_some_41 : decode cX8_some 41 = .ok (.istore_n 3, 1) := by decide +kernel
theorem dX8_some_42 : decode cX8_some 42 = .ok (.iload_n 3, 1) := by decide +kernel
theorem dX8_some_43 : decode cX8_some 43 = .ok (.aload_n 0, 1) := by decide +kernel
theorem dX8_some_44 : decode cX8_some 44 = .ok (.getfield 131, 3) := by decide +kernel
theorem dX8_some_47 : decode cX8_some 47 = .ok (.if_icmp .ge 17, 3) := by decide +kernel
theorem dX8_some_50 : decode cX8_some 50 = .ok (.aload_n 0, 1) := by decide +kernel
theorem dX8_some_51 : decode cX8_some 51 = .ok (.getfield 37, 3) := by decide +kernel
theorem dX8_some_54 : decode cX8_some 54 = .ok (.iload_n 3, 1) := by decide +kernel
theorem dX8_some_55 : decode cX8_some 55 = .ok (.bipush (-9), 2) := by decide +kernel
theorem dX8_some_57 : decode cX8_some 57 = .ok (.iastore, 1) := by decide +kernel
theorem dX8_some_58 : decode cX8_some 58 = .ok (.iinc 3 1, 3) := by decide +kernel
theorem dX8_some_61 : decode cX8_some 61 = .ok (.goto (-19), 3) := by decide +kernel
theorem dX8_some_64 : decode cX8_some 64 = .ok (.aload_n 0, 1) := by decide +kernel
theorem dX8_some_65 : decode cX8_some 65 = .ok (.iload_n 1, 1) := by decide +kernel
theorem dX8_some_66 : decode cX8_some 66 = .ok (.invokevirtual 158, 3) := by decide +kernel
theorem dX8_some_69 : decode cX8_some 69 = .ok (.iconst 0, 1) := by decide +kernel
theorem dX8_some_70 : decode cX8_some 70 = .ok (.istore_n 3, 1) := by decide +kernel
theorem dX8_some_71 : decode cX8_some 71 = .ok (.iconst 0, 1) := by decide +kernel
theorem dX8_some_72 : decode cX8_some 72 = .ok (.istore 4, 2) := by decide +kernel
theorem dX8_some_74 : decode cX8_some 74 = .ok (.iload 4, 2) := by decide +kernel
theorem dX8_some_76 : decode cX8_some 76 = .ok (.aload_n 0, 1) := by decide +kernel
theorem dX8_some_77 : decode cX8_some 77 = .ok (.getfield 131, 3) := by decide +kernel
theorem dX8_some_80 : decode cX8_some 80 = .ok (.if_icmp .ge 27, 3) := by decide +kernel
theorem dX8_some_83 : decode cX8_some 83 = .ok (.iload_n 3, 1) := by decide +kernel
theorem dX8_some_84 : decode cX8_some 84 = .ok (.aload_n 0, 1) := by decide +kernel
theorem dX8_some_85 : decode cX8_some 85 = .ok (.getfield 46, 3) := by decide +kernel
theorem dX8_some_88 : decode cX8_some 88 = .ok (.iload 4, 2) := by decide +kernel
theorem dX8_some_90 : decode cX8_some 90 = .ok (.baload, 1) := by decide +kernel
theorem dX8_some_91 : decode cX8_some 91 = .ok (.ifCond .eq 7, 3) := by decide +kernel
theorem dX8_some_94 : decode cX8_some 94 = .ok (.iconst 0, 1) := by decide +kernel
theorem dX8_some_95 : decode cX8_some 95 = .ok (.goto 4, 3) := by decide +kernel
theorem dX8_some_98 : decode cX8_some 98 = .ok (.iconst 1, 1) := by decide +kernel
theorem dX8_some_99 : decode cX8_some 99 = .ok (.iadd, 1) := by decide +kernel
theorem dX8_some_100 : decode cX8_some 100 = .ok (.istore_n 3, 1) := by decide +kernel
theorem dX8_some_101 : decode cX8_some 101 = .ok (.iinc 4 1, 3) := by decide +kernel
theorem dX8_some_104 : decode cX8_some 104 = .ok (.goto (-30), 3) := by decide +kernel
theorem dX8_some_107 : decode cX8_some 107 = .ok (.iload_n 2, 1) := by decide +kernel
theorem dX8_some_108 : decode cX8_some 108 = .ok (.ifCond .ne 10, 3) := by decide +kernel
theorem dX8_some_111 : decode cX8_some 111 = .ok (.aload_n 0, 1) := by decide +kernel
theorem dX8_some_112 : decode cX8_some 112 = .ok (.getfield 131, 3) := by decide +kernel
theorem dX8_some_115 : decode cX8_some 115 = .ok (.goto 4, 3) := by decide +kernel
theorem dX8_some_118 : decode cX8_some 118 = .ok (.iload_n 3, 1) := by decide +kernel
theorem dX8_some_119 : decode cX8_some 119 = .ok (.ireturn, 1) := by decide +kernel
theorem dX8_isShut_0 : decode cX8_isShut 0 = .ok (.aload_n 0, 1) := by decide +kernel
theorem dX8_isShut_1 : decode cX8_isShut 1 = .ok (.invokevirtual 180, 3) := by decide +kernel
theorem dX8_isShut_4 : decode cX8_isShut 4 = .ok (.aload_n 0, 1) := by decide +kernel
theorem dX8_isShut_5 : decode cX8_isShut 5 = .ok (.getfield 131, 3) := by decide +kernel
theorem dX8_isShut_8 : decode cX8_isShut 8 = .ok (.ifCond .eq 12, 3) := by decide +kernel
theorem dX8_isShut_11 : decode cX8_isShut 11 = .ok (.aload_n 0, 1) := by decide +kernel
theorem dX8_isShut_12 : decode cX8_isShut 12 = .ok (.getfield 50, 3) := by decide +kernel
theorem dX8_isShut_15 : decode cX8_isShut 15 = .ok (.iconst 0, 1) := by decide +kernel
theorem dX8_isShut_16 : decode cX8_isShut 16 = .ok (.baload, 1) := by decide +kernel
theorem dX8_isShut_17 : decode cX8_isShut 17 = .ok (.ifCond .ne 7, 3) := by decide +kernel
theorem dX8_isShut_20 : decode cX8_isShut 20 = .ok (.iconst 1, 1) := by decide +kernel
theorem dX8_isShut_21 : decode cX8_isShut 21 = .ok (.goto 4, 3) := by decide +kernel
theorem dX8_isShut_24 : decode cX8_isShut 24 = .ok (.iconst 0, 1) := by decide +kernel
theorem dX8_isShut_25 : decode cX8_isShut 25 = .ok (.ireturn, 1) := by decide +kernel
theorem dX8_go_0 : decode cX8_go 0 = .ok (.iload_n 1, 1) := by decide +kernel
theorem dX8_go_1 : decode cX8_go 1 = .ok (.invokestatic 115, 3) := by decide +kernel
theorem dX8_go_4 : decode cX8_go 4 = .ok (.ifCond .ne 5, 3) := by decide +kernel
theorem dX8_go_7 : decode cX8_go 7 = .ok (.iconst (-1), 1) := by decide +kernel
theorem dX8_go_8 : decode cX8_go 8 = .ok (.ireturn, 1) := by decide +kernel
theorem dX8_go_9 : decode cX8_go 9 = .ok (.aload_n 0, 1) := by decide +kernel
theorem dX8_go_10 : decode cX8_go 10 = .ok (.invokevirtual 192, 3) := by decide +kernel
theorem dX8_go_13 : decode cX8_go 13 = .ok (.ifCond .eq 6, 3) := by decide +kernel
theorem dX8_go_16 : decode cX8_go 16 = .ok (.bipush (-3), 2) := by decide +kernel
theorem dX8_go_18 : decode cX8_go 18 = .ok (.ireturn, 1) := by decide +kernel
theorem dX8_go_19 : decode cX8_go 19 = .ok (.aload_n 0, 1) := by decide +kernel
theorem dX8_go_20 : decode cX8_go 20 = .ok (.getfield 34, 3) := by decide +kernel
theorem dX8_go_23 : decode cX8_go 23 = .ok (.bipush 8, 2) := by decide +kernel
theorem dX8_go_25 : decode cX8_go 25 = .ok (.aload_n 0, 1) := by decide +kernel
theorem dX8_go_26 : decode cX8_go 26 = .ok (.getfield 109, 3) := by decide +kernel
theorem dX8_go_29 : decode cX8_go 29 = .ok (.imul, 1) := by decide +kernel
theorem dX8_go_30 : decode cX8_go 30 = .ok (.iload_n 1, 1) := by decide +kernel
theorem dX8_go_31 : decode cX8_go 31 = .ok (.iadd, 1) := by decide +kernel
theorem dX8_go_32 : decode cX8_go 32 = .ok (.iaload, 1) := by decide +kernel
theorem dX8_go_33 : decode cX8_go 33 = .ok (.istore_n 2, 1) := by decide +kernel
theorem dX8_go_34 : decode cX8_go 34 = .ok (.iload_n 2, 1) := by decide +kernel
theorem dX8_go_35 : decode cX8_go 35 = .ok (.bipush (-9), 2) := by decide +kernel
theorem dX8_go_37 : decode cX8_go 37 = .ok (.if_icmp .eq 14, 3) := by decide +kernel
theorem dX8_go_40 : decode cX8_go 40 = .ok (.aload_n 0, 1) := by decide +kernel
theorem dX8_go_41 : decode cX8_go 41 = .ok (.getfield 37, 3) := by decide +kernel
theorem dX8_go_44 : decode cX8_go 44 = .ok (.iload_n 2, 1) := by decide +kernel
theorem dX8_go_45 : decode cX8_go 45 = .ok (.iaload, 1) := by decide +kernel
theorem dX8_go_46 : decode cX8_go 46 = .ok (.bipush (-9), 2) := by decide +kernel
theorem dX8_go_48 : decode cX8_go 48 = .ok (.if_icmp .eq 6, 3) := by decide +kernel
theorem dX8_go_51 : decode cX8_go 51 = .ok (.bipush (-9), 2) := by decide +kernel
theorem dX8_go_53 : decode cX8_go 53 = .ok (.ireturn, 1) := by decide +kernel
theorem dX8_go_54 : decode cX8_go 54 = .ok (.aload_n 0, 1) := by decide +kernel
theorem dX8_go_55 : decode cX8_go 55 = .ok (.getfield 112, 3) := by decide +kernel
theorem dX8_go_58 : decode cX8_go 58 = .ok (.bipush 16, 2) := by decide +kernel
theorem dX8_go_60 : decode cX8_go 60 = .ok (.if_icmp .ne 41, 3) := by decide +kernel
theorem dX8_go_63 : decode cX8_go 63 = .ok (.iconst 1, 1) := by decide +kernel
theorem dX8_go_64 : decode cX8_go 64 = .ok (.istore_n 3, 1) := by decide +kernel
theorem dX8_go_65 : decode cX8_go 65 = .ok (.iload_n 3, 1) := by decide +kernel
theorem dX8_go_66 : decode cX8_go 66 = .ok (.bipush 16, 2) := by decide +kernel
theorem dX8_go_68 : decode cX8_go 68 = .ok (.if_icmp .ge 23, 3) := by decide +kernel
theorem dX8_go_71 : decode cX8_go 71 = .ok (.aload_n 0, 1) := by decide +kernel
theorem dX8_go_72 : decode cX8_go 72 = .ok (.getfield 53, 3) := by decide +kernel
theorem dX8_go_75 : decode cX8_go 75 = .ok (.iload_n 3, 1) := by decide +kernel
theorem dX8_go_76 : decode cX8_go 76 = .ok (.iconst 1, 1) := by decide +kernel
theorem dX8_go_77 : decode cX8_go 77 = .ok (.isub, 1) := by decide +kernel
theorem dX8_go_78 : decode cX8_go 78 = .ok (.aload_n 0, 1) := by decide +kernel
theorem dX8_go_79 : decode cX8_go 79 = .ok (.getfield 53, 3) := by decide +kernel
theorem dX8_go_82 : decode cX8_go 82 = .ok (.iload_n 3, 1) := by decide +kernel
theorem dX8_go_83 : decode cX8_go 83 = .ok (.iaload, 1) := by decide +kernel
theorem dX8_go_84 : decode cX8_go 84 = .ok (.iastore, 1) := by decide +kernel
theorem dX8_go_85 : decode cX8_go 85 = .ok (.iinc 3 1, 3) := by decide +kernel
theorem dX8_go_88 : decode cX8_go 88 = .ok (.goto (-23), 3) := by decide +kernel
theorem dX8_go_91 : decode cX8_go 91 = .ok (.aload_n 0, 1) := by decide +kernel
theorem dX8_go_92 : decode cX8_go 92 = .ok (.dup, 1) := by decide +kernel
theorem dX8_go_93 : decode cX8_go 93 = .ok (.getfield 112, 3) := by decide +kernel
theorem dX8_go_96 : decode cX8_go 96 = .ok (.iconst 1, 1) := by decide +kernel
theorem dX8_go_97 : decode cX8_go 97 = .ok (.isub, 1) := by decide +kernel
theorem dX8_go_98 : decode cX8_go 98 = .ok (.putfield 112, 3) := by decide +kernel
theorem dX8_go_101 : decode cX8_go 101 = .ok (.aload_n 0, 1) := by decide +kernel
theorem dX8_go_102 : decode cX8_go 102 = .ok (.getfield 53, 3) := by decide +kernel
theorem dX8_go_105 : decode cX8_go 105 = .ok (.aload_n 0, 1) := by decide +kernel
theorem dX8_go_106 : decode cX8_go 106 = .ok (.getfield 112, 3) := by decide +kernel
theorem dX8_go_109 : decode cX8_go 109 = .ok (.aload_n 0, 1) := by decide +kernel
theorem dX8_go_110 : decode cX8_go 110 = .ok (.getfield 109, 3) := by decide +kernel
theorem dX8_go_113 : decode cX8_go 113 = .ok (.iastore, 1) := by decide +kernel
theorem dX8_go_114 : decode cX8_go 114 = .ok (.aload_n 0, 1) := by decide +kernel
theorem dX8_go_115 : decode cX8_go 115 = .ok (.dup, 1) := by decide +kernel
theorem dX8_go_116 : decode cX8_go 116 = .ok (.getfield 112, 3) := by decide +kernel
theorem dX8_go_119 : decode cX8_go 119 = .ok (.iconst 1, 1) := by decide +kernel
theorem dX8_go_120 : decode cX8_go 120 = .ok (.iadd, 1) := by decide +kernel
theorem dX8_go_121 : decode cX8_go 121 = .ok (.putfield 112, 3) := by decide +kernel
theorem dX8_go_124 : decode cX8_go 124 = .ok (.aload_n 0, 1) := by decide +kernel
theorem dX8_go_125 : decode cX8_go 125 = .ok (.iload_n 2, 1) := by decide +kernel
theorem dX8_go_126 : decode cX8_go 126 = .ok (.putfield 109, 3) := by decide +kernel
theorem dX8_go_129 : decode cX8_go 129 = .ok (.aload_n 0, 1) := by decide +kernel
theorem dX8_go_130 : decode cX8_go 130 = .ok (.getfield 109, 3) := by decide +kernel
theorem dX8_go_133 : decode cX8_go 133 = .ok (.ireturn, 1) := by decide +kernel
theorem dX8_back_0 : decode cX8_back 0 = .ok (.aload_n 0, 1) := by decide +kernel
theorem dX8_back_1 : decode cX8_back 1 = .ok (.getfield 112, 3) := by decide +kernel
theorem dX8_back_4 : decode cX8_back 4 = .ok (.ifCond .ne 6, 3) := by decide +kernel
theorem dX8_back_7 : decode cX8_back 7 = .ok (.bipush (-3), 2) := by decide +kernel
theorem dX8_back_9 : decode cX8_back 9 = .ok (.ireturn, 1) := by decide +kernel
theorem dX8_back_10 : decode cX8_back 10 = .ok (.aload_n 0, 1) := by decide +kernel
theorem dX8_back_11 : decode cX8_back 11 = .ok (.dup, 1) := by decide +kernel
theorem dX8_back_12 : decode cX8_back 12 = .ok (.getfield 112, 3) := by decide +kernel
theorem dX8_back_15 : decode cX8_back 15 = .ok (.iconst 1, 1) := by decide +kernel
theorem dX8_back_16 : decode cX8_back 16 = .ok (.isub, 1) := by decide +kernel
theorem dX8_back_17 : decode cX8_back 17 = .ok (.putfield 112, 3) := by decide +kernel
theorem dX8_back_20 : decode cX8_back 20 = .ok (.aload_n 0, 1) := by decide +kernel
theorem dX8_back_21 : decode cX8_back 21 = .ok (.aload_n 0, 1) := by decide +kernel
theorem dX8_back_22 : decode cX8_back 22 = .ok (.getfield 53, 3) := by decide +kernel
theorem dX8_back_25 : decode cX8_back 25 = .ok (.aload_n 0, 1) := by decide +kernel
theorem dX8_back_26 : decode cX8_back 26 = .ok (.getfield 112, 3) := by decide +kernel
theorem dX8_back_29 : decode cX8_back 29 = .ok (.iaload, 1) := by decide +kernel
theorem dX8_back_30 : decode cX8_back 30 = .ok (.putfield 109, 3) := by decide +kernel
theorem dX8_back_33 : decode cX8_back 33 = .ok (.aload_n 0, 1) := by decide +kernel
theorem dX8_back_34 : decode cX8_back 34 = .ok (.getfield 109, 3) := by decide +kernel
theorem dX8_back_37 : decode cX8_back 37 = .ok (.ireturn, 1) := by decide +kernel
theorem dX8_at_0 : decode cX8_at 0 = .ok (.aload_n 0, 1) := by decide +kernel
theorem dX8_at_1 : decode cX8_at 1 = .ok (.invokevirtual 192, 3) := by decide +kernel
theorem dX8_at_4 : decode cX8_at 4 = .ok (.ifCond .eq 8, 3) := by decide +kernel
theorem dX8_at_7 : decode cX8_at 7 = .ok (.bipush (-3), 2) := by decide +kernel
theorem dX8_at_9 : decode cX8_at 9 = .ok (.goto 7, 3) := by decide +kernel
theorem dX8_at_12 : decode cX8_at 12 = .ok (.aload_n 0, 1) := by decide +kernel
theorem dX8_at_13 : decode cX8_at 13 = .ok (.getfield 109, 3) := by decide +kernel
theorem dX8_at_16 : decode cX8_at 16 = .ok (.ireturn, 1) := by decide +kernel
theorem dX8_findFar_0 : decode cX8_findFar 0 = .ok (.iconst 1, 1) := by decide +kernel
theorem dX8_findFar_1 : decode cX8_findFar 1 = .ok (.istore_n 1, 1) := by decide +kernel
theorem dX8_findFar_2 : decode cX8_findFar 2 = .ok (.iload_n 1, 1) := by decide +kernel
theorem dX8_findFar_3 : decode cX8_findFar 3 = .ok (.ifCond .eq 136, 3) := by decide +kernel
theorem dX8_findFar_6 : decode cX8_findFar 6 = .ok (.iconst 0, 1) := by decide +kernel
theorem dX8_findFar_7 : decode cX8_findFar 7 = .ok (.istore_n 1, 1) := by decide +kernel
theorem dX8_findFar_8 : decode cX8_findFar 8 = .ok (.iconst 0, 1) := by decide +kernel
theorem dX8_findFar_9 : decode cX8_findFar 9 = .ok (.istore_n 2, 1) := by decide +kernel
theorem dX8_findFar_10 : decode cX8_findFar 10 = .ok (.iload_n 2, 1) := by decide +kernel
theorem dX8_findFar_11 : decode cX8_findFar 11 = .ok (.bipush 8, 2) := by decide +kernel
theorem dX8_findFar_13 : decode cX8_findFar 13 = .ok (.aload_n 0, 1) := by decide +kernel
theorem dX8_findFar_14 : decode cX8_findFar 14 = .ok (.getfield 131, 3) := by decide +kernel
theorem dX8_findFar_17 : decode cX8_findFar 17 = .ok (.imul, 1) := by decide +kernel
theorem dX8_findFar_18 : decode cX8_findFar 18 = .ok (.if_icmp .ge 118, 3) := by decide +kernel
theorem dX8_findFar_21 : decode cX8_findFar 21 = .ok (.iload_n 2, 1) := by decide +kernel
theorem dX8_findFar_22 : decode cX8_findFar 22 = .ok (.bipush 8, 2) := by decide +kernel
theorem dX8_findFar_24 : decode cX8_findFar 24 = .ok (.idiv, 1) := by decide +kernel
theorem dX8_findFar_25 : decode cX8_findFar 25 = .ok (.istore_n 3, 1) := by decide +kernel
theorem dX8_findFar_26 : decode cX8_findFar 26 = .ok (.aload_n 0, 1) := by decide +kernel
theorem dX8_findFar_27 : decode cX8_findFar 27 = .ok (.getfield 34, 3) := by decide +kernel
theorem dX8_findFar_30 : decode cX8_findFar 30 = .ok (.iload_n 2, 1) := by decide +kernel
theorem dX8_findFar_31 : decode cX8_findFar 31 = .ok (.iaload, 1) := by decide +kernel
theorem dX8_findFar_32 : decode cX8_findFar 32 = .ok (.istore 4, 2) := by decide +kernel
theorem dX8_findFar_34 : decode cX8_findFar 34 = .ok (.aload_n 0, 1) := by decide +kernel
theorem dX8_findFar_35 : decode cX8_findFar 35 = .ok (.getfield 50, 3) := by decide +kernel
theorem dX8_findFar_38 : decode cX8_findFar 38 = .ok (.iload_n 3, 1) := by decide +kernel
theorem dX8_findFar_39 : decode cX8_findFar 39 = .ok (.baload, 1) := by decide +kernel
theorem dX8_findFar_40 : decode cX8_findFar 40 = .ok (.ifCond .eq 36, 3) := by decide +kernel
theorem dX8_findFar_43 : decode cX8_findFar 43 = .ok (.iload 4, 2) := by decide +kernel
theorem dX8_findFar_45 : decode cX8_findFar 45 = .ok (.bipush (-9), 2) := by decide +kernel
theorem dX8_findFar_47 : decode cX8_findFar 47 = .ok (.if_icmp .eq 29, 3) := by decide +kernel
theorem dX8_findFar_50 : decode cX8_findFar 50 = .ok (.aload_n 0, 1) := by decide +kernel
theorem dX8_findFar_51 : decode cX8_findFar 51 = .ok (.getfield 50, 3) := by decide +kernel
theorem dX8_findFar_54 : decode cX8_findFar 54 = .ok (.iload 4, 2) := by decide +kernel
theorem dX8_findFar_56 : decode cX8_findFar 56 = .ok (.baload, 1) := by decide +kernel
theorem dX8_findFar_57 : decode cX8_findFar 57 = .ok (.ifCond .eq 19, 3) := by decide +kernel
theorem dX8_findFar_60 : decode cX8_findFar 60 = .ok (.aload_n 0, 1) := by decide +kernel
theorem dX8_findFar_61 : decode cX8_findFar 61 = .ok (.getfield 56, 3) := by decide +kernel
theorem dX8_findFar_64 : decode cX8_findFar 64 = .ok (.iload 4, 2) := by decide +kernel
theorem dX8_findFar_66 : decode cX8_findFar 66 = .ok (.iaload, 1) := by decide +kernel
theorem dX8_findFar_67 : decode cX8_findFar 67 = .ok (.bipush (-9), 2) := by decide +kernel
theorem dX8_findFar_69 : decode cX8_findFar 69 = .ok (.if_icmp .eq 7, 3) := by decide +kernel
theorem dX8_findFar_72 : decode cX8_findFar 72 = .ok (.iconst 1, 1) := by decide +kernel
theorem dX8_findFar_73 : decode cX8_findFar 73 = .ok (.goto 4, 3) := by decide +kernel
theorem dX8_findFar_76 : decode cX8_findFar 76 = .ok (.iconst 0, 1) := by decide +kernel
theorem dX8_findFar_77 : decode cX8_findFar 77 = .ok (.istore 5, 2) := by decide +kernel
theorem dX8_findFar_79 : decode cX8_findFar 79 = .ok (.iload 5, 2) := by decide +kernel
theorem dX8_findFar_81 : decode cX8_findFar 81 = .ok (.ifCond .eq 49, 3) := by decide +kernel
theorem dX8_findFar_84 : decode cX8_findFar 84 = .ok (.aload_n 0, 1) := by decide +kernel
theorem dX8_findFar_85 : decode cX8_findFar 85 = .ok (.getfield 56, 3) := by decide +kernel
theorem dX8_findFar_88 : decode cX8_findFar 88 = .ok (.iload_n 3, 1) := by decide +kernel
theorem dX8_findFar_89 : decode cX8_findFar 89 = .ok (.iaload, 1) := by decide +kernel
theorem dX8_findFar_90 : decode cX8_findFar 90 = .ok (.bipush (-9), 2) := by decide +kernel
theorem dX8_findFar_92 : decode cX8_findFar 92 = .ok (.if_icmp .eq 21, 3) := by decide +kernel
theorem dX8_findFar_95 : decode cX8_findFar 95 = .ok (.aload_n 0, 1) := by decide +kernel
theorem dX8_findFar_96 : decode cX8_findFar 96 = .ok (.getfield 56, 3) := by decide +kernel
theorem dX8_findFar_99 : decode cX8_findFar 99 = .ok (.iload 4, 2) := by decide +kernel
theorem dX8_findFar_101 : decode cX8_findFar 101 = .ok (.iaload, 1) := by decide +kernel
theorem dX8_findFar_102 : decode cX8_findFar 102 = .ok (.iconst 1, 1) := by decide +kernel
theorem dX8_findFar_103 : decode cX8_findFar 103 = .ok (.iadd, 1) := by decide +kernel
theorem dX8_findFar_104 : decode cX8_findFar 104 = .ok (.aload_n 0, 1) := by decide +kernel
theorem dX8_findFar_105 : decode cX8_findFar 105 = .ok (.getfield 56, 3) := by decide +kernel
theorem dX8_findFar_108 : decode cX8_findFar 108 = .ok (.iload_n 3, 1) := by decide +kernel
theorem dX8_findFar_109 : decode cX8_findFar 109 = .ok (.iaload, 1) := by decide +kernel
theorem dX8_findFar_110 : decode cX8_findFar 110 = .ok (.if_icmp .ge 20, 3) := by decide +kernel
theorem dX8_findFar_113 : decode cX8_findFar 113 = .ok (.aload_n 0, 1) := by decide +kernel
theorem dX8_findFar_114 : decode cX8_findFar 114 = .ok (.getfield 56, 3) := by decide +kernel
theorem dX8_findFar_117 : decode cX8_findFar 117 = .ok (.iload_n 3, 1) := by decide +kernel
theorem dX8_findFar_118 : decode cX8_findFar 118 = .ok (.aload_n 0, 1) := by decide +kernel
theorem dX8_findFar_119 : decode cX8_findFar 119 = .ok (.getfield 56, 3) := by decide +kernel
theorem dX8_findFar_122 : decode cX8_findFar 122 = .ok (.iload 4, 2) := by decide +kernel
theorem dX8_findFar_124 : decode cX8_findFar 124 = .ok (.iaload, 1) := by decide +kernel
theorem dX8_findFar_125 : decode cX8_findFar 125 = .ok (.iconst 1, 1) := by decide +kernel
theorem dX8_findFar_126 : decode cX8_findFar 126 = .ok (.iadd, 1) := by decide +kernel
theorem dX8_findFar_127 : decode cX8_findFar 127 = .ok (.iastore, 1) := by decide +kernel
theorem dX8_findFar_128 : decode cX8_findFar 128 = .ok (.iconst 1, 1) := by decide +kernel
theorem dX8_findFar_129 : decode cX8_findFar 129 = .ok (.istore_n 1, 1) := by decide +kernel
theorem dX8_findFar_130 : decode cX8_findFar 130 = .ok (.iinc 2 1, 3) := by decide +kernel
theorem dX8_findFar_133 : decode cX8_findFar 133 = .ok (.goto (-123), 3) := by decide +kernel
theorem dX8_findFar_136 : decode cX8_findFar 136 = .ok (.goto (-134), 3) := by decide +kernel
theorem dX8_findFar_139 : decode cX8_findFar 139 = .ok (.return_, 1) := by decide +kernel
theorem dX8_nearer_0 : decode cX8_nearer 0 = .ok (.iconst 0, 1) := by decide +kernel
theorem dX8_nearer_1 : decode cX8_nearer 1 = .ok (.istore_n 2, 1) := by decide +kernel
theorem dX8_nearer_2 : decode cX8_nearer 2 = .ok (.aload_n 0, 1) := by decide +kernel
theorem dX8_nearer_3 : decode cX8_nearer 3 = .ok (.getfield 34, 3) := by decide +kernel
theorem dX8_nearer_6 : decode cX8_nearer 6 = .ok (.bipush 8, 2) := by decide +kernel
theorem dX8_nearer_8 : decode cX8_nearer 8 = .ok (.iload_n 1, 1) := by decide +kernel
theorem dX8_nearer_9 : decode cX8_nearer 9 = .ok (.imul, 1) := by decide +kernel
theorem dX8_nearer_10 : decode cX8_nearer 10 = .ok (.iload_n 2, 1) := by decide +kernel
theorem dX8_nearer_11 : decode cX8_nearer 11 = .ok (.iadd, 1) := by decide +kernel
theorem dX8_nearer_12 : decode cX8_nearer 12 = .ok (.iaload, 1) := by decide +kernel
theorem dX8_nearer_13 : decode cX8_nearer 13 = .ok (.bipush (-9), 2) := by decide +kernel
theorem dX8_nearer_15 : decode cX8_nearer 15 = .ok (.if_icmp .eq 49, 3) := by decide +kernel
theorem dX8_nearer_18 : decode cX8_nearer 18 = .ok (.aload_n 0, 1) := by decide +kernel
theorem dX8_nearer_19 : decode cX8_nearer 19 = .ok (.getfield 50, 3) := by decide +kernel
theorem dX8_nearer_22 : decode cX8_nearer 22 = .ok (.aload_n 0, 1) := by decide +kernel
theorem dX8_nearer_23 : decode cX8_nearer 23 = .ok (.getfield 34, 3) := by decide +kernel
theorem dX8_nearer_26 : decode cX8_nearer 26 = .ok (.bipush 8, 2) := by decide +kernel
theorem dX8_nearer_28 : decode cX8_nearer 28 = .ok (.iload_n 1, 1) := by decide +kernel
theorem dX8_nearer_29 : decode cX8_nearer 29 = .ok (.imul, 1) := by decide +kernel
theorem dX8_nearer_30 : decode cX8_nearer 30 = .ok (.iload_n 2, 1) := by decide +kernel
theorem dX8_nearer_31 : decode cX8_nearer 31 = .ok (.iadd, 1) := by decide +kernel
theorem dX8_nearer_32 : decode cX8_nearer 32 = .ok (.iaload, 1) := by decide +kernel
theorem dX8_nearer_33 : decode cX8_nearer 33 = .ok (.baload, 1) := by decide +kernel
theorem dX8_nearer_34 : decode cX8_nearer 34 = .ok (.ifCond .eq 30, 3) := by decide +kernel
theorem dX8_nearer_37 : decode cX8_nearer 37 = .ok (.aload_n 0, 1) := by decide +kernel
theorem dX8_nearer_38 : decode cX8_nearer 38 = .ok (.getfield 56, 3) := by decide +kernel
theorem dX8_nearer_41 : decode cX8_nearer 41 = .ok (.aload_n 0, 1) := by decide +kernel
theorem dX8_nearer_42 : decode cX8_nearer 42 = .ok (.getfield 34, 3) := by decide +kernel
theorem dX8_nearer_45 : decode cX8_nearer 45 = .ok (.bipush 8, 2) := by decide +kernel
theorem dX8_nearer_47 : decode cX8_nearer 47 = .ok (.iload_n 1, 1) := by decide +kernel
theorem dX8_nearer_48 : decode cX8_nearer 48 = .ok (.imul, 1) := by decide +kernel
theorem dX8_nearer_49 : decode cX8_nearer 49 = .ok (.iload_n 2, 1) := by decide +kernel
theorem dX8_nearer_50 : decode cX8_nearer 50 = .ok (.iadd, 1) := by decide +kernel
theorem dX8_nearer_51 : decode cX8_nearer 51 = .ok (.iaload, 1) := by decide +kernel
theorem dX8_nearer_52 : decode cX8_nearer 52 = .ok (.iaload, 1) := by decide +kernel
theorem dX8_nearer_53 : decode cX8_nearer 53 = .ok (.aload_n 0, 1) := by decide +kernel
theorem dX8_nearer_54 : decode cX8_nearer 54 = .ok (.getfield 56, 3) := by decide +kernel
theorem dX8_nearer_57 : decode cX8_nearer 57 = .ok (.iload_n 1, 1) := by decide +kernel
theorem dX8_nearer_58 : decode cX8_nearer 58 = .ok (.iaload, 1) := by decide +kernel
theorem dX8_nearer_59 : decode cX8_nearer 59 = .ok (.iconst 1, 1) := by decide +kernel
theorem dX8_nearer_60 : decode cX8_nearer 60 = .ok (.isub, 1) := by decide +kernel
theorem dX8_nearer_61 : decode cX8_nearer 61 = .ok (.if_icmp .eq 9, 3) := by decide +kernel
theorem dX8_nearer_64 : decode cX8_nearer 64 = .ok (.iinc 2 1, 3) := by decide +kernel
theorem dX8_nearer_67 : decode cX8_nearer 67 = .ok (.goto (-65), 3) := by decide +kernel
theorem dX8_nearer_70 : decode cX8_nearer 70 = .ok (.iload_n 2, 1) := by decide +kernel
theorem dX8_nearer_71 : decode cX8_nearer 71 = .ok (.ireturn, 1) := by decide +kernel
theorem dX8_tellWord_0 : decode cX8_tellWord 0 = .ok (.iload_n 2, 1) := by decide +kernel
theorem dX8_tellWord_1 : decode cX8_tellWord 1 = .ok (.bipush (-9), 2) := by decide +kernel
theorem dX8_tellWord_3 : decode cX8_tellWord 3 = .ok (.if_icmp .eq 14, 3) := by decide +kernel
theorem dX8_tellWord_6 : decode cX8_tellWord 6 = .ok (.aload_n 0, 1) := by decide +kernel
theorem dX8_tellWord_7 : decode cX8_tellWord 7 = .ok (.getfield 56, 3) := by decide +kernel
theorem dX8_tellWord_10 : decode cX8_tellWord 10 = .ok (.iload_n 1, 1) := by decide +kernel
theorem dX8_tellWord_11 : decode cX8_tellWord 11 = .ok (.iaload, 1) := by decide +kernel
theorem dX8_tellWord_12 : decode cX8_tellWord 12 = .ok (.bipush (-9), 2) := by decide +kernel
theorem dX8_tellWord_14 : decode cX8_tellWord 14 = .ok (.if_icmp .ne 10, 3) := by decide +kernel
theorem dX8_tellWord_17 : decode cX8_tellWord 17 = .ok (.aload_n 0, 1) := by decide +kernel
theorem dX8_tellWord_18 : decode cX8_tellWord 18 = .ok (.getfield 56, 3) := by decide +kernel
theorem dX8_tellWord_21 : decode cX8_tellWord 21 = .ok (.iload_n 1, 1) := by decide +kernel
theorem dX8_tellWord_22 : decode cX8_tellWord 22 = .ok (.iaload, 1) := by decide +kernel
theorem dX8_tellWord_23 : decode cX8_tellWord 23 = .ok (.ireturn, 1) := by decide +kernel
theorem dX8_tellWord_24 : decode cX8_tellWord 24 = .ok (.iload_n 2, 1) := by decide +kernel
theorem dX8_tellWord_25 : decode cX8_tellWord 25 = .ok (.aload_n 0, 1) := by decide +kernel
theorem dX8_tellWord_26 : decode cX8_tellWord 26 = .ok (.getfield 56, 3) := by decide +kernel
theorem dX8_tellWord_29 : decode cX8_tellWord 29 = .ok (.iload_n 1, 1) := by decide +kernel
theorem dX8_tellWord_30 : decode cX8_tellWord 30 = .ok (.iaload, 1) := by decide +kernel
theorem dX8_tellWord_31 : decode cX8_tellWord 31 = .ok (.if_icmp .lt 6, 3) := by decide +kernel
theorem dX8_tellWord_34 : decode cX8_tellWord 34 = .ok (.bipush (-9), 2) := by decide +kernel
theorem dX8_tellWord_36 : decode cX8_tellWord 36 = .ok (.ireturn, 1) := by decide +kernel
theorem dX8_tellWord_37 : decode cX8_tellWord 37 = .ok (.iload_n 1, 1) := by decide +kernel
theorem dX8_tellWord_38 : decode cX8_tellWord 38 = .ok (.istore_n 3, 1) := by decide +kernel
theorem dX8_tellWord_39 : decode cX8_tellWord 39 = .ok (.iconst 0, 1) := by decide +kernel
theorem dX8_tellWord_40 : decode cX8_tellWord 40 = .ok (.istore 4, 2) := by decide +kernel
theorem dX8_tellWord_42 : decode cX8_tellWord 42 = .ok (.iload 4, 2) := by decide +kernel
theorem dX8_tellWord_44 : decode cX8_tellWord 44 = .ok (.iload_n 2, 1) := by decide +kernel
theorem dX8_tellWord_45 : decode cX8_tellWord 45 = .ok (.if_icmp .ge 25, 3) := by decide +kernel
theorem dX8_tellWord_48 : decode cX8_tellWord 48 = .ok (.aload_n 0, 1) := by decide +kernel
theorem dX8_tellWord_49 : decode cX8_tellWord 49 = .ok (.getfield 34, 3) := by decide +kernel
theorem dX8_tellWord_52 : decode cX8_tellWord 52 = .ok (.bipush 8, 2) := by decide +kernel
theorem dX8_tellWord_54 : decode cX8_tellWord 54 = .ok (.iload_n 3, 1) := by decide +kernel
theorem dX8_tellWord_55 : decode cX8_tellWord 55 = .ok (.imul, 1) := by decide +kernel
theorem dX8_tellWord_56 : decode cX8_tellWord 56 = .ok (.aload_n 0, 1) := by decide +kernel
theorem dX8_tellWord_57 : decode cX8_tellWord 57 = .ok (.iload_n 3, 1) := by decide +kernel
theorem dX8_tellWord_58 : decode cX8_tellWord 58 = .ok (.invokevirtual 195, 3) := by decide +kernel
theorem dX8_tellWord_61 : decode cX8_tellWord 61 = .ok (.iadd, 1) := by decide +kernel
theorem dX8_tellWord_62 : decode cX8_tellWord 62 = .ok (.iaload, 1) := by decide +kernel
theorem dX8_tellWord_63 : decode cX8_tellWord 63 = .ok (.istore_n 3, 1) := by decide +kernel
theorem dX8_tellWord_64 : decode cX8_tellWord 64 = .ok (.iinc 4 1, 3) := by decide +kernel
theorem dX8_tellWord_67 : decode cX8_tellWord 67 = .ok (.goto (-25), 3) := by decide +kernel
theorem dX8_tellWord_70 : decode cX8_tellWord 70 = .ok (.aload_n 0, 1) := by decide +kernel
theorem dX8_tellWord_71 : decode cX8_tellWord 71 = .ok (.iload_n 3, 1) := by decide +kernel
theorem dX8_tellWord_72 : decode cX8_tellWord 72 = .ok (.invokevirtual 195, 3) := by decide +kernel
theorem dX8_tellWord_75 : decode cX8_tellWord 75 = .ok (.ireturn, 1) := by decide +kernel
theorem dX8_isPlace_0 : decode cX8_isPlace 0 = .ok (.iload_n 0, 1) := by decide +kernel
theorem dX8_isPlace_1 : decode cX8_isPlace 1 = .ok (.bipush (-9), 2) := by decide +kernel
theorem dX8_isPlace_3 : decode cX8_isPlace 3 = .ok (.if_icmp .eq 14, 3) := by decide +kernel
theorem dX8_isPlace_6 : decode cX8_isPlace 6 = .ok (.iload_n 0, 1) := by decide +kernel
theorem dX8_isPlace_7 : decode cX8_isPlace 7 = .ok (.iconst 0, 1) := by decide +kernel
theorem dX8_isPlace_8 : decode cX8_isPlace 8 = .ok (.sipush 149, 3) := by decide +kernel
theorem dX8_isPlace_11 : decode cX8_isPlace 11 = .ok (.invokestatic 59, 3) := by decide +kernel
theorem dX8_isPlace_14 : decode cX8_isPlace 14 = .ok (.ifCond .eq 7, 3) := by decide +kernel
theorem dX8_isPlace_17 : decode cX8_isPlace 17 = .ok (.iconst 1, 1) := by decide +kernel
theorem dX8_isPlace_18 : decode cX8_isPlace 18 = .ok (.goto 4, 3) := by decide +kernel
theorem dX8_isPlace_21 : decode cX8_isPlace 21 = .ok (.iconst 0, 1) := by decide +kernel
theorem dX8_isPlace_22 : decode cX8_isPlace 22 = .ok (.ireturn, 1) := by decide +kernel
theorem dX8_finish_0 : decode cX8_finish 0 = .ok (.iload_n 1, 1) := by decide +kernel
theorem dX8_finish_1 : decode cX8_finish 1 = .ok (.invokestatic 198, 3) := by decide +kernel
theorem dX8_finish_4 : decode cX8_finish 4 = .ok (.ifCond .ne 6, 3) := by decide +kernel
theorem dX8_finish_7 : decode cX8_finish 7 = .ok (.bipush (-2), 2) := by decide +kernel
theorem dX8_finish_9 : decode cX8_finish 9 = .ok (.ireturn, 1) := by decide +kernel
theorem dX8_finish_10 : decode cX8_finish 10 = .ok (.aload_n 0, 1) := by decide +kernel
theorem dX8_finish_11 : decode cX8_finish 11 = .ok (.invokevirtual 192, 3) := by decide +kernel
theorem dX8_finish_14 : decode cX8_finish 14 = .ok (.ifCond .eq 6, 3) := by decide +kernel
theorem dX8_finish_17 : decode cX8_finish 17 = .ok (.bipush (-3), 2) := by decide +kernel
theorem dX8_finish_19 : decode cX8_finish 19 = .ok (.ireturn, 1) := by decide +kernel
theorem dX8_finish_20 : decode cX8_finish 20 = .ok (.iconst 0, 1) := by decide +kernel
theorem dX8_finish_21 : decode cX8_finish 21 = .ok (.istore_n 2, 1) := by decide +kernel
theorem dX8_finish_22 : decode cX8_finish 22 = .ok (.iload_n 2, 1) := by decide +kernel
theorem dX8_finish_23 : decode cX8_finish 23 = .ok (.aload_n 0, 1) := by decide +kernel
theorem dX8_finish_24 : decode cX8_finish 24 = .ok (.getfield 131, 3) := by decide +kernel
theorem dX8_finish_27 : decode cX8_finish 27 = .ok (.if_icmp .ge 42, 3) := by decide +kernel
theorem dX8_finish_30 : decode cX8_finish 30 = .ok (.aload_n 0, 1) := by decide +kernel
theorem dX8_finish_31 : decode cX8_finish 31 = .ok (.getfield 56, 3) := by decide +kernel
theorem dX8_finish_34 : decode cX8_finish 34 = .ok (.iload_n 2, 1) := by decide +kernel
theorem dX8_finish_35 : decode cX8_finish 35 = .ok (.aload_n 0, 1) := by decide +kernel
theorem dX8_finish_36 : decode cX8_finish 36 = .ok (.getfield 50, 3) := by decide +kernel
theorem dX8_finish_39 : decode cX8_finish 39 = .ok (.iload_n 2, 1) := by decide +kernel
theorem dX8_finish_40 : decode cX8_finish 40 = .ok (.baload, 1) := by decide +kernel
theorem dX8_finish_41 : decode cX8_finish 41 = .ok (.ifCond .eq 19, 3) := by decide +kernel
theorem dX8_finish_44 : decode cX8_finish 44 = .ok (.aload_n 0, 1) := by decide +kernel
theorem dX8_finish_45 : decode cX8_finish 45 = .ok (.iload_n 2, 1) := by decide +kernel
theorem dX8_finish_46 : decode cX8_finish 46 = .ok (.aload_n 0, 1) := by decide +kernel
theorem dX8_finish_47 : decode cX8_finish 47 = .ok (.invokevirtual 155, 3) := by decide +kernel
theorem dX8_finish_50 : decode cX8_finish 50 = .ok (.invokevirtual 152, 3) := by decide +kernel
theorem dX8_finish_53 : decode cX8_finish 53 = .ok (.ifCond .eq 7, 3) := by decide +kernel
theorem dX8_finish_56 : decode cX8_finish 56 = .ok (.iconst 0, 1) := by decide +kernel
theorem dX8_finish_57 : decode cX8_finish 57 = .ok (.goto 5, 3) := by decide +kernel
theorem dX8_finish_60 : decode cX8_finish 60 = .ok (.bipush (-9), 2) := by decide +kernel
theorem dX8_finish_62 : decode cX8_finish 62 = .ok (.iastore, 1) := by decide +kernel
theorem dX8_finish_63 : decode cX8_finish 63 = .ok (.iinc 2 1, 3) := by decide +kernel
theorem dX8_finish_66 : decode cX8_finish 66 = .ok (.goto (-44), 3) := by decide +kernel
theorem dX8_finish_69 : decode cX8_finish 69 = .ok (.aload_n 0, 1) := by decide +kernel
theorem dX8_finish_70 : decode cX8_finish 70 = .ok (.invokevirtual 201, 3) := by decide +kernel
theorem dX8_finish_73 : decode cX8_finish 73 = .ok (.aload_n 0, 1) := by decide +kernel
theorem dX8_finish_74 : decode cX8_finish 74 = .ok (.aload_n 0, 1) := by decide +kernel
theorem dX8_finish_75 : decode cX8_finish 75 = .ok (.getfield 109, 3) := by decide +kernel
theorem dX8_finish_78 : decode cX8_finish 78 = .ok (.iload_n 1, 1) := by decide +kernel
theorem dX8_finish_79 : decode cX8_finish 79 = .ok (.invokevirtual 204, 3) := by decide +kernel
theorem dX8_finish_82 : decode cX8_finish 82 = .ok (.ireturn, 1) := by decide +kernel
theorem dX8_word_0 : decode cX8_word 0 = .ok (.aload_n 0, 1) := by decide +kernel
theorem dX8_word_1 : decode cX8_word 1 = .ok (.iload_n 1, 1) := by decide +kernel
theorem dX8_word_2 : decode cX8_word 2 = .ok (.invokevirtual 183, 3) := by decide +kernel
theorem dX8_word_5 : decode cX8_word 5 = .ok (.ifCond .ne 5, 3) := by decide +kernel
theorem dX8_word_8 : decode cX8_word 8 = .ok (.iconst (-1), 1) := by decide +kernel
theorem dX8_word_9 : decode cX8_word 9 = .ok (.ireturn, 1) := by decide +kernel
theorem dX8_word_10 : decode cX8_word 10 = .ok (.iload_n 2, 1) := by decide +kernel
theorem dX8_word_11 : decode cX8_word 11 = .ok (.invokestatic 198, 3) := by decide +kernel
theorem dX8_word_14 : decode cX8_word 14 = .ok (.ifCond .ne 6, 3) := by decide +kernel
theorem dX8_word_17 : decode cX8_word 17 = .ok (.bipush (-2), 2) := by decide +kernel
theorem dX8_word_19 : decode cX8_word 19 = .ok (.ireturn, 1) := by decide +kernel
theorem dX8_word_20 : decode cX8_word 20 = .ok (.aload_n 0, 1) := by decide +kernel
theorem dX8_word_21 : decode cX8_word 21 = .ok (.getfield 50, 3) := by decide +kernel
theorem dX8_word_24 : decode cX8_word 24 = .ok (.iload_n 1, 1) := by decide +kernel
theorem dX8_word_25 : decode cX8_word 25 = .ok (.baload, 1) := by decide +kernel
theorem dX8_word_26 : decode cX8_word 26 = .ok (.ifCond .ne 6, 3) := by decide +kernel
theorem dX8_word_29 : decode cX8_word 29 = .ok (.bipush (-9), 2) := by decide +kernel
theorem dX8_word_31 : decode cX8_word 31 = .ok (.ireturn, 1) := by decide +kernel
theorem dX8_word_32 : decode cX8_word 32 = .ok (.iconst 0, 1) := by decide +kernel
theorem dX8_word_33 : decode cX8_word 33 = .ok (.istore_n 3, 1) := by decide +kernel
theorem dX8_word_34 : decode cX8_word 34 = .ok (.iload_n 3, 1) := by decide +kernel
theorem dX8_word_35 : decode cX8_word 35 = .ok (.aload_n 0, 1) := by decide +kernel
theorem dX8_word_36 : decode cX8_word 36 = .ok (.getfield 131, 3) := by decide +kernel
theorem dX8_word_39 : decode cX8_word 39 = .ok (.if_icmp .ge 26, 3) := by decide +kernel
theorem dX8_word_42 : decode cX8_word 42 = .ok (.aload_n 0, 1) := by decide +kernel
theorem dX8_word_43 : decode cX8_word 43 = .ok (.getfield 56, 3) := by decide +kernel
theorem dX8_word_46 : decode cX8_word 46 = .ok (.iload_n 3, 1) := by decide +kernel
theorem dX8_word_47 : decode cX8_word 47 = .ok (.iload_n 3, 1) := by decide +kernel
theorem dX8_word_48 : decode cX8_word 48 = .ok (.iload_n 1, 1) := by decide +kernel
theorem dX8_word_49 : decode cX8_word 49 = .ok (.if_icmp .ne 7, 3) := by decide +kernel
theorem dX8_word_52 : decode cX8_word 52 = .ok (.iconst 0, 1) := by decide +kernel
theorem dX8_word_53 : decode cX8_word 53 = .ok (.goto 5, 3) := by decide +kernel
theorem dX8_word_56 : decode cX8_word 56 = .ok (.bipush (-9), 2) := by decide +kernel
theorem dX8_word_58 : decode cX8_word 58 = .ok (.iastore, 1) := by decide +kernel
theorem dX8_word_59 : decode cX8_word 59 = .ok (.iinc 3 1, 3) := by decide +kernel
theorem dX8_word_62 : decode cX8_word 62 = .ok (.goto (-28), 3) := by decide +kernel
theorem dX8_word_65 : decode cX8_word 65 = .ok (.aload_n 0, 1) := by decide +kernel
theorem dX8_word_66 : decode cX8_word 66 = .ok (.invokevirtual 201, 3) := by decide +kernel
theorem dX8_word_69 : decode cX8_word 69 = .ok (.aload_n 0, 1) := by decide +kernel
theorem dX8_word_70 : decode cX8_word 70 = .ok (.iconst 0, 1) := by decide +kernel
theorem dX8_word_71 : decode cX8_word 71 = .ok (.iload_n 2, 1) := by decide +kernel
theorem dX8_word_72 : decode cX8_word 72 = .ok (.invokevirtual 204, 3) := by decide +kernel
theorem dX8_word_75 : decode cX8_word 75 = .ok (.ireturn, 1) := by decide +kernel
theorem dX8_many_0 : decode cX8_many 0 = .ok (.aload_n 0, 1) := by decide +kernel
theorem dX8_many_1 : decode cX8_many 1 = .ok (.invokevirtual 180, 3) := by decide +kernel
theorem dX8_many_4 : decode cX8_many 4 = .ok (.iconst 0, 1) := by decide +kernel
theorem dX8_many_5 : decode cX8_many 5 = .ok (.istore_n 2, 1) := by decide +kernel
theorem dX8_many_6 : decode cX8_many 6 = .ok (.iconst 0, 1) := by decide +kernel
theorem dX8_many_7 : decode cX8_many 7 = .ok (.istore_n 3, 1) := by decide +kernel
theorem dX8_many_8 : decode cX8_many 8 = .ok (.iconst 0, 1) := by decide +kernel
theorem dX8_many_9 : decode cX8_many 9 = .ok (.istore 4, 2) := by decide +kernel
theorem dX8_many_11 : decode cX8_many 11 = .ok (.iconst 0, 1) := by decide +kernel
theorem dX8_many_12 : decode cX8_many 12 = .ok (.istore 5, 2) := by decide +kernel
theorem dX8_many_14 : decode cX8_many 14 = .ok (.iload 5, 2) := by decide +kernel
theorem dX8_many_16 : decode cX8_many 16 = .ok (.aload_n 0, 1) := by decide +kernel
theorem dX8_many_17 : decode cX8_many 17 = .ok (.getfield 131, 3) := by decide +kernel
theorem dX8_many_20 : decode cX8_many 20 = .ok (.if_icmp .ge 94, 3) := by decide +kernel
theorem dX8_many_23 : decode cX8_many 23 = .ok (.iload_n 2, 1) := by decide +kernel
theorem dX8_many_24 : decode cX8_many 24 = .ok (.aload_n 0, 1) := by decide +kernel
theorem dX8_many_25 : decode cX8_many 25 = .ok (.getfield 37, 3) := by decide +kernel
theorem dX8_many_28 : decode cX8_many 28 = .ok (.iload 5, 2) := by decide +kernel
theorem dX8_many_30 : decode cX8_many 30 = .ok (.iaload, 1) := by decide +kernel
theorem dX8_many_31 : decode cX8_many 31 = .ok (.bipush (-9), 2) := by decide +kernel
theorem dX8_many_33 : decode cX8_many 33 = .ok (.if_icmp .eq 7, 3) := by decide +kernel
theorem dX8_many_36 : decode cX8_many 36 = .ok (.iconst 1, 1) := by decide +kernel
theorem dX8_many_37 : decode cX8_many 37 = .ok (.goto 4, 3) := by decide +kernel
theorem dX8_many_40 : decode cX8_many 40 = .ok (.iconst 0, 1) := by decide +kernel
theorem dX8_many_41 : decode cX8_many 41 = .ok (.iadd, 1) := by decide +kernel
theorem dX8_many_42 : decode cX8_many 42 = .ok (.istore_n 2, 1) := by decide +kernel
theorem dX8_many_43 : decode cX8_many 43 = .ok (.iload_n 3, 1) := by decide +kernel
theorem dX8_many_44 : decode cX8_many 44 = .ok (.aload_n 0, 1) := by decide +kernel
theorem dX8_many_45 : decode cX8_many 45 = .ok (.getfield 50, 3) := by decide +kernel
theorem dX8_many_48 : decode cX8_many 48 = .ok (.iload 5, 2) := by decide +kernel
theorem dX8_many_50 : decode cX8_many 50 = .ok (.baload, 1) := by decide +kernel
theorem dX8_many_51 : decode cX8_many 51 = .ok (.ifCond .eq 7, 3) := by decide +kernel
theorem dX8_many_54 : decode cX8_many 54 = .ok (.iconst 1, 1) := by decide +kernel
theorem dX8_many_55 : decode cX8_many 55 = .ok (.goto 4, 3) := by decide +kernel
theorem dX8_many_58 : decode cX8_many 58 = .ok (.iconst 0, 1) := by decide +kernel
theorem dX8_many_59 : decode cX8_many 59 = .ok (.iadd, 1) := by decide +kernel
theorem dX8_many_60 : decode cX8_many 60 = .ok (.istore_n 3, 1) := by decide +kernel
theorem dX8_many_61 : decode cX8_many 61 = .ok (.iconst 0, 1) := by decide +kernel
theorem dX8_many_62 : decode cX8_many 62 = .ok (.istore 6, 2) := by decide +kernel
theorem dX8_many_64 : decode cX8_many 64 = .ok (.iload 6, 2) := by decide +kernel
theorem dX8_many_66 : decode cX8_many 66 = .ok (.bipush 8, 2) := by decide +kernel
theorem dX8_many_68 : decode cX8_many 68 = .ok (.if_icmp .ge 40, 3) := by decide +kernel
theorem dX8_many_71 : decode cX8_many 71 = .ok (.iload 4, 2) := by decide +kernel
theorem dX8_many_73 : decode cX8_many 73 = .ok (.aload_n 0, 1) := by decide +kernel
theorem dX8_many_74 : decode cX8_many 74 = .ok (.getfield 50, 3) := by decide +kernel
theorem dX8_many_77 : decode cX8_many 77 = .ok (.iload 5, 2) := by decide +kernel
theorem dX8_many_79 : decode cX8_many 79 = .ok (.baload, 1) := by decide +kernel
theorem dX8_many_80 : decode cX8_many 80 = .ok (.ifCond .eq 18, 3) := by decide +kernel
theorem dX8_many_83 : decode cX8_many 83 = .ok (.aload_n 0, 1) := by decide +kernel
theorem dX8_many_84 : decode cX8_many 84 = .ok (.iload 5, 2) := by decide +kernel
theorem dX8_many_86 : decode cX8_many 86 = .ok (.iload 6, 2) := by decide +kernel
theorem dX8_many_88 : decode cX8_many 88 = .ok (.invokevirtual 186, 3) := by decide +kernel
theorem dX8_many_91 : decode cX8_many 91 = .ok (.ifCond .eq 7, 3) := by decide +kernel
theorem dX8_many_94 : decode cX8_many 94 = .ok (.iconst 1, 1) := by decide +kernel
theorem dX8_many_95 : decode cX8_many 95 = .ok (.goto 4, 3) := by decide +kernel
theorem dX8_many_98 : decode cX8_many 98 = .ok (.iconst 0, 1) := by decide +kernel
theorem dX8_many_99 : decode cX8_many 99 = .ok (.iadd, 1) := by decide +kernel
theorem dX8_many_100 : decode cX8_many 100 = .ok (.istore 4, 2) := by decide +kernel
theorem dX8_many_102 : decode cX8_many 102 = .ok (.iinc 6 1, 3) := by decide +kernel
theorem dX8_many_105 : decode cX8_many 105 = .ok (.goto (-41), 3) := by decide +kernel
theorem dX8_many_108 : decode cX8_many 108 = .ok (.iinc 5 1, 3) := by decide +kernel
theorem dX8_many_111 : decode cX8_many 111 = .ok (.goto (-97), 3) := by decide +kernel
theorem dX8_many_114 : decode cX8_many 114 = .ok (.iload_n 1, 1) := by decide +kernel
theorem dX8_many_115 : decode cX8_many 115 = .ok (.tableswitch 89 0 7 #[45, 50, 55, 72, 74, 76, 81, 86], 45) := by decide +kernel
theorem dX8_many_160 : decode cX8_many 160 = .ok (.aload_n 0, 1) := by decide +kernel
theorem dX8_many_161 : decode cX8_many 161 = .ok (.getfield 96, 3) := by decide +kernel
theorem dX8_many_164 : decode cX8_many 164 = .ok (.ireturn, 1) := by decide +kernel
theorem dX8_many_165 : decode cX8_many 165 = .ok (.aload_n 0, 1) := by decide +kernel
theorem dX8_many_166 : decode cX8_many 166 = .ok (.getfield 63, 3) := by decide +kernel
theorem dX8_many_169 : decode cX8_many 169 = .ok (.ireturn, 1) := by decide +kernel
theorem dX8_many_170 : decode cX8_many 170 = .ok (.aload_n 0, 1) := by decide +kernel
theorem dX8_many_171 : decode cX8_many 171 = .ok (.getfield 131, 3) := by decide +kernel
theorem dX8_many_174 : decode cX8_many 174 = .ok (.ifCond .ne 8, 3) := by decide +kernel
theorem dX8_many_177 : decode cX8_many 177 = .ok (.bipush (-9), 2) := by decide +kernel
theorem dX8_many_179 : decode cX8_many 179 = .ok (.goto 7, 3) := by decide +kernel
theorem dX8_many_182 : decode cX8_many 182 = .ok (.aload_n 0, 1) := by decide +kernel
theorem dX8_many_183 : decode cX8_many 183 = .ok (.getfield 131, 3) := by decide +kernel
theorem dX8_many_186 : decode cX8_many 186 = .ok (.ireturn, 1) := by decide +kernel
theorem dX8_many_187 : decode cX8_many 187 = .ok (.iload_n 2, 1) := by decide +kernel
theorem dX8_many_188 : decode cX8_many 188 = .ok (.ireturn, 1) := by decide +kernel
theorem dX8_many_189 : decode cX8_many 189 = .ok (.iload_n 3, 1) := by decide +kernel
theorem dX8_many_190 : decode cX8_many 190 = .ok (.ireturn, 1) := by decide +kernel
theorem dX8_many_191 : decode cX8_many 191 = .ok (.aload_n 0, 1) := by decide +kernel
theorem dX8_many_192 : decode cX8_many 192 = .ok (.getfield 162, 3) := by decide +kernel
theorem dX8_many_195 : decode cX8_many 195 = .ok (.ireturn, 1) := by decide +kernel
theorem dX8_many_196 : decode cX8_many 196 = .ok (.aload_n 0, 1) := by decide +kernel
theorem dX8_many_197 : decode cX8_many 197 = .ok (.getfield 112, 3) := by decide +kernel
theorem dX8_many_200 : decode cX8_many 200 = .ok (.ireturn, 1) := by decide +kernel
theorem dX8_many_201 : decode cX8_many 201 = .ok (.iload 4, 2) := by decide +kernel
theorem dX8_many_203 : decode cX8_many 203 = .ok (.ireturn, 1) := by decide +kernel
theorem dX8_many_204 : decode cX8_many 204 = .ok (.bipush (-2), 2) := by decide +kernel
theorem dX8_many_206 : decode cX8_many 206 = .ok (.ireturn, 1) := by decide +kernel
end
section
/-! THE TWO GRAPHS. Γ1: LeastBars. 0 the object; 1 Tape, 2 its codes; 3 Reader; 4 Machine[]; 5+3m Machine m, 6+3m its targets, 7+3m its stepSets; 23 net, 24.. its arrays; 34 part, 35.. its arrays; 45 nothingLost; 46 Losses, 47.. ; 52 Control, 53.. ; 57 Trail, 58 its places. Γ2: LeastBarsModel: 0 the object, 1.. its arrays. -/
abbrev gI (n : Nat) : Gc := .inl (0, n, [])
abbrev gZ (n : Nat) : Gc := .inl (1, n, [])
abbrev gM (a : Nat) : Gc := .inr (2, [a + 1 + 1, a + 2 + 1, 0, 0, 0, 0, 0])
abbrev gN (b : Nat) : Gc := .inr (3, [b + 1 + 1, b + 2 + 1, b + 3 + 1, b + 4 + 1, b + 5 + 1, b + 6 + 1, b + 7 + 1, b + 8 + 1, b + 9 + 1, b + 10 + 1, 0, 0, 0, 0, 0])
def Γ1 : List Gc := [.inr (7, [2, 4, 5, 24, 35, 46, 47, 53, 58, 0, 0, 0]), .inr (5, [3, 0]), gI 60, .inr (4, [0, 0, 0]), .inl (2, 6, [5, 8, 11, 14, 17, 20]),
  gM 5, gI 48, gI 6, gM 8, gI 48, gI 6, gM 11, gI 48, gI 6, gM 14, gI 48, gI 6, gM 17, gI 48, gI 6, gM 20, gI 48, gI 6,
  gN 23, gI 150, gI 150, gI 150, gZ 150, gI 1200, gI 150, gI 1200, gI 256, gI 150, gI 150,
  gN 34, gI 150, gI 150, gI 150, gZ 150, gI 1200, gI 150, gI 1200, gI 256, gI 150, gI 150,
  gI 150, .inr (1, [48, 49, 50, 51, 52, 0, 0]), gI 150, gI 150, gI 150, gI 150, gI 151, .inr (0, [54, 55, 56, 57, 0, 0]), gI 150, gI 150, gI 150, gI 150, .inr (6, [59, 0, 0, 0]), gI 16]
def Γ2 : List Gc := [.inr (8, [2, 0, 0, 3, 4, 5, 6, 7, 8, 0, 0, 0, 9, 10, 0, 11, 12, 13, 14, 15, 0, 0, 0, 16, 17]), gI 60, gI 6, gI 6, gI 6, gI 6, gI 6, gI 288, gI 150, gI 1200, gI 150, gI 150, gI 150, gZ 150, gZ 150, gI 16, gI 150]
/-- a Machine, a Net of Γ1 at a cell -/
def IsM (a : Nat) : Prop := Γ1[a]? = some (gM a) ∧ Γ1[a + 1]? = some (gI 48) ∧ Γ1[a + 2]? = some (gI 6)
def IsN (b : Nat) : Prop := Γ1[b]? = some (gN b) ∧ Γ1[b + 1]? = some (gI 150) ∧ Γ1[b + 2]? = some (gI 150) ∧ Γ1[b + 3]? = some (gI 150) ∧ Γ1[b + 4]? = some (gZ 150) ∧ Γ1[b + 5]? = some (gI 1200) ∧ Γ1[b + 6]? = some (gI 150) ∧ Γ1[b + 7]? = some (gI 1200) ∧ Γ1[b + 8]? = some (gI 256) ∧ Γ1[b + 9]? = some (gI 150) ∧ Γ1[b + 10]? = some (gI 150)
theorem isN_net : IsN 23 := ⟨rfl, rfl, rfl, rfl, rfl, rfl, rfl, rfl, rfl, rfl, rfl⟩
theorem isN_part : IsN 34 := ⟨rfl, rfl, rfl, rfl, rfl, rfl, rfl, rfl, rfl, rfl, rfl⟩
theorem isM_at {m : Nat} (h : m < 6) : IsM (5 + 3 * m) ∧ ([5, 8, 11, 14, 17, 20] : List Nat)[m]? = some (5 + 3 * m) := by
  match m, h with
  | 0, _ => exact ⟨⟨rfl, rfl, rfl⟩, rfl⟩
  | 1, _ => exact ⟨⟨rfl, rfl, rfl⟩, rfl⟩
  | 2, _ => exact ⟨⟨rfl, rfl, rfl⟩, rfl⟩
  | 3, _ => exact ⟨⟨rfl, rfl, rfl⟩, rfl⟩
  | 4, _ => exact ⟨⟨rfl, rfl, rfl⟩, rfl⟩
  | 5, _ => exact ⟨⟨rfl, rfl, rfl⟩, rfl⟩
/-! the numbers' table -/
theorem m_row (σ : Mm) (a k : Nat) (v : Int32) : m_up σ a k v a = upd (σ a) k v := by simp [m_up]
theorem m_eq (σ : Mm) (a k : Nat) (v : Int32) : m_up σ a k v a k = v := by simp [m_up, upd]
theorem m_ne {σ : Mm} {a k x : Nat} {v : Int32} (h : x ≠ a) : m_up σ a k v x = σ x := by simp [m_up, h]
theorem m_nk {σ : Mm} {a k j : Nat} {v : Int32} (h : j ≠ k) : m_up σ a k v a j = σ a j := by simp [m_up, upd, h]
theorem m_nx {σ : Mm} {a k x j : Nat} {v : Int32} (h : ¬ (x = a ∧ j = k)) : m_up σ a k v x j = σ x j := by
  by_cases hx : x = a
  · subst hx
    exact m_nk (fun e => h ⟨rfl, e⟩)
  · rw [m_ne hx]
theorem m_at (σ : Mm) (a k x j : Nat) (v : Int32) : m_up σ a k v x j = if x = a ∧ j = k then v else σ x j := by
  by_cases h : x = a ∧ j = k
  · rw [if_pos h, h.1, h.2, m_eq]
  · rw [if_neg h, m_nx h]
/-! contracts that come often: a condition, a value, the numbers behind -/
def bz (c : Prop) (σ : Mm) : Int32 → Mm → Prop := fun r σ' => σ = σ' ∧ ((c ∧ r = 1) ∨ (¬ c ∧ r = 0))
def vz (v : Int32) (σ : Mm) : Int32 → Mm → Prop := fun r σ' => σ = σ' ∧ r = v
def mz (σ : Mm) : Int32 → Mm → Prop := fun _ σ' => σ = σ'
section R2
variable {Γ : List Gc} {d : Nat} {own : String} {cc : ByteArray} {nL : Nat} {ret : Option FieldType} {post : Int32 → Mm → Prop} {pc : Nat} {L : List (Option Vl)} {st : List Vl} {σ : Mm}
theorem j_iinc1 {i : Nat} {x : Int32} (hd : decode cc pc = .ok (.iinc i 1, 3)) (h : L[i]? = some (some (.inl x))) (k : AJ Γ d own cc nL ret post (pc + 3) (L.set i (some (.inl (x + 1)))) st σ) : AJ Γ d own cc nL ret post pc L st σ := j_iinc (v := x + 1) hd h rfl k
/-- the stack's uppermost number, the second, under another name -/
theorem j_top {x y : Int32} (h : x = y) (k : AJ Γ d own cc nL ret post pc L (.inl y :: st) σ) : AJ Γ d own cc nL ret post pc L (.inl x :: st) σ := by subst h; exact k
theorem j_top2 {x y : Int32} {v : Vl} (h : x = y) (k : AJ Γ d own cc nL ret post pc L (v :: .inl y :: st) σ) : AJ Γ d own cc nL ret post pc L (v :: .inl x :: st) σ := by subst h; exact k
theorem j_mem {σ' : Mm} (h : σ = σ') (k : AJ Γ d own cc nL ret post pc L st σ') : AJ Γ d own cc nL ret post pc L st σ := by subst h; exact k
theorem AJ.mono {post' : Int32 → Mm → Prop} (h : ∀ r σ', post' r σ' → post r σ') (k : AJ Γ d own cc nL ret post' pc L st σ) : AJ Γ d own cc nL ret post pc L st σ := by
  intro D t ρ A p l e s m args below meth c H locs ls C hP hD hS hl T hT X
  obtain ⟨u, h1, o, h2, h3, h4, h5⟩ := k D t ρ A p l e s m args below meth c H locs ls C hP hD hS hl T hT X
  refine ⟨u, h1, o, h2, h3, ?_, h5⟩
  cases ret with
  | none =>
    obtain ⟨⟨σ', e1, e2, e3⟩, e4⟩ := h4
    exact ⟨⟨σ', e1, h _ _ e2, e3⟩, e4⟩
  | some ty =>
    obtain ⟨⟨r, σ', e1, e2, e3⟩, e4⟩ := h4
    exact ⟨⟨r, σ', e1, h _ _ e2, e3⟩, e4⟩
end R2
theorem EV.mono {Γ : List Gc} {d : Nat} {y : MethodName} {cc : ByteArray} {nL : Nat} {ret : Option FieldType} {As : List Vl} {σ : Mm} {post post' : Int32 → Mm → Prop} (h : ∀ r σ', post r σ' → post' r σ') (k : EV Γ d y cc nL ret As σ post) : EV Γ d y cc nL ret As σ post' := by
  intro l D t ρ sz
  refine MetFree.mono (k l D t ρ sz) (fun a st hq => hq) (fun _ _ _ _ _ hq => hq) (fun a st o u _ hq => ⟨?_, hq.2⟩)
  have hq := hq.1
  cases ret with
  | none =>
    obtain ⟨⟨σ', e1, e2, e3⟩, e4⟩ := hq
    exact ⟨⟨σ', e1, h _ _ e2, e3⟩, e4⟩
  | some ty =>
    obtain ⟨⟨r, σ', e1, e2, e3⟩, e4⟩ := hq
    exact ⟨⟨r, σ', e1, h _ _ e2, e3⟩, e4⟩
theorem EV.introF {Γ : List Gc} {d : Nat} {y : MethodName} {cc : ByteArray} {nL : Nat} {ret : Option FieldType} {As : List Vl} {σ : Mm} {post : Int32 → Mm → Prop} (hy : plainFor y = true) (hn : As.length ≤ nL)
    (h : AJ Γ d y.cls cc nL ret post 0 (L0 As nL) [] σ) : EV Γ d y cc nL ret As σ post := by
  intro l D t ρ sz
  refine va_MetF (cc := cc) (maxL := nL) (ret := ret) hy rfl ?_
  intro p e s m args below meth c s₁ B hml hv
  obtain ⟨rfl, hsz, hP, hK, hD0, hN⟩ := hv
  have hx := B.exec
  have hb := B.bytes
  have hr := B.returns
  have hts := atoms_spec (ws := Cond.code y cc nL ret :: WS) B.pre
  have hown : s.vm.findClass y.cls = some m.cls := findClass_of_methodNamed B.named
  have hlocks : meth.locks = false := B.notSynchronized
  subst hsz
  have hD := hD0.self (sz := s.heap.size)
  rw [lg_entry_eq]
  exact h D t ρ _ p l e s m _ below meth c s.heap [] _ ⟨hx, hb, hml, hown, hr, hlocks, fun w hw => hts w (List.mem_cons_of_mem _ hw), hN, hK, fun q hq => Or.inr hq⟩ hP hD va_S.rf (lvR.entry ρ As hn)
/-! numbers -/
theorem ti_0 : (0 : Int32).toInt = 0 := rfl
theorem ti_m1 : (-1 : Int32).toInt = -1 := rfl
theorem ti_m2 : (-2 : Int32).toInt = -2 := rfl
theorem ti_m3 : (-3 : Int32).toInt = -3 := rfl
theorem ti_m4 : (-4 : Int32).toInt = -4 := rfl
theorem ti_m9 : (-9 : Int32).toInt = -9 := rfl
theorem ti_1 : (1 : Int32).toInt = 1 := rfl
theorem ti_2 : (2 : Int32).toInt = 2 := rfl
theorem ti_3 : (3 : Int32).toInt = 3 := rfl
theorem ti_5 : (5 : Int32).toInt = 5 := rfl
theorem ti_6 : (6 : Int32).toInt = 6 := rfl
theorem ti_7 : (7 : Int32).toInt = 7 := rfl
theorem ti_8 : (8 : Int32).toInt = 8 := rfl
theorem ti_16 : (16 : Int32).toInt = 16 := rfl
theorem ti_48 : (48 : Int32).toInt = 48 := rfl
theorem ti_53 : (53 : Int32).toInt = 53 := rfl
theorem ti_60 : (60 : Int32).toInt = 60 := rfl
theorem ti_97 : (97 : Int32).toInt = 97 := rfl
theorem ti_104 : (104 : Int32).toInt = 104 := rfl
theorem ti_127 : (127 : Int32).toInt = 127 := rfl
theorem ti_149 : (149 : Int32).toInt = 149 := rfl
theorem ti_150 : (150 : Int32).toInt = 150 := rfl
theorem ti_151 : (151 : Int32).toInt = 151 := rfl
theorem ti_256 : (256 : Int32).toInt = 256 := rfl
theorem ti_1200 : (1200 : Int32).toInt = 1200 := rfl
theorem vin_mk {x M : Int32} {N : Nat} (hM : M.toInt = N) (h0 : ¬ x < 0) (h1 : ¬ M ≤ x) : vp_in x N := by
  rw [vp_in_iff]
  rw [Int32.lt_iff_toInt_lt] at h0
  rw [Int32.le_iff_toInt_le] at h1
  rw [ti_0] at h0
  omega
end
section
/-! rows on bits, shifts and unsigned numbers, to paste: each family out of a closed proof of our own, whole with what it rests on; each by itself clean at Lean in its own claim (generation 39, form 5). Take a family whole -/
/-! ===== Int32 by its bits: bt x i ===== -/
def bt (x : Int32) (i : Nat) : Bool := x.toBitVec.getLsbD i
theorem b_ext {x y : Int32} (h : ∀ i, i < 32 → bt x i = bt y i) : x = y := Int32.toBitVec_inj.mp (BitVec.eq_of_getLsbD_eq (fun i hi => h i hi))
theorem b_or (x y : Int32) (i : Nat) : bt (x ||| y) i = (bt x i || bt y i) := by unfold bt; rw [Int32.toBitVec_or, BitVec.getLsbD_or]
theorem b_and (x y : Int32) (i : Nat) : bt (x &&& y) i = (bt x i && bt y i) := by unfold bt; rw [Int32.toBitVec_and, BitVec.getLsbD_and]
theorem b_xor (x y : Int32) (i : Nat) : bt (x ^^^ y) i = (bt x i ^^ bt y i) := by unfold bt; rw [Int32.toBitVec_xor, BitVec.getLsbD_xor]
theorem b_big {x : Int32} {i : Nat} (h : 32 ≤ i) : bt x i = false := BitVec.getLsbD_of_ge _ _ h
theorem b_m1 : ∀ i, i < 32 → bt (-1) i = true := by decide +kernel
theorem b_0 (i : Nat) : bt 0 i = false := BitVec.getLsbD_zero
theorem s_l : ∀ n, n < 32 → ((nI n &&& 31).toBitVec.smod 32).toNat = n := by decide +kernel
theorem s_u : ∀ n, n < 32 → (((nI n).toUInt32 &&& Int32.toUInt32 31).toBitVec % 32).toNat = n := by decide +kernel
theorem b_shl (n : Nat) (hn : n < 32) (x : Int32) {i : Nat} (hi : i < 32) : bt (x <<< (nI n &&& 31)) i = (decide (n ≤ i) && bt x (i - n)) := by
  unfold bt
  rw [Int32.toBitVec_shiftLeft]
  show (x.toBitVec <<< ((nI n &&& 31).toBitVec.smod 32).toNat).getLsbD i = _
  rw [s_l n hn, BitVec.getLsbD_shiftLeft]
  rcases Nat.lt_or_ge i n with h | h
  · simp [h, Nat.not_le.mpr h]
  · simp [hi, h, Nat.not_lt.mpr h]
theorem b_ushr (n : Nat) (hn : n < 32) (x : Int32) (i : Nat) : bt ((x.toUInt32 >>> ((nI n).toUInt32 &&& Int32.toUInt32 31)).toInt32) i = bt x (n + i) := by
  show (x.toUInt32 >>> ((nI n).toUInt32 &&& Int32.toUInt32 31)).toBitVec.getLsbD i = x.toUInt32.toBitVec.getLsbD (n + i)
  rw [UInt32.toBitVec_shiftRight]
  show (x.toUInt32.toBitVec >>> (((nI n).toUInt32 &&& Int32.toUInt32 31).toBitVec % 32).toNat).getLsbD i = _
  rw [s_u n hn, BitVec.getLsbD_ushiftRight]
theorem b_sshr (n : Nat) (hn : n < 32) (x : Int32) {i : Nat} (hi : i < 32) : bt (x >>> (nI n &&& 31)) i = if n + i < 32 then bt x (n + i) else bt x 31 := by
  unfold bt
  rw [Int32.toBitVec_shiftRight]
  show (x.toBitVec.sshiftRight ((nI n &&& 31).toBitVec.smod 32).toNat).getLsbD i = _
  rw [s_l n hn, BitVec.getLsbD_sshiftRight, BitVec.msb_eq_getLsbD_last]
  simp [hi]
/-! own rows on bits -/
theorem b_1 : ∀ i, i < 32 → bt 1 i = decide (i = 0) := by decide +kernel
theorem isin_iff {x : Int32} {j : Nat} (hj : j < 32) : (x >>> (nI j &&& 31)) &&& 1 = 1 ↔ bt x j = true := by
  constructor
  · intro h
    have h1 := congrArg (fun z => bt z 0) h
    simp only [b_and, b_sshr j hj x (i := 0) (by decide), b_1 0 (by decide)] at h1
    simpa [hj] using h1
  · intro h
    apply b_ext
    intro i hi
    rw [b_and, b_1 i hi]
    by_cases h0 : i = 0
    · subst h0
      rw [b_sshr j hj x (by decide)]
      simp [hj, h]
    · simp [h0]
theorem isin_0 {x : Int32} {j : Nat} (hj : j < 32) : (x >>> (nI j &&& 31)) &&& 1 = 0 ↔ bt x j = false := by
  constructor
  · intro h
    have h1 := congrArg (fun z => bt z 0) h
    simp only [b_and, b_sshr j hj x (i := 0) (by decide), b_1 0 (by decide), b_0] at h1
    simpa [hj] using h1
  · intro h
    apply b_ext
    intro i hi
    rw [b_and, b_1 i hi, b_0]
    by_cases h0 : i = 0
    · subst h0
      rw [b_sshr j hj x (by decide)]
      simp [hj, h]
    · simp [h0]
theorem isin_bit {x : Int32} {j : Nat} (hj : j < 32) : (x >>> (nI j &&& 31)) &&& 1 = if bt x j = true then 1 else 0 := by
  by_cases h : bt x j = true
  · rw [if_pos h]; exact (isin_iff hj).mpr h
  · rw [if_neg h]; exact (isin_0 hj).mpr (by simpa using h)
theorem b_bit (j : Nat) (hj : j < 32) {i : Nat} (hi : i < 32) : bt ((1 : Int32) <<< (nI j &&& 31)) i = decide (i = j) := by
  rw [b_shl j hj 1 hi, b_1 _ (by omega)]
  by_cases h : i = j
  · simp [h]
  · by_cases h2 : j ≤ i
    · have : ¬ i - j = 0 := by omega
      simp [h, this]
    · simp [h, h2]
theorem b_not (x : Int32) {i : Nat} (hi : i < 32) : bt (x ^^^ (-1)) i = !(bt x i) := by
  rw [b_xor, b_m1 i hi]
  cases bt x i <;> rfl
/-- the least of the first eight of which p holds -/
def lstE (p : Nat → Bool) : Int32 := match (List.range 8).find? p with
  | some e => nI e
  | none => -9
theorem range_find {p : Nat → Bool} {e : Nat} : ∀ N : Nat, e < N → p e = true → (∀ j, j < e → p j = false) → (List.range N).find? p = some e := by
  intro N he hp hj
  rw [List.find?_eq_some_iff_append]
  refine ⟨hp, List.range e, (List.range (N - e - 1)).map (e + 1 + ·), ?_, ?_⟩
  · have h1 : N = e + (N - e) := by omega
    have h2 : N - e = 1 + (N - e - 1) := by omega
    conv => lhs; rw [h1, List.range_add]
    rw [h2, List.range_add]
    simp [List.range_succ, Function.comp_def]
    intro a ha
    omega
  · intro a ha
    have := hj a (List.mem_range.mp ha)
    simp [this]
theorem lst_hit {p : Nat → Bool} {e : Nat} (he : e < 8) (hp : p e = true) (hj : ∀ j, j < e → p j = false) : lstE p = nI e := by
  unfold lstE
  rw [range_find 8 he hp hj]
theorem lst_none {p : Nat → Bool} (hj : ∀ j, j < 8 → p j = false) : lstE p = -9 := by
  unfold lstE
  have : (List.range 8).find? p = none := by
    rw [List.find?_eq_none]
    intro a ha
    have := hj a (List.mem_range.mp ha)
    simp [this]
  rw [this]
theorem lst_cases (p : Nat → Bool) : (∃ e, e < 8 ∧ p e = true ∧ (∀ j, j < e → p j = false) ∧ lstE p = nI e) ∨ ((∀ j, j < 8 → p j = false) ∧ lstE p = -9) := by
  by_cases h : ∀ j, j < 8 → p j = false
  · exact Or.inr ⟨h, lst_none h⟩
  · have h2 : ∃ e, e < 8 ∧ p e = true := by
      apply Classical.byContradiction
      intro q
      apply h
      intro j hj
      cases hp : p j with
      | false => rfl
      | true => exact absurd ⟨j, hj, hp⟩ q
    obtain ⟨e, ⟨h3, h4⟩, h5⟩ := pk_least (fun e => e < 8 ∧ p e = true) h2
    refine Or.inl ⟨e, h3, h4, fun j hj => ?_, ?_⟩
    · cases hp : p j with
      | false => rfl
      | true => exact absurd ⟨by omega, hp⟩ (h5 j hj)
    · refine lst_hit h3 h4 (fun j hj => ?_)
      cases hp : p j with
      | false => rfl
      | true => exact absurd ⟨by omega, hp⟩ (h5 j hj)
end
section
/-! small static methods of LeastBars, and of the JDK -/
theorem c_X7_isState (s : Int32) (σ : Mm) : EV Γ1 0 yX7_isState cX7_isState 1 (some .boolean) [.inl s] σ (bz (vp_in s 6) σ) := by
  refine EV.intro (by decide +kernel) (Nat.le_of_ble_eq_true rfl) ?_
  refine j_iload_n (pc := 0) dX7_isState_0 rfl ?_
  refine j_if_lt (pc := 1) (tgt := 14) dX7_isState_1 rfl (fun h1 => ?_) (fun h1 => ?_)
  · refine j_iconst (pc := 14) dX7_isState_14 (v := 0) (by decide) ?_
    refine j_zret (pc := 15) dX7_isState_15 (Or.inl rfl) ?_
    exact ⟨rfl, Or.inr ⟨by (simp only [Int32.lt_iff_toInt_lt, Int32.le_iff_toInt_le, ← Int32.toInt_inj, vp_in_iff, ti_0, ti_1, ti_2, ti_3, ti_5, ti_6, ti_7, ti_8, ti_16, ti_48, ti_53, ti_60, ti_97, ti_104, ti_127, ti_149, ti_150, ti_151, ti_256, ti_1200, ti_m1, ti_m2, ti_m3, ti_m4, ti_m9] at *; omega), rfl⟩⟩
  · refine j_iload_n (pc := 4) dX7_isState_4 rfl ?_
    refine j_bipush (pc := 5) dX7_isState_5 (v := 6) (by decide) ?_
    refine j_icmp_ge (pc := 7) (tgt := 14) dX7_isState_7 rfl (fun h7 => ?_) (fun h7 => ?_)
    · refine j_iconst (pc := 14) dX7_isState_14 (v := 0) (by decide) ?_
      refine j_zret (pc := 15) dX7_isState_15 (Or.inl rfl) ?_
      exact ⟨rfl, Or.inr ⟨by (simp only [Int32.lt_iff_toInt_lt, Int32.le_iff_toInt_le, ← Int32.toInt_inj, vp_in_iff, ti_0, ti_1, ti_2, ti_3, ti_5, ti_6, ti_7, ti_8, ti_16, ti_48, ti_53, ti_60, ti_97, ti_104, ti_127, ti_149, ti_150, ti_151, ti_256, ti_1200, ti_m1, ti_m2, ti_m3, ti_m4, ti_m9] at *; omega), rfl⟩⟩
    · refine j_iconst (pc := 10) dX7_isState_10 (v := 1) (by decide) ?_
      refine j_goto (pc := 11) (tgt := 15) dX7_isState_11 rfl ?_
      refine j_zret (pc := 15) dX7_isState_15 (Or.inr rfl) ?_
      exact ⟨rfl, Or.inl ⟨by (simp only [Int32.lt_iff_toInt_lt, Int32.le_iff_toInt_le, ← Int32.toInt_inj, vp_in_iff, ti_0, ti_1, ti_2, ti_3, ti_5, ti_6, ti_7, ti_8, ti_16, ti_48, ti_53, ti_60, ti_97, ti_104, ti_127, ti_149, ti_150, ti_151, ti_256, ti_1200, ti_m1, ti_m2, ti_m3, ti_m4, ti_m9] at *; omega), rfl⟩⟩
theorem c_X7_isEvent (s : Int32) (σ : Mm) : EV Γ1 0 yX7_isEvent cX7_isEvent 1 (some .boolean) [.inl s] σ (bz (vp_in s 8) σ) := by
  refine EV.intro (by decide +kernel) (Nat.le_of_ble_eq_true rfl) ?_
  refine j_iload_n (pc := 0) dX7_isEvent_0 rfl ?_
  refine j_if_lt (pc := 1) (tgt := 14) dX7_isEvent_1 rfl (fun h1 => ?_) (fun h1 => ?_)
  · refine j_iconst (pc := 14) dX7_isEvent_14 (v := 0) (by decide) ?_
    refine j_zret (pc := 15) dX7_isEvent_15 (Or.inl rfl) ?_
    exact ⟨rfl, Or.inr ⟨by (simp only [Int32.lt_iff_toInt_lt, Int32.le_iff_toInt_le, ← Int32.toInt_inj, vp_in_iff, ti_0, ti_1, ti_2, ti_3, ti_5, ti_6, ti_7, ti_8, ti_16, ti_48, ti_53, ti_60, ti_97, ti_104, ti_127, ti_149, ti_150, ti_151, ti_256, ti_1200, ti_m1, ti_m2, ti_m3, ti_m4, ti_m9] at *; omega), rfl⟩⟩
  · refine j_iload_n (pc := 4) dX7_isEvent_4 rfl ?_
    refine j_bipush (pc := 5) dX7_isEvent_5 (v := 8) (by decide) ?_
    refine j_icmp_ge (pc := 7) (tgt := 14) dX7_isEvent_7 rfl (fun h7 => ?_) (fun h7 => ?_)
    · refine j_iconst (pc := 14) dX7_isEvent_14 (v := 0) (by decide) ?_
      refine j_zret (pc := 15) dX7_isEvent_15 (Or.inl rfl) ?_
      exact ⟨rfl, Or.inr ⟨by (simp only [Int32.lt_iff_toInt_lt, Int32.le_iff_toInt_le, ← Int32.toInt_inj, vp_in_iff, ti_0, ti_1, ti_2, ti_3, ti_5, ti_6, ti_7, ti_8, ti_16, ti_48, ti_53, ti_60, ti_97, ti_104, ti_127, ti_149, ti_150, ti_151, ti_256, ti_1200, ti_m1, ti_m2, ti_m3, ti_m4, ti_m9] at *; omega), rfl⟩⟩
    · refine j_iconst (pc := 10) dX7_isEvent_10 (v := 1) (by decide) ?_
      refine j_goto (pc := 11) (tgt := 15) dX7_isEvent_11 rfl ?_
      refine j_zret (pc := 15) dX7_isEvent_15 (Or.inr rfl) ?_
      exact ⟨rfl, Or.inl ⟨by (simp only [Int32.lt_iff_toInt_lt, Int32.le_iff_toInt_le, ← Int32.toInt_inj, vp_in_iff, ti_0, ti_1, ti_2, ti_3, ti_5, ti_6, ti_7, ti_8, ti_16, ti_48, ti_53, ti_60, ti_97, ti_104, ti_127, ti_149, ti_150, ti_151, ti_256, ti_1200, ti_m1, ti_m2, ti_m3, ti_m4, ti_m9] at *; omega), rfl⟩⟩
theorem c_X7_isJoint (s : Int32) (σ : Mm) : EV Γ1 0 yX7_isJoint cX7_isJoint 1 (some .boolean) [.inl s] σ (bz (vp_in s 150) σ) := by
  refine EV.intro (by decide +kernel) (Nat.le_of_ble_eq_true rfl) ?_
  refine j_iload_n (pc := 0) dX7_isJoint_0 rfl ?_
  refine j_if_lt (pc := 1) (tgt := 15) dX7_isJoint_1 rfl (fun h1 => ?_) (fun h1 => ?_)
  · refine j_iconst (pc := 15) dX7_isJoint_15 (v := 0) (by decide) ?_
    refine j_zret (pc := 16) dX7_isJoint_16 (Or.inl rfl) ?_
    exact ⟨rfl, Or.inr ⟨by (simp only [Int32.lt_iff_toInt_lt, Int32.le_iff_toInt_le, ← Int32.toInt_inj, vp_in_iff, ti_0, ti_1, ti_2, ti_3, ti_5, ti_6, ti_7, ti_8, ti_16, ti_48, ti_53, ti_60, ti_97, ti_104, ti_127, ti_149, ti_150, ti_151, ti_256, ti_1200, ti_m1, ti_m2, ti_m3, ti_m4, ti_m9] at *; omega), rfl⟩⟩
  · refine j_iload_n (pc := 4) dX7_isJoint_4 rfl ?_
    refine j_sipush (pc := 5) dX7_isJoint_5 (v := 150) (by decide) ?_
    refine j_icmp_ge (pc := 8) (tgt := 15) dX7_isJoint_8 rfl (fun h8 => ?_) (fun h8 => ?_)
    · refine j_iconst (pc := 15) dX7_isJoint_15 (v := 0) (by decide) ?_
      refine j_zret (pc := 16) dX7_isJoint_16 (Or.inl rfl) ?_
      exact ⟨rfl, Or.inr ⟨by (simp only [Int32.lt_iff_toInt_lt, Int32.le_iff_toInt_le, ← Int32.toInt_inj, vp_in_iff, ti_0, ti_1, ti_2, ti_3, ti_5, ti_6, ti_7, ti_8, ti_16, ti_48, ti_53, ti_60, ti_97, ti_104, ti_127, ti_149, ti_150, ti_151, ti_256, ti_1200, ti_m1, ti_m2, ti_m3, ti_m4, ti_m9] at *; omega), rfl⟩⟩
    · refine j_iconst (pc := 11) dX7_isJoint_11 (v := 1) (by decide) ?_
      refine j_goto (pc := 12) (tgt := 16) dX7_isJoint_12 rfl ?_
      refine j_zret (pc := 16) dX7_isJoint_16 (Or.inr rfl) ?_
      exact ⟨rfl, Or.inl ⟨by (simp only [Int32.lt_iff_toInt_lt, Int32.le_iff_toInt_le, ← Int32.toInt_inj, vp_in_iff, ti_0, ti_1, ti_2, ti_3, ti_5, ti_6, ti_7, ti_8, ti_16, ti_48, ti_53, ti_60, ti_97, ti_104, ti_127, ti_149, ti_150, ti_151, ti_256, ti_1200, ti_m1, ti_m2, ti_m3, ti_m4, ti_m9] at *; omega), rfl⟩⟩
theorem c_X7_isPlaceInWord (k : Int32) (σ : Mm) : EV Γ1 0 yX7_isPlaceInWord cX7_isPlaceInWord 1 (some .boolean) [.inl k] σ (bz (k = -9 ∨ vp_in k 150) σ) := by
  refine EV.intro (by decide +kernel) (Nat.le_of_ble_eq_true rfl) ?_
  refine j_iload_n (pc := 0) dX7_isPlaceInWord_0 rfl ?_
  refine j_bipush (pc := 1) dX7_isPlaceInWord_1 (v := (-9)) (by decide) ?_
  refine j_icmp_eq (pc := 3) (tgt := 17) dX7_isPlaceInWord_3 rfl (fun h3 => ?_) (fun h3 => ?_)
  · refine j_iconst (pc := 17) dX7_isPlaceInWord_17 (v := 1) (by decide) ?_
    refine j_goto (pc := 18) (tgt := 22) dX7_isPlaceInWord_18 rfl ?_
    refine j_zret (pc := 22) dX7_isPlaceInWord_22 (Or.inr rfl) ?_
    exact ⟨rfl, Or.inl ⟨by (simp only [Int32.lt_iff_toInt_lt, Int32.le_iff_toInt_le, ← Int32.toInt_inj, vp_in_iff, ti_0, ti_1, ti_2, ti_3, ti_5, ti_6, ti_7, ti_8, ti_16, ti_48, ti_53, ti_60, ti_97, ti_104, ti_127, ti_149, ti_150, ti_151, ti_256, ti_1200, ti_m1, ti_m2, ti_m3, ti_m4, ti_m9] at *; omega), rfl⟩⟩
  · refine j_iload_n (pc := 6) dX7_isPlaceInWord_6 rfl ?_
    refine j_if_lt (pc := 7) (tgt := 21) dX7_isPlaceInWord_7 rfl (fun h7 => ?_) (fun h7 => ?_)
    · refine j_iconst (pc := 21) dX7_isPlaceInWord_21 (v := 0) (by decide) ?_
      refine j_zret (pc := 22) dX7_isPlaceInWord_22 (Or.inl rfl) ?_
      exact ⟨rfl, Or.inr ⟨by (simp only [Int32.lt_iff_toInt_lt, Int32.le_iff_toInt_le, ← Int32.toInt_inj, vp_in_iff, ti_0, ti_1, ti_2, ti_3, ti_5, ti_6, ti_7, ti_8, ti_16, ti_48, ti_53, ti_60, ti_97, ti_104, ti_127, ti_149, ti_150, ti_151, ti_256, ti_1200, ti_m1, ti_m2, ti_m3, ti_m4, ti_m9] at *; omega), rfl⟩⟩
    · refine j_iload_n (pc := 10) dX7_isPlaceInWord_10 rfl ?_
      refine j_sipush (pc := 11) dX7_isPlaceInWord_11 (v := 150) (by decide) ?_
      refine j_icmp_ge (pc := 14) (tgt := 21) dX7_isPlaceInWord_14 rfl (fun h14 => ?_) (fun h14 => ?_)
      · refine j_iconst (pc := 21) dX7_isPlaceInWord_21 (v := 0) (by decide) ?_
        refine j_zret (pc := 22) dX7_isPlaceInWord_22 (Or.inl rfl) ?_
        exact ⟨rfl, Or.inr ⟨by (simp only [Int32.lt_iff_toInt_lt, Int32.le_iff_toInt_le, ← Int32.toInt_inj, vp_in_iff, ti_0, ti_1, ti_2, ti_3, ti_5, ti_6, ti_7, ti_8, ti_16, ti_48, ti_53, ti_60, ti_97, ti_104, ti_127, ti_149, ti_150, ti_151, ti_256, ti_1200, ti_m1, ti_m2, ti_m3, ti_m4, ti_m9] at *; omega), rfl⟩⟩
      · refine j_iconst (pc := 17) dX7_isPlaceInWord_17 (v := 1) (by decide) ?_
        refine j_goto (pc := 18) (tgt := 22) dX7_isPlaceInWord_18 rfl ?_
        refine j_zret (pc := 22) dX7_isPlaceInWord_22 (Or.inr rfl) ?_
        exact ⟨rfl, Or.inl ⟨by (simp only [Int32.lt_iff_toInt_lt, Int32.le_iff_toInt_le, ← Int32.toInt_inj, vp_in_iff, ti_0, ti_1, ti_2, ti_3, ti_5, ti_6, ti_7, ti_8, ti_16, ti_48, ti_53, ti_60, ti_97, ti_104, ti_127, ti_149, ti_150, ti_151, ti_256, ti_1200, ti_m1, ti_m2, ti_m3, ti_m4, ti_m9] at *; omega), rfl⟩⟩
theorem c_X7_isIn (x : Int32) {j : Nat} (hj : j < 32) (σ : Mm) : EV Γ1 0 yX7_isIn cX7_isIn 2 (some .boolean) [.inl x, .inl (nI j)] σ (bz (bt x j = true) σ) := by
  refine EV.intro (by decide +kernel) (Nat.le_of_ble_eq_true rfl) ?_
  refine j_iload_n (pc := 0) dX7_isIn_0 rfl ?_
  refine j_iload_n (pc := 1) dX7_isIn_1 rfl ?_
  refine j_ishr (pc := 2) dX7_isIn_2 ?_
  refine j_iconst (pc := 3) dX7_isIn_3 (v := 1) (by decide) ?_
  refine j_iand (pc := 4) dX7_isIn_4 ?_
  refine j_iconst (pc := 5) dX7_isIn_5 (v := 1) (by decide) ?_
  refine j_icmp_ne (pc := 6) (tgt := 13) dX7_isIn_6 rfl (fun h6 => ?_) (fun h6 => ?_)
  · refine j_iconst (pc := 13) dX7_isIn_13 (v := 0) (by decide) ?_
    refine j_zret (pc := 14) dX7_isIn_14 (Or.inl rfl) ?_
    exact ⟨rfl, Or.inr ⟨fun q => h6 ((isin_iff hj).mpr q), rfl⟩⟩
  · refine j_iconst (pc := 9) dX7_isIn_9 (v := 1) (by decide) ?_
    refine j_goto (pc := 10) (tgt := 14) dX7_isIn_10 rfl ?_
    refine j_zret (pc := 14) dX7_isIn_14 (Or.inr rfl) ?_
    exact ⟨rfl, Or.inl ⟨(isin_iff hj).mp h6, rfl⟩⟩
theorem c_X7_leastIn (x : Int32) (σ : Mm) : EV Γ1 1 yX7_leastIn cX7_leastIn 2 (some .int) [.inl x] σ (vz (lstE (fun e => bt x e)) σ) := by
  refine EV.intro (by decide +kernel) (Nat.le_of_ble_eq_true rfl) ?_
  have loop : ∀ (n e : Nat), e + n = 8 → (∀ j, j < e → bt x j = false) → AJ Γ1 1 RX7 cX7_leastIn 2 (some .int) (vz (lstE (fun e => bt x e)) σ) 2 [some (.inl x), some (.inl (nI e))] [] σ := by
    intro n
    induction n with
    | zero =>
      intro e he hj
      obtain rfl : e = 8 := by omega
      refine j_iload_n (pc := 2) dX7_leastIn_2 rfl ?_
      refine j_bipush (pc := 3) dX7_leastIn_3 (v := 8) (by decide) ?_
      refine j_icmp_ge (pc := 5) (tgt := 24) dX7_leastIn_5 rfl (fun h5 => ?_) (fun h5 => absurd (by decide) h5)
      refine j_bipush (pc := 24) dX7_leastIn_24 (v := (-9)) (by decide) ?_
      refine j_iret (pc := 26) dX7_leastIn_26 ?_
      exact ⟨rfl, (lst_none hj).symm⟩
    | succ n ih =>
      intro e he hj
      refine j_iload_n (pc := 2) dX7_leastIn_2 rfl ?_
      refine j_bipush (pc := 3) dX7_leastIn_3 (v := 8) (by decide) ?_
      refine j_icmp_ge (pc := 5) (tgt := 24) dX7_leastIn_5 rfl (fun h5 => absurd h5 (nI_ge (b := 8) (by omega) (by decide))) (fun h5 => ?_)
      refine j_iload_n (pc := 8) dX7_leastIn_8 rfl ?_
      refine j_iload_n (pc := 9) dX7_leastIn_9 rfl ?_
      refine j_callSi (pc := 10) dX7_leastIn_10 k_X7_246 (c_X7_isIn x (j := e) (by omega) σ) rfl (by decide) rfl (Nat.le_of_ble_eq_true rfl) (fun r σ1 hp => ?_)
      obtain ⟨rfl, hp⟩ := hp
      rcases hp with ⟨q10, rfl⟩ | ⟨q10, rfl⟩
      · refine j_if_eq (pc := 13) (tgt := 18) dX7_leastIn_13 rfl (fun h => absurd h (by decide)) (fun _ => ?_)
        refine j_iload_n (pc := 16) dX7_leastIn_16 rfl ?_
        refine j_iret (pc := 17) dX7_leastIn_17 ?_
        exact ⟨rfl, (lst_hit (by omega) q10 hj).symm⟩
      · refine j_if_eq (pc := 13) (tgt := 18) dX7_leastIn_13 rfl (fun _ => ?_) (fun h => absurd h (by decide))
        refine j_iinc1 (pc := 18) dX7_leastIn_18 rfl ?_
        refine j_goto (pc := 21) (tgt := 2) dX7_leastIn_21 rfl ?_
        rw [nI_1]
        refine ih (e + 1) (by omega) (fun j h => ?_)
        by_cases h2 : j = e
        · subst h2; simpa using q10
        · exact hj j (by omega)
  refine j_iconst (pc := 0) dX7_leastIn_0 (v := 0) (by decide) ?_
  refine j_istore_n (pc := 1) dX7_leastIn_1 (by decide) ?_
  exact loop 8 0 rfl (fun j h => absurd h (Nat.not_lt_zero j))
/-- Arrays.fill -/
def m_fill (σ : Mm) (a n : Nat) (v : Int32) : Mm := fun x => if x = a then (fun j => if j < n then v else σ x j) else σ x
theorem m_fill0 (σ : Mm) (a : Nat) (v : Int32) : m_fill σ a 0 v = σ := by
  funext x j
  simp [m_fill]
theorem m_fillS (σ : Mm) (a n : Nat) (v : Int32) : m_up (m_fill σ a n v) a n v = m_fill σ a (n + 1) v := by
  funext x j
  by_cases hx : x = a
  · subst hx
    by_cases hj : j = n
    · subst hj
      simp [m_up, upd, m_fill]
    · have : (j < n + 1) ↔ j < n := by omega
      simp [m_up, upd, m_fill, hj, this]
  · simp [m_up, m_fill, hx]
theorem c_fill {a n : Nat} {ids : List Nat} (hg : Γ1[a]? = some (.inl (0, n, ids))) (hn : n < 2 ^ 31) (v : Int32) (σ : Mm) : EV Γ1 0 yJ7_fill_53178 cJ7_fill_53178 4 none [.inr a, .inl v] σ (mz (m_fill σ a n v)) := by
  refine EV.intro (by decide +kernel) (Nat.le_of_ble_eq_true rfl) ?_
  have loop : ∀ (k i : Nat), i + k = n → AJ Γ1 0 RJ7 cJ7_fill_53178 4 none (mz (m_fill σ a n v)) 5 [some (.inr a), some (.inl v), some (.inl (nI i)), some (.inl (nI n))] [] (m_fill σ a i v) := by
    intro k
    induction k with
    | zero =>
      intro i hi
      obtain rfl : i = n := by omega
      refine j_iload_n (pc := 5) dJ7_fill_53178_5 rfl ?_
      refine j_iload_n (pc := 6) dJ7_fill_53178_6 rfl ?_
      refine j_icmp_ge (pc := 7) (tgt := 20) dJ7_fill_53178_7 rfl (fun h7 => ?_) (fun h7 => absurd (Int32.le_refl _) h7)
      refine j_vret (pc := 20) dJ7_fill_53178_20 ?_
      exact rfl
    | succ k ih =>
      intro i hi
      refine j_iload_n (pc := 5) dJ7_fill_53178_5 rfl ?_
      refine j_iload_n (pc := 6) dJ7_fill_53178_6 rfl ?_
      refine j_icmp_ge (pc := 7) (tgt := 20) dJ7_fill_53178_7 rfl (fun h7 => absurd h7 (nI_ge (by omega) hn)) (fun h7 => ?_)
      refine j_aload_n (pc := 10) dJ7_fill_53178_10 rfl ?_
      refine j_iload_n (pc := 11) dJ7_fill_53178_11 rfl ?_
      refine j_iload_n (pc := 12) dJ7_fill_53178_12 rfl ?_
      refine j_iast (pc := 13) dJ7_fill_53178_13 (by first | rfl | with_reducible assumption) (vp_in_nI (by omega) hn) ?_
      rw [nI_clamp (by omega), m_fillS]
      refine j_iinc1 (pc := 14) dJ7_fill_53178_14 rfl ?_
      refine j_goto (pc := 17) (tgt := 5) dJ7_fill_53178_17 rfl ?_
      rw [nI_1]
      exact ih (i + 1) (by omega)
  refine j_iconst (pc := 0) dJ7_fill_53178_0 (v := 0) (by decide) ?_
  refine j_istore_n (pc := 1) dJ7_fill_53178_1 (by decide) ?_
  refine j_aload_n (pc := 2) dJ7_fill_53178_2 rfl ?_
  refine j_alen (pc := 3) dJ7_fill_53178_3 (by first | rfl | with_reducible assumption) (v := _) (by rfl) ?_
  refine j_istore_n (pc := 4) dJ7_fill_53178_4 (by decide) ?_
  have h := loop n 0 (by omega)
  rw [m_fill0] at h
  exact h
/-- Tape -/
theorem c_X5_put (code : Int32) {σ : Mm} {n : Nat} (hn : σ 1 1 = nI n) (h : n ≤ 60) : EV Γ1 0 yX5_put cX5_put 2 (some .boolean) [.inr 1, .inl code] σ (fun r σ' => (n < 60 ∧ r = 1 ∧ σ' = m_up (m_up σ 2 n code) 1 1 (nI (n + 1))) ∨ (n = 60 ∧ r = 0 ∧ σ' = σ)) := by
  refine EV.intro (by decide +kernel) (Nat.le_of_ble_eq_true rfl) ?_
  refine j_aload_n (pc := 0) dX5_put_0 rfl ?_
  refine j_getI (pc := 1) dX5_put_1 f_X5_15 (by first | rfl | with_reducible assumption) (by rfl) ?_
  refine j_if_lt (pc := 4) (tgt := 16) dX5_put_4 rfl (fun h4 => absurd (hn ▸ h4) (nI_pos (by omega))) (fun h4 => ?_)
  refine j_aload_n (pc := 7) dX5_put_7 rfl ?_
  refine j_getI (pc := 8) dX5_put_8 f_X5_15 (by first | rfl | with_reducible assumption) (by rfl) ?_
  refine j_bipush (pc := 11) dX5_put_11 (v := 60) (by decide) ?_
  refine j_icmp_lt (pc := 13) (tgt := 18) dX5_put_13 rfl (fun h13 => ?_) (fun h13 => ?_)
  · have h60 : n < 60 := by
      rw [hn] at h13
      exact (nI_ltI (b := 60) (by omega) (by decide)).mp h13
    refine j_aload_n (pc := 18) dX5_put_18 rfl ?_
    refine j_getR (pc := 19) dX5_put_19 f_X5_9 (by first | rfl | with_reducible assumption) (by rfl) ?_
    refine j_aload_n (pc := 22) dX5_put_22 rfl ?_
    refine j_getI (pc := 23) dX5_put_23 f_X5_15 (by first | rfl | with_reducible assumption) (by rfl) ?_
    refine j_iload_n (pc := 26) dX5_put_26 rfl ?_
    refine j_iast (pc := 27) dX5_put_27 (by first | rfl | with_reducible assumption) (by rw [hn]; exact vp_in_nI h60 (by decide)) ?_
    refine j_aload_n (pc := 28) dX5_put_28 rfl ?_
    refine j_dup (pc := 29) dX5_put_29 ?_
    refine j_getI (pc := 30) dX5_put_30 f_X5_15 (by first | rfl | with_reducible assumption) (by rfl) ?_
    refine j_iconst (pc := 33) dX5_put_33 (v := 1) (by decide) ?_
    refine j_iadd (pc := 34) dX5_put_34 ?_
    refine j_put (pc := 35) dX5_put_35 f_X5_15 (by first | rfl | with_reducible assumption) (by rfl) ?_
    refine j_iconst (pc := 38) dX5_put_38 (v := 1) (by decide) ?_
    refine j_zret (pc := 39) dX5_put_39 (Or.inr rfl) ?_
    refine Or.inl ⟨h60, rfl, ?_⟩
    rw [m_ne (by decide), hn, nI_1, nI_clamp (by omega)]
  · have h60 : n = 60 := by
      rw [hn] at h13
      have : ¬ n < 60 := fun q => h13 ((nI_ltI (b := 60) (by omega) (by decide)).mpr q)
      omega
    refine j_iconst (pc := 16) dX5_put_16 (v := 0) (by decide) ?_
    refine j_zret (pc := 17) dX5_put_17 (Or.inl rfl) ?_
    exact Or.inr ⟨h60, rfl, rfl⟩
theorem c_X5_clear (σ : Mm) : EV Γ1 0 yX5_clear cX5_clear 1 none [.inr 1] σ (mz (m_up σ 1 1 0)) := by
  refine EV.intro (by decide +kernel) (Nat.le_of_ble_eq_true rfl) ?_
  refine j_aload_n (pc := 0) dX5_clear_0 rfl ?_
  refine j_iconst (pc := 1) dX5_clear_1 (v := 0) (by decide) ?_
  refine j_put (pc := 2) dX5_clear_2 f_X5_15 (by first | rfl | with_reducible assumption) (by rfl) ?_
  refine j_vret (pc := 5) dX5_clear_5 ?_
  exact rfl
def mx (x y : Int32) : Int32 := if x < y then y else x
def mn (x y : Int32) : Int32 := if y < x then y else x
theorem c_max (x y : Int32) (σ : Mm) : EV Γ1 0 yJ9_max_7cf53 cJ9_max_7cf53 2 (some .int) [.inl x, .inl y] σ (vz (mx x y) σ) := by
  refine EV.introF (by decide +kernel) (Nat.le_of_ble_eq_true rfl) ?_
  refine j_iload_n (pc := 0) dJ9_max_7cf53_0 rfl ?_
  refine j_iload_n (pc := 1) dJ9_max_7cf53_1 rfl ?_
  refine j_icmp_lt (pc := 2) (tgt := 9) dJ9_max_7cf53_2 rfl (fun h2 => ?_) (fun h2 => ?_)
  · refine j_iload_n (pc := 9) dJ9_max_7cf53_9 rfl ?_
    refine j_iret (pc := 10) dJ9_max_7cf53_10 ?_
    exact ⟨rfl, by first | exact (if_pos h2).symm | exact (if_neg h2).symm⟩
  · refine j_iload_n (pc := 5) dJ9_max_7cf53_5 rfl ?_
    refine j_goto (pc := 6) (tgt := 10) dJ9_max_7cf53_6 rfl ?_
    refine j_iret (pc := 10) dJ9_max_7cf53_10 ?_
    exact ⟨rfl, by first | exact (if_pos h2).symm | exact (if_neg h2).symm⟩
theorem c_min (x y : Int32) (σ : Mm) : EV Γ1 0 yJ9_min_7cf53 cJ9_min_7cf53 2 (some .int) [.inl x, .inl y] σ (vz (mn x y) σ) := by
  refine EV.introF (by decide +kernel) (Nat.le_of_ble_eq_true rfl) ?_
  refine j_iload_n (pc := 0) dJ9_min_7cf53_0 rfl ?_
  refine j_iload_n (pc := 1) dJ9_min_7cf53_1 rfl ?_
  refine j_icmp_gt (pc := 2) (tgt := 9) dJ9_min_7cf53_2 rfl (fun h2 => ?_) (fun h2 => ?_)
  · refine j_iload_n (pc := 9) dJ9_min_7cf53_9 rfl ?_
    refine j_iret (pc := 10) dJ9_min_7cf53_10 ?_
    exact ⟨rfl, by first | exact (if_pos h2).symm | exact (if_neg h2).symm⟩
  · refine j_iload_n (pc := 5) dJ9_min_7cf53_5 rfl ?_
    refine j_goto (pc := 6) (tgt := 10) dJ9_min_7cf53_6 rfl ?_
    refine j_iret (pc := 10) dJ9_min_7cf53_10 ?_
    exact ⟨rfl, by first | exact (if_pos h2).symm | exact (if_neg h2).symm⟩
theorem fm16 : ∀ q, q < 16 → (nI q - 1) - (nI q - 1) / 16 * 16 = (if q = 0 then -1 else nI (q - 1)) ∧ ((nI q - 1) ^^^ 16 < 0 ↔ q = 0) := by decide +kernel
theorem c_floorMod {q : Nat} (hq : q < 16) (σ : Mm) : EV Γ1 0 yJ9_floorMod_7cf53 cJ9_floorMod_7cf53 3 (some .int) [.inl (nI q - 1), .inl 16] σ (vz (nI ((q + 15) % 16)) σ) := by
  have h16 := fm16 q hq
  refine EV.introF (by decide +kernel) (Nat.le_of_ble_eq_true rfl) ?_
  refine j_iload_n (pc := 0) dJ9_floorMod_7cf53_0 rfl ?_
  refine j_iload_n (pc := 1) dJ9_floorMod_7cf53_1 rfl ?_
  refine j_irem (pc := 2) dJ9_floorMod_7cf53_2 (by decide) ?_
  refine j_istore_n (pc := 3) dJ9_floorMod_7cf53_3 (by decide) ?_
  refine j_iload_n (pc := 4) dJ9_floorMod_7cf53_4 rfl ?_
  refine j_iload_n (pc := 5) dJ9_floorMod_7cf53_5 rfl ?_
  refine j_ixor (pc := 6) dJ9_floorMod_7cf53_6 ?_
  refine j_if_ge (pc := 7) (tgt := 18) dJ9_floorMod_7cf53_7 rfl (fun h7 => ?_) (fun h7 => ?_)
  · refine j_iload_n (pc := 18) dJ9_floorMod_7cf53_18 rfl ?_
    refine j_iret (pc := 19) dJ9_floorMod_7cf53_19 ?_
    refine ⟨rfl, ?_⟩
    rcases Nat.eq_zero_or_pos q with rfl | h
    · first | exact absurd h7 (by decide) | exact absurd h11 (by decide)
    · rw [h16.1, if_neg (by omega)]
      congr 1
      omega
  · refine j_iload_n (pc := 10) dJ9_floorMod_7cf53_10 rfl ?_
    refine j_if_eq (pc := 11) (tgt := 18) dJ9_floorMod_7cf53_11 rfl (fun h11 => ?_) (fun h11 => ?_)
    · refine j_iload_n (pc := 18) dJ9_floorMod_7cf53_18 rfl ?_
      refine j_iret (pc := 19) dJ9_floorMod_7cf53_19 ?_
      refine ⟨rfl, ?_⟩
      rcases Nat.eq_zero_or_pos q with rfl | h
      · first | exact absurd h7 (by decide) | exact absurd h11 (by decide)
      · rw [h16.1, if_neg (by omega)]
        congr 1
        omega
    · refine j_iload_n (pc := 14) dJ9_floorMod_7cf53_14 rfl ?_
      refine j_iload_n (pc := 15) dJ9_floorMod_7cf53_15 rfl ?_
      refine j_iadd (pc := 16) dJ9_floorMod_7cf53_16 ?_
      refine j_iret (pc := 17) dJ9_floorMod_7cf53_17 ?_
      refine ⟨rfl, ?_⟩
      rcases Nat.eq_zero_or_pos q with rfl | h
      · decide
      · exact absurd (h16.2.mp (by (simp only [Int32.lt_iff_toInt_lt, Int32.le_iff_toInt_le, ← Int32.toInt_inj, vp_in_iff, ti_0, ti_1, ti_2, ti_3, ti_5, ti_6, ti_7, ti_8, ti_16, ti_48, ti_53, ti_60, ti_97, ti_104, ti_127, ti_149, ti_150, ti_151, ti_256, ti_1200, ti_m1, ti_m2, ti_m3, ti_m4, ti_m9] at *; omega))) (by omega)
def pcnt (x : Int32) : Nat := ((List.range 8).filter (fun e => bt x e)).length
def bcx (i : Int32) : Int32 :=
  let u (x y : Int32) : Int32 := (x.toUInt32 >>> (y.toUInt32 &&& Int32.toUInt32 31)).toInt32
  let a := i - (u i 1 &&& 1431655765)
  let b := (a &&& 858993459) + (u a 2 &&& 858993459)
  let c := (b + u b 4) &&& 252645135
  let d := c + u c 8
  (d + u d 16) &&& 63
set_option maxRecDepth 20000 in
theorem bcx_ok : ∀ k, k < 256 → bcx (nI k) = nI (pcnt (nI k)) := by decide +kernel
theorem c_bitCount {k : Nat} (hk : k < 256) (σ : Mm) : EV Γ1 0 yJ6_bitCount_0f7a4 cJ6_bitCount_0f7a4 1 (some .int) [.inl (nI k)] σ (vz (nI (pcnt (nI k))) σ) := by
  refine EV.intro (by decide +kernel) (Nat.le_of_ble_eq_true rfl) ?_
  refine j_iload_n (pc := 0) dJ6_bitCount_0f7a4_0 rfl ?_
  refine j_iload_n (pc := 1) dJ6_bitCount_0f7a4_1 rfl ?_
  refine j_iconst (pc := 2) dJ6_bitCount_0f7a4_2 (v := 1) (by decide) ?_
  refine j_iushr (pc := 3) dJ6_bitCount_0f7a4_3 rfl ?_
  refine j_ldcw (pc := 4) dJ6_bitCount_0f7a4_4 kc_J6_265 ?_
  refine j_iand (pc := 7) dJ6_bitCount_0f7a4_7 ?_
  refine j_isub (pc := 8) dJ6_bitCount_0f7a4_8 ?_
  refine j_istore_n (pc := 9) dJ6_bitCount_0f7a4_9 (by decide) ?_
  refine j_iload_n (pc := 10) dJ6_bitCount_0f7a4_10 rfl ?_
  refine j_ldcw (pc := 11) dJ6_bitCount_0f7a4_11 kc_J6_266 ?_
  refine j_iand (pc := 14) dJ6_bitCount_0f7a4_14 ?_
  refine j_iload_n (pc := 15) dJ6_bitCount_0f7a4_15 rfl ?_
  refine j_iconst (pc := 16) dJ6_bitCount_0f7a4_16 (v := 2) (by decide) ?_
  refine j_iushr (pc := 17) dJ6_bitCount_0f7a4_17 rfl ?_
  refine j_ldcw (pc := 18) dJ6_bitCount_0f7a4_18 kc_J6_266 ?_
  refine j_iand (pc := 21) dJ6_bitCount_0f7a4_21 ?_
  refine j_iadd (pc := 22) dJ6_bitCount_0f7a4_22 ?_
  refine j_istore_n (pc := 23) dJ6_bitCount_0f7a4_23 (by decide) ?_
  refine j_iload_n (pc := 24) dJ6_bitCount_0f7a4_24 rfl ?_
  refine j_iload_n (pc := 25) dJ6_bitCount_0f7a4_25 rfl ?_
  refine j_iconst (pc := 26) dJ6_bitCount_0f7a4_26 (v := 4) (by decide) ?_
  refine j_iushr (pc := 27) dJ6_bitCount_0f7a4_27 rfl ?_
  refine j_iadd (pc := 28) dJ6_bitCount_0f7a4_28 ?_
  refine j_ldcw (pc := 29) dJ6_bitCount_0f7a4_29 kc_J6_267 ?_
  refine j_iand (pc := 32) dJ6_bitCount_0f7a4_32 ?_
  refine j_istore_n (pc := 33) dJ6_bitCount_0f7a4_33 (by decide) ?_
  refine j_iload_n (pc := 34) dJ6_bitCount_0f7a4_34 rfl ?_
  refine j_iload_n (pc := 35) dJ6_bitCount_0f7a4_35 rfl ?_
  refine j_bipush (pc := 36) dJ6_bitCount_0f7a4_36 (v := 8) (by decide) ?_
  refine j_iushr (pc := 38) dJ6_bitCount_0f7a4_38 rfl ?_
  refine j_iadd (pc := 39) dJ6_bitCount_0f7a4_39 ?_
  refine j_istore_n (pc := 40) dJ6_bitCount_0f7a4_40 (by decide) ?_
  refine j_iload_n (pc := 41) dJ6_bitCount_0f7a4_41 rfl ?_
  refine j_iload_n (pc := 42) dJ6_bitCount_0f7a4_42 rfl ?_
  refine j_bipush (pc := 43) dJ6_bitCount_0f7a4_43 (v := 16) (by decide) ?_
  refine j_iushr (pc := 45) dJ6_bitCount_0f7a4_45 rfl ?_
  refine j_iadd (pc := 46) dJ6_bitCount_0f7a4_46 ?_
  refine j_istore_n (pc := 47) dJ6_bitCount_0f7a4_47 (by decide) ?_
  refine j_iload_n (pc := 48) dJ6_bitCount_0f7a4_48 rfl ?_
  refine j_bipush (pc := 49) dJ6_bitCount_0f7a4_49 (v := 63) (by decide) ?_
  refine j_iand (pc := 51) dJ6_bitCount_0f7a4_51 ?_
  refine j_iret (pc := 52) dJ6_bitCount_0f7a4_52 ?_
  exact ⟨rfl, (bcx_ok k hk)⟩
end
section
/-! A MACHINE that is being told: its steps (at 8 s + e), ALPHABET, MARKED STATES, how many steps, the greatest STATE -/
abbrev MV : Type := (Nat → Int32) × Int32 × Int32 × Int32 × Int32
def isFig (t : Int32) : Bool := decide (0 ≤ t.toInt ∧ t.toInt < 6)
def isLet (t : Int32) : Bool := decide (0 ≤ t.toInt ∧ t.toInt < 8)
theorem isFig_iff {t : Int32} : isFig t = true ↔ vp_in t 6 := by simp [isFig, vp_in_iff]
theorem isLet_iff {t : Int32} : isLet t = true ↔ vp_in t 8 := by simp [isLet, vp_in_iff]
def bitI (e : Int32) : Int32 := (1 : Int32) <<< (e &&& 31)
def tellS (v : MV) (s e t : Int32) : Option MV :=
  if isFig t = true then
    (if v.1 (s * 8 + e).toNatClampNeg = -9 then some (upd v.1 (s * 8 + e).toNatClampNeg t, v.2.1 ||| bitI e, v.2.2.1, v.2.2.2.1 + 1, mx v.2.2.2.2 (mx s t))
     else if v.1 (s * 8 + e).toNatClampNeg = t then some v else none)
  else none
def tellM (v : MV) (t : Int32) : Option MV := if isFig t = true then some (v.1, v.2.1, v.2.2.1 ||| bitI t, v.2.2.2.1, mx v.2.2.2.2 t) else none
def tellE (v : MV) (t : Int32) : Option MV := if isLet t = true then some (v.1, v.2.1 ||| bitI t, v.2.2.1, v.2.2.2.1, v.2.2.2.2) else none
def mv0 : MV := (fun _ => -9, 0, 0, 0, 0)
/-- the Machine at a holds v; its stepSets say which steps are there -/
def HM (σ : Mm) (a : Nat) (v : MV) : Prop := (∀ x, x < 48 → σ (a + 1) x = v.1 x) ∧ σ a 3 = v.2.1 ∧ σ a 4 = v.2.2.1 ∧ σ a 5 = v.2.2.2.1 ∧ σ a 6 = v.2.2.2.2 ∧
  ∀ s, s < 6 → ∀ e, e < 32 → bt (σ (a + 2) s) e = decide (e < 8 ∧ v.1 (8 * s + e) ≠ -9)
/-- nothing but the Machine at a has changed, and its kind hasn't -/
def FrM (a : Nat) (σ σ' : Mm) : Prop := (∀ x, x ≠ a → x ≠ a + 1 → x ≠ a + 2 → σ' x = σ x) ∧ σ' a 2 = σ a 2
theorem FrM.rf {a : Nat} {σ : Mm} : FrM a σ σ := ⟨fun _ _ _ _ => rfl, rfl⟩
theorem FrM.tr {a : Nat} {σ σ' σ'' : Mm} (h1 : FrM a σ σ') (h2 : FrM a σ' σ'') : FrM a σ σ'' := ⟨fun x a1 a2 a3 => (h2.1 x a1 a2 a3).trans (h1.1 x a1 a2 a3), h2.2.trans h1.2⟩
theorem c_X2_clear {a : Nat} (hM : IsM a) (kind : Int32) (σ : Mm) : EV Γ1 1 yX2_clear cX2_clear 2 none [.inr a, .inl kind] σ (fun _ σ' => HM σ' a mv0 ∧ σ' a 2 = kind ∧ ∀ x, x ≠ a → x ≠ a + 1 → x ≠ a + 2 → σ' x = σ x) := by
  obtain ⟨g0, g1, g2⟩ := hM
  refine EV.intro (by decide +kernel) (Nat.le_of_ble_eq_true rfl) ?_
  refine j_aload_n (pc := 0) dX2_clear_0 rfl ?_
  refine j_getR (pc := 1) dX2_clear_1 f_X2_9 (by first | rfl | with_reducible assumption) (by rfl) ?_
  refine j_bipush (pc := 4) dX2_clear_4 (v := (-9)) (by decide) ?_
  refine j_callSv (pc := 6) dX2_clear_6 k_X2_34 (c_fill (by first | rfl | assumption) (by decide) _ _) rfl (by decide) rfl (Nat.le_of_ble_eq_true rfl) (fun σ1 hp => ?_)
  obtain rfl := hp
  refine j_aload_n (pc := 9) dX2_clear_9 rfl ?_
  refine j_getR (pc := 10) dX2_clear_10 f_X2_15 (by first | rfl | with_reducible assumption) (by rfl) ?_
  refine j_iconst (pc := 13) dX2_clear_13 (v := 0) (by decide) ?_
  refine j_callSv (pc := 14) dX2_clear_14 k_X2_34 (c_fill (by first | rfl | assumption) (by decide) _ _) rfl (by decide) rfl (Nat.le_of_ble_eq_true rfl) (fun σ1 hp => ?_)
  obtain rfl := hp
  refine j_aload_n (pc := 17) dX2_clear_17 rfl ?_
  refine j_iload_n (pc := 18) dX2_clear_18 rfl ?_
  refine j_put (pc := 19) dX2_clear_19 f_X2_18 (by first | rfl | with_reducible assumption) (by rfl) ?_
  refine j_aload_n (pc := 22) dX2_clear_22 rfl ?_
  refine j_iconst (pc := 23) dX2_clear_23 (v := 0) (by decide) ?_
  refine j_put (pc := 24) dX2_clear_24 f_X2_22 (by first | rfl | with_reducible assumption) (by rfl) ?_
  refine j_aload_n (pc := 27) dX2_clear_27 rfl ?_
  refine j_iconst (pc := 28) dX2_clear_28 (v := 0) (by decide) ?_
  refine j_put (pc := 29) dX2_clear_29 f_X2_25 (by first | rfl | with_reducible assumption) (by rfl) ?_
  refine j_aload_n (pc := 32) dX2_clear_32 rfl ?_
  refine j_iconst (pc := 33) dX2_clear_33 (v := 0) (by decide) ?_
  refine j_put (pc := 34) dX2_clear_34 f_X2_28 (by first | rfl | with_reducible assumption) (by rfl) ?_
  refine j_aload_n (pc := 37) dX2_clear_37 rfl ?_
  refine j_iconst (pc := 38) dX2_clear_38 (v := 0) (by decide) ?_
  refine j_put (pc := 39) dX2_clear_39 f_X2_31 (by first | rfl | with_reducible assumption) (by rfl) ?_
  refine j_vret (pc := 42) dX2_clear_42 ?_
  refine ⟨⟨fun x hx => ?_, ?_, ?_, ?_, ?_, fun s hs e he => ?_⟩, ?_, fun x h0 h1 h2 => ?_⟩
  · simp [m_up, m_fill, mv0, hx]
  · simp [m_up, upd, mv0]
  · simp [m_up, upd, mv0]
  · simp [m_up, upd, mv0]
  · simp [m_up, upd, mv0]
  · simp [m_up, m_fill, mv0, hs, b_0]
  · simp [m_up, upd]
  · simp [m_up, m_fill, h0, h1, h2]
theorem i_se {s e : Int32} (hs : vp_in s 6) (he : vp_in e 8) : ∃ i j : Nat, i < 6 ∧ j < 8 ∧ s = nI i ∧ e = nI j ∧ s * 8 + e = nI (8 * i + j) ∧ (s * 8 + e).toNatClampNeg = 8 * i + j := by
  obtain ⟨i, hi, rfl⟩ := vp_in_of hs (by decide)
  obtain ⟨j, hj, rfl⟩ := vp_in_of he (by decide)
  have h : nI i * 8 + nI j = nI (8 * i + j) := by
    rw [show (8 : Int32) = nI 8 from rfl, pk_mul, nI_add, Nat.mul_comm i 8]
  exact ⟨i, j, hi, hj, rfl, rfl, h, by rw [h, nI_clamp (by omega)]⟩
theorem c_X2_target {a : Nat} (hM : IsM a) (s e : Int32) (σ : Mm) : EV Γ1 1 yX2_target cX2_target 3 (some .int) [.inr a, .inl s, .inl e] σ (fun r σ' => σ = σ' ∧ ((vp_in s 6 ∧ vp_in e 8 ∧ r = σ (a + 1) (s * 8 + e).toNatClampNeg) ∨ (¬ (vp_in s 6 ∧ vp_in e 8) ∧ r = -9))) := by
  obtain ⟨g0, g1, g2⟩ := hM
  refine EV.intro (by decide +kernel) (Nat.le_of_ble_eq_true rfl) ?_
  refine j_iload_n (pc := 0) dX2_target_0 rfl ?_
  refine j_callSNi (pc := 1) dX2_target_1 k_X2_40 (c_X7_isState _ _) rfl (by decide) rfl (Nat.le_of_ble_eq_true rfl) (fun r σ1 hp => ?_)
  obtain ⟨rfl, hp⟩ := hp
  rcases hp with ⟨q1, rfl⟩ | ⟨q1, rfl⟩
  · refine j_if_eq (pc := 4) (tgt := 28) dX2_target_4 rfl (fun h => absurd h (by decide)) (fun _ => ?_)
    refine j_iload_n (pc := 7) dX2_target_7 rfl ?_
    refine j_callSNi (pc := 8) dX2_target_8 k_X2_44 (c_X7_isEvent _ _) rfl (by decide) rfl (Nat.le_of_ble_eq_true rfl) (fun r σ1 hp => ?_)
    obtain ⟨rfl, hp⟩ := hp
    rcases hp with ⟨q8, rfl⟩ | ⟨q8, rfl⟩
    · refine j_if_eq (pc := 11) (tgt := 28) dX2_target_11 rfl (fun h => absurd h (by decide)) (fun _ => ?_)
      refine j_aload_n (pc := 14) dX2_target_14 rfl ?_
      refine j_getR (pc := 15) dX2_target_15 f_X2_9 (by first | rfl | with_reducible assumption) (by rfl) ?_
      refine j_iload_n (pc := 18) dX2_target_18 rfl ?_
      refine j_bipush (pc := 19) dX2_target_19 (v := 8) (by decide) ?_
      refine j_imul (pc := 21) dX2_target_21 ?_
      refine j_iload_n (pc := 22) dX2_target_22 rfl ?_
      refine j_iadd (pc := 23) dX2_target_23 ?_
      refine j_iald (pc := 24) dX2_target_24 (by first | rfl | with_reducible assumption) (by obtain ⟨i, j, h1, h2, -, -, h3, -⟩ := i_se q1 q8; rw [h3]; exact vp_in_nI (by omega) (by decide)) ?_
      refine j_goto (pc := 25) (tgt := 30) dX2_target_25 rfl ?_
      refine j_iret (pc := 30) dX2_target_30 ?_
      refine ⟨rfl, ?_⟩
      first | exact Or.inl ⟨q1, q8, rfl⟩ | exact Or.inr ⟨fun q => q1 q.1, rfl⟩ | exact Or.inr ⟨fun q => q8 q.2, rfl⟩
    · refine j_if_eq (pc := 11) (tgt := 28) dX2_target_11 rfl (fun _ => ?_) (fun h => absurd h (by decide))
      refine j_bipush (pc := 28) dX2_target_28 (v := (-9)) (by decide) ?_
      refine j_iret (pc := 30) dX2_target_30 ?_
      refine ⟨rfl, ?_⟩
      first | exact Or.inl ⟨q1, q8, rfl⟩ | exact Or.inr ⟨fun q => q1 q.1, rfl⟩ | exact Or.inr ⟨fun q => q8 q.2, rfl⟩
  · refine j_if_eq (pc := 4) (tgt := 28) dX2_target_4 rfl (fun _ => ?_) (fun h => absurd h (by decide))
    refine j_bipush (pc := 28) dX2_target_28 (v := (-9)) (by decide) ?_
    refine j_iret (pc := 30) dX2_target_30 ?_
    refine ⟨rfl, ?_⟩
    first | exact Or.inl ⟨q1, q8, rfl⟩ | exact Or.inr ⟨fun q => q1 q.1, rfl⟩ | exact Or.inr ⟨fun q => q8 q.2, rfl⟩
theorem c_X2_missingSet {a : Nat} (hM : IsM a) {s : Nat} (hs : s < 6) (σ : Mm) : EV Γ1 1 yX2_missingSet cX2_missingSet 2 (some .int) [.inr a, .inl (nI s)] σ (vz (σ a 3 &&& (σ (a + 2) s ^^^ (-1))) σ) := by
  obtain ⟨g0, g1, g2⟩ := hM
  refine EV.intro (by decide +kernel) (Nat.le_of_ble_eq_true rfl) ?_
  refine j_iload_n (pc := 0) dX2_missingSet_0 rfl ?_
  refine j_callSNi (pc := 1) dX2_missingSet_1 k_X2_40 (c_X7_isState _ _) rfl (by decide) rfl (Nat.le_of_ble_eq_true rfl) (fun r σ1 hp => ?_)
  obtain ⟨rfl, hp⟩ := hp
  rcases hp with ⟨q1, rfl⟩ | ⟨q1, rfl⟩
  · refine j_if_eq (pc := 4) (tgt := 23) dX2_missingSet_4 rfl (fun h => absurd h (by decide)) (fun _ => ?_)
    refine j_aload_n (pc := 7) dX2_missingSet_7 rfl ?_
    refine j_getI (pc := 8) dX2_missingSet_8 f_X2_22 (by first | rfl | with_reducible assumption) (by rfl) ?_
    refine j_aload_n (pc := 11) dX2_missingSet_11 rfl ?_
    refine j_getR (pc := 12) dX2_missingSet_12 f_X2_15 (by first | rfl | with_reducible assumption) (by rfl) ?_
    refine j_iload_n (pc := 15) dX2_missingSet_15 rfl ?_
    refine j_iald (pc := 16) dX2_missingSet_16 (by first | rfl | with_reducible assumption) q1 ?_
    refine j_iconst (pc := 17) dX2_missingSet_17 (v := (-1)) (by decide) ?_
    refine j_ixor (pc := 18) dX2_missingSet_18 ?_
    refine j_iand (pc := 19) dX2_missingSet_19 ?_
    refine j_goto (pc := 20) (tgt := 24) dX2_missingSet_20 rfl ?_
    refine j_iret (pc := 24) dX2_missingSet_24 ?_
    first | exact absurd (vp_in_nI hs (by decide)) q1 | exact ⟨rfl, by rw [nI_clamp (by omega)]⟩
  · refine j_if_eq (pc := 4) (tgt := 23) dX2_missingSet_4 rfl (fun _ => ?_) (fun h => absurd h (by decide))
    refine j_iconst (pc := 23) dX2_missingSet_23 (v := 0) (by decide) ?_
    refine j_iret (pc := 24) dX2_missingSet_24 ?_
    first | exact absurd (vp_in_nI hs (by decide)) q1 | exact ⟨rfl, by rw [nI_clamp (by omega)]⟩
theorem c_X2_tellEvent {a : Nat} (hM : IsM a) (t : Int32) {σ : Mm} {v : MV} (hv : HM σ a v) : EV Γ1 1 yX2_tellEvent cX2_tellEvent 2 (some .boolean) [.inr a, .inl t] σ (fun r σ' => FrM a σ σ' ∧ ((r = 1 ∧ ∃ v', tellE v t = some v' ∧ HM σ' a v') ∨ (r = 0 ∧ tellE v t = none))) := by
  obtain ⟨g0, g1, g2⟩ := hM
  refine EV.intro (by decide +kernel) (Nat.le_of_ble_eq_true rfl) ?_
  refine j_iload_n (pc := 0) dX2_tellEvent_0 rfl ?_
  refine j_callSNi (pc := 1) dX2_tellEvent_1 k_X2_44 (c_X7_isEvent _ _) rfl (by decide) rfl (Nat.le_of_ble_eq_true rfl) (fun r σ1 hp => ?_)
  obtain ⟨rfl, hp⟩ := hp
  rcases hp with ⟨q1, rfl⟩ | ⟨q1, rfl⟩
  · refine j_if_ne (pc := 4) (tgt := 9) dX2_tellEvent_4 rfl (fun _ => ?_) (fun h => absurd h (by decide))
    refine j_aload_n (pc := 9) dX2_tellEvent_9 rfl ?_
    refine j_dup (pc := 10) dX2_tellEvent_10 ?_
    refine j_getI (pc := 11) dX2_tellEvent_11 f_X2_22 (by first | rfl | with_reducible assumption) (by rfl) ?_
    refine j_iconst (pc := 14) dX2_tellEvent_14 (v := 1) (by decide) ?_
    refine j_iload_n (pc := 15) dX2_tellEvent_15 rfl ?_
    refine j_ishl (pc := 16) dX2_tellEvent_16 ?_
    refine j_ior (pc := 17) dX2_tellEvent_17 ?_
    refine j_put (pc := 18) dX2_tellEvent_18 f_X2_22 (by first | rfl | with_reducible assumption) (by rfl) ?_
    refine j_iconst (pc := 21) dX2_tellEvent_21 (v := 1) (by decide) ?_
    refine j_zret (pc := 22) dX2_tellEvent_22 (Or.inr rfl) ?_
    refine ⟨⟨fun x h0 h1 h2 => by simp [m_up, h0], by simp [m_up, upd]⟩, Or.inl ⟨rfl, _, if_pos (isLet_iff.mpr q1), ?_⟩⟩
    obtain ⟨e1, e2, e3, e4, e5, e6⟩ := hv
    refine ⟨fun x hx => ?_, ?_, ?_, ?_, ?_, fun s hs e he => ?_⟩
    · simpa [m_up] using e1 x hx
    · simp [m_up, upd, bitI, e2]
    · simpa [m_up, upd] using e3
    · simpa [m_up, upd] using e4
    · simpa [m_up, upd] using e5
    · simpa [m_up, upd] using e6 s hs e he
  · refine j_if_ne (pc := 4) (tgt := 9) dX2_tellEvent_4 rfl (fun h => absurd h (by decide)) (fun _ => ?_)
    refine j_iconst (pc := 7) dX2_tellEvent_7 (v := 0) (by decide) ?_
    refine j_zret (pc := 8) dX2_tellEvent_8 (Or.inl rfl) ?_
    exact ⟨FrM.rf, Or.inr ⟨rfl, if_neg (fun q => q1 (isLet_iff.mp q))⟩⟩
theorem c_X2_tellMarked {a : Nat} (hM : IsM a) (t : Int32) {σ : Mm} {v : MV} (hv : HM σ a v) : EV Γ1 1 yX2_tellMarked cX2_tellMarked 2 (some .boolean) [.inr a, .inl t] σ (fun r σ' => FrM a σ σ' ∧ ((r = 1 ∧ ∃ v', tellM v t = some v' ∧ HM σ' a v') ∨ (r = 0 ∧ tellM v t = none))) := by
  obtain ⟨g0, g1, g2⟩ := hM
  refine EV.intro (by decide +kernel) (Nat.le_of_ble_eq_true rfl) ?_
  refine j_iload_n (pc := 0) dX2_tellMarked_0 rfl ?_
  refine j_callSNi (pc := 1) dX2_tellMarked_1 k_X2_40 (c_X7_isState _ _) rfl (by decide) rfl (Nat.le_of_ble_eq_true rfl) (fun r σ1 hp => ?_)
  obtain ⟨rfl, hp⟩ := hp
  rcases hp with ⟨q1, rfl⟩ | ⟨q1, rfl⟩
  · refine j_if_ne (pc := 4) (tgt := 9) dX2_tellMarked_4 rfl (fun _ => ?_) (fun h => absurd h (by decide))
    refine j_aload_n (pc := 9) dX2_tellMarked_9 rfl ?_
    refine j_dup (pc := 10) dX2_tellMarked_10 ?_
    refine j_getI (pc := 11) dX2_tellMarked_11 f_X2_25 (by first | rfl | with_reducible assumption) (by rfl) ?_
    refine j_iconst (pc := 14) dX2_tellMarked_14 (v := 1) (by decide) ?_
    refine j_iload_n (pc := 15) dX2_tellMarked_15 rfl ?_
    refine j_ishl (pc := 16) dX2_tellMarked_16 ?_
    refine j_ior (pc := 17) dX2_tellMarked_17 ?_
    refine j_put (pc := 18) dX2_tellMarked_18 f_X2_25 (by first | rfl | with_reducible assumption) (by rfl) ?_
    refine j_aload_n (pc := 21) dX2_tellMarked_21 rfl ?_
    refine j_aload_n (pc := 22) dX2_tellMarked_22 rfl ?_
    refine j_getI (pc := 23) dX2_tellMarked_23 f_X2_31 (by first | rfl | with_reducible assumption) (by rfl) ?_
    refine j_iload_n (pc := 26) dX2_tellMarked_26 rfl ?_
    refine j_callSi (pc := 27) dX2_tellMarked_27 k_X2_47 (c_max _ _ _) rfl (by decide) rfl (Nat.le_of_ble_eq_true rfl) (fun r σ1 hp => ?_)
    obtain ⟨rfl, rfl⟩ := hp
    refine j_put (pc := 30) dX2_tellMarked_30 f_X2_31 (by first | rfl | with_reducible assumption) (by rfl) ?_
    refine j_iconst (pc := 33) dX2_tellMarked_33 (v := 1) (by decide) ?_
    refine j_zret (pc := 34) dX2_tellMarked_34 (Or.inr rfl) ?_
    refine ⟨⟨fun x h0 h1 h2 => by simp [m_up, h0], by simp [m_up, upd]⟩, Or.inl ⟨rfl, _, if_pos (isFig_iff.mpr q1), ?_⟩⟩
    obtain ⟨e1, e2, e3, e4, e5, e6⟩ := hv
    refine ⟨fun x hx => ?_, ?_, ?_, ?_, ?_, fun s hs e he => ?_⟩
    · simpa [m_up] using e1 x hx
    · simpa [m_up, upd] using e2
    · simp [m_up, upd, bitI, e3]
    · simpa [m_up, upd] using e4
    · simp [m_up, upd, e5]
    · simpa [m_up, upd] using e6 s hs e he
  · refine j_if_ne (pc := 4) (tgt := 9) dX2_tellMarked_4 rfl (fun h => absurd h (by decide)) (fun _ => ?_)
    refine j_iconst (pc := 7) dX2_tellMarked_7 (v := 0) (by decide) ?_
    refine j_zret (pc := 8) dX2_tellMarked_8 (Or.inl rfl) ?_
    exact ⟨FrM.rf, Or.inr ⟨rfl, if_neg (fun q => q1 (isFig_iff.mp q))⟩⟩
theorem c_X2_tellStep {a : Nat} (hM : IsM a) {s e : Int32} (hs : vp_in s 6) (he : vp_in e 8) (t : Int32) {σ : Mm} {v : MV} (hv : HM σ a v) : EV Γ1 1 yX2_tellStep cX2_tellStep 5 (some .boolean) [.inr a, .inl s, .inl e, .inl t] σ (fun r σ' => FrM a σ σ' ∧ ((r = 1 ∧ ∃ v', tellS v s e t = some v' ∧ HM σ' a v') ∨ (r = 0 ∧ tellS v s e t = none))) := by
  obtain ⟨g0, g1, g2⟩ := hM
  obtain ⟨i, j, hi, hj, hsi, hej, hx, hc⟩ := i_se hs he
  have hin : vp_in (s * 8 + e) 48 := by rw [hx]; exact vp_in_nI (by omega) (by decide)
  have hb : σ (a + 1) (s * 8 + e).toNatClampNeg = v.1 (s * 8 + e).toNatClampNeg := by rw [hc]; exact hv.1 _ (by omega)
  refine EV.intro (by decide +kernel) (Nat.le_of_ble_eq_true rfl) ?_
  refine j_iload_n (pc := 0) dX2_tellStep_0 rfl ?_
  refine j_callSNi (pc := 1) dX2_tellStep_1 k_X2_40 (c_X7_isState _ _) rfl (by decide) rfl (Nat.le_of_ble_eq_true rfl) (fun r σ1 hp => ?_)
  obtain ⟨rfl, hp⟩ := hp
  rcases hp with ⟨q1, rfl⟩ | ⟨q1, rfl⟩
  · refine j_if_eq (pc := 4) (tgt := 21) dX2_tellStep_4 rfl (fun h => absurd h (by decide)) (fun _ => ?_)
    refine j_iload_n (pc := 7) dX2_tellStep_7 rfl ?_
    refine j_callSNi (pc := 8) dX2_tellStep_8 k_X2_44 (c_X7_isEvent _ _) rfl (by decide) rfl (Nat.le_of_ble_eq_true rfl) (fun r σ1 hp => ?_)
    obtain ⟨rfl, hp⟩ := hp
    rcases hp with ⟨q8, rfl⟩ | ⟨q8, rfl⟩
    · refine j_if_eq (pc := 11) (tgt := 21) dX2_tellStep_11 rfl (fun h => absurd h (by decide)) (fun _ => ?_)
      refine j_iload_n (pc := 14) dX2_tellStep_14 rfl ?_
      refine j_callSNi (pc := 15) dX2_tellStep_15 k_X2_40 (c_X7_isState _ _) rfl (by decide) rfl (Nat.le_of_ble_eq_true rfl) (fun r σ1 hp => ?_)
      obtain ⟨rfl, hp⟩ := hp
      rcases hp with ⟨q15, rfl⟩ | ⟨q15, rfl⟩
      · refine j_if_ne (pc := 18) (tgt := 23) dX2_tellStep_18 rfl (fun _ => ?_) (fun h => absurd h (by decide))
        refine j_aload_n (pc := 23) dX2_tellStep_23 rfl ?_
        refine j_getR (pc := 24) dX2_tellStep_24 f_X2_9 (by first | rfl | with_reducible assumption) (by rfl) ?_
        refine j_iload_n (pc := 27) dX2_tellStep_27 rfl ?_
        refine j_bipush (pc := 28) dX2_tellStep_28 (v := 8) (by decide) ?_
        refine j_imul (pc := 30) dX2_tellStep_30 ?_
        refine j_iload_n (pc := 31) dX2_tellStep_31 rfl ?_
        refine j_iadd (pc := 32) dX2_tellStep_32 ?_
        refine j_iald (pc := 33) dX2_tellStep_33 (by first | rfl | with_reducible assumption) hin ?_
        refine j_istore (pc := 34) dX2_tellStep_34 (by decide) ?_
        refine j_iload (pc := 36) dX2_tellStep_36 rfl ?_
        refine j_bipush (pc := 38) dX2_tellStep_38 (v := (-9)) (by decide) ?_
        refine j_icmp_eq (pc := 40) (tgt := 55) dX2_tellStep_40 rfl (fun h40 => ?_) (fun h40 => ?_)
        · refine j_aload_n (pc := 55) dX2_tellStep_55 rfl ?_
          refine j_getR (pc := 56) dX2_tellStep_56 f_X2_9 (by first | rfl | with_reducible assumption) (by rfl) ?_
          refine j_iload_n (pc := 59) dX2_tellStep_59 rfl ?_
          refine j_bipush (pc := 60) dX2_tellStep_60 (v := 8) (by decide) ?_
          refine j_imul (pc := 62) dX2_tellStep_62 ?_
          refine j_iload_n (pc := 63) dX2_tellStep_63 rfl ?_
          refine j_iadd (pc := 64) dX2_tellStep_64 ?_
          refine j_iload_n (pc := 65) dX2_tellStep_65 rfl ?_
          refine j_iast (pc := 66) dX2_tellStep_66 (by first | rfl | with_reducible assumption) hin ?_
          refine j_aload_n (pc := 67) dX2_tellStep_67 rfl ?_
          refine j_getR (pc := 68) dX2_tellStep_68 f_X2_15 (by first | rfl | with_reducible assumption) (by rfl) ?_
          refine j_iload_n (pc := 71) dX2_tellStep_71 rfl ?_
          refine j_dup2 (pc := 72) dX2_tellStep_72 ?_
          refine j_iald (pc := 73) dX2_tellStep_73 (by first | rfl | with_reducible assumption) hs ?_
          refine j_iconst (pc := 74) dX2_tellStep_74 (v := 1) (by decide) ?_
          refine j_iload_n (pc := 75) dX2_tellStep_75 rfl ?_
          refine j_ishl (pc := 76) dX2_tellStep_76 ?_
          refine j_ior (pc := 77) dX2_tellStep_77 ?_
          refine j_iast (pc := 78) dX2_tellStep_78 (by first | rfl | with_reducible assumption) hs ?_
          refine j_aload_n (pc := 79) dX2_tellStep_79 rfl ?_
          refine j_dup (pc := 80) dX2_tellStep_80 ?_
          refine j_getI (pc := 81) dX2_tellStep_81 f_X2_22 (by first | rfl | with_reducible assumption) (by rfl) ?_
          refine j_iconst (pc := 84) dX2_tellStep_84 (v := 1) (by decide) ?_
          refine j_iload_n (pc := 85) dX2_tellStep_85 rfl ?_
          refine j_ishl (pc := 86) dX2_tellStep_86 ?_
          refine j_ior (pc := 87) dX2_tellStep_87 ?_
          refine j_put (pc := 88) dX2_tellStep_88 f_X2_22 (by first | rfl | with_reducible assumption) (by rfl) ?_
          refine j_aload_n (pc := 91) dX2_tellStep_91 rfl ?_
          refine j_dup (pc := 92) dX2_tellStep_92 ?_
          refine j_getI (pc := 93) dX2_tellStep_93 f_X2_28 (by first | rfl | with_reducible assumption) (by rfl) ?_
          refine j_iconst (pc := 96) dX2_tellStep_96 (v := 1) (by decide) ?_
          refine j_iadd (pc := 97) dX2_tellStep_97 ?_
          refine j_put (pc := 98) dX2_tellStep_98 f_X2_28 (by first | rfl | with_reducible assumption) (by rfl) ?_
          refine j_aload_n (pc := 101) dX2_tellStep_101 rfl ?_
          refine j_aload_n (pc := 102) dX2_tellStep_102 rfl ?_
          refine j_getI (pc := 103) dX2_tellStep_103 f_X2_31 (by first | rfl | with_reducible assumption) (by rfl) ?_
          refine j_iload_n (pc := 106) dX2_tellStep_106 rfl ?_
          refine j_iload_n (pc := 107) dX2_tellStep_107 rfl ?_
          refine j_callSi (pc := 108) dX2_tellStep_108 k_X2_47 (c_max _ _ _) rfl (by decide) rfl (Nat.le_of_ble_eq_true rfl) (fun r σ1 hp => ?_)
          obtain ⟨rfl, rfl⟩ := hp
          refine j_callSi (pc := 111) dX2_tellStep_111 k_X2_47 (c_max _ _ _) rfl (by decide) rfl (Nat.le_of_ble_eq_true rfl) (fun r σ1 hp => ?_)
          obtain ⟨rfl, rfl⟩ := hp
          refine j_put (pc := 114) dX2_tellStep_114 f_X2_31 (by first | rfl | with_reducible assumption) (by rfl) ?_
          refine j_iconst (pc := 117) dX2_tellStep_117 (v := 1) (by decide) ?_
          refine j_zret (pc := 118) dX2_tellStep_118 (Or.inr rfl) ?_
          rw [hb] at h40
          refine ⟨⟨fun x h0 h1 h2 => by simp [m_up, h0, h1, h2], by simp [m_up, upd]⟩, Or.inl ⟨rfl, _, by rw [tellS, if_pos (isFig_iff.mpr q15), if_pos h40], ?_⟩⟩
          obtain ⟨e1, e2, e3, e4, e5, e6⟩ := hv
          refine ⟨fun x hx => ?_, ?_, ?_, ?_, ?_, fun s1 hs1 e1' he1 => ?_⟩
          · by_cases hxe : x = (s * 8 + e).toNatClampNeg
            · subst hxe; simp [m_up, upd]
            · simpa [m_up, upd, hxe] using e1 x hx
          · simp [m_up, upd, bitI, e2]
          · simpa [m_up, upd] using e3
          · simp [m_up, upd, e4]
          · simp [m_up, upd, e5]
          · subst hsi; subst hej
            have hti : t ≠ -9 := fun q => by subst q; exact absurd q15 (by (simp only [Int32.lt_iff_toInt_lt, Int32.le_iff_toInt_le, ← Int32.toInt_inj, vp_in_iff, ti_0, ti_1, ti_2, ti_3, ti_5, ti_6, ti_7, ti_8, ti_16, ti_48, ti_53, ti_60, ti_97, ti_104, ti_127, ti_149, ti_150, ti_151, ti_256, ti_1200, ti_m1, ti_m2, ti_m3, ti_m4, ti_m9] at *; omega))
            have ec : (nI i).toNatClampNeg = i := nI_clamp (by omega)
            rw [hc]
            by_cases hs2 : s1 = i
            · subst hs2
              have hrow := e6 s1 hs1 e1' he1
              simp only [m_up, upd, ec, if_true, Nat.add_left_cancel_iff, b_or, b_bit j (by omega) he1, hrow]
              by_cases h8 : e1' = j
              · subst h8; simp [m_up, upd, b_or, b_bit _ (by omega : e1' < 32) he1, hti, hj]
              · simp [m_up, upd, b_or, b_bit j (by omega) he1, h8, hrow]
            · have h9 : ¬ 8 * s1 + e1' = 8 * i + j ∨ ¬ e1' < 8 := by omega
              have hrow := e6 s1 hs1 e1' he1
              rcases h9 with h9 | h9
              · simp [m_up, upd, ec, hs2, hrow, h9]
              · simp [m_up, upd, ec, hs2, hrow, h9]
        · refine j_iload (pc := 43) dX2_tellStep_43 rfl ?_
          refine j_iload_n (pc := 45) dX2_tellStep_45 rfl ?_
          refine j_icmp_ne (pc := 46) (tgt := 53) dX2_tellStep_46 rfl (fun h46 => ?_) (fun h46 => ?_)
          · refine j_iconst (pc := 53) dX2_tellStep_53 (v := 0) (by decide) ?_
            refine j_zret (pc := 54) dX2_tellStep_54 (Or.inl rfl) ?_
            rw [hb] at h40 h46
            refine ⟨FrM.rf, ?_⟩
            first | exact Or.inl ⟨rfl, v, by rw [tellS, if_pos (isFig_iff.mpr q15), if_neg h40, if_pos h46], hv⟩ | exact Or.inr ⟨rfl, by rw [tellS, if_pos (isFig_iff.mpr q15), if_neg h40, if_neg h46]⟩
          · refine j_iconst (pc := 49) dX2_tellStep_49 (v := 1) (by decide) ?_
            refine j_goto (pc := 50) (tgt := 54) dX2_tellStep_50 rfl ?_
            refine j_zret (pc := 54) dX2_tellStep_54 (Or.inr rfl) ?_
            rw [hb] at h40 h46
            refine ⟨FrM.rf, ?_⟩
            first | exact Or.inl ⟨rfl, v, by rw [tellS, if_pos (isFig_iff.mpr q15), if_neg h40, if_pos h46], hv⟩ | exact Or.inr ⟨rfl, by rw [tellS, if_pos (isFig_iff.mpr q15), if_neg h40, if_neg h46]⟩
      · refine j_if_ne (pc := 18) (tgt := 23) dX2_tellStep_18 rfl (fun h => absurd h (by decide)) (fun _ => ?_)
        refine j_iconst (pc := 21) dX2_tellStep_21 (v := 0) (by decide) ?_
        refine j_zret (pc := 22) dX2_tellStep_22 (Or.inl rfl) ?_
        exact ⟨FrM.rf, Or.inr ⟨rfl, if_neg (fun q => q15 (isFig_iff.mp q))⟩⟩
    · exact absurd he q8
      skip
  · exact absurd hs q1
    skip
end
section
/-! READER: what is awaited (0 an ITEM, 1 a letter, 2 a figure, 3 a MARKED STATE, 4 an EVENT's name, 5 a blank), the step's STATE and EVENT, the MACHINE so far -/
abbrev RS : Type := Nat × Int32 × Int32 × MV
def rdStep (s : RS) (c : Int32) : Option RS := match s.1 with
  | 0 => if c = 42 then some (3, s.2.1, s.2.2.1, s.2.2.2) else if c = 33 then some (4, s.2.1, s.2.2.1, s.2.2.2) else if isFig (c - 48) = true then some (1, c - 48, s.2.2.1, s.2.2.2) else none
  | 1 => if isLet (c - 97) = true then some (2, s.2.1, c - 97, s.2.2.2) else none
  | 2 => (tellS s.2.2.2 s.2.1 s.2.2.1 (c - 48)).map (fun v => (5, s.2.1, s.2.2.1, v))
  | 3 => (tellM s.2.2.2 (c - 48)).map (fun v => (5, s.2.1, s.2.2.1, v))
  | 4 => (tellE s.2.2.2 (c - 97)).map (fun v => (5, s.2.1, s.2.2.1, v))
  | _ => if c = 32 then some (0, s.2.1, s.2.2.1, s.2.2.2) else none
def rdGo (t : Nat → Int32) : Nat → Nat → RS → Nat ⊕ RS
  | 0, _, s => .inr s
  | k + 1, p, s => match rdStep s (t p) with
    | none => .inl p
    | some s' => rdGo t k (p + 1) s'
/-- the FIRST FAULT of n codes, or the MACHINE -/
def rdEnd (n : Nat) (x : Nat ⊕ RS) : Nat ⊕ MV := match x with
  | .inl p => .inl p
  | .inr s => if s.1 = 5 then .inr s.2.2.2 else .inl n
def HR (σ : Mm) (a : Nat) (s : RS) : Prop := σ 3 0 = nI s.1 ∧ σ 3 1 = s.2.1 ∧ σ 3 2 = s.2.2.1 ∧ s.1 ≤ 5 ∧ (s.1 = 1 ∨ s.1 = 2 → vp_in s.2.1 6) ∧ (s.1 = 2 → vp_in s.2.2.1 8) ∧ HM σ a s.2.2.2
def FrR (a : Nat) (σ σ' : Mm) : Prop := (∀ x, x ≠ 3 → x ≠ a → x ≠ a + 1 → x ≠ a + 2 → σ' x = σ x) ∧ σ' a 2 = σ a 2
theorem FrR.of {a : Nat} {σ σ' σ'' : Mm} (h3 : ∀ x, x ≠ 3 → σ' x = σ x) (ha : 4 < a) (h : FrM a σ' σ'') : FrR a σ σ'' := ⟨fun x h0 h1 h2 h4 => (h.1 x h1 h2 h4).trans (h3 x h0), h.2.trans (by rw [h3 a (by omega)])⟩
theorem FrR.tr {a : Nat} {σ σ' σ'' : Mm} (h1 : FrR a σ σ') (h2 : FrR a σ' σ'') : FrR a σ σ'' := ⟨fun x a0 a1 a2 a3 => (h2.1 x a0 a1 a2 a3).trans (h1.1 x a0 a1 a2 a3), h2.2.trans h1.2⟩
theorem HM.up3 {σ : Mm} {a k : Nat} {v : MV} {x : Int32} (ha : 4 < a) (h : HM σ a v) : HM (m_up σ 3 k x) a v := by
  have e0 : m_up σ 3 k x a = σ a := m_ne (by omega)
  have e1 : m_up σ 3 k x (a + 1) = σ (a + 1) := m_ne (by omega)
  have e2 : m_up σ 3 k x (a + 2) = σ (a + 2) := m_ne (by omega)
  unfold HM
  rw [e0, e1, e2]
  exact h
def takesP (σ : Mm) (a : Nat) (s : RS) (c : Int32) : Int32 → Mm → Prop := fun r σ' => FrR a σ σ' ∧ (r = 0 ∨ r = 1) ∧ ((r = 1 ∧ ∃ s', rdStep s c = some s' ∧ HR σ' a s') ∨ (r = 0 ∧ rdStep s c = none))
theorem c_X4_opensItem {a : Nat} (ha : 4 < a) (c : Int32) {σ : Mm} {s : RS} (h0 : s.1 = 0) (h : HR σ a s) : EV Γ1 1 yX4_opensItem cX4_opensItem 2 (some .boolean) [.inr 3, .inl c] σ (takesP σ a s c) := by
  obtain ⟨aw, fr, ev, v⟩ := s
  dsimp only at h0
  subst h0
  obtain ⟨e0, e1, e2, e3, e4, e5, e6⟩ := h
  dsimp only at e0 e1 e2 e6
  refine EV.intro (by decide +kernel) (Nat.le_of_ble_eq_true rfl) ?_
  refine j_iload_n (pc := 0) dX4_opensItem_0 rfl ?_
  refine j_bipush (pc := 1) dX4_opensItem_1 (v := 42) (by decide) ?_
  refine j_icmp_ne (pc := 3) (tgt := 13) dX4_opensItem_3 rfl (fun h3 => ?_) (fun h3 => ?_)
  · refine j_iload_n (pc := 13) dX4_opensItem_13 rfl ?_
    refine j_bipush (pc := 14) dX4_opensItem_14 (v := 33) (by decide) ?_
    refine j_icmp_ne (pc := 16) (tgt := 26) dX4_opensItem_16 rfl (fun h16 => ?_) (fun h16 => ?_)
    · refine j_aload_n (pc := 26) dX4_opensItem_26 rfl ?_
      refine j_iload_n (pc := 27) dX4_opensItem_27 rfl ?_
      refine j_bipush (pc := 28) dX4_opensItem_28 (v := 48) (by decide) ?_
      refine j_isub (pc := 30) dX4_opensItem_30 ?_
      refine j_put (pc := 31) dX4_opensItem_31 f_X4_15 (by first | rfl | with_reducible assumption) (by rfl) ?_
      refine j_aload_n (pc := 34) dX4_opensItem_34 rfl ?_
      refine j_iconst (pc := 35) dX4_opensItem_35 (v := 1) (by decide) ?_
      refine j_put (pc := 36) dX4_opensItem_36 f_X4_11 (by first | rfl | with_reducible assumption) (by rfl) ?_
      refine j_aload_n (pc := 39) dX4_opensItem_39 rfl ?_
      refine j_getI (pc := 40) dX4_opensItem_40 f_X4_15 (by first | rfl | with_reducible assumption) (by rfl) ?_
      refine j_callSNi (pc := 43) dX4_opensItem_43 k_X4_59 (c_X7_isState _ _) rfl (by decide) rfl (Nat.le_of_ble_eq_true rfl) (fun r σ1 hp => ?_)
      obtain ⟨rfl, hp⟩ := hp
      rcases hp with ⟨q43, rfl⟩ | ⟨q43, rfl⟩
      · refine j_zret (pc := 46) dX4_opensItem_46 (Or.inr rfl) ?_
        rw [m_nk (by decide), m_eq] at q43
        refine ⟨⟨fun x q _ _ _ => by rw [m_ne q, m_ne q], by rw [m_ne (by omega), m_ne (by omega)]⟩, by first | exact Or.inl rfl | exact Or.inr rfl, ?_⟩
        first | exact Or.inr ⟨rfl, (if_neg h3).trans ((if_neg h16).trans (if_neg (fun q => q43 (isFig_iff.mp q))))⟩ | refine Or.inl ⟨rfl, _, (if_neg h3).trans ((if_neg h16).trans (if_pos (isFig_iff.mpr q43))), ?_⟩
        all_goals exact ⟨m_eq _ _ _ _, by rw [m_nk (by decide), m_eq], by rw [m_nk (by decide), m_nk (by decide)]; exact e2, by simp, fun _ => q43, fun q => by simp at q, (e6.up3 ha).up3 ha⟩
      · refine j_zret (pc := 46) dX4_opensItem_46 (Or.inl rfl) ?_
        rw [m_nk (by decide), m_eq] at q43
        refine ⟨⟨fun x q _ _ _ => by rw [m_ne q, m_ne q], by rw [m_ne (by omega), m_ne (by omega)]⟩, by first | exact Or.inl rfl | exact Or.inr rfl, ?_⟩
        first | exact Or.inr ⟨rfl, (if_neg h3).trans ((if_neg h16).trans (if_neg (fun q => q43 (isFig_iff.mp q))))⟩ | refine Or.inl ⟨rfl, _, (if_neg h3).trans ((if_neg h16).trans (if_pos (isFig_iff.mpr q43))), ?_⟩
        all_goals exact ⟨m_eq _ _ _ _, by rw [m_nk (by decide), m_eq], by rw [m_nk (by decide), m_nk (by decide)]; exact e2, by simp, fun _ => q43, fun q => by simp at q, (e6.up3 ha).up3 ha⟩
    · refine j_aload_n (pc := 19) dX4_opensItem_19 rfl ?_
      refine j_iconst (pc := 20) dX4_opensItem_20 (v := 4) (by decide) ?_
      refine j_put (pc := 21) dX4_opensItem_21 f_X4_11 (by first | rfl | with_reducible assumption) (by rfl) ?_
      refine j_iconst (pc := 24) dX4_opensItem_24 (v := 1) (by decide) ?_
      refine j_zret (pc := 25) dX4_opensItem_25 (Or.inr rfl) ?_
      refine ⟨⟨fun x q _ _ _ => m_ne q, by rw [m_ne (by omega)]⟩, Or.inr rfl, Or.inl ⟨rfl, _, (if_neg h3).trans (if_pos h16), ?_⟩⟩
      exact ⟨m_eq _ _ _ _, by rw [m_nk (by decide)]; exact e1, by rw [m_nk (by decide)]; exact e2, by simp, fun q => by simp at q, fun q => by simp at q, e6.up3 ha⟩
  · refine j_aload_n (pc := 6) dX4_opensItem_6 rfl ?_
    refine j_iconst (pc := 7) dX4_opensItem_7 (v := 3) (by decide) ?_
    refine j_put (pc := 8) dX4_opensItem_8 f_X4_11 (by first | rfl | with_reducible assumption) (by rfl) ?_
    refine j_iconst (pc := 11) dX4_opensItem_11 (v := 1) (by decide) ?_
    refine j_zret (pc := 12) dX4_opensItem_12 (Or.inr rfl) ?_
    refine ⟨⟨fun x q _ _ _ => m_ne q, by rw [m_ne (by omega)]⟩, Or.inr rfl, Or.inl ⟨rfl, _, if_pos h3, ?_⟩⟩
    exact ⟨m_eq _ _ _ _, by rw [m_nk (by decide)]; exact e1, by rw [m_nk (by decide)]; exact e2, by simp, fun q => by simp at q, fun q => by simp at q, e6.up3 ha⟩
theorem c_X4_takesLetter {a : Nat} (ha : 4 < a) (c : Int32) {σ : Mm} {s : RS} (h0 : s.1 = 1) (h : HR σ a s) : EV Γ1 1 yX4_takesLetter cX4_takesLetter 2 (some .boolean) [.inr 3, .inl c] σ (takesP σ a s c) := by
  obtain ⟨aw, fr, ev, v⟩ := s
  dsimp only at h0
  subst h0
  obtain ⟨e0, e1, e2, e3, e4, e5, e6⟩ := h
  dsimp only at e0 e1 e2 e4 e6
  refine EV.intro (by decide +kernel) (Nat.le_of_ble_eq_true rfl) ?_
  refine j_aload_n (pc := 0) dX4_takesLetter_0 rfl ?_
  refine j_iload_n (pc := 1) dX4_takesLetter_1 rfl ?_
  refine j_bipush (pc := 2) dX4_takesLetter_2 (v := 97) (by decide) ?_
  refine j_isub (pc := 4) dX4_takesLetter_4 ?_
  refine j_put (pc := 5) dX4_takesLetter_5 f_X4_18 (by first | rfl | with_reducible assumption) (by rfl) ?_
  refine j_aload_n (pc := 8) dX4_takesLetter_8 rfl ?_
  refine j_iconst (pc := 9) dX4_takesLetter_9 (v := 2) (by decide) ?_
  refine j_put (pc := 10) dX4_takesLetter_10 f_X4_11 (by first | rfl | with_reducible assumption) (by rfl) ?_
  refine j_aload_n (pc := 13) dX4_takesLetter_13 rfl ?_
  refine j_getI (pc := 14) dX4_takesLetter_14 f_X4_18 (by first | rfl | with_reducible assumption) (by rfl) ?_
  refine j_callSNi (pc := 17) dX4_takesLetter_17 k_X4_62 (c_X7_isEvent _ _) rfl (by decide) rfl (Nat.le_of_ble_eq_true rfl) (fun r σ1 hp => ?_)
  obtain ⟨rfl, hp⟩ := hp
  rcases hp with ⟨q17, rfl⟩ | ⟨q17, rfl⟩
  · refine j_zret (pc := 20) dX4_takesLetter_20 (Or.inr rfl) ?_
    rw [m_nk (by decide), m_eq] at q17
    refine ⟨⟨fun x q _ _ _ => by rw [m_ne q, m_ne q], by rw [m_ne (by omega), m_ne (by omega)]⟩, by first | exact Or.inl rfl | exact Or.inr rfl, ?_⟩
    first | exact Or.inr ⟨rfl, if_neg (fun q => q17 (isLet_iff.mp q))⟩ | refine Or.inl ⟨rfl, _, if_pos (isLet_iff.mpr q17), ?_⟩
    all_goals exact ⟨m_eq _ _ _ _, by rw [m_nk (by decide), m_nk (by decide)]; exact e1, by rw [m_nk (by decide), m_eq], by simp, fun _ => e4 (Or.inl rfl), fun _ => q17, (e6.up3 ha).up3 ha⟩
  · refine j_zret (pc := 20) dX4_takesLetter_20 (Or.inl rfl) ?_
    rw [m_nk (by decide), m_eq] at q17
    refine ⟨⟨fun x q _ _ _ => by rw [m_ne q, m_ne q], by rw [m_ne (by omega), m_ne (by omega)]⟩, by first | exact Or.inl rfl | exact Or.inr rfl, ?_⟩
    first | exact Or.inr ⟨rfl, if_neg (fun q => q17 (isLet_iff.mp q))⟩ | refine Or.inl ⟨rfl, _, if_pos (isLet_iff.mpr q17), ?_⟩
    all_goals exact ⟨m_eq _ _ _ _, by rw [m_nk (by decide), m_nk (by decide)]; exact e1, by rw [m_nk (by decide), m_eq], by simp, fun _ => e4 (Or.inl rfl), fun _ => q17, (e6.up3 ha).up3 ha⟩
theorem c_X4_takesBlank {a : Nat} (ha : 4 < a) (c : Int32) {σ : Mm} {s : RS} (h0 : s.1 = 5) (h : HR σ a s) : EV Γ1 0 yX4_takesBlank cX4_takesBlank 2 (some .boolean) [.inr 3, .inl c] σ (takesP σ a s c) := by
  obtain ⟨aw, fr, ev, v⟩ := s
  dsimp only at h0
  subst h0
  obtain ⟨e0, e1, e2, e3, e4, e5, e6⟩ := h
  dsimp only at e0 e1 e2 e6
  refine EV.intro (by decide +kernel) (Nat.le_of_ble_eq_true rfl) ?_
  refine j_aload_n (pc := 0) dX4_takesBlank_0 rfl ?_
  refine j_iconst (pc := 1) dX4_takesBlank_1 (v := 0) (by decide) ?_
  refine j_put (pc := 2) dX4_takesBlank_2 f_X4_11 (by first | rfl | with_reducible assumption) (by rfl) ?_
  refine j_iload_n (pc := 5) dX4_takesBlank_5 rfl ?_
  refine j_bipush (pc := 6) dX4_takesBlank_6 (v := 32) (by decide) ?_
  refine j_icmp_ne (pc := 8) (tgt := 15) dX4_takesBlank_8 rfl (fun h8 => ?_) (fun h8 => ?_)
  · refine j_iconst (pc := 15) dX4_takesBlank_15 (v := 0) (by decide) ?_
    refine j_zret (pc := 16) dX4_takesBlank_16 (Or.inl rfl) ?_
    refine ⟨⟨fun x q _ _ _ => by rw [m_ne q], by rw [m_ne (by omega)]⟩, by first | exact Or.inl rfl | exact Or.inr rfl, ?_⟩
    first | exact Or.inr ⟨rfl, if_neg h8⟩ | refine Or.inl ⟨rfl, _, if_pos h8, ?_⟩
    all_goals exact ⟨m_eq _ _ _ _, by rw [m_nk (by decide)]; exact e1, by rw [m_nk (by decide)]; exact e2, by simp, fun q => by simp at q, fun q => by simp at q, e6.up3 ha⟩
  · refine j_iconst (pc := 11) dX4_takesBlank_11 (v := 1) (by decide) ?_
    refine j_goto (pc := 12) (tgt := 16) dX4_takesBlank_12 rfl ?_
    refine j_zret (pc := 16) dX4_takesBlank_16 (Or.inr rfl) ?_
    refine ⟨⟨fun x q _ _ _ => by rw [m_ne q], by rw [m_ne (by omega)]⟩, by first | exact Or.inl rfl | exact Or.inr rfl, ?_⟩
    first | exact Or.inr ⟨rfl, if_neg h8⟩ | refine Or.inl ⟨rfl, _, if_pos h8, ?_⟩
    all_goals exact ⟨m_eq _ _ _ _, by rw [m_nk (by decide)]; exact e1, by rw [m_nk (by decide)]; exact e2, by simp, fun q => by simp at q, fun q => by simp at q, e6.up3 ha⟩
theorem r_end {σ σ' : Mm} {a : Nat} {fr ev : Int32} {o : Option MV} (ha : 4 < a) (e1 : σ 3 1 = fr) (e2 : σ 3 2 = ev) {r : Int32} {s : RS} {c : Int32} (hs : rdStep s c = o.map (fun v => (5, fr, ev, v)))
    (hF : FrM a (m_up σ 3 0 5) σ') (hp : (r = 1 ∧ ∃ v', o = some v' ∧ HM σ' a v') ∨ (r = 0 ∧ o = none)) : takesP σ a s c r σ' := by
  refine ⟨FrR.of (fun x q => m_ne q) ha hF, ?_, ?_⟩
  · rcases hp with ⟨rfl, _⟩ | ⟨rfl, _⟩
    · exact Or.inr rfl
    · exact Or.inl rfl
  · have e3 : σ' 3 = m_up σ 3 0 5 3 := hF.1 3 (by omega) (by omega) (by omega)
    rcases hp with ⟨rfl, v', h1, h2⟩ | ⟨rfl, h1⟩
    · subst h1
      refine Or.inl ⟨rfl, _, hs, ?_⟩
      exact ⟨by rw [e3, m_eq]; rfl, by rw [e3, m_nk (by decide)]; exact e1, by rw [e3, m_nk (by decide)]; exact e2, by simp, fun q => by simp at q, fun q => by simp at q, h2⟩
    · subst h1
      exact Or.inr ⟨rfl, hs⟩
theorem c_X4_takesFigure {a : Nat} (hM : IsM a) (ha : 4 < a) (c : Int32) {σ : Mm} {s : RS} (h0 : s.1 = 2) (h : HR σ a s) : EV Γ1 2 yX4_takesFigure cX4_takesFigure 3 (some .boolean) [.inr 3, .inl c, .inr a] σ (takesP σ a s c) := by
  obtain ⟨aw, fr, ev, v⟩ := s
  dsimp only at h0
  subst h0
  obtain ⟨e0, e1, e2, e3, e4, e5, e6⟩ := h
  dsimp only at e0 e1 e2 e4 e5 e6
  have g0 := hM.1
  have x1 : m_up σ 3 0 5 3 1 = fr := by rw [m_nk (by decide)]; exact e1
  have x2 : m_up σ 3 0 5 3 2 = ev := by rw [m_nk (by decide)]; exact e2
  refine EV.intro (by decide +kernel) (Nat.le_of_ble_eq_true rfl) ?_
  refine j_aload_n (pc := 0) dX4_takesFigure_0 rfl ?_
  refine j_iconst (pc := 1) dX4_takesFigure_1 (v := 5) (by decide) ?_
  refine j_put (pc := 2) dX4_takesFigure_2 f_X4_11 (by first | rfl | with_reducible assumption) (by rfl) ?_
  refine j_aload_n (pc := 5) dX4_takesFigure_5 rfl ?_
  refine j_aload_n (pc := 6) dX4_takesFigure_6 rfl ?_
  refine j_getI (pc := 7) dX4_takesFigure_7 f_X4_15 (by first | rfl | with_reducible assumption) (by rfl) ?_
  refine j_top x1 ?_
  refine j_aload_n (pc := 10) dX4_takesFigure_10 rfl ?_
  refine j_getI (pc := 11) dX4_takesFigure_11 f_X4_18 (by first | rfl | with_reducible assumption) (by rfl) ?_
  refine j_top x2 ?_
  refine j_iload_n (pc := 14) dX4_takesFigure_14 rfl ?_
  refine j_bipush (pc := 15) dX4_takesFigure_15 (v := 48) (by decide) ?_
  refine j_isub (pc := 17) dX4_takesFigure_17 ?_
  refine j_callVNi (pc := 18) dX4_takesFigure_18 k_X4_65 (c_X2_tellStep hM (e4 (Or.inr rfl)) (e5 rfl) _ (e6.up3 ha)) (by first | rfl | with_reducible assumption) rfl rfl (by decide) rfl (Nat.le_of_ble_eq_true rfl) (fun r σ1 hp => ?_)
  have hr : r = 0 ∨ r = 1 := by
    rcases hp.2 with q | q
    · exact Or.inr q.1
    · exact Or.inl q.1
  refine j_zret (pc := 21) dX4_takesFigure_21 hr ?_
  exact r_end ha e1 e2 rfl hp.1 hp.2
theorem c_X4_takesMark {a : Nat} (hM : IsM a) (ha : 4 < a) (c : Int32) {σ : Mm} {s : RS} (h0 : s.1 = 3) (h : HR σ a s) : EV Γ1 2 yX4_takesMark cX4_takesMark 3 (some .boolean) [.inr 3, .inl c, .inr a] σ (takesP σ a s c) := by
  obtain ⟨aw, fr, ev, v⟩ := s
  dsimp only at h0
  subst h0
  obtain ⟨e0, e1, e2, e3, e4, e5, e6⟩ := h
  dsimp only at e0 e1 e2 e4 e5 e6
  have g0 := hM.1
  refine EV.intro (by decide +kernel) (Nat.le_of_ble_eq_true rfl) ?_
  refine j_aload_n (pc := 0) dX4_takesMark_0 rfl ?_
  refine j_iconst (pc := 1) dX4_takesMark_1 (v := 5) (by decide) ?_
  refine j_put (pc := 2) dX4_takesMark_2 f_X4_11 (by first | rfl | with_reducible assumption) (by rfl) ?_
  refine j_aload_n (pc := 5) dX4_takesMark_5 rfl ?_
  refine j_iload_n (pc := 6) dX4_takesMark_6 rfl ?_
  refine j_bipush (pc := 7) dX4_takesMark_7 (v := 48) (by decide) ?_
  refine j_isub (pc := 9) dX4_takesMark_9 ?_
  refine j_callVNi (pc := 10) dX4_takesMark_10 k_X4_69 (c_X2_tellMarked hM _ (e6.up3 ha)) (by first | rfl | with_reducible assumption) rfl rfl (by decide) rfl (Nat.le_of_ble_eq_true rfl) (fun r σ1 hp => ?_)
  have hr : r = 0 ∨ r = 1 := by
    rcases hp.2 with q | q
    · exact Or.inr q.1
    · exact Or.inl q.1
  refine j_zret (pc := 13) dX4_takesMark_13 hr ?_
  exact r_end ha e1 e2 rfl hp.1 hp.2
theorem c_X4_takesName {a : Nat} (hM : IsM a) (ha : 4 < a) (c : Int32) {σ : Mm} {s : RS} (h0 : s.1 = 4) (h : HR σ a s) : EV Γ1 2 yX4_takesName cX4_takesName 3 (some .boolean) [.inr 3, .inl c, .inr a] σ (takesP σ a s c) := by
  obtain ⟨aw, fr, ev, v⟩ := s
  dsimp only at h0
  subst h0
  obtain ⟨e0, e1, e2, e3, e4, e5, e6⟩ := h
  dsimp only at e0 e1 e2 e4 e5 e6
  have g0 := hM.1
  refine EV.intro (by decide +kernel) (Nat.le_of_ble_eq_true rfl) ?_
  refine j_aload_n (pc := 0) dX4_takesName_0 rfl ?_
  refine j_iconst (pc := 1) dX4_takesName_1 (v := 5) (by decide) ?_
  refine j_put (pc := 2) dX4_takesName_2 f_X4_11 (by first | rfl | with_reducible assumption) (by rfl) ?_
  refine j_aload_n (pc := 5) dX4_takesName_5 rfl ?_
  refine j_iload_n (pc := 6) dX4_takesName_6 rfl ?_
  refine j_bipush (pc := 7) dX4_takesName_7 (v := 97) (by decide) ?_
  refine j_isub (pc := 9) dX4_takesName_9 ?_
  refine j_callVNi (pc := 10) dX4_takesName_10 k_X4_72 (c_X2_tellEvent hM _ (e6.up3 ha)) (by first | rfl | with_reducible assumption) rfl rfl (by decide) rfl (Nat.le_of_ble_eq_true rfl) (fun r σ1 hp => ?_)
  have hr : r = 0 ∨ r = 1 := by
    rcases hp.2 with q | q
    · exact Or.inr q.1
    · exact Or.inl q.1
  refine j_zret (pc := 13) dX4_takesName_13 hr ?_
  exact r_end ha e1 e2 rfl hp.1 hp.2
theorem c_X4_takes {a : Nat} (hM : IsM a) (ha : 4 < a) (c : Int32) {σ : Mm} {s : RS} (h : HR σ a s) : EV Γ1 3 yX4_takes cX4_takes 3 (some .boolean) [.inr 3, .inl c, .inr a] σ (takesP σ a s c) := by
  refine EV.intro (by decide +kernel) (Nat.le_of_ble_eq_true rfl) ?_
  have w40 : s.1 = 0 → AJ Γ1 3 RX4 cX4_takes 3 (some .boolean) (takesP σ a s c) 40 [some (.inr 3), some (.inl c), some (.inr a)] [] σ := by
    intro h0
    refine j_aload_n (pc := 40) dX4_takes_40 rfl ?_
    refine j_iload_n (pc := 41) dX4_takes_41 rfl ?_
    refine j_callVi (pc := 42) dX4_takes_42 k_X4_40 (c_X4_opensItem ha c h0 h) (by first | rfl | with_reducible assumption) rfl rfl (by decide) rfl (Nat.le_of_ble_eq_true rfl) (fun r σ1 hp => ?_)
    have hr := hp.2.1
    refine j_zret (pc := 45) dX4_takes_45 hr ?_
    exact hp
  have w46 : s.1 = 1 → AJ Γ1 3 RX4 cX4_takes 3 (some .boolean) (takesP σ a s c) 46 [some (.inr 3), some (.inl c), some (.inr a)] [] σ := by
    intro h0
    refine j_aload_n (pc := 46) dX4_takes_46 rfl ?_
    refine j_iload_n (pc := 47) dX4_takes_47 rfl ?_
    refine j_callVi (pc := 48) dX4_takes_48 k_X4_44 (c_X4_takesLetter ha c h0 h) (by first | rfl | with_reducible assumption) rfl rfl (by decide) rfl (Nat.le_of_ble_eq_true rfl) (fun r σ1 hp => ?_)
    have hr := hp.2.1
    refine j_zret (pc := 51) dX4_takes_51 hr ?_
    exact hp
  have w52 : s.1 = 2 → AJ Γ1 3 RX4 cX4_takes 3 (some .boolean) (takesP σ a s c) 52 [some (.inr 3), some (.inl c), some (.inr a)] [] σ := by
    intro h0
    refine j_aload_n (pc := 52) dX4_takes_52 rfl ?_
    refine j_iload_n (pc := 53) dX4_takes_53 rfl ?_
    refine j_aload_n (pc := 54) dX4_takes_54 rfl ?_
    refine j_callVi (pc := 55) dX4_takes_55 k_X4_47 (c_X4_takesFigure hM ha c h0 h) (by first | rfl | with_reducible assumption) rfl rfl (by decide) rfl (Nat.le_of_ble_eq_true rfl) (fun r σ1 hp => ?_)
    have hr := hp.2.1
    refine j_zret (pc := 58) dX4_takes_58 hr ?_
    exact hp
  have w59 : s.1 = 3 → AJ Γ1 3 RX4 cX4_takes 3 (some .boolean) (takesP σ a s c) 59 [some (.inr 3), some (.inl c), some (.inr a)] [] σ := by
    intro h0
    refine j_aload_n (pc := 59) dX4_takes_59 rfl ?_
    refine j_iload_n (pc := 60) dX4_takes_60 rfl ?_
    refine j_aload_n (pc := 61) dX4_takes_61 rfl ?_
    refine j_callVi (pc := 62) dX4_takes_62 k_X4_50 (c_X4_takesMark hM ha c h0 h) (by first | rfl | with_reducible assumption) rfl rfl (by decide) rfl (Nat.le_of_ble_eq_true rfl) (fun r σ1 hp => ?_)
    have hr := hp.2.1
    refine j_zret (pc := 65) dX4_takes_65 hr ?_
    exact hp
  have w66 : s.1 = 4 → AJ Γ1 3 RX4 cX4_takes 3 (some .boolean) (takesP σ a s c) 66 [some (.inr 3), some (.inl c), some (.inr a)] [] σ := by
    intro h0
    refine j_aload_n (pc := 66) dX4_takes_66 rfl ?_
    refine j_iload_n (pc := 67) dX4_takes_67 rfl ?_
    refine j_aload_n (pc := 68) dX4_takes_68 rfl ?_
    refine j_callVi (pc := 69) dX4_takes_69 k_X4_53 (c_X4_takesName hM ha c h0 h) (by first | rfl | with_reducible assumption) rfl rfl (by decide) rfl (Nat.le_of_ble_eq_true rfl) (fun r σ1 hp => ?_)
    have hr := hp.2.1
    refine j_zret (pc := 72) dX4_takes_72 hr ?_
    exact hp
  have w73 : s.1 = 5 → AJ Γ1 3 RX4 cX4_takes 3 (some .boolean) (takesP σ a s c) 73 [some (.inr 3), some (.inl c), some (.inr a)] [] σ := by
    intro h0
    refine j_aload_n (pc := 73) dX4_takes_73 rfl ?_
    refine j_iload_n (pc := 74) dX4_takes_74 rfl ?_
    refine j_callVi (pc := 75) dX4_takes_75 k_X4_56 (c_X4_takesBlank ha c h0 h) (by first | rfl | with_reducible assumption) rfl rfl (by decide) rfl (Nat.le_of_ble_eq_true rfl) (fun r σ1 hp => ?_)
    have hr := hp.2.1
    refine j_zret (pc := 78) dX4_takes_78 hr ?_
    exact hp
  have h5 := h.2.2.2.1
  refine j_aload_n (pc := 0) dX4_takes_0 rfl ?_
  refine j_getI (pc := 1) dX4_takes_1 f_X4_11 (by first | rfl | with_reducible assumption) (by rfl) ?_
  refine j_top h.1 ?_
  rcases (by omega : s.1 = 0 ∨ s.1 = 1 ∨ s.1 = 2 ∨ s.1 = 3 ∨ s.1 = 4 ∨ s.1 = 5) with q | q | q | q | q | q <;> rw [q]
  · exact j_tableIn (pc := 4) (tgt := 40) dX4_takes_4 (by decide) (by decide) (off := 36) rfl rfl (w40 q)
  · exact j_tableIn (pc := 4) (tgt := 46) dX4_takes_4 (by decide) (by decide) (off := 42) rfl rfl (w46 q)
  · exact j_tableIn (pc := 4) (tgt := 52) dX4_takes_4 (by decide) (by decide) (off := 48) rfl rfl (w52 q)
  · exact j_tableIn (pc := 4) (tgt := 59) dX4_takes_4 (by decide) (by decide) (off := 55) rfl rfl (w59 q)
  · exact j_tableIn (pc := 4) (tgt := 66) dX4_takes_4 (by decide) (by decide) (off := 62) rfl rfl (w66 q)
  · exact j_tableOut (pc := 4) (tgt := 73) dX4_takes_4 (Or.inr (by decide)) rfl (w73 q)
/-- read: the FIRST FAULT, NONE for none; the MACHINE at a is told then -/
def readP (σ : Mm) (a n : Nat) (kind : Int32) : Int32 → Mm → Prop := fun r σ' => (∀ x, x ≠ 3 → x ≠ a → x ≠ a + 1 → x ≠ a + 2 → σ' x = σ x) ∧ σ' a 2 = kind ∧
  ∃ fr ev : Int32, match rdEnd n (rdGo (σ 2) n 0 (0, fr, ev, mv0)) with
    | .inl p => r = nI p ∧ p ≤ n
    | .inr v => r = -9 ∧ HM σ' a v
theorem c_X4_read {a : Nat} (hM : IsM a) (ha : 4 < a) (kind : Int32) {σ : Mm} {n : Nat} (hn : σ 1 1 = nI n) (h60 : n ≤ 60) : EV Γ1 4 yX4_read cX4_read 5 (some .int) [.inr 3, .inr 1, .inr a, .inl kind] σ (readP σ a n kind) := by
  have g0 := hM.1
  have loop : ∀ (k i : Nat) (s : RS) (σ' : Mm) (fr ev : Int32), i + k = n → HR σ' a s → (∀ x, x ≠ 3 → x ≠ a → x ≠ a + 1 → x ≠ a + 2 → σ' x = σ x) → σ' a 2 = kind → rdGo (σ 2) n 0 (0, fr, ev, mv0) = rdGo (σ 2) k i s →
      AJ Γ1 4 RX4 cX4_read 5 (some .int) (readP σ a n kind) 13 [some (.inr 3), some (.inr 1), some (.inr a), some (.inl kind), some (.inl (nI i))] [] σ' := by
    intro k
    induction k with
    | zero =>
      intro i s σ' fr ev hi h hF hk hgo
      obtain rfl : i = n := by omega
      have x1 : σ' 1 1 = nI i := by rw [hF 1 (by decide) (by omega) (by omega) (by omega)]; exact hn
      refine j_iload (pc := 13) dX4_read_13 rfl ?_
      refine j_aload_n (pc := 15) dX4_read_15 rfl ?_
      refine j_getI (pc := 16) dX4_read_16 f_X4_27 (by first | rfl | with_reducible assumption) (by rfl) ?_
      refine j_icmp_ge (pc := 19) (tgt := 53) dX4_read_19 rfl (fun h19 => ?_) (fun h19 => absurd (by rw [x1]; exact Int32.le_refl _) h19)
      refine j_aload_n (pc := 53) dX4_read_53 rfl ?_
      refine j_getI (pc := 54) dX4_read_54 f_X4_11 (by first | rfl | with_reducible assumption) (by rfl) ?_
      refine j_iconst (pc := 57) dX4_read_57 (v := 5) (by decide) ?_
      refine j_icmp_ne (pc := 58) (tgt := 66) dX4_read_58 rfl (fun h58 => ?_) (fun h58 => ?_)
      · have h5 : ¬ s.1 = 5 := fun q => h58 (by rw [h.1, q]; rfl)
        refine j_aload_n (pc := 66) dX4_read_66 rfl ?_
        refine j_getI (pc := 67) dX4_read_67 f_X4_27 (by first | rfl | with_reducible assumption) (by rfl) ?_
        refine j_iret (pc := 70) dX4_read_70 ?_
        refine ⟨hF, hk, fr, ev, ?_⟩
        rw [hgo]
        first | (rw [show rdEnd i (rdGo (σ 2) 0 i s) = .inr s.2.2.2 from if_pos h5]; exact ⟨rfl, h.2.2.2.2.2.2⟩) | (rw [show rdEnd i (rdGo (σ 2) 0 i s) = .inl i from if_neg h5]; exact ⟨x1, Nat.le_refl _⟩)
      · have h5 : s.1 = 5 := by
          rw [h.1] at h58
          exact (nI_eq (b := 5) (by have := h.2.2.2.1; omega) (by decide)).mp h58
        refine j_bipush (pc := 61) dX4_read_61 (v := (-9)) (by decide) ?_
        refine j_goto (pc := 63) (tgt := 70) dX4_read_63 rfl ?_
        refine j_iret (pc := 70) dX4_read_70 ?_
        refine ⟨hF, hk, fr, ev, ?_⟩
        rw [hgo]
        first | (rw [show rdEnd i (rdGo (σ 2) 0 i s) = .inr s.2.2.2 from if_pos h5]; exact ⟨rfl, h.2.2.2.2.2.2⟩) | (rw [show rdEnd i (rdGo (σ 2) 0 i s) = .inl i from if_neg h5]; exact ⟨x1, Nat.le_refl _⟩)
    | succ k ih =>
      intro i s σ' fr ev hi h hF hk hgo
      have x1 : σ' 1 1 = nI n := by rw [hF 1 (by decide) (by omega) (by omega) (by omega)]; exact hn
      have x2 : σ' 2 = σ 2 := hF 2 (by decide) (by omega) (by omega) (by omega)
      refine j_iload (pc := 13) dX4_read_13 rfl ?_
      refine j_aload_n (pc := 15) dX4_read_15 rfl ?_
      refine j_getI (pc := 16) dX4_read_16 f_X4_27 (by first | rfl | with_reducible assumption) (by rfl) ?_
      refine j_icmp_ge (pc := 19) (tgt := 53) dX4_read_19 rfl (fun h19 => absurd (x1 ▸ h19) (nI_ge (by omega) (by omega))) (fun h19 => ?_)
      refine j_iload (pc := 22) dX4_read_22 rfl ?_
      refine j_bipush (pc := 24) dX4_read_24 (v := 60) (by decide) ?_
      refine j_icmp_ge (pc := 26) (tgt := 53) dX4_read_26 rfl (fun h26 => absurd h26 (nI_ge (b := 60) (by omega) (by decide))) (fun h26 => ?_)
      refine j_aload_n (pc := 29) dX4_read_29 rfl ?_
      refine j_aload_n (pc := 30) dX4_read_30 rfl ?_
      refine j_getR (pc := 31) dX4_read_31 f_X4_32 (by first | rfl | with_reducible assumption) (by rfl) ?_
      refine j_iload (pc := 34) dX4_read_34 rfl ?_
      refine j_iald (pc := 36) dX4_read_36 (by first | rfl | with_reducible assumption) (vp_in_nI (by omega) (by decide)) ?_
      refine j_aload_n (pc := 37) dX4_read_37 rfl ?_
      refine j_callVi (pc := 38) dX4_read_38 k_X4_36 (c_X4_takes hM ha _ h) (by first | rfl | with_reducible assumption) rfl rfl (by decide) rfl (Nat.le_of_ble_eq_true rfl) (fun r σ1 hp => ?_)
      obtain ⟨hF2, -, hp⟩ := hp
      rw [nI_clamp (by omega), x2] at hp
      have hFF : ∀ x, x ≠ 3 → x ≠ a → x ≠ a + 1 → x ≠ a + 2 → σ1 x = σ x := fun x a0 a1 a2 a3 => (hF2.1 x a0 a1 a2 a3).trans (hF x a0 a1 a2 a3)
      refine j_if_ne (pc := 41) (tgt := 47) dX4_read_41 rfl (fun h41 => ?_) (fun h41 => ?_)
      · have hp1 : ∃ s', rdStep s (σ 2 i) = some s' ∧ HR σ1 a s' := by
          rcases hp with ⟨q, q2⟩ | ⟨q, q2⟩
          · exact q2
          · exact absurd q h41
        refine j_iinc1 (pc := 47) dX4_read_47 rfl ?_
        refine j_goto (pc := 50) (tgt := 13) dX4_read_50 rfl ?_
        obtain ⟨s', e1, e2⟩ := hp1
        rw [nI_1]
        refine ih (i + 1) s' σ1 fr ev (by omega) e2 hFF (hF2.2.trans hk) ?_
        rw [hgo]
        simp only [rdGo, e1]
      · have hp0 : rdStep s (σ 2 i) = none := by
          rcases hp with ⟨q, q2⟩ | ⟨q, q2⟩
          · rw [h41] at q; exact absurd q (by decide)
          · exact q2
        refine j_iload (pc := 44) dX4_read_44 rfl ?_
        refine j_iret (pc := 46) dX4_read_46 ?_
        refine ⟨hFF, hF2.2.trans hk, fr, ev, ?_⟩
        rw [hgo]
        rw [show rdEnd n (rdGo (σ 2) (k + 1) i s) = .inl i by simp only [rdGo, hp0, rdEnd]]
        exact ⟨rfl, by omega⟩
  refine EV.intro (by decide +kernel) (Nat.le_of_ble_eq_true rfl) ?_
  refine j_aload_n (pc := 0) dX4_read_0 rfl ?_
  refine j_iload_n (pc := 1) dX4_read_1 rfl ?_
  refine j_callVNv (pc := 2) dX4_read_2 k_X4_21 (c_X2_clear hM kind σ) (by first | rfl | with_reducible assumption) rfl rfl (by decide) rfl (Nat.le_of_ble_eq_true rfl) (fun σ1 hp => ?_)
  obtain ⟨hM0, hk, hF⟩ := hp
  refine j_aload_n (pc := 5) dX4_read_5 rfl ?_
  refine j_iconst (pc := 6) dX4_read_6 (v := 0) (by decide) ?_
  refine j_put (pc := 7) dX4_read_7 f_X4_11 (by first | rfl | with_reducible assumption) (by rfl) ?_
  refine j_iconst (pc := 10) dX4_read_10 (v := 0) (by decide) ?_
  refine j_istore (pc := 11) dX4_read_11 (by decide) ?_
  refine loop n 0 (0, σ1 3 1, σ1 3 2, mv0) _ (σ1 3 1) (σ1 3 2) (by omega) ⟨m_eq _ _ _ _, m_nk (by decide), m_nk (by decide), by simp, fun q => by simp at q, fun q => by simp at q, hM0.up3 ha⟩ (fun x a0 a1 a2 a3 => (m_ne a0).trans (hF x a1 a2 a3)) (by rw [m_ne (by omega)]; exact hk) rfl
end
section
/-! WHAT THE JOINTS ARE. Tab: kind, ALPHABET, MARKED STATES and steps (at 8 s + e) of each MACHINE. A JOINT's code has three bits for each MACHINE. -/
abbrev Tab : Type := (Nat → Int32) × (Nat → Int32) × (Nat → Int32) × (Nat → Nat → Int32)
def stI (c : Int32) (m : Nat) : Int32 := (c >>> (nI (3 * m) &&& 31)) &&& 7
def setI (c : Int32) (m : Nat) (t : Int32) : Int32 := (c &&& (((7 : Int32) <<< (nI (3 * m) &&& 31)) ^^^ (-1))) ||| (t <<< (nI (3 * m) &&& 31))
theorem b_7 : ∀ i, i < 32 → bt 7 i = decide (i < 3) := by decide +kernel
theorem b_small : ∀ t, t < 8 → ∀ i, i < 32 → 3 ≤ i → bt (nI t) i = false := by decide +kernel
theorem b_st {c : Int32} {m i : Nat} (hm : m < 6) (hi : i < 32) : bt (stI c m) i = (decide (i < 3) && bt c (3 * m + i)) := by
  unfold stI
  rw [b_and, b_7 i hi, b_sshr (3 * m) (by omega) c hi]
  by_cases h : i < 3
  · have : 3 * m + i < 32 := by omega
    simp [h, this]
  · simp [h]
theorem b_set {c : Int32} {m t i : Nat} (hm : m < 6) (ht : t < 8) (hi : i < 32) : bt (setI c m (nI t)) i = if 3 * m ≤ i ∧ i < 3 * m + 3 then bt (nI t) (i - 3 * m) else bt c i := by
  unfold setI
  rw [b_or, b_and, b_not _ hi, b_shl (3 * m) (by omega) 7 hi, b_shl (3 * m) (by omega) _ hi]
  by_cases h1 : 3 * m ≤ i
  · by_cases h2 : i < 3 * m + 3
    · have h3 : i - 3 * m < 3 := by omega
      simp [h1, h2, b_7 (i - 3 * m) (by omega), h3]
    · have h3 : ¬ i - 3 * m < 3 := by omega
      simp [h1, h2, b_7 (i - 3 * m) (by omega), h3, b_small t ht (i - 3 * m) (by omega) (by omega)]
  · simp [h1]
theorem st_set {c : Int32} {m k t : Nat} (hm : m < 6) (hk : k < 6) (ht : t < 8) : stI (setI c m (nI t)) k = if k = m then nI t else stI c k := by
  apply b_ext
  intro i hi
  rw [b_st hk hi]
  by_cases h3 : i < 3
  · rw [b_set hm ht (by omega)]
    by_cases hkm : k = m
    · subst hkm
      have : 3 * k ≤ 3 * k + i ∧ 3 * k + i < 3 * k + 3 := by omega
      simp [h3, this]
    · have : ¬ (3 * m ≤ 3 * k + i ∧ 3 * k + i < 3 * m + 3) := by omega
      simp only [if_neg this, if_neg hkm, b_st hk hi]
  · by_cases hkm : k = m
    · simp [h3, hkm, b_small t ht i hi (by omega)]
    · simp [h3, hkm, b_st hk hi]
theorem st_0 : ∀ m, m < 6 → stI 0 m = nI 0 := by decide +kernel
theorem st_lt8 (c : Int32) {m : Nat} : ∃ s : Nat, s < 8 ∧ stI c m = nI s := by
  obtain ⟨j, h1, h2⟩ := pk_andE (c >>> (nI (3 * m) &&& 31)) (m := 7) 3 (by decide)
  exact ⟨j, h1, h2⟩
/-- the STATE's number -/
def stN (c : Int32) (m : Nat) : Nat := (stI c m).toNatClampNeg
theorem st_n (c : Int32) (m : Nat) : stI c m = nI (stN c m) ∧ stN c m < 8 := by
  obtain ⟨s, h1, h2⟩ := st_lt8 c (m := m)
  unfold stN
  rw [h2, nI_clamp (by omega)]
  exact ⟨rfl, h1⟩
/-- a code all of whose STATES are 0 .. 5 -/
def okC (c : Int32) : Prop := ∀ m, m < 6 → stN c m < 6
theorem ok_0 : okC 0 := by
  intro m hm
  unfold stN
  rw [st_0 m hm]
  decide
theorem stN_set {c : Int32} {m k t : Nat} (hm : m < 6) (hk : k < 6) (ht : t < 8) : stN (setI c m (nI t)) k = if k = m then t else stN c k := by
  unfold stN
  rw [st_set hm hk ht]
  by_cases h : k = m
  · rw [if_pos h, if_pos h, nI_clamp (by omega)]
  · rw [if_neg h, if_neg h]
theorem ok_set {c : Int32} {m t : Nat} (hm : m < 6) (ht : t < 6) (h : okC c) : okC (setI c m (nI t)) := by
  intro k hk
  rw [stN_set hm hk (by omega)]
  by_cases h2 : k = m
  · rw [if_pos h2]; exact ht
  · rw [if_neg h2]; exact h k hk
/-- a MACHINE's table is as a TEXT tells it -/
def okT (T : Tab) (m : Nat) : Prop := (T.1 m = 0 ∨ T.1 m = 1) ∧ (∀ x, x < 48 → T.2.2.2 m x = -9 ∨ ∃ t, t < 6 ∧ T.2.2.2 m x = nI t) ∧ (∀ s, s < 6 → ∀ e, e < 8 → T.2.2.2 m (8 * s + e) ≠ -9 → bt (T.2.1 m) e = true) ∧ (∀ i, 8 ≤ i → bt (T.2.1 m) i = false)
section Spec
variable (T : Tab) (set : Int32)
/-- a MACHINE of the set has the EVENT; it has a step by it from its STATE -/
def hasE (e m : Nat) : Bool := bt set m && bt (T.2.1 m) e
def stp (c : Int32) (e m : Nat) : Int32 := T.2.2.2 m (8 * stN c m + e)
def ledG (c : Int32) (e : Nat) : Nat → Option (Bool × Int32)
  | 0 => some (false, c)
  | m + 1 => match ledG c e m with
    | none => none
    | some (b, t) => if hasE T set e m = true then (if stp T c e m = -9 then none else some (true, setI t m (stp T c e m))) else some (b, t)
/-- to which code an EVENT LEADS -/
def led (c : Int32) (e : Nat) : Option Int32 := match ledG T set c e 6 with
  | some (true, t) => some t
  | _ => none
def leadB (c : Int32) (e : Nat) : Bool := (List.range 6).any (hasE T set e) && (List.range 6).all (fun m => !hasE T set e m || decide (stp T c e m ≠ -9))
def isPl (m : Nat) : Bool := decide (T.1 m = 0)
/-- all PLANTS that have it can, one has it, a RULE that has it can't (FREE or not) -/
def clashB (c : Int32) (e : Nat) : Bool := (List.range 6).any (fun m => isPl T m && hasE T set e m) && (List.range 6).all (fun m => !(isPl T m && hasE T set e m) || decide (stp T c e m ≠ -9)) && (List.range 6).any (fun m => !isPl T m && hasE T set e m && decide (stp T c e m = -9))
def finB (c : Int32) : Bool := (List.range 6).all (fun m => !bt set m || bt (T.2.2.1 m) (stN c m))
def nxt (l : List Int32) (x : Nat) : Option Int32 := (l[x / 8]?).bind (fun c => led T set c (x % 8))
/-- the codes that are met, x twos of a JOINT and an EVENT gone through -/
def csx : Nat → List Int32
  | 0 => [0]
  | x + 1 => match nxt T set (csx x) x with
    | none => csx x
    | some c => if c ∈ csx x then csx x else csx x ++ [c]
def toX (x : Nat) : Int32 := match nxt T set (csx T set x) x with
  | none => -9
  | some c => nI ((csx T set (x + 1)).idxOf c)
theorem csx_some {x : Nat} {c : Int32} (h : nxt T set (csx T set x) x = some c) : csx T set (x + 1) = if c ∈ csx T set x then csx T set x else csx T set x ++ [c] := by
  simp only [csx, h]
theorem csx_none {x : Nat} (h : nxt T set (csx T set x) x = none) : csx T set (x + 1) = csx T set x := by
  simp only [csx, h]
theorem csx_step (x : Nat) : csx T set (x + 1) = csx T set x ∨ ∃ c, nxt T set (csx T set x) x = some c ∧ c ∉ csx T set x ∧ csx T set (x + 1) = csx T set x ++ [c] := by
  cases h : nxt T set (csx T set x) x with
  | none => exact Or.inl (csx_none T set h)
  | some c =>
    rw [csx_some T set h]
    by_cases hc : c ∈ csx T set x
    · exact Or.inl (if_pos hc)
    · exact Or.inr ⟨c, rfl, hc, if_neg hc⟩
theorem csx_pre {x y : Nat} (h : x ≤ y) : ∃ r, csx T set y = csx T set x ++ r := by
  induction h with
  | refl => exact ⟨[], by simp⟩
  | step _ ih =>
    obtain ⟨r, hr⟩ := ih
    rcases csx_step T set _ with h | ⟨c, -, -, h⟩
    · exact ⟨r, h.trans hr⟩
    · exact ⟨r ++ [c], by rw [h, hr, List.append_assoc]⟩
theorem csx_get {x y i : Nat} (h : x ≤ y) (hi : i < (csx T set x).length) : (csx T set y)[i]? = (csx T set x)[i]? := by
  obtain ⟨r, hr⟩ := csx_pre T set h
  rw [hr, List.getElem?_append_left hi]
theorem csx_len {x y : Nat} (h : x ≤ y) : (csx T set x).length ≤ (csx T set y).length := by
  obtain ⟨r, hr⟩ := csx_pre T set h
  rw [hr, List.length_append]
  omega
theorem csx_pos (x : Nat) : 0 < (csx T set x).length := by
  have := csx_len T set (Nat.zero_le x)
  simp [csx] at this
  omega
theorem csx_nodup (x : Nat) : (csx T set x).Nodup := by
  induction x with
  | zero => simp [csx]
  | succ x ih =>
    rcases csx_step T set x with h | ⟨c, -, hc, h⟩
    · rw [h]; exact ih
    · rw [h, List.nodup_append]
      refine ⟨ih, by simp, fun a ha b hb => ?_⟩
      have : b = c := by simpa using hb
      subst this
      exact fun q => hc (q ▸ ha)
theorem csx_stop {x : Nat} (h : (csx T set x).length * 8 ≤ x) : ∀ y, x ≤ y → csx T set y = csx T set x := by
  intro y hy
  induction hy with
  | refl => rfl
  | @step y hxy ih =>
    have : nxt T set (csx T set y) y = none := by
      rw [ih]
      unfold nxt
      rw [List.getElem?_eq_none (by have hle : x ≤ y := hxy; omega)]
      rfl
    rw [csx_none T set this, ih]
theorem ledG_ok (hT : ∀ m, m < 6 → bt set m = true → okT T m) {c : Int32} (hc : okC c) {e : Nat} (he : e < 8) : ∀ m, m ≤ 6 → ∀ b t, ledG T set c e m = some (b, t) → okC t := by
  intro m
  induction m with
  | zero => intro _ b t h; simp [ledG] at h; rw [← h.2]; exact hc
  | succ m ih =>
    intro hm b t h
    simp only [ledG] at h
    cases hg : ledG T set c e m with
    | none => rw [hg] at h; cases h
    | some q =>
      obtain ⟨b0, t0⟩ := q
      rw [hg] at h
      dsimp only at h
      have h0 := ih (by omega) b0 t0 hg
      by_cases h1 : hasE T set e m = true
      · rw [if_pos h1] at h
        by_cases h2 : stp T c e m = -9
        · rw [if_pos h2] at h; cases h
        · rw [if_neg h2] at h
          have hs : bt set m = true := by unfold hasE at h1; simp at h1; exact h1.1
          have hx : 8 * stN c m + e < 48 := by have := hc m (by omega); omega
          rcases (hT m (by omega) hs).2.1 _ hx with q | ⟨t1, ht1, q⟩
          · exact absurd q h2
          · have : stp T c e m = nI t1 := q
            rw [this] at h
            cases h
            exact ok_set (by omega) ht1 h0
      · rw [if_neg h1] at h
        cases h
        exact h0
theorem led_ok (hT : ∀ m, m < 6 → bt set m = true → okT T m) {c t : Int32} (hc : okC c) {e : Nat} (he : e < 8) (h : led T set c e = some t) : okC t := by
  unfold led at h
  split at h
  next t1 hg => cases h; exact ledG_ok T set hT hc he 6 (Nat.le_refl _) _ _ hg
  next => cases h
theorem csx_ok (hT : ∀ m, m < 6 → bt set m = true → okT T m) (x : Nat) : ∀ c ∈ csx T set x, okC c := by
  induction x with
  | zero => intro c hc; simp [csx] at hc; subst hc; exact ok_0
  | succ x ih =>
    rcases csx_step T set x with h | ⟨c, h1, -, h⟩
    · rw [h]; exact ih
    · rw [h]
      intro c' hc'
      rcases List.mem_append.mp hc' with q | q
      · exact ih c' q
      · have : c' = c := by simpa using q
        subst this
        unfold nxt at h1
        cases hl : (csx T set x)[x / 8]? with
        | none => rw [hl] at h1; cases h1
        | some c0 =>
          rw [hl] at h1
          exact led_ok T set hT (ih c0 (List.mem_of_getElem? hl)) (Nat.mod_lt _ (by decide)) h1
/-- where an EVENT LEADS: nowhere, or to a JOINT that is met -/
theorem toX_cases (x : Nat) : (nxt T set (csx T set x) x = none ∧ toX T set x = -9) ∨ ∃ (c : Int32) (j : Nat), nxt T set (csx T set x) x = some c ∧ toX T set x = nI j ∧ j < (csx T set (x + 1)).length ∧ (csx T set (x + 1))[j]? = some c := by
  unfold toX
  cases h : nxt T set (csx T set x) x with
  | none => exact Or.inl ⟨rfl, rfl⟩
  | some c =>
    have hm : c ∈ csx T set (x + 1) := by
      rw [csx_some T set h]
      by_cases hc : c ∈ csx T set x
      · rw [if_pos hc]; exact hc
      · rw [if_neg hc]; simp
    have hl := List.idxOf_lt_length_of_mem hm
    exact Or.inr ⟨c, _, rfl, rfl, hl, by rw [List.getElem?_eq_getElem hl]; simp⟩
theorem nodup_idx {l : List Int32} (h : l.Nodup) {i j : Nat} {c : Int32} (hi : l[i]? = some c) (hj : l[j]? = some c) : i = j := by
  obtain ⟨h1, h2⟩ := List.getElem?_eq_some_iff.mp hi
  obtain ⟨h3, h4⟩ := List.getElem?_eq_some_iff.mp hj
  have hp := List.pairwise_iff_getElem.mp h
  rcases Nat.lt_trichotomy i j with q | q | q
  · exact absurd (h2.trans h4.symm) (hp i j h1 h3 q)
  · exact q
  · exact absurd (h4.trans h2.symm) (hp j i h3 h1 q)
end Spec
end
section
/-! NET, its small methods. b: where it lies -/
theorem nI_z {n : Nat} (h : n < 2 ^ 31) : ¬ nI n = -9 := fun q => by
  have := congrArg Int32.toInt q
  rw [nI_toInt h] at this
  have h9 : (-9 : Int32).toInt = -9 := rfl
  omega
theorem vin_le {x : Int32} {n N : Nat} (h : vp_in x n) (hn : n ≤ N) : vp_in x N := by
  rw [vp_in_iff] at h ⊢
  omega
theorem c_X3_has {b : Nat} (hb : IsN b) (n : Int32) {σ : Mm} {J : Nat} (hJ : σ b 13 = nI J) (hJ2 : J ≤ 150) : EV Γ1 0 yX3_has cX3_has 2 (some .boolean) [.inr b, .inl n] σ (bz (vp_in n J) σ) := by
  have g0 := hb.1
  have tJ : (nI J).toInt = J := nI_toInt (by omega)
  refine EV.intro (by decide +kernel) (Nat.le_of_ble_eq_true rfl) ?_
  refine j_iload_n (pc := 0) dX3_has_0 rfl ?_
  refine j_if_lt (pc := 1) (tgt := 23) dX3_has_1 rfl (fun h1 => ?_) (fun h1 => ?_)
  · refine j_iconst (pc := 23) dX3_has_23 (v := 0) (by decide) ?_
    refine j_zret (pc := 24) dX3_has_24 (Or.inl rfl) ?_
    exact ⟨rfl, Or.inr ⟨by (simp only [Int32.lt_iff_toInt_lt, Int32.le_iff_toInt_le, ← Int32.toInt_inj, vp_in_iff, ti_0, ti_1, ti_2, ti_3, ti_5, ti_6, ti_7, ti_8, ti_16, ti_48, ti_53, ti_60, ti_97, ti_104, ti_127, ti_149, ti_150, ti_151, ti_256, ti_1200, ti_m1, ti_m2, ti_m3, ti_m4, ti_m9, tJ] at *; omega), rfl⟩⟩
  · refine j_iload_n (pc := 4) dX3_has_4 rfl ?_
    refine j_aload_n (pc := 5) dX3_has_5 rfl ?_
    refine j_getI (pc := 6) dX3_has_6 f_X3_53 (by first | rfl | with_reducible assumption) (by rfl) ?_
    refine j_top hJ ?_
    refine j_icmp_ge (pc := 9) (tgt := 23) dX3_has_9 rfl (fun h9 => ?_) (fun h9 => ?_)
    · refine j_iconst (pc := 23) dX3_has_23 (v := 0) (by decide) ?_
      refine j_zret (pc := 24) dX3_has_24 (Or.inl rfl) ?_
      exact ⟨rfl, Or.inr ⟨by (simp only [Int32.lt_iff_toInt_lt, Int32.le_iff_toInt_le, ← Int32.toInt_inj, vp_in_iff, ti_0, ti_1, ti_2, ti_3, ti_5, ti_6, ti_7, ti_8, ti_16, ti_48, ti_53, ti_60, ti_97, ti_104, ti_127, ti_149, ti_150, ti_151, ti_256, ti_1200, ti_m1, ti_m2, ti_m3, ti_m4, ti_m9, tJ] at *; omega), rfl⟩⟩
    · refine j_iload_n (pc := 12) dX3_has_12 rfl ?_
      refine j_sipush (pc := 13) dX3_has_13 (v := 150) (by decide) ?_
      refine j_icmp_ge (pc := 16) (tgt := 23) dX3_has_16 rfl (fun h16 => ?_) (fun h16 => ?_)
      · refine j_iconst (pc := 23) dX3_has_23 (v := 0) (by decide) ?_
        refine j_zret (pc := 24) dX3_has_24 (Or.inl rfl) ?_
        exact ⟨rfl, Or.inr ⟨by (simp only [Int32.lt_iff_toInt_lt, Int32.le_iff_toInt_le, ← Int32.toInt_inj, vp_in_iff, ti_0, ti_1, ti_2, ti_3, ti_5, ti_6, ti_7, ti_8, ti_16, ti_48, ti_53, ti_60, ti_97, ti_104, ti_127, ti_149, ti_150, ti_151, ti_256, ti_1200, ti_m1, ti_m2, ti_m3, ti_m4, ti_m9, tJ] at *; omega), rfl⟩⟩
      · refine j_iconst (pc := 19) dX3_has_19 (v := 1) (by decide) ?_
        refine j_goto (pc := 20) (tgt := 24) dX3_has_20 rfl ?_
        refine j_zret (pc := 24) dX3_has_24 (Or.inr rfl) ?_
        exact ⟨rfl, Or.inl ⟨by (simp only [Int32.lt_iff_toInt_lt, Int32.le_iff_toInt_le, ← Int32.toInt_inj, vp_in_iff, ti_0, ti_1, ti_2, ti_3, ti_5, ti_6, ti_7, ti_8, ti_16, ti_48, ti_53, ti_60, ti_97, ti_104, ti_127, ti_149, ti_150, ti_151, ti_256, ti_1200, ti_m1, ti_m2, ti_m3, ti_m4, ti_m9, tJ] at *; omega), rfl⟩⟩
theorem c_X3_stateIn {b : Nat} (hb : IsN b) {n m : Nat} {σ : Mm} {J : Nat} (hJ : σ b 13 = nI J) (hJ2 : J ≤ 150) (hn : n < J) : EV Γ1 1 yX3_stateIn cX3_stateIn 3 (some .int) [.inr b, .inl (nI n), .inl (nI m)] σ (vz (stI (σ (b + 1) n) m) σ) := by
  have g0 := hb.1
  have g1 := hb.2.1
  refine EV.intro (by decide +kernel) (Nat.le_of_ble_eq_true rfl) ?_
  refine j_aload_n (pc := 0) dX3_stateIn_0 rfl ?_
  refine j_iload_n (pc := 1) dX3_stateIn_1 rfl ?_
  refine j_callVi (pc := 2) dX3_stateIn_2 k_X3_107 (c_X3_has hb _ hJ hJ2) (by first | rfl | with_reducible assumption) rfl rfl (by decide) rfl (Nat.le_of_ble_eq_true rfl) (fun r σ1 hp => ?_)
  obtain ⟨rfl, hp⟩ := hp
  rcases hp with ⟨q2, rfl⟩ | ⟨q2, rfl⟩
  · refine j_if_eq (pc := 5) (tgt := 24) dX3_stateIn_5 rfl (fun h => absurd h (by decide)) (fun _ => ?_)
    refine j_aload_n (pc := 8) dX3_stateIn_8 rfl ?_
    refine j_getR (pc := 9) dX3_stateIn_9 f_X3_9 (by first | rfl | with_reducible assumption) (by rfl) ?_
    refine j_iload_n (pc := 12) dX3_stateIn_12 rfl ?_
    refine j_iald (pc := 13) dX3_stateIn_13 (by first | rfl | with_reducible assumption) (vin_le q2 hJ2) ?_
    refine j_iload_n (pc := 14) dX3_stateIn_14 rfl ?_
    refine j_iconst (pc := 15) dX3_stateIn_15 (v := 3) (by decide) ?_
    refine j_imul (pc := 16) dX3_stateIn_16 ?_
    refine j_ishr (pc := 17) dX3_stateIn_17 ?_
    refine j_bipush (pc := 18) dX3_stateIn_18 (v := 7) (by decide) ?_
    refine j_iand (pc := 20) dX3_stateIn_20 ?_
    refine j_goto (pc := 21) (tgt := 26) dX3_stateIn_21 rfl ?_
    refine j_iret (pc := 26) dX3_stateIn_26 ?_
    refine ⟨rfl, ?_⟩
    rw [nI_clamp (by omega), show (3 : Int32) = nI 3 from rfl, pk_mul, Nat.mul_comm m 3]
    rfl
  · exact absurd (vp_in_nI hn (by omega)) q2
    skip
theorem c_X3_target {b : Nat} (hb : IsN b) (n e : Int32) {σ : Mm} {J : Nat} (hJ : σ b 13 = nI J) (hJ2 : J ≤ 150) : EV Γ1 1 yX3_target cX3_target 3 (some .int) [.inr b, .inl n, .inl e] σ (fun r σ' => σ = σ' ∧ ((∃ i j : Nat, i < J ∧ j < 8 ∧ n = nI i ∧ e = nI j ∧ r = σ (b + 5) (8 * i + j)) ∨ (¬ (vp_in n J ∧ vp_in e 8) ∧ r = -9))) := by
  have g0 := hb.1
  have g5 := hb.2.2.2.2.2.1
  refine EV.intro (by decide +kernel) (Nat.le_of_ble_eq_true rfl) ?_
  refine j_aload_n (pc := 0) dX3_target_0 rfl ?_
  refine j_iload_n (pc := 1) dX3_target_1 rfl ?_
  refine j_callVi (pc := 2) dX3_target_2 k_X3_107 (c_X3_has hb _ hJ hJ2) (by first | rfl | with_reducible assumption) rfl rfl (by decide) rfl (Nat.le_of_ble_eq_true rfl) (fun r σ1 hp => ?_)
  obtain ⟨rfl, hp⟩ := hp
  rcases hp with ⟨q2, rfl⟩ | ⟨q2, rfl⟩
  · refine j_if_eq (pc := 5) (tgt := 29) dX3_target_5 rfl (fun h => absurd h (by decide)) (fun _ => ?_)
    refine j_iload_n (pc := 8) dX3_target_8 rfl ?_
    refine j_callSNi (pc := 9) dX3_target_9 k_X3_139 (c_X7_isEvent _ _) rfl (by decide) rfl (Nat.le_of_ble_eq_true rfl) (fun r σ1 hp => ?_)
    obtain ⟨rfl, hp⟩ := hp
    rcases hp with ⟨q9, rfl⟩ | ⟨q9, rfl⟩
    · refine j_if_eq (pc := 12) (tgt := 29) dX3_target_12 rfl (fun h => absurd h (by decide)) (fun _ => ?_)
      obtain ⟨i, hi, rfl⟩ := vp_in_of q2 (by omega)
      obtain ⟨j, hj, rfl⟩ := vp_in_of q9 (by omega)
      have hx : nI i * 8 + nI j = nI (8 * i + j) := by rw [show (8 : Int32) = nI 8 from rfl, pk_mul, nI_add, Nat.mul_comm i 8]
      refine j_aload_n (pc := 15) dX3_target_15 rfl ?_
      refine j_getR (pc := 16) dX3_target_16 f_X3_25 (by first | rfl | with_reducible assumption) (by rfl) ?_
      refine j_iload_n (pc := 19) dX3_target_19 rfl ?_
      refine j_bipush (pc := 20) dX3_target_20 (v := 8) (by decide) ?_
      refine j_imul (pc := 22) dX3_target_22 ?_
      refine j_iload_n (pc := 23) dX3_target_23 rfl ?_
      refine j_iadd (pc := 24) dX3_target_24 ?_
      refine j_top hx ?_
      refine j_iald (pc := 25) dX3_target_25 (by first | rfl | with_reducible assumption) (vp_in_nI (by omega) (by decide)) ?_
      refine j_goto (pc := 26) (tgt := 31) dX3_target_26 rfl ?_
      refine j_iret (pc := 31) dX3_target_31 ?_
      first | exact ⟨rfl, Or.inr ⟨fun q => q2 q.1, rfl⟩⟩ | exact ⟨rfl, Or.inr ⟨fun q => q9 q.2, rfl⟩⟩ | exact ⟨rfl, Or.inl ⟨i, j, hi, hj, rfl, rfl, by rw [nI_clamp (by omega)]⟩⟩
    · refine j_if_eq (pc := 12) (tgt := 29) dX3_target_12 rfl (fun _ => ?_) (fun h => absurd h (by decide))
      refine j_bipush (pc := 29) dX3_target_29 (v := (-9)) (by decide) ?_
      refine j_iret (pc := 31) dX3_target_31 ?_
      first | exact ⟨rfl, Or.inr ⟨fun q => q2 q.1, rfl⟩⟩ | exact ⟨rfl, Or.inr ⟨fun q => q9 q.2, rfl⟩⟩ | exact ⟨rfl, Or.inl ⟨i, j, hi, hj, rfl, rfl, by rw [nI_clamp (by omega)]⟩⟩
  · refine j_if_eq (pc := 5) (tgt := 29) dX3_target_5 rfl (fun _ => ?_) (fun h => absurd h (by decide))
    refine j_bipush (pc := 29) dX3_target_29 (v := (-9)) (by decide) ?_
    refine j_iret (pc := 31) dX3_target_31 ?_
    first | exact ⟨rfl, Or.inr ⟨fun q => q2 q.1, rfl⟩⟩ | exact ⟨rfl, Or.inr ⟨fun q => q9 q.2, rfl⟩⟩ | exact ⟨rfl, Or.inl ⟨i, j, hi, hj, rfl, rfl, by rw [nI_clamp (by omega)]⟩⟩
theorem c_X3_isFinished {b : Nat} (hb : IsN b) (n : Int32) {σ : Mm} {J : Nat} (hJ : σ b 13 = nI J) (hJ2 : J ≤ 150) : EV Γ1 1 yX3_isFinished cX3_isFinished 2 (some .boolean) [.inr b, .inl n] σ (bz (vp_in n J ∧ ¬ σ (b + 4) n.toNatClampNeg = 0) σ) := by
  have g0 := hb.1
  have g4 := hb.2.2.2.2.1
  refine EV.intro (by decide +kernel) (Nat.le_of_ble_eq_true rfl) ?_
  refine j_aload_n (pc := 0) dX3_isFinished_0 rfl ?_
  refine j_iload_n (pc := 1) dX3_isFinished_1 rfl ?_
  refine j_callVi (pc := 2) dX3_isFinished_2 k_X3_107 (c_X3_has hb _ hJ hJ2) (by first | rfl | with_reducible assumption) rfl rfl (by decide) rfl (Nat.le_of_ble_eq_true rfl) (fun r σ1 hp => ?_)
  obtain ⟨rfl, hp⟩ := hp
  rcases hp with ⟨q2, rfl⟩ | ⟨q2, rfl⟩
  · refine j_if_eq (pc := 5) (tgt := 21) dX3_isFinished_5 rfl (fun h => absurd h (by decide)) (fun _ => ?_)
    refine j_aload_n (pc := 8) dX3_isFinished_8 rfl ?_
    refine j_getR (pc := 9) dX3_isFinished_9 f_X3_21 (by first | rfl | with_reducible assumption) (by rfl) ?_
    refine j_iload_n (pc := 12) dX3_isFinished_12 rfl ?_
    refine j_zald (pc := 13) dX3_isFinished_13 (by first | rfl | with_reducible assumption) (vin_le q2 hJ2) ?_
    refine j_if_eq (pc := 14) (tgt := 21) dX3_isFinished_14 rfl (fun h14 => ?_) (fun h14 => ?_)
    · refine j_iconst (pc := 21) dX3_isFinished_21 (v := 0) (by decide) ?_
      refine j_zret (pc := 22) dX3_isFinished_22 (Or.inl rfl) ?_
      first | exact ⟨rfl, Or.inl ⟨⟨q2, h14⟩, rfl⟩⟩ | exact ⟨rfl, Or.inr ⟨fun q => q.2 h14, rfl⟩⟩ | exact ⟨rfl, Or.inr ⟨fun q => q2 q.1, rfl⟩⟩
    · refine j_iconst (pc := 17) dX3_isFinished_17 (v := 1) (by decide) ?_
      refine j_goto (pc := 18) (tgt := 22) dX3_isFinished_18 rfl ?_
      refine j_zret (pc := 22) dX3_isFinished_22 (Or.inr rfl) ?_
      first | exact ⟨rfl, Or.inl ⟨⟨q2, h14⟩, rfl⟩⟩ | exact ⟨rfl, Or.inr ⟨fun q => q.2 h14, rfl⟩⟩ | exact ⟨rfl, Or.inr ⟨fun q => q2 q.1, rfl⟩⟩
  · refine j_if_eq (pc := 5) (tgt := 21) dX3_isFinished_5 rfl (fun _ => ?_) (fun h => absurd h (by decide))
    refine j_iconst (pc := 21) dX3_isFinished_21 (v := 0) (by decide) ?_
    refine j_zret (pc := 22) dX3_isFinished_22 (Or.inl rfl) ?_
    first | exact ⟨rfl, Or.inl ⟨⟨q2, h14⟩, rfl⟩⟩ | exact ⟨rfl, Or.inr ⟨fun q => q.2 h14, rfl⟩⟩ | exact ⟨rfl, Or.inr ⟨fun q => q2 q.1, rfl⟩⟩
theorem c_X3_leadSet {b : Nat} (hb : IsN b) (n : Int32) {σ : Mm} {J : Nat} (hJ : σ b 13 = nI J) (hJ2 : J ≤ 150) : EV Γ1 1 yX3_leadSet cX3_leadSet 2 (some .int) [.inr b, .inl n] σ (fun r σ' => σ = σ' ∧ ((∃ i : Nat, i < J ∧ n = nI i ∧ r = σ (b + 2) i) ∨ (¬ vp_in n J ∧ r = 0))) := by
  have g0 := hb.1
  have g2 := hb.2.2.1
  refine EV.intro (by decide +kernel) (Nat.le_of_ble_eq_true rfl) ?_
  refine j_aload_n (pc := 0) dX3_leadSet_0 rfl ?_
  refine j_iload_n (pc := 1) dX3_leadSet_1 rfl ?_
  refine j_callVi (pc := 2) dX3_leadSet_2 k_X3_107 (c_X3_has hb _ hJ hJ2) (by first | rfl | with_reducible assumption) rfl rfl (by decide) rfl (Nat.le_of_ble_eq_true rfl) (fun r σ1 hp => ?_)
  obtain ⟨rfl, hp⟩ := hp
  rcases hp with ⟨q2, rfl⟩ | ⟨q2, rfl⟩
  · refine j_if_eq (pc := 5) (tgt := 17) dX3_leadSet_5 rfl (fun h => absurd h (by decide)) (fun _ => ?_)
    refine j_aload_n (pc := 8) dX3_leadSet_8 rfl ?_
    refine j_getR (pc := 9) dX3_leadSet_9 f_X3_15 (by first | rfl | with_reducible assumption) (by rfl) ?_
    refine j_iload_n (pc := 12) dX3_leadSet_12 rfl ?_
    refine j_iald (pc := 13) dX3_leadSet_13 (by first | rfl | with_reducible assumption) (vin_le q2 hJ2) ?_
    refine j_goto (pc := 14) (tgt := 18) dX3_leadSet_14 rfl ?_
    refine j_iret (pc := 18) dX3_leadSet_18 ?_
    first | exact ⟨rfl, Or.inr ⟨q2, rfl⟩⟩ | (obtain ⟨i, hi, rfl⟩ := vp_in_of q2 (by omega); exact ⟨rfl, Or.inl ⟨i, hi, rfl, by rw [nI_clamp (by omega)]⟩⟩)
  · refine j_if_eq (pc := 5) (tgt := 17) dX3_leadSet_5 rfl (fun _ => ?_) (fun h => absurd h (by decide))
    refine j_iconst (pc := 17) dX3_leadSet_17 (v := 0) (by decide) ?_
    refine j_iret (pc := 18) dX3_leadSet_18 ?_
    first | exact ⟨rfl, Or.inr ⟨q2, rfl⟩⟩ | (obtain ⟨i, hi, rfl⟩ := vp_in_of q2 (by omega); exact ⟨rfl, Or.inl ⟨i, hi, rfl, by rw [nI_clamp (by omega)]⟩⟩)
theorem c_X3_clashSet {b : Nat} (hb : IsN b) (n f : Int32) {σ : Mm} {J : Nat} (hJ : σ b 13 = nI J) (hJ2 : J ≤ 150) : EV Γ1 1 yX3_clashSet cX3_clashSet 3 (some .int) [.inr b, .inl n, .inl f] σ (fun r σ' => σ = σ' ∧ ((∃ i : Nat, i < J ∧ n = nI i ∧ r = σ (b + 3) i &&& f) ∨ (¬ vp_in n J ∧ r = 0))) := by
  have g0 := hb.1
  have g3 := hb.2.2.2.1
  refine EV.intro (by decide +kernel) (Nat.le_of_ble_eq_true rfl) ?_
  refine j_aload_n (pc := 0) dX3_clashSet_0 rfl ?_
  refine j_iload_n (pc := 1) dX3_clashSet_1 rfl ?_
  refine j_callVi (pc := 2) dX3_clashSet_2 k_X3_107 (c_X3_has hb _ hJ hJ2) (by first | rfl | with_reducible assumption) rfl rfl (by decide) rfl (Nat.le_of_ble_eq_true rfl) (fun r σ1 hp => ?_)
  obtain ⟨rfl, hp⟩ := hp
  rcases hp with ⟨q2, rfl⟩ | ⟨q2, rfl⟩
  · refine j_if_eq (pc := 5) (tgt := 19) dX3_clashSet_5 rfl (fun h => absurd h (by decide)) (fun _ => ?_)
    refine j_aload_n (pc := 8) dX3_clashSet_8 rfl ?_
    refine j_getR (pc := 9) dX3_clashSet_9 f_X3_18 (by first | rfl | with_reducible assumption) (by rfl) ?_
    refine j_iload_n (pc := 12) dX3_clashSet_12 rfl ?_
    refine j_iald (pc := 13) dX3_clashSet_13 (by first | rfl | with_reducible assumption) (vin_le q2 hJ2) ?_
    refine j_iload_n (pc := 14) dX3_clashSet_14 rfl ?_
    refine j_iand (pc := 15) dX3_clashSet_15 ?_
    refine j_goto (pc := 16) (tgt := 20) dX3_clashSet_16 rfl ?_
    refine j_iret (pc := 20) dX3_clashSet_20 ?_
    first | exact ⟨rfl, Or.inr ⟨q2, rfl⟩⟩ | (obtain ⟨i, hi, rfl⟩ := vp_in_of q2 (by omega); exact ⟨rfl, Or.inl ⟨i, hi, rfl, by rw [nI_clamp (by omega)]⟩⟩)
  · refine j_if_eq (pc := 5) (tgt := 19) dX3_clashSet_5 rfl (fun _ => ?_) (fun h => absurd h (by decide))
    refine j_iconst (pc := 19) dX3_clashSet_19 (v := 0) (by decide) ?_
    refine j_iret (pc := 20) dX3_clashSet_20 ?_
    first | exact ⟨rfl, Or.inr ⟨q2, rfl⟩⟩ | (obtain ⟨i, hi, rfl⟩ := vp_in_of q2 (by omega); exact ⟨rfl, Or.inl ⟨i, hi, rfl, by rw [nI_clamp (by omega)]⟩⟩)
theorem c_X3_farOf {b : Nat} (hb : IsN b) (n : Int32) {σ : Mm} {J : Nat} (hJ : σ b 13 = nI J) (hJ2 : J ≤ 150) : EV Γ1 1 yX3_farOf cX3_farOf 2 (some .int) [.inr b, .inl n] σ (fun r σ' => σ = σ' ∧ ((∃ i : Nat, i < J ∧ n = nI i ∧ r = σ (b + 9) i) ∨ (¬ vp_in n J ∧ r = -9))) := by
  have g0 := hb.1
  have g9 := hb.2.2.2.2.2.2.2.2.2.1
  refine EV.intro (by decide +kernel) (Nat.le_of_ble_eq_true rfl) ?_
  refine j_aload_n (pc := 0) dX3_farOf_0 rfl ?_
  refine j_iload_n (pc := 1) dX3_farOf_1 rfl ?_
  refine j_callVi (pc := 2) dX3_farOf_2 k_X3_107 (c_X3_has hb _ hJ hJ2) (by first | rfl | with_reducible assumption) rfl rfl (by decide) rfl (Nat.le_of_ble_eq_true rfl) (fun r σ1 hp => ?_)
  obtain ⟨rfl, hp⟩ := hp
  rcases hp with ⟨q2, rfl⟩ | ⟨q2, rfl⟩
  · refine j_if_eq (pc := 5) (tgt := 17) dX3_farOf_5 rfl (fun h => absurd h (by decide)) (fun _ => ?_)
    refine j_aload_n (pc := 8) dX3_farOf_8 rfl ?_
    refine j_getR (pc := 9) dX3_farOf_9 f_X3_37 (by first | rfl | with_reducible assumption) (by rfl) ?_
    refine j_iload_n (pc := 12) dX3_farOf_12 rfl ?_
    refine j_iald (pc := 13) dX3_farOf_13 (by first | rfl | with_reducible assumption) (vin_le q2 hJ2) ?_
    refine j_goto (pc := 14) (tgt := 19) dX3_farOf_14 rfl ?_
    refine j_iret (pc := 19) dX3_farOf_19 ?_
    first | exact ⟨rfl, Or.inr ⟨q2, rfl⟩⟩ | (obtain ⟨i, hi, rfl⟩ := vp_in_of q2 (by omega); exact ⟨rfl, Or.inl ⟨i, hi, rfl, by rw [nI_clamp (by omega)]⟩⟩)
  · refine j_if_eq (pc := 5) (tgt := 17) dX3_farOf_5 rfl (fun _ => ?_) (fun h => absurd h (by decide))
    refine j_bipush (pc := 17) dX3_farOf_17 (v := (-9)) (by decide) ?_
    refine j_iret (pc := 19) dX3_farOf_19 ?_
    first | exact ⟨rfl, Or.inr ⟨q2, rfl⟩⟩ | (obtain ⟨i, hi, rfl⟩ := vp_in_of q2 (by omega); exact ⟨rfl, Or.inl ⟨i, hi, rfl, by rw [nI_clamp (by omega)]⟩⟩)
theorem c_X3_countStuck {b : Nat} (hb : IsN b) (σ : Mm) : EV Γ1 0 yX3_countStuck cX3_countStuck 1 (some .int) [.inr b] σ (vz (σ b 13 - σ b 10) σ) := by
  have g0 := hb.1
  refine EV.intro (by decide +kernel) (Nat.le_of_ble_eq_true rfl) ?_
  refine j_aload_n (pc := 0) dX3_countStuck_0 rfl ?_
  refine j_getI (pc := 1) dX3_countStuck_1 f_X3_53 (by first | rfl | with_reducible assumption) (by rfl) ?_
  refine j_aload_n (pc := 4) dX3_countStuck_4 rfl ?_
  refine j_getI (pc := 5) dX3_countStuck_5 f_X3_43 (by first | rfl | with_reducible assumption) (by rfl) ?_
  refine j_isub (pc := 8) dX3_countStuck_8 ?_
  refine j_iret (pc := 9) dX3_countStuck_9 ?_
  exact ⟨rfl, rfl⟩
/-- enqueue: there is room -/
theorem c_X3_enqueue {b : Nat} (hb : IsN b) {n q : Nat} (dist : Int32) {σ : Mm} (hq : σ b 10 = nI q) (hq2 : q < 150) (hn : n < 150) : EV Γ1 0 yX3_enqueue cX3_enqueue 3 none [.inr b, .inl (nI n), .inl dist] σ (mz (m_up (m_up (m_up σ (b + 9) n dist) (b + 10) q (nI n)) b 10 (nI (q + 1)))) := by
  have g0 := hb.1
  have g9 := hb.2.2.2.2.2.2.2.2.2.1
  have g10 := hb.2.2.2.2.2.2.2.2.2.2
  refine EV.intro (by decide +kernel) (Nat.le_of_ble_eq_true rfl) ?_
  refine j_aload_n (pc := 0) dX3_enqueue_0 rfl ?_
  refine j_getI (pc := 1) dX3_enqueue_1 f_X3_43 (by first | rfl | with_reducible assumption) (by rfl) ?_
  refine j_sipush (pc := 4) dX3_enqueue_4 (v := 150) (by decide) ?_
  refine j_icmp_ge (pc := 7) (tgt := 37) dX3_enqueue_7 rfl (fun h7 => absurd (hq ▸ h7) (nI_ge (b := 150) hq2 (by decide))) (fun h7 => ?_)
  refine j_aload_n (pc := 10) dX3_enqueue_10 rfl ?_
  refine j_getR (pc := 11) dX3_enqueue_11 f_X3_37 (by first | rfl | with_reducible assumption) (by rfl) ?_
  refine j_iload_n (pc := 14) dX3_enqueue_14 rfl ?_
  refine j_iload_n (pc := 15) dX3_enqueue_15 rfl ?_
  refine j_iast (pc := 16) dX3_enqueue_16 (by first | rfl | with_reducible assumption) (vp_in_nI hn (by decide)) ?_
  refine j_aload_n (pc := 17) dX3_enqueue_17 rfl ?_
  refine j_getR (pc := 18) dX3_enqueue_18 f_X3_40 (by first | rfl | with_reducible assumption) (by rfl) ?_
  refine j_aload_n (pc := 21) dX3_enqueue_21 rfl ?_
  refine j_getI (pc := 22) dX3_enqueue_22 f_X3_43 (by first | rfl | with_reducible assumption) (by rfl) ?_
  refine j_iload_n (pc := 25) dX3_enqueue_25 rfl ?_
  refine j_iast (pc := 26) dX3_enqueue_26 (by first | rfl | with_reducible assumption) (by rw [m_ne (by omega), hq]; exact vp_in_nI hq2 (by decide)) ?_
  refine j_aload_n (pc := 27) dX3_enqueue_27 rfl ?_
  refine j_dup (pc := 28) dX3_enqueue_28 ?_
  refine j_getI (pc := 29) dX3_enqueue_29 f_X3_43 (by first | rfl | with_reducible assumption) (by rfl) ?_
  refine j_iconst (pc := 32) dX3_enqueue_32 (v := 1) (by decide) ?_
  refine j_iadd (pc := 33) dX3_enqueue_33 ?_
  refine j_put (pc := 34) dX3_enqueue_34 f_X3_43 (by first | rfl | with_reducible assumption) (by rfl) ?_
  refine j_vret (pc := 37) dX3_enqueue_37 ?_
  simp only [nI_clamp (show n < 2 ^ 31 by omega), m_ne (show b ≠ b + 9 by omega), m_ne (show b ≠ b + 10 by omega), hq, nI_clamp (show q < 2 ^ 31 by omega), nI_1]
  rfl
/-- add: room, or none -/
theorem c_X3_add {b : Nat} (hb : IsN b) (code : Int32) {σ : Mm} {J : Nat} (hJ : σ b 13 = nI J) (hJ2 : J ≤ 150) : EV Γ1 1 yX3_add cX3_add 2 (some .int) [.inr b, .inl code] σ (fun r σ' => (J < 150 ∧ r = nI J ∧ σ' = m_up (m_up (m_up σ (b + 1) J code) (b + 6) J (-9)) b 13 (nI (J + 1))) ∨ (J = 150 ∧ r = -9 ∧ σ' = σ)) := by
  have g0 := hb.1
  have g1 := hb.2.1
  have g6 := hb.2.2.2.2.2.2.1
  refine EV.intro (by decide +kernel) (Nat.le_of_ble_eq_true rfl) ?_
  refine j_aload_n (pc := 0) dX3_add_0 rfl ?_
  refine j_getI (pc := 1) dX3_add_1 f_X3_53 (by first | rfl | with_reducible assumption) (by rfl) ?_
  refine j_top hJ ?_
  refine j_callSNi (pc := 4) dX3_add_4 k_X3_118 (c_X7_isJoint _ _) rfl (by decide) rfl (Nat.le_of_ble_eq_true rfl) (fun r σ1 hp => ?_)
  obtain ⟨rfl, hp⟩ := hp
  rcases hp with ⟨q4, rfl⟩ | ⟨q4, rfl⟩
  · have h150 : J < 150 := by
      rw [vp_in_iff, nI_toInt (by omega)] at q4
      omega
    refine j_if_ne (pc := 7) (tgt := 13) dX3_add_7 rfl (fun _ => ?_) (fun h => absurd h (by decide))
    refine j_aload_n (pc := 13) dX3_add_13 rfl ?_
    refine j_getR (pc := 14) dX3_add_14 f_X3_9 (by first | rfl | with_reducible assumption) (by rfl) ?_
    refine j_aload_n (pc := 17) dX3_add_17 rfl ?_
    refine j_getI (pc := 18) dX3_add_18 f_X3_53 (by first | rfl | with_reducible assumption) (by rfl) ?_
    refine j_iload_n (pc := 21) dX3_add_21 rfl ?_
    refine j_iast (pc := 22) dX3_add_22 (by first | rfl | with_reducible assumption) (by rw [hJ]; exact vp_in_nI h150 (by decide)) ?_
    refine j_aload_n (pc := 23) dX3_add_23 rfl ?_
    refine j_getR (pc := 24) dX3_add_24 f_X3_28 (by first | rfl | with_reducible assumption) (by rfl) ?_
    refine j_aload_n (pc := 27) dX3_add_27 rfl ?_
    refine j_getI (pc := 28) dX3_add_28 f_X3_53 (by first | rfl | with_reducible assumption) (by rfl) ?_
    refine j_bipush (pc := 31) dX3_add_31 (v := (-9)) (by decide) ?_
    refine j_iast (pc := 33) dX3_add_33 (by first | rfl | with_reducible assumption) (by rw [m_ne (by omega), hJ]; exact vp_in_nI h150 (by decide)) ?_
    refine j_aload_n (pc := 34) dX3_add_34 rfl ?_
    refine j_dup (pc := 35) dX3_add_35 ?_
    refine j_getI (pc := 36) dX3_add_36 f_X3_53 (by first | rfl | with_reducible assumption) (by rfl) ?_
    refine j_iconst (pc := 39) dX3_add_39 (v := 1) (by decide) ?_
    refine j_iadd (pc := 40) dX3_add_40 ?_
    refine j_put (pc := 41) dX3_add_41 f_X3_53 (by first | rfl | with_reducible assumption) (by rfl) ?_
    refine j_aload_n (pc := 44) dX3_add_44 rfl ?_
    refine j_getI (pc := 45) dX3_add_45 f_X3_53 (by first | rfl | with_reducible assumption) (by rfl) ?_
    refine j_iconst (pc := 48) dX3_add_48 (v := 1) (by decide) ?_
    refine j_isub (pc := 49) dX3_add_49 ?_
    refine j_iret (pc := 50) dX3_add_50 ?_
    refine Or.inl ⟨h150, ?_, ?_⟩
    · simp only [m_eq, m_ne (show b ≠ b + 1 by omega), m_ne (show b ≠ b + 6 by omega), hJ, nI_1]
      exact nI_pred J
    · simp only [m_ne (show b ≠ b + 1 by omega), m_ne (show b ≠ b + 6 by omega), hJ, nI_1, nI_clamp (show J < 2 ^ 31 by omega)]
  · have h150 : J = 150 := by
      have : ¬ J < 150 := fun q => q4 (vp_in_nI q (by decide))
      omega
    refine j_if_ne (pc := 7) (tgt := 13) dX3_add_7 rfl (fun h => absurd h (by decide)) (fun _ => ?_)
    refine j_bipush (pc := 10) dX3_add_10 (v := (-9)) (by decide) ?_
    refine j_iret (pc := 12) dX3_add_12 ?_
    exact Or.inr ⟨h150, rfl, rfl⟩
end
section
/-! NET.meet: the table of slots -/
theorem pigeon : ∀ (n : Nat) (f : Nat → Nat), (∀ i, i ≤ n → f i < n) → ∃ i j, i < j ∧ j ≤ n ∧ f i = f j := by
  intro n
  induction n with
  | zero => intro f h; exact absurd (h 0 (Nat.le_refl _)) (Nat.not_lt_zero _)
  | succ n ih =>
    intro f h
    by_cases hx : ∃ i, i ≤ n ∧ f i = f (n + 1)
    · obtain ⟨i, h1, h2⟩ := hx
      exact ⟨i, n + 1, by omega, Nat.le_refl _, h2⟩
    · have hne : ∀ i, i ≤ n → f i ≠ f (n + 1) := fun i hi q => hx ⟨i, hi, q⟩
      obtain ⟨i, j, h1, h2, h3⟩ := ih (fun i => if f i = n then f (n + 1) else f i) (fun i hi => by
        have a1 := h i (by omega)
        have a2 := h (n + 1) (Nat.le_refl _)
        have a3 := hne i hi
        by_cases hq : f i = n
        · simp only [if_pos hq]; omega
        · simp only [if_neg hq]; omega)
      refine ⟨i, j, h1, by omega, ?_⟩
      have a1 := hne i (by omega)
      have a2 := hne j h2
      by_cases hi : f i = n
      · by_cases hj : f j = n
        · omega
        · rw [if_pos hi, if_neg hj] at h3; exact absurd h3.symm a2
      · by_cases hj : f j = n
        · rw [if_neg hi, if_pos hj] at h3; exact absurd h3 a1
        · rw [if_neg hi, if_neg hj] at h3; exact h3
def hI (code : Int32) : Int32 := ((code * (-1640531535)).toUInt32 >>> ((24 : Int32).toUInt32 &&& Int32.toUInt32 31)).toInt32
def hN (code : Int32) : Nat := (hI code).toNatClampNeg
theorem h_lt (code : Int32) : hI code = nI (hN code) ∧ hN code < 256 := by
  have h := pk_ushr (code * (-1640531535)) 24 24 (by decide)
  have h2 : (hI code).toBitVec.toNat = (code * (-1640531535)).toBitVec.toNat / 2 ^ 24 := h
  have h3 : (hI code).toBitVec.toNat < 256 := by
    rw [h2]
    have := (code * (-1640531535)).toBitVec.isLt
    omega
  have h4 : hI code = nI (hI code).toBitVec.toNat := by
    apply Int32.toBitVec_inj.mp
    show _ = BitVec.ofNat 32 _
    simp
  unfold hN
  generalize (hI code).toBitVec.toNat = k at h3 h4
  rw [h4, nI_clamp (by omega)]
  exact ⟨rfl, h3⟩
def HT (C S : Nat → Int32) (J : Nat) : Prop :=
  (∀ i, i < 256 → S i = -9 ∨ ∃ j, j < J ∧ S i = nI j) ∧
  (∀ j, j < J → ∃ k, k < 256 ∧ S ((hN (C j) + k) % 256) = nI j ∧ ∀ k', k' < k → S ((hN (C j) + k') % 256) ≠ -9) ∧
  (∀ i i' j, i < 256 → i' < 256 → j < J → S i = nI j → S i' = nI j → i = i')
theorem HT.empty (C : Nat → Int32) {S : Nat → Int32} (h : ∀ i, i < 256 → S i = -9) : HT C S 0 := ⟨fun i hi => Or.inl (h i hi), fun j hj => absurd hj (Nat.not_lt_zero _), fun _ _ j _ _ hj => absurd hj (Nat.not_lt_zero _)⟩
theorem HT.free {C S : Nat → Int32} {J : Nat} (h : HT C S J) (hJ : J ≤ 150) : ∃ i, i < 256 ∧ S i = -9 := by
  apply Classical.byContradiction
  intro hn
  have h1 : ∀ i, i < 256 → ∃ j, j < J ∧ S i = nI j := fun i hi => (h.1 i hi).elim (fun q => absurd ⟨i, hi, q⟩ hn) id
  have h2 : ∀ i, i < 256 → (S i).toNatClampNeg < J ∧ S i = nI (S i).toNatClampNeg := fun i hi => by
    obtain ⟨j, a, b⟩ := h1 i hi
    rw [b, nI_clamp (by omega)]
    exact ⟨a, rfl⟩
  obtain ⟨i, j, a1, a2, a3⟩ := pigeon 255 (fun i => (S i).toNatClampNeg) (fun i hi => by have := (h2 i (by omega)).1; omega)
  have := h.2.2 i j _ (by omega) (by omega) (h2 i (by omega)).1 (h2 i (by omega)).2 (by rw [a3]; exact (h2 j (by omega)).2)
  omega
theorem HT.add {C S : Nat → Int32} {J : Nat} {code : Int32} {k : Nat} (h : HT C S J) (hJ : J ≤ 150) (hk : k < 256) (h0 : S ((hN code + k) % 256) = -9) (hb : ∀ k', k' < k → S ((hN code + k') % 256) ≠ -9) : HT (upd C J code) (upd S ((hN code + k) % 256) (nI J)) (J + 1) := by
  have hz : nI J ≠ -9 := nI_z (by omega)
  refine ⟨fun i hi => ?_, fun j hj => ?_, fun i i' j hi hi' hj e1 e2 => ?_⟩
  · by_cases q : i = (hN code + k) % 256
    · right; exact ⟨J, by omega, by rw [q]; exact pk_us⟩
    · rw [pk_un q]
      rcases h.1 i hi with a | ⟨j, a, b⟩
      · exact Or.inl a
      · exact Or.inr ⟨j, by omega, b⟩
  · have keep : ∀ p, S p ≠ -9 → upd S ((hN code + k) % 256) (nI J) p ≠ -9 := fun p hp => by
      by_cases q : p = (hN code + k) % 256
      · rw [q, pk_us]; exact hz
      · rw [pk_un q]; exact hp
    by_cases q : j = J
    · subst q
      rw [pk_us]
      exact ⟨k, hk, pk_us, fun k' hk' => keep _ (hb k' hk')⟩
    · rw [pk_un q]
      obtain ⟨k1, a, b, c⟩ := h.2.1 j (by omega)
      refine ⟨k1, a, ?_, fun k' hk' => keep _ (c k' hk')⟩
      have : (hN (C j) + k1) % 256 ≠ (hN code + k) % 256 := fun e => by
        rw [e, h0] at b
        exact nI_z (by omega) b.symm
      rw [pk_un this]
      exact b
  · by_cases q : i = (hN code + k) % 256
    · by_cases q' : i' = (hN code + k) % 256
      · omega
      · rw [q, pk_us] at e1
        have hj' : J = j := (nI_eq (by omega) (by omega)).mp e1
        subst hj'
        rw [pk_un q'] at e2
        rcases h.1 i' hi' with a | ⟨j1, a, b⟩
        · rw [a] at e2; exact absurd e2.symm hz
        · rw [b] at e2
          have := (nI_eq (by omega) (by omega)).mp e2
          omega
    · rw [pk_un q] at e1
      rcases h.1 i hi with a | ⟨j1, a, b⟩
      · rw [a] at e1; exact absurd e1.symm (nI_z (by omega))
      · have hjj : j1 = j := (nI_eq (by omega) (by omega)).mp (b.symm.trans e1)
        subst hjj
        by_cases q' : i' = (hN code + k) % 256
        · rw [q', pk_us] at e2
          have := (nI_eq (by omega) (by omega)).mp e2
          omega
        · rw [pk_un q'] at e2
          exact h.2.2 i i' j1 hi hi' a e1 e2
/-- meet: the JOINT with this code; a new one; none: it would be one too many -/
def meetP (σ : Mm) (b J : Nat) (code : Int32) : Int32 → Mm → Prop := fun r σ' =>
  (∃ j, j < J ∧ σ (b + 1) j = code ∧ r = nI j ∧ σ' = σ) ∨
  ((∀ j, j < J → σ (b + 1) j ≠ code) ∧ J < 150 ∧ r = nI J ∧ ∃ i, i < 256 ∧ HT (upd (σ (b + 1)) J code) (upd (σ (b + 8)) i (nI J)) (J + 1) ∧ σ' = m_up (m_up (m_up (m_up σ (b + 1) J code) (b + 6) J (-9)) b 13 (nI (J + 1))) (b + 8) i (nI J)) ∨
  ((∀ j, j < J → σ (b + 1) j ≠ code) ∧ J = 150 ∧ r = -9 ∧ σ' = σ)
theorem c_X3_meet {b : Nat} (hb : IsN b) (code : Int32) {σ : Mm} {J : Nat} (hJ : σ b 13 = nI J) (hJ2 : J ≤ 150) (hT : HT (σ (b + 1)) (σ (b + 8)) J) : EV Γ1 2 yX3_meet cX3_meet 5 (some .int) [.inr b, .inl code] σ (meetP σ b J code) := by
  have g0 := hb.1
  have g1 := hb.2.1
  have g8 := hb.2.2.2.2.2.2.2.2.1
  obtain ⟨hh, hl⟩ := h_lt code
  have loop : ∀ (n k : Nat), k + n = 256 → (∀ k', k' < k → ∃ j, j < J ∧ σ (b + 8) ((hN code + k') % 256) = nI j ∧ σ (b + 1) j ≠ code) → ∀ y : Option Vl,
      AJ Γ1 2 RX3 cX3_meet 5 (some .int) (meetP σ b J code) 10 [some (.inr b), some (.inl code), some (.inl (nI ((hN code + k) % 256))), some (.inl (nI k)), y] [] σ := by
    intro n
    induction n with
    | zero =>
      intro k hk hi y
      exfalso
      obtain ⟨i, h1, h2⟩ := hT.free hJ2
      obtain ⟨j, a1, a2, -⟩ := hi ((i + 256 - hN code) % 256) (by omega)
      have e : (hN code + (i + 256 - hN code) % 256) % 256 = i := by omega
      rw [e, h2] at a2
      exact nI_z (by omega) a2.symm
    | succ n ih =>
      intro k hk hi y
      have hp : (hN code + k) % 256 < 256 := Nat.mod_lt _ (by decide)
      have hpc : (nI ((hN code + k) % 256)).toNatClampNeg = (hN code + k) % 256 := nI_clamp (by omega)
      have hvi : vp_in (nI ((hN code + k) % 256)) 256 := vp_in_nI hp (by decide)
      have occ : ∀ k', k' < k → σ (b + 8) ((hN code + k') % 256) ≠ -9 := fun k' h => by
        obtain ⟨j, a1, a2, -⟩ := hi k' h
        rw [a2]
        exact nI_z (by omega)
      refine j_iload_n (pc := 10) dX3_meet_10 rfl ?_
      refine j_sipush (pc := 11) dX3_meet_11 (v := 256) (by decide) ?_
      refine j_icmp_ge (pc := 14) (tgt := 86) dX3_meet_14 rfl (fun h14 => absurd h14 (nI_ge (b := 256) (by omega) (by decide))) (fun h14 => ?_)
      refine j_aload_n (pc := 17) dX3_meet_17 rfl ?_
      refine j_getR (pc := 18) dX3_meet_18 f_X3_34 (by first | rfl | with_reducible assumption) (by rfl) ?_
      refine j_iload_n (pc := 21) dX3_meet_21 rfl ?_
      refine j_iald (pc := 22) dX3_meet_22 (by first | rfl | with_reducible assumption) hvi ?_
      refine j_istore (pc := 23) dX3_meet_23 (by decide) ?_
      rw [hpc]
      refine j_iload (pc := 25) dX3_meet_25 rfl ?_
      refine j_bipush (pc := 27) dX3_meet_27 (v := (-9)) (by decide) ?_
      refine j_icmp_ne (pc := 29) (tgt := 50) dX3_meet_29 rfl (fun h29 => ?_) (fun h29 => ?_)
      · have hj : ∃ j, j < J ∧ σ (b + 8) ((hN code + k) % 256) = nI j := (hT.1 _ hp).elim (fun q => absurd q h29) id
        obtain ⟨j, hj, hsj⟩ := hj
        refine j_iload (pc := 50) dX3_meet_50 rfl ?_
        refine j_top hsj ?_
        refine j_callSNi (pc := 52) dX3_meet_52 k_X3_118 (c_X7_isJoint _ _) rfl (by decide) rfl (Nat.le_of_ble_eq_true rfl) (fun r σ1 hp => ?_)
        obtain ⟨rfl, hp⟩ := hp
        rcases hp with ⟨q52, rfl⟩ | ⟨q52, rfl⟩
        · refine j_if_eq (pc := 55) (tgt := 72) dX3_meet_55 rfl (fun h => absurd h (by decide)) (fun _ => ?_)
          refine j_aload_n (pc := 58) dX3_meet_58 rfl ?_
          refine j_getR (pc := 59) dX3_meet_59 f_X3_9 (by first | rfl | with_reducible assumption) (by rfl) ?_
          refine j_iload (pc := 62) dX3_meet_62 rfl ?_
          refine j_top hsj ?_
          refine j_iald (pc := 64) dX3_meet_64 (by first | rfl | with_reducible assumption) q52 ?_
          rw [nI_clamp (by omega)]
          refine j_iload_n (pc := 65) dX3_meet_65 rfl ?_
          refine j_icmp_ne (pc := 66) (tgt := 72) dX3_meet_66 rfl (fun h66 => ?_) (fun h66 => ?_)
          · refine j_iload_n (pc := 72) dX3_meet_72 rfl ?_
            refine j_iconst (pc := 73) dX3_meet_73 (v := 1) (by decide) ?_
            refine j_iadd (pc := 74) dX3_meet_74 ?_
            refine j_sipush (pc := 75) dX3_meet_75 (v := 256) (by decide) ?_
            refine j_irem (pc := 78) dX3_meet_78 (by decide) ?_
            refine j_top (y := nI ((hN code + (k + 1)) % 256)) ?_ ?_
            · rw [nI_1, show (256 : Int32) = nI 256 from rfl, pk_rem (by omega) (by decide) (by decide)]
              congr 1
              omega
            refine j_istore_n (pc := 79) dX3_meet_79 (by decide) ?_
            refine j_iinc1 (pc := 80) dX3_meet_80 rfl ?_
            refine j_goto (pc := 83) (tgt := 10) dX3_meet_83 rfl ?_
            rw [nI_1]
            refine ih (k + 1) (by omega) (fun k' hk' => ?_) _
            by_cases q : k' = k
            · subst q; exact ⟨j, hj, hsj, h66⟩
            · exact hi k' (by omega)
          · refine j_iload (pc := 69) dX3_meet_69 rfl ?_
            refine j_iret (pc := 71) dX3_meet_71 ?_
            left
            exact ⟨j, hj, h66, hsj, rfl⟩
        · exact absurd (vp_in_nI (by omega) (by decide)) q52
          skip
      · have hnew : ∀ j, j < J → σ (b + 1) j ≠ code := by
          intro j hj q
          obtain ⟨k1, c1, c2, c3⟩ := hT.2.1 j hj
          rw [q] at c2 c3
          rcases Nat.lt_trichotomy k1 k with h | h | h
          · obtain ⟨j1, d1, d2, d3⟩ := hi k1 h
            have : j = j1 := (nI_eq (by omega) (by omega)).mp (c2.symm.trans d2)
            subst this
            exact d3 q
          · subst h
            rw [h29] at c2
            exact nI_z (by omega) c2.symm
          · exact c3 k h h29
        refine j_aload_n (pc := 32) dX3_meet_32 rfl ?_
        refine j_getR (pc := 33) dX3_meet_33 f_X3_34 (by first | rfl | with_reducible assumption) (by rfl) ?_
        refine j_iload_n (pc := 36) dX3_meet_36 rfl ?_
        refine j_aload_n (pc := 37) dX3_meet_37 rfl ?_
        refine j_iload_n (pc := 38) dX3_meet_38 rfl ?_
        refine j_callVi (pc := 39) dX3_meet_39 k_X3_115 (c_X3_add hb code hJ hJ2) (by first | rfl | with_reducible assumption) rfl rfl (by decide) rfl (Nat.le_of_ble_eq_true rfl) (fun r σ1 hp => ?_)
        skip
        refine j_iast (pc := 42) dX3_meet_42 (by first | rfl | with_reducible assumption) hvi ?_
        refine j_aload_n (pc := 43) dX3_meet_43 rfl ?_
        refine j_getR (pc := 44) dX3_meet_44 f_X3_34 (by first | rfl | with_reducible assumption) (by rfl) ?_
        refine j_iload_n (pc := 47) dX3_meet_47 rfl ?_
        refine j_iald (pc := 48) dX3_meet_48 (by first | rfl | with_reducible assumption) hvi ?_
        refine j_iret (pc := 49) dX3_meet_49 ?_
        rw [hpc]
        rcases hp with ⟨c1, rfl, rfl⟩ | ⟨c1, rfl, rfl⟩
        · right; left
          refine ⟨hnew, c1, by rw [m_eq], _, Nat.mod_lt _ (by decide), hT.add hJ2 (by omega) h29 occ, rfl⟩
        · right; right
          refine ⟨hnew, c1, by rw [m_eq], ?_⟩
          funext x j
          rw [m_at]
          by_cases q : x = b + 8 ∧ j = (hN code + k) % 256
          · rw [if_pos q, q.1, q.2, h29]
          · rw [if_neg q]
  refine EV.intro (by decide +kernel) (Nat.le_of_ble_eq_true rfl) ?_
  refine j_iload_n (pc := 0) dX3_meet_0 rfl ?_
  refine j_ldc (pc := 1) dX3_meet_1 kc_X3_114 ?_
  refine j_imul (pc := 3) dX3_meet_3 ?_
  refine j_bipush (pc := 4) dX3_meet_4 (v := 24) (by decide) ?_
  refine j_iushr (pc := 6) dX3_meet_6 rfl ?_
  refine j_top (y := nI ((hN code + 0) % 256)) ?_ ?_
  · rw [Nat.add_zero, Nat.mod_eq_of_lt hl]; exact hh
  refine j_istore_n (pc := 7) dX3_meet_7 (by decide) ?_
  refine j_iconst (pc := 8) dX3_meet_8 (v := 0) (by decide) ?_
  refine j_istore_n (pc := 9) dX3_meet_9 (by decide) ?_
  exact loop 256 0 rfl (fun k' h => absurd h (Nat.not_lt_zero _)) none
end
section
/-! NET: what it gathers of the MACHINES -/
def T1 (σ : Mm) : Tab := (fun m => if m < 6 then σ (5 + 3 * m) 2 else 0, fun m => if m < 6 then σ (5 + 3 * m) 3 else 0, fun m => if m < 6 then σ (5 + 3 * m) 4 else 0, fun m x => if m < 6 then σ (5 + 3 * m + 1) x else 0)
theorem t1k {σ : Mm} {m : Nat} (h : m < 6) : (T1 σ).1 m = σ (5 + 3 * m) 2 := if_pos h
theorem t1a {σ : Mm} {m : Nat} (h : m < 6) : (T1 σ).2.1 m = σ (5 + 3 * m) 3 := if_pos h
theorem t1m {σ : Mm} {m : Nat} (h : m < 6) : (T1 σ).2.2.1 m = σ (5 + 3 * m) 4 := if_pos h
theorem t1s {σ : Mm} {m x : Nat} (h : m < 6) : (T1 σ).2.2.2 m x = σ (5 + 3 * m + 1) x := if_pos h
theorem T1_same {σ σ' : Mm} (he : ∀ x, x ≤ 22 → σ' x = σ x) : T1 σ' = T1 σ := by
  refine Prod.ext (funext fun m => ?_) (Prod.ext (funext fun m => ?_) (Prod.ext (funext fun m => ?_) (funext fun m => funext fun x => ?_)))
  all_goals
    by_cases h : m < 6
    · first | rw [t1k h, t1k h, he _ (by omega)] | rw [t1a h, t1a h, he _ (by omega)] | rw [t1m h, t1m h, he _ (by omega)] | rw [t1s h, t1s h, he _ (by omega)]
    · simp [T1, h]
/-- the set of MACHINES: six bits; of each the table is as told, and its stepSets fit -/
def MS (σ : Mm) (set : Int32) : Prop := (∀ i, 6 ≤ i → bt set i = false) ∧ ∀ m, m < 6 → bt set m = true → okT (T1 σ) m ∧ ∀ s, s < 6 → ∀ e, e < 32 → bt (σ (5 + 3 * m + 2) s) e = decide (e < 8 ∧ σ (5 + 3 * m + 1) (8 * s + e) ≠ -9)
theorem MS.same {σ σ' : Mm} {set : Int32} (h : MS σ set) (he : ∀ x, x ≤ 22 → σ' x = σ x) : MS σ' set := by
  refine ⟨h.1, fun m hm hs => ?_⟩
  obtain ⟨h1, h2⟩ := h.2 m hm hs
  have e1 := he (5 + 3 * m + 1) (by omega)
  have e2 := he (5 + 3 * m + 2) (by omega)
  rw [T1_same he, e1, e2]
  exact ⟨h1, h2⟩
def orF (f : Nat → Int32) (p : Nat → Bool) : Nat → Int32
  | 0 => 0
  | m + 1 => if p m = true then orF f p m ||| f m else orF f p m
theorem or_bit (f : Nat → Int32) (p : Nat → Bool) (i : Nat) : ∀ M, bt (orF f p M) i = (List.range M).any (fun m => p m && bt (f m) i) := by
  intro M
  induction M with
  | zero => exact b_0 i
  | succ M ih =>
    rw [List.range_succ, List.any_append]
    simp only [orF, List.any_cons, List.any_nil, Bool.or_false]
    by_cases h : p M = true
    · rw [if_pos h, b_or, ih, h, Bool.true_and]
    · have h' : p M = false := by simpa using h
      rw [if_neg h, ih, h', Bool.false_and, Bool.or_false]
theorem or_stop (f : Nat → Int32) (p : Nat → Bool) {m M : Nat} (h : m ≤ M) (hp : ∀ k, m ≤ k → k < M → p k = false) : orF f p M = orF f p m := by
  induction h with
  | refl => rfl
  | @step M hM ih =>
    have hle : m ≤ M := hM
    have h1 := hp M hle (Nat.lt_succ_self _)
    simp only [orF, h1, Bool.false_eq_true, if_false]
    exact ih (fun k a b => hp k a (by omega))
theorem set_stop {x : Int32} {m : Nat} (hm : m < 32) (h : x >>> (nI m &&& 31) = 0) : ∀ k, m ≤ k → k < 32 → bt x k = false := by
  intro k h1 h2
  have h3 := congrArg (fun z => bt z (k - m)) h
  simp only [b_sshr m hm x (i := k - m) (by omega), b_0] at h3
  rw [if_pos (by omega), show m + (k - m) = k by omega] at h3
  exact h3
def gm (σ : Mm) (b : Nat) (x y : Int32) : Mm := m_up (m_up σ b 11 x) b 12 y
theorem gm_1 (σ : Mm) (b : Nat) (x y z : Int32) : m_up (gm σ b x y) b 11 z = gm σ b z y := by
  funext a k
  simp only [gm, m_at]
  by_cases h1 : a = b <;> by_cases h2 : k = 11 <;> by_cases h3 : k = 12 <;> simp [h1, h2, h3]
theorem gm_2 (σ : Mm) (b : Nat) (x y z : Int32) : m_up (gm σ b x y) b 12 z = gm σ b x z := by
  funext a k
  simp only [gm, m_at]
  by_cases h1 : a = b <;> by_cases h3 : k = 12 <;> simp [h1, h3]
theorem gm_ne {σ : Mm} {b a : Nat} {x y : Int32} (h : a ≠ b) : gm σ b x y a = σ a := by
  unfold gm
  rw [m_ne h, m_ne h]
theorem gm_11 (σ : Mm) (b : Nat) (x y : Int32) : gm σ b x y b 11 = x := by
  unfold gm
  rw [m_nk (by decide), m_eq]
theorem gm_12 (σ : Mm) (b : Nat) (x y : Int32) : gm σ b x y b 12 = y := m_eq _ _ _ _
theorem c_X3_gather {b : Nat} (hb : IsN b) (hb2 : 22 < b) (set : Int32) (hs : ∀ i, 6 ≤ i → bt set i = false) (σ : Mm) : EV Γ1 1 yX3_gatherAlphabets cX3_gatherAlphabets 4 none [.inr b, .inr 4, .inl set] σ (mz (gm σ b (orF (T1 σ).2.1 (fun m => bt set m) 6) (orF (T1 σ).2.1 (fun m => bt set m && isPl (T1 σ) m) 6))) := by
  have g0 := hb.1
  have loop : ∀ (n m : Nat), m + n = 6 → AJ Γ1 1 RX3 cX3_gatherAlphabets 4 none (mz (gm σ b (orF (T1 σ).2.1 (fun m => bt set m) 6) (orF (T1 σ).2.1 (fun m => bt set m && isPl (T1 σ) m) 6))) 12 [some (.inr b), some (.inr 4), some (.inl set), some (.inl (nI m))] [] (gm σ b (orF (T1 σ).2.1 (fun m => bt set m) m) (orF (T1 σ).2.1 (fun m => bt set m && isPl (T1 σ) m) m)) := by
    intro n
    induction n with
    | zero =>
      intro m hm
      obtain rfl : m = 6 := by omega
      refine j_iload_n (pc := 12) dX3_gatherAlphabets_12 rfl ?_
      refine j_aload_n (pc := 13) dX3_gatherAlphabets_13 rfl ?_
      refine j_alen (pc := 14) dX3_gatherAlphabets_14 (by first | rfl | with_reducible assumption) (v := _) (by rfl) ?_
      refine j_icmp_ge (pc := 15) (tgt := 77) dX3_gatherAlphabets_15 rfl (fun h15 => ?_) (fun h15 => absurd (by decide) h15)
      refine j_vret (pc := 77) dX3_gatherAlphabets_77 ?_
      rfl
    | succ n ih =>
      intro m hm
      have hm6 : m < 6 := by omega
      obtain ⟨⟨gM0, gM1, gM2⟩, gL⟩ := isM_at hm6
      have hc : (nI m).toNatClampNeg = m := nI_clamp (by omega)
      have ne : 5 + 3 * m ≠ b := by omega
      refine j_iload_n (pc := 12) dX3_gatherAlphabets_12 rfl ?_
      refine j_aload_n (pc := 13) dX3_gatherAlphabets_13 rfl ?_
      refine j_alen (pc := 14) dX3_gatherAlphabets_14 (by first | rfl | with_reducible assumption) (v := _) (by rfl) ?_
      refine j_icmp_ge (pc := 15) (tgt := 77) dX3_gatherAlphabets_15 rfl (fun h15 => absurd h15 (nI_ge (b := 6) (by omega) (by decide))) (fun h15 => ?_)
      refine j_iload_n (pc := 18) dX3_gatherAlphabets_18 rfl ?_
      refine j_iload_n (pc := 19) dX3_gatherAlphabets_19 rfl ?_
      refine j_ishr (pc := 20) dX3_gatherAlphabets_20 ?_
      refine j_if_eq (pc := 21) (tgt := 77) dX3_gatherAlphabets_21 rfl (fun h21 => ?_) (fun h21 => ?_)
      · refine j_vret (pc := 77) dX3_gatherAlphabets_77 ?_
        have hst := set_stop (by omega) h21
        show _ = _
        rw [or_stop _ _ (show m ≤ 6 by omega) (fun k a b => hst k a (by omega)), or_stop _ _ (show m ≤ 6 by omega) (fun k a b => by simp [hst k a (by omega)])]
      · refine j_iload_n (pc := 24) dX3_gatherAlphabets_24 rfl ?_
        refine j_iload_n (pc := 25) dX3_gatherAlphabets_25 rfl ?_
        refine j_callSNi (pc := 26) dX3_gatherAlphabets_26 k_X3_78 (c_X7_isIn set (j := m) (by omega) _) rfl (by decide) rfl (Nat.le_of_ble_eq_true rfl) (fun r σ1 hp => ?_)
        obtain ⟨rfl, hp⟩ := hp
        rcases hp with ⟨q26, rfl⟩ | ⟨q26, rfl⟩
        · refine j_if_eq (pc := 29) (tgt := 71) dX3_gatherAlphabets_29 rfl (fun h => absurd h (by decide)) (fun _ => ?_)
          refine j_aload_n (pc := 32) dX3_gatherAlphabets_32 rfl ?_
          refine j_dup (pc := 33) dX3_gatherAlphabets_33 ?_
          refine j_getI (pc := 34) dX3_gatherAlphabets_34 f_X3_47 (by first | rfl | with_reducible assumption) (by rfl) ?_
          refine j_aload_n (pc := 37) dX3_gatherAlphabets_37 rfl ?_
          refine j_iload_n (pc := 38) dX3_gatherAlphabets_38 rfl ?_
          refine j_aald (pc := 39) dX3_gatherAlphabets_39 (by first | rfl | with_reducible assumption) (vp_in_nI hm6 (by decide)) (by rw [hc]; exact gL) ?_
          refine j_getI (pc := 40) dX3_gatherAlphabets_40 f_X3_82 (by first | rfl | with_reducible assumption) (by rfl) ?_
          refine j_top (y := σ (5 + 3 * m) 3) (by rw [gm_ne ne]) ?_
          refine j_top2 (gm_11 _ _ _ _) ?_
          refine j_ior (pc := 43) dX3_gatherAlphabets_43 ?_
          refine j_put (pc := 44) dX3_gatherAlphabets_44 f_X3_47 (by first | rfl | with_reducible assumption) (by rfl) ?_
          rw [gm_1]
          refine j_aload_n (pc := 47) dX3_gatherAlphabets_47 rfl ?_
          refine j_iload_n (pc := 48) dX3_gatherAlphabets_48 rfl ?_
          refine j_aald (pc := 49) dX3_gatherAlphabets_49 (by first | rfl | with_reducible assumption) (vp_in_nI hm6 (by decide)) (by rw [hc]; exact gL) ?_
          refine j_getI (pc := 50) dX3_gatherAlphabets_50 f_X3_85 (by first | rfl | with_reducible assumption) (by rfl) ?_
          refine j_top (y := σ (5 + 3 * m) 2) (by rw [gm_ne ne]) ?_
          refine j_if_ne (pc := 53) (tgt := 71) dX3_gatherAlphabets_53 rfl (fun h53 => ?_) (fun h53 => ?_)
          · have h53' : isPl (T1 σ) m = false := decide_eq_false (by rw [t1k hm6]; exact h53)
            first | rw [gm_2] | skip
            refine j_iinc1 (pc := 71) dX3_gatherAlphabets_71 rfl ?_
            refine j_goto (pc := 74) (tgt := 12) dX3_gatherAlphabets_74 rfl ?_
            rw [nI_1]
            refine AJ.eq (ih (m + 1) (by omega)) rfl rfl rfl ?_
            simp only [orF]
            first | (simp [q26, h53', t1a hm6]; done) | (simp [q26]; done)
          · have h53' : isPl (T1 σ) m = true := decide_eq_true (by rw [t1k hm6]; exact h53)
            refine j_aload_n (pc := 56) dX3_gatherAlphabets_56 rfl ?_
            refine j_dup (pc := 57) dX3_gatherAlphabets_57 ?_
            refine j_getI (pc := 58) dX3_gatherAlphabets_58 f_X3_50 (by first | rfl | with_reducible assumption) (by rfl) ?_
            refine j_aload_n (pc := 61) dX3_gatherAlphabets_61 rfl ?_
            refine j_iload_n (pc := 62) dX3_gatherAlphabets_62 rfl ?_
            refine j_aald (pc := 63) dX3_gatherAlphabets_63 (by first | rfl | with_reducible assumption) (vp_in_nI hm6 (by decide)) (by rw [hc]; exact gL) ?_
            refine j_getI (pc := 64) dX3_gatherAlphabets_64 f_X3_82 (by first | rfl | with_reducible assumption) (by rfl) ?_
            refine j_top (y := σ (5 + 3 * m) 3) (by rw [gm_ne ne]) ?_
            refine j_top2 (gm_12 _ _ _ _) ?_
            refine j_ior (pc := 67) dX3_gatherAlphabets_67 ?_
            refine j_put (pc := 68) dX3_gatherAlphabets_68 f_X3_50 (by first | rfl | with_reducible assumption) (by rfl) ?_
            first | rw [gm_2] | skip
            refine j_iinc1 (pc := 71) dX3_gatherAlphabets_71 rfl ?_
            refine j_goto (pc := 74) (tgt := 12) dX3_gatherAlphabets_74 rfl ?_
            rw [nI_1]
            refine AJ.eq (ih (m + 1) (by omega)) rfl rfl rfl ?_
            simp only [orF]
            first | (simp [q26, h53', t1a hm6]; done) | (simp [q26]; done)
        · refine j_if_eq (pc := 29) (tgt := 71) dX3_gatherAlphabets_29 rfl (fun _ => ?_) (fun h => absurd h (by decide))
          first | rw [gm_2] | skip
          refine j_iinc1 (pc := 71) dX3_gatherAlphabets_71 rfl ?_
          refine j_goto (pc := 74) (tgt := 12) dX3_gatherAlphabets_74 rfl ?_
          rw [nI_1]
          refine AJ.eq (ih (m + 1) (by omega)) rfl rfl rfl ?_
          simp only [orF]
          first | (simp [q26, h53', t1a hm6]; done) | (simp [q26]; done)
  refine EV.intro (by decide +kernel) (Nat.le_of_ble_eq_true rfl) ?_
  refine j_aload_n (pc := 0) dX3_gatherAlphabets_0 rfl ?_
  refine j_iconst (pc := 1) dX3_gatherAlphabets_1 (v := 0) (by decide) ?_
  refine j_put (pc := 2) dX3_gatherAlphabets_2 f_X3_47 (by first | rfl | with_reducible assumption) (by rfl) ?_
  refine j_aload_n (pc := 5) dX3_gatherAlphabets_5 rfl ?_
  refine j_iconst (pc := 6) dX3_gatherAlphabets_6 (v := 0) (by decide) ?_
  refine j_put (pc := 7) dX3_gatherAlphabets_7 f_X3_50 (by first | rfl | with_reducible assumption) (by rfl) ?_
  refine j_iconst (pc := 10) dX3_gatherAlphabets_10 (v := 0) (by decide) ?_
  refine j_istore_n (pc := 11) dX3_gatherAlphabets_11 (by decide) ?_
  exact loop 6 0 rfl
/-- the code behind an EVENT, MACHINE by MACHINE -/
def cbF (T : Tab) (set c : Int32) (e : Nat) : Nat → Int32
  | 0 => c
  | m + 1 => if bt set m = true ∧ stp T c e m ≠ -9 then setI (cbF T set c e m) m (stp T c e m) else cbF T set c e m
theorem cb_stop (T : Tab) (set c : Int32) (e : Nat) {m M : Nat} (h : m ≤ M) (hp : ∀ k, m ≤ k → k < M → bt set k = false) : cbF T set c e M = cbF T set c e m := by
  induction h with
  | refl => rfl
  | @step M hM ih =>
    have hle : m ≤ M := hM
    have h1 := hp M hle (Nat.lt_succ_self _)
    simp only [cbF, h1, Bool.false_eq_true, false_and, if_false]
    exact ih (fun k a b => hp k a (by omega))
/-- where the EVENT LEADS, that is where -/
theorem cb_led {T : Tab} {set c t : Int32} {e : Nat} (hT : ∀ m, m < 6 → bt set m = true → okT T m) (hc : okC c) (he : e < 8) (h : led T set c e = some t) : cbF T set c e 6 = t := by
  have key : ∀ m, m ≤ 6 → ∀ b x, ledG T set c e m = some (b, x) → cbF T set c e m = x := by
    intro m
    induction m with
    | zero => intro _ b x h; simp [ledG] at h; exact h.2
    | succ m ih =>
      intro hm b x h
      simp only [ledG] at h
      cases hg : ledG T set c e m with
      | none => rw [hg] at h; cases h
      | some q =>
        obtain ⟨b0, t0⟩ := q
        rw [hg] at h
        dsimp only at h
        have h0 := ih (by omega) b0 t0 hg
        simp only [cbF, h0]
        by_cases h1 : hasE T set e m = true
        · rw [if_pos h1] at h
          have hs : bt set m = true := by unfold hasE at h1; simp at h1; exact h1.1
          by_cases h2 : stp T c e m = -9
          · rw [if_pos h2] at h; cases h
          · rw [if_neg h2] at h
            cases h
            rw [if_pos ⟨hs, h2⟩]
        · rw [if_neg h1] at h
          cases h
          refine if_neg (fun q => h1 ?_)
          unfold hasE
          rw [q.1, (hT m (by omega) q.1).2.2.1 (stN c m) (hc m (by omega)) e he q.2]
          rfl
  unfold led at h
  split at h
  next t1 hg => cases h; exact key 6 (Nat.le_refl _) _ _ hg
  next => cases h
theorem led_lead {T : Tab} {set c : Int32} {e : Nat} : (led T set c e).isSome = leadB T set c e := by
  have key : ∀ m, ledG T set c e m = none ↔ ¬ ((List.range m).all (fun m => !hasE T set e m || decide (stp T c e m ≠ -9)) = true) := by
    intro m
    induction m with
    | zero => simp [ledG]
    | succ m ih =>
      rw [List.range_succ, List.all_append]
      simp only [ledG]
      cases hg : ledG T set c e m with
      | none =>
        have := ih.mp hg
        rw [Bool.eq_false_iff.mpr this]
        simp
      | some q =>
        obtain ⟨b0, t0⟩ := q
        have h1 : (List.range m).all (fun m => !hasE T set e m || decide (stp T c e m ≠ -9)) = true := by
          apply Classical.byContradiction
          intro q
          rw [ih.mpr q] at hg
          cases hg
        rw [h1]
        dsimp only
        by_cases h2 : hasE T set e m = true
        · by_cases h3 : stp T c e m = -9
          · simp [h2, h3]
          · simp [h2, h3]
        · simp [h2]
  have kb : ∀ m b t, ledG T set c e m = some (b, t) → b = (List.range m).any (hasE T set e) := by
    intro m
    induction m with
    | zero => intro b t h; simp [ledG] at h; simp [← h.1]
    | succ m ih =>
      intro b t h
      rw [List.range_succ, List.any_append]
      simp only [ledG] at h
      cases hg : ledG T set c e m with
      | none => rw [hg] at h; cases h
      | some q =>
        obtain ⟨b0, t0⟩ := q
        rw [hg] at h
        dsimp only at h
        have h0 := ih b0 t0 hg
        by_cases h2 : hasE T set e m = true
        · rw [if_pos h2] at h
          by_cases h3 : stp T c e m = -9
          · rw [if_pos h3] at h; cases h
          · rw [if_neg h3] at h
            cases h
            simp [h2]
        · rw [if_neg h2] at h
          cases h
          have h2' : hasE T set e m = false := by simpa using h2
          simp [h2', h0]
  unfold led leadB
  cases hg : ledG T set c e 6 with
  | none =>
    have h1 := (key 6).mp hg
    have h2 : ((List.range 6).all (fun m => !hasE T set e m || decide (stp T c e m ≠ -9))) = false := by simpa using h1
    rw [h2, Bool.and_false]
    rfl
  | some q =>
    obtain ⟨b, t⟩ := q
    have h1 := kb 6 b t hg
    have h2 : ((List.range 6).all (fun m => !hasE T set e m || decide (stp T c e m ≠ -9))) = true := by
      apply Classical.byContradiction
      intro q
      rw [(key 6).mpr q] at hg
      cases hg
    rw [h2, Bool.and_true, ← h1]
    cases b <;> rfl
theorem i3m (m : Nat) : nI m * 3 = nI (3 * m) := by rw [show (3 : Int32) = nI 3 from rfl, pk_mul, Nat.mul_comm m 3]
theorem c_X3_codeBehind {b : Nat} (hb : IsN b) (set : Int32) {c : Int32} (hc : okC c) {e : Nat} (he : e < 8) (σ : Mm) : EV Γ1 2 yX3_codeBehind cX3_codeBehind 8 (some .int) [.inr b, .inl c, .inl (nI e), .inr 4, .inl set] σ (vz (cbF (T1 σ) set c e 6) σ) := by
  have g0 := hb.1
  have loop : ∀ (n m : Nat), m + n = 6 → ∀ (w : Int32) (y : Option Vl), w = cbF (T1 σ) set c e m → AJ Γ1 2 RX3 cX3_codeBehind 8 (some .int) (vz (cbF (T1 σ) set c e 6) σ) 6 [some (.inr b), some (.inl c), some (.inl (nI e)), some (.inr 4), some (.inl set), some (.inl w), some (.inl (nI m)), y] [] σ := by
    intro n
    induction n with
    | zero =>
      intro m hm w y hw
      subst hw
      obtain rfl : m = 6 := by omega
      refine j_iload (pc := 6) dX3_codeBehind_6 rfl ?_
      refine j_aload_n (pc := 8) dX3_codeBehind_8 rfl ?_
      refine j_alen (pc := 9) dX3_codeBehind_9 (by first | rfl | with_reducible assumption) (v := _) (by rfl) ?_
      refine j_icmp_ge (pc := 10) (tgt := 85) dX3_codeBehind_10 rfl (fun h10 => ?_) (fun h10 => absurd (by decide) h10)
      refine j_iload (pc := 85) dX3_codeBehind_85 rfl ?_
      refine j_iret (pc := 87) dX3_codeBehind_87 ?_
      exact ⟨rfl, rfl⟩
    | succ n ih =>
      intro m hm w y hw
      subst hw
      have hm6 : m < 6 := by omega
      obtain ⟨gM, gL⟩ := isM_at hm6
      obtain ⟨gM0, gM1, gM2⟩ := gM
      have hcl : (nI m).toNatClampNeg = m := nI_clamp (by omega)
      have hst := st_n c m
      have hs6 : stN c m < 6 := hc m hm6
      have hidx : (nI (stN c m) * 8 + nI e).toNatClampNeg = 8 * stN c m + e := by
        rw [show (8 : Int32) = nI 8 from rfl, pk_mul, nI_add, nI_clamp (by omega), Nat.mul_comm]
      refine j_iload (pc := 6) dX3_codeBehind_6 rfl ?_
      refine j_aload_n (pc := 8) dX3_codeBehind_8 rfl ?_
      refine j_alen (pc := 9) dX3_codeBehind_9 (by first | rfl | with_reducible assumption) (v := _) (by rfl) ?_
      refine j_icmp_ge (pc := 10) (tgt := 85) dX3_codeBehind_10 rfl (fun h10 => absurd h10 (nI_ge (b := 6) (by omega) (by decide))) (fun h10 => ?_)
      refine j_iload (pc := 13) dX3_codeBehind_13 rfl ?_
      refine j_iload (pc := 15) dX3_codeBehind_15 rfl ?_
      refine j_ishr (pc := 17) dX3_codeBehind_17 ?_
      refine j_if_eq (pc := 18) (tgt := 85) dX3_codeBehind_18 rfl (fun h18 => ?_) (fun h18 => ?_)
      · refine j_iload (pc := 85) dX3_codeBehind_85 rfl ?_
        refine j_iret (pc := 87) dX3_codeBehind_87 ?_
        have hst2 := set_stop (by omega) h18
        exact ⟨rfl, (cb_stop _ _ _ _ (show m ≤ 6 by omega) (fun k a b => hst2 k a (by omega))).symm⟩
      · refine j_iload (pc := 21) dX3_codeBehind_21 rfl ?_
        refine j_iload (pc := 23) dX3_codeBehind_23 rfl ?_
        refine j_callSNi (pc := 25) dX3_codeBehind_25 k_X3_78 (c_X7_isIn set (j := m) (by omega) _) rfl (by decide) rfl (Nat.le_of_ble_eq_true rfl) (fun r σ1 hp => ?_)
        obtain ⟨rfl, hp⟩ := hp
        rcases hp with ⟨q25, rfl⟩ | ⟨q25, rfl⟩
        · refine j_if_eq (pc := 28) (tgt := 79) dX3_codeBehind_28 rfl (fun h => absurd h (by decide)) (fun _ => ?_)
          refine j_aload_n (pc := 31) dX3_codeBehind_31 rfl ?_
          refine j_iload (pc := 32) dX3_codeBehind_32 rfl ?_
          refine j_aald (pc := 34) dX3_codeBehind_34 (by first | rfl | with_reducible assumption) (vp_in_nI hm6 (by decide)) (by rw [hcl]; exact gL) ?_
          refine j_iload_n (pc := 35) dX3_codeBehind_35 rfl ?_
          refine j_iload (pc := 36) dX3_codeBehind_36 rfl ?_
          refine j_iconst (pc := 38) dX3_codeBehind_38 (v := 3) (by decide) ?_
          refine j_imul (pc := 39) dX3_codeBehind_39 ?_
          refine j_ishr (pc := 40) dX3_codeBehind_40 ?_
          refine j_bipush (pc := 41) dX3_codeBehind_41 (v := 7) (by decide) ?_
          refine j_iand (pc := 43) dX3_codeBehind_43 ?_
          refine j_top (y := nI (stN c m)) (by rw [i3m]; exact hst.1) ?_
          refine j_iload_n (pc := 44) dX3_codeBehind_44 rfl ?_
          refine j_callVNi (pc := 45) dX3_codeBehind_45 k_X3_111 (c_X2_target ⟨gM0, gM1, gM2⟩ _ _ _) (by first | rfl | with_reducible assumption) rfl rfl (by decide) rfl (Nat.le_of_ble_eq_true rfl) (fun r σ1 hp => ?_)
          obtain ⟨rfl, hp⟩ := hp
          have hr : r = stp (T1 σ) c e m := by
            rcases hp with ⟨-, -, q⟩ | ⟨q, -⟩
            · rw [q, hidx]; exact (t1s hm6).symm
            · exact absurd ⟨vp_in_nI hs6 (by decide), vp_in_nI he (by decide)⟩ q
          subst hr
          refine j_istore (pc := 48) dX3_codeBehind_48 (by decide) ?_
          refine j_iload (pc := 50) dX3_codeBehind_50 rfl ?_
          refine j_bipush (pc := 52) dX3_codeBehind_52 (v := (-9)) (by decide) ?_
          refine j_icmp_eq (pc := 54) (tgt := 79) dX3_codeBehind_54 rfl (fun h54 => ?_) (fun h54 => ?_)
          · refine j_iinc1 (pc := 79) dX3_codeBehind_79 rfl ?_
            refine j_goto (pc := 82) (tgt := 6) dX3_codeBehind_82 rfl ?_
            rw [nI_1]
            refine ih (m + 1) (by omega) _ _ ?_
            first | (simp [cbF, q25, h54]; done) | (simp [cbF, q25]; done)
          · refine j_iload (pc := 57) dX3_codeBehind_57 rfl ?_
            refine j_bipush (pc := 59) dX3_codeBehind_59 (v := 7) (by decide) ?_
            refine j_iload (pc := 61) dX3_codeBehind_61 rfl ?_
            refine j_iconst (pc := 63) dX3_codeBehind_63 (v := 3) (by decide) ?_
            refine j_imul (pc := 64) dX3_codeBehind_64 ?_
            refine j_ishl (pc := 65) dX3_codeBehind_65 ?_
            refine j_iconst (pc := 66) dX3_codeBehind_66 (v := (-1)) (by decide) ?_
            refine j_ixor (pc := 67) dX3_codeBehind_67 ?_
            refine j_iand (pc := 68) dX3_codeBehind_68 ?_
            refine j_iload (pc := 69) dX3_codeBehind_69 rfl ?_
            refine j_iload (pc := 71) dX3_codeBehind_71 rfl ?_
            refine j_iconst (pc := 73) dX3_codeBehind_73 (v := 3) (by decide) ?_
            refine j_imul (pc := 74) dX3_codeBehind_74 ?_
            refine j_ishl (pc := 75) dX3_codeBehind_75 ?_
            refine j_ior (pc := 76) dX3_codeBehind_76 ?_
            refine j_top (y := setI (cbF (T1 σ) set c e m) m (stp (T1 σ) c e m)) (by rw [i3m]; rfl) ?_
            refine j_istore (pc := 77) dX3_codeBehind_77 (by decide) ?_
            refine j_iinc1 (pc := 79) dX3_codeBehind_79 rfl ?_
            refine j_goto (pc := 82) (tgt := 6) dX3_codeBehind_82 rfl ?_
            rw [nI_1]
            refine ih (m + 1) (by omega) _ _ ?_
            first | (simp [cbF, q25, h54]; done) | (simp [cbF, q25]; done)
        · refine j_if_eq (pc := 28) (tgt := 79) dX3_codeBehind_28 rfl (fun _ => ?_) (fun h => absurd h (by decide))
          refine j_iinc1 (pc := 79) dX3_codeBehind_79 rfl ?_
          refine j_goto (pc := 82) (tgt := 6) dX3_codeBehind_82 rfl ?_
          rw [nI_1]
          refine ih (m + 1) (by omega) _ _ ?_
          first | (simp [cbF, q25, h54]; done) | (simp [cbF, q25]; done)
  refine EV.intro (by decide +kernel) (Nat.le_of_ble_eq_true rfl) ?_
  refine j_iload_n (pc := 0) dX3_codeBehind_0 rfl ?_
  refine j_istore (pc := 1) dX3_codeBehind_1 (by decide) ?_
  refine j_iconst (pc := 3) dX3_codeBehind_3 (v := 0) (by decide) ?_
  refine j_istore (pc := 4) dX3_codeBehind_4 (by decide) ?_
  exact loop 6 0 rfl _ none rfl
theorem c_X3_allMarked {b : Nat} (hb : IsN b) (set c : Int32) (σ : Mm) : EV Γ1 1 yX3_allMarked cX3_allMarked 5 (some .boolean) [.inr b, .inl c, .inr 4, .inl set] σ (bz (finB (T1 σ) set c = true) σ) := by
  have g0 := hb.1
  have loop : ∀ (n m : Nat), m + n = 6 → (∀ k, k < m → bt set k = true → bt ((T1 σ).2.2.1 k) (stN c k) = true) → AJ Γ1 1 RX3 cX3_allMarked 5 (some .boolean) (bz (finB (T1 σ) set c = true) σ) 3 [some (.inr b), some (.inl c), some (.inr 4), some (.inl set), some (.inl (nI m))] [] σ := by
    intro n
    induction n with
    | zero =>
      intro m hm hi
      obtain rfl : m = 6 := by omega
      refine j_iload (pc := 3) dX3_allMarked_3 rfl ?_
      refine j_aload_n (pc := 5) dX3_allMarked_5 rfl ?_
      refine j_alen (pc := 6) dX3_allMarked_6 (by first | rfl | with_reducible assumption) (v := _) (by rfl) ?_
      refine j_icmp_ge (pc := 7) (tgt := 56) dX3_allMarked_7 rfl (fun h7 => ?_) (fun h7 => absurd (by decide) h7)
      refine j_iconst (pc := 56) dX3_allMarked_56 (v := 1) (by decide) ?_
      refine j_zret (pc := 57) dX3_allMarked_57 (Or.inr rfl) ?_
      refine ⟨rfl, Or.inl ⟨?_, rfl⟩⟩
      unfold finB
      rw [List.all_eq_true]
      intro k hk
      cases hs : bt set k with
      | false => rfl
      | true => simp [hi k (List.mem_range.mp hk) hs]
    | succ n ih =>
      intro m hm hi
      have hm6 : m < 6 := by omega
      obtain ⟨⟨gM0, gM1, gM2⟩, gL⟩ := isM_at hm6
      have hcl : (nI m).toNatClampNeg = m := nI_clamp (by omega)
      have hst := st_n c m
      refine j_iload (pc := 3) dX3_allMarked_3 rfl ?_
      refine j_aload_n (pc := 5) dX3_allMarked_5 rfl ?_
      refine j_alen (pc := 6) dX3_allMarked_6 (by first | rfl | with_reducible assumption) (v := _) (by rfl) ?_
      refine j_icmp_ge (pc := 7) (tgt := 56) dX3_allMarked_7 rfl (fun h7 => absurd h7 (nI_ge (b := 6) (by omega) (by decide))) (fun h7 => ?_)
      refine j_iload_n (pc := 10) dX3_allMarked_10 rfl ?_
      refine j_iload (pc := 11) dX3_allMarked_11 rfl ?_
      refine j_ishr (pc := 13) dX3_allMarked_13 ?_
      refine j_if_eq (pc := 14) (tgt := 56) dX3_allMarked_14 rfl (fun h14 => ?_) (fun h14 => ?_)
      · refine j_iconst (pc := 56) dX3_allMarked_56 (v := 1) (by decide) ?_
        refine j_zret (pc := 57) dX3_allMarked_57 (Or.inr rfl) ?_
        have hst2 := set_stop (by omega) h14
        refine ⟨rfl, Or.inl ⟨?_, rfl⟩⟩
        unfold finB
        rw [List.all_eq_true]
        intro k hk
        cases hs : bt set k with
        | false => rfl
        | true =>
          have : k < m := by
            apply Classical.byContradiction
            intro q
            have := List.mem_range.mp hk
            rw [hst2 k (by omega) (by omega)] at hs
            cases hs
          simp [hi k this hs]
      · refine j_iload_n (pc := 17) dX3_allMarked_17 rfl ?_
        refine j_iload (pc := 18) dX3_allMarked_18 rfl ?_
        refine j_callSNi (pc := 20) dX3_allMarked_20 k_X3_78 (c_X7_isIn set (j := m) (by omega) _) rfl (by decide) rfl (Nat.le_of_ble_eq_true rfl) (fun r σ1 hp => ?_)
        obtain ⟨rfl, hp⟩ := hp
        rcases hp with ⟨q20, rfl⟩ | ⟨q20, rfl⟩
        · refine j_if_eq (pc := 23) (tgt := 50) dX3_allMarked_23 rfl (fun h => absurd h (by decide)) (fun _ => ?_)
          refine j_aload_n (pc := 26) dX3_allMarked_26 rfl ?_
          refine j_iload (pc := 27) dX3_allMarked_27 rfl ?_
          refine j_aald (pc := 29) dX3_allMarked_29 (by first | rfl | with_reducible assumption) (vp_in_nI hm6 (by decide)) (by rw [hcl]; exact gL) ?_
          refine j_getI (pc := 30) dX3_allMarked_30 f_X3_121 (by first | rfl | with_reducible assumption) (by rfl) ?_
          refine j_iload_n (pc := 33) dX3_allMarked_33 rfl ?_
          refine j_iload (pc := 34) dX3_allMarked_34 rfl ?_
          refine j_iconst (pc := 36) dX3_allMarked_36 (v := 3) (by decide) ?_
          refine j_imul (pc := 37) dX3_allMarked_37 ?_
          refine j_ishr (pc := 38) dX3_allMarked_38 ?_
          refine j_bipush (pc := 39) dX3_allMarked_39 (v := 7) (by decide) ?_
          refine j_iand (pc := 41) dX3_allMarked_41 ?_
          refine j_top (y := nI (stN c m)) (by rw [i3m]; exact hst.1) ?_
          refine j_callSNi (pc := 42) dX3_allMarked_42 k_X3_78 (c_X7_isIn _ (j := stN c m) (by omega) _) rfl (by decide) rfl (Nat.le_of_ble_eq_true rfl) (fun r σ1 hp => ?_)
          obtain ⟨rfl, hp⟩ := hp
          rcases hp with ⟨q42, rfl⟩ | ⟨q42, rfl⟩
          · refine j_if_ne (pc := 45) (tgt := 50) dX3_allMarked_45 rfl (fun _ => ?_) (fun h => absurd h (by decide))
            refine j_iinc1 (pc := 50) dX3_allMarked_50 rfl ?_
            refine j_goto (pc := 53) (tgt := 3) dX3_allMarked_53 rfl ?_
            rw [nI_1]
            refine ih (m + 1) (by omega) (fun k hk hs => ?_)
            by_cases hkm : k = m
            · subst hkm
              first | (rw [t1m hm6]; exact q42) | exact absurd hs q20
            · exact hi k (by omega) hs
          · refine j_if_ne (pc := 45) (tgt := 50) dX3_allMarked_45 rfl (fun h => absurd h (by decide)) (fun _ => ?_)
            refine j_iconst (pc := 48) dX3_allMarked_48 (v := 0) (by decide) ?_
            refine j_zret (pc := 49) dX3_allMarked_49 (Or.inl rfl) ?_
            refine ⟨rfl, Or.inr ⟨fun q => ?_, rfl⟩⟩
            unfold finB at q
            have := List.all_eq_true.mp q m (List.mem_range.mpr hm6)
            rw [q20] at this
            exact q42 (by simpa [t1m hm6] using this)
        · refine j_if_eq (pc := 23) (tgt := 50) dX3_allMarked_23 rfl (fun _ => ?_) (fun h => absurd h (by decide))
          refine j_iinc1 (pc := 50) dX3_allMarked_50 rfl ?_
          refine j_goto (pc := 53) (tgt := 3) dX3_allMarked_53 rfl ?_
          rw [nI_1]
          refine ih (m + 1) (by omega) (fun k hk hs => ?_)
          by_cases hkm : k = m
          · subst hkm
            first | (rw [t1m hm6]; exact q42) | exact absurd hs q20
          · exact hi k (by omega) hs
  refine EV.intro (by decide +kernel) (Nat.le_of_ble_eq_true rfl) ?_
  refine j_iconst (pc := 0) dX3_allMarked_0 (v := 0) (by decide) ?_
  refine j_istore (pc := 1) dX3_allMarked_1 (by decide) ?_
  exact loop 6 0 rfl (fun k h => absurd h (Nat.not_lt_zero _))
theorem c_X3_addEdge {b : Nat} (hb : IsN b) {n e : Nat} (hn : n < 150) (he : e < 8) (to : Int32) {σ : Mm} {J : Nat} (hJ : σ b 13 = nI J) (hJ2 : J ≤ 150) : EV Γ1 1 yX3_addEdge cX3_addEdge 5 none [.inr b, .inl (nI n), .inl (nI e), .inl to] σ (fun _ σ' => (¬ vp_in to J ∧ σ' = m_up σ b 14 1) ∨ ∃ j, j < J ∧ to = nI j ∧ σ' = m_up (m_up (m_up σ (b + 5) (8 * n + e) (nI j)) (b + 7) (8 * n + e) (σ (b + 6) j)) (b + 6) j (nI (8 * n + e))) := by
  have g0 := hb.1
  have g5 := hb.2.2.2.2.2.1
  have g6 := hb.2.2.2.2.2.2.1
  have g7 := hb.2.2.2.2.2.2.2.1
  have hx : nI n * 8 + nI e = nI (8 * n + e) := by rw [show (8 : Int32) = nI 8 from rfl, pk_mul, nI_add, Nat.mul_comm n 8]
  have hvx : vp_in (nI (8 * n + e)) 1200 := vp_in_nI (by omega) (by decide)
  have hcx : (nI (8 * n + e)).toNatClampNeg = 8 * n + e := nI_clamp (by omega)
  refine EV.intro (by decide +kernel) (Nat.le_of_ble_eq_true rfl) ?_
  refine j_aload_n (pc := 0) dX3_addEdge_0 rfl ?_
  refine j_iload_n (pc := 1) dX3_addEdge_1 rfl ?_
  refine j_callVi (pc := 2) dX3_addEdge_2 k_X3_107 (c_X3_has hb _ hJ hJ2) (by first | rfl | with_reducible assumption) rfl rfl (by decide) rfl (Nat.le_of_ble_eq_true rfl) (fun r σ1 hp => ?_)
  obtain ⟨rfl, hp⟩ := hp
  rcases hp with ⟨q2, rfl⟩ | ⟨q2, rfl⟩
  · refine j_if_ne (pc := 5) (tgt := 14) dX3_addEdge_5 rfl (fun _ => ?_) (fun h => absurd h (by decide))
    obtain ⟨j, hj, rfl⟩ := vp_in_of q2 (by omega)
    have hcj : (nI j).toNatClampNeg = j := nI_clamp (by omega)
    have hvj : vp_in (nI j) 150 := vp_in_nI (by omega) (by decide)
    refine j_iload_n (pc := 14) dX3_addEdge_14 rfl ?_
    refine j_bipush (pc := 15) dX3_addEdge_15 (v := 8) (by decide) ?_
    refine j_imul (pc := 17) dX3_addEdge_17 ?_
    refine j_iload_n (pc := 18) dX3_addEdge_18 rfl ?_
    refine j_iadd (pc := 19) dX3_addEdge_19 ?_
    refine j_top hx ?_
    refine j_istore (pc := 20) dX3_addEdge_20 (by decide) ?_
    refine j_aload_n (pc := 22) dX3_addEdge_22 rfl ?_
    refine j_getR (pc := 23) dX3_addEdge_23 f_X3_25 (by first | rfl | with_reducible assumption) (by rfl) ?_
    refine j_iload (pc := 26) dX3_addEdge_26 rfl ?_
    refine j_iload_n (pc := 28) dX3_addEdge_28 rfl ?_
    refine j_iast (pc := 29) dX3_addEdge_29 (by first | rfl | with_reducible assumption) hvx ?_
    refine j_aload_n (pc := 30) dX3_addEdge_30 rfl ?_
    refine j_getR (pc := 31) dX3_addEdge_31 f_X3_31 (by first | rfl | with_reducible assumption) (by rfl) ?_
    refine j_iload (pc := 34) dX3_addEdge_34 rfl ?_
    refine j_aload_n (pc := 36) dX3_addEdge_36 rfl ?_
    refine j_getR (pc := 37) dX3_addEdge_37 f_X3_28 (by first | rfl | with_reducible assumption) (by rfl) ?_
    refine j_iload_n (pc := 40) dX3_addEdge_40 rfl ?_
    refine j_iald (pc := 41) dX3_addEdge_41 (by first | rfl | with_reducible assumption) hvj ?_
    refine j_iast (pc := 42) dX3_addEdge_42 (by first | rfl | with_reducible assumption) hvx ?_
    refine j_aload_n (pc := 43) dX3_addEdge_43 rfl ?_
    refine j_getR (pc := 44) dX3_addEdge_44 f_X3_28 (by first | rfl | with_reducible assumption) (by rfl) ?_
    refine j_iload_n (pc := 47) dX3_addEdge_47 rfl ?_
    refine j_iload (pc := 48) dX3_addEdge_48 rfl ?_
    refine j_iast (pc := 50) dX3_addEdge_50 (by first | rfl | with_reducible assumption) hvj ?_
    refine j_vret (pc := 51) dX3_addEdge_51 ?_
    right
    refine ⟨j, hj, rfl, ?_⟩
    rw [hcx, hcj, m_ne (by omega)]
  · refine j_if_ne (pc := 5) (tgt := 14) dX3_addEdge_5 rfl (fun h => absurd h (by decide)) (fun _ => ?_)
    refine j_aload_n (pc := 8) dX3_addEdge_8 rfl ?_
    refine j_iconst (pc := 9) dX3_addEdge_9 (v := 1) (by decide) ?_
    refine j_putZ (pc := 10) dX3_addEdge_10 f_X3_56 (by first | rfl | with_reducible assumption) (by rfl) (Or.inr rfl) ?_
    refine j_vret (pc := 13) dX3_addEdge_13 ?_
    exact Or.inl ⟨q2, rfl⟩
end
section
/-! NET.spreadFrom and NET.join -/
def msF (σ : Mm) (c : Int32) (m : Nat) : Int32 := σ (5 + 3 * m) 3 &&& (σ (5 + 3 * m + 2) (stN c m) ^^^ (-1))
theorem b_ms {σ : Mm} {set c : Int32} (hM : MS σ set) (hc : okC c) {m e : Nat} (hm : m < 6) (hs : bt set m = true) (he : e < 32) : bt (msF σ c m) e = (decide (e < 8) && (bt ((T1 σ).2.1 m) e && decide (stp (T1 σ) c e m = -9))) := by
  obtain ⟨h1, h2⟩ := hM.2 m hm hs
  unfold msF
  rw [b_and, b_not _ he, h2 _ (hc m hm) e he]
  have e1 : stp (T1 σ) c e m = σ (5 + 3 * m + 1) (8 * stN c m + e) := t1s hm
  rw [e1, t1a hm]
  by_cases h8 : e < 8
  · by_cases hq : σ (5 + 3 * m + 1) (8 * stN c m + e) = -9 <;> simp [h8, hq]
  · have := h1.2.2.2 e (by omega)
    rw [t1a hm] at this
    simp [h8, this]
theorem any6 {p : Nat → Bool} : (List.range 6).any p = true ↔ ∃ m, m < 6 ∧ p m = true := by
  simp [List.any_eq_true]
theorem all6 {p : Nat → Bool} : (List.range 6).all p = true ↔ ∀ m, m < 6 → p m = true := by
  simp [List.all_eq_true]
def A1F (σ : Mm) (set : Int32) : Int32 := orF (T1 σ).2.1 (fun m => bt set m) 6
def A2F (σ : Mm) (set : Int32) : Int32 := orF (T1 σ).2.1 (fun m => bt set m && isPl (T1 σ) m) 6
def mpF (σ : Mm) (set c : Int32) (M : Nat) : Int32 := orF (msF σ c) (fun m => bt set m && isPl (T1 σ) m) M
def mrF (σ : Mm) (set c : Int32) (M : Nat) : Int32 := orF (msF σ c) (fun m => bt set m && !isPl (T1 σ) m) M
theorem lead_bits {σ : Mm} {set c : Int32} (hM : MS σ set) (hc : okC c) {e : Nat} (he : e < 32) : bt ((A1F σ set &&& (mpF σ set c 6 ^^^ (-1))) &&& (mrF σ set c 6 ^^^ (-1))) e = (decide (e < 8) && leadB (T1 σ) set c e) := by
  unfold A1F mpF mrF leadB
  rw [b_and, b_and, b_not _ he, b_not _ he, or_bit, or_bit, or_bit, Bool.eq_iff_iff]
  simp only [Bool.and_eq_true, Bool.not_eq_true', decide_eq_true_eq, any6, all6, ← Bool.not_eq_true, hasE, Bool.or_eq_true]
  constructor
  · rintro ⟨⟨⟨m, hm, hs, ha⟩, h1⟩, h2⟩
    have h8 : e < 8 := by
      apply Classical.byContradiction
      intro q
      rw [(hM.2 m hm hs).1.2.2.2 e (by omega)] at ha
      cases ha
    refine ⟨h8, ⟨m, hm, hs, ha⟩, fun k hk => ?_⟩
    by_cases hks : bt set k = true
    · by_cases hka : bt ((T1 σ).2.1 k) e = true
      · right
        intro hst
        have hb : bt (msF σ c k) e = true := by rw [b_ms hM hc hk hks he]; simp [h8, hka, hst]
        by_cases hpl : isPl (T1 σ) k = true
        · exact h1 ⟨k, hk, ⟨hks, hpl⟩, hb⟩
        · exact h2 ⟨k, hk, ⟨hks, hpl⟩, hb⟩
      · left; exact fun q => hka q.2
    · left; exact fun q => hks q.1
  · rintro ⟨h8, ⟨m, hm, hs, ha⟩, h⟩
    have no : ∀ k, k < 6 → bt set k = true → ¬ bt (msF σ c k) e = true := by
      intro k hk hks q
      rw [b_ms hM hc hk hks he] at q
      simp only [Bool.and_eq_true, decide_eq_true_eq] at q
      rcases h k hk with h9 | h9
      · exact h9 ⟨hks, q.2.1⟩
      · exact h9 q.2.2
    exact ⟨⟨⟨m, hm, hs, ha⟩, fun ⟨k, hk, hp, q⟩ => no k hk hp.1 q⟩, fun ⟨k, hk, hp, q⟩ => no k hk hp.1 q⟩
theorem clash_bits {σ : Mm} {set c : Int32} (hM : MS σ set) (hc : okC c) {e : Nat} (he : e < 32) : bt ((A2F σ set &&& (mpF σ set c 6 ^^^ (-1))) &&& mrF σ set c 6) e = (decide (e < 8) && clashB (T1 σ) set c e) := by
  unfold A2F mpF mrF clashB
  rw [b_and, b_and, b_not _ he, or_bit, or_bit, or_bit, Bool.eq_iff_iff]
  simp only [Bool.and_eq_true, Bool.not_eq_true', decide_eq_true_eq, any6, all6, ← Bool.not_eq_true, hasE, Bool.or_eq_true]
  constructor
  · rintro ⟨⟨⟨m, hm, ⟨hs, hpl⟩, ha⟩, h1⟩, ⟨k, hk, ⟨hks, hkp⟩, hkb⟩⟩
    have h8 : e < 8 := by
      apply Classical.byContradiction
      intro q
      rw [(hM.2 m hm hs).1.2.2.2 e (by omega)] at ha
      cases ha
    rw [b_ms hM hc hk hks he] at hkb
    simp only [Bool.and_eq_true, decide_eq_true_eq] at hkb
    refine ⟨h8, ⟨⟨m, hm, hpl, hs, ha⟩, fun i hi => ?_⟩, ⟨k, hk, ⟨hkp, hks, hkb.2.1⟩, hkb.2.2⟩⟩
    by_cases hq : isPl (T1 σ) i = true ∧ bt set i = true ∧ bt ((T1 σ).2.1 i) e = true
    · right
      intro hst
      exact h1 ⟨i, hi, ⟨hq.2.1, hq.1⟩, by rw [b_ms hM hc hi hq.2.1 he]; simp [h8, hq.2.2, hst]⟩
    · left; exact hq
  · rintro ⟨h8, ⟨⟨m, hm, hpl, hs, ha⟩, h⟩, ⟨k, hk, ⟨hkp, hks, hka⟩, hkb⟩⟩
    refine ⟨⟨⟨m, hm, ⟨hs, hpl⟩, ha⟩, ?_⟩, ⟨k, hk, ⟨hks, hkp⟩, by rw [b_ms hM hc hk hks he]; simp [h8, hka, hkb]⟩⟩
    rintro ⟨i, hi, ⟨his, hip⟩, q⟩
    rw [b_ms hM hc hi his he] at q
    simp only [Bool.and_eq_true, decide_eq_true_eq] at q
    rcases h i hi with h9 | h9
    · exact h9 ⟨hip, his, q.2.1⟩
    · exact h9 q.2.2
/-- the edges into each JOINT, chained: the last first -/
def chainP (E : Nat → Int32) : Int32 → List Nat → Prop
  | v, [] => v = -9
  | v, y :: ys => v = nI y ∧ chainP E (E y) ys
def insX (f : Nat → Int32) (j x : Nat) : List Nat := ((List.range x).filter (fun y => f y == nI j)).reverse
theorem ins_hit {f : Nat → Int32} {j x : Nat} (h : f x = nI j) : insX f j (x + 1) = x :: insX f j x := by
  unfold insX
  rw [List.range_succ, List.filter_append]
  simp [h]
theorem ins_miss {f : Nat → Int32} {j x : Nat} (h : f x ≠ nI j) : insX f j (x + 1) = insX f j x := by
  unfold insX
  rw [List.range_succ, List.filter_append]
  simp [h]
theorem ins_mem {f : Nat → Int32} {j x y : Nat} : y ∈ insX f j x ↔ y < x ∧ f y = nI j := by
  unfold insX
  simp
theorem chain_upd {E : Nat → Int32} {x : Nat} {z : Int32} : ∀ (l : List Nat) (v : Int32), (∀ y ∈ l, y < x) → chainP E v l → chainP (upd E x z) v l := by
  intro l
  induction l with
  | nil => intro v _ h; exact h
  | cons y ys ih =>
    intro v hl h
    refine ⟨h.1, ?_⟩
    have : y ≠ x := by have := hl y List.mem_cons_self; omega
    rw [pk_un this]
    exact ih _ (fun z hz => hl z (List.mem_cons_of_mem _ hz)) h.2
/-- a JOINT's row -/
def RowI (σ : Mm) (b : Nat) (T : Tab) (set : Int32) (n : Nat) (c : Int32) : Prop := (∀ e, e < 32 → bt (σ (b + 2) n) e = (decide (e < 8) && leadB T set c e)) ∧ (∀ e, e < 32 → bt (σ (b + 3) n) e = (decide (e < 8) && clashB T set c e)) ∧ σ (b + 4) n = (if finB T set c = true then 1 else 0)
/-- x twos of a JOINT and an EVENT are gone through, R rows stand -/
def BI (σ : Mm) (b : Nat) (T : Tab) (set : Int32) (x R : Nat) : Prop := σ b 14 = 0 ∧ σ b 13 = nI (csx T set x).length ∧ (csx T set x).length ≤ 150 ∧ (∀ (j : Nat) (c : Int32), (csx T set x)[j]? = some c → σ (b + 1) j = c) ∧ HT (σ (b + 1)) (σ (b + 8)) (csx T set x).length ∧ (∀ y, y < x → σ (b + 5) y = toX T set y) ∧ (∀ j, j < (csx T set x).length → chainP (σ (b + 7)) (σ (b + 6) j) (insX (toX T set) j x)) ∧ ∀ (n : Nat) (c : Int32), n < R → (csx T set x)[n]? = some c → RowI σ b T set n c
def Over (T : Tab) (set : Int32) : Prop := 150 < (csx T set 1200).length
def OV (σ : Mm) (b : Nat) (T : Tab) (set : Int32) : Prop := Over T set ∧ σ b 14 = 1 ∧ σ b 13 = nI 150 ∧ HT (σ (b + 1)) (σ (b + 8)) 150
/-- nothing but the Net's own cells has changed, far and queue haven't -/
def FrN (b : Nat) (σ σ' : Mm) : Prop := ∀ x, (x < b ∨ b + 8 < x) → σ' x = σ x
theorem FrN.rf {b : Nat} {σ : Mm} : FrN b σ σ := fun _ _ => rfl
theorem FrN.tr {b : Nat} {σ σ' σ'' : Mm} (h1 : FrN b σ σ') (h2 : FrN b σ' σ'') : FrN b σ σ'' := fun x h => (h2 x h).trans (h1 x h)
theorem FrN.up {b a k : Nat} {v : Int32} {σ σ' : Mm} (h : FrN b σ σ') (ha : b ≤ a ∧ a ≤ b + 8) : FrN b σ (m_up σ' a k v) := fun x hx => (m_ne (by omega)).trans (h x hx)
theorem toX_lt {T : Tab} {set : Int32} {y x : Nat} (h : y < x) {J : Nat} (hJ : (csx T set x).length ≤ J) (h2 : J < 2 ^ 31) : toX T set y ≠ nI J := by
  rcases toX_cases T set y with ⟨-, q⟩ | ⟨c, j, -, q, hj, -⟩
  · rw [q]; exact fun e => nI_z h2 e.symm
  · rw [q]
    intro e
    have h3 := csx_len T set (show y + 1 ≤ x from h)
    have := (nI_eq (by omega) h2).mp e
    omega
section BIstep
variable {σ : Mm} {b : Nat} {T : Tab} {set : Int32} {x R : Nat}
theorem BI.none (h : BI σ b T set x R) (hn : nxt T set (csx T set x) x = .none) : BI (m_up σ (b + 5) x (-9)) b T set (x + 1) R := by
  obtain ⟨h1, h2, h3, h4, h5, h6, h7, h8⟩ := h
  have ht : toX T set x = -9 := by unfold toX; rw [hn]
  unfold BI RowI at *
  rw [csx_none T set hn]
  simp only [m_row, m_ne (show b ≠ b + 5 by omega), m_ne (show b + 1 ≠ b + 5 by omega), m_ne (show b + 8 ≠ b + 5 by omega), m_ne (show b + 6 ≠ b + 5 by omega), m_ne (show b + 7 ≠ b + 5 by omega), m_ne (show b + 2 ≠ b + 5 by omega), m_ne (show b + 3 ≠ b + 5 by omega), m_ne (show b + 4 ≠ b + 5 by omega)]
  refine ⟨h1, h2, h3, h4, h5, fun y hy => ?_, fun j hj => ?_, h8⟩
  · by_cases q : y = x
    · subst q; rw [pk_us, ht]
    · rw [pk_un q]; exact h6 y (by omega)
  · rw [ins_miss (by rw [ht]; exact fun e => nI_z (by omega) e.symm)]
    exact h7 j hj
theorem BI.old (h : BI σ b T set x R) {c : Int32} (hn : nxt T set (csx T set x) x = some c) {j : Nat} (hj : (csx T set x)[j]? = some c) : BI (m_up (m_up (m_up (m_up σ (b + 5) x (-9)) (b + 5) x (nI j)) (b + 7) x (σ (b + 6) j)) (b + 6) j (nI x)) b T set (x + 1) R := by
  obtain ⟨h1, h2, h3, h4, h5, h6, h7, h8⟩ := h
  have hm : c ∈ csx T set x := List.mem_of_getElem? hj
  have hcs : csx T set (x + 1) = csx T set x := by rw [csx_some T set hn, if_pos hm]
  have hjl : j < (csx T set x).length := (List.getElem?_eq_some_iff.mp hj).1
  have ht : toX T set x = nI j := by
    rcases toX_cases T set x with ⟨q, -⟩ | ⟨c', j', q1, q2, q3, q4⟩
    · rw [hn] at q; cases q
    · rw [hn] at q1
      cases q1
      rw [hcs] at q4
      rw [q2, nodup_idx (csx_nodup T set x) q4 hj]
  unfold BI RowI at *
  rw [hcs]
  simp only [m_row, m_ne (show b ≠ b + 5 by omega), m_ne (show b ≠ b + 6 by omega), m_ne (show b ≠ b + 7 by omega), m_ne (show b + 1 ≠ b + 5 by omega), m_ne (show b + 1 ≠ b + 6 by omega), m_ne (show b + 1 ≠ b + 7 by omega), m_ne (show b + 8 ≠ b + 5 by omega), m_ne (show b + 8 ≠ b + 6 by omega), m_ne (show b + 8 ≠ b + 7 by omega), m_ne (show b + 6 ≠ b + 5 by omega), m_ne (show b + 6 ≠ b + 7 by omega), m_ne (show b + 7 ≠ b + 5 by omega), m_ne (show b + 7 ≠ b + 6 by omega), m_ne (show b + 5 ≠ b + 6 by omega), m_ne (show b + 5 ≠ b + 7 by omega), m_ne (show b + 2 ≠ b + 5 by omega), m_ne (show b + 2 ≠ b + 6 by omega), m_ne (show b + 2 ≠ b + 7 by omega), m_ne (show b + 3 ≠ b + 5 by omega), m_ne (show b + 3 ≠ b + 6 by omega), m_ne (show b + 3 ≠ b + 7 by omega), m_ne (show b + 4 ≠ b + 5 by omega), m_ne (show b + 4 ≠ b + 6 by omega), m_ne (show b + 4 ≠ b + 7 by omega)]
  refine ⟨h1, h2, h3, h4, h5, fun y hy => ?_, fun k hk => ?_, h8⟩
  · by_cases q : y = x
    · subst q; rw [pk_us, ht]
    · rw [pk_un q, pk_un q]; exact h6 y (by omega)
  · by_cases q : k = j
    · subst q
      rw [ins_hit ht, pk_us]
      refine ⟨rfl, ?_⟩
      rw [pk_us]
      exact chain_upd _ _ (fun y hy => (ins_mem.mp hy).1) (h7 k hk)
    · rw [ins_miss (by rw [ht]; exact fun e => q ((nI_eq (by omega) (by omega)).mp e).symm), pk_un q]
      exact chain_upd _ _ (fun y hy => (ins_mem.mp hy).1) (h7 k hk)
theorem BI.new (h : BI σ b T set x R) {c : Int32} (hn : nxt T set (csx T set x) x = some c) (hc : c ∉ csx T set x) {J i : Nat} (hJ : J = (csx T set x).length) (h150 : J < 150) (hR : R ≤ J) (hH : HT (upd (σ (b + 1)) J c) (upd (σ (b + 8)) i (nI J)) (J + 1)) {σm : Mm} (hm : σm = m_up (m_up (m_up (m_up (m_up σ (b + 5) x (-9)) (b + 1) J c) (b + 6) J (-9)) b 13 (nI (J + 1))) (b + 8) i (nI J)) :
    BI (m_up (m_up (m_up σm (b + 5) x (nI J)) (b + 7) x (σm (b + 6) J)) (b + 6) J (nI x)) b T set (x + 1) R := by
  obtain ⟨h1, h2, h3, h4, h5, h6, h7, h8⟩ := h
  have hcs : csx T set (x + 1) = csx T set x ++ [c] := by rw [csx_some T set hn, if_neg hc]
  have hlen : (csx T set (x + 1)).length = J + 1 := by rw [hcs, List.length_append, hJ]; rfl
  have hlast : (csx T set (x + 1))[J]? = some c := by rw [hcs, hJ, List.getElem?_append_right (Nat.le_refl _)]; simp
  have hold : ∀ k, k < J → (csx T set (x + 1))[k]? = (csx T set x)[k]? := fun k hk => by rw [hcs, List.getElem?_append_left (by omega)]
  have ht : toX T set x = nI J := by
    rcases toX_cases T set x with ⟨q, -⟩ | ⟨c', j', q1, q2, q3, q4⟩
    · rw [hn] at q; cases q
    · rw [hn] at q1
      cases q1
      rw [q2, nodup_idx (csx_nodup T set (x + 1)) q4 hlast]
  subst hm
  unfold BI RowI at *
  rw [hlen]
  simp only [m_row, m_ne (show b ≠ b + 1 by omega), m_ne (show b ≠ b + 5 by omega), m_ne (show b ≠ b + 6 by omega), m_ne (show b ≠ b + 7 by omega), m_ne (show b ≠ b + 8 by omega), m_ne (show b + 1 ≠ b by omega), m_ne (show b + 1 ≠ b + 5 by omega), m_ne (show b + 1 ≠ b + 6 by omega), m_ne (show b + 1 ≠ b + 7 by omega), m_ne (show b + 1 ≠ b + 8 by omega), m_ne (show b + 8 ≠ b by omega), m_ne (show b + 8 ≠ b + 1 by omega), m_ne (show b + 8 ≠ b + 5 by omega), m_ne (show b + 8 ≠ b + 6 by omega), m_ne (show b + 8 ≠ b + 7 by omega), m_ne (show b + 6 ≠ b by omega), m_ne (show b + 6 ≠ b + 1 by omega), m_ne (show b + 6 ≠ b + 5 by omega), m_ne (show b + 6 ≠ b + 7 by omega), m_ne (show b + 6 ≠ b + 8 by omega), m_ne (show b + 7 ≠ b by omega), m_ne (show b + 7 ≠ b + 1 by omega), m_ne (show b + 7 ≠ b + 5 by omega), m_ne (show b + 7 ≠ b + 6 by omega), m_ne (show b + 7 ≠ b + 8 by omega), m_ne (show b + 5 ≠ b by omega), m_ne (show b + 5 ≠ b + 1 by omega), m_ne (show b + 5 ≠ b + 6 by omega), m_ne (show b + 5 ≠ b + 7 by omega), m_ne (show b + 5 ≠ b + 8 by omega)]
  simp only [m_ne (show b + 2 ≠ b by omega), m_ne (show b + 2 ≠ b + 1 by omega), m_ne (show b + 2 ≠ b + 5 by omega), m_ne (show b + 2 ≠ b + 6 by omega), m_ne (show b + 2 ≠ b + 7 by omega), m_ne (show b + 2 ≠ b + 8 by omega), m_ne (show b + 3 ≠ b by omega), m_ne (show b + 3 ≠ b + 1 by omega), m_ne (show b + 3 ≠ b + 5 by omega), m_ne (show b + 3 ≠ b + 6 by omega), m_ne (show b + 3 ≠ b + 7 by omega), m_ne (show b + 3 ≠ b + 8 by omega), m_ne (show b + 4 ≠ b by omega), m_ne (show b + 4 ≠ b + 1 by omega), m_ne (show b + 4 ≠ b + 5 by omega), m_ne (show b + 4 ≠ b + 6 by omega), m_ne (show b + 4 ≠ b + 7 by omega), m_ne (show b + 4 ≠ b + 8 by omega)]
  refine ⟨by rw [pk_un (by decide)]; exact h1, pk_us, by omega, fun k c' hk => ?_, hH, fun y hy => ?_, fun k hk => ?_, fun n c' hn' hc' => ?_⟩
  · by_cases q : k = J
    · subst q
      rw [hlast] at hk
      cases hk
      exact pk_us
    · have hkl := (List.getElem?_eq_some_iff.mp hk).1
      rw [pk_un q]
      rw [hold k (by omega)] at hk
      exact h4 k c' hk
  · by_cases q : y = x
    · subst q; rw [pk_us, ht]
    · rw [pk_un q, pk_un q]; exact h6 y (by omega)
  · by_cases q : k = J
    · subst q
      rw [ins_hit ht]
      refine ⟨pk_us, ?_⟩
      have : insX (toX T set) k x = [] := by
        apply List.eq_nil_iff_forall_not_mem.mpr
        intro y hy
        obtain ⟨a1, a2⟩ := ins_mem.mp hy
        exact toX_lt a1 (by omega) (by omega) a2
      rw [this]
      exact pk_us.trans pk_us
    · rw [ins_miss (by rw [ht]; exact fun e => q ((nI_eq (by omega) (by omega)).mp e).symm), pk_un q, pk_un q]
      exact chain_upd _ _ (fun y hy => (ins_mem.mp hy).1) (h7 k (by omega))
  · rw [hold n (by omega)] at hc'
    exact h8 n c' hn' hc'
theorem BI.row (h : BI σ b T set x R) {c : Int32} (hc : (csx T set x)[R]? = some c) {f g : Int32} (hf : ∀ e, e < 32 → bt f e = (decide (e < 8) && leadB T set c e)) (hg : ∀ e, e < 32 → bt g e = (decide (e < 8) && clashB T set c e)) : BI (m_up (m_up (m_up σ (b + 4) R (if finB T set c = true then 1 else 0)) (b + 2) R f) (b + 3) R g) b T set x (R + 1) := by
  obtain ⟨h1, h2, h3, h4, h5, h6, h7, h8⟩ := h
  unfold BI RowI at *
  simp only [m_row, m_ne (show b ≠ b + 2 by omega), m_ne (show b ≠ b + 3 by omega), m_ne (show b ≠ b + 4 by omega), m_ne (show b + 1 ≠ b + 2 by omega), m_ne (show b + 1 ≠ b + 3 by omega), m_ne (show b + 1 ≠ b + 4 by omega), m_ne (show b + 8 ≠ b + 2 by omega), m_ne (show b + 8 ≠ b + 3 by omega), m_ne (show b + 8 ≠ b + 4 by omega), m_ne (show b + 6 ≠ b + 2 by omega), m_ne (show b + 6 ≠ b + 3 by omega), m_ne (show b + 6 ≠ b + 4 by omega), m_ne (show b + 7 ≠ b + 2 by omega), m_ne (show b + 7 ≠ b + 3 by omega), m_ne (show b + 7 ≠ b + 4 by omega), m_ne (show b + 5 ≠ b + 2 by omega), m_ne (show b + 5 ≠ b + 3 by omega), m_ne (show b + 5 ≠ b + 4 by omega), m_ne (show b + 2 ≠ b + 3 by omega), m_ne (show b + 2 ≠ b + 4 by omega), m_ne (show b + 3 ≠ b + 2 by omega), m_ne (show b + 3 ≠ b + 4 by omega), m_ne (show b + 4 ≠ b + 2 by omega), m_ne (show b + 4 ≠ b + 3 by omega)]
  refine ⟨h1, h2, h3, h4, h5, h6, h7, fun n c' hn hc' => ?_⟩
  by_cases q : n = R
  · subst q
    rw [hc] at hc'
    cases hc'
    rw [pk_us, pk_us, pk_us]
    exact ⟨hf, hg, rfl⟩
  · rw [pk_un q, pk_un q, pk_un q]
    exact h8 n c' (by omega) hc'
end BIstep
/-- spreadFrom(n): the row of n, and all twos of n and an EVENT; or there are too many -/
def spP (σ : Mm) (b : Nat) (T : Tab) (set : Int32) (n : Nat) : Int32 → Mm → Prop := fun _ σ' => FrN b σ σ' ∧ σ' b 11 = σ b 11 ∧ σ' b 12 = σ b 12 ∧ (BI σ' b T set (8 * (n + 1)) (n + 1) ∨ OV σ' b T set)
theorem nI_8 (n e : Nat) : nI n * 8 + nI e = nI (8 * n + e) := by rw [show (8 : Int32) = nI 8 from rfl, pk_mul, nI_add, Nat.mul_comm n 8]
theorem FrN.T1 {b : Nat} {σ σ' : Mm} (hb : 22 < b) (h : FrN b σ σ') : T1 σ' = T1 σ := T1_same (fun x hx => h x (by omega))
theorem FrN.MS {b : Nat} {σ σ' : Mm} {set : Int32} (hb : 22 < b) (h : FrN b σ σ') (hM : MS σ set) : MS σ' set := hM.same (fun x hx => h x (by omega))
theorem over_of {T : Tab} {set : Int32} {x : Nat} (hx : x < 1200) {c : Int32} (hn : nxt T set (csx T set x) x = some c) (hc : c ∉ csx T set x) (h : (csx T set x).length = 150) : Over T set := by
  have h1 : (csx T set (x + 1)).length = 151 := by rw [csx_some T set hn, if_neg hc, List.length_append, h]; rfl
  have h2 := csx_len T set (show x + 1 ≤ 1200 from hx)
  unfold Over
  omega
end
section
/-! NET.spreadFrom: the walk -/
theorem c_X3_spreadFrom {b : Nat} (hb : IsN b) (hb2 : 22 < b) {set : Int32} {σ : Mm} {n : Nat} (hM : MS σ set) (h0 : BI σ b (T1 σ) set (8 * n) n) (hn : n < (csx (T1 σ) set (8 * n)).length) (hA1 : σ b 11 = A1F σ set) (hA2 : σ b 12 = A2F σ set) : EV Γ1 3 yX3_spreadFrom cX3_spreadFrom 8 none [.inr b, .inl (nI n), .inr 4, .inl set] σ (spP σ b (T1 σ) set n) := by
  have g0 := hb.1
  have g1 := hb.2.1
  have g2 := hb.2.2.1
  have g3 := hb.2.2.2.1
  have g4 := hb.2.2.2.2.1
  have g5 := hb.2.2.2.2.2.1
  have hJ := h0.2.1
  have hJ2 := h0.2.2.1
  have hn150 : n < 150 := by omega
  have hcn : (nI n).toNatClampNeg = n := nI_clamp (by omega)
  have hvn : vp_in (nI n) 150 := vp_in_nI hn150 (by decide)
  obtain ⟨c, hc⟩ : ∃ c, (csx (T1 σ) set (8 * n))[n]? = some c := ⟨_, List.getElem?_eq_getElem hn⟩
  have hcc : σ (b + 1) n = c := h0.2.2.2.1 n c hc
  have hoc : okC c := csx_ok (T1 σ) set (fun m a b => (hM.2 m a b).1) _ c (List.mem_of_getElem? hc)
  -- too many: the rest of the EVENTS
  have over : ∀ (k e : Nat), e + k = 8 → ∀ (σ' : Mm) (p4 p5 y : Option Vl), FrN b σ σ' → σ' b 11 = σ b 11 → σ' b 12 = σ b 12 → σ' (b + 1) n = c → OV σ' b (T1 σ) set →
      AJ Γ1 3 RX3 cX3_spreadFrom 8 none (spP σ b (T1 σ) set n) 140 [some (.inr b), some (.inl (nI n)), some (.inr 4), some (.inl set), p4, p5, some (.inl (nI e)), y] [] σ' := by
    intro k
    induction k with
    | zero =>
      intro e he σ' p4 p5 y hF k1 k2 hcn' hO
      obtain rfl : e = 8 := by omega
      refine j_iload (pc := 140) dX3_spreadFrom_140 rfl ?_
      refine j_bipush (pc := 142) dX3_spreadFrom_142 (v := 8) (by decide) ?_
      refine j_icmp_ge (pc := 144) (tgt := 206) dX3_spreadFrom_144 rfl (fun h144 => ?_) (fun h144 => absurd (by decide) h144)
      refine j_vret (pc := 206) dX3_spreadFrom_206 ?_
      exact ⟨hF, k1, k2, Or.inr hO⟩
    | succ k ih =>
      intro e he σ' p4 p5 y hF k1 k2 hcn' hO
      have he8 : e < 8 := by omega
      have hx := nI_8 n e
      have hcx : (nI (8 * n + e)).toNatClampNeg = 8 * n + e := nI_clamp (by omega)
      have e1 : ∀ v, m_up σ' (b + 5) (8 * n + e) v (b + 1) = σ' (b + 1) := fun v => m_ne (by omega)
      have hJ' : m_up σ' (b + 5) (8 * n + e) (-9) b 13 = nI 150 := by rw [m_ne (by omega)]; exact hO.2.2.1
      have hT' : HT (m_up σ' (b + 5) (8 * n + e) (-9) (b + 1)) (m_up σ' (b + 5) (8 * n + e) (-9) (b + 8)) 150 := by rw [m_ne (by omega), m_ne (by omega)]; exact hO.2.2.2
      have hO1 : OV (m_up σ' (b + 5) (8 * n + e) (-9)) b (T1 σ) set := ⟨hO.1, by rw [m_ne (by omega)]; exact hO.2.1, hJ', hT'⟩
      refine j_iload (pc := 140) dX3_spreadFrom_140 rfl ?_
      refine j_bipush (pc := 142) dX3_spreadFrom_142 (v := 8) (by decide) ?_
      refine j_icmp_ge (pc := 144) (tgt := 206) dX3_spreadFrom_144 rfl (fun h144 => absurd h144 (nI_ge (b := 8) (by omega) (by decide))) (fun h144 => ?_)
      refine j_aload_n (pc := 147) dX3_spreadFrom_147 rfl ?_
      refine j_getR (pc := 148) dX3_spreadFrom_148 f_X3_25 (by first | rfl | with_reducible assumption) (by rfl) ?_
      refine j_iload_n (pc := 151) dX3_spreadFrom_151 rfl ?_
      refine j_bipush (pc := 152) dX3_spreadFrom_152 (v := 8) (by decide) ?_
      refine j_imul (pc := 154) dX3_spreadFrom_154 ?_
      refine j_iload (pc := 155) dX3_spreadFrom_155 rfl ?_
      refine j_iadd (pc := 157) dX3_spreadFrom_157 ?_
      refine j_top hx ?_
      refine j_bipush (pc := 158) dX3_spreadFrom_158 (v := (-9)) (by decide) ?_
      refine j_iast (pc := 160) dX3_spreadFrom_160 (by first | rfl | with_reducible assumption) (vp_in_nI (by omega) (by decide)) ?_
      rw [hcx]
      refine j_aload_n (pc := 161) dX3_spreadFrom_161 rfl ?_
      refine j_getR (pc := 162) dX3_spreadFrom_162 f_X3_15 (by first | rfl | with_reducible assumption) (by rfl) ?_
      refine j_iload_n (pc := 165) dX3_spreadFrom_165 rfl ?_
      refine j_iald (pc := 166) dX3_spreadFrom_166 (by first | rfl | with_reducible assumption) hvn ?_
      refine j_iload (pc := 167) dX3_spreadFrom_167 rfl ?_
      refine j_callSNi (pc := 169) dX3_spreadFrom_169 k_X3_78 (c_X7_isIn _ (j := e) (by omega) _) rfl (by decide) rfl (Nat.le_of_ble_eq_true rfl) (fun r σ1 hp => ?_)
      obtain ⟨rfl, hp⟩ := hp
      rcases hp with ⟨q169, rfl⟩ | ⟨q169, rfl⟩
      · refine j_if_eq (pc := 172) (tgt := 200) dX3_spreadFrom_172 rfl (fun h => absurd h (by decide)) (fun _ => ?_)
        refine j_aload_n (pc := 175) dX3_spreadFrom_175 rfl ?_
        refine j_iload_n (pc := 176) dX3_spreadFrom_176 rfl ?_
        refine j_iload (pc := 177) dX3_spreadFrom_177 rfl ?_
        refine j_aload_n (pc := 179) dX3_spreadFrom_179 rfl ?_
        refine j_aload_n (pc := 180) dX3_spreadFrom_180 rfl ?_
        refine j_aload_n (pc := 181) dX3_spreadFrom_181 rfl ?_
        refine j_getR (pc := 182) dX3_spreadFrom_182 f_X3_9 (by first | rfl | with_reducible assumption) (by rfl) ?_
        refine j_iload_n (pc := 185) dX3_spreadFrom_185 rfl ?_
        refine j_iald (pc := 186) dX3_spreadFrom_186 (by first | rfl | with_reducible assumption) hvn ?_
        refine j_top (y := c) (by rw [hcn, e1]; exact hcn') ?_
        refine j_iload (pc := 187) dX3_spreadFrom_187 rfl ?_
        refine j_aload_n (pc := 189) dX3_spreadFrom_189 rfl ?_
        refine j_iload_n (pc := 190) dX3_spreadFrom_190 rfl ?_
        refine j_callVi (pc := 191) dX3_spreadFrom_191 k_X3_99 (c_X3_codeBehind hb set hoc he8 _) (by first | rfl | with_reducible assumption) rfl rfl (by decide) rfl (Nat.le_of_ble_eq_true rfl) (fun r σ1 hp => ?_)
        obtain ⟨rfl, rfl⟩ := hp
        refine j_callVi (pc := 194) dX3_spreadFrom_194 k_X3_70 (c_X3_meet hb _ hJ' (Nat.le_refl _) hT') (by first | rfl | with_reducible assumption) rfl rfl (by decide) rfl (Nat.le_of_ble_eq_true rfl) (fun r σ1 hp => ?_)
        have hs1 : σ1 = m_up σ' (b + 5) (8 * n + e) (-9) := by
          rcases hp with ⟨j, -, -, -, q⟩ | ⟨-, q, -⟩ | ⟨-, -, -, q⟩
          · exact q
          · exact absurd q (by omega)
          · exact q
        subst hs1
        refine j_callVv (pc := 197) dX3_spreadFrom_197 k_X3_103 (c_X3_addEdge hb hn150 he8 _ hJ' (Nat.le_refl _)) (by first | rfl | with_reducible assumption) rfl rfl (by decide) rfl (Nat.le_of_ble_eq_true rfl) (fun σ1 hp => ?_)
        skip
        refine j_iinc1 (pc := 200) dX3_spreadFrom_200 rfl ?_
        refine j_goto (pc := 203) (tgt := 140) dX3_spreadFrom_203 rfl ?_
        rw [nI_1]
        first
          | exact ih (e + 1) (by omega) _ _ _ _ (hF.up (by omega)) (by rw [m_ne (by omega)]; exact k1) (by rw [m_ne (by omega)]; exact k2) (by rw [e1]; exact hcn') hO1
          | (rcases hp with ⟨-, rfl⟩ | ⟨j, -, -, rfl⟩
             · refine ih (e + 1) (by omega) _ _ _ _ ((hF.up (by omega)).up (by omega)) (by rw [m_nk (by decide), m_ne (by omega)]; exact k1) (by rw [m_nk (by decide), m_ne (by omega)]; exact k2) (by rw [m_ne (by omega), e1]; exact hcn') ⟨hO.1, m_eq _ _ _ _, by rw [m_nk (by decide)]; exact hJ', by rw [m_ne (show b + 1 ≠ b by omega), m_ne (show b + 8 ≠ b by omega)]; exact hT'⟩
             · refine ih (e + 1) (by omega) _ _ _ _ ((((hF.up (by omega)).up (by omega)).up (by omega)).up (by omega)) ?_ ?_ ?_ ⟨hO.1, ?_, ?_, ?_⟩
               all_goals simp only [m_ne (show b ≠ b + 5 by omega), m_ne (show b ≠ b + 6 by omega), m_ne (show b ≠ b + 7 by omega), m_ne (show b + 1 ≠ b + 5 by omega), m_ne (show b + 1 ≠ b + 6 by omega), m_ne (show b + 1 ≠ b + 7 by omega), m_ne (show b + 8 ≠ b + 5 by omega), m_ne (show b + 8 ≠ b + 6 by omega), m_ne (show b + 8 ≠ b + 7 by omega)]
               · exact k1
               · exact k2
               · exact hcn'
               · exact hO.2.1
               · exact hO.2.2.1
               · exact hO.2.2.2)
      · refine j_if_eq (pc := 172) (tgt := 200) dX3_spreadFrom_172 rfl (fun _ => ?_) (fun h => absurd h (by decide))
        refine j_iinc1 (pc := 200) dX3_spreadFrom_200 rfl ?_
        refine j_goto (pc := 203) (tgt := 140) dX3_spreadFrom_203 rfl ?_
        rw [nI_1]
        first
          | exact ih (e + 1) (by omega) _ _ _ _ (hF.up (by omega)) (by rw [m_ne (by omega)]; exact k1) (by rw [m_ne (by omega)]; exact k2) (by rw [e1]; exact hcn') hO1
          | (rcases hp with ⟨-, rfl⟩ | ⟨j, -, -, rfl⟩
             · refine ih (e + 1) (by omega) _ _ _ _ ((hF.up (by omega)).up (by omega)) (by rw [m_nk (by decide), m_ne (by omega)]; exact k1) (by rw [m_nk (by decide), m_ne (by omega)]; exact k2) (by rw [m_ne (by omega), e1]; exact hcn') ⟨hO.1, m_eq _ _ _ _, by rw [m_nk (by decide)]; exact hJ', by rw [m_ne (show b + 1 ≠ b by omega), m_ne (show b + 8 ≠ b by omega)]; exact hT'⟩
             · refine ih (e + 1) (by omega) _ _ _ _ ((((hF.up (by omega)).up (by omega)).up (by omega)).up (by omega)) ?_ ?_ ?_ ⟨hO.1, ?_, ?_, ?_⟩
               all_goals simp only [m_ne (show b ≠ b + 5 by omega), m_ne (show b ≠ b + 6 by omega), m_ne (show b ≠ b + 7 by omega), m_ne (show b + 1 ≠ b + 5 by omega), m_ne (show b + 1 ≠ b + 6 by omega), m_ne (show b + 1 ≠ b + 7 by omega), m_ne (show b + 8 ≠ b + 5 by omega), m_ne (show b + 8 ≠ b + 6 by omega), m_ne (show b + 8 ≠ b + 7 by omega)]
               · exact k1
               · exact k2
               · exact hcn'
               · exact hO.2.1
               · exact hO.2.2.1
               · exact hO.2.2.2)
  -- the EVENTS one by one
  have loop : ∀ (k e : Nat), e + k = 8 → ∀ (σ' : Mm) (p4 p5 y : Option Vl), FrN b σ σ' → σ' b 11 = σ b 11 → σ' b 12 = σ b 12 → BI σ' b (T1 σ) set (8 * n + e) (n + 1) →
      AJ Γ1 3 RX3 cX3_spreadFrom 8 none (spP σ b (T1 σ) set n) 140 [some (.inr b), some (.inl (nI n)), some (.inr 4), some (.inl set), p4, p5, some (.inl (nI e)), y] [] σ' := by
    intro k
    induction k with
    | zero =>
      intro e he σ' p4 p5 y hF k1 k2 hB
      obtain rfl : e = 8 := by omega
      refine j_iload (pc := 140) dX3_spreadFrom_140 rfl ?_
      refine j_bipush (pc := 142) dX3_spreadFrom_142 (v := 8) (by decide) ?_
      refine j_icmp_ge (pc := 144) (tgt := 206) dX3_spreadFrom_144 rfl (fun h144 => ?_) (fun h144 => absurd (by decide) h144)
      refine j_vret (pc := 206) dX3_spreadFrom_206 ?_
      exact ⟨hF, k1, k2, Or.inl (by rw [show 8 * (n + 1) = 8 * n + 8 by omega]; exact hB)⟩
    | succ k ih =>
      intro e he σ' p4 p5 y hF k1 k2 hB
      have he8 : e < 8 := by omega
      have hx := nI_8 n e
      have hcx : (nI (8 * n + e)).toNatClampNeg = 8 * n + e := nI_clamp (by omega)
      have hcs : (csx (T1 σ) set (8 * n + e))[n]? = some c := by rw [csx_get (T1 σ) set (show 8 * n ≤ 8 * n + e by omega) hn]; exact hc
      have hcn' : σ' (b + 1) n = c := hB.2.2.2.1 n c hcs
      have hnx : nxt (T1 σ) set (csx (T1 σ) set (8 * n + e)) (8 * n + e) = led (T1 σ) set c e := by
        unfold nxt
        rw [show (8 * n + e) / 8 = n by omega, show (8 * n + e) % 8 = e by omega, hcs]
        rfl
      have hrow := (hB.2.2.2.2.2.2.2 n c (by omega) hcs).1 e (by omega)
      rw [show (decide (e < 8) && leadB (T1 σ) set c e) = leadB (T1 σ) set c e by simp [he8], ← led_lead] at hrow
      have e1 : ∀ v, m_up σ' (b + 5) (8 * n + e) v (b + 1) = σ' (b + 1) := fun v => m_ne (by omega)
      have e2 : ∀ v, m_up σ' (b + 5) (8 * n + e) v (b + 2) = σ' (b + 2) := fun v => m_ne (by omega)
      have e8 : ∀ v, m_up σ' (b + 5) (8 * n + e) v (b + 8) = σ' (b + 8) := fun v => m_ne (by omega)
      have hJ' : m_up σ' (b + 5) (8 * n + e) (-9) b 13 = nI (csx (T1 σ) set (8 * n + e)).length := by rw [m_ne (by omega)]; exact hB.2.1
      have hT' : HT (m_up σ' (b + 5) (8 * n + e) (-9) (b + 1)) (m_up σ' (b + 5) (8 * n + e) (-9) (b + 8)) (csx (T1 σ) set (8 * n + e)).length := by rw [e1, e8]; exact hB.2.2.2.2.1
      have hF1 : FrN b σ (m_up σ' (b + 5) (8 * n + e) (-9)) := hF.up (by omega)
      have hget : ∀ j, j < (csx (T1 σ) set (8 * n + e)).length → (csx (T1 σ) set (8 * n + e))[j]? = some (σ' (b + 1) j) := fun j hj => by
        have := List.getElem?_eq_getElem hj
        rw [this, hB.2.2.2.1 j _ this]
      refine j_iload (pc := 140) dX3_spreadFrom_140 rfl ?_
      refine j_bipush (pc := 142) dX3_spreadFrom_142 (v := 8) (by decide) ?_
      refine j_icmp_ge (pc := 144) (tgt := 206) dX3_spreadFrom_144 rfl (fun h144 => absurd h144 (nI_ge (b := 8) (by omega) (by decide))) (fun h144 => ?_)
      refine j_aload_n (pc := 147) dX3_spreadFrom_147 rfl ?_
      refine j_getR (pc := 148) dX3_spreadFrom_148 f_X3_25 (by first | rfl | with_reducible assumption) (by rfl) ?_
      refine j_iload_n (pc := 151) dX3_spreadFrom_151 rfl ?_
      refine j_bipush (pc := 152) dX3_spreadFrom_152 (v := 8) (by decide) ?_
      refine j_imul (pc := 154) dX3_spreadFrom_154 ?_
      refine j_iload (pc := 155) dX3_spreadFrom_155 rfl ?_
      refine j_iadd (pc := 157) dX3_spreadFrom_157 ?_
      refine j_top hx ?_
      refine j_bipush (pc := 158) dX3_spreadFrom_158 (v := (-9)) (by decide) ?_
      refine j_iast (pc := 160) dX3_spreadFrom_160 (by first | rfl | with_reducible assumption) (vp_in_nI (by omega) (by decide)) ?_
      rw [hcx]
      refine j_aload_n (pc := 161) dX3_spreadFrom_161 rfl ?_
      refine j_getR (pc := 162) dX3_spreadFrom_162 f_X3_15 (by first | rfl | with_reducible assumption) (by rfl) ?_
      refine j_iload_n (pc := 165) dX3_spreadFrom_165 rfl ?_
      refine j_iald (pc := 166) dX3_spreadFrom_166 (by first | rfl | with_reducible assumption) hvn ?_
      refine j_top (y := σ' (b + 2) n) (by rw [hcn, e2]) ?_
      refine j_iload (pc := 167) dX3_spreadFrom_167 rfl ?_
      refine j_callSNi (pc := 169) dX3_spreadFrom_169 k_X3_78 (c_X7_isIn _ (j := e) (by omega) _) rfl (by decide) rfl (Nat.le_of_ble_eq_true rfl) (fun r σ1 hp => ?_)
      obtain ⟨rfl, hp⟩ := hp
      rcases hp with ⟨q169, rfl⟩ | ⟨q169, rfl⟩
      · have hsome : ∃ t, led (T1 σ) set c e = some t := by
          rw [hrow] at q169
          exact Option.isSome_iff_exists.mp q169
        obtain ⟨t, ht⟩ := hsome
        have hcb : cbF (T1 σ) set c e 6 = t := cb_led (fun m a b => (hM.2 m a b).1) hoc he8 ht
        rw [ht] at hnx
        refine j_if_eq (pc := 172) (tgt := 200) dX3_spreadFrom_172 rfl (fun h => absurd h (by decide)) (fun _ => ?_)
        refine j_aload_n (pc := 175) dX3_spreadFrom_175 rfl ?_
        refine j_iload_n (pc := 176) dX3_spreadFrom_176 rfl ?_
        refine j_iload (pc := 177) dX3_spreadFrom_177 rfl ?_
        refine j_aload_n (pc := 179) dX3_spreadFrom_179 rfl ?_
        refine j_aload_n (pc := 180) dX3_spreadFrom_180 rfl ?_
        refine j_aload_n (pc := 181) dX3_spreadFrom_181 rfl ?_
        refine j_getR (pc := 182) dX3_spreadFrom_182 f_X3_9 (by first | rfl | with_reducible assumption) (by rfl) ?_
        refine j_iload_n (pc := 185) dX3_spreadFrom_185 rfl ?_
        refine j_iald (pc := 186) dX3_spreadFrom_186 (by first | rfl | with_reducible assumption) hvn ?_
        refine j_top (y := c) (by rw [hcn, e1]; exact hcn') ?_
        refine j_iload (pc := 187) dX3_spreadFrom_187 rfl ?_
        refine j_aload_n (pc := 189) dX3_spreadFrom_189 rfl ?_
        refine j_iload_n (pc := 190) dX3_spreadFrom_190 rfl ?_
        refine j_callVi (pc := 191) dX3_spreadFrom_191 k_X3_99 (c_X3_codeBehind hb set hoc he8 _) (by first | rfl | with_reducible assumption) rfl rfl (by decide) rfl (Nat.le_of_ble_eq_true rfl) (fun r σ1 hp => ?_)
        obtain ⟨rfl, rfl⟩ := hp
        rw [hF1.T1 hb2, hcb]
        refine j_callVi (pc := 194) dX3_spreadFrom_194 k_X3_70 (c_X3_meet hb _ hJ' hB.2.2.1 hT') (by first | rfl | with_reducible assumption) rfl rfl (by decide) rfl (Nat.le_of_ble_eq_true rfl) (fun r σ1 hp => ?_)
        have hle := hB.2.2.1
        have hpost : ∀ σ2 : Mm, ((¬ vp_in r (csx (T1 σ) set (8 * n + e)).length ∧ False) ∨ True) → True := fun _ _ => trivial
        rcases hp with ⟨j, hj, hcj, rfl, rfl⟩ | ⟨hne, h150, rfl, i, hi, hHT, rfl⟩ | ⟨hne, h150, rfl, rfl⟩
        · refine j_callVv (pc := 197) dX3_spreadFrom_197 k_X3_103 (c_X3_addEdge hb hn150 he8 _ hJ' hB.2.2.1) g0 rfl rfl (by decide) rfl (Nat.le_of_ble_eq_true rfl) (fun σ1 hp => ?_)
          rcases hp with ⟨q, -⟩ | ⟨j', hj', hjj, rfl⟩
          · exact absurd (vp_in_nI hj (by omega)) q
          · obtain rfl : j = j' := (nI_eq (by omega) (by omega)).mp hjj
            refine j_iinc1 (pc := 200) dX3_spreadFrom_200 rfl ?_
            refine j_goto (pc := 203) (tgt := 140) dX3_spreadFrom_203 rfl ?_
            rw [nI_1, e1] at *
            have hB2 := hB.old hnx (j := j) (by rw [hget j hj, hcj])
            rw [show m_up σ' (b + 5) (8 * n + e) (-9) (b + 6) = σ' (b + 6) from m_ne (by omega)]
            refine ih (e + 1) (by omega) _ _ _ _ (((hF1.up (by omega)).up (by omega)).up (by omega)) ?_ ?_ hB2
            · simp only [m_ne (show b ≠ b + 5 by omega), m_ne (show b ≠ b + 6 by omega), m_ne (show b ≠ b + 7 by omega)]; exact k1
            · simp only [m_ne (show b ≠ b + 5 by omega), m_ne (show b ≠ b + 6 by omega), m_ne (show b ≠ b + 7 by omega)]; exact k2
        · have hcn2 : t ∉ csx (T1 σ) set (8 * n + e) := fun q => by
            obtain ⟨j, hj⟩ := List.getElem?_of_mem q
            have hjl := (List.getElem?_eq_some_iff.mp hj).1
            have := hne j hjl
            rw [e1] at this
            exact this (hB.2.2.2.1 j t hj)
          have hlen := csx_len (T1 σ) set (show 8 * n ≤ 8 * n + e by omega)
          refine j_callVv (pc := 197) dX3_spreadFrom_197 k_X3_103 (c_X3_addEdge hb hn150 he8 _ (J := (csx (T1 σ) set (8 * n + e)).length + 1) (by rw [m_ne (by omega), m_eq]) (by omega)) g0 rfl rfl (by decide) rfl (Nat.le_of_ble_eq_true rfl) (fun σ1 hp => ?_)
          rcases hp with ⟨q, -⟩ | ⟨j', hj', hjj, rfl⟩
          · exact absurd (vp_in_nI (by omega) (by omega)) q
          · obtain rfl : (csx (T1 σ) set (8 * n + e)).length = j' := (nI_eq (by omega) (by omega)).mp hjj
            refine j_iinc1 (pc := 200) dX3_spreadFrom_200 rfl ?_
            refine j_goto (pc := 203) (tgt := 140) dX3_spreadFrom_203 rfl ?_
            rw [nI_1]
            rw [e1, e8] at hHT
            have hB2 := hB.new hnx hcn2 rfl h150 (by omega) hHT rfl
            refine ih (e + 1) (by omega) _ _ _ _ (((((((hF1.up (by omega)).up (by omega)).up (by omega)).up (by omega)).up (by omega)).up (by omega)).up (by omega)) ?_ ?_ hB2
            · simp only [m_ne (show b ≠ b + 5 by omega), m_ne (show b ≠ b + 6 by omega), m_ne (show b ≠ b + 7 by omega), m_ne (show b ≠ b + 8 by omega), m_ne (show b ≠ b + 1 by omega), m_nk (show 11 ≠ 13 by decide)]; exact k1
            · simp only [m_ne (show b ≠ b + 5 by omega), m_ne (show b ≠ b + 6 by omega), m_ne (show b ≠ b + 7 by omega), m_ne (show b ≠ b + 8 by omega), m_ne (show b ≠ b + 1 by omega), m_nk (show 12 ≠ 13 by decide)]; exact k2
        · have hcn2 : t ∉ csx (T1 σ) set (8 * n + e) := fun q => by
            obtain ⟨j, hj⟩ := List.getElem?_of_mem q
            have hjl := (List.getElem?_eq_some_iff.mp hj).1
            have := hne j hjl
            rw [e1] at this
            exact this (hB.2.2.2.1 j t hj)
          have hov := over_of (by omega) hnx hcn2 h150
          rw [h150] at hJ' hT'
          refine j_callVv (pc := 197) dX3_spreadFrom_197 k_X3_103 (c_X3_addEdge hb hn150 he8 _ hJ' (Nat.le_refl _)) g0 rfl rfl (by decide) rfl (Nat.le_of_ble_eq_true rfl) (fun σ1 hp => ?_)
          rcases hp with ⟨-, rfl⟩ | ⟨j', hj', hjj, -⟩
          · refine j_iinc1 (pc := 200) dX3_spreadFrom_200 rfl ?_
            refine j_goto (pc := 203) (tgt := 140) dX3_spreadFrom_203 rfl ?_
            rw [nI_1]
            exact over k (e + 1) (by omega) _ _ _ _ (hF1.up (by omega)) (by rw [m_nk (by decide), m_ne (by omega)]; exact k1) (by rw [m_nk (by decide), m_ne (by omega)]; exact k2) (by rw [m_ne (by omega), e1]; exact hcn') ⟨hov, m_eq _ _ _ _, by rw [m_nk (by decide)]; exact hJ', by rw [m_ne (show b + 1 ≠ b by omega), m_ne (show b + 8 ≠ b by omega)]; exact hT'⟩
          · exact absurd hjj.symm (nI_z (by omega))
      · have hnone : led (T1 σ) set c e = none := by
          rw [hrow] at q169
          cases hl : led (T1 σ) set c e with
          | none => rfl
          | some t => rw [hl] at q169; exact absurd rfl q169
        refine j_if_eq (pc := 172) (tgt := 200) dX3_spreadFrom_172 rfl (fun _ => ?_) (fun h => absurd h (by decide))
        refine j_iinc1 (pc := 200) dX3_spreadFrom_200 rfl ?_
        refine j_goto (pc := 203) (tgt := 140) dX3_spreadFrom_203 rfl ?_
        rw [nI_1]
        exact ih (e + 1) (by omega) _ _ _ _ hF1 (by rw [m_ne (by omega)]; exact k1) (by rw [m_ne (by omega)]; exact k2) (hB.none (hnx.trans hnone))
  have fin : ∀ (w4 w5 : Int32) (p6 y : Option Vl), w4 = mpF σ set c 6 → w5 = mrF σ set c 6 → AJ Γ1 3 RX3 cX3_spreadFrom 8 none (spP σ b (T1 σ) set n) 81 [some (.inr b), some (.inl (nI n)), some (.inr 4), some (.inl set), some (.inl w4), some (.inl w5), p6, y] [] σ := by
    intro w4 w5 p6 y hw4 hw5
    subst hw4 hw5
    refine j_aload_n (pc := 81) dX3_spreadFrom_81 rfl ?_
    refine j_getR (pc := 82) dX3_spreadFrom_82 f_X3_21 (by first | rfl | with_reducible assumption) (by rfl) ?_
    refine j_iload_n (pc := 85) dX3_spreadFrom_85 rfl ?_
    refine j_aload_n (pc := 86) dX3_spreadFrom_86 rfl ?_
    refine j_aload_n (pc := 87) dX3_spreadFrom_87 rfl ?_
    refine j_getR (pc := 88) dX3_spreadFrom_88 f_X3_9 (by first | rfl | with_reducible assumption) (by rfl) ?_
    refine j_iload_n (pc := 91) dX3_spreadFrom_91 rfl ?_
    refine j_iald (pc := 92) dX3_spreadFrom_92 (by first | rfl | with_reducible assumption) hvn ?_
    refine j_top (y := c) (by rw [hcn]; exact hcc) ?_
    refine j_aload_n (pc := 93) dX3_spreadFrom_93 rfl ?_
    refine j_iload_n (pc := 94) dX3_spreadFrom_94 rfl ?_
    refine j_callVi (pc := 95) dX3_spreadFrom_95 k_X3_95 (c_X3_allMarked hb set c σ) (by first | rfl | with_reducible assumption) rfl rfl (by decide) rfl (Nat.le_of_ble_eq_true rfl) (fun r σ1 hp => ?_)
    obtain ⟨rfl, hp⟩ := hp
    rcases hp with ⟨q95, rfl⟩ | ⟨q95, rfl⟩
    · refine j_zast (pc := 98) dX3_spreadFrom_98 (by first | rfl | with_reducible assumption) hvn (Or.inr rfl) ?_
      rw [hcn]
      refine j_aload_n (pc := 99) dX3_spreadFrom_99 rfl ?_
      refine j_getR (pc := 100) dX3_spreadFrom_100 f_X3_15 (by first | rfl | with_reducible assumption) (by rfl) ?_
      refine j_iload_n (pc := 103) dX3_spreadFrom_103 rfl ?_
      refine j_aload_n (pc := 104) dX3_spreadFrom_104 rfl ?_
      refine j_getI (pc := 105) dX3_spreadFrom_105 f_X3_47 (by first | rfl | with_reducible assumption) (by rfl) ?_
      refine j_top (y := A1F σ set) (by rw [m_ne (by omega)]; exact hA1) ?_
      refine j_iload (pc := 108) dX3_spreadFrom_108 rfl ?_
      refine j_iconst (pc := 110) dX3_spreadFrom_110 (v := (-1)) (by decide) ?_
      refine j_ixor (pc := 111) dX3_spreadFrom_111 ?_
      refine j_iand (pc := 112) dX3_spreadFrom_112 ?_
      refine j_iload (pc := 113) dX3_spreadFrom_113 rfl ?_
      refine j_iconst (pc := 115) dX3_spreadFrom_115 (v := (-1)) (by decide) ?_
      refine j_ixor (pc := 116) dX3_spreadFrom_116 ?_
      refine j_iand (pc := 117) dX3_spreadFrom_117 ?_
      refine j_iast (pc := 118) dX3_spreadFrom_118 (by first | rfl | with_reducible assumption) hvn ?_
      rw [hcn]
      refine j_aload_n (pc := 119) dX3_spreadFrom_119 rfl ?_
      refine j_getR (pc := 120) dX3_spreadFrom_120 f_X3_18 (by first | rfl | with_reducible assumption) (by rfl) ?_
      refine j_iload_n (pc := 123) dX3_spreadFrom_123 rfl ?_
      refine j_aload_n (pc := 124) dX3_spreadFrom_124 rfl ?_
      refine j_getI (pc := 125) dX3_spreadFrom_125 f_X3_50 (by first | rfl | with_reducible assumption) (by rfl) ?_
      refine j_top (y := A2F σ set) (by rw [m_ne (by omega), m_ne (by omega)]; exact hA2) ?_
      refine j_iload (pc := 128) dX3_spreadFrom_128 rfl ?_
      refine j_iconst (pc := 130) dX3_spreadFrom_130 (v := (-1)) (by decide) ?_
      refine j_ixor (pc := 131) dX3_spreadFrom_131 ?_
      refine j_iand (pc := 132) dX3_spreadFrom_132 ?_
      refine j_iload (pc := 133) dX3_spreadFrom_133 rfl ?_
      refine j_iand (pc := 135) dX3_spreadFrom_135 ?_
      refine j_iast (pc := 136) dX3_spreadFrom_136 (by first | rfl | with_reducible assumption) hvn ?_
      rw [hcn]
      refine j_iconst (pc := 137) dX3_spreadFrom_137 (v := 0) (by decide) ?_
      refine j_istore (pc := 138) dX3_spreadFrom_138 (by decide) ?_
      have hB := h0.row hc (fun e he => lead_bits hM hoc he) (fun e he => clash_bits hM hoc he)
      first | rw [if_pos q95] at hB | rw [if_neg q95] at hB
      exact loop 8 0 rfl _ _ _ _ (((FrN.rf.up (by omega)).up (by omega)).up (by omega)) (by simp only [m_ne (show b ≠ b + 2 by omega), m_ne (show b ≠ b + 3 by omega), m_ne (show b ≠ b + 4 by omega)]) (by simp only [m_ne (show b ≠ b + 2 by omega), m_ne (show b ≠ b + 3 by omega), m_ne (show b ≠ b + 4 by omega)]) hB
    · refine j_zast (pc := 98) dX3_spreadFrom_98 (by first | rfl | with_reducible assumption) hvn (Or.inl rfl) ?_
      rw [hcn]
      refine j_aload_n (pc := 99) dX3_spreadFrom_99 rfl ?_
      refine j_getR (pc := 100) dX3_spreadFrom_100 f_X3_15 (by first | rfl | with_reducible assumption) (by rfl) ?_
      refine j_iload_n (pc := 103) dX3_spreadFrom_103 rfl ?_
      refine j_aload_n (pc := 104) dX3_spreadFrom_104 rfl ?_
      refine j_getI (pc := 105) dX3_spreadFrom_105 f_X3_47 (by first | rfl | with_reducible assumption) (by rfl) ?_
      refine j_top (y := A1F σ set) (by rw [m_ne (by omega)]; exact hA1) ?_
      refine j_iload (pc := 108) dX3_spreadFrom_108 rfl ?_
      refine j_iconst (pc := 110) dX3_spreadFrom_110 (v := (-1)) (by decide) ?_
      refine j_ixor (pc := 111) dX3_spreadFrom_111 ?_
      refine j_iand (pc := 112) dX3_spreadFrom_112 ?_
      refine j_iload (pc := 113) dX3_spreadFrom_113 rfl ?_
      refine j_iconst (pc := 115) dX3_spreadFrom_115 (v := (-1)) (by decide) ?_
      refine j_ixor (pc := 116) dX3_spreadFrom_116 ?_
      refine j_iand (pc := 117) dX3_spreadFrom_117 ?_
      refine j_iast (pc := 118) dX3_spreadFrom_118 (by first | rfl | with_reducible assumption) hvn ?_
      rw [hcn]
      refine j_aload_n (pc := 119) dX3_spreadFrom_119 rfl ?_
      refine j_getR (pc := 120) dX3_spreadFrom_120 f_X3_18 (by first | rfl | with_reducible assumption) (by rfl) ?_
      refine j_iload_n (pc := 123) dX3_spreadFrom_123 rfl ?_
      refine j_aload_n (pc := 124) dX3_spreadFrom_124 rfl ?_
      refine j_getI (pc := 125) dX3_spreadFrom_125 f_X3_50 (by first | rfl | with_reducible assumption) (by rfl) ?_
      refine j_top (y := A2F σ set) (by rw [m_ne (by omega), m_ne (by omega)]; exact hA2) ?_
      refine j_iload (pc := 128) dX3_spreadFrom_128 rfl ?_
      refine j_iconst (pc := 130) dX3_spreadFrom_130 (v := (-1)) (by decide) ?_
      refine j_ixor (pc := 131) dX3_spreadFrom_131 ?_
      refine j_iand (pc := 132) dX3_spreadFrom_132 ?_
      refine j_iload (pc := 133) dX3_spreadFrom_133 rfl ?_
      refine j_iand (pc := 135) dX3_spreadFrom_135 ?_
      refine j_iast (pc := 136) dX3_spreadFrom_136 (by first | rfl | with_reducible assumption) hvn ?_
      rw [hcn]
      refine j_iconst (pc := 137) dX3_spreadFrom_137 (v := 0) (by decide) ?_
      refine j_istore (pc := 138) dX3_spreadFrom_138 (by decide) ?_
      have hB := h0.row hc (fun e he => lead_bits hM hoc he) (fun e he => clash_bits hM hoc he)
      first | rw [if_pos q95] at hB | rw [if_neg q95] at hB
      exact loop 8 0 rfl _ _ _ _ (((FrN.rf.up (by omega)).up (by omega)).up (by omega)) (by simp only [m_ne (show b ≠ b + 2 by omega), m_ne (show b ≠ b + 3 by omega), m_ne (show b ≠ b + 4 by omega)]) (by simp only [m_ne (show b ≠ b + 2 by omega), m_ne (show b ≠ b + 3 by omega), m_ne (show b ≠ b + 4 by omega)]) hB
  have first : ∀ (k m : Nat), m + k = 6 → ∀ (w4 w5 : Int32) (y : Option Vl), w4 = mpF σ set c m → w5 = mrF σ set c m → AJ Γ1 3 RX3 cX3_spreadFrom 8 none (spP σ b (T1 σ) set n) 9 [some (.inr b), some (.inl (nI n)), some (.inr 4), some (.inl set), some (.inl w4), some (.inl w5), some (.inl (nI m)), y] [] σ := by
    intro k
    induction k with
    | zero =>
      intro m hm w4 w5 y hw4 hw5
      obtain rfl : m = 6 := by omega
      refine j_iload (pc := 9) dX3_spreadFrom_9 rfl ?_
      refine j_aload_n (pc := 11) dX3_spreadFrom_11 rfl ?_
      refine j_alen (pc := 12) dX3_spreadFrom_12 (by first | rfl | with_reducible assumption) (v := _) (by rfl) ?_
      refine j_icmp_ge (pc := 13) (tgt := 81) dX3_spreadFrom_13 rfl (fun h13 => ?_) (fun h13 => absurd (by decide) h13)
      exact fin _ _ _ _ hw4 hw5
    | succ k ih =>
      intro m hm w4 w5 y hw4 hw5
      have hm6 : m < 6 := by omega
      obtain ⟨⟨gM0, gM1, gM2⟩, gL⟩ := isM_at hm6
      have hcl : (nI m).toNatClampNeg = m := nI_clamp (by omega)
      refine j_iload (pc := 9) dX3_spreadFrom_9 rfl ?_
      refine j_aload_n (pc := 11) dX3_spreadFrom_11 rfl ?_
      refine j_alen (pc := 12) dX3_spreadFrom_12 (by first | rfl | with_reducible assumption) (v := _) (by rfl) ?_
      refine j_icmp_ge (pc := 13) (tgt := 81) dX3_spreadFrom_13 rfl (fun h13 => absurd h13 (nI_ge (b := 6) (by omega) (by decide))) (fun h13 => ?_)
      refine j_iload_n (pc := 16) dX3_spreadFrom_16 rfl ?_
      refine j_iload (pc := 17) dX3_spreadFrom_17 rfl ?_
      refine j_ishr (pc := 19) dX3_spreadFrom_19 ?_
      refine j_if_eq (pc := 20) (tgt := 81) dX3_spreadFrom_20 rfl (fun h20 => ?_) (fun h20 => ?_)
      · have hst := set_stop (by omega) h20
        refine fin _ _ _ _ ?_ ?_
        · rw [hw4]; exact (or_stop _ _ (show m ≤ 6 by omega) (fun k a b => by simp [hst k a (by omega)])).symm
        · rw [hw5]; exact (or_stop _ _ (show m ≤ 6 by omega) (fun k a b => by simp [hst k a (by omega)])).symm
      · refine j_iload_n (pc := 23) dX3_spreadFrom_23 rfl ?_
        refine j_iload (pc := 24) dX3_spreadFrom_24 rfl ?_
        refine j_callSNi (pc := 26) dX3_spreadFrom_26 k_X3_78 (c_X7_isIn set (j := m) (by omega) _) rfl (by decide) rfl (Nat.le_of_ble_eq_true rfl) (fun r σ1 hp => ?_)
        obtain ⟨rfl, hp⟩ := hp
        rcases hp with ⟨q26, rfl⟩ | ⟨q26, rfl⟩
        · refine j_if_eq (pc := 29) (tgt := 75) dX3_spreadFrom_29 rfl (fun h => absurd h (by decide)) (fun _ => ?_)
          refine j_aload_n (pc := 32) dX3_spreadFrom_32 rfl ?_
          refine j_iload (pc := 33) dX3_spreadFrom_33 rfl ?_
          refine j_aald (pc := 35) dX3_spreadFrom_35 (by first | rfl | with_reducible assumption) (vp_in_nI hm6 (by decide)) (by rw [hcl]; exact gL) ?_
          refine j_aload_n (pc := 36) dX3_spreadFrom_36 rfl ?_
          refine j_iload_n (pc := 37) dX3_spreadFrom_37 rfl ?_
          refine j_iload (pc := 38) dX3_spreadFrom_38 rfl ?_
          refine j_callVi (pc := 40) dX3_spreadFrom_40 k_X3_88 (c_X3_stateIn hb hJ hJ2 hn) (by first | rfl | with_reducible assumption) rfl rfl (by decide) rfl (Nat.le_of_ble_eq_true rfl) (fun r σ1 hp => ?_)
          obtain ⟨rfl, rfl⟩ := hp
          refine j_top (y := nI (stN c m)) (by rw [hcc]; exact (st_n c m).1) ?_
          refine j_callVNi (pc := 43) dX3_spreadFrom_43 k_X3_92 (c_X2_missingSet ⟨gM0, gM1, gM2⟩ (hoc m hm6) _) (by first | rfl | with_reducible assumption) rfl rfl (by decide) rfl (Nat.le_of_ble_eq_true rfl) (fun r σ1 hp => ?_)
          obtain ⟨rfl, rfl⟩ := hp
          refine j_istore (pc := 46) dX3_spreadFrom_46 (by decide) ?_
          refine j_aload_n (pc := 48) dX3_spreadFrom_48 rfl ?_
          refine j_iload (pc := 49) dX3_spreadFrom_49 rfl ?_
          refine j_aald (pc := 51) dX3_spreadFrom_51 (by first | rfl | with_reducible assumption) (vp_in_nI hm6 (by decide)) (by rw [hcl]; exact gL) ?_
          refine j_getI (pc := 52) dX3_spreadFrom_52 f_X3_85 (by first | rfl | with_reducible assumption) (by rfl) ?_
          refine j_if_ne (pc := 55) (tgt := 68) dX3_spreadFrom_55 rfl (fun h55 => ?_) (fun h55 => ?_)
          · have hpl : isPl (T1 σ) m = false := decide_eq_false (by rw [t1k hm6]; exact h55)
            refine j_iload (pc := 68) dX3_spreadFrom_68 rfl ?_
            refine j_iload (pc := 70) dX3_spreadFrom_70 rfl ?_
            refine j_ior (pc := 72) dX3_spreadFrom_72 ?_
            refine j_istore (pc := 73) dX3_spreadFrom_73 (by decide) ?_
            refine j_iinc1 (pc := 75) dX3_spreadFrom_75 rfl ?_
            refine j_goto (pc := 78) (tgt := 9) dX3_spreadFrom_78 rfl ?_
            rw [nI_1]
            refine ih (m + 1) (by omega) _ _ _ ?_ ?_
            · first | (simp [mpF, orF, q26, hpl, hw4, msF]; done) | (simp [mpF, orF, q26, hw4]; done)
            · first | (simp [mrF, orF, q26, hpl, hw5, msF]; done) | (simp [mrF, orF, q26, hw5]; done)
          · have hpl : isPl (T1 σ) m = true := decide_eq_true (by rw [t1k hm6]; exact h55)
            refine j_iload (pc := 58) dX3_spreadFrom_58 rfl ?_
            refine j_iload (pc := 60) dX3_spreadFrom_60 rfl ?_
            refine j_ior (pc := 62) dX3_spreadFrom_62 ?_
            refine j_istore (pc := 63) dX3_spreadFrom_63 (by decide) ?_
            refine j_goto (pc := 65) (tgt := 75) dX3_spreadFrom_65 rfl ?_
            refine j_iinc1 (pc := 75) dX3_spreadFrom_75 rfl ?_
            refine j_goto (pc := 78) (tgt := 9) dX3_spreadFrom_78 rfl ?_
            rw [nI_1]
            refine ih (m + 1) (by omega) _ _ _ ?_ ?_
            · first | (simp [mpF, orF, q26, hpl, hw4, msF]; done) | (simp [mpF, orF, q26, hw4]; done)
            · first | (simp [mrF, orF, q26, hpl, hw5, msF]; done) | (simp [mrF, orF, q26, hw5]; done)
        · refine j_if_eq (pc := 29) (tgt := 75) dX3_spreadFrom_29 rfl (fun _ => ?_) (fun h => absurd h (by decide))
          refine j_iinc1 (pc := 75) dX3_spreadFrom_75 rfl ?_
          refine j_goto (pc := 78) (tgt := 9) dX3_spreadFrom_78 rfl ?_
          rw [nI_1]
          refine ih (m + 1) (by omega) _ _ _ ?_ ?_
          · first | (simp [mpF, orF, q26, hpl, hw4, msF]; done) | (simp [mpF, orF, q26, hw4]; done)
          · first | (simp [mrF, orF, q26, hpl, hw5, msF]; done) | (simp [mrF, orF, q26, hw5]; done)
  refine EV.intro (by decide +kernel) (Nat.le_of_ble_eq_true rfl) ?_
  refine j_iconst (pc := 0) dX3_spreadFrom_0 (v := 0) (by decide) ?_
  refine j_istore (pc := 1) dX3_spreadFrom_1 (by decide) ?_
  refine j_iconst (pc := 3) dX3_spreadFrom_3 (v := 0) (by decide) ?_
  refine j_istore (pc := 4) dX3_spreadFrom_4 (by decide) ?_
  refine j_iconst (pc := 6) dX3_spreadFrom_6 (v := 0) (by decide) ?_
  refine j_istore (pc := 7) dX3_spreadFrom_7 (by decide) ?_
  exact first 6 0 rfl _ _ none rfl rfl
end
section
/-! NET.join -/
def NB (σ : Mm) (b : Nat) (T : Tab) (set : Int32) : Prop := ∃ J, J ≤ 150 ∧ csx T set 1200 = csx T set (8 * J) ∧ (csx T set (8 * J)).length = J ∧ BI σ b T set (8 * J) J
def joinP (σ : Mm) (b : Nat) (T : Tab) (set : Int32) : Int32 → Mm → Prop := fun _ σ' => FrN b σ σ' ∧ ((Over T set ∧ σ' b 13 = 0 ∧ σ' b 14 = 1) ∨ (¬ Over T set ∧ NB σ' b T set))
theorem BI.start {σ : Mm} {b : Nat} {T : Tab} {set : Int32} (h1 : σ b 14 = 0) (h2 : σ b 13 = nI 1) (h3 : σ (b + 1) 0 = 0) (h4 : HT (σ (b + 1)) (σ (b + 8)) 1) (h5 : σ (b + 6) 0 = -9) : BI σ b T set (8 * 0) 0 := by
  refine ⟨h1, h2, (show 1 ≤ 150 by decide), fun j c hj => ?_, h4, fun y hy => absurd hy (Nat.not_lt_zero _), fun j hj => ?_, fun n c hn => absurd hn (Nat.not_lt_zero _)⟩
  · have : j = 0 ∧ c = 0 := by
      match j, hj with
      | 0, hj => exact ⟨rfl, by simpa [csx] using hj.symm⟩
      | j + 1, hj => simp [csx] at hj
    rw [this.1, this.2]
    exact h3
  · have : j = 0 := by simp [csx] at hj; exact hj
    subst this
    exact h5
theorem c_X3_join {b : Nat} (hb : IsN b) (hb2 : 22 < b) {set : Int32} {σ : Mm} (hM : MS σ set) : EV Γ1 4 yX3_join cX3_join 4 none [.inr b, .inr 4, .inl set] σ (joinP σ b (T1 σ) set) := by
  have g0 := hb.1
  have g8 := hb.2.2.2.2.2.2.2.2.1
  have outO : ∀ (σ' : Mm) (y : Option Vl), FrN b σ σ' → OV σ' b (T1 σ) set → AJ Γ1 4 RX3 cX3_join 4 none (joinP σ b (T1 σ) set) 68 [some (.inr b), some (.inr 4), some (.inl set), y] [] σ' := by
    intro σ' y hF hO
    refine j_aload_n (pc := 68) dX3_join_68 rfl ?_
    refine j_getI (pc := 69) dX3_join_69 f_X3_56 (by first | rfl | with_reducible assumption) (by rfl) ?_
    refine j_if_eq (pc := 72) (tgt := 80) dX3_join_72 rfl (fun h72 => absurd (hO.2.1.symm.trans h72) (by decide)) (fun h72 => ?_)
    refine j_aload_n (pc := 75) dX3_join_75 rfl ?_
    refine j_iconst (pc := 76) dX3_join_76 (v := 0) (by decide) ?_
    refine j_put (pc := 77) dX3_join_77 f_X3_53 (by first | rfl | with_reducible assumption) (by rfl) ?_
    refine j_vret (pc := 80) dX3_join_80 ?_
    exact ⟨hF.up (by omega), Or.inl ⟨hO.1, m_eq _ _ _ _, by rw [m_nk (by decide)]; exact hO.2.1⟩⟩
  have outK : ∀ (σ' : Mm) (y : Option Vl) (n : Nat), FrN b σ σ' → BI σ' b (T1 σ) set (8 * n) n → n = (csx (T1 σ) set (8 * n)).length → AJ Γ1 4 RX3 cX3_join 4 none (joinP σ b (T1 σ) set) 68 [some (.inr b), some (.inr 4), some (.inl set), y] [] σ' := by
    intro σ' y n hF hB hn
    have hle := hB.2.2.1
    have hst := csx_stop (T1 σ) set (x := 8 * n) (by omega) 1200 (by omega)
    refine j_aload_n (pc := 68) dX3_join_68 rfl ?_
    refine j_getI (pc := 69) dX3_join_69 f_X3_56 (by first | rfl | with_reducible assumption) (by rfl) ?_
    refine j_if_eq (pc := 72) (tgt := 80) dX3_join_72 rfl (fun h72 => ?_) (fun h72 => absurd hB.1 h72)
    refine j_vret (pc := 80) dX3_join_80 ?_
    refine ⟨hF, Or.inr ⟨?_, n, by omega, hst, hn.symm, hB⟩⟩
    unfold Over
    rw [hst]
    omega
  have loop : ∀ (k n : Nat) (σ' : Mm), n + k = 150 → FrN b σ σ' → σ' b 11 = A1F σ set → σ' b 12 = A2F σ set → BI σ' b (T1 σ) set (8 * n) n → n ≤ (csx (T1 σ) set (8 * n)).length → AJ Γ1 4 RX3 cX3_join 4 none (joinP σ b (T1 σ) set) 33 [some (.inr b), some (.inr 4), some (.inl set), some (.inl (nI n))] [] σ' := by
    intro k
    induction k with
    | zero =>
      intro n σ' hk hF k1 k2 hB hn
      obtain rfl : n = 150 := by omega
      have hle := hB.2.2.1
      refine j_iload_n (pc := 33) dX3_join_33 rfl ?_
      refine j_aload_n (pc := 34) dX3_join_34 rfl ?_
      refine j_getI (pc := 35) dX3_join_35 f_X3_53 (by first | rfl | with_reducible assumption) (by rfl) ?_
      refine j_top hB.2.1 ?_
      refine j_icmp_ge (pc := 38) (tgt := 68) dX3_join_38 rfl (fun h38 => ?_) (fun h38 => absurd (nI_le (by omega) (by omega)) h38)
      exact outK _ _ 150 hF hB (by omega)
    | succ k ih =>
      intro n σ' hk hF k1 k2 hB hn
      have hle := hB.2.2.1
      have ht := hF.T1 hb2
      refine j_iload_n (pc := 33) dX3_join_33 rfl ?_
      refine j_aload_n (pc := 34) dX3_join_34 rfl ?_
      refine j_getI (pc := 35) dX3_join_35 f_X3_53 (by first | rfl | with_reducible assumption) (by rfl) ?_
      refine j_top hB.2.1 ?_
      refine j_icmp_ge (pc := 38) (tgt := 68) dX3_join_38 rfl (fun h38 => ?_) (fun h38 => ?_)
      · have hnJ := (nI_leI (by omega) (by omega)).mp h38
        exact outK _ _ n hF hB (by omega)
      · have hnJ : n < (csx (T1 σ) set (8 * n)).length := by
          have : ¬ (csx (T1 σ) set (8 * n)).length ≤ n := fun q => h38 ((nI_leI (by omega) (by omega)).mpr q)
          omega
        refine j_iload_n (pc := 41) dX3_join_41 rfl ?_
        refine j_sipush (pc := 42) dX3_join_42 (v := 150) (by decide) ?_
        refine j_icmp_ge (pc := 45) (tgt := 68) dX3_join_45 rfl (fun h45 => absurd h45 (nI_ge (b := 150) (by omega) (by decide))) (fun h45 => ?_)
        refine j_aload_n (pc := 48) dX3_join_48 rfl ?_
        refine j_getI (pc := 49) dX3_join_49 f_X3_56 (by first | rfl | with_reducible assumption) (by rfl) ?_
        refine j_if_ne (pc := 52) (tgt := 68) dX3_join_52 rfl (fun h52 => absurd hB.1 h52) (fun h52 => ?_)
        refine j_aload_n (pc := 55) dX3_join_55 rfl ?_
        refine j_iload_n (pc := 56) dX3_join_56 rfl ?_
        refine j_aload_n (pc := 57) dX3_join_57 rfl ?_
        refine j_iload_n (pc := 58) dX3_join_58 rfl ?_
        refine j_callVv (pc := 59) dX3_join_59 k_X3_74 (c_X3_spreadFrom hb hb2 (hF.MS hb2 hM) (n := n) (by rw [ht]; exact hB) (by rw [ht]; exact hnJ) (by rw [k1]; unfold A1F; rw [ht]) (by rw [k2]; unfold A2F; rw [ht])) (by first | rfl | with_reducible assumption) rfl rfl (by decide) rfl (Nat.le_of_ble_eq_true rfl) (fun σ1 hp => ?_)
        rw [ht] at hp
        obtain ⟨hF2, l1, l2, hp⟩ := hp
        have hlen := csx_len (T1 σ) set (show 8 * n ≤ 8 * (n + 1) by omega)
        refine j_iinc1 (pc := 62) dX3_join_62 rfl ?_
        refine j_goto (pc := 65) (tgt := 33) dX3_join_65 rfl ?_
        rw [nI_1]
        rcases hp with hp | hp
        · exact ih (n + 1) _ (by omega) (hF.tr hF2) (l1.trans k1) (l2.trans k2) hp (by omega)
        · have hO : AJ Γ1 4 RX3 cX3_join 4 none (joinP σ b (T1 σ) set) 33 [some (.inr b), some (.inr 4), some (.inl set), some (.inl (nI (n + 1)))] [] σ1 := by
            refine j_iload_n (pc := 33) dX3_join_33 rfl ?_
            refine j_aload_n (pc := 34) dX3_join_34 rfl ?_
            refine j_getI (pc := 35) dX3_join_35 f_X3_53 (by first | rfl | assumption) (by rfl) ?_
            refine j_icmp_ge (pc := 38) (tgt := 68) dX3_join_38 rfl (fun h38 => outO _ _ (hF.tr hF2) hp) (fun h38 => ?_)
            refine j_iload_n (pc := 41) dX3_join_41 rfl ?_
            refine j_sipush (pc := 42) dX3_join_42 (v := 150) (by decide) ?_
            refine j_icmp_ge (pc := 45) (tgt := 68) dX3_join_45 rfl (fun h45 => outO _ _ (hF.tr hF2) hp) (fun h45 => ?_)
            refine j_aload_n (pc := 48) dX3_join_48 rfl ?_
            refine j_getI (pc := 49) dX3_join_49 f_X3_56 (by first | rfl | assumption) (by rfl) ?_
            exact j_if_ne (pc := 52) (tgt := 68) dX3_join_52 rfl (fun h52 => outO _ _ (hF.tr hF2) hp) (fun h52 => absurd (hp.2.1.symm.trans h52) (by decide))
          exact hO
  refine EV.intro (by decide +kernel) (Nat.le_of_ble_eq_true rfl) ?_
  refine j_aload_n (pc := 0) dX3_join_0 rfl ?_
  refine j_iconst (pc := 1) dX3_join_1 (v := 0) (by decide) ?_
  refine j_put (pc := 2) dX3_join_2 f_X3_53 (by first | rfl | with_reducible assumption) (by rfl) ?_
  refine j_aload_n (pc := 5) dX3_join_5 rfl ?_
  refine j_iconst (pc := 6) dX3_join_6 (v := 0) (by decide) ?_
  refine j_putZ (pc := 7) dX3_join_7 f_X3_56 (by first | rfl | with_reducible assumption) (by rfl) (Or.inl rfl) ?_
  refine j_aload_n (pc := 10) dX3_join_10 rfl ?_
  refine j_getR (pc := 11) dX3_join_11 f_X3_34 (by first | rfl | with_reducible assumption) (by rfl) ?_
  refine j_bipush (pc := 14) dX3_join_14 (v := (-9)) (by decide) ?_
  refine j_callSv (pc := 16) dX3_join_16 k_X3_60 (c_fill g8 (by decide) _ _) rfl (by decide) rfl (Nat.le_of_ble_eq_true rfl) (fun σ1 hp => ?_)
  obtain rfl := hp
  refine j_aload_n (pc := 19) dX3_join_19 rfl ?_
  refine j_aload_n (pc := 20) dX3_join_20 rfl ?_
  refine j_iload_n (pc := 21) dX3_join_21 rfl ?_
  refine j_callVv (pc := 22) dX3_join_22 k_X3_66 (c_X3_gather hb hb2 set hM.1 _) (by first | rfl | with_reducible assumption) rfl rfl (by decide) rfl (Nat.le_of_ble_eq_true rfl) (fun σ1 hp => ?_)
  obtain rfl := hp
  have ht0 : T1 (m_fill (m_up (m_up σ b 13 0) b 14 0) (b + 8) 256 (-9)) = T1 σ := T1_same (fun x hx => by simp [m_fill, m_up, show x ≠ b + 8 by omega, show x ≠ b by omega])
  rw [ht0]
  refine j_aload_n (pc := 25) dX3_join_25 rfl ?_
  refine j_iconst (pc := 26) dX3_join_26 (v := 0) (by decide) ?_
  refine j_callVi (pc := 27) dX3_join_27 k_X3_70 (c_X3_meet hb 0 (J := 0) (by simp [gm, m_fill, m_up, upd]; rfl) (by decide) (HT.empty _ (fun i hi => by simp [gm, m_fill, m_up, hi]))) (by first | rfl | with_reducible assumption) rfl rfl (by decide) rfl (Nat.le_of_ble_eq_true rfl) (fun r σ1 hp => ?_)
  obtain ⟨j, hj, -⟩ | ⟨-, -, -, i, hi, hHT, rfl⟩ | ⟨-, hj, -⟩ := hp
  · exact absurd hj (Nat.not_lt_zero _)
  rotate_left
  · exact absurd hj (by decide)
  refine j_pop (pc := 30) dX3_join_30 ?_
  refine j_iconst (pc := 31) dX3_join_31 (v := 0) (by decide) ?_
  refine j_istore_n (pc := 32) dX3_join_32 (by decide) ?_
  refine loop 150 0 _ rfl ?_ ?_ ?_ (BI.start ?_ ?_ ?_ ?_ ?_) (Nat.zero_le _)
  · intro x hx
    simp [gm, m_fill, m_up, show x ≠ b + 8 by omega, show x ≠ b by omega, show x ≠ b + 1 by omega, show x ≠ b + 6 by omega]
  · simp [gm, m_up, upd, A1F]
  · simp [gm, m_up, upd, A2F]
  · simp [gm, m_fill, m_up, upd]
  · simp [m_up, upd]
  · simp [m_up, upd]
  · have := hHT
    simp only [m_row, m_ne (show b + 1 ≠ b + 8 by omega), m_ne (show b + 1 ≠ b by omega), m_ne (show b + 1 ≠ b + 6 by omega), m_ne (show b + 8 ≠ b by omega), m_ne (show b + 8 ≠ b + 6 by omega), m_ne (show b + 8 ≠ b + 1 by omega)]
    exact this
  · simp [m_up, upd]
end
section
/-! WAYS TO BE FINISHED. J JOINTS; tg (at 8 n + e) where an EVENT LEADS (-9: nowhere); fn which are FINISHED; al over which one may go -/
def Rk (J : Nat) (tg : Nat → Int32) (fn al : Nat → Bool) : Nat → Nat → Prop
  | 0, n => n < J ∧ al n = true ∧ fn n = true
  | k + 1, n => Rk J tg fn al k n ∨ (n < J ∧ al n = true ∧ ∃ e m : Nat, e < 8 ∧ tg (8 * n + e) = nI m ∧ Rk J tg fn al k m)
theorem Rk.lt {J : Nat} {tg : Nat → Int32} {fn al : Nat → Bool} {k n : Nat} (h : Rk J tg fn al k n) : n < J ∧ al n = true := by
  induction k generalizing n with
  | zero => exact ⟨h.1, h.2.1⟩
  | succ k ih =>
    rcases h with h | h
    · exact ih h
    · exact ⟨h.1, h.2.1⟩
theorem Rk.mono {J : Nat} {tg : Nat → Int32} {fn al : Nat → Bool} {k k' n : Nat} (h : Rk J tg fn al k n) (hk : k ≤ k') : Rk J tg fn al k' n := by
  induction hk with
  | refl => exact h
  | step _ ih => exact Or.inl ih
/-- how far a JOINT is from a FINISHED one -/
def isFar (J : Nat) (tg : Nat → Int32) (fn al : Nat → Bool) (n : Nat) (v : Int32) : Prop := (∃ k, k < 150 ∧ v = nI k ∧ Rk J tg fn al k n ∧ ∀ j, j < k → ¬ Rk J tg fn al j n) ∨ (v = -9 ∧ ∀ k, ¬ Rk J tg fn al k n)
theorem isFar.uniq {J : Nat} {tg : Nat → Int32} {fn al : Nat → Bool} {n : Nat} {v w : Int32} (h1 : isFar J tg fn al n v) (h2 : isFar J tg fn al n w) : v = w := by
  rcases h1 with ⟨k, -, rfl, a1, a2⟩ | ⟨rfl, a⟩
  · rcases h2 with ⟨k', -, rfl, b1, b2⟩ | ⟨rfl, b⟩
    · rcases Nat.lt_trichotomy k k' with q | q | q
      · exact absurd a1 (b2 k q)
      · rw [q]
      · exact absurd b1 (a2 k' q)
    · exact absurd a1 (b k)
  · rcases h2 with ⟨k', -, rfl, b1, b2⟩ | ⟨rfl, b⟩
    · exact absurd b1 (a k')
    · rfl
/-- how many of the first N aren't NONE -/
def cntF (F : Nat → Int32) (N : Nat) : Nat := ((List.range N).filter (fun n => decide (F n ≠ -9))).length
theorem cnt_S (F : Nat → Int32) (N : Nat) : cntF F (N + 1) = cntF F N + (if F N = -9 then 0 else 1) := by
  unfold cntF
  rw [List.range_succ, List.filter_append, List.length_append]
  by_cases h : F N = -9 <;> simp [h]
theorem cnt_ge (F : Nat → Int32) (n : Nat) (v : Int32) : ∀ N, N ≤ n → cntF (upd F n v) N = cntF F N := by
  intro N
  induction N with
  | zero => intro _; rfl
  | succ N ih =>
    intro h
    rw [cnt_S, cnt_S, ih (by omega), pk_un (by omega)]
theorem cnt_upd {F : Nat → Int32} {n : Nat} {v : Int32} (h0 : F n = -9) (hv : v ≠ -9) : ∀ N, n < N → cntF (upd F n v) N = cntF F N + 1 := by
  intro N
  induction N with
  | zero => intro h; omega
  | succ N ih =>
    intro h
    rw [cnt_S, cnt_S]
    by_cases hn : n = N
    · subst hn
      rw [cnt_ge F n v n (Nat.le_refl _), pk_us, if_neg hv, if_pos h0]
    · rw [ih (by omega), pk_un (fun q => hn q.symm)]
      omega
theorem cnt_le (F : Nat → Int32) : ∀ N, cntF F N ≤ N := by
  intro N
  induction N with
  | zero => exact Nat.le_refl _
  | succ N ih =>
    rw [cnt_S]
    by_cases h : F N = -9
    · rw [if_pos h]; omega
    · rw [if_neg h]; omega
theorem cnt_lt {F : Nat → Int32} {n : Nat} (h0 : F n = -9) : ∀ N, n < N → cntF F N < N := by
  intro N
  induction N with
  | zero => intro h; omega
  | succ N ih =>
    intro h
    rw [cnt_S]
    by_cases hn : n = N
    · subst hn
      rw [if_pos h0]
      have := cnt_le F n
      omega
    · have := ih (by omega)
      by_cases h2 : F N = -9
      · rw [if_pos h2]; omega
      · rw [if_neg h2]; omega
def updN (f : Nat → Nat) (k x : Nat) : Nat → Nat := fun j => if j = k then x else f j
theorem updN_s {f : Nat → Nat} {k x : Nat} : updN f k x k = x := by simp [updN]
theorem updN_n {f : Nat → Nat} {k j x : Nat} (h : j ≠ k) : updN f k x j = f j := by simp [updN, h]
/-- the queue: Q of the first N JOINTS are in it, u i the one at place i, d i how far it is -/
def QI (J : Nat) (tg : Nat → Int32) (fn al : Nat → Bool) (N : Nat) (F U : Nat → Int32) (Q : Nat) (u d : Nat → Nat) : Prop :=
  cntF F N = Q ∧ (∀ i, i < Q → u i < N ∧ U i = nI (u i) ∧ F (u i) = nI (d i) ∧ Rk J tg fn al (d i) (u i) ∧ d i ≤ i) ∧ (∀ i i', i ≤ i' → i' < Q → d i ≤ d i') ∧ ∀ n, n < N → F n = -9 ∨ ∃ i, i < Q ∧ u i = n
theorem QI.add {J : Nat} {tg : Nat → Int32} {fn al : Nat → Bool} {N : Nat} {F U : Nat → Int32} {Q : Nat} {u d : Nat → Nat} (h : QI J tg fn al N F U Q u d) {n D : Nat} (hn : n < N) (h0 : F n = -9) (hD : D ≤ Q) (hR : Rk J tg fn al D n) (hd : ∀ i, i < Q → d i ≤ D) (hz : D < 2 ^ 31) : QI J tg fn al N (upd F n (nI D)) (upd U Q (nI n)) (Q + 1) (updN u Q n) (updN d Q D) := by
  obtain ⟨h1, h2, h3, h4⟩ := h
  refine ⟨by rw [cnt_upd h0 (nI_z hz) N hn, h1], fun i hi => ?_, fun i i' hii hi' => ?_, fun k hk => ?_⟩
  · by_cases q : i = Q
    · subst q
      rw [updN_s, updN_s, pk_us, pk_us]
      exact ⟨hn, rfl, rfl, hR, hD⟩
    · rw [updN_n q, updN_n q, pk_un q]
      obtain ⟨a1, a2, a3, a4, a5⟩ := h2 i (by omega)
      have : u i ≠ n := fun e => by
        rw [e, h0] at a3
        exact nI_z (by have := hd i (by omega); omega) a3.symm
      rw [pk_un this]
      exact ⟨a1, a2, a3, a4, a5⟩
  · by_cases q' : i' = Q
    · subst q'
      rw [updN_s]
      by_cases q : i = i'
      · subst q; rw [updN_s]; omega
      · rw [updN_n q]; exact hd i (by omega)
    · rw [updN_n q', updN_n (show i ≠ Q by omega)]
      exact h3 i i' hii (by omega)
  · by_cases q : k = n
    · subst q
      exact Or.inr ⟨Q, by omega, updN_s⟩
    · rw [pk_un q]
      rcases h4 k hk with a | ⟨i, a, b⟩
      · exact Or.inl a
      · exact Or.inr ⟨i, by omega, by rw [updN_n (by omega)]; exact b⟩
/-- the queue gone through up to p -/
def QP (J : Nat) (tg : Nat → Int32) (fn al : Nat → Bool) (Q : Nat) (u d : Nat → Nat) (p : Nat) : Prop :=
  (∀ n, n < J → al n = true → fn n = true → ∃ k, k < Q ∧ u k = n ∧ d k = 0) ∧ (∀ i, i < p → ∀ y, y < 8 * J → tg y = nI (u i) → al (y / 8) = true → ∃ k, k < Q ∧ u k = y / 8 ∧ d k ≤ d i + 1) ∧ (p < Q → ∀ i, i < Q → d i ≤ d p + 1)
theorem QI.done {J : Nat} {tg : Nat → Int32} {fn al : Nat → Bool} {F U : Nat → Int32} {Q : Nat} {u d : Nat → Nat} (h : QI J tg fn al J F U Q u d) (hp : QP J tg fn al Q u d Q) (hJ : J ≤ 150) (htg : ∀ y, y < 8 * J → tg y = -9 ∨ ∃ m, m < J ∧ tg y = nI m) : ∀ n, n < J → isFar J tg fn al n (F n) := by
  obtain ⟨h1, h2, h3, h4⟩ := h
  have hQ : Q ≤ J := by rw [← h1]; exact cnt_le _ _
  have key : ∀ k n, Rk J tg fn al k n → ∃ i, i < Q ∧ u i = n ∧ d i ≤ k := by
    intro k
    induction k with
    | zero =>
      intro n hn
      obtain ⟨i, a, b, c⟩ := hp.1 n hn.1 hn.2.1 hn.2.2
      exact ⟨i, a, b, by omega⟩
    | succ k ih =>
      intro n hn
      rcases hn with hn | ⟨a1, a2, e, m, he, hm, hr⟩
      · obtain ⟨i, a, b, c⟩ := ih n hn
        exact ⟨i, a, b, by omega⟩
      · obtain ⟨i, b1, b2, b3⟩ := ih m hr
        subst b2
        obtain ⟨k', c1, c2, c3⟩ := hp.2.1 i b1 (8 * n + e) (by omega) hm (by rw [show (8 * n + e) / 8 = n by omega]; exact a2)
        rw [show (8 * n + e) / 8 = n by omega] at c2
        exact ⟨k', c1, c2, by omega⟩
  have same : ∀ i i', i < Q → i' < Q → u i = u i' → d i = d i' := fun i i' hi hi' e => by
    have a := (h2 i hi).2.2.1
    have b := (h2 i' hi').2.2.1
    rw [e] at a
    have c1 := (h2 i hi).2.2.2.2
    have c2 := (h2 i' hi').2.2.2.2
    exact (nI_eq (by omega) (by omega)).mp (a.symm.trans b)
  intro n hn
  by_cases hx : ∃ k, Rk J tg fn al k n
  · obtain ⟨k0, hk0⟩ := hx
    obtain ⟨i, a, b, c⟩ := key k0 n hk0
    obtain ⟨b1, b2, b3, b4, b5⟩ := h2 i a
    subst b
    refine Or.inl ⟨d i, by omega, b3, b4, fun j hj hr => ?_⟩
    obtain ⟨i', a', b', c'⟩ := key j _ hr
    have := same i i' a a' b'.symm
    omega
  · refine Or.inr ⟨?_, fun k hk => hx ⟨k, hk⟩⟩
    rcases h4 n hn with a | ⟨i, a, b⟩
    · exact a
    · exact absurd ⟨d i, by rw [← b]; exact (h2 i a).2.2.2.1⟩ hx
end
section
/-! NET.measure -/
/-- what measure needs of a Net: J JOINTS, which are FINISHED, the edges into each -/
def NM (σ : Mm) (b J : Nat) (tg : Nat → Int32) (fn : Nat → Bool) : Prop := J ≤ 150 ∧ σ b 13 = nI J ∧ (∀ n, n < J → σ (b + 4) n = (if fn n = true then 1 else 0)) ∧ (∀ j, j < J → chainP (σ (b + 7)) (σ (b + 6) j) (insX tg j (8 * J))) ∧ ∀ y, y < 8 * J → tg y = -9 ∨ ∃ m, m < J ∧ tg y = nI m
/-- only far, queue and queued have changed -/
def FrQ (b : Nat) (σ σ' : Mm) : Prop := (∀ x, x ≠ b → x ≠ b + 9 → x ≠ b + 10 → σ' x = σ x) ∧ ∀ k, k ≠ 10 → σ' b k = σ b k
theorem FrQ.rf {b : Nat} {σ : Mm} : FrQ b σ σ := ⟨fun _ _ _ _ => rfl, fun _ _ => rfl⟩
theorem FrQ.tr {b : Nat} {σ σ' σ'' : Mm} (h1 : FrQ b σ σ') (h2 : FrQ b σ' σ'') : FrQ b σ σ'' := ⟨fun x a c e => (h2.1 x a c e).trans (h1.1 x a c e), fun k hk => (h2.2 k hk).trans (h1.2 k hk)⟩
theorem FrQ.u9 {b k : Nat} {v : Int32} {σ σ' : Mm} (h : FrQ b σ σ') : FrQ b σ (m_up σ' (b + 9) k v) := ⟨fun x a c e => (m_ne c).trans (h.1 x a c e), fun k hk => by rw [m_ne (by omega)]; exact h.2 k hk⟩
theorem FrQ.u10 {b k : Nat} {v : Int32} {σ σ' : Mm} (h : FrQ b σ σ') : FrQ b σ (m_up σ' (b + 10) k v) := ⟨fun x a c e => (m_ne e).trans (h.1 x a c e), fun k hk => by rw [m_ne (by omega)]; exact h.2 k hk⟩
theorem FrQ.uq {b : Nat} {v : Int32} {σ σ' : Mm} (h : FrQ b σ σ') : FrQ b σ (m_up σ' b 10 v) := ⟨fun x a c e => (m_ne a).trans (h.1 x a c e), fun k hk => by rw [m_nk hk]; exact h.2 k hk⟩
theorem NM.fr {b J : Nat} {tg : Nat → Int32} {fn : Nat → Bool} {σ σ' : Mm} (h : NM σ b J tg fn) (hF : FrQ b σ σ') : NM σ' b J tg fn := by
  unfold NM at *
  rw [hF.1 (b + 4) (by omega) (by omega) (by omega), hF.1 (b + 7) (by omega) (by omega) (by omega), hF.1 (b + 6) (by omega) (by omega) (by omega), hF.2 13 (by decide)]
  exact h
theorem enq_rows {b n q : Nat} {v : Int32} {σ : Mm} : (m_up (m_up (m_up σ (b + 9) n v) (b + 10) q (nI n)) b 10 (nI (q + 1))) (b + 9) = upd (σ (b + 9)) n v ∧ (m_up (m_up (m_up σ (b + 9) n v) (b + 10) q (nI n)) b 10 (nI (q + 1))) (b + 10) = upd (σ (b + 10)) q (nI n) ∧ (m_up (m_up (m_up σ (b + 9) n v) (b + 10) q (nI n)) b 10 (nI (q + 1))) b 10 = nI (q + 1) := by
  refine ⟨?_, ?_, m_eq _ _ _ _⟩
  · rw [m_ne (by omega), m_ne (by omega), m_row]
  · rw [m_ne (by omega), m_row, m_ne (by omega)]
def mbP (σ : Mm) (b J : Nat) (tg : Nat → Int32) (fn al : Nat → Bool) (Q : Nat) (u d : Nat → Nat) (p : Nat) : Int32 → Mm → Prop := fun _ σ' => FrQ b σ σ' ∧ ∃ (Q' : Nat) (u' d' : Nat → Nat), QI J tg fn al J (σ' (b + 9)) (σ' (b + 10)) Q' u' d' ∧ QP J tg fn al Q' u' d' (p + 1) ∧ σ' b 10 = nI Q' ∧ Q ≤ Q'
theorem c_X3_measureBackFrom {b : Nat} (hb : IsN b) {la : Nat} (hla : Γ1[la]? = some (gI 150)) (hl1 : la ≠ b ∧ la ≠ b + 9 ∧ la ≠ b + 10) {σ : Mm} {J : Nat} {tg : Nat → Int32} {fn : Nat → Bool} (hN : NM σ b J tg fn) {Q p : Nat} {u d : Nat → Nat} (hQ : σ b 10 = nI Q)
    (hI : QI J tg fn (fun n => decide (σ la n = -9)) J (σ (b + 9)) (σ (b + 10)) Q u d) (hP : QP J tg fn (fun n => decide (σ la n = -9)) Q u d p) (hp : p < Q) : EV Γ1 1 yX3_measureBackFrom cX3_measureBackFrom 6 none [.inr b, .inl (nI (u p)), .inr la] σ (mbP σ b J tg fn (fun n => decide (σ la n = -9)) Q u d p) := by
  have g0 := hb.1
  have g6 := hb.2.2.2.2.2.2.1
  have g7 := hb.2.2.2.2.2.2.2.1
  have g9 := hb.2.2.2.2.2.2.2.2.2.1
  have hJ := hN.1
  have hQJ : Q ≤ J := by rw [← hI.1]; exact cnt_le _ _
  obtain ⟨hu1, hu2, hu3, hu4, hu5⟩ := hI.2.1 p hp
  have hcu : (nI (u p)).toNatClampNeg = u p := nI_clamp (by omega)
  have hvu : vp_in (nI (u p)) 150 := vp_in_nI (by omega) (by decide)
  have hLL : (insX tg (u p) (8 * J)).length ≤ 8 * J := by
    unfold insX
    rw [List.length_reverse]
    have := List.length_filter_le (fun y => tg y == nI (u p)) (List.range (8 * J))
    simpa using this
  have loop : ∀ (l pre : List Nat) (v : Int32) (σ' : Mm) (Q' : Nat) (u' d' : Nat → Nat) (y5 : Option Vl), insX tg (u p) (8 * J) = pre ++ l → chainP (σ (b + 7)) v l → FrQ b σ σ' → σ' b 10 = nI Q' → Q ≤ Q' → QI J tg fn (fun n => decide (σ la n = -9)) J (σ' (b + 9)) (σ' (b + 10)) Q' u' d' → (∀ i, i < Q → u' i = u i ∧ d' i = d i) → (∀ i, i < Q' → d' i ≤ d p + 1) → (∀ y, y ∈ pre → σ la (y / 8) = -9 → ∃ k, k < Q' ∧ u' k = y / 8 ∧ d' k ≤ d p + 1) →
      AJ Γ1 1 RX3 cX3_measureBackFrom 6 none (mbP σ b J tg fn (fun n => decide (σ la n = -9)) Q u d p) 10 [some (.inr b), some (.inl (nI (u p))), some (.inr la), some (.inl v), some (.inl (nI pre.length)), y5] [] σ' := by
    intro l
    induction l with
    | nil =>
      intro pre v σ' Q' u' d' y5 hLe hc hF hq hQQ hQI hag hle hpre
      have hv : v = -9 := hc
      subst hv
      have fin : mbP σ b J tg fn (fun n => decide (σ la n = -9)) Q u d p 0 σ' := by
        refine ⟨hF, Q', u', d', hQI, ⟨fun n a1 a2 a3 => ?_, fun i hi y hy hty hal => ?_, fun hlt i hi => ?_⟩, hq, hQQ⟩
        · obtain ⟨k, c1, c2, c3⟩ := hP.1 n a1 a2 a3
          exact ⟨k, by omega, by rw [(hag k c1).1]; exact c2, by rw [(hag k c1).2]; exact c3⟩
        · by_cases q : i = p
          · subst q
            rw [(hag i hp).1] at hty
            have hm : y ∈ pre := by
              have := ins_mem.mpr ⟨hy, hty⟩
              rw [hLe] at this
              simpa using this
            obtain ⟨k, c1, c2, c3⟩ := hpre y hm (of_decide_eq_true hal)
            exact ⟨k, c1, c2, by rw [(hag i hp).2]; exact c3⟩
          · rw [(hag i (by omega)).1] at hty
            obtain ⟨k, c1, c2, c3⟩ := hP.2.1 i (by omega) y hy hty hal
            exact ⟨k, by omega, by rw [(hag k c1).1]; exact c2, by rw [(hag k c1).2, (hag i (by omega)).2]; exact c3⟩
        · have h1 := hle i hi
          have h2 := hQI.2.2.1 p (p + 1) (by omega) hlt
          rw [(hag p hp).2] at h2
          omega
      refine j_iload (pc := 10) dX3_measureBackFrom_10 rfl ?_
      refine j_sipush (pc := 12) dX3_measureBackFrom_12 (v := 1200) (by decide) ?_
      refine j_icmp_ge (pc := 15) (tgt := 90) dX3_measureBackFrom_15 rfl (fun h15 => ?_) (fun h15 => ?_)
      · refine j_vret (pc := 90) dX3_measureBackFrom_90 ?_
        exact fin
      · refine j_iload_n (pc := 18) dX3_measureBackFrom_18 rfl ?_
        refine j_if_lt (pc := 19) (tgt := 90) dX3_measureBackFrom_19 rfl (fun h19 => ?_) (fun h19 => absurd (by decide) h19)
        refine j_vret (pc := 90) dX3_measureBackFrom_90 ?_
        exact fin
    | cons y ys ih =>
      intro pre v σ' Q' u' d' y5 hLe hc hF hq hQQ hQI hag hle hpre
      obtain ⟨hv, hc2⟩ := hc
      subst hv
      have hym : y ∈ insX tg (u p) (8 * J) := by rw [hLe]; simp
      obtain ⟨hy8, hty⟩ := ins_mem.mp hym
      have hlen : pre.length + (ys.length + 1) ≤ 8 * J := by
        have := congrArg List.length hLe
        rw [List.length_append, List.length_cons] at this
        omega
      have hQ'J : Q' ≤ J := by rw [← hQI.1]; exact cnt_le _ _
      have hdv : nI y / 8 = nI (y / 8) := pk_div (d := 8) (by omega) (by decide) (by decide)
      have hfr : y / 8 < J := by omega
      have hcf : (nI (y / 8)).toNatClampNeg = y / 8 := nI_clamp (by omega)
      have hvf : vp_in (nI (y / 8)) 150 := vp_in_nI (by omega) (by decide)
      have ela : σ' la = σ la := hF.1 la hl1.1 hl1.2.1 hl1.2.2
      have e7 : σ' (b + 7) = σ (b + 7) := hF.1 (b + 7) (by omega) (by omega) (by omega)
      have hup : σ' (b + 9) (u p) = nI (d p) := by
        have := (hQI.2.1 p (by omega)).2.2.1
        rw [(hag p hp).1, (hag p hp).2] at this
        exact this
      have next : ∀ (σ2 : Mm) (Q2 : Nat) (u2 d2 : Nat → Nat), FrQ b σ σ2 → σ2 b 10 = nI Q2 → Q ≤ Q2 → QI J tg fn (fun n => decide (σ la n = -9)) J (σ2 (b + 9)) (σ2 (b + 10)) Q2 u2 d2 → (∀ i, i < Q → u2 i = u i ∧ d2 i = d i) → (∀ i, i < Q2 → d2 i ≤ d p + 1) → (∀ z, z ∈ pre ++ [y] → σ la (z / 8) = -9 → ∃ k, k < Q2 ∧ u2 k = z / 8 ∧ d2 k ≤ d p + 1) →
          AJ Γ1 1 RX3 cX3_measureBackFrom 6 none (mbP σ b J tg fn (fun n => decide (σ la n = -9)) Q u d p) 77 [some (.inr b), some (.inl (nI (u p))), some (.inr la), some (.inl (nI y)), some (.inl (nI pre.length)), some (.inl (nI (y / 8)))] [] σ2 := by
        intro σ2 Q2 u2 d2 f1 f2 f3 f4 f5 f6 f7
        have e72 : σ2 (b + 7) = σ (b + 7) := f1.1 (b + 7) (by omega) (by omega) (by omega)
        refine j_aload_n (pc := 77) dX3_measureBackFrom_77 rfl ?_
        refine j_getR (pc := 78) dX3_measureBackFrom_78 f_X3_31 (by first | rfl | with_reducible assumption) (by rfl) ?_
        refine j_iload_n (pc := 81) dX3_measureBackFrom_81 rfl ?_
        refine j_iald (pc := 82) dX3_measureBackFrom_82 (by first | rfl | with_reducible assumption) (vp_in_nI (by omega) (by decide)) ?_
        refine j_istore_n (pc := 83) dX3_measureBackFrom_83 (by decide) ?_
        refine j_iinc1 (pc := 84) dX3_measureBackFrom_84 rfl ?_
        refine j_goto (pc := 87) (tgt := 10) dX3_measureBackFrom_87 rfl ?_
        rw [nI_1, nI_clamp (by omega), e72]
        have := ih (pre ++ [y]) (σ (b + 7) y) σ2 Q2 u2 d2 (some (.inl (nI (y / 8)))) (by rw [hLe, List.append_assoc]; rfl) hc2 f1 f2 f3 f4 f5 f6 f7
        rw [List.length_append] at this
        exact this
      refine j_iload (pc := 10) dX3_measureBackFrom_10 rfl ?_
      refine j_sipush (pc := 12) dX3_measureBackFrom_12 (v := 1200) (by decide) ?_
      refine j_icmp_ge (pc := 15) (tgt := 90) dX3_measureBackFrom_15 rfl (fun h15 => absurd h15 (nI_ge (b := 1200) (by omega) (by decide))) (fun h15 => ?_)
      refine j_iload_n (pc := 18) dX3_measureBackFrom_18 rfl ?_
      refine j_if_lt (pc := 19) (tgt := 90) dX3_measureBackFrom_19 rfl (fun h19 => absurd h19 (nI_pos (by omega))) (fun h19 => ?_)
      refine j_iload_n (pc := 22) dX3_measureBackFrom_22 rfl ?_
      refine j_sipush (pc := 23) dX3_measureBackFrom_23 (v := 1200) (by decide) ?_
      refine j_icmp_ge (pc := 26) (tgt := 90) dX3_measureBackFrom_26 rfl (fun h26 => absurd h26 (nI_ge (b := 1200) (by omega) (by decide))) (fun h26 => ?_)
      refine j_iload_n (pc := 29) dX3_measureBackFrom_29 rfl ?_
      refine j_bipush (pc := 30) dX3_measureBackFrom_30 (v := 8) (by decide) ?_
      refine j_idiv (pc := 32) dX3_measureBackFrom_32 (by decide) ?_
      refine j_top hdv ?_
      refine j_istore (pc := 33) dX3_measureBackFrom_33 (by decide) ?_
      refine j_aload_n (pc := 35) dX3_measureBackFrom_35 rfl ?_
      refine j_getR (pc := 36) dX3_measureBackFrom_36 f_X3_37 (by first | rfl | with_reducible assumption) (by rfl) ?_
      refine j_iload (pc := 39) dX3_measureBackFrom_39 rfl ?_
      refine j_iald (pc := 41) dX3_measureBackFrom_41 (by first | rfl | with_reducible assumption) hvf ?_
      rw [hcf]
      refine j_bipush (pc := 42) dX3_measureBackFrom_42 (v := (-9)) (by decide) ?_
      refine j_icmp_ne (pc := 44) (tgt := 77) dX3_measureBackFrom_44 rfl (fun h44 => ?_) (fun h44 => ?_)
      · first
          | (have hnew := hadd
             refine next _ (Q' + 1) _ _ hF.u9.u10.uq hrows.2.2 (by omega) (by rw [hrows.1, hrows.2.1]; exact hnew) (fun i hi => ⟨by rw [updN_n (by omega)]; exact (hag i hi).1, by rw [updN_n (by omega)]; exact (hag i hi).2⟩) (fun i hi => ?_) (fun z hz hzl => ?_)
             · by_cases q : i = Q'
               · subst q; rw [updN_s]; exact Nat.le_refl _
               · rw [updN_n q]; exact hle i (by omega)
             · rcases List.mem_append.mp hz with hz | hz
               · obtain ⟨k, c1, c2, c3⟩ := hpre z hz hzl
                 exact ⟨k, by omega, by rw [updN_n (by omega)]; exact c2, by rw [updN_n (by omega)]; exact c3⟩
               · have : z = y := by simpa using hz
                 subst this
                 exact ⟨Q', by omega, updN_s, by rw [updN_s]; exact Nat.le_refl _⟩)
          | (refine next σ' Q' u' d' hF hq hQQ hQI hag hle (fun z hz hzl => ?_)
             rcases List.mem_append.mp hz with hz | hz
             · exact hpre z hz hzl
             · have : z = y := by simpa using hz
               subst this
               first
                 | exact absurd hzl h60
                 | (rcases hQI.2.2.2 (z / 8) hfr with q | ⟨k, q1, q2⟩
                    · exact absurd q h44
                    · exact ⟨k, q1, q2, hle k q1⟩))
      · refine j_iload (pc := 47) dX3_measureBackFrom_47 rfl ?_
        refine j_aload_n (pc := 49) dX3_measureBackFrom_49 rfl ?_
        refine j_alen (pc := 50) dX3_measureBackFrom_50 (by first | rfl | with_reducible assumption) (v := _) (by rfl) ?_
        refine j_icmp_ge (pc := 51) (tgt := 77) dX3_measureBackFrom_51 rfl (fun h51 => absurd h51 (nI_ge (b := 150) (by omega) (by decide))) (fun h51 => ?_)
        refine j_aload_n (pc := 54) dX3_measureBackFrom_54 rfl ?_
        refine j_iload (pc := 55) dX3_measureBackFrom_55 rfl ?_
        refine j_iald (pc := 57) dX3_measureBackFrom_57 (by first | rfl | with_reducible assumption) hvf ?_
        rw [hcf, ela]
        refine j_bipush (pc := 58) dX3_measureBackFrom_58 (v := (-9)) (by decide) ?_
        refine j_icmp_ne (pc := 60) (tgt := 77) dX3_measureBackFrom_60 rfl (fun h60 => ?_) (fun h60 => ?_)
        · first
            | (have hnew := hadd
               refine next _ (Q' + 1) _ _ hF.u9.u10.uq hrows.2.2 (by omega) (by rw [hrows.1, hrows.2.1]; exact hnew) (fun i hi => ⟨by rw [updN_n (by omega)]; exact (hag i hi).1, by rw [updN_n (by omega)]; exact (hag i hi).2⟩) (fun i hi => ?_) (fun z hz hzl => ?_)
               · by_cases q : i = Q'
                 · subst q; rw [updN_s]; exact Nat.le_refl _
                 · rw [updN_n q]; exact hle i (by omega)
               · rcases List.mem_append.mp hz with hz | hz
                 · obtain ⟨k, c1, c2, c3⟩ := hpre z hz hzl
                   exact ⟨k, by omega, by rw [updN_n (by omega)]; exact c2, by rw [updN_n (by omega)]; exact c3⟩
                 · have : z = y := by simpa using hz
                   subst this
                   exact ⟨Q', by omega, updN_s, by rw [updN_s]; exact Nat.le_refl _⟩)
            | (refine next σ' Q' u' d' hF hq hQQ hQI hag hle (fun z hz hzl => ?_)
               rcases List.mem_append.mp hz with hz | hz
               · exact hpre z hz hzl
               · have : z = y := by simpa using hz
                 subst this
                 first
                   | exact absurd hzl h60
                   | (rcases hQI.2.2.2 (z / 8) hfr with q | ⟨k, q1, q2⟩
                      · exact absurd q h44
                      · exact ⟨k, q1, q2, hle k q1⟩))
        · refine j_aload_n (pc := 63) dX3_measureBackFrom_63 rfl ?_
          refine j_iload (pc := 64) dX3_measureBackFrom_64 rfl ?_
          refine j_aload_n (pc := 66) dX3_measureBackFrom_66 rfl ?_
          refine j_getR (pc := 67) dX3_measureBackFrom_67 f_X3_37 (by first | rfl | with_reducible assumption) (by rfl) ?_
          refine j_iload_n (pc := 70) dX3_measureBackFrom_70 rfl ?_
          refine j_iald (pc := 71) dX3_measureBackFrom_71 (by first | rfl | with_reducible assumption) hvu ?_
          refine j_top (y := nI (d p)) (by rw [hcu]; exact hup) ?_
          refine j_iconst (pc := 72) dX3_measureBackFrom_72 (v := 1) (by decide) ?_
          refine j_iadd (pc := 73) dX3_measureBackFrom_73 ?_
          rw [nI_1]
          refine j_callVv (pc := 74) dX3_measureBackFrom_74 k_X3_124 (c_X3_enqueue hb _ hq (by have := cnt_lt h44 J hfr; rw [hQI.1] at this; omega) (by omega)) (by first | rfl | with_reducible assumption) rfl rfl (by decide) rfl (Nat.le_of_ble_eq_true rfl) (fun σ1 hp => ?_)
          obtain rfl := hp
          have hR : Rk J tg fn (fun n => decide (σ la n = -9)) (d p + 1) (y / 8) := Or.inr ⟨hfr, decide_eq_true h60, y % 8, u p, Nat.mod_lt _ (by decide), by rw [Nat.div_add_mod]; exact hty, hu4⟩
          have hadd := hQI.add hfr h44 (show d p + 1 ≤ Q' by omega) hR hle (by omega)
          have hrows := enq_rows (b := b) (n := y / 8) (q := Q') (v := nI (d p + 1)) (σ := σ')
          first
            | (have hnew := hadd
               refine next _ (Q' + 1) _ _ hF.u9.u10.uq hrows.2.2 (by omega) (by rw [hrows.1, hrows.2.1]; exact hnew) (fun i hi => ⟨by rw [updN_n (by omega)]; exact (hag i hi).1, by rw [updN_n (by omega)]; exact (hag i hi).2⟩) (fun i hi => ?_) (fun z hz hzl => ?_)
               · by_cases q : i = Q'
                 · subst q; rw [updN_s]; exact Nat.le_refl _
                 · rw [updN_n q]; exact hle i (by omega)
               · rcases List.mem_append.mp hz with hz | hz
                 · obtain ⟨k, c1, c2, c3⟩ := hpre z hz hzl
                   exact ⟨k, by omega, by rw [updN_n (by omega)]; exact c2, by rw [updN_n (by omega)]; exact c3⟩
                 · have : z = y := by simpa using hz
                   subst this
                   exact ⟨Q', by omega, updN_s, by rw [updN_s]; exact Nat.le_refl _⟩)
            | (refine next σ' Q' u' d' hF hq hQQ hQI hag hle (fun z hz hzl => ?_)
               rcases List.mem_append.mp hz with hz | hz
               · exact hpre z hz hzl
               · have : z = y := by simpa using hz
                 subst this
                 first
                   | exact absurd hzl h60
                   | (rcases hQI.2.2.2 (z / 8) hfr with q | ⟨k, q1, q2⟩
                      · exact absurd q h44
                      · exact ⟨k, q1, q2, hle k q1⟩))
  refine EV.intro (by decide +kernel) (Nat.le_of_ble_eq_true rfl) ?_
  refine j_aload_n (pc := 0) dX3_measureBackFrom_0 rfl ?_
  refine j_getR (pc := 1) dX3_measureBackFrom_1 f_X3_28 (by first | rfl | with_reducible assumption) (by rfl) ?_
  refine j_iload_n (pc := 4) dX3_measureBackFrom_4 rfl ?_
  refine j_iald (pc := 5) dX3_measureBackFrom_5 (by first | rfl | with_reducible assumption) hvu ?_
  rw [hcu]
  refine j_istore_n (pc := 6) dX3_measureBackFrom_6 (by decide) ?_
  refine j_iconst (pc := 7) dX3_measureBackFrom_7 (v := 0) (by decide) ?_
  refine j_istore (pc := 8) dX3_measureBackFrom_8 (by decide) ?_
  exact loop _ [] _ σ Q u d none rfl (hN.2.2.2.1 (u p) hu1) FrQ.rf hQ (Nat.le_refl _) hI (fun i hi => ⟨rfl, rfl⟩) (hP.2.2 hp) (fun y hy => absurd hy List.not_mem_nil)
theorem QI.grow {J : Nat} {tg : Nat → Int32} {fn al : Nat → Bool} {N : Nat} {F U : Nat → Int32} {Q : Nat} {u d : Nat → Nat} (h : QI J tg fn al N F U Q u d) : QI J tg fn al (N + 1) (upd F N (-9)) U Q u d := by
  obtain ⟨h1, h2, h3, h4⟩ := h
  refine ⟨by rw [cnt_S, cnt_ge F N _ N (Nat.le_refl _), pk_us, if_pos rfl]; exact h1, fun i hi => ?_, h3, fun n hn => ?_⟩
  · obtain ⟨a1, a2, a3, a4, a5⟩ := h2 i hi
    rw [pk_un (by omega)]
    exact ⟨by omega, a2, a3, a4, a5⟩
  · by_cases q : n = N
    · subst q; exact Or.inl pk_us
    · rw [pk_un q]; exact h4 n (by omega)
/-- measure: far is how far, over what isn't LOST; queued: how many can end -/
def meaP (σ : Mm) (b J : Nat) (tg : Nat → Int32) (fn al : Nat → Bool) : Int32 → Mm → Prop := fun _ σ' => FrQ b σ σ' ∧ σ' b 10 = nI (cntF (σ' (b + 9)) J) ∧ ∀ n, n < J → isFar J tg fn al n (σ' (b + 9) n)
theorem c_X3_measure {b : Nat} (hb : IsN b) {la : Nat} (hla : Γ1[la]? = some (gI 150)) (hl1 : la ≠ b ∧ la ≠ b + 9 ∧ la ≠ b + 10) {σ : Mm} {J : Nat} {tg : Nat → Int32} {fn : Nat → Bool} (hN : NM σ b J tg fn) : EV Γ1 2 yX3_measure cX3_measure 3 none [.inr b, .inr la] σ (meaP σ b J tg fn (fun n => decide (σ la n = -9))) := by
  have g0 := hb.1
  have g4 := hb.2.2.2.2.1
  have g9 := hb.2.2.2.2.2.2.2.2.2.1
  have g10 := hb.2.2.2.2.2.2.2.2.2.2
  have hJ := hN.1
  have main : ∀ (k p : Nat) (σ' : Mm) (Q : Nat) (u d : Nat → Nat), p + k = 150 → FrQ b σ σ' → σ' b 10 = nI Q → p ≤ Q → QI J tg fn (fun n => decide (σ la n = -9)) J (σ' (b + 9)) (σ' (b + 10)) Q u d → QP J tg fn (fun n => decide (σ la n = -9)) Q u d p →
      AJ Γ1 2 RX3 cX3_measure 3 none (meaP σ b J tg fn (fun n => decide (σ la n = -9))) 60 [some (.inr b), some (.inr la), some (.inl (nI p))] [] σ' := by
    intro k
    induction k with
    | zero =>
      intro p σ' Q u d hk hF hq hpQ hI hP
      have hQJ : Q ≤ J := by rw [← hI.1]; exact cnt_le _ _
      refine j_iload_n (pc := 60) dX3_measure_60 rfl ?_
      refine j_aload_n (pc := 61) dX3_measure_61 rfl ?_
      refine j_getI (pc := 62) dX3_measure_62 f_X3_43 (by first | rfl | with_reducible assumption) (by rfl) ?_
      refine j_top hq ?_
      refine j_icmp_ge (pc := 65) (tgt := 92) dX3_measure_65 rfl (fun h65 => ?_) (fun h65 => absurd (nI_le (by omega) (by omega)) h65)
      refine j_vret (pc := 92) dX3_measure_92 ?_
      obtain rfl : p = Q := by omega
      exact ⟨hF, by rw [hI.1]; exact hq, hI.done hP hJ hN.2.2.2.2⟩
    | succ k ih =>
      intro p σ' Q u d hk hF hq hpQ hI hP
      have hQJ : Q ≤ J := by rw [← hI.1]; exact cnt_le _ _
      have ela : σ' la = σ la := hF.1 la hl1.1 hl1.2.1 hl1.2.2
      refine j_iload_n (pc := 60) dX3_measure_60 rfl ?_
      refine j_aload_n (pc := 61) dX3_measure_61 rfl ?_
      refine j_getI (pc := 62) dX3_measure_62 f_X3_43 (by first | rfl | with_reducible assumption) (by rfl) ?_
      refine j_top hq ?_
      refine j_icmp_ge (pc := 65) (tgt := 92) dX3_measure_65 rfl (fun h65 => ?_) (fun h65 => ?_)
      · have hle := (nI_leI (by omega) (by omega)).mp h65
        refine j_vret (pc := 92) dX3_measure_92 ?_
        obtain rfl : p = Q := by omega
        exact ⟨hF, by rw [hI.1]; exact hq, hI.done hP hJ hN.2.2.2.2⟩
      · have hlt : p < Q := by
          have : ¬ Q ≤ p := fun q => h65 ((nI_leI (by omega) (by omega)).mpr q)
          omega
        refine j_iload_n (pc := 68) dX3_measure_68 rfl ?_
        refine j_sipush (pc := 69) dX3_measure_69 (v := 150) (by decide) ?_
        refine j_icmp_ge (pc := 72) (tgt := 92) dX3_measure_72 rfl (fun h72 => absurd h72 (nI_ge (b := 150) (by omega) (by decide))) (fun h72 => ?_)
        refine j_aload_n (pc := 75) dX3_measure_75 rfl ?_
        refine j_aload_n (pc := 76) dX3_measure_76 rfl ?_
        refine j_getR (pc := 77) dX3_measure_77 f_X3_40 (by first | rfl | with_reducible assumption) (by rfl) ?_
        refine j_iload_n (pc := 80) dX3_measure_80 rfl ?_
        refine j_iald (pc := 81) dX3_measure_81 (by first | rfl | with_reducible assumption) (vp_in_nI (by omega) (by decide)) ?_
        refine j_top (y := nI (u p)) (by rw [nI_clamp (by omega)]; exact (hI.2.1 p hlt).2.1) ?_
        refine j_aload_n (pc := 82) dX3_measure_82 rfl ?_
        refine j_callVv (pc := 83) dX3_measure_83 k_X3_128 (c_X3_measureBackFrom hb hla hl1 (hN.fr hF) hq (u := u) (d := d) (p := p) (by rw [ela]; exact hI) (by rw [ela]; exact hP) hlt) (by first | rfl | with_reducible assumption) rfl rfl (by decide) rfl (Nat.le_of_ble_eq_true rfl) (fun σ1 hp => ?_)
        rw [ela] at hp
        obtain ⟨hF2, Q2, u2, d2, hI2, hP2, hq2, hQ2⟩ := hp
        refine j_iinc1 (pc := 86) dX3_measure_86 rfl ?_
        refine j_goto (pc := 89) (tgt := 60) dX3_measure_89 rfl ?_
        rw [nI_1]
        exact ih (p + 1) _ Q2 u2 d2 (by omega) (hF.tr hF2) hq2 (by omega) hI2 hP2
  have init : ∀ (k n : Nat) (σ' : Mm) (Q : Nat) (u d : Nat → Nat), n + k = J → FrQ b σ σ' → σ' b 10 = nI Q → QI J tg fn (fun n => decide (σ la n = -9)) n (σ' (b + 9)) (σ' (b + 10)) Q u d → (∀ i, i < Q → d i = 0) → (∀ n', n' < n → σ la n' = -9 → fn n' = true → ∃ k, k < Q ∧ u k = n') →
      AJ Γ1 2 RX3 cX3_measure 3 none (meaP σ b J tg fn (fun n => decide (σ la n = -9))) 7 [some (.inr b), some (.inr la), some (.inl (nI n))] [] σ' := by
    intro k
    induction k with
    | zero =>
      intro n σ' Q u d hk hF hq hI hd0 hf
      obtain rfl : n = J := by omega
      have hQJ : Q ≤ n := by rw [← hI.1]; exact cnt_le _ _
      refine j_iload_n (pc := 7) dX3_measure_7 rfl ?_
      refine j_aload_n (pc := 8) dX3_measure_8 rfl ?_
      refine j_getI (pc := 9) dX3_measure_9 f_X3_53 (by first | rfl | with_reducible assumption) (by rfl) ?_
      refine j_top (y := nI n) (by rw [hF.2 13 (by decide)]; exact hN.2.1) ?_
      refine j_icmp_ge (pc := 12) (tgt := 58) dX3_measure_12 rfl (fun h12 => ?_) (fun h12 => absurd (Int32.le_refl _) h12)
      refine j_iconst (pc := 58) dX3_measure_58 (v := 0) (by decide) ?_
      refine j_istore_n (pc := 59) dX3_measure_59 (by decide) ?_
      refine main 150 0 σ' Q u d rfl hF hq (Nat.zero_le _) hI ⟨fun n' a1 a2 a3 => ?_, fun i hi => absurd hi (Nat.not_lt_zero _), fun _ i hi => by rw [hd0 i hi]; omega⟩
      obtain ⟨k, c1, c2⟩ := hf n' a1 (of_decide_eq_true a2) a3
      exact ⟨k, c1, c2, hd0 k c1⟩
    | succ k ih =>
      intro n σ' Q u d hk hF hq hI hd0 hf
      have hn : n < J := by omega
      have hQn : Q ≤ n := by rw [← hI.1]; exact cnt_le _ _
      have hcn : (nI n).toNatClampNeg = n := nI_clamp (by omega)
      have hvn : vp_in (nI n) 150 := vp_in_nI (by omega) (by decide)
      have e4 : m_up σ' (b + 9) n (-9) (b + 4) = σ (b + 4) := by rw [m_ne (by omega)]; exact hF.1 (b + 4) (by omega) (by omega) (by omega)
      have ela : m_up σ' (b + 9) n (-9) la = σ la := by rw [m_ne hl1.2.1]; exact hF.1 la hl1.1 hl1.2.1 hl1.2.2
      have hI1 : QI J tg fn (fun n => decide (σ la n = -9)) (n + 1) (m_up σ' (b + 9) n (-9) (b + 9)) (m_up σ' (b + 9) n (-9) (b + 10)) Q u d := by rw [m_row, m_ne (by omega)]; exact hI.grow
      have hq1 : m_up σ' (b + 9) n (-9) b 10 = nI Q := by rw [m_ne (by omega)]; exact hq
      refine j_iload_n (pc := 7) dX3_measure_7 rfl ?_
      refine j_aload_n (pc := 8) dX3_measure_8 rfl ?_
      refine j_getI (pc := 9) dX3_measure_9 f_X3_53 (by first | rfl | with_reducible assumption) (by rfl) ?_
      refine j_top (y := nI J) (by rw [hF.2 13 (by decide)]; exact hN.2.1) ?_
      refine j_icmp_ge (pc := 12) (tgt := 58) dX3_measure_12 rfl (fun h12 => absurd h12 (nI_ge hn (by omega))) (fun h12 => ?_)
      refine j_iload_n (pc := 15) dX3_measure_15 rfl ?_
      refine j_aload_n (pc := 16) dX3_measure_16 rfl ?_
      refine j_alen (pc := 17) dX3_measure_17 (by first | rfl | with_reducible assumption) (v := _) (by rfl) ?_
      refine j_icmp_ge (pc := 18) (tgt := 58) dX3_measure_18 rfl (fun h18 => absurd h18 (nI_ge (b := 150) (by omega) (by decide))) (fun h18 => ?_)
      refine j_aload_n (pc := 21) dX3_measure_21 rfl ?_
      refine j_getR (pc := 22) dX3_measure_22 f_X3_37 (by first | rfl | with_reducible assumption) (by rfl) ?_
      refine j_iload_n (pc := 25) dX3_measure_25 rfl ?_
      refine j_bipush (pc := 26) dX3_measure_26 (v := (-9)) (by decide) ?_
      refine j_iast (pc := 28) dX3_measure_28 (by first | rfl | with_reducible assumption) hvn ?_
      rw [hcn]
      refine j_aload_n (pc := 29) dX3_measure_29 rfl ?_
      refine j_getR (pc := 30) dX3_measure_30 f_X3_21 (by first | rfl | with_reducible assumption) (by rfl) ?_
      refine j_iload_n (pc := 33) dX3_measure_33 rfl ?_
      refine j_zald (pc := 34) dX3_measure_34 (by first | rfl | with_reducible assumption) hvn ?_
      refine j_top (y := if fn n = true then 1 else 0) (by rw [hcn, e4]; exact hN.2.2.1 n hn) ?_
      refine j_if_eq (pc := 35) (tgt := 52) dX3_measure_35 rfl (fun h35 => ?_) (fun h35 => ?_)
      · have hfn : ¬ fn n = true := fun q => by rw [if_pos q] at h35; exact absurd h35 (by decide)
        refine j_iinc1 (pc := 52) dX3_measure_52 rfl ?_
        refine j_goto (pc := 55) (tgt := 7) dX3_measure_55 rfl ?_
        rw [nI_1]
        first
          | (refine ih (n + 1) _ (Q + 1) _ _ (by omega) hF.u9.u9.u10.uq hrows.2.2 (by rw [hrows.1, hrows.2.1]; exact hadd) (fun i hi => ?_) (fun n' h1 h2 h3 => ?_)
             · by_cases q : i = Q
               · subst q; exact updN_s
               · rw [updN_n q]; exact hd0 i (by omega)
             · by_cases q : n' = n
               · subst q; exact ⟨Q, by omega, updN_s⟩
               · obtain ⟨k, c1, c2⟩ := hf n' (by omega) h2 h3
                 exact ⟨k, by omega, by rw [updN_n (by omega)]; exact c2⟩)
          | (refine ih (n + 1) _ Q u d (by omega) hF.u9 hq1 hI1 hd0 (fun n' h1 h2 h3 => ?_)
             by_cases q : n' = n
             · subst q
               first | exact absurd h3 hfn | exact absurd h2 h43
             · exact hf n' (by omega) h2 h3)
      · have hfn : fn n = true := Classical.byContradiction fun q => h35 (if_neg q)
        refine j_aload_n (pc := 38) dX3_measure_38 rfl ?_
        refine j_iload_n (pc := 39) dX3_measure_39 rfl ?_
        refine j_iald (pc := 40) dX3_measure_40 (by first | rfl | with_reducible assumption) hvn ?_
        refine j_top (y := σ la n) (by rw [hcn, ela]) ?_
        refine j_bipush (pc := 41) dX3_measure_41 (v := (-9)) (by decide) ?_
        refine j_icmp_ne (pc := 43) (tgt := 52) dX3_measure_43 rfl (fun h43 => ?_) (fun h43 => ?_)
        · refine j_iinc1 (pc := 52) dX3_measure_52 rfl ?_
          refine j_goto (pc := 55) (tgt := 7) dX3_measure_55 rfl ?_
          rw [nI_1]
          first
            | (refine ih (n + 1) _ (Q + 1) _ _ (by omega) hF.u9.u9.u10.uq hrows.2.2 (by rw [hrows.1, hrows.2.1]; exact hadd) (fun i hi => ?_) (fun n' h1 h2 h3 => ?_)
               · by_cases q : i = Q
                 · subst q; exact updN_s
                 · rw [updN_n q]; exact hd0 i (by omega)
               · by_cases q : n' = n
                 · subst q; exact ⟨Q, by omega, updN_s⟩
                 · obtain ⟨k, c1, c2⟩ := hf n' (by omega) h2 h3
                   exact ⟨k, by omega, by rw [updN_n (by omega)]; exact c2⟩)
            | (refine ih (n + 1) _ Q u d (by omega) hF.u9 hq1 hI1 hd0 (fun n' h1 h2 h3 => ?_)
               by_cases q : n' = n
               · subst q
                 first | exact absurd h3 hfn | exact absurd h2 h43
               · exact hf n' (by omega) h2 h3)
        · refine j_aload_n (pc := 46) dX3_measure_46 rfl ?_
          refine j_iload_n (pc := 47) dX3_measure_47 rfl ?_
          refine j_iconst (pc := 48) dX3_measure_48 (v := 0) (by decide) ?_
          refine j_callVv (pc := 49) dX3_measure_49 k_X3_124 (c_X3_enqueue hb 0 hq1 (by omega) (by omega)) (by first | rfl | with_reducible assumption) rfl rfl (by decide) rfl (Nat.le_of_ble_eq_true rfl) (fun σ1 hp => ?_)
          obtain rfl := hp
          have hrows := enq_rows (b := b) (n := n) (q := Q) (v := 0) (σ := m_up σ' (b + 9) n (-9))
          have hadd := hI1.add (n := n) (D := 0) (by omega) (m_eq _ _ _ _) (Nat.zero_le _) ⟨hn, decide_eq_true h43, hfn⟩ (fun i hi => by rw [hd0 i hi]; exact Nat.le_refl _) (by decide)
          refine j_iinc1 (pc := 52) dX3_measure_52 rfl ?_
          refine j_goto (pc := 55) (tgt := 7) dX3_measure_55 rfl ?_
          rw [nI_1]
          first
            | (refine ih (n + 1) _ (Q + 1) _ _ (by omega) hF.u9.u9.u10.uq hrows.2.2 (by rw [hrows.1, hrows.2.1]; exact hadd) (fun i hi => ?_) (fun n' h1 h2 h3 => ?_)
               · by_cases q : i = Q
                 · subst q; exact updN_s
                 · rw [updN_n q]; exact hd0 i (by omega)
               · by_cases q : n' = n
                 · subst q; exact ⟨Q, by omega, updN_s⟩
                 · obtain ⟨k, c1, c2⟩ := hf n' (by omega) h2 h3
                   exact ⟨k, by omega, by rw [updN_n (by omega)]; exact c2⟩)
            | (refine ih (n + 1) _ Q u d (by omega) hF.u9 hq1 hI1 hd0 (fun n' h1 h2 h3 => ?_)
               by_cases q : n' = n
               · subst q
                 first | exact absurd h3 hfn | exact absurd h2 h43
               · exact hf n' (by omega) h2 h3)
  refine EV.intro (by decide +kernel) (Nat.le_of_ble_eq_true rfl) ?_
  refine j_aload_n (pc := 0) dX3_measure_0 rfl ?_
  refine j_iconst (pc := 1) dX3_measure_1 (v := 0) (by decide) ?_
  refine j_put (pc := 2) dX3_measure_2 f_X3_43 (by first | rfl | with_reducible assumption) (by rfl) ?_
  refine j_iconst (pc := 5) dX3_measure_5 (v := 0) (by decide) ?_
  refine j_istore_n (pc := 6) dX3_measure_6 (by decide) ?_
  exact init J 0 _ 0 (fun _ => 0) (fun _ => 0) (by omega) FrQ.rf.uq (m_eq _ _ _ _) ⟨rfl, fun i hi => absurd hi (Nat.not_lt_zero _), fun i i' _ hi => absurd hi (Nat.not_lt_zero _), fun n hn => absurd hn (Nat.not_lt_zero _)⟩ (fun i hi => absurd hi (Nat.not_lt_zero _)) (fun n hn => absurd hn (Nat.not_lt_zero _))
end
section
/-! NET.nearerBy, NET.eventToFinish -/
def inR (J : Nat) (v : Int32) : Bool := decide (0 ≤ v.toInt ∧ v.toInt < J)
theorem inR_iff {J : Nat} {v : Int32} : inR J v = true ↔ vp_in v J := by simp [inR, vp_in_iff]
theorem inR_nI {J i : Nat} (h : i < J) (hJ : J < 2 ^ 31) : inR J (nI i) = true := inR_iff.mpr (vp_in_nI h hJ)
theorem inR_9 (J : Nat) : inR J (-9) = false := by
  unfold inR
  rw [ti_m9]
  simp
/-- a row at a number: NONE outside -/
def fo (J : Nat) (F : Nat → Int32) (v : Int32) : Int32 := if inR J v = true then F v.toNatClampNeg else -9
def nr (J : Nat) (F tg : Nat → Int32) (v : Int32) : Int32 := if 0 < fo J F v then lstE (fun e => decide (fo J F (tg (8 * v.toNatClampNeg + e)) = fo J F v - 1)) else -9
def tgo (J : Nat) (tg : Nat → Int32) (v e : Int32) : Int32 := if inR J v = true ∧ inR 8 e = true then tg (8 * v.toNatClampNeg + e.toNatClampNeg) else -9
def itr (f : Int32 → Int32) : Nat → Int32 → Int32
  | 0, v => v
  | k + 1, v => f (itr f k v)
def stpN (J : Nat) (F tg : Nat → Int32) (v : Int32) : Int32 := tgo J tg v (nr J F tg v)
theorem fo_nI {J i : Nat} {F : Nat → Int32} (h : i < J) (hJ : J < 2 ^ 31) : fo J F (nI i) = F i := by
  unfold fo
  rw [if_pos (inR_nI h hJ), nI_clamp (by omega)]
theorem nr_out {J : Nat} {F tg : Nat → Int32} {v : Int32} (h : ¬ inR J v = true) : nr J F tg v = -9 := by
  unfold nr
  have : fo J F v = -9 := if_neg h
  rw [this]
  exact if_neg (by decide)
theorem itr_out {J : Nat} {F tg : Nat → Int32} {v : Int32} {i : Nat} (h : ¬ inR J (itr (stpN J F tg) i v) = true) : ∀ k, i ≤ k → ¬ inR J (itr (stpN J F tg) k v) = true := by
  intro k hk
  induction hk with
  | refl => exact h
  | step _ ih =>
    have : itr (stpN J F tg) (_ + 1) v = -9 := if_neg (fun q => ih q.1)
    rw [this, inR_9]
    decide
theorem c_farOf' {b : Nat} (hb : IsN b) (n : Int32) {σ : Mm} {J : Nat} (hJ : σ b 13 = nI J) (hJ2 : J ≤ 150) : EV Γ1 1 yX3_farOf cX3_farOf 2 (some .int) [.inr b, .inl n] σ (vz (fo J (σ (b + 9)) n) σ) := by
  intro l D t ρ sz
  refine EV.mono (fun r σ' h => ?_) (c_X3_farOf hb n hJ hJ2) l D t ρ sz
  obtain ⟨h1, ⟨i, h2, rfl, rfl⟩ | ⟨h2, rfl⟩⟩ := h
  · exact ⟨h1, (fo_nI h2 (by omega)).symm⟩
  · exact ⟨h1, (if_neg (fun q => h2 (inR_iff.mp q))).symm⟩
theorem c_target' {b : Nat} (hb : IsN b) (n e : Int32) {σ : Mm} {J : Nat} (hJ : σ b 13 = nI J) (hJ2 : J ≤ 150) {tg : Nat → Int32} (ht : ∀ y, y < 8 * J → σ (b + 5) y = tg y) : EV Γ1 1 yX3_target cX3_target 3 (some .int) [.inr b, .inl n, .inl e] σ (vz (tgo J tg n e) σ) := by
  intro l D t ρ sz
  refine EV.mono (fun r σ' h => ?_) (c_X3_target hb n e hJ hJ2) l D t ρ sz
  obtain ⟨h1, ⟨i, j, h2, h3, rfl, rfl, rfl⟩ | ⟨h2, rfl⟩⟩ := h
  · refine ⟨h1, ?_⟩
    unfold tgo
    rw [if_pos ⟨inR_nI h2 (by omega), inR_nI h3 (by decide)⟩, nI_clamp (by omega), nI_clamp (by omega), ht _ (by omega)]
  · exact ⟨h1, (if_neg (fun q => h2 ⟨inR_iff.mp q.1, inR_iff.mp q.2⟩)).symm⟩
theorem c_X3_nearerBy {b : Nat} (hb : IsN b) (n : Int32) {σ : Mm} {J : Nat} (hJ : σ b 13 = nI J) (hJ2 : J ≤ 150) {tg : Nat → Int32} (ht : ∀ y, y < 8 * J → σ (b + 5) y = tg y) : EV Γ1 2 yX3_nearerBy cX3_nearerBy 3 (some .int) [.inr b, .inl n] σ (vz (nr J (σ (b + 9)) tg n) σ) := by
  have g0 := hb.1
  have loop : 0 < fo J (σ (b + 9)) n → ∀ (k e : Nat), e + k = 8 → (∀ j, j < e → decide (fo J (σ (b + 9)) (tg (8 * n.toNatClampNeg + j)) = fo J (σ (b + 9)) n - 1) = false) → AJ Γ1 2 RX3 cX3_nearerBy 3 (some .int) (vz (nr J (σ (b + 9)) tg n) σ) 10 [some (.inr b), some (.inl n), some (.inl (nI e))] [] σ := by
    intro h0
    have hin : inR J n = true := by
      apply Classical.byContradiction
      intro q
      have : fo J (σ (b + 9)) n = -9 := if_neg q
      rw [this] at h0
      exact absurd h0 (by decide)
    intro k
    induction k with
    | zero =>
      intro e he hj
      obtain rfl : e = 8 := by omega
      refine j_iload_n (pc := 10) dX3_nearerBy_10 rfl ?_
      refine j_bipush (pc := 11) dX3_nearerBy_11 (v := 8) (by decide) ?_
      refine j_icmp_ge (pc := 13) (tgt := 44) dX3_nearerBy_13 rfl (fun h13 => ?_) (fun h13 => absurd (by decide) h13)
      refine j_bipush (pc := 44) dX3_nearerBy_44 (v := (-9)) (by decide) ?_
      refine j_iret (pc := 46) dX3_nearerBy_46 ?_
      exact ⟨rfl, by unfold nr; rw [if_pos h0, lst_none hj]⟩
    | succ k ih =>
      intro e he hj
      have het : tgo J tg n (nI e) = tg (8 * n.toNatClampNeg + e) := by
        unfold tgo
        rw [if_pos ⟨hin, inR_nI (by omega) (by decide)⟩, nI_clamp (by omega)]
      refine j_iload_n (pc := 10) dX3_nearerBy_10 rfl ?_
      refine j_bipush (pc := 11) dX3_nearerBy_11 (v := 8) (by decide) ?_
      refine j_icmp_ge (pc := 13) (tgt := 44) dX3_nearerBy_13 rfl (fun h13 => absurd h13 (nI_ge (b := 8) (by omega) (by decide))) (fun h13 => ?_)
      refine j_aload_n (pc := 16) dX3_nearerBy_16 rfl ?_
      refine j_aload_n (pc := 17) dX3_nearerBy_17 rfl ?_
      refine j_iload_n (pc := 18) dX3_nearerBy_18 rfl ?_
      refine j_iload_n (pc := 19) dX3_nearerBy_19 rfl ?_
      refine j_callVi (pc := 20) dX3_nearerBy_20 k_X3_135 (c_target' hb _ _ hJ hJ2 ht) (by first | rfl | with_reducible assumption) rfl rfl (by decide) rfl (Nat.le_of_ble_eq_true rfl) (fun r σ1 hp => ?_)
      obtain ⟨rfl, rfl⟩ := hp
      refine j_top het ?_
      refine j_callVi (pc := 23) dX3_nearerBy_23 k_X3_136 (c_farOf' hb _ hJ hJ2) (by first | rfl | with_reducible assumption) rfl rfl (by decide) rfl (Nat.le_of_ble_eq_true rfl) (fun r σ1 hp => ?_)
      obtain ⟨rfl, rfl⟩ := hp
      refine j_aload_n (pc := 26) dX3_nearerBy_26 rfl ?_
      refine j_iload_n (pc := 27) dX3_nearerBy_27 rfl ?_
      refine j_callVi (pc := 28) dX3_nearerBy_28 k_X3_136 (c_farOf' hb _ hJ hJ2) (by first | rfl | with_reducible assumption) rfl rfl (by decide) rfl (Nat.le_of_ble_eq_true rfl) (fun r σ1 hp => ?_)
      obtain ⟨rfl, rfl⟩ := hp
      refine j_iconst (pc := 31) dX3_nearerBy_31 (v := 1) (by decide) ?_
      refine j_isub (pc := 32) dX3_nearerBy_32 ?_
      refine j_icmp_ne (pc := 33) (tgt := 38) dX3_nearerBy_33 rfl (fun h33 => ?_) (fun h33 => ?_)
      · refine j_iinc1 (pc := 38) dX3_nearerBy_38 rfl ?_
        refine j_goto (pc := 41) (tgt := 10) dX3_nearerBy_41 rfl ?_
        rw [nI_1]
        refine ih (e + 1) (by omega) (fun j hj2 => ?_)
        by_cases q : j = e
        · subst q; exact decide_eq_false h33
        · exact hj j (by omega)
      · refine j_iload_n (pc := 36) dX3_nearerBy_36 rfl ?_
        refine j_iret (pc := 37) dX3_nearerBy_37 ?_
        exact ⟨rfl, by unfold nr; rw [if_pos h0, lst_hit (by omega) (decide_eq_true h33) hj]⟩
  refine EV.intro (by decide +kernel) (Nat.le_of_ble_eq_true rfl) ?_
  refine j_aload_n (pc := 0) dX3_nearerBy_0 rfl ?_
  refine j_iload_n (pc := 1) dX3_nearerBy_1 rfl ?_
  refine j_callVi (pc := 2) dX3_nearerBy_2 k_X3_136 (c_farOf' hb _ hJ hJ2) (by first | rfl | with_reducible assumption) rfl rfl (by decide) rfl (Nat.le_of_ble_eq_true rfl) (fun r σ1 hp => ?_)
  obtain ⟨rfl, rfl⟩ := hp
  refine j_if_le (pc := 5) (tgt := 44) dX3_nearerBy_5 rfl (fun h5 => ?_) (fun h5 => ?_)
  · refine j_bipush (pc := 44) dX3_nearerBy_44 (v := (-9)) (by decide) ?_
    refine j_iret (pc := 46) dX3_nearerBy_46 ?_
    exact ⟨rfl, by unfold nr; rw [if_neg (fun q => absurd h5 (by (simp only [Int32.lt_iff_toInt_lt, Int32.le_iff_toInt_le, ← Int32.toInt_inj, vp_in_iff, ti_0, ti_1, ti_2, ti_3, ti_5, ti_6, ti_7, ti_8, ti_16, ti_48, ti_53, ti_60, ti_97, ti_104, ti_127, ti_149, ti_150, ti_151, ti_256, ti_1200, ti_m1, ti_m2, ti_m3, ti_m4, ti_m9] at *; omega)))]⟩
  · refine j_iconst (pc := 8) dX3_nearerBy_8 (v := 0) (by decide) ?_
    refine j_istore_n (pc := 9) dX3_nearerBy_9 (by decide) ?_
    exact loop (by (simp only [Int32.lt_iff_toInt_lt, Int32.le_iff_toInt_le, ← Int32.toInt_inj, vp_in_iff, ti_0, ti_1, ti_2, ti_3, ti_5, ti_6, ti_7, ti_8, ti_16, ti_48, ti_53, ti_60, ti_97, ti_104, ti_127, ti_149, ti_150, ti_151, ti_256, ti_1200, ti_m1, ti_m2, ti_m3, ti_m4, ti_m9] at *; omega)) 8 0 rfl (fun j h => absurd h (Nat.not_lt_zero _))
theorem c_X3_eventToFinish {b : Nat} (hb : IsN b) (n : Int32) {k : Nat} (hk : k < 150) {σ : Mm} {J : Nat} (hJ : σ b 13 = nI J) (hJ2 : J ≤ 150) {tg : Nat → Int32} (ht : ∀ y, y < 8 * J → σ (b + 5) y = tg y) : EV Γ1 3 yX3_eventToFinish cX3_eventToFinish 5 (some .int) [.inr b, .inl n, .inl (nI k)] σ (vz (nr J (σ (b + 9)) tg (itr (stpN J (σ (b + 9)) tg) k n)) σ) := by
  have g0 := hb.1
  have loop : ∀ (q i : Nat), i + q = k → AJ Γ1 3 RX3 cX3_eventToFinish 5 (some .int) (vz (nr J (σ (b + 9)) tg (itr (stpN J (σ (b + 9)) tg) k n)) σ) 5 [some (.inr b), some (.inl n), some (.inl (nI k)), some (.inl (itr (stpN J (σ (b + 9)) tg) i n)), some (.inl (nI i))] [] σ := by
    intro q
    induction q with
    | zero =>
      intro i hi
      obtain rfl : i = k := by omega
      refine j_iload (pc := 5) dX3_eventToFinish_5 rfl ?_
      refine j_iload_n (pc := 7) dX3_eventToFinish_7 rfl ?_
      refine j_icmp_ge (pc := 8) (tgt := 36) dX3_eventToFinish_8 rfl (fun h8 => ?_) (fun h8 => absurd (Int32.le_refl _) h8)
      refine j_aload_n (pc := 36) dX3_eventToFinish_36 rfl ?_
      refine j_iload_n (pc := 37) dX3_eventToFinish_37 rfl ?_
      refine j_callVi (pc := 38) dX3_eventToFinish_38 k_X3_132 (c_X3_nearerBy hb _ hJ hJ2 ht) (by first | rfl | with_reducible assumption) rfl rfl (by decide) rfl (Nat.le_of_ble_eq_true rfl) (fun r σ1 hp => ?_)
      obtain ⟨rfl, rfl⟩ := hp
      refine j_iret (pc := 41) dX3_eventToFinish_41 ?_
      exact ⟨rfl, rfl⟩
    | succ q ih =>
      intro i hi
      refine j_iload (pc := 5) dX3_eventToFinish_5 rfl ?_
      refine j_iload_n (pc := 7) dX3_eventToFinish_7 rfl ?_
      refine j_icmp_ge (pc := 8) (tgt := 36) dX3_eventToFinish_8 rfl (fun h8 => absurd h8 (nI_ge (by omega) (by omega))) (fun h8 => ?_)
      refine j_aload_n (pc := 11) dX3_eventToFinish_11 rfl ?_
      refine j_iload_n (pc := 12) dX3_eventToFinish_12 rfl ?_
      refine j_callVi (pc := 13) dX3_eventToFinish_13 k_X3_107 (c_X3_has hb _ hJ hJ2) (by first | rfl | with_reducible assumption) rfl rfl (by decide) rfl (Nat.le_of_ble_eq_true rfl) (fun r σ1 hp => ?_)
      obtain ⟨rfl, hp⟩ := hp
      rcases hp with ⟨q13, rfl⟩ | ⟨q13, rfl⟩
      · refine j_if_eq (pc := 16) (tgt := 36) dX3_eventToFinish_16 rfl (fun h => absurd h (by decide)) (fun _ => ?_)
        refine j_aload_n (pc := 19) dX3_eventToFinish_19 rfl ?_
        refine j_iload_n (pc := 20) dX3_eventToFinish_20 rfl ?_
        refine j_aload_n (pc := 21) dX3_eventToFinish_21 rfl ?_
        refine j_iload_n (pc := 22) dX3_eventToFinish_22 rfl ?_
        refine j_callVi (pc := 23) dX3_eventToFinish_23 k_X3_132 (c_X3_nearerBy hb _ hJ hJ2 ht) (by first | rfl | with_reducible assumption) rfl rfl (by decide) rfl (Nat.le_of_ble_eq_true rfl) (fun r σ1 hp => ?_)
        obtain ⟨rfl, rfl⟩ := hp
        refine j_callVi (pc := 26) dX3_eventToFinish_26 k_X3_135 (c_target' hb _ _ hJ hJ2 ht) (by first | rfl | with_reducible assumption) rfl rfl (by decide) rfl (Nat.le_of_ble_eq_true rfl) (fun r σ1 hp => ?_)
        obtain ⟨rfl, rfl⟩ := hp
        refine j_istore_n (pc := 29) dX3_eventToFinish_29 (by decide) ?_
        refine j_iinc1 (pc := 30) dX3_eventToFinish_30 rfl ?_
        refine j_goto (pc := 33) (tgt := 5) dX3_eventToFinish_33 rfl ?_
        rw [nI_1]
        exact ih (i + 1) (by omega)
      · refine j_if_eq (pc := 16) (tgt := 36) dX3_eventToFinish_16 rfl (fun _ => ?_) (fun h => absurd h (by decide))
        refine j_aload_n (pc := 36) dX3_eventToFinish_36 rfl ?_
        refine j_iload_n (pc := 37) dX3_eventToFinish_37 rfl ?_
        refine j_callVi (pc := 38) dX3_eventToFinish_38 k_X3_132 (c_X3_nearerBy hb _ hJ hJ2 ht) (by first | rfl | with_reducible assumption) rfl rfl (by decide) rfl (Nat.le_of_ble_eq_true rfl) (fun r σ1 hp => ?_)
        obtain ⟨rfl, rfl⟩ := hp
        refine j_iret (pc := 41) dX3_eventToFinish_41 ?_
        have ho : ¬ inR J (itr (stpN J (σ (b + 9)) tg) i n) = true := fun z => q13 (inR_iff.mp z)
        exact ⟨rfl, by rw [nr_out ho, nr_out (itr_out ho k (by omega))]⟩
  refine EV.intro (by decide +kernel) (Nat.le_of_ble_eq_true rfl) ?_
  refine j_iload_n (pc := 0) dX3_eventToFinish_0 rfl ?_
  refine j_istore_n (pc := 1) dX3_eventToFinish_1 (by decide) ?_
  refine j_iconst (pc := 2) dX3_eventToFinish_2 (v := 0) (by decide) ?_
  refine j_istore (pc := 3) dX3_eventToFinish_3 (by decide) ?_
  exact loop k 0 (by omega)
end
