section
-- ===== PART A: goes FIRST, ahead of the names: the tables' words, and 'selects' of the private methods out of them =====
/-- a private method of a class that the tables say can be made, by its rows of tables_1 -/
def lw_okq (q : MethodName × Nat) : Prop := (q.1.cls ≠ "java/lang/invoke/MethodHandle" ∧ q.1.cls ≠ "java/lang/invoke/VarHandle") ∧ Cond.instantiable q.1.cls q.2 ∈ tables_1 ∧ Cond.privateMethod q.1 ∈ tables_1 ∧ Cond.instanceMethod q.1 ∈ tables_1
theorem lw_p0 : lw_okq (⟨"LeastBars", "joinAnew", "()V"⟩, 12) := ⟨⟨by decide +kernel, by decide +kernel⟩, List.mem_of_getElem? (i := 14) (by decide +kernel), List.mem_of_getElem? (i := 230) (by decide +kernel), List.mem_of_getElem? (i := 231) (by decide +kernel)⟩
theorem lw_p1 : lw_okq (⟨"LeastBars", "setOfAllMachines", "()I"⟩, 12) := ⟨⟨by decide +kernel, by decide +kernel⟩, List.mem_of_getElem? (i := 14) (by decide +kernel), List.mem_of_getElem? (i := 234) (by decide +kernel), List.mem_of_getElem? (i := 235) (by decide +kernel)⟩
theorem lw_p2 : lw_okq (⟨"LeastBars$Net", "join", "([LLeastBars$Machine;I)V"⟩, 15) := ⟨⟨by decide +kernel, by decide +kernel⟩, List.mem_of_getElem? (i := 92) (by decide +kernel), List.mem_of_getElem? (i := 238) (by decide +kernel), List.mem_of_getElem? (i := 239) (by decide +kernel)⟩
theorem lw_p3 : lw_okq (⟨"LeastBars$Net", "gatherAlphabets", "([LLeastBars$Machine;I)V"⟩, 15) := ⟨⟨by decide +kernel, by decide +kernel⟩, List.mem_of_getElem? (i := 92) (by decide +kernel), List.mem_of_getElem? (i := 243) (by decide +kernel), List.mem_of_getElem? (i := 244) (by decide +kernel)⟩
theorem lw_p4 : lw_okq (⟨"LeastBars$Net", "meet", "(I)I"⟩, 15) := ⟨⟨by decide +kernel, by decide +kernel⟩, List.mem_of_getElem? (i := 92) (by decide +kernel), List.mem_of_getElem? (i := 250) (by decide +kernel), List.mem_of_getElem? (i := 251) (by decide +kernel)⟩
theorem lw_p5 : lw_okq (⟨"LeastBars$Net", "add", "(I)I"⟩, 15) := ⟨⟨by decide +kernel, by decide +kernel⟩, List.mem_of_getElem? (i := 92) (by decide +kernel), List.mem_of_getElem? (i := 255) (by decide +kernel), List.mem_of_getElem? (i := 256) (by decide +kernel)⟩
theorem lw_p6 : lw_okq (⟨"LeastBars$Net", "spreadFrom", "(I[LLeastBars$Machine;I)V"⟩, 15) := ⟨⟨by decide +kernel, by decide +kernel⟩, List.mem_of_getElem? (i := 92) (by decide +kernel), List.mem_of_getElem? (i := 262) (by decide +kernel), List.mem_of_getElem? (i := 263) (by decide +kernel)⟩
theorem lw_p7 : lw_okq (⟨"LeastBars$Net", "stateIn", "(II)I"⟩, 15) := ⟨⟨by decide +kernel, by decide +kernel⟩, List.mem_of_getElem? (i := 92) (by decide +kernel), List.mem_of_getElem? (i := 266) (by decide +kernel), List.mem_of_getElem? (i := 267) (by decide +kernel)⟩
theorem lw_p8 : lw_okq (⟨"LeastBars$Net", "has", "(I)Z"⟩, 15) := ⟨⟨by decide +kernel, by decide +kernel⟩, List.mem_of_getElem? (i := 92) (by decide +kernel), List.mem_of_getElem? (i := 270) (by decide +kernel), List.mem_of_getElem? (i := 271) (by decide +kernel)⟩
theorem lw_p9 : lw_okq (⟨"LeastBars$Machine", "missingSet", "(I)I"⟩, 7) := ⟨⟨by decide +kernel, by decide +kernel⟩, List.mem_of_getElem? (i := 56) (by decide +kernel), List.mem_of_getElem? (i := 274) (by decide +kernel), List.mem_of_getElem? (i := 275) (by decide +kernel)⟩
theorem lw_p10 : lw_okq (⟨"LeastBars$Net", "allMarked", "(I[LLeastBars$Machine;I)Z"⟩, 15) := ⟨⟨by decide +kernel, by decide +kernel⟩, List.mem_of_getElem? (i := 92) (by decide +kernel), List.mem_of_getElem? (i := 281) (by decide +kernel), List.mem_of_getElem? (i := 282) (by decide +kernel)⟩
theorem lw_p11 : lw_okq (⟨"LeastBars$Net", "codeBehind", "(II[LLeastBars$Machine;I)I"⟩, 15) := ⟨⟨by decide +kernel, by decide +kernel⟩, List.mem_of_getElem? (i := 92) (by decide +kernel), List.mem_of_getElem? (i := 285) (by decide +kernel), List.mem_of_getElem? (i := 286) (by decide +kernel)⟩
theorem lw_p12 : lw_okq (⟨"LeastBars$Machine", "target", "(II)I"⟩, 7) := ⟨⟨by decide +kernel, by decide +kernel⟩, List.mem_of_getElem? (i := 56) (by decide +kernel), List.mem_of_getElem? (i := 289) (by decide +kernel), List.mem_of_getElem? (i := 290) (by decide +kernel)⟩
theorem lw_p13 : lw_okq (⟨"LeastBars$Net", "addEdge", "(III)V"⟩, 15) := ⟨⟨by decide +kernel, by decide +kernel⟩, List.mem_of_getElem? (i := 92) (by decide +kernel), List.mem_of_getElem? (i := 296) (by decide +kernel), List.mem_of_getElem? (i := 297) (by decide +kernel)⟩
theorem lw_p14 : lw_okq (⟨"LeastBars", "controlAnew", "()V"⟩, 12) := ⟨⟨by decide +kernel, by decide +kernel⟩, List.mem_of_getElem? (i := 14) (by decide +kernel), List.mem_of_getElem? (i := 300) (by decide +kernel), List.mem_of_getElem? (i := 301) (by decide +kernel)⟩
theorem lw_p15 : lw_okq (⟨"LeastBars$Losses", "sift", "(LLeastBars$Net;I)V"⟩, 7) := ⟨⟨by decide +kernel, by decide +kernel⟩, List.mem_of_getElem? (i := 152) (by decide +kernel), List.mem_of_getElem? (i := 304) (by decide +kernel), List.mem_of_getElem? (i := 305) (by decide +kernel)⟩
def lw_privs_1 : List (MethodName × Nat) := [(⟨"LeastBars", "joinAnew", "()V"⟩, 12), (⟨"LeastBars", "setOfAllMachines", "()I"⟩, 12), (⟨"LeastBars$Net", "join", "([LLeastBars$Machine;I)V"⟩, 15), (⟨"LeastBars$Net", "gatherAlphabets", "([LLeastBars$Machine;I)V"⟩, 15), (⟨"LeastBars$Net", "meet", "(I)I"⟩, 15), (⟨"LeastBars$Net", "add", "(I)I"⟩, 15), (⟨"LeastBars$Net", "spreadFrom", "(I[LLeastBars$Machine;I)V"⟩, 15), (⟨"LeastBars$Net", "stateIn", "(II)I"⟩, 15), (⟨"LeastBars$Net", "has", "(I)Z"⟩, 15), (⟨"LeastBars$Machine", "missingSet", "(I)I"⟩, 7), (⟨"LeastBars$Net", "allMarked", "(I[LLeastBars$Machine;I)Z"⟩, 15), (⟨"LeastBars$Net", "codeBehind", "(II[LLeastBars$Machine;I)I"⟩, 15), (⟨"LeastBars$Machine", "target", "(II)I"⟩, 7), (⟨"LeastBars$Net", "addEdge", "(III)V"⟩, 15), (⟨"LeastBars", "controlAnew", "()V"⟩, 12), (⟨"LeastBars$Losses", "sift", "(LLeastBars$Net;I)V"⟩, 7)]
theorem lw_r1 : ∀ q ∈ lw_privs_1, lw_okq q := List.forall_mem_cons.mpr ⟨lw_p0, List.forall_mem_cons.mpr ⟨lw_p1, List.forall_mem_cons.mpr ⟨lw_p2, List.forall_mem_cons.mpr ⟨lw_p3, List.forall_mem_cons.mpr ⟨lw_p4, List.forall_mem_cons.mpr ⟨lw_p5, List.forall_mem_cons.mpr ⟨lw_p6, List.forall_mem_cons.mpr ⟨lw_p7, List.forall_mem_cons.mpr ⟨lw_p8, List.forall_mem_cons.mpr ⟨lw_p9, List.forall_mem_cons.mpr ⟨lw_p10, List.forall_mem_cons.mpr ⟨lw_p11, List.forall_mem_cons.mpr ⟨lw_p12, List.forall_mem_cons.mpr ⟨lw_p13, List.forall_mem_cons.mpr ⟨lw_p14, List.forall_mem_cons.mpr ⟨lw_p15, fun _ h => absurd h List.not_mem_nil⟩⟩⟩⟩⟩⟩⟩⟩⟩⟩⟩⟩⟩⟩⟩⟩
theorem lw_p16 : lw_okq (⟨"LeastBars$Losses", "loseClashing", "(LLeastBars$Net;I)V"⟩, 7) := ⟨⟨by decide +kernel, by decide +kernel⟩, List.mem_of_getElem? (i := 152) (by decide +kernel), List.mem_of_getElem? (i := 309) (by decide +kernel), List.mem_of_getElem? (i := 310) (by decide +kernel)⟩
theorem lw_p17 : lw_okq (⟨"LeastBars$Net", "clashSet", "(II)I"⟩, 15) := ⟨⟨by decide +kernel, by decide +kernel⟩, List.mem_of_getElem? (i := 92) (by decide +kernel), List.mem_of_getElem? (i := 313) (by decide +kernel), List.mem_of_getElem? (i := 314) (by decide +kernel)⟩
theorem lw_p18 : lw_okq (⟨"LeastBars$Losses", "lose", "(IIII)V"⟩, 7) := ⟨⟨by decide +kernel, by decide +kernel⟩, List.mem_of_getElem? (i := 152) (by decide +kernel), List.mem_of_getElem? (i := 321) (by decide +kernel), List.mem_of_getElem? (i := 322) (by decide +kernel)⟩
theorem lw_p19 : lw_okq (⟨"LeastBars$Losses", "losePushed", "(LLeastBars$Net;I)V"⟩, 7) := ⟨⟨by decide +kernel, by decide +kernel⟩, List.mem_of_getElem? (i := 152) (by decide +kernel), List.mem_of_getElem? (i := 326) (by decide +kernel), List.mem_of_getElem? (i := 327) (by decide +kernel)⟩
theorem lw_p20 : lw_okq (⟨"LeastBars$Net", "leadSet", "(I)I"⟩, 15) := ⟨⟨by decide +kernel, by decide +kernel⟩, List.mem_of_getElem? (i := 92) (by decide +kernel), List.mem_of_getElem? (i := 330) (by decide +kernel), List.mem_of_getElem? (i := 331) (by decide +kernel)⟩
theorem lw_p21 : lw_okq (⟨"LeastBars$Losses", "isLost", "(I)Z"⟩, 7) := ⟨⟨by decide +kernel, by decide +kernel⟩, List.mem_of_getElem? (i := 152) (by decide +kernel), List.mem_of_getElem? (i := 334) (by decide +kernel), List.mem_of_getElem? (i := 335) (by decide +kernel)⟩
theorem lw_p22 : lw_okq (⟨"LeastBars$Losses", "waveOf", "(I)I"⟩, 7) := ⟨⟨by decide +kernel, by decide +kernel⟩, List.mem_of_getElem? (i := 152) (by decide +kernel), List.mem_of_getElem? (i := 338) (by decide +kernel), List.mem_of_getElem? (i := 339) (by decide +kernel)⟩
theorem lw_p23 : lw_okq (⟨"LeastBars$Losses", "losePushedBy", "(LLeastBars$Net;II)V"⟩, 7) := ⟨⟨by decide +kernel, by decide +kernel⟩, List.mem_of_getElem? (i := 152) (by decide +kernel), List.mem_of_getElem? (i := 342) (by decide +kernel), List.mem_of_getElem? (i := 343) (by decide +kernel)⟩
theorem lw_p24 : lw_okq (⟨"LeastBars$Net", "target", "(II)I"⟩, 15) := ⟨⟨by decide +kernel, by decide +kernel⟩, List.mem_of_getElem? (i := 92) (by decide +kernel), List.mem_of_getElem? (i := 347) (by decide +kernel), List.mem_of_getElem? (i := 348) (by decide +kernel)⟩
theorem lw_p25 : lw_okq (⟨"LeastBars$Losses", "isLostInEarlierWave", "(I)Z"⟩, 7) := ⟨⟨by decide +kernel, by decide +kernel⟩, List.mem_of_getElem? (i := 152) (by decide +kernel), List.mem_of_getElem? (i := 352) (by decide +kernel), List.mem_of_getElem? (i := 353) (by decide +kernel)⟩
theorem lw_p26 : lw_okq (⟨"LeastBars$Losses", "loseStuck", "(LLeastBars$Net;)V"⟩, 7) := ⟨⟨by decide +kernel, by decide +kernel⟩, List.mem_of_getElem? (i := 152) (by decide +kernel), List.mem_of_getElem? (i := 356) (by decide +kernel), List.mem_of_getElem? (i := 357) (by decide +kernel)⟩
theorem lw_p27 : lw_okq (⟨"LeastBars$Net", "measure", "([I)V"⟩, 15) := ⟨⟨by decide +kernel, by decide +kernel⟩, List.mem_of_getElem? (i := 92) (by decide +kernel), List.mem_of_getElem? (i := 360) (by decide +kernel), List.mem_of_getElem? (i := 361) (by decide +kernel)⟩
theorem lw_p28 : lw_okq (⟨"LeastBars$Net", "enqueue", "(II)V"⟩, 15) := ⟨⟨by decide +kernel, by decide +kernel⟩, List.mem_of_getElem? (i := 92) (by decide +kernel), List.mem_of_getElem? (i := 364) (by decide +kernel), List.mem_of_getElem? (i := 365) (by decide +kernel)⟩
theorem lw_p29 : lw_okq (⟨"LeastBars$Net", "measureBackFrom", "(I[I)V"⟩, 15) := ⟨⟨by decide +kernel, by decide +kernel⟩, List.mem_of_getElem? (i := 92) (by decide +kernel), List.mem_of_getElem? (i := 368) (by decide +kernel), List.mem_of_getElem? (i := 369) (by decide +kernel)⟩
theorem lw_p30 : lw_okq (⟨"LeastBars$Net", "farOf", "(I)I"⟩, 15) := ⟨⟨by decide +kernel, by decide +kernel⟩, List.mem_of_getElem? (i := 92) (by decide +kernel), List.mem_of_getElem? (i := 372) (by decide +kernel), List.mem_of_getElem? (i := 373) (by decide +kernel)⟩
theorem lw_p31 : lw_okq (⟨"LeastBars$Control", "spread", "(LLeastBars$Net;LLeastBars$Losses;)V"⟩, 6) := ⟨⟨by decide +kernel, by decide +kernel⟩, List.mem_of_getElem? (i := 182) (by decide +kernel), List.mem_of_getElem? (i := 376) (by decide +kernel), List.mem_of_getElem? (i := 377) (by decide +kernel)⟩
def lw_privs_2 : List (MethodName × Nat) := [(⟨"LeastBars$Losses", "loseClashing", "(LLeastBars$Net;I)V"⟩, 7), (⟨"LeastBars$Net", "clashSet", "(II)I"⟩, 15), (⟨"LeastBars$Losses", "lose", "(IIII)V"⟩, 7), (⟨"LeastBars$Losses", "losePushed", "(LLeastBars$Net;I)V"⟩, 7), (⟨"LeastBars$Net", "leadSet", "(I)I"⟩, 15), (⟨"LeastBars$Losses", "isLost", "(I)Z"⟩, 7), (⟨"LeastBars$Losses", "waveOf", "(I)I"⟩, 7), (⟨"LeastBars$Losses", "losePushedBy", "(LLeastBars$Net;II)V"⟩, 7), (⟨"LeastBars$Net", "target", "(II)I"⟩, 15), (⟨"LeastBars$Losses", "isLostInEarlierWave", "(I)Z"⟩, 7), (⟨"LeastBars$Losses", "loseStuck", "(LLeastBars$Net;)V"⟩, 7), (⟨"LeastBars$Net", "measure", "([I)V"⟩, 15), (⟨"LeastBars$Net", "enqueue", "(II)V"⟩, 15), (⟨"LeastBars$Net", "measureBackFrom", "(I[I)V"⟩, 15), (⟨"LeastBars$Net", "farOf", "(I)I"⟩, 15), (⟨"LeastBars$Control", "spread", "(LLeastBars$Net;LLeastBars$Losses;)V"⟩, 6)]
theorem lw_r2 : ∀ q ∈ lw_privs_2, lw_okq q := List.forall_mem_cons.mpr ⟨lw_p16, List.forall_mem_cons.mpr ⟨lw_p17, List.forall_mem_cons.mpr ⟨lw_p18, List.forall_mem_cons.mpr ⟨lw_p19, List.forall_mem_cons.mpr ⟨lw_p20, List.forall_mem_cons.mpr ⟨lw_p21, List.forall_mem_cons.mpr ⟨lw_p22, List.forall_mem_cons.mpr ⟨lw_p23, List.forall_mem_cons.mpr ⟨lw_p24, List.forall_mem_cons.mpr ⟨lw_p25, List.forall_mem_cons.mpr ⟨lw_p26, List.forall_mem_cons.mpr ⟨lw_p27, List.forall_mem_cons.mpr ⟨lw_p28, List.forall_mem_cons.mpr ⟨lw_p29, List.forall_mem_cons.mpr ⟨lw_p30, List.forall_mem_cons.mpr ⟨lw_p31, fun _ h => absurd h List.not_mem_nil⟩⟩⟩⟩⟩⟩⟩⟩⟩⟩⟩⟩⟩⟩⟩⟩
theorem lw_p32 : lw_okq (⟨"LeastBars$Control", "comeTo", "(III)V"⟩, 6) := ⟨⟨by decide +kernel, by decide +kernel⟩, List.mem_of_getElem? (i := 182) (by decide +kernel), List.mem_of_getElem? (i := 383) (by decide +kernel), List.mem_of_getElem? (i := 384) (by decide +kernel)⟩
theorem lw_p33 : lw_okq (⟨"LeastBars$Control", "spreadFrom", "(ILLeastBars$Net;LLeastBars$Losses;)V"⟩, 6) := ⟨⟨by decide +kernel, by decide +kernel⟩, List.mem_of_getElem? (i := 182) (by decide +kernel), List.mem_of_getElem? (i := 387) (by decide +kernel), List.mem_of_getElem? (i := 388) (by decide +kernel)⟩
theorem lw_p34 : lw_okq (⟨"LeastBars$Control", "holds", "(I)Z"⟩, 6) := ⟨⟨by decide +kernel, by decide +kernel⟩, List.mem_of_getElem? (i := 182) (by decide +kernel), List.mem_of_getElem? (i := 395) (by decide +kernel), List.mem_of_getElem? (i := 396) (by decide +kernel)⟩
theorem lw_p35 : lw_okq (⟨"LeastBars$Control", "depthOf", "(I)I"⟩, 6) := ⟨⟨by decide +kernel, by decide +kernel⟩, List.mem_of_getElem? (i := 182) (by decide +kernel), List.mem_of_getElem? (i := 399) (by decide +kernel), List.mem_of_getElem? (i := 400) (by decide +kernel)⟩
theorem lw_p36 : lw_okq (⟨"LeastBars$Trail", "begin", "()V"⟩, 4) := ⟨⟨by decide +kernel, by decide +kernel⟩, List.mem_of_getElem? (i := 209) (by decide +kernel), List.mem_of_getElem? (i := 409) (by decide +kernel), List.mem_of_getElem? (i := 410) (by decide +kernel)⟩
theorem lw_p37 : lw_okq (⟨"LeastBars$Tape", "put", "(I)Z"⟩, 2) := ⟨⟨by decide +kernel, by decide +kernel⟩, List.mem_of_getElem? (i := 22) (by decide +kernel), List.mem_of_getElem? (i := 454) (by decide +kernel), List.mem_of_getElem? (i := 455) (by decide +kernel)⟩
theorem lw_p38 : lw_okq (⟨"LeastBars$Tape", "clear", "()V"⟩, 2) := ⟨⟨by decide +kernel, by decide +kernel⟩, List.mem_of_getElem? (i := 22) (by decide +kernel), List.mem_of_getElem? (i := 462) (by decide +kernel), List.mem_of_getElem? (i := 463) (by decide +kernel)⟩
theorem lw_p39 : lw_okq (⟨"LeastBars$Reader", "read", "(LLeastBars$Tape;LLeastBars$Machine;I)I"⟩, 3) := ⟨⟨by decide +kernel, by decide +kernel⟩, List.mem_of_getElem? (i := 39) (by decide +kernel), List.mem_of_getElem? (i := 470) (by decide +kernel), List.mem_of_getElem? (i := 471) (by decide +kernel)⟩
theorem lw_p40 : lw_okq (⟨"LeastBars$Machine", "clear", "(I)V"⟩, 7) := ⟨⟨by decide +kernel, by decide +kernel⟩, List.mem_of_getElem? (i := 56) (by decide +kernel), List.mem_of_getElem? (i := 474) (by decide +kernel), List.mem_of_getElem? (i := 475) (by decide +kernel)⟩
theorem lw_p41 : lw_okq (⟨"LeastBars$Reader", "takes", "(ILLeastBars$Machine;)Z"⟩, 3) := ⟨⟨by decide +kernel, by decide +kernel⟩, List.mem_of_getElem? (i := 39) (by decide +kernel), List.mem_of_getElem? (i := 479) (by decide +kernel), List.mem_of_getElem? (i := 480) (by decide +kernel)⟩
theorem lw_p42 : lw_okq (⟨"LeastBars$Reader", "opensItem", "(I)Z"⟩, 3) := ⟨⟨by decide +kernel, by decide +kernel⟩, List.mem_of_getElem? (i := 39) (by decide +kernel), List.mem_of_getElem? (i := 483) (by decide +kernel), List.mem_of_getElem? (i := 484) (by decide +kernel)⟩
theorem lw_p43 : lw_okq (⟨"LeastBars$Reader", "takesLetter", "(I)Z"⟩, 3) := ⟨⟨by decide +kernel, by decide +kernel⟩, List.mem_of_getElem? (i := 39) (by decide +kernel), List.mem_of_getElem? (i := 488) (by decide +kernel), List.mem_of_getElem? (i := 489) (by decide +kernel)⟩
theorem lw_p44 : lw_okq (⟨"LeastBars$Reader", "takesFigure", "(ILLeastBars$Machine;)Z"⟩, 3) := ⟨⟨by decide +kernel, by decide +kernel⟩, List.mem_of_getElem? (i := 39) (by decide +kernel), List.mem_of_getElem? (i := 493) (by decide +kernel), List.mem_of_getElem? (i := 494) (by decide +kernel)⟩
theorem lw_p45 : lw_okq (⟨"LeastBars$Machine", "tellStep", "(III)Z"⟩, 7) := ⟨⟨by decide +kernel, by decide +kernel⟩, List.mem_of_getElem? (i := 56) (by decide +kernel), List.mem_of_getElem? (i := 497) (by decide +kernel), List.mem_of_getElem? (i := 498) (by decide +kernel)⟩
theorem lw_p46 : lw_okq (⟨"LeastBars$Reader", "takesMark", "(ILLeastBars$Machine;)Z"⟩, 3) := ⟨⟨by decide +kernel, by decide +kernel⟩, List.mem_of_getElem? (i := 39) (by decide +kernel), List.mem_of_getElem? (i := 504) (by decide +kernel), List.mem_of_getElem? (i := 505) (by decide +kernel)⟩
theorem lw_p47 : lw_okq (⟨"LeastBars$Machine", "tellMarked", "(I)Z"⟩, 7) := ⟨⟨by decide +kernel, by decide +kernel⟩, List.mem_of_getElem? (i := 56) (by decide +kernel), List.mem_of_getElem? (i := 508) (by decide +kernel), List.mem_of_getElem? (i := 509) (by decide +kernel)⟩
def lw_privs_3 : List (MethodName × Nat) := [(⟨"LeastBars$Control", "comeTo", "(III)V"⟩, 6), (⟨"LeastBars$Control", "spreadFrom", "(ILLeastBars$Net;LLeastBars$Losses;)V"⟩, 6), (⟨"LeastBars$Control", "holds", "(I)Z"⟩, 6), (⟨"LeastBars$Control", "depthOf", "(I)I"⟩, 6), (⟨"LeastBars$Trail", "begin", "()V"⟩, 4), (⟨"LeastBars$Tape", "put", "(I)Z"⟩, 2), (⟨"LeastBars$Tape", "clear", "()V"⟩, 2), (⟨"LeastBars$Reader", "read", "(LLeastBars$Tape;LLeastBars$Machine;I)I"⟩, 3), (⟨"LeastBars$Machine", "clear", "(I)V"⟩, 7), (⟨"LeastBars$Reader", "takes", "(ILLeastBars$Machine;)Z"⟩, 3), (⟨"LeastBars$Reader", "opensItem", "(I)Z"⟩, 3), (⟨"LeastBars$Reader", "takesLetter", "(I)Z"⟩, 3), (⟨"LeastBars$Reader", "takesFigure", "(ILLeastBars$Machine;)Z"⟩, 3), (⟨"LeastBars$Machine", "tellStep", "(III)Z"⟩, 7), (⟨"LeastBars$Reader", "takesMark", "(ILLeastBars$Machine;)Z"⟩, 3), (⟨"LeastBars$Machine", "tellMarked", "(I)Z"⟩, 7)]
theorem lw_r3 : ∀ q ∈ lw_privs_3, lw_okq q := List.forall_mem_cons.mpr ⟨lw_p32, List.forall_mem_cons.mpr ⟨lw_p33, List.forall_mem_cons.mpr ⟨lw_p34, List.forall_mem_cons.mpr ⟨lw_p35, List.forall_mem_cons.mpr ⟨lw_p36, List.forall_mem_cons.mpr ⟨lw_p37, List.forall_mem_cons.mpr ⟨lw_p38, List.forall_mem_cons.mpr ⟨lw_p39, List.forall_mem_cons.mpr ⟨lw_p40, List.forall_mem_cons.mpr ⟨lw_p41, List.forall_mem_cons.mpr ⟨lw_p42, List.forall_mem_cons.mpr ⟨lw_p43, List.forall_mem_cons.mpr ⟨lw_p44, List.forall_mem_cons.mpr ⟨lw_p45, List.forall_mem_cons.mpr ⟨lw_p46, List.forall_mem_cons.mpr ⟨lw_p47, fun _ h => absurd h List.not_mem_nil⟩⟩⟩⟩⟩⟩⟩⟩⟩⟩⟩⟩⟩⟩⟩⟩
theorem lw_p48 : lw_okq (⟨"LeastBars$Reader", "takesName", "(ILLeastBars$Machine;)Z"⟩, 3) := ⟨⟨by decide +kernel, by decide +kernel⟩, List.mem_of_getElem? (i := 39) (by decide +kernel), List.mem_of_getElem? (i := 512) (by decide +kernel), List.mem_of_getElem? (i := 513) (by decide +kernel)⟩
theorem lw_p49 : lw_okq (⟨"LeastBars$Machine", "tellEvent", "(I)Z"⟩, 7) := ⟨⟨by decide +kernel, by decide +kernel⟩, List.mem_of_getElem? (i := 56) (by decide +kernel), List.mem_of_getElem? (i := 516) (by decide +kernel), List.mem_of_getElem? (i := 517) (by decide +kernel)⟩
theorem lw_p50 : lw_okq (⟨"LeastBars$Reader", "takesBlank", "(I)Z"⟩, 3) := ⟨⟨by decide +kernel, by decide +kernel⟩, List.mem_of_getElem? (i := 39) (by decide +kernel), List.mem_of_getElem? (i := 520) (by decide +kernel), List.mem_of_getElem? (i := 521) (by decide +kernel)⟩
theorem lw_p51 : lw_okq (⟨"LeastBars", "isMachine", "(I)Z"⟩, 12) := ⟨⟨by decide +kernel, by decide +kernel⟩, List.mem_of_getElem? (i := 14) (by decide +kernel), List.mem_of_getElem? (i := 541) (by decide +kernel), List.mem_of_getElem? (i := 542) (by decide +kernel)⟩
theorem lw_p52 : lw_okq (⟨"LeastBars$Net", "isFinished", "(I)Z"⟩, 15) := ⟨⟨by decide +kernel, by decide +kernel⟩, List.mem_of_getElem? (i := 92) (by decide +kernel), List.mem_of_getElem? (i := 566) (by decide +kernel), List.mem_of_getElem? (i := 567) (by decide +kernel)⟩
theorem lw_p53 : lw_okq (⟨"LeastBars$Control", "barredSet", "(I)I"⟩, 6) := ⟨⟨by decide +kernel, by decide +kernel⟩, List.mem_of_getElem? (i := 182) (by decide +kernel), List.mem_of_getElem? (i := 575) (by decide +kernel), List.mem_of_getElem? (i := 576) (by decide +kernel)⟩
theorem lw_p54 : lw_okq (⟨"LeastBars$Losses", "linkBehind", "(II)I"⟩, 7) := ⟨⟨by decide +kernel, by decide +kernel⟩, List.mem_of_getElem? (i := 152) (by decide +kernel), List.mem_of_getElem? (i := 583) (by decide +kernel), List.mem_of_getElem? (i := 584) (by decide +kernel)⟩
theorem lw_p55 : lw_okq (⟨"LeastBars$Losses", "reasonOf", "(I)I"⟩, 7) := ⟨⟨by decide +kernel, by decide +kernel⟩, List.mem_of_getElem? (i := 152) (by decide +kernel), List.mem_of_getElem? (i := 587) (by decide +kernel), List.mem_of_getElem? (i := 588) (by decide +kernel)⟩
theorem lw_p56 : lw_okq (⟨"LeastBars$Losses", "eventOf", "(I)I"⟩, 7) := ⟨⟨by decide +kernel, by decide +kernel⟩, List.mem_of_getElem? (i := 152) (by decide +kernel), List.mem_of_getElem? (i := 591) (by decide +kernel), List.mem_of_getElem? (i := 592) (by decide +kernel)⟩
theorem lw_p57 : lw_okq (⟨"LeastBars$Losses", "hasWave", "(I)Z"⟩, 7) := ⟨⟨by decide +kernel, by decide +kernel⟩, List.mem_of_getElem? (i := 152) (by decide +kernel), List.mem_of_getElem? (i := 599) (by decide +kernel), List.mem_of_getElem? (i := 600) (by decide +kernel)⟩
theorem lw_p58 : lw_okq (⟨"LeastBars$Losses", "sizeOfWave", "(I)I"⟩, 7) := ⟨⟨by decide +kernel, by decide +kernel⟩, List.mem_of_getElem? (i := 152) (by decide +kernel), List.mem_of_getElem? (i := 603) (by decide +kernel), List.mem_of_getElem? (i := 604) (by decide +kernel)⟩
theorem lw_p59 : lw_okq (⟨"LeastBars", "joinPart", "(I)V"⟩, 12) := ⟨⟨by decide +kernel, by decide +kernel⟩, List.mem_of_getElem? (i := 14) (by decide +kernel), List.mem_of_getElem? (i := 611) (by decide +kernel), List.mem_of_getElem? (i := 612) (by decide +kernel)⟩
theorem lw_p60 : lw_okq (⟨"LeastBars$Net", "countStuck", "()I"⟩, 15) := ⟨⟨by decide +kernel, by decide +kernel⟩, List.mem_of_getElem? (i := 92) (by decide +kernel), List.mem_of_getElem? (i := 616) (by decide +kernel), List.mem_of_getElem? (i := 617) (by decide +kernel)⟩
theorem lw_p61 : lw_okq (⟨"LeastBars$Trail", "moveTo", "(I)V"⟩, 4) := ⟨⟨by decide +kernel, by decide +kernel⟩, List.mem_of_getElem? (i := 209) (by decide +kernel), List.mem_of_getElem? (i := 624) (by decide +kernel), List.mem_of_getElem? (i := 625) (by decide +kernel)⟩
theorem lw_p62 : lw_okq (⟨"LeastBars$Trail", "turnBack", "()Z"⟩, 4) := ⟨⟨by decide +kernel, by decide +kernel⟩, List.mem_of_getElem? (i := 209) (by decide +kernel), List.mem_of_getElem? (i := 635) (by decide +kernel), List.mem_of_getElem? (i := 636) (by decide +kernel)⟩
theorem lw_p63 : lw_okq (⟨"LeastBars$Net", "eventToFinish", "(II)I"⟩, 15) := ⟨⟨by decide +kernel, by decide +kernel⟩, List.mem_of_getElem? (i := 92) (by decide +kernel), List.mem_of_getElem? (i := 654) (by decide +kernel), List.mem_of_getElem? (i := 655) (by decide +kernel)⟩
def lw_privs_4 : List (MethodName × Nat) := [(⟨"LeastBars$Reader", "takesName", "(ILLeastBars$Machine;)Z"⟩, 3), (⟨"LeastBars$Machine", "tellEvent", "(I)Z"⟩, 7), (⟨"LeastBars$Reader", "takesBlank", "(I)Z"⟩, 3), (⟨"LeastBars", "isMachine", "(I)Z"⟩, 12), (⟨"LeastBars$Net", "isFinished", "(I)Z"⟩, 15), (⟨"LeastBars$Control", "barredSet", "(I)I"⟩, 6), (⟨"LeastBars$Losses", "linkBehind", "(II)I"⟩, 7), (⟨"LeastBars$Losses", "reasonOf", "(I)I"⟩, 7), (⟨"LeastBars$Losses", "eventOf", "(I)I"⟩, 7), (⟨"LeastBars$Losses", "hasWave", "(I)Z"⟩, 7), (⟨"LeastBars$Losses", "sizeOfWave", "(I)I"⟩, 7), (⟨"LeastBars", "joinPart", "(I)V"⟩, 12), (⟨"LeastBars$Net", "countStuck", "()I"⟩, 15), (⟨"LeastBars$Trail", "moveTo", "(I)V"⟩, 4), (⟨"LeastBars$Trail", "turnBack", "()Z"⟩, 4), (⟨"LeastBars$Net", "eventToFinish", "(II)I"⟩, 15)]
theorem lw_r4 : ∀ q ∈ lw_privs_4, lw_okq q := List.forall_mem_cons.mpr ⟨lw_p48, List.forall_mem_cons.mpr ⟨lw_p49, List.forall_mem_cons.mpr ⟨lw_p50, List.forall_mem_cons.mpr ⟨lw_p51, List.forall_mem_cons.mpr ⟨lw_p52, List.forall_mem_cons.mpr ⟨lw_p53, List.forall_mem_cons.mpr ⟨lw_p54, List.forall_mem_cons.mpr ⟨lw_p55, List.forall_mem_cons.mpr ⟨lw_p56, List.forall_mem_cons.mpr ⟨lw_p57, List.forall_mem_cons.mpr ⟨lw_p58, List.forall_mem_cons.mpr ⟨lw_p59, List.forall_mem_cons.mpr ⟨lw_p60, List.forall_mem_cons.mpr ⟨lw_p61, List.forall_mem_cons.mpr ⟨lw_p62, List.forall_mem_cons.mpr ⟨lw_p63, fun _ h => absurd h List.not_mem_nil⟩⟩⟩⟩⟩⟩⟩⟩⟩⟩⟩⟩⟩⟩⟩⟩
theorem lw_p64 : lw_okq (⟨"LeastBars$Net", "nearerBy", "(I)I"⟩, 15) := ⟨⟨by decide +kernel, by decide +kernel⟩, List.mem_of_getElem? (i := 92) (by decide +kernel), List.mem_of_getElem? (i := 658) (by decide +kernel), List.mem_of_getElem? (i := 659) (by decide +kernel)⟩
theorem lw_p65 : lw_okq (⟨"LeastBars$Control", "eventTo", "(II)I"⟩, 6) := ⟨⟨by decide +kernel, by decide +kernel⟩, List.mem_of_getElem? (i := 182) (by decide +kernel), List.mem_of_getElem? (i := 669) (by decide +kernel), List.mem_of_getElem? (i := 670) (by decide +kernel)⟩
theorem lw_p66 : lw_okq (⟨"LeastBarsModel", "reads", "(I)Z"⟩, 25) := ⟨⟨by decide +kernel, by decide +kernel⟩, List.mem_of_getElem? (i := 677) (by decide +kernel), List.mem_of_getElem? (i := 774) (by decide +kernel), List.mem_of_getElem? (i := 775) (by decide +kernel)⟩
theorem lw_p67 : lw_okq (⟨"LeastBarsModel", "readsItem", "(I)Z"⟩, 25) := ⟨⟨by decide +kernel, by decide +kernel⟩, List.mem_of_getElem? (i := 677) (by decide +kernel), List.mem_of_getElem? (i := 778) (by decide +kernel), List.mem_of_getElem? (i := 779) (by decide +kernel)⟩
theorem lw_p68 : lw_okq (⟨"LeastBarsModel", "isFigure", "()Z"⟩, 25) := ⟨⟨by decide +kernel, by decide +kernel⟩, List.mem_of_getElem? (i := 677) (by decide +kernel), List.mem_of_getElem? (i := 782) (by decide +kernel), List.mem_of_getElem? (i := 783) (by decide +kernel)⟩
theorem lw_p69 : lw_okq (⟨"LeastBarsModel", "codeHere", "()I"⟩, 25) := ⟨⟨by decide +kernel, by decide +kernel⟩, List.mem_of_getElem? (i := 677) (by decide +kernel), List.mem_of_getElem? (i := 786) (by decide +kernel), List.mem_of_getElem? (i := 787) (by decide +kernel)⟩
theorem lw_p70 : lw_okq (⟨"LeastBarsModel", "readsStep", "(I)Z"⟩, 25) := ⟨⟨by decide +kernel, by decide +kernel⟩, List.mem_of_getElem? (i := 677) (by decide +kernel), List.mem_of_getElem? (i := 790) (by decide +kernel), List.mem_of_getElem? (i := 791) (by decide +kernel)⟩
theorem lw_p71 : lw_okq (⟨"LeastBarsModel", "isLetter", "()Z"⟩, 25) := ⟨⟨by decide +kernel, by decide +kernel⟩, List.mem_of_getElem? (i := 677) (by decide +kernel), List.mem_of_getElem? (i := 794) (by decide +kernel), List.mem_of_getElem? (i := 795) (by decide +kernel)⟩
theorem lw_p72 : lw_okq (⟨"LeastBarsModel", "names", "(II)V"⟩, 25) := ⟨⟨by decide +kernel, by decide +kernel⟩, List.mem_of_getElem? (i := 677) (by decide +kernel), List.mem_of_getElem? (i := 801) (by decide +kernel), List.mem_of_getElem? (i := 802) (by decide +kernel)⟩
theorem lw_p73 : lw_okq (⟨"LeastBarsModel", "begins", "()V"⟩, 25) := ⟨⟨by decide +kernel, by decide +kernel⟩, List.mem_of_getElem? (i := 677) (by decide +kernel), List.mem_of_getElem? (i := 805) (by decide +kernel), List.mem_of_getElem? (i := 806) (by decide +kernel)⟩
theorem lw_p74 : lw_okq (⟨"LeastBarsModel", "isMachine", "(I)Z"⟩, 25) := ⟨⟨by decide +kernel, by decide +kernel⟩, List.mem_of_getElem? (i := 677) (by decide +kernel), List.mem_of_getElem? (i := 831) (by decide +kernel), List.mem_of_getElem? (i := 832) (by decide +kernel)⟩
theorem lw_p75 : lw_okq (⟨"LeastBarsModel", "isJoint", "(I)Z"⟩, 25) := ⟨⟨by decide +kernel, by decide +kernel⟩, List.mem_of_getElem? (i := 677) (by decide +kernel), List.mem_of_getElem? (i := 843) (by decide +kernel), List.mem_of_getElem? (i := 844) (by decide +kernel)⟩
theorem lw_p76 : lw_okq (⟨"LeastBarsModel", "knows", "()V"⟩, 25) := ⟨⟨by decide +kernel, by decide +kernel⟩, List.mem_of_getElem? (i := 677) (by decide +kernel), List.mem_of_getElem? (i := 847) (by decide +kernel), List.mem_of_getElem? (i := 848) (by decide +kernel)⟩
theorem lw_p77 : lw_okq (⟨"LeastBarsModel", "all", "()I"⟩, 25) := ⟨⟨by decide +kernel, by decide +kernel⟩, List.mem_of_getElem? (i := 677) (by decide +kernel), List.mem_of_getElem? (i := 851) (by decide +kernel), List.mem_of_getElem? (i := 852) (by decide +kernel)⟩
theorem lw_p78 : lw_okq (⟨"LeastBarsModel", "builds", "(I)Z"⟩, 25) := ⟨⟨by decide +kernel, by decide +kernel⟩, List.mem_of_getElem? (i := 677) (by decide +kernel), List.mem_of_getElem? (i := 855) (by decide +kernel), List.mem_of_getElem? (i := 856) (by decide +kernel)⟩
theorem lw_p79 : lw_okq (⟨"LeastBarsModel", "led", "(III)I"⟩, 25) := ⟨⟨by decide +kernel, by decide +kernel⟩, List.mem_of_getElem? (i := 677) (by decide +kernel), List.mem_of_getElem? (i := 859) (by decide +kernel), List.mem_of_getElem? (i := 860) (by decide +kernel)⟩
def lw_privs_5 : List (MethodName × Nat) := [(⟨"LeastBars$Net", "nearerBy", "(I)I"⟩, 15), (⟨"LeastBars$Control", "eventTo", "(II)I"⟩, 6), (⟨"LeastBarsModel", "reads", "(I)Z"⟩, 25), (⟨"LeastBarsModel", "readsItem", "(I)Z"⟩, 25), (⟨"LeastBarsModel", "isFigure", "()Z"⟩, 25), (⟨"LeastBarsModel", "codeHere", "()I"⟩, 25), (⟨"LeastBarsModel", "readsStep", "(I)Z"⟩, 25), (⟨"LeastBarsModel", "isLetter", "()Z"⟩, 25), (⟨"LeastBarsModel", "names", "(II)V"⟩, 25), (⟨"LeastBarsModel", "begins", "()V"⟩, 25), (⟨"LeastBarsModel", "isMachine", "(I)Z"⟩, 25), (⟨"LeastBarsModel", "isJoint", "(I)Z"⟩, 25), (⟨"LeastBarsModel", "knows", "()V"⟩, 25), (⟨"LeastBarsModel", "all", "()I"⟩, 25), (⟨"LeastBarsModel", "builds", "(I)Z"⟩, 25), (⟨"LeastBarsModel", "led", "(III)I"⟩, 25)]
theorem lw_r5 : ∀ q ∈ lw_privs_5, lw_okq q := List.forall_mem_cons.mpr ⟨lw_p64, List.forall_mem_cons.mpr ⟨lw_p65, List.forall_mem_cons.mpr ⟨lw_p66, List.forall_mem_cons.mpr ⟨lw_p67, List.forall_mem_cons.mpr ⟨lw_p68, List.forall_mem_cons.mpr ⟨lw_p69, List.forall_mem_cons.mpr ⟨lw_p70, List.forall_mem_cons.mpr ⟨lw_p71, List.forall_mem_cons.mpr ⟨lw_p72, List.forall_mem_cons.mpr ⟨lw_p73, List.forall_mem_cons.mpr ⟨lw_p74, List.forall_mem_cons.mpr ⟨lw_p75, List.forall_mem_cons.mpr ⟨lw_p76, List.forall_mem_cons.mpr ⟨lw_p77, List.forall_mem_cons.mpr ⟨lw_p78, List.forall_mem_cons.mpr ⟨lw_p79, fun _ h => absurd h List.not_mem_nil⟩⟩⟩⟩⟩⟩⟩⟩⟩⟩⟩⟩⟩⟩⟩⟩
theorem lw_p80 : lw_okq (⟨"LeastBarsModel", "numberOf", "(I)I"⟩, 25) := ⟨⟨by decide +kernel, by decide +kernel⟩, List.mem_of_getElem? (i := 677) (by decide +kernel), List.mem_of_getElem? (i := 866) (by decide +kernel), List.mem_of_getElem? (i := 867) (by decide +kernel)⟩
theorem lw_p81 : lw_okq (⟨"LeastBarsModel", "losesClashes", "()V"⟩, 25) := ⟨⟨by decide +kernel, by decide +kernel⟩, List.mem_of_getElem? (i := 677) (by decide +kernel), List.mem_of_getElem? (i := 870) (by decide +kernel), List.mem_of_getElem? (i := 871) (by decide +kernel)⟩
theorem lw_p82 : lw_okq (⟨"LeastBarsModel", "clashes", "(II)Z"⟩, 25) := ⟨⟨by decide +kernel, by decide +kernel⟩, List.mem_of_getElem? (i := 677) (by decide +kernel), List.mem_of_getElem? (i := 874) (by decide +kernel), List.mem_of_getElem? (i := 875) (by decide +kernel)⟩
theorem lw_p83 : lw_okq (⟨"LeastBarsModel", "loses", "(IIII)V"⟩, 25) := ⟨⟨by decide +kernel, by decide +kernel⟩, List.mem_of_getElem? (i := 677) (by decide +kernel), List.mem_of_getElem? (i := 878) (by decide +kernel), List.mem_of_getElem? (i := 879) (by decide +kernel)⟩
theorem lw_p84 : lw_okq (⟨"LeastBarsModel", "losesPushed", "(I)Z"⟩, 25) := ⟨⟨by decide +kernel, by decide +kernel⟩, List.mem_of_getElem? (i := 677) (by decide +kernel), List.mem_of_getElem? (i := 882) (by decide +kernel), List.mem_of_getElem? (i := 883) (by decide +kernel)⟩
theorem lw_p85 : lw_okq (⟨"LeastBarsModel", "pushes", "(II)I"⟩, 25) := ⟨⟨by decide +kernel, by decide +kernel⟩, List.mem_of_getElem? (i := 677) (by decide +kernel), List.mem_of_getElem? (i := 886) (by decide +kernel), List.mem_of_getElem? (i := 887) (by decide +kernel)⟩
theorem lw_p86 : lw_okq (⟨"LeastBarsModel", "losesStuck", "(I)Z"⟩, 25) := ⟨⟨by decide +kernel, by decide +kernel⟩, List.mem_of_getElem? (i := 677) (by decide +kernel), List.mem_of_getElem? (i := 890) (by decide +kernel), List.mem_of_getElem? (i := 891) (by decide +kernel)⟩
theorem lw_p87 : lw_okq (⟨"LeastBarsModel", "findEnds", "(I)V"⟩, 25) := ⟨⟨by decide +kernel, by decide +kernel⟩, List.mem_of_getElem? (i := 677) (by decide +kernel), List.mem_of_getElem? (i := 894) (by decide +kernel), List.mem_of_getElem? (i := 895) (by decide +kernel)⟩
theorem lw_p88 : lw_okq (⟨"LeastBarsModel", "isFinished", "(II)Z"⟩, 25) := ⟨⟨by decide +kernel, by decide +kernel⟩, List.mem_of_getElem? (i := 677) (by decide +kernel), List.mem_of_getElem? (i := 898) (by decide +kernel), List.mem_of_getElem? (i := 899) (by decide +kernel)⟩
theorem lw_p89 : lw_okq (⟨"LeastBarsModel", "findControlled", "()V"⟩, 25) := ⟨⟨by decide +kernel, by decide +kernel⟩, List.mem_of_getElem? (i := 677) (by decide +kernel), List.mem_of_getElem? (i := 902) (by decide +kernel), List.mem_of_getElem? (i := 903) (by decide +kernel)⟩
theorem lw_p90 : lw_okq (⟨"LeastBarsModel", "eventsAt", "(II)I"⟩, 25) := ⟨⟨by decide +kernel, by decide +kernel⟩, List.mem_of_getElem? (i := 677) (by decide +kernel), List.mem_of_getElem? (i := 914) (by decide +kernel), List.mem_of_getElem? (i := 915) (by decide +kernel)⟩
theorem lw_p91 : lw_okq (⟨"LeastBarsModel", "isBarred", "(II)Z"⟩, 25) := ⟨⟨by decide +kernel, by decide +kernel⟩, List.mem_of_getElem? (i := 677) (by decide +kernel), List.mem_of_getElem? (i := 918) (by decide +kernel), List.mem_of_getElem? (i := 919) (by decide +kernel)⟩
theorem lw_p92 : lw_okq (⟨"LeastBarsModel", "isShut", "()Z"⟩, 25) := ⟨⟨by decide +kernel, by decide +kernel⟩, List.mem_of_getElem? (i := 677) (by decide +kernel), List.mem_of_getElem? (i := 938) (by decide +kernel), List.mem_of_getElem? (i := 939) (by decide +kernel)⟩
theorem lw_p93 : lw_okq (⟨"LeastBarsModel", "findFar", "()V"⟩, 25) := ⟨⟨by decide +kernel, by decide +kernel⟩, List.mem_of_getElem? (i := 677) (by decide +kernel), List.mem_of_getElem? (i := 957) (by decide +kernel), List.mem_of_getElem? (i := 958) (by decide +kernel)⟩
theorem lw_p94 : lw_okq (⟨"LeastBarsModel", "tellWord", "(II)I"⟩, 25) := ⟨⟨by decide +kernel, by decide +kernel⟩, List.mem_of_getElem? (i := 677) (by decide +kernel), List.mem_of_getElem? (i := 961) (by decide +kernel), List.mem_of_getElem? (i := 962) (by decide +kernel)⟩
theorem lw_p95 : lw_okq (⟨"LeastBarsModel", "nearer", "(I)I"⟩, 25) := ⟨⟨by decide +kernel, by decide +kernel⟩, List.mem_of_getElem? (i := 677) (by decide +kernel), List.mem_of_getElem? (i := 965) (by decide +kernel), List.mem_of_getElem? (i := 966) (by decide +kernel)⟩
def lw_privs_6 : List (MethodName × Nat) := [(⟨"LeastBarsModel", "numberOf", "(I)I"⟩, 25), (⟨"LeastBarsModel", "losesClashes", "()V"⟩, 25), (⟨"LeastBarsModel", "clashes", "(II)Z"⟩, 25), (⟨"LeastBarsModel", "loses", "(IIII)V"⟩, 25), (⟨"LeastBarsModel", "losesPushed", "(I)Z"⟩, 25), (⟨"LeastBarsModel", "pushes", "(II)I"⟩, 25), (⟨"LeastBarsModel", "losesStuck", "(I)Z"⟩, 25), (⟨"LeastBarsModel", "findEnds", "(I)V"⟩, 25), (⟨"LeastBarsModel", "isFinished", "(II)Z"⟩, 25), (⟨"LeastBarsModel", "findControlled", "()V"⟩, 25), (⟨"LeastBarsModel", "eventsAt", "(II)I"⟩, 25), (⟨"LeastBarsModel", "isBarred", "(II)Z"⟩, 25), (⟨"LeastBarsModel", "isShut", "()Z"⟩, 25), (⟨"LeastBarsModel", "findFar", "()V"⟩, 25), (⟨"LeastBarsModel", "tellWord", "(II)I"⟩, 25), (⟨"LeastBarsModel", "nearer", "(I)I"⟩, 25)]
theorem lw_r6 : ∀ q ∈ lw_privs_6, lw_okq q := List.forall_mem_cons.mpr ⟨lw_p80, List.forall_mem_cons.mpr ⟨lw_p81, List.forall_mem_cons.mpr ⟨lw_p82, List.forall_mem_cons.mpr ⟨lw_p83, List.forall_mem_cons.mpr ⟨lw_p84, List.forall_mem_cons.mpr ⟨lw_p85, List.forall_mem_cons.mpr ⟨lw_p86, List.forall_mem_cons.mpr ⟨lw_p87, List.forall_mem_cons.mpr ⟨lw_p88, List.forall_mem_cons.mpr ⟨lw_p89, List.forall_mem_cons.mpr ⟨lw_p90, List.forall_mem_cons.mpr ⟨lw_p91, List.forall_mem_cons.mpr ⟨lw_p92, List.forall_mem_cons.mpr ⟨lw_p93, List.forall_mem_cons.mpr ⟨lw_p94, List.forall_mem_cons.mpr ⟨lw_p95, fun _ h => absurd h List.not_mem_nil⟩⟩⟩⟩⟩⟩⟩⟩⟩⟩⟩⟩⟩⟩⟩⟩
def lw_privs : List (MethodName × Nat) := lw_privs_1 ++ (lw_privs_2 ++ (lw_privs_3 ++ (lw_privs_4 ++ (lw_privs_5 ++ (lw_privs_6)))))
def lw_tbl : List Cond := k2_sels lw_privs ++ tables_1
theorem lw_privs_ok : ∀ q ∈ lw_privs, lw_okq q := by
  show ∀ q ∈ lw_privs_1 ++ (lw_privs_2 ++ (lw_privs_3 ++ (lw_privs_4 ++ (lw_privs_5 ++ (lw_privs_6))))), lw_okq q
  exact List.forall_mem_append.mpr ⟨lw_r1, List.forall_mem_append.mpr ⟨lw_r2, List.forall_mem_append.mpr ⟨lw_r3, List.forall_mem_append.mpr ⟨lw_r4, List.forall_mem_append.mpr ⟨lw_r5, lw_r6⟩⟩⟩⟩⟩
end
section
/-! ===== BEGIN words of one list among another's, by their places ===== -/
theorem goodIn_r {big : List Cond} (ws : List Cond) (ps : List Nat) (hp : ws = ps.filterMap (fun i => big[i]?)) (h : ws.all goodWord = true) : GoodIn big ws := by
  intro w hw
  have h1 := List.all_eq_true.mp h w hw
  rw [hp] at hw
  obtain ⟨i, -, hi⟩ := List.mem_filterMap.mp hw
  have hm : w ∈ big := by first | exact List.mem_of_getElem? hi | exact List.getElem?_mem hi
  exact ⟨hm, good_of_word h1⟩
theorem goodIn_app {big a b : List Cond} (ha : GoodIn big a) (hb : GoodIn big b) : GoodIn big (a ++ b) := fun w h => (List.mem_append.mp h).elim (ha w) (hb w)
theorem goodIn_ca {big a b : List Cond} {c : Cond} (ha : GoodIn big (c :: a)) (hb : GoodIn big b) : GoodIn big (c :: (a ++ b)) := fun w h => (List.mem_cons.mp h).elim (fun e => ha w (List.mem_cons.mpr (Or.inl e))) (fun h => (List.mem_append.mp h).elim (fun h => ha w (List.mem_cons.mpr (Or.inr h))) (hb w))
theorem goodIn_sub {big ws : List Cond} (hm : ∀ w ∈ ws, w ∈ big) (h : ws.all goodWord = true) : GoodIn big ws := fun w hw => ⟨hm w hw, good_of_word (List.all_eq_true.mp h w hw)⟩
/-! ===== END ===== -/

/-! ===== BEGIN printed: names, fields, word lists, decode rows ===== -/
def RX0 : String := "LeastBars$Control"
def TX0 : u_T := fun k => match k with
  | 0 => ("LeastBars$Control", "depths", "[I", true)
  | 1 => ("LeastBars$Control", "edgesInto", "[I", true)
  | 2 => ("LeastBars$Control", "barredSets", "[I", true)
  | 3 => ("LeastBars$Control", "queue", "[I", true)
  | 4 => ("LeastBars$Control", "size", "I", false)
  | _ => ("LeastBars$Control", "bars", "I", false)
def tyX0 : Nat → FieldType := fun k => match k with
  | 0 => .array .int
  | 1 => .array .int
  | 2 => .array .int
  | 3 => .array .int
  | 4 => .int
  | _ => .int
abbrev wsX00 : List Cond := u_ws RX0 TX0 6
theorem nmX0 : ∀ a, a < 6 → ∀ b, b < 6 → a ≠ b → (TX0 a).2.1 ≠ (TX0 b).2.1 := by decide +kernel
theorem tyX0_ok : ∀ k, k < 6 → parseFieldDescriptor (TX0 k).2.2.1 = some (tyX0 k) := by decide +kernel
abbrev cX0_init : ByteArray := prog_2_method_1_code
def yX0_init : MethodName := ⟨RX0, "<init>", "()V"⟩
abbrev cX0_spread : ByteArray := prog_2_method_2_code
def yX0_spread : MethodName := ⟨RX0, "spread", "(LLeastBars$Net;LLeastBars$Losses;)V"⟩
abbrev cX0_spreadFrom : ByteArray := prog_2_method_3_code
def yX0_spreadFrom : MethodName := ⟨RX0, "spreadFrom", "(ILLeastBars$Net;LLeastBars$Losses;)V"⟩
abbrev cX0_comeTo : ByteArray := prog_2_method_4_code
def yX0_comeTo : MethodName := ⟨RX0, "comeTo", "(III)V"⟩
abbrev cX0_holds : ByteArray := prog_2_method_5_code
def yX0_holds : MethodName := ⟨RX0, "holds", "(I)Z"⟩
abbrev cX0_depthOf : ByteArray := prog_2_method_6_code
def yX0_depthOf : MethodName := ⟨RX0, "depthOf", "(I)I"⟩
abbrev cX0_barredSet : ByteArray := prog_2_method_7_code
def yX0_barredSet : MethodName := ⟨RX0, "barredSet", "(I)I"⟩
abbrev cX0_eventTo : ByteArray := prog_2_method_8_code
def yX0_eventTo : MethodName := ⟨RX0, "eventTo", "(II)I"⟩
def RX1 : String := "LeastBars$Losses"
def TX1 : u_T := fun k => match k with
  | 0 => ("LeastBars$Losses", "lostIn", "[I", true)
  | 1 => ("LeastBars$Losses", "reasons", "[I", true)
  | 2 => ("LeastBars$Losses", "events", "[I", true)
  | 3 => ("LeastBars$Losses", "causes", "[I", true)
  | 4 => ("LeastBars$Losses", "waveSizes", "[I", true)
  | 5 => ("LeastBars$Losses", "waves", "I", false)
  | _ => ("LeastBars$Losses", "lost", "I", false)
def tyX1 : Nat → FieldType := fun k => match k with
  | 0 => .array .int
  | 1 => .array .int
  | 2 => .array .int
  | 3 => .array .int
  | 4 => .array .int
  | 5 => .int
  | _ => .int
abbrev wsX10 : List Cond := u_ws RX1 TX1 7
theorem nmX1 : ∀ a, a < 7 → ∀ b, b < 7 → a ≠ b → (TX1 a).2.1 ≠ (TX1 b).2.1 := by decide +kernel
theorem tyX1_ok : ∀ k, k < 7 → parseFieldDescriptor (TX1 k).2.2.1 = some (tyX1 k) := by decide +kernel
abbrev cX1_init : ByteArray := prog_3_method_1_code
def yX1_init : MethodName := ⟨RX1, "<init>", "()V"⟩
abbrev cX1_sift : ByteArray := prog_3_method_2_code
def yX1_sift : MethodName := ⟨RX1, "sift", "(LLeastBars$Net;I)V"⟩
abbrev cX1_loseClashing : ByteArray := prog_3_method_3_code
def yX1_loseClashing : MethodName := ⟨RX1, "loseClashing", "(LLeastBars$Net;I)V"⟩
abbrev cX1_losePushed : ByteArray := prog_3_method_4_code
def yX1_losePushed : MethodName := ⟨RX1, "losePushed", "(LLeastBars$Net;I)V"⟩
abbrev cX1_losePushedBy : ByteArray := prog_3_method_5_code
def yX1_losePushedBy : MethodName := ⟨RX1, "losePushedBy", "(LLeastBars$Net;II)V"⟩
abbrev cX1_loseStuck : ByteArray := prog_3_method_6_code
def yX1_loseStuck : MethodName := ⟨RX1, "loseStuck", "(LLeastBars$Net;)V"⟩
abbrev cX1_lose : ByteArray := prog_3_method_7_code
def yX1_lose : MethodName := ⟨RX1, "lose", "(IIII)V"⟩
abbrev cX1_isLost : ByteArray := prog_3_method_8_code
def yX1_isLost : MethodName := ⟨RX1, "isLost", "(I)Z"⟩
abbrev cX1_isLostInEarlierWave : ByteArray := prog_3_method_9_code
def yX1_isLostInEarlierWave : MethodName := ⟨RX1, "isLostInEarlierWave", "(I)Z"⟩
abbrev cX1_waveOf : ByteArray := prog_3_method_10_code
def yX1_waveOf : MethodName := ⟨RX1, "waveOf", "(I)I"⟩
abbrev cX1_reasonOf : ByteArray := prog_3_method_11_code
def yX1_reasonOf : MethodName := ⟨RX1, "reasonOf", "(I)I"⟩
abbrev cX1_eventOf : ByteArray := prog_3_method_12_code
def yX1_eventOf : MethodName := ⟨RX1, "eventOf", "(I)I"⟩
abbrev cX1_linkBehind : ByteArray := prog_3_method_13_code
def yX1_linkBehind : MethodName := ⟨RX1, "linkBehind", "(II)I"⟩
abbrev cX1_hasWave : ByteArray := prog_3_method_14_code
def yX1_hasWave : MethodName := ⟨RX1, "hasWave", "(I)Z"⟩
abbrev cX1_sizeOfWave : ByteArray := prog_3_method_15_code
def yX1_sizeOfWave : MethodName := ⟨RX1, "sizeOfWave", "(I)I"⟩
def RX2 : String := "LeastBars$Machine"
def TX2 : u_T := fun k => match k with
  | 0 => ("LeastBars$Machine", "targets", "[I", true)
  | 1 => ("LeastBars$Machine", "stepSets", "[I", true)
  | 2 => ("LeastBars$Machine", "kind", "I", false)
  | 3 => ("LeastBars$Machine", "alphabet", "I", false)
  | 4 => ("LeastBars$Machine", "marked", "I", false)
  | 5 => ("LeastBars$Machine", "steps", "I", false)
  | _ => ("LeastBars$Machine", "greatest", "I", false)
def tyX2 : Nat → FieldType := fun k => match k with
  | 0 => .array .int
  | 1 => .array .int
  | 2 => .int
  | 3 => .int
  | 4 => .int
  | 5 => .int
  | _ => .int
abbrev wsX20 : List Cond := u_ws RX2 TX2 7
theorem nmX2 : ∀ a, a < 7 → ∀ b, b < 7 → a ≠ b → (TX2 a).2.1 ≠ (TX2 b).2.1 := by decide +kernel
theorem tyX2_ok : ∀ k, k < 7 → parseFieldDescriptor (TX2 k).2.2.1 = some (tyX2 k) := by decide +kernel
abbrev cX2_init : ByteArray := prog_4_method_1_code
def yX2_init : MethodName := ⟨RX2, "<init>", "()V"⟩
abbrev cX2_clear : ByteArray := prog_4_method_2_code
def yX2_clear : MethodName := ⟨RX2, "clear", "(I)V"⟩
abbrev cX2_tellStep : ByteArray := prog_4_method_3_code
def yX2_tellStep : MethodName := ⟨RX2, "tellStep", "(III)Z"⟩
abbrev cX2_tellMarked : ByteArray := prog_4_method_4_code
def yX2_tellMarked : MethodName := ⟨RX2, "tellMarked", "(I)Z"⟩
abbrev cX2_tellEvent : ByteArray := prog_4_method_5_code
def yX2_tellEvent : MethodName := ⟨RX2, "tellEvent", "(I)Z"⟩
abbrev cX2_target : ByteArray := prog_4_method_6_code
def yX2_target : MethodName := ⟨RX2, "target", "(II)I"⟩
abbrev cX2_missingSet : ByteArray := prog_4_method_7_code
def yX2_missingSet : MethodName := ⟨RX2, "missingSet", "(I)I"⟩
def RX3 : String := "LeastBars$Net"
def TX3 : u_T := fun k => match k with
  | 0 => ("LeastBars$Net", "codes", "[I", true)
  | 1 => ("LeastBars$Net", "leadSets", "[I", true)
  | 2 => ("LeastBars$Net", "stoppedSets", "[I", true)
  | 3 => ("LeastBars$Net", "finished", "[Z", true)
  | 4 => ("LeastBars$Net", "targets", "[I", true)
  | 5 => ("LeastBars$Net", "lastInto", "[I", true)
  | 6 => ("LeastBars$Net", "earlierInto", "[I", true)
  | 7 => ("LeastBars$Net", "slots", "[I", true)
  | 8 => ("LeastBars$Net", "far", "[I", true)
  | 9 => ("LeastBars$Net", "queue", "[I", true)
  | 10 => ("LeastBars$Net", "queued", "I", false)
  | 11 => ("LeastBars$Net", "alphabet", "I", false)
  | 12 => ("LeastBars$Net", "plantAlphabet", "I", false)
  | 13 => ("LeastBars$Net", "size", "I", false)
  | _ => ("LeastBars$Net", "isOver", "Z", false)
def tyX3 : Nat → FieldType := fun k => match k with
  | 0 => .array .int
  | 1 => .array .int
  | 2 => .array .int
  | 3 => .array .boolean
  | 4 => .array .int
  | 5 => .array .int
  | 6 => .array .int
  | 7 => .array .int
  | 8 => .array .int
  | 9 => .array .int
  | 10 => .int
  | 11 => .int
  | 12 => .int
  | 13 => .int
  | _ => .boolean
abbrev wsX30 : List Cond := u_ws RX3 TX3 15
theorem nmX3 : ∀ a, a < 15 → ∀ b, b < 15 → a ≠ b → (TX3 a).2.1 ≠ (TX3 b).2.1 := by decide +kernel
theorem tyX3_ok : ∀ k, k < 15 → parseFieldDescriptor (TX3 k).2.2.1 = some (tyX3 k) := by decide +kernel
abbrev cX3_init : ByteArray := prog_5_method_1_code
def yX3_init : MethodName := ⟨RX3, "<init>", "()V"⟩
abbrev cX3_join : ByteArray := prog_5_method_2_code
def yX3_join : MethodName := ⟨RX3, "join", "([LLeastBars$Machine;I)V"⟩
abbrev cX3_gatherAlphabets : ByteArray := prog_5_method_3_code
def yX3_gatherAlphabets : MethodName := ⟨RX3, "gatherAlphabets", "([LLeastBars$Machine;I)V"⟩
abbrev cX3_spreadFrom : ByteArray := prog_5_method_4_code
def yX3_spreadFrom : MethodName := ⟨RX3, "spreadFrom", "(I[LLeastBars$Machine;I)V"⟩
abbrev cX3_addEdge : ByteArray := prog_5_method_5_code
def yX3_addEdge : MethodName := ⟨RX3, "addEdge", "(III)V"⟩
abbrev cX3_codeBehind : ByteArray := prog_5_method_6_code
def yX3_codeBehind : MethodName := ⟨RX3, "codeBehind", "(II[LLeastBars$Machine;I)I"⟩
abbrev cX3_meet : ByteArray := prog_5_method_7_code
def yX3_meet : MethodName := ⟨RX3, "meet", "(I)I"⟩
abbrev cX3_add : ByteArray := prog_5_method_8_code
def yX3_add : MethodName := ⟨RX3, "add", "(I)I"⟩
abbrev cX3_allMarked : ByteArray := prog_5_method_9_code
def yX3_allMarked : MethodName := ⟨RX3, "allMarked", "(I[LLeastBars$Machine;I)Z"⟩
abbrev cX3_measure : ByteArray := prog_5_method_10_code
def yX3_measure : MethodName := ⟨RX3, "measure", "([I)V"⟩
abbrev cX3_measureBackFrom : ByteArray := prog_5_method_11_code
def yX3_measureBackFrom : MethodName := ⟨RX3, "measureBackFrom", "(I[I)V"⟩
abbrev cX3_enqueue : ByteArray := prog_5_method_12_code
def yX3_enqueue : MethodName := ⟨RX3, "enqueue", "(II)V"⟩
abbrev cX3_countStuck : ByteArray := prog_5_method_13_code
def yX3_countStuck : MethodName := ⟨RX3, "countStuck", "()I"⟩
abbrev cX3_eventToFinish : ByteArray := prog_5_method_14_code
def yX3_eventToFinish : MethodName := ⟨RX3, "eventToFinish", "(II)I"⟩
abbrev cX3_nearerBy : ByteArray := prog_5_method_15_code
def yX3_nearerBy : MethodName := ⟨RX3, "nearerBy", "(I)I"⟩
abbrev cX3_has : ByteArray := prog_5_method_16_code
def yX3_has : MethodName := ⟨RX3, "has", "(I)Z"⟩
abbrev cX3_stateIn : ByteArray := prog_5_method_17_code
def yX3_stateIn : MethodName := ⟨RX3, "stateIn", "(II)I"⟩
abbrev cX3_target : ByteArray := prog_5_method_18_code
def yX3_target : MethodName := ⟨RX3, "target", "(II)I"⟩
abbrev cX3_isFinished : ByteArray := prog_5_method_19_code
def yX3_isFinished : MethodName := ⟨RX3, "isFinished", "(I)Z"⟩
abbrev cX3_leadSet : ByteArray := prog_5_method_20_code
def yX3_leadSet : MethodName := ⟨RX3, "leadSet", "(I)I"⟩
abbrev cX3_clashSet : ByteArray := prog_5_method_21_code
def yX3_clashSet : MethodName := ⟨RX3, "clashSet", "(II)I"⟩
abbrev cX3_farOf : ByteArray := prog_5_method_22_code
def yX3_farOf : MethodName := ⟨RX3, "farOf", "(I)I"⟩
def RX4 : String := "LeastBars$Reader"
def TX4 : u_T := fun k => match k with
  | 0 => ("LeastBars$Reader", "awaited", "I", false)
  | 1 => ("LeastBars$Reader", "from", "I", false)
  | _ => ("LeastBars$Reader", "event", "I", false)
def tyX4 : Nat → FieldType := fun k => match k with
  | 0 => .int
  | 1 => .int
  | _ => .int
abbrev wsX40 : List Cond := u_ws RX4 TX4 3
theorem nmX4 : ∀ a, a < 3 → ∀ b, b < 3 → a ≠ b → (TX4 a).2.1 ≠ (TX4 b).2.1 := by decide +kernel
theorem tyX4_ok : ∀ k, k < 3 → parseFieldDescriptor (TX4 k).2.2.1 = some (tyX4 k) := by decide +kernel
abbrev cX4_init : ByteArray := prog_6_method_1_code
def yX4_init : MethodName := ⟨RX4, "<init>", "()V"⟩
abbrev cX4_read : ByteArray := prog_6_method_2_code
def yX4_read : MethodName := ⟨RX4, "read", "(LLeastBars$Tape;LLeastBars$Machine;I)I"⟩
abbrev cX4_takes : ByteArray := prog_6_method_3_code
def yX4_takes : MethodName := ⟨RX4, "takes", "(ILLeastBars$Machine;)Z"⟩
abbrev cX4_opensItem : ByteArray := prog_6_method_4_code
def yX4_opensItem : MethodName := ⟨RX4, "opensItem", "(I)Z"⟩
abbrev cX4_takesLetter : ByteArray := prog_6_method_5_code
def yX4_takesLetter : MethodName := ⟨RX4, "takesLetter", "(I)Z"⟩
abbrev cX4_takesFigure : ByteArray := prog_6_method_6_code
def yX4_takesFigure : MethodName := ⟨RX4, "takesFigure", "(ILLeastBars$Machine;)Z"⟩
abbrev cX4_takesMark : ByteArray := prog_6_method_7_code
def yX4_takesMark : MethodName := ⟨RX4, "takesMark", "(ILLeastBars$Machine;)Z"⟩
abbrev cX4_takesName : ByteArray := prog_6_method_8_code
def yX4_takesName : MethodName := ⟨RX4, "takesName", "(ILLeastBars$Machine;)Z"⟩
abbrev cX4_takesBlank : ByteArray := prog_6_method_9_code
def yX4_takesBlank : MethodName := ⟨RX4, "takesBlank", "(I)Z"⟩
def RX5 : String := "LeastBars$Tape"
def TX5 : u_T := fun k => match k with
  | 0 => ("LeastBars$Tape", "codes", "[I", true)
  | _ => ("LeastBars$Tape", "length", "I", false)
def tyX5 : Nat → FieldType := fun k => match k with
  | 0 => .array .int
  | _ => .int
abbrev wsX50 : List Cond := u_ws RX5 TX5 2
theorem nmX5 : ∀ a, a < 2 → ∀ b, b < 2 → a ≠ b → (TX5 a).2.1 ≠ (TX5 b).2.1 := by decide +kernel
theorem tyX5_ok : ∀ k, k < 2 → parseFieldDescriptor (TX5 k).2.2.1 = some (tyX5 k) := by decide +kernel
abbrev cX5_init : ByteArray := prog_7_method_1_code
def yX5_init : MethodName := ⟨RX5, "<init>", "()V"⟩
abbrev cX5_put : ByteArray := prog_7_method_2_code
def yX5_put : MethodName := ⟨RX5, "put", "(I)Z"⟩
abbrev cX5_clear : ByteArray := prog_7_method_3_code
def yX5_clear : MethodName := ⟨RX5, "clear", "()V"⟩
def RX6 : String := "LeastBars$Trail"
def TX6 : u_T := fun k => match k with
  | 0 => ("LeastBars$Trail", "places", "[I", true)
  | 1 => ("LeastBars$Trail", "next", "I", false)
  | 2 => ("LeastBars$Trail", "length", "I", false)
  | _ => ("LeastBars$Trail", "place", "I", false)
def tyX6 : Nat → FieldType := fun k => match k with
  | 0 => .array .int
  | 1 => .int
  | 2 => .int
  | _ => .int
abbrev wsX60 : List Cond := u_ws RX6 TX6 4
theorem nmX6 : ∀ a, a < 4 → ∀ b, b < 4 → a ≠ b → (TX6 a).2.1 ≠ (TX6 b).2.1 := by decide +kernel
theorem tyX6_ok : ∀ k, k < 4 → parseFieldDescriptor (TX6 k).2.2.1 = some (tyX6 k) := by decide +kernel
abbrev cX6_init : ByteArray := prog_8_method_1_code
def yX6_init : MethodName := ⟨RX6, "<init>", "()V"⟩
abbrev cX6_begin : ByteArray := prog_8_method_2_code
def yX6_begin : MethodName := ⟨RX6, "begin", "()V"⟩
abbrev cX6_moveTo : ByteArray := prog_8_method_3_code
def yX6_moveTo : MethodName := ⟨RX6, "moveTo", "(I)V"⟩
abbrev cX6_turnBack : ByteArray := prog_8_method_4_code
def yX6_turnBack : MethodName := ⟨RX6, "turnBack", "()Z"⟩
def RX7 : String := "LeastBars"
def TX7 : u_T := fun k => match k with
  | 0 => ("LeastBars", "tape", "LLeastBars$Tape;", true)
  | 1 => ("LeastBars", "reader", "LLeastBars$Reader;", true)
  | 2 => ("LeastBars", "machines", "[LLeastBars$Machine;", true)
  | 3 => ("LeastBars", "net", "LLeastBars$Net;", true)
  | 4 => ("LeastBars", "part", "LLeastBars$Net;", true)
  | 5 => ("LeastBars", "nothingLost", "[I", true)
  | 6 => ("LeastBars", "losses", "LLeastBars$Losses;", true)
  | 7 => ("LeastBars", "control", "LLeastBars$Control;", true)
  | 8 => ("LeastBars", "trail", "LLeastBars$Trail;", true)
  | 9 => ("LeastBars", "machineCount", "I", false)
  | 10 => ("LeastBars", "freeSet", "I", false)
  | _ => ("LeastBars", "partSet", "I", false)
def tyX7 : Nat → FieldType := fun k => match k with
  | 0 => .object "LeastBars$Tape"
  | 1 => .object "LeastBars$Reader"
  | 2 => .array (.object "LeastBars$Machine")
  | 3 => .object "LeastBars$Net"
  | 4 => .object "LeastBars$Net"
  | 5 => .array .int
  | 6 => .object "LeastBars$Losses"
  | 7 => .object "LeastBars$Control"
  | 8 => .object "LeastBars$Trail"
  | 9 => .int
  | 10 => .int
  | _ => .int
abbrev wsX70 : List Cond := u_ws RX7 TX7 12
theorem nmX7 : ∀ a, a < 12 → ∀ b, b < 12 → a ≠ b → (TX7 a).2.1 ≠ (TX7 b).2.1 := by decide +kernel
theorem tyX7_ok : ∀ k, k < 12 → parseFieldDescriptor (TX7 k).2.2.1 = some (tyX7 k) := by decide +kernel
abbrev cX7_init : ByteArray := prog_1_method_1_code
def yX7_init : MethodName := ⟨RX7, "<init>", "()V"⟩
abbrev cX7_type : ByteArray := prog_1_method_2_code
def yX7_type : MethodName := ⟨RX7, "type", "(I)I"⟩
abbrev cX7_wipe : ByteArray := prog_1_method_3_code
def yX7_wipe : MethodName := ⟨RX7, "wipe", "()I"⟩
abbrev cX7_machine : ByteArray := prog_1_method_4_code
def yX7_machine : MethodName := ⟨RX7, "machine", "(I)I"⟩
abbrev cX7_drop : ByteArray := prog_1_method_5_code
def yX7_drop : MethodName := ⟨RX7, "drop", "()I"⟩
abbrev cX7_free : ByteArray := prog_1_method_6_code
def yX7_free : MethodName := ⟨RX7, "free", "(II)I"⟩
abbrev cX7_anew : ByteArray := prog_1_method_7_code
def yX7_anew : MethodName := ⟨RX7, "anew", "()I"⟩
abbrev cX7_ofMachine : ByteArray := prog_1_method_8_code
def yX7_ofMachine : MethodName := ⟨RX7, "ofMachine", "(II)I"⟩
abbrev cX7_step : ByteArray := prog_1_method_9_code
def yX7_step : MethodName := ⟨RX7, "step", "(III)I"⟩
abbrev cX7_stateOf : ByteArray := prog_1_method_10_code
def yX7_stateOf : MethodName := ⟨RX7, "stateOf", "(II)I"⟩
abbrev cX7_leads : ByteArray := prog_1_method_11_code
def yX7_leads : MethodName := ⟨RX7, "leads", "(II)I"⟩
abbrev cX7_joint : ByteArray := prog_1_method_12_code
def yX7_joint : MethodName := ⟨RX7, "joint", "(II)I"⟩
abbrev cX7_why : ByteArray := prog_1_method_13_code
def yX7_why : MethodName := ⟨RX7, "why", "(III)I"⟩
abbrev cX7_wave : ByteArray := prog_1_method_14_code
def yX7_wave : MethodName := ⟨RX7, "wave", "(I)I"⟩
abbrev cX7_some : ByteArray := prog_1_method_15_code
def yX7_some : MethodName := ⟨RX7, "some", "(II)I"⟩
abbrev cX7_go : ByteArray := prog_1_method_16_code
def yX7_go : MethodName := ⟨RX7, "go", "(I)I"⟩
abbrev cX7_back : ByteArray := prog_1_method_17_code
def yX7_back : MethodName := ⟨RX7, "back", "()I"⟩
abbrev cX7_at : ByteArray := prog_1_method_18_code
def yX7_at : MethodName := ⟨RX7, "at", "()I"⟩
abbrev cX7_finish : ByteArray := prog_1_method_19_code
def yX7_finish : MethodName := ⟨RX7, "finish", "(I)I"⟩
abbrev cX7_word : ByteArray := prog_1_method_20_code
def yX7_word : MethodName := ⟨RX7, "word", "(II)I"⟩
abbrev cX7_many : ByteArray := prog_1_method_21_code
def yX7_many : MethodName := ⟨RX7, "many", "(I)I"⟩
abbrev cX7_joinAnew : ByteArray := prog_1_method_22_code
def yX7_joinAnew : MethodName := ⟨RX7, "joinAnew", "()V"⟩
abbrev cX7_joinPart : ByteArray := prog_1_method_23_code
def yX7_joinPart : MethodName := ⟨RX7, "joinPart", "(I)V"⟩
abbrev cX7_controlAnew : ByteArray := prog_1_method_24_code
def yX7_controlAnew : MethodName := ⟨RX7, "controlAnew", "()V"⟩
abbrev cX7_setOfAllMachines : ByteArray := prog_1_method_25_code
def yX7_setOfAllMachines : MethodName := ⟨RX7, "setOfAllMachines", "()I"⟩
abbrev cX7_isMachine : ByteArray := prog_1_method_26_code
def yX7_isMachine : MethodName := ⟨RX7, "isMachine", "(I)Z"⟩
abbrev cX7_isState : ByteArray := prog_1_method_27_code
def yX7_isState : MethodName := ⟨RX7, "isState", "(I)Z"⟩
abbrev cX7_isEvent : ByteArray := prog_1_method_28_code
def yX7_isEvent : MethodName := ⟨RX7, "isEvent", "(I)Z"⟩
abbrev cX7_isJoint : ByteArray := prog_1_method_29_code
def yX7_isJoint : MethodName := ⟨RX7, "isJoint", "(I)Z"⟩
abbrev cX7_isPlaceInWord : ByteArray := prog_1_method_30_code
def yX7_isPlaceInWord : MethodName := ⟨RX7, "isPlaceInWord", "(I)Z"⟩
abbrev cX7_isIn : ByteArray := prog_1_method_31_code
def yX7_isIn : MethodName := ⟨RX7, "isIn", "(II)Z"⟩
abbrev cX7_leastIn : ByteArray := prog_1_method_32_code
def yX7_leastIn : MethodName := ⟨RX7, "leastIn", "(I)I"⟩
def RX8 : String := "LeastBarsModel"
def TX8 : u_T := fun k => match k with
  | 0 => ("LeastBarsModel", "tape", "[I", true)
  | 1 => ("LeastBarsModel", "taped", "I", false)
  | 2 => ("LeastBarsModel", "machines", "I", false)
  | 3 => ("LeastBarsModel", "kindOf", "[I", true)
  | 4 => ("LeastBarsModel", "alphabet", "[I", true)
  | 5 => ("LeastBarsModel", "marked", "[I", true)
  | 6 => ("LeastBarsModel", "manySteps", "[I", true)
  | 7 => ("LeastBarsModel", "greatest", "[I", true)
  | 8 => ("LeastBarsModel", "stepTo", "[I", true)
  | 9 => ("LeastBarsModel", "freeOnes", "I", false)
  | 10 => ("LeastBarsModel", "place", "I", false)
  | 11 => ("LeastBarsModel", "joints", "I", false)
  | 12 => ("LeastBarsModel", "codeOf", "[I", true)
  | 13 => ("LeastBarsModel", "toOf", "[I", true)
  | 14 => ("LeastBarsModel", "isKnown", "Z", false)
  | 15 => ("LeastBarsModel", "waveOf", "[I", true)
  | 16 => ("LeastBarsModel", "reasonOf", "[I", true)
  | 17 => ("LeastBarsModel", "eventOf", "[I", true)
  | 18 => ("LeastBarsModel", "canEnd", "[Z", true)
  | 19 => ("LeastBarsModel", "isControlled", "[Z", true)
  | 20 => ("LeastBarsModel", "waves", "I", false)
  | 21 => ("LeastBarsModel", "at", "I", false)
  | 22 => ("LeastBarsModel", "taken", "I", false)
  | 23 => ("LeastBarsModel", "takenFrom", "[I", true)
  | _ => ("LeastBarsModel", "farOf", "[I", true)
def tyX8 : Nat → FieldType := fun k => match k with
  | 0 => .array .int
  | 1 => .int
  | 2 => .int
  | 3 => .array .int
  | 4 => .array .int
  | 5 => .array .int
  | 6 => .array .int
  | 7 => .array .int
  | 8 => .array .int
  | 9 => .int
  | 10 => .int
  | 11 => .int
  | 12 => .array .int
  | 13 => .array .int
  | 14 => .boolean
  | 15 => .array .int
  | 16 => .array .int
  | 17 => .array .int
  | 18 => .array .boolean
  | 19 => .array .boolean
  | 20 => .int
  | 21 => .int
  | 22 => .int
  | 23 => .array .int
  | _ => .array .int
abbrev wsX80 : List Cond := u_ws RX8 TX8 25
theorem nmX8 : ∀ a, a < 25 → ∀ b, b < 25 → a ≠ b → (TX8 a).2.1 ≠ (TX8 b).2.1 := by decide +kernel
theorem tyX8_ok : ∀ k, k < 25 → parseFieldDescriptor (TX8 k).2.2.1 = some (tyX8 k) := by decide +kernel
abbrev cX8_init : ByteArray := prog_10_method_1_code
def yX8_init : MethodName := ⟨RX8, "<init>", "()V"⟩
abbrev cX8_within : ByteArray := prog_10_method_2_code
def yX8_within : MethodName := ⟨RX8, "within", "(III)Z"⟩
abbrev cX8_bit : ByteArray := prog_10_method_3_code
def yX8_bit : MethodName := ⟨RX8, "bit", "(II)I"⟩
abbrev cX8_type : ByteArray := prog_10_method_4_code
def yX8_type : MethodName := ⟨RX8, "type", "(I)I"⟩
abbrev cX8_wipe : ByteArray := prog_10_method_5_code
def yX8_wipe : MethodName := ⟨RX8, "wipe", "()I"⟩
abbrev cX8_stepAt : ByteArray := prog_10_method_6_code
def yX8_stepAt : MethodName := ⟨RX8, "stepAt", "(III)I"⟩
abbrev cX8_codeHere : ByteArray := prog_10_method_7_code
def yX8_codeHere : MethodName := ⟨RX8, "codeHere", "()I"⟩
abbrev cX8_isFigure : ByteArray := prog_10_method_8_code
def yX8_isFigure : MethodName := ⟨RX8, "isFigure", "()Z"⟩
abbrev cX8_isLetter : ByteArray := prog_10_method_9_code
def yX8_isLetter : MethodName := ⟨RX8, "isLetter", "()Z"⟩
abbrev cX8_names : ByteArray := prog_10_method_10_code
def yX8_names : MethodName := ⟨RX8, "names", "(II)V"⟩
abbrev cX8_readsStep : ByteArray := prog_10_method_11_code
def yX8_readsStep : MethodName := ⟨RX8, "readsStep", "(I)Z"⟩
abbrev cX8_readsItem : ByteArray := prog_10_method_12_code
def yX8_readsItem : MethodName := ⟨RX8, "readsItem", "(I)Z"⟩
abbrev cX8_reads : ByteArray := prog_10_method_13_code
def yX8_reads : MethodName := ⟨RX8, "reads", "(I)Z"⟩
abbrev cX8_machine : ByteArray := prog_10_method_14_code
def yX8_machine : MethodName := ⟨RX8, "machine", "(I)I"⟩
abbrev cX8_begins : ByteArray := prog_10_method_15_code
def yX8_begins : MethodName := ⟨RX8, "begins", "()V"⟩
abbrev cX8_drop : ByteArray := prog_10_method_16_code
def yX8_drop : MethodName := ⟨RX8, "drop", "()I"⟩
abbrev cX8_free : ByteArray := prog_10_method_17_code
def yX8_free : MethodName := ⟨RX8, "free", "(II)I"⟩
abbrev cX8_anew : ByteArray := prog_10_method_18_code
def yX8_anew : MethodName := ⟨RX8, "anew", "()I"⟩
abbrev cX8_isEvent : ByteArray := prog_10_method_19_code
def yX8_isEvent : MethodName := ⟨RX8, "isEvent", "(I)Z"⟩
abbrev cX8_isMachine : ByteArray := prog_10_method_20_code
def yX8_isMachine : MethodName := ⟨RX8, "isMachine", "(I)Z"⟩
abbrev cX8_ofMachine : ByteArray := prog_10_method_21_code
def yX8_ofMachine : MethodName := ⟨RX8, "ofMachine", "(II)I"⟩
abbrev cX8_step : ByteArray := prog_10_method_22_code
def yX8_step : MethodName := ⟨RX8, "step", "(III)I"⟩
abbrev cX8_stateIn : ByteArray := prog_10_method_23_code
def yX8_stateIn : MethodName := ⟨RX8, "stateIn", "(II)I"⟩
abbrev cX8_led : ByteArray := prog_10_method_24_code
def yX8_led : MethodName := ⟨RX8, "led", "(III)I"⟩
abbrev cX8_numberOf : ByteArray := prog_10_method_25_code
def yX8_numberOf : MethodName := ⟨RX8, "numberOf", "(I)I"⟩
abbrev cX8_builds : ByteArray := prog_10_method_26_code
def yX8_builds : MethodName := ⟨RX8, "builds", "(I)Z"⟩
abbrev cX8_isFinished : ByteArray := prog_10_method_27_code
def yX8_isFinished : MethodName := ⟨RX8, "isFinished", "(II)Z"⟩
abbrev cX8_all : ByteArray := prog_10_method_28_code
def yX8_all : MethodName := ⟨RX8, "all", "()I"⟩
abbrev cX8_clashes : ByteArray := prog_10_method_29_code
def yX8_clashes : MethodName := ⟨RX8, "clashes", "(II)Z"⟩
abbrev cX8_loses : ByteArray := prog_10_method_30_code
def yX8_loses : MethodName := ⟨RX8, "loses", "(IIII)V"⟩
abbrev cX8_losesClashes : ByteArray := prog_10_method_31_code
def yX8_losesClashes : MethodName := ⟨RX8, "losesClashes", "()V"⟩
abbrev cX8_pushes : ByteArray := prog_10_method_32_code
def yX8_pushes : MethodName := ⟨RX8, "pushes", "(II)I"⟩
abbrev cX8_losesPushed : ByteArray := prog_10_method_33_code
def yX8_losesPushed : MethodName := ⟨RX8, "losesPushed", "(I)Z"⟩
abbrev cX8_findEnds : ByteArray := prog_10_method_34_code
def yX8_findEnds : MethodName := ⟨RX8, "findEnds", "(I)V"⟩
abbrev cX8_losesStuck : ByteArray := prog_10_method_35_code
def yX8_losesStuck : MethodName := ⟨RX8, "losesStuck", "(I)Z"⟩
abbrev cX8_findControlled : ByteArray := prog_10_method_36_code
def yX8_findControlled : MethodName := ⟨RX8, "findControlled", "()V"⟩
abbrev cX8_knows : ByteArray := prog_10_method_37_code
def yX8_knows : MethodName := ⟨RX8, "knows", "()V"⟩
abbrev cX8_isJoint : ByteArray := prog_10_method_38_code
def yX8_isJoint : MethodName := ⟨RX8, "isJoint", "(I)Z"⟩
abbrev cX8_stateOf : ByteArray := prog_10_method_39_code
def yX8_stateOf : MethodName := ⟨RX8, "stateOf", "(II)I"⟩
abbrev cX8_leads : ByteArray := prog_10_method_40_code
def yX8_leads : MethodName := ⟨RX8, "leads", "(II)I"⟩
abbrev cX8_isBarred : ByteArray := prog_10_method_41_code
def yX8_isBarred : MethodName := ⟨RX8, "isBarred", "(II)Z"⟩
abbrev cX8_eventsAt : ByteArray := prog_10_method_42_code
def yX8_eventsAt : MethodName := ⟨RX8, "eventsAt", "(II)I"⟩
abbrev cX8_joint : ByteArray := prog_10_method_43_code
def yX8_joint : MethodName := ⟨RX8, "joint", "(II)I"⟩
abbrev cX8_why : ByteArray := prog_10_method_44_code
def yX8_why : MethodName := ⟨RX8, "why", "(III)I"⟩
abbrev cX8_wave : ByteArray := prog_10_method_45_code
def yX8_wave : MethodName := ⟨RX8, "wave", "(I)I"⟩
abbrev cX8_some : ByteArray := prog_10_method_46_code
def yX8_some : MethodName := ⟨RX8, "some", "(II)I"⟩
abbrev cX8_isShut : ByteArray := prog_10_method_47_code
def yX8_isShut : MethodName := ⟨RX8, "isShut", "()Z"⟩
abbrev cX8_go : ByteArray := prog_10_method_48_code
def yX8_go : MethodName := ⟨RX8, "go", "(I)I"⟩
abbrev cX8_back : ByteArray := prog_10_method_49_code
def yX8_back : MethodName := ⟨RX8, "back", "()I"⟩
abbrev cX8_at : ByteArray := prog_10_method_50_code
def yX8_at : MethodName := ⟨RX8, "at", "()I"⟩
abbrev cX8_findFar : ByteArray := prog_10_method_51_code
def yX8_findFar : MethodName := ⟨RX8, "findFar", "()V"⟩
abbrev cX8_nearer : ByteArray := prog_10_method_52_code
def yX8_nearer : MethodName := ⟨RX8, "nearer", "(I)I"⟩
abbrev cX8_tellWord : ByteArray := prog_10_method_53_code
def yX8_tellWord : MethodName := ⟨RX8, "tellWord", "(II)I"⟩
abbrev cX8_isPlace : ByteArray := prog_10_method_54_code
def yX8_isPlace : MethodName := ⟨RX8, "isPlace", "(I)Z"⟩
abbrev cX8_finish : ByteArray := prog_10_method_55_code
def yX8_finish : MethodName := ⟨RX8, "finish", "(I)I"⟩
abbrev cX8_word : ByteArray := prog_10_method_56_code
def yX8_word : MethodName := ⟨RX8, "word", "(II)I"⟩
abbrev cX8_many : ByteArray := prog_10_method_57_code
def yX8_many : MethodName := ⟨RX8, "many", "(I)I"⟩
def RJ6 : String := "java/lang/Integer"
abbrev cJ6_bitCount_0f7a4 : ByteArray := prog_11_method_49_code
def yJ6_bitCount_0f7a4 : MethodName := ⟨RJ6, "bitCount", "(I)I"⟩
def RJ9 : String := "java/lang/Math"
abbrev cJ9_floorMod_7cf53 : ByteArray := prog_12_method_50_code
def yJ9_floorMod_7cf53 : MethodName := ⟨RJ9, "floorMod", "(II)I"⟩
abbrev cJ9_max_7cf53 : ByteArray := prog_12_method_65_code
def yJ9_max_7cf53 : MethodName := ⟨RJ9, "max", "(II)I"⟩
abbrev cJ9_min_7cf53 : ByteArray := prog_12_method_69_code
def yJ9_min_7cf53 : MethodName := ⟨RJ9, "min", "(II)I"⟩
def RJ7 : String := "java/util/Arrays"
abbrev cJ7_fill_53178 : ByteArray := prog_13_method_103_code
def yJ7_fill_53178 : MethodName := ⟨RJ7, "fill", "([II)V"⟩
def RL : String := "LeastBarsLaw"
abbrev cL_law : ByteArray := code
def yL_law : MethodName := ⟨RL, "law", "([I)Z"⟩
abbrev vwCl : List vw_C := [(RX0, TX0, 6), (RX1, TX1, 7), (RX2, TX2, 7), (RX3, TX3, 15), (RX4, TX4, 3), (RX5, TX5, 2), (RX6, TX6, 4), (RX7, TX7, 12), (RX8, TX8, 25)]
end
section
/-! THE MACHINE OVER A FIXED GRAPH OF CELLS: once both objects are made no cell comes and no reference changes: a state is the numbers alone.
 Mm: the number at a cell's place (a field's slot, an array's index). Vl: a number, or a cell of the graph. Gc: a cell's shape: an array (kind 0 int, 1 boolean, 2 references; length; what it refers to) or an object (class; its fields: 0 a number, a + 1 the cell a). -/
abbrev Mm : Type := Nat → Nat → Int32
abbrev Vl : Type := Int32 ⊕ Nat
abbrev Gc : Type := (Nat × Nat × List Nat) ⊕ (Nat × List Nat)
abbrev Tc : Type := ClassId × ClassId × ClassId
def m_up (σ : Mm) (a k : Nat) (v : Int32) : Mm := fun x => if x = a then upd (σ x) k v else σ x
def e_val (ρ : Nat → Nat) : Vl → Value
  | .inl x => .int x
  | .inr a => .ref (ρ a)
def e_fld (ρ : Nat → Nat) (f : Nat → Int32) (k c : Nat) : Value := match c with
  | 0 => .int (f k)
  | a + 1 => .ref (ρ a)
def e_cell (t : Tc) (ρ : Nat → Nat) (f : Nat → Int32) : Gc → va_E
  | .inl (0, n, _) => .inl (t.1, n, .inl f)
  | .inl (1, n, _) => .inl (t.2.1, n, .inl f)
  | .inl (_ + 2, n, ids) => .inl (t.2.2, n, .inr (.inr (.inr (.inr (fun j => (ids[j]?).map ρ)))))
  | .inr (ci, fs) => .inr (ci, fs.mapIdx (e_fld ρ f))
def e_W (t : Tc) (Γ : List Gc) (ρ : Nat → Nat) (σ : Mm) : va_W := Γ.mapIdx (fun a c => (ρ a, e_cell t ρ (σ a) c))
theorem e_get {t : Tc} {Γ : List Gc} {ρ : Nat → Nat} {σ : Mm} {a : Nat} {c : Gc} (h : Γ[a]? = some c) : (e_W t Γ ρ σ)[a]? = some (ρ a, e_cell t ρ (σ a) c) := by
  simp [e_W, List.getElem?_mapIdx, h]
theorem e_set {t : Tc} {Γ : List Gc} {ρ : Nat → Nat} {σ : Mm} {a k : Nat} {v : Int32} {c : Gc} {q : va_E} (h : Γ[a]? = some c) (hc : q = e_cell t ρ (upd (σ a) k v) c) : (e_W t Γ ρ σ).set a (ρ a, q) = e_W t Γ ρ (m_up σ a k v) := by
  subst hc
  apply List.ext_getElem?
  intro i
  rw [List.getElem?_set]
  have hlt : a < Γ.length := (List.getElem?_eq_some_iff.mp h).1
  by_cases hi : a = i
  · subst hi
    rw [if_pos rfl, if_pos (by simpa [e_W] using hlt), e_get h]
    simp [m_up]
  · rw [if_neg hi]
    have hi' : ¬ i = a := fun q => hi q.symm
    simp only [e_W, List.getElem?_mapIdx]
    cases Γ[i]? with
    | none => rfl
    | some x => simp [m_up, hi']
theorem e_fset {ρ : Nat → Nat} {f : Nat → Int32} {fs : List Nat} {k : Nat} {v : Int32} (h : fs[k]? = some 0) : (fs.mapIdx (e_fld ρ f)).set k (.int v) = fs.mapIdx (e_fld ρ (upd f k v)) := by
  apply List.ext_getElem?
  intro i
  rw [List.getElem?_set]
  have hlt : k < fs.length := (List.getElem?_eq_some_iff.mp h).1
  by_cases hi : k = i
  · subst hi
    rw [if_pos rfl, if_pos (by simpa using hlt), List.getElem?_mapIdx, h]
    simp [e_fld, upd]
  · rw [if_neg hi]
    have hi' : ¬ i = k := fun q => hi q.symm
    simp only [List.getElem?_mapIdx]
    cases fs[i]? with
    | none => rfl
    | some x => cases x <;> simp [e_fld, upd, hi']
theorem e_fget {ρ : Nat → Nat} {f : Nat → Int32} {fs : List Nat} {k c : Nat} (h : fs[k]? = some c) : (fs.mapIdx (e_fld ρ f))[k]? = some (e_fld ρ f k c) := by
  simp [List.getElem?_mapIdx, h]
/-- the addresses don't hang on the numbers -/
theorem e_adr {t : Tc} {Γ : List Gc} {ρ : Nat → Nat} {σ : Mm} {k : Nat} {q : Nat × va_E} (h : (e_W t Γ ρ σ)[k]? = some q) : k < Γ.length ∧ q.1 = ρ k := by
  simp only [e_W, List.getElem?_mapIdx] at h
  cases hk : Γ[k]? with
  | none => rw [hk] at h; cases h
  | some c => rw [hk] at h; cases h; exact ⟨(List.getElem?_eq_some_iff.mp hk).1, rfl⟩
theorem e_some {t : Tc} {Γ : List Gc} {ρ : Nat → Nat} {σ : Mm} {k : Nat} (h : k < Γ.length) : ∃ x : va_E, (e_W t Γ ρ σ)[k]? = some (ρ k, x) := ⟨_, e_get (List.getElem?_eq_getElem h)⟩
theorem e_D {t : Tc} {Γ : List Gc} {ρ : Nat → Nat} {σ σ' : Mm} {A : Nat → Prop} (h : va_D A (e_W t Γ ρ σ)) : va_D A (e_W t Γ ρ σ') := by
  refine ⟨fun i j p q hi hj hpq => ?_, fun k q hk => ?_⟩
  · obtain ⟨a1, a2⟩ := e_adr hi
    obtain ⟨b1, b2⟩ := e_adr hj
    obtain ⟨x, hx⟩ := e_some (t := t) (ρ := ρ) (σ := σ) a1
    obtain ⟨y, hy⟩ := e_some (t := t) (ρ := ρ) (σ := σ) b1
    exact h.1 i j _ _ hx hy (by rw [← a2, ← b2]; exact hpq)
  · obtain ⟨a1, a2⟩ := e_adr hk
    obtain ⟨x, hx⟩ := e_some (t := t) (ρ := ρ) (σ := σ) a1
    rw [a2]
    exact h.2 k _ hx
theorem e_A {t : Tc} {Γ : List Gc} {ρ : Nat → Nat} {σ σ' : Mm} {sz q : Nat} (h : va_A (e_W t Γ ρ σ) sz q) : va_A (e_W t Γ ρ σ') sz q := by
  rcases h with ⟨k, x, hk⟩ | h
  · obtain ⟨a1, a2⟩ := e_adr hk
    obtain ⟨y, hy⟩ := e_some (t := t) (ρ := ρ) (σ := σ') a1
    refine Or.inl ⟨k, y, ?_⟩
    rw [hy]
    exact congrArg some (Prod.ext a2.symm rfl)
  · exact Or.inr h
/-! locals -/
theorem e_cat (ρ : Nat → Nat) (v : Vl) : (e_val ρ v).category = 1 := by cases v <;> rfl
theorem e_cats (ρ : Nat → Nat) (st : List Vl) : ((st.map (e_val ρ)).map fun v => v.category).sum = st.length := by
  induction st with
  | nil => rfl
  | cons a l ih =>
    simp only [List.map_cons, List.sum_cons, List.length_cons, e_cat] at ih ⊢
    omega
def lvR (ρ : Nat → Nat) (ls : Array Slot) (nL : Nat) (L : List (Option Vl)) : Prop := ls.size = nL ∧ lv_wf ls ∧ L.length = nL ∧ ∀ (i : Nat) (v : Vl), L[i]? = some (some v) → ls[i]? = some (.val (e_val ρ v))
def lvl (ρ : Nat → Nat) (L : List (Option Vl)) : List (Nat × Value) := (List.range L.length).filterMap fun i => match L[i]? with
  | some (some v) => some (i, e_val ρ v)
  | _ => none
theorem lvl_mem {ρ : Nat → Nat} {L : List (Option Vl)} {q : Nat × Value} : q ∈ lvl ρ L ↔ ∃ v : Vl, L[q.1]? = some (some v) ∧ q.2 = e_val ρ v := by
  unfold lvl
  rw [List.mem_filterMap]
  constructor
  · rintro ⟨i, -, h⟩
    split at h
    next v hv =>
      cases h
      exact ⟨v, hv, rfl⟩
    next => cases h
  · rintro ⟨v, hv, h2⟩
    refine ⟨q.1, List.mem_range.mpr (List.getElem?_eq_some_iff.mp hv).1, ?_⟩
    rw [hv]
    exact congrArg some (Prod.ext rfl h2.symm)
theorem lvR.has {ρ : Nat → Nat} {ls : Array Slot} {nL : Nat} {L : List (Option Vl)} (h : lvR ρ ls nL L) : lv_has ls nL (lvl ρ L) := by
  refine ⟨h.1, h.2.1, fun q hq => ?_⟩
  obtain ⟨v, h1, h2⟩ := lvl_mem.mp hq
  rw [h2]
  exact h.2.2.2 _ _ h1
theorem lvR.store {ρ : Nat → Nat} {ls ls' : Array Slot} {nL i : Nat} {L : List (Option Vl)} {v : Vl} (h : lvR ρ ls nL L) (hi : i < nL) (h' : lv_has ls' nL ((i, e_val ρ v) :: (lvl ρ L).filter (fun q => !(q.1 == i) && !(q.1 + 1 == i && q.2.category == 2)))) : lvR ρ ls' nL (L.set i (some v)) := by
  refine ⟨h'.1, h'.2.1, by simpa using h.2.2.1, fun j w hj => ?_⟩
  rw [List.getElem?_set] at hj
  by_cases hij : i = j
  · subst hij
    rw [if_pos rfl, if_pos (by rw [h.2.2.1]; exact hi)] at hj
    cases hj
    exact h'.2.2 _ List.mem_cons_self
  · rw [if_neg hij] at hj
    refine h'.2.2 (j, e_val ρ w) (List.mem_cons_of_mem _ (List.mem_filter.mpr ⟨lvl_mem.mpr ⟨w, hj, rfl⟩, ?_⟩))
    have h1 : (j == i) = false := by simpa using fun q => hij q.symm
    simp [h1, e_cat]
theorem e_args (ρ : Nat → Nat) : ∀ (As : List Vl) (k i : Nat) (v : Vl), As[i]? = some v → (k + i, e_val ρ v) ∈ lv_args k (As.map (e_val ρ)) := by
  intro As
  induction As with
  | nil => intro k i v h; simp at h
  | cons a l ih =>
    intro k i v h
    have hc : ¬ (e_val ρ a).category = 2 := by rw [e_cat]; decide
    simp only [List.map_cons, lv_args, if_neg hc]
    cases i with
    | zero =>
      simp at h
      subst h
      exact List.mem_cons_self
    | succ i =>
      have h2 := ih (k + 1) i v (by simpa using h)
      rw [show k + (i + 1) = k + 1 + i by omega]
      exact List.mem_cons_of_mem _ h2
theorem e_sl (ρ : Nat → Nat) (As : List Vl) : (lg_sl (As.map (e_val ρ))).length = As.length := by
  induction As with
  | nil => rfl
  | cons a l ih =>
    have hc : ¬ (e_val ρ a).category = 2 := by rw [e_cat]; decide
    simp only [lg_sl, List.map_cons, List.flatMap_cons, if_neg hc, List.length_append, List.length_cons, List.length_nil] at ih ⊢
    omega
def L0 (As : List Vl) (nL : Nat) : List (Option Vl) := As.map some ++ List.replicate (nL - As.length) none
theorem lvR.entry (ρ : Nat → Nat) (As : List Vl) {nL : Nat} (h : As.length ≤ nL) : lvR ρ ((lg_sl (As.map (e_val ρ)) ++ List.replicate (nL - (lg_sl (As.map (e_val ρ))).length) Slot.unset).toArray) nL (L0 As nL) := by
  have h1 := lv_entry (As.map (e_val ρ)) (n := nL) (by rw [e_sl]; exact h)
  refine ⟨h1.1, h1.2.1, by simp [L0]; omega, fun i v hi => ?_⟩
  unfold L0 at hi
  by_cases hl : i < As.length
  · rw [List.getElem?_append_left (by simpa using hl), List.getElem?_map] at hi
    cases ha : As[i]? with
    | none => rw [ha] at hi; cases hi
    | some w =>
      rw [ha] at hi
      cases hi
      have h2 := h1.2.2 _ (e_args ρ As 0 i v ha)
      simpa using h2
  · rw [List.getElem?_append_right (by simpa using hl)] at hi
    have := List.eq_of_mem_replicate (List.mem_of_getElem? hi)
    cases this
/-! the nest's words -/
def isNest : Cond → Bool
  | .fieldLinkNest .. => true
  | .methodLinkNest .. => true
  | _ => false
def NS (U : State) : Prop := ∀ w ∈ tables_1, isNest w = true → va_Nw w U
theorem NS.warm {s U : State} (hW : s.WarmedH U.vm) (h : NS s) : NS U := by
  intro w hw hn
  have h1 := h w hw hn
  cases w <;> first | exact va_Nw.warmF hW h1 | exact va_Nw.warmM hW h1 | (simp [isNest] at hn; done)
theorem NS.same {s U : State} (hW : s.vm = U.vm) (h : NS s) : NS U := by
  intro w hw hn
  have h1 := h w hw hn
  cases w <;> first | exact va_Nw.same rfl hW h1 | (simp [isNest] at hn; done)
/-! the words: all good ones of the tables -/
def WS : List Cond := lw_tbl.filter goodWord
theorem ws_m {w : Cond} (i : Nat) (h : lw_tbl[i]? = some w) (hg : goodWord w = true) : w ∈ WS := List.mem_filter.mpr ⟨List.mem_of_getElem? h, hg⟩
theorem ws_p {ws : List Cond} (ps : List Nat) (hp : ws = ps.filterMap (fun i => lw_tbl[i]?)) (h : ws.all goodWord = true) : ∀ w ∈ ws, w ∈ WS := by
  intro w hw
  have h1 := List.all_eq_true.mp h w hw
  rw [hp] at hw
  obtain ⟨i, -, hi⟩ := List.mem_filterMap.mp hw
  exact ws_m i hi h1
/-! what a field's link and a call's link are -/
def Fk (own : String) (index ci k : Nat) (ty : FieldType) (fin : Bool) : Prop := ∃ (C : String) (T : u_T) (N : Nat), vwCl[ci]? = some (C, T, N) ∧ k < N ∧
  (Cond.fieldLink own index C (T k).2.1 (T k).2.2.1 ∈ WS ∨ ∃ host : String, Cond.fieldLinkNest own index C (T k).2.1 (T k).2.2.1 host ∈ tables_1) ∧
  (∀ w ∈ u_ws C T N, w ∈ WS) ∧ (T k).1 = C ∧
  (∃ ty0 : Nat → FieldType, (∀ k, k < N → parseFieldDescriptor (T k).2.2.1 = some (ty0 k)) ∧ (∀ a, a < N → ∀ b, b < N → a ≠ b → (T a).2.1 ≠ (T b).2.1)) ∧
  parseFieldDescriptor (T k).2.2.1 = some ty ∧ (T k).2.2.2 = fin
abbrev Ck0 (y : MethodName) (n : Nat) : Prop := y.cls ≠ "java/lang/invoke/MethodHandle" ∧ y.cls ≠ "java/lang/invoke/VarHandle" ∧ (parseMethodDescriptor y.desc).map (fun d => d.parameters.length) = some n
def CkV (own : String) (index : Nat) (y : MethodName) (cc : ByteArray) (nL : Nat) (ret : Option FieldType) (C : String) (n : Nat) : Prop :=
  Cond.methodLink own index y ∈ WS ∧ Cond.instanceMethod y ∈ WS ∧ Cond.selects C y y ∈ WS ∧ Cond.initialized C ∈ WS ∧ Cond.code y cc nL ret ∈ WS ∧ y.cls = C ∧ Ck0 y n ∧ nL ≤ 17
def CkVN (own : String) (index : Nat) (y : MethodName) (cc : ByteArray) (nL : Nat) (ret : Option FieldType) (C : String) (n : Nat) : Prop :=
  Cond.methodLinkNest own index y RX7 ∈ tables_1 ∧ Cond.instanceMethod y ∈ WS ∧ Cond.selects C y y ∈ WS ∧ Cond.initialized C ∈ WS ∧ Cond.code y cc nL ret ∈ WS ∧ y.cls = C ∧ Ck0 y n ∧ nL ≤ 17
def CkS (own : String) (index : Nat) (y : MethodName) (cc : ByteArray) (nL : Nat) (ret : Option FieldType) (n : Nat) : Prop :=
  Cond.methodLink own index y ∈ WS ∧ Cond.static y ∈ WS ∧ Cond.initialized y.cls ∈ WS ∧ Cond.code y cc nL ret ∈ WS ∧ Ck0 y n ∧ nL ≤ 17
def CkSN (own : String) (index : Nat) (y : MethodName) (cc : ByteArray) (nL : Nat) (ret : Option FieldType) (n : Nat) : Prop :=
  Cond.methodLinkNest own index y RX7 ∈ tables_1 ∧ Cond.static y ∈ WS ∧ Cond.initialized y.cls ∈ WS ∧ Cond.code y cc nL ret ∈ WS ∧ Ck0 y n ∧ nL ≤ 17
theorem ws_in {ws : List Cond} (h : ∀ w ∈ ws, w ∈ WS) : GoodIn WS ws := fun w hw => ⟨h w hw, good_of_word (List.mem_filter.mp (h w hw)).2⟩
/-! the judgement -/
def rmd (d : Nat) : Room := { frames := d, cells := 0, slots := 0, locals := 36 * d }
abbrev tysOf (t : Tc) : List (ClassId × FieldType) := [(t.1, .int), (t.2.1, .boolean), (t.2.2, .object RX2)]
abbrev Bw (D : va_G) (t : Tc) (Γ : List Gc) (ρ : Nat → Nat) (σ : Mm) (U : State) : Prop := va_P D vwCl (e_W t Γ ρ σ) U.heap
def QQ (D : va_G) (t : Tc) (Γ : List Gc) (ρ : Nat → Nat) (A : Nat → Prop) (ret : Option FieldType) (post : Int32 → Mm → Prop) : Array Value → State → Outcome → State → Prop := match ret with
  | none => va_Qv (S := Mm) (post 0) (Bw D t Γ ρ) A
  | some _ => va_Qi (S := Mm) post (Bw D t Γ ρ) A
def Cx (own : String) (cc : ByteArray) (nL : Nat) (ret : Option FieldType) (D : va_G) (t : Tc) (A : Nat → Prop) (p : Program) (s : State) (m : MethodId) (args : Array Value) (meth : Method) (c : Code) : Prop :=
  p.tables.exec = Jvm.exec ∧ c.code = cc ∧ c.maxLocals = nL ∧ s.vm.findClass own = some m.cls ∧ meth.sig.returnType = ret ∧ meth.locks = false ∧ (∀ w ∈ WS, w.before args s = true) ∧ NS s ∧ va_K D vwCl (tysOf t) s ∧ ∀ q : Nat, s.heap.size ≤ q → A q
/-- the method with this code, now at pc with locals L, stack st and numbers σ, ends with an answer r and numbers σ' of which post holds -/
def AJ (Γ : List Gc) (d : Nat) (own : String) (cc : ByteArray) (nL : Nat) (ret : Option FieldType) (post : Int32 → Mm → Prop) (pc : Nat) (L : List (Option Vl)) (st : List Vl) (σ : Mm) : Prop :=
  ∀ (D : va_G) (t : Tc) (ρ : Nat → Nat) (A : Nat → Prop) (p : Program) (l : Launch) (e : Env) (s : State) (m : MethodId) (args : Array Value) (below : List Frame) (meth : Method) (c : Code) (H : Heap) (locs : List Loc) (ls : Array Slot),
    Cx own cc nL ret D t A p s m args meth c → va_P D vwCl (e_W t Γ ρ σ) H → va_D A (e_W t Γ ρ σ) → va_S A s.heap H locs → lvR ρ ls nL L →
    W p l e (rmd d) s m args below meth c H locs 0 0 (MQ below (QQ D t Γ ρ A ret post) args s 0 0 A) (F0 m pc ls (st.map (e_val ρ)))
/-- a method's contract: called with these arguments at these numbers it ends, with post -/
def EV (Γ : List Gc) (d : Nat) (y : MethodName) (cc : ByteArray) (nL : Nat) (ret : Option FieldType) (As : List Vl) (σ : Mm) (post : Int32 → Mm → Prop) : Prop :=
  ∀ (l : Launch) (D : va_G) (t : Tc) (ρ : Nat → Nat) (sz : Nat), Met l y (.code y cc nL ret :: WS) (rmd d)
    (va_Pc (As.map (e_val ρ)) (fun U => U.heap.size = sz ∧ va_P D vwCl (e_W t Γ ρ σ) U.heap ∧ va_K D vwCl (tysOf t) U ∧ va_D (fun _ => True) (e_W t Γ ρ σ) ∧ NS U))
    (QQ D t Γ ρ (va_A (e_W t Γ ρ σ) sz) ret post) 0 0 (va_A (e_W t Γ ρ σ) sz)
theorem EV.intro {Γ : List Gc} {d : Nat} {y : MethodName} {cc : ByteArray} {nL : Nat} {ret : Option FieldType} {As : List Vl} {σ : Mm} {post : Int32 → Mm → Prop} (hy : plainName y.cls = true) (hn : As.length ≤ nL)
    (h : AJ Γ d y.cls cc nL ret post 0 (L0 As nL) [] σ) : EV Γ d y cc nL ret As σ post := by
  intro l D t ρ sz
  refine Met.ofW (cc := cc) (maxL := nL) (ret := ret) hy rfl ?_
  intro p e s m args below meth c s₁ B hml hv
  obtain ⟨rfl, hsz, hP, hK, hD0, hN⟩ := hv
  have hx := B.exec
  have hb := B.bytes
  have hr := B.returns
  have hts := atoms_spec (ws := Cond.code y cc nL ret :: WS) B.pre
  have hown : s.vm.findClass y.cls = some m.cls := findClass_of_methodNamed B.named
  have hlocks : meth.locks = false := B.notSynchronized
  subst hsz
  have hD := hD0.self (sz := s.heap.size)
  rw [lg_entry_eq]
  exact h D t ρ _ p l e s m _ below meth c s.heap [] _ ⟨hx, hb, hml, hown, hr, hlocks, fun w hw => hts w (List.mem_cons_of_mem _ hw), hN, hK, fun q hq => Or.inr hq⟩ hP hD va_S.rf (lvR.entry ρ As hn)
section Rules
variable {Γ : List Gc} {d : Nat} {own : String} {cc : ByteArray} {nL : Nat} {ret : Option FieldType} {post : Int32 → Mm → Prop} {pc : Nat} {L : List (Option Vl)} {st : List Vl} {σ : Mm}
theorem AJ.eq {pc' : Nat} {L' : List (Option Vl)} {st' : List Vl} {σ' : Mm} (k : AJ Γ d own cc nL ret post pc' L' st' σ') (h1 : pc = pc') (h2 : L = L') (h3 : st = st') (h4 : σ = σ') : AJ Γ d own cc nL ret post pc L st σ := by
  subst h1; subst h2; subst h3; subst h4; exact k
theorem j_iconst {n : Int} (hd : decode cc pc = .ok (.iconst n, 1)) {v : Int32} (hv : Int32.ofInt n = v) (k : AJ Γ d own cc nL ret post (pc + 1) L (.inl v :: st) σ) : AJ Γ d own cc nL ret post pc L st σ := by
  intro D t ρ A p l e s m args below meth c H locs ls C hP hD hS hl
  exact lv_iconst C.1 C.2.1 hd hv (k D t ρ A p l e s m args below meth c H locs ls C hP hD hS hl)
theorem j_bipush {n : Int} (hd : decode cc pc = .ok (.bipush n, 2)) {v : Int32} (hv : (Int8.ofInt n).toInt32 = v) (k : AJ Γ d own cc nL ret post (pc + 2) L (.inl v :: st) σ) : AJ Γ d own cc nL ret post pc L st σ := by
  intro D t ρ A p l e s m args below meth c H locs ls C hP hD hS hl
  exact lv_bipush C.1 C.2.1 hd hv (k D t ρ A p l e s m args below meth c H locs ls C hP hD hS hl)
theorem j_sipush {n : Int} (hd : decode cc pc = .ok (.sipush n, 3)) {v : Int32} (hv : (Int16.ofInt n).toInt32 = v) (k : AJ Γ d own cc nL ret post (pc + 3) L (.inl v :: st) σ) : AJ Γ d own cc nL ret post pc L st σ := by
  intro D t ρ A p l e s m args below meth c H locs ls C hP hD hS hl
  exact lv_sipush C.1 C.2.1 hd hv (k D t ρ A p l e s m args below meth c H locs ls C hP hD hS hl)
theorem j_ldc {index : Nat} {v : Int32} (hd : decode cc pc = .ok (.ldc index, 2)) (hw : Cond.constant own index v ∈ WS) (k : AJ Γ d own cc nL ret post (pc + 2) L (.inl v :: st) σ) : AJ Γ d own cc nL ret post pc L st σ := by
  intro D t ρ A p l e s m args below meth c H locs ls C hP hD hS hl
  exact lv_ldc C.1 C.2.1 C.2.2.2.1 (C.2.2.2.2.2.2.1 _ hw) hd (k D t ρ A p l e s m args below meth c H locs ls C hP hD hS hl)
theorem j_ldcw {index : Nat} {v : Int32} (hd : decode cc pc = .ok (.ldc_w index, 3)) (hw : Cond.constant own index v ∈ WS) (k : AJ Γ d own cc nL ret post (pc + 3) L (.inl v :: st) σ) : AJ Γ d own cc nL ret post pc L st σ := by
  intro D t ρ A p l e s m args below meth c H locs ls C hP hD hS hl
  exact lv_ldcw C.1 C.2.1 C.2.2.2.1 (C.2.2.2.2.2.2.1 _ hw) hd (k D t ρ A p l e s m args below meth c H locs ls C hP hD hS hl)
theorem j_iload {i : Nat} {x : Int32} (hd : decode cc pc = .ok (.iload i, 2)) (h : L[i]? = some (some (.inl x))) (k : AJ Γ d own cc nL ret post (pc + 2) L (.inl x :: st) σ) : AJ Γ d own cc nL ret post pc L st σ := by
  intro D t ρ A p l e s m args below meth c H locs ls C hP hD hS hl
  exact lv_iload C.1 C.2.1 hd (hl.2.2.2 _ _ h) (k D t ρ A p l e s m args below meth c H locs ls C hP hD hS hl)
theorem j_iload_n {i : Fin 4} {x : Int32} (hd : decode cc pc = .ok (.iload_n i, 1)) (h : L[i.val]? = some (some (.inl x))) (k : AJ Γ d own cc nL ret post (pc + 1) L (.inl x :: st) σ) : AJ Γ d own cc nL ret post pc L st σ := by
  intro D t ρ A p l e s m args below meth c H locs ls C hP hD hS hl
  exact lv_iload_n C.1 C.2.1 hd rfl (hl.2.2.2 _ _ h) (k D t ρ A p l e s m args below meth c H locs ls C hP hD hS hl)
theorem j_aload {i : Nat} {x : Nat} (hd : decode cc pc = .ok (.aload i, 2)) (h : L[i]? = some (some (.inr x))) (k : AJ Γ d own cc nL ret post (pc + 2) L (.inr x :: st) σ) : AJ Γ d own cc nL ret post pc L st σ := by
  intro D t ρ A p l e s m args below meth c H locs ls C hP hD hS hl
  exact lv_aload C.1 C.2.1 hd (hl.2.2.2 _ _ h) (k D t ρ A p l e s m args below meth c H locs ls C hP hD hS hl)
theorem j_aload_n {i : Fin 4} {x : Nat} (hd : decode cc pc = .ok (.aload_n i, 1)) (h : L[i.val]? = some (some (.inr x))) (k : AJ Γ d own cc nL ret post (pc + 1) L (.inr x :: st) σ) : AJ Γ d own cc nL ret post pc L st σ := by
  intro D t ρ A p l e s m args below meth c H locs ls C hP hD hS hl
  exact lv_aload_n C.1 C.2.1 hd rfl (hl.2.2.2 _ _ h) (k D t ρ A p l e s m args below meth c H locs ls C hP hD hS hl)
theorem j_istore {i : Nat} {x : Int32} (hd : decode cc pc = .ok (.istore i, 2)) (hi : i < nL) (k : AJ Γ d own cc nL ret post (pc + 2) (L.set i (some (.inl x))) st σ) : AJ Γ d own cc nL ret post pc L (.inl x :: st) σ := by
  intro D t ρ A p l e s m args below meth c H locs ls C hP hD hS hl
  exact lv_istore C.1 C.2.1 hd hl.has hi rfl (fun ls' h' => k D t ρ A p l e s m args below meth c H locs ls' C hP hD hS (hl.store (v := .inl x) hi h'))
theorem j_istore_n {i : Fin 4} {x : Int32} (hd : decode cc pc = .ok (.istore_n i, 1)) (hi : i.val < nL) (k : AJ Γ d own cc nL ret post (pc + 1) (L.set i.val (some (.inl x))) st σ) : AJ Γ d own cc nL ret post pc L (.inl x :: st) σ := by
  intro D t ρ A p l e s m args below meth c H locs ls C hP hD hS hl
  exact lv_istore_n C.1 C.2.1 hd rfl hl.has hi rfl (fun ls' h' => k D t ρ A p l e s m args below meth c H locs ls' C hP hD hS (hl.store (v := .inl x) hi h'))
theorem j_astore_n {i : Fin 4} {x : Nat} (hd : decode cc pc = .ok (.astore_n i, 1)) (hi : i.val < nL) (k : AJ Γ d own cc nL ret post (pc + 1) (L.set i.val (some (.inr x))) st σ) : AJ Γ d own cc nL ret post pc L (.inr x :: st) σ := by
  intro D t ρ A p l e s m args below meth c H locs ls C hP hD hS hl
  exact lv_astore_n C.1 C.2.1 hd rfl hl.has hi rfl (fun ls' h' => k D t ρ A p l e s m args below meth c H locs ls' C hP hD hS (hl.store (v := .inr x) hi h'))
theorem j_iinc {i : Nat} {n : Int} {x v : Int32} (hd : decode cc pc = .ok (.iinc i n, 3)) (h : L[i]? = some (some (.inl x))) (hv : x + Int32.ofInt n = v) (k : AJ Γ d own cc nL ret post (pc + 3) (L.set i (some (.inl v))) st σ) : AJ Γ d own cc nL ret post pc L st σ := by
  intro D t ρ A p l e s m args below meth c H locs ls C hP hD hS hl
  have hi : i < nL := by rw [← hl.2.2.1]; exact (List.getElem?_eq_some_iff.mp h).1
  have hm : (i, Value.int x) ∈ lvl ρ L := lvl_mem.mpr ⟨.inl x, h, rfl⟩
  obtain ⟨q, hq⟩ := List.getElem?_of_mem hm
  exact lv_iinc C.1 C.2.1 hd hl.has hq hv hi rfl (fun ls' h' => k D t ρ A p l e s m args below meth c H locs ls' C hP hD hS (hl.store (v := .inl v) hi h'))
theorem j_dup {v : Vl} (hd : decode cc pc = .ok (.dup, 1)) (k : AJ Γ d own cc nL ret post (pc + 1) L (v :: v :: st) σ) : AJ Γ d own cc nL ret post pc L (v :: st) σ := by
  intro D t ρ A p l e s m args below meth c H locs ls C hP hD hS hl
  exact lv_dup C.1 C.2.1 hd (e_cat ρ v) (k D t ρ A p l e s m args below meth c H locs ls C hP hD hS hl)
theorem j_dup2 {v w : Vl} (hd : decode cc pc = .ok (.dup2, 1)) (k : AJ Γ d own cc nL ret post (pc + 1) L (v :: w :: v :: w :: st) σ) : AJ Γ d own cc nL ret post pc L (v :: w :: st) σ := by
  intro D t ρ A p l e s m args below meth c H locs ls C hP hD hS hl
  exact lv_dup2_11 C.1 C.2.1 hd (e_cat ρ v) (e_cat ρ w) (k D t ρ A p l e s m args below meth c H locs ls C hP hD hS hl)
theorem j_pop {v : Vl} (hd : decode cc pc = .ok (.pop, 1)) (k : AJ Γ d own cc nL ret post (pc + 1) L st σ) : AJ Γ d own cc nL ret post pc L (v :: st) σ := by
  intro D t ρ A p l e s m args below meth c H locs ls C hP hD hS hl
  exact lv_pop C.1 C.2.1 hd (e_cat ρ v) (k D t ρ A p l e s m args below meth c H locs ls C hP hD hS hl)
theorem j_goto {off : Int} {tgt : Nat} (hd : decode cc pc = .ok (.goto off, 3)) (ht : (pc : Int) + off = (tgt : Int)) (k : AJ Γ d own cc nL ret post tgt L st σ) : AJ Γ d own cc nL ret post pc L st σ := by
  intro D t ρ A p l e s m args below meth c H locs ls C hP hD hS hl
  exact lv_goto C.1 C.2.1 hd ht (k D t ρ A p l e s m args below meth c H locs ls C hP hD hS hl)
theorem j_iadd {x y : Int32} (hd : decode cc pc = .ok (.iadd, 1)) (k : AJ Γ d own cc nL ret post (pc + 1) L (.inl (x + y) :: st) σ) : AJ Γ d own cc nL ret post pc L (.inl y :: .inl x :: st) σ := by
  intro D t ρ A p l e s m args below meth c H locs ls C hP hD hS hl
  exact lv_iadd C.1 C.2.1 hd (k D t ρ A p l e s m args below meth c H locs ls C hP hD hS hl)
theorem j_isub {x y : Int32} (hd : decode cc pc = .ok (.isub, 1)) (k : AJ Γ d own cc nL ret post (pc + 1) L (.inl (x - y) :: st) σ) : AJ Γ d own cc nL ret post pc L (.inl y :: .inl x :: st) σ := by
  intro D t ρ A p l e s m args below meth c H locs ls C hP hD hS hl
  exact lv_isub C.1 C.2.1 hd (k D t ρ A p l e s m args below meth c H locs ls C hP hD hS hl)
theorem j_imul {x y : Int32} (hd : decode cc pc = .ok (.imul, 1)) (k : AJ Γ d own cc nL ret post (pc + 1) L (.inl (x * y) :: st) σ) : AJ Γ d own cc nL ret post pc L (.inl y :: .inl x :: st) σ := by
  intro D t ρ A p l e s m args below meth c H locs ls C hP hD hS hl
  exact lv_imul C.1 C.2.1 hd (k D t ρ A p l e s m args below meth c H locs ls C hP hD hS hl)
theorem j_iand {x y : Int32} (hd : decode cc pc = .ok (.iand, 1)) (k : AJ Γ d own cc nL ret post (pc + 1) L (.inl (x &&& y) :: st) σ) : AJ Γ d own cc nL ret post pc L (.inl y :: .inl x :: st) σ := by
  intro D t ρ A p l e s m args below meth c H locs ls C hP hD hS hl
  exact lv_iand C.1 C.2.1 hd (k D t ρ A p l e s m args below meth c H locs ls C hP hD hS hl)
theorem j_ior {x y : Int32} (hd : decode cc pc = .ok (.ior, 1)) (k : AJ Γ d own cc nL ret post (pc + 1) L (.inl (x ||| y) :: st) σ) : AJ Γ d own cc nL ret post pc L (.inl y :: .inl x :: st) σ := by
  intro D t ρ A p l e s m args below meth c H locs ls C hP hD hS hl
  exact lv_ior C.1 C.2.1 hd (k D t ρ A p l e s m args below meth c H locs ls C hP hD hS hl)
theorem j_ixor {x y : Int32} (hd : decode cc pc = .ok (.ixor, 1)) (k : AJ Γ d own cc nL ret post (pc + 1) L (.inl (x ^^^ y) :: st) σ) : AJ Γ d own cc nL ret post pc L (.inl y :: .inl x :: st) σ := by
  intro D t ρ A p l e s m args below meth c H locs ls C hP hD hS hl
  exact lv_ixor C.1 C.2.1 hd (k D t ρ A p l e s m args below meth c H locs ls C hP hD hS hl)
theorem j_ishl {x y : Int32} (hd : decode cc pc = .ok (.ishl, 1)) (k : AJ Γ d own cc nL ret post (pc + 1) L (.inl (x <<< (y &&& 31)) :: st) σ) : AJ Γ d own cc nL ret post pc L (.inl y :: .inl x :: st) σ := by
  intro D t ρ A p l e s m args below meth c H locs ls C hP hD hS hl
  exact lv_ishl C.1 C.2.1 hd (k D t ρ A p l e s m args below meth c H locs ls C hP hD hS hl)
theorem j_ishr {x y : Int32} (hd : decode cc pc = .ok (.ishr, 1)) (k : AJ Γ d own cc nL ret post (pc + 1) L (.inl (x >>> (y &&& 31)) :: st) σ) : AJ Γ d own cc nL ret post pc L (.inl y :: .inl x :: st) σ := by
  intro D t ρ A p l e s m args below meth c H locs ls C hP hD hS hl
  exact lv_ishr C.1 C.2.1 hd (k D t ρ A p l e s m args below meth c H locs ls C hP hD hS hl)
theorem j_idiv {x y : Int32} (hd : decode cc pc = .ok (.idiv, 1)) (hne : ¬ y = 0) (k : AJ Γ d own cc nL ret post (pc + 1) L (.inl (x / y) :: st) σ) : AJ Γ d own cc nL ret post pc L (.inl y :: .inl x :: st) σ := by
  intro D t ρ A p l e s m args below meth c H locs ls C hP hD hS hl
  exact lv_idiv C.1 C.2.1 hd hne (k D t ρ A p l e s m args below meth c H locs ls C hP hD hS hl)
theorem j_irem {x y : Int32} (hd : decode cc pc = .ok (.irem, 1)) (hne : ¬ y = 0) (k : AJ Γ d own cc nL ret post (pc + 1) L (.inl (x - x / y * y) :: st) σ) : AJ Γ d own cc nL ret post pc L (.inl y :: .inl x :: st) σ := by
  intro D t ρ A p l e s m args below meth c H locs ls C hP hD hS hl
  exact lv_irem C.1 C.2.1 hd hne (k D t ρ A p l e s m args below meth c H locs ls C hP hD hS hl)
theorem j_iushr {x y v : Int32} (hd : decode cc pc = .ok (.iushr, 1)) (hv : (x.toUInt32 >>> (y.toUInt32 &&& Int32.toUInt32 31)).toInt32 = v) (k : AJ Γ d own cc nL ret post (pc + 1) L (.inl v :: st) σ) : AJ Γ d own cc nL ret post pc L (.inl y :: .inl x :: st) σ := by
  intro D t ρ A p l e s m args below meth c H locs ls C hP hD hS hl
  exact lv_iushr C.1 C.2.1 hd hv (k D t ρ A p l e s m args below meth c H locs ls C hP hD hS hl)
theorem j_icmp_eq {x y : Int32} {off : Int} {tgt : Nat} (hd : decode cc pc = .ok (.if_icmp .eq off, 3)) (ht : (pc : Int) + off = (tgt : Int)) (kt : x = y → AJ Γ d own cc nL ret post tgt L st σ) (kf : ¬ x = y → AJ Γ d own cc nL ret post (pc + 3) L st σ) : AJ Γ d own cc nL ret post pc L (.inl y :: .inl x :: st) σ := by
  intro D t ρ A p l e s m args below meth c H locs ls C hP hD hS hl
  exact lv_icmp_eq C.1 C.2.1 hd ht (fun h => kt h D t ρ A p l e s m args below meth c H locs ls C hP hD hS hl) (fun h => kf h D t ρ A p l e s m args below meth c H locs ls C hP hD hS hl)
theorem j_icmp_ne {x y : Int32} {off : Int} {tgt : Nat} (hd : decode cc pc = .ok (.if_icmp .ne off, 3)) (ht : (pc : Int) + off = (tgt : Int)) (kt : ¬ x = y → AJ Γ d own cc nL ret post tgt L st σ) (kf : x = y → AJ Γ d own cc nL ret post (pc + 3) L st σ) : AJ Γ d own cc nL ret post pc L (.inl y :: .inl x :: st) σ := by
  intro D t ρ A p l e s m args below meth c H locs ls C hP hD hS hl
  exact lv_icmp_ne C.1 C.2.1 hd ht (fun h => kt h D t ρ A p l e s m args below meth c H locs ls C hP hD hS hl) (fun h => kf h D t ρ A p l e s m args below meth c H locs ls C hP hD hS hl)
theorem j_icmp_lt {x y : Int32} {off : Int} {tgt : Nat} (hd : decode cc pc = .ok (.if_icmp .lt off, 3)) (ht : (pc : Int) + off = (tgt : Int)) (kt : x < y → AJ Γ d own cc nL ret post tgt L st σ) (kf : ¬ x < y → AJ Γ d own cc nL ret post (pc + 3) L st σ) : AJ Γ d own cc nL ret post pc L (.inl y :: .inl x :: st) σ := by
  intro D t ρ A p l e s m args below meth c H locs ls C hP hD hS hl
  exact lv_icmp_lt C.1 C.2.1 hd ht (fun h => kt h D t ρ A p l e s m args below meth c H locs ls C hP hD hS hl) (fun h => kf h D t ρ A p l e s m args below meth c H locs ls C hP hD hS hl)
theorem j_icmp_ge {x y : Int32} {off : Int} {tgt : Nat} (hd : decode cc pc = .ok (.if_icmp .ge off, 3)) (ht : (pc : Int) + off = (tgt : Int)) (kt : y ≤ x → AJ Γ d own cc nL ret post tgt L st σ) (kf : ¬ y ≤ x → AJ Γ d own cc nL ret post (pc + 3) L st σ) : AJ Γ d own cc nL ret post pc L (.inl y :: .inl x :: st) σ := by
  intro D t ρ A p l e s m args below meth c H locs ls C hP hD hS hl
  exact lv_icmp_ge C.1 C.2.1 hd ht (fun h => kt h D t ρ A p l e s m args below meth c H locs ls C hP hD hS hl) (fun h => kf h D t ρ A p l e s m args below meth c H locs ls C hP hD hS hl)
theorem j_icmp_gt {x y : Int32} {off : Int} {tgt : Nat} (hd : decode cc pc = .ok (.if_icmp .gt off, 3)) (ht : (pc : Int) + off = (tgt : Int)) (kt : y < x → AJ Γ d own cc nL ret post tgt L st σ) (kf : ¬ y < x → AJ Γ d own cc nL ret post (pc + 3) L st σ) : AJ Γ d own cc nL ret post pc L (.inl y :: .inl x :: st) σ := by
  intro D t ρ A p l e s m args below meth c H locs ls C hP hD hS hl
  exact lv_icmp_gt C.1 C.2.1 hd ht (fun h => kt h D t ρ A p l e s m args below meth c H locs ls C hP hD hS hl) (fun h => kf h D t ρ A p l e s m args below meth c H locs ls C hP hD hS hl)
theorem j_icmp_le {x y : Int32} {off : Int} {tgt : Nat} (hd : decode cc pc = .ok (.if_icmp .le off, 3)) (ht : (pc : Int) + off = (tgt : Int)) (kt : x ≤ y → AJ Γ d own cc nL ret post tgt L st σ) (kf : ¬ x ≤ y → AJ Γ d own cc nL ret post (pc + 3) L st σ) : AJ Γ d own cc nL ret post pc L (.inl y :: .inl x :: st) σ := by
  intro D t ρ A p l e s m args below meth c H locs ls C hP hD hS hl
  exact lv_icmp_le C.1 C.2.1 hd ht (fun h => kt h D t ρ A p l e s m args below meth c H locs ls C hP hD hS hl) (fun h => kf h D t ρ A p l e s m args below meth c H locs ls C hP hD hS hl)
theorem j_if_eq {x : Int32} {off : Int} {tgt : Nat} (hd : decode cc pc = .ok (.ifCond .eq off, 3)) (ht : (pc : Int) + off = (tgt : Int)) (kt : x = 0 → AJ Γ d own cc nL ret post tgt L st σ) (kf : ¬ x = 0 → AJ Γ d own cc nL ret post (pc + 3) L st σ) : AJ Γ d own cc nL ret post pc L (.inl x :: st) σ := by
  intro D t ρ A p l e s m args below meth c H locs ls C hP hD hS hl
  exact lv_if_eq C.1 C.2.1 hd ht (fun h => kt h D t ρ A p l e s m args below meth c H locs ls C hP hD hS hl) (fun h => kf h D t ρ A p l e s m args below meth c H locs ls C hP hD hS hl)
theorem j_if_ne {x : Int32} {off : Int} {tgt : Nat} (hd : decode cc pc = .ok (.ifCond .ne off, 3)) (ht : (pc : Int) + off = (tgt : Int)) (kt : ¬ x = 0 → AJ Γ d own cc nL ret post tgt L st σ) (kf : x = 0 → AJ Γ d own cc nL ret post (pc + 3) L st σ) : AJ Γ d own cc nL ret post pc L (.inl x :: st) σ := by
  intro D t ρ A p l e s m args below meth c H locs ls C hP hD hS hl
  exact lv_if_ne C.1 C.2.1 hd ht (fun h => kt h D t ρ A p l e s m args below meth c H locs ls C hP hD hS hl) (fun h => kf h D t ρ A p l e s m args below meth c H locs ls C hP hD hS hl)
theorem j_if_lt {x : Int32} {off : Int} {tgt : Nat} (hd : decode cc pc = .ok (.ifCond .lt off, 3)) (ht : (pc : Int) + off = (tgt : Int)) (kt : x < 0 → AJ Γ d own cc nL ret post tgt L st σ) (kf : ¬ x < 0 → AJ Γ d own cc nL ret post (pc + 3) L st σ) : AJ Γ d own cc nL ret post pc L (.inl x :: st) σ := by
  intro D t ρ A p l e s m args below meth c H locs ls C hP hD hS hl
  exact lv_if_lt C.1 C.2.1 hd ht (fun h => kt h D t ρ A p l e s m args below meth c H locs ls C hP hD hS hl) (fun h => kf h D t ρ A p l e s m args below meth c H locs ls C hP hD hS hl)
theorem j_if_ge {x : Int32} {off : Int} {tgt : Nat} (hd : decode cc pc = .ok (.ifCond .ge off, 3)) (ht : (pc : Int) + off = (tgt : Int)) (kt : 0 ≤ x → AJ Γ d own cc nL ret post tgt L st σ) (kf : ¬ 0 ≤ x → AJ Γ d own cc nL ret post (pc + 3) L st σ) : AJ Γ d own cc nL ret post pc L (.inl x :: st) σ := by
  intro D t ρ A p l e s m args below meth c H locs ls C hP hD hS hl
  exact lv_if_ge C.1 C.2.1 hd ht (fun h => kt h D t ρ A p l e s m args below meth c H locs ls C hP hD hS hl) (fun h => kf h D t ρ A p l e s m args below meth c H locs ls C hP hD hS hl)
theorem j_if_gt {x : Int32} {off : Int} {tgt : Nat} (hd : decode cc pc = .ok (.ifCond .gt off, 3)) (ht : (pc : Int) + off = (tgt : Int)) (kt : 0 < x → AJ Γ d own cc nL ret post tgt L st σ) (kf : ¬ 0 < x → AJ Γ d own cc nL ret post (pc + 3) L st σ) : AJ Γ d own cc nL ret post pc L (.inl x :: st) σ := by
  intro D t ρ A p l e s m args below meth c H locs ls C hP hD hS hl
  exact lv_if_gt C.1 C.2.1 hd ht (fun h => kt h D t ρ A p l e s m args below meth c H locs ls C hP hD hS hl) (fun h => kf h D t ρ A p l e s m args below meth c H locs ls C hP hD hS hl)
theorem j_if_le {x : Int32} {off : Int} {tgt : Nat} (hd : decode cc pc = .ok (.ifCond .le off, 3)) (ht : (pc : Int) + off = (tgt : Int)) (kt : x ≤ 0 → AJ Γ d own cc nL ret post tgt L st σ) (kf : ¬ x ≤ 0 → AJ Γ d own cc nL ret post (pc + 3) L st σ) : AJ Γ d own cc nL ret post pc L (.inl x :: st) σ := by
  intro D t ρ A p l e s m args below meth c H locs ls C hP hD hS hl
  exact lv_if_le C.1 C.2.1 hd ht (fun h => kt h D t ρ A p l e s m args below meth c H locs ls C hP hD hS hl) (fun h => kf h D t ρ A p l e s m args below meth c H locs ls C hP hD hS hl)
theorem j_tableIn {dflt lo hi : Int} {offs : Array Int} {len : Nat} {x : Int32} {off : Int} {tgt : Nat} (hd : decode cc pc = .ok (.tableswitch dflt lo hi offs, len)) (h1 : ¬ x.toInt < lo) (h2 : ¬ hi < x.toInt) (ho : offs[(x.toInt - lo).toNat]? = some off) (ht : (pc : Int) + off = (tgt : Int)) (k : AJ Γ d own cc nL ret post tgt L st σ) : AJ Γ d own cc nL ret post pc L (.inl x :: st) σ := by
  intro D t ρ A p l e s m args below meth c H locs ls C hP hD hS hl
  exact lv_tableIn C.1 C.2.1 hd h1 h2 ho ht (k D t ρ A p l e s m args below meth c H locs ls C hP hD hS hl)
theorem j_tableOut {dflt lo hi : Int} {offs : Array Int} {len : Nat} {x : Int32} {tgt : Nat} (hd : decode cc pc = .ok (.tableswitch dflt lo hi offs, len)) (h : x.toInt < lo ∨ hi < x.toInt) (ht : (pc : Int) + dflt = (tgt : Int)) (k : AJ Γ d own cc nL ret post tgt L st σ) : AJ Γ d own cc nL ret post pc L (.inl x :: st) σ := by
  intro D t ρ A p l e s m args below meth c H locs ls C hP hD hS hl
  exact lv_tableOut C.1 C.2.1 hd h ht (k D t ρ A p l e s m args below meth c H locs ls C hP hD hS hl)
theorem j_lookup {dflt : Int} {ps : Array (Int × Int)} {len : Nat} {x : Int32} {off : Int} {tgt : Nat} (hd : decode cc pc = .ok (.lookupswitch dflt ps, len)) (hp : (ps.toList.zip (ps.toList.drop 1)).all (fun (a, next) => a.1 < next.1) = true) (ho : Op.lookupswitch.offset ps.toList dflt x.toInt = off) (ht : (pc : Int) + off = (tgt : Int)) (k : AJ Γ d own cc nL ret post tgt L st σ) : AJ Γ d own cc nL ret post pc L (.inl x :: st) σ := by
  intro D t ρ A p l e s m args below meth c H locs ls C hP hD hS hl
  exact lv_lookup C.1 C.2.1 hd hp ho ht (k D t ρ A p l e s m args below meth c H locs ls C hP hD hS hl)
theorem j_getI {index ci k a : Nat} {ty : FieldType} {fin : Bool} {fs : List Nat} (hd : decode cc pc = .ok (.getfield index, 3)) (fk : Fk own index ci k ty fin) (hg : Γ[a]? = some (.inr (ci, fs))) (hf : fs[k]? = some 0) (kk : AJ Γ d own cc nL ret post (pc + 3) L (.inl (σ a k) :: st) σ) : AJ Γ d own cc nL ret post pc L (.inr a :: st) σ := by
  intro D t ρ A p l e s m args below meth c H locs ls C hP hD hS hl
  obtain ⟨C1, T, N, hc, hk, hlink, hin, hC, -, -, -⟩ := fk
  have hv : (fs.mapIdx (e_fld ρ (σ a)))[k]? = some (.int (σ a k)) := e_fget hf
  have hts := C.2.2.2.2.2.2.1
  rcases hlink with hlink | ⟨host, hlink⟩
  · exact va_get C.1 C.2.1 hts hin C.2.2.2.1 C.2.2.2.2.2.2.2.2.1 hP a (e_get hg) hc k hk (hts _ hlink) (fun _ h9 => by rw [hC] at h9; exact h9) hv hd (kk D t ρ A p l e s m args below meth c H locs ls C hP hD hS hl)
  · exact va_getN C.1 C.2.1 hts hin C.2.2.2.1 C.2.2.2.2.2.2.2.2.1 hP a (e_get hg) hc k hk (va_Nw.use rfl (C.2.2.2.2.2.2.2.1 _ hlink rfl)) (fun _ h9 => by rw [hC] at h9; exact h9) hv hd (kk D t ρ A p l e s m args below meth c H locs ls C hP hD hS hl)
theorem j_getR {index ci k a b : Nat} {ty : FieldType} {fin : Bool} {fs : List Nat} (hd : decode cc pc = .ok (.getfield index, 3)) (fk : Fk own index ci k ty fin) (hg : Γ[a]? = some (.inr (ci, fs))) (hf : fs[k]? = some (b + 1)) (kk : AJ Γ d own cc nL ret post (pc + 3) L (.inr b :: st) σ) : AJ Γ d own cc nL ret post pc L (.inr a :: st) σ := by
  intro D t ρ A p l e s m args below meth c H locs ls C hP hD hS hl
  obtain ⟨C1, T, N, hc, hk, hlink, hin, hC, -, -, -⟩ := fk
  have hv : (fs.mapIdx (e_fld ρ (σ a)))[k]? = some (.ref (ρ b)) := e_fget hf
  have hts := C.2.2.2.2.2.2.1
  rcases hlink with hlink | ⟨host, hlink⟩
  · exact va_get C.1 C.2.1 hts hin C.2.2.2.1 C.2.2.2.2.2.2.2.2.1 hP a (e_get hg) hc k hk (hts _ hlink) (fun _ h9 => by rw [hC] at h9; exact h9) hv hd (kk D t ρ A p l e s m args below meth c H locs ls C hP hD hS hl)
  · exact va_getN C.1 C.2.1 hts hin C.2.2.2.1 C.2.2.2.2.2.2.2.2.1 hP a (e_get hg) hc k hk (va_Nw.use rfl (C.2.2.2.2.2.2.2.1 _ hlink rfl)) (fun _ h9 => by rw [hC] at h9; exact h9) hv hd (kk D t ρ A p l e s m args below meth c H locs ls C hP hD hS hl)
theorem j_putX {index ci k a : Nat} {ty : FieldType} {fs : List Nat} {v : Int32} (hd : decode cc pc = .ok (.putfield index, 3)) (fk : Fk own index ci k ty false) (hg : Γ[a]? = some (.inr (ci, fs))) (hf : fs[k]? = some 0) (hn : narrow ty (.int v) = .int v) (hfit : fits ty (.int v) = true) (kk : AJ Γ d own cc nL ret post (pc + 3) L st (m_up σ a k v)) : AJ Γ d own cc nL ret post pc L (.inl v :: .inr a :: st) σ := by
  intro D t ρ A p l e s m args below meth c H locs ls C hP hD hS hl
  obtain ⟨C1, T, N, hc, hk, hlink, hin, hC, ⟨ty0, hty, hnm⟩, hdd, hfin⟩ := fk
  have hts := C.2.2.2.2.2.2.1
  have hq : (e_W t Γ ρ σ).set a (ρ a, .inr (ci, (fs.mapIdx (e_fld ρ (σ a))).set k (.int v))) = e_W t Γ ρ (m_up σ a k v) := e_set hg (by rw [e_fset hf]; rfl)
  have hlen : k < (fs.mapIdx (e_fld ρ (σ a))).length := by
    rw [List.length_mapIdx]
    exact (List.getElem?_eq_some_iff.mp hf).1
  rcases hlink with hlink | ⟨host, hlink⟩
  · refine va_put (v := .int v) C.1 C.2.1 hts hin ty0 hty hnm C.2.2.2.1 C.2.2.2.2.2.2.2.2.1 hP hD hS a (e_get hg) hc k hk (hts _ hlink) (fun _ h9 => by rw [hC] at h9; exact h9) hfin hdd hn hfit hlen hd (fun H1 locs1 hP1 hD1 hS1 => ?_)
    rw [hq] at hP1 hD1
    exact kk D t ρ A p l e s m args below meth c H1 locs1 ls C hP1 hD1 hS1 hl
  · refine va_putN (v := .int v) C.1 C.2.1 hts hin ty0 hty hnm C.2.2.2.1 C.2.2.2.2.2.2.2.2.1 hP hD hS a (e_get hg) hc k hk (va_Nw.use rfl (C.2.2.2.2.2.2.2.1 _ hlink rfl)) (fun _ h9 => by rw [hC] at h9; exact h9) hfin hdd hn hfit hlen hd (fun H1 locs1 hP1 hD1 hS1 => ?_)
    rw [hq] at hP1 hD1
    exact kk D t ρ A p l e s m args below meth c H1 locs1 ls C hP1 hD1 hS1 hl
theorem j_put {index ci k a : Nat} {fs : List Nat} {v : Int32} (hd : decode cc pc = .ok (.putfield index, 3)) (fk : Fk own index ci k .int false) (hg : Γ[a]? = some (.inr (ci, fs))) (hf : fs[k]? = some 0) (kk : AJ Γ d own cc nL ret post (pc + 3) L st (m_up σ a k v)) : AJ Γ d own cc nL ret post pc L (.inl v :: .inr a :: st) σ := j_putX hd fk hg hf rfl rfl kk
theorem nz_of {v : Int32} (hv : v = 0 ∨ v = 1) : narrow .boolean (.int v) = .int v ∧ fits .boolean (.int v) = true ∧ vp_nar .boolean v = v := by
  rcases hv with rfl | rfl <;> exact ⟨by decide, by decide, by decide⟩
theorem j_putZ {index ci k a : Nat} {fs : List Nat} {v : Int32} (hd : decode cc pc = .ok (.putfield index, 3)) (fk : Fk own index ci k .boolean false) (hg : Γ[a]? = some (.inr (ci, fs))) (hf : fs[k]? = some 0) (hv : v = 0 ∨ v = 1) (kk : AJ Γ d own cc nL ret post (pc + 3) L st (m_up σ a k v)) : AJ Γ d own cc nL ret post pc L (.inl v :: .inr a :: st) σ := j_putX hd fk hg hf (nz_of hv).1 (nz_of hv).2.1 kk
theorem j_iald {a n : Nat} {ids : List Nat} {i : Int32} (hd : decode cc pc = .ok (.iaload, 1)) (hg : Γ[a]? = some (.inl (0, n, ids))) (hin : vp_in i n) (kk : AJ Γ d own cc nL ret post (pc + 1) L (.inl (σ a i.toNatClampNeg) :: st) σ) : AJ Γ d own cc nL ret post pc L (.inl i :: .inr a :: st) σ := by
  intro D t ρ A p l e s m args below meth c H locs ls C hP hD hS hl
  exact va_iald C.1 C.2.1 C.2.2.2.2.2.2.2.2.1 hP a 0 (e_get hg) rfl hin hd (kk D t ρ A p l e s m args below meth c H locs ls C hP hD hS hl)
theorem j_zald {a n : Nat} {ids : List Nat} {i : Int32} (hd : decode cc pc = .ok (.baload, 1)) (hg : Γ[a]? = some (.inl (1, n, ids))) (hin : vp_in i n) (kk : AJ Γ d own cc nL ret post (pc + 1) L (.inl (σ a i.toNatClampNeg) :: st) σ) : AJ Γ d own cc nL ret post pc L (.inl i :: .inr a :: st) σ := by
  intro D t ρ A p l e s m args below meth c H locs ls C hP hD hS hl
  exact va_zald C.1 C.2.1 C.2.2.2.2.2.2.2.2.1 hP a 1 (e_get hg) rfl hin hd (kk D t ρ A p l e s m args below meth c H locs ls C hP hD hS hl)
theorem j_iast {a n : Nat} {ids : List Nat} {i v : Int32} (hd : decode cc pc = .ok (.iastore, 1)) (hg : Γ[a]? = some (.inl (0, n, ids))) (hin : vp_in i n) (kk : AJ Γ d own cc nL ret post (pc + 1) L st (m_up σ a i.toNatClampNeg v)) : AJ Γ d own cc nL ret post pc L (.inl v :: .inl i :: .inr a :: st) σ := by
  intro D t ρ A p l e s m args below meth c H locs ls C hP hD hS hl
  refine va_iast C.1 C.2.1 C.2.2.2.2.2.2.2.2.1 hP hD hS a 0 (e_get hg) rfl hin hd (fun H1 locs1 hP1 hD1 hS1 => ?_)
  have hq : (e_W t Γ ρ σ).set a (ρ a, .inl (t.1, n, .inl (upd (σ a) i.toNatClampNeg v))) = e_W t Γ ρ (m_up σ a i.toNatClampNeg v) := e_set hg rfl
  rw [hq] at hP1 hD1
  exact kk D t ρ A p l e s m args below meth c H1 locs1 ls C hP1 hD1 hS1 hl
theorem j_zast {a n : Nat} {ids : List Nat} {i v : Int32} (hd : decode cc pc = .ok (.bastore, 1)) (hg : Γ[a]? = some (.inl (1, n, ids))) (hin : vp_in i n) (hv : v = 0 ∨ v = 1) (kk : AJ Γ d own cc nL ret post (pc + 1) L st (m_up σ a i.toNatClampNeg v)) : AJ Γ d own cc nL ret post pc L (.inl v :: .inl i :: .inr a :: st) σ := by
  intro D t ρ A p l e s m args below meth c H locs ls C hP hD hS hl
  refine va_zast C.1 C.2.1 C.2.2.2.2.2.2.2.2.1 hP hD hS a 1 (e_get hg) rfl hin hd (fun H1 locs1 hP1 hD1 hS1 => ?_)
  rw [(nz_of hv).2.2] at hP1 hD1
  have hq : (e_W t Γ ρ σ).set a (ρ a, .inl (t.2.1, n, .inl (upd (σ a) i.toNatClampNeg v))) = e_W t Γ ρ (m_up σ a i.toNatClampNeg v) := e_set hg rfl
  rw [hq] at hP1 hD1
  exact kk D t ρ A p l e s m args below meth c H1 locs1 ls C hP1 hD1 hS1 hl
theorem j_aald {a n b : Nat} {ids : List Nat} {i : Int32} (hd : decode cc pc = .ok (.aaload, 1)) (hg : Γ[a]? = some (.inl (2, n, ids))) (hin : vp_in i n) (hb : ids[i.toNatClampNeg]? = some b) (kk : AJ Γ d own cc nL ret post (pc + 1) L (.inr b :: st) σ) : AJ Γ d own cc nL ret post pc L (.inl i :: .inr a :: st) σ := by
  intro D t ρ A p l e s m args below meth c H locs ls C hP hD hS hl
  refine va_aldq C.1 C.2.1 C.2.2.2.2.2.2.2.2.1 hP a 2 (e_get hg) rfl hin hd ?_
  have h2 : va_rf ((ids[i.toNatClampNeg]?).map ρ) = .ref (ρ b) := by rw [hb]; rfl
  show W p l e (rmd d) s m args below meth c H locs 0 0 _ (F0 m (pc + 1) ls (va_rf ((ids[i.toNatClampNeg]?).map ρ) :: st.map (e_val ρ)))
  rw [h2]
  exact kk D t ρ A p l e s m args below meth c H locs ls C hP hD hS hl
theorem j_alen {a k n : Nat} {ids : List Nat} {v : Int32} (hd : decode cc pc = .ok (.arraylength, 1)) (hg : Γ[a]? = some (.inl (k, n, ids))) (hv : Int32.ofNat n = v) (kk : AJ Γ d own cc nL ret post (pc + 1) L (.inl v :: st) σ) : AJ Γ d own cc nL ret post pc L (.inr a :: st) σ := by
  intro D t ρ A p l e s m args below meth c H locs ls C hP hD hS hl
  have kk := kk D t ρ A p l e s m args below meth c H locs ls C hP hD hS hl
  match k, hg with
  | 0, hg => exact va_alen C.1 C.2.1 C.2.2.2.2.2.2.2.2.1 hP a 0 (e_get hg) rfl hv hd kk
  | 1, hg => exact va_alen C.1 C.2.1 C.2.2.2.2.2.2.2.2.1 hP a 1 (e_get hg) rfl hv hd kk
  | k + 2, hg => exact va_alen C.1 C.2.1 C.2.2.2.2.2.2.2.2.1 hP a 2 (e_get hg) rfl hv hd kk
/-! ends -/
theorem j_vret (hd : decode cc pc = .ok (.return_, 1)) (hp : post 0 σ) : AJ Γ d own cc nL none post pc L [] σ := by
  intro D t ρ A p l e s m args below meth c H locs ls C hP hD hS hl
  have hlocks : meth.locks = false := C.2.2.2.2.2.1
  exact W.vret C.1 C.2.1 C.2.2.2.2.1 (fun t1 ht hW => ⟨⟨σ, rfl, hp, by show va_P _ _ _ t1.heap; rw [ht]; exact hP⟩, hS.F ht⟩) hS.2.2 hd
theorem j_iret {v : Int32} (hd : decode cc pc = .ok (.ireturn, 1)) (hp : post v σ) : AJ Γ d own cc nL (some .int) post pc L [.inl v] σ := by
  intro D t ρ A p l e s m args below meth c H locs ls C hP hD hS hl
  have hlocks : meth.locks = false := C.2.2.2.2.2.1
  exact W.iret (v := v) C.1 C.2.1 C.2.2.2.2.1 (fun t1 ht hW => ⟨⟨v, σ, rfl, hp, by show va_P _ _ _ t1.heap; rw [ht]; exact hP⟩, hS.F ht⟩) hS.2.2 hd
theorem j_zret {v : Int32} (hd : decode cc pc = .ok (.ireturn, 1)) (hv : v = 0 ∨ v = 1) (hp : post v σ) : AJ Γ d own cc nL (some .boolean) post pc L [.inl v] σ := by
  intro D t ρ A p l e s m args below meth c H locs ls C hP hD hS hl
  have hlocks : meth.locks = false := C.2.2.2.2.2.1
  exact W.zret (v := v) C.1 C.2.1 C.2.2.2.2.1 (nz_of hv).1 (fun t1 ht hW => ⟨⟨v, σ, rfl, hp, by show va_P _ _ _ t1.heap; rw [ht]; exact hP⟩, hS.F ht⟩) hS.2.2 hd
/-! calls -/
theorem e_blind {D : va_G} {t : Tc} {ρ : Nat → Nat} {As : List Vl} {sz : Nat} : FrameBlind (va_Pc (As.map (e_val ρ)) (fun U => U.heap.size = sz ∧ va_P D vwCl (e_W t Γ ρ σ) U.heap ∧ va_K D vwCl (tysOf t) U ∧ va_D (fun _ => True) (e_W t Γ ρ σ) ∧ NS U)) := fun a U g mk q => by
  obtain ⟨q0, q1, qP, qK, qD, qN⟩ := q
  exact ⟨q0, q1, qP, va_K.moved (u := U) (U := U.calling g mk a) (Vm.Alike.refl U.vm) qK, qD, NS.same (s := U) (U := U.calling g mk a) rfl qN⟩
theorem e_freeA {D : va_G} {t : Tc} {ρ : Nat → Nat} {A : Nat → Prop} {s : State} {H : Heap} {locs : List Loc} (hD : va_D A (e_W t Γ ρ σ)) (hS : va_S A s.heap H locs) (hA : ∀ q : Nat, s.heap.size ≤ q → A q) : ∀ q : Nat, va_A (e_W t Γ ρ σ) H.size q → A q := by
  intro q h
  rcases h with ⟨k, x, hk⟩ | h
  · exact hD.2 k _ hk
  · exact hA q (Nat.le_trans hS.1 h)
section Call
variable {index : Nat} {y : MethodName} {cc' : ByteArray} {nL' d' n b : Nat} {ty : FieldType} {C1 : String} {As st0 : List Vl} {post' : Int32 → Mm → Prop}
theorem e_stk {ρ : Nat → Nat} (hst : st0 = As.reverse ++ .inr b :: st) : st0.map (e_val ρ) = (As.map (e_val ρ)).reverse ++ .ref (ρ b) :: st.map (e_val ρ) := by
  subst hst
  rw [List.map_append, List.map_reverse]
  rfl
theorem e_stkS {ρ : Nat → Nat} (hst : st0 = As.reverse ++ st) : st0.map (e_val ρ) = (As.map (e_val ρ)).reverse ++ st.map (e_val ρ) := by
  subst hst
  rw [List.map_append, List.map_reverse]
theorem e_room {m : MethodId} {ls : Array Slot} {r2 : List Value} {ρ : Nat → Nat} (h : st.length ≤ 8) : 2 * (F0 m pc ls r2).monitorRoom + (((st.map (e_val ρ)).map fun v => v.category).sum) ≤ 8 := lv_room (by rw [e_cats]; exact h)
theorem e_rm (h1 : d' < d) (h2 : nL' ≤ 17) : (rmd d').frames + 1 ≤ (rmd d).frames ∧ 8 + (nL' + 11) + (rmd d').locals ≤ (rmd d).locals := ⟨h1, by show 8 + (nL' + 11) + 36 * d' ≤ 36 * d; omega⟩
theorem g_code {ret' : Option FieldType} (h : Cond.code y cc' nL' ret' ∈ WS) : ∀ w ∈ Cond.code y cc' nL' ret' :: WS, w ∈ WS := fun w hw => (List.mem_cons.mp hw).elim (fun e => e ▸ h) id
theorem g_V {ret' : Option FieldType} (ck : CkV own index y cc' nL' ret' C1 n) : GoodIn WS (wsV own index C1 y (Cond.code y cc' nL' ret' :: WS)) := ws_in (by
  obtain ⟨h1, h2, h3, h4, h5, -⟩ := ck
  intro w hw
  rcases List.mem_append.mp hw with h | h
  · rcases List.mem_cons.mp h with rfl | h
    · exact h1
    · rcases List.mem_cons.mp h with rfl | h
      · exact h2
      · rcases List.mem_cons.mp h with rfl | h
        · exact h3
        · rcases List.mem_cons.mp h with rfl | h
          · exact h4
          · cases h
  · exact g_code h5 w h)
theorem g_S {ret' : Option FieldType} (ck : CkS own index y cc' nL' ret' n) : GoodIn WS (va_wsS own index y (Cond.code y cc' nL' ret' :: WS)) := ws_in (by
  obtain ⟨h1, h2, h3, h5, -⟩ := ck
  intro w hw
  rcases List.mem_append.mp hw with h | h
  · rcases List.mem_cons.mp h with rfl | h
    · exact h1
    · rcases List.mem_cons.mp h with rfl | h
      · exact h2
      · rcases List.mem_cons.mp h with rfl | h
        · exact h3
        · cases h
  · exact g_code h5 w h)
theorem e_preV {D : va_G} {t : Tc} {ρ : Nat → Nat} {A : Nat → Prop} {p : Program} {s : State} {m : MethodId} {args : Array Value} {meth : Method} {c : Code} {H : Heap} {ci : Nat} {T : u_T} {N : Nat} {fs : List Nat} (C : Cx own cc nL ret D t A p s m args meth c) (hP : va_P D vwCl (e_W t Γ ρ σ) H) (hD : va_D A (e_W t Γ ρ σ)) (hr : Γ[b]? = some (.inr (ci, fs))) (hc : vwCl[ci]? = some (C1, T, N)) :
    PreV s H C1 (ρ b) (va_Pc ((.inr b :: As).map (e_val ρ)) (fun U => U.heap.size = H.size ∧ va_P D vwCl (e_W t Γ ρ σ) U.heap ∧ va_K D vwCl (tysOf t) U ∧ va_D (fun _ => True) (e_W t Γ ρ σ) ∧ NS U)) (As.map (e_val ρ)) := by
  refine ⟨e_blind, va_recv C.2.2.2.2.2.2.2.2.1 hP hc (e_get hr), fun U hU hW => ⟨rfl, by rw [hU], by rw [hU]; exact hP, va_K.moved hW.alike C.2.2.2.2.2.2.2.2.1, hD.weaken (fun _ _ _ _ => trivial), NS.warm hW C.2.2.2.2.2.2.2.1⟩⟩
theorem e_preS {D : va_G} {t : Tc} {ρ : Nat → Nat} {A : Nat → Prop} {p : Program} {s : State} {m : MethodId} {args : Array Value} {meth : Method} {c : Code} {H : Heap} (C : Cx own cc nL ret D t A p s m args meth c) (hP : va_P D vwCl (e_W t Γ ρ σ) H) (hD : va_D A (e_W t Γ ρ σ)) :
    PreS s H (va_Pc (As.map (e_val ρ)) (fun U => U.heap.size = H.size ∧ va_P D vwCl (e_W t Γ ρ σ) U.heap ∧ va_K D vwCl (tysOf t) U ∧ va_D (fun _ => True) (e_W t Γ ρ σ) ∧ NS U)) (As.map (e_val ρ)) := by
  refine ⟨e_blind, fun U hU hW => ⟨rfl, by rw [hU], by rw [hU]; exact hP, va_K.moved hW.alike C.2.2.2.2.2.2.2.2.1, hD.weaken (fun _ _ _ _ => trivial), NS.warm hW C.2.2.2.2.2.2.2.1⟩⟩
theorem j_callVi {ci : Nat} {T : u_T} {N : Nat} {fs : List Nat} (hd : decode cc pc = .ok (.invokevirtual index, 3)) (ck : CkV own index y cc' nL' (some ty) C1 n) (hev : EV Γ d' y cc' nL' (some ty) (.inr b :: As) σ post') (hr : Γ[b]? = some (.inr (ci, fs))) (hc : vwCl[ci]? = some (C1, T, N)) (hn : As.length = n) (hdd : d' < d) (hst : st0 = As.reverse ++ .inr b :: st) (hsz : st.length ≤ 8) (k : ∀ (r : Int32) (σ1 : Mm), post' r σ1 → AJ Γ d own cc nL ret post (pc + 3) L (.inl r :: st) σ1) : AJ Γ d own cc nL ret post pc L st0 σ := by
  intro D t ρ A p l e s m args below meth c H locs ls C hP hD hS hl
  have hts := C.2.2.2.2.2.2.1
  have hFc := e_freeA (D := D) hD hS C.2.2.2.2.2.2.2.2.2
  refine va_calli (va_runV (As := As.map (e_val ρ)) (rest := st.map (e_val ρ)) (C := C1) (b := ρ b) ⟨C.1, C.2.1, C.2.2.1, C.2.2.2.1, hts⟩ (hev l D t ρ H.size) (cwV n hts (g_V ck) rfl rfl rfl ⟨ck.2.2.2.2.2.1, ck.2.2.2.2.2.2.1⟩ (e_rm hdd ck.2.2.2.2.2.2.2)) (e_preV C hP hD hr hc) rfl (by rw [List.length_map]; exact hn) hl.1 (e_stk hst) (e_room hsz) hd ⟨Nat.le_refl _, Nat.le_refl _⟩) hS (fun q _ h => hFc q h) hFc (fun r u t1 H1 locs1 ht hvm hw hB hz1 hk1 hS1 => ?_)
  have hB' : va_P D vwCl (e_W t Γ ρ u) H1 := by rw [← ht]; exact hB
  exact k r u hw D t ρ A p l e s m args below meth c H1 locs1 ls C hB' (e_D hD) hS1 hl
theorem j_callSi (hd : decode cc pc = .ok (.invokestatic index, 3)) (ck : CkS own index y cc' nL' (some ty) n) (hev : EV Γ d' y cc' nL' (some ty) As σ post') (hn : As.length = n) (hdd : d' < d) (hst : st0 = As.reverse ++ st) (hsz : st.length ≤ 8) (k : ∀ (r : Int32) (σ1 : Mm), post' r σ1 → AJ Γ d own cc nL ret post (pc + 3) L (.inl r :: st) σ1) : AJ Γ d own cc nL ret post pc L st0 σ := by
  intro D t ρ A p l e s m args below meth c H locs ls C hP hD hS hl
  have hts := C.2.2.2.2.2.2.1
  have hFc := e_freeA (D := D) hD hS C.2.2.2.2.2.2.2.2.2
  refine va_calli (va_runS (As := As.map (e_val ρ)) (rest := st.map (e_val ρ)) ⟨C.1, C.2.1, C.2.2.1, C.2.2.2.1, hts⟩ (hev l D t ρ H.size) (va_cwS n hts (g_S ck) rfl rfl rfl ck.2.2.2.2.1 (e_rm hdd ck.2.2.2.2.2)) (e_preS C hP hD) rfl (by rw [List.length_map]; exact hn) hl.1 (e_stkS hst) (e_room hsz) hd ⟨Nat.le_refl _, Nat.le_refl _⟩) hS (fun q _ h => hFc q h) hFc (fun r u t1 H1 locs1 ht hvm hw hB hz1 hk1 hS1 => ?_)
  have hB' : va_P D vwCl (e_W t Γ ρ u) H1 := by rw [← ht]; exact hB
  exact k r u hw D t ρ A p l e s m args below meth c H1 locs1 ls C hB' (e_D hD) hS1 hl
theorem j_callVv {ci : Nat} {T : u_T} {N : Nat} {fs : List Nat} (hd : decode cc pc = .ok (.invokevirtual index, 3)) (ck : CkV own index y cc' nL' none C1 n) (hev : EV Γ d' y cc' nL' none (.inr b :: As) σ post') (hr : Γ[b]? = some (.inr (ci, fs))) (hc : vwCl[ci]? = some (C1, T, N)) (hn : As.length = n) (hdd : d' < d) (hst : st0 = As.reverse ++ .inr b :: st) (hsz : st.length ≤ 8) (k : ∀ σ1 : Mm, post' 0 σ1 → AJ Γ d own cc nL ret post (pc + 3) L st σ1) : AJ Γ d own cc nL ret post pc L st0 σ := by
  intro D t ρ A p l e s m args below meth c H locs ls C hP hD hS hl
  have hts := C.2.2.2.2.2.2.1
  have hFc := e_freeA (D := D) hD hS C.2.2.2.2.2.2.2.2.2
  refine va_callv (va_runV (As := As.map (e_val ρ)) (rest := st.map (e_val ρ)) (C := C1) (b := ρ b) ⟨C.1, C.2.1, C.2.2.1, C.2.2.2.1, hts⟩ (hev l D t ρ H.size) (cwV n hts (g_V ck) rfl rfl rfl ⟨ck.2.2.2.2.2.1, ck.2.2.2.2.2.2.1⟩ (e_rm hdd ck.2.2.2.2.2.2.2)) (e_preV C hP hD hr hc) rfl (by rw [List.length_map]; exact hn) hl.1 (e_stk hst) (e_room hsz) hd ⟨Nat.le_refl _, Nat.le_refl _⟩) hS (fun q _ h => hFc q h) hFc (fun u t1 H1 locs1 ht hvm hw hB hz1 hk1 hS1 => ?_)
  have hB' : va_P D vwCl (e_W t Γ ρ u) H1 := by rw [← ht]; exact hB
  exact k u hw D t ρ A p l e s m args below meth c H1 locs1 ls C hB' (e_D hD) hS1 hl
theorem j_callSv (hd : decode cc pc = .ok (.invokestatic index, 3)) (ck : CkS own index y cc' nL' none n) (hev : EV Γ d' y cc' nL' none As σ post') (hn : As.length = n) (hdd : d' < d) (hst : st0 = As.reverse ++ st) (hsz : st.length ≤ 8) (k : ∀ σ1 : Mm, post' 0 σ1 → AJ Γ d own cc nL ret post (pc + 3) L st σ1) : AJ Γ d own cc nL ret post pc L st0 σ := by
  intro D t ρ A p l e s m args below meth c H locs ls C hP hD hS hl
  have hts := C.2.2.2.2.2.2.1
  have hFc := e_freeA (D := D) hD hS C.2.2.2.2.2.2.2.2.2
  refine va_callv (va_runS (As := As.map (e_val ρ)) (rest := st.map (e_val ρ)) ⟨C.1, C.2.1, C.2.2.1, C.2.2.2.1, hts⟩ (hev l D t ρ H.size) (va_cwS n hts (g_S ck) rfl rfl rfl ck.2.2.2.2.1 (e_rm hdd ck.2.2.2.2.2)) (e_preS C hP hD) rfl (by rw [List.length_map]; exact hn) hl.1 (e_stkS hst) (e_room hsz) hd ⟨Nat.le_refl _, Nat.le_refl _⟩) hS (fun q _ h => hFc q h) hFc (fun u t1 H1 locs1 ht hvm hw hB hz1 hk1 hS1 => ?_)
  have hB' : va_P D vwCl (e_W t Γ ρ u) H1 := by rw [← ht]; exact hB
  exact k u hw D t ρ A p l e s m args below meth c H1 locs1 ls C hB' (e_D hD) hS1 hl
theorem j_callVNi {ci : Nat} {T : u_T} {N : Nat} {fs : List Nat} (hd : decode cc pc = .ok (.invokevirtual index, 3)) (ck : CkVN own index y cc' nL' (some ty) C1 n) (hev : EV Γ d' y cc' nL' (some ty) (.inr b :: As) σ post') (hr : Γ[b]? = some (.inr (ci, fs))) (hc : vwCl[ci]? = some (C1, T, N)) (hn : As.length = n) (hdd : d' < d) (hst : st0 = As.reverse ++ .inr b :: st) (hsz : st.length ≤ 8) (k : ∀ (r : Int32) (σ1 : Mm), post' r σ1 → AJ Γ d own cc nL ret post (pc + 3) L (.inl r :: st) σ1) : AJ Γ d own cc nL ret post pc L st0 σ := by
  intro D t ρ A p l e s m args below meth c H locs ls C hP hD hS hl
  have hts := C.2.2.2.2.2.2.1
  have hFc := e_freeA (D := D) hD hS C.2.2.2.2.2.2.2.2.2
  refine va_calli (va_runVN (As := As.map (e_val ρ)) (rest := st.map (e_val ρ)) (C := C1) (b := ρ b) ⟨C.1, C.2.1, C.2.2.1, C.2.2.2.1, hts⟩ (hev l D t ρ H.size) ⟨va_cnB n hts (ws_in (g_code ck.2.2.2.2.1)) rfl rfl rfl (C.2.2.2.2.2.2.2.1 _ ck.1 rfl) (by rw [ck.2.2.2.2.2.1]; exact hts _ ck.2.2.2.1) ck.2.2.2.2.2.2.1 (e_rm hdd ck.2.2.2.2.2.2.2), hts _ ck.2.1, hts _ ck.2.2.1⟩ (e_preV C hP hD hr hc) rfl (by rw [List.length_map]; exact hn) hl.1 (e_stk hst) (e_room hsz) hd ⟨Nat.le_refl _, Nat.le_refl _⟩) hS (fun q _ h => hFc q h) hFc (fun r u t1 H1 locs1 ht hvm hw hB hz1 hk1 hS1 => ?_)
  have hB' : va_P D vwCl (e_W t Γ ρ u) H1 := by rw [← ht]; exact hB
  exact k r u hw D t ρ A p l e s m args below meth c H1 locs1 ls C hB' (e_D hD) hS1 hl
theorem j_callSNi (hd : decode cc pc = .ok (.invokestatic index, 3)) (ck : CkSN own index y cc' nL' (some ty) n) (hev : EV Γ d' y cc' nL' (some ty) As σ post') (hn : As.length = n) (hdd : d' < d) (hst : st0 = As.reverse ++ st) (hsz : st.length ≤ 8) (k : ∀ (r : Int32) (σ1 : Mm), post' r σ1 → AJ Γ d own cc nL ret post (pc + 3) L (.inl r :: st) σ1) : AJ Γ d own cc nL ret post pc L st0 σ := by
  intro D t ρ A p l e s m args below meth c H locs ls C hP hD hS hl
  have hts := C.2.2.2.2.2.2.1
  have hFc := e_freeA (D := D) hD hS C.2.2.2.2.2.2.2.2.2
  refine va_calli (va_runSN (As := As.map (e_val ρ)) (rest := st.map (e_val ρ)) ⟨C.1, C.2.1, C.2.2.1, C.2.2.2.1, hts⟩ (hev l D t ρ H.size) ⟨va_cnB n hts (ws_in (g_code ck.2.2.2.1)) rfl rfl rfl (C.2.2.2.2.2.2.2.1 _ ck.1 rfl) (hts _ ck.2.2.1) ck.2.2.2.2.1 (e_rm hdd ck.2.2.2.2.2), hts _ ck.2.1, trivial⟩ (e_preS C hP hD) rfl (by rw [List.length_map]; exact hn) hl.1 (e_stkS hst) (e_room hsz) hd ⟨Nat.le_refl _, Nat.le_refl _⟩) hS (fun q _ h => hFc q h) hFc (fun r u t1 H1 locs1 ht hvm hw hB hz1 hk1 hS1 => ?_)
  have hB' : va_P D vwCl (e_W t Γ ρ u) H1 := by rw [← ht]; exact hB
  exact k r u hw D t ρ A p l e s m args below meth c H1 locs1 ls C hB' (e_D hD) hS1 hl
theorem j_callVNv {ci : Nat} {T : u_T} {N : Nat} {fs : List Nat} (hd : decode cc pc = .ok (.invokevirtual index, 3)) (ck : CkVN own index y cc' nL' none C1 n) (hev : EV Γ d' y cc' nL' none (.inr b :: As) σ post') (hr : Γ[b]? = some (.inr (ci, fs))) (hc : vwCl[ci]? = some (C1, T, N)) (hn : As.length = n) (hdd : d' < d) (hst : st0 = As.reverse ++ .inr b :: st) (hsz : st.length ≤ 8) (k : ∀ σ1 : Mm, post' 0 σ1 → AJ Γ d own cc nL ret post (pc + 3) L st σ1) : AJ Γ d own cc nL ret post pc L st0 σ := by
  intro D t ρ A p l e s m args below meth c H locs ls C hP hD hS hl
  have hts := C.2.2.2.2.2.2.1
  have hFc := e_freeA (D := D) hD hS C.2.2.2.2.2.2.2.2.2
  refine va_callv (va_runVN (As := As.map (e_val ρ)) (rest := st.map (e_val ρ)) (C := C1) (b := ρ b) ⟨C.1, C.2.1, C.2.2.1, C.2.2.2.1, hts⟩ (hev l D t ρ H.size) ⟨va_cnB n hts (ws_in (g_code ck.2.2.2.2.1)) rfl rfl rfl (C.2.2.2.2.2.2.2.1 _ ck.1 rfl) (by rw [ck.2.2.2.2.2.1]; exact hts _ ck.2.2.2.1) ck.2.2.2.2.2.2.1 (e_rm hdd ck.2.2.2.2.2.2.2), hts _ ck.2.1, hts _ ck.2.2.1⟩ (e_preV C hP hD hr hc) rfl (by rw [List.length_map]; exact hn) hl.1 (e_stk hst) (e_room hsz) hd ⟨Nat.le_refl _, Nat.le_refl _⟩) hS (fun q _ h => hFc q h) hFc (fun u t1 H1 locs1 ht hvm hw hB hz1 hk1 hS1 => ?_)
  have hB' : va_P D vwCl (e_W t Γ ρ u) H1 := by rw [← ht]; exact hB
  exact k u hw D t ρ A p l e s m args below meth c H1 locs1 ls C hB' (e_D hD) hS1 hl
theorem j_callSNv (hd : decode cc pc = .ok (.invokestatic index, 3)) (ck : CkSN own index y cc' nL' none n) (hev : EV Γ d' y cc' nL' none As σ post') (hn : As.length = n) (hdd : d' < d) (hst : st0 = As.reverse ++ st) (hsz : st.length ≤ 8) (k : ∀ σ1 : Mm, post' 0 σ1 → AJ Γ d own cc nL ret post (pc + 3) L st σ1) : AJ Γ d own cc nL ret post pc L st0 σ := by
  intro D t ρ A p l e s m args below meth c H locs ls C hP hD hS hl
  have hts := C.2.2.2.2.2.2.1
  have hFc := e_freeA (D := D) hD hS C.2.2.2.2.2.2.2.2.2
  refine va_callv (va_runSN (As := As.map (e_val ρ)) (rest := st.map (e_val ρ)) ⟨C.1, C.2.1, C.2.2.1, C.2.2.2.1, hts⟩ (hev l D t ρ H.size) ⟨va_cnB n hts (ws_in (g_code ck.2.2.2.1)) rfl rfl rfl (C.2.2.2.2.2.2.2.1 _ ck.1 rfl) (hts _ ck.2.2.1) ck.2.2.2.2.1 (e_rm hdd ck.2.2.2.2.2), hts _ ck.2.1, trivial⟩ (e_preS C hP hD) rfl (by rw [List.length_map]; exact hn) hl.1 (e_stkS hst) (e_room hsz) hd ⟨Nat.le_refl _, Nat.le_refl _⟩) hS (fun q _ h => hFc q h) hFc (fun u t1 H1 locs1 ht hvm hw hB hz1 hk1 hS1 => ?_)
  have hB' : va_P D vwCl (e_W t Γ ρ u) H1 := by rw [← ht]; exact hB
  exact k u hw D t ρ A p l e s m args below meth c H1 locs1 ls C hB' (e_D hD) hS1 hl
end Call
end Rules
end
