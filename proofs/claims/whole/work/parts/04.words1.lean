theorem inl_X0 : ∀ w ∈ wsX00, w ∈ WS := ws_p [291, 293, 295, 297, 299, 301] (by decide +kernel) (by decide +kernel)
theorem inl_X1 : ∀ w ∈ wsX10, w ∈ WS := ws_p [262, 264, 266, 268, 270, 272, 274] (by decide +kernel) (by decide +kernel)
theorem inl_X2 : ∀ w ∈ wsX20, w ∈ WS := ws_p [172, 174, 176, 178, 180, 182, 184] (by decide +kernel) (by decide +kernel)
theorem inl_X3 : ∀ w ∈ wsX30, w ∈ WS := ws_p [212, 214, 216, 218, 220, 222, 224, 226, 228, 230, 232, 234, 236, 238, 240] (by decide +kernel) (by decide +kernel)
theorem inl_X4 : ∀ w ∈ wsX40, w ∈ WS := ws_p [143, 145, 147] (by decide +kernel) (by decide +kernel)
theorem inl_X5 : ∀ w ∈ wsX50, w ∈ WS := ws_p [128, 130] (by decide +kernel) (by decide +kernel)
theorem inl_X6 : ∀ w ∈ wsX60, w ∈ WS := ws_p [316, 318, 320, 322] (by decide +kernel) (by decide +kernel)
theorem inl_X7 : ∀ w ∈ wsX70, w ∈ WS := ws_p [520, 522, 524, 526, 528, 530, 532, 534, 536, 538, 540, 542] (by decide +kernel) (by decide +kernel)
theorem inl_X8 : ∀ w ∈ wsX80, w ∈ WS := ws_p [803, 805, 807, 809, 811, 813, 815, 817, 819, 821, 823, 825, 827, 829, 831, 833, 835, 837, 839, 841, 843, 845, 847, 849, 851] (by decide +kernel) (by decide +kernel)
theorem f_X5_9 : Fk RX5 9 5 0 (.array .int) true := ⟨RX5, TX5, 2, rfl, by decide, Or.inl (ws_m 123 (by decide +kernel) rfl), inl_X5, rfl, ⟨tyX5, tyX5_ok, nmX5⟩, by decide +kernel, rfl⟩
theorem f_X4_32 : Fk RX4 32 5 0 (.array .int) true := ⟨RX5, TX5, 2, rfl, by decide, Or.inr ⟨"LeastBars", List.mem_of_getElem? (i := 28) (by decide +kernel)⟩, inl_X5, rfl, ⟨tyX5, tyX5_ok, nmX5⟩, by decide +kernel, rfl⟩
theorem f_X5_15 : Fk RX5 15 5 1 .int false := ⟨RX5, TX5, 2, rfl, by decide, Or.inl (ws_m 125 (by decide +kernel) rfl), inl_X5, rfl, ⟨tyX5, tyX5_ok, nmX5⟩, by decide +kernel, rfl⟩
theorem f_X4_27 : Fk RX4 27 5 1 .int false := ⟨RX5, TX5, 2, rfl, by decide, Or.inr ⟨"LeastBars", List.mem_of_getElem? (i := 30) (by decide +kernel)⟩, inl_X5, rfl, ⟨tyX5, tyX5_ok, nmX5⟩, by decide +kernel, rfl⟩
theorem f_X7_91 : Fk RX7 91 5 1 .int false := ⟨RX5, TX5, 2, rfl, by decide, Or.inr ⟨"LeastBars", List.mem_of_getElem? (i := 31) (by decide +kernel)⟩, inl_X5, rfl, ⟨tyX5, tyX5_ok, nmX5⟩, by decide +kernel, rfl⟩
theorem f_X4_11 : Fk RX4 11 4 0 .int false := ⟨RX4, TX4, 3, rfl, by decide, Or.inl (ws_m 140 (by decide +kernel) rfl), inl_X4, rfl, ⟨tyX4, tyX4_ok, nmX4⟩, by decide +kernel, rfl⟩
theorem f_X4_15 : Fk RX4 15 4 1 .int false := ⟨RX4, TX4, 3, rfl, by decide, Or.inl (ws_m 141 (by decide +kernel) rfl), inl_X4, rfl, ⟨tyX4, tyX4_ok, nmX4⟩, by decide +kernel, rfl⟩
theorem f_X4_18 : Fk RX4 18 4 2 .int false := ⟨RX4, TX4, 3, rfl, by decide, Or.inl (ws_m 142 (by decide +kernel) rfl), inl_X4, rfl, ⟨tyX4, tyX4_ok, nmX4⟩, by decide +kernel, rfl⟩
theorem f_X2_9 : Fk RX2 9 2 0 (.array .int) true := ⟨RX2, TX2, 7, rfl, by decide, Or.inl (ws_m 157 (by decide +kernel) rfl), inl_X2, rfl, ⟨tyX2, tyX2_ok, nmX2⟩, by decide +kernel, rfl⟩
theorem f_X2_15 : Fk RX2 15 2 1 (.array .int) true := ⟨RX2, TX2, 7, rfl, by decide, Or.inl (ws_m 158 (by decide +kernel) rfl), inl_X2, rfl, ⟨tyX2, tyX2_ok, nmX2⟩, by decide +kernel, rfl⟩
theorem f_X2_18 : Fk RX2 18 2 2 .int false := ⟨RX2, TX2, 7, rfl, by decide, Or.inl (ws_m 159 (by decide +kernel) rfl), inl_X2, rfl, ⟨tyX2, tyX2_ok, nmX2⟩, by decide +kernel, rfl⟩
theorem f_X3_85 : Fk RX3 85 2 2 .int false := ⟨RX2, TX2, 7, rfl, by decide, Or.inr ⟨"LeastBars", List.mem_of_getElem? (i := 64) (by decide +kernel)⟩, inl_X2, rfl, ⟨tyX2, tyX2_ok, nmX2⟩, by decide +kernel, rfl⟩
theorem f_X7_107 : Fk RX7 107 2 2 .int false := ⟨RX2, TX2, 7, rfl, by decide, Or.inr ⟨"LeastBars", List.mem_of_getElem? (i := 65) (by decide +kernel)⟩, inl_X2, rfl, ⟨tyX2, tyX2_ok, nmX2⟩, by decide +kernel, rfl⟩
theorem f_X2_22 : Fk RX2 22 2 3 .int false := ⟨RX2, TX2, 7, rfl, by decide, Or.inl (ws_m 162 (by decide +kernel) rfl), inl_X2, rfl, ⟨tyX2, tyX2_ok, nmX2⟩, by decide +kernel, rfl⟩
theorem f_X3_82 : Fk RX3 82 2 3 .int false := ⟨RX2, TX2, 7, rfl, by decide, Or.inr ⟨"LeastBars", List.mem_of_getElem? (i := 67) (by decide +kernel)⟩, inl_X2, rfl, ⟨tyX2, tyX2_ok, nmX2⟩, by decide +kernel, rfl⟩
theorem f_X7_110 : Fk RX7 110 2 3 .int false := ⟨RX2, TX2, 7, rfl, by decide, Or.inr ⟨"LeastBars", List.mem_of_getElem? (i := 68) (by decide +kernel)⟩, inl_X2, rfl, ⟨tyX2, tyX2_ok, nmX2⟩, by decide +kernel, rfl⟩
theorem f_X2_25 : Fk RX2 25 2 4 .int false := ⟨RX2, TX2, 7, rfl, by decide, Or.inl (ws_m 165 (by decide +kernel) rfl), inl_X2, rfl, ⟨tyX2, tyX2_ok, nmX2⟩, by decide +kernel, rfl⟩
theorem f_X7_113 : Fk RX7 113 2 4 .int false := ⟨RX2, TX2, 7, rfl, by decide, Or.inr ⟨"LeastBars", List.mem_of_getElem? (i := 70) (by decide +kernel)⟩, inl_X2, rfl, ⟨tyX2, tyX2_ok, nmX2⟩, by decide +kernel, rfl⟩
theorem f_X3_121 : Fk RX3 121 2 4 .int false := ⟨RX2, TX2, 7, rfl, by decide, Or.inr ⟨"LeastBars", List.mem_of_getElem? (i := 71) (by decide +kernel)⟩, inl_X2, rfl, ⟨tyX2, tyX2_ok, nmX2⟩, by decide +kernel, rfl⟩
theorem f_X2_28 : Fk RX2 28 2 5 .int false := ⟨RX2, TX2, 7, rfl, by decide, Or.inl (ws_m 168 (by decide +kernel) rfl), inl_X2, rfl, ⟨tyX2, tyX2_ok, nmX2⟩, by decide +kernel, rfl⟩
theorem f_X7_116 : Fk RX7 116 2 5 .int false := ⟨RX2, TX2, 7, rfl, by decide, Or.inr ⟨"LeastBars", List.mem_of_getElem? (i := 73) (by decide +kernel)⟩, inl_X2, rfl, ⟨tyX2, tyX2_ok, nmX2⟩, by decide +kernel, rfl⟩
theorem f_X2_31 : Fk RX2 31 2 6 .int false := ⟨RX2, TX2, 7, rfl, by decide, Or.inl (ws_m 170 (by decide +kernel) rfl), inl_X2, rfl, ⟨tyX2, tyX2_ok, nmX2⟩, by decide +kernel, rfl⟩
theorem f_X7_119 : Fk RX7 119 2 6 .int false := ⟨RX2, TX2, 7, rfl, by decide, Or.inr ⟨"LeastBars", List.mem_of_getElem? (i := 75) (by decide +kernel)⟩, inl_X2, rfl, ⟨tyX2, tyX2_ok, nmX2⟩, by decide +kernel, rfl⟩
theorem f_X3_9 : Fk RX3 9 3 0 (.array .int) true := ⟨RX3, TX3, 15, rfl, by decide, Or.inl (ws_m 193 (by decide +kernel) rfl), inl_X3, rfl, ⟨tyX3, tyX3_ok, nmX3⟩, by decide +kernel, rfl⟩
theorem f_X3_15 : Fk RX3 15 3 1 (.array .int) true := ⟨RX3, TX3, 15, rfl, by decide, Or.inl (ws_m 194 (by decide +kernel) rfl), inl_X3, rfl, ⟨tyX3, tyX3_ok, nmX3⟩, by decide +kernel, rfl⟩
theorem f_X3_18 : Fk RX3 18 3 2 (.array .int) true := ⟨RX3, TX3, 15, rfl, by decide, Or.inl (ws_m 195 (by decide +kernel) rfl), inl_X3, rfl, ⟨tyX3, tyX3_ok, nmX3⟩, by decide +kernel, rfl⟩
theorem f_X3_21 : Fk RX3 21 3 3 (.array .boolean) true := ⟨RX3, TX3, 15, rfl, by decide, Or.inl (ws_m 196 (by decide +kernel) rfl), inl_X3, rfl, ⟨tyX3, tyX3_ok, nmX3⟩, by decide +kernel, rfl⟩
theorem f_X3_25 : Fk RX3 25 3 4 (.array .int) true := ⟨RX3, TX3, 15, rfl, by decide, Or.inl (ws_m 197 (by decide +kernel) rfl), inl_X3, rfl, ⟨tyX3, tyX3_ok, nmX3⟩, by decide +kernel, rfl⟩
theorem f_X3_28 : Fk RX3 28 3 5 (.array .int) true := ⟨RX3, TX3, 15, rfl, by decide, Or.inl (ws_m 198 (by decide +kernel) rfl), inl_X3, rfl, ⟨tyX3, tyX3_ok, nmX3⟩, by decide +kernel, rfl⟩
theorem f_X3_31 : Fk RX3 31 3 6 (.array .int) true := ⟨RX3, TX3, 15, rfl, by decide, Or.inl (ws_m 199 (by decide +kernel) rfl), inl_X3, rfl, ⟨tyX3, tyX3_ok, nmX3⟩, by decide +kernel, rfl⟩
theorem f_X3_34 : Fk RX3 34 3 7 (.array .int) true := ⟨RX3, TX3, 15, rfl, by decide, Or.inl (ws_m 200 (by decide +kernel) rfl), inl_X3, rfl, ⟨tyX3, tyX3_ok, nmX3⟩, by decide +kernel, rfl⟩
theorem f_X3_37 : Fk RX3 37 3 8 (.array .int) true := ⟨RX3, TX3, 15, rfl, by decide, Or.inl (ws_m 201 (by decide +kernel) rfl), inl_X3, rfl, ⟨tyX3, tyX3_ok, nmX3⟩, by decide +kernel, rfl⟩
theorem f_X3_40 : Fk RX3 40 3 9 (.array .int) true := ⟨RX3, TX3, 15, rfl, by decide, Or.inl (ws_m 202 (by decide +kernel) rfl), inl_X3, rfl, ⟨tyX3, tyX3_ok, nmX3⟩, by decide +kernel, rfl⟩
theorem f_X3_43 : Fk RX3 43 3 10 .int false := ⟨RX3, TX3, 15, rfl, by decide, Or.inl (ws_m 203 (by decide +kernel) rfl), inl_X3, rfl, ⟨tyX3, tyX3_ok, nmX3⟩, by decide +kernel, rfl⟩
theorem f_X3_47 : Fk RX3 47 3 11 .int false := ⟨RX3, TX3, 15, rfl, by decide, Or.inl (ws_m 204 (by decide +kernel) rfl), inl_X3, rfl, ⟨tyX3, tyX3_ok, nmX3⟩, by decide +kernel, rfl⟩
theorem f_X3_50 : Fk RX3 50 3 12 .int false := ⟨RX3, TX3, 15, rfl, by decide, Or.inl (ws_m 205 (by decide +kernel) rfl), inl_X3, rfl, ⟨tyX3, tyX3_ok, nmX3⟩, by decide +kernel, rfl⟩
theorem f_X3_53 : Fk RX3 53 3 13 .int false := ⟨RX3, TX3, 15, rfl, by decide, Or.inl (ws_m 206 (by decide +kernel) rfl), inl_X3, rfl, ⟨tyX3, tyX3_ok, nmX3⟩, by decide +kernel, rfl⟩
theorem f_X1_57 : Fk RX1 57 3 13 .int false := ⟨RX3, TX3, 15, rfl, by decide, Or.inr ⟨"LeastBars", List.mem_of_getElem? (i := 111) (by decide +kernel)⟩, inl_X3, rfl, ⟨tyX3, tyX3_ok, nmX3⟩, by decide +kernel, rfl⟩
theorem f_X7_185 : Fk RX7 185 3 13 .int false := ⟨RX3, TX3, 15, rfl, by decide, Or.inr ⟨"LeastBars", List.mem_of_getElem? (i := 112) (by decide +kernel)⟩, inl_X3, rfl, ⟨tyX3, tyX3_ok, nmX3⟩, by decide +kernel, rfl⟩
theorem f_X3_56 : Fk RX3 56 3 14 .boolean false := ⟨RX3, TX3, 15, rfl, by decide, Or.inl (ws_m 209 (by decide +kernel) rfl), inl_X3, rfl, ⟨tyX3, tyX3_ok, nmX3⟩, by decide +kernel, rfl⟩
theorem f_X1_40 : Fk RX1 40 3 14 .boolean false := ⟨RX3, TX3, 15, rfl, by decide, Or.inr ⟨"LeastBars", List.mem_of_getElem? (i := 114) (by decide +kernel)⟩, inl_X3, rfl, ⟨tyX3, tyX3_ok, nmX3⟩, by decide +kernel, rfl⟩
theorem f_X7_181 : Fk RX7 181 3 14 .boolean false := ⟨RX3, TX3, 15, rfl, by decide, Or.inr ⟨"LeastBars", List.mem_of_getElem? (i := 115) (by decide +kernel)⟩, inl_X3, rfl, ⟨tyX3, tyX3_ok, nmX3⟩, by decide +kernel, rfl⟩
theorem f_X1_9 : Fk RX1 9 1 0 (.array .int) true := ⟨RX1, TX1, 7, rfl, by decide, Or.inl (ws_m 253 (by decide +kernel) rfl), inl_X1, rfl, ⟨tyX1, tyX1_ok, nmX1⟩, by decide +kernel, rfl⟩
theorem f_X1_15 : Fk RX1 15 1 1 (.array .int) true := ⟨RX1, TX1, 7, rfl, by decide, Or.inl (ws_m 254 (by decide +kernel) rfl), inl_X1, rfl, ⟨tyX1, tyX1_ok, nmX1⟩, by decide +kernel, rfl⟩
theorem f_X1_18 : Fk RX1 18 1 2 (.array .int) true := ⟨RX1, TX1, 7, rfl, by decide, Or.inl (ws_m 255 (by decide +kernel) rfl), inl_X1, rfl, ⟨tyX1, tyX1_ok, nmX1⟩, by decide +kernel, rfl⟩
theorem f_X1_21 : Fk RX1 21 1 3 (.array .int) true := ⟨RX1, TX1, 7, rfl, by decide, Or.inl (ws_m 256 (by decide +kernel) rfl), inl_X1, rfl, ⟨tyX1, tyX1_ok, nmX1⟩, by decide +kernel, rfl⟩
theorem f_X1_24 : Fk RX1 24 1 4 (.array .int) true := ⟨RX1, TX1, 7, rfl, by decide, Or.inl (ws_m 257 (by decide +kernel) rfl), inl_X1, rfl, ⟨tyX1, tyX1_ok, nmX1⟩, by decide +kernel, rfl⟩
theorem f_X1_27 : Fk RX1 27 1 5 .int false := ⟨RX1, TX1, 7, rfl, by decide, Or.inl (ws_m 258 (by decide +kernel) rfl), inl_X1, rfl, ⟨tyX1, tyX1_ok, nmX1⟩, by decide +kernel, rfl⟩
theorem f_X7_220 : Fk RX7 220 1 5 .int false := ⟨RX1, TX1, 7, rfl, by decide, Or.inr ⟨"LeastBars", List.mem_of_getElem? (i := 163) (by decide +kernel)⟩, inl_X1, rfl, ⟨tyX1, tyX1_ok, nmX1⟩, by decide +kernel, rfl⟩
theorem f_X1_31 : Fk RX1 31 1 6 .int false := ⟨RX1, TX1, 7, rfl, by decide, Or.inl (ws_m 260 (by decide +kernel) rfl), inl_X1, rfl, ⟨tyX1, tyX1_ok, nmX1⟩, by decide +kernel, rfl⟩
theorem f_X7_216 : Fk RX7 216 1 6 .int false := ⟨RX1, TX1, 7, rfl, by decide, Or.inr ⟨"LeastBars", List.mem_of_getElem? (i := 165) (by decide +kernel)⟩, inl_X1, rfl, ⟨tyX1, tyX1_ok, nmX1⟩, by decide +kernel, rfl⟩
theorem f_X0_9 : Fk RX0 9 0 0 (.array .int) true := ⟨RX0, TX0, 6, rfl, by decide, Or.inl (ws_m 283 (by decide +kernel) rfl), inl_X0, rfl, ⟨tyX0, tyX0_ok, nmX0⟩, by decide +kernel, rfl⟩
theorem f_X0_15 : Fk RX0 15 0 1 (.array .int) true := ⟨RX0, TX0, 6, rfl, by decide, Or.inl (ws_m 284 (by decide +kernel) rfl), inl_X0, rfl, ⟨tyX0, tyX0_ok, nmX0⟩, by decide +kernel, rfl⟩
theorem f_X0_18 : Fk RX0 18 0 2 (.array .int) true := ⟨RX0, TX0, 6, rfl, by decide, Or.inl (ws_m 285 (by decide +kernel) rfl), inl_X0, rfl, ⟨tyX0, tyX0_ok, nmX0⟩, by decide +kernel, rfl⟩
theorem f_X0_21 : Fk RX0 21 0 3 (.array .int) true := ⟨RX0, TX0, 6, rfl, by decide, Or.inl (ws_m 286 (by decide +kernel) rfl), inl_X0, rfl, ⟨tyX0, tyX0_ok, nmX0⟩, by decide +kernel, rfl⟩
theorem f_X0_24 : Fk RX0 24 0 4 .int false := ⟨RX0, TX0, 6, rfl, by decide, Or.inl (ws_m 287 (by decide +kernel) rfl), inl_X0, rfl, ⟨tyX0, tyX0_ok, nmX0⟩, by decide +kernel, rfl⟩
theorem f_X7_219 : Fk RX7 219 0 4 .int false := ⟨RX0, TX0, 6, rfl, by decide, Or.inr ⟨"LeastBars", List.mem_of_getElem? (i := 192) (by decide +kernel)⟩, inl_X0, rfl, ⟨tyX0, tyX0_ok, nmX0⟩, by decide +kernel, rfl⟩
theorem f_X0_28 : Fk RX0 28 0 5 .int false := ⟨RX0, TX0, 6, rfl, by decide, Or.inl (ws_m 289 (by decide +kernel) rfl), inl_X0, rfl, ⟨tyX0, tyX0_ok, nmX0⟩, by decide +kernel, rfl⟩
theorem f_X7_224 : Fk RX7 224 0 5 .int false := ⟨RX0, TX0, 6, rfl, by decide, Or.inr ⟨"LeastBars", List.mem_of_getElem? (i := 194) (by decide +kernel)⟩, inl_X0, rfl, ⟨tyX0, tyX0_ok, nmX0⟩, by decide +kernel, rfl⟩
theorem f_X6_9 : Fk RX6 9 6 0 (.array .int) true := ⟨RX6, TX6, 4, rfl, by decide, Or.inl (ws_m 310 (by decide +kernel) rfl), inl_X6, rfl, ⟨tyX6, tyX6_ok, nmX6⟩, by decide +kernel, rfl⟩
theorem f_X6_15 : Fk RX6 15 6 1 .int false := ⟨RX6, TX6, 4, rfl, by decide, Or.inl (ws_m 311 (by decide +kernel) rfl), inl_X6, rfl, ⟨tyX6, tyX6_ok, nmX6⟩, by decide +kernel, rfl⟩
theorem f_X6_19 : Fk RX6 19 6 2 .int false := ⟨RX6, TX6, 4, rfl, by decide, Or.inl (ws_m 312 (by decide +kernel) rfl), inl_X6, rfl, ⟨tyX6, tyX6_ok, nmX6⟩, by decide +kernel, rfl⟩
theorem f_X7_223 : Fk RX7 223 6 2 .int false := ⟨RX6, TX6, 4, rfl, by decide, Or.inr ⟨"LeastBars", List.mem_of_getElem? (i := 217) (by decide +kernel)⟩, inl_X6, rfl, ⟨tyX6, tyX6_ok, nmX6⟩, by decide +kernel, rfl⟩
theorem f_X6_22 : Fk RX6 22 6 3 .int false := ⟨RX6, TX6, 4, rfl, by decide, Or.inl (ws_m 314 (by decide +kernel) rfl), inl_X6, rfl, ⟨tyX6, tyX6_ok, nmX6⟩, by decide +kernel, rfl⟩
theorem f_X7_191 : Fk RX7 191 6 3 .int false := ⟨RX6, TX6, 4, rfl, by decide, Or.inr ⟨"LeastBars", List.mem_of_getElem? (i := 219) (by decide +kernel)⟩, inl_X6, rfl, ⟨tyX6, tyX6_ok, nmX6⟩, by decide +kernel, rfl⟩
theorem f_X7_12 : Fk RX7 12 7 0 (.object "LeastBars$Tape") true := ⟨RX7, TX7, 12, rfl, by decide, Or.inl (ws_m 508 (by decide +kernel) rfl), inl_X7, rfl, ⟨tyX7, tyX7_ok, nmX7⟩, by decide +kernel, rfl⟩
theorem f_X7_19 : Fk RX7 19 7 1 (.object "LeastBars$Reader") true := ⟨RX7, TX7, 12, rfl, by decide, Or.inl (ws_m 509 (by decide +kernel) rfl), inl_X7, rfl, ⟨tyX7, tyX7_ok, nmX7⟩, by decide +kernel, rfl⟩
theorem f_X7_25 : Fk RX7 25 7 2 (.array (.object "LeastBars$Machine")) true := ⟨RX7, TX7, 12, rfl, by decide, Or.inl (ws_m 510 (by decide +kernel) rfl), inl_X7, rfl, ⟨tyX7, tyX7_ok, nmX7⟩, by decide +kernel, rfl⟩
theorem f_X7_33 : Fk RX7 33 7 3 (.object "LeastBars$Net") true := ⟨RX7, TX7, 12, rfl, by decide, Or.inl (ws_m 511 (by decide +kernel) rfl), inl_X7, rfl, ⟨tyX7, tyX7_ok, nmX7⟩, by decide +kernel, rfl⟩
theorem f_X7_37 : Fk RX7 37 7 4 (.object "LeastBars$Net") true := ⟨RX7, TX7, 12, rfl, by decide, Or.inl (ws_m 512 (by decide +kernel) rfl), inl_X7, rfl, ⟨tyX7, tyX7_ok, nmX7⟩, by decide +kernel, rfl⟩
theorem f_X7_40 : Fk RX7 40 7 5 (.array .int) true := ⟨RX7, TX7, 12, rfl, by decide, Or.inl (ws_m 513 (by decide +kernel) rfl), inl_X7, rfl, ⟨tyX7, tyX7_ok, nmX7⟩, by decide +kernel, rfl⟩
theorem f_X7_53 : Fk RX7 53 7 6 (.object "LeastBars$Losses") true := ⟨RX7, TX7, 12, rfl, by decide, Or.inl (ws_m 514 (by decide +kernel) rfl), inl_X7, rfl, ⟨tyX7, tyX7_ok, nmX7⟩, by decide +kernel, rfl⟩
theorem f_X7_60 : Fk RX7 60 7 7 (.object "LeastBars$Control") true := ⟨RX7, TX7, 12, rfl, by decide, Or.inl (ws_m 515 (by decide +kernel) rfl), inl_X7, rfl, ⟨tyX7, tyX7_ok, nmX7⟩, by decide +kernel, rfl⟩
theorem f_X7_67 : Fk RX7 67 7 8 (.object "LeastBars$Trail") true := ⟨RX7, TX7, 12, rfl, by decide, Or.inl (ws_m 516 (by decide +kernel) rfl), inl_X7, rfl, ⟨tyX7, tyX7_ok, nmX7⟩, by decide +kernel, rfl⟩
theorem f_X7_71 : Fk RX7 71 7 9 .int false := ⟨RX7, TX7, 12, rfl, by decide, Or.inl (ws_m 517 (by decide +kernel) rfl), inl_X7, rfl, ⟨tyX7, tyX7_ok, nmX7⟩, by decide +kernel, rfl⟩
theorem f_X7_75 : Fk RX7 75 7 10 .int false := ⟨RX7, TX7, 12, rfl, by decide, Or.inl (ws_m 518 (by decide +kernel) rfl), inl_X7, rfl, ⟨tyX7, tyX7_ok, nmX7⟩, by decide +kernel, rfl⟩
theorem f_X7_78 : Fk RX7 78 7 11 .int false := ⟨RX7, TX7, 12, rfl, by decide, Or.inl (ws_m 519 (by decide +kernel) rfl), inl_X7, rfl, ⟨tyX7, tyX7_ok, nmX7⟩, by decide +kernel, rfl⟩
theorem f_X8_7 : Fk RX8 7 8 0 (.array .int) true := ⟨RX8, TX8, 25, rfl, by decide, Or.inl (ws_m 778 (by decide +kernel) rfl), inl_X8, rfl, ⟨tyX8, tyX8_ok, nmX8⟩, by decide +kernel, rfl⟩
theorem f_X8_63 : Fk RX8 63 8 1 .int false := ⟨RX8, TX8, 25, rfl, by decide, Or.inl (ws_m 779 (by decide +kernel) rfl), inl_X8, rfl, ⟨tyX8, tyX8_ok, nmX8⟩, by decide +kernel, rfl⟩
theorem f_X8_96 : Fk RX8 96 8 2 .int false := ⟨RX8, TX8, 25, rfl, by decide, Or.inl (ws_m 780 (by decide +kernel) rfl), inl_X8, rfl, ⟨tyX8, tyX8_ok, nmX8⟩, by decide +kernel, rfl⟩
theorem f_X8_13 : Fk RX8 13 8 3 (.array .int) true := ⟨RX8, TX8, 25, rfl, by decide, Or.inl (ws_m 781 (by decide +kernel) rfl), inl_X8, rfl, ⟨tyX8, tyX8_ok, nmX8⟩, by decide +kernel, rfl⟩
theorem f_X8_16 : Fk RX8 16 8 4 (.array .int) true := ⟨RX8, TX8, 25, rfl, by decide, Or.inl (ws_m 782 (by decide +kernel) rfl), inl_X8, rfl, ⟨tyX8, tyX8_ok, nmX8⟩, by decide +kernel, rfl⟩
theorem f_X8_19 : Fk RX8 19 8 5 (.array .int) true := ⟨RX8, TX8, 25, rfl, by decide, Or.inl (ws_m 783 (by decide +kernel) rfl), inl_X8, rfl, ⟨tyX8, tyX8_ok, nmX8⟩, by decide +kernel, rfl⟩
theorem f_X8_22 : Fk RX8 22 8 6 (.array .int) true := ⟨RX8, TX8, 25, rfl, by decide, Or.inl (ws_m 784 (by decide +kernel) rfl), inl_X8, rfl, ⟨tyX8, tyX8_ok, nmX8⟩, by decide +kernel, rfl⟩
theorem f_X8_25 : Fk RX8 25 8 7 (.array .int) true := ⟨RX8, TX8, 25, rfl, by decide, Or.inl (ws_m 785 (by decide +kernel) rfl), inl_X8, rfl, ⟨tyX8, tyX8_ok, nmX8⟩, by decide +kernel, rfl⟩
theorem f_X8_28 : Fk RX8 28 8 8 (.array .int) true := ⟨RX8, TX8, 25, rfl, by decide, Or.inl (ws_m 786 (by decide +kernel) rfl), inl_X8, rfl, ⟨tyX8, tyX8_ok, nmX8⟩, by decide +kernel, rfl⟩
theorem f_X8_118 : Fk RX8 118 8 9 .int false := ⟨RX8, TX8, 25, rfl, by decide, Or.inl (ws_m 787 (by decide +kernel) rfl), inl_X8, rfl, ⟨tyX8, tyX8_ok, nmX8⟩, by decide +kernel, rfl⟩
theorem f_X8_67 : Fk RX8 67 8 10 .int false := ⟨RX8, TX8, 25, rfl, by decide, Or.inl (ws_m 788 (by decide +kernel) rfl), inl_X8, rfl, ⟨tyX8, tyX8_ok, nmX8⟩, by decide +kernel, rfl⟩
theorem f_X8_131 : Fk RX8 131 8 11 .int false := ⟨RX8, TX8, 25, rfl, by decide, Or.inl (ws_m 789 (by decide +kernel) rfl), inl_X8, rfl, ⟨tyX8, tyX8_ok, nmX8⟩, by decide +kernel, rfl⟩
theorem f_X8_31 : Fk RX8 31 8 12 (.array .int) true := ⟨RX8, TX8, 25, rfl, by decide, Or.inl (ws_m 790 (by decide +kernel) rfl), inl_X8, rfl, ⟨tyX8, tyX8_ok, nmX8⟩, by decide +kernel, rfl⟩
theorem f_X8_34 : Fk RX8 34 8 13 (.array .int) true := ⟨RX8, TX8, 25, rfl, by decide, Or.inl (ws_m 791 (by decide +kernel) rfl), inl_X8, rfl, ⟨tyX8, tyX8_ok, nmX8⟩, by decide +kernel, rfl⟩
theorem f_X8_105 : Fk RX8 105 8 14 .boolean false := ⟨RX8, TX8, 25, rfl, by decide, Or.inl (ws_m 792 (by decide +kernel) rfl), inl_X8, rfl, ⟨tyX8, tyX8_ok, nmX8⟩, by decide +kernel, rfl⟩
theorem f_X8_37 : Fk RX8 37 8 15 (.array .int) true := ⟨RX8, TX8, 25, rfl, by decide, Or.inl (ws_m 793 (by decide +kernel) rfl), inl_X8, rfl, ⟨tyX8, tyX8_ok, nmX8⟩, by decide +kernel, rfl⟩
theorem f_X8_40 : Fk RX8 40 8 16 (.array .int) true := ⟨RX8, TX8, 25, rfl, by decide, Or.inl (ws_m 794 (by decide +kernel) rfl), inl_X8, rfl, ⟨tyX8, tyX8_ok, nmX8⟩, by decide +kernel, rfl⟩
theorem f_X8_43 : Fk RX8 43 8 17 (.array .int) true := ⟨RX8, TX8, 25, rfl, by decide, Or.inl (ws_m 795 (by decide +kernel) rfl), inl_X8, rfl, ⟨tyX8, tyX8_ok, nmX8⟩, by decide +kernel, rfl⟩
theorem f_X8_46 : Fk RX8 46 8 18 (.array .boolean) true := ⟨RX8, TX8, 25, rfl, by decide, Or.inl (ws_m 796 (by decide +kernel) rfl), inl_X8, rfl, ⟨tyX8, tyX8_ok, nmX8⟩, by decide +kernel, rfl⟩
theorem f_X8_50 : Fk RX8 50 8 19 (.array .boolean) true := ⟨RX8, TX8, 25, rfl, by decide, Or.inl (ws_m 797 (by decide +kernel) rfl), inl_X8, rfl, ⟨tyX8, tyX8_ok, nmX8⟩, by decide +kernel, rfl⟩
theorem f_X8_162 : Fk RX8 162 8 20 .int false := ⟨RX8, TX8, 25, rfl, by decide, Or.inl (ws_m 798 (by decide +kernel) rfl), inl_X8, rfl, ⟨tyX8, tyX8_ok, nmX8⟩, by decide +kernel, rfl⟩
theorem f_X8_109 : Fk RX8 109 8 21 .int false := ⟨RX8, TX8, 25, rfl, by decide, Or.inl (ws_m 799 (by decide +kernel) rfl), inl_X8, rfl, ⟨tyX8, tyX8_ok, nmX8⟩, by decide +kernel, rfl⟩
theorem f_X8_112 : Fk RX8 112 8 22 .int false := ⟨RX8, TX8, 25, rfl, by decide, Or.inl (ws_m 800 (by decide +kernel) rfl), inl_X8, rfl, ⟨tyX8, tyX8_ok, nmX8⟩, by decide +kernel, rfl⟩
theorem f_X8_53 : Fk RX8 53 8 23 (.array .int) true := ⟨RX8, TX8, 25, rfl, by decide, Or.inl (ws_m 801 (by decide +kernel) rfl), inl_X8, rfl, ⟨tyX8, tyX8_ok, nmX8⟩, by decide +kernel, rfl⟩
theorem f_X8_56 : Fk RX8 56 8 24 (.array .int) true := ⟨RX8, TX8, 25, rfl, by decide, Or.inl (ws_m 802 (by decide +kernel) rfl), inl_X8, rfl, ⟨tyX8, tyX8_ok, nmX8⟩, by decide +kernel, rfl⟩
set_option maxRecDepth 100000 in
theorem wc_X7_init : Cond.code yX7_init cX7_init 2 none ∈ WS := ws_m 113 rfl rfl
theorem wi_X7_init : Cond.instanceMethod yX7_init ∈ WS := ws_m 112 (by decide +kernel) rfl
theorem wn_X7 : Cond.initialized RX7 ∈ WS := ws_m 97 (by decide +kernel) rfl
set_option maxRecDepth 100000 in
theorem wc_X5_init : Cond.code yX5_init cX5_init 1 none ∈ WS := ws_m 121 rfl rfl
theorem wi_X5_init : Cond.instanceMethod yX5_init ∈ WS := ws_m 120 (by decide +kernel) rfl
theorem wn_X5 : Cond.initialized RX5 ∈ WS := ws_m 98 (by decide +kernel) rfl
set_option maxRecDepth 100000 in
theorem wc_X4_init : Cond.code yX4_init cX4_init 1 none ∈ WS := ws_m 138 rfl rfl
theorem wi_X4_init : Cond.instanceMethod yX4_init ∈ WS := ws_m 137 (by decide +kernel) rfl
theorem wn_X4 : Cond.initialized RX4 ∈ WS := ws_m 99 (by decide +kernel) rfl
set_option maxRecDepth 100000 in
theorem wc_X2_init : Cond.code yX2_init cX2_init 1 none ∈ WS := ws_m 155 rfl rfl
theorem wi_X2_init : Cond.instanceMethod yX2_init ∈ WS := ws_m 154 (by decide +kernel) rfl
theorem wn_X2 : Cond.initialized RX2 ∈ WS := ws_m 100 (by decide +kernel) rfl
set_option maxRecDepth 100000 in
theorem wc_X3_init : Cond.code yX3_init cX3_init 1 none ∈ WS := ws_m 191 rfl rfl
theorem wi_X3_init : Cond.instanceMethod yX3_init ∈ WS := ws_m 190 (by decide +kernel) rfl
theorem wn_X3 : Cond.initialized RX3 ∈ WS := ws_m 101 (by decide +kernel) rfl
set_option maxRecDepth 100000 in
theorem wc_J7_fill_53178 : Cond.code yJ7_fill_53178 cJ7_fill_53178 4 none ∈ WS := ws_m 246 rfl rfl
theorem ws_J7_fill_53178 : Cond.static yJ7_fill_53178 ∈ WS := ws_m 245 (by decide +kernel) rfl
theorem wn_J7 : Cond.initialized RJ7 ∈ WS := ws_m 102 (by decide +kernel) rfl
theorem k_X7_44 : CkS RX7 44 yJ7_fill_53178 cJ7_fill_53178 4 none 2 := ⟨ws_m 244 (by decide +kernel) rfl, ws_J7_fill_53178, wn_J7, wc_J7_fill_53178, ⟨by decide +kernel, by decide +kernel, by decide +kernel⟩, by decide⟩
set_option maxRecDepth 100000 in
theorem wc_X1_init : Cond.code yX1_init cX1_init 1 none ∈ WS := ws_m 251 rfl rfl
theorem wi_X1_init : Cond.instanceMethod yX1_init ∈ WS := ws_m 250 (by decide +kernel) rfl
theorem wn_X1 : Cond.initialized RX1 ∈ WS := ws_m 103 (by decide +kernel) rfl
set_option maxRecDepth 100000 in
theorem wc_X0_init : Cond.code yX0_init cX0_init 1 none ∈ WS := ws_m 281 rfl rfl
theorem wi_X0_init : Cond.instanceMethod yX0_init ∈ WS := ws_m 280 (by decide +kernel) rfl
theorem wn_X0 : Cond.initialized RX0 ∈ WS := ws_m 104 (by decide +kernel) rfl
set_option maxRecDepth 100000 in
theorem wc_X6_init : Cond.code yX6_init cX6_init 1 none ∈ WS := ws_m 308 rfl rfl
theorem wi_X6_init : Cond.instanceMethod yX6_init ∈ WS := ws_m 307 (by decide +kernel) rfl
theorem wn_X6 : Cond.initialized RX6 ∈ WS := ws_m 105 (by decide +kernel) rfl
set_option maxRecDepth 100000 in
theorem wc_X7_joinAnew : Cond.code yX7_joinAnew cX7_joinAnew 1 none ∈ WS := ws_m 328 rfl rfl
theorem wi_X7_joinAnew : Cond.instanceMethod yX7_joinAnew ∈ WS := ws_m 327 (by decide +kernel) rfl
theorem wl_X7_joinAnew : Cond.selects RX7 yX7_joinAnew yX7_joinAnew ∈ WS := ws_m 0 (by decide +kernel) rfl
theorem k_X7_81 : CkV RX7 81 yX7_joinAnew cX7_joinAnew 1 none RX7 0 := ⟨ws_m 325 (by decide +kernel) rfl, wi_X7_joinAnew, wl_X7_joinAnew, wn_X7, wc_X7_joinAnew, rfl, ⟨by decide +kernel, by decide +kernel, by decide +kernel⟩, by decide⟩
set_option maxRecDepth 100000 in
theorem wc_X7_setOfAllMachines : Cond.code yX7_setOfAllMachines cX7_setOfAllMachines 1 (some .int) ∈ WS := ws_m 332 rfl rfl
theorem wi_X7_setOfAllMachines : Cond.instanceMethod yX7_setOfAllMachines ∈ WS := ws_m 331 (by decide +kernel) rfl
theorem wl_X7_setOfAllMachines : Cond.selects RX7 yX7_setOfAllMachines yX7_setOfAllMachines ∈ WS := ws_m 1 (by decide +kernel) rfl
theorem k_X7_173 : CkV RX7 173 yX7_setOfAllMachines cX7_setOfAllMachines 1 (some .int) RX7 0 := ⟨ws_m 329 (by decide +kernel) rfl, wi_X7_setOfAllMachines, wl_X7_setOfAllMachines, wn_X7, wc_X7_setOfAllMachines, rfl, ⟨by decide +kernel, by decide +kernel, by decide +kernel⟩, by decide⟩
set_option maxRecDepth 100000 in
theorem wc_X3_join : Cond.code yX3_join cX3_join 4 none ∈ WS := ws_m 336 rfl rfl
theorem wi_X3_join : Cond.instanceMethod yX3_join ∈ WS := ws_m 335 (by decide +kernel) rfl
theorem wl_X3_join : Cond.selects RX3 yX3_join yX3_join ∈ WS := ws_m 2 (by decide +kernel) rfl
theorem k_X7_227 : CkVN RX7 227 yX3_join cX3_join 4 none RX3 2 := ⟨List.mem_of_getElem? (i := 237) (by decide +kernel), wi_X3_join, wl_X3_join, wn_X3, wc_X3_join, rfl, ⟨by decide +kernel, by decide +kernel, by decide +kernel⟩, by decide⟩
theorem k_X3_60 : CkS RX3 60 yJ7_fill_53178 cJ7_fill_53178 4 none 2 := ⟨ws_m 337 (by decide +kernel) rfl, ws_J7_fill_53178, wn_J7, wc_J7_fill_53178, ⟨by decide +kernel, by decide +kernel, by decide +kernel⟩, by decide⟩
set_option maxRecDepth 100000 in
theorem wc_X3_gatherAlphabets : Cond.code yX3_gatherAlphabets cX3_gatherAlphabets 4 none ∈ WS := ws_m 341 rfl rfl
theorem wi_X3_gatherAlphabets : Cond.instanceMethod yX3_gatherAlphabets ∈ WS := ws_m 340 (by decide +kernel) rfl
theorem wl_X3_gatherAlphabets : Cond.selects RX3 yX3_gatherAlphabets yX3_gatherAlphabets ∈ WS := ws_m 3 (by decide +kernel) rfl
theorem k_X3_66 : CkV RX3 66 yX3_gatherAlphabets cX3_gatherAlphabets 4 none RX3 2 := ⟨ws_m 338 (by decide +kernel) rfl, wi_X3_gatherAlphabets, wl_X3_gatherAlphabets, wn_X3, wc_X3_gatherAlphabets, rfl, ⟨by decide +kernel, by decide +kernel, by decide +kernel⟩, by decide⟩
set_option maxRecDepth 100000 in
theorem wc_X7_isIn : Cond.code yX7_isIn cX7_isIn 2 (some .boolean) ∈ WS := ws_m 344 rfl rfl
theorem ws_X7_isIn : Cond.static yX7_isIn ∈ WS := ws_m 343 (by decide +kernel) rfl
theorem k_X3_78 : CkSN RX3 78 yX7_isIn cX7_isIn 2 (some .boolean) 2 := ⟨List.mem_of_getElem? (i := 246) (by decide +kernel), ws_X7_isIn, wn_X7, wc_X7_isIn, ⟨by decide +kernel, by decide +kernel, by decide +kernel⟩, by decide⟩
set_option maxRecDepth 100000 in
theorem wc_X3_meet : Cond.code yX3_meet cX3_meet 5 (some .int) ∈ WS := ws_m 348 rfl rfl
theorem wi_X3_meet : Cond.instanceMethod yX3_meet ∈ WS := ws_m 347 (by decide +kernel) rfl
theorem wl_X3_meet : Cond.selects RX3 yX3_meet yX3_meet ∈ WS := ws_m 4 (by decide +kernel) rfl
theorem k_X3_70 : CkV RX3 70 yX3_meet cX3_meet 5 (some .int) RX3 1 := ⟨ws_m 345 (by decide +kernel) rfl, wi_X3_meet, wl_X3_meet, wn_X3, wc_X3_meet, rfl, ⟨by decide +kernel, by decide +kernel, by decide +kernel⟩, by decide⟩
set_option maxRecDepth 100000 in
theorem wc_X3_add : Cond.code yX3_add cX3_add 2 (some .int) ∈ WS := ws_m 353 rfl rfl
theorem wi_X3_add : Cond.instanceMethod yX3_add ∈ WS := ws_m 352 (by decide +kernel) rfl
theorem wl_X3_add : Cond.selects RX3 yX3_add yX3_add ∈ WS := ws_m 5 (by decide +kernel) rfl
theorem k_X3_115 : CkV RX3 115 yX3_add cX3_add 2 (some .int) RX3 1 := ⟨ws_m 350 (by decide +kernel) rfl, wi_X3_add, wl_X3_add, wn_X3, wc_X3_add, rfl, ⟨by decide +kernel, by decide +kernel, by decide +kernel⟩, by decide⟩
set_option maxRecDepth 100000 in
theorem wc_X7_isJoint : Cond.code yX7_isJoint cX7_isJoint 1 (some .boolean) ∈ WS := ws_m 356 rfl rfl
theorem ws_X7_isJoint : Cond.static yX7_isJoint ∈ WS := ws_m 355 (by decide +kernel) rfl
theorem k_X3_118 : CkSN RX3 118 yX7_isJoint cX7_isJoint 1 (some .boolean) 1 := ⟨List.mem_of_getElem? (i := 258) (by decide +kernel), ws_X7_isJoint, wn_X7, wc_X7_isJoint, ⟨by decide +kernel, by decide +kernel, by decide +kernel⟩, by decide⟩
