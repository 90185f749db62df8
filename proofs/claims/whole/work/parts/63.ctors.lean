/-! CONSTRUCTORS that make arrays alone -/
theorem KJ.ws {D : va_G} {t : Tc} {A : Nat → Prop} {R : Room} {own : String} {cc : ByteArray} {nL mc ms : Nat} {B : State → Prop} {pc : Nat} {lv : List (Nat × Value)} {st : List Value} {ws ws2 : va_W} {cells slots : Nat} (h : ws = ws2) (k : KJ D t A R own cc nL mc ms B pc lv st ws2 cells slots) : KJ D t A R own cc nL mc ms B pc lv st ws cells slots := by subst h; exact k
theorem ko_i : Cond.instanceMethod Lib.objectInit ∈ WS := ws_m 115 (by decide +kernel) rfl
theorem ko_c : Cond.code Lib.objectInit ⟨#[0xb1]⟩ 1 none ∈ WS := ws_m 116 (by decide +kernel) rfl
theorem ko_I : Cond.arrayClass .int ∈ WS := ws_m 133 (by decide +kernel) rfl
theorem ko_Z : Cond.arrayClass .boolean ∈ WS := ws_m 243 (by decide +kernel) rfl
def wd_X5 (t : Tc) (h0 : Nat) (w : va_W) : Prop := ∃ q1 : Nat, w = [(h0, .inr (5, [.ref q1, .int 0])), (q1, .inl (t.1, 60, .inl (fun _ => 0)))]
theorem kc_X5 (D : va_G) (t : Tc) (h0 : Nat) : KC { frames := 1, cells := 1, slots := 60, locals := 12 } yX5_init cX5_init 1 1 60 h0 D t [(h0, .inr (5, [.null, .int 0]))] (wd_X5 t h0) := by
  refine KC.intro (by decide +kernel) rfl (by decide) (fun A => ?_)
  refine kj_aload (pc := 0) (i := 0) dX5_init_0 rfl ?_
  refine kj_obj (pc := 1) (ws_m 122 (by decide +kernel) rfl) ko_i ko_c (Nat.le_of_ble_eq_true rfl) (Nat.le_of_ble_eq_true rfl) dX5_init_1 ?_
  refine kj_aload (pc := 4) (i := 0) dX5_init_4 rfl ?_
  refine kj_bipush (pc := 5) dX5_init_5 (v := 60) (by decide) ?_
  refine kj_newaI (pc := 7) ko_I (N' := 60) (by decide) (by decide +kernel) (Nat.le_of_ble_eq_true rfl) (Nat.le_of_ble_eq_true rfl) (Nat.le_of_ble_eq_true rfl) dX5_init_7 (fun q1 => ?_)
  refine kj_putF (pc := 9) (q0 := 0) (k := 0) (v := .ref q1) rfl (ws_m 123 (by decide +kernel) rfl) f_X5_9 rfl rfl rfl (Nat.le_of_ble_eq_true rfl) dX5_init_9 ?_
  refine KJ.ws (ws2 := [(h0, .inr (5, [.ref q1, .int 0])), (q1, .inl (t.1, 60, .inl (fun _ => 0)))]) rfl ?_
  refine kj_aload (pc := 12) (i := 0) dX5_init_12 rfl ?_
  refine kj_iconst (pc := 13) dX5_init_13 (v := 0) (by decide) ?_
  refine kj_put (pc := 14) (q0 := 0) (k := 1) (v := .int 0) rfl (ws_m 125 (by decide +kernel) rfl) f_X5_15 rfl rfl rfl (Nat.le_of_ble_eq_true rfl) dX5_init_14 ?_
  refine KJ.ws (ws2 := [(h0, .inr (5, [.ref q1, .int 0])), (q1, .inl (t.1, 60, .inl (fun _ => 0)))]) rfl ?_
  exact kj_ret (pc := 17) (fun U hP hD => ⟨_, ⟨q1, rfl⟩, hP, hD⟩) dX5_init_17
def wd_X4 (t : Tc) (h0 : Nat) (w : va_W) : Prop := w = [(h0, .inr (4, [.int 0, .int 0, .int 0]))]
theorem kc_X4 (D : va_G) (t : Tc) (h0 : Nat) : KC { frames := 1, cells := 0, slots := 0, locals := 12 } yX4_init cX4_init 1 0 0 h0 D t [(h0, .inr (4, [.int 0, .int 0, .int 0]))] (wd_X4 t h0) := by
  refine KC.intro (by decide +kernel) rfl (by decide) (fun A => ?_)
  refine kj_aload (pc := 0) (i := 0) dX4_init_0 rfl ?_
  refine kj_obj (pc := 1) (ws_m 139 (by decide +kernel) rfl) ko_i ko_c (Nat.le_of_ble_eq_true rfl) (Nat.le_of_ble_eq_true rfl) dX4_init_1 ?_
  refine kj_aload (pc := 4) (i := 0) dX4_init_4 rfl ?_
  refine kj_iconst (pc := 5) dX4_init_5 (v := 0) (by decide) ?_
  refine kj_put (pc := 6) (q0 := 0) (k := 0) (v := .int 0) rfl (ws_m 140 (by decide +kernel) rfl) f_X4_11 rfl rfl rfl (Nat.le_of_ble_eq_true rfl) dX4_init_6 ?_
  refine KJ.ws (ws2 := [(h0, .inr (4, [.int 0, .int 0, .int 0]))]) rfl ?_
  refine kj_aload (pc := 9) (i := 0) dX4_init_9 rfl ?_
  refine kj_iconst (pc := 10) dX4_init_10 (v := 0) (by decide) ?_
  refine kj_put (pc := 11) (q0 := 0) (k := 1) (v := .int 0) rfl (ws_m 141 (by decide +kernel) rfl) f_X4_15 rfl rfl rfl (Nat.le_of_ble_eq_true rfl) dX4_init_11 ?_
  refine KJ.ws (ws2 := [(h0, .inr (4, [.int 0, .int 0, .int 0]))]) rfl ?_
  refine kj_aload (pc := 14) (i := 0) dX4_init_14 rfl ?_
  refine kj_iconst (pc := 15) dX4_init_15 (v := 0) (by decide) ?_
  refine kj_put (pc := 16) (q0 := 0) (k := 2) (v := .int 0) rfl (ws_m 142 (by decide +kernel) rfl) f_X4_18 rfl rfl rfl (Nat.le_of_ble_eq_true rfl) dX4_init_16 ?_
  refine KJ.ws (ws2 := [(h0, .inr (4, [.int 0, .int 0, .int 0]))]) rfl ?_
  exact kj_ret (pc := 19) (fun U hP hD => ⟨_, rfl, hP, hD⟩) dX4_init_19
def wd_X2 (t : Tc) (h0 : Nat) (w : va_W) : Prop := ∃ q1 q2 : Nat, w = [(h0, .inr (2, [.ref q1, .ref q2, .int 0, .int 0, .int 0, .int 0, .int 0])), (q1, .inl (t.1, 48, .inl (fun _ => 0))), (q2, .inl (t.1, 6, .inl (fun _ => 0)))]
theorem kc_X2 (D : va_G) (t : Tc) (h0 : Nat) : KC { frames := 1, cells := 2, slots := 54, locals := 12 } yX2_init cX2_init 1 2 54 h0 D t [(h0, .inr (2, [.null, .null, .int 0, .int 0, .int 0, .int 0, .int 0]))] (wd_X2 t h0) := by
  refine KC.intro (by decide +kernel) rfl (by decide) (fun A => ?_)
  refine kj_aload (pc := 0) (i := 0) dX2_init_0 rfl ?_
  refine kj_obj (pc := 1) (ws_m 156 (by decide +kernel) rfl) ko_i ko_c (Nat.le_of_ble_eq_true rfl) (Nat.le_of_ble_eq_true rfl) dX2_init_1 ?_
  refine kj_aload (pc := 4) (i := 0) dX2_init_4 rfl ?_
  refine kj_bipush (pc := 5) dX2_init_5 (v := 48) (by decide) ?_
  refine kj_newaI (pc := 7) ko_I (N' := 48) (by decide) (by decide +kernel) (Nat.le_of_ble_eq_true rfl) (Nat.le_of_ble_eq_true rfl) (Nat.le_of_ble_eq_true rfl) dX2_init_7 (fun q1 => ?_)
  refine kj_putF (pc := 9) (q0 := 0) (k := 0) (v := .ref q1) rfl (ws_m 157 (by decide +kernel) rfl) f_X2_9 rfl rfl rfl (Nat.le_of_ble_eq_true rfl) dX2_init_9 ?_
  refine KJ.ws (ws2 := [(h0, .inr (2, [.ref q1, .null, .int 0, .int 0, .int 0, .int 0, .int 0])), (q1, .inl (t.1, 48, .inl (fun _ => 0)))]) rfl ?_
  refine kj_aload (pc := 12) (i := 0) dX2_init_12 rfl ?_
  refine kj_bipush (pc := 13) dX2_init_13 (v := 6) (by decide) ?_
  refine kj_newaI (pc := 15) ko_I (N' := 6) (by decide) (by decide +kernel) (Nat.le_of_ble_eq_true rfl) (Nat.le_of_ble_eq_true rfl) (Nat.le_of_ble_eq_true rfl) dX2_init_15 (fun q2 => ?_)
  refine kj_putF (pc := 17) (q0 := 0) (k := 1) (v := .ref q2) rfl (ws_m 158 (by decide +kernel) rfl) f_X2_15 rfl rfl rfl (Nat.le_of_ble_eq_true rfl) dX2_init_17 ?_
  refine KJ.ws (ws2 := [(h0, .inr (2, [.ref q1, .ref q2, .int 0, .int 0, .int 0, .int 0, .int 0])), (q1, .inl (t.1, 48, .inl (fun _ => 0))), (q2, .inl (t.1, 6, .inl (fun _ => 0)))]) rfl ?_
  refine kj_aload (pc := 20) (i := 0) dX2_init_20 rfl ?_
  refine kj_iconst (pc := 21) dX2_init_21 (v := 0) (by decide) ?_
  refine kj_put (pc := 22) (q0 := 0) (k := 2) (v := .int 0) rfl (ws_m 159 (by decide +kernel) rfl) f_X2_18 rfl rfl rfl (Nat.le_of_ble_eq_true rfl) dX2_init_22 ?_
  refine KJ.ws (ws2 := [(h0, .inr (2, [.ref q1, .ref q2, .int 0, .int 0, .int 0, .int 0, .int 0])), (q1, .inl (t.1, 48, .inl (fun _ => 0))), (q2, .inl (t.1, 6, .inl (fun _ => 0)))]) rfl ?_
  refine kj_aload (pc := 25) (i := 0) dX2_init_25 rfl ?_
  refine kj_iconst (pc := 26) dX2_init_26 (v := 0) (by decide) ?_
  refine kj_put (pc := 27) (q0 := 0) (k := 3) (v := .int 0) rfl (ws_m 162 (by decide +kernel) rfl) f_X2_22 rfl rfl rfl (Nat.le_of_ble_eq_true rfl) dX2_init_27 ?_
  refine KJ.ws (ws2 := [(h0, .inr (2, [.ref q1, .ref q2, .int 0, .int 0, .int 0, .int 0, .int 0])), (q1, .inl (t.1, 48, .inl (fun _ => 0))), (q2, .inl (t.1, 6, .inl (fun _ => 0)))]) rfl ?_
  refine kj_aload (pc := 30) (i := 0) dX2_init_30 rfl ?_
  refine kj_iconst (pc := 31) dX2_init_31 (v := 0) (by decide) ?_
  refine kj_put (pc := 32) (q0 := 0) (k := 4) (v := .int 0) rfl (ws_m 165 (by decide +kernel) rfl) f_X2_25 rfl rfl rfl (Nat.le_of_ble_eq_true rfl) dX2_init_32 ?_
  refine KJ.ws (ws2 := [(h0, .inr (2, [.ref q1, .ref q2, .int 0, .int 0, .int 0, .int 0, .int 0])), (q1, .inl (t.1, 48, .inl (fun _ => 0))), (q2, .inl (t.1, 6, .inl (fun _ => 0)))]) rfl ?_
  refine kj_aload (pc := 35) (i := 0) dX2_init_35 rfl ?_
  refine kj_iconst (pc := 36) dX2_init_36 (v := 0) (by decide) ?_
  refine kj_put (pc := 37) (q0 := 0) (k := 5) (v := .int 0) rfl (ws_m 168 (by decide +kernel) rfl) f_X2_28 rfl rfl rfl (Nat.le_of_ble_eq_true rfl) dX2_init_37 ?_
  refine KJ.ws (ws2 := [(h0, .inr (2, [.ref q1, .ref q2, .int 0, .int 0, .int 0, .int 0, .int 0])), (q1, .inl (t.1, 48, .inl (fun _ => 0))), (q2, .inl (t.1, 6, .inl (fun _ => 0)))]) rfl ?_
  refine kj_aload (pc := 40) (i := 0) dX2_init_40 rfl ?_
  refine kj_iconst (pc := 41) dX2_init_41 (v := 0) (by decide) ?_
  refine kj_put (pc := 42) (q0 := 0) (k := 6) (v := .int 0) rfl (ws_m 170 (by decide +kernel) rfl) f_X2_31 rfl rfl rfl (Nat.le_of_ble_eq_true rfl) dX2_init_42 ?_
  refine KJ.ws (ws2 := [(h0, .inr (2, [.ref q1, .ref q2, .int 0, .int 0, .int 0, .int 0, .int 0])), (q1, .inl (t.1, 48, .inl (fun _ => 0))), (q2, .inl (t.1, 6, .inl (fun _ => 0)))]) rfl ?_
  exact kj_ret (pc := 45) (fun U hP hD => ⟨_, ⟨q1, q2, rfl⟩, hP, hD⟩) dX2_init_45
def wd_X3 (t : Tc) (h0 : Nat) (w : va_W) : Prop := ∃ q1 q2 q3 q4 q5 q6 q7 q8 q9 q10 : Nat, w = [(h0, .inr (3, [.ref q1, .ref q2, .ref q3, .ref q4, .ref q5, .ref q6, .ref q7, .ref q8, .ref q9, .ref q10, .int 0, .int 0, .int 0, .int 0, .int 0])), (q1, .inl (t.1, 150, .inl (fun _ => 0))), (q2, .inl (t.1, 150, .inl (fun _ => 0))), (q3, .inl (t.1, 150, .inl (fun _ => 0))), (q4, .inl (t.2.1, 150, .inl (fun _ => 0))), (q5, .inl (t.1, 1200, .inl (fun _ => 0))), (q6, .inl (t.1, 150, .inl (fun _ => 0))), (q7, .inl (t.1, 1200, .inl (fun _ => 0))), (q8, .inl (t.1, 256, .inl (fun _ => 0))), (q9, .inl (t.1, 150, .inl (fun _ => 0))), (q10, .inl (t.1, 150, .inl (fun _ => 0)))]
theorem kc_X3 (D : va_G) (t : Tc) (h0 : Nat) : KC { frames := 1, cells := 10, slots := 3706, locals := 12 } yX3_init cX3_init 1 10 3706 h0 D t [(h0, .inr (3, [.null, .null, .null, .null, .null, .null, .null, .null, .null, .null, .int 0, .int 0, .int 0, .int 0, .int 0]))] (wd_X3 t h0) := by
  refine KC.intro (by decide +kernel) rfl (by decide) (fun A => ?_)
  refine kj_aload (pc := 0) (i := 0) dX3_init_0 rfl ?_
  refine kj_obj (pc := 1) (ws_m 192 (by decide +kernel) rfl) ko_i ko_c (Nat.le_of_ble_eq_true rfl) (Nat.le_of_ble_eq_true rfl) dX3_init_1 ?_
  refine kj_aload (pc := 4) (i := 0) dX3_init_4 rfl ?_
  refine kj_sipush (pc := 5) dX3_init_5 (v := 150) (by decide) ?_
  refine kj_newaI (pc := 8) ko_I (N' := 150) (by decide) (by decide +kernel) (Nat.le_of_ble_eq_true rfl) (Nat.le_of_ble_eq_true rfl) (Nat.le_of_ble_eq_true rfl) dX3_init_8 (fun q1 => ?_)
  refine kj_putF (pc := 10) (q0 := 0) (k := 0) (v := .ref q1) rfl (ws_m 193 (by decide +kernel) rfl) f_X3_9 rfl rfl rfl (Nat.le_of_ble_eq_true rfl) dX3_init_10 ?_
  refine KJ.ws (ws2 := [(h0, .inr (3, [.ref q1, .null, .null, .null, .null, .null, .null, .null, .null, .null, .int 0, .int 0, .int 0, .int 0, .int 0])), (q1, .inl (t.1, 150, .inl (fun _ => 0)))]) rfl ?_
  refine kj_aload (pc := 13) (i := 0) dX3_init_13 rfl ?_
  refine kj_sipush (pc := 14) dX3_init_14 (v := 150) (by decide) ?_
  refine kj_newaI (pc := 17) ko_I (N' := 150) (by decide) (by decide +kernel) (Nat.le_of_ble_eq_true rfl) (Nat.le_of_ble_eq_true rfl) (Nat.le_of_ble_eq_true rfl) dX3_init_17 (fun q2 => ?_)
  refine kj_putF (pc := 19) (q0 := 0) (k := 1) (v := .ref q2) rfl (ws_m 194 (by decide +kernel) rfl) f_X3_15 rfl rfl rfl (Nat.le_of_ble_eq_true rfl) dX3_init_19 ?_
  refine KJ.ws (ws2 := [(h0, .inr (3, [.ref q1, .ref q2, .null, .null, .null, .null, .null, .null, .null, .null, .int 0, .int 0, .int 0, .int 0, .int 0])), (q1, .inl (t.1, 150, .inl (fun _ => 0))), (q2, .inl (t.1, 150, .inl (fun _ => 0)))]) rfl ?_
  refine kj_aload (pc := 22) (i := 0) dX3_init_22 rfl ?_
  refine kj_sipush (pc := 23) dX3_init_23 (v := 150) (by decide) ?_
  refine kj_newaI (pc := 26) ko_I (N' := 150) (by decide) (by decide +kernel) (Nat.le_of_ble_eq_true rfl) (Nat.le_of_ble_eq_true rfl) (Nat.le_of_ble_eq_true rfl) dX3_init_26 (fun q3 => ?_)
  refine kj_putF (pc := 28) (q0 := 0) (k := 2) (v := .ref q3) rfl (ws_m 195 (by decide +kernel) rfl) f_X3_18 rfl rfl rfl (Nat.le_of_ble_eq_true rfl) dX3_init_28 ?_
  refine KJ.ws (ws2 := [(h0, .inr (3, [.ref q1, .ref q2, .ref q3, .null, .null, .null, .null, .null, .null, .null, .int 0, .int 0, .int 0, .int 0, .int 0])), (q1, .inl (t.1, 150, .inl (fun _ => 0))), (q2, .inl (t.1, 150, .inl (fun _ => 0))), (q3, .inl (t.1, 150, .inl (fun _ => 0)))]) rfl ?_
  refine kj_aload (pc := 31) (i := 0) dX3_init_31 rfl ?_
  refine kj_sipush (pc := 32) dX3_init_32 (v := 150) (by decide) ?_
  refine kj_newaZ (pc := 35) ko_Z (N' := 150) (by decide) (by decide +kernel) (Nat.le_of_ble_eq_true rfl) (Nat.le_of_ble_eq_true rfl) (Nat.le_of_ble_eq_true rfl) dX3_init_35 (fun q4 => ?_)
  refine kj_putF (pc := 37) (q0 := 0) (k := 3) (v := .ref q4) rfl (ws_m 196 (by decide +kernel) rfl) f_X3_21 rfl rfl rfl (Nat.le_of_ble_eq_true rfl) dX3_init_37 ?_
  refine KJ.ws (ws2 := [(h0, .inr (3, [.ref q1, .ref q2, .ref q3, .ref q4, .null, .null, .null, .null, .null, .null, .int 0, .int 0, .int 0, .int 0, .int 0])), (q1, .inl (t.1, 150, .inl (fun _ => 0))), (q2, .inl (t.1, 150, .inl (fun _ => 0))), (q3, .inl (t.1, 150, .inl (fun _ => 0))), (q4, .inl (t.2.1, 150, .inl (fun _ => 0)))]) rfl ?_
  refine kj_aload (pc := 40) (i := 0) dX3_init_40 rfl ?_
  refine kj_sipush (pc := 41) dX3_init_41 (v := 1200) (by decide) ?_
  refine kj_newaI (pc := 44) ko_I (N' := 1200) (by decide) (by decide +kernel) (Nat.le_of_ble_eq_true rfl) (Nat.le_of_ble_eq_true rfl) (Nat.le_of_ble_eq_true rfl) dX3_init_44 (fun q5 => ?_)
  refine kj_putF (pc := 46) (q0 := 0) (k := 4) (v := .ref q5) rfl (ws_m 197 (by decide +kernel) rfl) f_X3_25 rfl rfl rfl (Nat.le_of_ble_eq_true rfl) dX3_init_46 ?_
  refine KJ.ws (ws2 := [(h0, .inr (3, [.ref q1, .ref q2, .ref q3, .ref q4, .ref q5, .null, .null, .null, .null, .null, .int 0, .int 0, .int 0, .int 0, .int 0])), (q1, .inl (t.1, 150, .inl (fun _ => 0))), (q2, .inl (t.1, 150, .inl (fun _ => 0))), (q3, .inl (t.1, 150, .inl (fun _ => 0))), (q4, .inl (t.2.1, 150, .inl (fun _ => 0))), (q5, .inl (t.1, 1200, .inl (fun _ => 0)))]) rfl ?_
  refine kj_aload (pc := 49) (i := 0) dX3_init_49 rfl ?_
  refine kj_sipush (pc := 50) dX3_init_50 (v := 150) (by decide) ?_
  refine kj_newaI (pc := 53) ko_I (N' := 150) (by decide) (by decide +kernel) (Nat.le_of_ble_eq_true rfl) (Nat.le_of_ble_eq_true rfl) (Nat.le_of_ble_eq_true rfl) dX3_init_53 (fun q6 => ?_)
  refine kj_putF (pc := 55) (q0 := 0) (k := 5) (v := .ref q6) rfl (ws_m 198 (by decide +kernel) rfl) f_X3_28 rfl rfl rfl (Nat.le_of_ble_eq_true rfl) dX3_init_55 ?_
  refine KJ.ws (ws2 := [(h0, .inr (3, [.ref q1, .ref q2, .ref q3, .ref q4, .ref q5, .ref q6, .null, .null, .null, .null, .int 0, .int 0, .int 0, .int 0, .int 0])), (q1, .inl (t.1, 150, .inl (fun _ => 0))), (q2, .inl (t.1, 150, .inl (fun _ => 0))), (q3, .inl (t.1, 150, .inl (fun _ => 0))), (q4, .inl (t.2.1, 150, .inl (fun _ => 0))), (q5, .inl (t.1, 1200, .inl (fun _ => 0))), (q6, .inl (t.1, 150, .inl (fun _ => 0)))]) rfl ?_
  refine kj_aload (pc := 58) (i := 0) dX3_init_58 rfl ?_
  refine kj_sipush (pc := 59) dX3_init_59 (v := 1200) (by decide) ?_
  refine kj_newaI (pc := 62) ko_I (N' := 1200) (by decide) (by decide +kernel) (Nat.le_of_ble_eq_true rfl) (Nat.le_of_ble_eq_true rfl) (Nat.le_of_ble_eq_true rfl) dX3_init_62 (fun q7 => ?_)
  refine kj_putF (pc := 64) (q0 := 0) (k := 6) (v := .ref q7) rfl (ws_m 199 (by decide +kernel) rfl) f_X3_31 rfl rfl rfl (Nat.le_of_ble_eq_true rfl) dX3_init_64 ?_
  refine KJ.ws (ws2 := [(h0, .inr (3, [.ref q1, .ref q2, .ref q3, .ref q4, .ref q5, .ref q6, .ref q7, .null, .null, .null, .int 0, .int 0, .int 0, .int 0, .int 0])), (q1, .inl (t.1, 150, .inl (fun _ => 0))), (q2, .inl (t.1, 150, .inl (fun _ => 0))), (q3, .inl (t.1, 150, .inl (fun _ => 0))), (q4, .inl (t.2.1, 150, .inl (fun _ => 0))), (q5, .inl (t.1, 1200, .inl (fun _ => 0))), (q6, .inl (t.1, 150, .inl (fun _ => 0))), (q7, .inl (t.1, 1200, .inl (fun _ => 0)))]) rfl ?_
  refine kj_aload (pc := 67) (i := 0) dX3_init_67 rfl ?_
  refine kj_sipush (pc := 68) dX3_init_68 (v := 256) (by decide) ?_
  refine kj_newaI (pc := 71) ko_I (N' := 256) (by decide) (by decide +kernel) (Nat.le_of_ble_eq_true rfl) (Nat.le_of_ble_eq_true rfl) (Nat.le_of_ble_eq_true rfl) dX3_init_71 (fun q8 => ?_)
  refine kj_putF (pc := 73) (q0 := 0) (k := 7) (v := .ref q8) rfl (ws_m 200 (by decide +kernel) rfl) f_X3_34 rfl rfl rfl (Nat.le_of_ble_eq_true rfl) dX3_init_73 ?_
  refine KJ.ws (ws2 := [(h0, .inr (3, [.ref q1, .ref q2, .ref q3, .ref q4, .ref q5, .ref q6, .ref q7, .ref q8, .null, .null, .int 0, .int 0, .int 0, .int 0, .int 0])), (q1, .inl (t.1, 150, .inl (fun _ => 0))), (q2, .inl (t.1, 150, .inl (fun _ => 0))), (q3, .inl (t.1, 150, .inl (fun _ => 0))), (q4, .inl (t.2.1, 150, .inl (fun _ => 0))), (q5, .inl (t.1, 1200, .inl (fun _ => 0))), (q6, .inl (t.1, 150, .inl (fun _ => 0))), (q7, .inl (t.1, 1200, .inl (fun _ => 0))), (q8, .inl (t.1, 256, .inl (fun _ => 0)))]) rfl ?_
  refine kj_aload (pc := 76) (i := 0) dX3_init_76 rfl ?_
  refine kj_sipush (pc := 77) dX3_init_77 (v := 150) (by decide) ?_
  refine kj_newaI (pc := 80) ko_I (N' := 150) (by decide) (by decide +kernel) (Nat.le_of_ble_eq_true rfl) (Nat.le_of_ble_eq_true rfl) (Nat.le_of_ble_eq_true rfl) dX3_init_80 (fun q9 => ?_)
  refine kj_putF (pc := 82) (q0 := 0) (k := 8) (v := .ref q9) rfl (ws_m 201 (by decide +kernel) rfl) f_X3_37 rfl rfl rfl (Nat.le_of_ble_eq_true rfl) dX3_init_82 ?_
  refine KJ.ws (ws2 := [(h0, .inr (3, [.ref q1, .ref q2, .ref q3, .ref q4, .ref q5, .ref q6, .ref q7, .ref q8, .ref q9, .null, .int 0, .int 0, .int 0, .int 0, .int 0])), (q1, .inl (t.1, 150, .inl (fun _ => 0))), (q2, .inl (t.1, 150, .inl (fun _ => 0))), (q3, .inl (t.1, 150, .inl (fun _ => 0))), (q4, .inl (t.2.1, 150, .inl (fun _ => 0))), (q5, .inl (t.1, 1200, .inl (fun _ => 0))), (q6, .inl (t.1, 150, .inl (fun _ => 0))), (q7, .inl (t.1, 1200, .inl (fun _ => 0))), (q8, .inl (t.1, 256, .inl (fun _ => 0))), (q9, .inl (t.1, 150, .inl (fun _ => 0)))]) rfl ?_
  refine kj_aload (pc := 85) (i := 0) dX3_init_85 rfl ?_
  refine kj_sipush (pc := 86) dX3_init_86 (v := 150) (by decide) ?_
  refine kj_newaI (pc := 89) ko_I (N' := 150) (by decide) (by decide +kernel) (Nat.le_of_ble_eq_true rfl) (Nat.le_of_ble_eq_true rfl) (Nat.le_of_ble_eq_true rfl) dX3_init_89 (fun q10 => ?_)
  refine kj_putF (pc := 91) (q0 := 0) (k := 9) (v := .ref q10) rfl (ws_m 202 (by decide +kernel) rfl) f_X3_40 rfl rfl rfl (Nat.le_of_ble_eq_true rfl) dX3_init_91 ?_
  refine KJ.ws (ws2 := [(h0, .inr (3, [.ref q1, .ref q2, .ref q3, .ref q4, .ref q5, .ref q6, .ref q7, .ref q8, .ref q9, .ref q10, .int 0, .int 0, .int 0, .int 0, .int 0])), (q1, .inl (t.1, 150, .inl (fun _ => 0))), (q2, .inl (t.1, 150, .inl (fun _ => 0))), (q3, .inl (t.1, 150, .inl (fun _ => 0))), (q4, .inl (t.2.1, 150, .inl (fun _ => 0))), (q5, .inl (t.1, 1200, .inl (fun _ => 0))), (q6, .inl (t.1, 150, .inl (fun _ => 0))), (q7, .inl (t.1, 1200, .inl (fun _ => 0))), (q8, .inl (t.1, 256, .inl (fun _ => 0))), (q9, .inl (t.1, 150, .inl (fun _ => 0))), (q10, .inl (t.1, 150, .inl (fun _ => 0)))]) rfl ?_
  refine kj_aload (pc := 94) (i := 0) dX3_init_94 rfl ?_
  refine kj_iconst (pc := 95) dX3_init_95 (v := 0) (by decide) ?_
  refine kj_put (pc := 96) (q0 := 0) (k := 10) (v := .int 0) rfl (ws_m 203 (by decide +kernel) rfl) f_X3_43 rfl rfl rfl (Nat.le_of_ble_eq_true rfl) dX3_init_96 ?_
  refine KJ.ws (ws2 := [(h0, .inr (3, [.ref q1, .ref q2, .ref q3, .ref q4, .ref q5, .ref q6, .ref q7, .ref q8, .ref q9, .ref q10, .int 0, .int 0, .int 0, .int 0, .int 0])), (q1, .inl (t.1, 150, .inl (fun _ => 0))), (q2, .inl (t.1, 150, .inl (fun _ => 0))), (q3, .inl (t.1, 150, .inl (fun _ => 0))), (q4, .inl (t.2.1, 150, .inl (fun _ => 0))), (q5, .inl (t.1, 1200, .inl (fun _ => 0))), (q6, .inl (t.1, 150, .inl (fun _ => 0))), (q7, .inl (t.1, 1200, .inl (fun _ => 0))), (q8, .inl (t.1, 256, .inl (fun _ => 0))), (q9, .inl (t.1, 150, .inl (fun _ => 0))), (q10, .inl (t.1, 150, .inl (fun _ => 0)))]) rfl ?_
  refine kj_aload (pc := 99) (i := 0) dX3_init_99 rfl ?_
  refine kj_iconst (pc := 100) dX3_init_100 (v := 0) (by decide) ?_
  refine kj_put (pc := 101) (q0 := 0) (k := 11) (v := .int 0) rfl (ws_m 204 (by decide +kernel) rfl) f_X3_47 rfl rfl rfl (Nat.le_of_ble_eq_true rfl) dX3_init_101 ?_
  refine KJ.ws (ws2 := [(h0, .inr (3, [.ref q1, .ref q2, .ref q3, .ref q4, .ref q5, .ref q6, .ref q7, .ref q8, .ref q9, .ref q10, .int 0, .int 0, .int 0, .int 0, .int 0])), (q1, .inl (t.1, 150, .inl (fun _ => 0))), (q2, .inl (t.1, 150, .inl (fun _ => 0))), (q3, .inl (t.1, 150, .inl (fun _ => 0))), (q4, .inl (t.2.1, 150, .inl (fun _ => 0))), (q5, .inl (t.1, 1200, .inl (fun _ => 0))), (q6, .inl (t.1, 150, .inl (fun _ => 0))), (q7, .inl (t.1, 1200, .inl (fun _ => 0))), (q8, .inl (t.1, 256, .inl (fun _ => 0))), (q9, .inl (t.1, 150, .inl (fun _ => 0))), (q10, .inl (t.1, 150, .inl (fun _ => 0)))]) rfl ?_
  refine kj_aload (pc := 104) (i := 0) dX3_init_104 rfl ?_
  refine kj_iconst (pc := 105) dX3_init_105 (v := 0) (by decide) ?_
  refine kj_put (pc := 106) (q0 := 0) (k := 12) (v := .int 0) rfl (ws_m 205 (by decide +kernel) rfl) f_X3_50 rfl rfl rfl (Nat.le_of_ble_eq_true rfl) dX3_init_106 ?_
  refine KJ.ws (ws2 := [(h0, .inr (3, [.ref q1, .ref q2, .ref q3, .ref q4, .ref q5, .ref q6, .ref q7, .ref q8, .ref q9, .ref q10, .int 0, .int 0, .int 0, .int 0, .int 0])), (q1, .inl (t.1, 150, .inl (fun _ => 0))), (q2, .inl (t.1, 150, .inl (fun _ => 0))), (q3, .inl (t.1, 150, .inl (fun _ => 0))), (q4, .inl (t.2.1, 150, .inl (fun _ => 0))), (q5, .inl (t.1, 1200, .inl (fun _ => 0))), (q6, .inl (t.1, 150, .inl (fun _ => 0))), (q7, .inl (t.1, 1200, .inl (fun _ => 0))), (q8, .inl (t.1, 256, .inl (fun _ => 0))), (q9, .inl (t.1, 150, .inl (fun _ => 0))), (q10, .inl (t.1, 150, .inl (fun _ => 0)))]) rfl ?_
  refine kj_aload (pc := 109) (i := 0) dX3_init_109 rfl ?_
  refine kj_iconst (pc := 110) dX3_init_110 (v := 0) (by decide) ?_
  refine kj_put (pc := 111) (q0 := 0) (k := 13) (v := .int 0) rfl (ws_m 206 (by decide +kernel) rfl) f_X3_53 rfl rfl rfl (Nat.le_of_ble_eq_true rfl) dX3_init_111 ?_
  refine KJ.ws (ws2 := [(h0, .inr (3, [.ref q1, .ref q2, .ref q3, .ref q4, .ref q5, .ref q6, .ref q7, .ref q8, .ref q9, .ref q10, .int 0, .int 0, .int 0, .int 0, .int 0])), (q1, .inl (t.1, 150, .inl (fun _ => 0))), (q2, .inl (t.1, 150, .inl (fun _ => 0))), (q3, .inl (t.1, 150, .inl (fun _ => 0))), (q4, .inl (t.2.1, 150, .inl (fun _ => 0))), (q5, .inl (t.1, 1200, .inl (fun _ => 0))), (q6, .inl (t.1, 150, .inl (fun _ => 0))), (q7, .inl (t.1, 1200, .inl (fun _ => 0))), (q8, .inl (t.1, 256, .inl (fun _ => 0))), (q9, .inl (t.1, 150, .inl (fun _ => 0))), (q10, .inl (t.1, 150, .inl (fun _ => 0)))]) rfl ?_
  refine kj_aload (pc := 114) (i := 0) dX3_init_114 rfl ?_
  refine kj_iconst (pc := 115) dX3_init_115 (v := 0) (by decide) ?_
  refine kj_put (pc := 116) (q0 := 0) (k := 14) (v := .int 0) rfl (ws_m 209 (by decide +kernel) rfl) f_X3_56 rfl rfl rfl (Nat.le_of_ble_eq_true rfl) dX3_init_116 ?_
  refine KJ.ws (ws2 := [(h0, .inr (3, [.ref q1, .ref q2, .ref q3, .ref q4, .ref q5, .ref q6, .ref q7, .ref q8, .ref q9, .ref q10, .int 0, .int 0, .int 0, .int 0, .int 0])), (q1, .inl (t.1, 150, .inl (fun _ => 0))), (q2, .inl (t.1, 150, .inl (fun _ => 0))), (q3, .inl (t.1, 150, .inl (fun _ => 0))), (q4, .inl (t.2.1, 150, .inl (fun _ => 0))), (q5, .inl (t.1, 1200, .inl (fun _ => 0))), (q6, .inl (t.1, 150, .inl (fun _ => 0))), (q7, .inl (t.1, 1200, .inl (fun _ => 0))), (q8, .inl (t.1, 256, .inl (fun _ => 0))), (q9, .inl (t.1, 150, .inl (fun _ => 0))), (q10, .inl (t.1, 150, .inl (fun _ => 0)))]) rfl ?_
  exact kj_ret (pc := 119) (fun U hP hD => ⟨_, ⟨q1, q2, q3, q4, q5, q6, q7, q8, q9, q10, rfl⟩, hP, hD⟩) dX3_init_119
def wd_X1 (t : Tc) (h0 : Nat) (w : va_W) : Prop := ∃ q1 q2 q3 q4 q5 : Nat, w = [(h0, .inr (1, [.ref q1, .ref q2, .ref q3, .ref q4, .ref q5, .int 0, .int 0])), (q1, .inl (t.1, 150, .inl (fun _ => 0))), (q2, .inl (t.1, 150, .inl (fun _ => 0))), (q3, .inl (t.1, 150, .inl (fun _ => 0))), (q4, .inl (t.1, 150, .inl (fun _ => 0))), (q5, .inl (t.1, 151, .inl (fun _ => 0)))]
theorem kc_X1 (D : va_G) (t : Tc) (h0 : Nat) : KC { frames := 1, cells := 5, slots := 751, locals := 12 } yX1_init cX1_init 1 5 751 h0 D t [(h0, .inr (1, [.null, .null, .null, .null, .null, .int 0, .int 0]))] (wd_X1 t h0) := by
  refine KC.intro (by decide +kernel) rfl (by decide) (fun A => ?_)
  refine kj_aload (pc := 0) (i := 0) dX1_init_0 rfl ?_
  refine kj_obj (pc := 1) (ws_m 252 (by decide +kernel) rfl) ko_i ko_c (Nat.le_of_ble_eq_true rfl) (Nat.le_of_ble_eq_true rfl) dX1_init_1 ?_
  refine kj_aload (pc := 4) (i := 0) dX1_init_4 rfl ?_
  refine kj_sipush (pc := 5) dX1_init_5 (v := 150) (by decide) ?_
  refine kj_newaI (pc := 8) ko_I (N' := 150) (by decide) (by decide +kernel) (Nat.le_of_ble_eq_true rfl) (Nat.le_of_ble_eq_true rfl) (Nat.le_of_ble_eq_true rfl) dX1_init_8 (fun q1 => ?_)
  refine kj_putF (pc := 10) (q0 := 0) (k := 0) (v := .ref q1) rfl (ws_m 253 (by decide +kernel) rfl) f_X1_9 rfl rfl rfl (Nat.le_of_ble_eq_true rfl) dX1_init_10 ?_
  refine KJ.ws (ws2 := [(h0, .inr (1, [.ref q1, .null, .null, .null, .null, .int 0, .int 0])), (q1, .inl (t.1, 150, .inl (fun _ => 0)))]) rfl ?_
  refine kj_aload (pc := 13) (i := 0) dX1_init_13 rfl ?_
  refine kj_sipush (pc := 14) dX1_init_14 (v := 150) (by decide) ?_
  refine kj_newaI (pc := 17) ko_I (N' := 150) (by decide) (by decide +kernel) (Nat.le_of_ble_eq_true rfl) (Nat.le_of_ble_eq_true rfl) (Nat.le_of_ble_eq_true rfl) dX1_init_17 (fun q2 => ?_)
  refine kj_putF (pc := 19) (q0 := 0) (k := 1) (v := .ref q2) rfl (ws_m 254 (by decide +kernel) rfl) f_X1_15 rfl rfl rfl (Nat.le_of_ble_eq_true rfl) dX1_init_19 ?_
  refine KJ.ws (ws2 := [(h0, .inr (1, [.ref q1, .ref q2, .null, .null, .null, .int 0, .int 0])), (q1, .inl (t.1, 150, .inl (fun _ => 0))), (q2, .inl (t.1, 150, .inl (fun _ => 0)))]) rfl ?_
  refine kj_aload (pc := 22) (i := 0) dX1_init_22 rfl ?_
  refine kj_sipush (pc := 23) dX1_init_23 (v := 150) (by decide) ?_
  refine kj_newaI (pc := 26) ko_I (N' := 150) (by decide) (by decide +kernel) (Nat.le_of_ble_eq_true rfl) (Nat.le_of_ble_eq_true rfl) (Nat.le_of_ble_eq_true rfl) dX1_init_26 (fun q3 => ?_)
  refine kj_putF (pc := 28) (q0 := 0) (k := 2) (v := .ref q3) rfl (ws_m 255 (by decide +kernel) rfl) f_X1_18 rfl rfl rfl (Nat.le_of_ble_eq_true rfl) dX1_init_28 ?_
  refine KJ.ws (ws2 := [(h0, .inr (1, [.ref q1, .ref q2, .ref q3, .null, .null, .int 0, .int 0])), (q1, .inl (t.1, 150, .inl (fun _ => 0))), (q2, .inl (t.1, 150, .inl (fun _ => 0))), (q3, .inl (t.1, 150, .inl (fun _ => 0)))]) rfl ?_
  refine kj_aload (pc := 31) (i := 0) dX1_init_31 rfl ?_
  refine kj_sipush (pc := 32) dX1_init_32 (v := 150) (by decide) ?_
  refine kj_newaI (pc := 35) ko_I (N' := 150) (by decide) (by decide +kernel) (Nat.le_of_ble_eq_true rfl) (Nat.le_of_ble_eq_true rfl) (Nat.le_of_ble_eq_true rfl) dX1_init_35 (fun q4 => ?_)
  refine kj_putF (pc := 37) (q0 := 0) (k := 3) (v := .ref q4) rfl (ws_m 256 (by decide +kernel) rfl) f_X1_21 rfl rfl rfl (Nat.le_of_ble_eq_true rfl) dX1_init_37 ?_
  refine KJ.ws (ws2 := [(h0, .inr (1, [.ref q1, .ref q2, .ref q3, .ref q4, .null, .int 0, .int 0])), (q1, .inl (t.1, 150, .inl (fun _ => 0))), (q2, .inl (t.1, 150, .inl (fun _ => 0))), (q3, .inl (t.1, 150, .inl (fun _ => 0))), (q4, .inl (t.1, 150, .inl (fun _ => 0)))]) rfl ?_
  refine kj_aload (pc := 40) (i := 0) dX1_init_40 rfl ?_
  refine kj_sipush (pc := 41) dX1_init_41 (v := 151) (by decide) ?_
  refine kj_newaI (pc := 44) ko_I (N' := 151) (by decide) (by decide +kernel) (Nat.le_of_ble_eq_true rfl) (Nat.le_of_ble_eq_true rfl) (Nat.le_of_ble_eq_true rfl) dX1_init_44 (fun q5 => ?_)
  refine kj_putF (pc := 46) (q0 := 0) (k := 4) (v := .ref q5) rfl (ws_m 257 (by decide +kernel) rfl) f_X1_24 rfl rfl rfl (Nat.le_of_ble_eq_true rfl) dX1_init_46 ?_
  refine KJ.ws (ws2 := [(h0, .inr (1, [.ref q1, .ref q2, .ref q3, .ref q4, .ref q5, .int 0, .int 0])), (q1, .inl (t.1, 150, .inl (fun _ => 0))), (q2, .inl (t.1, 150, .inl (fun _ => 0))), (q3, .inl (t.1, 150, .inl (fun _ => 0))), (q4, .inl (t.1, 150, .inl (fun _ => 0))), (q5, .inl (t.1, 151, .inl (fun _ => 0)))]) rfl ?_
  refine kj_aload (pc := 49) (i := 0) dX1_init_49 rfl ?_
  refine kj_iconst (pc := 50) dX1_init_50 (v := 0) (by decide) ?_
  refine kj_put (pc := 51) (q0 := 0) (k := 5) (v := .int 0) rfl (ws_m 258 (by decide +kernel) rfl) f_X1_27 rfl rfl rfl (Nat.le_of_ble_eq_true rfl) dX1_init_51 ?_
  refine KJ.ws (ws2 := [(h0, .inr (1, [.ref q1, .ref q2, .ref q3, .ref q4, .ref q5, .int 0, .int 0])), (q1, .inl (t.1, 150, .inl (fun _ => 0))), (q2, .inl (t.1, 150, .inl (fun _ => 0))), (q3, .inl (t.1, 150, .inl (fun _ => 0))), (q4, .inl (t.1, 150, .inl (fun _ => 0))), (q5, .inl (t.1, 151, .inl (fun _ => 0)))]) rfl ?_
  refine kj_aload (pc := 54) (i := 0) dX1_init_54 rfl ?_
  refine kj_iconst (pc := 55) dX1_init_55 (v := 0) (by decide) ?_
  refine kj_put (pc := 56) (q0 := 0) (k := 6) (v := .int 0) rfl (ws_m 260 (by decide +kernel) rfl) f_X1_31 rfl rfl rfl (Nat.le_of_ble_eq_true rfl) dX1_init_56 ?_
  refine KJ.ws (ws2 := [(h0, .inr (1, [.ref q1, .ref q2, .ref q3, .ref q4, .ref q5, .int 0, .int 0])), (q1, .inl (t.1, 150, .inl (fun _ => 0))), (q2, .inl (t.1, 150, .inl (fun _ => 0))), (q3, .inl (t.1, 150, .inl (fun _ => 0))), (q4, .inl (t.1, 150, .inl (fun _ => 0))), (q5, .inl (t.1, 151, .inl (fun _ => 0)))]) rfl ?_
  exact kj_ret (pc := 59) (fun U hP hD => ⟨_, ⟨q1, q2, q3, q4, q5, rfl⟩, hP, hD⟩) dX1_init_59
def wd_X0 (t : Tc) (h0 : Nat) (w : va_W) : Prop := ∃ q1 q2 q3 q4 : Nat, w = [(h0, .inr (0, [.ref q1, .ref q2, .ref q3, .ref q4, .int 0, .int 0])), (q1, .inl (t.1, 150, .inl (fun _ => 0))), (q2, .inl (t.1, 150, .inl (fun _ => 0))), (q3, .inl (t.1, 150, .inl (fun _ => 0))), (q4, .inl (t.1, 150, .inl (fun _ => 0)))]
theorem kc_X0 (D : va_G) (t : Tc) (h0 : Nat) : KC { frames := 1, cells := 4, slots := 600, locals := 12 } yX0_init cX0_init 1 4 600 h0 D t [(h0, .inr (0, [.null, .null, .null, .null, .int 0, .int 0]))] (wd_X0 t h0) := by
  refine KC.intro (by decide +kernel) rfl (by decide) (fun A => ?_)
  refine kj_aload (pc := 0) (i := 0) dX0_init_0 rfl ?_
  refine kj_obj (pc := 1) (ws_m 282 (by decide +kernel) rfl) ko_i ko_c (Nat.le_of_ble_eq_true rfl) (Nat.le_of_ble_eq_true rfl) dX0_init_1 ?_
  refine kj_aload (pc := 4) (i := 0) dX0_init_4 rfl ?_
  refine kj_sipush (pc := 5) dX0_init_5 (v := 150) (by decide) ?_
  refine kj_newaI (pc := 8) ko_I (N' := 150) (by decide) (by decide +kernel) (Nat.le_of_ble_eq_true rfl) (Nat.le_of_ble_eq_true rfl) (Nat.le_of_ble_eq_true rfl) dX0_init_8 (fun q1 => ?_)
  refine kj_putF (pc := 10) (q0 := 0) (k := 0) (v := .ref q1) rfl (ws_m 283 (by decide +kernel) rfl) f_X0_9 rfl rfl rfl (Nat.le_of_ble_eq_true rfl) dX0_init_10 ?_
  refine KJ.ws (ws2 := [(h0, .inr (0, [.ref q1, .null, .null, .null, .int 0, .int 0])), (q1, .inl (t.1, 150, .inl (fun _ => 0)))]) rfl ?_
  refine kj_aload (pc := 13) (i := 0) dX0_init_13 rfl ?_
  refine kj_sipush (pc := 14) dX0_init_14 (v := 150) (by decide) ?_
  refine kj_newaI (pc := 17) ko_I (N' := 150) (by decide) (by decide +kernel) (Nat.le_of_ble_eq_true rfl) (Nat.le_of_ble_eq_true rfl) (Nat.le_of_ble_eq_true rfl) dX0_init_17 (fun q2 => ?_)
  refine kj_putF (pc := 19) (q0 := 0) (k := 1) (v := .ref q2) rfl (ws_m 284 (by decide +kernel) rfl) f_X0_15 rfl rfl rfl (Nat.le_of_ble_eq_true rfl) dX0_init_19 ?_
  refine KJ.ws (ws2 := [(h0, .inr (0, [.ref q1, .ref q2, .null, .null, .int 0, .int 0])), (q1, .inl (t.1, 150, .inl (fun _ => 0))), (q2, .inl (t.1, 150, .inl (fun _ => 0)))]) rfl ?_
  refine kj_aload (pc := 22) (i := 0) dX0_init_22 rfl ?_
  refine kj_sipush (pc := 23) dX0_init_23 (v := 150) (by decide) ?_
  refine kj_newaI (pc := 26) ko_I (N' := 150) (by decide) (by decide +kernel) (Nat.le_of_ble_eq_true rfl) (Nat.le_of_ble_eq_true rfl) (Nat.le_of_ble_eq_true rfl) dX0_init_26 (fun q3 => ?_)
  refine kj_putF (pc := 28) (q0 := 0) (k := 2) (v := .ref q3) rfl (ws_m 285 (by decide +kernel) rfl) f_X0_18 rfl rfl rfl (Nat.le_of_ble_eq_true rfl) dX0_init_28 ?_
  refine KJ.ws (ws2 := [(h0, .inr (0, [.ref q1, .ref q2, .ref q3, .null, .int 0, .int 0])), (q1, .inl (t.1, 150, .inl (fun _ => 0))), (q2, .inl (t.1, 150, .inl (fun _ => 0))), (q3, .inl (t.1, 150, .inl (fun _ => 0)))]) rfl ?_
  refine kj_aload (pc := 31) (i := 0) dX0_init_31 rfl ?_
  refine kj_sipush (pc := 32) dX0_init_32 (v := 150) (by decide) ?_
  refine kj_newaI (pc := 35) ko_I (N' := 150) (by decide) (by decide +kernel) (Nat.le_of_ble_eq_true rfl) (Nat.le_of_ble_eq_true rfl) (Nat.le_of_ble_eq_true rfl) dX0_init_35 (fun q4 => ?_)
  refine kj_putF (pc := 37) (q0 := 0) (k := 3) (v := .ref q4) rfl (ws_m 286 (by decide +kernel) rfl) f_X0_21 rfl rfl rfl (Nat.le_of_ble_eq_true rfl) dX0_init_37 ?_
  refine KJ.ws (ws2 := [(h0, .inr (0, [.ref q1, .ref q2, .ref q3, .ref q4, .int 0, .int 0])), (q1, .inl (t.1, 150, .inl (fun _ => 0))), (q2, .inl (t.1, 150, .inl (fun _ => 0))), (q3, .inl (t.1, 150, .inl (fun _ => 0))), (q4, .inl (t.1, 150, .inl (fun _ => 0)))]) rfl ?_
  refine kj_aload (pc := 40) (i := 0) dX0_init_40 rfl ?_
  refine kj_iconst (pc := 41) dX0_init_41 (v := 0) (by decide) ?_
  refine kj_put (pc := 42) (q0 := 0) (k := 4) (v := .int 0) rfl (ws_m 287 (by decide +kernel) rfl) f_X0_24 rfl rfl rfl (Nat.le_of_ble_eq_true rfl) dX0_init_42 ?_
  refine KJ.ws (ws2 := [(h0, .inr (0, [.ref q1, .ref q2, .ref q3, .ref q4, .int 0, .int 0])), (q1, .inl (t.1, 150, .inl (fun _ => 0))), (q2, .inl (t.1, 150, .inl (fun _ => 0))), (q3, .inl (t.1, 150, .inl (fun _ => 0))), (q4, .inl (t.1, 150, .inl (fun _ => 0)))]) rfl ?_
  refine kj_aload (pc := 45) (i := 0) dX0_init_45 rfl ?_
  refine kj_iconst (pc := 46) dX0_init_46 (v := 0) (by decide) ?_
  refine kj_put (pc := 47) (q0 := 0) (k := 5) (v := .int 0) rfl (ws_m 289 (by decide +kernel) rfl) f_X0_28 rfl rfl rfl (Nat.le_of_ble_eq_true rfl) dX0_init_47 ?_
  refine KJ.ws (ws2 := [(h0, .inr (0, [.ref q1, .ref q2, .ref q3, .ref q4, .int 0, .int 0])), (q1, .inl (t.1, 150, .inl (fun _ => 0))), (q2, .inl (t.1, 150, .inl (fun _ => 0))), (q3, .inl (t.1, 150, .inl (fun _ => 0))), (q4, .inl (t.1, 150, .inl (fun _ => 0)))]) rfl ?_
  exact kj_ret (pc := 50) (fun U hP hD => ⟨_, ⟨q1, q2, q3, q4, rfl⟩, hP, hD⟩) dX0_init_50
def wd_X6 (t : Tc) (h0 : Nat) (w : va_W) : Prop := ∃ q1 : Nat, w = [(h0, .inr (6, [.ref q1, .int 0, .int 0, .int 0])), (q1, .inl (t.1, 16, .inl (fun _ => 0)))]
theorem kc_X6 (D : va_G) (t : Tc) (h0 : Nat) : KC { frames := 1, cells := 1, slots := 16, locals := 12 } yX6_init cX6_init 1 1 16 h0 D t [(h0, .inr (6, [.null, .int 0, .int 0, .int 0]))] (wd_X6 t h0) := by
  refine KC.intro (by decide +kernel) rfl (by decide) (fun A => ?_)
  refine kj_aload (pc := 0) (i := 0) dX6_init_0 rfl ?_
  refine kj_obj (pc := 1) (ws_m 309 (by decide +kernel) rfl) ko_i ko_c (Nat.le_of_ble_eq_true rfl) (Nat.le_of_ble_eq_true rfl) dX6_init_1 ?_
  refine kj_aload (pc := 4) (i := 0) dX6_init_4 rfl ?_
  refine kj_bipush (pc := 5) dX6_init_5 (v := 16) (by decide) ?_
  refine kj_newaI (pc := 7) ko_I (N' := 16) (by decide) (by decide +kernel) (Nat.le_of_ble_eq_true rfl) (Nat.le_of_ble_eq_true rfl) (Nat.le_of_ble_eq_true rfl) dX6_init_7 (fun q1 => ?_)
  refine kj_putF (pc := 9) (q0 := 0) (k := 0) (v := .ref q1) rfl (ws_m 310 (by decide +kernel) rfl) f_X6_9 rfl rfl rfl (Nat.le_of_ble_eq_true rfl) dX6_init_9 ?_
  refine KJ.ws (ws2 := [(h0, .inr (6, [.ref q1, .int 0, .int 0, .int 0])), (q1, .inl (t.1, 16, .inl (fun _ => 0)))]) rfl ?_
  refine kj_aload (pc := 12) (i := 0) dX6_init_12 rfl ?_
  refine kj_iconst (pc := 13) dX6_init_13 (v := 0) (by decide) ?_
  refine kj_put (pc := 14) (q0 := 0) (k := 1) (v := .int 0) rfl (ws_m 311 (by decide +kernel) rfl) f_X6_15 rfl rfl rfl (Nat.le_of_ble_eq_true rfl) dX6_init_14 ?_
  refine KJ.ws (ws2 := [(h0, .inr (6, [.ref q1, .int 0, .int 0, .int 0])), (q1, .inl (t.1, 16, .inl (fun _ => 0)))]) rfl ?_
  refine kj_aload (pc := 17) (i := 0) dX6_init_17 rfl ?_
  refine kj_iconst (pc := 18) dX6_init_18 (v := 0) (by decide) ?_
  refine kj_put (pc := 19) (q0 := 0) (k := 2) (v := .int 0) rfl (ws_m 312 (by decide +kernel) rfl) f_X6_19 rfl rfl rfl (Nat.le_of_ble_eq_true rfl) dX6_init_19 ?_
  refine KJ.ws (ws2 := [(h0, .inr (6, [.ref q1, .int 0, .int 0, .int 0])), (q1, .inl (t.1, 16, .inl (fun _ => 0)))]) rfl ?_
  refine kj_aload (pc := 22) (i := 0) dX6_init_22 rfl ?_
  refine kj_iconst (pc := 23) dX6_init_23 (v := 0) (by decide) ?_
  refine kj_put (pc := 24) (q0 := 0) (k := 3) (v := .int 0) rfl (ws_m 314 (by decide +kernel) rfl) f_X6_22 rfl rfl rfl (Nat.le_of_ble_eq_true rfl) dX6_init_24 ?_
  refine KJ.ws (ws2 := [(h0, .inr (6, [.ref q1, .int 0, .int 0, .int 0])), (q1, .inl (t.1, 16, .inl (fun _ => 0)))]) rfl ?_
  exact kj_ret (pc := 27) (fun U hP hD => ⟨_, ⟨q1, rfl⟩, hP, hD⟩) dX6_init_27
def wd_X8 (t : Tc) (h0 : Nat) (w : va_W) : Prop := ∃ q1 q2 q3 q4 q5 q6 q7 q8 q9 q10 q11 q12 q13 q14 q15 q16 : Nat, w = [(h0, .inr (8, [.ref q1, .int 0, .int 0, .ref q2, .ref q3, .ref q4, .ref q5, .ref q6, .ref q7, .int 0, .int 0, .int 0, .ref q8, .ref q9, .int 0, .ref q10, .ref q11, .ref q12, .ref q13, .ref q14, .int 0, .int 0, .int 0, .ref q15, .ref q16])), (q1, .inl (t.1, 60, .inl (fun _ => 0))), (q2, .inl (t.1, 6, .inl (fun _ => 0))), (q3, .inl (t.1, 6, .inl (fun _ => 0))), (q4, .inl (t.1, 6, .inl (fun _ => 0))), (q5, .inl (t.1, 6, .inl (fun _ => 0))), (q6, .inl (t.1, 6, .inl (fun _ => 0))), (q7, .inl (t.1, 288, .inl (fun _ => 0))), (q8, .inl (t.1, 150, .inl (fun _ => 0))), (q9, .inl (t.1, 1200, .inl (fun _ => 0))), (q10, .inl (t.1, 150, .inl (fun _ => 0))), (q11, .inl (t.1, 150, .inl (fun _ => 0))), (q12, .inl (t.1, 150, .inl (fun _ => 0))), (q13, .inl (t.2.1, 150, .inl (fun _ => 0))), (q14, .inl (t.2.1, 150, .inl (fun _ => 0))), (q15, .inl (t.1, 16, .inl (fun _ => 0))), (q16, .inl (t.1, 150, .inl (fun _ => 0)))]
theorem kc_X8 (D : va_G) (t : Tc) (h0 : Nat) : KC { frames := 1, cells := 16, slots := 2644, locals := 12 } yX8_init cX8_init 1 16 2644 h0 D t [(h0, .inr (8, [.null, .int 0, .int 0, .null, .null, .null, .null, .null, .null, .int 0, .int 0, .int 0, .null, .null, .int 0, .null, .null, .null, .null, .null, .int 0, .int 0, .int 0, .null, .null]))] (wd_X8 t h0) := by
  refine KC.intro (by decide +kernel) rfl (by decide) (fun A => ?_)
  refine kj_aload (pc := 0) (i := 0) dX8_init_0 rfl ?_
  refine kj_obj (pc := 1) (ws_m 777 (by decide +kernel) rfl) ko_i ko_c (Nat.le_of_ble_eq_true rfl) (Nat.le_of_ble_eq_true rfl) dX8_init_1 ?_
  refine kj_aload (pc := 4) (i := 0) dX8_init_4 rfl ?_
  refine kj_bipush (pc := 5) dX8_init_5 (v := 60) (by decide) ?_
  refine kj_newaI (pc := 7) ko_I (N' := 60) (by decide) (by decide +kernel) (Nat.le_of_ble_eq_true rfl) (Nat.le_of_ble_eq_true rfl) (Nat.le_of_ble_eq_true rfl) dX8_init_7 (fun q1 => ?_)
  refine kj_putF (pc := 9) (q0 := 0) (k := 0) (v := .ref q1) rfl (ws_m 778 (by decide +kernel) rfl) f_X8_7 rfl rfl rfl (Nat.le_of_ble_eq_true rfl) dX8_init_9 ?_
  refine KJ.ws (ws2 := [(h0, .inr (8, [.ref q1, .int 0, .int 0, .null, .null, .null, .null, .null, .null, .int 0, .int 0, .int 0, .null, .null, .int 0, .null, .null, .null, .null, .null, .int 0, .int 0, .int 0, .null, .null])), (q1, .inl (t.1, 60, .inl (fun _ => 0)))]) rfl ?_
  refine kj_aload (pc := 12) (i := 0) dX8_init_12 rfl ?_
  refine kj_bipush (pc := 13) dX8_init_13 (v := 6) (by decide) ?_
  refine kj_newaI (pc := 15) ko_I (N' := 6) (by decide) (by decide +kernel) (Nat.le_of_ble_eq_true rfl) (Nat.le_of_ble_eq_true rfl) (Nat.le_of_ble_eq_true rfl) dX8_init_15 (fun q2 => ?_)
  refine kj_putF (pc := 17) (q0 := 0) (k := 3) (v := .ref q2) rfl (ws_m 781 (by decide +kernel) rfl) f_X8_13 rfl rfl rfl (Nat.le_of_ble_eq_true rfl) dX8_init_17 ?_
  refine KJ.ws (ws2 := [(h0, .inr (8, [.ref q1, .int 0, .int 0, .ref q2, .null, .null, .null, .null, .null, .int 0, .int 0, .int 0, .null, .null, .int 0, .null, .null, .null, .null, .null, .int 0, .int 0, .int 0, .null, .null])), (q1, .inl (t.1, 60, .inl (fun _ => 0))), (q2, .inl (t.1, 6, .inl (fun _ => 0)))]) rfl ?_
  refine kj_aload (pc := 20) (i := 0) dX8_init_20 rfl ?_
  refine kj_bipush (pc := 21) dX8_init_21 (v := 6) (by decide) ?_
  refine kj_newaI (pc := 23) ko_I (N' := 6) (by decide) (by decide +kernel) (Nat.le_of_ble_eq_true rfl) (Nat.le_of_ble_eq_true rfl) (Nat.le_of_ble_eq_true rfl) dX8_init_23 (fun q3 => ?_)
  refine kj_putF (pc := 25) (q0 := 0) (k := 4) (v := .ref q3) rfl (ws_m 782 (by decide +kernel) rfl) f_X8_16 rfl rfl rfl (Nat.le_of_ble_eq_true rfl) dX8_init_25 ?_
  refine KJ.ws (ws2 := [(h0, .inr (8, [.ref q1, .int 0, .int 0, .ref q2, .ref q3, .null, .null, .null, .null, .int 0, .int 0, .int 0, .null, .null, .int 0, .null, .null, .null, .null, .null, .int 0, .int 0, .int 0, .null, .null])), (q1, .inl (t.1, 60, .inl (fun _ => 0))), (q2, .inl (t.1, 6, .inl (fun _ => 0))), (q3, .inl (t.1, 6, .inl (fun _ => 0)))]) rfl ?_
  refine kj_aload (pc := 28) (i := 0) dX8_init_28 rfl ?_
  refine kj_bipush (pc := 29) dX8_init_29 (v := 6) (by decide) ?_
  refine kj_newaI (pc := 31) ko_I (N' := 6) (by decide) (by decide +kernel) (Nat.le_of_ble_eq_true rfl) (Nat.le_of_ble_eq_true rfl) (Nat.le_of_ble_eq_true rfl) dX8_init_31 (fun q4 => ?_)
  refine kj_putF (pc := 33) (q0 := 0) (k := 5) (v := .ref q4) rfl (ws_m 783 (by decide +kernel) rfl) f_X8_19 rfl rfl rfl (Nat.le_of_ble_eq_true rfl) dX8_init_33 ?_
  refine KJ.ws (ws2 := [(h0, .inr (8, [.ref q1, .int 0, .int 0, .ref q2, .ref q3, .ref q4, .null, .null, .null, .int 0, .int 0, .int 0, .null, .null, .int 0, .null, .null, .null, .null, .null, .int 0, .int 0, .int 0, .null, .null])), (q1, .inl (t.1, 60, .inl (fun _ => 0))), (q2, .inl (t.1, 6, .inl (fun _ => 0))), (q3, .inl (t.1, 6, .inl (fun _ => 0))), (q4, .inl (t.1, 6, .inl (fun _ => 0)))]) rfl ?_
  refine kj_aload (pc := 36) (i := 0) dX8_init_36 rfl ?_
  refine kj_bipush (pc := 37) dX8_init_37 (v := 6) (by decide) ?_
  refine kj_newaI (pc := 39) ko_I (N' := 6) (by decide) (by decide +kernel) (Nat.le_of_ble_eq_true rfl) (Nat.le_of_ble_eq_true rfl) (Nat.le_of_ble_eq_true rfl) dX8_init_39 (fun q5 => ?_)
  refine kj_putF (pc := 41) (q0 := 0) (k := 6) (v := .ref q5) rfl (ws_m 784 (by decide +kernel) rfl) f_X8_22 rfl rfl rfl (Nat.le_of_ble_eq_true rfl) dX8_init_41 ?_
  refine KJ.ws (ws2 := [(h0, .inr (8, [.ref q1, .int 0, .int 0, .ref q2, .ref q3, .ref q4, .ref q5, .null, .null, .int 0, .int 0, .int 0, .null, .null, .int 0, .null, .null, .null, .null, .null, .int 0, .int 0, .int 0, .null, .null])), (q1, .inl (t.1, 60, .inl (fun _ => 0))), (q2, .inl (t.1, 6, .inl (fun _ => 0))), (q3, .inl (t.1, 6, .inl (fun _ => 0))), (q4, .inl (t.1, 6, .inl (fun _ => 0))), (q5, .inl (t.1, 6, .inl (fun _ => 0)))]) rfl ?_
  refine kj_aload (pc := 44) (i := 0) dX8_init_44 rfl ?_
  refine kj_bipush (pc := 45) dX8_init_45 (v := 6) (by decide) ?_
  refine kj_newaI (pc := 47) ko_I (N' := 6) (by decide) (by decide +kernel) (Nat.le_of_ble_eq_true rfl) (Nat.le_of_ble_eq_true rfl) (Nat.le_of_ble_eq_true rfl) dX8_init_47 (fun q6 => ?_)
  refine kj_putF (pc := 49) (q0 := 0) (k := 7) (v := .ref q6) rfl (ws_m 785 (by decide +kernel) rfl) f_X8_25 rfl rfl rfl (Nat.le_of_ble_eq_true rfl) dX8_init_49 ?_
  refine KJ.ws (ws2 := [(h0, .inr (8, [.ref q1, .int 0, .int 0, .ref q2, .ref q3, .ref q4, .ref q5, .ref q6, .null, .int 0, .int 0, .int 0, .null, .null, .int 0, .null, .null, .null, .null, .null, .int 0, .int 0, .int 0, .null, .null])), (q1, .inl (t.1, 60, .inl (fun _ => 0))), (q2, .inl (t.1, 6, .inl (fun _ => 0))), (q3, .inl (t.1, 6, .inl (fun _ => 0))), (q4, .inl (t.1, 6, .inl (fun _ => 0))), (q5, .inl (t.1, 6, .inl (fun _ => 0))), (q6, .inl (t.1, 6, .inl (fun _ => 0)))]) rfl ?_
  refine kj_aload (pc := 52) (i := 0) dX8_init_52 rfl ?_
  refine kj_sipush (pc := 53) dX8_init_53 (v := 288) (by decide) ?_
  refine kj_newaI (pc := 56) ko_I (N' := 288) (by decide) (by decide +kernel) (Nat.le_of_ble_eq_true rfl) (Nat.le_of_ble_eq_true rfl) (Nat.le_of_ble_eq_true rfl) dX8_init_56 (fun q7 => ?_)
  refine kj_putF (pc := 58) (q0 := 0) (k := 8) (v := .ref q7) rfl (ws_m 786 (by decide +kernel) rfl) f_X8_28 rfl rfl rfl (Nat.le_of_ble_eq_true rfl) dX8_init_58 ?_
  refine KJ.ws (ws2 := [(h0, .inr (8, [.ref q1, .int 0, .int 0, .ref q2, .ref q3, .ref q4, .ref q5, .ref q6, .ref q7, .int 0, .int 0, .int 0, .null, .null, .int 0, .null, .null, .null, .null, .null, .int 0, .int 0, .int 0, .null, .null])), (q1, .inl (t.1, 60, .inl (fun _ => 0))), (q2, .inl (t.1, 6, .inl (fun _ => 0))), (q3, .inl (t.1, 6, .inl (fun _ => 0))), (q4, .inl (t.1, 6, .inl (fun _ => 0))), (q5, .inl (t.1, 6, .inl (fun _ => 0))), (q6, .inl (t.1, 6, .inl (fun _ => 0))), (q7, .inl (t.1, 288, .inl (fun _ => 0)))]) rfl ?_
  refine kj_aload (pc := 61) (i := 0) dX8_init_61 rfl ?_
  refine kj_sipush (pc := 62) dX8_init_62 (v := 150) (by decide) ?_
  refine kj_newaI (pc := 65) ko_I (N' := 150) (by decide) (by decide +kernel) (Nat.le_of_ble_eq_true rfl) (Nat.le_of_ble_eq_true rfl) (Nat.le_of_ble_eq_true rfl) dX8_init_65 (fun q8 => ?_)
  refine kj_putF (pc := 67) (q0 := 0) (k := 12) (v := .ref q8) rfl (ws_m 790 (by decide +kernel) rfl) f_X8_31 rfl rfl rfl (Nat.le_of_ble_eq_true rfl) dX8_init_67 ?_
  refine KJ.ws (ws2 := [(h0, .inr (8, [.ref q1, .int 0, .int 0, .ref q2, .ref q3, .ref q4, .ref q5, .ref q6, .ref q7, .int 0, .int 0, .int 0, .ref q8, .null, .int 0, .null, .null, .null, .null, .null, .int 0, .int 0, .int 0, .null, .null])), (q1, .inl (t.1, 60, .inl (fun _ => 0))), (q2, .inl (t.1, 6, .inl (fun _ => 0))), (q3, .inl (t.1, 6, .inl (fun _ => 0))), (q4, .inl (t.1, 6, .inl (fun _ => 0))), (q5, .inl (t.1, 6, .inl (fun _ => 0))), (q6, .inl (t.1, 6, .inl (fun _ => 0))), (q7, .inl (t.1, 288, .inl (fun _ => 0))), (q8, .inl (t.1, 150, .inl (fun _ => 0)))]) rfl ?_
  refine kj_aload (pc := 70) (i := 0) dX8_init_70 rfl ?_
  refine kj_sipush (pc := 71) dX8_init_71 (v := 1200) (by decide) ?_
  refine kj_newaI (pc := 74) ko_I (N' := 1200) (by decide) (by decide +kernel) (Nat.le_of_ble_eq_true rfl) (Nat.le_of_ble_eq_true rfl) (Nat.le_of_ble_eq_true rfl) dX8_init_74 (fun q9 => ?_)
  refine kj_putF (pc := 76) (q0 := 0) (k := 13) (v := .ref q9) rfl (ws_m 791 (by decide +kernel) rfl) f_X8_34 rfl rfl rfl (Nat.le_of_ble_eq_true rfl) dX8_init_76 ?_
  refine KJ.ws (ws2 := [(h0, .inr (8, [.ref q1, .int 0, .int 0, .ref q2, .ref q3, .ref q4, .ref q5, .ref q6, .ref q7, .int 0, .int 0, .int 0, .ref q8, .ref q9, .int 0, .null, .null, .null, .null, .null, .int 0, .int 0, .int 0, .null, .null])), (q1, .inl (t.1, 60, .inl (fun _ => 0))), (q2, .inl (t.1, 6, .inl (fun _ => 0))), (q3, .inl (t.1, 6, .inl (fun _ => 0))), (q4, .inl (t.1, 6, .inl (fun _ => 0))), (q5, .inl (t.1, 6, .inl (fun _ => 0))), (q6, .inl (t.1, 6, .inl (fun _ => 0))), (q7, .inl (t.1, 288, .inl (fun _ => 0))), (q8, .inl (t.1, 150, .inl (fun _ => 0))), (q9, .inl (t.1, 1200, .inl (fun _ => 0)))]) rfl ?_
  refine kj_aload (pc := 79) (i := 0) dX8_init_79 rfl ?_
  refine kj_sipush (pc := 80) dX8_init_80 (v := 150) (by decide) ?_
  refine kj_newaI (pc := 83) ko_I (N' := 150) (by decide) (by decide +kernel) (Nat.le_of_ble_eq_true rfl) (Nat.le_of_ble_eq_true rfl) (Nat.le_of_ble_eq_true rfl) dX8_init_83 (fun q10 => ?_)
  refine kj_putF (pc := 85) (q0 := 0) (k := 15) (v := .ref q10) rfl (ws_m 793 (by decide +kernel) rfl) f_X8_37 rfl rfl rfl (Nat.le_of_ble_eq_true rfl) dX8_init_85 ?_
  refine KJ.ws (ws2 := [(h0, .inr (8, [.ref q1, .int 0, .int 0, .ref q2, .ref q3, .ref q4, .ref q5, .ref q6, .ref q7, .int 0, .int 0, .int 0, .ref q8, .ref q9, .int 0, .ref q10, .null, .null, .null, .null, .int 0, .int 0, .int 0, .null, .null])), (q1, .inl (t.1, 60, .inl (fun _ => 0))), (q2, .inl (t.1, 6, .inl (fun _ => 0))), (q3, .inl (t.1, 6, .inl (fun _ => 0))), (q4, .inl (t.1, 6, .inl (fun _ => 0))), (q5, .inl (t.1, 6, .inl (fun _ => 0))), (q6, .inl (t.1, 6, .inl (fun _ => 0))), (q7, .inl (t.1, 288, .inl (fun _ => 0))), (q8, .inl (t.1, 150, .inl (fun _ => 0))), (q9, .inl (t.1, 1200, .inl (fun _ => 0))), (q10, .inl (t.1, 150, .inl (fun _ => 0)))]) rfl ?_
  refine kj_aload (pc := 88) (i := 0) dX8_init_88 rfl ?_
  refine kj_sipush (pc := 89) dX8_init_89 (v := 150) (by decide) ?_
  refine kj_newaI (pc := 92) ko_I (N' := 150) (by decide) (by decide +kernel) (Nat.le_of_ble_eq_true rfl) (Nat.le_of_ble_eq_true rfl) (Nat.le_of_ble_eq_true rfl) dX8_init_92 (fun q11 => ?_)
  refine kj_putF (pc := 94) (q0 := 0) (k := 16) (v := .ref q11) rfl (ws_m 794 (by decide +kernel) rfl) f_X8_40 rfl rfl rfl (Nat.le_of_ble_eq_true rfl) dX8_init_94 ?_
  refine KJ.ws (ws2 := [(h0, .inr (8, [.ref q1, .int 0, .int 0, .ref q2, .ref q3, .ref q4, .ref q5, .ref q6, .ref q7, .int 0, .int 0, .int 0, .ref q8, .ref q9, .int 0, .ref q10, .ref q11, .null, .null, .null, .int 0, .int 0, .int 0, .null, .null])), (q1, .inl (t.1, 60, .inl (fun _ => 0))), (q2, .inl (t.1, 6, .inl (fun _ => 0))), (q3, .inl (t.1, 6, .inl (fun _ => 0))), (q4, .inl (t.1, 6, .inl (fun _ => 0))), (q5, .inl (t.1, 6, .inl (fun _ => 0))), (q6, .inl (t.1, 6, .inl (fun _ => 0))), (q7, .inl (t.1, 288, .inl (fun _ => 0))), (q8, .inl (t.1, 150, .inl (fun _ => 0))), (q9, .inl (t.1, 1200, .inl (fun _ => 0))), (q10, .inl (t.1, 150, .inl (fun _ => 0))), (q11, .inl (t.1, 150, .inl (fun _ => 0)))]) rfl ?_
  refine kj_aload (pc := 97) (i := 0) dX8_init_97 rfl ?_
  refine kj_sipush (pc := 98) dX8_init_98 (v := 150) (by decide) ?_
  refine kj_newaI (pc := 101) ko_I (N' := 150) (by decide) (by decide +kernel) (Nat.le_of_ble_eq_true rfl) (Nat.le_of_ble_eq_true rfl) (Nat.le_of_ble_eq_true rfl) dX8_init_101 (fun q12 => ?_)
  refine kj_putF (pc := 103) (q0 := 0) (k := 17) (v := .ref q12) rfl (ws_m 795 (by decide +kernel) rfl) f_X8_43 rfl rfl rfl (Nat.le_of_ble_eq_true rfl) dX8_init_103 ?_
  refine KJ.ws (ws2 := [(h0, .inr (8, [.ref q1, .int 0, .int 0, .ref q2, .ref q3, .ref q4, .ref q5, .ref q6, .ref q7, .int 0, .int 0, .int 0, .ref q8, .ref q9, .int 0, .ref q10, .ref q11, .ref q12, .null, .null, .int 0, .int 0, .int 0, .null, .null])), (q1, .inl (t.1, 60, .inl (fun _ => 0))), (q2, .inl (t.1, 6, .inl (fun _ => 0))), (q3, .inl (t.1, 6, .inl (fun _ => 0))), (q4, .inl (t.1, 6, .inl (fun _ => 0))), (q5, .inl (t.1, 6, .inl (fun _ => 0))), (q6, .inl (t.1, 6, .inl (fun _ => 0))), (q7, .inl (t.1, 288, .inl (fun _ => 0))), (q8, .inl (t.1, 150, .inl (fun _ => 0))), (q9, .inl (t.1, 1200, .inl (fun _ => 0))), (q10, .inl (t.1, 150, .inl (fun _ => 0))), (q11, .inl (t.1, 150, .inl (fun _ => 0))), (q12, .inl (t.1, 150, .inl (fun _ => 0)))]) rfl ?_
  refine kj_aload (pc := 106) (i := 0) dX8_init_106 rfl ?_
  refine kj_sipush (pc := 107) dX8_init_107 (v := 150) (by decide) ?_
  refine kj_newaZ (pc := 110) ko_Z (N' := 150) (by decide) (by decide +kernel) (Nat.le_of_ble_eq_true rfl) (Nat.le_of_ble_eq_true rfl) (Nat.le_of_ble_eq_true rfl) dX8_init_110 (fun q13 => ?_)
  refine kj_putF (pc := 112) (q0 := 0) (k := 18) (v := .ref q13) rfl (ws_m 796 (by decide +kernel) rfl) f_X8_46 rfl rfl rfl (Nat.le_of_ble_eq_true rfl) dX8_init_112 ?_
  refine KJ.ws (ws2 := [(h0, .inr (8, [.ref q1, .int 0, .int 0, .ref q2, .ref q3, .ref q4, .ref q5, .ref q6, .ref q7, .int 0, .int 0, .int 0, .ref q8, .ref q9, .int 0, .ref q10, .ref q11, .ref q12, .ref q13, .null, .int 0, .int 0, .int 0, .null, .null])), (q1, .inl (t.1, 60, .inl (fun _ => 0))), (q2, .inl (t.1, 6, .inl (fun _ => 0))), (q3, .inl (t.1, 6, .inl (fun _ => 0))), (q4, .inl (t.1, 6, .inl (fun _ => 0))), (q5, .inl (t.1, 6, .inl (fun _ => 0))), (q6, .inl (t.1, 6, .inl (fun _ => 0))), (q7, .inl (t.1, 288, .inl (fun _ => 0))), (q8, .inl (t.1, 150, .inl (fun _ => 0))), (q9, .inl (t.1, 1200, .inl (fun _ => 0))), (q10, .inl (t.1, 150, .inl (fun _ => 0))), (q11, .inl (t.1, 150, .inl (fun _ => 0))), (q12, .inl (t.1, 150, .inl (fun _ => 0))), (q13, .inl (t.2.1, 150, .inl (fun _ => 0)))]) rfl ?_
  refine kj_aload (pc := 115) (i := 0) dX8_init_115 rfl ?_
  refine kj_sipush (pc := 116) dX8_init_116 (v := 150) (by decide) ?_
  refine kj_newaZ (pc := 119) ko_Z (N' := 150) (by decide) (by decide +kernel) (Nat.le_of_ble_eq_true rfl) (Nat.le_of_ble_eq_true rfl) (Nat.le_of_ble_eq_true rfl) dX8_init_119 (fun q14 => ?_)
  refine kj_putF (pc := 121) (q0 := 0) (k := 19) (v := .ref q14) rfl (ws_m 797 (by decide +kernel) rfl) f_X8_50 rfl rfl rfl (Nat.le_of_ble_eq_true rfl) dX8_init_121 ?_
  refine KJ.ws (ws2 := [(h0, .inr (8, [.ref q1, .int 0, .int 0, .ref q2, .ref q3, .ref q4, .ref q5, .ref q6, .ref q7, .int 0, .int 0, .int 0, .ref q8, .ref q9, .int 0, .ref q10, .ref q11, .ref q12, .ref q13, .ref q14, .int 0, .int 0, .int 0, .null, .null])), (q1, .inl (t.1, 60, .inl (fun _ => 0))), (q2, .inl (t.1, 6, .inl (fun _ => 0))), (q3, .inl (t.1, 6, .inl (fun _ => 0))), (q4, .inl (t.1, 6, .inl (fun _ => 0))), (q5, .inl (t.1, 6, .inl (fun _ => 0))), (q6, .inl (t.1, 6, .inl (fun _ => 0))), (q7, .inl (t.1, 288, .inl (fun _ => 0))), (q8, .inl (t.1, 150, .inl (fun _ => 0))), (q9, .inl (t.1, 1200, .inl (fun _ => 0))), (q10, .inl (t.1, 150, .inl (fun _ => 0))), (q11, .inl (t.1, 150, .inl (fun _ => 0))), (q12, .inl (t.1, 150, .inl (fun _ => 0))), (q13, .inl (t.2.1, 150, .inl (fun _ => 0))), (q14, .inl (t.2.1, 150, .inl (fun _ => 0)))]) rfl ?_
  refine kj_aload (pc := 124) (i := 0) dX8_init_124 rfl ?_
  refine kj_bipush (pc := 125) dX8_init_125 (v := 16) (by decide) ?_
  refine kj_newaI (pc := 127) ko_I (N' := 16) (by decide) (by decide +kernel) (Nat.le_of_ble_eq_true rfl) (Nat.le_of_ble_eq_true rfl) (Nat.le_of_ble_eq_true rfl) dX8_init_127 (fun q15 => ?_)
  refine kj_putF (pc := 129) (q0 := 0) (k := 23) (v := .ref q15) rfl (ws_m 801 (by decide +kernel) rfl) f_X8_53 rfl rfl rfl (Nat.le_of_ble_eq_true rfl) dX8_init_129 ?_
  refine KJ.ws (ws2 := [(h0, .inr (8, [.ref q1, .int 0, .int 0, .ref q2, .ref q3, .ref q4, .ref q5, .ref q6, .ref q7, .int 0, .int 0, .int 0, .ref q8, .ref q9, .int 0, .ref q10, .ref q11, .ref q12, .ref q13, .ref q14, .int 0, .int 0, .int 0, .ref q15, .null])), (q1, .inl (t.1, 60, .inl (fun _ => 0))), (q2, .inl (t.1, 6, .inl (fun _ => 0))), (q3, .inl (t.1, 6, .inl (fun _ => 0))), (q4, .inl (t.1, 6, .inl (fun _ => 0))), (q5, .inl (t.1, 6, .inl (fun _ => 0))), (q6, .inl (t.1, 6, .inl (fun _ => 0))), (q7, .inl (t.1, 288, .inl (fun _ => 0))), (q8, .inl (t.1, 150, .inl (fun _ => 0))), (q9, .inl (t.1, 1200, .inl (fun _ => 0))), (q10, .inl (t.1, 150, .inl (fun _ => 0))), (q11, .inl (t.1, 150, .inl (fun _ => 0))), (q12, .inl (t.1, 150, .inl (fun _ => 0))), (q13, .inl (t.2.1, 150, .inl (fun _ => 0))), (q14, .inl (t.2.1, 150, .inl (fun _ => 0))), (q15, .inl (t.1, 16, .inl (fun _ => 0)))]) rfl ?_
  refine kj_aload (pc := 132) (i := 0) dX8_init_132 rfl ?_
  refine kj_sipush (pc := 133) dX8_init_133 (v := 150) (by decide) ?_
  refine kj_newaI (pc := 136) ko_I (N' := 150) (by decide) (by decide +kernel) (Nat.le_of_ble_eq_true rfl) (Nat.le_of_ble_eq_true rfl) (Nat.le_of_ble_eq_true rfl) dX8_init_136 (fun q16 => ?_)
  refine kj_putF (pc := 138) (q0 := 0) (k := 24) (v := .ref q16) rfl (ws_m 802 (by decide +kernel) rfl) f_X8_56 rfl rfl rfl (Nat.le_of_ble_eq_true rfl) dX8_init_138 ?_
  refine KJ.ws (ws2 := [(h0, .inr (8, [.ref q1, .int 0, .int 0, .ref q2, .ref q3, .ref q4, .ref q5, .ref q6, .ref q7, .int 0, .int 0, .int 0, .ref q8, .ref q9, .int 0, .ref q10, .ref q11, .ref q12, .ref q13, .ref q14, .int 0, .int 0, .int 0, .ref q15, .ref q16])), (q1, .inl (t.1, 60, .inl (fun _ => 0))), (q2, .inl (t.1, 6, .inl (fun _ => 0))), (q3, .inl (t.1, 6, .inl (fun _ => 0))), (q4, .inl (t.1, 6, .inl (fun _ => 0))), (q5, .inl (t.1, 6, .inl (fun _ => 0))), (q6, .inl (t.1, 6, .inl (fun _ => 0))), (q7, .inl (t.1, 288, .inl (fun _ => 0))), (q8, .inl (t.1, 150, .inl (fun _ => 0))), (q9, .inl (t.1, 1200, .inl (fun _ => 0))), (q10, .inl (t.1, 150, .inl (fun _ => 0))), (q11, .inl (t.1, 150, .inl (fun _ => 0))), (q12, .inl (t.1, 150, .inl (fun _ => 0))), (q13, .inl (t.2.1, 150, .inl (fun _ => 0))), (q14, .inl (t.2.1, 150, .inl (fun _ => 0))), (q15, .inl (t.1, 16, .inl (fun _ => 0))), (q16, .inl (t.1, 150, .inl (fun _ => 0)))]) rfl ?_
  exact kj_ret (pc := 141) (fun U hP hD => ⟨_, ⟨q1, q2, q3, q4, q5, q6, q7, q8, q9, q10, q11, q12, q13, q14, q15, q16, rfl⟩, hP, hD⟩) dX8_init_141
