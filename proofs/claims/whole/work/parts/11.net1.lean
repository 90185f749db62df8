/-! NET, its small methods. b: where it lies -/
theorem nI_z {n : Nat} (h : n < 2 ^ 31) : ¬ nI n = -9 := fun q => by
  have := congrArg Int32.toInt q
  rw [nI_toInt h] at this
  have h9 : (-9 : Int32).toInt = -9 := rfl
  omega
theorem vin_le {x : Int32} {n N : Nat} (h : vp_in x n) (hn : n ≤ N) : vp_in x N := by
  rw [vp_in_iff] at h ⊢
  omega
theorem c_X3_has {b : Nat} (hb : IsN b) (n : Int32) {σ : Mm} {J : Nat} (hJ : σ b 13 = nI J) (hJ2 : J ≤ 150) : EV Γ1 0 yX3_has cX3_has 2 (some .boolean) [.inr b, .inl n] σ (bz (vp_in n J) σ) := by
  have g0 := hb.1
  have tJ : (nI J).toInt = J := nI_toInt (by omega)
  refine EV.intro (by decide +kernel) (Nat.le_of_ble_eq_true rfl) ?_
  refine j_iload_n (pc := 0) dX3_has_0 rfl ?_
  refine j_if_lt (pc := 1) (tgt := 23) dX3_has_1 rfl (fun h1 => ?_) (fun h1 => ?_)
  · refine j_iconst (pc := 23) dX3_has_23 (v := 0) (by decide) ?_
    refine j_zret (pc := 24) dX3_has_24 (Or.inl rfl) ?_
    exact ⟨rfl, Or.inr ⟨by (simp only [Int32.lt_iff_toInt_lt, Int32.le_iff_toInt_le, ← Int32.toInt_inj, vp_in_iff, ti_0, ti_1, ti_2, ti_3, ti_4, ti_5, ti_6, ti_7, ti_8, ti_16, ti_48, ti_53, ti_60, ti_97, ti_104, ti_127, ti_149, ti_150, ti_151, ti_256, ti_1200, ti_m1, ti_m2, ti_m3, ti_m4, ti_m9, tJ] at *; omega), rfl⟩⟩
  · refine j_iload_n (pc := 4) dX3_has_4 rfl ?_
    refine j_aload_n (pc := 5) dX3_has_5 rfl ?_
    refine j_getI (pc := 6) dX3_has_6 f_X3_53 (by first | rfl | with_reducible assumption) (by rfl) ?_
    refine j_top hJ ?_
    refine j_icmp_ge (pc := 9) (tgt := 23) dX3_has_9 rfl (fun h9 => ?_) (fun h9 => ?_)
    · refine j_iconst (pc := 23) dX3_has_23 (v := 0) (by decide) ?_
      refine j_zret (pc := 24) dX3_has_24 (Or.inl rfl) ?_
      exact ⟨rfl, Or.inr ⟨by (simp only [Int32.lt_iff_toInt_lt, Int32.le_iff_toInt_le, ← Int32.toInt_inj, vp_in_iff, ti_0, ti_1, ti_2, ti_3, ti_4, ti_5, ti_6, ti_7, ti_8, ti_16, ti_48, ti_53, ti_60, ti_97, ti_104, ti_127, ti_149, ti_150, ti_151, ti_256, ti_1200, ti_m1, ti_m2, ti_m3, ti_m4, ti_m9, tJ] at *; omega), rfl⟩⟩
    · refine j_iload_n (pc := 12) dX3_has_12 rfl ?_
      refine j_sipush (pc := 13) dX3_has_13 (v := 150) (by decide) ?_
      refine j_icmp_ge (pc := 16) (tgt := 23) dX3_has_16 rfl (fun h16 => ?_) (fun h16 => ?_)
      · refine j_iconst (pc := 23) dX3_has_23 (v := 0) (by decide) ?_
        refine j_zret (pc := 24) dX3_has_24 (Or.inl rfl) ?_
        exact ⟨rfl, Or.inr ⟨by (simp only [Int32.lt_iff_toInt_lt, Int32.le_iff_toInt_le, ← Int32.toInt_inj, vp_in_iff, ti_0, ti_1, ti_2, ti_3, ti_4, ti_5, ti_6, ti_7, ti_8, ti_16, ti_48, ti_53, ti_60, ti_97, ti_104, ti_127, ti_149, ti_150, ti_151, ti_256, ti_1200, ti_m1, ti_m2, ti_m3, ti_m4, ti_m9, tJ] at *; omega), rfl⟩⟩
      · refine j_iconst (pc := 19) dX3_has_19 (v := 1) (by decide) ?_
        refine j_goto (pc := 20) (tgt := 24) dX3_has_20 rfl ?_
        refine j_zret (pc := 24) dX3_has_24 (Or.inr rfl) ?_
        exact ⟨rfl, Or.inl ⟨by (simp only [Int32.lt_iff_toInt_lt, Int32.le_iff_toInt_le, ← Int32.toInt_inj, vp_in_iff, ti_0, ti_1, ti_2, ti_3, ti_4, ti_5, ti_6, ti_7, ti_8, ti_16, ti_48, ti_53, ti_60, ti_97, ti_104, ti_127, ti_149, ti_150, ti_151, ti_256, ti_1200, ti_m1, ti_m2, ti_m3, ti_m4, ti_m9, tJ] at *; omega), rfl⟩⟩
theorem c_X3_stateIn {b : Nat} (hb : IsN b) {n m : Nat} {σ : Mm} {J : Nat} (hJ : σ b 13 = nI J) (hJ2 : J ≤ 150) (hn : n < J) : EV Γ1 1 yX3_stateIn cX3_stateIn 3 (some .int) [.inr b, .inl (nI n), .inl (nI m)] σ (vz (stI (σ (b + 1) n) m) σ) := by
  have g0 := hb.1
  have g1 := hb.2.1
  refine EV.intro (by decide +kernel) (Nat.le_of_ble_eq_true rfl) ?_
  refine j_aload_n (pc := 0) dX3_stateIn_0 rfl ?_
  refine j_iload_n (pc := 1) dX3_stateIn_1 rfl ?_
  refine j_callVi (pc := 2) dX3_stateIn_2 k_X3_107 (c_X3_has hb _ hJ hJ2) (by first | rfl | with_reducible assumption) rfl rfl (by decide) rfl (Nat.le_of_ble_eq_true rfl) (fun r σ1 hp => ?_)
  obtain ⟨rfl, hp⟩ := hp
  rcases hp with ⟨q2, rfl⟩ | ⟨q2, rfl⟩
  · refine j_if_eq (pc := 5) (tgt := 24) dX3_stateIn_5 rfl (fun h => absurd h (by decide)) (fun _ => ?_)
    refine j_aload_n (pc := 8) dX3_stateIn_8 rfl ?_
    refine j_getR (pc := 9) dX3_stateIn_9 f_X3_9 (by first | rfl | with_reducible assumption) (by rfl) ?_
    refine j_iload_n (pc := 12) dX3_stateIn_12 rfl ?_
    refine j_iald (pc := 13) dX3_stateIn_13 (by first | rfl | with_reducible assumption) (vin_le q2 hJ2) ?_
    refine j_iload_n (pc := 14) dX3_stateIn_14 rfl ?_
    refine j_iconst (pc := 15) dX3_stateIn_15 (v := 3) (by decide) ?_
    refine j_imul (pc := 16) dX3_stateIn_16 ?_
    refine j_ishr (pc := 17) dX3_stateIn_17 ?_
    refine j_bipush (pc := 18) dX3_stateIn_18 (v := 7) (by decide) ?_
    refine j_iand (pc := 20) dX3_stateIn_20 ?_
    refine j_goto (pc := 21) (tgt := 26) dX3_stateIn_21 rfl ?_
    refine j_iret (pc := 26) dX3_stateIn_26 ?_
    refine ⟨rfl, ?_⟩
    rw [nI_clamp (by omega), show (3 : Int32) = nI 3 from rfl, pk_mul, Nat.mul_comm m 3]
    rfl
  · exact absurd (vp_in_nI hn (by omega)) q2
    skip
theorem c_X3_target {b : Nat} (hb : IsN b) (n e : Int32) {σ : Mm} {J : Nat} (hJ : σ b 13 = nI J) (hJ2 : J ≤ 150) : EV Γ1 1 yX3_target cX3_target 3 (some .int) [.inr b, .inl n, .inl e] σ (fun r σ' => σ = σ' ∧ ((∃ i j : Nat, i < J ∧ j < 8 ∧ n = nI i ∧ e = nI j ∧ r = σ (b + 5) (8 * i + j)) ∨ (¬ (vp_in n J ∧ vp_in e 8) ∧ r = -9))) := by
  have g0 := hb.1
  have g5 := hb.2.2.2.2.2.1
  refine EV.intro (by decide +kernel) (Nat.le_of_ble_eq_true rfl) ?_
  refine j_aload_n (pc := 0) dX3_target_0 rfl ?_
  refine j_iload_n (pc := 1) dX3_target_1 rfl ?_
  refine j_callVi (pc := 2) dX3_target_2 k_X3_107 (c_X3_has hb _ hJ hJ2) (by first | rfl | with_reducible assumption) rfl rfl (by decide) rfl (Nat.le_of_ble_eq_true rfl) (fun r σ1 hp => ?_)
  obtain ⟨rfl, hp⟩ := hp
  rcases hp with ⟨q2, rfl⟩ | ⟨q2, rfl⟩
  · refine j_if_eq (pc := 5) (tgt := 29) dX3_target_5 rfl (fun h => absurd h (by decide)) (fun _ => ?_)
    refine j_iload_n (pc := 8) dX3_target_8 rfl ?_
    refine j_callSNi (pc := 9) dX3_target_9 k_X3_139 (c_X7_isEvent _ _) rfl (by decide) rfl (Nat.le_of_ble_eq_true rfl) (fun r σ1 hp => ?_)
    obtain ⟨rfl, hp⟩ := hp
    rcases hp with ⟨q9, rfl⟩ | ⟨q9, rfl⟩
    · refine j_if_eq (pc := 12) (tgt := 29) dX3_target_12 rfl (fun h => absurd h (by decide)) (fun _ => ?_)
      obtain ⟨i, hi, rfl⟩ := vp_in_of q2 (by omega)
      obtain ⟨j, hj, rfl⟩ := vp_in_of q9 (by omega)
      have hx : nI i * 8 + nI j = nI (8 * i + j) := by rw [show (8 : Int32) = nI 8 from rfl, pk_mul, nI_add, Nat.mul_comm i 8]
      refine j_aload_n (pc := 15) dX3_target_15 rfl ?_
      refine j_getR (pc := 16) dX3_target_16 f_X3_25 (by first | rfl | with_reducible assumption) (by rfl) ?_
      refine j_iload_n (pc := 19) dX3_target_19 rfl ?_
      refine j_bipush (pc := 20) dX3_target_20 (v := 8) (by decide) ?_
      refine j_imul (pc := 22) dX3_target_22 ?_
      refine j_iload_n (pc := 23) dX3_target_23 rfl ?_
      refine j_iadd (pc := 24) dX3_target_24 ?_
      refine j_top hx ?_
      refine j_iald (pc := 25) dX3_target_25 (by first | rfl | with_reducible assumption) (vp_in_nI (by omega) (by decide)) ?_
      refine j_goto (pc := 26) (tgt := 31) dX3_target_26 rfl ?_
      refine j_iret (pc := 31) dX3_target_31 ?_
      first | exact ⟨rfl, Or.inr ⟨fun q => q2 q.1, rfl⟩⟩ | exact ⟨rfl, Or.inr ⟨fun q => q9 q.2, rfl⟩⟩ | exact ⟨rfl, Or.inl ⟨i, j, hi, hj, rfl, rfl, by rw [nI_clamp (by omega)]⟩⟩
    · refine j_if_eq (pc := 12) (tgt := 29) dX3_target_12 rfl (fun _ => ?_) (fun h => absurd h (by decide))
      refine j_bipush (pc := 29) dX3_target_29 (v := (-9)) (by decide) ?_
      refine j_iret (pc := 31) dX3_target_31 ?_
      first | exact ⟨rfl, Or.inr ⟨fun q => q2 q.1, rfl⟩⟩ | exact ⟨rfl, Or.inr ⟨fun q => q9 q.2, rfl⟩⟩ | exact ⟨rfl, Or.inl ⟨i, j, hi, hj, rfl, rfl, by rw [nI_clamp (by omega)]⟩⟩
  · refine j_if_eq (pc := 5) (tgt := 29) dX3_target_5 rfl (fun _ => ?_) (fun h => absurd h (by decide))
    refine j_bipush (pc := 29) dX3_target_29 (v := (-9)) (by decide) ?_
    refine j_iret (pc := 31) dX3_target_31 ?_
    first | exact ⟨rfl, Or.inr ⟨fun q => q2 q.1, rfl⟩⟩ | exact ⟨rfl, Or.inr ⟨fun q => q9 q.2, rfl⟩⟩ | exact ⟨rfl, Or.inl ⟨i, j, hi, hj, rfl, rfl, by rw [nI_clamp (by omega)]⟩⟩
theorem c_X3_isFinished {b : Nat} (hb : IsN b) (n : Int32) {σ : Mm} {J : Nat} (hJ : σ b 13 = nI J) (hJ2 : J ≤ 150) : EV Γ1 1 yX3_isFinished cX3_isFinished 2 (some .boolean) [.inr b, .inl n] σ (bz (vp_in n J ∧ ¬ σ (b + 4) n.toNatClampNeg = 0) σ) := by
  have g0 := hb.1
  have g4 := hb.2.2.2.2.1
  refine EV.intro (by decide +kernel) (Nat.le_of_ble_eq_true rfl) ?_
  refine j_aload_n (pc := 0) dX3_isFinished_0 rfl ?_
  refine j_iload_n (pc := 1) dX3_isFinished_1 rfl ?_
  refine j_callVi (pc := 2) dX3_isFinished_2 k_X3_107 (c_X3_has hb _ hJ hJ2) (by first | rfl | with_reducible assumption) rfl rfl (by decide) rfl (Nat.le_of_ble_eq_true rfl) (fun r σ1 hp => ?_)
  obtain ⟨rfl, hp⟩ := hp
  rcases hp with ⟨q2, rfl⟩ | ⟨q2, rfl⟩
  · refine j_if_eq (pc := 5) (tgt := 21) dX3_isFinished_5 rfl (fun h => absurd h (by decide)) (fun _ => ?_)
    refine j_aload_n (pc := 8) dX3_isFinished_8 rfl ?_
    refine j_getR (pc := 9) dX3_isFinished_9 f_X3_21 (by first | rfl | with_reducible assumption) (by rfl) ?_
    refine j_iload_n (pc := 12) dX3_isFinished_12 rfl ?_
    refine j_zald (pc := 13) dX3_isFinished_13 (by first | rfl | with_reducible assumption) (vin_le q2 hJ2) ?_
    refine j_if_eq (pc := 14) (tgt := 21) dX3_isFinished_14 rfl (fun h14 => ?_) (fun h14 => ?_)
    · refine j_iconst (pc := 21) dX3_isFinished_21 (v := 0) (by decide) ?_
      refine j_zret (pc := 22) dX3_isFinished_22 (Or.inl rfl) ?_
      first | exact ⟨rfl, Or.inl ⟨⟨q2, h14⟩, rfl⟩⟩ | exact ⟨rfl, Or.inr ⟨fun q => q.2 h14, rfl⟩⟩ | exact ⟨rfl, Or.inr ⟨fun q => q2 q.1, rfl⟩⟩
    · refine j_iconst (pc := 17) dX3_isFinished_17 (v := 1) (by decide) ?_
      refine j_goto (pc := 18) (tgt := 22) dX3_isFinished_18 rfl ?_
      refine j_zret (pc := 22) dX3_isFinished_22 (Or.inr rfl) ?_
      first | exact ⟨rfl, Or.inl ⟨⟨q2, h14⟩, rfl⟩⟩ | exact ⟨rfl, Or.inr ⟨fun q => q.2 h14, rfl⟩⟩ | exact ⟨rfl, Or.inr ⟨fun q => q2 q.1, rfl⟩⟩
  · refine j_if_eq (pc := 5) (tgt := 21) dX3_isFinished_5 rfl (fun _ => ?_) (fun h => absurd h (by decide))
    refine j_iconst (pc := 21) dX3_isFinished_21 (v := 0) (by decide) ?_
    refine j_zret (pc := 22) dX3_isFinished_22 (Or.inl rfl) ?_
    first | exact ⟨rfl, Or.inl ⟨⟨q2, h14⟩, rfl⟩⟩ | exact ⟨rfl, Or.inr ⟨fun q => q.2 h14, rfl⟩⟩ | exact ⟨rfl, Or.inr ⟨fun q => q2 q.1, rfl⟩⟩
theorem c_X3_leadSet {b : Nat} (hb : IsN b) (n : Int32) {σ : Mm} {J : Nat} (hJ : σ b 13 = nI J) (hJ2 : J ≤ 150) : EV Γ1 1 yX3_leadSet cX3_leadSet 2 (some .int) [.inr b, .inl n] σ (fun r σ' => σ = σ' ∧ ((∃ i : Nat, i < J ∧ n = nI i ∧ r = σ (b + 2) i) ∨ (¬ vp_in n J ∧ r = 0))) := by
  have g0 := hb.1
  have g2 := hb.2.2.1
  refine EV.intro (by decide +kernel) (Nat.le_of_ble_eq_true rfl) ?_
  refine j_aload_n (pc := 0) dX3_leadSet_0 rfl ?_
  refine j_iload_n (pc := 1) dX3_leadSet_1 rfl ?_
  refine j_callVi (pc := 2) dX3_leadSet_2 k_X3_107 (c_X3_has hb _ hJ hJ2) (by first | rfl | with_reducible assumption) rfl rfl (by decide) rfl (Nat.le_of_ble_eq_true rfl) (fun r σ1 hp => ?_)
  obtain ⟨rfl, hp⟩ := hp
  rcases hp with ⟨q2, rfl⟩ | ⟨q2, rfl⟩
  · refine j_if_eq (pc := 5) (tgt := 17) dX3_leadSet_5 rfl (fun h => absurd h (by decide)) (fun _ => ?_)
    refine j_aload_n (pc := 8) dX3_leadSet_8 rfl ?_
    refine j_getR (pc := 9) dX3_leadSet_9 f_X3_15 (by first | rfl | with_reducible assumption) (by rfl) ?_
    refine j_iload_n (pc := 12) dX3_leadSet_12 rfl ?_
    refine j_iald (pc := 13) dX3_leadSet_13 (by first | rfl | with_reducible assumption) (vin_le q2 hJ2) ?_
    refine j_goto (pc := 14) (tgt := 18) dX3_leadSet_14 rfl ?_
    refine j_iret (pc := 18) dX3_leadSet_18 ?_
    first | exact ⟨rfl, Or.inr ⟨q2, rfl⟩⟩ | (obtain ⟨i, hi, rfl⟩ := vp_in_of q2 (by omega); exact ⟨rfl, Or.inl ⟨i, hi, rfl, by rw [nI_clamp (by omega)]⟩⟩)
  · refine j_if_eq (pc := 5) (tgt := 17) dX3_leadSet_5 rfl (fun _ => ?_) (fun h => absurd h (by decide))
    refine j_iconst (pc := 17) dX3_leadSet_17 (v := 0) (by decide) ?_
    refine j_iret (pc := 18) dX3_leadSet_18 ?_
    first | exact ⟨rfl, Or.inr ⟨q2, rfl⟩⟩ | (obtain ⟨i, hi, rfl⟩ := vp_in_of q2 (by omega); exact ⟨rfl, Or.inl ⟨i, hi, rfl, by rw [nI_clamp (by omega)]⟩⟩)
theorem c_X3_clashSet {b : Nat} (hb : IsN b) (n f : Int32) {σ : Mm} {J : Nat} (hJ : σ b 13 = nI J) (hJ2 : J ≤ 150) : EV Γ1 1 yX3_clashSet cX3_clashSet 3 (some .int) [.inr b, .inl n, .inl f] σ (fun r σ' => σ = σ' ∧ ((∃ i : Nat, i < J ∧ n = nI i ∧ r = σ (b + 3) i &&& f) ∨ (¬ vp_in n J ∧ r = 0))) := by
  have g0 := hb.1
  have g3 := hb.2.2.2.1
  refine EV.intro (by decide +kernel) (Nat.le_of_ble_eq_true rfl) ?_
  refine j_aload_n (pc := 0) dX3_clashSet_0 rfl ?_
  refine j_iload_n (pc := 1) dX3_clashSet_1 rfl ?_
  refine j_callVi (pc := 2) dX3_clashSet_2 k_X3_107 (c_X3_has hb _ hJ hJ2) (by first | rfl | with_reducible assumption) rfl rfl (by decide) rfl (Nat.le_of_ble_eq_true rfl) (fun r σ1 hp => ?_)
  obtain ⟨rfl, hp⟩ := hp
  rcases hp with ⟨q2, rfl⟩ | ⟨q2, rfl⟩
  · refine j_if_eq (pc := 5) (tgt := 19) dX3_clashSet_5 rfl (fun h => absurd h (by decide)) (fun _ => ?_)
    refine j_aload_n (pc := 8) dX3_clashSet_8 rfl ?_
    refine j_getR (pc := 9) dX3_clashSet_9 f_X3_18 (by first | rfl | with_reducible assumption) (by rfl) ?_
    refine j_iload_n (pc := 12) dX3_clashSet_12 rfl ?_
    refine j_iald (pc := 13) dX3_clashSet_13 (by first | rfl | with_reducible assumption) (vin_le q2 hJ2) ?_
    refine j_iload_n (pc := 14) dX3_clashSet_14 rfl ?_
    refine j_iand (pc := 15) dX3_clashSet_15 ?_
    refine j_goto (pc := 16) (tgt := 20) dX3_clashSet_16 rfl ?_
    refine j_iret (pc := 20) dX3_clashSet_20 ?_
    first | exact ⟨rfl, Or.inr ⟨q2, rfl⟩⟩ | (obtain ⟨i, hi, rfl⟩ := vp_in_of q2 (by omega); exact ⟨rfl, Or.inl ⟨i, hi, rfl, by rw [nI_clamp (by omega)]⟩⟩)
  · refine j_if_eq (pc := 5) (tgt := 19) dX3_clashSet_5 rfl (fun _ => ?_) (fun h => absurd h (by decide))
    refine j_iconst (pc := 19) dX3_clashSet_19 (v := 0) (by decide) ?_
    refine j_iret (pc := 20) dX3_clashSet_20 ?_
    first | exact ⟨rfl, Or.inr ⟨q2, rfl⟩⟩ | (obtain ⟨i, hi, rfl⟩ := vp_in_of q2 (by omega); exact ⟨rfl, Or.inl ⟨i, hi, rfl, by rw [nI_clamp (by omega)]⟩⟩)
theorem c_X3_farOf {b : Nat} (hb : IsN b) (n : Int32) {σ : Mm} {J : Nat} (hJ : σ b 13 = nI J) (hJ2 : J ≤ 150) : EV Γ1 1 yX3_farOf cX3_farOf 2 (some .int) [.inr b, .inl n] σ (fun r σ' => σ = σ' ∧ ((∃ i : Nat, i < J ∧ n = nI i ∧ r = σ (b + 9) i) ∨ (¬ vp_in n J ∧ r = -9))) := by
  have g0 := hb.1
  have g9 := hb.2.2.2.2.2.2.2.2.2.1
  refine EV.intro (by decide +kernel) (Nat.le_of_ble_eq_true rfl) ?_
  refine j_aload_n (pc := 0) dX3_farOf_0 rfl ?_
  refine j_iload_n (pc := 1) dX3_farOf_1 rfl ?_
  refine j_callVi (pc := 2) dX3_farOf_2 k_X3_107 (c_X3_has hb _ hJ hJ2) (by first | rfl | with_reducible assumption) rfl rfl (by decide) rfl (Nat.le_of_ble_eq_true rfl) (fun r σ1 hp => ?_)
  obtain ⟨rfl, hp⟩ := hp
  rcases hp with ⟨q2, rfl⟩ | ⟨q2, rfl⟩
  · refine j_if_eq (pc := 5) (tgt := 17) dX3_farOf_5 rfl (fun h => absurd h (by decide)) (fun _ => ?_)
    refine j_aload_n (pc := 8) dX3_farOf_8 rfl ?_
    refine j_getR (pc := 9) dX3_farOf_9 f_X3_37 (by first | rfl | with_reducible assumption) (by rfl) ?_
    refine j_iload_n (pc := 12) dX3_farOf_12 rfl ?_
    refine j_iald (pc := 13) dX3_farOf_13 (by first | rfl | with_reducible assumption) (vin_le q2 hJ2) ?_
    refine j_goto (pc := 14) (tgt := 19) dX3_farOf_14 rfl ?_
    refine j_iret (pc := 19) dX3_farOf_19 ?_
    first | exact ⟨rfl, Or.inr ⟨q2, rfl⟩⟩ | (obtain ⟨i, hi, rfl⟩ := vp_in_of q2 (by omega); exact ⟨rfl, Or.inl ⟨i, hi, rfl, by rw [nI_clamp (by omega)]⟩⟩)
  · refine j_if_eq (pc := 5) (tgt := 17) dX3_farOf_5 rfl (fun _ => ?_) (fun h => absurd h (by decide))
    refine j_bipush (pc := 17) dX3_farOf_17 (v := (-9)) (by decide) ?_
    refine j_iret (pc := 19) dX3_farOf_19 ?_
    first | exact ⟨rfl, Or.inr ⟨q2, rfl⟩⟩ | (obtain ⟨i, hi, rfl⟩ := vp_in_of q2 (by omega); exact ⟨rfl, Or.inl ⟨i, hi, rfl, by rw [nI_clamp (by omega)]⟩⟩)
theorem c_X3_countStuck {b : Nat} (hb : IsN b) (σ : Mm) : EV Γ1 0 yX3_countStuck cX3_countStuck 1 (some .int) [.inr b] σ (vz (σ b 13 - σ b 10) σ) := by
  have g0 := hb.1
  refine EV.intro (by decide +kernel) (Nat.le_of_ble_eq_true rfl) ?_
  refine j_aload_n (pc := 0) dX3_countStuck_0 rfl ?_
  refine j_getI (pc := 1) dX3_countStuck_1 f_X3_53 (by first | rfl | with_reducible assumption) (by rfl) ?_
  refine j_aload_n (pc := 4) dX3_countStuck_4 rfl ?_
  refine j_getI (pc := 5) dX3_countStuck_5 f_X3_43 (by first | rfl | with_reducible assumption) (by rfl) ?_
  refine j_isub (pc := 8) dX3_countStuck_8 ?_
  refine j_iret (pc := 9) dX3_countStuck_9 ?_
  exact ⟨rfl, rfl⟩
/-- enqueue: there is room -/
theorem c_X3_enqueue {b : Nat} (hb : IsN b) {n q : Nat} (dist : Int32) {σ : Mm} (hq : σ b 10 = nI q) (hq2 : q < 150) (hn : n < 150) : EV Γ1 0 yX3_enqueue cX3_enqueue 3 none [.inr b, .inl (nI n), .inl dist] σ (mz (m_up (m_up (m_up σ (b + 9) n dist) (b + 10) q (nI n)) b 10 (nI (q + 1)))) := by
  have g0 := hb.1
  have g9 := hb.2.2.2.2.2.2.2.2.2.1
  have g10 := hb.2.2.2.2.2.2.2.2.2.2
  refine EV.intro (by decide +kernel) (Nat.le_of_ble_eq_true rfl) ?_
  refine j_aload_n (pc := 0) dX3_enqueue_0 rfl ?_
  refine j_getI (pc := 1) dX3_enqueue_1 f_X3_43 (by first | rfl | with_reducible assumption) (by rfl) ?_
  refine j_sipush (pc := 4) dX3_enqueue_4 (v := 150) (by decide) ?_
  refine j_icmp_ge (pc := 7) (tgt := 37) dX3_enqueue_7 rfl (fun h7 => absurd (hq ▸ h7) (nI_ge (b := 150) hq2 (by decide))) (fun h7 => ?_)
  refine j_aload_n (pc := 10) dX3_enqueue_10 rfl ?_
  refine j_getR (pc := 11) dX3_enqueue_11 f_X3_37 (by first | rfl | with_reducible assumption) (by rfl) ?_
  refine j_iload_n (pc := 14) dX3_enqueue_14 rfl ?_
  refine j_iload_n (pc := 15) dX3_enqueue_15 rfl ?_
  refine j_iast (pc := 16) dX3_enqueue_16 (by first | rfl | with_reducible assumption) (vp_in_nI hn (by decide)) ?_
  refine j_aload_n (pc := 17) dX3_enqueue_17 rfl ?_
  refine j_getR (pc := 18) dX3_enqueue_18 f_X3_40 (by first | rfl | with_reducible assumption) (by rfl) ?_
  refine j_aload_n (pc := 21) dX3_enqueue_21 rfl ?_
  refine j_getI (pc := 22) dX3_enqueue_22 f_X3_43 (by first | rfl | with_reducible assumption) (by rfl) ?_
  refine j_iload_n (pc := 25) dX3_enqueue_25 rfl ?_
  refine j_iast (pc := 26) dX3_enqueue_26 (by first | rfl | with_reducible assumption) (by rw [m_ne (by omega), hq]; exact vp_in_nI hq2 (by decide)) ?_
  refine j_aload_n (pc := 27) dX3_enqueue_27 rfl ?_
  refine j_dup (pc := 28) dX3_enqueue_28 ?_
  refine j_getI (pc := 29) dX3_enqueue_29 f_X3_43 (by first | rfl | with_reducible assumption) (by rfl) ?_
  refine j_iconst (pc := 32) dX3_enqueue_32 (v := 1) (by decide) ?_
  refine j_iadd (pc := 33) dX3_enqueue_33 ?_
  refine j_put (pc := 34) dX3_enqueue_34 f_X3_43 (by first | rfl | with_reducible assumption) (by rfl) ?_
  refine j_vret (pc := 37) dX3_enqueue_37 ?_
  simp only [nI_clamp (show n < 2 ^ 31 by omega), m_ne (show b ≠ b + 9 by omega), m_ne (show b ≠ b + 10 by omega), hq, nI_clamp (show q < 2 ^ 31 by omega), nI_1]
  rfl
/-- add: room, or none -/
theorem c_X3_add {b : Nat} (hb : IsN b) (code : Int32) {σ : Mm} {J : Nat} (hJ : σ b 13 = nI J) (hJ2 : J ≤ 150) : EV Γ1 1 yX3_add cX3_add 2 (some .int) [.inr b, .inl code] σ (fun r σ' => (J < 150 ∧ r = nI J ∧ σ' = m_up (m_up (m_up σ (b + 1) J code) (b + 6) J (-9)) b 13 (nI (J + 1))) ∨ (J = 150 ∧ r = -9 ∧ σ' = σ)) := by
  have g0 := hb.1
  have g1 := hb.2.1
  have g6 := hb.2.2.2.2.2.2.1
  refine EV.intro (by decide +kernel) (Nat.le_of_ble_eq_true rfl) ?_
  refine j_aload_n (pc := 0) dX3_add_0 rfl ?_
  refine j_getI (pc := 1) dX3_add_1 f_X3_53 (by first | rfl | with_reducible assumption) (by rfl) ?_
  refine j_top hJ ?_
  refine j_callSNi (pc := 4) dX3_add_4 k_X3_118 (c_X7_isJoint _ _) rfl (by decide) rfl (Nat.le_of_ble_eq_true rfl) (fun r σ1 hp => ?_)
  obtain ⟨rfl, hp⟩ := hp
  rcases hp with ⟨q4, rfl⟩ | ⟨q4, rfl⟩
  · have h150 : J < 150 := by
      rw [vp_in_iff, nI_toInt (by omega)] at q4
      omega
    refine j_if_ne (pc := 7) (tgt := 13) dX3_add_7 rfl (fun _ => ?_) (fun h => absurd h (by decide))
    refine j_aload_n (pc := 13) dX3_add_13 rfl ?_
    refine j_getR (pc := 14) dX3_add_14 f_X3_9 (by first | rfl | with_reducible assumption) (by rfl) ?_
    refine j_aload_n (pc := 17) dX3_add_17 rfl ?_
    refine j_getI (pc := 18) dX3_add_18 f_X3_53 (by first | rfl | with_reducible assumption) (by rfl) ?_
    refine j_iload_n (pc := 21) dX3_add_21 rfl ?_
    refine j_iast (pc := 22) dX3_add_22 (by first | rfl | with_reducible assumption) (by rw [hJ]; exact vp_in_nI h150 (by decide)) ?_
    refine j_aload_n (pc := 23) dX3_add_23 rfl ?_
    refine j_getR (pc := 24) dX3_add_24 f_X3_28 (by first | rfl | with_reducible assumption) (by rfl) ?_
    refine j_aload_n (pc := 27) dX3_add_27 rfl ?_
    refine j_getI (pc := 28) dX3_add_28 f_X3_53 (by first | rfl | with_reducible assumption) (by rfl) ?_
    refine j_bipush (pc := 31) dX3_add_31 (v := (-9)) (by decide) ?_
    refine j_iast (pc := 33) dX3_add_33 (by first | rfl | with_reducible assumption) (by rw [m_ne (by omega), hJ]; exact vp_in_nI h150 (by decide)) ?_
    refine j_aload_n (pc := 34) dX3_add_34 rfl ?_
    refine j_dup (pc := 35) dX3_add_35 ?_
    refine j_getI (pc := 36) dX3_add_36 f_X3_53 (by first | rfl | with_reducible assumption) (by rfl) ?_
    refine j_iconst (pc := 39) dX3_add_39 (v := 1) (by decide) ?_
    refine j_iadd (pc := 40) dX3_add_40 ?_
    refine j_put (pc := 41) dX3_add_41 f_X3_53 (by first | rfl | with_reducible assumption) (by rfl) ?_
    refine j_aload_n (pc := 44) dX3_add_44 rfl ?_
    refine j_getI (pc := 45) dX3_add_45 f_X3_53 (by first | rfl | with_reducible assumption) (by rfl) ?_
    refine j_iconst (pc := 48) dX3_add_48 (v := 1) (by decide) ?_
    refine j_isub (pc := 49) dX3_add_49 ?_
    refine j_iret (pc := 50) dX3_add_50 ?_
    refine Or.inl ⟨h150, ?_, ?_⟩
    · simp only [m_eq, m_ne (show b ≠ b + 1 by omega), m_ne (show b ≠ b + 6 by omega), hJ, nI_1]
      exact nI_pred J
    · simp only [m_ne (show b ≠ b + 1 by omega), m_ne (show b ≠ b + 6 by omega), hJ, nI_1, nI_clamp (show J < 2 ^ 31 by omega)]
  · have h150 : J = 150 := by
      have : ¬ J < 150 := fun q => q4 (vp_in_nI q (by decide))
      omega
    refine j_if_ne (pc := 7) (tgt := 13) dX3_add_7 rfl (fun h => absurd h (by decide)) (fun _ => ?_)
    refine j_bipush (pc := 10) dX3_add_10 (v := (-9)) (by decide) ?_
    refine j_iret (pc := 12) dX3_add_12 ?_
    exact Or.inr ⟨h150, rfl, rfl⟩
