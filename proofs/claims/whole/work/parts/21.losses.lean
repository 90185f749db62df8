/-! LOSSES: small methods. The object is 46; 47 lostIn, 48 reasons, 49 events, 50 causes, 51 waveSizes -/
theorem c_X1_waveOf (n : Int32) (σ : Mm) : EV Γ1 1 yX1_waveOf cX1_waveOf 2 (some .int) [.inr 46, .inl n] σ (vz (fo 150 (σ 47) n) σ) := by
  refine EV.intro (by decide +kernel) (Nat.le_of_ble_eq_true rfl) ?_
  refine j_iload_n (pc := 0) dX1_waveOf_0 rfl ?_
  refine j_callSNi (pc := 1) dX1_waveOf_1 k_X1_100 (c_X7_isJoint _ _) rfl (by decide) rfl (Nat.le_of_ble_eq_true rfl) (fun r σ1 hp => ?_)
  obtain ⟨rfl, hp⟩ := hp
  rcases hp with ⟨q1, rfl⟩ | ⟨q1, rfl⟩
  · refine j_if_eq (pc := 4) (tgt := 16) dX1_waveOf_4 rfl (fun h => absurd h (by decide)) (fun _ => ?_)
    refine j_aload_n (pc := 7) dX1_waveOf_7 rfl ?_
    refine j_getR (pc := 8) dX1_waveOf_8 f_X1_9 (by first | rfl | with_reducible assumption) (by rfl) ?_
    refine j_iload_n (pc := 11) dX1_waveOf_11 rfl ?_
    refine j_iald (pc := 12) dX1_waveOf_12 (by first | rfl | with_reducible assumption) q1 ?_
    refine j_goto (pc := 13) (tgt := 18) dX1_waveOf_13 rfl ?_
    refine j_iret (pc := 18) dX1_waveOf_18 ?_
    first | exact ⟨rfl, (if_pos (inR_iff.mpr q1)).symm⟩ | exact ⟨rfl, (if_neg (fun q => q1 (inR_iff.mp q))).symm⟩
  · refine j_if_eq (pc := 4) (tgt := 16) dX1_waveOf_4 rfl (fun _ => ?_) (fun h => absurd h (by decide))
    refine j_bipush (pc := 16) dX1_waveOf_16 (v := (-9)) (by decide) ?_
    refine j_iret (pc := 18) dX1_waveOf_18 ?_
    first | exact ⟨rfl, (if_pos (inR_iff.mpr q1)).symm⟩ | exact ⟨rfl, (if_neg (fun q => q1 (inR_iff.mp q))).symm⟩
theorem c_X1_isLost (n : Int32) (σ : Mm) : EV Γ1 2 yX1_isLost cX1_isLost 2 (some .boolean) [.inr 46, .inl n] σ (bz (fo 150 (σ 47) n ≠ -9) σ) := by
  refine EV.intro (by decide +kernel) (Nat.le_of_ble_eq_true rfl) ?_
  refine j_aload_n (pc := 0) dX1_isLost_0 rfl ?_
  refine j_iload_n (pc := 1) dX1_isLost_1 rfl ?_
  refine j_callVi (pc := 2) dX1_isLost_2 k_X1_103 (c_X1_waveOf _ _) (by first | rfl | with_reducible assumption) rfl rfl (by decide) rfl (Nat.le_of_ble_eq_true rfl) (fun r σ1 hp => ?_)
  obtain ⟨rfl, rfl⟩ := hp
  refine j_bipush (pc := 5) dX1_isLost_5 (v := (-9)) (by decide) ?_
  refine j_icmp_eq (pc := 7) (tgt := 14) dX1_isLost_7 rfl (fun h7 => ?_) (fun h7 => ?_)
  · refine j_iconst (pc := 14) dX1_isLost_14 (v := 0) (by decide) ?_
    refine j_zret (pc := 15) dX1_isLost_15 (Or.inl rfl) ?_
    exact ⟨rfl, Or.inr ⟨fun q => q h7, rfl⟩⟩
  · refine j_iconst (pc := 10) dX1_isLost_10 (v := 1) (by decide) ?_
    refine j_goto (pc := 11) (tgt := 15) dX1_isLost_11 rfl ?_
    refine j_zret (pc := 15) dX1_isLost_15 (Or.inr rfl) ?_
    exact ⟨rfl, Or.inl ⟨h7, rfl⟩⟩
theorem c_X1_isLostInEarlierWave (n : Int32) (σ : Mm) : EV Γ1 1 yX1_isLostInEarlierWave cX1_isLostInEarlierWave 2 (some .boolean) [.inr 46, .inl n] σ (bz (vp_in n 150 ∧ σ 47 n.toNatClampNeg ≠ -9 ∧ σ 47 n.toNatClampNeg < σ 46 5) σ) := by
  refine EV.intro (by decide +kernel) (Nat.le_of_ble_eq_true rfl) ?_
  refine j_iload_n (pc := 0) dX1_isLostInEarlierWave_0 rfl ?_
  refine j_callSNi (pc := 1) dX1_isLostInEarlierWave_1 k_X1_100 (c_X7_isJoint _ _) rfl (by decide) rfl (Nat.le_of_ble_eq_true rfl) (fun r σ1 hp => ?_)
  obtain ⟨rfl, hp⟩ := hp
  rcases hp with ⟨q1, rfl⟩ | ⟨q1, rfl⟩
  · refine j_if_eq (pc := 4) (tgt := 35) dX1_isLostInEarlierWave_4 rfl (fun h => absurd h (by decide)) (fun _ => ?_)
    refine j_aload_n (pc := 7) dX1_isLostInEarlierWave_7 rfl ?_
    refine j_getR (pc := 8) dX1_isLostInEarlierWave_8 f_X1_9 (by first | rfl | with_reducible assumption) (by rfl) ?_
    refine j_iload_n (pc := 11) dX1_isLostInEarlierWave_11 rfl ?_
    refine j_iald (pc := 12) dX1_isLostInEarlierWave_12 (by first | rfl | with_reducible assumption) q1 ?_
    refine j_bipush (pc := 13) dX1_isLostInEarlierWave_13 (v := (-9)) (by decide) ?_
    refine j_icmp_eq (pc := 15) (tgt := 35) dX1_isLostInEarlierWave_15 rfl (fun h15 => ?_) (fun h15 => ?_)
    · refine j_iconst (pc := 35) dX1_isLostInEarlierWave_35 (v := 0) (by decide) ?_
      refine j_zret (pc := 36) dX1_isLostInEarlierWave_36 (Or.inl rfl) ?_
      refine ⟨rfl, Or.inr ⟨fun q => ?_, rfl⟩⟩
      first | exact q1 q.1 | exact q.2.1 h15 | exact absurd q.2.2 (by (simp only [Int32.lt_iff_toInt_lt, Int32.le_iff_toInt_le, ← Int32.toInt_inj, vp_in_iff, ti_0, ti_1, ti_2, ti_3, ti_4, ti_5, ti_6, ti_7, ti_8, ti_16, ti_48, ti_53, ti_60, ti_97, ti_104, ti_127, ti_149, ti_150, ti_151, ti_256, ti_1200, ti_m1, ti_m2, ti_m3, ti_m4, ti_m9] at *; omega))
    · refine j_aload_n (pc := 18) dX1_isLostInEarlierWave_18 rfl ?_
      refine j_getR (pc := 19) dX1_isLostInEarlierWave_19 f_X1_9 (by first | rfl | with_reducible assumption) (by rfl) ?_
      refine j_iload_n (pc := 22) dX1_isLostInEarlierWave_22 rfl ?_
      refine j_iald (pc := 23) dX1_isLostInEarlierWave_23 (by first | rfl | with_reducible assumption) q1 ?_
      refine j_aload_n (pc := 24) dX1_isLostInEarlierWave_24 rfl ?_
      refine j_getI (pc := 25) dX1_isLostInEarlierWave_25 f_X1_27 (by first | rfl | with_reducible assumption) (by rfl) ?_
      refine j_icmp_ge (pc := 28) (tgt := 35) dX1_isLostInEarlierWave_28 rfl (fun h28 => ?_) (fun h28 => ?_)
      · refine j_iconst (pc := 35) dX1_isLostInEarlierWave_35 (v := 0) (by decide) ?_
        refine j_zret (pc := 36) dX1_isLostInEarlierWave_36 (Or.inl rfl) ?_
        refine ⟨rfl, Or.inr ⟨fun q => ?_, rfl⟩⟩
        first | exact q1 q.1 | exact q.2.1 h15 | exact absurd q.2.2 (by (simp only [Int32.lt_iff_toInt_lt, Int32.le_iff_toInt_le, ← Int32.toInt_inj, vp_in_iff, ti_0, ti_1, ti_2, ti_3, ti_4, ti_5, ti_6, ti_7, ti_8, ti_16, ti_48, ti_53, ti_60, ti_97, ti_104, ti_127, ti_149, ti_150, ti_151, ti_256, ti_1200, ti_m1, ti_m2, ti_m3, ti_m4, ti_m9] at *; omega))
      · refine j_iconst (pc := 31) dX1_isLostInEarlierWave_31 (v := 1) (by decide) ?_
        refine j_goto (pc := 32) (tgt := 36) dX1_isLostInEarlierWave_32 rfl ?_
        refine j_zret (pc := 36) dX1_isLostInEarlierWave_36 (Or.inr rfl) ?_
        exact ⟨rfl, Or.inl ⟨⟨q1, h15, by (simp only [Int32.lt_iff_toInt_lt, Int32.le_iff_toInt_le, ← Int32.toInt_inj, vp_in_iff, ti_0, ti_1, ti_2, ti_3, ti_4, ti_5, ti_6, ti_7, ti_8, ti_16, ti_48, ti_53, ti_60, ti_97, ti_104, ti_127, ti_149, ti_150, ti_151, ti_256, ti_1200, ti_m1, ti_m2, ti_m3, ti_m4, ti_m9] at *; omega)⟩, rfl⟩⟩
  · refine j_if_eq (pc := 4) (tgt := 35) dX1_isLostInEarlierWave_4 rfl (fun _ => ?_) (fun h => absurd h (by decide))
    refine j_iconst (pc := 35) dX1_isLostInEarlierWave_35 (v := 0) (by decide) ?_
    refine j_zret (pc := 36) dX1_isLostInEarlierWave_36 (Or.inl rfl) ?_
    refine ⟨rfl, Or.inr ⟨fun q => ?_, rfl⟩⟩
    first | exact q1 q.1 | exact q.2.1 h15 | exact absurd q.2.2 (by (simp only [Int32.lt_iff_toInt_lt, Int32.le_iff_toInt_le, ← Int32.toInt_inj, vp_in_iff, ti_0, ti_1, ti_2, ti_3, ti_4, ti_5, ti_6, ti_7, ti_8, ti_16, ti_48, ti_53, ti_60, ti_97, ti_104, ti_127, ti_149, ti_150, ti_151, ti_256, ti_1200, ti_m1, ti_m2, ti_m3, ti_m4, ti_m9] at *; omega))
theorem c_X1_reasonOf (n : Int32) (σ : Mm) : EV Γ1 3 yX1_reasonOf cX1_reasonOf 2 (some .int) [.inr 46, .inl n] σ (fun r σ' => σ = σ' ∧ ((fo 150 (σ 47) n ≠ -9 ∧ r = σ 48 n.toNatClampNeg) ∨ (fo 150 (σ 47) n = -9 ∧ r = -9))) := by
  refine EV.intro (by decide +kernel) (Nat.le_of_ble_eq_true rfl) ?_
  refine j_aload_n (pc := 0) dX1_reasonOf_0 rfl ?_
  refine j_iload_n (pc := 1) dX1_reasonOf_1 rfl ?_
  refine j_callVi (pc := 2) dX1_reasonOf_2 k_X1_75 (c_X1_isLost _ _) (by first | rfl | with_reducible assumption) rfl rfl (by decide) rfl (Nat.le_of_ble_eq_true rfl) (fun r σ1 hp => ?_)
  obtain ⟨rfl, hp⟩ := hp
  rcases hp with ⟨q2, rfl⟩ | ⟨q2, rfl⟩
  · refine j_if_eq (pc := 5) (tgt := 17) dX1_reasonOf_5 rfl (fun h => absurd h (by decide)) (fun _ => ?_)
    refine j_aload_n (pc := 8) dX1_reasonOf_8 rfl ?_
    refine j_getR (pc := 9) dX1_reasonOf_9 f_X1_15 (by first | rfl | with_reducible assumption) (by rfl) ?_
    refine j_iload_n (pc := 12) dX1_reasonOf_12 rfl ?_
    refine j_iald (pc := 13) dX1_reasonOf_13 (by first | rfl | with_reducible assumption) (Classical.byContradiction fun q => q2 (if_neg (fun z => q (inR_iff.mp z)))) ?_
    refine j_goto (pc := 14) (tgt := 19) dX1_reasonOf_14 rfl ?_
    refine j_iret (pc := 19) dX1_reasonOf_19 ?_
    first | exact ⟨rfl, Or.inl ⟨q2, rfl⟩⟩ | exact ⟨rfl, Or.inr ⟨Classical.byContradiction q2, rfl⟩⟩
  · refine j_if_eq (pc := 5) (tgt := 17) dX1_reasonOf_5 rfl (fun _ => ?_) (fun h => absurd h (by decide))
    refine j_bipush (pc := 17) dX1_reasonOf_17 (v := (-9)) (by decide) ?_
    refine j_iret (pc := 19) dX1_reasonOf_19 ?_
    first | exact ⟨rfl, Or.inl ⟨q2, rfl⟩⟩ | exact ⟨rfl, Or.inr ⟨Classical.byContradiction q2, rfl⟩⟩
theorem c_X1_eventOf (n : Int32) (σ : Mm) : EV Γ1 3 yX1_eventOf cX1_eventOf 2 (some .int) [.inr 46, .inl n] σ (fun r σ' => σ = σ' ∧ ((fo 150 (σ 47) n ≠ -9 ∧ r = σ 49 n.toNatClampNeg) ∨ (fo 150 (σ 47) n = -9 ∧ r = -9))) := by
  refine EV.intro (by decide +kernel) (Nat.le_of_ble_eq_true rfl) ?_
  refine j_aload_n (pc := 0) dX1_eventOf_0 rfl ?_
  refine j_iload_n (pc := 1) dX1_eventOf_1 rfl ?_
  refine j_callVi (pc := 2) dX1_eventOf_2 k_X1_75 (c_X1_isLost _ _) (by first | rfl | with_reducible assumption) rfl rfl (by decide) rfl (Nat.le_of_ble_eq_true rfl) (fun r σ1 hp => ?_)
  obtain ⟨rfl, hp⟩ := hp
  rcases hp with ⟨q2, rfl⟩ | ⟨q2, rfl⟩
  · refine j_if_eq (pc := 5) (tgt := 17) dX1_eventOf_5 rfl (fun h => absurd h (by decide)) (fun _ => ?_)
    refine j_aload_n (pc := 8) dX1_eventOf_8 rfl ?_
    refine j_getR (pc := 9) dX1_eventOf_9 f_X1_18 (by first | rfl | with_reducible assumption) (by rfl) ?_
    refine j_iload_n (pc := 12) dX1_eventOf_12 rfl ?_
    refine j_iald (pc := 13) dX1_eventOf_13 (by first | rfl | with_reducible assumption) (Classical.byContradiction fun q => q2 (if_neg (fun z => q (inR_iff.mp z)))) ?_
    refine j_goto (pc := 14) (tgt := 19) dX1_eventOf_14 rfl ?_
    refine j_iret (pc := 19) dX1_eventOf_19 ?_
    first | exact ⟨rfl, Or.inl ⟨q2, rfl⟩⟩ | exact ⟨rfl, Or.inr ⟨Classical.byContradiction q2, rfl⟩⟩
  · refine j_if_eq (pc := 5) (tgt := 17) dX1_eventOf_5 rfl (fun _ => ?_) (fun h => absurd h (by decide))
    refine j_bipush (pc := 17) dX1_eventOf_17 (v := (-9)) (by decide) ?_
    refine j_iret (pc := 19) dX1_eventOf_19 ?_
    first | exact ⟨rfl, Or.inl ⟨q2, rfl⟩⟩ | exact ⟨rfl, Or.inr ⟨Classical.byContradiction q2, rfl⟩⟩
theorem c_X1_hasWave (n : Int32) {σ : Mm} {W : Nat} (hW : σ 46 5 = nI W) (hW2 : W < 2 ^ 31) : EV Γ1 0 yX1_hasWave cX1_hasWave 2 (some .boolean) [.inr 46, .inl n] σ (bz (vp_in n W) σ) := by
  have tW : (nI W).toInt = W := nI_toInt hW2
  refine EV.intro (by decide +kernel) (Nat.le_of_ble_eq_true rfl) ?_
  refine j_iload_n (pc := 0) dX1_hasWave_0 rfl ?_
  refine j_if_lt (pc := 1) (tgt := 16) dX1_hasWave_1 rfl (fun h1 => ?_) (fun h1 => ?_)
  · refine j_iconst (pc := 16) dX1_hasWave_16 (v := 0) (by decide) ?_
    refine j_zret (pc := 17) dX1_hasWave_17 (Or.inl rfl) ?_
    exact ⟨rfl, Or.inr ⟨by (simp only [Int32.lt_iff_toInt_lt, Int32.le_iff_toInt_le, ← Int32.toInt_inj, vp_in_iff, ti_0, ti_1, ti_2, ti_3, ti_4, ti_5, ti_6, ti_7, ti_8, ti_16, ti_48, ti_53, ti_60, ti_97, ti_104, ti_127, ti_149, ti_150, ti_151, ti_256, ti_1200, ti_m1, ti_m2, ti_m3, ti_m4, ti_m9, tW] at *; omega), rfl⟩⟩
  · refine j_iload_n (pc := 4) dX1_hasWave_4 rfl ?_
    refine j_aload_n (pc := 5) dX1_hasWave_5 rfl ?_
    refine j_getI (pc := 6) dX1_hasWave_6 f_X1_27 (by first | rfl | with_reducible assumption) (by rfl) ?_
    refine j_top hW ?_
    refine j_icmp_ge (pc := 9) (tgt := 16) dX1_hasWave_9 rfl (fun h9 => ?_) (fun h9 => ?_)
    · refine j_iconst (pc := 16) dX1_hasWave_16 (v := 0) (by decide) ?_
      refine j_zret (pc := 17) dX1_hasWave_17 (Or.inl rfl) ?_
      exact ⟨rfl, Or.inr ⟨by (simp only [Int32.lt_iff_toInt_lt, Int32.le_iff_toInt_le, ← Int32.toInt_inj, vp_in_iff, ti_0, ti_1, ti_2, ti_3, ti_4, ti_5, ti_6, ti_7, ti_8, ti_16, ti_48, ti_53, ti_60, ti_97, ti_104, ti_127, ti_149, ti_150, ti_151, ti_256, ti_1200, ti_m1, ti_m2, ti_m3, ti_m4, ti_m9, tW] at *; omega), rfl⟩⟩
    · refine j_iconst (pc := 12) dX1_hasWave_12 (v := 1) (by decide) ?_
      refine j_goto (pc := 13) (tgt := 17) dX1_hasWave_13 rfl ?_
      refine j_zret (pc := 17) dX1_hasWave_17 (Or.inr rfl) ?_
      exact ⟨rfl, Or.inl ⟨by (simp only [Int32.lt_iff_toInt_lt, Int32.le_iff_toInt_le, ← Int32.toInt_inj, vp_in_iff, ti_0, ti_1, ti_2, ti_3, ti_4, ti_5, ti_6, ti_7, ti_8, ti_16, ti_48, ti_53, ti_60, ti_97, ti_104, ti_127, ti_149, ti_150, ti_151, ti_256, ti_1200, ti_m1, ti_m2, ti_m3, ti_m4, ti_m9, tW] at *; omega), rfl⟩⟩
theorem c_X1_sizeOfWave {i : Nat} (hi : i < 151) (σ : Mm) : EV Γ1 0 yX1_sizeOfWave cX1_sizeOfWave 2 (some .int) [.inr 46, .inl (nI i)] σ (vz (σ 51 i) σ) := by
  refine EV.intro (by decide +kernel) (Nat.le_of_ble_eq_true rfl) ?_
  refine j_iload_n (pc := 0) dX1_sizeOfWave_0 rfl ?_
  refine j_if_lt (pc := 1) (tgt := 20) dX1_sizeOfWave_1 rfl (fun h1 => absurd h1 (nI_pos (by omega))) (fun h1 => ?_)
  refine j_iload_n (pc := 4) dX1_sizeOfWave_4 rfl ?_
  refine j_sipush (pc := 5) dX1_sizeOfWave_5 (v := 151) (by decide) ?_
  refine j_icmp_ge (pc := 8) (tgt := 20) dX1_sizeOfWave_8 rfl (fun h8 => absurd h8 (nI_ge (b := 151) hi (by decide))) (fun h8 => ?_)
  refine j_aload_n (pc := 11) dX1_sizeOfWave_11 rfl ?_
  refine j_getR (pc := 12) dX1_sizeOfWave_12 f_X1_24 (by first | rfl | with_reducible assumption) (by rfl) ?_
  refine j_iload_n (pc := 15) dX1_sizeOfWave_15 rfl ?_
  refine j_iald (pc := 16) dX1_sizeOfWave_16 (by first | rfl | with_reducible assumption) (vp_in_nI hi (by decide)) ?_
  refine j_goto (pc := 17) (tgt := 21) dX1_sizeOfWave_17 rfl ?_
  refine j_iret (pc := 21) dX1_sizeOfWave_21 ?_
  exact ⟨rfl, by rw [nI_clamp (by omega)]⟩
/-- the link behind: where the causes lead -/
def stpL (c : Nat → Int32) (v : Int32) : Int32 := if inR 150 v = true then c v.toNatClampNeg else v
theorem itrL_out {c : Nat → Int32} {v : Int32} {i : Nat} (h : ¬ inR 150 (itr (stpL c) i v) = true) : ∀ k, i ≤ k → itr (stpL c) k v = itr (stpL c) i v := by
  intro k hk
  induction hk with
  | refl => rfl
  | @step k _ ih =>
    show stpL c (itr (stpL c) k v) = _
    rw [ih]
    exact if_neg h
theorem c_X1_linkBehind (n : Int32) {k : Nat} (hk : k < 150) (σ : Mm) : EV Γ1 3 yX1_linkBehind cX1_linkBehind 5 (some .int) [.inr 46, .inl n, .inl (nI k)] σ (vz (itr (stpL (σ 50)) k (if fo 150 (σ 47) n ≠ -9 then n else -9)) σ) := by
  have loop : ∀ (v : Int32) (q i : Nat), i + q = k → AJ Γ1 3 RX1 cX1_linkBehind 5 (some .int) (vz (itr (stpL (σ 50)) k v) σ) 18 [some (.inr 46), some (.inl n), some (.inl (nI k)), some (.inl (itr (stpL (σ 50)) i v)), some (.inl (nI i))] [] σ := by
    intro v q
    induction q with
    | zero =>
      intro i hi
      obtain rfl : i = k := by omega
      refine j_iload (pc := 18) dX1_linkBehind_18 rfl ?_
      refine j_iload_n (pc := 20) dX1_linkBehind_20 rfl ?_
      refine j_icmp_ge (pc := 21) (tgt := 44) dX1_linkBehind_21 rfl (fun h21 => ?_) (fun h21 => absurd (Int32.le_refl _) h21)
      refine j_iload_n (pc := 44) dX1_linkBehind_44 rfl ?_
      refine j_iret (pc := 45) dX1_linkBehind_45 ?_
      exact ⟨rfl, rfl⟩
    | succ q ih =>
      intro i hi
      refine j_iload (pc := 18) dX1_linkBehind_18 rfl ?_
      refine j_iload_n (pc := 20) dX1_linkBehind_20 rfl ?_
      refine j_icmp_ge (pc := 21) (tgt := 44) dX1_linkBehind_21 rfl (fun h21 => absurd h21 (nI_ge (by omega) (by omega))) (fun h21 => ?_)
      refine j_iload_n (pc := 24) dX1_linkBehind_24 rfl ?_
      refine j_callSNi (pc := 25) dX1_linkBehind_25 k_X1_100 (c_X7_isJoint _ _) rfl (by decide) rfl (Nat.le_of_ble_eq_true rfl) (fun r σ1 hp => ?_)
      obtain ⟨rfl, hp⟩ := hp
      rcases hp with ⟨q25, rfl⟩ | ⟨q25, rfl⟩
      · refine j_if_eq (pc := 28) (tgt := 44) dX1_linkBehind_28 rfl (fun h => absurd h (by decide)) (fun _ => ?_)
        refine j_aload_n (pc := 31) dX1_linkBehind_31 rfl ?_
        refine j_getR (pc := 32) dX1_linkBehind_32 f_X1_21 (by first | rfl | with_reducible assumption) (by rfl) ?_
        refine j_iload_n (pc := 35) dX1_linkBehind_35 rfl ?_
        refine j_iald (pc := 36) dX1_linkBehind_36 (by first | rfl | with_reducible assumption) q25 ?_
        refine j_top (y := itr (stpL (σ 50)) (i + 1) v) (show _ = stpL (σ 50) (itr (stpL (σ 50)) i v) from (if_pos (inR_iff.mpr q25)).symm) ?_
        refine j_istore_n (pc := 37) dX1_linkBehind_37 (by decide) ?_
        refine j_iinc1 (pc := 38) dX1_linkBehind_38 rfl ?_
        refine j_goto (pc := 41) (tgt := 18) dX1_linkBehind_41 rfl ?_
        rw [nI_1]
        exact ih (i + 1) (by omega)
      · refine j_if_eq (pc := 28) (tgt := 44) dX1_linkBehind_28 rfl (fun _ => ?_) (fun h => absurd h (by decide))
        refine j_iload_n (pc := 44) dX1_linkBehind_44 rfl ?_
        refine j_iret (pc := 45) dX1_linkBehind_45 ?_
        exact ⟨rfl, (itrL_out (fun z => q25 (inR_iff.mp z)) k (by omega)).symm⟩
  refine EV.intro (by decide +kernel) (Nat.le_of_ble_eq_true rfl) ?_
  refine j_aload_n (pc := 0) dX1_linkBehind_0 rfl ?_
  refine j_iload_n (pc := 1) dX1_linkBehind_1 rfl ?_
  refine j_callVi (pc := 2) dX1_linkBehind_2 k_X1_75 (c_X1_isLost _ _) (by first | rfl | with_reducible assumption) rfl rfl (by decide) rfl (Nat.le_of_ble_eq_true rfl) (fun r σ1 hp => ?_)
  obtain ⟨rfl, hp⟩ := hp
  rcases hp with ⟨q2, rfl⟩ | ⟨q2, rfl⟩
  · refine j_if_eq (pc := 5) (tgt := 12) dX1_linkBehind_5 rfl (fun h => absurd h (by decide)) (fun _ => ?_)
    refine j_iload_n (pc := 8) dX1_linkBehind_8 rfl ?_
    refine j_goto (pc := 9) (tgt := 14) dX1_linkBehind_9 rfl ?_
    refine j_istore_n (pc := 14) dX1_linkBehind_14 (by decide) ?_
    refine j_iconst (pc := 15) dX1_linkBehind_15 (v := 0) (by decide) ?_
    refine j_istore (pc := 16) dX1_linkBehind_16 (by decide) ?_
    first | (rw [if_pos q2]; exact loop n k 0 (by omega)) | (rw [if_neg q2]; exact loop (-9) k 0 (by omega))
  · refine j_if_eq (pc := 5) (tgt := 12) dX1_linkBehind_5 rfl (fun _ => ?_) (fun h => absurd h (by decide))
    refine j_bipush (pc := 12) dX1_linkBehind_12 (v := (-9)) (by decide) ?_
    refine j_istore_n (pc := 14) dX1_linkBehind_14 (by decide) ?_
    refine j_iconst (pc := 15) dX1_linkBehind_15 (v := 0) (by decide) ?_
    refine j_istore (pc := 16) dX1_linkBehind_16 (by decide) ?_
    first | (rw [if_pos q2]; exact loop n k 0 (by omega)) | (rw [if_neg q2]; exact loop (-9) k 0 (by omega))
theorem c_X1_lose {n k : Nat} (hn : n < 150) (hk : k < 151) (re ev ca : Int32) {σ : Mm} (hw : σ 46 5 = nI k) : EV Γ1 1 yX1_lose cX1_lose 5 none [.inr 46, .inl (nI n), .inl re, .inl ev, .inl ca] σ (mz (m_up (m_up (m_up (m_up (m_up (m_up σ 47 n (nI k)) 48 n re) 49 n ev) 50 n ca) 51 k (σ 51 k + 1)) 46 6 (σ 46 6 + 1))) := by
  have hcn : (nI n).toNatClampNeg = n := nI_clamp (by omega)
  have hck : (nI k).toNatClampNeg = k := nI_clamp (by omega)
  have hvn : vp_in (nI n) 150 := vp_in_nI hn (by decide)
  refine EV.intro (by decide +kernel) (Nat.le_of_ble_eq_true rfl) ?_
  refine j_iload_n (pc := 0) dX1_lose_0 rfl ?_
  refine j_callSNi (pc := 1) dX1_lose_1 k_X1_100 (c_X7_isJoint _ _) rfl (by decide) rfl (Nat.le_of_ble_eq_true rfl) (fun r σ1 hp => ?_)
  obtain ⟨rfl, hp⟩ := hp
  rcases hp with ⟨q1, rfl⟩ | ⟨q1, rfl⟩
  · refine j_if_eq (pc := 4) (tgt := 17) dX1_lose_4 rfl (fun h => absurd h (by decide)) (fun _ => ?_)
    refine j_aload_n (pc := 7) dX1_lose_7 rfl ?_
    refine j_getI (pc := 8) dX1_lose_8 f_X1_27 (by first | rfl | with_reducible assumption) (by rfl) ?_
    refine j_top hw ?_
    refine j_sipush (pc := 11) dX1_lose_11 (v := 151) (by decide) ?_
    refine j_icmp_lt (pc := 14) (tgt := 18) dX1_lose_14 rfl (fun h14 => ?_) (fun h14 => absurd ((nI_ltI (b := 151) (by omega) (by decide)).mpr hk) h14)
    refine j_aload_n (pc := 18) dX1_lose_18 rfl ?_
    refine j_getR (pc := 19) dX1_lose_19 f_X1_9 (by first | rfl | with_reducible assumption) (by rfl) ?_
    refine j_iload_n (pc := 22) dX1_lose_22 rfl ?_
    refine j_aload_n (pc := 23) dX1_lose_23 rfl ?_
    refine j_getI (pc := 24) dX1_lose_24 f_X1_27 (by first | rfl | with_reducible assumption) (by rfl) ?_
    refine j_top hw ?_
    refine j_iast (pc := 27) dX1_lose_27 (by first | rfl | with_reducible assumption) hvn ?_
    rw [hcn]
    refine j_aload_n (pc := 28) dX1_lose_28 rfl ?_
    refine j_getR (pc := 29) dX1_lose_29 f_X1_15 (by first | rfl | with_reducible assumption) (by rfl) ?_
    refine j_iload_n (pc := 32) dX1_lose_32 rfl ?_
    refine j_iload_n (pc := 33) dX1_lose_33 rfl ?_
    refine j_iast (pc := 34) dX1_lose_34 (by first | rfl | with_reducible assumption) hvn ?_
    rw [hcn]
    refine j_aload_n (pc := 35) dX1_lose_35 rfl ?_
    refine j_getR (pc := 36) dX1_lose_36 f_X1_18 (by first | rfl | with_reducible assumption) (by rfl) ?_
    refine j_iload_n (pc := 39) dX1_lose_39 rfl ?_
    refine j_iload_n (pc := 40) dX1_lose_40 rfl ?_
    refine j_iast (pc := 41) dX1_lose_41 (by first | rfl | with_reducible assumption) hvn ?_
    rw [hcn]
    refine j_aload_n (pc := 42) dX1_lose_42 rfl ?_
    refine j_getR (pc := 43) dX1_lose_43 f_X1_21 (by first | rfl | with_reducible assumption) (by rfl) ?_
    refine j_iload_n (pc := 46) dX1_lose_46 rfl ?_
    refine j_iload (pc := 47) dX1_lose_47 rfl ?_
    refine j_iast (pc := 49) dX1_lose_49 (by first | rfl | with_reducible assumption) hvn ?_
    rw [hcn]
    refine j_aload_n (pc := 50) dX1_lose_50 rfl ?_
    refine j_getR (pc := 51) dX1_lose_51 f_X1_24 (by first | rfl | with_reducible assumption) (by rfl) ?_
    refine j_aload_n (pc := 54) dX1_lose_54 rfl ?_
    refine j_getI (pc := 55) dX1_lose_55 f_X1_27 (by first | rfl | with_reducible assumption) (by rfl) ?_
    refine j_top (y := nI k) (by rw [m_ne (by decide), m_ne (by decide), m_ne (by decide), m_ne (by decide)]; exact hw) ?_
    refine j_dup2 (pc := 58) dX1_lose_58 ?_
    refine j_iald (pc := 59) dX1_lose_59 (by first | rfl | with_reducible assumption) (vp_in_nI hk (by decide)) ?_
    refine j_iconst (pc := 60) dX1_lose_60 (v := 1) (by decide) ?_
    refine j_iadd (pc := 61) dX1_lose_61 ?_
    refine j_iast (pc := 62) dX1_lose_62 (by first | rfl | with_reducible assumption) (vp_in_nI hk (by decide)) ?_
    rw [hck]
    refine j_aload_n (pc := 63) dX1_lose_63 rfl ?_
    refine j_dup (pc := 64) dX1_lose_64 ?_
    refine j_getI (pc := 65) dX1_lose_65 f_X1_31 (by first | rfl | with_reducible assumption) (by rfl) ?_
    refine j_iconst (pc := 68) dX1_lose_68 (v := 1) (by decide) ?_
    refine j_iadd (pc := 69) dX1_lose_69 ?_
    refine j_put (pc := 70) dX1_lose_70 f_X1_31 (by first | rfl | with_reducible assumption) (by rfl) ?_
    refine j_vret (pc := 73) dX1_lose_73 ?_
    simp only [m_ne (show 51 ≠ 50 by decide), m_ne (show 51 ≠ 49 by decide), m_ne (show 51 ≠ 48 by decide), m_ne (show 51 ≠ 47 by decide), m_ne (show 46 ≠ 51 by decide), m_ne (show 46 ≠ 50 by decide), m_ne (show 46 ≠ 49 by decide), m_ne (show 46 ≠ 48 by decide), m_ne (show 46 ≠ 47 by decide)]
    rfl
  · exact absurd hvn q1
    skip
/-- the rows hold a table; behind the J JOINTS nothing is LOST -/
def LI (σ : Mm) (J : Nat) (w r v c : Nat → Int32) : Prop := (∀ n, n < J → σ 47 n = w n ∧ (w n ≠ -9 → σ 48 n = r n ∧ σ 49 n = v n ∧ σ 50 n = c n)) ∧ (∀ n, J ≤ n → n < 150 → σ 47 n = -9) ∧ σ 46 6 = nI (cntF w J) ∧ ∀ i, i < 151 → σ 51 i = nI (cntW w i J)
/-- nothing but the rows of Losses has changed (46: but how many waves there are) -/
def FrL (σ σ' : Mm) : Prop := (∀ x, x < 46 ∨ 51 < x → σ' x = σ x) ∧ σ' 46 5 = σ 46 5
theorem FrL.rf {σ : Mm} : FrL σ σ := ⟨fun _ _ => rfl, rfl⟩
theorem FrL.tr {σ σ' σ'' : Mm} (h1 : FrL σ σ') (h2 : FrL σ' σ'') : FrL σ σ'' := ⟨fun x h => (h2.1 x h).trans (h1.1 x h), h2.2.trans h1.2⟩
theorem LI.lose {σ : Mm} {J : Nat} {w r v c : Nat → Int32} (h : LI σ J w r v c) {n k : Nat} (hJ : J ≤ 150) (hn : n < J) (hk : k < 151) (h0 : w n = -9) (re ev ca : Int32) : LI (m_up (m_up (m_up (m_up (m_up (m_up σ 47 n (nI k)) 48 n re) 49 n ev) 50 n ca) 51 k (σ 51 k + 1)) 46 6 (σ 46 6 + 1)) J (upd w n (nI k)) (upd r n re) (upd v n ev) (upd c n ca) ∧ FrL σ (m_up (m_up (m_up (m_up (m_up (m_up σ 47 n (nI k)) 48 n re) 49 n ev) 50 n ca) 51 k (σ 51 k + 1)) 46 6 (σ 46 6 + 1)) := by
  obtain ⟨h1, h2, h3, h4⟩ := h
  constructor
  · unfold LI
    simp only [m_row, m_ne (show 47 ≠ 46 by decide), m_ne (show 47 ≠ 48 by decide), m_ne (show 47 ≠ 49 by decide), m_ne (show 47 ≠ 50 by decide), m_ne (show 47 ≠ 51 by decide), m_ne (show 48 ≠ 46 by decide), m_ne (show 48 ≠ 47 by decide), m_ne (show 48 ≠ 49 by decide), m_ne (show 48 ≠ 50 by decide), m_ne (show 48 ≠ 51 by decide), m_ne (show 49 ≠ 46 by decide), m_ne (show 49 ≠ 47 by decide), m_ne (show 49 ≠ 48 by decide), m_ne (show 49 ≠ 50 by decide), m_ne (show 49 ≠ 51 by decide), m_ne (show 50 ≠ 46 by decide), m_ne (show 50 ≠ 47 by decide), m_ne (show 50 ≠ 48 by decide), m_ne (show 50 ≠ 49 by decide), m_ne (show 50 ≠ 51 by decide), m_ne (show 51 ≠ 46 by decide), m_ne (show 51 ≠ 47 by decide), m_ne (show 51 ≠ 48 by decide), m_ne (show 51 ≠ 49 by decide), m_ne (show 51 ≠ 50 by decide), m_ne (show 46 ≠ 47 by decide), m_ne (show 46 ≠ 48 by decide), m_ne (show 46 ≠ 49 by decide), m_ne (show 46 ≠ 50 by decide), m_ne (show 46 ≠ 51 by decide)]
    refine ⟨fun i hi => ?_, fun i a b => ?_, ?_, fun i hi => ?_⟩
    · by_cases q : i = n
      · subst q
        rw [pk_us, pk_us, pk_us, pk_us, pk_us, pk_us, pk_us, pk_us]
        exact ⟨rfl, fun _ => ⟨rfl, rfl, rfl⟩⟩
      · rw [pk_un q, pk_un q, pk_un q, pk_un q, pk_un q, pk_un q, pk_un q, pk_un q]
        exact h1 i hi
    · rw [pk_un (by omega)]; exact h2 i a b
    · rw [pk_us, cnt_upd h0 (nI_z (by omega)) J hn, h3, nI_1]
    · rw [cntW_upd h0 (by omega) (by omega) J hn]
      by_cases q : i = k
      · subst q; rw [pk_us, if_pos rfl, h4 i hi, nI_1]
      · rw [pk_un q, if_neg q, Nat.add_zero, h4 i hi]
  · refine ⟨fun x hx => ?_, ?_⟩
    · rw [m_ne (by omega), m_ne (by omega), m_ne (by omega), m_ne (by omega), m_ne (by omega), m_ne (by omega)]
    · rw [m_nk (by decide), m_ne (by decide), m_ne (by decide), m_ne (by decide), m_ne (by decide), m_ne (by decide)]
/-- what Losses needs of net (23): where EVENTS LEAD, which LEAD, which CLASH, which are FINISHED -/
def NL (σ : Mm) (J : Nat) (tg : Nat → Int32) (fn : Nat → Bool) (cl : Nat → Nat → Bool) : Prop := NM σ 23 J tg fn ∧ (∀ y, y < 8 * J → σ 28 y = tg y) ∧ (∀ n, n < J → ∀ e, e < 32 → bt (σ 25 n) e = (decide (e < 8) && decide (tg (8 * n + e) ≠ -9))) ∧ ∀ n, n < J → ∀ e, e < 32 → bt (σ 26 n) e = (decide (e < 8) && cl n e)
theorem NL.fr {σ σ' : Mm} {J : Nat} {tg : Nat → Int32} {fn : Nat → Bool} {cl : Nat → Nat → Bool} (h : NL σ J tg fn cl) (hF : FrL σ σ') : NL σ' J tg fn cl := by
  unfold NL NM at *
  rw [hF.1 23 (by decide), hF.1 (23 + 4) (by decide), hF.1 (23 + 7) (by decide), hF.1 (23 + 6) (by decide), hF.1 28 (by decide), hF.1 25 (by decide), hF.1 26 (by decide)]
  exact h
theorem lst_cong {p q : Nat → Bool} (h : ∀ e, e < 8 → p e = q e) : lstE p = lstE q := by
  rcases lst_cases q with ⟨e, h1, h2, h3, h4⟩ | ⟨h1, h2⟩
  · rw [h4]
    exact lst_hit h1 (by rw [h e h1]; exact h2) (fun j hj => by rw [h j (by omega)]; exact h3 j hj)
  · rw [h2]
    exact lst_none (fun j hj => by rw [h j hj]; exact h1 j hj)
theorem lst_9 {p : Nat → Bool} : lstE p = -9 ↔ ∀ e, e < 8 → p e = false := by
  rcases lst_cases p with ⟨e, h1, h2, h3, h4⟩ | ⟨h1, h2⟩
  · rw [h4]
    exact ⟨fun q => absurd q (nI_z (by omega)), fun q => by rw [q e h1] at h2; cases h2⟩
  · exact ⟨fun _ => h1, fun _ => h2⟩
theorem bits_0 {x : Int32} (h : ∀ e, e < 32 → bt x e = false) : x = 0 := b_ext (fun i hi => by rw [h i hi, b_0])
