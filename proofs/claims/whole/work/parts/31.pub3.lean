/-! LEASTBARS: its public methods that ask -/
section Ask
variable {σ : Mm} {n0 : Nat} {t : Nat → Int32} {N : Nat} {K : Nat → Int32} {M : Nat → MV} {fs : Int32} {h : List Int32} {pl : Int32}
theorem NL.size {σ : Mm} {J : Nat} {tg : Nat → Int32} {fn : Nat → Bool} {cl : Nat → Nat → Bool} (h : NL σ J tg fn cl) : σ 23 13 = nI J := h.1.2.1
theorem c_X7_stateOf (n m : Int32) (q : R1 σ n0 t N K M fs h pl) : EV Γ1 2 yX7_stateOf cX7_stateOf 3 (some .int) [.inr 0, .inl n, .inl m] σ (fun r σ' => σ = σ' ∧ Ans (TA N K M) (allS N) fs (-1) (fun _ => q_stateOf (TA N K M) (allS N) N n m) r) := by
  obtain ⟨hb, hfs, hD, hP, h45, hTr⟩ := q
  have hN := hb.2.2.2.1
  have h6 := hb.2.2.2.2.1
  refine EV.intro (by decide +kernel) (Nat.le_of_ble_eq_true rfl) ?_
  rcases hD with ⟨hO, s13, s14, -⟩ | ⟨hO, hG, k, hk⟩
  · refine j_aload_n (pc := 0) dX7_stateOf_0 rfl ?_
    refine j_getR (pc := 1) dX7_stateOf_1 f_X7_33 (by first | rfl | with_reducible assumption) (by rfl) ?_
    refine j_iload_n (pc := 4) dX7_stateOf_4 rfl ?_
    refine j_callVNi (pc := 5) dX7_stateOf_5 k_X7_129 (c_X3_has isN_net n (J := 0) s13 (by decide)) (by first | rfl | with_reducible assumption) rfl rfl (by decide) rfl (Nat.le_of_ble_eq_true rfl) (fun r σ1 hp => ?_)
    obtain ⟨rfl, hp⟩ := hp
    rcases hp with ⟨q5, rfl⟩ | ⟨q5, rfl⟩
    · exact absurd q5 (by rw [vp_in_iff]; omega)
      skip
    · refine j_if_eq (pc := 8) (tgt := 19) dX7_stateOf_8 rfl (fun _ => ?_) (fun h => absurd h (by decide))
      refine j_iconst (pc := 19) dX7_stateOf_19 (v := (-1)) (by decide) ?_
      refine j_iret (pc := 20) dX7_stateOf_20 ?_
      exact ⟨rfl, Or.inl ⟨hO, rfl⟩⟩
  · have hJ := hG.1
    refine j_aload_n (pc := 0) dX7_stateOf_0 rfl ?_
    refine j_getR (pc := 1) dX7_stateOf_1 f_X7_33 (by first | rfl | with_reducible assumption) (by rfl) ?_
    refine j_iload_n (pc := 4) dX7_stateOf_4 rfl ?_
    refine j_callVNi (pc := 5) dX7_stateOf_5 k_X7_129 (c_X3_has isN_net n hG.2.2.1 hG.1) (by first | rfl | with_reducible assumption) rfl rfl (by decide) rfl (Nat.le_of_ble_eq_true rfl) (fun r σ1 hp => ?_)
    obtain ⟨rfl, hp⟩ := hp
    rcases hp with ⟨q5, rfl⟩ | ⟨q5, rfl⟩
    · refine j_if_eq (pc := 8) (tgt := 19) dX7_stateOf_8 rfl (fun h => absurd h (by decide)) (fun _ => ?_)
      refine j_aload_n (pc := 11) dX7_stateOf_11 rfl ?_
      refine j_iload_n (pc := 12) dX7_stateOf_12 rfl ?_
      refine j_callVi (pc := 13) dX7_stateOf_13 k_X7_104 (c_X7_isMachine m hN h6) (by first | rfl | with_reducible assumption) rfl rfl (by decide) rfl (Nat.le_of_ble_eq_true rfl) (fun r σ1 hp => ?_)
      obtain ⟨rfl, hp⟩ := hp
      rcases hp with ⟨q13, rfl⟩ | ⟨q13, rfl⟩
      · refine j_if_ne (pc := 16) (tgt := 21) dX7_stateOf_16 rfl (fun _ => ?_) (fun h => absurd h (by decide))
        obtain ⟨i, hi, rfl⟩ := vp_in_of q5 (by omega)
        obtain ⟨j, hj, rfl⟩ := vp_in_of q13 (by omega)
        refine j_aload_n (pc := 21) dX7_stateOf_21 rfl ?_
        refine j_getR (pc := 22) dX7_stateOf_22 f_X7_33 (by first | rfl | with_reducible assumption) (by rfl) ?_
        refine j_iload_n (pc := 25) dX7_stateOf_25 rfl ?_
        refine j_iload_n (pc := 26) dX7_stateOf_26 rfl ?_
        refine j_callVNi (pc := 27) dX7_stateOf_27 k_X7_132 (c_X3_stateIn isN_net hG.2.2.1 hG.1 hi) (by first | rfl | with_reducible assumption) rfl rfl (by decide) rfl (Nat.le_of_ble_eq_true rfl) (fun r σ1 hp => ?_)
        obtain ⟨rfl, rfl⟩ := hp
        refine j_iret (pc := 30) dX7_stateOf_30 ?_
        refine ⟨rfl, Or.inr ⟨hO, k, hk.2.1, ?_⟩⟩
        unfold q_stateOf
        rw [if_pos ⟨inR_iff.mpr q5, inR_iff.mpr q13⟩, nI_clamp (by omega), nI_clamp (by omega), ← hG.2.2.2.1 i hi]
      · refine j_if_ne (pc := 16) (tgt := 21) dX7_stateOf_16 rfl (fun h => absurd h (by decide)) (fun _ => ?_)
        refine j_iconst (pc := 19) dX7_stateOf_19 (v := (-1)) (by decide) ?_
        refine j_iret (pc := 20) dX7_stateOf_20 ?_
        refine ⟨rfl, Or.inr ⟨hO, k, hk.2.1, ?_⟩⟩
        refine (if_neg (fun z => ?_)).symm
        first | exact q13 (inR_iff.mp z.2) | exact q5 (inR_iff.mp z.1)
    · refine j_if_eq (pc := 8) (tgt := 19) dX7_stateOf_8 rfl (fun _ => ?_) (fun h => absurd h (by decide))
      refine j_iconst (pc := 19) dX7_stateOf_19 (v := (-1)) (by decide) ?_
      refine j_iret (pc := 20) dX7_stateOf_20 ?_
      refine ⟨rfl, Or.inr ⟨hO, k, hk.2.1, ?_⟩⟩
      refine (if_neg (fun z => ?_)).symm
      first | exact q13 (inR_iff.mp z.2) | exact q5 (inR_iff.mp z.1)
theorem c_X7_leads (n e : Int32) (q : R1 σ n0 t N K M fs h pl) : EV Γ1 2 yX7_leads cX7_leads 3 (some .int) [.inr 0, .inl n, .inl e] σ (fun r σ' => σ = σ' ∧ Ans (TA N K M) (allS N) fs (-1) (fun _ => q_leads (TA N K M) (allS N) n e) r) := by
  obtain ⟨hb, hfs, hD, hP, h45, hTr⟩ := q
  refine EV.intro (by decide +kernel) (Nat.le_of_ble_eq_true rfl) ?_
  rcases hD with ⟨hO, s13, s14, -⟩ | ⟨hO, hG, k, hk⟩
  · refine j_aload_n (pc := 0) dX7_leads_0 rfl ?_
    refine j_getR (pc := 1) dX7_leads_1 f_X7_33 (by first | rfl | with_reducible assumption) (by rfl) ?_
    refine j_iload_n (pc := 4) dX7_leads_4 rfl ?_
    refine j_callVNi (pc := 5) dX7_leads_5 k_X7_129 (c_X3_has isN_net n (J := 0) s13 (by decide)) (by first | rfl | with_reducible assumption) rfl rfl (by decide) rfl (Nat.le_of_ble_eq_true rfl) (fun r σ1 hp => ?_)
    obtain ⟨rfl, hp⟩ := hp
    rcases hp with ⟨q5, rfl⟩ | ⟨q5, rfl⟩
    · exact absurd q5 (by rw [vp_in_iff]; omega)
      skip
    · refine j_if_eq (pc := 8) (tgt := 18) dX7_leads_8 rfl (fun _ => ?_) (fun h => absurd h (by decide))
      refine j_iconst (pc := 18) dX7_leads_18 (v := (-1)) (by decide) ?_
      refine j_iret (pc := 19) dX7_leads_19 ?_
      exact ⟨rfl, Or.inl ⟨hO, rfl⟩⟩
  · have hJ := hG.1
    refine j_aload_n (pc := 0) dX7_leads_0 rfl ?_
    refine j_getR (pc := 1) dX7_leads_1 f_X7_33 (by first | rfl | with_reducible assumption) (by rfl) ?_
    refine j_iload_n (pc := 4) dX7_leads_4 rfl ?_
    refine j_callVNi (pc := 5) dX7_leads_5 k_X7_129 (c_X3_has isN_net n hG.2.2.1 hG.1) (by first | rfl | with_reducible assumption) rfl rfl (by decide) rfl (Nat.le_of_ble_eq_true rfl) (fun r σ1 hp => ?_)
    obtain ⟨rfl, hp⟩ := hp
    rcases hp with ⟨q5, rfl⟩ | ⟨q5, rfl⟩
    · refine j_if_eq (pc := 8) (tgt := 18) dX7_leads_8 rfl (fun h => absurd h (by decide)) (fun _ => ?_)
      refine j_iload_n (pc := 11) dX7_leads_11 rfl ?_
      refine j_callSi (pc := 12) dX7_leads_12 k_X7_101 (c_X7_isEvent _ _) rfl (by decide) rfl (Nat.le_of_ble_eq_true rfl) (fun r σ1 hp => ?_)
      obtain ⟨rfl, hp⟩ := hp
      rcases hp with ⟨q12, rfl⟩ | ⟨q12, rfl⟩
      · refine j_if_ne (pc := 15) (tgt := 20) dX7_leads_15 rfl (fun _ => ?_) (fun h => absurd h (by decide))
        refine j_aload_n (pc := 20) dX7_leads_20 rfl ?_
        refine j_getR (pc := 21) dX7_leads_21 f_X7_33 (by first | rfl | with_reducible assumption) (by rfl) ?_
        refine j_iload_n (pc := 24) dX7_leads_24 rfl ?_
        refine j_iload_n (pc := 25) dX7_leads_25 rfl ?_
        refine j_callVNi (pc := 26) dX7_leads_26 k_X7_135 (c_target' isN_net n e hG.2.2.1 hG.1 hG.2.2.2.2.1) (by first | rfl | with_reducible assumption) rfl rfl (by decide) rfl (Nat.le_of_ble_eq_true rfl) (fun r σ1 hp => ?_)
        obtain ⟨rfl, rfl⟩ := hp
        refine j_iret (pc := 29) dX7_leads_29 ?_
        refine ⟨rfl, Or.inr ⟨hO, k, hk.2.1, ?_⟩⟩
        unfold q_leads tgo
        rw [if_pos ⟨inR_iff.mpr q5, inR_iff.mpr q12⟩, if_pos ⟨inR_iff.mpr q5, inR_iff.mpr q12⟩]
      · refine j_if_ne (pc := 15) (tgt := 20) dX7_leads_15 rfl (fun h => absurd h (by decide)) (fun _ => ?_)
        refine j_iconst (pc := 18) dX7_leads_18 (v := (-1)) (by decide) ?_
        refine j_iret (pc := 19) dX7_leads_19 ?_
        refine ⟨rfl, Or.inr ⟨hO, k, hk.2.1, ?_⟩⟩
        refine (if_neg (fun z => ?_)).symm
        first | exact q12 (inR_iff.mp z.2) | exact q5 (inR_iff.mp z.1)
    · refine j_if_eq (pc := 8) (tgt := 18) dX7_leads_8 rfl (fun _ => ?_) (fun h => absurd h (by decide))
      refine j_iconst (pc := 18) dX7_leads_18 (v := (-1)) (by decide) ?_
      refine j_iret (pc := 19) dX7_leads_19 ?_
      refine ⟨rfl, Or.inr ⟨hO, k, hk.2.1, ?_⟩⟩
      refine (if_neg (fun z => ?_)).symm
      first | exact q12 (inR_iff.mp z.2) | exact q5 (inR_iff.mp z.1)
theorem c_X7_joint (n what : Int32) (q : R1 σ n0 t N K M fs h pl) : EV Γ1 4 yX7_joint cX7_joint 3 (some .int) [.inr 0, .inl n, .inl what] σ (fun r σ' => σ = σ' ∧ Ans (TA N K M) (allS N) fs (-1) (fun k => q_joint (TA N K M) (allS N) fs k n what) r) := by
  obtain ⟨hb, hfs, hD, hP, h45, hTr⟩ := q
  refine EV.intro (by decide +kernel) (Nat.le_of_ble_eq_true rfl) ?_
  rcases hD with ⟨hO, s13, s14, -⟩ | ⟨hO, hG, k, hk⟩
  · refine j_aload_n (pc := 0) dX7_joint_0 rfl ?_
    refine j_getR (pc := 1) dX7_joint_1 f_X7_33 (by first | rfl | with_reducible assumption) (by rfl) ?_
    refine j_iload_n (pc := 4) dX7_joint_4 rfl ?_
    refine j_callVNi (pc := 5) dX7_joint_5 k_X7_129 (c_X3_has isN_net n (J := 0) s13 (by decide)) (by first | rfl | with_reducible assumption) rfl rfl (by decide) rfl (Nat.le_of_ble_eq_true rfl) (fun r σ1 hp => ?_)
    obtain ⟨rfl, hp⟩ := hp
    rcases hp with ⟨q5, rfl⟩ | ⟨q5, rfl⟩
    · exact absurd q5 (by rw [vp_in_iff]; omega)
      skip
    · refine j_if_ne (pc := 8) (tgt := 13) dX7_joint_8 rfl (fun h => absurd h (by decide)) (fun _ => ?_)
      refine j_iconst (pc := 11) dX7_joint_11 (v := (-1)) (by decide) ?_
      refine j_iret (pc := 12) dX7_joint_12 ?_
      exact ⟨rfl, Or.inl ⟨hO, rfl⟩⟩
  · have hJ := hG.1
    have hL := hk.2.2.2.1
    have fow : ∀ i, i < gJ (TA N K M) (allS N) → fo 150 (σ 47) (nI i) = (gW (TA N K M) (allS N) fs k).1 i := fun i hi => by rw [fo_nI (by omega) (by decide)]; exact (hL.1 i hi).1
    have fou : ∀ i, i < gJ (TA N K M) (allS N) → fo 150 (σ 53) (nI i) = σ 53 i := fun i hi => fo_nI (by omega) (by decide)
    refine j_aload_n (pc := 0) dX7_joint_0 rfl ?_
    refine j_getR (pc := 1) dX7_joint_1 f_X7_33 (by first | rfl | with_reducible assumption) (by rfl) ?_
    refine j_iload_n (pc := 4) dX7_joint_4 rfl ?_
    refine j_callVNi (pc := 5) dX7_joint_5 k_X7_129 (c_X3_has isN_net n hG.2.2.1 hG.1) (by first | rfl | with_reducible assumption) rfl rfl (by decide) rfl (Nat.le_of_ble_eq_true rfl) (fun r σ1 hp => ?_)
    obtain ⟨rfl, hp⟩ := hp
    rcases hp with ⟨q5, rfl⟩ | ⟨q5, rfl⟩
    · refine j_if_ne (pc := 8) (tgt := 13) dX7_joint_8 rfl (fun _ => ?_) (fun h => absurd h (by decide))
      obtain ⟨i, hi, rfl⟩ := vp_in_of q5 (by omega)
      have hci : (nI i).toNatClampNeg = i := nI_clamp (by omega)
      have huc := hk.uc hJ hi
      have ans : ∀ r, r = q_joint1 (TA N K M) (allS N) fs k i what → (σ = σ ∧ Ans (TA N K M) (allS N) fs (-1) (fun k => q_joint (TA N K M) (allS N) fs k (nI i) what) r) := fun r hr => ⟨rfl, Or.inr ⟨hO, k, hk.2.1, by
        show r = q_joint (TA N K M) (allS N) fs k (nI i) what
        unfold q_joint
        rw [if_pos (inR_iff.mpr q5), hci]
        exact hr⟩⟩
      refine j_iload_n (pc := 13) dX7_joint_13 rfl ?_
      by_cases sw14_0 : what = 0
      · refine j_top sw14_0 ?_
        refine j_tableIn (pc := 14) (tgt := 56) dX7_joint_14 (by decide) (by decide) (off := 42) rfl rfl ?_
        refine j_aload_n (pc := 56) dX7_joint_56 rfl ?_
        refine j_getR (pc := 57) dX7_joint_57 f_X7_33 (by first | rfl | with_reducible assumption) (by rfl) ?_
        refine j_iload_n (pc := 60) dX7_joint_60 rfl ?_
        refine j_callVNi (pc := 61) dX7_joint_61 k_X7_136 (c_X3_isFinished isN_net _ hG.2.2.1 hG.1) (by first | rfl | with_reducible assumption) rfl rfl (by decide) rfl (Nat.le_of_ble_eq_true rfl) (fun r σ1 hp => ?_)
        obtain ⟨rfl, hp⟩ := hp
        rcases hp with ⟨q61, rfl⟩ | ⟨q61, rfl⟩
        · refine j_if_eq (pc := 64) (tgt := 71) dX7_joint_64 rfl (fun h => absurd h (by decide)) (fun _ => ?_)
          refine j_iconst (pc := 67) dX7_joint_67 (v := 1) (by decide) ?_
          refine j_goto (pc := 68) (tgt := 72) dX7_joint_68 rfl ?_
          refine j_iret (pc := 72) dX7_joint_72 ?_
          refine ans _ ?_
          unfold q_joint1
          rw [if_pos sw14_0]
          have hf : σ (23 + 4) i = (if gF (TA N K M) (allS N) i = true then 1 else 0) := (hG.2.2.2.2.2.2 i hi).2.2
          rw [hci] at q61
          by_cases z : gF (TA N K M) (allS N) i = true
          · first | exact (if_pos z).symm | (refine absurd ⟨q5, ?_⟩ q61; rw [hf, if_pos z]; decide)
          · first | exact (if_neg z).symm | (refine absurd ?_ q61.2; rw [hf, if_neg z])
        · refine j_if_eq (pc := 64) (tgt := 71) dX7_joint_64 rfl (fun _ => ?_) (fun h => absurd h (by decide))
          refine j_iconst (pc := 71) dX7_joint_71 (v := 0) (by decide) ?_
          refine j_iret (pc := 72) dX7_joint_72 ?_
          refine ans _ ?_
          unfold q_joint1
          rw [if_pos sw14_0]
          have hf : σ (23 + 4) i = (if gF (TA N K M) (allS N) i = true then 1 else 0) := (hG.2.2.2.2.2.2 i hi).2.2
          rw [hci] at q61
          by_cases z : gF (TA N K M) (allS N) i = true
          · first | exact (if_pos z).symm | (refine absurd ⟨q5, ?_⟩ q61; rw [hf, if_pos z]; decide)
          · first | exact (if_neg z).symm | (refine absurd ?_ q61.2; rw [hf, if_neg z])
      by_cases sw14_1 : what = 1
      · refine j_top sw14_1 ?_
        refine j_tableIn (pc := 14) (tgt := 73) dX7_joint_14 (by decide) (by decide) (off := 59) rfl rfl ?_
        refine j_aload_n (pc := 73) dX7_joint_73 rfl ?_
        refine j_getR (pc := 74) dX7_joint_74 f_X7_33 (by first | rfl | with_reducible assumption) (by rfl) ?_
        refine j_iload_n (pc := 77) dX7_joint_77 rfl ?_
        refine j_callVNi (pc := 78) dX7_joint_78 k_X7_139 (c_X3_leadSet isN_net _ hG.2.2.1 hG.1) (by first | rfl | with_reducible assumption) rfl rfl (by decide) rfl (Nat.le_of_ble_eq_true rfl) (fun r σ1 hp => ?_)
        obtain ⟨rfl, hp⟩ := hp
        refine j_iret (pc := 81) dX7_joint_81 ?_
        refine ans _ ?_
        unfold q_joint1
        rw [if_neg sw14_0, if_pos sw14_1]
        rcases hp with ⟨i', a1, a2, rfl⟩ | ⟨a, -⟩
        · have := (nI_eq (by omega) (by omega)).mp a2
          subst this
          refine bits_u (fun e he => ?_)
          rw [hG.l.2.2.1 i hi e he]
        · exact absurd q5 a
      by_cases sw14_2 : what = 2
      · refine j_top sw14_2 ?_
        refine j_tableIn (pc := 14) (tgt := 82) dX7_joint_14 (by decide) (by decide) (off := 68) rfl rfl ?_
        refine j_aload_n (pc := 82) dX7_joint_82 rfl ?_
        refine j_getR (pc := 83) dX7_joint_83 f_X7_33 (by first | rfl | with_reducible assumption) (by rfl) ?_
        refine j_iload_n (pc := 86) dX7_joint_86 rfl ?_
        refine j_aload_n (pc := 87) dX7_joint_87 rfl ?_
        refine j_getI (pc := 88) dX7_joint_88 f_X7_75 (by first | rfl | with_reducible assumption) (by rfl) ?_
        refine j_callVNi (pc := 91) dX7_joint_91 k_X7_143 (c_X3_clashSet isN_net _ _ hG.2.2.1 hG.1) (by first | rfl | with_reducible assumption) rfl rfl (by decide) rfl (Nat.le_of_ble_eq_true rfl) (fun r σ1 hp => ?_)
        obtain ⟨rfl, hp⟩ := hp
        refine j_iret (pc := 94) dX7_joint_94 ?_
        refine ans _ ?_
        unfold q_joint1
        rw [if_neg sw14_0, if_neg sw14_1, if_pos sw14_2]
        rcases hp with ⟨i', a1, a2, rfl⟩ | ⟨a, -⟩
        · have := (nI_eq (by omega) (by omega)).mp a2
          subst this
          refine bits_u (fun e he => ?_)
          rw [b_and, hfs, hG.l.2.2.2 i hi e he, Bool.and_assoc]
        · exact absurd q5 a
      by_cases sw14_3 : what = 3
      · refine j_top sw14_3 ?_
        refine j_tableIn (pc := 14) (tgt := 95) dX7_joint_14 (by decide) (by decide) (off := 81) rfl rfl ?_
        refine j_aload_n (pc := 95) dX7_joint_95 rfl ?_
        refine j_getR (pc := 96) dX7_joint_96 f_X7_53 (by first | rfl | with_reducible assumption) (by rfl) ?_
        refine j_iload_n (pc := 99) dX7_joint_99 rfl ?_
        refine j_callVNi (pc := 100) dX7_joint_100 k_X7_146 (c_X1_isLost _ _) (by first | rfl | with_reducible assumption) rfl rfl (by decide) rfl (Nat.le_of_ble_eq_true rfl) (fun r σ1 hp => ?_)
        obtain ⟨rfl, hp⟩ := hp
        rcases hp with ⟨q100, rfl⟩ | ⟨q100, rfl⟩
        · refine j_if_eq (pc := 103) (tgt := 110) dX7_joint_103 rfl (fun h => absurd h (by decide)) (fun _ => ?_)
          refine j_iconst (pc := 106) dX7_joint_106 (v := 0) (by decide) ?_
          refine j_goto (pc := 107) (tgt := 111) dX7_joint_107 rfl ?_
          refine j_iret (pc := 111) dX7_joint_111 ?_
          refine ans _ ?_
          unfold q_joint1
          rw [if_neg sw14_0, if_neg sw14_1, if_neg sw14_2, if_pos sw14_3]
          rw [fow i hi] at q100
          first | (rw [if_neg q100]) | (rw [if_pos (Classical.byContradiction q100)])
        · refine j_if_eq (pc := 103) (tgt := 110) dX7_joint_103 rfl (fun _ => ?_) (fun h => absurd h (by decide))
          refine j_iconst (pc := 110) dX7_joint_110 (v := 1) (by decide) ?_
          refine j_iret (pc := 111) dX7_joint_111 ?_
          refine ans _ ?_
          unfold q_joint1
          rw [if_neg sw14_0, if_neg sw14_1, if_neg sw14_2, if_pos sw14_3]
          rw [fow i hi] at q100
          first | (rw [if_neg q100]) | (rw [if_pos (Classical.byContradiction q100)])
      by_cases sw14_4 : what = 4
      · refine j_top sw14_4 ?_
        refine j_tableIn (pc := 14) (tgt := 112) dX7_joint_14 (by decide) (by decide) (off := 98) rfl rfl ?_
        refine j_aload_n (pc := 112) dX7_joint_112 rfl ?_
        refine j_getR (pc := 113) dX7_joint_113 f_X7_60 (by first | rfl | with_reducible assumption) (by rfl) ?_
        refine j_iload_n (pc := 116) dX7_joint_116 rfl ?_
        refine j_callVNi (pc := 117) dX7_joint_117 k_X7_149 (c_X0_holds _ _) (by first | rfl | with_reducible assumption) rfl rfl (by decide) rfl (Nat.le_of_ble_eq_true rfl) (fun r σ1 hp => ?_)
        obtain ⟨rfl, hp⟩ := hp
        rcases hp with ⟨q117, rfl⟩ | ⟨q117, rfl⟩
        · refine j_if_eq (pc := 120) (tgt := 127) dX7_joint_120 rfl (fun h => absurd h (by decide)) (fun _ => ?_)
          refine j_iconst (pc := 123) dX7_joint_123 (v := 1) (by decide) ?_
          refine j_goto (pc := 124) (tgt := 128) dX7_joint_124 rfl ?_
          refine j_iret (pc := 128) dX7_joint_128 ?_
          refine ans _ ?_
          unfold q_joint1
          rw [if_neg sw14_0, if_neg sw14_1, if_neg sw14_2, if_neg sw14_3, if_pos sw14_4]
          rw [fou i hi] at q117
          first | (rw [if_pos (huc.mp q117)]) | (rw [if_neg (fun z => q117 (huc.mpr z))])
        · refine j_if_eq (pc := 120) (tgt := 127) dX7_joint_120 rfl (fun _ => ?_) (fun h => absurd h (by decide))
          refine j_iconst (pc := 127) dX7_joint_127 (v := 0) (by decide) ?_
          refine j_iret (pc := 128) dX7_joint_128 ?_
          refine ans _ ?_
          unfold q_joint1
          rw [if_neg sw14_0, if_neg sw14_1, if_neg sw14_2, if_neg sw14_3, if_pos sw14_4]
          rw [fou i hi] at q117
          first | (rw [if_pos (huc.mp q117)]) | (rw [if_neg (fun z => q117 (huc.mpr z))])
      by_cases sw14_5 : what = 5
      · refine j_top sw14_5 ?_
        refine j_tableIn (pc := 14) (tgt := 129) dX7_joint_14 (by decide) (by decide) (off := 115) rfl rfl ?_
        refine j_aload_n (pc := 129) dX7_joint_129 rfl ?_
        refine j_getR (pc := 130) dX7_joint_130 f_X7_53 (by first | rfl | with_reducible assumption) (by rfl) ?_
        refine j_iload_n (pc := 133) dX7_joint_133 rfl ?_
        refine j_callVNi (pc := 134) dX7_joint_134 k_X7_152 (c_X1_waveOf _ _) (by first | rfl | with_reducible assumption) rfl rfl (by decide) rfl (Nat.le_of_ble_eq_true rfl) (fun r σ1 hp => ?_)
        obtain ⟨rfl, rfl⟩ := hp
        refine j_iret (pc := 137) dX7_joint_137 ?_
        refine ans _ ?_
        unfold q_joint1
        rw [if_neg sw14_0, if_neg sw14_1, if_neg sw14_2, if_neg sw14_3, if_neg sw14_4, if_pos sw14_5]
        exact fow i hi
      by_cases sw14_6 : what = 6
      · refine j_top sw14_6 ?_
        refine j_tableIn (pc := 14) (tgt := 138) dX7_joint_14 (by decide) (by decide) (off := 124) rfl rfl ?_
        refine j_aload_n (pc := 138) dX7_joint_138 rfl ?_
        refine j_getR (pc := 139) dX7_joint_139 f_X7_60 (by first | rfl | with_reducible assumption) (by rfl) ?_
        refine j_iload_n (pc := 142) dX7_joint_142 rfl ?_
        refine j_callVNi (pc := 143) dX7_joint_143 k_X7_155 (c_X0_barredSet _ _) (by first | rfl | with_reducible assumption) rfl rfl (by decide) rfl (Nat.le_of_ble_eq_true rfl) (fun r σ1 hp => ?_)
        obtain ⟨rfl, hp⟩ := hp
        refine j_iret (pc := 146) dX7_joint_146 ?_
        refine ans _ ?_
        unfold q_joint1
        rw [if_neg sw14_0, if_neg sw14_1, if_neg sw14_2, if_neg sw14_3, if_neg sw14_4, if_neg sw14_5, if_pos sw14_6]
        rw [fou i hi, hci] at hp
        rcases hp with ⟨a, rfl⟩ | ⟨a, rfl⟩
        · rw [if_pos (huc.mp a)]
          obtain ⟨-, -, -, -, -, -, hC⟩ := hk
          rcases hC with ⟨-, c1, -⟩ | ⟨-, Q, u, d, pa, ev, -, -, -, c4, -⟩
          · exact absurd (c1 i (by omega)) a
          · exact bits_u (c4 i hi a)
        · rw [if_neg (fun z => huc.mpr z a)]
      refine j_tableOut (pc := 14) (tgt := 147) dX7_joint_14 (by (simp only [Int32.lt_iff_toInt_lt, Int32.le_iff_toInt_le, ← Int32.toInt_inj, vp_in_iff, ti_0, ti_1, ti_2, ti_3, ti_4, ti_5, ti_6, ti_7, ti_8, ti_16, ti_48, ti_53, ti_60, ti_97, ti_104, ti_127, ti_149, ti_150, ti_151, ti_256, ti_1200, ti_m1, ti_m2, ti_m3, ti_m4, ti_m9] at *; omega)) rfl ?_
      refine j_bipush (pc := 147) dX7_joint_147 (v := (-2)) (by decide) ?_
      refine j_iret (pc := 149) dX7_joint_149 ?_
      refine ans _ ?_
      unfold q_joint1
      rw [if_neg sw14_0, if_neg sw14_1, if_neg sw14_2, if_neg sw14_3, if_neg sw14_4, if_neg sw14_5, if_neg sw14_6]
    · refine j_if_ne (pc := 8) (tgt := 13) dX7_joint_8 rfl (fun h => absurd h (by decide)) (fun _ => ?_)
      refine j_iconst (pc := 11) dX7_joint_11 (v := (-1)) (by decide) ?_
      refine j_iret (pc := 12) dX7_joint_12 ?_
      exact ⟨rfl, Or.inr ⟨hO, k, hk.2.1, (if_neg (fun z => q5 (inR_iff.mp z))).symm⟩⟩
theorem c_X7_wave (w : Int32) (q : R1 σ n0 t N K M fs h pl) : EV Γ1 1 yX7_wave cX7_wave 2 (some .int) [.inr 0, .inl w] σ (fun r σ' => σ = σ' ∧ Ans (TA N K M) (allS N) fs (-1) (fun k => q_wave (TA N K M) (allS N) fs k w) r) := by
  obtain ⟨hb, hfs, hD, hP, h45, hTr⟩ := q
  refine EV.intro (by decide +kernel) (Nat.le_of_ble_eq_true rfl) ?_
  rcases hD with ⟨hO, s13, s14, s5, -⟩ | ⟨hO, hG, k, hk⟩
  · refine j_aload_n (pc := 0) dX7_wave_0 rfl ?_
    refine j_getR (pc := 1) dX7_wave_1 f_X7_53 (by first | rfl | with_reducible assumption) (by rfl) ?_
    refine j_iload_n (pc := 4) dX7_wave_4 rfl ?_
    refine j_callVNi (pc := 5) dX7_wave_5 k_X7_167 (c_X1_hasWave w (W := 0) s5 (by decide)) (by first | rfl | with_reducible assumption) rfl rfl (by decide) rfl (Nat.le_of_ble_eq_true rfl) (fun r σ1 hp => ?_)
    obtain ⟨rfl, hp⟩ := hp
    rcases hp with ⟨q5, rfl⟩ | ⟨q5, rfl⟩
    · exact absurd q5 (by rw [vp_in_iff]; omega)
      skip
    · refine j_if_eq (pc := 8) (tgt := 22) dX7_wave_8 rfl (fun _ => ?_) (fun h => absurd h (by decide))
      refine j_iconst (pc := 22) dX7_wave_22 (v := (-1)) (by decide) ?_
      refine j_iret (pc := 23) dX7_wave_23 ?_
      exact ⟨rfl, Or.inl ⟨hO, rfl⟩⟩
  · have hk1 := hk.1
    refine j_aload_n (pc := 0) dX7_wave_0 rfl ?_
    refine j_getR (pc := 1) dX7_wave_1 f_X7_53 (by first | rfl | with_reducible assumption) (by rfl) ?_
    refine j_iload_n (pc := 4) dX7_wave_4 rfl ?_
    refine j_callVNi (pc := 5) dX7_wave_5 k_X7_167 (c_X1_hasWave w (W := k + 1) hk.2.2.1 (by omega)) (by first | rfl | with_reducible assumption) rfl rfl (by decide) rfl (Nat.le_of_ble_eq_true rfl) (fun r σ1 hp => ?_)
    obtain ⟨rfl, hp⟩ := hp
    rcases hp with ⟨q5, rfl⟩ | ⟨q5, rfl⟩
    · obtain ⟨i, hi, rfl⟩ := vp_in_of q5 (by omega)
      refine j_if_eq (pc := 8) (tgt := 22) dX7_wave_8 rfl (fun h => absurd h (by decide)) (fun _ => ?_)
      refine j_aload_n (pc := 11) dX7_wave_11 rfl ?_
      refine j_getR (pc := 12) dX7_wave_12 f_X7_53 (by first | rfl | with_reducible assumption) (by rfl) ?_
      refine j_iload_n (pc := 15) dX7_wave_15 rfl ?_
      refine j_callVNi (pc := 16) dX7_wave_16 k_X7_170 (c_X1_sizeOfWave (by omega) _) (by first | rfl | with_reducible assumption) rfl rfl (by decide) rfl (Nat.le_of_ble_eq_true rfl) (fun r σ1 hp => ?_)
      obtain ⟨rfl, rfl⟩ := hp
      refine j_goto (pc := 19) (tgt := 23) dX7_wave_19 rfl ?_
      refine j_iret (pc := 23) dX7_wave_23 ?_
      refine ⟨rfl, Or.inr ⟨hO, k, hk.2.1, ?_⟩⟩
      first
        | exact (if_neg (fun z => q5 (inR_iff.mp z))).symm
        | (show σ 51 i = q_wave (TA N K M) (allS N) fs k (nI i)
           unfold q_wave
           rw [if_pos (inR_iff.mpr q5), nI_clamp (by omega)]
           exact hk.2.2.2.1.2.2.2 i (by omega))
    · refine j_if_eq (pc := 8) (tgt := 22) dX7_wave_8 rfl (fun _ => ?_) (fun h => absurd h (by decide))
      refine j_iconst (pc := 22) dX7_wave_22 (v := (-1)) (by decide) ?_
      refine j_iret (pc := 23) dX7_wave_23 ?_
      refine ⟨rfl, Or.inr ⟨hO, k, hk.2.1, ?_⟩⟩
      first
        | exact (if_neg (fun z => q5 (inR_iff.mp z))).symm
        | (show σ 51 i = q_wave (TA N K M) (allS N) fs k (nI i)
           unfold q_wave
           rw [if_pos (inR_iff.mpr q5), nI_clamp (by omega)]
           exact hk.2.2.2.1.2.2.2 i (by omega))
theorem c_X7_many (what : Int32) (q : R1 σ n0 t N K M fs h pl) : EV Γ1 0 yX7_many cX7_many 2 (some .int) [.inr 0, .inl what] σ (fun r σ' => σ = σ' ∧ Ans (TA N K M) (allS N) fs (o_many N n0 h.length what) (fun k => q_many (TA N K M) (allS N) fs k N n0 h.length what) r) := by
  obtain ⟨hb, hfs, hD, hP, h45, hTr⟩ := q
  have hN := hb.2.2.2.1
  have hn := hb.1
  have hl := hTr.2.2.1
  refine EV.intro (by decide +kernel) (Nat.le_of_ble_eq_true rfl) ?_
  rcases hD with ⟨hO, s13, s14, s5, s6, -, -, s4, s7⟩ | ⟨hO, hG, k, hk⟩
  · have ans : ∀ r, r = o_many N n0 h.length what → (σ = σ ∧ Ans (TA N K M) (allS N) fs (o_many N n0 h.length what) (fun k => q_many (TA N K M) (allS N) fs k N n0 h.length what) r) := fun r hr => ⟨rfl, Or.inl ⟨hO, hr⟩⟩
    refine j_iload_n (pc := 0) dX7_many_0 rfl ?_
    by_cases sw1_0 : what = 0
    · refine j_top sw1_0 ?_
      refine j_tableIn (pc := 1) (tgt := 48) dX7_many_1 (by decide) (by decide) (off := 47) rfl rfl ?_
      refine j_aload_n (pc := 48) dX7_many_48 rfl ?_
      refine j_getI (pc := 49) dX7_many_49 f_X7_71 (by first | rfl | with_reducible assumption) (by rfl) ?_
      refine j_iret (pc := 52) dX7_many_52 ?_
      refine ans _ ?_
      unfold o_many
      first
        | (rw [if_pos sw1_0]; exact hN)
        | (rw [if_neg sw1_0, if_pos sw1_1]; exact hn)
        | (rw [if_neg sw1_0, if_neg sw1_1, if_pos sw1_2])
        | (rw [if_neg sw1_0, if_neg sw1_1, if_neg sw1_2, if_pos sw1_3]; exact s6)
        | (rw [if_neg sw1_0, if_neg sw1_1, if_neg sw1_2, if_neg sw1_3, if_pos sw1_4]; exact s4)
        | (rw [if_neg sw1_0, if_neg sw1_1, if_neg sw1_2, if_neg sw1_3, if_neg sw1_4, if_pos sw1_5]; exact s5)
        | (rw [if_neg sw1_0, if_neg sw1_1, if_neg sw1_2, if_neg sw1_3, if_neg sw1_4, if_neg sw1_5, if_pos sw1_6]; exact hl)
        | (rw [if_neg sw1_0, if_neg sw1_1, if_neg sw1_2, if_neg sw1_3, if_neg sw1_4, if_neg sw1_5, if_neg sw1_6, if_pos sw1_7]; exact s7)
        | (rw [if_neg sw1_0, if_neg sw1_1, if_neg sw1_2, if_neg sw1_3, if_neg sw1_4, if_neg sw1_5, if_neg sw1_6, if_neg sw1_7])
    by_cases sw1_1 : what = 1
    · refine j_top sw1_1 ?_
      refine j_tableIn (pc := 1) (tgt := 53) dX7_many_1 (by decide) (by decide) (off := 52) rfl rfl ?_
      refine j_aload_n (pc := 53) dX7_many_53 rfl ?_
      refine j_getR (pc := 54) dX7_many_54 f_X7_12 (by first | rfl | with_reducible assumption) (by rfl) ?_
      refine j_getI (pc := 57) dX7_many_57 f_X7_91 (by first | rfl | with_reducible assumption) (by rfl) ?_
      refine j_iret (pc := 60) dX7_many_60 ?_
      refine ans _ ?_
      unfold o_many
      first
        | (rw [if_pos sw1_0]; exact hN)
        | (rw [if_neg sw1_0, if_pos sw1_1]; exact hn)
        | (rw [if_neg sw1_0, if_neg sw1_1, if_pos sw1_2])
        | (rw [if_neg sw1_0, if_neg sw1_1, if_neg sw1_2, if_pos sw1_3]; exact s6)
        | (rw [if_neg sw1_0, if_neg sw1_1, if_neg sw1_2, if_neg sw1_3, if_pos sw1_4]; exact s4)
        | (rw [if_neg sw1_0, if_neg sw1_1, if_neg sw1_2, if_neg sw1_3, if_neg sw1_4, if_pos sw1_5]; exact s5)
        | (rw [if_neg sw1_0, if_neg sw1_1, if_neg sw1_2, if_neg sw1_3, if_neg sw1_4, if_neg sw1_5, if_pos sw1_6]; exact hl)
        | (rw [if_neg sw1_0, if_neg sw1_1, if_neg sw1_2, if_neg sw1_3, if_neg sw1_4, if_neg sw1_5, if_neg sw1_6, if_pos sw1_7]; exact s7)
        | (rw [if_neg sw1_0, if_neg sw1_1, if_neg sw1_2, if_neg sw1_3, if_neg sw1_4, if_neg sw1_5, if_neg sw1_6, if_neg sw1_7])
    by_cases sw1_2 : what = 2
    · refine j_top sw1_2 ?_
      refine j_tableIn (pc := 1) (tgt := 61) dX7_many_1 (by decide) (by decide) (off := 60) rfl rfl ?_
      refine j_aload_n (pc := 61) dX7_many_61 rfl ?_
      refine j_getR (pc := 62) dX7_many_62 f_X7_33 (by first | rfl | with_reducible assumption) (by rfl) ?_
      refine j_getI (pc := 65) dX7_many_65 f_X7_181 (by first | rfl | with_reducible assumption) (by rfl) ?_
      refine j_if_eq (pc := 68) (tgt := 76) dX7_many_68 rfl (fun h68 => absurd (s14.symm.trans h68) (by decide)) (fun h68 => ?_)
      refine j_bipush (pc := 71) dX7_many_71 (v := (-9)) (by decide) ?_
      refine j_goto (pc := 73) (tgt := 83) dX7_many_73 rfl ?_
      refine j_iret (pc := 83) dX7_many_83 ?_
      refine ans _ ?_
      unfold o_many
      first
        | (rw [if_pos sw1_0]; exact hN)
        | (rw [if_neg sw1_0, if_pos sw1_1]; exact hn)
        | (rw [if_neg sw1_0, if_neg sw1_1, if_pos sw1_2])
        | (rw [if_neg sw1_0, if_neg sw1_1, if_neg sw1_2, if_pos sw1_3]; exact s6)
        | (rw [if_neg sw1_0, if_neg sw1_1, if_neg sw1_2, if_neg sw1_3, if_pos sw1_4]; exact s4)
        | (rw [if_neg sw1_0, if_neg sw1_1, if_neg sw1_2, if_neg sw1_3, if_neg sw1_4, if_pos sw1_5]; exact s5)
        | (rw [if_neg sw1_0, if_neg sw1_1, if_neg sw1_2, if_neg sw1_3, if_neg sw1_4, if_neg sw1_5, if_pos sw1_6]; exact hl)
        | (rw [if_neg sw1_0, if_neg sw1_1, if_neg sw1_2, if_neg sw1_3, if_neg sw1_4, if_neg sw1_5, if_neg sw1_6, if_pos sw1_7]; exact s7)
        | (rw [if_neg sw1_0, if_neg sw1_1, if_neg sw1_2, if_neg sw1_3, if_neg sw1_4, if_neg sw1_5, if_neg sw1_6, if_neg sw1_7])
    by_cases sw1_3 : what = 3
    · refine j_top sw1_3 ?_
      refine j_tableIn (pc := 1) (tgt := 84) dX7_many_1 (by decide) (by decide) (off := 83) rfl rfl ?_
      refine j_aload_n (pc := 84) dX7_many_84 rfl ?_
      refine j_getR (pc := 85) dX7_many_85 f_X7_53 (by first | rfl | with_reducible assumption) (by rfl) ?_
      refine j_getI (pc := 88) dX7_many_88 f_X7_216 (by first | rfl | with_reducible assumption) (by rfl) ?_
      refine j_iret (pc := 91) dX7_many_91 ?_
      refine ans _ ?_
      unfold o_many
      first
        | (rw [if_pos sw1_0]; exact hN)
        | (rw [if_neg sw1_0, if_pos sw1_1]; exact hn)
        | (rw [if_neg sw1_0, if_neg sw1_1, if_pos sw1_2])
        | (rw [if_neg sw1_0, if_neg sw1_1, if_neg sw1_2, if_pos sw1_3]; exact s6)
        | (rw [if_neg sw1_0, if_neg sw1_1, if_neg sw1_2, if_neg sw1_3, if_pos sw1_4]; exact s4)
        | (rw [if_neg sw1_0, if_neg sw1_1, if_neg sw1_2, if_neg sw1_3, if_neg sw1_4, if_pos sw1_5]; exact s5)
        | (rw [if_neg sw1_0, if_neg sw1_1, if_neg sw1_2, if_neg sw1_3, if_neg sw1_4, if_neg sw1_5, if_pos sw1_6]; exact hl)
        | (rw [if_neg sw1_0, if_neg sw1_1, if_neg sw1_2, if_neg sw1_3, if_neg sw1_4, if_neg sw1_5, if_neg sw1_6, if_pos sw1_7]; exact s7)
        | (rw [if_neg sw1_0, if_neg sw1_1, if_neg sw1_2, if_neg sw1_3, if_neg sw1_4, if_neg sw1_5, if_neg sw1_6, if_neg sw1_7])
    by_cases sw1_4 : what = 4
    · refine j_top sw1_4 ?_
      refine j_tableIn (pc := 1) (tgt := 92) dX7_many_1 (by decide) (by decide) (off := 91) rfl rfl ?_
      refine j_aload_n (pc := 92) dX7_many_92 rfl ?_
      refine j_getR (pc := 93) dX7_many_93 f_X7_60 (by first | rfl | with_reducible assumption) (by rfl) ?_
      refine j_getI (pc := 96) dX7_many_96 f_X7_219 (by first | rfl | with_reducible assumption) (by rfl) ?_
      refine j_iret (pc := 99) dX7_many_99 ?_
      refine ans _ ?_
      unfold o_many
      first
        | (rw [if_pos sw1_0]; exact hN)
        | (rw [if_neg sw1_0, if_pos sw1_1]; exact hn)
        | (rw [if_neg sw1_0, if_neg sw1_1, if_pos sw1_2])
        | (rw [if_neg sw1_0, if_neg sw1_1, if_neg sw1_2, if_pos sw1_3]; exact s6)
        | (rw [if_neg sw1_0, if_neg sw1_1, if_neg sw1_2, if_neg sw1_3, if_pos sw1_4]; exact s4)
        | (rw [if_neg sw1_0, if_neg sw1_1, if_neg sw1_2, if_neg sw1_3, if_neg sw1_4, if_pos sw1_5]; exact s5)
        | (rw [if_neg sw1_0, if_neg sw1_1, if_neg sw1_2, if_neg sw1_3, if_neg sw1_4, if_neg sw1_5, if_pos sw1_6]; exact hl)
        | (rw [if_neg sw1_0, if_neg sw1_1, if_neg sw1_2, if_neg sw1_3, if_neg sw1_4, if_neg sw1_5, if_neg sw1_6, if_pos sw1_7]; exact s7)
        | (rw [if_neg sw1_0, if_neg sw1_1, if_neg sw1_2, if_neg sw1_3, if_neg sw1_4, if_neg sw1_5, if_neg sw1_6, if_neg sw1_7])
    by_cases sw1_5 : what = 5
    · refine j_top sw1_5 ?_
      refine j_tableIn (pc := 1) (tgt := 100) dX7_many_1 (by decide) (by decide) (off := 99) rfl rfl ?_
      refine j_aload_n (pc := 100) dX7_many_100 rfl ?_
      refine j_getR (pc := 101) dX7_many_101 f_X7_53 (by first | rfl | with_reducible assumption) (by rfl) ?_
      refine j_getI (pc := 104) dX7_many_104 f_X7_220 (by first | rfl | with_reducible assumption) (by rfl) ?_
      refine j_iret (pc := 107) dX7_many_107 ?_
      refine ans _ ?_
      unfold o_many
      first
        | (rw [if_pos sw1_0]; exact hN)
        | (rw [if_neg sw1_0, if_pos sw1_1]; exact hn)
        | (rw [if_neg sw1_0, if_neg sw1_1, if_pos sw1_2])
        | (rw [if_neg sw1_0, if_neg sw1_1, if_neg sw1_2, if_pos sw1_3]; exact s6)
        | (rw [if_neg sw1_0, if_neg sw1_1, if_neg sw1_2, if_neg sw1_3, if_pos sw1_4]; exact s4)
        | (rw [if_neg sw1_0, if_neg sw1_1, if_neg sw1_2, if_neg sw1_3, if_neg sw1_4, if_pos sw1_5]; exact s5)
        | (rw [if_neg sw1_0, if_neg sw1_1, if_neg sw1_2, if_neg sw1_3, if_neg sw1_4, if_neg sw1_5, if_pos sw1_6]; exact hl)
        | (rw [if_neg sw1_0, if_neg sw1_1, if_neg sw1_2, if_neg sw1_3, if_neg sw1_4, if_neg sw1_5, if_neg sw1_6, if_pos sw1_7]; exact s7)
        | (rw [if_neg sw1_0, if_neg sw1_1, if_neg sw1_2, if_neg sw1_3, if_neg sw1_4, if_neg sw1_5, if_neg sw1_6, if_neg sw1_7])
    by_cases sw1_6 : what = 6
    · refine j_top sw1_6 ?_
      refine j_tableIn (pc := 1) (tgt := 108) dX7_many_1 (by decide) (by decide) (off := 107) rfl rfl ?_
      refine j_aload_n (pc := 108) dX7_many_108 rfl ?_
      refine j_getR (pc := 109) dX7_many_109 f_X7_67 (by first | rfl | with_reducible assumption) (by rfl) ?_
      refine j_getI (pc := 112) dX7_many_112 f_X7_223 (by first | rfl | with_reducible assumption) (by rfl) ?_
      refine j_iret (pc := 115) dX7_many_115 ?_
      refine ans _ ?_
      unfold o_many
      first
        | (rw [if_pos sw1_0]; exact hN)
        | (rw [if_neg sw1_0, if_pos sw1_1]; exact hn)
        | (rw [if_neg sw1_0, if_neg sw1_1, if_pos sw1_2])
        | (rw [if_neg sw1_0, if_neg sw1_1, if_neg sw1_2, if_pos sw1_3]; exact s6)
        | (rw [if_neg sw1_0, if_neg sw1_1, if_neg sw1_2, if_neg sw1_3, if_pos sw1_4]; exact s4)
        | (rw [if_neg sw1_0, if_neg sw1_1, if_neg sw1_2, if_neg sw1_3, if_neg sw1_4, if_pos sw1_5]; exact s5)
        | (rw [if_neg sw1_0, if_neg sw1_1, if_neg sw1_2, if_neg sw1_3, if_neg sw1_4, if_neg sw1_5, if_pos sw1_6]; exact hl)
        | (rw [if_neg sw1_0, if_neg sw1_1, if_neg sw1_2, if_neg sw1_3, if_neg sw1_4, if_neg sw1_5, if_neg sw1_6, if_pos sw1_7]; exact s7)
        | (rw [if_neg sw1_0, if_neg sw1_1, if_neg sw1_2, if_neg sw1_3, if_neg sw1_4, if_neg sw1_5, if_neg sw1_6, if_neg sw1_7])
    by_cases sw1_7 : what = 7
    · refine j_top sw1_7 ?_
      refine j_tableIn (pc := 1) (tgt := 116) dX7_many_1 (by decide) (by decide) (off := 115) rfl rfl ?_
      refine j_aload_n (pc := 116) dX7_many_116 rfl ?_
      refine j_getR (pc := 117) dX7_many_117 f_X7_60 (by first | rfl | with_reducible assumption) (by rfl) ?_
      refine j_getI (pc := 120) dX7_many_120 f_X7_224 (by first | rfl | with_reducible assumption) (by rfl) ?_
      refine j_iret (pc := 123) dX7_many_123 ?_
      refine ans _ ?_
      unfold o_many
      first
        | (rw [if_pos sw1_0]; exact hN)
        | (rw [if_neg sw1_0, if_pos sw1_1]; exact hn)
        | (rw [if_neg sw1_0, if_neg sw1_1, if_pos sw1_2])
        | (rw [if_neg sw1_0, if_neg sw1_1, if_neg sw1_2, if_pos sw1_3]; exact s6)
        | (rw [if_neg sw1_0, if_neg sw1_1, if_neg sw1_2, if_neg sw1_3, if_pos sw1_4]; exact s4)
        | (rw [if_neg sw1_0, if_neg sw1_1, if_neg sw1_2, if_neg sw1_3, if_neg sw1_4, if_pos sw1_5]; exact s5)
        | (rw [if_neg sw1_0, if_neg sw1_1, if_neg sw1_2, if_neg sw1_3, if_neg sw1_4, if_neg sw1_5, if_pos sw1_6]; exact hl)
        | (rw [if_neg sw1_0, if_neg sw1_1, if_neg sw1_2, if_neg sw1_3, if_neg sw1_4, if_neg sw1_5, if_neg sw1_6, if_pos sw1_7]; exact s7)
        | (rw [if_neg sw1_0, if_neg sw1_1, if_neg sw1_2, if_neg sw1_3, if_neg sw1_4, if_neg sw1_5, if_neg sw1_6, if_neg sw1_7])
    refine j_tableOut (pc := 1) (tgt := 124) dX7_many_1 (by (simp only [Int32.lt_iff_toInt_lt, Int32.le_iff_toInt_le, ← Int32.toInt_inj, vp_in_iff, ti_0, ti_1, ti_2, ti_3, ti_4, ti_5, ti_6, ti_7, ti_8, ti_16, ti_48, ti_53, ti_60, ti_97, ti_104, ti_127, ti_149, ti_150, ti_151, ti_256, ti_1200, ti_m1, ti_m2, ti_m3, ti_m4, ti_m9] at *; omega)) rfl ?_
    refine j_bipush (pc := 124) dX7_many_124 (v := (-2)) (by decide) ?_
    refine j_iret (pc := 126) dX7_many_126 ?_
    refine ans _ ?_
    unfold o_many
    first
      | (rw [if_pos sw1_0]; exact hN)
      | (rw [if_neg sw1_0, if_pos sw1_1]; exact hn)
      | (rw [if_neg sw1_0, if_neg sw1_1, if_pos sw1_2])
      | (rw [if_neg sw1_0, if_neg sw1_1, if_neg sw1_2, if_pos sw1_3]; exact s6)
      | (rw [if_neg sw1_0, if_neg sw1_1, if_neg sw1_2, if_neg sw1_3, if_pos sw1_4]; exact s4)
      | (rw [if_neg sw1_0, if_neg sw1_1, if_neg sw1_2, if_neg sw1_3, if_neg sw1_4, if_pos sw1_5]; exact s5)
      | (rw [if_neg sw1_0, if_neg sw1_1, if_neg sw1_2, if_neg sw1_3, if_neg sw1_4, if_neg sw1_5, if_pos sw1_6]; exact hl)
      | (rw [if_neg sw1_0, if_neg sw1_1, if_neg sw1_2, if_neg sw1_3, if_neg sw1_4, if_neg sw1_5, if_neg sw1_6, if_pos sw1_7]; exact s7)
      | (rw [if_neg sw1_0, if_neg sw1_1, if_neg sw1_2, if_neg sw1_3, if_neg sw1_4, if_neg sw1_5, if_neg sw1_6, if_neg sw1_7])
  · have hJ := hG.1
    have ans : ∀ r, r = q_many (TA N K M) (allS N) fs k N n0 h.length what → (σ = σ ∧ Ans (TA N K M) (allS N) fs (o_many N n0 h.length what) (fun k => q_many (TA N K M) (allS N) fs k N n0 h.length what) r) := fun r hr => ⟨rfl, Or.inr ⟨hO, k, hk.2.1, hr⟩⟩
    have hC4 : σ 52 4 = nI (cntB (gU (TA N K M) (allS N) fs k) (gJ (TA N K M) (allS N))) := by
      have hcnt : cntB (gU (TA N K M) (allS N) fs k) (gJ (TA N K M) (allS N)) = cntF (σ 53) (gJ (TA N K M) (allS N)) := by
        unfold cntB cntF
        congr 1
        apply List.filter_congr
        intro i hi
        have := hk.uc hJ (List.mem_range.mp hi)
        rw [Bool.eq_iff_iff, decide_eq_true_iff]
        exact this.symm
      rw [hcnt]
      obtain ⟨-, -, -, -, -, -, hC⟩ := hk
      rcases hC with ⟨-, c1, c2, -⟩ | ⟨-, Q, u, d, pa, ev, c1, -, c3, -⟩
      · rw [c2, cnt_same _ (w' := fun _ => -9) (fun i hi => by rw [c1 i (by omega)]), cntF_0]; rfl
      · rw [c3, c1.2.2.2.1]
    have hC5 : σ 52 5 = nI (sumN (fun n => if gU (TA N K M) (allS N) fs k n = true then pcB (fun e => isL (gJ (TA N K M) (allS N)) (gW (TA N K M) (allS N) fs k).1 (toX (TA N K M) (allS N) (8 * n + e))) else 0) (gJ (TA N K M) (allS N))) := by
      have huc : ∀ i, i < gJ (TA N K M) (allS N) → (σ 53 i ≠ -9 ↔ gU (TA N K M) (allS N) fs k i = true) := fun i hi => hk.uc hJ hi
      obtain ⟨-, -, -, -, -, -, hC⟩ := hk
      rcases hC with ⟨-, c1, -, c2⟩ | ⟨-, Q, u, d, pa, ev, -, -, -, -, c5⟩
      · rw [c2, sum_cong _ (g := fun _ => 0) (fun i hi => if_neg (fun z => (huc i hi).mpr z (c1 i (by omega))))]
        have := sum_le (f := fun _ => 0) (c := 0) (gJ (TA N K M) (allS N)) (fun _ _ => Nat.le_refl _)
        rw [show sumN (fun _ => 0) (gJ (TA N K M) (allS N)) = 0 by omega]
        rfl
      · rw [c5]
        congr 1
        refine sum_cong _ (fun i hi => ?_)
        by_cases z : σ 53 i = -9
        · rw [if_pos z, if_neg (fun y => (huc i hi).mpr y z)]
        · rw [if_neg z, if_pos ((huc i hi).mp z)]
          rfl
    refine j_iload_n (pc := 0) dX7_many_0 rfl ?_
    by_cases sw1_0 : what = 0
    · refine j_top sw1_0 ?_
      refine j_tableIn (pc := 1) (tgt := 48) dX7_many_1 (by decide) (by decide) (off := 47) rfl rfl ?_
      refine j_aload_n (pc := 48) dX7_many_48 rfl ?_
      refine j_getI (pc := 49) dX7_many_49 f_X7_71 (by first | rfl | with_reducible assumption) (by rfl) ?_
      refine j_iret (pc := 52) dX7_many_52 ?_
      refine ans _ ?_
      unfold q_many
      first
        | (rw [if_pos sw1_0]; exact hN)
        | (rw [if_neg sw1_0, if_pos sw1_1]; exact hn)
        | (rw [if_neg sw1_0, if_neg sw1_1, if_pos sw1_2]; exact hG.2.2.1)
        | (rw [if_neg sw1_0, if_neg sw1_1, if_neg sw1_2, if_pos sw1_3]; exact hk.2.2.2.1.2.2.1)
        | (rw [if_neg sw1_0, if_neg sw1_1, if_neg sw1_2, if_neg sw1_3, if_pos sw1_4]; exact hC4)
        | (rw [if_neg sw1_0, if_neg sw1_1, if_neg sw1_2, if_neg sw1_3, if_neg sw1_4, if_pos sw1_5]; exact hk.2.2.1)
        | (rw [if_neg sw1_0, if_neg sw1_1, if_neg sw1_2, if_neg sw1_3, if_neg sw1_4, if_neg sw1_5, if_pos sw1_6]; exact hl)
        | (rw [if_neg sw1_0, if_neg sw1_1, if_neg sw1_2, if_neg sw1_3, if_neg sw1_4, if_neg sw1_5, if_neg sw1_6, if_pos sw1_7]; exact hC5)
        | (rw [if_neg sw1_0, if_neg sw1_1, if_neg sw1_2, if_neg sw1_3, if_neg sw1_4, if_neg sw1_5, if_neg sw1_6, if_neg sw1_7])
    by_cases sw1_1 : what = 1
    · refine j_top sw1_1 ?_
      refine j_tableIn (pc := 1) (tgt := 53) dX7_many_1 (by decide) (by decide) (off := 52) rfl rfl ?_
      refine j_aload_n (pc := 53) dX7_many_53 rfl ?_
      refine j_getR (pc := 54) dX7_many_54 f_X7_12 (by first | rfl | with_reducible assumption) (by rfl) ?_
      refine j_getI (pc := 57) dX7_many_57 f_X7_91 (by first | rfl | with_reducible assumption) (by rfl) ?_
      refine j_iret (pc := 60) dX7_many_60 ?_
      refine ans _ ?_
      unfold q_many
      first
        | (rw [if_pos sw1_0]; exact hN)
        | (rw [if_neg sw1_0, if_pos sw1_1]; exact hn)
        | (rw [if_neg sw1_0, if_neg sw1_1, if_pos sw1_2]; exact hG.2.2.1)
        | (rw [if_neg sw1_0, if_neg sw1_1, if_neg sw1_2, if_pos sw1_3]; exact hk.2.2.2.1.2.2.1)
        | (rw [if_neg sw1_0, if_neg sw1_1, if_neg sw1_2, if_neg sw1_3, if_pos sw1_4]; exact hC4)
        | (rw [if_neg sw1_0, if_neg sw1_1, if_neg sw1_2, if_neg sw1_3, if_neg sw1_4, if_pos sw1_5]; exact hk.2.2.1)
        | (rw [if_neg sw1_0, if_neg sw1_1, if_neg sw1_2, if_neg sw1_3, if_neg sw1_4, if_neg sw1_5, if_pos sw1_6]; exact hl)
        | (rw [if_neg sw1_0, if_neg sw1_1, if_neg sw1_2, if_neg sw1_3, if_neg sw1_4, if_neg sw1_5, if_neg sw1_6, if_pos sw1_7]; exact hC5)
        | (rw [if_neg sw1_0, if_neg sw1_1, if_neg sw1_2, if_neg sw1_3, if_neg sw1_4, if_neg sw1_5, if_neg sw1_6, if_neg sw1_7])
    by_cases sw1_2 : what = 2
    · refine j_top sw1_2 ?_
      refine j_tableIn (pc := 1) (tgt := 61) dX7_many_1 (by decide) (by decide) (off := 60) rfl rfl ?_
      refine j_aload_n (pc := 61) dX7_many_61 rfl ?_
      refine j_getR (pc := 62) dX7_many_62 f_X7_33 (by first | rfl | with_reducible assumption) (by rfl) ?_
      refine j_getI (pc := 65) dX7_many_65 f_X7_181 (by first | rfl | with_reducible assumption) (by rfl) ?_
      refine j_if_eq (pc := 68) (tgt := 76) dX7_many_68 rfl (fun h68 => ?_) (fun h68 => absurd hG.2.1 h68)
      refine j_aload_n (pc := 76) dX7_many_76 rfl ?_
      refine j_getR (pc := 77) dX7_many_77 f_X7_33 (by first | rfl | with_reducible assumption) (by rfl) ?_
      refine j_getI (pc := 80) dX7_many_80 f_X7_185 (by first | rfl | with_reducible assumption) (by rfl) ?_
      refine j_iret (pc := 83) dX7_many_83 ?_
      refine ans _ ?_
      unfold q_many
      first
        | (rw [if_pos sw1_0]; exact hN)
        | (rw [if_neg sw1_0, if_pos sw1_1]; exact hn)
        | (rw [if_neg sw1_0, if_neg sw1_1, if_pos sw1_2]; exact hG.2.2.1)
        | (rw [if_neg sw1_0, if_neg sw1_1, if_neg sw1_2, if_pos sw1_3]; exact hk.2.2.2.1.2.2.1)
        | (rw [if_neg sw1_0, if_neg sw1_1, if_neg sw1_2, if_neg sw1_3, if_pos sw1_4]; exact hC4)
        | (rw [if_neg sw1_0, if_neg sw1_1, if_neg sw1_2, if_neg sw1_3, if_neg sw1_4, if_pos sw1_5]; exact hk.2.2.1)
        | (rw [if_neg sw1_0, if_neg sw1_1, if_neg sw1_2, if_neg sw1_3, if_neg sw1_4, if_neg sw1_5, if_pos sw1_6]; exact hl)
        | (rw [if_neg sw1_0, if_neg sw1_1, if_neg sw1_2, if_neg sw1_3, if_neg sw1_4, if_neg sw1_5, if_neg sw1_6, if_pos sw1_7]; exact hC5)
        | (rw [if_neg sw1_0, if_neg sw1_1, if_neg sw1_2, if_neg sw1_3, if_neg sw1_4, if_neg sw1_5, if_neg sw1_6, if_neg sw1_7])
    by_cases sw1_3 : what = 3
    · refine j_top sw1_3 ?_
      refine j_tableIn (pc := 1) (tgt := 84) dX7_many_1 (by decide) (by decide) (off := 83) rfl rfl ?_
      refine j_aload_n (pc := 84) dX7_many_84 rfl ?_
      refine j_getR (pc := 85) dX7_many_85 f_X7_53 (by first | rfl | with_reducible assumption) (by rfl) ?_
      refine j_getI (pc := 88) dX7_many_88 f_X7_216 (by first | rfl | with_reducible assumption) (by rfl) ?_
      refine j_iret (pc := 91) dX7_many_91 ?_
      refine ans _ ?_
      unfold q_many
      first
        | (rw [if_pos sw1_0]; exact hN)
        | (rw [if_neg sw1_0, if_pos sw1_1]; exact hn)
        | (rw [if_neg sw1_0, if_neg sw1_1, if_pos sw1_2]; exact hG.2.2.1)
        | (rw [if_neg sw1_0, if_neg sw1_1, if_neg sw1_2, if_pos sw1_3]; exact hk.2.2.2.1.2.2.1)
        | (rw [if_neg sw1_0, if_neg sw1_1, if_neg sw1_2, if_neg sw1_3, if_pos sw1_4]; exact hC4)
        | (rw [if_neg sw1_0, if_neg sw1_1, if_neg sw1_2, if_neg sw1_3, if_neg sw1_4, if_pos sw1_5]; exact hk.2.2.1)
        | (rw [if_neg sw1_0, if_neg sw1_1, if_neg sw1_2, if_neg sw1_3, if_neg sw1_4, if_neg sw1_5, if_pos sw1_6]; exact hl)
        | (rw [if_neg sw1_0, if_neg sw1_1, if_neg sw1_2, if_neg sw1_3, if_neg sw1_4, if_neg sw1_5, if_neg sw1_6, if_pos sw1_7]; exact hC5)
        | (rw [if_neg sw1_0, if_neg sw1_1, if_neg sw1_2, if_neg sw1_3, if_neg sw1_4, if_neg sw1_5, if_neg sw1_6, if_neg sw1_7])
    by_cases sw1_4 : what = 4
    · refine j_top sw1_4 ?_
      refine j_tableIn (pc := 1) (tgt := 92) dX7_many_1 (by decide) (by decide) (off := 91) rfl rfl ?_
      refine j_aload_n (pc := 92) dX7_many_92 rfl ?_
      refine j_getR (pc := 93) dX7_many_93 f_X7_60 (by first | rfl | with_reducible assumption) (by rfl) ?_
      refine j_getI (pc := 96) dX7_many_96 f_X7_219 (by first | rfl | with_reducible assumption) (by rfl) ?_
      refine j_iret (pc := 99) dX7_many_99 ?_
      refine ans _ ?_
      unfold q_many
      first
        | (rw [if_pos sw1_0]; exact hN)
        | (rw [if_neg sw1_0, if_pos sw1_1]; exact hn)
        | (rw [if_neg sw1_0, if_neg sw1_1, if_pos sw1_2]; exact hG.2.2.1)
        | (rw [if_neg sw1_0, if_neg sw1_1, if_neg sw1_2, if_pos sw1_3]; exact hk.2.2.2.1.2.2.1)
        | (rw [if_neg sw1_0, if_neg sw1_1, if_neg sw1_2, if_neg sw1_3, if_pos sw1_4]; exact hC4)
        | (rw [if_neg sw1_0, if_neg sw1_1, if_neg sw1_2, if_neg sw1_3, if_neg sw1_4, if_pos sw1_5]; exact hk.2.2.1)
        | (rw [if_neg sw1_0, if_neg sw1_1, if_neg sw1_2, if_neg sw1_3, if_neg sw1_4, if_neg sw1_5, if_pos sw1_6]; exact hl)
        | (rw [if_neg sw1_0, if_neg sw1_1, if_neg sw1_2, if_neg sw1_3, if_neg sw1_4, if_neg sw1_5, if_neg sw1_6, if_pos sw1_7]; exact hC5)
        | (rw [if_neg sw1_0, if_neg sw1_1, if_neg sw1_2, if_neg sw1_3, if_neg sw1_4, if_neg sw1_5, if_neg sw1_6, if_neg sw1_7])
    by_cases sw1_5 : what = 5
    · refine j_top sw1_5 ?_
      refine j_tableIn (pc := 1) (tgt := 100) dX7_many_1 (by decide) (by decide) (off := 99) rfl rfl ?_
      refine j_aload_n (pc := 100) dX7_many_100 rfl ?_
      refine j_getR (pc := 101) dX7_many_101 f_X7_53 (by first | rfl | with_reducible assumption) (by rfl) ?_
      refine j_getI (pc := 104) dX7_many_104 f_X7_220 (by first | rfl | with_reducible assumption) (by rfl) ?_
      refine j_iret (pc := 107) dX7_many_107 ?_
      refine ans _ ?_
      unfold q_many
      first
        | (rw [if_pos sw1_0]; exact hN)
        | (rw [if_neg sw1_0, if_pos sw1_1]; exact hn)
        | (rw [if_neg sw1_0, if_neg sw1_1, if_pos sw1_2]; exact hG.2.2.1)
        | (rw [if_neg sw1_0, if_neg sw1_1, if_neg sw1_2, if_pos sw1_3]; exact hk.2.2.2.1.2.2.1)
        | (rw [if_neg sw1_0, if_neg sw1_1, if_neg sw1_2, if_neg sw1_3, if_pos sw1_4]; exact hC4)
        | (rw [if_neg sw1_0, if_neg sw1_1, if_neg sw1_2, if_neg sw1_3, if_neg sw1_4, if_pos sw1_5]; exact hk.2.2.1)
        | (rw [if_neg sw1_0, if_neg sw1_1, if_neg sw1_2, if_neg sw1_3, if_neg sw1_4, if_neg sw1_5, if_pos sw1_6]; exact hl)
        | (rw [if_neg sw1_0, if_neg sw1_1, if_neg sw1_2, if_neg sw1_3, if_neg sw1_4, if_neg sw1_5, if_neg sw1_6, if_pos sw1_7]; exact hC5)
        | (rw [if_neg sw1_0, if_neg sw1_1, if_neg sw1_2, if_neg sw1_3, if_neg sw1_4, if_neg sw1_5, if_neg sw1_6, if_neg sw1_7])
    by_cases sw1_6 : what = 6
    · refine j_top sw1_6 ?_
      refine j_tableIn (pc := 1) (tgt := 108) dX7_many_1 (by decide) (by decide) (off := 107) rfl rfl ?_
      refine j_aload_n (pc := 108) dX7_many_108 rfl ?_
      refine j_getR (pc := 109) dX7_many_109 f_X7_67 (by first | rfl | with_reducible assumption) (by rfl) ?_
      refine j_getI (pc := 112) dX7_many_112 f_X7_223 (by first | rfl | with_reducible assumption) (by rfl) ?_
      refine j_iret (pc := 115) dX7_many_115 ?_
      refine ans _ ?_
      unfold q_many
      first
        | (rw [if_pos sw1_0]; exact hN)
        | (rw [if_neg sw1_0, if_pos sw1_1]; exact hn)
        | (rw [if_neg sw1_0, if_neg sw1_1, if_pos sw1_2]; exact hG.2.2.1)
        | (rw [if_neg sw1_0, if_neg sw1_1, if_neg sw1_2, if_pos sw1_3]; exact hk.2.2.2.1.2.2.1)
        | (rw [if_neg sw1_0, if_neg sw1_1, if_neg sw1_2, if_neg sw1_3, if_pos sw1_4]; exact hC4)
        | (rw [if_neg sw1_0, if_neg sw1_1, if_neg sw1_2, if_neg sw1_3, if_neg sw1_4, if_pos sw1_5]; exact hk.2.2.1)
        | (rw [if_neg sw1_0, if_neg sw1_1, if_neg sw1_2, if_neg sw1_3, if_neg sw1_4, if_neg sw1_5, if_pos sw1_6]; exact hl)
        | (rw [if_neg sw1_0, if_neg sw1_1, if_neg sw1_2, if_neg sw1_3, if_neg sw1_4, if_neg sw1_5, if_neg sw1_6, if_pos sw1_7]; exact hC5)
        | (rw [if_neg sw1_0, if_neg sw1_1, if_neg sw1_2, if_neg sw1_3, if_neg sw1_4, if_neg sw1_5, if_neg sw1_6, if_neg sw1_7])
    by_cases sw1_7 : what = 7
    · refine j_top sw1_7 ?_
      refine j_tableIn (pc := 1) (tgt := 116) dX7_many_1 (by decide) (by decide) (off := 115) rfl rfl ?_
      refine j_aload_n (pc := 116) dX7_many_116 rfl ?_
      refine j_getR (pc := 117) dX7_many_117 f_X7_60 (by first | rfl | with_reducible assumption) (by rfl) ?_
      refine j_getI (pc := 120) dX7_many_120 f_X7_224 (by first | rfl | with_reducible assumption) (by rfl) ?_
      refine j_iret (pc := 123) dX7_many_123 ?_
      refine ans _ ?_
      unfold q_many
      first
        | (rw [if_pos sw1_0]; exact hN)
        | (rw [if_neg sw1_0, if_pos sw1_1]; exact hn)
        | (rw [if_neg sw1_0, if_neg sw1_1, if_pos sw1_2]; exact hG.2.2.1)
        | (rw [if_neg sw1_0, if_neg sw1_1, if_neg sw1_2, if_pos sw1_3]; exact hk.2.2.2.1.2.2.1)
        | (rw [if_neg sw1_0, if_neg sw1_1, if_neg sw1_2, if_neg sw1_3, if_pos sw1_4]; exact hC4)
        | (rw [if_neg sw1_0, if_neg sw1_1, if_neg sw1_2, if_neg sw1_3, if_neg sw1_4, if_pos sw1_5]; exact hk.2.2.1)
        | (rw [if_neg sw1_0, if_neg sw1_1, if_neg sw1_2, if_neg sw1_3, if_neg sw1_4, if_neg sw1_5, if_pos sw1_6]; exact hl)
        | (rw [if_neg sw1_0, if_neg sw1_1, if_neg sw1_2, if_neg sw1_3, if_neg sw1_4, if_neg sw1_5, if_neg sw1_6, if_pos sw1_7]; exact hC5)
        | (rw [if_neg sw1_0, if_neg sw1_1, if_neg sw1_2, if_neg sw1_3, if_neg sw1_4, if_neg sw1_5, if_neg sw1_6, if_neg sw1_7])
    refine j_tableOut (pc := 1) (tgt := 124) dX7_many_1 (by (simp only [Int32.lt_iff_toInt_lt, Int32.le_iff_toInt_le, ← Int32.toInt_inj, vp_in_iff, ti_0, ti_1, ti_2, ti_3, ti_4, ti_5, ti_6, ti_7, ti_8, ti_16, ti_48, ti_53, ti_60, ti_97, ti_104, ti_127, ti_149, ti_150, ti_151, ti_256, ti_1200, ti_m1, ti_m2, ti_m3, ti_m4, ti_m9] at *; omega)) rfl ?_
    refine j_bipush (pc := 124) dX7_many_124 (v := (-2)) (by decide) ?_
    refine j_iret (pc := 126) dX7_many_126 ?_
    refine ans _ ?_
    unfold q_many
    first
      | (rw [if_pos sw1_0]; exact hN)
      | (rw [if_neg sw1_0, if_pos sw1_1]; exact hn)
      | (rw [if_neg sw1_0, if_neg sw1_1, if_pos sw1_2]; exact hG.2.2.1)
      | (rw [if_neg sw1_0, if_neg sw1_1, if_neg sw1_2, if_pos sw1_3]; exact hk.2.2.2.1.2.2.1)
      | (rw [if_neg sw1_0, if_neg sw1_1, if_neg sw1_2, if_neg sw1_3, if_pos sw1_4]; exact hC4)
      | (rw [if_neg sw1_0, if_neg sw1_1, if_neg sw1_2, if_neg sw1_3, if_neg sw1_4, if_pos sw1_5]; exact hk.2.2.1)
      | (rw [if_neg sw1_0, if_neg sw1_1, if_neg sw1_2, if_neg sw1_3, if_neg sw1_4, if_neg sw1_5, if_pos sw1_6]; exact hl)
      | (rw [if_neg sw1_0, if_neg sw1_1, if_neg sw1_2, if_neg sw1_3, if_neg sw1_4, if_neg sw1_5, if_neg sw1_6, if_pos sw1_7]; exact hC5)
      | (rw [if_neg sw1_0, if_neg sw1_1, if_neg sw1_2, if_neg sw1_3, if_neg sw1_4, if_neg sw1_5, if_neg sw1_6, if_neg sw1_7])
end Ask
