/-! LEASTBARSMODEL: isJoint, isShut, stateOf, leads, at, back -/
section AskR
variable {σ : Mm} {n0 : Nat} {t : Nat → Int32} {N : Nat} {K : Nat → Int32} {M : Nat → MV} {fs : Int32} {h : List Int32} {pl : Int32}
def jnP (σ' : Mm) (T : Tab) (set fs n r : Int32) : Prop := (Over T set ∧ r = 0) ∨ (¬ Over T set ∧ NG2 σ' T set ∧ ∃ k, DN2 σ' T set fs k ∧ ((vp_in n (gJ T set) ∧ r = 1) ∨ (¬ vp_in n (gJ T set) ∧ r = 0)))
theorem c_X8_isJoint (n : Int32) (q : R2 σ n0 t N K M fs h pl) : EV Γ2 5 yX8_isJoint cX8_isJoint 2 (some .boolean) [.inr 0, .inl n] σ (fun r σ' => R2 σ' n0 t N K M fs h pl ∧ jnP σ' (TA N K M) (allS N) fs n r) := by
  refine EV.intro (by decide +kernel) (Nat.le_of_ble_eq_true rfl) ?_
  refine j_aload_n (pc := 0) dX8_isJoint_0 rfl ?_
  refine j_callVv (pc := 1) dX8_isJoint_1 k_X8_180 (c_X8_knows q) (by first | rfl | with_reducible assumption) rfl rfl (by decide) rfl (Nat.le_of_ble_eq_true rfl) (fun σ1 hp => ?_)
  obtain ⟨hR, hD⟩ := hp
  refine j_iload_n (pc := 4) dX8_isJoint_4 rfl ?_
  refine j_iconst (pc := 5) dX8_isJoint_5 (v := 0) (by decide) ?_
  refine j_aload_n (pc := 6) dX8_isJoint_6 rfl ?_
  refine j_getI (pc := 7) dX8_isJoint_7 f_X8_131 (by first | rfl | with_reducible assumption) (by rfl) ?_
  refine j_iconst (pc := 10) dX8_isJoint_10 (v := 1) (by decide) ?_
  refine j_isub (pc := 11) dX8_isJoint_11 ?_
  refine j_callSi (pc := 12) dX8_isJoint_12 k_X8_59 (c_X8_within _ _ _ _) rfl (by decide) rfl (Nat.le_of_ble_eq_true rfl) (fun r σ1 hp => ?_)
  obtain ⟨rfl, hp⟩ := hp
  rcases hp with ⟨q12, rfl⟩ | ⟨q12, rfl⟩
  · refine j_zret (pc := 15) dX8_isJoint_15 (Or.inr rfl) ?_
    refine ⟨hR, ?_⟩
    rcases hD with ⟨hO, h11, -⟩ | ⟨hO, hG, k, hk⟩
    · rw [h11] at q12
      exact absurd q12 (fun z => by
        have t1 : ((0 : Int32) - 1).toInt = -1 := rfl
        simp only [Int32.lt_iff_toInt_lt, Int32.le_iff_toInt_le, ← Int32.toInt_inj, vp_in_iff, ti_0, ti_1, ti_2, ti_3, ti_4, ti_5, ti_6, ti_7, ti_8, ti_16, ti_48, ti_53, ti_60, ti_97, ti_104, ti_127, ti_149, ti_150, ti_151, ti_256, ti_1200, ti_m1, ti_m2, ti_m3, ti_m4, ti_m9, t1] at z
        omega)
    · rw [hG.2.1] at q12
      refine Or.inr ⟨hO, hG, k, hk, Or.inl ⟨?_, rfl⟩⟩
      have tN := nI_m1 (gJ (TA N K M) (allS N)) (by have := hG.1; omega)
      simp only [Int32.lt_iff_toInt_lt, Int32.le_iff_toInt_le, ← Int32.toInt_inj, vp_in_iff, ti_0, ti_1, ti_2, ti_3, ti_4, ti_5, ti_6, ti_7, ti_8, ti_16, ti_48, ti_53, ti_60, ti_97, ti_104, ti_127, ti_149, ti_150, ti_151, ti_256, ti_1200, ti_m1, ti_m2, ti_m3, ti_m4, ti_m9, tN] at *
      omega
  · refine j_zret (pc := 15) dX8_isJoint_15 (Or.inl rfl) ?_
    refine ⟨hR, ?_⟩
    rcases hD with ⟨hO, h11, -⟩ | ⟨hO, hG, k, hk⟩
    · exact Or.inl ⟨hO, rfl⟩
    · rw [hG.2.1] at q12
      refine Or.inr ⟨hO, hG, k, hk, Or.inr ⟨?_, rfl⟩⟩
      have tN := nI_m1 (gJ (TA N K M) (allS N)) (by have := hG.1; omega)
      simp only [Int32.lt_iff_toInt_lt, Int32.le_iff_toInt_le, ← Int32.toInt_inj, vp_in_iff, ti_0, ti_1, ti_2, ti_3, ti_4, ti_5, ti_6, ti_7, ti_8, ti_16, ti_48, ti_53, ti_60, ti_97, ti_104, ti_127, ti_149, ti_150, ti_151, ti_256, ti_1200, ti_m1, ti_m2, ti_m3, ti_m4, ti_m9, tN] at *
      omega
theorem gU0 (T : Tab) (set fs : Int32) (k : Nat) : gU T set fs k 0 = decide ((gW T set fs k).1 0 = -9) := Uk_0 (g_pos T set)
def shP (σ' : Mm) (T : Tab) (set fs r : Int32) : Prop := (Over T set ∧ r = 1) ∨ (¬ Over T set ∧ NG2 σ' T set ∧ ∃ k, DN2 σ' T set fs k ∧ (((gW T set fs k).1 0 ≠ -9 ∧ r = 1) ∨ ((gW T set fs k).1 0 = -9 ∧ r = 0)))
theorem c_X8_isShut (q : R2 σ n0 t N K M fs h pl) : EV Γ2 5 yX8_isShut cX8_isShut 1 (some .boolean) [.inr 0] σ (fun r σ' => R2 σ' n0 t N K M fs h pl ∧ shP σ' (TA N K M) (allS N) fs r) := by
  refine EV.intro (by decide +kernel) (Nat.le_of_ble_eq_true rfl) ?_
  refine j_aload_n (pc := 0) dX8_isShut_0 rfl ?_
  refine j_callVv (pc := 1) dX8_isShut_1 k_X8_180 (c_X8_knows q) (by first | rfl | with_reducible assumption) rfl rfl (by decide) rfl (Nat.le_of_ble_eq_true rfl) (fun σ1 hp => ?_)
  obtain ⟨hR, hD⟩ := hp
  refine j_aload_n (pc := 4) dX8_isShut_4 rfl ?_
  refine j_getI (pc := 5) dX8_isShut_5 f_X8_131 (by first | rfl | with_reducible assumption) (by rfl) ?_
  refine j_if_eq (pc := 8) (tgt := 20) dX8_isShut_8 rfl (fun h8 => ?_) (fun h8 => ?_)
  · refine j_iconst (pc := 20) dX8_isShut_20 (v := 1) (by decide) ?_
    refine j_goto (pc := 21) (tgt := 25) dX8_isShut_21 rfl ?_
    refine j_zret (pc := 25) dX8_isShut_25 (Or.inr rfl) ?_
    refine ⟨hR, ?_⟩
    rcases hD with ⟨hO, h11, -⟩ | ⟨hO, hG, k, hk⟩
    · exact Or.inl ⟨hO, rfl⟩
    · have h0 := g_pos (TA N K M) (allS N)
      have hJ := hG.1
      refine Or.inr ⟨hO, hG, k, hk, Or.inl ⟨fun z => ?_, rfl⟩⟩
      have h14 := hk.2.2.2.2 0 h0
      rw [gU0, decide_eq_true z, if_pos rfl] at h14
      first
        | exact absurd (h14.symm.trans h17) (by decide)
        | (rw [hG.2.1] at h8; exact absurd ((nI_eq (b := 0) (by omega) (by decide)).mp h8) (by omega))
  · refine j_aload_n (pc := 11) dX8_isShut_11 rfl ?_
    refine j_getR (pc := 12) dX8_isShut_12 f_X8_50 (by first | rfl | with_reducible assumption) (by rfl) ?_
    refine j_iconst (pc := 15) dX8_isShut_15 (v := 0) (by decide) ?_
    refine j_zald (pc := 16) dX8_isShut_16 (by first | rfl | with_reducible assumption) (vp_in_nI (n := 0) (N := 150) (by decide) (by decide)) ?_
    refine j_if_ne (pc := 17) (tgt := 24) dX8_isShut_17 rfl (fun h17 => ?_) (fun h17 => ?_)
    · refine j_iconst (pc := 24) dX8_isShut_24 (v := 0) (by decide) ?_
      refine j_zret (pc := 25) dX8_isShut_25 (Or.inl rfl) ?_
      refine ⟨hR, ?_⟩
      rcases hD with ⟨hO, h11, -⟩ | ⟨hO, hG, k, hk⟩
      · exact absurd h11 h8
      · have h0 := g_pos (TA N K M) (allS N)
        refine Or.inr ⟨hO, hG, k, hk, Or.inr ⟨?_, rfl⟩⟩
        have h14 := hk.2.2.2.2 0 h0
        rw [gU0] at h14
        by_cases z : (gW (TA N K M) (allS N) fs k).1 0 = -9
        · exact z
        · rw [decide_eq_false z, if_neg (by decide)] at h14
          exact absurd h14 h17
    · refine j_iconst (pc := 20) dX8_isShut_20 (v := 1) (by decide) ?_
      refine j_goto (pc := 21) (tgt := 25) dX8_isShut_21 rfl ?_
      refine j_zret (pc := 25) dX8_isShut_25 (Or.inr rfl) ?_
      refine ⟨hR, ?_⟩
      rcases hD with ⟨hO, h11, -⟩ | ⟨hO, hG, k, hk⟩
      · exact Or.inl ⟨hO, rfl⟩
      · have h0 := g_pos (TA N K M) (allS N)
        have hJ := hG.1
        refine Or.inr ⟨hO, hG, k, hk, Or.inl ⟨fun z => ?_, rfl⟩⟩
        have h14 := hk.2.2.2.2 0 h0
        rw [gU0, decide_eq_true z, if_pos rfl] at h14
        first
          | exact absurd (h14.symm.trans h17) (by decide)
          | (rw [hG.2.1] at h8; exact absurd ((nI_eq (b := 0) (by omega) (by decide)).mp h8) (by omega))
theorem c_X8_stateOf (n m : Int32) (q : R2 σ n0 t N K M fs h pl) : EV Γ2 6 yX8_stateOf cX8_stateOf 3 (some .int) [.inr 0, .inl n, .inl m] σ (fun r σ' => R2 σ' n0 t N K M fs h pl ∧ Ans (TA N K M) (allS N) fs (-1) (fun _ => q_stateOf (TA N K M) (allS N) N n m) r) := by
  have go0 : ∀ σ' : Mm, R2 σ' n0 t N K M fs h pl → Ans (TA N K M) (allS N) fs (-1) (fun _ => q_stateOf (TA N K M) (allS N) N n m) (-1) → AJ Γ2 6 RX8 cX8_stateOf 3 (some .int) (fun r σ' => R2 σ' n0 t N K M fs h pl ∧ Ans (TA N K M) (allS N) fs (-1) (fun _ => q_stateOf (TA N K M) (allS N) N n m) r) 5 [some (.inr 0), some (.inl n), some (.inl m)] [.inl 0] σ' := by
    intro σ' hR hA
    refine j_if_eq (pc := 5) (tgt := 29) dX8_stateOf_5 rfl (fun h5 => ?_) (fun h5 => absurd rfl h5)
    refine j_iconst (pc := 29) dX8_stateOf_29 (v := (-1)) (by decide) ?_
    refine j_iret (pc := 30) dX8_stateOf_30 ?_
    exact ⟨hR, hA⟩
  have go1 : ∀ (σ' : Mm) (k i : Nat), R2 σ' n0 t N K M fs h pl → ¬ Over (TA N K M) (allS N) → NG2 σ' (TA N K M) (allS N) → DN2 σ' (TA N K M) (allS N) fs k → i < gJ (TA N K M) (allS N) → n = nI i → AJ Γ2 6 RX8 cX8_stateOf 3 (some .int) (fun r σ' => R2 σ' n0 t N K M fs h pl ∧ Ans (TA N K M) (allS N) fs (-1) (fun _ => q_stateOf (TA N K M) (allS N) N n m) r) 5 [some (.inr 0), some (.inl n), some (.inl m)] [.inl 1] σ' := by
    rintro σ' k i hR hO hG hk hi rfl
    have hJ := hG.1
    have h6 := hR.1.2.2.2.2.1
    have hci : (nI i).toNatClampNeg = i := nI_clamp (by omega)
    refine j_if_eq (pc := 5) (tgt := 29) dX8_stateOf_5 rfl (fun h5 => absurd h5 (by decide)) (fun h5 => ?_)
    refine j_aload_n (pc := 8) dX8_stateOf_8 rfl ?_
    refine j_iload_n (pc := 9) dX8_stateOf_9 rfl ?_
    refine j_callVi (pc := 10) dX8_stateOf_10 k_X8_125 (c_X8_isMachine m hR.1.2.2.2.1 h6) (by first | rfl | with_reducible assumption) rfl rfl (by decide) rfl (Nat.le_of_ble_eq_true rfl) (fun r σ1 hp => ?_)
    obtain ⟨rfl, hp⟩ := hp
    rcases hp with ⟨q10, rfl⟩ | ⟨q10, rfl⟩
    · refine j_if_eq (pc := 13) (tgt := 29) dX8_stateOf_13 rfl (fun h => absurd h (by decide)) (fun _ => ?_)
      refine j_aload_n (pc := 16) dX8_stateOf_16 rfl ?_
      refine j_getR (pc := 17) dX8_stateOf_17 f_X8_31 (by first | rfl | with_reducible assumption) (by rfl) ?_
      refine j_iload_n (pc := 20) dX8_stateOf_20 rfl ?_
      refine j_iald (pc := 21) dX8_stateOf_21 (by first | rfl | with_reducible assumption) (vp_in_nI (by omega) (by decide)) ?_
      refine j_iload_n (pc := 22) dX8_stateOf_22 rfl ?_
      refine j_callSi (pc := 23) dX8_stateOf_23 k_X8_128 (c_X8_stateIn _ _ _) rfl (by decide) rfl (Nat.le_of_ble_eq_true rfl) (fun r σ1 hp => ?_)
      obtain ⟨rfl, rfl⟩ := hp
      refine j_goto (pc := 26) (tgt := 30) dX8_stateOf_26 rfl ?_
      refine j_iret (pc := 30) dX8_stateOf_30 ?_
      refine ⟨hR, Or.inr ⟨hO, k, hk.2.1, ?_⟩⟩
      show _ = q_stateOf (TA N K M) (allS N) N (nI i) m
      unfold q_stateOf
      first
        | (rw [if_neg (fun z => q10 (inR_iff.mp z.2))]; done)
        | (rw [if_pos ⟨inR_nI hi (by omega), inR_iff.mpr q10⟩, hci, hG.2.2.1 i hi]
           obtain ⟨j, hj, rfl⟩ := vp_in_of q10 (by omega)
           rw [nI_clamp (by omega), stIn])
    · refine j_if_eq (pc := 13) (tgt := 29) dX8_stateOf_13 rfl (fun _ => ?_) (fun h => absurd h (by decide))
      refine j_iconst (pc := 29) dX8_stateOf_29 (v := (-1)) (by decide) ?_
      refine j_iret (pc := 30) dX8_stateOf_30 ?_
      refine ⟨hR, Or.inr ⟨hO, k, hk.2.1, ?_⟩⟩
      show _ = q_stateOf (TA N K M) (allS N) N (nI i) m
      unfold q_stateOf
      first
        | (rw [if_neg (fun z => q10 (inR_iff.mp z.2))]; done)
        | (rw [if_pos ⟨inR_nI hi (by omega), inR_iff.mpr q10⟩, hci, hG.2.2.1 i hi]
           obtain ⟨j, hj, rfl⟩ := vp_in_of q10 (by omega)
           rw [nI_clamp (by omega), stIn])
  refine EV.intro (by decide +kernel) (Nat.le_of_ble_eq_true rfl) ?_
  refine j_aload_n (pc := 0) dX8_stateOf_0 rfl ?_
  refine j_iload_n (pc := 1) dX8_stateOf_1 rfl ?_
  refine j_callVi (pc := 2) dX8_stateOf_2 k_X8_183 (c_X8_isJoint n q) (by first | rfl | with_reducible assumption) rfl rfl (by decide) rfl (Nat.le_of_ble_eq_true rfl) (fun r σ1 hp => ?_)
  obtain ⟨hR, hp⟩ := hp
  rcases hp with ⟨hO, rfl⟩ | ⟨hO, hG, k, hk, ⟨hv, rfl⟩ | ⟨hv, rfl⟩⟩
  · exact go0 _ hR (Or.inl ⟨hO, rfl⟩)
  · obtain ⟨i, hi, hie⟩ := vp_in_of hv (by have := hG.1; omega)
    exact go1 _ k i hR hO hG hk hi hie
  · exact go0 _ hR (Or.inr ⟨hO, k, hk.2.1, (if_neg (fun z => hv (inR_iff.mp z.1))).symm⟩)
theorem c_X8_leads (n e : Int32) (q : R2 σ n0 t N K M fs h pl) : EV Γ2 6 yX8_leads cX8_leads 3 (some .int) [.inr 0, .inl n, .inl e] σ (fun r σ' => R2 σ' n0 t N K M fs h pl ∧ Ans (TA N K M) (allS N) fs (-1) (fun _ => q_leads (TA N K M) (allS N) n e) r) := by
  have go0 : ∀ σ' : Mm, R2 σ' n0 t N K M fs h pl → Ans (TA N K M) (allS N) fs (-1) (fun _ => q_leads (TA N K M) (allS N) n e) (-1) → AJ Γ2 6 RX8 cX8_leads 3 (some .int) (fun r σ' => R2 σ' n0 t N K M fs h pl ∧ Ans (TA N K M) (allS N) fs (-1) (fun _ => q_leads (TA N K M) (allS N) n e) r) 5 [some (.inr 0), some (.inl n), some (.inl e)] [.inl 0] σ' := by
    intro σ' hR hA
    refine j_if_eq (pc := 5) (tgt := 29) dX8_leads_5 rfl (fun h5 => ?_) (fun h5 => absurd rfl h5)
    refine j_iconst (pc := 29) dX8_leads_29 (v := (-1)) (by decide) ?_
    refine j_iret (pc := 30) dX8_leads_30 ?_
    exact ⟨hR, hA⟩
  have go1 : ∀ (σ' : Mm) (k i : Nat), R2 σ' n0 t N K M fs h pl → ¬ Over (TA N K M) (allS N) → NG2 σ' (TA N K M) (allS N) → DN2 σ' (TA N K M) (allS N) fs k → i < gJ (TA N K M) (allS N) → n = nI i → AJ Γ2 6 RX8 cX8_leads 3 (some .int) (fun r σ' => R2 σ' n0 t N K M fs h pl ∧ Ans (TA N K M) (allS N) fs (-1) (fun _ => q_leads (TA N K M) (allS N) n e) r) 5 [some (.inr 0), some (.inl n), some (.inl e)] [.inl 1] σ' := by
    rintro σ' k i hR hO hG hk hi rfl
    have hJ := hG.1
    have hci : (nI i).toNatClampNeg = i := nI_clamp (by omega)
    refine j_if_eq (pc := 5) (tgt := 29) dX8_leads_5 rfl (fun h5 => absurd h5 (by decide)) (fun h5 => ?_)
    refine j_iload_n (pc := 8) dX8_leads_8 rfl ?_
    refine j_callSi (pc := 9) dX8_leads_9 k_X8_115 (c_X8_isEvent _ _) rfl (by decide) rfl (Nat.le_of_ble_eq_true rfl) (fun r σ1 hp => ?_)
    obtain ⟨rfl, hp⟩ := hp
    rcases hp with ⟨q9, rfl⟩ | ⟨q9, rfl⟩
    · obtain ⟨j, hj, rfl⟩ := vp_in_of q9 (by decide)
      refine j_if_eq (pc := 12) (tgt := 29) dX8_leads_12 rfl (fun h => absurd h (by decide)) (fun _ => ?_)
      refine j_aload_n (pc := 15) dX8_leads_15 rfl ?_
      refine j_getR (pc := 16) dX8_leads_16 f_X8_34 (by first | rfl | with_reducible assumption) (by rfl) ?_
      refine j_bipush (pc := 19) dX8_leads_19 (v := 8) (by decide) ?_
      refine j_iload_n (pc := 21) dX8_leads_21 rfl ?_
      refine j_imul (pc := 22) dX8_leads_22 ?_
      refine j_iload_n (pc := 23) dX8_leads_23 rfl ?_
      refine j_iadd (pc := 24) dX8_leads_24 ?_
      refine j_top (y := nI (8 * i + j)) (by rw [show (8 : Int32) = nI 8 from rfl, pk_mul, nI_add]) ?_
      refine j_iald (pc := 25) dX8_leads_25 (by first | rfl | with_reducible assumption) (vp_in_nI (by omega) (by decide)) ?_
      refine j_goto (pc := 26) (tgt := 30) dX8_leads_26 rfl ?_
      refine j_iret (pc := 30) dX8_leads_30 ?_
      refine ⟨hR, Or.inr ⟨hO, k, hk.2.1, ?_⟩⟩
      first
        | (show _ = q_leads (TA N K M) (allS N) (nI i) (nI j)
           unfold q_leads
           rw [if_pos ⟨inR_nI hi (by omega), inR_nI hj (by decide)⟩, hci, nI_clamp (by omega), nI_clamp (by omega)]
           exact hG.2.2.2 _ (by omega))
        | exact (if_neg (fun z => q9 (inR_iff.mp z.2))).symm
    · refine j_if_eq (pc := 12) (tgt := 29) dX8_leads_12 rfl (fun _ => ?_) (fun h => absurd h (by decide))
      refine j_iconst (pc := 29) dX8_leads_29 (v := (-1)) (by decide) ?_
      refine j_iret (pc := 30) dX8_leads_30 ?_
      refine ⟨hR, Or.inr ⟨hO, k, hk.2.1, ?_⟩⟩
      first
        | (show _ = q_leads (TA N K M) (allS N) (nI i) (nI j)
           unfold q_leads
           rw [if_pos ⟨inR_nI hi (by omega), inR_nI hj (by decide)⟩, hci, nI_clamp (by omega), nI_clamp (by omega)]
           exact hG.2.2.2 _ (by omega))
        | exact (if_neg (fun z => q9 (inR_iff.mp z.2))).symm
  refine EV.intro (by decide +kernel) (Nat.le_of_ble_eq_true rfl) ?_
  refine j_aload_n (pc := 0) dX8_leads_0 rfl ?_
  refine j_iload_n (pc := 1) dX8_leads_1 rfl ?_
  refine j_callVi (pc := 2) dX8_leads_2 k_X8_183 (c_X8_isJoint n q) (by first | rfl | with_reducible assumption) rfl rfl (by decide) rfl (Nat.le_of_ble_eq_true rfl) (fun r σ1 hp => ?_)
  obtain ⟨hR, hp⟩ := hp
  rcases hp with ⟨hO, rfl⟩ | ⟨hO, hG, k, hk, ⟨hv, rfl⟩ | ⟨hv, rfl⟩⟩
  · exact go0 _ hR (Or.inl ⟨hO, rfl⟩)
  · obtain ⟨i, hi, hie⟩ := vp_in_of hv (by have := hG.1; omega)
    exact go1 _ k i hR hO hG hk hi hie
  · exact go0 _ hR (Or.inr ⟨hO, k, hk.2.1, (if_neg (fun z => hv (inR_iff.mp z.1))).symm⟩)
theorem c_X8_at (q : R2 σ n0 t N K M fs h pl) : EV Γ2 6 yX8_at cX8_at 1 (some .int) [.inr 0] σ (fun r σ' => R2 σ' n0 t N K M fs h pl ∧ Ans (TA N K M) (allS N) fs (-3) (fun k => if (gW (TA N K M) (allS N) fs k).1 0 = -9 then pl else -3) r) := by
  refine EV.intro (by decide +kernel) (Nat.le_of_ble_eq_true rfl) ?_
  refine j_aload_n (pc := 0) dX8_at_0 rfl ?_
  refine j_callVi (pc := 1) dX8_at_1 k_X8_192 (c_X8_isShut q) (by first | rfl | with_reducible assumption) rfl rfl (by decide) rfl (Nat.le_of_ble_eq_true rfl) (fun r σ1 hp => ?_)
  obtain ⟨hR, hp⟩ := hp
  refine j_if_eq (pc := 4) (tgt := 12) dX8_at_4 rfl (fun h4 => ?_) (fun h4 => ?_)
  · refine j_aload_n (pc := 12) dX8_at_12 rfl ?_
    refine j_getI (pc := 13) dX8_at_13 f_X8_109 (by first | rfl | with_reducible assumption) (by rfl) ?_
    refine j_iret (pc := 16) dX8_at_16 ?_
    refine ⟨hR, ?_⟩
    rcases hp with ⟨hO, hr⟩ | ⟨hO, hG, k, hk, ⟨hw, hr⟩ | ⟨hw, hr⟩⟩
    · first | exact Or.inl ⟨hO, rfl⟩ | exact absurd (hr.symm.trans h4) (by decide)
    · first | exact Or.inr ⟨hO, k, hk.2.1, (if_neg hw).symm⟩ | exact absurd (hr.symm.trans h4) (by decide)
    · first | exact absurd hr h4 | exact Or.inr ⟨hO, k, hk.2.1, hR.2.2.2.1.1.trans (if_pos hw).symm⟩
  · refine j_bipush (pc := 7) dX8_at_7 (v := (-3)) (by decide) ?_
    refine j_goto (pc := 9) (tgt := 16) dX8_at_9 rfl ?_
    refine j_iret (pc := 16) dX8_at_16 ?_
    refine ⟨hR, ?_⟩
    rcases hp with ⟨hO, hr⟩ | ⟨hO, hG, k, hk, ⟨hw, hr⟩ | ⟨hw, hr⟩⟩
    · first | exact Or.inl ⟨hO, rfl⟩ | exact absurd (hr.symm.trans h4) (by decide)
    · first | exact Or.inr ⟨hO, k, hk.2.1, (if_neg hw).symm⟩ | exact absurd (hr.symm.trans h4) (by decide)
    · first | exact absurd hr h4 | exact Or.inr ⟨hO, k, hk.2.1, hR.2.2.2.1.1.trans (if_pos hw).symm⟩
theorem c_X8_back (q : R2 σ n0 t N K M fs h pl) : EV Γ2 0 yX8_back cX8_back 1 (some .int) [.inr 0] σ (fun r σ' => (h = [] ∧ r = -3 ∧ σ = σ') ∨ ∃ a h', h = a :: h' ∧ r = a ∧ R2 σ' n0 t N K M fs h' a) := by
  obtain ⟨hb, hfs, hD, ⟨t1, t2, t3, t4⟩, hTV⟩ := q
  refine EV.intro (by decide +kernel) (Nat.le_of_ble_eq_true rfl) ?_
  refine j_aload_n (pc := 0) dX8_back_0 rfl ?_
  refine j_getI (pc := 1) dX8_back_1 f_X8_112 (by first | rfl | with_reducible assumption) (by rfl) ?_
  refine j_top t3 ?_
  refine j_if_ne (pc := 4) (tgt := 10) dX8_back_4 rfl (fun h4 => ?_) (fun h4 => ?_)
  · obtain ⟨a, h', rfl⟩ : ∃ a h', h = a :: h' := by
      cases h with
      | nil => exact absurd rfl h4
      | cons a h' => exact ⟨a, h', rfl⟩
    rw [List.length_cons] at t2 t3
    refine j_aload_n (pc := 10) dX8_back_10 rfl ?_
    refine j_dup (pc := 11) dX8_back_11 ?_
    refine j_getI (pc := 12) dX8_back_12 f_X8_112 (by first | rfl | with_reducible assumption) (by rfl) ?_
    refine j_iconst (pc := 15) dX8_back_15 (v := 1) (by decide) ?_
    refine j_isub (pc := 16) dX8_back_16 ?_
    refine j_top (y := nI h'.length) (by rw [t3]; exact nI_pred _) ?_
    refine j_put (pc := 17) dX8_back_17 f_X8_112 (by first | rfl | with_reducible assumption) (by rfl) ?_
    refine j_aload_n (pc := 20) dX8_back_20 rfl ?_
    refine j_aload_n (pc := 21) dX8_back_21 rfl ?_
    refine j_getR (pc := 22) dX8_back_22 f_X8_53 (by first | rfl | with_reducible assumption) (by rfl) ?_
    refine j_aload_n (pc := 25) dX8_back_25 rfl ?_
    refine j_getI (pc := 26) dX8_back_26 f_X8_112 (by first | rfl | with_reducible assumption) (by rfl) ?_
    refine j_top (m_eq _ _ _ _) ?_
    refine j_iald (pc := 29) dX8_back_29 (by first | rfl | with_reducible assumption) (vp_in_nI (by omega) (by decide)) ?_
    refine j_top (y := a) (by
      rw [nI_clamp (by omega), m_ne (by decide)]
      have := t4 0 (by simp)
      simpa using this.symm) ?_
    refine j_put (pc := 30) dX8_back_30 f_X8_109 (by first | rfl | with_reducible assumption) (by rfl) ?_
    refine j_aload_n (pc := 33) dX8_back_33 rfl ?_
    refine j_getI (pc := 34) dX8_back_34 f_X8_109 (by first | rfl | with_reducible assumption) (by rfl) ?_
    refine j_iret (pc := 37) dX8_back_37 ?_
    refine Or.inr ⟨a, h', rfl, m_eq _ _ _ _, ?_, ?_, ?_, ⟨m_eq _ _ _ _, by omega, by rw [m_nk (by decide), m_eq], fun i hi => ?_⟩, ?_⟩
    · exact (hb.u0 (by decide) (by decide)).u0 (by decide) (by decide)
    · rw [m_nk (by decide), m_nk (by decide)]; exact hfs
    · rw [m_nk (by decide), m_nk (by decide)]
      rcases hD with c | ⟨c, c'⟩
      · exact Or.inl c
      · exact Or.inr ⟨c, c'.cells (by rw [m_nk (by decide), m_nk (by decide)]) (by rw [m_nk (by decide), m_nk (by decide)]) (fun x _ _ => by rw [m_ne (by omega), m_ne (by omega)])⟩
    · rw [m_ne (by decide), m_ne (by decide)]
      have := t4 (i + 1) (by rw [List.length_cons]; omega)
      rw [List.length_cons, show h'.length + 1 - 1 - (i + 1) = h'.length - 1 - i by omega] at this
      simpa using this
    · exact fun v hv => hTV v (List.mem_cons_of_mem _ hv)
  · refine j_bipush (pc := 7) dX8_back_7 (v := (-3)) (by decide) ?_
    refine j_iret (pc := 9) dX8_back_9 ?_
    have : h.length = 0 := (nI_eq (b := 0) (by omega) (by decide)).mp h4
    exact Or.inl ⟨List.length_eq_zero_iff.mp this, rfl, rfl⟩
end AskR
