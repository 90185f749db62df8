/-! LEASTBARSMODEL: word -/
section WordR
variable {σ : Mm} {n0 : Nat} {t : Nat → Int32} {N : Nat} {K : Nat → Int32} {M : Nat → MV} {fs : Int32} {h : List Int32} {pl : Int32}
def wordP (n0 : Nat) (t : Nat → Int32) (N : Nat) (K : Nat → Int32) (M : Nat → MV) (fs : Int32) (h : List Int32) (pl n kk : Int32) : Int32 → Mm → Prop := fun r σ' => R2 σ' n0 t N K M fs h pl ∧ Ans (TA N K M) (allS N) fs (-1) (fun k => q_word (TA N K M) (allS N) fs k n kk) r
theorem c_X8_word (n kk : Int32) (q : R2 σ n0 t N K M fs h pl) : EV Γ2 6 yX8_word cX8_word 4 (some .int) [.inr 0, .inl n, .inl kk] σ (wordP n0 t N K M fs h pl n kk) := by
  have go0 : ∀ σ' : Mm, wordP n0 t N K M fs h pl n kk (-1) σ' → AJ Γ2 6 RX8 cX8_word 4 (some .int) (wordP n0 t N K M fs h pl n kk) 5 [some (.inr 0), some (.inl n), some (.inl kk), none] [.inl 0] σ' := by
    intro σ' hA
    refine j_if_ne (pc := 5) (tgt := 10) dX8_word_5 rfl (fun h5 => absurd rfl h5) (fun h5 => ?_)
    refine j_iconst (pc := 8) dX8_word_8 (v := (-1)) (by decide) ?_
    refine j_iret (pc := 9) dX8_word_9 ?_
    exact hA
  have go1 : ∀ (σ' : Mm) (k i : Nat), R2 σ' n0 t N K M fs h pl → ¬ Over (TA N K M) (allS N) → NG2 σ' (TA N K M) (allS N) → DN2 σ' (TA N K M) (allS N) fs k → i < gJ (TA N K M) (allS N) → n = nI i → AJ Γ2 6 RX8 cX8_word 4 (some .int) (wordP n0 t N K M fs h pl n kk) 5 [some (.inr 0), some (.inl n), some (.inl kk), none] [.inl 1] σ' := by
    rintro σ' k i hR hO hG hk hi rfl
    have hJ := hG.1
    have hci : (nI i).toNatClampNeg = i := nI_clamp (by omega)
    have hvi : vp_in (nI i) 150 := vp_in_nI (by omega) (by decide)
    have hU : ∀ m, m < gJ (TA N K M) (allS N) → σ' 14 m = if gU (TA N K M) (allS N) fs k m = true then 1 else 0 := hk.2.2.2.2
    have ans : ∀ (σ2 : Mm) r, R2 σ2 n0 t N K M fs h pl → (kk = -9 ∨ vp_in kk 150) → r = (if gU (TA N K M) (allS N) fs k i = true then q_way (gJ (TA N K M) (allS N)) (farW (gJ (TA N K M) (allS N)) (toX (TA N K M) (allS N)) (fun m => decide (m = i)) (gU (TA N K M) (allS N) fs k)) (toX (TA N K M) (allS N)) 0 kk else -9) → wordP n0 t N K M fs h pl (nI i) kk r σ2 := fun σ2 r hR2 hv hr => ⟨hR2, Or.inr ⟨hO, k, hk.2.1, by
      show r = q_word (TA N K M) (allS N) fs k (nI i) kk
      unfold q_word
      rw [if_pos (inR_nI hi (by omega)), if_pos (hv.imp_right inR_iff.mpr), hci]
      exact hr⟩⟩
    have loop : (kk = -9 ∨ vp_in kk 150) → gU (TA N K M) (allS N) fs k i = true → ∀ (r x : Nat) (σ2 : Mm), x + r = gJ (TA N K M) (allS N) → FrO 16 σ' σ2 → (∀ y, y < x → σ2 16 y = if y = i then 0 else -9) → AJ Γ2 6 RX8 cX8_word 4 (some .int) (wordP n0 t N K M fs h pl (nI i) kk) 34 [some (.inr 0), some (.inl (nI i)), some (.inl kk), some (.inl (nI x))] [] σ2 := by
      intro hv hu r
      induction r with
      | zero =>
        intro x σ2 hx hF hold
        obtain rfl : x = gJ (TA N K M) (allS N) := by omega
        have hR2 := hR.far hF
        have hG2 : NG2 σ2 (TA N K M) (allS N) := hG.frX (hF.x (by decide))
        have hU2 : ∀ m, m < gJ (TA N K M) (allS N) → σ2 14 m = if gU (TA N K M) (allS N) fs k m = true then 1 else 0 := by rw [hF 14 (by decide)]; exact hU
        refine j_iload_n (pc := 34) dX8_word_34 rfl ?_
        refine j_aload_n (pc := 35) dX8_word_35 rfl ?_
        refine j_getI (pc := 36) dX8_word_36 f_X8_131 (by first | rfl | with_reducible assumption) (by rfl) ?_
        refine j_top (y := nI (gJ (TA N K M) (allS N))) (by rw [hF 0 (by decide)]; exact hG.2.1) ?_
        refine j_icmp_ge (pc := 39) (tgt := 65) dX8_word_39 rfl (fun h39 => ?_) (fun h39 => absurd (Int32.le_refl _) h39)
        refine j_aload_n (pc := 65) dX8_word_65 rfl ?_
        refine j_callVv (pc := 66) dX8_word_66 k_X8_201 (c_X8_findFar (U := gU (TA N K M) (allS N) fs k) (fn := fun m => decide (m = i)) hJ hG2.2.1 hG2.2.2.2 (gT_lt hJ) hU2 (fun y hy => by
  rw [hold y hy]
  by_cases z : y = i
  · rw [if_pos z, if_pos ⟨by rw [z]; exact hu, decide_eq_true z⟩]
  · rw [if_neg z, if_neg (fun w => z (of_decide_eq_true w.2))])) (by first | rfl | with_reducible assumption) rfl rfl (by decide) rfl (Nat.le_of_ble_eq_true rfl) (fun σ3 hp => ?_)
        obtain ⟨g1, g2⟩ := hp
        have hR3 := hR2.far g1
        have hG3 : NG2 σ3 (TA N K M) (allS N) := hG2.frX (g1.x (by decide))
        refine j_aload_n (pc := 69) dX8_word_69 rfl ?_
        refine j_iconst (pc := 70) dX8_word_70 (v := 0) (by decide) ?_
        refine j_iload_n (pc := 71) dX8_word_71 rfl ?_
        refine j_callVi (pc := 72) dX8_word_72 k_X8_204 (c_X8_tellWord (n := 0) hJ hG3.2.2.2 (gT_lt hJ) (by rw [g1 14 (by decide)]; exact hU2) g2 (g_pos _ _) hv) (by first | rfl | with_reducible assumption) rfl rfl (by decide) rfl (Nat.le_of_ble_eq_true rfl) (fun r σ1 hp => ?_)
        obtain ⟨rfl, rfl⟩ := hp
        refine j_iret (pc := 75) dX8_word_75 ?_
        refine ans _ _ hR3 hv ?_
        rw [if_pos hu]
        exact way_cong hJ (fun y hy => (farW_eq (g2 y hy)).symm) _ _
      | succ r ih =>
        intro x σ2 hx hF hold
        have hcx : (nI x).toNatClampNeg = x := nI_clamp (by omega)
        have step : ∀ v : Int32, v = (if x = i then 0 else -9) → AJ Γ2 6 RX8 cX8_word 4 (some .int) (wordP n0 t N K M fs h pl (nI i) kk) 34 [some (.inr 0), some (.inl (nI i)), some (.inl kk), some (.inl (nI (x + 1)))] [] (m_up σ2 16 x v) := fun v hv => by
          refine ih (x + 1) _ (by omega) hF.up (fun y hy => ?_)
          by_cases z : y = x
          · subst z; rw [m_eq]; exact hv
          · rw [m_nk z]; exact hold y (by omega)
        refine j_iload_n (pc := 34) dX8_word_34 rfl ?_
        refine j_aload_n (pc := 35) dX8_word_35 rfl ?_
        refine j_getI (pc := 36) dX8_word_36 f_X8_131 (by first | rfl | with_reducible assumption) (by rfl) ?_
        refine j_top (y := nI (gJ (TA N K M) (allS N))) (by rw [hF 0 (by decide)]; exact hG.2.1) ?_
        refine j_icmp_ge (pc := 39) (tgt := 65) dX8_word_39 rfl (fun h39 => absurd h39 (nI_ge (by omega) (by omega))) (fun h39 => ?_)
        refine j_aload_n (pc := 42) dX8_word_42 rfl ?_
        refine j_getR (pc := 43) dX8_word_43 f_X8_56 (by first | rfl | with_reducible assumption) (by rfl) ?_
        refine j_iload_n (pc := 46) dX8_word_46 rfl ?_
        refine j_iload_n (pc := 47) dX8_word_47 rfl ?_
        refine j_iload_n (pc := 48) dX8_word_48 rfl ?_
        refine j_icmp_ne (pc := 49) (tgt := 56) dX8_word_49 rfl (fun h49 => ?_) (fun h49 => ?_)
        · have hxi : ¬ x = i := fun z => h49 (by rw [z])
          refine j_bipush (pc := 56) dX8_word_56 (v := (-9)) (by decide) ?_
          refine j_iast (pc := 58) dX8_word_58 (by first | rfl | with_reducible assumption) (vp_in_nI (by omega) (by decide)) ?_
          refine j_iinc1 (pc := 59) dX8_word_59 rfl ?_
          refine j_goto (pc := 62) (tgt := 34) dX8_word_62 rfl ?_
          rw [nI_1, hcx]
          refine step _ ?_
          first
            | (rw [if_neg hxi]; done)
            | (rw [if_pos hxi]; done)
        · have hxi : x = i := (nI_eq (by omega) (by omega)).mp h49
          refine j_iconst (pc := 52) dX8_word_52 (v := 0) (by decide) ?_
          refine j_goto (pc := 53) (tgt := 58) dX8_word_53 rfl ?_
          refine j_iast (pc := 58) dX8_word_58 (by first | rfl | with_reducible assumption) (vp_in_nI (by omega) (by decide)) ?_
          refine j_iinc1 (pc := 59) dX8_word_59 rfl ?_
          refine j_goto (pc := 62) (tgt := 34) dX8_word_62 rfl ?_
          rw [nI_1, hcx]
          refine step _ ?_
          first
            | (rw [if_neg hxi]; done)
            | (rw [if_pos hxi]; done)
    have hUi := hU i hi
    refine j_if_ne (pc := 5) (tgt := 10) dX8_word_5 rfl (fun h5 => ?_) (fun h5 => absurd h5 (by decide))
    refine j_iload_n (pc := 10) dX8_word_10 rfl ?_
    refine j_callSi (pc := 11) dX8_word_11 k_X8_198 (c_X8_isPlace _ _) rfl (by decide) rfl (Nat.le_of_ble_eq_true rfl) (fun r σ1 hp => ?_)
    obtain ⟨rfl, hp⟩ := hp
    rcases hp with ⟨q11, rfl⟩ | ⟨q11, rfl⟩
    · refine j_if_ne (pc := 14) (tgt := 20) dX8_word_14 rfl (fun _ => ?_) (fun h => absurd h (by decide))
      refine j_aload_n (pc := 20) dX8_word_20 rfl ?_
      refine j_getR (pc := 21) dX8_word_21 f_X8_50 (by first | rfl | with_reducible assumption) (by rfl) ?_
      refine j_iload_n (pc := 24) dX8_word_24 rfl ?_
      refine j_zald (pc := 25) dX8_word_25 (by first | rfl | with_reducible assumption) hvi ?_
      refine j_top (y := if gU (TA N K M) (allS N) fs k i = true then 1 else 0) (by rw [hci]; exact hUi) ?_
      refine j_if_ne (pc := 26) (tgt := 32) dX8_word_26 rfl (fun h26 => ?_) (fun h26 => ?_)
      · refine j_iconst (pc := 32) dX8_word_32 (v := 0) (by decide) ?_
        refine j_istore_n (pc := 33) dX8_word_33 (by decide) ?_
        have hu : gU (TA N K M) (allS N) fs k i = true := Classical.byContradiction (fun z => by rw [if_neg z] at h26; exact h26 rfl)
        exact loop q11 hu (gJ (TA N K M) (allS N)) 0 σ' (by omega) FrO.rf (fun i hi => absurd hi (Nat.not_lt_zero _))
      · refine j_bipush (pc := 29) dX8_word_29 (v := (-9)) (by decide) ?_
        refine j_iret (pc := 31) dX8_word_31 ?_
        refine ans _ _ hR q11 ?_
        have hu : ¬ gU (TA N K M) (allS N) fs k i = true := fun z => by rw [if_pos z] at h26; exact absurd h26 (by decide)
        rw [if_neg hu]
    · refine j_if_ne (pc := 14) (tgt := 20) dX8_word_14 rfl (fun h => absurd h (by decide)) (fun _ => ?_)
      refine j_bipush (pc := 17) dX8_word_17 (v := (-2)) (by decide) ?_
      refine j_iret (pc := 19) dX8_word_19 ?_
      refine ⟨hR, Or.inr ⟨hO, k, hk.2.1, ?_⟩⟩
      show _ = q_word (TA N K M) (allS N) fs k (nI i) kk
      unfold q_word
      rw [if_pos (inR_nI hi (by omega))]
      exact (if_neg (fun z => q11 (z.imp_right inR_iff.mp))).symm
  refine EV.intro (by decide +kernel) (Nat.le_of_ble_eq_true rfl) ?_
  refine j_aload_n (pc := 0) dX8_word_0 rfl ?_
  refine j_iload_n (pc := 1) dX8_word_1 rfl ?_
  refine j_callVi (pc := 2) dX8_word_2 k_X8_183 (c_X8_isJoint n q) (by first | rfl | with_reducible assumption) rfl rfl (by decide) rfl (Nat.le_of_ble_eq_true rfl) (fun r σ1 hp => ?_)
  obtain ⟨hR, hp⟩ := hp
  rcases hp with ⟨hO, rfl⟩ | ⟨hO, hG, k, hk, ⟨hv, rfl⟩ | ⟨hv, rfl⟩⟩
  · exact go0 _ ⟨hR, Or.inl ⟨hO, rfl⟩⟩
  · obtain ⟨i, hi, hie⟩ := vp_in_of hv (by have := hG.1; omega)
    exact go1 _ k i hR hO hG hk hi hie
  · exact go0 _ ⟨hR, Or.inr ⟨hO, k, hk.2.1, (if_neg (fun z => hv (inR_iff.mp z))).symm⟩⟩
end WordR
