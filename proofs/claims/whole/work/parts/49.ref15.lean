/-! LEASTBARSMODEL: isBarred, eventsAt, joint, wave -/
section AskS
variable {σ : Mm} {n0 : Nat} {t : Nat → Int32} {N : Nat} {K : Nat → Int32} {M : Nat → MV} {fs : Int32} {h : List Int32} {pl : Int32}
theorem c_X8_isBarred {J i e : Nat} {tg W : Nat → Int32} (hJ : J ≤ 150) (ht : ∀ y, y < 8 * J → σ 9 y = tg y) (htr : ∀ y, y < 8 * J → tg y = -9 ∨ ∃ m, m < J ∧ tg y = nI m) (hW : ∀ m, m < J → σ 10 m = W m) (hi : i < J) (he : e < 8) : EV Γ2 0 yX8_isBarred cX8_isBarred 4 (some .boolean) [.inr 0, .inl (nI i), .inl (nI e)] σ (bz (isL J W (tg (8 * i + e)) = true) σ) := by
  have hx8 : (8 : Int32) * nI i + nI e = nI (8 * i + e) := by rw [show (8 : Int32) = nI 8 from rfl, pk_mul, nI_add]
  have hto : σ 9 (nI (8 * i + e)).toNatClampNeg = tg (8 * i + e) := by rw [nI_clamp (by omega)]; exact ht _ (by omega)
  refine EV.intro (by decide +kernel) (Nat.le_of_ble_eq_true rfl) ?_
  rcases htr (8 * i + e) (by omega) with hz | ⟨m, hm, hz⟩
  · have hL : isL J W (tg (8 * i + e)) = false := by rw [hz]; unfold isL; rw [inR_9]; rfl
    refine j_aload_n (pc := 0) dX8_isBarred_0 rfl ?_
    refine j_getR (pc := 1) dX8_isBarred_1 f_X8_34 (by first | rfl | with_reducible assumption) (by rfl) ?_
    refine j_bipush (pc := 4) dX8_isBarred_4 (v := 8) (by decide) ?_
    refine j_iload_n (pc := 6) dX8_isBarred_6 rfl ?_
    refine j_imul (pc := 7) dX8_isBarred_7 ?_
    refine j_iload_n (pc := 8) dX8_isBarred_8 rfl ?_
    refine j_iadd (pc := 9) dX8_isBarred_9 ?_
    refine j_top hx8 ?_
    refine j_iald (pc := 10) dX8_isBarred_10 (by first | rfl | with_reducible assumption) (vp_in_nI (by omega) (by decide)) ?_
    refine j_top (hto.trans hz) ?_
    refine j_istore_n (pc := 11) dX8_isBarred_11 (by decide) ?_
    refine j_iload_n (pc := 12) dX8_isBarred_12 rfl ?_
    refine j_bipush (pc := 13) dX8_isBarred_13 (v := (-9)) (by decide) ?_
    refine j_icmp_eq (pc := 15) (tgt := 33) dX8_isBarred_15 rfl (fun h15 => ?_) (fun h15 => absurd rfl h15)
    refine j_iconst (pc := 33) dX8_isBarred_33 (v := 0) (by decide) ?_
    refine j_zret (pc := 34) dX8_isBarred_34 (Or.inl rfl) ?_
    exact ⟨rfl, Or.inr ⟨by rw [hL]; decide, rfl⟩⟩
  · have hcm : (nI m).toNatClampNeg = m := nI_clamp (by omega)
    have hL : isL J W (tg (8 * i + e)) = decide (W m ≠ -9) := by rw [hz]; unfold isL; rw [inR_nI hm (by omega), hcm, Bool.true_and]
    refine j_aload_n (pc := 0) dX8_isBarred_0 rfl ?_
    refine j_getR (pc := 1) dX8_isBarred_1 f_X8_34 (by first | rfl | with_reducible assumption) (by rfl) ?_
    refine j_bipush (pc := 4) dX8_isBarred_4 (v := 8) (by decide) ?_
    refine j_iload_n (pc := 6) dX8_isBarred_6 rfl ?_
    refine j_imul (pc := 7) dX8_isBarred_7 ?_
    refine j_iload_n (pc := 8) dX8_isBarred_8 rfl ?_
    refine j_iadd (pc := 9) dX8_isBarred_9 ?_
    refine j_top hx8 ?_
    refine j_iald (pc := 10) dX8_isBarred_10 (by first | rfl | with_reducible assumption) (vp_in_nI (by omega) (by decide)) ?_
    refine j_top (hto.trans hz) ?_
    refine j_istore_n (pc := 11) dX8_isBarred_11 (by decide) ?_
    refine j_iload_n (pc := 12) dX8_isBarred_12 rfl ?_
    refine j_bipush (pc := 13) dX8_isBarred_13 (v := (-9)) (by decide) ?_
    refine j_icmp_eq (pc := 15) (tgt := 33) dX8_isBarred_15 rfl (fun h15 => absurd h15 (nI_z (by omega))) (fun h15 => ?_)
    refine j_aload_n (pc := 18) dX8_isBarred_18 rfl ?_
    refine j_getR (pc := 19) dX8_isBarred_19 f_X8_37 (by first | rfl | with_reducible assumption) (by rfl) ?_
    refine j_iload_n (pc := 22) dX8_isBarred_22 rfl ?_
    refine j_iald (pc := 23) dX8_isBarred_23 (by first | rfl | with_reducible assumption) (vp_in_nI (by omega) (by decide)) ?_
    refine j_top (y := W m) (by rw [hcm]; exact hW m hm) ?_
    refine j_bipush (pc := 24) dX8_isBarred_24 (v := (-9)) (by decide) ?_
    refine j_icmp_eq (pc := 26) (tgt := 33) dX8_isBarred_26 rfl (fun h26 => ?_) (fun h26 => ?_)
    · refine j_iconst (pc := 33) dX8_isBarred_33 (v := 0) (by decide) ?_
      refine j_zret (pc := 34) dX8_isBarred_34 (Or.inl rfl) ?_
      exact ⟨rfl, Or.inr ⟨by rw [hL, decide_eq_true_iff]; exact fun z => z h26, rfl⟩⟩
    · refine j_iconst (pc := 29) dX8_isBarred_29 (v := 1) (by decide) ?_
      refine j_goto (pc := 30) (tgt := 34) dX8_isBarred_30 rfl ?_
      refine j_zret (pc := 34) dX8_isBarred_34 (Or.inr rfl) ?_
      exact ⟨rfl, Or.inl ⟨by rw [hL]; exact decide_eq_true h26, rfl⟩⟩
/-- eventsAt: what is asked at each EVENT is given as 'mid' -/
theorem c_X8_eventsAt {i : Nat} {what : Int32} {p : Nat → Bool} (mid : ∀ (e : Nat) (acc : Int32), e < 8 → (∀ x : Int32, x = bI (p e) → AJ Γ2 2 RX8 cX8_eventsAt 6 (some .int) (vz (bitsI p) σ) 64 [some (.inr 0), some (.inl (nI i)), some (.inl what), some (.inl acc), some (.inl (nI e)), none] [.inl x] σ) ∧ (∀ (y : Int32) (x : Int32), x = bI (p e) → AJ Γ2 2 RX8 cX8_eventsAt 6 (some .int) (vz (bitsI p) σ) 64 [some (.inr 0), some (.inl (nI i)), some (.inl what), some (.inl acc), some (.inl (nI e)), some (.inl y)] [.inl x] σ) → (∀ w, w = none ∨ (∃ y, w = some (.inl y)) → AJ Γ2 2 RX8 cX8_eventsAt 6 (some .int) (vz (bitsI p) σ) 12 [some (.inr 0), some (.inl (nI i)), some (.inl what), some (.inl acc), some (.inl (nI e)), w] [] σ)) : EV Γ2 2 yX8_eventsAt cX8_eventsAt 6 (some .int) [.inr 0, .inl (nI i), .inl what] σ (vz (bitsI p) σ) := by
  have loop : ∀ (q e : Nat) (w : Option Vl), e + q = 8 → (w = none ∨ (∃ y, w = some (.inl y))) → AJ Γ2 2 RX8 cX8_eventsAt 6 (some .int) (vz (bitsI p) σ) 5 [some (.inr 0), some (.inl (nI i)), some (.inl what), some (.inl (orF (fun e => (1 : Int32) <<< (nI e &&& 31)) p e)), some (.inl (nI e)), w] [] σ := by
    intro q
    induction q with
    | zero =>
      intro e w he hw
      obtain rfl : e = 8 := by omega
      refine j_iload (pc := 5) dX8_eventsAt_5 rfl ?_
      refine j_bipush (pc := 7) dX8_eventsAt_7 (v := 8) (by decide) ?_
      refine j_icmp_ge (pc := 9) (tgt := 88) dX8_eventsAt_9 rfl (fun h9 => ?_) (fun h9 => absurd (by decide) h9)
      refine j_iload_n (pc := 88) dX8_eventsAt_88 rfl ?_
      refine j_iret (pc := 89) dX8_eventsAt_89 ?_
      exact ⟨rfl, rfl⟩
    | succ q ih =>
      intro e w he hw
      have tail : ∀ (w : Option Vl) (x : Int32), x = bI (p e) → AJ Γ2 2 RX8 cX8_eventsAt 6 (some .int) (vz (bitsI p) σ) 64 [some (.inr 0), some (.inl (nI i)), some (.inl what), some (.inl (orF (fun e => (1 : Int32) <<< (nI e &&& 31)) p e)), some (.inl (nI e)), w] [.inl x] σ := by
        intro w x hx
        subst hx
        refine j_istore (pc := 64) dX8_eventsAt_64 (by decide) ?_
        refine j_iload_n (pc := 66) dX8_eventsAt_66 rfl ?_
        refine j_iload (pc := 67) dX8_eventsAt_67 rfl ?_
        refine j_if_eq (pc := 69) (tgt := 79) dX8_eventsAt_69 rfl (fun h69 => ?_) (fun h69 => ?_)
        · refine j_iconst (pc := 79) dX8_eventsAt_79 (v := 0) (by decide) ?_
          refine j_ior (pc := 80) dX8_eventsAt_80 ?_
          refine j_top (y := orF (fun e => (1 : Int32) <<< (nI e &&& 31)) p (e + 1)) (by
            show _ = if p e = true then _ else _
            first
              | (rw [if_neg (show ¬ p e = true by rw [bI_0.mp h69]; decide)]; exact Int32.or_zero)
              | (rw [if_pos (show p e = true by rw [bI_0, Bool.not_eq_false] at h69; exact h69)])) ?_
          refine j_istore_n (pc := 81) dX8_eventsAt_81 (by decide) ?_
          refine j_iinc1 (pc := 82) dX8_eventsAt_82 rfl ?_
          refine j_goto (pc := 85) (tgt := 5) dX8_eventsAt_85 rfl ?_
          rw [nI_1]
          exact ih (e + 1) _ (by omega) (Or.inr ⟨_, rfl⟩)
        · refine j_iconst (pc := 72) dX8_eventsAt_72 (v := 1) (by decide) ?_
          refine j_iload (pc := 73) dX8_eventsAt_73 rfl ?_
          refine j_ishl (pc := 75) dX8_eventsAt_75 ?_
          refine j_goto (pc := 76) (tgt := 80) dX8_eventsAt_76 rfl ?_
          refine j_ior (pc := 80) dX8_eventsAt_80 ?_
          refine j_top (y := orF (fun e => (1 : Int32) <<< (nI e &&& 31)) p (e + 1)) (by
            show _ = if p e = true then _ else _
            first
              | (rw [if_neg (show ¬ p e = true by rw [bI_0.mp h69]; decide)]; exact Int32.or_zero)
              | (rw [if_pos (show p e = true by rw [bI_0, Bool.not_eq_false] at h69; exact h69)])) ?_
          refine j_istore_n (pc := 81) dX8_eventsAt_81 (by decide) ?_
          refine j_iinc1 (pc := 82) dX8_eventsAt_82 rfl ?_
          refine j_goto (pc := 85) (tgt := 5) dX8_eventsAt_85 rfl ?_
          rw [nI_1]
          exact ih (e + 1) _ (by omega) (Or.inr ⟨_, rfl⟩)
      refine j_iload (pc := 5) dX8_eventsAt_5 rfl ?_
      refine j_bipush (pc := 7) dX8_eventsAt_7 (v := 8) (by decide) ?_
      refine j_icmp_ge (pc := 9) (tgt := 88) dX8_eventsAt_9 rfl (fun h9 => absurd h9 (nI_ge (b := 8) (by omega) (by decide))) (fun h9 => ?_)
      exact mid e _ (by omega) ⟨fun x hx => tail none x hx, fun y x hx => tail _ x hx⟩ w hw
  refine EV.intro (by decide +kernel) (Nat.le_of_ble_eq_true rfl) ?_
  refine j_iconst (pc := 0) dX8_eventsAt_0 (v := 0) (by decide) ?_
  refine j_istore_n (pc := 1) dX8_eventsAt_1 (by decide) ?_
  refine j_iconst (pc := 2) dX8_eventsAt_2 (v := 0) (by decide) ?_
  refine j_istore (pc := 3) dX8_eventsAt_3 (by decide) ?_
  exact loop 8 0 _ rfl (Or.inl rfl)
section Ev
variable {J i : Nat} {tg W : Nat → Int32} (hJ : J ≤ 150) (ht : ∀ y, y < 8 * J → σ 9 y = tg y) (htr : ∀ y, y < 8 * J → tg y = -9 ∨ ∃ m, m < J ∧ tg y = nI m) (hi : i < J)
theorem c_X8_eventsAt1 (hJ : J ≤ 150) (ht : ∀ y, y < 8 * J → σ 9 y = tg y) (hi : i < J) : EV Γ2 2 yX8_eventsAt cX8_eventsAt 6 (some .int) [.inr 0, .inl (nI i), .inl 1] σ (vz (bitsI (fun e => decide (tg (8 * i + e) ≠ -9))) σ) := by
  refine c_X8_eventsAt (fun e acc he tl w hw => ?_)
  have hx8 : (8 : Int32) * nI i + nI e = nI (8 * i + e) := by rw [show (8 : Int32) = nI 8 from rfl, pk_mul, nI_add]
  have hto : σ 9 (nI (8 * i + e)).toNatClampNeg = tg (8 * i + e) := by rw [nI_clamp (by omega)]; exact ht _ (by omega)
  refine j_iload_n (pc := 12) dX8_eventsAt_12 rfl ?_
  refine j_iconst (pc := 13) dX8_eventsAt_13 (v := 1) (by decide) ?_
  refine j_icmp_ne (pc := 14) (tgt := 42) dX8_eventsAt_14 rfl (fun h14 => absurd rfl h14) (fun h14 => ?_)
  refine j_aload_n (pc := 17) dX8_eventsAt_17 rfl ?_
  refine j_getR (pc := 18) dX8_eventsAt_18 f_X8_34 (by first | rfl | with_reducible assumption) (by rfl) ?_
  refine j_bipush (pc := 21) dX8_eventsAt_21 (v := 8) (by decide) ?_
  refine j_iload_n (pc := 23) dX8_eventsAt_23 rfl ?_
  refine j_imul (pc := 24) dX8_eventsAt_24 ?_
  refine j_iload (pc := 25) dX8_eventsAt_25 rfl ?_
  refine j_iadd (pc := 27) dX8_eventsAt_27 ?_
  refine j_top hx8 ?_
  refine j_iald (pc := 28) dX8_eventsAt_28 (by first | rfl | with_reducible assumption) (vp_in_nI (by omega) (by decide)) ?_
  refine j_top hto ?_
  refine j_bipush (pc := 29) dX8_eventsAt_29 (v := (-9)) (by decide) ?_
  refine j_icmp_eq (pc := 31) (tgt := 38) dX8_eventsAt_31 rfl (fun h31 => ?_) (fun h31 => ?_)
  · have hb : (0 : Int32) = bI (decide (tg (8 * i + e) ≠ -9)) := by rw [decide_eq_false (fun z => z h31)]; rfl
    refine j_iconst (pc := 38) dX8_eventsAt_38 (v := 0) (by decide) ?_
    refine j_goto (pc := 39) (tgt := 64) dX8_eventsAt_39 rfl ?_
    rcases hw with rfl | ⟨y, rfl⟩
    · exact tl.1 _ hb
    · exact tl.2 y _ hb
  · have hb : (1 : Int32) = bI (decide (tg (8 * i + e) ≠ -9)) := by rw [decide_eq_true h31]; rfl
    refine j_iconst (pc := 34) dX8_eventsAt_34 (v := 1) (by decide) ?_
    refine j_goto (pc := 35) (tgt := 64) dX8_eventsAt_35 rfl ?_
    rcases hw with rfl | ⟨y, rfl⟩
    · exact tl.1 _ hb
    · exact tl.2 y _ hb
theorem c_X8_eventsAt6 (hJ : J ≤ 150) (ht : ∀ y, y < 8 * J → σ 9 y = tg y) (htr : ∀ y, y < 8 * J → tg y = -9 ∨ ∃ m, m < J ∧ tg y = nI m) (hi : i < J) (hW : ∀ m, m < J → σ 10 m = W m) : EV Γ2 2 yX8_eventsAt cX8_eventsAt 6 (some .int) [.inr 0, .inl (nI i), .inl 6] σ (vz (bitsI (fun e => isL J W (tg (8 * i + e)))) σ) := by
  refine c_X8_eventsAt (fun e acc he tl w hw => ?_)
  refine j_iload_n (pc := 12) dX8_eventsAt_12 rfl ?_
  refine j_iconst (pc := 13) dX8_eventsAt_13 (v := 1) (by decide) ?_
  refine j_icmp_ne (pc := 14) (tgt := 42) dX8_eventsAt_14 rfl (fun h14 => ?_) (fun h14 => absurd h14 (by decide))
  refine j_iload_n (pc := 42) dX8_eventsAt_42 rfl ?_
  refine j_iconst (pc := 43) dX8_eventsAt_43 (v := 2) (by decide) ?_
  refine j_icmp_ne (pc := 44) (tgt := 57) dX8_eventsAt_44 rfl (fun h44 => ?_) (fun h44 => absurd h44 (by decide))
  refine j_aload_n (pc := 57) dX8_eventsAt_57 rfl ?_
  refine j_iload_n (pc := 58) dX8_eventsAt_58 rfl ?_
  refine j_iload (pc := 59) dX8_eventsAt_59 rfl ?_
  refine j_callVi (pc := 61) dX8_eventsAt_61 k_X8_186 (c_X8_isBarred hJ ht htr hW hi he) (by first | rfl | with_reducible assumption) rfl rfl (by decide) rfl (Nat.le_of_ble_eq_true rfl) (fun r σ1 hp => ?_)
  obtain ⟨rfl, hp⟩ := hp
  rcases hp with ⟨q61, rfl⟩ | ⟨q61, rfl⟩
  · have hb : (1 : Int32) = bI (isL J W (tg (8 * i + e))) := by rw [q61]; rfl
    rcases hw with rfl | ⟨y, rfl⟩
    · exact tl.1 _ hb
    · exact tl.2 y _ hb
  · have hb : (0 : Int32) = bI (isL J W (tg (8 * i + e))) := by rw [Bool.eq_false_iff.mpr q61]; rfl
    rcases hw with rfl | ⟨y, rfl⟩
    · exact tl.1 _ hb
    · exact tl.2 y _ hb
theorem c_X8_eventsAt2 (hb : R2b σ n0 t N K M) (hG : NG2 σ (TA N K M) (allS N)) (hfs : σ 0 9 = fs) (hi : i < gJ (TA N K M) (allS N)) : EV Γ2 2 yX8_eventsAt cX8_eventsAt 6 (some .int) [.inr 0, .inl (nI i), .inl 2] σ (vz (bitsI (fun e => gL (TA N K M) (allS N) i e && bt fs e)) σ) := by
  have hT : ∀ m, m < 6 → bt (allS N) m = true → okT (TA N K M) m := fun m _ q => hb.tok (all_lt hb.2.2.2.2.1 m q)
  have hJ := hG.1
  refine c_X8_eventsAt (fun e acc he tl w hw => ?_)
  have hq : (gL (TA N K M) (allS N) i e && bt fs e) = (clashB (TA N K M) (allS N) (gC (TA N K M) (allS N) i) e && bt fs e) := by
    unfold gL
    rw [decide_eq_true he, Bool.true_and]
  refine j_iload_n (pc := 12) dX8_eventsAt_12 rfl ?_
  refine j_iconst (pc := 13) dX8_eventsAt_13 (v := 1) (by decide) ?_
  refine j_icmp_ne (pc := 14) (tgt := 42) dX8_eventsAt_14 rfl (fun h14 => ?_) (fun h14 => absurd h14 (by decide))
  refine j_iload_n (pc := 42) dX8_eventsAt_42 rfl ?_
  refine j_iconst (pc := 43) dX8_eventsAt_43 (v := 2) (by decide) ?_
  refine j_icmp_ne (pc := 44) (tgt := 57) dX8_eventsAt_44 rfl (fun h44 => absurd rfl h44) (fun h44 => ?_)
  refine j_aload_n (pc := 47) dX8_eventsAt_47 rfl ?_
  refine j_iload_n (pc := 48) dX8_eventsAt_48 rfl ?_
  refine j_iload (pc := 49) dX8_eventsAt_49 rfl ?_
  refine j_callVi (pc := 51) dX8_eventsAt_51 k_X8_141 (c_X8_clashes (c := gC (TA N K M) (allS N) i) (fs := fs) hb (by omega) (hG.2.2.1 i hi) (gC_ok hT i) he hfs) (by first | rfl | with_reducible assumption) rfl rfl (by decide) rfl (Nat.le_of_ble_eq_true rfl) (fun r σ1 hp => ?_)
  obtain ⟨rfl, hp⟩ := hp
  rcases hp with ⟨q51, rfl⟩ | ⟨q51, rfl⟩
  · have hb : (1 : Int32) = bI (gL (TA N K M) (allS N) i e && bt fs e) := by rw [hq, q51]; rfl
    refine j_goto (pc := 54) (tgt := 64) dX8_eventsAt_54 rfl ?_
    rcases hw with rfl | ⟨y, rfl⟩
    · exact tl.1 _ hb
    · exact tl.2 y _ hb
  · have hb : (0 : Int32) = bI (gL (TA N K M) (allS N) i e && bt fs e) := by rw [hq, Bool.eq_false_iff.mpr q51]; rfl
    refine j_goto (pc := 54) (tgt := 64) dX8_eventsAt_54 rfl ?_
    rcases hw with rfl | ⟨y, rfl⟩
    · exact tl.1 _ hb
    · exact tl.2 y _ hb
end Ev
theorem c_X8_joint (n what : Int32) (q : R2 σ n0 t N K M fs h pl) : EV Γ2 6 yX8_joint cX8_joint 3 (some .int) [.inr 0, .inl n, .inl what] σ (fun r σ' => R2 σ' n0 t N K M fs h pl ∧ Ans (TA N K M) (allS N) fs (-1) (fun k => q_joint (TA N K M) (allS N) fs k n what) r) := by
  have go0 : ∀ σ' : Mm, R2 σ' n0 t N K M fs h pl → Ans (TA N K M) (allS N) fs (-1) (fun k => q_joint (TA N K M) (allS N) fs k n what) (-1) → AJ Γ2 6 RX8 cX8_joint 3 (some .int) (fun r σ' => R2 σ' n0 t N K M fs h pl ∧ Ans (TA N K M) (allS N) fs (-1) (fun k => q_joint (TA N K M) (allS N) fs k n what) r) 5 [some (.inr 0), some (.inl n), some (.inl what)] [.inl 0] σ' := by
    intro σ' hR hA
    refine j_if_ne (pc := 5) (tgt := 10) dX8_joint_5 rfl (fun h5 => absurd rfl h5) (fun h5 => ?_)
    refine j_iconst (pc := 8) dX8_joint_8 (v := (-1)) (by decide) ?_
    refine j_iret (pc := 9) dX8_joint_9 ?_
    exact ⟨hR, hA⟩
  have go1 : ∀ (σ' : Mm) (k i : Nat), R2 σ' n0 t N K M fs h pl → ¬ Over (TA N K M) (allS N) → NG2 σ' (TA N K M) (allS N) → DN2 σ' (TA N K M) (allS N) fs k → i < gJ (TA N K M) (allS N) → n = nI i → AJ Γ2 6 RX8 cX8_joint 3 (some .int) (fun r σ' => R2 σ' n0 t N K M fs h pl ∧ Ans (TA N K M) (allS N) fs (-1) (fun k => q_joint (TA N K M) (allS N) fs k n what) r) 5 [some (.inr 0), some (.inl n), some (.inl what)] [.inl 1] σ' := by
    rintro σ' k i hR hO hG hk hi rfl
    have hJ := hG.1
    have h6 := hR.1.2.2.2.2.1
    have hci : (nI i).toNatClampNeg = i := nI_clamp (by omega)
    have hvi : vp_in (nI i) 150 := vp_in_nI (by omega) (by decide)
    have hW : ∀ m, m < gJ (TA N K M) (allS N) → σ' 10 m = (gW (TA N K M) (allS N) fs k).1 m := fun m hm => (hk.2.2.2.1 m hm).1
    have hU := hk.2.2.2.2 i hi
    have ans : ∀ r, r = q_joint1 (TA N K M) (allS N) fs k i what → (R2 σ' n0 t N K M fs h pl ∧ Ans (TA N K M) (allS N) fs (-1) (fun k => q_joint (TA N K M) (allS N) fs k (nI i) what) r) := fun r hr => ⟨hR, Or.inr ⟨hO, k, hk.2.1, by
      show r = q_joint (TA N K M) (allS N) fs k (nI i) what
      unfold q_joint
      rw [if_pos (inR_nI hi (by omega)), hci]
      exact hr⟩⟩
    unfold q_joint1 at ans
    refine j_if_ne (pc := 5) (tgt := 10) dX8_joint_5 rfl (fun h5 => ?_) (fun h5 => absurd h5 (by decide))
    refine j_iload_n (pc := 10) dX8_joint_10 rfl ?_
    by_cases sw11_0 : what = 0
    · refine j_top sw11_0 ?_
      refine j_tableIn (pc := 11) (tgt := 52) dX8_joint_11 (by decide) (by decide) (off := 41) rfl rfl ?_
      refine j_aload_n (pc := 52) dX8_joint_52 rfl ?_
      refine j_iload_n (pc := 53) dX8_joint_53 rfl ?_
      refine j_aload_n (pc := 54) dX8_joint_54 rfl ?_
      refine j_callVi (pc := 55) dX8_joint_55 k_X8_155 (c_X8_all hR.1.2.2.2.1 h6) (by first | rfl | with_reducible assumption) rfl rfl (by decide) rfl (Nat.le_of_ble_eq_true rfl) (fun r σ1 hp => ?_)
      obtain ⟨rfl, rfl⟩ := hp
      refine j_callVi (pc := 58) dX8_joint_58 k_X8_152 (c_X8_isFinished (c := gC (TA N K M) (allS N) i) hR.1 (all_lt h6) (by omega) (hG.2.2.1 i hi)) (by first | rfl | with_reducible assumption) rfl rfl (by decide) rfl (Nat.le_of_ble_eq_true rfl) (fun r σ1 hp => ?_)
      obtain ⟨rfl, hp⟩ := hp
      rcases hp with ⟨q58, rfl⟩ | ⟨q58, rfl⟩
      · refine j_if_eq (pc := 61) (tgt := 68) dX8_joint_61 rfl (fun h => absurd h (by decide)) (fun _ => ?_)
        refine j_iconst (pc := 64) dX8_joint_64 (v := 1) (by decide) ?_
        refine j_goto (pc := 65) (tgt := 69) dX8_joint_65 rfl ?_
        refine j_iret (pc := 69) dX8_joint_69 ?_
        refine ans _ ?_
        rw [if_pos sw11_0]
        first
          | (rw [if_pos (show gF (TA N K M) (allS N) i = true from q58)]; done)
          | (rw [if_neg (show ¬ gF (TA N K M) (allS N) i = true from q58)]; done)
      · refine j_if_eq (pc := 61) (tgt := 68) dX8_joint_61 rfl (fun _ => ?_) (fun h => absurd h (by decide))
        refine j_iconst (pc := 68) dX8_joint_68 (v := 0) (by decide) ?_
        refine j_iret (pc := 69) dX8_joint_69 ?_
        refine ans _ ?_
        rw [if_pos sw11_0]
        first
          | (rw [if_pos (show gF (TA N K M) (allS N) i = true from q58)]; done)
          | (rw [if_neg (show ¬ gF (TA N K M) (allS N) i = true from q58)]; done)
    by_cases sw11_1 : what = 1
    · refine j_top sw11_1 ?_
      refine j_tableIn (pc := 11) (tgt := 70) dX8_joint_11 (by decide) (by decide) (off := 59) rfl rfl ?_
      refine j_aload_n (pc := 70) dX8_joint_70 rfl ?_
      refine j_iload_n (pc := 71) dX8_joint_71 rfl ?_
      refine j_iload_n (pc := 72) dX8_joint_72 rfl ?_
      first
        | (obtain rfl := sw11_1
           refine j_callVi (pc := 73) dX8_joint_73 k_X8_189 (c_X8_eventsAt1 hJ hG.2.2.2 hi) (by first | rfl | with_reducible assumption) rfl rfl (by decide) rfl (Nat.le_of_ble_eq_true rfl) (fun r σ1 hp => ?_)
           obtain ⟨rfl, rfl⟩ := hp
           refine j_iret (pc := 76) dX8_joint_76 ?_
           exact ans _ (by rw [if_neg sw11_0, if_pos rfl]))
        | (obtain rfl := sw11_2
           refine j_callVi (pc := 73) dX8_joint_73 k_X8_189 (c_X8_eventsAt2 hR.1 hG hR.2.1 hi) (by first | rfl | with_reducible assumption) rfl rfl (by decide) rfl (Nat.le_of_ble_eq_true rfl) (fun r σ1 hp => ?_)
           obtain ⟨rfl, rfl⟩ := hp
           refine j_iret (pc := 76) dX8_joint_76 ?_
           exact ans _ (by rw [if_neg sw11_0, if_neg sw11_1, if_pos rfl]))
    by_cases sw11_2 : what = 2
    · refine j_top sw11_2 ?_
      refine j_tableIn (pc := 11) (tgt := 70) dX8_joint_11 (by decide) (by decide) (off := 59) rfl rfl ?_
      refine j_aload_n (pc := 70) dX8_joint_70 rfl ?_
      refine j_iload_n (pc := 71) dX8_joint_71 rfl ?_
      refine j_iload_n (pc := 72) dX8_joint_72 rfl ?_
      first
        | (obtain rfl := sw11_1
           refine j_callVi (pc := 73) dX8_joint_73 k_X8_189 (c_X8_eventsAt1 hJ hG.2.2.2 hi) (by first | rfl | with_reducible assumption) rfl rfl (by decide) rfl (Nat.le_of_ble_eq_true rfl) (fun r σ1 hp => ?_)
           obtain ⟨rfl, rfl⟩ := hp
           refine j_iret (pc := 76) dX8_joint_76 ?_
           exact ans _ (by rw [if_neg sw11_0, if_pos rfl]))
        | (obtain rfl := sw11_2
           refine j_callVi (pc := 73) dX8_joint_73 k_X8_189 (c_X8_eventsAt2 hR.1 hG hR.2.1 hi) (by first | rfl | with_reducible assumption) rfl rfl (by decide) rfl (Nat.le_of_ble_eq_true rfl) (fun r σ1 hp => ?_)
           obtain ⟨rfl, rfl⟩ := hp
           refine j_iret (pc := 76) dX8_joint_76 ?_
           exact ans _ (by rw [if_neg sw11_0, if_neg sw11_1, if_pos rfl]))
    by_cases sw11_3 : what = 3
    · refine j_top sw11_3 ?_
      refine j_tableIn (pc := 11) (tgt := 77) dX8_joint_11 (by decide) (by decide) (off := 66) rfl rfl ?_
      refine j_aload_n (pc := 77) dX8_joint_77 rfl ?_
      refine j_getR (pc := 78) dX8_joint_78 f_X8_37 (by first | rfl | with_reducible assumption) (by rfl) ?_
      refine j_iload_n (pc := 81) dX8_joint_81 rfl ?_
      refine j_iald (pc := 82) dX8_joint_82 (by first | rfl | with_reducible assumption) hvi ?_
      refine j_top (y := (gW (TA N K M) (allS N) fs k).1 i) (by rw [hci]; exact hW i hi) ?_
      refine j_bipush (pc := 83) dX8_joint_83 (v := (-9)) (by decide) ?_
      refine j_icmp_ne (pc := 85) (tgt := 92) dX8_joint_85 rfl (fun h85 => ?_) (fun h85 => ?_)
      · refine j_iconst (pc := 92) dX8_joint_92 (v := 0) (by decide) ?_
        refine j_iret (pc := 93) dX8_joint_93 ?_
        refine ans _ ?_
        rw [if_neg sw11_0, if_neg sw11_1, if_neg sw11_2, if_pos sw11_3]
        first | (rw [if_pos h85]; done) | (rw [if_neg h85]; done)
      · refine j_iconst (pc := 88) dX8_joint_88 (v := 1) (by decide) ?_
        refine j_goto (pc := 89) (tgt := 93) dX8_joint_89 rfl ?_
        refine j_iret (pc := 93) dX8_joint_93 ?_
        refine ans _ ?_
        rw [if_neg sw11_0, if_neg sw11_1, if_neg sw11_2, if_pos sw11_3]
        first | (rw [if_pos h85]; done) | (rw [if_neg h85]; done)
    by_cases sw11_4 : what = 4
    · refine j_top sw11_4 ?_
      refine j_tableIn (pc := 11) (tgt := 94) dX8_joint_11 (by decide) (by decide) (off := 83) rfl rfl ?_
      refine j_aload_n (pc := 94) dX8_joint_94 rfl ?_
      refine j_getR (pc := 95) dX8_joint_95 f_X8_50 (by first | rfl | with_reducible assumption) (by rfl) ?_
      refine j_iload_n (pc := 98) dX8_joint_98 rfl ?_
      refine j_zald (pc := 99) dX8_joint_99 (by first | rfl | with_reducible assumption) hvi ?_
      refine j_top (y := if gU (TA N K M) (allS N) fs k i = true then 1 else 0) (by rw [hci]; exact hU) ?_
      refine j_if_eq (pc := 100) (tgt := 107) dX8_joint_100 rfl (fun h100 => ?_) (fun h100 => ?_)
      · refine j_iconst (pc := 107) dX8_joint_107 (v := 0) (by decide) ?_
        refine j_iret (pc := 108) dX8_joint_108 ?_
        refine ans _ ?_
        rw [if_neg sw11_0, if_neg sw11_1, if_neg sw11_2, if_neg sw11_3, if_pos sw11_4]
        by_cases z : gU (TA N K M) (allS N) fs k i = true
        · first | (rw [if_pos z]; done) | (rw [if_pos z] at h100; exact absurd h100 (by decide))
        · first | (rw [if_neg z]; done) | (rw [if_neg z] at h100; exact absurd rfl h100)
      · refine j_iconst (pc := 103) dX8_joint_103 (v := 1) (by decide) ?_
        refine j_goto (pc := 104) (tgt := 108) dX8_joint_104 rfl ?_
        refine j_iret (pc := 108) dX8_joint_108 ?_
        refine ans _ ?_
        rw [if_neg sw11_0, if_neg sw11_1, if_neg sw11_2, if_neg sw11_3, if_pos sw11_4]
        by_cases z : gU (TA N K M) (allS N) fs k i = true
        · first | (rw [if_pos z]; done) | (rw [if_pos z] at h100; exact absurd h100 (by decide))
        · first | (rw [if_neg z]; done) | (rw [if_neg z] at h100; exact absurd rfl h100)
    by_cases sw11_5 : what = 5
    · refine j_top sw11_5 ?_
      refine j_tableIn (pc := 11) (tgt := 109) dX8_joint_11 (by decide) (by decide) (off := 98) rfl rfl ?_
      refine j_aload_n (pc := 109) dX8_joint_109 rfl ?_
      refine j_getR (pc := 110) dX8_joint_110 f_X8_37 (by first | rfl | with_reducible assumption) (by rfl) ?_
      refine j_iload_n (pc := 113) dX8_joint_113 rfl ?_
      refine j_iald (pc := 114) dX8_joint_114 (by first | rfl | with_reducible assumption) hvi ?_
      refine j_top (y := (gW (TA N K M) (allS N) fs k).1 i) (by rw [hci]; exact hW i hi) ?_
      refine j_iret (pc := 115) dX8_joint_115 ?_
      refine ans _ ?_
      rw [if_neg sw11_0, if_neg sw11_1, if_neg sw11_2, if_neg sw11_3, if_neg sw11_4, if_pos sw11_5]
    by_cases sw11_6 : what = 6
    · refine j_top sw11_6 ?_
      refine j_tableIn (pc := 11) (tgt := 116) dX8_joint_11 (by decide) (by decide) (off := 105) rfl rfl ?_
      refine j_aload_n (pc := 116) dX8_joint_116 rfl ?_
      refine j_getR (pc := 117) dX8_joint_117 f_X8_50 (by first | rfl | with_reducible assumption) (by rfl) ?_
      refine j_iload_n (pc := 120) dX8_joint_120 rfl ?_
      refine j_zald (pc := 121) dX8_joint_121 (by first | rfl | with_reducible assumption) hvi ?_
      refine j_top (y := if gU (TA N K M) (allS N) fs k i = true then 1 else 0) (by rw [hci]; exact hU) ?_
      refine j_if_eq (pc := 122) (tgt := 135) dX8_joint_122 rfl (fun h122 => ?_) (fun h122 => ?_)
      · refine j_bipush (pc := 135) dX8_joint_135 (v := (-9)) (by decide) ?_
        refine j_iret (pc := 137) dX8_joint_137 ?_
        refine ans _ ?_
        rw [if_neg sw11_0, if_neg sw11_1, if_neg sw11_2, if_neg sw11_3, if_neg sw11_4, if_neg sw11_5, if_pos sw11_6]
        by_cases z : gU (TA N K M) (allS N) fs k i = true
        · first | (rw [if_pos z]; done) | (rw [if_pos z] at h122; exact absurd h122 (by decide))
        · first | (rw [if_neg z]; done) | (rw [if_neg z] at h122; exact absurd rfl h122)
      · refine j_aload_n (pc := 125) dX8_joint_125 rfl ?_
        refine j_iload_n (pc := 126) dX8_joint_126 rfl ?_
        refine j_bipush (pc := 127) dX8_joint_127 (v := 6) (by decide) ?_
        refine j_callVi (pc := 129) dX8_joint_129 k_X8_189 (c_X8_eventsAt6 hJ hG.2.2.2 (gT_lt hJ) hi hW) (by first | rfl | with_reducible assumption) rfl rfl (by decide) rfl (Nat.le_of_ble_eq_true rfl) (fun r σ1 hp => ?_)
        obtain ⟨rfl, rfl⟩ := hp
        refine j_goto (pc := 132) (tgt := 137) dX8_joint_132 rfl ?_
        refine j_iret (pc := 137) dX8_joint_137 ?_
        refine ans _ ?_
        rw [if_neg sw11_0, if_neg sw11_1, if_neg sw11_2, if_neg sw11_3, if_neg sw11_4, if_neg sw11_5, if_pos sw11_6]
        by_cases z : gU (TA N K M) (allS N) fs k i = true
        · first | (rw [if_pos z]; done) | (rw [if_pos z] at h122; exact absurd h122 (by decide))
        · first | (rw [if_neg z]; done) | (rw [if_neg z] at h122; exact absurd rfl h122)
    refine j_tableOut (pc := 11) (tgt := 138) dX8_joint_11 (by (simp only [Int32.lt_iff_toInt_lt, Int32.le_iff_toInt_le, ← Int32.toInt_inj, vp_in_iff, ti_0, ti_1, ti_2, ti_3, ti_4, ti_5, ti_6, ti_7, ti_8, ti_16, ti_48, ti_53, ti_60, ti_97, ti_104, ti_127, ti_149, ti_150, ti_151, ti_256, ti_1200, ti_m1, ti_m2, ti_m3, ti_m4, ti_m9] at *; omega)) rfl ?_
    refine j_bipush (pc := 138) dX8_joint_138 (v := (-2)) (by decide) ?_
    refine j_iret (pc := 140) dX8_joint_140 ?_
    refine ans _ ?_
    rw [if_neg sw11_0, if_neg sw11_1, if_neg sw11_2, if_neg sw11_3, if_neg sw11_4, if_neg sw11_5, if_neg sw11_6]
  refine EV.intro (by decide +kernel) (Nat.le_of_ble_eq_true rfl) ?_
  refine j_aload_n (pc := 0) dX8_joint_0 rfl ?_
  refine j_iload_n (pc := 1) dX8_joint_1 rfl ?_
  refine j_callVi (pc := 2) dX8_joint_2 k_X8_183 (c_X8_isJoint n q) (by first | rfl | with_reducible assumption) rfl rfl (by decide) rfl (Nat.le_of_ble_eq_true rfl) (fun r σ1 hp => ?_)
  obtain ⟨hR, hp⟩ := hp
  rcases hp with ⟨hO, rfl⟩ | ⟨hO, hG, k, hk, ⟨hv, rfl⟩ | ⟨hv, rfl⟩⟩
  · exact go0 _ hR (Or.inl ⟨hO, rfl⟩)
  · obtain ⟨i, hi, hie⟩ := vp_in_of hv (by have := hG.1; omega)
    exact go1 _ k i hR hO hG hk hi hie
  · exact go0 _ hR (Or.inr ⟨hO, k, hk.2.1, (if_neg (fun z => hv (inR_iff.mp z))).symm⟩)
end AskS
