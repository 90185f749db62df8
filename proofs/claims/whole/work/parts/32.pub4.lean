/-! LEASTBARS: why, some, go, back, at -/
theorem lts_push {J : Nat} {tg : Nat → Int32} {fn : Nat → Bool} {cl : Nat → Nat → Bool} {fr : Nat → Bool} (hJ : J ≤ 150) : ∀ (k n : Nat), k < 2 ^ 31 → n < J → (lts J tg fn cl fr k).1 n ≠ -9 → (lts J tg fn cl fr k).2.1 n = 2 → ∃ m, m < J ∧ tg (8 * n + ((lts J tg fn cl fr k).2.2 n).toNatClampNeg) = nI m ∧ (lts J tg fn cl fr k).1 m ≠ -9 := by
  intro k
  induction k with
  | zero => intro n _ _ _ h; exact absurd h (by show ¬ (1 : Int32) = 2; decide)
  | succ k ih =>
    intro n hk hn h1 h2
    by_cases hP : anyP J tg fr (lts J tg fn cl fr k)
    · rw [lts_P hP] at h1 h2 ⊢
      by_cases hc : (lts J tg fn cl fr k).1 n = -9 ∧ puE J tg fr (lts J tg fn cl fr k).1 n ≠ -9
      · have e1 : (pushT J tg fr (lts J tg fn cl fr k) (k + 1)).2.2 n = puE J tg fr (lts J tg fn cl fr k).1 n := by simp only [pushT, if_pos hc]
        rw [e1]
        rcases lst_cases (fun e => fr e && isL J (lts J tg fn cl fr k).1 (tg (8 * n + e))) with ⟨e, a1, a2, -, a4⟩ | ⟨-, a⟩
        · have e2 : puE J tg fr (lts J tg fn cl fr k).1 n = nI e := a4
          rw [e2, nI_clamp (by omega)]
          simp only [Bool.and_eq_true, isL, decide_eq_true_eq] at a2
          obtain ⟨m, hm, hme⟩ := vp_in_of (inR_iff.mp a2.2.1) (by omega)
          refine ⟨m, hm, hme, pushT_grow (by omega) ?_⟩
          have := a2.2.2
          rw [hme, nI_clamp (by omega)] at this
          exact this
        · exact absurd a hc.2
      · have e0 : (pushT J tg fr (lts J tg fn cl fr k) (k + 1)).1 n = (lts J tg fn cl fr k).1 n := by simp only [pushT, if_neg hc]
        have e1 : (pushT J tg fr (lts J tg fn cl fr k) (k + 1)).2.1 n = (lts J tg fn cl fr k).2.1 n := by simp only [pushT, if_neg hc]
        have e2 : (pushT J tg fr (lts J tg fn cl fr k) (k + 1)).2.2 n = (lts J tg fn cl fr k).2.2 n := by simp only [pushT, if_neg hc]
        rw [e0] at h1
        rw [e1] at h2
        rw [e2]
        obtain ⟨m, a, b, c⟩ := ih n (by omega) hn h1 h2
        exact ⟨m, a, b, pushT_grow (by omega) c⟩
    · by_cases hS : anyS J tg fn (lts J tg fn cl fr k)
      · rw [lts_S hP hS] at h1 h2 ⊢
        by_cases hc : (lts J tg fn cl fr k).1 n = -9 ∧ stkB J tg fn (lts J tg fn cl fr k).1 n = true
        · have e1 : (stuckT J tg fn (lts J tg fn cl fr k) (k + 1)).2.1 n = 3 := by simp only [stuckT, if_pos hc]
          rw [e1] at h2
          exact absurd h2 (by decide)
        · have e0 : (stuckT J tg fn (lts J tg fn cl fr k) (k + 1)).1 n = (lts J tg fn cl fr k).1 n := by simp only [stuckT, if_neg hc]
          have e1 : (stuckT J tg fn (lts J tg fn cl fr k) (k + 1)).2.1 n = (lts J tg fn cl fr k).2.1 n := by simp only [stuckT, if_neg hc]
          have e2 : (stuckT J tg fn (lts J tg fn cl fr k) (k + 1)).2.2 n = (lts J tg fn cl fr k).2.2 n := by simp only [stuckT, if_neg hc]
          rw [e0] at h1
          rw [e1] at h2
          rw [e2]
          obtain ⟨m, a, b, c⟩ := ih n (by omega) hn h1 h2
          exact ⟨m, a, b, stuckT_grow (by omega) c⟩
      · rw [lts_N hP hS] at h1 h2 ⊢
        exact ih n (by omega) hn h1 h2
/-- all links are LOST ones, or there are not so many -/
theorem q_link_lost {T : Tab} {set fs : Int32} {k i : Nat} (hJ : gJ T set ≤ 150) (hk : k ≤ 150) (hi : i < gJ T set) : ∀ q, q_link T set fs k i q = -9 ∨ ∃ m, m < gJ T set ∧ q_link T set fs k i q = nI m ∧ (gW T set fs k).1 m ≠ -9 := by
  intro q
  induction q with
  | zero =>
    show (if (gW T set fs k).1 i ≠ -9 then nI i else -9) = -9 ∨ ∃ m, m < gJ T set ∧ (if (gW T set fs k).1 i ≠ -9 then nI i else -9) = nI m ∧ _
    by_cases h : (gW T set fs k).1 i ≠ -9
    · rw [if_pos h]; exact Or.inr ⟨i, hi, rfl, h⟩
    · rw [if_neg h]; exact Or.inl rfl
  | succ q ih =>
    show stpL (caT (toX T set) (gW T set fs k)) (q_link T set fs k i q) = -9 ∨ ∃ m, m < gJ T set ∧ stpL (caT (toX T set) (gW T set fs k)) (q_link T set fs k i q) = nI m ∧ _
    rcases ih with h | ⟨m, hm, h, hw⟩
    · rw [h]
      left
      unfold stpL
      rw [inR_9]
      rfl
    · rw [h]
      unfold stpL
      rw [if_pos (inR_nI (by omega) (by decide)), nI_clamp (by omega)]
      unfold caT
      by_cases h2 : (gW T set fs k).2.1 m = 2
      · rw [if_pos h2]
        obtain ⟨m', a, b, c⟩ := lts_push hJ k m (by omega) hm hw h2
        exact Or.inr ⟨m', a, b, c⟩
      · rw [if_neg h2]; exact Or.inl rfl
theorem link_same {σ : Mm} {T : Tab} {set fs : Int32} {k i : Nat} (hJ : gJ T set ≤ 150) (hk : k ≤ 150) (hi : i < gJ T set) (hL : LIT σ (gJ T set) (toX T set) (gW T set fs k)) : ∀ q, itr (stpL (σ 50)) q (if (gW T set fs k).1 i ≠ -9 then nI i else -9) = q_link T set fs k i q := by
  intro q
  induction q with
  | zero => rfl
  | succ q ih =>
    show stpL (σ 50) (itr (stpL (σ 50)) q (if (gW T set fs k).1 i ≠ -9 then nI i else -9)) = stpL (caT (toX T set) (gW T set fs k)) (q_link T set fs k i q)
    rw [ih]
    rcases q_link_lost (fs := fs) hJ hk hi q with h | ⟨m, hm, h, hw⟩
    · rw [h]; unfold stpL; rw [inR_9]; rfl
    · rw [h]
      unfold stpL
      rw [if_pos (inR_nI (by omega) (by decide)), if_pos (inR_nI (by omega) (by decide)), nI_clamp (by omega)]
      exact ((hL.1 m hm).2 hw).2.2
section Ask2
variable {σ : Mm} {n0 : Nat} {t : Nat → Int32} {N : Nat} {K : Nat → Int32} {M : Nat → MV} {fs : Int32} {h : List Int32} {pl : Int32}
theorem c_X7_why2 (hO : ¬ Over (TA N K M) (allS N)) (hG : NG σ 23 (TA N K M) (allS N)) {k : Nat} (hk : DN σ (TA N K M) (allS N) fs k) {i kq wq : Nat} (hi : i < gJ (TA N K M) (allS N)) (hkq : kq < 150) (hwq : wq < 3) : AJ Γ1 4 RX7 cX7_why 5 (some .int) (fun r σ' => σ = σ' ∧ Ans (TA N K M) (allS N) fs (-1) (fun k => q_why (TA N K M) (allS N) fs k (nI i) (nI kq) (nI wq)) r) 48 [some (.inr 0), some (.inl (nI i)), some (.inl (nI kq)), some (.inl (nI wq)), some (.inl (q_link (TA N K M) (allS N) fs k i kq))] [.inl (nI wq)] σ := by
  have hJ := hG.1
  have hL : LIT σ (gJ (TA N K M) (allS N)) (toX (TA N K M) (allS N)) (gW (TA N K M) (allS N) fs k) := hk.2.2.2.1
  have hl := q_link_lost (fs := fs) hJ hk.1 hi kq
  have ans : ∀ r, r = (if q_link (TA N K M) (allS N) fs k i kq = -9 then -9 else if nI wq = 0 then (gW (TA N K M) (allS N) fs k).2.1 (q_link (TA N K M) (allS N) fs k i kq).toNatClampNeg else if nI wq = 1 then (gW (TA N K M) (allS N) fs k).2.2 (q_link (TA N K M) (allS N) fs k i kq).toNatClampNeg else q_link (TA N K M) (allS N) fs k i kq) → (σ = σ ∧ Ans (TA N K M) (allS N) fs (-1) (fun k => q_why (TA N K M) (allS N) fs k (nI i) (nI kq) (nI wq)) r) := fun r hr => ⟨rfl, Or.inr ⟨hO, k, hk.2.1, by
    show r = q_why (TA N K M) (allS N) fs k (nI i) (nI kq) (nI wq)
    unfold q_why
    rw [if_pos (inR_nI hi (by omega)), if_pos ⟨inR_nI hkq (by decide), inR_nI hwq (by decide)⟩, nI_clamp (show i < 2 ^ 31 by omega), nI_clamp (show kq < 2 ^ 31 by omega)]
    exact hr⟩⟩
  generalize q_link (TA N K M) (allS N) fs k i kq = lk at hl ans
  have hlo : fo 150 (σ 47) lk = -9 ↔ lk = -9 := by
    rcases hl with rfl | ⟨m, hm, rfl, hw⟩
    · exact ⟨fun _ => rfl, fun _ => if_neg (by rw [inR_9]; decide)⟩
    · rw [fo_nI (by omega) (by decide), (hL.1 m hm).1]
      exact ⟨fun q => absurd q hw, fun q => absurd q (nI_z (by omega))⟩
  have hrv : lk ≠ -9 → σ 48 lk.toNatClampNeg = (gW (TA N K M) (allS N) fs k).2.1 lk.toNatClampNeg ∧ σ 49 lk.toNatClampNeg = (gW (TA N K M) (allS N) fs k).2.2 lk.toNatClampNeg := fun q => by
    rcases hl with rfl | ⟨m, hm, rfl, hw⟩
    · exact absurd rfl q
    · rw [nI_clamp (by omega)]
      exact ⟨((hL.1 m hm).2 hw).1, ((hL.1 m hm).2 hw).2.1⟩
  rcases (by omega : wq = 0 ∨ wq = 1 ∨ wq = 2) with rfl | rfl | rfl
  · refine j_lookup (pc := 48) (tgt := 76) dX7_why_48 (by decide) (off := 28) (by decide) rfl ?_
    refine j_aload_n (pc := 76) dX7_why_76 rfl ?_
    refine j_getR (pc := 77) dX7_why_77 f_X7_53 (by first | rfl | with_reducible assumption) (by rfl) ?_
    refine j_iload (pc := 80) dX7_why_80 rfl ?_
    refine j_callVNi (pc := 82) dX7_why_82 k_X7_161 (c_X1_reasonOf _ _) (by first | rfl | with_reducible assumption) rfl rfl (by decide) rfl (Nat.le_of_ble_eq_true rfl) (fun r σ1 hp => ?_)
    obtain ⟨rfl, hp⟩ := hp
    refine j_iret (pc := 85) dX7_why_85 ?_
    refine ans _ ?_
    rcases hp with ⟨a, rfl⟩ | ⟨a, rfl⟩
    · have a' : lk ≠ -9 := fun z => a (hlo.mpr z)
      rw [if_neg a', if_pos (by rfl)]
      exact (hrv a').1
    · rw [if_pos (hlo.mp a)]
  · refine j_lookup (pc := 48) (tgt := 86) dX7_why_48 (by decide) (off := 38) (by decide) rfl ?_
    refine j_aload_n (pc := 86) dX7_why_86 rfl ?_
    refine j_getR (pc := 87) dX7_why_87 f_X7_53 (by first | rfl | with_reducible assumption) (by rfl) ?_
    refine j_iload (pc := 90) dX7_why_90 rfl ?_
    refine j_callVNi (pc := 92) dX7_why_92 k_X7_164 (c_X1_eventOf _ _) (by first | rfl | with_reducible assumption) rfl rfl (by decide) rfl (Nat.le_of_ble_eq_true rfl) (fun r σ1 hp => ?_)
    obtain ⟨rfl, hp⟩ := hp
    refine j_iret (pc := 95) dX7_why_95 ?_
    refine ans _ ?_
    rcases hp with ⟨a, rfl⟩ | ⟨a, rfl⟩
    · have a' : lk ≠ -9 := fun z => a (hlo.mpr z)
      rw [if_neg a', if_neg (by decide), if_pos (by rfl)]
      exact (hrv a').2
    · rw [if_pos (hlo.mp a)]
  · refine j_lookup (pc := 48) (tgt := 96) dX7_why_48 (by decide) (off := 48) (by decide) rfl ?_
    refine j_iload (pc := 96) dX7_why_96 rfl ?_
    refine j_iret (pc := 98) dX7_why_98 ?_
    refine ans _ ?_
    by_cases z : lk = -9
    · rw [if_pos z]; exact z
    · rw [if_neg z, if_neg (by decide), if_neg (by decide)]
theorem c_X7_why (n kk what : Int32) (q : R1 σ n0 t N K M fs h pl) : EV Γ1 4 yX7_why cX7_why 5 (some .int) [.inr 0, .inl n, .inl kk, .inl what] σ (fun r σ' => σ = σ' ∧ Ans (TA N K M) (allS N) fs (-1) (fun k => q_why (TA N K M) (allS N) fs k n kk what) r) := by
  obtain ⟨hb, hfs, hD, hP, h45, hTr⟩ := q
  refine EV.intro (by decide +kernel) (Nat.le_of_ble_eq_true rfl) ?_
  rcases hD with ⟨hO, s13, s14, -⟩ | ⟨hO, hG, k, hk⟩
  · refine j_aload_n (pc := 0) dX7_why_0 rfl ?_
    refine j_getR (pc := 1) dX7_why_1 f_X7_33 (by first | rfl | with_reducible assumption) (by rfl) ?_
    refine j_iload_n (pc := 4) dX7_why_4 rfl ?_
    refine j_callVNi (pc := 5) dX7_why_5 k_X7_129 (c_X3_has isN_net n (J := 0) s13 (by decide)) (by first | rfl | with_reducible assumption) rfl rfl (by decide) rfl (Nat.le_of_ble_eq_true rfl) (fun r σ1 hp => ?_)
    obtain ⟨rfl, hp⟩ := hp
    rcases hp with ⟨q5, rfl⟩ | ⟨q5, rfl⟩
    · exact absurd q5 (by rw [vp_in_iff]; omega)
      skip
    · refine j_if_ne (pc := 8) (tgt := 13) dX7_why_8 rfl (fun h => absurd h (by decide)) (fun _ => ?_)
      refine j_iconst (pc := 11) dX7_why_11 (v := (-1)) (by decide) ?_
      refine j_iret (pc := 12) dX7_why_12 ?_
      exact ⟨rfl, Or.inl ⟨hO, rfl⟩⟩
  · have hJ := hG.1
    have hL : LIT σ (gJ (TA N K M) (allS N)) (toX (TA N K M) (allS N)) (gW (TA N K M) (allS N) fs k) := hk.2.2.2.1
    have fow : ∀ i, i < gJ (TA N K M) (allS N) → fo 150 (σ 47) (nI i) = (gW (TA N K M) (allS N) fs k).1 i := fun i hi => by rw [fo_nI (by omega) (by decide)]; exact (hL.1 i hi).1
    refine j_aload_n (pc := 0) dX7_why_0 rfl ?_
    refine j_getR (pc := 1) dX7_why_1 f_X7_33 (by first | rfl | with_reducible assumption) (by rfl) ?_
    refine j_iload_n (pc := 4) dX7_why_4 rfl ?_
    refine j_callVNi (pc := 5) dX7_why_5 k_X7_129 (c_X3_has isN_net n hG.2.2.1 hG.1) (by first | rfl | with_reducible assumption) rfl rfl (by decide) rfl (Nat.le_of_ble_eq_true rfl) (fun r σ1 hp => ?_)
    obtain ⟨rfl, hp⟩ := hp
    rcases hp with ⟨q5, rfl⟩ | ⟨q5, rfl⟩
    · refine j_if_ne (pc := 8) (tgt := 13) dX7_why_8 rfl (fun _ => ?_) (fun h => absurd h (by decide))
      refine j_iload_n (pc := 13) dX7_why_13 rfl ?_
      refine j_if_lt (pc := 14) (tgt := 33) dX7_why_14 rfl (fun h14 => ?_) (fun h14 => ?_)
      · refine j_bipush (pc := 33) dX7_why_33 (v := (-2)) (by decide) ?_
        refine j_iret (pc := 35) dX7_why_35 ?_
        refine ⟨rfl, Or.inr ⟨hO, k, hk.2.1, ?_⟩⟩
        show _ = q_why (TA N K M) (allS N) fs k n kk what
        unfold q_why
        rw [if_pos (inR_iff.mpr q5)]
        refine (if_neg (fun z => ?_)).symm
        have z1 := inR_iff.mp z.1
        have z2 := inR_iff.mp z.2
        have t2 : (2 : Int32).toInt = 2 := rfl
        simp only [Int32.lt_iff_toInt_lt, Int32.le_iff_toInt_le, ← Int32.toInt_inj, vp_in_iff, ti_0, ti_1, ti_2, ti_3, ti_4, ti_5, ti_6, ti_7, ti_8, ti_16, ti_48, ti_53, ti_60, ti_97, ti_104, ti_127, ti_149, ti_150, ti_151, ti_256, ti_1200, ti_m1, ti_m2, ti_m3, ti_m4, ti_m9] at *
        omega
      · refine j_iload_n (pc := 17) dX7_why_17 rfl ?_
        refine j_sipush (pc := 18) dX7_why_18 (v := 150) (by decide) ?_
        refine j_icmp_ge (pc := 21) (tgt := 33) dX7_why_21 rfl (fun h21 => ?_) (fun h21 => ?_)
        · refine j_bipush (pc := 33) dX7_why_33 (v := (-2)) (by decide) ?_
          refine j_iret (pc := 35) dX7_why_35 ?_
          refine ⟨rfl, Or.inr ⟨hO, k, hk.2.1, ?_⟩⟩
          show _ = q_why (TA N K M) (allS N) fs k n kk what
          unfold q_why
          rw [if_pos (inR_iff.mpr q5)]
          refine (if_neg (fun z => ?_)).symm
          have z1 := inR_iff.mp z.1
          have z2 := inR_iff.mp z.2
          have t2 : (2 : Int32).toInt = 2 := rfl
          simp only [Int32.lt_iff_toInt_lt, Int32.le_iff_toInt_le, ← Int32.toInt_inj, vp_in_iff, ti_0, ti_1, ti_2, ti_3, ti_4, ti_5, ti_6, ti_7, ti_8, ti_16, ti_48, ti_53, ti_60, ti_97, ti_104, ti_127, ti_149, ti_150, ti_151, ti_256, ti_1200, ti_m1, ti_m2, ti_m3, ti_m4, ti_m9] at *
          omega
        · refine j_iload_n (pc := 24) dX7_why_24 rfl ?_
          refine j_if_lt (pc := 25) (tgt := 33) dX7_why_25 rfl (fun h25 => ?_) (fun h25 => ?_)
          · refine j_bipush (pc := 33) dX7_why_33 (v := (-2)) (by decide) ?_
            refine j_iret (pc := 35) dX7_why_35 ?_
            refine ⟨rfl, Or.inr ⟨hO, k, hk.2.1, ?_⟩⟩
            show _ = q_why (TA N K M) (allS N) fs k n kk what
            unfold q_why
            rw [if_pos (inR_iff.mpr q5)]
            refine (if_neg (fun z => ?_)).symm
            have z1 := inR_iff.mp z.1
            have z2 := inR_iff.mp z.2
            have t2 : (2 : Int32).toInt = 2 := rfl
            simp only [Int32.lt_iff_toInt_lt, Int32.le_iff_toInt_le, ← Int32.toInt_inj, vp_in_iff, ti_0, ti_1, ti_2, ti_3, ti_4, ti_5, ti_6, ti_7, ti_8, ti_16, ti_48, ti_53, ti_60, ti_97, ti_104, ti_127, ti_149, ti_150, ti_151, ti_256, ti_1200, ti_m1, ti_m2, ti_m3, ti_m4, ti_m9] at *
            omega
          · refine j_iload_n (pc := 28) dX7_why_28 rfl ?_
            refine j_iconst (pc := 29) dX7_why_29 (v := 2) (by decide) ?_
            refine j_icmp_le (pc := 30) (tgt := 36) dX7_why_30 rfl (fun h30 => ?_) (fun h30 => ?_)
            · obtain ⟨i, hi, rfl⟩ := vp_in_of q5 (by omega)
              have hvk : vp_in kk 150 := by simp only [Int32.lt_iff_toInt_lt, Int32.le_iff_toInt_le, ← Int32.toInt_inj, vp_in_iff, ti_0, ti_1, ti_2, ti_3, ti_4, ti_5, ti_6, ti_7, ti_8, ti_16, ti_48, ti_53, ti_60, ti_97, ti_104, ti_127, ti_149, ti_150, ti_151, ti_256, ti_1200, ti_m1, ti_m2, ti_m3, ti_m4, ti_m9] at *; omega
              have hvw : vp_in what 3 := by simp only [Int32.lt_iff_toInt_lt, Int32.le_iff_toInt_le, ← Int32.toInt_inj, vp_in_iff, ti_0, ti_1, ti_2, ti_3, ti_4, ti_5, ti_6, ti_7, ti_8, ti_16, ti_48, ti_53, ti_60, ti_97, ti_104, ti_127, ti_149, ti_150, ti_151, ti_256, ti_1200, ti_m1, ti_m2, ti_m3, ti_m4, ti_m9] at *; omega
              obtain ⟨kq, hkq, rfl⟩ := vp_in_of hvk (by decide)
              obtain ⟨wq, hwq, rfl⟩ := vp_in_of hvw (by decide)
              refine j_aload_n (pc := 36) dX7_why_36 rfl ?_
              refine j_getR (pc := 37) dX7_why_37 f_X7_53 (by first | rfl | with_reducible assumption) (by rfl) ?_
              refine j_iload_n (pc := 40) dX7_why_40 rfl ?_
              refine j_iload_n (pc := 41) dX7_why_41 rfl ?_
              refine j_callVNi (pc := 42) dX7_why_42 k_X7_158 (c_X1_linkBehind _ hkq _) (by first | rfl | with_reducible assumption) rfl rfl (by decide) rfl (Nat.le_of_ble_eq_true rfl) (fun r σ1 hp => ?_)
              obtain ⟨rfl, rfl⟩ := hp
              rw [fow i hi, link_same hJ hk.1 hi hL]
              refine j_istore (pc := 45) dX7_why_45 (by decide) ?_
              refine j_iload_n (pc := 47) dX7_why_47 rfl ?_
              exact c_X7_why2 hO hG hk hi hkq hwq
            · refine j_bipush (pc := 33) dX7_why_33 (v := (-2)) (by decide) ?_
              refine j_iret (pc := 35) dX7_why_35 ?_
              refine ⟨rfl, Or.inr ⟨hO, k, hk.2.1, ?_⟩⟩
              show _ = q_why (TA N K M) (allS N) fs k n kk what
              unfold q_why
              rw [if_pos (inR_iff.mpr q5)]
              refine (if_neg (fun z => ?_)).symm
              have z1 := inR_iff.mp z.1
              have z2 := inR_iff.mp z.2
              have t2 : (2 : Int32).toInt = 2 := rfl
              simp only [Int32.lt_iff_toInt_lt, Int32.le_iff_toInt_le, ← Int32.toInt_inj, vp_in_iff, ti_0, ti_1, ti_2, ti_3, ti_4, ti_5, ti_6, ti_7, ti_8, ti_16, ti_48, ti_53, ti_60, ti_97, ti_104, ti_127, ti_149, ti_150, ti_151, ti_256, ti_1200, ti_m1, ti_m2, ti_m3, ti_m4, ti_m9] at *
              omega
    · refine j_if_ne (pc := 8) (tgt := 13) dX7_why_8 rfl (fun h => absurd h (by decide)) (fun _ => ?_)
      refine j_iconst (pc := 11) dX7_why_11 (v := (-1)) (by decide) ?_
      refine j_iret (pc := 12) dX7_why_12 ?_
      exact ⟨rfl, Or.inr ⟨hO, k, hk.2.1, (if_neg (fun z => q5 (inR_iff.mp z))).symm⟩⟩
theorem c_X7_at (q : R1 σ n0 t N K M fs h pl) : EV Γ1 3 yX7_at cX7_at 1 (some .int) [.inr 0] σ (fun r σ' => σ = σ' ∧ Ans (TA N K M) (allS N) fs (-3) (fun k => if (gW (TA N K M) (allS N) fs k).1 0 = -9 then pl else -3) r) := by
  obtain ⟨hb, hfs, hD, hP, h45, hTr⟩ := q
  refine EV.intro (by decide +kernel) (Nat.le_of_ble_eq_true rfl) ?_
  rcases hD with ⟨hO, s13, s14, -, -, -, s53, -⟩ | ⟨hO, hG, k, hk⟩
  · refine j_aload_n (pc := 0) dX7_at_0 rfl ?_
    refine j_getR (pc := 1) dX7_at_1 f_X7_60 (by first | rfl | with_reducible assumption) (by rfl) ?_
    refine j_iconst (pc := 4) dX7_at_4 (v := 0) (by decide) ?_
    refine j_callVNi (pc := 5) dX7_at_5 k_X7_149 (c_X0_holds _ _) (by first | rfl | with_reducible assumption) rfl rfl (by decide) rfl (Nat.le_of_ble_eq_true rfl) (fun r σ1 hp => ?_)
    obtain ⟨rfl, hp⟩ := hp
    rcases hp with ⟨q5, rfl⟩ | ⟨q5, rfl⟩
    · exact absurd (by rw [show (0 : Int32) = nI 0 from rfl, fo_nI (by decide) (by decide)]; exact s53 0 (by decide)) q5
      skip
    · refine j_if_eq (pc := 8) (tgt := 21) dX7_at_8 rfl (fun _ => ?_) (fun h => absurd h (by decide))
      refine j_bipush (pc := 21) dX7_at_21 (v := (-3)) (by decide) ?_
      refine j_iret (pc := 23) dX7_at_23 ?_
      exact ⟨rfl, Or.inl ⟨hO, rfl⟩⟩
  · have hJ := hG.1
    have hg0 := g_pos (TA N K M) (allS N)
    have huc := hk.uc hJ hg0
    have hu0 : gU (TA N K M) (allS N) fs k 0 = decide ((gW (TA N K M) (allS N) fs k).1 0 = -9) := Uk_0 hg0
    refine j_aload_n (pc := 0) dX7_at_0 rfl ?_
    refine j_getR (pc := 1) dX7_at_1 f_X7_60 (by first | rfl | with_reducible assumption) (by rfl) ?_
    refine j_iconst (pc := 4) dX7_at_4 (v := 0) (by decide) ?_
    refine j_callVNi (pc := 5) dX7_at_5 k_X7_149 (c_X0_holds _ _) (by first | rfl | with_reducible assumption) rfl rfl (by decide) rfl (Nat.le_of_ble_eq_true rfl) (fun r σ1 hp => ?_)
    obtain ⟨rfl, hp⟩ := hp
    rcases hp with ⟨q5, rfl⟩ | ⟨q5, rfl⟩
    · rw [show (0 : Int32) = nI 0 from rfl, fo_nI (by decide) (by decide)] at q5
      refine j_if_eq (pc := 8) (tgt := 21) dX7_at_8 rfl (fun h => absurd h (by decide)) (fun _ => ?_)
      refine j_aload_n (pc := 11) dX7_at_11 rfl ?_
      refine j_getR (pc := 12) dX7_at_12 f_X7_67 (by first | rfl | with_reducible assumption) (by rfl) ?_
      refine j_getI (pc := 15) dX7_at_15 f_X7_191 (by first | rfl | with_reducible assumption) (by rfl) ?_
      refine j_goto (pc := 18) (tgt := 23) dX7_at_18 rfl ?_
      refine j_iret (pc := 23) dX7_at_23 ?_
      refine ⟨rfl, Or.inr ⟨hO, k, hk.2.1, ?_⟩⟩
      rw [hu0, decide_eq_true_iff] at huc
      dsimp only
      first
        | (rw [if_pos (huc.mp q5)]; exact hTr.1)
        | (rw [if_neg (fun z => q5 (huc.mpr z))])
    · rw [show (0 : Int32) = nI 0 from rfl, fo_nI (by decide) (by decide)] at q5
      refine j_if_eq (pc := 8) (tgt := 21) dX7_at_8 rfl (fun _ => ?_) (fun h => absurd h (by decide))
      refine j_bipush (pc := 21) dX7_at_21 (v := (-3)) (by decide) ?_
      refine j_iret (pc := 23) dX7_at_23 ?_
      refine ⟨rfl, Or.inr ⟨hO, k, hk.2.1, ?_⟩⟩
      rw [hu0, decide_eq_true_iff] at huc
      dsimp only
      first
        | (rw [if_pos (huc.mp q5)]; exact hTr.1)
        | (rw [if_neg (fun z => q5 (huc.mpr z))])
theorem c_X6_moveTo (j : Int32) (hT : TrI σ h pl) : EV Γ1 1 yX6_moveTo cX6_moveTo 2 none [.inr 57, .inl j] σ (fun _ σ' => TrI σ' ((pl :: h).take 16) j ∧ ∀ x, x ≠ 57 → x ≠ 58 → σ' x = σ x) := by
  obtain ⟨h1, h2, h3, q, hq16, h5, h6⟩ := hT
  refine EV.intro (by decide +kernel) (Nat.le_of_ble_eq_true rfl) ?_
  refine j_aload_n (pc := 0) dX6_moveTo_0 rfl ?_
  refine j_getI (pc := 1) dX6_moveTo_1 f_X6_15 (by first | rfl | with_reducible assumption) (by rfl) ?_
  refine j_top h5 ?_
  refine j_if_lt (pc := 4) (tgt := 16) dX6_moveTo_4 rfl (fun h4 => absurd h4 (nI_pos (by omega))) (fun h4 => ?_)
  refine j_aload_n (pc := 7) dX6_moveTo_7 rfl ?_
  refine j_getI (pc := 8) dX6_moveTo_8 f_X6_15 (by first | rfl | with_reducible assumption) (by rfl) ?_
  refine j_top h5 ?_
  refine j_bipush (pc := 11) dX6_moveTo_11 (v := 16) (by decide) ?_
  refine j_icmp_lt (pc := 13) (tgt := 17) dX6_moveTo_13 rfl (fun h13 => ?_) (fun h13 => absurd ((nI_ltI (b := 16) (by omega) (by decide)).mpr hq16) h13)
  refine j_aload_n (pc := 17) dX6_moveTo_17 rfl ?_
  refine j_getR (pc := 18) dX6_moveTo_18 f_X6_9 (by first | rfl | with_reducible assumption) (by rfl) ?_
  refine j_aload_n (pc := 21) dX6_moveTo_21 rfl ?_
  refine j_getI (pc := 22) dX6_moveTo_22 f_X6_15 (by first | rfl | with_reducible assumption) (by rfl) ?_
  refine j_top h5 ?_
  refine j_aload_n (pc := 25) dX6_moveTo_25 rfl ?_
  refine j_getI (pc := 26) dX6_moveTo_26 f_X6_22 (by first | rfl | with_reducible assumption) (by rfl) ?_
  refine j_top h1 ?_
  refine j_iast (pc := 29) dX6_moveTo_29 (by first | rfl | with_reducible assumption) (vp_in_nI hq16 (by decide)) ?_
  rw [nI_clamp (show q < 2 ^ 31 by omega)]
  refine j_aload_n (pc := 30) dX6_moveTo_30 rfl ?_
  refine j_aload_n (pc := 31) dX6_moveTo_31 rfl ?_
  refine j_getI (pc := 32) dX6_moveTo_32 f_X6_15 (by first | rfl | with_reducible assumption) (by rfl) ?_
  refine j_top (y := nI q) (by rw [m_ne (by decide)]; exact h5) ?_
  refine j_iconst (pc := 35) dX6_moveTo_35 (v := 1) (by decide) ?_
  refine j_iadd (pc := 36) dX6_moveTo_36 ?_
  refine j_bipush (pc := 37) dX6_moveTo_37 (v := 16) (by decide) ?_
  refine j_irem (pc := 39) dX6_moveTo_39 (by decide) ?_
  refine j_top (y := nI ((q + 1) % 16)) (by rw [nI_1, show (16 : Int32) = nI 16 from rfl, pk_rem (by omega) (by decide) (by decide)]) ?_
  refine j_put (pc := 40) dX6_moveTo_40 f_X6_15 (by first | rfl | with_reducible assumption) (by rfl) ?_
  refine j_aload_n (pc := 43) dX6_moveTo_43 rfl ?_
  refine j_aload_n (pc := 44) dX6_moveTo_44 rfl ?_
  refine j_getI (pc := 45) dX6_moveTo_45 f_X6_19 (by first | rfl | with_reducible assumption) (by rfl) ?_
  refine j_top (y := nI h.length) (by rw [m_nk (by decide), m_ne (by decide)]; exact h3) ?_
  refine j_iconst (pc := 48) dX6_moveTo_48 (v := 1) (by decide) ?_
  refine j_iadd (pc := 49) dX6_moveTo_49 ?_
  refine j_bipush (pc := 50) dX6_moveTo_50 (v := 16) (by decide) ?_
  refine j_callSi (pc := 52) dX6_moveTo_52 k_X6_25 (c_min _ _ _) rfl (by decide) rfl (Nat.le_of_ble_eq_true rfl) (fun r σ1 hp => ?_)
  obtain ⟨rfl, rfl⟩ := hp
  refine j_top (y := nI ((pl :: h).take 16).length) (by
    rw [nI_1]
    unfold mn
    rw [List.length_take, List.length_cons]
    by_cases z : h.length = 16
    · rw [z]; rfl
    · rw [if_neg (show ¬ (16 : Int32) < nI (h.length + 1) from fun y => absurd y (nI_nlt (b := h.length + 1) (a := 16) (by omega) (by decide))), Nat.min_eq_right (by omega)]) ?_
  refine j_put (pc := 55) dX6_moveTo_55 f_X6_19 (by first | rfl | with_reducible assumption) (by rfl) ?_
  refine j_aload_n (pc := 58) dX6_moveTo_58 rfl ?_
  refine j_iload_n (pc := 59) dX6_moveTo_59 rfl ?_
  refine j_put (pc := 60) dX6_moveTo_60 f_X6_22 (by first | rfl | with_reducible assumption) (by rfl) ?_
  refine j_vret (pc := 63) dX6_moveTo_63 ?_
  have hr : ∀ x, m_up (m_up (m_up (m_up σ 58 q pl) 57 1 (nI ((q + 1) % 16))) 57 2 (nI ((pl :: h).take 16).length)) 57 3 j 58 x = upd (σ 58) q pl x := fun x => by rw [m_ne (by decide), m_ne (by decide), m_ne (by decide), m_row]
  refine ⟨⟨m_eq _ _ _ _, by rw [List.length_take]; omega, by rw [m_nk (by decide), m_eq], (q + 1) % 16, Nat.mod_lt _ (by decide), by rw [m_nk (by decide), m_nk (by decide), m_eq], fun i hi => ?_⟩, fun x a b => by rw [m_ne a, m_ne a, m_ne a, m_ne b]⟩
  rw [hr]
  have hi16 : i < 16 := by rw [List.length_take] at hi; omega
  rw [List.getElem?_take_of_lt hi16]
  cases i with
  | zero =>
    rw [show ((q + 1) % 16 + 15 - 0) % 16 = q by omega, pk_us]
    rfl
  | succ i =>
    rw [List.length_take, List.length_cons] at hi
    rw [show ((q + 1) % 16 + 15 - (i + 1)) % 16 = (q + 15 - i) % 16 by omega, pk_un (by omega)]
    exact h6 i (by omega)
theorem c_X6_turnBack (hT : TrI σ h pl) : EV Γ1 1 yX6_turnBack cX6_turnBack 1 (some .boolean) [.inr 57] σ (fun r σ' => (h = [] ∧ r = 0 ∧ σ = σ') ∨ ∃ a h', h = a :: h' ∧ r = 1 ∧ TrI σ' h' a ∧ ∀ x, x ≠ 57 → σ' x = σ x) := by
  obtain ⟨h1, h2, h3, q, hq16, h5, h6⟩ := hT
  refine EV.intro (by decide +kernel) (Nat.le_of_ble_eq_true rfl) ?_
  refine j_aload_n (pc := 0) dX6_turnBack_0 rfl ?_
  refine j_getI (pc := 1) dX6_turnBack_1 f_X6_19 (by first | rfl | with_reducible assumption) (by rfl) ?_
  refine j_top h3 ?_
  refine j_if_ne (pc := 4) (tgt := 9) dX6_turnBack_4 rfl (fun h4 => ?_) (fun h4 => ?_)
  · obtain ⟨a, h', rfl⟩ : ∃ a h', h = a :: h' := by
      cases h with
      | nil => exact absurd rfl h4
      | cons a h' => exact ⟨a, h', rfl⟩
    refine j_aload_n (pc := 9) dX6_turnBack_9 rfl ?_
    refine j_aload_n (pc := 10) dX6_turnBack_10 rfl ?_
    refine j_getI (pc := 11) dX6_turnBack_11 f_X6_15 (by first | rfl | with_reducible assumption) (by rfl) ?_
    refine j_top h5 ?_
    refine j_iconst (pc := 14) dX6_turnBack_14 (v := 1) (by decide) ?_
    refine j_isub (pc := 15) dX6_turnBack_15 ?_
    refine j_bipush (pc := 16) dX6_turnBack_16 (v := 16) (by decide) ?_
    refine j_callSi (pc := 18) dX6_turnBack_18 k_X6_31 (c_floorMod hq16 _) rfl (by decide) rfl (Nat.le_of_ble_eq_true rfl) (fun r σ1 hp => ?_)
    obtain ⟨rfl, rfl⟩ := hp
    refine j_put (pc := 21) dX6_turnBack_21 f_X6_15 (by first | rfl | with_reducible assumption) (by rfl) ?_
    refine j_aload_n (pc := 24) dX6_turnBack_24 rfl ?_
    refine j_aload_n (pc := 25) dX6_turnBack_25 rfl ?_
    refine j_getR (pc := 26) dX6_turnBack_26 f_X6_9 (by first | rfl | with_reducible assumption) (by rfl) ?_
    refine j_aload_n (pc := 29) dX6_turnBack_29 rfl ?_
    refine j_getI (pc := 30) dX6_turnBack_30 f_X6_15 (by first | rfl | with_reducible assumption) (by rfl) ?_
    refine j_top (m_eq _ _ _ _) ?_
    refine j_iald (pc := 33) dX6_turnBack_33 (by first | rfl | with_reducible assumption) (vp_in_nI (Nat.mod_lt _ (by decide)) (by decide)) ?_
    refine j_top (y := a) (by
      rw [nI_clamp (by omega), m_ne (by decide)]
      have := h6 0 (by simp)
      simpa using this.symm) ?_
    refine j_put (pc := 34) dX6_turnBack_34 f_X6_22 (by first | rfl | with_reducible assumption) (by rfl) ?_
    refine j_aload_n (pc := 37) dX6_turnBack_37 rfl ?_
    refine j_dup (pc := 38) dX6_turnBack_38 ?_
    refine j_getI (pc := 39) dX6_turnBack_39 f_X6_19 (by first | rfl | with_reducible assumption) (by rfl) ?_
    refine j_iconst (pc := 42) dX6_turnBack_42 (v := 1) (by decide) ?_
    refine j_isub (pc := 43) dX6_turnBack_43 ?_
    refine j_top (y := nI h'.length) (by
      rw [m_nk (by decide), m_nk (by decide), h3, List.length_cons]
      exact nI_pred _) ?_
    refine j_put (pc := 44) dX6_turnBack_44 f_X6_19 (by first | rfl | with_reducible assumption) (by rfl) ?_
    refine j_iconst (pc := 47) dX6_turnBack_47 (v := 1) (by decide) ?_
    refine j_zret (pc := 48) dX6_turnBack_48 (Or.inr rfl) ?_
    refine Or.inr ⟨a, h', rfl, rfl, ⟨by rw [m_nk (by decide), m_eq], by rw [List.length_cons] at h2; omega, m_eq _ _ _ _, (q + 15) % 16, Nat.mod_lt _ (by decide), by rw [m_nk (by decide), m_nk (by decide), m_eq], fun i hi => ?_⟩, fun x z => by rw [m_ne z, m_ne z, m_ne z]⟩
    rw [List.length_cons] at h2
    rw [m_ne (by decide), m_ne (by decide), m_ne (by decide)]
    have := h6 (i + 1) (by rw [List.length_cons]; omega)
    rw [show ((q + 15) % 16 + 15 - i) % 16 = (q + 15 - (i + 1)) % 16 by omega]
    simpa using this
  · refine j_iconst (pc := 7) dX6_turnBack_7 (v := 0) (by decide) ?_
    refine j_zret (pc := 8) dX6_turnBack_8 (Or.inl rfl) ?_
    have : h.length = 0 := (nI_eq (b := 0) (by omega) (by decide)).mp h4
    exact Or.inl ⟨List.length_eq_zero_iff.mp this, rfl, rfl⟩
theorem R1.trail {σ' : Mm} {h' : List Int32} {pl' : Int32} (q : R1 σ n0 t N K M fs h pl) (h1 : ∀ x, x ≠ 57 → x ≠ 58 → σ' x = σ x) (h2 : TrI σ' h' pl') : R1 σ' n0 t N K M fs h' pl' := by
  obtain ⟨hb, hfs, hD, hP, h45, hTr⟩ := q
  have h6 := hb.2.2.2.2.1
  exact ⟨hb.cells (by rw [h1 0 (by decide) (by decide)]) (fun x a b _ _ => h1 x (by omega) (by omega)), by rw [h1 0 (by decide) (by decide)]; exact hfs, hD.cells (fun x a b => h1 x (by omega) (by omega)) (fun x a b => h1 x (by omega) (by omega)), hP.cells (by rw [h1 0 (by decide) (by decide)]) (fun x a b => h1 x (by omega) (by omega)), fun i hi => by rw [h1 45 (by decide) (by decide)]; exact h45 i hi, h2⟩
theorem c_X7_back (q : R1 σ n0 t N K M fs h pl) : EV Γ1 2 yX7_back cX7_back 1 (some .int) [.inr 0] σ (fun r σ' => (h = [] ∧ r = -3 ∧ σ = σ') ∨ ∃ a h', h = a :: h' ∧ r = a ∧ R1 σ' n0 t N K M fs h' a) := by
  have hTr := q.2.2.2.2.2
  refine EV.intro (by decide +kernel) (Nat.le_of_ble_eq_true rfl) ?_
  refine j_aload_n (pc := 0) dX7_back_0 rfl ?_
  refine j_getR (pc := 1) dX7_back_1 f_X7_67 (by first | rfl | with_reducible assumption) (by rfl) ?_
  refine j_callVNi (pc := 4) dX7_back_4 k_X7_197 (c_X6_turnBack hTr) (by first | rfl | with_reducible assumption) rfl rfl (by decide) rfl (Nat.le_of_ble_eq_true rfl) (fun r σ1 hp => ?_)
  skip
  refine j_if_eq (pc := 7) (tgt := 20) dX7_back_7 rfl (fun h7 => ?_) (fun h7 => ?_)
  · refine j_bipush (pc := 20) dX7_back_20 (v := (-3)) (by decide) ?_
    refine j_iret (pc := 22) dX7_back_22 ?_
    rcases hp with ⟨a, rfl, rfl⟩ | ⟨a, h', rfl, rfl, hT, hF⟩
    · first | exact absurd rfl h7 | exact Or.inl ⟨a, rfl, rfl⟩
    · first | exact absurd h7 (by decide) | exact Or.inr ⟨a, h', rfl, hT.1, q.trail (fun x z _ => hF x z) hT⟩
  · refine j_aload_n (pc := 10) dX7_back_10 rfl ?_
    refine j_getR (pc := 11) dX7_back_11 f_X7_67 (by first | rfl | with_reducible assumption) (by rfl) ?_
    refine j_getI (pc := 14) dX7_back_14 f_X7_191 (by first | rfl | with_reducible assumption) (by rfl) ?_
    refine j_goto (pc := 17) (tgt := 22) dX7_back_17 rfl ?_
    refine j_iret (pc := 22) dX7_back_22 ?_
    rcases hp with ⟨a, rfl, rfl⟩ | ⟨a, h', rfl, rfl, hT, hF⟩
    · first | exact absurd rfl h7 | exact Or.inl ⟨a, rfl, rfl⟩
    · first | exact absurd h7 (by decide) | exact Or.inr ⟨a, h', rfl, hT.1, q.trail (fun x z _ => hF x z) hT⟩
/-- go: refused, or to where the EVENT LEADS -/
theorem c_X7_go (e : Int32) (q : R1 σ n0 t N K M fs h pl) : EV Γ1 3 yX7_go cX7_go 3 (some .int) [.inr 0, .inl e] σ (fun r σ' =>
    (¬ inR 8 e = true ∧ r = -1 ∧ σ = σ') ∨ (inR 8 e = true ∧ Over (TA N K M) (allS N) ∧ r = -3 ∧ σ = σ') ∨
    (inR 8 e = true ∧ ¬ Over (TA N K M) (allS N) ∧ ∃ k, gK (TA N K M) (allS N) fs k ∧ (((gW (TA N K M) (allS N) fs k).1 0 ≠ -9 ∧ r = -3 ∧ σ = σ') ∨
      ((gW (TA N K M) (allS N) fs k).1 0 = -9 ∧ ((¬ (∃ j, j < gJ (TA N K M) (allS N) ∧ tgo (gJ (TA N K M) (allS N)) (toX (TA N K M) (allS N)) pl e = nI j ∧ gU (TA N K M) (allS N) fs k j = true) ∧ r = -9 ∧ σ = σ') ∨
        ∃ j, j < gJ (TA N K M) (allS N) ∧ tgo (gJ (TA N K M) (allS N)) (toX (TA N K M) (allS N)) pl e = nI j ∧ gU (TA N K M) (allS N) fs k j = true ∧ r = nI j ∧ R1 σ' n0 t N K M fs ((pl :: h).take 16) (nI j)))))) := by
  have qq := q
  obtain ⟨hb, hfs, hD, hP, h45, hTr⟩ := q
  refine EV.intro (by decide +kernel) (Nat.le_of_ble_eq_true rfl) ?_
  rcases hD with ⟨hO, s13, s14, -, -, -, s53, -⟩ | ⟨hO, hG, k, hk⟩
  · refine j_iload_n (pc := 0) dX7_go_0 rfl ?_
    refine j_callSi (pc := 1) dX7_go_1 k_X7_101 (c_X7_isEvent _ _) rfl (by decide) rfl (Nat.le_of_ble_eq_true rfl) (fun r σ1 hp => ?_)
    obtain ⟨rfl, hp⟩ := hp
    rcases hp with ⟨q1, rfl⟩ | ⟨q1, rfl⟩
    · refine j_if_ne (pc := 4) (tgt := 9) dX7_go_4 rfl (fun _ => ?_) (fun h => absurd h (by decide))
      refine j_aload_n (pc := 9) dX7_go_9 rfl ?_
      refine j_getR (pc := 10) dX7_go_10 f_X7_60 (by first | rfl | with_reducible assumption) (by rfl) ?_
      refine j_iconst (pc := 13) dX7_go_13 (v := 0) (by decide) ?_
      refine j_callVNi (pc := 14) dX7_go_14 k_X7_149 (c_X0_holds _ _) (by first | rfl | with_reducible assumption) rfl rfl (by decide) rfl (Nat.le_of_ble_eq_true rfl) (fun r σ1 hp => ?_)
      obtain ⟨rfl, hp⟩ := hp
      rcases hp with ⟨q14, rfl⟩ | ⟨q14, rfl⟩
      · exact absurd (by rw [show (0 : Int32) = nI 0 from rfl, fo_nI (by decide) (by decide)]; exact s53 0 (by decide)) q14
        skip
      · refine j_if_ne (pc := 17) (tgt := 23) dX7_go_17 rfl (fun h => absurd h (by decide)) (fun _ => ?_)
        refine j_bipush (pc := 20) dX7_go_20 (v := (-3)) (by decide) ?_
        refine j_iret (pc := 22) dX7_go_22 ?_
        exact Or.inr (Or.inl ⟨inR_iff.mpr q1, hO, rfl, rfl⟩)
    · refine j_if_ne (pc := 4) (tgt := 9) dX7_go_4 rfl (fun h => absurd h (by decide)) (fun _ => ?_)
      refine j_iconst (pc := 7) dX7_go_7 (v := (-1)) (by decide) ?_
      refine j_iret (pc := 8) dX7_go_8 ?_
      exact Or.inl ⟨fun z => q1 (inR_iff.mp z), rfl, rfl⟩
  · have hJ := hG.1
    have hg0 := g_pos (TA N K M) (allS N)
    have hu0 : gU (TA N K M) (allS N) fs k 0 = decide ((gW (TA N K M) (allS N) fs k).1 0 = -9) := Uk_0 hg0
    have huc0 : σ 53 0 ≠ -9 ↔ (gW (TA N K M) (allS N) fs k).1 0 = -9 := by rw [hk.uc hJ hg0, hu0, decide_eq_true_iff]
    have hhold : ∀ v : Int32, fo 150 (σ 53) v ≠ -9 ↔ ∃ j, j < gJ (TA N K M) (allS N) ∧ v = nI j ∧ gU (TA N K M) (allS N) fs k j = true := by
      intro v
      rw [fo_out hJ hk.2.2.2.2.2.1]
      unfold fo
      by_cases z : inR (gJ (TA N K M) (allS N)) v = true
      · obtain ⟨j, hj, rfl⟩ := vp_in_of (inR_iff.mp z) (by omega)
        rw [if_pos z, nI_clamp (by omega), hk.uc hJ hj]
        exact ⟨fun y => ⟨j, hj, rfl, y⟩, fun ⟨j', a, b, c⟩ => by rw [(nI_eq (by omega) (by omega)).mp b]; exact c⟩
      · rw [if_neg z]
        exact ⟨fun y => absurd rfl y, fun ⟨j', a, b, _⟩ => absurd (by rw [b]; exact inR_nI a (by omega)) z⟩
    refine j_iload_n (pc := 0) dX7_go_0 rfl ?_
    refine j_callSi (pc := 1) dX7_go_1 k_X7_101 (c_X7_isEvent _ _) rfl (by decide) rfl (Nat.le_of_ble_eq_true rfl) (fun r σ1 hp => ?_)
    obtain ⟨rfl, hp⟩ := hp
    rcases hp with ⟨q1, rfl⟩ | ⟨q1, rfl⟩
    · refine j_if_ne (pc := 4) (tgt := 9) dX7_go_4 rfl (fun _ => ?_) (fun h => absurd h (by decide))
      refine j_aload_n (pc := 9) dX7_go_9 rfl ?_
      refine j_getR (pc := 10) dX7_go_10 f_X7_60 (by first | rfl | with_reducible assumption) (by rfl) ?_
      refine j_iconst (pc := 13) dX7_go_13 (v := 0) (by decide) ?_
      refine j_callVNi (pc := 14) dX7_go_14 k_X7_149 (c_X0_holds _ _) (by first | rfl | with_reducible assumption) rfl rfl (by decide) rfl (Nat.le_of_ble_eq_true rfl) (fun r σ1 hp => ?_)
      obtain ⟨rfl, hp⟩ := hp
      rcases hp with ⟨q14, rfl⟩ | ⟨q14, rfl⟩
      · rw [show (0 : Int32) = nI 0 from rfl, fo_nI (by decide) (by decide)] at q14
        refine j_if_ne (pc := 17) (tgt := 23) dX7_go_17 rfl (fun _ => ?_) (fun h => absurd h (by decide))
        refine j_aload_n (pc := 23) dX7_go_23 rfl ?_
        refine j_getR (pc := 24) dX7_go_24 f_X7_33 (by first | rfl | with_reducible assumption) (by rfl) ?_
        refine j_aload_n (pc := 27) dX7_go_27 rfl ?_
        refine j_getR (pc := 28) dX7_go_28 f_X7_67 (by first | rfl | with_reducible assumption) (by rfl) ?_
        refine j_getI (pc := 31) dX7_go_31 f_X7_191 (by first | rfl | with_reducible assumption) (by rfl) ?_
        refine j_top hTr.1 ?_
        refine j_iload_n (pc := 34) dX7_go_34 rfl ?_
        refine j_callVNi (pc := 35) dX7_go_35 k_X7_135 (c_target' isN_net pl e hG.2.2.1 hG.1 hG.2.2.2.2.1) (by first | rfl | with_reducible assumption) rfl rfl (by decide) rfl (Nat.le_of_ble_eq_true rfl) (fun r σ1 hp => ?_)
        obtain ⟨rfl, rfl⟩ := hp
        refine j_istore_n (pc := 38) dX7_go_38 (by decide) ?_
        refine j_aload_n (pc := 39) dX7_go_39 rfl ?_
        refine j_getR (pc := 40) dX7_go_40 f_X7_60 (by first | rfl | with_reducible assumption) (by rfl) ?_
        refine j_iload_n (pc := 43) dX7_go_43 rfl ?_
        refine j_callVNi (pc := 44) dX7_go_44 k_X7_149 (c_X0_holds _ _) (by first | rfl | with_reducible assumption) rfl rfl (by decide) rfl (Nat.le_of_ble_eq_true rfl) (fun r σ1 hp => ?_)
        obtain ⟨rfl, hp⟩ := hp
        rcases hp with ⟨q44, rfl⟩ | ⟨q44, rfl⟩
        · have hj := (hhold _).mp q44
          obtain ⟨j, hj, hje, hju⟩ := hj
          refine j_if_ne (pc := 47) (tgt := 53) dX7_go_47 rfl (fun _ => ?_) (fun h => absurd h (by decide))
          refine j_aload_n (pc := 53) dX7_go_53 rfl ?_
          refine j_getR (pc := 54) dX7_go_54 f_X7_67 (by first | rfl | with_reducible assumption) (by rfl) ?_
          refine j_iload_n (pc := 57) dX7_go_57 rfl ?_
          refine j_callVNv (pc := 58) dX7_go_58 k_X7_194 (c_X6_moveTo _ hTr) (by first | rfl | with_reducible assumption) rfl rfl (by decide) rfl (Nat.le_of_ble_eq_true rfl) (fun σ1 hp => ?_)
          obtain ⟨hT, hF⟩ := hp
          refine j_iload_n (pc := 61) dX7_go_61 rfl ?_
          refine j_iret (pc := 62) dX7_go_62 ?_
          rw [hje] at hT
          exact Or.inr (Or.inr ⟨inR_iff.mpr q1, hO, k, hk.2.1, Or.inr ⟨huc0.mp q14, Or.inr ⟨j, hj, hje, hju, hje, qq.trail hF hT⟩⟩⟩)
        · refine j_if_ne (pc := 47) (tgt := 53) dX7_go_47 rfl (fun h => absurd h (by decide)) (fun _ => ?_)
          refine j_bipush (pc := 50) dX7_go_50 (v := (-9)) (by decide) ?_
          refine j_iret (pc := 52) dX7_go_52 ?_
          exact Or.inr (Or.inr ⟨inR_iff.mpr q1, hO, k, hk.2.1, Or.inr ⟨huc0.mp q14, Or.inl ⟨fun z => q44 ((hhold _).mpr z), rfl, rfl⟩⟩⟩)
      · rw [show (0 : Int32) = nI 0 from rfl, fo_nI (by decide) (by decide)] at q14
        refine j_if_ne (pc := 17) (tgt := 23) dX7_go_17 rfl (fun h => absurd h (by decide)) (fun _ => ?_)
        refine j_bipush (pc := 20) dX7_go_20 (v := (-3)) (by decide) ?_
        refine j_iret (pc := 22) dX7_go_22 ?_
        exact Or.inr (Or.inr ⟨inR_iff.mpr q1, hO, k, hk.2.1, Or.inl ⟨fun z => q14 (huc0.mpr z), rfl, rfl⟩⟩)
    · refine j_if_ne (pc := 4) (tgt := 9) dX7_go_4 rfl (fun h => absurd h (by decide)) (fun _ => ?_)
      refine j_iconst (pc := 7) dX7_go_7 (v := (-1)) (by decide) ?_
      refine j_iret (pc := 8) dX7_go_8 ?_
      exact Or.inl ⟨fun z => q1 (inR_iff.mp z), rfl, rfl⟩
end Ask2
