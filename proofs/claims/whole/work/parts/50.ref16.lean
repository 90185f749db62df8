/-! LEASTBARSMODEL: wave, why -/
section AskT
variable {σ : Mm} {n0 : Nat} {t : Nat → Int32} {N : Nat} {K : Nat → Int32} {M : Nat → MV} {fs : Int32} {h : List Int32} {pl : Int32}
theorem c_X8_wave (w : Int32) (q : R2 σ n0 t N K M fs h pl) : EV Γ2 5 yX8_wave cX8_wave 4 (some .int) [.inr 0, .inl w] σ (fun r σ' => R2 σ' n0 t N K M fs h pl ∧ Ans (TA N K M) (allS N) fs (-1) (fun k => q_wave (TA N K M) (allS N) fs k w) r) := by
  have goO : ∀ σ' : Mm, R2 σ' n0 t N K M fs h pl → Over (TA N K M) (allS N) → σ' 0 20 = 0 → AJ Γ2 5 RX8 cX8_wave 4 (some .int) (fun r σ' => R2 σ' n0 t N K M fs h pl ∧ Ans (TA N K M) (allS N) fs (-1) (fun k => q_wave (TA N K M) (allS N) fs k w) r) 4 [some (.inr 0), some (.inl w), none, none] [] σ' := by
    intro σ' hR hO h20
    have t1 : ((0 : Int32) - 1).toInt = -1 := rfl
    refine j_iload_n (pc := 4) dX8_wave_4 rfl ?_
    refine j_iconst (pc := 5) dX8_wave_5 (v := 0) (by decide) ?_
    refine j_aload_n (pc := 6) dX8_wave_6 rfl ?_
    refine j_getI (pc := 7) dX8_wave_7 f_X8_162 (by first | rfl | with_reducible assumption) (by rfl) ?_
    refine j_top h20 ?_
    refine j_iconst (pc := 10) dX8_wave_10 (v := 1) (by decide) ?_
    refine j_isub (pc := 11) dX8_wave_11 ?_
    refine j_callSi (pc := 12) dX8_wave_12 k_X8_59 (c_X8_within _ _ _ _) rfl (by decide) rfl (Nat.le_of_ble_eq_true rfl) (fun r σ1 hp => ?_)
    obtain ⟨rfl, hp⟩ := hp
    rcases hp with ⟨q12, rfl⟩ | ⟨q12, rfl⟩
    · exfalso
      simp only [Int32.lt_iff_toInt_lt, Int32.le_iff_toInt_le, ← Int32.toInt_inj, vp_in_iff, ti_0, ti_1, ti_2, ti_3, ti_4, ti_5, ti_6, ti_7, ti_8, ti_16, ti_48, ti_53, ti_60, ti_97, ti_104, ti_127, ti_149, ti_150, ti_151, ti_256, ti_1200, ti_m1, ti_m2, ti_m3, ti_m4, ti_m9, t1] at q12
      omega
      skip
    · refine j_if_ne (pc := 15) (tgt := 20) dX8_wave_15 rfl (fun h => absurd h (by decide)) (fun _ => ?_)
      refine j_iconst (pc := 18) dX8_wave_18 (v := (-1)) (by decide) ?_
      refine j_iret (pc := 19) dX8_wave_19 ?_
      exact ⟨hR, Or.inl ⟨hO, rfl⟩⟩
  have goK : ∀ (σ' : Mm) (k : Nat), R2 σ' n0 t N K M fs h pl → ¬ Over (TA N K M) (allS N) → NG2 σ' (TA N K M) (allS N) → DN2 σ' (TA N K M) (allS N) fs k → AJ Γ2 5 RX8 cX8_wave 4 (some .int) (fun r σ' => R2 σ' n0 t N K M fs h pl ∧ Ans (TA N K M) (allS N) fs (-1) (fun k => q_wave (TA N K M) (allS N) fs k w) r) 4 [some (.inr 0), some (.inl w), none, none] [] σ' := by
    intro σ' k hR hO hG hk
    have hJ := hG.1
    have hk1 := hk.1
    have tN := nI_m1 (k + 1) (by omega)
    have loop : ∀ (wn : Nat), wn < k + 1 → w = nI wn → ∀ (r n : Nat), n + r = gJ (TA N K M) (allS N) → AJ Γ2 5 RX8 cX8_wave 4 (some .int) (fun r σ' => R2 σ' n0 t N K M fs h pl ∧ Ans (TA N K M) (allS N) fs (-1) (fun k => q_wave (TA N K M) (allS N) fs k w) r) 24 [some (.inr 0), some (.inl w), some (.inl (nI (cntW (gW (TA N K M) (allS N) fs k).1 wn n))), some (.inl (nI n))] [] σ' := by
      rintro wn hwn rfl r
      induction r with
      | zero =>
        intro n hn
        obtain rfl : n = gJ (TA N K M) (allS N) := by omega
        refine j_iload_n (pc := 24) dX8_wave_24 rfl ?_
        refine j_aload_n (pc := 25) dX8_wave_25 rfl ?_
        refine j_getI (pc := 26) dX8_wave_26 f_X8_131 (by first | rfl | with_reducible assumption) (by rfl) ?_
        refine j_top hG.2.1 ?_
        refine j_icmp_ge (pc := 29) (tgt := 56) dX8_wave_29 rfl (fun h29 => ?_) (fun h29 => absurd (Int32.le_refl _) h29)
        refine j_iload_n (pc := 56) dX8_wave_56 rfl ?_
        refine j_iret (pc := 57) dX8_wave_57 ?_
        refine ⟨hR, Or.inr ⟨hO, k, hk.2.1, ?_⟩⟩
        show _ = q_wave (TA N K M) (allS N) fs k (nI wn)
        unfold q_wave
        rw [if_pos (inR_nI hwn (by omega)), nI_clamp (by omega)]
      | succ r ih =>
        intro n hn
        have hnJ : n < gJ (TA N K M) (allS N) := by omega
        have hcn : (nI n).toNatClampNeg = n := nI_clamp (by omega)
        have hW := (hk.2.2.2.1 n hnJ).1
        have hs := cntW_S (gW (TA N K M) (allS N) fs k).1 wn n
        refine j_iload_n (pc := 24) dX8_wave_24 rfl ?_
        refine j_aload_n (pc := 25) dX8_wave_25 rfl ?_
        refine j_getI (pc := 26) dX8_wave_26 f_X8_131 (by first | rfl | with_reducible assumption) (by rfl) ?_
        refine j_top hG.2.1 ?_
        refine j_icmp_ge (pc := 29) (tgt := 56) dX8_wave_29 rfl (fun h29 => absurd h29 (nI_ge (by omega) (by omega))) (fun h29 => ?_)
        refine j_iload_n (pc := 32) dX8_wave_32 rfl ?_
        refine j_aload_n (pc := 33) dX8_wave_33 rfl ?_
        refine j_getR (pc := 34) dX8_wave_34 f_X8_37 (by first | rfl | with_reducible assumption) (by rfl) ?_
        refine j_iload_n (pc := 37) dX8_wave_37 rfl ?_
        refine j_iald (pc := 38) dX8_wave_38 (by first | rfl | with_reducible assumption) (vp_in_nI (by omega) (by decide)) ?_
        refine j_top (y := (gW (TA N K M) (allS N) fs k).1 n) (by rw [hcn]; exact hW) ?_
        refine j_iload_n (pc := 39) dX8_wave_39 rfl ?_
        refine j_icmp_ne (pc := 40) (tgt := 47) dX8_wave_40 rfl (fun h40 => ?_) (fun h40 => ?_)
        · rw [if_neg h40] at hs
          refine j_iconst (pc := 47) dX8_wave_47 (v := 0) (by decide) ?_
          refine j_iadd (pc := 48) dX8_wave_48 ?_
          refine j_top (y := nI (cntW (gW (TA N K M) (allS N) fs k).1 wn (n + 1))) (by rw [hs]; first | exact Int32.add_zero _ | exact nI_1 _) ?_
          refine j_istore_n (pc := 49) dX8_wave_49 (by decide) ?_
          refine j_iinc1 (pc := 50) dX8_wave_50 rfl ?_
          refine j_goto (pc := 53) (tgt := 24) dX8_wave_53 rfl ?_
          rw [nI_1]
          exact ih (n + 1) (by omega)
        · rw [if_pos h40] at hs
          refine j_iconst (pc := 43) dX8_wave_43 (v := 1) (by decide) ?_
          refine j_goto (pc := 44) (tgt := 48) dX8_wave_44 rfl ?_
          refine j_iadd (pc := 48) dX8_wave_48 ?_
          refine j_top (y := nI (cntW (gW (TA N K M) (allS N) fs k).1 wn (n + 1))) (by rw [hs]; first | exact Int32.add_zero _ | exact nI_1 _) ?_
          refine j_istore_n (pc := 49) dX8_wave_49 (by decide) ?_
          refine j_iinc1 (pc := 50) dX8_wave_50 rfl ?_
          refine j_goto (pc := 53) (tgt := 24) dX8_wave_53 rfl ?_
          rw [nI_1]
          exact ih (n + 1) (by omega)
    refine j_iload_n (pc := 4) dX8_wave_4 rfl ?_
    refine j_iconst (pc := 5) dX8_wave_5 (v := 0) (by decide) ?_
    refine j_aload_n (pc := 6) dX8_wave_6 rfl ?_
    refine j_getI (pc := 7) dX8_wave_7 f_X8_162 (by first | rfl | with_reducible assumption) (by rfl) ?_
    refine j_top hk.2.2.1 ?_
    refine j_iconst (pc := 10) dX8_wave_10 (v := 1) (by decide) ?_
    refine j_isub (pc := 11) dX8_wave_11 ?_
    refine j_callSi (pc := 12) dX8_wave_12 k_X8_59 (c_X8_within _ _ _ _) rfl (by decide) rfl (Nat.le_of_ble_eq_true rfl) (fun r σ1 hp => ?_)
    obtain ⟨rfl, hp⟩ := hp
    rcases hp with ⟨q12, rfl⟩ | ⟨q12, rfl⟩
    · refine j_if_ne (pc := 15) (tgt := 20) dX8_wave_15 rfl (fun _ => ?_) (fun h => absurd h (by decide))
      refine j_iconst (pc := 20) dX8_wave_20 (v := 0) (by decide) ?_
      refine j_istore_n (pc := 21) dX8_wave_21 (by decide) ?_
      refine j_iconst (pc := 22) dX8_wave_22 (v := 0) (by decide) ?_
      refine j_istore_n (pc := 23) dX8_wave_23 (by decide) ?_
      have hv : vp_in w (k + 1) := by
        simp only [Int32.lt_iff_toInt_lt, Int32.le_iff_toInt_le, ← Int32.toInt_inj, vp_in_iff, ti_0, ti_1, ti_2, ti_3, ti_4, ti_5, ti_6, ti_7, ti_8, ti_16, ti_48, ti_53, ti_60, ti_97, ti_104, ti_127, ti_149, ti_150, ti_151, ti_256, ti_1200, ti_m1, ti_m2, ti_m3, ti_m4, ti_m9, tN] at *
        omega
      obtain ⟨wn, hwn, hwe⟩ := vp_in_of hv (by omega)
      exact loop wn hwn hwe (gJ (TA N K M) (allS N)) 0 (by omega)
    · refine j_if_ne (pc := 15) (tgt := 20) dX8_wave_15 rfl (fun h => absurd h (by decide)) (fun _ => ?_)
      refine j_iconst (pc := 18) dX8_wave_18 (v := (-1)) (by decide) ?_
      refine j_iret (pc := 19) dX8_wave_19 ?_
      refine ⟨hR, Or.inr ⟨hO, k, hk.2.1, (if_neg (fun z => ?_)).symm⟩⟩
      have z' := inR_iff.mp z
      refine q12 ?_
      simp only [Int32.lt_iff_toInt_lt, Int32.le_iff_toInt_le, ← Int32.toInt_inj, vp_in_iff, ti_0, ti_1, ti_2, ti_3, ti_4, ti_5, ti_6, ti_7, ti_8, ti_16, ti_48, ti_53, ti_60, ti_97, ti_104, ti_127, ti_149, ti_150, ti_151, ti_256, ti_1200, ti_m1, ti_m2, ti_m3, ti_m4, ti_m9, tN] at *
      omega
  refine EV.intro (by decide +kernel) (Nat.le_of_ble_eq_true rfl) ?_
  refine j_aload_n (pc := 0) dX8_wave_0 rfl ?_
  refine j_callVv (pc := 1) dX8_wave_1 k_X8_180 (c_X8_knows q) (by first | rfl | with_reducible assumption) rfl rfl (by decide) rfl (Nat.le_of_ble_eq_true rfl) (fun σ1 hp => ?_)
  obtain ⟨hR, hD⟩ := hp
  rcases hD with ⟨hO, h11, h20⟩ | ⟨hO, hG, k, hk⟩
  · exact goO _ hR hO h20
  · exact goK _ k hR hO hG hk
theorem lts_ev {J : Nat} {tg : Nat → Int32} {fn : Nat → Bool} {cl : Nat → Nat → Bool} {fr : Nat → Bool} : ∀ k n, (lts J tg fn cl fr k).1 n ≠ -9 → (lts J tg fn cl fr k).2.1 n = 2 → ∃ e, e < 8 ∧ (lts J tg fn cl fr k).2.2 n = nI e := by
  intro k
  induction k with
  | zero => intro n _ h; exact absurd h (by show ¬ (1 : Int32) = 2; decide)
  | succ k ih =>
    intro n h1 h2
    by_cases hP : anyP J tg fr (lts J tg fn cl fr k)
    · rw [lts_P hP] at h1 h2 ⊢
      by_cases hc : (lts J tg fn cl fr k).1 n = -9 ∧ puE J tg fr (lts J tg fn cl fr k).1 n ≠ -9
      · have e1 : (pushT J tg fr (lts J tg fn cl fr k) (k + 1)).2.2 n = puE J tg fr (lts J tg fn cl fr k).1 n := by simp only [pushT, if_pos hc]
        rw [e1]
        rcases lst_cases (fun e => fr e && isL J (lts J tg fn cl fr k).1 (tg (8 * n + e))) with ⟨e, a1, a2, -, a4⟩ | ⟨-, a⟩
        · exact ⟨e, a1, a4⟩
        · exact absurd a hc.2
      · have e0 : (pushT J tg fr (lts J tg fn cl fr k) (k + 1)).1 n = (lts J tg fn cl fr k).1 n := by simp only [pushT, if_neg hc]
        have e1 : (pushT J tg fr (lts J tg fn cl fr k) (k + 1)).2.1 n = (lts J tg fn cl fr k).2.1 n := by simp only [pushT, if_neg hc]
        have e2 : (pushT J tg fr (lts J tg fn cl fr k) (k + 1)).2.2 n = (lts J tg fn cl fr k).2.2 n := by simp only [pushT, if_neg hc]
        rw [e2]; rw [e0] at h1; rw [e1] at h2
        exact ih n h1 h2
    · by_cases hS : anyS J tg fn (lts J tg fn cl fr k)
      · rw [lts_S hP hS] at h1 h2 ⊢
        by_cases hc : (lts J tg fn cl fr k).1 n = -9 ∧ stkB J tg fn (lts J tg fn cl fr k).1 n = true
        · have e1 : (stuckT J tg fn (lts J tg fn cl fr k) (k + 1)).2.1 n = 3 := by simp only [stuckT, if_pos hc]
          rw [e1] at h2
          exact absurd h2 (by decide)
        · have e0 : (stuckT J tg fn (lts J tg fn cl fr k) (k + 1)).1 n = (lts J tg fn cl fr k).1 n := by simp only [stuckT, if_neg hc]
          have e1 : (stuckT J tg fn (lts J tg fn cl fr k) (k + 1)).2.1 n = (lts J tg fn cl fr k).2.1 n := by simp only [stuckT, if_neg hc]
          have e2 : (stuckT J tg fn (lts J tg fn cl fr k) (k + 1)).2.2 n = (lts J tg fn cl fr k).2.2 n := by simp only [stuckT, if_neg hc]
          rw [e2]; rw [e0] at h1; rw [e1] at h2
          exact ih n h1 h2
      · rw [lts_N hP hS] at h1 h2 ⊢
        exact ih n h1 h2
theorem q_link_9 {T : Tab} {set fs : Int32} {k i q : Nat} (h : q_link T set fs k i q = -9) : ∀ r, q_link T set fs k i (q + r) = -9 := by
  intro r
  induction r with
  | zero => exact h
  | succ r ih =>
    show stpL _ (q_link T set fs k i (q + r)) = -9
    rw [ih]
    unfold stpL
    rw [inR_9]
    rfl
theorem c_X8_why (n kk what : Int32) (q : R2 σ n0 t N K M fs h pl) : EV Γ2 6 yX8_why cX8_why 6 (some .int) [.inr 0, .inl n, .inl kk, .inl what] σ (fun r σ' => R2 σ' n0 t N K M fs h pl ∧ Ans (TA N K M) (allS N) fs (-1) (fun k => q_why (TA N K M) (allS N) fs k n kk what) r) := by
  have go0 : ∀ σ' : Mm, R2 σ' n0 t N K M fs h pl → Ans (TA N K M) (allS N) fs (-1) (fun k => q_why (TA N K M) (allS N) fs k n kk what) (-1) → AJ Γ2 6 RX8 cX8_why 6 (some .int) (fun r σ' => R2 σ' n0 t N K M fs h pl ∧ Ans (TA N K M) (allS N) fs (-1) (fun k => q_why (TA N K M) (allS N) fs k n kk what) r) 5 [some (.inr 0), some (.inl n), some (.inl kk), some (.inl what), none, none] [.inl 0] σ' := by
    intro σ' hR hA
    refine j_if_ne (pc := 5) (tgt := 10) dX8_why_5 rfl (fun h5 => absurd rfl h5) (fun h5 => ?_)
    refine j_iconst (pc := 8) dX8_why_8 (v := (-1)) (by decide) ?_
    refine j_iret (pc := 9) dX8_why_9 ?_
    exact ⟨hR, hA⟩
  have go1 : ∀ (σ' : Mm) (k i : Nat), R2 σ' n0 t N K M fs h pl → ¬ Over (TA N K M) (allS N) → NG2 σ' (TA N K M) (allS N) → DN2 σ' (TA N K M) (allS N) fs k → i < gJ (TA N K M) (allS N) → n = nI i → AJ Γ2 6 RX8 cX8_why 6 (some .int) (fun r σ' => R2 σ' n0 t N K M fs h pl ∧ Ans (TA N K M) (allS N) fs (-1) (fun k => q_why (TA N K M) (allS N) fs k n kk what) r) 5 [some (.inr 0), some (.inl n), some (.inl kk), some (.inl what), none, none] [.inl 1] σ' := by
    rintro σ' k i hR hO hG hk hi rfl
    have hJ := hG.1
    have hci : (nI i).toNatClampNeg = i := nI_clamp (by omega)
    have hvi : vp_in (nI i) 150 := vp_in_nI (by omega) (by decide)
    have ans : ∀ r (kq : Nat), kq < 150 → kk = nI kq → inR 3 what = true → r = (if q_link (TA N K M) (allS N) fs k i kq = -9 then -9 else if what = 0 then (gW (TA N K M) (allS N) fs k).2.1 (q_link (TA N K M) (allS N) fs k i kq).toNatClampNeg else if what = 1 then (gW (TA N K M) (allS N) fs k).2.2 (q_link (TA N K M) (allS N) fs k i kq).toNatClampNeg else q_link (TA N K M) (allS N) fs k i kq) → (R2 σ' n0 t N K M fs h pl ∧ Ans (TA N K M) (allS N) fs (-1) (fun k => q_why (TA N K M) (allS N) fs k (nI i) kk what) r) := by
      rintro r kq hkq rfl hw hr
      refine ⟨hR, Or.inr ⟨hO, k, hk.2.1, ?_⟩⟩
      show r = q_why (TA N K M) (allS N) fs k (nI i) (nI kq) what
      unfold q_why
      rw [if_pos (inR_nI hi (by omega)), if_pos ⟨inR_nI hkq (by decide), hw⟩, hci, nI_clamp (show kq < 2 ^ 31 by omega)]
      exact hr
    have loop : ∀ (kq : Nat), kq < 150 → kk = nI kq → inR 3 what = true → ∀ (r s m : Nat), s + r = kq → m < gJ (TA N K M) (allS N) → q_link (TA N K M) (allS N) fs k i s = nI m → (gW (TA N K M) (allS N) fs k).1 m ≠ -9 → AJ Γ2 6 RX8 cX8_why 6 (some .int) (fun r σ' => R2 σ' n0 t N K M fs h pl ∧ Ans (TA N K M) (allS N) fs (-1) (fun k => q_why (TA N K M) (allS N) fs k (nI i) kk what) r) 54 [some (.inr 0), some (.inl (nI i)), some (.inl kk), some (.inl what), some (.inl (nI m)), some (.inl (nI s))] [] σ' := by
      rintro kq hkq rfl hw r
      induction r with
      | zero =>
        intro s m hs hm hlk hlost
        obtain rfl : s = kq := by omega
        have hcm : (nI m).toNatClampNeg = m := nI_clamp (by omega)
        have hvm : vp_in (nI m) 150 := vp_in_nI (by omega) (by decide)
        obtain ⟨-, f2⟩ := hk.2.2.2.1 m hm
        obtain ⟨f3, f4⟩ := f2 hlost
        have h9 : ¬ q_link (TA N K M) (allS N) fs k i s = -9 := by rw [hlk]; exact nI_z (by omega)
        refine j_iload (pc := 54) dX8_why_54 rfl ?_
        refine j_iload_n (pc := 56) dX8_why_56 rfl ?_
        refine j_icmp_ge (pc := 57) (tgt := 100) dX8_why_57 rfl (fun h57 => ?_) (fun h57 => absurd (Int32.le_refl _) h57)
        refine j_iload_n (pc := 100) dX8_why_100 rfl ?_
        refine j_if_ne (pc := 101) (tgt := 114) dX8_why_101 rfl (fun h101 => ?_) (fun h101 => ?_)
        · refine j_iload_n (pc := 114) dX8_why_114 rfl ?_
          refine j_iconst (pc := 115) dX8_why_115 (v := 1) (by decide) ?_
          refine j_icmp_ne (pc := 116) (tgt := 129) dX8_why_116 rfl (fun h116 => ?_) (fun h116 => ?_)
          · refine j_iload (pc := 129) dX8_why_129 rfl ?_
            refine j_iret (pc := 131) dX8_why_131 ?_
            refine ans _ s hkq rfl hw ?_
            rw [if_neg h9]
            first
              | (rw [if_pos h101, hlk, hcm]; exact f3)
              | (rw [if_neg h101, if_pos h116, hlk, hcm]; exact f4)
              | (rw [if_neg h101, if_neg h116]; exact hlk.symm)
          · refine j_aload_n (pc := 119) dX8_why_119 rfl ?_
            refine j_getR (pc := 120) dX8_why_120 f_X8_43 (by first | rfl | with_reducible assumption) (by rfl) ?_
            refine j_iload (pc := 123) dX8_why_123 rfl ?_
            refine j_iald (pc := 125) dX8_why_125 (by first | rfl | with_reducible assumption) hvm ?_
            refine j_goto (pc := 126) (tgt := 131) dX8_why_126 rfl ?_
            refine j_iret (pc := 131) dX8_why_131 ?_
            refine ans _ s hkq rfl hw ?_
            rw [if_neg h9]
            first
              | (rw [if_pos h101, hlk, hcm]; exact f3)
              | (rw [if_neg h101, if_pos h116, hlk, hcm]; exact f4)
              | (rw [if_neg h101, if_neg h116]; exact hlk.symm)
        · refine j_aload_n (pc := 104) dX8_why_104 rfl ?_
          refine j_getR (pc := 105) dX8_why_105 f_X8_40 (by first | rfl | with_reducible assumption) (by rfl) ?_
          refine j_iload (pc := 108) dX8_why_108 rfl ?_
          refine j_iald (pc := 110) dX8_why_110 (by first | rfl | with_reducible assumption) hvm ?_
          refine j_goto (pc := 111) (tgt := 131) dX8_why_111 rfl ?_
          refine j_iret (pc := 131) dX8_why_131 ?_
          refine ans _ s hkq rfl hw ?_
          rw [if_neg h9]
          first
            | (rw [if_pos h101, hlk, hcm]; exact f3)
            | (rw [if_neg h101, if_pos h116, hlk, hcm]; exact f4)
            | (rw [if_neg h101, if_neg h116]; exact hlk.symm)
      | succ r ih =>
        intro s m hs hm hlk hlost
        have hcm : (nI m).toNatClampNeg = m := nI_clamp (by omega)
        have hvm : vp_in (nI m) 150 := vp_in_nI (by omega) (by decide)
        obtain ⟨-, f2⟩ := hk.2.2.2.1 m hm
        obtain ⟨f3, f4⟩ := f2 hlost
        have hnext : q_link (TA N K M) (allS N) fs k i (s + 1) = caT (toX (TA N K M) (allS N)) (gW (TA N K M) (allS N) fs k) m := by
          show stpL _ (q_link (TA N K M) (allS N) fs k i s) = _
          rw [hlk]
          unfold stpL
          rw [if_pos (inR_nI (by omega) (by decide)), hcm]
        by_cases h2 : (gW (TA N K M) (allS N) fs k).2.1 m = 2
        · obtain ⟨e, he, hee⟩ := lts_ev k m hlost h2
          obtain ⟨m', b1, b2, b3⟩ := lts_push hJ k m (by have := hk.1; omega) hm hlost h2
          have hee' : (gW (TA N K M) (allS N) fs k).2.2 m = nI e := hee
          rw [hee, nI_clamp (by omega)] at b2
          have hl' : q_link (TA N K M) (allS N) fs k i (s + 1) = nI m' := by
            rw [hnext]
            unfold caT
            rw [if_pos h2, hee', nI_clamp (by omega)]
            exact b2
          have hx8 : (8 : Int32) * nI m + nI e = nI (8 * m + e) := by rw [show (8 : Int32) = nI 8 from rfl, pk_mul, nI_add]
          refine j_iload (pc := 54) dX8_why_54 rfl ?_
          refine j_iload_n (pc := 56) dX8_why_56 rfl ?_
          refine j_icmp_ge (pc := 57) (tgt := 100) dX8_why_57 rfl (fun h57 => absurd h57 (nI_ge (by omega) (by omega))) (fun h57 => ?_)
          refine j_aload_n (pc := 60) dX8_why_60 rfl ?_
          refine j_getR (pc := 61) dX8_why_61 f_X8_40 (by first | rfl | with_reducible assumption) (by rfl) ?_
          refine j_iload (pc := 64) dX8_why_64 rfl ?_
          refine j_iald (pc := 66) dX8_why_66 (by first | rfl | with_reducible assumption) hvm ?_
          refine j_top (y := 2) (by rw [hcm, f3]; exact h2) ?_
          refine j_iconst (pc := 67) dX8_why_67 (v := 2) (by decide) ?_
          refine j_icmp_eq (pc := 68) (tgt := 74) dX8_why_68 rfl (fun h68 => ?_) (fun h68 => absurd rfl h68)
          refine j_aload_n (pc := 74) dX8_why_74 rfl ?_
          refine j_getR (pc := 75) dX8_why_75 f_X8_34 (by first | rfl | with_reducible assumption) (by rfl) ?_
          refine j_bipush (pc := 78) dX8_why_78 (v := 8) (by decide) ?_
          refine j_iload (pc := 80) dX8_why_80 rfl ?_
          refine j_imul (pc := 82) dX8_why_82 ?_
          refine j_aload_n (pc := 83) dX8_why_83 rfl ?_
          refine j_getR (pc := 84) dX8_why_84 f_X8_43 (by first | rfl | with_reducible assumption) (by rfl) ?_
          refine j_iload (pc := 87) dX8_why_87 rfl ?_
          refine j_iald (pc := 89) dX8_why_89 (by first | rfl | with_reducible assumption) hvm ?_
          refine j_top (y := nI e) (by rw [hcm, f4]; exact hee') ?_
          refine j_iadd (pc := 90) dX8_why_90 ?_
          refine j_top hx8 ?_
          refine j_iald (pc := 91) dX8_why_91 (by first | rfl | with_reducible assumption) (vp_in_nI (by omega) (by decide)) ?_
          refine j_top (y := nI m') (by rw [nI_clamp (by omega), hG.2.2.2 _ (by omega)]; exact b2) ?_
          refine j_istore (pc := 92) dX8_why_92 (by decide) ?_
          refine j_iinc1 (pc := 94) dX8_why_94 rfl ?_
          refine j_goto (pc := 97) (tgt := 54) dX8_why_97 rfl ?_
          rw [nI_1]
          exact ih (s + 1) m' (by omega) b1 hl' b3
        · have hl' : q_link (TA N K M) (allS N) fs k i (s + 1) = -9 := by
            rw [hnext]
            unfold caT
            rw [if_neg h2]
          have hfin : q_link (TA N K M) (allS N) fs k i kq = -9 := by
            have := q_link_9 hl' r
            rw [show s + 1 + r = kq by omega] at this
            exact this
          refine j_iload (pc := 54) dX8_why_54 rfl ?_
          refine j_iload_n (pc := 56) dX8_why_56 rfl ?_
          refine j_icmp_ge (pc := 57) (tgt := 100) dX8_why_57 rfl (fun h57 => absurd h57 (nI_ge (by omega) (by omega))) (fun h57 => ?_)
          refine j_aload_n (pc := 60) dX8_why_60 rfl ?_
          refine j_getR (pc := 61) dX8_why_61 f_X8_40 (by first | rfl | with_reducible assumption) (by rfl) ?_
          refine j_iload (pc := 64) dX8_why_64 rfl ?_
          refine j_iald (pc := 66) dX8_why_66 (by first | rfl | with_reducible assumption) hvm ?_
          refine j_top (y := (gW (TA N K M) (allS N) fs k).2.1 m) (by rw [hcm, f3]) ?_
          refine j_iconst (pc := 67) dX8_why_67 (v := 2) (by decide) ?_
          refine j_icmp_eq (pc := 68) (tgt := 74) dX8_why_68 rfl (fun h68 => absurd h68 h2) (fun h68 => ?_)
          refine j_bipush (pc := 71) dX8_why_71 (v := (-9)) (by decide) ?_
          refine j_iret (pc := 73) dX8_why_73 ?_
          exact ans _ kq hkq rfl hw (by rw [if_pos hfin])
    have hWi := (hk.2.2.2.1 i hi).1
    refine j_if_ne (pc := 5) (tgt := 10) dX8_why_5 rfl (fun h5 => ?_) (fun h5 => absurd h5 (by decide))
    refine j_iload_n (pc := 10) dX8_why_10 rfl ?_
    refine j_iconst (pc := 11) dX8_why_11 (v := 0) (by decide) ?_
    refine j_sipush (pc := 12) dX8_why_12 (v := 149) (by decide) ?_
    refine j_callSi (pc := 15) dX8_why_15 k_X8_59 (c_X8_within _ _ _ _) rfl (by decide) rfl (Nat.le_of_ble_eq_true rfl) (fun r σ1 hp => ?_)
    obtain ⟨rfl, hp⟩ := hp
    rcases hp with ⟨q15, rfl⟩ | ⟨q15, rfl⟩
    · refine j_if_eq (pc := 18) (tgt := 30) dX8_why_18 rfl (fun h => absurd h (by decide)) (fun _ => ?_)
      refine j_iload_n (pc := 21) dX8_why_21 rfl ?_
      refine j_iconst (pc := 22) dX8_why_22 (v := 0) (by decide) ?_
      refine j_iconst (pc := 23) dX8_why_23 (v := 2) (by decide) ?_
      refine j_callSi (pc := 24) dX8_why_24 k_X8_59 (c_X8_within _ _ _ _) rfl (by decide) rfl (Nat.le_of_ble_eq_true rfl) (fun r σ1 hp => ?_)
      obtain ⟨rfl, hp⟩ := hp
      rcases hp with ⟨q24, rfl⟩ | ⟨q24, rfl⟩
      · refine j_if_ne (pc := 27) (tgt := 33) dX8_why_27 rfl (fun _ => ?_) (fun h => absurd h (by decide))
        have hvk : vp_in kk 150 := by
          simp only [Int32.lt_iff_toInt_lt, Int32.le_iff_toInt_le, ← Int32.toInt_inj, vp_in_iff, ti_0, ti_1, ti_2, ti_3, ti_4, ti_5, ti_6, ti_7, ti_8, ti_16, ti_48, ti_53, ti_60, ti_97, ti_104, ti_127, ti_149, ti_150, ti_151, ti_256, ti_1200, ti_m1, ti_m2, ti_m3, ti_m4, ti_m9] at *
          omega
        have hvw : inR 3 what = true := by
          rw [inR_iff]
          simp only [Int32.lt_iff_toInt_lt, Int32.le_iff_toInt_le, ← Int32.toInt_inj, vp_in_iff, ti_0, ti_1, ti_2, ti_3, ti_4, ti_5, ti_6, ti_7, ti_8, ti_16, ti_48, ti_53, ti_60, ti_97, ti_104, ti_127, ti_149, ti_150, ti_151, ti_256, ti_1200, ti_m1, ti_m2, ti_m3, ti_m4, ti_m9] at *
          omega
        obtain ⟨kq, hkq, hke⟩ := vp_in_of hvk (by decide)
        refine j_iload_n (pc := 33) dX8_why_33 rfl ?_
        refine j_istore (pc := 34) dX8_why_34 (by decide) ?_
        refine j_aload_n (pc := 36) dX8_why_36 rfl ?_
        refine j_getR (pc := 37) dX8_why_37 f_X8_37 (by first | rfl | with_reducible assumption) (by rfl) ?_
        refine j_iload (pc := 40) dX8_why_40 rfl ?_
        refine j_iald (pc := 42) dX8_why_42 (by first | rfl | with_reducible assumption) hvi ?_
        refine j_top (y := (gW (TA N K M) (allS N) fs k).1 i) (by rw [hci]; exact hWi) ?_
        refine j_bipush (pc := 43) dX8_why_43 (v := (-9)) (by decide) ?_
        refine j_icmp_ne (pc := 45) (tgt := 51) dX8_why_45 rfl (fun h45 => ?_) (fun h45 => ?_)
        · refine j_iconst (pc := 51) dX8_why_51 (v := 0) (by decide) ?_
          refine j_istore (pc := 52) dX8_why_52 (by decide) ?_
          exact loop kq hkq hke hvw kq 0 i (by omega) hi (if_pos h45) h45
        · refine j_bipush (pc := 48) dX8_why_48 (v := (-9)) (by decide) ?_
          refine j_iret (pc := 50) dX8_why_50 ?_
          have h0 : q_link (TA N K M) (allS N) fs k i 0 = -9 := if_neg (fun z => z h45)
          have hfin := q_link_9 h0 kq
          rw [Nat.zero_add] at hfin
          exact ans _ kq hkq hke hvw (by rw [if_pos hfin])
      · refine j_if_ne (pc := 27) (tgt := 33) dX8_why_27 rfl (fun h => absurd h (by decide)) (fun _ => ?_)
        refine j_bipush (pc := 30) dX8_why_30 (v := (-2)) (by decide) ?_
        refine j_iret (pc := 32) dX8_why_32 ?_
        refine ⟨hR, Or.inr ⟨hO, k, hk.2.1, ?_⟩⟩
        show _ = q_why (TA N K M) (allS N) fs k (nI i) kk what
        unfold q_why
        rw [if_pos (inR_nI hi (by omega))]
        refine (if_neg (fun z => ?_)).symm
        have z1 := inR_iff.mp z.1
        have z2 := inR_iff.mp z.2
        first
          | (refine q15 ?_
             simp only [Int32.lt_iff_toInt_lt, Int32.le_iff_toInt_le, ← Int32.toInt_inj, vp_in_iff, ti_0, ti_1, ti_2, ti_3, ti_4, ti_5, ti_6, ti_7, ti_8, ti_16, ti_48, ti_53, ti_60, ti_97, ti_104, ti_127, ti_149, ti_150, ti_151, ti_256, ti_1200, ti_m1, ti_m2, ti_m3, ti_m4, ti_m9] at *
             omega)
          | (refine q24 ?_
             simp only [Int32.lt_iff_toInt_lt, Int32.le_iff_toInt_le, ← Int32.toInt_inj, vp_in_iff, ti_0, ti_1, ti_2, ti_3, ti_4, ti_5, ti_6, ti_7, ti_8, ti_16, ti_48, ti_53, ti_60, ti_97, ti_104, ti_127, ti_149, ti_150, ti_151, ti_256, ti_1200, ti_m1, ti_m2, ti_m3, ti_m4, ti_m9] at *
             omega)
    · refine j_if_eq (pc := 18) (tgt := 30) dX8_why_18 rfl (fun _ => ?_) (fun h => absurd h (by decide))
      refine j_bipush (pc := 30) dX8_why_30 (v := (-2)) (by decide) ?_
      refine j_iret (pc := 32) dX8_why_32 ?_
      refine ⟨hR, Or.inr ⟨hO, k, hk.2.1, ?_⟩⟩
      show _ = q_why (TA N K M) (allS N) fs k (nI i) kk what
      unfold q_why
      rw [if_pos (inR_nI hi (by omega))]
      refine (if_neg (fun z => ?_)).symm
      have z1 := inR_iff.mp z.1
      have z2 := inR_iff.mp z.2
      first
        | (refine q15 ?_
           simp only [Int32.lt_iff_toInt_lt, Int32.le_iff_toInt_le, ← Int32.toInt_inj, vp_in_iff, ti_0, ti_1, ti_2, ti_3, ti_4, ti_5, ti_6, ti_7, ti_8, ti_16, ti_48, ti_53, ti_60, ti_97, ti_104, ti_127, ti_149, ti_150, ti_151, ti_256, ti_1200, ti_m1, ti_m2, ti_m3, ti_m4, ti_m9] at *
           omega)
        | (refine q24 ?_
           simp only [Int32.lt_iff_toInt_lt, Int32.le_iff_toInt_le, ← Int32.toInt_inj, vp_in_iff, ti_0, ti_1, ti_2, ti_3, ti_4, ti_5, ti_6, ti_7, ti_8, ti_16, ti_48, ti_53, ti_60, ti_97, ti_104, ti_127, ti_149, ti_150, ti_151, ti_256, ti_1200, ti_m1, ti_m2, ti_m3, ti_m4, ti_m9] at *
           omega)
  refine EV.intro (by decide +kernel) (Nat.le_of_ble_eq_true rfl) ?_
  refine j_aload_n (pc := 0) dX8_why_0 rfl ?_
  refine j_iload_n (pc := 1) dX8_why_1 rfl ?_
  refine j_callVi (pc := 2) dX8_why_2 k_X8_183 (c_X8_isJoint n q) (by first | rfl | with_reducible assumption) rfl rfl (by decide) rfl (Nat.le_of_ble_eq_true rfl) (fun r σ1 hp => ?_)
  obtain ⟨hR, hp⟩ := hp
  rcases hp with ⟨hO, rfl⟩ | ⟨hO, hG, k, hk, ⟨hv, rfl⟩ | ⟨hv, rfl⟩⟩
  · exact go0 _ hR (Or.inl ⟨hO, rfl⟩)
  · obtain ⟨i, hi, hie⟩ := vp_in_of hv (by have := hG.1; omega)
    exact go1 _ k i hR hO hG hk hi hie
  · exact go0 _ hR (Or.inr ⟨hO, k, hk.2.1, (if_neg (fun z => hv (inR_iff.mp z))).symm⟩)
end AskT
