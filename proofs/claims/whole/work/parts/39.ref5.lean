/-! LEASTBARSMODEL: led, numberOf, builds -/
section Build
variable {σ : Mm} {n : Nat} {t : Nat → Int32} {N : Nat} {K : Nat → Int32} {M : Nat → MV} {set : Int32}
theorem ledG_rest {T : Tab} {c : Int32} {e : Nat} (hs : ∀ m, bt set m = true → m < N) : ∀ k, ledG T set c e (N + k) = ledG T set c e N := by
  intro k
  induction k with
  | zero => rfl
  | succ k ih =>
    have hE : ¬ hasE T set e (N + k) = true := fun q => by
      have := hs _ (te_set q)
      omega
    show (match ledG T set c e (N + k) with
      | none => none
      | some (b, t) => if hasE T set e (N + k) = true then (if stp T c e (N + k) = -9 then none else some (true, setI t (N + k) (stp T c e (N + k)))) else some (b, t)) = _
    rw [ih]
    cases ledG T set c e N with
    | none => rfl
    | some q => obtain ⟨b, t⟩ := q; dsimp only; rw [if_neg hE]
theorem TA_a {m : Nat} (h : m < N) : (TA N K M).2.1 m = (M m).2.1 := by unfold TA; simp only [if_pos h]
theorem TA_k {m : Nat} (h : m < N) : (TA N K M).1 m = K m := by unfold TA; simp only [if_pos h]
theorem TA_m {m : Nat} (h : m < N) : (TA N K M).2.2.1 m = (M m).2.2.1 := by unfold TA; simp only [if_pos h]
theorem TA_s {m : Nat} (h : m < N) (x : Nat) : (TA N K M).2.2.2 m x = (M m).1 x := by unfold TA; simp only [if_pos h]
theorem R2b.tok (hb : R2b σ n t N K M) {m : Nat} (hm : m < N) : okT (TA N K M) m := TA_ok hm (hb.2.2.2.2.2 m hm).2.2
theorem R2b.st (hb : R2b σ n t N K M) {c : Int32} (hc : okC c) {e m : Nat} (he : e < 8) (hm : m < N) : vp_in (nI (48 * m + (8 * stN c m + e))) 288 ∧ σ 7 (48 * m + (8 * stN c m + e)) = stp (TA N K M) c e m ∧ (nI (48 * m + (8 * stN c m + e))).toNatClampNeg = 48 * m + (8 * stN c m + e) := by
  have h6 := hb.2.2.2.2.1
  have h1 := hc m (by omega)
  refine ⟨vp_in_nI (by omega) (by decide), ?_, nI_clamp (by omega)⟩
  unfold stp
  rw [TA_s hm]
  exact (hb.2.2.2.2.2 m hm).1.1 _ (by omega)
theorem c_X8_led (hb : R2b σ n t N K M) (hs : ∀ m, bt set m = true → m < N) {c : Int32} (hc : okC c) {e : Nat} (he : e < 8) : EV Γ2 1 yX8_led cX8_led 8 (some .int) [.inr 0, .inl c, .inl set, .inl (nI e)] σ (vz ((led (TA N K M) set c e).getD (-9)) σ) := by
  have h6 := hb.2.2.2.2.1
  have hN := hb.2.2.2.1
  have fin : ∀ o, ledG (TA N K M) set c e N = o → led (TA N K M) set c e = match o with
      | some (true, t) => some t
      | _ => none := fun o ho => by
    unfold led
    rw [show 6 = N + (6 - N) by omega, ledG_rest hs, ho] <;> rcases o with _ | ⟨_ | _, _⟩ <;> rfl
  have none_ : ∀ k m, m + k = N → ledG (TA N K M) set c e m = none → ledG (TA N K M) set c e N = none := by
    intro k
    induction k with
    | zero =>
      intro m hm h
      obtain rfl : m = N := by omega
      exact h
    | succ k ih => intro m hm h; exact ih (m + 1) (by omega) (by simp only [ledG, h])
  have loop : ∀ (k m : Nat) (b : Bool) (th : Int32) (w : Option Vl), m + k = N → ledG (TA N K M) set c e m = some (b, th) → AJ Γ2 1 RX8 cX8_led 8 (some .int) (vz ((led (TA N K M) set c e).getD (-9)) σ) 9 [some (.inr 0), some (.inl c), some (.inl set), some (.inl (nI e)), some (.inl th), some (.inl (if b = true then 1 else 0)), some (.inl (nI m)), w] [] σ := by
    intro k
    induction k with
    | zero =>
      intro m b th w hm hl
      obtain rfl : m = N := by omega
      have hf := fin _ hl
      rw [hf]
      refine j_iload (pc := 9) dX8_led_9 rfl ?_
      refine j_aload_n (pc := 11) dX8_led_11 rfl ?_
      refine j_getI (pc := 12) dX8_led_12 f_X8_96 (by first | rfl | with_reducible assumption) (by rfl) ?_
      refine j_top hN ?_
      refine j_icmp_ge (pc := 15) (tgt := 103) dX8_led_15 rfl (fun h15 => ?_) (fun h15 => absurd (Int32.le_refl _) h15)
      refine j_iload (pc := 103) dX8_led_103 rfl ?_
      refine j_if_eq (pc := 105) (tgt := 113) dX8_led_105 rfl (fun h105 => ?_) (fun h105 => ?_)
      · refine j_bipush (pc := 113) dX8_led_113 (v := (-9)) (by decide) ?_
        refine j_iret (pc := 115) dX8_led_115 ?_
        cases b with
        | true => first | exact ⟨rfl, rfl⟩ | exact absurd h105 (by decide)
        | false => first | exact ⟨rfl, rfl⟩ | exact absurd rfl h105
      · refine j_iload (pc := 108) dX8_led_108 rfl ?_
        refine j_goto (pc := 110) (tgt := 115) dX8_led_110 rfl ?_
        refine j_iret (pc := 115) dX8_led_115 ?_
        cases b with
        | true => first | exact ⟨rfl, rfl⟩ | exact absurd h105 (by decide)
        | false => first | exact ⟨rfl, rfl⟩ | exact absurd rfl h105
    | succ k ih =>
      intro m b th w hm hl
      have hmN : m < N := by omega
      obtain ⟨⟨f1, f2, f3, f4, f5⟩, f6, f7⟩ := hb.2.2.2.2.2 m hmN
      have hcm : (nI m).toNatClampNeg = m := nI_clamp (by omega)
      have hvm : vp_in (nI m) 6 := vp_in_nI (by omega) (by decide)
      have hal : bt (σ 3 m) e = bt ((TA N K M).2.1 m) e := by rw [f2, TA_a hmN]
      have skip_ : hasE (TA N K M) set e m ≠ true → ledG (TA N K M) set c e (m + 1) = some (b, th) := fun z => by
        simp only [ledG, hl]
        rw [if_neg z]
      by_cases hS : bt set m = true
      · by_cases hA : bt (σ 3 m) e = true
        · have hE : hasE (TA N K M) set e m = true := by unfold hasE; rw [hS, ← hal, hA]; rfl
          obtain ⟨s1, s2, s3⟩ := hb.st hc he hmN
          have hst := (st_n c m).1
          by_cases hz : stp (TA N K M) c e m = -9
          · have hn : ledG (TA N K M) set c e (m + 1) = none := by
              simp only [ledG, hl]
              rw [if_pos hE, if_pos hz]
            have hf := fin _ (none_ k (m + 1) (by omega) hn)
            rw [hf]
            refine j_iload (pc := 9) dX8_led_9 rfl ?_
            refine j_aload_n (pc := 11) dX8_led_11 rfl ?_
            refine j_getI (pc := 12) dX8_led_12 f_X8_96 (by first | rfl | with_reducible assumption) (by rfl) ?_
            refine j_top hN ?_
            refine j_icmp_ge (pc := 15) (tgt := 103) dX8_led_15 rfl (fun h15 => absurd h15 (nI_ge hmN (by omega))) (fun h15 => ?_)
            refine j_iload_n (pc := 18) dX8_led_18 rfl ?_
            refine j_iload (pc := 19) dX8_led_19 rfl ?_
            refine j_callSi (pc := 21) dX8_led_21 k_X8_121 (c_X8_bit _ _ _) rfl (by decide) rfl (Nat.le_of_ble_eq_true rfl) (fun r σ1 hp => ?_)
            obtain ⟨rfl, rfl⟩ := hp
            refine j_top (y := 1) ((isin_iff (by omega)).mpr hS) ?_
            refine j_iconst (pc := 24) dX8_led_24 (v := 1) (by decide) ?_
            refine j_icmp_ne (pc := 25) (tgt := 97) dX8_led_25 rfl (fun h25 => absurd rfl h25) (fun h25 => ?_)
            refine j_aload_n (pc := 28) dX8_led_28 rfl ?_
            refine j_getR (pc := 29) dX8_led_29 f_X8_16 (by first | rfl | with_reducible assumption) (by rfl) ?_
            refine j_iload (pc := 32) dX8_led_32 rfl ?_
            refine j_iald (pc := 34) dX8_led_34 (by first | rfl | with_reducible assumption) hvm ?_
            rw [hcm]
            refine j_iload_n (pc := 35) dX8_led_35 rfl ?_
            refine j_callSi (pc := 36) dX8_led_36 k_X8_121 (c_X8_bit _ _ _) rfl (by decide) rfl (Nat.le_of_ble_eq_true rfl) (fun r σ1 hp => ?_)
            obtain ⟨rfl, rfl⟩ := hp
            refine j_top (y := 1) ((isin_iff (by omega)).mpr hA) ?_
            refine j_iconst (pc := 39) dX8_led_39 (v := 1) (by decide) ?_
            refine j_icmp_ne (pc := 40) (tgt := 97) dX8_led_40 rfl (fun h40 => absurd rfl h40) (fun h40 => ?_)
            refine j_aload_n (pc := 43) dX8_led_43 rfl ?_
            refine j_getR (pc := 44) dX8_led_44 f_X8_28 (by first | rfl | with_reducible assumption) (by rfl) ?_
            refine j_iload (pc := 47) dX8_led_47 rfl ?_
            refine j_iload_n (pc := 49) dX8_led_49 rfl ?_
            refine j_iload (pc := 50) dX8_led_50 rfl ?_
            refine j_callSi (pc := 52) dX8_led_52 k_X8_128 (c_X8_stateIn _ _ _) rfl (by decide) rfl (Nat.le_of_ble_eq_true rfl) (fun r σ1 hp => ?_)
            obtain ⟨rfl, rfl⟩ := hp
            refine j_top (y := nI (stN c m)) (by rw [stIn]; exact hst) ?_
            refine j_iload_n (pc := 55) dX8_led_55 rfl ?_
            refine j_callSi (pc := 56) dX8_led_56 k_X8_81 (c_X8_stepAt _ _ _ _) rfl (by decide) rfl (Nat.le_of_ble_eq_true rfl) (fun r σ1 hp => ?_)
            obtain ⟨rfl, rfl⟩ := hp
            refine j_top (stAt m (stN c m) e) ?_
            refine j_iald (pc := 59) dX8_led_59 (by first | rfl | with_reducible assumption) s1 ?_
            refine j_top (y := -9) (by rw [s3, s2]; exact hz) ?_
            refine j_istore (pc := 60) dX8_led_60 (by decide) ?_
            refine j_iload (pc := 62) dX8_led_62 rfl ?_
            refine j_bipush (pc := 64) dX8_led_64 (v := (-9)) (by decide) ?_
            refine j_icmp_ne (pc := 66) (tgt := 72) dX8_led_66 rfl (fun h66 => absurd rfl h66) (fun h66 => ?_)
            refine j_bipush (pc := 69) dX8_led_69 (v := (-9)) (by decide) ?_
            refine j_iret (pc := 71) dX8_led_71 ?_
            exact ⟨rfl, rfl⟩
          · have hn : ledG (TA N K M) set c e (m + 1) = some (true, setI th m (stp (TA N K M) c e m)) := by
              simp only [ledG, hl]
              rw [if_pos hE, if_neg hz]
            refine j_iload (pc := 9) dX8_led_9 rfl ?_
            refine j_aload_n (pc := 11) dX8_led_11 rfl ?_
            refine j_getI (pc := 12) dX8_led_12 f_X8_96 (by first | rfl | with_reducible assumption) (by rfl) ?_
            refine j_top hN ?_
            refine j_icmp_ge (pc := 15) (tgt := 103) dX8_led_15 rfl (fun h15 => absurd h15 (nI_ge hmN (by omega))) (fun h15 => ?_)
            refine j_iload_n (pc := 18) dX8_led_18 rfl ?_
            refine j_iload (pc := 19) dX8_led_19 rfl ?_
            refine j_callSi (pc := 21) dX8_led_21 k_X8_121 (c_X8_bit _ _ _) rfl (by decide) rfl (Nat.le_of_ble_eq_true rfl) (fun r σ1 hp => ?_)
            obtain ⟨rfl, rfl⟩ := hp
            refine j_top (y := 1) ((isin_iff (by omega)).mpr hS) ?_
            refine j_iconst (pc := 24) dX8_led_24 (v := 1) (by decide) ?_
            refine j_icmp_ne (pc := 25) (tgt := 97) dX8_led_25 rfl (fun h25 => absurd rfl h25) (fun h25 => ?_)
            refine j_aload_n (pc := 28) dX8_led_28 rfl ?_
            refine j_getR (pc := 29) dX8_led_29 f_X8_16 (by first | rfl | with_reducible assumption) (by rfl) ?_
            refine j_iload (pc := 32) dX8_led_32 rfl ?_
            refine j_iald (pc := 34) dX8_led_34 (by first | rfl | with_reducible assumption) hvm ?_
            rw [hcm]
            refine j_iload_n (pc := 35) dX8_led_35 rfl ?_
            refine j_callSi (pc := 36) dX8_led_36 k_X8_121 (c_X8_bit _ _ _) rfl (by decide) rfl (Nat.le_of_ble_eq_true rfl) (fun r σ1 hp => ?_)
            obtain ⟨rfl, rfl⟩ := hp
            refine j_top (y := 1) ((isin_iff (by omega)).mpr hA) ?_
            refine j_iconst (pc := 39) dX8_led_39 (v := 1) (by decide) ?_
            refine j_icmp_ne (pc := 40) (tgt := 97) dX8_led_40 rfl (fun h40 => absurd rfl h40) (fun h40 => ?_)
            refine j_aload_n (pc := 43) dX8_led_43 rfl ?_
            refine j_getR (pc := 44) dX8_led_44 f_X8_28 (by first | rfl | with_reducible assumption) (by rfl) ?_
            refine j_iload (pc := 47) dX8_led_47 rfl ?_
            refine j_iload_n (pc := 49) dX8_led_49 rfl ?_
            refine j_iload (pc := 50) dX8_led_50 rfl ?_
            refine j_callSi (pc := 52) dX8_led_52 k_X8_128 (c_X8_stateIn _ _ _) rfl (by decide) rfl (Nat.le_of_ble_eq_true rfl) (fun r σ1 hp => ?_)
            obtain ⟨rfl, rfl⟩ := hp
            refine j_top (y := nI (stN c m)) (by rw [stIn]; exact hst) ?_
            refine j_iload_n (pc := 55) dX8_led_55 rfl ?_
            refine j_callSi (pc := 56) dX8_led_56 k_X8_81 (c_X8_stepAt _ _ _ _) rfl (by decide) rfl (Nat.le_of_ble_eq_true rfl) (fun r σ1 hp => ?_)
            obtain ⟨rfl, rfl⟩ := hp
            refine j_top (stAt m (stN c m) e) ?_
            refine j_iald (pc := 59) dX8_led_59 (by first | rfl | with_reducible assumption) s1 ?_
            refine j_top (y := stp (TA N K M) c e m) (by rw [s3, s2]) ?_
            refine j_istore (pc := 60) dX8_led_60 (by decide) ?_
            refine j_iload (pc := 62) dX8_led_62 rfl ?_
            refine j_bipush (pc := 64) dX8_led_64 (v := (-9)) (by decide) ?_
            refine j_icmp_ne (pc := 66) (tgt := 72) dX8_led_66 rfl (fun h66 => ?_) (fun h66 => absurd h66 hz)
            refine j_iconst (pc := 72) dX8_led_72 (v := 1) (by decide) ?_
            refine j_istore (pc := 73) dX8_led_73 (by decide) ?_
            refine j_iload (pc := 75) dX8_led_75 rfl ?_
            refine j_bipush (pc := 77) dX8_led_77 (v := 7) (by decide) ?_
            refine j_iconst (pc := 79) dX8_led_79 (v := 3) (by decide) ?_
            refine j_iload (pc := 80) dX8_led_80 rfl ?_
            refine j_imul (pc := 82) dX8_led_82 ?_
            refine j_ishl (pc := 83) dX8_led_83 ?_
            refine j_iconst (pc := 84) dX8_led_84 (v := (-1)) (by decide) ?_
            refine j_ixor (pc := 85) dX8_led_85 ?_
            refine j_iand (pc := 86) dX8_led_86 ?_
            refine j_iload (pc := 87) dX8_led_87 rfl ?_
            refine j_iconst (pc := 89) dX8_led_89 (v := 3) (by decide) ?_
            refine j_iload (pc := 90) dX8_led_90 rfl ?_
            refine j_imul (pc := 92) dX8_led_92 ?_
            refine j_ishl (pc := 93) dX8_led_93 ?_
            refine j_ior (pc := 94) dX8_led_94 ?_
            refine j_top (y := setI th m (stp (TA N K M) c e m)) (by rw [show (3 : Int32) = nI 3 from rfl, pk_mul]; rfl) ?_
            refine j_istore (pc := 95) dX8_led_95 (by decide) ?_
            refine j_iinc1 (pc := 97) dX8_led_97 rfl ?_
            refine j_goto (pc := 100) (tgt := 9) dX8_led_100 rfl ?_
            rw [nI_1]
            exact ih (m + 1) true _ _ (by omega) hn
        · have hn := skip_ (fun z => by
            unfold hasE at z
            rw [hS, ← hal, Bool.true_and] at z
            exact hA z)
          refine j_iload (pc := 9) dX8_led_9 rfl ?_
          refine j_aload_n (pc := 11) dX8_led_11 rfl ?_
          refine j_getI (pc := 12) dX8_led_12 f_X8_96 (by first | rfl | with_reducible assumption) (by rfl) ?_
          refine j_top hN ?_
          refine j_icmp_ge (pc := 15) (tgt := 103) dX8_led_15 rfl (fun h15 => absurd h15 (nI_ge hmN (by omega))) (fun h15 => ?_)
          refine j_iload_n (pc := 18) dX8_led_18 rfl ?_
          refine j_iload (pc := 19) dX8_led_19 rfl ?_
          refine j_callSi (pc := 21) dX8_led_21 k_X8_121 (c_X8_bit _ _ _) rfl (by decide) rfl (Nat.le_of_ble_eq_true rfl) (fun r σ1 hp => ?_)
          obtain ⟨rfl, rfl⟩ := hp
          refine j_top (y := 1) ((isin_iff (by omega)).mpr hS) ?_
          refine j_iconst (pc := 24) dX8_led_24 (v := 1) (by decide) ?_
          refine j_icmp_ne (pc := 25) (tgt := 97) dX8_led_25 rfl (fun h25 => absurd rfl h25) (fun h25 => ?_)
          refine j_aload_n (pc := 28) dX8_led_28 rfl ?_
          refine j_getR (pc := 29) dX8_led_29 f_X8_16 (by first | rfl | with_reducible assumption) (by rfl) ?_
          refine j_iload (pc := 32) dX8_led_32 rfl ?_
          refine j_iald (pc := 34) dX8_led_34 (by first | rfl | with_reducible assumption) hvm ?_
          rw [hcm]
          refine j_iload_n (pc := 35) dX8_led_35 rfl ?_
          refine j_callSi (pc := 36) dX8_led_36 k_X8_121 (c_X8_bit _ _ _) rfl (by decide) rfl (Nat.le_of_ble_eq_true rfl) (fun r σ1 hp => ?_)
          obtain ⟨rfl, rfl⟩ := hp
          refine j_iconst (pc := 39) dX8_led_39 (v := 1) (by decide) ?_
          refine j_icmp_ne (pc := 40) (tgt := 97) dX8_led_40 rfl (fun h40 => ?_) (fun h40 => absurd ((isin_iff (by omega)).mp h40) hA)
          refine j_iinc1 (pc := 97) dX8_led_97 rfl ?_
          refine j_goto (pc := 100) (tgt := 9) dX8_led_100 rfl ?_
          rw [nI_1]
          exact ih (m + 1) b th _ (by omega) hn
      · have hn := skip_ (fun z => hS (te_set z))
        refine j_iload (pc := 9) dX8_led_9 rfl ?_
        refine j_aload_n (pc := 11) dX8_led_11 rfl ?_
        refine j_getI (pc := 12) dX8_led_12 f_X8_96 (by first | rfl | with_reducible assumption) (by rfl) ?_
        refine j_top hN ?_
        refine j_icmp_ge (pc := 15) (tgt := 103) dX8_led_15 rfl (fun h15 => absurd h15 (nI_ge hmN (by omega))) (fun h15 => ?_)
        refine j_iload_n (pc := 18) dX8_led_18 rfl ?_
        refine j_iload (pc := 19) dX8_led_19 rfl ?_
        refine j_callSi (pc := 21) dX8_led_21 k_X8_121 (c_X8_bit _ _ _) rfl (by decide) rfl (Nat.le_of_ble_eq_true rfl) (fun r σ1 hp => ?_)
        obtain ⟨rfl, rfl⟩ := hp
        refine j_iconst (pc := 24) dX8_led_24 (v := 1) (by decide) ?_
        refine j_icmp_ne (pc := 25) (tgt := 97) dX8_led_25 rfl (fun h25 => ?_) (fun h25 => absurd ((isin_iff (by omega)).mp h25) hS)
        refine j_iinc1 (pc := 97) dX8_led_97 rfl ?_
        refine j_goto (pc := 100) (tgt := 9) dX8_led_100 rfl ?_
        rw [nI_1]
        exact ih (m + 1) b th _ (by omega) hn
  refine EV.intro (by decide +kernel) (Nat.le_of_ble_eq_true rfl) ?_
  refine j_iload_n (pc := 0) dX8_led_0 rfl ?_
  refine j_istore (pc := 1) dX8_led_1 (by decide) ?_
  refine j_iconst (pc := 3) dX8_led_3 (v := 0) (by decide) ?_
  refine j_istore (pc := 4) dX8_led_4 (by decide) ?_
  refine j_iconst (pc := 6) dX8_led_6 (v := 0) (by decide) ?_
  refine j_istore (pc := 7) dX8_led_7 (by decide) ?_
  exact loop N 0 false c none (by omega) rfl
theorem c_X8_numberOf (c : Int32) {J : Nat} (hJ : σ 0 11 = nI J) (hJ2 : J ≤ 150) : EV Γ2 0 yX8_numberOf cX8_numberOf 3 (some .int) [.inr 0, .inl c] σ (fun r σ' => σ = σ' ∧ ((∃ i, i < J ∧ σ 8 i = c ∧ r = nI i) ∨ ((∀ i, i < J → σ 8 i ≠ c) ∧ r = -9))) := by
  have loop : ∀ (k i : Nat), i + k = J → (∀ j, j < i → σ 8 j ≠ c) → AJ Γ2 0 RX8 cX8_numberOf 3 (some .int) (fun r σ' => σ = σ' ∧ ((∃ i, i < J ∧ σ 8 i = c ∧ r = nI i) ∨ ((∀ i, i < J → σ 8 i ≠ c) ∧ r = -9))) 2 [some (.inr 0), some (.inl c), some (.inl (nI i))] [] σ := by
    intro k
    induction k with
    | zero =>
      intro i hi hno
      obtain rfl : i = J := by omega
      refine j_iload_n (pc := 2) dX8_numberOf_2 rfl ?_
      refine j_aload_n (pc := 3) dX8_numberOf_3 rfl ?_
      refine j_getI (pc := 4) dX8_numberOf_4 f_X8_131 (by first | rfl | with_reducible assumption) (by rfl) ?_
      refine j_top hJ ?_
      refine j_icmp_ge (pc := 7) (tgt := 28) dX8_numberOf_7 rfl (fun h7 => ?_) (fun h7 => absurd (Int32.le_refl _) h7)
      refine j_bipush (pc := 28) dX8_numberOf_28 (v := (-9)) (by decide) ?_
      refine j_iret (pc := 30) dX8_numberOf_30 ?_
      exact ⟨rfl, Or.inr ⟨hno, rfl⟩⟩
    | succ k ih =>
      intro i hi hno
      have hci : (nI i).toNatClampNeg = i := nI_clamp (by omega)
      refine j_iload_n (pc := 2) dX8_numberOf_2 rfl ?_
      refine j_aload_n (pc := 3) dX8_numberOf_3 rfl ?_
      refine j_getI (pc := 4) dX8_numberOf_4 f_X8_131 (by first | rfl | with_reducible assumption) (by rfl) ?_
      refine j_top hJ ?_
      refine j_icmp_ge (pc := 7) (tgt := 28) dX8_numberOf_7 rfl (fun h7 => absurd h7 (nI_ge (by omega) (by omega))) (fun h7 => ?_)
      refine j_aload_n (pc := 10) dX8_numberOf_10 rfl ?_
      refine j_getR (pc := 11) dX8_numberOf_11 f_X8_31 (by first | rfl | with_reducible assumption) (by rfl) ?_
      refine j_iload_n (pc := 14) dX8_numberOf_14 rfl ?_
      refine j_iald (pc := 15) dX8_numberOf_15 (by first | rfl | with_reducible assumption) (vp_in_nI (by omega) (by decide)) ?_
      rw [hci]
      refine j_iload_n (pc := 16) dX8_numberOf_16 rfl ?_
      refine j_icmp_ne (pc := 17) (tgt := 22) dX8_numberOf_17 rfl (fun h17 => ?_) (fun h17 => ?_)
      · refine j_iinc1 (pc := 22) dX8_numberOf_22 rfl ?_
        refine j_goto (pc := 25) (tgt := 2) dX8_numberOf_25 rfl ?_
        rw [nI_1]
        refine ih (i + 1) (by omega) (fun j hj => ?_)
        by_cases z : j = i
        · subst z; exact h17
        · exact hno j (by omega)
      · refine j_iload_n (pc := 20) dX8_numberOf_20 rfl ?_
        refine j_iret (pc := 21) dX8_numberOf_21 ?_
        exact ⟨rfl, Or.inl ⟨i, by omega, h17, rfl⟩⟩
  refine EV.intro (by decide +kernel) (Nat.le_of_ble_eq_true rfl) ?_
  refine j_iconst (pc := 0) dX8_numberOf_0 (v := 0) (by decide) ?_
  refine j_istore_n (pc := 1) dX8_numberOf_1 (by decide) ?_
  exact loop J 0 (by omega) (fun j hj => absurd hj (Nat.not_lt_zero _))
def B2 (σ : Mm) (T : Tab) (set : Int32) (x : Nat) : Prop := (csx T set x).length ≤ 150 ∧ σ 0 11 = nI (csx T set x).length ∧ (∀ i c, (csx T set x)[i]? = some c → σ 8 i = c) ∧ ∀ y, y < x → σ 9 y = toX T set y
def FrB (σ σ' : Mm) : Prop := (∀ x, x ≠ 0 → x ≠ 8 → x ≠ 9 → σ' x = σ x) ∧ ∀ k, k ≠ 11 → σ' 0 k = σ 0 k
theorem FrB.rf : FrB σ σ := ⟨fun _ _ _ _ => rfl, fun _ _ => rfl⟩
theorem FrB.uj {σ' : Mm} {v : Int32} (h : FrB σ σ') : FrB σ (m_up σ' 0 11 v) := ⟨fun x a b c => (m_ne a).trans (h.1 x a b c), fun k a => (m_nk a).trans (h.2 k a)⟩
theorem FrB.u8 {σ' : Mm} {k : Nat} {v : Int32} (h : FrB σ σ') : FrB σ (m_up σ' 8 k v) := ⟨fun x a b c => (m_ne b).trans (h.1 x a b c), fun k a => by rw [m_ne (by decide)]; exact h.2 k a⟩
theorem FrB.u9 {σ' : Mm} {k : Nat} {v : Int32} (h : FrB σ σ') : FrB σ (m_up σ' 9 k v) := ⟨fun x a b c => (m_ne c).trans (h.1 x a b c), fun k a => by rw [m_ne (by decide)]; exact h.2 k a⟩
theorem R2b.frB {σ' : Mm} (hb : R2b σ n t N K M) (h : FrB σ σ') : R2b σ' n t N K M := by
  obtain ⟨a1, a2, a3, a4, a5, a6⟩ := hb
  refine ⟨by rw [h.2 1 (by decide)]; exact a1, a2, by rw [h.1 1 (by decide) (by decide) (by decide)]; exact a3, by rw [h.2 2 (by decide)]; exact a4, a5, fun m hm => ?_⟩
  obtain ⟨x, y, z⟩ := a6 m hm
  exact ⟨x.cells (fun x _ _ => h.1 x (by omega) (by omega) (by omega)), by rw [h.1 2 (by decide) (by decide) (by decide)]; exact y, z⟩
theorem okC_9 {c : Int32} (h : okC c) : c ≠ -9 := by
  rintro rfl
  exact absurd (h 0 (by decide)) (by decide)
def buildP (σ : Mm) (T : Tab) (set : Int32) : Int32 → Mm → Prop := fun r σ' => FrB σ σ' ∧ (r = 0 ∨ r = 1) ∧ ((Over T set ∧ r = 0 ∧ σ' 0 11 = 0) ∨ (¬ Over T set ∧ r = 1 ∧ NG2 σ' T set))
theorem B2.done {T : Tab} {x : Nat} (h : B2 σ T set (8 * x)) (hx : (csx T set (8 * x)).length = x) : ¬ Over T set ∧ NG2 σ T set := by
  obtain ⟨h1, h2, h3, h4⟩ := h
  have hst := csx_stop T set (x := 8 * x) (by omega) 1200 (by omega)
  have hJ : gJ T set = x := by unfold gJ; rw [gX_eq, hst, hx]
  refine ⟨by unfold Over; rw [hst]; omega, ?_⟩
  unfold NG2
  rw [hJ]
  refine ⟨by omega, by rw [h2, hx], fun n hn => ?_, h4⟩
  have hl : n < (csx T set (8 * x)).length := by omega
  refine h3 n _ ?_
  rw [List.getElem?_eq_getElem hl]
  unfold gC
  rw [gX_eq, hst, List.getElem?_eq_getElem hl]
  rfl
end Build
