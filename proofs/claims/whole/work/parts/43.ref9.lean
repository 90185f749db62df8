/-! LEASTBARSMODEL: pushes, losesPushed, findEnds, losesStuck -/
section Push
variable {σ : Mm} {J : Nat} {tg : Nat → Int32} {fs : Int32}
theorem c_X8_pushes {W : Nat → Int32} {k n : Nat} (hJ : J ≤ 150) (hn : n < J) (ht : ∀ y, y < 8 * J → σ 9 y = tg y) (htr : ∀ y, y < 8 * J → tg y = -9 ∨ ∃ m, m < J ∧ tg y = nI m) (hfs : σ 0 9 = fs) (hw : ∀ m, m < J → ((σ 10 m ≠ -9 ∧ σ 10 m < nI k) ↔ W m ≠ -9)) : EV Γ2 1 yX8_pushes cX8_pushes 5 (some .int) [.inr 0, .inl (nI n), .inl (nI k)] σ (vz (puE J tg (fun e => bt fs e) W n) σ) := by
  have loop : ∀ (q e : Nat) (w : Option Vl), e + q = 8 → (∀ j, j < e → (bt fs j && isL J W (tg (8 * n + j))) = false) → AJ Γ2 1 RX8 cX8_pushes 5 (some .int) (vz (puE J tg (fun e => bt fs e) W n) σ) 2 [some (.inr 0), some (.inl (nI n)), some (.inl (nI k)), some (.inl (nI e)), w] [] σ := by
    intro q
    induction q with
    | zero =>
      intro e w he hno
      obtain rfl : e = 8 := by omega
      refine j_iload_n (pc := 2) dX8_pushes_2 rfl ?_
      refine j_bipush (pc := 3) dX8_pushes_3 (v := 8) (by decide) ?_
      refine j_icmp_ge (pc := 5) (tgt := 71) dX8_pushes_5 rfl (fun h5 => ?_) (fun h5 => absurd (by decide) h5)
      refine j_bipush (pc := 71) dX8_pushes_71 (v := (-9)) (by decide) ?_
      refine j_iret (pc := 73) dX8_pushes_73 ?_
      exact ⟨rfl, (lst_none hno).symm⟩
    | succ q ih =>
      intro e w he hno
      have hx8 : (8 : Int32) * nI n + nI e = nI (8 * n + e) := by rw [show (8 : Int32) = nI 8 from rfl, pk_mul, nI_add]
      have hcx : (nI (8 * n + e)).toNatClampNeg = 8 * n + e := nI_clamp (by omega)
      have hto : σ 9 (nI (8 * n + e)).toNatClampNeg = tg (8 * n + e) := by rw [hcx]; exact ht _ (by omega)
      have step : (bt fs e && isL J W (tg (8 * n + e))) = false → ∀ w, AJ Γ2 1 RX8 cX8_pushes 5 (some .int) (vz (puE J tg (fun e => bt fs e) W n) σ) 2 [some (.inr 0), some (.inl (nI n)), some (.inl (nI k)), some (.inl (nI (e + 1))), w] [] σ := fun z w => ih (e + 1) w (by omega) (fun j hj => by
        by_cases y : j = e
        · subst y; exact z
        · exact hno j (by omega))
      rcases htr (8 * n + e) (by omega) with hz | ⟨m, hm, hz⟩
      · have hL : isL J W (tg (8 * n + e)) = false := by rw [hz]; unfold isL; rw [inR_9]; rfl
        refine j_iload_n (pc := 2) dX8_pushes_2 rfl ?_
        refine j_bipush (pc := 3) dX8_pushes_3 (v := 8) (by decide) ?_
        refine j_icmp_ge (pc := 5) (tgt := 71) dX8_pushes_5 rfl (fun h5 => absurd h5 (nI_ge (b := 8) (by omega) (by decide))) (fun h5 => ?_)
        refine j_aload_n (pc := 8) dX8_pushes_8 rfl ?_
        refine j_getR (pc := 9) dX8_pushes_9 f_X8_34 (by first | rfl | with_reducible assumption) (by rfl) ?_
        refine j_bipush (pc := 12) dX8_pushes_12 (v := 8) (by decide) ?_
        refine j_iload_n (pc := 14) dX8_pushes_14 rfl ?_
        refine j_imul (pc := 15) dX8_pushes_15 ?_
        refine j_iload_n (pc := 16) dX8_pushes_16 rfl ?_
        refine j_iadd (pc := 17) dX8_pushes_17 ?_
        refine j_top hx8 ?_
        refine j_iald (pc := 18) dX8_pushes_18 (by first | rfl | with_reducible assumption) (vp_in_nI (by omega) (by decide)) ?_
        refine j_top (hto.trans hz) ?_
        refine j_istore (pc := 19) dX8_pushes_19 (by decide) ?_
        refine j_aload_n (pc := 21) dX8_pushes_21 rfl ?_
        refine j_getI (pc := 22) dX8_pushes_22 f_X8_118 (by first | rfl | with_reducible assumption) (by rfl) ?_
        refine j_top hfs ?_
        refine j_iload_n (pc := 25) dX8_pushes_25 rfl ?_
        refine j_callSi (pc := 26) dX8_pushes_26 k_X8_121 (c_X8_bit _ _ _) rfl (by decide) rfl (Nat.le_of_ble_eq_true rfl) (fun r σ1 hp => ?_)
        obtain ⟨rfl, rfl⟩ := hp
        refine j_iconst (pc := 29) dX8_pushes_29 (v := 1) (by decide) ?_
        refine j_icmp_ne (pc := 30) (tgt := 65) dX8_pushes_30 rfl (fun h30 => ?_) (fun h30 => ?_)
        · refine j_iinc1 (pc := 65) dX8_pushes_65 rfl ?_
          refine j_goto (pc := 68) (tgt := 2) dX8_pushes_68 rfl ?_
          rw [nI_1]
          exact step (by rw [hL, Bool.and_false]) _
        · refine j_iload (pc := 33) dX8_pushes_33 rfl ?_
          refine j_bipush (pc := 35) dX8_pushes_35 (v := (-9)) (by decide) ?_
          refine j_icmp_eq (pc := 37) (tgt := 65) dX8_pushes_37 rfl (fun h37 => ?_) (fun h37 => absurd rfl h37)
          refine j_iinc1 (pc := 65) dX8_pushes_65 rfl ?_
          refine j_goto (pc := 68) (tgt := 2) dX8_pushes_68 rfl ?_
          rw [nI_1]
          exact step (by rw [hL, Bool.and_false]) _
      · have hcm : (nI m).toNatClampNeg = m := nI_clamp (by omega)
        have hvm : vp_in (nI m) 150 := vp_in_nI (by omega) (by decide)
        have hL : isL J W (tg (8 * n + e)) = decide (W m ≠ -9) := by rw [hz]; unfold isL; rw [inR_nI hm (by omega), hcm, Bool.true_and]
        refine j_iload_n (pc := 2) dX8_pushes_2 rfl ?_
        refine j_bipush (pc := 3) dX8_pushes_3 (v := 8) (by decide) ?_
        refine j_icmp_ge (pc := 5) (tgt := 71) dX8_pushes_5 rfl (fun h5 => absurd h5 (nI_ge (b := 8) (by omega) (by decide))) (fun h5 => ?_)
        refine j_aload_n (pc := 8) dX8_pushes_8 rfl ?_
        refine j_getR (pc := 9) dX8_pushes_9 f_X8_34 (by first | rfl | with_reducible assumption) (by rfl) ?_
        refine j_bipush (pc := 12) dX8_pushes_12 (v := 8) (by decide) ?_
        refine j_iload_n (pc := 14) dX8_pushes_14 rfl ?_
        refine j_imul (pc := 15) dX8_pushes_15 ?_
        refine j_iload_n (pc := 16) dX8_pushes_16 rfl ?_
        refine j_iadd (pc := 17) dX8_pushes_17 ?_
        refine j_top hx8 ?_
        refine j_iald (pc := 18) dX8_pushes_18 (by first | rfl | with_reducible assumption) (vp_in_nI (by omega) (by decide)) ?_
        refine j_top (hto.trans hz) ?_
        refine j_istore (pc := 19) dX8_pushes_19 (by decide) ?_
        refine j_aload_n (pc := 21) dX8_pushes_21 rfl ?_
        refine j_getI (pc := 22) dX8_pushes_22 f_X8_118 (by first | rfl | with_reducible assumption) (by rfl) ?_
        refine j_top hfs ?_
        refine j_iload_n (pc := 25) dX8_pushes_25 rfl ?_
        refine j_callSi (pc := 26) dX8_pushes_26 k_X8_121 (c_X8_bit _ _ _) rfl (by decide) rfl (Nat.le_of_ble_eq_true rfl) (fun r σ1 hp => ?_)
        obtain ⟨rfl, rfl⟩ := hp
        refine j_iconst (pc := 29) dX8_pushes_29 (v := 1) (by decide) ?_
        refine j_icmp_ne (pc := 30) (tgt := 65) dX8_pushes_30 rfl (fun h30 => ?_) (fun h30 => ?_)
        · refine j_iinc1 (pc := 65) dX8_pushes_65 rfl ?_
          refine j_goto (pc := 68) (tgt := 2) dX8_pushes_68 rfl ?_
          rw [nI_1]
          refine step ?_ _
          rw [hL]
          first
            | (rw [show bt fs e = false from by simpa using (fun z : bt fs e = true => h30 ((isin_iff (by omega)).mpr z)), Bool.false_and]; done)
            | (rw [decide_eq_false (fun z => ((hw m hm).mpr z).1 h49), Bool.and_false]; done)
            | (rw [decide_eq_false (fun z => absurd ((hw m hm).mpr z).2 (by (simp only [Int32.lt_iff_toInt_lt, Int32.le_iff_toInt_le, ← Int32.toInt_inj, vp_in_iff, ti_0, ti_1, ti_2, ti_3, ti_4, ti_5, ti_6, ti_7, ti_8, ti_16, ti_48, ti_53, ti_60, ti_97, ti_104, ti_127, ti_149, ti_150, ti_151, ti_256, ti_1200, ti_m1, ti_m2, ti_m3, ti_m4, ti_m9] at *; omega))), Bool.and_false]; done)
        · refine j_iload (pc := 33) dX8_pushes_33 rfl ?_
          refine j_bipush (pc := 35) dX8_pushes_35 (v := (-9)) (by decide) ?_
          refine j_icmp_eq (pc := 37) (tgt := 65) dX8_pushes_37 rfl (fun h37 => absurd h37 (nI_z (by omega))) (fun h37 => ?_)
          refine j_aload_n (pc := 40) dX8_pushes_40 rfl ?_
          refine j_getR (pc := 41) dX8_pushes_41 f_X8_37 (by first | rfl | with_reducible assumption) (by rfl) ?_
          refine j_iload (pc := 44) dX8_pushes_44 rfl ?_
          refine j_iald (pc := 46) dX8_pushes_46 (by first | rfl | with_reducible assumption) hvm ?_
          rw [hcm]
          refine j_bipush (pc := 47) dX8_pushes_47 (v := (-9)) (by decide) ?_
          refine j_icmp_eq (pc := 49) (tgt := 65) dX8_pushes_49 rfl (fun h49 => ?_) (fun h49 => ?_)
          · refine j_iinc1 (pc := 65) dX8_pushes_65 rfl ?_
            refine j_goto (pc := 68) (tgt := 2) dX8_pushes_68 rfl ?_
            rw [nI_1]
            refine step ?_ _
            rw [hL]
            first
              | (rw [show bt fs e = false from by simpa using (fun z : bt fs e = true => h30 ((isin_iff (by omega)).mpr z)), Bool.false_and]; done)
              | (rw [decide_eq_false (fun z => ((hw m hm).mpr z).1 h49), Bool.and_false]; done)
              | (rw [decide_eq_false (fun z => absurd ((hw m hm).mpr z).2 (by (simp only [Int32.lt_iff_toInt_lt, Int32.le_iff_toInt_le, ← Int32.toInt_inj, vp_in_iff, ti_0, ti_1, ti_2, ti_3, ti_4, ti_5, ti_6, ti_7, ti_8, ti_16, ti_48, ti_53, ti_60, ti_97, ti_104, ti_127, ti_149, ti_150, ti_151, ti_256, ti_1200, ti_m1, ti_m2, ti_m3, ti_m4, ti_m9] at *; omega))), Bool.and_false]; done)
          · refine j_aload_n (pc := 52) dX8_pushes_52 rfl ?_
            refine j_getR (pc := 53) dX8_pushes_53 f_X8_37 (by first | rfl | with_reducible assumption) (by rfl) ?_
            refine j_iload (pc := 56) dX8_pushes_56 rfl ?_
            refine j_iald (pc := 58) dX8_pushes_58 (by first | rfl | with_reducible assumption) hvm ?_
            rw [hcm]
            refine j_iload_n (pc := 59) dX8_pushes_59 rfl ?_
            refine j_icmp_ge (pc := 60) (tgt := 65) dX8_pushes_60 rfl (fun h60 => ?_) (fun h60 => ?_)
            · refine j_iinc1 (pc := 65) dX8_pushes_65 rfl ?_
              refine j_goto (pc := 68) (tgt := 2) dX8_pushes_68 rfl ?_
              rw [nI_1]
              refine step ?_ _
              rw [hL]
              first
                | (rw [show bt fs e = false from by simpa using (fun z : bt fs e = true => h30 ((isin_iff (by omega)).mpr z)), Bool.false_and]; done)
                | (rw [decide_eq_false (fun z => ((hw m hm).mpr z).1 h49), Bool.and_false]; done)
                | (rw [decide_eq_false (fun z => absurd ((hw m hm).mpr z).2 (by (simp only [Int32.lt_iff_toInt_lt, Int32.le_iff_toInt_le, ← Int32.toInt_inj, vp_in_iff, ti_0, ti_1, ti_2, ti_3, ti_4, ti_5, ti_6, ti_7, ti_8, ti_16, ti_48, ti_53, ti_60, ti_97, ti_104, ti_127, ti_149, ti_150, ti_151, ti_256, ti_1200, ti_m1, ti_m2, ti_m3, ti_m4, ti_m9] at *; omega))), Bool.and_false]; done)
            · refine j_iload_n (pc := 63) dX8_pushes_63 rfl ?_
              refine j_iret (pc := 64) dX8_pushes_64 ?_
              refine ⟨rfl, (lst_hit (by omega) ?_ hno).symm⟩
              show (bt fs e && isL J W (tg (8 * n + e))) = true
              rw [hL, (isin_iff (by omega)).mp h30, decide_eq_true ((hw m hm).mp ⟨h49, by (simp only [Int32.lt_iff_toInt_lt, Int32.le_iff_toInt_le, ← Int32.toInt_inj, vp_in_iff, ti_0, ti_1, ti_2, ti_3, ti_4, ti_5, ti_6, ti_7, ti_8, ti_16, ti_48, ti_53, ti_60, ti_97, ti_104, ti_127, ti_149, ti_150, ti_151, ti_256, ti_1200, ti_m1, ti_m2, ti_m3, ti_m4, ti_m9] at *; omega)⟩)]
              rfl
  refine EV.intro (by decide +kernel) (Nat.le_of_ble_eq_true rfl) ?_
  refine j_iconst (pc := 0) dX8_pushes_0 (v := 0) (by decide) ?_
  refine j_istore_n (pc := 1) dX8_pushes_1 (by decide) ?_
  exact loop 8 0 _ rfl (fun j hj => absurd hj (Nat.not_lt_zero _))
/-- losesPushed: the wave k, by pushing -/
theorem c_X8_losesPushed {W : LT} {k : Nat} (hJ : J ≤ 150) (hJ2 : σ 0 11 = nI J) (ht : ∀ y, y < 8 * J → σ 9 y = tg y) (htr : ∀ y, y < 8 * J → tg y = -9 ∨ ∃ m, m < J ∧ tg y = nI m) (hfs : σ 0 9 = fs) (hk : k < 2 ^ 31) (hWk : ∀ m, m < J → W.1 m = -9 ∨ ∃ i, i < k ∧ W.1 m = nI i) (hL : LW2 σ J W) : EV Γ2 2 yX8_losesPushed cX8_losesPushed 5 (some .boolean) [.inr 0, .inl (nI k)] σ (fun r σ' => FrX σ σ' ∧ LW2 σ' J (pushT J tg (fun e => bt fs e) W k) ∧ ((r = 1 ∧ anyP J tg (fun e => bt fs e) W) ∨ (r = 0 ∧ ¬ anyP J tg (fun e => bt fs e) W))) := by
  have key : ∀ (σ' : Mm) (n : Nat), LX σ' J n W (pushT J tg (fun e => bt fs e) W k) → ∀ m, m < J → ((σ' 10 m ≠ -9 ∧ σ' 10 m < nI k) ↔ W.1 m ≠ -9) := by
    intro σ' n hX m hm
    have old : σ' 10 m = W.1 m → ((σ' 10 m ≠ -9 ∧ σ' 10 m < nI k) ↔ W.1 m ≠ -9) := fun z => by
      rw [z]
      refine ⟨fun y => y.1, fun y => ⟨y, ?_⟩⟩
      rcases hWk m hm with a | ⟨i, hi, a⟩
      · exact absurd a y
      · rw [a]; exact (nI_ltI (by omega) hk).mpr hi
    by_cases hmn : m < n
    · have h1 := ((hX m hm).1 hmn).1
      by_cases hc : W.1 m = -9 ∧ puE J tg (fun e => bt fs e) W.1 m ≠ -9
      · rw [show (pushT J tg (fun e => bt fs e) W k).1 m = nI k from if_pos hc] at h1
        rw [h1]
        exact ⟨fun z => absurd z.2 (by (simp only [Int32.lt_iff_toInt_lt, Int32.le_iff_toInt_le, ← Int32.toInt_inj, vp_in_iff, ti_0, ti_1, ti_2, ti_3, ti_4, ti_5, ti_6, ti_7, ti_8, ti_16, ti_48, ti_53, ti_60, ti_97, ti_104, ti_127, ti_149, ti_150, ti_151, ti_256, ti_1200, ti_m1, ti_m2, ti_m3, ti_m4, ti_m9] at *; omega)), fun z => absurd hc.1 z⟩
      · exact old (h1.trans (if_neg hc))
    · exact old ((hX m hm).2 (by omega)).1
  have loop : ∀ (q n : Nat) (σ' : Mm) (x : Int32) (w : Option Vl), n + q = J → FrX σ σ' → LX σ' J n W (pushT J tg (fun e => bt fs e) W k) → ((x = 1 ∧ ∃ i, i < n ∧ W.1 i = -9 ∧ puE J tg (fun e => bt fs e) W.1 i ≠ -9) ∨ (x = 0 ∧ ∀ i, i < n → ¬ (W.1 i = -9 ∧ puE J tg (fun e => bt fs e) W.1 i ≠ -9))) → AJ Γ2 2 RX8 cX8_losesPushed 5 (some .boolean) (fun r σ' => FrX σ σ' ∧ LW2 σ' J (pushT J tg (fun e => bt fs e) W k) ∧ ((r = 1 ∧ anyP J tg (fun e => bt fs e) W) ∨ (r = 0 ∧ ¬ anyP J tg (fun e => bt fs e) W))) 4 [some (.inr 0), some (.inl (nI k)), some (.inl x), some (.inl (nI n)), w] [] σ' := by
    intro q
    induction q with
    | zero =>
      intro n σ' x w hq hF hX hx
      obtain rfl : n = J := by omega
      have hx01 : x = 0 ∨ x = 1 := hx.elim (fun z => Or.inr z.1) (fun z => Or.inl z.1)
      refine j_iload_n (pc := 4) dX8_losesPushed_4 rfl ?_
      refine j_aload_n (pc := 5) dX8_losesPushed_5 rfl ?_
      refine j_getI (pc := 6) dX8_losesPushed_6 f_X8_131 (by first | rfl | with_reducible assumption) (by rfl) ?_
      refine j_top (y := nI n) (by rw [hF 0 (by decide)]; exact hJ2) ?_
      refine j_icmp_ge (pc := 9) (tgt := 60) dX8_losesPushed_9 rfl (fun h9 => ?_) (fun h9 => absurd (Int32.le_refl _) h9)
      refine j_iload_n (pc := 60) dX8_losesPushed_60 rfl ?_
      refine j_zret (pc := 61) dX8_losesPushed_61 hx01 ?_
      refine ⟨hF, hX.done, ?_⟩
      rcases hx with ⟨a, i, b, c⟩ | ⟨a, b⟩
      · exact Or.inl ⟨a, i, b, c⟩
      · exact Or.inr ⟨a, fun ⟨i, hi, c⟩ => b i hi c⟩
    | succ q ih =>
      intro n σ' x w hq hF hX hx
      have hnJ : n < J := by omega
      have hcn : (nI n).toNatClampNeg = n := nI_clamp (by omega)
      have hvn : vp_in (nI n) 150 := vp_in_nI (by omega) (by decide)
      have hWn := (hX n hnJ).2 (Nat.le_refl _)
      have same : ¬ (W.1 n = -9 ∧ puE J tg (fun e => bt fs e) W.1 n ≠ -9) → ∀ w, AJ Γ2 2 RX8 cX8_losesPushed 5 (some .boolean) (fun r σ' => FrX σ σ' ∧ LW2 σ' J (pushT J tg (fun e => bt fs e) W k) ∧ ((r = 1 ∧ anyP J tg (fun e => bt fs e) W) ∨ (r = 0 ∧ ¬ anyP J tg (fun e => bt fs e) W))) 4 [some (.inr 0), some (.inl (nI k)), some (.inl x), some (.inl (nI (n + 1))), w] [] σ' := fun hc w => by
        refine ih (n + 1) σ' x w (by omega) hF (hX.keep hnJ (if_neg hc) (fun _ => ⟨if_neg hc, if_neg hc⟩)) ?_
        rcases hx with ⟨a, i, b, c⟩ | ⟨a, b⟩
        · exact Or.inl ⟨a, i, by omega, c⟩
        · refine Or.inr ⟨a, fun i hi => ?_⟩
          by_cases y : i = n
          · subst y; exact hc
          · exact b i (by omega)
      by_cases hw9 : W.1 n = -9
      · refine j_iload_n (pc := 4) dX8_losesPushed_4 rfl ?_
        refine j_aload_n (pc := 5) dX8_losesPushed_5 rfl ?_
        refine j_getI (pc := 6) dX8_losesPushed_6 f_X8_131 (by first | rfl | with_reducible assumption) (by rfl) ?_
        refine j_top (y := nI J) (by rw [hF 0 (by decide)]; exact hJ2) ?_
        refine j_icmp_ge (pc := 9) (tgt := 60) dX8_losesPushed_9 rfl (fun h9 => absurd h9 (nI_ge (by omega) (by omega))) (fun h9 => ?_)
        refine j_aload_n (pc := 12) dX8_losesPushed_12 rfl ?_
        refine j_getR (pc := 13) dX8_losesPushed_13 f_X8_37 (by first | rfl | with_reducible assumption) (by rfl) ?_
        refine j_iload_n (pc := 16) dX8_losesPushed_16 rfl ?_
        refine j_iald (pc := 17) dX8_losesPushed_17 (by first | rfl | with_reducible assumption) hvn ?_
        refine j_top (y := -9) (by rw [hcn, hWn.1]; exact hw9) ?_
        refine j_bipush (pc := 18) dX8_losesPushed_18 (v := (-9)) (by decide) ?_
        refine j_icmp_ne (pc := 20) (tgt := 32) dX8_losesPushed_20 rfl (fun h20 => absurd rfl h20) (fun h20 => ?_)
        refine j_aload_n (pc := 23) dX8_losesPushed_23 rfl ?_
        refine j_iload_n (pc := 24) dX8_losesPushed_24 rfl ?_
        refine j_iload_n (pc := 25) dX8_losesPushed_25 rfl ?_
        refine j_callVi (pc := 26) dX8_losesPushed_26 k_X8_149 (c_X8_pushes (W := W.1) (k := k) (n := n) (fs := fs) hJ hnJ (by rw [hF 9 (by decide)]; exact ht) htr (by rw [hF 0 (by decide)]; exact hfs) (key σ' n hX)) (by first | rfl | with_reducible assumption) rfl rfl (by decide) rfl (Nat.le_of_ble_eq_true rfl) (fun r σ1 hp => ?_)
        obtain ⟨rfl, rfl⟩ := hp
        refine j_goto (pc := 29) (tgt := 34) dX8_losesPushed_29 rfl ?_
        refine j_istore (pc := 34) dX8_losesPushed_34 (by decide) ?_
        refine j_iload (pc := 36) dX8_losesPushed_36 rfl ?_
        refine j_bipush (pc := 38) dX8_losesPushed_38 (v := (-9)) (by decide) ?_
        refine j_icmp_eq (pc := 40) (tgt := 54) dX8_losesPushed_40 rfl (fun h40 => ?_) (fun h40 => ?_)
        · refine j_iinc1 (pc := 54) dX8_losesPushed_54 rfl ?_
          refine j_goto (pc := 57) (tgt := 4) dX8_losesPushed_57 rfl ?_
          rw [nI_1]
          first
            | exact same (fun z => z.2 h40) _
            | (have hc : W.1 n = -9 ∧ puE J tg (fun e => bt fs e) W.1 n ≠ -9 := ⟨hw9, h40⟩
               exact ih (n + 1) _ 1 _ (by omega) (((hF.up (by decide)).up (by decide)).up (by decide)) (hX.lose hnJ (if_pos hc) (if_pos hc) (if_pos hc)) (Or.inl ⟨rfl, n, by omega, hc⟩))
        · refine j_aload_n (pc := 43) dX8_losesPushed_43 rfl ?_
          refine j_iload_n (pc := 44) dX8_losesPushed_44 rfl ?_
          refine j_iload_n (pc := 45) dX8_losesPushed_45 rfl ?_
          refine j_iconst (pc := 46) dX8_losesPushed_46 (v := 2) (by decide) ?_
          refine j_iload (pc := 47) dX8_losesPushed_47 rfl ?_
          refine j_callVv (pc := 49) dX8_losesPushed_49 k_X8_145 (c_X8_loses (by omega) _ _ _ _) (by first | rfl | with_reducible assumption) rfl rfl (by decide) rfl (Nat.le_of_ble_eq_true rfl) (fun σ1 hp => ?_)
          obtain rfl := hp
          refine j_iconst (pc := 52) dX8_losesPushed_52 (v := 1) (by decide) ?_
          refine j_istore_n (pc := 53) dX8_losesPushed_53 (by decide) ?_
          refine j_iinc1 (pc := 54) dX8_losesPushed_54 rfl ?_
          refine j_goto (pc := 57) (tgt := 4) dX8_losesPushed_57 rfl ?_
          rw [nI_1]
          first
            | exact same (fun z => z.2 h40) _
            | (have hc : W.1 n = -9 ∧ puE J tg (fun e => bt fs e) W.1 n ≠ -9 := ⟨hw9, h40⟩
               exact ih (n + 1) _ 1 _ (by omega) (((hF.up (by decide)).up (by decide)).up (by decide)) (hX.lose hnJ (if_pos hc) (if_pos hc) (if_pos hc)) (Or.inl ⟨rfl, n, by omega, hc⟩))
      · refine j_iload_n (pc := 4) dX8_losesPushed_4 rfl ?_
        refine j_aload_n (pc := 5) dX8_losesPushed_5 rfl ?_
        refine j_getI (pc := 6) dX8_losesPushed_6 f_X8_131 (by first | rfl | with_reducible assumption) (by rfl) ?_
        refine j_top (y := nI J) (by rw [hF 0 (by decide)]; exact hJ2) ?_
        refine j_icmp_ge (pc := 9) (tgt := 60) dX8_losesPushed_9 rfl (fun h9 => absurd h9 (nI_ge (by omega) (by omega))) (fun h9 => ?_)
        refine j_aload_n (pc := 12) dX8_losesPushed_12 rfl ?_
        refine j_getR (pc := 13) dX8_losesPushed_13 f_X8_37 (by first | rfl | with_reducible assumption) (by rfl) ?_
        refine j_iload_n (pc := 16) dX8_losesPushed_16 rfl ?_
        refine j_iald (pc := 17) dX8_losesPushed_17 (by first | rfl | with_reducible assumption) hvn ?_
        refine j_top (y := W.1 n) (by rw [hcn, hWn.1]) ?_
        refine j_bipush (pc := 18) dX8_losesPushed_18 (v := (-9)) (by decide) ?_
        refine j_icmp_ne (pc := 20) (tgt := 32) dX8_losesPushed_20 rfl (fun h20 => ?_) (fun h20 => absurd h20 hw9)
        refine j_bipush (pc := 32) dX8_losesPushed_32 (v := (-9)) (by decide) ?_
        refine j_istore (pc := 34) dX8_losesPushed_34 (by decide) ?_
        refine j_iload (pc := 36) dX8_losesPushed_36 rfl ?_
        refine j_bipush (pc := 38) dX8_losesPushed_38 (v := (-9)) (by decide) ?_
        refine j_icmp_eq (pc := 40) (tgt := 54) dX8_losesPushed_40 rfl (fun h40 => ?_) (fun h40 => absurd rfl h40)
        refine j_iinc1 (pc := 54) dX8_losesPushed_54 rfl ?_
        refine j_goto (pc := 57) (tgt := 4) dX8_losesPushed_57 rfl ?_
        rw [nI_1]
        exact same (fun z => hw9 z.1) _
  refine EV.intro (by decide +kernel) (Nat.le_of_ble_eq_true rfl) ?_
  refine j_iconst (pc := 0) dX8_losesPushed_0 (v := 0) (by decide) ?_
  refine j_istore_n (pc := 1) dX8_losesPushed_1 (by decide) ?_
  refine j_iconst (pc := 2) dX8_losesPushed_2 (v := 0) (by decide) ?_
  refine j_istore_n (pc := 3) dX8_losesPushed_3 (by decide) ?_
  exact loop J 0 σ 0 _ (by omega) FrX.rf (LX.start hL) (Or.inr ⟨rfl, fun i hi => absurd hi (Nat.not_lt_zero _)⟩)
end Push
