/-! LEASTBARSMODEL: some -/
section SomeR
variable {σ : Mm} {n0 : Nat} {t : Nat → Int32} {N : Nat} {K : Nat → Int32} {M : Nat → MV} {fs : Int32} {h : List Int32} {pl : Int32}
theorem R2.unk {σ' : Mm} (q : R2 σ n0 t N K M fs h pl) (h1 : ∀ x, (0 < x ∧ x < 8) ∨ x = 15 → σ' x = σ x) (h0 : ∀ f, f ≠ 11 → f ≠ 14 → f ≠ 20 → σ' 0 f = σ 0 f) (h14 : σ' 0 14 = 0) : R2 σ' n0 t N K M fs h pl := by
  obtain ⟨⟨b1, b2, b3, b4, b5, b6⟩, hfs, hD, hTr, hTV⟩ := q
  refine ⟨⟨by rw [h0 1 (by decide) (by decide) (by decide)]; exact b1, b2, by rw [h1 1 (by decide)]; exact b3, by rw [h0 2 (by decide) (by decide) (by decide)]; exact b4, b5, fun m hm => ?_⟩, by rw [h0 9 (by decide) (by decide) (by decide)]; exact hfs, Or.inl h14, hTr.cells (h0 21 (by decide) (by decide) (by decide)) (h0 22 (by decide) (by decide) (by decide)) (h1 15 (by decide)), hTV⟩
  obtain ⟨x, y, z⟩ := b6 m hm
  exact ⟨x.cells (fun x _ _ => h1 x (by omega)), by rw [h1 2 (by decide)]; exact y, z⟩
def somP2 (T : Tab) (N : Nat) (set what : Int32) (R : Mm → Prop) : Int32 → Mm → Prop := fun r σ' => (¬ (inR (2 ^ N) set = true ∧ inR 2 what = true) ∧ r = -2 ∧ R σ') ∨ (inR (2 ^ N) set = true ∧ inR 2 what = true ∧ someP T set what r ∧ R σ')
theorem c_X8_some (set what : Int32) (q : R2 σ n0 t N K M fs h pl) : EV Γ2 3 yX8_some cX8_some 5 (some .int) [.inr 0, .inl set, .inl what] σ (somP2 (TA N K M) N set what (fun σ' => R2 σ' n0 t N K M fs h pl)) := by
  have hN := q.1.2.2.2.1
  have h6 := q.1.2.2.2.2.1
  have h64 := p2_le h6
  have tA : (allS N).toInt = (2 ^ N : Nat) - 1 := by
    unfold allS
    rw [nI_toInt (by omega)]
    omega
  have main : ∀ p, p < 2 ^ N → set = nI p → inR (2 ^ N) set = true → inR 2 what = true → AJ Γ2 3 RX8 cX8_some 5 (some .int) (somP2 (TA N K M) N set what (fun σ' => R2 σ' n0 t N K M fs h pl)) 24 [some (.inr 0), some (.inl set), some (.inl what), none, none] [] σ := by
    rintro p hp2 rfl hin1 hin2
    have hs := set_lt h6 hp2
    have hba : R2b (m_up σ 0 14 0) n0 t N K M := q.1.u0 (by decide) (by decide)
    have tail : ∀ (σ2 : Mm), R2 σ2 n0 t N K M fs h pl → ¬ Over (TA N K M) (nI p) → gJ (TA N K M) (nI p) ≤ 150 → σ2 0 11 = nI (gJ (TA N K M) (nI p)) → (∀ n, n < gJ (TA N K M) (nI p) → (σ2 13 n = 0 ↔ farW (gJ (TA N K M) (nI p)) (toX (TA N K M) (nI p)) (gF (TA N K M) (nI p)) (fun _ => true) n = -9)) → ∀ (r n : Nat), n + r = gJ (TA N K M) (nI p) → AJ Γ2 3 RX8 cX8_some 5 (some .int) (somP2 (TA N K M) N (nI p) what (fun σ' => R2 σ' n0 t N K M fs h pl)) 74 [some (.inr 0), some (.inl (nI p)), some (.inl what), some (.inl (nI (n - cntF (farW (gJ (TA N K M) (nI p)) (toX (TA N K M) (nI p)) (gF (TA N K M) (nI p)) (fun _ => true)) n))), some (.inl (nI n))] [] σ2 := by
      intro σ2 hR hO hJ h11 h13 r
      generalize hFw : farW (gJ (TA N K M) (nI p)) (toX (TA N K M) (nI p)) (gF (TA N K M) (nI p)) (fun _ => true) = F at *
      induction r with
      | zero =>
        intro n hn
        obtain rfl : n = gJ (TA N K M) (nI p) := by omega
        refine j_iload (pc := 74) dX8_some_74 rfl ?_
        refine j_aload_n (pc := 76) dX8_some_76 rfl ?_
        refine j_getI (pc := 77) dX8_some_77 f_X8_131 (by first | rfl | with_reducible assumption) (by rfl) ?_
        refine j_top h11 ?_
        refine j_icmp_ge (pc := 80) (tgt := 107) dX8_some_80 rfl (fun h80 => ?_) (fun h80 => absurd (Int32.le_refl _) h80)
        refine j_iload_n (pc := 107) dX8_some_107 rfl ?_
        refine j_if_ne (pc := 108) (tgt := 118) dX8_some_108 rfl (fun h108 => ?_) (fun h108 => ?_)
        · refine j_iload_n (pc := 118) dX8_some_118 rfl ?_
          refine j_iret (pc := 119) dX8_some_119 ?_
          refine Or.inr ⟨hin1, hin2, Or.inr ⟨hO, ?_⟩, hR⟩
          rw [hFw]
          first
            | (rw [if_pos h108]; exact h11)
            | (rw [if_neg h108])
        · refine j_aload_n (pc := 111) dX8_some_111 rfl ?_
          refine j_getI (pc := 112) dX8_some_112 f_X8_131 (by first | rfl | with_reducible assumption) (by rfl) ?_
          refine j_goto (pc := 115) (tgt := 119) dX8_some_115 rfl ?_
          refine j_iret (pc := 119) dX8_some_119 ?_
          refine Or.inr ⟨hin1, hin2, Or.inr ⟨hO, ?_⟩, hR⟩
          rw [hFw]
          first
            | (rw [if_pos h108]; exact h11)
            | (rw [if_neg h108])
      | succ r ih =>
        intro n hn
        have hcn : (nI n).toNatClampNeg = n := nI_clamp (by omega)
        have hle := cnt_le F n
        have hsS := cnt_S F n
        have h13n := h13 n (by omega)
        have ih' := ih (n + 1) (by omega)
        refine j_iload (pc := 74) dX8_some_74 rfl ?_
        refine j_aload_n (pc := 76) dX8_some_76 rfl ?_
        refine j_getI (pc := 77) dX8_some_77 f_X8_131 (by first | rfl | with_reducible assumption) (by rfl) ?_
        refine j_top h11 ?_
        refine j_icmp_ge (pc := 80) (tgt := 107) dX8_some_80 rfl (fun h80 => absurd h80 (nI_ge (by omega) (by omega))) (fun h80 => ?_)
        refine j_iload_n (pc := 83) dX8_some_83 rfl ?_
        refine j_aload_n (pc := 84) dX8_some_84 rfl ?_
        refine j_getR (pc := 85) dX8_some_85 f_X8_46 (by first | rfl | with_reducible assumption) (by rfl) ?_
        refine j_iload (pc := 88) dX8_some_88 rfl ?_
        refine j_zald (pc := 90) dX8_some_90 (by first | rfl | with_reducible assumption) (vp_in_nI (by omega) (by decide)) ?_
        rw [hcn]
        refine j_if_eq (pc := 91) (tgt := 98) dX8_some_91 rfl (fun h91 => ?_) (fun h91 => ?_)
        · rw [if_pos (h13n.mp h91)] at hsS
          refine j_iconst (pc := 98) dX8_some_98 (v := 1) (by decide) ?_
          refine j_iadd (pc := 99) dX8_some_99 ?_
          refine j_top (y := nI (n + 1 - cntF F (n + 1))) (by
            rw [hsS]
            first
              | (rw [nI_1, show n + 1 - (cntF F n + 0) = n - cntF F n + 1 by omega]; done)
              | (rw [show n + 1 - (cntF F n + 1) = n - cntF F n by omega]; exact Int32.add_zero _)) ?_
          refine j_istore_n (pc := 100) dX8_some_100 (by decide) ?_
          refine j_iinc1 (pc := 101) dX8_some_101 rfl ?_
          refine j_goto (pc := 104) (tgt := 74) dX8_some_104 rfl ?_
          rw [nI_1]
          exact ih'
        · rw [if_neg (fun z => h91 (h13n.mpr z))] at hsS
          refine j_iconst (pc := 94) dX8_some_94 (v := 0) (by decide) ?_
          refine j_goto (pc := 95) (tgt := 99) dX8_some_95 rfl ?_
          refine j_iadd (pc := 99) dX8_some_99 ?_
          refine j_top (y := nI (n + 1 - cntF F (n + 1))) (by
            rw [hsS]
            first
              | (rw [nI_1, show n + 1 - (cntF F n + 0) = n - cntF F n + 1 by omega]; done)
              | (rw [show n + 1 - (cntF F n + 1) = n - cntF F n by omega]; exact Int32.add_zero _)) ?_
          refine j_istore_n (pc := 100) dX8_some_100 (by decide) ?_
          refine j_iinc1 (pc := 101) dX8_some_101 rfl ?_
          refine j_goto (pc := 104) (tgt := 74) dX8_some_104 rfl ?_
          rw [nI_1]
          exact ih'
    have fill : ∀ (σ1 : Mm), R2 σ1 n0 t N K M fs h pl → σ1 0 14 = 0 → ¬ Over (TA N K M) (nI p) → NG2 σ1 (TA N K M) (nI p) → ∀ (r n : Nat) (σ2 : Mm) (w4 : Option Vl), n + r = gJ (TA N K M) (nI p) → FrO 10 σ1 σ2 → (∀ i, i < n → σ2 10 i = -9) → AJ Γ2 3 RX8 cX8_some 5 (some .int) (somP2 (TA N K M) N (nI p) what (fun σ' => R2 σ' n0 t N K M fs h pl)) 42 [some (.inr 0), some (.inl (nI p)), some (.inl what), some (.inl (nI n)), w4] [] σ2 := by
      intro σ1 hR h14 hO hG r
      have hJ := hG.1
      induction r with
      | zero =>
        intro n σ2 w4 hn hF hold
        obtain rfl : n = gJ (TA N K M) (nI p) := by omega
        have fX := hF.x (by decide)
        refine j_iload_n (pc := 42) dX8_some_42 rfl ?_
        refine j_aload_n (pc := 43) dX8_some_43 rfl ?_
        refine j_getI (pc := 44) dX8_some_44 f_X8_131 (by first | rfl | with_reducible assumption) (by rfl) ?_
        refine j_top (y := nI (gJ (TA N K M) (nI p))) (by rw [hF 0 (by decide)]; exact hG.2.1) ?_
        refine j_icmp_ge (pc := 47) (tgt := 64) dX8_some_47 rfl (fun h47 => ?_) (fun h47 => absurd (Int32.le_refl _) h47)
        refine j_aload_n (pc := 64) dX8_some_64 rfl ?_
        refine j_iload_n (pc := 65) dX8_some_65 rfl ?_
        refine j_callVv (pc := 66) dX8_some_66 k_X8_158 (c_X8_findEnds (W := fun _ => -9) (hR.1.frX fX) hs (hG.frX fX) (fun m hm => hold m hm)) (by first | rfl | with_reducible assumption) rfl rfl (by decide) rfl (Nat.le_of_ble_eq_true rfl) (fun σ3 hp => ?_)
        obtain ⟨g1, g2⟩ := hp
        refine j_iconst (pc := 69) dX8_some_69 (v := 0) (by decide) ?_
        refine j_istore_n (pc := 70) dX8_some_70 (by decide) ?_
        refine j_iconst (pc := 71) dX8_some_71 (v := 0) (by decide) ?_
        refine j_istore (pc := 72) dX8_some_72 (by decide) ?_
        refine tail σ3 (hR.unk (fun x hx => ?_) (fun f _ _ _ => ?_) ?_) hO hJ ?_ (fun n hn => ?_) (gJ (TA N K M) (nI p)) 0 (by omega)
        · rw [g1 x (by omega), hF x (by omega)]
        · rw [g1 0 (by decide), hF 0 (by decide)]
        · rw [g1 0 (by decide), hF 0 (by decide)]
          exact h14
        · rw [g1 0 (by decide), hF 0 (by decide)]; exact hG.2.1
        · obtain ⟨e1, e2⟩ := g2 n hn
          have hf := farW_is (tg := toX (TA N K M) (nI p)) (fn := gF (TA N K M) (nI p)) (al := fun _ => true) hJ n
          constructor
          · intro z
            rcases hf with ⟨k, -, -, k3, -⟩ | ⟨k1, -⟩
            · exact absurd ((e2.mpr ⟨k, Rk.cong (fun _ _ => by simp) k3⟩).symm.trans z) (by decide)
            · exact k1
          · intro z
            rcases hf with ⟨k, k1, k2, -⟩ | ⟨-, k2⟩
            · exact absurd (k2.symm.trans z) (nI_z (by omega))
            · exact e1.resolve_right (fun y => by
                obtain ⟨k, hk⟩ := e2.mp y
                exact k2 k (Rk.cong (fun _ _ => by simp) hk))
      | succ r ih =>
        intro n σ2 w4 hn hF hold
        have hcn : (nI n).toNatClampNeg = n := nI_clamp (by omega)
        refine j_iload_n (pc := 42) dX8_some_42 rfl ?_
        refine j_aload_n (pc := 43) dX8_some_43 rfl ?_
        refine j_getI (pc := 44) dX8_some_44 f_X8_131 (by first | rfl | with_reducible assumption) (by rfl) ?_
        refine j_top (y := nI (gJ (TA N K M) (nI p))) (by rw [hF 0 (by decide)]; exact hG.2.1) ?_
        refine j_icmp_ge (pc := 47) (tgt := 64) dX8_some_47 rfl (fun h47 => absurd h47 (nI_ge (by omega) (by omega))) (fun h47 => ?_)
        refine j_aload_n (pc := 50) dX8_some_50 rfl ?_
        refine j_getR (pc := 51) dX8_some_51 f_X8_37 (by first | rfl | with_reducible assumption) (by rfl) ?_
        refine j_iload_n (pc := 54) dX8_some_54 rfl ?_
        refine j_bipush (pc := 55) dX8_some_55 (v := (-9)) (by decide) ?_
        refine j_iast (pc := 57) dX8_some_57 (by first | rfl | with_reducible assumption) (vp_in_nI (by omega) (by decide)) ?_
        refine j_iinc1 (pc := 58) dX8_some_58 rfl ?_
        refine j_goto (pc := 61) (tgt := 42) dX8_some_61 rfl ?_
        rw [nI_1, hcn]
        refine ih (n + 1) _ _ (by omega) hF.up (fun i hi => ?_)
        by_cases z : i = n
        · subst z; exact m_eq _ _ _ _
        · rw [m_nk z]; exact hold i (by omega)
    refine j_aload_n (pc := 24) dX8_some_24 rfl ?_
    refine j_iconst (pc := 25) dX8_some_25 (v := 0) (by decide) ?_
    refine j_putZ (pc := 26) dX8_some_26 f_X8_105 (by first | rfl | with_reducible assumption) (by rfl) (Or.inl rfl) ?_
    refine j_aload_n (pc := 29) dX8_some_29 rfl ?_
    refine j_iload_n (pc := 30) dX8_some_30 rfl ?_
    refine j_callVi (pc := 31) dX8_some_31 k_X8_165 (c_X8_builds hba hs) (by first | rfl | with_reducible assumption) rfl rfl (by decide) rfl (Nat.le_of_ble_eq_true rfl) (fun r σ1 hp => ?_)
    obtain ⟨g1, g2, g3⟩ := hp
    have hR1 : R2 σ1 n0 t N K M fs h pl := q.unk (fun x hx => by rw [g1.1 x (by omega) (by omega) (by omega), m_ne (by omega)]) (fun f a b c => by rw [g1.2 f a, m_nk b]) (by rw [g1.2 14 (by decide), m_eq])
    refine j_if_ne (pc := 34) (tgt := 40) dX8_some_34 rfl (fun h34 => ?_) (fun h34 => ?_)
    · refine j_iconst (pc := 40) dX8_some_40 (v := 0) (by decide) ?_
      refine j_istore_n (pc := 41) dX8_some_41 (by decide) ?_
      rcases g3 with ⟨-, z, -⟩ | ⟨hO, -, hG⟩
      · exact absurd z h34
      · exact fill σ1 hR1 (by rw [g1.2 14 (by decide), m_eq]) hO hG (gJ (TA N K M) (nI p)) 0 σ1 _ (by omega) FrO.rf (fun i hi => absurd hi (Nat.not_lt_zero _))
    · refine j_bipush (pc := 37) dX8_some_37 (v := (-9)) (by decide) ?_
      refine j_iret (pc := 39) dX8_some_39 ?_
      rcases g3 with ⟨hO, -, g4⟩ | ⟨-, g4, -⟩
      · exact Or.inr ⟨hin1, hin2, Or.inl ⟨hO, rfl⟩, hR1⟩
      · exact absurd (g4.symm.trans h34) (by decide)
  refine EV.intro (by decide +kernel) (Nat.le_of_ble_eq_true rfl) ?_
  refine j_iload_n (pc := 0) dX8_some_0 rfl ?_
  refine j_if_lt (pc := 1) (tgt := 21) dX8_some_1 rfl (fun h1 => ?_) (fun h1 => ?_)
  · refine j_bipush (pc := 21) dX8_some_21 (v := (-2)) (by decide) ?_
    refine j_iret (pc := 23) dX8_some_23 ?_
    refine Or.inl ⟨fun z => ?_, rfl, q⟩
    have z1 := inR_iff.mp z.1
    have z2 := inR_iff.mp z.2
    rw [vp_in_iff] at z1 z2
    generalize 2 ^ N = P at *
    simp only [Int32.lt_iff_toInt_lt, Int32.le_iff_toInt_le, ← Int32.toInt_inj, vp_in_iff, ti_0, ti_1, ti_2, ti_3, ti_4, ti_5, ti_6, ti_7, ti_8, ti_16, ti_48, ti_53, ti_60, ti_97, ti_104, ti_127, ti_149, ti_150, ti_151, ti_256, ti_1200, ti_m1, ti_m2, ti_m3, ti_m4, ti_m9, tA] at *
    omega
  · refine j_iload_n (pc := 4) dX8_some_4 rfl ?_
    refine j_aload_n (pc := 5) dX8_some_5 rfl ?_
    refine j_callVi (pc := 6) dX8_some_6 k_X8_155 (c_X8_all hN h6) (by first | rfl | with_reducible assumption) rfl rfl (by decide) rfl (Nat.le_of_ble_eq_true rfl) (fun r σ1 hp => ?_)
    obtain ⟨rfl, rfl⟩ := hp
    refine j_icmp_gt (pc := 9) (tgt := 21) dX8_some_9 rfl (fun h9 => ?_) (fun h9 => ?_)
    · refine j_bipush (pc := 21) dX8_some_21 (v := (-2)) (by decide) ?_
      refine j_iret (pc := 23) dX8_some_23 ?_
      refine Or.inl ⟨fun z => ?_, rfl, q⟩
      have z1 := inR_iff.mp z.1
      have z2 := inR_iff.mp z.2
      rw [vp_in_iff] at z1 z2
      generalize 2 ^ N = P at *
      simp only [Int32.lt_iff_toInt_lt, Int32.le_iff_toInt_le, ← Int32.toInt_inj, vp_in_iff, ti_0, ti_1, ti_2, ti_3, ti_4, ti_5, ti_6, ti_7, ti_8, ti_16, ti_48, ti_53, ti_60, ti_97, ti_104, ti_127, ti_149, ti_150, ti_151, ti_256, ti_1200, ti_m1, ti_m2, ti_m3, ti_m4, ti_m9, tA] at *
      omega
    · refine j_iload_n (pc := 12) dX8_some_12 rfl ?_
      refine j_iconst (pc := 13) dX8_some_13 (v := 0) (by decide) ?_
      refine j_iconst (pc := 14) dX8_some_14 (v := 1) (by decide) ?_
      refine j_callSi (pc := 15) dX8_some_15 k_X8_59 (c_X8_within _ _ _ _) rfl (by decide) rfl (Nat.le_of_ble_eq_true rfl) (fun r σ1 hp => ?_)
      obtain ⟨rfl, hp⟩ := hp
      rcases hp with ⟨q15, rfl⟩ | ⟨q15, rfl⟩
      · refine j_if_ne (pc := 18) (tgt := 24) dX8_some_18 rfl (fun _ => ?_) (fun h => absurd h (by decide))
        have hs : vp_in set (2 ^ N) := by
          rw [vp_in_iff]
          generalize 2 ^ N = P at *
          simp only [Int32.lt_iff_toInt_lt, Int32.le_iff_toInt_le, ← Int32.toInt_inj, vp_in_iff, ti_0, ti_1, ti_2, ti_3, ti_4, ti_5, ti_6, ti_7, ti_8, ti_16, ti_48, ti_53, ti_60, ti_97, ti_104, ti_127, ti_149, ti_150, ti_151, ti_256, ti_1200, ti_m1, ti_m2, ti_m3, ti_m4, ti_m9, tA] at *
          omega
        have hw : vp_in what 2 := by
          rw [vp_in_iff]
          simp only [Int32.lt_iff_toInt_lt, Int32.le_iff_toInt_le, ← Int32.toInt_inj, vp_in_iff, ti_0, ti_1, ti_2, ti_3, ti_4, ti_5, ti_6, ti_7, ti_8, ti_16, ti_48, ti_53, ti_60, ti_97, ti_104, ti_127, ti_149, ti_150, ti_151, ti_256, ti_1200, ti_m1, ti_m2, ti_m3, ti_m4, ti_m9] at *
          omega
        obtain ⟨p, hp, hpe⟩ := vp_in_of hs (by omega)
        exact main p hp hpe (inR_iff.mpr hs) (inR_iff.mpr hw)
      · refine j_if_ne (pc := 18) (tgt := 24) dX8_some_18 rfl (fun h => absurd h (by decide)) (fun _ => ?_)
        refine j_bipush (pc := 21) dX8_some_21 (v := (-2)) (by decide) ?_
        refine j_iret (pc := 23) dX8_some_23 ?_
        refine Or.inl ⟨fun z => ?_, rfl, q⟩
        have z1 := inR_iff.mp z.1
        have z2 := inR_iff.mp z.2
        rw [vp_in_iff] at z1 z2
        generalize 2 ^ N = P at *
        simp only [Int32.lt_iff_toInt_lt, Int32.le_iff_toInt_le, ← Int32.toInt_inj, vp_in_iff, ti_0, ti_1, ti_2, ti_3, ti_4, ti_5, ti_6, ti_7, ti_8, ti_16, ti_48, ti_53, ti_60, ti_97, ti_104, ti_127, ti_149, ti_150, ti_151, ti_256, ti_1200, ti_m1, ti_m2, ti_m3, ti_m4, ti_m9, tA] at *
        omega
end SomeR
