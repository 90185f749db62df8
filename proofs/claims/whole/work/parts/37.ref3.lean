/-! LEASTBARSMODEL: readsStep, readsItem, reads, machine -/
section Read2
variable {σ : Mm} {n p m : Nat} {v : MV} {c : Int32}
theorem H2.u0 {w : Int32} (h : H2 σ m v) : H2 (m_up σ 0 10 w) m v := h.cells (fun x a b => m_ne (by omega))
theorem fig_ne {c : Int32} (h : isFig (c - 48) = true) : c ≠ 42 ∧ c ≠ 33 := by
  have := fig_iff.mp h
  constructor
  · rintro rfl; exact absurd this (by decide)
  · rintro rfl; exact absurd this (by decide)
theorem cd_lt {f : Nat → Int32} (h : p < n) : cd f n p = f p := if_pos h
theorem cd_fig {f : Nat → Int32} (h : isFig (cd f n p - 48) = true) : p < n := by
  apply Classical.byContradiction
  intro z
  rw [show cd f n p = -9 from if_neg z] at h
  exact absurd h (by decide)
theorem cd_let {f : Nat → Int32} (h : isLet (cd f n p - 97) = true) : p < n := by
  apply Classical.byContradiction
  intro z
  rw [show cd f n p = -9 from if_neg z] at h
  exact absurd h (by decide)
theorem i_idx {i j : Nat} (hi : i < 6) (hj : j < 8) : (nI i * 8 + nI j).toNatClampNeg = 8 * i + j := by rw [nI_8, nI_clamp (by omega)]
theorem tellS_at {i j k : Nat} (hi : i < 6) (hj : j < 8) (hk : k < 6) : tellS v (nI i) (nI j) (nI k) = if v.1 (8 * i + j) = -9 then some (upd v.1 (8 * i + j) (nI k), v.2.1 ||| bitI (nI j), v.2.2.1, v.2.2.2.1 + 1, mx v.2.2.2.2 (mx (nI i) (nI k))) else if v.1 (8 * i + j) = nI k then some v else none := by
  unfold tellS
  rw [if_pos (isFig_iff.mpr (vp_in_nI hk (by decide))), i_idx hi hj]
/-- behind all that is asked: the step is told -/
theorem c_X8_readsStep2 {i j k : Nat} {σ0 : Mm} (hm : m < 6) (hi : i < 6) (hj : j < 8) (hk : k < 6) (hpl : σ 0 10 = nI (p + 2)) (hp2 : p + 2 < n) (h60 : n ≤ 60) (hF : Fr2 m σ0 σ) (hH : H2 σ m v) (hW : okW v) (hx : v.1 (8 * i + j) = -9 ∨ v.1 (8 * i + j) = nI k)
    (go : ∀ v', tellS v (nI i) (nI j) (nI k) = some v' → ∀ fr ev : Int32, rdGo (σ0 1) (n - p) p (0, fr, ev, v) = rdGo (σ0 1) (n - (p + 3)) (p + 3) (5, nI i, nI j, v')) :
    AJ Γ2 2 RX8 cX8_readsStep 6 (some .boolean) (itemP σ0 n p m v) 97 [some (.inr 0), some (.inl (nI m)), some (.inl (nI i)), some (.inl (nI j)), some (.inl (nI k)), some (.inl (nI (48 * m + (8 * i + j))))] [] σ := by
  have hcm : (nI m).toNatClampNeg = m := nI_clamp (by omega)
  have hvm : vp_in (nI m) 6 := vp_in_nI hm (by decide)
  have hcx : (nI (48 * m + (8 * i + j))).toNatClampNeg = 48 * m + (8 * i + j) := nI_clamp (by omega)
  have hvx : vp_in (nI (48 * m + (8 * i + j))) 288 := vp_in_nI (by omega) (by decide)
  have ht := tellS_at (v := v) hi hj hk
  obtain ⟨a1, a2, a3, a4, a5⟩ := hH
  have hx7 : σ 7 (48 * m + (8 * i + j)) = v.1 (8 * i + j) := a1 _ (by omega)
  by_cases hz : v.1 (8 * i + j) = -9
  · refine j_aload_n (pc := 97) dX8_readsStep_97 rfl ?_
    refine j_getR (pc := 98) dX8_readsStep_98 f_X8_22 (by first | rfl | with_reducible assumption) (by rfl) ?_
    refine j_iload_n (pc := 101) dX8_readsStep_101 rfl ?_
    refine j_dup2 (pc := 102) dX8_readsStep_102 ?_
    refine j_iald (pc := 103) dX8_readsStep_103 (by first | rfl | with_reducible assumption) hvm ?_
    refine j_top (y := v.2.2.2.1) (by rw [hcm]; exact a4) ?_
    refine j_aload_n (pc := 104) dX8_readsStep_104 rfl ?_
    refine j_getR (pc := 105) dX8_readsStep_105 f_X8_28 (by first | rfl | with_reducible assumption) (by rfl) ?_
    refine j_iload (pc := 108) dX8_readsStep_108 rfl ?_
    refine j_iald (pc := 110) dX8_readsStep_110 (by first | rfl | with_reducible assumption) hvx ?_
    refine j_top (y := -9) (by rw [hcx, hx7]; exact hz) ?_
    refine j_bipush (pc := 111) dX8_readsStep_111 (v := (-9)) (by decide) ?_
    refine j_icmp_ne (pc := 113) (tgt := 120) dX8_readsStep_113 rfl (fun h113 => absurd rfl h113) (fun h113 => ?_)
    refine j_iconst (pc := 116) dX8_readsStep_116 (v := 1) (by decide) ?_
    refine j_goto (pc := 117) (tgt := 121) dX8_readsStep_117 rfl ?_
    refine j_iadd (pc := 121) dX8_readsStep_121 ?_
    refine j_iast (pc := 122) dX8_readsStep_122 (by first | rfl | with_reducible assumption) hvm ?_
    rw [hcm]
    refine j_aload_n (pc := 123) dX8_readsStep_123 rfl ?_
    refine j_getR (pc := 124) dX8_readsStep_124 f_X8_28 (by first | rfl | with_reducible assumption) (by rfl) ?_
    refine j_iload (pc := 127) dX8_readsStep_127 rfl ?_
    refine j_iload (pc := 129) dX8_readsStep_129 rfl ?_
    refine j_iast (pc := 131) dX8_readsStep_131 (by first | rfl | with_reducible assumption) hvx ?_
    rw [hcx]
    refine j_aload_n (pc := 132) dX8_readsStep_132 rfl ?_
    refine j_getR (pc := 133) dX8_readsStep_133 f_X8_16 (by first | rfl | with_reducible assumption) (by rfl) ?_
    refine j_iload_n (pc := 136) dX8_readsStep_136 rfl ?_
    refine j_dup2 (pc := 137) dX8_readsStep_137 ?_
    refine j_iald (pc := 138) dX8_readsStep_138 (by first | rfl | with_reducible assumption) hvm ?_
    refine j_top (y := v.2.1) (by rw [hcm, m_ne (by decide), m_ne (by decide)]; exact a2) ?_
    refine j_iconst (pc := 139) dX8_readsStep_139 (v := 1) (by decide) ?_
    refine j_iload_n (pc := 140) dX8_readsStep_140 rfl ?_
    refine j_ishl (pc := 141) dX8_readsStep_141 ?_
    refine j_ior (pc := 142) dX8_readsStep_142 ?_
    refine j_iast (pc := 143) dX8_readsStep_143 (by first | rfl | with_reducible assumption) hvm ?_
    rw [hcm]
    refine j_aload_n (pc := 144) dX8_readsStep_144 rfl ?_
    refine j_iload_n (pc := 145) dX8_readsStep_145 rfl ?_
    refine j_iload_n (pc := 146) dX8_readsStep_146 rfl ?_
    refine j_callVv (pc := 147) dX8_readsStep_147 k_X8_85 (c_X8_names hm _ _) (by first | rfl | with_reducible assumption) rfl rfl (by decide) rfl (Nat.le_of_ble_eq_true rfl) (fun σ1 hp => ?_)
    obtain rfl := hp
    refine j_aload_n (pc := 150) dX8_readsStep_150 rfl ?_
    refine j_iload_n (pc := 151) dX8_readsStep_151 rfl ?_
    refine j_iload (pc := 152) dX8_readsStep_152 rfl ?_
    refine j_callVv (pc := 154) dX8_readsStep_154 k_X8_85 (c_X8_names hm _ _) (by first | rfl | with_reducible assumption) rfl rfl (by decide) rfl (Nat.le_of_ble_eq_true rfl) (fun σ1 hp => ?_)
    obtain rfl := hp
    refine j_aload_n (pc := 157) dX8_readsStep_157 rfl ?_
    refine j_dup (pc := 158) dX8_readsStep_158 ?_
    refine j_getI (pc := 159) dX8_readsStep_159 f_X8_67 (by first | rfl | with_reducible assumption) (by rfl) ?_
    refine j_top (y := nI (p + 2)) (by simp only [m_ne, ne_eq, not_false_eq_true, show ¬ (0 : Nat) = 6 by decide, show ¬ (0 : Nat) = 3 by decide, show ¬ (0 : Nat) = 7 by decide, show ¬ (0 : Nat) = 5 by decide]; exact hpl) ?_
    refine j_iconst (pc := 162) dX8_readsStep_162 (v := 1) (by decide) ?_
    refine j_iadd (pc := 163) dX8_readsStep_163 ?_
    rw [nI_1]
    refine j_put (pc := 164) dX8_readsStep_164 f_X8_67 (by first | rfl | with_reducible assumption) (by rfl) ?_
    refine j_iconst (pc := 167) dX8_readsStep_167 (v := 1) (by decide) ?_
    refine j_zret (pc := 168) dX8_readsStep_168 (Or.inr rfl) ?_
    rw [if_pos hz] at ht
    refine ⟨(((((hF.uc (by decide)).u7 (by omega)).uc (by decide)).uc (by decide)).uc (by decide)).u0, Or.inl ⟨rfl, p + 3, _, by omega, by omega, m_eq _ _ _ _, ?_, okW_S hW (vp_in_nI hi (by decide)) (vp_in_nI hj (by decide)) ht, fun fr ev => ⟨nI i, nI j, go _ ht fr ev⟩⟩⟩
    refine ⟨fun x hx => ?_, ?_, ?_, ?_, ?_⟩
    · rw [m_ne (by decide), m_ne (by decide), m_ne (by decide), m_ne (by decide), m_row, m_ne (by decide)]
      by_cases z : x = 8 * i + j
      · subst z; rw [pk_us]; exact pk_us.symm
      · rw [pk_un (by omega)]; exact (a1 x hx).trans (pk_un z).symm
    · rw [m_ne (by decide), m_ne (by decide), m_ne (by decide), m_eq]; rfl
    · rw [m_ne (by decide), m_ne (by decide), m_ne (by decide), m_ne (by decide), m_ne (by decide), m_ne (by decide)]; exact a3
    · rw [m_ne (by decide), m_ne (by decide), m_ne (by decide), m_ne (by decide), m_ne (by decide), m_eq]
    · rw [m_ne (by decide), m_eq, m_eq, m_ne (by decide), m_ne (by decide), m_ne (by decide), a5, mx_3]
  · have hzk := hx.resolve_left hz
    obtain ⟨w1, w2, w3⟩ := hW.2.1 i hi j hj hz
    rw [hzk] at w3
    refine j_aload_n (pc := 97) dX8_readsStep_97 rfl ?_
    refine j_getR (pc := 98) dX8_readsStep_98 f_X8_22 (by first | rfl | with_reducible assumption) (by rfl) ?_
    refine j_iload_n (pc := 101) dX8_readsStep_101 rfl ?_
    refine j_dup2 (pc := 102) dX8_readsStep_102 ?_
    refine j_iald (pc := 103) dX8_readsStep_103 (by first | rfl | with_reducible assumption) hvm ?_
    refine j_top (y := v.2.2.2.1) (by rw [hcm]; exact a4) ?_
    refine j_aload_n (pc := 104) dX8_readsStep_104 rfl ?_
    refine j_getR (pc := 105) dX8_readsStep_105 f_X8_28 (by first | rfl | with_reducible assumption) (by rfl) ?_
    refine j_iload (pc := 108) dX8_readsStep_108 rfl ?_
    refine j_iald (pc := 110) dX8_readsStep_110 (by first | rfl | with_reducible assumption) hvx ?_
    refine j_top (y := v.1 (8 * i + j)) (by rw [hcx, hx7]) ?_
    refine j_bipush (pc := 111) dX8_readsStep_111 (v := (-9)) (by decide) ?_
    refine j_icmp_ne (pc := 113) (tgt := 120) dX8_readsStep_113 rfl (fun h113 => ?_) (fun h113 => absurd h113 hz)
    refine j_iconst (pc := 120) dX8_readsStep_120 (v := 0) (by decide) ?_
    refine j_iadd (pc := 121) dX8_readsStep_121 ?_
    refine j_iast (pc := 122) dX8_readsStep_122 (by first | rfl | with_reducible assumption) hvm ?_
    rw [hcm]
    refine j_aload_n (pc := 123) dX8_readsStep_123 rfl ?_
    refine j_getR (pc := 124) dX8_readsStep_124 f_X8_28 (by first | rfl | with_reducible assumption) (by rfl) ?_
    refine j_iload (pc := 127) dX8_readsStep_127 rfl ?_
    refine j_iload (pc := 129) dX8_readsStep_129 rfl ?_
    refine j_iast (pc := 131) dX8_readsStep_131 (by first | rfl | with_reducible assumption) hvx ?_
    rw [hcx]
    refine j_aload_n (pc := 132) dX8_readsStep_132 rfl ?_
    refine j_getR (pc := 133) dX8_readsStep_133 f_X8_16 (by first | rfl | with_reducible assumption) (by rfl) ?_
    refine j_iload_n (pc := 136) dX8_readsStep_136 rfl ?_
    refine j_dup2 (pc := 137) dX8_readsStep_137 ?_
    refine j_iald (pc := 138) dX8_readsStep_138 (by first | rfl | with_reducible assumption) hvm ?_
    refine j_top (y := v.2.1) (by rw [hcm, m_ne (by decide), m_ne (by decide)]; exact a2) ?_
    refine j_iconst (pc := 139) dX8_readsStep_139 (v := 1) (by decide) ?_
    refine j_iload_n (pc := 140) dX8_readsStep_140 rfl ?_
    refine j_ishl (pc := 141) dX8_readsStep_141 ?_
    refine j_ior (pc := 142) dX8_readsStep_142 ?_
    refine j_iast (pc := 143) dX8_readsStep_143 (by first | rfl | with_reducible assumption) hvm ?_
    rw [hcm]
    refine j_aload_n (pc := 144) dX8_readsStep_144 rfl ?_
    refine j_iload_n (pc := 145) dX8_readsStep_145 rfl ?_
    refine j_iload_n (pc := 146) dX8_readsStep_146 rfl ?_
    refine j_callVv (pc := 147) dX8_readsStep_147 k_X8_85 (c_X8_names hm _ _) (by first | rfl | with_reducible assumption) rfl rfl (by decide) rfl (Nat.le_of_ble_eq_true rfl) (fun σ1 hp => ?_)
    obtain rfl := hp
    refine j_aload_n (pc := 150) dX8_readsStep_150 rfl ?_
    refine j_iload_n (pc := 151) dX8_readsStep_151 rfl ?_
    refine j_iload (pc := 152) dX8_readsStep_152 rfl ?_
    refine j_callVv (pc := 154) dX8_readsStep_154 k_X8_85 (c_X8_names hm _ _) (by first | rfl | with_reducible assumption) rfl rfl (by decide) rfl (Nat.le_of_ble_eq_true rfl) (fun σ1 hp => ?_)
    obtain rfl := hp
    refine j_aload_n (pc := 157) dX8_readsStep_157 rfl ?_
    refine j_dup (pc := 158) dX8_readsStep_158 ?_
    refine j_getI (pc := 159) dX8_readsStep_159 f_X8_67 (by first | rfl | with_reducible assumption) (by rfl) ?_
    refine j_top (y := nI (p + 2)) (by simp only [m_ne, ne_eq, not_false_eq_true, show ¬ (0 : Nat) = 6 by decide, show ¬ (0 : Nat) = 3 by decide, show ¬ (0 : Nat) = 7 by decide, show ¬ (0 : Nat) = 5 by decide]; exact hpl) ?_
    refine j_iconst (pc := 162) dX8_readsStep_162 (v := 1) (by decide) ?_
    refine j_iadd (pc := 163) dX8_readsStep_163 ?_
    rw [nI_1]
    refine j_put (pc := 164) dX8_readsStep_164 f_X8_67 (by first | rfl | with_reducible assumption) (by rfl) ?_
    refine j_iconst (pc := 167) dX8_readsStep_167 (v := 1) (by decide) ?_
    refine j_zret (pc := 168) dX8_readsStep_168 (Or.inr rfl) ?_
    rw [if_neg hz, if_pos hzk] at ht
    refine ⟨(((((hF.uc (by decide)).u7 (by omega)).uc (by decide)).uc (by decide)).uc (by decide)).u0, Or.inl ⟨rfl, p + 3, _, by omega, by omega, m_eq _ _ _ _, ?_, hW, fun fr ev => ⟨nI i, nI j, go _ ht fr ev⟩⟩⟩
    refine ⟨fun x hx => ?_, ?_, ?_, ?_, ?_⟩
    · rw [m_ne (by decide), m_ne (by decide), m_ne (by decide), m_ne (by decide), m_row, m_ne (by decide)]
      by_cases z : x = 8 * i + j
      · subst z; rw [pk_us]; exact hzk.symm
      · rw [pk_un (by omega)]; exact a1 x hx
    · rw [m_ne (by decide), m_ne (by decide), m_ne (by decide), m_eq]; exact or_same (by omega) w1
    · rw [m_ne (by decide), m_ne (by decide), m_ne (by decide), m_ne (by decide), m_ne (by decide), m_ne (by decide)]; exact a3
    · rw [m_ne (by decide), m_ne (by decide), m_ne (by decide), m_ne (by decide), m_ne (by decide), m_eq]; exact Int32.add_zero _
    · rw [m_ne (by decide), m_eq, m_eq, m_ne (by decide), m_ne (by decide), m_ne (by decide), a5]; exact mx_g w2 w3
theorem c_X8_readsStep (hm : m < 6) (hpl : σ 0 10 = nI p) (hn : σ 0 1 = nI n) (h60 : n ≤ 60) (hf : isFig (cd (σ 1) n p - 48) = true) (hH : H2 σ m v) (hW : okW v) : EV Γ2 2 yX8_readsStep cX8_readsStep 6 (some .boolean) [.inr 0, .inl (nI m)] σ (itemP σ n p m v) := by
  have hpn := cd_fig hf
  have hcm : (nI m).toNatClampNeg = m := nI_clamp (by omega)
  have hvm : vp_in (nI m) 6 := vp_in_nI hm (by decide)
  obtain ⟨i, hi, hie⟩ := vp_in_of (isFig_iff.mp hf) (by decide)
  have st0 : ∀ fr ev : Int32, rdStep (0, fr, ev, v) (σ 1 p) = some (1, nI i, ev, v) := fun fr ev => by
    rw [cd_lt hpn] at hf hie
    obtain ⟨a, b⟩ := fig_ne hf
    simp only [rdStep]
    rw [if_neg a, if_neg b, if_pos hf, hie]
  have go0 : ∀ fr ev : Int32, rdGo (σ 1) (n - p) p (0, fr, ev, v) = rdGo (σ 1) (n - (p + 1)) (p + 1) (1, nI i, ev, v) := fun fr ev => rd_some hpn (st0 fr ev)
  refine EV.intro (by decide +kernel) (Nat.le_of_ble_eq_true rfl) ?_
  refine j_aload_n (pc := 0) dX8_readsStep_0 rfl ?_
  refine j_callVi (pc := 1) dX8_readsStep_1 k_X8_70 (c_X8_codeHere hpl hn h60 (by omega) rfl) (by first | rfl | with_reducible assumption) rfl rfl (by decide) rfl (Nat.le_of_ble_eq_true rfl) (fun r σ1 hp => ?_)
  obtain ⟨rfl, rfl⟩ := hp
  refine j_bipush (pc := 4) dX8_readsStep_4 (v := 48) (by decide) ?_
  refine j_isub (pc := 6) dX8_readsStep_6 ?_
  refine j_top hie ?_
  refine j_istore_n (pc := 7) dX8_readsStep_7 (by decide) ?_
  refine j_aload_n (pc := 8) dX8_readsStep_8 rfl ?_
  refine j_dup (pc := 9) dX8_readsStep_9 ?_
  refine j_getI (pc := 10) dX8_readsStep_10 f_X8_67 (by first | rfl | with_reducible assumption) (by rfl) ?_
  refine j_top hpl ?_
  refine j_iconst (pc := 13) dX8_readsStep_13 (v := 1) (by decide) ?_
  refine j_iadd (pc := 14) dX8_readsStep_14 ?_
  rw [nI_1]
  refine j_put (pc := 15) dX8_readsStep_15 f_X8_67 (by first | rfl | with_reducible assumption) (by rfl) ?_
  refine j_aload_n (pc := 18) dX8_readsStep_18 rfl ?_
  refine j_callVi (pc := 19) dX8_readsStep_19 k_X8_74 (c_X8_isLetter (p := p + 1) (n := n) (m_eq _ _ _ _) (by rw [m_nk (by decide)]; exact hn) h60 (by omega) (by rw [m_ne (by decide)])) (by first | rfl | with_reducible assumption) rfl rfl (by decide) rfl (Nat.le_of_ble_eq_true rfl) (fun r σ1 hp => ?_)
  obtain ⟨rfl, hp⟩ := hp
  rcases hp with ⟨q19, rfl⟩ | ⟨q19, rfl⟩
  · refine j_if_ne (pc := 22) (tgt := 27) dX8_readsStep_22 rfl (fun _ => ?_) (fun h => absurd h (by decide))
    have hp1 := cd_let q19
    obtain ⟨j, hj, hje⟩ := vp_in_of (isLet_iff.mp q19) (by decide)
    have go1 : ∀ fr ev : Int32, rdGo (σ 1) (n - p) p (0, fr, ev, v) = rdGo (σ 1) (n - (p + 2)) (p + 2) (2, nI i, nI j, v) := fun fr ev => by
      rw [go0]
      refine rd_some hp1 ?_
      rw [cd_lt hp1] at q19 hje
      simp only [rdStep]
      rw [if_pos q19, hje]
    refine j_aload_n (pc := 27) dX8_readsStep_27 rfl ?_
    refine j_callVi (pc := 28) dX8_readsStep_28 k_X8_70 (c_X8_codeHere (p := p + 1) (n := n) (m_eq _ _ _ _) (by rw [m_nk (by decide)]; exact hn) h60 (by omega) (by rw [m_ne (by decide)])) (by first | rfl | with_reducible assumption) rfl rfl (by decide) rfl (Nat.le_of_ble_eq_true rfl) (fun r σ1 hp => ?_)
    obtain ⟨rfl, rfl⟩ := hp
    refine j_bipush (pc := 31) dX8_readsStep_31 (v := 97) (by decide) ?_
    refine j_isub (pc := 33) dX8_readsStep_33 ?_
    refine j_top hje ?_
    refine j_istore_n (pc := 34) dX8_readsStep_34 (by decide) ?_
    refine j_aload_n (pc := 35) dX8_readsStep_35 rfl ?_
    refine j_dup (pc := 36) dX8_readsStep_36 ?_
    refine j_getI (pc := 37) dX8_readsStep_37 f_X8_67 (by first | rfl | with_reducible assumption) (by rfl) ?_
    refine j_top (m_eq _ _ _ _) ?_
    refine j_iconst (pc := 40) dX8_readsStep_40 (v := 1) (by decide) ?_
    refine j_iadd (pc := 41) dX8_readsStep_41 ?_
    rw [nI_1]
    refine j_put (pc := 42) dX8_readsStep_42 f_X8_67 (by first | rfl | with_reducible assumption) (by rfl) ?_
    refine j_aload_n (pc := 45) dX8_readsStep_45 rfl ?_
    refine j_callVi (pc := 46) dX8_readsStep_46 k_X8_78 (c_X8_isFigure (p := p + 2) (n := n) (m_eq _ _ _ _) (by rw [m_nk (by decide), m_nk (by decide)]; exact hn) h60 (by omega) (by rw [m_ne (by decide), m_ne (by decide)])) (by first | rfl | with_reducible assumption) rfl rfl (by decide) rfl (Nat.le_of_ble_eq_true rfl) (fun r σ1 hp => ?_)
    obtain ⟨rfl, hp⟩ := hp
    rcases hp with ⟨q46, rfl⟩ | ⟨q46, rfl⟩
    · refine j_if_ne (pc := 49) (tgt := 54) dX8_readsStep_49 rfl (fun _ => ?_) (fun h => absurd h (by decide))
      have hp2 := cd_fig q46
      obtain ⟨k, hk, hke⟩ := vp_in_of (isFig_iff.mp q46) (by decide)
      have ht := tellS_at (v := v) hi hj hk
      have st2 : rdStep (2, nI i, nI j, v) (σ 1 (p + 2)) = (tellS v (nI i) (nI j) (nI k)).map (fun v => (5, nI i, nI j, v)) := by
        rw [cd_lt hp2] at hke
        simp only [rdStep]
        rw [hke]
      refine j_aload_n (pc := 54) dX8_readsStep_54 rfl ?_
      refine j_callVi (pc := 55) dX8_readsStep_55 k_X8_70 (c_X8_codeHere (p := p + 2) (n := n) (m_eq _ _ _ _) (by rw [m_nk (by decide), m_nk (by decide)]; exact hn) h60 (by omega) (by rw [m_ne (by decide), m_ne (by decide)])) (by first | rfl | with_reducible assumption) rfl rfl (by decide) rfl (Nat.le_of_ble_eq_true rfl) (fun r σ1 hp => ?_)
      obtain ⟨rfl, rfl⟩ := hp
      refine j_bipush (pc := 58) dX8_readsStep_58 (v := 48) (by decide) ?_
      refine j_isub (pc := 60) dX8_readsStep_60 ?_
      refine j_top hke ?_
      refine j_istore (pc := 61) dX8_readsStep_61 (by decide) ?_
      refine j_iload_n (pc := 63) dX8_readsStep_63 rfl ?_
      refine j_iload_n (pc := 64) dX8_readsStep_64 rfl ?_
      refine j_iload_n (pc := 65) dX8_readsStep_65 rfl ?_
      refine j_callSi (pc := 66) dX8_readsStep_66 k_X8_81 (c_X8_stepAt _ _ _ _) rfl (by decide) rfl (Nat.le_of_ble_eq_true rfl) (fun r σ1 hp => ?_)
      obtain ⟨rfl, rfl⟩ := hp
      refine j_top (stAt m i j) ?_
      refine j_istore (pc := 69) dX8_readsStep_69 (by decide) ?_
      refine j_aload_n (pc := 71) dX8_readsStep_71 rfl ?_
      refine j_getR (pc := 72) dX8_readsStep_72 f_X8_28 (by first | rfl | with_reducible assumption) (by rfl) ?_
      refine j_iload (pc := 75) dX8_readsStep_75 rfl ?_
      refine j_iald (pc := 77) dX8_readsStep_77 (by first | rfl | with_reducible assumption) (vp_in_nI (by omega) (by decide)) ?_
      refine j_top (y := v.1 (8 * i + j)) (by rw [nI_clamp (by omega), m_ne (by decide), m_ne (by decide)]; exact hH.1 _ (by omega)) ?_
      refine j_bipush (pc := 78) dX8_readsStep_78 (v := (-9)) (by decide) ?_
      refine j_icmp_eq (pc := 80) (tgt := 97) dX8_readsStep_80 rfl (fun h80 => ?_) (fun h80 => ?_)
      · refine c_X8_readsStep2 hm hi hj hk (m_eq _ _ _ _) hp2 h60 Fr2.rf.u0.u0 hH.u0.u0 hW (by first | exact Or.inl h80 | exact Or.inr h92) (fun v' hv' fr ev => ?_)
        rw [go1]
        refine rd_some hp2 ?_
        rw [st2, hv']
        rfl
      · refine j_aload_n (pc := 83) dX8_readsStep_83 rfl ?_
        refine j_getR (pc := 84) dX8_readsStep_84 f_X8_28 (by first | rfl | with_reducible assumption) (by rfl) ?_
        refine j_iload (pc := 87) dX8_readsStep_87 rfl ?_
        refine j_iald (pc := 89) dX8_readsStep_89 (by first | rfl | with_reducible assumption) (vp_in_nI (by omega) (by decide)) ?_
        refine j_top (y := v.1 (8 * i + j)) (by rw [nI_clamp (by omega), m_ne (by decide), m_ne (by decide)]; exact hH.1 _ (by omega)) ?_
        refine j_iload (pc := 90) dX8_readsStep_90 rfl ?_
        refine j_icmp_eq (pc := 92) (tgt := 97) dX8_readsStep_92 rfl (fun h92 => ?_) (fun h92 => ?_)
        · refine c_X8_readsStep2 hm hi hj hk (m_eq _ _ _ _) hp2 h60 Fr2.rf.u0.u0 hH.u0.u0 hW (by first | exact Or.inl h80 | exact Or.inr h92) (fun v' hv' fr ev => ?_)
          rw [go1]
          refine rd_some hp2 ?_
          rw [st2, hv']
          rfl
        · refine j_iconst (pc := 95) dX8_readsStep_95 (v := 0) (by decide) ?_
          refine j_zret (pc := 96) dX8_readsStep_96 (Or.inl rfl) ?_
          refine ⟨Fr2.rf.u0.u0, Or.inr ⟨rfl, p + 2, by omega, m_eq _ _ _ _, fun fr ev => ?_⟩⟩
          rw [go1]
          refine rd_fail (by omega) (by simp) (fun z => ?_)
          rw [st2, ht, if_neg h80, if_neg h92]
          rfl
    · refine j_if_ne (pc := 49) (tgt := 54) dX8_readsStep_49 rfl (fun h => absurd h (by decide)) (fun _ => ?_)
      refine j_iconst (pc := 52) dX8_readsStep_52 (v := 0) (by decide) ?_
      refine j_zret (pc := 53) dX8_readsStep_53 (Or.inl rfl) ?_
      refine ⟨Fr2.rf.u0.u0, Or.inr ⟨rfl, p + 2, by omega, m_eq _ _ _ _, fun fr ev => ?_⟩⟩
      rw [go1]
      refine rd_fail (by omega) (by simp) (fun z => ?_)
      rw [cd_lt z] at q46
      simp only [rdStep, tellS]
      rw [if_neg q46]
      rfl
  · refine j_if_ne (pc := 22) (tgt := 27) dX8_readsStep_22 rfl (fun h => absurd h (by decide)) (fun _ => ?_)
    refine j_iconst (pc := 25) dX8_readsStep_25 (v := 0) (by decide) ?_
    refine j_zret (pc := 26) dX8_readsStep_26 (Or.inl rfl) ?_
    refine ⟨Fr2.rf.u0, Or.inr ⟨rfl, p + 1, by omega, m_eq _ _ _ _, fun fr ev => ?_⟩⟩
    rw [go0]
    refine rd_fail (by omega) (by simp) (fun z => ?_)
    rw [cd_lt z] at q19
    exact if_neg q19
end Read2
