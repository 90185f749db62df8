/-! LEASTBARSMODEL: readsItem, reads, machine -/
section Read3
variable {σ : Mm} {n p m : Nat} {v : MV} {c : Int32}
theorem bitI_nI (j : Nat) : (1 : Int32) <<< (nI j &&& 31) = bitI (nI j) := rfl
theorem c_X8_readsItemA (hm : m < 6) (hpl : σ 0 10 = nI p) (hn : σ 0 1 = nI n) (h60 : n ≤ 60) (hpn : p < n) (hc : σ 1 p = 42) (hH : H2 σ m v) (hW : okW v) : AJ Γ2 3 RX8 cX8_readsItem 3 (some .boolean) (itemP σ n p m v) 32 [some (.inr 0), some (.inl (nI m)), some (.inl 42)] [] σ := by
  have hcm : (nI m).toNatClampNeg = m := nI_clamp (by omega)
  have hvm : vp_in (nI m) 6 := vp_in_nI hm (by decide)
  have go0 : ∀ fr ev : Int32, rdGo (σ 1) (n - p) p (0, fr, ev, v) = rdGo (σ 1) (n - (p + 1)) (p + 1) (3, fr, ev, v) := fun fr ev => rd_some hpn (if_pos hc)
  obtain ⟨a1, a2, a3, a4, a5⟩ := hH
  refine j_aload_n (pc := 32) dX8_readsItem_32 rfl ?_
  refine j_dup (pc := 33) dX8_readsItem_33 ?_
  refine j_getI (pc := 34) dX8_readsItem_34 f_X8_67 (by first | rfl | with_reducible assumption) (by rfl) ?_
  refine j_top hpl ?_
  refine j_iconst (pc := 37) dX8_readsItem_37 (v := 1) (by decide) ?_
  refine j_iadd (pc := 38) dX8_readsItem_38 ?_
  rw [nI_1]
  refine j_put (pc := 39) dX8_readsItem_39 f_X8_67 (by first | rfl | with_reducible assumption) (by rfl) ?_
  refine j_iload_n (pc := 42) dX8_readsItem_42 rfl ?_
  refine j_bipush (pc := 43) dX8_readsItem_43 (v := 42) (by decide) ?_
  refine j_icmp_ne (pc := 45) (tgt := 58) dX8_readsItem_45 rfl (fun h45 => absurd rfl h45) (fun h45 => ?_)
  refine j_aload_n (pc := 48) dX8_readsItem_48 rfl ?_
  refine j_callVi (pc := 49) dX8_readsItem_49 k_X8_78 (c_X8_isFigure (p := p + 1) (n := n) (m_eq _ _ _ _) (by rw [m_nk (by decide)]; exact hn) h60 (by omega) (by rw [m_ne (by decide)])) (by first | rfl | with_reducible assumption) rfl rfl (by decide) rfl (Nat.le_of_ble_eq_true rfl) (fun r σ1 hp => ?_)
  obtain ⟨rfl, hp⟩ := hp
  rcases hp with ⟨q49, rfl⟩ | ⟨q49, rfl⟩
  · refine j_if_ne (pc := 52) (tgt := 67) dX8_readsItem_52 rfl (fun _ => ?_) (fun h => absurd h (by decide))
    have hp1 := cd_fig q49
    refine j_iload_n (pc := 67) dX8_readsItem_67 rfl ?_
    refine j_bipush (pc := 68) dX8_readsItem_68 (v := 42) (by decide) ?_
    refine j_icmp_ne (pc := 70) (tgt := 106) dX8_readsItem_70 rfl (fun h70 => absurd rfl h70) (fun h70 => ?_)
    refine j_aload_n (pc := 73) dX8_readsItem_73 rfl ?_
    refine j_getR (pc := 74) dX8_readsItem_74 f_X8_19 (by first | rfl | with_reducible assumption) (by rfl) ?_
    refine j_iload_n (pc := 77) dX8_readsItem_77 rfl ?_
    refine j_dup2 (pc := 78) dX8_readsItem_78 ?_
    refine j_iald (pc := 79) dX8_readsItem_79 (by first | rfl | with_reducible assumption) hvm ?_
    refine j_top (y := v.2.2.1) (by rw [hcm, m_ne (by decide)]; exact a3) ?_
    refine j_iconst (pc := 80) dX8_readsItem_80 (v := 1) (by decide) ?_
    refine j_aload_n (pc := 81) dX8_readsItem_81 rfl ?_
    refine j_callVi (pc := 82) dX8_readsItem_82 k_X8_70 (c_X8_codeHere (p := p + 1) (n := n) (m_eq _ _ _ _) (by rw [m_nk (by decide)]; exact hn) h60 (by omega) (by rw [m_ne (by decide)])) (by first | rfl | with_reducible assumption) rfl rfl (by decide) rfl (Nat.le_of_ble_eq_true rfl) (fun r σ1 hp => ?_)
    obtain ⟨rfl, rfl⟩ := hp
    refine j_bipush (pc := 85) dX8_readsItem_85 (v := 48) (by decide) ?_
    refine j_isub (pc := 87) dX8_readsItem_87 ?_
    refine j_ishl (pc := 88) dX8_readsItem_88 ?_
    refine j_ior (pc := 89) dX8_readsItem_89 ?_
    refine j_iast (pc := 90) dX8_readsItem_90 (by first | rfl | with_reducible assumption) hvm ?_
    rw [hcm]
    refine j_aload_n (pc := 91) dX8_readsItem_91 rfl ?_
    refine j_iload_n (pc := 92) dX8_readsItem_92 rfl ?_
    refine j_aload_n (pc := 93) dX8_readsItem_93 rfl ?_
    refine j_callVi (pc := 94) dX8_readsItem_94 k_X8_70 (c_X8_codeHere (p := p + 1) (n := n) (by rw [m_ne (by decide), m_eq]) (by rw [m_ne (by decide), m_nk (by decide)]; exact hn) h60 (by omega) (by rw [m_ne (by decide), m_ne (by decide)])) (by first | rfl | with_reducible assumption) rfl rfl (by decide) rfl (Nat.le_of_ble_eq_true rfl) (fun r σ1 hp => ?_)
    obtain ⟨rfl, rfl⟩ := hp
    refine j_bipush (pc := 97) dX8_readsItem_97 (v := 48) (by decide) ?_
    refine j_isub (pc := 99) dX8_readsItem_99 ?_
    refine j_callVv (pc := 100) dX8_readsItem_100 k_X8_85 (c_X8_names hm _ _) (by first | rfl | with_reducible assumption) rfl rfl (by decide) rfl (Nat.le_of_ble_eq_true rfl) (fun σ1 hp => ?_)
    obtain rfl := hp
    refine j_goto (pc := 103) (tgt := 124) dX8_readsItem_103 rfl ?_
    refine j_aload_n (pc := 124) dX8_readsItem_124 rfl ?_
    refine j_dup (pc := 125) dX8_readsItem_125 ?_
    refine j_getI (pc := 126) dX8_readsItem_126 f_X8_67 (by first | rfl | with_reducible assumption) (by rfl) ?_
    refine j_top (y := nI (p + 1)) (by rw [m_ne (by decide), m_ne (by decide), m_eq]) ?_
    refine j_iconst (pc := 129) dX8_readsItem_129 (v := 1) (by decide) ?_
    refine j_iadd (pc := 130) dX8_readsItem_130 ?_
    rw [nI_1]
    refine j_put (pc := 131) dX8_readsItem_131 f_X8_67 (by first | rfl | with_reducible assumption) (by rfl) ?_
    refine j_iconst (pc := 134) dX8_readsItem_134 (v := 1) (by decide) ?_
    refine j_zret (pc := 135) dX8_readsItem_135 (Or.inr rfl) ?_
    have ht : tellM v (cd (σ 1) n (p + 1) - 48) = some (v.1, v.2.1, v.2.2.1 ||| bitI (cd (σ 1) n (p + 1) - 48), v.2.2.2.1, mx v.2.2.2.2 (cd (σ 1) n (p + 1) - 48)) := if_pos q49
    refine ⟨((Fr2.rf.u0.uc (by decide)).uc (by decide)).u0, Or.inl ⟨rfl, p + 2, _, by omega, by omega, m_eq _ _ _ _, ?_, okW_M hW ht, fun fr ev => ⟨fr, ev, ?_⟩⟩⟩
    · refine ⟨fun x hx => ?_, ?_, ?_, ?_, ?_⟩
      · rw [m_ne (by decide), m_ne (by decide), m_ne (by decide), m_ne (by decide)]; exact a1 x hx
      · rw [m_ne (by decide), m_ne (by decide), m_ne (by decide), m_ne (by decide)]; exact a2
      · rw [m_ne (by decide), m_ne (by decide), m_eq]; rfl
      · rw [m_ne (by decide), m_ne (by decide), m_ne (by decide), m_ne (by decide)]; exact a4
      · rw [m_ne (by decide), m_eq, m_ne (by decide), m_ne (by decide), a5]
    · rw [go0]
      refine rd_some hp1 ?_
      rw [cd_lt hp1] at ht ⊢
      simp only [rdStep]
      rw [ht]
      rfl
  · refine j_if_ne (pc := 52) (tgt := 67) dX8_readsItem_52 rfl (fun h => absurd h (by decide)) (fun _ => ?_)
    refine j_goto (pc := 55) (tgt := 65) dX8_readsItem_55 rfl ?_
    refine j_iconst (pc := 65) dX8_readsItem_65 (v := 0) (by decide) ?_
    refine j_zret (pc := 66) dX8_readsItem_66 (Or.inl rfl) ?_
    refine ⟨Fr2.rf.u0, Or.inr ⟨rfl, p + 1, by omega, m_eq _ _ _ _, fun fr ev => ?_⟩⟩
    rw [go0]
    refine rd_fail (by omega) (by simp) (fun z => ?_)
    rw [cd_lt z] at q49
    simp only [rdStep, tellM]
    rw [if_neg q49]
    rfl
theorem c_X8_readsItemB (hm : m < 6) (hpl : σ 0 10 = nI p) (hn : σ 0 1 = nI n) (h60 : n ≤ 60) (hpn : p < n) (hc : σ 1 p = 33) (hH : H2 σ m v) (hW : okW v) : AJ Γ2 3 RX8 cX8_readsItem 3 (some .boolean) (itemP σ n p m v) 32 [some (.inr 0), some (.inl (nI m)), some (.inl 33)] [] σ := by
  have hcm : (nI m).toNatClampNeg = m := nI_clamp (by omega)
  have hvm : vp_in (nI m) 6 := vp_in_nI hm (by decide)
  have go0 : ∀ fr ev : Int32, rdGo (σ 1) (n - p) p (0, fr, ev, v) = rdGo (σ 1) (n - (p + 1)) (p + 1) (4, fr, ev, v) := fun fr ev => rd_some hpn (by
    simp only [rdStep]
    rw [hc, if_neg (by decide), if_pos rfl])
  obtain ⟨a1, a2, a3, a4, a5⟩ := hH
  refine j_aload_n (pc := 32) dX8_readsItem_32 rfl ?_
  refine j_dup (pc := 33) dX8_readsItem_33 ?_
  refine j_getI (pc := 34) dX8_readsItem_34 f_X8_67 (by first | rfl | with_reducible assumption) (by rfl) ?_
  refine j_top hpl ?_
  refine j_iconst (pc := 37) dX8_readsItem_37 (v := 1) (by decide) ?_
  refine j_iadd (pc := 38) dX8_readsItem_38 ?_
  rw [nI_1]
  refine j_put (pc := 39) dX8_readsItem_39 f_X8_67 (by first | rfl | with_reducible assumption) (by rfl) ?_
  refine j_iload_n (pc := 42) dX8_readsItem_42 rfl ?_
  refine j_bipush (pc := 43) dX8_readsItem_43 (v := 42) (by decide) ?_
  refine j_icmp_ne (pc := 45) (tgt := 58) dX8_readsItem_45 rfl (fun h45 => ?_) (fun h45 => absurd h45 (by decide))
  refine j_aload_n (pc := 58) dX8_readsItem_58 rfl ?_
  refine j_callVi (pc := 59) dX8_readsItem_59 k_X8_74 (c_X8_isLetter (p := p + 1) (n := n) (m_eq _ _ _ _) (by rw [m_nk (by decide)]; exact hn) h60 (by omega) (by rw [m_ne (by decide)])) (by first | rfl | with_reducible assumption) rfl rfl (by decide) rfl (Nat.le_of_ble_eq_true rfl) (fun r σ1 hp => ?_)
  obtain ⟨rfl, hp⟩ := hp
  rcases hp with ⟨q59, rfl⟩ | ⟨q59, rfl⟩
  · refine j_if_ne (pc := 62) (tgt := 67) dX8_readsItem_62 rfl (fun _ => ?_) (fun h => absurd h (by decide))
    have hp1 := cd_let q59
    refine j_iload_n (pc := 67) dX8_readsItem_67 rfl ?_
    refine j_bipush (pc := 68) dX8_readsItem_68 (v := 42) (by decide) ?_
    refine j_icmp_ne (pc := 70) (tgt := 106) dX8_readsItem_70 rfl (fun h70 => ?_) (fun h70 => absurd h70 (by decide))
    refine j_aload_n (pc := 106) dX8_readsItem_106 rfl ?_
    refine j_getR (pc := 107) dX8_readsItem_107 f_X8_16 (by first | rfl | with_reducible assumption) (by rfl) ?_
    refine j_iload_n (pc := 110) dX8_readsItem_110 rfl ?_
    refine j_dup2 (pc := 111) dX8_readsItem_111 ?_
    refine j_iald (pc := 112) dX8_readsItem_112 (by first | rfl | with_reducible assumption) hvm ?_
    refine j_top (y := v.2.1) (by rw [hcm, m_ne (by decide)]; exact a2) ?_
    refine j_iconst (pc := 113) dX8_readsItem_113 (v := 1) (by decide) ?_
    refine j_aload_n (pc := 114) dX8_readsItem_114 rfl ?_
    refine j_callVi (pc := 115) dX8_readsItem_115 k_X8_70 (c_X8_codeHere (p := p + 1) (n := n) (m_eq _ _ _ _) (by rw [m_nk (by decide)]; exact hn) h60 (by omega) (by rw [m_ne (by decide)])) (by first | rfl | with_reducible assumption) rfl rfl (by decide) rfl (Nat.le_of_ble_eq_true rfl) (fun r σ1 hp => ?_)
    obtain ⟨rfl, rfl⟩ := hp
    refine j_bipush (pc := 118) dX8_readsItem_118 (v := 97) (by decide) ?_
    refine j_isub (pc := 120) dX8_readsItem_120 ?_
    refine j_ishl (pc := 121) dX8_readsItem_121 ?_
    refine j_ior (pc := 122) dX8_readsItem_122 ?_
    refine j_iast (pc := 123) dX8_readsItem_123 (by first | rfl | with_reducible assumption) hvm ?_
    rw [hcm]
    refine j_aload_n (pc := 124) dX8_readsItem_124 rfl ?_
    refine j_dup (pc := 125) dX8_readsItem_125 ?_
    refine j_getI (pc := 126) dX8_readsItem_126 f_X8_67 (by first | rfl | with_reducible assumption) (by rfl) ?_
    refine j_top (y := nI (p + 1)) (by rw [m_ne (by decide), m_eq]) ?_
    refine j_iconst (pc := 129) dX8_readsItem_129 (v := 1) (by decide) ?_
    refine j_iadd (pc := 130) dX8_readsItem_130 ?_
    rw [nI_1]
    refine j_put (pc := 131) dX8_readsItem_131 f_X8_67 (by first | rfl | with_reducible assumption) (by rfl) ?_
    refine j_iconst (pc := 134) dX8_readsItem_134 (v := 1) (by decide) ?_
    refine j_zret (pc := 135) dX8_readsItem_135 (Or.inr rfl) ?_
    have ht : tellE v (cd (σ 1) n (p + 1) - 97) = some (v.1, v.2.1 ||| bitI (cd (σ 1) n (p + 1) - 97), v.2.2.1, v.2.2.2.1, v.2.2.2.2) := if_pos q59
    refine ⟨(Fr2.rf.u0.uc (by decide)).u0, Or.inl ⟨rfl, p + 2, _, by omega, by omega, m_eq _ _ _ _, ?_, okW_E hW ht, fun fr ev => ⟨fr, ev, ?_⟩⟩⟩
    · refine ⟨fun x hx => ?_, ?_, ?_, ?_, ?_⟩
      · rw [m_ne (by decide), m_ne (by decide), m_ne (by decide)]; exact a1 x hx
      · rw [m_ne (by decide), m_eq]; rfl
      · rw [m_ne (by decide), m_ne (by decide), m_ne (by decide)]; exact a3
      · rw [m_ne (by decide), m_ne (by decide), m_ne (by decide)]; exact a4
      · rw [m_ne (by decide), m_ne (by decide), m_ne (by decide)]; exact a5
    · rw [go0]
      refine rd_some hp1 ?_
      rw [cd_lt hp1] at ht ⊢
      simp only [rdStep]
      rw [ht]
      rfl
  · refine j_if_ne (pc := 62) (tgt := 67) dX8_readsItem_62 rfl (fun h => absurd h (by decide)) (fun _ => ?_)
    refine j_iconst (pc := 65) dX8_readsItem_65 (v := 0) (by decide) ?_
    refine j_zret (pc := 66) dX8_readsItem_66 (Or.inl rfl) ?_
    refine ⟨Fr2.rf.u0, Or.inr ⟨rfl, p + 1, by omega, m_eq _ _ _ _, fun fr ev => ?_⟩⟩
    rw [go0]
    refine rd_fail (by omega) (by simp) (fun z => ?_)
    rw [cd_lt z] at q59
    simp only [rdStep, tellE]
    rw [if_neg q59]
    rfl
theorem c_X8_readsItem (hm : m < 6) (hpl : σ 0 10 = nI p) (hn : σ 0 1 = nI n) (h60 : n ≤ 60) (hpn : p ≤ n) (hH : H2 σ m v) (hW : okW v) : EV Γ2 3 yX8_readsItem cX8_readsItem 3 (some .boolean) [.inr 0, .inl (nI m)] σ (itemP σ n p m v) := by
  have lt : ∀ z : Int32, cd (σ 1) n p = z → z ≠ -9 → p < n ∧ σ 1 p = z := fun z h1 h2 => by
    by_cases y : p < n
    · rw [cd_lt y] at h1; exact ⟨y, h1⟩
    · rw [show cd (σ 1) n p = -9 from if_neg y] at h1; exact absurd h1.symm h2
  refine EV.intro (by decide +kernel) (Nat.le_of_ble_eq_true rfl) ?_
  refine j_aload_n (pc := 0) dX8_readsItem_0 rfl ?_
  refine j_callVi (pc := 1) dX8_readsItem_1 k_X8_78 (c_X8_isFigure hpl hn h60 hpn rfl) (by first | rfl | with_reducible assumption) rfl rfl (by decide) rfl (Nat.le_of_ble_eq_true rfl) (fun r σ1 hp => ?_)
  obtain ⟨rfl, hp⟩ := hp
  rcases hp with ⟨q1, rfl⟩ | ⟨q1, rfl⟩
  · refine j_if_eq (pc := 4) (tgt := 13) dX8_readsItem_4 rfl (fun h => absurd h (by decide)) (fun _ => ?_)
    refine j_aload_n (pc := 7) dX8_readsItem_7 rfl ?_
    refine j_iload_n (pc := 8) dX8_readsItem_8 rfl ?_
    refine j_callVi (pc := 9) dX8_readsItem_9 k_X8_89 (c_X8_readsStep hm hpl hn h60 q1 hH hW) (by first | rfl | with_reducible assumption) rfl rfl (by decide) rfl (Nat.le_of_ble_eq_true rfl) (fun r σ1 hp => ?_)
    have hr : r = 0 ∨ r = 1 := hp.2.elim (fun z => Or.inr z.1) (fun z => Or.inl z.1)
    refine j_zret (pc := 12) dX8_readsItem_12 hr ?_
    exact hp
  · refine j_if_eq (pc := 4) (tgt := 13) dX8_readsItem_4 rfl (fun _ => ?_) (fun h => absurd h (by decide))
    refine j_aload_n (pc := 13) dX8_readsItem_13 rfl ?_
    refine j_callVi (pc := 14) dX8_readsItem_14 k_X8_70 (c_X8_codeHere hpl hn h60 hpn rfl) (by first | rfl | with_reducible assumption) rfl rfl (by decide) rfl (Nat.le_of_ble_eq_true rfl) (fun r σ1 hp => ?_)
    obtain ⟨rfl, rfl⟩ := hp
    refine j_istore_n (pc := 17) dX8_readsItem_17 (by decide) ?_
    refine j_iload_n (pc := 18) dX8_readsItem_18 rfl ?_
    refine j_bipush (pc := 19) dX8_readsItem_19 (v := 42) (by decide) ?_
    refine j_icmp_eq (pc := 21) (tgt := 32) dX8_readsItem_21 rfl (fun h21 => ?_) (fun h21 => ?_)
    · first
        | (rw [h21]
           exact c_X8_readsItemA hm hpl hn h60 (lt 42 h21 (by decide)).1 (lt 42 h21 (by decide)).2 hH hW)
        | (rw [h27]
           exact c_X8_readsItemB hm hpl hn h60 (lt 33 h27 (by decide)).1 (lt 33 h27 (by decide)).2 hH hW)
    · refine j_iload_n (pc := 24) dX8_readsItem_24 rfl ?_
      refine j_bipush (pc := 25) dX8_readsItem_25 (v := 33) (by decide) ?_
      refine j_icmp_eq (pc := 27) (tgt := 32) dX8_readsItem_27 rfl (fun h27 => ?_) (fun h27 => ?_)
      · first
          | (rw [h21]
             exact c_X8_readsItemA hm hpl hn h60 (lt 42 h21 (by decide)).1 (lt 42 h21 (by decide)).2 hH hW)
          | (rw [h27]
             exact c_X8_readsItemB hm hpl hn h60 (lt 33 h27 (by decide)).1 (lt 33 h27 (by decide)).2 hH hW)
      · refine j_iconst (pc := 30) dX8_readsItem_30 (v := 0) (by decide) ?_
        refine j_zret (pc := 31) dX8_readsItem_31 (Or.inl rfl) ?_
        refine ⟨Fr2.rf, Or.inr ⟨rfl, p, hpn, hpl, fun fr ev => ?_⟩⟩
        refine rd_fail hpn (by simp) (fun z => ?_)
        rw [cd_lt z] at q1 h21 h27
        simp only [rdStep]
        rw [if_neg h21, if_neg h27, if_neg q1]
def readsP (σ : Mm) (n m : Nat) : Int32 → Mm → Prop := fun r σ' => Fr2 m σ σ' ∧ (r = 0 ∨ r = 1) ∧ ((r = 1 ∧ ∃ v', H2 σ' m v' ∧ okW v' ∧ ∀ fr ev : Int32, rdEnd n (rdGo (σ 1) n 0 (0, fr, ev, mv0)) = .inr v') ∨ (r = 0 ∧ ∃ p', p' ≤ n ∧ σ' 0 10 = nI p' ∧ ∀ fr ev : Int32, rdEnd n (rdGo (σ 1) n 0 (0, fr, ev, mv0)) = .inl p'))
theorem Fr2.row1 {σ' : Mm} (h : Fr2 m σ σ') : σ' 1 = σ 1 := h.1 1 (by decide) (by decide)
theorem c_X8_reads (hm : m < 6) (hn : σ 0 1 = nI n) (h60 : n ≤ 60) (hH : H2 σ m mv0) : EV Γ2 4 yX8_reads cX8_reads 2 (some .boolean) [.inr 0, .inl (nI m)] σ (readsP σ n m) := by
  have loop : ∀ (q p : Nat) (σ' : Mm) (v : MV), p + q = n → σ' 0 10 = nI p → Fr2 m σ σ' → H2 σ' m v → okW v → (∀ fr ev : Int32, ∃ fr' ev' : Int32, rdGo (σ 1) n 0 (0, fr, ev, mv0) = rdGo (σ 1) (n - p) p (5, fr', ev', v)) → AJ Γ2 4 RX8 cX8_reads 2 (some .boolean) (readsP σ n m) 15 [some (.inr 0), some (.inl (nI m))] [] σ' := by
    intro q
    induction q using Nat.strongRecOn with
    | _ q ih =>
      intro p σ' v hq hpl hF hv hw hgo
      have hn' : σ' 0 1 = nI n := by rw [hF.2.1 1 (by decide)]; exact hn
      have h1 := hF.row1
      by_cases hpn : p < n
      · refine j_aload_n (pc := 15) dX8_reads_15 rfl ?_
        refine j_getI (pc := 16) dX8_reads_16 f_X8_67 (by first | rfl | with_reducible assumption) (by rfl) ?_
        refine j_top hpl ?_
        refine j_aload_n (pc := 19) dX8_reads_19 rfl ?_
        refine j_getI (pc := 20) dX8_reads_20 f_X8_63 (by first | rfl | with_reducible assumption) (by rfl) ?_
        refine j_top hn' ?_
        refine j_icmp_ge (pc := 23) (tgt := 57) dX8_reads_23 rfl (fun h23 => absurd h23 (nI_ge hpn (by omega))) (fun h23 => ?_)
        refine j_aload_n (pc := 26) dX8_reads_26 rfl ?_
        refine j_callVi (pc := 27) dX8_reads_27 k_X8_70 (c_X8_codeHere (c := σ 1 p) hpl hn' h60 (by omega) (by rw [h1]; exact cd_lt hpn)) (by first | rfl | with_reducible assumption) rfl rfl (by decide) rfl (Nat.le_of_ble_eq_true rfl) (fun r σ1 hp => ?_)
        obtain ⟨rfl, rfl⟩ := hp
        refine j_bipush (pc := 30) dX8_reads_30 (v := 32) (by decide) ?_
        refine j_icmp_eq (pc := 32) (tgt := 37) dX8_reads_32 rfl (fun h32 => ?_) (fun h32 => ?_)
        · refine j_aload_n (pc := 37) dX8_reads_37 rfl ?_
          refine j_dup (pc := 38) dX8_reads_38 ?_
          refine j_getI (pc := 39) dX8_reads_39 f_X8_67 (by first | rfl | with_reducible assumption) (by rfl) ?_
          refine j_top hpl ?_
          refine j_iconst (pc := 42) dX8_reads_42 (v := 1) (by decide) ?_
          refine j_iadd (pc := 43) dX8_reads_43 ?_
          rw [nI_1]
          refine j_put (pc := 44) dX8_reads_44 f_X8_67 (by first | rfl | with_reducible assumption) (by rfl) ?_
          refine j_aload_n (pc := 47) dX8_reads_47 rfl ?_
          refine j_iload_n (pc := 48) dX8_reads_48 rfl ?_
          refine j_callVi (pc := 49) dX8_reads_49 k_X8_93 (c_X8_readsItem (p := p + 1) (n := n) (v := v) hm (m_eq _ _ _ _) (by rw [m_nk (by decide)]; exact hn') h60 (by omega) hv.u0 hw) (by first | rfl | with_reducible assumption) rfl rfl (by decide) rfl (Nat.le_of_ble_eq_true rfl) (fun r σ2 hp => ?_)
          obtain ⟨g1, hp⟩ := hp
          have hgo' : ∀ fr ev : Int32, ∃ fr' ev' : Int32, rdGo (σ 1) n 0 (0, fr, ev, mv0) = rdGo (σ 1) (n - (p + 1)) (p + 1) (0, fr', ev', v) := fun fr ev => by
            obtain ⟨fr', ev', e⟩ := hgo fr ev
            exact ⟨fr', ev', e.trans (rd_some hpn (if_pos h32))⟩
          rw [m_ne (show (1 : Nat) ≠ 0 by decide), h1] at hp
          refine j_if_ne (pc := 52) (tgt := 15) dX8_reads_52 rfl (fun h52 => ?_) (fun h52 => ?_)
          · rcases hp with ⟨hr, p', v', g2, g3, g4, g5, g6, g7⟩ | ⟨hr, -⟩
            · refine ih (n - p') (by omega) p' σ2 v' (by omega) g4 ((hF.u0).tr g1) g5 g6 (fun fr ev => ?_)
              obtain ⟨fr', ev', e⟩ := hgo' fr ev
              obtain ⟨fr2, ev2, e2⟩ := g7 fr' ev'
              exact ⟨fr2, ev2, e.trans e2⟩
            · exact absurd hr h52
          · refine j_iconst (pc := 55) dX8_reads_55 (v := 0) (by decide) ?_
            refine j_zret (pc := 56) dX8_reads_56 (Or.inl rfl) ?_
            rcases hp with ⟨hr, -⟩ | ⟨hr, p', g2, g3, g4⟩
            · exact absurd h52 (by rw [hr]; decide)
            · refine ⟨(hF.u0).tr g1, Or.inl rfl, Or.inr ⟨rfl, p', g2, g3, fun fr ev => ?_⟩⟩
              obtain ⟨fr', ev', e⟩ := hgo' fr ev
              rw [e]
              exact g4 fr' ev'
        · refine j_iconst (pc := 35) dX8_reads_35 (v := 0) (by decide) ?_
          refine j_zret (pc := 36) dX8_reads_36 (Or.inl rfl) ?_
          refine ⟨hF, Or.inl rfl, Or.inr ⟨rfl, p, by omega, hpl, fun fr ev => ?_⟩⟩
          obtain ⟨fr', ev', e⟩ := hgo fr ev
          rw [e, show n - p = n - (p + 1) + 1 by omega]
          simp only [rdGo, rdStep, if_neg h32, rdEnd]
      · obtain rfl : p = n := by omega
        refine j_aload_n (pc := 15) dX8_reads_15 rfl ?_
        refine j_getI (pc := 16) dX8_reads_16 f_X8_67 (by first | rfl | with_reducible assumption) (by rfl) ?_
        refine j_top hpl ?_
        refine j_aload_n (pc := 19) dX8_reads_19 rfl ?_
        refine j_getI (pc := 20) dX8_reads_20 f_X8_63 (by first | rfl | with_reducible assumption) (by rfl) ?_
        refine j_top hn' ?_
        refine j_icmp_ge (pc := 23) (tgt := 57) dX8_reads_23 rfl (fun h23 => ?_) (fun h23 => absurd (Int32.le_refl _) h23)
        refine j_iconst (pc := 57) dX8_reads_57 (v := 1) (by decide) ?_
        refine j_zret (pc := 58) dX8_reads_58 (Or.inr rfl) ?_
        refine ⟨hF, Or.inr rfl, Or.inl ⟨rfl, v, hv, hw, fun fr ev => ?_⟩⟩
        obtain ⟨fr', ev', e⟩ := hgo fr ev
        rw [e, Nat.sub_self]
        rfl
  refine EV.intro (by decide +kernel) (Nat.le_of_ble_eq_true rfl) ?_
  refine j_aload_n (pc := 0) dX8_reads_0 rfl ?_
  refine j_iconst (pc := 1) dX8_reads_1 (v := 0) (by decide) ?_
  refine j_put (pc := 2) dX8_reads_2 f_X8_67 (by first | rfl | with_reducible assumption) (by rfl) ?_
  refine j_aload_n (pc := 5) dX8_reads_5 rfl ?_
  refine j_iload_n (pc := 6) dX8_reads_6 rfl ?_
  refine j_callVi (pc := 7) dX8_reads_7 k_X8_93 (c_X8_readsItem (p := 0) (n := n) (v := mv0) hm (m_eq _ _ _ _) (by rw [m_nk (by decide)]; exact hn) h60 (by omega) hH.u0 okW_0) (by first | rfl | with_reducible assumption) rfl rfl (by decide) rfl (Nat.le_of_ble_eq_true rfl) (fun r σ1 hp => ?_)
  obtain ⟨g1, hp⟩ := hp
  rw [m_ne (show (1 : Nat) ≠ 0 by decide), Nat.sub_zero] at hp
  refine j_if_ne (pc := 10) (tgt := 15) dX8_reads_10 rfl (fun h10 => ?_) (fun h10 => ?_)
  · rcases hp with ⟨hr, p', v', g2, g3, g4, g5, g6, g7⟩ | ⟨hr, -⟩
    · exact loop (n - p') p' σ1 v' (by omega) g4 ((Fr2.rf.u0).tr g1) g5 g6 g7
    · exact absurd hr h10
  · refine j_iconst (pc := 13) dX8_reads_13 (v := 0) (by decide) ?_
    refine j_zret (pc := 14) dX8_reads_14 (Or.inl rfl) ?_
    rcases hp with ⟨hr, -⟩ | ⟨hr, p', g2, g3, g4⟩
    · exact absurd h10 (by rw [hr]; decide)
    · exact ⟨(Fr2.rf.u0).tr g1, Or.inl rfl, Or.inr ⟨rfl, p', g2, g3, g4⟩⟩
end Read3
section Machine
variable {σ : Mm} {n : Nat} {t : Nat → Int32} {N : Nat} {K : Nat → Int32} {M : Nat → MV} {fs : Int32} {h : List Int32} {pl : Int32}
def machP2 (x : Nat ⊕ MV) (r : Int32) (σ' : Mm) (n : Nat) (t : Nat → Int32) (N : Nat) (K : Nat → Int32) (M : Nat → MV) (kind fs : Int32) (h : List Int32) (pl : Int32) : Prop := match x with
  | .inl p => r = -100 - nI p ∧ R2 σ' n t N K M fs h pl
  | .inr v => r = nI N ∧ R2 σ' 0 t (N + 1) (updA K N kind) (updA M N v) fs [] 0
/-- the place behind the last MACHINE is spare -/
theorem R2.spare {σ' : Mm} (q : R2 σ n t N K M fs h pl) (h0 : ∀ k, k ≠ 10 → σ' 0 k = σ 0 k) (h1 : ∀ x, x ≠ 0 → (x < 2 ∨ 7 < x) → σ' x = σ x) (h2 : ∀ x j, 2 ≤ x → x ≤ 6 → j ≠ N → σ' x j = σ x j) (h7 : ∀ y, y < 48 * N → σ' 7 y = σ 7 y) : R2 σ' n t N K M fs h pl := by
  obtain ⟨⟨a1, a2, a3, a4, a5, a6⟩, b, c, d, e⟩ := q
  refine ⟨⟨by rw [h0 1 (by decide)]; exact a1, a2, by rw [h1 1 (by decide) (by decide)]; exact a3, by rw [h0 2 (by decide)]; exact a4, a5, fun m hm => ?_⟩, by rw [h0 9 (by decide)]; exact b, ?_, d.cells (h0 21 (by decide)) (h0 22 (by decide)) (h1 15 (by decide) (by decide)), e⟩
  · obtain ⟨⟨x1, x2, x3, x4, x5⟩, y, z⟩ := a6 m hm
    exact ⟨⟨fun x hx => by rw [h7 _ (by omega)]; exact x1 x hx, by rw [h2 3 m (by decide) (by decide) (by omega)]; exact x2, by rw [h2 4 m (by decide) (by decide) (by omega)]; exact x3, by rw [h2 5 m (by decide) (by decide) (by omega)]; exact x4, by rw [h2 6 m (by decide) (by decide) (by omega)]; exact x5⟩, by rw [h2 2 m (by decide) (by decide) (by omega)]; exact y, z⟩
  · rw [h0 14 (by decide)]
    rcases c with c | ⟨c, c'⟩
    · exact Or.inl c
    · exact Or.inr ⟨c, c'.cells (h0 11 (by decide)) (h0 20 (by decide)) (fun x _ _ => h1 x (by omega) (by omega))⟩
theorem c_X8_machine2 {kind : Int32} {σ' : Mm} (hkd : kind = 0 ∨ kind = 1) (hN6 : N < 6) (hR : R2 σ' n t N K M fs h pl) (h1 : σ' 1 = σ 1) (hk : σ' 2 N = kind) (hH : H2 σ' N mv0) : AJ Γ2 5 RX8 cX8_machine 4 (some .int) (fun r σ' => ∀ fr ev : Int32, machP2 (rdEnd n (rdGo (σ 1) n 0 (0, fr, ev, mv0))) r σ' n t N K M kind fs h pl) 91 [some (.inr 0), some (.inl kind), some (.inl (nI N)), some (.inl (nI 48))] [] σ' := by
  refine j_aload_n (pc := 91) dX8_machine_91 rfl ?_
  refine j_iload_n (pc := 92) dX8_machine_92 rfl ?_
  refine j_callVi (pc := 93) dX8_machine_93 k_X8_99 (c_X8_reads hN6 hR.1.1 hR.1.2.1 hH) (by first | rfl | with_reducible assumption) rfl rfl (by decide) rfl (Nat.le_of_ble_eq_true rfl) (fun r σ2 hp => ?_)
  obtain ⟨g1, g2, hp⟩ := hp
  rw [h1] at hp
  have hR2 : R2 σ2 n t N K M fs h pl := hR.spare g1.2.1 (fun x a b => g1.1 x a (by omega)) (fun x j a b c => by
    by_cases z : x = 2
    · subst z; rw [g1.1 2 (by decide) (by decide)]
    · exact g1.2.2.1 x j (by omega) b c) (fun y hy => g1.2.2.2 y (Or.inl hy))
  have hk2 : σ2 2 N = kind := by rw [g1.1 2 (by decide) (by decide)]; exact hk
  refine j_if_ne (pc := 96) (tgt := 107) dX8_machine_96 rfl (fun h96 => ?_) (fun h96 => ?_)
  · obtain ⟨v', e1, e2, e3⟩ : ∃ v', H2 σ2 N v' ∧ okW v' ∧ ∀ fr ev : Int32, rdEnd n (rdGo (σ 1) n 0 (0, fr, ev, mv0)) = .inr v' := by
      rcases hp with ⟨-, w⟩ | ⟨hr, -⟩
      · exact w
      · exact absurd hr h96
    refine j_aload_n (pc := 107) dX8_machine_107 rfl ?_
    refine j_dup (pc := 108) dX8_machine_108 ?_
    refine j_getI (pc := 109) dX8_machine_109 f_X8_96 (by first | rfl | with_reducible assumption) (by rfl) ?_
    refine j_top hR2.1.2.2.2.1 ?_
    refine j_iconst (pc := 112) dX8_machine_112 (v := 1) (by decide) ?_
    refine j_iadd (pc := 113) dX8_machine_113 ?_
    rw [nI_1]
    refine j_put (pc := 114) dX8_machine_114 f_X8_96 (by first | rfl | with_reducible assumption) (by rfl) ?_
    refine j_aload_n (pc := 117) dX8_machine_117 rfl ?_
    refine j_iconst (pc := 118) dX8_machine_118 (v := 0) (by decide) ?_
    refine j_put (pc := 119) dX8_machine_119 f_X8_63 (by first | rfl | with_reducible assumption) (by rfl) ?_
    refine j_aload_n (pc := 122) dX8_machine_122 rfl ?_
    refine j_callVv (pc := 123) dX8_machine_123 k_X8_102 (c_X8_begins _) (by first | rfl | with_reducible assumption) rfl rfl (by decide) rfl (Nat.le_of_ble_eq_true rfl) (fun σ1 hp => ?_)
    obtain rfl := hp
    refine j_iload_n (pc := 126) dX8_machine_126 rfl ?_
    refine j_iret (pc := 127) dX8_machine_127 ?_
    intro fr ev
    rw [e3 fr ev]
    have pre : R2b (m_up (m_up σ2 0 2 (nI (N + 1))) 0 1 0) 0 t (N + 1) (updA K N kind) (updA M N v') := by
      obtain ⟨a1, a2, a3, a4, a5, a6⟩ := hR2.1
      refine ⟨m_eq _ _ _ _, by decide, fun i hi => absurd hi (Nat.not_lt_zero _), by rw [m_nk (by decide), m_eq], by omega, fun m hm => ?_⟩
      by_cases z : m = N
      · subst z
        rw [updA_s, updA_s]
        exact ⟨e1.cells (fun x _ _ => by rw [m_ne (by omega), m_ne (by omega)]), by rw [m_ne (by decide), m_ne (by decide)]; exact hk2, rd_okV hkd (e3 0 0)⟩
      · rw [updA_n z, updA_n z]
        obtain ⟨x, y, w⟩ := a6 m (by omega)
        exact ⟨x.cells (fun x _ _ => by rw [m_ne (by omega), m_ne (by omega)]), by rw [m_ne (by decide), m_ne (by decide)]; exact y, w⟩
    have hB := R2.begin pre
    rw [m_nk (by decide), m_nk (by decide), hR2.2.1] at hB
    exact ⟨rfl, hB⟩
  · refine j_bipush (pc := 99) dX8_machine_99 (v := (-100)) (by decide) ?_
    refine j_aload_n (pc := 101) dX8_machine_101 rfl ?_
    refine j_getI (pc := 102) dX8_machine_102 f_X8_67 (by first | rfl | with_reducible assumption) (by rfl) ?_
    refine j_isub (pc := 105) dX8_machine_105 ?_
    refine j_iret (pc := 106) dX8_machine_106 ?_
    rcases hp with ⟨hr, -⟩ | ⟨hr, p', e1, e2, e3⟩
    · exact absurd h96 (by rw [hr]; decide)
    · intro fr ev
      rw [e3 fr ev]
      exact ⟨by rw [e2], hR2⟩
theorem c_X8_machine (kind : Int32) (q : R2 σ n t N K M fs h pl) : EV Γ2 5 yX8_machine cX8_machine 4 (some .int) [.inr 0, .inl kind] σ (fun r σ' => (¬ (kind = 0 ∨ kind = 1) ∧ r = -2 ∧ σ = σ') ∨ ((kind = 0 ∨ kind = 1) ∧ N = 6 ∧ r = -4 ∧ σ = σ') ∨ ((kind = 0 ∨ kind = 1) ∧ N < 6 ∧ ∀ fr ev : Int32, machP2 (rdEnd n (rdGo (σ 1) n 0 (0, fr, ev, mv0))) r σ' n t N K M kind fs h pl)) := by
  have hN := q.1.2.2.2.1
  have h6 := q.1.2.2.2.2.1
  have loop : N < 6 → (kind = 0 ∨ kind = 1) → ∀ (k x : Nat) (σ' : Mm), x + k = 48 → R2 σ' n t N K M fs h pl → σ' 1 = σ 1 → σ' 2 N = kind → σ' 3 N = 0 → σ' 4 N = 0 → σ' 5 N = 0 → σ' 6 N = 0 → (∀ y, y < x → σ' 7 (48 * N + y) = -9) → AJ Γ2 5 RX8 cX8_machine 4 (some .int) (fun r σ' => ∀ fr ev : Int32, machP2 (rdEnd n (rdGo (σ 1) n 0 (0, fr, ev, mv0))) r σ' n t N K M kind fs h pl) 66 [some (.inr 0), some (.inl kind), some (.inl (nI N)), some (.inl (nI x))] [] σ' := by
    intro hN6 hkd k
    induction k with
    | zero =>
      intro x σ' hx hR h1 h2 h3 h4 h5 h6' h7
      obtain rfl : x = 48 := by omega
      refine j_iload_n (pc := 66) dX8_machine_66 rfl ?_
      refine j_bipush (pc := 67) dX8_machine_67 (v := 48) (by decide) ?_
      refine j_icmp_ge (pc := 69) (tgt := 91) dX8_machine_69 rfl (fun h69 => ?_) (fun h69 => absurd (by decide) h69)
      exact c_X8_machine2 hkd hN6 hR h1 h2 ⟨h7, h3, h4, h5, h6'⟩
    | succ k ih =>
      intro x σ' hx hR h1 h2 h3 h4 h5 h6' h7
      refine j_iload_n (pc := 66) dX8_machine_66 rfl ?_
      refine j_bipush (pc := 67) dX8_machine_67 (v := 48) (by decide) ?_
      refine j_icmp_ge (pc := 69) (tgt := 91) dX8_machine_69 rfl (fun h69 => absurd h69 (nI_ge (b := 48) (by omega) (by decide))) (fun h69 => ?_)
      refine j_aload_n (pc := 72) dX8_machine_72 rfl ?_
      refine j_getR (pc := 73) dX8_machine_73 f_X8_28 (by first | rfl | with_reducible assumption) (by rfl) ?_
      refine j_bipush (pc := 76) dX8_machine_76 (v := 48) (by decide) ?_
      refine j_iload_n (pc := 78) dX8_machine_78 rfl ?_
      refine j_imul (pc := 79) dX8_machine_79 ?_
      refine j_iload_n (pc := 80) dX8_machine_80 rfl ?_
      refine j_iadd (pc := 81) dX8_machine_81 ?_
      refine j_top (y := nI (48 * N + x)) (by rw [show (48 : Int32) = nI 48 from rfl, pk_mul, nI_add]) ?_
      refine j_bipush (pc := 82) dX8_machine_82 (v := (-9)) (by decide) ?_
      refine j_iast (pc := 84) dX8_machine_84 (by first | rfl | with_reducible assumption) (vp_in_nI (by omega) (by decide)) ?_
      rw [nI_clamp (show 48 * N + x < 2 ^ 31 by omega)]
      refine j_iinc1 (pc := 85) dX8_machine_85 rfl ?_
      refine j_goto (pc := 88) (tgt := 66) dX8_machine_88 rfl ?_
      rw [nI_1]
      refine ih (x + 1) _ (by omega) (hR.spare (fun k _ => by rw [m_ne (by decide)]) (fun y a b => m_ne (by omega)) (fun y j a b c => by rw [m_ne (by omega)]) (fun y hy => m_nk (by omega))) ?_ ?_ ?_ ?_ ?_ ?_ (fun y hy => ?_)
      · rw [m_ne (by decide)]; exact h1
      · rw [m_ne (by decide)]; exact h2
      · rw [m_ne (by decide)]; exact h3
      · rw [m_ne (by decide)]; exact h4
      · rw [m_ne (by decide)]; exact h5
      · rw [m_ne (by decide)]; exact h6'
      · by_cases z : y = x
        · subst z; exact m_eq _ _ _ _
        · rw [m_nk (by omega)]; exact h7 y (by omega)
  refine EV.intro (by decide +kernel) (Nat.le_of_ble_eq_true rfl) ?_
  refine j_iload_n (pc := 0) dX8_machine_0 rfl ?_
  refine j_iconst (pc := 1) dX8_machine_1 (v := 0) (by decide) ?_
  refine j_iconst (pc := 2) dX8_machine_2 (v := 1) (by decide) ?_
  refine j_callSi (pc := 3) dX8_machine_3 k_X8_59 (c_X8_within _ _ _ _) rfl (by decide) rfl (Nat.le_of_ble_eq_true rfl) (fun r σ1 hp => ?_)
  obtain ⟨rfl, hp⟩ := hp
  rcases hp with ⟨q3, rfl⟩ | ⟨q3, rfl⟩
  · have hkd : kind = 0 ∨ kind = 1 := by (simp only [Int32.lt_iff_toInt_lt, Int32.le_iff_toInt_le, ← Int32.toInt_inj, vp_in_iff, ti_0, ti_1, ti_2, ti_3, ti_4, ti_5, ti_6, ti_7, ti_8, ti_16, ti_48, ti_53, ti_60, ti_97, ti_104, ti_127, ti_149, ti_150, ti_151, ti_256, ti_1200, ti_m1, ti_m2, ti_m3, ti_m4, ti_m9] at *; omega)
    refine j_if_ne (pc := 6) (tgt := 12) dX8_machine_6 rfl (fun _ => ?_) (fun h => absurd h (by decide))
    refine j_aload_n (pc := 12) dX8_machine_12 rfl ?_
    refine j_getI (pc := 13) dX8_machine_13 f_X8_96 (by first | rfl | with_reducible assumption) (by rfl) ?_
    refine j_top hN ?_
    refine j_bipush (pc := 16) dX8_machine_16 (v := 6) (by decide) ?_
    refine j_icmp_ne (pc := 18) (tgt := 24) dX8_machine_18 rfl (fun h18 => ?_) (fun h18 => ?_)
    · have hN6 : N < 6 := by
        have : N ≠ 6 := fun z => h18 (by rw [z]; rfl)
        omega
      have hcN : (nI N).toNatClampNeg = N := nI_clamp (by omega)
      refine j_aload_n (pc := 24) dX8_machine_24 rfl ?_
      refine j_getI (pc := 25) dX8_machine_25 f_X8_96 (by first | rfl | with_reducible assumption) (by rfl) ?_
      refine j_top hN ?_
      refine j_istore_n (pc := 28) dX8_machine_28 (by decide) ?_
      refine j_aload_n (pc := 29) dX8_machine_29 rfl ?_
      refine j_getR (pc := 30) dX8_machine_30 f_X8_13 (by first | rfl | with_reducible assumption) (by rfl) ?_
      refine j_iload_n (pc := 33) dX8_machine_33 rfl ?_
      refine j_iload_n (pc := 34) dX8_machine_34 rfl ?_
      refine j_iast (pc := 35) dX8_machine_35 (by first | rfl | with_reducible assumption) (vp_in_nI hN6 (by decide)) ?_
      rw [hcN]
      refine j_aload_n (pc := 36) dX8_machine_36 rfl ?_
      refine j_getR (pc := 37) dX8_machine_37 f_X8_16 (by first | rfl | with_reducible assumption) (by rfl) ?_
      refine j_iload_n (pc := 40) dX8_machine_40 rfl ?_
      refine j_iconst (pc := 41) dX8_machine_41 (v := 0) (by decide) ?_
      refine j_iast (pc := 42) dX8_machine_42 (by first | rfl | with_reducible assumption) (vp_in_nI hN6 (by decide)) ?_
      rw [hcN]
      refine j_aload_n (pc := 43) dX8_machine_43 rfl ?_
      refine j_getR (pc := 44) dX8_machine_44 f_X8_19 (by first | rfl | with_reducible assumption) (by rfl) ?_
      refine j_iload_n (pc := 47) dX8_machine_47 rfl ?_
      refine j_iconst (pc := 48) dX8_machine_48 (v := 0) (by decide) ?_
      refine j_iast (pc := 49) dX8_machine_49 (by first | rfl | with_reducible assumption) (vp_in_nI hN6 (by decide)) ?_
      rw [hcN]
      refine j_aload_n (pc := 50) dX8_machine_50 rfl ?_
      refine j_getR (pc := 51) dX8_machine_51 f_X8_22 (by first | rfl | with_reducible assumption) (by rfl) ?_
      refine j_iload_n (pc := 54) dX8_machine_54 rfl ?_
      refine j_iconst (pc := 55) dX8_machine_55 (v := 0) (by decide) ?_
      refine j_iast (pc := 56) dX8_machine_56 (by first | rfl | with_reducible assumption) (vp_in_nI hN6 (by decide)) ?_
      rw [hcN]
      refine j_aload_n (pc := 57) dX8_machine_57 rfl ?_
      refine j_getR (pc := 58) dX8_machine_58 f_X8_25 (by first | rfl | with_reducible assumption) (by rfl) ?_
      refine j_iload_n (pc := 61) dX8_machine_61 rfl ?_
      refine j_iconst (pc := 62) dX8_machine_62 (v := 0) (by decide) ?_
      refine j_iast (pc := 63) dX8_machine_63 (by first | rfl | with_reducible assumption) (vp_in_nI hN6 (by decide)) ?_
      rw [hcN]
      refine j_iconst (pc := 64) dX8_machine_64 (v := 0) (by decide) ?_
      refine j_istore_n (pc := 65) dX8_machine_65 (by decide) ?_
      refine AJ.mono (fun r σ' z => Or.inr (Or.inr ⟨hkd, hN6, z⟩)) (loop hN6 hkd 48 0 _ rfl (q.spare (fun k _ => ?_) (fun y a b => ?_) (fun y j a b c => ?_) (fun y hy => ?_)) ?_ ?_ ?_ ?_ ?_ ?_ (fun y hy => absurd hy (Nat.not_lt_zero _)))
      · rw [m_ne (by decide), m_ne (by decide), m_ne (by decide), m_ne (by decide), m_ne (by decide)]
      · rw [m_ne (by omega), m_ne (by omega), m_ne (by omega), m_ne (by omega), m_ne (by omega)]
      · rw [m_nx (fun z => c z.2), m_nx (fun z => c z.2), m_nx (fun z => c z.2), m_nx (fun z => c z.2), m_nx (fun z => c z.2)]
      · rw [m_ne (by decide), m_ne (by decide), m_ne (by decide), m_ne (by decide), m_ne (by decide)]
      · rw [m_ne (by decide), m_ne (by decide), m_ne (by decide), m_ne (by decide), m_ne (by decide)]
      · rw [m_ne (by decide), m_ne (by decide), m_ne (by decide), m_ne (by decide), m_eq]
      · rw [m_ne (by decide), m_ne (by decide), m_ne (by decide), m_eq]
      · rw [m_ne (by decide), m_ne (by decide), m_eq]
      · rw [m_ne (by decide), m_eq]
      · rw [m_eq]
    · refine j_bipush (pc := 21) dX8_machine_21 (v := (-4)) (by decide) ?_
      refine j_iret (pc := 23) dX8_machine_23 ?_
      exact Or.inr (Or.inl ⟨hkd, (nI_eq (b := 6) (by omega) (by decide)).mp h18, rfl, rfl⟩)
  · have hkd : ¬ (kind = 0 ∨ kind = 1) := by (simp only [Int32.lt_iff_toInt_lt, Int32.le_iff_toInt_le, ← Int32.toInt_inj, vp_in_iff, ti_0, ti_1, ti_2, ti_3, ti_4, ti_5, ti_6, ti_7, ti_8, ti_16, ti_48, ti_53, ti_60, ti_97, ti_104, ti_127, ti_149, ti_150, ti_151, ti_256, ti_1200, ti_m1, ti_m2, ti_m3, ti_m4, ti_m9] at *; omega)
    refine j_if_ne (pc := 6) (tgt := 12) dX8_machine_6 rfl (fun h => absurd h (by decide)) (fun _ => ?_)
    refine j_bipush (pc := 9) dX8_machine_9 (v := (-2)) (by decide) ?_
    refine j_iret (pc := 11) dX8_machine_11 ?_
    exact Or.inl ⟨hkd, rfl, rfl⟩
end Machine
