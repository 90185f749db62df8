/-! LEASTBARSMODEL: builds -/
section Build2
variable {σ : Mm} {n0 : Nat} {t : Nat → Int32} {N : Nat} {K : Nat → Int32} {M : Nat → MV} {set : Int32}
theorem B2.same {T : Tab} {x : Nat} {v : Int32} (h : B2 σ T set x) (hc : csx T set (x + 1) = csx T set x) (hv : v = toX T set x) : B2 (m_up σ 9 x v) T set (x + 1) := by
  obtain ⟨h1, h2, h3, h4⟩ := h
  unfold B2
  rw [hc]
  refine ⟨h1, by rw [m_ne (by decide)]; exact h2, by rw [m_ne (by decide)]; exact h3, fun y hy => ?_⟩
  by_cases z : y = x
  · subst z; rw [m_eq]; exact hv
  · rw [m_nk z]; exact h4 y (by omega)
theorem B2.add {T : Tab} {x : Nat} {c : Int32} (h : B2 σ T set x) (hl : (csx T set x).length < 150) (hc : csx T set (x + 1) = csx T set x ++ [c]) (hv : nI (csx T set x).length = toX T set x) : B2 (m_up (m_up (m_up σ 8 (csx T set x).length c) 0 11 (nI ((csx T set x).length + 1))) 9 x (nI (csx T set x).length)) T set (x + 1) := by
  obtain ⟨h1, h2, h3, h4⟩ := h
  unfold B2
  rw [hc, List.length_append]
  refine ⟨by simp only [List.length_cons, List.length_nil]; omega, by rw [m_ne (by decide), m_eq]; rfl, fun i c' hi => ?_, fun y hy => ?_⟩
  · rw [m_ne (by decide), m_ne (by decide)]
    by_cases z : i = (csx T set x).length
    · subst z
      rw [List.getElem?_append_right (Nat.le_refl _), Nat.sub_self] at hi
      rw [m_eq]
      simpa using hi
    · rw [m_nk z]
      refine h3 i c' ?_
      rw [← hi]
      by_cases y : i < (csx T set x).length
      · rw [List.getElem?_append_left y]
      · exfalso
        rw [List.getElem?_append_right (by omega)] at hi
        have : i - (csx T set x).length ≠ 0 := by omega
        obtain ⟨k, hk⟩ := Nat.exists_eq_succ_of_ne_zero this
        rw [hk] at hi
        simp at hi
  · by_cases z : y = x
    · subst z; rw [m_eq]; exact hv
    · rw [m_nk z, m_ne (by decide), m_ne (by decide)]; exact h4 y (by omega)
theorem c_X8_builds (hb : R2b σ n0 t N K M) (hs : ∀ m, bt set m = true → m < N) : EV Γ2 2 yX8_builds cX8_builds 6 (some .boolean) [.inr 0, .inl set] σ (buildP σ (TA N K M) set) := by
  have h6 := hb.2.2.2.2.1
  have hT : ∀ m, m < 6 → bt set m = true → okT (TA N K M) m := fun m _ q => hb.tok (hs m q)
  have inner : ∀ n, n < 150 → (∀ (σ' : Mm) (w3 w4 w5 : Option Vl), FrB σ σ' → B2 σ' (TA N K M) set (8 * (n + 1)) → AJ Γ2 2 RX8 cX8_builds 6 (some .boolean) (buildP σ (TA N K M) set) 14 [some (.inr 0), some (.inl set), some (.inl (nI (n + 1))), w3, w4, w5] [] σ') → ∀ (k e : Nat) (σ' : Mm) (w4 w5 : Option Vl), e + k = 8 → FrB σ σ' → B2 σ' (TA N K M) set (8 * n + e) → n < (csx (TA N K M) set (8 * n + e)).length → AJ Γ2 2 RX8 cX8_builds 6 (some .boolean) (buildP σ (TA N K M) set) 24 [some (.inr 0), some (.inl set), some (.inl (nI n)), some (.inl (nI e)), w4, w5] [] σ' := by
    intro n hn next k
    induction k with
    | zero =>
      intro e σ' w4 w5 he hF hB hnl
      obtain rfl : e = 8 := by omega
      refine j_iload_n (pc := 24) dX8_builds_24 rfl ?_
      refine j_bipush (pc := 25) dX8_builds_25 (v := 8) (by decide) ?_
      refine j_icmp_ge (pc := 27) (tgt := 141) dX8_builds_27 rfl (fun h27 => ?_) (fun h27 => absurd (by decide) h27)
      refine j_iinc1 (pc := 141) dX8_builds_141 rfl ?_
      refine j_goto (pc := 144) (tgt := 14) dX8_builds_144 rfl ?_
      rw [nI_1]
      exact next _ _ _ _ hF hB
    | succ k ih =>
      intro e σ' w4 w5 he hF hB hnl
      have hb' := hb.frB hF
      have hg : (csx (TA N K M) set (8 * n + e))[n]? = some (csx (TA N K M) set (8 * n + e))[n] := List.getElem?_eq_getElem hnl
      generalize hc0 : (csx (TA N K M) set (8 * n + e))[n] = c at hg
      have hc8 := hB.2.2.1 n c hg
      have hok : okC c := csx_ok _ _ hT _ c (List.mem_of_getElem? hg)
      have hnx : nxt (TA N K M) set (csx (TA N K M) set (8 * n + e)) (8 * n + e) = led (TA N K M) set c e := by
        unfold nxt
        rw [show (8 * n + e) / 8 = n by omega, show (8 * n + e) % 8 = e by omega, hg]
        rfl
      have hcn : (nI n).toNatClampNeg = n := nI_clamp (by omega)
      have hvn : vp_in (nI n) 150 := vp_in_nI hn (by decide)
      have hx8 : (8 : Int32) * nI n + nI e = nI (8 * n + e) := by rw [show (8 : Int32) = nI 8 from rfl, pk_mul, nI_add]
      have hcx : (nI (8 * n + e)).toNatClampNeg = 8 * n + e := nI_clamp (by omega)
      have hvx : vp_in (nI (8 * n + e)) 1200 := vp_in_nI (by omega) (by decide)
      cases hl : led (TA N K M) set c e with
      | none =>
        have hcs := csx_none (TA N K M) set (hnx.trans hl)
        have hto : (-9 : Int32) = toX (TA N K M) set (8 * n + e) := by
          unfold toX
          rw [hnx, hl]
        refine j_iload_n (pc := 24) dX8_builds_24 rfl ?_
        refine j_bipush (pc := 25) dX8_builds_25 (v := 8) (by decide) ?_
        refine j_icmp_ge (pc := 27) (tgt := 141) dX8_builds_27 rfl (fun h27 => absurd h27 (nI_ge (b := 8) (by omega) (by decide))) (fun h27 => ?_)
        refine j_aload_n (pc := 30) dX8_builds_30 rfl ?_
        refine j_aload_n (pc := 31) dX8_builds_31 rfl ?_
        refine j_getR (pc := 32) dX8_builds_32 f_X8_31 (by first | rfl | with_reducible assumption) (by rfl) ?_
        refine j_iload_n (pc := 35) dX8_builds_35 rfl ?_
        refine j_iald (pc := 36) dX8_builds_36 (by first | rfl | with_reducible assumption) hvn ?_
        refine j_top (y := c) (by rw [hcn]; exact hc8) ?_
        refine j_iload_n (pc := 37) dX8_builds_37 rfl ?_
        refine j_iload_n (pc := 38) dX8_builds_38 rfl ?_
        refine j_callVi (pc := 39) dX8_builds_39 k_X8_134 (c_X8_led hb' hs hok (by omega)) (by first | rfl | with_reducible assumption) rfl rfl (by decide) rfl (Nat.le_of_ble_eq_true rfl) (fun r σ1 hp => ?_)
        obtain ⟨rfl, rfl⟩ := hp
        rw [hl]
        refine j_top (y := -9) rfl ?_
        refine j_istore (pc := 42) dX8_builds_42 (by decide) ?_
        refine j_iload (pc := 44) dX8_builds_44 rfl ?_
        refine j_bipush (pc := 46) dX8_builds_46 (v := (-9)) (by decide) ?_
        refine j_icmp_ne (pc := 48) (tgt := 56) dX8_builds_48 rfl (fun h48 => absurd rfl h48) (fun h48 => ?_)
        refine j_bipush (pc := 51) dX8_builds_51 (v := (-9)) (by decide) ?_
        refine j_goto (pc := 53) (tgt := 62) dX8_builds_53 rfl ?_
        refine j_istore (pc := 62) dX8_builds_62 (by decide) ?_
        refine j_iload (pc := 64) dX8_builds_64 rfl ?_
        refine j_bipush (pc := 66) dX8_builds_66 (v := (-9)) (by decide) ?_
        refine j_icmp_eq (pc := 68) (tgt := 122) dX8_builds_68 rfl (fun h68 => ?_) (fun h68 => absurd rfl h68)
        refine j_aload_n (pc := 122) dX8_builds_122 rfl ?_
        refine j_getR (pc := 123) dX8_builds_123 f_X8_34 (by first | rfl | with_reducible assumption) (by rfl) ?_
        refine j_bipush (pc := 126) dX8_builds_126 (v := 8) (by decide) ?_
        refine j_iload_n (pc := 128) dX8_builds_128 rfl ?_
        refine j_imul (pc := 129) dX8_builds_129 ?_
        refine j_iload_n (pc := 130) dX8_builds_130 rfl ?_
        refine j_iadd (pc := 131) dX8_builds_131 ?_
        refine j_top hx8 ?_
        refine j_iload (pc := 132) dX8_builds_132 rfl ?_
        refine j_iast (pc := 134) dX8_builds_134 (by first | rfl | with_reducible assumption) hvx ?_
        refine j_iinc1 (pc := 135) dX8_builds_135 rfl ?_
        refine j_goto (pc := 138) (tgt := 24) dX8_builds_138 rfl ?_
        rw [nI_1, hcx]
        exact ih (e + 1) _ _ _ (by omega) hF.u9 (hB.same hcs hto) (by rw [show 8 * n + (e + 1) = 8 * n + e + 1 by omega, hcs]; exact hnl)
      | some c' =>
        have hok' : okC c' := led_ok _ _ hT hok (by omega) hl
        have hc9 := okC_9 hok'
        have hcs := csx_some (TA N K M) set (hnx.trans hl)
        refine j_iload_n (pc := 24) dX8_builds_24 rfl ?_
        refine j_bipush (pc := 25) dX8_builds_25 (v := 8) (by decide) ?_
        refine j_icmp_ge (pc := 27) (tgt := 141) dX8_builds_27 rfl (fun h27 => absurd h27 (nI_ge (b := 8) (by omega) (by decide))) (fun h27 => ?_)
        refine j_aload_n (pc := 30) dX8_builds_30 rfl ?_
        refine j_aload_n (pc := 31) dX8_builds_31 rfl ?_
        refine j_getR (pc := 32) dX8_builds_32 f_X8_31 (by first | rfl | with_reducible assumption) (by rfl) ?_
        refine j_iload_n (pc := 35) dX8_builds_35 rfl ?_
        refine j_iald (pc := 36) dX8_builds_36 (by first | rfl | with_reducible assumption) hvn ?_
        refine j_top (y := c) (by rw [hcn]; exact hc8) ?_
        refine j_iload_n (pc := 37) dX8_builds_37 rfl ?_
        refine j_iload_n (pc := 38) dX8_builds_38 rfl ?_
        refine j_callVi (pc := 39) dX8_builds_39 k_X8_134 (c_X8_led hb' hs hok (by omega)) (by first | rfl | with_reducible assumption) rfl rfl (by decide) rfl (Nat.le_of_ble_eq_true rfl) (fun r σ1 hp => ?_)
        obtain ⟨rfl, rfl⟩ := hp
        rw [hl]
        refine j_top (y := c') rfl ?_
        refine j_istore (pc := 42) dX8_builds_42 (by decide) ?_
        refine j_iload (pc := 44) dX8_builds_44 rfl ?_
        refine j_bipush (pc := 46) dX8_builds_46 (v := (-9)) (by decide) ?_
        refine j_icmp_ne (pc := 48) (tgt := 56) dX8_builds_48 rfl (fun h48 => ?_) (fun h48 => absurd h48 hc9)
        refine j_aload_n (pc := 56) dX8_builds_56 rfl ?_
        refine j_iload (pc := 57) dX8_builds_57 rfl ?_
        refine j_callVi (pc := 59) dX8_builds_59 k_X8_137 (c_X8_numberOf c' hB.2.1 hB.1) (by first | rfl | with_reducible assumption) rfl rfl (by decide) rfl (Nat.le_of_ble_eq_true rfl) (fun r σ1 hp => ?_)
        obtain ⟨rfl, hp⟩ := hp
        refine j_istore (pc := 62) dX8_builds_62 (by decide) ?_
        refine j_iload (pc := 64) dX8_builds_64 rfl ?_
        refine j_bipush (pc := 66) dX8_builds_66 (v := (-9)) (by decide) ?_
        refine j_icmp_eq (pc := 68) (tgt := 122) dX8_builds_68 rfl (fun h68 => absurd h68 hc9) (fun h68 => ?_)
        refine j_iload (pc := 71) dX8_builds_71 rfl ?_
        refine j_bipush (pc := 73) dX8_builds_73 (v := (-9)) (by decide) ?_
        refine j_icmp_ne (pc := 75) (tgt := 122) dX8_builds_75 rfl (fun h75 => ?_) (fun h75 => ?_)
        · obtain ⟨i, hi, hic, rfl⟩ := hp.resolve_right (fun z => h75 z.2)
          have hig : (csx (TA N K M) set (8 * n + e))[i]? = some c' := by
            have hl2 : i < (csx (TA N K M) set (8 * n + e)).length := hi
            rw [List.getElem?_eq_getElem hl2]
            rw [← hic, hB.2.2.1 i _ (List.getElem?_eq_getElem hl2)]
          rw [if_pos (List.mem_of_getElem? hig)] at hcs
          refine j_aload_n (pc := 122) dX8_builds_122 rfl ?_
          refine j_getR (pc := 123) dX8_builds_123 f_X8_34 (by first | rfl | with_reducible assumption) (by rfl) ?_
          refine j_bipush (pc := 126) dX8_builds_126 (v := 8) (by decide) ?_
          refine j_iload_n (pc := 128) dX8_builds_128 rfl ?_
          refine j_imul (pc := 129) dX8_builds_129 ?_
          refine j_iload_n (pc := 130) dX8_builds_130 rfl ?_
          refine j_iadd (pc := 131) dX8_builds_131 ?_
          refine j_top hx8 ?_
          refine j_iload (pc := 132) dX8_builds_132 rfl ?_
          refine j_iast (pc := 134) dX8_builds_134 (by first | rfl | with_reducible assumption) hvx ?_
          refine j_iinc1 (pc := 135) dX8_builds_135 rfl ?_
          refine j_goto (pc := 138) (tgt := 24) dX8_builds_138 rfl ?_
          rw [nI_1, hcx]
          rcases toX_cases (TA N K M) set (8 * n + e) with ⟨y1, -⟩ | ⟨c2, j, y1, y2, y3, y4⟩
          · rw [hnx, hl] at y1; cases y1
          · rw [hnx, hl] at y1
            cases y1
            rw [hcs] at y4
            first
              | (have hij := nodup_idx (csx_nodup _ _ _) hig y4
                 refine ih (e + 1) _ _ _ (by omega) hF.u9 (hB.same hcs (by rw [y2, hij])) (by rw [show 8 * n + (e + 1) = 8 * n + e + 1 by omega, hcs]; exact hnl))
              | (have hij : (csx (TA N K M) set (8 * n + e)).length = j := nodup_idx (l := csx (TA N K M) set (8 * n + e) ++ [c']) (by rw [← hcs]; exact csx_nodup _ _ _) (by simp) y4
                 refine ih (e + 1) _ _ _ (by omega) hF.u8.uj.u9 (hB.add hlt hcs (by rw [y2, hij])) (by rw [show 8 * n + (e + 1) = 8 * n + e + 1 by omega, hcs, List.length_append]; omega))
        · have hno : c' ∉ csx (TA N K M) set (8 * n + e) := fun z => by
            obtain ⟨i, hi, hie⟩ := List.mem_iff_getElem.mp z
            rcases hp with ⟨j, hj, hje, hjr⟩ | ⟨hj, -⟩
            · rw [hjr] at h75; have := hB.1; exact absurd h75 (nI_z (by omega))
            · exact hj i hi (hB.2.2.1 i c' (by rw [List.getElem?_eq_getElem hi, hie]))
          rw [if_neg hno] at hcs
          refine j_aload_n (pc := 78) dX8_builds_78 rfl ?_
          refine j_getI (pc := 79) dX8_builds_79 f_X8_131 (by first | rfl | with_reducible assumption) (by rfl) ?_
          refine j_top hB.2.1 ?_
          refine j_sipush (pc := 82) dX8_builds_82 (v := 150) (by decide) ?_
          refine j_icmp_ne (pc := 85) (tgt := 95) dX8_builds_85 rfl (fun h85 => ?_) (fun h85 => ?_)
          · have hlt : (csx (TA N K M) set (8 * n + e)).length < 150 := by
              have h1 := hB.1
              have : (csx (TA N K M) set (8 * n + e)).length ≠ 150 := fun z => h85 (by rw [z]; rfl)
              omega
            refine j_aload_n (pc := 95) dX8_builds_95 rfl ?_
            refine j_getI (pc := 96) dX8_builds_96 f_X8_131 (by first | rfl | with_reducible assumption) (by rfl) ?_
            refine j_top hB.2.1 ?_
            refine j_istore (pc := 99) dX8_builds_99 (by decide) ?_
            refine j_aload_n (pc := 101) dX8_builds_101 rfl ?_
            refine j_getR (pc := 102) dX8_builds_102 f_X8_31 (by first | rfl | with_reducible assumption) (by rfl) ?_
            refine j_aload_n (pc := 105) dX8_builds_105 rfl ?_
            refine j_getI (pc := 106) dX8_builds_106 f_X8_131 (by first | rfl | with_reducible assumption) (by rfl) ?_
            refine j_top hB.2.1 ?_
            refine j_iload (pc := 109) dX8_builds_109 rfl ?_
            refine j_iast (pc := 111) dX8_builds_111 (by first | rfl | with_reducible assumption) (vp_in_nI hlt (by decide)) ?_
            rw [nI_clamp (show (csx (TA N K M) set (8 * n + e)).length < 2 ^ 31 by omega)]
            refine j_aload_n (pc := 112) dX8_builds_112 rfl ?_
            refine j_dup (pc := 113) dX8_builds_113 ?_
            refine j_getI (pc := 114) dX8_builds_114 f_X8_131 (by first | rfl | with_reducible assumption) (by rfl) ?_
            refine j_top (y := nI (csx (TA N K M) set (8 * n + e)).length) (by rw [m_ne (by decide)]; exact hB.2.1) ?_
            refine j_iconst (pc := 117) dX8_builds_117 (v := 1) (by decide) ?_
            refine j_iadd (pc := 118) dX8_builds_118 ?_
            rw [nI_1]
            refine j_put (pc := 119) dX8_builds_119 f_X8_131 (by first | rfl | with_reducible assumption) (by rfl) ?_
            refine j_aload_n (pc := 122) dX8_builds_122 rfl ?_
            refine j_getR (pc := 123) dX8_builds_123 f_X8_34 (by first | rfl | with_reducible assumption) (by rfl) ?_
            refine j_bipush (pc := 126) dX8_builds_126 (v := 8) (by decide) ?_
            refine j_iload_n (pc := 128) dX8_builds_128 rfl ?_
            refine j_imul (pc := 129) dX8_builds_129 ?_
            refine j_iload_n (pc := 130) dX8_builds_130 rfl ?_
            refine j_iadd (pc := 131) dX8_builds_131 ?_
            refine j_top hx8 ?_
            refine j_iload (pc := 132) dX8_builds_132 rfl ?_
            refine j_iast (pc := 134) dX8_builds_134 (by first | rfl | with_reducible assumption) hvx ?_
            refine j_iinc1 (pc := 135) dX8_builds_135 rfl ?_
            refine j_goto (pc := 138) (tgt := 24) dX8_builds_138 rfl ?_
            rw [nI_1, hcx]
            rcases toX_cases (TA N K M) set (8 * n + e) with ⟨y1, -⟩ | ⟨c2, j, y1, y2, y3, y4⟩
            · rw [hnx, hl] at y1; cases y1
            · rw [hnx, hl] at y1
              cases y1
              rw [hcs] at y4
              first
                | (have hij := nodup_idx (csx_nodup _ _ _) hig y4
                   refine ih (e + 1) _ _ _ (by omega) hF.u9 (hB.same hcs (by rw [y2, hij])) (by rw [show 8 * n + (e + 1) = 8 * n + e + 1 by omega, hcs]; exact hnl))
                | (have hij : (csx (TA N K M) set (8 * n + e)).length = j := nodup_idx (l := csx (TA N K M) set (8 * n + e) ++ [c']) (by rw [← hcs]; exact csx_nodup _ _ _) (by simp) y4
                   refine ih (e + 1) _ _ _ (by omega) hF.u8.uj.u9 (hB.add hlt hcs (by rw [y2, hij])) (by rw [show 8 * n + (e + 1) = 8 * n + e + 1 by omega, hcs, List.length_append]; omega))
          · refine j_aload_n (pc := 88) dX8_builds_88 rfl ?_
            refine j_iconst (pc := 89) dX8_builds_89 (v := 0) (by decide) ?_
            refine j_put (pc := 90) dX8_builds_90 f_X8_131 (by first | rfl | with_reducible assumption) (by rfl) ?_
            refine j_iconst (pc := 93) dX8_builds_93 (v := 0) (by decide) ?_
            refine j_zret (pc := 94) dX8_builds_94 (Or.inl rfl) ?_
            refine ⟨hF.uj, Or.inl rfl, Or.inl ⟨over_of (x := 8 * n + e) (by omega) (hnx.trans hl) hno ?_, rfl, m_eq _ _ _ _⟩⟩
            exact (nI_eq (b := 150) (by have := hB.1; omega) (by decide)).mp h85
  have outer : ∀ (k n : Nat) (σ' : Mm) (w3 w4 w5 : Option Vl), n + k = 150 → FrB σ σ' → B2 σ' (TA N K M) set (8 * n) → n ≤ (csx (TA N K M) set (8 * n)).length → AJ Γ2 2 RX8 cX8_builds 6 (some .boolean) (buildP σ (TA N K M) set) 14 [some (.inr 0), some (.inl set), some (.inl (nI n)), w3, w4, w5] [] σ' := by
    intro k
    induction k with
    | zero =>
      intro n σ' w3 w4 w5 hk hF hB hn
      obtain rfl : n = 150 := by omega
      have hl : (csx (TA N K M) set (8 * 150)).length = 150 := by have := hB.1; omega
      refine j_iload_n (pc := 14) dX8_builds_14 rfl ?_
      refine j_aload_n (pc := 15) dX8_builds_15 rfl ?_
      refine j_getI (pc := 16) dX8_builds_16 f_X8_131 (by first | rfl | with_reducible assumption) (by rfl) ?_
      refine j_top (hB.2.1.trans (by rw [hl])) ?_
      refine j_icmp_ge (pc := 19) (tgt := 147) dX8_builds_19 rfl (fun h19 => ?_) (fun h19 => absurd (Int32.le_refl _) h19)
      refine j_iconst (pc := 147) dX8_builds_147 (v := 1) (by decide) ?_
      refine j_zret (pc := 148) dX8_builds_148 (Or.inr rfl) ?_
      exact ⟨hF, Or.inr rfl, Or.inr ⟨(hB.done hl).1, rfl, (hB.done hl).2⟩⟩
    | succ k ih =>
      intro n σ' w3 w4 w5 hk hF hB hn
      have h1 := hB.1
      refine j_iload_n (pc := 14) dX8_builds_14 rfl ?_
      refine j_aload_n (pc := 15) dX8_builds_15 rfl ?_
      refine j_getI (pc := 16) dX8_builds_16 f_X8_131 (by first | rfl | with_reducible assumption) (by rfl) ?_
      refine j_top hB.2.1 ?_
      refine j_icmp_ge (pc := 19) (tgt := 147) dX8_builds_19 rfl (fun h19 => ?_) (fun h19 => ?_)
      · have hl : (csx (TA N K M) set (8 * n)).length = n := by
          have := (nI_leI (by omega) (by omega)).mp h19
          omega
        refine j_iconst (pc := 147) dX8_builds_147 (v := 1) (by decide) ?_
        refine j_zret (pc := 148) dX8_builds_148 (Or.inr rfl) ?_
        exact ⟨hF, Or.inr rfl, Or.inr ⟨(hB.done hl).1, rfl, (hB.done hl).2⟩⟩
      · have hl : n < (csx (TA N K M) set (8 * n)).length := by
          have : ¬ (csx (TA N K M) set (8 * n)).length ≤ n := fun q => h19 ((nI_leI (by omega) (by omega)).mpr q)
          omega
        refine j_iconst (pc := 22) dX8_builds_22 (v := 0) (by decide) ?_
        refine j_istore_n (pc := 23) dX8_builds_23 (by decide) ?_
        refine inner n (by omega) (fun σ'' w3 w4 w5 hF' hB' => ih (n + 1) σ'' w3 w4 w5 (by omega) hF' hB' ?_) 8 0 _ _ _ rfl hF hB hl
        have := csx_len (TA N K M) set (show 8 * n ≤ 8 * (n + 1) by omega)
        omega
  refine EV.intro (by decide +kernel) (Nat.le_of_ble_eq_true rfl) ?_
  refine j_aload_n (pc := 0) dX8_builds_0 rfl ?_
  refine j_iconst (pc := 1) dX8_builds_1 (v := 1) (by decide) ?_
  refine j_put (pc := 2) dX8_builds_2 f_X8_131 (by first | rfl | with_reducible assumption) (by rfl) ?_
  refine j_aload_n (pc := 5) dX8_builds_5 rfl ?_
  refine j_getR (pc := 6) dX8_builds_6 f_X8_31 (by first | rfl | with_reducible assumption) (by rfl) ?_
  refine j_iconst (pc := 9) dX8_builds_9 (v := 0) (by decide) ?_
  refine j_iconst (pc := 10) dX8_builds_10 (v := 0) (by decide) ?_
  refine j_iast (pc := 11) dX8_builds_11 (by first | rfl | with_reducible assumption) (vp_in_nI (n := 0) (N := 150) (by decide) (by decide)) ?_
  refine j_iconst (pc := 12) dX8_builds_12 (v := 0) (by decide) ?_
  refine j_istore_n (pc := 13) dX8_builds_13 (by decide) ?_
  refine outer 150 0 _ _ _ _ rfl FrB.rf.uj.u8 ⟨by show ([0] : List Int32).length ≤ 150; decide, by rw [m_ne (by decide), m_eq]; rfl, fun i c hi => ?_, fun y hy => absurd hy (Nat.not_lt_zero _)⟩ (Nat.zero_le _)
  have hi' : ([0] : List Int32)[i]? = some c := hi
  cases i with
  | zero =>
    have : c = 0 := by simpa using hi'.symm
    rw [this]
    exact m_eq _ _ _ _
  | succ i => simp at hi'
end Build2
