/-! LEASTBARSMODEL: many, some -/
section ManyR
variable {σ : Mm} {n0 : Nat} {t : Nat → Int32} {N : Nat} {K : Nat → Int32} {M : Nat → MV} {fs : Int32} {h : List Int32} {pl : Int32}
theorem cntB_S (p : Nat → Bool) (n : Nat) : cntB p (n + 1) = cntB p n + (if p n = true then 1 else 0) := by
  unfold cntB
  rw [List.range_succ, List.filter_append, List.length_append]
  by_cases hp : p n = true
  · simp [hp]
  · simp [hp]
def manyP (T : Tab) (set fs : Int32) (N n hl : Nat) (what r : Int32) : Prop := Ans T set fs (o_many N n hl what) (fun k => q_many T set fs k N n hl what) r
theorem c_X8_many (what : Int32) (q : R2 σ n0 t N K M fs h pl) : EV Γ2 5 yX8_many cX8_many 7 (some .int) [.inr 0, .inl what] σ (fun r σ' => R2 σ' n0 t N K M fs h pl ∧ manyP (TA N K M) (allS N) fs N n0 h.length what r) := by
  have sw : ∀ (σ' : Mm) (a b c : Int32) (w5 w6 : Option Vl), R2 σ' n0 t N K M fs h pl → (∀ r, r = (if what = 0 then nI N else if what = 1 then nI n0 else if what = 2 then (if σ' 0 11 = 0 then -9 else σ' 0 11) else if what = 3 then a else if what = 4 then b else if what = 5 then σ' 0 20 else if what = 6 then nI h.length else if what = 7 then c else -2) → manyP (TA N K M) (allS N) fs N n0 h.length what r) → AJ Γ2 5 RX8 cX8_many 7 (some .int) (fun r σ' => R2 σ' n0 t N K M fs h pl ∧ manyP (TA N K M) (allS N) fs N n0 h.length what r) 114 [some (.inr 0), some (.inl what), some (.inl a), some (.inl b), some (.inl c), w5, w6] [] σ' := by
    intro σ' a b c w5 w6 hR hA
    have hN := hR.1.2.2.2.1
    have hn := hR.1.1
    have hl := hR.2.2.2.1.2.2.1
    refine j_iload_n (pc := 114) dX8_many_114 rfl ?_
    by_cases sw115_0 : what = 0
    · refine j_top sw115_0 ?_
      refine j_tableIn (pc := 115) (tgt := 160) dX8_many_115 (by decide) (by decide) (off := 45) rfl rfl ?_
      refine j_aload_n (pc := 160) dX8_many_160 rfl ?_
      refine j_getI (pc := 161) dX8_many_161 f_X8_96 (by first | rfl | with_reducible assumption) (by rfl) ?_
      refine j_iret (pc := 164) dX8_many_164 ?_
      exact ⟨hR, hA _ (by rw [if_pos sw115_0]; exact hN)⟩
    by_cases sw115_1 : what = 1
    · refine j_top sw115_1 ?_
      refine j_tableIn (pc := 115) (tgt := 165) dX8_many_115 (by decide) (by decide) (off := 50) rfl rfl ?_
      refine j_aload_n (pc := 165) dX8_many_165 rfl ?_
      refine j_getI (pc := 166) dX8_many_166 f_X8_63 (by first | rfl | with_reducible assumption) (by rfl) ?_
      refine j_iret (pc := 169) dX8_many_169 ?_
      exact ⟨hR, hA _ (by rw [if_neg sw115_0, if_pos sw115_1]; exact hn)⟩
    by_cases sw115_2 : what = 2
    · refine j_top sw115_2 ?_
      refine j_tableIn (pc := 115) (tgt := 170) dX8_many_115 (by decide) (by decide) (off := 55) rfl rfl ?_
      refine j_aload_n (pc := 170) dX8_many_170 rfl ?_
      refine j_getI (pc := 171) dX8_many_171 f_X8_131 (by first | rfl | with_reducible assumption) (by rfl) ?_
      refine j_if_ne (pc := 174) (tgt := 182) dX8_many_174 rfl (fun h174 => ?_) (fun h174 => ?_)
      · refine j_aload_n (pc := 182) dX8_many_182 rfl ?_
        refine j_getI (pc := 183) dX8_many_183 f_X8_131 (by first | rfl | with_reducible assumption) (by rfl) ?_
        refine j_iret (pc := 186) dX8_many_186 ?_
        refine ⟨hR, hA _ ?_⟩
        rw [if_neg sw115_0, if_neg sw115_1, if_pos sw115_2]
        first | (rw [if_pos h174]; done) | (rw [if_neg h174]; done)
      · refine j_bipush (pc := 177) dX8_many_177 (v := (-9)) (by decide) ?_
        refine j_goto (pc := 179) (tgt := 186) dX8_many_179 rfl ?_
        refine j_iret (pc := 186) dX8_many_186 ?_
        refine ⟨hR, hA _ ?_⟩
        rw [if_neg sw115_0, if_neg sw115_1, if_pos sw115_2]
        first | (rw [if_pos h174]; done) | (rw [if_neg h174]; done)
    by_cases sw115_3 : what = 3
    · refine j_top sw115_3 ?_
      refine j_tableIn (pc := 115) (tgt := 187) dX8_many_115 (by decide) (by decide) (off := 72) rfl rfl ?_
      refine j_iload_n (pc := 187) dX8_many_187 rfl ?_
      refine j_iret (pc := 188) dX8_many_188 ?_
      exact ⟨hR, hA _ (by rw [if_neg sw115_0, if_neg sw115_1, if_neg sw115_2, if_pos sw115_3])⟩
    by_cases sw115_4 : what = 4
    · refine j_top sw115_4 ?_
      refine j_tableIn (pc := 115) (tgt := 189) dX8_many_115 (by decide) (by decide) (off := 74) rfl rfl ?_
      refine j_iload_n (pc := 189) dX8_many_189 rfl ?_
      refine j_iret (pc := 190) dX8_many_190 ?_
      exact ⟨hR, hA _ (by rw [if_neg sw115_0, if_neg sw115_1, if_neg sw115_2, if_neg sw115_3, if_pos sw115_4])⟩
    by_cases sw115_5 : what = 5
    · refine j_top sw115_5 ?_
      refine j_tableIn (pc := 115) (tgt := 191) dX8_many_115 (by decide) (by decide) (off := 76) rfl rfl ?_
      refine j_aload_n (pc := 191) dX8_many_191 rfl ?_
      refine j_getI (pc := 192) dX8_many_192 f_X8_162 (by first | rfl | with_reducible assumption) (by rfl) ?_
      refine j_iret (pc := 195) dX8_many_195 ?_
      exact ⟨hR, hA _ (by rw [if_neg sw115_0, if_neg sw115_1, if_neg sw115_2, if_neg sw115_3, if_neg sw115_4, if_pos sw115_5])⟩
    by_cases sw115_6 : what = 6
    · refine j_top sw115_6 ?_
      refine j_tableIn (pc := 115) (tgt := 196) dX8_many_115 (by decide) (by decide) (off := 81) rfl rfl ?_
      refine j_aload_n (pc := 196) dX8_many_196 rfl ?_
      refine j_getI (pc := 197) dX8_many_197 f_X8_112 (by first | rfl | with_reducible assumption) (by rfl) ?_
      refine j_iret (pc := 200) dX8_many_200 ?_
      exact ⟨hR, hA _ (by rw [if_neg sw115_0, if_neg sw115_1, if_neg sw115_2, if_neg sw115_3, if_neg sw115_4, if_neg sw115_5, if_pos sw115_6]; exact hl)⟩
    by_cases sw115_7 : what = 7
    · refine j_top sw115_7 ?_
      refine j_tableIn (pc := 115) (tgt := 201) dX8_many_115 (by decide) (by decide) (off := 86) rfl rfl ?_
      refine j_iload (pc := 201) dX8_many_201 rfl ?_
      refine j_iret (pc := 203) dX8_many_203 ?_
      exact ⟨hR, hA _ (by rw [if_neg sw115_0, if_neg sw115_1, if_neg sw115_2, if_neg sw115_3, if_neg sw115_4, if_neg sw115_5, if_neg sw115_6, if_pos sw115_7])⟩
    refine j_tableOut (pc := 115) (tgt := 204) dX8_many_115 (by (simp only [Int32.lt_iff_toInt_lt, Int32.le_iff_toInt_le, ← Int32.toInt_inj, vp_in_iff, ti_0, ti_1, ti_2, ti_3, ti_4, ti_5, ti_6, ti_7, ti_8, ti_16, ti_48, ti_53, ti_60, ti_97, ti_104, ti_127, ti_149, ti_150, ti_151, ti_256, ti_1200, ti_m1, ti_m2, ti_m3, ti_m4, ti_m9] at *; omega)) rfl ?_
    refine j_bipush (pc := 204) dX8_many_204 (v := (-2)) (by decide) ?_
    refine j_iret (pc := 206) dX8_many_206 ?_
    exact ⟨hR, hA _ (by rw [if_neg sw115_0, if_neg sw115_1, if_neg sw115_2, if_neg sw115_3, if_neg sw115_4, if_neg sw115_5, if_neg sw115_6, if_neg sw115_7])⟩
  have goO : ∀ σ' : Mm, R2 σ' n0 t N K M fs h pl → Over (TA N K M) (allS N) → σ' 0 11 = 0 → σ' 0 20 = 0 → AJ Γ2 5 RX8 cX8_many 7 (some .int) (fun r σ' => R2 σ' n0 t N K M fs h pl ∧ manyP (TA N K M) (allS N) fs N n0 h.length what r) 4 [some (.inr 0), some (.inl what), none, none, none, none, none] [] σ' := by
    intro σ' hR hO h11 h20
    refine j_iconst (pc := 4) dX8_many_4 (v := 0) (by decide) ?_
    refine j_istore_n (pc := 5) dX8_many_5 (by decide) ?_
    refine j_iconst (pc := 6) dX8_many_6 (v := 0) (by decide) ?_
    refine j_istore_n (pc := 7) dX8_many_7 (by decide) ?_
    refine j_iconst (pc := 8) dX8_many_8 (v := 0) (by decide) ?_
    refine j_istore (pc := 9) dX8_many_9 (by decide) ?_
    refine j_iconst (pc := 11) dX8_many_11 (v := 0) (by decide) ?_
    refine j_istore (pc := 12) dX8_many_12 (by decide) ?_
    refine j_iload (pc := 14) dX8_many_14 rfl ?_
    refine j_aload_n (pc := 16) dX8_many_16 rfl ?_
    refine j_getI (pc := 17) dX8_many_17 f_X8_131 (by first | rfl | with_reducible assumption) (by rfl) ?_
    refine j_top h11 ?_
    refine j_icmp_ge (pc := 20) (tgt := 114) dX8_many_20 rfl (fun h20 => ?_) (fun h20 => absurd (by decide) h20)
    refine sw σ' 0 0 0 _ _ hR (fun r hr => Or.inl ⟨hO, ?_⟩)
    rw [hr, h11, if_pos rfl]
    unfold o_many
    rw [‹σ' 0 20 = 0›]
  have goK : ∀ (σ' : Mm) (k : Nat), R2 σ' n0 t N K M fs h pl → ¬ Over (TA N K M) (allS N) → NG2 σ' (TA N K M) (allS N) → DN2 σ' (TA N K M) (allS N) fs k → AJ Γ2 5 RX8 cX8_many 7 (some .int) (fun r σ' => R2 σ' n0 t N K M fs h pl ∧ manyP (TA N K M) (allS N) fs N n0 h.length what r) 4 [some (.inr 0), some (.inl what), none, none, none, none, none] [] σ' := by
    intro σ' k hR hO hG hk
    have hJ := hG.1
    have hg0 := g_pos (TA N K M) (allS N)
    have hW : ∀ m, m < gJ (TA N K M) (allS N) → σ' 10 m = (gW (TA N K M) (allS N) fs k).1 m := fun m hm => (hk.2.2.2.1 m hm).1
    have fin : ∀ (w5 w6 : Option Vl), AJ Γ2 5 RX8 cX8_many 7 (some .int) (fun r σ' => R2 σ' n0 t N K M fs h pl ∧ manyP (TA N K M) (allS N) fs N n0 h.length what r) 114 [some (.inr 0), some (.inl what), some (.inl (nI (cntF (gW (TA N K M) (allS N) fs k).1 (gJ (TA N K M) (allS N))))), some (.inl (nI (cntB (gU (TA N K M) (allS N) fs k) (gJ (TA N K M) (allS N))))), some (.inl (nI (sumN (fun n => if gU (TA N K M) (allS N) fs k n = true then pcB (fun e => isL (gJ (TA N K M) (allS N)) (gW (TA N K M) (allS N) fs k).1 (toX (TA N K M) (allS N) (8 * n + e))) else 0) (gJ (TA N K M) (allS N))))), w5, w6] [] σ' := fun w5 w6 => sw σ' _ _ _ w5 w6 hR (fun r hr => Or.inr ⟨hO, k, hk.2.1, by
      rw [hr, hG.2.1, hk.2.2.1, if_neg (show ¬ nI (gJ (TA N K M) (allS N)) = 0 from fun z => by
        have := (nI_eq (b := 0) (by omega) (by decide)).mp z
        omega)]
      rfl⟩)
    generalize hgj : gJ (TA N K M) (allS N) = J at *
    generalize htg : toX (TA N K M) (allS N) = tg at *
    generalize hww : (gW (TA N K M) (allS N) fs k).1 = W at *
    generalize huu : gU (TA N K M) (allS N) fs k = U at *
    have hU : ∀ n, n < J → σ' 14 n = if U n = true then 1 else 0 := by
      have := hk.2.2.2.2
      rw [hgj, huu] at this
      exact this
    have h11 : σ' 0 11 = nI J := by have := hG.2.1; rw [hgj] at this; exact this
    have ht9 : ∀ y, y < 8 * J → σ' 9 y = tg y := by have := hG.2.2.2; rw [hgj, htg] at this; exact this
    have htr : ∀ y, y < 8 * J → tg y = -9 ∨ ∃ m, m < J ∧ tg y = nI m := by have := gT_lt (T := TA N K M) (set := allS N) (by rw [hgj]; exact hJ); rw [hgj, htg] at this; exact this
    have inner : ∀ (n : Nat) (a b : Int32), n < J → (∀ w6, AJ Γ2 5 RX8 cX8_many 7 (some .int) (fun r σ' => R2 σ' n0 t N K M fs h pl ∧ manyP (TA N K M) (allS N) fs N n0 h.length what r) 14 [some (.inr 0), some (.inl what), some (.inl a), some (.inl b), some (.inl (nI (sumN (fun n => if U n = true then pcB (fun e => isL J W (tg (8 * n + e))) else 0) (n + 1)))), some (.inl (nI (n + 1))), w6] [] σ') → ∀ (r e : Nat), e + r = 8 → AJ Γ2 5 RX8 cX8_many 7 (some .int) (fun r σ' => R2 σ' n0 t N K M fs h pl ∧ manyP (TA N K M) (allS N) fs N n0 h.length what r) 64 [some (.inr 0), some (.inl what), some (.inl a), some (.inl b), some (.inl (nI (sumN (fun n => if U n = true then pcB (fun e => isL J W (tg (8 * n + e))) else 0) n + (if U n = true then cntB (fun e => isL J W (tg (8 * n + e))) e else 0)))), some (.inl (nI n)), some (.inl (nI e))] [] σ' := by
      intro n a b hn next r
      induction r with
      | zero =>
        intro e he
        obtain rfl : e = 8 := by omega
        refine j_iload (pc := 64) dX8_many_64 rfl ?_
        refine j_bipush (pc := 66) dX8_many_66 (v := 8) (by decide) ?_
        refine j_icmp_ge (pc := 68) (tgt := 108) dX8_many_68 rfl (fun h68 => ?_) (fun h68 => absurd (by decide) h68)
        refine j_iinc1 (pc := 108) dX8_many_108 rfl ?_
        refine j_goto (pc := 111) (tgt := 14) dX8_many_111 rfl ?_
        rw [nI_1]
        exact next _
      | succ r ih =>
        intro e he
        have hcn : (nI n).toNatClampNeg = n := nI_clamp (by omega)
        have hvn : vp_in (nI n) 150 := vp_in_nI (by omega) (by decide)
        have hs := cntB_S (fun e => isL J W (tg (8 * n + e))) e
        by_cases hu : U n = true
        · have ih' := ih (e + 1) (by omega)
          rw [if_pos hu] at ih' ⊢
          refine j_iload (pc := 64) dX8_many_64 rfl ?_
          refine j_bipush (pc := 66) dX8_many_66 (v := 8) (by decide) ?_
          refine j_icmp_ge (pc := 68) (tgt := 108) dX8_many_68 rfl (fun h68 => absurd h68 (nI_ge (b := 8) (by omega) (by decide))) (fun h68 => ?_)
          refine j_iload (pc := 71) dX8_many_71 rfl ?_
          refine j_aload_n (pc := 73) dX8_many_73 rfl ?_
          refine j_getR (pc := 74) dX8_many_74 f_X8_50 (by first | rfl | with_reducible assumption) (by rfl) ?_
          refine j_iload (pc := 77) dX8_many_77 rfl ?_
          refine j_zald (pc := 79) dX8_many_79 (by first | rfl | with_reducible assumption) hvn ?_
          refine j_top (y := 1) (by rw [hcn, hU n hn, if_pos hu]) ?_
          refine j_if_eq (pc := 80) (tgt := 98) dX8_many_80 rfl (fun h80 => absurd h80 (by decide)) (fun h80 => ?_)
          refine j_aload_n (pc := 83) dX8_many_83 rfl ?_
          refine j_iload (pc := 84) dX8_many_84 rfl ?_
          refine j_iload (pc := 86) dX8_many_86 rfl ?_
          refine j_callVi (pc := 88) dX8_many_88 k_X8_186 (c_X8_isBarred hJ ht9 htr hW hn (by omega)) (by first | rfl | with_reducible assumption) rfl rfl (by decide) rfl (Nat.le_of_ble_eq_true rfl) (fun r σ1 hp => ?_)
          obtain ⟨rfl, hp⟩ := hp
          rcases hp with ⟨q88, rfl⟩ | ⟨q88, rfl⟩
          · rw [if_pos q88] at hs
            refine j_if_eq (pc := 91) (tgt := 98) dX8_many_91 rfl (fun h => absurd h (by decide)) (fun _ => ?_)
            refine j_iconst (pc := 94) dX8_many_94 (v := 1) (by decide) ?_
            refine j_goto (pc := 95) (tgt := 99) dX8_many_95 rfl ?_
            refine j_iadd (pc := 99) dX8_many_99 ?_
            refine j_top (y := nI (sumN (fun n => if U n = true then pcB (fun e => isL J W (tg (8 * n + e))) else 0) n + cntB (fun e => isL J W (tg (8 * n + e))) (e + 1))) (by rw [hs]; first | exact Int32.add_zero _ | exact nI_1 _) ?_
            refine j_istore (pc := 100) dX8_many_100 (by decide) ?_
            refine j_iinc1 (pc := 102) dX8_many_102 rfl ?_
            refine j_goto (pc := 105) (tgt := 64) dX8_many_105 rfl ?_
            rw [nI_1]
            exact ih'
          · rw [if_neg q88] at hs
            refine j_if_eq (pc := 91) (tgt := 98) dX8_many_91 rfl (fun _ => ?_) (fun h => absurd h (by decide))
            refine j_iconst (pc := 98) dX8_many_98 (v := 0) (by decide) ?_
            refine j_iadd (pc := 99) dX8_many_99 ?_
            refine j_top (y := nI (sumN (fun n => if U n = true then pcB (fun e => isL J W (tg (8 * n + e))) else 0) n + cntB (fun e => isL J W (tg (8 * n + e))) (e + 1))) (by rw [hs]; first | exact Int32.add_zero _ | exact nI_1 _) ?_
            refine j_istore (pc := 100) dX8_many_100 (by decide) ?_
            refine j_iinc1 (pc := 102) dX8_many_102 rfl ?_
            refine j_goto (pc := 105) (tgt := 64) dX8_many_105 rfl ?_
            rw [nI_1]
            exact ih'
        · have ih' := ih (e + 1) (by omega)
          rw [if_neg hu] at ih' ⊢
          refine j_iload (pc := 64) dX8_many_64 rfl ?_
          refine j_bipush (pc := 66) dX8_many_66 (v := 8) (by decide) ?_
          refine j_icmp_ge (pc := 68) (tgt := 108) dX8_many_68 rfl (fun h68 => absurd h68 (nI_ge (b := 8) (by omega) (by decide))) (fun h68 => ?_)
          refine j_iload (pc := 71) dX8_many_71 rfl ?_
          refine j_aload_n (pc := 73) dX8_many_73 rfl ?_
          refine j_getR (pc := 74) dX8_many_74 f_X8_50 (by first | rfl | with_reducible assumption) (by rfl) ?_
          refine j_iload (pc := 77) dX8_many_77 rfl ?_
          refine j_zald (pc := 79) dX8_many_79 (by first | rfl | with_reducible assumption) hvn ?_
          refine j_top (y := 0) (by rw [hcn, hU n hn, if_neg hu]) ?_
          refine j_if_eq (pc := 80) (tgt := 98) dX8_many_80 rfl (fun h80 => ?_) (fun h80 => absurd rfl h80)
          refine j_iconst (pc := 98) dX8_many_98 (v := 0) (by decide) ?_
          refine j_iadd (pc := 99) dX8_many_99 ?_
          refine j_top (Int32.add_zero _) ?_
          refine j_istore (pc := 100) dX8_many_100 (by decide) ?_
          refine j_iinc1 (pc := 102) dX8_many_102 rfl ?_
          refine j_goto (pc := 105) (tgt := 64) dX8_many_105 rfl ?_
          rw [nI_1]
          exact ih'
    have outer : ∀ (r n : Nat) (w6 : Option Vl), n + r = J → AJ Γ2 5 RX8 cX8_many 7 (some .int) (fun r σ' => R2 σ' n0 t N K M fs h pl ∧ manyP (TA N K M) (allS N) fs N n0 h.length what r) 14 [some (.inr 0), some (.inl what), some (.inl (nI (cntF W n))), some (.inl (nI (cntB U n))), some (.inl (nI (sumN (fun n => if U n = true then pcB (fun e => isL J W (tg (8 * n + e))) else 0) n))), some (.inl (nI n)), w6] [] σ' := by
      intro r
      induction r with
      | zero =>
        intro n w6 hn
        obtain rfl : n = J := by omega
        refine j_iload (pc := 14) dX8_many_14 rfl ?_
        refine j_aload_n (pc := 16) dX8_many_16 rfl ?_
        refine j_getI (pc := 17) dX8_many_17 f_X8_131 (by first | rfl | with_reducible assumption) (by rfl) ?_
        refine j_top h11 ?_
        refine j_icmp_ge (pc := 20) (tgt := 114) dX8_many_20 rfl (fun h20 => ?_) (fun h20 => absurd (Int32.le_refl _) h20)
        exact fin _ _
      | succ r ih =>
        intro n w6 hn
        have hnJ : n < J := by omega
        have hcn : (nI n).toNatClampNeg = n := nI_clamp (by omega)
        have hvn : vp_in (nI n) 150 := vp_in_nI (by omega) (by decide)
        have hs := cnt_S W n
        have hs2 := cntB_S U n
        have hs3 : sumN (fun n => if U n = true then pcB (fun e => isL J W (tg (8 * n + e))) else 0) n = sumN (fun n => if U n = true then pcB (fun e => isL J W (tg (8 * n + e))) else 0) n + (if U n = true then cntB (fun e => isL J W (tg (8 * n + e))) 0 else 0) := by
          by_cases z : U n = true
          · rw [if_pos z]; rfl
          · rw [if_neg z, Nat.add_zero]
        refine j_iload (pc := 14) dX8_many_14 rfl ?_
        refine j_aload_n (pc := 16) dX8_many_16 rfl ?_
        refine j_getI (pc := 17) dX8_many_17 f_X8_131 (by first | rfl | with_reducible assumption) (by rfl) ?_
        refine j_top h11 ?_
        refine j_icmp_ge (pc := 20) (tgt := 114) dX8_many_20 rfl (fun h20 => absurd h20 (nI_ge (by omega) (by omega))) (fun h20 => ?_)
        refine j_iload_n (pc := 23) dX8_many_23 rfl ?_
        refine j_aload_n (pc := 24) dX8_many_24 rfl ?_
        refine j_getR (pc := 25) dX8_many_25 f_X8_37 (by first | rfl | with_reducible assumption) (by rfl) ?_
        refine j_iload (pc := 28) dX8_many_28 rfl ?_
        refine j_iald (pc := 30) dX8_many_30 (by first | rfl | with_reducible assumption) hvn ?_
        refine j_top (y := W n) (by rw [hcn]; exact hW n hnJ) ?_
        refine j_bipush (pc := 31) dX8_many_31 (v := (-9)) (by decide) ?_
        refine j_icmp_eq (pc := 33) (tgt := 40) dX8_many_33 rfl (fun h33 => ?_) (fun h33 => ?_)
        · rw [if_pos h33] at hs
          refine j_iconst (pc := 40) dX8_many_40 (v := 0) (by decide) ?_
          refine j_iadd (pc := 41) dX8_many_41 ?_
          refine j_top (y := nI (cntF W (n + 1))) (by rw [hs]; first | exact Int32.add_zero _ | exact nI_1 _) ?_
          refine j_istore_n (pc := 42) dX8_many_42 (by decide) ?_
          refine j_iload_n (pc := 43) dX8_many_43 rfl ?_
          refine j_aload_n (pc := 44) dX8_many_44 rfl ?_
          refine j_getR (pc := 45) dX8_many_45 f_X8_50 (by first | rfl | with_reducible assumption) (by rfl) ?_
          refine j_iload (pc := 48) dX8_many_48 rfl ?_
          refine j_zald (pc := 50) dX8_many_50 (by first | rfl | with_reducible assumption) hvn ?_
          refine j_top (y := if U n = true then 1 else 0) (by rw [hcn]; exact hU n hnJ) ?_
          refine j_if_eq (pc := 51) (tgt := 58) dX8_many_51 rfl (fun h51 => ?_) (fun h51 => ?_)
          · have hu : ¬ U n = true := fun z => by rw [if_pos z] at h51; exact absurd h51 (by decide)
            rw [if_neg hu] at hs2
            refine j_iconst (pc := 58) dX8_many_58 (v := 0) (by decide) ?_
            refine j_iadd (pc := 59) dX8_many_59 ?_
            refine j_top (y := nI (cntB U (n + 1))) (by rw [hs2]; first | exact Int32.add_zero _ | exact nI_1 _) ?_
            refine j_istore_n (pc := 60) dX8_many_60 (by decide) ?_
            refine j_iconst (pc := 61) dX8_many_61 (v := 0) (by decide) ?_
            refine j_istore (pc := 62) dX8_many_62 (by decide) ?_
            rw [hs3]
            exact inner n _ _ hnJ (fun w6 => ih (n + 1) w6 (by omega)) 8 0 rfl
          · have hu : U n = true := Classical.byContradiction (fun z => by rw [if_neg z] at h51; exact h51 rfl)
            rw [if_pos hu] at hs2
            refine j_iconst (pc := 54) dX8_many_54 (v := 1) (by decide) ?_
            refine j_goto (pc := 55) (tgt := 59) dX8_many_55 rfl ?_
            refine j_iadd (pc := 59) dX8_many_59 ?_
            refine j_top (y := nI (cntB U (n + 1))) (by rw [hs2]; first | exact Int32.add_zero _ | exact nI_1 _) ?_
            refine j_istore_n (pc := 60) dX8_many_60 (by decide) ?_
            refine j_iconst (pc := 61) dX8_many_61 (v := 0) (by decide) ?_
            refine j_istore (pc := 62) dX8_many_62 (by decide) ?_
            rw [hs3]
            exact inner n _ _ hnJ (fun w6 => ih (n + 1) w6 (by omega)) 8 0 rfl
        · rw [if_neg h33] at hs
          refine j_iconst (pc := 36) dX8_many_36 (v := 1) (by decide) ?_
          refine j_goto (pc := 37) (tgt := 41) dX8_many_37 rfl ?_
          refine j_iadd (pc := 41) dX8_many_41 ?_
          refine j_top (y := nI (cntF W (n + 1))) (by rw [hs]; first | exact Int32.add_zero _ | exact nI_1 _) ?_
          refine j_istore_n (pc := 42) dX8_many_42 (by decide) ?_
          refine j_iload_n (pc := 43) dX8_many_43 rfl ?_
          refine j_aload_n (pc := 44) dX8_many_44 rfl ?_
          refine j_getR (pc := 45) dX8_many_45 f_X8_50 (by first | rfl | with_reducible assumption) (by rfl) ?_
          refine j_iload (pc := 48) dX8_many_48 rfl ?_
          refine j_zald (pc := 50) dX8_many_50 (by first | rfl | with_reducible assumption) hvn ?_
          refine j_top (y := if U n = true then 1 else 0) (by rw [hcn]; exact hU n hnJ) ?_
          refine j_if_eq (pc := 51) (tgt := 58) dX8_many_51 rfl (fun h51 => ?_) (fun h51 => ?_)
          · have hu : ¬ U n = true := fun z => by rw [if_pos z] at h51; exact absurd h51 (by decide)
            rw [if_neg hu] at hs2
            refine j_iconst (pc := 58) dX8_many_58 (v := 0) (by decide) ?_
            refine j_iadd (pc := 59) dX8_many_59 ?_
            refine j_top (y := nI (cntB U (n + 1))) (by rw [hs2]; first | exact Int32.add_zero _ | exact nI_1 _) ?_
            refine j_istore_n (pc := 60) dX8_many_60 (by decide) ?_
            refine j_iconst (pc := 61) dX8_many_61 (v := 0) (by decide) ?_
            refine j_istore (pc := 62) dX8_many_62 (by decide) ?_
            rw [hs3]
            exact inner n _ _ hnJ (fun w6 => ih (n + 1) w6 (by omega)) 8 0 rfl
          · have hu : U n = true := Classical.byContradiction (fun z => by rw [if_neg z] at h51; exact h51 rfl)
            rw [if_pos hu] at hs2
            refine j_iconst (pc := 54) dX8_many_54 (v := 1) (by decide) ?_
            refine j_goto (pc := 55) (tgt := 59) dX8_many_55 rfl ?_
            refine j_iadd (pc := 59) dX8_many_59 ?_
            refine j_top (y := nI (cntB U (n + 1))) (by rw [hs2]; first | exact Int32.add_zero _ | exact nI_1 _) ?_
            refine j_istore_n (pc := 60) dX8_many_60 (by decide) ?_
            refine j_iconst (pc := 61) dX8_many_61 (v := 0) (by decide) ?_
            refine j_istore (pc := 62) dX8_many_62 (by decide) ?_
            rw [hs3]
            exact inner n _ _ hnJ (fun w6 => ih (n + 1) w6 (by omega)) 8 0 rfl
    refine j_iconst (pc := 4) dX8_many_4 (v := 0) (by decide) ?_
    refine j_istore_n (pc := 5) dX8_many_5 (by decide) ?_
    refine j_iconst (pc := 6) dX8_many_6 (v := 0) (by decide) ?_
    refine j_istore_n (pc := 7) dX8_many_7 (by decide) ?_
    refine j_iconst (pc := 8) dX8_many_8 (v := 0) (by decide) ?_
    refine j_istore (pc := 9) dX8_many_9 (by decide) ?_
    refine j_iconst (pc := 11) dX8_many_11 (v := 0) (by decide) ?_
    refine j_istore (pc := 12) dX8_many_12 (by decide) ?_
    exact outer J 0 _ (by omega)
  refine EV.intro (by decide +kernel) (Nat.le_of_ble_eq_true rfl) ?_
  refine j_aload_n (pc := 0) dX8_many_0 rfl ?_
  refine j_callVv (pc := 1) dX8_many_1 k_X8_180 (c_X8_knows q) (by first | rfl | with_reducible assumption) rfl rfl (by decide) rfl (Nat.le_of_ble_eq_true rfl) (fun σ1 hp => ?_)
  obtain ⟨hR, hD⟩ := hp
  rcases hD with ⟨hO, h11, h20⟩ | ⟨hO, hG, k, hk⟩
  · exact goO _ hR hO h11 h20
  · exact goK _ k hR hO hG hk
end ManyR
