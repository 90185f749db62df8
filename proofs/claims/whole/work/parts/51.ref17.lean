/-! LEASTBARSMODEL: go, many -/
section GoR
variable {σ : Mm} {n0 : Nat} {t : Nat → Int32} {N : Nat} {K : Nat → Int32} {M : Nat → MV} {fs : Int32} {h : List Int32} {pl : Int32}
theorem TV.at_ {T : Tab} {set : Int32} {k : Nat} (q : TV T set fs h pl) (hk : gK T set fs k) (hw : (gW T set fs k).1 0 = -9) : ∃ j, j < gJ T set ∧ gU T set fs k j = true ∧ pl = nI j := by
  rcases q pl (by simp) with rfl | ⟨-, k', j, a, b, c, d⟩
  · exact ⟨0, g_pos T set, by rw [gU0]; exact decide_eq_true hw, rfl⟩
  · rw [lossK.uniq hk a]
    exact ⟨j, b, c, d⟩
theorem gU_step {T : Tab} {set : Int32} {k j e m : Nat} (hj : gU T set fs k j = true) (he : e < 8) (hm : m < gJ T set) (ht : toX T set (8 * j + e) = nI m) (hw : (gW T set fs k).1 m = -9) : gU T set fs k m = true := by
  obtain ⟨i, hi⟩ := ucB_iff.mp hj
  exact ucB_iff.mpr ⟨i + 1, Or.inr ⟨hm, decide_eq_true hw, j, e, he, hi, ht⟩⟩
theorem gU_kept {T : Tab} {set : Int32} {k j : Nat} (hj : gU T set fs k j = true) : (gW T set fs k).1 j = -9 := by
  obtain ⟨i, hi⟩ := ucB_iff.mp hj
  exact of_decide_eq_true hi.lt.2
def goP (σ0 : Mm) (T : Tab) (set fs : Int32) (h : List Int32) (pl e : Int32) (R : Mm → List Int32 → Int32 → Prop) (r : Int32) (σ' : Mm) : Prop :=
  (¬ inR 8 e = true ∧ r = -1 ∧ R σ' h pl) ∨ (inR 8 e = true ∧ Over T set ∧ r = -3 ∧ R σ' h pl) ∨
    (inR 8 e = true ∧ ¬ Over T set ∧ ∃ k, gK T set fs k ∧ (((gW T set fs k).1 0 ≠ -9 ∧ r = -3 ∧ R σ' h pl) ∨
      ((gW T set fs k).1 0 = -9 ∧ ((¬ (∃ j, j < gJ T set ∧ tgo (gJ T set) (toX T set) pl e = nI j ∧ gU T set fs k j = true) ∧ r = -9 ∧ R σ' h pl) ∨
        ∃ j, j < gJ T set ∧ tgo (gJ T set) (toX T set) pl e = nI j ∧ gU T set fs k j = true ∧ r = nI j ∧ R σ' ((pl :: h).take 16) (nI j)))))
theorem R2.move {σ' : Mm} {h' : List Int32} {pl' : Int32} (q : R2 σ n0 t N K M fs h pl) (h1 : ∀ x, x ≠ 0 → x ≠ 15 → σ' x = σ x) (h0 : ∀ f, f ≠ 21 → f ≠ 22 → σ' 0 f = σ 0 f) (h2 : TrI2 σ' h' pl') (h3 : TV (TA N K M) (allS N) fs h' pl') : R2 σ' n0 t N K M fs h' pl' := by
  obtain ⟨⟨a1, a2, a3, a4, a5, a6⟩, b, c, d, e⟩ := q
  refine ⟨⟨by rw [h0 1 (by decide) (by decide)]; exact a1, a2, by rw [h1 1 (by decide) (by decide)]; exact a3, by rw [h0 2 (by decide) (by decide)]; exact a4, a5, fun m hm => ?_⟩, by rw [h0 9 (by decide) (by decide)]; exact b, ?_, h2, h3⟩
  · obtain ⟨x, y, z⟩ := a6 m hm
    exact ⟨x.cells (fun x _ _ => h1 x (by omega) (by omega)), by rw [h1 2 (by decide) (by decide)]; exact y, z⟩
  · rw [h0 14 (by decide) (by decide)]
    rcases c with c | ⟨c, c'⟩
    · exact Or.inl c
    · exact Or.inr ⟨c, c'.cells (h0 11 (by decide) (by decide)) (h0 20 (by decide) (by decide)) (fun x _ _ => h1 x (by omega) (by omega))⟩
/-- what is taken is put down, the oldest given up where there is no room -/
theorem TrI2.push {σ' : Mm} {v : Int32} (q : TrI2 σ h pl) (hl : h.length < 16) (h1 : σ' 0 21 = v) (h2 : σ' 0 22 = nI (h.length + 1)) (h3 : σ' 15 h.length = pl) (h4 : ∀ i, i < h.length → σ' 15 i = σ 15 i) : TrI2 σ' (pl :: h) v := by
  obtain ⟨t1, t2, t3, t4⟩ := q
  refine ⟨h1, by rw [List.length_cons]; omega, by rw [List.length_cons]; exact h2, fun i hi => ?_⟩
  rw [List.length_cons] at hi ⊢
  cases i with
  | zero => rw [show h.length + 1 - 1 - 0 = h.length by omega, h3]; rfl
  | succ i =>
    rw [show h.length + 1 - 1 - (i + 1) = h.length - 1 - i by omega, h4 _ (by omega)]
    exact t4 i (by omega)
theorem take_15 {a : Int32} (hl : h.length = 16) : (a :: h).take 16 = a :: h.take 15 := rfl
theorem c_X8_go (e : Int32) (q : R2 σ n0 t N K M fs h pl) : EV Γ2 6 yX8_go cX8_go 4 (some .int) [.inr 0, .inl e] σ (goP σ (TA N K M) (allS N) fs h pl e (fun σ' h pl => R2 σ' n0 t N K M fs h pl)) := by
  have goS : ∀ σ' : Mm, goP σ (TA N K M) (allS N) fs h pl e (fun σ' h pl => R2 σ' n0 t N K M fs h pl) (-3) σ' → AJ Γ2 6 RX8 cX8_go 4 (some .int) (goP σ (TA N K M) (allS N) fs h pl e (fun σ' h pl => R2 σ' n0 t N K M fs h pl)) 13 [some (.inr 0), some (.inl e), none, none] [.inl 1] σ' := by
    intro σ' hg
    refine j_if_eq (pc := 13) (tgt := 19) dX8_go_13 rfl (fun h13 => absurd h13 (by decide)) (fun h13 => ?_)
    refine j_bipush (pc := 16) dX8_go_16 (v := (-3)) (by decide) ?_
    refine j_iret (pc := 18) dX8_go_18 ?_
    exact hg
  have goN : ∀ (σ' : Mm) (k en : Nat), en < 8 → e = nI en → R2 σ' n0 t N K M fs h pl → ¬ Over (TA N K M) (allS N) → NG2 σ' (TA N K M) (allS N) → DN2 σ' (TA N K M) (allS N) fs k → (gW (TA N K M) (allS N) fs k).1 0 = -9 → AJ Γ2 6 RX8 cX8_go 4 (some .int) (goP σ (TA N K M) (allS N) fs h pl e (fun σ' h pl => R2 σ' n0 t N K M fs h pl)) 13 [some (.inr 0), some (.inl e), none, none] [.inl 0] σ' := by
    rintro σ' k en hen rfl hR hO hG hk hw0
    have hJ := hG.1
    have hTr := hR.2.2.2.1
    have hTV := hR.2.2.2.2
    obtain ⟨j, hj, huj, rfl⟩ := hTV.at_ hk.2.1 hw0
    have hin : inR 8 (nI en) = true := inR_nI hen (by decide)
    have hx8 : (8 : Int32) * nI j + nI en = nI (8 * j + en) := by rw [show (8 : Int32) = nI 8 from rfl, pk_mul, nI_add]
    have htgo : tgo (gJ (TA N K M) (allS N)) (toX (TA N K M) (allS N)) (nI j) (nI en) = toX (TA N K M) (allS N) (8 * j + en) := by
      unfold tgo
      rw [if_pos ⟨inR_nI hj (by omega), hin⟩, nI_clamp (by omega), nI_clamp (by omega)]
    have hto : σ' 9 (nI (8 * j + en)).toNatClampNeg = toX (TA N K M) (allS N) (8 * j + en) := by rw [nI_clamp (by omega)]; exact hG.2.2.2 _ (by omega)
    have none_ : (∀ m, m < gJ (TA N K M) (allS N) → toX (TA N K M) (allS N) (8 * j + en) = nI m → (gW (TA N K M) (allS N) fs k).1 m ≠ -9) → goP σ (TA N K M) (allS N) fs h (nI j) (nI en) (fun σ' h pl => R2 σ' n0 t N K M fs h pl) (-9) σ' := fun z => Or.inr (Or.inr ⟨hin, hO, k, hk.2.1, Or.inr ⟨hw0, Or.inl ⟨fun ⟨m, a, b, c⟩ => z m a (htgo.symm.trans b) (gU_kept c), rfl, hR⟩⟩⟩)
    rcases gT_lt hJ (8 * j + en) (by omega) with hz | ⟨m, hm, hz⟩
    · refine j_if_eq (pc := 13) (tgt := 19) dX8_go_13 rfl (fun h13 => ?_) (fun h13 => absurd rfl h13)
      refine j_aload_n (pc := 19) dX8_go_19 rfl ?_
      refine j_getR (pc := 20) dX8_go_20 f_X8_34 (by first | rfl | with_reducible assumption) (by rfl) ?_
      refine j_bipush (pc := 23) dX8_go_23 (v := 8) (by decide) ?_
      refine j_aload_n (pc := 25) dX8_go_25 rfl ?_
      refine j_getI (pc := 26) dX8_go_26 f_X8_109 (by first | rfl | with_reducible assumption) (by rfl) ?_
      refine j_top hTr.1 ?_
      refine j_imul (pc := 29) dX8_go_29 ?_
      refine j_iload_n (pc := 30) dX8_go_30 rfl ?_
      refine j_iadd (pc := 31) dX8_go_31 ?_
      refine j_top hx8 ?_
      refine j_iald (pc := 32) dX8_go_32 (by first | rfl | with_reducible assumption) (vp_in_nI (by omega) (by decide)) ?_
      refine j_top (hto.trans hz) ?_
      refine j_istore_n (pc := 33) dX8_go_33 (by decide) ?_
      refine j_iload_n (pc := 34) dX8_go_34 rfl ?_
      refine j_bipush (pc := 35) dX8_go_35 (v := (-9)) (by decide) ?_
      refine j_icmp_eq (pc := 37) (tgt := 51) dX8_go_37 rfl (fun h37 => ?_) (fun h37 => absurd rfl h37)
      refine j_bipush (pc := 51) dX8_go_51 (v := (-9)) (by decide) ?_
      refine j_iret (pc := 53) dX8_go_53 ?_
      exact none_ (fun m hm z => absurd (z.symm.trans hz) (nI_z (by omega)))
    · have hcm : (nI m).toNatClampNeg = m := nI_clamp (by omega)
      have hWm := (hk.2.2.2.1 m hm).1
      by_cases hwm : (gW (TA N K M) (allS N) fs k).1 m = -9
      · have hum := gU_step huj hen hm hz hwm
        have hTV' : TV (TA N K M) (allS N) fs ((nI j :: h).take 16) (nI m) := fun v hv => by
          rcases List.mem_cons.mp hv with rfl | z
          · exact Or.inr ⟨hO, k, m, hk.2.1, hm, hum, rfl⟩
          · exact hTV v (List.mem_of_mem_take z)
        have last : ∀ (σ2 : Mm) (h' : List Int32) (w : Option Vl), TrI2 σ2 h' (nI j) → h'.length < 16 → (nI j :: h).take 16 = nI j :: h' → (∀ x, x ≠ 0 → x ≠ 15 → σ2 x = σ' x) → (∀ f, f ≠ 21 → f ≠ 22 → σ2 0 f = σ' 0 f) → AJ Γ2 6 RX8 cX8_go 4 (some .int) (goP σ (TA N K M) (allS N) fs h (nI j) (nI en) (fun σ' h pl => R2 σ' n0 t N K M fs h pl)) 101 [some (.inr 0), some (.inl (nI en)), some (.inl (nI m)), w] [] σ2 := by
          intro σ2 h' w hT hl htk h1 h0
          refine j_aload_n (pc := 101) dX8_go_101 rfl ?_
          refine j_getR (pc := 102) dX8_go_102 f_X8_53 (by first | rfl | with_reducible assumption) (by rfl) ?_
          refine j_aload_n (pc := 105) dX8_go_105 rfl ?_
          refine j_getI (pc := 106) dX8_go_106 f_X8_112 (by first | rfl | with_reducible assumption) (by rfl) ?_
          refine j_top hT.2.2.1 ?_
          refine j_aload_n (pc := 109) dX8_go_109 rfl ?_
          refine j_getI (pc := 110) dX8_go_110 f_X8_109 (by first | rfl | with_reducible assumption) (by rfl) ?_
          refine j_top hT.1 ?_
          refine j_iast (pc := 113) dX8_go_113 (by first | rfl | with_reducible assumption) (vp_in_nI hl (by decide)) ?_
          rw [nI_clamp (show h'.length < 2 ^ 31 by omega)]
          refine j_aload_n (pc := 114) dX8_go_114 rfl ?_
          refine j_dup (pc := 115) dX8_go_115 ?_
          refine j_getI (pc := 116) dX8_go_116 f_X8_112 (by first | rfl | with_reducible assumption) (by rfl) ?_
          refine j_top (y := nI h'.length) (by rw [m_ne (by decide)]; exact hT.2.2.1) ?_
          refine j_iconst (pc := 119) dX8_go_119 (v := 1) (by decide) ?_
          refine j_iadd (pc := 120) dX8_go_120 ?_
          rw [nI_1]
          refine j_put (pc := 121) dX8_go_121 f_X8_112 (by first | rfl | with_reducible assumption) (by rfl) ?_
          refine j_aload_n (pc := 124) dX8_go_124 rfl ?_
          refine j_iload_n (pc := 125) dX8_go_125 rfl ?_
          refine j_put (pc := 126) dX8_go_126 f_X8_109 (by first | rfl | with_reducible assumption) (by rfl) ?_
          refine j_aload_n (pc := 129) dX8_go_129 rfl ?_
          refine j_getI (pc := 130) dX8_go_130 f_X8_109 (by first | rfl | with_reducible assumption) (by rfl) ?_
          refine j_iret (pc := 133) dX8_go_133 ?_
          refine Or.inr (Or.inr ⟨hin, hO, k, hk.2.1, Or.inr ⟨hw0, Or.inr ⟨m, hm, htgo.trans hz, hum, m_eq _ _ _ _, ?_⟩⟩⟩)
          refine hR.move (fun x a b => by rw [m_ne a, m_ne a, m_ne b]; exact h1 x a b) (fun f a b => by rw [m_nk a, m_nk b, m_ne (by decide)]; exact h0 f a b) ?_ hTV'
          rw [htk]
          exact hT.push hl (m_eq _ _ _ _) (by rw [m_nk (by decide), m_eq]) (by rw [m_ne (by decide), m_ne (by decide), m_eq]) (fun i hi => by rw [m_ne (by decide), m_ne (by decide), m_nk (by omega)])
        have shift : h.length = 16 → ∀ (r s : Nat) (σ2 : Mm), s + r = 16 → 1 ≤ s → (∀ x, x ≠ 15 → σ2 x = σ' x) → (∀ i, i < 16 → σ2 15 i = if i + 1 < s then σ' 15 (i + 1) else σ' 15 i) → AJ Γ2 6 RX8 cX8_go 4 (some .int) (goP σ (TA N K M) (allS N) fs h (nI j) (nI en) (fun σ' h pl => R2 σ' n0 t N K M fs h pl)) 65 [some (.inr 0), some (.inl (nI en)), some (.inl (nI m)), some (.inl (nI s))] [] σ2 := by
          intro hl r
          induction r with
          | zero =>
            intro s σ2 hs h1 hF hrow
            obtain rfl : s = 16 := by omega
            refine j_iload_n (pc := 65) dX8_go_65 rfl ?_
            refine j_bipush (pc := 66) dX8_go_66 (v := 16) (by decide) ?_
            refine j_icmp_ge (pc := 68) (tgt := 91) dX8_go_68 rfl (fun h68 => ?_) (fun h68 => absurd (by decide) h68)
            refine j_aload_n (pc := 91) dX8_go_91 rfl ?_
            refine j_dup (pc := 92) dX8_go_92 ?_
            refine j_getI (pc := 93) dX8_go_93 f_X8_112 (by first | rfl | with_reducible assumption) (by rfl) ?_
            refine j_top (y := nI 16) (by rw [hF 0 (by decide), hTr.2.2.1, hl]) ?_
            refine j_iconst (pc := 96) dX8_go_96 (v := 1) (by decide) ?_
            refine j_isub (pc := 97) dX8_go_97 ?_
            refine j_top (y := nI 15) rfl ?_
            refine j_put (pc := 98) dX8_go_98 f_X8_112 (by first | rfl | with_reducible assumption) (by rfl) ?_
            refine last _ (h.take 15) _ ⟨?_, ?_, ?_, fun i hi => ?_⟩ ?_ (take_15 hl) (fun x a b => by rw [m_ne a, hF x b]) (fun f a b => by rw [m_nk b, hF 0 (by decide)])
            · rw [m_nk (by decide), hF 0 (by decide)]; exact hTr.1
            · rw [List.length_take]; omega
            · rw [m_eq, List.length_take, hl]; rfl
            · rw [List.length_take, hl, show min 15 16 = 15 from rfl] at hi
              rw [List.length_take, hl, show min 15 16 = 15 from rfl, List.getElem?_take_of_lt hi, m_ne (by decide), hrow _ (by omega), if_pos (by omega), hTr.2.2.2 i (by omega), hl]
              rw [show 15 - 1 - i + 1 = 16 - 1 - i by omega]
            · rw [List.length_take]; omega
          | succ r ih =>
            intro s σ2 hs h1 hF hrow
            obtain ⟨s', rfl⟩ : ∃ s', s = s' + 1 := ⟨s - 1, by omega⟩
            have hcs : (nI (s' + 1)).toNatClampNeg = s' + 1 := nI_clamp (by omega)
            have hcp : (nI s').toNatClampNeg = s' := nI_clamp (by omega)
            refine j_iload_n (pc := 65) dX8_go_65 rfl ?_
            refine j_bipush (pc := 66) dX8_go_66 (v := 16) (by decide) ?_
            refine j_icmp_ge (pc := 68) (tgt := 91) dX8_go_68 rfl (fun h68 => absurd h68 (nI_ge (b := 16) (by omega) (by decide))) (fun h68 => ?_)
            refine j_aload_n (pc := 71) dX8_go_71 rfl ?_
            refine j_getR (pc := 72) dX8_go_72 f_X8_53 (by first | rfl | with_reducible assumption) (by rfl) ?_
            refine j_iload_n (pc := 75) dX8_go_75 rfl ?_
            refine j_iconst (pc := 76) dX8_go_76 (v := 1) (by decide) ?_
            refine j_isub (pc := 77) dX8_go_77 ?_
            refine j_top (nI_pred s') ?_
            refine j_aload_n (pc := 78) dX8_go_78 rfl ?_
            refine j_getR (pc := 79) dX8_go_79 f_X8_53 (by first | rfl | with_reducible assumption) (by rfl) ?_
            refine j_iload_n (pc := 82) dX8_go_82 rfl ?_
            refine j_iald (pc := 83) dX8_go_83 (by first | rfl | with_reducible assumption) (vp_in_nI (by omega) (by decide)) ?_
            refine j_iast (pc := 84) dX8_go_84 (by first | rfl | with_reducible assumption) (vp_in_nI (by omega) (by decide)) ?_
            refine j_iinc1 (pc := 85) dX8_go_85 rfl ?_
            refine j_goto (pc := 88) (tgt := 65) dX8_go_88 rfl ?_
            rw [nI_1, hcs, hcp]
            refine ih (s' + 1 + 1) _ (by omega) (by omega) (fun x hx => by rw [m_ne hx]; exact hF x hx) (fun i hi => ?_)
            by_cases z : i = s'
            · subst z
              rw [m_eq, if_pos (by omega), hrow (i + 1) (by omega), if_neg (by omega)]
            · rw [m_nk z, hrow i hi]
              by_cases y : i + 1 < s' + 1
              · rw [if_pos y, if_pos (by omega)]
              · rw [if_neg y, if_neg (by omega)]
        refine j_if_eq (pc := 13) (tgt := 19) dX8_go_13 rfl (fun h13 => ?_) (fun h13 => absurd rfl h13)
        refine j_aload_n (pc := 19) dX8_go_19 rfl ?_
        refine j_getR (pc := 20) dX8_go_20 f_X8_34 (by first | rfl | with_reducible assumption) (by rfl) ?_
        refine j_bipush (pc := 23) dX8_go_23 (v := 8) (by decide) ?_
        refine j_aload_n (pc := 25) dX8_go_25 rfl ?_
        refine j_getI (pc := 26) dX8_go_26 f_X8_109 (by first | rfl | with_reducible assumption) (by rfl) ?_
        refine j_top hTr.1 ?_
        refine j_imul (pc := 29) dX8_go_29 ?_
        refine j_iload_n (pc := 30) dX8_go_30 rfl ?_
        refine j_iadd (pc := 31) dX8_go_31 ?_
        refine j_top hx8 ?_
        refine j_iald (pc := 32) dX8_go_32 (by first | rfl | with_reducible assumption) (vp_in_nI (by omega) (by decide)) ?_
        refine j_top (hto.trans hz) ?_
        refine j_istore_n (pc := 33) dX8_go_33 (by decide) ?_
        refine j_iload_n (pc := 34) dX8_go_34 rfl ?_
        refine j_bipush (pc := 35) dX8_go_35 (v := (-9)) (by decide) ?_
        refine j_icmp_eq (pc := 37) (tgt := 51) dX8_go_37 rfl (fun h37 => absurd h37 (nI_z (by omega))) (fun h37 => ?_)
        refine j_aload_n (pc := 40) dX8_go_40 rfl ?_
        refine j_getR (pc := 41) dX8_go_41 f_X8_37 (by first | rfl | with_reducible assumption) (by rfl) ?_
        refine j_iload_n (pc := 44) dX8_go_44 rfl ?_
        refine j_iald (pc := 45) dX8_go_45 (by first | rfl | with_reducible assumption) (vp_in_nI (by omega) (by decide)) ?_
        refine j_top (y := -9) (by rw [hcm, hWm]; exact hwm) ?_
        refine j_bipush (pc := 46) dX8_go_46 (v := (-9)) (by decide) ?_
        refine j_icmp_eq (pc := 48) (tgt := 54) dX8_go_48 rfl (fun h48 => ?_) (fun h48 => absurd rfl h48)
        refine j_aload_n (pc := 54) dX8_go_54 rfl ?_
        refine j_getI (pc := 55) dX8_go_55 f_X8_112 (by first | rfl | with_reducible assumption) (by rfl) ?_
        refine j_top hTr.2.2.1 ?_
        refine j_bipush (pc := 58) dX8_go_58 (v := 16) (by decide) ?_
        refine j_icmp_ne (pc := 60) (tgt := 101) dX8_go_60 rfl (fun h60 => ?_) (fun h60 => ?_)
        · have hl : h.length < 16 := by
            have h1 := hTr.2.1
            have : h.length ≠ 16 := fun z => h60 (by rw [z]; rfl)
            omega
          exact last σ' h _ hTr hl (List.take_of_length_le (by rw [List.length_cons]; omega)) (fun _ _ _ => rfl) (fun _ _ _ => rfl)
        · refine j_iconst (pc := 63) dX8_go_63 (v := 1) (by decide) ?_
          refine j_istore_n (pc := 64) dX8_go_64 (by decide) ?_
          have hl : h.length = 16 := (nI_eq (b := 16) (by have := hTr.2.1; omega) (by decide)).mp h60
          exact shift hl 15 1 σ' rfl (Nat.le_refl _) (fun _ _ => rfl) (fun i hi => by rw [if_neg (by omega)])
      · refine j_if_eq (pc := 13) (tgt := 19) dX8_go_13 rfl (fun h13 => ?_) (fun h13 => absurd rfl h13)
        refine j_aload_n (pc := 19) dX8_go_19 rfl ?_
        refine j_getR (pc := 20) dX8_go_20 f_X8_34 (by first | rfl | with_reducible assumption) (by rfl) ?_
        refine j_bipush (pc := 23) dX8_go_23 (v := 8) (by decide) ?_
        refine j_aload_n (pc := 25) dX8_go_25 rfl ?_
        refine j_getI (pc := 26) dX8_go_26 f_X8_109 (by first | rfl | with_reducible assumption) (by rfl) ?_
        refine j_top hTr.1 ?_
        refine j_imul (pc := 29) dX8_go_29 ?_
        refine j_iload_n (pc := 30) dX8_go_30 rfl ?_
        refine j_iadd (pc := 31) dX8_go_31 ?_
        refine j_top hx8 ?_
        refine j_iald (pc := 32) dX8_go_32 (by first | rfl | with_reducible assumption) (vp_in_nI (by omega) (by decide)) ?_
        refine j_top (hto.trans hz) ?_
        refine j_istore_n (pc := 33) dX8_go_33 (by decide) ?_
        refine j_iload_n (pc := 34) dX8_go_34 rfl ?_
        refine j_bipush (pc := 35) dX8_go_35 (v := (-9)) (by decide) ?_
        refine j_icmp_eq (pc := 37) (tgt := 51) dX8_go_37 rfl (fun h37 => absurd h37 (nI_z (by omega))) (fun h37 => ?_)
        refine j_aload_n (pc := 40) dX8_go_40 rfl ?_
        refine j_getR (pc := 41) dX8_go_41 f_X8_37 (by first | rfl | with_reducible assumption) (by rfl) ?_
        refine j_iload_n (pc := 44) dX8_go_44 rfl ?_
        refine j_iald (pc := 45) dX8_go_45 (by first | rfl | with_reducible assumption) (vp_in_nI (by omega) (by decide)) ?_
        refine j_top (y := (gW (TA N K M) (allS N) fs k).1 m) (by rw [hcm, hWm]) ?_
        refine j_bipush (pc := 46) dX8_go_46 (v := (-9)) (by decide) ?_
        refine j_icmp_eq (pc := 48) (tgt := 54) dX8_go_48 rfl (fun h48 => absurd h48 hwm) (fun h48 => ?_)
        refine j_bipush (pc := 51) dX8_go_51 (v := (-9)) (by decide) ?_
        refine j_iret (pc := 53) dX8_go_53 ?_
        exact none_ (fun m' hm' z => by rw [(nI_eq (by omega) (by omega)).mp (z.symm.trans hz)]; exact hwm)
  refine EV.intro (by decide +kernel) (Nat.le_of_ble_eq_true rfl) ?_
  refine j_iload_n (pc := 0) dX8_go_0 rfl ?_
  refine j_callSi (pc := 1) dX8_go_1 k_X8_115 (c_X8_isEvent _ _) rfl (by decide) rfl (Nat.le_of_ble_eq_true rfl) (fun r σ1 hp => ?_)
  obtain ⟨rfl, hp⟩ := hp
  rcases hp with ⟨q1, rfl⟩ | ⟨q1, rfl⟩
  · refine j_if_ne (pc := 4) (tgt := 9) dX8_go_4 rfl (fun _ => ?_) (fun h => absurd h (by decide))
    refine j_aload_n (pc := 9) dX8_go_9 rfl ?_
    refine j_callVi (pc := 10) dX8_go_10 k_X8_192 (c_X8_isShut q) (by first | rfl | with_reducible assumption) rfl rfl (by decide) rfl (Nat.le_of_ble_eq_true rfl) (fun r σ1 hp => ?_)
    obtain ⟨hR, hp⟩ := hp
    have hin := inR_iff.mpr q1
    rcases hp with ⟨hO, rfl⟩ | ⟨hO, hG, k, hk, ⟨hw, rfl⟩ | ⟨hw, rfl⟩⟩
    · exact goS _ (Or.inr (Or.inl ⟨hin, hO, rfl, hR⟩))
    · exact goS _ (Or.inr (Or.inr ⟨hin, hO, k, hk.2.1, Or.inl ⟨hw, rfl, hR⟩⟩))
    · obtain ⟨en, hen, hee⟩ := vp_in_of q1 (by decide)
      exact goN _ k en hen hee hR hO hG hk hw
  · refine j_if_ne (pc := 4) (tgt := 9) dX8_go_4 rfl (fun h => absurd h (by decide)) (fun _ => ?_)
    refine j_iconst (pc := 7) dX8_go_7 (v := (-1)) (by decide) ?_
    refine j_iret (pc := 8) dX8_go_8 ?_
    exact Or.inl ⟨fun z => q1 (inR_iff.mp z), rfl, q⟩
end GoR
