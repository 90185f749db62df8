/-! NET.spreadFrom: the walk -/
theorem c_X3_spreadFrom {b : Nat} (hb : IsN b) (hb2 : 22 < b) {set : Int32} {σ : Mm} {n : Nat} (hM : MS σ set) (h0 : BI σ b (T1 σ) set (8 * n) n) (hn : n < (csx (T1 σ) set (8 * n)).length) (hA1 : σ b 11 = A1F σ set) (hA2 : σ b 12 = A2F σ set) : EV Γ1 3 yX3_spreadFrom cX3_spreadFrom 8 none [.inr b, .inl (nI n), .inr 4, .inl set] σ (spP σ b (T1 σ) set n) := by
  have g0 := hb.1
  have g1 := hb.2.1
  have g2 := hb.2.2.1
  have g3 := hb.2.2.2.1
  have g4 := hb.2.2.2.2.1
  have g5 := hb.2.2.2.2.2.1
  have hJ := h0.2.1
  have hJ2 := h0.2.2.1
  have hn150 : n < 150 := by omega
  have hcn : (nI n).toNatClampNeg = n := nI_clamp (by omega)
  have hvn : vp_in (nI n) 150 := vp_in_nI hn150 (by decide)
  obtain ⟨c, hc⟩ : ∃ c, (csx (T1 σ) set (8 * n))[n]? = some c := ⟨_, List.getElem?_eq_getElem hn⟩
  have hcc : σ (b + 1) n = c := h0.2.2.2.1 n c hc
  have hoc : okC c := csx_ok (T1 σ) set (fun m a b => (hM.2 m a b).1) _ c (List.mem_of_getElem? hc)
  -- too many: the rest of the EVENTS
  have over : ∀ (k e : Nat), e + k = 8 → ∀ (σ' : Mm) (p4 p5 y : Option Vl), FrN b σ σ' → σ' b 11 = σ b 11 → σ' b 12 = σ b 12 → σ' (b + 1) n = c → OV σ' b (T1 σ) set →
      AJ Γ1 3 RX3 cX3_spreadFrom 8 none (spP σ b (T1 σ) set n) 140 [some (.inr b), some (.inl (nI n)), some (.inr 4), some (.inl set), p4, p5, some (.inl (nI e)), y] [] σ' := by
    intro k
    induction k with
    | zero =>
      intro e he σ' p4 p5 y hF k1 k2 hcn' hO
      obtain rfl : e = 8 := by omega
      refine j_iload (pc := 140) dX3_spreadFrom_140 rfl ?_
      refine j_bipush (pc := 142) dX3_spreadFrom_142 (v := 8) (by decide) ?_
      refine j_icmp_ge (pc := 144) (tgt := 206) dX3_spreadFrom_144 rfl (fun h144 => ?_) (fun h144 => absurd (by decide) h144)
      refine j_vret (pc := 206) dX3_spreadFrom_206 ?_
      exact ⟨hF, k1, k2, Or.inr hO⟩
    | succ k ih =>
      intro e he σ' p4 p5 y hF k1 k2 hcn' hO
      have he8 : e < 8 := by omega
      have hx := nI_8 n e
      have hcx : (nI (8 * n + e)).toNatClampNeg = 8 * n + e := nI_clamp (by omega)
      have e1 : ∀ v, m_up σ' (b + 5) (8 * n + e) v (b + 1) = σ' (b + 1) := fun v => m_ne (by omega)
      have hJ' : m_up σ' (b + 5) (8 * n + e) (-9) b 13 = nI 150 := by rw [m_ne (by omega)]; exact hO.2.2.1
      have hT' : HT (m_up σ' (b + 5) (8 * n + e) (-9) (b + 1)) (m_up σ' (b + 5) (8 * n + e) (-9) (b + 8)) 150 := by rw [m_ne (by omega), m_ne (by omega)]; exact hO.2.2.2
      have hO1 : OV (m_up σ' (b + 5) (8 * n + e) (-9)) b (T1 σ) set := ⟨hO.1, by rw [m_ne (by omega)]; exact hO.2.1, hJ', hT'⟩
      refine j_iload (pc := 140) dX3_spreadFrom_140 rfl ?_
      refine j_bipush (pc := 142) dX3_spreadFrom_142 (v := 8) (by decide) ?_
      refine j_icmp_ge (pc := 144) (tgt := 206) dX3_spreadFrom_144 rfl (fun h144 => absurd h144 (nI_ge (b := 8) (by omega) (by decide))) (fun h144 => ?_)
      refine j_aload_n (pc := 147) dX3_spreadFrom_147 rfl ?_
      refine j_getR (pc := 148) dX3_spreadFrom_148 f_X3_25 (by first | rfl | with_reducible assumption) (by rfl) ?_
      refine j_iload_n (pc := 151) dX3_spreadFrom_151 rfl ?_
      refine j_bipush (pc := 152) dX3_spreadFrom_152 (v := 8) (by decide) ?_
      refine j_imul (pc := 154) dX3_spreadFrom_154 ?_
      refine j_iload (pc := 155) dX3_spreadFrom_155 rfl ?_
      refine j_iadd (pc := 157) dX3_spreadFrom_157 ?_
      refine j_top hx ?_
      refine j_bipush (pc := 158) dX3_spreadFrom_158 (v := (-9)) (by decide) ?_
      refine j_iast (pc := 160) dX3_spreadFrom_160 (by first | rfl | with_reducible assumption) (vp_in_nI (by omega) (by decide)) ?_
      rw [hcx]
      refine j_aload_n (pc := 161) dX3_spreadFrom_161 rfl ?_
      refine j_getR (pc := 162) dX3_spreadFrom_162 f_X3_15 (by first | rfl | with_reducible assumption) (by rfl) ?_
      refine j_iload_n (pc := 165) dX3_spreadFrom_165 rfl ?_
      refine j_iald (pc := 166) dX3_spreadFrom_166 (by first | rfl | with_reducible assumption) hvn ?_
      refine j_iload (pc := 167) dX3_spreadFrom_167 rfl ?_
      refine j_callSNi (pc := 169) dX3_spreadFrom_169 k_X3_78 (c_X7_isIn _ (j := e) (by omega) _) rfl (by decide) rfl (Nat.le_of_ble_eq_true rfl) (fun r σ1 hp => ?_)
      obtain ⟨rfl, hp⟩ := hp
      rcases hp with ⟨q169, rfl⟩ | ⟨q169, rfl⟩
      · refine j_if_eq (pc := 172) (tgt := 200) dX3_spreadFrom_172 rfl (fun h => absurd h (by decide)) (fun _ => ?_)
        refine j_aload_n (pc := 175) dX3_spreadFrom_175 rfl ?_
        refine j_iload_n (pc := 176) dX3_spreadFrom_176 rfl ?_
        refine j_iload (pc := 177) dX3_spreadFrom_177 rfl ?_
        refine j_aload_n (pc := 179) dX3_spreadFrom_179 rfl ?_
        refine j_aload_n (pc := 180) dX3_spreadFrom_180 rfl ?_
        refine j_aload_n (pc := 181) dX3_spreadFrom_181 rfl ?_
        refine j_getR (pc := 182) dX3_spreadFrom_182 f_X3_9 (by first | rfl | with_reducible assumption) (by rfl) ?_
        refine j_iload_n (pc := 185) dX3_spreadFrom_185 rfl ?_
        refine j_iald (pc := 186) dX3_spreadFrom_186 (by first | rfl | with_reducible assumption) hvn ?_
        refine j_top (y := c) (by rw [hcn, e1]; exact hcn') ?_
        refine j_iload (pc := 187) dX3_spreadFrom_187 rfl ?_
        refine j_aload_n (pc := 189) dX3_spreadFrom_189 rfl ?_
        refine j_iload_n (pc := 190) dX3_spreadFrom_190 rfl ?_
        refine j_callVi (pc := 191) dX3_spreadFrom_191 k_X3_99 (c_X3_codeBehind hb set hoc he8 _) (by first | rfl | with_reducible assumption) rfl rfl (by decide) rfl (Nat.le_of_ble_eq_true rfl) (fun r σ1 hp => ?_)
        obtain ⟨rfl, rfl⟩ := hp
        refine j_callVi (pc := 194) dX3_spreadFrom_194 k_X3_70 (c_X3_meet hb _ hJ' (Nat.le_refl _) hT') (by first | rfl | with_reducible assumption) rfl rfl (by decide) rfl (Nat.le_of_ble_eq_true rfl) (fun r σ1 hp => ?_)
        have hs1 : σ1 = m_up σ' (b + 5) (8 * n + e) (-9) := by
          rcases hp with ⟨j, -, -, -, q⟩ | ⟨-, q, -⟩ | ⟨-, -, -, q⟩
          · exact q
          · exact absurd q (by omega)
          · exact q
        subst hs1
        refine j_callVv (pc := 197) dX3_spreadFrom_197 k_X3_103 (c_X3_addEdge hb hn150 he8 _ hJ' (Nat.le_refl _)) (by first | rfl | with_reducible assumption) rfl rfl (by decide) rfl (Nat.le_of_ble_eq_true rfl) (fun σ1 hp => ?_)
        skip
        refine j_iinc1 (pc := 200) dX3_spreadFrom_200 rfl ?_
        refine j_goto (pc := 203) (tgt := 140) dX3_spreadFrom_203 rfl ?_
        rw [nI_1]
        first
          | exact ih (e + 1) (by omega) _ _ _ _ (hF.up (by omega)) (by rw [m_ne (by omega)]; exact k1) (by rw [m_ne (by omega)]; exact k2) (by rw [e1]; exact hcn') hO1
          | (rcases hp with ⟨-, rfl⟩ | ⟨j, -, -, rfl⟩
             · refine ih (e + 1) (by omega) _ _ _ _ ((hF.up (by omega)).up (by omega)) (by rw [m_nk (by decide), m_ne (by omega)]; exact k1) (by rw [m_nk (by decide), m_ne (by omega)]; exact k2) (by rw [m_ne (by omega), e1]; exact hcn') ⟨hO.1, m_eq _ _ _ _, by rw [m_nk (by decide)]; exact hJ', by rw [m_ne (show b + 1 ≠ b by omega), m_ne (show b + 8 ≠ b by omega)]; exact hT'⟩
             · refine ih (e + 1) (by omega) _ _ _ _ ((((hF.up (by omega)).up (by omega)).up (by omega)).up (by omega)) ?_ ?_ ?_ ⟨hO.1, ?_, ?_, ?_⟩
               all_goals simp only [m_ne (show b ≠ b + 5 by omega), m_ne (show b ≠ b + 6 by omega), m_ne (show b ≠ b + 7 by omega), m_ne (show b + 1 ≠ b + 5 by omega), m_ne (show b + 1 ≠ b + 6 by omega), m_ne (show b + 1 ≠ b + 7 by omega), m_ne (show b + 8 ≠ b + 5 by omega), m_ne (show b + 8 ≠ b + 6 by omega), m_ne (show b + 8 ≠ b + 7 by omega)]
               · exact k1
               · exact k2
               · exact hcn'
               · exact hO.2.1
               · exact hO.2.2.1
               · exact hO.2.2.2)
      · refine j_if_eq (pc := 172) (tgt := 200) dX3_spreadFrom_172 rfl (fun _ => ?_) (fun h => absurd h (by decide))
        refine j_iinc1 (pc := 200) dX3_spreadFrom_200 rfl ?_
        refine j_goto (pc := 203) (tgt := 140) dX3_spreadFrom_203 rfl ?_
        rw [nI_1]
        first
          | exact ih (e + 1) (by omega) _ _ _ _ (hF.up (by omega)) (by rw [m_ne (by omega)]; exact k1) (by rw [m_ne (by omega)]; exact k2) (by rw [e1]; exact hcn') hO1
          | (rcases hp with ⟨-, rfl⟩ | ⟨j, -, -, rfl⟩
             · refine ih (e + 1) (by omega) _ _ _ _ ((hF.up (by omega)).up (by omega)) (by rw [m_nk (by decide), m_ne (by omega)]; exact k1) (by rw [m_nk (by decide), m_ne (by omega)]; exact k2) (by rw [m_ne (by omega), e1]; exact hcn') ⟨hO.1, m_eq _ _ _ _, by rw [m_nk (by decide)]; exact hJ', by rw [m_ne (show b + 1 ≠ b by omega), m_ne (show b + 8 ≠ b by omega)]; exact hT'⟩
             · refine ih (e + 1) (by omega) _ _ _ _ ((((hF.up (by omega)).up (by omega)).up (by omega)).up (by omega)) ?_ ?_ ?_ ⟨hO.1, ?_, ?_, ?_⟩
               all_goals simp only [m_ne (show b ≠ b + 5 by omega), m_ne (show b ≠ b + 6 by omega), m_ne (show b ≠ b + 7 by omega), m_ne (show b + 1 ≠ b + 5 by omega), m_ne (show b + 1 ≠ b + 6 by omega), m_ne (show b + 1 ≠ b + 7 by omega), m_ne (show b + 8 ≠ b + 5 by omega), m_ne (show b + 8 ≠ b + 6 by omega), m_ne (show b + 8 ≠ b + 7 by omega)]
               · exact k1
               · exact k2
               · exact hcn'
               · exact hO.2.1
               · exact hO.2.2.1
               · exact hO.2.2.2)
  -- the EVENTS one by one
  have loop : ∀ (k e : Nat), e + k = 8 → ∀ (σ' : Mm) (p4 p5 y : Option Vl), FrN b σ σ' → σ' b 11 = σ b 11 → σ' b 12 = σ b 12 → BI σ' b (T1 σ) set (8 * n + e) (n + 1) →
      AJ Γ1 3 RX3 cX3_spreadFrom 8 none (spP σ b (T1 σ) set n) 140 [some (.inr b), some (.inl (nI n)), some (.inr 4), some (.inl set), p4, p5, some (.inl (nI e)), y] [] σ' := by
    intro k
    induction k with
    | zero =>
      intro e he σ' p4 p5 y hF k1 k2 hB
      obtain rfl : e = 8 := by omega
      refine j_iload (pc := 140) dX3_spreadFrom_140 rfl ?_
      refine j_bipush (pc := 142) dX3_spreadFrom_142 (v := 8) (by decide) ?_
      refine j_icmp_ge (pc := 144) (tgt := 206) dX3_spreadFrom_144 rfl (fun h144 => ?_) (fun h144 => absurd (by decide) h144)
      refine j_vret (pc := 206) dX3_spreadFrom_206 ?_
      exact ⟨hF, k1, k2, Or.inl (by rw [show 8 * (n + 1) = 8 * n + 8 by omega]; exact hB)⟩
    | succ k ih =>
      intro e he σ' p4 p5 y hF k1 k2 hB
      have he8 : e < 8 := by omega
      have hx := nI_8 n e
      have hcx : (nI (8 * n + e)).toNatClampNeg = 8 * n + e := nI_clamp (by omega)
      have hcs : (csx (T1 σ) set (8 * n + e))[n]? = some c := by rw [csx_get (T1 σ) set (show 8 * n ≤ 8 * n + e by omega) hn]; exact hc
      have hcn' : σ' (b + 1) n = c := hB.2.2.2.1 n c hcs
      have hnx : nxt (T1 σ) set (csx (T1 σ) set (8 * n + e)) (8 * n + e) = led (T1 σ) set c e := by
        unfold nxt
        rw [show (8 * n + e) / 8 = n by omega, show (8 * n + e) % 8 = e by omega, hcs]
        rfl
      have hrow := (hB.2.2.2.2.2.2.2 n c (by omega) hcs).1 e (by omega)
      rw [show (decide (e < 8) && leadB (T1 σ) set c e) = leadB (T1 σ) set c e by simp [he8], ← led_lead] at hrow
      have e1 : ∀ v, m_up σ' (b + 5) (8 * n + e) v (b + 1) = σ' (b + 1) := fun v => m_ne (by omega)
      have e2 : ∀ v, m_up σ' (b + 5) (8 * n + e) v (b + 2) = σ' (b + 2) := fun v => m_ne (by omega)
      have e8 : ∀ v, m_up σ' (b + 5) (8 * n + e) v (b + 8) = σ' (b + 8) := fun v => m_ne (by omega)
      have hJ' : m_up σ' (b + 5) (8 * n + e) (-9) b 13 = nI (csx (T1 σ) set (8 * n + e)).length := by rw [m_ne (by omega)]; exact hB.2.1
      have hT' : HT (m_up σ' (b + 5) (8 * n + e) (-9) (b + 1)) (m_up σ' (b + 5) (8 * n + e) (-9) (b + 8)) (csx (T1 σ) set (8 * n + e)).length := by rw [e1, e8]; exact hB.2.2.2.2.1
      have hF1 : FrN b σ (m_up σ' (b + 5) (8 * n + e) (-9)) := hF.up (by omega)
      have hget : ∀ j, j < (csx (T1 σ) set (8 * n + e)).length → (csx (T1 σ) set (8 * n + e))[j]? = some (σ' (b + 1) j) := fun j hj => by
        have := List.getElem?_eq_getElem hj
        rw [this, hB.2.2.2.1 j _ this]
      refine j_iload (pc := 140) dX3_spreadFrom_140 rfl ?_
      refine j_bipush (pc := 142) dX3_spreadFrom_142 (v := 8) (by decide) ?_
      refine j_icmp_ge (pc := 144) (tgt := 206) dX3_spreadFrom_144 rfl (fun h144 => absurd h144 (nI_ge (b := 8) (by omega) (by decide))) (fun h144 => ?_)
      refine j_aload_n (pc := 147) dX3_spreadFrom_147 rfl ?_
      refine j_getR (pc := 148) dX3_spreadFrom_148 f_X3_25 (by first | rfl | with_reducible assumption) (by rfl) ?_
      refine j_iload_n (pc := 151) dX3_spreadFrom_151 rfl ?_
      refine j_bipush (pc := 152) dX3_spreadFrom_152 (v := 8) (by decide) ?_
      refine j_imul (pc := 154) dX3_spreadFrom_154 ?_
      refine j_iload (pc := 155) dX3_spreadFrom_155 rfl ?_
      refine j_iadd (pc := 157) dX3_spreadFrom_157 ?_
      refine j_top hx ?_
      refine j_bipush (pc := 158) dX3_spreadFrom_158 (v := (-9)) (by decide) ?_
      refine j_iast (pc := 160) dX3_spreadFrom_160 (by first | rfl | with_reducible assumption) (vp_in_nI (by omega) (by decide)) ?_
      rw [hcx]
      refine j_aload_n (pc := 161) dX3_spreadFrom_161 rfl ?_
      refine j_getR (pc := 162) dX3_spreadFrom_162 f_X3_15 (by first | rfl | with_reducible assumption) (by rfl) ?_
      refine j_iload_n (pc := 165) dX3_spreadFrom_165 rfl ?_
      refine j_iald (pc := 166) dX3_spreadFrom_166 (by first | rfl | with_reducible assumption) hvn ?_
      refine j_top (y := σ' (b + 2) n) (by rw [hcn, e2]) ?_
      refine j_iload (pc := 167) dX3_spreadFrom_167 rfl ?_
      refine j_callSNi (pc := 169) dX3_spreadFrom_169 k_X3_78 (c_X7_isIn _ (j := e) (by omega) _) rfl (by decide) rfl (Nat.le_of_ble_eq_true rfl) (fun r σ1 hp => ?_)
      obtain ⟨rfl, hp⟩ := hp
      rcases hp with ⟨q169, rfl⟩ | ⟨q169, rfl⟩
      · have hsome : ∃ t, led (T1 σ) set c e = some t := by
          rw [hrow] at q169
          exact Option.isSome_iff_exists.mp q169
        obtain ⟨t, ht⟩ := hsome
        have hcb : cbF (T1 σ) set c e 6 = t := cb_led (fun m a b => (hM.2 m a b).1) hoc he8 ht
        rw [ht] at hnx
        refine j_if_eq (pc := 172) (tgt := 200) dX3_spreadFrom_172 rfl (fun h => absurd h (by decide)) (fun _ => ?_)
        refine j_aload_n (pc := 175) dX3_spreadFrom_175 rfl ?_
        refine j_iload_n (pc := 176) dX3_spreadFrom_176 rfl ?_
        refine j_iload (pc := 177) dX3_spreadFrom_177 rfl ?_
        refine j_aload_n (pc := 179) dX3_spreadFrom_179 rfl ?_
        refine j_aload_n (pc := 180) dX3_spreadFrom_180 rfl ?_
        refine j_aload_n (pc := 181) dX3_spreadFrom_181 rfl ?_
        refine j_getR (pc := 182) dX3_spreadFrom_182 f_X3_9 (by first | rfl | with_reducible assumption) (by rfl) ?_
        refine j_iload_n (pc := 185) dX3_spreadFrom_185 rfl ?_
        refine j_iald (pc := 186) dX3_spreadFrom_186 (by first | rfl | with_reducible assumption) hvn ?_
        refine j_top (y := c) (by rw [hcn, e1]; exact hcn') ?_
        refine j_iload (pc := 187) dX3_spreadFrom_187 rfl ?_
        refine j_aload_n (pc := 189) dX3_spreadFrom_189 rfl ?_
        refine j_iload_n (pc := 190) dX3_spreadFrom_190 rfl ?_
        refine j_callVi (pc := 191) dX3_spreadFrom_191 k_X3_99 (c_X3_codeBehind hb set hoc he8 _) (by first | rfl | with_reducible assumption) rfl rfl (by decide) rfl (Nat.le_of_ble_eq_true rfl) (fun r σ1 hp => ?_)
        obtain ⟨rfl, rfl⟩ := hp
        rw [hF1.T1 hb2, hcb]
        refine j_callVi (pc := 194) dX3_spreadFrom_194 k_X3_70 (c_X3_meet hb _ hJ' hB.2.2.1 hT') (by first | rfl | with_reducible assumption) rfl rfl (by decide) rfl (Nat.le_of_ble_eq_true rfl) (fun r σ1 hp => ?_)
        have hle := hB.2.2.1
        have hpost : ∀ σ2 : Mm, ((¬ vp_in r (csx (T1 σ) set (8 * n + e)).length ∧ False) ∨ True) → True := fun _ _ => trivial
        rcases hp with ⟨j, hj, hcj, rfl, rfl⟩ | ⟨hne, h150, rfl, i, hi, hHT, rfl⟩ | ⟨hne, h150, rfl, rfl⟩
        · refine j_callVv (pc := 197) dX3_spreadFrom_197 k_X3_103 (c_X3_addEdge hb hn150 he8 _ hJ' hB.2.2.1) g0 rfl rfl (by decide) rfl (Nat.le_of_ble_eq_true rfl) (fun σ1 hp => ?_)
          rcases hp with ⟨q, -⟩ | ⟨j', hj', hjj, rfl⟩
          · exact absurd (vp_in_nI hj (by omega)) q
          · obtain rfl : j = j' := (nI_eq (by omega) (by omega)).mp hjj
            refine j_iinc1 (pc := 200) dX3_spreadFrom_200 rfl ?_
            refine j_goto (pc := 203) (tgt := 140) dX3_spreadFrom_203 rfl ?_
            rw [nI_1, e1] at *
            have hB2 := hB.old hnx (j := j) (by rw [hget j hj, hcj])
            rw [show m_up σ' (b + 5) (8 * n + e) (-9) (b + 6) = σ' (b + 6) from m_ne (by omega)]
            refine ih (e + 1) (by omega) _ _ _ _ (((hF1.up (by omega)).up (by omega)).up (by omega)) ?_ ?_ hB2
            · simp only [m_ne (show b ≠ b + 5 by omega), m_ne (show b ≠ b + 6 by omega), m_ne (show b ≠ b + 7 by omega)]; exact k1
            · simp only [m_ne (show b ≠ b + 5 by omega), m_ne (show b ≠ b + 6 by omega), m_ne (show b ≠ b + 7 by omega)]; exact k2
        · have hcn2 : t ∉ csx (T1 σ) set (8 * n + e) := fun q => by
            obtain ⟨j, hj⟩ := List.getElem?_of_mem q
            have hjl := (List.getElem?_eq_some_iff.mp hj).1
            have := hne j hjl
            rw [e1] at this
            exact this (hB.2.2.2.1 j t hj)
          have hlen := csx_len (T1 σ) set (show 8 * n ≤ 8 * n + e by omega)
          refine j_callVv (pc := 197) dX3_spreadFrom_197 k_X3_103 (c_X3_addEdge hb hn150 he8 _ (J := (csx (T1 σ) set (8 * n + e)).length + 1) (by rw [m_ne (by omega), m_eq]) (by omega)) g0 rfl rfl (by decide) rfl (Nat.le_of_ble_eq_true rfl) (fun σ1 hp => ?_)
          rcases hp with ⟨q, -⟩ | ⟨j', hj', hjj, rfl⟩
          · exact absurd (vp_in_nI (by omega) (by omega)) q
          · obtain rfl : (csx (T1 σ) set (8 * n + e)).length = j' := (nI_eq (by omega) (by omega)).mp hjj
            refine j_iinc1 (pc := 200) dX3_spreadFrom_200 rfl ?_
            refine j_goto (pc := 203) (tgt := 140) dX3_spreadFrom_203 rfl ?_
            rw [nI_1]
            rw [e1, e8] at hHT
            have hB2 := hB.new hnx hcn2 rfl h150 (by omega) hHT rfl
            refine ih (e + 1) (by omega) _ _ _ _ (((((((hF1.up (by omega)).up (by omega)).up (by omega)).up (by omega)).up (by omega)).up (by omega)).up (by omega)) ?_ ?_ hB2
            · simp only [m_ne (show b ≠ b + 5 by omega), m_ne (show b ≠ b + 6 by omega), m_ne (show b ≠ b + 7 by omega), m_ne (show b ≠ b + 8 by omega), m_ne (show b ≠ b + 1 by omega), m_nk (show 11 ≠ 13 by decide)]; exact k1
            · simp only [m_ne (show b ≠ b + 5 by omega), m_ne (show b ≠ b + 6 by omega), m_ne (show b ≠ b + 7 by omega), m_ne (show b ≠ b + 8 by omega), m_ne (show b ≠ b + 1 by omega), m_nk (show 12 ≠ 13 by decide)]; exact k2
        · have hcn2 : t ∉ csx (T1 σ) set (8 * n + e) := fun q => by
            obtain ⟨j, hj⟩ := List.getElem?_of_mem q
            have hjl := (List.getElem?_eq_some_iff.mp hj).1
            have := hne j hjl
            rw [e1] at this
            exact this (hB.2.2.2.1 j t hj)
          have hov := over_of (by omega) hnx hcn2 h150
          rw [h150] at hJ' hT'
          refine j_callVv (pc := 197) dX3_spreadFrom_197 k_X3_103 (c_X3_addEdge hb hn150 he8 _ hJ' (Nat.le_refl _)) g0 rfl rfl (by decide) rfl (Nat.le_of_ble_eq_true rfl) (fun σ1 hp => ?_)
          rcases hp with ⟨-, rfl⟩ | ⟨j', hj', hjj, -⟩
          · refine j_iinc1 (pc := 200) dX3_spreadFrom_200 rfl ?_
            refine j_goto (pc := 203) (tgt := 140) dX3_spreadFrom_203 rfl ?_
            rw [nI_1]
            exact over k (e + 1) (by omega) _ _ _ _ (hF1.up (by omega)) (by rw [m_nk (by decide), m_ne (by omega)]; exact k1) (by rw [m_nk (by decide), m_ne (by omega)]; exact k2) (by rw [m_ne (by omega), e1]; exact hcn') ⟨hov, m_eq _ _ _ _, by rw [m_nk (by decide)]; exact hJ', by rw [m_ne (show b + 1 ≠ b by omega), m_ne (show b + 8 ≠ b by omega)]; exact hT'⟩
          · exact absurd hjj.symm (nI_z (by omega))
      · have hnone : led (T1 σ) set c e = none := by
          rw [hrow] at q169
          cases hl : led (T1 σ) set c e with
          | none => rfl
          | some t => rw [hl] at q169; exact absurd rfl q169
        refine j_if_eq (pc := 172) (tgt := 200) dX3_spreadFrom_172 rfl (fun _ => ?_) (fun h => absurd h (by decide))
        refine j_iinc1 (pc := 200) dX3_spreadFrom_200 rfl ?_
        refine j_goto (pc := 203) (tgt := 140) dX3_spreadFrom_203 rfl ?_
        rw [nI_1]
        exact ih (e + 1) (by omega) _ _ _ _ hF1 (by rw [m_ne (by omega)]; exact k1) (by rw [m_ne (by omega)]; exact k2) (hB.none (hnx.trans hnone))
  have fin : ∀ (w4 w5 : Int32) (p6 y : Option Vl), w4 = mpF σ set c 6 → w5 = mrF σ set c 6 → AJ Γ1 3 RX3 cX3_spreadFrom 8 none (spP σ b (T1 σ) set n) 81 [some (.inr b), some (.inl (nI n)), some (.inr 4), some (.inl set), some (.inl w4), some (.inl w5), p6, y] [] σ := by
    intro w4 w5 p6 y hw4 hw5
    subst hw4 hw5
    refine j_aload_n (pc := 81) dX3_spreadFrom_81 rfl ?_
    refine j_getR (pc := 82) dX3_spreadFrom_82 f_X3_21 (by first | rfl | with_reducible assumption) (by rfl) ?_
    refine j_iload_n (pc := 85) dX3_spreadFrom_85 rfl ?_
    refine j_aload_n (pc := 86) dX3_spreadFrom_86 rfl ?_
    refine j_aload_n (pc := 87) dX3_spreadFrom_87 rfl ?_
    refine j_getR (pc := 88) dX3_spreadFrom_88 f_X3_9 (by first | rfl | with_reducible assumption) (by rfl) ?_
    refine j_iload_n (pc := 91) dX3_spreadFrom_91 rfl ?_
    refine j_iald (pc := 92) dX3_spreadFrom_92 (by first | rfl | with_reducible assumption) hvn ?_
    refine j_top (y := c) (by rw [hcn]; exact hcc) ?_
    refine j_aload_n (pc := 93) dX3_spreadFrom_93 rfl ?_
    refine j_iload_n (pc := 94) dX3_spreadFrom_94 rfl ?_
    refine j_callVi (pc := 95) dX3_spreadFrom_95 k_X3_95 (c_X3_allMarked hb set c σ) (by first | rfl | with_reducible assumption) rfl rfl (by decide) rfl (Nat.le_of_ble_eq_true rfl) (fun r σ1 hp => ?_)
    obtain ⟨rfl, hp⟩ := hp
    rcases hp with ⟨q95, rfl⟩ | ⟨q95, rfl⟩
    · refine j_zast (pc := 98) dX3_spreadFrom_98 (by first | rfl | with_reducible assumption) hvn (Or.inr rfl) ?_
      rw [hcn]
      refine j_aload_n (pc := 99) dX3_spreadFrom_99 rfl ?_
      refine j_getR (pc := 100) dX3_spreadFrom_100 f_X3_15 (by first | rfl | with_reducible assumption) (by rfl) ?_
      refine j_iload_n (pc := 103) dX3_spreadFrom_103 rfl ?_
      refine j_aload_n (pc := 104) dX3_spreadFrom_104 rfl ?_
      refine j_getI (pc := 105) dX3_spreadFrom_105 f_X3_47 (by first | rfl | with_reducible assumption) (by rfl) ?_
      refine j_top (y := A1F σ set) (by rw [m_ne (by omega)]; exact hA1) ?_
      refine j_iload (pc := 108) dX3_spreadFrom_108 rfl ?_
      refine j_iconst (pc := 110) dX3_spreadFrom_110 (v := (-1)) (by decide) ?_
      refine j_ixor (pc := 111) dX3_spreadFrom_111 ?_
      refine j_iand (pc := 112) dX3_spreadFrom_112 ?_
      refine j_iload (pc := 113) dX3_spreadFrom_113 rfl ?_
      refine j_iconst (pc := 115) dX3_spreadFrom_115 (v := (-1)) (by decide) ?_
      refine j_ixor (pc := 116) dX3_spreadFrom_116 ?_
      refine j_iand (pc := 117) dX3_spreadFrom_117 ?_
      refine j_iast (pc := 118) dX3_spreadFrom_118 (by first | rfl | with_reducible assumption) hvn ?_
      rw [hcn]
      refine j_aload_n (pc := 119) dX3_spreadFrom_119 rfl ?_
      refine j_getR (pc := 120) dX3_spreadFrom_120 f_X3_18 (by first | rfl | with_reducible assumption) (by rfl) ?_
      refine j_iload_n (pc := 123) dX3_spreadFrom_123 rfl ?_
      refine j_aload_n (pc := 124) dX3_spreadFrom_124 rfl ?_
      refine j_getI (pc := 125) dX3_spreadFrom_125 f_X3_50 (by first | rfl | with_reducible assumption) (by rfl) ?_
      refine j_top (y := A2F σ set) (by rw [m_ne (by omega), m_ne (by omega)]; exact hA2) ?_
      refine j_iload (pc := 128) dX3_spreadFrom_128 rfl ?_
      refine j_iconst (pc := 130) dX3_spreadFrom_130 (v := (-1)) (by decide) ?_
      refine j_ixor (pc := 131) dX3_spreadFrom_131 ?_
      refine j_iand (pc := 132) dX3_spreadFrom_132 ?_
      refine j_iload (pc := 133) dX3_spreadFrom_133 rfl ?_
      refine j_iand (pc := 135) dX3_spreadFrom_135 ?_
      refine j_iast (pc := 136) dX3_spreadFrom_136 (by first | rfl | with_reducible assumption) hvn ?_
      rw [hcn]
      refine j_iconst (pc := 137) dX3_spreadFrom_137 (v := 0) (by decide) ?_
      refine j_istore (pc := 138) dX3_spreadFrom_138 (by decide) ?_
      have hB := h0.row hc (fun e he => lead_bits hM hoc he) (fun e he => clash_bits hM hoc he)
      first | rw [if_pos q95] at hB | rw [if_neg q95] at hB
      exact loop 8 0 rfl _ _ _ _ (((FrN.rf.up (by omega)).up (by omega)).up (by omega)) (by simp only [m_ne (show b ≠ b + 2 by omega), m_ne (show b ≠ b + 3 by omega), m_ne (show b ≠ b + 4 by omega)]) (by simp only [m_ne (show b ≠ b + 2 by omega), m_ne (show b ≠ b + 3 by omega), m_ne (show b ≠ b + 4 by omega)]) hB
    · refine j_zast (pc := 98) dX3_spreadFrom_98 (by first | rfl | with_reducible assumption) hvn (Or.inl rfl) ?_
      rw [hcn]
      refine j_aload_n (pc := 99) dX3_spreadFrom_99 rfl ?_
      refine j_getR (pc := 100) dX3_spreadFrom_100 f_X3_15 (by first | rfl | with_reducible assumption) (by rfl) ?_
      refine j_iload_n (pc := 103) dX3_spreadFrom_103 rfl ?_
      refine j_aload_n (pc := 104) dX3_spreadFrom_104 rfl ?_
      refine j_getI (pc := 105) dX3_spreadFrom_105 f_X3_47 (by first | rfl | with_reducible assumption) (by rfl) ?_
      refine j_top (y := A1F σ set) (by rw [m_ne (by omega)]; exact hA1) ?_
      refine j_iload (pc := 108) dX3_spreadFrom_108 rfl ?_
      refine j_iconst (pc := 110) dX3_spreadFrom_110 (v := (-1)) (by decide) ?_
      refine j_ixor (pc := 111) dX3_spreadFrom_111 ?_
      refine j_iand (pc := 112) dX3_spreadFrom_112 ?_
      refine j_iload (pc := 113) dX3_spreadFrom_113 rfl ?_
      refine j_iconst (pc := 115) dX3_spreadFrom_115 (v := (-1)) (by decide) ?_
      refine j_ixor (pc := 116) dX3_spreadFrom_116 ?_
      refine j_iand (pc := 117) dX3_spreadFrom_117 ?_
      refine j_iast (pc := 118) dX3_spreadFrom_118 (by first | rfl | with_reducible assumption) hvn ?_
      rw [hcn]
      refine j_aload_n (pc := 119) dX3_spreadFrom_119 rfl ?_
      refine j_getR (pc := 120) dX3_spreadFrom_120 f_X3_18 (by first | rfl | with_reducible assumption) (by rfl) ?_
      refine j_iload_n (pc := 123) dX3_spreadFrom_123 rfl ?_
      refine j_aload_n (pc := 124) dX3_spreadFrom_124 rfl ?_
      refine j_getI (pc := 125) dX3_spreadFrom_125 f_X3_50 (by first | rfl | with_reducible assumption) (by rfl) ?_
      refine j_top (y := A2F σ set) (by rw [m_ne (by omega), m_ne (by omega)]; exact hA2) ?_
      refine j_iload (pc := 128) dX3_spreadFrom_128 rfl ?_
      refine j_iconst (pc := 130) dX3_spreadFrom_130 (v := (-1)) (by decide) ?_
      refine j_ixor (pc := 131) dX3_spreadFrom_131 ?_
      refine j_iand (pc := 132) dX3_spreadFrom_132 ?_
      refine j_iload (pc := 133) dX3_spreadFrom_133 rfl ?_
      refine j_iand (pc := 135) dX3_spreadFrom_135 ?_
      refine j_iast (pc := 136) dX3_spreadFrom_136 (by first | rfl | with_reducible assumption) hvn ?_
      rw [hcn]
      refine j_iconst (pc := 137) dX3_spreadFrom_137 (v := 0) (by decide) ?_
      refine j_istore (pc := 138) dX3_spreadFrom_138 (by decide) ?_
      have hB := h0.row hc (fun e he => lead_bits hM hoc he) (fun e he => clash_bits hM hoc he)
      first | rw [if_pos q95] at hB | rw [if_neg q95] at hB
      exact loop 8 0 rfl _ _ _ _ (((FrN.rf.up (by omega)).up (by omega)).up (by omega)) (by simp only [m_ne (show b ≠ b + 2 by omega), m_ne (show b ≠ b + 3 by omega), m_ne (show b ≠ b + 4 by omega)]) (by simp only [m_ne (show b ≠ b + 2 by omega), m_ne (show b ≠ b + 3 by omega), m_ne (show b ≠ b + 4 by omega)]) hB
  have first : ∀ (k m : Nat), m + k = 6 → ∀ (w4 w5 : Int32) (y : Option Vl), w4 = mpF σ set c m → w5 = mrF σ set c m → AJ Γ1 3 RX3 cX3_spreadFrom 8 none (spP σ b (T1 σ) set n) 9 [some (.inr b), some (.inl (nI n)), some (.inr 4), some (.inl set), some (.inl w4), some (.inl w5), some (.inl (nI m)), y] [] σ := by
    intro k
    induction k with
    | zero =>
      intro m hm w4 w5 y hw4 hw5
      obtain rfl : m = 6 := by omega
      refine j_iload (pc := 9) dX3_spreadFrom_9 rfl ?_
      refine j_aload_n (pc := 11) dX3_spreadFrom_11 rfl ?_
      refine j_alen (pc := 12) dX3_spreadFrom_12 (by first | rfl | with_reducible assumption) (v := _) (by rfl) ?_
      refine j_icmp_ge (pc := 13) (tgt := 81) dX3_spreadFrom_13 rfl (fun h13 => ?_) (fun h13 => absurd (by decide) h13)
      exact fin _ _ _ _ hw4 hw5
    | succ k ih =>
      intro m hm w4 w5 y hw4 hw5
      have hm6 : m < 6 := by omega
      obtain ⟨⟨gM0, gM1, gM2⟩, gL⟩ := isM_at hm6
      have hcl : (nI m).toNatClampNeg = m := nI_clamp (by omega)
      refine j_iload (pc := 9) dX3_spreadFrom_9 rfl ?_
      refine j_aload_n (pc := 11) dX3_spreadFrom_11 rfl ?_
      refine j_alen (pc := 12) dX3_spreadFrom_12 (by first | rfl | with_reducible assumption) (v := _) (by rfl) ?_
      refine j_icmp_ge (pc := 13) (tgt := 81) dX3_spreadFrom_13 rfl (fun h13 => absurd h13 (nI_ge (b := 6) (by omega) (by decide))) (fun h13 => ?_)
      refine j_iload_n (pc := 16) dX3_spreadFrom_16 rfl ?_
      refine j_iload (pc := 17) dX3_spreadFrom_17 rfl ?_
      refine j_ishr (pc := 19) dX3_spreadFrom_19 ?_
      refine j_if_eq (pc := 20) (tgt := 81) dX3_spreadFrom_20 rfl (fun h20 => ?_) (fun h20 => ?_)
      · have hst := set_stop (by omega) h20
        refine fin _ _ _ _ ?_ ?_
        · rw [hw4]; exact (or_stop _ _ (show m ≤ 6 by omega) (fun k a b => by simp [hst k a (by omega)])).symm
        · rw [hw5]; exact (or_stop _ _ (show m ≤ 6 by omega) (fun k a b => by simp [hst k a (by omega)])).symm
      · refine j_iload_n (pc := 23) dX3_spreadFrom_23 rfl ?_
        refine j_iload (pc := 24) dX3_spreadFrom_24 rfl ?_
        refine j_callSNi (pc := 26) dX3_spreadFrom_26 k_X3_78 (c_X7_isIn set (j := m) (by omega) _) rfl (by decide) rfl (Nat.le_of_ble_eq_true rfl) (fun r σ1 hp => ?_)
        obtain ⟨rfl, hp⟩ := hp
        rcases hp with ⟨q26, rfl⟩ | ⟨q26, rfl⟩
        · refine j_if_eq (pc := 29) (tgt := 75) dX3_spreadFrom_29 rfl (fun h => absurd h (by decide)) (fun _ => ?_)
          refine j_aload_n (pc := 32) dX3_spreadFrom_32 rfl ?_
          refine j_iload (pc := 33) dX3_spreadFrom_33 rfl ?_
          refine j_aald (pc := 35) dX3_spreadFrom_35 (by first | rfl | with_reducible assumption) (vp_in_nI hm6 (by decide)) (by rw [hcl]; exact gL) ?_
          refine j_aload_n (pc := 36) dX3_spreadFrom_36 rfl ?_
          refine j_iload_n (pc := 37) dX3_spreadFrom_37 rfl ?_
          refine j_iload (pc := 38) dX3_spreadFrom_38 rfl ?_
          refine j_callVi (pc := 40) dX3_spreadFrom_40 k_X3_88 (c_X3_stateIn hb hJ hJ2 hn) (by first | rfl | with_reducible assumption) rfl rfl (by decide) rfl (Nat.le_of_ble_eq_true rfl) (fun r σ1 hp => ?_)
          obtain ⟨rfl, rfl⟩ := hp
          refine j_top (y := nI (stN c m)) (by rw [hcc]; exact (st_n c m).1) ?_
          refine j_callVNi (pc := 43) dX3_spreadFrom_43 k_X3_92 (c_X2_missingSet ⟨gM0, gM1, gM2⟩ (hoc m hm6) _) (by first | rfl | with_reducible assumption) rfl rfl (by decide) rfl (Nat.le_of_ble_eq_true rfl) (fun r σ1 hp => ?_)
          obtain ⟨rfl, rfl⟩ := hp
          refine j_istore (pc := 46) dX3_spreadFrom_46 (by decide) ?_
          refine j_aload_n (pc := 48) dX3_spreadFrom_48 rfl ?_
          refine j_iload (pc := 49) dX3_spreadFrom_49 rfl ?_
          refine j_aald (pc := 51) dX3_spreadFrom_51 (by first | rfl | with_reducible assumption) (vp_in_nI hm6 (by decide)) (by rw [hcl]; exact gL) ?_
          refine j_getI (pc := 52) dX3_spreadFrom_52 f_X3_85 (by first | rfl | with_reducible assumption) (by rfl) ?_
          refine j_if_ne (pc := 55) (tgt := 68) dX3_spreadFrom_55 rfl (fun h55 => ?_) (fun h55 => ?_)
          · have hpl : isPl (T1 σ) m = false := decide_eq_false (by rw [t1k hm6]; exact h55)
            refine j_iload (pc := 68) dX3_spreadFrom_68 rfl ?_
            refine j_iload (pc := 70) dX3_spreadFrom_70 rfl ?_
            refine j_ior (pc := 72) dX3_spreadFrom_72 ?_
            refine j_istore (pc := 73) dX3_spreadFrom_73 (by decide) ?_
            refine j_iinc1 (pc := 75) dX3_spreadFrom_75 rfl ?_
            refine j_goto (pc := 78) (tgt := 9) dX3_spreadFrom_78 rfl ?_
            rw [nI_1]
            refine ih (m + 1) (by omega) _ _ _ ?_ ?_
            · first | (simp [mpF, orF, q26, hpl, hw4, msF]; done) | (simp [mpF, orF, q26, hw4]; done)
            · first | (simp [mrF, orF, q26, hpl, hw5, msF]; done) | (simp [mrF, orF, q26, hw5]; done)
          · have hpl : isPl (T1 σ) m = true := decide_eq_true (by rw [t1k hm6]; exact h55)
            refine j_iload (pc := 58) dX3_spreadFrom_58 rfl ?_
            refine j_iload (pc := 60) dX3_spreadFrom_60 rfl ?_
            refine j_ior (pc := 62) dX3_spreadFrom_62 ?_
            refine j_istore (pc := 63) dX3_spreadFrom_63 (by decide) ?_
            refine j_goto (pc := 65) (tgt := 75) dX3_spreadFrom_65 rfl ?_
            refine j_iinc1 (pc := 75) dX3_spreadFrom_75 rfl ?_
            refine j_goto (pc := 78) (tgt := 9) dX3_spreadFrom_78 rfl ?_
            rw [nI_1]
            refine ih (m + 1) (by omega) _ _ _ ?_ ?_
            · first | (simp [mpF, orF, q26, hpl, hw4, msF]; done) | (simp [mpF, orF, q26, hw4]; done)
            · first | (simp [mrF, orF, q26, hpl, hw5, msF]; done) | (simp [mrF, orF, q26, hw5]; done)
        · refine j_if_eq (pc := 29) (tgt := 75) dX3_spreadFrom_29 rfl (fun _ => ?_) (fun h => absurd h (by decide))
          refine j_iinc1 (pc := 75) dX3_spreadFrom_75 rfl ?_
          refine j_goto (pc := 78) (tgt := 9) dX3_spreadFrom_78 rfl ?_
          rw [nI_1]
          refine ih (m + 1) (by omega) _ _ _ ?_ ?_
          · first | (simp [mpF, orF, q26, hpl, hw4, msF]; done) | (simp [mpF, orF, q26, hw4]; done)
          · first | (simp [mrF, orF, q26, hpl, hw5, msF]; done) | (simp [mrF, orF, q26, hw5]; done)
  refine EV.intro (by decide +kernel) (Nat.le_of_ble_eq_true rfl) ?_
  refine j_iconst (pc := 0) dX3_spreadFrom_0 (v := 0) (by decide) ?_
  refine j_istore (pc := 1) dX3_spreadFrom_1 (by decide) ?_
  refine j_iconst (pc := 3) dX3_spreadFrom_3 (v := 0) (by decide) ?_
  refine j_istore (pc := 4) dX3_spreadFrom_4 (by decide) ?_
  refine j_iconst (pc := 6) dX3_spreadFrom_6 (v := 0) (by decide) ?_
  refine j_istore (pc := 7) dX3_spreadFrom_7 (by decide) ?_
  exact first 6 0 rfl _ _ none rfl rfl
