/-! NET.join -/
def NB (σ : Mm) (b : Nat) (T : Tab) (set : Int32) : Prop := ∃ J, J ≤ 150 ∧ csx T set 1200 = csx T set (8 * J) ∧ (csx T set (8 * J)).length = J ∧ BI σ b T set (8 * J) J
def joinP (σ : Mm) (b : Nat) (T : Tab) (set : Int32) : Int32 → Mm → Prop := fun _ σ' => FrN b σ σ' ∧ ((Over T set ∧ σ' b 13 = 0 ∧ σ' b 14 = 1) ∨ (¬ Over T set ∧ NB σ' b T set))
theorem BI.start {σ : Mm} {b : Nat} {T : Tab} {set : Int32} (h1 : σ b 14 = 0) (h2 : σ b 13 = nI 1) (h3 : σ (b + 1) 0 = 0) (h4 : HT (σ (b + 1)) (σ (b + 8)) 1) (h5 : σ (b + 6) 0 = -9) : BI σ b T set (8 * 0) 0 := by
  refine ⟨h1, h2, (show 1 ≤ 150 by decide), fun j c hj => ?_, h4, fun y hy => absurd hy (Nat.not_lt_zero _), fun j hj => ?_, fun n c hn => absurd hn (Nat.not_lt_zero _)⟩
  · have : j = 0 ∧ c = 0 := by
      match j, hj with
      | 0, hj => exact ⟨rfl, by simpa [csx] using hj.symm⟩
      | j + 1, hj => simp [csx] at hj
    rw [this.1, this.2]
    exact h3
  · have : j = 0 := by simp [csx] at hj; exact hj
    subst this
    exact h5
theorem c_X3_join {b : Nat} (hb : IsN b) (hb2 : 22 < b) {set : Int32} {σ : Mm} (hM : MS σ set) : EV Γ1 4 yX3_join cX3_join 4 none [.inr b, .inr 4, .inl set] σ (joinP σ b (T1 σ) set) := by
  have g0 := hb.1
  have g8 := hb.2.2.2.2.2.2.2.2.1
  have outO : ∀ (σ' : Mm) (y : Option Vl), FrN b σ σ' → OV σ' b (T1 σ) set → AJ Γ1 4 RX3 cX3_join 4 none (joinP σ b (T1 σ) set) 68 [some (.inr b), some (.inr 4), some (.inl set), y] [] σ' := by
    intro σ' y hF hO
    refine j_aload_n (pc := 68) dX3_join_68 rfl ?_
    refine j_getI (pc := 69) dX3_join_69 f_X3_56 (by first | rfl | with_reducible assumption) (by rfl) ?_
    refine j_if_eq (pc := 72) (tgt := 80) dX3_join_72 rfl (fun h72 => absurd (hO.2.1.symm.trans h72) (by decide)) (fun h72 => ?_)
    refine j_aload_n (pc := 75) dX3_join_75 rfl ?_
    refine j_iconst (pc := 76) dX3_join_76 (v := 0) (by decide) ?_
    refine j_put (pc := 77) dX3_join_77 f_X3_53 (by first | rfl | with_reducible assumption) (by rfl) ?_
    refine j_vret (pc := 80) dX3_join_80 ?_
    exact ⟨hF.up (by omega), Or.inl ⟨hO.1, m_eq _ _ _ _, by rw [m_nk (by decide)]; exact hO.2.1⟩⟩
  have outK : ∀ (σ' : Mm) (y : Option Vl) (n : Nat), FrN b σ σ' → BI σ' b (T1 σ) set (8 * n) n → n = (csx (T1 σ) set (8 * n)).length → AJ Γ1 4 RX3 cX3_join 4 none (joinP σ b (T1 σ) set) 68 [some (.inr b), some (.inr 4), some (.inl set), y] [] σ' := by
    intro σ' y n hF hB hn
    have hle := hB.2.2.1
    have hst := csx_stop (T1 σ) set (x := 8 * n) (by omega) 1200 (by omega)
    refine j_aload_n (pc := 68) dX3_join_68 rfl ?_
    refine j_getI (pc := 69) dX3_join_69 f_X3_56 (by first | rfl | with_reducible assumption) (by rfl) ?_
    refine j_if_eq (pc := 72) (tgt := 80) dX3_join_72 rfl (fun h72 => ?_) (fun h72 => absurd hB.1 h72)
    refine j_vret (pc := 80) dX3_join_80 ?_
    refine ⟨hF, Or.inr ⟨?_, n, by omega, hst, hn.symm, hB⟩⟩
    unfold Over
    rw [hst]
    omega
  have loop : ∀ (k n : Nat) (σ' : Mm), n + k = 150 → FrN b σ σ' → σ' b 11 = A1F σ set → σ' b 12 = A2F σ set → BI σ' b (T1 σ) set (8 * n) n → n ≤ (csx (T1 σ) set (8 * n)).length → AJ Γ1 4 RX3 cX3_join 4 none (joinP σ b (T1 σ) set) 33 [some (.inr b), some (.inr 4), some (.inl set), some (.inl (nI n))] [] σ' := by
    intro k
    induction k with
    | zero =>
      intro n σ' hk hF k1 k2 hB hn
      obtain rfl : n = 150 := by omega
      have hle := hB.2.2.1
      refine j_iload_n (pc := 33) dX3_join_33 rfl ?_
      refine j_aload_n (pc := 34) dX3_join_34 rfl ?_
      refine j_getI (pc := 35) dX3_join_35 f_X3_53 (by first | rfl | with_reducible assumption) (by rfl) ?_
      refine j_top hB.2.1 ?_
      refine j_icmp_ge (pc := 38) (tgt := 68) dX3_join_38 rfl (fun h38 => ?_) (fun h38 => absurd (nI_le (by omega) (by omega)) h38)
      exact outK _ _ 150 hF hB (by omega)
    | succ k ih =>
      intro n σ' hk hF k1 k2 hB hn
      have hle := hB.2.2.1
      have ht := hF.T1 hb2
      refine j_iload_n (pc := 33) dX3_join_33 rfl ?_
      refine j_aload_n (pc := 34) dX3_join_34 rfl ?_
      refine j_getI (pc := 35) dX3_join_35 f_X3_53 (by first | rfl | with_reducible assumption) (by rfl) ?_
      refine j_top hB.2.1 ?_
      refine j_icmp_ge (pc := 38) (tgt := 68) dX3_join_38 rfl (fun h38 => ?_) (fun h38 => ?_)
      · have hnJ := (nI_leI (by omega) (by omega)).mp h38
        exact outK _ _ n hF hB (by omega)
      · have hnJ : n < (csx (T1 σ) set (8 * n)).length := by
          have : ¬ (csx (T1 σ) set (8 * n)).length ≤ n := fun q => h38 ((nI_leI (by omega) (by omega)).mpr q)
          omega
        refine j_iload_n (pc := 41) dX3_join_41 rfl ?_
        refine j_sipush (pc := 42) dX3_join_42 (v := 150) (by decide) ?_
        refine j_icmp_ge (pc := 45) (tgt := 68) dX3_join_45 rfl (fun h45 => absurd h45 (nI_ge (b := 150) (by omega) (by decide))) (fun h45 => ?_)
        refine j_aload_n (pc := 48) dX3_join_48 rfl ?_
        refine j_getI (pc := 49) dX3_join_49 f_X3_56 (by first | rfl | with_reducible assumption) (by rfl) ?_
        refine j_if_ne (pc := 52) (tgt := 68) dX3_join_52 rfl (fun h52 => absurd hB.1 h52) (fun h52 => ?_)
        refine j_aload_n (pc := 55) dX3_join_55 rfl ?_
        refine j_iload_n (pc := 56) dX3_join_56 rfl ?_
        refine j_aload_n (pc := 57) dX3_join_57 rfl ?_
        refine j_iload_n (pc := 58) dX3_join_58 rfl ?_
        refine j_callVv (pc := 59) dX3_join_59 k_X3_74 (c_X3_spreadFrom hb hb2 (hF.MS hb2 hM) (n := n) (by rw [ht]; exact hB) (by rw [ht]; exact hnJ) (by rw [k1]; unfold A1F; rw [ht]) (by rw [k2]; unfold A2F; rw [ht])) (by first | rfl | with_reducible assumption) rfl rfl (by decide) rfl (Nat.le_of_ble_eq_true rfl) (fun σ1 hp => ?_)
        rw [ht] at hp
        obtain ⟨hF2, l1, l2, hp⟩ := hp
        have hlen := csx_len (T1 σ) set (show 8 * n ≤ 8 * (n + 1) by omega)
        refine j_iinc1 (pc := 62) dX3_join_62 rfl ?_
        refine j_goto (pc := 65) (tgt := 33) dX3_join_65 rfl ?_
        rw [nI_1]
        rcases hp with hp | hp
        · exact ih (n + 1) _ (by omega) (hF.tr hF2) (l1.trans k1) (l2.trans k2) hp (by omega)
        · have hO : AJ Γ1 4 RX3 cX3_join 4 none (joinP σ b (T1 σ) set) 33 [some (.inr b), some (.inr 4), some (.inl set), some (.inl (nI (n + 1)))] [] σ1 := by
            refine j_iload_n (pc := 33) dX3_join_33 rfl ?_
            refine j_aload_n (pc := 34) dX3_join_34 rfl ?_
            refine j_getI (pc := 35) dX3_join_35 f_X3_53 (by first | rfl | assumption) (by rfl) ?_
            refine j_icmp_ge (pc := 38) (tgt := 68) dX3_join_38 rfl (fun h38 => outO _ _ (hF.tr hF2) hp) (fun h38 => ?_)
            refine j_iload_n (pc := 41) dX3_join_41 rfl ?_
            refine j_sipush (pc := 42) dX3_join_42 (v := 150) (by decide) ?_
            refine j_icmp_ge (pc := 45) (tgt := 68) dX3_join_45 rfl (fun h45 => outO _ _ (hF.tr hF2) hp) (fun h45 => ?_)
            refine j_aload_n (pc := 48) dX3_join_48 rfl ?_
            refine j_getI (pc := 49) dX3_join_49 f_X3_56 (by first | rfl | assumption) (by rfl) ?_
            exact j_if_ne (pc := 52) (tgt := 68) dX3_join_52 rfl (fun h52 => outO _ _ (hF.tr hF2) hp) (fun h52 => absurd (hp.2.1.symm.trans h52) (by decide))
          exact hO
  refine EV.intro (by decide +kernel) (Nat.le_of_ble_eq_true rfl) ?_
  refine j_aload_n (pc := 0) dX3_join_0 rfl ?_
  refine j_iconst (pc := 1) dX3_join_1 (v := 0) (by decide) ?_
  refine j_put (pc := 2) dX3_join_2 f_X3_53 (by first | rfl | with_reducible assumption) (by rfl) ?_
  refine j_aload_n (pc := 5) dX3_join_5 rfl ?_
  refine j_iconst (pc := 6) dX3_join_6 (v := 0) (by decide) ?_
  refine j_putZ (pc := 7) dX3_join_7 f_X3_56 (by first | rfl | with_reducible assumption) (by rfl) (Or.inl rfl) ?_
  refine j_aload_n (pc := 10) dX3_join_10 rfl ?_
  refine j_getR (pc := 11) dX3_join_11 f_X3_34 (by first | rfl | with_reducible assumption) (by rfl) ?_
  refine j_bipush (pc := 14) dX3_join_14 (v := (-9)) (by decide) ?_
  refine j_callSv (pc := 16) dX3_join_16 k_X3_60 (c_fill g8 (by decide) _ _) rfl (by decide) rfl (Nat.le_of_ble_eq_true rfl) (fun σ1 hp => ?_)
  obtain rfl := hp
  refine j_aload_n (pc := 19) dX3_join_19 rfl ?_
  refine j_aload_n (pc := 20) dX3_join_20 rfl ?_
  refine j_iload_n (pc := 21) dX3_join_21 rfl ?_
  refine j_callVv (pc := 22) dX3_join_22 k_X3_66 (c_X3_gather hb hb2 set hM.1 _) (by first | rfl | with_reducible assumption) rfl rfl (by decide) rfl (Nat.le_of_ble_eq_true rfl) (fun σ1 hp => ?_)
  obtain rfl := hp
  have ht0 : T1 (m_fill (m_up (m_up σ b 13 0) b 14 0) (b + 8) 256 (-9)) = T1 σ := T1_same (fun x hx => by simp [m_fill, m_up, show x ≠ b + 8 by omega, show x ≠ b by omega])
  rw [ht0]
  refine j_aload_n (pc := 25) dX3_join_25 rfl ?_
  refine j_iconst (pc := 26) dX3_join_26 (v := 0) (by decide) ?_
  refine j_callVi (pc := 27) dX3_join_27 k_X3_70 (c_X3_meet hb 0 (J := 0) (by simp [gm, m_fill, m_up, upd]; rfl) (by decide) (HT.empty _ (fun i hi => by simp [gm, m_fill, m_up, hi]))) (by first | rfl | with_reducible assumption) rfl rfl (by decide) rfl (Nat.le_of_ble_eq_true rfl) (fun r σ1 hp => ?_)
  obtain ⟨j, hj, -⟩ | ⟨-, -, -, i, hi, hHT, rfl⟩ | ⟨-, hj, -⟩ := hp
  · exact absurd hj (Nat.not_lt_zero _)
  rotate_left
  · exact absurd hj (by decide)
  refine j_pop (pc := 30) dX3_join_30 ?_
  refine j_iconst (pc := 31) dX3_join_31 (v := 0) (by decide) ?_
  refine j_istore_n (pc := 32) dX3_join_32 (by decide) ?_
  refine loop 150 0 _ rfl ?_ ?_ ?_ (BI.start ?_ ?_ ?_ ?_ ?_) (Nat.zero_le _)
  · intro x hx
    simp [gm, m_fill, m_up, show x ≠ b + 8 by omega, show x ≠ b by omega, show x ≠ b + 1 by omega, show x ≠ b + 6 by omega]
  · simp [gm, m_up, upd, A1F]
  · simp [gm, m_up, upd, A2F]
  · simp [gm, m_fill, m_up, upd]
  · simp [m_up, upd]
  · simp [m_up, upd]
  · have := hHT
    simp only [m_row, m_ne (show b + 1 ≠ b + 8 by omega), m_ne (show b + 1 ≠ b by omega), m_ne (show b + 1 ≠ b + 6 by omega), m_ne (show b + 8 ≠ b by omega), m_ne (show b + 8 ≠ b + 6 by omega), m_ne (show b + 8 ≠ b + 1 by omega)]
    exact this
  · simp [m_up, upd]
