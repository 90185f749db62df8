/-! LEASTBARSMODEL: losesStuck, findControlled -/
section Stuck
variable {σ : Mm} {n0 : Nat} {t : Nat → Int32} {N : Nat} {K : Nat → Int32} {M : Nat → MV}
theorem stk_no {J : Nat} {tg : Nat → Int32} {fn : Nat → Bool} {w : Nat → Int32} {n : Nat} : stkB J tg fn w n = true ↔ ¬ ∃ k, Rk J tg fn (fun n => decide (w n = -9)) k n := by
  rw [stkB_iff]
  exact ⟨fun h ⟨k, q⟩ => h k q, fun h k q => h ⟨k, q⟩⟩
/-- losesStuck: the wave k, of those from which nothing can be FINISHED -/
theorem c_X8_losesStuck {W : LT} {k : Nat} (hb : R2b σ n0 t N K M) (hG : NG2 σ (TA N K M) (allS N)) (hL : LW2 σ (gJ (TA N K M) (allS N)) W) : EV Γ2 3 yX8_losesStuck cX8_losesStuck 4 (some .boolean) [.inr 0, .inl (nI k)] σ (fun r σ' => FrX σ σ' ∧ LW2 σ' (gJ (TA N K M) (allS N)) (stuckT (gJ (TA N K M) (allS N)) (toX (TA N K M) (allS N)) (gF (TA N K M) (allS N)) W k) ∧ ((r = 1 ∧ anyS (gJ (TA N K M) (allS N)) (toX (TA N K M) (allS N)) (gF (TA N K M) (allS N)) W) ∨ (r = 0 ∧ ¬ anyS (gJ (TA N K M) (allS N)) (toX (TA N K M) (allS N)) (gF (TA N K M) (allS N)) W))) := by
  have h6 := hb.2.2.2.2.1
  have hJ := hG.1
  generalize hgj : gJ (TA N K M) (allS N) = J at *
  generalize htg : toX (TA N K M) (allS N) = tg at *
  generalize hfn : gF (TA N K M) (allS N) = fn at *
  have hJ2 : σ 0 11 = nI J := by rw [← hgj]; exact hG.2.1
  have loop : ∀ (q n : Nat) (σ' : Mm) (x : Int32), n + q = J → FrX σ σ' → (∀ i, i < J → (σ' 13 i = 0 ∨ σ' 13 i = 1) ∧ (σ' 13 i = 1 ↔ ∃ k, Rk J tg fn (fun n => decide (W.1 n = -9)) k i)) → LX σ' J n W (stuckT J tg fn W k) → ((x = 1 ∧ ∃ i, i < n ∧ W.1 i = -9 ∧ stkB J tg fn W.1 i = true) ∨ (x = 0 ∧ ∀ i, i < n → ¬ (W.1 i = -9 ∧ stkB J tg fn W.1 i = true))) → AJ Γ2 3 RX8 cX8_losesStuck 4 (some .boolean) (fun r σ' => FrX σ σ' ∧ LW2 σ' J (stuckT J tg fn W k) ∧ ((r = 1 ∧ anyS J tg fn W) ∨ (r = 0 ∧ ¬ anyS J tg fn W))) 12 [some (.inr 0), some (.inl (nI k)), some (.inl x), some (.inl (nI n))] [] σ' := by
    intro q
    induction q with
    | zero =>
      intro n σ' x hq hF hE hX hx
      obtain rfl : n = J := by omega
      have hx01 : x = 0 ∨ x = 1 := hx.elim (fun z => Or.inr z.1) (fun z => Or.inl z.1)
      refine j_iload_n (pc := 12) dX8_losesStuck_12 rfl ?_
      refine j_aload_n (pc := 13) dX8_losesStuck_13 rfl ?_
      refine j_getI (pc := 14) dX8_losesStuck_14 f_X8_131 (by first | rfl | with_reducible assumption) (by rfl) ?_
      refine j_top (y := nI n) (by rw [hF 0 (by decide)]; exact hJ2) ?_
      refine j_icmp_ge (pc := 17) (tgt := 57) dX8_losesStuck_17 rfl (fun h17 => ?_) (fun h17 => absurd (Int32.le_refl _) h17)
      refine j_iload_n (pc := 57) dX8_losesStuck_57 rfl ?_
      refine j_zret (pc := 58) dX8_losesStuck_58 hx01 ?_
      refine ⟨hF, hX.done, ?_⟩
      rcases hx with ⟨a, i, b, c⟩ | ⟨a, b⟩
      · exact Or.inl ⟨a, i, b, c⟩
      · exact Or.inr ⟨a, fun ⟨i, hi, c⟩ => b i hi c⟩
    | succ q ih =>
      intro n σ' x hq hF hE hX hx
      have hnJ : n < J := by omega
      have hcn : (nI n).toNatClampNeg = n := nI_clamp (by omega)
      have hvn : vp_in (nI n) 150 := vp_in_nI (by omega) (by decide)
      have hWn := (hX n hnJ).2 (Nat.le_refl _)
      have same : ¬ (W.1 n = -9 ∧ stkB J tg fn W.1 n = true) → AJ Γ2 3 RX8 cX8_losesStuck 4 (some .boolean) (fun r σ' => FrX σ σ' ∧ LW2 σ' J (stuckT J tg fn W k) ∧ ((r = 1 ∧ anyS J tg fn W) ∨ (r = 0 ∧ ¬ anyS J tg fn W))) 12 [some (.inr 0), some (.inl (nI k)), some (.inl x), some (.inl (nI (n + 1)))] [] σ' := fun hc => by
        refine ih (n + 1) σ' x (by omega) hF hE (hX.keep hnJ (if_neg hc) (fun _ => ⟨if_neg hc, if_neg hc⟩)) ?_
        rcases hx with ⟨a, i, b, c⟩ | ⟨a, b⟩
        · exact Or.inl ⟨a, i, by omega, c⟩
        · refine Or.inr ⟨a, fun i hi => ?_⟩
          by_cases y : i = n
          · subst y; exact hc
          · exact b i (by omega)
      by_cases hc : W.1 n = -9 ∧ stkB J tg fn W.1 n = true
      · refine j_iload_n (pc := 12) dX8_losesStuck_12 rfl ?_
        refine j_aload_n (pc := 13) dX8_losesStuck_13 rfl ?_
        refine j_getI (pc := 14) dX8_losesStuck_14 f_X8_131 (by first | rfl | with_reducible assumption) (by rfl) ?_
        refine j_top (y := nI J) (by rw [hF 0 (by decide)]; exact hJ2) ?_
        refine j_icmp_ge (pc := 17) (tgt := 57) dX8_losesStuck_17 rfl (fun h17 => absurd h17 (nI_ge (by omega) (by omega))) (fun h17 => ?_)
        refine j_aload_n (pc := 20) dX8_losesStuck_20 rfl ?_
        refine j_getR (pc := 21) dX8_losesStuck_21 f_X8_37 (by first | rfl | with_reducible assumption) (by rfl) ?_
        refine j_iload_n (pc := 24) dX8_losesStuck_24 rfl ?_
        refine j_iald (pc := 25) dX8_losesStuck_25 (by first | rfl | with_reducible assumption) hvn ?_
        refine j_top (y := -9) (by rw [hcn, hWn.1]; exact hc.1) ?_
        refine j_bipush (pc := 26) dX8_losesStuck_26 (v := (-9)) (by decide) ?_
        refine j_icmp_ne (pc := 28) (tgt := 51) dX8_losesStuck_28 rfl (fun h28 => absurd rfl h28) (fun h28 => ?_)
        refine j_aload_n (pc := 31) dX8_losesStuck_31 rfl ?_
        refine j_getR (pc := 32) dX8_losesStuck_32 f_X8_46 (by first | rfl | with_reducible assumption) (by rfl) ?_
        refine j_iload_n (pc := 35) dX8_losesStuck_35 rfl ?_
        refine j_zald (pc := 36) dX8_losesStuck_36 (by first | rfl | with_reducible assumption) hvn ?_
        rw [hcn]
        refine j_if_ne (pc := 37) (tgt := 51) dX8_losesStuck_37 rfl (fun h37 => absurd ((hE n hnJ).2.mp ((hE n hnJ).1.resolve_left h37)) (stk_no.mp hc.2)) (fun h37 => ?_)
        refine j_aload_n (pc := 40) dX8_losesStuck_40 rfl ?_
        refine j_iload_n (pc := 41) dX8_losesStuck_41 rfl ?_
        refine j_iload_n (pc := 42) dX8_losesStuck_42 rfl ?_
        refine j_iconst (pc := 43) dX8_losesStuck_43 (v := 3) (by decide) ?_
        refine j_bipush (pc := 44) dX8_losesStuck_44 (v := (-9)) (by decide) ?_
        refine j_callVv (pc := 46) dX8_losesStuck_46 k_X8_145 (c_X8_loses (by omega) _ _ _ _) (by first | rfl | with_reducible assumption) rfl rfl (by decide) rfl (Nat.le_of_ble_eq_true rfl) (fun σ1 hp => ?_)
        obtain rfl := hp
        refine j_iconst (pc := 49) dX8_losesStuck_49 (v := 1) (by decide) ?_
        refine j_istore_n (pc := 50) dX8_losesStuck_50 (by decide) ?_
        refine j_iinc1 (pc := 51) dX8_losesStuck_51 rfl ?_
        refine j_goto (pc := 54) (tgt := 12) dX8_losesStuck_54 rfl ?_
        rw [nI_1]
        refine ih (n + 1) _ 1 (by omega) (((hF.up (by decide)).up (by decide)).up (by decide)) ?_ (hX.lose hnJ (if_pos hc) (if_pos hc) (if_pos hc)) (Or.inl ⟨rfl, n, by omega, hc⟩)
        rw [m_ne (by decide), m_ne (by decide), m_ne (by decide)]
        exact hE
      · refine j_iload_n (pc := 12) dX8_losesStuck_12 rfl ?_
        refine j_aload_n (pc := 13) dX8_losesStuck_13 rfl ?_
        refine j_getI (pc := 14) dX8_losesStuck_14 f_X8_131 (by first | rfl | with_reducible assumption) (by rfl) ?_
        refine j_top (y := nI J) (by rw [hF 0 (by decide)]; exact hJ2) ?_
        refine j_icmp_ge (pc := 17) (tgt := 57) dX8_losesStuck_17 rfl (fun h17 => absurd h17 (nI_ge (by omega) (by omega))) (fun h17 => ?_)
        refine j_aload_n (pc := 20) dX8_losesStuck_20 rfl ?_
        refine j_getR (pc := 21) dX8_losesStuck_21 f_X8_37 (by first | rfl | with_reducible assumption) (by rfl) ?_
        refine j_iload_n (pc := 24) dX8_losesStuck_24 rfl ?_
        refine j_iald (pc := 25) dX8_losesStuck_25 (by first | rfl | with_reducible assumption) hvn ?_
        refine j_top (y := W.1 n) (by rw [hcn, hWn.1]) ?_
        refine j_bipush (pc := 26) dX8_losesStuck_26 (v := (-9)) (by decide) ?_
        refine j_icmp_ne (pc := 28) (tgt := 51) dX8_losesStuck_28 rfl (fun h28 => ?_) (fun h28 => ?_)
        · refine j_iinc1 (pc := 51) dX8_losesStuck_51 rfl ?_
          refine j_goto (pc := 54) (tgt := 12) dX8_losesStuck_54 rfl ?_
          rw [nI_1]
          exact same hc
        · refine j_aload_n (pc := 31) dX8_losesStuck_31 rfl ?_
          refine j_getR (pc := 32) dX8_losesStuck_32 f_X8_46 (by first | rfl | with_reducible assumption) (by rfl) ?_
          refine j_iload_n (pc := 35) dX8_losesStuck_35 rfl ?_
          refine j_zald (pc := 36) dX8_losesStuck_36 (by first | rfl | with_reducible assumption) hvn ?_
          rw [hcn]
          refine j_if_ne (pc := 37) (tgt := 51) dX8_losesStuck_37 rfl (fun h37 => ?_) (fun h37 => absurd ⟨h28, stk_no.mpr (fun z => absurd (((hE n hnJ).2.mpr z).symm.trans h37) (by decide))⟩ hc)
          refine j_iinc1 (pc := 51) dX8_losesStuck_51 rfl ?_
          refine j_goto (pc := 54) (tgt := 12) dX8_losesStuck_54 rfl ?_
          rw [nI_1]
          exact same hc
  refine EV.intro (by decide +kernel) (Nat.le_of_ble_eq_true rfl) ?_
  refine j_aload_n (pc := 0) dX8_losesStuck_0 rfl ?_
  refine j_aload_n (pc := 1) dX8_losesStuck_1 rfl ?_
  refine j_callVi (pc := 2) dX8_losesStuck_2 k_X8_155 (c_X8_all hb.2.2.2.1 h6) (by first | rfl | with_reducible assumption) rfl rfl (by decide) rfl (Nat.le_of_ble_eq_true rfl) (fun r σ1 hp => ?_)
  obtain ⟨rfl, rfl⟩ := hp
  refine j_callVv (pc := 5) dX8_losesStuck_5 k_X8_158 (c_X8_findEnds (W := W.1) hb (all_lt h6) hG (by rw [hgj]; exact fun m hm => (hL m hm).1)) (by first | rfl | with_reducible assumption) rfl rfl (by decide) rfl (Nat.le_of_ble_eq_true rfl) (fun σ1 hp => ?_)
  obtain ⟨g1, g2⟩ := hp
  rw [hgj, htg, hfn] at g2
  refine j_iconst (pc := 8) dX8_losesStuck_8 (v := 0) (by decide) ?_
  refine j_istore_n (pc := 9) dX8_losesStuck_9 (by decide) ?_
  refine j_iconst (pc := 10) dX8_losesStuck_10 (v := 0) (by decide) ?_
  refine j_istore_n (pc := 11) dX8_losesStuck_11 (by decide) ?_
  refine loop J 0 σ1 0 (by omega) (g1.x (by decide)) g2 (LX.start ?_) (Or.inr ⟨rfl, fun i hi => absurd hi (Nat.not_lt_zero _)⟩)
  unfold LW2 at hL ⊢
  rw [g1 10 (by decide), g1 11 (by decide), g1 12 (by decide)]
  exact hL
end Stuck
