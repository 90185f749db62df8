/-! LOSSES: the waves -/
abbrev loseM (σ : Mm) (n k : Nat) (re ev ca : Int32) : Mm := m_up (m_up (m_up (m_up (m_up (m_up σ 47 n (nI k)) 48 n re) 49 n ev) 50 n ca) 51 k (σ 51 k + 1)) 46 6 (σ 46 6 + 1)
def caT (tg : Nat → Int32) (l : LT) (n : Nat) : Int32 := if l.2.1 n = 2 then tg (8 * n + (l.2.2 n).toNatClampNeg) else -9
theorem LI.cong {σ : Mm} {J : Nat} {w r v c w' r' v' c' : Nat → Int32} (h : LI σ J w r v c) (he : ∀ n, n < J → w n = w' n ∧ (w n ≠ -9 → r n = r' n ∧ v n = v' n ∧ c n = c' n)) : LI σ J w' r' v' c' := by
  obtain ⟨h1, h2, h3, h4⟩ := h
  refine ⟨fun n hn => ?_, h2, ?_, fun i hi => ?_⟩
  · obtain ⟨a, b⟩ := he n hn
    obtain ⟨c1, c2⟩ := h1 n hn
    rw [← a]
    refine ⟨c1, fun q => ?_⟩
    obtain ⟨d1, d2, d3⟩ := c2 q
    obtain ⟨e1, e2, e3⟩ := b q
    exact ⟨d1.trans e1, d2.trans e2, d3.trans e3⟩
  · rw [h3, cnt_same J (fun n hn => by rw [(he n hn).1])]
  · rw [h4 i hi, cntW_same J (fun n hn => (he n hn).1)]
theorem upd_id {f : Nat → Int32} {n : Nat} {v : Int32} (h : v = f n) : upd f n v = f := by
  funext i
  by_cases q : i = n
  · subst q; rw [pk_us, h]
  · rw [pk_un q]
theorem c_X1_loseClashing {σ : Mm} {J : Nat} {tg : Nat → Int32} {fn : Nat → Bool} {cl : Nat → Nat → Bool} (hN : NL σ J tg fn cl) (fs : Int32) (hw : σ 46 5 = nI 0) (h0 : LI σ J (fun _ => -9) (fun _ => 1) (clE cl (fun e => bt fs e)) (fun _ => -9)) :
    EV Γ1 2 yX1_loseClashing cX1_loseClashing 5 none [.inr 46, .inr 23, .inl fs] σ (fun _ σ' => FrL σ σ' ∧ LI σ' J (lt0 cl (fun e => bt fs e)).1 (fun _ => 1) (clE cl (fun e => bt fs e)) (fun _ => -9)) := by
  have hJ := hN.1.1
  have loop : ∀ (k n : Nat) (σ' : Mm) (y : Option Vl), n + k = J → FrL σ σ' → LI σ' J (mixF n (lt0 cl (fun e => bt fs e)).1 (fun _ => -9)) (fun _ => 1) (clE cl (fun e => bt fs e)) (fun _ => -9) →
      AJ Γ1 2 RX1 cX1_loseClashing 5 none (fun _ σ' => FrL σ σ' ∧ LI σ' J (lt0 cl (fun e => bt fs e)).1 (fun _ => 1) (clE cl (fun e => bt fs e)) (fun _ => -9)) 2 [some (.inr 46), some (.inr 23), some (.inl fs), some (.inl (nI n)), y] [] σ' := by
    intro k
    induction k with
    | zero =>
      intro n σ' y hk hF hL
      obtain rfl : n = J := by omega
      refine j_iload_n (pc := 2) dX1_loseClashing_2 rfl ?_
      refine j_aload_n (pc := 3) dX1_loseClashing_3 rfl ?_
      refine j_getI (pc := 4) dX1_loseClashing_4 f_X1_57 (by first | rfl | with_reducible assumption) (by rfl) ?_
      refine j_top (y := nI n) (by rw [hF.1 23 (by decide)]; exact hN.1.2.1) ?_
      refine j_icmp_ge (pc := 7) (tgt := 42) dX1_loseClashing_7 rfl (fun h7 => ?_) (fun h7 => absurd (Int32.le_refl _) h7)
      refine j_vret (pc := 42) dX1_loseClashing_42 ?_
      exact ⟨hF, hL.cong (fun i hi => ⟨by simp [mixF, hi], fun _ => ⟨rfl, rfl, rfl⟩⟩)⟩
    | succ k ih =>
      intro n σ' y hk hF hL
      have hn : n < J := by omega
      have hN' := hN.fr hF
      have hbits : ∀ e, e < 32 → bt (σ' 26 n &&& fs) e = (decide (e < 8) && (cl n e && bt fs e)) := fun e he => by rw [b_and, hN'.2.2.2 n hn e he, Bool.and_assoc]
      have hlst : lstE (fun e => bt (σ' 26 n &&& fs) e) = clE cl (fun e => bt fs e) n := lst_cong (fun e he => by rw [hbits e (by omega)]; simp [he])
      refine j_iload_n (pc := 2) dX1_loseClashing_2 rfl ?_
      refine j_aload_n (pc := 3) dX1_loseClashing_3 rfl ?_
      refine j_getI (pc := 4) dX1_loseClashing_4 f_X1_57 (by first | rfl | with_reducible assumption) (by rfl) ?_
      refine j_top (y := nI J) (by rw [hF.1 23 (by decide)]; exact hN.1.2.1) ?_
      refine j_icmp_ge (pc := 7) (tgt := 42) dX1_loseClashing_7 rfl (fun h7 => absurd h7 (nI_ge hn (by omega))) (fun h7 => ?_)
      refine j_aload_n (pc := 10) dX1_loseClashing_10 rfl ?_
      refine j_iload_n (pc := 11) dX1_loseClashing_11 rfl ?_
      refine j_iload_n (pc := 12) dX1_loseClashing_12 rfl ?_
      refine j_callVNi (pc := 13) dX1_loseClashing_13 k_X1_60 (c_X3_clashSet isN_net _ fs hN'.1.2.1 hJ) (by first | rfl | with_reducible assumption) rfl rfl (by decide) rfl (Nat.le_of_ble_eq_true rfl) (fun r σ1 hp => ?_)
      obtain ⟨rfl, hp⟩ := hp
      have hr : r = σ' 26 n &&& fs := by
        rcases hp with ⟨i, a1, a2, a3⟩ | ⟨a1, -⟩
        · have := (nI_eq (by omega) (by omega)).mp a2
          subst this
          exact a3
        · exact absurd (vp_in_nI hn (by omega)) a1
      subst hr
      refine j_istore (pc := 16) dX1_loseClashing_16 (by decide) ?_
      refine j_iload (pc := 18) dX1_loseClashing_18 rfl ?_
      refine j_if_eq (pc := 20) (tgt := 36) dX1_loseClashing_20 rfl (fun h20 => ?_) (fun h20 => ?_)
      · have he9 : clE cl (fun e => bt fs e) n = -9 := by
          rw [← hlst, h20]
          exact lst_9.mpr (fun e _ => b_0 e)
        refine j_iinc1 (pc := 36) dX1_loseClashing_36 rfl ?_
        refine j_goto (pc := 39) (tgt := 2) dX1_loseClashing_39 rfl ?_
        rw [nI_1]
        first
          | (refine ih (n + 1) _ _ (by omega) (hF.tr hF2) ?_
             have e1 : (lt0 cl (fun e => bt fs e)).1 n = nI 0 := if_neg hne
             have e2 : upd (mixF n (lt0 cl (fun e => bt fs e)).1 (fun _ => -9)) n (nI 0) = mixF (n + 1) (lt0 cl (fun e => bt fs e)).1 (fun _ => -9) := by rw [← e1]; exact mix_S _ _ _
             rw [e2, upd_id (f := fun _ => 1) rfl, upd_id (f := clE cl (fun e => bt fs e)) rfl, upd_id (f := fun _ => -9) rfl] at hL2
             exact hL2)
          | (refine ih (n + 1) _ _ (by omega) hF ?_
             rw [mix_eq (show (lt0 cl (fun e => bt fs e)).1 n = (fun _ => -9) n from if_pos he9)]
             exact hL)
      · have hne : clE cl (fun e => bt fs e) n ≠ -9 := fun q => h20 (by
          have hz := lst_9.mp (hlst.trans q)
          exact bits_0 (fun e he => by
            by_cases h8 : e < 8
            · exact hz e h8
            · rw [hbits e he]; simp [h8]))
        refine j_aload_n (pc := 23) dX1_loseClashing_23 rfl ?_
        refine j_iload_n (pc := 24) dX1_loseClashing_24 rfl ?_
        refine j_iconst (pc := 25) dX1_loseClashing_25 (v := 1) (by decide) ?_
        refine j_iload (pc := 26) dX1_loseClashing_26 rfl ?_
        refine j_callSNi (pc := 28) dX1_loseClashing_28 k_X1_64 (c_X7_leastIn _ _) rfl (by decide) rfl (Nat.le_of_ble_eq_true rfl) (fun r σ1 hp => ?_)
        obtain ⟨rfl, rfl⟩ := hp
        refine j_bipush (pc := 31) dX1_loseClashing_31 (v := (-9)) (by decide) ?_
        rw [hlst]
        refine j_callVv (pc := 33) dX1_loseClashing_33 k_X1_68 (c_X1_lose (by omega) (show 0 < 151 by decide) _ _ _ (hF.2.trans hw)) (by first | rfl | with_reducible assumption) rfl rfl (by decide) rfl (Nat.le_of_ble_eq_true rfl) (fun σ1 hp => ?_)
        obtain rfl := hp
        obtain ⟨hL2, hF2⟩ := hL.lose hJ hn (show 0 < 151 by decide) (mix_at _ _ _) 1 (clE cl (fun e => bt fs e) n) (-9)
        refine j_iinc1 (pc := 36) dX1_loseClashing_36 rfl ?_
        refine j_goto (pc := 39) (tgt := 2) dX1_loseClashing_39 rfl ?_
        rw [nI_1]
        first
          | (refine ih (n + 1) _ _ (by omega) (hF.tr hF2) ?_
             have e1 : (lt0 cl (fun e => bt fs e)).1 n = nI 0 := if_neg hne
             have e2 : upd (mixF n (lt0 cl (fun e => bt fs e)).1 (fun _ => -9)) n (nI 0) = mixF (n + 1) (lt0 cl (fun e => bt fs e)).1 (fun _ => -9) := by rw [← e1]; exact mix_S _ _ _
             rw [e2, upd_id (f := fun _ => 1) rfl, upd_id (f := clE cl (fun e => bt fs e)) rfl, upd_id (f := fun _ => -9) rfl] at hL2
             exact hL2)
          | (refine ih (n + 1) _ _ (by omega) hF ?_
             rw [mix_eq (show (lt0 cl (fun e => bt fs e)).1 n = (fun _ => -9) n from if_pos he9)]
             exact hL)
  refine EV.intro (by decide +kernel) (Nat.le_of_ble_eq_true rfl) ?_
  refine j_iconst (pc := 0) dX1_loseClashing_0 (v := 0) (by decide) ?_
  refine j_istore_n (pc := 1) dX1_loseClashing_1 (by decide) ?_
  refine loop J 0 σ none (by omega) FrL.rf ?_
  rw [mix_0]
  exact h0
theorem c_X1_losePushedBy {σ : Mm} {J n k : Nat} {tg : Nat → Int32} {fn : Nat → Bool} {cl : Nat → Nat → Bool} (hN : NL σ J tg fn cl) (hn : n < J) {fs p : Int32} (hp : ∀ e, e < 32 → bt p e = (decide (e < 8) && (decide (tg (8 * n + e) ≠ -9) && bt fs e))) (hw : σ 46 5 = nI k) (hk : k < 151) {w : Nat → Int32} (hold : ∀ m, m < J → ((σ 47 m ≠ -9 ∧ σ 47 m < nI k) ↔ w m ≠ -9)) :
    EV Γ1 2 yX1_losePushedBy cX1_losePushedBy 5 none [.inr 46, .inr 23, .inl (nI n), .inl p] σ (fun _ σ' => (puE J tg (fun e => bt fs e) w n = -9 ∧ σ = σ') ∨ ∃ e, e < 8 ∧ puE J tg (fun e => bt fs e) w n = nI e ∧ loseM σ n k 2 (nI e) (tg (8 * n + e)) = σ') := by
  have hJ := hN.1.1
  have loop : ∀ (q e : Nat), e + q = 8 → (∀ j, j < e → (bt fs j && isL J w (tg (8 * n + j))) = false) →
      AJ Γ1 2 RX1 cX1_losePushedBy 5 none (fun _ σ' => (puE J tg (fun e => bt fs e) w n = -9 ∧ σ = σ') ∨ ∃ e, e < 8 ∧ puE J tg (fun e => bt fs e) w n = nI e ∧ loseM σ n k 2 (nI e) (tg (8 * n + e)) = σ') 3 [some (.inr 46), some (.inr 23), some (.inl (nI n)), some (.inl p), some (.inl (nI e))] [] σ := by
    intro q
    induction q with
    | zero =>
      intro e he hj
      obtain rfl : e = 8 := by omega
      refine j_iload (pc := 3) dX1_losePushedBy_3 rfl ?_
      refine j_bipush (pc := 5) dX1_losePushedBy_5 (v := 8) (by decide) ?_
      refine j_icmp_ge (pc := 7) (tgt := 55) dX1_losePushedBy_7 rfl (fun h7 => ?_) (fun h7 => absurd (by decide) h7)
      refine j_vret (pc := 55) dX1_losePushedBy_55 ?_
      exact Or.inl ⟨lst_none hj, rfl⟩
    | succ q ih =>
      intro e he hj
      have he8 : e < 8 := by omega
      have htg : tgo J tg (nI n) (nI e) = tg (8 * n + e) := by
        unfold tgo
        rw [if_pos ⟨inR_nI hn (by omega), inR_nI he8 (by decide)⟩, nI_clamp (by omega), nI_clamp (by omega)]
      have htc := hN.1.2.2.2.2 (8 * n + e) (by omega)
      have key : tg (8 * n + e) ≠ -9 → ((vp_in (tg (8 * n + e)) 150 ∧ σ 47 (tg (8 * n + e)).toNatClampNeg ≠ -9 ∧ σ 47 (tg (8 * n + e)).toNatClampNeg < σ 46 5) ↔ isL J w (tg (8 * n + e)) = true) := by
        intro h9
        rcases htc with a | ⟨m, hm, hme⟩
        · exact absurd a h9
        · rw [hme, hw]
          unfold isL
          rw [inR_nI hm (by omega), nI_clamp (by omega), Bool.true_and, decide_eq_true_iff]
          exact ⟨fun z => (hold m hm).mp z.2, fun z => ⟨vp_in_nI (by omega) (by decide), (hold m hm).mpr z⟩⟩
      refine j_iload (pc := 3) dX1_losePushedBy_3 rfl ?_
      refine j_bipush (pc := 5) dX1_losePushedBy_5 (v := 8) (by decide) ?_
      refine j_icmp_ge (pc := 7) (tgt := 55) dX1_losePushedBy_7 rfl (fun h7 => absurd h7 (nI_ge (b := 8) (by omega) (by decide))) (fun h7 => ?_)
      refine j_iload_n (pc := 10) dX1_losePushedBy_10 rfl ?_
      refine j_iload (pc := 11) dX1_losePushedBy_11 rfl ?_
      refine j_callSNi (pc := 13) dX1_losePushedBy_13 k_X1_83 (c_X7_isIn p (j := e) (by omega) _) rfl (by decide) rfl (Nat.le_of_ble_eq_true rfl) (fun r σ1 hp => ?_)
      obtain ⟨rfl, hp⟩ := hp
      rcases hp with ⟨q13, rfl⟩ | ⟨q13, rfl⟩
      · rw [hp e (by omega)] at q13
        simp only [Bool.and_eq_true, decide_eq_true_eq] at q13
        refine j_if_eq (pc := 16) (tgt := 49) dX1_losePushedBy_16 rfl (fun h => absurd h (by decide)) (fun _ => ?_)
        refine j_aload_n (pc := 19) dX1_losePushedBy_19 rfl ?_
        refine j_aload_n (pc := 20) dX1_losePushedBy_20 rfl ?_
        refine j_iload_n (pc := 21) dX1_losePushedBy_21 rfl ?_
        refine j_iload (pc := 22) dX1_losePushedBy_22 rfl ?_
        refine j_callVNi (pc := 24) dX1_losePushedBy_24 k_X1_87 (c_target' isN_net _ _ hN.1.2.1 hJ hN.2.1) (by first | rfl | with_reducible assumption) rfl rfl (by decide) rfl (Nat.le_of_ble_eq_true rfl) (fun r σ1 hp => ?_)
        obtain ⟨rfl, rfl⟩ := hp
        refine j_top htg ?_
        refine j_callVi (pc := 27) dX1_losePushedBy_27 k_X1_90 (c_X1_isLostInEarlierWave _ _) (by first | rfl | with_reducible assumption) rfl rfl (by decide) rfl (Nat.le_of_ble_eq_true rfl) (fun r σ1 hp => ?_)
        obtain ⟨rfl, hp⟩ := hp
        rcases hp with ⟨q27, rfl⟩ | ⟨q27, rfl⟩
        · refine j_if_eq (pc := 30) (tgt := 49) dX1_losePushedBy_30 rfl (fun h => absurd h (by decide)) (fun _ => ?_)
          refine j_aload_n (pc := 33) dX1_losePushedBy_33 rfl ?_
          refine j_iload_n (pc := 34) dX1_losePushedBy_34 rfl ?_
          refine j_iconst (pc := 35) dX1_losePushedBy_35 (v := 2) (by decide) ?_
          refine j_iload (pc := 36) dX1_losePushedBy_36 rfl ?_
          refine j_aload_n (pc := 38) dX1_losePushedBy_38 rfl ?_
          refine j_iload_n (pc := 39) dX1_losePushedBy_39 rfl ?_
          refine j_iload (pc := 40) dX1_losePushedBy_40 rfl ?_
          refine j_callVNi (pc := 42) dX1_losePushedBy_42 k_X1_87 (c_target' isN_net _ _ hN.1.2.1 hJ hN.2.1) (by first | rfl | with_reducible assumption) rfl rfl (by decide) rfl (Nat.le_of_ble_eq_true rfl) (fun r σ1 hp => ?_)
          obtain ⟨rfl, rfl⟩ := hp
          refine j_top htg ?_
          refine j_callVv (pc := 45) dX1_losePushedBy_45 k_X1_68 (c_X1_lose (by omega) hk _ _ _ hw) (by first | rfl | with_reducible assumption) rfl rfl (by decide) rfl (Nat.le_of_ble_eq_true rfl) (fun σ1 hp => ?_)
          skip
          refine j_vret (pc := 48) dX1_losePushedBy_48 ?_
          obtain rfl := hp
          refine Or.inr ⟨e, he8, ?_, rfl⟩
          have := (key q13.2.1).mp q27
          exact lst_hit he8 (show (bt fs e && isL J w (tg (8 * n + e))) = true by rw [q13.2.2, this]; rfl) hj
        · refine j_if_eq (pc := 30) (tgt := 49) dX1_losePushedBy_30 rfl (fun _ => ?_) (fun h => absurd h (by decide))
          refine j_iinc1 (pc := 49) dX1_losePushedBy_49 rfl ?_
          refine j_goto (pc := 52) (tgt := 3) dX1_losePushedBy_52 rfl ?_
          rw [nI_1]
          refine ih (e + 1) (by omega) (fun j hj2 => ?_)
          by_cases hje : j = e
          · subst hje
            first
              | (have h2 : isL J w (tg (8 * n + j)) = false := by
                   cases hz : isL J w (tg (8 * n + j)) with
                   | false => rfl
                   | true => exact absurd ((key q13.2.1).mpr hz) q27
                 rw [h2, Bool.and_false])
              | (rw [hp j (by omega)] at q13
                 cases hf : bt fs j with
                 | false => rfl
                 | true =>
                   have h9 : tg (8 * n + j) = -9 := Classical.byContradiction fun z => q13 (by simp [he8, z, hf])
                   unfold isL
                   rw [h9, inR_9]
                   rfl)
          · exact hj j (by omega)
      · refine j_if_eq (pc := 16) (tgt := 49) dX1_losePushedBy_16 rfl (fun _ => ?_) (fun h => absurd h (by decide))
        refine j_iinc1 (pc := 49) dX1_losePushedBy_49 rfl ?_
        refine j_goto (pc := 52) (tgt := 3) dX1_losePushedBy_52 rfl ?_
        rw [nI_1]
        refine ih (e + 1) (by omega) (fun j hj2 => ?_)
        by_cases hje : j = e
        · subst hje
          first
            | (have h2 : isL J w (tg (8 * n + j)) = false := by
                 cases hz : isL J w (tg (8 * n + j)) with
                 | false => rfl
                 | true => exact absurd ((key q13.2.1).mpr hz) q27
               rw [h2, Bool.and_false])
            | (rw [hp j (by omega)] at q13
               cases hf : bt fs j with
               | false => rfl
               | true =>
                 have h9 : tg (8 * n + j) = -9 := Classical.byContradiction fun z => q13 (by simp [he8, z, hf])
                 unfold isL
                 rw [h9, inR_9]
                 rfl)
        · exact hj j (by omega)
  refine EV.intro (by decide +kernel) (Nat.le_of_ble_eq_true rfl) ?_
  refine j_iconst (pc := 0) dX1_losePushedBy_0 (v := 0) (by decide) ?_
  refine j_istore (pc := 1) dX1_losePushedBy_1 (by decide) ?_
  exact loop 8 0 rfl (fun j h => absurd h (Nat.not_lt_zero _))
