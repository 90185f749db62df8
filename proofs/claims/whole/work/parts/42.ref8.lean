/-! LEASTBARSMODEL: what is LOST -/
def FrX (σ σ' : Mm) : Prop := ∀ x, (x < 10 ∨ x = 15) → σ' x = σ x
theorem FrX.rf {σ : Mm} : FrX σ σ := fun _ _ => rfl
theorem FrX.tr {σ σ' σ'' : Mm} (h1 : FrX σ σ') (h2 : FrX σ' σ'') : FrX σ σ'' := fun x a => (h2 x a).trans (h1 x a)
theorem FrX.up {σ σ' : Mm} {a k : Nat} {v : Int32} (h : FrX σ σ') (ha : 10 ≤ a ∧ a ≠ 15) : FrX σ (m_up σ' a k v) := fun x hx => (m_ne (by omega)).trans (h x hx)
section Lose
variable {σ : Mm} {n0 : Nat} {t : Nat → Int32} {N : Nat} {K : Nat → Int32} {M : Nat → MV} {set fs : Int32} {T : Tab}
theorem R2b.frX {σ' : Mm} (hb : R2b σ n0 t N K M) (h : FrX σ σ') : R2b σ' n0 t N K M := by
  obtain ⟨a1, a2, a3, a4, a5, a6⟩ := hb
  refine ⟨by rw [h 0 (by decide)]; exact a1, a2, by rw [h 1 (by decide)]; exact a3, by rw [h 0 (by decide)]; exact a4, a5, fun m hm => ?_⟩
  obtain ⟨x, y, z⟩ := a6 m hm
  exact ⟨x.cells (fun x _ _ => h x (by omega)), by rw [h 2 (by decide)]; exact y, z⟩
theorem NG2.frX {σ' : Mm} (hG : NG2 σ T set) (h : FrX σ σ') : NG2 σ' T set := by
  unfold NG2 at *
  rw [h 0 (by decide), h 8 (by decide), h 9 (by decide)]
  exact hG
theorem c_X8_loses {n : Nat} (hn : n < 150) (w r e : Int32) (σ : Mm) : EV Γ2 0 yX8_loses cX8_loses 5 none [.inr 0, .inl (nI n), .inl w, .inl r, .inl e] σ (mz (m_up (m_up (m_up σ 10 n w) 11 n r) 12 n e)) := by
  have hcn : (nI n).toNatClampNeg = n := nI_clamp (by omega)
  refine EV.intro (by decide +kernel) (Nat.le_of_ble_eq_true rfl) ?_
  refine j_aload_n (pc := 0) dX8_loses_0 rfl ?_
  refine j_getR (pc := 1) dX8_loses_1 f_X8_37 (by first | rfl | with_reducible assumption) (by rfl) ?_
  refine j_iload_n (pc := 4) dX8_loses_4 rfl ?_
  refine j_iload_n (pc := 5) dX8_loses_5 rfl ?_
  refine j_iast (pc := 6) dX8_loses_6 (by first | rfl | with_reducible assumption) (vp_in_nI hn (by decide)) ?_
  refine j_aload_n (pc := 7) dX8_loses_7 rfl ?_
  refine j_getR (pc := 8) dX8_loses_8 f_X8_40 (by first | rfl | with_reducible assumption) (by rfl) ?_
  refine j_iload_n (pc := 11) dX8_loses_11 rfl ?_
  refine j_iload_n (pc := 12) dX8_loses_12 rfl ?_
  refine j_iast (pc := 13) dX8_loses_13 (by first | rfl | with_reducible assumption) (vp_in_nI hn (by decide)) ?_
  refine j_aload_n (pc := 14) dX8_loses_14 rfl ?_
  refine j_getR (pc := 15) dX8_loses_15 f_X8_43 (by first | rfl | with_reducible assumption) (by rfl) ?_
  refine j_iload_n (pc := 18) dX8_loses_18 rfl ?_
  refine j_iload (pc := 19) dX8_loses_19 rfl ?_
  refine j_iast (pc := 21) dX8_loses_21 (by first | rfl | with_reducible assumption) (vp_in_nI hn (by decide)) ?_
  refine j_vret (pc := 22) dX8_loses_22 ?_
  rw [hcn]
  rfl
/-- the waves' table in waveOf, reasonOf, eventOf, where it is gone through up to n -/
def LX (σ : Mm) (J n : Nat) (W W' : LT) : Prop := ∀ i, i < J → (i < n → σ 10 i = W'.1 i ∧ (W'.1 i ≠ -9 → σ 11 i = W'.2.1 i ∧ σ 12 i = W'.2.2 i)) ∧ (n ≤ i → σ 10 i = W.1 i ∧ (W.1 i ≠ -9 → σ 11 i = W.2.1 i ∧ σ 12 i = W.2.2 i))
theorem LX.done {J : Nat} {W W' : LT} (h : LX σ J J W W') : LW2 σ J W' := fun i hi => (h i hi).1 hi
theorem LX.start {J : Nat} {W W' : LT} (h : LW2 σ J W) : LX σ J 0 W W' := fun i hi => ⟨fun z => absurd z (Nat.not_lt_zero _), fun _ => h i hi⟩
theorem LX.keep {J n : Nat} {W W' : LT} (h : LX σ J n W W') (hn : n < J) (hw : W'.1 n = W.1 n) (hr : W.1 n ≠ -9 → W'.2.1 n = W.2.1 n ∧ W'.2.2 n = W.2.2 n) : LX σ J (n + 1) W W' := fun i hi => by
  refine ⟨fun z => ?_, fun z => (h i hi).2 (by omega)⟩
  by_cases y : i = n
  · subst y
    obtain ⟨a, b⟩ := (h i hi).2 (Nat.le_refl _)
    rw [hw]
    refine ⟨a, fun q => ?_⟩
    rw [(hr q).1, (hr q).2]
    exact b q
  · exact (h i hi).1 (by omega)
theorem LX.lose {J n : Nat} {W W' : LT} {w r e : Int32} (h : LX σ J n W W') (hn : n < J) (h1 : W'.1 n = w) (h2 : W'.2.1 n = r) (h3 : W'.2.2 n = e) : LX (m_up (m_up (m_up σ 10 n w) 11 n r) 12 n e) J (n + 1) W W' := fun i hi => by
  by_cases y : i = n
  · subst y
    refine ⟨fun _ => ⟨?_, fun _ => ⟨?_, ?_⟩⟩, fun z => by omega⟩
    · rw [m_ne (by decide), m_ne (by decide), m_eq, h1]
    · rw [m_ne (by decide), m_eq, h2]
    · rw [m_eq, h3]
  · rw [m_ne (show (10 : Nat) ≠ 12 by decide), m_ne (show (10 : Nat) ≠ 11 by decide), m_nk y, m_ne (show (11 : Nat) ≠ 12 by decide), m_nk y, m_ne (show (11 : Nat) ≠ 10 by decide), m_nk y, m_ne (show (12 : Nat) ≠ 11 by decide), m_ne (show (12 : Nat) ≠ 10 by decide)]
    exact ⟨fun z => (h i hi).1 (by omega), fun z => (h i hi).2 (by omega)⟩
/-- losesClashes: the wave 0 -/
theorem c_X8_losesClashes (hb : R2b σ n0 t N K M) (hG : NG2 σ (TA N K M) (allS N)) (hfs : σ 0 9 = fs) : EV Γ2 2 yX8_losesClashes cX8_losesClashes 3 none [.inr 0] σ (fun _ σ' => FrX σ σ' ∧ LW2 σ' (gJ (TA N K M) (allS N)) (lt0 (gL (TA N K M) (allS N)) (fun e => bt fs e))) := by
  have hJ := hG.1
  have h6 := hb.2.2.2.2.1
  have hT : ∀ m, m < 6 → bt (allS N) m = true → okT (TA N K M) m := fun m _ q => hb.tok (all_lt h6 m q)
  have inner : ∀ n, n < gJ (TA N K M) (allS N) → (∀ (σ' : Mm) (w : Option Vl), FrX σ σ' → (∀ i, i < n + 1 → σ' 10 i = (lt0 (gL (TA N K M) (allS N)) (fun e => bt fs e)).1 i ∧ ((lt0 (gL (TA N K M) (allS N)) (fun e => bt fs e)).1 i ≠ -9 → σ' 11 i = 1 ∧ σ' 12 i = clE (gL (TA N K M) (allS N)) (fun e => bt fs e) i)) → AJ Γ2 2 RX8 cX8_losesClashes 3 none (fun _ σ' => FrX σ σ' ∧ LW2 σ' (gJ (TA N K M) (allS N)) (lt0 (gL (TA N K M) (allS N)) (fun e => bt fs e))) 2 [some (.inr 0), some (.inl (nI (n + 1))), w] [] σ') →
      ∀ (e : Nat) (σ' : Mm), e ≤ 8 → FrX σ σ' → (∀ i, i < n → σ' 10 i = (lt0 (gL (TA N K M) (allS N)) (fun e => bt fs e)).1 i ∧ ((lt0 (gL (TA N K M) (allS N)) (fun e => bt fs e)).1 i ≠ -9 → σ' 11 i = 1 ∧ σ' 12 i = clE (gL (TA N K M) (allS N)) (fun e => bt fs e) i)) →
      ((σ' 10 n = -9 ∧ ∀ j, e ≤ j → j < 8 → (gL (TA N K M) (allS N) n j && bt fs j) = false) ∨ ∃ j, e ≤ j ∧ j < 8 ∧ σ' 10 n = 0 ∧ σ' 11 n = 1 ∧ σ' 12 n = nI j ∧ (gL (TA N K M) (allS N) n j && bt fs j) = true ∧ ∀ i, e ≤ i → i < j → (gL (TA N K M) (allS N) n i && bt fs i) = false) →
      AJ Γ2 2 RX8 cX8_losesClashes 3 none (fun _ σ' => FrX σ σ' ∧ LW2 σ' (gJ (TA N K M) (allS N)) (lt0 (gL (TA N K M) (allS N)) (fun e => bt fs e))) 21 [some (.inr 0), some (.inl (nI n)), some (.inl (nI e - 1))] [] σ' := by
    intro n hn next e
    induction e with
    | zero =>
      intro σ' he hF hold hn1
      refine j_iload_n (pc := 21) dX8_losesClashes_21 rfl ?_
      refine j_if_lt (pc := 22) (tgt := 48) dX8_losesClashes_22 rfl (fun h22 => ?_) (fun h22 => absurd (by decide) h22)
      refine j_iinc1 (pc := 48) dX8_losesClashes_48 rfl ?_
      refine j_goto (pc := 51) (tgt := 2) dX8_losesClashes_51 rfl ?_
      rw [nI_1]
      refine next _ _ hF (fun i hi => ?_)
      by_cases z : i = n
      · subst z
        show σ' 10 i = (if clE (gL (TA N K M) (allS N)) (fun e => bt fs e) i = -9 then -9 else 0) ∧ ((if clE (gL (TA N K M) (allS N)) (fun e => bt fs e) i = -9 then (-9 : Int32) else 0) ≠ -9 → _)
        rcases hn1 with ⟨a, b⟩ | ⟨j, a1, a2, a3, a4, a5, a6, a7⟩
        · have : clE (gL (TA N K M) (allS N)) (fun e => bt fs e) i = -9 := lst_none (fun j hj => b j (Nat.zero_le _) hj)
          rw [if_pos this]
          exact ⟨a, fun q => absurd rfl q⟩
        · have : clE (gL (TA N K M) (allS N)) (fun e => bt fs e) i = nI j := lst_hit a2 a6 (fun x hx => a7 x (Nat.zero_le _) hx)
          rw [this, if_neg (nI_z (by omega))]
          exact ⟨a3, fun _ => ⟨a4, a5⟩⟩
      · exact hold i (by omega)
    | succ e ih =>
      intro σ' he hF hold hn1
      have e1 : nI (e + 1) - 1 = nI e := nI_pred e
      rw [e1]
      refine j_iload_n (pc := 21) dX8_losesClashes_21 rfl ?_
      refine j_if_lt (pc := 22) (tgt := 48) dX8_losesClashes_22 rfl (fun h22 => absurd h22 (nI_pos (by omega))) (fun h22 => ?_)
      refine j_aload_n (pc := 25) dX8_losesClashes_25 rfl ?_
      refine j_iload_n (pc := 26) dX8_losesClashes_26 rfl ?_
      refine j_iload_n (pc := 27) dX8_losesClashes_27 rfl ?_
      refine j_callVi (pc := 28) dX8_losesClashes_28 k_X8_141 (c_X8_clashes (c := gC (TA N K M) (allS N) n) (fs := fs) (hb.frX hF) (by omega) ((hG.frX hF).2.2.1 n hn) (gC_ok hT n) (by omega) (by rw [hF 0 (by decide)]; exact hfs)) (by first | rfl | with_reducible assumption) rfl rfl (by decide) rfl (Nat.le_of_ble_eq_true rfl) (fun r σ1 hp => ?_)
      obtain ⟨rfl, hp⟩ := hp
      rcases hp with ⟨q28, rfl⟩ | ⟨q28, rfl⟩
      · refine j_if_eq (pc := 31) (tgt := 42) dX8_losesClashes_31 rfl (fun h => absurd h (by decide)) (fun _ => ?_)
        refine j_aload_n (pc := 34) dX8_losesClashes_34 rfl ?_
        refine j_iload_n (pc := 35) dX8_losesClashes_35 rfl ?_
        refine j_iconst (pc := 36) dX8_losesClashes_36 (v := 0) (by decide) ?_
        refine j_iconst (pc := 37) dX8_losesClashes_37 (v := 1) (by decide) ?_
        refine j_iload_n (pc := 38) dX8_losesClashes_38 rfl ?_
        refine j_callVv (pc := 39) dX8_losesClashes_39 k_X8_145 (c_X8_loses (by omega) _ _ _ _) (by first | rfl | with_reducible assumption) rfl rfl (by decide) rfl (Nat.le_of_ble_eq_true rfl) (fun σ1 hp => ?_)
        obtain rfl := hp
        refine j_iinc (pc := 42) dX8_losesClashes_42 rfl (v := nI e - 1) (by rw [Int32.sub_eq_add_neg]; rfl) ?_
        refine j_goto (pc := 45) (tgt := 21) dX8_losesClashes_45 rfl ?_
        have hq : (gL (TA N K M) (allS N) n e && bt fs e) = (clashB (TA N K M) (allS N) (gC (TA N K M) (allS N) n) e && bt fs e) := by
          unfold gL
          rw [decide_eq_true (show e < 8 by omega), Bool.true_and]
        refine ih _ (by omega) (by first | exact hF | exact ((hF.up (by decide)).up (by decide)).up (by decide)) ?_ ?_
        · first
            | exact hold
            | (intro i hi
               rw [m_ne (show (10 : Nat) ≠ 12 by decide), m_ne (show (10 : Nat) ≠ 11 by decide), m_nk (by omega), m_ne (show (11 : Nat) ≠ 12 by decide), m_nk (by omega), m_ne (show (11 : Nat) ≠ 10 by decide), m_nk (by omega), m_ne (show (12 : Nat) ≠ 11 by decide), m_ne (show (12 : Nat) ≠ 10 by decide)]
               exact hold i hi)
        · first
            | (refine Or.inr ⟨e, Nat.le_refl _, by omega, by rw [m_ne (by decide), m_ne (by decide), m_eq], by rw [m_ne (by decide), m_eq], m_eq _ _ _ _, by rw [hq]; exact q28, fun i a b => by omega⟩)
            | (have q28' : (gL (TA N K M) (allS N) n e && bt fs e) = false := by rw [hq]; simpa using q28
               rcases hn1 with ⟨a, b⟩ | ⟨j, a1, a2, a3, a4, a5, a6, a7⟩
               · refine Or.inl ⟨a, fun j h1 h2 => ?_⟩
                 by_cases z : j = e
                 · subst z; exact q28'
                 · exact b j (by omega) h2
               · refine Or.inr ⟨j, by omega, a2, a3, a4, a5, a6, fun i h1 h2 => ?_⟩
                 by_cases z : i = e
                 · subst z; exact q28'
                 · exact a7 i (by omega) h2)
      · refine j_if_eq (pc := 31) (tgt := 42) dX8_losesClashes_31 rfl (fun _ => ?_) (fun h => absurd h (by decide))
        refine j_iinc (pc := 42) dX8_losesClashes_42 rfl (v := nI e - 1) (by rw [Int32.sub_eq_add_neg]; rfl) ?_
        refine j_goto (pc := 45) (tgt := 21) dX8_losesClashes_45 rfl ?_
        have hq : (gL (TA N K M) (allS N) n e && bt fs e) = (clashB (TA N K M) (allS N) (gC (TA N K M) (allS N) n) e && bt fs e) := by
          unfold gL
          rw [decide_eq_true (show e < 8 by omega), Bool.true_and]
        refine ih _ (by omega) (by first | exact hF | exact ((hF.up (by decide)).up (by decide)).up (by decide)) ?_ ?_
        · first
            | exact hold
            | (intro i hi
               rw [m_ne (show (10 : Nat) ≠ 12 by decide), m_ne (show (10 : Nat) ≠ 11 by decide), m_nk (by omega), m_ne (show (11 : Nat) ≠ 12 by decide), m_nk (by omega), m_ne (show (11 : Nat) ≠ 10 by decide), m_nk (by omega), m_ne (show (12 : Nat) ≠ 11 by decide), m_ne (show (12 : Nat) ≠ 10 by decide)]
               exact hold i hi)
        · first
            | (refine Or.inr ⟨e, Nat.le_refl _, by omega, by rw [m_ne (by decide), m_ne (by decide), m_eq], by rw [m_ne (by decide), m_eq], m_eq _ _ _ _, by rw [hq]; exact q28, fun i a b => by omega⟩)
            | (have q28' : (gL (TA N K M) (allS N) n e && bt fs e) = false := by rw [hq]; simpa using q28
               rcases hn1 with ⟨a, b⟩ | ⟨j, a1, a2, a3, a4, a5, a6, a7⟩
               · refine Or.inl ⟨a, fun j h1 h2 => ?_⟩
                 by_cases z : j = e
                 · subst z; exact q28'
                 · exact b j (by omega) h2
               · refine Or.inr ⟨j, by omega, a2, a3, a4, a5, a6, fun i h1 h2 => ?_⟩
                 by_cases z : i = e
                 · subst z; exact q28'
                 · exact a7 i (by omega) h2)
  have outer : ∀ (k n : Nat) (σ' : Mm) (w : Option Vl), n + k = gJ (TA N K M) (allS N) → FrX σ σ' → (∀ i, i < n → σ' 10 i = (lt0 (gL (TA N K M) (allS N)) (fun e => bt fs e)).1 i ∧ ((lt0 (gL (TA N K M) (allS N)) (fun e => bt fs e)).1 i ≠ -9 → σ' 11 i = 1 ∧ σ' 12 i = clE (gL (TA N K M) (allS N)) (fun e => bt fs e) i)) → AJ Γ2 2 RX8 cX8_losesClashes 3 none (fun _ σ' => FrX σ σ' ∧ LW2 σ' (gJ (TA N K M) (allS N)) (lt0 (gL (TA N K M) (allS N)) (fun e => bt fs e))) 2 [some (.inr 0), some (.inl (nI n)), w] [] σ' := by
    intro k
    induction k with
    | zero =>
      intro n σ' w hk hF hold
      obtain rfl : n = gJ (TA N K M) (allS N) := by omega
      refine j_iload_n (pc := 2) dX8_losesClashes_2 rfl ?_
      refine j_aload_n (pc := 3) dX8_losesClashes_3 rfl ?_
      refine j_getI (pc := 4) dX8_losesClashes_4 f_X8_131 (by first | rfl | with_reducible assumption) (by rfl) ?_
      refine j_top (hG.frX hF).2.1 ?_
      refine j_icmp_ge (pc := 7) (tgt := 54) dX8_losesClashes_7 rfl (fun h7 => ?_) (fun h7 => absurd (Int32.le_refl _) h7)
      refine j_vret (pc := 54) dX8_losesClashes_54 ?_
      exact ⟨hF, hold⟩
    | succ k ih =>
      intro n σ' w hk hF hold
      have hcn : (nI n).toNatClampNeg = n := nI_clamp (by omega)
      refine j_iload_n (pc := 2) dX8_losesClashes_2 rfl ?_
      refine j_aload_n (pc := 3) dX8_losesClashes_3 rfl ?_
      refine j_getI (pc := 4) dX8_losesClashes_4 f_X8_131 (by first | rfl | with_reducible assumption) (by rfl) ?_
      refine j_top (hG.frX hF).2.1 ?_
      refine j_icmp_ge (pc := 7) (tgt := 54) dX8_losesClashes_7 rfl (fun h7 => absurd h7 (nI_ge (by omega) (by omega))) (fun h7 => ?_)
      refine j_aload_n (pc := 10) dX8_losesClashes_10 rfl ?_
      refine j_getR (pc := 11) dX8_losesClashes_11 f_X8_37 (by first | rfl | with_reducible assumption) (by rfl) ?_
      refine j_iload_n (pc := 14) dX8_losesClashes_14 rfl ?_
      refine j_bipush (pc := 15) dX8_losesClashes_15 (v := (-9)) (by decide) ?_
      refine j_iast (pc := 17) dX8_losesClashes_17 (by first | rfl | with_reducible assumption) (vp_in_nI (by omega) (by decide)) ?_
      refine j_bipush (pc := 18) dX8_losesClashes_18 (v := 7) (by decide) ?_
      refine j_istore_n (pc := 20) dX8_losesClashes_20 (by decide) ?_
      rw [hcn]
      refine inner n (by omega) (fun σ'' w hF' hold' => ih (n + 1) σ'' w (by omega) hF' hold') 8 _ (Nat.le_refl _) (hF.up (by decide)) (fun i hi => ?_) (Or.inl ⟨m_eq _ _ _ _, fun j h1 h2 => by omega⟩)
      rw [m_nk (by omega), m_ne (by decide), m_ne (by decide)]
      exact hold i hi
  refine EV.intro (by decide +kernel) (Nat.le_of_ble_eq_true rfl) ?_
  refine j_iconst (pc := 0) dX8_losesClashes_0 (v := 0) (by decide) ?_
  refine j_istore_n (pc := 1) dX8_losesClashes_1 (by decide) ?_
  exact outer (gJ (TA N K M) (allS N)) 0 _ _ (by omega) FrX.rf (fun i hi => absurd hi (Nat.not_lt_zero _))
end Lose
