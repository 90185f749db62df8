/-! LOSSES: losePushed, loseStuck, sift -/
abbrev LIT (σ : Mm) (J : Nat) (tg : Nat → Int32) (l : LT) : Prop := LI σ J l.1 l.2.1 l.2.2 (caT tg l)
abbrev LIX (σ : Mm) (J : Nat) (tg : Nat → Int32) (n : Nat) (l' l : LT) : Prop := LI σ J (mixF n l'.1 l.1) (mixF n l'.2.1 l.2.1) (mixF n l'.2.2 l.2.2) (mixF n (caT tg l') (caT tg l))
theorem LIX.same {σ : Mm} {J n : Nat} {tg : Nat → Int32} {l' l : LT} (h : LIX σ J tg n l' l) (h1 : l'.1 n = l.1 n) (h2 : l'.2.1 n = l.2.1 n) (h3 : l'.2.2 n = l.2.2 n) : LIX σ J tg (n + 1) l' l := by
  have h4 : caT tg l' n = caT tg l n := by unfold caT; rw [h2, h3]
  unfold LIX
  rw [mix_eq h1, mix_eq h2, mix_eq h3, mix_eq h4]
  exact h
theorem LIX.lose {σ : Mm} {J n k : Nat} {tg : Nat → Int32} {l' l : LT} (h : LIX σ J tg n l' l) (hJ : J ≤ 150) (hn : n < J) (hk : k < 151) (h0 : l.1 n = -9) {re ev ca : Int32} (h1 : l'.1 n = nI k) (h2 : l'.2.1 n = re) (h3 : l'.2.2 n = ev) (h4 : caT tg l' n = ca) : LIX (loseM σ n k re ev ca) J tg (n + 1) l' l ∧ FrL σ (loseM σ n k re ev ca) := by
  obtain ⟨a, b⟩ := LI.lose h hJ hn hk (by rw [mix_at]; exact h0) re ev ca
  refine ⟨?_, b⟩
  have e1 : upd (mixF n l'.1 l.1) n (nI k) = mixF (n + 1) l'.1 l.1 := by rw [← h1]; exact mix_S _ _ _
  have e2 : upd (mixF n l'.2.1 l.2.1) n re = mixF (n + 1) l'.2.1 l.2.1 := by rw [← h2]; exact mix_S _ _ _
  have e3 : upd (mixF n l'.2.2 l.2.2) n ev = mixF (n + 1) l'.2.2 l.2.2 := by rw [← h3]; exact mix_S _ _ _
  have e4 : upd (mixF n (caT tg l') (caT tg l)) n ca = mixF (n + 1) (caT tg l') (caT tg l) := by rw [← h4]; exact mix_S _ _ _
  rw [e1, e2, e3, e4] at a
  exact a
theorem LIX.done {σ : Mm} {J : Nat} {tg : Nat → Int32} {l' l : LT} (h : LIX σ J tg J l' l) : LIT σ J tg l' := LI.cong h (fun n hn => ⟨by simp [mixF, hn], fun _ => ⟨by simp [mixF, hn], by simp [mixF, hn], by simp [mixF, hn]⟩⟩)
theorem LIX.start {σ : Mm} {J : Nat} {tg : Nat → Int32} {l' l : LT} (h : LIT σ J tg l) : LIX σ J tg 0 l' l := by
  unfold LIX
  rw [mix_0, mix_0, mix_0, mix_0]
  exact h
theorem c_X1_losePushed {σ : Mm} {J k : Nat} {tg : Nat → Int32} {fn : Nat → Bool} {cl : Nat → Nat → Bool} (hN : NL σ J tg fn cl) (fs : Int32) (hw : σ 46 5 = nI k) (hk2 : k < 2 ^ 31) {l : LT} (hL : LIT σ J tg l) (hk : ∀ n, n < J → l.1 n = -9 → k < 151) (hwv : ∀ n, n < J → l.1 n = -9 ∨ ∃ i, i < k ∧ l.1 n = nI i) :
    EV Γ1 3 yX1_losePushed cX1_losePushed 5 none [.inr 46, .inr 23, .inl fs] σ (fun _ σ' => FrL σ σ' ∧ LIT σ' J tg (pushT J tg (fun e => bt fs e) l k)) := by
  have hJ := hN.1.1
  have loop : ∀ (q n : Nat) (σ' : Mm) (y : Option Vl), n + q = J → FrL σ σ' → LIX σ' J tg n (pushT J tg (fun e => bt fs e) l k) l →
      AJ Γ1 3 RX1 cX1_losePushed 5 none (fun _ σ' => FrL σ σ' ∧ LIT σ' J tg (pushT J tg (fun e => bt fs e) l k)) 2 [some (.inr 46), some (.inr 23), some (.inl fs), some (.inl (nI n)), y] [] σ' := by
    intro q
    induction q with
    | zero =>
      intro n σ' y hq hF hX
      obtain rfl : n = J := by omega
      refine j_iload_n (pc := 2) dX1_losePushed_2 rfl ?_
      refine j_aload_n (pc := 3) dX1_losePushed_3 rfl ?_
      refine j_getI (pc := 4) dX1_losePushed_4 f_X1_57 (by first | rfl | with_reducible assumption) (by rfl) ?_
      refine j_top (y := nI n) (by rw [hF.1 23 (by decide)]; exact hN.1.2.1) ?_
      refine j_icmp_ge (pc := 7) (tgt := 46) dX1_losePushed_7 rfl (fun h7 => ?_) (fun h7 => absurd (Int32.le_refl _) h7)
      refine j_vret (pc := 46) dX1_losePushed_46 ?_
      exact ⟨hF, hX.done⟩
    | succ q ih =>
      intro n σ' y hq hF hX
      have hn : n < J := by omega
      have hN' := hN.fr hF
      have hcur : σ' 47 n = l.1 n := by rw [(hX.1 n hn).1, mix_at]
      have hfo : fo 150 (σ' 47) (nI n) = l.1 n := by rw [fo_nI (by omega) (by decide)]; exact hcur
      have hbits : ∀ e, e < 32 → bt (σ' 25 n &&& fs) e = (decide (e < 8) && (decide (tg (8 * n + e) ≠ -9) && bt fs e)) := fun e he => by rw [b_and, hN'.2.2.1 n hn e he, Bool.and_assoc]
      have hold : ∀ m, m < J → ((σ' 47 m ≠ -9 ∧ σ' 47 m < nI k) ↔ l.1 m ≠ -9) := by
        intro m hm
        have e1 : σ' 47 m = mixF n (pushT J tg (fun e => bt fs e) l k).1 l.1 m := (hX.1 m hm).1
        have old : (l.1 m ≠ -9 ∧ l.1 m < nI k) ↔ l.1 m ≠ -9 := ⟨fun z => z.1, fun z => ⟨z, by
          rcases hwv m hm with a | ⟨i, a, b⟩
          · exact absurd a z
          · rw [b]; exact nI_lt a hk2⟩⟩
        rw [e1]
        by_cases hmn : m < n
        · by_cases hc : l.1 m = -9 ∧ puE J tg (fun e => bt fs e) l.1 m ≠ -9
          · have e2 : mixF n (pushT J tg (fun e => bt fs e) l k).1 l.1 m = nI k := by simp only [mixF, if_pos hmn, pushT, if_pos hc]
            rw [e2]
            exact ⟨fun z => absurd z.2 (nI_nlt (Nat.le_refl _) hk2), fun z => absurd hc.1 z⟩
          · have e2 : mixF n (pushT J tg (fun e => bt fs e) l k).1 l.1 m = l.1 m := by simp only [mixF, if_pos hmn, pushT, if_neg hc]
            rw [e2]
            exact old
        · have e2 : mixF n (pushT J tg (fun e => bt fs e) l k).1 l.1 m = l.1 m := by simp only [mixF, if_neg hmn]
          rw [e2]
          exact old
      have stay : ¬ (l.1 n = -9 ∧ puE J tg (fun e => bt fs e) l.1 n ≠ -9) → LIX σ' J tg (n + 1) (pushT J tg (fun e => bt fs e) l k) l := fun hc => hX.same (by simp only [pushT, if_neg hc]) (by simp only [pushT, if_neg hc]) (by simp only [pushT, if_neg hc])
      refine j_iload_n (pc := 2) dX1_losePushed_2 rfl ?_
      refine j_aload_n (pc := 3) dX1_losePushed_3 rfl ?_
      refine j_getI (pc := 4) dX1_losePushed_4 f_X1_57 (by first | rfl | with_reducible assumption) (by rfl) ?_
      refine j_top (y := nI J) (by rw [hF.1 23 (by decide)]; exact hN.1.2.1) ?_
      refine j_icmp_ge (pc := 7) (tgt := 46) dX1_losePushed_7 rfl (fun h7 => absurd h7 (nI_ge hn (by omega))) (fun h7 => ?_)
      refine j_aload_n (pc := 10) dX1_losePushed_10 rfl ?_
      refine j_iload_n (pc := 11) dX1_losePushed_11 rfl ?_
      refine j_callVNi (pc := 12) dX1_losePushed_12 k_X1_72 (c_X3_leadSet isN_net _ hN'.1.2.1 hJ) (by first | rfl | with_reducible assumption) rfl rfl (by decide) rfl (Nat.le_of_ble_eq_true rfl) (fun r σ1 hp => ?_)
      obtain ⟨rfl, hp⟩ := hp
      have hr : r = σ' 25 n := by
        rcases hp with ⟨i, a1, a2, a3⟩ | ⟨a1, -⟩
        · have := (nI_eq (by omega) (by omega)).mp a2
          subst this
          exact a3
        · exact absurd (vp_in_nI hn (by omega)) a1
      subst hr
      refine j_iload_n (pc := 15) dX1_losePushed_15 rfl ?_
      refine j_iand (pc := 16) dX1_losePushed_16 ?_
      refine j_istore (pc := 17) dX1_losePushed_17 (by decide) ?_
      refine j_iload (pc := 19) dX1_losePushed_19 rfl ?_
      refine j_if_eq (pc := 21) (tgt := 40) dX1_losePushed_21 rfl (fun h21 => ?_) (fun h21 => ?_)
      · have hst := stay (fun z => z.2 (lst_9.mpr (fun e he => by
          have hb := hbits e (by omega)
          rw [h21, b_0] at hb
          show (bt fs e && isL J l.1 (tg (8 * n + e))) = false
          cases hf : bt fs e with
          | false => rfl
          | true =>
            have h9 : tg (8 * n + e) = -9 := Classical.byContradiction fun z => by simp [he, z, hf] at hb
            unfold isL
            rw [h9, inR_9]
            rfl)))
        refine j_iinc1 (pc := 40) dX1_losePushed_40 rfl ?_
        refine j_goto (pc := 43) (tgt := 2) dX1_losePushed_43 rfl ?_
        rw [nI_1]
        first
          | exact ih (n + 1) _ _ (by omega) hF hst
          | (rcases hpp with ⟨a, rfl⟩ | ⟨e, he, a, rfl⟩
             · exact ih (n + 1) _ _ (by omega) hF (stay (fun z => z.2 a))
             · have hc : l.1 n = -9 ∧ puE J tg (fun e => bt fs e) l.1 n ≠ -9 := ⟨h09, by rw [a]; exact nI_z (by omega)⟩
               obtain ⟨hX2, hF2⟩ := hX.lose (k := k) hJ hn (hk n hn h09) h09 (re := 2) (ev := nI e) (ca := tg (8 * n + e)) (by simp only [pushT, if_pos hc]) (by simp only [pushT, if_pos hc]) (by simp only [pushT, if_pos hc]; exact a) (by simp only [caT, pushT, if_pos hc, if_true]; rw [a, nI_clamp (by omega)])
               exact ih (n + 1) _ _ (by omega) (hF.tr hF2) hX2)
      · refine j_aload_n (pc := 24) dX1_losePushed_24 rfl ?_
        refine j_iload_n (pc := 25) dX1_losePushed_25 rfl ?_
        refine j_callVi (pc := 26) dX1_losePushed_26 k_X1_75 (c_X1_isLost _ _) (by first | rfl | with_reducible assumption) rfl rfl (by decide) rfl (Nat.le_of_ble_eq_true rfl) (fun r σ1 hp => ?_)
        obtain ⟨rfl, hp⟩ := hp
        rcases hp with ⟨q26, rfl⟩ | ⟨q26, rfl⟩
        · have hst := stay (fun z => q26 (hfo.trans z.1))
          refine j_if_ne (pc := 29) (tgt := 40) dX1_losePushed_29 rfl (fun _ => ?_) (fun h => absurd h (by decide))
          refine j_iinc1 (pc := 40) dX1_losePushed_40 rfl ?_
          refine j_goto (pc := 43) (tgt := 2) dX1_losePushed_43 rfl ?_
          rw [nI_1]
          first
            | exact ih (n + 1) _ _ (by omega) hF hst
            | (rcases hpp with ⟨a, rfl⟩ | ⟨e, he, a, rfl⟩
               · exact ih (n + 1) _ _ (by omega) hF (stay (fun z => z.2 a))
               · have hc : l.1 n = -9 ∧ puE J tg (fun e => bt fs e) l.1 n ≠ -9 := ⟨h09, by rw [a]; exact nI_z (by omega)⟩
                 obtain ⟨hX2, hF2⟩ := hX.lose (k := k) hJ hn (hk n hn h09) h09 (re := 2) (ev := nI e) (ca := tg (8 * n + e)) (by simp only [pushT, if_pos hc]) (by simp only [pushT, if_pos hc]) (by simp only [pushT, if_pos hc]; exact a) (by simp only [caT, pushT, if_pos hc, if_true]; rw [a, nI_clamp (by omega)])
                 exact ih (n + 1) _ _ (by omega) (hF.tr hF2) hX2)
        · have h09 : l.1 n = -9 := Classical.byContradiction fun z => q26 (by rw [hfo]; exact z)
          refine j_if_ne (pc := 29) (tgt := 40) dX1_losePushed_29 rfl (fun h => absurd h (by decide)) (fun _ => ?_)
          refine j_aload_n (pc := 32) dX1_losePushed_32 rfl ?_
          refine j_aload_n (pc := 33) dX1_losePushed_33 rfl ?_
          refine j_iload_n (pc := 34) dX1_losePushed_34 rfl ?_
          refine j_iload (pc := 35) dX1_losePushed_35 rfl ?_
          refine j_callVv (pc := 37) dX1_losePushed_37 k_X1_79 (c_X1_losePushedBy hN' hn hbits (hF.2.trans hw) (hk n hn h09) hold) (by first | rfl | with_reducible assumption) rfl rfl (by decide) rfl (Nat.le_of_ble_eq_true rfl) (fun σ1 hp => ?_)
          have hpp := hp
          refine j_iinc1 (pc := 40) dX1_losePushed_40 rfl ?_
          refine j_goto (pc := 43) (tgt := 2) dX1_losePushed_43 rfl ?_
          rw [nI_1]
          first
            | exact ih (n + 1) _ _ (by omega) hF hst
            | (rcases hpp with ⟨a, rfl⟩ | ⟨e, he, a, rfl⟩
               · exact ih (n + 1) _ _ (by omega) hF (stay (fun z => z.2 a))
               · have hc : l.1 n = -9 ∧ puE J tg (fun e => bt fs e) l.1 n ≠ -9 := ⟨h09, by rw [a]; exact nI_z (by omega)⟩
                 obtain ⟨hX2, hF2⟩ := hX.lose (k := k) hJ hn (hk n hn h09) h09 (re := 2) (ev := nI e) (ca := tg (8 * n + e)) (by simp only [pushT, if_pos hc]) (by simp only [pushT, if_pos hc]) (by simp only [pushT, if_pos hc]; exact a) (by simp only [caT, pushT, if_pos hc, if_true]; rw [a, nI_clamp (by omega)])
                 exact ih (n + 1) _ _ (by omega) (hF.tr hF2) hX2)
  refine EV.intro (by decide +kernel) (Nat.le_of_ble_eq_true rfl) ?_
  refine j_iconst (pc := 0) dX1_losePushed_0 (v := 0) (by decide) ?_
  refine j_istore_n (pc := 1) dX1_losePushed_1 (by decide) ?_
  exact loop J 0 σ none (by omega) FrL.rf (LIX.start hL)
theorem Rk.cong {J : Nat} {tg : Nat → Int32} {fn al al' : Nat → Bool} (h : ∀ n, n < J → al n = al' n) {k n : Nat} : Rk J tg fn al k n → Rk J tg fn al' k n := by
  induction k generalizing n with
  | zero => exact fun q => ⟨q.1, by rw [← h n q.1]; exact q.2.1, q.2.2⟩
  | succ k ih =>
    rintro (q | ⟨a, b, e, m, c, d, f⟩)
    · exact Or.inl (ih q)
    · exact Or.inr ⟨a, by rw [← h n a]; exact b, e, m, c, d, ih f⟩
theorem isFar.cong {J : Nat} {tg : Nat → Int32} {fn al al' : Nat → Bool} (h : ∀ n, n < J → al n = al' n) {n : Nat} {v : Int32} (q : isFar J tg fn al n v) : isFar J tg fn al' n v := by
  have h' : ∀ n, n < J → al' n = al n := fun n hn => (h n hn).symm
  rcases q with ⟨k, a, b, c, d⟩ | ⟨a, b⟩
  · exact Or.inl ⟨k, a, b, c.cong h, fun j hj z => d j hj (z.cong h')⟩
  · exact Or.inr ⟨a, fun k z => b k (z.cong h')⟩
/-- only Losses' rows, and what net measures, have changed -/
def FrS (σ σ' : Mm) : Prop := (∀ x, x ≠ 23 → x ≠ 32 → x ≠ 33 → (x < 46 ∨ 51 < x) → σ' x = σ x) ∧ (∀ k, k ≠ 10 → σ' 23 k = σ 23 k) ∧ σ' 46 5 = σ 46 5
theorem FrS.rf {σ : Mm} : FrS σ σ := ⟨fun _ _ _ _ _ => rfl, fun _ _ => rfl, rfl⟩
theorem FrL.S {σ σ' : Mm} (h : FrL σ σ') : FrS σ σ' := ⟨fun x _ _ _ hx => h.1 x hx, fun k _ => by rw [h.1 23 (by decide)], h.2⟩
theorem FrS.tr {σ σ' σ'' : Mm} (h1 : FrS σ σ') (h2 : FrS σ' σ'') : FrS σ σ'' := ⟨fun x a b c e => (h2.1 x a b c e).trans (h1.1 x a b c e), fun k hk => (h2.2.1 k hk).trans (h1.2.1 k hk), h2.2.2.trans h1.2.2⟩
theorem NL.frS {σ σ' : Mm} {J : Nat} {tg : Nat → Int32} {fn : Nat → Bool} {cl : Nat → Nat → Bool} (h : NL σ J tg fn cl) (hF : FrS σ σ') : NL σ' J tg fn cl := by
  unfold NL NM at *
  rw [hF.2.1 13 (by decide), hF.1 (23 + 4) (by decide) (by decide) (by decide) (by decide), hF.1 (23 + 7) (by decide) (by decide) (by decide) (by decide), hF.1 (23 + 6) (by decide) (by decide) (by decide) (by decide), hF.1 28 (by decide) (by decide) (by decide) (by decide), hF.1 25 (by decide) (by decide) (by decide) (by decide), hF.1 26 (by decide) (by decide) (by decide) (by decide)]
  exact h
theorem c_X1_loseStuck {σ : Mm} {J k : Nat} {tg : Nat → Int32} {fn : Nat → Bool} {cl : Nat → Nat → Bool} (hN : NL σ J tg fn cl) (hw : σ 46 5 = nI k) {l : LT} (hL : LIT σ J tg l) (hk : ∀ n, n < J → l.1 n = -9 → k < 151) :
    EV Γ1 3 yX1_loseStuck cX1_loseStuck 3 none [.inr 46, .inr 23] σ (fun _ σ' => FrS σ σ' ∧ LIT σ' J tg (stuckT J tg fn l k) ∧ ∀ n, n < J → isFar J tg fn (fun n => decide (l.1 n = -9)) n (σ' 32 n)) := by
  have hJ := hN.1.1
  have hal : ∀ n, n < J → (fun n => decide (σ 47 n = -9)) n = (fun n => decide (l.1 n = -9)) n := fun n hn => by
    dsimp only
    rw [(hL.1 n hn).1]
  have loop : ∀ (q n : Nat) (σ' : Mm), n + q = J → FrS σ σ' → (∀ n, n < J → isFar J tg fn (fun n => decide (l.1 n = -9)) n (σ' 32 n)) → LIX σ' J tg n (stuckT J tg fn l k) l →
      AJ Γ1 3 RX1 cX1_loseStuck 3 none (fun _ σ' => FrS σ σ' ∧ LIT σ' J tg (stuckT J tg fn l k) ∧ ∀ n, n < J → isFar J tg fn (fun n => decide (l.1 n = -9)) n (σ' 32 n)) 10 [some (.inr 46), some (.inr 23), some (.inl (nI n))] [] σ' := by
    intro q
    induction q with
    | zero =>
      intro n σ' hq hF hfar hX
      obtain rfl : n = J := by omega
      refine j_iload_n (pc := 10) dX1_loseStuck_10 rfl ?_
      refine j_aload_n (pc := 11) dX1_loseStuck_11 rfl ?_
      refine j_getI (pc := 12) dX1_loseStuck_12 f_X1_57 (by first | rfl | with_reducible assumption) (by rfl) ?_
      refine j_top (y := nI n) (by rw [hF.2.1 13 (by decide)]; exact hN.1.2.1) ?_
      refine j_icmp_ge (pc := 15) (tgt := 52) dX1_loseStuck_15 rfl (fun h15 => ?_) (fun h15 => absurd (Int32.le_refl _) h15)
      refine j_vret (pc := 52) dX1_loseStuck_52 ?_
      exact ⟨hF, hX.done, hfar⟩
    | succ q ih =>
      intro n σ' hq hF hfar hX
      have hn : n < J := by omega
      have hN' := hN.frS hF
      have hcur : σ' 47 n = l.1 n := by rw [(hX.1 n hn).1, mix_at]
      have hfo : fo 150 (σ' 47) (nI n) = l.1 n := by rw [fo_nI (by omega) (by decide)]; exact hcur
      have hff : fo J (σ' (23 + 9)) (nI n) = σ' 32 n := fo_nI hn (by omega)
      have stay : ¬ (l.1 n = -9 ∧ stkB J tg fn l.1 n = true) → LIX σ' J tg (n + 1) (stuckT J tg fn l k) l := fun hc => hX.same (by simp only [stuckT, if_neg hc]) (by simp only [stuckT, if_neg hc]) (by simp only [stuckT, if_neg hc])
      refine j_iload_n (pc := 10) dX1_loseStuck_10 rfl ?_
      refine j_aload_n (pc := 11) dX1_loseStuck_11 rfl ?_
      refine j_getI (pc := 12) dX1_loseStuck_12 f_X1_57 (by first | rfl | with_reducible assumption) (by rfl) ?_
      refine j_top (y := nI J) (by rw [hF.2.1 13 (by decide)]; exact hN.1.2.1) ?_
      refine j_icmp_ge (pc := 15) (tgt := 52) dX1_loseStuck_15 rfl (fun h15 => absurd h15 (nI_ge hn (by omega))) (fun h15 => ?_)
      refine j_aload_n (pc := 18) dX1_loseStuck_18 rfl ?_
      refine j_iload_n (pc := 19) dX1_loseStuck_19 rfl ?_
      refine j_callVi (pc := 20) dX1_loseStuck_20 k_X1_75 (c_X1_isLost _ _) (by first | rfl | with_reducible assumption) rfl rfl (by decide) rfl (Nat.le_of_ble_eq_true rfl) (fun r σ1 hp => ?_)
      obtain ⟨rfl, hp⟩ := hp
      rcases hp with ⟨q20, rfl⟩ | ⟨q20, rfl⟩
      · have hst := stay (fun z => q20 (hfo.trans z.1))
        refine j_if_ne (pc := 23) (tgt := 46) dX1_loseStuck_23 rfl (fun _ => ?_) (fun h => absurd h (by decide))
        refine j_iinc1 (pc := 46) dX1_loseStuck_46 rfl ?_
        refine j_goto (pc := 49) (tgt := 10) dX1_loseStuck_49 rfl ?_
        rw [nI_1]
        first
          | exact ih (n + 1) _ (by omega) hF hfar hst
          | exact ih (n + 1) _ (by omega) (hF.tr hF2.S) (fun i hi => by have := hfar i hi; rw [← hF2.1 32 (by decide)] at this; exact this) hX2
      · have h09 : l.1 n = -9 := Classical.byContradiction fun z => q20 (by rw [hfo]; exact z)
        refine j_if_ne (pc := 23) (tgt := 46) dX1_loseStuck_23 rfl (fun h => absurd h (by decide)) (fun _ => ?_)
        refine j_aload_n (pc := 26) dX1_loseStuck_26 rfl ?_
        refine j_iload_n (pc := 27) dX1_loseStuck_27 rfl ?_
        refine j_callVNi (pc := 28) dX1_loseStuck_28 k_X1_97 (c_farOf' isN_net _ hN'.1.2.1 hJ) (by first | rfl | with_reducible assumption) rfl rfl (by decide) rfl (Nat.le_of_ble_eq_true rfl) (fun r σ1 hp => ?_)
        obtain ⟨rfl, rfl⟩ := hp
        refine j_top hff ?_
        refine j_bipush (pc := 31) dX1_loseStuck_31 (v := (-9)) (by decide) ?_
        refine j_icmp_ne (pc := 33) (tgt := 46) dX1_loseStuck_33 rfl (fun h33 => ?_) (fun h33 => ?_)
        · have hst := stay (fun z => by
            rcases hfar n hn with ⟨j, -, -, a, -⟩ | ⟨a, -⟩
            · exact stkB_iff J tg fn |>.mp z.2 j a
            · exact h33 a)
          refine j_iinc1 (pc := 46) dX1_loseStuck_46 rfl ?_
          refine j_goto (pc := 49) (tgt := 10) dX1_loseStuck_49 rfl ?_
          rw [nI_1]
          first
            | exact ih (n + 1) _ (by omega) hF hfar hst
            | exact ih (n + 1) _ (by omega) (hF.tr hF2.S) (fun i hi => by have := hfar i hi; rw [← hF2.1 32 (by decide)] at this; exact this) hX2
        · have hc : l.1 n = -9 ∧ stkB J tg fn l.1 n = true := ⟨h09, (stkB_iff J tg fn).mpr (by
            rcases hfar n hn with ⟨j, a, b, -, -⟩ | ⟨-, b⟩
            · exact absurd (b.symm.trans h33) (nI_z (by omega))
            · exact b)⟩
          refine j_aload_n (pc := 36) dX1_loseStuck_36 rfl ?_
          refine j_iload_n (pc := 37) dX1_loseStuck_37 rfl ?_
          refine j_iconst (pc := 38) dX1_loseStuck_38 (v := 3) (by decide) ?_
          refine j_bipush (pc := 39) dX1_loseStuck_39 (v := (-9)) (by decide) ?_
          refine j_bipush (pc := 41) dX1_loseStuck_41 (v := (-9)) (by decide) ?_
          refine j_callVv (pc := 43) dX1_loseStuck_43 k_X1_68 (c_X1_lose (by omega) (hk n hn h09) _ _ _ (hF.2.2.trans hw)) (by first | rfl | with_reducible assumption) rfl rfl (by decide) rfl (Nat.le_of_ble_eq_true rfl) (fun σ1 hp => ?_)
          obtain rfl := hp
          obtain ⟨hX2, hF2⟩ := hX.lose (k := k) hJ hn (hk n hn h09) h09 (re := 3) (ev := -9) (ca := -9) (by simp only [stuckT, if_pos hc]) (by simp only [stuckT, if_pos hc]) (by simp only [stuckT, if_pos hc]) (by simp only [caT, stuckT, if_pos hc]; exact if_neg (by decide))
          refine j_iinc1 (pc := 46) dX1_loseStuck_46 rfl ?_
          refine j_goto (pc := 49) (tgt := 10) dX1_loseStuck_49 rfl ?_
          rw [nI_1]
          first
            | exact ih (n + 1) _ (by omega) hF hfar hst
            | exact ih (n + 1) _ (by omega) (hF.tr hF2.S) (fun i hi => by have := hfar i hi; rw [← hF2.1 32 (by decide)] at this; exact this) hX2
  refine EV.intro (by decide +kernel) (Nat.le_of_ble_eq_true rfl) ?_
  refine j_aload_n (pc := 0) dX1_loseStuck_0 rfl ?_
  refine j_aload_n (pc := 1) dX1_loseStuck_1 rfl ?_
  refine j_getR (pc := 2) dX1_loseStuck_2 f_X1_9 (by first | rfl | with_reducible assumption) (by rfl) ?_
  refine j_callVNv (pc := 5) dX1_loseStuck_5 k_X1_93 (c_X3_measure isN_net (la := 47) rfl (by decide) hN.1) (by first | rfl | with_reducible assumption) rfl rfl (by decide) rfl (Nat.le_of_ble_eq_true rfl) (fun σ1 hp => ?_)
  obtain ⟨hQ, -, hfar⟩ := hp
  refine j_iconst (pc := 8) dX1_loseStuck_8 (v := 0) (by decide) ?_
  refine j_istore_n (pc := 9) dX1_loseStuck_9 (by decide) ?_
  refine loop J 0 σ1 (by omega) ⟨fun x a b c _ => hQ.1 x a b c, hQ.2, by rw [hQ.1 46 (by decide) (by decide) (by decide)]⟩ (fun n hn => (hfar n hn).cong hal) (LIX.start ?_)
  unfold LIT LI
  rw [hQ.1 46 (by decide) (by decide) (by decide), hQ.1 47 (by decide) (by decide) (by decide), hQ.1 48 (by decide) (by decide) (by decide), hQ.1 49 (by decide) (by decide) (by decide), hQ.1 50 (by decide) (by decide) (by decide), hQ.1 51 (by decide) (by decide) (by decide)]
  exact hL
/-- sift: nothing, where all is OVER; else the waves to their end, and how far each KEPT JOINT is from a FINISHED one -/
def siftP (σ : Mm) (J : Nat) (tg : Nat → Int32) (fn : Nat → Bool) (cl : Nat → Nat → Bool) (fr : Nat → Bool) : Int32 → Mm → Prop := fun _ σ' =>
  (∀ x, x ≠ 23 → x ≠ 32 → x ≠ 33 → (x < 46 ∨ 51 < x) → σ' x = σ x) ∧ (∀ k, k ≠ 10 → σ' 23 k = σ 23 k) ∧
  ((σ 23 14 = 1 ∧ σ' 46 5 = 0 ∧ σ' 46 6 = 0 ∧ ∀ n, n < 150 → σ' 47 n = -9) ∨
   (σ 23 14 = 0 ∧ ∃ k, k ≤ 150 ∧ lossK J tg fn cl fr k ∧ σ' 46 5 = nI (k + 1) ∧ LIT σ' J tg (lts J tg fn cl fr k) ∧ ∀ n, n < J → isFar J tg fn (fun n => decide ((lts J tg fn cl fr k).1 n = -9)) n (σ' 32 n)))
theorem cntF_0 (N : Nat) : cntF (fun _ => -9) N = 0 := by
  unfold cntF
  simp
theorem cntW_0 (i N : Nat) (hi : i < 2 ^ 31) : cntW (fun _ => -9) i N = 0 := by
  unfold cntW
  rw [List.length_eq_zero_iff, List.filter_eq_nil_iff]
  intro a _
  have : ¬ (-9 : Int32) = nI i := fun e => nI_z hi e.symm
  simp [this]
theorem c_X1_sift {σ : Mm} {J : Nat} {tg : Nat → Int32} {fn : Nat → Bool} {cl : Nat → Nat → Bool} (hN : σ 23 14 = 1 ∨ (σ 23 14 = 0 ∧ NL σ J tg fn cl)) (fs : Int32) :
    EV Γ1 4 yX1_sift cX1_sift 5 none [.inr 46, .inr 23, .inl fs] σ (siftP σ J tg fn cl (fun e => bt fs e)) := by
  have loop : NL σ J tg fn cl → σ 23 14 = 0 → ∀ (q k : Nat) (σ' : Mm) (y : Option Vl), k + q = 151 → (∀ x, x ≠ 23 → x ≠ 32 → x ≠ 33 → (x < 46 ∨ 51 < x) → σ' x = σ x) → (∀ j, j ≠ 10 → σ' 23 j = σ 23 j) → σ' 46 5 = nI (k + 1) → NL σ' J tg fn cl → LIT σ' J tg (lts J tg fn cl (fun e => bt fs e) k) → (∀ i, i < k → lstep J tg fn (fun e => bt fs e) (lts J tg fn cl (fun e => bt fs e) i) (i + 1) ≠ none) →
      AJ Γ1 4 RX1 cX1_sift 5 none (siftP σ J tg fn cl (fun e => bt fs e)) 48 [some (.inr 46), some (.inr 23), some (.inl fs), some (.inl (nI k)), y] [] σ' := by
    intro hN h14 q
    have hJ := hN.1.1
    induction q with
    | zero =>
      intro k σ' y hk f1 f2 hw hN' hL hst
      have := lts_cnt hJ hst
      have := cnt_le (lts J tg fn cl (fun e => bt fs e) k).1 J
      omega
    | succ q ih =>
      intro k σ' y hk f1 f2 hw hN' hL hst
      have c1 := lts_cnt hJ hst
      have c2 := cnt_le (lts J tg fn cl (fun e => bt fs e) k).1 J
      have hk151 : ∀ n, n < J → (lts J tg fn cl (fun e => bt fs e) k).1 n = -9 → k + 1 < 151 := fun n hn h9 => by
        have := cnt_lt h9 J hn
        omega
      have hwv : ∀ n, n < J → (lts J tg fn cl (fun e => bt fs e) k).1 n = -9 ∨ ∃ i, i < k + 1 ∧ (lts J tg fn cl (fun e => bt fs e) k).1 n = nI i := fun n _ => by
        rcases lts_w (J := J) (tg := tg) (fn := fn) (cl := cl) (fr := fun e => bt fs e) k n with a | ⟨i, a, b⟩
        · exact Or.inl a
        · exact Or.inr ⟨i, by omega, b⟩
      -- behind a wave
      have next : ∀ (σ2 : Mm) (y : Option Vl), FrS σ' σ2 → LIT σ2 J tg (lts J tg fn cl (fun e => bt fs e) (k + 1)) → lstep J tg fn (fun e => bt fs e) (lts J tg fn cl (fun e => bt fs e) k) (k + 1) ≠ none → AJ Γ1 4 RX1 cX1_sift 5 none (siftP σ J tg fn cl (fun e => bt fs e)) 93 [some (.inr 46), some (.inr 23), some (.inl fs), some (.inl (nI k)), y] [] σ2 := by
        intro σ2 y hF2 hL2 hne
        have hw2 : σ2 46 5 = nI (k + 1) := hF2.2.2.trans hw
        refine j_aload_n (pc := 93) dX1_sift_93 rfl ?_
        refine j_dup (pc := 94) dX1_sift_94 ?_
        refine j_getI (pc := 95) dX1_sift_95 f_X1_27 (by first | rfl | with_reducible assumption) (by rfl) ?_
        refine j_iconst (pc := 98) dX1_sift_98 (v := 1) (by decide) ?_
        refine j_iadd (pc := 99) dX1_sift_99 ?_
        refine j_put (pc := 100) dX1_sift_100 f_X1_27 (by first | rfl | with_reducible assumption) (by rfl) ?_
        refine j_iinc1 (pc := 103) dX1_sift_103 rfl ?_
        refine j_goto (pc := 106) (tgt := 48) dX1_sift_106 rfl ?_
        rw [nI_1, hw2, nI_1]
        refine ih (k + 1) _ _ (by omega) (fun x a b c e => ?_) (fun j hj => ?_) (m_eq _ _ _ _) ?_ ?_ (fun i hi => ?_)
        · rw [m_ne (by omega)]; exact (hF2.1 x a b c e).trans (f1 x a b c e)
        · rw [m_ne (by decide)]; exact (hF2.2.1 j hj).trans (f2 j hj)
        · have hN2 := hN'.frS hF2
          unfold NL NM at hN2 ⊢
          simp only [m_ne (show 23 ≠ 46 by decide), m_ne (show 23 + 4 ≠ 46 by decide), m_ne (show 23 + 7 ≠ 46 by decide), m_ne (show 23 + 6 ≠ 46 by decide), m_ne (show 28 ≠ 46 by decide), m_ne (show 25 ≠ 46 by decide), m_ne (show 26 ≠ 46 by decide)]
          exact hN2
        · unfold LIT LI at hL2 ⊢
          simp only [m_ne (show 47 ≠ 46 by decide), m_ne (show 48 ≠ 46 by decide), m_ne (show 49 ≠ 46 by decide), m_ne (show 50 ≠ 46 by decide), m_ne (show 51 ≠ 46 by decide), m_nk (show 6 ≠ 5 by decide)]
          exact hL2
        · by_cases z : i = k
          · subst z; exact hne
          · exact hst i (by omega)
      refine j_iload_n (pc := 48) dX1_sift_48 rfl ?_
      refine j_sipush (pc := 49) dX1_sift_49 (v := 151) (by decide) ?_
      refine j_icmp_ge (pc := 52) (tgt := 109) dX1_sift_52 rfl (fun h52 => absurd h52 (nI_ge (b := 151) (by omega) (by decide))) (fun h52 => ?_)
      refine j_aload_n (pc := 55) dX1_sift_55 rfl ?_
      refine j_getI (pc := 56) dX1_sift_56 f_X1_31 (by first | rfl | with_reducible assumption) (by rfl) ?_
      refine j_top hL.2.2.1 ?_
      refine j_istore (pc := 59) dX1_sift_59 (by decide) ?_
      refine j_aload_n (pc := 61) dX1_sift_61 rfl ?_
      refine j_aload_n (pc := 62) dX1_sift_62 rfl ?_
      refine j_iload_n (pc := 63) dX1_sift_63 rfl ?_
      refine j_callVv (pc := 64) dX1_sift_64 k_X1_50 (c_X1_losePushed hN' fs hw (by omega) hL hk151 hwv) (by first | rfl | with_reducible assumption) rfl rfl (by decide) rfl (Nat.le_of_ble_eq_true rfl) (fun σ1 hp => ?_)
      obtain ⟨hF1, hL1⟩ := hp
      have cP1 := cnt_le (pushT J tg (fun e => bt fs e) (lts J tg fn cl (fun e => bt fs e) k) (k + 1)).1 J
      refine j_aload_n (pc := 67) dX1_sift_67 rfl ?_
      refine j_getI (pc := 68) dX1_sift_68 f_X1_31 (by first | rfl | with_reducible assumption) (by rfl) ?_
      refine j_top hL1.2.2.1 ?_
      refine j_iload (pc := 71) dX1_sift_71 rfl ?_
      refine j_icmp_ne (pc := 73) (tgt := 81) dX1_sift_73 rfl (fun h73 => ?_) (fun h73 => ?_)
      · have hP : anyP J tg (fun e => bt fs e) (lts J tg fn cl (fun e => bt fs e) k) := Classical.byContradiction fun z => h73 (by
          rw [cnt_same J (fun n hn => ?_)]
          simp only [pushT]
          rw [if_neg (fun y => z ⟨n, hn, y⟩)])
        rw [← lts_P hP] at hL1
        have hne : cntF (lts J tg fn cl (fun e => bt fs e) (k + 1)).1 J ≠ cntF (lts J tg fn cl (fun e => bt fs e) k).1 J := fun z => h73 (by rw [← lts_P hP, z])
        refine j_aload_n (pc := 81) dX1_sift_81 rfl ?_
        refine j_getI (pc := 82) dX1_sift_82 f_X1_31 (by first | rfl | with_reducible assumption) (by rfl) ?_
        first | refine j_top hL1.2.2.1 ?_ | refine j_top hL2.2.2.1 ?_
        refine j_iload (pc := 85) dX1_sift_85 rfl ?_
        refine j_icmp_ne (pc := 87) (tgt := 93) dX1_sift_87 rfl (fun h87 => ?_) (fun h87 => ?_)
        · first
            | exact next _ _ hF1.S hL1 (by rw [lstep_P hP]; exact fun z => by cases z)
            | (have hS : anyS J tg fn (lts J tg fn cl (fun e => bt fs e) k) := Classical.byContradiction fun z => h87 (by
                 rw [cnt_same J (fun n hn => ?_)]
                 simp only [stuckT]
                 rw [if_neg (fun y => z ⟨n, hn, y⟩)])
               rw [← lts_S hP hS] at hL2
               exact next _ _ (hF1.S.tr hF2) hL2 (by rw [lstep_S hP hS]; exact fun z => by cases z))
        · refine j_goto (pc := 90) (tgt := 109) dX1_sift_90 rfl ?_
          refine j_vret (pc := 109) dX1_sift_109 ?_
          first
            | exact absurd ((nI_eq (by have := cnt_le (lts J tg fn cl (fun e => bt fs e) (k + 1)).1 J; omega) (by omega)).mp h87) hne
            | (have hS : ¬ anyS J tg fn (lts J tg fn cl (fun e => bt fs e) k) := fun z => by
                 have h87' := (nI_eq (by omega) (by omega)).mp h87
                 obtain ⟨n, z1, z2, z3⟩ := z
                 have := cnt_more (w := (lts J tg fn cl (fun e => bt fs e) k).1) (w' := (stuckT J tg fn (lts J tg fn cl (fun e => bt fs e) k) (k + 1)).1) J (fun n _ q => stuckT_grow (by omega) q) ⟨n, z1, z2, by
                   simp only [stuckT]
                   rw [if_pos ⟨z2, z3⟩]
                   exact nI_z (by omega)⟩
                 omega
               have hFF := hF1.S.tr hF2
               refine ⟨fun x a b c e => (hFF.1 x a b c e).trans (f1 x a b c e), fun j hj => (hFF.2.1 j hj).trans (f2 j hj), Or.inr ⟨h14, k, by omega, ⟨hst, lstep_N hP hS⟩, hFF.2.2.trans hw, LI.cong hL2 (fun n hn => ?_), hfar⟩⟩
               have hc : ¬ ((lts J tg fn cl (fun e => bt fs e) k).1 n = -9 ∧ stkB J tg fn (lts J tg fn cl (fun e => bt fs e) k).1 n = true) := fun y => hS ⟨n, hn, y⟩
               have e2 : (stuckT J tg fn (lts J tg fn cl (fun e => bt fs e) k) (k + 1)).2.1 n = (lts J tg fn cl (fun e => bt fs e) k).2.1 n := by simp only [stuckT, if_neg hc]
               have e3 : (stuckT J tg fn (lts J tg fn cl (fun e => bt fs e) k) (k + 1)).2.2 n = (lts J tg fn cl (fun e => bt fs e) k).2.2 n := by simp only [stuckT, if_neg hc]
               exact ⟨by simp only [stuckT, if_neg hc], fun _ => ⟨e2, e3, by unfold caT; rw [e2, e3]⟩⟩)
      · have hP : ¬ anyP J tg (fun e => bt fs e) (lts J tg fn cl (fun e => bt fs e) k) := fun z => by
          have h73' := (nI_eq (by omega) (by omega)).mp h73
          obtain ⟨n, z1, z2, z3⟩ := z
          have := cnt_more (w := (lts J tg fn cl (fun e => bt fs e) k).1) (w' := (pushT J tg (fun e => bt fs e) (lts J tg fn cl (fun e => bt fs e) k) (k + 1)).1) J (fun n _ q => pushT_grow (by omega) q) ⟨n, z1, z2, by
            simp only [pushT]
            rw [if_pos ⟨z2, z3⟩]
            exact nI_z (by omega)⟩
          omega
        have hLs : LIT σ1 J tg (lts J tg fn cl (fun e => bt fs e) k) := LI.cong hL1 (fun n hn => by
          have hc : ¬ ((lts J tg fn cl (fun e => bt fs e) k).1 n = -9 ∧ puE J tg (fun e => bt fs e) (lts J tg fn cl (fun e => bt fs e) k).1 n ≠ -9) := fun y => hP ⟨n, hn, y⟩
          have e2 : (pushT J tg (fun e => bt fs e) (lts J tg fn cl (fun e => bt fs e) k) (k + 1)).2.1 n = (lts J tg fn cl (fun e => bt fs e) k).2.1 n := by simp only [pushT, if_neg hc]
          have e3 : (pushT J tg (fun e => bt fs e) (lts J tg fn cl (fun e => bt fs e) k) (k + 1)).2.2 n = (lts J tg fn cl (fun e => bt fs e) k).2.2 n := by simp only [pushT, if_neg hc]
          exact ⟨by simp only [pushT, if_neg hc], fun _ => ⟨e2, e3, by unfold caT; rw [e2, e3]⟩⟩)
        refine j_aload_n (pc := 76) dX1_sift_76 rfl ?_
        refine j_aload_n (pc := 77) dX1_sift_77 rfl ?_
        refine j_callVv (pc := 78) dX1_sift_78 k_X1_53 (c_X1_loseStuck (hN'.fr hF1) (hF1.2.trans hw) hLs hk151) (by first | rfl | with_reducible assumption) rfl rfl (by decide) rfl (Nat.le_of_ble_eq_true rfl) (fun σ1 hp => ?_)
        obtain ⟨hF2, hL2, hfar⟩ := hp
        have cS1 := cnt_le (stuckT J tg fn (lts J tg fn cl (fun e => bt fs e) k) (k + 1)).1 J
        refine j_aload_n (pc := 81) dX1_sift_81 rfl ?_
        refine j_getI (pc := 82) dX1_sift_82 f_X1_31 (by first | rfl | with_reducible assumption) (by rfl) ?_
        first | refine j_top hL1.2.2.1 ?_ | refine j_top hL2.2.2.1 ?_
        refine j_iload (pc := 85) dX1_sift_85 rfl ?_
        refine j_icmp_ne (pc := 87) (tgt := 93) dX1_sift_87 rfl (fun h87 => ?_) (fun h87 => ?_)
        · first
            | exact next _ _ hF1.S hL1 (by rw [lstep_P hP]; exact fun z => by cases z)
            | (have hS : anyS J tg fn (lts J tg fn cl (fun e => bt fs e) k) := Classical.byContradiction fun z => h87 (by
                 rw [cnt_same J (fun n hn => ?_)]
                 simp only [stuckT]
                 rw [if_neg (fun y => z ⟨n, hn, y⟩)])
               rw [← lts_S hP hS] at hL2
               exact next _ _ (hF1.S.tr hF2) hL2 (by rw [lstep_S hP hS]; exact fun z => by cases z))
        · refine j_goto (pc := 90) (tgt := 109) dX1_sift_90 rfl ?_
          refine j_vret (pc := 109) dX1_sift_109 ?_
          first
            | exact absurd ((nI_eq (by have := cnt_le (lts J tg fn cl (fun e => bt fs e) (k + 1)).1 J; omega) (by omega)).mp h87) hne
            | (have hS : ¬ anyS J tg fn (lts J tg fn cl (fun e => bt fs e) k) := fun z => by
                 have h87' := (nI_eq (by omega) (by omega)).mp h87
                 obtain ⟨n, z1, z2, z3⟩ := z
                 have := cnt_more (w := (lts J tg fn cl (fun e => bt fs e) k).1) (w' := (stuckT J tg fn (lts J tg fn cl (fun e => bt fs e) k) (k + 1)).1) J (fun n _ q => stuckT_grow (by omega) q) ⟨n, z1, z2, by
                   simp only [stuckT]
                   rw [if_pos ⟨z2, z3⟩]
                   exact nI_z (by omega)⟩
                 omega
               have hFF := hF1.S.tr hF2
               refine ⟨fun x a b c e => (hFF.1 x a b c e).trans (f1 x a b c e), fun j hj => (hFF.2.1 j hj).trans (f2 j hj), Or.inr ⟨h14, k, by omega, ⟨hst, lstep_N hP hS⟩, hFF.2.2.trans hw, LI.cong hL2 (fun n hn => ?_), hfar⟩⟩
               have hc : ¬ ((lts J tg fn cl (fun e => bt fs e) k).1 n = -9 ∧ stkB J tg fn (lts J tg fn cl (fun e => bt fs e) k).1 n = true) := fun y => hS ⟨n, hn, y⟩
               have e2 : (stuckT J tg fn (lts J tg fn cl (fun e => bt fs e) k) (k + 1)).2.1 n = (lts J tg fn cl (fun e => bt fs e) k).2.1 n := by simp only [stuckT, if_neg hc]
               have e3 : (stuckT J tg fn (lts J tg fn cl (fun e => bt fs e) k) (k + 1)).2.2 n = (lts J tg fn cl (fun e => bt fs e) k).2.2 n := by simp only [stuckT, if_neg hc]
               exact ⟨by simp only [stuckT, if_neg hc], fun _ => ⟨e2, e3, by unfold caT; rw [e2, e3]⟩⟩)
  have ai : ∀ x, x ≠ 46 → x ≠ 47 → x ≠ 51 → m_up (m_up (m_fill (m_fill σ 47 150 (-9)) 51 151 0) 46 5 0) 46 6 0 x = σ x := fun x a b c => by rw [m_ne a, m_ne a]; simp [m_fill, b, c]
  have a47 : ∀ n, n < 150 → m_up (m_up (m_fill (m_fill σ 47 150 (-9)) 51 151 0) 46 5 0) 46 6 0 47 n = -9 := fun n hn => by rw [m_ne (by decide), m_ne (by decide)]; simp [m_fill, hn]
  have a51 : ∀ n, n < 151 → m_up (m_up (m_fill (m_fill σ 47 150 (-9)) 51 151 0) 46 5 0) 46 6 0 51 n = 0 := fun n hn => by rw [m_ne (by decide), m_ne (by decide)]; simp [m_fill, hn]
  generalize hσi : m_up (m_up (m_fill (m_fill σ 47 150 (-9)) 51 151 0) 46 5 0) 46 6 0 = σi at ai a47 a51
  have a5 : σi 46 5 = 0 := by rw [← hσi, m_nk (by decide), m_eq]
  have a6 : σi 46 6 = 0 := by rw [← hσi, m_eq]
  refine EV.intro (by decide +kernel) (Nat.le_of_ble_eq_true rfl) ?_
  refine j_aload_n (pc := 0) dX1_sift_0 rfl ?_
  refine j_getR (pc := 1) dX1_sift_1 f_X1_9 (by first | rfl | with_reducible assumption) (by rfl) ?_
  refine j_bipush (pc := 4) dX1_sift_4 (v := (-9)) (by decide) ?_
  refine j_callSv (pc := 6) dX1_sift_6 k_X1_34 (c_fill (by first | rfl | assumption) (by decide) _ _) rfl (by decide) rfl (Nat.le_of_ble_eq_true rfl) (fun σ1 hp => ?_)
  obtain rfl := hp
  refine j_aload_n (pc := 9) dX1_sift_9 rfl ?_
  refine j_getR (pc := 10) dX1_sift_10 f_X1_24 (by first | rfl | with_reducible assumption) (by rfl) ?_
  refine j_iconst (pc := 13) dX1_sift_13 (v := 0) (by decide) ?_
  refine j_callSv (pc := 14) dX1_sift_14 k_X1_34 (c_fill (by first | rfl | assumption) (by decide) _ _) rfl (by decide) rfl (Nat.le_of_ble_eq_true rfl) (fun σ1 hp => ?_)
  obtain rfl := hp
  refine j_aload_n (pc := 17) dX1_sift_17 rfl ?_
  refine j_iconst (pc := 18) dX1_sift_18 (v := 0) (by decide) ?_
  refine j_put (pc := 19) dX1_sift_19 f_X1_27 (by first | rfl | with_reducible assumption) (by rfl) ?_
  refine j_aload_n (pc := 22) dX1_sift_22 rfl ?_
  refine j_iconst (pc := 23) dX1_sift_23 (v := 0) (by decide) ?_
  refine j_put (pc := 24) dX1_sift_24 f_X1_31 (by first | rfl | with_reducible assumption) (by rfl) ?_
  rw [hσi]
  refine j_aload_n (pc := 27) dX1_sift_27 rfl ?_
  refine j_getI (pc := 28) dX1_sift_28 f_X1_40 (by first | rfl | with_reducible assumption) (by rfl) ?_
  refine j_top (y := σ 23 14) (by rw [ai 23 (by decide) (by decide) (by decide)]) ?_
  refine j_if_eq (pc := 31) (tgt := 35) dX1_sift_31 rfl (fun h31 => ?_) (fun h31 => ?_)
  · have hN0 : NL σ J tg fn cl := by
      rcases hN with q | ⟨-, q⟩
      · rw [q] at h31; exact absurd h31 (by decide)
      · exact q
    have hNi : NL σi J tg fn cl := by
      unfold NL NM at hN0 ⊢
      rw [ai 23 (by decide) (by decide) (by decide), ai (23 + 4) (by decide) (by decide) (by decide), ai (23 + 7) (by decide) (by decide) (by decide), ai (23 + 6) (by decide) (by decide) (by decide), ai 28 (by decide) (by decide) (by decide), ai 25 (by decide) (by decide) (by decide), ai 26 (by decide) (by decide) (by decide)]
      exact hN0
    have hJ := hN0.1.1
    refine j_aload_n (pc := 35) dX1_sift_35 rfl ?_
    refine j_aload_n (pc := 36) dX1_sift_36 rfl ?_
    refine j_iload_n (pc := 37) dX1_sift_37 rfl ?_
    refine j_callVv (pc := 38) dX1_sift_38 k_X1_46 (c_X1_loseClashing hNi fs a5 ⟨fun n hn => ⟨a47 n (by omega), fun q => absurd rfl q⟩, fun n _ hn => a47 n hn, by rw [cntF_0]; exact a6, fun i hi => by rw [cntW_0 i J (by omega)]; exact a51 i hi⟩) (by first | rfl | with_reducible assumption) rfl rfl (by decide) rfl (Nat.le_of_ble_eq_true rfl) (fun σ1 hp => ?_)
    obtain ⟨hF1, hL1⟩ := hp
    refine j_aload_n (pc := 41) dX1_sift_41 rfl ?_
    refine j_iconst (pc := 42) dX1_sift_42 (v := 1) (by decide) ?_
    refine j_put (pc := 43) dX1_sift_43 f_X1_27 (by first | rfl | with_reducible assumption) (by rfl) ?_
    refine j_iconst (pc := 46) dX1_sift_46 (v := 0) (by decide) ?_
    refine j_istore_n (pc := 47) dX1_sift_47 (by decide) ?_
    refine loop hN0 h31 151 0 _ none rfl (fun x a b c e => ?_) (fun j hj => ?_) (m_eq _ _ _ _) ?_ ?_ (fun i hi => absurd hi (Nat.not_lt_zero _))
    · rw [m_ne (by omega)]; exact (hF1.1 x e).trans (ai x (by omega) (by omega) (by omega))
    · rw [m_ne (by decide), hF1.1 23 (by decide), ai 23 (by decide) (by decide) (by decide)]
    · have hN2 := hNi.fr hF1
      unfold NL NM at hN2 ⊢
      simp only [m_ne (show 23 ≠ 46 by decide), m_ne (show 23 + 4 ≠ 46 by decide), m_ne (show 23 + 7 ≠ 46 by decide), m_ne (show 23 + 6 ≠ 46 by decide), m_ne (show 28 ≠ 46 by decide), m_ne (show 25 ≠ 46 by decide), m_ne (show 26 ≠ 46 by decide)]
      exact hN2
    · have hL2 : LI (m_up σ1 46 5 1) J (lts J tg fn cl (fun e => bt fs e) 0).1 (fun _ => 1) (clE cl (fun e => bt fs e)) (fun _ => -9) := by
        unfold LI at hL1 ⊢
        simp only [m_ne (show 47 ≠ 46 by decide), m_ne (show 48 ≠ 46 by decide), m_ne (show 49 ≠ 46 by decide), m_ne (show 50 ≠ 46 by decide), m_ne (show 51 ≠ 46 by decide), m_nk (show 6 ≠ 5 by decide)]
        exact hL1
      exact LI.cong hL2 (fun n hn => ⟨rfl, fun _ => ⟨rfl, rfl, (if_neg (show ¬ (1 : Int32) = 2 by decide)).symm⟩⟩)
  · refine j_vret (pc := 34) dX1_sift_34 ?_
    have h1 : σ 23 14 = 1 := by
      rcases hN with q | ⟨q, -⟩
      · exact q
      · exact absurd q h31
    exact ⟨fun x a b c e => ai x (by omega) (by omega) (by omega), fun j hj => by rw [ai 23 (by decide) (by decide) (by decide)], Or.inl ⟨h1, a5, a6, a47⟩⟩
