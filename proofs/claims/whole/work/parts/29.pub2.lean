/-! LEASTBARS: machine, drop, free, anew -/
def updA {α : Type} (f : Nat → α) (k : Nat) (x : α) : Nat → α := fun j => if j = k then x else f j
theorem updA_s {α : Type} {f : Nat → α} {k : Nat} {x : α} : updA f k x k = x := by simp [updA]
theorem updA_n {α : Type} {f : Nat → α} {k j : Nat} {x : α} (h : j ≠ k) : updA f k x j = f j := by simp [updA, h]
theorem D1.jn {σ : Mm} {T : Tab} {set fs : Int32} (h : D1 σ T set fs) : JN σ T set := by
  rcases h with h | h
  · exact Or.inl ⟨h.1, h.2.1, h.2.2.1⟩
  · exact Or.inr ⟨h.1, h.2.1⟩
theorem JN.cells {σ σ' : Mm} {T : Tab} {set : Int32} (h : JN σ T set) (h1 : ∀ x, 23 ≤ x → x ≤ 30 → σ' x = σ x) : JN σ' T set := by
  rcases h with h | ⟨a, b⟩
  · left; rw [h1 23 (by decide) (by decide)]; exact h
  · exact Or.inr ⟨a, b.cells' (fun x p q => h1 x p (by omega))⟩
theorem R1b.cells {σ σ' : Mm} {n : Nat} {t : Nat → Int32} {N : Nat} {K : Nat → Int32} {M : Nat → MV} (h : R1b σ n t N K M) (h0 : σ' 0 9 = σ 0 9) (h1 : ∀ x, 0 < x → x < 5 + 3 * N → x ≠ 3 → x ≠ 4 → σ' x = σ x) : R1b σ' n t N K M := by
  obtain ⟨a1, a2, a3, a4, a5, a6⟩ := h
  refine ⟨by rw [h1 1 (by decide) (by omega) (by decide) (by decide)]; exact a1, a2, by rw [h1 2 (by decide) (by omega) (by decide) (by decide)]; exact a3, by rw [h0]; exact a4, a5, fun m hm => ?_⟩
  unfold HM
  rw [h1 (5 + 3 * m) (by omega) (by omega) (by omega) (by omega), h1 (5 + 3 * m + 1) (by omega) (by omega) (by omega) (by omega), h1 (5 + 3 * m + 2) (by omega) (by omega) (by omega) (by omega)]
  exact a6 m hm
/-- behind joinAnew and controlAnew -/
theorem R1.renew {σ0 σ1 σ2 : Mm} {n : Nat} {t : Nat → Int32} {N : Nat} {K : Nat → Int32} {M : Nat → MV} (hb : R1b σ0 n t N K M) (h45 : ∀ i, i < 150 → σ0 45 i = -9) (a1 : ∀ x, x ≠ 0 → (x < 23 ∨ 31 < x) → σ1 x = σ0 x) (a2 : ∀ k, k ≠ 11 → σ1 0 k = σ0 0 k) (a3 : σ1 0 11 = -9) (b1 : ∀ x, (x < 23 ∨ (33 < x ∧ x < 46)) → σ2 x = σ1 x) (b2 : D1 σ2 (TA N K M) (allS N) (σ1 0 10)) (b3 : σ2 57 1 = 0) (b4 : σ2 57 2 = 0) (b5 : σ2 57 3 = 0) : R1 σ2 n t N K M (σ0 0 10) [] 0 := by
  have h6 := hb.2.2.2.2.1
  refine ⟨hb.cells (by rw [b1 0 (by decide), a2 9 (by decide)]) (fun x p q _ _ => by rw [b1 x (by omega), a1 x (by omega) (by omega)]), by rw [b1 0 (by decide), a2 10 (by decide)], by rw [← a2 10 (by decide)]; exact b2, Or.inl (by rw [b1 0 (by decide)]; exact a3), fun i hi => by rw [b1 45 (by decide), a1 45 (by decide) (by decide)]; exact h45 i hi, b5, by simp, b4, 0, by decide, b3, fun i hi => absurd hi (by simp)⟩
theorem c_X7_drop {σ : Mm} {n : Nat} {t : Nat → Int32} {N : Nat} {K : Nat → Int32} {M : Nat → MV} {fs : Int32} {h : List Int32} {pl : Int32} (q : R1 σ n t N K M fs h pl) : EV Γ1 6 yX7_drop cX7_drop 1 (some .int) [.inr 0] σ (fun r σ' => (N = 0 ∧ r = -3 ∧ σ = σ') ∨ ∃ N', N = N' + 1 ∧ r = nI N' ∧ R1 σ' n t N' K M fs [] 0) := by
  obtain ⟨hb, hfs, hD, hP, h45, hTr⟩ := q
  have hN := hb.2.2.2.1
  have h6 := hb.2.2.2.2.1
  have pre : ∀ N', N = N' + 1 → R1b (m_up σ 0 9 (nI N')) n t N' K M := by
    intro N' hNN
    subst hNN
    obtain ⟨a1, a2, a3, a4, a5, a6⟩ := hb
    refine ⟨by rw [m_ne (by decide)]; exact a1, a2, by rw [m_ne (by decide)]; exact a3, m_eq _ _ _ _, by omega, fun m hm => ?_⟩
    unfold HM
    rw [m_ne (by omega), m_ne (by omega), m_ne (by omega)]
    exact a6 m (by omega)
  refine EV.intro (by decide +kernel) (Nat.le_of_ble_eq_true rfl) ?_
  refine j_aload_n (pc := 0) dX7_drop_0 rfl ?_
  refine j_getI (pc := 1) dX7_drop_1 f_X7_71 (by first | rfl | with_reducible assumption) (by rfl) ?_
  refine j_top hN ?_
  refine j_if_ne (pc := 4) (tgt := 10) dX7_drop_4 rfl (fun h4 => ?_) (fun h4 => ?_)
  · obtain ⟨N', rfl⟩ : ∃ N', N = N' + 1 := ⟨N - 1, by
      have : N ≠ 0 := fun z => h4 (by rw [z]; rfl)
      omega⟩
    refine j_aload_n (pc := 10) dX7_drop_10 rfl ?_
    refine j_dup (pc := 11) dX7_drop_11 ?_
    refine j_getI (pc := 12) dX7_drop_12 f_X7_71 (by first | rfl | with_reducible assumption) (by rfl) ?_
    refine j_iconst (pc := 15) dX7_drop_15 (v := 1) (by decide) ?_
    refine j_isub (pc := 16) dX7_drop_16 ?_
    refine j_top (y := nI N') (by rw [hN]; exact nI_pred N') ?_
    refine j_put (pc := 17) dX7_drop_17 f_X7_71 (by first | rfl | with_reducible assumption) (by rfl) ?_
    refine j_aload_n (pc := 20) dX7_drop_20 rfl ?_
    refine j_callVv (pc := 21) dX7_drop_21 k_X7_81 (c_X7_joinAnew (pre N' rfl)) (by first | rfl | with_reducible assumption) rfl rfl (by decide) rfl (Nat.le_of_ble_eq_true rfl) (fun σ1 hp => ?_)
    obtain ⟨a1, a2, a3, a4⟩ := hp
    refine j_aload_n (pc := 24) dX7_drop_24 rfl ?_
    refine j_callVv (pc := 25) dX7_drop_25 k_X7_84 (c_X7_controlAnew a4) (by first | rfl | with_reducible assumption) rfl rfl (by decide) rfl (Nat.le_of_ble_eq_true rfl) (fun σ2 hp => ?_)
    obtain ⟨b1, b2, b3, b4, b5⟩ := hp
    have hR := R1.renew (pre N' rfl) (fun i hi => by rw [m_ne (by decide)]; exact h45 i hi) a1 a2 a3 b1 b2 b3 b4 b5
    rw [m_nk (by decide), hfs] at hR
    refine j_aload_n (pc := 28) dX7_drop_28 rfl ?_
    refine j_getI (pc := 29) dX7_drop_29 f_X7_71 (by first | rfl | with_reducible assumption) (by rfl) ?_
    refine j_iret (pc := 32) dX7_drop_32 ?_
    exact Or.inr ⟨N', rfl, hR.1.2.2.2.1, hR⟩
  · refine j_bipush (pc := 7) dX7_drop_7 (v := (-3)) (by decide) ?_
    refine j_iret (pc := 9) dX7_drop_9 ?_
    exact Or.inl ⟨(nI_eq (b := 0) (by omega) (by decide)).mp h4, rfl, rfl⟩
theorem c_X7_anew {σ : Mm} {n : Nat} {t : Nat → Int32} {N : Nat} {K : Nat → Int32} {M : Nat → MV} {fs : Int32} {h : List Int32} {pl : Int32} (q : R1 σ n t N K M fs h pl) : EV Γ1 6 yX7_anew cX7_anew 2 (some .int) [.inr 0] σ (fun r σ' => r = nI N ∧ R1 σ' n t 0 K M 0 [] 0) := by
  obtain ⟨hb, hfs, hD, hP, h45, hTr⟩ := q
  have pre : R1b (m_up (m_up σ 0 9 0) 0 10 0) n t 0 K M := by
    obtain ⟨a1, a2, a3, a4, a5, a6⟩ := hb
    exact ⟨by rw [m_ne (by decide), m_ne (by decide)]; exact a1, a2, by rw [m_ne (by decide), m_ne (by decide)]; exact a3, by rw [m_nk (by decide), m_eq]; rfl, by decide, fun m hm => absurd hm (Nat.not_lt_zero _)⟩
  refine EV.intro (by decide +kernel) (Nat.le_of_ble_eq_true rfl) ?_
  refine j_aload_n (pc := 0) dX7_anew_0 rfl ?_
  refine j_getI (pc := 1) dX7_anew_1 f_X7_71 (by first | rfl | with_reducible assumption) (by rfl) ?_
  refine j_istore_n (pc := 4) dX7_anew_4 (by decide) ?_
  refine j_aload_n (pc := 5) dX7_anew_5 rfl ?_
  refine j_iconst (pc := 6) dX7_anew_6 (v := 0) (by decide) ?_
  refine j_put (pc := 7) dX7_anew_7 f_X7_71 (by first | rfl | with_reducible assumption) (by rfl) ?_
  refine j_aload_n (pc := 10) dX7_anew_10 rfl ?_
  refine j_iconst (pc := 11) dX7_anew_11 (v := 0) (by decide) ?_
  refine j_put (pc := 12) dX7_anew_12 f_X7_75 (by first | rfl | with_reducible assumption) (by rfl) ?_
  refine j_aload_n (pc := 15) dX7_anew_15 rfl ?_
  refine j_callVv (pc := 16) dX7_anew_16 k_X7_81 (c_X7_joinAnew pre) (by first | rfl | with_reducible assumption) rfl rfl (by decide) rfl (Nat.le_of_ble_eq_true rfl) (fun σ1 hp => ?_)
  obtain ⟨a1, a2, a3, a4⟩ := hp
  refine j_aload_n (pc := 19) dX7_anew_19 rfl ?_
  refine j_callVv (pc := 20) dX7_anew_20 k_X7_84 (c_X7_controlAnew a4) (by first | rfl | with_reducible assumption) rfl rfl (by decide) rfl (Nat.le_of_ble_eq_true rfl) (fun σ2 hp => ?_)
  obtain ⟨b1, b2, b3, b4, b5⟩ := hp
  have hR := R1.renew pre (fun i hi => by rw [m_ne (by decide), m_ne (by decide)]; exact h45 i hi) a1 a2 a3 b1 b2 b3 b4 b5
  rw [m_eq] at hR
  refine j_iload_n (pc := 23) dX7_anew_23 rfl ?_
  refine j_iret (pc := 24) dX7_anew_24 ?_
  exact ⟨hb.2.2.2.1, hR⟩
def freeF (fs e v : Int32) : Int32 := (fs &&& (((1 : Int32) <<< (e &&& 31)) ^^^ (-1))) ||| (v <<< (e &&& 31))
theorem c_X7_free (e v : Int32) {σ : Mm} {n : Nat} {t : Nat → Int32} {N : Nat} {K : Nat → Int32} {M : Nat → MV} {fs : Int32} {h : List Int32} {pl : Int32} (q : R1 σ n t N K M fs h pl) : EV Γ1 6 yX7_free cX7_free 4 (some .int) [.inr 0, .inl e, .inl v] σ (fun r σ' => (¬ vp_in e 8 ∧ r = -1 ∧ σ = σ') ∨ (vp_in e 8 ∧ ¬ (v = 0 ∨ v = 1) ∧ r = -2 ∧ σ = σ') ∨ (vp_in e 8 ∧ (v = 0 ∨ v = 1) ∧ r = (fs >>> (e &&& 31)) &&& 1 ∧ R1 σ' n t N K M (freeF fs e v) [] 0)) := by
  obtain ⟨hb, hfs, hD, hP, h45, hTr⟩ := q
  refine EV.intro (by decide +kernel) (Nat.le_of_ble_eq_true rfl) ?_
  refine j_iload_n (pc := 0) dX7_free_0 rfl ?_
  refine j_callSi (pc := 1) dX7_free_1 k_X7_101 (c_X7_isEvent _ _) rfl (by decide) rfl (Nat.le_of_ble_eq_true rfl) (fun r σ1 hp => ?_)
  obtain ⟨rfl, hp⟩ := hp
  rcases hp with ⟨q1, rfl⟩ | ⟨q1, rfl⟩
  · refine j_if_ne (pc := 4) (tgt := 9) dX7_free_4 rfl (fun _ => ?_) (fun h => absurd h (by decide))
    refine j_iload_n (pc := 9) dX7_free_9 rfl ?_
    refine j_if_eq (pc := 10) (tgt := 21) dX7_free_10 rfl (fun h10 => ?_) (fun h10 => ?_)
    · refine j_aload_n (pc := 21) dX7_free_21 rfl ?_
      refine j_getI (pc := 22) dX7_free_22 f_X7_75 (by first | rfl | with_reducible assumption) (by rfl) ?_
      refine j_iload_n (pc := 25) dX7_free_25 rfl ?_
      refine j_ishr (pc := 26) dX7_free_26 ?_
      refine j_iconst (pc := 27) dX7_free_27 (v := 1) (by decide) ?_
      refine j_iand (pc := 28) dX7_free_28 ?_
      refine j_istore_n (pc := 29) dX7_free_29 (by decide) ?_
      refine j_aload_n (pc := 30) dX7_free_30 rfl ?_
      refine j_aload_n (pc := 31) dX7_free_31 rfl ?_
      refine j_getI (pc := 32) dX7_free_32 f_X7_75 (by first | rfl | with_reducible assumption) (by rfl) ?_
      refine j_iconst (pc := 35) dX7_free_35 (v := 1) (by decide) ?_
      refine j_iload_n (pc := 36) dX7_free_36 rfl ?_
      refine j_ishl (pc := 37) dX7_free_37 ?_
      refine j_iconst (pc := 38) dX7_free_38 (v := (-1)) (by decide) ?_
      refine j_ixor (pc := 39) dX7_free_39 ?_
      refine j_iand (pc := 40) dX7_free_40 ?_
      refine j_iload_n (pc := 41) dX7_free_41 rfl ?_
      refine j_iload_n (pc := 42) dX7_free_42 rfl ?_
      refine j_ishl (pc := 43) dX7_free_43 ?_
      refine j_ior (pc := 44) dX7_free_44 ?_
      refine j_top (y := freeF fs e v) (by rw [hfs]; rfl) ?_
      refine j_put (pc := 45) dX7_free_45 f_X7_75 (by first | rfl | with_reducible assumption) (by rfl) ?_
      refine j_aload_n (pc := 48) dX7_free_48 rfl ?_
      refine j_callVv (pc := 49) dX7_free_49 k_X7_84 (c_X7_controlAnew (σ := m_up σ 0 10 (freeF fs e v)) (hD.jn.cells (fun x _ _ => m_ne (by omega)))) (by first | rfl | with_reducible assumption) rfl rfl (by decide) rfl (Nat.le_of_ble_eq_true rfl) (fun σ2 hp => ?_)
      obtain ⟨b1, b2, b3, b4, b5⟩ := hp
      rw [m_eq] at b2
      refine j_iload_n (pc := 52) dX7_free_52 rfl ?_
      refine j_iret (pc := 53) dX7_free_53 ?_
      refine Or.inr (Or.inr ⟨q1, by first | exact Or.inl h10 | exact Or.inr h15, by rw [hfs], ?_⟩)
      have y0 : ∀ k, k ≠ 10 → σ2 0 k = σ 0 k := fun k hk => by rw [b1 0 (by decide), m_nk hk]
      have y1 : ∀ x, x ≠ 0 → (x < 23 ∨ (33 < x ∧ x < 46)) → σ2 x = σ x := fun x a b => by rw [b1 x b, m_ne a]
      exact ⟨hb.cells (y0 9 (by decide)) (fun x p q _ _ => y1 x (by omega) (by have := hb.2.2.2.2.1; omega)), by rw [b1 0 (by decide), m_eq], b2, hP.cells (y0 11 (by decide)) (fun x p q => y1 x (by omega) (by omega)), fun i hi => by rw [y1 45 (by decide) (by decide)]; exact h45 i hi, b5, by simp, b4, 0, by decide, b3, fun i hi => absurd hi (by simp)⟩
    · refine j_iload_n (pc := 13) dX7_free_13 rfl ?_
      refine j_iconst (pc := 14) dX7_free_14 (v := 1) (by decide) ?_
      refine j_icmp_eq (pc := 15) (tgt := 21) dX7_free_15 rfl (fun h15 => ?_) (fun h15 => ?_)
      · refine j_aload_n (pc := 21) dX7_free_21 rfl ?_
        refine j_getI (pc := 22) dX7_free_22 f_X7_75 (by first | rfl | with_reducible assumption) (by rfl) ?_
        refine j_iload_n (pc := 25) dX7_free_25 rfl ?_
        refine j_ishr (pc := 26) dX7_free_26 ?_
        refine j_iconst (pc := 27) dX7_free_27 (v := 1) (by decide) ?_
        refine j_iand (pc := 28) dX7_free_28 ?_
        refine j_istore_n (pc := 29) dX7_free_29 (by decide) ?_
        refine j_aload_n (pc := 30) dX7_free_30 rfl ?_
        refine j_aload_n (pc := 31) dX7_free_31 rfl ?_
        refine j_getI (pc := 32) dX7_free_32 f_X7_75 (by first | rfl | with_reducible assumption) (by rfl) ?_
        refine j_iconst (pc := 35) dX7_free_35 (v := 1) (by decide) ?_
        refine j_iload_n (pc := 36) dX7_free_36 rfl ?_
        refine j_ishl (pc := 37) dX7_free_37 ?_
        refine j_iconst (pc := 38) dX7_free_38 (v := (-1)) (by decide) ?_
        refine j_ixor (pc := 39) dX7_free_39 ?_
        refine j_iand (pc := 40) dX7_free_40 ?_
        refine j_iload_n (pc := 41) dX7_free_41 rfl ?_
        refine j_iload_n (pc := 42) dX7_free_42 rfl ?_
        refine j_ishl (pc := 43) dX7_free_43 ?_
        refine j_ior (pc := 44) dX7_free_44 ?_
        refine j_top (y := freeF fs e v) (by rw [hfs]; rfl) ?_
        refine j_put (pc := 45) dX7_free_45 f_X7_75 (by first | rfl | with_reducible assumption) (by rfl) ?_
        refine j_aload_n (pc := 48) dX7_free_48 rfl ?_
        refine j_callVv (pc := 49) dX7_free_49 k_X7_84 (c_X7_controlAnew (σ := m_up σ 0 10 (freeF fs e v)) (hD.jn.cells (fun x _ _ => m_ne (by omega)))) (by first | rfl | with_reducible assumption) rfl rfl (by decide) rfl (Nat.le_of_ble_eq_true rfl) (fun σ2 hp => ?_)
        obtain ⟨b1, b2, b3, b4, b5⟩ := hp
        rw [m_eq] at b2
        refine j_iload_n (pc := 52) dX7_free_52 rfl ?_
        refine j_iret (pc := 53) dX7_free_53 ?_
        refine Or.inr (Or.inr ⟨q1, by first | exact Or.inl h10 | exact Or.inr h15, by rw [hfs], ?_⟩)
        have y0 : ∀ k, k ≠ 10 → σ2 0 k = σ 0 k := fun k hk => by rw [b1 0 (by decide), m_nk hk]
        have y1 : ∀ x, x ≠ 0 → (x < 23 ∨ (33 < x ∧ x < 46)) → σ2 x = σ x := fun x a b => by rw [b1 x b, m_ne a]
        exact ⟨hb.cells (y0 9 (by decide)) (fun x p q _ _ => y1 x (by omega) (by have := hb.2.2.2.2.1; omega)), by rw [b1 0 (by decide), m_eq], b2, hP.cells (y0 11 (by decide)) (fun x p q => y1 x (by omega) (by omega)), fun i hi => by rw [y1 45 (by decide) (by decide)]; exact h45 i hi, b5, by simp, b4, 0, by decide, b3, fun i hi => absurd hi (by simp)⟩
      · refine j_bipush (pc := 18) dX7_free_18 (v := (-2)) (by decide) ?_
        refine j_iret (pc := 20) dX7_free_20 ?_
        exact Or.inr (Or.inl ⟨q1, fun z => z.elim h10 h15, rfl, rfl⟩)
  · refine j_if_ne (pc := 4) (tgt := 9) dX7_free_4 rfl (fun h => absurd h (by decide)) (fun _ => ?_)
    refine j_iconst (pc := 7) dX7_free_7 (v := (-1)) (by decide) ?_
    refine j_iret (pc := 8) dX7_free_8 ?_
    exact Or.inl ⟨q1, rfl, rfl⟩
def machP (x : Nat ⊕ MV) (r : Int32) (σ' : Mm) (n : Nat) (t : Nat → Int32) (N : Nat) (K : Nat → Int32) (M : Nat → MV) (kind fs : Int32) (h : List Int32) (pl : Int32) : Prop := match x with
  | .inl p => r = -100 - nI p ∧ R1 σ' n t N K M fs h pl
  | .inr v => r = nI N ∧ R1 σ' 0 t (N + 1) (updA K N kind) (updA M N v) fs [] 0
theorem c_X7_machine2 {kind r : Int32} {σ σ1 : Mm} {n : Nat} {t : Nat → Int32} {N : Nat} {K : Nat → Int32} {M : Nat → MV} {fs : Int32} {h : List Int32} {pl : Int32} (h60 : n ≤ 60) (hkd : kind = 0 ∨ kind = 1) (hN6 : N < 6) (hR1 : R1 σ1 n t N K M fs h pl) (c2 : σ1 (5 + 3 * N) 2 = kind) {fr ev : Int32} (c3 : match rdEnd n (rdGo (σ 2) n 0 (0, fr, ev, mv0)) with
      | .inl p => r = nI p ∧ p ≤ n
      | .inr v => r = -9 ∧ HM σ1 (5 + 3 * N) v) : AJ Γ1 6 RX7 cX7_machine 3 (some .int) (fun r σ' => (¬ (kind = 0 ∨ kind = 1) ∧ r = -2 ∧ σ = σ') ∨ ((kind = 0 ∨ kind = 1) ∧ N = 6 ∧ r = -4 ∧ σ = σ') ∨ ((kind = 0 ∨ kind = 1) ∧ N < 6 ∧ ∃ fr ev : Int32, machP (rdEnd n (rdGo (σ 2) n 0 (0, fr, ev, mv0))) r σ' n t N K M kind fs h pl)) 45 [some (.inr 0), some (.inl kind), none] [.inl r] σ1 := by
  cases hrd : rdEnd n (rdGo (σ 2) n 0 (0, fr, ev, mv0)) with
  | inl p =>
    rw [hrd] at c3
    obtain ⟨rfl, hpn⟩ := c3
    refine j_istore_n (pc := 45) dX7_machine_45 (by decide) ?_
    refine j_iload_n (pc := 46) dX7_machine_46 rfl ?_
    refine j_bipush (pc := 47) dX7_machine_47 (v := (-9)) (by decide) ?_
    refine j_icmp_eq (pc := 49) (tgt := 57) dX7_machine_49 rfl (fun h49 => absurd h49 (nI_z (by omega))) (fun h49 => ?_)
    refine j_bipush (pc := 52) dX7_machine_52 (v := (-100)) (by decide) ?_
    refine j_iload_n (pc := 54) dX7_machine_54 rfl ?_
    refine j_isub (pc := 55) dX7_machine_55 ?_
    refine j_iret (pc := 56) dX7_machine_56 ?_
    refine Or.inr (Or.inr ⟨hkd, hN6, fr, ev, ?_⟩)
    rw [hrd]
    exact ⟨rfl, hR1⟩
  | inr v =>
    rw [hrd] at c3
    obtain ⟨rfl, hHM⟩ := c3
    have pre : R1b (m_up (m_up σ1 1 1 0) 0 9 (nI (N + 1))) 0 t (N + 1) (updA K N kind) (updA M N v) := by
      obtain ⟨a1, a2, a3, a4, a5, a6⟩ := hR1.1
      refine ⟨by rw [m_ne (by decide), m_eq]; rfl, by decide, fun i hi => absurd hi (Nat.not_lt_zero _), m_eq _ _ _ _, by omega, fun m hm => ?_⟩
      have hfr : ∀ x, x ≠ 0 → x ≠ 1 → m_up (m_up σ1 1 1 0) 0 9 (nI (N + 1)) x = σ1 x := fun x a b => by rw [m_ne a, m_ne b]
      unfold HM
      rw [hfr (5 + 3 * m) (by omega) (by omega), hfr (5 + 3 * m + 1) (by omega) (by omega), hfr (5 + 3 * m + 2) (by omega) (by omega)]
      by_cases z : m = N
      · subst z
        rw [updA_s, updA_s]
        exact ⟨hHM, c2, rd_okV hkd hrd⟩
      · rw [updA_n z, updA_n z]
        exact a6 m (by omega)
    refine j_istore_n (pc := 45) dX7_machine_45 (by decide) ?_
    refine j_iload_n (pc := 46) dX7_machine_46 rfl ?_
    refine j_bipush (pc := 47) dX7_machine_47 (v := (-9)) (by decide) ?_
    refine j_icmp_eq (pc := 49) (tgt := 57) dX7_machine_49 rfl (fun h49 => ?_) (fun h49 => absurd rfl h49)
    refine j_aload_n (pc := 57) dX7_machine_57 rfl ?_
    refine j_getR (pc := 58) dX7_machine_58 f_X7_12 (by first | rfl | with_reducible assumption) (by rfl) ?_
    refine j_callVNv (pc := 61) dX7_machine_61 k_X7_94 (c_X5_clear _) (by first | rfl | with_reducible assumption) rfl rfl (by decide) rfl (Nat.le_of_ble_eq_true rfl) (fun σ1 hp => ?_)
    obtain rfl := hp
    refine j_aload_n (pc := 64) dX7_machine_64 rfl ?_
    refine j_dup (pc := 65) dX7_machine_65 ?_
    refine j_getI (pc := 66) dX7_machine_66 f_X7_71 (by first | rfl | with_reducible assumption) (by rfl) ?_
    refine j_iconst (pc := 69) dX7_machine_69 (v := 1) (by decide) ?_
    refine j_iadd (pc := 70) dX7_machine_70 ?_
    refine j_top (y := nI (N + 1)) (by rw [m_ne (by decide), hR1.1.2.2.2.1, nI_1]) ?_
    refine j_put (pc := 71) dX7_machine_71 f_X7_71 (by first | rfl | with_reducible assumption) (by rfl) ?_
    refine j_aload_n (pc := 74) dX7_machine_74 rfl ?_
    refine j_callVv (pc := 75) dX7_machine_75 k_X7_81 (c_X7_joinAnew pre) (by first | rfl | with_reducible assumption) rfl rfl (by decide) rfl (Nat.le_of_ble_eq_true rfl) (fun σ2 hp => ?_)
    obtain ⟨a1, a2, a3, a4⟩ := hp
    refine j_aload_n (pc := 78) dX7_machine_78 rfl ?_
    refine j_callVv (pc := 79) dX7_machine_79 k_X7_84 (c_X7_controlAnew a4) (by first | rfl | with_reducible assumption) rfl rfl (by decide) rfl (Nat.le_of_ble_eq_true rfl) (fun σ3 hp => ?_)
    obtain ⟨b1, b2, b3, b4, b5⟩ := hp
    have hR := R1.renew pre (fun i hi => by rw [m_ne (by decide), m_ne (by decide)]; exact hR1.2.2.2.2.1 i hi) a1 a2 a3 b1 b2 b3 b4 b5
    rw [m_nk (by decide), m_ne (by decide), hR1.2.1] at hR
    refine j_aload_n (pc := 82) dX7_machine_82 rfl ?_
    refine j_getI (pc := 83) dX7_machine_83 f_X7_71 (by first | rfl | with_reducible assumption) (by rfl) ?_
    refine j_iconst (pc := 86) dX7_machine_86 (v := 1) (by decide) ?_
    refine j_isub (pc := 87) dX7_machine_87 ?_
    refine j_iret (pc := 88) dX7_machine_88 ?_
    refine Or.inr (Or.inr ⟨hkd, hN6, fr, ev, ?_⟩)
    rw [hrd]
    refine ⟨?_, hR⟩
    rw [hR.1.2.2.2.1]
    exact nI_pred N
theorem c_X7_machine (kind : Int32) {σ : Mm} {n : Nat} {t : Nat → Int32} {N : Nat} {K : Nat → Int32} {M : Nat → MV} {fs : Int32} {h : List Int32} {pl : Int32} (q : R1 σ n t N K M fs h pl) : EV Γ1 6 yX7_machine cX7_machine 3 (some .int) [.inr 0, .inl kind] σ (fun r σ' => (¬ (kind = 0 ∨ kind = 1) ∧ r = -2 ∧ σ = σ') ∨ ((kind = 0 ∨ kind = 1) ∧ N = 6 ∧ r = -4 ∧ σ = σ') ∨ ((kind = 0 ∨ kind = 1) ∧ N < 6 ∧ ∃ fr ev : Int32, machP (rdEnd n (rdGo (σ 2) n 0 (0, fr, ev, mv0))) r σ' n t N K M kind fs h pl)) := by
  obtain ⟨hb, hfs, hD, hP, h45, hTr⟩ := q
  have hN := hb.2.2.2.1
  have hN6' := hb.2.2.2.2.1
  refine EV.intro (by decide +kernel) (Nat.le_of_ble_eq_true rfl) ?_
  refine j_iload_n (pc := 0) dX7_machine_0 rfl ?_
  refine j_if_eq (pc := 1) (tgt := 12) dX7_machine_1 rfl (fun h1 => ?_) (fun h1 => ?_)
  · have hkd : kind = 0 ∨ kind = 1 := Or.inl h1
    refine j_aload_n (pc := 12) dX7_machine_12 rfl ?_
    refine j_getI (pc := 13) dX7_machine_13 f_X7_71 (by first | rfl | with_reducible assumption) (by rfl) ?_
    refine j_top hN ?_
    refine j_bipush (pc := 16) dX7_machine_16 (v := 6) (by decide) ?_
    refine j_icmp_lt (pc := 18) (tgt := 24) dX7_machine_18 rfl (fun h18 => ?_) (fun h18 => ?_)
    · have hN6 : N < 6 := (nI_ltI (b := 6) (by omega) (by decide)).mp h18
      obtain ⟨gM, gL⟩ := isM_at hN6
      refine j_aload_n (pc := 24) dX7_machine_24 rfl ?_
      refine j_getR (pc := 25) dX7_machine_25 f_X7_19 (by first | rfl | with_reducible assumption) (by rfl) ?_
      refine j_aload_n (pc := 28) dX7_machine_28 rfl ?_
      refine j_getR (pc := 29) dX7_machine_29 f_X7_12 (by first | rfl | with_reducible assumption) (by rfl) ?_
      refine j_aload_n (pc := 32) dX7_machine_32 rfl ?_
      refine j_getR (pc := 33) dX7_machine_33 f_X7_25 (by first | rfl | with_reducible assumption) (by rfl) ?_
      refine j_aload_n (pc := 36) dX7_machine_36 rfl ?_
      refine j_getI (pc := 37) dX7_machine_37 f_X7_71 (by first | rfl | with_reducible assumption) (by rfl) ?_
      refine j_top hN ?_
      refine j_aald (pc := 40) dX7_machine_40 (by first | rfl | with_reducible assumption) (vp_in_nI hN6 (by decide)) (by rw [nI_clamp (by omega)]; exact gL) ?_
      refine j_iload_n (pc := 41) dX7_machine_41 rfl ?_
      refine j_callVNi (pc := 42) dX7_machine_42 k_X7_97 (c_X4_read gM (by omega) kind hb.1 hb.2.1) (by first | rfl | with_reducible assumption) rfl rfl (by decide) rfl (Nat.le_of_ble_eq_true rfl) (fun r σ1 hp => ?_)
      obtain ⟨c1, c2, fr, ev, c3⟩ := hp
      have hR1 : R1 σ1 n t N K M fs h pl := ⟨hb.cells (by rw [c1 0 (by decide) (by omega) (by omega) (by omega)]) (fun x p q r _ => c1 x r (by omega) (by omega) (by omega)), by rw [c1 0 (by decide) (by omega) (by omega) (by omega)]; exact hfs, hD.cells (fun x p q => c1 x (by omega) (by omega) (by omega) (by omega)) (fun x p q => c1 x (by omega) (by omega) (by omega) (by omega)), hP.cells (by rw [c1 0 (by decide) (by omega) (by omega) (by omega)]) (fun x p q => c1 x (by omega) (by omega) (by omega) (by omega)), fun i hi => by rw [c1 45 (by decide) (by omega) (by omega) (by omega)]; exact h45 i hi, hTr.cells (fun x p q => c1 x (by omega) (by omega) (by omega) (by omega))⟩
      exact c_X7_machine2 hb.2.1 hkd hN6 hR1 c2 c3
    · have hN6 : N = 6 := by
        have : ¬ N < 6 := fun z => h18 ((nI_ltI (b := 6) (by omega) (by decide)).mpr z)
        omega
      refine j_bipush (pc := 21) dX7_machine_21 (v := (-4)) (by decide) ?_
      refine j_iret (pc := 23) dX7_machine_23 ?_
      exact Or.inr (Or.inl ⟨hkd, hN6, rfl, rfl⟩)
  · refine j_iload_n (pc := 4) dX7_machine_4 rfl ?_
    refine j_iconst (pc := 5) dX7_machine_5 (v := 1) (by decide) ?_
    refine j_icmp_eq (pc := 6) (tgt := 12) dX7_machine_6 rfl (fun h6 => ?_) (fun h6 => ?_)
    · have hkd : kind = 0 ∨ kind = 1 := Or.inr h6
      refine j_aload_n (pc := 12) dX7_machine_12 rfl ?_
      refine j_getI (pc := 13) dX7_machine_13 f_X7_71 (by first | rfl | with_reducible assumption) (by rfl) ?_
      refine j_top hN ?_
      refine j_bipush (pc := 16) dX7_machine_16 (v := 6) (by decide) ?_
      refine j_icmp_lt (pc := 18) (tgt := 24) dX7_machine_18 rfl (fun h18 => ?_) (fun h18 => ?_)
      · have hN6 : N < 6 := (nI_ltI (b := 6) (by omega) (by decide)).mp h18
        obtain ⟨gM, gL⟩ := isM_at hN6
        refine j_aload_n (pc := 24) dX7_machine_24 rfl ?_
        refine j_getR (pc := 25) dX7_machine_25 f_X7_19 (by first | rfl | with_reducible assumption) (by rfl) ?_
        refine j_aload_n (pc := 28) dX7_machine_28 rfl ?_
        refine j_getR (pc := 29) dX7_machine_29 f_X7_12 (by first | rfl | with_reducible assumption) (by rfl) ?_
        refine j_aload_n (pc := 32) dX7_machine_32 rfl ?_
        refine j_getR (pc := 33) dX7_machine_33 f_X7_25 (by first | rfl | with_reducible assumption) (by rfl) ?_
        refine j_aload_n (pc := 36) dX7_machine_36 rfl ?_
        refine j_getI (pc := 37) dX7_machine_37 f_X7_71 (by first | rfl | with_reducible assumption) (by rfl) ?_
        refine j_top hN ?_
        refine j_aald (pc := 40) dX7_machine_40 (by first | rfl | with_reducible assumption) (vp_in_nI hN6 (by decide)) (by rw [nI_clamp (by omega)]; exact gL) ?_
        refine j_iload_n (pc := 41) dX7_machine_41 rfl ?_
        refine j_callVNi (pc := 42) dX7_machine_42 k_X7_97 (c_X4_read gM (by omega) kind hb.1 hb.2.1) (by first | rfl | with_reducible assumption) rfl rfl (by decide) rfl (Nat.le_of_ble_eq_true rfl) (fun r σ1 hp => ?_)
        obtain ⟨c1, c2, fr, ev, c3⟩ := hp
        have hR1 : R1 σ1 n t N K M fs h pl := ⟨hb.cells (by rw [c1 0 (by decide) (by omega) (by omega) (by omega)]) (fun x p q r _ => c1 x r (by omega) (by omega) (by omega)), by rw [c1 0 (by decide) (by omega) (by omega) (by omega)]; exact hfs, hD.cells (fun x p q => c1 x (by omega) (by omega) (by omega) (by omega)) (fun x p q => c1 x (by omega) (by omega) (by omega) (by omega)), hP.cells (by rw [c1 0 (by decide) (by omega) (by omega) (by omega)]) (fun x p q => c1 x (by omega) (by omega) (by omega) (by omega)), fun i hi => by rw [c1 45 (by decide) (by omega) (by omega) (by omega)]; exact h45 i hi, hTr.cells (fun x p q => c1 x (by omega) (by omega) (by omega) (by omega))⟩
        exact c_X7_machine2 hb.2.1 hkd hN6 hR1 c2 c3
      · have hN6 : N = 6 := by
          have : ¬ N < 6 := fun z => h18 ((nI_ltI (b := 6) (by omega) (by decide)).mpr z)
          omega
        refine j_bipush (pc := 21) dX7_machine_21 (v := (-4)) (by decide) ?_
        refine j_iret (pc := 23) dX7_machine_23 ?_
        exact Or.inr (Or.inl ⟨hkd, hN6, rfl, rfl⟩)
    · refine j_bipush (pc := 9) dX7_machine_9 (v := (-2)) (by decide) ?_
      refine j_iret (pc := 11) dX7_machine_11 ?_
      exact Or.inl ⟨fun z => z.elim h1 h6, rfl, rfl⟩
