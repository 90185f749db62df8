/-! LEASTBARS: its state, and what begins it anew -/
theorem all_val : ∀ N, N ≤ 6 → ((1 : Int32) <<< (nI N &&& 31)) - 1 = nI (2 ^ N - 1) := by decide +kernel
theorem all_bit0 : ∀ N, N ≤ 6 → ∀ m, m < 32 → bt (nI (2 ^ N - 1)) m = decide (m < N) := by decide +kernel
def allS (N : Nat) : Int32 := nI (2 ^ N - 1)
theorem all_bit {N : Nat} (h : N ≤ 6) (m : Nat) : bt (allS N) m = decide (m < N) := by
  by_cases hm : m < 32
  · exact all_bit0 N h m hm
  · rw [b_big (by omega)]
    have : ¬ m < N := by omega
    simp [this]
/-- the TAPE and the MACHINES -/
def R1b (σ : Mm) (n : Nat) (t : Nat → Int32) (N : Nat) (K : Nat → Int32) (M : Nat → MV) : Prop := σ 1 1 = nI n ∧ n ≤ 60 ∧ (∀ i, i < n → σ 2 i = t i) ∧ σ 0 9 = nI N ∧ N ≤ 6 ∧ ∀ m, m < N → HM σ (5 + 3 * m) (M m) ∧ σ (5 + 3 * m) 2 = K m ∧ okV (K m) (M m)
theorem R1b.te {σ : Mm} {n : Nat} {t : Nat → Int32} {N : Nat} {K : Nat → Int32} {M : Nat → MV} (h : R1b σ n t N K M) {set : Int32} (hs : ∀ m, bt set m = true → m < N) : TE (T1 σ) (TA N K M) set := by
  intro m hm hb
  have hN := hs m hb
  obtain ⟨h1, h2, h3⟩ := h.2.2.2.2.2 m hN
  rw [t1k hm, t1a hm, t1m hm, h2, h1.2.1, h1.2.2.1]
  unfold TA
  simp only [if_pos hN]
  exact ⟨trivial, trivial, trivial, fun x hx => by rw [t1s hm]; exact h1.1 x hx⟩
theorem R1b.ok {σ : Mm} {n : Nat} {t : Nat → Int32} {N : Nat} {K : Nat → Int32} {M : Nat → MV} (h : R1b σ n t N K M) {m : Nat} (hm : m < N) : okT (T1 σ) m := by
  have h6 : m < 6 := by have := h.2.2.2.2.1; omega
  obtain ⟨h1, h2, h3⟩ := h.2.2.2.2.2 m hm
  unfold okT
  rw [t1k h6, t1a h6, h2, h1.2.1]
  refine ⟨h3.1, fun x hx => ?_, fun s hs e he q => ?_, h3.2.2.2⟩
  · rw [t1s h6, h1.1 x hx]; exact h3.2.1 x hx
  · rw [t1s h6, h1.1 _ (by omega)] at q; exact h3.2.2.1 s hs e he q
theorem R1b.ms {σ : Mm} {n : Nat} {t : Nat → Int32} {N : Nat} {K : Nat → Int32} {M : Nat → MV} (h : R1b σ n t N K M) {set : Int32} (hs : ∀ m, bt set m = true → m < N) : MS σ set := by
  refine ⟨fun i hi => ?_, fun m hm hb => ⟨h.ok (hs m hb), fun s hs' e he => ?_⟩⟩
  · cases hb : bt set i with
    | false => rfl
    | true => have := hs i hb; have := h.2.2.2.2.1; omega
  · obtain ⟨h1, h2, h3⟩ := h.2.2.2.2.2 m (hs m hb)
    rw [h1.2.2.2.2.2 s hs' e he]
    by_cases h8 : e < 8
    · rw [h1.1 _ (by omega)]
    · simp [h8]
theorem all_lt {N : Nat} (h : N ≤ 6) : ∀ m, bt (allS N) m = true → m < N := fun m q => by rw [all_bit h] at q; exact of_decide_eq_true q
theorem c_X7_setOfAll {σ : Mm} {N : Nat} (hN : σ 0 9 = nI N) (h6 : N ≤ 6) : EV Γ1 0 yX7_setOfAllMachines cX7_setOfAllMachines 1 (some .int) [.inr 0] σ (vz (allS N) σ) := by
  refine EV.intro (by decide +kernel) (Nat.le_of_ble_eq_true rfl) ?_
  refine j_iconst (pc := 0) dX7_setOfAllMachines_0 (v := 1) (by decide) ?_
  refine j_aload_n (pc := 1) dX7_setOfAllMachines_1 rfl ?_
  refine j_getI (pc := 2) dX7_setOfAllMachines_2 f_X7_71 (by first | rfl | with_reducible assumption) (by rfl) ?_
  refine j_top hN ?_
  refine j_ishl (pc := 5) dX7_setOfAllMachines_5 ?_
  refine j_iconst (pc := 6) dX7_setOfAllMachines_6 (v := 1) (by decide) ?_
  refine j_isub (pc := 7) dX7_setOfAllMachines_7 ?_
  refine j_iret (pc := 8) dX7_setOfAllMachines_8 ?_
  exact ⟨rfl, all_val N h6⟩
theorem c_X7_isMachine (m : Int32) {σ : Mm} {N : Nat} (hN : σ 0 9 = nI N) (h6 : N ≤ 6) : EV Γ1 0 yX7_isMachine cX7_isMachine 2 (some .boolean) [.inr 0, .inl m] σ (bz (vp_in m N) σ) := by
  have tN : (nI N).toInt = N := nI_toInt (by omega)
  refine EV.intro (by decide +kernel) (Nat.le_of_ble_eq_true rfl) ?_
  refine j_iload_n (pc := 0) dX7_isMachine_0 rfl ?_
  refine j_if_lt (pc := 1) (tgt := 16) dX7_isMachine_1 rfl (fun h1 => ?_) (fun h1 => ?_)
  · refine j_iconst (pc := 16) dX7_isMachine_16 (v := 0) (by decide) ?_
    refine j_zret (pc := 17) dX7_isMachine_17 (Or.inl rfl) ?_
    exact ⟨rfl, Or.inr ⟨by (simp only [Int32.lt_iff_toInt_lt, Int32.le_iff_toInt_le, ← Int32.toInt_inj, vp_in_iff, ti_0, ti_1, ti_2, ti_3, ti_4, ti_5, ti_6, ti_7, ti_8, ti_16, ti_48, ti_53, ti_60, ti_97, ti_104, ti_127, ti_149, ti_150, ti_151, ti_256, ti_1200, ti_m1, ti_m2, ti_m3, ti_m4, ti_m9, tN] at *; omega), rfl⟩⟩
  · refine j_iload_n (pc := 4) dX7_isMachine_4 rfl ?_
    refine j_aload_n (pc := 5) dX7_isMachine_5 rfl ?_
    refine j_getI (pc := 6) dX7_isMachine_6 f_X7_71 (by first | rfl | with_reducible assumption) (by rfl) ?_
    refine j_top hN ?_
    refine j_icmp_ge (pc := 9) (tgt := 16) dX7_isMachine_9 rfl (fun h9 => ?_) (fun h9 => ?_)
    · refine j_iconst (pc := 16) dX7_isMachine_16 (v := 0) (by decide) ?_
      refine j_zret (pc := 17) dX7_isMachine_17 (Or.inl rfl) ?_
      exact ⟨rfl, Or.inr ⟨by (simp only [Int32.lt_iff_toInt_lt, Int32.le_iff_toInt_le, ← Int32.toInt_inj, vp_in_iff, ti_0, ti_1, ti_2, ti_3, ti_4, ti_5, ti_6, ti_7, ti_8, ti_16, ti_48, ti_53, ti_60, ti_97, ti_104, ti_127, ti_149, ti_150, ti_151, ti_256, ti_1200, ti_m1, ti_m2, ti_m3, ti_m4, ti_m9, tN] at *; omega), rfl⟩⟩
    · refine j_iconst (pc := 12) dX7_isMachine_12 (v := 1) (by decide) ?_
      refine j_goto (pc := 13) (tgt := 17) dX7_isMachine_13 rfl ?_
      refine j_zret (pc := 17) dX7_isMachine_17 (Or.inr rfl) ?_
      exact ⟨rfl, Or.inl ⟨by (simp only [Int32.lt_iff_toInt_lt, Int32.le_iff_toInt_le, ← Int32.toInt_inj, vp_in_iff, ti_0, ti_1, ti_2, ti_3, ti_4, ti_5, ti_6, ti_7, ti_8, ti_16, ti_48, ti_53, ti_60, ti_97, ti_104, ti_127, ti_149, ti_150, ti_151, ti_256, ti_1200, ti_m1, ti_m2, ti_m3, ti_m4, ti_m9, tN] at *; omega), rfl⟩⟩
/-- net joined of all MACHINES, or OVER -/
def JN (σ : Mm) (T : Tab) (set : Int32) : Prop := (Over T set ∧ σ 23 13 = 0 ∧ σ 23 14 = 1) ∨ (¬ Over T set ∧ NG σ 23 T set)
theorem te_over {T T' : Tab} {set : Int32} (hE : TE T T' set) (hT : ∀ m, m < 6 → bt set m = true → okT T m) : Over T set ↔ Over T' set := by
  unfold Over
  rw [te_csx hE hT]
theorem te_NG {σ : Mm} {b : Nat} {T T' : Tab} {set : Int32} (hE : TE T T' set) (hT : ∀ m, m < 6 → bt set m = true → okT T m) (h : NG σ b T set) : NG σ b T' set := by
  obtain ⟨e1, e2, e3, e4, e5, e6⟩ := te_g hE hT
  obtain ⟨h1, h2, h3, h4, h5, h6, h7⟩ := h
  unfold NG
  rw [← e2, ← e3, ← e4]
  refine ⟨h1, h2, h3, h4, h5, h6, fun n hn => ?_⟩
  obtain ⟨a, b, c⟩ := h7 n hn
  refine ⟨fun e he => ?_, fun e he => ?_, ?_⟩
  · rw [a e he]
    by_cases h8 : e < 8
    · rw [← led_lead, ← led_lead, te_led hE (gC_ok hT n) h8]
    · simp [h8]
  · rw [b e he]
    by_cases h8 : e < 8
    · rw [te_clash hE (gC_ok hT n) h8]
    · simp [h8]
  · rw [c, te_fin hE]
theorem c_X7_joinAnew {σ : Mm} {n : Nat} {t : Nat → Int32} {N : Nat} {K : Nat → Int32} {M : Nat → MV} (h : R1b σ n t N K M) : EV Γ1 5 yX7_joinAnew cX7_joinAnew 1 none [.inr 0] σ (fun _ σ' => (∀ x, x ≠ 0 → (x < 23 ∨ 31 < x) → σ' x = σ x) ∧ (∀ k, k ≠ 11 → σ' 0 k = σ 0 k) ∧ σ' 0 11 = -9 ∧ JN σ' (TA N K M) (allS N)) := by
  have h6 := h.2.2.2.2.1
  have hE := h.te (all_lt h6)
  have hT : ∀ m, m < 6 → bt (allS N) m = true → okT (T1 σ) m := fun m _ q => h.ok (all_lt h6 m q)
  refine EV.intro (by decide +kernel) (Nat.le_of_ble_eq_true rfl) ?_
  refine j_aload_n (pc := 0) dX7_joinAnew_0 rfl ?_
  refine j_getR (pc := 1) dX7_joinAnew_1 f_X7_33 (by first | rfl | with_reducible assumption) (by rfl) ?_
  refine j_aload_n (pc := 4) dX7_joinAnew_4 rfl ?_
  refine j_getR (pc := 5) dX7_joinAnew_5 f_X7_25 (by first | rfl | with_reducible assumption) (by rfl) ?_
  refine j_aload_n (pc := 8) dX7_joinAnew_8 rfl ?_
  refine j_callVi (pc := 9) dX7_joinAnew_9 k_X7_173 (c_X7_setOfAll h.2.2.2.1 h6) (by first | rfl | with_reducible assumption) rfl rfl (by decide) rfl (Nat.le_of_ble_eq_true rfl) (fun r σ1 hp => ?_)
  obtain ⟨rfl, rfl⟩ := hp
  refine j_callVNv (pc := 12) dX7_joinAnew_12 k_X7_227 (c_X3_join isN_net (by decide) (h.ms (all_lt h6))) (by first | rfl | with_reducible assumption) rfl rfl (by decide) rfl (Nat.le_of_ble_eq_true rfl) (fun σ1 hp => ?_)
  obtain ⟨hF, hp⟩ := hp
  refine j_aload_n (pc := 15) dX7_joinAnew_15 rfl ?_
  refine j_bipush (pc := 16) dX7_joinAnew_16 (v := (-9)) (by decide) ?_
  refine j_put (pc := 18) dX7_joinAnew_18 f_X7_78 (by first | rfl | with_reducible assumption) (by rfl) ?_
  refine j_vret (pc := 21) dX7_joinAnew_21 ?_
  refine ⟨fun x a b => by rw [m_ne a]; exact hF x b, fun k hk => by rw [m_nk hk, hF 0 (by decide)], m_eq _ _ _ _, ?_⟩
  have fr : ∀ x, x ≠ 0 → m_up σ1 0 11 (-9) x = σ1 x := fun x a => m_ne a
  unfold JN
  rw [fr 23 (by decide)]
  rcases hp with ⟨a, b, c⟩ | ⟨a, b⟩
  · exact Or.inl ⟨(te_over hE hT).mp a, b, c⟩
  · refine Or.inr ⟨fun q => a ((te_over hE hT).mpr q), ?_⟩
    have hg := te_NG hE hT b.g
    unfold NG RowI at hg ⊢
    simp only [fr 23 (by decide), fr (23 + 1) (by decide), fr (23 + 2) (by decide), fr (23 + 3) (by decide), fr (23 + 4) (by decide), fr (23 + 5) (by decide), fr (23 + 6) (by decide), fr (23 + 7) (by decide)]
    exact hg
/-- UNDER CONTROL -/
def CTL (σ : Mm) (J : Nat) (tg w : Nat → Int32) : Prop := (w 0 ≠ -9 ∧ (∀ n, n < 150 → σ 53 n = -9) ∧ σ 52 4 = 0 ∧ σ 52 5 = 0) ∨ (w 0 = -9 ∧ ∃ (Q : Nat) (u d pa ev : Nat → Nat), CI J tg (fun m => decide (w m = -9)) (σ 53) (σ 54) (σ 56) Q u d pa ev ∧ CX tg (fun m => decide (w m = -9)) Q u pa ev (8 * Q) ∧ σ 52 4 = nI Q ∧ (∀ n, n < J → σ 53 n ≠ -9 → ∀ i, i < 32 → bt (σ 55 n) i = (decide (i < 8) && isL J w (tg (8 * n + i)))) ∧ σ 52 5 = nI (sumN (fun n => if σ 53 n = -9 then 0 else pcB (fun e => isL J w (tg (8 * n + e)))) J))
/-- what is drawn from the MACHINES and the FREE EVENTS -/
def DN (σ : Mm) (T : Tab) (set fs : Int32) (k : Nat) : Prop := k ≤ 150 ∧ lossK (gJ T set) (toX T set) (gF T set) (gL T set) (fun e => bt fs e) k ∧ σ 46 5 = nI (k + 1) ∧ LIT σ (gJ T set) (toX T set) (lts (gJ T set) (toX T set) (gF T set) (gL T set) (fun e => bt fs e) k) ∧ (∀ n, n < gJ T set → isFar (gJ T set) (toX T set) (gF T set) (fun n => decide ((lts (gJ T set) (toX T set) (gF T set) (gL T set) (fun e => bt fs e) k).1 n = -9)) n (σ 32 n)) ∧ (∀ n, gJ T set ≤ n → n < 150 → σ 53 n = -9) ∧ CTL σ (gJ T set) (toX T set) (lts (gJ T set) (toX T set) (gF T set) (gL T set) (fun e => bt fs e) k).1
def D1 (σ : Mm) (T : Tab) (set fs : Int32) : Prop := (Over T set ∧ σ 23 13 = 0 ∧ σ 23 14 = 1 ∧ σ 46 5 = 0 ∧ σ 46 6 = 0 ∧ (∀ n, n < 150 → σ 47 n = -9) ∧ (∀ n, n < 150 → σ 53 n = -9) ∧ σ 52 4 = 0 ∧ σ 52 5 = 0) ∨ (¬ Over T set ∧ NG σ 23 T set ∧ ∃ k, DN σ T set fs k)
theorem g_pos (T : Tab) (set : Int32) : 0 < gJ T set := by
  unfold gJ
  rw [gX_eq]
  exact csx_pos T set 1200
theorem c_X6_begin (σ : Mm) : EV Γ1 0 yX6_begin cX6_begin 1 none [.inr 57] σ (mz (m_up (m_up (m_up σ 57 1 0) 57 2 0) 57 3 0)) := by
  refine EV.intro (by decide +kernel) (Nat.le_of_ble_eq_true rfl) ?_
  refine j_aload_n (pc := 0) dX6_begin_0 rfl ?_
  refine j_iconst (pc := 1) dX6_begin_1 (v := 0) (by decide) ?_
  refine j_put (pc := 2) dX6_begin_2 f_X6_15 (by first | rfl | with_reducible assumption) (by rfl) ?_
  refine j_aload_n (pc := 5) dX6_begin_5 rfl ?_
  refine j_iconst (pc := 6) dX6_begin_6 (v := 0) (by decide) ?_
  refine j_put (pc := 7) dX6_begin_7 f_X6_19 (by first | rfl | with_reducible assumption) (by rfl) ?_
  refine j_aload_n (pc := 10) dX6_begin_10 rfl ?_
  refine j_iconst (pc := 11) dX6_begin_11 (v := 0) (by decide) ?_
  refine j_put (pc := 12) dX6_begin_12 f_X6_22 (by first | rfl | with_reducible assumption) (by rfl) ?_
  refine j_vret (pc := 15) dX6_begin_15 ?_
  rfl
theorem NG.cells {σ σ' : Mm} {b : Nat} {T : Tab} {set : Int32} (h : NG σ b T set) (h0 : ∀ k, k ≠ 10 → σ' b k = σ b k) (h1 : ∀ x, b < x → x ≤ b + 7 → σ' x = σ x) : NG σ' b T set := by
  unfold NG RowI at *
  rw [h0 14 (by decide), h0 13 (by decide), h1 (b + 1) (by omega) (by omega), h1 (b + 2) (by omega) (by omega), h1 (b + 3) (by omega) (by omega), h1 (b + 4) (by omega) (by omega), h1 (b + 5) (by omega) (by omega), h1 (b + 6) (by omega) (by omega), h1 (b + 7) (by omega) (by omega)]
  exact h
theorem c_X7_controlAnew {σ : Mm} {T : Tab} {set : Int32} (h : JN σ T set) : EV Γ1 5 yX7_controlAnew cX7_controlAnew 1 none [.inr 0] σ (fun _ σ' => (∀ x, (x < 23 ∨ (33 < x ∧ x < 46)) → σ' x = σ x) ∧ D1 σ' T set (σ 0 10) ∧ σ' 57 1 = 0 ∧ σ' 57 2 = 0 ∧ σ' 57 3 = 0) := by
  have hgp := g_pos T set
  refine EV.intro (by decide +kernel) (Nat.le_of_ble_eq_true rfl) ?_
  have over : Over T set → σ 23 13 = 0 → σ 23 14 = 1 → AJ Γ1 5 RX7 cX7_controlAnew 1 none (fun _ σ' => (∀ x, (x < 23 ∨ (33 < x ∧ x < 46)) → σ' x = σ x) ∧ D1 σ' T set (σ 0 10) ∧ σ' 57 1 = 0 ∧ σ' 57 2 = 0 ∧ σ' 57 3 = 0) 0 [some (.inr 0)] [] σ := by
    intro hO h13 h14
    refine j_aload_n (pc := 0) dX7_controlAnew_0 rfl ?_
    refine j_getR (pc := 1) dX7_controlAnew_1 f_X7_53 (by first | rfl | with_reducible assumption) (by rfl) ?_
    refine j_aload_n (pc := 4) dX7_controlAnew_4 rfl ?_
    refine j_getR (pc := 5) dX7_controlAnew_5 f_X7_33 (by first | rfl | with_reducible assumption) (by rfl) ?_
    refine j_aload_n (pc := 8) dX7_controlAnew_8 rfl ?_
    refine j_getI (pc := 9) dX7_controlAnew_9 f_X7_75 (by first | rfl | with_reducible assumption) (by rfl) ?_
    refine j_callVNv (pc := 12) dX7_controlAnew_12 k_X7_235 (c_X1_sift (J := 0) (tg := fun _ => -9) (fn := fun _ => false) (cl := fun _ _ => false) (Or.inl h14) _) (by first | rfl | with_reducible assumption) rfl rfl (by decide) rfl (Nat.le_of_ble_eq_true rfl) (fun σ1 hp => ?_)
    obtain ⟨a1, a2, hp⟩ := hp
    have hS : σ1 46 5 = 0 ∧ σ1 46 6 = 0 ∧ ∀ n, n < 150 → σ1 47 n = -9 := by
      rcases hp with ⟨-, b, c, e⟩ | ⟨b, -⟩
      · exact ⟨b, c, e⟩
      · rw [h14] at b; exact absurd b (by decide)
    have hNL : NL σ1 0 (fun _ => -9) (fun _ => false) (fun _ _ => false) := ⟨⟨by decide, by rw [a2 13 (by decide)]; exact h13, fun n hn => absurd hn (Nat.not_lt_zero _), fun n hn => absurd hn (Nat.not_lt_zero _), fun y hy => absurd hy (by omega)⟩, fun y hy => absurd hy (by omega), fun n hn => absurd hn (Nat.not_lt_zero _), fun n hn => absurd hn (Nat.not_lt_zero _)⟩
    refine j_aload_n (pc := 15) dX7_controlAnew_15 rfl ?_
    refine j_getR (pc := 16) dX7_controlAnew_16 f_X7_60 (by first | rfl | with_reducible assumption) (by rfl) ?_
    refine j_aload_n (pc := 19) dX7_controlAnew_19 rfl ?_
    refine j_getR (pc := 20) dX7_controlAnew_20 f_X7_33 (by first | rfl | with_reducible assumption) (by rfl) ?_
    refine j_aload_n (pc := 23) dX7_controlAnew_23 rfl ?_
    refine j_getR (pc := 24) dX7_controlAnew_24 f_X7_53 (by first | rfl | with_reducible assumption) (by rfl) ?_
    refine j_callVNv (pc := 27) dX7_controlAnew_27 k_X7_239 (c_X0_spread (w := fun _ => 0) hNL (fun m hm => absurd hm (Nat.not_lt_zero _))) (by first | rfl | with_reducible assumption) rfl rfl (by decide) rfl (Nat.le_of_ble_eq_true rfl) (fun σ2 hp => ?_)
    obtain ⟨b1, b2, hp⟩ := hp
    have hC : (∀ n, n < 150 → σ2 53 n = -9) ∧ σ2 52 4 = 0 ∧ σ2 52 5 = 0 := by
      rcases hp with ⟨-, c⟩ | ⟨c, -⟩
      · exact c
      · exact absurd c (Nat.lt_irrefl _)
    refine j_aload_n (pc := 30) dX7_controlAnew_30 rfl ?_
    refine j_getR (pc := 31) dX7_controlAnew_31 f_X7_67 (by first | rfl | with_reducible assumption) (by rfl) ?_
    refine j_callVNv (pc := 34) dX7_controlAnew_34 k_X7_243 (c_X6_begin _) (by first | rfl | with_reducible assumption) rfl rfl (by decide) rfl (Nat.le_of_ble_eq_true rfl) (fun σ1 hp => ?_)
    obtain rfl := hp
    refine j_vret (pc := 37) dX7_controlAnew_37 ?_
    have z : ∀ x, x ≠ 57 → m_up (m_up (m_up σ2 57 1 0) 57 2 0) 57 3 0 x = σ2 x := fun x hx => by rw [m_ne hx, m_ne hx, m_ne hx]
    refine ⟨fun x hx => ?_, Or.inl ⟨hO, ?_, ?_, ?_, ?_, fun n hn => ?_, fun n hn => ?_, ?_, ?_⟩, ?_, ?_, m_eq _ _ _ _⟩
    · rw [z x (by omega), b1 x (by omega), a1 x (by omega) (by omega) (by omega) (by omega)]
    · rw [z 23 (by decide), b1 23 (by decide), a2 13 (by decide)]; exact h13
    · rw [z 23 (by decide), b1 23 (by decide), a2 14 (by decide)]; exact h14
    · rw [z 46 (by decide), b1 46 (by decide)]; exact hS.1
    · rw [z 46 (by decide), b1 46 (by decide)]; exact hS.2.1
    · rw [z 47 (by decide), b1 47 (by decide)]; exact hS.2.2 n hn
    · rw [z 53 (by decide)]; exact hC.1 n hn
    · rw [z 52 (by decide)]; exact hC.2.1
    · rw [z 52 (by decide)]; exact hC.2.2
    · rw [m_nk (by decide), m_nk (by decide), m_eq]
    · rw [m_nk (by decide), m_eq]
  rcases h with ⟨hO, h13, h14⟩ | ⟨hO, hG⟩
  · exact over hO h13 h14
  have hNL := hG.l
  refine j_aload_n (pc := 0) dX7_controlAnew_0 rfl ?_
  refine j_getR (pc := 1) dX7_controlAnew_1 f_X7_53 (by first | rfl | with_reducible assumption) (by rfl) ?_
  refine j_aload_n (pc := 4) dX7_controlAnew_4 rfl ?_
  refine j_getR (pc := 5) dX7_controlAnew_5 f_X7_33 (by first | rfl | with_reducible assumption) (by rfl) ?_
  refine j_aload_n (pc := 8) dX7_controlAnew_8 rfl ?_
  refine j_getI (pc := 9) dX7_controlAnew_9 f_X7_75 (by first | rfl | with_reducible assumption) (by rfl) ?_
  refine j_callVNv (pc := 12) dX7_controlAnew_12 k_X7_235 (c_X1_sift (Or.inr ⟨hG.2.1, hNL⟩) _) (by first | rfl | with_reducible assumption) rfl rfl (by decide) rfl (Nat.le_of_ble_eq_true rfl) (fun σ1 hp => ?_)
  obtain ⟨a1, a2, hp⟩ := hp
  have hS := hp.elim (fun q => absurd (hG.2.1.symm.trans q.1) (by decide)) (fun q => q.2)
  obtain ⟨k, s1, s2, s3, s4, s5⟩ := hS
  have hG1 : NG σ1 23 T set := hG.cells a2 (fun x hx1 hx2 => a1 x (by omega) (by omega) (by omega) (by omega))
  refine j_aload_n (pc := 15) dX7_controlAnew_15 rfl ?_
  refine j_getR (pc := 16) dX7_controlAnew_16 f_X7_60 (by first | rfl | with_reducible assumption) (by rfl) ?_
  refine j_aload_n (pc := 19) dX7_controlAnew_19 rfl ?_
  refine j_getR (pc := 20) dX7_controlAnew_20 f_X7_33 (by first | rfl | with_reducible assumption) (by rfl) ?_
  refine j_aload_n (pc := 23) dX7_controlAnew_23 rfl ?_
  refine j_getR (pc := 24) dX7_controlAnew_24 f_X7_53 (by first | rfl | with_reducible assumption) (by rfl) ?_
  refine j_callVNv (pc := 27) dX7_controlAnew_27 k_X7_239 (c_X0_spread hG1.l (fun m hm => (s4.1 m hm).1)) (by first | rfl | with_reducible assumption) rfl rfl (by decide) rfl (Nat.le_of_ble_eq_true rfl) (fun σ2 hp => ?_)
  obtain ⟨b1, b2, hp⟩ := hp
  refine j_aload_n (pc := 30) dX7_controlAnew_30 rfl ?_
  refine j_getR (pc := 31) dX7_controlAnew_31 f_X7_67 (by first | rfl | with_reducible assumption) (by rfl) ?_
  refine j_callVNv (pc := 34) dX7_controlAnew_34 k_X7_243 (c_X6_begin _) (by first | rfl | with_reducible assumption) rfl rfl (by decide) rfl (Nat.le_of_ble_eq_true rfl) (fun σ3 hp => ?_)
  obtain rfl := hp
  refine j_vret (pc := 37) dX7_controlAnew_37 ?_
  have z : ∀ x, x ≠ 57 → m_up (m_up (m_up σ2 57 1 0) 57 2 0) 57 3 0 x = σ2 x := fun x hx => by rw [m_ne hx, m_ne hx, m_ne hx]
  have y : ∀ x, x < 52 → m_up (m_up (m_up σ2 57 1 0) 57 2 0) 57 3 0 x = σ1 x := fun x hx => by rw [z x (by omega), b1 x (by omega)]
  have w1 : m_up (m_up (m_up σ2 57 1 0) 57 2 0) 57 3 0 57 1 = 0 := by rw [m_nk (by decide), m_nk (by decide), m_eq]
  have w2 : m_up (m_up (m_up σ2 57 1 0) 57 2 0) 57 3 0 57 2 = 0 := by rw [m_nk (by decide), m_eq]
  have w3 : m_up (m_up (m_up σ2 57 1 0) 57 2 0) 57 3 0 57 3 = 0 := m_eq _ _ _ _
  generalize m_up (m_up (m_up σ2 57 1 0) 57 2 0) 57 3 0 = σf at z y w1 w2 w3 ⊢
  refine ⟨fun x hx => ?_, Or.inr ⟨hO, hG1.cells (fun j _ => by rw [y 23 (by decide)]) (fun x h1 h2 => y x (by omega)), k, s1, s2, ?_, ?_, fun n hn => ?_, fun n a b => ?_, ?_⟩, w1, w2, w3⟩
  · rw [y x (by omega), a1 x (by omega) (by omega) (by omega) (by omega)]
  · rw [y 46 (by decide)]; exact s3
  · unfold LIT LI at s4 ⊢
    rw [y 46 (by decide), y 47 (by decide), y 48 (by decide), y 49 (by decide), y 50 (by decide), y 51 (by decide)]
    exact s4
  · rw [y 32 (by decide)]; exact s5 n hn
  · rw [z 53 (by decide)]; exact b2 n a b
  · unfold CTL
    rw [z 52 (by decide), z 53 (by decide), z 54 (by decide), z 55 (by decide), z 56 (by decide)]
    rcases hp with ⟨q1, q2⟩ | ⟨-, q1, q2⟩
    · exact Or.inl ⟨fun q => q1 ⟨hgp, q⟩, q2⟩
    · exact Or.inr ⟨q1, q2⟩
