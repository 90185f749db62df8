/-! LEASTBARS: its public methods that tell it something -/
def TrI (σ : Mm) (h : List Int32) (pl : Int32) : Prop := σ 57 3 = pl ∧ h.length ≤ 16 ∧ σ 57 2 = nI h.length ∧ ∃ q, q < 16 ∧ σ 57 1 = nI q ∧ ∀ i, i < h.length → h[i]? = some (σ 58 ((q + 15 - i) % 16))
def PT (σ : Mm) (T : Tab) (set : Int32) : Prop := (Over T set ∧ σ 34 13 = 0 ∧ σ 34 14 = 1) ∨ (¬ Over T set ∧ gJ T set ≤ 150 ∧ σ 34 14 = 0 ∧ σ 34 13 = nI (gJ T set) ∧ σ 34 10 = nI (cntF (σ 43) (gJ T set)) ∧ ∀ n, n < gJ T set → isFar (gJ T set) (toX T set) (gF T set) (fun _ => true) n (σ 43 n))
def P1 (σ : Mm) (T : Tab) (N : Nat) : Prop := σ 0 11 = -9 ∨ ∃ p, p < 2 ^ N ∧ σ 0 11 = nI p ∧ PT σ T (nI p)
/-- LeastBars: n codes t on the TAPE; N MACHINES; fs the FREE EVENTS; h what can be taken back, the last first; pl where the plant is -/
def R1 (σ : Mm) (n : Nat) (t : Nat → Int32) (N : Nat) (K : Nat → Int32) (M : Nat → MV) (fs : Int32) (h : List Int32) (pl : Int32) : Prop := R1b σ n t N K M ∧ σ 0 10 = fs ∧ D1 σ (TA N K M) (allS N) fs ∧ P1 σ (TA N K M) N ∧ (∀ i, i < 150 → σ 45 i = -9) ∧ TrI σ h pl
theorem NG.cells' {σ σ' : Mm} {b : Nat} {T : Tab} {set : Int32} (h : NG σ b T set) (h1 : ∀ x, b ≤ x → x ≤ b + 7 → σ' x = σ x) : NG σ' b T set := h.cells (fun k _ => by rw [h1 b (Nat.le_refl _) (by omega)]) (fun x a c => h1 x (by omega) c)
theorem D1.cells {σ σ' : Mm} {T : Tab} {set fs : Int32} (h : D1 σ T set fs) (h1 : ∀ x, 23 ≤ x → x ≤ 33 → σ' x = σ x) (h2 : ∀ x, 46 ≤ x → x ≤ 56 → σ' x = σ x) : D1 σ' T set fs := by
  rcases h with h | ⟨a, b, k, c⟩
  · left
    rw [h1 23 (by decide) (by decide), h2 46 (by decide) (by decide), h2 47 (by decide) (by decide), h2 53 (by decide) (by decide), h2 52 (by decide) (by decide)]
    exact h
  · refine Or.inr ⟨a, b.cells' (fun x h3 h4 => h1 x (by omega) (by omega)), k, ?_⟩
    unfold DN LIT LI CTL at *
    rw [h2 46 (by decide) (by decide), h2 47 (by decide) (by decide), h2 48 (by decide) (by decide), h2 49 (by decide) (by decide), h2 50 (by decide) (by decide), h2 51 (by decide) (by decide), h2 52 (by decide) (by decide), h2 53 (by decide) (by decide), h2 54 (by decide) (by decide), h2 55 (by decide) (by decide), h2 56 (by decide) (by decide), h1 32 (by decide) (by decide)]
    exact c
theorem P1.cells {σ σ' : Mm} {T : Tab} {N : Nat} (h : P1 σ T N) (h0 : σ' 0 11 = σ 0 11) (h1 : ∀ x, 34 ≤ x → x ≤ 43 → σ' x = σ x) : P1 σ' T N := by
  unfold P1 PT at *
  rw [h0, h1 34 (by decide) (by decide), h1 43 (by decide) (by decide)]
  exact h
theorem TrI.cells {σ σ' : Mm} {h : List Int32} {pl : Int32} (q : TrI σ h pl) (h1 : ∀ x, 57 ≤ x → x ≤ 58 → σ' x = σ x) : TrI σ' h pl := by
  unfold TrI at *
  rw [h1 57 (by decide) (by decide), h1 58 (by decide) (by decide)]
  exact q
theorem R1.tape {σ σ' : Mm} {n n' : Nat} {t t' : Nat → Int32} {N : Nat} {K : Nat → Int32} {M : Nat → MV} {fs : Int32} {h : List Int32} {pl : Int32} (q : R1 σ n t N K M fs h pl) (h1 : σ' 1 1 = nI n') (h2 : n' ≤ 60) (h3 : ∀ i, i < n' → σ' 2 i = t' i) (h4 : ∀ x, x ≠ 1 → x ≠ 2 → σ' x = σ x) : R1 σ' n' t' N K M fs h pl := by
  obtain ⟨⟨a1, a2, a3, a4, a5, a6⟩, b, c, d, e, f⟩ := q
  refine ⟨⟨h1, h2, h3, by rw [h4 0 (by decide) (by decide)]; exact a4, a5, fun m hm => ?_⟩, by rw [h4 0 (by decide) (by decide)]; exact b, c.cells (fun x _ _ => h4 x (by omega) (by omega)) (fun x _ _ => h4 x (by omega) (by omega)), d.cells (by rw [h4 0 (by decide) (by decide)]) (fun x _ _ => h4 x (by omega) (by omega)), fun i hi => by rw [h4 45 (by decide) (by decide)]; exact e i hi, f.cells (fun x _ _ => h4 x (by omega) (by omega))⟩
  unfold HM
  rw [h4 (5 + 3 * m) (by omega) (by omega), h4 (5 + 3 * m + 1) (by omega) (by omega), h4 (5 + 3 * m + 2) (by omega) (by omega)]
  exact a6 m hm
theorem c_X7_type (c : Int32) {σ : Mm} {n : Nat} {t : Nat → Int32} {N : Nat} {K : Nat → Int32} {M : Nat → MV} {fs : Int32} {h : List Int32} {pl : Int32} (q : R1 σ n t N K M fs h pl) :
    EV Γ1 1 yX7_type cX7_type 2 (some .int) [.inr 0, .inl c] σ (fun r σ' => ((c < 0 ∨ 127 < c) ∧ r = -2 ∧ σ = σ') ∨ (¬ (c < 0 ∨ 127 < c) ∧ n = 60 ∧ r = -4 ∧ σ = σ') ∨ (¬ (c < 0 ∨ 127 < c) ∧ n < 60 ∧ r = nI (n + 1) ∧ R1 σ' (n + 1) (upd t n c) N K M fs h pl)) := by
  have hn := q.1.1
  have h60 := q.1.2.1
  refine EV.intro (by decide +kernel) (Nat.le_of_ble_eq_true rfl) ?_
  refine j_iload_n (pc := 0) dX7_type_0 rfl ?_
  refine j_if_lt (pc := 1) (tgt := 10) dX7_type_1 rfl (fun h1 => ?_) (fun h1 => ?_)
  · refine j_bipush (pc := 10) dX7_type_10 (v := (-2)) (by decide) ?_
    refine j_iret (pc := 12) dX7_type_12 ?_
    refine Or.inl ⟨?_, rfl, rfl⟩
    first | exact Or.inl h1 | exact Or.inr (by (simp only [Int32.lt_iff_toInt_lt, Int32.le_iff_toInt_le, ← Int32.toInt_inj, vp_in_iff, ti_0, ti_1, ti_2, ti_3, ti_4, ti_5, ti_6, ti_7, ti_8, ti_16, ti_48, ti_53, ti_60, ti_97, ti_104, ti_127, ti_149, ti_150, ti_151, ti_256, ti_1200, ti_m1, ti_m2, ti_m3, ti_m4, ti_m9] at *; omega))
  · refine j_iload_n (pc := 4) dX7_type_4 rfl ?_
    refine j_bipush (pc := 5) dX7_type_5 (v := 127) (by decide) ?_
    refine j_icmp_le (pc := 7) (tgt := 13) dX7_type_7 rfl (fun h7 => ?_) (fun h7 => ?_)
    · refine j_aload_n (pc := 13) dX7_type_13 rfl ?_
      refine j_getR (pc := 14) dX7_type_14 f_X7_12 (by first | rfl | with_reducible assumption) (by rfl) ?_
      refine j_iload_n (pc := 17) dX7_type_17 rfl ?_
      refine j_callVNi (pc := 18) dX7_type_18 k_X7_87 (c_X5_put c hn h60) (by first | rfl | with_reducible assumption) rfl rfl (by decide) rfl (Nat.le_of_ble_eq_true rfl) (fun r σ1 hp => ?_)
      have hc : ¬ (c < 0 ∨ 127 < c) := fun z => by
        rcases z with z | z
        · exact h1 z
        · simp only [Int32.lt_iff_toInt_lt, Int32.le_iff_toInt_le, ← Int32.toInt_inj, vp_in_iff, ti_0, ti_1, ti_2, ti_3, ti_4, ti_5, ti_6, ti_7, ti_8, ti_16, ti_48, ti_53, ti_60, ti_97, ti_104, ti_127, ti_149, ti_150, ti_151, ti_256, ti_1200, ti_m1, ti_m2, ti_m3, ti_m4, ti_m9] at *; omega
      refine j_if_eq (pc := 21) (tgt := 34) dX7_type_21 rfl (fun h21 => ?_) (fun h21 => ?_)
      · refine j_bipush (pc := 34) dX7_type_34 (v := (-4)) (by decide) ?_
        refine j_iret (pc := 36) dX7_type_36 ?_
        rcases hp with ⟨p1, p2, p3⟩ | ⟨p1, p2, p3⟩
        · first
            | (subst p3
               refine Or.inr (Or.inr ⟨hc, p1, m_eq _ _ _ _, q.tape (m_eq _ _ _ _) (by omega) (fun i hi => ?_) (fun x a b => by rw [m_ne a, m_ne b])⟩)
               rw [m_ne (by decide), m_row]
               by_cases z : i = n
               · subst z; rw [pk_us, pk_us]
               · rw [pk_un z, pk_un z]; exact q.1.2.2.1 i (by omega))
            | (rw [p2] at h21; exact absurd h21 (by decide))
        · first
            | exact Or.inr (Or.inl ⟨hc, p1, rfl, p3.symm⟩)
            | exact absurd p2 h21
      · refine j_aload_n (pc := 24) dX7_type_24 rfl ?_
        refine j_getR (pc := 25) dX7_type_25 f_X7_12 (by first | rfl | with_reducible assumption) (by rfl) ?_
        refine j_getI (pc := 28) dX7_type_28 f_X7_91 (by first | rfl | with_reducible assumption) (by rfl) ?_
        refine j_goto (pc := 31) (tgt := 36) dX7_type_31 rfl ?_
        refine j_iret (pc := 36) dX7_type_36 ?_
        rcases hp with ⟨p1, p2, p3⟩ | ⟨p1, p2, p3⟩
        · first
            | (subst p3
               refine Or.inr (Or.inr ⟨hc, p1, m_eq _ _ _ _, q.tape (m_eq _ _ _ _) (by omega) (fun i hi => ?_) (fun x a b => by rw [m_ne a, m_ne b])⟩)
               rw [m_ne (by decide), m_row]
               by_cases z : i = n
               · subst z; rw [pk_us, pk_us]
               · rw [pk_un z, pk_un z]; exact q.1.2.2.1 i (by omega))
            | (rw [p2] at h21; exact absurd h21 (by decide))
        · first
            | exact Or.inr (Or.inl ⟨hc, p1, rfl, p3.symm⟩)
            | exact absurd p2 h21
    · refine j_bipush (pc := 10) dX7_type_10 (v := (-2)) (by decide) ?_
      refine j_iret (pc := 12) dX7_type_12 ?_
      refine Or.inl ⟨?_, rfl, rfl⟩
      first | exact Or.inl h1 | exact Or.inr (by (simp only [Int32.lt_iff_toInt_lt, Int32.le_iff_toInt_le, ← Int32.toInt_inj, vp_in_iff, ti_0, ti_1, ti_2, ti_3, ti_4, ti_5, ti_6, ti_7, ti_8, ti_16, ti_48, ti_53, ti_60, ti_97, ti_104, ti_127, ti_149, ti_150, ti_151, ti_256, ti_1200, ti_m1, ti_m2, ti_m3, ti_m4, ti_m9] at *; omega))
theorem c_X7_wipe {σ : Mm} {n : Nat} {t : Nat → Int32} {N : Nat} {K : Nat → Int32} {M : Nat → MV} {fs : Int32} {h : List Int32} {pl : Int32} (q : R1 σ n t N K M fs h pl) : EV Γ1 1 yX7_wipe cX7_wipe 2 (some .int) [.inr 0] σ (fun r σ' => r = nI n ∧ R1 σ' 0 t N K M fs h pl) := by
  refine EV.intro (by decide +kernel) (Nat.le_of_ble_eq_true rfl) ?_
  refine j_aload_n (pc := 0) dX7_wipe_0 rfl ?_
  refine j_getR (pc := 1) dX7_wipe_1 f_X7_12 (by first | rfl | with_reducible assumption) (by rfl) ?_
  refine j_getI (pc := 4) dX7_wipe_4 f_X7_91 (by first | rfl | with_reducible assumption) (by rfl) ?_
  refine j_istore_n (pc := 7) dX7_wipe_7 (by decide) ?_
  refine j_aload_n (pc := 8) dX7_wipe_8 rfl ?_
  refine j_getR (pc := 9) dX7_wipe_9 f_X7_12 (by first | rfl | with_reducible assumption) (by rfl) ?_
  refine j_callVNv (pc := 12) dX7_wipe_12 k_X7_94 (c_X5_clear _) (by first | rfl | with_reducible assumption) rfl rfl (by decide) rfl (Nat.le_of_ble_eq_true rfl) (fun σ1 hp => ?_)
  obtain rfl := hp
  refine j_iload_n (pc := 15) dX7_wipe_15 rfl ?_
  refine j_iret (pc := 16) dX7_wipe_16 ?_
  exact ⟨q.1.1, q.tape (m_eq _ _ _ _) (by decide) (fun i hi => absurd hi (Nat.not_lt_zero _)) (fun x a b => m_ne a)⟩
theorem c_X7_ofMachine (m what : Int32) {σ : Mm} {n : Nat} {t : Nat → Int32} {N : Nat} {K : Nat → Int32} {M : Nat → MV} {fs : Int32} {h : List Int32} {pl : Int32} (q : R1 σ n t N K M fs h pl) :
    EV Γ1 1 yX7_ofMachine cX7_ofMachine 4 (some .int) [.inr 0, .inl m, .inl what] σ (fun r σ' => σ = σ' ∧ ((¬ vp_in m N ∧ r = -1) ∨ ∃ i, i < N ∧ m = nI i ∧ r = (if what = 0 then K i else if what = 1 then (M i).2.1 else if what = 2 then (M i).2.2.1 else if what = 3 then (M i).2.2.2.1 else if what = 4 then (M i).2.2.2.2 else -2))) := by
  have hN := q.1.2.2.2.1
  have h6 := q.1.2.2.2.2.1
  refine EV.intro (by decide +kernel) (Nat.le_of_ble_eq_true rfl) ?_
  refine j_aload_n (pc := 0) dX7_ofMachine_0 rfl ?_
  refine j_iload_n (pc := 1) dX7_ofMachine_1 rfl ?_
  refine j_callVi (pc := 2) dX7_ofMachine_2 k_X7_104 (c_X7_isMachine m hN h6) (by first | rfl | with_reducible assumption) rfl rfl (by decide) rfl (Nat.le_of_ble_eq_true rfl) (fun r σ1 hp => ?_)
  obtain ⟨rfl, hp⟩ := hp
  rcases hp with ⟨q2, rfl⟩ | ⟨q2, rfl⟩
  · refine j_if_ne (pc := 5) (tgt := 10) dX7_ofMachine_5 rfl (fun _ => ?_) (fun h => absurd h (by decide))
    obtain ⟨i, hi, rfl⟩ := vp_in_of q2 (by omega)
    obtain ⟨⟨gM0, gM1, gM2⟩, gL⟩ := isM_at (show i < 6 by omega)
    obtain ⟨e1, e2, e3⟩ := q.1.2.2.2.2.2 i hi
    refine j_aload_n (pc := 10) dX7_ofMachine_10 rfl ?_
    refine j_getR (pc := 11) dX7_ofMachine_11 f_X7_25 (by first | rfl | with_reducible assumption) (by rfl) ?_
    refine j_iload_n (pc := 14) dX7_ofMachine_14 rfl ?_
    refine j_aald (pc := 15) dX7_ofMachine_15 (by first | rfl | with_reducible assumption) (vp_in_nI (by omega) (by decide)) (by rw [nI_clamp (by omega)]; exact gL) ?_
    refine j_astore_n (pc := 16) dX7_ofMachine_16 (by decide) ?_
    refine j_iload_n (pc := 17) dX7_ofMachine_17 rfl ?_
    by_cases sw18_0 : what = 0
    · refine j_top sw18_0 ?_
      refine j_tableIn (pc := 18) (tgt := 52) dX7_ofMachine_18 (by decide) (by decide) (off := 34) rfl rfl ?_
      refine j_aload_n (pc := 52) dX7_ofMachine_52 rfl ?_
      refine j_getI (pc := 53) dX7_ofMachine_53 f_X7_107 (by first | rfl | with_reducible assumption) (by rfl) ?_
      refine j_iret (pc := 56) dX7_ofMachine_56 ?_
      refine ⟨rfl, Or.inr ⟨i, hi, rfl, ?_⟩⟩
      first | (rw [if_pos sw18_0]; exact e2) | (rw [if_neg sw18_0, if_pos sw18_1]; exact e1.2.1) | (rw [if_neg sw18_0, if_neg sw18_1, if_pos sw18_2]; exact e1.2.2.1) | (rw [if_neg sw18_0, if_neg sw18_1, if_neg sw18_2, if_pos sw18_3]; exact e1.2.2.2.1) | (rw [if_neg sw18_0, if_neg sw18_1, if_neg sw18_2, if_neg sw18_3, if_pos sw18_4]; exact e1.2.2.2.2.1) | (rw [if_neg sw18_0, if_neg sw18_1, if_neg sw18_2, if_neg sw18_3, if_neg sw18_4])
    by_cases sw18_1 : what = 1
    · refine j_top sw18_1 ?_
      refine j_tableIn (pc := 18) (tgt := 57) dX7_ofMachine_18 (by decide) (by decide) (off := 39) rfl rfl ?_
      refine j_aload_n (pc := 57) dX7_ofMachine_57 rfl ?_
      refine j_getI (pc := 58) dX7_ofMachine_58 f_X7_110 (by first | rfl | with_reducible assumption) (by rfl) ?_
      refine j_iret (pc := 61) dX7_ofMachine_61 ?_
      refine ⟨rfl, Or.inr ⟨i, hi, rfl, ?_⟩⟩
      first | (rw [if_pos sw18_0]; exact e2) | (rw [if_neg sw18_0, if_pos sw18_1]; exact e1.2.1) | (rw [if_neg sw18_0, if_neg sw18_1, if_pos sw18_2]; exact e1.2.2.1) | (rw [if_neg sw18_0, if_neg sw18_1, if_neg sw18_2, if_pos sw18_3]; exact e1.2.2.2.1) | (rw [if_neg sw18_0, if_neg sw18_1, if_neg sw18_2, if_neg sw18_3, if_pos sw18_4]; exact e1.2.2.2.2.1) | (rw [if_neg sw18_0, if_neg sw18_1, if_neg sw18_2, if_neg sw18_3, if_neg sw18_4])
    by_cases sw18_2 : what = 2
    · refine j_top sw18_2 ?_
      refine j_tableIn (pc := 18) (tgt := 62) dX7_ofMachine_18 (by decide) (by decide) (off := 44) rfl rfl ?_
      refine j_aload_n (pc := 62) dX7_ofMachine_62 rfl ?_
      refine j_getI (pc := 63) dX7_ofMachine_63 f_X7_113 (by first | rfl | with_reducible assumption) (by rfl) ?_
      refine j_iret (pc := 66) dX7_ofMachine_66 ?_
      refine ⟨rfl, Or.inr ⟨i, hi, rfl, ?_⟩⟩
      first | (rw [if_pos sw18_0]; exact e2) | (rw [if_neg sw18_0, if_pos sw18_1]; exact e1.2.1) | (rw [if_neg sw18_0, if_neg sw18_1, if_pos sw18_2]; exact e1.2.2.1) | (rw [if_neg sw18_0, if_neg sw18_1, if_neg sw18_2, if_pos sw18_3]; exact e1.2.2.2.1) | (rw [if_neg sw18_0, if_neg sw18_1, if_neg sw18_2, if_neg sw18_3, if_pos sw18_4]; exact e1.2.2.2.2.1) | (rw [if_neg sw18_0, if_neg sw18_1, if_neg sw18_2, if_neg sw18_3, if_neg sw18_4])
    by_cases sw18_3 : what = 3
    · refine j_top sw18_3 ?_
      refine j_tableIn (pc := 18) (tgt := 67) dX7_ofMachine_18 (by decide) (by decide) (off := 49) rfl rfl ?_
      refine j_aload_n (pc := 67) dX7_ofMachine_67 rfl ?_
      refine j_getI (pc := 68) dX7_ofMachine_68 f_X7_116 (by first | rfl | with_reducible assumption) (by rfl) ?_
      refine j_iret (pc := 71) dX7_ofMachine_71 ?_
      refine ⟨rfl, Or.inr ⟨i, hi, rfl, ?_⟩⟩
      first | (rw [if_pos sw18_0]; exact e2) | (rw [if_neg sw18_0, if_pos sw18_1]; exact e1.2.1) | (rw [if_neg sw18_0, if_neg sw18_1, if_pos sw18_2]; exact e1.2.2.1) | (rw [if_neg sw18_0, if_neg sw18_1, if_neg sw18_2, if_pos sw18_3]; exact e1.2.2.2.1) | (rw [if_neg sw18_0, if_neg sw18_1, if_neg sw18_2, if_neg sw18_3, if_pos sw18_4]; exact e1.2.2.2.2.1) | (rw [if_neg sw18_0, if_neg sw18_1, if_neg sw18_2, if_neg sw18_3, if_neg sw18_4])
    by_cases sw18_4 : what = 4
    · refine j_top sw18_4 ?_
      refine j_tableIn (pc := 18) (tgt := 72) dX7_ofMachine_18 (by decide) (by decide) (off := 54) rfl rfl ?_
      refine j_aload_n (pc := 72) dX7_ofMachine_72 rfl ?_
      refine j_getI (pc := 73) dX7_ofMachine_73 f_X7_119 (by first | rfl | with_reducible assumption) (by rfl) ?_
      refine j_iret (pc := 76) dX7_ofMachine_76 ?_
      refine ⟨rfl, Or.inr ⟨i, hi, rfl, ?_⟩⟩
      first | (rw [if_pos sw18_0]; exact e2) | (rw [if_neg sw18_0, if_pos sw18_1]; exact e1.2.1) | (rw [if_neg sw18_0, if_neg sw18_1, if_pos sw18_2]; exact e1.2.2.1) | (rw [if_neg sw18_0, if_neg sw18_1, if_neg sw18_2, if_pos sw18_3]; exact e1.2.2.2.1) | (rw [if_neg sw18_0, if_neg sw18_1, if_neg sw18_2, if_neg sw18_3, if_pos sw18_4]; exact e1.2.2.2.2.1) | (rw [if_neg sw18_0, if_neg sw18_1, if_neg sw18_2, if_neg sw18_3, if_neg sw18_4])
    refine j_tableOut (pc := 18) (tgt := 77) dX7_ofMachine_18 (by (simp only [Int32.lt_iff_toInt_lt, Int32.le_iff_toInt_le, ← Int32.toInt_inj, vp_in_iff, ti_0, ti_1, ti_2, ti_3, ti_4, ti_5, ti_6, ti_7, ti_8, ti_16, ti_48, ti_53, ti_60, ti_97, ti_104, ti_127, ti_149, ti_150, ti_151, ti_256, ti_1200, ti_m1, ti_m2, ti_m3, ti_m4, ti_m9] at *; omega)) rfl ?_
    refine j_bipush (pc := 77) dX7_ofMachine_77 (v := (-2)) (by decide) ?_
    refine j_iret (pc := 79) dX7_ofMachine_79 ?_
    refine ⟨rfl, Or.inr ⟨i, hi, rfl, ?_⟩⟩
    first | (rw [if_pos sw18_0]; exact e2) | (rw [if_neg sw18_0, if_pos sw18_1]; exact e1.2.1) | (rw [if_neg sw18_0, if_neg sw18_1, if_pos sw18_2]; exact e1.2.2.1) | (rw [if_neg sw18_0, if_neg sw18_1, if_neg sw18_2, if_pos sw18_3]; exact e1.2.2.2.1) | (rw [if_neg sw18_0, if_neg sw18_1, if_neg sw18_2, if_neg sw18_3, if_pos sw18_4]; exact e1.2.2.2.2.1) | (rw [if_neg sw18_0, if_neg sw18_1, if_neg sw18_2, if_neg sw18_3, if_neg sw18_4])
  · refine j_if_ne (pc := 5) (tgt := 10) dX7_ofMachine_5 rfl (fun h => absurd h (by decide)) (fun _ => ?_)
    refine j_iconst (pc := 8) dX7_ofMachine_8 (v := (-1)) (by decide) ?_
    refine j_iret (pc := 9) dX7_ofMachine_9 ?_
    exact ⟨rfl, Or.inl ⟨q2, rfl⟩⟩
theorem c_X7_step (m s e : Int32) {σ : Mm} {n : Nat} {t : Nat → Int32} {N : Nat} {K : Nat → Int32} {M : Nat → MV} {fs : Int32} {h : List Int32} {pl : Int32} (q : R1 σ n t N K M fs h pl) :
    EV Γ1 2 yX7_step cX7_step 4 (some .int) [.inr 0, .inl m, .inl s, .inl e] σ (fun r σ' => σ = σ' ∧ ((¬ (vp_in m N ∧ vp_in s 6 ∧ vp_in e 8) ∧ r = -1) ∨ ∃ i a b : Nat, i < N ∧ a < 6 ∧ b < 8 ∧ m = nI i ∧ s = nI a ∧ e = nI b ∧ r = (M i).1 (8 * a + b))) := by
  have hN := q.1.2.2.2.1
  have h6 := q.1.2.2.2.2.1
  refine EV.intro (by decide +kernel) (Nat.le_of_ble_eq_true rfl) ?_
  refine j_aload_n (pc := 0) dX7_step_0 rfl ?_
  refine j_iload_n (pc := 1) dX7_step_1 rfl ?_
  refine j_callVi (pc := 2) dX7_step_2 k_X7_104 (c_X7_isMachine m hN h6) (by first | rfl | with_reducible assumption) rfl rfl (by decide) rfl (Nat.le_of_ble_eq_true rfl) (fun r σ1 hp => ?_)
  obtain ⟨rfl, hp⟩ := hp
  rcases hp with ⟨q2, rfl⟩ | ⟨q2, rfl⟩
  · refine j_if_eq (pc := 5) (tgt := 22) dX7_step_5 rfl (fun h => absurd h (by decide)) (fun _ => ?_)
    refine j_iload_n (pc := 8) dX7_step_8 rfl ?_
    refine j_callSi (pc := 9) dX7_step_9 k_X7_122 (c_X7_isState _ _) rfl (by decide) rfl (Nat.le_of_ble_eq_true rfl) (fun r σ1 hp => ?_)
    obtain ⟨rfl, hp⟩ := hp
    rcases hp with ⟨q9, rfl⟩ | ⟨q9, rfl⟩
    · refine j_if_eq (pc := 12) (tgt := 22) dX7_step_12 rfl (fun h => absurd h (by decide)) (fun _ => ?_)
      refine j_iload_n (pc := 15) dX7_step_15 rfl ?_
      refine j_callSi (pc := 16) dX7_step_16 k_X7_101 (c_X7_isEvent _ _) rfl (by decide) rfl (Nat.le_of_ble_eq_true rfl) (fun r σ1 hp => ?_)
      obtain ⟨rfl, hp⟩ := hp
      rcases hp with ⟨q16, rfl⟩ | ⟨q16, rfl⟩
      · refine j_if_ne (pc := 19) (tgt := 24) dX7_step_19 rfl (fun _ => ?_) (fun h => absurd h (by decide))
        obtain ⟨i, hi, rfl⟩ := vp_in_of q2 (by omega)
        obtain ⟨⟨gM0, gM1, gM2⟩, gL⟩ := isM_at (show i < 6 by omega)
        obtain ⟨e1, e2, e3⟩ := q.1.2.2.2.2.2 i hi
        refine j_aload_n (pc := 24) dX7_step_24 rfl ?_
        refine j_getR (pc := 25) dX7_step_25 f_X7_25 (by first | rfl | with_reducible assumption) (by rfl) ?_
        refine j_iload_n (pc := 28) dX7_step_28 rfl ?_
        refine j_aald (pc := 29) dX7_step_29 (by first | rfl | with_reducible assumption) (vp_in_nI (by omega) (by decide)) (by rw [nI_clamp (by omega)]; exact gL) ?_
        refine j_iload_n (pc := 30) dX7_step_30 rfl ?_
        refine j_iload_n (pc := 31) dX7_step_31 rfl ?_
        refine j_callVNi (pc := 32) dX7_step_32 k_X7_125 (c_X2_target ⟨gM0, gM1, gM2⟩ _ _ _) (by first | rfl | with_reducible assumption) rfl rfl (by decide) rfl (Nat.le_of_ble_eq_true rfl) (fun r σ1 hp => ?_)
        obtain ⟨rfl, hp⟩ := hp
        refine j_iret (pc := 35) dX7_step_35 ?_
        obtain ⟨a, b, ha, hb, rfl, rfl, -, hc⟩ := i_se q9 q16
        refine ⟨rfl, Or.inr ⟨i, a, b, hi, ha, hb, rfl, rfl, rfl, ?_⟩⟩
        rcases hp with ⟨-, -, z⟩ | ⟨z, -⟩
        · rw [z, hc]; exact e1.1 _ (by omega)
        · exact absurd ⟨q9, q16⟩ z
      · refine j_if_ne (pc := 19) (tgt := 24) dX7_step_19 rfl (fun h => absurd h (by decide)) (fun _ => ?_)
        refine j_iconst (pc := 22) dX7_step_22 (v := (-1)) (by decide) ?_
        refine j_iret (pc := 23) dX7_step_23 ?_
        refine ⟨rfl, Or.inl ⟨fun z => ?_, rfl⟩⟩
        first | exact q2 z.1 | exact q9 z.2.1 | exact q16 z.2.2
    · refine j_if_eq (pc := 12) (tgt := 22) dX7_step_12 rfl (fun _ => ?_) (fun h => absurd h (by decide))
      refine j_iconst (pc := 22) dX7_step_22 (v := (-1)) (by decide) ?_
      refine j_iret (pc := 23) dX7_step_23 ?_
      refine ⟨rfl, Or.inl ⟨fun z => ?_, rfl⟩⟩
      first | exact q2 z.1 | exact q9 z.2.1 | exact q16 z.2.2
  · refine j_if_eq (pc := 5) (tgt := 22) dX7_step_5 rfl (fun _ => ?_) (fun h => absurd h (by decide))
    refine j_iconst (pc := 22) dX7_step_22 (v := (-1)) (by decide) ?_
    refine j_iret (pc := 23) dX7_step_23 ?_
    refine ⟨rfl, Or.inl ⟨fun z => ?_, rfl⟩⟩
    first | exact q2 z.1 | exact q9 z.2.1 | exact q16 z.2.2
/-! what a TEXT tells is well told -/
def okW (v : MV) : Prop := (∀ x, x < 48 → v.1 x = -9 ∨ ∃ t, t < 6 ∧ v.1 x = nI t) ∧ (∀ s, s < 6 → ∀ e, e < 8 → v.1 (8 * s + e) ≠ -9 → bt v.2.1 e = true ∧ ¬ v.2.2.2.2 < nI s ∧ ¬ v.2.2.2.2 < v.1 (8 * s + e)) ∧ (∀ i, 8 ≤ i → bt v.2.1 i = false)
theorem okW_0 : okW mv0 := ⟨fun _ _ => Or.inl rfl, fun _ _ _ _ q => absurd rfl q, fun i _ => b_0 i⟩
theorem mx_l (a b : Int32) {c : Int32} (h : ¬ a < c) : ¬ mx a b < c := by
  unfold mx
  by_cases q : a < b
  · rw [if_pos q]
    rw [Int32.lt_iff_toInt_lt] at *
    omega
  · rw [if_neg q]; exact h
theorem mx_r (a b : Int32) {c : Int32} (h : ¬ b < c) : ¬ mx a b < c := by
  unfold mx
  by_cases q : a < b
  · rw [if_pos q]; exact h
  · rw [if_neg q]
    rw [Int32.lt_iff_toInt_lt] at *
    omega
theorem lt_self (a : Int32) : ¬ a < a := by rw [Int32.lt_iff_toInt_lt]; omega
theorem b_bitI {j i : Nat} (hj : j < 32) (hi : i < 32) : bt (bitI (nI j)) i = decide (i = j) := b_bit j hj hi
theorem okW_S {v v' : MV} {s e t : Int32} (h : okW v) (hs : vp_in s 6) (he : vp_in e 8) (q : tellS v s e t = some v') : okW v' := by
  obtain ⟨i, j, hi, hj, rfl, rfl, -, hc⟩ := i_se hs he
  unfold tellS at q
  by_cases hf : isFig t = true
  · rw [if_pos hf, hc] at q
    obtain ⟨t', ht', rfl⟩ := vp_in_of (isFig_iff.mp hf) (by decide)
    by_cases h0 : v.1 (8 * i + j) = -9
    · rw [if_pos h0] at q
      cases q
      refine ⟨fun x hx => ?_, fun s hs e he z => ?_, fun k hk => ?_⟩
      · by_cases hx2 : x = 8 * i + j
        · subst hx2; exact Or.inr ⟨t', ht', pk_us⟩
        · have e1 : upd v.1 (8 * i + j) (nI t') x = v.1 x := pk_un hx2
          dsimp only
          rw [e1]
          exact h.1 x hx
      · dsimp only at z ⊢
        by_cases hx2 : 8 * s + e = 8 * i + j
        · have h1 : s = i := by omega
          have h2 : e = j := by omega
          subst h1 h2
          rw [b_or, b_bitI (by omega) (by omega), pk_us]
          refine ⟨by simp, mx_r _ _ (mx_l _ _ (lt_self _)), mx_r _ _ (mx_r _ _ (lt_self _))⟩
        · rw [pk_un hx2] at z ⊢
          obtain ⟨a, b, c⟩ := h.2.1 s hs e he z
          rw [b_or, a]
          exact ⟨rfl, mx_l _ _ b, mx_l _ _ c⟩
      · dsimp only
        rw [b_or, h.2.2 k hk, Bool.false_or]
        by_cases hk2 : k < 32
        · rw [b_bitI (by omega) hk2]; simp; omega
        · exact b_big (by omega)
    · rw [if_neg h0] at q
      by_cases h1 : v.1 (8 * i + j) = nI t'
      · rw [if_pos h1] at q; cases q; exact h
      · rw [if_neg h1] at q; cases q
  · rw [if_neg hf] at q; cases q
theorem okW_M {v v' : MV} {t : Int32} (h : okW v) (q : tellM v t = some v') : okW v' := by
  unfold tellM at q
  by_cases hf : isFig t = true
  · rw [if_pos hf] at q
    cases q
    exact ⟨h.1, fun s hs e he z => ⟨(h.2.1 s hs e he z).1, mx_l _ _ (h.2.1 s hs e he z).2.1, mx_l _ _ (h.2.1 s hs e he z).2.2⟩, h.2.2⟩
  · rw [if_neg hf] at q; cases q
theorem okW_E {v v' : MV} {t : Int32} (h : okW v) (q : tellE v t = some v') : okW v' := by
  unfold tellE at q
  by_cases hf : isLet t = true
  · rw [if_pos hf] at q
    obtain ⟨j, hj, rfl⟩ := vp_in_of (isLet_iff.mp hf) (by decide)
    cases q
    refine ⟨h.1, fun s hs e he z => ⟨?_, (h.2.1 s hs e he z).2⟩, fun k hk => ?_⟩
    · dsimp only
      rw [b_or, (h.2.1 s hs e he z).1, Bool.true_or]
    · dsimp only
      rw [b_or, h.2.2 k hk, Bool.false_or]
      by_cases hk2 : k < 32
      · rw [b_bitI (by omega) hk2]; simp; omega
      · exact b_big (by omega)
  · rw [if_neg hf] at q; cases q
/-- a reader's state is as it should be -/
def okR (s : RS) : Prop := s.1 ≤ 5 ∧ (s.1 = 1 ∨ s.1 = 2 → vp_in s.2.1 6) ∧ (s.1 = 2 → vp_in s.2.2.1 8) ∧ okW s.2.2.2
theorem okR_step {s s' : RS} {c : Int32} (h : okR s) (q : rdStep s c = some s') : okR s' := by
  obtain ⟨aw, fr, ev, v⟩ := s
  obtain ⟨h1, h2, h3, h4⟩ := h
  dsimp only at h1 h2 h3 h4
  have hcs : aw = 0 ∨ aw = 1 ∨ aw = 2 ∨ aw = 3 ∨ aw = 4 ∨ aw = 5 := by omega
  unfold rdStep at q
  rcases hcs with rfl | rfl | rfl | rfl | rfl | rfl <;> dsimp only at q
  · by_cases a : c = 42
    · rw [if_pos a] at q; cases q; exact ⟨by simp, fun z => by simp at z, fun z => by simp at z, h4⟩
    · rw [if_neg a] at q
      by_cases b : c = 33
      · rw [if_pos b] at q; cases q; exact ⟨by simp, fun z => by simp at z, fun z => by simp at z, h4⟩
      · rw [if_neg b] at q
        by_cases d : isFig (c - 48) = true
        · rw [if_pos d] at q; cases q; exact ⟨by simp, fun _ => isFig_iff.mp d, fun z => by simp at z, h4⟩
        · rw [if_neg d] at q; cases q
  · by_cases d : isLet (c - 97) = true
    · rw [if_pos d] at q; cases q; exact ⟨by simp, fun _ => h2 (Or.inl rfl), fun _ => isLet_iff.mp d, h4⟩
    · rw [if_neg d] at q; cases q
  · cases ht : tellS v fr ev (c - 48) with
    | none => rw [ht] at q; cases q
    | some v' => rw [ht] at q; cases q; exact ⟨by simp, fun z => by simp at z, fun z => by simp at z, okW_S h4 (h2 (Or.inr rfl)) (h3 rfl) ht⟩
  · cases ht : tellM v (c - 48) with
    | none => rw [ht] at q; cases q
    | some v' => rw [ht] at q; cases q; exact ⟨by simp, fun z => by simp at z, fun z => by simp at z, okW_M h4 ht⟩
  · cases ht : tellE v (c - 97) with
    | none => rw [ht] at q; cases q
    | some v' => rw [ht] at q; cases q; exact ⟨by simp, fun z => by simp at z, fun z => by simp at z, okW_E h4 ht⟩
  · by_cases a : c = 32
    · rw [if_pos a] at q; cases q; exact ⟨by simp, fun z => by simp at z, fun z => by simp at z, h4⟩
    · rw [if_neg a] at q; cases q
theorem okR_go {t : Nat → Int32} : ∀ (k p : Nat) (s s' : RS), okR s → rdGo t k p s = .inr s' → okR s' := by
  intro k
  induction k with
  | zero => intro p s s' h q; simp only [rdGo] at q; cases q; exact h
  | succ k ih =>
    intro p s s' h q
    simp only [rdGo] at q
    cases hs : rdStep s (t p) with
    | none => rw [hs] at q; cases q
    | some s2 => rw [hs] at q; exact ih (p + 1) s2 s' (okR_step h hs) q
theorem rd_okV {t : Nat → Int32} {n : Nat} {fr ev k : Int32} {v : MV} (hk : k = 0 ∨ k = 1) (h : rdEnd n (rdGo t n 0 (0, fr, ev, mv0)) = .inr v) : okV k v := by
  cases hg : rdGo t n 0 (0, fr, ev, mv0) with
  | inl p => rw [hg] at h; cases h
  | inr s =>
    rw [hg] at h
    have h1 := okR_go n 0 _ s ⟨by simp, fun z => by simp at z, fun z => by simp at z, okW_0⟩ hg
    simp only [rdEnd] at h
    by_cases h5 : s.1 = 5
    · rw [if_pos h5] at h
      cases h
      exact ⟨hk, h1.2.2.2.1, fun a ha e he z => (h1.2.2.2.2.1 a ha e he z).1, h1.2.2.2.2.2⟩
    · rw [if_neg h5] at h; cases h
