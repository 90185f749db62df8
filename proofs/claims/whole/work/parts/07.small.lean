/-! small static methods of LeastBars, and of the JDK -/
theorem c_X7_isState (s : Int32) (σ : Mm) : EV Γ1 0 yX7_isState cX7_isState 1 (some .boolean) [.inl s] σ (bz (vp_in s 6) σ) := by
  refine EV.intro (by decide +kernel) (Nat.le_of_ble_eq_true rfl) ?_
  refine j_iload_n (pc := 0) dX7_isState_0 rfl ?_
  refine j_if_lt (pc := 1) (tgt := 14) dX7_isState_1 rfl (fun h1 => ?_) (fun h1 => ?_)
  · refine j_iconst (pc := 14) dX7_isState_14 (v := 0) (by decide) ?_
    refine j_zret (pc := 15) dX7_isState_15 (Or.inl rfl) ?_
    exact ⟨rfl, Or.inr ⟨by (simp only [Int32.lt_iff_toInt_lt, Int32.le_iff_toInt_le, ← Int32.toInt_inj, vp_in_iff, ti_0, ti_1, ti_2, ti_3, ti_4, ti_5, ti_6, ti_7, ti_8, ti_16, ti_48, ti_53, ti_60, ti_97, ti_104, ti_127, ti_149, ti_150, ti_151, ti_256, ti_1200, ti_m1, ti_m2, ti_m3, ti_m4, ti_m9] at *; omega), rfl⟩⟩
  · refine j_iload_n (pc := 4) dX7_isState_4 rfl ?_
    refine j_bipush (pc := 5) dX7_isState_5 (v := 6) (by decide) ?_
    refine j_icmp_ge (pc := 7) (tgt := 14) dX7_isState_7 rfl (fun h7 => ?_) (fun h7 => ?_)
    · refine j_iconst (pc := 14) dX7_isState_14 (v := 0) (by decide) ?_
      refine j_zret (pc := 15) dX7_isState_15 (Or.inl rfl) ?_
      exact ⟨rfl, Or.inr ⟨by (simp only [Int32.lt_iff_toInt_lt, Int32.le_iff_toInt_le, ← Int32.toInt_inj, vp_in_iff, ti_0, ti_1, ti_2, ti_3, ti_4, ti_5, ti_6, ti_7, ti_8, ti_16, ti_48, ti_53, ti_60, ti_97, ti_104, ti_127, ti_149, ti_150, ti_151, ti_256, ti_1200, ti_m1, ti_m2, ti_m3, ti_m4, ti_m9] at *; omega), rfl⟩⟩
    · refine j_iconst (pc := 10) dX7_isState_10 (v := 1) (by decide) ?_
      refine j_goto (pc := 11) (tgt := 15) dX7_isState_11 rfl ?_
      refine j_zret (pc := 15) dX7_isState_15 (Or.inr rfl) ?_
      exact ⟨rfl, Or.inl ⟨by (simp only [Int32.lt_iff_toInt_lt, Int32.le_iff_toInt_le, ← Int32.toInt_inj, vp_in_iff, ti_0, ti_1, ti_2, ti_3, ti_4, ti_5, ti_6, ti_7, ti_8, ti_16, ti_48, ti_53, ti_60, ti_97, ti_104, ti_127, ti_149, ti_150, ti_151, ti_256, ti_1200, ti_m1, ti_m2, ti_m3, ti_m4, ti_m9] at *; omega), rfl⟩⟩
theorem c_X7_isEvent (s : Int32) (σ : Mm) : EV Γ1 0 yX7_isEvent cX7_isEvent 1 (some .boolean) [.inl s] σ (bz (vp_in s 8) σ) := by
  refine EV.intro (by decide +kernel) (Nat.le_of_ble_eq_true rfl) ?_
  refine j_iload_n (pc := 0) dX7_isEvent_0 rfl ?_
  refine j_if_lt (pc := 1) (tgt := 14) dX7_isEvent_1 rfl (fun h1 => ?_) (fun h1 => ?_)
  · refine j_iconst (pc := 14) dX7_isEvent_14 (v := 0) (by decide) ?_
    refine j_zret (pc := 15) dX7_isEvent_15 (Or.inl rfl) ?_
    exact ⟨rfl, Or.inr ⟨by (simp only [Int32.lt_iff_toInt_lt, Int32.le_iff_toInt_le, ← Int32.toInt_inj, vp_in_iff, ti_0, ti_1, ti_2, ti_3, ti_4, ti_5, ti_6, ti_7, ti_8, ti_16, ti_48, ti_53, ti_60, ti_97, ti_104, ti_127, ti_149, ti_150, ti_151, ti_256, ti_1200, ti_m1, ti_m2, ti_m3, ti_m4, ti_m9] at *; omega), rfl⟩⟩
  · refine j_iload_n (pc := 4) dX7_isEvent_4 rfl ?_
    refine j_bipush (pc := 5) dX7_isEvent_5 (v := 8) (by decide) ?_
    refine j_icmp_ge (pc := 7) (tgt := 14) dX7_isEvent_7 rfl (fun h7 => ?_) (fun h7 => ?_)
    · refine j_iconst (pc := 14) dX7_isEvent_14 (v := 0) (by decide) ?_
      refine j_zret (pc := 15) dX7_isEvent_15 (Or.inl rfl) ?_
      exact ⟨rfl, Or.inr ⟨by (simp only [Int32.lt_iff_toInt_lt, Int32.le_iff_toInt_le, ← Int32.toInt_inj, vp_in_iff, ti_0, ti_1, ti_2, ti_3, ti_4, ti_5, ti_6, ti_7, ti_8, ti_16, ti_48, ti_53, ti_60, ti_97, ti_104, ti_127, ti_149, ti_150, ti_151, ti_256, ti_1200, ti_m1, ti_m2, ti_m3, ti_m4, ti_m9] at *; omega), rfl⟩⟩
    · refine j_iconst (pc := 10) dX7_isEvent_10 (v := 1) (by decide) ?_
      refine j_goto (pc := 11) (tgt := 15) dX7_isEvent_11 rfl ?_
      refine j_zret (pc := 15) dX7_isEvent_15 (Or.inr rfl) ?_
      exact ⟨rfl, Or.inl ⟨by (simp only [Int32.lt_iff_toInt_lt, Int32.le_iff_toInt_le, ← Int32.toInt_inj, vp_in_iff, ti_0, ti_1, ti_2, ti_3, ti_4, ti_5, ti_6, ti_7, ti_8, ti_16, ti_48, ti_53, ti_60, ti_97, ti_104, ti_127, ti_149, ti_150, ti_151, ti_256, ti_1200, ti_m1, ti_m2, ti_m3, ti_m4, ti_m9] at *; omega), rfl⟩⟩
theorem c_X7_isJoint (s : Int32) (σ : Mm) : EV Γ1 0 yX7_isJoint cX7_isJoint 1 (some .boolean) [.inl s] σ (bz (vp_in s 150) σ) := by
  refine EV.intro (by decide +kernel) (Nat.le_of_ble_eq_true rfl) ?_
  refine j_iload_n (pc := 0) dX7_isJoint_0 rfl ?_
  refine j_if_lt (pc := 1) (tgt := 15) dX7_isJoint_1 rfl (fun h1 => ?_) (fun h1 => ?_)
  · refine j_iconst (pc := 15) dX7_isJoint_15 (v := 0) (by decide) ?_
    refine j_zret (pc := 16) dX7_isJoint_16 (Or.inl rfl) ?_
    exact ⟨rfl, Or.inr ⟨by (simp only [Int32.lt_iff_toInt_lt, Int32.le_iff_toInt_le, ← Int32.toInt_inj, vp_in_iff, ti_0, ti_1, ti_2, ti_3, ti_4, ti_5, ti_6, ti_7, ti_8, ti_16, ti_48, ti_53, ti_60, ti_97, ti_104, ti_127, ti_149, ti_150, ti_151, ti_256, ti_1200, ti_m1, ti_m2, ti_m3, ti_m4, ti_m9] at *; omega), rfl⟩⟩
  · refine j_iload_n (pc := 4) dX7_isJoint_4 rfl ?_
    refine j_sipush (pc := 5) dX7_isJoint_5 (v := 150) (by decide) ?_
    refine j_icmp_ge (pc := 8) (tgt := 15) dX7_isJoint_8 rfl (fun h8 => ?_) (fun h8 => ?_)
    · refine j_iconst (pc := 15) dX7_isJoint_15 (v := 0) (by decide) ?_
      refine j_zret (pc := 16) dX7_isJoint_16 (Or.inl rfl) ?_
      exact ⟨rfl, Or.inr ⟨by (simp only [Int32.lt_iff_toInt_lt, Int32.le_iff_toInt_le, ← Int32.toInt_inj, vp_in_iff, ti_0, ti_1, ti_2, ti_3, ti_4, ti_5, ti_6, ti_7, ti_8, ti_16, ti_48, ti_53, ti_60, ti_97, ti_104, ti_127, ti_149, ti_150, ti_151, ti_256, ti_1200, ti_m1, ti_m2, ti_m3, ti_m4, ti_m9] at *; omega), rfl⟩⟩
    · refine j_iconst (pc := 11) dX7_isJoint_11 (v := 1) (by decide) ?_
      refine j_goto (pc := 12) (tgt := 16) dX7_isJoint_12 rfl ?_
      refine j_zret (pc := 16) dX7_isJoint_16 (Or.inr rfl) ?_
      exact ⟨rfl, Or.inl ⟨by (simp only [Int32.lt_iff_toInt_lt, Int32.le_iff_toInt_le, ← Int32.toInt_inj, vp_in_iff, ti_0, ti_1, ti_2, ti_3, ti_4, ti_5, ti_6, ti_7, ti_8, ti_16, ti_48, ti_53, ti_60, ti_97, ti_104, ti_127, ti_149, ti_150, ti_151, ti_256, ti_1200, ti_m1, ti_m2, ti_m3, ti_m4, ti_m9] at *; omega), rfl⟩⟩
theorem c_X7_isPlaceInWord (k : Int32) (σ : Mm) : EV Γ1 0 yX7_isPlaceInWord cX7_isPlaceInWord 1 (some .boolean) [.inl k] σ (bz (k = -9 ∨ vp_in k 150) σ) := by
  refine EV.intro (by decide +kernel) (Nat.le_of_ble_eq_true rfl) ?_
  refine j_iload_n (pc := 0) dX7_isPlaceInWord_0 rfl ?_
  refine j_bipush (pc := 1) dX7_isPlaceInWord_1 (v := (-9)) (by decide) ?_
  refine j_icmp_eq (pc := 3) (tgt := 17) dX7_isPlaceInWord_3 rfl (fun h3 => ?_) (fun h3 => ?_)
  · refine j_iconst (pc := 17) dX7_isPlaceInWord_17 (v := 1) (by decide) ?_
    refine j_goto (pc := 18) (tgt := 22) dX7_isPlaceInWord_18 rfl ?_
    refine j_zret (pc := 22) dX7_isPlaceInWord_22 (Or.inr rfl) ?_
    exact ⟨rfl, Or.inl ⟨by (simp only [Int32.lt_iff_toInt_lt, Int32.le_iff_toInt_le, ← Int32.toInt_inj, vp_in_iff, ti_0, ti_1, ti_2, ti_3, ti_4, ti_5, ti_6, ti_7, ti_8, ti_16, ti_48, ti_53, ti_60, ti_97, ti_104, ti_127, ti_149, ti_150, ti_151, ti_256, ti_1200, ti_m1, ti_m2, ti_m3, ti_m4, ti_m9] at *; omega), rfl⟩⟩
  · refine j_iload_n (pc := 6) dX7_isPlaceInWord_6 rfl ?_
    refine j_if_lt (pc := 7) (tgt := 21) dX7_isPlaceInWord_7 rfl (fun h7 => ?_) (fun h7 => ?_)
    · refine j_iconst (pc := 21) dX7_isPlaceInWord_21 (v := 0) (by decide) ?_
      refine j_zret (pc := 22) dX7_isPlaceInWord_22 (Or.inl rfl) ?_
      exact ⟨rfl, Or.inr ⟨by (simp only [Int32.lt_iff_toInt_lt, Int32.le_iff_toInt_le, ← Int32.toInt_inj, vp_in_iff, ti_0, ti_1, ti_2, ti_3, ti_4, ti_5, ti_6, ti_7, ti_8, ti_16, ti_48, ti_53, ti_60, ti_97, ti_104, ti_127, ti_149, ti_150, ti_151, ti_256, ti_1200, ti_m1, ti_m2, ti_m3, ti_m4, ti_m9] at *; omega), rfl⟩⟩
    · refine j_iload_n (pc := 10) dX7_isPlaceInWord_10 rfl ?_
      refine j_sipush (pc := 11) dX7_isPlaceInWord_11 (v := 150) (by decide) ?_
      refine j_icmp_ge (pc := 14) (tgt := 21) dX7_isPlaceInWord_14 rfl (fun h14 => ?_) (fun h14 => ?_)
      · refine j_iconst (pc := 21) dX7_isPlaceInWord_21 (v := 0) (by decide) ?_
        refine j_zret (pc := 22) dX7_isPlaceInWord_22 (Or.inl rfl) ?_
        exact ⟨rfl, Or.inr ⟨by (simp only [Int32.lt_iff_toInt_lt, Int32.le_iff_toInt_le, ← Int32.toInt_inj, vp_in_iff, ti_0, ti_1, ti_2, ti_3, ti_4, ti_5, ti_6, ti_7, ti_8, ti_16, ti_48, ti_53, ti_60, ti_97, ti_104, ti_127, ti_149, ti_150, ti_151, ti_256, ti_1200, ti_m1, ti_m2, ti_m3, ti_m4, ti_m9] at *; omega), rfl⟩⟩
      · refine j_iconst (pc := 17) dX7_isPlaceInWord_17 (v := 1) (by decide) ?_
        refine j_goto (pc := 18) (tgt := 22) dX7_isPlaceInWord_18 rfl ?_
        refine j_zret (pc := 22) dX7_isPlaceInWord_22 (Or.inr rfl) ?_
        exact ⟨rfl, Or.inl ⟨by (simp only [Int32.lt_iff_toInt_lt, Int32.le_iff_toInt_le, ← Int32.toInt_inj, vp_in_iff, ti_0, ti_1, ti_2, ti_3, ti_4, ti_5, ti_6, ti_7, ti_8, ti_16, ti_48, ti_53, ti_60, ti_97, ti_104, ti_127, ti_149, ti_150, ti_151, ti_256, ti_1200, ti_m1, ti_m2, ti_m3, ti_m4, ti_m9] at *; omega), rfl⟩⟩
theorem c_X7_isIn (x : Int32) {j : Nat} (hj : j < 32) (σ : Mm) : EV Γ1 0 yX7_isIn cX7_isIn 2 (some .boolean) [.inl x, .inl (nI j)] σ (bz (bt x j = true) σ) := by
  refine EV.intro (by decide +kernel) (Nat.le_of_ble_eq_true rfl) ?_
  refine j_iload_n (pc := 0) dX7_isIn_0 rfl ?_
  refine j_iload_n (pc := 1) dX7_isIn_1 rfl ?_
  refine j_ishr (pc := 2) dX7_isIn_2 ?_
  refine j_iconst (pc := 3) dX7_isIn_3 (v := 1) (by decide) ?_
  refine j_iand (pc := 4) dX7_isIn_4 ?_
  refine j_iconst (pc := 5) dX7_isIn_5 (v := 1) (by decide) ?_
  refine j_icmp_ne (pc := 6) (tgt := 13) dX7_isIn_6 rfl (fun h6 => ?_) (fun h6 => ?_)
  · refine j_iconst (pc := 13) dX7_isIn_13 (v := 0) (by decide) ?_
    refine j_zret (pc := 14) dX7_isIn_14 (Or.inl rfl) ?_
    exact ⟨rfl, Or.inr ⟨fun q => h6 ((isin_iff hj).mpr q), rfl⟩⟩
  · refine j_iconst (pc := 9) dX7_isIn_9 (v := 1) (by decide) ?_
    refine j_goto (pc := 10) (tgt := 14) dX7_isIn_10 rfl ?_
    refine j_zret (pc := 14) dX7_isIn_14 (Or.inr rfl) ?_
    exact ⟨rfl, Or.inl ⟨(isin_iff hj).mp h6, rfl⟩⟩
theorem c_X7_leastIn (x : Int32) (σ : Mm) : EV Γ1 1 yX7_leastIn cX7_leastIn 2 (some .int) [.inl x] σ (vz (lstE (fun e => bt x e)) σ) := by
  refine EV.intro (by decide +kernel) (Nat.le_of_ble_eq_true rfl) ?_
  have loop : ∀ (n e : Nat), e + n = 8 → (∀ j, j < e → bt x j = false) → AJ Γ1 1 RX7 cX7_leastIn 2 (some .int) (vz (lstE (fun e => bt x e)) σ) 2 [some (.inl x), some (.inl (nI e))] [] σ := by
    intro n
    induction n with
    | zero =>
      intro e he hj
      obtain rfl : e = 8 := by omega
      refine j_iload_n (pc := 2) dX7_leastIn_2 rfl ?_
      refine j_bipush (pc := 3) dX7_leastIn_3 (v := 8) (by decide) ?_
      refine j_icmp_ge (pc := 5) (tgt := 24) dX7_leastIn_5 rfl (fun h5 => ?_) (fun h5 => absurd (by decide) h5)
      refine j_bipush (pc := 24) dX7_leastIn_24 (v := (-9)) (by decide) ?_
      refine j_iret (pc := 26) dX7_leastIn_26 ?_
      exact ⟨rfl, (lst_none hj).symm⟩
    | succ n ih =>
      intro e he hj
      refine j_iload_n (pc := 2) dX7_leastIn_2 rfl ?_
      refine j_bipush (pc := 3) dX7_leastIn_3 (v := 8) (by decide) ?_
      refine j_icmp_ge (pc := 5) (tgt := 24) dX7_leastIn_5 rfl (fun h5 => absurd h5 (nI_ge (b := 8) (by omega) (by decide))) (fun h5 => ?_)
      refine j_iload_n (pc := 8) dX7_leastIn_8 rfl ?_
      refine j_iload_n (pc := 9) dX7_leastIn_9 rfl ?_
      refine j_callSi (pc := 10) dX7_leastIn_10 k_X7_246 (c_X7_isIn x (j := e) (by omega) σ) rfl (by decide) rfl (Nat.le_of_ble_eq_true rfl) (fun r σ1 hp => ?_)
      obtain ⟨rfl, hp⟩ := hp
      rcases hp with ⟨q10, rfl⟩ | ⟨q10, rfl⟩
      · refine j_if_eq (pc := 13) (tgt := 18) dX7_leastIn_13 rfl (fun h => absurd h (by decide)) (fun _ => ?_)
        refine j_iload_n (pc := 16) dX7_leastIn_16 rfl ?_
        refine j_iret (pc := 17) dX7_leastIn_17 ?_
        exact ⟨rfl, (lst_hit (by omega) q10 hj).symm⟩
      · refine j_if_eq (pc := 13) (tgt := 18) dX7_leastIn_13 rfl (fun _ => ?_) (fun h => absurd h (by decide))
        refine j_iinc1 (pc := 18) dX7_leastIn_18 rfl ?_
        refine j_goto (pc := 21) (tgt := 2) dX7_leastIn_21 rfl ?_
        rw [nI_1]
        refine ih (e + 1) (by omega) (fun j h => ?_)
        by_cases h2 : j = e
        · subst h2; simpa using q10
        · exact hj j (by omega)
  refine j_iconst (pc := 0) dX7_leastIn_0 (v := 0) (by decide) ?_
  refine j_istore_n (pc := 1) dX7_leastIn_1 (by decide) ?_
  exact loop 8 0 rfl (fun j h => absurd h (Nat.not_lt_zero j))
/-- Arrays.fill -/
def m_fill (σ : Mm) (a n : Nat) (v : Int32) : Mm := fun x => if x = a then (fun j => if j < n then v else σ x j) else σ x
theorem m_fill0 (σ : Mm) (a : Nat) (v : Int32) : m_fill σ a 0 v = σ := by
  funext x j
  simp [m_fill]
theorem m_fillS (σ : Mm) (a n : Nat) (v : Int32) : m_up (m_fill σ a n v) a n v = m_fill σ a (n + 1) v := by
  funext x j
  by_cases hx : x = a
  · subst hx
    by_cases hj : j = n
    · subst hj
      simp [m_up, upd, m_fill]
    · have : (j < n + 1) ↔ j < n := by omega
      simp [m_up, upd, m_fill, hj, this]
  · simp [m_up, m_fill, hx]
theorem c_fill {a n : Nat} {ids : List Nat} (hg : Γ1[a]? = some (.inl (0, n, ids))) (hn : n < 2 ^ 31) (v : Int32) (σ : Mm) : EV Γ1 0 yJ7_fill_53178 cJ7_fill_53178 4 none [.inr a, .inl v] σ (mz (m_fill σ a n v)) := by
  refine EV.intro (by decide +kernel) (Nat.le_of_ble_eq_true rfl) ?_
  have loop : ∀ (k i : Nat), i + k = n → AJ Γ1 0 RJ7 cJ7_fill_53178 4 none (mz (m_fill σ a n v)) 5 [some (.inr a), some (.inl v), some (.inl (nI i)), some (.inl (nI n))] [] (m_fill σ a i v) := by
    intro k
    induction k with
    | zero =>
      intro i hi
      obtain rfl : i = n := by omega
      refine j_iload_n (pc := 5) dJ7_fill_53178_5 rfl ?_
      refine j_iload_n (pc := 6) dJ7_fill_53178_6 rfl ?_
      refine j_icmp_ge (pc := 7) (tgt := 20) dJ7_fill_53178_7 rfl (fun h7 => ?_) (fun h7 => absurd (Int32.le_refl _) h7)
      refine j_vret (pc := 20) dJ7_fill_53178_20 ?_
      exact rfl
    | succ k ih =>
      intro i hi
      refine j_iload_n (pc := 5) dJ7_fill_53178_5 rfl ?_
      refine j_iload_n (pc := 6) dJ7_fill_53178_6 rfl ?_
      refine j_icmp_ge (pc := 7) (tgt := 20) dJ7_fill_53178_7 rfl (fun h7 => absurd h7 (nI_ge (by omega) hn)) (fun h7 => ?_)
      refine j_aload_n (pc := 10) dJ7_fill_53178_10 rfl ?_
      refine j_iload_n (pc := 11) dJ7_fill_53178_11 rfl ?_
      refine j_iload_n (pc := 12) dJ7_fill_53178_12 rfl ?_
      refine j_iast (pc := 13) dJ7_fill_53178_13 (by first | rfl | with_reducible assumption) (vp_in_nI (by omega) hn) ?_
      rw [nI_clamp (by omega), m_fillS]
      refine j_iinc1 (pc := 14) dJ7_fill_53178_14 rfl ?_
      refine j_goto (pc := 17) (tgt := 5) dJ7_fill_53178_17 rfl ?_
      rw [nI_1]
      exact ih (i + 1) (by omega)
  refine j_iconst (pc := 0) dJ7_fill_53178_0 (v := 0) (by decide) ?_
  refine j_istore_n (pc := 1) dJ7_fill_53178_1 (by decide) ?_
  refine j_aload_n (pc := 2) dJ7_fill_53178_2 rfl ?_
  refine j_alen (pc := 3) dJ7_fill_53178_3 (by first | rfl | with_reducible assumption) (v := _) (by rfl) ?_
  refine j_istore_n (pc := 4) dJ7_fill_53178_4 (by decide) ?_
  have h := loop n 0 (by omega)
  rw [m_fill0] at h
  exact h
/-- Tape -/
theorem c_X5_put (code : Int32) {σ : Mm} {n : Nat} (hn : σ 1 1 = nI n) (h : n ≤ 60) : EV Γ1 0 yX5_put cX5_put 2 (some .boolean) [.inr 1, .inl code] σ (fun r σ' => (n < 60 ∧ r = 1 ∧ σ' = m_up (m_up σ 2 n code) 1 1 (nI (n + 1))) ∨ (n = 60 ∧ r = 0 ∧ σ' = σ)) := by
  refine EV.intro (by decide +kernel) (Nat.le_of_ble_eq_true rfl) ?_
  refine j_aload_n (pc := 0) dX5_put_0 rfl ?_
  refine j_getI (pc := 1) dX5_put_1 f_X5_15 (by first | rfl | with_reducible assumption) (by rfl) ?_
  refine j_if_lt (pc := 4) (tgt := 16) dX5_put_4 rfl (fun h4 => absurd (hn ▸ h4) (nI_pos (by omega))) (fun h4 => ?_)
  refine j_aload_n (pc := 7) dX5_put_7 rfl ?_
  refine j_getI (pc := 8) dX5_put_8 f_X5_15 (by first | rfl | with_reducible assumption) (by rfl) ?_
  refine j_bipush (pc := 11) dX5_put_11 (v := 60) (by decide) ?_
  refine j_icmp_lt (pc := 13) (tgt := 18) dX5_put_13 rfl (fun h13 => ?_) (fun h13 => ?_)
  · have h60 : n < 60 := by
      rw [hn] at h13
      exact (nI_ltI (b := 60) (by omega) (by decide)).mp h13
    refine j_aload_n (pc := 18) dX5_put_18 rfl ?_
    refine j_getR (pc := 19) dX5_put_19 f_X5_9 (by first | rfl | with_reducible assumption) (by rfl) ?_
    refine j_aload_n (pc := 22) dX5_put_22 rfl ?_
    refine j_getI (pc := 23) dX5_put_23 f_X5_15 (by first | rfl | with_reducible assumption) (by rfl) ?_
    refine j_iload_n (pc := 26) dX5_put_26 rfl ?_
    refine j_iast (pc := 27) dX5_put_27 (by first | rfl | with_reducible assumption) (by rw [hn]; exact vp_in_nI h60 (by decide)) ?_
    refine j_aload_n (pc := 28) dX5_put_28 rfl ?_
    refine j_dup (pc := 29) dX5_put_29 ?_
    refine j_getI (pc := 30) dX5_put_30 f_X5_15 (by first | rfl | with_reducible assumption) (by rfl) ?_
    refine j_iconst (pc := 33) dX5_put_33 (v := 1) (by decide) ?_
    refine j_iadd (pc := 34) dX5_put_34 ?_
    refine j_put (pc := 35) dX5_put_35 f_X5_15 (by first | rfl | with_reducible assumption) (by rfl) ?_
    refine j_iconst (pc := 38) dX5_put_38 (v := 1) (by decide) ?_
    refine j_zret (pc := 39) dX5_put_39 (Or.inr rfl) ?_
    refine Or.inl ⟨h60, rfl, ?_⟩
    rw [m_ne (by decide), hn, nI_1, nI_clamp (by omega)]
  · have h60 : n = 60 := by
      rw [hn] at h13
      have : ¬ n < 60 := fun q => h13 ((nI_ltI (b := 60) (by omega) (by decide)).mpr q)
      omega
    refine j_iconst (pc := 16) dX5_put_16 (v := 0) (by decide) ?_
    refine j_zret (pc := 17) dX5_put_17 (Or.inl rfl) ?_
    exact Or.inr ⟨h60, rfl, rfl⟩
theorem c_X5_clear (σ : Mm) : EV Γ1 0 yX5_clear cX5_clear 1 none [.inr 1] σ (mz (m_up σ 1 1 0)) := by
  refine EV.intro (by decide +kernel) (Nat.le_of_ble_eq_true rfl) ?_
  refine j_aload_n (pc := 0) dX5_clear_0 rfl ?_
  refine j_iconst (pc := 1) dX5_clear_1 (v := 0) (by decide) ?_
  refine j_put (pc := 2) dX5_clear_2 f_X5_15 (by first | rfl | with_reducible assumption) (by rfl) ?_
  refine j_vret (pc := 5) dX5_clear_5 ?_
  exact rfl
def mx (x y : Int32) : Int32 := if x < y then y else x
def mn (x y : Int32) : Int32 := if y < x then y else x
theorem c_max (x y : Int32) (σ : Mm) : EV Γ1 0 yJ9_max_7cf53 cJ9_max_7cf53 2 (some .int) [.inl x, .inl y] σ (vz (mx x y) σ) := by
  refine EV.introF (by decide +kernel) (Nat.le_of_ble_eq_true rfl) ?_
  refine j_iload_n (pc := 0) dJ9_max_7cf53_0 rfl ?_
  refine j_iload_n (pc := 1) dJ9_max_7cf53_1 rfl ?_
  refine j_icmp_lt (pc := 2) (tgt := 9) dJ9_max_7cf53_2 rfl (fun h2 => ?_) (fun h2 => ?_)
  · refine j_iload_n (pc := 9) dJ9_max_7cf53_9 rfl ?_
    refine j_iret (pc := 10) dJ9_max_7cf53_10 ?_
    exact ⟨rfl, by first | exact (if_pos h2).symm | exact (if_neg h2).symm⟩
  · refine j_iload_n (pc := 5) dJ9_max_7cf53_5 rfl ?_
    refine j_goto (pc := 6) (tgt := 10) dJ9_max_7cf53_6 rfl ?_
    refine j_iret (pc := 10) dJ9_max_7cf53_10 ?_
    exact ⟨rfl, by first | exact (if_pos h2).symm | exact (if_neg h2).symm⟩
theorem c_min (x y : Int32) (σ : Mm) : EV Γ1 0 yJ9_min_7cf53 cJ9_min_7cf53 2 (some .int) [.inl x, .inl y] σ (vz (mn x y) σ) := by
  refine EV.introF (by decide +kernel) (Nat.le_of_ble_eq_true rfl) ?_
  refine j_iload_n (pc := 0) dJ9_min_7cf53_0 rfl ?_
  refine j_iload_n (pc := 1) dJ9_min_7cf53_1 rfl ?_
  refine j_icmp_gt (pc := 2) (tgt := 9) dJ9_min_7cf53_2 rfl (fun h2 => ?_) (fun h2 => ?_)
  · refine j_iload_n (pc := 9) dJ9_min_7cf53_9 rfl ?_
    refine j_iret (pc := 10) dJ9_min_7cf53_10 ?_
    exact ⟨rfl, by first | exact (if_pos h2).symm | exact (if_neg h2).symm⟩
  · refine j_iload_n (pc := 5) dJ9_min_7cf53_5 rfl ?_
    refine j_goto (pc := 6) (tgt := 10) dJ9_min_7cf53_6 rfl ?_
    refine j_iret (pc := 10) dJ9_min_7cf53_10 ?_
    exact ⟨rfl, by first | exact (if_pos h2).symm | exact (if_neg h2).symm⟩
theorem fm16 : ∀ q, q < 16 → (nI q - 1) - (nI q - 1) / 16 * 16 = (if q = 0 then -1 else nI (q - 1)) ∧ ((nI q - 1) ^^^ 16 < 0 ↔ q = 0) := by decide +kernel
theorem c_floorMod {q : Nat} (hq : q < 16) (σ : Mm) : EV Γ1 0 yJ9_floorMod_7cf53 cJ9_floorMod_7cf53 3 (some .int) [.inl (nI q - 1), .inl 16] σ (vz (nI ((q + 15) % 16)) σ) := by
  have h16 := fm16 q hq
  refine EV.introF (by decide +kernel) (Nat.le_of_ble_eq_true rfl) ?_
  refine j_iload_n (pc := 0) dJ9_floorMod_7cf53_0 rfl ?_
  refine j_iload_n (pc := 1) dJ9_floorMod_7cf53_1 rfl ?_
  refine j_irem (pc := 2) dJ9_floorMod_7cf53_2 (by decide) ?_
  refine j_istore_n (pc := 3) dJ9_floorMod_7cf53_3 (by decide) ?_
  refine j_iload_n (pc := 4) dJ9_floorMod_7cf53_4 rfl ?_
  refine j_iload_n (pc := 5) dJ9_floorMod_7cf53_5 rfl ?_
  refine j_ixor (pc := 6) dJ9_floorMod_7cf53_6 ?_
  refine j_if_ge (pc := 7) (tgt := 18) dJ9_floorMod_7cf53_7 rfl (fun h7 => ?_) (fun h7 => ?_)
  · refine j_iload_n (pc := 18) dJ9_floorMod_7cf53_18 rfl ?_
    refine j_iret (pc := 19) dJ9_floorMod_7cf53_19 ?_
    refine ⟨rfl, ?_⟩
    rcases Nat.eq_zero_or_pos q with rfl | h
    · first | exact absurd h7 (by decide) | exact absurd h11 (by decide)
    · rw [h16.1, if_neg (by omega)]
      congr 1
      omega
  · refine j_iload_n (pc := 10) dJ9_floorMod_7cf53_10 rfl ?_
    refine j_if_eq (pc := 11) (tgt := 18) dJ9_floorMod_7cf53_11 rfl (fun h11 => ?_) (fun h11 => ?_)
    · refine j_iload_n (pc := 18) dJ9_floorMod_7cf53_18 rfl ?_
      refine j_iret (pc := 19) dJ9_floorMod_7cf53_19 ?_
      refine ⟨rfl, ?_⟩
      rcases Nat.eq_zero_or_pos q with rfl | h
      · first | exact absurd h7 (by decide) | exact absurd h11 (by decide)
      · rw [h16.1, if_neg (by omega)]
        congr 1
        omega
    · refine j_iload_n (pc := 14) dJ9_floorMod_7cf53_14 rfl ?_
      refine j_iload_n (pc := 15) dJ9_floorMod_7cf53_15 rfl ?_
      refine j_iadd (pc := 16) dJ9_floorMod_7cf53_16 ?_
      refine j_iret (pc := 17) dJ9_floorMod_7cf53_17 ?_
      refine ⟨rfl, ?_⟩
      rcases Nat.eq_zero_or_pos q with rfl | h
      · decide
      · exact absurd (h16.2.mp (by (simp only [Int32.lt_iff_toInt_lt, Int32.le_iff_toInt_le, ← Int32.toInt_inj, vp_in_iff, ti_0, ti_1, ti_2, ti_3, ti_4, ti_5, ti_6, ti_7, ti_8, ti_16, ti_48, ti_53, ti_60, ti_97, ti_104, ti_127, ti_149, ti_150, ti_151, ti_256, ti_1200, ti_m1, ti_m2, ti_m3, ti_m4, ti_m9] at *; omega))) (by omega)
def pcnt (x : Int32) : Nat := ((List.range 8).filter (fun e => bt x e)).length
def bcx (i : Int32) : Int32 :=
  let u (x y : Int32) : Int32 := (x.toUInt32 >>> (y.toUInt32 &&& Int32.toUInt32 31)).toInt32
  let a := i - (u i 1 &&& 1431655765)
  let b := (a &&& 858993459) + (u a 2 &&& 858993459)
  let c := (b + u b 4) &&& 252645135
  let d := c + u c 8
  (d + u d 16) &&& 63
set_option maxRecDepth 20000 in
theorem bcx_ok : ∀ k, k < 256 → bcx (nI k) = nI (pcnt (nI k)) := by decide +kernel
theorem c_bitCount {k : Nat} (hk : k < 256) (σ : Mm) : EV Γ1 0 yJ6_bitCount_0f7a4 cJ6_bitCount_0f7a4 1 (some .int) [.inl (nI k)] σ (vz (nI (pcnt (nI k))) σ) := by
  refine EV.intro (by decide +kernel) (Nat.le_of_ble_eq_true rfl) ?_
  refine j_iload_n (pc := 0) dJ6_bitCount_0f7a4_0 rfl ?_
  refine j_iload_n (pc := 1) dJ6_bitCount_0f7a4_1 rfl ?_
  refine j_iconst (pc := 2) dJ6_bitCount_0f7a4_2 (v := 1) (by decide) ?_
  refine j_iushr (pc := 3) dJ6_bitCount_0f7a4_3 rfl ?_
  refine j_ldcw (pc := 4) dJ6_bitCount_0f7a4_4 kc_J6_265 ?_
  refine j_iand (pc := 7) dJ6_bitCount_0f7a4_7 ?_
  refine j_isub (pc := 8) dJ6_bitCount_0f7a4_8 ?_
  refine j_istore_n (pc := 9) dJ6_bitCount_0f7a4_9 (by decide) ?_
  refine j_iload_n (pc := 10) dJ6_bitCount_0f7a4_10 rfl ?_
  refine j_ldcw (pc := 11) dJ6_bitCount_0f7a4_11 kc_J6_266 ?_
  refine j_iand (pc := 14) dJ6_bitCount_0f7a4_14 ?_
  refine j_iload_n (pc := 15) dJ6_bitCount_0f7a4_15 rfl ?_
  refine j_iconst (pc := 16) dJ6_bitCount_0f7a4_16 (v := 2) (by decide) ?_
  refine j_iushr (pc := 17) dJ6_bitCount_0f7a4_17 rfl ?_
  refine j_ldcw (pc := 18) dJ6_bitCount_0f7a4_18 kc_J6_266 ?_
  refine j_iand (pc := 21) dJ6_bitCount_0f7a4_21 ?_
  refine j_iadd (pc := 22) dJ6_bitCount_0f7a4_22 ?_
  refine j_istore_n (pc := 23) dJ6_bitCount_0f7a4_23 (by decide) ?_
  refine j_iload_n (pc := 24) dJ6_bitCount_0f7a4_24 rfl ?_
  refine j_iload_n (pc := 25) dJ6_bitCount_0f7a4_25 rfl ?_
  refine j_iconst (pc := 26) dJ6_bitCount_0f7a4_26 (v := 4) (by decide) ?_
  refine j_iushr (pc := 27) dJ6_bitCount_0f7a4_27 rfl ?_
  refine j_iadd (pc := 28) dJ6_bitCount_0f7a4_28 ?_
  refine j_ldcw (pc := 29) dJ6_bitCount_0f7a4_29 kc_J6_267 ?_
  refine j_iand (pc := 32) dJ6_bitCount_0f7a4_32 ?_
  refine j_istore_n (pc := 33) dJ6_bitCount_0f7a4_33 (by decide) ?_
  refine j_iload_n (pc := 34) dJ6_bitCount_0f7a4_34 rfl ?_
  refine j_iload_n (pc := 35) dJ6_bitCount_0f7a4_35 rfl ?_
  refine j_bipush (pc := 36) dJ6_bitCount_0f7a4_36 (v := 8) (by decide) ?_
  refine j_iushr (pc := 38) dJ6_bitCount_0f7a4_38 rfl ?_
  refine j_iadd (pc := 39) dJ6_bitCount_0f7a4_39 ?_
  refine j_istore_n (pc := 40) dJ6_bitCount_0f7a4_40 (by decide) ?_
  refine j_iload_n (pc := 41) dJ6_bitCount_0f7a4_41 rfl ?_
  refine j_iload_n (pc := 42) dJ6_bitCount_0f7a4_42 rfl ?_
  refine j_bipush (pc := 43) dJ6_bitCount_0f7a4_43 (v := 16) (by decide) ?_
  refine j_iushr (pc := 45) dJ6_bitCount_0f7a4_45 rfl ?_
  refine j_iadd (pc := 46) dJ6_bitCount_0f7a4_46 ?_
  refine j_istore_n (pc := 47) dJ6_bitCount_0f7a4_47 (by decide) ?_
  refine j_iload_n (pc := 48) dJ6_bitCount_0f7a4_48 rfl ?_
  refine j_bipush (pc := 49) dJ6_bitCount_0f7a4_49 (v := 63) (by decide) ?_
  refine j_iand (pc := 51) dJ6_bitCount_0f7a4_51 ?_
  refine j_iret (pc := 52) dJ6_bitCount_0f7a4_52 ?_
  exact ⟨rfl, (bcx_ok k hk)⟩
