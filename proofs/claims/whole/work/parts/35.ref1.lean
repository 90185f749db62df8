/-! LEASTBARSMODEL: small methods, its state -/
theorem c_X8_within (v a b : Int32) (σ : Mm) : EV Γ2 0 yX8_within cX8_within 3 (some .boolean) [.inl v, .inl a, .inl b] σ (bz (a ≤ v ∧ v ≤ b) σ) := by
  refine EV.intro (by decide +kernel) (Nat.le_of_ble_eq_true rfl) ?_
  refine j_iload_n (pc := 0) dX8_within_0 rfl ?_
  refine j_iload_n (pc := 1) dX8_within_1 rfl ?_
  refine j_icmp_lt (pc := 2) (tgt := 14) dX8_within_2 rfl (fun h2 => ?_) (fun h2 => ?_)
  · refine j_iconst (pc := 14) dX8_within_14 (v := 0) (by decide) ?_
    refine j_zret (pc := 15) dX8_within_15 (Or.inl rfl) ?_
    exact ⟨rfl, Or.inr ⟨by (simp only [Int32.lt_iff_toInt_lt, Int32.le_iff_toInt_le, ← Int32.toInt_inj, vp_in_iff, ti_0, ti_1, ti_2, ti_3, ti_4, ti_5, ti_6, ti_7, ti_8, ti_16, ti_48, ti_53, ti_60, ti_97, ti_104, ti_127, ti_149, ti_150, ti_151, ti_256, ti_1200, ti_m1, ti_m2, ti_m3, ti_m4, ti_m9] at *; omega), rfl⟩⟩
  · refine j_iload_n (pc := 5) dX8_within_5 rfl ?_
    refine j_iload_n (pc := 6) dX8_within_6 rfl ?_
    refine j_icmp_gt (pc := 7) (tgt := 14) dX8_within_7 rfl (fun h7 => ?_) (fun h7 => ?_)
    · refine j_iconst (pc := 14) dX8_within_14 (v := 0) (by decide) ?_
      refine j_zret (pc := 15) dX8_within_15 (Or.inl rfl) ?_
      exact ⟨rfl, Or.inr ⟨by (simp only [Int32.lt_iff_toInt_lt, Int32.le_iff_toInt_le, ← Int32.toInt_inj, vp_in_iff, ti_0, ti_1, ti_2, ti_3, ti_4, ti_5, ti_6, ti_7, ti_8, ti_16, ti_48, ti_53, ti_60, ti_97, ti_104, ti_127, ti_149, ti_150, ti_151, ti_256, ti_1200, ti_m1, ti_m2, ti_m3, ti_m4, ti_m9] at *; omega), rfl⟩⟩
    · refine j_iconst (pc := 10) dX8_within_10 (v := 1) (by decide) ?_
      refine j_goto (pc := 11) (tgt := 15) dX8_within_11 rfl ?_
      refine j_zret (pc := 15) dX8_within_15 (Or.inr rfl) ?_
      exact ⟨rfl, Or.inl ⟨by (simp only [Int32.lt_iff_toInt_lt, Int32.le_iff_toInt_le, ← Int32.toInt_inj, vp_in_iff, ti_0, ti_1, ti_2, ti_3, ti_4, ti_5, ti_6, ti_7, ti_8, ti_16, ti_48, ti_53, ti_60, ti_97, ti_104, ti_127, ti_149, ti_150, ti_151, ti_256, ti_1200, ti_m1, ti_m2, ti_m3, ti_m4, ti_m9] at *; omega), rfl⟩⟩
theorem c_X8_bit (x k : Int32) (σ : Mm) : EV Γ2 0 yX8_bit cX8_bit 2 (some .int) [.inl x, .inl k] σ (vz ((x >>> (k &&& 31)) &&& 1) σ) := by
  refine EV.intro (by decide +kernel) (Nat.le_of_ble_eq_true rfl) ?_
  refine j_iload_n (pc := 0) dX8_bit_0 rfl ?_
  refine j_iload_n (pc := 1) dX8_bit_1 rfl ?_
  refine j_ishr (pc := 2) dX8_bit_2 ?_
  refine j_iconst (pc := 3) dX8_bit_3 (v := 1) (by decide) ?_
  refine j_iand (pc := 4) dX8_bit_4 ?_
  refine j_iret (pc := 5) dX8_bit_5 ?_
  exact ⟨rfl, rfl⟩
theorem c_X8_stepAt (m s e : Int32) (σ : Mm) : EV Γ2 0 yX8_stepAt cX8_stepAt 3 (some .int) [.inl m, .inl s, .inl e] σ (vz (8 * (6 * m + s) + e) σ) := by
  refine EV.intro (by decide +kernel) (Nat.le_of_ble_eq_true rfl) ?_
  refine j_bipush (pc := 0) dX8_stepAt_0 (v := 8) (by decide) ?_
  refine j_bipush (pc := 2) dX8_stepAt_2 (v := 6) (by decide) ?_
  refine j_iload_n (pc := 4) dX8_stepAt_4 rfl ?_
  refine j_imul (pc := 5) dX8_stepAt_5 ?_
  refine j_iload_n (pc := 6) dX8_stepAt_6 rfl ?_
  refine j_iadd (pc := 7) dX8_stepAt_7 ?_
  refine j_imul (pc := 8) dX8_stepAt_8 ?_
  refine j_iload_n (pc := 9) dX8_stepAt_9 rfl ?_
  refine j_iadd (pc := 10) dX8_stepAt_10 ?_
  refine j_iret (pc := 11) dX8_stepAt_11 ?_
  exact ⟨rfl, rfl⟩
theorem c_X8_stateIn (c m : Int32) (σ : Mm) : EV Γ2 0 yX8_stateIn cX8_stateIn 2 (some .int) [.inl c, .inl m] σ (vz ((c >>> ((3 * m) &&& 31)) &&& 7) σ) := by
  refine EV.intro (by decide +kernel) (Nat.le_of_ble_eq_true rfl) ?_
  refine j_iload_n (pc := 0) dX8_stateIn_0 rfl ?_
  refine j_iconst (pc := 1) dX8_stateIn_1 (v := 3) (by decide) ?_
  refine j_iload_n (pc := 2) dX8_stateIn_2 rfl ?_
  refine j_imul (pc := 3) dX8_stateIn_3 ?_
  refine j_ishr (pc := 4) dX8_stateIn_4 ?_
  refine j_bipush (pc := 5) dX8_stateIn_5 (v := 7) (by decide) ?_
  refine j_iand (pc := 7) dX8_stateIn_7 ?_
  refine j_iret (pc := 8) dX8_stateIn_8 ?_
  exact ⟨rfl, rfl⟩
theorem stAt (m s e : Nat) : (8 : Int32) * (6 * nI m + nI s) + nI e = nI (48 * m + (8 * s + e)) := by
  rw [show (8 : Int32) = nI 8 from rfl, show (6 : Int32) = nI 6 from rfl, pk_mul, nI_add, pk_mul, nI_add]
  congr 1
  omega
theorem stIn (c : Int32) (m : Nat) : (c >>> (((3 : Int32) * nI m) &&& 31)) &&& 7 = stI c m := by
  unfold stI
  rw [show (3 : Int32) = nI 3 from rfl, pk_mul]
theorem c_X8_isEvent (e : Int32) (σ : Mm) : EV Γ2 1 yX8_isEvent cX8_isEvent 1 (some .boolean) [.inl e] σ (bz (vp_in e 8) σ) := by
  refine EV.intro (by decide +kernel) (Nat.le_of_ble_eq_true rfl) ?_
  refine j_iload_n (pc := 0) dX8_isEvent_0 rfl ?_
  refine j_iconst (pc := 1) dX8_isEvent_1 (v := 0) (by decide) ?_
  refine j_bipush (pc := 2) dX8_isEvent_2 (v := 7) (by decide) ?_
  refine j_callSi (pc := 4) dX8_isEvent_4 k_X8_59 (c_X8_within _ _ _ _) rfl (by decide) rfl (Nat.le_of_ble_eq_true rfl) (fun r σ1 hp => ?_)
  obtain ⟨rfl, hp⟩ := hp
  rcases hp with ⟨q4, rfl⟩ | ⟨q4, rfl⟩
  · refine j_zret (pc := 7) dX8_isEvent_7 (Or.inr rfl) ?_
    exact ⟨rfl, Or.inl ⟨by (simp only [Int32.lt_iff_toInt_lt, Int32.le_iff_toInt_le, ← Int32.toInt_inj, vp_in_iff, ti_0, ti_1, ti_2, ti_3, ti_4, ti_5, ti_6, ti_7, ti_8, ti_16, ti_48, ti_53, ti_60, ti_97, ti_104, ti_127, ti_149, ti_150, ti_151, ti_256, ti_1200, ti_m1, ti_m2, ti_m3, ti_m4, ti_m9] at *; omega), rfl⟩⟩
  · refine j_zret (pc := 7) dX8_isEvent_7 (Or.inl rfl) ?_
    exact ⟨rfl, Or.inr ⟨by (simp only [Int32.lt_iff_toInt_lt, Int32.le_iff_toInt_le, ← Int32.toInt_inj, vp_in_iff, ti_0, ti_1, ti_2, ti_3, ti_4, ti_5, ti_6, ti_7, ti_8, ti_16, ti_48, ti_53, ti_60, ti_97, ti_104, ti_127, ti_149, ti_150, ti_151, ti_256, ti_1200, ti_m1, ti_m2, ti_m3, ti_m4, ti_m9] at *; omega), rfl⟩⟩
theorem nI_m1 (N : Nat) (h : N ≤ 2 ^ 30) : (nI N - 1).toInt = (N : Int) - 1 := by
  cases N with
  | zero => rfl
  | succ n =>
    rw [show nI (n + 1) - 1 = nI n from nI_pred n, nI_toInt (by omega)]
    omega
theorem c_X8_isMachine (m : Int32) {σ : Mm} {N : Nat} (hN : σ 0 2 = nI N) (h6 : N ≤ 6) : EV Γ2 1 yX8_isMachine cX8_isMachine 2 (some .boolean) [.inr 0, .inl m] σ (bz (vp_in m N) σ) := by
  have tN : (nI N - 1).toInt = (N : Int) - 1 := nI_m1 N (by omega)
  refine EV.intro (by decide +kernel) (Nat.le_of_ble_eq_true rfl) ?_
  refine j_iload_n (pc := 0) dX8_isMachine_0 rfl ?_
  refine j_iconst (pc := 1) dX8_isMachine_1 (v := 0) (by decide) ?_
  refine j_aload_n (pc := 2) dX8_isMachine_2 rfl ?_
  refine j_getI (pc := 3) dX8_isMachine_3 f_X8_96 (by first | rfl | with_reducible assumption) (by rfl) ?_
  refine j_top hN ?_
  refine j_iconst (pc := 6) dX8_isMachine_6 (v := 1) (by decide) ?_
  refine j_isub (pc := 7) dX8_isMachine_7 ?_
  refine j_callSi (pc := 8) dX8_isMachine_8 k_X8_59 (c_X8_within _ _ _ _) rfl (by decide) rfl (Nat.le_of_ble_eq_true rfl) (fun r σ1 hp => ?_)
  obtain ⟨rfl, hp⟩ := hp
  rcases hp with ⟨q8, rfl⟩ | ⟨q8, rfl⟩
  · refine j_zret (pc := 11) dX8_isMachine_11 (Or.inr rfl) ?_
    exact ⟨rfl, Or.inl ⟨by (simp only [Int32.lt_iff_toInt_lt, Int32.le_iff_toInt_le, ← Int32.toInt_inj, vp_in_iff, ti_0, ti_1, ti_2, ti_3, ti_4, ti_5, ti_6, ti_7, ti_8, ti_16, ti_48, ti_53, ti_60, ti_97, ti_104, ti_127, ti_149, ti_150, ti_151, ti_256, ti_1200, ti_m1, ti_m2, ti_m3, ti_m4, ti_m9, tN] at *; omega), rfl⟩⟩
  · refine j_zret (pc := 11) dX8_isMachine_11 (Or.inl rfl) ?_
    exact ⟨rfl, Or.inr ⟨by (simp only [Int32.lt_iff_toInt_lt, Int32.le_iff_toInt_le, ← Int32.toInt_inj, vp_in_iff, ti_0, ti_1, ti_2, ti_3, ti_4, ti_5, ti_6, ti_7, ti_8, ti_16, ti_48, ti_53, ti_60, ti_97, ti_104, ti_127, ti_149, ti_150, ti_151, ti_256, ti_1200, ti_m1, ti_m2, ti_m3, ti_m4, ti_m9, tN] at *; omega), rfl⟩⟩
theorem c_X8_isPlace (k : Int32) (σ : Mm) : EV Γ2 1 yX8_isPlace cX8_isPlace 1 (some .boolean) [.inl k] σ (bz (k = -9 ∨ vp_in k 150) σ) := by
  refine EV.intro (by decide +kernel) (Nat.le_of_ble_eq_true rfl) ?_
  refine j_iload_n (pc := 0) dX8_isPlace_0 rfl ?_
  refine j_bipush (pc := 1) dX8_isPlace_1 (v := (-9)) (by decide) ?_
  refine j_icmp_eq (pc := 3) (tgt := 17) dX8_isPlace_3 rfl (fun h3 => ?_) (fun h3 => ?_)
  · refine j_iconst (pc := 17) dX8_isPlace_17 (v := 1) (by decide) ?_
    refine j_goto (pc := 18) (tgt := 22) dX8_isPlace_18 rfl ?_
    refine j_zret (pc := 22) dX8_isPlace_22 (Or.inr rfl) ?_
    exact ⟨rfl, Or.inl ⟨by (simp only [Int32.lt_iff_toInt_lt, Int32.le_iff_toInt_le, ← Int32.toInt_inj, vp_in_iff, ti_0, ti_1, ti_2, ti_3, ti_4, ti_5, ti_6, ti_7, ti_8, ti_16, ti_48, ti_53, ti_60, ti_97, ti_104, ti_127, ti_149, ti_150, ti_151, ti_256, ti_1200, ti_m1, ti_m2, ti_m3, ti_m4, ti_m9] at *; omega), rfl⟩⟩
  · refine j_iload_n (pc := 6) dX8_isPlace_6 rfl ?_
    refine j_iconst (pc := 7) dX8_isPlace_7 (v := 0) (by decide) ?_
    refine j_sipush (pc := 8) dX8_isPlace_8 (v := 149) (by decide) ?_
    refine j_callSi (pc := 11) dX8_isPlace_11 k_X8_59 (c_X8_within _ _ _ _) rfl (by decide) rfl (Nat.le_of_ble_eq_true rfl) (fun r σ1 hp => ?_)
    obtain ⟨rfl, hp⟩ := hp
    rcases hp with ⟨q11, rfl⟩ | ⟨q11, rfl⟩
    · refine j_if_eq (pc := 14) (tgt := 21) dX8_isPlace_14 rfl (fun h => absurd h (by decide)) (fun _ => ?_)
      refine j_iconst (pc := 17) dX8_isPlace_17 (v := 1) (by decide) ?_
      refine j_goto (pc := 18) (tgt := 22) dX8_isPlace_18 rfl ?_
      refine j_zret (pc := 22) dX8_isPlace_22 (Or.inr rfl) ?_
      exact ⟨rfl, Or.inl ⟨by (simp only [Int32.lt_iff_toInt_lt, Int32.le_iff_toInt_le, ← Int32.toInt_inj, vp_in_iff, ti_0, ti_1, ti_2, ti_3, ti_4, ti_5, ti_6, ti_7, ti_8, ti_16, ti_48, ti_53, ti_60, ti_97, ti_104, ti_127, ti_149, ti_150, ti_151, ti_256, ti_1200, ti_m1, ti_m2, ti_m3, ti_m4, ti_m9] at *; omega), rfl⟩⟩
    · refine j_if_eq (pc := 14) (tgt := 21) dX8_isPlace_14 rfl (fun _ => ?_) (fun h => absurd h (by decide))
      refine j_iconst (pc := 21) dX8_isPlace_21 (v := 0) (by decide) ?_
      refine j_zret (pc := 22) dX8_isPlace_22 (Or.inl rfl) ?_
      exact ⟨rfl, Or.inr ⟨by (simp only [Int32.lt_iff_toInt_lt, Int32.le_iff_toInt_le, ← Int32.toInt_inj, vp_in_iff, ti_0, ti_1, ti_2, ti_3, ti_4, ti_5, ti_6, ti_7, ti_8, ti_16, ti_48, ti_53, ti_60, ti_97, ti_104, ti_127, ti_149, ti_150, ti_151, ti_256, ti_1200, ti_m1, ti_m2, ti_m3, ti_m4, ti_m9] at *; omega), rfl⟩⟩
theorem c_X8_all {σ : Mm} {N : Nat} (hN : σ 0 2 = nI N) (h6 : N ≤ 6) : EV Γ2 0 yX8_all cX8_all 1 (some .int) [.inr 0] σ (vz (allS N) σ) := by
  refine EV.intro (by decide +kernel) (Nat.le_of_ble_eq_true rfl) ?_
  refine j_iconst (pc := 0) dX8_all_0 (v := 1) (by decide) ?_
  refine j_aload_n (pc := 1) dX8_all_1 rfl ?_
  refine j_getI (pc := 2) dX8_all_2 f_X8_96 (by first | rfl | with_reducible assumption) (by rfl) ?_
  refine j_top hN ?_
  refine j_ishl (pc := 5) dX8_all_5 ?_
  refine j_iconst (pc := 6) dX8_all_6 (v := 1) (by decide) ?_
  refine j_isub (pc := 7) dX8_all_7 ?_
  refine j_iret (pc := 8) dX8_all_8 ?_
  exact ⟨rfl, all_val N h6⟩
/-! the state -/
def H2 (σ : Mm) (m : Nat) (v : MV) : Prop := (∀ x, x < 48 → σ 7 (48 * m + x) = v.1 x) ∧ σ 3 m = v.2.1 ∧ σ 4 m = v.2.2.1 ∧ σ 5 m = v.2.2.2.1 ∧ σ 6 m = v.2.2.2.2
def R2b (σ : Mm) (n : Nat) (t : Nat → Int32) (N : Nat) (K : Nat → Int32) (M : Nat → MV) : Prop := σ 0 1 = nI n ∧ n ≤ 60 ∧ (∀ i, i < n → σ 1 i = t i) ∧ σ 0 2 = nI N ∧ N ≤ 6 ∧ ∀ m, m < N → H2 σ m (M m) ∧ σ 2 m = K m ∧ okV (K m) (M m)
def TrI2 (σ : Mm) (h : List Int32) (pl : Int32) : Prop := σ 0 21 = pl ∧ h.length ≤ 16 ∧ σ 0 22 = nI h.length ∧ ∀ i, i < h.length → h[i]? = some (σ 15 (h.length - 1 - i))
/-- the graph in codeOf and toOf -/
def NG2 (σ : Mm) (T : Tab) (set : Int32) : Prop := gJ T set ≤ 150 ∧ σ 0 11 = nI (gJ T set) ∧ (∀ n, n < gJ T set → σ 8 n = gC T set n) ∧ ∀ y, y < 8 * gJ T set → σ 9 y = toX T set y
def LW2 (σ : Mm) (J : Nat) (W : LT) : Prop := ∀ n, n < J → σ 10 n = W.1 n ∧ (W.1 n ≠ -9 → σ 11 n = W.2.1 n ∧ σ 12 n = W.2.2 n)
def DN2 (σ : Mm) (T : Tab) (set fs : Int32) (k : Nat) : Prop := k ≤ 150 ∧ gK T set fs k ∧ σ 0 20 = nI (k + 1) ∧ LW2 σ (gJ T set) (gW T set fs k) ∧ ∀ n, n < gJ T set → σ 14 n = if gU T set fs k n = true then 1 else 0
def D2 (σ : Mm) (T : Tab) (set fs : Int32) : Prop := (Over T set ∧ σ 0 11 = 0 ∧ σ 0 20 = 0) ∨ (¬ Over T set ∧ NG2 σ T set ∧ ∃ k, DN2 σ T set fs k)
/-- where the plant is and was: at START or UNDER CONTROL -/
def TV (T : Tab) (set fs : Int32) (h : List Int32) (pl : Int32) : Prop := ∀ v ∈ pl :: h, v = 0 ∨ (¬ Over T set ∧ ∃ k j, gK T set fs k ∧ j < gJ T set ∧ gU T set fs k j = true ∧ v = nI j)
theorem TV.nil {T : Tab} {set fs : Int32} : TV T set fs [] 0 := fun v hv => by
  rcases List.mem_cons.mp hv with rfl | z
  · exact Or.inl rfl
  · exact absurd z (by simp)
def R2 (σ : Mm) (n : Nat) (t : Nat → Int32) (N : Nat) (K : Nat → Int32) (M : Nat → MV) (fs : Int32) (h : List Int32) (pl : Int32) : Prop := R2b σ n t N K M ∧ σ 0 9 = fs ∧ (σ 0 14 = 0 ∨ (σ 0 14 = 1 ∧ D2 σ (TA N K M) (allS N) fs)) ∧ TrI2 σ h pl ∧ TV (TA N K M) (allS N) fs h pl
theorem H2.cells {σ σ' : Mm} {m : Nat} {v : MV} (h : H2 σ m v) (h1 : ∀ x, 3 ≤ x → x ≤ 7 → σ' x = σ x) : H2 σ' m v := by
  unfold H2 at *
  rw [h1 7 (by decide) (by decide), h1 3 (by decide) (by decide), h1 4 (by decide) (by decide), h1 5 (by decide) (by decide), h1 6 (by decide) (by decide)]
  exact h
theorem D2.cells {σ σ' : Mm} {T : Tab} {set fs : Int32} (h : D2 σ T set fs) (h0 : σ' 0 11 = σ 0 11) (h2 : σ' 0 20 = σ 0 20) (h1 : ∀ x, 8 ≤ x → x ≤ 14 → σ' x = σ x) : D2 σ' T set fs := by
  unfold D2 NG2 DN2 LW2 at *
  rw [h0, h2, h1 8 (by decide) (by decide), h1 9 (by decide) (by decide), h1 10 (by decide) (by decide), h1 11 (by decide) (by decide), h1 12 (by decide) (by decide), h1 14 (by decide) (by decide)]
  exact h
theorem TrI2.cells {σ σ' : Mm} {h : List Int32} {pl : Int32} (q : TrI2 σ h pl) (h0 : σ' 0 21 = σ 0 21) (h2 : σ' 0 22 = σ 0 22) (h1 : σ' 15 = σ 15) : TrI2 σ' h pl := by
  unfold TrI2 at *
  rw [h0, h1, h2]
  exact q
section Ref1
variable {σ : Mm} {n : Nat} {t : Nat → Int32} {N : Nat} {K : Nat → Int32} {M : Nat → MV} {fs : Int32} {h : List Int32} {pl : Int32}
theorem R2.tape {σ' : Mm} {n' : Nat} {t' : Nat → Int32} (q : R2 σ n t N K M fs h pl) (h1 : σ' 0 1 = nI n') (h2 : n' ≤ 60) (h3 : ∀ i, i < n' → σ' 1 i = t' i) (h4 : ∀ x, x ≠ 0 → x ≠ 1 → σ' x = σ x) (h5 : ∀ k, k ≠ 1 → σ' 0 k = σ 0 k) : R2 σ' n' t' N K M fs h pl := by
  obtain ⟨⟨a1, a2, a3, a4, a5, a6⟩, b, c, d, e⟩ := q
  refine ⟨⟨h1, h2, h3, by rw [h5 2 (by decide)]; exact a4, a5, fun m hm => ?_⟩, by rw [h5 9 (by decide)]; exact b, ?_, d.cells (h5 21 (by decide)) (h5 22 (by decide)) (h4 15 (by decide) (by decide)), e⟩
  · obtain ⟨x, y, z⟩ := a6 m hm
    exact ⟨x.cells (fun x _ _ => h4 x (by omega) (by omega)), by rw [h4 2 (by decide) (by decide)]; exact y, z⟩
  · rw [h5 14 (by decide)]
    rcases c with c | ⟨c, c'⟩
    · exact Or.inl c
    · exact Or.inr ⟨c, c'.cells (h5 11 (by decide)) (h5 20 (by decide)) (fun x _ _ => h4 x (by omega) (by omega))⟩
theorem c_X8_type (c : Int32) (q : R2 σ n t N K M fs h pl) :
    EV Γ2 1 yX8_type cX8_type 2 (some .int) [.inr 0, .inl c] σ (fun r σ' => ((c < 0 ∨ 127 < c) ∧ r = -2 ∧ σ = σ') ∨ (¬ (c < 0 ∨ 127 < c) ∧ n = 60 ∧ r = -4 ∧ σ = σ') ∨ (¬ (c < 0 ∨ 127 < c) ∧ n < 60 ∧ r = nI (n + 1) ∧ R2 σ' (n + 1) (upd t n c) N K M fs h pl)) := by
  have hn := q.1.1
  have h60 := q.1.2.1
  refine EV.intro (by decide +kernel) (Nat.le_of_ble_eq_true rfl) ?_
  refine j_iload_n (pc := 0) dX8_type_0 rfl ?_
  refine j_iconst (pc := 1) dX8_type_1 (v := 0) (by decide) ?_
  refine j_bipush (pc := 2) dX8_type_2 (v := 127) (by decide) ?_
  refine j_callSi (pc := 4) dX8_type_4 k_X8_59 (c_X8_within _ _ _ _) rfl (by decide) rfl (Nat.le_of_ble_eq_true rfl) (fun r σ1 hp => ?_)
  obtain ⟨rfl, hp⟩ := hp
  rcases hp with ⟨q4, rfl⟩ | ⟨q4, rfl⟩
  · refine j_if_ne (pc := 7) (tgt := 13) dX8_type_7 rfl (fun _ => ?_) (fun h => absurd h (by decide))
    have hc : ¬ (c < 0 ∨ 127 < c) := by (simp only [Int32.lt_iff_toInt_lt, Int32.le_iff_toInt_le, ← Int32.toInt_inj, vp_in_iff, ti_0, ti_1, ti_2, ti_3, ti_4, ti_5, ti_6, ti_7, ti_8, ti_16, ti_48, ti_53, ti_60, ti_97, ti_104, ti_127, ti_149, ti_150, ti_151, ti_256, ti_1200, ti_m1, ti_m2, ti_m3, ti_m4, ti_m9] at *; omega)
    refine j_aload_n (pc := 13) dX8_type_13 rfl ?_
    refine j_getI (pc := 14) dX8_type_14 f_X8_63 (by first | rfl | with_reducible assumption) (by rfl) ?_
    refine j_top hn ?_
    refine j_bipush (pc := 17) dX8_type_17 (v := 60) (by decide) ?_
    refine j_icmp_ne (pc := 19) (tgt := 25) dX8_type_19 rfl (fun h19 => ?_) (fun h19 => ?_)
    · have hlt : n < 60 := by
        have : n ≠ 60 := fun z => h19 (by rw [z]; rfl)
        omega
      refine j_aload_n (pc := 25) dX8_type_25 rfl ?_
      refine j_getR (pc := 26) dX8_type_26 f_X8_7 (by first | rfl | with_reducible assumption) (by rfl) ?_
      refine j_aload_n (pc := 29) dX8_type_29 rfl ?_
      refine j_getI (pc := 30) dX8_type_30 f_X8_63 (by first | rfl | with_reducible assumption) (by rfl) ?_
      refine j_top hn ?_
      refine j_iload_n (pc := 33) dX8_type_33 rfl ?_
      refine j_iast (pc := 34) dX8_type_34 (by first | rfl | with_reducible assumption) (vp_in_nI hlt (by decide)) ?_
      rw [nI_clamp (by omega)]
      refine j_aload_n (pc := 35) dX8_type_35 rfl ?_
      refine j_dup (pc := 36) dX8_type_36 ?_
      refine j_getI (pc := 37) dX8_type_37 f_X8_63 (by first | rfl | with_reducible assumption) (by rfl) ?_
      refine j_top (y := nI n) (by rw [m_ne (by decide)]; exact hn) ?_
      refine j_iconst (pc := 40) dX8_type_40 (v := 1) (by decide) ?_
      refine j_iadd (pc := 41) dX8_type_41 ?_
      rw [nI_1]
      refine j_put (pc := 42) dX8_type_42 f_X8_63 (by first | rfl | with_reducible assumption) (by rfl) ?_
      refine j_aload_n (pc := 45) dX8_type_45 rfl ?_
      refine j_getI (pc := 46) dX8_type_46 f_X8_63 (by first | rfl | with_reducible assumption) (by rfl) ?_
      refine j_iret (pc := 49) dX8_type_49 ?_
      refine Or.inr (Or.inr ⟨hc, hlt, m_eq _ _ _ _, q.tape (m_eq _ _ _ _) (by omega) (fun i hi => ?_) (fun x a b => by rw [m_ne a, m_ne b]) (fun k hk => by rw [m_nk hk, m_ne (by decide)])⟩)
      rw [m_ne (by decide), m_row]
      by_cases z : i = n
      · subst z; rw [pk_us, pk_us]
      · rw [pk_un z, pk_un z]; exact q.1.2.2.1 i (by omega)
    · refine j_bipush (pc := 22) dX8_type_22 (v := (-4)) (by decide) ?_
      refine j_iret (pc := 24) dX8_type_24 ?_
      exact Or.inr (Or.inl ⟨hc, (nI_eq (b := 60) (by omega) (by decide)).mp h19, rfl, rfl⟩)
  · refine j_if_ne (pc := 7) (tgt := 13) dX8_type_7 rfl (fun h => absurd h (by decide)) (fun _ => ?_)
    refine j_bipush (pc := 10) dX8_type_10 (v := (-2)) (by decide) ?_
    refine j_iret (pc := 12) dX8_type_12 ?_
    exact Or.inl ⟨by (simp only [Int32.lt_iff_toInt_lt, Int32.le_iff_toInt_le, ← Int32.toInt_inj, vp_in_iff, ti_0, ti_1, ti_2, ti_3, ti_4, ti_5, ti_6, ti_7, ti_8, ti_16, ti_48, ti_53, ti_60, ti_97, ti_104, ti_127, ti_149, ti_150, ti_151, ti_256, ti_1200, ti_m1, ti_m2, ti_m3, ti_m4, ti_m9] at *; omega), rfl, rfl⟩
theorem c_X8_wipe (q : R2 σ n t N K M fs h pl) : EV Γ2 0 yX8_wipe cX8_wipe 2 (some .int) [.inr 0] σ (fun r σ' => r = nI n ∧ R2 σ' 0 t N K M fs h pl) := by
  refine EV.intro (by decide +kernel) (Nat.le_of_ble_eq_true rfl) ?_
  refine j_aload_n (pc := 0) dX8_wipe_0 rfl ?_
  refine j_getI (pc := 1) dX8_wipe_1 f_X8_63 (by first | rfl | with_reducible assumption) (by rfl) ?_
  refine j_istore_n (pc := 4) dX8_wipe_4 (by decide) ?_
  refine j_aload_n (pc := 5) dX8_wipe_5 rfl ?_
  refine j_iconst (pc := 6) dX8_wipe_6 (v := 0) (by decide) ?_
  refine j_put (pc := 7) dX8_wipe_7 f_X8_63 (by first | rfl | with_reducible assumption) (by rfl) ?_
  refine j_iload_n (pc := 10) dX8_wipe_10 rfl ?_
  refine j_iret (pc := 11) dX8_wipe_11 ?_
  exact ⟨q.1.1, q.tape (m_eq _ _ _ _) (by decide) (fun i hi => absurd hi (Nat.not_lt_zero _)) (fun x a b => m_ne a) (fun k hk => m_nk hk)⟩
theorem c_X8_begins (σ : Mm) : EV Γ2 0 yX8_begins cX8_begins 1 none [.inr 0] σ (mz (m_up (m_up (m_up σ 0 14 0) 0 21 0) 0 22 0)) := by
  refine EV.intro (by decide +kernel) (Nat.le_of_ble_eq_true rfl) ?_
  refine j_aload_n (pc := 0) dX8_begins_0 rfl ?_
  refine j_iconst (pc := 1) dX8_begins_1 (v := 0) (by decide) ?_
  refine j_putZ (pc := 2) dX8_begins_2 f_X8_105 (by first | rfl | with_reducible assumption) (by rfl) (Or.inl rfl) ?_
  refine j_aload_n (pc := 5) dX8_begins_5 rfl ?_
  refine j_iconst (pc := 6) dX8_begins_6 (v := 0) (by decide) ?_
  refine j_put (pc := 7) dX8_begins_7 f_X8_109 (by first | rfl | with_reducible assumption) (by rfl) ?_
  refine j_aload_n (pc := 10) dX8_begins_10 rfl ?_
  refine j_iconst (pc := 11) dX8_begins_11 (v := 0) (by decide) ?_
  refine j_put (pc := 12) dX8_begins_12 f_X8_112 (by first | rfl | with_reducible assumption) (by rfl) ?_
  refine j_vret (pc := 15) dX8_begins_15 ?_
  rfl
theorem R2.begin {σ0 : Mm} (hb : R2b σ0 n t N K M) : R2 (m_up (m_up (m_up σ0 0 14 0) 0 21 0) 0 22 0) n t N K M (σ0 0 9) [] 0 := by
  have e0 : ∀ k, k ≠ 14 → k ≠ 21 → k ≠ 22 → m_up (m_up (m_up σ0 0 14 0) 0 21 0) 0 22 0 0 k = σ0 0 k := fun k a b c => by rw [m_nk c, m_nk b, m_nk a]
  have e1 : ∀ x, x ≠ 0 → m_up (m_up (m_up σ0 0 14 0) 0 21 0) 0 22 0 x = σ0 x := fun x a => by rw [m_ne a, m_ne a, m_ne a]
  obtain ⟨a1, a2, a3, a4, a5, a6⟩ := hb
  refine ⟨⟨by rw [e0 1 (by decide) (by decide) (by decide)]; exact a1, a2, by rw [e1 1 (by decide)]; exact a3, by rw [e0 2 (by decide) (by decide) (by decide)]; exact a4, a5, fun m hm => ?_⟩, e0 9 (by decide) (by decide) (by decide), Or.inl (by rw [m_nk (by decide), m_nk (by decide), m_eq]), ⟨by rw [m_nk (by decide), m_eq], by simp, m_eq _ _ _ _, fun i hi => absurd hi (by simp)⟩, TV.nil⟩
  obtain ⟨x, y, z⟩ := a6 m hm
  exact ⟨x.cells (fun x _ _ => e1 x (by omega)), by rw [e1 2 (by decide)]; exact y, z⟩
theorem c_X8_drop (q : R2 σ n t N K M fs h pl) : EV Γ2 1 yX8_drop cX8_drop 1 (some .int) [.inr 0] σ (fun r σ' => (N = 0 ∧ r = -3 ∧ σ = σ') ∨ ∃ N', N = N' + 1 ∧ r = nI N' ∧ R2 σ' n t N' K M fs [] 0) := by
  obtain ⟨hb, hfs, hD, hTr, hTV⟩ := q
  have hN := hb.2.2.2.1
  have h6 := hb.2.2.2.2.1
  refine EV.intro (by decide +kernel) (Nat.le_of_ble_eq_true rfl) ?_
  refine j_aload_n (pc := 0) dX8_drop_0 rfl ?_
  refine j_getI (pc := 1) dX8_drop_1 f_X8_96 (by first | rfl | with_reducible assumption) (by rfl) ?_
  refine j_top hN ?_
  refine j_if_ne (pc := 4) (tgt := 10) dX8_drop_4 rfl (fun h4 => ?_) (fun h4 => ?_)
  · obtain ⟨N', rfl⟩ : ∃ N', N = N' + 1 := ⟨N - 1, by
      have : N ≠ 0 := fun z => h4 (by rw [z]; rfl)
      omega⟩
    refine j_aload_n (pc := 10) dX8_drop_10 rfl ?_
    refine j_dup (pc := 11) dX8_drop_11 ?_
    refine j_getI (pc := 12) dX8_drop_12 f_X8_96 (by first | rfl | with_reducible assumption) (by rfl) ?_
    refine j_iconst (pc := 15) dX8_drop_15 (v := 1) (by decide) ?_
    refine j_isub (pc := 16) dX8_drop_16 ?_
    refine j_top (y := nI N') (by rw [hN]; exact nI_pred N') ?_
    refine j_put (pc := 17) dX8_drop_17 f_X8_96 (by first | rfl | with_reducible assumption) (by rfl) ?_
    refine j_aload_n (pc := 20) dX8_drop_20 rfl ?_
    refine j_callVv (pc := 21) dX8_drop_21 k_X8_102 (c_X8_begins _) (by first | rfl | with_reducible assumption) rfl rfl (by decide) rfl (Nat.le_of_ble_eq_true rfl) (fun σ1 hp => ?_)
    obtain rfl := hp
    refine j_aload_n (pc := 24) dX8_drop_24 rfl ?_
    refine j_getI (pc := 25) dX8_drop_25 f_X8_96 (by first | rfl | with_reducible assumption) (by rfl) ?_
    refine j_iret (pc := 28) dX8_drop_28 ?_
    have pre : R2b (m_up σ 0 2 (nI N')) n t N' K M := by
      obtain ⟨a1, a2, a3, a4, a5, a6⟩ := hb
      refine ⟨by rw [m_nk (by decide)]; exact a1, a2, by rw [m_ne (by decide)]; exact a3, m_eq _ _ _ _, by omega, fun m hm => ?_⟩
      obtain ⟨x, y, z⟩ := a6 m (by omega)
      exact ⟨x.cells (fun x _ _ => m_ne (by omega)), by rw [m_ne (by decide)]; exact y, z⟩
    have hR := R2.begin pre
    rw [m_nk (by decide), hfs] at hR
    exact Or.inr ⟨N', rfl, hR.1.2.2.2.1, hR⟩
  · refine j_bipush (pc := 7) dX8_drop_7 (v := (-3)) (by decide) ?_
    refine j_iret (pc := 9) dX8_drop_9 ?_
    exact Or.inl ⟨(nI_eq (b := 0) (by omega) (by decide)).mp h4, rfl, rfl⟩
theorem c_X8_anew (q : R2 σ n t N K M fs h pl) : EV Γ2 1 yX8_anew cX8_anew 2 (some .int) [.inr 0] σ (fun r σ' => r = nI N ∧ R2 σ' n t 0 K M 0 [] 0) := by
  obtain ⟨hb, hfs, hD, hTr, hTV⟩ := q
  refine EV.intro (by decide +kernel) (Nat.le_of_ble_eq_true rfl) ?_
  refine j_aload_n (pc := 0) dX8_anew_0 rfl ?_
  refine j_getI (pc := 1) dX8_anew_1 f_X8_96 (by first | rfl | with_reducible assumption) (by rfl) ?_
  refine j_istore_n (pc := 4) dX8_anew_4 (by decide) ?_
  refine j_aload_n (pc := 5) dX8_anew_5 rfl ?_
  refine j_iconst (pc := 6) dX8_anew_6 (v := 0) (by decide) ?_
  refine j_put (pc := 7) dX8_anew_7 f_X8_96 (by first | rfl | with_reducible assumption) (by rfl) ?_
  refine j_aload_n (pc := 10) dX8_anew_10 rfl ?_
  refine j_iconst (pc := 11) dX8_anew_11 (v := 0) (by decide) ?_
  refine j_put (pc := 12) dX8_anew_12 f_X8_118 (by first | rfl | with_reducible assumption) (by rfl) ?_
  refine j_aload_n (pc := 15) dX8_anew_15 rfl ?_
  refine j_callVv (pc := 16) dX8_anew_16 k_X8_102 (c_X8_begins _) (by first | rfl | with_reducible assumption) rfl rfl (by decide) rfl (Nat.le_of_ble_eq_true rfl) (fun σ1 hp => ?_)
  obtain rfl := hp
  refine j_iload_n (pc := 19) dX8_anew_19 rfl ?_
  refine j_iret (pc := 20) dX8_anew_20 ?_
  have pre : R2b (m_up (m_up σ 0 2 0) 0 9 0) n t 0 K M := by
    obtain ⟨a1, a2, a3, a4, a5, a6⟩ := hb
    exact ⟨by rw [m_nk (by decide), m_nk (by decide)]; exact a1, a2, by rw [m_ne (by decide), m_ne (by decide)]; exact a3, by rw [m_nk (by decide), m_eq]; rfl, by decide, fun m hm => absurd hm (Nat.not_lt_zero _)⟩
  have hR := R2.begin pre
  rw [m_eq] at hR
  exact ⟨hb.2.2.2.1, hR⟩
theorem c_X8_free (e v : Int32) (q : R2 σ n t N K M fs h pl) : EV Γ2 2 yX8_free cX8_free 4 (some .int) [.inr 0, .inl e, .inl v] σ (fun r σ' => (¬ vp_in e 8 ∧ r = -1 ∧ σ = σ') ∨ (vp_in e 8 ∧ ¬ (v = 0 ∨ v = 1) ∧ r = -2 ∧ σ = σ') ∨ (vp_in e 8 ∧ (v = 0 ∨ v = 1) ∧ r = (fs >>> (e &&& 31)) &&& 1 ∧ R2 σ' n t N K M (freeF fs e v) [] 0)) := by
  obtain ⟨hb, hfs, hD, hTr, hTV⟩ := q
  refine EV.intro (by decide +kernel) (Nat.le_of_ble_eq_true rfl) ?_
  refine j_iload_n (pc := 0) dX8_free_0 rfl ?_
  refine j_callSi (pc := 1) dX8_free_1 k_X8_115 (c_X8_isEvent _ _) rfl (by decide) rfl (Nat.le_of_ble_eq_true rfl) (fun r σ1 hp => ?_)
  obtain ⟨rfl, hp⟩ := hp
  rcases hp with ⟨q1, rfl⟩ | ⟨q1, rfl⟩
  · refine j_if_ne (pc := 4) (tgt := 9) dX8_free_4 rfl (fun _ => ?_) (fun h => absurd h (by decide))
    refine j_iload_n (pc := 9) dX8_free_9 rfl ?_
    refine j_iconst (pc := 10) dX8_free_10 (v := 0) (by decide) ?_
    refine j_iconst (pc := 11) dX8_free_11 (v := 1) (by decide) ?_
    refine j_callSi (pc := 12) dX8_free_12 k_X8_59 (c_X8_within _ _ _ _) rfl (by decide) rfl (Nat.le_of_ble_eq_true rfl) (fun r σ1 hp => ?_)
    obtain ⟨rfl, hp⟩ := hp
    rcases hp with ⟨q12, rfl⟩ | ⟨q12, rfl⟩
    · refine j_if_ne (pc := 15) (tgt := 21) dX8_free_15 rfl (fun _ => ?_) (fun h => absurd h (by decide))
      refine j_aload_n (pc := 21) dX8_free_21 rfl ?_
      refine j_getI (pc := 22) dX8_free_22 f_X8_118 (by first | rfl | with_reducible assumption) (by rfl) ?_
      refine j_iload_n (pc := 25) dX8_free_25 rfl ?_
      refine j_callSi (pc := 26) dX8_free_26 k_X8_121 (c_X8_bit _ _ _) rfl (by decide) rfl (Nat.le_of_ble_eq_true rfl) (fun r σ1 hp => ?_)
      obtain ⟨rfl, rfl⟩ := hp
      refine j_istore_n (pc := 29) dX8_free_29 (by decide) ?_
      refine j_aload_n (pc := 30) dX8_free_30 rfl ?_
      refine j_aload_n (pc := 31) dX8_free_31 rfl ?_
      refine j_getI (pc := 32) dX8_free_32 f_X8_118 (by first | rfl | with_reducible assumption) (by rfl) ?_
      refine j_iconst (pc := 35) dX8_free_35 (v := 1) (by decide) ?_
      refine j_iload_n (pc := 36) dX8_free_36 rfl ?_
      refine j_ishl (pc := 37) dX8_free_37 ?_
      refine j_iconst (pc := 38) dX8_free_38 (v := (-1)) (by decide) ?_
      refine j_ixor (pc := 39) dX8_free_39 ?_
      refine j_iand (pc := 40) dX8_free_40 ?_
      refine j_iload_n (pc := 41) dX8_free_41 rfl ?_
      refine j_iload_n (pc := 42) dX8_free_42 rfl ?_
      refine j_ishl (pc := 43) dX8_free_43 ?_
      refine j_ior (pc := 44) dX8_free_44 ?_
      refine j_put (pc := 45) dX8_free_45 f_X8_118 (by first | rfl | with_reducible assumption) (by rfl) ?_
      refine j_aload_n (pc := 48) dX8_free_48 rfl ?_
      refine j_callVv (pc := 49) dX8_free_49 k_X8_102 (c_X8_begins _) (by first | rfl | with_reducible assumption) rfl rfl (by decide) rfl (Nat.le_of_ble_eq_true rfl) (fun σ1 hp => ?_)
      obtain rfl := hp
      refine j_iload_n (pc := 52) dX8_free_52 rfl ?_
      refine j_iret (pc := 53) dX8_free_53 ?_
      have pre : R2b (m_up σ 0 9 (freeF fs e v)) n t N K M := by
        obtain ⟨a1, a2, a3, a4, a5, a6⟩ := hb
        refine ⟨by rw [m_nk (by decide)]; exact a1, a2, by rw [m_ne (by decide)]; exact a3, by rw [m_nk (by decide)]; exact a4, a5, fun m hm => ?_⟩
        obtain ⟨x, y, z⟩ := a6 m hm
        exact ⟨x.cells (fun x _ _ => m_ne (by omega)), by rw [m_ne (by decide)]; exact y, z⟩
      have hR := R2.begin pre
      rw [m_eq] at hR
      refine Or.inr (Or.inr ⟨q1, by (simp only [Int32.lt_iff_toInt_lt, Int32.le_iff_toInt_le, ← Int32.toInt_inj, vp_in_iff, ti_0, ti_1, ti_2, ti_3, ti_4, ti_5, ti_6, ti_7, ti_8, ti_16, ti_48, ti_53, ti_60, ti_97, ti_104, ti_127, ti_149, ti_150, ti_151, ti_256, ti_1200, ti_m1, ti_m2, ti_m3, ti_m4, ti_m9] at *; omega), by rw [hfs], ?_⟩)
      rw [hfs]
      exact hR
    · refine j_if_ne (pc := 15) (tgt := 21) dX8_free_15 rfl (fun h => absurd h (by decide)) (fun _ => ?_)
      refine j_bipush (pc := 18) dX8_free_18 (v := (-2)) (by decide) ?_
      refine j_iret (pc := 20) dX8_free_20 ?_
      refine Or.inr (Or.inl ⟨q1, fun z => q12 ?_, rfl, rfl⟩)
      rcases z with rfl | rfl <;> decide
  · refine j_if_ne (pc := 4) (tgt := 9) dX8_free_4 rfl (fun h => absurd h (by decide)) (fun _ => ?_)
    refine j_iconst (pc := 7) dX8_free_7 (v := (-1)) (by decide) ?_
    refine j_iret (pc := 8) dX8_free_8 ?_
    exact Or.inl ⟨q1, rfl, rfl⟩
theorem c_X8_ofMachine (m what : Int32) (q : R2 σ n t N K M fs h pl) :
    EV Γ2 2 yX8_ofMachine cX8_ofMachine 3 (some .int) [.inr 0, .inl m, .inl what] σ (fun r σ' => σ = σ' ∧ ((¬ vp_in m N ∧ r = -1) ∨ ∃ i, i < N ∧ m = nI i ∧ r = (if what = 0 then K i else if what = 1 then (M i).2.1 else if what = 2 then (M i).2.2.1 else if what = 3 then (M i).2.2.2.1 else if what = 4 then (M i).2.2.2.2 else -2))) := by
  have hN := q.1.2.2.2.1
  have h6 := q.1.2.2.2.2.1
  refine EV.intro (by decide +kernel) (Nat.le_of_ble_eq_true rfl) ?_
  refine j_aload_n (pc := 0) dX8_ofMachine_0 rfl ?_
  refine j_iload_n (pc := 1) dX8_ofMachine_1 rfl ?_
  refine j_callVi (pc := 2) dX8_ofMachine_2 k_X8_125 (c_X8_isMachine m hN h6) (by first | rfl | with_reducible assumption) rfl rfl (by decide) rfl (Nat.le_of_ble_eq_true rfl) (fun r σ1 hp => ?_)
  obtain ⟨rfl, hp⟩ := hp
  rcases hp with ⟨q2, rfl⟩ | ⟨q2, rfl⟩
  · refine j_if_ne (pc := 5) (tgt := 10) dX8_ofMachine_5 rfl (fun _ => ?_) (fun h => absurd h (by decide))
    obtain ⟨i, hi, rfl⟩ := vp_in_of q2 (by omega)
    obtain ⟨⟨f1, f2, f3, f4, f5⟩, e2, e3⟩ := q.1.2.2.2.2.2 i hi
    have hcl : (nI i).toNatClampNeg = i := nI_clamp (by omega)
    refine j_iload_n (pc := 10) dX8_ofMachine_10 rfl ?_
    by_cases sw11_0 : what = 0
    · refine j_top sw11_0 ?_
      refine j_tableIn (pc := 11) (tgt := 44) dX8_ofMachine_11 (by decide) (by decide) (off := 33) rfl rfl ?_
      refine j_aload_n (pc := 44) dX8_ofMachine_44 rfl ?_
      refine j_getR (pc := 45) dX8_ofMachine_45 f_X8_13 (by first | rfl | with_reducible assumption) (by rfl) ?_
      refine j_iload_n (pc := 48) dX8_ofMachine_48 rfl ?_
      refine j_iald (pc := 49) dX8_ofMachine_49 (by first | rfl | with_reducible assumption) (vp_in_nI (by omega) (by decide)) ?_
      refine j_iret (pc := 50) dX8_ofMachine_50 ?_
      refine ⟨rfl, Or.inr ⟨i, hi, rfl, ?_⟩⟩
      first | (rw [if_pos sw11_0, hcl]; exact e2) | (rw [if_neg sw11_0, if_pos sw11_1, hcl]; exact f2) | (rw [if_neg sw11_0, if_neg sw11_1, if_pos sw11_2, hcl]; exact f3) | (rw [if_neg sw11_0, if_neg sw11_1, if_neg sw11_2, if_pos sw11_3, hcl]; exact f4) | (rw [if_neg sw11_0, if_neg sw11_1, if_neg sw11_2, if_neg sw11_3, if_pos sw11_4, hcl]; exact f5) | (rw [if_neg sw11_0, if_neg sw11_1, if_neg sw11_2, if_neg sw11_3, if_neg sw11_4])
    by_cases sw11_1 : what = 1
    · refine j_top sw11_1 ?_
      refine j_tableIn (pc := 11) (tgt := 51) dX8_ofMachine_11 (by decide) (by decide) (off := 40) rfl rfl ?_
      refine j_aload_n (pc := 51) dX8_ofMachine_51 rfl ?_
      refine j_getR (pc := 52) dX8_ofMachine_52 f_X8_16 (by first | rfl | with_reducible assumption) (by rfl) ?_
      refine j_iload_n (pc := 55) dX8_ofMachine_55 rfl ?_
      refine j_iald (pc := 56) dX8_ofMachine_56 (by first | rfl | with_reducible assumption) (vp_in_nI (by omega) (by decide)) ?_
      refine j_iret (pc := 57) dX8_ofMachine_57 ?_
      refine ⟨rfl, Or.inr ⟨i, hi, rfl, ?_⟩⟩
      first | (rw [if_pos sw11_0, hcl]; exact e2) | (rw [if_neg sw11_0, if_pos sw11_1, hcl]; exact f2) | (rw [if_neg sw11_0, if_neg sw11_1, if_pos sw11_2, hcl]; exact f3) | (rw [if_neg sw11_0, if_neg sw11_1, if_neg sw11_2, if_pos sw11_3, hcl]; exact f4) | (rw [if_neg sw11_0, if_neg sw11_1, if_neg sw11_2, if_neg sw11_3, if_pos sw11_4, hcl]; exact f5) | (rw [if_neg sw11_0, if_neg sw11_1, if_neg sw11_2, if_neg sw11_3, if_neg sw11_4])
    by_cases sw11_2 : what = 2
    · refine j_top sw11_2 ?_
      refine j_tableIn (pc := 11) (tgt := 58) dX8_ofMachine_11 (by decide) (by decide) (off := 47) rfl rfl ?_
      refine j_aload_n (pc := 58) dX8_ofMachine_58 rfl ?_
      refine j_getR (pc := 59) dX8_ofMachine_59 f_X8_19 (by first | rfl | with_reducible assumption) (by rfl) ?_
      refine j_iload_n (pc := 62) dX8_ofMachine_62 rfl ?_
      refine j_iald (pc := 63) dX8_ofMachine_63 (by first | rfl | with_reducible assumption) (vp_in_nI (by omega) (by decide)) ?_
      refine j_iret (pc := 64) dX8_ofMachine_64 ?_
      refine ⟨rfl, Or.inr ⟨i, hi, rfl, ?_⟩⟩
      first | (rw [if_pos sw11_0, hcl]; exact e2) | (rw [if_neg sw11_0, if_pos sw11_1, hcl]; exact f2) | (rw [if_neg sw11_0, if_neg sw11_1, if_pos sw11_2, hcl]; exact f3) | (rw [if_neg sw11_0, if_neg sw11_1, if_neg sw11_2, if_pos sw11_3, hcl]; exact f4) | (rw [if_neg sw11_0, if_neg sw11_1, if_neg sw11_2, if_neg sw11_3, if_pos sw11_4, hcl]; exact f5) | (rw [if_neg sw11_0, if_neg sw11_1, if_neg sw11_2, if_neg sw11_3, if_neg sw11_4])
    by_cases sw11_3 : what = 3
    · refine j_top sw11_3 ?_
      refine j_tableIn (pc := 11) (tgt := 65) dX8_ofMachine_11 (by decide) (by decide) (off := 54) rfl rfl ?_
      refine j_aload_n (pc := 65) dX8_ofMachine_65 rfl ?_
      refine j_getR (pc := 66) dX8_ofMachine_66 f_X8_22 (by first | rfl | with_reducible assumption) (by rfl) ?_
      refine j_iload_n (pc := 69) dX8_ofMachine_69 rfl ?_
      refine j_iald (pc := 70) dX8_ofMachine_70 (by first | rfl | with_reducible assumption) (vp_in_nI (by omega) (by decide)) ?_
      refine j_iret (pc := 71) dX8_ofMachine_71 ?_
      refine ⟨rfl, Or.inr ⟨i, hi, rfl, ?_⟩⟩
      first | (rw [if_pos sw11_0, hcl]; exact e2) | (rw [if_neg sw11_0, if_pos sw11_1, hcl]; exact f2) | (rw [if_neg sw11_0, if_neg sw11_1, if_pos sw11_2, hcl]; exact f3) | (rw [if_neg sw11_0, if_neg sw11_1, if_neg sw11_2, if_pos sw11_3, hcl]; exact f4) | (rw [if_neg sw11_0, if_neg sw11_1, if_neg sw11_2, if_neg sw11_3, if_pos sw11_4, hcl]; exact f5) | (rw [if_neg sw11_0, if_neg sw11_1, if_neg sw11_2, if_neg sw11_3, if_neg sw11_4])
    by_cases sw11_4 : what = 4
    · refine j_top sw11_4 ?_
      refine j_tableIn (pc := 11) (tgt := 72) dX8_ofMachine_11 (by decide) (by decide) (off := 61) rfl rfl ?_
      refine j_aload_n (pc := 72) dX8_ofMachine_72 rfl ?_
      refine j_getR (pc := 73) dX8_ofMachine_73 f_X8_25 (by first | rfl | with_reducible assumption) (by rfl) ?_
      refine j_iload_n (pc := 76) dX8_ofMachine_76 rfl ?_
      refine j_iald (pc := 77) dX8_ofMachine_77 (by first | rfl | with_reducible assumption) (vp_in_nI (by omega) (by decide)) ?_
      refine j_iret (pc := 78) dX8_ofMachine_78 ?_
      refine ⟨rfl, Or.inr ⟨i, hi, rfl, ?_⟩⟩
      first | (rw [if_pos sw11_0, hcl]; exact e2) | (rw [if_neg sw11_0, if_pos sw11_1, hcl]; exact f2) | (rw [if_neg sw11_0, if_neg sw11_1, if_pos sw11_2, hcl]; exact f3) | (rw [if_neg sw11_0, if_neg sw11_1, if_neg sw11_2, if_pos sw11_3, hcl]; exact f4) | (rw [if_neg sw11_0, if_neg sw11_1, if_neg sw11_2, if_neg sw11_3, if_pos sw11_4, hcl]; exact f5) | (rw [if_neg sw11_0, if_neg sw11_1, if_neg sw11_2, if_neg sw11_3, if_neg sw11_4])
    refine j_tableOut (pc := 11) (tgt := 79) dX8_ofMachine_11 (by (simp only [Int32.lt_iff_toInt_lt, Int32.le_iff_toInt_le, ← Int32.toInt_inj, vp_in_iff, ti_0, ti_1, ti_2, ti_3, ti_4, ti_5, ti_6, ti_7, ti_8, ti_16, ti_48, ti_53, ti_60, ti_97, ti_104, ti_127, ti_149, ti_150, ti_151, ti_256, ti_1200, ti_m1, ti_m2, ti_m3, ti_m4, ti_m9] at *; omega)) rfl ?_
    refine j_bipush (pc := 79) dX8_ofMachine_79 (v := (-2)) (by decide) ?_
    refine j_iret (pc := 81) dX8_ofMachine_81 ?_
    refine ⟨rfl, Or.inr ⟨i, hi, rfl, ?_⟩⟩
    first | (rw [if_pos sw11_0, hcl]; exact e2) | (rw [if_neg sw11_0, if_pos sw11_1, hcl]; exact f2) | (rw [if_neg sw11_0, if_neg sw11_1, if_pos sw11_2, hcl]; exact f3) | (rw [if_neg sw11_0, if_neg sw11_1, if_neg sw11_2, if_pos sw11_3, hcl]; exact f4) | (rw [if_neg sw11_0, if_neg sw11_1, if_neg sw11_2, if_neg sw11_3, if_pos sw11_4, hcl]; exact f5) | (rw [if_neg sw11_0, if_neg sw11_1, if_neg sw11_2, if_neg sw11_3, if_neg sw11_4])
  · refine j_if_ne (pc := 5) (tgt := 10) dX8_ofMachine_5 rfl (fun h => absurd h (by decide)) (fun _ => ?_)
    refine j_iconst (pc := 8) dX8_ofMachine_8 (v := (-1)) (by decide) ?_
    refine j_iret (pc := 9) dX8_ofMachine_9 ?_
    exact ⟨rfl, Or.inl ⟨q2, rfl⟩⟩
theorem c_X8_step (m s e : Int32) (q : R2 σ n t N K M fs h pl) :
    EV Γ2 2 yX8_step cX8_step 4 (some .int) [.inr 0, .inl m, .inl s, .inl e] σ (fun r σ' => σ = σ' ∧ ((¬ (vp_in m N ∧ vp_in s 6 ∧ vp_in e 8) ∧ r = -1) ∨ ∃ i a b : Nat, i < N ∧ a < 6 ∧ b < 8 ∧ m = nI i ∧ s = nI a ∧ e = nI b ∧ r = (M i).1 (8 * a + b))) := by
  have hN := q.1.2.2.2.1
  have h6 := q.1.2.2.2.2.1
  refine EV.intro (by decide +kernel) (Nat.le_of_ble_eq_true rfl) ?_
  refine j_aload_n (pc := 0) dX8_step_0 rfl ?_
  refine j_iload_n (pc := 1) dX8_step_1 rfl ?_
  refine j_callVi (pc := 2) dX8_step_2 k_X8_125 (c_X8_isMachine m hN h6) (by first | rfl | with_reducible assumption) rfl rfl (by decide) rfl (Nat.le_of_ble_eq_true rfl) (fun r σ1 hp => ?_)
  obtain ⟨rfl, hp⟩ := hp
  rcases hp with ⟨q2, rfl⟩ | ⟨q2, rfl⟩
  · refine j_if_eq (pc := 5) (tgt := 38) dX8_step_5 rfl (fun h => absurd h (by decide)) (fun _ => ?_)
    refine j_iload_n (pc := 8) dX8_step_8 rfl ?_
    refine j_iconst (pc := 9) dX8_step_9 (v := 0) (by decide) ?_
    refine j_iconst (pc := 10) dX8_step_10 (v := 5) (by decide) ?_
    refine j_callSi (pc := 11) dX8_step_11 k_X8_59 (c_X8_within _ _ _ _) rfl (by decide) rfl (Nat.le_of_ble_eq_true rfl) (fun r σ1 hp => ?_)
    obtain ⟨rfl, hp⟩ := hp
    rcases hp with ⟨q11, rfl⟩ | ⟨q11, rfl⟩
    · have hs : vp_in s 6 := by (simp only [Int32.lt_iff_toInt_lt, Int32.le_iff_toInt_le, ← Int32.toInt_inj, vp_in_iff, ti_0, ti_1, ti_2, ti_3, ti_4, ti_5, ti_6, ti_7, ti_8, ti_16, ti_48, ti_53, ti_60, ti_97, ti_104, ti_127, ti_149, ti_150, ti_151, ti_256, ti_1200, ti_m1, ti_m2, ti_m3, ti_m4, ti_m9] at *; omega)
      refine j_if_eq (pc := 14) (tgt := 38) dX8_step_14 rfl (fun h => absurd h (by decide)) (fun _ => ?_)
      refine j_iload_n (pc := 17) dX8_step_17 rfl ?_
      refine j_callSi (pc := 18) dX8_step_18 k_X8_115 (c_X8_isEvent _ _) rfl (by decide) rfl (Nat.le_of_ble_eq_true rfl) (fun r σ1 hp => ?_)
      obtain ⟨rfl, hp⟩ := hp
      rcases hp with ⟨q18, rfl⟩ | ⟨q18, rfl⟩
      · refine j_if_eq (pc := 21) (tgt := 38) dX8_step_21 rfl (fun h => absurd h (by decide)) (fun _ => ?_)
        obtain ⟨i, hi, rfl⟩ := vp_in_of q2 (by omega)
        obtain ⟨a, ha, rfl⟩ := vp_in_of hs (by decide)
        obtain ⟨b, hb, rfl⟩ := vp_in_of q18 (by decide)
        refine j_aload_n (pc := 24) dX8_step_24 rfl ?_
        refine j_getR (pc := 25) dX8_step_25 f_X8_28 (by first | rfl | with_reducible assumption) (by rfl) ?_
        refine j_iload_n (pc := 28) dX8_step_28 rfl ?_
        refine j_iload_n (pc := 29) dX8_step_29 rfl ?_
        refine j_iload_n (pc := 30) dX8_step_30 rfl ?_
        refine j_callSi (pc := 31) dX8_step_31 k_X8_81 (c_X8_stepAt _ _ _ _) rfl (by decide) rfl (Nat.le_of_ble_eq_true rfl) (fun r σ1 hp => ?_)
        obtain ⟨rfl, rfl⟩ := hp
        refine j_top (stAt i a b) ?_
        refine j_iald (pc := 34) dX8_step_34 (by first | rfl | with_reducible assumption) (vp_in_nI (by omega) (by decide)) ?_
        refine j_goto (pc := 35) (tgt := 39) dX8_step_35 rfl ?_
        refine j_iret (pc := 39) dX8_step_39 ?_
        first
          | exact ⟨rfl, Or.inl ⟨fun z => q18 z.2.2, rfl⟩⟩
          | exact ⟨rfl, Or.inl ⟨fun z => hs z.2.1, rfl⟩⟩
          | exact ⟨rfl, Or.inl ⟨fun z => q2 z.1, rfl⟩⟩
          | exact ⟨rfl, Or.inr ⟨i, a, b, hi, ha, hb, rfl, rfl, rfl, by rw [nI_clamp (by omega)]; exact (q.1.2.2.2.2.2 i hi).1.1 (8 * a + b) (by omega)⟩⟩
      · refine j_if_eq (pc := 21) (tgt := 38) dX8_step_21 rfl (fun _ => ?_) (fun h => absurd h (by decide))
        refine j_iconst (pc := 38) dX8_step_38 (v := (-1)) (by decide) ?_
        refine j_iret (pc := 39) dX8_step_39 ?_
        first
          | exact ⟨rfl, Or.inl ⟨fun z => q18 z.2.2, rfl⟩⟩
          | exact ⟨rfl, Or.inl ⟨fun z => hs z.2.1, rfl⟩⟩
          | exact ⟨rfl, Or.inl ⟨fun z => q2 z.1, rfl⟩⟩
          | exact ⟨rfl, Or.inr ⟨i, a, b, hi, ha, hb, rfl, rfl, rfl, by rw [nI_clamp (by omega)]; exact (q.1.2.2.2.2.2 i hi).1.1 (8 * a + b) (by omega)⟩⟩
    · have hs : ¬ vp_in s 6 := by (simp only [Int32.lt_iff_toInt_lt, Int32.le_iff_toInt_le, ← Int32.toInt_inj, vp_in_iff, ti_0, ti_1, ti_2, ti_3, ti_4, ti_5, ti_6, ti_7, ti_8, ti_16, ti_48, ti_53, ti_60, ti_97, ti_104, ti_127, ti_149, ti_150, ti_151, ti_256, ti_1200, ti_m1, ti_m2, ti_m3, ti_m4, ti_m9] at *; omega)
      refine j_if_eq (pc := 14) (tgt := 38) dX8_step_14 rfl (fun _ => ?_) (fun h => absurd h (by decide))
      refine j_iconst (pc := 38) dX8_step_38 (v := (-1)) (by decide) ?_
      refine j_iret (pc := 39) dX8_step_39 ?_
      first
        | exact ⟨rfl, Or.inl ⟨fun z => q18 z.2.2, rfl⟩⟩
        | exact ⟨rfl, Or.inl ⟨fun z => hs z.2.1, rfl⟩⟩
        | exact ⟨rfl, Or.inl ⟨fun z => q2 z.1, rfl⟩⟩
        | exact ⟨rfl, Or.inr ⟨i, a, b, hi, ha, hb, rfl, rfl, rfl, by rw [nI_clamp (by omega)]; exact (q.1.2.2.2.2.2 i hi).1.1 (8 * a + b) (by omega)⟩⟩
  · refine j_if_eq (pc := 5) (tgt := 38) dX8_step_5 rfl (fun _ => ?_) (fun h => absurd h (by decide))
    refine j_iconst (pc := 38) dX8_step_38 (v := (-1)) (by decide) ?_
    refine j_iret (pc := 39) dX8_step_39 ?_
    first
      | exact ⟨rfl, Or.inl ⟨fun z => q18 z.2.2, rfl⟩⟩
      | exact ⟨rfl, Or.inl ⟨fun z => hs z.2.1, rfl⟩⟩
      | exact ⟨rfl, Or.inl ⟨fun z => q2 z.1, rfl⟩⟩
      | exact ⟨rfl, Or.inr ⟨i, a, b, hi, ha, hb, rfl, rfl, rfl, by rw [nI_clamp (by omega)]; exact (q.1.2.2.2.2.2 i hi).1.1 (8 * a + b) (by omega)⟩⟩
end Ref1
