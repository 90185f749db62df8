/-! LEASTBARSMODEL: reads a MACHINE from the TAPE -/
def cd (f : Nat → Int32) (n p : Nat) : Int32 := if p < n then f p else -9
theorem sub_toInt (c : Int32) (k : Int32) (a : Int) (hk : k.toInt = a) : (c - k).toInt = (c.toInt - a).bmod (2 ^ 32) := by rw [Int32.toInt_sub, hk]
theorem bm_in (x a b : Int) (hx : -2147483648 ≤ x ∧ x < 2147483648) (ha : 0 ≤ a ∧ a < 1000) (hb : 0 ≤ b ∧ b < 1000) : (0 ≤ (x - a).bmod (2 ^ 32) ∧ (x - a).bmod (2 ^ 32) < b) ↔ (a ≤ x ∧ x < a + b) := by
  rw [Int.bmod_def]
  by_cases h : (x - a) % ((2 ^ 32 : Nat) : Int) < (((2 ^ 32 : Nat) : Int) + 1) / 2
  · rw [if_pos h]; omega
  · rw [if_neg h]; omega
theorem i32_bd (c : Int32) : -2147483648 ≤ c.toInt ∧ c.toInt < 2147483648 := ⟨by have := Int32.le_toInt c; omega, by have := Int32.toInt_lt c; omega⟩
theorem fig_iff {c : Int32} : isFig (c - 48) = true ↔ (48 ≤ c ∧ c ≤ 53) := by
  unfold isFig
  rw [decide_eq_true_iff, sub_toInt c 48 48 rfl, bm_in _ 48 6 (i32_bd c) (by decide) (by decide)]
  (simp only [Int32.lt_iff_toInt_lt, Int32.le_iff_toInt_le, ← Int32.toInt_inj, vp_in_iff, ti_0, ti_1, ti_2, ti_3, ti_4, ti_5, ti_6, ti_7, ti_8, ti_16, ti_48, ti_53, ti_60, ti_97, ti_104, ti_127, ti_149, ti_150, ti_151, ti_256, ti_1200, ti_m1, ti_m2, ti_m3, ti_m4, ti_m9] at *; omega)
theorem let_iff {c : Int32} : isLet (c - 97) = true ↔ (97 ≤ c ∧ c ≤ 104) := by
  unfold isLet
  rw [decide_eq_true_iff, sub_toInt c 97 97 rfl, bm_in _ 97 8 (i32_bd c) (by decide) (by decide)]
  (simp only [Int32.lt_iff_toInt_lt, Int32.le_iff_toInt_le, ← Int32.toInt_inj, vp_in_iff, ti_0, ti_1, ti_2, ti_3, ti_4, ti_5, ti_6, ti_7, ti_8, ti_16, ti_48, ti_53, ti_60, ti_97, ti_104, ti_127, ti_149, ti_150, ti_151, ti_256, ti_1200, ti_m1, ti_m2, ti_m3, ti_m4, ti_m9] at *; omega)
section Read
variable {σ : Mm} {n p m : Nat} {v : MV} {c : Int32}
theorem c_X8_codeHere (hp : σ 0 10 = nI p) (hn : σ 0 1 = nI n) (h60 : n ≤ 60) (hpn : p ≤ n) (hc : cd (σ 1) n p = c) : EV Γ2 0 yX8_codeHere cX8_codeHere 1 (some .int) [.inr 0] σ (vz c σ) := by
  subst hc
  unfold cd
  refine EV.intro (by decide +kernel) (Nat.le_of_ble_eq_true rfl) ?_
  refine j_aload_n (pc := 0) dX8_codeHere_0 rfl ?_
  refine j_getI (pc := 1) dX8_codeHere_1 f_X8_67 (by first | rfl | with_reducible assumption) (by rfl) ?_
  refine j_top hp ?_
  refine j_aload_n (pc := 4) dX8_codeHere_4 rfl ?_
  refine j_getI (pc := 5) dX8_codeHere_5 f_X8_63 (by first | rfl | with_reducible assumption) (by rfl) ?_
  refine j_top hn ?_
  refine j_icmp_ge (pc := 8) (tgt := 23) dX8_codeHere_8 rfl (fun h8 => ?_) (fun h8 => ?_)
  · have hlt : ¬ p < n := fun z => absurd h8 (nI_ge z (by omega))
    refine j_bipush (pc := 23) dX8_codeHere_23 (v := (-9)) (by decide) ?_
    refine j_iret (pc := 25) dX8_codeHere_25 ?_
    first
      | exact ⟨rfl, (if_pos hlt).symm⟩
      | exact ⟨rfl, (if_neg hlt).symm⟩
  · have hlt : p < n := by
      have := nI_ge (a := p) (b := n)
      apply Classical.byContradiction
      intro z
      obtain rfl : p = n := by omega
      exact h8 (Int32.le_refl _)
    refine j_aload_n (pc := 11) dX8_codeHere_11 rfl ?_
    refine j_getR (pc := 12) dX8_codeHere_12 f_X8_7 (by first | rfl | with_reducible assumption) (by rfl) ?_
    refine j_aload_n (pc := 15) dX8_codeHere_15 rfl ?_
    refine j_getI (pc := 16) dX8_codeHere_16 f_X8_67 (by first | rfl | with_reducible assumption) (by rfl) ?_
    refine j_top hp ?_
    refine j_iald (pc := 19) dX8_codeHere_19 (by first | rfl | with_reducible assumption) (vp_in_nI (by omega) (by decide)) ?_
    rw [nI_clamp (show p < 2 ^ 31 by omega)]
    refine j_goto (pc := 20) (tgt := 25) dX8_codeHere_20 rfl ?_
    refine j_iret (pc := 25) dX8_codeHere_25 ?_
    first
      | exact ⟨rfl, (if_pos hlt).symm⟩
      | exact ⟨rfl, (if_neg hlt).symm⟩
theorem c_X8_isFigure (hp : σ 0 10 = nI p) (hn : σ 0 1 = nI n) (h60 : n ≤ 60) (hpn : p ≤ n) (hc : cd (σ 1) n p = c) : EV Γ2 1 yX8_isFigure cX8_isFigure 1 (some .boolean) [.inr 0] σ (bz (isFig (c - 48) = true) σ) := by
  refine EV.intro (by decide +kernel) (Nat.le_of_ble_eq_true rfl) ?_
  refine j_aload_n (pc := 0) dX8_isFigure_0 rfl ?_
  refine j_callVi (pc := 1) dX8_isFigure_1 k_X8_70 (c_X8_codeHere hp hn h60 hpn hc) (by first | rfl | with_reducible assumption) rfl rfl (by decide) rfl (Nat.le_of_ble_eq_true rfl) (fun r σ1 hp => ?_)
  obtain ⟨rfl, rfl⟩ := hp
  refine j_bipush (pc := 4) dX8_isFigure_4 (v := 48) (by decide) ?_
  refine j_bipush (pc := 6) dX8_isFigure_6 (v := 53) (by decide) ?_
  refine j_callSi (pc := 8) dX8_isFigure_8 k_X8_59 (c_X8_within _ _ _ _) rfl (by decide) rfl (Nat.le_of_ble_eq_true rfl) (fun r σ1 hp => ?_)
  obtain ⟨rfl, hp⟩ := hp
  rcases hp with ⟨q8, rfl⟩ | ⟨q8, rfl⟩
  · refine j_zret (pc := 11) dX8_isFigure_11 (Or.inr rfl) ?_
    exact ⟨rfl, Or.inl ⟨fig_iff.mpr q8, rfl⟩⟩
  · refine j_zret (pc := 11) dX8_isFigure_11 (Or.inl rfl) ?_
    exact ⟨rfl, Or.inr ⟨fun z => q8 (fig_iff.mp z), rfl⟩⟩
theorem c_X8_isLetter (hp : σ 0 10 = nI p) (hn : σ 0 1 = nI n) (h60 : n ≤ 60) (hpn : p ≤ n) (hc : cd (σ 1) n p = c) : EV Γ2 1 yX8_isLetter cX8_isLetter 1 (some .boolean) [.inr 0] σ (bz (isLet (c - 97) = true) σ) := by
  refine EV.intro (by decide +kernel) (Nat.le_of_ble_eq_true rfl) ?_
  refine j_aload_n (pc := 0) dX8_isLetter_0 rfl ?_
  refine j_callVi (pc := 1) dX8_isLetter_1 k_X8_70 (c_X8_codeHere hp hn h60 hpn hc) (by first | rfl | with_reducible assumption) rfl rfl (by decide) rfl (Nat.le_of_ble_eq_true rfl) (fun r σ1 hp => ?_)
  obtain ⟨rfl, rfl⟩ := hp
  refine j_bipush (pc := 4) dX8_isLetter_4 (v := 97) (by decide) ?_
  refine j_bipush (pc := 6) dX8_isLetter_6 (v := 104) (by decide) ?_
  refine j_callSi (pc := 8) dX8_isLetter_8 k_X8_59 (c_X8_within _ _ _ _) rfl (by decide) rfl (Nat.le_of_ble_eq_true rfl) (fun r σ1 hp => ?_)
  obtain ⟨rfl, hp⟩ := hp
  rcases hp with ⟨q8, rfl⟩ | ⟨q8, rfl⟩
  · refine j_zret (pc := 11) dX8_isLetter_11 (Or.inr rfl) ?_
    exact ⟨rfl, Or.inl ⟨let_iff.mpr q8, rfl⟩⟩
  · refine j_zret (pc := 11) dX8_isLetter_11 (Or.inl rfl) ?_
    exact ⟨rfl, Or.inr ⟨fun z => q8 (let_iff.mp z), rfl⟩⟩
theorem c_X8_names (hm : m < 6) (s : Int32) (σ : Mm) : EV Γ2 0 yX8_names cX8_names 3 none [.inr 0, .inl (nI m), .inl s] σ (mz (m_up σ 6 m (mx (σ 6 m) s))) := by
  have hcm : (nI m).toNatClampNeg = m := nI_clamp (by omega)
  have hv : vp_in (nI m) 6 := vp_in_nI hm (by decide)
  refine EV.intro (by decide +kernel) (Nat.le_of_ble_eq_true rfl) ?_
  refine j_aload_n (pc := 0) dX8_names_0 rfl ?_
  refine j_getR (pc := 1) dX8_names_1 f_X8_25 (by first | rfl | with_reducible assumption) (by rfl) ?_
  refine j_iload_n (pc := 4) dX8_names_4 rfl ?_
  refine j_iload_n (pc := 5) dX8_names_5 rfl ?_
  refine j_aload_n (pc := 6) dX8_names_6 rfl ?_
  refine j_getR (pc := 7) dX8_names_7 f_X8_25 (by first | rfl | with_reducible assumption) (by rfl) ?_
  refine j_iload_n (pc := 10) dX8_names_10 rfl ?_
  refine j_iald (pc := 11) dX8_names_11 (by first | rfl | with_reducible assumption) hv ?_
  rw [hcm]
  refine j_icmp_le (pc := 12) (tgt := 19) dX8_names_12 rfl (fun h12 => ?_) (fun h12 => ?_)
  · refine j_aload_n (pc := 19) dX8_names_19 rfl ?_
    refine j_getR (pc := 20) dX8_names_20 f_X8_25 (by first | rfl | with_reducible assumption) (by rfl) ?_
    refine j_iload_n (pc := 23) dX8_names_23 rfl ?_
    refine j_iald (pc := 24) dX8_names_24 (by first | rfl | with_reducible assumption) hv ?_
    refine j_iast (pc := 25) dX8_names_25 (by first | rfl | with_reducible assumption) hv ?_
    refine j_vret (pc := 26) dX8_names_26 ?_
    unfold mz mx
    rw [hcm]
    first
      | (rw [if_pos (show σ 6 m < s by (simp only [Int32.lt_iff_toInt_lt, Int32.le_iff_toInt_le, ← Int32.toInt_inj, vp_in_iff, ti_0, ti_1, ti_2, ti_3, ti_4, ti_5, ti_6, ti_7, ti_8, ti_16, ti_48, ti_53, ti_60, ti_97, ti_104, ti_127, ti_149, ti_150, ti_151, ti_256, ti_1200, ti_m1, ti_m2, ti_m3, ti_m4, ti_m9] at *; omega))]; done)
      | (rw [if_neg (show ¬ σ 6 m < s by (simp only [Int32.lt_iff_toInt_lt, Int32.le_iff_toInt_le, ← Int32.toInt_inj, vp_in_iff, ti_0, ti_1, ti_2, ti_3, ti_4, ti_5, ti_6, ti_7, ti_8, ti_16, ti_48, ti_53, ti_60, ti_97, ti_104, ti_127, ti_149, ti_150, ti_151, ti_256, ti_1200, ti_m1, ti_m2, ti_m3, ti_m4, ti_m9] at *; omega))]; done)
  · refine j_iload_n (pc := 15) dX8_names_15 rfl ?_
    refine j_goto (pc := 16) (tgt := 25) dX8_names_16 rfl ?_
    refine j_iast (pc := 25) dX8_names_25 (by first | rfl | with_reducible assumption) hv ?_
    refine j_vret (pc := 26) dX8_names_26 ?_
    unfold mz mx
    rw [hcm]
    first
      | (rw [if_pos (show σ 6 m < s by (simp only [Int32.lt_iff_toInt_lt, Int32.le_iff_toInt_le, ← Int32.toInt_inj, vp_in_iff, ti_0, ti_1, ti_2, ti_3, ti_4, ti_5, ti_6, ti_7, ti_8, ti_16, ti_48, ti_53, ti_60, ti_97, ti_104, ti_127, ti_149, ti_150, ti_151, ti_256, ti_1200, ti_m1, ti_m2, ti_m3, ti_m4, ti_m9] at *; omega))]; done)
      | (rw [if_neg (show ¬ σ 6 m < s by (simp only [Int32.lt_iff_toInt_lt, Int32.le_iff_toInt_le, ← Int32.toInt_inj, vp_in_iff, ti_0, ti_1, ti_2, ti_3, ti_4, ti_5, ti_6, ti_7, ti_8, ti_16, ti_48, ti_53, ti_60, ti_97, ti_104, ti_127, ti_149, ti_150, ti_151, ti_256, ti_1200, ti_m1, ti_m2, ti_m3, ti_m4, ti_m9] at *; omega))]; done)
def Fr2 (m : Nat) (σ σ' : Mm) : Prop := (∀ x, x ≠ 0 → (x < 3 ∨ 7 < x) → σ' x = σ x) ∧ (∀ k, k ≠ 10 → σ' 0 k = σ 0 k) ∧ (∀ x j, 3 ≤ x → x ≤ 6 → j ≠ m → σ' x j = σ x j) ∧ ∀ y, (y < 48 * m ∨ 48 * m + 48 ≤ y) → σ' 7 y = σ 7 y
theorem Fr2.rf : Fr2 m σ σ := ⟨fun _ _ _ => rfl, fun _ _ => rfl, fun _ _ _ _ _ => rfl, fun _ _ => rfl⟩
theorem Fr2.tr {σ' σ'' : Mm} (h1 : Fr2 m σ σ') (h2 : Fr2 m σ' σ'') : Fr2 m σ σ'' := ⟨fun x a b => (h2.1 x a b).trans (h1.1 x a b), fun k a => (h2.2.1 k a).trans (h1.2.1 k a), fun x j a b e => (h2.2.2.1 x j a b e).trans (h1.2.2.1 x j a b e), fun y a => (h2.2.2.2 y a).trans (h1.2.2.2 y a)⟩
theorem Fr2.u0 {σ' : Mm} {w : Int32} (h : Fr2 m σ σ') : Fr2 m σ (m_up σ' 0 10 w) := ⟨fun x a b => (m_ne a).trans (h.1 x a b), fun k a => (m_nk a).trans (h.2.1 k a), fun x j a b e => by rw [m_ne (by omega)]; exact h.2.2.1 x j a b e, fun y a => by rw [m_ne (by decide)]; exact h.2.2.2 y a⟩
theorem Fr2.uc {σ' : Mm} {y : Nat} {w : Int32} (hy : 3 ≤ y ∧ y ≤ 6) (h : Fr2 m σ σ') : Fr2 m σ (m_up σ' y m w) := ⟨fun x a b => (m_ne (by omega)).trans (h.1 x a b), fun k a => by rw [m_ne (by omega)]; exact h.2.1 k a, fun x j a b e => by rw [m_nx (fun z => e z.2)]; exact h.2.2.1 x j a b e, fun z a => by rw [m_ne (by omega)]; exact h.2.2.2 z a⟩
theorem Fr2.u7 {σ' : Mm} {y : Nat} {w : Int32} (hy : y < 48) (h : Fr2 m σ σ') : Fr2 m σ (m_up σ' 7 (48 * m + y) w) := ⟨fun x a b => (m_ne (by omega)).trans (h.1 x a b), fun k a => by rw [m_ne (by omega)]; exact h.2.1 k a, fun x j a b e => by rw [m_ne (by omega)]; exact h.2.2.1 x j a b e, fun z a => by rw [m_nk (by omega)]; exact h.2.2.2 z a⟩
theorem rd_some {t : Nat → Int32} {s s' : RS} (hp : p < n) (h : rdStep s (t p) = some s') : rdGo t (n - p) p s = rdGo t (n - (p + 1)) (p + 1) s' := by
  rw [show n - p = n - (p + 1) + 1 by omega]
  simp only [rdGo, h]
theorem rd_fail {t : Nat → Int32} {s : RS} (hp : p ≤ n) (h5 : s.1 ≠ 5) (h : p < n → rdStep s (t p) = none) : rdEnd n (rdGo t (n - p) p s) = .inl p := by
  by_cases z : p < n
  · rw [show n - p = n - (p + 1) + 1 by omega]
    simp only [rdGo, h z, rdEnd]
  · obtain rfl : p = n := by omega
    rw [Nat.sub_self]
    simp only [rdGo, rdEnd]
    rw [if_neg h5]
/-- an ITEM at p read, or the FIRST FAULT behind p -/
def itemP (σ : Mm) (n p m : Nat) (v : MV) : Int32 → Mm → Prop := fun r σ' => Fr2 m σ σ' ∧ ((r = 1 ∧ ∃ (p' : Nat) (v' : MV), p < p' ∧ p' ≤ n ∧ σ' 0 10 = nI p' ∧ H2 σ' m v' ∧ okW v' ∧ ∀ fr ev : Int32, ∃ fr' ev' : Int32, rdGo (σ 1) (n - p) p (0, fr, ev, v) = rdGo (σ 1) (n - p') p' (5, fr', ev', v')) ∨ (r = 0 ∧ ∃ p', p' ≤ n ∧ σ' 0 10 = nI p' ∧ ∀ fr ev : Int32, rdEnd n (rdGo (σ 1) (n - p) p (0, fr, ev, v)) = .inl p'))
theorem or_same {x : Int32} {j : Nat} (hj : j < 32) (h : bt x j = true) : x ||| ((1 : Int32) <<< (nI j &&& 31)) = x := b_ext (fun i hi => by
  rw [b_or, b_bit j hj hi]
  by_cases z : i = j
  · subst z; rw [h]; simp
  · simp [z])
theorem mx_3 (g s t : Int32) : mx (mx g s) t = mx g (mx s t) := by
  unfold mx
  by_cases a : g < s <;> by_cases b : s < t <;> by_cases c : g < t <;> simp only [a, b, c, if_true, if_false] <;> first | rfl | (exfalso; (simp only [Int32.lt_iff_toInt_lt, Int32.le_iff_toInt_le, ← Int32.toInt_inj, vp_in_iff, ti_0, ti_1, ti_2, ti_3, ti_4, ti_5, ti_6, ti_7, ti_8, ti_16, ti_48, ti_53, ti_60, ti_97, ti_104, ti_127, ti_149, ti_150, ti_151, ti_256, ti_1200, ti_m1, ti_m2, ti_m3, ti_m4, ti_m9] at *; omega)) | skip
theorem mx_g {g s t : Int32} (h1 : ¬ g < s) (h2 : ¬ g < t) : mx (mx g s) t = g := by
  unfold mx
  rw [if_neg h1, if_neg h2]
end Read
