/-! LEASTBARS: some, finish, word -/
theorem set_lt0 : ∀ N, N ≤ 6 → ∀ p, p < 2 ^ N → ∀ m, m < 32 → bt (nI p) m = true → m < N := by decide +kernel
theorem set_lt {N p : Nat} (h6 : N ≤ 6) (hp : p < 2 ^ N) (m : Nat) (h : bt (nI p) m = true) : m < N := by
  by_cases hm : m < 32
  · exact set_lt0 N h6 p hp m hm h
  · rw [b_big (by omega)] at h; exact absurd h (by decide)
theorem p2_le {N : Nat} (h6 : N ≤ 6) : 0 < 2 ^ N ∧ 2 ^ N ≤ 64 := ⟨Nat.two_pow_pos N, Nat.pow_le_pow_right (n := 2) (by decide) h6⟩
/-- some way is the shortest -/
theorem far_ex {J : Nat} {tg : Nat → Int32} {fn al : Nat → Bool} (hJ : J ≤ 150) (n : Nat) : ∃ v, isFar J tg fn al n v := by
  by_cases hex : ∃ k, Rk J tg fn al k n
  · have hmin : ∃ k, Rk J tg fn al k n ∧ ∀ j, j < k → ¬ Rk J tg fn al j n := by
      obtain ⟨k, hk⟩ := hex
      induction k using Nat.strongRecOn with
      | _ k ih =>
        by_cases q : ∃ j, j < k ∧ Rk J tg fn al j n
        · obtain ⟨j, a, b⟩ := q
          exact ih j a b
        · exact ⟨k, hk, fun j a b => q ⟨j, a, b⟩⟩
    obtain ⟨k, hk, hl⟩ := hmin
    have stable : ∀ j, (∀ m, Rk J tg fn al (j + 1) m → Rk J tg fn al j m) → ∀ i m, Rk J tg fn al (j + i) m → Rk J tg fn al j m := by
      intro j hs i
      induction i with
      | zero => intro m q; exact q
      | succ i ih =>
        intro m q
        rcases q with q | ⟨a, b, e, m', c, f, g⟩
        · exact ih m q
        · exact hs m (Or.inr ⟨a, b, e, m', c, f, ih m' g⟩)
    have cnt : ∀ j, j ≤ k → j + 1 ≤ cntF (fun m => @ite _ (Rk J tg fn al j m) (Classical.propDecidable _) (0 : Int32) (-9)) J := by
      intro j
      induction j with
      | zero =>
        intro _
        have h0 : ∃ m, Rk J tg fn al 0 m := by
          clear hl
          induction k generalizing n with
          | zero => exact ⟨n, hk⟩
          | succ k ih =>
            rcases hk with q | ⟨-, -, e, m, -, -, q⟩
            · exact ih n ⟨k, q⟩ q (Nat.zero_le _)
            · exact ih m ⟨k, q⟩ q (Nat.zero_le _)
        obtain ⟨m, hm⟩ := h0
        have := cnt_more (w := fun _ => -9) (w' := fun m => @ite _ (Rk J tg fn al 0 m) (Classical.propDecidable _) (0 : Int32) (-9)) J (fun n _ q => absurd rfl q) ⟨m, hm.lt.1, rfl, by rw [if_pos hm]; decide⟩
        omega
      | succ j ih =>
        intro hj
        have hn : ∃ m, Rk J tg fn al (j + 1) m ∧ ¬ Rk J tg fn al j m := by
          apply Classical.byContradiction
          intro q
          refine hl j (by omega) (stable j (fun m a => ?_) (k - j) n (by rw [show j + (k - j) = k by omega]; exact hk))
          apply Classical.byContradiction
          intro z
          exact q ⟨m, a, z⟩
        obtain ⟨m, h1, h2⟩ := hn
        have := cnt_more (w := fun m => @ite _ (Rk J tg fn al j m) (Classical.propDecidable _) (0 : Int32) (-9)) (w' := fun m => @ite _ (Rk J tg fn al (j + 1) m) (Classical.propDecidable _) (0 : Int32) (-9)) J (fun n _ q => by
            by_cases z : Rk J tg fn al j n
            · rw [if_pos (z.mono (by omega))]; decide
            · rw [if_neg z] at q; exact absurd rfl q) ⟨m, h1.lt.1, by rw [if_neg h2], by rw [if_pos h1]; decide⟩
        have := ih (by omega)
        omega
    have h1 := cnt k (Nat.le_refl _)
    have h2 := cnt_le (fun m => @ite _ (Rk J tg fn al k m) (Classical.propDecidable _) (0 : Int32) (-9)) J
    exact ⟨nI k, Or.inl ⟨k, by omega, rfl, hk, hl⟩⟩
  · exact ⟨-9, Or.inr ⟨rfl, fun k q => hex ⟨k, q⟩⟩⟩
theorem farW_is {J : Nat} {tg : Nat → Int32} {fn al : Nat → Bool} (hJ : J ≤ 150) (n : Nat) : isFar J tg fn al n (farW J tg fn al n) := by
  obtain ⟨v, hv⟩ := far_ex (tg := tg) (fn := fn) (al := al) hJ n
  rw [farW_eq hv]
  exact hv
def someP (T : Tab) (set what r : Int32) : Prop := (Over T set ∧ r = -9) ∨ (¬ Over T set ∧ r = if what = 0 then nI (gJ T set) else nI (gJ T set - cntF (farW (gJ T set) (toX T set) (gF T set) (fun _ => true)) (gJ T set)))
theorem someP.uniq {T : Tab} {set what r r' : Int32} (h1 : someP T set what r) (h2 : someP T set what r') : r = r' := by
  rcases h1 with ⟨a, b⟩ | ⟨a, b⟩
  · rcases h2 with ⟨c, e⟩ | ⟨c, e⟩
    · rw [b, e]
    · exact absurd a c
  · rcases h2 with ⟨c, e⟩ | ⟨c, e⟩
    · exact absurd c a
    · rw [b, e]
section Ask3
variable {σ : Mm} {n0 : Nat} {t : Nat → Int32} {N : Nat} {K : Nat → Int32} {M : Nat → MV} {fs : Int32} {h : List Int32} {pl : Int32}
theorem R1.part {σ' : Mm} (q : R1 σ n0 t N K M fs h pl) (h1 : ∀ x, x ≠ 0 → (x < 34 ∨ 44 < x) → σ' x = σ x) (h0 : ∀ k, k ≠ 11 → σ' 0 k = σ 0 k) (h2 : P1 σ' (TA N K M) N) : R1 σ' n0 t N K M fs h pl := by
  obtain ⟨hb, hfs, hD, hP, h45, hTr⟩ := q
  have h6 := hb.2.2.2.2.1
  exact ⟨hb.cells (h0 9 (by decide)) (fun x a b _ _ => h1 x (by omega) (by omega)), by rw [h0 10 (by decide)]; exact hfs, hD.cells (fun x a b => h1 x (by omega) (by omega)) (fun x a b => h1 x (by omega) (by omega)), h2, fun i hi => by rw [h1 45 (by decide) (by decide)]; exact h45 i hi, hTr.cells (fun x a b => h1 x (by omega) (by omega))⟩
theorem c_X7_joinPart {p : Nat} (hp2 : p < 2 ^ N) (q : R1 σ n0 t N K M fs h pl) : EV Γ1 5 yX7_joinPart cX7_joinPart 2 none [.inr 0, .inl (nI p)] σ (fun _ σ' => R1 σ' n0 t N K M fs h pl ∧ PT σ' (TA N K M) (nI p)) := by
  have qq := q
  obtain ⟨hb, hfs, hD, hP, h45, hTr⟩ := q
  have h6 := hb.2.2.2.2.1
  have h64 := (p2_le h6).2
  have hE := hb.te (set_lt h6 hp2)
  have hT : ∀ m, m < 6 → bt (nI p) m = true → okT (T1 σ) m := fun m _ z => hb.ok (set_lt h6 hp2 m z)
  have fin : ∀ σ1 σ2 : Mm, FrN 34 σ σ1 → FrQ 34 σ1 σ2 → PT σ2 (TA N K M) (nI p) → (R1 (m_up σ2 0 11 (nI p)) n0 t N K M fs h pl ∧ PT (m_up σ2 0 11 (nI p)) (TA N K M) (nI p)) := by
    intro σ1 σ2 a b c
    have hPT : PT (m_up σ2 0 11 (nI p)) (TA N K M) (nI p) := by
      unfold PT at c ⊢
      rw [m_ne (by decide), m_ne (by decide)]
      exact c
    refine ⟨qq.part (fun x z y => ?_) (fun k hk => ?_) (Or.inr ⟨p, hp2, m_eq _ _ _ _, hPT⟩), hPT⟩
    · rw [m_ne z, b.1 x (by omega) (by omega) (by omega), a x (by omega)]
    · rw [m_nk hk, b.1 0 (by decide) (by decide) (by decide), a 0 (by decide)]
  have go : ∀ σ1, joinP σ 34 (T1 σ) (nI p) 0 σ1 → AJ Γ1 5 RX7 cX7_joinPart 2 none (fun _ σ' => R1 σ' n0 t N K M fs h pl ∧ PT σ' (TA N K M) (nI p)) 20 [some (.inr 0), some (.inl (nI p))] [] σ1 := by
    intro σ1 hp
    obtain ⟨hF, hp⟩ := hp
    rcases hp with ⟨a, b, c⟩ | ⟨a, b⟩
    · have hNM : NM σ1 34 0 (fun _ => -9) (fun _ => false) := ⟨by decide, b, fun n hn => absurd hn (Nat.not_lt_zero _), fun n hn => absurd hn (Nat.not_lt_zero _), fun y hy => absurd hy (by omega)⟩
      refine j_aload_n (pc := 20) dX7_joinPart_20 rfl ?_
      refine j_getR (pc := 21) dX7_joinPart_21 f_X7_37 (by first | rfl | with_reducible assumption) (by rfl) ?_
      refine j_aload_n (pc := 24) dX7_joinPart_24 rfl ?_
      refine j_getR (pc := 25) dX7_joinPart_25 f_X7_40 (by first | rfl | with_reducible assumption) (by rfl) ?_
      refine j_callVNv (pc := 28) dX7_joinPart_28 k_X7_231 (c_X3_measure isN_part (la := 45) rfl (by decide) hNM) (by first | rfl | with_reducible assumption) rfl rfl (by decide) rfl (Nat.le_of_ble_eq_true rfl) (fun σ2 hp => ?_)
      obtain ⟨m1, m2, m3⟩ := hp
      refine j_aload_n (pc := 31) dX7_joinPart_31 rfl ?_
      refine j_iload_n (pc := 32) dX7_joinPart_32 rfl ?_
      refine j_put (pc := 33) dX7_joinPart_33 f_X7_78 (by first | rfl | with_reducible assumption) (by rfl) ?_
      refine j_vret (pc := 36) dX7_joinPart_36 ?_
      refine fin σ1 σ2 hF m1 (Or.inl ⟨(te_over hE hT).mp a, ?_, ?_⟩)
      · rw [m1.2 13 (by decide)]; exact b
      · rw [m1.2 14 (by decide)]; exact c
    · have hG := te_NG hE hT b.g
      refine j_aload_n (pc := 20) dX7_joinPart_20 rfl ?_
      refine j_getR (pc := 21) dX7_joinPart_21 f_X7_37 (by first | rfl | with_reducible assumption) (by rfl) ?_
      refine j_aload_n (pc := 24) dX7_joinPart_24 rfl ?_
      refine j_getR (pc := 25) dX7_joinPart_25 f_X7_40 (by first | rfl | with_reducible assumption) (by rfl) ?_
      refine j_callVNv (pc := 28) dX7_joinPart_28 k_X7_231 (c_X3_measure isN_part (la := 45) rfl (by decide) hG.m) (by first | rfl | with_reducible assumption) rfl rfl (by decide) rfl (Nat.le_of_ble_eq_true rfl) (fun σ2 hp => ?_)
      obtain ⟨m1, m2, m3⟩ := hp
      refine j_aload_n (pc := 31) dX7_joinPart_31 rfl ?_
      refine j_iload_n (pc := 32) dX7_joinPart_32 rfl ?_
      refine j_put (pc := 33) dX7_joinPart_33 f_X7_78 (by first | rfl | with_reducible assumption) (by rfl) ?_
      refine j_vret (pc := 36) dX7_joinPart_36 ?_
      refine fin σ1 σ2 hF m1 (Or.inr ⟨fun z => a ((te_over hE hT).mpr z), hG.1, ?_, ?_, m2, fun n hn => isFar.cong (fun i hi => ?_) (m3 n hn)⟩)
      · rw [m1.2 14 (by decide)]; exact hG.2.1
      · rw [m1.2 13 (by decide)]; exact hG.2.2.1
      · rw [hF 45 (by decide)]; exact decide_eq_true (h45 i (by have := hG.1; omega))
  refine EV.intro (by decide +kernel) (Nat.le_of_ble_eq_true rfl) ?_
  refine j_iload_n (pc := 0) dX7_joinPart_0 rfl ?_
  refine j_aload_n (pc := 1) dX7_joinPart_1 rfl ?_
  refine j_getI (pc := 2) dX7_joinPart_2 f_X7_78 (by first | rfl | with_reducible assumption) (by rfl) ?_
  refine j_icmp_eq (pc := 5) (tgt := 36) dX7_joinPart_5 rfl (fun h5 => ?_) (fun h5 => ?_)
  · refine j_vret (pc := 36) dX7_joinPart_36 ?_
    refine ⟨qq, ?_⟩
    rcases hP with z | ⟨p', a, b, c⟩
    · rw [z] at h5; exact absurd h5 (nI_z (by omega))
    · rw [b] at h5
      rw [(nI_eq (by omega) (by omega)).mp h5]
      exact c
  · refine j_aload_n (pc := 8) dX7_joinPart_8 rfl ?_
    refine j_getR (pc := 9) dX7_joinPart_9 f_X7_37 (by first | rfl | with_reducible assumption) (by rfl) ?_
    refine j_aload_n (pc := 12) dX7_joinPart_12 rfl ?_
    refine j_getR (pc := 13) dX7_joinPart_13 f_X7_25 (by first | rfl | with_reducible assumption) (by rfl) ?_
    refine j_iload_n (pc := 16) dX7_joinPart_16 rfl ?_
    refine j_callVNv (pc := 17) dX7_joinPart_17 k_X7_227 (c_X3_join isN_part (by decide) (hb.ms (set_lt h6 hp2))) (by first | rfl | with_reducible assumption) rfl rfl (by decide) rfl (Nat.le_of_ble_eq_true rfl) (fun σ1 hp => ?_)
    skip
    exact go _ hp
theorem nI_sub {a b : Nat} (h : b ≤ a) : nI a - nI b = nI (a - b) := by
  have : nI a = nI (a - b) + nI b := by rw [nI_add, Nat.sub_add_cancel h]
  rw [this]
  exact Int32.add_sub_cancel _ _
theorem c_X7_some (set what : Int32) (q : R1 σ n0 t N K M fs h pl) : EV Γ1 6 yX7_some cX7_some 3 (some .int) [.inr 0, .inl set, .inl what] σ (fun r σ' => (¬ (inR (2 ^ N) set = true ∧ inR 2 what = true) ∧ r = -2 ∧ σ = σ') ∨ (inR (2 ^ N) set = true ∧ inR 2 what = true ∧ someP (TA N K M) set what r ∧ R1 σ' n0 t N K M fs h pl)) := by
  have hN := q.1.2.2.2.1
  have h6 := q.1.2.2.2.2.1
  have h64 := p2_le h6
  have tA : (allS N).toInt = (2 ^ N : Nat) - 1 := by
    unfold allS
    rw [nI_toInt (by omega)]
    omega
  refine EV.intro (by decide +kernel) (Nat.le_of_ble_eq_true rfl) ?_
  refine j_iload_n (pc := 0) dX7_some_0 rfl ?_
  refine j_if_lt (pc := 1) (tgt := 21) dX7_some_1 rfl (fun h1 => ?_) (fun h1 => ?_)
  · refine j_bipush (pc := 21) dX7_some_21 (v := (-2)) (by decide) ?_
    refine j_iret (pc := 23) dX7_some_23 ?_
    refine Or.inl ⟨fun z => ?_, rfl, rfl⟩
    have z1 := inR_iff.mp z.1
    have z2 := inR_iff.mp z.2
    rw [vp_in_iff] at z1 z2
    generalize 2 ^ N = P at *
    simp only [Int32.lt_iff_toInt_lt, Int32.le_iff_toInt_le, ← Int32.toInt_inj, vp_in_iff, ti_0, ti_1, ti_2, ti_3, ti_4, ti_5, ti_6, ti_7, ti_8, ti_16, ti_48, ti_53, ti_60, ti_97, ti_104, ti_127, ti_149, ti_150, ti_151, ti_256, ti_1200, ti_m1, ti_m2, ti_m3, ti_m4, ti_m9, tA] at *
    omega
  · refine j_iload_n (pc := 4) dX7_some_4 rfl ?_
    refine j_aload_n (pc := 5) dX7_some_5 rfl ?_
    refine j_callVi (pc := 6) dX7_some_6 k_X7_173 (c_X7_setOfAll hN h6) (by first | rfl | with_reducible assumption) rfl rfl (by decide) rfl (Nat.le_of_ble_eq_true rfl) (fun r σ1 hp => ?_)
    obtain ⟨rfl, rfl⟩ := hp
    refine j_icmp_gt (pc := 9) (tgt := 21) dX7_some_9 rfl (fun h9 => ?_) (fun h9 => ?_)
    · refine j_bipush (pc := 21) dX7_some_21 (v := (-2)) (by decide) ?_
      refine j_iret (pc := 23) dX7_some_23 ?_
      refine Or.inl ⟨fun z => ?_, rfl, rfl⟩
      have z1 := inR_iff.mp z.1
      have z2 := inR_iff.mp z.2
      rw [vp_in_iff] at z1 z2
      generalize 2 ^ N = P at *
      simp only [Int32.lt_iff_toInt_lt, Int32.le_iff_toInt_le, ← Int32.toInt_inj, vp_in_iff, ti_0, ti_1, ti_2, ti_3, ti_4, ti_5, ti_6, ti_7, ti_8, ti_16, ti_48, ti_53, ti_60, ti_97, ti_104, ti_127, ti_149, ti_150, ti_151, ti_256, ti_1200, ti_m1, ti_m2, ti_m3, ti_m4, ti_m9, tA] at *
      omega
    · refine j_iload_n (pc := 12) dX7_some_12 rfl ?_
      refine j_if_lt (pc := 13) (tgt := 21) dX7_some_13 rfl (fun h13 => ?_) (fun h13 => ?_)
      · refine j_bipush (pc := 21) dX7_some_21 (v := (-2)) (by decide) ?_
        refine j_iret (pc := 23) dX7_some_23 ?_
        refine Or.inl ⟨fun z => ?_, rfl, rfl⟩
        have z1 := inR_iff.mp z.1
        have z2 := inR_iff.mp z.2
        rw [vp_in_iff] at z1 z2
        generalize 2 ^ N = P at *
        simp only [Int32.lt_iff_toInt_lt, Int32.le_iff_toInt_le, ← Int32.toInt_inj, vp_in_iff, ti_0, ti_1, ti_2, ti_3, ti_4, ti_5, ti_6, ti_7, ti_8, ti_16, ti_48, ti_53, ti_60, ti_97, ti_104, ti_127, ti_149, ti_150, ti_151, ti_256, ti_1200, ti_m1, ti_m2, ti_m3, ti_m4, ti_m9, tA] at *
        omega
      · refine j_iload_n (pc := 16) dX7_some_16 rfl ?_
        refine j_iconst (pc := 17) dX7_some_17 (v := 1) (by decide) ?_
        refine j_icmp_le (pc := 18) (tgt := 24) dX7_some_18 rfl (fun h18 => ?_) (fun h18 => ?_)
        · have hs : vp_in set (2 ^ N) := by
            rw [vp_in_iff]
            generalize 2 ^ N = P at *
            simp only [Int32.lt_iff_toInt_lt, Int32.le_iff_toInt_le, ← Int32.toInt_inj, vp_in_iff, ti_0, ti_1, ti_2, ti_3, ti_4, ti_5, ti_6, ti_7, ti_8, ti_16, ti_48, ti_53, ti_60, ti_97, ti_104, ti_127, ti_149, ti_150, ti_151, ti_256, ti_1200, ti_m1, ti_m2, ti_m3, ti_m4, ti_m9, tA] at *
            omega
          have hw : vp_in what 2 := by
            rw [vp_in_iff]
            simp only [Int32.lt_iff_toInt_lt, Int32.le_iff_toInt_le, ← Int32.toInt_inj, vp_in_iff, ti_0, ti_1, ti_2, ti_3, ti_4, ti_5, ti_6, ti_7, ti_8, ti_16, ti_48, ti_53, ti_60, ti_97, ti_104, ti_127, ti_149, ti_150, ti_151, ti_256, ti_1200, ti_m1, ti_m2, ti_m3, ti_m4, ti_m9] at *
            omega
          obtain ⟨p, hp, rfl⟩ := vp_in_of hs (by omega)
          refine j_aload_n (pc := 24) dX7_some_24 rfl ?_
          refine j_iload_n (pc := 25) dX7_some_25 rfl ?_
          refine j_callVv (pc := 26) dX7_some_26 k_X7_177 (c_X7_joinPart hp q) (by first | rfl | with_reducible assumption) rfl rfl (by decide) rfl (Nat.le_of_ble_eq_true rfl) (fun σ1 hp => ?_)
          obtain ⟨hR, hPT⟩ := hp
          refine j_aload_n (pc := 29) dX7_some_29 rfl ?_
          refine j_getR (pc := 30) dX7_some_30 f_X7_37 (by first | rfl | with_reducible assumption) (by rfl) ?_
          refine j_getI (pc := 33) dX7_some_33 f_X7_181 (by first | rfl | with_reducible assumption) (by rfl) ?_
          refine j_if_eq (pc := 36) (tgt := 42) dX7_some_36 rfl (fun h36 => ?_) (fun h36 => ?_)
          · refine j_iload_n (pc := 42) dX7_some_42 rfl ?_
            refine j_if_ne (pc := 43) (tgt := 56) dX7_some_43 rfl (fun h43 => ?_) (fun h43 => ?_)
            · refine j_aload_n (pc := 56) dX7_some_56 rfl ?_
              refine j_getR (pc := 57) dX7_some_57 f_X7_37 (by first | rfl | with_reducible assumption) (by rfl) ?_
              refine j_callVNi (pc := 60) dX7_some_60 k_X7_188 (c_X3_countStuck isN_part _) (by first | rfl | with_reducible assumption) rfl rfl (by decide) rfl (Nat.le_of_ble_eq_true rfl) (fun r σ1 hp => ?_)
              obtain ⟨rfl, rfl⟩ := hp
              refine j_iret (pc := 63) dX7_some_63 ?_
              refine Or.inr ⟨inR_iff.mpr hs, inR_iff.mpr hw, ?_, hR⟩
              rcases hPT with ⟨a, b, c⟩ | ⟨a, b, c, e, f, g⟩
              · rw [c] at h36; exact absurd h36 (by decide)
              · refine Or.inr ⟨a, ?_⟩
                first
                  | (rw [if_pos h43]; exact e)
                  | (rw [if_neg h43, e, f]
                     have hc := cnt_le (σ1 43) (gJ (TA N K M) (nI p))
                     rw [nI_sub hc, cnt_same (w' := farW (gJ (TA N K M) (nI p)) (toX (TA N K M) (nI p)) (gF (TA N K M) (nI p)) (fun _ => true)) _ (fun n hn => by rw [farW_eq (g n hn)])])
            · refine j_aload_n (pc := 46) dX7_some_46 rfl ?_
              refine j_getR (pc := 47) dX7_some_47 f_X7_37 (by first | rfl | with_reducible assumption) (by rfl) ?_
              refine j_getI (pc := 50) dX7_some_50 f_X7_185 (by first | rfl | with_reducible assumption) (by rfl) ?_
              refine j_goto (pc := 53) (tgt := 63) dX7_some_53 rfl ?_
              refine j_iret (pc := 63) dX7_some_63 ?_
              refine Or.inr ⟨inR_iff.mpr hs, inR_iff.mpr hw, ?_, hR⟩
              rcases hPT with ⟨a, b, c⟩ | ⟨a, b, c, e, f, g⟩
              · rw [c] at h36; exact absurd h36 (by decide)
              · refine Or.inr ⟨a, ?_⟩
                first
                  | (rw [if_pos h43]; exact e)
                  | (rw [if_neg h43, e, f]
                     have hc := cnt_le (σ1 43) (gJ (TA N K M) (nI p))
                     rw [nI_sub hc, cnt_same (w' := farW (gJ (TA N K M) (nI p)) (toX (TA N K M) (nI p)) (gF (TA N K M) (nI p)) (fun _ => true)) _ (fun n hn => by rw [farW_eq (g n hn)])])
          · refine j_bipush (pc := 39) dX7_some_39 (v := (-9)) (by decide) ?_
            refine j_iret (pc := 41) dX7_some_41 ?_
            refine Or.inr ⟨inR_iff.mpr hs, inR_iff.mpr hw, ?_, hR⟩
            rcases hPT with ⟨a, b, c⟩ | ⟨a, b, c, _⟩
            · exact Or.inl ⟨a, rfl⟩
            · exact absurd c h36
        · refine j_bipush (pc := 21) dX7_some_21 (v := (-2)) (by decide) ?_
          refine j_iret (pc := 23) dX7_some_23 ?_
          refine Or.inl ⟨fun z => ?_, rfl, rfl⟩
          have z1 := inR_iff.mp z.1
          have z2 := inR_iff.mp z.2
          rw [vp_in_iff] at z1 z2
          generalize 2 ^ N = P at *
          simp only [Int32.lt_iff_toInt_lt, Int32.le_iff_toInt_le, ← Int32.toInt_inj, vp_in_iff, ti_0, ti_1, ti_2, ti_3, ti_4, ti_5, ti_6, ti_7, ti_8, ti_16, ti_48, ti_53, ti_60, ti_97, ti_104, ti_127, ti_149, ti_150, ti_151, ti_256, ti_1200, ti_m1, ti_m2, ti_m3, ti_m4, ti_m9, tA] at *
          omega
end Ask3
