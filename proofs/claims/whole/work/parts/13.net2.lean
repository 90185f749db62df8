/-! NET: what it gathers of the MACHINES -/
def T1 (σ : Mm) : Tab := (fun m => if m < 6 then σ (5 + 3 * m) 2 else 0, fun m => if m < 6 then σ (5 + 3 * m) 3 else 0, fun m => if m < 6 then σ (5 + 3 * m) 4 else 0, fun m x => if m < 6 then σ (5 + 3 * m + 1) x else 0)
theorem t1k {σ : Mm} {m : Nat} (h : m < 6) : (T1 σ).1 m = σ (5 + 3 * m) 2 := if_pos h
theorem t1a {σ : Mm} {m : Nat} (h : m < 6) : (T1 σ).2.1 m = σ (5 + 3 * m) 3 := if_pos h
theorem t1m {σ : Mm} {m : Nat} (h : m < 6) : (T1 σ).2.2.1 m = σ (5 + 3 * m) 4 := if_pos h
theorem t1s {σ : Mm} {m x : Nat} (h : m < 6) : (T1 σ).2.2.2 m x = σ (5 + 3 * m + 1) x := if_pos h
theorem T1_same {σ σ' : Mm} (he : ∀ x, x ≤ 22 → σ' x = σ x) : T1 σ' = T1 σ := by
  refine Prod.ext (funext fun m => ?_) (Prod.ext (funext fun m => ?_) (Prod.ext (funext fun m => ?_) (funext fun m => funext fun x => ?_)))
  all_goals
    by_cases h : m < 6
    · first | rw [t1k h, t1k h, he _ (by omega)] | rw [t1a h, t1a h, he _ (by omega)] | rw [t1m h, t1m h, he _ (by omega)] | rw [t1s h, t1s h, he _ (by omega)]
    · simp [T1, h]
/-- the set of MACHINES: six bits; of each the table is as told, and its stepSets fit -/
def MS (σ : Mm) (set : Int32) : Prop := (∀ i, 6 ≤ i → bt set i = false) ∧ ∀ m, m < 6 → bt set m = true → okT (T1 σ) m ∧ ∀ s, s < 6 → ∀ e, e < 32 → bt (σ (5 + 3 * m + 2) s) e = decide (e < 8 ∧ σ (5 + 3 * m + 1) (8 * s + e) ≠ -9)
theorem MS.same {σ σ' : Mm} {set : Int32} (h : MS σ set) (he : ∀ x, x ≤ 22 → σ' x = σ x) : MS σ' set := by
  refine ⟨h.1, fun m hm hs => ?_⟩
  obtain ⟨h1, h2⟩ := h.2 m hm hs
  have e1 := he (5 + 3 * m + 1) (by omega)
  have e2 := he (5 + 3 * m + 2) (by omega)
  rw [T1_same he, e1, e2]
  exact ⟨h1, h2⟩
def orF (f : Nat → Int32) (p : Nat → Bool) : Nat → Int32
  | 0 => 0
  | m + 1 => if p m = true then orF f p m ||| f m else orF f p m
theorem or_bit (f : Nat → Int32) (p : Nat → Bool) (i : Nat) : ∀ M, bt (orF f p M) i = (List.range M).any (fun m => p m && bt (f m) i) := by
  intro M
  induction M with
  | zero => exact b_0 i
  | succ M ih =>
    rw [List.range_succ, List.any_append]
    simp only [orF, List.any_cons, List.any_nil, Bool.or_false]
    by_cases h : p M = true
    · rw [if_pos h, b_or, ih, h, Bool.true_and]
    · have h' : p M = false := by simpa using h
      rw [if_neg h, ih, h', Bool.false_and, Bool.or_false]
theorem or_stop (f : Nat → Int32) (p : Nat → Bool) {m M : Nat} (h : m ≤ M) (hp : ∀ k, m ≤ k → k < M → p k = false) : orF f p M = orF f p m := by
  induction h with
  | refl => rfl
  | @step M hM ih =>
    have hle : m ≤ M := hM
    have h1 := hp M hle (Nat.lt_succ_self _)
    simp only [orF, h1, Bool.false_eq_true, if_false]
    exact ih (fun k a b => hp k a (by omega))
theorem set_stop {x : Int32} {m : Nat} (hm : m < 32) (h : x >>> (nI m &&& 31) = 0) : ∀ k, m ≤ k → k < 32 → bt x k = false := by
  intro k h1 h2
  have h3 := congrArg (fun z => bt z (k - m)) h
  simp only [b_sshr m hm x (i := k - m) (by omega), b_0] at h3
  rw [if_pos (by omega), show m + (k - m) = k by omega] at h3
  exact h3
def gm (σ : Mm) (b : Nat) (x y : Int32) : Mm := m_up (m_up σ b 11 x) b 12 y
theorem gm_1 (σ : Mm) (b : Nat) (x y z : Int32) : m_up (gm σ b x y) b 11 z = gm σ b z y := by
  funext a k
  simp only [gm, m_at]
  by_cases h1 : a = b <;> by_cases h2 : k = 11 <;> by_cases h3 : k = 12 <;> simp [h1, h2, h3]
theorem gm_2 (σ : Mm) (b : Nat) (x y z : Int32) : m_up (gm σ b x y) b 12 z = gm σ b x z := by
  funext a k
  simp only [gm, m_at]
  by_cases h1 : a = b <;> by_cases h3 : k = 12 <;> simp [h1, h3]
theorem gm_ne {σ : Mm} {b a : Nat} {x y : Int32} (h : a ≠ b) : gm σ b x y a = σ a := by
  unfold gm
  rw [m_ne h, m_ne h]
theorem gm_11 (σ : Mm) (b : Nat) (x y : Int32) : gm σ b x y b 11 = x := by
  unfold gm
  rw [m_nk (by decide), m_eq]
theorem gm_12 (σ : Mm) (b : Nat) (x y : Int32) : gm σ b x y b 12 = y := m_eq _ _ _ _
theorem c_X3_gather {b : Nat} (hb : IsN b) (hb2 : 22 < b) (set : Int32) (hs : ∀ i, 6 ≤ i → bt set i = false) (σ : Mm) : EV Γ1 1 yX3_gatherAlphabets cX3_gatherAlphabets 4 none [.inr b, .inr 4, .inl set] σ (mz (gm σ b (orF (T1 σ).2.1 (fun m => bt set m) 6) (orF (T1 σ).2.1 (fun m => bt set m && isPl (T1 σ) m) 6))) := by
  have g0 := hb.1
  have loop : ∀ (n m : Nat), m + n = 6 → AJ Γ1 1 RX3 cX3_gatherAlphabets 4 none (mz (gm σ b (orF (T1 σ).2.1 (fun m => bt set m) 6) (orF (T1 σ).2.1 (fun m => bt set m && isPl (T1 σ) m) 6))) 12 [some (.inr b), some (.inr 4), some (.inl set), some (.inl (nI m))] [] (gm σ b (orF (T1 σ).2.1 (fun m => bt set m) m) (orF (T1 σ).2.1 (fun m => bt set m && isPl (T1 σ) m) m)) := by
    intro n
    induction n with
    | zero =>
      intro m hm
      obtain rfl : m = 6 := by omega
      refine j_iload_n (pc := 12) dX3_gatherAlphabets_12 rfl ?_
      refine j_aload_n (pc := 13) dX3_gatherAlphabets_13 rfl ?_
      refine j_alen (pc := 14) dX3_gatherAlphabets_14 (by first | rfl | with_reducible assumption) (v := _) (by rfl) ?_
      refine j_icmp_ge (pc := 15) (tgt := 77) dX3_gatherAlphabets_15 rfl (fun h15 => ?_) (fun h15 => absurd (by decide) h15)
      refine j_vret (pc := 77) dX3_gatherAlphabets_77 ?_
      rfl
    | succ n ih =>
      intro m hm
      have hm6 : m < 6 := by omega
      obtain ⟨⟨gM0, gM1, gM2⟩, gL⟩ := isM_at hm6
      have hc : (nI m).toNatClampNeg = m := nI_clamp (by omega)
      have ne : 5 + 3 * m ≠ b := by omega
      refine j_iload_n (pc := 12) dX3_gatherAlphabets_12 rfl ?_
      refine j_aload_n (pc := 13) dX3_gatherAlphabets_13 rfl ?_
      refine j_alen (pc := 14) dX3_gatherAlphabets_14 (by first | rfl | with_reducible assumption) (v := _) (by rfl) ?_
      refine j_icmp_ge (pc := 15) (tgt := 77) dX3_gatherAlphabets_15 rfl (fun h15 => absurd h15 (nI_ge (b := 6) (by omega) (by decide))) (fun h15 => ?_)
      refine j_iload_n (pc := 18) dX3_gatherAlphabets_18 rfl ?_
      refine j_iload_n (pc := 19) dX3_gatherAlphabets_19 rfl ?_
      refine j_ishr (pc := 20) dX3_gatherAlphabets_20 ?_
      refine j_if_eq (pc := 21) (tgt := 77) dX3_gatherAlphabets_21 rfl (fun h21 => ?_) (fun h21 => ?_)
      · refine j_vret (pc := 77) dX3_gatherAlphabets_77 ?_
        have hst := set_stop (by omega) h21
        show _ = _
        rw [or_stop _ _ (show m ≤ 6 by omega) (fun k a b => hst k a (by omega)), or_stop _ _ (show m ≤ 6 by omega) (fun k a b => by simp [hst k a (by omega)])]
      · refine j_iload_n (pc := 24) dX3_gatherAlphabets_24 rfl ?_
        refine j_iload_n (pc := 25) dX3_gatherAlphabets_25 rfl ?_
        refine j_callSNi (pc := 26) dX3_gatherAlphabets_26 k_X3_78 (c_X7_isIn set (j := m) (by omega) _) rfl (by decide) rfl (Nat.le_of_ble_eq_true rfl) (fun r σ1 hp => ?_)
        obtain ⟨rfl, hp⟩ := hp
        rcases hp with ⟨q26, rfl⟩ | ⟨q26, rfl⟩
        · refine j_if_eq (pc := 29) (tgt := 71) dX3_gatherAlphabets_29 rfl (fun h => absurd h (by decide)) (fun _ => ?_)
          refine j_aload_n (pc := 32) dX3_gatherAlphabets_32 rfl ?_
          refine j_dup (pc := 33) dX3_gatherAlphabets_33 ?_
          refine j_getI (pc := 34) dX3_gatherAlphabets_34 f_X3_47 (by first | rfl | with_reducible assumption) (by rfl) ?_
          refine j_aload_n (pc := 37) dX3_gatherAlphabets_37 rfl ?_
          refine j_iload_n (pc := 38) dX3_gatherAlphabets_38 rfl ?_
          refine j_aald (pc := 39) dX3_gatherAlphabets_39 (by first | rfl | with_reducible assumption) (vp_in_nI hm6 (by decide)) (by rw [hc]; exact gL) ?_
          refine j_getI (pc := 40) dX3_gatherAlphabets_40 f_X3_82 (by first | rfl | with_reducible assumption) (by rfl) ?_
          refine j_top (y := σ (5 + 3 * m) 3) (by rw [gm_ne ne]) ?_
          refine j_top2 (gm_11 _ _ _ _) ?_
          refine j_ior (pc := 43) dX3_gatherAlphabets_43 ?_
          refine j_put (pc := 44) dX3_gatherAlphabets_44 f_X3_47 (by first | rfl | with_reducible assumption) (by rfl) ?_
          rw [gm_1]
          refine j_aload_n (pc := 47) dX3_gatherAlphabets_47 rfl ?_
          refine j_iload_n (pc := 48) dX3_gatherAlphabets_48 rfl ?_
          refine j_aald (pc := 49) dX3_gatherAlphabets_49 (by first | rfl | with_reducible assumption) (vp_in_nI hm6 (by decide)) (by rw [hc]; exact gL) ?_
          refine j_getI (pc := 50) dX3_gatherAlphabets_50 f_X3_85 (by first | rfl | with_reducible assumption) (by rfl) ?_
          refine j_top (y := σ (5 + 3 * m) 2) (by rw [gm_ne ne]) ?_
          refine j_if_ne (pc := 53) (tgt := 71) dX3_gatherAlphabets_53 rfl (fun h53 => ?_) (fun h53 => ?_)
          · have h53' : isPl (T1 σ) m = false := decide_eq_false (by rw [t1k hm6]; exact h53)
            first | rw [gm_2] | skip
            refine j_iinc1 (pc := 71) dX3_gatherAlphabets_71 rfl ?_
            refine j_goto (pc := 74) (tgt := 12) dX3_gatherAlphabets_74 rfl ?_
            rw [nI_1]
            refine AJ.eq (ih (m + 1) (by omega)) rfl rfl rfl ?_
            simp only [orF]
            first | (simp [q26, h53', t1a hm6]; done) | (simp [q26]; done)
          · have h53' : isPl (T1 σ) m = true := decide_eq_true (by rw [t1k hm6]; exact h53)
            refine j_aload_n (pc := 56) dX3_gatherAlphabets_56 rfl ?_
            refine j_dup (pc := 57) dX3_gatherAlphabets_57 ?_
            refine j_getI (pc := 58) dX3_gatherAlphabets_58 f_X3_50 (by first | rfl | with_reducible assumption) (by rfl) ?_
            refine j_aload_n (pc := 61) dX3_gatherAlphabets_61 rfl ?_
            refine j_iload_n (pc := 62) dX3_gatherAlphabets_62 rfl ?_
            refine j_aald (pc := 63) dX3_gatherAlphabets_63 (by first | rfl | with_reducible assumption) (vp_in_nI hm6 (by decide)) (by rw [hc]; exact gL) ?_
            refine j_getI (pc := 64) dX3_gatherAlphabets_64 f_X3_82 (by first | rfl | with_reducible assumption) (by rfl) ?_
            refine j_top (y := σ (5 + 3 * m) 3) (by rw [gm_ne ne]) ?_
            refine j_top2 (gm_12 _ _ _ _) ?_
            refine j_ior (pc := 67) dX3_gatherAlphabets_67 ?_
            refine j_put (pc := 68) dX3_gatherAlphabets_68 f_X3_50 (by first | rfl | with_reducible assumption) (by rfl) ?_
            first | rw [gm_2] | skip
            refine j_iinc1 (pc := 71) dX3_gatherAlphabets_71 rfl ?_
            refine j_goto (pc := 74) (tgt := 12) dX3_gatherAlphabets_74 rfl ?_
            rw [nI_1]
            refine AJ.eq (ih (m + 1) (by omega)) rfl rfl rfl ?_
            simp only [orF]
            first | (simp [q26, h53', t1a hm6]; done) | (simp [q26]; done)
        · refine j_if_eq (pc := 29) (tgt := 71) dX3_gatherAlphabets_29 rfl (fun _ => ?_) (fun h => absurd h (by decide))
          first | rw [gm_2] | skip
          refine j_iinc1 (pc := 71) dX3_gatherAlphabets_71 rfl ?_
          refine j_goto (pc := 74) (tgt := 12) dX3_gatherAlphabets_74 rfl ?_
          rw [nI_1]
          refine AJ.eq (ih (m + 1) (by omega)) rfl rfl rfl ?_
          simp only [orF]
          first | (simp [q26, h53', t1a hm6]; done) | (simp [q26]; done)
  refine EV.intro (by decide +kernel) (Nat.le_of_ble_eq_true rfl) ?_
  refine j_aload_n (pc := 0) dX3_gatherAlphabets_0 rfl ?_
  refine j_iconst (pc := 1) dX3_gatherAlphabets_1 (v := 0) (by decide) ?_
  refine j_put (pc := 2) dX3_gatherAlphabets_2 f_X3_47 (by first | rfl | with_reducible assumption) (by rfl) ?_
  refine j_aload_n (pc := 5) dX3_gatherAlphabets_5 rfl ?_
  refine j_iconst (pc := 6) dX3_gatherAlphabets_6 (v := 0) (by decide) ?_
  refine j_put (pc := 7) dX3_gatherAlphabets_7 f_X3_50 (by first | rfl | with_reducible assumption) (by rfl) ?_
  refine j_iconst (pc := 10) dX3_gatherAlphabets_10 (v := 0) (by decide) ?_
  refine j_istore_n (pc := 11) dX3_gatherAlphabets_11 (by decide) ?_
  exact loop 6 0 rfl
/-- the code behind an EVENT, MACHINE by MACHINE -/
def cbF (T : Tab) (set c : Int32) (e : Nat) : Nat → Int32
  | 0 => c
  | m + 1 => if bt set m = true ∧ stp T c e m ≠ -9 then setI (cbF T set c e m) m (stp T c e m) else cbF T set c e m
theorem cb_stop (T : Tab) (set c : Int32) (e : Nat) {m M : Nat} (h : m ≤ M) (hp : ∀ k, m ≤ k → k < M → bt set k = false) : cbF T set c e M = cbF T set c e m := by
  induction h with
  | refl => rfl
  | @step M hM ih =>
    have hle : m ≤ M := hM
    have h1 := hp M hle (Nat.lt_succ_self _)
    simp only [cbF, h1, Bool.false_eq_true, false_and, if_false]
    exact ih (fun k a b => hp k a (by omega))
/-- where the EVENT LEADS, that is where -/
theorem cb_led {T : Tab} {set c t : Int32} {e : Nat} (hT : ∀ m, m < 6 → bt set m = true → okT T m) (hc : okC c) (he : e < 8) (h : led T set c e = some t) : cbF T set c e 6 = t := by
  have key : ∀ m, m ≤ 6 → ∀ b x, ledG T set c e m = some (b, x) → cbF T set c e m = x := by
    intro m
    induction m with
    | zero => intro _ b x h; simp [ledG] at h; exact h.2
    | succ m ih =>
      intro hm b x h
      simp only [ledG] at h
      cases hg : ledG T set c e m with
      | none => rw [hg] at h; cases h
      | some q =>
        obtain ⟨b0, t0⟩ := q
        rw [hg] at h
        dsimp only at h
        have h0 := ih (by omega) b0 t0 hg
        simp only [cbF, h0]
        by_cases h1 : hasE T set e m = true
        · rw [if_pos h1] at h
          have hs : bt set m = true := by unfold hasE at h1; simp at h1; exact h1.1
          by_cases h2 : stp T c e m = -9
          · rw [if_pos h2] at h; cases h
          · rw [if_neg h2] at h
            cases h
            rw [if_pos ⟨hs, h2⟩]
        · rw [if_neg h1] at h
          cases h
          refine if_neg (fun q => h1 ?_)
          unfold hasE
          rw [q.1, (hT m (by omega) q.1).2.2.1 (stN c m) (hc m (by omega)) e he q.2]
          rfl
  unfold led at h
  split at h
  next t1 hg => cases h; exact key 6 (Nat.le_refl _) _ _ hg
  next => cases h
theorem led_lead {T : Tab} {set c : Int32} {e : Nat} : (led T set c e).isSome = leadB T set c e := by
  have key : ∀ m, ledG T set c e m = none ↔ ¬ ((List.range m).all (fun m => !hasE T set e m || decide (stp T c e m ≠ -9)) = true) := by
    intro m
    induction m with
    | zero => simp [ledG]
    | succ m ih =>
      rw [List.range_succ, List.all_append]
      simp only [ledG]
      cases hg : ledG T set c e m with
      | none =>
        have := ih.mp hg
        rw [Bool.eq_false_iff.mpr this]
        simp
      | some q =>
        obtain ⟨b0, t0⟩ := q
        have h1 : (List.range m).all (fun m => !hasE T set e m || decide (stp T c e m ≠ -9)) = true := by
          apply Classical.byContradiction
          intro q
          rw [ih.mpr q] at hg
          cases hg
        rw [h1]
        dsimp only
        by_cases h2 : hasE T set e m = true
        · by_cases h3 : stp T c e m = -9
          · simp [h2, h3]
          · simp [h2, h3]
        · simp [h2]
  have kb : ∀ m b t, ledG T set c e m = some (b, t) → b = (List.range m).any (hasE T set e) := by
    intro m
    induction m with
    | zero => intro b t h; simp [ledG] at h; simp [← h.1]
    | succ m ih =>
      intro b t h
      rw [List.range_succ, List.any_append]
      simp only [ledG] at h
      cases hg : ledG T set c e m with
      | none => rw [hg] at h; cases h
      | some q =>
        obtain ⟨b0, t0⟩ := q
        rw [hg] at h
        dsimp only at h
        have h0 := ih b0 t0 hg
        by_cases h2 : hasE T set e m = true
        · rw [if_pos h2] at h
          by_cases h3 : stp T c e m = -9
          · rw [if_pos h3] at h; cases h
          · rw [if_neg h3] at h
            cases h
            simp [h2]
        · rw [if_neg h2] at h
          cases h
          have h2' : hasE T set e m = false := by simpa using h2
          simp [h2', h0]
  unfold led leadB
  cases hg : ledG T set c e 6 with
  | none =>
    have h1 := (key 6).mp hg
    have h2 : ((List.range 6).all (fun m => !hasE T set e m || decide (stp T c e m ≠ -9))) = false := by simpa using h1
    rw [h2, Bool.and_false]
    rfl
  | some q =>
    obtain ⟨b, t⟩ := q
    have h1 := kb 6 b t hg
    have h2 : ((List.range 6).all (fun m => !hasE T set e m || decide (stp T c e m ≠ -9))) = true := by
      apply Classical.byContradiction
      intro q
      rw [(key 6).mpr q] at hg
      cases hg
    rw [h2, Bool.and_true, ← h1]
    cases b <;> rfl
theorem i3m (m : Nat) : nI m * 3 = nI (3 * m) := by rw [show (3 : Int32) = nI 3 from rfl, pk_mul, Nat.mul_comm m 3]
theorem c_X3_codeBehind {b : Nat} (hb : IsN b) (set : Int32) {c : Int32} (hc : okC c) {e : Nat} (he : e < 8) (σ : Mm) : EV Γ1 2 yX3_codeBehind cX3_codeBehind 8 (some .int) [.inr b, .inl c, .inl (nI e), .inr 4, .inl set] σ (vz (cbF (T1 σ) set c e 6) σ) := by
  have g0 := hb.1
  have loop : ∀ (n m : Nat), m + n = 6 → ∀ (w : Int32) (y : Option Vl), w = cbF (T1 σ) set c e m → AJ Γ1 2 RX3 cX3_codeBehind 8 (some .int) (vz (cbF (T1 σ) set c e 6) σ) 6 [some (.inr b), some (.inl c), some (.inl (nI e)), some (.inr 4), some (.inl set), some (.inl w), some (.inl (nI m)), y] [] σ := by
    intro n
    induction n with
    | zero =>
      intro m hm w y hw
      subst hw
      obtain rfl : m = 6 := by omega
      refine j_iload (pc := 6) dX3_codeBehind_6 rfl ?_
      refine j_aload_n (pc := 8) dX3_codeBehind_8 rfl ?_
      refine j_alen (pc := 9) dX3_codeBehind_9 (by first | rfl | with_reducible assumption) (v := _) (by rfl) ?_
      refine j_icmp_ge (pc := 10) (tgt := 85) dX3_codeBehind_10 rfl (fun h10 => ?_) (fun h10 => absurd (by decide) h10)
      refine j_iload (pc := 85) dX3_codeBehind_85 rfl ?_
      refine j_iret (pc := 87) dX3_codeBehind_87 ?_
      exact ⟨rfl, rfl⟩
    | succ n ih =>
      intro m hm w y hw
      subst hw
      have hm6 : m < 6 := by omega
      obtain ⟨gM, gL⟩ := isM_at hm6
      obtain ⟨gM0, gM1, gM2⟩ := gM
      have hcl : (nI m).toNatClampNeg = m := nI_clamp (by omega)
      have hst := st_n c m
      have hs6 : stN c m < 6 := hc m hm6
      have hidx : (nI (stN c m) * 8 + nI e).toNatClampNeg = 8 * stN c m + e := by
        rw [show (8 : Int32) = nI 8 from rfl, pk_mul, nI_add, nI_clamp (by omega), Nat.mul_comm]
      refine j_iload (pc := 6) dX3_codeBehind_6 rfl ?_
      refine j_aload_n (pc := 8) dX3_codeBehind_8 rfl ?_
      refine j_alen (pc := 9) dX3_codeBehind_9 (by first | rfl | with_reducible assumption) (v := _) (by rfl) ?_
      refine j_icmp_ge (pc := 10) (tgt := 85) dX3_codeBehind_10 rfl (fun h10 => absurd h10 (nI_ge (b := 6) (by omega) (by decide))) (fun h10 => ?_)
      refine j_iload (pc := 13) dX3_codeBehind_13 rfl ?_
      refine j_iload (pc := 15) dX3_codeBehind_15 rfl ?_
      refine j_ishr (pc := 17) dX3_codeBehind_17 ?_
      refine j_if_eq (pc := 18) (tgt := 85) dX3_codeBehind_18 rfl (fun h18 => ?_) (fun h18 => ?_)
      · refine j_iload (pc := 85) dX3_codeBehind_85 rfl ?_
        refine j_iret (pc := 87) dX3_codeBehind_87 ?_
        have hst2 := set_stop (by omega) h18
        exact ⟨rfl, (cb_stop _ _ _ _ (show m ≤ 6 by omega) (fun k a b => hst2 k a (by omega))).symm⟩
      · refine j_iload (pc := 21) dX3_codeBehind_21 rfl ?_
        refine j_iload (pc := 23) dX3_codeBehind_23 rfl ?_
        refine j_callSNi (pc := 25) dX3_codeBehind_25 k_X3_78 (c_X7_isIn set (j := m) (by omega) _) rfl (by decide) rfl (Nat.le_of_ble_eq_true rfl) (fun r σ1 hp => ?_)
        obtain ⟨rfl, hp⟩ := hp
        rcases hp with ⟨q25, rfl⟩ | ⟨q25, rfl⟩
        · refine j_if_eq (pc := 28) (tgt := 79) dX3_codeBehind_28 rfl (fun h => absurd h (by decide)) (fun _ => ?_)
          refine j_aload_n (pc := 31) dX3_codeBehind_31 rfl ?_
          refine j_iload (pc := 32) dX3_codeBehind_32 rfl ?_
          refine j_aald (pc := 34) dX3_codeBehind_34 (by first | rfl | with_reducible assumption) (vp_in_nI hm6 (by decide)) (by rw [hcl]; exact gL) ?_
          refine j_iload_n (pc := 35) dX3_codeBehind_35 rfl ?_
          refine j_iload (pc := 36) dX3_codeBehind_36 rfl ?_
          refine j_iconst (pc := 38) dX3_codeBehind_38 (v := 3) (by decide) ?_
          refine j_imul (pc := 39) dX3_codeBehind_39 ?_
          refine j_ishr (pc := 40) dX3_codeBehind_40 ?_
          refine j_bipush (pc := 41) dX3_codeBehind_41 (v := 7) (by decide) ?_
          refine j_iand (pc := 43) dX3_codeBehind_43 ?_
          refine j_top (y := nI (stN c m)) (by rw [i3m]; exact hst.1) ?_
          refine j_iload_n (pc := 44) dX3_codeBehind_44 rfl ?_
          refine j_callVNi (pc := 45) dX3_codeBehind_45 k_X3_111 (c_X2_target ⟨gM0, gM1, gM2⟩ _ _ _) (by first | rfl | with_reducible assumption) rfl rfl (by decide) rfl (Nat.le_of_ble_eq_true rfl) (fun r σ1 hp => ?_)
          obtain ⟨rfl, hp⟩ := hp
          have hr : r = stp (T1 σ) c e m := by
            rcases hp with ⟨-, -, q⟩ | ⟨q, -⟩
            · rw [q, hidx]; exact (t1s hm6).symm
            · exact absurd ⟨vp_in_nI hs6 (by decide), vp_in_nI he (by decide)⟩ q
          subst hr
          refine j_istore (pc := 48) dX3_codeBehind_48 (by decide) ?_
          refine j_iload (pc := 50) dX3_codeBehind_50 rfl ?_
          refine j_bipush (pc := 52) dX3_codeBehind_52 (v := (-9)) (by decide) ?_
          refine j_icmp_eq (pc := 54) (tgt := 79) dX3_codeBehind_54 rfl (fun h54 => ?_) (fun h54 => ?_)
          · refine j_iinc1 (pc := 79) dX3_codeBehind_79 rfl ?_
            refine j_goto (pc := 82) (tgt := 6) dX3_codeBehind_82 rfl ?_
            rw [nI_1]
            refine ih (m + 1) (by omega) _ _ ?_
            first | (simp [cbF, q25, h54]; done) | (simp [cbF, q25]; done)
          · refine j_iload (pc := 57) dX3_codeBehind_57 rfl ?_
            refine j_bipush (pc := 59) dX3_codeBehind_59 (v := 7) (by decide) ?_
            refine j_iload (pc := 61) dX3_codeBehind_61 rfl ?_
            refine j_iconst (pc := 63) dX3_codeBehind_63 (v := 3) (by decide) ?_
            refine j_imul (pc := 64) dX3_codeBehind_64 ?_
            refine j_ishl (pc := 65) dX3_codeBehind_65 ?_
            refine j_iconst (pc := 66) dX3_codeBehind_66 (v := (-1)) (by decide) ?_
            refine j_ixor (pc := 67) dX3_codeBehind_67 ?_
            refine j_iand (pc := 68) dX3_codeBehind_68 ?_
            refine j_iload (pc := 69) dX3_codeBehind_69 rfl ?_
            refine j_iload (pc := 71) dX3_codeBehind_71 rfl ?_
            refine j_iconst (pc := 73) dX3_codeBehind_73 (v := 3) (by decide) ?_
            refine j_imul (pc := 74) dX3_codeBehind_74 ?_
            refine j_ishl (pc := 75) dX3_codeBehind_75 ?_
            refine j_ior (pc := 76) dX3_codeBehind_76 ?_
            refine j_top (y := setI (cbF (T1 σ) set c e m) m (stp (T1 σ) c e m)) (by rw [i3m]; rfl) ?_
            refine j_istore (pc := 77) dX3_codeBehind_77 (by decide) ?_
            refine j_iinc1 (pc := 79) dX3_codeBehind_79 rfl ?_
            refine j_goto (pc := 82) (tgt := 6) dX3_codeBehind_82 rfl ?_
            rw [nI_1]
            refine ih (m + 1) (by omega) _ _ ?_
            first | (simp [cbF, q25, h54]; done) | (simp [cbF, q25]; done)
        · refine j_if_eq (pc := 28) (tgt := 79) dX3_codeBehind_28 rfl (fun _ => ?_) (fun h => absurd h (by decide))
          refine j_iinc1 (pc := 79) dX3_codeBehind_79 rfl ?_
          refine j_goto (pc := 82) (tgt := 6) dX3_codeBehind_82 rfl ?_
          rw [nI_1]
          refine ih (m + 1) (by omega) _ _ ?_
          first | (simp [cbF, q25, h54]; done) | (simp [cbF, q25]; done)
  refine EV.intro (by decide +kernel) (Nat.le_of_ble_eq_true rfl) ?_
  refine j_iload_n (pc := 0) dX3_codeBehind_0 rfl ?_
  refine j_istore (pc := 1) dX3_codeBehind_1 (by decide) ?_
  refine j_iconst (pc := 3) dX3_codeBehind_3 (v := 0) (by decide) ?_
  refine j_istore (pc := 4) dX3_codeBehind_4 (by decide) ?_
  exact loop 6 0 rfl _ none rfl
theorem c_X3_allMarked {b : Nat} (hb : IsN b) (set c : Int32) (σ : Mm) : EV Γ1 1 yX3_allMarked cX3_allMarked 5 (some .boolean) [.inr b, .inl c, .inr 4, .inl set] σ (bz (finB (T1 σ) set c = true) σ) := by
  have g0 := hb.1
  have loop : ∀ (n m : Nat), m + n = 6 → (∀ k, k < m → bt set k = true → bt ((T1 σ).2.2.1 k) (stN c k) = true) → AJ Γ1 1 RX3 cX3_allMarked 5 (some .boolean) (bz (finB (T1 σ) set c = true) σ) 3 [some (.inr b), some (.inl c), some (.inr 4), some (.inl set), some (.inl (nI m))] [] σ := by
    intro n
    induction n with
    | zero =>
      intro m hm hi
      obtain rfl : m = 6 := by omega
      refine j_iload (pc := 3) dX3_allMarked_3 rfl ?_
      refine j_aload_n (pc := 5) dX3_allMarked_5 rfl ?_
      refine j_alen (pc := 6) dX3_allMarked_6 (by first | rfl | with_reducible assumption) (v := _) (by rfl) ?_
      refine j_icmp_ge (pc := 7) (tgt := 56) dX3_allMarked_7 rfl (fun h7 => ?_) (fun h7 => absurd (by decide) h7)
      refine j_iconst (pc := 56) dX3_allMarked_56 (v := 1) (by decide) ?_
      refine j_zret (pc := 57) dX3_allMarked_57 (Or.inr rfl) ?_
      refine ⟨rfl, Or.inl ⟨?_, rfl⟩⟩
      unfold finB
      rw [List.all_eq_true]
      intro k hk
      cases hs : bt set k with
      | false => rfl
      | true => simp [hi k (List.mem_range.mp hk) hs]
    | succ n ih =>
      intro m hm hi
      have hm6 : m < 6 := by omega
      obtain ⟨⟨gM0, gM1, gM2⟩, gL⟩ := isM_at hm6
      have hcl : (nI m).toNatClampNeg = m := nI_clamp (by omega)
      have hst := st_n c m
      refine j_iload (pc := 3) dX3_allMarked_3 rfl ?_
      refine j_aload_n (pc := 5) dX3_allMarked_5 rfl ?_
      refine j_alen (pc := 6) dX3_allMarked_6 (by first | rfl | with_reducible assumption) (v := _) (by rfl) ?_
      refine j_icmp_ge (pc := 7) (tgt := 56) dX3_allMarked_7 rfl (fun h7 => absurd h7 (nI_ge (b := 6) (by omega) (by decide))) (fun h7 => ?_)
      refine j_iload_n (pc := 10) dX3_allMarked_10 rfl ?_
      refine j_iload (pc := 11) dX3_allMarked_11 rfl ?_
      refine j_ishr (pc := 13) dX3_allMarked_13 ?_
      refine j_if_eq (pc := 14) (tgt := 56) dX3_allMarked_14 rfl (fun h14 => ?_) (fun h14 => ?_)
      · refine j_iconst (pc := 56) dX3_allMarked_56 (v := 1) (by decide) ?_
        refine j_zret (pc := 57) dX3_allMarked_57 (Or.inr rfl) ?_
        have hst2 := set_stop (by omega) h14
        refine ⟨rfl, Or.inl ⟨?_, rfl⟩⟩
        unfold finB
        rw [List.all_eq_true]
        intro k hk
        cases hs : bt set k with
        | false => rfl
        | true =>
          have : k < m := by
            apply Classical.byContradiction
            intro q
            have := List.mem_range.mp hk
            rw [hst2 k (by omega) (by omega)] at hs
            cases hs
          simp [hi k this hs]
      · refine j_iload_n (pc := 17) dX3_allMarked_17 rfl ?_
        refine j_iload (pc := 18) dX3_allMarked_18 rfl ?_
        refine j_callSNi (pc := 20) dX3_allMarked_20 k_X3_78 (c_X7_isIn set (j := m) (by omega) _) rfl (by decide) rfl (Nat.le_of_ble_eq_true rfl) (fun r σ1 hp => ?_)
        obtain ⟨rfl, hp⟩ := hp
        rcases hp with ⟨q20, rfl⟩ | ⟨q20, rfl⟩
        · refine j_if_eq (pc := 23) (tgt := 50) dX3_allMarked_23 rfl (fun h => absurd h (by decide)) (fun _ => ?_)
          refine j_aload_n (pc := 26) dX3_allMarked_26 rfl ?_
          refine j_iload (pc := 27) dX3_allMarked_27 rfl ?_
          refine j_aald (pc := 29) dX3_allMarked_29 (by first | rfl | with_reducible assumption) (vp_in_nI hm6 (by decide)) (by rw [hcl]; exact gL) ?_
          refine j_getI (pc := 30) dX3_allMarked_30 f_X3_121 (by first | rfl | with_reducible assumption) (by rfl) ?_
          refine j_iload_n (pc := 33) dX3_allMarked_33 rfl ?_
          refine j_iload (pc := 34) dX3_allMarked_34 rfl ?_
          refine j_iconst (pc := 36) dX3_allMarked_36 (v := 3) (by decide) ?_
          refine j_imul (pc := 37) dX3_allMarked_37 ?_
          refine j_ishr (pc := 38) dX3_allMarked_38 ?_
          refine j_bipush (pc := 39) dX3_allMarked_39 (v := 7) (by decide) ?_
          refine j_iand (pc := 41) dX3_allMarked_41 ?_
          refine j_top (y := nI (stN c m)) (by rw [i3m]; exact hst.1) ?_
          refine j_callSNi (pc := 42) dX3_allMarked_42 k_X3_78 (c_X7_isIn _ (j := stN c m) (by omega) _) rfl (by decide) rfl (Nat.le_of_ble_eq_true rfl) (fun r σ1 hp => ?_)
          obtain ⟨rfl, hp⟩ := hp
          rcases hp with ⟨q42, rfl⟩ | ⟨q42, rfl⟩
          · refine j_if_ne (pc := 45) (tgt := 50) dX3_allMarked_45 rfl (fun _ => ?_) (fun h => absurd h (by decide))
            refine j_iinc1 (pc := 50) dX3_allMarked_50 rfl ?_
            refine j_goto (pc := 53) (tgt := 3) dX3_allMarked_53 rfl ?_
            rw [nI_1]
            refine ih (m + 1) (by omega) (fun k hk hs => ?_)
            by_cases hkm : k = m
            · subst hkm
              first | (rw [t1m hm6]; exact q42) | exact absurd hs q20
            · exact hi k (by omega) hs
          · refine j_if_ne (pc := 45) (tgt := 50) dX3_allMarked_45 rfl (fun h => absurd h (by decide)) (fun _ => ?_)
            refine j_iconst (pc := 48) dX3_allMarked_48 (v := 0) (by decide) ?_
            refine j_zret (pc := 49) dX3_allMarked_49 (Or.inl rfl) ?_
            refine ⟨rfl, Or.inr ⟨fun q => ?_, rfl⟩⟩
            unfold finB at q
            have := List.all_eq_true.mp q m (List.mem_range.mpr hm6)
            rw [q20] at this
            exact q42 (by simpa [t1m hm6] using this)
        · refine j_if_eq (pc := 23) (tgt := 50) dX3_allMarked_23 rfl (fun _ => ?_) (fun h => absurd h (by decide))
          refine j_iinc1 (pc := 50) dX3_allMarked_50 rfl ?_
          refine j_goto (pc := 53) (tgt := 3) dX3_allMarked_53 rfl ?_
          rw [nI_1]
          refine ih (m + 1) (by omega) (fun k hk hs => ?_)
          by_cases hkm : k = m
          · subst hkm
            first | (rw [t1m hm6]; exact q42) | exact absurd hs q20
          · exact hi k (by omega) hs
  refine EV.intro (by decide +kernel) (Nat.le_of_ble_eq_true rfl) ?_
  refine j_iconst (pc := 0) dX3_allMarked_0 (v := 0) (by decide) ?_
  refine j_istore (pc := 1) dX3_allMarked_1 (by decide) ?_
  exact loop 6 0 rfl (fun k h => absurd h (Nat.not_lt_zero _))
theorem c_X3_addEdge {b : Nat} (hb : IsN b) {n e : Nat} (hn : n < 150) (he : e < 8) (to : Int32) {σ : Mm} {J : Nat} (hJ : σ b 13 = nI J) (hJ2 : J ≤ 150) : EV Γ1 1 yX3_addEdge cX3_addEdge 5 none [.inr b, .inl (nI n), .inl (nI e), .inl to] σ (fun _ σ' => (¬ vp_in to J ∧ σ' = m_up σ b 14 1) ∨ ∃ j, j < J ∧ to = nI j ∧ σ' = m_up (m_up (m_up σ (b + 5) (8 * n + e) (nI j)) (b + 7) (8 * n + e) (σ (b + 6) j)) (b + 6) j (nI (8 * n + e))) := by
  have g0 := hb.1
  have g5 := hb.2.2.2.2.2.1
  have g6 := hb.2.2.2.2.2.2.1
  have g7 := hb.2.2.2.2.2.2.2.1
  have hx : nI n * 8 + nI e = nI (8 * n + e) := by rw [show (8 : Int32) = nI 8 from rfl, pk_mul, nI_add, Nat.mul_comm n 8]
  have hvx : vp_in (nI (8 * n + e)) 1200 := vp_in_nI (by omega) (by decide)
  have hcx : (nI (8 * n + e)).toNatClampNeg = 8 * n + e := nI_clamp (by omega)
  refine EV.intro (by decide +kernel) (Nat.le_of_ble_eq_true rfl) ?_
  refine j_aload_n (pc := 0) dX3_addEdge_0 rfl ?_
  refine j_iload_n (pc := 1) dX3_addEdge_1 rfl ?_
  refine j_callVi (pc := 2) dX3_addEdge_2 k_X3_107 (c_X3_has hb _ hJ hJ2) (by first | rfl | with_reducible assumption) rfl rfl (by decide) rfl (Nat.le_of_ble_eq_true rfl) (fun r σ1 hp => ?_)
  obtain ⟨rfl, hp⟩ := hp
  rcases hp with ⟨q2, rfl⟩ | ⟨q2, rfl⟩
  · refine j_if_ne (pc := 5) (tgt := 14) dX3_addEdge_5 rfl (fun _ => ?_) (fun h => absurd h (by decide))
    obtain ⟨j, hj, rfl⟩ := vp_in_of q2 (by omega)
    have hcj : (nI j).toNatClampNeg = j := nI_clamp (by omega)
    have hvj : vp_in (nI j) 150 := vp_in_nI (by omega) (by decide)
    refine j_iload_n (pc := 14) dX3_addEdge_14 rfl ?_
    refine j_bipush (pc := 15) dX3_addEdge_15 (v := 8) (by decide) ?_
    refine j_imul (pc := 17) dX3_addEdge_17 ?_
    refine j_iload_n (pc := 18) dX3_addEdge_18 rfl ?_
    refine j_iadd (pc := 19) dX3_addEdge_19 ?_
    refine j_top hx ?_
    refine j_istore (pc := 20) dX3_addEdge_20 (by decide) ?_
    refine j_aload_n (pc := 22) dX3_addEdge_22 rfl ?_
    refine j_getR (pc := 23) dX3_addEdge_23 f_X3_25 (by first | rfl | with_reducible assumption) (by rfl) ?_
    refine j_iload (pc := 26) dX3_addEdge_26 rfl ?_
    refine j_iload_n (pc := 28) dX3_addEdge_28 rfl ?_
    refine j_iast (pc := 29) dX3_addEdge_29 (by first | rfl | with_reducible assumption) hvx ?_
    refine j_aload_n (pc := 30) dX3_addEdge_30 rfl ?_
    refine j_getR (pc := 31) dX3_addEdge_31 f_X3_31 (by first | rfl | with_reducible assumption) (by rfl) ?_
    refine j_iload (pc := 34) dX3_addEdge_34 rfl ?_
    refine j_aload_n (pc := 36) dX3_addEdge_36 rfl ?_
    refine j_getR (pc := 37) dX3_addEdge_37 f_X3_28 (by first | rfl | with_reducible assumption) (by rfl) ?_
    refine j_iload_n (pc := 40) dX3_addEdge_40 rfl ?_
    refine j_iald (pc := 41) dX3_addEdge_41 (by first | rfl | with_reducible assumption) hvj ?_
    refine j_iast (pc := 42) dX3_addEdge_42 (by first | rfl | with_reducible assumption) hvx ?_
    refine j_aload_n (pc := 43) dX3_addEdge_43 rfl ?_
    refine j_getR (pc := 44) dX3_addEdge_44 f_X3_28 (by first | rfl | with_reducible assumption) (by rfl) ?_
    refine j_iload_n (pc := 47) dX3_addEdge_47 rfl ?_
    refine j_iload (pc := 48) dX3_addEdge_48 rfl ?_
    refine j_iast (pc := 50) dX3_addEdge_50 (by first | rfl | with_reducible assumption) hvj ?_
    refine j_vret (pc := 51) dX3_addEdge_51 ?_
    right
    refine ⟨j, hj, rfl, ?_⟩
    rw [hcx, hcj, m_ne (by omega)]
  · refine j_if_ne (pc := 5) (tgt := 14) dX3_addEdge_5 rfl (fun h => absurd h (by decide)) (fun _ => ?_)
    refine j_aload_n (pc := 8) dX3_addEdge_8 rfl ?_
    refine j_iconst (pc := 9) dX3_addEdge_9 (v := 1) (by decide) ?_
    refine j_putZ (pc := 10) dX3_addEdge_10 f_X3_56 (by first | rfl | with_reducible assumption) (by rfl) (Or.inr rfl) ?_
    refine j_vret (pc := 13) dX3_addEdge_13 ?_
    exact Or.inl ⟨q2, rfl⟩
