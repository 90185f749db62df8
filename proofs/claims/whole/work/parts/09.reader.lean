/-! READER: what is awaited (0 an ITEM, 1 a letter, 2 a figure, 3 a MARKED STATE, 4 an EVENT's name, 5 a blank), the step's STATE and EVENT, the MACHINE so far -/
abbrev RS : Type := Nat × Int32 × Int32 × MV
def rdStep (s : RS) (c : Int32) : Option RS := match s.1 with
  | 0 => if c = 42 then some (3, s.2.1, s.2.2.1, s.2.2.2) else if c = 33 then some (4, s.2.1, s.2.2.1, s.2.2.2) else if isFig (c - 48) = true then some (1, c - 48, s.2.2.1, s.2.2.2) else none
  | 1 => if isLet (c - 97) = true then some (2, s.2.1, c - 97, s.2.2.2) else none
  | 2 => (tellS s.2.2.2 s.2.1 s.2.2.1 (c - 48)).map (fun v => (5, s.2.1, s.2.2.1, v))
  | 3 => (tellM s.2.2.2 (c - 48)).map (fun v => (5, s.2.1, s.2.2.1, v))
  | 4 => (tellE s.2.2.2 (c - 97)).map (fun v => (5, s.2.1, s.2.2.1, v))
  | _ => if c = 32 then some (0, s.2.1, s.2.2.1, s.2.2.2) else none
def rdGo (t : Nat → Int32) : Nat → Nat → RS → Nat ⊕ RS
  | 0, _, s => .inr s
  | k + 1, p, s => match rdStep s (t p) with
    | none => .inl p
    | some s' => rdGo t k (p + 1) s'
/-- the FIRST FAULT of n codes, or the MACHINE -/
def rdEnd (n : Nat) (x : Nat ⊕ RS) : Nat ⊕ MV := match x with
  | .inl p => .inl p
  | .inr s => if s.1 = 5 then .inr s.2.2.2 else .inl n
def HR (σ : Mm) (a : Nat) (s : RS) : Prop := σ 3 0 = nI s.1 ∧ σ 3 1 = s.2.1 ∧ σ 3 2 = s.2.2.1 ∧ s.1 ≤ 5 ∧ (s.1 = 1 ∨ s.1 = 2 → vp_in s.2.1 6) ∧ (s.1 = 2 → vp_in s.2.2.1 8) ∧ HM σ a s.2.2.2
def FrR (a : Nat) (σ σ' : Mm) : Prop := (∀ x, x ≠ 3 → x ≠ a → x ≠ a + 1 → x ≠ a + 2 → σ' x = σ x) ∧ σ' a 2 = σ a 2
theorem FrR.of {a : Nat} {σ σ' σ'' : Mm} (h3 : ∀ x, x ≠ 3 → σ' x = σ x) (ha : 4 < a) (h : FrM a σ' σ'') : FrR a σ σ'' := ⟨fun x h0 h1 h2 h4 => (h.1 x h1 h2 h4).trans (h3 x h0), h.2.trans (by rw [h3 a (by omega)])⟩
theorem FrR.tr {a : Nat} {σ σ' σ'' : Mm} (h1 : FrR a σ σ') (h2 : FrR a σ' σ'') : FrR a σ σ'' := ⟨fun x a0 a1 a2 a3 => (h2.1 x a0 a1 a2 a3).trans (h1.1 x a0 a1 a2 a3), h2.2.trans h1.2⟩
theorem HM.up3 {σ : Mm} {a k : Nat} {v : MV} {x : Int32} (ha : 4 < a) (h : HM σ a v) : HM (m_up σ 3 k x) a v := by
  have e0 : m_up σ 3 k x a = σ a := m_ne (by omega)
  have e1 : m_up σ 3 k x (a + 1) = σ (a + 1) := m_ne (by omega)
  have e2 : m_up σ 3 k x (a + 2) = σ (a + 2) := m_ne (by omega)
  unfold HM
  rw [e0, e1, e2]
  exact h
def takesP (σ : Mm) (a : Nat) (s : RS) (c : Int32) : Int32 → Mm → Prop := fun r σ' => FrR a σ σ' ∧ (r = 0 ∨ r = 1) ∧ ((r = 1 ∧ ∃ s', rdStep s c = some s' ∧ HR σ' a s') ∨ (r = 0 ∧ rdStep s c = none))
theorem c_X4_opensItem {a : Nat} (ha : 4 < a) (c : Int32) {σ : Mm} {s : RS} (h0 : s.1 = 0) (h : HR σ a s) : EV Γ1 1 yX4_opensItem cX4_opensItem 2 (some .boolean) [.inr 3, .inl c] σ (takesP σ a s c) := by
  obtain ⟨aw, fr, ev, v⟩ := s
  dsimp only at h0
  subst h0
  obtain ⟨e0, e1, e2, e3, e4, e5, e6⟩ := h
  dsimp only at e0 e1 e2 e6
  refine EV.intro (by decide +kernel) (Nat.le_of_ble_eq_true rfl) ?_
  refine j_iload_n (pc := 0) dX4_opensItem_0 rfl ?_
  refine j_bipush (pc := 1) dX4_opensItem_1 (v := 42) (by decide) ?_
  refine j_icmp_ne (pc := 3) (tgt := 13) dX4_opensItem_3 rfl (fun h3 => ?_) (fun h3 => ?_)
  · refine j_iload_n (pc := 13) dX4_opensItem_13 rfl ?_
    refine j_bipush (pc := 14) dX4_opensItem_14 (v := 33) (by decide) ?_
    refine j_icmp_ne (pc := 16) (tgt := 26) dX4_opensItem_16 rfl (fun h16 => ?_) (fun h16 => ?_)
    · refine j_aload_n (pc := 26) dX4_opensItem_26 rfl ?_
      refine j_iload_n (pc := 27) dX4_opensItem_27 rfl ?_
      refine j_bipush (pc := 28) dX4_opensItem_28 (v := 48) (by decide) ?_
      refine j_isub (pc := 30) dX4_opensItem_30 ?_
      refine j_put (pc := 31) dX4_opensItem_31 f_X4_15 (by first | rfl | with_reducible assumption) (by rfl) ?_
      refine j_aload_n (pc := 34) dX4_opensItem_34 rfl ?_
      refine j_iconst (pc := 35) dX4_opensItem_35 (v := 1) (by decide) ?_
      refine j_put (pc := 36) dX4_opensItem_36 f_X4_11 (by first | rfl | with_reducible assumption) (by rfl) ?_
      refine j_aload_n (pc := 39) dX4_opensItem_39 rfl ?_
      refine j_getI (pc := 40) dX4_opensItem_40 f_X4_15 (by first | rfl | with_reducible assumption) (by rfl) ?_
      refine j_callSNi (pc := 43) dX4_opensItem_43 k_X4_59 (c_X7_isState _ _) rfl (by decide) rfl (Nat.le_of_ble_eq_true rfl) (fun r σ1 hp => ?_)
      obtain ⟨rfl, hp⟩ := hp
      rcases hp with ⟨q43, rfl⟩ | ⟨q43, rfl⟩
      · refine j_zret (pc := 46) dX4_opensItem_46 (Or.inr rfl) ?_
        rw [m_nk (by decide), m_eq] at q43
        refine ⟨⟨fun x q _ _ _ => by rw [m_ne q, m_ne q], by rw [m_ne (by omega), m_ne (by omega)]⟩, by first | exact Or.inl rfl | exact Or.inr rfl, ?_⟩
        first | exact Or.inr ⟨rfl, (if_neg h3).trans ((if_neg h16).trans (if_neg (fun q => q43 (isFig_iff.mp q))))⟩ | refine Or.inl ⟨rfl, _, (if_neg h3).trans ((if_neg h16).trans (if_pos (isFig_iff.mpr q43))), ?_⟩
        all_goals exact ⟨m_eq _ _ _ _, by rw [m_nk (by decide), m_eq], by rw [m_nk (by decide), m_nk (by decide)]; exact e2, by simp, fun _ => q43, fun q => by simp at q, (e6.up3 ha).up3 ha⟩
      · refine j_zret (pc := 46) dX4_opensItem_46 (Or.inl rfl) ?_
        rw [m_nk (by decide), m_eq] at q43
        refine ⟨⟨fun x q _ _ _ => by rw [m_ne q, m_ne q], by rw [m_ne (by omega), m_ne (by omega)]⟩, by first | exact Or.inl rfl | exact Or.inr rfl, ?_⟩
        first | exact Or.inr ⟨rfl, (if_neg h3).trans ((if_neg h16).trans (if_neg (fun q => q43 (isFig_iff.mp q))))⟩ | refine Or.inl ⟨rfl, _, (if_neg h3).trans ((if_neg h16).trans (if_pos (isFig_iff.mpr q43))), ?_⟩
        all_goals exact ⟨m_eq _ _ _ _, by rw [m_nk (by decide), m_eq], by rw [m_nk (by decide), m_nk (by decide)]; exact e2, by simp, fun _ => q43, fun q => by simp at q, (e6.up3 ha).up3 ha⟩
    · refine j_aload_n (pc := 19) dX4_opensItem_19 rfl ?_
      refine j_iconst (pc := 20) dX4_opensItem_20 (v := 4) (by decide) ?_
      refine j_put (pc := 21) dX4_opensItem_21 f_X4_11 (by first | rfl | with_reducible assumption) (by rfl) ?_
      refine j_iconst (pc := 24) dX4_opensItem_24 (v := 1) (by decide) ?_
      refine j_zret (pc := 25) dX4_opensItem_25 (Or.inr rfl) ?_
      refine ⟨⟨fun x q _ _ _ => m_ne q, by rw [m_ne (by omega)]⟩, Or.inr rfl, Or.inl ⟨rfl, _, (if_neg h3).trans (if_pos h16), ?_⟩⟩
      exact ⟨m_eq _ _ _ _, by rw [m_nk (by decide)]; exact e1, by rw [m_nk (by decide)]; exact e2, by simp, fun q => by simp at q, fun q => by simp at q, e6.up3 ha⟩
  · refine j_aload_n (pc := 6) dX4_opensItem_6 rfl ?_
    refine j_iconst (pc := 7) dX4_opensItem_7 (v := 3) (by decide) ?_
    refine j_put (pc := 8) dX4_opensItem_8 f_X4_11 (by first | rfl | with_reducible assumption) (by rfl) ?_
    refine j_iconst (pc := 11) dX4_opensItem_11 (v := 1) (by decide) ?_
    refine j_zret (pc := 12) dX4_opensItem_12 (Or.inr rfl) ?_
    refine ⟨⟨fun x q _ _ _ => m_ne q, by rw [m_ne (by omega)]⟩, Or.inr rfl, Or.inl ⟨rfl, _, if_pos h3, ?_⟩⟩
    exact ⟨m_eq _ _ _ _, by rw [m_nk (by decide)]; exact e1, by rw [m_nk (by decide)]; exact e2, by simp, fun q => by simp at q, fun q => by simp at q, e6.up3 ha⟩
theorem c_X4_takesLetter {a : Nat} (ha : 4 < a) (c : Int32) {σ : Mm} {s : RS} (h0 : s.1 = 1) (h : HR σ a s) : EV Γ1 1 yX4_takesLetter cX4_takesLetter 2 (some .boolean) [.inr 3, .inl c] σ (takesP σ a s c) := by
  obtain ⟨aw, fr, ev, v⟩ := s
  dsimp only at h0
  subst h0
  obtain ⟨e0, e1, e2, e3, e4, e5, e6⟩ := h
  dsimp only at e0 e1 e2 e4 e6
  refine EV.intro (by decide +kernel) (Nat.le_of_ble_eq_true rfl) ?_
  refine j_aload_n (pc := 0) dX4_takesLetter_0 rfl ?_
  refine j_iload_n (pc := 1) dX4_takesLetter_1 rfl ?_
  refine j_bipush (pc := 2) dX4_takesLetter_2 (v := 97) (by decide) ?_
  refine j_isub (pc := 4) dX4_takesLetter_4 ?_
  refine j_put (pc := 5) dX4_takesLetter_5 f_X4_18 (by first | rfl | with_reducible assumption) (by rfl) ?_
  refine j_aload_n (pc := 8) dX4_takesLetter_8 rfl ?_
  refine j_iconst (pc := 9) dX4_takesLetter_9 (v := 2) (by decide) ?_
  refine j_put (pc := 10) dX4_takesLetter_10 f_X4_11 (by first | rfl | with_reducible assumption) (by rfl) ?_
  refine j_aload_n (pc := 13) dX4_takesLetter_13 rfl ?_
  refine j_getI (pc := 14) dX4_takesLetter_14 f_X4_18 (by first | rfl | with_reducible assumption) (by rfl) ?_
  refine j_callSNi (pc := 17) dX4_takesLetter_17 k_X4_62 (c_X7_isEvent _ _) rfl (by decide) rfl (Nat.le_of_ble_eq_true rfl) (fun r σ1 hp => ?_)
  obtain ⟨rfl, hp⟩ := hp
  rcases hp with ⟨q17, rfl⟩ | ⟨q17, rfl⟩
  · refine j_zret (pc := 20) dX4_takesLetter_20 (Or.inr rfl) ?_
    rw [m_nk (by decide), m_eq] at q17
    refine ⟨⟨fun x q _ _ _ => by rw [m_ne q, m_ne q], by rw [m_ne (by omega), m_ne (by omega)]⟩, by first | exact Or.inl rfl | exact Or.inr rfl, ?_⟩
    first | exact Or.inr ⟨rfl, if_neg (fun q => q17 (isLet_iff.mp q))⟩ | refine Or.inl ⟨rfl, _, if_pos (isLet_iff.mpr q17), ?_⟩
    all_goals exact ⟨m_eq _ _ _ _, by rw [m_nk (by decide), m_nk (by decide)]; exact e1, by rw [m_nk (by decide), m_eq], by simp, fun _ => e4 (Or.inl rfl), fun _ => q17, (e6.up3 ha).up3 ha⟩
  · refine j_zret (pc := 20) dX4_takesLetter_20 (Or.inl rfl) ?_
    rw [m_nk (by decide), m_eq] at q17
    refine ⟨⟨fun x q _ _ _ => by rw [m_ne q, m_ne q], by rw [m_ne (by omega), m_ne (by omega)]⟩, by first | exact Or.inl rfl | exact Or.inr rfl, ?_⟩
    first | exact Or.inr ⟨rfl, if_neg (fun q => q17 (isLet_iff.mp q))⟩ | refine Or.inl ⟨rfl, _, if_pos (isLet_iff.mpr q17), ?_⟩
    all_goals exact ⟨m_eq _ _ _ _, by rw [m_nk (by decide), m_nk (by decide)]; exact e1, by rw [m_nk (by decide), m_eq], by simp, fun _ => e4 (Or.inl rfl), fun _ => q17, (e6.up3 ha).up3 ha⟩
theorem c_X4_takesBlank {a : Nat} (ha : 4 < a) (c : Int32) {σ : Mm} {s : RS} (h0 : s.1 = 5) (h : HR σ a s) : EV Γ1 0 yX4_takesBlank cX4_takesBlank 2 (some .boolean) [.inr 3, .inl c] σ (takesP σ a s c) := by
  obtain ⟨aw, fr, ev, v⟩ := s
  dsimp only at h0
  subst h0
  obtain ⟨e0, e1, e2, e3, e4, e5, e6⟩ := h
  dsimp only at e0 e1 e2 e6
  refine EV.intro (by decide +kernel) (Nat.le_of_ble_eq_true rfl) ?_
  refine j_aload_n (pc := 0) dX4_takesBlank_0 rfl ?_
  refine j_iconst (pc := 1) dX4_takesBlank_1 (v := 0) (by decide) ?_
  refine j_put (pc := 2) dX4_takesBlank_2 f_X4_11 (by first | rfl | with_reducible assumption) (by rfl) ?_
  refine j_iload_n (pc := 5) dX4_takesBlank_5 rfl ?_
  refine j_bipush (pc := 6) dX4_takesBlank_6 (v := 32) (by decide) ?_
  refine j_icmp_ne (pc := 8) (tgt := 15) dX4_takesBlank_8 rfl (fun h8 => ?_) (fun h8 => ?_)
  · refine j_iconst (pc := 15) dX4_takesBlank_15 (v := 0) (by decide) ?_
    refine j_zret (pc := 16) dX4_takesBlank_16 (Or.inl rfl) ?_
    refine ⟨⟨fun x q _ _ _ => by rw [m_ne q], by rw [m_ne (by omega)]⟩, by first | exact Or.inl rfl | exact Or.inr rfl, ?_⟩
    first | exact Or.inr ⟨rfl, if_neg h8⟩ | refine Or.inl ⟨rfl, _, if_pos h8, ?_⟩
    all_goals exact ⟨m_eq _ _ _ _, by rw [m_nk (by decide)]; exact e1, by rw [m_nk (by decide)]; exact e2, by simp, fun q => by simp at q, fun q => by simp at q, e6.up3 ha⟩
  · refine j_iconst (pc := 11) dX4_takesBlank_11 (v := 1) (by decide) ?_
    refine j_goto (pc := 12) (tgt := 16) dX4_takesBlank_12 rfl ?_
    refine j_zret (pc := 16) dX4_takesBlank_16 (Or.inr rfl) ?_
    refine ⟨⟨fun x q _ _ _ => by rw [m_ne q], by rw [m_ne (by omega)]⟩, by first | exact Or.inl rfl | exact Or.inr rfl, ?_⟩
    first | exact Or.inr ⟨rfl, if_neg h8⟩ | refine Or.inl ⟨rfl, _, if_pos h8, ?_⟩
    all_goals exact ⟨m_eq _ _ _ _, by rw [m_nk (by decide)]; exact e1, by rw [m_nk (by decide)]; exact e2, by simp, fun q => by simp at q, fun q => by simp at q, e6.up3 ha⟩
theorem r_end {σ σ' : Mm} {a : Nat} {fr ev : Int32} {o : Option MV} (ha : 4 < a) (e1 : σ 3 1 = fr) (e2 : σ 3 2 = ev) {r : Int32} {s : RS} {c : Int32} (hs : rdStep s c = o.map (fun v => (5, fr, ev, v)))
    (hF : FrM a (m_up σ 3 0 5) σ') (hp : (r = 1 ∧ ∃ v', o = some v' ∧ HM σ' a v') ∨ (r = 0 ∧ o = none)) : takesP σ a s c r σ' := by
  refine ⟨FrR.of (fun x q => m_ne q) ha hF, ?_, ?_⟩
  · rcases hp with ⟨rfl, _⟩ | ⟨rfl, _⟩
    · exact Or.inr rfl
    · exact Or.inl rfl
  · have e3 : σ' 3 = m_up σ 3 0 5 3 := hF.1 3 (by omega) (by omega) (by omega)
    rcases hp with ⟨rfl, v', h1, h2⟩ | ⟨rfl, h1⟩
    · subst h1
      refine Or.inl ⟨rfl, _, hs, ?_⟩
      exact ⟨by rw [e3, m_eq]; rfl, by rw [e3, m_nk (by decide)]; exact e1, by rw [e3, m_nk (by decide)]; exact e2, by simp, fun q => by simp at q, fun q => by simp at q, h2⟩
    · subst h1
      exact Or.inr ⟨rfl, hs⟩
theorem c_X4_takesFigure {a : Nat} (hM : IsM a) (ha : 4 < a) (c : Int32) {σ : Mm} {s : RS} (h0 : s.1 = 2) (h : HR σ a s) : EV Γ1 2 yX4_takesFigure cX4_takesFigure 3 (some .boolean) [.inr 3, .inl c, .inr a] σ (takesP σ a s c) := by
  obtain ⟨aw, fr, ev, v⟩ := s
  dsimp only at h0
  subst h0
  obtain ⟨e0, e1, e2, e3, e4, e5, e6⟩ := h
  dsimp only at e0 e1 e2 e4 e5 e6
  have g0 := hM.1
  have x1 : m_up σ 3 0 5 3 1 = fr := by rw [m_nk (by decide)]; exact e1
  have x2 : m_up σ 3 0 5 3 2 = ev := by rw [m_nk (by decide)]; exact e2
  refine EV.intro (by decide +kernel) (Nat.le_of_ble_eq_true rfl) ?_
  refine j_aload_n (pc := 0) dX4_takesFigure_0 rfl ?_
  refine j_iconst (pc := 1) dX4_takesFigure_1 (v := 5) (by decide) ?_
  refine j_put (pc := 2) dX4_takesFigure_2 f_X4_11 (by first | rfl | with_reducible assumption) (by rfl) ?_
  refine j_aload_n (pc := 5) dX4_takesFigure_5 rfl ?_
  refine j_aload_n (pc := 6) dX4_takesFigure_6 rfl ?_
  refine j_getI (pc := 7) dX4_takesFigure_7 f_X4_15 (by first | rfl | with_reducible assumption) (by rfl) ?_
  refine j_top x1 ?_
  refine j_aload_n (pc := 10) dX4_takesFigure_10 rfl ?_
  refine j_getI (pc := 11) dX4_takesFigure_11 f_X4_18 (by first | rfl | with_reducible assumption) (by rfl) ?_
  refine j_top x2 ?_
  refine j_iload_n (pc := 14) dX4_takesFigure_14 rfl ?_
  refine j_bipush (pc := 15) dX4_takesFigure_15 (v := 48) (by decide) ?_
  refine j_isub (pc := 17) dX4_takesFigure_17 ?_
  refine j_callVNi (pc := 18) dX4_takesFigure_18 k_X4_65 (c_X2_tellStep hM (e4 (Or.inr rfl)) (e5 rfl) _ (e6.up3 ha)) (by first | rfl | with_reducible assumption) rfl rfl (by decide) rfl (Nat.le_of_ble_eq_true rfl) (fun r σ1 hp => ?_)
  have hr : r = 0 ∨ r = 1 := by
    rcases hp.2 with q | q
    · exact Or.inr q.1
    · exact Or.inl q.1
  refine j_zret (pc := 21) dX4_takesFigure_21 hr ?_
  exact r_end ha e1 e2 rfl hp.1 hp.2
theorem c_X4_takesMark {a : Nat} (hM : IsM a) (ha : 4 < a) (c : Int32) {σ : Mm} {s : RS} (h0 : s.1 = 3) (h : HR σ a s) : EV Γ1 2 yX4_takesMark cX4_takesMark 3 (some .boolean) [.inr 3, .inl c, .inr a] σ (takesP σ a s c) := by
  obtain ⟨aw, fr, ev, v⟩ := s
  dsimp only at h0
  subst h0
  obtain ⟨e0, e1, e2, e3, e4, e5, e6⟩ := h
  dsimp only at e0 e1 e2 e4 e5 e6
  have g0 := hM.1
  refine EV.intro (by decide +kernel) (Nat.le_of_ble_eq_true rfl) ?_
  refine j_aload_n (pc := 0) dX4_takesMark_0 rfl ?_
  refine j_iconst (pc := 1) dX4_takesMark_1 (v := 5) (by decide) ?_
  refine j_put (pc := 2) dX4_takesMark_2 f_X4_11 (by first | rfl | with_reducible assumption) (by rfl) ?_
  refine j_aload_n (pc := 5) dX4_takesMark_5 rfl ?_
  refine j_iload_n (pc := 6) dX4_takesMark_6 rfl ?_
  refine j_bipush (pc := 7) dX4_takesMark_7 (v := 48) (by decide) ?_
  refine j_isub (pc := 9) dX4_takesMark_9 ?_
  refine j_callVNi (pc := 10) dX4_takesMark_10 k_X4_69 (c_X2_tellMarked hM _ (e6.up3 ha)) (by first | rfl | with_reducible assumption) rfl rfl (by decide) rfl (Nat.le_of_ble_eq_true rfl) (fun r σ1 hp => ?_)
  have hr : r = 0 ∨ r = 1 := by
    rcases hp.2 with q | q
    · exact Or.inr q.1
    · exact Or.inl q.1
  refine j_zret (pc := 13) dX4_takesMark_13 hr ?_
  exact r_end ha e1 e2 rfl hp.1 hp.2
theorem c_X4_takesName {a : Nat} (hM : IsM a) (ha : 4 < a) (c : Int32) {σ : Mm} {s : RS} (h0 : s.1 = 4) (h : HR σ a s) : EV Γ1 2 yX4_takesName cX4_takesName 3 (some .boolean) [.inr 3, .inl c, .inr a] σ (takesP σ a s c) := by
  obtain ⟨aw, fr, ev, v⟩ := s
  dsimp only at h0
  subst h0
  obtain ⟨e0, e1, e2, e3, e4, e5, e6⟩ := h
  dsimp only at e0 e1 e2 e4 e5 e6
  have g0 := hM.1
  refine EV.intro (by decide +kernel) (Nat.le_of_ble_eq_true rfl) ?_
  refine j_aload_n (pc := 0) dX4_takesName_0 rfl ?_
  refine j_iconst (pc := 1) dX4_takesName_1 (v := 5) (by decide) ?_
  refine j_put (pc := 2) dX4_takesName_2 f_X4_11 (by first | rfl | with_reducible assumption) (by rfl) ?_
  refine j_aload_n (pc := 5) dX4_takesName_5 rfl ?_
  refine j_iload_n (pc := 6) dX4_takesName_6 rfl ?_
  refine j_bipush (pc := 7) dX4_takesName_7 (v := 97) (by decide) ?_
  refine j_isub (pc := 9) dX4_takesName_9 ?_
  refine j_callVNi (pc := 10) dX4_takesName_10 k_X4_72 (c_X2_tellEvent hM _ (e6.up3 ha)) (by first | rfl | with_reducible assumption) rfl rfl (by decide) rfl (Nat.le_of_ble_eq_true rfl) (fun r σ1 hp => ?_)
  have hr : r = 0 ∨ r = 1 := by
    rcases hp.2 with q | q
    · exact Or.inr q.1
    · exact Or.inl q.1
  refine j_zret (pc := 13) dX4_takesName_13 hr ?_
  exact r_end ha e1 e2 rfl hp.1 hp.2
theorem c_X4_takes {a : Nat} (hM : IsM a) (ha : 4 < a) (c : Int32) {σ : Mm} {s : RS} (h : HR σ a s) : EV Γ1 3 yX4_takes cX4_takes 3 (some .boolean) [.inr 3, .inl c, .inr a] σ (takesP σ a s c) := by
  refine EV.intro (by decide +kernel) (Nat.le_of_ble_eq_true rfl) ?_
  have w40 : s.1 = 0 → AJ Γ1 3 RX4 cX4_takes 3 (some .boolean) (takesP σ a s c) 40 [some (.inr 3), some (.inl c), some (.inr a)] [] σ := by
    intro h0
    refine j_aload_n (pc := 40) dX4_takes_40 rfl ?_
    refine j_iload_n (pc := 41) dX4_takes_41 rfl ?_
    refine j_callVi (pc := 42) dX4_takes_42 k_X4_40 (c_X4_opensItem ha c h0 h) (by first | rfl | with_reducible assumption) rfl rfl (by decide) rfl (Nat.le_of_ble_eq_true rfl) (fun r σ1 hp => ?_)
    have hr := hp.2.1
    refine j_zret (pc := 45) dX4_takes_45 hr ?_
    exact hp
  have w46 : s.1 = 1 → AJ Γ1 3 RX4 cX4_takes 3 (some .boolean) (takesP σ a s c) 46 [some (.inr 3), some (.inl c), some (.inr a)] [] σ := by
    intro h0
    refine j_aload_n (pc := 46) dX4_takes_46 rfl ?_
    refine j_iload_n (pc := 47) dX4_takes_47 rfl ?_
    refine j_callVi (pc := 48) dX4_takes_48 k_X4_44 (c_X4_takesLetter ha c h0 h) (by first | rfl | with_reducible assumption) rfl rfl (by decide) rfl (Nat.le_of_ble_eq_true rfl) (fun r σ1 hp => ?_)
    have hr := hp.2.1
    refine j_zret (pc := 51) dX4_takes_51 hr ?_
    exact hp
  have w52 : s.1 = 2 → AJ Γ1 3 RX4 cX4_takes 3 (some .boolean) (takesP σ a s c) 52 [some (.inr 3), some (.inl c), some (.inr a)] [] σ := by
    intro h0
    refine j_aload_n (pc := 52) dX4_takes_52 rfl ?_
    refine j_iload_n (pc := 53) dX4_takes_53 rfl ?_
    refine j_aload_n (pc := 54) dX4_takes_54 rfl ?_
    refine j_callVi (pc := 55) dX4_takes_55 k_X4_47 (c_X4_takesFigure hM ha c h0 h) (by first | rfl | with_reducible assumption) rfl rfl (by decide) rfl (Nat.le_of_ble_eq_true rfl) (fun r σ1 hp => ?_)
    have hr := hp.2.1
    refine j_zret (pc := 58) dX4_takes_58 hr ?_
    exact hp
  have w59 : s.1 = 3 → AJ Γ1 3 RX4 cX4_takes 3 (some .boolean) (takesP σ a s c) 59 [some (.inr 3), some (.inl c), some (.inr a)] [] σ := by
    intro h0
    refine j_aload_n (pc := 59) dX4_takes_59 rfl ?_
    refine j_iload_n (pc := 60) dX4_takes_60 rfl ?_
    refine j_aload_n (pc := 61) dX4_takes_61 rfl ?_
    refine j_callVi (pc := 62) dX4_takes_62 k_X4_50 (c_X4_takesMark hM ha c h0 h) (by first | rfl | with_reducible assumption) rfl rfl (by decide) rfl (Nat.le_of_ble_eq_true rfl) (fun r σ1 hp => ?_)
    have hr := hp.2.1
    refine j_zret (pc := 65) dX4_takes_65 hr ?_
    exact hp
  have w66 : s.1 = 4 → AJ Γ1 3 RX4 cX4_takes 3 (some .boolean) (takesP σ a s c) 66 [some (.inr 3), some (.inl c), some (.inr a)] [] σ := by
    intro h0
    refine j_aload_n (pc := 66) dX4_takes_66 rfl ?_
    refine j_iload_n (pc := 67) dX4_takes_67 rfl ?_
    refine j_aload_n (pc := 68) dX4_takes_68 rfl ?_
    refine j_callVi (pc := 69) dX4_takes_69 k_X4_53 (c_X4_takesName hM ha c h0 h) (by first | rfl | with_reducible assumption) rfl rfl (by decide) rfl (Nat.le_of_ble_eq_true rfl) (fun r σ1 hp => ?_)
    have hr := hp.2.1
    refine j_zret (pc := 72) dX4_takes_72 hr ?_
    exact hp
  have w73 : s.1 = 5 → AJ Γ1 3 RX4 cX4_takes 3 (some .boolean) (takesP σ a s c) 73 [some (.inr 3), some (.inl c), some (.inr a)] [] σ := by
    intro h0
    refine j_aload_n (pc := 73) dX4_takes_73 rfl ?_
    refine j_iload_n (pc := 74) dX4_takes_74 rfl ?_
    refine j_callVi (pc := 75) dX4_takes_75 k_X4_56 (c_X4_takesBlank ha c h0 h) (by first | rfl | with_reducible assumption) rfl rfl (by decide) rfl (Nat.le_of_ble_eq_true rfl) (fun r σ1 hp => ?_)
    have hr := hp.2.1
    refine j_zret (pc := 78) dX4_takes_78 hr ?_
    exact hp
  have h5 := h.2.2.2.1
  refine j_aload_n (pc := 0) dX4_takes_0 rfl ?_
  refine j_getI (pc := 1) dX4_takes_1 f_X4_11 (by first | rfl | with_reducible assumption) (by rfl) ?_
  refine j_top h.1 ?_
  rcases (by omega : s.1 = 0 ∨ s.1 = 1 ∨ s.1 = 2 ∨ s.1 = 3 ∨ s.1 = 4 ∨ s.1 = 5) with q | q | q | q | q | q <;> rw [q]
  · exact j_tableIn (pc := 4) (tgt := 40) dX4_takes_4 (by decide) (by decide) (off := 36) rfl rfl (w40 q)
  · exact j_tableIn (pc := 4) (tgt := 46) dX4_takes_4 (by decide) (by decide) (off := 42) rfl rfl (w46 q)
  · exact j_tableIn (pc := 4) (tgt := 52) dX4_takes_4 (by decide) (by decide) (off := 48) rfl rfl (w52 q)
  · exact j_tableIn (pc := 4) (tgt := 59) dX4_takes_4 (by decide) (by decide) (off := 55) rfl rfl (w59 q)
  · exact j_tableIn (pc := 4) (tgt := 66) dX4_takes_4 (by decide) (by decide) (off := 62) rfl rfl (w66 q)
  · exact j_tableOut (pc := 4) (tgt := 73) dX4_takes_4 (Or.inr (by decide)) rfl (w73 q)
/-- read: the FIRST FAULT, NONE for none; the MACHINE at a is told then -/
def readP (σ : Mm) (a n : Nat) (kind : Int32) : Int32 → Mm → Prop := fun r σ' => (∀ x, x ≠ 3 → x ≠ a → x ≠ a + 1 → x ≠ a + 2 → σ' x = σ x) ∧ σ' a 2 = kind ∧
  ∃ fr ev : Int32, match rdEnd n (rdGo (σ 2) n 0 (0, fr, ev, mv0)) with
    | .inl p => r = nI p ∧ p ≤ n
    | .inr v => r = -9 ∧ HM σ' a v
theorem c_X4_read {a : Nat} (hM : IsM a) (ha : 4 < a) (kind : Int32) {σ : Mm} {n : Nat} (hn : σ 1 1 = nI n) (h60 : n ≤ 60) : EV Γ1 4 yX4_read cX4_read 5 (some .int) [.inr 3, .inr 1, .inr a, .inl kind] σ (readP σ a n kind) := by
  have g0 := hM.1
  have loop : ∀ (k i : Nat) (s : RS) (σ' : Mm) (fr ev : Int32), i + k = n → HR σ' a s → (∀ x, x ≠ 3 → x ≠ a → x ≠ a + 1 → x ≠ a + 2 → σ' x = σ x) → σ' a 2 = kind → rdGo (σ 2) n 0 (0, fr, ev, mv0) = rdGo (σ 2) k i s →
      AJ Γ1 4 RX4 cX4_read 5 (some .int) (readP σ a n kind) 13 [some (.inr 3), some (.inr 1), some (.inr a), some (.inl kind), some (.inl (nI i))] [] σ' := by
    intro k
    induction k with
    | zero =>
      intro i s σ' fr ev hi h hF hk hgo
      obtain rfl : i = n := by omega
      have x1 : σ' 1 1 = nI i := by rw [hF 1 (by decide) (by omega) (by omega) (by omega)]; exact hn
      refine j_iload (pc := 13) dX4_read_13 rfl ?_
      refine j_aload_n (pc := 15) dX4_read_15 rfl ?_
      refine j_getI (pc := 16) dX4_read_16 f_X4_27 (by first | rfl | with_reducible assumption) (by rfl) ?_
      refine j_icmp_ge (pc := 19) (tgt := 53) dX4_read_19 rfl (fun h19 => ?_) (fun h19 => absurd (by rw [x1]; exact Int32.le_refl _) h19)
      refine j_aload_n (pc := 53) dX4_read_53 rfl ?_
      refine j_getI (pc := 54) dX4_read_54 f_X4_11 (by first | rfl | with_reducible assumption) (by rfl) ?_
      refine j_iconst (pc := 57) dX4_read_57 (v := 5) (by decide) ?_
      refine j_icmp_ne (pc := 58) (tgt := 66) dX4_read_58 rfl (fun h58 => ?_) (fun h58 => ?_)
      · have h5 : ¬ s.1 = 5 := fun q => h58 (by rw [h.1, q]; rfl)
        refine j_aload_n (pc := 66) dX4_read_66 rfl ?_
        refine j_getI (pc := 67) dX4_read_67 f_X4_27 (by first | rfl | with_reducible assumption) (by rfl) ?_
        refine j_iret (pc := 70) dX4_read_70 ?_
        refine ⟨hF, hk, fr, ev, ?_⟩
        rw [hgo]
        first | (rw [show rdEnd i (rdGo (σ 2) 0 i s) = .inr s.2.2.2 from if_pos h5]; exact ⟨rfl, h.2.2.2.2.2.2⟩) | (rw [show rdEnd i (rdGo (σ 2) 0 i s) = .inl i from if_neg h5]; exact ⟨x1, Nat.le_refl _⟩)
      · have h5 : s.1 = 5 := by
          rw [h.1] at h58
          exact (nI_eq (b := 5) (by have := h.2.2.2.1; omega) (by decide)).mp h58
        refine j_bipush (pc := 61) dX4_read_61 (v := (-9)) (by decide) ?_
        refine j_goto (pc := 63) (tgt := 70) dX4_read_63 rfl ?_
        refine j_iret (pc := 70) dX4_read_70 ?_
        refine ⟨hF, hk, fr, ev, ?_⟩
        rw [hgo]
        first | (rw [show rdEnd i (rdGo (σ 2) 0 i s) = .inr s.2.2.2 from if_pos h5]; exact ⟨rfl, h.2.2.2.2.2.2⟩) | (rw [show rdEnd i (rdGo (σ 2) 0 i s) = .inl i from if_neg h5]; exact ⟨x1, Nat.le_refl _⟩)
    | succ k ih =>
      intro i s σ' fr ev hi h hF hk hgo
      have x1 : σ' 1 1 = nI n := by rw [hF 1 (by decide) (by omega) (by omega) (by omega)]; exact hn
      have x2 : σ' 2 = σ 2 := hF 2 (by decide) (by omega) (by omega) (by omega)
      refine j_iload (pc := 13) dX4_read_13 rfl ?_
      refine j_aload_n (pc := 15) dX4_read_15 rfl ?_
      refine j_getI (pc := 16) dX4_read_16 f_X4_27 (by first | rfl | with_reducible assumption) (by rfl) ?_
      refine j_icmp_ge (pc := 19) (tgt := 53) dX4_read_19 rfl (fun h19 => absurd (x1 ▸ h19) (nI_ge (by omega) (by omega))) (fun h19 => ?_)
      refine j_iload (pc := 22) dX4_read_22 rfl ?_
      refine j_bipush (pc := 24) dX4_read_24 (v := 60) (by decide) ?_
      refine j_icmp_ge (pc := 26) (tgt := 53) dX4_read_26 rfl (fun h26 => absurd h26 (nI_ge (b := 60) (by omega) (by decide))) (fun h26 => ?_)
      refine j_aload_n (pc := 29) dX4_read_29 rfl ?_
      refine j_aload_n (pc := 30) dX4_read_30 rfl ?_
      refine j_getR (pc := 31) dX4_read_31 f_X4_32 (by first | rfl | with_reducible assumption) (by rfl) ?_
      refine j_iload (pc := 34) dX4_read_34 rfl ?_
      refine j_iald (pc := 36) dX4_read_36 (by first | rfl | with_reducible assumption) (vp_in_nI (by omega) (by decide)) ?_
      refine j_aload_n (pc := 37) dX4_read_37 rfl ?_
      refine j_callVi (pc := 38) dX4_read_38 k_X4_36 (c_X4_takes hM ha _ h) (by first | rfl | with_reducible assumption) rfl rfl (by decide) rfl (Nat.le_of_ble_eq_true rfl) (fun r σ1 hp => ?_)
      obtain ⟨hF2, -, hp⟩ := hp
      rw [nI_clamp (by omega), x2] at hp
      have hFF : ∀ x, x ≠ 3 → x ≠ a → x ≠ a + 1 → x ≠ a + 2 → σ1 x = σ x := fun x a0 a1 a2 a3 => (hF2.1 x a0 a1 a2 a3).trans (hF x a0 a1 a2 a3)
      refine j_if_ne (pc := 41) (tgt := 47) dX4_read_41 rfl (fun h41 => ?_) (fun h41 => ?_)
      · have hp1 : ∃ s', rdStep s (σ 2 i) = some s' ∧ HR σ1 a s' := by
          rcases hp with ⟨q, q2⟩ | ⟨q, q2⟩
          · exact q2
          · exact absurd q h41
        refine j_iinc1 (pc := 47) dX4_read_47 rfl ?_
        refine j_goto (pc := 50) (tgt := 13) dX4_read_50 rfl ?_
        obtain ⟨s', e1, e2⟩ := hp1
        rw [nI_1]
        refine ih (i + 1) s' σ1 fr ev (by omega) e2 hFF (hF2.2.trans hk) ?_
        rw [hgo]
        simp only [rdGo, e1]
      · have hp0 : rdStep s (σ 2 i) = none := by
          rcases hp with ⟨q, q2⟩ | ⟨q, q2⟩
          · rw [h41] at q; exact absurd q (by decide)
          · exact q2
        refine j_iload (pc := 44) dX4_read_44 rfl ?_
        refine j_iret (pc := 46) dX4_read_46 ?_
        refine ⟨hFF, hF2.2.trans hk, fr, ev, ?_⟩
        rw [hgo]
        rw [show rdEnd n (rdGo (σ 2) (k + 1) i s) = .inl i by simp only [rdGo, hp0, rdEnd]]
        exact ⟨rfl, by omega⟩
  refine EV.intro (by decide +kernel) (Nat.le_of_ble_eq_true rfl) ?_
  refine j_aload_n (pc := 0) dX4_read_0 rfl ?_
  refine j_iload_n (pc := 1) dX4_read_1 rfl ?_
  refine j_callVNv (pc := 2) dX4_read_2 k_X4_21 (c_X2_clear hM kind σ) (by first | rfl | with_reducible assumption) rfl rfl (by decide) rfl (Nat.le_of_ble_eq_true rfl) (fun σ1 hp => ?_)
  obtain ⟨hM0, hk, hF⟩ := hp
  refine j_aload_n (pc := 5) dX4_read_5 rfl ?_
  refine j_iconst (pc := 6) dX4_read_6 (v := 0) (by decide) ?_
  refine j_put (pc := 7) dX4_read_7 f_X4_11 (by first | rfl | with_reducible assumption) (by rfl) ?_
  refine j_iconst (pc := 10) dX4_read_10 (v := 0) (by decide) ?_
  refine j_istore (pc := 11) dX4_read_11 (by decide) ?_
  refine loop n 0 (0, σ1 3 1, σ1 3 2, mv0) _ (σ1 3 1) (σ1 3 2) (by omega) ⟨m_eq _ _ _ _, m_nk (by decide), m_nk (by decide), by simp, fun q => by simp at q, fun q => by simp at q, hM0.up3 ha⟩ (fun x a0 a1 a2 a3 => (m_ne a0).trans (hF x a1 a2 a3)) (by rw [m_ne (by omega)]; exact hk) rfl
