/-! A MACHINE that is being told: its steps (at 8 s + e), ALPHABET, MARKED STATES, how many steps, the greatest STATE -/
abbrev MV : Type := (Nat → Int32) × Int32 × Int32 × Int32 × Int32
def isFig (t : Int32) : Bool := decide (0 ≤ t.toInt ∧ t.toInt < 6)
def isLet (t : Int32) : Bool := decide (0 ≤ t.toInt ∧ t.toInt < 8)
theorem isFig_iff {t : Int32} : isFig t = true ↔ vp_in t 6 := by simp [isFig, vp_in_iff]
theorem isLet_iff {t : Int32} : isLet t = true ↔ vp_in t 8 := by simp [isLet, vp_in_iff]
def bitI (e : Int32) : Int32 := (1 : Int32) <<< (e &&& 31)
def tellS (v : MV) (s e t : Int32) : Option MV :=
  if isFig t = true then
    (if v.1 (s * 8 + e).toNatClampNeg = -9 then some (upd v.1 (s * 8 + e).toNatClampNeg t, v.2.1 ||| bitI e, v.2.2.1, v.2.2.2.1 + 1, mx v.2.2.2.2 (mx s t))
     else if v.1 (s * 8 + e).toNatClampNeg = t then some v else none)
  else none
def tellM (v : MV) (t : Int32) : Option MV := if isFig t = true then some (v.1, v.2.1, v.2.2.1 ||| bitI t, v.2.2.2.1, mx v.2.2.2.2 t) else none
def tellE (v : MV) (t : Int32) : Option MV := if isLet t = true then some (v.1, v.2.1 ||| bitI t, v.2.2.1, v.2.2.2.1, v.2.2.2.2) else none
def mv0 : MV := (fun _ => -9, 0, 0, 0, 0)
/-- the Machine at a holds v; its stepSets say which steps are there -/
def HM (σ : Mm) (a : Nat) (v : MV) : Prop := (∀ x, x < 48 → σ (a + 1) x = v.1 x) ∧ σ a 3 = v.2.1 ∧ σ a 4 = v.2.2.1 ∧ σ a 5 = v.2.2.2.1 ∧ σ a 6 = v.2.2.2.2 ∧
  ∀ s, s < 6 → ∀ e, e < 32 → bt (σ (a + 2) s) e = decide (e < 8 ∧ v.1 (8 * s + e) ≠ -9)
/-- nothing but the Machine at a has changed, and its kind hasn't -/
def FrM (a : Nat) (σ σ' : Mm) : Prop := (∀ x, x ≠ a → x ≠ a + 1 → x ≠ a + 2 → σ' x = σ x) ∧ σ' a 2 = σ a 2
theorem FrM.rf {a : Nat} {σ : Mm} : FrM a σ σ := ⟨fun _ _ _ _ => rfl, rfl⟩
theorem FrM.tr {a : Nat} {σ σ' σ'' : Mm} (h1 : FrM a σ σ') (h2 : FrM a σ' σ'') : FrM a σ σ'' := ⟨fun x a1 a2 a3 => (h2.1 x a1 a2 a3).trans (h1.1 x a1 a2 a3), h2.2.trans h1.2⟩
theorem c_X2_clear {a : Nat} (hM : IsM a) (kind : Int32) (σ : Mm) : EV Γ1 1 yX2_clear cX2_clear 2 none [.inr a, .inl kind] σ (fun _ σ' => HM σ' a mv0 ∧ σ' a 2 = kind ∧ ∀ x, x ≠ a → x ≠ a + 1 → x ≠ a + 2 → σ' x = σ x) := by
  obtain ⟨g0, g1, g2⟩ := hM
  refine EV.intro (by decide +kernel) (Nat.le_of_ble_eq_true rfl) ?_
  refine j_aload_n (pc := 0) dX2_clear_0 rfl ?_
  refine j_getR (pc := 1) dX2_clear_1 f_X2_9 (by first | rfl | with_reducible assumption) (by rfl) ?_
  refine j_bipush (pc := 4) dX2_clear_4 (v := (-9)) (by decide) ?_
  refine j_callSv (pc := 6) dX2_clear_6 k_X2_34 (c_fill (by first | rfl | assumption) (by decide) _ _) rfl (by decide) rfl (Nat.le_of_ble_eq_true rfl) (fun σ1 hp => ?_)
  obtain rfl := hp
  refine j_aload_n (pc := 9) dX2_clear_9 rfl ?_
  refine j_getR (pc := 10) dX2_clear_10 f_X2_15 (by first | rfl | with_reducible assumption) (by rfl) ?_
  refine j_iconst (pc := 13) dX2_clear_13 (v := 0) (by decide) ?_
  refine j_callSv (pc := 14) dX2_clear_14 k_X2_34 (c_fill (by first | rfl | assumption) (by decide) _ _) rfl (by decide) rfl (Nat.le_of_ble_eq_true rfl) (fun σ1 hp => ?_)
  obtain rfl := hp
  refine j_aload_n (pc := 17) dX2_clear_17 rfl ?_
  refine j_iload_n (pc := 18) dX2_clear_18 rfl ?_
  refine j_put (pc := 19) dX2_clear_19 f_X2_18 (by first | rfl | with_reducible assumption) (by rfl) ?_
  refine j_aload_n (pc := 22) dX2_clear_22 rfl ?_
  refine j_iconst (pc := 23) dX2_clear_23 (v := 0) (by decide) ?_
  refine j_put (pc := 24) dX2_clear_24 f_X2_22 (by first | rfl | with_reducible assumption) (by rfl) ?_
  refine j_aload_n (pc := 27) dX2_clear_27 rfl ?_
  refine j_iconst (pc := 28) dX2_clear_28 (v := 0) (by decide) ?_
  refine j_put (pc := 29) dX2_clear_29 f_X2_25 (by first | rfl | with_reducible assumption) (by rfl) ?_
  refine j_aload_n (pc := 32) dX2_clear_32 rfl ?_
  refine j_iconst (pc := 33) dX2_clear_33 (v := 0) (by decide) ?_
  refine j_put (pc := 34) dX2_clear_34 f_X2_28 (by first | rfl | with_reducible assumption) (by rfl) ?_
  refine j_aload_n (pc := 37) dX2_clear_37 rfl ?_
  refine j_iconst (pc := 38) dX2_clear_38 (v := 0) (by decide) ?_
  refine j_put (pc := 39) dX2_clear_39 f_X2_31 (by first | rfl | with_reducible assumption) (by rfl) ?_
  refine j_vret (pc := 42) dX2_clear_42 ?_
  refine ⟨⟨fun x hx => ?_, ?_, ?_, ?_, ?_, fun s hs e he => ?_⟩, ?_, fun x h0 h1 h2 => ?_⟩
  · simp [m_up, m_fill, mv0, hx]
  · simp [m_up, upd, mv0]
  · simp [m_up, upd, mv0]
  · simp [m_up, upd, mv0]
  · simp [m_up, upd, mv0]
  · simp [m_up, m_fill, mv0, hs, b_0]
  · simp [m_up, upd]
  · simp [m_up, m_fill, h0, h1, h2]
theorem i_se {s e : Int32} (hs : vp_in s 6) (he : vp_in e 8) : ∃ i j : Nat, i < 6 ∧ j < 8 ∧ s = nI i ∧ e = nI j ∧ s * 8 + e = nI (8 * i + j) ∧ (s * 8 + e).toNatClampNeg = 8 * i + j := by
  obtain ⟨i, hi, rfl⟩ := vp_in_of hs (by decide)
  obtain ⟨j, hj, rfl⟩ := vp_in_of he (by decide)
  have h : nI i * 8 + nI j = nI (8 * i + j) := by
    rw [show (8 : Int32) = nI 8 from rfl, pk_mul, nI_add, Nat.mul_comm i 8]
  exact ⟨i, j, hi, hj, rfl, rfl, h, by rw [h, nI_clamp (by omega)]⟩
theorem c_X2_target {a : Nat} (hM : IsM a) (s e : Int32) (σ : Mm) : EV Γ1 1 yX2_target cX2_target 3 (some .int) [.inr a, .inl s, .inl e] σ (fun r σ' => σ = σ' ∧ ((vp_in s 6 ∧ vp_in e 8 ∧ r = σ (a + 1) (s * 8 + e).toNatClampNeg) ∨ (¬ (vp_in s 6 ∧ vp_in e 8) ∧ r = -9))) := by
  obtain ⟨g0, g1, g2⟩ := hM
  refine EV.intro (by decide +kernel) (Nat.le_of_ble_eq_true rfl) ?_
  refine j_iload_n (pc := 0) dX2_target_0 rfl ?_
  refine j_callSNi (pc := 1) dX2_target_1 k_X2_40 (c_X7_isState _ _) rfl (by decide) rfl (Nat.le_of_ble_eq_true rfl) (fun r σ1 hp => ?_)
  obtain ⟨rfl, hp⟩ := hp
  rcases hp with ⟨q1, rfl⟩ | ⟨q1, rfl⟩
  · refine j_if_eq (pc := 4) (tgt := 28) dX2_target_4 rfl (fun h => absurd h (by decide)) (fun _ => ?_)
    refine j_iload_n (pc := 7) dX2_target_7 rfl ?_
    refine j_callSNi (pc := 8) dX2_target_8 k_X2_44 (c_X7_isEvent _ _) rfl (by decide) rfl (Nat.le_of_ble_eq_true rfl) (fun r σ1 hp => ?_)
    obtain ⟨rfl, hp⟩ := hp
    rcases hp with ⟨q8, rfl⟩ | ⟨q8, rfl⟩
    · refine j_if_eq (pc := 11) (tgt := 28) dX2_target_11 rfl (fun h => absurd h (by decide)) (fun _ => ?_)
      refine j_aload_n (pc := 14) dX2_target_14 rfl ?_
      refine j_getR (pc := 15) dX2_target_15 f_X2_9 (by first | rfl | with_reducible assumption) (by rfl) ?_
      refine j_iload_n (pc := 18) dX2_target_18 rfl ?_
      refine j_bipush (pc := 19) dX2_target_19 (v := 8) (by decide) ?_
      refine j_imul (pc := 21) dX2_target_21 ?_
      refine j_iload_n (pc := 22) dX2_target_22 rfl ?_
      refine j_iadd (pc := 23) dX2_target_23 ?_
      refine j_iald (pc := 24) dX2_target_24 (by first | rfl | with_reducible assumption) (by obtain ⟨i, j, h1, h2, -, -, h3, -⟩ := i_se q1 q8; rw [h3]; exact vp_in_nI (by omega) (by decide)) ?_
      refine j_goto (pc := 25) (tgt := 30) dX2_target_25 rfl ?_
      refine j_iret (pc := 30) dX2_target_30 ?_
      refine ⟨rfl, ?_⟩
      first | exact Or.inl ⟨q1, q8, rfl⟩ | exact Or.inr ⟨fun q => q1 q.1, rfl⟩ | exact Or.inr ⟨fun q => q8 q.2, rfl⟩
    · refine j_if_eq (pc := 11) (tgt := 28) dX2_target_11 rfl (fun _ => ?_) (fun h => absurd h (by decide))
      refine j_bipush (pc := 28) dX2_target_28 (v := (-9)) (by decide) ?_
      refine j_iret (pc := 30) dX2_target_30 ?_
      refine ⟨rfl, ?_⟩
      first | exact Or.inl ⟨q1, q8, rfl⟩ | exact Or.inr ⟨fun q => q1 q.1, rfl⟩ | exact Or.inr ⟨fun q => q8 q.2, rfl⟩
  · refine j_if_eq (pc := 4) (tgt := 28) dX2_target_4 rfl (fun _ => ?_) (fun h => absurd h (by decide))
    refine j_bipush (pc := 28) dX2_target_28 (v := (-9)) (by decide) ?_
    refine j_iret (pc := 30) dX2_target_30 ?_
    refine ⟨rfl, ?_⟩
    first | exact Or.inl ⟨q1, q8, rfl⟩ | exact Or.inr ⟨fun q => q1 q.1, rfl⟩ | exact Or.inr ⟨fun q => q8 q.2, rfl⟩
theorem c_X2_missingSet {a : Nat} (hM : IsM a) {s : Nat} (hs : s < 6) (σ : Mm) : EV Γ1 1 yX2_missingSet cX2_missingSet 2 (some .int) [.inr a, .inl (nI s)] σ (vz (σ a 3 &&& (σ (a + 2) s ^^^ (-1))) σ) := by
  obtain ⟨g0, g1, g2⟩ := hM
  refine EV.intro (by decide +kernel) (Nat.le_of_ble_eq_true rfl) ?_
  refine j_iload_n (pc := 0) dX2_missingSet_0 rfl ?_
  refine j_callSNi (pc := 1) dX2_missingSet_1 k_X2_40 (c_X7_isState _ _) rfl (by decide) rfl (Nat.le_of_ble_eq_true rfl) (fun r σ1 hp => ?_)
  obtain ⟨rfl, hp⟩ := hp
  rcases hp with ⟨q1, rfl⟩ | ⟨q1, rfl⟩
  · refine j_if_eq (pc := 4) (tgt := 23) dX2_missingSet_4 rfl (fun h => absurd h (by decide)) (fun _ => ?_)
    refine j_aload_n (pc := 7) dX2_missingSet_7 rfl ?_
    refine j_getI (pc := 8) dX2_missingSet_8 f_X2_22 (by first | rfl | with_reducible assumption) (by rfl) ?_
    refine j_aload_n (pc := 11) dX2_missingSet_11 rfl ?_
    refine j_getR (pc := 12) dX2_missingSet_12 f_X2_15 (by first | rfl | with_reducible assumption) (by rfl) ?_
    refine j_iload_n (pc := 15) dX2_missingSet_15 rfl ?_
    refine j_iald (pc := 16) dX2_missingSet_16 (by first | rfl | with_reducible assumption) q1 ?_
    refine j_iconst (pc := 17) dX2_missingSet_17 (v := (-1)) (by decide) ?_
    refine j_ixor (pc := 18) dX2_missingSet_18 ?_
    refine j_iand (pc := 19) dX2_missingSet_19 ?_
    refine j_goto (pc := 20) (tgt := 24) dX2_missingSet_20 rfl ?_
    refine j_iret (pc := 24) dX2_missingSet_24 ?_
    first | exact absurd (vp_in_nI hs (by decide)) q1 | exact ⟨rfl, by rw [nI_clamp (by omega)]⟩
  · refine j_if_eq (pc := 4) (tgt := 23) dX2_missingSet_4 rfl (fun _ => ?_) (fun h => absurd h (by decide))
    refine j_iconst (pc := 23) dX2_missingSet_23 (v := 0) (by decide) ?_
    refine j_iret (pc := 24) dX2_missingSet_24 ?_
    first | exact absurd (vp_in_nI hs (by decide)) q1 | exact ⟨rfl, by rw [nI_clamp (by omega)]⟩
theorem c_X2_tellEvent {a : Nat} (hM : IsM a) (t : Int32) {σ : Mm} {v : MV} (hv : HM σ a v) : EV Γ1 1 yX2_tellEvent cX2_tellEvent 2 (some .boolean) [.inr a, .inl t] σ (fun r σ' => FrM a σ σ' ∧ ((r = 1 ∧ ∃ v', tellE v t = some v' ∧ HM σ' a v') ∨ (r = 0 ∧ tellE v t = none))) := by
  obtain ⟨g0, g1, g2⟩ := hM
  refine EV.intro (by decide +kernel) (Nat.le_of_ble_eq_true rfl) ?_
  refine j_iload_n (pc := 0) dX2_tellEvent_0 rfl ?_
  refine j_callSNi (pc := 1) dX2_tellEvent_1 k_X2_44 (c_X7_isEvent _ _) rfl (by decide) rfl (Nat.le_of_ble_eq_true rfl) (fun r σ1 hp => ?_)
  obtain ⟨rfl, hp⟩ := hp
  rcases hp with ⟨q1, rfl⟩ | ⟨q1, rfl⟩
  · refine j_if_ne (pc := 4) (tgt := 9) dX2_tellEvent_4 rfl (fun _ => ?_) (fun h => absurd h (by decide))
    refine j_aload_n (pc := 9) dX2_tellEvent_9 rfl ?_
    refine j_dup (pc := 10) dX2_tellEvent_10 ?_
    refine j_getI (pc := 11) dX2_tellEvent_11 f_X2_22 (by first | rfl | with_reducible assumption) (by rfl) ?_
    refine j_iconst (pc := 14) dX2_tellEvent_14 (v := 1) (by decide) ?_
    refine j_iload_n (pc := 15) dX2_tellEvent_15 rfl ?_
    refine j_ishl (pc := 16) dX2_tellEvent_16 ?_
    refine j_ior (pc := 17) dX2_tellEvent_17 ?_
    refine j_put (pc := 18) dX2_tellEvent_18 f_X2_22 (by first | rfl | with_reducible assumption) (by rfl) ?_
    refine j_iconst (pc := 21) dX2_tellEvent_21 (v := 1) (by decide) ?_
    refine j_zret (pc := 22) dX2_tellEvent_22 (Or.inr rfl) ?_
    refine ⟨⟨fun x h0 h1 h2 => by simp [m_up, h0], by simp [m_up, upd]⟩, Or.inl ⟨rfl, _, if_pos (isLet_iff.mpr q1), ?_⟩⟩
    obtain ⟨e1, e2, e3, e4, e5, e6⟩ := hv
    refine ⟨fun x hx => ?_, ?_, ?_, ?_, ?_, fun s hs e he => ?_⟩
    · simpa [m_up] using e1 x hx
    · simp [m_up, upd, bitI, e2]
    · simpa [m_up, upd] using e3
    · simpa [m_up, upd] using e4
    · simpa [m_up, upd] using e5
    · simpa [m_up, upd] using e6 s hs e he
  · refine j_if_ne (pc := 4) (tgt := 9) dX2_tellEvent_4 rfl (fun h => absurd h (by decide)) (fun _ => ?_)
    refine j_iconst (pc := 7) dX2_tellEvent_7 (v := 0) (by decide) ?_
    refine j_zret (pc := 8) dX2_tellEvent_8 (Or.inl rfl) ?_
    exact ⟨FrM.rf, Or.inr ⟨rfl, if_neg (fun q => q1 (isLet_iff.mp q))⟩⟩
theorem c_X2_tellMarked {a : Nat} (hM : IsM a) (t : Int32) {σ : Mm} {v : MV} (hv : HM σ a v) : EV Γ1 1 yX2_tellMarked cX2_tellMarked 2 (some .boolean) [.inr a, .inl t] σ (fun r σ' => FrM a σ σ' ∧ ((r = 1 ∧ ∃ v', tellM v t = some v' ∧ HM σ' a v') ∨ (r = 0 ∧ tellM v t = none))) := by
  obtain ⟨g0, g1, g2⟩ := hM
  refine EV.intro (by decide +kernel) (Nat.le_of_ble_eq_true rfl) ?_
  refine j_iload_n (pc := 0) dX2_tellMarked_0 rfl ?_
  refine j_callSNi (pc := 1) dX2_tellMarked_1 k_X2_40 (c_X7_isState _ _) rfl (by decide) rfl (Nat.le_of_ble_eq_true rfl) (fun r σ1 hp => ?_)
  obtain ⟨rfl, hp⟩ := hp
  rcases hp with ⟨q1, rfl⟩ | ⟨q1, rfl⟩
  · refine j_if_ne (pc := 4) (tgt := 9) dX2_tellMarked_4 rfl (fun _ => ?_) (fun h => absurd h (by decide))
    refine j_aload_n (pc := 9) dX2_tellMarked_9 rfl ?_
    refine j_dup (pc := 10) dX2_tellMarked_10 ?_
    refine j_getI (pc := 11) dX2_tellMarked_11 f_X2_25 (by first | rfl | with_reducible assumption) (by rfl) ?_
    refine j_iconst (pc := 14) dX2_tellMarked_14 (v := 1) (by decide) ?_
    refine j_iload_n (pc := 15) dX2_tellMarked_15 rfl ?_
    refine j_ishl (pc := 16) dX2_tellMarked_16 ?_
    refine j_ior (pc := 17) dX2_tellMarked_17 ?_
    refine j_put (pc := 18) dX2_tellMarked_18 f_X2_25 (by first | rfl | with_reducible assumption) (by rfl) ?_
    refine j_aload_n (pc := 21) dX2_tellMarked_21 rfl ?_
    refine j_aload_n (pc := 22) dX2_tellMarked_22 rfl ?_
    refine j_getI (pc := 23) dX2_tellMarked_23 f_X2_31 (by first | rfl | with_reducible assumption) (by rfl) ?_
    refine j_iload_n (pc := 26) dX2_tellMarked_26 rfl ?_
    refine j_callSi (pc := 27) dX2_tellMarked_27 k_X2_47 (c_max _ _ _) rfl (by decide) rfl (Nat.le_of_ble_eq_true rfl) (fun r σ1 hp => ?_)
    obtain ⟨rfl, rfl⟩ := hp
    refine j_put (pc := 30) dX2_tellMarked_30 f_X2_31 (by first | rfl | with_reducible assumption) (by rfl) ?_
    refine j_iconst (pc := 33) dX2_tellMarked_33 (v := 1) (by decide) ?_
    refine j_zret (pc := 34) dX2_tellMarked_34 (Or.inr rfl) ?_
    refine ⟨⟨fun x h0 h1 h2 => by simp [m_up, h0], by simp [m_up, upd]⟩, Or.inl ⟨rfl, _, if_pos (isFig_iff.mpr q1), ?_⟩⟩
    obtain ⟨e1, e2, e3, e4, e5, e6⟩ := hv
    refine ⟨fun x hx => ?_, ?_, ?_, ?_, ?_, fun s hs e he => ?_⟩
    · simpa [m_up] using e1 x hx
    · simpa [m_up, upd] using e2
    · simp [m_up, upd, bitI, e3]
    · simpa [m_up, upd] using e4
    · simp [m_up, upd, e5]
    · simpa [m_up, upd] using e6 s hs e he
  · refine j_if_ne (pc := 4) (tgt := 9) dX2_tellMarked_4 rfl (fun h => absurd h (by decide)) (fun _ => ?_)
    refine j_iconst (pc := 7) dX2_tellMarked_7 (v := 0) (by decide) ?_
    refine j_zret (pc := 8) dX2_tellMarked_8 (Or.inl rfl) ?_
    exact ⟨FrM.rf, Or.inr ⟨rfl, if_neg (fun q => q1 (isFig_iff.mp q))⟩⟩
theorem c_X2_tellStep {a : Nat} (hM : IsM a) {s e : Int32} (hs : vp_in s 6) (he : vp_in e 8) (t : Int32) {σ : Mm} {v : MV} (hv : HM σ a v) : EV Γ1 1 yX2_tellStep cX2_tellStep 5 (some .boolean) [.inr a, .inl s, .inl e, .inl t] σ (fun r σ' => FrM a σ σ' ∧ ((r = 1 ∧ ∃ v', tellS v s e t = some v' ∧ HM σ' a v') ∨ (r = 0 ∧ tellS v s e t = none))) := by
  obtain ⟨g0, g1, g2⟩ := hM
  obtain ⟨i, j, hi, hj, hsi, hej, hx, hc⟩ := i_se hs he
  have hin : vp_in (s * 8 + e) 48 := by rw [hx]; exact vp_in_nI (by omega) (by decide)
  have hb : σ (a + 1) (s * 8 + e).toNatClampNeg = v.1 (s * 8 + e).toNatClampNeg := by rw [hc]; exact hv.1 _ (by omega)
  refine EV.intro (by decide +kernel) (Nat.le_of_ble_eq_true rfl) ?_
  refine j_iload_n (pc := 0) dX2_tellStep_0 rfl ?_
  refine j_callSNi (pc := 1) dX2_tellStep_1 k_X2_40 (c_X7_isState _ _) rfl (by decide) rfl (Nat.le_of_ble_eq_true rfl) (fun r σ1 hp => ?_)
  obtain ⟨rfl, hp⟩ := hp
  rcases hp with ⟨q1, rfl⟩ | ⟨q1, rfl⟩
  · refine j_if_eq (pc := 4) (tgt := 21) dX2_tellStep_4 rfl (fun h => absurd h (by decide)) (fun _ => ?_)
    refine j_iload_n (pc := 7) dX2_tellStep_7 rfl ?_
    refine j_callSNi (pc := 8) dX2_tellStep_8 k_X2_44 (c_X7_isEvent _ _) rfl (by decide) rfl (Nat.le_of_ble_eq_true rfl) (fun r σ1 hp => ?_)
    obtain ⟨rfl, hp⟩ := hp
    rcases hp with ⟨q8, rfl⟩ | ⟨q8, rfl⟩
    · refine j_if_eq (pc := 11) (tgt := 21) dX2_tellStep_11 rfl (fun h => absurd h (by decide)) (fun _ => ?_)
      refine j_iload_n (pc := 14) dX2_tellStep_14 rfl ?_
      refine j_callSNi (pc := 15) dX2_tellStep_15 k_X2_40 (c_X7_isState _ _) rfl (by decide) rfl (Nat.le_of_ble_eq_true rfl) (fun r σ1 hp => ?_)
      obtain ⟨rfl, hp⟩ := hp
      rcases hp with ⟨q15, rfl⟩ | ⟨q15, rfl⟩
      · refine j_if_ne (pc := 18) (tgt := 23) dX2_tellStep_18 rfl (fun _ => ?_) (fun h => absurd h (by decide))
        refine j_aload_n (pc := 23) dX2_tellStep_23 rfl ?_
        refine j_getR (pc := 24) dX2_tellStep_24 f_X2_9 (by first | rfl | with_reducible assumption) (by rfl) ?_
        refine j_iload_n (pc := 27) dX2_tellStep_27 rfl ?_
        refine j_bipush (pc := 28) dX2_tellStep_28 (v := 8) (by decide) ?_
        refine j_imul (pc := 30) dX2_tellStep_30 ?_
        refine j_iload_n (pc := 31) dX2_tellStep_31 rfl ?_
        refine j_iadd (pc := 32) dX2_tellStep_32 ?_
        refine j_iald (pc := 33) dX2_tellStep_33 (by first | rfl | with_reducible assumption) hin ?_
        refine j_istore (pc := 34) dX2_tellStep_34 (by decide) ?_
        refine j_iload (pc := 36) dX2_tellStep_36 rfl ?_
        refine j_bipush (pc := 38) dX2_tellStep_38 (v := (-9)) (by decide) ?_
        refine j_icmp_eq (pc := 40) (tgt := 55) dX2_tellStep_40 rfl (fun h40 => ?_) (fun h40 => ?_)
        · refine j_aload_n (pc := 55) dX2_tellStep_55 rfl ?_
          refine j_getR (pc := 56) dX2_tellStep_56 f_X2_9 (by first | rfl | with_reducible assumption) (by rfl) ?_
          refine j_iload_n (pc := 59) dX2_tellStep_59 rfl ?_
          refine j_bipush (pc := 60) dX2_tellStep_60 (v := 8) (by decide) ?_
          refine j_imul (pc := 62) dX2_tellStep_62 ?_
          refine j_iload_n (pc := 63) dX2_tellStep_63 rfl ?_
          refine j_iadd (pc := 64) dX2_tellStep_64 ?_
          refine j_iload_n (pc := 65) dX2_tellStep_65 rfl ?_
          refine j_iast (pc := 66) dX2_tellStep_66 (by first | rfl | with_reducible assumption) hin ?_
          refine j_aload_n (pc := 67) dX2_tellStep_67 rfl ?_
          refine j_getR (pc := 68) dX2_tellStep_68 f_X2_15 (by first | rfl | with_reducible assumption) (by rfl) ?_
          refine j_iload_n (pc := 71) dX2_tellStep_71 rfl ?_
          refine j_dup2 (pc := 72) dX2_tellStep_72 ?_
          refine j_iald (pc := 73) dX2_tellStep_73 (by first | rfl | with_reducible assumption) hs ?_
          refine j_iconst (pc := 74) dX2_tellStep_74 (v := 1) (by decide) ?_
          refine j_iload_n (pc := 75) dX2_tellStep_75 rfl ?_
          refine j_ishl (pc := 76) dX2_tellStep_76 ?_
          refine j_ior (pc := 77) dX2_tellStep_77 ?_
          refine j_iast (pc := 78) dX2_tellStep_78 (by first | rfl | with_reducible assumption) hs ?_
          refine j_aload_n (pc := 79) dX2_tellStep_79 rfl ?_
          refine j_dup (pc := 80) dX2_tellStep_80 ?_
          refine j_getI (pc := 81) dX2_tellStep_81 f_X2_22 (by first | rfl | with_reducible assumption) (by rfl) ?_
          refine j_iconst (pc := 84) dX2_tellStep_84 (v := 1) (by decide) ?_
          refine j_iload_n (pc := 85) dX2_tellStep_85 rfl ?_
          refine j_ishl (pc := 86) dX2_tellStep_86 ?_
          refine j_ior (pc := 87) dX2_tellStep_87 ?_
          refine j_put (pc := 88) dX2_tellStep_88 f_X2_22 (by first | rfl | with_reducible assumption) (by rfl) ?_
          refine j_aload_n (pc := 91) dX2_tellStep_91 rfl ?_
          refine j_dup (pc := 92) dX2_tellStep_92 ?_
          refine j_getI (pc := 93) dX2_tellStep_93 f_X2_28 (by first | rfl | with_reducible assumption) (by rfl) ?_
          refine j_iconst (pc := 96) dX2_tellStep_96 (v := 1) (by decide) ?_
          refine j_iadd (pc := 97) dX2_tellStep_97 ?_
          refine j_put (pc := 98) dX2_tellStep_98 f_X2_28 (by first | rfl | with_reducible assumption) (by rfl) ?_
          refine j_aload_n (pc := 101) dX2_tellStep_101 rfl ?_
          refine j_aload_n (pc := 102) dX2_tellStep_102 rfl ?_
          refine j_getI (pc := 103) dX2_tellStep_103 f_X2_31 (by first | rfl | with_reducible assumption) (by rfl) ?_
          refine j_iload_n (pc := 106) dX2_tellStep_106 rfl ?_
          refine j_iload_n (pc := 107) dX2_tellStep_107 rfl ?_
          refine j_callSi (pc := 108) dX2_tellStep_108 k_X2_47 (c_max _ _ _) rfl (by decide) rfl (Nat.le_of_ble_eq_true rfl) (fun r σ1 hp => ?_)
          obtain ⟨rfl, rfl⟩ := hp
          refine j_callSi (pc := 111) dX2_tellStep_111 k_X2_47 (c_max _ _ _) rfl (by decide) rfl (Nat.le_of_ble_eq_true rfl) (fun r σ1 hp => ?_)
          obtain ⟨rfl, rfl⟩ := hp
          refine j_put (pc := 114) dX2_tellStep_114 f_X2_31 (by first | rfl | with_reducible assumption) (by rfl) ?_
          refine j_iconst (pc := 117) dX2_tellStep_117 (v := 1) (by decide) ?_
          refine j_zret (pc := 118) dX2_tellStep_118 (Or.inr rfl) ?_
          rw [hb] at h40
          refine ⟨⟨fun x h0 h1 h2 => by simp [m_up, h0, h1, h2], by simp [m_up, upd]⟩, Or.inl ⟨rfl, _, by rw [tellS, if_pos (isFig_iff.mpr q15), if_pos h40], ?_⟩⟩
          obtain ⟨e1, e2, e3, e4, e5, e6⟩ := hv
          refine ⟨fun x hx => ?_, ?_, ?_, ?_, ?_, fun s1 hs1 e1' he1 => ?_⟩
          · by_cases hxe : x = (s * 8 + e).toNatClampNeg
            · subst hxe; simp [m_up, upd]
            · simpa [m_up, upd, hxe] using e1 x hx
          · simp [m_up, upd, bitI, e2]
          · simpa [m_up, upd] using e3
          · simp [m_up, upd, e4]
          · simp [m_up, upd, e5]
          · subst hsi; subst hej
            have hti : t ≠ -9 := fun q => by subst q; exact absurd q15 (by (simp only [Int32.lt_iff_toInt_lt, Int32.le_iff_toInt_le, ← Int32.toInt_inj, vp_in_iff, ti_0, ti_1, ti_2, ti_3, ti_4, ti_5, ti_6, ti_7, ti_8, ti_16, ti_48, ti_53, ti_60, ti_97, ti_104, ti_127, ti_149, ti_150, ti_151, ti_256, ti_1200, ti_m1, ti_m2, ti_m3, ti_m4, ti_m9] at *; omega))
            have ec : (nI i).toNatClampNeg = i := nI_clamp (by omega)
            rw [hc]
            by_cases hs2 : s1 = i
            · subst hs2
              have hrow := e6 s1 hs1 e1' he1
              simp only [m_up, upd, ec, if_true, Nat.add_left_cancel_iff, b_or, b_bit j (by omega) he1, hrow]
              by_cases h8 : e1' = j
              · subst h8; simp [m_up, upd, b_or, b_bit _ (by omega : e1' < 32) he1, hti, hj]
              · simp [m_up, upd, b_or, b_bit j (by omega) he1, h8, hrow]
            · have h9 : ¬ 8 * s1 + e1' = 8 * i + j ∨ ¬ e1' < 8 := by omega
              have hrow := e6 s1 hs1 e1' he1
              rcases h9 with h9 | h9
              · simp [m_up, upd, ec, hs2, hrow, h9]
              · simp [m_up, upd, ec, hs2, hrow, h9]
        · refine j_iload (pc := 43) dX2_tellStep_43 rfl ?_
          refine j_iload_n (pc := 45) dX2_tellStep_45 rfl ?_
          refine j_icmp_ne (pc := 46) (tgt := 53) dX2_tellStep_46 rfl (fun h46 => ?_) (fun h46 => ?_)
          · refine j_iconst (pc := 53) dX2_tellStep_53 (v := 0) (by decide) ?_
            refine j_zret (pc := 54) dX2_tellStep_54 (Or.inl rfl) ?_
            rw [hb] at h40 h46
            refine ⟨FrM.rf, ?_⟩
            first | exact Or.inl ⟨rfl, v, by rw [tellS, if_pos (isFig_iff.mpr q15), if_neg h40, if_pos h46], hv⟩ | exact Or.inr ⟨rfl, by rw [tellS, if_pos (isFig_iff.mpr q15), if_neg h40, if_neg h46]⟩
          · refine j_iconst (pc := 49) dX2_tellStep_49 (v := 1) (by decide) ?_
            refine j_goto (pc := 50) (tgt := 54) dX2_tellStep_50 rfl ?_
            refine j_zret (pc := 54) dX2_tellStep_54 (Or.inr rfl) ?_
            rw [hb] at h40 h46
            refine ⟨FrM.rf, ?_⟩
            first | exact Or.inl ⟨rfl, v, by rw [tellS, if_pos (isFig_iff.mpr q15), if_neg h40, if_pos h46], hv⟩ | exact Or.inr ⟨rfl, by rw [tellS, if_pos (isFig_iff.mpr q15), if_neg h40, if_neg h46]⟩
      · refine j_if_ne (pc := 18) (tgt := 23) dX2_tellStep_18 rfl (fun h => absurd h (by decide)) (fun _ => ?_)
        refine j_iconst (pc := 21) dX2_tellStep_21 (v := 0) (by decide) ?_
        refine j_zret (pc := 22) dX2_tellStep_22 (Or.inl rfl) ?_
        exact ⟨FrM.rf, Or.inr ⟨rfl, if_neg (fun q => q15 (isFig_iff.mp q))⟩⟩
    · exact absurd he q8
      skip
  · exact absurd hs q1
    skip
