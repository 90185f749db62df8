/-! NET.nearerBy, NET.eventToFinish -/
def inR (J : Nat) (v : Int32) : Bool := decide (0 ≤ v.toInt ∧ v.toInt < J)
theorem inR_iff {J : Nat} {v : Int32} : inR J v = true ↔ vp_in v J := by simp [inR, vp_in_iff]
theorem inR_nI {J i : Nat} (h : i < J) (hJ : J < 2 ^ 31) : inR J (nI i) = true := inR_iff.mpr (vp_in_nI h hJ)
theorem inR_9 (J : Nat) : inR J (-9) = false := by
  unfold inR
  rw [ti_m9]
  simp
/-- a row at a number: NONE outside -/
def fo (J : Nat) (F : Nat → Int32) (v : Int32) : Int32 := if inR J v = true then F v.toNatClampNeg else -9
def nr (J : Nat) (F tg : Nat → Int32) (v : Int32) : Int32 := if 0 < fo J F v then lstE (fun e => decide (fo J F (tg (8 * v.toNatClampNeg + e)) = fo J F v - 1)) else -9
def tgo (J : Nat) (tg : Nat → Int32) (v e : Int32) : Int32 := if inR J v = true ∧ inR 8 e = true then tg (8 * v.toNatClampNeg + e.toNatClampNeg) else -9
def itr (f : Int32 → Int32) : Nat → Int32 → Int32
  | 0, v => v
  | k + 1, v => f (itr f k v)
def stpN (J : Nat) (F tg : Nat → Int32) (v : Int32) : Int32 := tgo J tg v (nr J F tg v)
theorem fo_nI {J i : Nat} {F : Nat → Int32} (h : i < J) (hJ : J < 2 ^ 31) : fo J F (nI i) = F i := by
  unfold fo
  rw [if_pos (inR_nI h hJ), nI_clamp (by omega)]
theorem nr_out {J : Nat} {F tg : Nat → Int32} {v : Int32} (h : ¬ inR J v = true) : nr J F tg v = -9 := by
  unfold nr
  have : fo J F v = -9 := if_neg h
  rw [this]
  exact if_neg (by decide)
theorem itr_out {J : Nat} {F tg : Nat → Int32} {v : Int32} {i : Nat} (h : ¬ inR J (itr (stpN J F tg) i v) = true) : ∀ k, i ≤ k → ¬ inR J (itr (stpN J F tg) k v) = true := by
  intro k hk
  induction hk with
  | refl => exact h
  | step _ ih =>
    have : itr (stpN J F tg) (_ + 1) v = -9 := if_neg (fun q => ih q.1)
    rw [this, inR_9]
    decide
theorem c_farOf' {b : Nat} (hb : IsN b) (n : Int32) {σ : Mm} {J : Nat} (hJ : σ b 13 = nI J) (hJ2 : J ≤ 150) : EV Γ1 1 yX3_farOf cX3_farOf 2 (some .int) [.inr b, .inl n] σ (vz (fo J (σ (b + 9)) n) σ) := by
  intro l D t ρ sz
  refine EV.mono (fun r σ' h => ?_) (c_X3_farOf hb n hJ hJ2) l D t ρ sz
  obtain ⟨h1, ⟨i, h2, rfl, rfl⟩ | ⟨h2, rfl⟩⟩ := h
  · exact ⟨h1, (fo_nI h2 (by omega)).symm⟩
  · exact ⟨h1, (if_neg (fun q => h2 (inR_iff.mp q))).symm⟩
theorem c_target' {b : Nat} (hb : IsN b) (n e : Int32) {σ : Mm} {J : Nat} (hJ : σ b 13 = nI J) (hJ2 : J ≤ 150) {tg : Nat → Int32} (ht : ∀ y, y < 8 * J → σ (b + 5) y = tg y) : EV Γ1 1 yX3_target cX3_target 3 (some .int) [.inr b, .inl n, .inl e] σ (vz (tgo J tg n e) σ) := by
  intro l D t ρ sz
  refine EV.mono (fun r σ' h => ?_) (c_X3_target hb n e hJ hJ2) l D t ρ sz
  obtain ⟨h1, ⟨i, j, h2, h3, rfl, rfl, rfl⟩ | ⟨h2, rfl⟩⟩ := h
  · refine ⟨h1, ?_⟩
    unfold tgo
    rw [if_pos ⟨inR_nI h2 (by omega), inR_nI h3 (by decide)⟩, nI_clamp (by omega), nI_clamp (by omega), ht _ (by omega)]
  · exact ⟨h1, (if_neg (fun q => h2 ⟨inR_iff.mp q.1, inR_iff.mp q.2⟩)).symm⟩
theorem c_X3_nearerBy {b : Nat} (hb : IsN b) (n : Int32) {σ : Mm} {J : Nat} (hJ : σ b 13 = nI J) (hJ2 : J ≤ 150) {tg : Nat → Int32} (ht : ∀ y, y < 8 * J → σ (b + 5) y = tg y) : EV Γ1 2 yX3_nearerBy cX3_nearerBy 3 (some .int) [.inr b, .inl n] σ (vz (nr J (σ (b + 9)) tg n) σ) := by
  have g0 := hb.1
  have loop : 0 < fo J (σ (b + 9)) n → ∀ (k e : Nat), e + k = 8 → (∀ j, j < e → decide (fo J (σ (b + 9)) (tg (8 * n.toNatClampNeg + j)) = fo J (σ (b + 9)) n - 1) = false) → AJ Γ1 2 RX3 cX3_nearerBy 3 (some .int) (vz (nr J (σ (b + 9)) tg n) σ) 10 [some (.inr b), some (.inl n), some (.inl (nI e))] [] σ := by
    intro h0
    have hin : inR J n = true := by
      apply Classical.byContradiction
      intro q
      have : fo J (σ (b + 9)) n = -9 := if_neg q
      rw [this] at h0
      exact absurd h0 (by decide)
    intro k
    induction k with
    | zero =>
      intro e he hj
      obtain rfl : e = 8 := by omega
      refine j_iload_n (pc := 10) dX3_nearerBy_10 rfl ?_
      refine j_bipush (pc := 11) dX3_nearerBy_11 (v := 8) (by decide) ?_
      refine j_icmp_ge (pc := 13) (tgt := 44) dX3_nearerBy_13 rfl (fun h13 => ?_) (fun h13 => absurd (by decide) h13)
      refine j_bipush (pc := 44) dX3_nearerBy_44 (v := (-9)) (by decide) ?_
      refine j_iret (pc := 46) dX3_nearerBy_46 ?_
      exact ⟨rfl, by unfold nr; rw [if_pos h0, lst_none hj]⟩
    | succ k ih =>
      intro e he hj
      have het : tgo J tg n (nI e) = tg (8 * n.toNatClampNeg + e) := by
        unfold tgo
        rw [if_pos ⟨hin, inR_nI (by omega) (by decide)⟩, nI_clamp (by omega)]
      refine j_iload_n (pc := 10) dX3_nearerBy_10 rfl ?_
      refine j_bipush (pc := 11) dX3_nearerBy_11 (v := 8) (by decide) ?_
      refine j_icmp_ge (pc := 13) (tgt := 44) dX3_nearerBy_13 rfl (fun h13 => absurd h13 (nI_ge (b := 8) (by omega) (by decide))) (fun h13 => ?_)
      refine j_aload_n (pc := 16) dX3_nearerBy_16 rfl ?_
      refine j_aload_n (pc := 17) dX3_nearerBy_17 rfl ?_
      refine j_iload_n (pc := 18) dX3_nearerBy_18 rfl ?_
      refine j_iload_n (pc := 19) dX3_nearerBy_19 rfl ?_
      refine j_callVi (pc := 20) dX3_nearerBy_20 k_X3_135 (c_target' hb _ _ hJ hJ2 ht) (by first | rfl | with_reducible assumption) rfl rfl (by decide) rfl (Nat.le_of_ble_eq_true rfl) (fun r σ1 hp => ?_)
      obtain ⟨rfl, rfl⟩ := hp
      refine j_top het ?_
      refine j_callVi (pc := 23) dX3_nearerBy_23 k_X3_136 (c_farOf' hb _ hJ hJ2) (by first | rfl | with_reducible assumption) rfl rfl (by decide) rfl (Nat.le_of_ble_eq_true rfl) (fun r σ1 hp => ?_)
      obtain ⟨rfl, rfl⟩ := hp
      refine j_aload_n (pc := 26) dX3_nearerBy_26 rfl ?_
      refine j_iload_n (pc := 27) dX3_nearerBy_27 rfl ?_
      refine j_callVi (pc := 28) dX3_nearerBy_28 k_X3_136 (c_farOf' hb _ hJ hJ2) (by first | rfl | with_reducible assumption) rfl rfl (by decide) rfl (Nat.le_of_ble_eq_true rfl) (fun r σ1 hp => ?_)
      obtain ⟨rfl, rfl⟩ := hp
      refine j_iconst (pc := 31) dX3_nearerBy_31 (v := 1) (by decide) ?_
      refine j_isub (pc := 32) dX3_nearerBy_32 ?_
      refine j_icmp_ne (pc := 33) (tgt := 38) dX3_nearerBy_33 rfl (fun h33 => ?_) (fun h33 => ?_)
      · refine j_iinc1 (pc := 38) dX3_nearerBy_38 rfl ?_
        refine j_goto (pc := 41) (tgt := 10) dX3_nearerBy_41 rfl ?_
        rw [nI_1]
        refine ih (e + 1) (by omega) (fun j hj2 => ?_)
        by_cases q : j = e
        · subst q; exact decide_eq_false h33
        · exact hj j (by omega)
      · refine j_iload_n (pc := 36) dX3_nearerBy_36 rfl ?_
        refine j_iret (pc := 37) dX3_nearerBy_37 ?_
        exact ⟨rfl, by unfold nr; rw [if_pos h0, lst_hit (by omega) (decide_eq_true h33) hj]⟩
  refine EV.intro (by decide +kernel) (Nat.le_of_ble_eq_true rfl) ?_
  refine j_aload_n (pc := 0) dX3_nearerBy_0 rfl ?_
  refine j_iload_n (pc := 1) dX3_nearerBy_1 rfl ?_
  refine j_callVi (pc := 2) dX3_nearerBy_2 k_X3_136 (c_farOf' hb _ hJ hJ2) (by first | rfl | with_reducible assumption) rfl rfl (by decide) rfl (Nat.le_of_ble_eq_true rfl) (fun r σ1 hp => ?_)
  obtain ⟨rfl, rfl⟩ := hp
  refine j_if_le (pc := 5) (tgt := 44) dX3_nearerBy_5 rfl (fun h5 => ?_) (fun h5 => ?_)
  · refine j_bipush (pc := 44) dX3_nearerBy_44 (v := (-9)) (by decide) ?_
    refine j_iret (pc := 46) dX3_nearerBy_46 ?_
    exact ⟨rfl, by unfold nr; rw [if_neg (fun q => absurd h5 (by (simp only [Int32.lt_iff_toInt_lt, Int32.le_iff_toInt_le, ← Int32.toInt_inj, vp_in_iff, ti_0, ti_1, ti_2, ti_3, ti_4, ti_5, ti_6, ti_7, ti_8, ti_16, ti_48, ti_53, ti_60, ti_97, ti_104, ti_127, ti_149, ti_150, ti_151, ti_256, ti_1200, ti_m1, ti_m2, ti_m3, ti_m4, ti_m9] at *; omega)))]⟩
  · refine j_iconst (pc := 8) dX3_nearerBy_8 (v := 0) (by decide) ?_
    refine j_istore_n (pc := 9) dX3_nearerBy_9 (by decide) ?_
    exact loop (by (simp only [Int32.lt_iff_toInt_lt, Int32.le_iff_toInt_le, ← Int32.toInt_inj, vp_in_iff, ti_0, ti_1, ti_2, ti_3, ti_4, ti_5, ti_6, ti_7, ti_8, ti_16, ti_48, ti_53, ti_60, ti_97, ti_104, ti_127, ti_149, ti_150, ti_151, ti_256, ti_1200, ti_m1, ti_m2, ti_m3, ti_m4, ti_m9] at *; omega)) 8 0 rfl (fun j h => absurd h (Nat.not_lt_zero _))
theorem c_X3_eventToFinish {b : Nat} (hb : IsN b) (n : Int32) {k : Nat} (hk : k < 150) {σ : Mm} {J : Nat} (hJ : σ b 13 = nI J) (hJ2 : J ≤ 150) {tg : Nat → Int32} (ht : ∀ y, y < 8 * J → σ (b + 5) y = tg y) : EV Γ1 3 yX3_eventToFinish cX3_eventToFinish 5 (some .int) [.inr b, .inl n, .inl (nI k)] σ (vz (nr J (σ (b + 9)) tg (itr (stpN J (σ (b + 9)) tg) k n)) σ) := by
  have g0 := hb.1
  have loop : ∀ (q i : Nat), i + q = k → AJ Γ1 3 RX3 cX3_eventToFinish 5 (some .int) (vz (nr J (σ (b + 9)) tg (itr (stpN J (σ (b + 9)) tg) k n)) σ) 5 [some (.inr b), some (.inl n), some (.inl (nI k)), some (.inl (itr (stpN J (σ (b + 9)) tg) i n)), some (.inl (nI i))] [] σ := by
    intro q
    induction q with
    | zero =>
      intro i hi
      obtain rfl : i = k := by omega
      refine j_iload (pc := 5) dX3_eventToFinish_5 rfl ?_
      refine j_iload_n (pc := 7) dX3_eventToFinish_7 rfl ?_
      refine j_icmp_ge (pc := 8) (tgt := 36) dX3_eventToFinish_8 rfl (fun h8 => ?_) (fun h8 => absurd (Int32.le_refl _) h8)
      refine j_aload_n (pc := 36) dX3_eventToFinish_36 rfl ?_
      refine j_iload_n (pc := 37) dX3_eventToFinish_37 rfl ?_
      refine j_callVi (pc := 38) dX3_eventToFinish_38 k_X3_132 (c_X3_nearerBy hb _ hJ hJ2 ht) (by first | rfl | with_reducible assumption) rfl rfl (by decide) rfl (Nat.le_of_ble_eq_true rfl) (fun r σ1 hp => ?_)
      obtain ⟨rfl, rfl⟩ := hp
      refine j_iret (pc := 41) dX3_eventToFinish_41 ?_
      exact ⟨rfl, rfl⟩
    | succ q ih =>
      intro i hi
      refine j_iload (pc := 5) dX3_eventToFinish_5 rfl ?_
      refine j_iload_n (pc := 7) dX3_eventToFinish_7 rfl ?_
      refine j_icmp_ge (pc := 8) (tgt := 36) dX3_eventToFinish_8 rfl (fun h8 => absurd h8 (nI_ge (by omega) (by omega))) (fun h8 => ?_)
      refine j_aload_n (pc := 11) dX3_eventToFinish_11 rfl ?_
      refine j_iload_n (pc := 12) dX3_eventToFinish_12 rfl ?_
      refine j_callVi (pc := 13) dX3_eventToFinish_13 k_X3_107 (c_X3_has hb _ hJ hJ2) (by first | rfl | with_reducible assumption) rfl rfl (by decide) rfl (Nat.le_of_ble_eq_true rfl) (fun r σ1 hp => ?_)
      obtain ⟨rfl, hp⟩ := hp
      rcases hp with ⟨q13, rfl⟩ | ⟨q13, rfl⟩
      · refine j_if_eq (pc := 16) (tgt := 36) dX3_eventToFinish_16 rfl (fun h => absurd h (by decide)) (fun _ => ?_)
        refine j_aload_n (pc := 19) dX3_eventToFinish_19 rfl ?_
        refine j_iload_n (pc := 20) dX3_eventToFinish_20 rfl ?_
        refine j_aload_n (pc := 21) dX3_eventToFinish_21 rfl ?_
        refine j_iload_n (pc := 22) dX3_eventToFinish_22 rfl ?_
        refine j_callVi (pc := 23) dX3_eventToFinish_23 k_X3_132 (c_X3_nearerBy hb _ hJ hJ2 ht) (by first | rfl | with_reducible assumption) rfl rfl (by decide) rfl (Nat.le_of_ble_eq_true rfl) (fun r σ1 hp => ?_)
        obtain ⟨rfl, rfl⟩ := hp
        refine j_callVi (pc := 26) dX3_eventToFinish_26 k_X3_135 (c_target' hb _ _ hJ hJ2 ht) (by first | rfl | with_reducible assumption) rfl rfl (by decide) rfl (Nat.le_of_ble_eq_true rfl) (fun r σ1 hp => ?_)
        obtain ⟨rfl, rfl⟩ := hp
        refine j_istore_n (pc := 29) dX3_eventToFinish_29 (by decide) ?_
        refine j_iinc1 (pc := 30) dX3_eventToFinish_30 rfl ?_
        refine j_goto (pc := 33) (tgt := 5) dX3_eventToFinish_33 rfl ?_
        rw [nI_1]
        exact ih (i + 1) (by omega)
      · refine j_if_eq (pc := 16) (tgt := 36) dX3_eventToFinish_16 rfl (fun _ => ?_) (fun h => absurd h (by decide))
        refine j_aload_n (pc := 36) dX3_eventToFinish_36 rfl ?_
        refine j_iload_n (pc := 37) dX3_eventToFinish_37 rfl ?_
        refine j_callVi (pc := 38) dX3_eventToFinish_38 k_X3_132 (c_X3_nearerBy hb _ hJ hJ2 ht) (by first | rfl | with_reducible assumption) rfl rfl (by decide) rfl (Nat.le_of_ble_eq_true rfl) (fun r σ1 hp => ?_)
        obtain ⟨rfl, rfl⟩ := hp
        refine j_iret (pc := 41) dX3_eventToFinish_41 ?_
        have ho : ¬ inR J (itr (stpN J (σ (b + 9)) tg) i n) = true := fun z => q13 (inR_iff.mp z)
        exact ⟨rfl, by rw [nr_out ho, nr_out (itr_out ho k (by omega))]⟩
  refine EV.intro (by decide +kernel) (Nat.le_of_ble_eq_true rfl) ?_
  refine j_iload_n (pc := 0) dX3_eventToFinish_0 rfl ?_
  refine j_istore_n (pc := 1) dX3_eventToFinish_1 (by decide) ?_
  refine j_iconst (pc := 2) dX3_eventToFinish_2 (v := 0) (by decide) ?_
  refine j_istore (pc := 3) dX3_eventToFinish_3 (by decide) ?_
  exact loop k 0 (by omega)
