/-! NET.meet: the table of slots -/
theorem pigeon : ∀ (n : Nat) (f : Nat → Nat), (∀ i, i ≤ n → f i < n) → ∃ i j, i < j ∧ j ≤ n ∧ f i = f j := by
  intro n
  induction n with
  | zero => intro f h; exact absurd (h 0 (Nat.le_refl _)) (Nat.not_lt_zero _)
  | succ n ih =>
    intro f h
    by_cases hx : ∃ i, i ≤ n ∧ f i = f (n + 1)
    · obtain ⟨i, h1, h2⟩ := hx
      exact ⟨i, n + 1, by omega, Nat.le_refl _, h2⟩
    · have hne : ∀ i, i ≤ n → f i ≠ f (n + 1) := fun i hi q => hx ⟨i, hi, q⟩
      obtain ⟨i, j, h1, h2, h3⟩ := ih (fun i => if f i = n then f (n + 1) else f i) (fun i hi => by
        have a1 := h i (by omega)
        have a2 := h (n + 1) (Nat.le_refl _)
        have a3 := hne i hi
        by_cases hq : f i = n
        · simp only [if_pos hq]; omega
        · simp only [if_neg hq]; omega)
      refine ⟨i, j, h1, by omega, ?_⟩
      have a1 := hne i (by omega)
      have a2 := hne j h2
      by_cases hi : f i = n
      · by_cases hj : f j = n
        · omega
        · rw [if_pos hi, if_neg hj] at h3; exact absurd h3.symm a2
      · by_cases hj : f j = n
        · rw [if_neg hi, if_pos hj] at h3; exact absurd h3 a1
        · rw [if_neg hi, if_neg hj] at h3; exact h3
def hI (code : Int32) : Int32 := ((code * (-1640531535)).toUInt32 >>> ((24 : Int32).toUInt32 &&& Int32.toUInt32 31)).toInt32
def hN (code : Int32) : Nat := (hI code).toNatClampNeg
theorem h_lt (code : Int32) : hI code = nI (hN code) ∧ hN code < 256 := by
  have h := pk_ushr (code * (-1640531535)) 24 24 (by decide)
  have h2 : (hI code).toBitVec.toNat = (code * (-1640531535)).toBitVec.toNat / 2 ^ 24 := h
  have h3 : (hI code).toBitVec.toNat < 256 := by
    rw [h2]
    have := (code * (-1640531535)).toBitVec.isLt
    omega
  have h4 : hI code = nI (hI code).toBitVec.toNat := by
    apply Int32.toBitVec_inj.mp
    show _ = BitVec.ofNat 32 _
    simp
  unfold hN
  generalize (hI code).toBitVec.toNat = k at h3 h4
  rw [h4, nI_clamp (by omega)]
  exact ⟨rfl, h3⟩
def HT (C S : Nat → Int32) (J : Nat) : Prop :=
  (∀ i, i < 256 → S i = -9 ∨ ∃ j, j < J ∧ S i = nI j) ∧
  (∀ j, j < J → ∃ k, k < 256 ∧ S ((hN (C j) + k) % 256) = nI j ∧ ∀ k', k' < k → S ((hN (C j) + k') % 256) ≠ -9) ∧
  (∀ i i' j, i < 256 → i' < 256 → j < J → S i = nI j → S i' = nI j → i = i')
theorem HT.empty (C : Nat → Int32) {S : Nat → Int32} (h : ∀ i, i < 256 → S i = -9) : HT C S 0 := ⟨fun i hi => Or.inl (h i hi), fun j hj => absurd hj (Nat.not_lt_zero _), fun _ _ j _ _ hj => absurd hj (Nat.not_lt_zero _)⟩
theorem HT.free {C S : Nat → Int32} {J : Nat} (h : HT C S J) (hJ : J ≤ 150) : ∃ i, i < 256 ∧ S i = -9 := by
  apply Classical.byContradiction
  intro hn
  have h1 : ∀ i, i < 256 → ∃ j, j < J ∧ S i = nI j := fun i hi => (h.1 i hi).elim (fun q => absurd ⟨i, hi, q⟩ hn) id
  have h2 : ∀ i, i < 256 → (S i).toNatClampNeg < J ∧ S i = nI (S i).toNatClampNeg := fun i hi => by
    obtain ⟨j, a, b⟩ := h1 i hi
    rw [b, nI_clamp (by omega)]
    exact ⟨a, rfl⟩
  obtain ⟨i, j, a1, a2, a3⟩ := pigeon 255 (fun i => (S i).toNatClampNeg) (fun i hi => by have := (h2 i (by omega)).1; omega)
  have := h.2.2 i j _ (by omega) (by omega) (h2 i (by omega)).1 (h2 i (by omega)).2 (by rw [a3]; exact (h2 j (by omega)).2)
  omega
theorem HT.add {C S : Nat → Int32} {J : Nat} {code : Int32} {k : Nat} (h : HT C S J) (hJ : J ≤ 150) (hk : k < 256) (h0 : S ((hN code + k) % 256) = -9) (hb : ∀ k', k' < k → S ((hN code + k') % 256) ≠ -9) : HT (upd C J code) (upd S ((hN code + k) % 256) (nI J)) (J + 1) := by
  have hz : nI J ≠ -9 := nI_z (by omega)
  refine ⟨fun i hi => ?_, fun j hj => ?_, fun i i' j hi hi' hj e1 e2 => ?_⟩
  · by_cases q : i = (hN code + k) % 256
    · right; exact ⟨J, by omega, by rw [q]; exact pk_us⟩
    · rw [pk_un q]
      rcases h.1 i hi with a | ⟨j, a, b⟩
      · exact Or.inl a
      · exact Or.inr ⟨j, by omega, b⟩
  · have keep : ∀ p, S p ≠ -9 → upd S ((hN code + k) % 256) (nI J) p ≠ -9 := fun p hp => by
      by_cases q : p = (hN code + k) % 256
      · rw [q, pk_us]; exact hz
      · rw [pk_un q]; exact hp
    by_cases q : j = J
    · subst q
      rw [pk_us]
      exact ⟨k, hk, pk_us, fun k' hk' => keep _ (hb k' hk')⟩
    · rw [pk_un q]
      obtain ⟨k1, a, b, c⟩ := h.2.1 j (by omega)
      refine ⟨k1, a, ?_, fun k' hk' => keep _ (c k' hk')⟩
      have : (hN (C j) + k1) % 256 ≠ (hN code + k) % 256 := fun e => by
        rw [e, h0] at b
        exact nI_z (by omega) b.symm
      rw [pk_un this]
      exact b
  · by_cases q : i = (hN code + k) % 256
    · by_cases q' : i' = (hN code + k) % 256
      · omega
      · rw [q, pk_us] at e1
        have hj' : J = j := (nI_eq (by omega) (by omega)).mp e1
        subst hj'
        rw [pk_un q'] at e2
        rcases h.1 i' hi' with a | ⟨j1, a, b⟩
        · rw [a] at e2; exact absurd e2.symm hz
        · rw [b] at e2
          have := (nI_eq (by omega) (by omega)).mp e2
          omega
    · rw [pk_un q] at e1
      rcases h.1 i hi with a | ⟨j1, a, b⟩
      · rw [a] at e1; exact absurd e1.symm (nI_z (by omega))
      · have hjj : j1 = j := (nI_eq (by omega) (by omega)).mp (b.symm.trans e1)
        subst hjj
        by_cases q' : i' = (hN code + k) % 256
        · rw [q', pk_us] at e2
          have := (nI_eq (by omega) (by omega)).mp e2
          omega
        · rw [pk_un q'] at e2
          exact h.2.2 i i' j1 hi hi' a e1 e2
/-- meet: the JOINT with this code; a new one; none: it would be one too many -/
def meetP (σ : Mm) (b J : Nat) (code : Int32) : Int32 → Mm → Prop := fun r σ' =>
  (∃ j, j < J ∧ σ (b + 1) j = code ∧ r = nI j ∧ σ' = σ) ∨
  ((∀ j, j < J → σ (b + 1) j ≠ code) ∧ J < 150 ∧ r = nI J ∧ ∃ i, i < 256 ∧ HT (upd (σ (b + 1)) J code) (upd (σ (b + 8)) i (nI J)) (J + 1) ∧ σ' = m_up (m_up (m_up (m_up σ (b + 1) J code) (b + 6) J (-9)) b 13 (nI (J + 1))) (b + 8) i (nI J)) ∨
  ((∀ j, j < J → σ (b + 1) j ≠ code) ∧ J = 150 ∧ r = -9 ∧ σ' = σ)
theorem c_X3_meet {b : Nat} (hb : IsN b) (code : Int32) {σ : Mm} {J : Nat} (hJ : σ b 13 = nI J) (hJ2 : J ≤ 150) (hT : HT (σ (b + 1)) (σ (b + 8)) J) : EV Γ1 2 yX3_meet cX3_meet 5 (some .int) [.inr b, .inl code] σ (meetP σ b J code) := by
  have g0 := hb.1
  have g1 := hb.2.1
  have g8 := hb.2.2.2.2.2.2.2.2.1
  obtain ⟨hh, hl⟩ := h_lt code
  have loop : ∀ (n k : Nat), k + n = 256 → (∀ k', k' < k → ∃ j, j < J ∧ σ (b + 8) ((hN code + k') % 256) = nI j ∧ σ (b + 1) j ≠ code) → ∀ y : Option Vl,
      AJ Γ1 2 RX3 cX3_meet 5 (some .int) (meetP σ b J code) 10 [some (.inr b), some (.inl code), some (.inl (nI ((hN code + k) % 256))), some (.inl (nI k)), y] [] σ := by
    intro n
    induction n with
    | zero =>
      intro k hk hi y
      exfalso
      obtain ⟨i, h1, h2⟩ := hT.free hJ2
      obtain ⟨j, a1, a2, -⟩ := hi ((i + 256 - hN code) % 256) (by omega)
      have e : (hN code + (i + 256 - hN code) % 256) % 256 = i := by omega
      rw [e, h2] at a2
      exact nI_z (by omega) a2.symm
    | succ n ih =>
      intro k hk hi y
      have hp : (hN code + k) % 256 < 256 := Nat.mod_lt _ (by decide)
      have hpc : (nI ((hN code + k) % 256)).toNatClampNeg = (hN code + k) % 256 := nI_clamp (by omega)
      have hvi : vp_in (nI ((hN code + k) % 256)) 256 := vp_in_nI hp (by decide)
      have occ : ∀ k', k' < k → σ (b + 8) ((hN code + k') % 256) ≠ -9 := fun k' h => by
        obtain ⟨j, a1, a2, -⟩ := hi k' h
        rw [a2]
        exact nI_z (by omega)
      refine j_iload_n (pc := 10) dX3_meet_10 rfl ?_
      refine j_sipush (pc := 11) dX3_meet_11 (v := 256) (by decide) ?_
      refine j_icmp_ge (pc := 14) (tgt := 86) dX3_meet_14 rfl (fun h14 => absurd h14 (nI_ge (b := 256) (by omega) (by decide))) (fun h14 => ?_)
      refine j_aload_n (pc := 17) dX3_meet_17 rfl ?_
      refine j_getR (pc := 18) dX3_meet_18 f_X3_34 (by first | rfl | with_reducible assumption) (by rfl) ?_
      refine j_iload_n (pc := 21) dX3_meet_21 rfl ?_
      refine j_iald (pc := 22) dX3_meet_22 (by first | rfl | with_reducible assumption) hvi ?_
      refine j_istore (pc := 23) dX3_meet_23 (by decide) ?_
      rw [hpc]
      refine j_iload (pc := 25) dX3_meet_25 rfl ?_
      refine j_bipush (pc := 27) dX3_meet_27 (v := (-9)) (by decide) ?_
      refine j_icmp_ne (pc := 29) (tgt := 50) dX3_meet_29 rfl (fun h29 => ?_) (fun h29 => ?_)
      · have hj : ∃ j, j < J ∧ σ (b + 8) ((hN code + k) % 256) = nI j := (hT.1 _ hp).elim (fun q => absurd q h29) id
        obtain ⟨j, hj, hsj⟩ := hj
        refine j_iload (pc := 50) dX3_meet_50 rfl ?_
        refine j_top hsj ?_
        refine j_callSNi (pc := 52) dX3_meet_52 k_X3_118 (c_X7_isJoint _ _) rfl (by decide) rfl (Nat.le_of_ble_eq_true rfl) (fun r σ1 hp => ?_)
        obtain ⟨rfl, hp⟩ := hp
        rcases hp with ⟨q52, rfl⟩ | ⟨q52, rfl⟩
        · refine j_if_eq (pc := 55) (tgt := 72) dX3_meet_55 rfl (fun h => absurd h (by decide)) (fun _ => ?_)
          refine j_aload_n (pc := 58) dX3_meet_58 rfl ?_
          refine j_getR (pc := 59) dX3_meet_59 f_X3_9 (by first | rfl | with_reducible assumption) (by rfl) ?_
          refine j_iload (pc := 62) dX3_meet_62 rfl ?_
          refine j_top hsj ?_
          refine j_iald (pc := 64) dX3_meet_64 (by first | rfl | with_reducible assumption) q52 ?_
          rw [nI_clamp (by omega)]
          refine j_iload_n (pc := 65) dX3_meet_65 rfl ?_
          refine j_icmp_ne (pc := 66) (tgt := 72) dX3_meet_66 rfl (fun h66 => ?_) (fun h66 => ?_)
          · refine j_iload_n (pc := 72) dX3_meet_72 rfl ?_
            refine j_iconst (pc := 73) dX3_meet_73 (v := 1) (by decide) ?_
            refine j_iadd (pc := 74) dX3_meet_74 ?_
            refine j_sipush (pc := 75) dX3_meet_75 (v := 256) (by decide) ?_
            refine j_irem (pc := 78) dX3_meet_78 (by decide) ?_
            refine j_top (y := nI ((hN code + (k + 1)) % 256)) ?_ ?_
            · rw [nI_1, show (256 : Int32) = nI 256 from rfl, pk_rem (by omega) (by decide) (by decide)]
              congr 1
              omega
            refine j_istore_n (pc := 79) dX3_meet_79 (by decide) ?_
            refine j_iinc1 (pc := 80) dX3_meet_80 rfl ?_
            refine j_goto (pc := 83) (tgt := 10) dX3_meet_83 rfl ?_
            rw [nI_1]
            refine ih (k + 1) (by omega) (fun k' hk' => ?_) _
            by_cases q : k' = k
            · subst q; exact ⟨j, hj, hsj, h66⟩
            · exact hi k' (by omega)
          · refine j_iload (pc := 69) dX3_meet_69 rfl ?_
            refine j_iret (pc := 71) dX3_meet_71 ?_
            left
            exact ⟨j, hj, h66, hsj, rfl⟩
        · exact absurd (vp_in_nI (by omega) (by decide)) q52
          skip
      · have hnew : ∀ j, j < J → σ (b + 1) j ≠ code := by
          intro j hj q
          obtain ⟨k1, c1, c2, c3⟩ := hT.2.1 j hj
          rw [q] at c2 c3
          rcases Nat.lt_trichotomy k1 k with h | h | h
          · obtain ⟨j1, d1, d2, d3⟩ := hi k1 h
            have : j = j1 := (nI_eq (by omega) (by omega)).mp (c2.symm.trans d2)
            subst this
            exact d3 q
          · subst h
            rw [h29] at c2
            exact nI_z (by omega) c2.symm
          · exact c3 k h h29
        refine j_aload_n (pc := 32) dX3_meet_32 rfl ?_
        refine j_getR (pc := 33) dX3_meet_33 f_X3_34 (by first | rfl | with_reducible assumption) (by rfl) ?_
        refine j_iload_n (pc := 36) dX3_meet_36 rfl ?_
        refine j_aload_n (pc := 37) dX3_meet_37 rfl ?_
        refine j_iload_n (pc := 38) dX3_meet_38 rfl ?_
        refine j_callVi (pc := 39) dX3_meet_39 k_X3_115 (c_X3_add hb code hJ hJ2) (by first | rfl | with_reducible assumption) rfl rfl (by decide) rfl (Nat.le_of_ble_eq_true rfl) (fun r σ1 hp => ?_)
        skip
        refine j_iast (pc := 42) dX3_meet_42 (by first | rfl | with_reducible assumption) hvi ?_
        refine j_aload_n (pc := 43) dX3_meet_43 rfl ?_
        refine j_getR (pc := 44) dX3_meet_44 f_X3_34 (by first | rfl | with_reducible assumption) (by rfl) ?_
        refine j_iload_n (pc := 47) dX3_meet_47 rfl ?_
        refine j_iald (pc := 48) dX3_meet_48 (by first | rfl | with_reducible assumption) hvi ?_
        refine j_iret (pc := 49) dX3_meet_49 ?_
        rw [hpc]
        rcases hp with ⟨c1, rfl, rfl⟩ | ⟨c1, rfl, rfl⟩
        · right; left
          refine ⟨hnew, c1, by rw [m_eq], _, Nat.mod_lt _ (by decide), hT.add hJ2 (by omega) h29 occ, rfl⟩
        · right; right
          refine ⟨hnew, c1, by rw [m_eq], ?_⟩
          funext x j
          rw [m_at]
          by_cases q : x = b + 8 ∧ j = (hN code + k) % 256
          · rw [if_pos q, q.1, q.2, h29]
          · rw [if_neg q]
  refine EV.intro (by decide +kernel) (Nat.le_of_ble_eq_true rfl) ?_
  refine j_iload_n (pc := 0) dX3_meet_0 rfl ?_
  refine j_ldc (pc := 1) dX3_meet_1 kc_X3_114 ?_
  refine j_imul (pc := 3) dX3_meet_3 ?_
  refine j_bipush (pc := 4) dX3_meet_4 (v := 24) (by decide) ?_
  refine j_iushr (pc := 6) dX3_meet_6 rfl ?_
  refine j_top (y := nI ((hN code + 0) % 256)) ?_ ?_
  · rw [Nat.add_zero, Nat.mod_eq_of_lt hl]; exact hh
  refine j_istore_n (pc := 7) dX3_meet_7 (by decide) ?_
  refine j_iconst (pc := 8) dX3_meet_8 (v := 0) (by decide) ?_
  refine j_istore_n (pc := 9) dX3_meet_9 (by decide) ?_
  exact loop 256 0 rfl (fun k' h => absurd h (Nat.not_lt_zero _)) none
