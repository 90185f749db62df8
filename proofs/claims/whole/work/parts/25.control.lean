/-! CONTROL: the object is 52; 53 depths, 54 edgesInto, 55 barredSets, 56 queue -/
theorem c_X0_depthOf (n : Int32) (σ : Mm) : EV Γ1 1 yX0_depthOf cX0_depthOf 2 (some .int) [.inr 52, .inl n] σ (vz (fo 150 (σ 53) n) σ) := by
  refine EV.intro (by decide +kernel) (Nat.le_of_ble_eq_true rfl) ?_
  refine j_iload_n (pc := 0) dX0_depthOf_0 rfl ?_
  refine j_callSNi (pc := 1) dX0_depthOf_1 k_X0_68 (c_X7_isJoint _ _) rfl (by decide) rfl (Nat.le_of_ble_eq_true rfl) (fun r σ1 hp => ?_)
  obtain ⟨rfl, hp⟩ := hp
  rcases hp with ⟨q1, rfl⟩ | ⟨q1, rfl⟩
  · refine j_if_eq (pc := 4) (tgt := 16) dX0_depthOf_4 rfl (fun h => absurd h (by decide)) (fun _ => ?_)
    refine j_aload_n (pc := 7) dX0_depthOf_7 rfl ?_
    refine j_getR (pc := 8) dX0_depthOf_8 f_X0_9 (by first | rfl | with_reducible assumption) (by rfl) ?_
    refine j_iload_n (pc := 11) dX0_depthOf_11 rfl ?_
    refine j_iald (pc := 12) dX0_depthOf_12 (by first | rfl | with_reducible assumption) q1 ?_
    refine j_goto (pc := 13) (tgt := 18) dX0_depthOf_13 rfl ?_
    refine j_iret (pc := 18) dX0_depthOf_18 ?_
    first | exact ⟨rfl, (if_pos (inR_iff.mpr q1)).symm⟩ | exact ⟨rfl, (if_neg (fun q => q1 (inR_iff.mp q))).symm⟩
  · refine j_if_eq (pc := 4) (tgt := 16) dX0_depthOf_4 rfl (fun _ => ?_) (fun h => absurd h (by decide))
    refine j_bipush (pc := 16) dX0_depthOf_16 (v := (-9)) (by decide) ?_
    refine j_iret (pc := 18) dX0_depthOf_18 ?_
    first | exact ⟨rfl, (if_pos (inR_iff.mpr q1)).symm⟩ | exact ⟨rfl, (if_neg (fun q => q1 (inR_iff.mp q))).symm⟩
theorem c_X0_holds (n : Int32) (σ : Mm) : EV Γ1 2 yX0_holds cX0_holds 2 (some .boolean) [.inr 52, .inl n] σ (bz (fo 150 (σ 53) n ≠ -9) σ) := by
  refine EV.intro (by decide +kernel) (Nat.le_of_ble_eq_true rfl) ?_
  refine j_aload_n (pc := 0) dX0_holds_0 rfl ?_
  refine j_iload_n (pc := 1) dX0_holds_1 rfl ?_
  refine j_callVi (pc := 2) dX0_holds_2 k_X0_79 (c_X0_depthOf _ _) (by first | rfl | with_reducible assumption) rfl rfl (by decide) rfl (Nat.le_of_ble_eq_true rfl) (fun r σ1 hp => ?_)
  obtain ⟨rfl, rfl⟩ := hp
  refine j_bipush (pc := 5) dX0_holds_5 (v := (-9)) (by decide) ?_
  refine j_icmp_eq (pc := 7) (tgt := 14) dX0_holds_7 rfl (fun h7 => ?_) (fun h7 => ?_)
  · refine j_iconst (pc := 14) dX0_holds_14 (v := 0) (by decide) ?_
    refine j_zret (pc := 15) dX0_holds_15 (Or.inl rfl) ?_
    exact ⟨rfl, Or.inr ⟨fun q => q h7, rfl⟩⟩
  · refine j_iconst (pc := 10) dX0_holds_10 (v := 1) (by decide) ?_
    refine j_goto (pc := 11) (tgt := 15) dX0_holds_11 rfl ?_
    refine j_zret (pc := 15) dX0_holds_15 (Or.inr rfl) ?_
    exact ⟨rfl, Or.inl ⟨h7, rfl⟩⟩
theorem c_X0_barredSet (n : Int32) (σ : Mm) : EV Γ1 3 yX0_barredSet cX0_barredSet 2 (some .int) [.inr 52, .inl n] σ (fun r σ' => σ = σ' ∧ ((fo 150 (σ 53) n ≠ -9 ∧ r = σ 55 n.toNatClampNeg) ∨ (fo 150 (σ 53) n = -9 ∧ r = -9))) := by
  refine EV.intro (by decide +kernel) (Nat.le_of_ble_eq_true rfl) ?_
  refine j_aload_n (pc := 0) dX0_barredSet_0 rfl ?_
  refine j_iload_n (pc := 1) dX0_barredSet_1 rfl ?_
  refine j_callVi (pc := 2) dX0_barredSet_2 k_X0_71 (c_X0_holds _ _) (by first | rfl | with_reducible assumption) rfl rfl (by decide) rfl (Nat.le_of_ble_eq_true rfl) (fun r σ1 hp => ?_)
  obtain ⟨rfl, hp⟩ := hp
  rcases hp with ⟨q2, rfl⟩ | ⟨q2, rfl⟩
  · refine j_if_eq (pc := 5) (tgt := 17) dX0_barredSet_5 rfl (fun h => absurd h (by decide)) (fun _ => ?_)
    refine j_aload_n (pc := 8) dX0_barredSet_8 rfl ?_
    refine j_getR (pc := 9) dX0_barredSet_9 f_X0_18 (by first | rfl | with_reducible assumption) (by rfl) ?_
    refine j_iload_n (pc := 12) dX0_barredSet_12 rfl ?_
    refine j_iald (pc := 13) dX0_barredSet_13 (by first | rfl | with_reducible assumption) (Classical.byContradiction fun q => q2 (if_neg (fun z => q (inR_iff.mp z)))) ?_
    refine j_goto (pc := 14) (tgt := 19) dX0_barredSet_14 rfl ?_
    refine j_iret (pc := 19) dX0_barredSet_19 ?_
    first | exact ⟨rfl, Or.inl ⟨q2, rfl⟩⟩ | exact ⟨rfl, Or.inr ⟨Classical.byContradiction q2, rfl⟩⟩
  · refine j_if_eq (pc := 5) (tgt := 17) dX0_barredSet_5 rfl (fun _ => ?_) (fun h => absurd h (by decide))
    refine j_bipush (pc := 17) dX0_barredSet_17 (v := (-9)) (by decide) ?_
    refine j_iret (pc := 19) dX0_barredSet_19 ?_
    first | exact ⟨rfl, Or.inl ⟨q2, rfl⟩⟩ | exact ⟨rfl, Or.inr ⟨Classical.byContradiction q2, rfl⟩⟩
theorem c_X0_comeTo {n Q : Nat} (hn : n < 150) (edge depth : Int32) {σ : Mm} (hq : σ 52 4 = nI Q) (hQ : Q < 150) : EV Γ1 0 yX0_comeTo cX0_comeTo 4 none [.inr 52, .inl (nI n), .inl edge, .inl depth] σ (mz (m_up (m_up (m_up (m_up σ 53 n depth) 54 n edge) 56 Q (nI n)) 52 4 (nI (Q + 1)))) := by
  have hcn : (nI n).toNatClampNeg = n := nI_clamp (by omega)
  have hvn : vp_in (nI n) 150 := vp_in_nI hn (by decide)
  refine EV.intro (by decide +kernel) (Nat.le_of_ble_eq_true rfl) ?_
  refine j_aload_n (pc := 0) dX0_comeTo_0 rfl ?_
  refine j_getI (pc := 1) dX0_comeTo_1 f_X0_24 (by first | rfl | with_reducible assumption) (by rfl) ?_
  refine j_sipush (pc := 4) dX0_comeTo_4 (v := 150) (by decide) ?_
  refine j_icmp_ge (pc := 7) (tgt := 44) dX0_comeTo_7 rfl (fun h7 => absurd (hq ▸ h7) (nI_ge (b := 150) hQ (by decide))) (fun h7 => ?_)
  refine j_aload_n (pc := 10) dX0_comeTo_10 rfl ?_
  refine j_getR (pc := 11) dX0_comeTo_11 f_X0_9 (by first | rfl | with_reducible assumption) (by rfl) ?_
  refine j_iload_n (pc := 14) dX0_comeTo_14 rfl ?_
  refine j_iload_n (pc := 15) dX0_comeTo_15 rfl ?_
  refine j_iast (pc := 16) dX0_comeTo_16 (by first | rfl | with_reducible assumption) hvn ?_
  refine j_aload_n (pc := 17) dX0_comeTo_17 rfl ?_
  refine j_getR (pc := 18) dX0_comeTo_18 f_X0_15 (by first | rfl | with_reducible assumption) (by rfl) ?_
  refine j_iload_n (pc := 21) dX0_comeTo_21 rfl ?_
  refine j_iload_n (pc := 22) dX0_comeTo_22 rfl ?_
  refine j_iast (pc := 23) dX0_comeTo_23 (by first | rfl | with_reducible assumption) hvn ?_
  refine j_aload_n (pc := 24) dX0_comeTo_24 rfl ?_
  refine j_getR (pc := 25) dX0_comeTo_25 f_X0_21 (by first | rfl | with_reducible assumption) (by rfl) ?_
  refine j_aload_n (pc := 28) dX0_comeTo_28 rfl ?_
  refine j_getI (pc := 29) dX0_comeTo_29 f_X0_24 (by first | rfl | with_reducible assumption) (by rfl) ?_
  refine j_top (y := nI Q) (by rw [m_ne (by decide), m_ne (by decide)]; exact hq) ?_
  refine j_iload_n (pc := 32) dX0_comeTo_32 rfl ?_
  refine j_iast (pc := 33) dX0_comeTo_33 (by first | rfl | with_reducible assumption) (vp_in_nI hQ (by decide)) ?_
  refine j_aload_n (pc := 34) dX0_comeTo_34 rfl ?_
  refine j_dup (pc := 35) dX0_comeTo_35 ?_
  refine j_getI (pc := 36) dX0_comeTo_36 f_X0_24 (by first | rfl | with_reducible assumption) (by rfl) ?_
  refine j_iconst (pc := 39) dX0_comeTo_39 (v := 1) (by decide) ?_
  refine j_iadd (pc := 40) dX0_comeTo_40 ?_
  refine j_put (pc := 41) dX0_comeTo_41 f_X0_24 (by first | rfl | with_reducible assumption) (by rfl) ?_
  refine j_vret (pc := 44) dX0_comeTo_44 ?_
  simp only [hcn, nI_clamp (show Q < 2 ^ 31 by omega), m_ne (show 52 ≠ 53 by decide), m_ne (show 52 ≠ 54 by decide), m_ne (show 52 ≠ 56 by decide), hq, nI_1]
  rfl
theorem small8 {x : Int32} (h : ∀ i, 8 ≤ i → i < 32 → bt x i = false) : ∃ k, k < 256 ∧ x = nI k := by
  obtain ⟨j, h1, h2⟩ := pk_andE x (m := 255) 8 (by decide)
  refine ⟨j, h1, ?_⟩
  rw [← h2]
  apply b_ext
  intro i hi
  rw [b_and, (by decide +kernel : ∀ i, i < 32 → bt 255 i = decide (i < 8)) i hi]
  by_cases h8 : i < 8
  · simp [h8]
  · simp [h8, h i (by omega) hi]
/-- how many of the eight -/
def pcB (p : Nat → Bool) : Nat := ((List.range 8).filter p).length
theorem pcnt_eq {x : Int32} {p : Nat → Bool} (h : ∀ e, e < 8 → bt x e = p e) : pcnt x = pcB p := by
  unfold pcnt pcB
  congr 1
  apply List.filter_congr
  intro e he
  exact h e (List.mem_range.mp he)
/-- only Control's cells have changed -/
def FrC (σ σ' : Mm) : Prop := ∀ x, x < 52 ∨ 56 < x → σ' x = σ x
theorem FrC.rf {σ : Mm} : FrC σ σ := fun _ _ => rfl
theorem FrC.tr {σ σ' σ'' : Mm} (h1 : FrC σ σ') (h2 : FrC σ' σ'') : FrC σ σ'' := fun x h => (h2 x h).trans (h1 x h)
theorem FrC.up {σ σ' : Mm} {a k : Nat} {v : Int32} (h : FrC σ σ') (ha : 52 ≤ a ∧ a ≤ 56) : FrC σ (m_up σ' a k v) := fun x hx => (m_ne (by omega)).trans (h x hx)
theorem NL.frC {σ σ' : Mm} {J : Nat} {tg : Nat → Int32} {fn : Nat → Bool} {cl : Nat → Nat → Bool} (h : NL σ J tg fn cl) (hF : FrC σ σ') : NL σ' J tg fn cl := by
  unfold NL NM at *
  rw [hF 23 (by decide), hF (23 + 4) (by decide), hF (23 + 7) (by decide), hF (23 + 6) (by decide), hF 28 (by decide), hF 25 (by decide), hF 26 (by decide)]
  exact h
def scP (σ : Mm) (J : Nat) (tg w : Nat → Int32) (Q : Nat) (u : Nat → Nat) (p : Nat) : Int32 → Mm → Prop := fun _ σ' => FrC σ σ' ∧ ∃ (Q' : Nat) (u' d' pa' ev' : Nat → Nat) (x : Int32), CI J tg (fun m => decide (w m = -9)) (σ' 53) (σ' 54) (σ' 56) Q' u' d' pa' ev' ∧ CX tg (fun m => decide (w m = -9)) Q' u' pa' ev' (8 * (p + 1)) ∧ σ' 52 4 = nI Q' ∧ Q ≤ Q' ∧ (∀ i, i < Q → u' i = u i) ∧ (∀ i, i < 32 → bt x i = (decide (i < 8) && isL J w (tg (8 * u p + i)))) ∧ σ' 55 = upd (σ 55) (u p) x ∧ σ' 52 5 = σ 52 5 + nI (pcnt x) ∧ ∀ n, J ≤ n → n < 150 → σ' 53 n = σ 53 n
theorem c_X0_spreadFrom {σ : Mm} {J : Nat} {tg w : Nat → Int32} {fn : Nat → Bool} {cl : Nat → Nat → Bool} (hN : NL σ J tg fn cl) (hw : ∀ m, m < J → σ 47 m = w m) {Q p : Nat} {u d pa ev : Nat → Nat} (hI : CI J tg (fun m => decide (w m = -9)) (σ 53) (σ 54) (σ 56) Q u d pa ev) (hX : CX tg (fun m => decide (w m = -9)) Q u pa ev (8 * p)) (hq : σ 52 4 = nI Q) (hp : p < Q) :
    EV Γ1 3 yX0_spreadFrom cX0_spreadFrom 8 none [.inr 52, .inl (nI (u p)), .inr 23, .inr 46] σ (scP σ J tg w Q u p) := by
  have hJ := hN.1.1
  have hQJ : Q ≤ J := by rw [← hI.2.2.2.1]; exact cnt_le _ _
  have hup := (hI.2.2.2.2.1 p hp).1
  have hcu : (nI (u p)).toNatClampNeg = u p := nI_clamp (by omega)
  have hvu : vp_in (nI (u p)) 150 := vp_in_nI (by omega) (by decide)
  have hlead := hN.2.2.1 (u p) hup
  have fin : ∀ (σ' : Mm) (x : Int32) (p4 p6 p7 : Option Vl) (Q' : Nat) (u' d' pa' ev' : Nat → Nat), FrC σ σ' → σ' 55 = σ 55 → σ' 52 5 = σ 52 5 → σ' 52 4 = nI Q' → Q ≤ Q' → (∀ i, i < Q → u' i = u i) → (∀ n, J ≤ n → n < 150 → σ' 53 n = σ 53 n) → CI J tg (fun m => decide (w m = -9)) (σ' 53) (σ' 54) (σ' 56) Q' u' d' pa' ev' → CX tg (fun m => decide (w m = -9)) Q' u' pa' ev' (8 * (p + 1)) → (∀ i, i < 32 → bt x i = (decide (i < 8) && isL J w (tg (8 * u p + i)))) →
      AJ Γ1 3 RX0 cX0_spreadFrom 8 none (scP σ J tg w Q u p) 115 [some (.inr 52), some (.inl (nI (u p))), some (.inr 23), some (.inr 46), p4, some (.inl x), p6, p7] [] σ' := by
    intro σ' x p4 p6 p7 Q' u' d' pa' ev' f1 f2 f3 f4 f5 f6 f7 f8 f9 f10
    obtain ⟨kx, hkx, rfl⟩ := small8 (x := x) (fun i a b => by rw [f10 i b]; simp [show ¬ i < 8 by omega])
    refine j_aload_n (pc := 115) dX0_spreadFrom_115 rfl ?_
    refine j_getR (pc := 116) dX0_spreadFrom_116 f_X0_18 (by first | rfl | with_reducible assumption) (by rfl) ?_
    refine j_iload_n (pc := 119) dX0_spreadFrom_119 rfl ?_
    refine j_iload (pc := 120) dX0_spreadFrom_120 rfl ?_
    refine j_iast (pc := 122) dX0_spreadFrom_122 (by first | rfl | with_reducible assumption) hvu ?_
    refine j_aload_n (pc := 123) dX0_spreadFrom_123 rfl ?_
    refine j_dup (pc := 124) dX0_spreadFrom_124 ?_
    refine j_getI (pc := 125) dX0_spreadFrom_125 f_X0_28 (by first | rfl | with_reducible assumption) (by rfl) ?_
    refine j_iload (pc := 128) dX0_spreadFrom_128 rfl ?_
    refine j_callSi (pc := 130) dX0_spreadFrom_130 k_X0_74 (c_bitCount hkx _) rfl (by decide) rfl (Nat.le_of_ble_eq_true rfl) (fun r σ1 hp => ?_)
    obtain ⟨rfl, rfl⟩ := hp
    refine j_iadd (pc := 133) dX0_spreadFrom_133 ?_
    refine j_put (pc := 134) dX0_spreadFrom_134 f_X0_28 (by first | rfl | with_reducible assumption) (by rfl) ?_
    refine j_vret (pc := 137) dX0_spreadFrom_137 ?_
    refine ⟨(f1.up (by decide)).up (by decide), Q', u', d', pa', ev', nI kx, ?_, f9, ?_, f5, f6, f10, ?_, ?_, ?_⟩
    · rw [m_ne (by decide), m_ne (by decide), m_ne (by decide), m_ne (by decide), m_ne (by decide), m_ne (by decide)]; exact f8
    · rw [m_nk (by decide), m_ne (by decide)]; exact f4
    · rw [m_ne (by decide), m_row, hcu, f2]
    · rw [m_eq, m_ne (by decide), f3]
    · intro n a b; rw [m_ne (by decide), m_ne (by decide)]; exact f7 n a b
  have loop : ∀ (k e : Nat) (σ' : Mm) (x : Int32) (p7 : Option Vl) (Q' : Nat) (u' d' pa' ev' : Nat → Nat), e + k = 8 → FrC σ σ' → σ' 55 = σ 55 → σ' 52 5 = σ 52 5 → σ' 52 4 = nI Q' → Q ≤ Q' → (∀ i, i < Q → u' i = u i) → d' p = d p → (∀ n, J ≤ n → n < 150 → σ' 53 n = σ 53 n) → CI J tg (fun m => decide (w m = -9)) (σ' 53) (σ' 54) (σ' 56) Q' u' d' pa' ev' → CX tg (fun m => decide (w m = -9)) Q' u' pa' ev' (8 * p + e) → (∀ i, i < 32 → bt x i = (decide (i < e) && isL J w (tg (8 * u p + i)))) →
      AJ Γ1 3 RX0 cX0_spreadFrom 8 none (scP σ J tg w Q u p) 13 [some (.inr 52), some (.inl (nI (u p))), some (.inr 23), some (.inr 46), some (.inl (σ 25 (u p))), some (.inl x), some (.inl (nI e)), p7] [] σ' := by
    intro k
    induction k with
    | zero =>
      intro e σ' x p7 Q' u' d' pa' ev' he f1 f2 f3 f4 f5 f6 fd f7 f8 f9 f10
      obtain rfl : e = 8 := by omega
      refine j_iload (pc := 13) dX0_spreadFrom_13 rfl ?_
      refine j_bipush (pc := 15) dX0_spreadFrom_15 (v := 8) (by decide) ?_
      refine j_icmp_ge (pc := 17) (tgt := 115) dX0_spreadFrom_17 rfl (fun h17 => ?_) (fun h17 => absurd (by decide) h17)
      exact fin σ' x _ _ _ Q' u' d' pa' ev' f1 f2 f3 f4 f5 f6 f7 f8 (by rw [show 8 * (p + 1) = 8 * p + 8 by omega]; exact f9) f10
    | succ k ih =>
      intro e σ' x p7 Q' u' d' pa' ev' he f1 f2 f3 f4 f5 f6 fd f7 f8 f9 f10
      have he8 : e < 8 := by omega
      have hN' := hN.frC f1
      have hw' : σ' 47 = σ 47 := f1 47 (by decide)
      have hQ'J : Q' ≤ J := by rw [← f8.2.2.2.1]; exact cnt_le _ _
      have hu'p : u' p = u p := f6 p hp
      have htg : tgo J tg (nI (u p)) (nI e) = tg (8 * u p + e) := by
        unfold tgo
        rw [if_pos ⟨inR_nI hup (by omega), inR_nI he8 (by decide)⟩, nI_clamp (by omega), nI_clamp (by omega)]
      have htc := hN.1.2.2.2.2 (8 * u p + e) (by omega)
      have xno : ¬ isL J w (tg (8 * u p + e)) = true → ∀ i, i < 32 → bt x i = (decide (i < e + 1) && isL J w (tg (8 * u p + i))) := fun hl i hi => by
        rw [f10 i hi]
        by_cases q : i = e
        · subst q
          have : isL J w (tg (8 * u p + i)) = false := by simpa using hl
          simp [this]
        · have : (i < e + 1) ↔ i < e := by omega
          simp [this]
      have lossy : ∀ m, m < J → tg (8 * u p + e) = nI m → (isL J w (tg (8 * u p + e)) = true ↔ w m ≠ -9) := fun m hm hme => by
        rw [hme]
        unfold isL
        rw [inR_nI hm (by omega), nI_clamp (by omega), Bool.true_and, decide_eq_true_iff]
      refine j_iload (pc := 13) dX0_spreadFrom_13 rfl ?_
      refine j_bipush (pc := 15) dX0_spreadFrom_15 (v := 8) (by decide) ?_
      refine j_icmp_ge (pc := 17) (tgt := 115) dX0_spreadFrom_17 rfl (fun h17 => absurd h17 (nI_ge (b := 8) (by omega) (by decide))) (fun h17 => ?_)
      refine j_iload (pc := 20) dX0_spreadFrom_20 rfl ?_
      refine j_iload (pc := 22) dX0_spreadFrom_22 rfl ?_
      refine j_ishr (pc := 24) dX0_spreadFrom_24 ?_
      refine j_if_eq (pc := 25) (tgt := 115) dX0_spreadFrom_25 rfl (fun h25 => ?_) (fun h25 => ?_)
      · have hst := set_stop (by omega) h25
        have hnone : ∀ i, e ≤ i → i < 8 → tg (8 * u p + i) = -9 := fun i a b => by
          have := hst i a (by omega)
          rw [hlead i (by omega)] at this
          exact Classical.byContradiction fun z => by simp [b, z] at this
        refine fin σ' x _ _ _ Q' u' d' pa' ev' f1 f2 f3 f4 f5 f6 f7 f8 ⟨fun i e' hi he' hx m hm5 hm hk => ?_, fun i hi0 hi => ?_⟩ (fun i hi => ?_)
        · by_cases q : 8 * i + e' < 8 * p + e
          · exact f9.1 i e' hi he' q m hm5 hm hk
          · have h1 : i = p := by omega
            subst h1
            rw [hu'p, hnone e' (by omega) he'] at hm
            exact absurd hm.symm (nI_z (by omega))
        · have := f9.2 i hi0 hi
          omega
        · rw [f10 i hi]
          by_cases q : i < e
          · simp [q, show i < 8 by omega]
          · by_cases q8 : i < 8
            · have : isL J w (tg (8 * u p + i)) = false := by rw [hnone i (by omega) q8]; unfold isL; rw [inR_9]; rfl
              simp [this]
            · simp [q, q8]
      · refine j_iload (pc := 28) dX0_spreadFrom_28 rfl ?_
        refine j_iload (pc := 30) dX0_spreadFrom_30 rfl ?_
        refine j_callSNi (pc := 32) dX0_spreadFrom_32 k_X0_60 (c_X7_isIn _ (j := e) (by omega) _) rfl (by decide) rfl (Nat.le_of_ble_eq_true rfl) (fun r σ1 hp => ?_)
        obtain ⟨rfl, hp⟩ := hp
        rcases hp with ⟨q32, rfl⟩ | ⟨q32, rfl⟩
        · have h9 : tg (8 * u p + e) ≠ -9 := by
            rw [hlead e (by omega)] at q32
            simp only [Bool.and_eq_true, decide_eq_true_eq] at q32
            exact q32.2
          obtain ⟨m, hm, hme⟩ : ∃ m, m < J ∧ tg (8 * u p + e) = nI m := htc.elim (fun z => absurd z h9) id
          refine j_if_ne (pc := 35) (tgt := 41) dX0_spreadFrom_35 rfl (fun _ => ?_) (fun h => absurd h (by decide))
          refine j_aload_n (pc := 41) dX0_spreadFrom_41 rfl ?_
          refine j_iload_n (pc := 42) dX0_spreadFrom_42 rfl ?_
          refine j_iload (pc := 43) dX0_spreadFrom_43 rfl ?_
          refine j_callVNi (pc := 45) dX0_spreadFrom_45 k_X0_64 (c_target' isN_net _ _ hN'.1.2.1 hJ hN'.2.1) (by first | rfl | with_reducible assumption) rfl rfl (by decide) rfl (Nat.le_of_ble_eq_true rfl) (fun r σ1 hp => ?_)
          obtain ⟨rfl, rfl⟩ := hp
          refine j_top (htg.trans hme) ?_
          refine j_istore (pc := 48) dX0_spreadFrom_48 (by decide) ?_
          refine j_aload_n (pc := 50) dX0_spreadFrom_50 rfl ?_
          refine j_iload (pc := 51) dX0_spreadFrom_51 rfl ?_
          refine j_callVNi (pc := 53) dX0_spreadFrom_53 k_X0_43 (c_X1_isLost _ _) (by first | rfl | with_reducible assumption) rfl rfl (by decide) rfl (Nat.le_of_ble_eq_true rfl) (fun r σ1 hp => ?_)
          obtain ⟨rfl, hp⟩ := hp
          rcases hp with ⟨q53, rfl⟩ | ⟨q53, rfl⟩
          · have hnk : w m ≠ -9 := by
              rw [fo_nI (by omega) (by decide), hw', hw m hm] at q53
              exact q53
            have hcx := f9.skip he8 (fun m' hm5 hm' hk => by
              rw [hu'p, hme] at hm'
              have := (nI_eq (by omega) (by omega)).mp hm'
              subst this
              exact absurd (of_decide_eq_true hk) hnk)
            refine j_if_eq (pc := 56) (tgt := 71) dX0_spreadFrom_56 rfl (fun h => absurd h (by decide)) (fun _ => ?_)
            refine j_iload (pc := 59) dX0_spreadFrom_59 rfl ?_
            refine j_iconst (pc := 61) dX0_spreadFrom_61 (v := 1) (by decide) ?_
            refine j_iload (pc := 62) dX0_spreadFrom_62 rfl ?_
            refine j_ishl (pc := 64) dX0_spreadFrom_64 ?_
            refine j_ior (pc := 65) dX0_spreadFrom_65 ?_
            refine j_istore (pc := 66) dX0_spreadFrom_66 (by decide) ?_
            refine j_goto (pc := 68) (tgt := 109) dX0_spreadFrom_68 rfl ?_
            refine j_iinc1 (pc := 109) dX0_spreadFrom_109 rfl ?_
            refine j_goto (pc := 112) (tgt := 13) dX0_spreadFrom_112 rfl ?_
            rw [nI_1]
            first
              | (refine ih (e + 1) _ _ _ (Q' + 1) (updN u' Q' m) (updN d' Q' (d' p + 1)) (updN pa' Q' p) (updN ev' Q' e) (by omega) ((((f1.up (by decide)).up (by decide)).up (by decide)).up (by decide)) ?_ ?_ (m_eq _ _ _ _) (by omega) (fun i hi => by rw [updN_n (by omega)]; exact f6 i hi) (by rw [updN_n (by omega)]; exact fd) ?_ ?_ hadd.2 (xno hnl)
                 · rw [m_ne (by decide), m_ne (by decide), m_ne (by decide), m_ne (by decide)]; exact f2
                 · rw [m_nk (by decide), m_ne (by decide), m_ne (by decide), m_ne (by decide)]; exact f3
                 · intro n a b
                   rw [m_ne (by decide), m_ne (by decide), m_ne (by decide), m_nk (by omega)]
                   exact f7 n a b
                 · have := hadd.1
                   rw [hu'p] at this
                   simp only [m_row, m_ne (show 53 ≠ 52 by decide), m_ne (show 53 ≠ 56 by decide), m_ne (show 53 ≠ 54 by decide), m_ne (show 54 ≠ 52 by decide), m_ne (show 54 ≠ 56 by decide), m_ne (show 54 ≠ 53 by decide), m_ne (show 56 ≠ 52 by decide), m_ne (show 56 ≠ 54 by decide), m_ne (show 56 ≠ 53 by decide)]
                   exact this)
              | exact ih (e + 1) _ _ _ Q' u' d' pa' ev' (by omega) f1 f2 f3 f4 f5 f6 fd f7 f8 hcx (xno hnl)
              | (refine ih (e + 1) _ _ _ Q' u' d' pa' ev' (by omega) f1 f2 f3 f4 f5 f6 fd f7 f8 hcx (fun i hi => ?_)
                 rw [b_or, b_bit e (by omega) hi, f10 i hi]
                 by_cases q : i = e
                 · subst q
                   simp [(lossy m hm hme).mpr hnk]
                 · have : (i < e + 1) ↔ i < e := by omega
                   simp [q, this])
          · have hkm : w m = -9 := Classical.byContradiction fun z => q53 (by rw [fo_nI (by omega) (by decide), hw', hw m hm]; exact z)
            have hnl : ¬ isL J w (tg (8 * u p + e)) = true := fun z => (lossy m hm hme).mp z hkm
            refine j_if_eq (pc := 56) (tgt := 71) dX0_spreadFrom_56 rfl (fun _ => ?_) (fun h => absurd h (by decide))
            refine j_iload (pc := 71) dX0_spreadFrom_71 rfl ?_
            refine j_callSNi (pc := 73) dX0_spreadFrom_73 k_X0_68 (c_X7_isJoint _ _) rfl (by decide) rfl (Nat.le_of_ble_eq_true rfl) (fun r σ1 hp => ?_)
            obtain ⟨rfl, hp⟩ := hp
            rcases hp with ⟨q73, rfl⟩ | ⟨q73, rfl⟩
            · refine j_if_eq (pc := 76) (tgt := 109) dX0_spreadFrom_76 rfl (fun h => absurd h (by decide)) (fun _ => ?_)
              refine j_aload_n (pc := 79) dX0_spreadFrom_79 rfl ?_
              refine j_iload (pc := 80) dX0_spreadFrom_80 rfl ?_
              refine j_callVi (pc := 82) dX0_spreadFrom_82 k_X0_71 (c_X0_holds _ _) (by first | rfl | with_reducible assumption) rfl rfl (by decide) rfl (Nat.le_of_ble_eq_true rfl) (fun r σ1 hp => ?_)
              obtain ⟨rfl, hp⟩ := hp
              rcases hp with ⟨q82, rfl⟩ | ⟨q82, rfl⟩
              · have hcx := f9.skip he8 (fun m' hm5 hm' hk => by
                  rw [hu'p, hme] at hm'
                  have := (nI_eq (by omega) (by omega)).mp hm'
                  subst this
                  rw [fo_nI (by omega) (by decide)] at q82
                  exact (f8.2.2.2.2.2.2.2.1 m hm).elim (fun z => absurd z q82) id)
                refine j_if_ne (pc := 85) (tgt := 109) dX0_spreadFrom_85 rfl (fun _ => ?_) (fun h => absurd h (by decide))
                refine j_iinc1 (pc := 109) dX0_spreadFrom_109 rfl ?_
                refine j_goto (pc := 112) (tgt := 13) dX0_spreadFrom_112 rfl ?_
                rw [nI_1]
                first
                  | (refine ih (e + 1) _ _ _ (Q' + 1) (updN u' Q' m) (updN d' Q' (d' p + 1)) (updN pa' Q' p) (updN ev' Q' e) (by omega) ((((f1.up (by decide)).up (by decide)).up (by decide)).up (by decide)) ?_ ?_ (m_eq _ _ _ _) (by omega) (fun i hi => by rw [updN_n (by omega)]; exact f6 i hi) (by rw [updN_n (by omega)]; exact fd) ?_ ?_ hadd.2 (xno hnl)
                     · rw [m_ne (by decide), m_ne (by decide), m_ne (by decide), m_ne (by decide)]; exact f2
                     · rw [m_nk (by decide), m_ne (by decide), m_ne (by decide), m_ne (by decide)]; exact f3
                     · intro n a b
                       rw [m_ne (by decide), m_ne (by decide), m_ne (by decide), m_nk (by omega)]
                       exact f7 n a b
                     · have := hadd.1
                       rw [hu'p] at this
                       simp only [m_row, m_ne (show 53 ≠ 52 by decide), m_ne (show 53 ≠ 56 by decide), m_ne (show 53 ≠ 54 by decide), m_ne (show 54 ≠ 52 by decide), m_ne (show 54 ≠ 56 by decide), m_ne (show 54 ≠ 53 by decide), m_ne (show 56 ≠ 52 by decide), m_ne (show 56 ≠ 54 by decide), m_ne (show 56 ≠ 53 by decide)]
                       exact this)
                  | exact ih (e + 1) _ _ _ Q' u' d' pa' ev' (by omega) f1 f2 f3 f4 f5 f6 fd f7 f8 hcx (xno hnl)
                  | (refine ih (e + 1) _ _ _ Q' u' d' pa' ev' (by omega) f1 f2 f3 f4 f5 f6 fd f7 f8 hcx (fun i hi => ?_)
                     rw [b_or, b_bit e (by omega) hi, f10 i hi]
                     by_cases q : i = e
                     · subst q
                       simp [(lossy m hm hme).mpr hnk]
                     · have : (i < e + 1) ↔ i < e := by omega
                       simp [q, this])
              · have h0 : σ' 53 m = -9 := Classical.byContradiction fun z => q82 (by rw [fo_nI (by omega) (by decide)]; exact z)
                have hcnt := cnt_lt h0 J hm
                rw [f8.2.2.2.1] at hcnt
                have hadd := f8.add hJ f9 (show p < Q' by omega) he8 hm (decide_eq_true hkm) (by rw [hu'p]; exact hme) h0
                refine j_if_ne (pc := 85) (tgt := 109) dX0_spreadFrom_85 rfl (fun h => absurd h (by decide)) (fun _ => ?_)
                refine j_aload_n (pc := 88) dX0_spreadFrom_88 rfl ?_
                refine j_iload (pc := 89) dX0_spreadFrom_89 rfl ?_
                refine j_iload_n (pc := 91) dX0_spreadFrom_91 rfl ?_
                refine j_bipush (pc := 92) dX0_spreadFrom_92 (v := 8) (by decide) ?_
                refine j_imul (pc := 94) dX0_spreadFrom_94 ?_
                refine j_iload (pc := 95) dX0_spreadFrom_95 rfl ?_
                refine j_iadd (pc := 97) dX0_spreadFrom_97 ?_
                refine j_top (nI_8 (u p) e) ?_
                refine j_aload_n (pc := 98) dX0_spreadFrom_98 rfl ?_
                refine j_getR (pc := 99) dX0_spreadFrom_99 f_X0_9 (by first | rfl | with_reducible assumption) (by rfl) ?_
                refine j_iload_n (pc := 102) dX0_spreadFrom_102 rfl ?_
                refine j_iald (pc := 103) dX0_spreadFrom_103 (by first | rfl | with_reducible assumption) hvu ?_
                refine j_top (y := nI (d' p)) (by rw [hcu, ← hu'p]; exact (f8.2.2.2.2.1 p (by omega)).2.2.2.1) ?_
                refine j_iconst (pc := 104) dX0_spreadFrom_104 (v := 1) (by decide) ?_
                refine j_iadd (pc := 105) dX0_spreadFrom_105 ?_
                rw [nI_1]
                refine j_callVv (pc := 106) dX0_spreadFrom_106 k_X0_48 (c_X0_comeTo (by omega) _ _ f4 (by omega)) (by first | rfl | with_reducible assumption) rfl rfl (by decide) rfl (Nat.le_of_ble_eq_true rfl) (fun σ1 hp => ?_)
                obtain rfl := hp
                refine j_iinc1 (pc := 109) dX0_spreadFrom_109 rfl ?_
                refine j_goto (pc := 112) (tgt := 13) dX0_spreadFrom_112 rfl ?_
                rw [nI_1]
                first
                  | (refine ih (e + 1) _ _ _ (Q' + 1) (updN u' Q' m) (updN d' Q' (d' p + 1)) (updN pa' Q' p) (updN ev' Q' e) (by omega) ((((f1.up (by decide)).up (by decide)).up (by decide)).up (by decide)) ?_ ?_ (m_eq _ _ _ _) (by omega) (fun i hi => by rw [updN_n (by omega)]; exact f6 i hi) (by rw [updN_n (by omega)]; exact fd) ?_ ?_ hadd.2 (xno hnl)
                     · rw [m_ne (by decide), m_ne (by decide), m_ne (by decide), m_ne (by decide)]; exact f2
                     · rw [m_nk (by decide), m_ne (by decide), m_ne (by decide), m_ne (by decide)]; exact f3
                     · intro n a b
                       rw [m_ne (by decide), m_ne (by decide), m_ne (by decide), m_nk (by omega)]
                       exact f7 n a b
                     · have := hadd.1
                       rw [hu'p] at this
                       simp only [m_row, m_ne (show 53 ≠ 52 by decide), m_ne (show 53 ≠ 56 by decide), m_ne (show 53 ≠ 54 by decide), m_ne (show 54 ≠ 52 by decide), m_ne (show 54 ≠ 56 by decide), m_ne (show 54 ≠ 53 by decide), m_ne (show 56 ≠ 52 by decide), m_ne (show 56 ≠ 54 by decide), m_ne (show 56 ≠ 53 by decide)]
                       exact this)
                  | exact ih (e + 1) _ _ _ Q' u' d' pa' ev' (by omega) f1 f2 f3 f4 f5 f6 fd f7 f8 hcx (xno hnl)
                  | (refine ih (e + 1) _ _ _ Q' u' d' pa' ev' (by omega) f1 f2 f3 f4 f5 f6 fd f7 f8 hcx (fun i hi => ?_)
                     rw [b_or, b_bit e (by omega) hi, f10 i hi]
                     by_cases q : i = e
                     · subst q
                       simp [(lossy m hm hme).mpr hnk]
                     · have : (i < e + 1) ↔ i < e := by omega
                       simp [q, this])
            · exact absurd (vp_in_nI (by omega) (by decide)) q73
              skip
        · have h9 : tg (8 * u p + e) = -9 := by
            rw [hlead e (by omega)] at q32
            exact Classical.byContradiction fun z => q32 (by simp [he8, z])
          have hnl : ¬ isL J w (tg (8 * u p + e)) = true := by rw [h9]; unfold isL; rw [inR_9]; simp
          have hcx := f9.skip he8 (fun m hm5 hm hk => by rw [hu'p, h9] at hm; exact absurd hm.symm (nI_z (by omega)))
          refine j_if_ne (pc := 35) (tgt := 41) dX0_spreadFrom_35 rfl (fun h => absurd h (by decide)) (fun _ => ?_)
          refine j_goto (pc := 38) (tgt := 109) dX0_spreadFrom_38 rfl ?_
          refine j_iinc1 (pc := 109) dX0_spreadFrom_109 rfl ?_
          refine j_goto (pc := 112) (tgt := 13) dX0_spreadFrom_112 rfl ?_
          rw [nI_1]
          first
            | (refine ih (e + 1) _ _ _ (Q' + 1) (updN u' Q' m) (updN d' Q' (d' p + 1)) (updN pa' Q' p) (updN ev' Q' e) (by omega) ((((f1.up (by decide)).up (by decide)).up (by decide)).up (by decide)) ?_ ?_ (m_eq _ _ _ _) (by omega) (fun i hi => by rw [updN_n (by omega)]; exact f6 i hi) (by rw [updN_n (by omega)]; exact fd) ?_ ?_ hadd.2 (xno hnl)
               · rw [m_ne (by decide), m_ne (by decide), m_ne (by decide), m_ne (by decide)]; exact f2
               · rw [m_nk (by decide), m_ne (by decide), m_ne (by decide), m_ne (by decide)]; exact f3
               · intro n a b
                 rw [m_ne (by decide), m_ne (by decide), m_ne (by decide), m_nk (by omega)]
                 exact f7 n a b
               · have := hadd.1
                 rw [hu'p] at this
                 simp only [m_row, m_ne (show 53 ≠ 52 by decide), m_ne (show 53 ≠ 56 by decide), m_ne (show 53 ≠ 54 by decide), m_ne (show 54 ≠ 52 by decide), m_ne (show 54 ≠ 56 by decide), m_ne (show 54 ≠ 53 by decide), m_ne (show 56 ≠ 52 by decide), m_ne (show 56 ≠ 54 by decide), m_ne (show 56 ≠ 53 by decide)]
                 exact this)
            | exact ih (e + 1) _ _ _ Q' u' d' pa' ev' (by omega) f1 f2 f3 f4 f5 f6 fd f7 f8 hcx (xno hnl)
            | (refine ih (e + 1) _ _ _ Q' u' d' pa' ev' (by omega) f1 f2 f3 f4 f5 f6 fd f7 f8 hcx (fun i hi => ?_)
               rw [b_or, b_bit e (by omega) hi, f10 i hi]
               by_cases q : i = e
               · subst q
                 simp [(lossy m hm hme).mpr hnk]
               · have : (i < e + 1) ↔ i < e := by omega
                 simp [q, this])
  refine EV.intro (by decide +kernel) (Nat.le_of_ble_eq_true rfl) ?_
  refine j_aload_n (pc := 0) dX0_spreadFrom_0 rfl ?_
  refine j_iload_n (pc := 1) dX0_spreadFrom_1 rfl ?_
  refine j_callVNi (pc := 2) dX0_spreadFrom_2 k_X0_56 (c_X3_leadSet isN_net _ hN.1.2.1 hJ) (by first | rfl | with_reducible assumption) rfl rfl (by decide) rfl (Nat.le_of_ble_eq_true rfl) (fun r σ1 hp => ?_)
  obtain ⟨rfl, hp2⟩ := hp
  have hr : r = σ 25 (u p) := by
    rcases hp2 with ⟨i, a1, a2, a3⟩ | ⟨a1, -⟩
    · have := (nI_eq (by omega) (by omega)).mp a2
      rw [a3, ← this]
    · exact absurd (vp_in_nI hup (by omega)) a1
  subst hr
  refine j_istore (pc := 5) dX0_spreadFrom_5 (by decide) ?_
  refine j_iconst (pc := 7) dX0_spreadFrom_7 (v := 0) (by decide) ?_
  refine j_istore (pc := 8) dX0_spreadFrom_8 (by decide) ?_
  refine j_iconst (pc := 10) dX0_spreadFrom_10 (v := 0) (by decide) ?_
  refine j_istore (pc := 11) dX0_spreadFrom_11 (by decide) ?_
  exact loop 8 0 σ 0 none Q u d pa ev rfl FrC.rf rfl rfl hq (Nat.le_refl _) (fun _ _ => rfl) rfl (fun _ _ _ => rfl) hI hX (fun i hi => by rw [b_0]; simp)
/-- spread: nothing, where START is LOST or there is none; else the queue to its end, what is BARRED at each, and how many bars there are -/
def ctrlP (σ : Mm) (J : Nat) (tg w : Nat → Int32) : Int32 → Mm → Prop := fun _ σ' => FrC σ σ' ∧ (∀ n, J ≤ n → n < 150 → σ' 53 n = -9) ∧
  ((¬ (0 < J ∧ w 0 = -9) ∧ (∀ n, n < 150 → σ' 53 n = -9) ∧ σ' 52 4 = 0 ∧ σ' 52 5 = 0) ∨
   (0 < J ∧ w 0 = -9 ∧ ∃ (Q : Nat) (u d pa ev : Nat → Nat), CI J tg (fun m => decide (w m = -9)) (σ' 53) (σ' 54) (σ' 56) Q u d pa ev ∧ CX tg (fun m => decide (w m = -9)) Q u pa ev (8 * Q) ∧ σ' 52 4 = nI Q ∧ (∀ n, n < J → σ' 53 n ≠ -9 → ∀ i, i < 32 → bt (σ' 55 n) i = (decide (i < 8) && isL J w (tg (8 * n + i)))) ∧ σ' 52 5 = nI (sumN (fun n => if σ' 53 n = -9 then 0 else pcB (fun e => isL J w (tg (8 * n + e)))) J)))
theorem c_X0_spread {σ : Mm} {J : Nat} {tg w : Nat → Int32} {fn : Nat → Bool} {cl : Nat → Nat → Bool} (hN : NL σ J tg fn cl) (hw : ∀ m, m < J → σ 47 m = w m) : EV Γ1 4 yX0_spread cX0_spread 4 none [.inr 52, .inr 23, .inr 46] σ (ctrlP σ J tg w) := by
  have hJ := hN.1.1
  have loop : 0 < J → w 0 = -9 → ∀ (k p : Nat) (σ' : Mm) (Q : Nat) (u d pa ev Bf : Nat → Nat), p + k = 150 → p ≤ Q → FrC σ σ' → CI J tg (fun m => decide (w m = -9)) (σ' 53) (σ' 54) (σ' 56) Q u d pa ev → CX tg (fun m => decide (w m = -9)) Q u pa ev (8 * p) → σ' 52 4 = nI Q → (∀ n, J ≤ n → n < 150 → σ' 53 n = -9) → (∀ j, j < p → ∀ i, i < 32 → bt (σ' 55 (u j)) i = (decide (i < 8) && isL J w (tg (8 * u j + i)))) → (∀ j, j < p → Bf (u j) = pcB (fun e => isL J w (tg (8 * u j + e)))) → (∀ n, (∀ j, j < p → u j ≠ n) → Bf n = 0) → σ' 52 5 = nI (sumN Bf J) →
      AJ Γ1 4 RX0 cX0_spread 4 none (ctrlP σ J tg w) 46 [some (.inr 52), some (.inr 23), some (.inr 46), some (.inl (nI p))] [] σ' := by
    intro hJ0 hw0 k
    have fin : ∀ (σ' : Mm) (Q : Nat) (u d pa ev Bf : Nat → Nat), FrC σ σ' → CI J tg (fun m => decide (w m = -9)) (σ' 53) (σ' 54) (σ' 56) Q u d pa ev → CX tg (fun m => decide (w m = -9)) Q u pa ev (8 * Q) → σ' 52 4 = nI Q → (∀ n, J ≤ n → n < 150 → σ' 53 n = -9) → (∀ j, j < Q → ∀ i, i < 32 → bt (σ' 55 (u j)) i = (decide (i < 8) && isL J w (tg (8 * u j + i)))) → (∀ j, j < Q → Bf (u j) = pcB (fun e => isL J w (tg (8 * u j + e)))) → (∀ n, (∀ j, j < Q → u j ≠ n) → Bf n = 0) → σ' 52 5 = nI (sumN Bf J) → ctrlP σ J tg w 0 σ' := by
      intro σ' Q u d pa ev Bf f1 f2 f3 f4 f5 f6 f7 f8 f9
      have hQJ : Q ≤ J := by rw [← f2.2.2.2.1]; exact cnt_le _ _
      refine ⟨f1, f5, Or.inr ⟨hJ0, hw0, Q, u, d, pa, ev, f2, f3, f4, fun n hn h9 i hi => ?_, ?_⟩⟩
      · obtain ⟨j, hj, rfl⟩ := (f2.2.2.2.2.2.2.2.1 n hn).elim (fun z => absurd z h9) id
        exact f6 j hj i hi
      · rw [f9, sum_cong J (fun n hn => ?_)]
        by_cases h9 : σ' 53 n = -9
        · rw [if_pos h9]
          refine f8 n (fun j hj q => ?_)
          have h1 := (f2.2.2.2.2.1 j hj).2.2.2.1
          have h2 := (f2.2.2.2.2.1 j hj).2.2.2.2
          rw [q, h9] at h1
          exact nI_z (by omega) h1.symm
        · rw [if_neg h9]
          obtain ⟨j, hj, rfl⟩ := (f2.2.2.2.2.2.2.2.1 n hn).elim (fun z => absurd z h9) id
          exact f7 j hj
    induction k with
    | zero =>
      intro p σ' Q u d pa ev Bf hk hpQ f1 f2 f3 f4 f5 f6 f7 f8 f9
      have hQJ : Q ≤ J := by rw [← f2.2.2.2.1]; exact cnt_le _ _
      obtain rfl : p = Q := by omega
      refine j_iload_n (pc := 46) dX0_spread_46 rfl ?_
      refine j_aload_n (pc := 47) dX0_spread_47 rfl ?_
      refine j_getI (pc := 48) dX0_spread_48 f_X0_24 (by first | rfl | with_reducible assumption) (by rfl) ?_
      refine j_top f4 ?_
      refine j_icmp_ge (pc := 51) (tgt := 79) dX0_spread_51 rfl (fun h51 => ?_) (fun h51 => absurd (Int32.le_refl _) h51)
      refine j_vret (pc := 79) dX0_spread_79 ?_
      exact fin σ' p u d pa ev Bf f1 f2 f3 f4 f5 f6 f7 f8 f9
    | succ k ih =>
      intro p σ' Q u d pa ev Bf hk hpQ f1 f2 f3 f4 f5 f6 f7 f8 f9
      have hQJ : Q ≤ J := by rw [← f2.2.2.2.1]; exact cnt_le _ _
      have hw' : σ' 47 = σ 47 := f1 47 (by decide)
      refine j_iload_n (pc := 46) dX0_spread_46 rfl ?_
      refine j_aload_n (pc := 47) dX0_spread_47 rfl ?_
      refine j_getI (pc := 48) dX0_spread_48 f_X0_24 (by first | rfl | with_reducible assumption) (by rfl) ?_
      refine j_top f4 ?_
      refine j_icmp_ge (pc := 51) (tgt := 79) dX0_spread_51 rfl (fun h51 => ?_) (fun h51 => ?_)
      · have hle := (nI_leI (by omega) (by omega)).mp h51
        refine j_vret (pc := 79) dX0_spread_79 ?_
        obtain rfl : p = Q := by omega
        exact fin σ' p u d pa ev Bf f1 f2 f3 f4 f5 f6 f7 f8 f9
      · have hlt : p < Q := by
          have : ¬ Q ≤ p := fun q => h51 ((nI_leI (by omega) (by omega)).mpr q)
          omega
        refine j_iload_n (pc := 54) dX0_spread_54 rfl ?_
        refine j_sipush (pc := 55) dX0_spread_55 (v := 150) (by decide) ?_
        refine j_icmp_ge (pc := 58) (tgt := 79) dX0_spread_58 rfl (fun h58 => absurd h58 (nI_ge (b := 150) (by omega) (by decide))) (fun h58 => ?_)
        refine j_aload_n (pc := 61) dX0_spread_61 rfl ?_
        refine j_aload_n (pc := 62) dX0_spread_62 rfl ?_
        refine j_getR (pc := 63) dX0_spread_63 f_X0_21 (by first | rfl | with_reducible assumption) (by rfl) ?_
        refine j_iload_n (pc := 66) dX0_spread_66 rfl ?_
        refine j_iald (pc := 67) dX0_spread_67 (by first | rfl | with_reducible assumption) (vp_in_nI (by omega) (by decide)) ?_
        refine j_top (y := nI (u p)) (by rw [nI_clamp (by omega)]; exact (f2.2.2.2.2.1 p hlt).2.2.1) ?_
        refine j_aload_n (pc := 68) dX0_spread_68 rfl ?_
        refine j_aload_n (pc := 69) dX0_spread_69 rfl ?_
        refine j_callVv (pc := 70) dX0_spread_70 k_X0_52 (c_X0_spreadFrom (hN.frC f1) (fun m hm => by rw [hw']; exact hw m hm) f2 f3 f4 hlt) (by first | rfl | with_reducible assumption) rfl rfl (by decide) rfl (Nat.le_of_ble_eq_true rfl) (fun σ1 hp => ?_)
        obtain ⟨g1, Q', u', d', pa', ev', x, g2, g3, g4, g5, g6, g7, g8, g9, g10⟩ := hp
        have hpn : pcnt x = pcB (fun e => isL J w (tg (8 * u p + e))) := pcnt_eq (fun e he => by rw [g7 e (by omega)]; simp [he])
        have hnew : ∀ j, j < p → u j ≠ u p := fun j hj q => by
          have := f2.2.2.2.2.2.2.2.2 j p (by omega) hlt q
          omega
        refine j_iinc1 (pc := 73) dX0_spread_73 rfl ?_
        refine j_goto (pc := 76) (tgt := 46) dX0_spread_76 rfl ?_
        rw [nI_1]
        refine ih (p + 1) _ Q' u' d' pa' ev' (updN Bf (u p) (pcnt x)) (by omega) (by omega) (f1.tr g1) g2 g3 g4 (fun n a b => by rw [g10 n a b]; exact f5 n a b) (fun j hj i hi => ?_) (fun j hj => ?_) (fun n hn => ?_) ?_
        · rw [g6 j (by omega), g8]
          by_cases q : j = p
          · subst q; rw [pk_us]; exact g7 i hi
          · rw [pk_un (hnew j (by omega))]; exact f6 j (by omega) i hi
        · rw [g6 j (by omega)]
          by_cases q : j = p
          · subst q; rw [updN_s]; exact hpn
          · rw [updN_n (hnew j (by omega))]; exact f7 j (by omega)
        · have hnp : n ≠ u p := fun q => hn p (by omega) (by rw [g6 p (by omega)]; exact q.symm)
          rw [updN_n hnp]
          exact f8 n (fun j hj => by have := hn j (by omega); rw [g6 j (by omega)] at this; exact this)
        · rw [g9, f9, nI_add, sum_upd (f8 (u p) hnew) J (f2.2.2.2.2.1 p hlt).1]
  have ai : ∀ x, x ≠ 52 → x ≠ 53 → m_up (m_up (m_fill σ 53 150 (-9)) 52 4 0) 52 5 0 x = σ x := fun x a b => by rw [m_ne a, m_ne a]; simp [m_fill, b]
  have a53 : ∀ n, n < 150 → m_up (m_up (m_fill σ 53 150 (-9)) 52 4 0) 52 5 0 53 n = -9 := fun n hn => by rw [m_ne (by decide), m_ne (by decide)]; simp [m_fill, hn]
  generalize hσi : m_up (m_up (m_fill σ 53 150 (-9)) 52 4 0) 52 5 0 = σi at ai a53
  have a4 : σi 52 4 = 0 := by rw [← hσi, m_nk (by decide), m_eq]
  have a5 : σi 52 5 = 0 := by rw [← hσi, m_eq]
  have hFi : FrC σ σi := fun x hx => ai x (by omega) (by omega)
  have hNi : NL σi J tg fn cl := hN.frC hFi
  have hwi : σi 47 = σ 47 := hFi 47 (by decide)
  refine EV.intro (by decide +kernel) (Nat.le_of_ble_eq_true rfl) ?_
  refine j_aload_n (pc := 0) dX0_spread_0 rfl ?_
  refine j_getR (pc := 1) dX0_spread_1 f_X0_9 (by first | rfl | with_reducible assumption) (by rfl) ?_
  refine j_bipush (pc := 4) dX0_spread_4 (v := (-9)) (by decide) ?_
  refine j_callSv (pc := 6) dX0_spread_6 k_X0_31 (c_fill (by first | rfl | assumption) (by decide) _ _) rfl (by decide) rfl (Nat.le_of_ble_eq_true rfl) (fun σ1 hp => ?_)
  obtain rfl := hp
  refine j_aload_n (pc := 9) dX0_spread_9 rfl ?_
  refine j_iconst (pc := 10) dX0_spread_10 (v := 0) (by decide) ?_
  refine j_put (pc := 11) dX0_spread_11 f_X0_24 (by first | rfl | with_reducible assumption) (by rfl) ?_
  refine j_aload_n (pc := 14) dX0_spread_14 rfl ?_
  refine j_iconst (pc := 15) dX0_spread_15 (v := 0) (by decide) ?_
  refine j_put (pc := 16) dX0_spread_16 f_X0_28 (by first | rfl | with_reducible assumption) (by rfl) ?_
  rw [hσi]
  refine j_aload_n (pc := 19) dX0_spread_19 rfl ?_
  refine j_iconst (pc := 20) dX0_spread_20 (v := 0) (by decide) ?_
  refine j_callVNi (pc := 21) dX0_spread_21 k_X0_37 (c_X3_has isN_net 0 hNi.1.2.1 hJ) (by first | rfl | with_reducible assumption) rfl rfl (by decide) rfl (Nat.le_of_ble_eq_true rfl) (fun r σ1 hp => ?_)
  obtain ⟨rfl, hp⟩ := hp
  rcases hp with ⟨q21, rfl⟩ | ⟨q21, rfl⟩
  · have hJ0 : 0 < J := by
      rw [vp_in_iff] at q21
      have : (0 : Int32).toInt = 0 := rfl
      omega
    refine j_if_eq (pc := 24) (tgt := 35) dX0_spread_24 rfl (fun h => absurd h (by decide)) (fun _ => ?_)
    refine j_aload_n (pc := 27) dX0_spread_27 rfl ?_
    refine j_iconst (pc := 28) dX0_spread_28 (v := 0) (by decide) ?_
    refine j_callVNi (pc := 29) dX0_spread_29 k_X0_43 (c_X1_isLost _ _) (by first | rfl | with_reducible assumption) rfl rfl (by decide) rfl (Nat.le_of_ble_eq_true rfl) (fun r σ1 hp => ?_)
    obtain ⟨rfl, hp⟩ := hp
    rcases hp with ⟨q29, rfl⟩ | ⟨q29, rfl⟩
    · have hw0 : w 0 ≠ -9 := by
        rw [show (0 : Int32) = nI 0 from rfl, fo_nI (by decide) (by decide), hwi, hw 0 hJ0] at q29
        exact q29
      refine j_if_eq (pc := 32) (tgt := 36) dX0_spread_32 rfl (fun h => absurd h (by decide)) (fun _ => ?_)
      refine j_vret (pc := 35) dX0_spread_35 ?_
      exact ⟨hFi, fun n _ b => a53 n b, Or.inl ⟨fun q => by first | exact hJ0 q.1 | exact hw0 q.2, a53, a4, a5⟩⟩
    · have hw0 : w 0 = -9 := Classical.byContradiction fun z => q29 (by rw [show (0 : Int32) = nI 0 from rfl, fo_nI (by decide) (by decide), hwi, hw 0 hJ0]; exact z)
      refine j_if_eq (pc := 32) (tgt := 36) dX0_spread_32 rfl (fun _ => ?_) (fun h => absurd h (by decide))
      refine j_aload_n (pc := 36) dX0_spread_36 rfl ?_
      refine j_iconst (pc := 37) dX0_spread_37 (v := 0) (by decide) ?_
      refine j_bipush (pc := 38) dX0_spread_38 (v := (-9)) (by decide) ?_
      refine j_iconst (pc := 40) dX0_spread_40 (v := 0) (by decide) ?_
      refine j_callVv (pc := 41) dX0_spread_41 k_X0_48 (c_X0_comeTo (n := 0) (Q := 0) (by decide) _ _ a4 (by decide)) (by first | rfl | with_reducible assumption) rfl rfl (by decide) rfl (Nat.le_of_ble_eq_true rfl) (fun σ1 hp => ?_)
      obtain rfl := hp
      refine j_iconst (pc := 44) dX0_spread_44 (v := 0) (by decide) ?_
      refine j_istore_n (pc := 45) dX0_spread_45 (by decide) ?_
      have r53 : m_up (m_up (m_up (m_up σi 53 0 0) 54 0 (-9)) 56 0 (nI 0)) 52 4 (nI (0 + 1)) 53 = upd (σi 53) 0 0 := by rw [m_ne (by decide), m_ne (by decide), m_ne (by decide), m_row]
      have hc0 : cntF (upd (σi 53) 0 0) J = 1 := by
        rw [cnt_upd (a53 0 (by decide)) (by decide) J hJ0]
        have : cntF (σi 53) J = 0 := by rw [cnt_same J (w' := fun _ => -9) (fun n hn => by rw [a53 n (by omega)]), cntF_0]
        omega
      refine loop hJ0 hw0 150 0 _ 1 (fun _ => 0) (fun _ => 0) (fun _ => 0) (fun _ => 0) (fun _ => 0) rfl (by decide) ((((hFi.up (by decide)).up (by decide)).up (by decide)).up (by decide)) ?_ ?_ (m_eq _ _ _ _) ?_ (fun j hj => absurd hj (Nat.not_lt_zero _)) (fun j hj => absurd hj (Nat.not_lt_zero _)) (fun _ _ => rfl) ?_
      · rw [r53]
        refine ⟨by decide, rfl, rfl, hc0, fun i hi => ?_, fun i h0 hi => absurd hi (by omega), fun i j h0 hij hj => absurd hj (by omega), fun n hn => ?_, fun i j hi hj _ => by omega⟩
        · obtain rfl : i = 0 := by omega
          refine ⟨hJ0, decide_eq_true hw0, ?_, pk_us, Nat.le_refl _⟩
          rw [m_ne (by decide), m_row]
          exact pk_us
        · by_cases q : n = 0
          · exact Or.inr ⟨0, by decide, q.symm⟩
          · rw [pk_un q]; exact Or.inl (a53 n (by omega))
      · exact ⟨fun i e hi he hx => absurd hx (by omega), fun i h0 hi => absurd hi (by omega)⟩
      · intro n a b
        rw [r53, pk_un (by omega)]
        exact a53 n b
      · rw [m_nk (by decide), m_ne (by decide), m_ne (by decide), m_ne (by decide), a5]
        have : sumN (fun _ => 0) J = 0 := by
          have := sum_le (f := fun _ => 0) (c := 0) J (fun _ _ => Nat.le_refl _)
          omega
        rw [this]
        rfl
  · have hJ0 : ¬ 0 < J := fun q => q21 (vp_in_nI (n := 0) q (by omega))
    refine j_if_eq (pc := 24) (tgt := 35) dX0_spread_24 rfl (fun _ => ?_) (fun h => absurd h (by decide))
    refine j_vret (pc := 35) dX0_spread_35 ?_
    exact ⟨hFi, fun n _ b => a53 n b, Or.inl ⟨fun q => by first | exact hJ0 q.1 | exact hw0 q.2, a53, a4, a5⟩⟩
/-- eventTo: the EVENT at a place of the queue's way -/
theorem c_X0_eventTo {σ : Mm} {J Q : Nat} {tg : Nat → Int32} {kp : Nat → Bool} {u d pa ev : Nat → Nat} (hI : CI J tg kp (σ 53) (σ 54) (σ 56) Q u d pa ev) (hJ : J ≤ 150) {i k : Nat} (hi : i < Q) (hk : k < 150) : EV Γ1 2 yX0_eventTo cX0_eventTo 5 (some .int) [.inr 52, .inl (nI (u i)), .inl (nI k)] σ (vz (if k < d i then nI (ev (upP pa (d i - (k + 1)) i)) else -9) σ) := by
  have hQJ : Q ≤ J := by rw [← hI.2.2.2.1]; exact cnt_le _ _
  have hup := hI.up hi
  have hdi := (hI.2.2.2.2.1 i hi).2.2.2.2
  have dep : ∀ s, s ≤ d i → fo 150 (σ 53) (nI (u (upP pa s i))) = nI (d i - s) := fun s hs => by
    obtain ⟨a, b⟩ := hup s hs
    have h1 := hI.2.2.2.2.1 (upP pa s i) (by omega)
    rw [fo_nI (by omega) (by decide), h1.2.2.2.1, b]
  have loop : ∀ (q s : Nat), s + q = 150 → (s = 0 ∨ s + (k + 1) ≤ d i) → s ≤ d i → AJ Γ1 2 RX0 cX0_eventTo 5 (some .int) (vz (if k < d i then nI (ev (upP pa (d i - (k + 1)) i)) else -9) σ) 5 [some (.inr 52), some (.inl (nI (u i))), some (.inl (nI k)), some (.inl (nI (u (upP pa s i)))), some (.inl (nI s))] [] σ := by
    intro q
    induction q with
    | zero => intro s hs h1 h2; omega
    | succ q ih =>
      intro s hs h1 h2
      obtain ⟨a, b⟩ := hup s h2
      have h3 := hI.2.2.2.2.1 (upP pa s i) (by omega)
      have hcv : (nI (u (upP pa s i))).toNatClampNeg = u (upP pa s i) := nI_clamp (by omega)
      have hvv : vp_in (nI (u (upP pa s i))) 150 := vp_in_nI (by omega) (by decide)
      refine j_iload (pc := 5) dX0_eventTo_5 rfl ?_
      refine j_sipush (pc := 7) dX0_eventTo_7 (v := 150) (by decide) ?_
      refine j_icmp_ge (pc := 10) (tgt := 40) dX0_eventTo_10 rfl (fun h10 => absurd h10 (nI_ge (b := 150) (by omega) (by decide))) (fun h10 => ?_)
      refine j_aload_n (pc := 13) dX0_eventTo_13 rfl ?_
      refine j_iload_n (pc := 14) dX0_eventTo_14 rfl ?_
      refine j_callVi (pc := 15) dX0_eventTo_15 k_X0_79 (c_X0_depthOf _ _) (by first | rfl | with_reducible assumption) rfl rfl (by decide) rfl (Nat.le_of_ble_eq_true rfl) (fun r σ1 hp => ?_)
      obtain ⟨rfl, rfl⟩ := hp
      refine j_top (dep s h2) ?_
      refine j_iload_n (pc := 18) dX0_eventTo_18 rfl ?_
      refine j_iconst (pc := 19) dX0_eventTo_19 (v := 1) (by decide) ?_
      refine j_iadd (pc := 20) dX0_eventTo_20 ?_
      rw [nI_1]
      refine j_icmp_le (pc := 21) (tgt := 40) dX0_eventTo_21 rfl (fun h21 => ?_) (fun h21 => ?_)
      · have hle := (nI_leI (by omega) (by omega)).mp h21
        refine j_aload_n (pc := 40) dX0_eventTo_40 rfl ?_
        refine j_iload_n (pc := 41) dX0_eventTo_41 rfl ?_
        refine j_callVi (pc := 42) dX0_eventTo_42 k_X0_79 (c_X0_depthOf _ _) (by first | rfl | with_reducible assumption) rfl rfl (by decide) rfl (Nat.le_of_ble_eq_true rfl) (fun r σ1 hp => ?_)
        obtain ⟨rfl, rfl⟩ := hp
        refine j_top (dep s h2) ?_
        refine j_iload_n (pc := 45) dX0_eventTo_45 rfl ?_
        refine j_iconst (pc := 46) dX0_eventTo_46 (v := 1) (by decide) ?_
        refine j_iadd (pc := 47) dX0_eventTo_47 ?_
        rw [nI_1]
        refine j_icmp_ne (pc := 48) (tgt := 63) dX0_eventTo_48 rfl (fun h48 => ?_) (fun h48 => ?_)
        · have hne : d i - s ≠ k + 1 := fun z => h48 (by rw [z])
          refine j_bipush (pc := 63) dX0_eventTo_63 (v := (-9)) (by decide) ?_
          refine j_iret (pc := 65) dX0_eventTo_65 ?_
          first
            | exact ⟨rfl, by rw [if_neg (by omega)]⟩
            | (refine ⟨rfl, ?_⟩
               have := (hI.2.2.2.2.1 (pa (upP pa s i)) (by omega)).1
               rw [if_pos (by omega), show d i - (k + 1) = s by omega, show (8 : Int32) = nI 8 from rfl, pk_rem (by omega) (by decide) (by decide), show (8 * u (pa (upP pa s i)) + ev (upP pa s i)) % 8 = ev (upP pa s i) by omega])
        · have heq := (nI_eq (by omega) (by omega)).mp h48
          have hc0 : 0 < upP pa s i := by
            apply Classical.byContradiction
            intro z
            have z0 : upP pa s i = 0 := by omega
            rw [z0, hI.2.2.1] at b
            omega
          obtain ⟨e1, e2, e3, e4, e5⟩ := hI.2.2.2.2.2.1 (upP pa s i) hc0 (by omega)
          refine j_aload_n (pc := 51) dX0_eventTo_51 rfl ?_
          refine j_getR (pc := 52) dX0_eventTo_52 f_X0_15 (by first | rfl | with_reducible assumption) (by rfl) ?_
          refine j_iload_n (pc := 55) dX0_eventTo_55 rfl ?_
          refine j_iald (pc := 56) dX0_eventTo_56 (by first | rfl | with_reducible assumption) hvv ?_
          refine j_top (y := nI (8 * u (pa (upP pa s i)) + ev (upP pa s i))) (by rw [hcv]; exact e5) ?_
          refine j_bipush (pc := 57) dX0_eventTo_57 (v := 8) (by decide) ?_
          refine j_irem (pc := 59) dX0_eventTo_59 (by decide) ?_
          refine j_goto (pc := 60) (tgt := 65) dX0_eventTo_60 rfl ?_
          refine j_iret (pc := 65) dX0_eventTo_65 ?_
          first
            | exact ⟨rfl, by rw [if_neg (by omega)]⟩
            | (refine ⟨rfl, ?_⟩
               have := (hI.2.2.2.2.1 (pa (upP pa s i)) (by omega)).1
               rw [if_pos (by omega), show d i - (k + 1) = s by omega, show (8 : Int32) = nI 8 from rfl, pk_rem (by omega) (by decide) (by decide), show (8 * u (pa (upP pa s i)) + ev (upP pa s i)) % 8 = ev (upP pa s i) by omega])
      · have hgt : k + 1 < d i - s := by
          have : ¬ d i - s ≤ k + 1 := fun z => h21 ((nI_leI (by omega) (by omega)).mpr z)
          omega
        have hc0 : 0 < upP pa s i := by
          apply Classical.byContradiction
          intro z
          have z0 : upP pa s i = 0 := by omega
          rw [z0, hI.2.2.1] at b
          omega
        obtain ⟨e1, e2, e3, e4, e5⟩ := hI.2.2.2.2.2.1 (upP pa s i) hc0 (by omega)
        refine j_aload_n (pc := 24) dX0_eventTo_24 rfl ?_
        refine j_getR (pc := 25) dX0_eventTo_25 f_X0_15 (by first | rfl | with_reducible assumption) (by rfl) ?_
        refine j_iload_n (pc := 28) dX0_eventTo_28 rfl ?_
        refine j_iald (pc := 29) dX0_eventTo_29 (by first | rfl | with_reducible assumption) hvv ?_
        refine j_top (y := nI (8 * u (pa (upP pa s i)) + ev (upP pa s i))) (by rw [hcv]; exact e5) ?_
        refine j_bipush (pc := 30) dX0_eventTo_30 (v := 8) (by decide) ?_
        refine j_idiv (pc := 32) dX0_eventTo_32 (by decide) ?_
        refine j_top (y := nI (u (upP pa (s + 1) i))) (by
          have := (hI.2.2.2.2.1 (pa (upP pa s i)) (by omega)).1
          rw [show (8 : Int32) = nI 8 from rfl, pk_div (by omega) (by decide) (by decide), show (8 * u (pa (upP pa s i)) + ev (upP pa s i)) / 8 = u (pa (upP pa s i)) by omega]
          rfl) ?_
        refine j_istore_n (pc := 33) dX0_eventTo_33 (by decide) ?_
        refine j_iinc1 (pc := 34) dX0_eventTo_34 rfl ?_
        refine j_goto (pc := 37) (tgt := 5) dX0_eventTo_37 rfl ?_
        rw [nI_1]
        exact ih (s + 1) (by omega) (Or.inr (by omega)) (by omega)
  refine EV.intro (by decide +kernel) (Nat.le_of_ble_eq_true rfl) ?_
  refine j_iload_n (pc := 0) dX0_eventTo_0 rfl ?_
  refine j_istore_n (pc := 1) dX0_eventTo_1 (by decide) ?_
  refine j_iconst (pc := 2) dX0_eventTo_2 (v := 0) (by decide) ?_
  refine j_istore (pc := 3) dX0_eventTo_3 (by decide) ?_
  exact loop 150 0 rfl (Or.inl rfl) (Nat.zero_le _)
