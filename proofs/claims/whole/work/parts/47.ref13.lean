/-! LEASTBARSMODEL: knows, isJoint, isShut -/
def FrW (σ σ' : Mm) : Prop := (∀ x, x ≠ 0 → (x < 10 ∨ x = 15) → σ' x = σ x) ∧ ∀ f, f ≠ 20 → σ' 0 f = σ 0 f
section Know
variable {σ : Mm} {n0 : Nat} {t : Nat → Int32} {N : Nat} {K : Nat → Int32} {M : Nat → MV} {fs : Int32} {h : List Int32} {pl : Int32}
theorem FrW.x {σ' σ'' : Mm} (h1 : FrW σ σ') (h2 : FrX σ' σ'') : FrW σ σ'' := ⟨fun x a b => (h2 x b).trans (h1.1 x a b), fun f a => by rw [h2 0 (by decide)]; exact h1.2 f a⟩
theorem FrW.u {σ' : Mm} {v : Int32} (h1 : FrW σ σ') : FrW σ (m_up σ' 0 20 v) := ⟨fun x a b => (m_ne a).trans (h1.1 x a b), fun f a => (m_nk a).trans (h1.2 f a)⟩
theorem FrW.rf : FrW σ σ := ⟨fun _ _ _ => rfl, fun _ _ => rfl⟩
theorem R2b.frW {σ' : Mm} (hb : R2b σ n0 t N K M) (h : FrW σ σ') : R2b σ' n0 t N K M := by
  obtain ⟨a1, a2, a3, a4, a5, a6⟩ := hb
  refine ⟨by rw [h.2 1 (by decide)]; exact a1, a2, by rw [h.1 1 (by decide) (by decide)]; exact a3, by rw [h.2 2 (by decide)]; exact a4, a5, fun m hm => ?_⟩
  obtain ⟨x, y, z⟩ := a6 m hm
  exact ⟨x.cells (fun x _ _ => h.1 x (by omega) (by omega)), by rw [h.1 2 (by decide) (by decide)]; exact y, z⟩
theorem NG2.frW {σ' : Mm} {T : Tab} {set : Int32} (hG : NG2 σ T set) (h : FrW σ σ') : NG2 σ' T set := by
  unfold NG2 at *
  rw [h.2 11 (by decide), h.1 8 (by decide) (by decide), h.1 9 (by decide) (by decide)]
  exact hG
theorem R2b.u0 {f : Nat} {v : Int32} (hb : R2b σ n0 t N K M) (h1 : f ≠ 1) (h2 : f ≠ 2) : R2b (m_up σ 0 f v) n0 t N K M := by
  obtain ⟨a1, a2, a3, a4, a5, a6⟩ := hb
  refine ⟨by rw [m_nk (by omega)]; exact a1, a2, by rw [m_ne (by decide)]; exact a3, by rw [m_nk (by omega)]; exact a4, a5, fun m hm => ?_⟩
  obtain ⟨x, y, z⟩ := a6 m hm
  exact ⟨x.cells (fun x _ _ => m_ne (by omega)), by rw [m_ne (by decide)]; exact y, z⟩
/-- what is known then -/
def knowP (σ : Mm) (T : Tab) (set fs : Int32) : Int32 → Mm → Prop := fun _ σ' => (∀ x, (0 < x ∧ x < 8) ∨ x = 15 → σ' x = σ x) ∧ (∀ f, f ≠ 11 → f ≠ 14 → f ≠ 20 → σ' 0 f = σ 0 f) ∧ σ' 0 14 = 1 ∧ D2 σ' T set fs
theorem LW2.same {J : Nat} {W W' : LT} (hL : LW2 σ J W') (h : ∀ n, n < J → W'.1 n = W.1 n ∧ W'.2.1 n = W.2.1 n ∧ W'.2.2 n = W.2.2 n) : LW2 σ J W := fun n hn => by
  obtain ⟨a, b, c⟩ := h n hn
  rw [← a, ← b, ← c]
  exact hL n hn
theorem c_X8_knows2 {σ1 : Mm} (hb : R2b σ1 n0 t N K M) (hO : ¬ Over (TA N K M) (allS N)) (hG : NG2 σ1 (TA N K M) (allS N)) (hfs : σ1 0 9 = fs) (h14 : σ1 0 14 = 1) (hF1 : (∀ x, (0 < x ∧ x < 8) ∨ x = 15 → σ1 x = σ x) ∧ (∀ f, f ≠ 11 → f ≠ 14 → f ≠ 20 → σ1 0 f = σ 0 f)) :
    ∀ (r k : Nat) (σ' : Mm), k + r = 151 → FrW σ1 σ' → σ' 0 20 = nI (k + 1) → LW2 σ' (gJ (TA N K M) (allS N)) (gW (TA N K M) (allS N) fs k) → (∀ i, i < k → lstep (gJ (TA N K M) (allS N)) (toX (TA N K M) (allS N)) (gF (TA N K M) (allS N)) (fun e => bt fs e) (gW (TA N K M) (allS N) fs i) (i + 1) ≠ none) → AJ Γ2 4 RX8 cX8_knows 1 none (knowP σ (TA N K M) (allS N) fs) 39 [some (.inr 0)] [] σ' := by
  have hJ := hG.1
  intro r
  induction r with
  | zero =>
    intro k σ' hk hF hw hL hst
    have h1 := lts_cnt (cl := gL (TA N K M) (allS N)) hJ hst
    have h2 := cnt_le (lts (gJ (TA N K M) (allS N)) (toX (TA N K M) (allS N)) (gF (TA N K M) (allS N)) (gL (TA N K M) (allS N)) (fun e => bt fs e) k).1 (gJ (TA N K M) (allS N))
    omega
  | succ r ih =>
    intro k σ' hk hF hw hL hst
    have hbk := hb.frW hF
    have hGk := hG.frW hF
    have hfk : σ' 0 9 = fs := by rw [hF.2 9 (by decide)]; exact hfs
    have hwk : ∀ m, m < gJ (TA N K M) (allS N) → (gW (TA N K M) (allS N) fs k).1 m = -9 ∨ ∃ i, i < k + 1 ∧ (gW (TA N K M) (allS N) fs k).1 m = nI i := fun m _ => by
      rcases lts_w (J := gJ (TA N K M) (allS N)) (tg := toX (TA N K M) (allS N)) (fn := gF (TA N K M) (allS N)) (cl := gL (TA N K M) (allS N)) (fr := fun e => bt fs e) k m with a | ⟨i, a, b⟩
      · exact Or.inl a
      · exact Or.inr ⟨i, by omega, b⟩
    have stepk : ∀ σ2 : Mm, FrW σ1 σ2 → σ2 0 20 = nI (k + 1) → LW2 σ2 (gJ (TA N K M) (allS N)) (gW (TA N K M) (allS N) fs (k + 1)) → lstep (gJ (TA N K M) (allS N)) (toX (TA N K M) (allS N)) (gF (TA N K M) (allS N)) (fun e => bt fs e) (gW (TA N K M) (allS N) fs k) (k + 1) ≠ none → AJ Γ2 4 RX8 cX8_knows 1 none (knowP σ (TA N K M) (allS N) fs) 61 [some (.inr 0)] [] σ2 := by
      intro σ2 hF2 hw2 hL2 hne
      refine j_aload_n (pc := 61) dX8_knows_61 rfl ?_
      refine j_dup (pc := 62) dX8_knows_62 ?_
      refine j_getI (pc := 63) dX8_knows_63 f_X8_162 (by first | rfl | with_reducible assumption) (by rfl) ?_
      refine j_top hw2 ?_
      refine j_iconst (pc := 66) dX8_knows_66 (v := 1) (by decide) ?_
      refine j_iadd (pc := 67) dX8_knows_67 ?_
      rw [nI_1]
      refine j_put (pc := 68) dX8_knows_68 f_X8_162 (by first | rfl | with_reducible assumption) (by rfl) ?_
      refine j_goto (pc := 71) (tgt := 39) dX8_knows_71 rfl ?_
      refine ih (k + 1) _ (by omega) hF2.u (m_eq _ _ _ _) ?_ (fun i hi => ?_)
      · unfold LW2 at hL2 ⊢
        rw [m_ne (by decide), m_ne (by decide), m_ne (by decide)]
        exact hL2
      · by_cases z : i = k
        · subst z; exact hne
        · exact hst i (by omega)
    refine j_aload_n (pc := 39) dX8_knows_39 rfl ?_
    refine j_aload_n (pc := 40) dX8_knows_40 rfl ?_
    refine j_getI (pc := 41) dX8_knows_41 f_X8_162 (by first | rfl | with_reducible assumption) (by rfl) ?_
    refine j_top hw ?_
    refine j_callVi (pc := 44) dX8_knows_44 k_X8_171 (c_X8_losesPushed (W := gW (TA N K M) (allS N) fs k) (k := k + 1) (fs := fs) hJ hGk.2.1 hGk.2.2.2 (gT_lt hJ) hfk (by omega) hwk hL) (by first | rfl | with_reducible assumption) rfl rfl (by decide) rfl (Nat.le_of_ble_eq_true rfl) (fun r σ2 hp => ?_)
    obtain ⟨g1, g2, g3⟩ := hp
    refine j_if_ne (pc := 47) (tgt := 61) dX8_knows_47 rfl (fun h47 => ?_) (fun h47 => ?_)
    · have hP : anyP (gJ (TA N K M) (allS N)) (toX (TA N K M) (allS N)) (fun e => bt fs e) (gW (TA N K M) (allS N) fs k) := g3.elim (fun z => z.2) (fun z => absurd z.1 h47)
      have e1 : gW (TA N K M) (allS N) fs (k + 1) = pushT (gJ (TA N K M) (allS N)) (toX (TA N K M) (allS N)) (fun e => bt fs e) (gW (TA N K M) (allS N) fs k) (k + 1) := lts_P hP
      exact stepk σ2 (hF.x g1) (by rw [g1 0 (by decide)]; exact hw) (by rw [e1]; exact g2) (by rw [lstep_P hP]; simp)
      skip
    · have hP : ¬ anyP (gJ (TA N K M) (allS N)) (toX (TA N K M) (allS N)) (fun e => bt fs e) (gW (TA N K M) (allS N) fs k) := g3.elim (fun z => absurd (z.1.symm.trans h47) (by decide)) (fun z => z.2)
      have hL2 : LW2 σ2 (gJ (TA N K M) (allS N)) (gW (TA N K M) (allS N) fs k) := g2.same (fun n hn => by
        have hc : ¬ ((gW (TA N K M) (allS N) fs k).1 n = -9 ∧ puE (gJ (TA N K M) (allS N)) (toX (TA N K M) (allS N)) (fun e => bt fs e) (gW (TA N K M) (allS N) fs k).1 n ≠ -9) := fun z => hP ⟨n, hn, z⟩
        exact ⟨if_neg hc, if_neg hc, if_neg hc⟩)
      have hF2 := hF.x g1
      refine j_aload_n (pc := 50) dX8_knows_50 rfl ?_
      refine j_aload_n (pc := 51) dX8_knows_51 rfl ?_
      refine j_getI (pc := 52) dX8_knows_52 f_X8_162 (by first | rfl | with_reducible assumption) (by rfl) ?_
      refine j_top (y := nI (k + 1)) (by rw [g1 0 (by decide)]; exact hw) ?_
      refine j_callVi (pc := 55) dX8_knows_55 k_X8_174 (c_X8_losesStuck (W := gW (TA N K M) (allS N) fs k) (k := k + 1) (hb.frW hF2) (hG.frW hF2) hL2) (by first | rfl | with_reducible assumption) rfl rfl (by decide) rfl (Nat.le_of_ble_eq_true rfl) (fun r σ3 hp => ?_)
      obtain ⟨g4, g5, g6⟩ := hp
      refine j_if_eq (pc := 58) (tgt := 74) dX8_knows_58 rfl (fun h58 => ?_) (fun h58 => ?_)
      · have hS : ¬ anyS (gJ (TA N K M) (allS N)) (toX (TA N K M) (allS N)) (gF (TA N K M) (allS N)) (gW (TA N K M) (allS N) fs k) := g6.elim (fun z => absurd (z.1.symm.trans h58) (by decide)) (fun z => z.2)
        have hL3 : LW2 σ3 (gJ (TA N K M) (allS N)) (gW (TA N K M) (allS N) fs k) := g5.same (fun n hn => by
          have hc : ¬ ((gW (TA N K M) (allS N) fs k).1 n = -9 ∧ stkB (gJ (TA N K M) (allS N)) (toX (TA N K M) (allS N)) (gF (TA N K M) (allS N)) (gW (TA N K M) (allS N) fs k).1 n = true) := fun z => hS ⟨n, hn, z⟩
          exact ⟨if_neg hc, if_neg hc, if_neg hc⟩)
        have hF3 := hF2.x g4
        have hG3 := hG.frW hF3
        refine j_aload_n (pc := 74) dX8_knows_74 rfl ?_
        refine j_callVv (pc := 75) dX8_knows_75 k_X8_177 (c_X8_findControlled (W := (gW (TA N K M) (allS N) fs k).1) hJ (g_pos _ _) hG3.2.1 hG3.2.2.2 (gT_lt hJ) (fun m hm => (hL3 m hm).1)) (by first | rfl | with_reducible assumption) rfl rfl (by decide) rfl (Nat.le_of_ble_eq_true rfl) (fun σ4 hp => ?_)
        obtain ⟨g7, g8⟩ := hp
        refine j_vret (pc := 78) dX8_knows_78 ?_
        have hF4 := hF3.x (g7.x (by decide))
        have h1 := lts_cnt (cl := gL (TA N K M) (allS N)) hJ hst
        have h2 := cnt_le (lts (gJ (TA N K M) (allS N)) (toX (TA N K M) (allS N)) (gF (TA N K M) (allS N)) (gL (TA N K M) (allS N)) (fun e => bt fs e) k).1 (gJ (TA N K M) (allS N))
        refine ⟨fun x hx => ?_, fun f a b c => ?_, ?_, Or.inr ⟨hO, hG.frW hF4, k, by omega, ⟨hst, lstep_N hP hS⟩, ?_, ?_, g8⟩⟩
        · rw [hF4.1 x (by omega) (by omega)]; exact hF1.1 x hx
        · rw [hF4.2 f c]; exact hF1.2 f a b c
        · rw [hF4.2 14 (by decide)]; exact h14
        · rw [g7 0 (by decide), g4 0 (by decide), g1 0 (by decide)]; exact hw
        · unfold LW2 at hL3 ⊢
          rw [g7 10 (by decide), g7 11 (by decide), g7 12 (by decide)]
          exact hL3
      · have hS : anyS (gJ (TA N K M) (allS N)) (toX (TA N K M) (allS N)) (gF (TA N K M) (allS N)) (gW (TA N K M) (allS N) fs k) := g6.elim (fun z => z.2) (fun z => absurd z.1 h58)
        have e1 : gW (TA N K M) (allS N) fs (k + 1) = stuckT (gJ (TA N K M) (allS N)) (toX (TA N K M) (allS N)) (gF (TA N K M) (allS N)) (gW (TA N K M) (allS N) fs k) (k + 1) := lts_S hP hS
        exact stepk σ3 (hF2.x g4) (by rw [g4 0 (by decide), g1 0 (by decide)]; exact hw) (by rw [e1]; exact g5) (by rw [lstep_S hP hS]; simp)
theorem c_X8_knows (q : R2 σ n0 t N K M fs h pl) : EV Γ2 4 yX8_knows cX8_knows 1 none [.inr 0] σ (fun _ σ' => R2 σ' n0 t N K M fs h pl ∧ D2 σ' (TA N K M) (allS N) fs) := by
  have qq := q
  obtain ⟨hb, hfs, hD, hTr, hTV⟩ := q
  have h6 := hb.2.2.2.2.1
  have fin : ∀ r σ', knowP σ (TA N K M) (allS N) fs r σ' → (R2 σ' n0 t N K M fs h pl ∧ D2 σ' (TA N K M) (allS N) fs) := by
    rintro r σ' ⟨a1, a2, a3, a4⟩
    refine ⟨⟨?_, by rw [a2 9 (by decide) (by decide) (by decide)]; exact hfs, Or.inr ⟨a3, a4⟩, hTr.cells (a2 21 (by decide) (by decide) (by decide)) (a2 22 (by decide) (by decide) (by decide)) (a1 15 (by decide)), hTV⟩, a4⟩
    obtain ⟨b1, b2, b3, b4, b5, b6⟩ := hb
    refine ⟨by rw [a2 1 (by decide) (by decide) (by decide)]; exact b1, b2, by rw [a1 1 (by decide)]; exact b3, by rw [a2 2 (by decide) (by decide) (by decide)]; exact b4, b5, fun m hm => ?_⟩
    obtain ⟨x, y, z⟩ := b6 m hm
    exact ⟨x.cells (fun x _ _ => a1 x (by omega)), by rw [a1 2 (by decide)]; exact y, z⟩
  refine EV.intro (by decide +kernel) (Nat.le_of_ble_eq_true rfl) ?_
  rcases hD with h14 | ⟨h14, hD⟩
  · refine AJ.mono fin ?_
    have hba : R2b (m_up (m_up σ 0 14 1) 0 20 0) n0 t N K M := (hb.u0 (by decide) (by decide)).u0 (by decide) (by decide)
    refine j_aload_n (pc := 0) dX8_knows_0 rfl ?_
    refine j_getI (pc := 1) dX8_knows_1 f_X8_105 (by first | rfl | with_reducible assumption) (by rfl) ?_
    refine j_top h14 ?_
    refine j_if_eq (pc := 4) (tgt := 8) dX8_knows_4 rfl (fun h4 => ?_) (fun h4 => absurd rfl h4)
    refine j_aload_n (pc := 8) dX8_knows_8 rfl ?_
    refine j_iconst (pc := 9) dX8_knows_9 (v := 1) (by decide) ?_
    refine j_putZ (pc := 10) dX8_knows_10 f_X8_105 (by first | rfl | with_reducible assumption) (by rfl) (Or.inr rfl) ?_
    refine j_aload_n (pc := 13) dX8_knows_13 rfl ?_
    refine j_iconst (pc := 14) dX8_knows_14 (v := 0) (by decide) ?_
    refine j_put (pc := 15) dX8_knows_15 f_X8_162 (by first | rfl | with_reducible assumption) (by rfl) ?_
    refine j_aload_n (pc := 18) dX8_knows_18 rfl ?_
    refine j_aload_n (pc := 19) dX8_knows_19 rfl ?_
    refine j_callVi (pc := 20) dX8_knows_20 k_X8_155 (c_X8_all hba.2.2.2.1 h6) (by first | rfl | with_reducible assumption) rfl rfl (by decide) rfl (Nat.le_of_ble_eq_true rfl) (fun r σ1 hp => ?_)
    obtain ⟨rfl, rfl⟩ := hp
    refine j_callVi (pc := 23) dX8_knows_23 k_X8_165 (c_X8_builds hba (all_lt h6)) (by first | rfl | with_reducible assumption) rfl rfl (by decide) rfl (Nat.le_of_ble_eq_true rfl) (fun r σ1 hp => ?_)
    obtain ⟨g1, g2, g3⟩ := hp
    have f1 : (∀ x, (0 < x ∧ x < 8) ∨ x = 15 → σ1 x = σ x) ∧ (∀ f, f ≠ 11 → f ≠ 14 → f ≠ 20 → σ1 0 f = σ 0 f) := ⟨fun x hx => by rw [g1.1 x (by omega) (by omega) (by omega), m_ne (by omega), m_ne (by omega)], fun f a b c => by rw [g1.2 f a, m_nk c, m_nk b]⟩
    have f14 : σ1 0 14 = 1 := by rw [g1.2 14 (by decide), m_nk (by decide), m_eq]
    have f20 : σ1 0 20 = 0 := by rw [g1.2 20 (by decide), m_eq]
    refine j_if_ne (pc := 26) (tgt := 30) dX8_knows_26 rfl (fun h26 => ?_) (fun h26 => ?_)
    · obtain ⟨hO, hG⟩ : ¬ Over (TA N K M) (allS N) ∧ NG2 σ1 (TA N K M) (allS N) := by
        rcases g3 with ⟨-, z, -⟩ | ⟨a, -, b⟩
        · exact absurd z h26
        · exact ⟨a, b⟩
      have hb1 := hba.frB g1
      have hf1 : σ1 0 9 = fs := by rw [f1.2 9 (by decide) (by decide) (by decide)]; exact hfs
      refine j_aload_n (pc := 30) dX8_knows_30 rfl ?_
      refine j_callVv (pc := 31) dX8_knows_31 k_X8_168 (c_X8_losesClashes hb1 hG hf1) (by first | rfl | with_reducible assumption) rfl rfl (by decide) rfl (Nat.le_of_ble_eq_true rfl) (fun σ2 hp => ?_)
      obtain ⟨g5, g6⟩ := hp
      refine j_aload_n (pc := 34) dX8_knows_34 rfl ?_
      refine j_iconst (pc := 35) dX8_knows_35 (v := 1) (by decide) ?_
      refine j_put (pc := 36) dX8_knows_36 f_X8_162 (by first | rfl | with_reducible assumption) (by rfl) ?_
      refine c_X8_knows2 hb1 hO hG hf1 f14 f1 151 0 _ rfl (FrW.rf.x g5).u (m_eq _ _ _ _) ?_ (fun i hi => absurd hi (Nat.not_lt_zero _))
      unfold LW2 at g6 ⊢
      rw [m_ne (by decide), m_ne (by decide), m_ne (by decide)]
      exact g6
    · refine j_vret (pc := 29) dX8_knows_29 ?_
      rcases g3 with ⟨hO, -, g4⟩ | ⟨-, g4, -⟩
      · exact ⟨f1.1, f1.2, f14, Or.inl ⟨hO, g4, f20⟩⟩
      · exact absurd (g4.symm.trans h26) (by decide)
  · refine j_aload_n (pc := 0) dX8_knows_0 rfl ?_
    refine j_getI (pc := 1) dX8_knows_1 f_X8_105 (by first | rfl | with_reducible assumption) (by rfl) ?_
    refine j_top h14 ?_
    refine j_if_eq (pc := 4) (tgt := 8) dX8_knows_4 rfl (fun h4 => absurd h4 (by decide)) (fun h4 => ?_)
    refine j_vret (pc := 7) dX8_knows_7 ?_
    exact ⟨qq, hD⟩
end Know
