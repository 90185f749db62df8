/-! WHAT IS MADE: Arrays.fill over any graph; the two objects as they come -/
theorem c_fillG {Γ : List Gc} {a n : Nat} {ids : List Nat} (hg : Γ[a]? = some (.inl (0, n, ids))) (hn : n < 2 ^ 31) (v : Int32) (σ : Mm) : EV Γ 0 yJ7_fill_53178 cJ7_fill_53178 4 none [.inr a, .inl v] σ (mz (m_fill σ a n v)) := by
  refine EV.intro (by decide +kernel) (Nat.le_of_ble_eq_true rfl) ?_
  have loop : ∀ (k i : Nat), i + k = n → AJ Γ 0 RJ7 cJ7_fill_53178 4 none (mz (m_fill σ a n v)) 5 [some (.inr a), some (.inl v), some (.inl (nI i)), some (.inl (nI n))] [] (m_fill σ a i v) := by
    intro k
    induction k with
    | zero =>
      intro i hi
      obtain rfl : i = n := by omega
      refine j_iload_n (pc := 5) dJ7_fill_53178_5 rfl ?_
      refine j_iload_n (pc := 6) dJ7_fill_53178_6 rfl ?_
      refine j_icmp_ge (pc := 7) (tgt := 20) dJ7_fill_53178_7 rfl (fun h7 => ?_) (fun h7 => absurd (Int32.le_refl _) h7)
      refine j_vret (pc := 20) dJ7_fill_53178_20 ?_
      exact rfl
    | succ k ih =>
      intro i hi
      refine j_iload_n (pc := 5) dJ7_fill_53178_5 rfl ?_
      refine j_iload_n (pc := 6) dJ7_fill_53178_6 rfl ?_
      refine j_icmp_ge (pc := 7) (tgt := 20) dJ7_fill_53178_7 rfl (fun h7 => absurd h7 (nI_ge (by omega) hn)) (fun h7 => ?_)
      refine j_aload_n (pc := 10) dJ7_fill_53178_10 rfl ?_
      refine j_iload_n (pc := 11) dJ7_fill_53178_11 rfl ?_
      refine j_iload_n (pc := 12) dJ7_fill_53178_12 rfl ?_
      refine j_iast (pc := 13) dJ7_fill_53178_13 (by first | rfl | with_reducible assumption) (vp_in_nI (by omega) hn) ?_
      rw [nI_clamp (by omega), m_fillS]
      refine j_iinc1 (pc := 14) dJ7_fill_53178_14 rfl ?_
      refine j_goto (pc := 17) (tgt := 5) dJ7_fill_53178_17 rfl ?_
      rw [nI_1]
      exact ih (i + 1) (by omega)
  refine j_iconst (pc := 0) dJ7_fill_53178_0 (v := 0) (by decide) ?_
  refine j_istore_n (pc := 1) dJ7_fill_53178_1 (by decide) ?_
  refine j_aload_n (pc := 2) dJ7_fill_53178_2 rfl ?_
  refine j_alen (pc := 3) dJ7_fill_53178_3 (by first | rfl | with_reducible assumption) (v := _) (by rfl) ?_
  refine j_istore_n (pc := 4) dJ7_fill_53178_4 (by decide) ?_
  have h := loop n 0 (by omega)
  rw [m_fill0] at h
  exact h
/-- LeastBars ahead of joinAnew -/
theorem made1 {σ : Mm} {t : Nat → Int32} {K : Nat → Int32} {M : Nat → MV} (h1 : σ 1 1 = 0) (h9 : σ 0 9 = 0) : R1b σ 0 t 0 K M := ⟨h1, by decide, fun i hi => absurd hi (Nat.not_lt_zero _), h9, by decide, fun m hm => absurd hm (Nat.not_lt_zero _)⟩
/-- LeastBars as it comes: behind joinAnew (σ1), controlAnew (σ2) -/
theorem made1' {σ0 σ1 σ2 : Mm} {t : Nat → Int32} {K : Nat → Int32} {M : Nat → MV} (h1 : σ0 1 1 = 0) (h9 : σ0 0 9 = 0) (h10 : σ0 0 10 = 0) (h45 : ∀ i, i < 150 → σ0 45 i = -9) (a1 : ∀ x, x ≠ 0 → (x < 23 ∨ 31 < x) → σ1 x = σ0 x) (a2 : ∀ k, k ≠ 11 → σ1 0 k = σ0 0 k) (a3 : σ1 0 11 = -9) (b1 : ∀ x, (x < 23 ∨ (33 < x ∧ x < 46)) → σ2 x = σ1 x) (b2 : D1 σ2 (TA 0 K M) (allS 0) (σ1 0 10)) (b3 : σ2 57 1 = 0) (b4 : σ2 57 2 = 0) (b5 : σ2 57 3 = 0) : R1 σ2 0 t 0 K M 0 [] 0 := by
  have := R1.renew (made1 (t := t) (K := K) (M := M) h1 h9) h45 a1 a2 a3 b1 b2 b3 b4 b5
  rw [h10] at this
  exact this
/-- LeastBarsModel as it comes -/
theorem made2 {σ : Mm} {t : Nat → Int32} {K : Nat → Int32} {M : Nat → MV} (h : ∀ k, σ 0 k = 0) : R2 σ 0 t 0 K M 0 [] 0 := ⟨⟨h 1, by decide, fun i hi => absurd hi (Nat.not_lt_zero _), h 2, by decide, fun m hm => absurd hm (Nat.not_lt_zero _)⟩, h 9, Or.inl (h 14), ⟨h 21, by simp, h 22, fun i hi => absurd hi (by simp)⟩, TV.nil⟩
theorem made_both {σ1 σ2 : Mm} {t : Nat → Int32} {K : Nat → Int32} {M : Nat → MV} (h1 : R1 σ1 0 t 0 K M 0 [] 0) (h2 : ∀ k, σ2 0 k = 0) : BOTH σ1 σ2 := ⟨0, t, 0, K, M, 0, [], 0, h1, made2 h2⟩
