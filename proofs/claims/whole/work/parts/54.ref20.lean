/-! LEASTBARSMODEL: findFar -/
section Far
variable {σ : Mm} {J : Nat} {tg : Nat → Int32}
theorem sum_less {f g : Nat → Nat} : ∀ N, (∀ i, i < N → g i ≤ f i) → (∃ i, i < N ∧ g i < f i) → sumN g N < sumN f N := by
  intro N
  induction N with
  | zero => rintro _ ⟨i, hi, -⟩; exact absurd hi (Nat.not_lt_zero _)
  | succ N ih =>
    rintro h1 ⟨i, hi, hl⟩
    simp only [sumN]
    have hN := h1 N (by omega)
    by_cases z : i = N
    · subst z
      have : sumN g i ≤ sumN f i := by
        clear ih hi hl hN
        induction i with
        | zero => exact Nat.le_refl _
        | succ i ih2 =>
          simp only [sumN]
          have a := ih2 (fun j hj => h1 j (by omega))
          have b := h1 i (by omega)
          omega
      omega
    · have := ih (fun j hj => h1 j (by omega)) ⟨i, by omega, hl⟩
      omega
def gmF (F : Nat → Int32) (n : Nat) : Nat := if F n = -9 then 200 else (F n).toNatClampNeg
def FI (J : Nat) (tg : Nat → Int32) (fn U : Nat → Bool) (F : Nat → Int32) : Prop := ∀ n, n < J → (F n = -9 ∨ ∃ v, v < cntF F J ∧ F n = nI v ∧ Rk J tg fn U v n) ∧ (U n = true → fn n = true → F n = nI 0)
def FC (J : Nat) (tg : Nat → Int32) (U : Nat → Bool) (F : Nat → Int32) (x : Nat) : Prop := ∀ y, y < x → ∀ m a, m < J → tg y = nI m → U (y / 8) = true → U m = true → a < 150 → F m = nI a → ∃ b, b ≤ a + 1 ∧ F (y / 8) = nI b
theorem FI.done {fn U : Nat → Bool} {F : Nat → Int32} (hJ : J ≤ 150) (h : FI J tg fn U F) (hc : FC J tg U F (8 * J)) {n : Nat} (hn : n < J) : isFar J tg fn U n (F n) := by
  have hcl := cnt_le F J
  have val : ∀ n b, n < J → b ≤ 200 → F n = nI b → b < 150 := by
    intro n b hn hb hF
    rcases (h n hn).1 with z | ⟨v, z1, z2, -⟩
    · rw [hF] at z; exact absurd z (nI_z (by omega))
    · have := (nI_eq (by omega) (by omega)).mp (hF.symm.trans z2)
      omega
  have key : ∀ k n, Rk J tg fn U k n → ∃ b, b ≤ k ∧ b < 150 ∧ F n = nI b := by
    intro k
    induction k with
    | zero => rintro n ⟨a, b, c⟩; exact ⟨0, Nat.le_refl _, by decide, (h n a).2 b c⟩
    | succ k ih =>
      rintro n (q | ⟨a, b, e, m, c, d, q⟩)
      · obtain ⟨b, b1, b2⟩ := ih n q
        exact ⟨b, by omega, b2⟩
      · obtain ⟨v, v1, v3, v2⟩ := ih m q
        obtain ⟨b', e1, e2⟩ := hc (8 * n + e) (by omega) m v q.lt.1 d (by rw [show (8 * n + e) / 8 = n by omega]; exact b) q.lt.2 v3 v2
        rw [show (8 * n + e) / 8 = n by omega] at e2
        exact ⟨b', by omega, val n b' a (by omega) e2, e2⟩
  rcases (h n hn).1 with z | ⟨v, z1, z2, z3⟩
  · refine Or.inr ⟨z, fun k hk => ?_⟩
    obtain ⟨b, b1, b2, b3⟩ := key k n hk
    rw [z] at b3
    exact absurd b3.symm (nI_z (by omega))
  · refine Or.inl ⟨v, by omega, z2, z3, fun j hj hR => ?_⟩
    obtain ⟨b, b1, b2, b3⟩ := key j n hR
    have := (nI_eq (by omega) (by omega)).mp (b3.symm.trans z2)
    omega
theorem FI.relax {fn U : Nat → Bool} {F : Nat → Int32} (hJ : J ≤ 150) (h : FI J tg fn U F) {n e m a : Nat} (hn : n < J) (he : e < 8) (hm : m < J) (hU : U n = true) (ht : tg (8 * n + e) = nI m) (ha : F m = nI a) (ha2 : a < 150) (hc : F n = -9 ∨ ∃ b, b < 150 ∧ F n = nI b ∧ a + 1 < b) : FI J tg fn U (upd F n (nI (a + 1))) ∧ sumN (gmF (upd F n (nI (a + 1)))) J < sumN (gmF F) J := by
  have hcl := cnt_le F J
  have hval : ∀ i, i < J → ∀ b, b < 2 ^ 31 → F i = nI b → b < cntF F J ∧ Rk J tg fn U b i := by
    intro i hi b hb hF
    rcases (h i hi).1 with z | ⟨v, z1, z2, z3⟩
    · rw [hF] at z; exact absurd z (nI_z hb)
    · have := (nI_eq (by omega) (by omega)).mp (hF.symm.trans z2)
      subst this
      exact ⟨z1, z3⟩
  obtain ⟨ca, hRa⟩ := hval m hm a (by omega) ha
  have hcnt : cntF F J ≤ cntF (upd F n (nI (a + 1))) J ∧ a + 1 < cntF (upd F n (nI (a + 1))) J := by
    rcases hc with z | ⟨b, b1, b2, b3⟩
    · rw [cnt_upd z (nI_z (by omega)) J hn]; omega
    · have : cntF (upd F n (nI (a + 1))) J = cntF F J := cnt_same J (fun i hi => by
        by_cases y : i = n
        · subst y; rw [pk_us, b2]; exact ⟨fun w => absurd w (nI_z (by omega)), fun w => absurd w (nI_z (by omega))⟩
        · rw [pk_un y])
      have := (hval n hn b (by omega) b2).1
      omega
  refine ⟨fun i hi => ?_, sum_less J (fun i hi => ?_) ⟨n, hn, ?_⟩⟩
  · by_cases y : i = n
    · subst y
      rw [pk_us]
      refine ⟨Or.inr ⟨a + 1, hcnt.2, rfl, Or.inr ⟨hn, hU, e, m, he, ht, hRa⟩⟩, fun u1 u2 => ?_⟩
      have h0 := (h i hi).2 u1 u2
      rcases hc with z | ⟨b, b1, b2, b3⟩
      · rw [h0] at z; exact absurd z (nI_z (by omega))
      · have := (nI_eq (by omega) (by omega)).mp (h0.symm.trans b2)
        omega
    · rw [pk_un y]
      refine ⟨?_, (h i hi).2⟩
      rcases (h i hi).1 with z | ⟨v, z1, z2, z3⟩
      · exact Or.inl z
      · exact Or.inr ⟨v, by omega, z2, z3⟩
  · unfold gmF
    by_cases y : i = n
    · subst y
      rw [pk_us, if_neg (nI_z (by omega)), nI_clamp (by omega)]
      rcases hc with z | ⟨b, b1, b2, b3⟩
      · rw [if_pos z]; omega
      · rw [b2, if_neg (nI_z (by omega)), nI_clamp (by omega)]; omega
    · rw [pk_un y]; exact Nat.le_refl _
  · unfold gmF
    rw [pk_us, if_neg (nI_z (by omega)), nI_clamp (by omega)]
    rcases hc with z | ⟨b, b1, b2, b3⟩
    · rw [if_pos z]; omega
    · rw [b2, if_neg (nI_z (by omega)), nI_clamp (by omega)]; omega
def farP (σ0 : Mm) (J : Nat) (tg : Nat → Int32) (fn U : Nat → Bool) : Int32 → Mm → Prop := fun _ σ' => FrO 16 σ0 σ' ∧ ∀ n, n < J → isFar J tg fn U n (σ' 16 n)
theorem c_X8_findFarP {fn U : Nat → Bool} {σ0 : Mm} (hJ : J ≤ 150) (hJ2 : σ0 0 11 = nI J) (ht : ∀ y, y < 8 * J → σ0 9 y = tg y) (htr : ∀ y, y < 8 * J → tg y = -9 ∨ ∃ m, m < J ∧ tg y = nI m) (hU : ∀ m, m < J → σ0 14 m = if U m = true then 1 else 0) {F0 : Nat → Int32} (again : ∀ (σ' : Mm) (w2 w3 w4 w5 : Option Vl), sumN (gmF (σ' 16)) J < sumN (gmF F0) J → FrO 16 σ0 σ' → FI J tg fn U (σ' 16) → AJ Γ2 0 RX8 cX8_findFar 6 none (farP σ0 J tg fn U) 2 [some (.inr 0), some (.inl 1), w2, w3, w4, w5] [] σ') :
    ∀ (r x : Nat) (σ' : Mm) (mo : Int32) (w3 w4 w5 : Option Vl), x + r = 8 * J → FrO 16 σ0 σ' → FI J tg fn U (σ' 16) → ((mo = 0 ∧ σ' 16 = F0 ∧ FC J tg U F0 x) ∨ (mo = 1 ∧ sumN (gmF (σ' 16)) J < sumN (gmF F0) J)) → AJ Γ2 0 RX8 cX8_findFar 6 none (farP σ0 J tg fn U) 10 [some (.inr 0), some (.inl mo), some (.inl (nI x)), w3, w4, w5] [] σ' := by
  intro r
  induction r with
  | zero =>
    intro x σ' mo w3 w4 w5 hx hF hE hmo
    obtain rfl : x = 8 * J := by omega
    have e8 : (8 : Int32) * nI J = nI (8 * J) := by rw [show (8 : Int32) = nI 8 from rfl, pk_mul]
    rcases hmo with ⟨rfl, h13, hC⟩ | ⟨rfl, hlt⟩
    · refine j_iload_n (pc := 10) dX8_findFar_10 rfl ?_
      refine j_bipush (pc := 11) dX8_findFar_11 (v := 8) (by decide) ?_
      refine j_aload_n (pc := 13) dX8_findFar_13 rfl ?_
      refine j_getI (pc := 14) dX8_findFar_14 f_X8_131 (by first | rfl | with_reducible assumption) (by rfl) ?_
      refine j_top (y := nI J) (by rw [hF 0 (by decide)]; exact hJ2) ?_
      refine j_imul (pc := 17) dX8_findFar_17 ?_
      refine j_top e8 ?_
      refine j_icmp_ge (pc := 18) (tgt := 136) dX8_findFar_18 rfl (fun h18 => ?_) (fun h18 => absurd (Int32.le_refl _) h18)
      refine j_goto (pc := 136) (tgt := 2) dX8_findFar_136 rfl ?_
      refine j_iload_n (pc := 2) dX8_findFar_2 rfl ?_
      refine j_if_eq (pc := 3) (tgt := 139) dX8_findFar_3 rfl (fun h3 => ?_) (fun h3 => absurd rfl h3)
      refine j_vret (pc := 139) dX8_findFar_139 ?_
      rw [← h13] at hC
      exact ⟨hF, fun n hn => hE.done hJ hC hn⟩
    · refine j_iload_n (pc := 10) dX8_findFar_10 rfl ?_
      refine j_bipush (pc := 11) dX8_findFar_11 (v := 8) (by decide) ?_
      refine j_aload_n (pc := 13) dX8_findFar_13 rfl ?_
      refine j_getI (pc := 14) dX8_findFar_14 f_X8_131 (by first | rfl | with_reducible assumption) (by rfl) ?_
      refine j_top (y := nI J) (by rw [hF 0 (by decide)]; exact hJ2) ?_
      refine j_imul (pc := 17) dX8_findFar_17 ?_
      refine j_top e8 ?_
      refine j_icmp_ge (pc := 18) (tgt := 136) dX8_findFar_18 rfl (fun h18 => ?_) (fun h18 => absurd (Int32.le_refl _) h18)
      refine j_goto (pc := 136) (tgt := 2) dX8_findFar_136 rfl ?_
      exact again _ _ _ _ _ hlt hF hE
  | succ r ih =>
    intro x σ' mo w3 w4 w5 hx hF hE hmo
    have e8 : (8 : Int32) * nI J = nI (8 * J) := by rw [show (8 : Int32) = nI 8 from rfl, pk_mul]
    have hn : x / 8 < J := by omega
    have hcx : (nI x).toNatClampNeg = x := nI_clamp (by omega)
    have hvx : vp_in (nI x) 1200 := vp_in_nI (by omega) (by decide)
    have hcn : (nI (x / 8)).toNatClampNeg = x / 8 := nI_clamp (by omega)
    have hvn : vp_in (nI (x / 8)) 150 := vp_in_nI (by omega) (by decide)
    have ediv : nI x / 8 = nI (x / 8) := by rw [show (8 : Int32) = nI 8 from rfl, pk_div (by omega) (by decide) (by decide)]
    have ht9 : σ' 9 x = tg x := by rw [hF 9 (by decide)]; exact ht x (by omega)
    have hUn : σ' 14 (x / 8) = if U (x / 8) = true then 1 else 0 := by rw [hF 14 (by decide)]; exact hU _ hn
    have skip_ : ((∀ m a, m < J → tg x = nI m → U (x / 8) = true → U m = true → a < 150 → σ' 16 m = nI a → ∃ b, b ≤ a + 1 ∧ σ' 16 (x / 8) = nI b)) → ∀ w3 w4 w5, AJ Γ2 0 RX8 cX8_findFar 6 none (farP σ0 J tg fn U) 10 [some (.inr 0), some (.inl mo), some (.inl (nI (x + 1))), w3, w4, w5] [] σ' := fun z w3 w4 w5 => by
      refine ih (x + 1) σ' mo w3 w4 w5 (by omega) hF hE ?_
      rcases hmo with ⟨a, b, c⟩ | h
      · refine Or.inl ⟨a, b, fun y hy m a' hm h1 h2 h3 h4 h5 => ?_⟩
        by_cases q : y = x
        · subst q; rw [← b] at h5 ⊢; exact z m a' hm h1 h2 h3 h4 h5
        · exact c y (by omega) m a' hm h1 h2 h3 h4 h5
      · exact Or.inr h
    have m0 : ((∀ m a, m < J → tg x = nI m → U (x / 8) = true → U m = true → a < 150 → σ' 16 m = nI a → False)) → ∀ w3 w4, AJ Γ2 0 RX8 cX8_findFar 6 none (farP σ0 J tg fn U) 79 [some (.inr 0), some (.inl mo), some (.inl (nI x)), w3, w4, some (.inl 0)] [] σ' := fun z w3 w4 => by
      refine j_iload (pc := 79) dX8_findFar_79 rfl ?_
      refine j_if_eq (pc := 81) (tgt := 130) dX8_findFar_81 rfl (fun h81 => ?_) (fun h81 => absurd rfl h81)
      refine j_iinc1 (pc := 130) dX8_findFar_130 rfl ?_
      refine j_goto (pc := 133) (tgt := 10) dX8_findFar_133 rfl ?_
      rw [nI_1]
      exact skip_ (fun m a h1 h2 h3 h4 h5 h6 => (z m a h1 h2 h3 h4 h5 h6).elim) _ _ _
    rcases htr x (by omega) with hz | ⟨m, hm, hz⟩
    · have dead : ∀ m a, m < J → tg x = nI m → U (x / 8) = true → U m = true → a < 150 → σ' 16 m = nI a → False := fun m a hm h1 _ _ _ _ => absurd (h1.symm.trans hz) (nI_z (by omega))
      refine j_iload_n (pc := 10) dX8_findFar_10 rfl ?_
      refine j_bipush (pc := 11) dX8_findFar_11 (v := 8) (by decide) ?_
      refine j_aload_n (pc := 13) dX8_findFar_13 rfl ?_
      refine j_getI (pc := 14) dX8_findFar_14 f_X8_131 (by first | rfl | with_reducible assumption) (by rfl) ?_
      refine j_top (y := nI J) (by rw [hF 0 (by decide)]; exact hJ2) ?_
      refine j_imul (pc := 17) dX8_findFar_17 ?_
      refine j_top e8 ?_
      refine j_icmp_ge (pc := 18) (tgt := 136) dX8_findFar_18 rfl (fun h18 => absurd h18 (nI_ge (by omega) (by omega))) (fun h18 => ?_)
      refine j_iload_n (pc := 21) dX8_findFar_21 rfl ?_
      refine j_bipush (pc := 22) dX8_findFar_22 (v := 8) (by decide) ?_
      refine j_idiv (pc := 24) dX8_findFar_24 (by decide) ?_
      refine j_top ediv ?_
      refine j_istore_n (pc := 25) dX8_findFar_25 (by decide) ?_
      refine j_aload_n (pc := 26) dX8_findFar_26 rfl ?_
      refine j_getR (pc := 27) dX8_findFar_27 f_X8_34 (by first | rfl | with_reducible assumption) (by rfl) ?_
      refine j_iload_n (pc := 30) dX8_findFar_30 rfl ?_
      refine j_iald (pc := 31) dX8_findFar_31 (by first | rfl | with_reducible assumption) hvx ?_
      refine j_top (y := -9) (by rw [hcx, ht9]; exact hz) ?_
      refine j_istore (pc := 32) dX8_findFar_32 (by decide) ?_
      refine j_aload_n (pc := 34) dX8_findFar_34 rfl ?_
      refine j_getR (pc := 35) dX8_findFar_35 f_X8_50 (by first | rfl | with_reducible assumption) (by rfl) ?_
      refine j_iload_n (pc := 38) dX8_findFar_38 rfl ?_
      refine j_zald (pc := 39) dX8_findFar_39 (by first | rfl | with_reducible assumption) hvn ?_
      refine j_if_eq (pc := 40) (tgt := 76) dX8_findFar_40 rfl (fun h40 => ?_) (fun h40 => ?_)
      · refine j_iconst (pc := 76) dX8_findFar_76 (v := 0) (by decide) ?_
        refine j_istore (pc := 77) dX8_findFar_77 (by decide) ?_
        exact m0 dead _ _
      · refine j_iload (pc := 43) dX8_findFar_43 rfl ?_
        refine j_bipush (pc := 45) dX8_findFar_45 (v := (-9)) (by decide) ?_
        refine j_icmp_eq (pc := 47) (tgt := 76) dX8_findFar_47 rfl (fun h47 => ?_) (fun h47 => absurd rfl h47)
        refine j_iconst (pc := 76) dX8_findFar_76 (v := 0) (by decide) ?_
        refine j_istore (pc := 77) dX8_findFar_77 (by decide) ?_
        exact m0 dead _ _
    · have hcm : (nI m).toNatClampNeg = m := nI_clamp (by omega)
      have hvm : vp_in (nI m) 150 := vp_in_nI (by omega) (by decide)
      have hUm : σ' 14 m = if U m = true then 1 else 0 := by rw [hF 14 (by decide)]; exact hU _ hm
      have mm : ∀ m', m' < J → tg x = nI m' → m' = m := fun m' a b => (nI_eq (by omega) (by omega)).mp (b.symm.trans hz)
      have m1 : ∀ a, a < 150 → U (x / 8) = true → U m = true → σ' 16 m = nI a → AJ Γ2 0 RX8 cX8_findFar 6 none (farP σ0 J tg fn U) 79 [some (.inr 0), some (.inl mo), some (.inl (nI x)), some (.inl (nI (x / 8))), some (.inl (nI m)), some (.inl 1)] [] σ' := by
        intro a ha hu hum hFm
        have hcl := cnt_le (σ' 16) J
        have hz' : tg (8 * (x / 8) + x % 8) = nI m := by rw [show 8 * (x / 8) + x % 8 = x by omega]; exact hz
        have upd_ : (σ' 16 (x / 8) = -9 ∨ ∃ b, b < 150 ∧ σ' 16 (x / 8) = nI b ∧ a + 1 < b) → ∀ w5, AJ Γ2 0 RX8 cX8_findFar 6 none (farP σ0 J tg fn U) 10 [some (.inr 0), some (.inl 1), some (.inl (nI (x + 1))), some (.inl (nI (x / 8))), some (.inl (nI m)), w5] [] (m_up σ' 16 (x / 8) (nI (a + 1))) := fun hc w5 => by
          obtain ⟨g1, g2⟩ := hE.relax hJ (e := x % 8) hn (Nat.mod_lt _ (by decide)) hm hu hz' hFm ha hc
          refine ih (x + 1) _ 1 _ _ _ (by omega) hF.up (by rw [m_row]; exact g1) (Or.inr ⟨rfl, ?_⟩)
          rw [m_row]
          rcases hmo with ⟨a, b, c⟩ | ⟨a, b⟩
          · rw [← b]; exact g2
          · omega
        rcases (hE _ hn).1 with hx9 | ⟨b, b1, b2, -⟩
        · refine j_iload (pc := 79) dX8_findFar_79 rfl ?_
          refine j_if_eq (pc := 81) (tgt := 130) dX8_findFar_81 rfl (fun h81 => absurd h81 (by decide)) (fun h81 => ?_)
          refine j_aload_n (pc := 84) dX8_findFar_84 rfl ?_
          refine j_getR (pc := 85) dX8_findFar_85 f_X8_56 (by first | rfl | with_reducible assumption) (by rfl) ?_
          refine j_iload_n (pc := 88) dX8_findFar_88 rfl ?_
          refine j_iald (pc := 89) dX8_findFar_89 (by first | rfl | with_reducible assumption) hvn ?_
          refine j_top (y := -9) (by rw [hcn]; exact hx9) ?_
          refine j_bipush (pc := 90) dX8_findFar_90 (v := (-9)) (by decide) ?_
          refine j_icmp_eq (pc := 92) (tgt := 113) dX8_findFar_92 rfl (fun h92 => ?_) (fun h92 => absurd rfl h92)
          refine j_aload_n (pc := 113) dX8_findFar_113 rfl ?_
          refine j_getR (pc := 114) dX8_findFar_114 f_X8_56 (by first | rfl | with_reducible assumption) (by rfl) ?_
          refine j_iload_n (pc := 117) dX8_findFar_117 rfl ?_
          refine j_aload_n (pc := 118) dX8_findFar_118 rfl ?_
          refine j_getR (pc := 119) dX8_findFar_119 f_X8_56 (by first | rfl | with_reducible assumption) (by rfl) ?_
          refine j_iload (pc := 122) dX8_findFar_122 rfl ?_
          refine j_iald (pc := 124) dX8_findFar_124 (by first | rfl | with_reducible assumption) hvm ?_
          refine j_top (y := nI a) (by rw [hcm]; exact hFm) ?_
          refine j_iconst (pc := 125) dX8_findFar_125 (v := 1) (by decide) ?_
          refine j_iadd (pc := 126) dX8_findFar_126 ?_
          rw [nI_1]
          refine j_iast (pc := 127) dX8_findFar_127 (by first | rfl | with_reducible assumption) hvn ?_
          refine j_iconst (pc := 128) dX8_findFar_128 (v := 1) (by decide) ?_
          refine j_istore_n (pc := 129) dX8_findFar_129 (by decide) ?_
          refine j_iinc1 (pc := 130) dX8_findFar_130 rfl ?_
          refine j_goto (pc := 133) (tgt := 10) dX8_findFar_133 rfl ?_
          rw [nI_1, hcn]
          exact upd_ (Or.inl hx9) _
        · by_cases hab : a + 1 < b
          · refine j_iload (pc := 79) dX8_findFar_79 rfl ?_
            refine j_if_eq (pc := 81) (tgt := 130) dX8_findFar_81 rfl (fun h81 => absurd h81 (by decide)) (fun h81 => ?_)
            refine j_aload_n (pc := 84) dX8_findFar_84 rfl ?_
            refine j_getR (pc := 85) dX8_findFar_85 f_X8_56 (by first | rfl | with_reducible assumption) (by rfl) ?_
            refine j_iload_n (pc := 88) dX8_findFar_88 rfl ?_
            refine j_iald (pc := 89) dX8_findFar_89 (by first | rfl | with_reducible assumption) hvn ?_
            refine j_top (y := nI b) (by rw [hcn]; exact b2) ?_
            refine j_bipush (pc := 90) dX8_findFar_90 (v := (-9)) (by decide) ?_
            refine j_icmp_eq (pc := 92) (tgt := 113) dX8_findFar_92 rfl (fun h92 => absurd h92 (nI_z (by omega))) (fun h92 => ?_)
            refine j_aload_n (pc := 95) dX8_findFar_95 rfl ?_
            refine j_getR (pc := 96) dX8_findFar_96 f_X8_56 (by first | rfl | with_reducible assumption) (by rfl) ?_
            refine j_iload (pc := 99) dX8_findFar_99 rfl ?_
            refine j_iald (pc := 101) dX8_findFar_101 (by first | rfl | with_reducible assumption) hvm ?_
            refine j_top (y := nI a) (by rw [hcm]; exact hFm) ?_
            refine j_iconst (pc := 102) dX8_findFar_102 (v := 1) (by decide) ?_
            refine j_iadd (pc := 103) dX8_findFar_103 ?_
            rw [nI_1]
            refine j_aload_n (pc := 104) dX8_findFar_104 rfl ?_
            refine j_getR (pc := 105) dX8_findFar_105 f_X8_56 (by first | rfl | with_reducible assumption) (by rfl) ?_
            refine j_iload_n (pc := 108) dX8_findFar_108 rfl ?_
            refine j_iald (pc := 109) dX8_findFar_109 (by first | rfl | with_reducible assumption) hvn ?_
            refine j_top (y := nI b) (by rw [hcn]; exact b2) ?_
            refine j_icmp_ge (pc := 110) (tgt := 130) dX8_findFar_110 rfl (fun h110 => absurd h110 (nI_ge hab (by omega))) (fun h110 => ?_)
            refine j_aload_n (pc := 113) dX8_findFar_113 rfl ?_
            refine j_getR (pc := 114) dX8_findFar_114 f_X8_56 (by first | rfl | with_reducible assumption) (by rfl) ?_
            refine j_iload_n (pc := 117) dX8_findFar_117 rfl ?_
            refine j_aload_n (pc := 118) dX8_findFar_118 rfl ?_
            refine j_getR (pc := 119) dX8_findFar_119 f_X8_56 (by first | rfl | with_reducible assumption) (by rfl) ?_
            refine j_iload (pc := 122) dX8_findFar_122 rfl ?_
            refine j_iald (pc := 124) dX8_findFar_124 (by first | rfl | with_reducible assumption) hvm ?_
            refine j_top (y := nI a) (by rw [hcm]; exact hFm) ?_
            refine j_iconst (pc := 125) dX8_findFar_125 (v := 1) (by decide) ?_
            refine j_iadd (pc := 126) dX8_findFar_126 ?_
            rw [nI_1]
            refine j_iast (pc := 127) dX8_findFar_127 (by first | rfl | with_reducible assumption) hvn ?_
            refine j_iconst (pc := 128) dX8_findFar_128 (v := 1) (by decide) ?_
            refine j_istore_n (pc := 129) dX8_findFar_129 (by decide) ?_
            refine j_iinc1 (pc := 130) dX8_findFar_130 rfl ?_
            refine j_goto (pc := 133) (tgt := 10) dX8_findFar_133 rfl ?_
            rw [nI_1, hcn]
            exact upd_ (Or.inr ⟨b, by omega, b2, hab⟩) _
          · refine j_iload (pc := 79) dX8_findFar_79 rfl ?_
            refine j_if_eq (pc := 81) (tgt := 130) dX8_findFar_81 rfl (fun h81 => absurd h81 (by decide)) (fun h81 => ?_)
            refine j_aload_n (pc := 84) dX8_findFar_84 rfl ?_
            refine j_getR (pc := 85) dX8_findFar_85 f_X8_56 (by first | rfl | with_reducible assumption) (by rfl) ?_
            refine j_iload_n (pc := 88) dX8_findFar_88 rfl ?_
            refine j_iald (pc := 89) dX8_findFar_89 (by first | rfl | with_reducible assumption) hvn ?_
            refine j_top (y := nI b) (by rw [hcn]; exact b2) ?_
            refine j_bipush (pc := 90) dX8_findFar_90 (v := (-9)) (by decide) ?_
            refine j_icmp_eq (pc := 92) (tgt := 113) dX8_findFar_92 rfl (fun h92 => absurd h92 (nI_z (by omega))) (fun h92 => ?_)
            refine j_aload_n (pc := 95) dX8_findFar_95 rfl ?_
            refine j_getR (pc := 96) dX8_findFar_96 f_X8_56 (by first | rfl | with_reducible assumption) (by rfl) ?_
            refine j_iload (pc := 99) dX8_findFar_99 rfl ?_
            refine j_iald (pc := 101) dX8_findFar_101 (by first | rfl | with_reducible assumption) hvm ?_
            refine j_top (y := nI a) (by rw [hcm]; exact hFm) ?_
            refine j_iconst (pc := 102) dX8_findFar_102 (v := 1) (by decide) ?_
            refine j_iadd (pc := 103) dX8_findFar_103 ?_
            rw [nI_1]
            refine j_aload_n (pc := 104) dX8_findFar_104 rfl ?_
            refine j_getR (pc := 105) dX8_findFar_105 f_X8_56 (by first | rfl | with_reducible assumption) (by rfl) ?_
            refine j_iload_n (pc := 108) dX8_findFar_108 rfl ?_
            refine j_iald (pc := 109) dX8_findFar_109 (by first | rfl | with_reducible assumption) hvn ?_
            refine j_top (y := nI b) (by rw [hcn]; exact b2) ?_
            refine j_icmp_ge (pc := 110) (tgt := 130) dX8_findFar_110 rfl (fun h110 => ?_) (fun h110 => absurd ((nI_leI (by omega) (by omega)).mpr (by omega)) h110)
            refine j_iinc1 (pc := 130) dX8_findFar_130 rfl ?_
            refine j_goto (pc := 133) (tgt := 10) dX8_findFar_133 rfl ?_
            rw [nI_1]
            refine skip_ (fun m' a' c1 c2 c3 c4 c5 c6 => ?_) _ _ _
            rw [mm m' c1 c2, hFm] at c6
            have := (nI_eq (by omega) (by omega)).mp c6
            exact ⟨b, by omega, b2⟩
      refine j_iload_n (pc := 10) dX8_findFar_10 rfl ?_
      refine j_bipush (pc := 11) dX8_findFar_11 (v := 8) (by decide) ?_
      refine j_aload_n (pc := 13) dX8_findFar_13 rfl ?_
      refine j_getI (pc := 14) dX8_findFar_14 f_X8_131 (by first | rfl | with_reducible assumption) (by rfl) ?_
      refine j_top (y := nI J) (by rw [hF 0 (by decide)]; exact hJ2) ?_
      refine j_imul (pc := 17) dX8_findFar_17 ?_
      refine j_top e8 ?_
      refine j_icmp_ge (pc := 18) (tgt := 136) dX8_findFar_18 rfl (fun h18 => absurd h18 (nI_ge (by omega) (by omega))) (fun h18 => ?_)
      refine j_iload_n (pc := 21) dX8_findFar_21 rfl ?_
      refine j_bipush (pc := 22) dX8_findFar_22 (v := 8) (by decide) ?_
      refine j_idiv (pc := 24) dX8_findFar_24 (by decide) ?_
      refine j_top ediv ?_
      refine j_istore_n (pc := 25) dX8_findFar_25 (by decide) ?_
      refine j_aload_n (pc := 26) dX8_findFar_26 rfl ?_
      refine j_getR (pc := 27) dX8_findFar_27 f_X8_34 (by first | rfl | with_reducible assumption) (by rfl) ?_
      refine j_iload_n (pc := 30) dX8_findFar_30 rfl ?_
      refine j_iald (pc := 31) dX8_findFar_31 (by first | rfl | with_reducible assumption) hvx ?_
      refine j_top (y := nI m) (by rw [hcx, ht9]; exact hz) ?_
      refine j_istore (pc := 32) dX8_findFar_32 (by decide) ?_
      refine j_aload_n (pc := 34) dX8_findFar_34 rfl ?_
      refine j_getR (pc := 35) dX8_findFar_35 f_X8_50 (by first | rfl | with_reducible assumption) (by rfl) ?_
      refine j_iload_n (pc := 38) dX8_findFar_38 rfl ?_
      refine j_zald (pc := 39) dX8_findFar_39 (by first | rfl | with_reducible assumption) hvn ?_
      refine j_top (y := if U (x / 8) = true then 1 else 0) (by rw [hcn]; exact hUn) ?_
      refine j_if_eq (pc := 40) (tgt := 76) dX8_findFar_40 rfl (fun h40 => ?_) (fun h40 => ?_)
      · have hd : ∀ m a, m < J → tg x = nI m → U (x / 8) = true → U m = true → a < 150 → σ' 16 m = nI a → False := fun m a _ _ z _ _ _ => by rw [if_pos z] at h40; exact absurd h40 (by decide)
        refine j_iconst (pc := 76) dX8_findFar_76 (v := 0) (by decide) ?_
        refine j_istore (pc := 77) dX8_findFar_77 (by decide) ?_
        first
          | exact m0 hd _ _
          | (have hu : U (x / 8) = true := Classical.byContradiction (fun z => by rw [if_neg z] at h40; exact h40 rfl)
             have hum : U m = true := Classical.byContradiction (fun z => by rw [if_neg z] at h57; exact h57 rfl)
             rcases (hE m hm).1 with z | ⟨a, a1, a2, -⟩
             · exact absurd z h69
             · exact m1 a (by have := cnt_le (σ' 16) J; omega) hu hum a2)
      · refine j_iload (pc := 43) dX8_findFar_43 rfl ?_
        refine j_bipush (pc := 45) dX8_findFar_45 (v := (-9)) (by decide) ?_
        refine j_icmp_eq (pc := 47) (tgt := 76) dX8_findFar_47 rfl (fun h47 => absurd h47 (nI_z (by omega))) (fun h47 => ?_)
        refine j_aload_n (pc := 50) dX8_findFar_50 rfl ?_
        refine j_getR (pc := 51) dX8_findFar_51 f_X8_50 (by first | rfl | with_reducible assumption) (by rfl) ?_
        refine j_iload (pc := 54) dX8_findFar_54 rfl ?_
        refine j_zald (pc := 56) dX8_findFar_56 (by first | rfl | with_reducible assumption) hvm ?_
        refine j_top (y := if U m = true then 1 else 0) (by rw [hcm]; exact hUm) ?_
        refine j_if_eq (pc := 57) (tgt := 76) dX8_findFar_57 rfl (fun h57 => ?_) (fun h57 => ?_)
        · have hd : ∀ m a, m < J → tg x = nI m → U (x / 8) = true → U m = true → a < 150 → σ' 16 m = nI a → False := fun m' a c1 c2 _ z _ _ => by rw [mm m' c1 c2] at z; rw [if_pos z] at h57; exact absurd h57 (by decide)
          refine j_iconst (pc := 76) dX8_findFar_76 (v := 0) (by decide) ?_
          refine j_istore (pc := 77) dX8_findFar_77 (by decide) ?_
          first
            | exact m0 hd _ _
            | (have hu : U (x / 8) = true := Classical.byContradiction (fun z => by rw [if_neg z] at h40; exact h40 rfl)
               have hum : U m = true := Classical.byContradiction (fun z => by rw [if_neg z] at h57; exact h57 rfl)
               rcases (hE m hm).1 with z | ⟨a, a1, a2, -⟩
               · exact absurd z h69
               · exact m1 a (by have := cnt_le (σ' 16) J; omega) hu hum a2)
        · refine j_aload_n (pc := 60) dX8_findFar_60 rfl ?_
          refine j_getR (pc := 61) dX8_findFar_61 f_X8_56 (by first | rfl | with_reducible assumption) (by rfl) ?_
          refine j_iload (pc := 64) dX8_findFar_64 rfl ?_
          refine j_iald (pc := 66) dX8_findFar_66 (by first | rfl | with_reducible assumption) hvm ?_
          rw [hcm]
          refine j_bipush (pc := 67) dX8_findFar_67 (v := (-9)) (by decide) ?_
          refine j_icmp_eq (pc := 69) (tgt := 76) dX8_findFar_69 rfl (fun h69 => ?_) (fun h69 => ?_)
          · have hd : ∀ m a, m < J → tg x = nI m → U (x / 8) = true → U m = true → a < 150 → σ' 16 m = nI a → False := fun m' a c1 c2 _ _ c5 z => by rw [mm m' c1 c2, h69] at z; exact absurd z.symm (nI_z (by omega))
            refine j_iconst (pc := 76) dX8_findFar_76 (v := 0) (by decide) ?_
            refine j_istore (pc := 77) dX8_findFar_77 (by decide) ?_
            first
              | exact m0 hd _ _
              | (have hu : U (x / 8) = true := Classical.byContradiction (fun z => by rw [if_neg z] at h40; exact h40 rfl)
                 have hum : U m = true := Classical.byContradiction (fun z => by rw [if_neg z] at h57; exact h57 rfl)
                 rcases (hE m hm).1 with z | ⟨a, a1, a2, -⟩
                 · exact absurd z h69
                 · exact m1 a (by have := cnt_le (σ' 16) J; omega) hu hum a2)
          · refine j_iconst (pc := 72) dX8_findFar_72 (v := 1) (by decide) ?_
            refine j_goto (pc := 73) (tgt := 77) dX8_findFar_73 rfl ?_
            refine j_istore (pc := 77) dX8_findFar_77 (by decide) ?_
            first
              | exact m0 hd _ _
              | (have hu : U (x / 8) = true := Classical.byContradiction (fun z => by rw [if_neg z] at h40; exact h40 rfl)
                 have hum : U m = true := Classical.byContradiction (fun z => by rw [if_neg z] at h57; exact h57 rfl)
                 rcases (hE m hm).1 with z | ⟨a, a1, a2, -⟩
                 · exact absurd z h69
                 · exact m1 a (by have := cnt_le (σ' 16) J; omega) hu hum a2)
theorem c_X8_findFar2 {fn U : Nat → Bool} {σ0 : Mm} (hJ : J ≤ 150) (hJ2 : σ0 0 11 = nI J) (ht : ∀ y, y < 8 * J → σ0 9 y = tg y) (htr : ∀ y, y < 8 * J → tg y = -9 ∨ ∃ m, m < J ∧ tg y = nI m) (hU : ∀ m, m < J → σ0 14 m = if U m = true then 1 else 0) : ∀ (q : Nat) (σ : Mm) (w2 w3 w4 w5 : Option Vl), sumN (gmF (σ 16)) J ≤ q → FrO 16 σ0 σ → FI J tg fn U (σ 16) → AJ Γ2 0 RX8 cX8_findFar 6 none (farP σ0 J tg fn U) 2 [some (.inr 0), some (.inl 1), w2, w3, w4, w5] [] σ := by
  intro q
  induction q with
  | zero =>
    intro σ w2 w3 w4 w5 hq hF hE
    refine j_iload_n (pc := 2) dX8_findFar_2 rfl ?_
    refine j_if_eq (pc := 3) (tgt := 139) dX8_findFar_3 rfl (fun h3 => absurd h3 (by decide)) (fun h3 => ?_)
    refine j_iconst (pc := 6) dX8_findFar_6 (v := 0) (by decide) ?_
    refine j_istore_n (pc := 7) dX8_findFar_7 (by decide) ?_
    refine j_iconst (pc := 8) dX8_findFar_8 (v := 0) (by decide) ?_
    refine j_istore_n (pc := 9) dX8_findFar_9 (by decide) ?_
    exact c_X8_findFarP hJ hJ2 ht htr hU (F0 := σ 16) (fun σ' w2 w3 w4 w5 a => absurd a (by omega)) (8 * J) 0 σ 0 _ _ _ (by omega) hF hE (Or.inl ⟨rfl, rfl, fun y hy => absurd hy (Nat.not_lt_zero _)⟩)
  | succ q ih =>
    intro σ w2 w3 w4 w5 hq hF hE
    refine j_iload_n (pc := 2) dX8_findFar_2 rfl ?_
    refine j_if_eq (pc := 3) (tgt := 139) dX8_findFar_3 rfl (fun h3 => absurd h3 (by decide)) (fun h3 => ?_)
    refine j_iconst (pc := 6) dX8_findFar_6 (v := 0) (by decide) ?_
    refine j_istore_n (pc := 7) dX8_findFar_7 (by decide) ?_
    refine j_iconst (pc := 8) dX8_findFar_8 (v := 0) (by decide) ?_
    refine j_istore_n (pc := 9) dX8_findFar_9 (by decide) ?_
    exact c_X8_findFarP hJ hJ2 ht htr hU (F0 := σ 16) (fun σ' w2 w3 w4 w5 a b c => ih σ' w2 w3 w4 w5 (by omega) b c) (8 * J) 0 σ 0 _ _ _ (by omega) hF hE (Or.inl ⟨rfl, rfl, fun y hy => absurd hy (Nat.not_lt_zero _)⟩)
theorem c_X8_findFar {fn U : Nat → Bool} (hJ : J ≤ 150) (hJ2 : σ 0 11 = nI J) (ht : ∀ y, y < 8 * J → σ 9 y = tg y) (htr : ∀ y, y < 8 * J → tg y = -9 ∨ ∃ m, m < J ∧ tg y = nI m) (hU : ∀ m, m < J → σ 14 m = if U m = true then 1 else 0) (h16 : ∀ n, n < J → σ 16 n = if U n = true ∧ fn n = true then 0 else -9) : EV Γ2 0 yX8_findFar cX8_findFar 6 none [.inr 0] σ (farP σ J tg fn U) := by
  refine EV.intro (by decide +kernel) (Nat.le_of_ble_eq_true rfl) ?_
  refine j_iconst (pc := 0) dX8_findFar_0 (v := 1) (by decide) ?_
  refine j_istore_n (pc := 1) dX8_findFar_1 (by decide) ?_
  refine c_X8_findFar2 hJ hJ2 ht htr hU _ σ _ _ _ _ (Nat.le_refl _) FrO.rf (fun n hn => ?_)
  by_cases z : U n = true ∧ fn n = true
  · rw [h16 n hn, if_pos z]
    refine ⟨Or.inr ⟨0, ?_, rfl, hn, z.1, z.2⟩, fun _ _ => rfl⟩
    have := cnt_more (w := fun _ => -9) (w' := σ 16) J (fun i _ q => absurd rfl q) ⟨n, hn, rfl, by rw [h16 n hn, if_pos z]; decide⟩
    omega
  · rw [h16 n hn, if_neg z]
    exact ⟨Or.inl rfl, fun a b => absurd ⟨a, b⟩ z⟩
end Far
