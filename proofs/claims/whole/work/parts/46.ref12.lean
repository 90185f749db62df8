/-! LEASTBARSMODEL: findControlled, knows, isJoint -/
section Ctl
variable {σ : Mm} {J : Nat} {tg : Nat → Int32}
def UI (J : Nat) (tg : Nat → Int32) (kp : Nat → Bool) (F : Nat → Int32) : Prop := ∀ n, n < J → (F n = 0 ∨ F n = 1) ∧ (F n = 1 → ∃ k, Uk J tg kp k n) ∧ (n = 0 → kp 0 = true → F n = 1)
def UC (J : Nat) (tg : Nat → Int32) (kp : Nat → Bool) (F : Nat → Int32) (x : Nat) : Prop := ∀ y, y < x → ∀ m, m < J → tg y = nI m → kp m = true → F (y / 8) = 1 → F m = 1
theorem UI.done {kp : Nat → Bool} {F : Nat → Int32} (h : UI J tg kp F) (hc : UC J tg kp F (8 * J)) {n : Nat} (hn : n < J) : F n = 1 ↔ ∃ k, Uk J tg kp k n := by
  refine ⟨(h n hn).2.1, ?_⟩
  rintro ⟨k, hk⟩
  induction k generalizing n with
  | zero => obtain ⟨rfl, a, b⟩ := hk; exact (h 0 hn).2.2 rfl b
  | succ k ih =>
    rcases hk with q | ⟨a, b, m, e, c, q, d⟩
    · exact ih hn q
    · refine hc (8 * m + e) (by have := q.lt.1; omega) n hn d b ?_
      rw [show (8 * m + e) / 8 = m by omega]
      exact ih q.lt.1 q
theorem UI.add {kp : Nat → Bool} {F : Nat → Int32} (h : UI J tg kp F) {n e m : Nat} (hn : n < J) (he : e < 8) (hm : m < J) (ha : kp m = true) (ht : tg (8 * n + e) = nI m) (h1 : F n = 1) : UI J tg kp (upd F m 1) := fun i hi => by
  by_cases z : i = m
  · subst z
    rw [pk_us]
    obtain ⟨k, hk⟩ := (h n hn).2.1 h1
    exact ⟨Or.inr rfl, fun _ => ⟨k + 1, Or.inr ⟨hi, ha, n, e, he, hk, ht⟩⟩, fun _ _ => rfl⟩
  · rw [pk_un z]; exact h i hi
def ctlP (σ0 : Mm) (J : Nat) (tg : Nat → Int32) (W : Nat → Int32) : Int32 → Mm → Prop := fun _ σ' => FrO 14 σ0 σ' ∧ ∀ n, n < J → σ' 14 n = if ucB J tg (kpW W) n = true then 1 else 0
theorem c_X8_findControlledP {W : Nat → Int32} {σ0 : Mm} (hJ : J ≤ 150) (hJ2 : σ0 0 11 = nI J) (ht : ∀ y, y < 8 * J → σ0 9 y = tg y) (htr : ∀ y, y < 8 * J → tg y = -9 ∨ ∃ m, m < J ∧ tg y = nI m) (hW : ∀ m, m < J → σ0 10 m = W m) {F0 : Nat → Int32} (again : ∀ (σ' : Mm) (w2 w3 : Option Vl), oneC F0 J < oneC (σ' 14) J → FrO 14 σ0 σ' → UI J tg (kpW W) (σ' 14) → AJ Γ2 0 RX8 cX8_findControlled 4 none (ctlP σ0 J tg W) 44 [some (.inr 0), some (.inl 1), w2, w3] [] σ') :
    ∀ (r x : Nat) (σ' : Mm) (mo : Int32) (w3 : Option Vl), x + r = 8 * J → FrO 14 σ0 σ' → UI J tg (kpW W) (σ' 14) → ((mo = 0 ∧ σ' 14 = F0 ∧ UC J tg (kpW W) F0 x) ∨ (mo = 1 ∧ oneC F0 J < oneC (σ' 14) J)) → AJ Γ2 0 RX8 cX8_findControlled 4 none (ctlP σ0 J tg W) 52 [some (.inr 0), some (.inl mo), some (.inl (nI x)), w3] [] σ' := by
  intro r
  induction r with
  | zero =>
    intro x σ' mo w3 hx hF hE hmo
    obtain rfl : x = 8 * J := by omega
    have e8 : (8 : Int32) * nI J = nI (8 * J) := by rw [show (8 : Int32) = nI 8 from rfl, pk_mul]
    rcases hmo with ⟨rfl, h13, hC⟩ | ⟨rfl, hlt⟩
    · refine j_iload_n (pc := 52) dX8_findControlled_52 rfl ?_
      refine j_bipush (pc := 53) dX8_findControlled_53 (v := 8) (by decide) ?_
      refine j_aload_n (pc := 55) dX8_findControlled_55 rfl ?_
      refine j_getI (pc := 56) dX8_findControlled_56 f_X8_131 (by first | rfl | with_reducible assumption) (by rfl) ?_
      refine j_top (y := nI J) (by rw [hF 0 (by decide)]; exact hJ2) ?_
      refine j_imul (pc := 59) dX8_findControlled_59 ?_
      refine j_top e8 ?_
      refine j_icmp_ge (pc := 60) (tgt := 123) dX8_findControlled_60 rfl (fun h60 => ?_) (fun h60 => absurd (Int32.le_refl _) h60)
      refine j_goto (pc := 123) (tgt := 44) dX8_findControlled_123 rfl ?_
      refine j_iload_n (pc := 44) dX8_findControlled_44 rfl ?_
      refine j_if_eq (pc := 45) (tgt := 126) dX8_findControlled_45 rfl (fun h45 => ?_) (fun h45 => absurd rfl h45)
      refine j_vret (pc := 126) dX8_findControlled_126 ?_
      rw [← h13] at hC
      refine ⟨hF, fun n hn => ?_⟩
      have := hE.done hC hn
      by_cases z : ucB J tg (kpW W) n = true
      · rw [if_pos z]; exact this.mpr (ucB_iff.mp z)
      · rw [if_neg z]; exact (hE n hn).1.resolve_right (fun y => z (ucB_iff.mpr (this.mp y)))
    · refine j_iload_n (pc := 52) dX8_findControlled_52 rfl ?_
      refine j_bipush (pc := 53) dX8_findControlled_53 (v := 8) (by decide) ?_
      refine j_aload_n (pc := 55) dX8_findControlled_55 rfl ?_
      refine j_getI (pc := 56) dX8_findControlled_56 f_X8_131 (by first | rfl | with_reducible assumption) (by rfl) ?_
      refine j_top (y := nI J) (by rw [hF 0 (by decide)]; exact hJ2) ?_
      refine j_imul (pc := 59) dX8_findControlled_59 ?_
      refine j_top e8 ?_
      refine j_icmp_ge (pc := 60) (tgt := 123) dX8_findControlled_60 rfl (fun h60 => ?_) (fun h60 => absurd (Int32.le_refl _) h60)
      refine j_goto (pc := 123) (tgt := 44) dX8_findControlled_123 rfl ?_
      exact again _ _ _ hlt hF hE
  | succ r ih =>
    intro x σ' mo w3 hx hF hE hmo
    have e8 : (8 : Int32) * nI J = nI (8 * J) := by rw [show (8 : Int32) = nI 8 from rfl, pk_mul]
    have hn : x / 8 < J := by omega
    have hcx : (nI x).toNatClampNeg = x := nI_clamp (by omega)
    have hvx : vp_in (nI x) 1200 := vp_in_nI (by omega) (by decide)
    have hcn : (nI (x / 8)).toNatClampNeg = x / 8 := nI_clamp (by omega)
    have hvn : vp_in (nI (x / 8)) 150 := vp_in_nI (by omega) (by decide)
    have ediv : nI x / 8 = nI (x / 8) := by rw [show (8 : Int32) = nI 8 from rfl, pk_div (by omega) (by decide) (by decide)]
    have ht9 : σ' 9 x = tg x := by rw [hF 9 (by decide)]; exact ht x (by omega)
    have skip_ : ((∀ m, m < J → tg x = nI m → decide (W m = -9) = true → σ' 14 (x / 8) = 1 → σ' 14 m = 1)) → ∀ w3, AJ Γ2 0 RX8 cX8_findControlled 4 none (ctlP σ0 J tg W) 52 [some (.inr 0), some (.inl mo), some (.inl (nI (x + 1))), w3] [] σ' := fun z w3 => by
      refine ih (x + 1) σ' mo w3 (by omega) hF hE ?_
      rcases hmo with ⟨a, b, c⟩ | h
      · refine Or.inl ⟨a, b, fun y hy m hm h1 h2 h3 => ?_⟩
        by_cases q : y = x
        · subst q; rw [← b] at h3 ⊢; exact z m hm h1 h2 h3
        · exact c y (by omega) m hm h1 h2 h3
      · exact Or.inr h
    rcases htr x (by omega) with hz | ⟨m, hm, hz⟩
    · refine j_iload_n (pc := 52) dX8_findControlled_52 rfl ?_
      refine j_bipush (pc := 53) dX8_findControlled_53 (v := 8) (by decide) ?_
      refine j_aload_n (pc := 55) dX8_findControlled_55 rfl ?_
      refine j_getI (pc := 56) dX8_findControlled_56 f_X8_131 (by first | rfl | with_reducible assumption) (by rfl) ?_
      refine j_top (y := nI J) (by rw [hF 0 (by decide)]; exact hJ2) ?_
      refine j_imul (pc := 59) dX8_findControlled_59 ?_
      refine j_top e8 ?_
      refine j_icmp_ge (pc := 60) (tgt := 123) dX8_findControlled_60 rfl (fun h60 => absurd h60 (nI_ge (by omega) (by omega))) (fun h60 => ?_)
      refine j_aload_n (pc := 63) dX8_findControlled_63 rfl ?_
      refine j_getR (pc := 64) dX8_findControlled_64 f_X8_34 (by first | rfl | with_reducible assumption) (by rfl) ?_
      refine j_iload_n (pc := 67) dX8_findControlled_67 rfl ?_
      refine j_iald (pc := 68) dX8_findControlled_68 (by first | rfl | with_reducible assumption) hvx ?_
      refine j_top (y := -9) (by rw [hcx, ht9]; exact hz) ?_
      refine j_istore_n (pc := 69) dX8_findControlled_69 (by decide) ?_
      refine j_aload_n (pc := 70) dX8_findControlled_70 rfl ?_
      refine j_getR (pc := 71) dX8_findControlled_71 f_X8_50 (by first | rfl | with_reducible assumption) (by rfl) ?_
      refine j_iload_n (pc := 74) dX8_findControlled_74 rfl ?_
      refine j_bipush (pc := 75) dX8_findControlled_75 (v := 8) (by decide) ?_
      refine j_idiv (pc := 77) dX8_findControlled_77 (by decide) ?_
      refine j_top ediv ?_
      refine j_zald (pc := 78) dX8_findControlled_78 (by first | rfl | with_reducible assumption) hvn ?_
      refine j_if_eq (pc := 79) (tgt := 117) dX8_findControlled_79 rfl (fun h79 => ?_) (fun h79 => ?_)
      · refine j_iinc1 (pc := 117) dX8_findControlled_117 rfl ?_
        refine j_goto (pc := 120) (tgt := 52) dX8_findControlled_120 rfl ?_
        rw [nI_1]
        exact skip_ (fun m hm h1 => absurd (h1.symm.trans hz) (nI_z (by omega))) _
      · refine j_iload_n (pc := 82) dX8_findControlled_82 rfl ?_
        refine j_bipush (pc := 83) dX8_findControlled_83 (v := (-9)) (by decide) ?_
        refine j_icmp_eq (pc := 85) (tgt := 117) dX8_findControlled_85 rfl (fun h85 => ?_) (fun h85 => absurd rfl h85)
        refine j_iinc1 (pc := 117) dX8_findControlled_117 rfl ?_
        refine j_goto (pc := 120) (tgt := 52) dX8_findControlled_120 rfl ?_
        rw [nI_1]
        exact skip_ (fun m hm h1 => absurd (h1.symm.trans hz) (nI_z (by omega))) _
    · have hcm : (nI m).toNatClampNeg = m := nI_clamp (by omega)
      have hvm : vp_in (nI m) 150 := vp_in_nI (by omega) (by decide)
      have hw10 : σ' 10 m = W m := by rw [hF 10 (by decide)]; exact hW _ hm
      have mm : ∀ m', m' < J → tg x = nI m' → m' = m := fun m' a b => (nI_eq (by omega) (by omega)).mp (b.symm.trans hz)
      refine j_iload_n (pc := 52) dX8_findControlled_52 rfl ?_
      refine j_bipush (pc := 53) dX8_findControlled_53 (v := 8) (by decide) ?_
      refine j_aload_n (pc := 55) dX8_findControlled_55 rfl ?_
      refine j_getI (pc := 56) dX8_findControlled_56 f_X8_131 (by first | rfl | with_reducible assumption) (by rfl) ?_
      refine j_top (y := nI J) (by rw [hF 0 (by decide)]; exact hJ2) ?_
      refine j_imul (pc := 59) dX8_findControlled_59 ?_
      refine j_top e8 ?_
      refine j_icmp_ge (pc := 60) (tgt := 123) dX8_findControlled_60 rfl (fun h60 => absurd h60 (nI_ge (by omega) (by omega))) (fun h60 => ?_)
      refine j_aload_n (pc := 63) dX8_findControlled_63 rfl ?_
      refine j_getR (pc := 64) dX8_findControlled_64 f_X8_34 (by first | rfl | with_reducible assumption) (by rfl) ?_
      refine j_iload_n (pc := 67) dX8_findControlled_67 rfl ?_
      refine j_iald (pc := 68) dX8_findControlled_68 (by first | rfl | with_reducible assumption) hvx ?_
      refine j_top (y := nI m) (by rw [hcx, ht9]; exact hz) ?_
      refine j_istore_n (pc := 69) dX8_findControlled_69 (by decide) ?_
      refine j_aload_n (pc := 70) dX8_findControlled_70 rfl ?_
      refine j_getR (pc := 71) dX8_findControlled_71 f_X8_50 (by first | rfl | with_reducible assumption) (by rfl) ?_
      refine j_iload_n (pc := 74) dX8_findControlled_74 rfl ?_
      refine j_bipush (pc := 75) dX8_findControlled_75 (v := 8) (by decide) ?_
      refine j_idiv (pc := 77) dX8_findControlled_77 (by decide) ?_
      refine j_top ediv ?_
      refine j_zald (pc := 78) dX8_findControlled_78 (by first | rfl | with_reducible assumption) hvn ?_
      rw [hcn]
      refine j_if_eq (pc := 79) (tgt := 117) dX8_findControlled_79 rfl (fun h79 => ?_) (fun h79 => ?_)
      · refine j_iinc1 (pc := 117) dX8_findControlled_117 rfl ?_
        refine j_goto (pc := 120) (tgt := 52) dX8_findControlled_120 rfl ?_
        rw [nI_1]
        first
          | (rw [hcm]
             have h1 : σ' 14 (x / 8) = 1 := (hE _ hn).1.resolve_left h79
             have hup : oneC (σ' 14) J < oneC (m_up σ' 14 m 1 14) J := by rw [m_row]; exact oneC_up hm h105
             refine ih (x + 1) _ 1 _ (by omega) hF.up ?_ (Or.inr ⟨rfl, ?_⟩)
             · rw [m_row]
               exact hE.add (n := x / 8) (e := x % 8) hn (Nat.mod_lt _ (by decide)) hm (decide_eq_true h96) (by rw [show 8 * (x / 8) + x % 8 = x by omega]; exact hz) h1
             · rcases hmo with ⟨a, b, c⟩ | ⟨a, b⟩
               · rw [← b]; exact hup
               · omega)
          | exact skip_ (fun m' a b c d => absurd (d.symm.trans h79) (by decide)) _
          | exact skip_ (fun m' a b c d => absurd (of_decide_eq_true c) (by rw [mm m' a b]; exact h96)) _
          | exact skip_ (fun m' a b c d => by rw [mm m' a b]; exact (hE m hm).1.resolve_left h105) _
      · refine j_iload_n (pc := 82) dX8_findControlled_82 rfl ?_
        refine j_bipush (pc := 83) dX8_findControlled_83 (v := (-9)) (by decide) ?_
        refine j_icmp_eq (pc := 85) (tgt := 117) dX8_findControlled_85 rfl (fun h85 => absurd h85 (nI_z (by omega))) (fun h85 => ?_)
        refine j_aload_n (pc := 88) dX8_findControlled_88 rfl ?_
        refine j_getR (pc := 89) dX8_findControlled_89 f_X8_37 (by first | rfl | with_reducible assumption) (by rfl) ?_
        refine j_iload_n (pc := 92) dX8_findControlled_92 rfl ?_
        refine j_iald (pc := 93) dX8_findControlled_93 (by first | rfl | with_reducible assumption) hvm ?_
        refine j_top (y := W m) (by rw [hcm]; exact hw10) ?_
        refine j_bipush (pc := 94) dX8_findControlled_94 (v := (-9)) (by decide) ?_
        refine j_icmp_ne (pc := 96) (tgt := 117) dX8_findControlled_96 rfl (fun h96 => ?_) (fun h96 => ?_)
        · refine j_iinc1 (pc := 117) dX8_findControlled_117 rfl ?_
          refine j_goto (pc := 120) (tgt := 52) dX8_findControlled_120 rfl ?_
          rw [nI_1]
          first
            | (rw [hcm]
               have h1 : σ' 14 (x / 8) = 1 := (hE _ hn).1.resolve_left h79
               have hup : oneC (σ' 14) J < oneC (m_up σ' 14 m 1 14) J := by rw [m_row]; exact oneC_up hm h105
               refine ih (x + 1) _ 1 _ (by omega) hF.up ?_ (Or.inr ⟨rfl, ?_⟩)
               · rw [m_row]
                 exact hE.add (n := x / 8) (e := x % 8) hn (Nat.mod_lt _ (by decide)) hm (decide_eq_true h96) (by rw [show 8 * (x / 8) + x % 8 = x by omega]; exact hz) h1
               · rcases hmo with ⟨a, b, c⟩ | ⟨a, b⟩
                 · rw [← b]; exact hup
                 · omega)
            | exact skip_ (fun m' a b c d => absurd (d.symm.trans h79) (by decide)) _
            | exact skip_ (fun m' a b c d => absurd (of_decide_eq_true c) (by rw [mm m' a b]; exact h96)) _
            | exact skip_ (fun m' a b c d => by rw [mm m' a b]; exact (hE m hm).1.resolve_left h105) _
        · refine j_aload_n (pc := 99) dX8_findControlled_99 rfl ?_
          refine j_getR (pc := 100) dX8_findControlled_100 f_X8_50 (by first | rfl | with_reducible assumption) (by rfl) ?_
          refine j_iload_n (pc := 103) dX8_findControlled_103 rfl ?_
          refine j_zald (pc := 104) dX8_findControlled_104 (by first | rfl | with_reducible assumption) hvm ?_
          rw [hcm]
          refine j_if_ne (pc := 105) (tgt := 117) dX8_findControlled_105 rfl (fun h105 => ?_) (fun h105 => ?_)
          · refine j_iinc1 (pc := 117) dX8_findControlled_117 rfl ?_
            refine j_goto (pc := 120) (tgt := 52) dX8_findControlled_120 rfl ?_
            rw [nI_1]
            first
              | (rw [hcm]
                 have h1 : σ' 14 (x / 8) = 1 := (hE _ hn).1.resolve_left h79
                 have hup : oneC (σ' 14) J < oneC (m_up σ' 14 m 1 14) J := by rw [m_row]; exact oneC_up hm h105
                 refine ih (x + 1) _ 1 _ (by omega) hF.up ?_ (Or.inr ⟨rfl, ?_⟩)
                 · rw [m_row]
                   exact hE.add (n := x / 8) (e := x % 8) hn (Nat.mod_lt _ (by decide)) hm (decide_eq_true h96) (by rw [show 8 * (x / 8) + x % 8 = x by omega]; exact hz) h1
                 · rcases hmo with ⟨a, b, c⟩ | ⟨a, b⟩
                   · rw [← b]; exact hup
                   · omega)
              | exact skip_ (fun m' a b c d => absurd (d.symm.trans h79) (by decide)) _
              | exact skip_ (fun m' a b c d => absurd (of_decide_eq_true c) (by rw [mm m' a b]; exact h96)) _
              | exact skip_ (fun m' a b c d => by rw [mm m' a b]; exact (hE m hm).1.resolve_left h105) _
          · refine j_aload_n (pc := 108) dX8_findControlled_108 rfl ?_
            refine j_getR (pc := 109) dX8_findControlled_109 f_X8_50 (by first | rfl | with_reducible assumption) (by rfl) ?_
            refine j_iload_n (pc := 112) dX8_findControlled_112 rfl ?_
            refine j_iconst (pc := 113) dX8_findControlled_113 (v := 1) (by decide) ?_
            refine j_zast (pc := 114) dX8_findControlled_114 (by first | rfl | with_reducible assumption) hvm (Or.inr rfl) ?_
            refine j_iconst (pc := 115) dX8_findControlled_115 (v := 1) (by decide) ?_
            refine j_istore_n (pc := 116) dX8_findControlled_116 (by decide) ?_
            refine j_iinc1 (pc := 117) dX8_findControlled_117 rfl ?_
            refine j_goto (pc := 120) (tgt := 52) dX8_findControlled_120 rfl ?_
            rw [nI_1]
            first
              | (rw [hcm]
                 have h1 : σ' 14 (x / 8) = 1 := (hE _ hn).1.resolve_left h79
                 have hup : oneC (σ' 14) J < oneC (m_up σ' 14 m 1 14) J := by rw [m_row]; exact oneC_up hm h105
                 refine ih (x + 1) _ 1 _ (by omega) hF.up ?_ (Or.inr ⟨rfl, ?_⟩)
                 · rw [m_row]
                   exact hE.add (n := x / 8) (e := x % 8) hn (Nat.mod_lt _ (by decide)) hm (decide_eq_true h96) (by rw [show 8 * (x / 8) + x % 8 = x by omega]; exact hz) h1
                 · rcases hmo with ⟨a, b, c⟩ | ⟨a, b⟩
                   · rw [← b]; exact hup
                   · omega)
              | exact skip_ (fun m' a b c d => absurd (d.symm.trans h79) (by decide)) _
              | exact skip_ (fun m' a b c d => absurd (of_decide_eq_true c) (by rw [mm m' a b]; exact h96)) _
              | exact skip_ (fun m' a b c d => by rw [mm m' a b]; exact (hE m hm).1.resolve_left h105) _
theorem c_X8_findControlled2 {W : Nat → Int32} {σ0 : Mm} (hJ : J ≤ 150) (hJ2 : σ0 0 11 = nI J) (ht : ∀ y, y < 8 * J → σ0 9 y = tg y) (htr : ∀ y, y < 8 * J → tg y = -9 ∨ ∃ m, m < J ∧ tg y = nI m) (hW : ∀ m, m < J → σ0 10 m = W m) : ∀ (q : Nat) (σ : Mm) (w2 w3 : Option Vl), J ≤ oneC (σ 14) J + q → FrO 14 σ0 σ → UI J tg (kpW W) (σ 14) → AJ Γ2 0 RX8 cX8_findControlled 4 none (ctlP σ0 J tg W) 44 [some (.inr 0), some (.inl 1), w2, w3] [] σ := by
  intro q
  induction q with
  | zero =>
    intro σ w2 w3 hq hF hE
    refine j_iload_n (pc := 44) dX8_findControlled_44 rfl ?_
    refine j_if_eq (pc := 45) (tgt := 126) dX8_findControlled_45 rfl (fun h45 => absurd h45 (by decide)) (fun h45 => ?_)
    refine j_iconst (pc := 48) dX8_findControlled_48 (v := 0) (by decide) ?_
    refine j_istore_n (pc := 49) dX8_findControlled_49 (by decide) ?_
    refine j_iconst (pc := 50) dX8_findControlled_50 (v := 0) (by decide) ?_
    refine j_istore_n (pc := 51) dX8_findControlled_51 (by decide) ?_
    exact c_X8_findControlledP hJ hJ2 ht htr hW (F0 := σ 14) (fun σ' w3 w4 a => absurd (oneC_le (σ' 14) J) (by omega)) (8 * J) 0 σ 0 _ (by omega) hF hE (Or.inl ⟨rfl, rfl, fun y hy => absurd hy (Nat.not_lt_zero _)⟩)
  | succ q ih =>
    intro σ w2 w3 hq hF hE
    refine j_iload_n (pc := 44) dX8_findControlled_44 rfl ?_
    refine j_if_eq (pc := 45) (tgt := 126) dX8_findControlled_45 rfl (fun h45 => absurd h45 (by decide)) (fun h45 => ?_)
    refine j_iconst (pc := 48) dX8_findControlled_48 (v := 0) (by decide) ?_
    refine j_istore_n (pc := 49) dX8_findControlled_49 (by decide) ?_
    refine j_iconst (pc := 50) dX8_findControlled_50 (v := 0) (by decide) ?_
    refine j_istore_n (pc := 51) dX8_findControlled_51 (by decide) ?_
    exact c_X8_findControlledP hJ hJ2 ht htr hW (F0 := σ 14) (fun σ' w3 w4 a b c => ih σ' w3 w4 (by omega) b c) (8 * J) 0 σ 0 _ (by omega) hF hE (Or.inl ⟨rfl, rfl, fun y hy => absurd hy (Nat.not_lt_zero _)⟩)
theorem c_X8_findControlled {W : Nat → Int32} (hJ : J ≤ 150) (hJ0 : 0 < J) (hJ2 : σ 0 11 = nI J) (ht : ∀ y, y < 8 * J → σ 9 y = tg y) (htr : ∀ y, y < 8 * J → tg y = -9 ∨ ∃ m, m < J ∧ tg y = nI m) (hW : ∀ m, m < J → σ 10 m = W m) : EV Γ2 0 yX8_findControlled cX8_findControlled 4 none [.inr 0] σ (ctlP σ J tg W) := by
  have loop : ∀ (q n : Nat) (σ' : Mm) (w2 w3 : Option Vl), n + q = J → FrO 14 σ σ' → (∀ i, i < n → σ' 14 i = bI (decide (i = 0) && decide (W 0 = -9))) → AJ Γ2 0 RX8 cX8_findControlled 4 none (ctlP σ J tg W) 2 [some (.inr 0), some (.inl (nI n)), w2, w3] [] σ' := by
    intro q
    induction q with
    | zero =>
      intro n σ' w2 w3 hq hF hold
      obtain rfl : n = J := by omega
      refine j_iload_n (pc := 2) dX8_findControlled_2 rfl ?_
      refine j_aload_n (pc := 3) dX8_findControlled_3 rfl ?_
      refine j_getI (pc := 4) dX8_findControlled_4 f_X8_131 (by first | rfl | with_reducible assumption) (by rfl) ?_
      refine j_top (y := nI n) (by rw [hF 0 (by decide)]; exact hJ2) ?_
      refine j_icmp_ge (pc := 7) (tgt := 42) dX8_findControlled_7 rfl (fun h7 => ?_) (fun h7 => absurd (Int32.le_refl _) h7)
      refine j_iconst (pc := 42) dX8_findControlled_42 (v := 1) (by decide) ?_
      refine j_istore_n (pc := 43) dX8_findControlled_43 (by decide) ?_
      refine c_X8_findControlled2 hJ hJ2 ht htr hW n σ' _ _ (by omega) hF (fun i hi => ?_)
      rw [hold i hi]
      by_cases z : i = 0
      · subst z
        cases hk : decide (W 0 = -9)
        · exact ⟨Or.inl rfl, fun z => absurd z (by decide), fun _ z => absurd (hk.symm.trans z) (by decide)⟩
        · exact ⟨Or.inr rfl, fun _ => ⟨0, rfl, hi, hk⟩, fun _ _ => rfl⟩
      · rw [decide_eq_false z, Bool.false_and]
        exact ⟨Or.inl rfl, fun z => absurd z (by decide), fun y => absurd y z⟩
    | succ q ih =>
      intro n σ' w2 w3 hq hF hold
      have hnJ : n < J := by omega
      have hcn : (nI n).toNatClampNeg = n := nI_clamp (by omega)
      have hvn : vp_in (nI n) 150 := vp_in_nI (by omega) (by decide)
      have hw10 : σ' 10 0 = W 0 := by rw [hF 10 (by decide)]; exact hW _ hJ0
      have step : ∀ v : Int32, v = bI (decide (n = 0) && decide (W 0 = -9)) → AJ Γ2 0 RX8 cX8_findControlled 4 none (ctlP σ J tg W) 2 [some (.inr 0), some (.inl (nI (n + 1))), w2, w3] [] (m_up σ' 14 n v) := fun v hv => by
        refine ih (n + 1) _ w2 w3 (by omega) hF.up (fun i hi => ?_)
        by_cases z : i = n
        · subst z; rw [m_eq]; exact hv
        · rw [m_nk z]; exact hold i (by omega)
      refine j_iload_n (pc := 2) dX8_findControlled_2 rfl ?_
      refine j_aload_n (pc := 3) dX8_findControlled_3 rfl ?_
      refine j_getI (pc := 4) dX8_findControlled_4 f_X8_131 (by first | rfl | with_reducible assumption) (by rfl) ?_
      refine j_top (y := nI J) (by rw [hF 0 (by decide)]; exact hJ2) ?_
      refine j_icmp_ge (pc := 7) (tgt := 42) dX8_findControlled_7 rfl (fun h7 => absurd h7 (nI_ge (by omega) (by omega))) (fun h7 => ?_)
      refine j_aload_n (pc := 10) dX8_findControlled_10 rfl ?_
      refine j_getR (pc := 11) dX8_findControlled_11 f_X8_50 (by first | rfl | with_reducible assumption) (by rfl) ?_
      refine j_iload_n (pc := 14) dX8_findControlled_14 rfl ?_
      refine j_iload_n (pc := 15) dX8_findControlled_15 rfl ?_
      refine j_if_ne (pc := 16) (tgt := 34) dX8_findControlled_16 rfl (fun h16 => ?_) (fun h16 => ?_)
      · have hn0 : ¬ n = 0 := fun z => h16 (by rw [z]; rfl)
        refine j_iconst (pc := 34) dX8_findControlled_34 (v := 0) (by decide) ?_
        refine j_zast (pc := 35) dX8_findControlled_35 (by first | rfl | with_reducible assumption) hvn (Or.inl rfl) ?_
        refine j_iinc1 (pc := 36) dX8_findControlled_36 rfl ?_
        refine j_goto (pc := 39) (tgt := 2) dX8_findControlled_39 rfl ?_
        rw [nI_1, hcn]
        refine step _ ?_
        first
          | (rw [decide_eq_false hn0]; rfl)
          | (rw [decide_eq_true hn0, decide_eq_true h27]; rfl)
          | (rw [decide_eq_true hn0, decide_eq_false h27]; rfl)
      · have hn0 : n = 0 := (nI_eq (b := 0) (by omega) (by decide)).mp h16
        refine j_aload_n (pc := 19) dX8_findControlled_19 rfl ?_
        refine j_getR (pc := 20) dX8_findControlled_20 f_X8_37 (by first | rfl | with_reducible assumption) (by rfl) ?_
        refine j_iconst (pc := 23) dX8_findControlled_23 (v := 0) (by decide) ?_
        refine j_iald (pc := 24) dX8_findControlled_24 (by first | rfl | with_reducible assumption) (vp_in_nI (n := 0) (N := 150) (by decide) (by decide)) ?_
        refine j_top (y := W 0) hw10 ?_
        refine j_bipush (pc := 25) dX8_findControlled_25 (v := (-9)) (by decide) ?_
        refine j_icmp_ne (pc := 27) (tgt := 34) dX8_findControlled_27 rfl (fun h27 => ?_) (fun h27 => ?_)
        · refine j_iconst (pc := 34) dX8_findControlled_34 (v := 0) (by decide) ?_
          refine j_zast (pc := 35) dX8_findControlled_35 (by first | rfl | with_reducible assumption) hvn (Or.inl rfl) ?_
          refine j_iinc1 (pc := 36) dX8_findControlled_36 rfl ?_
          refine j_goto (pc := 39) (tgt := 2) dX8_findControlled_39 rfl ?_
          rw [nI_1, hcn]
          refine step _ ?_
          first
            | (rw [decide_eq_false hn0]; rfl)
            | (rw [decide_eq_true hn0, decide_eq_true h27]; rfl)
            | (rw [decide_eq_true hn0, decide_eq_false h27]; rfl)
        · refine j_iconst (pc := 30) dX8_findControlled_30 (v := 1) (by decide) ?_
          refine j_goto (pc := 31) (tgt := 35) dX8_findControlled_31 rfl ?_
          refine j_zast (pc := 35) dX8_findControlled_35 (by first | rfl | with_reducible assumption) hvn (Or.inr rfl) ?_
          refine j_iinc1 (pc := 36) dX8_findControlled_36 rfl ?_
          refine j_goto (pc := 39) (tgt := 2) dX8_findControlled_39 rfl ?_
          rw [nI_1, hcn]
          refine step _ ?_
          first
            | (rw [decide_eq_false hn0]; rfl)
            | (rw [decide_eq_true hn0, decide_eq_true h27]; rfl)
            | (rw [decide_eq_true hn0, decide_eq_false h27]; rfl)
  refine EV.intro (by decide +kernel) (Nat.le_of_ble_eq_true rfl) ?_
  refine j_iconst (pc := 0) dX8_findControlled_0 (v := 0) (by decide) ?_
  refine j_istore_n (pc := 1) dX8_findControlled_1 (by decide) ?_
  exact loop J 0 σ _ _ (by omega) FrO.rf (fun i hi => absurd hi (Nat.not_lt_zero _))
end Ctl
