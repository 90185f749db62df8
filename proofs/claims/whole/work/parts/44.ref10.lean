/-! LEASTBARSMODEL: findEnds, losesStuck -/
def oneC (F : Nat → Int32) (J : Nat) : Nat := cntF (fun n => if F n = 0 then -9 else 0) J
theorem oneC_le (F : Nat → Int32) (J : Nat) : oneC F J ≤ J := cnt_le _ _
theorem oneC_up {F : Nat → Int32} {J m : Nat} (hm : m < J) (h0 : F m = 0) : oneC F J < oneC (upd F m 1) J := by
  refine cnt_more J (fun n _ q => ?_) ⟨m, hm, by rw [if_pos h0], by rw [pk_us]; decide⟩
  by_cases z : n = m
  · subst z; rw [pk_us]; decide
  · rw [pk_un z]; exact q
section Ends
variable {σ : Mm} {J : Nat} {tg : Nat → Int32} {fs : Int32}
/-- only one row is changed -/
def FrO (a : Nat) (σ σ' : Mm) : Prop := ∀ x, x ≠ a → σ' x = σ x
theorem FrO.rf {a : Nat} : FrO a σ σ := fun _ _ => rfl
theorem FrO.up {a k : Nat} {v : Int32} {σ' : Mm} (h : FrO a σ σ') : FrO a σ (m_up σ' a k v) := fun x hx => (m_ne hx).trans (h x hx)
theorem FrO.x {a : Nat} {σ' : Mm} (h : FrO a σ σ') (ha : 10 ≤ a ∧ a ≠ 15) : FrX σ σ' := fun x hx => h x (by omega)
/-- canEnd, on its way: what says yes can end; who is FINISHED says yes -/
def EI (J : Nat) (tg : Nat → Int32) (fn al : Nat → Bool) (F : Nat → Int32) : Prop := ∀ n, n < J → (F n = 0 ∨ F n = 1) ∧ (F n = 1 → ∃ k, Rk J tg fn al k n) ∧ (al n = true → fn n = true → F n = 1)
def EC (J : Nat) (tg : Nat → Int32) (al : Nat → Bool) (F : Nat → Int32) (x : Nat) : Prop := ∀ y, y < x → ∀ m, m < J → tg y = nI m → al (y / 8) = true → F m = 1 → F (y / 8) = 1
theorem EI.done {fn al : Nat → Bool} {F : Nat → Int32} (h : EI J tg fn al F) (hc : EC J tg al F (8 * J)) {n : Nat} (hn : n < J) : F n = 1 ↔ ∃ k, Rk J tg fn al k n := by
  refine ⟨(h n hn).2.1, ?_⟩
  rintro ⟨k, hk⟩
  induction k generalizing n with
  | zero => exact (h n hn).2.2 hk.2.1 hk.2.2
  | succ k ih =>
    rcases hk with q | ⟨a, b, e, m, c, d, q⟩
    · exact ih hn q
    · have := hc (8 * n + e) (by omega) m q.lt.1 d (by rw [show (8 * n + e) / 8 = n by omega]; exact b) (ih q.lt.1 q)
      rw [show (8 * n + e) / 8 = n by omega] at this
      exact this
theorem EI.add {fn al : Nat → Bool} {F : Nat → Int32} (h : EI J tg fn al F) {n e m : Nat} (hn : n < J) (he : e < 8) (hm : m < J) (ha : al n = true) (ht : tg (8 * n + e) = nI m) (h1 : F m = 1) : EI J tg fn al (upd F n 1) := fun i hi => by
  by_cases z : i = n
  · subst z
    rw [pk_us]
    obtain ⟨k, hk⟩ := (h m hm).2.1 h1
    exact ⟨Or.inr rfl, fun _ => ⟨k + 1, Or.inr ⟨hi, ha, e, m, he, ht, hk⟩⟩, fun _ _ => rfl⟩
  · rw [pk_un z]; exact h i hi
def endP (σ0 : Mm) (J : Nat) (tg : Nat → Int32) (fn : Nat → Bool) (W : Nat → Int32) : Int32 → Mm → Prop := fun _ σ' => FrO 13 σ0 σ' ∧ ∀ n, n < J → (σ' 13 n = 0 ∨ σ' 13 n = 1) ∧ (σ' 13 n = 1 ↔ ∃ k, Rk J tg fn (fun n => decide (W n = -9)) k n)
theorem c_X8_findEndsP {W : Nat → Int32} {fn : Nat → Bool} {set : Int32} {σ0 : Mm} (hJ : J ≤ 150) (hJ2 : σ0 0 11 = nI J) (ht : ∀ y, y < 8 * J → σ0 9 y = tg y) (htr : ∀ y, y < 8 * J → tg y = -9 ∨ ∃ m, m < J ∧ tg y = nI m) (hW : ∀ m, m < J → σ0 10 m = W m) {F0 : Nat → Int32} (again : ∀ (σ' : Mm) (w3 w4 : Option Vl), oneC F0 J < oneC (σ' 13) J → FrO 13 σ0 σ' → EI J tg fn (fun n => decide (W n = -9)) (σ' 13) → AJ Γ2 2 RX8 cX8_findEnds 5 none (endP σ0 J tg fn W) 49 [some (.inr 0), some (.inl set), some (.inl 1), w3, w4] [] σ') :
    ∀ (r x : Nat) (σ' : Mm) (mo : Int32) (w4 : Option Vl), x + r = 8 * J → FrO 13 σ0 σ' → EI J tg fn (fun n => decide (W n = -9)) (σ' 13) → ((mo = 0 ∧ σ' 13 = F0 ∧ EC J tg (fun n => decide (W n = -9)) F0 x) ∨ (mo = 1 ∧ oneC F0 J < oneC (σ' 13) J)) → AJ Γ2 2 RX8 cX8_findEnds 5 none (endP σ0 J tg fn W) 57 [some (.inr 0), some (.inl set), some (.inl mo), some (.inl (nI x)), w4] [] σ' := by
  intro r
  induction r with
  | zero =>
    intro x σ' mo w4 hx hF hE hmo
    obtain rfl : x = 8 * J := by omega
    have e8 : (8 : Int32) * nI J = nI (8 * J) := by rw [show (8 : Int32) = nI 8 from rfl, pk_mul]
    rcases hmo with ⟨rfl, h13, hC⟩ | ⟨rfl, hlt⟩
    · refine j_iload_n (pc := 57) dX8_findEnds_57 rfl ?_
      refine j_bipush (pc := 58) dX8_findEnds_58 (v := 8) (by decide) ?_
      refine j_aload_n (pc := 60) dX8_findEnds_60 rfl ?_
      refine j_getI (pc := 61) dX8_findEnds_61 f_X8_131 (by first | rfl | with_reducible assumption) (by rfl) ?_
      refine j_top (y := nI J) (by rw [hF 0 (by decide)]; exact hJ2) ?_
      refine j_imul (pc := 64) dX8_findEnds_64 ?_
      refine j_top e8 ?_
      refine j_icmp_ge (pc := 65) (tgt := 137) dX8_findEnds_65 rfl (fun h65 => ?_) (fun h65 => absurd (Int32.le_refl _) h65)
      refine j_goto (pc := 137) (tgt := 49) dX8_findEnds_137 rfl ?_
      refine j_iload_n (pc := 49) dX8_findEnds_49 rfl ?_
      refine j_if_eq (pc := 50) (tgt := 140) dX8_findEnds_50 rfl (fun h50 => ?_) (fun h50 => absurd rfl h50)
      refine j_vret (pc := 140) dX8_findEnds_140 ?_
      rw [← h13] at hC
      exact ⟨hF, fun n hn => ⟨(hE n hn).1, hE.done hC hn⟩⟩
    · refine j_iload_n (pc := 57) dX8_findEnds_57 rfl ?_
      refine j_bipush (pc := 58) dX8_findEnds_58 (v := 8) (by decide) ?_
      refine j_aload_n (pc := 60) dX8_findEnds_60 rfl ?_
      refine j_getI (pc := 61) dX8_findEnds_61 f_X8_131 (by first | rfl | with_reducible assumption) (by rfl) ?_
      refine j_top (y := nI J) (by rw [hF 0 (by decide)]; exact hJ2) ?_
      refine j_imul (pc := 64) dX8_findEnds_64 ?_
      refine j_top e8 ?_
      refine j_icmp_ge (pc := 65) (tgt := 137) dX8_findEnds_65 rfl (fun h65 => ?_) (fun h65 => absurd (Int32.le_refl _) h65)
      refine j_goto (pc := 137) (tgt := 49) dX8_findEnds_137 rfl ?_
      exact again _ _ _ hlt hF hE
  | succ r ih =>
    intro x σ' mo w4 hx hF hE hmo
    have e8 : (8 : Int32) * nI J = nI (8 * J) := by rw [show (8 : Int32) = nI 8 from rfl, pk_mul]
    have hn : x / 8 < J := by omega
    have hcx : (nI x).toNatClampNeg = x := nI_clamp (by omega)
    have hvx : vp_in (nI x) 1200 := vp_in_nI (by omega) (by decide)
    have hcn : (nI (x / 8)).toNatClampNeg = x / 8 := nI_clamp (by omega)
    have hvn : vp_in (nI (x / 8)) 150 := vp_in_nI (by omega) (by decide)
    have ediv : nI x / 8 = nI (x / 8) := by rw [show (8 : Int32) = nI 8 from rfl, pk_div (by omega) (by decide) (by decide)]
    have ht9 : σ' 9 x = tg x := by rw [hF 9 (by decide)]; exact ht x (by omega)
    have hw10 : σ' 10 (x / 8) = W (x / 8) := by rw [hF 10 (by decide)]; exact hW _ hn
    have skip_ : ((∀ m, m < J → tg x = nI m → decide (W (x / 8) = -9) = true → σ' 13 m = 1 → σ' 13 (x / 8) = 1)) → ∀ w4, AJ Γ2 2 RX8 cX8_findEnds 5 none (endP σ0 J tg fn W) 57 [some (.inr 0), some (.inl set), some (.inl mo), some (.inl (nI (x + 1))), w4] [] σ' := fun z w4 => by
      refine ih (x + 1) σ' mo w4 (by omega) hF hE ?_
      rcases hmo with ⟨a, b, c⟩ | h
      · refine Or.inl ⟨a, b, fun y hy m hm h1 h2 h3 => ?_⟩
        by_cases q : y = x
        · subst q; rw [← b] at h3 ⊢; exact z m hm h1 h2 h3
        · exact c y (by omega) m hm h1 h2 h3
      · exact Or.inr h
    rcases htr x (by omega) with hz | ⟨m, hm, hz⟩
    · refine j_iload_n (pc := 57) dX8_findEnds_57 rfl ?_
      refine j_bipush (pc := 58) dX8_findEnds_58 (v := 8) (by decide) ?_
      refine j_aload_n (pc := 60) dX8_findEnds_60 rfl ?_
      refine j_getI (pc := 61) dX8_findEnds_61 f_X8_131 (by first | rfl | with_reducible assumption) (by rfl) ?_
      refine j_top (y := nI J) (by rw [hF 0 (by decide)]; exact hJ2) ?_
      refine j_imul (pc := 64) dX8_findEnds_64 ?_
      refine j_top e8 ?_
      refine j_icmp_ge (pc := 65) (tgt := 137) dX8_findEnds_65 rfl (fun h65 => absurd h65 (nI_ge (by omega) (by omega))) (fun h65 => ?_)
      refine j_iload_n (pc := 68) dX8_findEnds_68 rfl ?_
      refine j_bipush (pc := 69) dX8_findEnds_69 (v := 8) (by decide) ?_
      refine j_idiv (pc := 71) dX8_findEnds_71 (by decide) ?_
      refine j_top ediv ?_
      refine j_istore (pc := 72) dX8_findEnds_72 (by decide) ?_
      refine j_aload_n (pc := 74) dX8_findEnds_74 rfl ?_
      refine j_getR (pc := 75) dX8_findEnds_75 f_X8_46 (by first | rfl | with_reducible assumption) (by rfl) ?_
      refine j_iload (pc := 78) dX8_findEnds_78 rfl ?_
      refine j_zald (pc := 80) dX8_findEnds_80 (by first | rfl | with_reducible assumption) hvn ?_
      rw [hcn]
      refine j_if_ne (pc := 81) (tgt := 131) dX8_findEnds_81 rfl (fun h81 => ?_) (fun h81 => ?_)
      · refine j_iinc1 (pc := 131) dX8_findEnds_131 rfl ?_
        refine j_goto (pc := 134) (tgt := 57) dX8_findEnds_134 rfl ?_
        rw [nI_1]
        exact skip_ (fun m hm h1 => absurd (h1.symm.trans hz) (nI_z (by omega))) _
      · refine j_aload_n (pc := 84) dX8_findEnds_84 rfl ?_
        refine j_getR (pc := 85) dX8_findEnds_85 f_X8_37 (by first | rfl | with_reducible assumption) (by rfl) ?_
        refine j_iload (pc := 88) dX8_findEnds_88 rfl ?_
        refine j_iald (pc := 90) dX8_findEnds_90 (by first | rfl | with_reducible assumption) hvn ?_
        refine j_bipush (pc := 91) dX8_findEnds_91 (v := (-9)) (by decide) ?_
        refine j_icmp_ne (pc := 93) (tgt := 131) dX8_findEnds_93 rfl (fun h93 => ?_) (fun h93 => ?_)
        · refine j_iinc1 (pc := 131) dX8_findEnds_131 rfl ?_
          refine j_goto (pc := 134) (tgt := 57) dX8_findEnds_134 rfl ?_
          rw [nI_1]
          exact skip_ (fun m hm h1 => absurd (h1.symm.trans hz) (nI_z (by omega))) _
        · refine j_aload_n (pc := 96) dX8_findEnds_96 rfl ?_
          refine j_getR (pc := 97) dX8_findEnds_97 f_X8_34 (by first | rfl | with_reducible assumption) (by rfl) ?_
          refine j_iload_n (pc := 100) dX8_findEnds_100 rfl ?_
          refine j_iald (pc := 101) dX8_findEnds_101 (by first | rfl | with_reducible assumption) hvx ?_
          refine j_top (y := -9) (by rw [hcx, ht9]; exact hz) ?_
          refine j_bipush (pc := 102) dX8_findEnds_102 (v := (-9)) (by decide) ?_
          refine j_icmp_eq (pc := 104) (tgt := 131) dX8_findEnds_104 rfl (fun h104 => ?_) (fun h104 => absurd rfl h104)
          refine j_iinc1 (pc := 131) dX8_findEnds_131 rfl ?_
          refine j_goto (pc := 134) (tgt := 57) dX8_findEnds_134 rfl ?_
          rw [nI_1]
          exact skip_ (fun m hm h1 => absurd (h1.symm.trans hz) (nI_z (by omega))) _
    · have hcm : (nI m).toNatClampNeg = m := nI_clamp (by omega)
      have hvm : vp_in (nI m) 150 := vp_in_nI (by omega) (by decide)
      have mm : ∀ m', m' < J → tg x = nI m' → m' = m := fun m' a b => (nI_eq (by omega) (by omega)).mp (b.symm.trans hz)
      refine j_iload_n (pc := 57) dX8_findEnds_57 rfl ?_
      refine j_bipush (pc := 58) dX8_findEnds_58 (v := 8) (by decide) ?_
      refine j_aload_n (pc := 60) dX8_findEnds_60 rfl ?_
      refine j_getI (pc := 61) dX8_findEnds_61 f_X8_131 (by first | rfl | with_reducible assumption) (by rfl) ?_
      refine j_top (y := nI J) (by rw [hF 0 (by decide)]; exact hJ2) ?_
      refine j_imul (pc := 64) dX8_findEnds_64 ?_
      refine j_top e8 ?_
      refine j_icmp_ge (pc := 65) (tgt := 137) dX8_findEnds_65 rfl (fun h65 => absurd h65 (nI_ge (by omega) (by omega))) (fun h65 => ?_)
      refine j_iload_n (pc := 68) dX8_findEnds_68 rfl ?_
      refine j_bipush (pc := 69) dX8_findEnds_69 (v := 8) (by decide) ?_
      refine j_idiv (pc := 71) dX8_findEnds_71 (by decide) ?_
      refine j_top ediv ?_
      refine j_istore (pc := 72) dX8_findEnds_72 (by decide) ?_
      refine j_aload_n (pc := 74) dX8_findEnds_74 rfl ?_
      refine j_getR (pc := 75) dX8_findEnds_75 f_X8_46 (by first | rfl | with_reducible assumption) (by rfl) ?_
      refine j_iload (pc := 78) dX8_findEnds_78 rfl ?_
      refine j_zald (pc := 80) dX8_findEnds_80 (by first | rfl | with_reducible assumption) hvn ?_
      rw [hcn]
      refine j_if_ne (pc := 81) (tgt := 131) dX8_findEnds_81 rfl (fun h81 => ?_) (fun h81 => ?_)
      · refine j_iinc1 (pc := 131) dX8_findEnds_131 rfl ?_
        refine j_goto (pc := 134) (tgt := 57) dX8_findEnds_134 rfl ?_
        rw [nI_1]
        first
          | (rw [hcn]
             have h1 : σ' 13 m = 1 := (hE m hm).1.resolve_left h118
             have hup : oneC (σ' 13) J < oneC (m_up σ' 13 (x / 8) 1 13) J := by rw [m_row]; exact oneC_up hn h81
             refine ih (x + 1) _ 1 _ (by omega) hF.up ?_ (Or.inr ⟨rfl, ?_⟩)
             · rw [m_row]
               exact hE.add (n := x / 8) (e := x % 8) hn (Nat.mod_lt _ (by decide)) hm (decide_eq_true h93) (by rw [show 8 * (x / 8) + x % 8 = x by omega]; exact hz) h1
             · rcases hmo with ⟨a, b, c⟩ | ⟨a, b⟩
               · rw [← b]; exact hup
               · omega)
          | exact skip_ (fun m' a b c d => (hE _ hn).1.resolve_left h81) _
          | exact skip_ (fun m' a b c d => absurd (of_decide_eq_true c) h93) _
          | exact skip_ (fun m' a b c d => by rw [mm m' a b, h118] at d; exact absurd d (by decide)) _
      · refine j_aload_n (pc := 84) dX8_findEnds_84 rfl ?_
        refine j_getR (pc := 85) dX8_findEnds_85 f_X8_37 (by first | rfl | with_reducible assumption) (by rfl) ?_
        refine j_iload (pc := 88) dX8_findEnds_88 rfl ?_
        refine j_iald (pc := 90) dX8_findEnds_90 (by first | rfl | with_reducible assumption) hvn ?_
        refine j_top (y := W (x / 8)) (by rw [hcn, hw10]) ?_
        refine j_bipush (pc := 91) dX8_findEnds_91 (v := (-9)) (by decide) ?_
        refine j_icmp_ne (pc := 93) (tgt := 131) dX8_findEnds_93 rfl (fun h93 => ?_) (fun h93 => ?_)
        · refine j_iinc1 (pc := 131) dX8_findEnds_131 rfl ?_
          refine j_goto (pc := 134) (tgt := 57) dX8_findEnds_134 rfl ?_
          rw [nI_1]
          first
            | (rw [hcn]
               have h1 : σ' 13 m = 1 := (hE m hm).1.resolve_left h118
               have hup : oneC (σ' 13) J < oneC (m_up σ' 13 (x / 8) 1 13) J := by rw [m_row]; exact oneC_up hn h81
               refine ih (x + 1) _ 1 _ (by omega) hF.up ?_ (Or.inr ⟨rfl, ?_⟩)
               · rw [m_row]
                 exact hE.add (n := x / 8) (e := x % 8) hn (Nat.mod_lt _ (by decide)) hm (decide_eq_true h93) (by rw [show 8 * (x / 8) + x % 8 = x by omega]; exact hz) h1
               · rcases hmo with ⟨a, b, c⟩ | ⟨a, b⟩
                 · rw [← b]; exact hup
                 · omega)
            | exact skip_ (fun m' a b c d => (hE _ hn).1.resolve_left h81) _
            | exact skip_ (fun m' a b c d => absurd (of_decide_eq_true c) h93) _
            | exact skip_ (fun m' a b c d => by rw [mm m' a b, h118] at d; exact absurd d (by decide)) _
        · refine j_aload_n (pc := 96) dX8_findEnds_96 rfl ?_
          refine j_getR (pc := 97) dX8_findEnds_97 f_X8_34 (by first | rfl | with_reducible assumption) (by rfl) ?_
          refine j_iload_n (pc := 100) dX8_findEnds_100 rfl ?_
          refine j_iald (pc := 101) dX8_findEnds_101 (by first | rfl | with_reducible assumption) hvx ?_
          refine j_top (y := nI m) (by rw [hcx, ht9]; exact hz) ?_
          refine j_bipush (pc := 102) dX8_findEnds_102 (v := (-9)) (by decide) ?_
          refine j_icmp_eq (pc := 104) (tgt := 131) dX8_findEnds_104 rfl (fun h104 => absurd h104 (nI_z (by omega))) (fun h104 => ?_)
          refine j_aload_n (pc := 107) dX8_findEnds_107 rfl ?_
          refine j_getR (pc := 108) dX8_findEnds_108 f_X8_46 (by first | rfl | with_reducible assumption) (by rfl) ?_
          refine j_aload_n (pc := 111) dX8_findEnds_111 rfl ?_
          refine j_getR (pc := 112) dX8_findEnds_112 f_X8_34 (by first | rfl | with_reducible assumption) (by rfl) ?_
          refine j_iload_n (pc := 115) dX8_findEnds_115 rfl ?_
          refine j_iald (pc := 116) dX8_findEnds_116 (by first | rfl | with_reducible assumption) hvx ?_
          refine j_top (y := nI m) (by rw [hcx, ht9]; exact hz) ?_
          refine j_zald (pc := 117) dX8_findEnds_117 (by first | rfl | with_reducible assumption) hvm ?_
          rw [hcm]
          refine j_if_eq (pc := 118) (tgt := 131) dX8_findEnds_118 rfl (fun h118 => ?_) (fun h118 => ?_)
          · refine j_iinc1 (pc := 131) dX8_findEnds_131 rfl ?_
            refine j_goto (pc := 134) (tgt := 57) dX8_findEnds_134 rfl ?_
            rw [nI_1]
            first
              | (rw [hcn]
                 have h1 : σ' 13 m = 1 := (hE m hm).1.resolve_left h118
                 have hup : oneC (σ' 13) J < oneC (m_up σ' 13 (x / 8) 1 13) J := by rw [m_row]; exact oneC_up hn h81
                 refine ih (x + 1) _ 1 _ (by omega) hF.up ?_ (Or.inr ⟨rfl, ?_⟩)
                 · rw [m_row]
                   exact hE.add (n := x / 8) (e := x % 8) hn (Nat.mod_lt _ (by decide)) hm (decide_eq_true h93) (by rw [show 8 * (x / 8) + x % 8 = x by omega]; exact hz) h1
                 · rcases hmo with ⟨a, b, c⟩ | ⟨a, b⟩
                   · rw [← b]; exact hup
                   · omega)
              | exact skip_ (fun m' a b c d => (hE _ hn).1.resolve_left h81) _
              | exact skip_ (fun m' a b c d => absurd (of_decide_eq_true c) h93) _
              | exact skip_ (fun m' a b c d => by rw [mm m' a b, h118] at d; exact absurd d (by decide)) _
          · refine j_aload_n (pc := 121) dX8_findEnds_121 rfl ?_
            refine j_getR (pc := 122) dX8_findEnds_122 f_X8_46 (by first | rfl | with_reducible assumption) (by rfl) ?_
            refine j_iload (pc := 125) dX8_findEnds_125 rfl ?_
            refine j_iconst (pc := 127) dX8_findEnds_127 (v := 1) (by decide) ?_
            refine j_zast (pc := 128) dX8_findEnds_128 (by first | rfl | with_reducible assumption) hvn (Or.inr rfl) ?_
            refine j_iconst (pc := 129) dX8_findEnds_129 (v := 1) (by decide) ?_
            refine j_istore_n (pc := 130) dX8_findEnds_130 (by decide) ?_
            refine j_iinc1 (pc := 131) dX8_findEnds_131 rfl ?_
            refine j_goto (pc := 134) (tgt := 57) dX8_findEnds_134 rfl ?_
            rw [nI_1]
            first
              | (rw [hcn]
                 have h1 : σ' 13 m = 1 := (hE m hm).1.resolve_left h118
                 have hup : oneC (σ' 13) J < oneC (m_up σ' 13 (x / 8) 1 13) J := by rw [m_row]; exact oneC_up hn h81
                 refine ih (x + 1) _ 1 _ (by omega) hF.up ?_ (Or.inr ⟨rfl, ?_⟩)
                 · rw [m_row]
                   exact hE.add (n := x / 8) (e := x % 8) hn (Nat.mod_lt _ (by decide)) hm (decide_eq_true h93) (by rw [show 8 * (x / 8) + x % 8 = x by omega]; exact hz) h1
                 · rcases hmo with ⟨a, b, c⟩ | ⟨a, b⟩
                   · rw [← b]; exact hup
                   · omega)
              | exact skip_ (fun m' a b c d => (hE _ hn).1.resolve_left h81) _
              | exact skip_ (fun m' a b c d => absurd (of_decide_eq_true c) h93) _
              | exact skip_ (fun m' a b c d => by rw [mm m' a b, h118] at d; exact absurd d (by decide)) _
theorem c_X8_findEnds2 {W : Nat → Int32} {fn : Nat → Bool} {set : Int32} {σ0 : Mm} (hJ : J ≤ 150) (hJ2 : σ0 0 11 = nI J) (ht : ∀ y, y < 8 * J → σ0 9 y = tg y) (htr : ∀ y, y < 8 * J → tg y = -9 ∨ ∃ m, m < J ∧ tg y = nI m) (hW : ∀ m, m < J → σ0 10 m = W m) : ∀ (q : Nat) (σ : Mm) (w3 w4 : Option Vl), J ≤ oneC (σ 13) J + q → FrO 13 σ0 σ → EI J tg fn (fun n => decide (W n = -9)) (σ 13) → AJ Γ2 2 RX8 cX8_findEnds 5 none (endP σ0 J tg fn W) 49 [some (.inr 0), some (.inl set), some (.inl 1), w3, w4] [] σ := by
  intro q
  induction q with
  | zero =>
    intro σ w3 w4 hq hF hE
    refine j_iload_n (pc := 49) dX8_findEnds_49 rfl ?_
    refine j_if_eq (pc := 50) (tgt := 140) dX8_findEnds_50 rfl (fun h50 => absurd h50 (by decide)) (fun h50 => ?_)
    refine j_iconst (pc := 53) dX8_findEnds_53 (v := 0) (by decide) ?_
    refine j_istore_n (pc := 54) dX8_findEnds_54 (by decide) ?_
    refine j_iconst (pc := 55) dX8_findEnds_55 (v := 0) (by decide) ?_
    refine j_istore_n (pc := 56) dX8_findEnds_56 (by decide) ?_
    exact c_X8_findEndsP hJ hJ2 ht htr hW (F0 := σ 13) (fun σ' w3 w4 a => absurd (oneC_le (σ' 13) J) (by omega)) (8 * J) 0 σ 0 _ (by omega) hF hE (Or.inl ⟨rfl, rfl, fun y hy => absurd hy (Nat.not_lt_zero _)⟩)
  | succ q ih =>
    intro σ w3 w4 hq hF hE
    refine j_iload_n (pc := 49) dX8_findEnds_49 rfl ?_
    refine j_if_eq (pc := 50) (tgt := 140) dX8_findEnds_50 rfl (fun h50 => absurd h50 (by decide)) (fun h50 => ?_)
    refine j_iconst (pc := 53) dX8_findEnds_53 (v := 0) (by decide) ?_
    refine j_istore_n (pc := 54) dX8_findEnds_54 (by decide) ?_
    refine j_iconst (pc := 55) dX8_findEnds_55 (v := 0) (by decide) ?_
    refine j_istore_n (pc := 56) dX8_findEnds_56 (by decide) ?_
    exact c_X8_findEndsP hJ hJ2 ht htr hW (F0 := σ 13) (fun σ' w3 w4 a b c => ih σ' w3 w4 (by omega) b c) (8 * J) 0 σ 0 _ (by omega) hF hE (Or.inl ⟨rfl, rfl, fun y hy => absurd hy (Nat.not_lt_zero _)⟩)
theorem c_X8_findEnds {n0 : Nat} {t : Nat → Int32} {N : Nat} {K : Nat → Int32} {M : Nat → MV} {set : Int32} {W : Nat → Int32} (hb : R2b σ n0 t N K M) (hs : ∀ m, bt set m = true → m < N) (hG : NG2 σ (TA N K M) set) (hW : ∀ m, m < gJ (TA N K M) set → σ 10 m = W m) : EV Γ2 2 yX8_findEnds cX8_findEnds 5 none [.inr 0, .inl set] σ (endP σ (gJ (TA N K M) set) (toX (TA N K M) set) (gF (TA N K M) set) W) := by
  have hJ := hG.1
  have loop : ∀ (q n : Nat) (σ' : Mm) (w3 w4 : Option Vl), n + q = gJ (TA N K M) set → FrO 13 σ σ' → (∀ i, i < n → σ' 13 i = bI (decide (W i = -9) && gF (TA N K M) set i)) → AJ Γ2 2 RX8 cX8_findEnds 5 none (endP σ (gJ (TA N K M) set) (toX (TA N K M) set) (gF (TA N K M) set) W) 2 [some (.inr 0), some (.inl set), some (.inl (nI n)), w3, w4] [] σ' := by
    intro q
    induction q with
    | zero =>
      intro n σ' w3 w4 hq hF hold
      obtain rfl : n = gJ (TA N K M) set := by omega
      refine j_iload_n (pc := 2) dX8_findEnds_2 rfl ?_
      refine j_aload_n (pc := 3) dX8_findEnds_3 rfl ?_
      refine j_getI (pc := 4) dX8_findEnds_4 f_X8_131 (by first | rfl | with_reducible assumption) (by rfl) ?_
      refine j_top (y := nI (gJ (TA N K M) set)) (by rw [hF 0 (by decide)]; exact hG.2.1) ?_
      refine j_icmp_ge (pc := 7) (tgt := 47) dX8_findEnds_7 rfl (fun h7 => ?_) (fun h7 => absurd (Int32.le_refl _) h7)
      refine j_iconst (pc := 47) dX8_findEnds_47 (v := 1) (by decide) ?_
      refine j_istore_n (pc := 48) dX8_findEnds_48 (by decide) ?_
      refine c_X8_findEnds2 hJ hG.2.1 hG.2.2.2 (gT_lt hJ) hW (gJ (TA N K M) set) σ' _ _ (by omega) hF (fun i hi => ?_)
      rw [hold i hi]
      cases ha : decide (W i = -9) <;> cases hb : gF (TA N K M) set i
      · exact ⟨Or.inl rfl, fun z => absurd z (by decide), fun z => absurd (ha.symm.trans z) (by decide)⟩
      · exact ⟨Or.inl rfl, fun z => absurd z (by decide), fun z => absurd (ha.symm.trans z) (by decide)⟩
      · exact ⟨Or.inl rfl, fun z => absurd z (by decide), fun _ z => absurd z (by decide)⟩
      · exact ⟨Or.inr rfl, fun _ => ⟨0, hi, ha, hb⟩, fun _ _ => rfl⟩
    | succ q ih =>
      intro n σ' w3 w4 hq hF hold
      have hnJ : n < gJ (TA N K M) set := by omega
      have hcn : (nI n).toNatClampNeg = n := nI_clamp (by omega)
      have hvn : vp_in (nI n) 150 := vp_in_nI (by omega) (by decide)
      have hw10 : σ' 10 n = W n := by rw [hF 10 (by decide)]; exact hW _ hnJ
      have fX := hF.x (by decide)
      have step : ∀ v : Int32, v = bI (decide (W n = -9) && gF (TA N K M) set n) → AJ Γ2 2 RX8 cX8_findEnds 5 none (endP σ (gJ (TA N K M) set) (toX (TA N K M) set) (gF (TA N K M) set) W) 2 [some (.inr 0), some (.inl set), some (.inl (nI (n + 1))), w3, w4] [] (m_up σ' 13 n v) := fun v hv => by
        refine ih (n + 1) _ w3 w4 (by omega) hF.up (fun i hi => ?_)
        by_cases z : i = n
        · subst z; rw [m_eq]; exact hv
        · rw [m_nk z]; exact hold i (by omega)
      refine j_iload_n (pc := 2) dX8_findEnds_2 rfl ?_
      refine j_aload_n (pc := 3) dX8_findEnds_3 rfl ?_
      refine j_getI (pc := 4) dX8_findEnds_4 f_X8_131 (by first | rfl | with_reducible assumption) (by rfl) ?_
      refine j_top (y := nI (gJ (TA N K M) set)) (by rw [hF 0 (by decide)]; exact hG.2.1) ?_
      refine j_icmp_ge (pc := 7) (tgt := 47) dX8_findEnds_7 rfl (fun h7 => absurd h7 (nI_ge (by omega) (by omega))) (fun h7 => ?_)
      refine j_aload_n (pc := 10) dX8_findEnds_10 rfl ?_
      refine j_getR (pc := 11) dX8_findEnds_11 f_X8_46 (by first | rfl | with_reducible assumption) (by rfl) ?_
      refine j_iload_n (pc := 14) dX8_findEnds_14 rfl ?_
      refine j_aload_n (pc := 15) dX8_findEnds_15 rfl ?_
      refine j_getR (pc := 16) dX8_findEnds_16 f_X8_37 (by first | rfl | with_reducible assumption) (by rfl) ?_
      refine j_iload_n (pc := 19) dX8_findEnds_19 rfl ?_
      refine j_iald (pc := 20) dX8_findEnds_20 (by first | rfl | with_reducible assumption) hvn ?_
      refine j_top (y := W n) (by rw [hcn]; exact hw10) ?_
      refine j_bipush (pc := 21) dX8_findEnds_21 (v := (-9)) (by decide) ?_
      refine j_icmp_ne (pc := 23) (tgt := 39) dX8_findEnds_23 rfl (fun h23 => ?_) (fun h23 => ?_)
      · refine j_iconst (pc := 39) dX8_findEnds_39 (v := 0) (by decide) ?_
        refine j_zast (pc := 40) dX8_findEnds_40 (by first | rfl | with_reducible assumption) hvn (Or.inl rfl) ?_
        refine j_iinc1 (pc := 41) dX8_findEnds_41 rfl ?_
        refine j_goto (pc := 44) (tgt := 2) dX8_findEnds_44 rfl ?_
        rw [nI_1, hcn]
        refine step _ ?_
        first
          | (rw [decide_eq_false h23]; rfl)
          | (rw [decide_eq_true h23, show gF (TA N K M) set n = true from q29]; rfl)
          | (rw [decide_eq_true h23, show gF (TA N K M) set n = false from Bool.eq_false_iff.mpr q29]; rfl)
      · refine j_aload_n (pc := 26) dX8_findEnds_26 rfl ?_
        refine j_iload_n (pc := 27) dX8_findEnds_27 rfl ?_
        refine j_iload_n (pc := 28) dX8_findEnds_28 rfl ?_
        refine j_callVi (pc := 29) dX8_findEnds_29 k_X8_152 (c_X8_isFinished (c := gC (TA N K M) set n) (hb.frX fX) hs (by omega) ((hG.frX fX).2.2.1 n hnJ)) (by first | rfl | with_reducible assumption) rfl rfl (by decide) rfl (Nat.le_of_ble_eq_true rfl) (fun r σ1 hp => ?_)
        obtain ⟨rfl, hp⟩ := hp
        rcases hp with ⟨q29, rfl⟩ | ⟨q29, rfl⟩
        · refine j_if_eq (pc := 32) (tgt := 39) dX8_findEnds_32 rfl (fun h => absurd h (by decide)) (fun _ => ?_)
          refine j_iconst (pc := 35) dX8_findEnds_35 (v := 1) (by decide) ?_
          refine j_goto (pc := 36) (tgt := 40) dX8_findEnds_36 rfl ?_
          refine j_zast (pc := 40) dX8_findEnds_40 (by first | rfl | with_reducible assumption) hvn (Or.inr rfl) ?_
          refine j_iinc1 (pc := 41) dX8_findEnds_41 rfl ?_
          refine j_goto (pc := 44) (tgt := 2) dX8_findEnds_44 rfl ?_
          rw [nI_1, hcn]
          refine step _ ?_
          first
            | (rw [decide_eq_false h23]; rfl)
            | (rw [decide_eq_true h23, show gF (TA N K M) set n = true from q29]; rfl)
            | (rw [decide_eq_true h23, show gF (TA N K M) set n = false from Bool.eq_false_iff.mpr q29]; rfl)
        · refine j_if_eq (pc := 32) (tgt := 39) dX8_findEnds_32 rfl (fun _ => ?_) (fun h => absurd h (by decide))
          refine j_iconst (pc := 39) dX8_findEnds_39 (v := 0) (by decide) ?_
          refine j_zast (pc := 40) dX8_findEnds_40 (by first | rfl | with_reducible assumption) hvn (Or.inl rfl) ?_
          refine j_iinc1 (pc := 41) dX8_findEnds_41 rfl ?_
          refine j_goto (pc := 44) (tgt := 2) dX8_findEnds_44 rfl ?_
          rw [nI_1, hcn]
          refine step _ ?_
          first
            | (rw [decide_eq_false h23]; rfl)
            | (rw [decide_eq_true h23, show gF (TA N K M) set n = true from q29]; rfl)
            | (rw [decide_eq_true h23, show gF (TA N K M) set n = false from Bool.eq_false_iff.mpr q29]; rfl)
  refine EV.intro (by decide +kernel) (Nat.le_of_ble_eq_true rfl) ?_
  refine j_iconst (pc := 0) dX8_findEnds_0 (v := 0) (by decide) ?_
  refine j_istore_n (pc := 1) dX8_findEnds_1 (by decide) ?_
  exact loop (gJ (TA N K M) set) 0 σ _ _ (by omega) FrO.rf (fun i hi => absurd hi (Nat.not_lt_zero _))
end Ends
