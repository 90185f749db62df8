/-! LEASTBARSMODEL: isFinished, clashes -/
def bI (b : Bool) : Int32 := if b = true then 1 else 0
theorem bI_0 {b : Bool} : bI b = 0 ↔ b = false := by cases b <;> decide
theorem bI_1 {b : Bool} : bI b = 1 ↔ b = true := by cases b <;> decide
theorem any_S (p : Nat → Bool) (m : Nat) : (List.range (m + 1)).any p = ((List.range m).any p || p m) := by rw [List.range_succ, List.any_append]; simp
theorem any_rest {p : Nat → Bool} {N : Nat} (h : ∀ m, N ≤ m → p m = false) : ∀ k, (List.range (N + k)).any p = (List.range N).any p := by
  intro k
  induction k with
  | zero => rfl
  | succ k ih => rw [← Nat.add_assoc, any_S, ih, h _ (by omega), Bool.or_false]
section Fin
variable {σ : Mm} {n0 : Nat} {t : Nat → Int32} {N : Nat} {K : Nat → Int32} {M : Nat → MV} {set : Int32}
theorem c_X8_isFinished (hb : R2b σ n0 t N K M) (hs : ∀ m, bt set m = true → m < N) {n : Nat} {c : Int32} (hn : n < 150) (hc : σ 8 n = c) : EV Γ2 1 yX8_isFinished cX8_isFinished 4 (some .boolean) [.inr 0, .inl (nI n), .inl set] σ (bz (finB (TA N K M) set c = true) σ) := by
  have h6 := hb.2.2.2.2.1
  have hN := hb.2.2.2.1
  have hcn : (nI n).toNatClampNeg = n := nI_clamp (by omega)
  have hvn : vp_in (nI n) 150 := vp_in_nI hn (by decide)
  have loop : ∀ (k m : Nat), m + k = N → (∀ j, j < m → bt set j = true → bt ((TA N K M).2.2.1 j) (stN c j) = true) → AJ Γ2 1 RX8 cX8_isFinished 4 (some .boolean) (bz (finB (TA N K M) set c = true) σ) 2 [some (.inr 0), some (.inl (nI n)), some (.inl set), some (.inl (nI m))] [] σ := by
    intro k
    induction k with
    | zero =>
      intro m hm hall
      obtain rfl : m = N := by omega
      refine j_iload_n (pc := 2) dX8_isFinished_2 rfl ?_
      refine j_aload_n (pc := 3) dX8_isFinished_3 rfl ?_
      refine j_getI (pc := 4) dX8_isFinished_4 f_X8_96 (by first | rfl | with_reducible assumption) (by rfl) ?_
      refine j_top hN ?_
      refine j_icmp_ge (pc := 7) (tgt := 49) dX8_isFinished_7 rfl (fun h7 => ?_) (fun h7 => absurd (Int32.le_refl _) h7)
      refine j_iconst (pc := 49) dX8_isFinished_49 (v := 1) (by decide) ?_
      refine j_zret (pc := 50) dX8_isFinished_50 (Or.inr rfl) ?_
      refine ⟨rfl, Or.inl ⟨?_, rfl⟩⟩
      unfold finB
      rw [all6]
      intro j hj
      cases hb : bt set j with
      | false => rfl
      | true => rw [hall j (hs j hb) hb]; rfl
    | succ k ih =>
      intro m hm hall
      have hmN : m < N := by omega
      obtain ⟨⟨f1, f2, f3, f4, f5⟩, f6, f7⟩ := hb.2.2.2.2.2 m hmN
      have hcm : (nI m).toNatClampNeg = m := nI_clamp (by omega)
      have hvm : vp_in (nI m) 6 := vp_in_nI (by omega) (by decide)
      obtain ⟨hst, hs8⟩ := st_n c m
      refine j_iload_n (pc := 2) dX8_isFinished_2 rfl ?_
      refine j_aload_n (pc := 3) dX8_isFinished_3 rfl ?_
      refine j_getI (pc := 4) dX8_isFinished_4 f_X8_96 (by first | rfl | with_reducible assumption) (by rfl) ?_
      refine j_top hN ?_
      refine j_icmp_ge (pc := 7) (tgt := 49) dX8_isFinished_7 rfl (fun h7 => absurd h7 (nI_ge hmN (by omega))) (fun h7 => ?_)
      refine j_iload_n (pc := 10) dX8_isFinished_10 rfl ?_
      refine j_iload_n (pc := 11) dX8_isFinished_11 rfl ?_
      refine j_callSi (pc := 12) dX8_isFinished_12 k_X8_121 (c_X8_bit _ _ _) rfl (by decide) rfl (Nat.le_of_ble_eq_true rfl) (fun r σ1 hp => ?_)
      obtain ⟨rfl, rfl⟩ := hp
      refine j_iconst (pc := 15) dX8_isFinished_15 (v := 1) (by decide) ?_
      refine j_icmp_ne (pc := 16) (tgt := 43) dX8_isFinished_16 rfl (fun h16 => ?_) (fun h16 => ?_)
      · have hS : ¬ bt set m = true := fun z => h16 ((isin_iff (by omega)).mpr z)
        refine j_iinc1 (pc := 43) dX8_isFinished_43 rfl ?_
        refine j_goto (pc := 46) (tgt := 2) dX8_isFinished_46 rfl ?_
        rw [nI_1]
        refine ih (m + 1) (by omega) (fun j hj hjb => ?_)
        by_cases z : j = m
        · subst z
          first
            | exact absurd hjb hS
            | (cases hy : bt ((TA N K M).2.2.1 j) (stN c j) with
               | true => rfl
               | false => exact absurd ((isin_0 (by omega)).mpr hy) h38)
        · exact hall j (by omega) hjb
      · have hS : bt set m = true := (isin_iff (by omega)).mp h16
        refine j_aload_n (pc := 19) dX8_isFinished_19 rfl ?_
        refine j_getR (pc := 20) dX8_isFinished_20 f_X8_19 (by first | rfl | with_reducible assumption) (by rfl) ?_
        refine j_iload_n (pc := 23) dX8_isFinished_23 rfl ?_
        refine j_iald (pc := 24) dX8_isFinished_24 (by first | rfl | with_reducible assumption) hvm ?_
        refine j_top (y := (TA N K M).2.2.1 m) (by rw [hcm, TA_m hmN]; exact f3) ?_
        refine j_aload_n (pc := 25) dX8_isFinished_25 rfl ?_
        refine j_getR (pc := 26) dX8_isFinished_26 f_X8_31 (by first | rfl | with_reducible assumption) (by rfl) ?_
        refine j_iload_n (pc := 29) dX8_isFinished_29 rfl ?_
        refine j_iald (pc := 30) dX8_isFinished_30 (by first | rfl | with_reducible assumption) hvn ?_
        refine j_top (y := c) (by rw [hcn]; exact hc) ?_
        refine j_iload_n (pc := 31) dX8_isFinished_31 rfl ?_
        refine j_callSi (pc := 32) dX8_isFinished_32 k_X8_128 (c_X8_stateIn _ _ _) rfl (by decide) rfl (Nat.le_of_ble_eq_true rfl) (fun r σ1 hp => ?_)
        obtain ⟨rfl, rfl⟩ := hp
        refine j_top (y := nI (stN c m)) (by rw [stIn]; exact hst) ?_
        refine j_callSi (pc := 35) dX8_isFinished_35 k_X8_121 (c_X8_bit _ _ _) rfl (by decide) rfl (Nat.le_of_ble_eq_true rfl) (fun r σ1 hp => ?_)
        obtain ⟨rfl, rfl⟩ := hp
        refine j_if_ne (pc := 38) (tgt := 43) dX8_isFinished_38 rfl (fun h38 => ?_) (fun h38 => ?_)
        · refine j_iinc1 (pc := 43) dX8_isFinished_43 rfl ?_
          refine j_goto (pc := 46) (tgt := 2) dX8_isFinished_46 rfl ?_
          rw [nI_1]
          refine ih (m + 1) (by omega) (fun j hj hjb => ?_)
          by_cases z : j = m
          · subst z
            first
              | exact absurd hjb hS
              | (cases hy : bt ((TA N K M).2.2.1 j) (stN c j) with
                 | true => rfl
                 | false => exact absurd ((isin_0 (by omega)).mpr hy) h38)
          · exact hall j (by omega) hjb
        · refine j_iconst (pc := 41) dX8_isFinished_41 (v := 0) (by decide) ?_
          refine j_zret (pc := 42) dX8_isFinished_42 (Or.inl rfl) ?_
          refine ⟨rfl, Or.inr ⟨fun z => ?_, rfl⟩⟩
          unfold finB at z
          rw [all6] at z
          have := z m (by omega)
          rw [hS, (isin_0 (by omega)).mp h38] at this
          exact absurd this (by decide)
  refine EV.intro (by decide +kernel) (Nat.le_of_ble_eq_true rfl) ?_
  refine j_iconst (pc := 0) dX8_isFinished_0 (v := 0) (by decide) ?_
  refine j_istore_n (pc := 1) dX8_isFinished_1 (by decide) ?_
  exact loop N 0 (by omega) (fun j hj => absurd hj (Nat.not_lt_zero _))
/-- clashes -/
theorem c_X8_clashes (hb : R2b σ n0 t N K M) {n e : Nat} {c fs : Int32} (hn : n < 150) (hc : σ 8 n = c) (hok : okC c) (he : e < 8) (hfs : σ 0 9 = fs) : EV Γ2 1 yX8_clashes cX8_clashes 8 (some .boolean) [.inr 0, .inl (nI n), .inl (nI e)] σ (bz ((clashB (TA N K M) (allS N) c e && bt fs e) = true) σ) := by
  have h6 := hb.2.2.2.2.1
  have hN := hb.2.2.2.1
  have hcn : (nI n).toNatClampNeg = n := nI_clamp (by omega)
  have hvn : vp_in (nI n) 150 := vp_in_nI hn (by decide)
  let T := TA N K M
  let pA : Nat → Bool := fun m => isPl T m && hasE T (allS N) e m
  let bA : Nat → Bool := fun m => !isPl T m && hasE T (allS N) e m && decide (stp T c e m = -9)
  have hout : ∀ m, N ≤ m → hasE T (allS N) e m = false := fun m hm => by
    unfold hasE
    rw [all_bit h6, decide_eq_false (by omega), Bool.false_and]
  have hin : ∀ m, m < N → hasE T (allS N) e m = bt ((M m).2.1) e := fun m hm => by
    unfold hasE
    rw [all_bit h6, decide_eq_true hm, Bool.true_and, TA_a hm]
  have hkd : ∀ m, m < N → σ 2 m = (if isPl T m = true then 0 else 1) := fun m hm => by
    obtain ⟨-, a, b⟩ := hb.2.2.2.2.2 m hm
    rw [a]
    unfold isPl
    rw [TA_k hm]
    rcases b.1 with z | z <;> rw [z] <;> rfl
  have cB : (List.range N).any pA = (List.range 6).any pA ∧ (List.range N).any bA = (List.range 6).any bA := by
    constructor
    · rw [show 6 = N + (6 - N) by omega, any_rest (fun m hm => ?_)]
      show (isPl T m && hasE T (allS N) e m) = false
      rw [hout m hm, Bool.and_false]
    · rw [show 6 = N + (6 - N) by omega, any_rest (fun m hm => ?_)]
      show (!isPl T m && hasE T (allS N) e m && decide (stp T c e m = -9)) = false
      rw [hout m hm, Bool.and_false, Bool.false_and]
  have cDef : clashB T (allS N) c e = ((List.range N).any pA && (List.range 6).all (fun m => !(isPl T m && hasE T (allS N) e m) || decide (stp T c e m ≠ -9)) && (List.range N).any bA) := by
    rw [cB.1, cB.2]
    rfl
  by_cases hF : bt fs e = true
  · rw [hF, Bool.and_true]
    have fin : ∀ (w5 w6 w7 : Option Vl), (∀ j, j < N → pA j = true → stp T c e j ≠ -9) → AJ Γ2 1 RX8 cX8_clashes 8 (some .boolean) (bz (clashB T (allS N) c e = true) σ) 172 [some (.inr 0), some (.inl (nI n)), some (.inl (nI e)), some (.inl (bI ((List.range N).any pA))), some (.inl (bI ((List.range N).any bA))), w5, w6, w7] [] σ := by
      intro w5 w6 w7 hall
      have hA : (List.range 6).all (fun m => !(isPl T m && hasE T (allS N) e m) || decide (stp T c e m ≠ -9)) = true := by
        rw [all6]
        intro j hj
        by_cases hjN : j < N
        · cases hp : (isPl T j && hasE T (allS N) e j) with
          | false => rfl
          | true => rw [decide_eq_true (hall j hjN hp)]; rfl
        · rw [hout j (by omega), Bool.and_false]; rfl
      rw [cDef, hA, Bool.and_true]
      refine j_iload_n (pc := 172) dX8_clashes_172 rfl ?_
      refine j_if_eq (pc := 173) (tgt := 185) dX8_clashes_173 rfl (fun h173 => ?_) (fun h173 => ?_)
      · refine j_iconst (pc := 185) dX8_clashes_185 (v := 0) (by decide) ?_
        refine j_zret (pc := 186) dX8_clashes_186 (Or.inl rfl) ?_
        refine ⟨rfl, Or.inr ⟨fun z => ?_, rfl⟩⟩
        rw [Bool.and_eq_true] at z
        first
          | (rw [bI_0, z.1] at h173; exact absurd h173 (by decide))
          | (rw [bI_0, z.2] at h178; exact absurd h178 (by decide))
      · refine j_iload (pc := 176) dX8_clashes_176 rfl ?_
        refine j_if_eq (pc := 178) (tgt := 185) dX8_clashes_178 rfl (fun h178 => ?_) (fun h178 => ?_)
        · refine j_iconst (pc := 185) dX8_clashes_185 (v := 0) (by decide) ?_
          refine j_zret (pc := 186) dX8_clashes_186 (Or.inl rfl) ?_
          refine ⟨rfl, Or.inr ⟨fun z => ?_, rfl⟩⟩
          rw [Bool.and_eq_true] at z
          first
            | (rw [bI_0, z.1] at h173; exact absurd h173 (by decide))
            | (rw [bI_0, z.2] at h178; exact absurd h178 (by decide))
        · refine j_iconst (pc := 181) dX8_clashes_181 (v := 1) (by decide) ?_
          refine j_goto (pc := 182) (tgt := 186) dX8_clashes_182 rfl ?_
          refine j_zret (pc := 186) dX8_clashes_186 (Or.inr rfl) ?_
          refine ⟨rfl, Or.inl ⟨?_, rfl⟩⟩
          rw [bI_0, Bool.not_eq_false] at h173 h178
          rw [h173, h178]
          rfl
    have loop : ∀ (k m : Nat) (w6 w7 : Option Vl), m + k = N → (∀ j, j < m → pA j = true → stp T c e j ≠ -9) → AJ Γ2 1 RX8 cX8_clashes 8 (some .boolean) (bz (clashB T (allS N) c e = true) σ) 21 [some (.inr 0), some (.inl (nI n)), some (.inl (nI e)), some (.inl (bI ((List.range m).any pA))), some (.inl (bI ((List.range m).any bA))), some (.inl (nI m)), w6, w7] [] σ := by
      intro k
      induction k with
      | zero =>
        intro m w6 w7 hm hall
        obtain rfl : m = N := by omega
        refine j_iload (pc := 21) dX8_clashes_21 rfl ?_
        refine j_aload_n (pc := 23) dX8_clashes_23 rfl ?_
        refine j_getI (pc := 24) dX8_clashes_24 f_X8_96 (by first | rfl | with_reducible assumption) (by rfl) ?_
        refine j_top hN ?_
        refine j_icmp_ge (pc := 27) (tgt := 172) dX8_clashes_27 rfl (fun h27 => ?_) (fun h27 => absurd (Int32.le_refl _) h27)
        exact fin _ _ _ hall
      | succ k ih =>
        intro m w6 w7 hm hall
        have hmN : m < N := by omega
        obtain ⟨⟨f1, f2, f3, f4, f5⟩, f6, f7⟩ := hb.2.2.2.2.2 m hmN
        have hcm : (nI m).toNatClampNeg = m := nI_clamp (by omega)
        have hvm : vp_in (nI m) 6 := vp_in_nI (by omega) (by decide)
        have hst := (st_n c m).1
        obtain ⟨s1, s2, s3⟩ := hb.st hok he hmN
        have hk := hkd m hmN
        have hA := hin m hmN
        have hP := any_S pA m
        have hB := any_S bA m
        have next : ∀ x y : Int32, (pA m = true → stp T c e m ≠ -9) → x = bI ((List.range (m + 1)).any pA) → y = bI ((List.range (m + 1)).any bA) → ∀ w6 w7, AJ Γ2 1 RX8 cX8_clashes 8 (some .boolean) (bz (clashB T (allS N) c e = true) σ) 21 [some (.inr 0), some (.inl (nI n)), some (.inl (nI e)), some (.inl x), some (.inl y), some (.inl (nI (m + 1))), w6, w7] [] σ := by
          intro x y h0 hx hy w6 w7
          subst hx
          subst hy
          refine ih (m + 1) w6 w7 (by omega) (fun j hj hjp => ?_)
          by_cases z : j = m
          · subst z; exact h0 hjp
          · exact hall j (by omega) hjp
        have hpm : pA m = (isPl T m && bt ((M m).2.1) e) := by show (isPl T m && hasE T (allS N) e m) = _; rw [hA]
        have hbm : bA m = (!isPl T m && bt ((M m).2.1) e && decide (stp T c e m = -9)) := by show (!isPl T m && hasE T (allS N) e m && _) = _; rw [hA]
        have seg : ∀ hs my : Bool, bt ((M m).2.1) e = hs → decide (stp T c e m = -9) = !my → AJ Γ2 1 RX8 cX8_clashes 8 (some .boolean) (bz (clashB T (allS N) c e = true) σ) 86 [some (.inr 0), some (.inl (nI n)), some (.inl (nI e)), some (.inl (bI ((List.range m).any pA))), some (.inl (bI ((List.range m).any bA))), some (.inl (nI m)), some (.inl (bI hs)), some (.inl (bI my))] [] σ := by
          intro hs my hhs hmy
          rw [hhs] at hpm hbm
          rw [hmy] at hbm
          rw [hpm] at hP
          rw [hbm] at hB
          have hmay : pA m = true → my = true → stp T c e m ≠ -9 := fun _ z q => by
            rw [z, decide_eq_true q] at hmy
            exact absurd hmy (by decide)
          rw [hpm] at hmay
          have hret : isPl T m = true → hs = true → my = false → clashB T (allS N) c e ≠ true := fun a b d z => by
            rw [cDef, Bool.and_eq_true, Bool.and_eq_true] at z
            have := all6.mp z.1.2 m (by omega)
            rw [a, hA, hhs, b] at this
            simp only [Bool.and_self, Bool.not_true, Bool.false_or, decide_eq_true_eq] at this
            rw [d] at hmy
            exact this (of_decide_eq_true hmy)
          generalize hpl : isPl T m = pv at *
          generalize hpp : (List.range m).any pA = PV at *
          generalize hbb : (List.range m).any bA = BV at *
          have s3 : ∀ x : Int32, ((pv && hs) = true → stp T c e m ≠ -9) → x = bI ((List.range (m + 1)).any pA) → AJ Γ2 1 RX8 cX8_clashes 8 (some .boolean) (bz (clashB T (allS N) c e = true) σ) 133 [some (.inr 0), some (.inl (nI n)), some (.inl (nI e)), some (.inl x), some (.inl (bI BV)), some (.inl (nI m)), some (.inl (bI hs)), some (.inl (bI my))] [] σ := by
            intro x h0 hx
            rw [← hpm] at h0
            refine j_iload (pc := 133) dX8_clashes_133 rfl ?_
            refine j_if_ne (pc := 135) (tgt := 159) dX8_clashes_135 rfl (fun h135 => ?_) (fun h135 => ?_)
            · refine j_iconst (pc := 159) dX8_clashes_159 (v := 1) (by decide) ?_
              refine j_goto (pc := 160) (tgt := 164) dX8_clashes_160 rfl ?_
              refine j_istore (pc := 164) dX8_clashes_164 (by decide) ?_
              refine j_iinc1 (pc := 166) dX8_clashes_166 rfl ?_
              refine j_goto (pc := 169) (tgt := 21) dX8_clashes_169 rfl ?_
              rw [nI_1]
              refine next _ _ h0 hx ?_ _ _
              rw [hB]
              cases BV <;> cases pv <;> cases hs <;> cases my <;> first | rfl | (exfalso; first | exact absurd h135 (by decide) | exact absurd h140 (by decide) | exact absurd h151 (by decide) | exact absurd h156 (by decide))
            · refine j_iload (pc := 138) dX8_clashes_138 rfl ?_
              refine j_if_eq (pc := 140) (tgt := 163) dX8_clashes_140 rfl (fun h140 => ?_) (fun h140 => ?_)
              · refine j_iconst (pc := 163) dX8_clashes_163 (v := 0) (by decide) ?_
                refine j_istore (pc := 164) dX8_clashes_164 (by decide) ?_
                refine j_iinc1 (pc := 166) dX8_clashes_166 rfl ?_
                refine j_goto (pc := 169) (tgt := 21) dX8_clashes_169 rfl ?_
                rw [nI_1]
                refine next _ _ h0 hx ?_ _ _
                rw [hB]
                cases BV <;> cases pv <;> cases hs <;> cases my <;> first | rfl | (exfalso; first | exact absurd h135 (by decide) | exact absurd h140 (by decide) | exact absurd h151 (by decide) | exact absurd h156 (by decide))
              · refine j_aload_n (pc := 143) dX8_clashes_143 rfl ?_
                refine j_getR (pc := 144) dX8_clashes_144 f_X8_13 (by first | rfl | with_reducible assumption) (by rfl) ?_
                refine j_iload (pc := 147) dX8_clashes_147 rfl ?_
                refine j_iald (pc := 149) dX8_clashes_149 (by first | rfl | with_reducible assumption) hvm ?_
                refine j_top (y := if pv = true then 0 else 1) (by rw [hcm]; exact hk) ?_
                refine j_iconst (pc := 150) dX8_clashes_150 (v := 1) (by decide) ?_
                refine j_icmp_ne (pc := 151) (tgt := 163) dX8_clashes_151 rfl (fun h151 => ?_) (fun h151 => ?_)
                · refine j_iconst (pc := 163) dX8_clashes_163 (v := 0) (by decide) ?_
                  refine j_istore (pc := 164) dX8_clashes_164 (by decide) ?_
                  refine j_iinc1 (pc := 166) dX8_clashes_166 rfl ?_
                  refine j_goto (pc := 169) (tgt := 21) dX8_clashes_169 rfl ?_
                  rw [nI_1]
                  refine next _ _ h0 hx ?_ _ _
                  rw [hB]
                  cases BV <;> cases pv <;> cases hs <;> cases my <;> first | rfl | (exfalso; first | exact absurd h135 (by decide) | exact absurd h140 (by decide) | exact absurd h151 (by decide) | exact absurd h156 (by decide))
                · refine j_iload (pc := 154) dX8_clashes_154 rfl ?_
                  refine j_if_ne (pc := 156) (tgt := 163) dX8_clashes_156 rfl (fun h156 => ?_) (fun h156 => ?_)
                  · refine j_iconst (pc := 163) dX8_clashes_163 (v := 0) (by decide) ?_
                    refine j_istore (pc := 164) dX8_clashes_164 (by decide) ?_
                    refine j_iinc1 (pc := 166) dX8_clashes_166 rfl ?_
                    refine j_goto (pc := 169) (tgt := 21) dX8_clashes_169 rfl ?_
                    rw [nI_1]
                    refine next _ _ h0 hx ?_ _ _
                    rw [hB]
                    cases BV <;> cases pv <;> cases hs <;> cases my <;> first | rfl | (exfalso; first | exact absurd h135 (by decide) | exact absurd h140 (by decide) | exact absurd h151 (by decide) | exact absurd h156 (by decide))
                  · refine j_iconst (pc := 159) dX8_clashes_159 (v := 1) (by decide) ?_
                    refine j_goto (pc := 160) (tgt := 164) dX8_clashes_160 rfl ?_
                    refine j_istore (pc := 164) dX8_clashes_164 (by decide) ?_
                    refine j_iinc1 (pc := 166) dX8_clashes_166 rfl ?_
                    refine j_goto (pc := 169) (tgt := 21) dX8_clashes_169 rfl ?_
                    rw [nI_1]
                    refine next _ _ h0 hx ?_ _ _
                    rw [hB]
                    cases BV <;> cases pv <;> cases hs <;> cases my <;> first | rfl | (exfalso; first | exact absurd h135 (by decide) | exact absurd h140 (by decide) | exact absurd h151 (by decide) | exact absurd h156 (by decide))
          have s2 : ((pv && hs) = true → stp T c e m ≠ -9) → AJ Γ2 1 RX8 cX8_clashes 8 (some .boolean) (bz (clashB T (allS N) c e = true) σ) 108 [some (.inr 0), some (.inl (nI n)), some (.inl (nI e)), some (.inl (bI PV)), some (.inl (bI BV)), some (.inl (nI m)), some (.inl (bI hs)), some (.inl (bI my))] [] σ := by
            intro h0
            refine j_iload_n (pc := 108) dX8_clashes_108 rfl ?_
            refine j_if_ne (pc := 109) (tgt := 127) dX8_clashes_109 rfl (fun h109 => ?_) (fun h109 => ?_)
            · refine j_iconst (pc := 127) dX8_clashes_127 (v := 1) (by decide) ?_
              refine j_goto (pc := 128) (tgt := 132) dX8_clashes_128 rfl ?_
              refine j_istore_n (pc := 132) dX8_clashes_132 (by decide) ?_
              refine s3 _ h0 ?_
              rw [hP]
              cases PV <;> cases pv <;> cases hs <;> first | rfl | (exfalso; first | exact absurd h109 (by decide) | exact absurd h114 (by decide) | exact absurd h124 (by decide))
            · refine j_iload (pc := 112) dX8_clashes_112 rfl ?_
              refine j_if_eq (pc := 114) (tgt := 131) dX8_clashes_114 rfl (fun h114 => ?_) (fun h114 => ?_)
              · refine j_iconst (pc := 131) dX8_clashes_131 (v := 0) (by decide) ?_
                refine j_istore_n (pc := 132) dX8_clashes_132 (by decide) ?_
                refine s3 _ h0 ?_
                rw [hP]
                cases PV <;> cases pv <;> cases hs <;> first | rfl | (exfalso; first | exact absurd h109 (by decide) | exact absurd h114 (by decide) | exact absurd h124 (by decide))
              · refine j_aload_n (pc := 117) dX8_clashes_117 rfl ?_
                refine j_getR (pc := 118) dX8_clashes_118 f_X8_13 (by first | rfl | with_reducible assumption) (by rfl) ?_
                refine j_iload (pc := 121) dX8_clashes_121 rfl ?_
                refine j_iald (pc := 123) dX8_clashes_123 (by first | rfl | with_reducible assumption) hvm ?_
                refine j_top (y := if pv = true then 0 else 1) (by rw [hcm]; exact hk) ?_
                refine j_if_ne (pc := 124) (tgt := 131) dX8_clashes_124 rfl (fun h124 => ?_) (fun h124 => ?_)
                · refine j_iconst (pc := 131) dX8_clashes_131 (v := 0) (by decide) ?_
                  refine j_istore_n (pc := 132) dX8_clashes_132 (by decide) ?_
                  refine s3 _ h0 ?_
                  rw [hP]
                  cases PV <;> cases pv <;> cases hs <;> first | rfl | (exfalso; first | exact absurd h109 (by decide) | exact absurd h114 (by decide) | exact absurd h124 (by decide))
                · refine j_iconst (pc := 127) dX8_clashes_127 (v := 1) (by decide) ?_
                  refine j_goto (pc := 128) (tgt := 132) dX8_clashes_128 rfl ?_
                  refine j_istore_n (pc := 132) dX8_clashes_132 (by decide) ?_
                  refine s3 _ h0 ?_
                  rw [hP]
                  cases PV <;> cases pv <;> cases hs <;> first | rfl | (exfalso; first | exact absurd h109 (by decide) | exact absurd h114 (by decide) | exact absurd h124 (by decide))
          refine j_iload (pc := 86) dX8_clashes_86 rfl ?_
          refine j_if_eq (pc := 88) (tgt := 108) dX8_clashes_88 rfl (fun h88 => ?_) (fun h88 => ?_)
          · refine s2 (fun z => ?_)
            rw [Bool.and_eq_true] at z
            first
              | (rw [z.2] at h88; exact absurd h88 (by decide))
              | (rw [z.1] at h98; exact absurd rfl h98)
              | exact hmay (by rw [z.1, z.2]; rfl) (by rw [bI_0, Bool.not_eq_false] at h103; exact h103)
          · refine j_aload_n (pc := 91) dX8_clashes_91 rfl ?_
            refine j_getR (pc := 92) dX8_clashes_92 f_X8_13 (by first | rfl | with_reducible assumption) (by rfl) ?_
            refine j_iload (pc := 95) dX8_clashes_95 rfl ?_
            refine j_iald (pc := 97) dX8_clashes_97 (by first | rfl | with_reducible assumption) hvm ?_
            refine j_top (y := if pv = true then 0 else 1) (by rw [hcm]; exact hk) ?_
            refine j_if_ne (pc := 98) (tgt := 108) dX8_clashes_98 rfl (fun h98 => ?_) (fun h98 => ?_)
            · refine s2 (fun z => ?_)
              rw [Bool.and_eq_true] at z
              first
                | (rw [z.2] at h88; exact absurd h88 (by decide))
                | (rw [z.1] at h98; exact absurd rfl h98)
                | exact hmay (by rw [z.1, z.2]; rfl) (by rw [bI_0, Bool.not_eq_false] at h103; exact h103)
            · refine j_iload (pc := 101) dX8_clashes_101 rfl ?_
              refine j_if_ne (pc := 103) (tgt := 108) dX8_clashes_103 rfl (fun h103 => ?_) (fun h103 => ?_)
              · refine s2 (fun z => ?_)
                rw [Bool.and_eq_true] at z
                first
                  | (rw [z.2] at h88; exact absurd h88 (by decide))
                  | (rw [z.1] at h98; exact absurd rfl h98)
                  | exact hmay (by rw [z.1, z.2]; rfl) (by rw [bI_0, Bool.not_eq_false] at h103; exact h103)
              · refine j_iconst (pc := 106) dX8_clashes_106 (v := 0) (by decide) ?_
                refine j_zret (pc := 107) dX8_clashes_107 (Or.inl rfl) ?_
                refine ⟨rfl, Or.inr ⟨?_, rfl⟩⟩
                cases pv with
                | false => exact absurd h98 (by decide)
                | true => exact hret rfl (by rw [bI_0, Bool.not_eq_false] at h88; exact h88) (bI_0.mp h103)
        refine j_iload (pc := 21) dX8_clashes_21 rfl ?_
        refine j_aload_n (pc := 23) dX8_clashes_23 rfl ?_
        refine j_getI (pc := 24) dX8_clashes_24 f_X8_96 (by first | rfl | with_reducible assumption) (by rfl) ?_
        refine j_top hN ?_
        refine j_icmp_ge (pc := 27) (tgt := 172) dX8_clashes_27 rfl (fun h27 => absurd h27 (nI_ge hmN (by omega))) (fun h27 => ?_)
        refine j_aload_n (pc := 30) dX8_clashes_30 rfl ?_
        refine j_getR (pc := 31) dX8_clashes_31 f_X8_16 (by first | rfl | with_reducible assumption) (by rfl) ?_
        refine j_iload (pc := 34) dX8_clashes_34 rfl ?_
        refine j_iald (pc := 36) dX8_clashes_36 (by first | rfl | with_reducible assumption) hvm ?_
        refine j_top (y := (M m).2.1) (by rw [hcm]; exact f2) ?_
        refine j_iload_n (pc := 37) dX8_clashes_37 rfl ?_
        refine j_callSi (pc := 38) dX8_clashes_38 k_X8_121 (c_X8_bit _ _ _) rfl (by decide) rfl (Nat.le_of_ble_eq_true rfl) (fun r σ1 hp => ?_)
        obtain ⟨rfl, rfl⟩ := hp
        refine j_iconst (pc := 41) dX8_clashes_41 (v := 1) (by decide) ?_
        refine j_icmp_ne (pc := 42) (tgt := 49) dX8_clashes_42 rfl (fun h42 => ?_) (fun h42 => ?_)
        · have hhs : bt ((M m).2.1) e = false := by
            cases hy : bt ((M m).2.1) e with
            | false => rfl
            | true => exact absurd ((isin_iff (by omega)).mpr hy) h42
          refine j_iconst (pc := 49) dX8_clashes_49 (v := 0) (by decide) ?_
          refine j_istore (pc := 50) dX8_clashes_50 (by decide) ?_
          refine j_aload_n (pc := 52) dX8_clashes_52 rfl ?_
          refine j_getR (pc := 53) dX8_clashes_53 f_X8_28 (by first | rfl | with_reducible assumption) (by rfl) ?_
          refine j_iload (pc := 56) dX8_clashes_56 rfl ?_
          refine j_aload_n (pc := 58) dX8_clashes_58 rfl ?_
          refine j_getR (pc := 59) dX8_clashes_59 f_X8_31 (by first | rfl | with_reducible assumption) (by rfl) ?_
          refine j_iload_n (pc := 62) dX8_clashes_62 rfl ?_
          refine j_iald (pc := 63) dX8_clashes_63 (by first | rfl | with_reducible assumption) hvn ?_
          refine j_top (y := c) (by rw [hcn]; exact hc) ?_
          refine j_iload (pc := 64) dX8_clashes_64 rfl ?_
          refine j_callSi (pc := 66) dX8_clashes_66 k_X8_128 (c_X8_stateIn _ _ _) rfl (by decide) rfl (Nat.le_of_ble_eq_true rfl) (fun r σ1 hp => ?_)
          obtain ⟨rfl, rfl⟩ := hp
          refine j_top (y := nI (stN c m)) (by rw [stIn]; exact hst) ?_
          refine j_iload_n (pc := 69) dX8_clashes_69 rfl ?_
          refine j_callSi (pc := 70) dX8_clashes_70 k_X8_81 (c_X8_stepAt _ _ _ _) rfl (by decide) rfl (Nat.le_of_ble_eq_true rfl) (fun r σ1 hp => ?_)
          obtain ⟨rfl, rfl⟩ := hp
          refine j_top (stAt m (stN c m) e) ?_
          refine j_iald (pc := 73) dX8_clashes_73 (by first | rfl | with_reducible assumption) s1 ?_
          refine j_top (y := stp T c e m) (by rw [s3]; exact s2) ?_
          refine j_bipush (pc := 74) dX8_clashes_74 (v := (-9)) (by decide) ?_
          refine j_icmp_eq (pc := 76) (tgt := 83) dX8_clashes_76 rfl (fun h76 => ?_) (fun h76 => ?_)
          · refine j_iconst (pc := 83) dX8_clashes_83 (v := 0) (by decide) ?_
            refine j_istore (pc := 84) dX8_clashes_84 (by decide) ?_
            first
              | exact seg true true hhs (decide_eq_false h76)
              | exact seg true false hhs (decide_eq_true h76)
              | exact seg false true hhs (decide_eq_false h76)
              | exact seg false false hhs (decide_eq_true h76)
          · refine j_iconst (pc := 79) dX8_clashes_79 (v := 1) (by decide) ?_
            refine j_goto (pc := 80) (tgt := 84) dX8_clashes_80 rfl ?_
            refine j_istore (pc := 84) dX8_clashes_84 (by decide) ?_
            first
              | exact seg true true hhs (decide_eq_false h76)
              | exact seg true false hhs (decide_eq_true h76)
              | exact seg false true hhs (decide_eq_false h76)
              | exact seg false false hhs (decide_eq_true h76)
        · have hhs : bt ((M m).2.1) e = true := (isin_iff (by omega)).mp h42
          refine j_iconst (pc := 45) dX8_clashes_45 (v := 1) (by decide) ?_
          refine j_goto (pc := 46) (tgt := 50) dX8_clashes_46 rfl ?_
          refine j_istore (pc := 50) dX8_clashes_50 (by decide) ?_
          refine j_aload_n (pc := 52) dX8_clashes_52 rfl ?_
          refine j_getR (pc := 53) dX8_clashes_53 f_X8_28 (by first | rfl | with_reducible assumption) (by rfl) ?_
          refine j_iload (pc := 56) dX8_clashes_56 rfl ?_
          refine j_aload_n (pc := 58) dX8_clashes_58 rfl ?_
          refine j_getR (pc := 59) dX8_clashes_59 f_X8_31 (by first | rfl | with_reducible assumption) (by rfl) ?_
          refine j_iload_n (pc := 62) dX8_clashes_62 rfl ?_
          refine j_iald (pc := 63) dX8_clashes_63 (by first | rfl | with_reducible assumption) hvn ?_
          refine j_top (y := c) (by rw [hcn]; exact hc) ?_
          refine j_iload (pc := 64) dX8_clashes_64 rfl ?_
          refine j_callSi (pc := 66) dX8_clashes_66 k_X8_128 (c_X8_stateIn _ _ _) rfl (by decide) rfl (Nat.le_of_ble_eq_true rfl) (fun r σ1 hp => ?_)
          obtain ⟨rfl, rfl⟩ := hp
          refine j_top (y := nI (stN c m)) (by rw [stIn]; exact hst) ?_
          refine j_iload_n (pc := 69) dX8_clashes_69 rfl ?_
          refine j_callSi (pc := 70) dX8_clashes_70 k_X8_81 (c_X8_stepAt _ _ _ _) rfl (by decide) rfl (Nat.le_of_ble_eq_true rfl) (fun r σ1 hp => ?_)
          obtain ⟨rfl, rfl⟩ := hp
          refine j_top (stAt m (stN c m) e) ?_
          refine j_iald (pc := 73) dX8_clashes_73 (by first | rfl | with_reducible assumption) s1 ?_
          refine j_top (y := stp T c e m) (by rw [s3]; exact s2) ?_
          refine j_bipush (pc := 74) dX8_clashes_74 (v := (-9)) (by decide) ?_
          refine j_icmp_eq (pc := 76) (tgt := 83) dX8_clashes_76 rfl (fun h76 => ?_) (fun h76 => ?_)
          · refine j_iconst (pc := 83) dX8_clashes_83 (v := 0) (by decide) ?_
            refine j_istore (pc := 84) dX8_clashes_84 (by decide) ?_
            first
              | exact seg true true hhs (decide_eq_false h76)
              | exact seg true false hhs (decide_eq_true h76)
              | exact seg false true hhs (decide_eq_false h76)
              | exact seg false false hhs (decide_eq_true h76)
          · refine j_iconst (pc := 79) dX8_clashes_79 (v := 1) (by decide) ?_
            refine j_goto (pc := 80) (tgt := 84) dX8_clashes_80 rfl ?_
            refine j_istore (pc := 84) dX8_clashes_84 (by decide) ?_
            first
              | exact seg true true hhs (decide_eq_false h76)
              | exact seg true false hhs (decide_eq_true h76)
              | exact seg false true hhs (decide_eq_false h76)
              | exact seg false false hhs (decide_eq_true h76)
    refine EV.intro (by decide +kernel) (Nat.le_of_ble_eq_true rfl) ?_
    refine j_aload_n (pc := 0) dX8_clashes_0 rfl ?_
    refine j_getI (pc := 1) dX8_clashes_1 f_X8_118 (by first | rfl | with_reducible assumption) (by rfl) ?_
    refine j_top hfs ?_
    refine j_iload_n (pc := 4) dX8_clashes_4 rfl ?_
    refine j_callSi (pc := 5) dX8_clashes_5 k_X8_121 (c_X8_bit _ _ _) rfl (by decide) rfl (Nat.le_of_ble_eq_true rfl) (fun r σ1 hp => ?_)
    obtain ⟨rfl, rfl⟩ := hp
    refine j_if_ne (pc := 8) (tgt := 13) dX8_clashes_8 rfl (fun h8 => ?_) (fun h8 => absurd ((isin_0 (by omega)).mp h8) (by rw [hF]; decide))
    refine j_iconst (pc := 13) dX8_clashes_13 (v := 0) (by decide) ?_
    refine j_istore_n (pc := 14) dX8_clashes_14 (by decide) ?_
    refine j_iconst (pc := 15) dX8_clashes_15 (v := 0) (by decide) ?_
    refine j_istore (pc := 16) dX8_clashes_16 (by decide) ?_
    refine j_iconst (pc := 18) dX8_clashes_18 (v := 0) (by decide) ?_
    refine j_istore (pc := 19) dX8_clashes_19 (by decide) ?_
    exact loop N 0 _ _ (by omega) (fun j hj => absurd hj (Nat.not_lt_zero _))
  · skip
    refine EV.intro (by decide +kernel) (Nat.le_of_ble_eq_true rfl) ?_
    refine j_aload_n (pc := 0) dX8_clashes_0 rfl ?_
    refine j_getI (pc := 1) dX8_clashes_1 f_X8_118 (by first | rfl | with_reducible assumption) (by rfl) ?_
    refine j_top hfs ?_
    refine j_iload_n (pc := 4) dX8_clashes_4 rfl ?_
    refine j_callSi (pc := 5) dX8_clashes_5 k_X8_121 (c_X8_bit _ _ _) rfl (by decide) rfl (Nat.le_of_ble_eq_true rfl) (fun r σ1 hp => ?_)
    obtain ⟨rfl, rfl⟩ := hp
    refine j_if_ne (pc := 8) (tgt := 13) dX8_clashes_8 rfl (fun h8 => absurd ((isin_0 (by omega)).mpr (by simpa using hF)) h8) (fun h8 => ?_)
    refine j_iconst (pc := 11) dX8_clashes_11 (v := 0) (by decide) ?_
    refine j_zret (pc := 12) dX8_clashes_12 (Or.inl rfl) ?_
    exact ⟨rfl, Or.inr ⟨fun z => hF (by rw [Bool.and_eq_true] at z; exact z.2), rfl⟩⟩
end Fin
