/-! NET.measure -/
/-- what measure needs of a Net: J JOINTS, which are FINISHED, the edges into each -/
def NM (σ : Mm) (b J : Nat) (tg : Nat → Int32) (fn : Nat → Bool) : Prop := J ≤ 150 ∧ σ b 13 = nI J ∧ (∀ n, n < J → σ (b + 4) n = (if fn n = true then 1 else 0)) ∧ (∀ j, j < J → chainP (σ (b + 7)) (σ (b + 6) j) (insX tg j (8 * J))) ∧ ∀ y, y < 8 * J → tg y = -9 ∨ ∃ m, m < J ∧ tg y = nI m
/-- only far, queue and queued have changed -/
def FrQ (b : Nat) (σ σ' : Mm) : Prop := (∀ x, x ≠ b → x ≠ b + 9 → x ≠ b + 10 → σ' x = σ x) ∧ ∀ k, k ≠ 10 → σ' b k = σ b k
theorem FrQ.rf {b : Nat} {σ : Mm} : FrQ b σ σ := ⟨fun _ _ _ _ => rfl, fun _ _ => rfl⟩
theorem FrQ.tr {b : Nat} {σ σ' σ'' : Mm} (h1 : FrQ b σ σ') (h2 : FrQ b σ' σ'') : FrQ b σ σ'' := ⟨fun x a c e => (h2.1 x a c e).trans (h1.1 x a c e), fun k hk => (h2.2 k hk).trans (h1.2 k hk)⟩
theorem FrQ.u9 {b k : Nat} {v : Int32} {σ σ' : Mm} (h : FrQ b σ σ') : FrQ b σ (m_up σ' (b + 9) k v) := ⟨fun x a c e => (m_ne c).trans (h.1 x a c e), fun k hk => by rw [m_ne (by omega)]; exact h.2 k hk⟩
theorem FrQ.u10 {b k : Nat} {v : Int32} {σ σ' : Mm} (h : FrQ b σ σ') : FrQ b σ (m_up σ' (b + 10) k v) := ⟨fun x a c e => (m_ne e).trans (h.1 x a c e), fun k hk => by rw [m_ne (by omega)]; exact h.2 k hk⟩
theorem FrQ.uq {b : Nat} {v : Int32} {σ σ' : Mm} (h : FrQ b σ σ') : FrQ b σ (m_up σ' b 10 v) := ⟨fun x a c e => (m_ne a).trans (h.1 x a c e), fun k hk => by rw [m_nk hk]; exact h.2 k hk⟩
theorem NM.fr {b J : Nat} {tg : Nat → Int32} {fn : Nat → Bool} {σ σ' : Mm} (h : NM σ b J tg fn) (hF : FrQ b σ σ') : NM σ' b J tg fn := by
  unfold NM at *
  rw [hF.1 (b + 4) (by omega) (by omega) (by omega), hF.1 (b + 7) (by omega) (by omega) (by omega), hF.1 (b + 6) (by omega) (by omega) (by omega), hF.2 13 (by decide)]
  exact h
theorem enq_rows {b n q : Nat} {v : Int32} {σ : Mm} : (m_up (m_up (m_up σ (b + 9) n v) (b + 10) q (nI n)) b 10 (nI (q + 1))) (b + 9) = upd (σ (b + 9)) n v ∧ (m_up (m_up (m_up σ (b + 9) n v) (b + 10) q (nI n)) b 10 (nI (q + 1))) (b + 10) = upd (σ (b + 10)) q (nI n) ∧ (m_up (m_up (m_up σ (b + 9) n v) (b + 10) q (nI n)) b 10 (nI (q + 1))) b 10 = nI (q + 1) := by
  refine ⟨?_, ?_, m_eq _ _ _ _⟩
  · rw [m_ne (by omega), m_ne (by omega), m_row]
  · rw [m_ne (by omega), m_row, m_ne (by omega)]
def mbP (σ : Mm) (b J : Nat) (tg : Nat → Int32) (fn al : Nat → Bool) (Q : Nat) (u d : Nat → Nat) (p : Nat) : Int32 → Mm → Prop := fun _ σ' => FrQ b σ σ' ∧ ∃ (Q' : Nat) (u' d' : Nat → Nat), QI J tg fn al J (σ' (b + 9)) (σ' (b + 10)) Q' u' d' ∧ QP J tg fn al Q' u' d' (p + 1) ∧ σ' b 10 = nI Q' ∧ Q ≤ Q'
theorem c_X3_measureBackFrom {b : Nat} (hb : IsN b) {la : Nat} (hla : Γ1[la]? = some (gI 150)) (hl1 : la ≠ b ∧ la ≠ b + 9 ∧ la ≠ b + 10) {σ : Mm} {J : Nat} {tg : Nat → Int32} {fn : Nat → Bool} (hN : NM σ b J tg fn) {Q p : Nat} {u d : Nat → Nat} (hQ : σ b 10 = nI Q)
    (hI : QI J tg fn (fun n => decide (σ la n = -9)) J (σ (b + 9)) (σ (b + 10)) Q u d) (hP : QP J tg fn (fun n => decide (σ la n = -9)) Q u d p) (hp : p < Q) : EV Γ1 1 yX3_measureBackFrom cX3_measureBackFrom 6 none [.inr b, .inl (nI (u p)), .inr la] σ (mbP σ b J tg fn (fun n => decide (σ la n = -9)) Q u d p) := by
  have g0 := hb.1
  have g6 := hb.2.2.2.2.2.2.1
  have g7 := hb.2.2.2.2.2.2.2.1
  have g9 := hb.2.2.2.2.2.2.2.2.2.1
  have hJ := hN.1
  have hQJ : Q ≤ J := by rw [← hI.1]; exact cnt_le _ _
  obtain ⟨hu1, hu2, hu3, hu4, hu5⟩ := hI.2.1 p hp
  have hcu : (nI (u p)).toNatClampNeg = u p := nI_clamp (by omega)
  have hvu : vp_in (nI (u p)) 150 := vp_in_nI (by omega) (by decide)
  have hLL : (insX tg (u p) (8 * J)).length ≤ 8 * J := by
    unfold insX
    rw [List.length_reverse]
    have := List.length_filter_le (fun y => tg y == nI (u p)) (List.range (8 * J))
    simpa using this
  have loop : ∀ (l pre : List Nat) (v : Int32) (σ' : Mm) (Q' : Nat) (u' d' : Nat → Nat) (y5 : Option Vl), insX tg (u p) (8 * J) = pre ++ l → chainP (σ (b + 7)) v l → FrQ b σ σ' → σ' b 10 = nI Q' → Q ≤ Q' → QI J tg fn (fun n => decide (σ la n = -9)) J (σ' (b + 9)) (σ' (b + 10)) Q' u' d' → (∀ i, i < Q → u' i = u i ∧ d' i = d i) → (∀ i, i < Q' → d' i ≤ d p + 1) → (∀ y, y ∈ pre → σ la (y / 8) = -9 → ∃ k, k < Q' ∧ u' k = y / 8 ∧ d' k ≤ d p + 1) →
      AJ Γ1 1 RX3 cX3_measureBackFrom 6 none (mbP σ b J tg fn (fun n => decide (σ la n = -9)) Q u d p) 10 [some (.inr b), some (.inl (nI (u p))), some (.inr la), some (.inl v), some (.inl (nI pre.length)), y5] [] σ' := by
    intro l
    induction l with
    | nil =>
      intro pre v σ' Q' u' d' y5 hLe hc hF hq hQQ hQI hag hle hpre
      have hv : v = -9 := hc
      subst hv
      have fin : mbP σ b J tg fn (fun n => decide (σ la n = -9)) Q u d p 0 σ' := by
        refine ⟨hF, Q', u', d', hQI, ⟨fun n a1 a2 a3 => ?_, fun i hi y hy hty hal => ?_, fun hlt i hi => ?_⟩, hq, hQQ⟩
        · obtain ⟨k, c1, c2, c3⟩ := hP.1 n a1 a2 a3
          exact ⟨k, by omega, by rw [(hag k c1).1]; exact c2, by rw [(hag k c1).2]; exact c3⟩
        · by_cases q : i = p
          · subst q
            rw [(hag i hp).1] at hty
            have hm : y ∈ pre := by
              have := ins_mem.mpr ⟨hy, hty⟩
              rw [hLe] at this
              simpa using this
            obtain ⟨k, c1, c2, c3⟩ := hpre y hm (of_decide_eq_true hal)
            exact ⟨k, c1, c2, by rw [(hag i hp).2]; exact c3⟩
          · rw [(hag i (by omega)).1] at hty
            obtain ⟨k, c1, c2, c3⟩ := hP.2.1 i (by omega) y hy hty hal
            exact ⟨k, by omega, by rw [(hag k c1).1]; exact c2, by rw [(hag k c1).2, (hag i (by omega)).2]; exact c3⟩
        · have h1 := hle i hi
          have h2 := hQI.2.2.1 p (p + 1) (by omega) hlt
          rw [(hag p hp).2] at h2
          omega
      refine j_iload (pc := 10) dX3_measureBackFrom_10 rfl ?_
      refine j_sipush (pc := 12) dX3_measureBackFrom_12 (v := 1200) (by decide) ?_
      refine j_icmp_ge (pc := 15) (tgt := 90) dX3_measureBackFrom_15 rfl (fun h15 => ?_) (fun h15 => ?_)
      · refine j_vret (pc := 90) dX3_measureBackFrom_90 ?_
        exact fin
      · refine j_iload_n (pc := 18) dX3_measureBackFrom_18 rfl ?_
        refine j_if_lt (pc := 19) (tgt := 90) dX3_measureBackFrom_19 rfl (fun h19 => ?_) (fun h19 => absurd (by decide) h19)
        refine j_vret (pc := 90) dX3_measureBackFrom_90 ?_
        exact fin
    | cons y ys ih =>
      intro pre v σ' Q' u' d' y5 hLe hc hF hq hQQ hQI hag hle hpre
      obtain ⟨hv, hc2⟩ := hc
      subst hv
      have hym : y ∈ insX tg (u p) (8 * J) := by rw [hLe]; simp
      obtain ⟨hy8, hty⟩ := ins_mem.mp hym
      have hlen : pre.length + (ys.length + 1) ≤ 8 * J := by
        have := congrArg List.length hLe
        rw [List.length_append, List.length_cons] at this
        omega
      have hQ'J : Q' ≤ J := by rw [← hQI.1]; exact cnt_le _ _
      have hdv : nI y / 8 = nI (y / 8) := pk_div (d := 8) (by omega) (by decide) (by decide)
      have hfr : y / 8 < J := by omega
      have hcf : (nI (y / 8)).toNatClampNeg = y / 8 := nI_clamp (by omega)
      have hvf : vp_in (nI (y / 8)) 150 := vp_in_nI (by omega) (by decide)
      have ela : σ' la = σ la := hF.1 la hl1.1 hl1.2.1 hl1.2.2
      have e7 : σ' (b + 7) = σ (b + 7) := hF.1 (b + 7) (by omega) (by omega) (by omega)
      have hup : σ' (b + 9) (u p) = nI (d p) := by
        have := (hQI.2.1 p (by omega)).2.2.1
        rw [(hag p hp).1, (hag p hp).2] at this
        exact this
      have next : ∀ (σ2 : Mm) (Q2 : Nat) (u2 d2 : Nat → Nat), FrQ b σ σ2 → σ2 b 10 = nI Q2 → Q ≤ Q2 → QI J tg fn (fun n => decide (σ la n = -9)) J (σ2 (b + 9)) (σ2 (b + 10)) Q2 u2 d2 → (∀ i, i < Q → u2 i = u i ∧ d2 i = d i) → (∀ i, i < Q2 → d2 i ≤ d p + 1) → (∀ z, z ∈ pre ++ [y] → σ la (z / 8) = -9 → ∃ k, k < Q2 ∧ u2 k = z / 8 ∧ d2 k ≤ d p + 1) →
          AJ Γ1 1 RX3 cX3_measureBackFrom 6 none (mbP σ b J tg fn (fun n => decide (σ la n = -9)) Q u d p) 77 [some (.inr b), some (.inl (nI (u p))), some (.inr la), some (.inl (nI y)), some (.inl (nI pre.length)), some (.inl (nI (y / 8)))] [] σ2 := by
        intro σ2 Q2 u2 d2 f1 f2 f3 f4 f5 f6 f7
        have e72 : σ2 (b + 7) = σ (b + 7) := f1.1 (b + 7) (by omega) (by omega) (by omega)
        refine j_aload_n (pc := 77) dX3_measureBackFrom_77 rfl ?_
        refine j_getR (pc := 78) dX3_measureBackFrom_78 f_X3_31 (by first | rfl | with_reducible assumption) (by rfl) ?_
        refine j_iload_n (pc := 81) dX3_measureBackFrom_81 rfl ?_
        refine j_iald (pc := 82) dX3_measureBackFrom_82 (by first | rfl | with_reducible assumption) (vp_in_nI (by omega) (by decide)) ?_
        refine j_istore_n (pc := 83) dX3_measureBackFrom_83 (by decide) ?_
        refine j_iinc1 (pc := 84) dX3_measureBackFrom_84 rfl ?_
        refine j_goto (pc := 87) (tgt := 10) dX3_measureBackFrom_87 rfl ?_
        rw [nI_1, nI_clamp (by omega), e72]
        have := ih (pre ++ [y]) (σ (b + 7) y) σ2 Q2 u2 d2 (some (.inl (nI (y / 8)))) (by rw [hLe, List.append_assoc]; rfl) hc2 f1 f2 f3 f4 f5 f6 f7
        rw [List.length_append] at this
        exact this
      refine j_iload (pc := 10) dX3_measureBackFrom_10 rfl ?_
      refine j_sipush (pc := 12) dX3_measureBackFrom_12 (v := 1200) (by decide) ?_
      refine j_icmp_ge (pc := 15) (tgt := 90) dX3_measureBackFrom_15 rfl (fun h15 => absurd h15 (nI_ge (b := 1200) (by omega) (by decide))) (fun h15 => ?_)
      refine j_iload_n (pc := 18) dX3_measureBackFrom_18 rfl ?_
      refine j_if_lt (pc := 19) (tgt := 90) dX3_measureBackFrom_19 rfl (fun h19 => absurd h19 (nI_pos (by omega))) (fun h19 => ?_)
      refine j_iload_n (pc := 22) dX3_measureBackFrom_22 rfl ?_
      refine j_sipush (pc := 23) dX3_measureBackFrom_23 (v := 1200) (by decide) ?_
      refine j_icmp_ge (pc := 26) (tgt := 90) dX3_measureBackFrom_26 rfl (fun h26 => absurd h26 (nI_ge (b := 1200) (by omega) (by decide))) (fun h26 => ?_)
      refine j_iload_n (pc := 29) dX3_measureBackFrom_29 rfl ?_
      refine j_bipush (pc := 30) dX3_measureBackFrom_30 (v := 8) (by decide) ?_
      refine j_idiv (pc := 32) dX3_measureBackFrom_32 (by decide) ?_
      refine j_top hdv ?_
      refine j_istore (pc := 33) dX3_measureBackFrom_33 (by decide) ?_
      refine j_aload_n (pc := 35) dX3_measureBackFrom_35 rfl ?_
      refine j_getR (pc := 36) dX3_measureBackFrom_36 f_X3_37 (by first | rfl | with_reducible assumption) (by rfl) ?_
      refine j_iload (pc := 39) dX3_measureBackFrom_39 rfl ?_
      refine j_iald (pc := 41) dX3_measureBackFrom_41 (by first | rfl | with_reducible assumption) hvf ?_
      rw [hcf]
      refine j_bipush (pc := 42) dX3_measureBackFrom_42 (v := (-9)) (by decide) ?_
      refine j_icmp_ne (pc := 44) (tgt := 77) dX3_measureBackFrom_44 rfl (fun h44 => ?_) (fun h44 => ?_)
      · first
          | (have hnew := hadd
             refine next _ (Q' + 1) _ _ hF.u9.u10.uq hrows.2.2 (by omega) (by rw [hrows.1, hrows.2.1]; exact hnew) (fun i hi => ⟨by rw [updN_n (by omega)]; exact (hag i hi).1, by rw [updN_n (by omega)]; exact (hag i hi).2⟩) (fun i hi => ?_) (fun z hz hzl => ?_)
             · by_cases q : i = Q'
               · subst q; rw [updN_s]; exact Nat.le_refl _
               · rw [updN_n q]; exact hle i (by omega)
             · rcases List.mem_append.mp hz with hz | hz
               · obtain ⟨k, c1, c2, c3⟩ := hpre z hz hzl
                 exact ⟨k, by omega, by rw [updN_n (by omega)]; exact c2, by rw [updN_n (by omega)]; exact c3⟩
               · have : z = y := by simpa using hz
                 subst this
                 exact ⟨Q', by omega, updN_s, by rw [updN_s]; exact Nat.le_refl _⟩)
          | (refine next σ' Q' u' d' hF hq hQQ hQI hag hle (fun z hz hzl => ?_)
             rcases List.mem_append.mp hz with hz | hz
             · exact hpre z hz hzl
             · have : z = y := by simpa using hz
               subst this
               first
                 | exact absurd hzl h60
                 | (rcases hQI.2.2.2 (z / 8) hfr with q | ⟨k, q1, q2⟩
                    · exact absurd q h44
                    · exact ⟨k, q1, q2, hle k q1⟩))
      · refine j_iload (pc := 47) dX3_measureBackFrom_47 rfl ?_
        refine j_aload_n (pc := 49) dX3_measureBackFrom_49 rfl ?_
        refine j_alen (pc := 50) dX3_measureBackFrom_50 (by first | rfl | with_reducible assumption) (v := _) (by rfl) ?_
        refine j_icmp_ge (pc := 51) (tgt := 77) dX3_measureBackFrom_51 rfl (fun h51 => absurd h51 (nI_ge (b := 150) (by omega) (by decide))) (fun h51 => ?_)
        refine j_aload_n (pc := 54) dX3_measureBackFrom_54 rfl ?_
        refine j_iload (pc := 55) dX3_measureBackFrom_55 rfl ?_
        refine j_iald (pc := 57) dX3_measureBackFrom_57 (by first | rfl | with_reducible assumption) hvf ?_
        rw [hcf, ela]
        refine j_bipush (pc := 58) dX3_measureBackFrom_58 (v := (-9)) (by decide) ?_
        refine j_icmp_ne (pc := 60) (tgt := 77) dX3_measureBackFrom_60 rfl (fun h60 => ?_) (fun h60 => ?_)
        · first
            | (have hnew := hadd
               refine next _ (Q' + 1) _ _ hF.u9.u10.uq hrows.2.2 (by omega) (by rw [hrows.1, hrows.2.1]; exact hnew) (fun i hi => ⟨by rw [updN_n (by omega)]; exact (hag i hi).1, by rw [updN_n (by omega)]; exact (hag i hi).2⟩) (fun i hi => ?_) (fun z hz hzl => ?_)
               · by_cases q : i = Q'
                 · subst q; rw [updN_s]; exact Nat.le_refl _
                 · rw [updN_n q]; exact hle i (by omega)
               · rcases List.mem_append.mp hz with hz | hz
                 · obtain ⟨k, c1, c2, c3⟩ := hpre z hz hzl
                   exact ⟨k, by omega, by rw [updN_n (by omega)]; exact c2, by rw [updN_n (by omega)]; exact c3⟩
                 · have : z = y := by simpa using hz
                   subst this
                   exact ⟨Q', by omega, updN_s, by rw [updN_s]; exact Nat.le_refl _⟩)
            | (refine next σ' Q' u' d' hF hq hQQ hQI hag hle (fun z hz hzl => ?_)
               rcases List.mem_append.mp hz with hz | hz
               · exact hpre z hz hzl
               · have : z = y := by simpa using hz
                 subst this
                 first
                   | exact absurd hzl h60
                   | (rcases hQI.2.2.2 (z / 8) hfr with q | ⟨k, q1, q2⟩
                      · exact absurd q h44
                      · exact ⟨k, q1, q2, hle k q1⟩))
        · refine j_aload_n (pc := 63) dX3_measureBackFrom_63 rfl ?_
          refine j_iload (pc := 64) dX3_measureBackFrom_64 rfl ?_
          refine j_aload_n (pc := 66) dX3_measureBackFrom_66 rfl ?_
          refine j_getR (pc := 67) dX3_measureBackFrom_67 f_X3_37 (by first | rfl | with_reducible assumption) (by rfl) ?_
          refine j_iload_n (pc := 70) dX3_measureBackFrom_70 rfl ?_
          refine j_iald (pc := 71) dX3_measureBackFrom_71 (by first | rfl | with_reducible assumption) hvu ?_
          refine j_top (y := nI (d p)) (by rw [hcu]; exact hup) ?_
          refine j_iconst (pc := 72) dX3_measureBackFrom_72 (v := 1) (by decide) ?_
          refine j_iadd (pc := 73) dX3_measureBackFrom_73 ?_
          rw [nI_1]
          refine j_callVv (pc := 74) dX3_measureBackFrom_74 k_X3_124 (c_X3_enqueue hb _ hq (by have := cnt_lt h44 J hfr; rw [hQI.1] at this; omega) (by omega)) (by first | rfl | with_reducible assumption) rfl rfl (by decide) rfl (Nat.le_of_ble_eq_true rfl) (fun σ1 hp => ?_)
          obtain rfl := hp
          have hR : Rk J tg fn (fun n => decide (σ la n = -9)) (d p + 1) (y / 8) := Or.inr ⟨hfr, decide_eq_true h60, y % 8, u p, Nat.mod_lt _ (by decide), by rw [Nat.div_add_mod]; exact hty, hu4⟩
          have hadd := hQI.add hfr h44 (show d p + 1 ≤ Q' by omega) hR hle (by omega)
          have hrows := enq_rows (b := b) (n := y / 8) (q := Q') (v := nI (d p + 1)) (σ := σ')
          first
            | (have hnew := hadd
               refine next _ (Q' + 1) _ _ hF.u9.u10.uq hrows.2.2 (by omega) (by rw [hrows.1, hrows.2.1]; exact hnew) (fun i hi => ⟨by rw [updN_n (by omega)]; exact (hag i hi).1, by rw [updN_n (by omega)]; exact (hag i hi).2⟩) (fun i hi => ?_) (fun z hz hzl => ?_)
               · by_cases q : i = Q'
                 · subst q; rw [updN_s]; exact Nat.le_refl _
                 · rw [updN_n q]; exact hle i (by omega)
               · rcases List.mem_append.mp hz with hz | hz
                 · obtain ⟨k, c1, c2, c3⟩ := hpre z hz hzl
                   exact ⟨k, by omega, by rw [updN_n (by omega)]; exact c2, by rw [updN_n (by omega)]; exact c3⟩
                 · have : z = y := by simpa using hz
                   subst this
                   exact ⟨Q', by omega, updN_s, by rw [updN_s]; exact Nat.le_refl _⟩)
            | (refine next σ' Q' u' d' hF hq hQQ hQI hag hle (fun z hz hzl => ?_)
               rcases List.mem_append.mp hz with hz | hz
               · exact hpre z hz hzl
               · have : z = y := by simpa using hz
                 subst this
                 first
                   | exact absurd hzl h60
                   | (rcases hQI.2.2.2 (z / 8) hfr with q | ⟨k, q1, q2⟩
                      · exact absurd q h44
                      · exact ⟨k, q1, q2, hle k q1⟩))
  refine EV.intro (by decide +kernel) (Nat.le_of_ble_eq_true rfl) ?_
  refine j_aload_n (pc := 0) dX3_measureBackFrom_0 rfl ?_
  refine j_getR (pc := 1) dX3_measureBackFrom_1 f_X3_28 (by first | rfl | with_reducible assumption) (by rfl) ?_
  refine j_iload_n (pc := 4) dX3_measureBackFrom_4 rfl ?_
  refine j_iald (pc := 5) dX3_measureBackFrom_5 (by first | rfl | with_reducible assumption) hvu ?_
  rw [hcu]
  refine j_istore_n (pc := 6) dX3_measureBackFrom_6 (by decide) ?_
  refine j_iconst (pc := 7) dX3_measureBackFrom_7 (v := 0) (by decide) ?_
  refine j_istore (pc := 8) dX3_measureBackFrom_8 (by decide) ?_
  exact loop _ [] _ σ Q u d none rfl (hN.2.2.2.1 (u p) hu1) FrQ.rf hQ (Nat.le_refl _) hI (fun i hi => ⟨rfl, rfl⟩) (hP.2.2 hp) (fun y hy => absurd hy List.not_mem_nil)
theorem QI.grow {J : Nat} {tg : Nat → Int32} {fn al : Nat → Bool} {N : Nat} {F U : Nat → Int32} {Q : Nat} {u d : Nat → Nat} (h : QI J tg fn al N F U Q u d) : QI J tg fn al (N + 1) (upd F N (-9)) U Q u d := by
  obtain ⟨h1, h2, h3, h4⟩ := h
  refine ⟨by rw [cnt_S, cnt_ge F N _ N (Nat.le_refl _), pk_us, if_pos rfl]; exact h1, fun i hi => ?_, h3, fun n hn => ?_⟩
  · obtain ⟨a1, a2, a3, a4, a5⟩ := h2 i hi
    rw [pk_un (by omega)]
    exact ⟨by omega, a2, a3, a4, a5⟩
  · by_cases q : n = N
    · subst q; exact Or.inl pk_us
    · rw [pk_un q]; exact h4 n (by omega)
/-- measure: far is how far, over what isn't LOST; queued: how many can end -/
def meaP (σ : Mm) (b J : Nat) (tg : Nat → Int32) (fn al : Nat → Bool) : Int32 → Mm → Prop := fun _ σ' => FrQ b σ σ' ∧ σ' b 10 = nI (cntF (σ' (b + 9)) J) ∧ ∀ n, n < J → isFar J tg fn al n (σ' (b + 9) n)
theorem c_X3_measure {b : Nat} (hb : IsN b) {la : Nat} (hla : Γ1[la]? = some (gI 150)) (hl1 : la ≠ b ∧ la ≠ b + 9 ∧ la ≠ b + 10) {σ : Mm} {J : Nat} {tg : Nat → Int32} {fn : Nat → Bool} (hN : NM σ b J tg fn) : EV Γ1 2 yX3_measure cX3_measure 3 none [.inr b, .inr la] σ (meaP σ b J tg fn (fun n => decide (σ la n = -9))) := by
  have g0 := hb.1
  have g4 := hb.2.2.2.2.1
  have g9 := hb.2.2.2.2.2.2.2.2.2.1
  have g10 := hb.2.2.2.2.2.2.2.2.2.2
  have hJ := hN.1
  have main : ∀ (k p : Nat) (σ' : Mm) (Q : Nat) (u d : Nat → Nat), p + k = 150 → FrQ b σ σ' → σ' b 10 = nI Q → p ≤ Q → QI J tg fn (fun n => decide (σ la n = -9)) J (σ' (b + 9)) (σ' (b + 10)) Q u d → QP J tg fn (fun n => decide (σ la n = -9)) Q u d p →
      AJ Γ1 2 RX3 cX3_measure 3 none (meaP σ b J tg fn (fun n => decide (σ la n = -9))) 60 [some (.inr b), some (.inr la), some (.inl (nI p))] [] σ' := by
    intro k
    induction k with
    | zero =>
      intro p σ' Q u d hk hF hq hpQ hI hP
      have hQJ : Q ≤ J := by rw [← hI.1]; exact cnt_le _ _
      refine j_iload_n (pc := 60) dX3_measure_60 rfl ?_
      refine j_aload_n (pc := 61) dX3_measure_61 rfl ?_
      refine j_getI (pc := 62) dX3_measure_62 f_X3_43 (by first | rfl | with_reducible assumption) (by rfl) ?_
      refine j_top hq ?_
      refine j_icmp_ge (pc := 65) (tgt := 92) dX3_measure_65 rfl (fun h65 => ?_) (fun h65 => absurd (nI_le (by omega) (by omega)) h65)
      refine j_vret (pc := 92) dX3_measure_92 ?_
      obtain rfl : p = Q := by omega
      exact ⟨hF, by rw [hI.1]; exact hq, hI.done hP hJ hN.2.2.2.2⟩
    | succ k ih =>
      intro p σ' Q u d hk hF hq hpQ hI hP
      have hQJ : Q ≤ J := by rw [← hI.1]; exact cnt_le _ _
      have ela : σ' la = σ la := hF.1 la hl1.1 hl1.2.1 hl1.2.2
      refine j_iload_n (pc := 60) dX3_measure_60 rfl ?_
      refine j_aload_n (pc := 61) dX3_measure_61 rfl ?_
      refine j_getI (pc := 62) dX3_measure_62 f_X3_43 (by first | rfl | with_reducible assumption) (by rfl) ?_
      refine j_top hq ?_
      refine j_icmp_ge (pc := 65) (tgt := 92) dX3_measure_65 rfl (fun h65 => ?_) (fun h65 => ?_)
      · have hle := (nI_leI (by omega) (by omega)).mp h65
        refine j_vret (pc := 92) dX3_measure_92 ?_
        obtain rfl : p = Q := by omega
        exact ⟨hF, by rw [hI.1]; exact hq, hI.done hP hJ hN.2.2.2.2⟩
      · have hlt : p < Q := by
          have : ¬ Q ≤ p := fun q => h65 ((nI_leI (by omega) (by omega)).mpr q)
          omega
        refine j_iload_n (pc := 68) dX3_measure_68 rfl ?_
        refine j_sipush (pc := 69) dX3_measure_69 (v := 150) (by decide) ?_
        refine j_icmp_ge (pc := 72) (tgt := 92) dX3_measure_72 rfl (fun h72 => absurd h72 (nI_ge (b := 150) (by omega) (by decide))) (fun h72 => ?_)
        refine j_aload_n (pc := 75) dX3_measure_75 rfl ?_
        refine j_aload_n (pc := 76) dX3_measure_76 rfl ?_
        refine j_getR (pc := 77) dX3_measure_77 f_X3_40 (by first | rfl | with_reducible assumption) (by rfl) ?_
        refine j_iload_n (pc := 80) dX3_measure_80 rfl ?_
        refine j_iald (pc := 81) dX3_measure_81 (by first | rfl | with_reducible assumption) (vp_in_nI (by omega) (by decide)) ?_
        refine j_top (y := nI (u p)) (by rw [nI_clamp (by omega)]; exact (hI.2.1 p hlt).2.1) ?_
        refine j_aload_n (pc := 82) dX3_measure_82 rfl ?_
        refine j_callVv (pc := 83) dX3_measure_83 k_X3_128 (c_X3_measureBackFrom hb hla hl1 (hN.fr hF) hq (u := u) (d := d) (p := p) (by rw [ela]; exact hI) (by rw [ela]; exact hP) hlt) (by first | rfl | with_reducible assumption) rfl rfl (by decide) rfl (Nat.le_of_ble_eq_true rfl) (fun σ1 hp => ?_)
        rw [ela] at hp
        obtain ⟨hF2, Q2, u2, d2, hI2, hP2, hq2, hQ2⟩ := hp
        refine j_iinc1 (pc := 86) dX3_measure_86 rfl ?_
        refine j_goto (pc := 89) (tgt := 60) dX3_measure_89 rfl ?_
        rw [nI_1]
        exact ih (p + 1) _ Q2 u2 d2 (by omega) (hF.tr hF2) hq2 (by omega) hI2 hP2
  have init : ∀ (k n : Nat) (σ' : Mm) (Q : Nat) (u d : Nat → Nat), n + k = J → FrQ b σ σ' → σ' b 10 = nI Q → QI J tg fn (fun n => decide (σ la n = -9)) n (σ' (b + 9)) (σ' (b + 10)) Q u d → (∀ i, i < Q → d i = 0) → (∀ n', n' < n → σ la n' = -9 → fn n' = true → ∃ k, k < Q ∧ u k = n') →
      AJ Γ1 2 RX3 cX3_measure 3 none (meaP σ b J tg fn (fun n => decide (σ la n = -9))) 7 [some (.inr b), some (.inr la), some (.inl (nI n))] [] σ' := by
    intro k
    induction k with
    | zero =>
      intro n σ' Q u d hk hF hq hI hd0 hf
      obtain rfl : n = J := by omega
      have hQJ : Q ≤ n := by rw [← hI.1]; exact cnt_le _ _
      refine j_iload_n (pc := 7) dX3_measure_7 rfl ?_
      refine j_aload_n (pc := 8) dX3_measure_8 rfl ?_
      refine j_getI (pc := 9) dX3_measure_9 f_X3_53 (by first | rfl | with_reducible assumption) (by rfl) ?_
      refine j_top (y := nI n) (by rw [hF.2 13 (by decide)]; exact hN.2.1) ?_
      refine j_icmp_ge (pc := 12) (tgt := 58) dX3_measure_12 rfl (fun h12 => ?_) (fun h12 => absurd (Int32.le_refl _) h12)
      refine j_iconst (pc := 58) dX3_measure_58 (v := 0) (by decide) ?_
      refine j_istore_n (pc := 59) dX3_measure_59 (by decide) ?_
      refine main 150 0 σ' Q u d rfl hF hq (Nat.zero_le _) hI ⟨fun n' a1 a2 a3 => ?_, fun i hi => absurd hi (Nat.not_lt_zero _), fun _ i hi => by rw [hd0 i hi]; omega⟩
      obtain ⟨k, c1, c2⟩ := hf n' a1 (of_decide_eq_true a2) a3
      exact ⟨k, c1, c2, hd0 k c1⟩
    | succ k ih =>
      intro n σ' Q u d hk hF hq hI hd0 hf
      have hn : n < J := by omega
      have hQn : Q ≤ n := by rw [← hI.1]; exact cnt_le _ _
      have hcn : (nI n).toNatClampNeg = n := nI_clamp (by omega)
      have hvn : vp_in (nI n) 150 := vp_in_nI (by omega) (by decide)
      have e4 : m_up σ' (b + 9) n (-9) (b + 4) = σ (b + 4) := by rw [m_ne (by omega)]; exact hF.1 (b + 4) (by omega) (by omega) (by omega)
      have ela : m_up σ' (b + 9) n (-9) la = σ la := by rw [m_ne hl1.2.1]; exact hF.1 la hl1.1 hl1.2.1 hl1.2.2
      have hI1 : QI J tg fn (fun n => decide (σ la n = -9)) (n + 1) (m_up σ' (b + 9) n (-9) (b + 9)) (m_up σ' (b + 9) n (-9) (b + 10)) Q u d := by rw [m_row, m_ne (by omega)]; exact hI.grow
      have hq1 : m_up σ' (b + 9) n (-9) b 10 = nI Q := by rw [m_ne (by omega)]; exact hq
      refine j_iload_n (pc := 7) dX3_measure_7 rfl ?_
      refine j_aload_n (pc := 8) dX3_measure_8 rfl ?_
      refine j_getI (pc := 9) dX3_measure_9 f_X3_53 (by first | rfl | with_reducible assumption) (by rfl) ?_
      refine j_top (y := nI J) (by rw [hF.2 13 (by decide)]; exact hN.2.1) ?_
      refine j_icmp_ge (pc := 12) (tgt := 58) dX3_measure_12 rfl (fun h12 => absurd h12 (nI_ge hn (by omega))) (fun h12 => ?_)
      refine j_iload_n (pc := 15) dX3_measure_15 rfl ?_
      refine j_aload_n (pc := 16) dX3_measure_16 rfl ?_
      refine j_alen (pc := 17) dX3_measure_17 (by first | rfl | with_reducible assumption) (v := _) (by rfl) ?_
      refine j_icmp_ge (pc := 18) (tgt := 58) dX3_measure_18 rfl (fun h18 => absurd h18 (nI_ge (b := 150) (by omega) (by decide))) (fun h18 => ?_)
      refine j_aload_n (pc := 21) dX3_measure_21 rfl ?_
      refine j_getR (pc := 22) dX3_measure_22 f_X3_37 (by first | rfl | with_reducible assumption) (by rfl) ?_
      refine j_iload_n (pc := 25) dX3_measure_25 rfl ?_
      refine j_bipush (pc := 26) dX3_measure_26 (v := (-9)) (by decide) ?_
      refine j_iast (pc := 28) dX3_measure_28 (by first | rfl | with_reducible assumption) hvn ?_
      rw [hcn]
      refine j_aload_n (pc := 29) dX3_measure_29 rfl ?_
      refine j_getR (pc := 30) dX3_measure_30 f_X3_21 (by first | rfl | with_reducible assumption) (by rfl) ?_
      refine j_iload_n (pc := 33) dX3_measure_33 rfl ?_
      refine j_zald (pc := 34) dX3_measure_34 (by first | rfl | with_reducible assumption) hvn ?_
      refine j_top (y := if fn n = true then 1 else 0) (by rw [hcn, e4]; exact hN.2.2.1 n hn) ?_
      refine j_if_eq (pc := 35) (tgt := 52) dX3_measure_35 rfl (fun h35 => ?_) (fun h35 => ?_)
      · have hfn : ¬ fn n = true := fun q => by rw [if_pos q] at h35; exact absurd h35 (by decide)
        refine j_iinc1 (pc := 52) dX3_measure_52 rfl ?_
        refine j_goto (pc := 55) (tgt := 7) dX3_measure_55 rfl ?_
        rw [nI_1]
        first
          | (refine ih (n + 1) _ (Q + 1) _ _ (by omega) hF.u9.u9.u10.uq hrows.2.2 (by rw [hrows.1, hrows.2.1]; exact hadd) (fun i hi => ?_) (fun n' h1 h2 h3 => ?_)
             · by_cases q : i = Q
               · subst q; exact updN_s
               · rw [updN_n q]; exact hd0 i (by omega)
             · by_cases q : n' = n
               · subst q; exact ⟨Q, by omega, updN_s⟩
               · obtain ⟨k, c1, c2⟩ := hf n' (by omega) h2 h3
                 exact ⟨k, by omega, by rw [updN_n (by omega)]; exact c2⟩)
          | (refine ih (n + 1) _ Q u d (by omega) hF.u9 hq1 hI1 hd0 (fun n' h1 h2 h3 => ?_)
             by_cases q : n' = n
             · subst q
               first | exact absurd h3 hfn | exact absurd h2 h43
             · exact hf n' (by omega) h2 h3)
      · have hfn : fn n = true := Classical.byContradiction fun q => h35 (if_neg q)
        refine j_aload_n (pc := 38) dX3_measure_38 rfl ?_
        refine j_iload_n (pc := 39) dX3_measure_39 rfl ?_
        refine j_iald (pc := 40) dX3_measure_40 (by first | rfl | with_reducible assumption) hvn ?_
        refine j_top (y := σ la n) (by rw [hcn, ela]) ?_
        refine j_bipush (pc := 41) dX3_measure_41 (v := (-9)) (by decide) ?_
        refine j_icmp_ne (pc := 43) (tgt := 52) dX3_measure_43 rfl (fun h43 => ?_) (fun h43 => ?_)
        · refine j_iinc1 (pc := 52) dX3_measure_52 rfl ?_
          refine j_goto (pc := 55) (tgt := 7) dX3_measure_55 rfl ?_
          rw [nI_1]
          first
            | (refine ih (n + 1) _ (Q + 1) _ _ (by omega) hF.u9.u9.u10.uq hrows.2.2 (by rw [hrows.1, hrows.2.1]; exact hadd) (fun i hi => ?_) (fun n' h1 h2 h3 => ?_)
               · by_cases q : i = Q
                 · subst q; exact updN_s
                 · rw [updN_n q]; exact hd0 i (by omega)
               · by_cases q : n' = n
                 · subst q; exact ⟨Q, by omega, updN_s⟩
                 · obtain ⟨k, c1, c2⟩ := hf n' (by omega) h2 h3
                   exact ⟨k, by omega, by rw [updN_n (by omega)]; exact c2⟩)
            | (refine ih (n + 1) _ Q u d (by omega) hF.u9 hq1 hI1 hd0 (fun n' h1 h2 h3 => ?_)
               by_cases q : n' = n
               · subst q
                 first | exact absurd h3 hfn | exact absurd h2 h43
               · exact hf n' (by omega) h2 h3)
        · refine j_aload_n (pc := 46) dX3_measure_46 rfl ?_
          refine j_iload_n (pc := 47) dX3_measure_47 rfl ?_
          refine j_iconst (pc := 48) dX3_measure_48 (v := 0) (by decide) ?_
          refine j_callVv (pc := 49) dX3_measure_49 k_X3_124 (c_X3_enqueue hb 0 hq1 (by omega) (by omega)) (by first | rfl | with_reducible assumption) rfl rfl (by decide) rfl (Nat.le_of_ble_eq_true rfl) (fun σ1 hp => ?_)
          obtain rfl := hp
          have hrows := enq_rows (b := b) (n := n) (q := Q) (v := 0) (σ := m_up σ' (b + 9) n (-9))
          have hadd := hI1.add (n := n) (D := 0) (by omega) (m_eq _ _ _ _) (Nat.zero_le _) ⟨hn, decide_eq_true h43, hfn⟩ (fun i hi => by rw [hd0 i hi]; exact Nat.le_refl _) (by decide)
          refine j_iinc1 (pc := 52) dX3_measure_52 rfl ?_
          refine j_goto (pc := 55) (tgt := 7) dX3_measure_55 rfl ?_
          rw [nI_1]
          first
            | (refine ih (n + 1) _ (Q + 1) _ _ (by omega) hF.u9.u9.u10.uq hrows.2.2 (by rw [hrows.1, hrows.2.1]; exact hadd) (fun i hi => ?_) (fun n' h1 h2 h3 => ?_)
               · by_cases q : i = Q
                 · subst q; exact updN_s
                 · rw [updN_n q]; exact hd0 i (by omega)
               · by_cases q : n' = n
                 · subst q; exact ⟨Q, by omega, updN_s⟩
                 · obtain ⟨k, c1, c2⟩ := hf n' (by omega) h2 h3
                   exact ⟨k, by omega, by rw [updN_n (by omega)]; exact c2⟩)
            | (refine ih (n + 1) _ Q u d (by omega) hF.u9 hq1 hI1 hd0 (fun n' h1 h2 h3 => ?_)
               by_cases q : n' = n
               · subst q
                 first | exact absurd h3 hfn | exact absurd h2 h43
               · exact hf n' (by omega) h2 h3)
  refine EV.intro (by decide +kernel) (Nat.le_of_ble_eq_true rfl) ?_
  refine j_aload_n (pc := 0) dX3_measure_0 rfl ?_
  refine j_iconst (pc := 1) dX3_measure_1 (v := 0) (by decide) ?_
  refine j_put (pc := 2) dX3_measure_2 f_X3_43 (by first | rfl | with_reducible assumption) (by rfl) ?_
  refine j_iconst (pc := 5) dX3_measure_5 (v := 0) (by decide) ?_
  refine j_istore_n (pc := 6) dX3_measure_6 (by decide) ?_
  exact init J 0 _ 0 (fun _ => 0) (fun _ => 0) (by omega) FrQ.rf.uq (m_eq _ _ _ _) ⟨rfl, fun i hi => absurd hi (Nat.not_lt_zero _), fun i i' _ hi => absurd hi (Nat.not_lt_zero _), fun n hn => absurd hn (Nat.not_lt_zero _)⟩ (fun i hi => absurd hi (Nat.not_lt_zero _)) (fun n hn => absurd hn (Nat.not_lt_zero _))
