/-! LEASTBARS: finish, word -/
theorem nr_cong {J : Nat} {F F' tg : Nat → Int32} (hJ : J ≤ 150) (h : ∀ n, n < J → F n = F' n) (v : Int32) : nr J F tg v = nr J F' tg v := by
  unfold nr
  rw [fo_cong hJ h v]
  congr 1
  refine lst_cong (fun e _ => ?_)
  rw [fo_cong hJ h]
theorem way_cong {J : Nat} {F F' tg : Nat → Int32} (hJ : J ≤ 150) (h : ∀ n, n < J → F n = F' n) (s k : Int32) : q_way J F tg s k = q_way J F' tg s k := by
  have h1 : stpN J F tg = stpN J F' tg := by
    funext v
    unfold stpN
    rw [nr_cong hJ h]
  unfold q_way
  rw [h1, nr_cong hJ h, fo_cong hJ h]
section Ask4
variable {σ : Mm} {n0 : Nat} {t : Nat → Int32} {N : Nat} {K : Nat → Int32} {M : Nat → MV} {fs : Int32} {h : List Int32} {pl : Int32}
theorem c_X7_finish (kk : Int32) (q : R1 σ n0 t N K M fs h pl) : EV Γ1 4 yX7_finish cX7_finish 2 (some .int) [.inr 0, .inl kk] σ (fun r σ' => σ = σ' ∧ Ans (TA N K M) (allS N) fs (if kk = -9 ∨ inR 150 kk = true then -3 else -2) (fun k => q_finish (TA N K M) (allS N) fs k pl kk) r) := by
  obtain ⟨hb, hfs, hD, hP, h45, hTr⟩ := q
  refine EV.intro (by decide +kernel) (Nat.le_of_ble_eq_true rfl) ?_
  rcases hD with ⟨hO, s13, s14, -, -, -, s53, -⟩ | ⟨hO, hG, k, hk⟩
  · refine j_iload_n (pc := 0) dX7_finish_0 rfl ?_
    refine j_callSi (pc := 1) dX7_finish_1 k_X7_201 (c_X7_isPlaceInWord _ _) rfl (by decide) rfl (Nat.le_of_ble_eq_true rfl) (fun r σ1 hp => ?_)
    obtain ⟨rfl, hp⟩ := hp
    rcases hp with ⟨q1, rfl⟩ | ⟨q1, rfl⟩
    · refine j_if_ne (pc := 4) (tgt := 10) dX7_finish_4 rfl (fun _ => ?_) (fun h => absurd h (by decide))
      refine j_aload_n (pc := 10) dX7_finish_10 rfl ?_
      refine j_getR (pc := 11) dX7_finish_11 f_X7_60 (by first | rfl | with_reducible assumption) (by rfl) ?_
      refine j_iconst (pc := 14) dX7_finish_14 (v := 0) (by decide) ?_
      refine j_callVNi (pc := 15) dX7_finish_15 k_X7_149 (c_X0_holds _ _) (by first | rfl | with_reducible assumption) rfl rfl (by decide) rfl (Nat.le_of_ble_eq_true rfl) (fun r σ1 hp => ?_)
      obtain ⟨rfl, hp⟩ := hp
      rcases hp with ⟨q15, rfl⟩ | ⟨q15, rfl⟩
      · exact absurd (by rw [show (0 : Int32) = nI 0 from rfl, fo_nI (by decide) (by decide)]; exact s53 0 (by decide)) q15
        skip
      · refine j_if_ne (pc := 18) (tgt := 24) dX7_finish_18 rfl (fun h => absurd h (by decide)) (fun _ => ?_)
        refine j_bipush (pc := 21) dX7_finish_21 (v := (-3)) (by decide) ?_
        refine j_iret (pc := 23) dX7_finish_23 ?_
        exact ⟨rfl, Or.inl ⟨hO, (if_pos (q1.imp_right inR_iff.mpr)).symm⟩⟩
    · refine j_if_ne (pc := 4) (tgt := 10) dX7_finish_4 rfl (fun h => absurd h (by decide)) (fun _ => ?_)
      refine j_bipush (pc := 7) dX7_finish_7 (v := (-2)) (by decide) ?_
      refine j_iret (pc := 9) dX7_finish_9 ?_
      exact ⟨rfl, Or.inl ⟨hO, (if_neg (fun z => q1 (z.imp_right inR_iff.mp))).symm⟩⟩
  · have hJ := hG.1
    have hg0 := g_pos (TA N K M) (allS N)
    have hu0 : gU (TA N K M) (allS N) fs k 0 = decide ((gW (TA N K M) (allS N) fs k).1 0 = -9) := Uk_0 hg0
    have huc0 : σ 53 0 ≠ -9 ↔ (gW (TA N K M) (allS N) fs k).1 0 = -9 := by rw [hk.uc hJ hg0, hu0, decide_eq_true_iff]
    have hfar : ∀ n, n < gJ (TA N K M) (allS N) → σ (23 + 9) n = farW (gJ (TA N K M) (allS N)) (toX (TA N K M) (allS N)) (gF (TA N K M) (allS N)) (kpW (gW (TA N K M) (allS N) fs k).1) n := fun n hn => (farW_eq (hk.2.2.2.2.1 n hn)).symm
    have hway := fun k => way_cong (tg := toX (TA N K M) (allS N)) hJ hfar pl k
    refine j_iload_n (pc := 0) dX7_finish_0 rfl ?_
    refine j_callSi (pc := 1) dX7_finish_1 k_X7_201 (c_X7_isPlaceInWord _ _) rfl (by decide) rfl (Nat.le_of_ble_eq_true rfl) (fun r σ1 hp => ?_)
    obtain ⟨rfl, hp⟩ := hp
    rcases hp with ⟨q1, rfl⟩ | ⟨q1, rfl⟩
    · refine j_if_ne (pc := 4) (tgt := 10) dX7_finish_4 rfl (fun _ => ?_) (fun h => absurd h (by decide))
      refine j_aload_n (pc := 10) dX7_finish_10 rfl ?_
      refine j_getR (pc := 11) dX7_finish_11 f_X7_60 (by first | rfl | with_reducible assumption) (by rfl) ?_
      refine j_iconst (pc := 14) dX7_finish_14 (v := 0) (by decide) ?_
      refine j_callVNi (pc := 15) dX7_finish_15 k_X7_149 (c_X0_holds _ _) (by first | rfl | with_reducible assumption) rfl rfl (by decide) rfl (Nat.le_of_ble_eq_true rfl) (fun r σ1 hp => ?_)
      obtain ⟨rfl, hp⟩ := hp
      rcases hp with ⟨q15, rfl⟩ | ⟨q15, rfl⟩
      · rw [show (0 : Int32) = nI 0 from rfl, fo_nI (by decide) (by decide)] at q15
        refine j_if_ne (pc := 18) (tgt := 24) dX7_finish_18 rfl (fun _ => ?_) (fun h => absurd h (by decide))
        refine j_iload_n (pc := 24) dX7_finish_24 rfl ?_
        refine j_bipush (pc := 25) dX7_finish_25 (v := (-9)) (by decide) ?_
        refine j_icmp_ne (pc := 27) (tgt := 47) dX7_finish_27 rfl (fun h27 => ?_) (fun h27 => ?_)
        · refine j_aload_n (pc := 47) dX7_finish_47 rfl ?_
          refine j_getR (pc := 48) dX7_finish_48 f_X7_33 (by first | rfl | with_reducible assumption) (by rfl) ?_
          refine j_aload_n (pc := 51) dX7_finish_51 rfl ?_
          refine j_getR (pc := 52) dX7_finish_52 f_X7_67 (by first | rfl | with_reducible assumption) (by rfl) ?_
          refine j_getI (pc := 55) dX7_finish_55 f_X7_191 (by first | rfl | with_reducible assumption) (by rfl) ?_
          refine j_top hTr.1 ?_
          have hv : vp_in kk 150 := q1.resolve_left h27
          obtain ⟨kn, hkn, rfl⟩ := vp_in_of hv (by decide)
          refine j_iload_n (pc := 58) dX7_finish_58 rfl ?_
          refine j_callVNi (pc := 59) dX7_finish_59 k_X7_207 (c_X3_eventToFinish isN_net pl hkn hG.2.2.1 hG.1 hG.2.2.2.2.1) (by first | rfl | with_reducible assumption) rfl rfl (by decide) rfl (Nat.le_of_ble_eq_true rfl) (fun r σ1 hp => ?_)
          obtain ⟨rfl, rfl⟩ := hp
          refine j_iret (pc := 62) dX7_finish_62 ?_
          refine ⟨rfl, Or.inr ⟨hO, k, hk.2.1, ?_⟩⟩
          dsimp only
          unfold q_finish
          rw [if_pos (q1.imp_right inR_iff.mpr), if_pos (huc0.mp q15), ← hway]
          unfold q_way
          first
            | (rw [if_pos h27]; done)
            | (rw [if_neg h27, nI_clamp (by omega)]; done)
        · refine j_aload_n (pc := 30) dX7_finish_30 rfl ?_
          refine j_getR (pc := 31) dX7_finish_31 f_X7_33 (by first | rfl | with_reducible assumption) (by rfl) ?_
          refine j_aload_n (pc := 34) dX7_finish_34 rfl ?_
          refine j_getR (pc := 35) dX7_finish_35 f_X7_67 (by first | rfl | with_reducible assumption) (by rfl) ?_
          refine j_getI (pc := 38) dX7_finish_38 f_X7_191 (by first | rfl | with_reducible assumption) (by rfl) ?_
          refine j_top hTr.1 ?_
          refine j_callVNi (pc := 41) dX7_finish_41 k_X7_204 (c_farOf' isN_net pl hG.2.2.1 hG.1) (by first | rfl | with_reducible assumption) rfl rfl (by decide) rfl (Nat.le_of_ble_eq_true rfl) (fun r σ1 hp => ?_)
          obtain ⟨rfl, rfl⟩ := hp
          refine j_goto (pc := 44) (tgt := 62) dX7_finish_44 rfl ?_
          refine j_iret (pc := 62) dX7_finish_62 ?_
          refine ⟨rfl, Or.inr ⟨hO, k, hk.2.1, ?_⟩⟩
          dsimp only
          unfold q_finish
          rw [if_pos (q1.imp_right inR_iff.mpr), if_pos (huc0.mp q15), ← hway]
          unfold q_way
          first
            | (rw [if_pos h27]; done)
            | (rw [if_neg h27, nI_clamp (by omega)]; done)
      · rw [show (0 : Int32) = nI 0 from rfl, fo_nI (by decide) (by decide)] at q15
        refine j_if_ne (pc := 18) (tgt := 24) dX7_finish_18 rfl (fun h => absurd h (by decide)) (fun _ => ?_)
        refine j_bipush (pc := 21) dX7_finish_21 (v := (-3)) (by decide) ?_
        refine j_iret (pc := 23) dX7_finish_23 ?_
        refine ⟨rfl, Or.inr ⟨hO, k, hk.2.1, ?_⟩⟩
        show _ = q_finish (TA N K M) (allS N) fs k pl kk
        unfold q_finish
        rw [if_pos (q1.imp_right inR_iff.mpr), if_neg (fun z => q15 (huc0.mpr z))]
    · refine j_if_ne (pc := 4) (tgt := 10) dX7_finish_4 rfl (fun h => absurd h (by decide)) (fun _ => ?_)
      refine j_bipush (pc := 7) dX7_finish_7 (v := (-2)) (by decide) ?_
      refine j_iret (pc := 9) dX7_finish_9 ?_
      exact ⟨rfl, Or.inr ⟨hO, k, hk.2.1, (if_neg (fun z => q1 (z.imp_right inR_iff.mp))).symm⟩⟩
/-- a JOINT that is not UNDER CONTROL: no WORD -/
theorem c_X0_eventTo0 {σ : Mm} (n : Int32) {k : Nat} (hn : fo 150 (σ 53) n = -9) (hk : k < 150) : EV Γ1 2 yX0_eventTo cX0_eventTo 5 (some .int) [.inr 52, .inl n, .inl (nI k)] σ (vz (-9) σ) := by
  have h9 : (-9 : Int32).toInt = -9 := rfl
  have hk1 : (nI (k + 1)).toInt = k + 1 := nI_toInt (by omega)
  refine EV.intro (by decide +kernel) (Nat.le_of_ble_eq_true rfl) ?_
  refine j_iload_n (pc := 0) dX0_eventTo_0 rfl ?_
  refine j_istore_n (pc := 1) dX0_eventTo_1 (by decide) ?_
  refine j_iconst (pc := 2) dX0_eventTo_2 (v := 0) (by decide) ?_
  refine j_istore (pc := 3) dX0_eventTo_3 (by decide) ?_
  refine j_iload (pc := 5) dX0_eventTo_5 rfl ?_
  refine j_sipush (pc := 7) dX0_eventTo_7 (v := 150) (by decide) ?_
  refine j_icmp_ge (pc := 10) (tgt := 40) dX0_eventTo_10 rfl (fun h10 => absurd h10 (by decide)) (fun h10 => ?_)
  refine j_aload_n (pc := 13) dX0_eventTo_13 rfl ?_
  refine j_iload_n (pc := 14) dX0_eventTo_14 rfl ?_
  refine j_callVi (pc := 15) dX0_eventTo_15 k_X0_79 (c_X0_depthOf _ _) (by first | rfl | with_reducible assumption) rfl rfl (by decide) rfl (Nat.le_of_ble_eq_true rfl) (fun r σ1 hp => ?_)
  obtain ⟨rfl, rfl⟩ := hp
  refine j_top hn ?_
  refine j_iload_n (pc := 18) dX0_eventTo_18 rfl ?_
  refine j_iconst (pc := 19) dX0_eventTo_19 (v := 1) (by decide) ?_
  refine j_iadd (pc := 20) dX0_eventTo_20 ?_
  rw [nI_1]
  refine j_icmp_le (pc := 21) (tgt := 40) dX0_eventTo_21 rfl (fun h21 => ?_) (fun h21 => ?_)
  · refine j_aload_n (pc := 40) dX0_eventTo_40 rfl ?_
    refine j_iload_n (pc := 41) dX0_eventTo_41 rfl ?_
    refine j_callVi (pc := 42) dX0_eventTo_42 k_X0_79 (c_X0_depthOf _ _) (by first | rfl | with_reducible assumption) rfl rfl (by decide) rfl (Nat.le_of_ble_eq_true rfl) (fun r σ1 hp => ?_)
    obtain ⟨rfl, rfl⟩ := hp
    refine j_top hn ?_
    refine j_iload_n (pc := 45) dX0_eventTo_45 rfl ?_
    refine j_iconst (pc := 46) dX0_eventTo_46 (v := 1) (by decide) ?_
    refine j_iadd (pc := 47) dX0_eventTo_47 ?_
    rw [nI_1]
    refine j_icmp_ne (pc := 48) (tgt := 63) dX0_eventTo_48 rfl (fun h48 => ?_) (fun h48 => ?_)
    · refine j_bipush (pc := 63) dX0_eventTo_63 (v := (-9)) (by decide) ?_
      refine j_iret (pc := 65) dX0_eventTo_65 ?_
      exact ⟨rfl, rfl⟩
    · exact absurd h48.symm (nI_z (by omega))
      skip
  · exact absurd (show (-9 : Int32) ≤ nI (k + 1) by rw [Int32.le_iff_toInt_le, h9, hk1]; omega) h21
    skip
/-- the queue's way is the first of the shortest -/
theorem word_way {J Q : Nat} {tg Dp Ed Qu : Nat → Int32} {kp uc : Nat → Bool} {u d pa ev : Nat → Nat} (h : CI J tg kp Dp Ed Qu Q u d pa ev) (hX : CX tg kp Q u pa ev (8 * Q)) (hJ : J ≤ 150) (huc : ∀ n, n < J → (uc n = true ↔ ∃ i, i < Q ∧ u i = n)) {i : Nat} (hi : i < Q) {F : Nat → Int32} (hF : ∀ n, n < J → isFar J tg (fun m => decide (m = u i)) uc n (F n)) :
    q_way J F tg 0 (-9) = nI (d i) ∧ ∀ k, k < 150 → q_way J F tg 0 (nI k) = if k < d i then nI (ev (upP pa (d i - (k + 1)) i)) else -9 := by
  obtain ⟨f1, f2⟩ := h.first hX hJ huc hi hF
  have hup := h.up hi
  obtain ⟨a1, a2, a3, a4, a5, a6, a7, a8, a9⟩ := h
  have hQJ : Q ≤ J := by rw [← a4]; exact cnt_le _ _
  have hdi := (a5 i hi).2.2.2.2
  have top : upP pa (d i) i = 0 := by
    obtain ⟨b1, b2⟩ := hup (d i) (Nat.le_refl _)
    apply Classical.byContradiction
    intro z
    obtain ⟨-, -, -, c, -⟩ := a6 (upP pa (d i) i) (by omega) (by omega)
    omega
  have hu : ∀ s, s ≤ d i → u (upP pa s i) < J := fun s hs => (a5 _ (by have := (hup s hs).1; omega)).1
  have nrs : ∀ s, s < d i → nr J F tg (nI (u (upP pa (s + 1) i))) = nI (ev (upP pa s i)) := by
    intro s hs
    unfold nr
    have h1 := hu (s + 1) (by omega)
    rw [fo_nI h1 (by omega), f1 (s + 1) (by omega), nI_clamp (by omega), if_pos (show (0 : Int32) < nI (s + 1) from (nI_ltI (a := 0) (by decide) (by omega)).mpr (by omega)), ← f2 s hs]
    refine lst_cong (fun e he => ?_)
    rw [Bool.eq_iff_iff, ndB_iff hJ, decide_eq_true_iff, show nI (s + 1) - 1 = nI s from nI_pred s]
    constructor
    · intro q
      unfold fo at q
      by_cases z : inR J (tg (8 * u (upP pa (s + 1) i) + e)) = true
      · obtain ⟨m, hm, hme⟩ := vp_in_of (inR_iff.mp z) (by omega)
        rw [if_pos z, hme, nI_clamp (by omega)] at q
        refine ⟨m, hm, hme, ?_, q⟩
        rcases hF m hm with ⟨k', -, -, c, -⟩ | ⟨c, -⟩
        · exact c.lt.2
        · rw [q] at c; exact absurd c (nI_z (by omega))
      · rw [if_neg z] at q
        exact absurd q.symm (nI_z (by omega))
    · rintro ⟨m, hm, hme, -, q⟩
      rw [hme, fo_nI hm (by omega)]
      exact q
  have path : ∀ k, k ≤ d i → itr (stpN J F tg) k 0 = nI (u (upP pa (d i - k) i)) := by
    intro k
    induction k with
    | zero => intro _; rw [Nat.sub_zero, top, a2]; rfl
    | succ k ih =>
      intro hk
      show stpN J F tg (itr (stpN J F tg) k 0) = _
      rw [ih (by omega)]
      unfold stpN
      have e1 : d i - k = d i - (k + 1) + 1 := by omega
      rw [e1, nrs (d i - (k + 1)) (by omega)]
      obtain ⟨b1, b2⟩ := hup (d i - (k + 1)) (by omega)
      have hc0 : 0 < upP pa (d i - (k + 1)) i := by
        apply Classical.byContradiction
        intro z
        have z0 : upP pa (d i - (k + 1)) i = 0 := by omega
        rw [z0, a3] at b2
        omega
      obtain ⟨c1, c2, c3, c4, c5⟩ := a6 _ hc0 (by omega)
      have h1 := hu (d i - (k + 1) + 1) (by omega)
      unfold tgo
      rw [if_pos ⟨inR_nI h1 (by omega), inR_nI c2 (by decide)⟩, nI_clamp (by omega), nI_clamp (by omega)]
      exact c3
  have last : nr J F tg (nI (u i)) = -9 := by
    have := f1 0 (Nat.zero_le _)
    have h1 : u i < J := (a5 i hi).1
    unfold nr
    rw [fo_nI h1 (by omega), show F (u i) = nI 0 from this]
    exact if_neg (by decide)
  have after : ∀ k, itr (stpN J F tg) (d i + 1 + k) 0 = -9 := by
    intro k
    induction k with
    | zero =>
      show stpN J F tg (itr (stpN J F tg) (d i) 0) = -9
      rw [path (d i) (Nat.le_refl _), Nat.sub_self]
      unfold stpN
      rw [show nI (u (upP pa 0 i)) = nI (u i) from rfl, last]
      unfold tgo
      exact if_neg (fun z => by rw [inR_9] at z; exact absurd z.2 (by decide))
    | succ k ih =>
      show stpN J F tg (itr (stpN J F tg) (d i + 1 + k) 0) = -9
      rw [ih]
      unfold stpN tgo
      exact if_neg (fun z => by rw [inR_9] at z; exact absurd z.1 (by decide))
  refine ⟨?_, fun k hk => ?_⟩
  · unfold q_way
    rw [if_pos rfl]
    have := f1 (d i) (Nat.le_refl _)
    rw [top, a2] at this
    have hJ0 : 0 < J := by have := (a5 i hi).1; omega
    rw [show (0 : Int32) = nI 0 from rfl, fo_nI hJ0 (by omega)]
    exact this
  · unfold q_way
    rw [if_neg (nI_z (by omega)), nI_clamp (by omega)]
    by_cases z : k < d i
    · rw [if_pos z, path k (by omega), show d i - k = d i - (k + 1) + 1 by omega, nrs _ (by omega)]
    · rw [if_neg z]
      by_cases y : k = d i
      · subst y
        rw [path (d i) (Nat.le_refl _), Nat.sub_self]
        exact last
      · have := after (k - (d i + 1))
        rw [show d i + 1 + (k - (d i + 1)) = k by omega] at this
        rw [this]
        exact nr_out (by rw [inR_9]; decide)
theorem c_X7_word3 {J i : Nat} {kk : Int32} {P : Nat → Int32 → Prop} {g : Nat → Bool} {y : Nat → Int32} (ans : ∀ r (i : Nat), i < J → (kk = -9 ∨ vp_in kk 150) → r = (if g i = true then y i else -9) → (σ = σ ∧ P i r)) (hJ : J ≤ 150) (h53 : σ 53 i = -9) (hi : i < J) (hv : kk = -9 ∨ vp_in kk 150) (hu : ¬ g i = true) : AJ Γ1 3 RX7 cX7_word 3 (some .int) (fun r σ' => σ = σ' ∧ P i r) 23 [some (.inr 0), some (.inl (nI i)), some (.inl kk)] [] σ := by
  have hfo : fo 150 (σ 53) (nI i) = -9 := by rw [fo_nI (by omega) (by decide)]; exact h53
  refine j_iload_n (pc := 23) dX7_word_23 rfl ?_
  refine j_bipush (pc := 24) dX7_word_24 (v := (-9)) (by decide) ?_
  refine j_icmp_ne (pc := 26) (tgt := 40) dX7_word_26 rfl (fun h26 => ?_) (fun h26 => ?_)
  · obtain ⟨kn, hkn, rfl⟩ := vp_in_of (hv.resolve_left h26) (by decide)
    refine j_aload_n (pc := 40) dX7_word_40 rfl ?_
    refine j_getR (pc := 41) dX7_word_41 f_X7_60 (by first | rfl | with_reducible assumption) (by rfl) ?_
    refine j_iload_n (pc := 44) dX7_word_44 rfl ?_
    refine j_iload_n (pc := 45) dX7_word_45 rfl ?_
    refine j_callVNi (pc := 46) dX7_word_46 k_X7_213 (c_X0_eventTo0 _ hfo hkn) (by first | rfl | with_reducible assumption) rfl rfl (by decide) rfl (Nat.le_of_ble_eq_true rfl) (fun r σ1 hp => ?_)
    obtain ⟨rfl, rfl⟩ := hp
    refine j_iret (pc := 49) dX7_word_49 ?_
    refine ans _ i hi hv ?_
    first | exact (if_neg hu).symm | exact hfo.trans (if_neg hu).symm
  · refine j_aload_n (pc := 29) dX7_word_29 rfl ?_
    refine j_getR (pc := 30) dX7_word_30 f_X7_60 (by first | rfl | with_reducible assumption) (by rfl) ?_
    refine j_iload_n (pc := 33) dX7_word_33 rfl ?_
    refine j_callVNi (pc := 34) dX7_word_34 k_X7_210 (c_X0_depthOf _ _) (by first | rfl | with_reducible assumption) rfl rfl (by decide) rfl (Nat.le_of_ble_eq_true rfl) (fun r σ1 hp => ?_)
    obtain ⟨rfl, rfl⟩ := hp
    refine j_goto (pc := 37) (tgt := 49) dX7_word_37 rfl ?_
    refine j_iret (pc := 49) dX7_word_49 ?_
    refine ans _ i hi hv ?_
    first | exact (if_neg hu).symm | exact hfo.trans (if_neg hu).symm
theorem c_X7_word2 {J Q i : Nat} {kk : Int32} {P : Nat → Int32 → Prop} {g kp : Nat → Bool} {tg : Nat → Int32} {u d pa ev : Nat → Nat} (ans : ∀ r (i : Nat), i < J → (kk = -9 ∨ vp_in kk 150) → r = (if g i = true then q_way J (farW J tg (fun m => decide (m = i)) g) tg 0 kk else -9) → (σ = σ ∧ P i r)) (hJ : J ≤ 150) (hI : CI J tg kp (σ 53) (σ 54) (σ 56) Q u d pa ev) (hX : CX tg kp Q u pa ev (8 * Q)) (huc : ∀ n, n < J → (σ 53 n ≠ -9 ↔ g n = true)) (hi : i < J) (hv : kk = -9 ∨ vp_in kk 150) (hu : g i = true) : AJ Γ1 3 RX7 cX7_word 3 (some .int) (fun r σ' => σ = σ' ∧ P i r) 23 [some (.inr 0), some (.inl (nI i)), some (.inl kk)] [] σ := by
  have hQJ : Q ≤ J := by rw [← hI.2.2.2.1]; exact cnt_le _ _
  have huc' : ∀ n, n < J → (g n = true ↔ ∃ i, i < Q ∧ u i = n) := fun n hn => by
    rw [← huc n hn]
    constructor
    · intro z
      rcases hI.2.2.2.2.2.2.2.1 n hn with y | y
      · exact absurd y z
      · exact y
    · rintro ⟨j, hj, rfl⟩
      have a := hI.2.2.2.2.1 j hj
      rw [a.2.2.2.1]
      exact nI_z (by omega)
  obtain ⟨j, hj, rfl⟩ := (huc' i hi).mp hu
  obtain ⟨w1, w2⟩ := word_way hI hX hJ huc' hj (F := farW J tg (fun m => decide (m = u j)) g) (fun n _ => farW_is hJ n)
  refine j_iload_n (pc := 23) dX7_word_23 rfl ?_
  refine j_bipush (pc := 24) dX7_word_24 (v := (-9)) (by decide) ?_
  refine j_icmp_ne (pc := 26) (tgt := 40) dX7_word_26 rfl (fun h26 => ?_) (fun h26 => ?_)
  · obtain ⟨kn, hkn, rfl⟩ := vp_in_of (hv.resolve_left h26) (by decide)
    refine j_aload_n (pc := 40) dX7_word_40 rfl ?_
    refine j_getR (pc := 41) dX7_word_41 f_X7_60 (by first | rfl | with_reducible assumption) (by rfl) ?_
    refine j_iload_n (pc := 44) dX7_word_44 rfl ?_
    refine j_iload_n (pc := 45) dX7_word_45 rfl ?_
    refine j_callVNi (pc := 46) dX7_word_46 k_X7_213 (c_X0_eventTo hI hJ hj hkn) (by first | rfl | with_reducible assumption) rfl rfl (by decide) rfl (Nat.le_of_ble_eq_true rfl) (fun r σ1 hp => ?_)
    obtain ⟨rfl, rfl⟩ := hp
    refine j_iret (pc := 49) dX7_word_49 ?_
    refine ans _ (u j) hi hv ?_
    rw [if_pos hu]
    first
      | (rw [w2 kn hkn]; done)
      | (subst h26; rw [w1, fo_nI (by omega) (by decide)]; exact (hI.2.2.2.2.1 j hj).2.2.2.1)
  · refine j_aload_n (pc := 29) dX7_word_29 rfl ?_
    refine j_getR (pc := 30) dX7_word_30 f_X7_60 (by first | rfl | with_reducible assumption) (by rfl) ?_
    refine j_iload_n (pc := 33) dX7_word_33 rfl ?_
    refine j_callVNi (pc := 34) dX7_word_34 k_X7_210 (c_X0_depthOf _ _) (by first | rfl | with_reducible assumption) rfl rfl (by decide) rfl (Nat.le_of_ble_eq_true rfl) (fun r σ1 hp => ?_)
    obtain ⟨rfl, rfl⟩ := hp
    refine j_goto (pc := 37) (tgt := 49) dX7_word_37 rfl ?_
    refine j_iret (pc := 49) dX7_word_49 ?_
    refine ans _ (u j) hi hv ?_
    rw [if_pos hu]
    first
      | (rw [w2 kn hkn]; done)
      | (subst h26; rw [w1, fo_nI (by omega) (by decide)]; exact (hI.2.2.2.2.1 j hj).2.2.2.1)
theorem c_X7_word (n kk : Int32) (q : R1 σ n0 t N K M fs h pl) : EV Γ1 3 yX7_word cX7_word 3 (some .int) [.inr 0, .inl n, .inl kk] σ (fun r σ' => σ = σ' ∧ Ans (TA N K M) (allS N) fs (-1) (fun k => q_word (TA N K M) (allS N) fs k n kk) r) := by
  obtain ⟨hb, hfs, hD, hP, h45, hTr⟩ := q
  refine EV.intro (by decide +kernel) (Nat.le_of_ble_eq_true rfl) ?_
  rcases hD with ⟨hO, s13, s14, -⟩ | ⟨hO, hG, k, hk⟩
  · refine j_aload_n (pc := 0) dX7_word_0 rfl ?_
    refine j_getR (pc := 1) dX7_word_1 f_X7_33 (by first | rfl | with_reducible assumption) (by rfl) ?_
    refine j_iload_n (pc := 4) dX7_word_4 rfl ?_
    refine j_callVNi (pc := 5) dX7_word_5 k_X7_129 (c_X3_has isN_net n (J := 0) s13 (by decide)) (by first | rfl | with_reducible assumption) rfl rfl (by decide) rfl (Nat.le_of_ble_eq_true rfl) (fun r σ1 hp => ?_)
    obtain ⟨rfl, hp⟩ := hp
    rcases hp with ⟨q5, rfl⟩ | ⟨q5, rfl⟩
    · exact absurd q5 (by rw [vp_in_iff]; omega)
      skip
    · refine j_if_ne (pc := 8) (tgt := 13) dX7_word_8 rfl (fun h => absurd h (by decide)) (fun _ => ?_)
      refine j_iconst (pc := 11) dX7_word_11 (v := (-1)) (by decide) ?_
      refine j_iret (pc := 12) dX7_word_12 ?_
      exact ⟨rfl, Or.inl ⟨hO, rfl⟩⟩
  · have hJ := hG.1
    have hg0 := g_pos (TA N K M) (allS N)
    have ans : ∀ r (i : Nat), i < gJ (TA N K M) (allS N) → (kk = -9 ∨ vp_in kk 150) → r = (if gU (TA N K M) (allS N) fs k i = true then q_way (gJ (TA N K M) (allS N)) (farW (gJ (TA N K M) (allS N)) (toX (TA N K M) (allS N)) (fun m => decide (m = i)) (gU (TA N K M) (allS N) fs k)) (toX (TA N K M) (allS N)) 0 kk else -9) → (σ = σ ∧ Ans (TA N K M) (allS N) fs (-1) (fun k => q_word (TA N K M) (allS N) fs k (nI i) kk) r) := fun r i hi hv hr => ⟨rfl, Or.inr ⟨hO, k, hk.2.1, by
      show r = q_word (TA N K M) (allS N) fs k (nI i) kk
      unfold q_word
      rw [if_pos (inR_nI hi (by omega)), if_pos (hv.imp_right inR_iff.mpr), nI_clamp (show i < 2 ^ 31 by omega)]
      exact hr⟩⟩
    have hctl := hk.2.2.2.2.2.2
    have hucn := fun n hn => hk.uc hJ (n := n) hn
    refine j_aload_n (pc := 0) dX7_word_0 rfl ?_
    refine j_getR (pc := 1) dX7_word_1 f_X7_33 (by first | rfl | with_reducible assumption) (by rfl) ?_
    refine j_iload_n (pc := 4) dX7_word_4 rfl ?_
    refine j_callVNi (pc := 5) dX7_word_5 k_X7_129 (c_X3_has isN_net n hG.2.2.1 hG.1) (by first | rfl | with_reducible assumption) rfl rfl (by decide) rfl (Nat.le_of_ble_eq_true rfl) (fun r σ1 hp => ?_)
    obtain ⟨rfl, hp⟩ := hp
    rcases hp with ⟨q5, rfl⟩ | ⟨q5, rfl⟩
    · refine j_if_ne (pc := 8) (tgt := 13) dX7_word_8 rfl (fun _ => ?_) (fun h => absurd h (by decide))
      refine j_iload_n (pc := 13) dX7_word_13 rfl ?_
      refine j_callSi (pc := 14) dX7_word_14 k_X7_201 (c_X7_isPlaceInWord _ _) rfl (by decide) rfl (Nat.le_of_ble_eq_true rfl) (fun r σ1 hp => ?_)
      obtain ⟨rfl, hp⟩ := hp
      rcases hp with ⟨q14, rfl⟩ | ⟨q14, rfl⟩
      · refine j_if_ne (pc := 17) (tgt := 23) dX7_word_17 rfl (fun _ => ?_) (fun h => absurd h (by decide))
        obtain ⟨i, hi, rfl⟩ := vp_in_of q5 (by omega)
        by_cases hu : gU (TA N K M) (allS N) fs k i = true
        · rcases hctl with ⟨h0, h1, -⟩ | ⟨h0, Q, u, d, pa, ev, h1, h2, -⟩
          · exact absurd (h1 i (by omega)) ((hucn i hi).mpr hu)
          · exact c_X7_word2 (P := fun i r => Ans (TA N K M) (allS N) fs (-1) (fun k => q_word (TA N K M) (allS N) fs k (nI i) kk) r) ans hJ h1 h2 hucn hi q14 hu
        · exact c_X7_word3 (P := fun i r => Ans (TA N K M) (allS N) fs (-1) (fun k => q_word (TA N K M) (allS N) fs k (nI i) kk) r) (y := fun i => q_way (gJ (TA N K M) (allS N)) (farW (gJ (TA N K M) (allS N)) (toX (TA N K M) (allS N)) (fun m => decide (m = i)) (gU (TA N K M) (allS N) fs k)) (toX (TA N K M) (allS N)) 0 kk) ans hJ (Classical.byContradiction (fun z => hu ((hucn i hi).mp z))) hi q14 hu
      · refine j_if_ne (pc := 17) (tgt := 23) dX7_word_17 rfl (fun h => absurd h (by decide)) (fun _ => ?_)
        refine j_bipush (pc := 20) dX7_word_20 (v := (-2)) (by decide) ?_
        refine j_iret (pc := 22) dX7_word_22 ?_
        refine ⟨rfl, Or.inr ⟨hO, k, hk.2.1, ?_⟩⟩
        show _ = q_word (TA N K M) (allS N) fs k n kk
        unfold q_word
        rw [if_pos (inR_iff.mpr q5)]
        exact (if_neg (fun z => q14 (z.imp_right inR_iff.mp))).symm
    · refine j_if_ne (pc := 8) (tgt := 13) dX7_word_8 rfl (fun h => absurd h (by decide)) (fun _ => ?_)
      refine j_iconst (pc := 11) dX7_word_11 (v := (-1)) (by decide) ?_
      refine j_iret (pc := 12) dX7_word_12 ?_
      exact ⟨rfl, Or.inr ⟨hO, k, hk.2.1, (if_neg (fun z => q5 (inR_iff.mp z))).symm⟩⟩
end Ask4
