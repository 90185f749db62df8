/-! LEASTBARSMODEL: nearer, tellWord, finish, word -/
section Way
variable {σ : Mm} {J : Nat} {tg : Nat → Int32} {fn U : Nat → Bool} {F : Nat → Int32}
/-- from a JOINT that is s + 1 far there is an EVENT to one that is s far; the least one -/
theorem near_ex (hJ : J ≤ 150) (hF : ∀ n, n < J → isFar J tg fn U n (F n)) {n s : Nat} (hn : n < J) (hs : s < 150) (h : F n = nI (s + 1)) : ∃ e m, e < 8 ∧ m < J ∧ tg (8 * n + e) = nI m ∧ F m = nI s ∧ nr J F tg (nI n) = nI e ∧ ∀ e', e' < e → fo J F (tg (8 * n + e')) ≠ nI s := by
  have hex : ∃ e m, e < 8 ∧ m < J ∧ tg (8 * n + e) = nI m ∧ F m = nI s := by
    rcases hF n hn with ⟨k, k1, k2, k3, k4⟩ | ⟨k1, -⟩
    · have hk : k = s + 1 := (nI_eq (by omega) (by omega)).mp (k2.symm.trans h)
      subst hk
      rcases k3 with z | ⟨a, b, e, m, c, d, q⟩
      · exact absurd z (k4 s (by omega))
      · refine ⟨e, m, c, q.lt.1, d, ?_⟩
        rcases hF m q.lt.1 with ⟨k', l1, l2, l3, l4⟩ | ⟨-, l2⟩
        · have h1 : ¬ s < k' := fun z => l4 s z q
          have h2 : ¬ k' < s := fun z => k4 (k' + 1) (by omega) (Or.inr ⟨a, b, e, m, c, d, l3⟩)
          rw [l2, show k' = s by omega]
        · exact absurd q (l2 s)
    · rw [h] at k1; exact absurd k1 (nI_z (by omega))
  have hnr : nr J F tg (nI n) = lstE (fun e => decide (fo J F (tg (8 * n + e)) = nI s)) := by
    unfold nr
    rw [fo_nI hn (by omega), h, if_pos (show (0 : Int32) < nI (s + 1) from (nI_ltI (a := 0) (by decide) (by omega)).mpr (by omega)), nI_clamp (by omega), show nI (s + 1) - 1 = nI s from nI_pred s]
  rcases lst_cases (fun e => decide (fo J F (tg (8 * n + e)) = nI s)) with ⟨e, a1, a2, a3, a4⟩ | ⟨b, -⟩
  · have a2' := of_decide_eq_true a2
    have hin : inR J (tg (8 * n + e)) = true := Classical.byContradiction (fun z => by
      rw [show fo J F (tg (8 * n + e)) = -9 from if_neg z] at a2'
      exact absurd a2'.symm (nI_z (by omega)))
    obtain ⟨m, hm, hme⟩ := vp_in_of (inR_iff.mp hin) (by omega)
    rw [hme, fo_nI hm (by omega)] at a2'
    exact ⟨e, m, a1, hm, hme, a2', hnr.trans a4, fun e' he' => of_decide_eq_false (a3 e' he')⟩
  · obtain ⟨e, m, c, hm, d, q⟩ := hex
    have := of_decide_eq_false (b e c)
    rw [d, fo_nI hm (by omega)] at this
    exact absurd q this
theorem far_U (hF : ∀ n, n < J → isFar J tg fn U n (F n)) {n : Nat} (hn : n < J) (h : F n ≠ -9) : U n = true := by
  rcases hF n hn with ⟨k, k1, k2, k3, k4⟩ | ⟨k1, -⟩
  · exact k3.lt.2
  · exact absurd k1 h
theorem c_X8_nearer (hJ : J ≤ 150) (ht : ∀ y, y < 8 * J → σ 9 y = tg y) (htr : ∀ y, y < 8 * J → tg y = -9 ∨ ∃ m, m < J ∧ tg y = nI m) (hU : ∀ m, m < J → σ 14 m = if U m = true then 1 else 0) (hF : ∀ n, n < J → isFar J tg fn U n (σ 16 n)) {n s e m : Nat} (hn : n < J) (hs : s < 150) (h : σ 16 n = nI (s + 1)) (he : e < 8) (hm : m < J) (hme : tg (8 * n + e) = nI m) (hms : σ 16 m = nI s) (hno : ∀ e', e' < e → fo J (σ 16) (tg (8 * n + e')) ≠ nI s) : EV Γ2 0 yX8_nearer cX8_nearer 3 (some .int) [.inr 0, .inl (nI n)] σ (vz (nI e) σ) := by
  have hcn : (nI n).toNatClampNeg = n := nI_clamp (by omega)
  have hvn : vp_in (nI n) 150 := vp_in_nI (by omega) (by decide)
  have loop : ∀ (r i : Nat), i + r = e → AJ Γ2 0 RX8 cX8_nearer 3 (some .int) (vz (nI e) σ) 2 [some (.inr 0), some (.inl (nI n)), some (.inl (nI i))] [] σ := by
    intro r
    induction r with
    | zero =>
      intro i hi
      obtain rfl : i = e := by omega
      have hx8 : (8 : Int32) * nI n + nI i = nI (8 * n + i) := by rw [show (8 : Int32) = nI 8 from rfl, pk_mul, nI_add]
      have hvx : vp_in (nI (8 * n + i)) 1200 := vp_in_nI (by omega) (by decide)
      have hto : σ 9 (nI (8 * n + i)).toNatClampNeg = nI m := by rw [nI_clamp (by omega), ht _ (by omega)]; exact hme
      have hcm : (nI m).toNatClampNeg = m := nI_clamp (by omega)
      have hvm : vp_in (nI m) 150 := vp_in_nI (by omega) (by decide)
      have hum : U m = true := far_U hF hm (by rw [hms]; exact nI_z (by omega))
      refine j_aload_n (pc := 2) dX8_nearer_2 rfl ?_
      refine j_getR (pc := 3) dX8_nearer_3 f_X8_34 (by first | rfl | with_reducible assumption) (by rfl) ?_
      refine j_bipush (pc := 6) dX8_nearer_6 (v := 8) (by decide) ?_
      refine j_iload_n (pc := 8) dX8_nearer_8 rfl ?_
      refine j_imul (pc := 9) dX8_nearer_9 ?_
      refine j_iload_n (pc := 10) dX8_nearer_10 rfl ?_
      refine j_iadd (pc := 11) dX8_nearer_11 ?_
      refine j_top hx8 ?_
      refine j_iald (pc := 12) dX8_nearer_12 (by first | rfl | with_reducible assumption) hvx ?_
      refine j_top hto ?_
      refine j_bipush (pc := 13) dX8_nearer_13 (v := (-9)) (by decide) ?_
      refine j_icmp_eq (pc := 15) (tgt := 64) dX8_nearer_15 rfl (fun h15 => absurd h15 (nI_z (by omega))) (fun h15 => ?_)
      refine j_aload_n (pc := 18) dX8_nearer_18 rfl ?_
      refine j_getR (pc := 19) dX8_nearer_19 f_X8_50 (by first | rfl | with_reducible assumption) (by rfl) ?_
      refine j_aload_n (pc := 22) dX8_nearer_22 rfl ?_
      refine j_getR (pc := 23) dX8_nearer_23 f_X8_34 (by first | rfl | with_reducible assumption) (by rfl) ?_
      refine j_bipush (pc := 26) dX8_nearer_26 (v := 8) (by decide) ?_
      refine j_iload_n (pc := 28) dX8_nearer_28 rfl ?_
      refine j_imul (pc := 29) dX8_nearer_29 ?_
      refine j_iload_n (pc := 30) dX8_nearer_30 rfl ?_
      refine j_iadd (pc := 31) dX8_nearer_31 ?_
      refine j_top hx8 ?_
      refine j_iald (pc := 32) dX8_nearer_32 (by first | rfl | with_reducible assumption) hvx ?_
      refine j_top hto ?_
      refine j_zald (pc := 33) dX8_nearer_33 (by first | rfl | with_reducible assumption) hvm ?_
      refine j_top (y := 1) (by rw [hcm, hU m hm, if_pos hum]) ?_
      refine j_if_eq (pc := 34) (tgt := 64) dX8_nearer_34 rfl (fun h34 => absurd h34 (by decide)) (fun h34 => ?_)
      refine j_aload_n (pc := 37) dX8_nearer_37 rfl ?_
      refine j_getR (pc := 38) dX8_nearer_38 f_X8_56 (by first | rfl | with_reducible assumption) (by rfl) ?_
      refine j_aload_n (pc := 41) dX8_nearer_41 rfl ?_
      refine j_getR (pc := 42) dX8_nearer_42 f_X8_34 (by first | rfl | with_reducible assumption) (by rfl) ?_
      refine j_bipush (pc := 45) dX8_nearer_45 (v := 8) (by decide) ?_
      refine j_iload_n (pc := 47) dX8_nearer_47 rfl ?_
      refine j_imul (pc := 48) dX8_nearer_48 ?_
      refine j_iload_n (pc := 49) dX8_nearer_49 rfl ?_
      refine j_iadd (pc := 50) dX8_nearer_50 ?_
      refine j_top hx8 ?_
      refine j_iald (pc := 51) dX8_nearer_51 (by first | rfl | with_reducible assumption) hvx ?_
      refine j_top hto ?_
      refine j_iald (pc := 52) dX8_nearer_52 (by first | rfl | with_reducible assumption) hvm ?_
      refine j_top (y := nI s) (by rw [hcm]; exact hms) ?_
      refine j_aload_n (pc := 53) dX8_nearer_53 rfl ?_
      refine j_getR (pc := 54) dX8_nearer_54 f_X8_56 (by first | rfl | with_reducible assumption) (by rfl) ?_
      refine j_iload_n (pc := 57) dX8_nearer_57 rfl ?_
      refine j_iald (pc := 58) dX8_nearer_58 (by first | rfl | with_reducible assumption) hvn ?_
      refine j_top (y := nI (s + 1)) (by rw [hcn]; exact h) ?_
      refine j_iconst (pc := 59) dX8_nearer_59 (v := 1) (by decide) ?_
      refine j_isub (pc := 60) dX8_nearer_60 ?_
      refine j_top (y := nI s) (nI_pred s) ?_
      refine j_icmp_eq (pc := 61) (tgt := 70) dX8_nearer_61 rfl (fun h61 => ?_) (fun h61 => absurd rfl h61)
      refine j_iload_n (pc := 70) dX8_nearer_70 rfl ?_
      refine j_iret (pc := 71) dX8_nearer_71 ?_
      exact ⟨rfl, rfl⟩
    | succ r ih =>
      intro i hi
      have hx8 : (8 : Int32) * nI n + nI i = nI (8 * n + i) := by rw [show (8 : Int32) = nI 8 from rfl, pk_mul, nI_add]
      have hvx : vp_in (nI (8 * n + i)) 1200 := vp_in_nI (by omega) (by decide)
      have hno' := hno i (by omega)
      have go := ih (i + 1) (by omega)
      rcases htr (8 * n + i) (by omega) with hz | ⟨m', hm', hz⟩
      · refine j_aload_n (pc := 2) dX8_nearer_2 rfl ?_
        refine j_getR (pc := 3) dX8_nearer_3 f_X8_34 (by first | rfl | with_reducible assumption) (by rfl) ?_
        refine j_bipush (pc := 6) dX8_nearer_6 (v := 8) (by decide) ?_
        refine j_iload_n (pc := 8) dX8_nearer_8 rfl ?_
        refine j_imul (pc := 9) dX8_nearer_9 ?_
        refine j_iload_n (pc := 10) dX8_nearer_10 rfl ?_
        refine j_iadd (pc := 11) dX8_nearer_11 ?_
        refine j_top hx8 ?_
        refine j_iald (pc := 12) dX8_nearer_12 (by first | rfl | with_reducible assumption) hvx ?_
        refine j_top (y := -9) (by rw [nI_clamp (by omega), ht _ (by omega)]; exact hz) ?_
        refine j_bipush (pc := 13) dX8_nearer_13 (v := (-9)) (by decide) ?_
        refine j_icmp_eq (pc := 15) (tgt := 64) dX8_nearer_15 rfl (fun h15 => ?_) (fun h15 => absurd rfl h15)
        refine j_iinc1 (pc := 64) dX8_nearer_64 rfl ?_
        refine j_goto (pc := 67) (tgt := 2) dX8_nearer_67 rfl ?_
        rw [nI_1]
        exact go
      · have hto : σ 9 (nI (8 * n + i)).toNatClampNeg = nI m' := by rw [nI_clamp (by omega), ht _ (by omega)]; exact hz
        have hcm : (nI m').toNatClampNeg = m' := nI_clamp (by omega)
        have hvm : vp_in (nI m') 150 := vp_in_nI (by omega) (by decide)
        rw [hz, fo_nI hm' (by omega)] at hno'
        refine j_aload_n (pc := 2) dX8_nearer_2 rfl ?_
        refine j_getR (pc := 3) dX8_nearer_3 f_X8_34 (by first | rfl | with_reducible assumption) (by rfl) ?_
        refine j_bipush (pc := 6) dX8_nearer_6 (v := 8) (by decide) ?_
        refine j_iload_n (pc := 8) dX8_nearer_8 rfl ?_
        refine j_imul (pc := 9) dX8_nearer_9 ?_
        refine j_iload_n (pc := 10) dX8_nearer_10 rfl ?_
        refine j_iadd (pc := 11) dX8_nearer_11 ?_
        refine j_top hx8 ?_
        refine j_iald (pc := 12) dX8_nearer_12 (by first | rfl | with_reducible assumption) hvx ?_
        refine j_top hto ?_
        refine j_bipush (pc := 13) dX8_nearer_13 (v := (-9)) (by decide) ?_
        refine j_icmp_eq (pc := 15) (tgt := 64) dX8_nearer_15 rfl (fun h15 => absurd h15 (nI_z (by omega))) (fun h15 => ?_)
        refine j_aload_n (pc := 18) dX8_nearer_18 rfl ?_
        refine j_getR (pc := 19) dX8_nearer_19 f_X8_50 (by first | rfl | with_reducible assumption) (by rfl) ?_
        refine j_aload_n (pc := 22) dX8_nearer_22 rfl ?_
        refine j_getR (pc := 23) dX8_nearer_23 f_X8_34 (by first | rfl | with_reducible assumption) (by rfl) ?_
        refine j_bipush (pc := 26) dX8_nearer_26 (v := 8) (by decide) ?_
        refine j_iload_n (pc := 28) dX8_nearer_28 rfl ?_
        refine j_imul (pc := 29) dX8_nearer_29 ?_
        refine j_iload_n (pc := 30) dX8_nearer_30 rfl ?_
        refine j_iadd (pc := 31) dX8_nearer_31 ?_
        refine j_top hx8 ?_
        refine j_iald (pc := 32) dX8_nearer_32 (by first | rfl | with_reducible assumption) hvx ?_
        refine j_top hto ?_
        refine j_zald (pc := 33) dX8_nearer_33 (by first | rfl | with_reducible assumption) hvm ?_
        refine j_if_eq (pc := 34) (tgt := 64) dX8_nearer_34 rfl (fun h34 => ?_) (fun h34 => ?_)
        · refine j_iinc1 (pc := 64) dX8_nearer_64 rfl ?_
          refine j_goto (pc := 67) (tgt := 2) dX8_nearer_67 rfl ?_
          rw [nI_1]
          exact go
        · refine j_aload_n (pc := 37) dX8_nearer_37 rfl ?_
          refine j_getR (pc := 38) dX8_nearer_38 f_X8_56 (by first | rfl | with_reducible assumption) (by rfl) ?_
          refine j_aload_n (pc := 41) dX8_nearer_41 rfl ?_
          refine j_getR (pc := 42) dX8_nearer_42 f_X8_34 (by first | rfl | with_reducible assumption) (by rfl) ?_
          refine j_bipush (pc := 45) dX8_nearer_45 (v := 8) (by decide) ?_
          refine j_iload_n (pc := 47) dX8_nearer_47 rfl ?_
          refine j_imul (pc := 48) dX8_nearer_48 ?_
          refine j_iload_n (pc := 49) dX8_nearer_49 rfl ?_
          refine j_iadd (pc := 50) dX8_nearer_50 ?_
          refine j_top hx8 ?_
          refine j_iald (pc := 51) dX8_nearer_51 (by first | rfl | with_reducible assumption) hvx ?_
          refine j_top hto ?_
          refine j_iald (pc := 52) dX8_nearer_52 (by first | rfl | with_reducible assumption) hvm ?_
          rw [hcm]
          refine j_aload_n (pc := 53) dX8_nearer_53 rfl ?_
          refine j_getR (pc := 54) dX8_nearer_54 f_X8_56 (by first | rfl | with_reducible assumption) (by rfl) ?_
          refine j_iload_n (pc := 57) dX8_nearer_57 rfl ?_
          refine j_iald (pc := 58) dX8_nearer_58 (by first | rfl | with_reducible assumption) hvn ?_
          refine j_top (y := nI (s + 1)) (by rw [hcn]; exact h) ?_
          refine j_iconst (pc := 59) dX8_nearer_59 (v := 1) (by decide) ?_
          refine j_isub (pc := 60) dX8_nearer_60 ?_
          refine j_top (y := nI s) (nI_pred s) ?_
          refine j_icmp_eq (pc := 61) (tgt := 70) dX8_nearer_61 rfl (fun h61 => absurd h61 hno') (fun h61 => ?_)
          refine j_iinc1 (pc := 64) dX8_nearer_64 rfl ?_
          refine j_goto (pc := 67) (tgt := 2) dX8_nearer_67 rfl ?_
          rw [nI_1]
          exact go
  refine EV.intro (by decide +kernel) (Nat.le_of_ble_eq_true rfl) ?_
  refine j_iconst (pc := 0) dX8_nearer_0 (v := 0) (by decide) ?_
  refine j_istore_n (pc := 1) dX8_nearer_1 (by decide) ?_
  exact loop e 0 (by omega)
theorem way_9 : ∀ k, itr (stpN J F tg) k (-9) = -9 := by
  intro k
  induction k with
  | zero => rfl
  | succ k ih =>
    show stpN J F tg (itr (stpN J F tg) k (-9)) = -9
    rw [ih]
    unfold stpN tgo
    exact if_neg (fun z => by rw [inR_9] at z; exact absurd z.1 (by decide))
theorem itr_add (f : Int32 → Int32) (a b : Nat) (v : Int32) : itr f (a + b) v = itr f b (itr f a v) := by
  induction b with
  | zero => rfl
  | succ b ih => show f (itr f (a + b) v) = f (itr f b (itr f a v)); rw [ih]
theorem nr_9 : nr J F tg (-9) = -9 := nr_out (by rw [inR_9]; decide)
/-- where one can't come nearer the way ends -/
theorem way_stop {n : Nat} (h : nr J F tg (nI n) = -9) : ∀ k, nr J F tg (itr (stpN J F tg) k (nI n)) = -9 := by
  intro k
  cases k with
  | zero => exact h
  | succ k =>
    rw [show k + 1 = 1 + k by omega, itr_add]
    have : itr (stpN J F tg) 1 (nI n) = -9 := by
      show stpN J F tg (nI n) = -9
      unfold stpN tgo
      rw [h]
      exact if_neg (fun z => by rw [inR_9] at z; exact absurd z.2 (by decide))
    rw [this, way_9]
    exact nr_9
theorem c_X8_tellWord {kk : Int32} (hJ : J ≤ 150) (ht : ∀ y, y < 8 * J → σ 9 y = tg y) (htr : ∀ y, y < 8 * J → tg y = -9 ∨ ∃ m, m < J ∧ tg y = nI m) (hU : ∀ m, m < J → σ 14 m = if U m = true then 1 else 0) (hF : ∀ n, n < J → isFar J tg fn U n (σ 16 n)) {n : Nat} (hn : n < J) (hk : kk = -9 ∨ vp_in kk 150) : EV Γ2 1 yX8_tellWord cX8_tellWord 5 (some .int) [.inr 0, .inl (nI n), .inl kk] σ (vz (q_way J (σ 16) tg (nI n) kk) σ) := by
  have hcn : (nI n).toNatClampNeg = n := nI_clamp (by omega)
  have hvn : vp_in (nI n) 150 := vp_in_nI (by omega) (by decide)
  refine EV.intro (by decide +kernel) (Nat.le_of_ble_eq_true rfl) ?_
  by_cases hk9 : kk = -9
  · subst hk9
    refine j_iload_n (pc := 0) dX8_tellWord_0 rfl ?_
    refine j_bipush (pc := 1) dX8_tellWord_1 (v := (-9)) (by decide) ?_
    refine j_icmp_eq (pc := 3) (tgt := 17) dX8_tellWord_3 rfl (fun h3 => ?_) (fun h3 => absurd rfl h3)
    refine j_aload_n (pc := 17) dX8_tellWord_17 rfl ?_
    refine j_getR (pc := 18) dX8_tellWord_18 f_X8_56 (by first | rfl | with_reducible assumption) (by rfl) ?_
    refine j_iload_n (pc := 21) dX8_tellWord_21 rfl ?_
    refine j_iald (pc := 22) dX8_tellWord_22 (by first | rfl | with_reducible assumption) hvn ?_
    refine j_iret (pc := 23) dX8_tellWord_23 ?_
    refine ⟨rfl, ?_⟩
    unfold q_way
    rw [if_pos rfl, fo_nI hn (by omega), hcn]
  · obtain ⟨kn, hkn, rfl⟩ := vp_in_of (hk.resolve_left hk9) (by decide)
    have hq : q_way J (σ 16) tg (nI n) (nI kn) = nr J (σ 16) tg (itr (stpN J (σ 16) tg) kn (nI n)) := by
      unfold q_way
      rw [if_neg hk9, nI_clamp (by omega)]
    rw [hq]
    rcases hF n hn with ⟨d, d1, d2, -⟩ | ⟨d1, -⟩
    · by_cases hkd : kn < d
      · have loop : ∀ (r i m : Nat), i + r = kn → m < J → σ 16 m = nI (d - i) → itr (stpN J (σ 16) tg) i (nI n) = nI m → AJ Γ2 1 RX8 cX8_tellWord 5 (some .int) (vz (nr J (σ 16) tg (itr (stpN J (σ 16) tg) kn (nI n))) σ) 42 [some (.inr 0), some (.inl (nI n)), some (.inl (nI kn)), some (.inl (nI m)), some (.inl (nI i))] [] σ := by
          intro r
          induction r with
          | zero =>
            intro i m hi hm hd hit
            obtain rfl : i = kn := by omega
            obtain ⟨e, m2, a1, a2, a3, a4, a5, a6⟩ := near_ex hJ hF hm (s := d - i - 1) (by omega) (by rw [hd]; congr 1; omega)
            rw [hit, a5]
            refine j_iload (pc := 42) dX8_tellWord_42 rfl ?_
            refine j_iload_n (pc := 44) dX8_tellWord_44 rfl ?_
            refine j_icmp_ge (pc := 45) (tgt := 70) dX8_tellWord_45 rfl (fun h45 => ?_) (fun h45 => absurd (Int32.le_refl _) h45)
            refine j_aload_n (pc := 70) dX8_tellWord_70 rfl ?_
            refine j_iload_n (pc := 71) dX8_tellWord_71 rfl ?_
            refine j_callVi (pc := 72) dX8_tellWord_72 k_X8_195 (c_X8_nearer hJ ht htr hU hF hm (s := d - i - 1) (by omega) (by rw [hd]; congr 1; omega) a1 a2 a3 a4 a6) (by first | rfl | with_reducible assumption) rfl rfl (by decide) rfl (Nat.le_of_ble_eq_true rfl) (fun r σ1 hp => ?_)
            obtain ⟨rfl, rfl⟩ := hp
            refine j_iret (pc := 75) dX8_tellWord_75 ?_
            exact ⟨rfl, rfl⟩
          | succ r ih =>
            intro i m hi hm hd hit
            obtain ⟨e, m2, a1, a2, a3, a4, a5, a6⟩ := near_ex hJ hF hm (s := d - i - 1) (by omega) (by rw [hd]; congr 1; omega)
            have hx8 : (8 : Int32) * nI m + nI e = nI (8 * m + e) := by rw [show (8 : Int32) = nI 8 from rfl, pk_mul, nI_add]
            have hit2 : itr (stpN J (σ 16) tg) (i + 1) (nI n) = nI m2 := by
              show stpN J (σ 16) tg (itr (stpN J (σ 16) tg) i (nI n)) = nI m2
              rw [hit]
              unfold stpN tgo
              rw [a5, if_pos ⟨inR_nI hm (by omega), inR_nI a1 (by decide)⟩, nI_clamp (by omega), nI_clamp (by omega)]
              exact a3
            refine j_iload (pc := 42) dX8_tellWord_42 rfl ?_
            refine j_iload_n (pc := 44) dX8_tellWord_44 rfl ?_
            refine j_icmp_ge (pc := 45) (tgt := 70) dX8_tellWord_45 rfl (fun h45 => absurd h45 (nI_ge (by omega) (by omega))) (fun h45 => ?_)
            refine j_aload_n (pc := 48) dX8_tellWord_48 rfl ?_
            refine j_getR (pc := 49) dX8_tellWord_49 f_X8_34 (by first | rfl | with_reducible assumption) (by rfl) ?_
            refine j_bipush (pc := 52) dX8_tellWord_52 (v := 8) (by decide) ?_
            refine j_iload_n (pc := 54) dX8_tellWord_54 rfl ?_
            refine j_imul (pc := 55) dX8_tellWord_55 ?_
            refine j_aload_n (pc := 56) dX8_tellWord_56 rfl ?_
            refine j_iload_n (pc := 57) dX8_tellWord_57 rfl ?_
            refine j_callVi (pc := 58) dX8_tellWord_58 k_X8_195 (c_X8_nearer hJ ht htr hU hF hm (s := d - i - 1) (by omega) (by rw [hd]; congr 1; omega) a1 a2 a3 a4 a6) (by first | rfl | with_reducible assumption) rfl rfl (by decide) rfl (Nat.le_of_ble_eq_true rfl) (fun r σ1 hp => ?_)
            obtain ⟨rfl, rfl⟩ := hp
            refine j_iadd (pc := 61) dX8_tellWord_61 ?_
            refine j_top hx8 ?_
            refine j_iald (pc := 62) dX8_tellWord_62 (by first | rfl | with_reducible assumption) (vp_in_nI (by omega) (by decide)) ?_
            refine j_top (y := nI m2) (by rw [nI_clamp (by omega), ht _ (by omega)]; exact a3) ?_
            refine j_istore_n (pc := 63) dX8_tellWord_63 (by decide) ?_
            refine j_iinc1 (pc := 64) dX8_tellWord_64 rfl ?_
            refine j_goto (pc := 67) (tgt := 42) dX8_tellWord_67 rfl ?_
            rw [nI_1]
            exact ih (i + 1) m2 (by omega) a2 (by rw [a4]; congr 1) hit2
        refine j_iload_n (pc := 0) dX8_tellWord_0 rfl ?_
        refine j_bipush (pc := 1) dX8_tellWord_1 (v := (-9)) (by decide) ?_
        refine j_icmp_eq (pc := 3) (tgt := 17) dX8_tellWord_3 rfl (fun h3 => absurd h3 hk9) (fun h3 => ?_)
        refine j_aload_n (pc := 6) dX8_tellWord_6 rfl ?_
        refine j_getR (pc := 7) dX8_tellWord_7 f_X8_56 (by first | rfl | with_reducible assumption) (by rfl) ?_
        refine j_iload_n (pc := 10) dX8_tellWord_10 rfl ?_
        refine j_iald (pc := 11) dX8_tellWord_11 (by first | rfl | with_reducible assumption) hvn ?_
        refine j_top (y := nI d) (by rw [hcn]; exact d2) ?_
        refine j_bipush (pc := 12) dX8_tellWord_12 (v := (-9)) (by decide) ?_
        refine j_icmp_ne (pc := 14) (tgt := 24) dX8_tellWord_14 rfl (fun h14 => ?_) (fun h14 => absurd h14 (nI_z (by omega)))
        refine j_iload_n (pc := 24) dX8_tellWord_24 rfl ?_
        refine j_aload_n (pc := 25) dX8_tellWord_25 rfl ?_
        refine j_getR (pc := 26) dX8_tellWord_26 f_X8_56 (by first | rfl | with_reducible assumption) (by rfl) ?_
        refine j_iload_n (pc := 29) dX8_tellWord_29 rfl ?_
        refine j_iald (pc := 30) dX8_tellWord_30 (by first | rfl | with_reducible assumption) hvn ?_
        refine j_top (y := nI d) (by rw [hcn]; exact d2) ?_
        refine j_icmp_lt (pc := 31) (tgt := 37) dX8_tellWord_31 rfl (fun h31 => ?_) (fun h31 => absurd ((nI_ltI (by omega) (by omega)).mpr hkd) h31)
        refine j_iload_n (pc := 37) dX8_tellWord_37 rfl ?_
        refine j_istore_n (pc := 38) dX8_tellWord_38 (by decide) ?_
        refine j_iconst (pc := 39) dX8_tellWord_39 (v := 0) (by decide) ?_
        refine j_istore (pc := 40) dX8_tellWord_40 (by decide) ?_
        exact loop kn 0 n (by omega) hn d2 rfl
      · have hend : nr J (σ 16) tg (itr (stpN J (σ 16) tg) kn (nI n)) = -9 := by
          have path : ∀ i, i ≤ d → ∃ m, m < J ∧ σ 16 m = nI (d - i) ∧ itr (stpN J (σ 16) tg) i (nI n) = nI m := by
            intro i
            induction i with
            | zero => intro _; exact ⟨n, hn, d2, rfl⟩
            | succ i ih =>
              intro hi
              obtain ⟨m, hm, hd, hit⟩ := ih (by omega)
              obtain ⟨e, m2, a1, a2, a3, a4, a5, a6⟩ := near_ex hJ hF hm (s := d - i - 1) (by omega) (by rw [hd]; congr 1; omega)
              refine ⟨m2, a2, by rw [a4]; congr 1, ?_⟩
              show stpN J (σ 16) tg (itr (stpN J (σ 16) tg) i (nI n)) = nI m2
              rw [hit]
              unfold stpN tgo
              rw [a5, if_pos ⟨inR_nI hm (by omega), inR_nI a1 (by decide)⟩, nI_clamp (by omega), nI_clamp (by omega)]
              exact a3
          obtain ⟨m, hm, hd, hit⟩ := path d (Nat.le_refl _)
          rw [show kn = d + (kn - d) by omega, itr_add, hit]
          refine way_stop ?_ _
          unfold nr
          rw [fo_nI hm (by omega), hd, Nat.sub_self]
          exact if_neg (by decide)
        rw [hend]
        refine j_iload_n (pc := 0) dX8_tellWord_0 rfl ?_
        refine j_bipush (pc := 1) dX8_tellWord_1 (v := (-9)) (by decide) ?_
        refine j_icmp_eq (pc := 3) (tgt := 17) dX8_tellWord_3 rfl (fun h3 => absurd h3 hk9) (fun h3 => ?_)
        refine j_aload_n (pc := 6) dX8_tellWord_6 rfl ?_
        refine j_getR (pc := 7) dX8_tellWord_7 f_X8_56 (by first | rfl | with_reducible assumption) (by rfl) ?_
        refine j_iload_n (pc := 10) dX8_tellWord_10 rfl ?_
        refine j_iald (pc := 11) dX8_tellWord_11 (by first | rfl | with_reducible assumption) hvn ?_
        refine j_top (y := nI d) (by rw [hcn]; exact d2) ?_
        refine j_bipush (pc := 12) dX8_tellWord_12 (v := (-9)) (by decide) ?_
        refine j_icmp_ne (pc := 14) (tgt := 24) dX8_tellWord_14 rfl (fun h14 => ?_) (fun h14 => absurd h14 (nI_z (by omega)))
        refine j_iload_n (pc := 24) dX8_tellWord_24 rfl ?_
        refine j_aload_n (pc := 25) dX8_tellWord_25 rfl ?_
        refine j_getR (pc := 26) dX8_tellWord_26 f_X8_56 (by first | rfl | with_reducible assumption) (by rfl) ?_
        refine j_iload_n (pc := 29) dX8_tellWord_29 rfl ?_
        refine j_iald (pc := 30) dX8_tellWord_30 (by first | rfl | with_reducible assumption) hvn ?_
        refine j_top (y := nI d) (by rw [hcn]; exact d2) ?_
        refine j_icmp_lt (pc := 31) (tgt := 37) dX8_tellWord_31 rfl (fun h31 => absurd ((nI_ltI (by omega) (by omega)).mp h31) hkd) (fun h31 => ?_)
        refine j_bipush (pc := 34) dX8_tellWord_34 (v := (-9)) (by decide) ?_
        refine j_iret (pc := 36) dX8_tellWord_36 ?_
        exact ⟨rfl, rfl⟩
    · have hend : nr J (σ 16) tg (itr (stpN J (σ 16) tg) kn (nI n)) = -9 := by
        refine way_stop ?_ _
        unfold nr
        rw [fo_nI hn (by omega), d1]
        exact if_neg (by decide)
      rw [hend]
      refine j_iload_n (pc := 0) dX8_tellWord_0 rfl ?_
      refine j_bipush (pc := 1) dX8_tellWord_1 (v := (-9)) (by decide) ?_
      refine j_icmp_eq (pc := 3) (tgt := 17) dX8_tellWord_3 rfl (fun h3 => absurd h3 hk9) (fun h3 => ?_)
      refine j_aload_n (pc := 6) dX8_tellWord_6 rfl ?_
      refine j_getR (pc := 7) dX8_tellWord_7 f_X8_56 (by first | rfl | with_reducible assumption) (by rfl) ?_
      refine j_iload_n (pc := 10) dX8_tellWord_10 rfl ?_
      refine j_iald (pc := 11) dX8_tellWord_11 (by first | rfl | with_reducible assumption) hvn ?_
      refine j_top (y := -9) (by rw [hcn]; exact d1) ?_
      refine j_bipush (pc := 12) dX8_tellWord_12 (v := (-9)) (by decide) ?_
      refine j_icmp_ne (pc := 14) (tgt := 24) dX8_tellWord_14 rfl (fun h14 => absurd rfl h14) (fun h14 => ?_)
      refine j_aload_n (pc := 17) dX8_tellWord_17 rfl ?_
      refine j_getR (pc := 18) dX8_tellWord_18 f_X8_56 (by first | rfl | with_reducible assumption) (by rfl) ?_
      refine j_iload_n (pc := 21) dX8_tellWord_21 rfl ?_
      refine j_iald (pc := 22) dX8_tellWord_22 (by first | rfl | with_reducible assumption) hvn ?_
      refine j_iret (pc := 23) dX8_tellWord_23 ?_
      exact ⟨rfl, by rw [hcn]; exact d1⟩
end Way
