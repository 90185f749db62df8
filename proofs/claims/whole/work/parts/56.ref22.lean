/-! LEASTBARSMODEL: finish, word -/
section Agree
variable {J : Nat} {tg : Nat → Int32} {fn kp : Nat → Bool}
theorem uc_step {n e m : Nat} (h : ucB J tg kp n = true) (he : e < 8) (hm : m < J) (ht : tg (8 * n + e) = nI m) (hk : kp m = true) : ucB J tg kp m = true := by
  obtain ⟨i, hi⟩ := ucB_iff.mp h
  exact ucB_iff.mpr ⟨i + 1, Or.inr ⟨hm, hk, n, e, he, hi, ht⟩⟩
theorem uc_kp {n : Nat} (h : ucB J tg kp n = true) : n < J ∧ kp n = true := by
  obtain ⟨i, hi⟩ := ucB_iff.mp h
  exact hi.lt
theorem Rk_uc : ∀ k n, ucB J tg kp n = true → (Rk J tg fn (ucB J tg kp) k n ↔ Rk J tg fn kp k n) := by
  intro k
  induction k with
  | zero => intro n hn; exact ⟨fun ⟨a, _, c⟩ => ⟨a, (uc_kp hn).2, c⟩, fun ⟨a, _, c⟩ => ⟨a, hn, c⟩⟩
  | succ k ih =>
    intro n hn
    constructor
    · rintro (q | ⟨a, b, e, m, c, d, q⟩)
      · exact Or.inl ((ih n hn).mp q)
      · exact Or.inr ⟨a, (uc_kp hn).2, e, m, c, d, (ih m q.lt.2).mp q⟩
    · rintro (q | ⟨a, b, e, m, c, d, q⟩)
      · exact Or.inl ((ih n hn).mpr q)
      · exact Or.inr ⟨a, hn, e, m, c, d, (ih m (uc_step hn c q.lt.1 d q.lt.2)).mpr q⟩
theorem far_uc {n : Nat} {v : Int32} (hn : ucB J tg kp n = true) (h : isFar J tg fn (ucB J tg kp) n v) : isFar J tg fn kp n v := by
  rcases h with ⟨k, a, b, c, d⟩ | ⟨a, b⟩
  · exact Or.inl ⟨k, a, b, (Rk_uc k n hn).mp c, fun j hj z => d j hj ((Rk_uc j n hn).mpr z)⟩
  · exact Or.inr ⟨a, fun k z => b k ((Rk_uc k n hn).mpr z)⟩
variable {F F' : Nat → Int32}
theorem uc_same (hF : ∀ n, n < J → isFar J tg fn (ucB J tg kp) n (F n)) (hF' : ∀ n, n < J → isFar J tg fn kp n (F' n)) : ∀ n, ucB J tg kp n = true → F n = F' n := fun n hn => isFar.uniq (far_uc hn (hF n (uc_kp hn).1)) (hF' n (uc_kp hn).1)
theorem uc_fo (hJ : J ≤ 150) (htr : ∀ y, y < 8 * J → tg y = -9 ∨ ∃ m, m < J ∧ tg y = nI m) (hF : ∀ n, n < J → isFar J tg fn (ucB J tg kp) n (F n)) (hF' : ∀ n, n < J → isFar J tg fn kp n (F' n)) : ∀ n e, ucB J tg kp n = true → e < 8 → fo J F (tg (8 * n + e)) = fo J F' (tg (8 * n + e)) := by
  intro n e hn he
  have hnJ := (uc_kp hn).1
  rcases htr (8 * n + e) (by omega) with hz | ⟨m, hm, hz⟩
  · rw [hz]; unfold fo; rw [inR_9]; rfl
  · rw [hz, fo_nI hm (by omega), fo_nI hm (by omega)]
    by_cases hu : ucB J tg kp m = true
    · exact uc_same hF hF' m hu
    · have h1 : F m = -9 := Classical.byContradiction (fun z => hu (far_U hF hm z))
      have h2 : F' m = -9 := Classical.byContradiction (fun z => hu (uc_step hn he hm hz (far_U hF' hm z)))
      rw [h1, h2]
theorem uc_nr (hJ : J ≤ 150) (htr : ∀ y, y < 8 * J → tg y = -9 ∨ ∃ m, m < J ∧ tg y = nI m) (hF : ∀ n, n < J → isFar J tg fn (ucB J tg kp) n (F n)) (hF' : ∀ n, n < J → isFar J tg fn kp n (F' n)) : ∀ n, ucB J tg kp n = true → nr J F tg (nI n) = nr J F' tg (nI n) := by
  intro n hn
  have hnJ := (uc_kp hn).1
  unfold nr
  rw [fo_nI hnJ (by omega), fo_nI hnJ (by omega), uc_same hF hF' n hn, nI_clamp (by omega)]
  congr 1
  refine lst_cong (fun e he => ?_)
  rw [uc_fo hJ htr hF hF' n e hn he]
theorem uc_nr9 (hJ : J ≤ 150) {m : Nat} (hm : m < J) (h : F m = -9 ∨ F m = nI 0) : nr J F tg (nI m) = -9 := by
  unfold nr
  rw [fo_nI hm (by omega)]
  rcases h with h | h
  · rw [h]; exact if_neg (by decide)
  · rw [h]; exact if_neg (by decide)
theorem uc_tgo (hJ : J ≤ 150) (htr : ∀ y, y < 8 * J → tg y = -9 ∨ ∃ m, m < J ∧ tg y = nI m) (hF : ∀ n, n < J → isFar J tg fn (ucB J tg kp) n (F n)) {m : Nat} (hm : ucB J tg kp m = true) : tgo J tg (nI m) (nr J F tg (nI m)) = -9 ∨ ∃ m', ucB J tg kp m' = true ∧ tgo J tg (nI m) (nr J F tg (nI m)) = nI m' := by
  have hmJ := (uc_kp hm).1
  have out : F m = -9 ∨ F m = nI 0 → tgo J tg (nI m) (nr J F tg (nI m)) = -9 := fun z => by
    rw [uc_nr9 hJ hmJ z]
    unfold tgo
    exact if_neg (fun y => by rw [inR_9] at y; exact absurd y.2 (by decide))
  rcases hF m hmJ with ⟨d, d1, d2, d3, d4⟩ | ⟨d1, -⟩
  · by_cases hd : d = 0
    · rw [hd] at d2
      exact Or.inl (out (Or.inr d2))
    · obtain ⟨s, hs⟩ : ∃ s, d = s + 1 := ⟨d - 1, by omega⟩
      rw [hs] at d2
      obtain ⟨e, m', a1, a2, a3, a4, a5, a6⟩ := near_ex hJ hF hmJ (s := s) (by omega) d2
      refine Or.inr ⟨m', far_U hF a2 (by rw [a4]; exact nI_z (by omega)), ?_⟩
      unfold tgo
      rw [a5, if_pos ⟨inR_nI hmJ (by omega), inR_nI a1 (by decide)⟩, nI_clamp (by omega), nI_clamp (by omega)]
      exact a3
  · exact Or.inl (out (Or.inl d1))
theorem itr_0 (f : Int32 → Int32) (v : Int32) : itr f 0 v = v := rfl
theorem itr_S (f : Int32 → Int32) (q : Nat) (v : Int32) : itr f (q + 1) v = f (itr f q v) := rfl
theorem uc_it (hJ : J ≤ 150) (htr : ∀ y, y < 8 * J → tg y = -9 ∨ ∃ m, m < J ∧ tg y = nI m) (hF : ∀ n, n < J → isFar J tg fn (ucB J tg kp) n (F n)) (hF' : ∀ n, n < J → isFar J tg fn kp n (F' n)) {j : Nat} (hj : ucB J tg kp j = true) (q : Nat) : itr (stpN J F tg) q (nI j) = itr (stpN J F' tg) q (nI j) ∧ (itr (stpN J F tg) q (nI j) = -9 ∨ ∃ m, ucB J tg kp m = true ∧ itr (stpN J F tg) q (nI j) = nI m) := by
  induction q with
  | zero =>
    rw [itr_0, itr_0]
    exact ⟨rfl, Or.inr ⟨j, hj, rfl⟩⟩
  | succ q ih =>
    obtain ⟨h1, h2⟩ := ih
    have n9 : ∀ G : Nat → Int32, stpN J G tg (-9) = -9 := fun G => way_9 (F := G) 1
    rw [itr_S, itr_S, ← h1]
    rcases h2 with z | ⟨m, hm, z⟩
    · rw [z, n9, n9]
      exact ⟨rfl, Or.inl rfl⟩
    · rw [z]
      have e1 : stpN J F tg (nI m) = tgo J tg (nI m) (nr J F tg (nI m)) := rfl
      have e2 : stpN J F' tg (nI m) = tgo J tg (nI m) (nr J F' tg (nI m)) := rfl
      rw [e1, e2, ← uc_nr hJ htr hF hF' m hm]
      exact ⟨rfl, uc_tgo hJ htr hF hm⟩
theorem way_uc (hJ : J ≤ 150) (htr : ∀ y, y < 8 * J → tg y = -9 ∨ ∃ m, m < J ∧ tg y = nI m) (hF : ∀ n, n < J → isFar J tg fn (ucB J tg kp) n (F n)) (hF' : ∀ n, n < J → isFar J tg fn kp n (F' n)) {j : Nat} (hj : ucB J tg kp j = true) (kk : Int32) : q_way J F tg (nI j) kk = q_way J F' tg (nI j) kk := by
  unfold q_way
  by_cases hk : kk = -9
  · rw [if_pos hk, if_pos hk, fo_nI (uc_kp hj).1 (by omega), fo_nI (uc_kp hj).1 (by omega)]
    exact uc_same hF hF' j hj
  · rw [if_neg hk, if_neg hk]
    obtain ⟨h1, h2⟩ := uc_it hJ htr hF hF' hj kk.toNatClampNeg
    rw [← h1]
    rcases h2 with z | ⟨m, hm, z⟩
    · rw [z, nr_9, nr_9]
    · rw [z]; exact uc_nr hJ htr hF hF' m hm
end Agree
section FinR
variable {σ : Mm} {n0 : Nat} {t : Nat → Int32} {N : Nat} {K : Nat → Int32} {M : Nat → MV} {fs : Int32} {h : List Int32} {pl : Int32}
theorem R2.far {σ' : Mm} (q : R2 σ n0 t N K M fs h pl) (h1 : ∀ x, x ≠ 16 → σ' x = σ x) : R2 σ' n0 t N K M fs h pl := by
  obtain ⟨⟨b1, b2, b3, b4, b5, b6⟩, hfs, hD, hTr, hTV⟩ := q
  refine ⟨⟨by rw [h1 0 (by decide)]; exact b1, b2, by rw [h1 1 (by decide)]; exact b3, by rw [h1 0 (by decide)]; exact b4, b5, fun m hm => ?_⟩, by rw [h1 0 (by decide)]; exact hfs, ?_, hTr.cells (by rw [h1 0 (by decide)]) (by rw [h1 0 (by decide)]) (h1 15 (by decide)), hTV⟩
  · obtain ⟨x, y, z⟩ := b6 m hm
    exact ⟨x.cells (fun x _ _ => h1 x (by omega)), by rw [h1 2 (by decide)]; exact y, z⟩
  · rw [h1 0 (by decide)]
    rcases hD with c | ⟨c, c'⟩
    · exact Or.inl c
    · exact Or.inr ⟨c, c'.cells (by rw [h1 0 (by decide)]) (by rw [h1 0 (by decide)]) (fun x _ _ => h1 x (by omega))⟩
theorem gK_ex {T : Tab} {set : Int32} (hO : ¬ Over T set) : ∃ k, gK T set fs k := by
  have hJ : gJ T set ≤ 150 := by
    unfold Over at hO
    unfold gJ
    rw [gX_eq]
    omega
  apply Classical.byContradiction
  intro hno
  have all_ : ∀ k, ∀ i, i < k → lstep (gJ T set) (toX T set) (gF T set) (fun e => bt fs e) (lts (gJ T set) (toX T set) (gF T set) (gL T set) (fun e => bt fs e) i) (i + 1) ≠ none := by
    intro k
    induction k with
    | zero => intro i hi; exact absurd hi (Nat.not_lt_zero _)
    | succ k ih =>
      intro i hi
      by_cases z : i = k
      · subst z
        exact fun y => hno ⟨i, ih, y⟩
      · exact ih i (by omega)
  have h1 := lts_cnt (cl := gL T set) hJ (all_ 151)
  have h2 := cnt_le (lts (gJ T set) (toX T set) (gF T set) (gL T set) (fun e => bt fs e) 151).1 (gJ T set)
  omega
theorem c_X8_finish (kk : Int32) (q : R2 σ n0 t N K M fs h pl) : EV Γ2 6 yX8_finish cX8_finish 3 (some .int) [.inr 0, .inl kk] σ (fun r σ' => R2 σ' n0 t N K M fs h pl ∧ Ans (TA N K M) (allS N) fs (if kk = -9 ∨ inR 150 kk = true then -3 else -2) (fun k => q_finish (TA N K M) (allS N) fs k pl kk) r) := by
  have goS : ∀ σ' : Mm, R2 σ' n0 t N K M fs h pl → Ans (TA N K M) (allS N) fs (if kk = -9 ∨ inR 150 kk = true then -3 else -2) (fun k => q_finish (TA N K M) (allS N) fs k pl kk) (-3) → AJ Γ2 6 RX8 cX8_finish 3 (some .int) (fun r σ' => R2 σ' n0 t N K M fs h pl ∧ Ans (TA N K M) (allS N) fs (if kk = -9 ∨ inR 150 kk = true then -3 else -2) (fun k => q_finish (TA N K M) (allS N) fs k pl kk) r) 14 [some (.inr 0), some (.inl kk), none] [.inl 1] σ' := by
    intro σ' hR hA
    refine j_if_eq (pc := 14) (tgt := 20) dX8_finish_14 rfl (fun h14 => absurd h14 (by decide)) (fun h14 => ?_)
    refine j_bipush (pc := 17) dX8_finish_17 (v := (-3)) (by decide) ?_
    refine j_iret (pc := 19) dX8_finish_19 ?_
    exact ⟨hR, hA⟩
  have goN : ∀ (σ' : Mm) (k : Nat), (kk = -9 ∨ vp_in kk 150) → R2 σ' n0 t N K M fs h pl → ¬ Over (TA N K M) (allS N) → NG2 σ' (TA N K M) (allS N) → DN2 σ' (TA N K M) (allS N) fs k → (gW (TA N K M) (allS N) fs k).1 0 = -9 → AJ Γ2 6 RX8 cX8_finish 3 (some .int) (fun r σ' => R2 σ' n0 t N K M fs h pl ∧ Ans (TA N K M) (allS N) fs (if kk = -9 ∨ inR 150 kk = true then -3 else -2) (fun k => q_finish (TA N K M) (allS N) fs k pl kk) r) 14 [some (.inr 0), some (.inl kk), none] [.inl 0] σ' := by
    intro σ' k hv hR hO hG hk hw0
    have hJ := hG.1
    have h6 := hR.1.2.2.2.2.1
    obtain ⟨j, hj, huj, hplj⟩ := hR.2.2.2.2.at_ hk.2.1 hw0
    have loop : ∀ (r n : Nat) (σ2 : Mm), n + r = gJ (TA N K M) (allS N) → FrO 16 σ' σ2 → (∀ i, i < n → σ2 16 i = if gU (TA N K M) (allS N) fs k i = true ∧ gF (TA N K M) (allS N) i = true then 0 else -9) → AJ Γ2 6 RX8 cX8_finish 3 (some .int) (fun r σ' => R2 σ' n0 t N K M fs h pl ∧ Ans (TA N K M) (allS N) fs (if kk = -9 ∨ inR 150 kk = true then -3 else -2) (fun k => q_finish (TA N K M) (allS N) fs k pl kk) r) 22 [some (.inr 0), some (.inl kk), some (.inl (nI n))] [] σ2 := by
      intro r
      induction r with
      | zero =>
        intro n σ2 hn hF hold
        obtain rfl : n = gJ (TA N K M) (allS N) := by omega
        have hR2 := hR.far hF
        have hG2 : NG2 σ2 (TA N K M) (allS N) := hG.frX (hF.x (by decide))
        have hU2 : ∀ m, m < gJ (TA N K M) (allS N) → σ2 14 m = if gU (TA N K M) (allS N) fs k m = true then 1 else 0 := by rw [hF 14 (by decide)]; exact hk.2.2.2.2
        refine j_iload_n (pc := 22) dX8_finish_22 rfl ?_
        refine j_aload_n (pc := 23) dX8_finish_23 rfl ?_
        refine j_getI (pc := 24) dX8_finish_24 f_X8_131 (by first | rfl | with_reducible assumption) (by rfl) ?_
        refine j_top (y := nI (gJ (TA N K M) (allS N))) (by rw [hF 0 (by decide)]; exact hG.2.1) ?_
        refine j_icmp_ge (pc := 27) (tgt := 69) dX8_finish_27 rfl (fun h27 => ?_) (fun h27 => absurd (Int32.le_refl _) h27)
        refine j_aload_n (pc := 69) dX8_finish_69 rfl ?_
        refine j_callVv (pc := 70) dX8_finish_70 k_X8_201 (c_X8_findFar (U := gU (TA N K M) (allS N) fs k) (fn := gF (TA N K M) (allS N)) hJ hG2.2.1 hG2.2.2.2 (gT_lt hJ) hU2 hold) (by first | rfl | with_reducible assumption) rfl rfl (by decide) rfl (Nat.le_of_ble_eq_true rfl) (fun σ3 hp => ?_)
        obtain ⟨g1, g2⟩ := hp
        have hR3 := hR2.far g1
        have hG3 : NG2 σ3 (TA N K M) (allS N) := hG2.frX (g1.x (by decide))
        refine j_aload_n (pc := 73) dX8_finish_73 rfl ?_
        refine j_aload_n (pc := 74) dX8_finish_74 rfl ?_
        refine j_getI (pc := 75) dX8_finish_75 f_X8_109 (by first | rfl | with_reducible assumption) (by rfl) ?_
        refine j_top (y := nI j) (hR3.2.2.2.1.1.trans hplj) ?_
        refine j_iload_n (pc := 78) dX8_finish_78 rfl ?_
        refine j_callVi (pc := 79) dX8_finish_79 k_X8_204 (c_X8_tellWord hJ hG3.2.2.2 (gT_lt hJ) (by rw [g1 14 (by decide)]; exact hU2) g2 hj hv) (by first | rfl | with_reducible assumption) rfl rfl (by decide) rfl (Nat.le_of_ble_eq_true rfl) (fun r σ1 hp => ?_)
        obtain ⟨rfl, rfl⟩ := hp
        refine j_iret (pc := 82) dX8_finish_82 ?_
        refine ⟨hR3, Or.inr ⟨hO, k, hk.2.1, ?_⟩⟩
        dsimp only
        unfold q_finish
        rw [if_pos (hv.imp_right inR_iff.mpr), if_pos hw0, hplj]
        exact way_uc hJ (gT_lt hJ) g2 (fun n _ => farW_is hJ n) huj kk
      | succ r ih =>
        intro n σ2 hn hF hold
        have hnJ : n < gJ (TA N K M) (allS N) := by omega
        have hcn : (nI n).toNatClampNeg = n := nI_clamp (by omega)
        have hvn : vp_in (nI n) 150 := vp_in_nI (by omega) (by decide)
        have hb2 := (hR.far hF).1
        have hG2 : NG2 σ2 (TA N K M) (allS N) := hG.frX (hF.x (by decide))
        have hU2 : σ2 14 n = if gU (TA N K M) (allS N) fs k n = true then 1 else 0 := by rw [hF 14 (by decide)]; exact hk.2.2.2.2 n hnJ
        have step : ∀ v : Int32, v = (if gU (TA N K M) (allS N) fs k n = true ∧ gF (TA N K M) (allS N) n = true then 0 else -9) → AJ Γ2 6 RX8 cX8_finish 3 (some .int) (fun r σ' => R2 σ' n0 t N K M fs h pl ∧ Ans (TA N K M) (allS N) fs (if kk = -9 ∨ inR 150 kk = true then -3 else -2) (fun k => q_finish (TA N K M) (allS N) fs k pl kk) r) 22 [some (.inr 0), some (.inl kk), some (.inl (nI (n + 1)))] [] (m_up σ2 16 n v) := fun v hv => by
          refine ih (n + 1) _ (by omega) hF.up (fun i hi => ?_)
          by_cases z : i = n
          · subst z; rw [m_eq]; exact hv
          · rw [m_nk z]; exact hold i (by omega)
        refine j_iload_n (pc := 22) dX8_finish_22 rfl ?_
        refine j_aload_n (pc := 23) dX8_finish_23 rfl ?_
        refine j_getI (pc := 24) dX8_finish_24 f_X8_131 (by first | rfl | with_reducible assumption) (by rfl) ?_
        refine j_top (y := nI (gJ (TA N K M) (allS N))) (by rw [hF 0 (by decide)]; exact hG.2.1) ?_
        refine j_icmp_ge (pc := 27) (tgt := 69) dX8_finish_27 rfl (fun h27 => absurd h27 (nI_ge (by omega) (by omega))) (fun h27 => ?_)
        refine j_aload_n (pc := 30) dX8_finish_30 rfl ?_
        refine j_getR (pc := 31) dX8_finish_31 f_X8_56 (by first | rfl | with_reducible assumption) (by rfl) ?_
        refine j_iload_n (pc := 34) dX8_finish_34 rfl ?_
        refine j_aload_n (pc := 35) dX8_finish_35 rfl ?_
        refine j_getR (pc := 36) dX8_finish_36 f_X8_50 (by first | rfl | with_reducible assumption) (by rfl) ?_
        refine j_iload_n (pc := 39) dX8_finish_39 rfl ?_
        refine j_zald (pc := 40) dX8_finish_40 (by first | rfl | with_reducible assumption) hvn ?_
        refine j_top (y := if gU (TA N K M) (allS N) fs k n = true then 1 else 0) (by rw [hcn]; exact hU2) ?_
        refine j_if_eq (pc := 41) (tgt := 60) dX8_finish_41 rfl (fun h41 => ?_) (fun h41 => ?_)
        · have hu : ¬ gU (TA N K M) (allS N) fs k n = true := fun z => by rw [if_pos z] at h41; exact absurd h41 (by decide)
          refine j_bipush (pc := 60) dX8_finish_60 (v := (-9)) (by decide) ?_
          refine j_iast (pc := 62) dX8_finish_62 (by first | rfl | with_reducible assumption) hvn ?_
          refine j_iinc1 (pc := 63) dX8_finish_63 rfl ?_
          refine j_goto (pc := 66) (tgt := 22) dX8_finish_66 rfl ?_
          rw [nI_1, hcn]
          refine step _ ?_
          first
            | (rw [if_neg (fun z => hu z.1)]; done)
            | (rw [if_pos ⟨hu, show gF (TA N K M) (allS N) n = true from q50⟩]; done)
            | (rw [if_neg (fun z => q50 z.2)]; done)
        · have hu : gU (TA N K M) (allS N) fs k n = true := Classical.byContradiction (fun z => by rw [if_neg z] at h41; exact h41 rfl)
          refine j_aload_n (pc := 44) dX8_finish_44 rfl ?_
          refine j_iload_n (pc := 45) dX8_finish_45 rfl ?_
          refine j_aload_n (pc := 46) dX8_finish_46 rfl ?_
          refine j_callVi (pc := 47) dX8_finish_47 k_X8_155 (c_X8_all hb2.2.2.2.1 h6) (by first | rfl | with_reducible assumption) rfl rfl (by decide) rfl (Nat.le_of_ble_eq_true rfl) (fun r σ1 hp => ?_)
          obtain ⟨rfl, rfl⟩ := hp
          refine j_callVi (pc := 50) dX8_finish_50 k_X8_152 (c_X8_isFinished (c := gC (TA N K M) (allS N) n) hb2 (all_lt h6) (by omega) (hG2.2.2.1 n hnJ)) (by first | rfl | with_reducible assumption) rfl rfl (by decide) rfl (Nat.le_of_ble_eq_true rfl) (fun r σ1 hp => ?_)
          obtain ⟨rfl, hp⟩ := hp
          rcases hp with ⟨q50, rfl⟩ | ⟨q50, rfl⟩
          · refine j_if_eq (pc := 53) (tgt := 60) dX8_finish_53 rfl (fun h => absurd h (by decide)) (fun _ => ?_)
            refine j_iconst (pc := 56) dX8_finish_56 (v := 0) (by decide) ?_
            refine j_goto (pc := 57) (tgt := 62) dX8_finish_57 rfl ?_
            refine j_iast (pc := 62) dX8_finish_62 (by first | rfl | with_reducible assumption) hvn ?_
            refine j_iinc1 (pc := 63) dX8_finish_63 rfl ?_
            refine j_goto (pc := 66) (tgt := 22) dX8_finish_66 rfl ?_
            rw [nI_1, hcn]
            refine step _ ?_
            first
              | (rw [if_neg (fun z => hu z.1)]; done)
              | (rw [if_pos ⟨hu, show gF (TA N K M) (allS N) n = true from q50⟩]; done)
              | (rw [if_neg (fun z => q50 z.2)]; done)
          · refine j_if_eq (pc := 53) (tgt := 60) dX8_finish_53 rfl (fun _ => ?_) (fun h => absurd h (by decide))
            refine j_bipush (pc := 60) dX8_finish_60 (v := (-9)) (by decide) ?_
            refine j_iast (pc := 62) dX8_finish_62 (by first | rfl | with_reducible assumption) hvn ?_
            refine j_iinc1 (pc := 63) dX8_finish_63 rfl ?_
            refine j_goto (pc := 66) (tgt := 22) dX8_finish_66 rfl ?_
            rw [nI_1, hcn]
            refine step _ ?_
            first
              | (rw [if_neg (fun z => hu z.1)]; done)
              | (rw [if_pos ⟨hu, show gF (TA N K M) (allS N) n = true from q50⟩]; done)
              | (rw [if_neg (fun z => q50 z.2)]; done)
    refine j_if_eq (pc := 14) (tgt := 20) dX8_finish_14 rfl (fun h14 => ?_) (fun h14 => absurd rfl h14)
    refine j_iconst (pc := 20) dX8_finish_20 (v := 0) (by decide) ?_
    refine j_istore_n (pc := 21) dX8_finish_21 (by decide) ?_
    exact loop (gJ (TA N K M) (allS N)) 0 σ' (by omega) FrO.rf (fun i hi => absurd hi (Nat.not_lt_zero _))
  refine EV.intro (by decide +kernel) (Nat.le_of_ble_eq_true rfl) ?_
  refine j_iload_n (pc := 0) dX8_finish_0 rfl ?_
  refine j_callSi (pc := 1) dX8_finish_1 k_X8_198 (c_X8_isPlace _ _) rfl (by decide) rfl (Nat.le_of_ble_eq_true rfl) (fun r σ1 hp => ?_)
  obtain ⟨rfl, hp⟩ := hp
  rcases hp with ⟨q1, rfl⟩ | ⟨q1, rfl⟩
  · refine j_if_ne (pc := 4) (tgt := 10) dX8_finish_4 rfl (fun _ => ?_) (fun h => absurd h (by decide))
    refine j_aload_n (pc := 10) dX8_finish_10 rfl ?_
    refine j_callVi (pc := 11) dX8_finish_11 k_X8_192 (c_X8_isShut q) (by first | rfl | with_reducible assumption) rfl rfl (by decide) rfl (Nat.le_of_ble_eq_true rfl) (fun r σ1 hp => ?_)
    obtain ⟨hR, hp⟩ := hp
    have hin : kk = -9 ∨ inR 150 kk = true := q1.imp_right inR_iff.mpr
    rcases hp with ⟨hO, rfl⟩ | ⟨hO, hG, k, hk, ⟨hw, rfl⟩ | ⟨hw, rfl⟩⟩
    · exact goS _ hR (Or.inl ⟨hO, (if_pos hin).symm⟩)
    · refine goS _ hR (Or.inr ⟨hO, k, hk.2.1, ?_⟩)
      dsimp only
      unfold q_finish
      rw [if_pos hin, if_neg hw]
    · exact goN _ k q1 hR hO hG hk hw
  · refine j_if_ne (pc := 4) (tgt := 10) dX8_finish_4 rfl (fun h => absurd h (by decide)) (fun _ => ?_)
    refine j_bipush (pc := 7) dX8_finish_7 (v := (-2)) (by decide) ?_
    refine j_iret (pc := 9) dX8_finish_9 ?_
    refine ⟨q, ?_⟩
    by_cases hO : Over (TA N K M) (allS N)
    · exact Or.inl ⟨hO, (if_neg (fun z => q1 (z.imp_right inR_iff.mp))).symm⟩
    · obtain ⟨k, hk⟩ := gK_ex hO
      exact Or.inr ⟨hO, k, hk, (if_neg (fun z => q1 (z.imp_right inR_iff.mp))).symm⟩
end FinR
