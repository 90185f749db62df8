/-! WHAT IS ASKED: the answers, drawn from the graph, the FREE EVENTS, the waves' number k -/
def bitsI (p : Nat → Bool) : Int32 := orF (fun e => (1 : Int32) <<< (nI e &&& 31)) p 8
theorem bits_I {p : Nat → Bool} {i : Nat} (hi : i < 32) : bt (bitsI p) i = (decide (i < 8) && p i) := by
  unfold bitsI
  rw [or_bit, Bool.eq_iff_iff]
  simp only [List.any_eq_true, List.mem_range, Bool.and_eq_true, decide_eq_true_eq]
  constructor
  · rintro ⟨e, he, h1, h2⟩
    rw [b_bit e (by omega) hi] at h2
    have := of_decide_eq_true h2
    subst this
    exact ⟨he, h1⟩
  · rintro ⟨h1, h2⟩
    exact ⟨i, h1, h2, by rw [b_bit i (by omega) hi]; simp⟩
theorem bits_u {x : Int32} {p : Nat → Bool} (h : ∀ i, i < 32 → bt x i = (decide (i < 8) && p i)) : x = bitsI p := b_ext (fun i hi => by rw [h i hi, bits_I hi])
noncomputable def ucB (J : Nat) (tg : Nat → Int32) (kp : Nat → Bool) (n : Nat) : Bool := @decide (∃ j, Uk J tg kp j n) (Classical.propDecidable _)
theorem ucB_iff {J : Nat} {tg : Nat → Int32} {kp : Nat → Bool} {n : Nat} : ucB J tg kp n = true ↔ ∃ j, Uk J tg kp j n := @decide_eq_true_iff _ (Classical.propDecidable _)
theorem Uk_none {J : Nat} {tg : Nat → Int32} {kp : Nat → Bool} (h : ¬ kp 0 = true) : ∀ j n, ¬ Uk J tg kp j n := by
  intro j
  induction j with
  | zero => intro n q; exact h q.2.2
  | succ j ih =>
    rintro n (q | ⟨-, -, m, e, -, q, -⟩)
    · exact ih n q
    · exact ih m q
theorem Uk_0 {J : Nat} {tg : Nat → Int32} {kp : Nat → Bool} (hJ : 0 < J) : ucB J tg kp 0 = kp 0 := by
  cases h : kp 0 with
  | true => exact ucB_iff.mpr ⟨0, rfl, hJ, h⟩
  | false =>
    cases h2 : ucB J tg kp 0 with
    | false => rfl
    | true =>
      obtain ⟨j, hj⟩ := ucB_iff.mp h2
      exact absurd hj (Uk_none (by rw [h]; decide) j 0)
abbrev kpW (w : Nat → Int32) : Nat → Bool := fun m => decide (w m = -9)
/-- the waves' table, which are UNDER CONTROL -/
noncomputable def gW (T : Tab) (set fs : Int32) (k : Nat) : LT := lts (gJ T set) (toX T set) (gF T set) (gL T set) (fun e => bt fs e) k
noncomputable def gU (T : Tab) (set fs : Int32) (k : Nat) : Nat → Bool := ucB (gJ T set) (toX T set) (kpW (gW T set fs k).1)
def gK (T : Tab) (set fs : Int32) (k : Nat) : Prop := lossK (gJ T set) (toX T set) (gF T set) (gL T set) (fun e => bt fs e) k
theorem DN.uc {σ : Mm} {T : Tab} {set fs : Int32} {k : Nat} (h : DN σ T set fs k) (hJ : gJ T set ≤ 150) {n : Nat} (hn : n < gJ T set) : σ 53 n ≠ -9 ↔ gU T set fs k n = true := by
  obtain ⟨-, -, -, -, -, -, h⟩ := h
  rcases h with ⟨h0, h1, -⟩ | ⟨h0, Q, u, d, pa, ev, h1, h2, -⟩
  · refine ⟨fun q => absurd (h1 n (by omega)) q, fun q => ?_⟩
    obtain ⟨j, hj⟩ := ucB_iff.mp q
    exact absurd hj (Uk_none (fun z => h0 (of_decide_eq_true z)) j n)
  · have := h1.uc h2 hJ (decide_eq_true h0) (g_pos T set) hn
    exact this.symm.trans ucB_iff.symm
/-- a row that is NONE behind J, at a number -/
theorem fo_out {F : Nat → Int32} {J : Nat} (hJ : J ≤ 150) (h : ∀ n, J ≤ n → n < 150 → F n = -9) (v : Int32) : fo 150 F v = fo J F v := by
  unfold fo
  by_cases h1 : inR 150 v = true
  · obtain ⟨i, hi, rfl⟩ := vp_in_of (inR_iff.mp h1) (by decide)
    rw [if_pos h1, nI_clamp (by omega)]
    by_cases h2 : i < J
    · rw [if_pos (inR_nI h2 (by omega))]
    · have : ¬ inR J (nI i) = true := fun q => by
        have := inR_iff.mp q
        rw [vp_in_iff, nI_toInt (by omega)] at this
        omega
      rw [if_neg this]
      exact h i (by omega) hi
  · have : ¬ inR J v = true := fun q => h1 (inR_iff.mpr (vin_le (inR_iff.mp q) hJ))
    rw [if_neg h1, if_neg this]
theorem fo_cong {F F' : Nat → Int32} {J : Nat} (hJ : J ≤ 150) (h : ∀ n, n < J → F n = F' n) (v : Int32) : fo J F v = fo J F' v := by
  unfold fo
  by_cases h1 : inR J v = true
  · obtain ⟨i, hi, rfl⟩ := vp_in_of (inR_iff.mp h1) (by omega)
    rw [if_pos h1, if_pos h1, nI_clamp (by omega)]
    exact h i hi
  · rw [if_neg h1, if_neg h1]
/-- an answer: o where all is OVER, else f of the waves' number -/
def Ans (T : Tab) (set fs o : Int32) (f : Nat → Int32) (r : Int32) : Prop := (Over T set ∧ r = o) ∨ (¬ Over T set ∧ ∃ k, gK T set fs k ∧ r = f k)
theorem Ans.uniq {T : Tab} {set fs o : Int32} {f : Nat → Int32} {r r' : Int32} (h1 : Ans T set fs o f r) (h2 : Ans T set fs o f r') : r = r' := by
  rcases h1 with ⟨a, b⟩ | ⟨a, k, b, c⟩
  · rcases h2 with ⟨-, e⟩ | ⟨e, -⟩
    · rw [b, e]
    · exact absurd a e
  · rcases h2 with ⟨e, -⟩ | ⟨-, k', e, f⟩
    · exact absurd e a
    · rw [c, f, lossK.uniq b e]
noncomputable def q_stateOf (T : Tab) (set : Int32) (N : Nat) (n m : Int32) : Int32 := if inR (gJ T set) n = true ∧ inR N m = true then stI (gC T set n.toNatClampNeg) m.toNatClampNeg else -1
noncomputable def q_leads (T : Tab) (set n e : Int32) : Int32 := if inR (gJ T set) n = true ∧ inR 8 e = true then toX T set (8 * n.toNatClampNeg + e.toNatClampNeg) else -1
noncomputable def q_joint1 (T : Tab) (set fs : Int32) (k i : Nat) (what : Int32) : Int32 :=
  if what = 0 then (if gF T set i = true then 1 else 0) else if what = 1 then bitsI (fun e => decide (toX T set (8 * i + e) ≠ -9)) else if what = 2 then bitsI (fun e => gL T set i e && bt fs e) else if what = 3 then (if (gW T set fs k).1 i = -9 then 1 else 0) else if what = 4 then (if gU T set fs k i = true then 1 else 0) else if what = 5 then (gW T set fs k).1 i else if what = 6 then (if gU T set fs k i = true then bitsI (fun e => isL (gJ T set) (gW T set fs k).1 (toX T set (8 * i + e))) else -9) else -2
noncomputable def q_joint (T : Tab) (set fs : Int32) (k : Nat) (n what : Int32) : Int32 := if inR (gJ T set) n = true then q_joint1 T set fs k n.toNatClampNeg what else -1
/-- why: the link, and what of it -/
noncomputable def q_link (T : Tab) (set fs : Int32) (k i q : Nat) : Int32 := itr (stpL (caT (toX T set) (gW T set fs k))) q (if (gW T set fs k).1 i ≠ -9 then nI i else -9)
noncomputable def q_why (T : Tab) (set fs : Int32) (k : Nat) (n kk what : Int32) : Int32 := if inR (gJ T set) n = true then (if inR 150 kk = true ∧ inR 3 what = true then (if q_link T set fs k n.toNatClampNeg kk.toNatClampNeg = -9 then -9 else if what = 0 then (gW T set fs k).2.1 (q_link T set fs k n.toNatClampNeg kk.toNatClampNeg).toNatClampNeg else if what = 1 then (gW T set fs k).2.2 (q_link T set fs k n.toNatClampNeg kk.toNatClampNeg).toNatClampNeg else q_link T set fs k n.toNatClampNeg kk.toNatClampNeg) else -2) else -1
noncomputable def q_wave (T : Tab) (set fs : Int32) (k : Nat) (w : Int32) : Int32 := if inR (k + 1) w = true then nI (cntW (gW T set fs k).1 w.toNatClampNeg (gJ T set)) else -1
/-- ways: by how far F says it is -/
def q_way (J : Nat) (F tg : Nat → Int32) (start kk : Int32) : Int32 := if kk = -9 then fo J F start else nr J F tg (itr (stpN J F tg) kk.toNatClampNeg start)
noncomputable def farW (J : Nat) (tg : Nat → Int32) (fn al : Nat → Bool) (n : Nat) : Int32 := @Classical.epsilon Int32 ⟨0⟩ (fun v => isFar J tg fn al n v)
theorem farW_eq {J : Nat} {tg : Nat → Int32} {fn al : Nat → Bool} {n : Nat} {v : Int32} (h : isFar J tg fn al n v) : farW J tg fn al n = v := isFar.uniq (@Classical.epsilon_spec_aux Int32 ⟨0⟩ (fun v => isFar J tg fn al n v) ⟨v, h⟩) h
noncomputable def q_finish (T : Tab) (set fs : Int32) (k : Nat) (pl kk : Int32) : Int32 := if kk = -9 ∨ inR 150 kk = true then (if (gW T set fs k).1 0 = -9 then q_way (gJ T set) (farW (gJ T set) (toX T set) (gF T set) (kpW (gW T set fs k).1)) (toX T set) pl kk else -3) else -2
noncomputable def q_word (T : Tab) (set fs : Int32) (k : Nat) (n kk : Int32) : Int32 := if inR (gJ T set) n = true then (if kk = -9 ∨ inR 150 kk = true then (if gU T set fs k n.toNatClampNeg = true then q_way (gJ T set) (farW (gJ T set) (toX T set) (fun m => decide (m = n.toNatClampNeg)) (gU T set fs k)) (toX T set) 0 kk else -9) else -2) else -1
def cntB (p : Nat → Bool) (N : Nat) : Nat := ((List.range N).filter p).length
noncomputable def q_many (T : Tab) (set fs : Int32) (k : Nat) (N n hl : Nat) (what : Int32) : Int32 :=
  if what = 0 then nI N else if what = 1 then nI n else if what = 2 then nI (gJ T set) else if what = 3 then nI (cntF (gW T set fs k).1 (gJ T set)) else if what = 4 then nI (cntB (gU T set fs k) (gJ T set)) else if what = 5 then nI (k + 1) else if what = 6 then nI hl else if what = 7 then nI (sumN (fun n => if gU T set fs k n = true then pcB (fun e => isL (gJ T set) (gW T set fs k).1 (toX T set (8 * n + e))) else 0) (gJ T set)) else -2
def o_many (N n hl : Nat) (what : Int32) : Int32 := if what = 0 then nI N else if what = 1 then nI n else if what = 2 then -9 else if what = 3 then 0 else if what = 4 then 0 else if what = 5 then 0 else if what = 6 then nI hl else if what = 7 then 0 else -2
