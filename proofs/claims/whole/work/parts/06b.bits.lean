/-! rows on bits, shifts and unsigned numbers, to paste: each family out of a closed proof of our own, whole with what it rests on; each by itself clean at Lean in its own claim (generation 39, form 5). Take a family whole -/
/-! ===== Int32 by its bits: bt x i ===== -/
def bt (x : Int32) (i : Nat) : Bool := x.toBitVec.getLsbD i
theorem b_ext {x y : Int32} (h : ∀ i, i < 32 → bt x i = bt y i) : x = y := Int32.toBitVec_inj.mp (BitVec.eq_of_getLsbD_eq (fun i hi => h i hi))
theorem b_or (x y : Int32) (i : Nat) : bt (x ||| y) i = (bt x i || bt y i) := by unfold bt; rw [Int32.toBitVec_or, BitVec.getLsbD_or]
theorem b_and (x y : Int32) (i : Nat) : bt (x &&& y) i = (bt x i && bt y i) := by unfold bt; rw [Int32.toBitVec_and, BitVec.getLsbD_and]
theorem b_xor (x y : Int32) (i : Nat) : bt (x ^^^ y) i = (bt x i ^^ bt y i) := by unfold bt; rw [Int32.toBitVec_xor, BitVec.getLsbD_xor]
theorem b_big {x : Int32} {i : Nat} (h : 32 ≤ i) : bt x i = false := BitVec.getLsbD_of_ge _ _ h
theorem b_m1 : ∀ i, i < 32 → bt (-1) i = true := by decide +kernel
theorem b_0 (i : Nat) : bt 0 i = false := BitVec.getLsbD_zero
theorem s_l : ∀ n, n < 32 → ((nI n &&& 31).toBitVec.smod 32).toNat = n := by decide +kernel
theorem s_u : ∀ n, n < 32 → (((nI n).toUInt32 &&& Int32.toUInt32 31).toBitVec % 32).toNat = n := by decide +kernel
theorem b_shl (n : Nat) (hn : n < 32) (x : Int32) {i : Nat} (hi : i < 32) : bt (x <<< (nI n &&& 31)) i = (decide (n ≤ i) && bt x (i - n)) := by
  unfold bt
  rw [Int32.toBitVec_shiftLeft]
  show (x.toBitVec <<< ((nI n &&& 31).toBitVec.smod 32).toNat).getLsbD i = _
  rw [s_l n hn, BitVec.getLsbD_shiftLeft]
  rcases Nat.lt_or_ge i n with h | h
  · simp [h, Nat.not_le.mpr h]
  · simp [hi, h, Nat.not_lt.mpr h]
theorem b_ushr (n : Nat) (hn : n < 32) (x : Int32) (i : Nat) : bt ((x.toUInt32 >>> ((nI n).toUInt32 &&& Int32.toUInt32 31)).toInt32) i = bt x (n + i) := by
  show (x.toUInt32 >>> ((nI n).toUInt32 &&& Int32.toUInt32 31)).toBitVec.getLsbD i = x.toUInt32.toBitVec.getLsbD (n + i)
  rw [UInt32.toBitVec_shiftRight]
  show (x.toUInt32.toBitVec >>> (((nI n).toUInt32 &&& Int32.toUInt32 31).toBitVec % 32).toNat).getLsbD i = _
  rw [s_u n hn, BitVec.getLsbD_ushiftRight]
theorem b_sshr (n : Nat) (hn : n < 32) (x : Int32) {i : Nat} (hi : i < 32) : bt (x >>> (nI n &&& 31)) i = if n + i < 32 then bt x (n + i) else bt x 31 := by
  unfold bt
  rw [Int32.toBitVec_shiftRight]
  show (x.toBitVec.sshiftRight ((nI n &&& 31).toBitVec.smod 32).toNat).getLsbD i = _
  rw [s_l n hn, BitVec.getLsbD_sshiftRight, BitVec.msb_eq_getLsbD_last]
  simp [hi]
/-! own rows on bits -/
theorem b_1 : ∀ i, i < 32 → bt 1 i = decide (i = 0) := by decide +kernel
theorem isin_iff {x : Int32} {j : Nat} (hj : j < 32) : (x >>> (nI j &&& 31)) &&& 1 = 1 ↔ bt x j = true := by
  constructor
  · intro h
    have h1 := congrArg (fun z => bt z 0) h
    simp only [b_and, b_sshr j hj x (i := 0) (by decide), b_1 0 (by decide)] at h1
    simpa [hj] using h1
  · intro h
    apply b_ext
    intro i hi
    rw [b_and, b_1 i hi]
    by_cases h0 : i = 0
    · subst h0
      rw [b_sshr j hj x (by decide)]
      simp [hj, h]
    · simp [h0]
theorem isin_0 {x : Int32} {j : Nat} (hj : j < 32) : (x >>> (nI j &&& 31)) &&& 1 = 0 ↔ bt x j = false := by
  constructor
  · intro h
    have h1 := congrArg (fun z => bt z 0) h
    simp only [b_and, b_sshr j hj x (i := 0) (by decide), b_1 0 (by decide), b_0] at h1
    simpa [hj] using h1
  · intro h
    apply b_ext
    intro i hi
    rw [b_and, b_1 i hi, b_0]
    by_cases h0 : i = 0
    · subst h0
      rw [b_sshr j hj x (by decide)]
      simp [hj, h]
    · simp [h0]
theorem isin_bit {x : Int32} {j : Nat} (hj : j < 32) : (x >>> (nI j &&& 31)) &&& 1 = if bt x j = true then 1 else 0 := by
  by_cases h : bt x j = true
  · rw [if_pos h]; exact (isin_iff hj).mpr h
  · rw [if_neg h]; exact (isin_0 hj).mpr (by simpa using h)
theorem b_bit (j : Nat) (hj : j < 32) {i : Nat} (hi : i < 32) : bt ((1 : Int32) <<< (nI j &&& 31)) i = decide (i = j) := by
  rw [b_shl j hj 1 hi, b_1 _ (by omega)]
  by_cases h : i = j
  · simp [h]
  · by_cases h2 : j ≤ i
    · have : ¬ i - j = 0 := by omega
      simp [h, this]
    · simp [h, h2]
theorem b_not (x : Int32) {i : Nat} (hi : i < 32) : bt (x ^^^ (-1)) i = !(bt x i) := by
  rw [b_xor, b_m1 i hi]
  cases bt x i <;> rfl
/-- the least of the first eight of which p holds -/
def lstE (p : Nat → Bool) : Int32 := match (List.range 8).find? p with
  | some e => nI e
  | none => -9
theorem range_find {p : Nat → Bool} {e : Nat} : ∀ N : Nat, e < N → p e = true → (∀ j, j < e → p j = false) → (List.range N).find? p = some e := by
  intro N he hp hj
  rw [List.find?_eq_some_iff_append]
  refine ⟨hp, List.range e, (List.range (N - e - 1)).map (e + 1 + ·), ?_, ?_⟩
  · have h1 : N = e + (N - e) := by omega
    have h2 : N - e = 1 + (N - e - 1) := by omega
    conv => lhs; rw [h1, List.range_add]
    rw [h2, List.range_add]
    simp [List.range_succ, Function.comp_def]
    intro a ha
    omega
  · intro a ha
    have := hj a (List.mem_range.mp ha)
    simp [this]
theorem lst_hit {p : Nat → Bool} {e : Nat} (he : e < 8) (hp : p e = true) (hj : ∀ j, j < e → p j = false) : lstE p = nI e := by
  unfold lstE
  rw [range_find 8 he hp hj]
theorem lst_none {p : Nat → Bool} (hj : ∀ j, j < 8 → p j = false) : lstE p = -9 := by
  unfold lstE
  have : (List.range 8).find? p = none := by
    rw [List.find?_eq_none]
    intro a ha
    have := hj a (List.mem_range.mp ha)
    simp [this]
  rw [this]
theorem lst_cases (p : Nat → Bool) : (∃ e, e < 8 ∧ p e = true ∧ (∀ j, j < e → p j = false) ∧ lstE p = nI e) ∨ ((∀ j, j < 8 → p j = false) ∧ lstE p = -9) := by
  by_cases h : ∀ j, j < 8 → p j = false
  · exact Or.inr ⟨h, lst_none h⟩
  · have h2 : ∃ e, e < 8 ∧ p e = true := by
      apply Classical.byContradiction
      intro q
      apply h
      intro j hj
      cases hp : p j with
      | false => rfl
      | true => exact absurd ⟨j, hj, hp⟩ q
    obtain ⟨e, ⟨h3, h4⟩, h5⟩ := pk_least (fun e => e < 8 ∧ p e = true) h2
    refine Or.inl ⟨e, h3, h4, fun j hj => ?_, ?_⟩
    · cases hp : p j with
      | false => rfl
      | true => exact absurd ⟨by omega, hp⟩ (h5 j hj)
    · refine lst_hit h3 h4 (fun j hj => ?_)
      cases hp : p j with
      | false => rfl
      | true => exact absurd ⟨by omega, hp⟩ (h5 j hj)
