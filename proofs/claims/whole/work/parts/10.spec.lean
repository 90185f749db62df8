/-! WHAT THE JOINTS ARE. Tab: kind, ALPHABET, MARKED STATES and steps (at 8 s + e) of each MACHINE. A JOINT's code has three bits for each MACHINE. -/
abbrev Tab : Type := (Nat → Int32) × (Nat → Int32) × (Nat → Int32) × (Nat → Nat → Int32)
def stI (c : Int32) (m : Nat) : Int32 := (c >>> (nI (3 * m) &&& 31)) &&& 7
def setI (c : Int32) (m : Nat) (t : Int32) : Int32 := (c &&& (((7 : Int32) <<< (nI (3 * m) &&& 31)) ^^^ (-1))) ||| (t <<< (nI (3 * m) &&& 31))
theorem b_7 : ∀ i, i < 32 → bt 7 i = decide (i < 3) := by decide +kernel
theorem b_small : ∀ t, t < 8 → ∀ i, i < 32 → 3 ≤ i → bt (nI t) i = false := by decide +kernel
theorem b_st {c : Int32} {m i : Nat} (hm : m < 6) (hi : i < 32) : bt (stI c m) i = (decide (i < 3) && bt c (3 * m + i)) := by
  unfold stI
  rw [b_and, b_7 i hi, b_sshr (3 * m) (by omega) c hi]
  by_cases h : i < 3
  · have : 3 * m + i < 32 := by omega
    simp [h, this]
  · simp [h]
theorem b_set {c : Int32} {m t i : Nat} (hm : m < 6) (ht : t < 8) (hi : i < 32) : bt (setI c m (nI t)) i = if 3 * m ≤ i ∧ i < 3 * m + 3 then bt (nI t) (i - 3 * m) else bt c i := by
  unfold setI
  rw [b_or, b_and, b_not _ hi, b_shl (3 * m) (by omega) 7 hi, b_shl (3 * m) (by omega) _ hi]
  by_cases h1 : 3 * m ≤ i
  · by_cases h2 : i < 3 * m + 3
    · have h3 : i - 3 * m < 3 := by omega
      simp [h1, h2, b_7 (i - 3 * m) (by omega), h3]
    · have h3 : ¬ i - 3 * m < 3 := by omega
      simp [h1, h2, b_7 (i - 3 * m) (by omega), h3, b_small t ht (i - 3 * m) (by omega) (by omega)]
  · simp [h1]
theorem st_set {c : Int32} {m k t : Nat} (hm : m < 6) (hk : k < 6) (ht : t < 8) : stI (setI c m (nI t)) k = if k = m then nI t else stI c k := by
  apply b_ext
  intro i hi
  rw [b_st hk hi]
  by_cases h3 : i < 3
  · rw [b_set hm ht (by omega)]
    by_cases hkm : k = m
    · subst hkm
      have : 3 * k ≤ 3 * k + i ∧ 3 * k + i < 3 * k + 3 := by omega
      simp [h3, this]
    · have : ¬ (3 * m ≤ 3 * k + i ∧ 3 * k + i < 3 * m + 3) := by omega
      simp only [if_neg this, if_neg hkm, b_st hk hi]
  · by_cases hkm : k = m
    · simp [h3, hkm, b_small t ht i hi (by omega)]
    · simp [h3, hkm, b_st hk hi]
theorem st_0 : ∀ m, m < 6 → stI 0 m = nI 0 := by decide +kernel
theorem st_lt8 (c : Int32) {m : Nat} : ∃ s : Nat, s < 8 ∧ stI c m = nI s := by
  obtain ⟨j, h1, h2⟩ := pk_andE (c >>> (nI (3 * m) &&& 31)) (m := 7) 3 (by decide)
  exact ⟨j, h1, h2⟩
/-- the STATE's number -/
def stN (c : Int32) (m : Nat) : Nat := (stI c m).toNatClampNeg
theorem st_n (c : Int32) (m : Nat) : stI c m = nI (stN c m) ∧ stN c m < 8 := by
  obtain ⟨s, h1, h2⟩ := st_lt8 c (m := m)
  unfold stN
  rw [h2, nI_clamp (by omega)]
  exact ⟨rfl, h1⟩
/-- a code all of whose STATES are 0 .. 5 -/
def okC (c : Int32) : Prop := ∀ m, m < 6 → stN c m < 6
theorem ok_0 : okC 0 := by
  intro m hm
  unfold stN
  rw [st_0 m hm]
  decide
theorem stN_set {c : Int32} {m k t : Nat} (hm : m < 6) (hk : k < 6) (ht : t < 8) : stN (setI c m (nI t)) k = if k = m then t else stN c k := by
  unfold stN
  rw [st_set hm hk ht]
  by_cases h : k = m
  · rw [if_pos h, if_pos h, nI_clamp (by omega)]
  · rw [if_neg h, if_neg h]
theorem ok_set {c : Int32} {m t : Nat} (hm : m < 6) (ht : t < 6) (h : okC c) : okC (setI c m (nI t)) := by
  intro k hk
  rw [stN_set hm hk (by omega)]
  by_cases h2 : k = m
  · rw [if_pos h2]; exact ht
  · rw [if_neg h2]; exact h k hk
/-- a MACHINE's table is as a TEXT tells it -/
def okT (T : Tab) (m : Nat) : Prop := (T.1 m = 0 ∨ T.1 m = 1) ∧ (∀ x, x < 48 → T.2.2.2 m x = -9 ∨ ∃ t, t < 6 ∧ T.2.2.2 m x = nI t) ∧ (∀ s, s < 6 → ∀ e, e < 8 → T.2.2.2 m (8 * s + e) ≠ -9 → bt (T.2.1 m) e = true) ∧ (∀ i, 8 ≤ i → bt (T.2.1 m) i = false)
section Spec
variable (T : Tab) (set : Int32)
/-- a MACHINE of the set has the EVENT; it has a step by it from its STATE -/
def hasE (e m : Nat) : Bool := bt set m && bt (T.2.1 m) e
def stp (c : Int32) (e m : Nat) : Int32 := T.2.2.2 m (8 * stN c m + e)
def ledG (c : Int32) (e : Nat) : Nat → Option (Bool × Int32)
  | 0 => some (false, c)
  | m + 1 => match ledG c e m with
    | none => none
    | some (b, t) => if hasE T set e m = true then (if stp T c e m = -9 then none else some (true, setI t m (stp T c e m))) else some (b, t)
/-- to which code an EVENT LEADS -/
def led (c : Int32) (e : Nat) : Option Int32 := match ledG T set c e 6 with
  | some (true, t) => some t
  | _ => none
def leadB (c : Int32) (e : Nat) : Bool := (List.range 6).any (hasE T set e) && (List.range 6).all (fun m => !hasE T set e m || decide (stp T c e m ≠ -9))
def isPl (m : Nat) : Bool := decide (T.1 m = 0)
/-- all PLANTS that have it can, one has it, a RULE that has it can't (FREE or not) -/
def clashB (c : Int32) (e : Nat) : Bool := (List.range 6).any (fun m => isPl T m && hasE T set e m) && (List.range 6).all (fun m => !(isPl T m && hasE T set e m) || decide (stp T c e m ≠ -9)) && (List.range 6).any (fun m => !isPl T m && hasE T set e m && decide (stp T c e m = -9))
def finB (c : Int32) : Bool := (List.range 6).all (fun m => !bt set m || bt (T.2.2.1 m) (stN c m))
def nxt (l : List Int32) (x : Nat) : Option Int32 := (l[x / 8]?).bind (fun c => led T set c (x % 8))
/-- the codes that are met, x twos of a JOINT and an EVENT gone through -/
def csx : Nat → List Int32
  | 0 => [0]
  | x + 1 => match nxt T set (csx x) x with
    | none => csx x
    | some c => if c ∈ csx x then csx x else csx x ++ [c]
def toX (x : Nat) : Int32 := match nxt T set (csx T set x) x with
  | none => -9
  | some c => nI ((csx T set (x + 1)).idxOf c)
theorem csx_some {x : Nat} {c : Int32} (h : nxt T set (csx T set x) x = some c) : csx T set (x + 1) = if c ∈ csx T set x then csx T set x else csx T set x ++ [c] := by
  simp only [csx, h]
theorem csx_none {x : Nat} (h : nxt T set (csx T set x) x = none) : csx T set (x + 1) = csx T set x := by
  simp only [csx, h]
theorem csx_step (x : Nat) : csx T set (x + 1) = csx T set x ∨ ∃ c, nxt T set (csx T set x) x = some c ∧ c ∉ csx T set x ∧ csx T set (x + 1) = csx T set x ++ [c] := by
  cases h : nxt T set (csx T set x) x with
  | none => exact Or.inl (csx_none T set h)
  | some c =>
    rw [csx_some T set h]
    by_cases hc : c ∈ csx T set x
    · exact Or.inl (if_pos hc)
    · exact Or.inr ⟨c, rfl, hc, if_neg hc⟩
theorem csx_pre {x y : Nat} (h : x ≤ y) : ∃ r, csx T set y = csx T set x ++ r := by
  induction h with
  | refl => exact ⟨[], by simp⟩
  | step _ ih =>
    obtain ⟨r, hr⟩ := ih
    rcases csx_step T set _ with h | ⟨c, -, -, h⟩
    · exact ⟨r, h.trans hr⟩
    · exact ⟨r ++ [c], by rw [h, hr, List.append_assoc]⟩
theorem csx_get {x y i : Nat} (h : x ≤ y) (hi : i < (csx T set x).length) : (csx T set y)[i]? = (csx T set x)[i]? := by
  obtain ⟨r, hr⟩ := csx_pre T set h
  rw [hr, List.getElem?_append_left hi]
theorem csx_len {x y : Nat} (h : x ≤ y) : (csx T set x).length ≤ (csx T set y).length := by
  obtain ⟨r, hr⟩ := csx_pre T set h
  rw [hr, List.length_append]
  omega
theorem csx_pos (x : Nat) : 0 < (csx T set x).length := by
  have := csx_len T set (Nat.zero_le x)
  simp [csx] at this
  omega
theorem csx_nodup (x : Nat) : (csx T set x).Nodup := by
  induction x with
  | zero => simp [csx]
  | succ x ih =>
    rcases csx_step T set x with h | ⟨c, -, hc, h⟩
    · rw [h]; exact ih
    · rw [h, List.nodup_append]
      refine ⟨ih, by simp, fun a ha b hb => ?_⟩
      have : b = c := by simpa using hb
      subst this
      exact fun q => hc (q ▸ ha)
theorem csx_stop {x : Nat} (h : (csx T set x).length * 8 ≤ x) : ∀ y, x ≤ y → csx T set y = csx T set x := by
  intro y hy
  induction hy with
  | refl => rfl
  | @step y hxy ih =>
    have : nxt T set (csx T set y) y = none := by
      rw [ih]
      unfold nxt
      rw [List.getElem?_eq_none (by have hle : x ≤ y := hxy; omega)]
      rfl
    rw [csx_none T set this, ih]
theorem ledG_ok (hT : ∀ m, m < 6 → bt set m = true → okT T m) {c : Int32} (hc : okC c) {e : Nat} (he : e < 8) : ∀ m, m ≤ 6 → ∀ b t, ledG T set c e m = some (b, t) → okC t := by
  intro m
  induction m with
  | zero => intro _ b t h; simp [ledG] at h; rw [← h.2]; exact hc
  | succ m ih =>
    intro hm b t h
    simp only [ledG] at h
    cases hg : ledG T set c e m with
    | none => rw [hg] at h; cases h
    | some q =>
      obtain ⟨b0, t0⟩ := q
      rw [hg] at h
      dsimp only at h
      have h0 := ih (by omega) b0 t0 hg
      by_cases h1 : hasE T set e m = true
      · rw [if_pos h1] at h
        by_cases h2 : stp T c e m = -9
        · rw [if_pos h2] at h; cases h
        · rw [if_neg h2] at h
          have hs : bt set m = true := by unfold hasE at h1; simp at h1; exact h1.1
          have hx : 8 * stN c m + e < 48 := by have := hc m (by omega); omega
          rcases (hT m (by omega) hs).2.1 _ hx with q | ⟨t1, ht1, q⟩
          · exact absurd q h2
          · have : stp T c e m = nI t1 := q
            rw [this] at h
            cases h
            exact ok_set (by omega) ht1 h0
      · rw [if_neg h1] at h
        cases h
        exact h0
theorem led_ok (hT : ∀ m, m < 6 → bt set m = true → okT T m) {c t : Int32} (hc : okC c) {e : Nat} (he : e < 8) (h : led T set c e = some t) : okC t := by
  unfold led at h
  split at h
  next t1 hg => cases h; exact ledG_ok T set hT hc he 6 (Nat.le_refl _) _ _ hg
  next => cases h
theorem csx_ok (hT : ∀ m, m < 6 → bt set m = true → okT T m) (x : Nat) : ∀ c ∈ csx T set x, okC c := by
  induction x with
  | zero => intro c hc; simp [csx] at hc; subst hc; exact ok_0
  | succ x ih =>
    rcases csx_step T set x with h | ⟨c, h1, -, h⟩
    · rw [h]; exact ih
    · rw [h]
      intro c' hc'
      rcases List.mem_append.mp hc' with q | q
      · exact ih c' q
      · have : c' = c := by simpa using q
        subst this
        unfold nxt at h1
        cases hl : (csx T set x)[x / 8]? with
        | none => rw [hl] at h1; cases h1
        | some c0 =>
          rw [hl] at h1
          exact led_ok T set hT (ih c0 (List.mem_of_getElem? hl)) (Nat.mod_lt _ (by decide)) h1
/-- where an EVENT LEADS: nowhere, or to a JOINT that is met -/
theorem toX_cases (x : Nat) : (nxt T set (csx T set x) x = none ∧ toX T set x = -9) ∨ ∃ (c : Int32) (j : Nat), nxt T set (csx T set x) x = some c ∧ toX T set x = nI j ∧ j < (csx T set (x + 1)).length ∧ (csx T set (x + 1))[j]? = some c := by
  unfold toX
  cases h : nxt T set (csx T set x) x with
  | none => exact Or.inl ⟨rfl, rfl⟩
  | some c =>
    have hm : c ∈ csx T set (x + 1) := by
      rw [csx_some T set h]
      by_cases hc : c ∈ csx T set x
      · rw [if_pos hc]; exact hc
      · rw [if_neg hc]; simp
    have hl := List.idxOf_lt_length_of_mem hm
    exact Or.inr ⟨c, _, rfl, rfl, hl, by rw [List.getElem?_eq_getElem hl]; simp⟩
theorem nodup_idx {l : List Int32} (h : l.Nodup) {i j : Nat} {c : Int32} (hi : l[i]? = some c) (hj : l[j]? = some c) : i = j := by
  obtain ⟨h1, h2⟩ := List.getElem?_eq_some_iff.mp hi
  obtain ⟨h3, h4⟩ := List.getElem?_eq_some_iff.mp hj
  have hp := List.pairwise_iff_getElem.mp h
  rcases Nat.lt_trichotomy i j with q | q | q
  · exact absurd (h2.trans h4.symm) (hp i j h1 h3 q)
  · exact q
  · exact absurd (h4.trans h2.symm) (hp j i h3 h1 q)
end Spec
