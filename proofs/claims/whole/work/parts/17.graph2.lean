/-! WAYS TO BE FINISHED. J JOINTS; tg (at 8 n + e) where an EVENT LEADS (-9: nowhere); fn which are FINISHED; al over which one may go -/
def Rk (J : Nat) (tg : Nat → Int32) (fn al : Nat → Bool) : Nat → Nat → Prop
  | 0, n => n < J ∧ al n = true ∧ fn n = true
  | k + 1, n => Rk J tg fn al k n ∨ (n < J ∧ al n = true ∧ ∃ e m : Nat, e < 8 ∧ tg (8 * n + e) = nI m ∧ Rk J tg fn al k m)
theorem Rk.lt {J : Nat} {tg : Nat → Int32} {fn al : Nat → Bool} {k n : Nat} (h : Rk J tg fn al k n) : n < J ∧ al n = true := by
  induction k generalizing n with
  | zero => exact ⟨h.1, h.2.1⟩
  | succ k ih =>
    rcases h with h | h
    · exact ih h
    · exact ⟨h.1, h.2.1⟩
theorem Rk.mono {J : Nat} {tg : Nat → Int32} {fn al : Nat → Bool} {k k' n : Nat} (h : Rk J tg fn al k n) (hk : k ≤ k') : Rk J tg fn al k' n := by
  induction hk with
  | refl => exact h
  | step _ ih => exact Or.inl ih
/-- how far a JOINT is from a FINISHED one -/
def isFar (J : Nat) (tg : Nat → Int32) (fn al : Nat → Bool) (n : Nat) (v : Int32) : Prop := (∃ k, k < 150 ∧ v = nI k ∧ Rk J tg fn al k n ∧ ∀ j, j < k → ¬ Rk J tg fn al j n) ∨ (v = -9 ∧ ∀ k, ¬ Rk J tg fn al k n)
theorem isFar.uniq {J : Nat} {tg : Nat → Int32} {fn al : Nat → Bool} {n : Nat} {v w : Int32} (h1 : isFar J tg fn al n v) (h2 : isFar J tg fn al n w) : v = w := by
  rcases h1 with ⟨k, -, rfl, a1, a2⟩ | ⟨rfl, a⟩
  · rcases h2 with ⟨k', -, rfl, b1, b2⟩ | ⟨rfl, b⟩
    · rcases Nat.lt_trichotomy k k' with q | q | q
      · exact absurd a1 (b2 k q)
      · rw [q]
      · exact absurd b1 (a2 k' q)
    · exact absurd a1 (b k)
  · rcases h2 with ⟨k', -, rfl, b1, b2⟩ | ⟨rfl, b⟩
    · exact absurd b1 (a k')
    · rfl
/-- how many of the first N aren't NONE -/
def cntF (F : Nat → Int32) (N : Nat) : Nat := ((List.range N).filter (fun n => decide (F n ≠ -9))).length
theorem cnt_S (F : Nat → Int32) (N : Nat) : cntF F (N + 1) = cntF F N + (if F N = -9 then 0 else 1) := by
  unfold cntF
  rw [List.range_succ, List.filter_append, List.length_append]
  by_cases h : F N = -9 <;> simp [h]
theorem cnt_ge (F : Nat → Int32) (n : Nat) (v : Int32) : ∀ N, N ≤ n → cntF (upd F n v) N = cntF F N := by
  intro N
  induction N with
  | zero => intro _; rfl
  | succ N ih =>
    intro h
    rw [cnt_S, cnt_S, ih (by omega), pk_un (by omega)]
theorem cnt_upd {F : Nat → Int32} {n : Nat} {v : Int32} (h0 : F n = -9) (hv : v ≠ -9) : ∀ N, n < N → cntF (upd F n v) N = cntF F N + 1 := by
  intro N
  induction N with
  | zero => intro h; omega
  | succ N ih =>
    intro h
    rw [cnt_S, cnt_S]
    by_cases hn : n = N
    · subst hn
      rw [cnt_ge F n v n (Nat.le_refl _), pk_us, if_neg hv, if_pos h0]
    · rw [ih (by omega), pk_un (fun q => hn q.symm)]
      omega
theorem cnt_le (F : Nat → Int32) : ∀ N, cntF F N ≤ N := by
  intro N
  induction N with
  | zero => exact Nat.le_refl _
  | succ N ih =>
    rw [cnt_S]
    by_cases h : F N = -9
    · rw [if_pos h]; omega
    · rw [if_neg h]; omega
theorem cnt_lt {F : Nat → Int32} {n : Nat} (h0 : F n = -9) : ∀ N, n < N → cntF F N < N := by
  intro N
  induction N with
  | zero => intro h; omega
  | succ N ih =>
    intro h
    rw [cnt_S]
    by_cases hn : n = N
    · subst hn
      rw [if_pos h0]
      have := cnt_le F n
      omega
    · have := ih (by omega)
      by_cases h2 : F N = -9
      · rw [if_pos h2]; omega
      · rw [if_neg h2]; omega
def updN (f : Nat → Nat) (k x : Nat) : Nat → Nat := fun j => if j = k then x else f j
theorem updN_s {f : Nat → Nat} {k x : Nat} : updN f k x k = x := by simp [updN]
theorem updN_n {f : Nat → Nat} {k j x : Nat} (h : j ≠ k) : updN f k x j = f j := by simp [updN, h]
/-- the queue: Q of the first N JOINTS are in it, u i the one at place i, d i how far it is -/
def QI (J : Nat) (tg : Nat → Int32) (fn al : Nat → Bool) (N : Nat) (F U : Nat → Int32) (Q : Nat) (u d : Nat → Nat) : Prop :=
  cntF F N = Q ∧ (∀ i, i < Q → u i < N ∧ U i = nI (u i) ∧ F (u i) = nI (d i) ∧ Rk J tg fn al (d i) (u i) ∧ d i ≤ i) ∧ (∀ i i', i ≤ i' → i' < Q → d i ≤ d i') ∧ ∀ n, n < N → F n = -9 ∨ ∃ i, i < Q ∧ u i = n
theorem QI.add {J : Nat} {tg : Nat → Int32} {fn al : Nat → Bool} {N : Nat} {F U : Nat → Int32} {Q : Nat} {u d : Nat → Nat} (h : QI J tg fn al N F U Q u d) {n D : Nat} (hn : n < N) (h0 : F n = -9) (hD : D ≤ Q) (hR : Rk J tg fn al D n) (hd : ∀ i, i < Q → d i ≤ D) (hz : D < 2 ^ 31) : QI J tg fn al N (upd F n (nI D)) (upd U Q (nI n)) (Q + 1) (updN u Q n) (updN d Q D) := by
  obtain ⟨h1, h2, h3, h4⟩ := h
  refine ⟨by rw [cnt_upd h0 (nI_z hz) N hn, h1], fun i hi => ?_, fun i i' hii hi' => ?_, fun k hk => ?_⟩
  · by_cases q : i = Q
    · subst q
      rw [updN_s, updN_s, pk_us, pk_us]
      exact ⟨hn, rfl, rfl, hR, hD⟩
    · rw [updN_n q, updN_n q, pk_un q]
      obtain ⟨a1, a2, a3, a4, a5⟩ := h2 i (by omega)
      have : u i ≠ n := fun e => by
        rw [e, h0] at a3
        exact nI_z (by have := hd i (by omega); omega) a3.symm
      rw [pk_un this]
      exact ⟨a1, a2, a3, a4, a5⟩
  · by_cases q' : i' = Q
    · subst q'
      rw [updN_s]
      by_cases q : i = i'
      · subst q; rw [updN_s]; omega
      · rw [updN_n q]; exact hd i (by omega)
    · rw [updN_n q', updN_n (show i ≠ Q by omega)]
      exact h3 i i' hii (by omega)
  · by_cases q : k = n
    · subst q
      exact Or.inr ⟨Q, by omega, updN_s⟩
    · rw [pk_un q]
      rcases h4 k hk with a | ⟨i, a, b⟩
      · exact Or.inl a
      · exact Or.inr ⟨i, by omega, by rw [updN_n (by omega)]; exact b⟩
/-- the queue gone through up to p -/
def QP (J : Nat) (tg : Nat → Int32) (fn al : Nat → Bool) (Q : Nat) (u d : Nat → Nat) (p : Nat) : Prop :=
  (∀ n, n < J → al n = true → fn n = true → ∃ k, k < Q ∧ u k = n ∧ d k = 0) ∧ (∀ i, i < p → ∀ y, y < 8 * J → tg y = nI (u i) → al (y / 8) = true → ∃ k, k < Q ∧ u k = y / 8 ∧ d k ≤ d i + 1) ∧ (p < Q → ∀ i, i < Q → d i ≤ d p + 1)
theorem QI.done {J : Nat} {tg : Nat → Int32} {fn al : Nat → Bool} {F U : Nat → Int32} {Q : Nat} {u d : Nat → Nat} (h : QI J tg fn al J F U Q u d) (hp : QP J tg fn al Q u d Q) (hJ : J ≤ 150) (htg : ∀ y, y < 8 * J → tg y = -9 ∨ ∃ m, m < J ∧ tg y = nI m) : ∀ n, n < J → isFar J tg fn al n (F n) := by
  obtain ⟨h1, h2, h3, h4⟩ := h
  have hQ : Q ≤ J := by rw [← h1]; exact cnt_le _ _
  have key : ∀ k n, Rk J tg fn al k n → ∃ i, i < Q ∧ u i = n ∧ d i ≤ k := by
    intro k
    induction k with
    | zero =>
      intro n hn
      obtain ⟨i, a, b, c⟩ := hp.1 n hn.1 hn.2.1 hn.2.2
      exact ⟨i, a, b, by omega⟩
    | succ k ih =>
      intro n hn
      rcases hn with hn | ⟨a1, a2, e, m, he, hm, hr⟩
      · obtain ⟨i, a, b, c⟩ := ih n hn
        exact ⟨i, a, b, by omega⟩
      · obtain ⟨i, b1, b2, b3⟩ := ih m hr
        subst b2
        obtain ⟨k', c1, c2, c3⟩ := hp.2.1 i b1 (8 * n + e) (by omega) hm (by rw [show (8 * n + e) / 8 = n by omega]; exact a2)
        rw [show (8 * n + e) / 8 = n by omega] at c2
        exact ⟨k', c1, c2, by omega⟩
  have same : ∀ i i', i < Q → i' < Q → u i = u i' → d i = d i' := fun i i' hi hi' e => by
    have a := (h2 i hi).2.2.1
    have b := (h2 i' hi').2.2.1
    rw [e] at a
    have c1 := (h2 i hi).2.2.2.2
    have c2 := (h2 i' hi').2.2.2.2
    exact (nI_eq (by omega) (by omega)).mp (a.symm.trans b)
  intro n hn
  by_cases hx : ∃ k, Rk J tg fn al k n
  · obtain ⟨k0, hk0⟩ := hx
    obtain ⟨i, a, b, c⟩ := key k0 n hk0
    obtain ⟨b1, b2, b3, b4, b5⟩ := h2 i a
    subst b
    refine Or.inl ⟨d i, by omega, b3, b4, fun j hj hr => ?_⟩
    obtain ⟨i', a', b', c'⟩ := key j _ hr
    have := same i i' a a' b'.symm
    omega
  · refine Or.inr ⟨?_, fun k hk => hx ⟨k, hk⟩⟩
    rcases h4 n hn with a | ⟨i, a, b⟩
    · exact a
    · exact absurd ⟨d i, by rw [← b]; exact (h2 i a).2.2.2.1⟩ hx
