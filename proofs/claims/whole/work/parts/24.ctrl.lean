/-! UNDER CONTROL: what can be come to from START over KEPT ones; the first WORDS -/
def Uk (J : Nat) (tg : Nat → Int32) (kp : Nat → Bool) : Nat → Nat → Prop
  | 0, n => n = 0 ∧ 0 < J ∧ kp 0 = true
  | k + 1, n => Uk J tg kp k n ∨ (n < J ∧ kp n = true ∧ ∃ m e : Nat, e < 8 ∧ Uk J tg kp k m ∧ tg (8 * m + e) = nI n)
theorem Uk.lt {J : Nat} {tg : Nat → Int32} {kp : Nat → Bool} {k n : Nat} (h : Uk J tg kp k n) : n < J ∧ kp n = true := by
  induction k generalizing n with
  | zero => obtain ⟨rfl, a, b⟩ := h; exact ⟨a, b⟩
  | succ k ih =>
    rcases h with h | h
    · exact ih h
    · exact ⟨h.1, h.2.1⟩
def sumN (f : Nat → Nat) : Nat → Nat
  | 0 => 0
  | N + 1 => sumN f N + f N
theorem sum_ge (f : Nat → Nat) (n v : Nat) : ∀ N, N ≤ n → sumN (updN f n v) N = sumN f N := by
  intro N
  induction N with
  | zero => intro _; rfl
  | succ N ih =>
    intro h
    simp only [sumN]
    rw [ih (by omega), updN_n (by omega)]
theorem sum_upd {f : Nat → Nat} {n v : Nat} (h0 : f n = 0) : ∀ N, n < N → sumN (updN f n v) N = sumN f N + v := by
  intro N
  induction N with
  | zero => intro h; omega
  | succ N ih =>
    intro h
    simp only [sumN]
    by_cases hn : n = N
    · subst hn
      rw [sum_ge f n v n (Nat.le_refl _), updN_s, h0]
      omega
    · rw [ih (by omega), updN_n (fun q => hn q.symm)]
      omega
theorem sum_cong {f g : Nat → Nat} : ∀ N, (∀ n, n < N → f n = g n) → sumN f N = sumN g N := by
  intro N
  induction N with
  | zero => intro _; rfl
  | succ N ih =>
    intro h
    simp only [sumN]
    rw [ih (fun n hn => h n (by omega)), h N (by omega)]
theorem sum_le {f : Nat → Nat} {c : Nat} : ∀ N, (∀ n, n < N → f n ≤ c) → sumN f N ≤ c * N := by
  intro N
  induction N with
  | zero => intro _; simp [sumN]
  | succ N ih =>
    intro h
    simp only [sumN]
    have h1 := ih (fun n hn => h n (by omega))
    have h2 := h N (by omega)
    rw [Nat.mul_succ]
    omega
/-- the queue of those that are come to: Q of them; u the JOINT, d how deep, pa from which place, ev by which EVENT -/
def CI (J : Nat) (tg : Nat → Int32) (kp : Nat → Bool) (Dp Ed Qu : Nat → Int32) (Q : Nat) (u d pa ev : Nat → Nat) : Prop :=
  0 < Q ∧ u 0 = 0 ∧ d 0 = 0 ∧ cntF Dp J = Q ∧ (∀ i, i < Q → u i < J ∧ kp (u i) = true ∧ Qu i = nI (u i) ∧ Dp (u i) = nI (d i) ∧ d i ≤ i) ∧
  (∀ i, 0 < i → i < Q → pa i < i ∧ ev i < 8 ∧ tg (8 * u (pa i) + ev i) = nI (u i) ∧ d i = d (pa i) + 1 ∧ Ed (u i) = nI (8 * u (pa i) + ev i)) ∧
  (∀ i j, 0 < i → i < j → j < Q → 8 * pa i + ev i < 8 * pa j + ev j) ∧ (∀ n, n < J → Dp n = -9 ∨ ∃ i, i < Q ∧ u i = n) ∧ ∀ i j, i < Q → j < Q → u i = u j → i = j
/-- gone through up to x (8 places of the queue and an EVENT) -/
def CX (tg : Nat → Int32) (kp : Nat → Bool) (Q : Nat) (u pa ev : Nat → Nat) (x : Nat) : Prop :=
  (∀ i e, i < Q → e < 8 → 8 * i + e < x → ∀ m, m < 150 → tg (8 * u i + e) = nI m → kp m = true → ∃ j, j < Q ∧ u j = m ∧ (j = 0 ∨ 8 * pa j + ev j ≤ 8 * i + e)) ∧ ∀ i, 0 < i → i < Q → 8 * pa i + ev i < x
theorem CI.add {J : Nat} {tg : Nat → Int32} {kp : Nat → Bool} {Dp Ed Qu : Nat → Int32} {Q : Nat} {u d pa ev : Nat → Nat} (h : CI J tg kp Dp Ed Qu Q u d pa ev) (hJ : J ≤ 150) {p e m : Nat} (hX : CX tg kp Q u pa ev (8 * p + e)) (hp : p < Q) (he : e < 8) (hm : m < J) (hk : kp m = true) (ht : tg (8 * u p + e) = nI m) (h0 : Dp m = -9) :
    CI J tg kp (upd Dp m (nI (d p + 1))) (upd Ed m (nI (8 * u p + e))) (upd Qu Q (nI m)) (Q + 1) (updN u Q m) (updN d Q (d p + 1)) (updN pa Q p) (updN ev Q e) ∧ CX tg kp (Q + 1) (updN u Q m) (updN pa Q p) (updN ev Q e) (8 * p + e + 1) := by
  obtain ⟨a1, a2, a3, a4, a5, a6, a7, a8, a9⟩ := h
  have hQJ : Q ≤ J := by rw [← a4]; exact cnt_le _ _
  have hne : ∀ i, i < Q → u i ≠ m := fun i hi q => by
    have h1 := (a5 i hi).2.2.2.1
    have h2 := (a5 i hi).2.2.2.2
    rw [q, h0] at h1
    exact nI_z (by omega) h1.symm
  have hdp := (a5 p hp).2.2.2.2
  refine ⟨⟨by omega, ?_, ?_, ?_, fun i hi => ?_, fun i hi0 hi => ?_, fun i j hi0 hij hj => ?_, fun n hn => ?_, fun i j hi hj hu => ?_⟩, fun i e' hi he' hx m' hm5 hm' hk' => ?_, fun i hi0 hi => ?_⟩
  · rw [updN_n (by omega)]; exact a2
  · rw [updN_n (by omega)]; exact a3
  · rw [cnt_upd h0 (nI_z (by omega)) J hm, a4]
  · by_cases q : i = Q
    · subst q
      rw [updN_s, updN_s, pk_us, pk_us]
      exact ⟨hm, hk, rfl, rfl, by omega⟩
    · rw [updN_n q, updN_n q, pk_un q, pk_un (hne i (by omega))]
      exact a5 i (by omega)
  · by_cases q : i = Q
    · subst q
      rw [updN_s, updN_s, updN_s, updN_s, updN_n (show p ≠ i by omega), updN_n (show p ≠ i by omega), pk_us]
      exact ⟨hp, he, ht, rfl, rfl⟩
    · obtain ⟨b1, b2, b3, b4, b5⟩ := a6 i hi0 (by omega)
      rw [updN_n q, updN_n q, updN_n q, updN_n q, updN_n (show pa i ≠ Q by omega), updN_n (show pa i ≠ Q by omega), pk_un (hne i (by omega))]
      exact ⟨b1, b2, b3, b4, b5⟩
  · by_cases q : j = Q
    · subst q
      rw [updN_s, updN_s, updN_n (show i ≠ j by omega), updN_n (show i ≠ j by omega)]
      exact hX.2 i hi0 (by omega)
    · rw [updN_n q, updN_n q, updN_n (show i ≠ Q by omega), updN_n (show i ≠ Q by omega)]
      exact a7 i j hi0 hij (by omega)
  · by_cases q : n = m
    · subst q; exact Or.inr ⟨Q, by omega, updN_s⟩
    · rw [pk_un q]
      rcases a8 n hn with z | ⟨i, z1, z2⟩
      · exact Or.inl z
      · exact Or.inr ⟨i, by omega, by rw [updN_n (by omega)]; exact z2⟩
  · by_cases q : i = Q
    · by_cases q' : j = Q
      · omega
      · subst q
        rw [updN_s, updN_n q'] at hu
        exact absurd hu.symm (hne j (by omega))
    · by_cases q' : j = Q
      · subst q'
        rw [updN_s, updN_n q] at hu
        exact absurd hu (hne i (by omega))
      · rw [updN_n q, updN_n q'] at hu
        exact a9 i j (by omega) (by omega) hu
  · have hiQ : i ≠ Q := by omega
    rw [updN_n hiQ] at hm'
    by_cases q : 8 * i + e' = 8 * p + e
    · have h1 : i = p := by omega
      have h2 : e' = e := by omega
      subst h1 h2
      rw [ht] at hm'
      have hmm : m = m' := (nI_eq (by omega) (by omega)).mp hm'
      subst hmm
      exact ⟨Q, by omega, updN_s, Or.inr (by rw [updN_s, updN_s]; omega)⟩
    · obtain ⟨j, c1, c2, c3⟩ := hX.1 i e' (by omega) he' (by omega) m' hm5 hm' hk'
      exact ⟨j, by omega, by rw [updN_n (by omega)]; exact c2, by rw [updN_n (by omega), updN_n (by omega)]; exact c3⟩
  · by_cases q : i = Q
    · subst q; rw [updN_s, updN_s]; omega
    · rw [updN_n q, updN_n q]
      have := hX.2 i hi0 (by omega)
      omega
/-- an EVENT that leads nowhere new -/
theorem CX.skip {tg : Nat → Int32} {kp : Nat → Bool} {Q : Nat} {u pa ev : Nat → Nat} {p e : Nat} (hX : CX tg kp Q u pa ev (8 * p + e)) (he : e < 8) (h : ∀ m, m < 150 → tg (8 * u p + e) = nI m → kp m = true → ∃ j, j < Q ∧ u j = m) : CX tg kp Q u pa ev (8 * p + e + 1) := by
  refine ⟨fun i e' hi he' hx m hm5 hm hk => ?_, fun i hi0 hi => by have := hX.2 i hi0 hi; omega⟩
  by_cases q : 8 * i + e' = 8 * p + e
  · have h1 : i = p := by omega
    have h2 : e' = e := by omega
    subst h1 h2
    obtain ⟨j, c1, c2⟩ := h m hm5 hm hk
    refine ⟨j, c1, c2, ?_⟩
    by_cases hj : j = 0
    · exact Or.inl hj
    · right
      have := hX.2 j (by omega) c1
      omega
  · exact hX.1 i e' hi he' (by omega) m hm5 hm hk
section Word
variable {J : Nat} {tg : Nat → Int32} {kp : Nat → Bool} {Dp Ed Qu : Nat → Int32} {Q : Nat} {u d pa ev : Nat → Nat}
theorem CI.dmono (h : CI J tg kp Dp Ed Qu Q u d pa ev) : ∀ j, j < Q → ∀ i, i ≤ j → d i ≤ d j := by
  obtain ⟨a1, a2, a3, a4, a5, a6, a7, a8, a9⟩ := h
  intro j
  induction j using Nat.strongRecOn with
  | ind j ih =>
    intro hj i hi
    by_cases h0 : i = 0
    · subst h0; omega
    · by_cases hij : i = j
      · subst hij; exact Nat.le_refl _
      · obtain ⟨b1, b2, b3, b4, b5⟩ := a6 i (by omega) (by omega)
        obtain ⟨c1, c2, c3, c4, c5⟩ := a6 j (by omega) hj
        have h1 := a7 i j (by omega) (by omega) hj
        have h2 : pa i ≤ pa j := by omega
        have := ih (pa j) c1 (by omega) (pa i) h2
        omega
/-- what is UNDER CONTROL is what is come to -/
theorem CI.uc (h : CI J tg kp Dp Ed Qu Q u d pa ev) (hX : CX tg kp Q u pa ev (8 * Q)) (hJ : J ≤ 150) (hk0 : kp 0 = true) (hJ0 : 0 < J) {n : Nat} (hn : n < J) : (∃ k, Uk J tg kp k n) ↔ Dp n ≠ -9 := by
  have hQJ : Q ≤ J := by rw [← h.2.2.2.1]; exact cnt_le _ _
  have in1 : ∀ k n, Uk J tg kp k n → ∃ i, i < Q ∧ u i = n := by
    intro k
    induction k with
    | zero => rintro n ⟨rfl, -, -⟩; exact ⟨0, h.1, h.2.1⟩
    | succ k ih =>
      rintro n (q | ⟨a, b, m, e, he, c, hm⟩)
      · exact ih n q
      · obtain ⟨i, hi, rfl⟩ := ih m c
        obtain ⟨j, c1, c2, -⟩ := hX.1 i e hi he (by omega) n (by omega) hm b
        exact ⟨j, c1, c2⟩
  have in2 : ∀ i, i < Q → ∃ k, Uk J tg kp k (u i) := by
    intro i
    induction i using Nat.strongRecOn with
    | ind i ih =>
      intro hi
      by_cases h0 : i = 0
      · subst h0
        rw [h.2.1]
        exact ⟨0, rfl, hJ0, hk0⟩
      · obtain ⟨b1, b2, b3, b4, b5⟩ := h.2.2.2.2.2.1 i (by omega) hi
        obtain ⟨k, hk⟩ := ih (pa i) b1 (by omega)
        obtain ⟨c1, c2, -⟩ := h.2.2.2.2.1 i hi
        exact ⟨k + 1, Or.inr ⟨c1, c2, _, _, b2, hk, b3⟩⟩
  constructor
  · rintro ⟨k, hk⟩
    obtain ⟨i, hi, rfl⟩ := in1 k n hk
    obtain ⟨-, -, -, c4, c5⟩ := h.2.2.2.2.1 i hi
    rw [c4]
    exact nI_z (by omega)
  · intro q
    rcases h.2.2.2.2.2.2.2.1 n hn with z | ⟨i, hi, rfl⟩
    · exact absurd z q
    · exact in2 i hi
def upP (pa : Nat → Nat) : Nat → Nat → Nat
  | 0, i => i
  | s + 1, i => pa (upP pa s i)
theorem CI.up (h : CI J tg kp Dp Ed Qu Q u d pa ev) {i : Nat} (hi : i < Q) : ∀ s, s ≤ d i → upP pa s i ≤ i ∧ d (upP pa s i) = d i - s := by
  intro s
  induction s with
  | zero => intro _; exact ⟨Nat.le_refl _, rfl⟩
  | succ s ih =>
    intro hs
    obtain ⟨b1, b2⟩ := ih (by omega)
    have h0 : 0 < upP pa s i := by
      apply Classical.byContradiction
      intro q
      have : upP pa s i = 0 := by omega
      rw [this, h.2.2.1] at b2
      omega
    obtain ⟨c1, c2, c3, c4, c5⟩ := h.2.2.2.2.2.1 (upP pa s i) h0 (by omega)
    show pa (upP pa s i) ≤ i ∧ d (pa (upP pa s i)) = d i - (s + 1)
    exact ⟨by omega, by omega⟩
/-- an EVENT by which one comes to a JOINT of uc that is so far -/
def ndB (J : Nat) (tg : Nat → Int32) (uc : Nat → Bool) (F : Nat → Int32) (v : Int32) (n e : Nat) : Bool := inR J (tg (8 * n + e)) && (uc (tg (8 * n + e)).toNatClampNeg && decide (F (tg (8 * n + e)).toNatClampNeg = v))
theorem ndB_iff {F : Nat → Int32} {v : Int32} {n e : Nat} {uc : Nat → Bool} (hJ : J ≤ 150) : ndB J tg uc F v n e = true ↔ ∃ m, m < J ∧ tg (8 * n + e) = nI m ∧ uc m = true ∧ F m = v := by
  unfold ndB
  simp only [Bool.and_eq_true, decide_eq_true_eq]
  constructor
  · rintro ⟨a, b, c⟩
    obtain ⟨m, hm, hme⟩ := vp_in_of (inR_iff.mp a) (by omega)
    rw [hme, nI_clamp (by omega)] at b c
    exact ⟨m, hm, hme, b, c⟩
  · rintro ⟨m, a, b, c, e⟩
    rw [b, nI_clamp (by omega)]
    exact ⟨inR_nI a (by omega), c, e⟩
/-- of all shortest ways to u i the queue's is the first: at each JOINT of it the least EVENT by which one comes nearer is the queue's -/
theorem CI.first (h : CI J tg kp Dp Ed Qu Q u d pa ev) (hX : CX tg kp Q u pa ev (8 * Q)) (hJ : J ≤ 150) {uc : Nat → Bool} (huc : ∀ n, n < J → (uc n = true ↔ ∃ i, i < Q ∧ u i = n)) {i : Nat} (hi : i < Q) {F : Nat → Int32} (hF : ∀ n, n < J → isFar J tg (fun m => decide (m = u i)) uc n (F n)) :
    (∀ s, s ≤ d i → F (u (upP pa s i)) = nI s) ∧ ∀ s, s < d i → lstE (ndB J tg uc F (nI s) (u (upP pa (s + 1) i))) = nI (ev (upP pa s i)) := by
  have hmono := h.dmono
  have hup := h.up hi
  obtain ⟨a1, a2, a3, a4, a5, a6, a7, a8, a9⟩ := h
  have hQJ : Q ≤ J := by rw [← a4]; exact cnt_le _ _
  have hdi := (a5 i hi).2.2.2.2
  have ucu : ∀ j, j < Q → uc (u j) = true := fun j hj => (huc _ (a5 j hj).1).mpr ⟨j, hj, rfl⟩
  have pos : ∀ s, s < d i → 0 < upP pa s i := fun s hs => by
    apply Classical.byContradiction
    intro q
    have h0 : upP pa s i = 0 := by omega
    have := (hup s (by omega)).2
    rw [h0, a3] at this
    omega
  have lA : ∀ s, s ≤ d i → Rk J tg (fun m => decide (m = u i)) uc s (u (upP pa s i)) := by
    intro s
    induction s with
    | zero => intro _; exact ⟨(a5 i hi).1, ucu i hi, decide_eq_true rfl⟩
    | succ s ih =>
      intro hs
      have hC := (hup s (by omega)).1
      obtain ⟨b1, b2, b3, b4, b5⟩ := a6 (upP pa s i) (pos s (by omega)) (by omega)
      exact Or.inr ⟨(a5 (pa (upP pa s i)) (by omega)).1, ucu (pa (upP pa s i)) (by omega), ev (upP pa s i), u (upP pa s i), b2, b3, ih (by omega)⟩
  have edge : ∀ j e m, j < Q → e < 8 → m < J → tg (8 * u j + e) = nI m → uc m = true → ∃ j', j' < Q ∧ u j' = m ∧ (j' = 0 ∨ 8 * pa j' + ev j' ≤ 8 * j + e) := by
    intro j e m hj he hm ht hu
    obtain ⟨j1, c1, c2⟩ := (huc m hm).mp hu
    exact hX.1 j e hj he (by omega) m (by omega) ht (by rw [← c2]; exact (a5 j1 c1).2.1)
  have lB : ∀ k n, Rk J tg (fun m => decide (m = u i)) uc k n → ∃ j, j < Q ∧ u j = n ∧ d i ≤ d j + k := by
    intro k
    induction k with
    | zero =>
      rintro n ⟨-, -, c⟩
      exact ⟨i, hi, (of_decide_eq_true c).symm, Nat.le_refl _⟩
    | succ k ih =>
      rintro n (q | ⟨b1, b2, e, m, b3, b4, b5⟩)
      · obtain ⟨j, c1, c2, c3⟩ := ih n q
        exact ⟨j, c1, c2, by omega⟩
      · obtain ⟨j', c1, c2, c3⟩ := ih m b5
        obtain ⟨j, e1, e2⟩ := (huc n b1).mp b2
        subst e2
        obtain ⟨j2, f1, f2, f3⟩ := edge j e m e1 b3 b5.lt.1 b4 b5.lt.2
        have hjj : j2 = j' := a9 j2 j' f1 c1 (f2.trans c2.symm)
        subst hjj
        refine ⟨j, e1, rfl, ?_⟩
        rcases f3 with f3 | f3
        · subst f3; rw [a3] at c3; omega
        · by_cases hz : j2 = 0
          · subst hz; rw [a3] at c3; omega
          · obtain ⟨g1, g2, g3, g4, g5⟩ := a6 j2 (by omega) f1
            have := hmono j e1 (pa j2) (by omega)
            omega
  have lF : ∀ s, s ≤ d i → F (u (upP pa s i)) = nI s := by
    intro s hs
    have hC := hup s hs
    rcases hF (u (upP pa s i)) (a5 _ (by omega)).1 with ⟨k, k1, k2, k3, k4⟩ | ⟨-, k2⟩
    · obtain ⟨j, c1, c2, c3⟩ := lB k _ k3
      have hjj : j = upP pa s i := a9 j _ c1 (by omega) c2
      subst hjj
      have : ¬ s < k := fun q => k4 s q (lA s hs)
      rw [k2, show k = s by omega]
    · exact absurd (lA s hs) (k2 s)
  have less : ∀ j C, j < Q → 0 < C → C < Q → (j = 0 ∨ 8 * pa j + ev j < 8 * pa C + ev C) → j < C := by
    intro j C hj hC0 hC q
    apply Classical.byContradiction
    intro z
    rcases q with q | q
    · omega
    · by_cases e : j = C
      · subst e; omega
      · have := a7 C j hC0 (by omega) hj
        omega
  have lC : ∀ s, s ≤ d i → ∀ j, j < upP pa s i → ¬ Rk J tg (fun m => decide (m = u i)) uc s (u j) := by
    intro s
    induction s with
    | zero =>
      intro _ j hj q
      have : j < i := hj
      have := a9 j i (by omega) hi (of_decide_eq_true q.2.2)
      omega
    | succ s ih =>
      intro hs j hj q
      have hP := hup (s + 1) hs
      have hC := hup s (by omega)
      rcases q with q | ⟨b1, b2, e, m, b3, b4, b5⟩
      · obtain ⟨j', c1, c2, c3⟩ := lB s _ q
        have hjj : j' = j := a9 j' j c1 (by omega) c2
        subst hjj
        have := hmono (upP pa (s + 1) i) (by omega) j' (by omega)
        omega
      · obtain ⟨j2, f1, f2, f3⟩ := edge j e m (by omega) b3 b5.lt.1 b4 b5.lt.2
        have hpa : pa (upP pa s i) = upP pa (s + 1) i := rfl
        have hlt : j2 < upP pa s i := less j2 _ f1 (pos s (by omega)) (by omega) (f3.elim Or.inl (fun z => Or.inr (by omega)))
        exact ih (by omega) j2 hlt (by rw [f2]; exact b5)
  refine ⟨lF, fun s hs => ?_⟩
  have hC := hup s (by omega)
  have hpa : pa (upP pa s i) = upP pa (s + 1) i := rfl
  obtain ⟨g1, g2, g3, g4, g5⟩ := a6 (upP pa s i) (pos s hs) (by omega)
  refine lst_hit g2 ((ndB_iff hJ).mpr ⟨u (upP pa s i), (a5 _ (by omega)).1, g3, ucu _ (by omega), lF s (by omega)⟩) (fun e he => ?_)
  cases hq : ndB J tg uc F (nI s) (u (upP pa (s + 1) i)) e with
  | false => rfl
  | true =>
    obtain ⟨m, b1, b2, b3, b4⟩ := (ndB_iff hJ).mp hq
    obtain ⟨j2, f1, f2, f3⟩ := edge (upP pa (s + 1) i) e m (by omega) (by omega) b1 b2 b3
    have hlt : j2 < upP pa s i := less j2 _ f1 (pos s hs) (by omega) (f3.elim Or.inl (fun z => Or.inr (by omega)))
    refine absurd ?_ (lC s (by omega) j2 hlt)
    rcases hF m b1 with ⟨k, k1, k2, k3, k4⟩ | ⟨k1, -⟩
    · rw [b4] at k2
      have : s = k := (nI_eq (by omega) (by omega)).mp k2
      subst this
      rw [f2]
      exact k3
    · rw [b4] at k1
      exact absurd k1 (nI_z (by omega))
end Word
