/-! BOTH: the two objects hold the same; each call's answers are equal, and they hold the same again -/
def BOTH (σ1 σ2 : Mm) : Prop := ∃ (n : Nat) (t : Nat → Int32) (N : Nat) (K : Nat → Int32) (M : Nat → MV) (fs : Int32) (h : List Int32) (pl : Int32), R1 σ1 n t N K M fs h pl ∧ R2 σ2 n t N K M fs h pl
def PAIR (A B : (Int32 → Mm → Prop) → Prop) : Prop := ∃ P Q : Int32 → Mm → Prop, A P ∧ B Q ∧ ∀ r σ r' σ', P r σ → Q r' σ' → r = r' ∧ BOTH σ σ'
theorem rd_cong {f g : Nat → Int32} {n : Nat} (h : ∀ i, i < n → f i = g i) : ∀ k p s, p + k ≤ n → rdGo f k p s = rdGo g k p s := by
  intro k
  induction k with
  | zero => intro p s _; rfl
  | succ k ih =>
    intro p s hp
    simp only [rdGo]
    rw [h p (by omega)]
    cases rdStep s (g p) with
    | none => rfl
    | some s' => exact ih (p + 1) s' (by omega)
section Both
variable {σ1 σ2 : Mm}
theorem p_type (c : Int32) (hB : BOTH σ1 σ2) : PAIR (EV Γ1 1 yX7_type cX7_type 2 (some .int) [.inr 0, .inl c] σ1) (EV Γ2 1 yX8_type cX8_type 2 (some .int) [.inr 0, .inl c] σ2) := by
  obtain ⟨n, t, N, K, M, fs, h, pl, q1, q2⟩ := hB
  refine ⟨_, _, c_X7_type c q1, c_X8_type c q2, ?_⟩
  rintro r σ r' σ' (⟨a, rfl, rfl⟩ | ⟨a, b, rfl, rfl⟩ | ⟨a, b, rfl, d⟩) (⟨a', rfl, rfl⟩ | ⟨a', b', rfl, rfl⟩ | ⟨a', b', rfl, d'⟩)
  · exact ⟨rfl, n, t, N, K, M, fs, h, pl, q1, q2⟩
  · exact absurd a a'
  · exact absurd a a'
  · exact absurd a' a
  · exact ⟨rfl, n, t, N, K, M, fs, h, pl, q1, q2⟩
  · omega
  · exact absurd a' a
  · omega
  · exact ⟨rfl, n + 1, _, N, K, M, fs, h, pl, d, d'⟩
theorem p_wipe (hB : BOTH σ1 σ2) : PAIR (EV Γ1 1 yX7_wipe cX7_wipe 2 (some .int) [.inr 0] σ1) (EV Γ2 0 yX8_wipe cX8_wipe 2 (some .int) [.inr 0] σ2) := by
  obtain ⟨n, t, N, K, M, fs, h, pl, q1, q2⟩ := hB
  refine ⟨_, _, c_X7_wipe q1, c_X8_wipe q2, ?_⟩
  rintro r σ r' σ' ⟨rfl, a⟩ ⟨rfl, b⟩
  exact ⟨rfl, 0, t, N, K, M, fs, h, pl, a, b⟩
theorem p_machine (kind : Int32) (hB : BOTH σ1 σ2) : PAIR (EV Γ1 6 yX7_machine cX7_machine 3 (some .int) [.inr 0, .inl kind] σ1) (EV Γ2 5 yX8_machine cX8_machine 4 (some .int) [.inr 0, .inl kind] σ2) := by
  obtain ⟨n, t, N, K, M, fs, h, pl, q1, q2⟩ := hB
  refine ⟨_, _, c_X7_machine kind q1, c_X8_machine kind q2, ?_⟩
  have hrow : ∀ fr ev : Int32, rdGo (σ1 2) n 0 (0, fr, ev, mv0) = rdGo (σ2 1) n 0 (0, fr, ev, mv0) := fun fr ev => rd_cong (n := n) (fun i hi => by rw [q1.1.2.2.1 i hi, q2.1.2.2.1 i hi]) n 0 _ (by omega)
  rintro r σ r' σ' (⟨a, rfl, rfl⟩ | ⟨a, b, rfl, rfl⟩ | ⟨a, b, fr, ev, d⟩) (⟨a', rfl, rfl⟩ | ⟨a', b', rfl, rfl⟩ | ⟨a', b', d'⟩)
  · exact ⟨rfl, n, t, N, K, M, fs, h, pl, q1, q2⟩
  · exact absurd a' a
  · exact absurd a' a
  · exact absurd a a'
  · exact ⟨rfl, n, t, N, K, M, fs, h, pl, q1, q2⟩
  · omega
  · exact absurd a a'
  · omega
  · have d2 := d' fr ev
    rw [hrow] at d
    cases hx : rdEnd n (rdGo (σ2 1) n 0 (0, fr, ev, mv0)) with
    | inl p =>
      rw [hx] at d d2
      exact ⟨d.1.trans d2.1.symm, n, t, N, K, M, fs, h, pl, d.2, d2.2⟩
    | inr v =>
      rw [hx] at d d2
      exact ⟨d.1.trans d2.1.symm, 0, t, N + 1, _, _, fs, [], 0, d.2, d2.2⟩
theorem p_drop (hB : BOTH σ1 σ2) : PAIR (EV Γ1 6 yX7_drop cX7_drop 1 (some .int) [.inr 0] σ1) (EV Γ2 1 yX8_drop cX8_drop 1 (some .int) [.inr 0] σ2) := by
  obtain ⟨n, t, N, K, M, fs, h, pl, q1, q2⟩ := hB
  refine ⟨_, _, c_X7_drop q1, c_X8_drop q2, ?_⟩
  rintro r σ r' σ' (⟨a, rfl, rfl⟩ | ⟨N', a, rfl, d⟩) (⟨a', rfl, rfl⟩ | ⟨N2, a', rfl, d'⟩)
  · exact ⟨rfl, n, t, N, K, M, fs, h, pl, q1, q2⟩
  · omega
  · omega
  · obtain rfl : N' = N2 := by omega
    exact ⟨rfl, n, t, N', K, M, fs, [], 0, d, d'⟩
theorem p_anew (hB : BOTH σ1 σ2) : PAIR (EV Γ1 6 yX7_anew cX7_anew 2 (some .int) [.inr 0] σ1) (EV Γ2 1 yX8_anew cX8_anew 2 (some .int) [.inr 0] σ2) := by
  obtain ⟨n, t, N, K, M, fs, h, pl, q1, q2⟩ := hB
  refine ⟨_, _, c_X7_anew q1, c_X8_anew q2, ?_⟩
  rintro r σ r' σ' ⟨rfl, a⟩ ⟨rfl, b⟩
  exact ⟨rfl, n, t, 0, K, M, 0, [], 0, a, b⟩
theorem p_free (e v : Int32) (hB : BOTH σ1 σ2) : PAIR (EV Γ1 6 yX7_free cX7_free 4 (some .int) [.inr 0, .inl e, .inl v] σ1) (EV Γ2 2 yX8_free cX8_free 4 (some .int) [.inr 0, .inl e, .inl v] σ2) := by
  obtain ⟨n, t, N, K, M, fs, h, pl, q1, q2⟩ := hB
  refine ⟨_, _, c_X7_free e v q1, c_X8_free e v q2, ?_⟩
  rintro r σ r' σ' (⟨a, rfl, rfl⟩ | ⟨a, b, rfl, rfl⟩ | ⟨a, b, rfl, d⟩) (⟨a', rfl, rfl⟩ | ⟨a', b', rfl, rfl⟩ | ⟨a', b', rfl, d'⟩)
  · exact ⟨rfl, n, t, N, K, M, fs, h, pl, q1, q2⟩
  · exact absurd a' a
  · exact absurd a' a
  · exact absurd a a'
  · exact ⟨rfl, n, t, N, K, M, fs, h, pl, q1, q2⟩
  · exact absurd b' b
  · exact absurd a a'
  · exact absurd b b'
  · exact ⟨rfl, n, t, N, K, M, _, [], 0, d, d'⟩
theorem p_ofMachine (m what : Int32) (hB : BOTH σ1 σ2) : PAIR (EV Γ1 1 yX7_ofMachine cX7_ofMachine 4 (some .int) [.inr 0, .inl m, .inl what] σ1) (EV Γ2 2 yX8_ofMachine cX8_ofMachine 3 (some .int) [.inr 0, .inl m, .inl what] σ2) := by
  obtain ⟨n, t, N, K, M, fs, h, pl, q1, q2⟩ := hB
  have h6 := q1.1.2.2.2.2.1
  refine ⟨_, _, c_X7_ofMachine m what q1, c_X8_ofMachine m what q2, ?_⟩
  rintro r σ r' σ' ⟨rfl, ⟨a, rfl⟩ | ⟨i, a, b, rfl⟩⟩ ⟨rfl, ⟨a', rfl⟩ | ⟨i', a', b', rfl⟩⟩
  · exact ⟨rfl, n, t, N, K, M, fs, h, pl, q1, q2⟩
  · exact absurd (by rw [b']; exact vp_in_nI a' (by omega)) a
  · exact absurd (by rw [b]; exact vp_in_nI a (by omega)) a'
  · obtain rfl : i = i' := (nI_eq (by omega) (by omega)).mp (b.symm.trans b')
    exact ⟨rfl, n, t, N, K, M, fs, h, pl, q1, q2⟩
theorem p_step (m s e : Int32) (hB : BOTH σ1 σ2) : PAIR (EV Γ1 2 yX7_step cX7_step 4 (some .int) [.inr 0, .inl m, .inl s, .inl e] σ1) (EV Γ2 2 yX8_step cX8_step 4 (some .int) [.inr 0, .inl m, .inl s, .inl e] σ2) := by
  obtain ⟨n, t, N, K, M, fs, h, pl, q1, q2⟩ := hB
  have h6 := q1.1.2.2.2.2.1
  refine ⟨_, _, c_X7_step m s e q1, c_X8_step m s e q2, ?_⟩
  rintro r σ r' σ' ⟨rfl, ⟨a, rfl⟩ | ⟨i, x, y, a1, a2, a3, b1, b2, b3, rfl⟩⟩ ⟨rfl, ⟨a', rfl⟩ | ⟨i', x', y', a1', a2', a3', b1', b2', b3', rfl⟩⟩
  · exact ⟨rfl, n, t, N, K, M, fs, h, pl, q1, q2⟩
  · exact absurd ⟨by rw [b1']; exact vp_in_nI a1' (by omega), by rw [b2']; exact vp_in_nI a2' (by omega), by rw [b3']; exact vp_in_nI a3' (by omega)⟩ a
  · exact absurd ⟨by rw [b1]; exact vp_in_nI a1 (by omega), by rw [b2]; exact vp_in_nI a2 (by omega), by rw [b3]; exact vp_in_nI a3 (by omega)⟩ a'
  · obtain rfl : i = i' := (nI_eq (by omega) (by omega)).mp (b1.symm.trans b1')
    obtain rfl : x = x' := (nI_eq (by omega) (by omega)).mp (b2.symm.trans b2')
    obtain rfl : y = y' := (nI_eq (by omega) (by omega)).mp (b3.symm.trans b3')
    exact ⟨rfl, n, t, N, K, M, fs, h, pl, q1, q2⟩
theorem p_stateOf (a b : Int32) (hB : BOTH σ1 σ2) : PAIR (EV Γ1 2 yX7_stateOf cX7_stateOf 3 (some .int) [.inr 0, .inl a, .inl b] σ1) (EV Γ2 6 yX8_stateOf cX8_stateOf 3 (some .int) [.inr 0, .inl a, .inl b] σ2) := by
  obtain ⟨n, t, N, K, M, fs, h, pl, q1, q2⟩ := hB
  refine ⟨_, _, c_X7_stateOf a b q1, c_X8_stateOf a b q2, ?_⟩
  rintro r σ r' σ' ⟨rfl, x⟩ ⟨y, z⟩
  exact ⟨x.uniq z, n, t, N, K, M, fs, h, pl, q1, y⟩
theorem p_leads (a b : Int32) (hB : BOTH σ1 σ2) : PAIR (EV Γ1 2 yX7_leads cX7_leads 3 (some .int) [.inr 0, .inl a, .inl b] σ1) (EV Γ2 6 yX8_leads cX8_leads 3 (some .int) [.inr 0, .inl a, .inl b] σ2) := by
  obtain ⟨n, t, N, K, M, fs, h, pl, q1, q2⟩ := hB
  refine ⟨_, _, c_X7_leads a b q1, c_X8_leads a b q2, ?_⟩
  rintro r σ r' σ' ⟨rfl, x⟩ ⟨y, z⟩
  exact ⟨x.uniq z, n, t, N, K, M, fs, h, pl, q1, y⟩
theorem p_joint (a b : Int32) (hB : BOTH σ1 σ2) : PAIR (EV Γ1 4 yX7_joint cX7_joint 3 (some .int) [.inr 0, .inl a, .inl b] σ1) (EV Γ2 6 yX8_joint cX8_joint 3 (some .int) [.inr 0, .inl a, .inl b] σ2) := by
  obtain ⟨n, t, N, K, M, fs, h, pl, q1, q2⟩ := hB
  refine ⟨_, _, c_X7_joint a b q1, c_X8_joint a b q2, ?_⟩
  rintro r σ r' σ' ⟨rfl, x⟩ ⟨y, z⟩
  exact ⟨x.uniq z, n, t, N, K, M, fs, h, pl, q1, y⟩
theorem p_why (a b c : Int32) (hB : BOTH σ1 σ2) : PAIR (EV Γ1 4 yX7_why cX7_why 5 (some .int) [.inr 0, .inl a, .inl b, .inl c] σ1) (EV Γ2 6 yX8_why cX8_why 6 (some .int) [.inr 0, .inl a, .inl b, .inl c] σ2) := by
  obtain ⟨n, t, N, K, M, fs, h, pl, q1, q2⟩ := hB
  refine ⟨_, _, c_X7_why a b c q1, c_X8_why a b c q2, ?_⟩
  rintro r σ r' σ' ⟨rfl, x⟩ ⟨y, z⟩
  exact ⟨x.uniq z, n, t, N, K, M, fs, h, pl, q1, y⟩
theorem p_wave (a : Int32) (hB : BOTH σ1 σ2) : PAIR (EV Γ1 1 yX7_wave cX7_wave 2 (some .int) [.inr 0, .inl a] σ1) (EV Γ2 5 yX8_wave cX8_wave 4 (some .int) [.inr 0, .inl a] σ2) := by
  obtain ⟨n, t, N, K, M, fs, h, pl, q1, q2⟩ := hB
  refine ⟨_, _, c_X7_wave a q1, c_X8_wave a q2, ?_⟩
  rintro r σ r' σ' ⟨rfl, x⟩ ⟨y, z⟩
  exact ⟨x.uniq z, n, t, N, K, M, fs, h, pl, q1, y⟩
theorem p_some (a b : Int32) (hB : BOTH σ1 σ2) : PAIR (EV Γ1 6 yX7_some cX7_some 3 (some .int) [.inr 0, .inl a, .inl b] σ1) (EV Γ2 3 yX8_some cX8_some 5 (some .int) [.inr 0, .inl a, .inl b] σ2) := by
  obtain ⟨n, t, N, K, M, fs, h, pl, q1, q2⟩ := hB
  refine ⟨_, _, c_X7_some a b q1, c_X8_some a b q2, ?_⟩
  rintro r σ r' σ' (⟨x, rfl, rfl⟩ | ⟨x, x2, x3, x4⟩) (⟨y, rfl, y2⟩ | ⟨y, y2, y3, y4⟩)
  · exact ⟨rfl, n, t, N, K, M, fs, h, pl, q1, y2⟩
  · exact absurd ⟨y, y2⟩ x
  · exact absurd ⟨x, x2⟩ y
  · exact ⟨x3.uniq y3, n, t, N, K, M, fs, h, pl, x4, y4⟩
theorem p_go (e : Int32) (hB : BOTH σ1 σ2) : PAIR (EV Γ1 3 yX7_go cX7_go 3 (some .int) [.inr 0, .inl e] σ1) (EV Γ2 6 yX8_go cX8_go 4 (some .int) [.inr 0, .inl e] σ2) := by
  obtain ⟨n, t, N, K, M, fs, h, pl, q1, q2⟩ := hB
  refine ⟨_, _, c_X7_go e q1, c_X8_go e q2, ?_⟩
  rintro r σ r' σ' (⟨x, rfl, rfl⟩ | ⟨x, x2, rfl, rfl⟩ | ⟨x, x2, k, x3, x4⟩) (⟨y, rfl, y0⟩ | ⟨y, y2, rfl, y0⟩ | ⟨y, y2, k', y3, y4⟩)
  · exact ⟨rfl, n, t, N, K, M, fs, h, pl, q1, y0⟩
  · exact absurd y x
  · exact absurd y x
  · exact absurd x y
  · exact ⟨rfl, n, t, N, K, M, fs, h, pl, q1, y0⟩
  · exact absurd x2 y2
  · exact absurd x y
  · exact absurd y2 x2
  · obtain rfl : k = k' := lossK.uniq x3 y3
    rcases x4 with ⟨z, rfl, rfl⟩ | ⟨z, ⟨z1, rfl, rfl⟩ | ⟨j, z1, z2, z3, rfl, z4⟩⟩ <;> rcases y4 with ⟨w, rfl, w0⟩ | ⟨w, ⟨w1, rfl, w0⟩ | ⟨j', w1, w2, w3, rfl, w4⟩⟩
    · exact ⟨rfl, n, t, N, K, M, fs, h, pl, q1, w0⟩
    · exact absurd w z
    · exact absurd w z
    · exact absurd z w
    · exact ⟨rfl, n, t, N, K, M, fs, h, pl, q1, w0⟩
    · exact absurd ⟨j', w1, w2, w3⟩ z1
    · exact absurd z w
    · exact absurd ⟨j, z1, z2, z3⟩ w1
    · have e : nI j = nI j' := z2.symm.trans w2
      rw [← e] at w4
      exact ⟨e, n, t, N, K, M, fs, _, _, z4, w4⟩
theorem p_back (hB : BOTH σ1 σ2) : PAIR (EV Γ1 2 yX7_back cX7_back 1 (some .int) [.inr 0] σ1) (EV Γ2 0 yX8_back cX8_back 1 (some .int) [.inr 0] σ2) := by
  obtain ⟨n, t, N, K, M, fs, h, pl, q1, q2⟩ := hB
  refine ⟨_, _, c_X7_back q1, c_X8_back q2, ?_⟩
  rintro r σ r' σ' (⟨x, rfl, rfl⟩ | ⟨a, h', x, rfl, x2⟩) (⟨y, rfl, rfl⟩ | ⟨b, h2, y, rfl, y2⟩)
  · exact ⟨rfl, n, t, N, K, M, fs, h, pl, q1, q2⟩
  · rw [x] at y; cases y
  · rw [y] at x; cases x
  · rw [x] at y
    cases y
    exact ⟨rfl, n, t, N, K, M, fs, _, _, x2, y2⟩
theorem p_at (hB : BOTH σ1 σ2) : PAIR (EV Γ1 3 yX7_at cX7_at 1 (some .int) [.inr 0] σ1) (EV Γ2 6 yX8_at cX8_at 1 (some .int) [.inr 0] σ2) := by
  obtain ⟨n, t, N, K, M, fs, h, pl, q1, q2⟩ := hB
  refine ⟨_, _, c_X7_at q1, c_X8_at q2, ?_⟩
  rintro r σ r' σ' ⟨rfl, x⟩ ⟨y, z⟩
  exact ⟨x.uniq z, n, t, N, K, M, fs, h, pl, q1, y⟩
theorem p_finish (a : Int32) (hB : BOTH σ1 σ2) : PAIR (EV Γ1 4 yX7_finish cX7_finish 2 (some .int) [.inr 0, .inl a] σ1) (EV Γ2 6 yX8_finish cX8_finish 3 (some .int) [.inr 0, .inl a] σ2) := by
  obtain ⟨n, t, N, K, M, fs, h, pl, q1, q2⟩ := hB
  refine ⟨_, _, c_X7_finish a q1, c_X8_finish a q2, ?_⟩
  rintro r σ r' σ' ⟨rfl, x⟩ ⟨y, z⟩
  exact ⟨x.uniq z, n, t, N, K, M, fs, h, pl, q1, y⟩
theorem p_word (a b : Int32) (hB : BOTH σ1 σ2) : PAIR (EV Γ1 3 yX7_word cX7_word 3 (some .int) [.inr 0, .inl a, .inl b] σ1) (EV Γ2 6 yX8_word cX8_word 4 (some .int) [.inr 0, .inl a, .inl b] σ2) := by
  obtain ⟨n, t, N, K, M, fs, h, pl, q1, q2⟩ := hB
  refine ⟨_, _, c_X7_word a b q1, c_X8_word a b q2, ?_⟩
  rintro r σ r' σ' ⟨rfl, x⟩ ⟨y, z⟩
  exact ⟨x.uniq z, n, t, N, K, M, fs, h, pl, q1, y⟩
theorem p_many (a : Int32) (hB : BOTH σ1 σ2) : PAIR (EV Γ1 0 yX7_many cX7_many 2 (some .int) [.inr 0, .inl a] σ1) (EV Γ2 5 yX8_many cX8_many 7 (some .int) [.inr 0, .inl a] σ2) := by
  obtain ⟨n, t, N, K, M, fs, h, pl, q1, q2⟩ := hB
  refine ⟨_, _, c_X7_many a q1, c_X8_many a q2, ?_⟩
  rintro r σ r' σ' ⟨rfl, x⟩ ⟨y, z⟩
  exact ⟨x.uniq z, n, t, N, K, M, fs, h, pl, q1, y⟩
end Both
