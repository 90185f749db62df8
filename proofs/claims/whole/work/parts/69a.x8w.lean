/-! THE LAW: its start -/
def e_flo (ρ : Nat → Nat) (f : Nat → Int32) : List Nat → Nat → List Value
  | [], _ => []
  | c :: l, k => e_fld ρ f k c :: e_flo ρ f l (k + 1)
theorem e_flo_eq (ρ : Nat → Nat) (f : Nat → Int32) : ∀ (fs : List Nat) (k : Nat), fs.mapIdx (fun a c => e_fld ρ f (a + k) c) = e_flo ρ f fs k
  | [], _ => rfl
  | c :: l, k => by
    rw [List.mapIdx_cons, e_flo, Nat.zero_add, ← e_flo_eq ρ f l (k + 1)]
    congr 1
    congr 1
    funext a c
    rw [show a + 1 + k = a + (k + 1) by omega]
theorem e_cell_o (t : Tc) (ρ : Nat → Nat) (f : Nat → Int32) (ci : Nat) (fs : List Nat) : e_cell t ρ f (.inr (ci, fs)) = .inr (ci, e_flo ρ f fs 0) := congrArg (fun l => Sum.inr (ci, l)) (e_flo_eq ρ f fs 0)
set_option maxHeartbeats 8000000 in
set_option maxRecDepth 100000 in
theorem x8_w (t : Tc) (h0 q1 q2 q3 q4 q5 q6 q7 q8 q9 q10 q11 q12 q13 q14 q15 q16 : Nat) : ([(h0, .inr (8, [.ref q1, .int 0, .int 0, .ref q2, .ref q3, .ref q4, .ref q5, .ref q6, .ref q7, .int 0, .int 0, .int 0, .ref q8, .ref q9, .int 0, .ref q10, .ref q11, .ref q12, .ref q13, .ref q14, .int 0, .int 0, .int 0, .ref q15, .ref q16])), (q1, .inl (t.1, 60, .inl (fun _ => 0))), (q2, .inl (t.1, 6, .inl (fun _ => 0))), (q3, .inl (t.1, 6, .inl (fun _ => 0))), (q4, .inl (t.1, 6, .inl (fun _ => 0))), (q5, .inl (t.1, 6, .inl (fun _ => 0))), (q6, .inl (t.1, 6, .inl (fun _ => 0))), (q7, .inl (t.1, 288, .inl (fun _ => 0))), (q8, .inl (t.1, 150, .inl (fun _ => 0))), (q9, .inl (t.1, 1200, .inl (fun _ => 0))), (q10, .inl (t.1, 150, .inl (fun _ => 0))), (q11, .inl (t.1, 150, .inl (fun _ => 0))), (q12, .inl (t.1, 150, .inl (fun _ => 0))), (q13, .inl (t.2.1, 150, .inl (fun _ => 0))), (q14, .inl (t.2.1, 150, .inl (fun _ => 0))), (q15, .inl (t.1, 16, .inl (fun _ => 0))), (q16, .inl (t.1, 150, .inl (fun _ => 0)))] : va_W) = e_W t Γ2 (pick [h0, q1, q2, q3, q4, q5, q6, q7, q8, q9, q10, q11, q12, q13, q14, q15, q16]) (fun _ _ => 0) := by
  rw [e_Wo_eq0]
  simp only [Γ2, e_Wo, e_cell_o, e_flo]
  rfl
theorem wd8_e {t : Tc} {h0 : Nat} {w : va_W} (h : wd_X8 t h0 w) : ∃ ρ : Nat → Nat, w = e_W t Γ2 ρ (fun _ _ => 0) ∧ ρ 0 = h0 := by
  obtain ⟨q1, q2, q3, q4, q5, q6, q7, q8, q9, q10, q11, q12, q13, q14, q15, q16, rfl⟩ := h
  exact ⟨pick [h0, q1, q2, q3, q4, q5, q6, q7, q8, q9, q10, q11, q12, q13, q14, q15, q16], x8_w t h0 q1 q2 q3 q4 q5 q6 q7 q8 q9 q10 q11 q12 q13 q14 q15 q16, rfl⟩
