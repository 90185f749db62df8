theorem law_loop {p : Program} {l : Launch} {e : Env} {s : State} {m : MethodId} {b : Nat} {below : List Frame} {meth : Method} {c : Code} {D : va_G} {t : Tc} {L : Nat} {xs : Nat → Int32} {ρ1 ρ2 : Nat → Nat} (X : LLX p s m b meth c D t L xs) (hL : L ≤ 2048) : ∀ (k j : Nat) (σ1 σ2 : Mm), L ≤ j + k → j ≤ L → BOTH σ1 σ2 → LJ p l e s m b below meth c D t ρ1 ρ2 (nI j) 18 [] σ1 σ2 := by
  intro k
  induction k with
  | zero =>
    intro j σ1 σ2 h1 h2 hB
    exact l_head X hL h2 (fun h => absurd h (by omega))
  | succ k ih =>
    intro j σ1 σ2 h1 h2 hB
    refine l_head X hL h2 (fun h => ?_)
    have e1 : nI j + 1 = nI (j + 1) := nI_add j 1
    have e2 : nI j + 2 = nI (j + 2) := nI_add j 2
    have e3 : nI j + 3 = nI (j + 3) := nI_add j 3
    have e4 : nI j + 4 = nI (j + 4) := nI_add j 4
    refine l_turn X (vp_in_nI (by omega) (by omega)) (by rw [e1]; exact vp_in_nI (by omega) (by omega)) (by rw [e2]; exact vp_in_nI (by omega) (by omega)) (by rw [e3]; exact vp_in_nI (by omega) (by omega)) hB (fun τ1 τ2 hB2 => ?_)
    exact l_next X (pc := 648) (v := nI (j + 4)) (tgt := 18) dL_law_648 e4 dL_law_651 (by decide) (ih (j + 4) τ1 τ2 (by omega) h hB2)
