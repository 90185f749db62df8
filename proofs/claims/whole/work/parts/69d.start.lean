set_option maxHeartbeats 8000000 in
set_option maxRecDepth 100000 in
theorem whole_start {p : Program} {e : Env} {s : State} {m : MethodId} {below : List Frame} {meth : Method} {c : Code} (l : Launch) (hflags : l.flags = flags0) {b L : Nat} {xs : Nat → Int32} (hL : L ≤ 2048) (C0 : lw_At p s m meth c b L xs) : W p l e room_1 s m #[Value.ref b] below meth c s.heap [] 0 0 (lw_Z below #[Value.ref b] s) (entryFrame m ([Value.ref b] : List Value).toArray 4) := by
  obtain ⟨D, t, X⟩ := law_at C0
  have hl := lv_entry ([.ref b]) (n := 4) (Nat.le_of_ble_eq_true rfl)
  rw [lg_entry_eq]
  generalize (lg_sl ([.ref b]) ++ List.replicate (4 - (lg_sl ([.ref b])).length) Slot.unset).toArray = ls at hl ⊢
  have hl : lv_has ls 4 [(0, .ref b)] := hl
  have hS : va_S (lA s) s.heap s.heap [] := va_S.rf
  have hP : va_P D vwCl [] s.heap := fun k q h => by simp at h
  have hD : va_D (lA s) [] := ⟨fun i j p q h => by simp at h, fun k q h => by simp at h⟩
  refine l_make (pc := 0) (ci := 7) (ty := tyX7) (fs := [.null, .null, .null, .null, .null, .null, .null, .null, .null, .int 0, .int 0, .int 0]) (F := wd_X7 t) (lv := [(0, .ref b)]) X dL_law_0 dL_law_3 dL_law_4 (ws_m 109 (by decide +kernel) rfl) (ws_m 110 (by decide +kernel) rfl) (ws_m 97 (by decide +kernel) rfl) rfl inl_X7 tyX7_ok (by intro j hj; rcases (show j = 0 ∨ j = 1 ∨ j = 2 ∨ j = 3 ∨ j = 4 ∨ j = 5 ∨ j = 6 ∨ j = 7 ∨ j = 8 ∨ j = 9 ∨ j = 10 ∨ j = 11 by omega) with rfl | rfl | rfl | rfl | rfl | rfl | rfl | rfl | rfl | rfl | rfl | rfl <;> rfl) (ws_m 111 (by decide +kernel) rfl) wi_X7_init wc_X7_init rfl ⟨by decide +kernel, by decide +kernel, by decide +kernel⟩ rfl (fun h => kc_X7 D t h) rfl rfl (Nat.le_of_ble_eq_true rfl) (Nat.le_of_ble_eq_true rfl) (Nat.le_of_ble_eq_true rfl) (Nat.le_of_ble_eq_true rfl) (fun _ => (Nat.le_of_ble_eq_true rfl)) hP hD hS hl (fun q7 w7 H locs hF hP hD hS => ?_)
  obtain ⟨ρ1, σ1, hw7, hq7, hR⟩ := hF
  rw [hw7, List.nil_append] at hP hD
  refine lv_astore_n (lv' := [(1, .ref q7), (0, .ref b)]) X.1.1 X.1.2.1 dL_law_7 rfl hl (by decide) rfl (fun ls hl => ?_)
  refine l_make (pc := 8) (ci := 8) (ty := tyX8) (fs := [.null, .int 0, .int 0, .null, .null, .null, .null, .null, .null, .int 0, .int 0, .int 0, .null, .null, .int 0, .null, .null, .null, .null, .null, .int 0, .int 0, .int 0, .null, .null]) (F := wd_X8 t) (lv := [(1, .ref q7), (0, .ref b)]) X dL_law_8 dL_law_11 dL_law_12 (ws_m 772 (by decide +kernel) rfl) (ws_m 773 (by decide +kernel) rfl) (ws_m 107 (by decide +kernel) rfl) rfl inl_X8 tyX8_ok (by intro j hj; rcases (show j = 0 ∨ j = 1 ∨ j = 2 ∨ j = 3 ∨ j = 4 ∨ j = 5 ∨ j = 6 ∨ j = 7 ∨ j = 8 ∨ j = 9 ∨ j = 10 ∨ j = 11 ∨ j = 12 ∨ j = 13 ∨ j = 14 ∨ j = 15 ∨ j = 16 ∨ j = 17 ∨ j = 18 ∨ j = 19 ∨ j = 20 ∨ j = 21 ∨ j = 22 ∨ j = 23 ∨ j = 24 by omega) with rfl | rfl | rfl | rfl | rfl | rfl | rfl | rfl | rfl | rfl | rfl | rfl | rfl | rfl | rfl | rfl | rfl | rfl | rfl | rfl | rfl | rfl | rfl | rfl | rfl <;> rfl) (ws_m 774 (by decide +kernel) rfl) wi_X8_init wc_X8_init rfl ⟨by decide +kernel, by decide +kernel, by decide +kernel⟩ rfl (fun h => kc_X8 D t h) rfl rfl (Nat.le_of_ble_eq_true rfl) (Nat.le_of_ble_eq_true rfl) (Nat.le_of_ble_eq_true rfl) (Nat.le_of_ble_eq_true rfl) (fun _ => (Nat.le_of_ble_eq_true rfl)) hP hD hS hl (fun q8 w8 H locs hF hP hD hS => ?_)
  obtain ⟨ρ2, hw8, hqm⟩ := wd8_e hF
  rw [hw8] at hP hD
  subst hq7 hqm
  refine lv_astore_n (lv' := [(2, .ref (ρ2 0)), (1, .ref (ρ1 0)), (0, .ref b)]) X.1.1 X.1.2.1 dL_law_15 rfl hl (by decide) rfl (fun ls hl => ?_)
  refine lv_iconst (v := 0) X.1.1 X.1.2.1 dL_law_16 (by decide) ?_
  refine lv_istore_n (lv' := [(3, .int 0), (2, .ref (ρ2 0)), (1, .ref (ρ1 0)), (0, .ref b)]) X.1.1 X.1.2.1 dL_law_17 rfl hl (by decide) rfl (fun ls hl => ?_)
  refine W.widen (k := 600000) (n := 7302250) (Nat.le_of_ble_eq_true rfl) (Nat.le_of_ble_eq_true rfl) ?_
  have hJ := law_loop (l := l) (e := e) (below := below) (ρ1 := ρ1) (ρ2 := ρ2) X hL L 0 σ1 (fun _ _ => 0) (by omega) (Nat.zero_le _) (made_both hR (fun _ => rfl))
  rw [nI_0] at hJ
  exact hJ H locs ls hP hD hS (lv_sub hl [3, 2, 1, 0] rfl)
