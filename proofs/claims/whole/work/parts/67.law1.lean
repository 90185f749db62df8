/-! THE LAW: its own judgement, both objects' cells side by side -/
def lA (s : State) : Nat → Prop := fun q => s.heap.size ≤ q
def LLX (p : Program) (s : State) (m : MethodId) (b : Nat) (meth : Method) (c : Code) (D : va_G) (t : Tc) (L : Nat) (xs : Nat → Int32) : Prop := Cx RL code 4 ret D t (lA s) p s m #[Value.ref b] meth c ∧ va_X b L xs s s.heap ∧ b < s.heap.size ∧ va_AO RX2 s
/-- in the loop at pc, the script's place i, stack st, the class's numbers σ1, the reference's σ2: the law comes to its end with true -/
def LJ (p : Program) (l : Launch) (e : Env) (s : State) (m : MethodId) (b : Nat) (below : List Frame) (meth : Method) (c : Code) (D : va_G) (t : Tc) (ρ1 ρ2 : Nat → Nat) (i : Int32) (pc : Nat) (st : List Value) (σ1 σ2 : Mm) : Prop :=
  ∀ (H : Heap) (locs : List Loc) (ls : Array Slot), va_P D vwCl (e_W t Γ1 ρ1 σ1 ++ e_W t Γ2 ρ2 σ2) H → va_D (lA s) (e_W t Γ1 ρ1 σ1 ++ e_W t Γ2 ρ2 σ2) → va_S (lA s) s.heap H locs → lv_has ls 4 [(0, .ref b), (1, .ref (ρ1 0)), (2, .ref (ρ2 0)), (3, .int i)] →
    W p l e room_1 s m #[Value.ref b] below meth c H locs 600000 7302250 (lw_Z below #[Value.ref b] s) (F0 m pc ls st)
section Law
variable {p : Program} {l : Launch} {e : Env} {s : State} {m : MethodId} {b : Nat} {below : List Frame} {meth : Method} {c : Code} {D : va_G} {t : Tc} {L : Nat} {xs : Nat → Int32} {ρ1 ρ2 : Nat → Nat} {i : Int32} {pc : Nat} {st : List Value} {σ1 σ2 : Mm}
theorem l_al0 (X : LLX p s m b meth c D t L xs) (hd : decode code pc = .ok (.aload_n 0, 1)) (k : LJ p l e s m b below meth c D t ρ1 ρ2 i (pc + 1) (.ref b :: st) σ1 σ2) : LJ p l e s m b below meth c D t ρ1 ρ2 i pc st σ1 σ2 := by
  intro H locs ls hP hD hS hl
  exact lv_aload_n X.1.1 X.1.2.1 hd rfl (lv_at hl 0 rfl) (k H locs ls hP hD hS hl)
theorem l_al1 (X : LLX p s m b meth c D t L xs) (hd : decode code pc = .ok (.aload_n 1, 1)) (k : LJ p l e s m b below meth c D t ρ1 ρ2 i (pc + 1) (.ref (ρ1 0) :: st) σ1 σ2) : LJ p l e s m b below meth c D t ρ1 ρ2 i pc st σ1 σ2 := by
  intro H locs ls hP hD hS hl
  exact lv_aload_n X.1.1 X.1.2.1 hd rfl (lv_at hl 1 rfl) (k H locs ls hP hD hS hl)
theorem l_al2 (X : LLX p s m b meth c D t L xs) (hd : decode code pc = .ok (.aload_n 2, 1)) (k : LJ p l e s m b below meth c D t ρ1 ρ2 i (pc + 1) (.ref (ρ2 0) :: st) σ1 σ2) : LJ p l e s m b below meth c D t ρ1 ρ2 i pc st σ1 σ2 := by
  intro H locs ls hP hD hS hl
  exact lv_aload_n X.1.1 X.1.2.1 hd rfl (lv_at hl 2 rfl) (k H locs ls hP hD hS hl)
theorem l_il3 (X : LLX p s m b meth c D t L xs) (hd : decode code pc = .ok (.iload_n 3, 1)) (k : LJ p l e s m b below meth c D t ρ1 ρ2 i (pc + 1) (.int i :: st) σ1 σ2) : LJ p l e s m b below meth c D t ρ1 ρ2 i pc st σ1 σ2 := by
  intro H locs ls hP hD hS hl
  exact lv_iload_n X.1.1 X.1.2.1 hd rfl (lv_at hl 3 rfl) (k H locs ls hP hD hS hl)
theorem l_iconst (X : LLX p s m b meth c D t L xs) {n : Int} {v : Int32} (hd : decode code pc = .ok (.iconst n, 1)) (hv : Int32.ofInt n = v) (k : LJ p l e s m b below meth c D t ρ1 ρ2 i (pc + 1) (.int v :: st) σ1 σ2) : LJ p l e s m b below meth c D t ρ1 ρ2 i pc st σ1 σ2 := by
  intro H locs ls hP hD hS hl
  exact lv_iconst X.1.1 X.1.2.1 hd hv (k H locs ls hP hD hS hl)
theorem l_bipush (X : LLX p s m b meth c D t L xs) {n : Int} {v : Int32} (hd : decode code pc = .ok (.bipush n, 2)) (hv : (Int8.ofInt n).toInt32 = v) (k : LJ p l e s m b below meth c D t ρ1 ρ2 i (pc + 2) (.int v :: st) σ1 σ2) : LJ p l e s m b below meth c D t ρ1 ρ2 i pc st σ1 σ2 := by
  intro H locs ls hP hD hS hl
  exact lv_bipush X.1.1 X.1.2.1 hd hv (k H locs ls hP hD hS hl)
theorem l_iadd (X : LLX p s m b meth c D t L xs) {x y : Int32} (hd : decode code pc = .ok (.iadd, 1)) (k : LJ p l e s m b below meth c D t ρ1 ρ2 i (pc + 1) (.int (x + y) :: st) σ1 σ2) : LJ p l e s m b below meth c D t ρ1 ρ2 i pc (.int y :: .int x :: st) σ1 σ2 := by
  intro H locs ls hP hD hS hl
  exact lv_iadd X.1.1 X.1.2.1 hd (k H locs ls hP hD hS hl)
theorem l_isub (X : LLX p s m b meth c D t L xs) {x y : Int32} (hd : decode code pc = .ok (.isub, 1)) (k : LJ p l e s m b below meth c D t ρ1 ρ2 i (pc + 1) (.int (x - y) :: st) σ1 σ2) : LJ p l e s m b below meth c D t ρ1 ρ2 i pc (.int y :: .int x :: st) σ1 σ2 := by
  intro H locs ls hP hD hS hl
  exact lv_isub X.1.1 X.1.2.1 hd (k H locs ls hP hD hS hl)
theorem l_iand (X : LLX p s m b meth c D t L xs) {x y : Int32} (hd : decode code pc = .ok (.iand, 1)) (k : LJ p l e s m b below meth c D t ρ1 ρ2 i (pc + 1) (.int (x &&& y) :: st) σ1 σ2) : LJ p l e s m b below meth c D t ρ1 ρ2 i pc (.int y :: .int x :: st) σ1 σ2 := by
  intro H locs ls hP hD hS hl
  exact lv_iand X.1.1 X.1.2.1 hd (k H locs ls hP hD hS hl)
theorem l_sld (X : LLX p s m b meth c D t L xs) {x : Int32} (hin : vp_in x L) (hd : decode code pc = .ok (.iaload, 1)) (k : LJ p l e s m b below meth c D t ρ1 ρ2 i (pc + 1) (.int (xs x.toNatClampNeg) :: st) σ1 σ2) : LJ p l e s m b below meth c D t ρ1 ρ2 i pc (.int x :: .ref b :: st) σ1 σ2 := by
  intro H locs ls hP hD hS hl
  exact va_sld X.1.1 X.1.2.1 X.2.1 X.2.2.1 (Nat.not_le.mpr X.2.2.1) hS hin hd (k H locs ls hP hD hS hl)
theorem l_slen (X : LLX p s m b meth c D t L xs) (hd : decode code pc = .ok (.arraylength, 1)) (k : LJ p l e s m b below meth c D t ρ1 ρ2 i (pc + 1) (.int (nI L) :: st) σ1 σ2) : LJ p l e s m b below meth c D t ρ1 ρ2 i pc (.ref b :: st) σ1 σ2 := by
  intro H locs ls hP hD hS hl
  exact va_slen X.1.1 X.1.2.1 X.2.1 X.2.2.1 (Nat.not_le.mpr X.2.2.1) hS hd (k H locs ls hP hD hS hl)
/-- script[i + n] -/
theorem l_arg (X : LLX p s m b meth c D t L xs) {n : Int} {v : Int32} (h0 : decode code pc = .ok (.aload_n 0, 1)) (h1 : decode code (pc + 1) = .ok (.iload_n 3, 1)) (h2 : decode code (pc + 1 + 1) = .ok (.iconst n, 1)) (h3 : decode code (pc + 1 + 1 + 1) = .ok (.iadd, 1)) (h4 : decode code (pc + 1 + 1 + 1 + 1) = .ok (.iaload, 1)) (hv : Int32.ofInt n = v) (hin : vp_in (i + v) L)
    (k : LJ p l e s m b below meth c D t ρ1 ρ2 i (pc + 1 + 1 + 1 + 1 + 1) (.int (xs (i + v).toNatClampNeg) :: st) σ1 σ2) : LJ p l e s m b below meth c D t ρ1 ρ2 i pc st σ1 σ2 :=
  l_al0 X h0 (l_il3 X h1 (l_iconst X h2 hv (l_iadd X h3 (l_sld X hin h4 k))))
theorem l_same (X : LLX p s m b meth c D t L xs) {x y : Int32} {off : Int} {tgt : Nat} (hd : decode code pc = .ok (.if_icmp .eq off, 3)) (ht : (pc : Int) + off = (tgt : Int)) (hxy : x = y) (k : LJ p l e s m b below meth c D t ρ1 ρ2 i tgt st σ1 σ2) : LJ p l e s m b below meth c D t ρ1 ρ2 i pc (.int y :: .int x :: st) σ1 σ2 := by
  intro H locs ls hP hD hS hl
  exact lv_icmp_eq X.1.1 X.1.2.1 hd ht (fun _ => k H locs ls hP hD hS hl) (fun h => absurd hxy h)
theorem l_gt (X : LLX p s m b meth c D t L xs) {x y : Int32} {off : Int} {tgt : Nat} (hd : decode code pc = .ok (.if_icmp .gt off, 3)) (ht : (pc : Int) + off = (tgt : Int)) (kt : y < x → LJ p l e s m b below meth c D t ρ1 ρ2 i tgt st σ1 σ2) (kf : ¬ y < x → LJ p l e s m b below meth c D t ρ1 ρ2 i (pc + 3) st σ1 σ2) : LJ p l e s m b below meth c D t ρ1 ρ2 i pc (.int y :: .int x :: st) σ1 σ2 := by
  intro H locs ls hP hD hS hl
  exact lv_icmp_gt X.1.1 X.1.2.1 hd ht (fun h => kt h H locs ls hP hD hS hl) (fun h => kf h H locs ls hP hD hS hl)
theorem l_tin (X : LLX p s m b meth c D t L xs) {dflt lo hi off : Int} {offs : Array Int} {len tgt : Nat} {x : Int32} (hd : decode code pc = .ok (.tableswitch dflt lo hi offs, len)) (h1 : ¬ x.toInt < lo) (h2 : ¬ hi < x.toInt) (ho : offs[(x.toInt - lo).toNat]? = some off) (ht : (pc : Int) + off = (tgt : Int)) (k : LJ p l e s m b below meth c D t ρ1 ρ2 i tgt st σ1 σ2) : LJ p l e s m b below meth c D t ρ1 ρ2 i pc (.int x :: st) σ1 σ2 := by
  intro H locs ls hP hD hS hl
  exact lv_tableIn X.1.1 X.1.2.1 hd h1 h2 ho ht (k H locs ls hP hD hS hl)
theorem l_tout (X : LLX p s m b meth c D t L xs) {dflt lo hi : Int} {offs : Array Int} {len tgt : Nat} {x : Int32} (hd : decode code pc = .ok (.tableswitch dflt lo hi offs, len)) (h : x.toInt < lo ∨ hi < x.toInt) (ht : (pc : Int) + dflt = (tgt : Int)) (k : LJ p l e s m b below meth c D t ρ1 ρ2 i tgt st σ1 σ2) : LJ p l e s m b below meth c D t ρ1 ρ2 i pc (.int x :: st) σ1 σ2 := by
  intro H locs ls hP hD hS hl
  exact lv_tableOut X.1.1 X.1.2.1 hd h ht (k H locs ls hP hD hS hl)
theorem l_next (X : LLX p s m b meth c D t L xs) {v : Int32} {n : Int} {off : Int} {tgt : Nat} (hd : decode code pc = .ok (.iinc 3 n, 3)) (hv : i + Int32.ofInt n = v) (hg : decode code (pc + 3) = .ok (.goto off, 3)) (ht : ((pc + 3 : Nat) : Int) + off = (tgt : Int)) (k : LJ p l e s m b below meth c D t ρ1 ρ2 v tgt st σ1 σ2) : LJ p l e s m b below meth c D t ρ1 ρ2 i pc st σ1 σ2 := by
  intro H locs ls hP hD hS hl
  refine lv_iinc (v := v) (lv' := [(3, .int v), (0, .ref b), (1, .ref (ρ1 0)), (2, .ref (ρ2 0))]) X.1.1 X.1.2.1 hd hl (k := 3) rfl hv (by decide) rfl (fun ls' hl' => ?_)
  exact lv_goto X.1.1 X.1.2.1 hg ht (k H locs ls' hP hD hS (lv_sub hl' [1, 2, 3, 0] rfl))
theorem l_end (X : LLX p s m b meth c D t L xs) (h0 : decode code pc = .ok (.iconst 1, 1)) (h1 : decode code (pc + 1) = .ok (.ireturn, 1)) : LJ p l e s m b below meth c D t ρ1 ρ2 i pc [] σ1 σ2 := by
  intro H locs ls hP hD hS hl
  refine lv_iconst (v := 1) X.1.1 X.1.2.1 h0 (by decide) ?_
  refine va_forget (fun q hq => hS.2.2 q hq) ?_
  exact lw_ret X.1.1 X.1.2.1 X.1.2.2.2.2.1 X.1.2.2.2.2.2.1 h1
section LCall
variable {index n d' nL' : Nat} {y : MethodName} {cc' : ByteArray} {As : List Vl} {st0 : List Value} {post' : Int32 → Mm → Prop}
theorem l_callB (X : LLX p s m b meth c D t L xs) (hd : decode code pc = .ok (.invokevirtual index, 3)) (ck : CkV RL index y cc' nL' (some .int) RX8 n) (hev : EV Γ2 d' y cc' nL' (some .int) (.inr 0 :: As) σ2 post') (hn : As.length = n) (hf : d' + 1 ≤ 9) (hlo : 8 + (nL' + 11) + 36 * d' ≤ 326) (hst : st0 = (As.map (e_val ρ2)).reverse ++ .ref (ρ2 0) :: st) (hsz : ((st.map fun v => v.category).sum) ≤ 8)
    (k : ∀ (r : Int32) (σ : Mm), post' r σ → LJ p l e s m b below meth c D t ρ1 ρ2 i (pc + 3) (.int r :: st) σ1 σ) : LJ p l e s m b below meth c D t ρ1 ρ2 i pc st0 σ1 σ2 := by
  intro H locs ls hP hD hS hl
  have C := X.1
  have hts := C.2.2.2.2.2.2.1
  have hFc := w_free hD hS C.2.2.2.2.2.2.2.2.2
  refine va_calli (va_runV (As := As.map (e_val ρ2)) (rest := st) (C := RX8) (b := ρ2 0) ⟨C.1, C.2.1, C.2.2.1, C.2.2.2.1, hts⟩ (hev l D t ρ2 H.size) (cwV n hts (g_V ck) rfl rfl rfl ⟨ck.2.2.2.2.2.1, ck.2.2.2.2.2.2.1⟩ ⟨hf, hlo⟩) (e_preV (Γ := Γ2) (b := 0) C (w_r hP) (w_dr hD) rfl rfl) rfl (by rw [List.length_map]; exact hn) hl.1 hst (lv_room hsz) hd ⟨Nat.le_of_ble_eq_true rfl, Nat.le_of_ble_eq_true rfl⟩) hS (fun q _ h => hFc q h) hFc (fun r u t1 H1 locs1 ht hvm hw hB hz1 hk1 hS1 => ?_)
  have hB' : va_P D vwCl (e_W t Γ2 ρ2 u) H1 := by rw [← ht]; exact hB
  obtain ⟨hP3, hD3⟩ := w_join hP hD hk1 hFc hB' (e_D (w_dr hD).self)
  exact k r u hw H1 locs1 ls hP3 hD3 hS1 hl
theorem l_callA (X : LLX p s m b meth c D t L xs) (hd : decode code pc = .ok (.invokevirtual index, 3)) (ck : CkV RL index y cc' nL' (some .int) RX7 n) (hev : EV Γ1 d' y cc' nL' (some .int) (.inr 0 :: As) σ1 post') (hn : As.length = n) (hf : d' + 1 ≤ 9) (hlo : 8 + (nL' + 11) + 36 * d' ≤ 326) (hst : st0 = (As.map (e_val ρ1)).reverse ++ .ref (ρ1 0) :: st) (hsz : ((st.map fun v => v.category).sum) ≤ 8)
    (k : ∀ (r : Int32) (σ : Mm), post' r σ → LJ p l e s m b below meth c D t ρ1 ρ2 i (pc + 3) (.int r :: st) σ σ2) : LJ p l e s m b below meth c D t ρ1 ρ2 i pc st0 σ1 σ2 := by
  intro H locs ls hP0 hD0 hS hl
  have hP := w_swap hP0
  have hD := w_dswap hD0
  have C := X.1
  have hts := C.2.2.2.2.2.2.1
  have hFc := w_free hD hS C.2.2.2.2.2.2.2.2.2
  refine va_calli (va_runV (As := As.map (e_val ρ1)) (rest := st) (C := RX7) (b := ρ1 0) ⟨C.1, C.2.1, C.2.2.1, C.2.2.2.1, hts⟩ (hev l D t ρ1 H.size) (cwV n hts (g_V ck) rfl rfl rfl ⟨ck.2.2.2.2.2.1, ck.2.2.2.2.2.2.1⟩ ⟨hf, hlo⟩) (e_preV (Γ := Γ1) (b := 0) C (w_r hP) (w_dr hD) rfl rfl) rfl (by rw [List.length_map]; exact hn) hl.1 hst (lv_room hsz) hd ⟨Nat.le_of_ble_eq_true rfl, Nat.le_of_ble_eq_true rfl⟩) hS (fun q _ h => hFc q h) hFc (fun r u t1 H1 locs1 ht hvm hw hB hz1 hk1 hS1 => ?_)
  have hB' : va_P D vwCl (e_W t Γ1 ρ1 u) H1 := by rw [← ht]; exact hB
  obtain ⟨hP3, hD3⟩ := w_join hP hD hk1 hFc hB' (e_D (w_dr hD).self)
  exact k r u hw H1 locs1 ls (w_swap hP3) (w_dswap hD3) hS1 hl
end LCall
/-- new C(), as the law does it -/
theorem l_make {Q : State → Prop} {ls : Array Slot} {H : Heap} {locs : List Loc} {ws : va_W} {cells slots : Nat} {idN idC ci N : Nat} {C : String} {T : u_T} {ty : Nat → FieldType} {fs : List Value} {y : MethodName} {cc' : ByteArray} {nL' mc' ms' : Nat} {rm : Room} {F : Nat → va_W → Prop} {lv : List (Nat × Value)}
    (X : LLX p s m b meth c D t L xs) (hd0 : decode code pc = .ok (.new idN, 3)) (hd1 : decode code (pc + 3) = .ok (.dup, 1)) (hd2 : decode code (pc + 3 + 1) = .ok (.invokespecial idC, 3))
    (hcl : Cond.classLink RL idN C ∈ WS) (hinst : Cond.instantiable C N ∈ WS) (hini : Cond.initialized C ∈ WS) (hc : vwCl[ci]? = some (C, T, N)) (hin : ∀ w ∈ u_ws C T N, w ∈ WS) (hty : ∀ k, k < N → parseFieldDescriptor (T k).2.2.1 = some (ty k)) (hfs : ∀ j, j < N → defaultValue (ty j) = vp_V fs j)
    (hlink : Cond.methodLink RL idC y ∈ WS) (hi : Cond.instanceMethod y ∈ WS) (hcode : Cond.code y cc' nL' none ∈ WS) (hy : y.cls = C) (hck : Ck0 y 0) (hyi : y.name = "<init>")
    (kc : ∀ h, KC rm y cc' nL' mc' ms' h D t [(h, .inr (ci, fs))] (F h)) (hrc : rm.cells = mc') (hrs : rm.slots = ms') (hf : rm.frames + 1 ≤ 9) (hlo : 8 + (nL' + 11) + rm.locals ≤ 326)
    (hcells : cells + 1 + mc' ≤ 600000) (hslots : slots + N + ms' ≤ 7302250) (hst : ∀ q : Nat, (((Value.ref q :: st).map fun v => v.category).sum) ≤ 8)
    (hP : va_P D vwCl ws H) (hD : va_D (lA s) ws) (hS : va_S (lA s) s.heap H locs) (hl : lv_has ls 4 lv)
    (k : ∀ (q : Nat) (w1 : va_W) (H2 : Heap) (locs2 : List Loc), F q w1 → va_P D vwCl (ws ++ w1) H2 → va_D (lA s) (ws ++ w1) → va_S (lA s) s.heap H2 locs2 → W p l e room_1 s m #[Value.ref b] below meth c H2 locs2 (cells + 1 + mc') (slots + N + ms') Q (F0 m (pc + 3 + 1 + 3) ls (.ref q :: st))) : W p l e room_1 s m #[Value.ref b] below meth c H locs cells slots Q (F0 m pc ls st) := by
  have hts := X.1.2.2.2.2.2.2.1
  have hK := X.1.2.2.2.2.2.2.2.2.1
  have hA := X.1.2.2.2.2.2.2.2.2.2
  have hc1 : cells + 1 ≤ room_1.cells := Nat.le_trans (Nat.le_add_right _ _) hcells
  have hs1 : slots + N ≤ room_1.slots := Nat.le_trans (Nat.le_add_right _ _) hslots
  refine va_new (ci := ci) (fs := fs) (C := C) (T := T) (N := N) X.1.1 X.1.2.1 hts hin ty hty X.1.2.2.2.1 (hts _ hcl) (hts _ hinst) (hts _ hini) hK hP hD hS hA hc hfs hc1 hs1 hd0 (fun q H1 hP1 hD1 hS1 => ?_)
  refine lv_dup X.1.1 X.1.2.1 hd1 rfl ?_
  have hFc := w_free hD1 hS1 hA
  refine va_callv (va_runI (As := []) (rest := .ref q :: st) ⟨X.1.1, X.1.2.1, X.1.2.2.1, X.1.2.2.2.1, hts⟩ (kc q l H1.size) (cwI 0 hts (ws_in (g_code hcode)) rfl hrc hrs (by rw [hy]; exact hts _ hini) (hts _ hlink) (hts _ hi) hyi hck ⟨hf, hlo⟩) ⟨k_blind, fun U hU hW => ⟨rfl, by rw [hU], by rw [hU]; exact w_r hP1, va_K.moved hW.alike hK, (w_dr hD1).weaken (fun _ _ _ _ => trivial), NS.warm hW X.1.2.2.2.2.2.2.2.1, va_AO.moved hW.alike X.2.2.2⟩⟩ rfl rfl hl.1 rfl (lv_room (hst q)) hd2 ⟨hcells, hslots⟩) hS1 (fun x _ h => hFc x h) hFc (fun u t1 H2 locs1 ht hvm hw hB hz1 hk1 hS2 => ?_)
  obtain ⟨w1, hF, hP2, hD2⟩ := hB
  obtain ⟨hP3, hD3⟩ := w_join hP1 hD1 hk1 hFc (by rw [← ht]; exact hP2) hD2
  exact k q w1 H2 locs1 hF hP3 hD3 hS2
/-- the loop's head -/
theorem lt_four {L j : Nat} (hL : L ≤ 2048) (hj : j ≤ L) (h : ¬ nI L - 4 < nI j) : j + 4 ≤ L := by
  have h1 : (nI L).toInt = (L : Int) := nI_toInt (by omega)
  have h2 : (nI j).toInt = (j : Int) := nI_toInt (by omega)
  have h3 : (nI L - 4).toInt = (L : Int) - 4 := by
    rw [Int32.toInt_sub, h1]
    have : (4 : Int32).toInt = 4 := rfl
    rw [this, Int.bmod_eq_of_le (by omega) (by omega)]
  rw [Int32.lt_iff_toInt_lt, h2, h3] at h
  omega
theorem l_head (X : LLX p s m b meth c D t L xs) {j : Nat} (hL : L ≤ 2048) (hj : j ≤ L) (k : j + 4 ≤ L → LJ p l e s m b below meth c D t ρ1 ρ2 (nI j) 26 [] σ1 σ2) : LJ p l e s m b below meth c D t ρ1 ρ2 (nI j) 18 [] σ1 σ2 := by
  refine l_il3 X (pc := 18) dL_law_18 ?_
  refine l_al0 X (pc := 19) dL_law_19 ?_
  refine l_slen X (pc := 20) dL_law_20 ?_
  refine l_iconst X (pc := 21) (v := 4) dL_law_21 (by decide) ?_
  refine l_isub X (pc := 22) dL_law_22 ?_
  refine l_gt X (pc := 23) (tgt := 654) dL_law_23 (by decide) (fun _ => ?_) (fun h => ?_)
  · exact l_end X (pc := 654) dL_law_654 dL_law_655
  · exact k (lt_four hL hj h)
end Law
