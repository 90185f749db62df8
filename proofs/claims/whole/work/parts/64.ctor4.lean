/-! CONSTRUCTORS: worlds side by side; objects that make objects -/
theorem w_l {D : va_G} {a b : va_W} {H : Heap} (h : va_P D vwCl (a ++ b) H) : va_P D vwCl a H := fun k q hk => h k q (by rw [List.getElem?_append_left (List.getElem?_eq_some_iff.mp hk).1]; exact hk)
theorem w_r {D : va_G} {a b : va_W} {H : Heap} (h : va_P D vwCl (a ++ b) H) : va_P D vwCl b H := fun k q hk => h (a.length + k) q (by rw [List.getElem?_append_right (by omega), Nat.add_sub_cancel_left]; exact hk)
theorem w_dl {A : Nat → Prop} {a b : va_W} (h : va_D A (a ++ b)) : va_D A a := by
  have key : ∀ (k : Nat) (q : Nat × va_E), a[k]? = some q → (a ++ b)[k]? = some q := fun k q hk => by rw [List.getElem?_append_left (List.getElem?_eq_some_iff.mp hk).1]; exact hk
  exact ⟨fun i j p q hi hj hpq => h.1 i j p q (key i p hi) (key j q hj) hpq, fun k q hk => h.2 k q (key k q hk)⟩
theorem w_dr {A : Nat → Prop} {a b : va_W} (h : va_D A (a ++ b)) : va_D A b := by
  have key : ∀ (k : Nat) (q : Nat × va_E), b[k]? = some q → (a ++ b)[a.length + k]? = some q := fun k q hk => by rw [List.getElem?_append_right (by omega), Nat.add_sub_cancel_left]; exact hk
  refine ⟨fun i j p q hi hj hpq => ?_, fun k q hk => h.2 _ q (key k q hk)⟩
  have := h.1 _ _ p q (key i p hi) (key j q hj) hpq
  omega
theorem w_da {A : Nat → Prop} {a b : va_W} (h : va_D A (a ++ b)) (i j : Nat) (p q : Nat × va_E) (hi : a[i]? = some p) (hj : b[j]? = some q) : p.1 ≠ q.1 := by
  intro e
  have hl := (List.getElem?_eq_some_iff.mp hi).1
  have := h.1 i (a.length + j) p q (by rw [List.getElem?_append_left hl]; exact hi) (by rw [List.getElem?_append_right (by omega), Nat.add_sub_cancel_left]; exact hj) e
  omega
theorem w_swap {D : va_G} {a b : va_W} {H : Heap} (h : va_P D vwCl (a ++ b) H) : va_P D vwCl (b ++ a) H := va_P.app (w_r h) (w_l h)
theorem w_dswap {A : Nat → Prop} {a b : va_W} (h : va_D A (a ++ b)) : va_D A (b ++ a) := va_D.app (w_dr h) (w_dl h) (fun i j p q hi hj e => w_da h j i q p hj hi e.symm)
/-- behind a call over the cells b, a stays -/
theorem w_join {A0 : Nat → Prop} {D : va_G} {a b w1 : va_W} {H H1 : Heap} (hP : va_P D vwCl (a ++ b) H) (hD : va_D A0 (a ++ b)) (hk : ∀ q : Nat, q < H.size → ¬ va_A b H.size q → H1[q]? = H[q]?) (hF : ∀ q, va_A b H.size q → A0 q) (hP1 : va_P D vwCl w1 H1) (hD1 : va_D (va_A b H.size) w1) : va_P D vwCl (a ++ w1) H1 ∧ va_D A0 (a ++ w1) := by
  have apart : ∀ (k : Nat) (q : Nat × va_E), a[k]? = some q → q.1 < H.size ∧ ¬ va_A b H.size q.1 := by
    intro k q hq
    have hl := (w_l hP k q hq).lt
    refine ⟨hl, fun h => ?_⟩
    rcases h with ⟨k2, e, h⟩ | h
    · exact w_da hD k k2 q (q.1, e) hq h rfl
    · omega
  refine ⟨va_P.app (fun k q hq => ?_) hP1, va_D.app (w_dl hD) (hD1.weaken (fun k q _ h => hF q.1 h)) (fun i j x y hx hy hxy => ?_)⟩
  · obtain ⟨g1, g2⟩ := apart k q hq
    exact (w_l hP k q hq).kept (hk q.1 g1 g2)
  · exact (apart i x hx).2 (by rw [hxy]; exact hD1.2 j y hy)
theorem w_free {A0 : Nat → Prop} {a b : va_W} {H0 H : Heap} {locs : List Loc} (hD : va_D A0 (a ++ b)) (hS : va_S A0 H0 H locs) (hA : ∀ q, H0.size ≤ q → A0 q) : ∀ q, va_A b H.size q → A0 q := by
  intro q h
  rcases h with ⟨k, e, h⟩ | h
  · exact (w_dr hD).2 k _ h
  · exact hA q (Nat.le_trans hS.1 h)
theorem k_blind {D : va_G} {t : Tc} {h0 sz : Nat} {ws0 : va_W} : FrameBlind (va_Pc [.ref h0] (fun U => U.heap.size = sz ∧ va_P D vwCl ws0 U.heap ∧ va_K D vwCl (tysOf t) U ∧ va_D (fun _ => True) ws0 ∧ NS U ∧ va_AO RX2 U)) := fun a U g mk q => by
  obtain ⟨q0, q1, qP, qK, qD, qN, qO⟩ := q
  exact ⟨q0, q1, qP, va_K.moved (u := U) (U := U.calling g mk a) (Vm.Alike.refl U.vm) qK, qD, NS.same (s := U) (U := U.calling g mk a) rfl qN, va_AO.moved (u := U) (U := U.calling g mk a) (Vm.Alike.refl U.vm) qO⟩
section KRules4
variable {D : va_G} {t : Tc} {A : Nat → Prop} {R : Room} {own : String} {cc : ByteArray} {nL mc ms : Nat} {B : State → Prop} {pc : Nat} {lv : List (Nat × Value)} {st : List Value} {ws : va_W} {cells slots : Nat}
/-- new C; dup; invokespecial of its private constructor -/
theorem kj_make {idN idC ci N : Nat} {C : String} {T : u_T} {ty : Nat → FieldType} {fs : List Value} {y : MethodName} {cc' : ByteArray} {nL' mc' ms' : Nat} {rm : Room} {F : Nat → va_W → Prop}
    (hd0 : decode cc pc = .ok (.new idN, 3)) (hd1 : decode cc (pc + 3) = .ok (.dup, 1)) (hd2 : decode cc (pc + 3 + 1) = .ok (.invokespecial idC, 3))
    (hcl : Cond.classLink own idN C ∈ WS) (hinst : Cond.instantiable C N ∈ WS) (hini : Cond.initialized C ∈ WS) (hc : vwCl[ci]? = some (C, T, N)) (hin : ∀ w ∈ u_ws C T N, w ∈ WS) (hty : ∀ k, k < N → parseFieldDescriptor (T k).2.2.1 = some (ty k)) (hfs : ∀ j, j < N → defaultValue (ty j) = vp_V fs j)
    (hnest : Cond.methodLinkNest own idC y RX7 ∈ tables_1) (hi : Cond.instanceMethod y ∈ WS) (hcode : Cond.code y cc' nL' none ∈ WS) (hy : y.cls = C) (hck : Ck0 y 0) (hyi : y.name = "<init>")
    (kc : ∀ h, KC rm y cc' nL' mc' ms' h D t [(h, .inr (ci, fs))] (F h)) (hrc : rm.cells = mc') (hrs : rm.slots = ms') (hf : rm.frames + 1 ≤ R.frames) (hlo : 8 + (nL' + 11) + rm.locals ≤ R.locals)
    (hcells : cells + 1 + mc' ≤ R.cells) (hslots : slots + N + ms' ≤ R.slots) (hst : ∀ q : Nat, (((Value.ref q :: st).map fun v => v.category).sum) ≤ 8)
    (k : ∀ (q : Nat) (w1 : va_W), F q w1 → KJ D t A R own cc nL mc ms B (pc + 3 + 1 + 3) lv (.ref q :: st) (ws ++ w1) (cells + 1 + mc') (slots + N + ms')) : KJ D t A R own cc nL mc ms B pc lv st ws cells slots := by
  intro p l e s m args below meth c H locs ls X hi0 hP hD hS hl
  have hts := X.2.2.2.2.2.2.1
  have hK := X.2.2.2.2.2.2.2.2.1
  have hA := X.2.2.2.2.2.2.2.2.2
  refine va_new (ci := ci) (fs := fs) (C := C) (T := T) (N := N) X.1 X.2.1 hts hin ty hty X.2.2.2.1 (hts _ hcl) (hts _ hinst) (hts _ hini) hK hP hD hS hA hc hfs (by omega) (by omega) hd0 (fun q H1 hP1 hD1 hS1 => ?_)
  refine lv_dup X.1 X.2.1 hd1 rfl ?_
  have hFc := w_free hD1 hS1 hA
  refine va_callv (va_runIN (As := []) (rest := .ref q :: st) ⟨X.1, X.2.1, X.2.2.1, X.2.2.2.1, hts⟩ (kc q l H1.size) ⟨va_cnB 0 hts (ws_in (g_code hcode)) rfl hrc hrs (X.2.2.2.2.2.2.2.1 _ hnest rfl) (by rw [hy]; exact hts _ hini) hck ⟨hf, hlo⟩, hyi, hts _ hi⟩ ⟨k_blind, fun U hU hW => ⟨rfl, by rw [hU], by rw [hU]; exact w_r hP1, va_K.moved hW.alike hK, (w_dr hD1).weaken (fun _ _ _ _ => trivial), NS.warm hW X.2.2.2.2.2.2.2.1, va_AO.moved hW.alike hi0.2⟩⟩ rfl rfl hl.1 rfl (lv_room (hst q)) hd2 ⟨hcells, hslots⟩) hS1 (fun x _ h => hFc x h) hFc (fun u t1 H2 locs1 ht hvm hw hB hz1 hk1 hS2 => ?_)
  obtain ⟨w1, hF, hP2, hD2⟩ := hB
  obtain ⟨hP3, hD3⟩ := w_join hP1 hD1 hk1 hFc (by rw [← ht]; exact hP2) hD2
  exact k q w1 hF p l e s m args below meth c H2 locs1 ls X hi0 hP3 hD3 hS2 hl
theorem kj_newq {idx : Nat} (hcl : Cond.classLink own idx RX2 ∈ WS) {n : Int32} {N' : Nat} (hn : ¬ n < 0) (hN : n.toNatClampNeg = N') (hbytes : N' * 4 ≤ 536870912) (hcells : cells + 1 ≤ R.cells) (hslots : slots + N' ≤ R.slots) (hdg : decode cc pc = .ok (.anewarray idx, 3))
    (k : ∀ q : Nat, KJ D t A R own cc nL mc ms B (pc + 3) lv (.ref q :: st) (ws ++ [(q, .inl (t.2.2, N', .inr (.inr (.inr (.inr (fun _ => none))))))]) (cells + 1) (slots + N')) : KJ D t A R own cc nL mc ms B pc lv (.int n :: st) ws cells slots := by
  intro p l e s m args below meth c H locs ls X hi hP hD hS hl
  refine va_newq X.1 X.2.1 X.2.2.2.1 (X.2.2.2.2.2.2.1 _ hcl) hi.2 X.2.2.2.2.2.2.2.2.1 hP hD hS X.2.2.2.2.2.2.2.2.2 hn hN hbytes hcells hslots hdg (fun q cA H1 hK hP1 hD1 hS1 => ?_)
  obtain ⟨-, -, -, -, -, h1⟩ := (hK.2 2 _ rfl).2
  obtain ⟨-, -, -, -, -, h2⟩ := (hK.2 3 _ rfl).2
  have hcA : cA = t.2.2 := (Option.some.inj (h1.symm.trans h2)).symm
  subst hcA
  exact k q p l e s m args below meth c H1 locs ls X hi hP1 hD1 hS1 hl
theorem kj_astq (q0 qk : Nat) {a v n : Nat} {vs : List Value} {f : Nat → Option Nat} (ha : ws[q0]? = some (a, .inl (t.2.2, n, .inr (.inr (.inr (.inr f)))))) (hv : ws[qk]? = some (v, .inr (2, vs))) {i : Int32} {j : Nat} (hj : i.toNatClampNeg = j) (hin : vp_in i n) (hdg : decode cc pc = .ok (.aastore, 1))
    (k : KJ D t A R own cc nL mc ms B (pc + 1) lv st (ws.set q0 (a, .inl (t.2.2, n, .inr (.inr (.inr (.inr (va_up f j (some v)))))))) cells slots) : KJ D t A R own cc nL mc ms B pc lv (.ref v :: .int i :: .ref a :: st) ws cells slots := by
  intro p l e s m args below meth c H locs ls X hi hP hD hS hl
  subst hj
  exact va_astq X.1 X.2.1 X.2.2.2.2.2.2.2.2.1 hP hD hS q0 2 qk 2 (r := (RX2, TX2, 7)) ha rfl hv rfl hin hdg (fun H1 locs1 hP1 hD1 hS1 => k p l e s m args below meth c H1 locs1 ls X hi hP1 hD1 hS1 hl)
theorem kj_get {index ci k q0 a : Nat} {ty : FieldType} {fin : Bool} {fs : List Value} {v : Value} (fk : Fk own index ci k ty fin) (he : ws[q0]? = some (a, .inr (ci, fs))) (hv : fs[k]? = some v) (hd : decode cc pc = .ok (.getfield index, 3)) (kk : KJ D t A R own cc nL mc ms B (pc + 3) lv (v :: st) ws cells slots) : KJ D t A R own cc nL mc ms B pc lv (.ref a :: st) ws cells slots := by
  intro p l e s m args below meth c H locs ls X hi hP hD hS hl
  obtain ⟨C1, T, N, hc, hk, hlink, hin, hC, -, -, -⟩ := fk
  have hts := X.2.2.2.2.2.2.1
  rcases hlink with hlink | ⟨host, hlink⟩
  · exact va_get X.1 X.2.1 hts hin X.2.2.2.1 X.2.2.2.2.2.2.2.2.1 hP q0 he hc k hk (hts _ hlink) (fun _ h9 => by rw [hC] at h9; exact h9) hv hd (kk p l e s m args below meth c H locs ls X hi hP hD hS hl)
  · exact va_getN X.1 X.2.1 hts hin X.2.2.2.1 X.2.2.2.2.2.2.2.2.1 hP q0 he hc k hk (va_Nw.use rfl (X.2.2.2.2.2.2.2.1 _ hlink rfl)) (fun _ h9 => by rw [hC] at h9; exact h9) hv hd (kk p l e s m args below meth c H locs ls X hi hP hD hS hl)
theorem kj_iload {i : Nat} {j : Fin 4} {x : Int32} (hd : decode cc pc = .ok (.iload_n j, 1)) (hj : lv[i]? = some (j.val, .int x)) (k : KJ D t A R own cc nL mc ms B (pc + 1) lv (.int x :: st) ws cells slots) : KJ D t A R own cc nL mc ms B pc lv st ws cells slots := by
  intro p l e s m args below meth c H locs ls C hi hP hD hS hl
  exact lv_iload_n C.1 C.2.1 hd rfl (lv_at hl i hj) (k p l e s m args below meth c H locs ls C hi hP hD hS hl)
theorem kj_istore {j : Fin 4} {x : Int32} {lv' : List (Nat × Value)} (hd : decode cc pc = .ok (.istore_n j, 1)) (hn : j.val < nL) (hl : (j.val, Value.int x) :: lv.filter (fun q => !(q.1 == j.val) && !(q.1 + 1 == j.val && q.2.category == 2)) = lv') (k : KJ D t A R own cc nL mc ms B (pc + 1) lv' st ws cells slots) : KJ D t A R own cc nL mc ms B pc lv (.int x :: st) ws cells slots := by
  intro p l e s m args below meth c H locs ls C hi hP hD hS hl0
  exact lv_istore_n C.1 C.2.1 hd rfl hl0 hn hl (fun ls' hl' => k p l e s m args below meth c H locs ls' C hi hP hD hS hl')
theorem kj_iinc {i ki : Nat} {n : Int} {x v : Int32} {lv' : List (Nat × Value)} (hd : decode cc pc = .ok (.iinc i n, 3)) (hk : lv[ki]? = some (i, .int x)) (hv : x + Int32.ofInt n = v) (hn : i < nL) (hl : (i, Value.int v) :: lv.filter (fun q => !(q.1 == i) && !(q.1 + 1 == i && q.2.category == 2)) = lv') (k : KJ D t A R own cc nL mc ms B (pc + 3) lv' st ws cells slots) : KJ D t A R own cc nL mc ms B pc lv st ws cells slots := by
  intro p l e s m args below meth c H locs ls C hi hP hD hS hl0
  exact lv_iinc C.1 C.2.1 hd hl0 hk hv hn hl (fun ls' hl' => k p l e s m args below meth c H locs ls' C hi hP hD hS hl')
theorem kj_ge {x y : Int32} {off : Int} {tgt : Nat} (hd : decode cc pc = .ok (.if_icmp .ge off, 3)) (ht : (pc : Int) + off = (tgt : Int)) (kt : y ≤ x → KJ D t A R own cc nL mc ms B tgt lv st ws cells slots) (kf : ¬ y ≤ x → KJ D t A R own cc nL mc ms B (pc + 3) lv st ws cells slots) : KJ D t A R own cc nL mc ms B pc lv (.int y :: .int x :: st) ws cells slots := by
  intro p l e s m args below meth c H locs ls C hi hP hD hS hl
  exact lv_icmp_ge C.1 C.2.1 hd ht (fun h => kt h p l e s m args below meth c H locs ls C hi hP hD hS hl) (fun h => kf h p l e s m args below meth c H locs ls C hi hP hD hS hl)
theorem kj_goto {off : Int} {tgt : Nat} (hd : decode cc pc = .ok (.goto off, 3)) (ht : (pc : Int) + off = (tgt : Int)) (k : KJ D t A R own cc nL mc ms B tgt lv st ws cells slots) : KJ D t A R own cc nL mc ms B pc lv st ws cells slots := by
  intro p l e s m args below meth c H locs ls C hi hP hD hS hl
  exact lv_goto C.1 C.2.1 hd ht (k p l e s m args below meth c H locs ls C hi hP hD hS hl)
/-- calls of what has a contract over a graph, its cells the world's last -/
theorem kj_evS {Γ : List Gc} {ρ : Nat → Nat} {σ : Mm} {index n d' nL' : Nat} {y : MethodName} {cc' : ByteArray} {As : List Vl} {st0 : List Value} {ws0 : va_W} {post' : Int32 → Mm → Prop} (hd : decode cc pc = .ok (.invokestatic index, 3)) (ck : CkS own index y cc' nL' none n) (hev : EV Γ d' y cc' nL' none As σ post') (hn : As.length = n) (hf : d' + 1 ≤ R.frames) (hlo : 8 + (nL' + 11) + 36 * d' ≤ R.locals) (hst : st0 = (As.map (e_val ρ)).reverse ++ st) (hsz : ((st.map fun v => v.category).sum) ≤ 8) (hcells : cells ≤ R.cells) (hslots : slots ≤ R.slots) (hws : ws0 = ws ++ e_W t Γ ρ σ)
    (k : ∀ σ1 : Mm, post' 0 σ1 → KJ D t A R own cc nL mc ms B (pc + 3) lv st (ws ++ e_W t Γ ρ σ1) cells slots) : KJ D t A R own cc nL mc ms B pc lv st0 ws0 cells slots := by
  intro p l e s m args below meth c H locs ls C hi hP hD hS hl
  subst hws
  have hts := C.2.2.2.2.2.2.1
  have hFc := w_free hD hS C.2.2.2.2.2.2.2.2.2
  refine va_callv (va_runS (As := As.map (e_val ρ)) (rest := st) ⟨C.1, C.2.1, C.2.2.1, C.2.2.2.1, hts⟩ (hev l D t ρ H.size) (va_cwS n hts (g_S ck) rfl rfl rfl ck.2.2.2.2.1 ⟨hf, hlo⟩) (e_preS C (w_r hP) (w_dr hD)) rfl (by rw [List.length_map]; exact hn) hl.1 hst (lv_room hsz) hd ⟨hcells, hslots⟩) hS (fun q _ h => hFc q h) hFc (fun u t1 H1 locs1 ht hvm hw hB hz1 hk1 hS1 => ?_)
  have hB' : va_P D vwCl (e_W t Γ ρ u) H1 := by rw [← ht]; exact hB
  obtain ⟨hP3, hD3⟩ := w_join hP hD hk1 hFc hB' (e_D (w_dr hD).self)
  exact k u hw p l e s m args below meth c H1 locs1 ls C hi hP3 hD3 hS1 hl
theorem kj_evV {Γ : List Gc} {ρ : Nat → Nat} {σ : Mm} {index n d' nL' b ci N : Nat} {y : MethodName} {cc' : ByteArray} {As : List Vl} {st0 : List Value} {ws0 : va_W} {post' : Int32 → Mm → Prop} {C1 : String} {T : u_T} {fs : List Nat} (hd : decode cc pc = .ok (.invokevirtual index, 3)) (ck : CkV own index y cc' nL' none C1 n) (hev : EV Γ d' y cc' nL' none (.inr b :: As) σ post') (hr : Γ[b]? = some (.inr (ci, fs))) (hc : vwCl[ci]? = some (C1, T, N)) (hn : As.length = n) (hf : d' + 1 ≤ R.frames) (hlo : 8 + (nL' + 11) + 36 * d' ≤ R.locals) (hst : st0 = (As.map (e_val ρ)).reverse ++ .ref (ρ b) :: st) (hsz : ((st.map fun v => v.category).sum) ≤ 8) (hcells : cells ≤ R.cells) (hslots : slots ≤ R.slots) (hws : ws0 = ws ++ e_W t Γ ρ σ)
    (k : ∀ σ1 : Mm, post' 0 σ1 → KJ D t A R own cc nL mc ms B (pc + 3) lv st (ws ++ e_W t Γ ρ σ1) cells slots) : KJ D t A R own cc nL mc ms B pc lv st0 ws0 cells slots := by
  intro p l e s m args below meth c H locs ls C hi hP hD hS hl
  subst hws
  have hts := C.2.2.2.2.2.2.1
  have hFc := w_free hD hS C.2.2.2.2.2.2.2.2.2
  refine va_callv (va_runV (As := As.map (e_val ρ)) (rest := st) (C := C1) (b := ρ b) ⟨C.1, C.2.1, C.2.2.1, C.2.2.2.1, hts⟩ (hev l D t ρ H.size) (cwV n hts (g_V ck) rfl rfl rfl ⟨ck.2.2.2.2.2.1, ck.2.2.2.2.2.2.1⟩ ⟨hf, hlo⟩) (e_preV C (w_r hP) (w_dr hD) hr hc) rfl (by rw [List.length_map]; exact hn) hl.1 hst (lv_room hsz) hd ⟨hcells, hslots⟩) hS (fun q _ h => hFc q h) hFc (fun u t1 H1 locs1 ht hvm hw hB hz1 hk1 hS1 => ?_)
  have hB' : va_P D vwCl (e_W t Γ ρ u) H1 := by rw [← ht]; exact hB
  obtain ⟨hP3, hD3⟩ := w_join hP hD hk1 hFc hB' (e_D (w_dr hD).self)
  exact k u hw p l e s m args below meth c H1 locs1 ls C hi hP3 hD3 hS1 hl
theorem kj_evV0 {Γ : List Gc} {ρ : Nat → Nat} {σ : Mm} {index n d' nL' b ci N : Nat} {y : MethodName} {cc' : ByteArray} {As : List Vl} {st0 : List Value} {post' : Int32 → Mm → Prop} {C1 : String} {T : u_T} {fs : List Nat} (hd : decode cc pc = .ok (.invokevirtual index, 3)) (ck : CkV own index y cc' nL' none C1 n) (hev : EV Γ d' y cc' nL' none (.inr b :: As) σ post') (hr : Γ[b]? = some (.inr (ci, fs))) (hc : vwCl[ci]? = some (C1, T, N)) (hn : As.length = n) (hf : d' + 1 ≤ R.frames) (hlo : 8 + (nL' + 11) + 36 * d' ≤ R.locals) (hst : st0 = (As.map (e_val ρ)).reverse ++ .ref (ρ b) :: st) (hsz : ((st.map fun v => v.category).sum) ≤ 8) (hcells : cells ≤ R.cells) (hslots : slots ≤ R.slots)
    (k : ∀ σ1 : Mm, post' 0 σ1 → KJ D t A R own cc nL mc ms B (pc + 3) lv st (e_W t Γ ρ σ1) cells slots) : KJ D t A R own cc nL mc ms B pc lv st0 (e_W t Γ ρ σ) cells slots :=
  kj_evV (ws := []) hd ck hev hr hc hn hf hlo hst hsz hcells hslots (List.nil_append _).symm (fun σ1 hp => by rw [List.nil_append]; exact k σ1 hp)
end KRules4
