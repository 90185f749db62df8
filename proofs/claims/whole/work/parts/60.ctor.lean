/-! CONSTRUCTORS: rows over a world that grows -/
section Ctor
variable {own : String} {cc : ByteArray} {nL : Nat} {ret : Option FieldType} {D : va_G} {t : Tc} {A : Nat → Prop} {p : Program} {l : Launch} {e : Env} {R : Room} {s : State} {m : MethodId} {args : Array Value} {below : List Frame} {meth : Method} {c : Code} {H : Heap} {locs : List Loc} {cells slots : Nat} {Q : State → Prop} {pc : Nat} {ls : Array Slot} {rest : List Value} {ws : va_W}
theorem k_newaI (C : Cx own cc nL ret D t A p s m args meth c) (harr : (Cond.arrayClass .int).before args s = true) (hP : va_P D vwCl ws H) (hD : va_D A ws) (hS : va_S A s.heap H locs) {n : Int32} {N' : Nat} (hn : ¬ n < 0) (hN : n.toNatClampNeg = N') (hbytes : N' * componentBytes .int ≤ 536870912) (hcells : cells + 1 ≤ R.cells) (hslots : slots + N' ≤ R.slots) (hdg : decode cc pc = .ok (.newarray .int, 2))
    (kk : ∀ (q : Nat) (H1 : Heap), va_P D vwCl (ws ++ [(q, .inl (t.1, N', .inl (fun _ => 0)))]) H1 → va_D A (ws ++ [(q, .inl (t.1, N', .inl (fun _ => 0)))]) → va_S A s.heap H1 locs → W p l e R s m args below meth c H1 locs (cells + 1) (slots + N') Q (F0 m (pc + 2) ls (.ref q :: rest))) : W p l e R s m args below meth c H locs cells slots Q (F0 m pc ls (.int n :: rest)) := by
  refine va_newa (atype := .int) (ty := .int) C.1 C.2.1 harr rfl C.2.2.2.2.2.2.2.2.1 hP hD hS C.2.2.2.2.2.2.2.2.2 (a0 := (N', .inl (fun _ => 0))) (fun cA => rfl) hn hN hbytes hcells hslots hdg (fun q cA H1 hK hP1 hD1 hS1 => ?_)
  have h1 := (hK.2 0 _ rfl).2
  have h2 := (hK.2 3 _ rfl).2
  have hcA : cA = t.1 := by
    have := h1.symm.trans h2
    exact (Option.some.inj this).symm
  subst hcA
  exact kk q H1 hP1 hD1 hS1
theorem k_newaZ (C : Cx own cc nL ret D t A p s m args meth c) (harr : (Cond.arrayClass .boolean).before args s = true) (hP : va_P D vwCl ws H) (hD : va_D A ws) (hS : va_S A s.heap H locs) {n : Int32} {N' : Nat} (hn : ¬ n < 0) (hN : n.toNatClampNeg = N') (hbytes : N' * componentBytes .boolean ≤ 536870912) (hcells : cells + 1 ≤ R.cells) (hslots : slots + N' ≤ R.slots) (hdg : decode cc pc = .ok (.newarray .boolean, 2))
    (kk : ∀ (q : Nat) (H1 : Heap), va_P D vwCl (ws ++ [(q, .inl (t.2.1, N', .inl (fun _ => 0)))]) H1 → va_D A (ws ++ [(q, .inl (t.2.1, N', .inl (fun _ => 0)))]) → va_S A s.heap H1 locs → W p l e R s m args below meth c H1 locs (cells + 1) (slots + N') Q (F0 m (pc + 2) ls (.ref q :: rest))) : W p l e R s m args below meth c H locs cells slots Q (F0 m pc ls (.int n :: rest)) := by
  refine va_newa (atype := .boolean) (ty := .boolean) C.1 C.2.1 harr rfl C.2.2.2.2.2.2.2.2.1 hP hD hS C.2.2.2.2.2.2.2.2.2 (a0 := (N', .inl (fun _ => 0))) (fun cA => rfl) hn hN hbytes hcells hslots hdg (fun q cA H1 hK hP1 hD1 hS1 => ?_)
  have h1 := (hK.2 1 _ rfl).2
  have h2 := (hK.2 3 _ rfl).2
  have hcA : cA = t.2.1 := by
    have := h1.symm.trans h2
    exact (Option.some.inj this).symm
  subst hcA
  exact kk q H1 hP1 hD1 hS1
/-- a final field of the class itself -/
theorem k_putF (C : Cx own cc nL ret D t A p s m args meth c) (hin : meth.name = "<init>") {T : u_T} {N ci index k q0 a : Nat} {fs : List Value} {v : Value} {ty : FieldType} (hc : vwCl[ci]? = some (own, T, N)) (hl : Cond.fieldLink own index own (T k).2.1 (T k).2.2.1 ∈ WS) (fk : Fk own index ci k ty true) (hP : va_P D vwCl ws H) (hD : va_D A ws) (hS : va_S A s.heap H locs) (he : ws[q0]? = some (a, .inr (ci, fs))) (hn : narrow ty v = v) (hfit : fits ty v = true) (hk : k < fs.length) (hdg : decode cc pc = .ok (.putfield index, 3))
    (kk : ∀ (H1 : Heap) (locs1 : List Loc), va_P D vwCl (ws.set q0 (a, .inr (ci, fs.set k v))) H1 → va_D A (ws.set q0 (a, .inr (ci, fs.set k v))) → va_S A s.heap H1 locs1 → W p l e R s m args below meth c H1 locs1 cells slots Q (F0 m (pc + 3) ls rest)) : W p l e R s m args below meth c H locs cells slots Q (F0 m pc ls (v :: .ref a :: rest)) := by
  obtain ⟨C', T', N', f1, f2, -, f4, f5, ⟨ty0, f6, f7⟩, f8, f9⟩ := fk
  have hq := Option.some.inj (f1.symm.trans hc)
  cases hq
  exact va_putF C.1 C.2.1 C.2.2.2.2.2.2.1 f4 ty0 f6 f7 C.2.2.2.1 C.2.2.2.2.2.2.2.2.1 hP hD hS q0 he hc k f2 (C.2.2.2.2.2.2.1 _ hl) (fun x h => by rw [f5] at h; exact h) f9 hin f5 f8 hn hfit hk hdg kk
/-- a field of the class itself that is not final -/
theorem k_put (C : Cx own cc nL ret D t A p s m args meth c) {T : u_T} {N ci index k q0 a : Nat} {fs : List Value} {v : Value} {ty : FieldType} (hc : vwCl[ci]? = some (own, T, N)) (hl : Cond.fieldLink own index own (T k).2.1 (T k).2.2.1 ∈ WS) (fk : Fk own index ci k ty false) (hP : va_P D vwCl ws H) (hD : va_D A ws) (hS : va_S A s.heap H locs) (he : ws[q0]? = some (a, .inr (ci, fs))) (hn : narrow ty v = v) (hfit : fits ty v = true) (hk : k < fs.length) (hdg : decode cc pc = .ok (.putfield index, 3))
    (kk : ∀ (H1 : Heap) (locs1 : List Loc), va_P D vwCl (ws.set q0 (a, .inr (ci, fs.set k v))) H1 → va_D A (ws.set q0 (a, .inr (ci, fs.set k v))) → va_S A s.heap H1 locs1 → W p l e R s m args below meth c H1 locs1 cells slots Q (F0 m (pc + 3) ls rest)) : W p l e R s m args below meth c H locs cells slots Q (F0 m pc ls (v :: .ref a :: rest)) := by
  obtain ⟨C', T', N', f1, f2, -, f4, f5, ⟨ty0, f6, f7⟩, f8, f9⟩ := fk
  have hq := Option.some.inj (f1.symm.trans hc)
  cases hq
  exact va_put (v := v) C.1 C.2.1 C.2.2.2.2.2.2.1 f4 ty0 f6 f7 C.2.2.2.1 C.2.2.2.2.2.2.2.2.1 hP hD hS q0 he hc k f2 (C.2.2.2.2.2.2.1 _ hl) (fun x h => by rw [f5] at h; exact h) f9 f8 hn hfit hk hdg kk
end Ctor
