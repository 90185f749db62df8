/-! CONSTRUCTORS: rows over a world that grows -/
section Ctor
variable {own : String} {cc : ByteArray} {nL : Nat} {ret : Option FieldType} {D : va_G} {t : Tc} {A : Nat → Prop} {p : Program} {l : Launch} {e : Env} {R : Room} {s : State} {m : MethodId} {args : Array Value} {below : List Frame} {meth : Method} {c : Code} {H : Heap} {locs : List Loc} {cells slots : Nat} {Q : State → Prop} {pc : Nat} {ls : Array Slot} {rest : List Value} {ws : va_W}
theorem k_newaI (C : Cx own cc nL ret D t A p s m args meth c) (harr : (Cond.arrayClass .int).before args s = true) (hP : va_P D vwCl ws H) (hD : va_D A ws) (hS : va_S A s.heap H locs) {n : Int32} {N' : Nat} (hn : ¬ n < 0) (hN : n.toNatClampNeg = N') (hbytes : N' * componentBytes .int ≤ 536870912) (hcells : cells + 1 ≤ R.cells) (hslots : slots + N' ≤ R.slots) (hdg : decode cc pc = .ok (.newarray .int, 2))
    (kk : ∀ (q : Nat) (H1 : Heap), va_P D vwCl (ws ++ [(q, .inl (t.1, N', .inl (fun _ => 0)))]) H1 → va_D A (ws ++ [(q, .inl (t.1, N', .inl (fun _ => 0)))]) → va_S A s.heap H1 locs → W p l e R s m args below meth c H1 locs (cells + 1) (slots + N') Q (F0 m (pc + 2) ls (.ref q :: rest))) : W p l e R s m args below meth c H locs cells slots Q (F0 m pc ls (.int n :: rest)) := by
  refine va_newa (atype := .int) (ty := .int) C.1 C.2.1 harr rfl C.2.2.2.2.2.2.2.2.1 hP hD hS C.2.2.2.2.2.2.2.2.2 (a0 := (N', .inl (fun _ => 0))) (fun cA => rfl) hn hN hbytes hcells hslots hdg (fun q cA H1 hK hP1 hD1 hS1 => ?_)
  have h1 := (hK.2 0 _ rfl).2
  have h2 := (hK.2 3 _ rfl).2
  have hcA : cA = t.1 := by
    have := h1.symm.trans h2
    exact (Option.some.inj this).symm
  subst hcA
  exact kk q H1 hP1 hD1 hS1
end Ctor
