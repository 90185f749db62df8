/-! CONSTRUCTORS: the judgement over a world that grows, the contract -/
def KJ (D : va_G) (t : Tc) (A : Nat → Prop) (R : Room) (own : String) (cc : ByteArray) (nL mc ms : Nat) (B : State → Prop) (pc : Nat) (lv : List (Nat × Value)) (st : List Value) (ws : va_W) (cells slots : Nat) : Prop :=
  ∀ (p : Program) (l : Launch) (e : Env) (s : State) (m : MethodId) (args : Array Value) (below : List Frame) (meth : Method) (c : Code) (H : Heap) (locs : List Loc) (ls : Array Slot),
    Cx own cc nL none D t A p s m args meth c → (meth.name = "<init>" ∧ va_AO RX2 s) → va_P D vwCl ws H → va_D A ws → va_S A s.heap H locs → lv_has ls nL lv →
    W p l e R s m args below meth c H locs cells slots (MQ below (va_Qv (S := Unit) (fun _ => True) (fun _ => B) A) args s mc ms A) (F0 m pc ls st)
/-- a constructor's contract: of the world ws0 (its object at h0) comes one of which F holds; mc cells of ms slots are made -/
def BW (D : va_G) (F : va_W → Prop) (A : Nat → Prop) (U : State) : Prop := ∃ w : va_W, F w ∧ va_P D vwCl w U.heap ∧ va_D A w
def KC (R : Room) (y : MethodName) (cc : ByteArray) (nL mc ms : Nat) (h0 : Nat) (D : va_G) (t : Tc) (ws0 : va_W) (F : va_W → Prop) : Prop :=
  ∀ (l : Launch) (sz : Nat), Met l y (.code y cc nL none :: WS) R
    (va_Pc [.ref h0] (fun U => U.heap.size = sz ∧ va_P D vwCl ws0 U.heap ∧ va_K D vwCl (tysOf t) U ∧ va_D (fun _ => True) ws0 ∧ NS U ∧ va_AO RX2 U))
    (va_Qv (S := Unit) (fun _ => True) (fun _ => BW D F (va_A ws0 sz)) (va_A ws0 sz)) mc ms (va_A ws0 sz)
theorem KC.intro {R : Room} {y : MethodName} {cc : ByteArray} {nL mc ms h0 : Nat} {D : va_G} {t : Tc} {ws0 : va_W} {F : va_W → Prop} (hy : plainName y.cls = true) (hi : y.name = "<init>") (hn : 1 ≤ nL)
    (h : ∀ A : Nat → Prop, KJ D t A R y.cls cc nL mc ms (BW D F A) 0 [(0, .ref h0)] [] ws0 0 0) : KC R y cc nL mc ms h0 D t ws0 F := by
  intro l sz
  refine Met.ofW (cc := cc) (maxL := nL) (ret := none) hy rfl ?_
  intro p e s m args below meth c s₁ Bd hml hv
  obtain ⟨rfl, hsz, hP, hK, hD0, hN, hO⟩ := hv
  have hx := Bd.exec
  have hb := Bd.bytes
  have hr := Bd.returns
  have hts := atoms_spec (ws := Cond.code y cc nL none :: WS) Bd.pre
  have hown : s.vm.findClass y.cls = some m.cls := findClass_of_methodNamed Bd.named
  have hlocks : meth.locks = false := Bd.notSynchronized
  have hin : meth.name = "<init>" := by rw [(name_of_methodNamed Bd.named Bd.method).1]; exact hi
  subst hsz
  have hD := hD0.self (sz := s.heap.size)
  have hl := lv_entry ([.ref h0]) (n := nL) (by show 1 ≤ nL; exact hn)
  rw [lg_entry_eq]
  exact h _ p l e s m _ below meth c s.heap [] _ ⟨hx, hb, hml, hown, hr, hlocks, fun w hw => hts w (List.mem_cons_of_mem _ hw), hN, hK, fun q hq => Or.inr hq⟩ ⟨hin, hO⟩ hP hD va_S.rf hl
section KRules
variable {D : va_G} {t : Tc} {A : Nat → Prop} {R : Room} {own : String} {cc : ByteArray} {nL mc ms : Nat} {B : State → Prop} {pc : Nat} {lv : List (Nat × Value)} {st : List Value} {ws : va_W} {cells slots : Nat}
theorem kj_iconst {n : Int} (hd : decode cc pc = .ok (.iconst n, 1)) {v : Int32} (hv : Int32.ofInt n = v) (k : KJ D t A R own cc nL mc ms B (pc + 1) lv (.int v :: st) ws cells slots) : KJ D t A R own cc nL mc ms B pc lv st ws cells slots := by
  intro p l e s m args below meth c H locs ls C hi hP hD hS hl
  exact lv_iconst C.1 C.2.1 hd hv (k p l e s m args below meth c H locs ls C hi hP hD hS hl)
theorem kj_bipush {n : Int} (hd : decode cc pc = .ok (.bipush n, 2)) {v : Int32} (hv : (Int8.ofInt n).toInt32 = v) (k : KJ D t A R own cc nL mc ms B (pc + 2) lv (.int v :: st) ws cells slots) : KJ D t A R own cc nL mc ms B pc lv st ws cells slots := by
  intro p l e s m args below meth c H locs ls C hi hP hD hS hl
  exact lv_bipush C.1 C.2.1 hd hv (k p l e s m args below meth c H locs ls C hi hP hD hS hl)
theorem kj_sipush {n : Int} (hd : decode cc pc = .ok (.sipush n, 3)) {v : Int32} (hv : (Int16.ofInt n).toInt32 = v) (k : KJ D t A R own cc nL mc ms B (pc + 3) lv (.int v :: st) ws cells slots) : KJ D t A R own cc nL mc ms B pc lv st ws cells slots := by
  intro p l e s m args below meth c H locs ls C hi hP hD hS hl
  exact lv_sipush C.1 C.2.1 hd hv (k p l e s m args below meth c H locs ls C hi hP hD hS hl)
theorem kj_newaI (harr : Cond.arrayClass .int ∈ WS) {n : Int32} {N' : Nat} (hn : ¬ n < 0) (hN : n.toNatClampNeg = N') (hbytes : N' * componentBytes .int ≤ 536870912) (hcells : cells + 1 ≤ R.cells) (hslots : slots + N' ≤ R.slots) (hdg : decode cc pc = .ok (.newarray .int, 2))
    (k : ∀ q : Nat, KJ D t A R own cc nL mc ms B (pc + 2) lv (.ref q :: st) (ws ++ [(q, .inl (t.1, N', .inl (fun _ => 0)))]) (cells + 1) (slots + N')) : KJ D t A R own cc nL mc ms B pc lv (.int n :: st) ws cells slots := by
  intro p l e s m args below meth c H locs ls C hi hP hD hS hl
  exact k_newaI C (C.2.2.2.2.2.2.1 _ harr) hP hD hS hn hN hbytes hcells hslots hdg (fun q H1 hP1 hD1 hS1 => k q p l e s m args below meth c H1 locs ls C hi hP1 hD1 hS1 hl)
theorem kj_newaZ (harr : Cond.arrayClass .boolean ∈ WS) {n : Int32} {N' : Nat} (hn : ¬ n < 0) (hN : n.toNatClampNeg = N') (hbytes : N' * componentBytes .boolean ≤ 536870912) (hcells : cells + 1 ≤ R.cells) (hslots : slots + N' ≤ R.slots) (hdg : decode cc pc = .ok (.newarray .boolean, 2))
    (k : ∀ q : Nat, KJ D t A R own cc nL mc ms B (pc + 2) lv (.ref q :: st) (ws ++ [(q, .inl (t.2.1, N', .inl (fun _ => 0)))]) (cells + 1) (slots + N')) : KJ D t A R own cc nL mc ms B pc lv (.int n :: st) ws cells slots := by
  intro p l e s m args below meth c H locs ls C hi hP hD hS hl
  exact k_newaZ C (C.2.2.2.2.2.2.1 _ harr) hP hD hS hn hN hbytes hcells hslots hdg (fun q H1 hP1 hD1 hS1 => k q p l e s m args below meth c H1 locs ls C hi hP1 hD1 hS1 hl)
theorem kj_putF {T : u_T} {N ci index k q0 a : Nat} {fs : List Value} {v : Value} {ty : FieldType} (hc : vwCl[ci]? = some (own, T, N)) (hl : Cond.fieldLink own index own (T k).2.1 (T k).2.2.1 ∈ WS) (fk : Fk own index ci k ty true) (he : ws[q0]? = some (a, .inr (ci, fs))) (hn : narrow ty v = v) (hfit : fits ty v = true) (hk : k < fs.length) (hdg : decode cc pc = .ok (.putfield index, 3))
    (kk : KJ D t A R own cc nL mc ms B (pc + 3) lv st (ws.set q0 (a, .inr (ci, fs.set k v))) cells slots) : KJ D t A R own cc nL mc ms B pc lv (v :: .ref a :: st) ws cells slots := by
  intro p l e s m args below meth c H locs ls C hi hP hD hS hl'
  exact k_putF C hi.1 hc hl fk hP hD hS he hn hfit hk hdg (fun H1 locs1 hP1 hD1 hS1 => kk p l e s m args below meth c H1 locs1 ls C hi hP1 hD1 hS1 hl')
theorem kj_put {T : u_T} {N ci index k q0 a : Nat} {fs : List Value} {v : Value} {ty : FieldType} (hc : vwCl[ci]? = some (own, T, N)) (hl : Cond.fieldLink own index own (T k).2.1 (T k).2.2.1 ∈ WS) (fk : Fk own index ci k ty false) (he : ws[q0]? = some (a, .inr (ci, fs))) (hn : narrow ty v = v) (hfit : fits ty v = true) (hk : k < fs.length) (hdg : decode cc pc = .ok (.putfield index, 3))
    (kk : KJ D t A R own cc nL mc ms B (pc + 3) lv st (ws.set q0 (a, .inr (ci, fs.set k v))) cells slots) : KJ D t A R own cc nL mc ms B pc lv (v :: .ref a :: st) ws cells slots := by
  intro p l e s m args below meth c H locs ls C hi hP hD hS hl'
  exact k_put C hc hl fk hP hD hS he hn hfit hk hdg (fun H1 locs1 hP1 hD1 hS1 => kk p l e s m args below meth c H1 locs1 ls C hi hP1 hD1 hS1 hl')
end KRules
