/-! THE MACHINE OVER A FIXED GRAPH OF CELLS: once both objects are made no cell comes and no reference changes: a state is the numbers alone.
 Mm: the number at a cell's place (a field's slot, an array's index). Vl: a number, or a cell of the graph. Gc: a cell's shape: an array (kind 0 int, 1 boolean, 2 references; length; what it refers to) or an object (class; its fields: 0 a number, a + 1 the cell a). -/
abbrev Mm : Type := Nat → Nat → Int32
abbrev Vl : Type := Int32 ⊕ Nat
abbrev Gc : Type := (Nat × Nat × List Nat) ⊕ (Nat × List Nat)
abbrev Tc : Type := ClassId × ClassId × ClassId
def m_up (σ : Mm) (a k : Nat) (v : Int32) : Mm := fun x => if x = a then upd (σ x) k v else σ x
def e_val (ρ : Nat → Nat) : Vl → Value
  | .inl x => .int x
  | .inr a => .ref (ρ a)
def e_fld (ρ : Nat → Nat) (f : Nat → Int32) (k c : Nat) : Value := match c with
  | 0 => .int (f k)
  | a + 1 => .ref (ρ a)
def e_cell (t : Tc) (ρ : Nat → Nat) (f : Nat → Int32) : Gc → va_E
  | .inl (0, n, _) => .inl (t.1, n, .inl f)
  | .inl (1, n, _) => .inl (t.2.1, n, .inl f)
  | .inl (_ + 2, n, ids) => .inl (t.2.2, n, .inr (.inr (.inr (.inr (fun j => (ids[j]?).map ρ)))))
  | .inr (ci, fs) => .inr (ci, fs.mapIdx (e_fld ρ f))
def e_W (t : Tc) (Γ : List Gc) (ρ : Nat → Nat) (σ : Mm) : va_W := Γ.mapIdx (fun a c => (ρ a, e_cell t ρ (σ a) c))
theorem e_get {t : Tc} {Γ : List Gc} {ρ : Nat → Nat} {σ : Mm} {a : Nat} {c : Gc} (h : Γ[a]? = some c) : (e_W t Γ ρ σ)[a]? = some (ρ a, e_cell t ρ (σ a) c) := by
  simp [e_W, List.getElem?_mapIdx, h]
theorem e_set {t : Tc} {Γ : List Gc} {ρ : Nat → Nat} {σ : Mm} {a k : Nat} {v : Int32} {c : Gc} {q : va_E} (h : Γ[a]? = some c) (hc : q = e_cell t ρ (upd (σ a) k v) c) : (e_W t Γ ρ σ).set a (ρ a, q) = e_W t Γ ρ (m_up σ a k v) := by
  subst hc
  apply List.ext_getElem?
  intro i
  rw [List.getElem?_set]
  have hlt : a < Γ.length := (List.getElem?_eq_some_iff.mp h).1
  by_cases hi : a = i
  · subst hi
    rw [if_pos rfl, if_pos (by simpa [e_W] using hlt), e_get h]
    simp [m_up]
  · rw [if_neg hi]
    have hi' : ¬ i = a := fun q => hi q.symm
    simp only [e_W, List.getElem?_mapIdx]
    cases Γ[i]? with
    | none => rfl
    | some x => simp [m_up, hi']
theorem e_fset {ρ : Nat → Nat} {f : Nat → Int32} {fs : List Nat} {k : Nat} {v : Int32} (h : fs[k]? = some 0) : (fs.mapIdx (e_fld ρ f)).set k (.int v) = fs.mapIdx (e_fld ρ (upd f k v)) := by
  apply List.ext_getElem?
  intro i
  rw [List.getElem?_set]
  have hlt : k < fs.length := (List.getElem?_eq_some_iff.mp h).1
  by_cases hi : k = i
  · subst hi
    rw [if_pos rfl, if_pos (by simpa using hlt), List.getElem?_mapIdx, h]
    simp [e_fld, upd]
  · rw [if_neg hi]
    have hi' : ¬ i = k := fun q => hi q.symm
    simp only [List.getElem?_mapIdx]
    cases fs[i]? with
    | none => rfl
    | some x => cases x <;> simp [e_fld, upd, hi']
theorem e_fget {ρ : Nat → Nat} {f : Nat → Int32} {fs : List Nat} {k c : Nat} (h : fs[k]? = some c) : (fs.mapIdx (e_fld ρ f))[k]? = some (e_fld ρ f k c) := by
  simp [List.getElem?_mapIdx, h]
/-- the addresses don't hang on the numbers -/
theorem e_adr {t : Tc} {Γ : List Gc} {ρ : Nat → Nat} {σ : Mm} {k : Nat} {q : Nat × va_E} (h : (e_W t Γ ρ σ)[k]? = some q) : k < Γ.length ∧ q.1 = ρ k := by
  simp only [e_W, List.getElem?_mapIdx] at h
  cases hk : Γ[k]? with
  | none => rw [hk] at h; cases h
  | some c => rw [hk] at h; cases h; exact ⟨(List.getElem?_eq_some_iff.mp hk).1, rfl⟩
theorem e_some {t : Tc} {Γ : List Gc} {ρ : Nat → Nat} {σ : Mm} {k : Nat} (h : k < Γ.length) : ∃ x : va_E, (e_W t Γ ρ σ)[k]? = some (ρ k, x) := ⟨_, e_get (List.getElem?_eq_getElem h)⟩
theorem e_D {t : Tc} {Γ : List Gc} {ρ : Nat → Nat} {σ σ' : Mm} {A : Nat → Prop} (h : va_D A (e_W t Γ ρ σ)) : va_D A (e_W t Γ ρ σ') := by
  refine ⟨fun i j p q hi hj hpq => ?_, fun k q hk => ?_⟩
  · obtain ⟨a1, a2⟩ := e_adr hi
    obtain ⟨b1, b2⟩ := e_adr hj
    obtain ⟨x, hx⟩ := e_some (t := t) (ρ := ρ) (σ := σ) a1
    obtain ⟨y, hy⟩ := e_some (t := t) (ρ := ρ) (σ := σ) b1
    exact h.1 i j _ _ hx hy (by rw [← a2, ← b2]; exact hpq)
  · obtain ⟨a1, a2⟩ := e_adr hk
    obtain ⟨x, hx⟩ := e_some (t := t) (ρ := ρ) (σ := σ) a1
    rw [a2]
    exact h.2 k _ hx
theorem e_A {t : Tc} {Γ : List Gc} {ρ : Nat → Nat} {σ σ' : Mm} {sz q : Nat} (h : va_A (e_W t Γ ρ σ) sz q) : va_A (e_W t Γ ρ σ') sz q := by
  rcases h with ⟨k, x, hk⟩ | h
  · obtain ⟨a1, a2⟩ := e_adr hk
    obtain ⟨y, hy⟩ := e_some (t := t) (ρ := ρ) (σ := σ') a1
    refine Or.inl ⟨k, y, ?_⟩
    rw [hy]
    exact congrArg some (Prod.ext a2.symm rfl)
  · exact Or.inr h
/-! locals -/
theorem e_cat (ρ : Nat → Nat) (v : Vl) : (e_val ρ v).category = 1 := by cases v <;> rfl
theorem e_cats (ρ : Nat → Nat) (st : List Vl) : ((st.map (e_val ρ)).map fun v => v.category).sum = st.length := by
  induction st with
  | nil => rfl
  | cons a l ih =>
    simp only [List.map_cons, List.sum_cons, List.length_cons, e_cat] at ih ⊢
    omega
def lvR (ρ : Nat → Nat) (ls : Array Slot) (nL : Nat) (L : List (Option Vl)) : Prop := ls.size = nL ∧ lv_wf ls ∧ L.length = nL ∧ ∀ (i : Nat) (v : Vl), L[i]? = some (some v) → ls[i]? = some (.val (e_val ρ v))
def lvl (ρ : Nat → Nat) (L : List (Option Vl)) : List (Nat × Value) := (List.range L.length).filterMap fun i => match L[i]? with
  | some (some v) => some (i, e_val ρ v)
  | _ => none
theorem lvl_mem {ρ : Nat → Nat} {L : List (Option Vl)} {q : Nat × Value} : q ∈ lvl ρ L ↔ ∃ v : Vl, L[q.1]? = some (some v) ∧ q.2 = e_val ρ v := by
  unfold lvl
  rw [List.mem_filterMap]
  constructor
  · rintro ⟨i, -, h⟩
    split at h
    next v hv =>
      cases h
      exact ⟨v, hv, rfl⟩
    next => cases h
  · rintro ⟨v, hv, h2⟩
    refine ⟨q.1, List.mem_range.mpr (List.getElem?_eq_some_iff.mp hv).1, ?_⟩
    rw [hv]
    exact congrArg some (Prod.ext rfl h2.symm)
theorem lvR.has {ρ : Nat → Nat} {ls : Array Slot} {nL : Nat} {L : List (Option Vl)} (h : lvR ρ ls nL L) : lv_has ls nL (lvl ρ L) := by
  refine ⟨h.1, h.2.1, fun q hq => ?_⟩
  obtain ⟨v, h1, h2⟩ := lvl_mem.mp hq
  rw [h2]
  exact h.2.2.2 _ _ h1
theorem lvR.store {ρ : Nat → Nat} {ls ls' : Array Slot} {nL i : Nat} {L : List (Option Vl)} {v : Vl} (h : lvR ρ ls nL L) (hi : i < nL) (h' : lv_has ls' nL ((i, e_val ρ v) :: (lvl ρ L).filter (fun q => !(q.1 == i) && !(q.1 + 1 == i && q.2.category == 2)))) : lvR ρ ls' nL (L.set i (some v)) := by
  refine ⟨h'.1, h'.2.1, by simpa using h.2.2.1, fun j w hj => ?_⟩
  rw [List.getElem?_set] at hj
  by_cases hij : i = j
  · subst hij
    rw [if_pos rfl, if_pos (by rw [h.2.2.1]; exact hi)] at hj
    cases hj
    exact h'.2.2 _ List.mem_cons_self
  · rw [if_neg hij] at hj
    refine h'.2.2 (j, e_val ρ w) (List.mem_cons_of_mem _ (List.mem_filter.mpr ⟨lvl_mem.mpr ⟨w, hj, rfl⟩, ?_⟩))
    have h1 : (j == i) = false := by simpa using fun q => hij q.symm
    simp [h1, e_cat]
theorem e_args (ρ : Nat → Nat) : ∀ (As : List Vl) (k i : Nat) (v : Vl), As[i]? = some v → (k + i, e_val ρ v) ∈ lv_args k (As.map (e_val ρ)) := by
  intro As
  induction As with
  | nil => intro k i v h; simp at h
  | cons a l ih =>
    intro k i v h
    have hc : ¬ (e_val ρ a).category = 2 := by rw [e_cat]; decide
    simp only [List.map_cons, lv_args, if_neg hc]
    cases i with
    | zero =>
      simp at h
      subst h
      exact List.mem_cons_self
    | succ i =>
      have h2 := ih (k + 1) i v (by simpa using h)
      rw [show k + (i + 1) = k + 1 + i by omega]
      exact List.mem_cons_of_mem _ h2
theorem e_sl (ρ : Nat → Nat) (As : List Vl) : (lg_sl (As.map (e_val ρ))).length = As.length := by
  induction As with
  | nil => rfl
  | cons a l ih =>
    have hc : ¬ (e_val ρ a).category = 2 := by rw [e_cat]; decide
    simp only [lg_sl, List.map_cons, List.flatMap_cons, if_neg hc, List.length_append, List.length_cons, List.length_nil] at ih ⊢
    omega
def L0 (As : List Vl) (nL : Nat) : List (Option Vl) := As.map some ++ List.replicate (nL - As.length) none
theorem lvR.entry (ρ : Nat → Nat) (As : List Vl) {nL : Nat} (h : As.length ≤ nL) : lvR ρ ((lg_sl (As.map (e_val ρ)) ++ List.replicate (nL - (lg_sl (As.map (e_val ρ))).length) Slot.unset).toArray) nL (L0 As nL) := by
  have h1 := lv_entry (As.map (e_val ρ)) (n := nL) (by rw [e_sl]; exact h)
  refine ⟨h1.1, h1.2.1, by simp [L0]; omega, fun i v hi => ?_⟩
  unfold L0 at hi
  by_cases hl : i < As.length
  · rw [List.getElem?_append_left (by simpa using hl), List.getElem?_map] at hi
    cases ha : As[i]? with
    | none => rw [ha] at hi; cases hi
    | some w =>
      rw [ha] at hi
      cases hi
      have h2 := h1.2.2 _ (e_args ρ As 0 i v ha)
      simpa using h2
  · rw [List.getElem?_append_right (by simpa using hl)] at hi
    have := List.eq_of_mem_replicate (List.mem_of_getElem? hi)
    cases this
/-! the nest's words -/
def isNest : Cond → Bool
  | .fieldLinkNest .. => true
  | .methodLinkNest .. => true
  | _ => false
def NS (U : State) : Prop := ∀ w ∈ tables_1, isNest w = true → va_Nw w U
theorem NS.warm {s U : State} (hW : s.WarmedH U.vm) (h : NS s) : NS U := by
  intro w hw hn
  have h1 := h w hw hn
  cases w <;> first | exact va_Nw.warmF hW h1 | exact va_Nw.warmM hW h1 | (simp [isNest] at hn; done)
theorem NS.same {s U : State} (hW : s.vm = U.vm) (h : NS s) : NS U := by
  intro w hw hn
  have h1 := h w hw hn
  cases w <;> first | exact va_Nw.same rfl hW h1 | (simp [isNest] at hn; done)
/-! the words: all good ones of the tables -/
def WS : List Cond := lw_tbl.filter goodWord
theorem ws_m {w : Cond} (i : Nat) (h : lw_tbl[i]? = some w) (hg : goodWord w = true) : w ∈ WS := List.mem_filter.mpr ⟨List.mem_of_getElem? h, hg⟩
theorem ws_p {ws : List Cond} (ps : List Nat) (hp : ws = ps.filterMap (fun i => lw_tbl[i]?)) (h : ws.all goodWord = true) : ∀ w ∈ ws, w ∈ WS := by
  intro w hw
  have h1 := List.all_eq_true.mp h w hw
  rw [hp] at hw
  obtain ⟨i, -, hi⟩ := List.mem_filterMap.mp hw
  exact ws_m i hi h1
/-! what a field's link and a call's link are -/
def Fk (own : String) (index ci k : Nat) (ty : FieldType) (fin : Bool) : Prop := ∃ (C : String) (T : u_T) (N : Nat), vwCl[ci]? = some (C, T, N) ∧ k < N ∧
  (Cond.fieldLink own index C (T k).2.1 (T k).2.2.1 ∈ WS ∨ ∃ host : String, Cond.fieldLinkNest own index C (T k).2.1 (T k).2.2.1 host ∈ tables_1) ∧
  (∀ w ∈ u_ws C T N, w ∈ WS) ∧ (T k).1 = C ∧
  (∃ ty0 : Nat → FieldType, (∀ k, k < N → parseFieldDescriptor (T k).2.2.1 = some (ty0 k)) ∧ (∀ a, a < N → ∀ b, b < N → a ≠ b → (T a).2.1 ≠ (T b).2.1)) ∧
  parseFieldDescriptor (T k).2.2.1 = some ty ∧ (T k).2.2.2 = fin
abbrev Ck0 (y : MethodName) (n : Nat) : Prop := y.cls ≠ "java/lang/invoke/MethodHandle" ∧ y.cls ≠ "java/lang/invoke/VarHandle" ∧ (parseMethodDescriptor y.desc).map (fun d => d.parameters.length) = some n
def CkV (own : String) (index : Nat) (y : MethodName) (cc : ByteArray) (nL : Nat) (ret : Option FieldType) (C : String) (n : Nat) : Prop :=
  Cond.methodLink own index y ∈ WS ∧ Cond.instanceMethod y ∈ WS ∧ Cond.selects C y y ∈ WS ∧ Cond.initialized C ∈ WS ∧ Cond.code y cc nL ret ∈ WS ∧ y.cls = C ∧ Ck0 y n ∧ nL ≤ 17
def CkVN (own : String) (index : Nat) (y : MethodName) (cc : ByteArray) (nL : Nat) (ret : Option FieldType) (C : String) (n : Nat) : Prop :=
  Cond.methodLinkNest own index y RX7 ∈ tables_1 ∧ Cond.instanceMethod y ∈ WS ∧ Cond.selects C y y ∈ WS ∧ Cond.initialized C ∈ WS ∧ Cond.code y cc nL ret ∈ WS ∧ y.cls = C ∧ Ck0 y n ∧ nL ≤ 17
def CkS (own : String) (index : Nat) (y : MethodName) (cc : ByteArray) (nL : Nat) (ret : Option FieldType) (n : Nat) : Prop :=
  Cond.methodLink own index y ∈ WS ∧ Cond.static y ∈ WS ∧ Cond.initialized y.cls ∈ WS ∧ Cond.code y cc nL ret ∈ WS ∧ Ck0 y n ∧ nL ≤ 17
def CkSN (own : String) (index : Nat) (y : MethodName) (cc : ByteArray) (nL : Nat) (ret : Option FieldType) (n : Nat) : Prop :=
  Cond.methodLinkNest own index y RX7 ∈ tables_1 ∧ Cond.static y ∈ WS ∧ Cond.initialized y.cls ∈ WS ∧ Cond.code y cc nL ret ∈ WS ∧ Ck0 y n ∧ nL ≤ 17
theorem ws_in {ws : List Cond} (h : ∀ w ∈ ws, w ∈ WS) : GoodIn WS ws := fun w hw => ⟨h w hw, good_of_word (List.mem_filter.mp (h w hw)).2⟩
/-! the judgement -/
def rmd (d : Nat) : Room := { frames := d, cells := 0, slots := 0, locals := 36 * d }
abbrev tysOf (t : Tc) : List (ClassId × FieldType) := [(t.1, .int), (t.2.1, .boolean), (t.2.2, .object RX2)]
abbrev Bw (D : va_G) (t : Tc) (Γ : List Gc) (ρ : Nat → Nat) (σ : Mm) (U : State) : Prop := va_P D vwCl (e_W t Γ ρ σ) U.heap
def QQ (D : va_G) (t : Tc) (Γ : List Gc) (ρ : Nat → Nat) (A : Nat → Prop) (ret : Option FieldType) (post : Int32 → Mm → Prop) : Array Value → State → Outcome → State → Prop := match ret with
  | none => va_Qv (S := Mm) (post 0) (Bw D t Γ ρ) A
  | some _ => va_Qi (S := Mm) post (Bw D t Γ ρ) A
def Cx (own : String) (cc : ByteArray) (nL : Nat) (ret : Option FieldType) (D : va_G) (t : Tc) (A : Nat → Prop) (p : Program) (s : State) (m : MethodId) (args : Array Value) (meth : Method) (c : Code) : Prop :=
  p.tables.exec = Jvm.exec ∧ c.code = cc ∧ c.maxLocals = nL ∧ s.vm.findClass own = some m.cls ∧ meth.sig.returnType = ret ∧ meth.locks = false ∧ (∀ w ∈ WS, w.before args s = true) ∧ NS s ∧ va_K D vwCl (tysOf t) s ∧ ∀ q : Nat, s.heap.size ≤ q → A q
/-- the method with this code, now at pc with locals L, stack st and numbers σ, ends with an answer r and numbers σ' of which post holds -/
def AJ (Γ : List Gc) (d : Nat) (own : String) (cc : ByteArray) (nL : Nat) (ret : Option FieldType) (post : Int32 → Mm → Prop) (pc : Nat) (L : List (Option Vl)) (st : List Vl) (σ : Mm) : Prop :=
  ∀ (D : va_G) (t : Tc) (ρ : Nat → Nat) (A : Nat → Prop) (p : Program) (l : Launch) (e : Env) (s : State) (m : MethodId) (args : Array Value) (below : List Frame) (meth : Method) (c : Code) (H : Heap) (locs : List Loc) (ls : Array Slot),
    Cx own cc nL ret D t A p s m args meth c → va_P D vwCl (e_W t Γ ρ σ) H → va_D A (e_W t Γ ρ σ) → va_S A s.heap H locs → lvR ρ ls nL L →
    W p l e (rmd d) s m args below meth c H locs 0 0 (MQ below (QQ D t Γ ρ A ret post) args s 0 0 A) (F0 m pc ls (st.map (e_val ρ)))
/-- a method's contract: called with these arguments at these numbers it ends, with post -/
def EV (Γ : List Gc) (d : Nat) (y : MethodName) (cc : ByteArray) (nL : Nat) (ret : Option FieldType) (As : List Vl) (σ : Mm) (post : Int32 → Mm → Prop) : Prop :=
  ∀ (l : Launch) (D : va_G) (t : Tc) (ρ : Nat → Nat) (sz : Nat), Met l y (.code y cc nL ret :: WS) (rmd d)
    (va_Pc (As.map (e_val ρ)) (fun U => U.heap.size = sz ∧ va_P D vwCl (e_W t Γ ρ σ) U.heap ∧ va_K D vwCl (tysOf t) U ∧ va_D (fun _ => True) (e_W t Γ ρ σ) ∧ NS U))
    (QQ D t Γ ρ (va_A (e_W t Γ ρ σ) sz) ret post) 0 0 (va_A (e_W t Γ ρ σ) sz)
theorem EV.intro {Γ : List Gc} {d : Nat} {y : MethodName} {cc : ByteArray} {nL : Nat} {ret : Option FieldType} {As : List Vl} {σ : Mm} {post : Int32 → Mm → Prop} (hy : plainName y.cls = true) (hn : As.length ≤ nL)
    (h : AJ Γ d y.cls cc nL ret post 0 (L0 As nL) [] σ) : EV Γ d y cc nL ret As σ post := by
  intro l D t ρ sz
  refine Met.ofW (cc := cc) (maxL := nL) (ret := ret) hy rfl ?_
  intro p e s m args below meth c s₁ B hml hv
  obtain ⟨rfl, hsz, hP, hK, hD0, hN⟩ := hv
  have hx := B.exec
  have hb := B.bytes
  have hr := B.returns
  have hts := atoms_spec (ws := Cond.code y cc nL ret :: WS) B.pre
  have hown : s.vm.findClass y.cls = some m.cls := findClass_of_methodNamed B.named
  have hlocks : meth.locks = false := B.notSynchronized
  subst hsz
  have hD := hD0.self (sz := s.heap.size)
  rw [lg_entry_eq]
  exact h D t ρ _ p l e s m _ below meth c s.heap [] _ ⟨hx, hb, hml, hown, hr, hlocks, fun w hw => hts w (List.mem_cons_of_mem _ hw), hN, hK, fun q hq => Or.inr hq⟩ hP hD va_S.rf (lvR.entry ρ As hn)
section Rules
variable {Γ : List Gc} {d : Nat} {own : String} {cc : ByteArray} {nL : Nat} {ret : Option FieldType} {post : Int32 → Mm → Prop} {pc : Nat} {L : List (Option Vl)} {st : List Vl} {σ : Mm}
theorem AJ.eq {pc' : Nat} {L' : List (Option Vl)} {st' : List Vl} {σ' : Mm} (k : AJ Γ d own cc nL ret post pc' L' st' σ') (h1 : pc = pc') (h2 : L = L') (h3 : st = st') (h4 : σ = σ') : AJ Γ d own cc nL ret post pc L st σ := by
  subst h1; subst h2; subst h3; subst h4; exact k
theorem j_iconst {n : Int} (hd : decode cc pc = .ok (.iconst n, 1)) {v : Int32} (hv : Int32.ofInt n = v) (k : AJ Γ d own cc nL ret post (pc + 1) L (.inl v :: st) σ) : AJ Γ d own cc nL ret post pc L st σ := by
  intro D t ρ A p l e s m args below meth c H locs ls C hP hD hS hl
  exact lv_iconst C.1 C.2.1 hd hv (k D t ρ A p l e s m args below meth c H locs ls C hP hD hS hl)
theorem j_bipush {n : Int} (hd : decode cc pc = .ok (.bipush n, 2)) {v : Int32} (hv : (Int8.ofInt n).toInt32 = v) (k : AJ Γ d own cc nL ret post (pc + 2) L (.inl v :: st) σ) : AJ Γ d own cc nL ret post pc L st σ := by
  intro D t ρ A p l e s m args below meth c H locs ls C hP hD hS hl
  exact lv_bipush C.1 C.2.1 hd hv (k D t ρ A p l e s m args below meth c H locs ls C hP hD hS hl)
theorem j_sipush {n : Int} (hd : decode cc pc = .ok (.sipush n, 3)) {v : Int32} (hv : (Int16.ofInt n).toInt32 = v) (k : AJ Γ d own cc nL ret post (pc + 3) L (.inl v :: st) σ) : AJ Γ d own cc nL ret post pc L st σ := by
  intro D t ρ A p l e s m args below meth c H locs ls C hP hD hS hl
  exact lv_sipush C.1 C.2.1 hd hv (k D t ρ A p l e s m args below meth c H locs ls C hP hD hS hl)
theorem j_ldc {index : Nat} {v : Int32} (hd : decode cc pc = .ok (.ldc index, 2)) (hw : Cond.constant own index v ∈ WS) (k : AJ Γ d own cc nL ret post (pc + 2) L (.inl v :: st) σ) : AJ Γ d own cc nL ret post pc L st σ := by
  intro D t ρ A p l e s m args below meth c H locs ls C hP hD hS hl
  exact lv_ldc C.1 C.2.1 C.2.2.2.1 (C.2.2.2.2.2.2.1 _ hw) hd (k D t ρ A p l e s m args below meth c H locs ls C hP hD hS hl)
theorem j_ldcw {index : Nat} {v : Int32} (hd : decode cc pc = .ok (.ldc_w index, 3)) (hw : Cond.constant own index v ∈ WS) (k : AJ Γ d own cc nL ret post (pc + 3) L (.inl v :: st) σ) : AJ Γ d own cc nL ret post pc L st σ := by
  intro D t ρ A p l e s m args below meth c H locs ls C hP hD hS hl
  exact lv_ldcw C.1 C.2.1 C.2.2.2.1 (C.2.2.2.2.2.2.1 _ hw) hd (k D t ρ A p l e s m args below meth c H locs ls C hP hD hS hl)
theorem j_iload {i : Nat} {x : Int32} (hd : decode cc pc = .ok (.iload i, 2)) (h : L[i]? = some (some (.inl x))) (k : AJ Γ d own cc nL ret post (pc + 2) L (.inl x :: st) σ) : AJ Γ d own cc nL ret post pc L st σ := by
  intro D t ρ A p l e s m args below meth c H locs ls C hP hD hS hl
  exact lv_iload C.1 C.2.1 hd (hl.2.2.2 _ _ h) (k D t ρ A p l e s m args below meth c H locs ls C hP hD hS hl)
theorem j_iload_n {i : Fin 4} {x : Int32} (hd : decode cc pc = .ok (.iload_n i, 1)) (h : L[i.val]? = some (some (.inl x))) (k : AJ Γ d own cc nL ret post (pc + 1) L (.inl x :: st) σ) : AJ Γ d own cc nL ret post pc L st σ := by
  intro D t ρ A p l e s m args below meth c H locs ls C hP hD hS hl
  exact lv_iload_n C.1 C.2.1 hd rfl (hl.2.2.2 _ _ h) (k D t ρ A p l e s m args below meth c H locs ls C hP hD hS hl)
theorem j_aload {i : Nat} {x : Nat} (hd : decode cc pc = .ok (.aload i, 2)) (h : L[i]? = some (some (.inr x))) (k : AJ Γ d own cc nL ret post (pc + 2) L (.inr x :: st) σ) : AJ Γ d own cc nL ret post pc L st σ := by
  intro D t ρ A p l e s m args below meth c H locs ls C hP hD hS hl
  exact lv_aload C.1 C.2.1 hd (hl.2.2.2 _ _ h) (k D t ρ A p l e s m args below meth c H locs ls C hP hD hS hl)
theorem j_aload_n {i : Fin 4} {x : Nat} (hd : decode cc pc = .ok (.aload_n i, 1)) (h : L[i.val]? = some (some (.inr x))) (k : AJ Γ d own cc nL ret post (pc + 1) L (.inr x :: st) σ) : AJ Γ d own cc nL ret post pc L st σ := by
  intro D t ρ A p l e s m args below meth c H locs ls C hP hD hS hl
  exact lv_aload_n C.1 C.2.1 hd rfl (hl.2.2.2 _ _ h) (k D t ρ A p l e s m args below meth c H locs ls C hP hD hS hl)
theorem j_istore {i : Nat} {x : Int32} (hd : decode cc pc = .ok (.istore i, 2)) (hi : i < nL) (k : AJ Γ d own cc nL ret post (pc + 2) (L.set i (some (.inl x))) st σ) : AJ Γ d own cc nL ret post pc L (.inl x :: st) σ := by
  intro D t ρ A p l e s m args below meth c H locs ls C hP hD hS hl
  exact lv_istore C.1 C.2.1 hd hl.has hi rfl (fun ls' h' => k D t ρ A p l e s m args below meth c H locs ls' C hP hD hS (hl.store (v := .inl x) hi h'))
theorem j_istore_n {i : Fin 4} {x : Int32} (hd : decode cc pc = .ok (.istore_n i, 1)) (hi : i.val < nL) (k : AJ Γ d own cc nL ret post (pc + 1) (L.set i.val (some (.inl x))) st σ) : AJ Γ d own cc nL ret post pc L (.inl x :: st) σ := by
  intro D t ρ A p l e s m args below meth c H locs ls C hP hD hS hl
  exact lv_istore_n C.1 C.2.1 hd rfl hl.has hi rfl (fun ls' h' => k D t ρ A p l e s m args below meth c H locs ls' C hP hD hS (hl.store (v := .inl x) hi h'))
theorem j_astore_n {i : Fin 4} {x : Nat} (hd : decode cc pc = .ok (.astore_n i, 1)) (hi : i.val < nL) (k : AJ Γ d own cc nL ret post (pc + 1) (L.set i.val (some (.inr x))) st σ) : AJ Γ d own cc nL ret post pc L (.inr x :: st) σ := by
  intro D t ρ A p l e s m args below meth c H locs ls C hP hD hS hl
  exact lv_astore_n C.1 C.2.1 hd rfl hl.has hi rfl (fun ls' h' => k D t ρ A p l e s m args below meth c H locs ls' C hP hD hS (hl.store (v := .inr x) hi h'))
theorem j_iinc {i : Nat} {n : Int} {x v : Int32} (hd : decode cc pc = .ok (.iinc i n, 3)) (h : L[i]? = some (some (.inl x))) (hv : x + Int32.ofInt n = v) (k : AJ Γ d own cc nL ret post (pc + 3) (L.set i (some (.inl v))) st σ) : AJ Γ d own cc nL ret post pc L st σ := by
  intro D t ρ A p l e s m args below meth c H locs ls C hP hD hS hl
  have hi : i < nL := by rw [← hl.2.2.1]; exact (List.getElem?_eq_some_iff.mp h).1
  have hm : (i, Value.int x) ∈ lvl ρ L := lvl_mem.mpr ⟨.inl x, h, rfl⟩
  obtain ⟨q, hq⟩ := List.getElem?_of_mem hm
  exact lv_iinc C.1 C.2.1 hd hl.has hq hv hi rfl (fun ls' h' => k D t ρ A p l e s m args below meth c H locs ls' C hP hD hS (hl.store (v := .inl v) hi h'))
theorem j_dup {v : Vl} (hd : decode cc pc = .ok (.dup, 1)) (k : AJ Γ d own cc nL ret post (pc + 1) L (v :: v :: st) σ) : AJ Γ d own cc nL ret post pc L (v :: st) σ := by
  intro D t ρ A p l e s m args below meth c H locs ls C hP hD hS hl
  exact lv_dup C.1 C.2.1 hd (e_cat ρ v) (k D t ρ A p l e s m args below meth c H locs ls C hP hD hS hl)
theorem j_dup2 {v w : Vl} (hd : decode cc pc = .ok (.dup2, 1)) (k : AJ Γ d own cc nL ret post (pc + 1) L (v :: w :: v :: w :: st) σ) : AJ Γ d own cc nL ret post pc L (v :: w :: st) σ := by
  intro D t ρ A p l e s m args below meth c H locs ls C hP hD hS hl
  exact lv_dup2_11 C.1 C.2.1 hd (e_cat ρ v) (e_cat ρ w) (k D t ρ A p l e s m args below meth c H locs ls C hP hD hS hl)
theorem j_pop {v : Vl} (hd : decode cc pc = .ok (.pop, 1)) (k : AJ Γ d own cc nL ret post (pc + 1) L st σ) : AJ Γ d own cc nL ret post pc L (v :: st) σ := by
  intro D t ρ A p l e s m args below meth c H locs ls C hP hD hS hl
  exact lv_pop C.1 C.2.1 hd (e_cat ρ v) (k D t ρ A p l e s m args below meth c H locs ls C hP hD hS hl)
theorem j_goto {off : Int} {tgt : Nat} (hd : decode cc pc = .ok (.goto off, 3)) (ht : (pc : Int) + off = (tgt : Int)) (k : AJ Γ d own cc nL ret post tgt L st σ) : AJ Γ d own cc nL ret post pc L st σ := by
  intro D t ρ A p l e s m args below meth c H locs ls C hP hD hS hl
  exact lv_goto C.1 C.2.1 hd ht (k D t ρ A p l e s m args below meth c H locs ls C hP hD hS hl)
theorem j_iadd {x y : Int32} (hd : decode cc pc = .ok (.iadd, 1)) (k : AJ Γ d own cc nL ret post (pc + 1) L (.inl (x + y) :: st) σ) : AJ Γ d own cc nL ret post pc L (.inl y :: .inl x :: st) σ := by
  intro D t ρ A p l e s m args below meth c H locs ls C hP hD hS hl
  exact lv_iadd C.1 C.2.1 hd (k D t ρ A p l e s m args below meth c H locs ls C hP hD hS hl)
theorem j_isub {x y : Int32} (hd : decode cc pc = .ok (.isub, 1)) (k : AJ Γ d own cc nL ret post (pc + 1) L (.inl (x - y) :: st) σ) : AJ Γ d own cc nL ret post pc L (.inl y :: .inl x :: st) σ := by
  intro D t ρ A p l e s m args below meth c H locs ls C hP hD hS hl
  exact lv_isub C.1 C.2.1 hd (k D t ρ A p l e s m args below meth c H locs ls C hP hD hS hl)
theorem j_imul {x y : Int32} (hd : decode cc pc = .ok (.imul, 1)) (k : AJ Γ d own cc nL ret post (pc + 1) L (.inl (x * y) :: st) σ) : AJ Γ d own cc nL ret post pc L (.inl y :: .inl x :: st) σ := by
  intro D t ρ A p l e s m args below meth c H locs ls C hP hD hS hl
  exact lv_imul C.1 C.2.1 hd (k D t ρ A p l e s m args below meth c H locs ls C hP hD hS hl)
theorem j_iand {x y : Int32} (hd : decode cc pc = .ok (.iand, 1)) (k : AJ Γ d own cc nL ret post (pc + 1) L (.inl (x &&& y) :: st) σ) : AJ Γ d own cc nL ret post pc L (.inl y :: .inl x :: st) σ := by
  intro D t ρ A p l e s m args below meth c H locs ls C hP hD hS hl
  exact lv_iand C.1 C.2.1 hd (k D t ρ A p l e s m args below meth c H locs ls C hP hD hS hl)
theorem j_ior {x y : Int32} (hd : decode cc pc = .ok (.ior, 1)) (k : AJ Γ d own cc nL ret post (pc + 1) L (.inl (x ||| y) :: st) σ) : AJ Γ d own cc nL ret post pc L (.inl y :: .inl x :: st) σ := by
  intro D t ρ A p l e s m args below meth c H locs ls C hP hD hS hl
  exact lv_ior C.1 C.2.1 hd (k D t ρ A p l e s m args below meth c H locs ls C hP hD hS hl)
theorem j_ixor {x y : Int32} (hd : decode cc pc = .ok (.ixor, 1)) (k : AJ Γ d own cc nL ret post (pc + 1) L (.inl (x ^^^ y) :: st) σ) : AJ Γ d own cc nL ret post pc L (.inl y :: .inl x :: st) σ := by
  intro D t ρ A p l e s m args below meth c H locs ls C hP hD hS hl
  exact lv_ixor C.1 C.2.1 hd (k D t ρ A p l e s m args below meth c H locs ls C hP hD hS hl)
theorem j_ishl {x y : Int32} (hd : decode cc pc = .ok (.ishl, 1)) (k : AJ Γ d own cc nL ret post (pc + 1) L (.inl (x <<< (y &&& 31)) :: st) σ) : AJ Γ d own cc nL ret post pc L (.inl y :: .inl x :: st) σ := by
  intro D t ρ A p l e s m args below meth c H locs ls C hP hD hS hl
  exact lv_ishl C.1 C.2.1 hd (k D t ρ A p l e s m args below meth c H locs ls C hP hD hS hl)
theorem j_ishr {x y : Int32} (hd : decode cc pc = .ok (.ishr, 1)) (k : AJ Γ d own cc nL ret post (pc + 1) L (.inl (x >>> (y &&& 31)) :: st) σ) : AJ Γ d own cc nL ret post pc L (.inl y :: .inl x :: st) σ := by
  intro D t ρ A p l e s m args below meth c H locs ls C hP hD hS hl
  exact lv_ishr C.1 C.2.1 hd (k D t ρ A p l e s m args below meth c H locs ls C hP hD hS hl)
theorem j_idiv {x y : Int32} (hd : decode cc pc = .ok (.idiv, 1)) (hne : ¬ y = 0) (k : AJ Γ d own cc nL ret post (pc + 1) L (.inl (x / y) :: st) σ) : AJ Γ d own cc nL ret post pc L (.inl y :: .inl x :: st) σ := by
  intro D t ρ A p l e s m args below meth c H locs ls C hP hD hS hl
  exact lv_idiv C.1 C.2.1 hd hne (k D t ρ A p l e s m args below meth c H locs ls C hP hD hS hl)
theorem j_irem {x y : Int32} (hd : decode cc pc = .ok (.irem, 1)) (hne : ¬ y = 0) (k : AJ Γ d own cc nL ret post (pc + 1) L (.inl (x - x / y * y) :: st) σ) : AJ Γ d own cc nL ret post pc L (.inl y :: .inl x :: st) σ := by
  intro D t ρ A p l e s m args below meth c H locs ls C hP hD hS hl
  exact lv_irem C.1 C.2.1 hd hne (k D t ρ A p l e s m args below meth c H locs ls C hP hD hS hl)
theorem j_iushr {x y v : Int32} (hd : decode cc pc = .ok (.iushr, 1)) (hv : (x.toUInt32 >>> (y.toUInt32 &&& Int32.toUInt32 31)).toInt32 = v) (k : AJ Γ d own cc nL ret post (pc + 1) L (.inl v :: st) σ) : AJ Γ d own cc nL ret post pc L (.inl y :: .inl x :: st) σ := by
  intro D t ρ A p l e s m args below meth c H locs ls C hP hD hS hl
  exact lv_iushr C.1 C.2.1 hd hv (k D t ρ A p l e s m args below meth c H locs ls C hP hD hS hl)
theorem j_icmp_eq {x y : Int32} {off : Int} {tgt : Nat} (hd : decode cc pc = .ok (.if_icmp .eq off, 3)) (ht : (pc : Int) + off = (tgt : Int)) (kt : x = y → AJ Γ d own cc nL ret post tgt L st σ) (kf : ¬ x = y → AJ Γ d own cc nL ret post (pc + 3) L st σ) : AJ Γ d own cc nL ret post pc L (.inl y :: .inl x :: st) σ := by
  intro D t ρ A p l e s m args below meth c H locs ls C hP hD hS hl
  exact lv_icmp_eq C.1 C.2.1 hd ht (fun h => kt h D t ρ A p l e s m args below meth c H locs ls C hP hD hS hl) (fun h => kf h D t ρ A p l e s m args below meth c H locs ls C hP hD hS hl)
theorem j_icmp_ne {x y : Int32} {off : Int} {tgt : Nat} (hd : decode cc pc = .ok (.if_icmp .ne off, 3)) (ht : (pc : Int) + off = (tgt : Int)) (kt : ¬ x = y → AJ Γ d own cc nL ret post tgt L st σ) (kf : x = y → AJ Γ d own cc nL ret post (pc + 3) L st σ) : AJ Γ d own cc nL ret post pc L (.inl y :: .inl x :: st) σ := by
  intro D t ρ A p l e s m args below meth c H locs ls C hP hD hS hl
  exact lv_icmp_ne C.1 C.2.1 hd ht (fun h => kt h D t ρ A p l e s m args below meth c H locs ls C hP hD hS hl) (fun h => kf h D t ρ A p l e s m args below meth c H locs ls C hP hD hS hl)
theorem j_icmp_lt {x y : Int32} {off : Int} {tgt : Nat} (hd : decode cc pc = .ok (.if_icmp .lt off, 3)) (ht : (pc : Int) + off = (tgt : Int)) (kt : x < y → AJ Γ d own cc nL ret post tgt L st σ) (kf : ¬ x < y → AJ Γ d own cc nL ret post (pc + 3) L st σ) : AJ Γ d own cc nL ret post pc L (.inl y :: .inl x :: st) σ := by
  intro D t ρ A p l e s m args below meth c H locs ls C hP hD hS hl
  exact lv_icmp_lt C.1 C.2.1 hd ht (fun h => kt h D t ρ A p l e s m args below meth c H locs ls C hP hD hS hl) (fun h => kf h D t ρ A p l e s m args below meth c H locs ls C hP hD hS hl)
theorem j_icmp_ge {x y : Int32} {off : Int} {tgt : Nat} (hd : decode cc pc = .ok (.if_icmp .ge off, 3)) (ht : (pc : Int) + off = (tgt : Int)) (kt : y ≤ x → AJ Γ d own cc nL ret post tgt L st σ) (kf : ¬ y ≤ x → AJ Γ d own cc nL ret post (pc + 3) L st σ) : AJ Γ d own cc nL ret post pc L (.inl y :: .inl x :: st) σ := by
  intro D t ρ A p l e s m args below meth c H locs ls C hP hD hS hl
  exact lv_icmp_ge C.1 C.2.1 hd ht (fun h => kt h D t ρ A p l e s m args below meth c H locs ls C hP hD hS hl) (fun h => kf h D t ρ A p l e s m args below meth c H locs ls C hP hD hS hl)
theorem j_icmp_gt {x y : Int32} {off : Int} {tgt : Nat} (hd : decode cc pc = .ok (.if_icmp .gt off, 3)) (ht : (pc : Int) + off = (tgt : Int)) (kt : y < x → AJ Γ d own cc nL ret post tgt L st σ) (kf : ¬ y < x → AJ Γ d own cc nL ret post (pc + 3) L st σ) : AJ Γ d own cc nL ret post pc L (.inl y :: .inl x :: st) σ := by
  intro D t ρ A p l e s m args below meth c H locs ls C hP hD hS hl
  exact lv_icmp_gt C.1 C.2.1 hd ht (fun h => kt h D t ρ A p l e s m args below meth c H locs ls C hP hD hS hl) (fun h => kf h D t ρ A p l e s m args below meth c H locs ls C hP hD hS hl)
theorem j_icmp_le {x y : Int32} {off : Int} {tgt : Nat} (hd : decode cc pc = .ok (.if_icmp .le off, 3)) (ht : (pc : Int) + off = (tgt : Int)) (kt : x ≤ y → AJ Γ d own cc nL ret post tgt L st σ) (kf : ¬ x ≤ y → AJ Γ d own cc nL ret post (pc + 3) L st σ) : AJ Γ d own cc nL ret post pc L (.inl y :: .inl x :: st) σ := by
  intro D t ρ A p l e s m args below meth c H locs ls C hP hD hS hl
  exact lv_icmp_le C.1 C.2.1 hd ht (fun h => kt h D t ρ A p l e s m args below meth c H locs ls C hP hD hS hl) (fun h => kf h D t ρ A p l e s m args below meth c H locs ls C hP hD hS hl)
theorem j_if_eq {x : Int32} {off : Int} {tgt : Nat} (hd : decode cc pc = .ok (.ifCond .eq off, 3)) (ht : (pc : Int) + off = (tgt : Int)) (kt : x = 0 → AJ Γ d own cc nL ret post tgt L st σ) (kf : ¬ x = 0 → AJ Γ d own cc nL ret post (pc + 3) L st σ) : AJ Γ d own cc nL ret post pc L (.inl x :: st) σ := by
  intro D t ρ A p l e s m args below meth c H locs ls C hP hD hS hl
  exact lv_if_eq C.1 C.2.1 hd ht (fun h => kt h D t ρ A p l e s m args below meth c H locs ls C hP hD hS hl) (fun h => kf h D t ρ A p l e s m args below meth c H locs ls C hP hD hS hl)
theorem j_if_ne {x : Int32} {off : Int} {tgt : Nat} (hd : decode cc pc = .ok (.ifCond .ne off, 3)) (ht : (pc : Int) + off = (tgt : Int)) (kt : ¬ x = 0 → AJ Γ d own cc nL ret post tgt L st σ) (kf : x = 0 → AJ Γ d own cc nL ret post (pc + 3) L st σ) : AJ Γ d own cc nL ret post pc L (.inl x :: st) σ := by
  intro D t ρ A p l e s m args below meth c H locs ls C hP hD hS hl
  exact lv_if_ne C.1 C.2.1 hd ht (fun h => kt h D t ρ A p l e s m args below meth c H locs ls C hP hD hS hl) (fun h => kf h D t ρ A p l e s m args below meth c H locs ls C hP hD hS hl)
theorem j_if_lt {x : Int32} {off : Int} {tgt : Nat} (hd : decode cc pc = .ok (.ifCond .lt off, 3)) (ht : (pc : Int) + off = (tgt : Int)) (kt : x < 0 → AJ Γ d own cc nL ret post tgt L st σ) (kf : ¬ x < 0 → AJ Γ d own cc nL ret post (pc + 3) L st σ) : AJ Γ d own cc nL ret post pc L (.inl x :: st) σ := by
  intro D t ρ A p l e s m args below meth c H locs ls C hP hD hS hl
  exact lv_if_lt C.1 C.2.1 hd ht (fun h => kt h D t ρ A p l e s m args below meth c H locs ls C hP hD hS hl) (fun h => kf h D t ρ A p l e s m args below meth c H locs ls C hP hD hS hl)
theorem j_if_ge {x : Int32} {off : Int} {tgt : Nat} (hd : decode cc pc = .ok (.ifCond .ge off, 3)) (ht : (pc : Int) + off = (tgt : Int)) (kt : 0 ≤ x → AJ Γ d own cc nL ret post tgt L st σ) (kf : ¬ 0 ≤ x → AJ Γ d own cc nL ret post (pc + 3) L st σ) : AJ Γ d own cc nL ret post pc L (.inl x :: st) σ := by
  intro D t ρ A p l e s m args below meth c H locs ls C hP hD hS hl
  exact lv_if_ge C.1 C.2.1 hd ht (fun h => kt h D t ρ A p l e s m args below meth c H locs ls C hP hD hS hl) (fun h => kf h D t ρ A p l e s m args below meth c H locs ls C hP hD hS hl)
theorem j_if_gt {x : Int32} {off : Int} {tgt : Nat} (hd : decode cc pc = .ok (.ifCond .gt off, 3)) (ht : (pc : Int) + off = (tgt : Int)) (kt : 0 < x → AJ Γ d own cc nL ret post tgt L st σ) (kf : ¬ 0 < x → AJ Γ d own cc nL ret post (pc + 3) L st σ) : AJ Γ d own cc nL ret post pc L (.inl x :: st) σ := by
  intro D t ρ A p l e s m args below meth c H locs ls C hP hD hS hl
  exact lv_if_gt C.1 C.2.1 hd ht (fun h => kt h D t ρ A p l e s m args below meth c H locs ls C hP hD hS hl) (fun h => kf h D t ρ A p l e s m args below meth c H locs ls C hP hD hS hl)
theorem j_if_le {x : Int32} {off : Int} {tgt : Nat} (hd : decode cc pc = .ok (.ifCond .le off, 3)) (ht : (pc : Int) + off = (tgt : Int)) (kt : x ≤ 0 → AJ Γ d own cc nL ret post tgt L st σ) (kf : ¬ x ≤ 0 → AJ Γ d own cc nL ret post (pc + 3) L st σ) : AJ Γ d own cc nL ret post pc L (.inl x :: st) σ := by
  intro D t ρ A p l e s m args below meth c H locs ls C hP hD hS hl
  exact lv_if_le C.1 C.2.1 hd ht (fun h => kt h D t ρ A p l e s m args below meth c H locs ls C hP hD hS hl) (fun h => kf h D t ρ A p l e s m args below meth c H locs ls C hP hD hS hl)
theorem j_tableIn {dflt lo hi : Int} {offs : Array Int} {len : Nat} {x : Int32} {off : Int} {tgt : Nat} (hd : decode cc pc = .ok (.tableswitch dflt lo hi offs, len)) (h1 : ¬ x.toInt < lo) (h2 : ¬ hi < x.toInt) (ho : offs[(x.toInt - lo).toNat]? = some off) (ht : (pc : Int) + off = (tgt : Int)) (k : AJ Γ d own cc nL ret post tgt L st σ) : AJ Γ d own cc nL ret post pc L (.inl x :: st) σ := by
  intro D t ρ A p l e s m args below meth c H locs ls C hP hD hS hl
  exact lv_tableIn C.1 C.2.1 hd h1 h2 ho ht (k D t ρ A p l e s m args below meth c H locs ls C hP hD hS hl)
theorem j_tableOut {dflt lo hi : Int} {offs : Array Int} {len : Nat} {x : Int32} {tgt : Nat} (hd : decode cc pc = .ok (.tableswitch dflt lo hi offs, len)) (h : x.toInt < lo ∨ hi < x.toInt) (ht : (pc : Int) + dflt = (tgt : Int)) (k : AJ Γ d own cc nL ret post tgt L st σ) : AJ Γ d own cc nL ret post pc L (.inl x :: st) σ := by
  intro D t ρ A p l e s m args below meth c H locs ls C hP hD hS hl
  exact lv_tableOut C.1 C.2.1 hd h ht (k D t ρ A p l e s m args below meth c H locs ls C hP hD hS hl)
theorem j_lookup {dflt : Int} {ps : Array (Int × Int)} {len : Nat} {x : Int32} {off : Int} {tgt : Nat} (hd : decode cc pc = .ok (.lookupswitch dflt ps, len)) (hp : (ps.toList.zip (ps.toList.drop 1)).all (fun (a, next) => a.1 < next.1) = true) (ho : Op.lookupswitch.offset ps.toList dflt x.toInt = off) (ht : (pc : Int) + off = (tgt : Int)) (k : AJ Γ d own cc nL ret post tgt L st σ) : AJ Γ d own cc nL ret post pc L (.inl x :: st) σ := by
  intro D t ρ A p l e s m args below meth c H locs ls C hP hD hS hl
  exact lv_lookup C.1 C.2.1 hd hp ho ht (k D t ρ A p l e s m args below meth c H locs ls C hP hD hS hl)
theorem j_getI {index ci k a : Nat} {ty : FieldType} {fin : Bool} {fs : List Nat} (hd : decode cc pc = .ok (.getfield index, 3)) (fk : Fk own index ci k ty fin) (hg : Γ[a]? = some (.inr (ci, fs))) (hf : fs[k]? = some 0) (kk : AJ Γ d own cc nL ret post (pc + 3) L (.inl (σ a k) :: st) σ) : AJ Γ d own cc nL ret post pc L (.inr a :: st) σ := by
  intro D t ρ A p l e s m args below meth c H locs ls C hP hD hS hl
  obtain ⟨C1, T, N, hc, hk, hlink, hin, hC, -, -, -⟩ := fk
  have hv : (fs.mapIdx (e_fld ρ (σ a)))[k]? = some (.int (σ a k)) := e_fget hf
  have hts := C.2.2.2.2.2.2.1
  rcases hlink with hlink | ⟨host, hlink⟩
  · exact va_get C.1 C.2.1 hts hin C.2.2.2.1 C.2.2.2.2.2.2.2.2.1 hP a (e_get hg) hc k hk (hts _ hlink) (fun _ h9 => by rw [hC] at h9; exact h9) hv hd (kk D t ρ A p l e s m args below meth c H locs ls C hP hD hS hl)
  · exact va_getN C.1 C.2.1 hts hin C.2.2.2.1 C.2.2.2.2.2.2.2.2.1 hP a (e_get hg) hc k hk (va_Nw.use rfl (C.2.2.2.2.2.2.2.1 _ hlink rfl)) (fun _ h9 => by rw [hC] at h9; exact h9) hv hd (kk D t ρ A p l e s m args below meth c H locs ls C hP hD hS hl)
theorem j_getR {index ci k a b : Nat} {ty : FieldType} {fin : Bool} {fs : List Nat} (hd : decode cc pc = .ok (.getfield index, 3)) (fk : Fk own index ci k ty fin) (hg : Γ[a]? = some (.inr (ci, fs))) (hf : fs[k]? = some (b + 1)) (kk : AJ Γ d own cc nL ret post (pc + 3) L (.inr b :: st) σ) : AJ Γ d own cc nL ret post pc L (.inr a :: st) σ := by
  intro D t ρ A p l e s m args below meth c H locs ls C hP hD hS hl
  obtain ⟨C1, T, N, hc, hk, hlink, hin, hC, -, -, -⟩ := fk
  have hv : (fs.mapIdx (e_fld ρ (σ a)))[k]? = some (.ref (ρ b)) := e_fget hf
  have hts := C.2.2.2.2.2.2.1
  rcases hlink with hlink | ⟨host, hlink⟩
  · exact va_get C.1 C.2.1 hts hin C.2.2.2.1 C.2.2.2.2.2.2.2.2.1 hP a (e_get hg) hc k hk (hts _ hlink) (fun _ h9 => by rw [hC] at h9; exact h9) hv hd (kk D t ρ A p l e s m args below meth c H locs ls C hP hD hS hl)
  · exact va_getN C.1 C.2.1 hts hin C.2.2.2.1 C.2.2.2.2.2.2.2.2.1 hP a (e_get hg) hc k hk (va_Nw.use rfl (C.2.2.2.2.2.2.2.1 _ hlink rfl)) (fun _ h9 => by rw [hC] at h9; exact h9) hv hd (kk D t ρ A p l e s m args below meth c H locs ls C hP hD hS hl)
theorem j_putX {index ci k a : Nat} {ty : FieldType} {fs : List Nat} {v : Int32} (hd : decode cc pc = .ok (.putfield index, 3)) (fk : Fk own index ci k ty false) (hg : Γ[a]? = some (.inr (ci, fs))) (hf : fs[k]? = some 0) (hn : narrow ty (.int v) = .int v) (hfit : fits ty (.int v) = true) (kk : AJ Γ d own cc nL ret post (pc + 3) L st (m_up σ a k v)) : AJ Γ d own cc nL ret post pc L (.inl v :: .inr a :: st) σ := by
  intro D t ρ A p l e s m args below meth c H locs ls C hP hD hS hl
  obtain ⟨C1, T, N, hc, hk, hlink, hin, hC, ⟨ty0, hty, hnm⟩, hdd, hfin⟩ := fk
  have hts := C.2.2.2.2.2.2.1
  have hq : (e_W t Γ ρ σ).set a (ρ a, .inr (ci, (fs.mapIdx (e_fld ρ (σ a))).set k (.int v))) = e_W t Γ ρ (m_up σ a k v) := e_set hg (by rw [e_fset hf]; rfl)
  have hlen : k < (fs.mapIdx (e_fld ρ (σ a))).length := by
    rw [List.length_mapIdx]
    exact (List.getElem?_eq_some_iff.mp hf).1
  rcases hlink with hlink | ⟨host, hlink⟩
  · refine va_put (v := .int v) C.1 C.2.1 hts hin ty0 hty hnm C.2.2.2.1 C.2.2.2.2.2.2.2.2.1 hP hD hS a (e_get hg) hc k hk (hts _ hlink) (fun _ h9 => by rw [hC] at h9; exact h9) hfin hdd hn hfit hlen hd (fun H1 locs1 hP1 hD1 hS1 => ?_)
    rw [hq] at hP1 hD1
    exact kk D t ρ A p l e s m args below meth c H1 locs1 ls C hP1 hD1 hS1 hl
  · refine va_putN (v := .int v) C.1 C.2.1 hts hin ty0 hty hnm C.2.2.2.1 C.2.2.2.2.2.2.2.2.1 hP hD hS a (e_get hg) hc k hk (va_Nw.use rfl (C.2.2.2.2.2.2.2.1 _ hlink rfl)) (fun _ h9 => by rw [hC] at h9; exact h9) hfin hdd hn hfit hlen hd (fun H1 locs1 hP1 hD1 hS1 => ?_)
    rw [hq] at hP1 hD1
    exact kk D t ρ A p l e s m args below meth c H1 locs1 ls C hP1 hD1 hS1 hl
theorem j_put {index ci k a : Nat} {fs : List Nat} {v : Int32} (hd : decode cc pc = .ok (.putfield index, 3)) (fk : Fk own index ci k .int false) (hg : Γ[a]? = some (.inr (ci, fs))) (hf : fs[k]? = some 0) (kk : AJ Γ d own cc nL ret post (pc + 3) L st (m_up σ a k v)) : AJ Γ d own cc nL ret post pc L (.inl v :: .inr a :: st) σ := j_putX hd fk hg hf rfl rfl kk
theorem nz_of {v : Int32} (hv : v = 0 ∨ v = 1) : narrow .boolean (.int v) = .int v ∧ fits .boolean (.int v) = true ∧ vp_nar .boolean v = v := by
  rcases hv with rfl | rfl <;> exact ⟨by decide, by decide, by decide⟩
theorem j_putZ {index ci k a : Nat} {fs : List Nat} {v : Int32} (hd : decode cc pc = .ok (.putfield index, 3)) (fk : Fk own index ci k .boolean false) (hg : Γ[a]? = some (.inr (ci, fs))) (hf : fs[k]? = some 0) (hv : v = 0 ∨ v = 1) (kk : AJ Γ d own cc nL ret post (pc + 3) L st (m_up σ a k v)) : AJ Γ d own cc nL ret post pc L (.inl v :: .inr a :: st) σ := j_putX hd fk hg hf (nz_of hv).1 (nz_of hv).2.1 kk
theorem j_iald {a n : Nat} {ids : List Nat} {i : Int32} (hd : decode cc pc = .ok (.iaload, 1)) (hg : Γ[a]? = some (.inl (0, n, ids))) (hin : vp_in i n) (kk : AJ Γ d own cc nL ret post (pc + 1) L (.inl (σ a i.toNatClampNeg) :: st) σ) : AJ Γ d own cc nL ret post pc L (.inl i :: .inr a :: st) σ := by
  intro D t ρ A p l e s m args below meth c H locs ls C hP hD hS hl
  exact va_iald C.1 C.2.1 C.2.2.2.2.2.2.2.2.1 hP a 0 (e_get hg) rfl hin hd (kk D t ρ A p l e s m args below meth c H locs ls C hP hD hS hl)
theorem j_zald {a n : Nat} {ids : List Nat} {i : Int32} (hd : decode cc pc = .ok (.baload, 1)) (hg : Γ[a]? = some (.inl (1, n, ids))) (hin : vp_in i n) (kk : AJ Γ d own cc nL ret post (pc + 1) L (.inl (σ a i.toNatClampNeg) :: st) σ) : AJ Γ d own cc nL ret post pc L (.inl i :: .inr a :: st) σ := by
  intro D t ρ A p l e s m args below meth c H locs ls C hP hD hS hl
  exact va_zald C.1 C.2.1 C.2.2.2.2.2.2.2.2.1 hP a 1 (e_get hg) rfl hin hd (kk D t ρ A p l e s m args below meth c H locs ls C hP hD hS hl)
theorem j_iast {a n : Nat} {ids : List Nat} {i v : Int32} (hd : decode cc pc = .ok (.iastore, 1)) (hg : Γ[a]? = some (.inl (0, n, ids))) (hin : vp_in i n) (kk : AJ Γ d own cc nL ret post (pc + 1) L st (m_up σ a i.toNatClampNeg v)) : AJ Γ d own cc nL ret post pc L (.inl v :: .inl i :: .inr a :: st) σ := by
  intro D t ρ A p l e s m args below meth c H locs ls C hP hD hS hl
  refine va_iast C.1 C.2.1 C.2.2.2.2.2.2.2.2.1 hP hD hS a 0 (e_get hg) rfl hin hd (fun H1 locs1 hP1 hD1 hS1 => ?_)
  have hq : (e_W t Γ ρ σ).set a (ρ a, .inl (t.1, n, .inl (upd (σ a) i.toNatClampNeg v))) = e_W t Γ ρ (m_up σ a i.toNatClampNeg v) := e_set hg rfl
  rw [hq] at hP1 hD1
  exact kk D t ρ A p l e s m args below meth c H1 locs1 ls C hP1 hD1 hS1 hl
theorem j_zast {a n : Nat} {ids : List Nat} {i v : Int32} (hd : decode cc pc = .ok (.bastore, 1)) (hg : Γ[a]? = some (.inl (1, n, ids))) (hin : vp_in i n) (hv : v = 0 ∨ v = 1) (kk : AJ Γ d own cc nL ret post (pc + 1) L st (m_up σ a i.toNatClampNeg v)) : AJ Γ d own cc nL ret post pc L (.inl v :: .inl i :: .inr a :: st) σ := by
  intro D t ρ A p l e s m args below meth c H locs ls C hP hD hS hl
  refine va_zast C.1 C.2.1 C.2.2.2.2.2.2.2.2.1 hP hD hS a 1 (e_get hg) rfl hin hd (fun H1 locs1 hP1 hD1 hS1 => ?_)
  rw [(nz_of hv).2.2] at hP1 hD1
  have hq : (e_W t Γ ρ σ).set a (ρ a, .inl (t.2.1, n, .inl (upd (σ a) i.toNatClampNeg v))) = e_W t Γ ρ (m_up σ a i.toNatClampNeg v) := e_set hg rfl
  rw [hq] at hP1 hD1
  exact kk D t ρ A p l e s m args below meth c H1 locs1 ls C hP1 hD1 hS1 hl
theorem j_aald {a n b : Nat} {ids : List Nat} {i : Int32} (hd : decode cc pc = .ok (.aaload, 1)) (hg : Γ[a]? = some (.inl (2, n, ids))) (hin : vp_in i n) (hb : ids[i.toNatClampNeg]? = some b) (kk : AJ Γ d own cc nL ret post (pc + 1) L (.inr b :: st) σ) : AJ Γ d own cc nL ret post pc L (.inl i :: .inr a :: st) σ := by
  intro D t ρ A p l e s m args below meth c H locs ls C hP hD hS hl
  refine va_aldq C.1 C.2.1 C.2.2.2.2.2.2.2.2.1 hP a 2 (e_get hg) rfl hin hd ?_
  have h2 : va_rf ((ids[i.toNatClampNeg]?).map ρ) = .ref (ρ b) := by rw [hb]; rfl
  show W p l e (rmd d) s m args below meth c H locs 0 0 _ (F0 m (pc + 1) ls (va_rf ((ids[i.toNatClampNeg]?).map ρ) :: st.map (e_val ρ)))
  rw [h2]
  exact kk D t ρ A p l e s m args below meth c H locs ls C hP hD hS hl
theorem j_alen {a k n : Nat} {ids : List Nat} {v : Int32} (hd : decode cc pc = .ok (.arraylength, 1)) (hg : Γ[a]? = some (.inl (k, n, ids))) (hv : Int32.ofNat n = v) (kk : AJ Γ d own cc nL ret post (pc + 1) L (.inl v :: st) σ) : AJ Γ d own cc nL ret post pc L (.inr a :: st) σ := by
  intro D t ρ A p l e s m args below meth c H locs ls C hP hD hS hl
  have kk := kk D t ρ A p l e s m args below meth c H locs ls C hP hD hS hl
  match k, hg with
  | 0, hg => exact va_alen C.1 C.2.1 C.2.2.2.2.2.2.2.2.1 hP a 0 (e_get hg) rfl hv hd kk
  | 1, hg => exact va_alen C.1 C.2.1 C.2.2.2.2.2.2.2.2.1 hP a 1 (e_get hg) rfl hv hd kk
  | k + 2, hg => exact va_alen C.1 C.2.1 C.2.2.2.2.2.2.2.2.1 hP a 2 (e_get hg) rfl hv hd kk
/-! ends -/
theorem j_vret (hd : decode cc pc = .ok (.return_, 1)) (hp : post 0 σ) : AJ Γ d own cc nL none post pc L [] σ := by
  intro D t ρ A p l e s m args below meth c H locs ls C hP hD hS hl
  have hlocks : meth.locks = false := C.2.2.2.2.2.1
  exact W.vret C.1 C.2.1 C.2.2.2.2.1 (fun t1 ht hW => ⟨⟨σ, rfl, hp, by show va_P _ _ _ t1.heap; rw [ht]; exact hP⟩, hS.F ht⟩) hS.2.2 hd
theorem j_iret {v : Int32} (hd : decode cc pc = .ok (.ireturn, 1)) (hp : post v σ) : AJ Γ d own cc nL (some .int) post pc L [.inl v] σ := by
  intro D t ρ A p l e s m args below meth c H locs ls C hP hD hS hl
  have hlocks : meth.locks = false := C.2.2.2.2.2.1
  exact W.iret (v := v) C.1 C.2.1 C.2.2.2.2.1 (fun t1 ht hW => ⟨⟨v, σ, rfl, hp, by show va_P _ _ _ t1.heap; rw [ht]; exact hP⟩, hS.F ht⟩) hS.2.2 hd
theorem j_zret {v : Int32} (hd : decode cc pc = .ok (.ireturn, 1)) (hv : v = 0 ∨ v = 1) (hp : post v σ) : AJ Γ d own cc nL (some .boolean) post pc L [.inl v] σ := by
  intro D t ρ A p l e s m args below meth c H locs ls C hP hD hS hl
  have hlocks : meth.locks = false := C.2.2.2.2.2.1
  exact W.zret (v := v) C.1 C.2.1 C.2.2.2.2.1 (nz_of hv).1 (fun t1 ht hW => ⟨⟨v, σ, rfl, hp, by show va_P _ _ _ t1.heap; rw [ht]; exact hP⟩, hS.F ht⟩) hS.2.2 hd
/-! calls -/
theorem e_blind {D : va_G} {t : Tc} {ρ : Nat → Nat} {As : List Vl} {sz : Nat} : FrameBlind (va_Pc (As.map (e_val ρ)) (fun U => U.heap.size = sz ∧ va_P D vwCl (e_W t Γ ρ σ) U.heap ∧ va_K D vwCl (tysOf t) U ∧ va_D (fun _ => True) (e_W t Γ ρ σ) ∧ NS U)) := fun a U g mk q => by
  obtain ⟨q0, q1, qP, qK, qD, qN⟩ := q
  exact ⟨q0, q1, qP, va_K.moved (u := U) (U := U.calling g mk a) (Vm.Alike.refl U.vm) qK, qD, NS.same (s := U) (U := U.calling g mk a) rfl qN⟩
theorem e_freeA {D : va_G} {t : Tc} {ρ : Nat → Nat} {A : Nat → Prop} {s : State} {H : Heap} {locs : List Loc} (hD : va_D A (e_W t Γ ρ σ)) (hS : va_S A s.heap H locs) (hA : ∀ q : Nat, s.heap.size ≤ q → A q) : ∀ q : Nat, va_A (e_W t Γ ρ σ) H.size q → A q := by
  intro q h
  rcases h with ⟨k, x, hk⟩ | h
  · exact hD.2 k _ hk
  · exact hA q (Nat.le_trans hS.1 h)
section Call
variable {index : Nat} {y : MethodName} {cc' : ByteArray} {nL' d' n b : Nat} {ty : FieldType} {C1 : String} {As st0 : List Vl} {post' : Int32 → Mm → Prop}
theorem e_stk {ρ : Nat → Nat} (hst : st0 = As.reverse ++ .inr b :: st) : st0.map (e_val ρ) = (As.map (e_val ρ)).reverse ++ .ref (ρ b) :: st.map (e_val ρ) := by
  subst hst
  rw [List.map_append, List.map_reverse]
  rfl
theorem e_stkS {ρ : Nat → Nat} (hst : st0 = As.reverse ++ st) : st0.map (e_val ρ) = (As.map (e_val ρ)).reverse ++ st.map (e_val ρ) := by
  subst hst
  rw [List.map_append, List.map_reverse]
theorem e_room {m : MethodId} {ls : Array Slot} {r2 : List Value} {ρ : Nat → Nat} (h : st.length ≤ 8) : 2 * (F0 m pc ls r2).monitorRoom + (((st.map (e_val ρ)).map fun v => v.category).sum) ≤ 8 := lv_room (by rw [e_cats]; exact h)
theorem e_rm (h1 : d' < d) (h2 : nL' ≤ 17) : (rmd d').frames + 1 ≤ (rmd d).frames ∧ 8 + (nL' + 11) + (rmd d').locals ≤ (rmd d).locals := ⟨h1, by show 8 + (nL' + 11) + 36 * d' ≤ 36 * d; omega⟩
theorem g_code {ret' : Option FieldType} (h : Cond.code y cc' nL' ret' ∈ WS) : ∀ w ∈ Cond.code y cc' nL' ret' :: WS, w ∈ WS := fun w hw => (List.mem_cons.mp hw).elim (fun e => e ▸ h) id
theorem g_V {ret' : Option FieldType} (ck : CkV own index y cc' nL' ret' C1 n) : GoodIn WS (wsV own index C1 y (Cond.code y cc' nL' ret' :: WS)) := ws_in (by
  obtain ⟨h1, h2, h3, h4, h5, -⟩ := ck
  intro w hw
  rcases List.mem_append.mp hw with h | h
  · rcases List.mem_cons.mp h with rfl | h
    · exact h1
    · rcases List.mem_cons.mp h with rfl | h
      · exact h2
      · rcases List.mem_cons.mp h with rfl | h
        · exact h3
        · rcases List.mem_cons.mp h with rfl | h
          · exact h4
          · cases h
  · exact g_code h5 w h)
theorem g_S {ret' : Option FieldType} (ck : CkS own index y cc' nL' ret' n) : GoodIn WS (va_wsS own index y (Cond.code y cc' nL' ret' :: WS)) := ws_in (by
  obtain ⟨h1, h2, h3, h5, -⟩ := ck
  intro w hw
  rcases List.mem_append.mp hw with h | h
  · rcases List.mem_cons.mp h with rfl | h
    · exact h1
    · rcases List.mem_cons.mp h with rfl | h
      · exact h2
      · rcases List.mem_cons.mp h with rfl | h
        · exact h3
        · cases h
  · exact g_code h5 w h)
theorem e_preV {D : va_G} {t : Tc} {ρ : Nat → Nat} {A : Nat → Prop} {p : Program} {s : State} {m : MethodId} {args : Array Value} {meth : Method} {c : Code} {H : Heap} {ci : Nat} {T : u_T} {N : Nat} {fs : List Nat} (C : Cx own cc nL ret D t A p s m args meth c) (hP : va_P D vwCl (e_W t Γ ρ σ) H) (hD : va_D A (e_W t Γ ρ σ)) (hr : Γ[b]? = some (.inr (ci, fs))) (hc : vwCl[ci]? = some (C1, T, N)) :
    PreV s H C1 (ρ b) (va_Pc ((.inr b :: As).map (e_val ρ)) (fun U => U.heap.size = H.size ∧ va_P D vwCl (e_W t Γ ρ σ) U.heap ∧ va_K D vwCl (tysOf t) U ∧ va_D (fun _ => True) (e_W t Γ ρ σ) ∧ NS U)) (As.map (e_val ρ)) := by
  refine ⟨e_blind, va_recv C.2.2.2.2.2.2.2.2.1 hP hc (e_get hr), fun U hU hW => ⟨rfl, by rw [hU], by rw [hU]; exact hP, va_K.moved hW.alike C.2.2.2.2.2.2.2.2.1, hD.weaken (fun _ _ _ _ => trivial), NS.warm hW C.2.2.2.2.2.2.2.1⟩⟩
theorem e_preS {D : va_G} {t : Tc} {ρ : Nat → Nat} {A : Nat → Prop} {p : Program} {s : State} {m : MethodId} {args : Array Value} {meth : Method} {c : Code} {H : Heap} (C : Cx own cc nL ret D t A p s m args meth c) (hP : va_P D vwCl (e_W t Γ ρ σ) H) (hD : va_D A (e_W t Γ ρ σ)) :
    PreS s H (va_Pc (As.map (e_val ρ)) (fun U => U.heap.size = H.size ∧ va_P D vwCl (e_W t Γ ρ σ) U.heap ∧ va_K D vwCl (tysOf t) U ∧ va_D (fun _ => True) (e_W t Γ ρ σ) ∧ NS U)) (As.map (e_val ρ)) := by
  refine ⟨e_blind, fun U hU hW => ⟨rfl, by rw [hU], by rw [hU]; exact hP, va_K.moved hW.alike C.2.2.2.2.2.2.2.2.1, hD.weaken (fun _ _ _ _ => trivial), NS.warm hW C.2.2.2.2.2.2.2.1⟩⟩
theorem j_callVi {ci : Nat} {T : u_T} {N : Nat} {fs : List Nat} (hd : decode cc pc = .ok (.invokevirtual index, 3)) (ck : CkV own index y cc' nL' (some ty) C1 n) (hev : EV Γ d' y cc' nL' (some ty) (.inr b :: As) σ post') (hr : Γ[b]? = some (.inr (ci, fs))) (hc : vwCl[ci]? = some (C1, T, N)) (hn : As.length = n) (hdd : d' < d) (hst : st0 = As.reverse ++ .inr b :: st) (hsz : st.length ≤ 8) (k : ∀ (r : Int32) (σ1 : Mm), post' r σ1 → AJ Γ d own cc nL ret post (pc + 3) L (.inl r :: st) σ1) : AJ Γ d own cc nL ret post pc L st0 σ := by
  intro D t ρ A p l e s m args below meth c H locs ls C hP hD hS hl
  have hts := C.2.2.2.2.2.2.1
  have hFc := e_freeA (D := D) hD hS C.2.2.2.2.2.2.2.2.2
  refine va_calli (va_runV (As := As.map (e_val ρ)) (rest := st.map (e_val ρ)) (C := C1) (b := ρ b) ⟨C.1, C.2.1, C.2.2.1, C.2.2.2.1, hts⟩ (hev l D t ρ H.size) (cwV n hts (g_V ck) rfl rfl rfl ⟨ck.2.2.2.2.2.1, ck.2.2.2.2.2.2.1⟩ (e_rm hdd ck.2.2.2.2.2.2.2)) (e_preV C hP hD hr hc) rfl (by rw [List.length_map]; exact hn) hl.1 (e_stk hst) (e_room hsz) hd ⟨Nat.le_refl _, Nat.le_refl _⟩) hS (fun q _ h => hFc q h) hFc (fun r u t1 H1 locs1 ht hvm hw hB hz1 hk1 hS1 => ?_)
  have hB' : va_P D vwCl (e_W t Γ ρ u) H1 := by rw [← ht]; exact hB
  exact k r u hw D t ρ A p l e s m args below meth c H1 locs1 ls C hB' (e_D hD) hS1 hl
theorem j_callSi (hd : decode cc pc = .ok (.invokestatic index, 3)) (ck : CkS own index y cc' nL' (some ty) n) (hev : EV Γ d' y cc' nL' (some ty) As σ post') (hn : As.length = n) (hdd : d' < d) (hst : st0 = As.reverse ++ st) (hsz : st.length ≤ 8) (k : ∀ (r : Int32) (σ1 : Mm), post' r σ1 → AJ Γ d own cc nL ret post (pc + 3) L (.inl r :: st) σ1) : AJ Γ d own cc nL ret post pc L st0 σ := by
  intro D t ρ A p l e s m args below meth c H locs ls C hP hD hS hl
  have hts := C.2.2.2.2.2.2.1
  have hFc := e_freeA (D := D) hD hS C.2.2.2.2.2.2.2.2.2
  refine va_calli (va_runS (As := As.map (e_val ρ)) (rest := st.map (e_val ρ)) ⟨C.1, C.2.1, C.2.2.1, C.2.2.2.1, hts⟩ (hev l D t ρ H.size) (va_cwS n hts (g_S ck) rfl rfl rfl ck.2.2.2.2.1 (e_rm hdd ck.2.2.2.2.2)) (e_preS C hP hD) rfl (by rw [List.length_map]; exact hn) hl.1 (e_stkS hst) (e_room hsz) hd ⟨Nat.le_refl _, Nat.le_refl _⟩) hS (fun q _ h => hFc q h) hFc (fun r u t1 H1 locs1 ht hvm hw hB hz1 hk1 hS1 => ?_)
  have hB' : va_P D vwCl (e_W t Γ ρ u) H1 := by rw [← ht]; exact hB
  exact k r u hw D t ρ A p l e s m args below meth c H1 locs1 ls C hB' (e_D hD) hS1 hl
theorem j_callVv {ci : Nat} {T : u_T} {N : Nat} {fs : List Nat} (hd : decode cc pc = .ok (.invokevirtual index, 3)) (ck : CkV own index y cc' nL' none C1 n) (hev : EV Γ d' y cc' nL' none (.inr b :: As) σ post') (hr : Γ[b]? = some (.inr (ci, fs))) (hc : vwCl[ci]? = some (C1, T, N)) (hn : As.length = n) (hdd : d' < d) (hst : st0 = As.reverse ++ .inr b :: st) (hsz : st.length ≤ 8) (k : ∀ σ1 : Mm, post' 0 σ1 → AJ Γ d own cc nL ret post (pc + 3) L st σ1) : AJ Γ d own cc nL ret post pc L st0 σ := by
  intro D t ρ A p l e s m args below meth c H locs ls C hP hD hS hl
  have hts := C.2.2.2.2.2.2.1
  have hFc := e_freeA (D := D) hD hS C.2.2.2.2.2.2.2.2.2
  refine va_callv (va_runV (As := As.map (e_val ρ)) (rest := st.map (e_val ρ)) (C := C1) (b := ρ b) ⟨C.1, C.2.1, C.2.2.1, C.2.2.2.1, hts⟩ (hev l D t ρ H.size) (cwV n hts (g_V ck) rfl rfl rfl ⟨ck.2.2.2.2.2.1, ck.2.2.2.2.2.2.1⟩ (e_rm hdd ck.2.2.2.2.2.2.2)) (e_preV C hP hD hr hc) rfl (by rw [List.length_map]; exact hn) hl.1 (e_stk hst) (e_room hsz) hd ⟨Nat.le_refl _, Nat.le_refl _⟩) hS (fun q _ h => hFc q h) hFc (fun u t1 H1 locs1 ht hvm hw hB hz1 hk1 hS1 => ?_)
  have hB' : va_P D vwCl (e_W t Γ ρ u) H1 := by rw [← ht]; exact hB
  exact k u hw D t ρ A p l e s m args below meth c H1 locs1 ls C hB' (e_D hD) hS1 hl
theorem j_callSv (hd : decode cc pc = .ok (.invokestatic index, 3)) (ck : CkS own index y cc' nL' none n) (hev : EV Γ d' y cc' nL' none As σ post') (hn : As.length = n) (hdd : d' < d) (hst : st0 = As.reverse ++ st) (hsz : st.length ≤ 8) (k : ∀ σ1 : Mm, post' 0 σ1 → AJ Γ d own cc nL ret post (pc + 3) L st σ1) : AJ Γ d own cc nL ret post pc L st0 σ := by
  intro D t ρ A p l e s m args below meth c H locs ls C hP hD hS hl
  have hts := C.2.2.2.2.2.2.1
  have hFc := e_freeA (D := D) hD hS C.2.2.2.2.2.2.2.2.2
  refine va_callv (va_runS (As := As.map (e_val ρ)) (rest := st.map (e_val ρ)) ⟨C.1, C.2.1, C.2.2.1, C.2.2.2.1, hts⟩ (hev l D t ρ H.size) (va_cwS n hts (g_S ck) rfl rfl rfl ck.2.2.2.2.1 (e_rm hdd ck.2.2.2.2.2)) (e_preS C hP hD) rfl (by rw [List.length_map]; exact hn) hl.1 (e_stkS hst) (e_room hsz) hd ⟨Nat.le_refl _, Nat.le_refl _⟩) hS (fun q _ h => hFc q h) hFc (fun u t1 H1 locs1 ht hvm hw hB hz1 hk1 hS1 => ?_)
  have hB' : va_P D vwCl (e_W t Γ ρ u) H1 := by rw [← ht]; exact hB
  exact k u hw D t ρ A p l e s m args below meth c H1 locs1 ls C hB' (e_D hD) hS1 hl
theorem j_callVNi {ci : Nat} {T : u_T} {N : Nat} {fs : List Nat} (hd : decode cc pc = .ok (.invokevirtual index, 3)) (ck : CkVN own index y cc' nL' (some ty) C1 n) (hev : EV Γ d' y cc' nL' (some ty) (.inr b :: As) σ post') (hr : Γ[b]? = some (.inr (ci, fs))) (hc : vwCl[ci]? = some (C1, T, N)) (hn : As.length = n) (hdd : d' < d) (hst : st0 = As.reverse ++ .inr b :: st) (hsz : st.length ≤ 8) (k : ∀ (r : Int32) (σ1 : Mm), post' r σ1 → AJ Γ d own cc nL ret post (pc + 3) L (.inl r :: st) σ1) : AJ Γ d own cc nL ret post pc L st0 σ := by
  intro D t ρ A p l e s m args below meth c H locs ls C hP hD hS hl
  have hts := C.2.2.2.2.2.2.1
  have hFc := e_freeA (D := D) hD hS C.2.2.2.2.2.2.2.2.2
  refine va_calli (va_runVN (As := As.map (e_val ρ)) (rest := st.map (e_val ρ)) (C := C1) (b := ρ b) ⟨C.1, C.2.1, C.2.2.1, C.2.2.2.1, hts⟩ (hev l D t ρ H.size) ⟨va_cnB n hts (ws_in (g_code ck.2.2.2.2.1)) rfl rfl rfl (C.2.2.2.2.2.2.2.1 _ ck.1 rfl) (by rw [ck.2.2.2.2.2.1]; exact hts _ ck.2.2.2.1) ck.2.2.2.2.2.2.1 (e_rm hdd ck.2.2.2.2.2.2.2), hts _ ck.2.1, hts _ ck.2.2.1⟩ (e_preV C hP hD hr hc) rfl (by rw [List.length_map]; exact hn) hl.1 (e_stk hst) (e_room hsz) hd ⟨Nat.le_refl _, Nat.le_refl _⟩) hS (fun q _ h => hFc q h) hFc (fun r u t1 H1 locs1 ht hvm hw hB hz1 hk1 hS1 => ?_)
  have hB' : va_P D vwCl (e_W t Γ ρ u) H1 := by rw [← ht]; exact hB
  exact k r u hw D t ρ A p l e s m args below meth c H1 locs1 ls C hB' (e_D hD) hS1 hl
theorem j_callSNi (hd : decode cc pc = .ok (.invokestatic index, 3)) (ck : CkSN own index y cc' nL' (some ty) n) (hev : EV Γ d' y cc' nL' (some ty) As σ post') (hn : As.length = n) (hdd : d' < d) (hst : st0 = As.reverse ++ st) (hsz : st.length ≤ 8) (k : ∀ (r : Int32) (σ1 : Mm), post' r σ1 → AJ Γ d own cc nL ret post (pc + 3) L (.inl r :: st) σ1) : AJ Γ d own cc nL ret post pc L st0 σ := by
  intro D t ρ A p l e s m args below meth c H locs ls C hP hD hS hl
  have hts := C.2.2.2.2.2.2.1
  have hFc := e_freeA (D := D) hD hS C.2.2.2.2.2.2.2.2.2
  refine va_calli (va_runSN (As := As.map (e_val ρ)) (rest := st.map (e_val ρ)) ⟨C.1, C.2.1, C.2.2.1, C.2.2.2.1, hts⟩ (hev l D t ρ H.size) ⟨va_cnB n hts (ws_in (g_code ck.2.2.2.1)) rfl rfl rfl (C.2.2.2.2.2.2.2.1 _ ck.1 rfl) (hts _ ck.2.2.1) ck.2.2.2.2.1 (e_rm hdd ck.2.2.2.2.2), hts _ ck.2.1, trivial⟩ (e_preS C hP hD) rfl (by rw [List.length_map]; exact hn) hl.1 (e_stkS hst) (e_room hsz) hd ⟨Nat.le_refl _, Nat.le_refl _⟩) hS (fun q _ h => hFc q h) hFc (fun r u t1 H1 locs1 ht hvm hw hB hz1 hk1 hS1 => ?_)
  have hB' : va_P D vwCl (e_W t Γ ρ u) H1 := by rw [← ht]; exact hB
  exact k r u hw D t ρ A p l e s m args below meth c H1 locs1 ls C hB' (e_D hD) hS1 hl
theorem j_callVNv {ci : Nat} {T : u_T} {N : Nat} {fs : List Nat} (hd : decode cc pc = .ok (.invokevirtual index, 3)) (ck : CkVN own index y cc' nL' none C1 n) (hev : EV Γ d' y cc' nL' none (.inr b :: As) σ post') (hr : Γ[b]? = some (.inr (ci, fs))) (hc : vwCl[ci]? = some (C1, T, N)) (hn : As.length = n) (hdd : d' < d) (hst : st0 = As.reverse ++ .inr b :: st) (hsz : st.length ≤ 8) (k : ∀ σ1 : Mm, post' 0 σ1 → AJ Γ d own cc nL ret post (pc + 3) L st σ1) : AJ Γ d own cc nL ret post pc L st0 σ := by
  intro D t ρ A p l e s m args below meth c H locs ls C hP hD hS hl
  have hts := C.2.2.2.2.2.2.1
  have hFc := e_freeA (D := D) hD hS C.2.2.2.2.2.2.2.2.2
  refine va_callv (va_runVN (As := As.map (e_val ρ)) (rest := st.map (e_val ρ)) (C := C1) (b := ρ b) ⟨C.1, C.2.1, C.2.2.1, C.2.2.2.1, hts⟩ (hev l D t ρ H.size) ⟨va_cnB n hts (ws_in (g_code ck.2.2.2.2.1)) rfl rfl rfl (C.2.2.2.2.2.2.2.1 _ ck.1 rfl) (by rw [ck.2.2.2.2.2.1]; exact hts _ ck.2.2.2.1) ck.2.2.2.2.2.2.1 (e_rm hdd ck.2.2.2.2.2.2.2), hts _ ck.2.1, hts _ ck.2.2.1⟩ (e_preV C hP hD hr hc) rfl (by rw [List.length_map]; exact hn) hl.1 (e_stk hst) (e_room hsz) hd ⟨Nat.le_refl _, Nat.le_refl _⟩) hS (fun q _ h => hFc q h) hFc (fun u t1 H1 locs1 ht hvm hw hB hz1 hk1 hS1 => ?_)
  have hB' : va_P D vwCl (e_W t Γ ρ u) H1 := by rw [← ht]; exact hB
  exact k u hw D t ρ A p l e s m args below meth c H1 locs1 ls C hB' (e_D hD) hS1 hl
theorem j_callSNv (hd : decode cc pc = .ok (.invokestatic index, 3)) (ck : CkSN own index y cc' nL' none n) (hev : EV Γ d' y cc' nL' none As σ post') (hn : As.length = n) (hdd : d' < d) (hst : st0 = As.reverse ++ st) (hsz : st.length ≤ 8) (k : ∀ σ1 : Mm, post' 0 σ1 → AJ Γ d own cc nL ret post (pc + 3) L st σ1) : AJ Γ d own cc nL ret post pc L st0 σ := by
  intro D t ρ A p l e s m args below meth c H locs ls C hP hD hS hl
  have hts := C.2.2.2.2.2.2.1
  have hFc := e_freeA (D := D) hD hS C.2.2.2.2.2.2.2.2.2
  refine va_callv (va_runSN (As := As.map (e_val ρ)) (rest := st.map (e_val ρ)) ⟨C.1, C.2.1, C.2.2.1, C.2.2.2.1, hts⟩ (hev l D t ρ H.size) ⟨va_cnB n hts (ws_in (g_code ck.2.2.2.1)) rfl rfl rfl (C.2.2.2.2.2.2.2.1 _ ck.1 rfl) (hts _ ck.2.2.1) ck.2.2.2.2.1 (e_rm hdd ck.2.2.2.2.2), hts _ ck.2.1, trivial⟩ (e_preS C hP hD) rfl (by rw [List.length_map]; exact hn) hl.1 (e_stkS hst) (e_room hsz) hd ⟨Nat.le_refl _, Nat.le_refl _⟩) hS (fun q _ h => hFc q h) hFc (fun u t1 H1 locs1 ht hvm hw hB hz1 hk1 hS1 => ?_)
  have hB' : va_P D vwCl (e_W t Γ ρ u) H1 := by rw [← ht]; exact hB
  exact k u hw D t ρ A p l e s m args below meth c H1 locs1 ls C hB' (e_D hD) hS1 hl
end Call
end Rules
