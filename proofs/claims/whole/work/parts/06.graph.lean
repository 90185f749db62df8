/-! THE TWO GRAPHS. Γ1: LeastBars. 0 the object; 1 Tape, 2 its codes; 3 Reader; 4 Machine[]; 5+3m Machine m, 6+3m its targets, 7+3m its stepSets; 23 net, 24.. its arrays; 34 part, 35.. its arrays; 45 nothingLost; 46 Losses, 47.. ; 52 Control, 53.. ; 57 Trail, 58 its places. Γ2: LeastBarsModel: 0 the object, 1.. its arrays. -/
abbrev gI (n : Nat) : Gc := .inl (0, n, [])
abbrev gZ (n : Nat) : Gc := .inl (1, n, [])
abbrev gM (a : Nat) : Gc := .inr (2, [a + 1 + 1, a + 2 + 1, 0, 0, 0, 0, 0])
abbrev gN (b : Nat) : Gc := .inr (3, [b + 1 + 1, b + 2 + 1, b + 3 + 1, b + 4 + 1, b + 5 + 1, b + 6 + 1, b + 7 + 1, b + 8 + 1, b + 9 + 1, b + 10 + 1, 0, 0, 0, 0, 0])
def Γ1 : List Gc := [.inr (7, [2, 4, 5, 24, 35, 46, 47, 53, 58, 0, 0, 0]), .inr (5, [3, 0]), gI 60, .inr (4, [0, 0, 0]), .inl (2, 6, [5, 8, 11, 14, 17, 20]),
  gM 5, gI 48, gI 6, gM 8, gI 48, gI 6, gM 11, gI 48, gI 6, gM 14, gI 48, gI 6, gM 17, gI 48, gI 6, gM 20, gI 48, gI 6,
  gN 23, gI 150, gI 150, gI 150, gZ 150, gI 1200, gI 150, gI 1200, gI 256, gI 150, gI 150,
  gN 34, gI 150, gI 150, gI 150, gZ 150, gI 1200, gI 150, gI 1200, gI 256, gI 150, gI 150,
  gI 150, .inr (1, [48, 49, 50, 51, 52, 0, 0]), gI 150, gI 150, gI 150, gI 150, gI 151, .inr (0, [54, 55, 56, 57, 0, 0]), gI 150, gI 150, gI 150, gI 150, .inr (6, [59, 0, 0, 0]), gI 16]
def Γ2 : List Gc := [.inr (8, [2, 0, 0, 3, 4, 5, 6, 7, 8, 0, 0, 0, 9, 10, 0, 11, 12, 13, 14, 15, 0, 0, 0, 16, 17]), gI 60, gI 6, gI 6, gI 6, gI 6, gI 6, gI 288, gI 150, gI 1200, gI 150, gI 150, gI 150, gZ 150, gZ 150, gI 16, gI 150]
/-- a Machine, a Net of Γ1 at a cell -/
def IsM (a : Nat) : Prop := Γ1[a]? = some (gM a) ∧ Γ1[a + 1]? = some (gI 48) ∧ Γ1[a + 2]? = some (gI 6)
def IsN (b : Nat) : Prop := Γ1[b]? = some (gN b) ∧ Γ1[b + 1]? = some (gI 150) ∧ Γ1[b + 2]? = some (gI 150) ∧ Γ1[b + 3]? = some (gI 150) ∧ Γ1[b + 4]? = some (gZ 150) ∧ Γ1[b + 5]? = some (gI 1200) ∧ Γ1[b + 6]? = some (gI 150) ∧ Γ1[b + 7]? = some (gI 1200) ∧ Γ1[b + 8]? = some (gI 256) ∧ Γ1[b + 9]? = some (gI 150) ∧ Γ1[b + 10]? = some (gI 150)
theorem isN_net : IsN 23 := ⟨rfl, rfl, rfl, rfl, rfl, rfl, rfl, rfl, rfl, rfl, rfl⟩
theorem isN_part : IsN 34 := ⟨rfl, rfl, rfl, rfl, rfl, rfl, rfl, rfl, rfl, rfl, rfl⟩
theorem isM_at {m : Nat} (h : m < 6) : IsM (5 + 3 * m) ∧ ([5, 8, 11, 14, 17, 20] : List Nat)[m]? = some (5 + 3 * m) := by
  match m, h with
  | 0, _ => exact ⟨⟨rfl, rfl, rfl⟩, rfl⟩
  | 1, _ => exact ⟨⟨rfl, rfl, rfl⟩, rfl⟩
  | 2, _ => exact ⟨⟨rfl, rfl, rfl⟩, rfl⟩
  | 3, _ => exact ⟨⟨rfl, rfl, rfl⟩, rfl⟩
  | 4, _ => exact ⟨⟨rfl, rfl, rfl⟩, rfl⟩
  | 5, _ => exact ⟨⟨rfl, rfl, rfl⟩, rfl⟩
/-! the numbers' table -/
theorem m_row (σ : Mm) (a k : Nat) (v : Int32) : m_up σ a k v a = upd (σ a) k v := by simp [m_up]
theorem m_eq (σ : Mm) (a k : Nat) (v : Int32) : m_up σ a k v a k = v := by simp [m_up, upd]
theorem m_ne {σ : Mm} {a k x : Nat} {v : Int32} (h : x ≠ a) : m_up σ a k v x = σ x := by simp [m_up, h]
theorem m_nk {σ : Mm} {a k j : Nat} {v : Int32} (h : j ≠ k) : m_up σ a k v a j = σ a j := by simp [m_up, upd, h]
theorem m_nx {σ : Mm} {a k x j : Nat} {v : Int32} (h : ¬ (x = a ∧ j = k)) : m_up σ a k v x j = σ x j := by
  by_cases hx : x = a
  · subst hx
    exact m_nk (fun e => h ⟨rfl, e⟩)
  · rw [m_ne hx]
theorem m_at (σ : Mm) (a k x j : Nat) (v : Int32) : m_up σ a k v x j = if x = a ∧ j = k then v else σ x j := by
  by_cases h : x = a ∧ j = k
  · rw [if_pos h, h.1, h.2, m_eq]
  · rw [if_neg h, m_nx h]
/-! contracts that come often: a condition, a value, the numbers behind -/
def bz (c : Prop) (σ : Mm) : Int32 → Mm → Prop := fun r σ' => σ = σ' ∧ ((c ∧ r = 1) ∨ (¬ c ∧ r = 0))
def vz (v : Int32) (σ : Mm) : Int32 → Mm → Prop := fun r σ' => σ = σ' ∧ r = v
def mz (σ : Mm) : Int32 → Mm → Prop := fun _ σ' => σ = σ'
section R2
variable {Γ : List Gc} {d : Nat} {own : String} {cc : ByteArray} {nL : Nat} {ret : Option FieldType} {post : Int32 → Mm → Prop} {pc : Nat} {L : List (Option Vl)} {st : List Vl} {σ : Mm}
theorem j_iinc1 {i : Nat} {x : Int32} (hd : decode cc pc = .ok (.iinc i 1, 3)) (h : L[i]? = some (some (.inl x))) (k : AJ Γ d own cc nL ret post (pc + 3) (L.set i (some (.inl (x + 1)))) st σ) : AJ Γ d own cc nL ret post pc L st σ := j_iinc (v := x + 1) hd h rfl k
/-- the stack's uppermost number, the second, under another name -/
theorem j_top {x y : Int32} (h : x = y) (k : AJ Γ d own cc nL ret post pc L (.inl y :: st) σ) : AJ Γ d own cc nL ret post pc L (.inl x :: st) σ := by subst h; exact k
theorem j_top2 {x y : Int32} {v : Vl} (h : x = y) (k : AJ Γ d own cc nL ret post pc L (v :: .inl y :: st) σ) : AJ Γ d own cc nL ret post pc L (v :: .inl x :: st) σ := by subst h; exact k
theorem j_mem {σ' : Mm} (h : σ = σ') (k : AJ Γ d own cc nL ret post pc L st σ') : AJ Γ d own cc nL ret post pc L st σ := by subst h; exact k
theorem AJ.mono {post' : Int32 → Mm → Prop} (h : ∀ r σ', post' r σ' → post r σ') (k : AJ Γ d own cc nL ret post' pc L st σ) : AJ Γ d own cc nL ret post pc L st σ := by
  intro D t ρ A p l e s m args below meth c H locs ls C hP hD hS hl T hT X
  obtain ⟨u, h1, o, h2, h3, h4, h5⟩ := k D t ρ A p l e s m args below meth c H locs ls C hP hD hS hl T hT X
  refine ⟨u, h1, o, h2, h3, ?_, h5⟩
  cases ret with
  | none =>
    obtain ⟨⟨σ', e1, e2, e3⟩, e4⟩ := h4
    exact ⟨⟨σ', e1, h _ _ e2, e3⟩, e4⟩
  | some ty =>
    obtain ⟨⟨r, σ', e1, e2, e3⟩, e4⟩ := h4
    exact ⟨⟨r, σ', e1, h _ _ e2, e3⟩, e4⟩
end R2
theorem EV.mono {Γ : List Gc} {d : Nat} {y : MethodName} {cc : ByteArray} {nL : Nat} {ret : Option FieldType} {As : List Vl} {σ : Mm} {post post' : Int32 → Mm → Prop} (h : ∀ r σ', post r σ' → post' r σ') (k : EV Γ d y cc nL ret As σ post) : EV Γ d y cc nL ret As σ post' := by
  intro l D t ρ sz
  refine MetFree.mono (k l D t ρ sz) (fun a st hq => hq) (fun _ _ _ _ _ hq => hq) (fun a st o u _ hq => ⟨?_, hq.2⟩)
  have hq := hq.1
  cases ret with
  | none =>
    obtain ⟨⟨σ', e1, e2, e3⟩, e4⟩ := hq
    exact ⟨⟨σ', e1, h _ _ e2, e3⟩, e4⟩
  | some ty =>
    obtain ⟨⟨r, σ', e1, e2, e3⟩, e4⟩ := hq
    exact ⟨⟨r, σ', e1, h _ _ e2, e3⟩, e4⟩
theorem EV.introF {Γ : List Gc} {d : Nat} {y : MethodName} {cc : ByteArray} {nL : Nat} {ret : Option FieldType} {As : List Vl} {σ : Mm} {post : Int32 → Mm → Prop} (hy : plainFor y = true) (hn : As.length ≤ nL)
    (h : AJ Γ d y.cls cc nL ret post 0 (L0 As nL) [] σ) : EV Γ d y cc nL ret As σ post := by
  intro l D t ρ sz
  refine va_MetF (cc := cc) (maxL := nL) (ret := ret) hy rfl ?_
  intro p e s m args below meth c s₁ B hml hv
  obtain ⟨rfl, hsz, hP, hK, hD0, hN⟩ := hv
  have hx := B.exec
  have hb := B.bytes
  have hr := B.returns
  have hts := atoms_spec (ws := Cond.code y cc nL ret :: WS) B.pre
  have hown : s.vm.findClass y.cls = some m.cls := findClass_of_methodNamed B.named
  have hlocks : meth.locks = false := B.notSynchronized
  subst hsz
  have hD := hD0.self (sz := s.heap.size)
  rw [lg_entry_eq]
  exact h D t ρ _ p l e s m _ below meth c s.heap [] _ ⟨hx, hb, hml, hown, hr, hlocks, fun w hw => hts w (List.mem_cons_of_mem _ hw), hN, hK, fun q hq => Or.inr hq⟩ hP hD va_S.rf (lvR.entry ρ As hn)
/-! numbers -/
theorem ti_0 : (0 : Int32).toInt = 0 := rfl
theorem ti_m1 : (-1 : Int32).toInt = -1 := rfl
theorem ti_m2 : (-2 : Int32).toInt = -2 := rfl
theorem ti_m3 : (-3 : Int32).toInt = -3 := rfl
theorem ti_m4 : (-4 : Int32).toInt = -4 := rfl
theorem ti_m9 : (-9 : Int32).toInt = -9 := rfl
theorem ti_1 : (1 : Int32).toInt = 1 := rfl
theorem ti_2 : (2 : Int32).toInt = 2 := rfl
theorem ti_3 : (3 : Int32).toInt = 3 := rfl
theorem ti_4 : (4 : Int32).toInt = 4 := rfl
theorem ti_5 : (5 : Int32).toInt = 5 := rfl
theorem ti_6 : (6 : Int32).toInt = 6 := rfl
theorem ti_7 : (7 : Int32).toInt = 7 := rfl
theorem ti_8 : (8 : Int32).toInt = 8 := rfl
theorem ti_16 : (16 : Int32).toInt = 16 := rfl
theorem ti_48 : (48 : Int32).toInt = 48 := rfl
theorem ti_53 : (53 : Int32).toInt = 53 := rfl
theorem ti_60 : (60 : Int32).toInt = 60 := rfl
theorem ti_97 : (97 : Int32).toInt = 97 := rfl
theorem ti_104 : (104 : Int32).toInt = 104 := rfl
theorem ti_127 : (127 : Int32).toInt = 127 := rfl
theorem ti_149 : (149 : Int32).toInt = 149 := rfl
theorem ti_150 : (150 : Int32).toInt = 150 := rfl
theorem ti_151 : (151 : Int32).toInt = 151 := rfl
theorem ti_256 : (256 : Int32).toInt = 256 := rfl
theorem ti_1200 : (1200 : Int32).toInt = 1200 := rfl
theorem vin_mk {x M : Int32} {N : Nat} (hM : M.toInt = N) (h0 : ¬ x < 0) (h1 : ¬ M ≤ x) : vp_in x N := by
  rw [vp_in_iff]
  rw [Int32.lt_iff_toInt_lt] at h0
  rw [Int32.le_iff_toInt_le] at h1
  rw [ti_0] at h0
  omega
