/-! NET.spreadFrom and NET.join -/
def msF (σ : Mm) (c : Int32) (m : Nat) : Int32 := σ (5 + 3 * m) 3 &&& (σ (5 + 3 * m + 2) (stN c m) ^^^ (-1))
theorem b_ms {σ : Mm} {set c : Int32} (hM : MS σ set) (hc : okC c) {m e : Nat} (hm : m < 6) (hs : bt set m = true) (he : e < 32) : bt (msF σ c m) e = (decide (e < 8) && (bt ((T1 σ).2.1 m) e && decide (stp (T1 σ) c e m = -9))) := by
  obtain ⟨h1, h2⟩ := hM.2 m hm hs
  unfold msF
  rw [b_and, b_not _ he, h2 _ (hc m hm) e he]
  have e1 : stp (T1 σ) c e m = σ (5 + 3 * m + 1) (8 * stN c m + e) := t1s hm
  rw [e1, t1a hm]
  by_cases h8 : e < 8
  · by_cases hq : σ (5 + 3 * m + 1) (8 * stN c m + e) = -9 <;> simp [h8, hq]
  · have := h1.2.2.2 e (by omega)
    rw [t1a hm] at this
    simp [h8, this]
theorem any6 {p : Nat → Bool} : (List.range 6).any p = true ↔ ∃ m, m < 6 ∧ p m = true := by
  simp [List.any_eq_true]
theorem all6 {p : Nat → Bool} : (List.range 6).all p = true ↔ ∀ m, m < 6 → p m = true := by
  simp [List.all_eq_true]
def A1F (σ : Mm) (set : Int32) : Int32 := orF (T1 σ).2.1 (fun m => bt set m) 6
def A2F (σ : Mm) (set : Int32) : Int32 := orF (T1 σ).2.1 (fun m => bt set m && isPl (T1 σ) m) 6
def mpF (σ : Mm) (set c : Int32) (M : Nat) : Int32 := orF (msF σ c) (fun m => bt set m && isPl (T1 σ) m) M
def mrF (σ : Mm) (set c : Int32) (M : Nat) : Int32 := orF (msF σ c) (fun m => bt set m && !isPl (T1 σ) m) M
theorem lead_bits {σ : Mm} {set c : Int32} (hM : MS σ set) (hc : okC c) {e : Nat} (he : e < 32) : bt ((A1F σ set &&& (mpF σ set c 6 ^^^ (-1))) &&& (mrF σ set c 6 ^^^ (-1))) e = (decide (e < 8) && leadB (T1 σ) set c e) := by
  unfold A1F mpF mrF leadB
  rw [b_and, b_and, b_not _ he, b_not _ he, or_bit, or_bit, or_bit, Bool.eq_iff_iff]
  simp only [Bool.and_eq_true, Bool.not_eq_true', decide_eq_true_eq, any6, all6, ← Bool.not_eq_true, hasE, Bool.or_eq_true]
  constructor
  · rintro ⟨⟨⟨m, hm, hs, ha⟩, h1⟩, h2⟩
    have h8 : e < 8 := by
      apply Classical.byContradiction
      intro q
      rw [(hM.2 m hm hs).1.2.2.2 e (by omega)] at ha
      cases ha
    refine ⟨h8, ⟨m, hm, hs, ha⟩, fun k hk => ?_⟩
    by_cases hks : bt set k = true
    · by_cases hka : bt ((T1 σ).2.1 k) e = true
      · right
        intro hst
        have hb : bt (msF σ c k) e = true := by rw [b_ms hM hc hk hks he]; simp [h8, hka, hst]
        by_cases hpl : isPl (T1 σ) k = true
        · exact h1 ⟨k, hk, ⟨hks, hpl⟩, hb⟩
        · exact h2 ⟨k, hk, ⟨hks, hpl⟩, hb⟩
      · left; exact fun q => hka q.2
    · left; exact fun q => hks q.1
  · rintro ⟨h8, ⟨m, hm, hs, ha⟩, h⟩
    have no : ∀ k, k < 6 → bt set k = true → ¬ bt (msF σ c k) e = true := by
      intro k hk hks q
      rw [b_ms hM hc hk hks he] at q
      simp only [Bool.and_eq_true, decide_eq_true_eq] at q
      rcases h k hk with h9 | h9
      · exact h9 ⟨hks, q.2.1⟩
      · exact h9 q.2.2
    exact ⟨⟨⟨m, hm, hs, ha⟩, fun ⟨k, hk, hp, q⟩ => no k hk hp.1 q⟩, fun ⟨k, hk, hp, q⟩ => no k hk hp.1 q⟩
theorem clash_bits {σ : Mm} {set c : Int32} (hM : MS σ set) (hc : okC c) {e : Nat} (he : e < 32) : bt ((A2F σ set &&& (mpF σ set c 6 ^^^ (-1))) &&& mrF σ set c 6) e = (decide (e < 8) && clashB (T1 σ) set c e) := by
  unfold A2F mpF mrF clashB
  rw [b_and, b_and, b_not _ he, or_bit, or_bit, or_bit, Bool.eq_iff_iff]
  simp only [Bool.and_eq_true, Bool.not_eq_true', decide_eq_true_eq, any6, all6, ← Bool.not_eq_true, hasE, Bool.or_eq_true]
  constructor
  · rintro ⟨⟨⟨m, hm, ⟨hs, hpl⟩, ha⟩, h1⟩, ⟨k, hk, ⟨hks, hkp⟩, hkb⟩⟩
    have h8 : e < 8 := by
      apply Classical.byContradiction
      intro q
      rw [(hM.2 m hm hs).1.2.2.2 e (by omega)] at ha
      cases ha
    rw [b_ms hM hc hk hks he] at hkb
    simp only [Bool.and_eq_true, decide_eq_true_eq] at hkb
    refine ⟨h8, ⟨⟨m, hm, hpl, hs, ha⟩, fun i hi => ?_⟩, ⟨k, hk, ⟨hkp, hks, hkb.2.1⟩, hkb.2.2⟩⟩
    by_cases hq : isPl (T1 σ) i = true ∧ bt set i = true ∧ bt ((T1 σ).2.1 i) e = true
    · right
      intro hst
      exact h1 ⟨i, hi, ⟨hq.2.1, hq.1⟩, by rw [b_ms hM hc hi hq.2.1 he]; simp [h8, hq.2.2, hst]⟩
    · left; exact hq
  · rintro ⟨h8, ⟨⟨m, hm, hpl, hs, ha⟩, h⟩, ⟨k, hk, ⟨hkp, hks, hka⟩, hkb⟩⟩
    refine ⟨⟨⟨m, hm, ⟨hs, hpl⟩, ha⟩, ?_⟩, ⟨k, hk, ⟨hks, hkp⟩, by rw [b_ms hM hc hk hks he]; simp [h8, hka, hkb]⟩⟩
    rintro ⟨i, hi, ⟨his, hip⟩, q⟩
    rw [b_ms hM hc hi his he] at q
    simp only [Bool.and_eq_true, decide_eq_true_eq] at q
    rcases h i hi with h9 | h9
    · exact h9 ⟨hip, his, q.2.1⟩
    · exact h9 q.2.2
/-- the edges into each JOINT, chained: the last first -/
def chainP (E : Nat → Int32) : Int32 → List Nat → Prop
  | v, [] => v = -9
  | v, y :: ys => v = nI y ∧ chainP E (E y) ys
def insX (f : Nat → Int32) (j x : Nat) : List Nat := ((List.range x).filter (fun y => f y == nI j)).reverse
theorem ins_hit {f : Nat → Int32} {j x : Nat} (h : f x = nI j) : insX f j (x + 1) = x :: insX f j x := by
  unfold insX
  rw [List.range_succ, List.filter_append]
  simp [h]
theorem ins_miss {f : Nat → Int32} {j x : Nat} (h : f x ≠ nI j) : insX f j (x + 1) = insX f j x := by
  unfold insX
  rw [List.range_succ, List.filter_append]
  simp [h]
theorem ins_mem {f : Nat → Int32} {j x y : Nat} : y ∈ insX f j x ↔ y < x ∧ f y = nI j := by
  unfold insX
  simp
theorem chain_upd {E : Nat → Int32} {x : Nat} {z : Int32} : ∀ (l : List Nat) (v : Int32), (∀ y ∈ l, y < x) → chainP E v l → chainP (upd E x z) v l := by
  intro l
  induction l with
  | nil => intro v _ h; exact h
  | cons y ys ih =>
    intro v hl h
    refine ⟨h.1, ?_⟩
    have : y ≠ x := by have := hl y List.mem_cons_self; omega
    rw [pk_un this]
    exact ih _ (fun z hz => hl z (List.mem_cons_of_mem _ hz)) h.2
/-- a JOINT's row -/
def RowI (σ : Mm) (b : Nat) (T : Tab) (set : Int32) (n : Nat) (c : Int32) : Prop := (∀ e, e < 32 → bt (σ (b + 2) n) e = (decide (e < 8) && leadB T set c e)) ∧ (∀ e, e < 32 → bt (σ (b + 3) n) e = (decide (e < 8) && clashB T set c e)) ∧ σ (b + 4) n = (if finB T set c = true then 1 else 0)
/-- x twos of a JOINT and an EVENT are gone through, R rows stand -/
def BI (σ : Mm) (b : Nat) (T : Tab) (set : Int32) (x R : Nat) : Prop := σ b 14 = 0 ∧ σ b 13 = nI (csx T set x).length ∧ (csx T set x).length ≤ 150 ∧ (∀ (j : Nat) (c : Int32), (csx T set x)[j]? = some c → σ (b + 1) j = c) ∧ HT (σ (b + 1)) (σ (b + 8)) (csx T set x).length ∧ (∀ y, y < x → σ (b + 5) y = toX T set y) ∧ (∀ j, j < (csx T set x).length → chainP (σ (b + 7)) (σ (b + 6) j) (insX (toX T set) j x)) ∧ ∀ (n : Nat) (c : Int32), n < R → (csx T set x)[n]? = some c → RowI σ b T set n c
def Over (T : Tab) (set : Int32) : Prop := 150 < (csx T set 1200).length
def OV (σ : Mm) (b : Nat) (T : Tab) (set : Int32) : Prop := Over T set ∧ σ b 14 = 1 ∧ σ b 13 = nI 150 ∧ HT (σ (b + 1)) (σ (b + 8)) 150
/-- nothing but the Net's own cells has changed, far and queue haven't -/
def FrN (b : Nat) (σ σ' : Mm) : Prop := ∀ x, (x < b ∨ b + 8 < x) → σ' x = σ x
theorem FrN.rf {b : Nat} {σ : Mm} : FrN b σ σ := fun _ _ => rfl
theorem FrN.tr {b : Nat} {σ σ' σ'' : Mm} (h1 : FrN b σ σ') (h2 : FrN b σ' σ'') : FrN b σ σ'' := fun x h => (h2 x h).trans (h1 x h)
theorem FrN.up {b a k : Nat} {v : Int32} {σ σ' : Mm} (h : FrN b σ σ') (ha : b ≤ a ∧ a ≤ b + 8) : FrN b σ (m_up σ' a k v) := fun x hx => (m_ne (by omega)).trans (h x hx)
theorem toX_lt {T : Tab} {set : Int32} {y x : Nat} (h : y < x) {J : Nat} (hJ : (csx T set x).length ≤ J) (h2 : J < 2 ^ 31) : toX T set y ≠ nI J := by
  rcases toX_cases T set y with ⟨-, q⟩ | ⟨c, j, -, q, hj, -⟩
  · rw [q]; exact fun e => nI_z h2 e.symm
  · rw [q]
    intro e
    have h3 := csx_len T set (show y + 1 ≤ x from h)
    have := (nI_eq (by omega) h2).mp e
    omega
section BIstep
variable {σ : Mm} {b : Nat} {T : Tab} {set : Int32} {x R : Nat}
theorem BI.none (h : BI σ b T set x R) (hn : nxt T set (csx T set x) x = .none) : BI (m_up σ (b + 5) x (-9)) b T set (x + 1) R := by
  obtain ⟨h1, h2, h3, h4, h5, h6, h7, h8⟩ := h
  have ht : toX T set x = -9 := by unfold toX; rw [hn]
  unfold BI RowI at *
  rw [csx_none T set hn]
  simp only [m_row, m_ne (show b ≠ b + 5 by omega), m_ne (show b + 1 ≠ b + 5 by omega), m_ne (show b + 8 ≠ b + 5 by omega), m_ne (show b + 6 ≠ b + 5 by omega), m_ne (show b + 7 ≠ b + 5 by omega), m_ne (show b + 2 ≠ b + 5 by omega), m_ne (show b + 3 ≠ b + 5 by omega), m_ne (show b + 4 ≠ b + 5 by omega)]
  refine ⟨h1, h2, h3, h4, h5, fun y hy => ?_, fun j hj => ?_, h8⟩
  · by_cases q : y = x
    · subst q; rw [pk_us, ht]
    · rw [pk_un q]; exact h6 y (by omega)
  · rw [ins_miss (by rw [ht]; exact fun e => nI_z (by omega) e.symm)]
    exact h7 j hj
theorem BI.old (h : BI σ b T set x R) {c : Int32} (hn : nxt T set (csx T set x) x = some c) {j : Nat} (hj : (csx T set x)[j]? = some c) : BI (m_up (m_up (m_up (m_up σ (b + 5) x (-9)) (b + 5) x (nI j)) (b + 7) x (σ (b + 6) j)) (b + 6) j (nI x)) b T set (x + 1) R := by
  obtain ⟨h1, h2, h3, h4, h5, h6, h7, h8⟩ := h
  have hm : c ∈ csx T set x := List.mem_of_getElem? hj
  have hcs : csx T set (x + 1) = csx T set x := by rw [csx_some T set hn, if_pos hm]
  have hjl : j < (csx T set x).length := (List.getElem?_eq_some_iff.mp hj).1
  have ht : toX T set x = nI j := by
    rcases toX_cases T set x with ⟨q, -⟩ | ⟨c', j', q1, q2, q3, q4⟩
    · rw [hn] at q; cases q
    · rw [hn] at q1
      cases q1
      rw [hcs] at q4
      rw [q2, nodup_idx (csx_nodup T set x) q4 hj]
  unfold BI RowI at *
  rw [hcs]
  simp only [m_row, m_ne (show b ≠ b + 5 by omega), m_ne (show b ≠ b + 6 by omega), m_ne (show b ≠ b + 7 by omega), m_ne (show b + 1 ≠ b + 5 by omega), m_ne (show b + 1 ≠ b + 6 by omega), m_ne (show b + 1 ≠ b + 7 by omega), m_ne (show b + 8 ≠ b + 5 by omega), m_ne (show b + 8 ≠ b + 6 by omega), m_ne (show b + 8 ≠ b + 7 by omega), m_ne (show b + 6 ≠ b + 5 by omega), m_ne (show b + 6 ≠ b + 7 by omega), m_ne (show b + 7 ≠ b + 5 by omega), m_ne (show b + 7 ≠ b + 6 by omega), m_ne (show b + 5 ≠ b + 6 by omega), m_ne (show b + 5 ≠ b + 7 by omega), m_ne (show b + 2 ≠ b + 5 by omega), m_ne (show b + 2 ≠ b + 6 by omega), m_ne (show b + 2 ≠ b + 7 by omega), m_ne (show b + 3 ≠ b + 5 by omega), m_ne (show b + 3 ≠ b + 6 by omega), m_ne (show b + 3 ≠ b + 7 by omega), m_ne (show b + 4 ≠ b + 5 by omega), m_ne (show b + 4 ≠ b + 6 by omega), m_ne (show b + 4 ≠ b + 7 by omega)]
  refine ⟨h1, h2, h3, h4, h5, fun y hy => ?_, fun k hk => ?_, h8⟩
  · by_cases q : y = x
    · subst q; rw [pk_us, ht]
    · rw [pk_un q, pk_un q]; exact h6 y (by omega)
  · by_cases q : k = j
    · subst q
      rw [ins_hit ht, pk_us]
      refine ⟨rfl, ?_⟩
      rw [pk_us]
      exact chain_upd _ _ (fun y hy => (ins_mem.mp hy).1) (h7 k hk)
    · rw [ins_miss (by rw [ht]; exact fun e => q ((nI_eq (by omega) (by omega)).mp e).symm), pk_un q]
      exact chain_upd _ _ (fun y hy => (ins_mem.mp hy).1) (h7 k hk)
theorem BI.new (h : BI σ b T set x R) {c : Int32} (hn : nxt T set (csx T set x) x = some c) (hc : c ∉ csx T set x) {J i : Nat} (hJ : J = (csx T set x).length) (h150 : J < 150) (hR : R ≤ J) (hH : HT (upd (σ (b + 1)) J c) (upd (σ (b + 8)) i (nI J)) (J + 1)) {σm : Mm} (hm : σm = m_up (m_up (m_up (m_up (m_up σ (b + 5) x (-9)) (b + 1) J c) (b + 6) J (-9)) b 13 (nI (J + 1))) (b + 8) i (nI J)) :
    BI (m_up (m_up (m_up σm (b + 5) x (nI J)) (b + 7) x (σm (b + 6) J)) (b + 6) J (nI x)) b T set (x + 1) R := by
  obtain ⟨h1, h2, h3, h4, h5, h6, h7, h8⟩ := h
  have hcs : csx T set (x + 1) = csx T set x ++ [c] := by rw [csx_some T set hn, if_neg hc]
  have hlen : (csx T set (x + 1)).length = J + 1 := by rw [hcs, List.length_append, hJ]; rfl
  have hlast : (csx T set (x + 1))[J]? = some c := by rw [hcs, hJ, List.getElem?_append_right (Nat.le_refl _)]; simp
  have hold : ∀ k, k < J → (csx T set (x + 1))[k]? = (csx T set x)[k]? := fun k hk => by rw [hcs, List.getElem?_append_left (by omega)]
  have ht : toX T set x = nI J := by
    rcases toX_cases T set x with ⟨q, -⟩ | ⟨c', j', q1, q2, q3, q4⟩
    · rw [hn] at q; cases q
    · rw [hn] at q1
      cases q1
      rw [q2, nodup_idx (csx_nodup T set (x + 1)) q4 hlast]
  subst hm
  unfold BI RowI at *
  rw [hlen]
  simp only [m_row, m_ne (show b ≠ b + 1 by omega), m_ne (show b ≠ b + 5 by omega), m_ne (show b ≠ b + 6 by omega), m_ne (show b ≠ b + 7 by omega), m_ne (show b ≠ b + 8 by omega), m_ne (show b + 1 ≠ b by omega), m_ne (show b + 1 ≠ b + 5 by omega), m_ne (show b + 1 ≠ b + 6 by omega), m_ne (show b + 1 ≠ b + 7 by omega), m_ne (show b + 1 ≠ b + 8 by omega), m_ne (show b + 8 ≠ b by omega), m_ne (show b + 8 ≠ b + 1 by omega), m_ne (show b + 8 ≠ b + 5 by omega), m_ne (show b + 8 ≠ b + 6 by omega), m_ne (show b + 8 ≠ b + 7 by omega), m_ne (show b + 6 ≠ b by omega), m_ne (show b + 6 ≠ b + 1 by omega), m_ne (show b + 6 ≠ b + 5 by omega), m_ne (show b + 6 ≠ b + 7 by omega), m_ne (show b + 6 ≠ b + 8 by omega), m_ne (show b + 7 ≠ b by omega), m_ne (show b + 7 ≠ b + 1 by omega), m_ne (show b + 7 ≠ b + 5 by omega), m_ne (show b + 7 ≠ b + 6 by omega), m_ne (show b + 7 ≠ b + 8 by omega), m_ne (show b + 5 ≠ b by omega), m_ne (show b + 5 ≠ b + 1 by omega), m_ne (show b + 5 ≠ b + 6 by omega), m_ne (show b + 5 ≠ b + 7 by omega), m_ne (show b + 5 ≠ b + 8 by omega)]
  simp only [m_ne (show b + 2 ≠ b by omega), m_ne (show b + 2 ≠ b + 1 by omega), m_ne (show b + 2 ≠ b + 5 by omega), m_ne (show b + 2 ≠ b + 6 by omega), m_ne (show b + 2 ≠ b + 7 by omega), m_ne (show b + 2 ≠ b + 8 by omega), m_ne (show b + 3 ≠ b by omega), m_ne (show b + 3 ≠ b + 1 by omega), m_ne (show b + 3 ≠ b + 5 by omega), m_ne (show b + 3 ≠ b + 6 by omega), m_ne (show b + 3 ≠ b + 7 by omega), m_ne (show b + 3 ≠ b + 8 by omega), m_ne (show b + 4 ≠ b by omega), m_ne (show b + 4 ≠ b + 1 by omega), m_ne (show b + 4 ≠ b + 5 by omega), m_ne (show b + 4 ≠ b + 6 by omega), m_ne (show b + 4 ≠ b + 7 by omega), m_ne (show b + 4 ≠ b + 8 by omega)]
  refine ⟨by rw [pk_un (by decide)]; exact h1, pk_us, by omega, fun k c' hk => ?_, hH, fun y hy => ?_, fun k hk => ?_, fun n c' hn' hc' => ?_⟩
  · by_cases q : k = J
    · subst q
      rw [hlast] at hk
      cases hk
      exact pk_us
    · have hkl := (List.getElem?_eq_some_iff.mp hk).1
      rw [pk_un q]
      rw [hold k (by omega)] at hk
      exact h4 k c' hk
  · by_cases q : y = x
    · subst q; rw [pk_us, ht]
    · rw [pk_un q, pk_un q]; exact h6 y (by omega)
  · by_cases q : k = J
    · subst q
      rw [ins_hit ht]
      refine ⟨pk_us, ?_⟩
      have : insX (toX T set) k x = [] := by
        apply List.eq_nil_iff_forall_not_mem.mpr
        intro y hy
        obtain ⟨a1, a2⟩ := ins_mem.mp hy
        exact toX_lt a1 (by omega) (by omega) a2
      rw [this]
      exact pk_us.trans pk_us
    · rw [ins_miss (by rw [ht]; exact fun e => q ((nI_eq (by omega) (by omega)).mp e).symm), pk_un q, pk_un q]
      exact chain_upd _ _ (fun y hy => (ins_mem.mp hy).1) (h7 k (by omega))
  · rw [hold n (by omega)] at hc'
    exact h8 n c' hn' hc'
theorem BI.row (h : BI σ b T set x R) {c : Int32} (hc : (csx T set x)[R]? = some c) {f g : Int32} (hf : ∀ e, e < 32 → bt f e = (decide (e < 8) && leadB T set c e)) (hg : ∀ e, e < 32 → bt g e = (decide (e < 8) && clashB T set c e)) : BI (m_up (m_up (m_up σ (b + 4) R (if finB T set c = true then 1 else 0)) (b + 2) R f) (b + 3) R g) b T set x (R + 1) := by
  obtain ⟨h1, h2, h3, h4, h5, h6, h7, h8⟩ := h
  unfold BI RowI at *
  simp only [m_row, m_ne (show b ≠ b + 2 by omega), m_ne (show b ≠ b + 3 by omega), m_ne (show b ≠ b + 4 by omega), m_ne (show b + 1 ≠ b + 2 by omega), m_ne (show b + 1 ≠ b + 3 by omega), m_ne (show b + 1 ≠ b + 4 by omega), m_ne (show b + 8 ≠ b + 2 by omega), m_ne (show b + 8 ≠ b + 3 by omega), m_ne (show b + 8 ≠ b + 4 by omega), m_ne (show b + 6 ≠ b + 2 by omega), m_ne (show b + 6 ≠ b + 3 by omega), m_ne (show b + 6 ≠ b + 4 by omega), m_ne (show b + 7 ≠ b + 2 by omega), m_ne (show b + 7 ≠ b + 3 by omega), m_ne (show b + 7 ≠ b + 4 by omega), m_ne (show b + 5 ≠ b + 2 by omega), m_ne (show b + 5 ≠ b + 3 by omega), m_ne (show b + 5 ≠ b + 4 by omega), m_ne (show b + 2 ≠ b + 3 by omega), m_ne (show b + 2 ≠ b + 4 by omega), m_ne (show b + 3 ≠ b + 2 by omega), m_ne (show b + 3 ≠ b + 4 by omega), m_ne (show b + 4 ≠ b + 2 by omega), m_ne (show b + 4 ≠ b + 3 by omega)]
  refine ⟨h1, h2, h3, h4, h5, h6, h7, fun n c' hn hc' => ?_⟩
  by_cases q : n = R
  · subst q
    rw [hc] at hc'
    cases hc'
    rw [pk_us, pk_us, pk_us]
    exact ⟨hf, hg, rfl⟩
  · rw [pk_un q, pk_un q, pk_un q]
    exact h8 n c' (by omega) hc'
end BIstep
/-- spreadFrom(n): the row of n, and all twos of n and an EVENT; or there are too many -/
def spP (σ : Mm) (b : Nat) (T : Tab) (set : Int32) (n : Nat) : Int32 → Mm → Prop := fun _ σ' => FrN b σ σ' ∧ σ' b 11 = σ b 11 ∧ σ' b 12 = σ b 12 ∧ (BI σ' b T set (8 * (n + 1)) (n + 1) ∨ OV σ' b T set)
theorem nI_8 (n e : Nat) : nI n * 8 + nI e = nI (8 * n + e) := by rw [show (8 : Int32) = nI 8 from rfl, pk_mul, nI_add, Nat.mul_comm n 8]
theorem FrN.T1 {b : Nat} {σ σ' : Mm} (hb : 22 < b) (h : FrN b σ σ') : T1 σ' = T1 σ := T1_same (fun x hx => h x (by omega))
theorem FrN.MS {b : Nat} {σ σ' : Mm} {set : Int32} (hb : 22 < b) (h : FrN b σ σ') (hM : MS σ set) : MS σ' set := hM.same (fun x hx => h x (by omega))
theorem over_of {T : Tab} {set : Int32} {x : Nat} (hx : x < 1200) {c : Int32} (hn : nxt T set (csx T set x) x = some c) (hc : c ∉ csx T set x) (h : (csx T set x).length = 150) : Over T set := by
  have h1 : (csx T set (x + 1)).length = 151 := by rw [csx_some T set hn, if_neg hc, List.length_append, h]; rfl
  have h2 := csx_len T set (show x + 1 ≤ 1200 from hx)
  unfold Over
  omega
