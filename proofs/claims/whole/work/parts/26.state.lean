/-! THE STATE OF BOTH: N MACHINES with kinds K and tables M -/
def TA (N : Nat) (K : Nat → Int32) (M : Nat → MV) : Tab := (fun m => if m < N then K m else 0, fun m => if m < N then (M m).2.1 else 0, fun m => if m < N then (M m).2.2.1 else 0, fun m x => if m < N then (M m).1 x else 0)
def okV (k : Int32) (v : MV) : Prop := (k = 0 ∨ k = 1) ∧ (∀ x, x < 48 → v.1 x = -9 ∨ ∃ t, t < 6 ∧ v.1 x = nI t) ∧ (∀ s, s < 6 → ∀ e, e < 8 → v.1 (8 * s + e) ≠ -9 → bt v.2.1 e = true) ∧ (∀ i, 8 ≤ i → bt v.2.1 i = false)
theorem TA_ok {N : Nat} {K : Nat → Int32} {M : Nat → MV} {m : Nat} (h : m < N) (hv : okV (K m) (M m)) : okT (TA N K M) m := by
  unfold okT TA
  simp only [if_pos h]
  exact hv
/-- two tables that agree on the MACHINES of a set -/
def TE (T T' : Tab) (set : Int32) : Prop := ∀ m, m < 6 → bt set m = true → T.1 m = T'.1 m ∧ T.2.1 m = T'.2.1 m ∧ T.2.2.1 m = T'.2.2.1 m ∧ ∀ x, x < 48 → T.2.2.2 m x = T'.2.2.2 m x
theorem te_has {T T' : Tab} {set : Int32} (hE : TE T T' set) {e m : Nat} (hm : m < 6) : hasE T set e m = hasE T' set e m := by
  unfold hasE
  cases h : bt set m with
  | false => rfl
  | true => rw [(hE m hm h).2.1]
theorem te_set {T : Tab} {set : Int32} {e m : Nat} (h : hasE T set e m = true) : bt set m = true := by
  unfold hasE at h
  simp only [Bool.and_eq_true] at h
  exact h.1
theorem te_stp {T T' : Tab} {set c : Int32} (hE : TE T T' set) (hc : okC c) {e m : Nat} (he : e < 8) (hm : m < 6) (h : bt set m = true) : stp T c e m = stp T' c e m := by
  unfold stp
  exact (hE m hm h).2.2.2 _ (by have := hc m hm; omega)
theorem te_ledG {T T' : Tab} {set c : Int32} (hE : TE T T' set) (hc : okC c) {e : Nat} (he : e < 8) : ∀ m, m ≤ 6 → ledG T set c e m = ledG T' set c e m := by
  intro m
  induction m with
  | zero => intro _; rfl
  | succ m ih =>
    intro hm
    simp only [ledG]
    rw [ih (by omega)]
    cases ledG T' set c e m with
    | none => rfl
    | some q =>
      obtain ⟨b, t⟩ := q
      dsimp only
      rw [te_has hE (show m < 6 by omega)]
      by_cases h : hasE T' set e m = true
      · rw [if_pos h, if_pos h, te_stp hE hc he (show m < 6 by omega) (te_set h)]
      · rw [if_neg h, if_neg h]
theorem te_led {T T' : Tab} {set c : Int32} (hE : TE T T' set) (hc : okC c) {e : Nat} (he : e < 8) : led T set c e = led T' set c e := by
  unfold led
  rw [te_ledG hE hc he 6 (Nat.le_refl _)]
theorem te_nxt {T T' : Tab} {set : Int32} (hE : TE T T' set) {l : List Int32} (hl : ∀ c ∈ l, okC c) (x : Nat) : nxt T set l x = nxt T' set l x := by
  unfold nxt
  cases h : l[x / 8]? with
  | none => rfl
  | some c => exact te_led hE (hl c (List.mem_of_getElem? h)) (Nat.mod_lt _ (by decide))
theorem te_csx {T T' : Tab} {set : Int32} (hE : TE T T' set) (hT : ∀ m, m < 6 → bt set m = true → okT T m) (x : Nat) : csx T set x = csx T' set x := by
  induction x with
  | zero => rfl
  | succ x ih =>
    have h := te_nxt hE (csx_ok T set hT x) x
    simp only [csx]
    rw [← ih, h]
theorem te_toX {T T' : Tab} {set : Int32} (hE : TE T T' set) (hT : ∀ m, m < 6 → bt set m = true → okT T m) : toX T set = toX T' set := by
  funext x
  unfold toX
  rw [te_nxt hE (csx_ok T set hT x) x, te_csx hE hT x, te_csx hE hT (x + 1)]
theorem any_cong {p q : Nat → Bool} (h : ∀ m, m < 6 → p m = q m) : (List.range 6).any p = (List.range 6).any q := by
  rw [Bool.eq_iff_iff, any6, any6]
  exact ⟨fun ⟨m, a, b⟩ => ⟨m, a, by rw [← h m a]; exact b⟩, fun ⟨m, a, b⟩ => ⟨m, a, by rw [h m a]; exact b⟩⟩
theorem all_cong {p q : Nat → Bool} (h : ∀ m, m < 6 → p m = q m) : (List.range 6).all p = (List.range 6).all q := by
  rw [Bool.eq_iff_iff, all6, all6]
  exact ⟨fun f m a => by rw [← h m a]; exact f m a, fun f m a => by rw [h m a]; exact f m a⟩
theorem te_fin {T T' : Tab} {set c : Int32} (hE : TE T T' set) : finB T set c = finB T' set c := by
  unfold finB
  refine all_cong (fun m hm => ?_)
  cases h : bt set m with
  | false => rfl
  | true => rw [(hE m hm h).2.2.1]
theorem te_clash {T T' : Tab} {set c : Int32} (hE : TE T T' set) (hc : okC c) {e : Nat} (he : e < 8) : clashB T set c e = clashB T' set c e := by
  have pl : ∀ m, m < 6 → hasE T' set e m = true → isPl T m = isPl T' m := fun m hm h => by unfold isPl; rw [(hE m hm (te_set h)).1]
  unfold clashB
  congr 1
  · congr 1
    · refine any_cong (fun m hm => ?_)
      rw [te_has hE hm]
      cases h : hasE T' set e m with
      | false => simp
      | true => rw [pl m hm h]
    · refine all_cong (fun m hm => ?_)
      rw [te_has hE hm]
      cases h : hasE T' set e m with
      | false => simp
      | true => rw [pl m hm h, te_stp hE hc he hm (te_set h)]
  · refine any_cong (fun m hm => ?_)
    rw [te_has hE hm]
    cases h : hasE T' set e m with
    | false => simp
    | true => rw [pl m hm h, te_stp hE hc he hm (te_set h)]
/-- the graph of a set of MACHINES: how many JOINTS, their codes, which are FINISHED, which EVENTS CLASH where, if FREE -/
noncomputable def gX (T : Tab) (set : Int32) : List Int32 := Classical.choose (⟨_, rfl⟩ : ∃ l, l = csx T set 1200)
theorem gX_eq (T : Tab) (set : Int32) : gX T set = csx T set 1200 := Classical.choose_spec (⟨_, rfl⟩ : ∃ l, l = csx T set 1200)
noncomputable def gJ (T : Tab) (set : Int32) : Nat := (gX T set).length
noncomputable def gC (T : Tab) (set : Int32) (n : Nat) : Int32 := ((gX T set)[n]?).getD 0
noncomputable def gF (T : Tab) (set : Int32) (n : Nat) : Bool := finB T set (gC T set n)
noncomputable def gL (T : Tab) (set : Int32) (n e : Nat) : Bool := decide (e < 8) && clashB T set (gC T set n) e
theorem gC_ok {T : Tab} {set : Int32} (hT : ∀ m, m < 6 → bt set m = true → okT T m) (n : Nat) : okC (gC T set n) := by
  unfold gC
  rw [gX_eq]
  cases h : (csx T set 1200)[n]? with
  | none => exact ok_0
  | some c => exact csx_ok T set hT _ c (List.mem_of_getElem? h)
theorem te_g {T T' : Tab} {set : Int32} (hE : TE T T' set) (hT : ∀ m, m < 6 → bt set m = true → okT T m) : csx T set = csx T' set ∧ toX T set = toX T' set ∧ gJ T set = gJ T' set ∧ gC T set = gC T' set ∧ gF T set = gF T' set ∧ gL T set = gL T' set := by
  have h1 : csx T set = csx T' set := funext (te_csx hE hT)
  have hX : gX T set = gX T' set := by rw [gX_eq, gX_eq, h1]
  have h4 : gC T set = gC T' set := by funext n; unfold gC; rw [hX]
  refine ⟨h1, te_toX hE hT, by unfold gJ; rw [hX], h4, ?_, ?_⟩
  · funext n; unfold gF; rw [h4, te_fin hE]
  · funext n e
    unfold gL
    by_cases he : e < 8
    · rw [te_clash hE (gC_ok hT n) he, h4]
    · simp [he]
/-- a Net that holds the graph -/
def NG (σ : Mm) (b : Nat) (T : Tab) (set : Int32) : Prop := gJ T set ≤ 150 ∧ σ b 14 = 0 ∧ σ b 13 = nI (gJ T set) ∧ (∀ n, n < gJ T set → σ (b + 1) n = gC T set n) ∧ (∀ y, y < 8 * gJ T set → σ (b + 5) y = toX T set y) ∧ (∀ j, j < gJ T set → chainP (σ (b + 7)) (σ (b + 6) j) (insX (toX T set) j (8 * gJ T set))) ∧ ∀ n, n < gJ T set → RowI σ b T set n (gC T set n)
theorem gT_lt {T : Tab} {set : Int32} (h : gJ T set ≤ 150) : ∀ y, y < 8 * gJ T set → toX T set y = -9 ∨ ∃ m, m < gJ T set ∧ toX T set y = nI m := by
  intro y hy
  rcases toX_cases T set y with ⟨-, q⟩ | ⟨c, j, -, q, hj, -⟩
  · exact Or.inl q
  · exact Or.inr ⟨j, by have := csx_len T set (show y + 1 ≤ 1200 by omega); unfold gJ; rw [gX_eq]; omega, q⟩
theorem NB.g {σ : Mm} {b : Nat} {T : Tab} {set : Int32} (h : NB σ b T set) : NG σ b T set := by
  obtain ⟨J, h1, h2, h3, h4⟩ := h
  have hJ : gJ T set = J := by unfold gJ; rw [gX_eq, h2, h3]
  have hc : ∀ n, n < J → (csx T set (8 * J))[n]? = some (gC T set n) := fun n hn => by
    have : n < (csx T set (8 * J)).length := by omega
    rw [List.getElem?_eq_getElem this]
    unfold gC
    rw [gX_eq, h2, List.getElem?_eq_getElem this]
    rfl
  obtain ⟨a1, a2, a3, a4, a5, a6, a7, a8⟩ := h4
  rw [h3] at a2 a7
  unfold NG
  rw [hJ]
  exact ⟨h1, a1, a2, fun n hn => a4 n _ (hc n hn), a6, a7, fun n hn => a8 n _ hn (hc n hn)⟩
theorem NG.m {σ : Mm} {b : Nat} {T : Tab} {set : Int32} (h : NG σ b T set) : NM σ b (gJ T set) (toX T set) (gF T set) := ⟨h.1, h.2.2.1, fun n hn => (h.2.2.2.2.2.2 n hn).2.2, h.2.2.2.2.2.1, gT_lt h.1⟩
theorem g_met {T : Tab} {set : Int32} (h : gJ T set ≤ 150) {n : Nat} (hn : n < gJ T set) : n < (csx T set (8 * n)).length := by
  apply Classical.byContradiction
  intro q
  have h1 := csx_stop T set (x := 8 * n) (by omega) 1200 (by omega)
  have h2 : gJ T set = (csx T set 1200).length := by unfold gJ; rw [gX_eq]
  rw [h1] at h2
  omega
theorem g_nxt {T : Tab} {set : Int32} (h : gJ T set ≤ 150) {n e : Nat} (hn : n < gJ T set) (he : e < 8) : (csx T set (8 * n + e))[n]? = some (gC T set n) ∧ nxt T set (csx T set (8 * n + e)) (8 * n + e) = led T set (gC T set n) e := by
  have h1 := g_met h hn
  have h2 : (csx T set (8 * n + e))[n]? = some (gC T set n) := by
    rw [csx_get T set (show 8 * n ≤ 8 * n + e by omega) h1, ← csx_get T set (show 8 * n ≤ 1200 by omega) h1]
    unfold gC
    rw [gX_eq]
    have h3 : n < (csx T set 1200).length := Nat.lt_of_lt_of_le h1 (csx_len T set (by omega))
    generalize csx T set 1200 = l at h3 ⊢
    rw [List.getElem?_eq_getElem h3, Option.getD_some]
  refine ⟨h2, ?_⟩
  unfold nxt
  rw [show (8 * n + e) / 8 = n by omega, show (8 * n + e) % 8 = e by omega, h2]
  rfl
theorem g_lead {T : Tab} {set : Int32} (h : gJ T set ≤ 150) {n e : Nat} (hn : n < gJ T set) (he : e < 8) : leadB T set (gC T set n) e = decide (toX T set (8 * n + e) ≠ -9) := by
  have hx := (g_nxt h hn he).2
  rw [← led_lead]
  rcases toX_cases T set (8 * n + e) with ⟨q1, q2⟩ | ⟨c, j, q1, q2, q3, -⟩
  · rw [hx] at q1
    rw [q1, q2]
    simp
  · rw [hx] at q1
    have h3 := csx_len T set (show 8 * n + e + 1 ≤ 1200 by omega)
    have h4 : gJ T set = (csx T set 1200).length := by unfold gJ; rw [gX_eq]
    rw [q1, q2]
    simp [nI_z (show j < 2 ^ 31 by omega)]
theorem NG.l {σ : Mm} {T : Tab} {set : Int32} (h : NG σ 23 T set) : NL σ (gJ T set) (toX T set) (gF T set) (gL T set) := by
  refine ⟨h.m, h.2.2.2.2.1, fun n hn e he => ?_, fun n hn e he => ?_⟩
  · rw [(h.2.2.2.2.2.2 n hn).1 e he]
    by_cases h8 : e < 8
    · rw [g_lead h.1 hn h8]
    · simp [h8]
  · rw [(h.2.2.2.2.2.2 n hn).2.1 e he]
    unfold gL
    by_cases h8 : e < 8 <;> simp [h8]
