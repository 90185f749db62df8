/-! WHAT IS LOST, wave by wave. LT: in which wave (-9: KEPT), by which reason, by which EVENT -/
abbrev LT : Type := (Nat → Int32) × (Nat → Int32) × (Nat → Int32)
section Loss
variable (J : Nat) (tg : Nat → Int32) (fn : Nat → Bool) (cl : Nat → Nat → Bool) (fr : Nat → Bool)
def isL (w : Nat → Int32) (t : Int32) : Bool := inR J t && decide (w t.toNatClampNeg ≠ -9)
def clE (n : Nat) : Int32 := lstE (fun e => cl n e && fr e)
def puE (w : Nat → Int32) (n : Nat) : Int32 := lstE (fun e => fr e && isL J w (tg (8 * n + e)))
def lt0 : LT := (fun n => if clE cl fr n = -9 then -9 else 0, fun _ => 1, clE cl fr)
def pushT (l : LT) (k : Nat) : LT := (fun n => if l.1 n = -9 ∧ puE J tg fr l.1 n ≠ -9 then nI k else l.1 n, fun n => if l.1 n = -9 ∧ puE J tg fr l.1 n ≠ -9 then 2 else l.2.1 n, fun n => if l.1 n = -9 ∧ puE J tg fr l.1 n ≠ -9 then puE J tg fr l.1 n else l.2.2 n)
noncomputable def stkB (w : Nat → Int32) (n : Nat) : Bool := @decide (∀ k, ¬ Rk J tg fn (fun n => decide (w n = -9)) k n) (Classical.propDecidable _)
theorem stkB_iff {w : Nat → Int32} {n : Nat} : stkB J tg fn w n = true ↔ ∀ k, ¬ Rk J tg fn (fun n => decide (w n = -9)) k n := @decide_eq_true_iff _ (Classical.propDecidable _)
noncomputable def stuckT (l : LT) (k : Nat) : LT := (fun n => if l.1 n = -9 ∧ stkB J tg fn l.1 n = true then nI k else l.1 n, fun n => if l.1 n = -9 ∧ stkB J tg fn l.1 n = true then 3 else l.2.1 n, fun n => if l.1 n = -9 ∧ stkB J tg fn l.1 n = true then -9 else l.2.2 n)
def anyP (l : LT) : Prop := ∃ n, n < J ∧ l.1 n = -9 ∧ puE J tg fr l.1 n ≠ -9
def anyS (l : LT) : Prop := ∃ n, n < J ∧ l.1 n = -9 ∧ stkB J tg fn l.1 n = true
noncomputable def lstep (l : LT) (k : Nat) : Option LT := @ite _ (anyP J tg fr l) (Classical.propDecidable _) (some (pushT J tg fr l k)) (@ite _ (anyS J tg fn l) (Classical.propDecidable _) (some (stuckT J tg fn l k)) none)
noncomputable def lts : Nat → LT
  | 0 => lt0 cl fr
  | k + 1 => (lstep J tg fn fr (lts k) (k + 1)).getD (lts k)
def lossK (k : Nat) : Prop := (∀ i, i < k → lstep J tg fn fr (lts J tg fn cl fr i) (i + 1) ≠ none) ∧ lstep J tg fn fr (lts J tg fn cl fr k) (k + 1) = none
end Loss
section Loss2
variable {J : Nat} {tg : Nat → Int32} {fn : Nat → Bool} {cl : Nat → Nat → Bool} {fr : Nat → Bool}
theorem lossK.uniq {k k' : Nat} (h1 : lossK J tg fn cl fr k) (h2 : lossK J tg fn cl fr k') : k = k' := by
  rcases Nat.lt_trichotomy k k' with q | q | q
  · exact absurd h1.2 (h2.1 k q)
  · exact q
  · exact absurd h2.2 (h1.1 k' q)
theorem lstep_P {l : LT} {k : Nat} (h : anyP J tg fr l) : lstep J tg fn fr l k = some (pushT J tg fr l k) := by
  unfold lstep
  exact if_pos h
theorem lstep_S {l : LT} {k : Nat} (h : ¬ anyP J tg fr l) (h2 : anyS J tg fn l) : lstep J tg fn fr l k = some (stuckT J tg fn l k) := by
  unfold lstep
  rw [if_neg h, if_pos h2]
theorem lstep_N {l : LT} {k : Nat} (h : ¬ anyP J tg fr l) (h2 : ¬ anyS J tg fn l) : lstep J tg fn fr l k = none := by
  unfold lstep
  rw [if_neg h, if_neg h2]
theorem lts_P {k : Nat} (h : anyP J tg fr (lts J tg fn cl fr k)) : lts J tg fn cl fr (k + 1) = pushT J tg fr (lts J tg fn cl fr k) (k + 1) := by
  simp only [lts, lstep_P h, Option.getD_some]
theorem lts_S {k : Nat} (h : ¬ anyP J tg fr (lts J tg fn cl fr k)) (h2 : anyS J tg fn (lts J tg fn cl fr k)) : lts J tg fn cl fr (k + 1) = stuckT J tg fn (lts J tg fn cl fr k) (k + 1) := by
  simp only [lts, lstep_S h h2, Option.getD_some]
theorem lts_N {k : Nat} (h : ¬ anyP J tg fr (lts J tg fn cl fr k)) (h2 : ¬ anyS J tg fn (lts J tg fn cl fr k)) : lts J tg fn cl fr (k + 1) = lts J tg fn cl fr k := by
  simp only [lts, lstep_N h h2, Option.getD_none]
/-- waves are numbered -/
theorem lts_w (k n : Nat) : (lts J tg fn cl fr k).1 n = -9 ∨ ∃ i, i ≤ k ∧ (lts J tg fn cl fr k).1 n = nI i := by
  induction k with
  | zero =>
    show (if clE cl fr n = -9 then (-9 : Int32) else 0) = -9 ∨ _
    by_cases h : clE cl fr n = -9
    · left; rw [if_pos h]
    · right; exact ⟨0, Nat.le_refl _, if_neg h⟩
  | succ k ih =>
    by_cases hP : anyP J tg fr (lts J tg fn cl fr k)
    · rw [lts_P hP]
      unfold pushT
      dsimp only
      by_cases hc : (lts J tg fn cl fr k).1 n = -9 ∧ puE J tg fr (lts J tg fn cl fr k).1 n ≠ -9
      · right; exact ⟨k + 1, Nat.le_refl _, if_pos hc⟩
      · rw [if_neg hc]
        rcases ih with a | ⟨i, a, b⟩
        · exact Or.inl a
        · exact Or.inr ⟨i, by omega, b⟩
    · by_cases hS : anyS J tg fn (lts J tg fn cl fr k)
      · rw [lts_S hP hS]
        unfold stuckT
        dsimp only
        by_cases hc : (lts J tg fn cl fr k).1 n = -9 ∧ stkB J tg fn (lts J tg fn cl fr k).1 n = true
        · right; exact ⟨k + 1, Nat.le_refl _, if_pos hc⟩
        · rw [if_neg hc]
          rcases ih with a | ⟨i, a, b⟩
          · exact Or.inl a
          · exact Or.inr ⟨i, by omega, b⟩
      · rw [lts_N hP hS]
        rcases ih with a | ⟨i, a, b⟩
        · exact Or.inl a
        · exact Or.inr ⟨i, by omega, b⟩
theorem cnt_mono {w w' : Nat → Int32} : ∀ N, (∀ n, n < N → w n ≠ -9 → w' n ≠ -9) → cntF w N ≤ cntF w' N := by
  intro N
  induction N with
  | zero => intro _; exact Nat.le_refl _
  | succ N ih =>
    intro h
    rw [cnt_S, cnt_S]
    have := ih (fun n hn => h n (by omega))
    by_cases h1 : w N = -9
    · rw [if_pos h1]; omega
    · rw [if_neg h1, if_neg (h N (by omega) h1)]; omega
theorem cnt_more {w w' : Nat → Int32} : ∀ N, (∀ n, n < N → w n ≠ -9 → w' n ≠ -9) → (∃ n, n < N ∧ w n = -9 ∧ w' n ≠ -9) → cntF w N < cntF w' N := by
  intro N
  induction N with
  | zero => rintro _ ⟨n, hn, _⟩; omega
  | succ N ih =>
    rintro h ⟨n, hn, h1, h2⟩
    rw [cnt_S, cnt_S]
    have hm := cnt_mono N (fun n hn => h n (by omega))
    by_cases q : n = N
    · subst q
      rw [if_pos h1, if_neg h2]; omega
    · have := ih (fun n hn => h n (by omega)) ⟨n, by omega, h1, h2⟩
      by_cases h3 : w N = -9
      · rw [if_pos h3]; omega
      · rw [if_neg h3, if_neg (h N (by omega) h3)]; omega
theorem cnt_same {w w' : Nat → Int32} : ∀ N, (∀ n, n < N → (w n = -9 ↔ w' n = -9)) → cntF w N = cntF w' N := by
  intro N
  induction N with
  | zero => intro _; rfl
  | succ N ih =>
    intro h
    rw [cnt_S, cnt_S, ih (fun n hn => h n (by omega))]
    by_cases h1 : w N = -9
    · rw [if_pos h1, if_pos ((h N (by omega)).mp h1)]
    · rw [if_neg h1, if_neg (fun q => h1 ((h N (by omega)).mpr q))]
theorem pushT_grow {l : LT} {k n : Nat} (hk : k < 2 ^ 31) (h : l.1 n ≠ -9) : (pushT J tg fr l k).1 n ≠ -9 := by
  unfold pushT
  dsimp only
  rw [if_neg (fun q => h q.1)]
  exact h
theorem stuckT_grow {l : LT} {k n : Nat} (hk : k < 2 ^ 31) (h : l.1 n ≠ -9) : (stuckT J tg fn l k).1 n ≠ -9 := by
  unfold stuckT
  dsimp only
  rw [if_neg (fun q => h q.1)]
  exact h
theorem lts_cnt (hJ : J ≤ 150) {k : Nat} (h : ∀ i, i < k → lstep J tg fn fr (lts J tg fn cl fr i) (i + 1) ≠ none) : k ≤ cntF (lts J tg fn cl fr k).1 J := by
  induction k with
  | zero => exact Nat.zero_le _
  | succ k ih =>
    have h0 := ih (fun i hi => h i (by omega))
    have hle := cnt_le (lts J tg fn cl fr k).1 J
    by_cases hP : anyP J tg fr (lts J tg fn cl fr k)
    · rw [lts_P hP]
      obtain ⟨n, h1, h2, h3⟩ := hP
      have := cnt_more (w := (lts J tg fn cl fr k).1) (w' := (pushT J tg fr (lts J tg fn cl fr k) (k + 1)).1) J (fun n _ q => pushT_grow (by omega) q) ⟨n, h1, h2, by
        unfold pushT
        dsimp only
        rw [if_pos ⟨h2, h3⟩]
        exact nI_z (by omega)⟩
      omega
    · by_cases hS : anyS J tg fn (lts J tg fn cl fr k)
      · rw [lts_S hP hS]
        obtain ⟨n, h1, h2, h3⟩ := hS
        have := cnt_more (w := (lts J tg fn cl fr k).1) (w' := (stuckT J tg fn (lts J tg fn cl fr k) (k + 1)).1) J (fun n _ q => stuckT_grow (by omega) q) ⟨n, h1, h2, by
          unfold stuckT
          dsimp only
          rw [if_pos ⟨h2, h3⟩]
          exact nI_z (by omega)⟩
        omega
      · exact absurd (lstep_N hP hS) (h k (by omega))
/-- how many were LOST in wave i -/
def cntW (w : Nat → Int32) (i N : Nat) : Nat := ((List.range N).filter (fun n => w n == nI i)).length
theorem cntW_S (w : Nat → Int32) (i N : Nat) : cntW w i (N + 1) = cntW w i N + (if w N = nI i then 1 else 0) := by
  unfold cntW
  rw [List.range_succ, List.filter_append, List.length_append]
  by_cases h : w N = nI i <;> simp [h]
theorem cntW_ge (w : Nat → Int32) (i n : Nat) (v : Int32) : ∀ N, N ≤ n → cntW (upd w n v) i N = cntW w i N := by
  intro N
  induction N with
  | zero => intro _; rfl
  | succ N ih =>
    intro h
    rw [cntW_S, cntW_S, ih (by omega), pk_un (by omega)]
theorem cntW_upd {w : Nat → Int32} {i n k : Nat} (h0 : w n = -9) (hi : i < 2 ^ 31) (hk : k < 2 ^ 31) : ∀ N, n < N → cntW (upd w n (nI k)) i N = cntW w i N + (if i = k then 1 else 0) := by
  intro N
  induction N with
  | zero => intro h; omega
  | succ N ih =>
    intro h
    rw [cntW_S, cntW_S]
    by_cases hn : n = N
    · subst hn
      rw [cntW_ge w i n _ n (Nat.le_refl _), pk_us, h0, if_neg (show ¬ (-9 : Int32) = nI i from fun e => nI_z hi e.symm)]
      by_cases q : i = k
      · subst q; simp
      · rw [if_neg q, if_neg (fun e => q ((nI_eq hk hi).mp e).symm)]
    · rw [ih (by omega), pk_un (fun q => hn q.symm)]
      omega
theorem cntW_same {w w' : Nat → Int32} {i : Nat} : ∀ N, (∀ n, n < N → w n = w' n) → cntW w i N = cntW w' i N := by
  intro N
  induction N with
  | zero => intro _; rfl
  | succ N ih =>
    intro h
    rw [cntW_S, cntW_S, ih (fun n hn => h n (by omega)), h N (by omega)]
def mixF {α : Type} (n : Nat) (f g : Nat → α) : Nat → α := fun i => if i < n then f i else g i
theorem mix_0 {α : Type} (f g : Nat → α) : mixF 0 f g = g := by
  funext i
  simp [mixF]
theorem mix_S (n : Nat) (f g : Nat → Int32) : upd (mixF n f g) n (f n) = mixF (n + 1) f g := by
  funext i
  by_cases h : i = n
  · subst h
    rw [pk_us]
    simp [mixF]
  · rw [pk_un h]
    have : (i < n + 1) ↔ i < n := by omega
    simp [mixF, this]
theorem mix_eq {n : Nat} {f g : Nat → Int32} (h : f n = g n) : mixF (n + 1) f g = mixF n f g := by
  funext i
  by_cases hi : i = n
  · subst hi
    simp [mixF, h]
  · have : (i < n + 1) ↔ i < n := by omega
    simp [mixF, this]
theorem mix_at {α : Type} (n : Nat) (f g : Nat → α) : mixF n f g n = g n := by simp [mixF]
end Loss2
