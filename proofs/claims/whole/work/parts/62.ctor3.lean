/-! CONSTRUCTORS: this, Object's own, the end -/
section KRules2
variable {D : va_G} {t : Tc} {A : Nat → Prop} {R : Room} {own : String} {cc : ByteArray} {nL mc ms : Nat} {B : State → Prop} {pc : Nat} {lv : List (Nat × Value)} {st : List Value} {ws : va_W} {cells slots : Nat}
theorem kj_aload {a i : Nat} {j : Fin 4} (hd : decode cc pc = .ok (.aload_n j, 1)) (hj : lv[i]? = some (j.val, .ref a)) (k : KJ D t A R own cc nL mc ms B (pc + 1) lv (.ref a :: st) ws cells slots) : KJ D t A R own cc nL mc ms B pc lv st ws cells slots := by
  intro p l e s m args below meth c H locs ls C hi hP hD hS hl
  exact lv_aload_n C.1 C.2.1 hd rfl (lv_at hl i hj) (k p l e s m args below meth c H locs ls C hi hP hD hS hl)
theorem kj_obj {idx a : Nat} (hlink : Cond.methodLink own idx Lib.objectInit ∈ WS) (hinst : Cond.instanceMethod Lib.objectInit ∈ WS) (hcode : Cond.code Lib.objectInit ⟨#[0xb1]⟩ 1 none ∈ WS) (hf : 1 ≤ R.frames) (hloc : 12 ≤ R.locals) (hd : decode cc pc = .ok (.invokespecial idx, 3)) (k : KJ D t A R own cc nL mc ms B (pc + 3) lv [] ws cells slots) : KJ D t A R own cc nL mc ms B pc lv [.ref a] ws cells slots := by
  intro p l e s m args below meth c H locs ls C hi hP hD hS hl
  have hts := C.2.2.2.2.2.2.1
  exact W.objInit C.1 C.2.1 C.2.2.2.1 (hts _ hlink) (hts _ hinst) (hts _ hcode) rfl (by rw [C.2.2.1]; exact hl.1) rfl hd hf (by show 2 * _ + 0 + 12 ≤ R.locals; exact hloc) (W.eq (g2 := F0 m (pc + 3) ls []) rfl (k p l e s m args below meth c H locs ls C hi hP hD hS hl))
theorem kj_ret (hB : ∀ U : State, va_P D vwCl ws U.heap → va_D A ws → B U) (hd : decode cc pc = .ok (.return_, 1)) : KJ D t A R own cc nL cells slots B pc lv [] ws cells slots := by
  intro p l e s m args below meth c H locs ls C hi hP hD hS hl
  have hlocks : meth.locks = false := C.2.2.2.2.2.1
  exact W.vret C.1 C.2.1 C.2.2.2.2.1 (fun t' ht hW => ⟨⟨(), rfl, trivial, hB t' (by rw [ht]; exact hP) hD⟩, hS.F ht⟩) hS.2.2 hd
end KRules2
