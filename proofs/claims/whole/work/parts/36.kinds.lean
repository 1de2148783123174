/-! the letters; which kind one is -/
section K36
variable {G : GC} {μ : MI} {R : Room} {Z : List Frame → Array Value → State → State → Prop} {X : State → Prop} {z0 pc : Nat} {lo : List (Option Value)} {st : List Value} {E : SH} {iv : IV} {lv : LV}
theorem aw_lett {idx : Nat} (hd : decode μ.2.1 pc = .ok (.getstatic idx, 3)) (hl : Cond.fieldLink μ.1.cls idx RX5 "LETTERS" "[C" ∈ tb) (k : AW G μ R Z X z0 (pc + 3) lo (.ref (gT G) :: st) E iv lv) : AW G μ R Z X z0 pc lo st E iv lv :=
  fun p e s m args below meth c H locs ls C q => va_gets C.1 C.2.1 q.2.2.2.1.1 q.2.2.2.2.2.1 C.2.2.2.2.2.1 (C.2.2.2.2.2.2.1 _ hl) (fun _ h => h) hd (k p e s m args below meth c H locs ls C q)
theorem aw_tlen (hd : decode μ.2.1 pc = .ok (.arraylength, 1)) (k : AW G μ R Z X z0 (pc + 1) lo (.int (nI 6) :: st) E iv lv) : AW G μ R Z X z0 pc lo (.ref (gT G) :: st) E iv lv :=
  fun p e s m args below meth c H locs ls C q => va_tlen C.1 C.2.1 q.2.2.2.1.2.1 q.2.2.2.2.2.1 rfl hd (k p e s m args below meth c H locs ls C q)
theorem aw_tc {j : Nat} (hd : decode μ.2.1 pc = .ok (.caload, 1)) (hj : j < 6) (k : AW G μ R Z X z0 (pc + 1) lo (.int (LT j) :: st) E iv lv) : AW G μ R Z X z0 pc lo (.int (nI j) :: .ref (gT G) :: st) E iv lv :=
  fun p e s m args below meth c H locs ls C q => va_tc C.1 C.2.1 q.2.2.2.1.2.1 q.2.2.2.2.2.1 (vp_in_nI hj (by decide)) (by rw [nI_clamp (by omega)]) hd (k p e s m args below meth c H locs ls C q)
/-- the object that a reference names is of its tag's class -/
theorem aw_rcv {s : State} {H : Heap} {t a n : Nat} {q : vw_C} (h : wd G E iv lv s H) (hs : Sh G E a t n) (ht : t < 20) (hc : vwCl[t]? = some q) : ∃ cell : Cell, H[a]? = some cell ∧ cell.vm.isStatics = false ∧ s.vm.findClass q.1 = some cell.cls := by
  have h0 := h.2.1 a hs.1 hs.2.1
  rw [ce_o hs.2.2 ht] at h0
  exact va_recv (D := gD G) h.1 (one_P h0) hc (q0 := 0) rfl
theorem aw_instN {idx t a n : Nat} {q : vw_C} {nm : String} (hd : decode μ.2.1 pc = .ok (.instanceof idx, 3)) (hl : Cond.classLink μ.1.cls idx nm ∈ tb) (hs : Sh G E a t n) (ht : t < 20) (hc : vwCl[t]? = some q) (hn : (q.1, nm) ∈ ncL) (k : AW G μ R Z X z0 (pc + 3) lo (.int (nI 0) :: st) E iv lv) : AW G μ R Z X z0 pc lo (.ref a :: st) E iv lv :=
  fun p e s m args below meth c H locs ls C w => va_instNo C.1 C.2.1 C.2.2.2.2.2.1 (C.2.2.2.2.2.2.1 _ hl) (w.2.2.2.1.2.2.1 _ hn) (aw_rcv w.2.2.2.2.1 hs ht hc) hd (k p e s m args below meth c H locs ls C w)
theorem aw_instY {idx t a n : Nat} {q : vw_C} {nm : String} (hd : decode μ.2.1 pc = .ok (.instanceof idx, 3)) (hl : Cond.classLink μ.1.cls idx nm ∈ tb) (hs : Sh G E a t n) (ht : t < 20) (hc : vwCl[t]? = some q) (hn : (q.1, nm) ∈ ycL) (k : AW G μ R Z X z0 (pc + 3) lo (.int (nI 1) :: st) E iv lv) : AW G μ R Z X z0 pc lo (.ref a :: st) E iv lv :=
  fun p e s m args below meth c H locs ls C w => va_instY C.1 C.2.1 C.2.2.2.2.2.1 (C.2.2.2.2.2.2.1 _ hl) (w.2.2.2.1.2.2.2.1 _ hn) (aw_rcv w.2.2.2.2.1 hs ht hc) hd (k p e s m args below meth c H locs ls C w)
theorem aw_instS {idx t a n : Nat} {q : vw_C} (hd : decode μ.2.1 pc = .ok (.instanceof idx, 3)) (hl : Cond.classLink μ.1.cls idx q.1 ∈ tb) (hs : Sh G E a t n) (ht : t < 20) (hc : vwCl[t]? = some q) (k : AW G μ R Z X z0 (pc + 3) lo (.int (nI 1) :: st) E iv lv) : AW G μ R Z X z0 pc lo (.ref a :: st) E iv lv :=
  fun p e s m args below meth c H locs ls C w => va_instS C.1 C.2.1 C.2.2.2.2.2.1 (C.2.2.2.2.2.2.1 _ hl) (w.2.2.2.2.1.1.1 t q hc).2 (aw_rcv w.2.2.2.2.1 hs ht hc) hd (k p e s m args below meth c H locs ls C w)
end K36
