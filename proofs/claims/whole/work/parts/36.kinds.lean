/-! the letters; which kind one is -/
section K36
variable {G : GC} {μ : MI} {R : Room} {Z : List Frame → Array Value → State → State → Prop} {X : State → Prop} {z0 pc : Nat} {lo : List (Option Value)} {st : List Value} {E : SH} {iv : IV} {lv : LV}
theorem aw_lett {idx : Nat} (hd : decode μ.2.1 pc = .ok (.getstatic idx, 3)) (hl : Cond.fieldLink μ.1.cls idx RX5 "LETTERS" "[C" ∈ tb) (k : AW G μ R Z X z0 (pc + 3) lo (.ref (gT G) :: st) E iv lv) : AW G μ R Z X z0 pc lo st E iv lv :=
  fun p e s m args below meth c H locs ls C q => va_gets C.1 C.2.1 q.2.2.2.1.1 q.2.2.2.2.2.1 C.2.2.2.2.2.1 (C.2.2.2.2.2.2.1 _ hl) (fun _ h => h) hd (k p e s m args below meth c H locs ls C q)
theorem aw_tlen (hd : decode μ.2.1 pc = .ok (.arraylength, 1)) (k : AW G μ R Z X z0 (pc + 1) lo (.int (nI 6) :: st) E iv lv) : AW G μ R Z X z0 pc lo (.ref (gT G) :: st) E iv lv :=
  fun p e s m args below meth c H locs ls C q => va_tlen C.1 C.2.1 q.2.2.2.1.2.1 q.2.2.2.2.2.1 rfl hd (k p e s m args below meth c H locs ls C q)
theorem aw_tc {j : Nat} (hd : decode μ.2.1 pc = .ok (.caload, 1)) (hj : j < 6) (k : AW G μ R Z X z0 (pc + 1) lo (.int (LT j) :: st) E iv lv) : AW G μ R Z X z0 pc lo (.int (nI j) :: .ref (gT G) :: st) E iv lv :=
  fun p e s m args below meth c H locs ls C q => va_tc C.1 C.2.1 q.2.2.2.1.2.1 q.2.2.2.2.2.1 (vp_in_nI hj (by decide)) (by rw [nI_clamp (by omega)]) hd (k p e s m args below meth c H locs ls C q)
/-- the object that a reference names is of its tag's class -/
theorem aw_rcv {s : State} {H : Heap} {t a n : Nat} {q : vw_C} (h : wd G E iv lv s H) (hs : Sh G E a t n) (ht : t < 20) (hc : vwCl[t]? = some q) : ∃ cell : Cell, H[a]? = some cell ∧ cell.vm.isStatics = false ∧ s.vm.findClass q.1 = some cell.cls := by
  have h0 := h.2.1 a hs.1 hs.2.1
  rw [ce_o hs.2.2 ht] at h0
  exact va_recv (D := gD G) h.1 (one_P h0) hc (q0 := 0) rfl
theorem aw_instN {idx t a n : Nat} {q : vw_C} {nm : String} (hd : decode μ.2.1 pc = .ok (.instanceof idx, 3)) (hl : Cond.classLink μ.1.cls idx nm ∈ tb) (hs : Sh G E a t n) (ht : t < 20) (hc : vwCl[t]? = some q) (hn : (q.1, nm) ∈ ncL) (k : AW G μ R Z X z0 (pc + 3) lo (.int (nI 0) :: st) E iv lv) : AW G μ R Z X z0 pc lo (.ref a :: st) E iv lv :=
  fun p e s m args below meth c H locs ls C w => va_instNo C.1 C.2.1 C.2.2.2.2.2.1 (C.2.2.2.2.2.2.1 _ hl) (w.2.2.2.1.2.2.1 _ hn) (aw_rcv w.2.2.2.2.1 hs ht hc) hd (k p e s m args below meth c H locs ls C w)
theorem aw_instY {idx t a n : Nat} {q : vw_C} {nm : String} (hd : decode μ.2.1 pc = .ok (.instanceof idx, 3)) (hl : Cond.classLink μ.1.cls idx nm ∈ tb) (hs : Sh G E a t n) (ht : t < 20) (hc : vwCl[t]? = some q) (hn : (q.1, nm) ∈ ycL) (k : AW G μ R Z X z0 (pc + 3) lo (.int (nI 1) :: st) E iv lv) : AW G μ R Z X z0 pc lo (.ref a :: st) E iv lv :=
  fun p e s m args below meth c H locs ls C w => va_instY C.1 C.2.1 C.2.2.2.2.2.1 (C.2.2.2.2.2.2.1 _ hl) (w.2.2.2.1.2.2.2.1 _ hn) (aw_rcv w.2.2.2.2.1 hs ht hc) hd (k p e s m args below meth c H locs ls C w)
theorem aw_instS {idx t a n : Nat} {q : vw_C} (hd : decode μ.2.1 pc = .ok (.instanceof idx, 3)) (hl : Cond.classLink μ.1.cls idx q.1 ∈ tb) (hs : Sh G E a t n) (ht : t < 20) (hc : vwCl[t]? = some q) (k : AW G μ R Z X z0 (pc + 3) lo (.int (nI 1) :: st) E iv lv) : AW G μ R Z X z0 pc lo (.ref a :: st) E iv lv :=
  fun p e s m args below meth c H locs ls C w => va_instS C.1 C.2.1 C.2.2.2.2.2.1 (C.2.2.2.2.2.2.1 _ hl) (w.2.2.2.2.1.1.1 t q hc).2 (aw_rcv w.2.2.2.2.1 hs ht hc) hd (k p e s m args below meth c H locs ls C w)
def kn (q : Nat) : String := match q with
  | 1 => RX1 | 2 => RX8 | 3 => RX6 | 4 => RX4 | _ => RX0
abbrev isK (k q : Nat) : Prop := k = q ∨ (k = 4 ∧ q = 1) ∨ (k = 5 ∧ q = 2)
theorem aw_instK {idx k q a : Nat} (hd : decode μ.2.1 pc = .ok (.instanceof idx, 3)) (hk : k < 6) (h1 : 1 ≤ q) (h5 : q ≤ 5) (hl : Cond.classLink μ.1.cls idx (kn q) ∈ tb) (hs : Sh G E a (sbt k) 0) (kk : AW G μ R Z X z0 (pc + 3) lo (.int (zI (isK k q)) :: st) E iv lv) : AW G μ R Z X z0 pc lo (.ref a :: st) E iv lv := by
  rcases (show k = 0 ∨ k = 1 ∨ k = 2 ∨ k = 3 ∨ k = 4 ∨ k = 5 by omega) with rfl | rfl | rfl | rfl | rfl | rfl
  · rcases (show q = 1 ∨ q = 2 ∨ q = 3 ∨ q = 4 ∨ q = 5 by omega) with rfl | rfl | rfl | rfl | rfl
    · exact aw_instN hd hl hs (by decide) rfl (List.mem_of_getElem? (i := 0) rfl) (by rw [show zI (isK 0 1) = nI 0 from zI_f (by unfold isK; omega)] at kk; exact kk)
    · exact aw_instN hd hl hs (by decide) rfl (List.mem_of_getElem? (i := 1) rfl) (by rw [show zI (isK 0 2) = nI 0 from zI_f (by unfold isK; omega)] at kk; exact kk)
    · exact aw_instN hd hl hs (by decide) rfl (List.mem_of_getElem? (i := 2) rfl) (by rw [show zI (isK 0 3) = nI 0 from zI_f (by unfold isK; omega)] at kk; exact kk)
    · exact aw_instN hd hl hs (by decide) rfl (List.mem_of_getElem? (i := 3) rfl) (by rw [show zI (isK 0 4) = nI 0 from zI_f (by unfold isK; omega)] at kk; exact kk)
    · exact aw_instN hd hl hs (by decide) rfl (List.mem_of_getElem? (i := 4) rfl) (by rw [show zI (isK 0 5) = nI 0 from zI_f (by unfold isK; omega)] at kk; exact kk)
  · rcases (show q = 1 ∨ q = 2 ∨ q = 3 ∨ q = 4 ∨ q = 5 by omega) with rfl | rfl | rfl | rfl | rfl
    · exact aw_instS hd hl hs (by decide) rfl (by rw [show zI (isK 1 1) = nI 1 from zI_t (by unfold isK; omega)] at kk; exact kk)
    · exact aw_instN hd hl hs (by decide) rfl (List.mem_of_getElem? (i := 5) rfl) (by rw [show zI (isK 1 2) = nI 0 from zI_f (by unfold isK; omega)] at kk; exact kk)
    · exact aw_instN hd hl hs (by decide) rfl (List.mem_of_getElem? (i := 6) rfl) (by rw [show zI (isK 1 3) = nI 0 from zI_f (by unfold isK; omega)] at kk; exact kk)
    · exact aw_instN hd hl hs (by decide) rfl (List.mem_of_getElem? (i := 7) rfl) (by rw [show zI (isK 1 4) = nI 0 from zI_f (by unfold isK; omega)] at kk; exact kk)
    · exact aw_instN hd hl hs (by decide) rfl (List.mem_of_getElem? (i := 8) rfl) (by rw [show zI (isK 1 5) = nI 0 from zI_f (by unfold isK; omega)] at kk; exact kk)
  · rcases (show q = 1 ∨ q = 2 ∨ q = 3 ∨ q = 4 ∨ q = 5 by omega) with rfl | rfl | rfl | rfl | rfl
    · exact aw_instN hd hl hs (by decide) rfl (List.mem_of_getElem? (i := 9) rfl) (by rw [show zI (isK 2 1) = nI 0 from zI_f (by unfold isK; omega)] at kk; exact kk)
    · exact aw_instS hd hl hs (by decide) rfl (by rw [show zI (isK 2 2) = nI 1 from zI_t (by unfold isK; omega)] at kk; exact kk)
    · exact aw_instN hd hl hs (by decide) rfl (List.mem_of_getElem? (i := 10) rfl) (by rw [show zI (isK 2 3) = nI 0 from zI_f (by unfold isK; omega)] at kk; exact kk)
    · exact aw_instN hd hl hs (by decide) rfl (List.mem_of_getElem? (i := 11) rfl) (by rw [show zI (isK 2 4) = nI 0 from zI_f (by unfold isK; omega)] at kk; exact kk)
    · exact aw_instN hd hl hs (by decide) rfl (List.mem_of_getElem? (i := 12) rfl) (by rw [show zI (isK 2 5) = nI 0 from zI_f (by unfold isK; omega)] at kk; exact kk)
  · rcases (show q = 1 ∨ q = 2 ∨ q = 3 ∨ q = 4 ∨ q = 5 by omega) with rfl | rfl | rfl | rfl | rfl
    · exact aw_instN hd hl hs (by decide) rfl (List.mem_of_getElem? (i := 13) rfl) (by rw [show zI (isK 3 1) = nI 0 from zI_f (by unfold isK; omega)] at kk; exact kk)
    · exact aw_instN hd hl hs (by decide) rfl (List.mem_of_getElem? (i := 14) rfl) (by rw [show zI (isK 3 2) = nI 0 from zI_f (by unfold isK; omega)] at kk; exact kk)
    · exact aw_instS hd hl hs (by decide) rfl (by rw [show zI (isK 3 3) = nI 1 from zI_t (by unfold isK; omega)] at kk; exact kk)
    · exact aw_instN hd hl hs (by decide) rfl (List.mem_of_getElem? (i := 15) rfl) (by rw [show zI (isK 3 4) = nI 0 from zI_f (by unfold isK; omega)] at kk; exact kk)
    · exact aw_instN hd hl hs (by decide) rfl (List.mem_of_getElem? (i := 16) rfl) (by rw [show zI (isK 3 5) = nI 0 from zI_f (by unfold isK; omega)] at kk; exact kk)
  · rcases (show q = 1 ∨ q = 2 ∨ q = 3 ∨ q = 4 ∨ q = 5 by omega) with rfl | rfl | rfl | rfl | rfl
    · exact aw_instY hd hl hs (by decide) rfl (List.mem_of_getElem? (i := 0) rfl) (by rw [show zI (isK 4 1) = nI 1 from zI_t (by unfold isK; omega)] at kk; exact kk)
    · exact aw_instN hd hl hs (by decide) rfl (List.mem_of_getElem? (i := 17) rfl) (by rw [show zI (isK 4 2) = nI 0 from zI_f (by unfold isK; omega)] at kk; exact kk)
    · exact aw_instN hd hl hs (by decide) rfl (List.mem_of_getElem? (i := 18) rfl) (by rw [show zI (isK 4 3) = nI 0 from zI_f (by unfold isK; omega)] at kk; exact kk)
    · exact aw_instS hd hl hs (by decide) rfl (by rw [show zI (isK 4 4) = nI 1 from zI_t (by unfold isK; omega)] at kk; exact kk)
    · exact aw_instN hd hl hs (by decide) rfl (List.mem_of_getElem? (i := 19) rfl) (by rw [show zI (isK 4 5) = nI 0 from zI_f (by unfold isK; omega)] at kk; exact kk)
  · rcases (show q = 1 ∨ q = 2 ∨ q = 3 ∨ q = 4 ∨ q = 5 by omega) with rfl | rfl | rfl | rfl | rfl
    · exact aw_instN hd hl hs (by decide) rfl (List.mem_of_getElem? (i := 20) rfl) (by rw [show zI (isK 5 1) = nI 0 from zI_f (by unfold isK; omega)] at kk; exact kk)
    · exact aw_instY hd hl hs (by decide) rfl (List.mem_of_getElem? (i := 1) rfl) (by rw [show zI (isK 5 2) = nI 1 from zI_t (by unfold isK; omega)] at kk; exact kk)
    · exact aw_instN hd hl hs (by decide) rfl (List.mem_of_getElem? (i := 21) rfl) (by rw [show zI (isK 5 3) = nI 0 from zI_f (by unfold isK; omega)] at kk; exact kk)
    · exact aw_instN hd hl hs (by decide) rfl (List.mem_of_getElem? (i := 22) rfl) (by rw [show zI (isK 5 4) = nI 0 from zI_f (by unfold isK; omega)] at kk; exact kk)
    · exact aw_instS hd hl hs (by decide) rfl (by rw [show zI (isK 5 5) = nI 1 from zI_t (by unfold isK; omega)] at kk; exact kk)
end K36
theorem wl_let : Cond.fieldLink RX5 42 RX5 "LETTERS" "[C" ∈ tb := tb_at (i := 418) (by decide +kernel) rfl
theorem wk_1 : Cond.classLink RX10 290 (kn 1) ∈ tb := tb_at (i := 505) (by decide +kernel) rfl
theorem wk_2 : Cond.classLink RX10 292 (kn 2) ∈ tb := tb_at (i := 506) (by decide +kernel) rfl
theorem wk_3 : Cond.classLink RX10 294 (kn 3) ∈ tb := tb_at (i := 507) (by decide +kernel) rfl
theorem wk_4 : Cond.classLink RX10 296 (kn 4) ∈ tb := tb_at (i := 508) (by decide +kernel) rfl
theorem wk_5 : Cond.classLink RX10 298 (kn 5) ∈ tb := tb_at (i := 509) (by decide +kernel) rfl
theorem e_isOfKind {G : GC} {E : SH} {iv : IV} {lv : LV} {X b k q : Nat} (hk : k < 6) (h1 : 1 ≤ q) (h5 : q ≤ 5) (hb : Sh G E b (sbt k) 0) : ExI G mX10_isOfKind 1 [.ref X, .ref b, .int (nI q)] E iv lv (zI (isK k q)) iv lv := by
  refine spec0_of (lo := [_,_,_]) (by decide) (Nat.le_of_ble_eq_true rfl) rfl ?_
  refine aw_iload_n dX10_isOfKind_0 rfl ?_
  rcases (show q = 1 ∨ q = 2 ∨ q = 3 ∨ q = 4 ∨ q = 5 from by omega) with rfl | rfl | rfl | rfl | rfl
  · refine aw_tableIn (off := 35) (tgt := 36) dX10_isOfKind_1 (by decide) (by decide) (by decide) rfl ?_
    refine aw_aload_n dX10_isOfKind_36 rfl ?_
    refine aw_instK dX10_isOfKind_37 hk (by decide) (by decide) wk_1 hb ?_
    refine aw_zret dX10_isOfKind_40 rfl (zI_n _) (rb0 (Nat.zero_le _)) ⟨rfl, _, rfl, rfl, rfl, rfl⟩
  · refine aw_tableIn (off := 40) (tgt := 41) dX10_isOfKind_1 (by decide) (by decide) (by decide) rfl ?_
    refine aw_aload_n dX10_isOfKind_41 rfl ?_
    refine aw_instK dX10_isOfKind_42 hk (by decide) (by decide) wk_2 hb ?_
    refine aw_zret dX10_isOfKind_45 rfl (zI_n _) (rb0 (Nat.zero_le _)) ⟨rfl, _, rfl, rfl, rfl, rfl⟩
  · refine aw_tableIn (off := 45) (tgt := 46) dX10_isOfKind_1 (by decide) (by decide) (by decide) rfl ?_
    refine aw_aload_n dX10_isOfKind_46 rfl ?_
    refine aw_instK dX10_isOfKind_47 hk (by decide) (by decide) wk_3 hb ?_
    refine aw_zret dX10_isOfKind_50 rfl (zI_n _) (rb0 (Nat.zero_le _)) ⟨rfl, _, rfl, rfl, rfl, rfl⟩
  · refine aw_tableIn (off := 50) (tgt := 51) dX10_isOfKind_1 (by decide) (by decide) (by decide) rfl ?_
    refine aw_aload_n dX10_isOfKind_51 rfl ?_
    refine aw_instK dX10_isOfKind_52 hk (by decide) (by decide) wk_4 hb ?_
    refine aw_zret dX10_isOfKind_55 rfl (zI_n _) (rb0 (Nat.zero_le _)) ⟨rfl, _, rfl, rfl, rfl, rfl⟩
  · refine aw_tableIn (off := 55) (tgt := 56) dX10_isOfKind_1 (by decide) (by decide) (by decide) rfl ?_
    refine aw_aload_n dX10_isOfKind_56 rfl ?_
    refine aw_instK dX10_isOfKind_57 hk (by decide) (by decide) wk_5 hb ?_
    refine aw_zret dX10_isOfKind_60 rfl (zI_n _) (rb0 (Nat.zero_le _)) ⟨rfl, _, rfl, rfl, rfl, rfl⟩
theorem ltk : ∀ j, j < 6 → ∀ i, i < j → LT i ≠ LT j := by decide
/-- the kind that a letter is -/
def kdO (x : Int32) : Option Nat := if x = 110 then some 0 else if x = 100 then some 1 else if x = 115 then some 2 else if x = 104 then some 3 else if x = 112 then some 4 else if x = 98 then some 5 else none
