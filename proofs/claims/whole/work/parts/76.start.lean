/-! THE LAW, from its entry -/
theorem law_start {G : GC} {E : SH} {b L X : Nat} {xs : Nat → Int32} {nm : String} {iv : IV} {lv : LV} (hL : L ≤ 3072) (hE0 : E.1 = X) (hB : gB G ≤ X) : AW G (mLw nm) room_1 ZL (XL G b L xs) X 0 [some (.ref b), none, none, none] [] E iv lv := by
  refine aw_new (e := X) dL_law_0 hE0 ckL_7 is_10 in_AshGreetings cfX10 df_10 (by decide) (rbL (by omega) (by decide) (by decide)) ?_
  refine aw_dup dL_law_3 rfl ?_
  refine aw_callI (mc := 137) [] dL_law_4 ciL_9 (c_main (CS_new (t := 10) hE0 hB)) rfl rfl (Nat.le_of_ble_eq_true rfl) (rbL (by show X + 1 + 137 ≤ X + 200; omega) (by decide) (by decide)) (fun _ _ _ _ q => q.2.1) (fun r E2 iv2 lv2 hq => ?_)
  obtain ⟨rfl, h1⟩ := hq
  refine aw_astore_n (lo' := [_,_,_,_]) dL_law_7 (Nat.le_of_ble_eq_true rfl) rfl ?_
  have hE2 : E2.1 = X + 138 := h1.1
  refine aw_new (e := X + 138) dL_law_8 hE2 ckL_10 is_11 in_AshGreetingsModel cfX11 df_11 (by decide) (rbL (by omega) (by decide) (by decide)) ?_
  refine aw_dup dL_law_11 rfl ?_
  refine aw_callI (mc := 17) [] dL_law_12 ciL_12 (c_model (CS_new (t := 11) hE2 (Nat.le_trans hB (Nat.le_add_right _ _)))) rfl rfl (Nat.le_of_ble_eq_true rfl) (rbL (by show X + 138 + 1 + 17 ≤ X + 200; omega) (by decide) (by decide)) (fun _ _ _ _ q => q.2.1) (fun r E4 iv4 lv4 hq => ?_)
  obtain ⟨rfl, h2⟩ := hq
  refine aw_astore_n (lo' := [_,_,_,_]) dL_law_15 (Nat.le_of_ble_eq_true rfl) rfl ?_
  refine aw_iconst (v := nI 0) dL_law_16 kc_0 ?_
  refine aw_istore_n (lo' := [_,_,_,_]) dL_law_17 (Nat.le_of_ble_eq_true rfl) rfl ?_
  obtain ⟨hX, hM, hE4, hI⟩ := init_inv h1 h2
  exact law_loop hX hM hE4 hL L 0 A0 D0 T0 iv4 lv4 (by omega) (Nat.zero_le _) hI
def tyL : List FieldType := [.int, .byte, .object RX7, .object RX9, .object RX2, .array .int]
theorem arr_known {s : State} {args : Array Value} (hts : ∀ w ∈ lw_tbl, w.before args s = true) (ho : ∀ C ∈ aoL, va_AO C s) (hi : AI s) : ∀ k : Nat, ∃ cA : ClassId, ∀ ty, tyL[k]? = some ty → ArrOfT s cA ty ∧ va_RA s cA ty := by
  have prim : ∀ ty : FieldType, (Cond.arrayClass ty).before args s = true → ∃ cA : ClassId, ArrOfT s cA ty ∧ s.vm.findClass ("[" ++ ty.toString) = some cA := fun ty h => by
    obtain ⟨c, k, comp, h1, h2, h3⟩ := Cond.arrayClass_spec h
    exact ⟨c, fun n z => ⟨fun k h => (by cases h), k, h2, comp, h3⟩, h1⟩
  have obj : ∀ C ∈ aoL, ∃ cA : ClassId, ArrOfT s cA (.object C) ∧ va_RA s cA (.object C) := fun C hC => by
    obtain ⟨comp, c, k, h1, h2, h3, h4, h5⟩ := Cond.arrayOver_spec (ho C hC)
    exact ⟨c, fun n z => ⟨fun k h => (by cases h), k, h3, comp, h4⟩, k, comp, h3, h4, h1, h5⟩
  intro k
  match k with
  | 0 =>
    obtain ⟨c, h1, h2⟩ := prim .int (hts _ (tb_lw ac_int))
    exact ⟨c, fun ty e => by cases e; exact ⟨h1, h2⟩⟩
  | 1 =>
    obtain ⟨c, h1, h2⟩ := prim .byte (hts _ (tb_lw ac_byte))
    exact ⟨c, fun ty e => by cases e; exact ⟨h1, h2⟩⟩
  | 2 =>
    obtain ⟨c, h⟩ := obj RX7 (List.mem_of_getElem? (i := 0) rfl)
    exact ⟨c, fun ty e => by cases e; exact h⟩
  | 3 =>
    obtain ⟨c, h⟩ := obj RX9 (List.mem_of_getElem? (i := 1) rfl)
    exact ⟨c, fun ty e => by cases e; exact h⟩
  | 4 =>
    obtain ⟨c, h⟩ := obj RX2 (List.mem_of_getElem? (i := 2) rfl)
    exact ⟨c, fun ty e => by cases e; exact h⟩
  | 5 =>
    obtain ⟨comp, c, k, -, h3, h4, h5⟩ := mq_a hi
    exact ⟨c, fun ty e => by cases e; exact ⟨fun n z => ⟨fun k h => (by cases h), k, h3, comp, h4⟩, h5⟩⟩
  | k + 6 => exact ⟨default, fun ty e => by simp [tyL] at e⟩
theorem cls_known {s : State} {args : Array Value} (hts : ∀ w ∈ lw_tbl, w.before args s = true) : ∀ k : Nat, ∃ (cC : ClassId) (iS : Nat → Nat), ∀ q : vw_C, vwCl[k]? = some q → u_Kn s q.1 q.2.1 q.2.2 cC iS := by
  have one : ∀ {t : Nat} {C : String} {T : u_T} {N : Nat}, CF t C T N → Cond.instantiable C N ∈ tb → ∃ (cC : ClassId) (iS : Nat → Nat), ∀ q : vw_C, some (C, T, N) = some q → u_Kn s q.1 q.2.1 q.2.2 cC iS := fun hcf hi => by
    obtain ⟨cC, iS, h⟩ := u_known hts (fun w hw => tb_lw (hcf.2.2.2.1 w hw)) (hts _ (tb_lw hi))
    exact ⟨cC, iS, fun q e => by cases e; exact h⟩
  intro k
  match k with
  | 0 => exact one cfX0 is_0
  | 1 => exact one cfX1 is_1
  | 2 => exact one cfX2 is_2
  | 3 => exact one cfX3 is_3
  | 4 => exact one cfX4 is_4
  | 5 => exact one cfX5 is_5
  | 6 => exact one cfX6 is_6
  | 7 => exact one cfX7 is_7
  | 8 => exact one cfX8 is_8
  | 9 => exact one cfX9 is_9
  | 10 => exact one cfX10 is_10
  | 11 => exact one cfX11 is_11
  | k + 12 => exact ⟨default, fun _ => 0, fun q e => by simp [vwCl] at e⟩
theorem xc_of {s : State} {args : Array Value} (hts : ∀ w ∈ lw_tbl, w.before args s = true) : xC s := by
  refine ⟨?_, ?_, ?_, ?_⟩
  · have key : ∀ q ∈ ycL, Cond.castable q.1 q.2 ∈ lw_tbl := by
      refine List.forall_mem_cons.mpr ⟨List.mem_of_getElem? (i := 1292) (by decide +kernel), List.forall_mem_cons.mpr ⟨List.mem_of_getElem? (i := 1293) (by decide +kernel), List.forall_mem_cons.mpr ⟨List.mem_of_getElem? (i := 1294) (by decide +kernel), List.forall_mem_cons.mpr ⟨List.mem_of_getElem? (i := 1295) (by decide +kernel), List.forall_mem_cons.mpr ⟨List.mem_of_getElem? (i := 1296) (by decide +kernel), List.forall_mem_cons.mpr ⟨List.mem_of_getElem? (i := 1297) (by decide +kernel), List.forall_mem_cons.mpr ⟨List.mem_of_getElem? (i := 1298) (by decide +kernel), fun _ h => absurd h List.not_mem_nil⟩⟩⟩⟩⟩⟩⟩
    exact fun q hq => va_Nw.of rfl (hts _ (key q hq))
  · have key : ∀ C ∈ aoL, Cond.arrayOver (.object C) ∈ lw_tbl := by
      refine List.forall_mem_cons.mpr ⟨List.mem_of_getElem? (i := 89) (by decide +kernel), List.forall_mem_cons.mpr ⟨List.mem_of_getElem? (i := 217) (by decide +kernel), List.forall_mem_cons.mpr ⟨List.mem_of_getElem? (i := 112) (by decide +kernel), fun _ h => absurd h List.not_mem_nil⟩⟩⟩
    exact fun C hC => va_AO.of (hts _ (key C hC))
  · exact hts (.arrayOver (.array .int)) (List.mem_of_getElem? (i := 227) (by decide +kernel))
  · have key : ∀ q ∈ nkL, Cond.methodLinkNest q.1 q.2.1 q.2.2.1 q.2.2.2 ∈ lw_tbl := List.forall_mem_cons.mpr ⟨List.mem_of_getElem? (i := 747) (by decide +kernel), fun _ h => absurd h List.not_mem_nil⟩
    exact fun q hq => va_Nw.of rfl (hts _ (key q hq))
theorem nc_of {s : State} {args : Array Value} (hs : ∀ c ∈ flatC (Jvm.Cond.and given_1 narrow_1), c.before args s = true) : ∀ q ∈ ncL, va_Nc q.1 q.2 s := by
  have key : ncL.all (fun q => decide (Cond.not (.castable q.1 q.2) ∈ flatC (Jvm.Cond.and given_1 narrow_1))) = true := by decide +kernel
  exact fun q hq => va_Nc.of (hs _ (of_decide_eq_true (List.all_eq_true.mp key q hq)))
theorem let_of {s : State} {args : Array Value} (hts : ∀ w ∈ lw_tbl, w.before args s = true) (hs : ∀ c ∈ flatC (Jvm.Cond.and given_1 narrow_1), c.before args s = true) : ∃ t : Nat, va_Z RX5 "LETTERS" "[C" (.ref t) (fun q => s.heap.size ≤ q) s s.heap ∧ va_T .char t 6 (fun j => .int (LT j)) (fun q => s.heap.size ≤ q) s s.heap := by
  have hA : ∀ a : Nat, a < s.heap.size → ¬ (fun q => s.heap.size ≤ q) a := fun a ha => Nat.not_le.mpr ha
  have hlen : (Term.length (.static "AshGreetings$Reading" "LETTERS" "[C")).eval args s none [] s = some (.int (Int32.ofNat 6)) := va_eqv (hs (.eq (.length (.static "AshGreetings$Reading" "LETTERS" "[C")) (.int 6)) (by decide +kernel)) rfl
  have hel : ∀ j : Nat, j < 6 → (Term.elem (.static "AshGreetings$Reading" "LETTERS" "[C") (.int (Int32.ofNat j))).eval args s none [] s = some (.int (LT j)) := fun j hj => by
    rcases (show j = 0 ∨ j = 1 ∨ j = 2 ∨ j = 3 ∨ j = 4 ∨ j = 5 by omega) with rfl | rfl | rfl | rfl | rfl | rfl
    · exact va_eqv (hs (.eq (.elem (.static "AshGreetings$Reading" "LETTERS" "[C") (.int 0)) (.int 110)) (by decide +kernel)) rfl
    · exact va_eqv (hs (.eq (.elem (.static "AshGreetings$Reading" "LETTERS" "[C") (.int 1)) (.int 100)) (by decide +kernel)) rfl
    · exact va_eqv (hs (.eq (.elem (.static "AshGreetings$Reading" "LETTERS" "[C") (.int 2)) (.int 115)) (by decide +kernel)) rfl
    · exact va_eqv (hs (.eq (.elem (.static "AshGreetings$Reading" "LETTERS" "[C") (.int 3)) (.int 104)) (by decide +kernel)) rfl
    · exact va_eqv (hs (.eq (.elem (.static "AshGreetings$Reading" "LETTERS" "[C") (.int 4)) (.int 112)) (by decide +kernel)) rfl
    · exact va_eqv (hs (.eq (.elem (.static "AshGreetings$Reading" "LETTERS" "[C") (.int 5)) (.int 98)) (by decide +kernel)) rfl
  obtain ⟨t, ht, hT⟩ := va_Tof (ty := .char) (N := 6) (f := fun j => .int (LT j)) (by decide) (hs (.arrayOf (.static "AshGreetings$Reading" "LETTERS" "[C") .char) (by decide +kernel)) hlen hel hA
  exact ⟨t, va_Zof (hts (.laysStatic "AshGreetings$Reading" "LETTERS" "[C") (List.mem_of_getElem? (i := 419) (by decide +kernel))) (hts (.initialized "AshGreetings$Reading") (List.mem_of_getElem? (i := 66) (by decide +kernel))) ht hA, hT⟩
/-- YOUR PART: from the entry, for every script of at most 3072 ints, the law comes to its end with true -/
theorem whole_start {p : Program} {e : Env} {s : State} {m : MethodId} {below : List Frame} {meth : Method} {c : Code} (l : Launch) (hflags : l.flags = flags0) {b L : Nat} {xs : Nat → Int32} (hL : L ≤ 3072) (C0 : lw_At p s m meth c b L xs) : W p l e room_1 s m #[Value.ref b] below meth c s.heap [] 0 0 (lw_Z below #[Value.ref b] s) (entryFrame m ([Value.ref b] : List Value).toArray 4) := by
  obtain ⟨hx, hb, hr, hml, hown, hts, hX, hbl, hlocks, hgv⟩ := C0
  have hs := flat_of_before _ hgv
  have hxc := xc_of hts
  obtain ⟨t, hZ, hTt⟩ := let_of hts hs
  have hcl := cls_known hts
  have har := arr_known hts hxc.2.1 hxc.2.2.1
  have hK : va_K (fun k => (hcl k).choose, fun k => (hcl k).choose_spec.choose) vwCl (tysA (fun k => (har k).choose)) s := by
    refine ⟨fun k q hq => (hcl k).choose_spec.choose_spec q hq, fun k q hq => ?_⟩
    match k, hq with
    | 0, hq => cases hq; exact (har 0).choose_spec _ rfl
    | 1, hq => cases hq; exact (har 1).choose_spec _ rfl
    | 2, hq => cases hq; exact (har 2).choose_spec _ rfl
    | 3, hq => cases hq; exact (har 3).choose_spec _ rfl
    | 4, hq => cases hq; exact (har 4).choose_spec _ rfl
    | 5, hq => cases hq; exact (har 5).choose_spec _ rfl
    | k + 6, hq => simp [tysA] at hq
  have hl := lv_entry ([.ref b]) (n := 4) (Nat.le_of_ble_eq_true rfl)
  rw [lg_entry_eq]
  generalize (lg_sl ([.ref b]) ++ List.replicate (4 - (lg_sl ([.ref b])).length) Slot.unset).toArray = ls at hl ⊢
  have ha : aL ls [some (.ref b), none, none, none] := by
    refine ⟨hl.1, hl.2.1, fun i v hi => ?_⟩
    match i, hi with
    | 0, hi => cases hi; exact hl.2.2 (0, .ref b) List.mem_cons_self
    | 1, hi => cases hi
    | 2, hi => cases hi
    | 3, hi => cases hi
    | i + 4, hi => simp at hi
  have hk := law_start (G := (l, fun k => (hcl k).choose, fun k => (hcl k).choose_spec.choose, fun k => (har k).choose, s.heap.size, t)) (E := (s.heap.size, fun _ => (0, 0), fun _ _ => none)) (b := b) (xs := xs) (nm := meth.name) (iv := fun _ _ => 0) (lv := fun _ _ => 0) hL rfl (Nat.le_refl s.heap.size) p e s m #[Value.ref b] below meth c s.heap [] ls ⟨hx, hb, hml, hr, hlocks, hown, fun w hw => hts w (tb_lw hw), rfl⟩ ⟨⟨hX, hbl, rfl⟩, rfl, Nat.le_refl _, ⟨hZ, hTt, nc_of hs, hxc⟩, ⟨hK, fun a h1 h2 => absurd h1 (Nat.not_le.mpr h2), rfl, Nat.le_refl _⟩, va_S.rf, ha, rfl⟩
  rw [Nat.sub_self, Nat.mul_zero] at hk
  exact hk
