/-! reading a text, sign by sign -/
def oM (q : Option Nat) : Int32 := match q with
  | none => -1
  | some k => nI k
def figO (x : Int32) (most : Nat) : Option Nat := if 0 ≤ x - nI 48 ∧ x - nI 48 ≤ nI most then some (ix (x - nI 48)) else none
def vlO (n : Nat) (x : Int32) : Option Nat := if 40 ≤ n then none else if n < 5 then figO x 9 else if n % 5 = 0 then kdO x else figO x (if n % 5 = 4 then 4 else 9)
abbrev PS : Type := Nat × (Nat → Nat)
def psS (st : PS) (x : Int32) : Option PS := if x = nI 32 ∧ st.1 % 5 = 0 then some st else match vlO st.1 x with
  | none => none
  | some w => some (st.1 + 1, va_up st.2 st.1 w)
def psR (g : Nat → Int32) : Nat → Nat ⊕ PS
  | 0 => .inr (0, fun _ => 0)
  | p + 1 => match psR g p with
    | .inl f => .inl f
    | .inr st => match psS st (g p) with
      | none => .inl p
      | some st' => .inr st'
def psF (g : Nat → Int32) (k : Nat) : Int32 := match psR g k with
  | .inl f => nI f
  | .inr st => if st.1 % 5 = 0 ∧ 15 ≤ st.1 then -9 else nI k
theorem psR_l {g : Nat → Int32} {p f : Nat} (h : psR g p = .inl f) : ∀ c, psR g (p + c) = .inl f
  | 0 => h
  | c + 1 => by
    show (match psR g (p + c) with
      | .inl f => (.inl f : Nat ⊕ PS)
      | .inr st => match psS st (g (p + c)) with
        | none => .inl (p + c)
        | some st' => .inr st') = _
    rw [psR_l h c]
theorem psR_n {g : Nat → Int32} {p : Nat} {st : PS} (h : psR g p = .inr st) (h2 : psS st (g p) = none) : psR g (p + 1) = .inl p := by
  show (match psR g p with
      | .inl f => (.inl f : Nat ⊕ PS)
      | .inr st => match psS st (g p) with
        | none => .inl p
        | some st' => .inr st') = _
  rw [h]
  show (match psS st (g p) with
        | none => (.inl p : Nat ⊕ PS)
        | some st' => .inr st') = _
  rw [h2]
theorem psR_s {g : Nat → Int32} {p : Nat} {st st' : PS} (h : psR g p = .inr st) (h2 : psS st (g p) = some st') : psR g (p + 1) = .inr st' := by
  show (match psR g p with
      | .inl f => (.inl f : Nat ⊕ PS)
      | .inr st => match psS st (g p) with
        | none => .inl p
        | some st' => .inr st') = _
  rw [h]
  show (match psS st (g p) with
        | none => (.inl p : Nat ⊕ PS)
        | some st' => .inr st') = _
  rw [h2]
theorem kdO_j : ∀ j, j < 6 → kdO (LT j) = some j := by decide
theorem kdO_n {x : Int32} (h : ∀ i, i < 6 → LT i ≠ x) : kdO x = none := by
  unfold kdO
  rw [if_neg (fun e => h 0 (by decide) e.symm), if_neg (fun e => h 1 (by decide) e.symm), if_neg (fun e => h 2 (by decide) e.symm), if_neg (fun e => h 3 (by decide) e.symm), if_neg (fun e => h 4 (by decide) e.symm), if_neg (fun e => h 5 (by decide) e.symm)]
theorem e_figure {G : GC} {E : SH} {iv : IV} {lv : LV} (x : Int32) {most : Nat} (hm : most ≤ 9) : ExI G mX5_figure 1 [.int x, .int (nI most)] E iv lv (oM (figO x most)) iv lv := by
  refine spec0_of (lo := [_,_,_]) (by decide) (Nat.le_of_ble_eq_true rfl) rfl ?_
  refine aw_iload_n dX5_figure_0 rfl ?_
  refine aw_bipush (v := nI 48) dX5_figure_1 kb_48 ?_
  refine aw_isub dX5_figure_3 ?_
  refine aw_istore_n (lo' := [_,_,_]) dX5_figure_4 (Nat.le_of_ble_eq_true rfl) rfl ?_
  refine aw_iload_n dX5_figure_5 rfl ?_
  refine aw_if_lt (tgt := 18) dX5_figure_6 rfl (fun h6 => ?_) (fun h6 => ?_)
  · refine aw_iconst (v := (-1)) dX5_figure_18 kc_m1 ?_
    refine aw_iret dX5_figure_19 rfl (rb0 (Nat.zero_le _)) ⟨rfl, _, rfl, ?_, rfl, rfl⟩
    unfold figO
    first
      | (rw [if_neg (fun q => absurd q.1 (Int32.not_le.mpr h6))]; rfl)
      | (rw [if_neg (fun q => absurd q.2 (Int32.not_le.mpr h11))]; rfl)
      | (obtain ⟨j, hj, e⟩ := ix_le (n := x - nI 48) (k := most) h6 h11 (by omega)
         rw [if_pos ⟨Int32.not_lt.mp h6, Int32.not_lt.mp h11⟩, e, ix_nI (by omega)]; rfl)
  · refine aw_iload_n dX5_figure_9 rfl ?_
    refine aw_iload_n dX5_figure_10 rfl ?_
    refine aw_icmp_gt (tgt := 18) dX5_figure_11 rfl (fun h11 => ?_) (fun h11 => ?_)
    · refine aw_iconst (v := (-1)) dX5_figure_18 kc_m1 ?_
      refine aw_iret dX5_figure_19 rfl (rb0 (Nat.zero_le _)) ⟨rfl, _, rfl, ?_, rfl, rfl⟩
      unfold figO
      first
        | (rw [if_neg (fun q => absurd q.1 (Int32.not_le.mpr h6))]; rfl)
        | (rw [if_neg (fun q => absurd q.2 (Int32.not_le.mpr h11))]; rfl)
        | (obtain ⟨j, hj, e⟩ := ix_le (n := x - nI 48) (k := most) h6 h11 (by omega)
           rw [if_pos ⟨Int32.not_lt.mp h6, Int32.not_lt.mp h11⟩, e, ix_nI (by omega)]; rfl)
    · refine aw_iload_n dX5_figure_14 rfl ?_
      refine aw_goto (tgt := 19) dX5_figure_15 rfl ?_
      refine aw_iret dX5_figure_19 rfl (rb0 (Nat.zero_le _)) ⟨rfl, _, rfl, ?_, rfl, rfl⟩
      unfold figO
      first
        | (rw [if_neg (fun q => absurd q.1 (Int32.not_le.mpr h6))]; rfl)
        | (rw [if_neg (fun q => absurd q.2 (Int32.not_le.mpr h11))]; rfl)
        | (obtain ⟨j, hj, e⟩ := ix_le (n := x - nI 48) (k := most) h6 h11 (by omega)
           rw [if_pos ⟨Int32.not_lt.mp h6, Int32.not_lt.mp h11⟩, e, ix_nI (by omega)]; rfl)
theorem lo_kindOf {G : GC} {E : SH} {iv : IV} {lv : LV} {x : Int32} : ∀ (c j : Nat), j + c = 6 → (∀ i, i < j → LT i ≠ x) → AW G mX5_kindOf (rm 1 0) (Z0 G 1 E (fun r i0 l => ∃ w, r = some (.int w) ∧ w = oM (kdO x) ∧ i0 = iv ∧ l = lv)) (fun _ => True) E.1 2 [some (.int x), some (.int (nI j))] [] E iv lv := by
  intro c
  induction c with
  | zero =>
    intro j hj hn
    have hj : j = 6 := by omega
    subst hj
    refine aw_iload_n dX5_kindOf_2 rfl ?_
    refine aw_lett dX5_kindOf_3 wl_let ?_
    refine aw_tlen dX5_kindOf_6 ?_
    refine aw_icmp_ge (tgt := 27) dX5_kindOf_7 rfl (fun h7 => ?_) (fun h7 => absurd (by decide) h7)
    refine aw_iconst (v := (-1)) dX5_kindOf_27 kc_m1 ?_
    refine aw_iret dX5_kindOf_28 rfl (rb0 (Nat.zero_le _)) ⟨rfl, _, rfl, ?_, rfl, rfl⟩
    rw [kdO_n hn]
    rfl
  | succ c ih =>
    intro j hj hn
    refine aw_iload_n dX5_kindOf_2 rfl ?_
    refine aw_lett dX5_kindOf_3 wl_let ?_
    refine aw_tlen dX5_kindOf_6 ?_
    refine aw_icmp_ge (tgt := 27) dX5_kindOf_7 rfl (fun h7 => absurd h7 (nI_ge (by omega) (by decide))) (fun h7 => ?_)
    refine aw_lett dX5_kindOf_10 wl_let ?_
    refine aw_iload_n dX5_kindOf_13 rfl ?_
    refine aw_tc dX5_kindOf_14 (by omega) ?_
    refine aw_iload_n dX5_kindOf_15 rfl ?_
    refine aw_icmp_ne (tgt := 21) dX5_kindOf_16 rfl (fun h16 => ?_) (fun h16 => ?_)
    · refine aw_iinc (v := _) (lo' := [_,_]) dX5_kindOf_21 rfl (nI_1 j) rfl ?_
      refine aw_goto (tgt := 2) dX5_kindOf_24 rfl ?_
      refine ih (j + 1) (by omega) (fun i hi => ?_)
      by_cases e : i = j
      · subst e; exact h16
      · exact hn i (by omega)
    · refine aw_iload_n dX5_kindOf_19 rfl ?_
      refine aw_iret dX5_kindOf_20 rfl (rb0 (Nat.zero_le _)) ⟨rfl, _, rfl, ?_, rfl, rfl⟩
      rw [← h16, kdO_j j (by omega)]
      rfl
theorem e_kindOf {G : GC} {E : SH} {iv : IV} {lv : LV} (x : Int32) : ExI G mX5_kindOf 1 [.int x] E iv lv (oM (kdO x)) iv lv := by
  refine spec0_of (lo := [_,_]) (by decide) (Nat.le_of_ble_eq_true rfl) rfl ?_
  refine aw_iconst (v := nI 0) dX5_kindOf_0 kc_0 ?_
  refine aw_istore_n (lo' := [_,_]) dX5_kindOf_1 (Nat.le_of_ble_eq_true rfl) rfl ?_
  exact lo_kindOf 6 0 (by omega) (fun i h => absurd h (Nat.not_lt_zero i))
theorem e_valueOf {G : GC} {E : SH} {iv : IV} {lv : LV} {Y : Nat} (hY : ReadS G E Y) {n : Nat} (hn : n ≤ 40) (h1 : iv Y 1 = nI n) (x : Int32) : ExI G mX5_valueOf 2 [.ref Y, .int x] E iv lv (oM (vlO n x)) iv lv := by
  have h4 : n % 5 < 5 := Nat.mod_lt _ (by decide)
  refine spec0_of (lo := [_,_,_]) (by decide) (Nat.le_of_ble_eq_true rfl) rfl ?_
  refine aw_aload_n dX5_valueOf_0 rfl ?_
  refine aw_getI dX5_valueOf_1 fgX5_15 rfl (ReadS.s0 hY) ?_
  rw [h1]
  refine aw_aload_n dX5_valueOf_4 rfl ?_
  refine aw_getR dX5_valueOf_5 fgX5_9 rfl (ReadS.s0 hY) (ReadS.r0_0 hY) ?_
  refine aw_alen dX5_valueOf_8 (ReadS.s1 hY) ⟨by decide, by decide⟩ ?_
  refine aw_icmp_lt (tgt := 14) dX5_valueOf_9 rfl (fun h9 => ?_) (fun h9 => ?_)
  · rw [nI_ltI (by omega) (by omega)] at h9
    refine aw_aload_n dX5_valueOf_14 rfl ?_
    refine aw_getI dX5_valueOf_15 fgX5_15 rfl (ReadS.s0 hY) ?_
    rw [h1]
    refine aw_iconst (v := nI 5) dX5_valueOf_18 kc_5 ?_
    refine aw_icmp_ge (tgt := 29) dX5_valueOf_19 rfl (fun h19 => ?_) (fun h19 => ?_)
    · rw [nI_leI (by omega) (by omega)] at h19
      refine aw_aload_n dX5_valueOf_29 rfl ?_
      refine aw_getI dX5_valueOf_30 fgX5_15 rfl (ReadS.s0 hY) ?_
      rw [h1]
      refine aw_iconst (v := nI 5) dX5_valueOf_33 kc_5 ?_
      refine aw_irem dX5_valueOf_34 (by decide) ?_
      rw [pk_rem (by omega) (by decide) (by decide)]
      refine aw_istore_n (lo' := [_,_,_]) dX5_valueOf_35 (Nat.le_of_ble_eq_true rfl) rfl ?_
      refine aw_iload_n dX5_valueOf_36 rfl ?_
      refine aw_if_ne (tgt := 45) dX5_valueOf_37 rfl (fun h37 => ?_) (fun h37 => ?_)
      · rw [← nI_0, nI_eq (by omega) (by omega)] at h37
        refine aw_iload_n dX5_valueOf_45 rfl ?_
        refine aw_iload_n dX5_valueOf_46 rfl ?_
        refine aw_iconst (v := nI 4) dX5_valueOf_47 kc_4 ?_
        refine aw_icmp_ne (tgt := 55) dX5_valueOf_48 rfl (fun h48 => ?_) (fun h48 => ?_)
        · rw [nI_eq (by omega) (by omega)] at h48
          refine aw_bipush (v := nI 9) dX5_valueOf_55 kb_9 ?_
          refine aw_xSi [_, _] dX5_valueOf_57 csX5_35 (e_figure x (by decide)) rfl rfl (Nat.le_of_ble_eq_true rfl) (rb0 (by decide)) ?_
          refine aw_iret dX5_valueOf_60 rfl (rb0 (Nat.zero_le _)) ⟨rfl, _, rfl, ?_, rfl, rfl⟩
          unfold vlO
          first
            | (rw [if_pos (by omega)]; rfl)
            | (rw [if_neg (by omega), if_pos (by omega)]; done)
            | (rw [if_neg (by omega), if_neg (by omega), if_pos (by omega)]; done)
            | (rw [if_neg (by omega), if_neg (by omega), if_neg (by omega), if_pos (by omega)]; done)
            | (rw [if_neg (by omega), if_neg (by omega), if_neg (by omega), if_neg (by omega)]; done)
        · rw [nI_eq (by omega) (by omega)] at h48
          refine aw_iconst (v := nI 4) dX5_valueOf_51 kc_4 ?_
          refine aw_goto (tgt := 57) dX5_valueOf_52 rfl ?_
          refine aw_xSi [_, _] dX5_valueOf_57 csX5_35 (e_figure x (by decide)) rfl rfl (Nat.le_of_ble_eq_true rfl) (rb0 (by decide)) ?_
          refine aw_iret dX5_valueOf_60 rfl (rb0 (Nat.zero_le _)) ⟨rfl, _, rfl, ?_, rfl, rfl⟩
          unfold vlO
          first
            | (rw [if_pos (by omega)]; rfl)
            | (rw [if_neg (by omega), if_pos (by omega)]; done)
            | (rw [if_neg (by omega), if_neg (by omega), if_pos (by omega)]; done)
            | (rw [if_neg (by omega), if_neg (by omega), if_neg (by omega), if_pos (by omega)]; done)
            | (rw [if_neg (by omega), if_neg (by omega), if_neg (by omega), if_neg (by omega)]; done)
      · rw [← nI_0, nI_eq (by omega) (by omega)] at h37
        refine aw_iload_n dX5_valueOf_40 rfl ?_
        refine aw_xSi [_] dX5_valueOf_41 csX5_39 (e_kindOf x) rfl rfl (Nat.le_of_ble_eq_true rfl) (rb0 (by decide)) ?_
        refine aw_iret dX5_valueOf_44 rfl (rb0 (Nat.zero_le _)) ⟨rfl, _, rfl, ?_, rfl, rfl⟩
        unfold vlO
        first
          | (rw [if_pos (by omega)]; rfl)
          | (rw [if_neg (by omega), if_pos (by omega)]; done)
          | (rw [if_neg (by omega), if_neg (by omega), if_pos (by omega)]; done)
          | (rw [if_neg (by omega), if_neg (by omega), if_neg (by omega), if_pos (by omega)]; done)
          | (rw [if_neg (by omega), if_neg (by omega), if_neg (by omega), if_neg (by omega)]; done)
    · rw [nI_leI (by omega) (by omega)] at h19
      refine aw_iload_n dX5_valueOf_22 rfl ?_
      refine aw_bipush (v := nI 9) dX5_valueOf_23 kb_9 ?_
      refine aw_xSi [_, _] dX5_valueOf_25 csX5_35 (e_figure x (most := 9) (by decide)) rfl rfl (Nat.le_of_ble_eq_true rfl) (rb0 (by decide)) ?_
      refine aw_iret dX5_valueOf_28 rfl (rb0 (Nat.zero_le _)) ⟨rfl, _, rfl, ?_, rfl, rfl⟩
      unfold vlO
      first
        | (rw [if_pos (by omega)]; rfl)
        | (rw [if_neg (by omega), if_pos (by omega)]; done)
        | (rw [if_neg (by omega), if_neg (by omega), if_pos (by omega)]; done)
        | (rw [if_neg (by omega), if_neg (by omega), if_neg (by omega), if_pos (by omega)]; done)
        | (rw [if_neg (by omega), if_neg (by omega), if_neg (by omega), if_neg (by omega)]; done)
  · rw [nI_ltI (by omega) (by omega)] at h9
    refine aw_iconst (v := (-1)) dX5_valueOf_12 kc_m1 ?_
    refine aw_iret dX5_valueOf_13 rfl (rb0 (Nat.zero_le _)) ⟨rfl, _, rfl, ?_, rfl, rfl⟩
    unfold vlO
    first
      | (rw [if_pos (by omega)]; rfl)
      | (rw [if_neg (by omega), if_pos (by omega)]; done)
      | (rw [if_neg (by omega), if_neg (by omega), if_pos (by omega)]; done)
      | (rw [if_neg (by omega), if_neg (by omega), if_neg (by omega), if_pos (by omega)]; done)
      | (rw [if_neg (by omega), if_neg (by omega), if_neg (by omega), if_neg (by omega)]; done)
theorem e_howMany {G : GC} {E : SH} {iv : IV} {lv : LV} {Y : Nat} (hY : ReadS G E Y) {n : Nat} (h5 : 5 ≤ n) (hn : n ≤ 40) (h1 : iv Y 1 = nI n) : ExI G mX5_howManyPeople 1 [.ref Y] E iv lv (nI (n / 5 - 1)) iv lv := by
  refine spec0_of (lo := [_]) (by decide) (Nat.le_of_ble_eq_true rfl) rfl ?_
  refine aw_aload_n dX5_howManyPeople_0 rfl ?_
  refine aw_getI dX5_howManyPeople_1 fgX5_15 rfl (ReadS.s0 hY) ?_
  rw [h1]
  refine aw_iconst (v := nI 5) dX5_howManyPeople_4 kc_5 ?_
  refine aw_idiv dX5_howManyPeople_5 (by decide) ?_
  rw [pk_div (by omega) (by decide) (by decide)]
  refine aw_iconst (v := nI 1) dX5_howManyPeople_6 kc_1 ?_
  refine aw_isub dX5_howManyPeople_7 ?_
  rw [pk_sub (by omega)]
  refine aw_iret dX5_howManyPeople_8 rfl (rb0 (Nat.zero_le _)) ⟨rfl, _, rfl, rfl, rfl, rfl⟩
theorem e_howMany0 {G : GC} {E : SH} {iv : IV} {lv : LV} {Y : Nat} (hY : ReadS G E Y) (h1 : iv Y 1 = nI 0) : ExI G mX5_howManyPeople 1 [.ref Y] E iv lv (-1) iv lv := by
  refine spec0_of (lo := [_]) (by decide) (Nat.le_of_ble_eq_true rfl) rfl ?_
  refine aw_aload_n dX5_howManyPeople_0 rfl ?_
  refine aw_getI dX5_howManyPeople_1 fgX5_15 rfl (ReadS.s0 hY) ?_
  rw [h1]
  refine aw_iconst (v := nI 5) dX5_howManyPeople_4 kc_5 ?_
  refine aw_idiv dX5_howManyPeople_5 (by decide) ?_
  rw [pk_div (by omega) (by decide) (by decide)]
  refine aw_iconst (v := nI 1) dX5_howManyPeople_6 kc_1 ?_
  refine aw_isub dX5_howManyPeople_7 ?_
  refine aw_iret dX5_howManyPeople_8 rfl (rb0 (Nat.zero_le _)) ⟨rfl, _, rfl, (by decide), rfl, rfl⟩
