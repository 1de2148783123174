theorem e_foundOut {G : GC} {E : SH} {iv : IV} {lv : LV} {X : Nat} (hX : XS G E X) {f : Nat} (h1 : 1 ≤ f) (h5 : f ≤ 5) : ExI G mX10_foundOut 1 [.ref X, .int (nI f)] E iv lv (-3) (fndM X iv f) lv := by
  refine spec0_of (lo := [_,_]) (by decide) (Nat.le_of_ble_eq_true rfl) rfl ?_
  refine aw_aload_n dX10_foundOut_0 rfl ?_
  refine aw_iload_n dX10_foundOut_1 rfl ?_
  refine aw_putI dX10_foundOut_2 fpX10_47 rfl (XS.s0 hX) ?_
  refine aw_iload_n dX10_foundOut_5 rfl ?_
  refine aw_iconst (v := nI 1) dX10_foundOut_6 kc_1 ?_
  refine aw_icmp_lt (tgt := 25) dX10_foundOut_7 rfl (fun h7 => absurd h7 (nI_nlt h1 (by omega))) (fun h7 => ?_)
  refine aw_iload_n dX10_foundOut_10 rfl ?_
  refine aw_iconst (v := nI 5) dX10_foundOut_11 kc_5 ?_
  refine aw_icmp_gt (tgt := 25) dX10_foundOut_12 rfl (fun h12 => absurd h12 (nI_nlt h5 (by omega))) (fun h12 => ?_)
  refine aw_aload_n dX10_foundOut_15 rfl ?_
  refine aw_getR dX10_foundOut_16 fgX10_43 rfl (XS.s0 hX) (XS.r0_6 hX) ?_
  refine aw_iload_n dX10_foundOut_19 rfl ?_
  refine aw_dup2 dX10_foundOut_20 rfl rfl ?_
  refine aw_iaload dX10_foundOut_21 (XS.s57 hX) rfl (by omega) ?_
  refine aw_iconst (v := nI 1) dX10_foundOut_22 kc_1 ?_
  refine aw_iadd dX10_foundOut_23 ?_
  refine aw_iastore dX10_foundOut_24 (XS.s57 hX) rfl (by omega) ?_
  refine aw_bipush (v := (-3)) dX10_foundOut_25 kb_m3 ?_
  refine aw_iret dX10_foundOut_27 rfl (rb0 (Nat.zero_le _)) ⟨rfl, _, rfl, rfl, ?_, rfl⟩
  unfold fndM
  rw [va_up_n (show X + 57 ≠ X by omega)]
theorem l_total {G : GC} {E : SH} {iv : IV} {lv : LV} {S n : Nat} (hS : StripS G E S n) {m : Nat} (hm : iv S 1 = nI m) (hmn : m ≤ n) (hn : n < 2 ^ 31) : ∀ (c i : Nat), i + c = m → AW G mX7_total (rm 1 0) (Z0 G 1 E (fun r i l => ∃ v, r = some (.long v) ∧ v = lsum (iv (S + 1)) m ∧ i = iv ∧ l = lv)) (fun _ => True) E.1 4 [some (.ref S), some (.long (lsum (iv (S + 1)) i)), none, some (.int (nI i))] [] E iv lv := by
  intro c
  induction c with
  | zero =>
    intro i hi
    have hi : i = m := by omega
    subst hi
    refine aw_iload_n dX7_total_4 rfl ?_
    refine aw_aload_n dX7_total_5 rfl ?_
    refine aw_getI dX7_total_6 fgX7_7 rfl (StripS.s0 hS) ?_
    refine aw_icmp_ge (tgt := 28) dX7_total_9 rfl (fun h9 => ?_) (fun h9 => absurd (by rw [hm]; exact nI_le (Nat.le_refl _) (by omega)) h9)
    refine aw_lload_n dX7_total_28 rfl ?_
    refine aw_lret dX7_total_29 rfl (rb0 (Nat.zero_le _)) ⟨rfl, _, rfl, rfl, rfl, rfl⟩
  | succ c ih =>
    intro i hi
    refine aw_iload_n dX7_total_4 rfl ?_
    refine aw_aload_n dX7_total_5 rfl ?_
    refine aw_getI dX7_total_6 fgX7_7 rfl (StripS.s0 hS) ?_
    refine aw_icmp_ge (tgt := 28) dX7_total_9 rfl (fun h9 => absurd h9 (by rw [hm]; exact nI_ge (by omega) (by omega))) (fun h9 => ?_)
    refine aw_lload_n dX7_total_12 rfl ?_
    refine aw_aload_n dX7_total_13 rfl ?_
    refine aw_getR dX7_total_14 fgX7_19 rfl (StripS.s0 hS) (StripS.r0_0 hS) ?_
    refine aw_iload_n dX7_total_17 rfl ?_
    refine aw_iaload (hn := hn) dX7_total_18 (StripS.s1 hS) rfl (by omega) ?_
    refine aw_i2l dX7_total_19 ?_
    refine aw_ladd dX7_total_20 ?_
    refine aw_lstore_n (lo' := [_,_,_,_]) dX7_total_21 (Nat.le_of_ble_eq_true rfl) rfl ?_
    refine aw_iinc (v := _) (lo' := [_,_,_,_]) dX7_total_22 rfl (nI_1 i) rfl ?_
    refine aw_goto (tgt := 4) dX7_total_25 rfl ?_
    exact ih (i + 1) (by omega)
theorem e_total {G : GC} {E : SH} {iv : IV} {lv : LV} {S n : Nat} (hS : StripS G E S n) {m : Nat} (hm : iv S 1 = nI m) (hmn : m ≤ n) (hn : n < 2 ^ 31) : ExL G mX7_total 1 [.ref S] E iv lv (lsum (iv (S + 1)) m) iv lv := by
  refine spec0_of (lo := [_,_,_,_]) (by decide) (Nat.le_of_ble_eq_true rfl) rfl ?_
  refine aw_lconst (v := lN 0) dX7_total_0 kl_0 ?_
  refine aw_lstore_n (lo' := [_,_,_,_]) dX7_total_1 (Nat.le_of_ble_eq_true rfl) rfl ?_
  refine aw_iconst (v := nI 0) dX7_total_2 kc_0 ?_
  refine aw_istore_n (lo' := [_,_,_,_]) dX7_total_3 (Nat.le_of_ble_eq_true rfl) rfl ?_
  exact l_total hS hm hmn hn m 0 (by omega)
def dig (h : Int64) (v : Int32) : Int64 := 31 * h + v.toInt64
def digs (g : Nat → Int32) (h : Int64) : Nat → Int64
  | 0 => h
  | k + 1 => dig (digs g h k) (g k)
theorem l_digested {G : GC} {E : SH} {iv : IV} {lv : LV} {S n : Nat} (hS : StripS G E S n) {m : Nat} {h : Int64} (hm : iv S 1 = nI m) (hmn : m ≤ n) (hn : n < 2 ^ 31) : ∀ (c i : Nat), i + c = m → AW G mX7_digestedInto (rm 1 0) (Z0 G 1 E (fun r i l => ∃ v, r = some (.long v) ∧ v = digs (iv (S + 1)) (dig h (iv S 1)) m ∧ i = iv ∧ l = lv)) (fun _ => True) E.1 15 [some (.ref S), some (.long h), none, some (.long (digs (iv (S + 1)) (dig h (iv S 1)) i)), none, some (.int (nI i))] [] E iv lv := by
  intro c
  induction c with
  | zero =>
    intro i hi
    have hi : i = m := by omega
    subst hi
    refine aw_iload dX7_digestedInto_15 rfl ?_
    refine aw_aload_n dX7_digestedInto_17 rfl ?_
    refine aw_getI dX7_digestedInto_18 fgX7_7 rfl (StripS.s0 hS) ?_
    refine aw_icmp_ge (tgt := 45) dX7_digestedInto_21 rfl (fun h21 => ?_) (fun h21 => absurd (by rw [hm]; exact nI_le (Nat.le_refl _) (by omega)) h21)
    refine aw_lload_n dX7_digestedInto_45 rfl ?_
    refine aw_lret dX7_digestedInto_46 rfl (rb0 (Nat.zero_le _)) ⟨rfl, _, rfl, rfl, rfl, rfl⟩
  | succ c ih =>
    intro i hi
    refine aw_iload dX7_digestedInto_15 rfl ?_
    refine aw_aload_n dX7_digestedInto_17 rfl ?_
    refine aw_getI dX7_digestedInto_18 fgX7_7 rfl (StripS.s0 hS) ?_
    refine aw_icmp_ge (tgt := 45) dX7_digestedInto_21 rfl (fun h21 => absurd h21 (by rw [hm]; exact nI_ge (by omega) (by omega))) (fun h21 => ?_)
    refine aw_ldc2 dX7_digestedInto_24 klX7_32 ?_
    refine aw_lload_n dX7_digestedInto_27 rfl ?_
    refine aw_lmul dX7_digestedInto_28 ?_
    refine aw_aload_n dX7_digestedInto_29 rfl ?_
    refine aw_getR dX7_digestedInto_30 fgX7_19 rfl (StripS.s0 hS) (StripS.r0_0 hS) ?_
    refine aw_iload dX7_digestedInto_33 rfl ?_
    refine aw_iaload (hn := hn) dX7_digestedInto_35 (StripS.s1 hS) rfl (by omega) ?_
    refine aw_i2l dX7_digestedInto_36 ?_
    refine aw_ladd dX7_digestedInto_37 ?_
    refine aw_lstore_n (lo' := [_,_,_,_,_,_]) dX7_digestedInto_38 (Nat.le_of_ble_eq_true rfl) rfl ?_
    refine aw_iinc (v := _) (lo' := [_,_,_,_,_,_]) dX7_digestedInto_39 rfl (nI_1 i) rfl ?_
    refine aw_goto (tgt := 15) dX7_digestedInto_42 rfl ?_
    exact ih (i + 1) (by omega)
theorem e_digested {G : GC} {E : SH} {iv : IV} {lv : LV} {S n : Nat} (hS : StripS G E S n) {m : Nat} {h : Int64} (hm : iv S 1 = nI m) (hmn : m ≤ n) (hn : n < 2 ^ 31) : ExL G mX7_digestedInto 1 [.ref S, .long h] E iv lv (digs (iv (S + 1)) (dig h (iv S 1)) m) iv lv := by
  refine spec0_of (lo := [_,_,_,_,_,_]) (by decide) (Nat.le_of_ble_eq_true rfl) rfl ?_
  refine aw_ldc2 dX7_digestedInto_0 klX7_32 ?_
  refine aw_lload_n dX7_digestedInto_3 rfl ?_
  refine aw_lmul dX7_digestedInto_4 ?_
  refine aw_aload_n dX7_digestedInto_5 rfl ?_
  refine aw_getI dX7_digestedInto_6 fgX7_7 rfl (StripS.s0 hS) ?_
  refine aw_i2l dX7_digestedInto_9 ?_
  refine aw_ladd dX7_digestedInto_10 ?_
  refine aw_lstore_n (lo' := [_,_,_,_,_,_]) dX7_digestedInto_11 (Nat.le_of_ble_eq_true rfl) rfl ?_
  refine aw_iconst (v := nI 0) dX7_digestedInto_12 kc_0 ?_
  refine aw_istore (lo' := [_,_,_,_,_,_]) dX7_digestedInto_13 (Nat.le_of_ble_eq_true rfl) rfl ?_
  exact l_digested hS hm hmn hn m 0 (by omega)
theorem e_digested0 {G : GC} {E : SH} {iv : IV} {lv : LV} {S n : Nat} (hS : StripS G E S n) {h : Int64} (hm : iv S 1 = -1) : ExL G mX7_digestedInto 1 [.ref S, .long h] E iv lv (dig h (iv S 1)) iv lv := by
  refine spec0_of (lo := [_,_,_,_,_,_]) (by decide) (Nat.le_of_ble_eq_true rfl) rfl ?_
  refine aw_ldc2 dX7_digestedInto_0 klX7_32 ?_
  refine aw_lload_n dX7_digestedInto_3 rfl ?_
  refine aw_lmul dX7_digestedInto_4 ?_
  refine aw_aload_n dX7_digestedInto_5 rfl ?_
  refine aw_getI dX7_digestedInto_6 fgX7_7 rfl (StripS.s0 hS) ?_
  refine aw_i2l dX7_digestedInto_9 ?_
  refine aw_ladd dX7_digestedInto_10 ?_
  refine aw_lstore_n (lo' := [_,_,_,_,_,_]) dX7_digestedInto_11 (Nat.le_of_ble_eq_true rfl) rfl ?_
  refine aw_iconst (v := nI 0) dX7_digestedInto_12 kc_0 ?_
  refine aw_istore (lo' := [_,_,_,_,_,_]) dX7_digestedInto_13 (Nat.le_of_ble_eq_true rfl) rfl ?_
  refine aw_iload dX7_digestedInto_15 rfl ?_
  refine aw_aload_n dX7_digestedInto_17 rfl ?_
  refine aw_getI dX7_digestedInto_18 fgX7_7 rfl (StripS.s0 hS) ?_
  refine aw_icmp_ge (tgt := 45) dX7_digestedInto_21 rfl (fun h21 => ?_) (fun h21 => absurd (by rw [hm]; decide) h21)
  refine aw_lload_n dX7_digestedInto_45 rfl ?_
  refine aw_lret dX7_digestedInto_46 rfl (rb0 (Nat.zero_le _)) ⟨rfl, _, rfl, rfl, rfl, rfl⟩
def rpV (q : Option Nat) (i : Int32) : Int32 := match q with
  | none => -3
  | some k => if bad i k then -3 else 0
def rpM (X : Nat) (iv : IV) (q : Option Nat) (i : Int32) : IV := match q with
  | none => fndM X iv 1
  | some k => if bad i k then fndM X iv 2 else iv
theorem rp_0 {q : Option Nat} {i : Int32} (h : rpV q i = 0) : ∃ k, q = some k ∧ ¬ bad i k := by
  cases q with
  | none => exact absurd h (show ¬ ((-3 : Int32) = 0) by decide)
  | some k =>
    refine ⟨k, rfl, fun b => ?_⟩
    unfold rpV at h
    simp only at h
    rw [if_pos b] at h
    exact absurd h (by decide)
theorem rp_1 {q : Option Nat} {i : Int32} (h : ¬ rpV q i = 0) : rpV q i = -3 ∧ (q = none ∨ ∃ k, q = some k ∧ bad i k) := by
  cases q with
  | none => exact ⟨rfl, Or.inl rfl⟩
  | some k =>
    by_cases b : bad i k
    · exact ⟨if_pos b, Or.inr ⟨k, rfl, b⟩⟩
    · exact absurd (if_neg b) h
theorem CD_rw {X r : Nat} {D : DD} {iv : IV} {g g2 : Nat → Int32} (hr : r < 6) (hg : ∀ i, i < 40 → g i = g2 i) (h : CD X D iv) : CD X (dRw D r g2) (va_up iv (X + (58 + 2 * r) + 1) g) := by
  refine ⟨fun q hq => ?_, fun q i hq hi => ?_, fun q hq => ?_, fun q i hq hi => ?_⟩
  · rw [va_up_n (by omega)]; exact h.1 q hq
  · show _ = va_up D.2.1 r g2 q i
    by_cases e : q = r
    · subst e; rw [va_up_s, va_up_s]; exact hg i hi
    · rw [va_up_n (by omega), va_up_n e]; exact h.2.1 q i hq hi
  · rw [va_up_n (by omega)]; exact h.2.2.1 q hq
  · rw [va_up_n (by omega)]; exact h.2.2.2 q i hq hi
theorem CD_sz {X r : Nat} {D : DD} {iv : IV} {x : Nat → Int32} {q : Option Nat} (hr : r < 6) (hx : x 1 = szv q) (h : CD X D iv) : CD X (dSz D r q) (va_up iv (X + (58 + 2 * r)) x) := by
  refine ⟨fun p hp => ?_, fun p i hp hi => ?_, fun p hp => ?_, fun p i hp hi => ?_⟩
  · show _ = szv (va_up D.1 r q p)
    by_cases e : p = r
    · subst e; rw [va_up_s, va_up_s]; exact hx
    · rw [va_up_n (by omega), va_up_n e]; exact h.1 p hp
  · rw [va_up_n (by omega)]; exact h.2.1 p i hp hi
  · rw [va_up_n (by omega)]; exact h.2.2.1 p hp
  · rw [va_up_n (by omega)]; exact h.2.2.2 p i hp hi
theorem CD_tx {X r : Nat} {D : DD} {iv : IV} {g g2 : Nat → Int32} (hr : r < 4) (hg : ∀ i, i < 60 → g i = g2 i) (h : CD X D iv) : CD X (dTx D r g2) (va_up iv (X + (70 + 2 * r) + 1) g) := by
  refine ⟨fun q hq => ?_, fun q i hq hi => ?_, fun q hq => ?_, fun q i hq hi => ?_⟩
  · rw [va_up_n (by omega)]; exact h.1 q hq
  · rw [va_up_n (by omega)]; exact h.2.1 q i hq hi
  · rw [va_up_n (by omega)]; exact h.2.2.1 q hq
  · show _ = va_up D.2.2.2 r g2 q i
    by_cases e : q = r
    · subst e; rw [va_up_s, va_up_s]; exact hg i hi
    · rw [va_up_n (by omega), va_up_n e]; exact h.2.2.2 q i hq hi
theorem CD_tz {X r : Nat} {D : DD} {iv : IV} {x : Nat → Int32} {q : Option Nat} (hr : r < 4) (hx : x 1 = szv q) (h : CD X D iv) : CD X (dTz D r q) (va_up iv (X + (70 + 2 * r)) x) := by
  refine ⟨fun p hp => ?_, fun p i hp hi => ?_, fun p hp => ?_, fun p i hp hi => ?_⟩
  · rw [va_up_n (by omega)]; exact h.1 p hp
  · rw [va_up_n (by omega)]; exact h.2.1 p i hp hi
  · show _ = szv (va_up D.2.2.1 r q p)
    by_cases e : p = r
    · subst e; rw [va_up_s, va_up_s]; exact hx
    · rw [va_up_n (by omega), va_up_n e]; exact h.2.2.1 p hp
  · rw [va_up_n (by omega)]; exact h.2.2.2 p i hp hi
theorem CA_of {X : Nat} {A : AA} {iv i : IV} {lv : LV} (h : CA X A iv lv) (h1 : i X = iv X) (h2 : i (X + 57) = iv (X + 57)) : CA X A i lv := ⟨by rw [h1]; exact h.1, by rw [h1]; exact h.2.1, h.2.2.1, h.2.2.2.1, fun f hf => by rw [h2]; exact h.2.2.2.2 f hf⟩
theorem PA_r {X r a : Nat} (hr : r < 6) (h : ¬ PA X a) : a ≠ X + (58 + 2 * r) ∧ a ≠ X + (58 + 2 * r) + 1 := ⟨fun e => h (Or.inr (Or.inr (by omega))), fun e => h (Or.inr (Or.inr (by omega)))⟩
theorem PA_t {X r a : Nat} (hr : r < 4) (h : ¬ PA X a) : a ≠ X + (70 + 2 * r) ∧ a ≠ X + (70 + 2 * r) + 1 := ⟨fun e => h (Or.inr (Or.inr (by omega))), fun e => h (Or.inr (Or.inr (by omega)))⟩
theorem PA_X {X a : Nat} (h : ¬ PA X a) : a ≠ X := fun e => h (Or.inl e)
theorem e_refusal {G : GC} {E : SH} {iv : IV} {lv : LV} {X : Nat} (hX : XS G E X) {S n : Nat} (hS : StripS G E S n) {q : Option Nat} (hq : iv S 1 = szv q) (hk : ∀ k, q = some k → k < 2 ^ 31) (i : Int32) : ExI G mX10_refusalOfPlace 2 [.ref X, .ref S, .int i] E iv lv (rpV q i) (rpM X iv q i) lv := by
  refine spec0_of (lo := [_,_,_]) (by decide) (Nat.le_of_ble_eq_true rfl) rfl ?_
  refine aw_aload_n dX10_refusalOfPlace_0 rfl ?_
  refine aw_xVi [] dX10_refusalOfPlace_1 cvX10_83 (StripS.s0 hS) (e_isThere hS) rfl rfl (Nat.le_of_ble_eq_true rfl) (rb0 (by decide)) ?_
  refine aw_if_ne (tgt := 13) dX10_refusalOfPlace_4 rfl (fun h4 => ?_) (fun h4 => ?_)
  · obtain ⟨k, e⟩ : ∃ k, q = some k := szv_pos (by rw [← hq]; exact Int32.not_lt.mpr (zI_n0.mp h4))
    subst e
    refine aw_aload_n dX10_refusalOfPlace_13 rfl ?_
    refine aw_iload_n dX10_refusalOfPlace_14 rfl ?_
    refine aw_xVi [_] dX10_refusalOfPlace_15 cvX10_300 (StripS.s0 hS) (e_has hS) rfl rfl (Nat.le_of_ble_eq_true rfl) (rb0 (by decide)) ?_
    rw [show iv S 1 = nI k from hq]
    refine aw_if_eq (tgt := 25) dX10_refusalOfPlace_18 rfl (fun h18 => ?_) (fun h18 => ?_)
    · refine aw_aload_n dX10_refusalOfPlace_25 rfl ?_
      refine aw_iconst (v := nI 2) dX10_refusalOfPlace_26 kc_2 ?_
      refine aw_xVi [_] dX10_refusalOfPlace_27 cvX10_68 (XS.s0 hX) (e_foundOut hX (f := 2) (by decide) (by decide)) rfl rfl (Nat.le_of_ble_eq_true rfl) (rb0 (by decide)) ?_
      refine aw_iret dX10_refusalOfPlace_30 rfl (rb0 (Nat.zero_le _)) ⟨rfl, _, rfl, ?_, ?_, rfl⟩
      · unfold rpV; simp only
        first | exact (if_pos (zI_0.mp h18)).symm | exact (if_neg (fun b => b (zI_n0.mp h18))).symm
      · unfold rpM; simp only
        first | exact (if_pos (zI_0.mp h18)).symm | exact (if_neg (fun b => b (zI_n0.mp h18))).symm
    · refine aw_iconst (v := nI 0) dX10_refusalOfPlace_21 kc_0 ?_
      refine aw_goto (tgt := 30) dX10_refusalOfPlace_22 rfl ?_
      refine aw_iret dX10_refusalOfPlace_30 rfl (rb0 (Nat.zero_le _)) ⟨rfl, _, rfl, ?_, ?_, rfl⟩
      · unfold rpV; simp only
        first | exact (if_pos (zI_0.mp h18)).symm | exact (if_neg (fun b => b (zI_n0.mp h18))).symm
      · unfold rpM; simp only
        first | exact (if_pos (zI_0.mp h18)).symm | exact (if_neg (fun b => b (zI_n0.mp h18))).symm
  · have e : q = none := szv_neg (by rw [← hq]; exact Int32.not_le.mp (zI_0.mp h4)) hk
    subst e
    refine aw_aload_n dX10_refusalOfPlace_7 rfl ?_
    refine aw_iconst (v := nI 1) dX10_refusalOfPlace_8 kc_1 ?_
    refine aw_xVi [_] dX10_refusalOfPlace_9 cvX10_68 (XS.s0 hX) (e_foundOut hX (Nat.le_refl 1) (by decide)) rfl rfl (Nat.le_of_ble_eq_true rfl) (rb0 (by decide)) ?_
    refine aw_iret dX10_refusalOfPlace_12 rfl (rb0 (Nat.zero_le _)) ⟨rfl, _, rfl, rfl, rfl, rfl⟩
    
