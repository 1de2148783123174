theorem e_isRow {G : GC} {E : SH} {iv : IV} {lv : LV} {X : Nat} (r : Int32) : ExI G mX10_isRow 1 [.ref X, .int r] E iv lv (zI (0 ≤ r ∧ r < nI 6)) iv lv := by
  refine spec0_of (lo := [_,_]) (by decide) (Nat.le_of_ble_eq_true rfl) rfl ?_
  refine aw_iload_n dX10_isRow_0 rfl ?_
  refine aw_if_lt (tgt := 14) dX10_isRow_1 rfl (fun h1 => ?_) (fun h1 => ?_)
  · refine aw_iconst (v := nI 0) dX10_isRow_14 kc_0 ?_
    refine aw_zret dX10_isRow_15 rfl rfl (rb0 (Nat.zero_le _)) ⟨rfl, _, rfl, ?_, rfl, rfl⟩
    rw [eq_comm]
    first | (refine zI_t ?_; (try simp (disch := omega) only [Int32.lt_iff_toInt_lt, Int32.le_iff_toInt_le, Int32.toInt_zero, nI_toInt, ← Int32.toInt_inj] at *); omega) | (refine zI_f ?_; (try simp (disch := omega) only [Int32.lt_iff_toInt_lt, Int32.le_iff_toInt_le, Int32.toInt_zero, nI_toInt, ← Int32.toInt_inj] at *); omega)
  · refine aw_iload_n dX10_isRow_4 rfl ?_
    refine aw_bipush (v := nI 6) dX10_isRow_5 kb_6 ?_
    refine aw_icmp_ge (tgt := 14) dX10_isRow_7 rfl (fun h7 => ?_) (fun h7 => ?_)
    · refine aw_iconst (v := nI 0) dX10_isRow_14 kc_0 ?_
      refine aw_zret dX10_isRow_15 rfl rfl (rb0 (Nat.zero_le _)) ⟨rfl, _, rfl, ?_, rfl, rfl⟩
      rw [eq_comm]
      first | (refine zI_t ?_; (try simp (disch := omega) only [Int32.lt_iff_toInt_lt, Int32.le_iff_toInt_le, Int32.toInt_zero, nI_toInt, ← Int32.toInt_inj] at *); omega) | (refine zI_f ?_; (try simp (disch := omega) only [Int32.lt_iff_toInt_lt, Int32.le_iff_toInt_le, Int32.toInt_zero, nI_toInt, ← Int32.toInt_inj] at *); omega)
    · refine aw_iconst (v := nI 1) dX10_isRow_10 kc_1 ?_
      refine aw_goto (tgt := 15) dX10_isRow_11 rfl ?_
      refine aw_zret dX10_isRow_15 rfl rfl (rb0 (Nat.zero_le _)) ⟨rfl, _, rfl, ?_, rfl, rfl⟩
      rw [eq_comm]
      first | (refine zI_t ?_; (try simp (disch := omega) only [Int32.lt_iff_toInt_lt, Int32.le_iff_toInt_le, Int32.toInt_zero, nI_toInt, ← Int32.toInt_inj] at *); omega) | (refine zI_f ?_; (try simp (disch := omega) only [Int32.lt_iff_toInt_lt, Int32.le_iff_toInt_le, Int32.toInt_zero, nI_toInt, ← Int32.toInt_inj] at *); omega)
theorem e_isText {G : GC} {E : SH} {iv : IV} {lv : LV} {X : Nat} (r : Int32) : ExI G mX10_isText 1 [.ref X, .int r] E iv lv (zI (0 ≤ r ∧ r < nI 4)) iv lv := by
  refine spec0_of (lo := [_,_]) (by decide) (Nat.le_of_ble_eq_true rfl) rfl ?_
  refine aw_iload_n dX10_isText_0 rfl ?_
  refine aw_if_lt (tgt := 13) dX10_isText_1 rfl (fun h1 => ?_) (fun h1 => ?_)
  · refine aw_iconst (v := nI 0) dX10_isText_13 kc_0 ?_
    refine aw_zret dX10_isText_14 rfl rfl (rb0 (Nat.zero_le _)) ⟨rfl, _, rfl, ?_, rfl, rfl⟩
    rw [eq_comm]
    first | (refine zI_t ?_; (try simp (disch := omega) only [Int32.lt_iff_toInt_lt, Int32.le_iff_toInt_le, Int32.toInt_zero, nI_toInt, ← Int32.toInt_inj] at *); omega) | (refine zI_f ?_; (try simp (disch := omega) only [Int32.lt_iff_toInt_lt, Int32.le_iff_toInt_le, Int32.toInt_zero, nI_toInt, ← Int32.toInt_inj] at *); omega)
  · refine aw_iload_n dX10_isText_4 rfl ?_
    refine aw_iconst (v := nI 4) dX10_isText_5 kc_4 ?_
    refine aw_icmp_ge (tgt := 13) dX10_isText_6 rfl (fun h6 => ?_) (fun h6 => ?_)
    · refine aw_iconst (v := nI 0) dX10_isText_13 kc_0 ?_
      refine aw_zret dX10_isText_14 rfl rfl (rb0 (Nat.zero_le _)) ⟨rfl, _, rfl, ?_, rfl, rfl⟩
      rw [eq_comm]
      first | (refine zI_t ?_; (try simp (disch := omega) only [Int32.lt_iff_toInt_lt, Int32.le_iff_toInt_le, Int32.toInt_zero, nI_toInt, ← Int32.toInt_inj] at *); omega) | (refine zI_f ?_; (try simp (disch := omega) only [Int32.lt_iff_toInt_lt, Int32.le_iff_toInt_le, Int32.toInt_zero, nI_toInt, ← Int32.toInt_inj] at *); omega)
    · refine aw_iconst (v := nI 1) dX10_isText_9 kc_1 ?_
      refine aw_goto (tgt := 14) dX10_isText_10 rfl ?_
      refine aw_zret dX10_isText_14 rfl rfl (rb0 (Nat.zero_le _)) ⟨rfl, _, rfl, ?_, rfl, rfl⟩
      rw [eq_comm]
      first | (refine zI_t ?_; (try simp (disch := omega) only [Int32.lt_iff_toInt_lt, Int32.le_iff_toInt_le, Int32.toInt_zero, nI_toInt, ← Int32.toInt_inj] at *); omega) | (refine zI_f ?_; (try simp (disch := omega) only [Int32.lt_iff_toInt_lt, Int32.le_iff_toInt_le, Int32.toInt_zero, nI_toInt, ← Int32.toInt_inj] at *); omega)
theorem e_isStreet {G : GC} {E : SH} {iv : IV} {lv : LV} {X : Nat} (r : Int32) : ExI G mX10_isStreet 1 [.ref X, .int r] E iv lv (zI (0 ≤ r ∧ r < nI 5)) iv lv := by
  refine spec0_of (lo := [_,_]) (by decide) (Nat.le_of_ble_eq_true rfl) rfl ?_
  refine aw_iload_n dX10_isStreet_0 rfl ?_
  refine aw_if_lt (tgt := 13) dX10_isStreet_1 rfl (fun h1 => ?_) (fun h1 => ?_)
  · refine aw_iconst (v := nI 0) dX10_isStreet_13 kc_0 ?_
    refine aw_zret dX10_isStreet_14 rfl rfl (rb0 (Nat.zero_le _)) ⟨rfl, _, rfl, ?_, rfl, rfl⟩
    rw [eq_comm]
    first | (refine zI_t ?_; (try simp (disch := omega) only [Int32.lt_iff_toInt_lt, Int32.le_iff_toInt_le, Int32.toInt_zero, nI_toInt, ← Int32.toInt_inj] at *); omega) | (refine zI_f ?_; (try simp (disch := omega) only [Int32.lt_iff_toInt_lt, Int32.le_iff_toInt_le, Int32.toInt_zero, nI_toInt, ← Int32.toInt_inj] at *); omega)
  · refine aw_iload_n dX10_isStreet_4 rfl ?_
    refine aw_iconst (v := nI 5) dX10_isStreet_5 kc_5 ?_
    refine aw_icmp_ge (tgt := 13) dX10_isStreet_6 rfl (fun h6 => ?_) (fun h6 => ?_)
    · refine aw_iconst (v := nI 0) dX10_isStreet_13 kc_0 ?_
      refine aw_zret dX10_isStreet_14 rfl rfl (rb0 (Nat.zero_le _)) ⟨rfl, _, rfl, ?_, rfl, rfl⟩
      rw [eq_comm]
      first | (refine zI_t ?_; (try simp (disch := omega) only [Int32.lt_iff_toInt_lt, Int32.le_iff_toInt_le, Int32.toInt_zero, nI_toInt, ← Int32.toInt_inj] at *); omega) | (refine zI_f ?_; (try simp (disch := omega) only [Int32.lt_iff_toInt_lt, Int32.le_iff_toInt_le, Int32.toInt_zero, nI_toInt, ← Int32.toInt_inj] at *); omega)
    · refine aw_iconst (v := nI 1) dX10_isStreet_9 kc_1 ?_
      refine aw_goto (tgt := 14) dX10_isStreet_10 rfl ?_
      refine aw_zret dX10_isStreet_14 rfl rfl (rb0 (Nat.zero_le _)) ⟨rfl, _, rfl, ?_, rfl, rfl⟩
      rw [eq_comm]
      first | (refine zI_t ?_; (try simp (disch := omega) only [Int32.lt_iff_toInt_lt, Int32.le_iff_toInt_le, Int32.toInt_zero, nI_toInt, ← Int32.toInt_inj] at *); omega) | (refine zI_f ?_; (try simp (disch := omega) only [Int32.lt_iff_toInt_lt, Int32.le_iff_toInt_le, Int32.toInt_zero, nI_toInt, ← Int32.toInt_inj] at *); omega)
theorem e_isKeepingPlace {G : GC} {E : SH} {iv : IV} {lv : LV} {X : Nat} (r : Int32) : ExI G mX10_isKeepingPlace 1 [.ref X, .int r] E iv lv (zI (0 ≤ r ∧ r < nI 3)) iv lv := by
  refine spec0_of (lo := [_,_]) (by decide) (Nat.le_of_ble_eq_true rfl) rfl ?_
  refine aw_iload_n dX10_isKeepingPlace_0 rfl ?_
  refine aw_if_lt (tgt := 13) dX10_isKeepingPlace_1 rfl (fun h1 => ?_) (fun h1 => ?_)
  · refine aw_iconst (v := nI 0) dX10_isKeepingPlace_13 kc_0 ?_
    refine aw_zret dX10_isKeepingPlace_14 rfl rfl (rb0 (Nat.zero_le _)) ⟨rfl, _, rfl, ?_, rfl, rfl⟩
    rw [eq_comm]
    first | (refine zI_t ?_; (try simp (disch := omega) only [Int32.lt_iff_toInt_lt, Int32.le_iff_toInt_le, Int32.toInt_zero, nI_toInt, ← Int32.toInt_inj] at *); omega) | (refine zI_f ?_; (try simp (disch := omega) only [Int32.lt_iff_toInt_lt, Int32.le_iff_toInt_le, Int32.toInt_zero, nI_toInt, ← Int32.toInt_inj] at *); omega)
  · refine aw_iload_n dX10_isKeepingPlace_4 rfl ?_
    refine aw_iconst (v := nI 3) dX10_isKeepingPlace_5 kc_3 ?_
    refine aw_icmp_ge (tgt := 13) dX10_isKeepingPlace_6 rfl (fun h6 => ?_) (fun h6 => ?_)
    · refine aw_iconst (v := nI 0) dX10_isKeepingPlace_13 kc_0 ?_
      refine aw_zret dX10_isKeepingPlace_14 rfl rfl (rb0 (Nat.zero_le _)) ⟨rfl, _, rfl, ?_, rfl, rfl⟩
      rw [eq_comm]
      first | (refine zI_t ?_; (try simp (disch := omega) only [Int32.lt_iff_toInt_lt, Int32.le_iff_toInt_le, Int32.toInt_zero, nI_toInt, ← Int32.toInt_inj] at *); omega) | (refine zI_f ?_; (try simp (disch := omega) only [Int32.lt_iff_toInt_lt, Int32.le_iff_toInt_le, Int32.toInt_zero, nI_toInt, ← Int32.toInt_inj] at *); omega)
    · refine aw_iconst (v := nI 1) dX10_isKeepingPlace_9 kc_1 ?_
      refine aw_goto (tgt := 14) dX10_isKeepingPlace_10 rfl ?_
      refine aw_zret dX10_isKeepingPlace_14 rfl rfl (rb0 (Nat.zero_le _)) ⟨rfl, _, rfl, ?_, rfl, rfl⟩
      rw [eq_comm]
      first | (refine zI_t ?_; (try simp (disch := omega) only [Int32.lt_iff_toInt_lt, Int32.le_iff_toInt_le, Int32.toInt_zero, nI_toInt, ← Int32.toInt_inj] at *); omega) | (refine zI_f ?_; (try simp (disch := omega) only [Int32.lt_iff_toInt_lt, Int32.le_iff_toInt_le, Int32.toInt_zero, nI_toInt, ← Int32.toInt_inj] at *); omega)
