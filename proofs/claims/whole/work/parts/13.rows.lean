theorem x_row {G : GC} {E : SH} {iv : IV} {lv : LV} {X : Nat} (hX : XS G E X) {A : AA} {D : DD} (hA : CA X A iv lv) (hD : CD X D iv) (hW : WD D) (r n : Int32) : SpI G mX10_row 3 [.ref X, .int r, .int n] E iv lv (QX X iv lv (oRow A D r n)) := by
  refine spec0_of (lo := [_,_,_]) (by decide) (Nat.le_of_ble_eq_true rfl) rfl ?_
  refine aw_aload_n dX10_row_0 rfl ?_
  refine aw_iload_n dX10_row_1 rfl ?_
  refine aw_xVi [_] dX10_row_2 cvX10_64 (XS.s0 hX) (e_isRow r) rfl rfl (Nat.le_of_ble_eq_true rfl) (rb0 (by decide)) ?_
  refine aw_if_eq (tgt := 14) dX10_row_5 rfl (fun h5 => ?_) (fun h5 => ?_)
  · refine aw_iconst (v := (-1)) dX10_row_14 kc_m1 ?_
    refine aw_iret dX10_row_15 rfl (rb0 (Nat.zero_le _)) ⟨rfl, _, rfl, ?_⟩
    refine QX_no hA hD ?_
    unfold oRow
    first
      | exact if_pos (Or.inl (zi_bad h5))
      | exact if_pos (Or.inr (Int32.not_le.mp h11))
  · obtain ⟨j, hj, rfl⟩ := zi_of h5 (by decide)
    refine aw_iload_n dX10_row_8 rfl ?_
    refine aw_bipush (v := nI 40) dX10_row_9 kb_40 ?_
    refine aw_icmp_le (tgt := 16) dX10_row_11 rfl (fun h11 => ?_) (fun h11 => ?_)
    · refine aw_iload_n dX10_row_16 rfl ?_
      refine aw_if_ge (tgt := 26) dX10_row_17 rfl (fun h17 => ?_) (fun h17 => ?_)
      · obtain ⟨k, hk, rfl⟩ := ix_le (Int32.not_lt.mpr h17) (Int32.not_lt.mpr h11) (by decide)
        refine aw_aload_n dX10_row_26 rfl ?_
        refine aw_getR dX10_row_27 fgX10_11 rfl (XS.s0 hX) (XS.r0_0 hX) ?_
        refine aw_iload_n dX10_row_30 rfl ?_
        refine aw_aaload dX10_row_31 (XS.s1 hX) ⟨by decide, by decide⟩ rfl hj (XS.rowr hX hj) ?_
        refine aw_iload_n dX10_row_32 rfl ?_
        refine aw_iconst (v := nI 0) dX10_row_33 kc_0 ?_
        refine aw_xVv [_, _] dX10_row_34 cvX10_72 (StripS.s0 (XS.row hX hj)) (e_open (XS.row hX hj) hk (by decide)) rfl rfl (Nat.le_of_ble_eq_true rfl) (rb0 (by decide)) ?_
        refine aw_iload_n dX10_row_37 rfl ?_
        refine aw_iret dX10_row_38 rfl (rb0 (Nat.zero_le _)) ⟨rfl, _, rfl, ?_⟩
        have e : oRow A D (nI j) (nI k) = (nI k, A, dRw (dSz D j (some k)) j (fun _ => 0)) := by
          unfold oRow
          rw [if_neg (fun q => q.elim (nbad hj (by decide)) (fun q => absurd q (nI_nlt hk (by omega)))), if_neg (nI_pos (by omega)), ix_nI (by omega), ix_nI (by omega)]
        rw [e]
        refine ⟨rfl, CA_of hA ?_ ?_, CD_rw hj (fun i hi => if_pos hi) (CD_sz hj rfl hD), fun a ha => ?_, rfl⟩
        · show opnM _ _ _ _ _ X = iv X
          unfold opnM; rw [va_up_n (by omega), va_up_n (by omega)]
        · show opnM _ _ _ _ _ (X + 57) = iv (X + 57)
          unfold opnM; rw [va_up_n (by omega), va_up_n (by omega)]
        · show opnM _ _ _ _ _ a = iv a
          unfold opnM; rw [va_up_n (PA_r hj ha).2, va_up_n (PA_r hj ha).1]
      · refine aw_aload_n dX10_row_20 rfl ?_
        refine aw_iconst (v := nI 5) dX10_row_21 kc_5 ?_
        refine aw_xVi [_] dX10_row_22 cvX10_68 (XS.s0 hX) (e_foundOut hX (f := 5) (by decide) (by decide)) rfl rfl (Nat.le_of_ble_eq_true rfl) (rb0 (by decide)) ?_
        refine aw_iret dX10_row_25 rfl (rb0 (Nat.zero_le _)) ⟨rfl, _, rfl, ?_⟩
        refine QX_fnd (f := 5) hA hD (by decide) ?_
        unfold oRow
        rw [if_neg (fun q => q.elim (nbad hj (by decide)) (fun q => absurd q (Int32.not_lt.mpr h11))), if_pos (Int32.not_le.mp h17)]
    · refine aw_iconst (v := (-1)) dX10_row_14 kc_m1 ?_
      refine aw_iret dX10_row_15 rfl (rb0 (Nat.zero_le _)) ⟨rfl, _, rfl, ?_⟩
      refine QX_no hA hD ?_
      unfold oRow
      first
        | exact if_pos (Or.inl (zi_bad h5))
        | exact if_pos (Or.inr (Int32.not_le.mp h11))
theorem x_text {G : GC} {E : SH} {iv : IV} {lv : LV} {X : Nat} (hX : XS G E X) {A : AA} {D : DD} (hA : CA X A iv lv) (hD : CD X D iv) (hW : WD D) (r n : Int32) : SpI G mX10_text 3 [.ref X, .int r, .int n] E iv lv (QX X iv lv (oText A D r n)) := by
  refine spec0_of (lo := [_,_,_]) (by decide) (Nat.le_of_ble_eq_true rfl) rfl ?_
  refine aw_aload_n dX10_text_0 rfl ?_
  refine aw_iload_n dX10_text_1 rfl ?_
  refine aw_xVi [_] dX10_text_2 cvX10_107 (XS.s0 hX) (e_isText r) rfl rfl (Nat.le_of_ble_eq_true rfl) (rb0 (by decide)) ?_
  refine aw_if_eq (tgt := 14) dX10_text_5 rfl (fun h5 => ?_) (fun h5 => ?_)
  · refine aw_iconst (v := (-1)) dX10_text_14 kc_m1 ?_
    refine aw_iret dX10_text_15 rfl (rb0 (Nat.zero_le _)) ⟨rfl, _, rfl, ?_⟩
    refine QX_no hA hD ?_
    unfold oText
    first
      | exact if_pos (Or.inl (zi_bad h5))
      | exact if_pos (Or.inr (Int32.not_le.mp h11))
  · obtain ⟨j, hj, rfl⟩ := zi_of h5 (by decide)
    refine aw_iload_n dX10_text_8 rfl ?_
    refine aw_bipush (v := nI 60) dX10_text_9 kb_60 ?_
    refine aw_icmp_le (tgt := 16) dX10_text_11 rfl (fun h11 => ?_) (fun h11 => ?_)
    · refine aw_iload_n dX10_text_16 rfl ?_
      refine aw_if_ge (tgt := 26) dX10_text_17 rfl (fun h17 => ?_) (fun h17 => ?_)
      · obtain ⟨k, hk, rfl⟩ := ix_le (Int32.not_lt.mpr h17) (Int32.not_lt.mpr h11) (by decide)
        refine aw_aload_n dX10_text_26 rfl ?_
        refine aw_getR dX10_text_27 fgX10_15 rfl (XS.s0 hX) (XS.r0_1 hX) ?_
        refine aw_iload_n dX10_text_30 rfl ?_
        refine aw_aaload dX10_text_31 (XS.s2 hX) ⟨by decide, by decide⟩ rfl hj (XS.textr hX hj) ?_
        refine aw_iload_n dX10_text_32 rfl ?_
        refine aw_bipush (v := nI 32) dX10_text_33 kb_32 ?_
        refine aw_xVv [_, _] dX10_text_35 cvX10_72 (StripS.s0 (XS.text hX hj)) (e_open (XS.text hX hj) hk (by decide)) rfl rfl (Nat.le_of_ble_eq_true rfl) (rb0 (by decide)) ?_
        refine aw_iload_n dX10_text_38 rfl ?_
        refine aw_iret dX10_text_39 rfl (rb0 (Nat.zero_le _)) ⟨rfl, _, rfl, ?_⟩
        have e : oText A D (nI j) (nI k) = (nI k, A, dTx (dTz D j (some k)) j (fun _ => nI 32)) := by
          unfold oText
          rw [if_neg (fun q => q.elim (nbad hj (by decide)) (fun q => absurd q (nI_nlt hk (by omega)))), if_neg (nI_pos (by omega)), ix_nI (by omega), ix_nI (by omega)]
        rw [e]
        refine ⟨rfl, CA_of hA ?_ ?_, CD_tx hj (fun i hi => if_pos hi) (CD_tz hj rfl hD), fun a ha => ?_, rfl⟩
        · show opnM _ _ _ _ _ X = iv X
          unfold opnM; rw [va_up_n (by omega), va_up_n (by omega)]
        · show opnM _ _ _ _ _ (X + 57) = iv (X + 57)
          unfold opnM; rw [va_up_n (by omega), va_up_n (by omega)]
        · show opnM _ _ _ _ _ a = iv a
          unfold opnM; rw [va_up_n (PA_t hj ha).2, va_up_n (PA_t hj ha).1]
      · refine aw_aload_n dX10_text_20 rfl ?_
        refine aw_iconst (v := nI 5) dX10_text_21 kc_5 ?_
        refine aw_xVi [_] dX10_text_22 cvX10_68 (XS.s0 hX) (e_foundOut hX (f := 5) (by decide) (by decide)) rfl rfl (Nat.le_of_ble_eq_true rfl) (rb0 (by decide)) ?_
        refine aw_iret dX10_text_25 rfl (rb0 (Nat.zero_le _)) ⟨rfl, _, rfl, ?_⟩
        refine QX_fnd (f := 5) hA hD (by decide) ?_
        unfold oText
        rw [if_neg (fun q => q.elim (nbad hj (by decide)) (fun q => absurd q (Int32.not_lt.mpr h11))), if_pos (Int32.not_le.mp h17)]
    · refine aw_iconst (v := (-1)) dX10_text_14 kc_m1 ?_
      refine aw_iret dX10_text_15 rfl (rb0 (Nat.zero_le _)) ⟨rfl, _, rfl, ?_⟩
      refine QX_no hA hD ?_
      unfold oText
      first
        | exact if_pos (Or.inl (zi_bad h5))
        | exact if_pos (Or.inr (Int32.not_le.mp h11))
theorem oAt_n {A : AA} {D : DD} {j : Nat} (i : Int32) (hj : j < 6) (h : D.1 j = none) : oAt A D (nI j) i = (-3, fnd A 1, D) := by
  unfold oAt
  rw [if_neg (nbad hj (by decide)), ix_nI (by omega)]
  simp only [h]
theorem oAt_b {A : AA} {D : DD} {j k : Nat} {i : Int32} (hj : j < 6) (h : D.1 j = some k) (hb : bad i k) : oAt A D (nI j) i = (-3, fnd A 2, D) := by
  unfold oAt
  rw [if_neg (nbad hj (by decide)), ix_nI (by omega)]
  simp only [h]
  rw [if_pos hb]
theorem oAt_k {A : AA} {D : DD} {j k p : Nat} (hj : j < 6) (h : D.1 j = some k) (hp : p < k) (hk : k < 2 ^ 31) : oAt A D (nI j) (nI p) = (1, tel A (D.2.1 j p), D) := by
  unfold oAt
  rw [if_neg (nbad hj (by decide)), ix_nI (by omega)]
  simp only [h]
  rw [if_neg (nbad hp hk), ix_nI (by omega)]
theorem oLay_n {A : AA} {D : DD} {j : Nat} (i : Int32) (v : Int32) (hj : j < 6) (h : D.1 j = none) : oLay A D (nI j) i v = (-3, fnd A 1, D) := by
  unfold oLay
  rw [if_neg (nbad hj (by decide)), ix_nI (by omega)]
  simp only [h]
theorem oLay_b {A : AA} {D : DD} {j k : Nat} {i : Int32} (v : Int32) (hj : j < 6) (h : D.1 j = some k) (hb : bad i k) : oLay A D (nI j) i v = (-3, fnd A 2, D) := by
  unfold oLay
  rw [if_neg (nbad hj (by decide)), ix_nI (by omega)]
  simp only [h]
  rw [if_pos hb]
theorem oLay_k {A : AA} {D : DD} {j k p : Nat} (v : Int32) (hj : j < 6) (h : D.1 j = some k) (hp : p < k) (hk : k < 2 ^ 31) : oLay A D (nI j) (nI p) v = (1, tel A (D.2.1 j p), dRw D j (upd (D.2.1 j) p v)) := by
  unfold oLay
  rw [if_neg (nbad hj (by decide)), ix_nI (by omega)]
  simp only [h]
  rw [if_neg (nbad hp hk), ix_nI (by omega)]
theorem oPut_n {A : AA} {D : DD} {j : Nat} (i : Int32) (v : Int32) (hj : j < 4) (h : D.2.2.1 j = none) : oPut A D (nI j) i v = (-3, fnd A 1, D) := by
  unfold oPut
  rw [if_neg (nbad hj (by decide)), ix_nI (by omega)]
  simp only [h]
theorem oPut_b {A : AA} {D : DD} {j k : Nat} {i : Int32} (v : Int32) (hj : j < 4) (h : D.2.2.1 j = some k) (hb : bad i k) : oPut A D (nI j) i v = (-3, fnd A 2, D) := by
  unfold oPut
  rw [if_neg (nbad hj (by decide)), ix_nI (by omega)]
  simp only [h]
  rw [if_pos hb]
theorem oPut_k {A : AA} {D : DD} {j k p : Nat} (v : Int32) (hj : j < 4) (h : D.2.2.1 j = some k) (hp : p < k) (hk : k < 2 ^ 31) : oPut A D (nI j) (nI p) v = (D.2.2.2 j p + nI 1000, A, dTx D j (upd (D.2.2.2 j) p v.toInt8.toInt32)) := by
  unfold oPut
  rw [if_neg (nbad hj (by decide)), ix_nI (by omega)]
  simp only [h]
  rw [if_neg (nbad hp hk), ix_nI (by omega)]
theorem x_at {G : GC} {E : SH} {iv : IV} {lv : LV} {X : Nat} (hX : XS G E X) {A : AA} {D : DD} (hA : CA X A iv lv) (hD : CD X D iv) (hW : WD D) (r i : Int32) : SpI G mX10_at 3 [.ref X, .int r, .int i] E iv lv (QX X iv lv (oAt A D r i)) := by
  refine spec0_of (lo := [_,_,_,_]) (by decide) (Nat.le_of_ble_eq_true rfl) rfl ?_
  refine aw_aload_n dX10_at_0 rfl ?_
  refine aw_iload_n dX10_at_1 rfl ?_
  refine aw_xVi [_] dX10_at_2 cvX10_64 (XS.s0 hX) (e_isRow r) rfl rfl (Nat.le_of_ble_eq_true rfl) (rb0 (by decide)) ?_
  refine aw_if_ne (tgt := 10) dX10_at_5 rfl (fun h5 => ?_) (fun h5 => ?_)
  · obtain ⟨j, hj, rfl⟩ := zi_of h5 (by decide)
    refine aw_aload_n dX10_at_10 rfl ?_
    refine aw_aload_n dX10_at_11 rfl ?_
    refine aw_getR dX10_at_12 fgX10_11 rfl (XS.s0 hX) (XS.r0_0 hX) ?_
    refine aw_iload_n dX10_at_15 rfl ?_
    refine aw_aaload dX10_at_16 (XS.s1 hX) ⟨by decide, by decide⟩ rfl hj (XS.rowr hX hj) ?_
    refine aw_iload_n dX10_at_17 rfl ?_
    refine aw_xVi [_, _] dX10_at_18 cvX10_76 (XS.s0 hX) (e_refusal hX (XS.row hX hj) (q := D.1 j) (hD.1 j hj) (fun k hk => by have := hW.1 j hj k hk; omega) i) rfl rfl (Nat.le_of_ble_eq_true rfl) (rb0 (by decide)) ?_
    refine aw_istore_n (lo' := [_,_,_,_]) dX10_at_21 (Nat.le_of_ble_eq_true rfl) rfl ?_
    refine aw_iload_n dX10_at_22 rfl ?_
    refine aw_if_eq (tgt := 28) dX10_at_23 rfl (fun h23 => ?_) (fun h23 => ?_)
    · obtain ⟨k, e1, hb⟩ := rp_0 h23
      have hkk := hW.1 j hj k e1
      obtain ⟨p, hp, rfl⟩ := ix_of hb (by omega)
      rw [show rpM X iv (D.1 j) (nI p) = iv by unfold rpM; rw [e1]; exact if_neg hb]
      refine aw_aload_n dX10_at_28 rfl ?_
      refine aw_aload_n dX10_at_29 rfl ?_
      refine aw_getR dX10_at_30 fgX10_11 rfl (XS.s0 hX) (XS.r0_0 hX) ?_
      refine aw_iload_n dX10_at_33 rfl ?_
      refine aw_aaload dX10_at_34 (XS.s1 hX) ⟨by decide, by decide⟩ rfl hj (XS.rowr hX hj) ?_
      refine aw_getR dX10_at_35 fgX10_80 rfl (StripS.s0 (XS.row hX hj)) (StripS.r0_0 (XS.row hX hj)) ?_
      refine aw_iload_n dX10_at_38 rfl ?_
      refine aw_iaload dX10_at_39 (StripS.s1 (XS.row hX hj)) rfl (by omega) ?_
      refine aw_putI dX10_at_40 fpX10_51 rfl (XS.s0 hX) ?_
      refine aw_iconst (v := nI 1) dX10_at_43 kc_1 ?_
      refine aw_iret dX10_at_44 rfl (rb0 (Nat.zero_le _)) ⟨rfl, _, rfl, ?_⟩
      rw [oAt_k hj e1 hp (by have := hW.1 j hj k e1; omega)]
      refine ⟨rfl, ?_, ?_, fun a ha => va_up_n (PA_X ha), rfl⟩
      · rw [← (hD.2.1 j p hj (by omega))]; exact CA_tel hA
      · exact CD_of (fun a h1 h2 => va_up_n (by omega)) hD
    · obtain ⟨e0, hh⟩ := rp_1 h23
      rw [e0]
      refine aw_iload_n dX10_at_26 rfl ?_
      refine aw_iret dX10_at_27 rfl (rb0 (Nat.zero_le _)) ⟨rfl, _, rfl, ?_⟩
      rcases hh with e1 | ⟨k, e1, hb⟩
      · rw [show rpM X iv (D.1 j) i = fndM X iv 1 by rw [e1]; rfl]
        exact QX_fnd hA hD (by decide) (oAt_n i hj e1)
      · rw [show rpM X iv (D.1 j) i = fndM X iv 2 by unfold rpM; rw [e1]; exact if_pos hb]
        exact QX_fnd hA hD (by decide) (oAt_b hj e1 hb)
  · refine aw_iconst (v := (-1)) dX10_at_8 kc_m1 ?_
    refine aw_iret dX10_at_9 rfl (rb0 (Nat.zero_le _)) ⟨rfl, _, rfl, ?_⟩
    exact QX_no hA hD (if_pos (zi_bad h5))
theorem x_lay {G : GC} {E : SH} {iv : IV} {lv : LV} {X : Nat} (hX : XS G E X) {A : AA} {D : DD} (hA : CA X A iv lv) (hD : CD X D iv) (hW : WD D) (r i v : Int32) : SpI G mX10_lay 3 [.ref X, .int r, .int i, .int v] E iv lv (QX X iv lv (oLay A D r i v)) := by
  refine spec0_of (lo := [_,_,_,_,_]) (by decide) (Nat.le_of_ble_eq_true rfl) rfl ?_
  refine aw_aload_n dX10_lay_0 rfl ?_
  refine aw_iload_n dX10_lay_1 rfl ?_
  refine aw_xVi [_] dX10_lay_2 cvX10_64 (XS.s0 hX) (e_isRow r) rfl rfl (Nat.le_of_ble_eq_true rfl) (rb0 (by decide)) ?_
  refine aw_if_ne (tgt := 10) dX10_lay_5 rfl (fun h5 => ?_) (fun h5 => ?_)
  · obtain ⟨j, hj, rfl⟩ := zi_of h5 (by decide)
    refine aw_aload_n dX10_lay_10 rfl ?_
    refine aw_aload_n dX10_lay_11 rfl ?_
    refine aw_getR dX10_lay_12 fgX10_11 rfl (XS.s0 hX) (XS.r0_0 hX) ?_
    refine aw_iload_n dX10_lay_15 rfl ?_
    refine aw_aaload dX10_lay_16 (XS.s1 hX) ⟨by decide, by decide⟩ rfl hj (XS.rowr hX hj) ?_
    refine aw_iload_n dX10_lay_17 rfl ?_
    refine aw_xVi [_, _] dX10_lay_18 cvX10_76 (XS.s0 hX) (e_refusal hX (XS.row hX hj) (q := D.1 j) (hD.1 j hj) (fun k hk => by have := hW.1 j hj k hk; omega) i) rfl rfl (Nat.le_of_ble_eq_true rfl) (rb0 (by decide)) ?_
    refine aw_istore (lo' := [_,_,_,_,_]) dX10_lay_21 (Nat.le_of_ble_eq_true rfl) rfl ?_
    refine aw_iload dX10_lay_23 rfl ?_
    refine aw_if_eq (tgt := 31) dX10_lay_25 rfl (fun h25 => ?_) (fun h25 => ?_)
    · obtain ⟨k, e1, hb⟩ := rp_0 h25
      have hkk := hW.1 j hj k e1
      obtain ⟨p, hp, rfl⟩ := ix_of hb (by omega)
      rw [show rpM X iv (D.1 j) (nI p) = iv by unfold rpM; rw [e1]; exact if_neg hb]
      refine aw_aload_n dX10_lay_31 rfl ?_
      refine aw_aload_n dX10_lay_32 rfl ?_
      refine aw_getR dX10_lay_33 fgX10_11 rfl (XS.s0 hX) (XS.r0_0 hX) ?_
      refine aw_iload_n dX10_lay_36 rfl ?_
      refine aw_aaload dX10_lay_37 (XS.s1 hX) ⟨by decide, by decide⟩ rfl hj (XS.rowr hX hj) ?_
      refine aw_getR dX10_lay_38 fgX10_80 rfl (StripS.s0 (XS.row hX hj)) (StripS.r0_0 (XS.row hX hj)) ?_
      refine aw_iload_n dX10_lay_41 rfl ?_
      refine aw_iaload dX10_lay_42 (StripS.s1 (XS.row hX hj)) rfl (by omega) ?_
      refine aw_putI dX10_lay_43 fpX10_51 rfl (XS.s0 hX) ?_
      refine aw_aload_n dX10_lay_46 rfl ?_
      refine aw_getR dX10_lay_47 fgX10_11 rfl (XS.s0 hX) (XS.r0_0 hX) ?_
      refine aw_iload_n dX10_lay_50 rfl ?_
      refine aw_aaload dX10_lay_51 (XS.s1 hX) ⟨by decide, by decide⟩ rfl hj (XS.rowr hX hj) ?_
      refine aw_getR dX10_lay_52 fgX10_80 rfl (StripS.s0 (XS.row hX hj)) (StripS.r0_0 (XS.row hX hj)) ?_
      refine aw_iload_n dX10_lay_55 rfl ?_
      refine aw_iload_n dX10_lay_56 rfl ?_
      refine aw_iastore dX10_lay_57 (StripS.s1 (XS.row hX hj)) rfl (by omega) ?_
      refine aw_iconst (v := nI 1) dX10_lay_58 kc_1 ?_
      refine aw_iret dX10_lay_59 rfl (rb0 (Nat.zero_le _)) ⟨rfl, _, rfl, ?_⟩
      rw [oLay_k v hj e1 hp (by have := hW.1 j hj k e1; omega)]
      refine ⟨rfl, CA_of (iv := telM X iv (D.2.1 j p)) (CA_tel hA) ?_ ?_, ?_, fun a ha => ?_, rfl⟩
      · rw [va_up_n (by omega), ← (hD.2.1 j p hj (by omega))]; rfl
      · rw [va_up_n (by omega), ← (hD.2.1 j p hj (by omega))]; rfl
      · refine CD_rw hj (fun q hq => ?_) (CD_of (fun a h1 h2 => va_up_n (by omega)) hD)
        rw [va_up_n (by omega)]
        unfold upd
        split
        · rfl
        · exact hD.2.1 j q hj hq
      · rw [va_up_n (PA_r hj ha).2, va_up_n (PA_X ha)]
    · obtain ⟨e0, hh⟩ := rp_1 h25
      rw [e0]
      refine aw_iload dX10_lay_28 rfl ?_
      refine aw_iret dX10_lay_30 rfl (rb0 (Nat.zero_le _)) ⟨rfl, _, rfl, ?_⟩
      rcases hh with e1 | ⟨k, e1, hb⟩
      · rw [show rpM X iv (D.1 j) i = fndM X iv 1 by rw [e1]; rfl]
        exact QX_fnd hA hD (by decide) (oLay_n i v hj e1)
      · rw [show rpM X iv (D.1 j) i = fndM X iv 2 by unfold rpM; rw [e1]; exact if_pos hb]
        exact QX_fnd hA hD (by decide) (oLay_b v hj e1 hb)
  · refine aw_iconst (v := (-1)) dX10_lay_8 kc_m1 ?_
    refine aw_iret dX10_lay_9 rfl (rb0 (Nat.zero_le _)) ⟨rfl, _, rfl, ?_⟩
    exact QX_no hA hD (if_pos (zi_bad h5))
theorem x_put {G : GC} {E : SH} {iv : IV} {lv : LV} {X : Nat} (hX : XS G E X) {A : AA} {D : DD} (hA : CA X A iv lv) (hD : CD X D iv) (hW : WD D) (r i v : Int32) : SpI G mX10_put 3 [.ref X, .int r, .int i, .int v] E iv lv (QX X iv lv (oPut A D r i v)) := by
  refine spec0_of (lo := [_,_,_,_,_,_]) (by decide) (Nat.le_of_ble_eq_true rfl) rfl ?_
  refine aw_aload_n dX10_put_0 rfl ?_
  refine aw_iload_n dX10_put_1 rfl ?_
  refine aw_xVi [_] dX10_put_2 cvX10_107 (XS.s0 hX) (e_isText r) rfl rfl (Nat.le_of_ble_eq_true rfl) (rb0 (by decide)) ?_
  refine aw_if_ne (tgt := 10) dX10_put_5 rfl (fun h5 => ?_) (fun h5 => ?_)
  · obtain ⟨j, hj, rfl⟩ := zi_of h5 (by decide)
    refine aw_aload_n dX10_put_10 rfl ?_
    refine aw_aload_n dX10_put_11 rfl ?_
    refine aw_getR dX10_put_12 fgX10_15 rfl (XS.s0 hX) (XS.r0_1 hX) ?_
    refine aw_iload_n dX10_put_15 rfl ?_
    refine aw_aaload dX10_put_16 (XS.s2 hX) ⟨by decide, by decide⟩ rfl hj (XS.textr hX hj) ?_
    refine aw_iload_n dX10_put_17 rfl ?_
    refine aw_xVi [_, _] dX10_put_18 cvX10_76 (XS.s0 hX) (e_refusal hX (XS.text hX hj) (q := D.2.2.1 j) (hD.2.2.1 j hj) (fun k hk => by have := hW.2 j hj k hk; omega) i) rfl rfl (Nat.le_of_ble_eq_true rfl) (rb0 (by decide)) ?_
    refine aw_istore (lo' := [_,_,_,_,_,_]) dX10_put_21 (Nat.le_of_ble_eq_true rfl) rfl ?_
    refine aw_iload dX10_put_23 rfl ?_
    refine aw_if_eq (tgt := 31) dX10_put_25 rfl (fun h25 => ?_) (fun h25 => ?_)
    · obtain ⟨k, e1, hb⟩ := rp_0 h25
      have hkk := hW.2 j hj k e1
      obtain ⟨p, hp, rfl⟩ := ix_of hb (by omega)
      rw [show rpM X iv (D.2.2.1 j) (nI p) = iv by unfold rpM; rw [e1]; exact if_neg hb]
      refine aw_aload_n dX10_put_31 rfl ?_
      refine aw_getR dX10_put_32 fgX10_15 rfl (XS.s0 hX) (XS.r0_1 hX) ?_
      refine aw_iload_n dX10_put_35 rfl ?_
      refine aw_aaload dX10_put_36 (XS.s2 hX) ⟨by decide, by decide⟩ rfl hj (XS.textr hX hj) ?_
      refine aw_getR dX10_put_37 fgX10_80 rfl (StripS.s0 (XS.text hX hj)) (StripS.r0_0 (XS.text hX hj)) ?_
      refine aw_iload_n dX10_put_40 rfl ?_
      refine aw_iaload dX10_put_41 (StripS.s1 (XS.text hX hj)) rfl (by omega) ?_
      refine aw_istore (lo' := [_,_,_,_,_,_]) dX10_put_42 (Nat.le_of_ble_eq_true rfl) rfl ?_
      refine aw_aload_n dX10_put_44 rfl ?_
      refine aw_getR dX10_put_45 fgX10_15 rfl (XS.s0 hX) (XS.r0_1 hX) ?_
      refine aw_iload_n dX10_put_48 rfl ?_
      refine aw_aaload dX10_put_49 (XS.s2 hX) ⟨by decide, by decide⟩ rfl hj (XS.textr hX hj) ?_
      refine aw_getR dX10_put_50 fgX10_80 rfl (StripS.s0 (XS.text hX hj)) (StripS.r0_0 (XS.text hX hj)) ?_
      refine aw_iload_n dX10_put_53 rfl ?_
      refine aw_iload_n dX10_put_54 rfl ?_
      refine aw_i2b dX10_put_55 ?_
      refine aw_iastore dX10_put_56 (StripS.s1 (XS.text hX hj)) rfl (by omega) ?_
      refine aw_iload dX10_put_57 rfl ?_
      refine aw_sipush (v := nI 1000) dX10_put_59 ks_1000 ?_
      refine aw_iadd dX10_put_62 ?_
      refine aw_iret dX10_put_63 rfl (rb0 (Nat.zero_le _)) ⟨rfl, _, rfl, ?_⟩
      rw [oPut_k v hj e1 hp (by have := hW.2 j hj k e1; omega)]
      refine ⟨by rw [← (hD.2.2.2 j p hj (by omega))], CA_of hA (va_up_n (by omega)) (va_up_n (by omega)), ?_, fun a ha => va_up_n (PA_t hj ha).2, rfl⟩
      refine CD_tx hj (fun q hq => ?_) hD
      unfold upd
      split
      · rfl
      · exact hD.2.2.2 j q hj hq
    · obtain ⟨e0, hh⟩ := rp_1 h25
      rw [e0]
      refine aw_iload dX10_put_28 rfl ?_
      refine aw_iret dX10_put_30 rfl (rb0 (Nat.zero_le _)) ⟨rfl, _, rfl, ?_⟩
      rcases hh with e1 | ⟨k, e1, hb⟩
      · rw [show rpM X iv (D.2.2.1 j) i = fndM X iv 1 by rw [e1]; rfl]
        exact QX_fnd hA hD (by decide) (oPut_n i v hj e1)
      · rw [show rpM X iv (D.2.2.1 j) i = fndM X iv 2 by unfold rpM; rw [e1]; exact if_pos hb]
        exact QX_fnd hA hD (by decide) (oPut_b v hj e1 hb)
  · refine aw_iconst (v := (-1)) dX10_put_8 kc_m1 ?_
    refine aw_iret dX10_put_9 rfl (rb0 (Nat.zero_le _)) ⟨rfl, _, rfl, ?_⟩
    exact QX_no hA hD (if_pos (zi_bad h5))
