theorem lo_meets {G : GC} {E : SH} {iv : IV} {lv : LV} {X : Nat} (hX : XS G E X) {A : AA} {D : DD} {s : TS} {m : Nat} {lg : Nat → TV} {kp : Nat → Option KL} (hA : CA X A iv lv) (hD : CD X D iv) (hT : CT X (s, (m, lg), kp) iv) (hW : WT (s, (m, lg), kp)) : ∀ (c i : Nat) (j4 : Option Value), i + c = s.1 → AW G mX10_meets (rm 4 0) (Z0 G 4 E (fun r i0 l => ∃ w, r = some (.int w) ∧ QC X iv lv (oMeets A D (s, (m, lg), kp)) w i0 l)) (fun _ => True) E.1 6 [some (.ref X), some (.int (nI (bitU (pmt s (lg m)) i))), some (.int (nI (cntU (pfg s (lg m)) i))), some (.int (nI i)), j4] [] E iv lv := by
  have hs : WS s := hW.1.1
  have hs7 : s.1 ≤ 7 := hs.1
  have hw : WV s (lg m) := nowW hW
  have hd : lg m 0 ≤ 40 := nowD hW
  have hf : TF (X + 5) s m lg iv := hT.1
  have hr : TR (X + 5) s (lg m) iv := hf.1
  have hm : m ≤ 40 := hW.1.2.1
  intro c
  induction c with
  | zero =>
    intro i j4 hi
    have hi : i = s.1 := by omega
    subst hi
    refine aw_iload_n dX10_meets_6 rfl ?_
    refine aw_aload_n dX10_meets_7 rfl ?_
    refine aw_getR dX10_meets_8 fgX10_28 rfl (XS.s0 hX) (XS.r0_3 hX) ?_
    refine aw_getI dX10_meets_11 fgX10_118 rfl (TownS.s0 (XS.town hX)) ?_
    refine aw_icmp_ge (tgt := 53) dX10_meets_14 rfl (fun h14 => ?_) (fun h14 => absurd (by rw [hr.1]; exact nI_le (Nat.le_refl _) (by omega)) h14)
    refine aw_aload_n dX10_meets_53 rfl ?_
    refine aw_iload_n dX10_meets_54 rfl ?_
    refine aw_putI dX10_meets_55 fpX10_51 rfl (XS.s0 hX) ?_
    refine aw_iload_n dX10_meets_58 rfl ?_
    refine aw_iret dX10_meets_59 rfl (rb0 (Nat.zero_le _)) ⟨rfl, _, rfl, ?_⟩
    refine QC_tel (i := iv) hA hD hT frQ_rf ?_
    rfl
  | succ c ih =>
    intro i j4 hi
    have hmd := mood_le s (lg m) i
    refine aw_iload_n dX10_meets_6 rfl ?_
    refine aw_aload_n dX10_meets_7 rfl ?_
    refine aw_getR dX10_meets_8 fgX10_28 rfl (XS.s0 hX) (XS.r0_3 hX) ?_
    refine aw_getI dX10_meets_11 fgX10_118 rfl (TownS.s0 (XS.town hX)) ?_
    refine aw_icmp_ge (tgt := 53) dX10_meets_14 rfl (fun h14 => absurd h14 (by rw [hr.1]; exact nI_ge (by omega) (by omega))) (fun h14 => ?_)
    refine aw_aload_n dX10_meets_17 rfl ?_
    refine aw_getR dX10_meets_18 fgX10_28 rfl (XS.s0 hX) (XS.r0_3 hX) ?_
    refine aw_iload_n dX10_meets_21 rfl ?_
    refine aw_xVi [_] dX10_meets_22 cvX10_192 (TownS.s0 (XS.town hX)) (t_moodOf (XS.town hX) hs hr hw (i := i) (by omega)) rfl rfl (Nat.le_of_ble_eq_true rfl) (rb0 (by decide)) ?_
    refine aw_istore (lo' := [_,_,_,_,_]) dX10_meets_25 (Nat.le_of_ble_eq_true rfl) rfl ?_
    refine aw_iload dX10_meets_27 rfl ?_
    refine aw_if_eq (tgt := 38) dX10_meets_29 rfl (fun h29 => ?_) (fun h29 => ?_)
    · rw [← nI_0, nI_eq (by omega) (by omega)] at h29
      refine aw_iload dX10_meets_38 rfl ?_
      refine aw_iconst (v := nI 1) dX10_meets_40 kc_1 ?_
      refine aw_icmp_ne (tgt := 47) dX10_meets_41 rfl (fun h41 => ?_) (fun h41 => ?_)
      · rw [nI_eq (by omega) (by omega)] at h41
        refine aw_iinc (v := _) (lo' := [_,_,_,_,_]) dX10_meets_47 rfl (nI_1 i) rfl ?_
        refine aw_goto (tgt := 6) dX10_meets_50 rfl ?_
        have h := ih (i + 1) (some (.int (nI (mood s (lg m) i)))) (by omega)
        first
          | (have e1 : pmt s (lg m) i = false := decide_eq_false (fun q => q h29)
             have e2 : pfg s (lg m) i = true := decide_eq_true h41
             rw [bitU_f e1] at h
             rw [cntU, e2] at h
             exact h)
          | (have e1 : pmt s (lg m) i = false := decide_eq_false (fun q => q h29)
             have e2 : pfg s (lg m) i = false := decide_eq_false h41
             rw [bitU_f e1] at h
             rw [cntU, e2] at h
             exact h)
          | (have e1 : pmt s (lg m) i = true := decide_eq_true h29
             have e2 : pfg s (lg m) i = true := decide_eq_true h41
             skip
             rw [cntU, e2] at h
             exact h)
          | (have e1 : pmt s (lg m) i = true := decide_eq_true h29
             have e2 : pfg s (lg m) i = false := decide_eq_false h41
             skip
             rw [cntU, e2] at h
             exact h)
      · rw [nI_eq (by omega) (by omega)] at h41
        refine aw_iinc (v := _) (lo' := [_,_,_,_,_]) dX10_meets_44 rfl (nI_1 _) rfl ?_
        refine aw_iinc (v := _) (lo' := [_,_,_,_,_]) dX10_meets_47 rfl (nI_1 i) rfl ?_
        refine aw_goto (tgt := 6) dX10_meets_50 rfl ?_
        have h := ih (i + 1) (some (.int (nI (mood s (lg m) i)))) (by omega)
        first
          | (have e1 : pmt s (lg m) i = false := decide_eq_false (fun q => q h29)
             have e2 : pfg s (lg m) i = true := decide_eq_true h41
             rw [bitU_f e1] at h
             rw [cntU, e2] at h
             exact h)
          | (have e1 : pmt s (lg m) i = false := decide_eq_false (fun q => q h29)
             have e2 : pfg s (lg m) i = false := decide_eq_false h41
             rw [bitU_f e1] at h
             rw [cntU, e2] at h
             exact h)
          | (have e1 : pmt s (lg m) i = true := decide_eq_true h29
             have e2 : pfg s (lg m) i = true := decide_eq_true h41
             skip
             rw [cntU, e2] at h
             exact h)
          | (have e1 : pmt s (lg m) i = true := decide_eq_true h29
             have e2 : pfg s (lg m) i = false := decide_eq_false h41
             skip
             rw [cntU, e2] at h
             exact h)
    · rw [← nI_0, nI_eq (by omega) (by omega)] at h29
      refine aw_iload_n dX10_meets_32 rfl ?_
      refine aw_iconst (v := nI 1) dX10_meets_33 kc_1 ?_
      refine aw_iload_n dX10_meets_34 rfl ?_
      refine aw_ishl dX10_meets_35 ?_
      refine aw_ior dX10_meets_36 ?_
      rw [bitU_t (p := pmt s (lg m)) (by omega) (decide_eq_true h29)]
      refine aw_istore_n (lo' := [_,_,_,_,_]) dX10_meets_37 (Nat.le_of_ble_eq_true rfl) rfl ?_
      refine aw_iload dX10_meets_38 rfl ?_
      refine aw_iconst (v := nI 1) dX10_meets_40 kc_1 ?_
      refine aw_icmp_ne (tgt := 47) dX10_meets_41 rfl (fun h41 => ?_) (fun h41 => ?_)
      · rw [nI_eq (by omega) (by omega)] at h41
        refine aw_iinc (v := _) (lo' := [_,_,_,_,_]) dX10_meets_47 rfl (nI_1 i) rfl ?_
        refine aw_goto (tgt := 6) dX10_meets_50 rfl ?_
        have h := ih (i + 1) (some (.int (nI (mood s (lg m) i)))) (by omega)
        first
          | (have e1 : pmt s (lg m) i = false := decide_eq_false (fun q => q h29)
             have e2 : pfg s (lg m) i = true := decide_eq_true h41
             rw [bitU_f e1] at h
             rw [cntU, e2] at h
             exact h)
          | (have e1 : pmt s (lg m) i = false := decide_eq_false (fun q => q h29)
             have e2 : pfg s (lg m) i = false := decide_eq_false h41
             rw [bitU_f e1] at h
             rw [cntU, e2] at h
             exact h)
          | (have e1 : pmt s (lg m) i = true := decide_eq_true h29
             have e2 : pfg s (lg m) i = true := decide_eq_true h41
             skip
             rw [cntU, e2] at h
             exact h)
          | (have e1 : pmt s (lg m) i = true := decide_eq_true h29
             have e2 : pfg s (lg m) i = false := decide_eq_false h41
             skip
             rw [cntU, e2] at h
             exact h)
      · rw [nI_eq (by omega) (by omega)] at h41
        refine aw_iinc (v := _) (lo' := [_,_,_,_,_]) dX10_meets_44 rfl (nI_1 _) rfl ?_
        refine aw_iinc (v := _) (lo' := [_,_,_,_,_]) dX10_meets_47 rfl (nI_1 i) rfl ?_
        refine aw_goto (tgt := 6) dX10_meets_50 rfl ?_
        have h := ih (i + 1) (some (.int (nI (mood s (lg m) i)))) (by omega)
        first
          | (have e1 : pmt s (lg m) i = false := decide_eq_false (fun q => q h29)
             have e2 : pfg s (lg m) i = true := decide_eq_true h41
             rw [bitU_f e1] at h
             rw [cntU, e2] at h
             exact h)
          | (have e1 : pmt s (lg m) i = false := decide_eq_false (fun q => q h29)
             have e2 : pfg s (lg m) i = false := decide_eq_false h41
             rw [bitU_f e1] at h
             rw [cntU, e2] at h
             exact h)
          | (have e1 : pmt s (lg m) i = true := decide_eq_true h29
             have e2 : pfg s (lg m) i = true := decide_eq_true h41
             skip
             rw [cntU, e2] at h
             exact h)
          | (have e1 : pmt s (lg m) i = true := decide_eq_true h29
             have e2 : pfg s (lg m) i = false := decide_eq_false h41
             skip
             rw [cntU, e2] at h
             exact h)
theorem x_meets {G : GC} {E : SH} {iv : IV} {lv : LV} {X : Nat} (hX : XS G E X) {A : AA} {D : DD} {T : FT} (hA : CA X A iv lv) (hD : CD X D iv) (hT : CT X T iv) (hW : WT T) : SpI G mX10_meets 4 [.ref X] E iv lv (QC X iv lv (oMeets A D T)) := by
  obtain ⟨s, ⟨m, lg⟩, kp⟩ := T
  refine spec0_of (lo := [_,_,_,_,_]) (by decide) (Nat.le_of_ble_eq_true rfl) rfl ?_
  refine aw_iconst (v := nI 0) dX10_meets_0 kc_0 ?_
  refine aw_istore_n (lo' := [_,_,_,_,_]) dX10_meets_1 (Nat.le_of_ble_eq_true rfl) rfl ?_
  refine aw_iconst (v := nI 0) dX10_meets_2 kc_0 ?_
  refine aw_istore_n (lo' := [_,_,_,_,_]) dX10_meets_3 (Nat.le_of_ble_eq_true rfl) rfl ?_
  refine aw_iconst (v := nI 0) dX10_meets_4 kc_0 ?_
  refine aw_istore_n (lo' := [_,_,_,_,_]) dX10_meets_5 (Nat.le_of_ble_eq_true rfl) rfl ?_
  exact lo_meets hX hA hD hT hW s.1 0 none (by omega)
theorem x_later {G : GC} {E : SH} {iv : IV} {lv : LV} {X : Nat} (hX : XS G E X) {A : AA} {D : DD} {T : FT} (hA : CA X A iv lv) (hD : CD X D iv) (hT : CT X T iv) (hW : WT T) (i n : Int32) : SpI G mX10_later 6 [.ref X, .int i, .int n] E iv lv (QC X iv lv (oLater A D T i n)) := by
  obtain ⟨s, ⟨m, lg⟩, kp⟩ := T
  have hs : WS s := hW.1.1
  have hs7 : s.1 ≤ 7 := hs.1
  have hw : WV s (lg m) := nowW hW
  have hd : lg m 0 ≤ 40 := nowD hW
  have hf : TF (X + 5) s m lg iv := hT.1
  have hr : TR (X + 5) s (lg m) iv := hf.1
  have hm : m ≤ 40 := hW.1.2.1
  refine spec0_of (lo := [_,_,_]) (by decide) (Nat.le_of_ble_eq_true rfl) rfl ?_
  refine aw_aload_n dX10_later_0 rfl ?_
  refine aw_iload_n dX10_later_1 rfl ?_
  refine aw_xVi [_] dX10_later_2 cvX10_121 (XS.s0 hX) (e_isPerson hX hr.1 i) rfl rfl (Nat.le_of_ble_eq_true rfl) (rb0 (by decide)) ?_
  refine aw_if_eq (tgt := 18) dX10_later_5 rfl (fun h5 => ?_) (fun h5 => ?_)
  · refine aw_iconst (v := (-1)) dX10_later_18 kc_m1 ?_
    refine aw_iret dX10_later_19 rfl (rb0 (Nat.zero_le _)) ⟨rfl, _, rfl, ?_⟩
    refine QC_no hA hD hT ?_
    dsimp only [oLater, nowT]
    
    first
      | exact if_pos (Or.inl (zi_bad h5))
      | exact if_pos (Or.inr (Or.inl h9))
      | exact if_pos (Or.inr (Or.inr (Int32.not_le.mp h15)))
  · obtain ⟨j, hj, rfl⟩ := zi_of h5 (by omega)
    refine aw_iload_n dX10_later_8 rfl ?_
    refine aw_if_lt (tgt := 18) dX10_later_9 rfl (fun h9 => ?_) (fun h9 => ?_)
    · refine aw_iconst (v := (-1)) dX10_later_18 kc_m1 ?_
      refine aw_iret dX10_later_19 rfl (rb0 (Nat.zero_le _)) ⟨rfl, _, rfl, ?_⟩
      refine QC_no hA hD hT ?_
      dsimp only [oLater, nowT]
      
      first
        | exact if_pos (Or.inl (zi_bad h5))
        | exact if_pos (Or.inr (Or.inl h9))
        | exact if_pos (Or.inr (Or.inr (Int32.not_le.mp h15)))
    · refine aw_iload_n dX10_later_12 rfl ?_
      refine aw_bipush (v := nI 60) dX10_later_13 kb_60 ?_
      refine aw_icmp_le (tgt := 20) dX10_later_15 rfl (fun h15 => ?_) (fun h15 => ?_)
      · obtain ⟨u, hu, rfl⟩ := ix_le (n := n) (k := 60) h9 (Int32.not_lt.mpr h15) (by decide)
        refine aw_aload_n dX10_later_20 rfl ?_
        refine aw_getR dX10_later_21 fgX10_39 rfl (XS.s0 hX) (XS.r0_5 hX) ?_
        refine aw_aload_n dX10_later_24 rfl ?_
        refine aw_getR dX10_later_25 fgX10_28 rfl (XS.s0 hX) (XS.r0_3 hX) ?_
        refine aw_xVv [_] dX10_later_28 cvX10_195 (OutS.s0 (XS.out hX)) (o_lookAt (XS.out hX) (XS.town hX)) rfl rfl (Nat.le_of_ble_eq_true rfl) (rb0 (by decide)) ?_
        have ho := TR_bec (T := X + 26 + 1) (U := X + 5) hs7 (by omega) hr
        have hq : frQ (X + 26) (becM (X + 26 + 1) (X + 5) iv) iv := fun b hb => bec_o (by omega) (by omega)
        generalize becM (X + 26 + 1) (X + 5) iv = oiv at ho hq ⊢
        refine aw_aload_n dX10_later_31 rfl ?_
        refine aw_aload_n dX10_later_32 rfl ?_
        refine aw_getR dX10_later_33 fgX10_39 rfl (XS.s0 hX) (XS.r0_5 hX) ?_
        refine aw_iload_n dX10_later_36 rfl ?_
        refine aw_sVi [_] dX10_later_37 cvX10_198 (OutS.s0 (XS.out hX)) (o_behind (XS.out hX) hs ho hw (n := u) (by omega)) rfl rfl (Nat.le_of_ble_eq_true rfl) (rb0 (by decide)) (fun kw kv klv hk => ?_)
        obtain ⟨k0, k1, k2, rfl⟩ := hk
        subst k0
        have hkq := frQ_tr (frO_Q k2) hq
        refine aw_putI dX10_later_40 fpX10_51 rfl (XS.s0 hX) ?_
        refine aw_aload_n dX10_later_43 rfl ?_
        refine aw_getR dX10_later_44 fgX10_39 rfl (XS.s0 hX) (XS.r0_5 hX) ?_
        refine aw_getR dX10_later_47 fgX10_201 rfl (OutS.s0 (XS.out hX)) (OutS.r0_4 (XS.out hX)) ?_
        refine aw_iload_n dX10_later_50 rfl ?_
        refine aw_iaload dX10_later_51 (OutS.s30 (XS.out hX)) rfl (by omega) ?_
        rw [va_up_n (by omega), k1.2.2.1 j hj]
        refine aw_iret dX10_later_52 rfl (rb0 (Nat.zero_le _)) ⟨rfl, _, rfl, ?_⟩
        refine QC_tel hA hD hT hkq ?_
        dsimp only [oLater, nowT]
        
        rw [if_neg (fun q => q.elim (nbad hj (by omega)) (fun q => q.elim h9 (Int32.not_lt.mpr h15))), ix_nI (by omega), ix_nI (by omega)]
        rfl
      · refine aw_iconst (v := (-1)) dX10_later_18 kc_m1 ?_
        refine aw_iret dX10_later_19 rfl (rb0 (Nat.zero_le _)) ⟨rfl, _, rfl, ?_⟩
        refine QC_no hA hD hT ?_
        dsimp only [oLater, nowT]
        
        first
          | exact if_pos (Or.inl (zi_bad h5))
          | exact if_pos (Or.inr (Or.inl h9))
          | exact if_pos (Or.inr (Or.inr (Int32.not_le.mp h15)))
theorem x_left {G : GC} {E : SH} {iv : IV} {lv : LV} {X : Nat} (hX : XS G E X) {A : AA} {D : DD} {T : FT} (hA : CA X A iv lv) (hD : CD X D iv) (hT : CT X T iv) (hW : WT T) (n : Int32) : SpI G mX10_left 6 [.ref X, .int n] E iv lv (QC X iv lv (oLeft A D T n)) := by
  obtain ⟨s, ⟨m, lg⟩, kp⟩ := T
  have hs : WS s := hW.1.1
  have hs7 : s.1 ≤ 7 := hs.1
  have hw : WV s (lg m) := nowW hW
  have hd : lg m 0 ≤ 40 := nowD hW
  have hf : TF (X + 5) s m lg iv := hT.1
  have hr : TR (X + 5) s (lg m) iv := hf.1
  have hm : m ≤ 40 := hW.1.2.1
  refine spec0_of (lo := [_,_,_]) (by decide) (Nat.le_of_ble_eq_true rfl) rfl ?_
  refine aw_iload_n dX10_left_0 rfl ?_
  refine aw_if_lt (tgt := 10) dX10_left_1 rfl (fun h1 => ?_) (fun h1 => ?_)
  · refine aw_iconst (v := (-1)) dX10_left_10 kc_m1 ?_
    refine aw_iret dX10_left_11 rfl (rb0 (Nat.zero_le _)) ⟨rfl, _, rfl, ?_⟩
    refine QC_no hA hD hT ?_
    dsimp only [oLeft, nowT]
    
    first
      | exact if_pos (Or.inl h1)
      | exact if_pos (Or.inr (Int32.not_le.mp h7))
  · refine aw_iload_n dX10_left_4 rfl ?_
    refine aw_bipush (v := nI 60) dX10_left_5 kb_60 ?_
    refine aw_icmp_le (tgt := 12) dX10_left_7 rfl (fun h7 => ?_) (fun h7 => ?_)
    · obtain ⟨u, hu, rfl⟩ := ix_le (n := n) (k := 60) h1 (Int32.not_lt.mpr h7) (by decide)
      refine aw_aload_n dX10_left_12 rfl ?_
      refine aw_getR dX10_left_13 fgX10_28 rfl (XS.s0 hX) (XS.r0_3 hX) ?_
      refine aw_xVi [] dX10_left_16 cvX10_131 (TownS.s0 (XS.town hX)) (t_hasPeople (XS.town hX) hr.1 (by omega)) rfl rfl (Nat.le_of_ble_eq_true rfl) (rb0 (by decide)) ?_
      refine aw_if_ne (tgt := 25) dX10_left_19 rfl (fun h19 => ?_) (fun h19 => ?_)
      · have hnp : s.1 ≠ 0 := zI_n0.mp h19
        refine aw_aload_n dX10_left_25 rfl ?_
        refine aw_getR dX10_left_26 fgX10_39 rfl (XS.s0 hX) (XS.r0_5 hX) ?_
        refine aw_aload_n dX10_left_29 rfl ?_
        refine aw_getR dX10_left_30 fgX10_28 rfl (XS.s0 hX) (XS.r0_3 hX) ?_
        refine aw_xVv [_] dX10_left_33 cvX10_195 (OutS.s0 (XS.out hX)) (o_lookAt (XS.out hX) (XS.town hX)) rfl rfl (Nat.le_of_ble_eq_true rfl) (rb0 (by decide)) ?_
        have ho := TR_bec (T := X + 26 + 1) (U := X + 5) hs7 (by omega) hr
        have hq : frQ (X + 26) (becM (X + 26 + 1) (X + 5) iv) iv := fun b hb => bec_o (by omega) (by omega)
        generalize becM (X + 26 + 1) (X + 5) iv = oiv at ho hq ⊢
        refine aw_aload_n dX10_left_36 rfl ?_
        refine aw_getR dX10_left_37 fgX10_39 rfl (XS.s0 hX) (XS.r0_5 hX) ?_
        refine aw_iload_n dX10_left_40 rfl ?_
        refine aw_sVi [_] dX10_left_41 cvX10_198 (OutS.s0 (XS.out hX)) (o_behind (XS.out hX) hs ho hw (n := u) (by omega)) rfl rfl (Nat.le_of_ble_eq_true rfl) (rb0 (by decide)) (fun kw kv klv hk => ?_)
        obtain ⟨k0, k1, k2, rfl⟩ := hk
        subst k0
        have hkq := frQ_tr (frO_Q k2) hq
        refine aw_istore_n (lo' := [_,_,_]) dX10_left_44 (Nat.le_of_ble_eq_true rfl) rfl ?_
        refine aw_aload_n dX10_left_45 rfl ?_
        refine aw_aload_n dX10_left_46 rfl ?_
        refine aw_getR dX10_left_47 fgX10_39 rfl (XS.s0 hX) (XS.r0_5 hX) ?_
        refine aw_xVi [] dX10_left_50 cvX10_208 (OutS.s0 (XS.out hX)) (o_peace (XS.out hX) hs hw k1 (by omega)) rfl rfl (Nat.le_of_ble_eq_true rfl) (rb0 (by decide)) ?_
        refine aw_putI dX10_left_53 fpX10_51 rfl (XS.s0 hX) ?_
        refine aw_iload_n dX10_left_56 rfl ?_
        refine aw_iret dX10_left_57 rfl (rb0 (Nat.zero_le _)) ⟨rfl, _, rfl, ?_⟩
        refine QC_tel hA hD hT hkq ?_
        dsimp only [oLeft, nowT]
        
        rw [if_neg (fun q => q.elim h1 (Int32.not_lt.mpr h7)), if_neg hnp, ix_nI (by omega)]
        rfl
      · have hnp : s.1 = 0 := Decidable.not_not.mp (zI_0.mp h19)
        refine aw_bipush (v := (-4)) dX10_left_22 kb_m4 ?_
        refine aw_iret dX10_left_24 rfl (rb0 (Nat.zero_le _)) ⟨rfl, _, rfl, ?_⟩
        refine QC_no hA hD hT ?_
        dsimp only [oLeft, nowT]
        
        rw [if_neg (fun q => q.elim h1 (Int32.not_lt.mpr h7)), if_pos hnp]
    · refine aw_iconst (v := (-1)) dX10_left_10 kc_m1 ?_
      refine aw_iret dX10_left_11 rfl (rb0 (Nat.zero_le _)) ⟨rfl, _, rfl, ?_⟩
      refine QC_no hA hD hT ?_
      dsimp only [oLeft, nowT]
      
      first
        | exact if_pos (Or.inl h1)
        | exact if_pos (Or.inr (Int32.not_le.mp h7))
theorem QC_pas {X : Nat} {A : AA} {D : DD} {T : FT} {iv i : IV} {lv : LV} {o : RS} {w : Int32} (hA : CA X A iv lv) (hD : CD X D iv) (hT : CT X T iv) (hq : frQ (X + 26) i iv) (e0 : w = -9 → o = (-9, A, D, T)) (e1 : w ≠ -9 → o = (w, tel A (i (X + 26) 6), D, T)) : QC X iv lv o w (if w = -9 then i else telM X i (i (X + 26) 6)) lv := by
  by_cases h : w = -9
  · rw [if_pos h]
    refine QC_out hA hD hT hq ?_
    rw [h]; exact e0 h
  · rw [if_neg h]
    exact QC_tel hA hD hT hq (e1 h)
theorem nI_n9 {k : Nat} (h : k < 2 ^ 31) : nI k ≠ -9 := fun q => absurd (show nI k < 0 by rw [q]; decide) (nI_pos h)
theorem fz_lt {f : Nat → Nat} : ∀ {k e : Nat}, fz f k = some e → e < k
  | 0, _, h => by cases h
  | k + 1, e, h => by
    rw [fz] at h
    cases q : fz f k with
    | some d =>
      rw [q] at h
      cases h
      have := fz_lt q
      omega
    | none =>
      rw [q] at h
      dsimp only at h
      split at h
      · cases h; omega
      · cases h
theorem bst_1 {f : Nat → Nat} : ∀ k, (bst f k).1 ≤ k
  | 0 => Nat.le_refl 0
  | k + 1 => by
    have h := bst_1 (f := f) k
    unfold bst
    split
    · exact Nat.zero_le _
    · split
      · exact Nat.le_succ k
      · omega
theorem x_peace {G : GC} {E : SH} {iv : IV} {lv : LV} {X : Nat} (hX : XS G E X) {A : AA} {D : DD} {T : FT} (hA : CA X A iv lv) (hD : CD X D iv) (hT : CT X T iv) (hW : WT T) : SpI G mX10_peace 6 [.ref X] E iv lv (QC X iv lv (oPeace A D T)) := by
  obtain ⟨s, ⟨m, lg⟩, kp⟩ := T
  have hs : WS s := hW.1.1
  have hs7 : s.1 ≤ 7 := hs.1
  have hw : WV s (lg m) := nowW hW
  have hd : lg m 0 ≤ 40 := nowD hW
  have hf : TF (X + 5) s m lg iv := hT.1
  have hr : TR (X + 5) s (lg m) iv := hf.1
  have hm : m ≤ 40 := hW.1.2.1
  refine spec0_of (lo := [_]) (by decide) (Nat.le_of_ble_eq_true rfl) rfl ?_
  refine aw_aload_n dX10_peace_0 rfl ?_
  refine aw_getR dX10_peace_1 fgX10_28 rfl (XS.s0 hX) (XS.r0_3 hX) ?_
  refine aw_xVi [] dX10_peace_4 cvX10_131 (TownS.s0 (XS.town hX)) (t_hasPeople (XS.town hX) hr.1 (by omega)) rfl rfl (Nat.le_of_ble_eq_true rfl) (rb0 (by decide)) ?_
  refine aw_if_ne (tgt := 13) dX10_peace_7 rfl (fun h7 => ?_) (fun h7 => ?_)
  · have hnp : s.1 ≠ 0 := zI_n0.mp h7
    refine aw_aload_n dX10_peace_13 rfl ?_
    refine aw_getR dX10_peace_14 fgX10_39 rfl (XS.s0 hX) (XS.r0_5 hX) ?_
    refine aw_aload_n dX10_peace_17 rfl ?_
    refine aw_getR dX10_peace_18 fgX10_28 rfl (XS.s0 hX) (XS.r0_3 hX) ?_
    refine aw_xVv [_] dX10_peace_21 cvX10_195 (OutS.s0 (XS.out hX)) (o_lookAt (XS.out hX) (XS.town hX)) rfl rfl (Nat.le_of_ble_eq_true rfl) (rb0 (by decide)) ?_
    have ho := TR_bec (T := X + 26 + 1) (U := X + 5) hs7 (by omega) hr
    have hq : frQ (X + 26) (becM (X + 26 + 1) (X + 5) iv) iv := fun b hb => bec_o (by omega) (by omega)
    generalize becM (X + 26 + 1) (X + 5) iv = oiv at ho hq ⊢
    refine aw_aload_n dX10_peace_24 rfl ?_
    refine aw_aload_n dX10_peace_25 rfl ?_
    refine aw_getR dX10_peace_26 fgX10_39 rfl (XS.s0 hX) (XS.r0_5 hX) ?_
    refine aw_sVi [] dX10_peace_29 cvX10_202 (OutS.s0 (XS.out hX)) (o_till (XS.out hX) hs ho hw (by omega)) rfl rfl (Nat.le_of_ble_eq_true rfl) (rb0 (by decide)) (fun kw kv klv hk => ?_)
    obtain ⟨k0, k1, k2, rfl⟩ := hk
    have hkq := frQ_tr k2 hq
    refine aw_xVi [_] dX10_peace_32 cvX10_205 (XS.s0 hX) (e_passOn hX kw) rfl rfl (Nat.le_of_ble_eq_true rfl) (rb0 (by decide)) ?_
    refine aw_iret dX10_peace_35 rfl (rb0 (Nat.zero_le _)) ⟨rfl, _, rfl, ?_⟩
    dsimp only [oPeace, nowT]
    
    rw [if_neg hnp]
    cases hz : fz (gd s (lg m)) 121 with
    | none =>
      rw [hz] at k0
      exact QC_pas hA hD hT hkq (fun _ => rfl) (fun q => absurd k0 q)
    | some e =>
      rw [hz] at k0
      have he := fz_lt hz
      refine QC_pas hA hD hT hkq (fun q => absurd (k0.symm.trans q) (nI_n9 (by omega))) (fun q => ?_)
      rw [k0, k1 e hz]
      rfl
  · have hnp : s.1 = 0 := Decidable.not_not.mp (zI_0.mp h7)
    refine aw_bipush (v := (-4)) dX10_peace_10 kb_m4 ?_
    refine aw_iret dX10_peace_12 rfl (rb0 (Nat.zero_le _)) ⟨rfl, _, rfl, ?_⟩
    refine QC_no hA hD hT ?_
    dsimp only [oPeace, nowT]
    
    rw [if_pos hnp]
theorem x_ash {G : GC} {E : SH} {iv : IV} {lv : LV} {X : Nat} (hX : XS G E X) {A : AA} {D : DD} {T : FT} (hA : CA X A iv lv) (hD : CD X D iv) (hT : CT X T iv) (hW : WT T) (n : Int32) : SpI G mX10_ash 7 [.ref X, .int n] E iv lv (QC X iv lv (oAsh A D T n)) := by
  obtain ⟨s, ⟨m, lg⟩, kp⟩ := T
  have hs : WS s := hW.1.1
  have hs7 : s.1 ≤ 7 := hs.1
  have hw : WV s (lg m) := nowW hW
  have hd : lg m 0 ≤ 40 := nowD hW
  have hf : TF (X + 5) s m lg iv := hT.1
  have hr : TR (X + 5) s (lg m) iv := hf.1
  have hm : m ≤ 40 := hW.1.2.1
  refine spec0_of (lo := [_,_]) (by decide) (Nat.le_of_ble_eq_true rfl) rfl ?_
  refine aw_iload_n dX10_ash_0 rfl ?_
  refine aw_iconst (v := nI 1) dX10_ash_1 kc_1 ?_
  refine aw_icmp_lt (tgt := 11) dX10_ash_2 rfl (fun h2 => ?_) (fun h2 => ?_)
  · refine aw_iconst (v := (-1)) dX10_ash_11 kc_m1 ?_
    refine aw_iret dX10_ash_12 rfl (rb0 (Nat.zero_le _)) ⟨rfl, _, rfl, ?_⟩
    refine QC_no hA hD hT ?_
    dsimp only [oAsh, nowT]
    
    first
      | exact if_pos (Or.inl h2)
      | exact if_pos (Or.inr (Int32.not_le.mp h8))
  · refine aw_iload_n dX10_ash_5 rfl ?_
    refine aw_bipush (v := nI 40) dX10_ash_6 kb_40 ?_
    refine aw_icmp_le (tgt := 13) dX10_ash_8 rfl (fun h8 => ?_) (fun h8 => ?_)
    · obtain ⟨u, hu1, hu, rfl⟩ := ix_1 (n := n) (k := 40) h2 (Int32.not_lt.mpr h8) (by decide)
      refine aw_aload_n dX10_ash_13 rfl ?_
      refine aw_getR dX10_ash_14 fgX10_28 rfl (XS.s0 hX) (XS.r0_3 hX) ?_
      refine aw_xVi [] dX10_ash_17 cvX10_131 (TownS.s0 (XS.town hX)) (t_hasPeople (XS.town hX) hr.1 (by omega)) rfl rfl (Nat.le_of_ble_eq_true rfl) (rb0 (by decide)) ?_
      refine aw_if_ne (tgt := 26) dX10_ash_20 rfl (fun h20 => ?_) (fun h20 => ?_)
      · have hnp : s.1 ≠ 0 := zI_n0.mp h20
        refine aw_aload_n dX10_ash_26 rfl ?_
        refine aw_getR dX10_ash_27 fgX10_39 rfl (XS.s0 hX) (XS.r0_5 hX) ?_
        refine aw_aload_n dX10_ash_30 rfl ?_
        refine aw_getR dX10_ash_31 fgX10_28 rfl (XS.s0 hX) (XS.r0_3 hX) ?_
        refine aw_xVv [_] dX10_ash_34 cvX10_195 (OutS.s0 (XS.out hX)) (o_lookAt (XS.out hX) (XS.town hX)) rfl rfl (Nat.le_of_ble_eq_true rfl) (rb0 (by decide)) ?_
        have ho := TR_bec (T := X + 26 + 1) (U := X + 5) hs7 (by omega) hr
        have hq : frQ (X + 26) (becM (X + 26 + 1) (X + 5) iv) iv := fun b hb => bec_o (by omega) (by omega)
        generalize becM (X + 26 + 1) (X + 5) iv = oiv at ho hq ⊢
        refine aw_aload_n dX10_ash_37 rfl ?_
        refine aw_aload_n dX10_ash_38 rfl ?_
        refine aw_getR dX10_ash_39 fgX10_39 rfl (XS.s0 hX) (XS.r0_5 hX) ?_
        refine aw_iload_n dX10_ash_42 rfl ?_
        refine aw_sVi [_] dX10_ash_43 cvX10_211 (OutS.s0 (XS.out hX)) (o_depth (XS.out hX) hs ho hw (n := u) (by omega)) rfl rfl (Nat.le_of_ble_eq_true rfl) (rb0 (by decide)) (fun kw kv klv hk => ?_)
        obtain ⟨k0, k1, k2, rfl⟩ := hk
        have hkq := frQ_tr k2 hq
        refine aw_xVi [_] dX10_ash_46 cvX10_205 (XS.s0 hX) (e_passOn hX kw) rfl rfl (Nat.le_of_ble_eq_true rfl) (rb0 (by decide)) ?_
        refine aw_iret dX10_ash_49 rfl (rb0 (Nat.zero_le _)) ⟨rfl, _, rfl, ?_⟩
        dsimp only [oAsh, nowT]
        
        rw [if_neg (fun q => q.elim h2 (Int32.not_lt.mpr h8)), if_neg hnp, ix_nI (by omega)]
        have hb := bst_1 (f := fAsh s (lg m) u) 10
        refine QC_pas hA hD hT hkq (fun q => absurd (k0.symm.trans q) (nI_n9 (by omega))) (fun q => ?_)
        rw [k0, k1]
      · have hnp : s.1 = 0 := Decidable.not_not.mp (zI_0.mp h20)
        refine aw_bipush (v := (-4)) dX10_ash_23 kb_m4 ?_
        refine aw_iret dX10_ash_25 rfl (rb0 (Nat.zero_le _)) ⟨rfl, _, rfl, ?_⟩
        refine QC_no hA hD hT ?_
        dsimp only [oAsh, nowT]
        
        rw [if_neg (fun q => q.elim h2 (Int32.not_lt.mpr h8)), if_pos hnp]
    · refine aw_iconst (v := (-1)) dX10_ash_11 kc_m1 ?_
      refine aw_iret dX10_ash_12 rfl (rb0 (Nat.zero_le _)) ⟨rfl, _, rfl, ?_⟩
      refine QC_no hA hD hT ?_
      dsimp only [oAsh, nowT]
      
      first
        | exact if_pos (Or.inl h2)
        | exact if_pos (Or.inr (Int32.not_le.mp h8))
theorem x_best {G : GC} {E : SH} {iv : IV} {lv : LV} {X : Nat} (hX : XS G E X) {A : AA} {D : DD} {T : FT} (hA : CA X A iv lv) (hD : CD X D iv) (hT : CT X T iv) (hW : WT T) (n : Int32) : SpI G mX10_best 7 [.ref X, .int n] E iv lv (QC X iv lv (oBest A D T n)) := by
  obtain ⟨s, ⟨m, lg⟩, kp⟩ := T
  have hs : WS s := hW.1.1
  have hs7 : s.1 ≤ 7 := hs.1
  have hw : WV s (lg m) := nowW hW
  have hd : lg m 0 ≤ 40 := nowD hW
  have hf : TF (X + 5) s m lg iv := hT.1
  have hr : TR (X + 5) s (lg m) iv := hf.1
  have hm : m ≤ 40 := hW.1.2.1
  refine spec0_of (lo := [_,_]) (by decide) (Nat.le_of_ble_eq_true rfl) rfl ?_
  refine aw_iload_n dX10_best_0 rfl ?_
  refine aw_iconst (v := nI 1) dX10_best_1 kc_1 ?_
  refine aw_icmp_lt (tgt := 11) dX10_best_2 rfl (fun h2 => ?_) (fun h2 => ?_)
  · refine aw_iconst (v := (-1)) dX10_best_11 kc_m1 ?_
    refine aw_iret dX10_best_12 rfl (rb0 (Nat.zero_le _)) ⟨rfl, _, rfl, ?_⟩
    refine QC_no hA hD hT ?_
    dsimp only [oBest, nowT]
    
    first
      | exact if_pos (Or.inl h2)
      | exact if_pos (Or.inr (Int32.not_le.mp h8))
  · refine aw_iload_n dX10_best_5 rfl ?_
    refine aw_bipush (v := nI 40) dX10_best_6 kb_40 ?_
    refine aw_icmp_le (tgt := 13) dX10_best_8 rfl (fun h8 => ?_) (fun h8 => ?_)
    · obtain ⟨u, hu1, hu, rfl⟩ := ix_1 (n := n) (k := 40) h2 (Int32.not_lt.mpr h8) (by decide)
      refine aw_aload_n dX10_best_13 rfl ?_
      refine aw_getR dX10_best_14 fgX10_28 rfl (XS.s0 hX) (XS.r0_3 hX) ?_
      refine aw_xVi [] dX10_best_17 cvX10_131 (TownS.s0 (XS.town hX)) (t_hasPeople (XS.town hX) hr.1 (by omega)) rfl rfl (Nat.le_of_ble_eq_true rfl) (rb0 (by decide)) ?_
      refine aw_if_ne (tgt := 26) dX10_best_20 rfl (fun h20 => ?_) (fun h20 => ?_)
      · have hnp : s.1 ≠ 0 := zI_n0.mp h20
        refine aw_aload_n dX10_best_26 rfl ?_
        refine aw_getR dX10_best_27 fgX10_39 rfl (XS.s0 hX) (XS.r0_5 hX) ?_
        refine aw_aload_n dX10_best_30 rfl ?_
        refine aw_getR dX10_best_31 fgX10_28 rfl (XS.s0 hX) (XS.r0_3 hX) ?_
        refine aw_xVv [_] dX10_best_34 cvX10_195 (OutS.s0 (XS.out hX)) (o_lookAt (XS.out hX) (XS.town hX)) rfl rfl (Nat.le_of_ble_eq_true rfl) (rb0 (by decide)) ?_
        have ho := TR_bec (T := X + 26 + 1) (U := X + 5) hs7 (by omega) hr
        have hq : frQ (X + 26) (becM (X + 26 + 1) (X + 5) iv) iv := fun b hb => bec_o (by omega) (by omega)
        generalize becM (X + 26 + 1) (X + 5) iv = oiv at ho hq ⊢
        refine aw_aload_n dX10_best_37 rfl ?_
        refine aw_aload_n dX10_best_38 rfl ?_
        refine aw_getR dX10_best_39 fgX10_39 rfl (XS.s0 hX) (XS.r0_5 hX) ?_
        refine aw_iload_n dX10_best_42 rfl ?_
        refine aw_sVi [_] dX10_best_43 cvX10_214 (OutS.s0 (XS.out hX)) (o_move (XS.out hX) hs ho hw (n := u) (by omega)) rfl rfl (Nat.le_of_ble_eq_true rfl) (rb0 (by decide)) (fun kw kv klv hk => ?_)
        obtain ⟨k0, k1, k2, rfl⟩ := hk
        have hkq := frQ_tr k2 hq
        refine aw_xVi [_] dX10_best_46 cvX10_205 (XS.s0 hX) (e_passOn hX kw) rfl rfl (Nat.le_of_ble_eq_true rfl) (rb0 (by decide)) ?_
        refine aw_iret dX10_best_49 rfl (rb0 (Nat.zero_le _)) ⟨rfl, _, rfl, ?_⟩
        dsimp only [oBest, nowT]
        
        rw [if_neg (fun q => q.elim h2 (Int32.not_lt.mpr h8)), if_neg hnp, ix_nI (by omega)]
        cases hz : (mvb (fMv s (lg m) u) (gd s (lg m) u) (5 * s.1)).1 with
        | none =>
          rw [hz] at k0
          exact QC_pas hA hD hT hkq (fun _ => rfl) (fun q => absurd k0 q)
        | some e =>
          rw [hz] at k0
          have he := mvb_lt _ _ hz
          refine QC_pas hA hD hT hkq (fun q => absurd (k0.symm.trans q) (nI_n9 (by omega))) (fun q => ?_)
          rw [k0, k1]
          rfl
      · have hnp : s.1 = 0 := Decidable.not_not.mp (zI_0.mp h20)
        refine aw_bipush (v := (-4)) dX10_best_23 kb_m4 ?_
        refine aw_iret dX10_best_25 rfl (rb0 (Nat.zero_le _)) ⟨rfl, _, rfl, ?_⟩
        refine QC_no hA hD hT ?_
        dsimp only [oBest, nowT]
        
        rw [if_neg (fun q => q.elim h2 (Int32.not_lt.mpr h8)), if_pos hnp]
    · refine aw_iconst (v := (-1)) dX10_best_11 kc_m1 ?_
      refine aw_iret dX10_best_12 rfl (rb0 (Nat.zero_le _)) ⟨rfl, _, rfl, ?_⟩
      refine QC_no hA hD hT ?_
      dsimp only [oBest, nowT]
      
      first
        | exact if_pos (Or.inl h2)
        | exact if_pos (Or.inr (Int32.not_le.mp h8))
