theorem m_need {G : GC} {E : SH} {iv : IV} {lv : LV} {M n : Nat} (hM : MS G E M) (h0 : iv M 14 = nI n) (hn : n ≤ 7) (c : Prop) [Decidable c] : ExI G mX11_need 1 [.ref M, .int (zI c)] E iv lv (if ¬ c then -1 else if n = 0 then -4 else 0) iv lv := by
  refine spec0_of (lo := [_,_]) (by decide) (Nat.le_of_ble_eq_true rfl) rfl ?_
  refine aw_iload_n dX11_need_0 rfl ?_
  refine aw_if_ne (tgt := 8) dX11_need_1 rfl (fun h1 => ?_) (fun h1 => ?_)
  · refine aw_aload_n dX11_need_8 rfl ?_
    refine aw_getI dX11_need_9 fgX11_126 rfl (MS.s0 hM) ?_
    rw [h0]
    refine aw_if_ne (tgt := 20) dX11_need_12 rfl (fun h12 => ?_) (fun h12 => ?_)
    · rw [← nI_0, nI_eq (by omega) (by omega)] at h12
      refine aw_iconst (v := nI 0) dX11_need_20 kc_0 ?_
      refine aw_iret dX11_need_21 rfl (rb0 (Nat.zero_le _)) ⟨rfl, _, rfl, ?_, rfl, rfl⟩
      first
        | (rw [if_pos (zI_0.mp h1)]; done)
        | (rw [if_neg (fun q => q (zI_n0.mp h1)), if_pos h12]; done)
        | (rw [if_neg (fun q => q (zI_n0.mp h1)), if_neg h12]; rfl)
        | (rw [if_neg (fun q => q (zI_n0.mp h1)), if_neg h12]; done)
    · rw [← nI_0, nI_eq (by omega) (by omega)] at h12
      refine aw_bipush (v := (-4)) dX11_need_15 kb_m4 ?_
      refine aw_goto (tgt := 21) dX11_need_17 rfl ?_
      refine aw_iret dX11_need_21 rfl (rb0 (Nat.zero_le _)) ⟨rfl, _, rfl, ?_, rfl, rfl⟩
      first
        | (rw [if_pos (zI_0.mp h1)]; done)
        | (rw [if_neg (fun q => q (zI_n0.mp h1)), if_pos h12]; done)
        | (rw [if_neg (fun q => q (zI_n0.mp h1)), if_neg h12]; rfl)
        | (rw [if_neg (fun q => q (zI_n0.mp h1)), if_neg h12]; done)
  · refine aw_iconst (v := (-1)) dX11_need_4 kc_m1 ?_
    refine aw_goto (tgt := 21) dX11_need_5 rfl ?_
    refine aw_iret dX11_need_21 rfl (rb0 (Nat.zero_le _)) ⟨rfl, _, rfl, ?_, rfl, rfl⟩
    first
      | (rw [if_pos (zI_0.mp h1)]; done)
      | (rw [if_neg (fun q => q (zI_n0.mp h1)), if_pos h12]; done)
      | (rw [if_neg (fun q => q (zI_n0.mp h1)), if_neg h12]; rfl)
      | (rw [if_neg (fun q => q (zI_n0.mp h1)), if_neg h12]; done)
theorem m_deep {G : GC} {E : SH} {iv : IV} {lv : LV} {M : Nat} (hM : MS G E M) {A : AA} {D : DD} {T : FT} (hA : MA M A iv lv) (hD : MD M D iv) (hT : MT M T iv) (hW : WT T) (c : Int32) : SpI G mX11_deep 3 [.ref M, .int c] E iv lv (QD M iv lv (oDeep A D T c)) := by
  obtain ⟨s, ⟨m, lg⟩, kp⟩ := T
  have hs : WS s := hW.1.1
  have hs7 : s.1 ≤ 7 := hs.1
  have hw : WV s (lg m) := nowW hW
  have hd : lg m 0 ≤ 40 := nowD hW
  have hr : SR M s iv := hT.1
  have hv : VR (M + 12) (lg m) iv := hT.2.2.1
  have h20 : iv M 20 = nI m := hT.2.1
  have hm : m ≤ 40 := hW.1.2.1
  refine spec0_of (lo := [_,_]) (by decide) (Nat.le_of_ble_eq_true rfl) rfl ?_
  refine aw_iload_n dX11_deep_0 rfl ?_
  refine aw_xSi [_] dX11_deep_1 csX11_173 (m_isStreet _) rfl rfl (Nat.le_of_ble_eq_true rfl) (rb0 (by decide)) ?_
  refine aw_if_ne (tgt := 11) dX11_deep_4 rfl (fun h4 => ?_) (fun h4 => ?_)
  · obtain ⟨j, hj, rfl⟩ := zi_of h4 (by decide)
    refine aw_aload_n dX11_deep_11 rfl ?_
    refine aw_getI dX11_deep_12 fgX11_126 rfl (MS.s0 hM) ?_
    rw [hr.1]
    refine aw_if_ne (tgt := 23) dX11_deep_15 rfl (fun h15 => ?_) (fun h15 => ?_)
    · rw [← nI_0, nI_eq (by omega) (by omega)] at h15
      have hnp : s.1 ≠ 0 := h15
      refine aw_aload_n dX11_deep_23 rfl ?_
      refine aw_aload_n dX11_deep_24 rfl ?_
      refine aw_iload_n dX11_deep_25 rfl ?_
      refine aw_xVi [_] dX11_deep_26 cvX11_176 (MS.s0 hM) (m_inStreet hM hs hr hv hw (q := j) hj) rfl rfl (Nat.le_of_ble_eq_true rfl) (rb0 (by decide)) ?_
      refine aw_aload_n dX11_deep_29 rfl ?_
      refine aw_getR dX11_deep_30 fgX11_48 rfl (MS.s0 hM) (MS.r0_18 hM) ?_
      refine aw_iconst (v := nI 1) dX11_deep_33 kc_1 ?_
      refine aw_iload_n dX11_deep_34 rfl ?_
      refine aw_iadd dX11_deep_35 ?_
      refine aw_iaload dX11_deep_36 (MS.s12 hM) (show nI 1 + nI j = nI (1 + j) by rw [nI_add]) (by omega) ?_
      rw [hv (1 + j) (by omega)]
      refine aw_xVi [_, _] dX11_deep_37 cvX11_92 (MS.s0 hM) (m_tells hM _ _) rfl rfl (Nat.le_of_ble_eq_true rfl) (rb0 (by decide)) ?_
      refine aw_iret dX11_deep_40 rfl (rb0 (Nat.zero_le _)) ⟨rfl, _, rfl, ?_⟩
      first
        | (refine QD_tel (i := iv) hA hD hT (fun _ _ _ => rfl) ?_
           dsimp only [oDeep, nowT]
           rw [if_neg (nbad hj (by decide)), if_neg hnp, ix_nI (by omega)]
           done)
        | (refine QD_no hA hD hT ?_
           exact if_pos (zi_bad h4))
        | (refine QD_no hA hD hT ?_
           dsimp only [oDeep, nowT]
           rw [if_neg (nbad hj (by decide)), if_pos hnp])
    · rw [← nI_0, nI_eq (by omega) (by omega)] at h15
      have hnp : s.1 = 0 := h15
      refine aw_bipush (v := (-4)) dX11_deep_18 kb_m4 ?_
      refine aw_goto (tgt := 40) dX11_deep_20 rfl ?_
      refine aw_iret dX11_deep_40 rfl (rb0 (Nat.zero_le _)) ⟨rfl, _, rfl, ?_⟩
      first
        | (refine QD_tel (i := iv) hA hD hT (fun _ _ _ => rfl) ?_
           dsimp only [oDeep, nowT]
           rw [if_neg (nbad hj (by decide)), if_neg hnp, ix_nI (by omega)]
           done)
        | (refine QD_no hA hD hT ?_
           exact if_pos (zi_bad h4))
        | (refine QD_no hA hD hT ?_
           dsimp only [oDeep, nowT]
           rw [if_neg (nbad hj (by decide)), if_pos hnp])
  · refine aw_iconst (v := (-1)) dX11_deep_7 kc_m1 ?_
    refine aw_goto (tgt := 40) dX11_deep_8 rfl ?_
    refine aw_iret dX11_deep_40 rfl (rb0 (Nat.zero_le _)) ⟨rfl, _, rfl, ?_⟩
    first
      | (refine QD_tel (i := iv) hA hD hT (fun _ _ _ => rfl) ?_
         dsimp only [oDeep, nowT]
         rw [if_neg (nbad hj (by decide)), if_neg hnp, ix_nI (by omega)]
         done)
      | (refine QD_no hA hD hT ?_
         exact if_pos (zi_bad h4))
      | (refine QD_no hA hD hT ?_
         dsimp only [oDeep, nowT]
         rw [if_neg (nbad hj (by decide)), if_pos hnp])
theorem m_bec {G : GC} {E : SH} {iv : IV} {lv : LV} {M m p x : Nat} {v : TV} {z : Int32} (hM : MS G E M) (h20 : iv M 20 = nI m) (hm : m ≤ 40) (hv : VR (M + 12) v iv) (hp : p < 20) : SpI G mX11_becomes 2 [.ref M, .int (nI p), .int (nI x), .int z] E iv lv (fun w i0 l => (m = 40 → w = -2 ∧ i0 = iv ∧ l = lv) ∧ (m ≠ 40 → w = z ∧ (∀ q, q < 20 → i0 (M + 14) (20 * m + q) = nI (v q)) ∧ (∀ e, e < 20 * m → i0 (M + 14) e = iv (M + 14) e) ∧ i0 M = upd (iv M) 20 (nI (m + 1)) ∧ (∀ b, b ≠ M → b ≠ M + 14 → b ≠ M + 12 → i0 b = iv b) ∧ VR (M + 12) (va_up v p x) i0 ∧ l = lv)) := by
  refine spec0_of (lo := [_,_,_,_]) (by decide) (Nat.le_of_ble_eq_true rfl) rfl ?_
  refine aw_aload_n dX11_becomes_0 rfl ?_
  refine aw_getI dX11_becomes_1 fgX11_129 rfl (MS.s0 hM) ?_
  rw [h20]
  refine aw_bipush (v := nI 40) dX11_becomes_4 kb_40 ?_
  refine aw_icmp_ne (tgt := 12) dX11_becomes_6 rfl (fun h6 => ?_) (fun h6 => ?_)
  · rw [nI_eq (by omega) (by omega)] at h6
    refine aw_aload_n dX11_becomes_12 rfl ?_
    refine aw_sVv [] dX11_becomes_13 cvX11_179 (MS.s0 hM) (m_rem hM h20 (by omega) hv) rfl rfl (Nat.le_of_ble_eq_true rfl) (rb0 (by decide)) (fun kv klv hk => ?_)
    obtain ⟨k1, k2, k3, k4, rfl⟩ := hk
    refine aw_aload_n dX11_becomes_16 rfl ?_
    refine aw_getR dX11_becomes_17 fgX11_48 rfl (MS.s0 hM) (MS.r0_18 hM) ?_
    refine aw_iload_n dX11_becomes_20 rfl ?_
    refine aw_iload_n dX11_becomes_21 rfl ?_
    refine aw_iastore dX11_becomes_22 (MS.s12 hM) rfl hp ?_
    refine aw_iload_n dX11_becomes_23 rfl ?_
    refine aw_iret dX11_becomes_24 rfl (rb0 (Nat.zero_le _)) ⟨rfl, _, rfl, ?_⟩
    refine ⟨fun q => absurd q h6, fun _ => ⟨rfl, fun q hq => ?_, fun e he => ?_, ?_, fun b h1 h2 h3 => ?_, fun q hq => ?_, rfl⟩⟩
    · rw [va_up_n (by omega)]; exact k1 q hq
    · rw [va_up_n (by omega)]; exact k2 e he
    · rw [va_up_n (by omega)]; exact k3
    · rw [va_up_n h3]; exact k4 b h1 h2
    · rw [va_up_s]
      by_cases e : q = p
      · subst e; rw [va_up_s]; exact if_pos rfl
      · rw [va_up_n e]
        refine (if_neg e).trans ?_
        rw [k4 _ (by omega) (by omega)]; exact hv q hq
  · rw [nI_eq (by omega) (by omega)] at h6
    refine aw_bipush (v := (-2)) dX11_becomes_9 kb_m2 ?_
    refine aw_iret dX11_becomes_11 rfl (rb0 (Nat.zero_le _)) ⟨rfl, _, rfl, ?_⟩
    exact ⟨fun _ => ⟨rfl, rfl, rfl⟩, fun q => absurd h6 q⟩
theorem m_fall {G : GC} {E : SH} {iv : IV} {lv : LV} {M : Nat} (hM : MS G E M) {A : AA} {D : DD} {T : FT} (hA : MA M A iv lv) (hD : MD M D iv) (hT : MT M T iv) (hW : WT T) (c n : Int32) : SpI G mX11_fall 3 [.ref M, .int c, .int n] E iv lv (QD M iv lv (oFall A D T c n)) := by
  obtain ⟨s, ⟨m, lg⟩, kp⟩ := T
  have hs : WS s := hW.1.1
  have hs7 : s.1 ≤ 7 := hs.1
  have hw : WV s (lg m) := nowW hW
  have hd : lg m 0 ≤ 40 := nowD hW
  have hr : SR M s iv := hT.1
  have hv : VR (M + 12) (lg m) iv := hT.2.2.1
  have h20 : iv M 20 = nI m := hT.2.1
  have hm : m ≤ 40 := hW.1.2.1
  refine spec0_of (lo := [_,_,_,_]) (by decide) (Nat.le_of_ble_eq_true rfl) rfl ?_
  refine aw_iload_n dX11_fall_0 rfl ?_
  refine aw_xSi [_] dX11_fall_1 csX11_173 (m_isStreet _) rfl rfl (Nat.le_of_ble_eq_true rfl) (rb0 (by decide)) ?_
  refine aw_if_eq (tgt := 17) dX11_fall_4 rfl (fun h4 => ?_) (fun h4 => ?_)
  · refine aw_iconst (v := (-1)) dX11_fall_17 kc_m1 ?_
    refine aw_iret dX11_fall_18 rfl (rb0 (Nat.zero_le _)) ⟨rfl, _, rfl, ?_⟩
    first
      | (refine QD_no hA hD hT ?_
         exact if_pos (Or.inl (zi_bad h4)))
      | (refine QD_no hA hD hT ?_
         refine if_pos (Or.inr ?_)
         by_cases q : n < nI 1
         · exact Or.inl q
         · exact Or.inr (Int32.not_le.mp (fun q2 => hc ⟨Int32.not_lt.mp q, q2⟩)))
      | (refine QD_no hA hD hT ?_
         dsimp only [oFall, nowT]
         rw [if_neg (fun q => q.elim (nbad hj (by decide)) (fun q => q.elim (fun q => absurd q (nI_nlt hu1 (by omega))) (fun q => absurd q (nI_nlt hu (by omega))))), if_pos (by rw [ix_nI (by omega)]; omega)]
         done)
      | (by_cases h40 : m = 40
         · obtain ⟨k0, k1, k2⟩ := hk.1 h40
           subst k1 k2
           rw [k0]
           refine QD_no hA hD hT ?_
           dsimp only [oFall, nowT]
           rw [if_neg (fun q => q.elim (nbad hj (by decide)) (fun q => q.elim (fun q => absurd q (nI_nlt hu1 (by omega))) (fun q => absurd q (nI_nlt hu (by omega))))), if_neg (by rw [ix_nI (by omega)]; omega), if_pos (by omega)]
         · obtain ⟨k0, k1, k2, k3, k4, k5, k6⟩ := hk.2 h40
           rw [k0, k6]
           refine QD_push hA hD hT k1 k2 k3 k4 k5 ?_
           dsimp only [oFall, nowT]
           rw [if_neg (fun q => q.elim (nbad hj (by decide)) (fun q => q.elim (fun q => absurd q (nI_nlt hu1 (by omega))) (fun q => absurd q (nI_nlt hu (by omega))))), if_neg (by rw [ix_nI (by omega)]; omega), if_neg (by omega), ix_nI (by omega), ix_nI (by omega)]
           rfl)
  · obtain ⟨j, hj, rfl⟩ := zi_of h4 (by decide)
    have hv9 := hw.2.1 j hj
    refine aw_iload_n dX11_fall_7 rfl ?_
    refine aw_iconst (v := nI 1) dX11_fall_8 kc_1 ?_
    refine aw_bipush (v := nI 9) dX11_fall_9 kb_9 ?_
    refine aw_xSi [_, _, _] dX11_fall_11 csX11_76 (m_in n (nI 1) (nI 9)) rfl rfl (Nat.le_of_ble_eq_true rfl) (rb0 (by decide)) ?_
    refine aw_if_ne (tgt := 19) dX11_fall_14 rfl (fun h14 => ?_) (fun h14 => ?_)
    · have hc := zI_n0.mp h14
      obtain ⟨u, hu1, hu, rfl⟩ := ix_1 (n := n) (k := 9) (Int32.not_lt.mpr hc.1) (Int32.not_lt.mpr hc.2) (by decide)
      refine aw_aload_n dX11_fall_19 rfl ?_
      refine aw_getR dX11_fall_20 fgX11_48 rfl (MS.s0 hM) (MS.r0_18 hM) ?_
      refine aw_iconst (v := nI 1) dX11_fall_23 kc_1 ?_
      refine aw_iload_n dX11_fall_24 rfl ?_
      refine aw_iadd dX11_fall_25 ?_
      refine aw_iaload dX11_fall_26 (MS.s12 hM) (show nI 1 + nI j = nI (1 + j) by rw [nI_add]) (by omega) ?_
      rw [hv (1 + j) (by omega)]
      refine aw_istore_n (lo' := [_,_,_,_]) dX11_fall_27 (Nat.le_of_ble_eq_true rfl) rfl ?_
      refine aw_aload_n dX11_fall_28 rfl ?_
      refine aw_getI dX11_fall_29 fgX11_126 rfl (MS.s0 hM) ?_
      rw [hr.1]
      refine aw_if_eq (tgt := 41) dX11_fall_32 rfl (fun h32 => ?_) (fun h32 => ?_)
      · rw [← nI_0, nI_eq (by omega) (by omega)] at h32
        have hnp : s.1 = 0 := h32
        refine aw_bipush (v := (-4)) dX11_fall_41 kb_m4 ?_
        refine aw_goto (tgt := 63) dX11_fall_43 rfl ?_
        refine aw_iret dX11_fall_63 rfl (rb0 (Nat.zero_le _)) ⟨rfl, _, rfl, ?_⟩
        first
          | (refine QD_no hA hD hT ?_
             exact if_pos (Or.inl (zi_bad h4)))
          | (refine QD_no hA hD hT ?_
             refine if_pos (Or.inr ?_)
             by_cases q : n < nI 1
             · exact Or.inl q
             · exact Or.inr (Int32.not_le.mp (fun q2 => hc ⟨Int32.not_lt.mp q, q2⟩)))
          | (refine QD_no hA hD hT ?_
             dsimp only [oFall, nowT]
             rw [if_neg (fun q => q.elim (nbad hj (by decide)) (fun q => q.elim (fun q => absurd q (nI_nlt hu1 (by omega))) (fun q => absurd q (nI_nlt hu (by omega))))), if_pos (by rw [ix_nI (by omega)]; omega)]
             done)
          | (by_cases h40 : m = 40
             · obtain ⟨k0, k1, k2⟩ := hk.1 h40
               subst k1 k2
               rw [k0]
               refine QD_no hA hD hT ?_
               dsimp only [oFall, nowT]
               rw [if_neg (fun q => q.elim (nbad hj (by decide)) (fun q => q.elim (fun q => absurd q (nI_nlt hu1 (by omega))) (fun q => absurd q (nI_nlt hu (by omega))))), if_neg (by rw [ix_nI (by omega)]; omega), if_pos (by omega)]
             · obtain ⟨k0, k1, k2, k3, k4, k5, k6⟩ := hk.2 h40
               rw [k0, k6]
               refine QD_push hA hD hT k1 k2 k3 k4 k5 ?_
               dsimp only [oFall, nowT]
               rw [if_neg (fun q => q.elim (nbad hj (by decide)) (fun q => q.elim (fun q => absurd q (nI_nlt hu1 (by omega))) (fun q => absurd q (nI_nlt hu (by omega))))), if_neg (by rw [ix_nI (by omega)]; omega), if_neg (by omega), ix_nI (by omega), ix_nI (by omega)]
               rfl)
      · rw [← nI_0, nI_eq (by omega) (by omega)] at h32
        have hnp : s.1 ≠ 0 := h32
        refine aw_iload_n dX11_fall_35 rfl ?_
        refine aw_bipush (v := nI 9) dX11_fall_36 kb_9 ?_
        refine aw_icmp_ne (tgt := 46) dX11_fall_38 rfl (fun h38 => ?_) (fun h38 => ?_)
        · rw [nI_eq (by omega) (by omega)] at h38
          refine aw_aload_n dX11_fall_46 rfl ?_
          refine aw_iconst (v := nI 1) dX11_fall_47 kc_1 ?_
          refine aw_iload_n dX11_fall_48 rfl ?_
          refine aw_iadd dX11_fall_49 ?_
          rw [nI_add]
          refine aw_iload_n dX11_fall_50 rfl ?_
          refine aw_iload_n dX11_fall_51 rfl ?_
          refine aw_xSi [_, _] dX11_fall_52 csX11_182 (m_deeper (a := lg m (1 + j)) (b := u) hv9 hu) rfl rfl (Nat.le_of_ble_eq_true rfl) (rb0 (by decide)) ?_
          refine aw_iload_n dX11_fall_55 rfl ?_
          refine aw_iload_n dX11_fall_56 rfl ?_
          refine aw_xSi [_, _] dX11_fall_57 csX11_182 (m_deeper (a := lg m (1 + j)) (b := u) hv9 hu) rfl rfl (Nat.le_of_ble_eq_true rfl) (rb0 (by decide)) ?_
          refine aw_sVi [_, _, _] dX11_fall_60 cvX11_185 (MS.s0 hM) (m_bec hM h20 hm hv (p := 1 + j) (x := min 9 (lg m (1 + j) + u)) (by omega)) rfl rfl (Nat.le_of_ble_eq_true rfl) (rb0 (by decide)) (fun kw kv klv hk => ?_)
          refine aw_iret dX11_fall_63 rfl (rb0 (Nat.zero_le _)) ⟨rfl, _, rfl, ?_⟩
          first
            | (refine QD_no hA hD hT ?_
               exact if_pos (Or.inl (zi_bad h4)))
            | (refine QD_no hA hD hT ?_
               refine if_pos (Or.inr ?_)
               by_cases q : n < nI 1
               · exact Or.inl q
               · exact Or.inr (Int32.not_le.mp (fun q2 => hc ⟨Int32.not_lt.mp q, q2⟩)))
            | (refine QD_no hA hD hT ?_
               dsimp only [oFall, nowT]
               rw [if_neg (fun q => q.elim (nbad hj (by decide)) (fun q => q.elim (fun q => absurd q (nI_nlt hu1 (by omega))) (fun q => absurd q (nI_nlt hu (by omega))))), if_pos (by rw [ix_nI (by omega)]; omega)]
               done)
            | (by_cases h40 : m = 40
               · obtain ⟨k0, k1, k2⟩ := hk.1 h40
                 subst k1 k2
                 rw [k0]
                 refine QD_no hA hD hT ?_
                 dsimp only [oFall, nowT]
                 rw [if_neg (fun q => q.elim (nbad hj (by decide)) (fun q => q.elim (fun q => absurd q (nI_nlt hu1 (by omega))) (fun q => absurd q (nI_nlt hu (by omega))))), if_neg (by rw [ix_nI (by omega)]; omega), if_pos (by omega)]
               · obtain ⟨k0, k1, k2, k3, k4, k5, k6⟩ := hk.2 h40
                 rw [k0, k6]
                 refine QD_push hA hD hT k1 k2 k3 k4 k5 ?_
                 dsimp only [oFall, nowT]
                 rw [if_neg (fun q => q.elim (nbad hj (by decide)) (fun q => q.elim (fun q => absurd q (nI_nlt hu1 (by omega))) (fun q => absurd q (nI_nlt hu (by omega))))), if_neg (by rw [ix_nI (by omega)]; omega), if_neg (by omega), ix_nI (by omega), ix_nI (by omega)]
                 rfl)
        · rw [nI_eq (by omega) (by omega)] at h38
          refine aw_bipush (v := (-4)) dX11_fall_41 kb_m4 ?_
          refine aw_goto (tgt := 63) dX11_fall_43 rfl ?_
          refine aw_iret dX11_fall_63 rfl (rb0 (Nat.zero_le _)) ⟨rfl, _, rfl, ?_⟩
          first
            | (refine QD_no hA hD hT ?_
               exact if_pos (Or.inl (zi_bad h4)))
            | (refine QD_no hA hD hT ?_
               refine if_pos (Or.inr ?_)
               by_cases q : n < nI 1
               · exact Or.inl q
               · exact Or.inr (Int32.not_le.mp (fun q2 => hc ⟨Int32.not_lt.mp q, q2⟩)))
            | (refine QD_no hA hD hT ?_
               dsimp only [oFall, nowT]
               rw [if_neg (fun q => q.elim (nbad hj (by decide)) (fun q => q.elim (fun q => absurd q (nI_nlt hu1 (by omega))) (fun q => absurd q (nI_nlt hu (by omega))))), if_pos (by rw [ix_nI (by omega)]; omega)]
               done)
            | (by_cases h40 : m = 40
               · obtain ⟨k0, k1, k2⟩ := hk.1 h40
                 subst k1 k2
                 rw [k0]
                 refine QD_no hA hD hT ?_
                 dsimp only [oFall, nowT]
                 rw [if_neg (fun q => q.elim (nbad hj (by decide)) (fun q => q.elim (fun q => absurd q (nI_nlt hu1 (by omega))) (fun q => absurd q (nI_nlt hu (by omega))))), if_neg (by rw [ix_nI (by omega)]; omega), if_pos (by omega)]
               · obtain ⟨k0, k1, k2, k3, k4, k5, k6⟩ := hk.2 h40
                 rw [k0, k6]
                 refine QD_push hA hD hT k1 k2 k3 k4 k5 ?_
                 dsimp only [oFall, nowT]
                 rw [if_neg (fun q => q.elim (nbad hj (by decide)) (fun q => q.elim (fun q => absurd q (nI_nlt hu1 (by omega))) (fun q => absurd q (nI_nlt hu (by omega))))), if_neg (by rw [ix_nI (by omega)]; omega), if_neg (by omega), ix_nI (by omega), ix_nI (by omega)]
                 rfl)
    · have hc := zI_0.mp h14
      refine aw_iconst (v := (-1)) dX11_fall_17 kc_m1 ?_
      refine aw_iret dX11_fall_18 rfl (rb0 (Nat.zero_le _)) ⟨rfl, _, rfl, ?_⟩
      first
        | (refine QD_no hA hD hT ?_
           exact if_pos (Or.inl (zi_bad h4)))
        | (refine QD_no hA hD hT ?_
           refine if_pos (Or.inr ?_)
           by_cases q : n < nI 1
           · exact Or.inl q
           · exact Or.inr (Int32.not_le.mp (fun q2 => hc ⟨Int32.not_lt.mp q, q2⟩)))
        | (refine QD_no hA hD hT ?_
           dsimp only [oFall, nowT]
           rw [if_neg (fun q => q.elim (nbad hj (by decide)) (fun q => q.elim (fun q => absurd q (nI_nlt hu1 (by omega))) (fun q => absurd q (nI_nlt hu (by omega))))), if_pos (by rw [ix_nI (by omega)]; omega)]
           done)
        | (by_cases h40 : m = 40
           · obtain ⟨k0, k1, k2⟩ := hk.1 h40
             subst k1 k2
             rw [k0]
             refine QD_no hA hD hT ?_
             dsimp only [oFall, nowT]
             rw [if_neg (fun q => q.elim (nbad hj (by decide)) (fun q => q.elim (fun q => absurd q (nI_nlt hu1 (by omega))) (fun q => absurd q (nI_nlt hu (by omega))))), if_neg (by rw [ix_nI (by omega)]; omega), if_pos (by omega)]
           · obtain ⟨k0, k1, k2, k3, k4, k5, k6⟩ := hk.2 h40
             rw [k0, k6]
             refine QD_push hA hD hT k1 k2 k3 k4 k5 ?_
             dsimp only [oFall, nowT]
             rw [if_neg (fun q => q.elim (nbad hj (by decide)) (fun q => q.elim (fun q => absurd q (nI_nlt hu1 (by omega))) (fun q => absurd q (nI_nlt hu (by omega))))), if_neg (by rw [ix_nI (by omega)]; omega), if_neg (by omega), ix_nI (by omega), ix_nI (by omega)]
             rfl)
