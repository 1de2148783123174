theorem m_wind {G : GC} {E : SH} {iv : IV} {lv : LV} {M : Nat} (hM : MS G E M) {A : AA} {D : DD} {T : FT} (hA : MA M A iv lv) (hD : MD M D iv) (hT : MT M T iv) (hW : WT T) (c : Int32) : SpI G mX11_wind 3 [.ref M, .int c] E iv lv (QD M iv lv (oWind A D T c)) := by
  obtain ⟨s, ⟨m, lg⟩, kp⟩ := T
  have hs : WS s := hW.1.1
  have hs7 : s.1 ≤ 7 := hs.1
  have hw : WV s (lg m) := nowW hW
  have hd : lg m 0 ≤ 40 := nowD hW
  have hr : SR M s iv := hT.1
  have hv : VR (M + 12) (lg m) iv := hT.2.2.1
  have h20 : iv M 20 = nI m := hT.2.1
  have hm : m ≤ 40 := hW.1.2.1
  refine spec0_of (lo := [_,_]) (by decide) (Nat.le_of_ble_eq_true rfl) rfl ?_
  refine aw_iload_n dX11_wind_0 rfl ?_
  refine aw_xSi [_] dX11_wind_1 csX11_173 (m_isStreet _) rfl rfl (Nat.le_of_ble_eq_true rfl) (rb0 (by decide)) ?_
  refine aw_if_ne (tgt := 9) dX11_wind_4 rfl (fun h4 => ?_) (fun h4 => ?_)
  · obtain ⟨j, hj, rfl⟩ := zi_of h4 (by decide)
    have hv9 := hw.2.1 j hj
    refine aw_aload_n dX11_wind_9 rfl ?_
    refine aw_getI dX11_wind_10 fgX11_126 rfl (MS.s0 hM) ?_
    rw [hr.1]
    refine aw_if_eq (tgt := 27) dX11_wind_13 rfl (fun h13 => ?_) (fun h13 => ?_)
    · rw [← nI_0, nI_eq (by omega) (by omega)] at h13
      have hnp : s.1 = 0 := h13
      refine aw_bipush (v := (-4)) dX11_wind_27 kb_m4 ?_
      refine aw_goto (tgt := 48) dX11_wind_29 rfl ?_
      refine aw_iret dX11_wind_48 rfl (rb0 (Nat.zero_le _)) ⟨rfl, _, rfl, ?_⟩
      first
        | (refine QD_no hA hD hT ?_
           exact if_pos (zi_bad h4))
        | (refine QD_no hA hD hT ?_
           dsimp only [oWind, nowT]
           rw [if_neg (nbad hj (by decide)), if_pos (by rw [ix_nI (by omega)]; omega)]
           done)
        | (by_cases h40 : m = 40
           · obtain ⟨k0, k1, k2⟩ := hk.1 h40
             subst k1 k2
             rw [k0]
             refine QD_no hA hD hT ?_
             dsimp only [oWind, nowT]
             rw [if_neg (nbad hj (by decide)), if_neg (by rw [ix_nI (by omega)]; omega), if_pos (by omega)]
           · obtain ⟨k0, k1, k2, k3, k4, k5, k6⟩ := hk.2 h40
             rw [k0, k6]
             refine QD_push hA hD hT k1 k2 k3 k4 k5 ?_
             dsimp only [oWind, nowT]
             rw [if_neg (nbad hj (by decide)), if_neg (by rw [ix_nI (by omega)]; omega), if_neg (by omega), ix_nI (by omega)]
             rfl)
    · rw [← nI_0, nI_eq (by omega) (by omega)] at h13
      have hnp : s.1 ≠ 0 := h13
      refine aw_aload_n dX11_wind_16 rfl ?_
      refine aw_getR dX11_wind_17 fgX11_48 rfl (MS.s0 hM) (MS.r0_18 hM) ?_
      refine aw_iconst (v := nI 1) dX11_wind_20 kc_1 ?_
      refine aw_iload_n dX11_wind_21 rfl ?_
      refine aw_iadd dX11_wind_22 ?_
      refine aw_iaload dX11_wind_23 (MS.s12 hM) (show nI 1 + nI j = nI (1 + j) by rw [nI_add]) (by omega) ?_
      rw [hv (1 + j) (by omega)]
      refine aw_if_ne (tgt := 32) dX11_wind_24 rfl (fun h24 => ?_) (fun h24 => ?_)
      · rw [← nI_0, nI_eq (by omega) (by omega)] at h24
        refine aw_aload_n dX11_wind_32 rfl ?_
        refine aw_iconst (v := nI 1) dX11_wind_33 kc_1 ?_
        refine aw_iload_n dX11_wind_34 rfl ?_
        refine aw_iadd dX11_wind_35 ?_
        rw [nI_add]
        refine aw_iconst (v := nI 0) dX11_wind_36 kc_0 ?_
        refine aw_aload_n dX11_wind_37 rfl ?_
        refine aw_getR dX11_wind_38 fgX11_48 rfl (MS.s0 hM) (MS.r0_18 hM) ?_
        refine aw_iconst (v := nI 1) dX11_wind_41 kc_1 ?_
        refine aw_iload_n dX11_wind_42 rfl ?_
        refine aw_iadd dX11_wind_43 ?_
        refine aw_iaload dX11_wind_44 (MS.s12 hM) (show nI 1 + nI j = nI (1 + j) by rw [nI_add]) (by omega) ?_
        rw [hv (1 + j) (by omega)]
        refine aw_sVi [_, _, _] dX11_wind_45 cvX11_185 (MS.s0 hM) (m_bec hM h20 hm hv (p := 1 + j) (x := 0) (by omega)) rfl rfl (Nat.le_of_ble_eq_true rfl) (rb0 (by decide)) (fun kw kv klv hk => ?_)
        refine aw_iret dX11_wind_48 rfl (rb0 (Nat.zero_le _)) ⟨rfl, _, rfl, ?_⟩
        first
          | (refine QD_no hA hD hT ?_
             exact if_pos (zi_bad h4))
          | (refine QD_no hA hD hT ?_
             dsimp only [oWind, nowT]
             rw [if_neg (nbad hj (by decide)), if_pos (by rw [ix_nI (by omega)]; omega)]
             done)
          | (by_cases h40 : m = 40
             · obtain ⟨k0, k1, k2⟩ := hk.1 h40
               subst k1 k2
               rw [k0]
               refine QD_no hA hD hT ?_
               dsimp only [oWind, nowT]
               rw [if_neg (nbad hj (by decide)), if_neg (by rw [ix_nI (by omega)]; omega), if_pos (by omega)]
             · obtain ⟨k0, k1, k2, k3, k4, k5, k6⟩ := hk.2 h40
               rw [k0, k6]
               refine QD_push hA hD hT k1 k2 k3 k4 k5 ?_
               dsimp only [oWind, nowT]
               rw [if_neg (nbad hj (by decide)), if_neg (by rw [ix_nI (by omega)]; omega), if_neg (by omega), ix_nI (by omega)]
               rfl)
      · rw [← nI_0, nI_eq (by omega) (by omega)] at h24
        refine aw_bipush (v := (-4)) dX11_wind_27 kb_m4 ?_
        refine aw_goto (tgt := 48) dX11_wind_29 rfl ?_
        refine aw_iret dX11_wind_48 rfl (rb0 (Nat.zero_le _)) ⟨rfl, _, rfl, ?_⟩
        first
          | (refine QD_no hA hD hT ?_
             exact if_pos (zi_bad h4))
          | (refine QD_no hA hD hT ?_
             dsimp only [oWind, nowT]
             rw [if_neg (nbad hj (by decide)), if_pos (by rw [ix_nI (by omega)]; omega)]
             done)
          | (by_cases h40 : m = 40
             · obtain ⟨k0, k1, k2⟩ := hk.1 h40
               subst k1 k2
               rw [k0]
               refine QD_no hA hD hT ?_
               dsimp only [oWind, nowT]
               rw [if_neg (nbad hj (by decide)), if_neg (by rw [ix_nI (by omega)]; omega), if_pos (by omega)]
             · obtain ⟨k0, k1, k2, k3, k4, k5, k6⟩ := hk.2 h40
               rw [k0, k6]
               refine QD_push hA hD hT k1 k2 k3 k4 k5 ?_
               dsimp only [oWind, nowT]
               rw [if_neg (nbad hj (by decide)), if_neg (by rw [ix_nI (by omega)]; omega), if_neg (by omega), ix_nI (by omega)]
               rfl)
  · refine aw_iconst (v := (-1)) dX11_wind_7 kc_m1 ?_
    refine aw_iret dX11_wind_8 rfl (rb0 (Nat.zero_le _)) ⟨rfl, _, rfl, ?_⟩
    first
      | (refine QD_no hA hD hT ?_
         exact if_pos (zi_bad h4))
      | (refine QD_no hA hD hT ?_
         dsimp only [oWind, nowT]
         rw [if_neg (nbad hj (by decide)), if_pos (by rw [ix_nI (by omega)]; omega)]
         done)
      | (by_cases h40 : m = 40
         · obtain ⟨k0, k1, k2⟩ := hk.1 h40
           subst k1 k2
           rw [k0]
           refine QD_no hA hD hT ?_
           dsimp only [oWind, nowT]
           rw [if_neg (nbad hj (by decide)), if_neg (by rw [ix_nI (by omega)]; omega), if_pos (by omega)]
         · obtain ⟨k0, k1, k2, k3, k4, k5, k6⟩ := hk.2 h40
           rw [k0, k6]
           refine QD_push hA hD hT k1 k2 k3 k4 k5 ?_
           dsimp only [oWind, nowT]
           rw [if_neg (nbad hj (by decide)), if_neg (by rw [ix_nI (by omega)]; omega), if_neg (by omega), ix_nI (by omega)]
           rfl)
theorem m_go {G : GC} {E : SH} {iv : IV} {lv : LV} {M : Nat} (hM : MS G E M) {A : AA} {D : DD} {T : FT} (hA : MA M A iv lv) (hD : MD M D iv) (hT : MT M T iv) (hW : WT T) (i c : Int32) : SpI G mX11_go 3 [.ref M, .int i, .int c] E iv lv (QD M iv lv (oGo A D T i c)) := by
  obtain ⟨s, ⟨m, lg⟩, kp⟩ := T
  have hs : WS s := hW.1.1
  have hs7 : s.1 ≤ 7 := hs.1
  have hw : WV s (lg m) := nowW hW
  have hd : lg m 0 ≤ 40 := nowD hW
  have hr : SR M s iv := hT.1
  have hv : VR (M + 12) (lg m) iv := hT.2.2.1
  have h20 : iv M 20 = nI m := hT.2.1
  have hm : m ≤ 40 := hW.1.2.1
  refine spec0_of (lo := [_,_,_,_]) (by decide) (Nat.le_of_ble_eq_true rfl) rfl ?_
  refine aw_aload_n dX11_go_0 rfl ?_
  refine aw_iload_n dX11_go_1 rfl ?_
  refine aw_xVi [_] dX11_go_2 cvX11_167 (MS.s0 hM) (m_isOne hM hr.1 hs7 i) rfl rfl (Nat.le_of_ble_eq_true rfl) (rb0 (by decide)) ?_
  refine aw_if_eq (tgt := 15) dX11_go_5 rfl (fun h5 => ?_) (fun h5 => ?_)
  · refine aw_iconst (v := (-1)) dX11_go_15 kc_m1 ?_
    refine aw_iret dX11_go_16 rfl (rb0 (Nat.zero_le _)) ⟨rfl, _, rfl, ?_⟩
    first
      | (refine QD_no hA hD hT ?_
         exact if_pos (Or.inl (zi_bad h5)))
      | (refine QD_no hA hD hT ?_
         exact if_pos (Or.inr (zi_bad h12)))
      | (refine QD_no hA hD hT ?_
         dsimp only [oGo, nowT]
         rw [if_neg (fun q => q.elim (nbad hj (by omega)) (nbad hu (by decide))), if_pos (by rw [ix_nI (by omega), ix_nI (by omega)]; exact h29)]
         done)
      | (by_cases h40 : m = 40
         · obtain ⟨k0, k1, k2⟩ := hk.1 h40
           subst k1 k2
           rw [k0]
           refine QD_no hA hD hT ?_
           dsimp only [oGo, nowT]
           rw [if_neg (fun q => q.elim (nbad hj (by omega)) (nbad hu (by decide))), if_neg (by rw [ix_nI (by omega), ix_nI (by omega)]; exact h29), if_pos (by omega)]
         · obtain ⟨k0, k1, k2, k3, k4, k5, k6⟩ := hk.2 h40
           rw [k0, k6]
           refine QD_push hA hD hT k1 k2 k3 k4 k5 ?_
           dsimp only [oGo, nowT]
           rw [if_neg (fun q => q.elim (nbad hj (by omega)) (nbad hu (by decide))), if_neg (by rw [ix_nI (by omega), ix_nI (by omega)]; exact h29), if_neg (by omega), ix_nI (by omega), ix_nI (by omega)]
           rfl)
  · obtain ⟨j, hj, rfl⟩ := zi_of h5 (by omega)
    have hv4 := (hw.1 j hj).2
    refine aw_iload_n dX11_go_8 rfl ?_
    refine aw_xSi [_] dX11_go_9 csX11_173 (m_isStreet _) rfl rfl (Nat.le_of_ble_eq_true rfl) (rb0 (by decide)) ?_
    refine aw_if_ne (tgt := 17) dX11_go_12 rfl (fun h12 => ?_) (fun h12 => ?_)
    · obtain ⟨u, hu, rfl⟩ := zi_of h12 (by decide)
      refine aw_aload_n dX11_go_17 rfl ?_
      refine aw_getR dX11_go_18 fgX11_48 rfl (MS.s0 hM) (MS.r0_18 hM) ?_
      refine aw_bipush (v := nI 13) dX11_go_21 kb_13 ?_
      refine aw_iload_n dX11_go_23 rfl ?_
      refine aw_iadd dX11_go_24 ?_
      refine aw_iaload dX11_go_25 (MS.s12 hM) (show nI 13 + nI j = nI (13 + j) by rw [nI_add]) (by omega) ?_
      rw [hv (13 + j) (by omega)]
      refine aw_istore_n (lo' := [_,_,_,_]) dX11_go_26 (Nat.le_of_ble_eq_true rfl) rfl ?_
      refine aw_iload_n dX11_go_27 rfl ?_
      refine aw_iload_n dX11_go_28 rfl ?_
      refine aw_icmp_ne (tgt := 37) dX11_go_29 rfl (fun h29 => ?_) (fun h29 => ?_)
      · rw [nI_eq (by omega) (by omega)] at h29
        refine aw_aload_n dX11_go_37 rfl ?_
        refine aw_bipush (v := nI 13) dX11_go_38 kb_13 ?_
        refine aw_iload_n dX11_go_40 rfl ?_
        refine aw_iadd dX11_go_41 ?_
        rw [nI_add]
        refine aw_iload_n dX11_go_42 rfl ?_
        refine aw_iload_n dX11_go_43 rfl ?_
        refine aw_sVi [_, _, _] dX11_go_44 cvX11_185 (MS.s0 hM) (m_bec hM h20 hm hv (p := 13 + j) (x := u) (by omega)) rfl rfl (Nat.le_of_ble_eq_true rfl) (rb0 (by decide)) (fun kw kv klv hk => ?_)
        refine aw_iret dX11_go_47 rfl (rb0 (Nat.zero_le _)) ⟨rfl, _, rfl, ?_⟩
        first
          | (refine QD_no hA hD hT ?_
             exact if_pos (Or.inl (zi_bad h5)))
          | (refine QD_no hA hD hT ?_
             exact if_pos (Or.inr (zi_bad h12)))
          | (refine QD_no hA hD hT ?_
             dsimp only [oGo, nowT]
             rw [if_neg (fun q => q.elim (nbad hj (by omega)) (nbad hu (by decide))), if_pos (by rw [ix_nI (by omega), ix_nI (by omega)]; exact h29)]
             done)
          | (by_cases h40 : m = 40
             · obtain ⟨k0, k1, k2⟩ := hk.1 h40
               subst k1 k2
               rw [k0]
               refine QD_no hA hD hT ?_
               dsimp only [oGo, nowT]
               rw [if_neg (fun q => q.elim (nbad hj (by omega)) (nbad hu (by decide))), if_neg (by rw [ix_nI (by omega), ix_nI (by omega)]; exact h29), if_pos (by omega)]
             · obtain ⟨k0, k1, k2, k3, k4, k5, k6⟩ := hk.2 h40
               rw [k0, k6]
               refine QD_push hA hD hT k1 k2 k3 k4 k5 ?_
               dsimp only [oGo, nowT]
               rw [if_neg (fun q => q.elim (nbad hj (by omega)) (nbad hu (by decide))), if_neg (by rw [ix_nI (by omega), ix_nI (by omega)]; exact h29), if_neg (by omega), ix_nI (by omega), ix_nI (by omega)]
               rfl)
      · rw [nI_eq (by omega) (by omega)] at h29
        refine aw_bipush (v := (-4)) dX11_go_32 kb_m4 ?_
        refine aw_goto (tgt := 47) dX11_go_34 rfl ?_
        refine aw_iret dX11_go_47 rfl (rb0 (Nat.zero_le _)) ⟨rfl, _, rfl, ?_⟩
        first
          | (refine QD_no hA hD hT ?_
             exact if_pos (Or.inl (zi_bad h5)))
          | (refine QD_no hA hD hT ?_
             exact if_pos (Or.inr (zi_bad h12)))
          | (refine QD_no hA hD hT ?_
             dsimp only [oGo, nowT]
             rw [if_neg (fun q => q.elim (nbad hj (by omega)) (nbad hu (by decide))), if_pos (by rw [ix_nI (by omega), ix_nI (by omega)]; exact h29)]
             done)
          | (by_cases h40 : m = 40
             · obtain ⟨k0, k1, k2⟩ := hk.1 h40
               subst k1 k2
               rw [k0]
               refine QD_no hA hD hT ?_
               dsimp only [oGo, nowT]
               rw [if_neg (fun q => q.elim (nbad hj (by omega)) (nbad hu (by decide))), if_neg (by rw [ix_nI (by omega), ix_nI (by omega)]; exact h29), if_pos (by omega)]
             · obtain ⟨k0, k1, k2, k3, k4, k5, k6⟩ := hk.2 h40
               rw [k0, k6]
               refine QD_push hA hD hT k1 k2 k3 k4 k5 ?_
               dsimp only [oGo, nowT]
               rw [if_neg (fun q => q.elim (nbad hj (by omega)) (nbad hu (by decide))), if_neg (by rw [ix_nI (by omega), ix_nI (by omega)]; exact h29), if_neg (by omega), ix_nI (by omega), ix_nI (by omega)]
               rfl)
    · refine aw_iconst (v := (-1)) dX11_go_15 kc_m1 ?_
      refine aw_iret dX11_go_16 rfl (rb0 (Nat.zero_le _)) ⟨rfl, _, rfl, ?_⟩
      first
        | (refine QD_no hA hD hT ?_
           exact if_pos (Or.inl (zi_bad h5)))
        | (refine QD_no hA hD hT ?_
           exact if_pos (Or.inr (zi_bad h12)))
        | (refine QD_no hA hD hT ?_
           dsimp only [oGo, nowT]
           rw [if_neg (fun q => q.elim (nbad hj (by omega)) (nbad hu (by decide))), if_pos (by rw [ix_nI (by omega), ix_nI (by omega)]; exact h29)]
           done)
        | (by_cases h40 : m = 40
           · obtain ⟨k0, k1, k2⟩ := hk.1 h40
             subst k1 k2
             rw [k0]
             refine QD_no hA hD hT ?_
             dsimp only [oGo, nowT]
             rw [if_neg (fun q => q.elim (nbad hj (by omega)) (nbad hu (by decide))), if_neg (by rw [ix_nI (by omega), ix_nI (by omega)]; exact h29), if_pos (by omega)]
           · obtain ⟨k0, k1, k2, k3, k4, k5, k6⟩ := hk.2 h40
             rw [k0, k6]
             refine QD_push hA hD hT k1 k2 k3 k4 k5 ?_
             dsimp only [oGo, nowT]
             rw [if_neg (fun q => q.elim (nbad hj (by omega)) (nbad hu (by decide))), if_neg (by rw [ix_nI (by omega), ix_nI (by omega)]; exact h29), if_neg (by omega), ix_nI (by omega), ix_nI (by omega)]
             rfl)
theorem m_later {G : GC} {E : SH} {iv : IV} {lv : LV} {M : Nat} (hM : MS G E M) {A : AA} {D : DD} {T : FT} (hA : MA M A iv lv) (hD : MD M D iv) (hT : MT M T iv) (hW : WT T) (i n : Int32) : SpI G mX11_later 7 [.ref M, .int i, .int n] E iv lv (QD M iv lv (oLater A D T i n)) := by
  obtain ⟨s, ⟨m, lg⟩, kp⟩ := T
  have hs : WS s := hW.1.1
  have hs7 : s.1 ≤ 7 := hs.1
  have hw : WV s (lg m) := nowW hW
  have hd : lg m 0 ≤ 40 := nowD hW
  have hr : SR M s iv := hT.1
  have hv : VR (M + 12) (lg m) iv := hT.2.2.1
  have h20 : iv M 20 = nI m := hT.2.1
  have hm : m ≤ 40 := hW.1.2.1
  refine spec0_of (lo := [_,_,_,_]) (by decide) (Nat.le_of_ble_eq_true rfl) rfl ?_
  refine aw_aload_n dX11_later_0 rfl ?_
  refine aw_iload_n dX11_later_1 rfl ?_
  refine aw_xVi [_] dX11_later_2 cvX11_167 (MS.s0 hM) (m_isOne hM hr.1 hs7 i) rfl rfl (Nat.le_of_ble_eq_true rfl) (rb0 (by decide)) ?_
  refine aw_if_eq (tgt := 18) dX11_later_5 rfl (fun h5 => ?_) (fun h5 => ?_)
  · refine aw_iconst (v := (-1)) dX11_later_18 kc_m1 ?_
    refine aw_iret dX11_later_19 rfl (rb0 (Nat.zero_le _)) ⟨rfl, _, rfl, ?_⟩
    first
      | (refine QD_tel hA hD hT hkq ?_
         dsimp only [oLater, nowT]
         rw [if_neg (fun q => q.elim (nbad hj (by omega)) (fun q => q.elim (fun q => absurd q (nI_pos (by omega))) (fun q => absurd q (nI_nlt hu (by omega))))), ix_nI (by omega), ix_nI (by omega)]
         rfl)
      | (refine QD_no hA hD hT ?_
         exact if_pos (Or.inl (zi_bad h5)))
      | (refine QD_no hA hD hT ?_
         refine if_pos (Or.inr ?_)
         by_cases q : n < 0
         · exact Or.inl q
         · exact Or.inr (Int32.not_le.mp (fun q2 => hc ⟨Int32.not_lt.mp q, q2⟩)))
  · obtain ⟨j, hj, rfl⟩ := zi_of h5 (by omega)
    refine aw_iload_n dX11_later_8 rfl ?_
    refine aw_iconst (v := nI 0) dX11_later_9 kc_0 ?_
    refine aw_bipush (v := nI 60) dX11_later_10 kb_60 ?_
    refine aw_xSi [_, _, _] dX11_later_12 csX11_76 (m_in n (nI 0) (nI 60)) rfl rfl (Nat.le_of_ble_eq_true rfl) (rb0 (by decide)) ?_
    refine aw_if_ne (tgt := 20) dX11_later_15 rfl (fun h15 => ?_) (fun h15 => ?_)
    · have hc := zI_n0.mp h15
      obtain ⟨u, hu, rfl⟩ := ix_le (n := n) (k := 60) (Int32.not_lt.mpr hc.1) (Int32.not_lt.mpr hc.2) (by decide)
      refine aw_aload_n dX11_later_20 rfl ?_
      refine aw_xVv [] dX11_later_21 cvX11_189 (MS.s0 hM) (m_copyNow hM) rfl rfl (Nat.le_of_ble_eq_true rfl) (rb0 (by decide)) ?_
      have hc13 : VR (M + 13) (lg m) (va_up iv (M + 13) (va_cpy (iv (M + 12)) (iv (M + 13)) 0 0 20)) := VR_copy hv
      have hcq : ∀ b, b ≠ M + 13 → va_up iv (M + 13) (va_cpy (iv (M + 12)) (iv (M + 13)) 0 0 20) b = iv b := fun b hb => va_up_n hb
      generalize va_up iv (M + 13) (va_cpy (iv (M + 12)) (iv (M + 13)) 0 0 20) = civ at hc13 hcq ⊢
      have hcr : SR M s civ := SR_f (by rw [hcq M (by omega)]) (hcq _ (by omega)) (hcq _ (by omega)) (hcq _ (by omega)) hr
      refine aw_aload_n dX11_later_24 rfl ?_
      refine aw_iload_n dX11_later_25 rfl ?_
      refine aw_sVi [_] dX11_later_26 cvX11_192 (MS.s0 hM) (m_allBehind hM hs hcr hc13 hw (n := u) (by omega)) rfl rfl (Nat.le_of_ble_eq_true rfl) (rb0 (by decide)) (fun kw kv klv hk => ?_)
      obtain ⟨k0, k1, k2, rfl⟩ := hk
      subst k0
      have hkq : ∀ b, b ≠ M + 13 → b ≠ M + 17 → kv b = iv b := fun b hb _ => by rw [k2 b hb]; exact hcq b hb
      refine aw_istore_n (lo' := [_,_,_,_]) dX11_later_29 (Nat.le_of_ble_eq_true rfl) rfl ?_
      refine aw_aload_n dX11_later_30 rfl ?_
      refine aw_iload_n dX11_later_31 rfl ?_
      refine aw_aload_n dX11_later_32 rfl ?_
      refine aw_getR dX11_later_33 fgX11_51 rfl (MS.s0 hM) (MS.r0_19 hM) ?_
      refine aw_bipush (v := nI 6) dX11_later_36 kb_6 ?_
      refine aw_iload_n dX11_later_38 rfl ?_
      refine aw_iadd dX11_later_39 ?_
      refine aw_iaload dX11_later_40 (MS.s13 hM) (show nI 6 + nI j = nI (6 + j) by rw [nI_add]) (by omega) ?_
      rw [k1 (6 + j) (by omega)]
      refine aw_xVi [_, _] dX11_later_41 cvX11_92 (MS.s0 hM) (m_tells hM _ _) rfl rfl (Nat.le_of_ble_eq_true rfl) (rb0 (by decide)) ?_
      refine aw_iret dX11_later_44 rfl (rb0 (Nat.zero_le _)) ⟨rfl, _, rfl, ?_⟩
      first
        | (refine QD_tel hA hD hT hkq ?_
           dsimp only [oLater, nowT]
           rw [if_neg (fun q => q.elim (nbad hj (by omega)) (fun q => q.elim (fun q => absurd q (nI_pos (by omega))) (fun q => absurd q (nI_nlt hu (by omega))))), ix_nI (by omega), ix_nI (by omega)]
           rfl)
        | (refine QD_no hA hD hT ?_
           exact if_pos (Or.inl (zi_bad h5)))
        | (refine QD_no hA hD hT ?_
           refine if_pos (Or.inr ?_)
           by_cases q : n < 0
           · exact Or.inl q
           · exact Or.inr (Int32.not_le.mp (fun q2 => hc ⟨Int32.not_lt.mp q, q2⟩)))
    · have hc := zI_0.mp h15
      refine aw_iconst (v := (-1)) dX11_later_18 kc_m1 ?_
      refine aw_iret dX11_later_19 rfl (rb0 (Nat.zero_le _)) ⟨rfl, _, rfl, ?_⟩
      first
        | (refine QD_tel hA hD hT hkq ?_
           dsimp only [oLater, nowT]
           rw [if_neg (fun q => q.elim (nbad hj (by omega)) (fun q => q.elim (fun q => absurd q (nI_pos (by omega))) (fun q => absurd q (nI_nlt hu (by omega))))), ix_nI (by omega), ix_nI (by omega)]
           rfl)
        | (refine QD_no hA hD hT ?_
           exact if_pos (Or.inl (zi_bad h5)))
        | (refine QD_no hA hD hT ?_
           refine if_pos (Or.inr ?_)
           by_cases q : n < 0
           · exact Or.inl q
           · exact Or.inr (Int32.not_le.mp (fun q2 => hc ⟨Int32.not_lt.mp q, q2⟩)))
