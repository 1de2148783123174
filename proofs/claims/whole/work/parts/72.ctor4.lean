theorem c_main_w {G : GC} {E0 E : SH} {iv0 iv : IV} {lv0 lv : LV} {a z0 : Nat} (h0 : z0 = a + 1) (hE : CS G E0 iv0 lv0 a [(0, 10, 0)] [] 1 Wz Lz E iv lv) : AW G mX10_init (rm 6 137) (ZM G (rm 6 137) (fun r E2 iv2 lv2 => r = none ∧ CS G E0 iv0 lv0 a XC XR 138 WXr (fun j => j == 10 || Lz j) E2 iv2 lv2)) (fun _ => True) z0 0 [some (.ref a), none] [] E iv lv := by
  replace hE := CS_cast (C2 := [(0, 10, 0)]) (R2 := []) (W2 := WXr) hE (by decide) (by decide) (fun o j ho => by rw [show o = 0 by omega]; exact wx_f (by decide) j) (fun _ => rfl)
  refine aw_aload_n dX10_init_0 rfl ?_
  refine aw_oinit dX10_init_1 oiX10_1 oi_i oi_c (Nat.le_of_ble_eq_true rfl) (rbA (D := 6) (d := 1) (mc := 137) (m := 0) (k := 1) (by decide) hE.1 h0 (by decide) (by decide)) ?_
  refine aw_aload_n dX10_init_4 rfl ?_
  refine aw_bipush (v := nI 6) dX10_init_5 kb_6 ?_
  refine aw_newq (C := RX7) (t := 22) (n := 6) (e := a + 1) dX10_init_7 hE.1 ckX10_9 (List.mem_of_getElem? (i := 0) rfl) rfl (by decide) (by decide) (rbA (D := 6) (d := 0) (mc := 137) (m := 1) (k := 1) (by decide) hE.1 h0 (by decide) (by decide)) ?_
  replace hE := CS_mk (t := 22) (n := 6) hE (by decide) (wx_f (by decide))
  generalize mkE E (a + 1) 22 6 = E at hE ⊢
  generalize va_up iv (a + 1) (fun _ => 0) = iv at hE ⊢
  generalize va_up lv (a + 1) (fun _ => 0) = lv at hE ⊢
  refine aw_putR dX10_init_10 fpX10_11 (fun _ => rfl) rfl (CS.s hE (0, 10, 0) (by decide +kernel)) ?_
  replace hE := CS_setR (x := a) (y := a + 1) (i := 0) (sl := 0) (j := 1) hE rfl rfl (by decide) (by decide +kernel)
  generalize setR E a 0 (a + 1) = E at hE ⊢
  refine aw_aload_n dX10_init_13 rfl ?_
  refine aw_iconst (v := nI 4) dX10_init_14 kc_4 ?_
  refine aw_newq (C := RX7) (t := 22) (n := 4) (e := a + 2) dX10_init_15 hE.1 ckX10_9 (List.mem_of_getElem? (i := 0) rfl) rfl (by decide) (by decide) (rbA (D := 6) (d := 0) (mc := 137) (m := 1) (k := 2) (by decide) hE.1 h0 (by decide) (by decide)) ?_
  replace hE := CS_mk (t := 22) (n := 4) hE (by decide) (wx_f (by decide))
  generalize mkE E (a + 2) 22 4 = E at hE ⊢
  generalize va_up iv (a + 2) (fun _ => 0) = iv at hE ⊢
  generalize va_up lv (a + 2) (fun _ => 0) = lv at hE ⊢
  refine aw_putR dX10_init_18 fpX10_15 (fun _ => rfl) rfl (CS.s hE (0, 10, 0) (by decide +kernel)) ?_
  replace hE := CS_setR (x := a) (y := a + 2) (i := 0) (sl := 1) (j := 2) hE rfl rfl (by decide) (by decide +kernel)
  generalize setR E a 1 (a + 2) = E at hE ⊢
  refine aw_aload_n dX10_init_21 rfl ?_
  refine aw_new (e := a + 3) dX10_init_22 hE.1 ckX10_18 is_5 in_AshGreetings_Reading cfX5 df_5 (by decide) (rbA (D := 6) (d := 0) (mc := 137) (m := 1) (k := 3) (by decide) hE.1 h0 (by decide) (by decide)) ?_
  refine aw_dup dX10_init_25 rfl ?_
  refine aw_callI (mc := 1) [] dX10_init_26 ciX10_20 (c_read (CS_new (t := 5) hE.1 (Nat.le_trans hE.2.1 (Nat.le_add_right _ _)))) rfl rfl (Nat.le_of_ble_eq_true rfl) (rbA (D := 6) (d := 2) (mc := 137) (m := 1) (k := 4) (by decide) rfl h0 (by decide) (by decide)) (fun _ _ _ _ q => q.2.1) (fun r E2 iv2 lv2 hq => ?_)
  obtain ⟨rfl, hq⟩ := hq
  replace hE := CS_sub (Wn := WXr) hE (by decide) hq (wx_sub (by decide)) wz_id
  clear hq
  generalize E2 = E at hE ⊢
  generalize iv2 = iv at hE ⊢
  generalize lv2 = lv at hE ⊢
  refine aw_putR dX10_init_29 fpX10_21 (fun _ => rfl) rfl (CS.s hE (0, 10, 0) (by decide +kernel)) ?_
  replace hE := CS_setR (x := a) (y := a + 3) (i := 0) (sl := 2) (j := 3) hE rfl rfl (by decide) (by decide +kernel)
  generalize setR E a 2 (a + 3) = E at hE ⊢
  refine aw_aload_n dX10_init_32 rfl ?_
  refine aw_new (e := a + 5) dX10_init_33 hE.1 ckX10_25 is_9 in_AshGreetings_Town cfX9 df_9 (by decide) (rbA (D := 6) (d := 0) (mc := 137) (m := 1) (k := 5) (by decide) hE.1 h0 (by decide) (by decide)) ?_
  refine aw_dup dX10_init_36 rfl ?_
  refine aw_callI (mc := 19) [] dX10_init_37 ciX10_27 (c_town (CS_new (t := 9) hE.1 (Nat.le_trans hE.2.1 (Nat.le_add_right _ _)))) rfl rfl (Nat.le_of_ble_eq_true rfl) (rbA (D := 6) (d := 5) (mc := 137) (m := 19) (k := 6) (by decide) rfl h0 (by decide) (by decide)) (fun _ _ _ _ q => q.2.1) (fun r E2 iv2 lv2 hq => ?_)
  obtain ⟨rfl, hq⟩ := hq
  replace hE := CS_sub (Wn := WXr) hE (by decide) hq (wx_sub (by decide)) wz_id
  clear hq
  generalize E2 = E at hE ⊢
  generalize iv2 = iv at hE ⊢
  generalize lv2 = lv at hE ⊢
  refine aw_putR dX10_init_40 fpX10_28 (fun _ => rfl) rfl (CS.s hE (0, 10, 0) (by decide +kernel)) ?_
  replace hE := CS_setR (x := a) (y := a + 5) (i := 0) (sl := 3) (j := 5) hE rfl rfl (by decide) (by decide +kernel)
  generalize setR E a 3 (a + 5) = E at hE ⊢
  refine aw_aload_n dX10_init_43 rfl ?_
  refine aw_iconst (v := nI 3) dX10_init_44 kc_3 ?_
  refine aw_newq (C := RX9) (t := 23) (n := 3) (e := a + 25) dX10_init_45 hE.1 ckX10_25 (List.mem_of_getElem? (i := 1) rfl) rfl (by decide) (by decide) (rbA (D := 6) (d := 0) (mc := 137) (m := 1) (k := 25) (by decide) hE.1 h0 (by decide) (by decide)) ?_
  replace hE := CS_mk (t := 23) (n := 3) hE (by decide) (wx_f (by decide))
  generalize mkE E (a + 25) 23 3 = E at hE ⊢
  generalize va_up iv (a + 25) (fun _ => 0) = iv at hE ⊢
  generalize va_up lv (a + 25) (fun _ => 0) = lv at hE ⊢
  refine aw_putR dX10_init_48 fpX10_32 (fun _ => rfl) rfl (CS.s hE (0, 10, 0) (by decide +kernel)) ?_
  replace hE := CS_setR (x := a) (y := a + 25) (i := 0) (sl := 4) (j := 25) hE rfl rfl (by decide) (by decide +kernel)
  generalize setR E a 4 (a + 25) = E at hE ⊢
  refine aw_aload_n dX10_init_51 rfl ?_
  refine aw_new (e := a + 26) dX10_init_52 hE.1 ckX10_36 is_3 in_AshGreetings_Outlook cfX3 df_3 (by decide) (rbA (D := 6) (d := 0) (mc := 137) (m := 1) (k := 26) (by decide) hE.1 h0 (by decide) (by decide)) ?_
  refine aw_dup dX10_init_55 rfl ?_
  refine aw_callI (mc := 30) [] dX10_init_56 ciX10_38 (c_out (CS_new (t := 3) hE.1 (Nat.le_trans hE.2.1 (Nat.le_add_right _ _)))) rfl rfl (Nat.le_of_ble_eq_true rfl) (rbA (D := 6) (d := 6) (mc := 137) (m := 30) (k := 27) (by decide) rfl h0 (by decide) (by decide)) (fun _ _ _ _ q => q.2.1) (fun r E2 iv2 lv2 hq => ?_)
  obtain ⟨rfl, hq⟩ := hq
  replace hE := CS_sub (Wn := WXr) hE (by decide) hq (wx_sub (by decide)) wz_id
  clear hq
  generalize E2 = E at hE ⊢
  generalize iv2 = iv at hE ⊢
  generalize lv2 = lv at hE ⊢
  refine aw_putR dX10_init_59 fpX10_39 (fun _ => rfl) rfl (CS.s hE (0, 10, 0) (by decide +kernel)) ?_
  replace hE := CS_setR (x := a) (y := a + 26) (i := 0) (sl := 5) (j := 26) hE rfl rfl (by decide) (by decide +kernel)
  generalize setR E a 5 (a + 26) = E at hE ⊢
  refine aw_aload_n dX10_init_62 rfl ?_
  refine aw_bipush (v := nI 6) dX10_init_63 kb_6 ?_
  refine aw_newi (n := 6) (e := a + 57) dX10_init_65 hE.1 ac_int (by decide) (rbA (D := 6) (d := 0) (mc := 137) (m := 1) (k := 57) (by decide) hE.1 h0 (by decide) (by decide)) ?_
  replace hE := CS_mk (t := 20) (n := 6) hE (by decide) (wx_f (by decide))
  generalize mkE E (a + 57) 20 6 = E at hE ⊢
  generalize va_up iv (a + 57) (fun _ => 0) = iv at hE ⊢
  generalize va_up lv (a + 57) (fun _ => 0) = lv at hE ⊢
  refine aw_putR dX10_init_67 fpX10_43 (fun _ => rfl) rfl (CS.s hE (0, 10, 0) (by decide +kernel)) ?_
  replace hE := CS_setR (x := a) (y := a + 57) (i := 0) (sl := 6) (j := 57) hE rfl rfl (by decide) (by decide +kernel)
  generalize setR E a 6 (a + 57) = E at hE ⊢
  refine aw_aload_n dX10_init_70 rfl ?_
  refine aw_iconst (v := nI 0) dX10_init_71 kc_0 ?_
  refine aw_putI dX10_init_72 fpX10_47 rfl (CS.s hE (0, 10, 0) (by decide +kernel)) ?_
  replace hE := CS_putI0 (x := a) (i := 0) (sl := 7) hE rfl (by decide) rfl
  generalize va_up iv a (upd (iv a) 7 (nI 0)) = iv at hE ⊢
  refine aw_aload_n dX10_init_75 rfl ?_
  refine aw_iconst (v := nI 0) dX10_init_76 kc_0 ?_
  refine aw_putI dX10_init_77 fpX10_51 rfl (CS.s hE (0, 10, 0) (by decide +kernel)) ?_
  replace hE := CS_putI0 (x := a) (i := 0) (sl := 8) hE rfl (by decide) rfl
  generalize va_up iv a (upd (iv a) 8 (nI 0)) = iv at hE ⊢
  refine aw_aload_n dX10_init_80 rfl ?_
  refine aw_lconst (v := lN 0) dX10_init_81 kl_0 ?_
  refine aw_putL dX10_init_82 fpX10_54 rfl (CS.s hE (0, 10, 0) (by decide +kernel)) ?_
  replace hE := CS_putL0 (sl := 9) hE rfl
  generalize va_up lv a (vp_updL (lv a) 9 (lN 0)) = lv at hE ⊢
  refine aw_aload_n dX10_init_85 rfl ?_
  refine aw_lconst (v := lN 1) dX10_init_86 kl_1 ?_
  refine aw_putL dX10_init_87 fpX10_58 rfl (CS.s hE (0, 10, 0) (by decide +kernel)) ?_
  replace hE := CS_putL1 (sl := 10) hE
  generalize va_up lv a (vp_updL (lv a) 10 (lN 1)) = lv at hE ⊢
  refine aw_iconst (v := nI 0) dX10_init_90 kc_0 ?_
  refine aw_istore_n (lo' := [_,_]) dX10_init_91 (Nat.le_of_ble_eq_true rfl) rfl ?_
  refine aw_iload_n dX10_init_92 rfl ?_
  refine aw_bipush (v := nI 6) dX10_init_93 kb_6 ?_
  refine aw_icmp_ge (tgt := 119) dX10_init_95 rfl (fun h => absurd h (by decide)) (fun h => ?_)
  clear h
  refine aw_aload_n dX10_init_98 rfl ?_
  refine aw_getR dX10_init_99 fgX10_11 rfl (CS.s hE (0, 10, 0) (by decide +kernel)) (CS.r hE (0, 0, 1) (by decide +kernel)) ?_
  refine aw_iload_n dX10_init_102 rfl ?_
  refine aw_new (e := a + 58) dX10_init_103 hE.1 ckX10_9 is_7 in_AshGreetings_Strip cfX7 df_7 (by decide) (rbA (D := 6) (d := 0) (mc := 137) (m := 1) (k := 58) (by decide) hE.1 h0 (by decide) (by decide)) ?_
  refine aw_dup dX10_init_106 rfl ?_
  refine aw_bipush (v := nI 40) dX10_init_107 kb_40 ?_
  refine aw_callI (mc := 1) [_] dX10_init_109 ciX10_61 (c_strip (n := 40) (CS_new (t := 7) hE.1 (Nat.le_trans hE.2.1 (Nat.le_add_right _ _))) (by decide)) rfl rfl (Nat.le_of_ble_eq_true rfl) (rbA (D := 6) (d := 2) (mc := 137) (m := 1) (k := 59) (by decide) rfl h0 (by decide) (by decide)) (fun _ _ _ _ q => q.2.1) (fun r E2 iv2 lv2 hq => ?_)
  obtain ⟨rfl, hq⟩ := hq
  replace hE := CS_sub (Wn := WXr) hE (by decide) hq (wx_st (by decide) (by decide)) wz_id
  clear hq
  generalize E2 = E at hE ⊢
  generalize iv2 = iv at hE ⊢
  generalize lv2 = lv at hE ⊢
  refine aw_aast (j := 0) (q0 := (RX7, TX7, 2)) (C := RX7) dX10_init_112 (CS.s hE (1, 22, 6) (by decide +kernel)) rfl (by decide) rfl (by decide) (CS.s hE (58, 7, 0) (by decide +kernel)) (by decide) rfl (Or.inl rfl) ?_
  replace hE := CS_setR (x := a + 1) (y := a + 58) (i := 1) (sl := 0) (j := 58) hE rfl rfl (by decide) (by decide +kernel)
  generalize setR E (a + 1) 0 (a + 58) = E at hE ⊢
  refine aw_iinc (v := nI 1) (lo' := [_,_]) dX10_init_113 rfl (by decide) rfl ?_
  refine aw_goto (tgt := 92) dX10_init_116 rfl ?_
  refine aw_iload_n dX10_init_92 rfl ?_
  refine aw_bipush (v := nI 6) dX10_init_93 kb_6 ?_
  refine aw_icmp_ge (tgt := 119) dX10_init_95 rfl (fun h => absurd h (by decide)) (fun h => ?_)
  clear h
  refine aw_aload_n dX10_init_98 rfl ?_
  refine aw_getR dX10_init_99 fgX10_11 rfl (CS.s hE (0, 10, 0) (by decide +kernel)) (CS.r hE (0, 0, 1) (by decide +kernel)) ?_
  refine aw_iload_n dX10_init_102 rfl ?_
  refine aw_new (e := a + 60) dX10_init_103 hE.1 ckX10_9 is_7 in_AshGreetings_Strip cfX7 df_7 (by decide) (rbA (D := 6) (d := 0) (mc := 137) (m := 1) (k := 60) (by decide) hE.1 h0 (by decide) (by decide)) ?_
  refine aw_dup dX10_init_106 rfl ?_
  refine aw_bipush (v := nI 40) dX10_init_107 kb_40 ?_
  refine aw_callI (mc := 1) [_] dX10_init_109 ciX10_61 (c_strip (n := 40) (CS_new (t := 7) hE.1 (Nat.le_trans hE.2.1 (Nat.le_add_right _ _))) (by decide)) rfl rfl (Nat.le_of_ble_eq_true rfl) (rbA (D := 6) (d := 2) (mc := 137) (m := 1) (k := 61) (by decide) rfl h0 (by decide) (by decide)) (fun _ _ _ _ q => q.2.1) (fun r E2 iv2 lv2 hq => ?_)
  obtain ⟨rfl, hq⟩ := hq
  replace hE := CS_sub (Wn := WXr) hE (by decide) hq (wx_st (by decide) (by decide)) wz_id
  clear hq
  generalize E2 = E at hE ⊢
  generalize iv2 = iv at hE ⊢
  generalize lv2 = lv at hE ⊢
  refine aw_aast (j := 1) (q0 := (RX7, TX7, 2)) (C := RX7) dX10_init_112 (CS.s hE (1, 22, 6) (by decide +kernel)) rfl (by decide) rfl (by decide) (CS.s hE (60, 7, 0) (by decide +kernel)) (by decide) rfl (Or.inl rfl) ?_
  replace hE := CS_setR (x := a + 1) (y := a + 60) (i := 1) (sl := 1) (j := 60) hE rfl rfl (by decide) (by decide +kernel)
  generalize setR E (a + 1) 1 (a + 60) = E at hE ⊢
  refine aw_iinc (v := nI 2) (lo' := [_,_]) dX10_init_113 rfl (by decide) rfl ?_
  refine aw_goto (tgt := 92) dX10_init_116 rfl ?_
  refine aw_iload_n dX10_init_92 rfl ?_
  refine aw_bipush (v := nI 6) dX10_init_93 kb_6 ?_
  refine aw_icmp_ge (tgt := 119) dX10_init_95 rfl (fun h => absurd h (by decide)) (fun h => ?_)
  clear h
  refine aw_aload_n dX10_init_98 rfl ?_
  refine aw_getR dX10_init_99 fgX10_11 rfl (CS.s hE (0, 10, 0) (by decide +kernel)) (CS.r hE (0, 0, 1) (by decide +kernel)) ?_
  refine aw_iload_n dX10_init_102 rfl ?_
  refine aw_new (e := a + 62) dX10_init_103 hE.1 ckX10_9 is_7 in_AshGreetings_Strip cfX7 df_7 (by decide) (rbA (D := 6) (d := 0) (mc := 137) (m := 1) (k := 62) (by decide) hE.1 h0 (by decide) (by decide)) ?_
  refine aw_dup dX10_init_106 rfl ?_
  refine aw_bipush (v := nI 40) dX10_init_107 kb_40 ?_
  refine aw_callI (mc := 1) [_] dX10_init_109 ciX10_61 (c_strip (n := 40) (CS_new (t := 7) hE.1 (Nat.le_trans hE.2.1 (Nat.le_add_right _ _))) (by decide)) rfl rfl (Nat.le_of_ble_eq_true rfl) (rbA (D := 6) (d := 2) (mc := 137) (m := 1) (k := 63) (by decide) rfl h0 (by decide) (by decide)) (fun _ _ _ _ q => q.2.1) (fun r E2 iv2 lv2 hq => ?_)
  obtain ⟨rfl, hq⟩ := hq
  replace hE := CS_sub (Wn := WXr) hE (by decide) hq (wx_st (by decide) (by decide)) wz_id
  clear hq
  generalize E2 = E at hE ⊢
  generalize iv2 = iv at hE ⊢
  generalize lv2 = lv at hE ⊢
  refine aw_aast (j := 2) (q0 := (RX7, TX7, 2)) (C := RX7) dX10_init_112 (CS.s hE (1, 22, 6) (by decide +kernel)) rfl (by decide) rfl (by decide) (CS.s hE (62, 7, 0) (by decide +kernel)) (by decide) rfl (Or.inl rfl) ?_
  replace hE := CS_setR (x := a + 1) (y := a + 62) (i := 1) (sl := 2) (j := 62) hE rfl rfl (by decide) (by decide +kernel)
  generalize setR E (a + 1) 2 (a + 62) = E at hE ⊢
  refine aw_iinc (v := nI 3) (lo' := [_,_]) dX10_init_113 rfl (by decide) rfl ?_
  refine aw_goto (tgt := 92) dX10_init_116 rfl ?_
  refine aw_iload_n dX10_init_92 rfl ?_
  refine aw_bipush (v := nI 6) dX10_init_93 kb_6 ?_
  refine aw_icmp_ge (tgt := 119) dX10_init_95 rfl (fun h => absurd h (by decide)) (fun h => ?_)
  clear h
  refine aw_aload_n dX10_init_98 rfl ?_
  refine aw_getR dX10_init_99 fgX10_11 rfl (CS.s hE (0, 10, 0) (by decide +kernel)) (CS.r hE (0, 0, 1) (by decide +kernel)) ?_
  refine aw_iload_n dX10_init_102 rfl ?_
  refine aw_new (e := a + 64) dX10_init_103 hE.1 ckX10_9 is_7 in_AshGreetings_Strip cfX7 df_7 (by decide) (rbA (D := 6) (d := 0) (mc := 137) (m := 1) (k := 64) (by decide) hE.1 h0 (by decide) (by decide)) ?_
  refine aw_dup dX10_init_106 rfl ?_
  refine aw_bipush (v := nI 40) dX10_init_107 kb_40 ?_
  refine aw_callI (mc := 1) [_] dX10_init_109 ciX10_61 (c_strip (n := 40) (CS_new (t := 7) hE.1 (Nat.le_trans hE.2.1 (Nat.le_add_right _ _))) (by decide)) rfl rfl (Nat.le_of_ble_eq_true rfl) (rbA (D := 6) (d := 2) (mc := 137) (m := 1) (k := 65) (by decide) rfl h0 (by decide) (by decide)) (fun _ _ _ _ q => q.2.1) (fun r E2 iv2 lv2 hq => ?_)
  obtain ⟨rfl, hq⟩ := hq
  replace hE := CS_sub (Wn := WXr) hE (by decide) hq (wx_st (by decide) (by decide)) wz_id
  clear hq
  generalize E2 = E at hE ⊢
  generalize iv2 = iv at hE ⊢
  generalize lv2 = lv at hE ⊢
  refine aw_aast (j := 3) (q0 := (RX7, TX7, 2)) (C := RX7) dX10_init_112 (CS.s hE (1, 22, 6) (by decide +kernel)) rfl (by decide) rfl (by decide) (CS.s hE (64, 7, 0) (by decide +kernel)) (by decide) rfl (Or.inl rfl) ?_
  replace hE := CS_setR (x := a + 1) (y := a + 64) (i := 1) (sl := 3) (j := 64) hE rfl rfl (by decide) (by decide +kernel)
  generalize setR E (a + 1) 3 (a + 64) = E at hE ⊢
  refine aw_iinc (v := nI 4) (lo' := [_,_]) dX10_init_113 rfl (by decide) rfl ?_
  refine aw_goto (tgt := 92) dX10_init_116 rfl ?_
  refine aw_iload_n dX10_init_92 rfl ?_
  refine aw_bipush (v := nI 6) dX10_init_93 kb_6 ?_
  refine aw_icmp_ge (tgt := 119) dX10_init_95 rfl (fun h => absurd h (by decide)) (fun h => ?_)
  clear h
  refine aw_aload_n dX10_init_98 rfl ?_
  refine aw_getR dX10_init_99 fgX10_11 rfl (CS.s hE (0, 10, 0) (by decide +kernel)) (CS.r hE (0, 0, 1) (by decide +kernel)) ?_
  refine aw_iload_n dX10_init_102 rfl ?_
  refine aw_new (e := a + 66) dX10_init_103 hE.1 ckX10_9 is_7 in_AshGreetings_Strip cfX7 df_7 (by decide) (rbA (D := 6) (d := 0) (mc := 137) (m := 1) (k := 66) (by decide) hE.1 h0 (by decide) (by decide)) ?_
  refine aw_dup dX10_init_106 rfl ?_
  refine aw_bipush (v := nI 40) dX10_init_107 kb_40 ?_
  refine aw_callI (mc := 1) [_] dX10_init_109 ciX10_61 (c_strip (n := 40) (CS_new (t := 7) hE.1 (Nat.le_trans hE.2.1 (Nat.le_add_right _ _))) (by decide)) rfl rfl (Nat.le_of_ble_eq_true rfl) (rbA (D := 6) (d := 2) (mc := 137) (m := 1) (k := 67) (by decide) rfl h0 (by decide) (by decide)) (fun _ _ _ _ q => q.2.1) (fun r E2 iv2 lv2 hq => ?_)
  obtain ⟨rfl, hq⟩ := hq
  replace hE := CS_sub (Wn := WXr) hE (by decide) hq (wx_st (by decide) (by decide)) wz_id
  clear hq
  generalize E2 = E at hE ⊢
  generalize iv2 = iv at hE ⊢
  generalize lv2 = lv at hE ⊢
  refine aw_aast (j := 4) (q0 := (RX7, TX7, 2)) (C := RX7) dX10_init_112 (CS.s hE (1, 22, 6) (by decide +kernel)) rfl (by decide) rfl (by decide) (CS.s hE (66, 7, 0) (by decide +kernel)) (by decide) rfl (Or.inl rfl) ?_
  replace hE := CS_setR (x := a + 1) (y := a + 66) (i := 1) (sl := 4) (j := 66) hE rfl rfl (by decide) (by decide +kernel)
  generalize setR E (a + 1) 4 (a + 66) = E at hE ⊢
  refine aw_iinc (v := nI 5) (lo' := [_,_]) dX10_init_113 rfl (by decide) rfl ?_
  refine aw_goto (tgt := 92) dX10_init_116 rfl ?_
  refine aw_iload_n dX10_init_92 rfl ?_
  refine aw_bipush (v := nI 6) dX10_init_93 kb_6 ?_
  refine aw_icmp_ge (tgt := 119) dX10_init_95 rfl (fun h => absurd h (by decide)) (fun h => ?_)
  clear h
  refine aw_aload_n dX10_init_98 rfl ?_
  refine aw_getR dX10_init_99 fgX10_11 rfl (CS.s hE (0, 10, 0) (by decide +kernel)) (CS.r hE (0, 0, 1) (by decide +kernel)) ?_
  refine aw_iload_n dX10_init_102 rfl ?_
  refine aw_new (e := a + 68) dX10_init_103 hE.1 ckX10_9 is_7 in_AshGreetings_Strip cfX7 df_7 (by decide) (rbA (D := 6) (d := 0) (mc := 137) (m := 1) (k := 68) (by decide) hE.1 h0 (by decide) (by decide)) ?_
  refine aw_dup dX10_init_106 rfl ?_
  refine aw_bipush (v := nI 40) dX10_init_107 kb_40 ?_
  refine aw_callI (mc := 1) [_] dX10_init_109 ciX10_61 (c_strip (n := 40) (CS_new (t := 7) hE.1 (Nat.le_trans hE.2.1 (Nat.le_add_right _ _))) (by decide)) rfl rfl (Nat.le_of_ble_eq_true rfl) (rbA (D := 6) (d := 2) (mc := 137) (m := 1) (k := 69) (by decide) rfl h0 (by decide) (by decide)) (fun _ _ _ _ q => q.2.1) (fun r E2 iv2 lv2 hq => ?_)
  obtain ⟨rfl, hq⟩ := hq
  replace hE := CS_sub (Wn := WXr) hE (by decide) hq (wx_st (by decide) (by decide)) wz_id
  clear hq
  generalize E2 = E at hE ⊢
  generalize iv2 = iv at hE ⊢
  generalize lv2 = lv at hE ⊢
  refine aw_aast (j := 5) (q0 := (RX7, TX7, 2)) (C := RX7) dX10_init_112 (CS.s hE (1, 22, 6) (by decide +kernel)) rfl (by decide) rfl (by decide) (CS.s hE (68, 7, 0) (by decide +kernel)) (by decide) rfl (Or.inl rfl) ?_
  replace hE := CS_setR (x := a + 1) (y := a + 68) (i := 1) (sl := 5) (j := 68) hE rfl rfl (by decide) (by decide +kernel)
  generalize setR E (a + 1) 5 (a + 68) = E at hE ⊢
  refine aw_iinc (v := nI 6) (lo' := [_,_]) dX10_init_113 rfl (by decide) rfl ?_
  refine aw_goto (tgt := 92) dX10_init_116 rfl ?_
  refine aw_iload_n dX10_init_92 rfl ?_
  refine aw_bipush (v := nI 6) dX10_init_93 kb_6 ?_
  refine aw_icmp_ge (tgt := 119) dX10_init_95 rfl (fun h => ?_) (fun h => absurd (by decide) h)
  clear h
  refine aw_iconst (v := nI 0) dX10_init_119 kc_0 ?_
  refine aw_istore_n (lo' := [_,_]) dX10_init_120 (Nat.le_of_ble_eq_true rfl) rfl ?_
  refine aw_iload_n dX10_init_121 rfl ?_
  refine aw_iconst (v := nI 4) dX10_init_122 kc_4 ?_
  refine aw_icmp_ge (tgt := 147) dX10_init_123 rfl (fun h => absurd h (by decide)) (fun h => ?_)
  clear h
  refine aw_aload_n dX10_init_126 rfl ?_
  refine aw_getR dX10_init_127 fgX10_15 rfl (CS.s hE (0, 10, 0) (by decide +kernel)) (CS.r hE (0, 1, 2) (by decide +kernel)) ?_
  refine aw_iload_n dX10_init_130 rfl ?_
  refine aw_new (e := a + 70) dX10_init_131 hE.1 ckX10_9 is_7 in_AshGreetings_Strip cfX7 df_7 (by decide) (rbA (D := 6) (d := 0) (mc := 137) (m := 1) (k := 70) (by decide) hE.1 h0 (by decide) (by decide)) ?_
  refine aw_dup dX10_init_134 rfl ?_
  refine aw_bipush (v := nI 60) dX10_init_135 kb_60 ?_
  refine aw_callI (mc := 1) [_] dX10_init_137 ciX10_61 (c_strip (n := 60) (CS_new (t := 7) hE.1 (Nat.le_trans hE.2.1 (Nat.le_add_right _ _))) (by decide)) rfl rfl (Nat.le_of_ble_eq_true rfl) (rbA (D := 6) (d := 2) (mc := 137) (m := 1) (k := 71) (by decide) rfl h0 (by decide) (by decide)) (fun _ _ _ _ q => q.2.1) (fun r E2 iv2 lv2 hq => ?_)
  obtain ⟨rfl, hq⟩ := hq
  replace hE := CS_sub (Wn := WXr) hE (by decide) hq (wx_st (by decide) (by decide)) wz_id
  clear hq
  generalize E2 = E at hE ⊢
  generalize iv2 = iv at hE ⊢
  generalize lv2 = lv at hE ⊢
  refine aw_aast (j := 0) (q0 := (RX7, TX7, 2)) (C := RX7) dX10_init_140 (CS.s hE (2, 22, 4) (by decide +kernel)) rfl (by decide) rfl (by decide) (CS.s hE (70, 7, 0) (by decide +kernel)) (by decide) rfl (Or.inl rfl) ?_
  replace hE := CS_setR (x := a + 2) (y := a + 70) (i := 2) (sl := 0) (j := 70) hE rfl rfl (by decide) (by decide +kernel)
  generalize setR E (a + 2) 0 (a + 70) = E at hE ⊢
  refine aw_iinc (v := nI 1) (lo' := [_,_]) dX10_init_141 rfl (by decide) rfl ?_
  refine aw_goto (tgt := 121) dX10_init_144 rfl ?_
  refine aw_iload_n dX10_init_121 rfl ?_
  refine aw_iconst (v := nI 4) dX10_init_122 kc_4 ?_
  refine aw_icmp_ge (tgt := 147) dX10_init_123 rfl (fun h => absurd h (by decide)) (fun h => ?_)
  clear h
  refine aw_aload_n dX10_init_126 rfl ?_
  refine aw_getR dX10_init_127 fgX10_15 rfl (CS.s hE (0, 10, 0) (by decide +kernel)) (CS.r hE (0, 1, 2) (by decide +kernel)) ?_
  refine aw_iload_n dX10_init_130 rfl ?_
  refine aw_new (e := a + 72) dX10_init_131 hE.1 ckX10_9 is_7 in_AshGreetings_Strip cfX7 df_7 (by decide) (rbA (D := 6) (d := 0) (mc := 137) (m := 1) (k := 72) (by decide) hE.1 h0 (by decide) (by decide)) ?_
  refine aw_dup dX10_init_134 rfl ?_
  refine aw_bipush (v := nI 60) dX10_init_135 kb_60 ?_
  refine aw_callI (mc := 1) [_] dX10_init_137 ciX10_61 (c_strip (n := 60) (CS_new (t := 7) hE.1 (Nat.le_trans hE.2.1 (Nat.le_add_right _ _))) (by decide)) rfl rfl (Nat.le_of_ble_eq_true rfl) (rbA (D := 6) (d := 2) (mc := 137) (m := 1) (k := 73) (by decide) rfl h0 (by decide) (by decide)) (fun _ _ _ _ q => q.2.1) (fun r E2 iv2 lv2 hq => ?_)
  obtain ⟨rfl, hq⟩ := hq
  replace hE := CS_sub (Wn := WXr) hE (by decide) hq (wx_st (by decide) (by decide)) wz_id
  clear hq
  generalize E2 = E at hE ⊢
  generalize iv2 = iv at hE ⊢
  generalize lv2 = lv at hE ⊢
  refine aw_aast (j := 1) (q0 := (RX7, TX7, 2)) (C := RX7) dX10_init_140 (CS.s hE (2, 22, 4) (by decide +kernel)) rfl (by decide) rfl (by decide) (CS.s hE (72, 7, 0) (by decide +kernel)) (by decide) rfl (Or.inl rfl) ?_
  replace hE := CS_setR (x := a + 2) (y := a + 72) (i := 2) (sl := 1) (j := 72) hE rfl rfl (by decide) (by decide +kernel)
  generalize setR E (a + 2) 1 (a + 72) = E at hE ⊢
  refine aw_iinc (v := nI 2) (lo' := [_,_]) dX10_init_141 rfl (by decide) rfl ?_
  refine aw_goto (tgt := 121) dX10_init_144 rfl ?_
  refine aw_iload_n dX10_init_121 rfl ?_
  refine aw_iconst (v := nI 4) dX10_init_122 kc_4 ?_
  refine aw_icmp_ge (tgt := 147) dX10_init_123 rfl (fun h => absurd h (by decide)) (fun h => ?_)
  clear h
  refine aw_aload_n dX10_init_126 rfl ?_
  refine aw_getR dX10_init_127 fgX10_15 rfl (CS.s hE (0, 10, 0) (by decide +kernel)) (CS.r hE (0, 1, 2) (by decide +kernel)) ?_
  refine aw_iload_n dX10_init_130 rfl ?_
  refine aw_new (e := a + 74) dX10_init_131 hE.1 ckX10_9 is_7 in_AshGreetings_Strip cfX7 df_7 (by decide) (rbA (D := 6) (d := 0) (mc := 137) (m := 1) (k := 74) (by decide) hE.1 h0 (by decide) (by decide)) ?_
  refine aw_dup dX10_init_134 rfl ?_
  refine aw_bipush (v := nI 60) dX10_init_135 kb_60 ?_
  refine aw_callI (mc := 1) [_] dX10_init_137 ciX10_61 (c_strip (n := 60) (CS_new (t := 7) hE.1 (Nat.le_trans hE.2.1 (Nat.le_add_right _ _))) (by decide)) rfl rfl (Nat.le_of_ble_eq_true rfl) (rbA (D := 6) (d := 2) (mc := 137) (m := 1) (k := 75) (by decide) rfl h0 (by decide) (by decide)) (fun _ _ _ _ q => q.2.1) (fun r E2 iv2 lv2 hq => ?_)
  obtain ⟨rfl, hq⟩ := hq
  replace hE := CS_sub (Wn := WXr) hE (by decide) hq (wx_st (by decide) (by decide)) wz_id
  clear hq
  generalize E2 = E at hE ⊢
  generalize iv2 = iv at hE ⊢
  generalize lv2 = lv at hE ⊢
  refine aw_aast (j := 2) (q0 := (RX7, TX7, 2)) (C := RX7) dX10_init_140 (CS.s hE (2, 22, 4) (by decide +kernel)) rfl (by decide) rfl (by decide) (CS.s hE (74, 7, 0) (by decide +kernel)) (by decide) rfl (Or.inl rfl) ?_
  replace hE := CS_setR (x := a + 2) (y := a + 74) (i := 2) (sl := 2) (j := 74) hE rfl rfl (by decide) (by decide +kernel)
  generalize setR E (a + 2) 2 (a + 74) = E at hE ⊢
  refine aw_iinc (v := nI 3) (lo' := [_,_]) dX10_init_141 rfl (by decide) rfl ?_
  refine aw_goto (tgt := 121) dX10_init_144 rfl ?_
  refine aw_iload_n dX10_init_121 rfl ?_
  refine aw_iconst (v := nI 4) dX10_init_122 kc_4 ?_
  refine aw_icmp_ge (tgt := 147) dX10_init_123 rfl (fun h => absurd h (by decide)) (fun h => ?_)
  clear h
  refine aw_aload_n dX10_init_126 rfl ?_
  refine aw_getR dX10_init_127 fgX10_15 rfl (CS.s hE (0, 10, 0) (by decide +kernel)) (CS.r hE (0, 1, 2) (by decide +kernel)) ?_
  refine aw_iload_n dX10_init_130 rfl ?_
  refine aw_new (e := a + 76) dX10_init_131 hE.1 ckX10_9 is_7 in_AshGreetings_Strip cfX7 df_7 (by decide) (rbA (D := 6) (d := 0) (mc := 137) (m := 1) (k := 76) (by decide) hE.1 h0 (by decide) (by decide)) ?_
  refine aw_dup dX10_init_134 rfl ?_
  refine aw_bipush (v := nI 60) dX10_init_135 kb_60 ?_
  refine aw_callI (mc := 1) [_] dX10_init_137 ciX10_61 (c_strip (n := 60) (CS_new (t := 7) hE.1 (Nat.le_trans hE.2.1 (Nat.le_add_right _ _))) (by decide)) rfl rfl (Nat.le_of_ble_eq_true rfl) (rbA (D := 6) (d := 2) (mc := 137) (m := 1) (k := 77) (by decide) rfl h0 (by decide) (by decide)) (fun _ _ _ _ q => q.2.1) (fun r E2 iv2 lv2 hq => ?_)
  obtain ⟨rfl, hq⟩ := hq
  replace hE := CS_sub (Wn := WXr) hE (by decide) hq (wx_st (by decide) (by decide)) wz_id
  clear hq
  generalize E2 = E at hE ⊢
  generalize iv2 = iv at hE ⊢
  generalize lv2 = lv at hE ⊢
  refine aw_aast (j := 3) (q0 := (RX7, TX7, 2)) (C := RX7) dX10_init_140 (CS.s hE (2, 22, 4) (by decide +kernel)) rfl (by decide) rfl (by decide) (CS.s hE (76, 7, 0) (by decide +kernel)) (by decide) rfl (Or.inl rfl) ?_
  replace hE := CS_setR (x := a + 2) (y := a + 76) (i := 2) (sl := 3) (j := 76) hE rfl rfl (by decide) (by decide +kernel)
  generalize setR E (a + 2) 3 (a + 76) = E at hE ⊢
  refine aw_iinc (v := nI 4) (lo' := [_,_]) dX10_init_141 rfl (by decide) rfl ?_
  refine aw_goto (tgt := 121) dX10_init_144 rfl ?_
  refine aw_iload_n dX10_init_121 rfl ?_
  refine aw_iconst (v := nI 4) dX10_init_122 kc_4 ?_
  refine aw_icmp_ge (tgt := 147) dX10_init_123 rfl (fun h => ?_) (fun h => absurd (by decide) h)
  clear h
  refine aw_iconst (v := nI 0) dX10_init_147 kc_0 ?_
  refine aw_istore_n (lo' := [_,_]) dX10_init_148 (Nat.le_of_ble_eq_true rfl) rfl ?_
  refine aw_iload_n dX10_init_149 rfl ?_
  refine aw_iconst (v := nI 3) dX10_init_150 kc_3 ?_
  refine aw_icmp_ge (tgt := 173) dX10_init_151 rfl (fun h => absurd h (by decide)) (fun h => ?_)
  clear h
  refine aw_aload_n dX10_init_154 rfl ?_
  refine aw_getR dX10_init_155 fgX10_32 rfl (CS.s hE (0, 10, 0) (by decide +kernel)) (CS.r hE (0, 4, 25) (by decide +kernel)) ?_
  refine aw_iload_n dX10_init_158 rfl ?_
  refine aw_new (e := a + 78) dX10_init_159 hE.1 ckX10_25 is_9 in_AshGreetings_Town cfX9 df_9 (by decide) (rbA (D := 6) (d := 0) (mc := 137) (m := 1) (k := 78) (by decide) hE.1 h0 (by decide) (by decide)) ?_
  refine aw_dup dX10_init_162 rfl ?_
  refine aw_callI (mc := 19) [] dX10_init_163 ciX10_27 (c_town (CS_new (t := 9) hE.1 (Nat.le_trans hE.2.1 (Nat.le_add_right _ _)))) rfl rfl (Nat.le_of_ble_eq_true rfl) (rbA (D := 6) (d := 5) (mc := 137) (m := 19) (k := 79) (by decide) rfl h0 (by decide) (by decide)) (fun _ _ _ _ q => q.2.1) (fun r E2 iv2 lv2 hq => ?_)
  obtain ⟨rfl, hq⟩ := hq
  replace hE := CS_sub (Wn := WXr) hE (by decide) hq (wx_sub (by decide)) wz_id
  clear hq
  generalize E2 = E at hE ⊢
  generalize iv2 = iv at hE ⊢
  generalize lv2 = lv at hE ⊢
  refine aw_aast (j := 0) (q0 := (RX9, TX9, 16)) (C := RX9) dX10_init_166 (CS.s hE (25, 23, 3) (by decide +kernel)) rfl (by decide) rfl (by decide) (CS.s hE (78, 9, 0) (by decide +kernel)) (by decide) rfl (Or.inl rfl) ?_
  replace hE := CS_setR (x := a + 25) (y := a + 78) (i := 25) (sl := 0) (j := 78) hE rfl rfl (by decide) (by decide +kernel)
  generalize setR E (a + 25) 0 (a + 78) = E at hE ⊢
  refine aw_iinc (v := nI 1) (lo' := [_,_]) dX10_init_167 rfl (by decide) rfl ?_
  refine aw_goto (tgt := 149) dX10_init_170 rfl ?_
  refine aw_iload_n dX10_init_149 rfl ?_
  refine aw_iconst (v := nI 3) dX10_init_150 kc_3 ?_
  refine aw_icmp_ge (tgt := 173) dX10_init_151 rfl (fun h => absurd h (by decide)) (fun h => ?_)
  clear h
  refine aw_aload_n dX10_init_154 rfl ?_
  refine aw_getR dX10_init_155 fgX10_32 rfl (CS.s hE (0, 10, 0) (by decide +kernel)) (CS.r hE (0, 4, 25) (by decide +kernel)) ?_
  refine aw_iload_n dX10_init_158 rfl ?_
  refine aw_new (e := a + 98) dX10_init_159 hE.1 ckX10_25 is_9 in_AshGreetings_Town cfX9 df_9 (by decide) (rbA (D := 6) (d := 0) (mc := 137) (m := 1) (k := 98) (by decide) hE.1 h0 (by decide) (by decide)) ?_
  refine aw_dup dX10_init_162 rfl ?_
  refine aw_callI (mc := 19) [] dX10_init_163 ciX10_27 (c_town (CS_new (t := 9) hE.1 (Nat.le_trans hE.2.1 (Nat.le_add_right _ _)))) rfl rfl (Nat.le_of_ble_eq_true rfl) (rbA (D := 6) (d := 5) (mc := 137) (m := 19) (k := 99) (by decide) rfl h0 (by decide) (by decide)) (fun _ _ _ _ q => q.2.1) (fun r E2 iv2 lv2 hq => ?_)
  obtain ⟨rfl, hq⟩ := hq
  replace hE := CS_sub (Wn := WXr) hE (by decide) hq (wx_sub (by decide)) wz_id
  clear hq
  generalize E2 = E at hE ⊢
  generalize iv2 = iv at hE ⊢
  generalize lv2 = lv at hE ⊢
  refine aw_aast (j := 1) (q0 := (RX9, TX9, 16)) (C := RX9) dX10_init_166 (CS.s hE (25, 23, 3) (by decide +kernel)) rfl (by decide) rfl (by decide) (CS.s hE (98, 9, 0) (by decide +kernel)) (by decide) rfl (Or.inl rfl) ?_
  replace hE := CS_setR (x := a + 25) (y := a + 98) (i := 25) (sl := 1) (j := 98) hE rfl rfl (by decide) (by decide +kernel)
  generalize setR E (a + 25) 1 (a + 98) = E at hE ⊢
  refine aw_iinc (v := nI 2) (lo' := [_,_]) dX10_init_167 rfl (by decide) rfl ?_
  refine aw_goto (tgt := 149) dX10_init_170 rfl ?_
  refine aw_iload_n dX10_init_149 rfl ?_
  refine aw_iconst (v := nI 3) dX10_init_150 kc_3 ?_
  refine aw_icmp_ge (tgt := 173) dX10_init_151 rfl (fun h => absurd h (by decide)) (fun h => ?_)
  clear h
  refine aw_aload_n dX10_init_154 rfl ?_
  refine aw_getR dX10_init_155 fgX10_32 rfl (CS.s hE (0, 10, 0) (by decide +kernel)) (CS.r hE (0, 4, 25) (by decide +kernel)) ?_
  refine aw_iload_n dX10_init_158 rfl ?_
  refine aw_new (e := a + 118) dX10_init_159 hE.1 ckX10_25 is_9 in_AshGreetings_Town cfX9 df_9 (by decide) (rbA (D := 6) (d := 0) (mc := 137) (m := 1) (k := 118) (by decide) hE.1 h0 (by decide) (by decide)) ?_
  refine aw_dup dX10_init_162 rfl ?_
  refine aw_callI (mc := 19) [] dX10_init_163 ciX10_27 (c_town (CS_new (t := 9) hE.1 (Nat.le_trans hE.2.1 (Nat.le_add_right _ _)))) rfl rfl (Nat.le_of_ble_eq_true rfl) (rbA (D := 6) (d := 5) (mc := 137) (m := 19) (k := 119) (by decide) rfl h0 (by decide) (by decide)) (fun _ _ _ _ q => q.2.1) (fun r E2 iv2 lv2 hq => ?_)
  obtain ⟨rfl, hq⟩ := hq
  replace hE := CS_sub (Wn := WXr) hE (by decide) hq (wx_sub (by decide)) wz_id
  clear hq
  generalize E2 = E at hE ⊢
  generalize iv2 = iv at hE ⊢
  generalize lv2 = lv at hE ⊢
  refine aw_aast (j := 2) (q0 := (RX9, TX9, 16)) (C := RX9) dX10_init_166 (CS.s hE (25, 23, 3) (by decide +kernel)) rfl (by decide) rfl (by decide) (CS.s hE (118, 9, 0) (by decide +kernel)) (by decide) rfl (Or.inl rfl) ?_
  replace hE := CS_setR (x := a + 25) (y := a + 118) (i := 25) (sl := 2) (j := 118) hE rfl rfl (by decide) (by decide +kernel)
  generalize setR E (a + 25) 2 (a + 118) = E at hE ⊢
  refine aw_iinc (v := nI 3) (lo' := [_,_]) dX10_init_167 rfl (by decide) rfl ?_
  refine aw_goto (tgt := 149) dX10_init_170 rfl ?_
  refine aw_iload_n dX10_init_149 rfl ?_
  refine aw_iconst (v := nI 3) dX10_init_150 kc_3 ?_
  refine aw_icmp_ge (tgt := 173) dX10_init_151 rfl (fun h => ?_) (fun h => absurd (by decide) h)
  clear h
  exact aw_vret dX10_init_173 rfl (rbA (D := 6) (d := 0) (mc := 137) (m := 0) (k := 138) (by decide) hE.1 h0 (by decide) (by decide)) ⟨rfl, (CS_cast hE (by decide +kernel) (by decide +kernel) (fun _ _ _ => rfl) (fun _ => rfl))⟩
theorem c_main {G : GC} {E : SH} {iv : IV} {lv : LV} {a : Nat} (h : CS G E iv lv a [(0, 10, 0)] [] 1 Wz Lz E iv lv) : Spec G mX10_init 6 137 [.ref a] E iv lv (fun r E2 iv2 lv2 => r = none ∧ CS G E iv lv a XC XR 138 WXr (fun j => j == 10 || Lz j) E2 iv2 lv2) := by
  have h0 : E.1 = a + 1 := h.1
  refine spec_of (lo := [_,_]) (by decide) (Nat.le_of_ble_eq_true rfl) rfl ?_
  have hE := h
  clear h
  exact c_main_w h0 hE
