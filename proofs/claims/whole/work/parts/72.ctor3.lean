theorem c_out_w {G : GC} {E0 E : SH} {iv0 iv : IV} {lv0 lv : LV} {a z0 : Nat} (h0 : z0 = a + 1) (hE : CS G E0 iv0 lv0 a [(0, 3, 0)] [] 1 Wz Lz E iv lv) : AW G mX3_init (rm 5 30) (ZM G (rm 5 30) (fun r E2 iv2 lv2 => r = none ∧ CS G E0 iv0 lv0 a OutC OutR 31 Wz (fun j => j == 9 || Lz j) E2 iv2 lv2)) (fun _ => True) z0 0 [some (.ref a)] [] E iv lv := by
  refine aw_aload_n dX3_init_0 rfl ?_
  refine aw_oinit dX3_init_1 oiX3_3 oi_i oi_c (Nat.le_of_ble_eq_true rfl) (rbA (D := 5) (d := 1) (mc := 30) (m := 0) (k := 1) (by decide) hE.1 h0 (by decide) (by decide)) ?_
  refine aw_aload_n dX3_init_4 rfl ?_
  refine aw_new (e := a + 1) dX3_init_5 hE.1 ckX3_9 is_9 in_AshGreetings_Town cfX9 df_9 (by decide) (rbA (D := 5) (d := 0) (mc := 30) (m := 1) (k := 1) (by decide) hE.1 h0 (by decide) (by decide)) ?_
  refine aw_dup dX3_init_8 rfl ?_
  refine aw_callI (mc := 19) [] dX3_init_9 ciX3_11 (c_town (CS_new (t := 9) hE.1 (Nat.le_trans hE.2.1 (Nat.le_add_right _ _)))) rfl rfl (Nat.le_of_ble_eq_true rfl) (rbA (D := 5) (d := 5) (mc := 30) (m := 19) (k := 2) (by decide) rfl h0 (by decide) (by decide)) (fun _ _ _ _ q => q.2.1) (fun r E2 iv2 lv2 hq => ?_)
  obtain ⟨rfl, hq⟩ := hq
  replace hE := CS_sub (Wn := Wz) hE (by decide) hq wz_sub wz_id
  clear hq
  generalize E2 = E at hE ⊢
  generalize iv2 = iv at hE ⊢
  generalize lv2 = lv at hE ⊢
  refine aw_putR dX3_init_12 fpX3_12 (fun _ => rfl) rfl (CS.s hE (0, 3, 0) (by decide +kernel)) ?_
  replace hE := CS_setR (x := a) (y := a + 1) (i := 0) (sl := 0) (j := 1) hE rfl rfl (by decide) (by decide +kernel)
  generalize setR E a 0 (a + 1) = E at hE ⊢
  refine aw_aload_n dX3_init_15 rfl ?_
  refine aw_bipush (v := nI 7) dX3_init_16 kb_7 ?_
  refine aw_newi (n := 7) (e := a + 21) dX3_init_18 hE.1 ac_int (by decide) (rbA (D := 5) (d := 0) (mc := 30) (m := 1) (k := 21) (by decide) hE.1 h0 (by decide) (by decide)) ?_
  replace hE := CS_mk (t := 20) (n := 7) hE (by decide) wz_f
  generalize mkE E (a + 21) 20 7 = E at hE ⊢
  generalize va_up iv (a + 21) (fun _ => 0) = iv at hE ⊢
  generalize va_up lv (a + 21) (fun _ => 0) = lv at hE ⊢
  refine aw_putR dX3_init_20 fpX3_18 (fun _ => rfl) rfl (CS.s hE (0, 3, 0) (by decide +kernel)) ?_
  replace hE := CS_setR (x := a) (y := a + 21) (i := 0) (sl := 1) (j := 21) hE rfl rfl (by decide) (by decide +kernel)
  generalize setR E a 1 (a + 21) = E at hE ⊢
  refine aw_aload_n dX3_init_23 rfl ?_
  refine aw_iconst (v := nI 5) dX3_init_24 kc_5 ?_
  refine aw_newi (n := 5) (e := a + 22) dX3_init_25 hE.1 ac_int (by decide) (rbA (D := 5) (d := 0) (mc := 30) (m := 1) (k := 22) (by decide) hE.1 h0 (by decide) (by decide)) ?_
  replace hE := CS_mk (t := 20) (n := 5) hE (by decide) wz_f
  generalize mkE E (a + 22) 20 5 = E at hE ⊢
  generalize va_up iv (a + 22) (fun _ => 0) = iv at hE ⊢
  generalize va_up lv (a + 22) (fun _ => 0) = lv at hE ⊢
  refine aw_putR dX3_init_27 fpX3_22 (fun _ => rfl) rfl (CS.s hE (0, 3, 0) (by decide +kernel)) ?_
  replace hE := CS_setR (x := a) (y := a + 22) (i := 0) (sl := 2) (j := 22) hE rfl rfl (by decide) (by decide +kernel)
  generalize setR E a 2 (a + 22) = E at hE ⊢
  refine aw_aload_n dX3_init_30 rfl ?_
  refine aw_bipush (v := nI 6) dX3_init_31 kb_6 ?_
  refine aw_bipush (v := nI 21) dX3_init_33 kb_21 ?_
  refine aw_mna (e := a + 23) dX3_init_35 hE.1 ckX3_25 ac_int (rbA (D := 5) (d := 0) (mc := 30) (m := 7) (k := 23) (by decide) hE.1 h0 (by decide) (by decide)) ?_
  replace hE := CS_mna hE (by decide) (fun _ _ _ => rfl)
  generalize mnE E (a + 23) = E at hE ⊢
  generalize mnV iv (a + 23) 0 = iv at hE ⊢
  generalize mnV lv (a + 23) 0 = lv at hE ⊢
  refine aw_putR dX3_init_39 fpX3_27 (fun _ => rfl) rfl (CS.s hE (0, 3, 0) (by decide +kernel)) ?_
  replace hE := CS_setR (x := a) (y := a + 23) (i := 0) (sl := 3) (j := 23) hE rfl rfl (by decide) (by decide +kernel)
  generalize setR E a 3 (a + 23) = E at hE ⊢
  refine aw_aload_n dX3_init_42 rfl ?_
  refine aw_bipush (v := nI 7) dX3_init_43 kb_7 ?_
  refine aw_newi (n := 7) (e := a + 30) dX3_init_45 hE.1 ac_int (by decide) (rbA (D := 5) (d := 0) (mc := 30) (m := 1) (k := 30) (by decide) hE.1 h0 (by decide) (by decide)) ?_
  replace hE := CS_mk (t := 20) (n := 7) hE (by decide) wz_f
  generalize mkE E (a + 30) 20 7 = E at hE ⊢
  generalize va_up iv (a + 30) (fun _ => 0) = iv at hE ⊢
  generalize va_up lv (a + 30) (fun _ => 0) = lv at hE ⊢
  refine aw_putR dX3_init_47 fpX3_30 (fun _ => rfl) rfl (CS.s hE (0, 3, 0) (by decide +kernel)) ?_
  replace hE := CS_setR (x := a) (y := a + 30) (i := 0) (sl := 4) (j := 30) hE rfl rfl (by decide) (by decide +kernel)
  generalize setR E a 4 (a + 30) = E at hE ⊢
  refine aw_aload_n dX3_init_50 rfl ?_
  refine aw_iconst (v := nI 0) dX3_init_51 kc_0 ?_
  refine aw_putI dX3_init_52 fpX3_33 rfl (CS.s hE (0, 3, 0) (by decide +kernel)) ?_
  replace hE := CS_putI0 (x := a) (i := 0) (sl := 5) hE rfl (by decide) rfl
  generalize va_up iv a (upd (iv a) 5 (nI 0)) = iv at hE ⊢
  refine aw_aload_n dX3_init_55 rfl ?_
  refine aw_iconst (v := nI 0) dX3_init_56 kc_0 ?_
  refine aw_putI dX3_init_57 fpX3_37 rfl (CS.s hE (0, 3, 0) (by decide +kernel)) ?_
  replace hE := CS_putI0 (x := a) (i := 0) (sl := 6) hE rfl (by decide) rfl
  generalize va_up iv a (upd (iv a) 6 (nI 0)) = iv at hE ⊢
  refine aw_aload_n dX3_init_60 rfl ?_
  refine aw_lconst (v := lN 0) dX3_init_61 kl_0 ?_
  refine aw_putL dX3_init_62 fpX3_40 rfl (CS.s hE (0, 3, 0) (by decide +kernel)) ?_
  replace hE := CS_putL0 (sl := 7) hE rfl
  generalize va_up lv a (vp_updL (lv a) 7 (lN 0)) = lv at hE ⊢
  refine aw_aload_n dX3_init_65 rfl ?_
  refine aw_lconst (v := lN 0) dX3_init_66 kl_0 ?_
  refine aw_putL dX3_init_67 fpX3_44 rfl (CS.s hE (0, 3, 0) (by decide +kernel)) ?_
  replace hE := CS_putL0 (sl := 8) hE rfl
  generalize va_up lv a (vp_updL (lv a) 8 (lN 0)) = lv at hE ⊢
  refine aw_aload_n dX3_init_70 rfl ?_
  refine aw_lconst (v := lN 1) dX3_init_71 kl_1 ?_
  refine aw_putL dX3_init_72 fpX3_47 rfl (CS.s hE (0, 3, 0) (by decide +kernel)) ?_
  replace hE := CS_putL1 (sl := 9) hE
  generalize va_up lv a (vp_updL (lv a) 9 (lN 1)) = lv at hE ⊢
  exact aw_vret dX3_init_75 rfl (rbA (D := 5) (d := 0) (mc := 30) (m := 0) (k := 31) (by decide) hE.1 h0 (by decide) (by decide)) ⟨rfl, (CS_cast hE (by decide +kernel) (by decide +kernel) (fun _ _ _ => rfl) (fun _ => rfl))⟩
theorem c_out {G : GC} {E : SH} {iv : IV} {lv : LV} {a : Nat} (h : CS G E iv lv a [(0, 3, 0)] [] 1 Wz Lz E iv lv) : Spec G mX3_init 5 30 [.ref a] E iv lv (fun r E2 iv2 lv2 => r = none ∧ CS G E iv lv a OutC OutR 31 Wz (fun j => j == 9 || Lz j) E2 iv2 lv2) := by
  have h0 : E.1 = a + 1 := h.1
  refine spec_of (lo := [_]) (by decide) (Nat.le_of_ble_eq_true rfl) rfl ?_
  have hE := h
  clear h
  exact c_out_w h0 hE
