theorem c_town_w {G : GC} {E0 E : SH} {iv0 iv : IV} {lv0 lv : LV} {a z0 : Nat} (h0 : z0 = a + 1) (hE : CS G E0 iv0 lv0 a [(0, 9, 0)] [] 1 Wz Lz E iv lv) : AW G mX9_init (rm 4 19) (ZM G (rm 4 19) (fun r E2 iv2 lv2 => r = none ∧ CS G E0 iv0 lv0 a TownC TownR 20 Wz Lz E2 iv2 lv2)) (fun _ => True) z0 0 [some (.ref a)] [] E iv lv := by
  refine aw_aload_n dX9_init_0 rfl ?_
  refine aw_oinit dX9_init_1 oiX9_3 oi_i oi_c (Nat.le_of_ble_eq_true rfl) (rbA (D := 4) (d := 1) (mc := 19) (m := 0) (k := 1) (by decide) hE.1 h0 (by decide) (by decide)) ?_
  refine aw_aload_n dX9_init_4 rfl ?_
  refine aw_iconst (v := nI 0) dX9_init_5 kc_0 ?_
  refine aw_putI dX9_init_6 fpX9_9 rfl (CS.s hE (0, 9, 0) (by decide +kernel)) ?_
  replace hE := CS_putI0 (x := a) (i := 0) (sl := 0) hE rfl (by decide) rfl
  generalize va_up iv a (upd (iv a) 0 (nI 0)) = iv at hE ⊢
  refine aw_aload_n dX9_init_9 rfl ?_
  refine aw_iconst (v := nI 0) dX9_init_10 kc_0 ?_
  refine aw_putI dX9_init_11 fpX9_15 rfl (CS.s hE (0, 9, 0) (by decide +kernel)) ?_
  replace hE := CS_putI0 (x := a) (i := 0) (sl := 1) hE rfl (by decide) rfl
  generalize va_up iv a (upd (iv a) 1 (nI 0)) = iv at hE ⊢
  refine aw_aload_n dX9_init_14 rfl ?_
  refine aw_iconst (v := nI 0) dX9_init_15 kc_0 ?_
  refine aw_putI dX9_init_16 fpX9_18 rfl (CS.s hE (0, 9, 0) (by decide +kernel)) ?_
  replace hE := CS_putI0 (x := a) (i := 0) (sl := 2) hE rfl (by decide) rfl
  generalize va_up iv a (upd (iv a) 2 (nI 0)) = iv at hE ⊢
  refine aw_aload_n dX9_init_19 rfl ?_
  refine aw_bipush (v := nI 6) dX9_init_20 kb_6 ?_
  refine aw_newq (C := RX2) (t := 24) (n := 6) (e := a + 1) dX9_init_22 hE.1 ckX9_21 (List.mem_of_getElem? (i := 2) rfl) rfl (by decide) (by decide) (rbA (D := 4) (d := 0) (mc := 19) (m := 1) (k := 1) (by decide) hE.1 h0 (by decide) (by decide)) ?_
  replace hE := CS_mk (t := 24) (n := 6) hE (by decide) wz_f
  generalize mkE E (a + 1) 24 6 = E at hE ⊢
  generalize va_up iv (a + 1) (fun _ => 0) = iv at hE ⊢
  generalize va_up lv (a + 1) (fun _ => 0) = lv at hE ⊢
  refine aw_dup dX9_init_25 rfl ?_
  refine aw_iconst (v := nI 0) dX9_init_26 kc_0 ?_
  refine aw_new (e := a + 2) dX9_init_27 hE.1 ckX9_21 is_2 in_AshGreetings_Neighbour cfX2 df_2 (by decide) (rbA (D := 4) (d := 0) (mc := 19) (m := 1) (k := 2) (by decide) hE.1 h0 (by decide) (by decide)) ?_
  replace hE := CS_mk (t := 2) (n := 0) hE (by decide) wz_f
  generalize mkE E (a + 2) 2 0 = E at hE ⊢
  generalize va_up iv (a + 2) (fun _ => 0) = iv at hE ⊢
  generalize va_up lv (a + 2) (fun _ => 0) = lv at hE ⊢
  refine aw_dup dX9_init_30 rfl ?_
  refine aw_callI [] dX9_init_31 ciX9_23 (c_init2 (a := a + 2)) rfl rfl (Nat.le_of_ble_eq_true rfl) (rbA (D := 4) (d := 2) (mc := 19) (m := 0) (k := 3) (by decide) hE.1 h0 (by decide) (by decide)) (fun _ E2 _ _ q => by rw [q.1]; rfl) (fun r E2 iv2 lv2 hq => ?_)
  obtain ⟨rfl, rfl, rfl, rfl⟩ := hq
  refine aw_aast (j := 0) (q0 := (RX2, TX2, 0)) (C := RX2) dX9_init_34 (CS.s hE (1, 24, 6) (by decide +kernel)) rfl (by decide) rfl (by decide) (CS.s hE (2, 2, 0) (by decide +kernel)) (by decide) rfl (Or.inl rfl) ?_
  replace hE := CS_setR (x := a + 1) (y := a + 2) (i := 1) (sl := 0) (j := 2) hE rfl rfl (by decide) (by decide +kernel)
  generalize setR E (a + 1) 0 (a + 2) = E at hE ⊢
  refine aw_dup dX9_init_35 rfl ?_
  refine aw_iconst (v := nI 1) dX9_init_36 kc_1 ?_
  refine aw_new (e := a + 3) dX9_init_37 hE.1 ckX9_24 is_1 in_AshGreetings_Devout cfX1 df_1 (by decide) (rbA (D := 4) (d := 0) (mc := 19) (m := 1) (k := 3) (by decide) hE.1 h0 (by decide) (by decide)) ?_
  replace hE := CS_mk (t := 1) (n := 0) hE (by decide) wz_f
  generalize mkE E (a + 3) 1 0 = E at hE ⊢
  generalize va_up iv (a + 3) (fun _ => 0) = iv at hE ⊢
  generalize va_up lv (a + 3) (fun _ => 0) = lv at hE ⊢
  refine aw_dup dX9_init_40 rfl ?_
  refine aw_callI [] dX9_init_41 ciX9_26 (c_init1 (a := a + 3)) rfl rfl (Nat.le_of_ble_eq_true rfl) (rbA (D := 4) (d := 3) (mc := 19) (m := 0) (k := 4) (by decide) hE.1 h0 (by decide) (by decide)) (fun _ E2 _ _ q => by rw [q.1]; rfl) (fun r E2 iv2 lv2 hq => ?_)
  obtain ⟨rfl, rfl, rfl, rfl⟩ := hq
  refine aw_aast (j := 1) (q0 := (RX1, TX1, 0)) (C := RX2) dX9_init_44 (CS.s hE (1, 24, 6) (by decide +kernel)) rfl (by decide) rfl (by decide) (CS.s hE (3, 1, 0) (by decide +kernel)) (by decide) rfl (Or.inr (List.mem_of_getElem? (i := 2) rfl)) ?_
  replace hE := CS_setR (x := a + 1) (y := a + 3) (i := 1) (sl := 1) (j := 3) hE rfl rfl (by decide) (by decide +kernel)
  generalize setR E (a + 1) 1 (a + 3) = E at hE ⊢
  refine aw_dup dX9_init_45 rfl ?_
  refine aw_iconst (v := nI 2) dX9_init_46 kc_2 ?_
  refine aw_new (e := a + 4) dX9_init_47 hE.1 ckX9_27 is_8 in_AshGreetings_Stubborn cfX8 df_8 (by decide) (rbA (D := 4) (d := 0) (mc := 19) (m := 1) (k := 4) (by decide) hE.1 h0 (by decide) (by decide)) ?_
  replace hE := CS_mk (t := 8) (n := 0) hE (by decide) wz_f
  generalize mkE E (a + 4) 8 0 = E at hE ⊢
  generalize va_up iv (a + 4) (fun _ => 0) = iv at hE ⊢
  generalize va_up lv (a + 4) (fun _ => 0) = lv at hE ⊢
  refine aw_dup dX9_init_50 rfl ?_
  refine aw_callI [] dX9_init_51 ciX9_29 (c_init8 (a := a + 4)) rfl rfl (Nat.le_of_ble_eq_true rfl) (rbA (D := 4) (d := 3) (mc := 19) (m := 0) (k := 5) (by decide) hE.1 h0 (by decide) (by decide)) (fun _ E2 _ _ q => by rw [q.1]; rfl) (fun r E2 iv2 lv2 hq => ?_)
  obtain ⟨rfl, rfl, rfl, rfl⟩ := hq
  refine aw_aast (j := 2) (q0 := (RX8, TX8, 0)) (C := RX2) dX9_init_54 (CS.s hE (1, 24, 6) (by decide +kernel)) rfl (by decide) rfl (by decide) (CS.s hE (4, 8, 0) (by decide +kernel)) (by decide) rfl (Or.inr (List.mem_of_getElem? (i := 3) rfl)) ?_
  replace hE := CS_setR (x := a + 1) (y := a + 4) (i := 1) (sl := 2) (j := 4) hE rfl rfl (by decide) (by decide +kernel)
  generalize setR E (a + 1) 2 (a + 4) = E at hE ⊢
  refine aw_dup dX9_init_55 rfl ?_
  refine aw_iconst (v := nI 3) dX9_init_56 kc_3 ?_
  refine aw_new (e := a + 5) dX9_init_57 hE.1 ckX9_30 is_6 in_AshGreetings_ShortOne cfX6 df_6 (by decide) (rbA (D := 4) (d := 0) (mc := 19) (m := 1) (k := 5) (by decide) hE.1 h0 (by decide) (by decide)) ?_
  replace hE := CS_mk (t := 6) (n := 0) hE (by decide) wz_f
  generalize mkE E (a + 5) 6 0 = E at hE ⊢
  generalize va_up iv (a + 5) (fun _ => 0) = iv at hE ⊢
  generalize va_up lv (a + 5) (fun _ => 0) = lv at hE ⊢
  refine aw_dup dX9_init_60 rfl ?_
  refine aw_callI [] dX9_init_61 ciX9_32 (c_init6 (a := a + 5)) rfl rfl (Nat.le_of_ble_eq_true rfl) (rbA (D := 4) (d := 3) (mc := 19) (m := 0) (k := 6) (by decide) hE.1 h0 (by decide) (by decide)) (fun _ E2 _ _ q => by rw [q.1]; rfl) (fun r E2 iv2 lv2 hq => ?_)
  obtain ⟨rfl, rfl, rfl, rfl⟩ := hq
  refine aw_aast (j := 3) (q0 := (RX6, TX6, 0)) (C := RX2) dX9_init_64 (CS.s hE (1, 24, 6) (by decide +kernel)) rfl (by decide) rfl (by decide) (CS.s hE (5, 6, 0) (by decide +kernel)) (by decide) rfl (Or.inr (List.mem_of_getElem? (i := 4) rfl)) ?_
  replace hE := CS_setR (x := a + 1) (y := a + 5) (i := 1) (sl := 3) (j := 5) hE rfl rfl (by decide) (by decide +kernel)
  generalize setR E (a + 1) 3 (a + 5) = E at hE ⊢
  refine aw_dup dX9_init_65 rfl ?_
  refine aw_iconst (v := nI 4) dX9_init_66 kc_4 ?_
  refine aw_new (e := a + 6) dX9_init_67 hE.1 ckX9_33 is_4 in_AshGreetings_Priest cfX4 df_4 (by decide) (rbA (D := 4) (d := 0) (mc := 19) (m := 1) (k := 6) (by decide) hE.1 h0 (by decide) (by decide)) ?_
  replace hE := CS_mk (t := 4) (n := 0) hE (by decide) wz_f
  generalize mkE E (a + 6) 4 0 = E at hE ⊢
  generalize va_up iv (a + 6) (fun _ => 0) = iv at hE ⊢
  generalize va_up lv (a + 6) (fun _ => 0) = lv at hE ⊢
  refine aw_dup dX9_init_70 rfl ?_
  refine aw_callI [] dX9_init_71 ciX9_35 (c_init4 (a := a + 6)) rfl rfl (Nat.le_of_ble_eq_true rfl) (rbA (D := 4) (d := 4) (mc := 19) (m := 0) (k := 7) (by decide) hE.1 h0 (by decide) (by decide)) (fun _ E2 _ _ q => by rw [q.1]; rfl) (fun r E2 iv2 lv2 hq => ?_)
  obtain ⟨rfl, rfl, rfl, rfl⟩ := hq
  refine aw_aast (j := 4) (q0 := (RX4, TX4, 0)) (C := RX2) dX9_init_74 (CS.s hE (1, 24, 6) (by decide +kernel)) rfl (by decide) rfl (by decide) (CS.s hE (6, 4, 0) (by decide +kernel)) (by decide) rfl (Or.inr (List.mem_of_getElem? (i := 5) rfl)) ?_
  replace hE := CS_setR (x := a + 1) (y := a + 6) (i := 1) (sl := 4) (j := 6) hE rfl rfl (by decide) (by decide +kernel)
  generalize setR E (a + 1) 4 (a + 6) = E at hE ⊢
  refine aw_dup dX9_init_75 rfl ?_
  refine aw_iconst (v := nI 5) dX9_init_76 kc_5 ?_
  refine aw_new (e := a + 7) dX9_init_77 hE.1 ckX9_36 is_0 in_AshGreetings_Brother cfX0 df_0 (by decide) (rbA (D := 4) (d := 0) (mc := 19) (m := 1) (k := 7) (by decide) hE.1 h0 (by decide) (by decide)) ?_
  replace hE := CS_mk (t := 0) (n := 0) hE (by decide) wz_f
  generalize mkE E (a + 7) 0 0 = E at hE ⊢
  generalize va_up iv (a + 7) (fun _ => 0) = iv at hE ⊢
  generalize va_up lv (a + 7) (fun _ => 0) = lv at hE ⊢
  refine aw_dup dX9_init_80 rfl ?_
  refine aw_callI [] dX9_init_81 ciX9_38 (c_init0 (a := a + 7)) rfl rfl (Nat.le_of_ble_eq_true rfl) (rbA (D := 4) (d := 4) (mc := 19) (m := 0) (k := 8) (by decide) hE.1 h0 (by decide) (by decide)) (fun _ E2 _ _ q => by rw [q.1]; rfl) (fun r E2 iv2 lv2 hq => ?_)
  obtain ⟨rfl, rfl, rfl, rfl⟩ := hq
  refine aw_aast (j := 5) (q0 := (RX0, TX0, 0)) (C := RX2) dX9_init_84 (CS.s hE (1, 24, 6) (by decide +kernel)) rfl (by decide) rfl (by decide) (CS.s hE (7, 0, 0) (by decide +kernel)) (by decide) rfl (Or.inr (List.mem_of_getElem? (i := 6) rfl)) ?_
  replace hE := CS_setR (x := a + 1) (y := a + 7) (i := 1) (sl := 5) (j := 7) hE rfl rfl (by decide) (by decide +kernel)
  generalize setR E (a + 1) 5 (a + 7) = E at hE ⊢
  refine aw_putR dX9_init_85 fpX9_39 (fun _ => rfl) rfl (CS.s hE (0, 9, 0) (by decide +kernel)) ?_
  replace hE := CS_setR (x := a) (y := a + 1) (i := 0) (sl := 3) (j := 1) hE rfl rfl (by decide) (by decide +kernel)
  generalize setR E a 3 (a + 1) = E at hE ⊢
  refine aw_aload_n dX9_init_88 rfl ?_
  refine aw_bipush (v := nI 7) dX9_init_89 kb_7 ?_
  refine aw_newi (n := 7) (e := a + 8) dX9_init_91 hE.1 ac_int (by decide) (rbA (D := 4) (d := 0) (mc := 19) (m := 1) (k := 8) (by decide) hE.1 h0 (by decide) (by decide)) ?_
  replace hE := CS_mk (t := 20) (n := 7) hE (by decide) wz_f
  generalize mkE E (a + 8) 20 7 = E at hE ⊢
  generalize va_up iv (a + 8) (fun _ => 0) = iv at hE ⊢
  generalize va_up lv (a + 8) (fun _ => 0) = lv at hE ⊢
  refine aw_putR dX9_init_93 fpX9_43 (fun _ => rfl) rfl (CS.s hE (0, 9, 0) (by decide +kernel)) ?_
  replace hE := CS_setR (x := a) (y := a + 8) (i := 0) (sl := 4) (j := 8) hE rfl rfl (by decide) (by decide +kernel)
  generalize setR E a 4 (a + 8) = E at hE ⊢
  refine aw_aload_n dX9_init_96 rfl ?_
  refine aw_bipush (v := nI 7) dX9_init_97 kb_7 ?_
  refine aw_newi (n := 7) (e := a + 9) dX9_init_99 hE.1 ac_int (by decide) (rbA (D := 4) (d := 0) (mc := 19) (m := 1) (k := 9) (by decide) hE.1 h0 (by decide) (by decide)) ?_
  replace hE := CS_mk (t := 20) (n := 7) hE (by decide) wz_f
  generalize mkE E (a + 9) 20 7 = E at hE ⊢
  generalize va_up iv (a + 9) (fun _ => 0) = iv at hE ⊢
  generalize va_up lv (a + 9) (fun _ => 0) = lv at hE ⊢
  refine aw_putR dX9_init_101 fpX9_47 (fun _ => rfl) rfl (CS.s hE (0, 9, 0) (by decide +kernel)) ?_
  replace hE := CS_setR (x := a) (y := a + 9) (i := 0) (sl := 5) (j := 9) hE rfl rfl (by decide) (by decide +kernel)
  generalize setR E a 5 (a + 9) = E at hE ⊢
  refine aw_aload_n dX9_init_104 rfl ?_
  refine aw_bipush (v := nI 7) dX9_init_105 kb_7 ?_
  refine aw_newi (n := 7) (e := a + 10) dX9_init_107 hE.1 ac_int (by decide) (rbA (D := 4) (d := 0) (mc := 19) (m := 1) (k := 10) (by decide) hE.1 h0 (by decide) (by decide)) ?_
  replace hE := CS_mk (t := 20) (n := 7) hE (by decide) wz_f
  generalize mkE E (a + 10) 20 7 = E at hE ⊢
  generalize va_up iv (a + 10) (fun _ => 0) = iv at hE ⊢
  generalize va_up lv (a + 10) (fun _ => 0) = lv at hE ⊢
  refine aw_putR dX9_init_109 fpX9_50 (fun _ => rfl) rfl (CS.s hE (0, 9, 0) (by decide +kernel)) ?_
  replace hE := CS_setR (x := a) (y := a + 10) (i := 0) (sl := 6) (j := 10) hE rfl rfl (by decide) (by decide +kernel)
  generalize setR E a 6 (a + 10) = E at hE ⊢
  refine aw_aload_n dX9_init_112 rfl ?_
  refine aw_bipush (v := nI 7) dX9_init_113 kb_7 ?_
  refine aw_newi (n := 7) (e := a + 11) dX9_init_115 hE.1 ac_int (by decide) (rbA (D := 4) (d := 0) (mc := 19) (m := 1) (k := 11) (by decide) hE.1 h0 (by decide) (by decide)) ?_
  replace hE := CS_mk (t := 20) (n := 7) hE (by decide) wz_f
  generalize mkE E (a + 11) 20 7 = E at hE ⊢
  generalize va_up iv (a + 11) (fun _ => 0) = iv at hE ⊢
  generalize va_up lv (a + 11) (fun _ => 0) = lv at hE ⊢
  refine aw_putR dX9_init_117 fpX9_53 (fun _ => rfl) rfl (CS.s hE (0, 9, 0) (by decide +kernel)) ?_
  replace hE := CS_setR (x := a) (y := a + 11) (i := 0) (sl := 7) (j := 11) hE rfl rfl (by decide) (by decide +kernel)
  generalize setR E a 7 (a + 11) = E at hE ⊢
  refine aw_aload_n dX9_init_120 rfl ?_
  refine aw_bipush (v := nI 7) dX9_init_121 kb_7 ?_
  refine aw_newi (n := 7) (e := a + 12) dX9_init_123 hE.1 ac_int (by decide) (rbA (D := 4) (d := 0) (mc := 19) (m := 1) (k := 12) (by decide) hE.1 h0 (by decide) (by decide)) ?_
  replace hE := CS_mk (t := 20) (n := 7) hE (by decide) wz_f
  generalize mkE E (a + 12) 20 7 = E at hE ⊢
  generalize va_up iv (a + 12) (fun _ => 0) = iv at hE ⊢
  generalize va_up lv (a + 12) (fun _ => 0) = lv at hE ⊢
  refine aw_putR dX9_init_125 fpX9_56 (fun _ => rfl) rfl (CS.s hE (0, 9, 0) (by decide +kernel)) ?_
  replace hE := CS_setR (x := a) (y := a + 12) (i := 0) (sl := 8) (j := 12) hE rfl rfl (by decide) (by decide +kernel)
  generalize setR E a 8 (a + 12) = E at hE ⊢
  refine aw_aload_n dX9_init_128 rfl ?_
  refine aw_iconst (v := nI 5) dX9_init_129 kc_5 ?_
  refine aw_newi (n := 5) (e := a + 13) dX9_init_130 hE.1 ac_int (by decide) (rbA (D := 4) (d := 0) (mc := 19) (m := 1) (k := 13) (by decide) hE.1 h0 (by decide) (by decide)) ?_
  replace hE := CS_mk (t := 20) (n := 5) hE (by decide) wz_f
  generalize mkE E (a + 13) 20 5 = E at hE ⊢
  generalize va_up iv (a + 13) (fun _ => 0) = iv at hE ⊢
  generalize va_up lv (a + 13) (fun _ => 0) = lv at hE ⊢
  refine aw_putR dX9_init_132 fpX9_59 (fun _ => rfl) rfl (CS.s hE (0, 9, 0) (by decide +kernel)) ?_
  replace hE := CS_setR (x := a) (y := a + 13) (i := 0) (sl := 9) (j := 13) hE rfl rfl (by decide) (by decide +kernel)
  generalize setR E a 9 (a + 13) = E at hE ⊢
  refine aw_aload_n dX9_init_135 rfl ?_
  refine aw_bipush (v := nI 7) dX9_init_136 kb_7 ?_
  refine aw_newi (n := 7) (e := a + 14) dX9_init_138 hE.1 ac_int (by decide) (rbA (D := 4) (d := 0) (mc := 19) (m := 1) (k := 14) (by decide) hE.1 h0 (by decide) (by decide)) ?_
  replace hE := CS_mk (t := 20) (n := 7) hE (by decide) wz_f
  generalize mkE E (a + 14) 20 7 = E at hE ⊢
  generalize va_up iv (a + 14) (fun _ => 0) = iv at hE ⊢
  generalize va_up lv (a + 14) (fun _ => 0) = lv at hE ⊢
  refine aw_putR dX9_init_140 fpX9_62 (fun _ => rfl) rfl (CS.s hE (0, 9, 0) (by decide +kernel)) ?_
  replace hE := CS_setR (x := a) (y := a + 14) (i := 0) (sl := 10) (j := 14) hE rfl rfl (by decide) (by decide +kernel)
  generalize setR E a 10 (a + 14) = E at hE ⊢
  refine aw_aload_n dX9_init_143 rfl ?_
  refine aw_bipush (v := nI 7) dX9_init_144 kb_7 ?_
  refine aw_newi (n := 7) (e := a + 15) dX9_init_146 hE.1 ac_int (by decide) (rbA (D := 4) (d := 0) (mc := 19) (m := 1) (k := 15) (by decide) hE.1 h0 (by decide) (by decide)) ?_
  replace hE := CS_mk (t := 20) (n := 7) hE (by decide) wz_f
  generalize mkE E (a + 15) 20 7 = E at hE ⊢
  generalize va_up iv (a + 15) (fun _ => 0) = iv at hE ⊢
  generalize va_up lv (a + 15) (fun _ => 0) = lv at hE ⊢
  refine aw_putR dX9_init_148 fpX9_65 (fun _ => rfl) rfl (CS.s hE (0, 9, 0) (by decide +kernel)) ?_
  replace hE := CS_setR (x := a) (y := a + 15) (i := 0) (sl := 11) (j := 15) hE rfl rfl (by decide) (by decide +kernel)
  generalize setR E a 11 (a + 15) = E at hE ⊢
  refine aw_aload_n dX9_init_151 rfl ?_
  refine aw_iconst (v := nI 5) dX9_init_152 kc_5 ?_
  refine aw_newi (n := 5) (e := a + 16) dX9_init_153 hE.1 ac_int (by decide) (rbA (D := 4) (d := 0) (mc := 19) (m := 1) (k := 16) (by decide) hE.1 h0 (by decide) (by decide)) ?_
  replace hE := CS_mk (t := 20) (n := 5) hE (by decide) wz_f
  generalize mkE E (a + 16) 20 5 = E at hE ⊢
  generalize va_up iv (a + 16) (fun _ => 0) = iv at hE ⊢
  generalize va_up lv (a + 16) (fun _ => 0) = lv at hE ⊢
  refine aw_putR dX9_init_155 fpX9_68 (fun _ => rfl) rfl (CS.s hE (0, 9, 0) (by decide +kernel)) ?_
  replace hE := CS_setR (x := a) (y := a + 16) (i := 0) (sl := 12) (j := 16) hE rfl rfl (by decide) (by decide +kernel)
  generalize setR E a 12 (a + 16) = E at hE ⊢
  refine aw_aload_n dX9_init_158 rfl ?_
  refine aw_bipush (v := nI 40) dX9_init_159 kb_40 ?_
  refine aw_newi (n := 40) (e := a + 17) dX9_init_161 hE.1 ac_int (by decide) (rbA (D := 4) (d := 0) (mc := 19) (m := 1) (k := 17) (by decide) hE.1 h0 (by decide) (by decide)) ?_
  replace hE := CS_mk (t := 20) (n := 40) hE (by decide) wz_f
  generalize mkE E (a + 17) 20 40 = E at hE ⊢
  generalize va_up iv (a + 17) (fun _ => 0) = iv at hE ⊢
  generalize va_up lv (a + 17) (fun _ => 0) = lv at hE ⊢
  refine aw_putR dX9_init_163 fpX9_71 (fun _ => rfl) rfl (CS.s hE (0, 9, 0) (by decide +kernel)) ?_
  replace hE := CS_setR (x := a) (y := a + 17) (i := 0) (sl := 13) (j := 17) hE rfl rfl (by decide) (by decide +kernel)
  generalize setR E a 13 (a + 17) = E at hE ⊢
  refine aw_aload_n dX9_init_166 rfl ?_
  refine aw_bipush (v := nI 40) dX9_init_167 kb_40 ?_
  refine aw_newi (n := 40) (e := a + 18) dX9_init_169 hE.1 ac_int (by decide) (rbA (D := 4) (d := 0) (mc := 19) (m := 1) (k := 18) (by decide) hE.1 h0 (by decide) (by decide)) ?_
  replace hE := CS_mk (t := 20) (n := 40) hE (by decide) wz_f
  generalize mkE E (a + 18) 20 40 = E at hE ⊢
  generalize va_up iv (a + 18) (fun _ => 0) = iv at hE ⊢
  generalize va_up lv (a + 18) (fun _ => 0) = lv at hE ⊢
  refine aw_putR dX9_init_171 fpX9_74 (fun _ => rfl) rfl (CS.s hE (0, 9, 0) (by decide +kernel)) ?_
  replace hE := CS_setR (x := a) (y := a + 18) (i := 0) (sl := 14) (j := 18) hE rfl rfl (by decide) (by decide +kernel)
  generalize setR E a 14 (a + 18) = E at hE ⊢
  refine aw_aload_n dX9_init_174 rfl ?_
  refine aw_bipush (v := nI 40) dX9_init_175 kb_40 ?_
  refine aw_newi (n := 40) (e := a + 19) dX9_init_177 hE.1 ac_int (by decide) (rbA (D := 4) (d := 0) (mc := 19) (m := 1) (k := 19) (by decide) hE.1 h0 (by decide) (by decide)) ?_
  replace hE := CS_mk (t := 20) (n := 40) hE (by decide) wz_f
  generalize mkE E (a + 19) 20 40 = E at hE ⊢
  generalize va_up iv (a + 19) (fun _ => 0) = iv at hE ⊢
  generalize va_up lv (a + 19) (fun _ => 0) = lv at hE ⊢
  refine aw_putR dX9_init_179 fpX9_77 (fun _ => rfl) rfl (CS.s hE (0, 9, 0) (by decide +kernel)) ?_
  replace hE := CS_setR (x := a) (y := a + 19) (i := 0) (sl := 15) (j := 19) hE rfl rfl (by decide) (by decide +kernel)
  generalize setR E a 15 (a + 19) = E at hE ⊢
  exact aw_vret dX9_init_182 rfl (rbA (D := 4) (d := 0) (mc := 19) (m := 0) (k := 20) (by decide) hE.1 h0 (by decide) (by decide)) ⟨rfl, (CS_cast hE (by decide +kernel) (by decide +kernel) (fun _ _ _ => rfl) (fun _ => rfl))⟩
theorem c_town {G : GC} {E : SH} {iv : IV} {lv : LV} {a : Nat} (h : CS G E iv lv a [(0, 9, 0)] [] 1 Wz Lz E iv lv) : Spec G mX9_init 4 19 [.ref a] E iv lv (fun r E2 iv2 lv2 => r = none ∧ CS G E iv lv a TownC TownR 20 Wz Lz E2 iv2 lv2) := by
  have h0 : E.1 = a + 1 := h.1
  refine spec_of (lo := [_]) (by decide) (Nat.le_of_ble_eq_true rfl) rfl ?_
  have hE := h
  clear h
  exact c_town_w h0 hE
