def WMd : Nat → Nat → Bool := fun o j => (o == 15 && j == 2 || (o == 15 && j == 1 || (o == 15 && j == 0 || (o == 5 && j == 3 || (o == 5 && j == 2 || (o == 5 && j == 1 || (o == 5 && j == 0 || (o == 2 && j == 5 || (o == 2 && j == 4 || (o == 2 && j == 3 || (o == 2 && j == 2 || (o == 2 && j == 1 || (o == 2 && j == 0 || Wz o j)))))))))))))
theorem wm_e {k : Nat} : ∀ o j, o < k → WMd o j = (o == 15 && j == 2 || (o == 15 && j == 1 || (o == 15 && j == 0 || (o == 5 && j == 3 || (o == 5 && j == 2 || (o == 5 && j == 1 || (o == 5 && j == 0 || (o == 2 && j == 5 || (o == 2 && j == 4 || (o == 2 && j == 3 || (o == 2 && j == 2 || (o == 2 && j == 1 || (o == 2 && j == 0 || Wz o j))))))))))))) := fun o j _ => rfl
theorem c_model_w {G : GC} {E0 E : SH} {iv0 iv : IV} {lv0 lv : LV} {a z0 : Nat} (h0 : z0 = a + 1) (hE : CS G E0 iv0 lv0 a [(0, 11, 0)] [] 1 Wz Lz E iv lv) : AW G mX11_init (rm 1 17) (ZM G (rm 1 17) (fun r E2 iv2 lv2 => r = none ∧ CS G E0 iv0 lv0 a MC MR 18 WMd (fun j => j == 2 || Lz j) E2 iv2 lv2)) (fun _ => True) z0 0 [some (.ref a), none] [] E iv lv := by
  refine aw_aload_n dX11_init_0 rfl ?_
  refine aw_oinit dX11_init_1 oiX11_1 oi_i oi_c (Nat.le_of_ble_eq_true rfl) (rbA (D := 1) (d := 1) (mc := 17) (m := 0) (k := 1) (by decide) hE.1 h0 (by decide) (by decide)) ?_
  refine aw_aload_n dX11_init_4 rfl ?_
  refine aw_lconst (v := lN 1) dX11_init_5 kl_1 ?_
  refine aw_putL dX11_init_6 fpX11_7 rfl (CS.s hE (0, 11, 0) (by decide +kernel)) ?_
  replace hE := CS_putL1 (sl := 2) hE
  generalize va_up lv a (vp_updL (lv a) 2 (lN 1)) = lv at hE ⊢
  refine aw_aload_n dX11_init_9 rfl ?_
  refine aw_bipush (v := nI 6) dX11_init_10 kb_6 ?_
  refine aw_newi (n := 6) (e := a + 1) dX11_init_12 hE.1 ac_int (by decide) (rbA (D := 1) (d := 0) (mc := 17) (m := 1) (k := 1) (by decide) hE.1 h0 (by decide) (by decide)) ?_
  replace hE := CS_mk (t := 20) (n := 6) hE (by decide) wz_f
  generalize mkE E (a + 1) 20 6 = E at hE ⊢
  generalize va_up iv (a + 1) (fun _ => 0) = iv at hE ⊢
  generalize va_up lv (a + 1) (fun _ => 0) = lv at hE ⊢
  refine aw_putR dX11_init_14 fpX11_13 (fun _ => rfl) rfl (CS.s hE (0, 11, 0) (by decide +kernel)) ?_
  replace hE := CS_setR (x := a) (y := a + 1) (i := 0) (sl := 4) (j := 1) hE rfl rfl (by decide) (by decide +kernel)
  generalize setR E a 4 (a + 1) = E at hE ⊢
  refine aw_aload_n dX11_init_17 rfl ?_
  refine aw_bipush (v := nI 6) dX11_init_18 kb_6 ?_
  refine aw_newi (n := 6) (e := a + 2) dX11_init_20 hE.1 ac_int (by decide) (rbA (D := 1) (d := 0) (mc := 17) (m := 1) (k := 2) (by decide) hE.1 h0 (by decide) (by decide)) ?_
  replace hE := CS_mk (t := 20) (n := 6) hE (by decide) wz_f
  generalize mkE E (a + 2) 20 6 = E at hE ⊢
  generalize va_up iv (a + 2) (fun _ => 0) = iv at hE ⊢
  generalize va_up lv (a + 2) (fun _ => 0) = lv at hE ⊢
  refine aw_putR dX11_init_22 fpX11_17 (fun _ => rfl) rfl (CS.s hE (0, 11, 0) (by decide +kernel)) ?_
  replace hE := CS_setR (x := a) (y := a + 2) (i := 0) (sl := 5) (j := 2) hE rfl rfl (by decide) (by decide +kernel)
  generalize setR E a 5 (a + 2) = E at hE ⊢
  refine aw_aload_n dX11_init_25 rfl ?_
  refine aw_sipush (v := nI 240) dX11_init_26 ks_240 ?_
  refine aw_newi (n := 240) (e := a + 3) dX11_init_29 hE.1 ac_int (by decide) (rbA (D := 1) (d := 0) (mc := 17) (m := 1) (k := 3) (by decide) hE.1 h0 (by decide) (by decide)) ?_
  replace hE := CS_mk (t := 20) (n := 240) hE (by decide) wz_f
  generalize mkE E (a + 3) 20 240 = E at hE ⊢
  generalize va_up iv (a + 3) (fun _ => 0) = iv at hE ⊢
  generalize va_up lv (a + 3) (fun _ => 0) = lv at hE ⊢
  refine aw_putR dX11_init_31 fpX11_20 (fun _ => rfl) rfl (CS.s hE (0, 11, 0) (by decide +kernel)) ?_
  replace hE := CS_setR (x := a) (y := a + 3) (i := 0) (sl := 6) (j := 3) hE rfl rfl (by decide) (by decide +kernel)
  generalize setR E a 6 (a + 3) = E at hE ⊢
  refine aw_aload_n dX11_init_34 rfl ?_
  refine aw_bipush (v := nI 40) dX11_init_35 kb_40 ?_
  refine aw_newi (n := 40) (e := a + 4) dX11_init_37 hE.1 ac_int (by decide) (rbA (D := 1) (d := 0) (mc := 17) (m := 1) (k := 4) (by decide) hE.1 h0 (by decide) (by decide)) ?_
  replace hE := CS_mk (t := 20) (n := 40) hE (by decide) wz_f
  generalize mkE E (a + 4) 20 40 = E at hE ⊢
  generalize va_up iv (a + 4) (fun _ => 0) = iv at hE ⊢
  generalize va_up lv (a + 4) (fun _ => 0) = lv at hE ⊢
  refine aw_putR dX11_init_39 fpX11_23 (fun _ => rfl) rfl (CS.s hE (0, 11, 0) (by decide +kernel)) ?_
  replace hE := CS_setR (x := a) (y := a + 4) (i := 0) (sl := 7) (j := 4) hE rfl rfl (by decide) (by decide +kernel)
  generalize setR E a 7 (a + 4) = E at hE ⊢
  refine aw_aload_n dX11_init_42 rfl ?_
  refine aw_iconst (v := nI 4) dX11_init_43 kc_4 ?_
  refine aw_newi (n := 4) (e := a + 5) dX11_init_44 hE.1 ac_int (by decide) (rbA (D := 1) (d := 0) (mc := 17) (m := 1) (k := 5) (by decide) hE.1 h0 (by decide) (by decide)) ?_
  replace hE := CS_mk (t := 20) (n := 4) hE (by decide) wz_f
  generalize mkE E (a + 5) 20 4 = E at hE ⊢
  generalize va_up iv (a + 5) (fun _ => 0) = iv at hE ⊢
  generalize va_up lv (a + 5) (fun _ => 0) = lv at hE ⊢
  refine aw_putR dX11_init_46 fpX11_26 (fun _ => rfl) rfl (CS.s hE (0, 11, 0) (by decide +kernel)) ?_
  replace hE := CS_setR (x := a) (y := a + 5) (i := 0) (sl := 8) (j := 5) hE rfl rfl (by decide) (by decide +kernel)
  generalize setR E a 8 (a + 5) = E at hE ⊢
  refine aw_aload_n dX11_init_49 rfl ?_
  refine aw_sipush (v := nI 480) dX11_init_50 ks_480 ?_
  refine aw_newb (n := 480) (e := a + 6) dX11_init_53 hE.1 ac_byte (by decide) (rbA (D := 1) (d := 0) (mc := 17) (m := 1) (k := 6) (by decide) hE.1 h0 (by decide) (by decide)) ?_
  replace hE := CS_mk (t := 21) (n := 480) hE (by decide) wz_f
  generalize mkE E (a + 6) 21 480 = E at hE ⊢
  generalize va_up iv (a + 6) (fun _ => 0) = iv at hE ⊢
  generalize va_up lv (a + 6) (fun _ => 0) = lv at hE ⊢
  refine aw_putR dX11_init_55 fpX11_29 (fun _ => rfl) rfl (CS.s hE (0, 11, 0) (by decide +kernel)) ?_
  replace hE := CS_setR (x := a) (y := a + 6) (i := 0) (sl := 9) (j := 6) hE rfl rfl (by decide) (by decide +kernel)
  generalize setR E a 9 (a + 6) = E at hE ⊢
  refine aw_aload_n dX11_init_58 rfl ?_
  refine aw_iconst (v := nI 5) dX11_init_59 kc_5 ?_
  refine aw_newi (n := 5) (e := a + 7) dX11_init_60 hE.1 ac_int (by decide) (rbA (D := 1) (d := 0) (mc := 17) (m := 1) (k := 7) (by decide) hE.1 h0 (by decide) (by decide)) ?_
  replace hE := CS_mk (t := 20) (n := 5) hE (by decide) wz_f
  generalize mkE E (a + 7) 20 5 = E at hE ⊢
  generalize va_up iv (a + 7) (fun _ => 0) = iv at hE ⊢
  generalize va_up lv (a + 7) (fun _ => 0) = lv at hE ⊢
  refine aw_putR dX11_init_62 fpX11_33 (fun _ => rfl) rfl (CS.s hE (0, 11, 0) (by decide +kernel)) ?_
  replace hE := CS_setR (x := a) (y := a + 7) (i := 0) (sl := 12) (j := 7) hE rfl rfl (by decide) (by decide +kernel)
  generalize setR E a 12 (a + 7) = E at hE ⊢
  refine aw_aload_n dX11_init_65 rfl ?_
  refine aw_bipush (v := nI 35) dX11_init_66 kb_35 ?_
  refine aw_newi (n := 35) (e := a + 8) dX11_init_68 hE.1 ac_int (by decide) (rbA (D := 1) (d := 0) (mc := 17) (m := 1) (k := 8) (by decide) hE.1 h0 (by decide) (by decide)) ?_
  replace hE := CS_mk (t := 20) (n := 35) hE (by decide) wz_f
  generalize mkE E (a + 8) 20 35 = E at hE ⊢
  generalize va_up iv (a + 8) (fun _ => 0) = iv at hE ⊢
  generalize va_up lv (a + 8) (fun _ => 0) = lv at hE ⊢
  refine aw_putR dX11_init_70 fpX11_36 (fun _ => rfl) rfl (CS.s hE (0, 11, 0) (by decide +kernel)) ?_
  replace hE := CS_setR (x := a) (y := a + 8) (i := 0) (sl := 13) (j := 8) hE rfl rfl (by decide) (by decide +kernel)
  generalize setR E a 13 (a + 8) = E at hE ⊢
  refine aw_aload_n dX11_init_73 rfl ?_
  refine aw_bipush (v := nI 7) dX11_init_74 kb_7 ?_
  refine aw_newi (n := 7) (e := a + 9) dX11_init_76 hE.1 ac_int (by decide) (rbA (D := 1) (d := 0) (mc := 17) (m := 1) (k := 9) (by decide) hE.1 h0 (by decide) (by decide)) ?_
  replace hE := CS_mk (t := 20) (n := 7) hE (by decide) wz_f
  generalize mkE E (a + 9) 20 7 = E at hE ⊢
  generalize va_up iv (a + 9) (fun _ => 0) = iv at hE ⊢
  generalize va_up lv (a + 9) (fun _ => 0) = lv at hE ⊢
  refine aw_putR dX11_init_78 fpX11_39 (fun _ => rfl) rfl (CS.s hE (0, 11, 0) (by decide +kernel)) ?_
  replace hE := CS_setR (x := a) (y := a + 9) (i := 0) (sl := 15) (j := 9) hE rfl rfl (by decide) (by decide +kernel)
  generalize setR E a 15 (a + 9) = E at hE ⊢
  refine aw_aload_n dX11_init_81 rfl ?_
  refine aw_bipush (v := nI 7) dX11_init_82 kb_7 ?_
  refine aw_newi (n := 7) (e := a + 10) dX11_init_84 hE.1 ac_int (by decide) (rbA (D := 1) (d := 0) (mc := 17) (m := 1) (k := 10) (by decide) hE.1 h0 (by decide) (by decide)) ?_
  replace hE := CS_mk (t := 20) (n := 7) hE (by decide) wz_f
  generalize mkE E (a + 10) 20 7 = E at hE ⊢
  generalize va_up iv (a + 10) (fun _ => 0) = iv at hE ⊢
  generalize va_up lv (a + 10) (fun _ => 0) = lv at hE ⊢
  refine aw_putR dX11_init_86 fpX11_42 (fun _ => rfl) rfl (CS.s hE (0, 11, 0) (by decide +kernel)) ?_
  replace hE := CS_setR (x := a) (y := a + 10) (i := 0) (sl := 16) (j := 10) hE rfl rfl (by decide) (by decide +kernel)
  generalize setR E a 16 (a + 10) = E at hE ⊢
  refine aw_aload_n dX11_init_89 rfl ?_
  refine aw_bipush (v := nI 7) dX11_init_90 kb_7 ?_
  refine aw_newi (n := 7) (e := a + 11) dX11_init_92 hE.1 ac_int (by decide) (rbA (D := 1) (d := 0) (mc := 17) (m := 1) (k := 11) (by decide) hE.1 h0 (by decide) (by decide)) ?_
  replace hE := CS_mk (t := 20) (n := 7) hE (by decide) wz_f
  generalize mkE E (a + 11) 20 7 = E at hE ⊢
  generalize va_up iv (a + 11) (fun _ => 0) = iv at hE ⊢
  generalize va_up lv (a + 11) (fun _ => 0) = lv at hE ⊢
  refine aw_putR dX11_init_94 fpX11_45 (fun _ => rfl) rfl (CS.s hE (0, 11, 0) (by decide +kernel)) ?_
  replace hE := CS_setR (x := a) (y := a + 11) (i := 0) (sl := 17) (j := 11) hE rfl rfl (by decide) (by decide +kernel)
  generalize setR E a 17 (a + 11) = E at hE ⊢
  refine aw_aload_n dX11_init_97 rfl ?_
  refine aw_bipush (v := nI 20) dX11_init_98 kb_20 ?_
  refine aw_newi (n := 20) (e := a + 12) dX11_init_100 hE.1 ac_int (by decide) (rbA (D := 1) (d := 0) (mc := 17) (m := 1) (k := 12) (by decide) hE.1 h0 (by decide) (by decide)) ?_
  replace hE := CS_mk (t := 20) (n := 20) hE (by decide) wz_f
  generalize mkE E (a + 12) 20 20 = E at hE ⊢
  generalize va_up iv (a + 12) (fun _ => 0) = iv at hE ⊢
  generalize va_up lv (a + 12) (fun _ => 0) = lv at hE ⊢
  refine aw_putR dX11_init_102 fpX11_48 (fun _ => rfl) rfl (CS.s hE (0, 11, 0) (by decide +kernel)) ?_
  replace hE := CS_setR (x := a) (y := a + 12) (i := 0) (sl := 18) (j := 12) hE rfl rfl (by decide) (by decide +kernel)
  generalize setR E a 18 (a + 12) = E at hE ⊢
  refine aw_aload_n dX11_init_105 rfl ?_
  refine aw_bipush (v := nI 20) dX11_init_106 kb_20 ?_
  refine aw_newi (n := 20) (e := a + 13) dX11_init_108 hE.1 ac_int (by decide) (rbA (D := 1) (d := 0) (mc := 17) (m := 1) (k := 13) (by decide) hE.1 h0 (by decide) (by decide)) ?_
  replace hE := CS_mk (t := 20) (n := 20) hE (by decide) wz_f
  generalize mkE E (a + 13) 20 20 = E at hE ⊢
  generalize va_up iv (a + 13) (fun _ => 0) = iv at hE ⊢
  generalize va_up lv (a + 13) (fun _ => 0) = lv at hE ⊢
  refine aw_putR dX11_init_110 fpX11_51 (fun _ => rfl) rfl (CS.s hE (0, 11, 0) (by decide +kernel)) ?_
  replace hE := CS_setR (x := a) (y := a + 13) (i := 0) (sl := 19) (j := 13) hE rfl rfl (by decide) (by decide +kernel)
  generalize setR E a 19 (a + 13) = E at hE ⊢
  refine aw_aload_n dX11_init_113 rfl ?_
  refine aw_sipush (v := nI 800) dX11_init_114 ks_800 ?_
  refine aw_newi (n := 800) (e := a + 14) dX11_init_117 hE.1 ac_int (by decide) (rbA (D := 1) (d := 0) (mc := 17) (m := 1) (k := 14) (by decide) hE.1 h0 (by decide) (by decide)) ?_
  replace hE := CS_mk (t := 20) (n := 800) hE (by decide) wz_f
  generalize mkE E (a + 14) 20 800 = E at hE ⊢
  generalize va_up iv (a + 14) (fun _ => 0) = iv at hE ⊢
  generalize va_up lv (a + 14) (fun _ => 0) = lv at hE ⊢
  refine aw_putR dX11_init_119 fpX11_54 (fun _ => rfl) rfl (CS.s hE (0, 11, 0) (by decide +kernel)) ?_
  replace hE := CS_setR (x := a) (y := a + 14) (i := 0) (sl := 21) (j := 14) hE rfl rfl (by decide) (by decide +kernel)
  generalize setR E a 21 (a + 14) = E at hE ⊢
  refine aw_aload_n dX11_init_122 rfl ?_
  refine aw_iconst (v := nI 3) dX11_init_123 kc_3 ?_
  refine aw_newi (n := 3) (e := a + 15) dX11_init_124 hE.1 ac_int (by decide) (rbA (D := 1) (d := 0) (mc := 17) (m := 1) (k := 15) (by decide) hE.1 h0 (by decide) (by decide)) ?_
  replace hE := CS_mk (t := 20) (n := 3) hE (by decide) wz_f
  generalize mkE E (a + 15) 20 3 = E at hE ⊢
  generalize va_up iv (a + 15) (fun _ => 0) = iv at hE ⊢
  generalize va_up lv (a + 15) (fun _ => 0) = lv at hE ⊢
  refine aw_putR dX11_init_126 fpX11_57 (fun _ => rfl) rfl (CS.s hE (0, 11, 0) (by decide +kernel)) ?_
  replace hE := CS_setR (x := a) (y := a + 15) (i := 0) (sl := 22) (j := 15) hE rfl rfl (by decide) (by decide +kernel)
  generalize setR E a 22 (a + 15) = E at hE ⊢
  refine aw_aload_n dX11_init_129 rfl ?_
  refine aw_sipush (v := nI 2460) dX11_init_130 ks_2460 ?_
  refine aw_newi (n := 2460) (e := a + 16) dX11_init_133 hE.1 ac_int (by decide) (rbA (D := 1) (d := 0) (mc := 17) (m := 1) (k := 16) (by decide) hE.1 h0 (by decide) (by decide)) ?_
  replace hE := CS_mk (t := 20) (n := 2460) hE (by decide) wz_f
  generalize mkE E (a + 16) 20 2460 = E at hE ⊢
  generalize va_up iv (a + 16) (fun _ => 0) = iv at hE ⊢
  generalize va_up lv (a + 16) (fun _ => 0) = lv at hE ⊢
  refine aw_putR dX11_init_135 fpX11_60 (fun _ => rfl) rfl (CS.s hE (0, 11, 0) (by decide +kernel)) ?_
  replace hE := CS_setR (x := a) (y := a + 16) (i := 0) (sl := 23) (j := 16) hE rfl rfl (by decide) (by decide +kernel)
  generalize setR E a 23 (a + 16) = E at hE ⊢
  refine aw_aload_n dX11_init_138 rfl ?_
  refine aw_sipush (v := nI 216) dX11_init_139 ks_216 ?_
  refine aw_newi (n := 216) (e := a + 17) dX11_init_142 hE.1 ac_int (by decide) (rbA (D := 1) (d := 0) (mc := 17) (m := 1) (k := 17) (by decide) hE.1 h0 (by decide) (by decide)) ?_
  replace hE := CS_mk (t := 20) (n := 216) hE (by decide) wz_f
  generalize mkE E (a + 17) 20 216 = E at hE ⊢
  generalize va_up iv (a + 17) (fun _ => 0) = iv at hE ⊢
  generalize va_up lv (a + 17) (fun _ => 0) = lv at hE ⊢
  refine aw_putR dX11_init_144 fpX11_63 (fun _ => rfl) rfl (CS.s hE (0, 11, 0) (by decide +kernel)) ?_
  replace hE := CS_setR (x := a) (y := a + 17) (i := 0) (sl := 24) (j := 17) hE rfl rfl (by decide) (by decide +kernel)
  generalize setR E a 24 (a + 17) = E at hE ⊢
  refine aw_iconst (v := nI 0) dX11_init_147 kc_0 ?_
  refine aw_istore_n (lo' := [_,_]) dX11_init_148 (Nat.le_of_ble_eq_true rfl) rfl ?_
  refine aw_iload_n dX11_init_149 rfl ?_
  refine aw_bipush (v := nI 6) dX11_init_150 kb_6 ?_
  refine aw_icmp_ge (tgt := 168) dX11_init_152 rfl (fun h => absurd h (by decide)) (fun h => ?_)
  clear h
  refine aw_aload_n dX11_init_155 rfl ?_
  refine aw_getR dX11_init_156 fgX11_17 rfl (CS.s hE (0, 11, 0) (by decide +kernel)) (CS.r hE (0, 5, 2) (by decide +kernel)) ?_
  refine aw_iload_n dX11_init_159 rfl ?_
  refine aw_iconst (v := (-1)) dX11_init_160 kc_m1 ?_
  refine aw_iastore (j := 0) dX11_init_161 (CS.s hE (2, 20, 6) (by decide +kernel)) rfl (by decide) ?_
  replace hE := CS_putIm (x := a + 2) (i := 2) (sl := 0) hE rfl (by decide)
  generalize va_up iv (a + 2) (upd (iv (a + 2)) 0 (-1)) = iv at hE ⊢
  refine aw_iinc (v := nI 1) (lo' := [_,_]) dX11_init_162 rfl (by decide) rfl ?_
  refine aw_goto (tgt := 149) dX11_init_165 rfl ?_
  refine aw_iload_n dX11_init_149 rfl ?_
  refine aw_bipush (v := nI 6) dX11_init_150 kb_6 ?_
  refine aw_icmp_ge (tgt := 168) dX11_init_152 rfl (fun h => absurd h (by decide)) (fun h => ?_)
  clear h
  refine aw_aload_n dX11_init_155 rfl ?_
  refine aw_getR dX11_init_156 fgX11_17 rfl (CS.s hE (0, 11, 0) (by decide +kernel)) (CS.r hE (0, 5, 2) (by decide +kernel)) ?_
  refine aw_iload_n dX11_init_159 rfl ?_
  refine aw_iconst (v := (-1)) dX11_init_160 kc_m1 ?_
  refine aw_iastore (j := 1) dX11_init_161 (CS.s hE (2, 20, 6) (by decide +kernel)) rfl (by decide) ?_
  replace hE := CS_putIm (x := a + 2) (i := 2) (sl := 1) hE rfl (by decide)
  generalize va_up iv (a + 2) (upd (iv (a + 2)) 1 (-1)) = iv at hE ⊢
  refine aw_iinc (v := nI 2) (lo' := [_,_]) dX11_init_162 rfl (by decide) rfl ?_
  refine aw_goto (tgt := 149) dX11_init_165 rfl ?_
  refine aw_iload_n dX11_init_149 rfl ?_
  refine aw_bipush (v := nI 6) dX11_init_150 kb_6 ?_
  refine aw_icmp_ge (tgt := 168) dX11_init_152 rfl (fun h => absurd h (by decide)) (fun h => ?_)
  clear h
  refine aw_aload_n dX11_init_155 rfl ?_
  refine aw_getR dX11_init_156 fgX11_17 rfl (CS.s hE (0, 11, 0) (by decide +kernel)) (CS.r hE (0, 5, 2) (by decide +kernel)) ?_
  refine aw_iload_n dX11_init_159 rfl ?_
  refine aw_iconst (v := (-1)) dX11_init_160 kc_m1 ?_
  refine aw_iastore (j := 2) dX11_init_161 (CS.s hE (2, 20, 6) (by decide +kernel)) rfl (by decide) ?_
  replace hE := CS_putIm (x := a + 2) (i := 2) (sl := 2) hE rfl (by decide)
  generalize va_up iv (a + 2) (upd (iv (a + 2)) 2 (-1)) = iv at hE ⊢
  refine aw_iinc (v := nI 3) (lo' := [_,_]) dX11_init_162 rfl (by decide) rfl ?_
  refine aw_goto (tgt := 149) dX11_init_165 rfl ?_
  refine aw_iload_n dX11_init_149 rfl ?_
  refine aw_bipush (v := nI 6) dX11_init_150 kb_6 ?_
  refine aw_icmp_ge (tgt := 168) dX11_init_152 rfl (fun h => absurd h (by decide)) (fun h => ?_)
  clear h
  refine aw_aload_n dX11_init_155 rfl ?_
  refine aw_getR dX11_init_156 fgX11_17 rfl (CS.s hE (0, 11, 0) (by decide +kernel)) (CS.r hE (0, 5, 2) (by decide +kernel)) ?_
  refine aw_iload_n dX11_init_159 rfl ?_
  refine aw_iconst (v := (-1)) dX11_init_160 kc_m1 ?_
  refine aw_iastore (j := 3) dX11_init_161 (CS.s hE (2, 20, 6) (by decide +kernel)) rfl (by decide) ?_
  replace hE := CS_putIm (x := a + 2) (i := 2) (sl := 3) hE rfl (by decide)
  generalize va_up iv (a + 2) (upd (iv (a + 2)) 3 (-1)) = iv at hE ⊢
  refine aw_iinc (v := nI 4) (lo' := [_,_]) dX11_init_162 rfl (by decide) rfl ?_
  refine aw_goto (tgt := 149) dX11_init_165 rfl ?_
  refine aw_iload_n dX11_init_149 rfl ?_
  refine aw_bipush (v := nI 6) dX11_init_150 kb_6 ?_
  refine aw_icmp_ge (tgt := 168) dX11_init_152 rfl (fun h => absurd h (by decide)) (fun h => ?_)
  clear h
  refine aw_aload_n dX11_init_155 rfl ?_
  refine aw_getR dX11_init_156 fgX11_17 rfl (CS.s hE (0, 11, 0) (by decide +kernel)) (CS.r hE (0, 5, 2) (by decide +kernel)) ?_
  refine aw_iload_n dX11_init_159 rfl ?_
  refine aw_iconst (v := (-1)) dX11_init_160 kc_m1 ?_
  refine aw_iastore (j := 4) dX11_init_161 (CS.s hE (2, 20, 6) (by decide +kernel)) rfl (by decide) ?_
  replace hE := CS_putIm (x := a + 2) (i := 2) (sl := 4) hE rfl (by decide)
  generalize va_up iv (a + 2) (upd (iv (a + 2)) 4 (-1)) = iv at hE ⊢
  refine aw_iinc (v := nI 5) (lo' := [_,_]) dX11_init_162 rfl (by decide) rfl ?_
  refine aw_goto (tgt := 149) dX11_init_165 rfl ?_
  refine aw_iload_n dX11_init_149 rfl ?_
  refine aw_bipush (v := nI 6) dX11_init_150 kb_6 ?_
  refine aw_icmp_ge (tgt := 168) dX11_init_152 rfl (fun h => absurd h (by decide)) (fun h => ?_)
  clear h
  refine aw_aload_n dX11_init_155 rfl ?_
  refine aw_getR dX11_init_156 fgX11_17 rfl (CS.s hE (0, 11, 0) (by decide +kernel)) (CS.r hE (0, 5, 2) (by decide +kernel)) ?_
  refine aw_iload_n dX11_init_159 rfl ?_
  refine aw_iconst (v := (-1)) dX11_init_160 kc_m1 ?_
  refine aw_iastore (j := 5) dX11_init_161 (CS.s hE (2, 20, 6) (by decide +kernel)) rfl (by decide) ?_
  replace hE := CS_putIm (x := a + 2) (i := 2) (sl := 5) hE rfl (by decide)
  generalize va_up iv (a + 2) (upd (iv (a + 2)) 5 (-1)) = iv at hE ⊢
  refine aw_iinc (v := nI 6) (lo' := [_,_]) dX11_init_162 rfl (by decide) rfl ?_
  refine aw_goto (tgt := 149) dX11_init_165 rfl ?_
  refine aw_iload_n dX11_init_149 rfl ?_
  refine aw_bipush (v := nI 6) dX11_init_150 kb_6 ?_
  refine aw_icmp_ge (tgt := 168) dX11_init_152 rfl (fun h => ?_) (fun h => absurd (by decide) h)
  clear h
  refine aw_iconst (v := nI 0) dX11_init_168 kc_0 ?_
  refine aw_istore_n (lo' := [_,_]) dX11_init_169 (Nat.le_of_ble_eq_true rfl) rfl ?_
  refine aw_iload_n dX11_init_170 rfl ?_
  refine aw_iconst (v := nI 4) dX11_init_171 kc_4 ?_
  refine aw_icmp_ge (tgt := 188) dX11_init_172 rfl (fun h => absurd h (by decide)) (fun h => ?_)
  clear h
  refine aw_aload_n dX11_init_175 rfl ?_
  refine aw_getR dX11_init_176 fgX11_26 rfl (CS.s hE (0, 11, 0) (by decide +kernel)) (CS.r hE (0, 8, 5) (by decide +kernel)) ?_
  refine aw_iload_n dX11_init_179 rfl ?_
  refine aw_iconst (v := (-1)) dX11_init_180 kc_m1 ?_
  refine aw_iastore (j := 0) dX11_init_181 (CS.s hE (5, 20, 4) (by decide +kernel)) rfl (by decide) ?_
  replace hE := CS_putIm (x := a + 5) (i := 5) (sl := 0) hE rfl (by decide)
  generalize va_up iv (a + 5) (upd (iv (a + 5)) 0 (-1)) = iv at hE ⊢
  refine aw_iinc (v := nI 1) (lo' := [_,_]) dX11_init_182 rfl (by decide) rfl ?_
  refine aw_goto (tgt := 170) dX11_init_185 rfl ?_
  refine aw_iload_n dX11_init_170 rfl ?_
  refine aw_iconst (v := nI 4) dX11_init_171 kc_4 ?_
  refine aw_icmp_ge (tgt := 188) dX11_init_172 rfl (fun h => absurd h (by decide)) (fun h => ?_)
  clear h
  refine aw_aload_n dX11_init_175 rfl ?_
  refine aw_getR dX11_init_176 fgX11_26 rfl (CS.s hE (0, 11, 0) (by decide +kernel)) (CS.r hE (0, 8, 5) (by decide +kernel)) ?_
  refine aw_iload_n dX11_init_179 rfl ?_
  refine aw_iconst (v := (-1)) dX11_init_180 kc_m1 ?_
  refine aw_iastore (j := 1) dX11_init_181 (CS.s hE (5, 20, 4) (by decide +kernel)) rfl (by decide) ?_
  replace hE := CS_putIm (x := a + 5) (i := 5) (sl := 1) hE rfl (by decide)
  generalize va_up iv (a + 5) (upd (iv (a + 5)) 1 (-1)) = iv at hE ⊢
  refine aw_iinc (v := nI 2) (lo' := [_,_]) dX11_init_182 rfl (by decide) rfl ?_
  refine aw_goto (tgt := 170) dX11_init_185 rfl ?_
  refine aw_iload_n dX11_init_170 rfl ?_
  refine aw_iconst (v := nI 4) dX11_init_171 kc_4 ?_
  refine aw_icmp_ge (tgt := 188) dX11_init_172 rfl (fun h => absurd h (by decide)) (fun h => ?_)
  clear h
  refine aw_aload_n dX11_init_175 rfl ?_
  refine aw_getR dX11_init_176 fgX11_26 rfl (CS.s hE (0, 11, 0) (by decide +kernel)) (CS.r hE (0, 8, 5) (by decide +kernel)) ?_
  refine aw_iload_n dX11_init_179 rfl ?_
  refine aw_iconst (v := (-1)) dX11_init_180 kc_m1 ?_
  refine aw_iastore (j := 2) dX11_init_181 (CS.s hE (5, 20, 4) (by decide +kernel)) rfl (by decide) ?_
  replace hE := CS_putIm (x := a + 5) (i := 5) (sl := 2) hE rfl (by decide)
  generalize va_up iv (a + 5) (upd (iv (a + 5)) 2 (-1)) = iv at hE ⊢
  refine aw_iinc (v := nI 3) (lo' := [_,_]) dX11_init_182 rfl (by decide) rfl ?_
  refine aw_goto (tgt := 170) dX11_init_185 rfl ?_
  refine aw_iload_n dX11_init_170 rfl ?_
  refine aw_iconst (v := nI 4) dX11_init_171 kc_4 ?_
  refine aw_icmp_ge (tgt := 188) dX11_init_172 rfl (fun h => absurd h (by decide)) (fun h => ?_)
  clear h
  refine aw_aload_n dX11_init_175 rfl ?_
  refine aw_getR dX11_init_176 fgX11_26 rfl (CS.s hE (0, 11, 0) (by decide +kernel)) (CS.r hE (0, 8, 5) (by decide +kernel)) ?_
  refine aw_iload_n dX11_init_179 rfl ?_
  refine aw_iconst (v := (-1)) dX11_init_180 kc_m1 ?_
  refine aw_iastore (j := 3) dX11_init_181 (CS.s hE (5, 20, 4) (by decide +kernel)) rfl (by decide) ?_
  replace hE := CS_putIm (x := a + 5) (i := 5) (sl := 3) hE rfl (by decide)
  generalize va_up iv (a + 5) (upd (iv (a + 5)) 3 (-1)) = iv at hE ⊢
  refine aw_iinc (v := nI 4) (lo' := [_,_]) dX11_init_182 rfl (by decide) rfl ?_
  refine aw_goto (tgt := 170) dX11_init_185 rfl ?_
  refine aw_iload_n dX11_init_170 rfl ?_
  refine aw_iconst (v := nI 4) dX11_init_171 kc_4 ?_
  refine aw_icmp_ge (tgt := 188) dX11_init_172 rfl (fun h => ?_) (fun h => absurd (by decide) h)
  clear h
  refine aw_iconst (v := nI 0) dX11_init_188 kc_0 ?_
  refine aw_istore_n (lo' := [_,_]) dX11_init_189 (Nat.le_of_ble_eq_true rfl) rfl ?_
  refine aw_iload_n dX11_init_190 rfl ?_
  refine aw_iconst (v := nI 3) dX11_init_191 kc_3 ?_
  refine aw_icmp_ge (tgt := 208) dX11_init_192 rfl (fun h => absurd h (by decide)) (fun h => ?_)
  clear h
  refine aw_aload_n dX11_init_195 rfl ?_
  refine aw_getR dX11_init_196 fgX11_57 rfl (CS.s hE (0, 11, 0) (by decide +kernel)) (CS.r hE (0, 22, 15) (by decide +kernel)) ?_
  refine aw_iload_n dX11_init_199 rfl ?_
  refine aw_iconst (v := (-1)) dX11_init_200 kc_m1 ?_
  refine aw_iastore (j := 0) dX11_init_201 (CS.s hE (15, 20, 3) (by decide +kernel)) rfl (by decide) ?_
  replace hE := CS_putIm (x := a + 15) (i := 15) (sl := 0) hE rfl (by decide)
  generalize va_up iv (a + 15) (upd (iv (a + 15)) 0 (-1)) = iv at hE ⊢
  refine aw_iinc (v := nI 1) (lo' := [_,_]) dX11_init_202 rfl (by decide) rfl ?_
  refine aw_goto (tgt := 190) dX11_init_205 rfl ?_
  refine aw_iload_n dX11_init_190 rfl ?_
  refine aw_iconst (v := nI 3) dX11_init_191 kc_3 ?_
  refine aw_icmp_ge (tgt := 208) dX11_init_192 rfl (fun h => absurd h (by decide)) (fun h => ?_)
  clear h
  refine aw_aload_n dX11_init_195 rfl ?_
  refine aw_getR dX11_init_196 fgX11_57 rfl (CS.s hE (0, 11, 0) (by decide +kernel)) (CS.r hE (0, 22, 15) (by decide +kernel)) ?_
  refine aw_iload_n dX11_init_199 rfl ?_
  refine aw_iconst (v := (-1)) dX11_init_200 kc_m1 ?_
  refine aw_iastore (j := 1) dX11_init_201 (CS.s hE (15, 20, 3) (by decide +kernel)) rfl (by decide) ?_
  replace hE := CS_putIm (x := a + 15) (i := 15) (sl := 1) hE rfl (by decide)
  generalize va_up iv (a + 15) (upd (iv (a + 15)) 1 (-1)) = iv at hE ⊢
  refine aw_iinc (v := nI 2) (lo' := [_,_]) dX11_init_202 rfl (by decide) rfl ?_
  refine aw_goto (tgt := 190) dX11_init_205 rfl ?_
  refine aw_iload_n dX11_init_190 rfl ?_
  refine aw_iconst (v := nI 3) dX11_init_191 kc_3 ?_
  refine aw_icmp_ge (tgt := 208) dX11_init_192 rfl (fun h => absurd h (by decide)) (fun h => ?_)
  clear h
  refine aw_aload_n dX11_init_195 rfl ?_
  refine aw_getR dX11_init_196 fgX11_57 rfl (CS.s hE (0, 11, 0) (by decide +kernel)) (CS.r hE (0, 22, 15) (by decide +kernel)) ?_
  refine aw_iload_n dX11_init_199 rfl ?_
  refine aw_iconst (v := (-1)) dX11_init_200 kc_m1 ?_
  refine aw_iastore (j := 2) dX11_init_201 (CS.s hE (15, 20, 3) (by decide +kernel)) rfl (by decide) ?_
  replace hE := CS_putIm (x := a + 15) (i := 15) (sl := 2) hE rfl (by decide)
  generalize va_up iv (a + 15) (upd (iv (a + 15)) 2 (-1)) = iv at hE ⊢
  refine aw_iinc (v := nI 3) (lo' := [_,_]) dX11_init_202 rfl (by decide) rfl ?_
  refine aw_goto (tgt := 190) dX11_init_205 rfl ?_
  refine aw_iload_n dX11_init_190 rfl ?_
  refine aw_iconst (v := nI 3) dX11_init_191 kc_3 ?_
  refine aw_icmp_ge (tgt := 208) dX11_init_192 rfl (fun h => ?_) (fun h => absurd (by decide) h)
  clear h
  exact aw_vret dX11_init_208 rfl (rbA (D := 1) (d := 0) (mc := 17) (m := 0) (k := 18) (by decide) hE.1 h0 (by decide) (by decide)) ⟨rfl, (CS_cast hE (by decide +kernel) (by decide +kernel) wm_e (fun _ => rfl))⟩
theorem c_model {G : GC} {E : SH} {iv : IV} {lv : LV} {a : Nat} (h : CS G E iv lv a [(0, 11, 0)] [] 1 Wz Lz E iv lv) : Spec G mX11_init 1 17 [.ref a] E iv lv (fun r E2 iv2 lv2 => r = none ∧ CS G E iv lv a MC MR 18 WMd (fun j => j == 2 || Lz j) E2 iv2 lv2) := by
  have h0 : E.1 = a + 1 := h.1
  refine spec_of (lo := [_,_]) (by decide) (Nat.le_of_ble_eq_true rfl) rfl ?_
  have hE := h
  clear h
  exact c_model_w h0 hE
