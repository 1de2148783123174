theorem is_0 : Cond.instantiable RX0 0 ∈ tb := tb_at (i := 148) (by decide +kernel) rfl
theorem is_1 : Cond.instantiable RX1 0 ∈ tb := tb_at (i := 120) (by decide +kernel) rfl
theorem is_2 : Cond.instantiable RX2 0 ∈ tb := tb_at (i := 113) (by decide +kernel) rfl
theorem is_3 : Cond.instantiable RX3 10 ∈ tb := tb_at (i := 219) (by decide +kernel) rfl
theorem is_4 : Cond.instantiable RX4 0 ∈ tb := tb_at (i := 141) (by decide +kernel) rfl
theorem is_5 : Cond.instantiable RX5 2 ∈ tb := tb_at (i := 91) (by decide +kernel) rfl
theorem is_6 : Cond.instantiable RX6 0 ∈ tb := tb_at (i := 134) (by decide +kernel) rfl
theorem is_7 : Cond.instantiable RX7 2 ∈ tb := tb_at (i := 264) (by decide +kernel) rfl
theorem is_8 : Cond.instantiable RX8 0 ∈ tb := tb_at (i := 127) (by decide +kernel) rfl
theorem is_9 : Cond.instantiable RX9 16 ∈ tb := tb_at (i := 106) (by decide +kernel) rfl
theorem is_10 : Cond.instantiable RX10 11 ∈ tb := tb_at (i := 81) (by decide +kernel) rfl
theorem is_11 : Cond.instantiable RX11 29 ∈ tb := tb_at (i := 854) (by decide +kernel) rfl
theorem ac_int : Cond.arrayClass .int ∈ tb := tb_at (i := 104) (by decide +kernel) rfl
theorem ac_byte : Cond.arrayClass .byte ∈ tb := tb_at (i := 947) (by decide +kernel) rfl
theorem oi_i : Cond.instanceMethod Lib.objectInit ∈ tb := tb_at (i := 86) (by decide +kernel) rfl
theorem oi_c : Cond.code Lib.objectInit ⟨#[0xb1]⟩ 1 none ∈ tb := tb_at (i := 87) (by decide +kernel) rfl
theorem oiX10_1 : Cond.methodLink RX10 1 Lib.objectInit ∈ tb := tb_at (i := 85) (by decide +kernel) rfl
theorem oiX11_1 : Cond.methodLink RX11 1 Lib.objectInit ∈ tb := tb_at (i := 858) (by decide +kernel) rfl
theorem oiX2_3 : Cond.methodLink RX2 3 Lib.objectInit ∈ tb := tb_at (i := 117) (by decide +kernel) rfl
theorem oiX3_3 : Cond.methodLink RX3 3 Lib.objectInit ∈ tb := tb_at (i := 223) (by decide +kernel) rfl
theorem oiX5_3 : Cond.methodLink RX5 3 Lib.objectInit ∈ tb := tb_at (i := 95) (by decide +kernel) rfl
theorem oiX7_1 : Cond.methodLink RX7 1 Lib.objectInit ∈ tb := tb_at (i := 268) (by decide +kernel) rfl
theorem oiX9_3 : Cond.methodLink RX9 3 Lib.objectInit ∈ tb := tb_at (i := 110) (by decide +kernel) rfl
theorem wz_f {k : Nat} : ∀ j, Wz k j = false := fun _ => rfl
theorem wz_sub {k k2 : Nat} : ∀ o j, o < k2 → Wz (k + o) j = Wz o j := fun _ _ _ => rfl
theorem wz_id {k : Nat} {Wp : Nat → Nat → Bool} : ∀ o j, o < k → Wp o j = Wp o j := fun _ _ _ => rfl
def WSt : Nat → Nat → Bool := fun o j => (o == 0 && j == 1) || Wz o j
def WXr : Nat → Nat → Bool := fun o j => decide (58 ≤ o ∧ o < 78 ∧ o % 2 = 0 ∧ j = 1)
theorem wx_f {k : Nat} (h : ¬ (58 ≤ k ∧ k < 78)) : ∀ j, WXr k j = false := fun j => decide_eq_false (fun q => h ⟨q.1, q.2.1⟩)
theorem wx_sub {k k2 : Nat} (h : k + k2 ≤ 58 ∨ 78 ≤ k) : ∀ o j, o < k2 → WXr (k + o) j = Wz o j := fun o j ho => decide_eq_false (fun q => by omega)
theorem wx_st {k : Nat} (h : 58 ≤ k ∧ k < 78) (h2 : k % 2 = 0) : ∀ o j, o < 2 → WXr (k + o) j = WSt o j := fun o j ho => by
  rcases (show o = 0 ∨ o = 1 by omega) with rfl | rfl
  · by_cases e : j = 1
    · subst e
      exact decide_eq_true ⟨by omega, by omega, by omega, rfl⟩
    · rw [show WXr (k + 0) j = false from decide_eq_false (fun q => e q.2.2.2)]
      show false = ((0 == 0 && j == 1) || false)
      simp [e]
  · rw [show WXr (k + 1) j = false from decide_eq_false (fun q => by omega)]
    rfl
theorem c_init2 {G : GC} {E : SH} {iv : IV} {lv : LV} {a : Nat} : ExV G mX2_init 1 [.ref a] E iv lv iv lv := by
  refine spec0_of (lo := [_]) (by decide) (Nat.le_of_ble_eq_true rfl) rfl ?_
  refine aw_aload_n dX2_init_0 rfl ?_
  refine aw_oinit dX2_init_1 oiX2_3 oi_i oi_c (Nat.le_of_ble_eq_true rfl) (rb0 (by decide)) ?_
  exact aw_vret dX2_init_4 rfl (rb0 (Nat.zero_le _)) ⟨rfl, rfl, rfl, rfl⟩
theorem c_init1 {G : GC} {E : SH} {iv : IV} {lv : LV} {a : Nat} : ExV G mX1_init 2 [.ref a] E iv lv iv lv := by
  refine spec0_of (lo := [_]) (by decide) (Nat.le_of_ble_eq_true rfl) rfl ?_
  refine aw_aload_n dX1_init_0 rfl ?_
  refine aw_callI [] dX1_init_1 ciX1_1 (c_init2 (a := a)) rfl rfl (Nat.le_of_ble_eq_true rfl) (rb0 (by decide)) (fun _ E2 _ _ q => by rw [q.1]; rfl) (fun r E2 iv2 lv2 hq => ?_)
  obtain ⟨rfl, rfl, rfl, rfl⟩ := hq
  exact aw_vret dX1_init_4 rfl (rb0 (Nat.zero_le _)) ⟨rfl, rfl, rfl, rfl⟩
theorem c_init8 {G : GC} {E : SH} {iv : IV} {lv : LV} {a : Nat} : ExV G mX8_init 2 [.ref a] E iv lv iv lv := by
  refine spec0_of (lo := [_]) (by decide) (Nat.le_of_ble_eq_true rfl) rfl ?_
  refine aw_aload_n dX8_init_0 rfl ?_
  refine aw_callI [] dX8_init_1 ciX8_1 (c_init2 (a := a)) rfl rfl (Nat.le_of_ble_eq_true rfl) (rb0 (by decide)) (fun _ E2 _ _ q => by rw [q.1]; rfl) (fun r E2 iv2 lv2 hq => ?_)
  obtain ⟨rfl, rfl, rfl, rfl⟩ := hq
  exact aw_vret dX8_init_4 rfl (rb0 (Nat.zero_le _)) ⟨rfl, rfl, rfl, rfl⟩
theorem c_init6 {G : GC} {E : SH} {iv : IV} {lv : LV} {a : Nat} : ExV G mX6_init 2 [.ref a] E iv lv iv lv := by
  refine spec0_of (lo := [_]) (by decide) (Nat.le_of_ble_eq_true rfl) rfl ?_
  refine aw_aload_n dX6_init_0 rfl ?_
  refine aw_callI [] dX6_init_1 ciX6_1 (c_init2 (a := a)) rfl rfl (Nat.le_of_ble_eq_true rfl) (rb0 (by decide)) (fun _ E2 _ _ q => by rw [q.1]; rfl) (fun r E2 iv2 lv2 hq => ?_)
  obtain ⟨rfl, rfl, rfl, rfl⟩ := hq
  exact aw_vret dX6_init_4 rfl (rb0 (Nat.zero_le _)) ⟨rfl, rfl, rfl, rfl⟩
theorem c_init4 {G : GC} {E : SH} {iv : IV} {lv : LV} {a : Nat} : ExV G mX4_init 3 [.ref a] E iv lv iv lv := by
  refine spec0_of (lo := [_]) (by decide) (Nat.le_of_ble_eq_true rfl) rfl ?_
  refine aw_aload_n dX4_init_0 rfl ?_
  refine aw_callI [] dX4_init_1 ciX4_1 (c_init1 (a := a)) rfl rfl (Nat.le_of_ble_eq_true rfl) (rb0 (by decide)) (fun _ E2 _ _ q => by rw [q.1]; rfl) (fun r E2 iv2 lv2 hq => ?_)
  obtain ⟨rfl, rfl, rfl, rfl⟩ := hq
  exact aw_vret dX4_init_4 rfl (rb0 (Nat.zero_le _)) ⟨rfl, rfl, rfl, rfl⟩
theorem c_init0 {G : GC} {E : SH} {iv : IV} {lv : LV} {a : Nat} : ExV G mX0_init 3 [.ref a] E iv lv iv lv := by
  refine spec0_of (lo := [_]) (by decide) (Nat.le_of_ble_eq_true rfl) rfl ?_
  refine aw_aload_n dX0_init_0 rfl ?_
  refine aw_callI [] dX0_init_1 ciX0_1 (c_init8 (a := a)) rfl rfl (Nat.le_of_ble_eq_true rfl) (rb0 (by decide)) (fun _ E2 _ _ q => by rw [q.1]; rfl) (fun r E2 iv2 lv2 hq => ?_)
  obtain ⟨rfl, rfl, rfl, rfl⟩ := hq
  exact aw_vret dX0_init_4 rfl (rb0 (Nat.zero_le _)) ⟨rfl, rfl, rfl, rfl⟩
theorem c_strip_w {G : GC} {E0 E : SH} {iv0 iv : IV} {lv0 lv : LV} {a z0 n : Nat} (hn : n ≤ 60) (h0 : z0 = a + 1) (hE : CS G E0 iv0 lv0 a [(0, 7, 0)] [] 1 Wz Lz E iv lv) : AW G mX7_init (rm 1 1) (ZM G (rm 1 1) (fun r E2 iv2 lv2 => r = none ∧ CS G E0 iv0 lv0 a [(0, 7, 0), (1, 20, n)] [(0, 0, 1)] 2 WSt Lz E2 iv2 lv2)) (fun _ => True) z0 0 [some (.ref a), some (.int (nI n))] [] E iv lv := by
  refine aw_aload_n dX7_init_0 rfl ?_
  refine aw_oinit dX7_init_1 oiX7_1 oi_i oi_c (Nat.le_of_ble_eq_true rfl) (rbA (D := 1) (d := 1) (mc := 1) (m := 0) (k := 1) (by decide) hE.1 h0 (by decide) (by decide)) ?_
  refine aw_aload_n dX7_init_4 rfl ?_
  refine aw_iconst (v := (-1)) dX7_init_5 kc_m1 ?_
  refine aw_putI dX7_init_6 fpX7_7 rfl (CS.s hE (0, 7, 0) (by simp)) ?_
  replace hE := CS_putIm (x := a) (i := 0) (sl := 1) hE rfl (by decide)
  generalize va_up iv a (upd (iv a) 1 (-1)) = iv at hE ⊢
  refine aw_aload_n dX7_init_9 rfl ?_
  refine aw_iconst (v := nI 0) dX7_init_10 kc_0 ?_
  refine aw_iload_n dX7_init_11 rfl ?_
  refine aw_mmax dX7_init_12 mjX7_13 st_max in_java_lang_Math cdJ9_max_7cf53 (Nat.le_of_ble_eq_true rfl) (rbA (D := 1) (d := 1) (mc := 1) (m := 0) (k := 1) (by decide) hE.1 h0 (by decide) (by decide)) ?_
  rw [show (if nI 0 < nI n then nI n else nI 0) = nI n by
    by_cases q : nI 0 < nI n
    · exact if_pos q
    · rw [nI_ltI (by decide) (by omega)] at q
      rw [show n = 0 by omega]
      exact if_neg (by decide)]
  refine aw_newi (n := n) (e := a + 1) dX7_init_15 hE.1 ac_int (by omega) (rbA (D := 1) (d := 0) (mc := 1) (m := 1) (k := 1) (by decide) hE.1 h0 (by decide) (by decide)) ?_
  replace hE := CS_mk (t := 20) (n := n) hE (by decide) (fun _ => rfl)
  generalize mkE E (a + 1) 20 n = E at hE ⊢
  generalize va_up iv (a + 1) (fun _ => 0) = iv at hE ⊢
  generalize va_up lv (a + 1) (fun _ => 0) = lv at hE ⊢
  refine aw_putR dX7_init_17 fpX7_19 (fun _ => rfl) rfl (CS.s hE (0, 7, 0) (by simp)) ?_
  replace hE := CS_setR (x := a) (y := a + 1) (i := 0) (sl := 0) (j := 1) hE rfl rfl (by decide) (by decide +kernel)
  generalize setR E a 0 (a + 1) = E at hE ⊢
  exact aw_vret dX7_init_20 rfl (rbA (D := 1) (d := 0) (mc := 1) (m := 0) (k := 2) (by decide) hE.1 h0 (by decide) (by decide)) ⟨rfl, hE⟩
theorem c_strip {G : GC} {E : SH} {iv : IV} {lv : LV} {a n : Nat} (h : CS G E iv lv a [(0, 7, 0)] [] 1 Wz Lz E iv lv) (hn : n ≤ 60) : Spec G mX7_init 1 1 [.ref a, .int (nI n)] E iv lv (fun r E2 iv2 lv2 => r = none ∧ CS G E iv lv a [(0, 7, 0), (1, 20, n)] [(0, 0, 1)] 2 WSt Lz E2 iv2 lv2) := by
  have h0 : E.1 = a + 1 := h.1
  refine spec_of (lo := [_,_]) (by decide) (Nat.le_of_ble_eq_true rfl) rfl ?_
  have hE := h
  clear h
  exact c_strip_w hn h0 hE
theorem c_read_w {G : GC} {E0 E : SH} {iv0 iv : IV} {lv0 lv : LV} {a z0 : Nat} (h0 : z0 = a + 1) (hE : CS G E0 iv0 lv0 a [(0, 5, 0)] [] 1 Wz Lz E iv lv) : AW G mX5_init (rm 1 1) (ZM G (rm 1 1) (fun r E2 iv2 lv2 => r = none ∧ CS G E0 iv0 lv0 a [(0, 5, 0), (1, 20, 40)] [(0, 0, 1)] 2 Wz Lz E2 iv2 lv2)) (fun _ => True) z0 0 [some (.ref a)] [] E iv lv := by
  refine aw_aload_n dX5_init_0 rfl ?_
  refine aw_oinit dX5_init_1 oiX5_3 oi_i oi_c (Nat.le_of_ble_eq_true rfl) (rbA (D := 1) (d := 1) (mc := 1) (m := 0) (k := 1) (by decide) hE.1 h0 (by decide) (by decide)) ?_
  refine aw_aload_n dX5_init_4 rfl ?_
  refine aw_bipush (v := nI 40) dX5_init_5 kb_40 ?_
  refine aw_newi (n := 40) (e := a + 1) dX5_init_7 hE.1 ac_int (by decide) (rbA (D := 1) (d := 0) (mc := 1) (m := 1) (k := 1) (by decide) hE.1 h0 (by decide) (by decide)) ?_
  replace hE := CS_mk (t := 20) (n := 40) hE (by decide) wz_f
  generalize mkE E (a + 1) 20 40 = E at hE ⊢
  generalize va_up iv (a + 1) (fun _ => 0) = iv at hE ⊢
  generalize va_up lv (a + 1) (fun _ => 0) = lv at hE ⊢
  refine aw_putR dX5_init_9 fpX5_9 (fun _ => rfl) rfl (CS.s hE (0, 5, 0) (by decide +kernel)) ?_
  replace hE := CS_setR (x := a) (y := a + 1) (i := 0) (sl := 0) (j := 1) hE rfl rfl (by decide) (by decide +kernel)
  generalize setR E a 0 (a + 1) = E at hE ⊢
  exact aw_vret dX5_init_12 rfl (rbA (D := 1) (d := 0) (mc := 1) (m := 0) (k := 2) (by decide) hE.1 h0 (by decide) (by decide)) ⟨rfl, hE⟩
theorem c_read {G : GC} {E : SH} {iv : IV} {lv : LV} {a : Nat} (h : CS G E iv lv a [(0, 5, 0)] [] 1 Wz Lz E iv lv) : Spec G mX5_init 1 1 [.ref a] E iv lv (fun r E2 iv2 lv2 => r = none ∧ CS G E iv lv a [(0, 5, 0), (1, 20, 40)] [(0, 0, 1)] 2 Wz Lz E2 iv2 lv2) := by
  have h0 : E.1 = a + 1 := h.1
  refine spec_of (lo := [_]) (by decide) (Nat.le_of_ble_eq_true rfl) rfl ?_
  have hE := h
  clear h
  exact c_read_w h0 hE
