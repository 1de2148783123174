def q_seenAs (k : Nat) : MI := match k with
  | 0 => mX2_seenAs
  | 1 => mX2_seenAs
  | 2 => mX2_seenAs
  | 3 => mX6_seenAs
  | 4 => mX2_seenAs
  | _ => mX2_seenAs
theorem cuX10_162 : ∀ k, k < 6 → CU RX10 162 (sbt k) yX2_seenAs (q_seenAs k) 1
  | 0, _ => cuX10_162_2
  | 1, _ => cuX10_162_1
  | 2, _ => cuX10_162_8
  | 3, _ => cuX10_162_6
  | 4, _ => cuX10_162_4
  | 5, _ => cuX10_162_0
  | k + 6, h => absurd h (by omega)
theorem cuX9_144 : ∀ k, k < 6 → CU RX9 144 (sbt k) yX2_seenAs (q_seenAs k) 1
  | 0, _ => cuX9_144_2
  | 1, _ => cuX9_144_1
  | 2, _ => cuX9_144_8
  | 3, _ => cuX9_144_6
  | 4, _ => cuX9_144_4
  | 5, _ => cuX9_144_0
  | k + 6, h => absurd h (by omega)
def q_forgivesAll (k : Nat) : MI := match k with
  | 0 => mX2_forgivesAll
  | 1 => mX2_forgivesAll
  | 2 => mX2_forgivesAll
  | 3 => mX2_forgivesAll
  | 4 => mX4_forgivesAll
  | _ => mX2_forgivesAll
theorem cuX9_137 : ∀ k, k < 6 → CU RX9 137 (sbt k) yX2_forgivesAll (q_forgivesAll k) 0
  | 0, _ => cuX9_137_2
  | 1, _ => cuX9_137_1
  | 2, _ => cuX9_137_8
  | 3, _ => cuX9_137_6
  | 4, _ => cuX9_137_4
  | 5, _ => cuX9_137_0
  | k + 6, h => absurd h (by omega)
def q_forgiveness (k : Nat) : MI := match k with
  | 0 => mX2_forgiveness
  | 1 => mX1_forgiveness
  | 2 => mX8_forgiveness
  | 3 => mX2_forgiveness
  | 4 => mX1_forgiveness
  | _ => mX8_forgiveness
theorem cuX10_154 : ∀ k, k < 6 → CU RX10 154 (sbt k) yX2_forgiveness (q_forgiveness k) 1
  | 0, _ => cuX10_154_2
  | 1, _ => cuX10_154_1
  | 2, _ => cuX10_154_8
  | 3, _ => cuX10_154_6
  | 4, _ => cuX10_154_4
  | 5, _ => cuX10_154_0
  | k + 6, h => absurd h (by omega)
theorem cuX2_9 : ∀ k, k < 6 → CU RX2 9 (sbt k) yX2_forgiveness (q_forgiveness k) 1
  | 0, _ => cuX2_9_2
  | 1, _ => cuX2_9_1
  | 2, _ => cuX2_9_8
  | 3, _ => cuX2_9_6
  | 4, _ => cuX2_9_4
  | 5, _ => cuX2_9_0
  | k + 6, h => absurd h (by omega)
def q_anger (k : Nat) : MI := match k with
  | 0 => mX2_anger
  | 1 => mX2_anger
  | 2 => mX2_anger
  | 3 => mX2_anger
  | 4 => mX2_anger
  | _ => mX0_anger
theorem cuX2_21 : ∀ k, k < 6 → CU RX2 21 (sbt k) yX2_anger (q_anger k) 0
  | 0, _ => cuX2_21_2
  | 1, _ => cuX2_21_1
  | 2, _ => cuX2_21_8
  | 3, _ => cuX2_21_6
  | 4, _ => cuX2_21_4
  | 5, _ => cuX2_21_0
  | k + 6, h => absurd h (by omega)
def q_grudgeBehind (k : Nat) : MI := match k with
  | 0 => mX2_grudgeBehind
  | 1 => mX2_grudgeBehind
  | 2 => mX2_grudgeBehind
  | 3 => mX2_grudgeBehind
  | 4 => mX2_grudgeBehind
  | _ => mX2_grudgeBehind
theorem cuX3_67 : ∀ k, k < 6 → CU RX3 67 (sbt k) yX2_grudgeBehind (q_grudgeBehind k) 3
  | 0, _ => cuX3_67_2
  | 1, _ => cuX3_67_1
  | 2, _ => cuX3_67_8
  | 3, _ => cuX3_67_6
  | 4, _ => cuX3_67_4
  | 5, _ => cuX3_67_0
  | k + 6, h => absurd h (by omega)
theorem cuX9_129 : ∀ k, k < 6 → CU RX9 129 (sbt k) yX2_grudgeBehind (q_grudgeBehind k) 3
  | 0, _ => cuX9_129_2
  | 1, _ => cuX9_129_1
  | 2, _ => cuX9_129_8
  | 3, _ => cuX9_129_6
  | 4, _ => cuX9_129_4
  | 5, _ => cuX9_129_0
  | k + 6, h => absurd h (by omega)
theorem e_X2_seenAs {G : GC} {E : SH} {iv : IV} {lv : LV} {b : Nat} {h : Nat} : ExI G mX2_seenAs 1 [.ref b, .int (nI h)] E iv lv (nI h) iv lv := by
  refine spec0_of (lo := [_,_]) (by decide) (Nat.le_of_ble_eq_true rfl) rfl ?_
  refine aw_iload_n dX2_seenAs_0 rfl ?_
  refine aw_iret dX2_seenAs_1 rfl (rb0 (Nat.zero_le _)) ⟨rfl, _, rfl, rfl, rfl, rfl⟩
theorem e_X6_seenAs {G : GC} {E : SH} {iv : IV} {lv : LV} {b : Nat} {h : Nat} (hh : h ≤ 9) : ExI G mX6_seenAs 1 [.ref b, .int (nI h)] E iv lv (nI (h - 2)) iv lv := by
  refine spec0_of (lo := [_,_]) (by decide) (Nat.le_of_ble_eq_true rfl) rfl ?_
  refine aw_iload_n dX6_seenAs_0 rfl ?_
  refine aw_iconst (v := nI 2) dX6_seenAs_1 kc_2 ?_
  refine aw_icmp_le (tgt := 11) dX6_seenAs_2 rfl (fun h2 => ?_) (fun h2 => ?_)
  · refine aw_iconst (v := nI 0) dX6_seenAs_11 kc_0 ?_
    refine aw_iret dX6_seenAs_12 rfl (rb0 (Nat.zero_le _)) ⟨rfl, _, rfl, ?_, rfl, rfl⟩
    rw [nI_leI (by omega) (by omega)] at h2
    first | (rw [pk_sub (by omega)]; done) | (rw [show h - 2 = 0 by omega]; done)
  · refine aw_iload_n dX6_seenAs_5 rfl ?_
    refine aw_iconst (v := nI 2) dX6_seenAs_6 kc_2 ?_
    refine aw_isub dX6_seenAs_7 ?_
    refine aw_goto (tgt := 12) dX6_seenAs_8 rfl ?_
    refine aw_iret dX6_seenAs_12 rfl (rb0 (Nat.zero_le _)) ⟨rfl, _, rfl, ?_, rfl, rfl⟩
    rw [nI_leI (by omega) (by omega)] at h2
    first | (rw [pk_sub (by omega)]; done) | (rw [show h - 2 = 0 by omega]; done)
theorem e_seenAs {G : GC} {E : SH} {iv : IV} {lv : LV} {b : Nat} {h : Nat} (hh : h ≤ 9) : ∀ k, k < 6 → ExI G (q_seenAs k) 1 [.ref b, .int (nI h)] E iv lv (nI (seenN k h)) iv lv := by
  intro k hk
  match k, hk with
  | 0, _ => exact e_X2_seenAs
  | 1, _ => exact e_X2_seenAs
  | 2, _ => exact e_X2_seenAs
  | 3, _ => exact e_X6_seenAs hh
  | 4, _ => exact e_X2_seenAs
  | 5, _ => exact e_X2_seenAs
theorem e_X2_forgivesAll {G : GC} {E : SH} {iv : IV} {lv : LV} {b : Nat} : ExI G mX2_forgivesAll 1 [.ref b] E iv lv (nI 0) iv lv := by
  refine spec0_of (lo := [_]) (by decide) (Nat.le_of_ble_eq_true rfl) rfl ?_
  refine aw_iconst (v := nI 0) dX2_forgivesAll_0 kc_0 ?_
  refine aw_zret dX2_forgivesAll_1 rfl rfl (rb0 (Nat.zero_le _)) ⟨rfl, _, rfl, rfl, rfl, rfl⟩
theorem e_X4_forgivesAll {G : GC} {E : SH} {iv : IV} {lv : LV} {b : Nat} : ExI G mX4_forgivesAll 1 [.ref b] E iv lv (nI 1) iv lv := by
  refine spec0_of (lo := [_]) (by decide) (Nat.le_of_ble_eq_true rfl) rfl ?_
  refine aw_iconst (v := nI 1) dX4_forgivesAll_0 kc_1 ?_
  refine aw_zret dX4_forgivesAll_1 rfl rfl (rb0 (Nat.zero_le _)) ⟨rfl, _, rfl, rfl, rfl, rfl⟩
theorem e_X2_anger {G : GC} {E : SH} {iv : IV} {lv : LV} {b : Nat} : ExI G mX2_anger 1 [.ref b] E iv lv (nI 1) iv lv := by
  refine spec0_of (lo := [_]) (by decide) (Nat.le_of_ble_eq_true rfl) rfl ?_
  refine aw_iconst (v := nI 1) dX2_anger_0 kc_1 ?_
  refine aw_iret dX2_anger_1 rfl (rb0 (Nat.zero_le _)) ⟨rfl, _, rfl, rfl, rfl, rfl⟩
theorem e_X0_anger {G : GC} {E : SH} {iv : IV} {lv : LV} {b : Nat} : ExI G mX0_anger 1 [.ref b] E iv lv (nI 0) iv lv := by
  refine spec0_of (lo := [_]) (by decide) (Nat.le_of_ble_eq_true rfl) rfl ?_
  refine aw_iconst (v := nI 0) dX0_anger_0 kc_0 ?_
  refine aw_iret dX0_anger_1 rfl (rb0 (Nat.zero_le _)) ⟨rfl, _, rfl, rfl, rfl, rfl⟩
theorem e_forgivesAll {G : GC} {E : SH} {iv : IV} {lv : LV} {b : Nat} : ∀ k, k < 6 → ExI G (q_forgivesAll k) 1 [.ref b] E iv lv (zI (k = 4)) iv lv := by
  intro k hk
  match k, hk with
  | 0, _ => exact e_X2_forgivesAll
  | 1, _ => exact e_X2_forgivesAll
  | 2, _ => exact e_X2_forgivesAll
  | 3, _ => exact e_X2_forgivesAll
  | 4, _ => exact e_X4_forgivesAll
  | 5, _ => exact e_X2_forgivesAll
theorem e_anger {G : GC} {E : SH} {iv : IV} {lv : LV} {b : Nat} : ∀ k, k < 6 → ExI G (q_anger k) 1 [.ref b] E iv lv (nI (if k = 5 then 0 else 1)) iv lv := by
  intro k hk
  match k, hk with
  | 0, _ => exact e_X2_anger
  | 1, _ => exact e_X2_anger
  | 2, _ => exact e_X2_anger
  | 3, _ => exact e_X2_anger
  | 4, _ => exact e_X2_anger
  | 5, _ => exact e_X0_anger
theorem e_X2_forgiveness {G : GC} {E : SH} {iv : IV} {lv : LV} {b : Nat} {d : Nat} : ExI G mX2_forgiveness 1 [.ref b, .int (nI d)] E iv lv (nI 1) iv lv := by
  refine spec0_of (lo := [_,_]) (by decide) (Nat.le_of_ble_eq_true rfl) rfl ?_
  refine aw_iconst (v := nI 1) dX2_forgiveness_0 kc_1 ?_
  refine aw_iret dX2_forgiveness_1 rfl (rb0 (Nat.zero_le _)) ⟨rfl, _, rfl, rfl, rfl, rfl⟩
theorem e_X1_forgiveness {G : GC} {E : SH} {iv : IV} {lv : LV} {b : Nat} {d : Nat} : ExI G mX1_forgiveness 1 [.ref b, .int (nI d)] E iv lv (nI 2) iv lv := by
  refine spec0_of (lo := [_,_]) (by decide) (Nat.le_of_ble_eq_true rfl) rfl ?_
  refine aw_iconst (v := nI 2) dX1_forgiveness_0 kc_2 ?_
  refine aw_iret dX1_forgiveness_1 rfl (rb0 (Nat.zero_le _)) ⟨rfl, _, rfl, rfl, rfl, rfl⟩
theorem e_X8_forgiveness {G : GC} {E : SH} {iv : IV} {lv : LV} {b : Nat} {d : Nat} (hd : d < 2 ^ 20) : ExI G mX8_forgiveness 1 [.ref b, .int (nI d)] E iv lv (nI (1 - d % 2)) iv lv := by
  refine spec0_of (lo := [_,_]) (by decide) (Nat.le_of_ble_eq_true rfl) rfl ?_
  refine aw_iload_n dX8_forgiveness_0 rfl ?_
  refine aw_iconst (v := nI 2) dX8_forgiveness_1 kc_2 ?_
  refine aw_irem dX8_forgiveness_2 (by decide) ?_
  rw [pk_rem (by omega) (by decide) (by decide)]
  refine aw_if_ne (tgt := 10) dX8_forgiveness_3 rfl (fun h3 => ?_) (fun h3 => ?_)
  · refine aw_iconst (v := nI 0) dX8_forgiveness_10 kc_0 ?_
    refine aw_iret dX8_forgiveness_11 rfl (rb0 (Nat.zero_le _)) ⟨rfl, _, rfl, ?_, rfl, rfl⟩
    rw [← nI_0, nI_eq (by omega) (by omega)] at h3
    first | (rw [show 1 - d % 2 = 1 by omega]; done) | (rw [show 1 - d % 2 = 0 by omega]; done)
  · refine aw_iconst (v := nI 1) dX8_forgiveness_6 kc_1 ?_
    refine aw_goto (tgt := 11) dX8_forgiveness_7 rfl ?_
    refine aw_iret dX8_forgiveness_11 rfl (rb0 (Nat.zero_le _)) ⟨rfl, _, rfl, ?_, rfl, rfl⟩
    rw [← nI_0, nI_eq (by omega) (by omega)] at h3
    first | (rw [show 1 - d % 2 = 1 by omega]; done) | (rw [show 1 - d % 2 = 0 by omega]; done)
theorem e_forgiveness {G : GC} {E : SH} {iv : IV} {lv : LV} {b : Nat} {d : Nat} (hd : d < 2 ^ 20) : ∀ k, k < 6 → ExI G (q_forgiveness k) 1 [.ref b, .int (nI d)] E iv lv (nI (less k d)) iv lv := by
  intro k hk
  match k, hk with
  | 0, _ => exact e_X2_forgiveness
  | 1, _ => exact e_X1_forgiveness
  | 2, _ => exact e_X8_forgiveness hd
  | 3, _ => exact e_X2_forgiveness
  | 4, _ => exact e_X1_forgiveness
  | 5, _ => exact e_X8_forgiveness hd
theorem mmax_n {x y : Nat} (hx : x < 2 ^ 31) (hy : y < 2 ^ 31) : (if nI x < nI y then nI y else nI x) = nI (max x y) := by
  by_cases h : x < y
  · rw [if_pos (nI_lt h hy), show max x y = y by omega]
  · rw [if_neg (nI_nlt (by omega) hx), show max x y = x by omega]
theorem mmin_n {x y : Nat} (hy : y < 2 ^ 31) (hx : x < 2 ^ 31) : (if nI y < nI x then nI y else nI x) = nI (min x y) := by
  by_cases h : y < x
  · rw [if_pos (nI_lt h hx), show min x y = y by omega]
  · rw [if_neg (nI_nlt (by omega) hy), show min x y = x by omega]
theorem e_X2_grudgeBehind {G : GC} {E : SH} {iv : IV} {lv : LV} {b : Nat} {k g m d : Nat} (hk : k < 6) (hb : Sh G E b (sbt k) 0) (hg : g ≤ 9) (hm : m ≤ 2) (hd : d < 2 ^ 20) : ExI G mX2_grudgeBehind 2 [.ref b, .int (nI g), .int (nI m), .int (nI d)] E iv lv (nI (gnew k g m d)) iv lv := by
  have h11 : less k d ≤ 2 := by unfold less; split <;> (try split) <;> omega
  refine spec0_of (lo := [_,_,_,_]) (by decide) (Nat.le_of_ble_eq_true rfl) rfl ?_
  refine aw_iload_n dX2_grudgeBehind_0 rfl ?_
  refine aw_iconst (v := nI 1) dX2_grudgeBehind_1 kc_1 ?_
  refine aw_icmp_ne (tgt := 17) dX2_grudgeBehind_2 rfl (fun h2 => ?_) (fun h2 => ?_)
  · rw [nI_eq (by omega) (by omega)] at h2
    refine aw_iload_n dX2_grudgeBehind_17 rfl ?_
    refine aw_iconst (v := nI 2) dX2_grudgeBehind_18 kc_2 ?_
    refine aw_icmp_ne (tgt := 34) dX2_grudgeBehind_19 rfl (fun h19 => ?_) (fun h19 => ?_)
    · rw [nI_eq (by omega) (by omega)] at h19
      refine aw_iload_n dX2_grudgeBehind_34 rfl ?_
      refine aw_iret dX2_grudgeBehind_35 rfl (rb0 (Nat.zero_le _)) ⟨rfl, _, rfl, ?_, rfl, rfl⟩
      unfold gnew
      first
        | (rw [if_neg h2, if_neg h19]; done)
        | (rw [if_pos h2]
           by_cases q : less k d ≤ g
           · rw [pk_sub q, mmax_n (by omega) (by omega), show max 0 (g - less k d) = g - less k d by omega]
           · rw [if_neg (Int32.not_lt.mpr (Int32.le_of_lt (Int32.lt_of_lt_of_le (pk_sneg (by omega) (by omega)) (by decide)))), show g - less k d = 0 by omega])
        | (rw [if_neg h2, if_pos h19, nI_add, mmin_n (by split <;> omega) (by omega)]
           split <;> split <;> congr 1 <;> omega)
    · rw [nI_eq (by omega) (by omega)] at h19
      refine aw_bipush (v := nI 9) dX2_grudgeBehind_22 kb_9 ?_
      refine aw_iload_n dX2_grudgeBehind_24 rfl ?_
      refine aw_aload_n dX2_grudgeBehind_25 rfl ?_
      refine aw_xUi [] dX2_grudgeBehind_26 (cuX2_21 k hk) hb (e_anger k hk) rfl rfl (Nat.le_of_ble_eq_true rfl) (rb0 (by decide)) ?_
      refine aw_iadd dX2_grudgeBehind_29 ?_
      refine aw_mmin dX2_grudgeBehind_30 mjX2_25 st_min in_java_lang_Math cdJ9_min_7cf53 (Nat.le_of_ble_eq_true rfl) (rb0 (by decide)) ?_
      refine aw_iret dX2_grudgeBehind_33 rfl (rb0 (Nat.zero_le _)) ⟨rfl, _, rfl, ?_, rfl, rfl⟩
      unfold gnew
      first
        | (rw [if_neg h2, if_neg h19]; done)
        | (rw [if_pos h2]
           by_cases q : less k d ≤ g
           · rw [pk_sub q, mmax_n (by omega) (by omega), show max 0 (g - less k d) = g - less k d by omega]
           · rw [if_neg (Int32.not_lt.mpr (Int32.le_of_lt (Int32.lt_of_lt_of_le (pk_sneg (by omega) (by omega)) (by decide)))), show g - less k d = 0 by omega])
        | (rw [if_neg h2, if_pos h19, nI_add, mmin_n (by split <;> omega) (by omega)]
           split <;> split <;> congr 1 <;> omega)
  · rw [nI_eq (by omega) (by omega)] at h2
    refine aw_iconst (v := nI 0) dX2_grudgeBehind_5 kc_0 ?_
    refine aw_iload_n dX2_grudgeBehind_6 rfl ?_
    refine aw_aload_n dX2_grudgeBehind_7 rfl ?_
    refine aw_iload_n dX2_grudgeBehind_8 rfl ?_
    refine aw_xUi [_] dX2_grudgeBehind_9 (cuX2_9 k hk) hb (e_forgiveness hd k hk) rfl rfl (Nat.le_of_ble_eq_true rfl) (rb0 (by decide)) ?_
    refine aw_isub dX2_grudgeBehind_12 ?_
    refine aw_mmax dX2_grudgeBehind_13 mjX2_15 st_max in_java_lang_Math cdJ9_max_7cf53 (Nat.le_of_ble_eq_true rfl) (rb0 (by decide)) ?_
    refine aw_iret dX2_grudgeBehind_16 rfl (rb0 (Nat.zero_le _)) ⟨rfl, _, rfl, ?_, rfl, rfl⟩
    unfold gnew
    first
      | (rw [if_neg h2, if_neg h19]; done)
      | (rw [if_pos h2]
         by_cases q : less k d ≤ g
         · rw [pk_sub q, mmax_n (by omega) (by omega), show max 0 (g - less k d) = g - less k d by omega]
         · rw [if_neg (Int32.not_lt.mpr (Int32.le_of_lt (Int32.lt_of_lt_of_le (pk_sneg (by omega) (by omega)) (by decide)))), show g - less k d = 0 by omega])
      | (rw [if_neg h2, if_pos h19, nI_add, mmin_n (by split <;> omega) (by omega)]
         split <;> split <;> congr 1 <;> omega)
theorem e_grudgeBehind {G : GC} {E : SH} {iv : IV} {lv : LV} {b : Nat} {k g m d : Nat} (hk : k < 6) (hb : Sh G E b (sbt k) 0) (hg : g ≤ 9) (hm : m ≤ 2) (hd : d < 2 ^ 20) : ExI G (q_grudgeBehind k) 2 [.ref b, .int (nI g), .int (nI m), .int (nI d)] E iv lv (nI (gnew k g m d)) iv lv := by
  have h := e_X2_grudgeBehind (iv := iv) (lv := lv) hk hb hg hm hd
  match k, hk, h with
  | 0, _, h => exact h
  | 1, _, h => exact h
  | 2, _, h => exact h
  | 3, _, h => exact h
  | 4, _, h => exact h
  | 5, _, h => exact h
theorem t_sortOf {G : GC} {E : SH} {iv : IV} {lv : LV} {T : Nat} {s : TS} {v : TV} (hT : TownS G E T) (hs : WS s) (hr : TR T s v iv) {i : Nat} (hi : i < s.1) : ExR G mX9_sortOf 1 [.ref T, .int (nI i)] E iv lv (T + (2 + s.2.1 i)) iv lv := by
  have h7 := hs.1
  refine spec0_of (lo := [_,_]) (by decide) (Nat.le_of_ble_eq_true rfl) rfl ?_
  refine aw_aload_n dX9_sortOf_0 rfl ?_
  refine aw_getR dX9_sortOf_1 fgX9_39 rfl (TownS.s0 hT) (TownS.r0_3 hT) ?_
  refine aw_aload_n dX9_sortOf_4 rfl ?_
  refine aw_getR dX9_sortOf_5 fgX9_43 rfl (TownS.s0 hT) (TownS.r0_4 hT) ?_
  refine aw_iload_n dX9_sortOf_8 rfl ?_
  refine aw_iaload dX9_sortOf_9 (TownS.s8 hT) rfl (by omega) ?_
  rw [(hr.2.2.1 i hi).1]
  refine aw_aaload dX9_sortOf_10 (TownS.s1 hT) ⟨by decide, by decide⟩ rfl (hs.2 i hi).1 (TownS.sort hT (hs.2 i hi).1).2 ?_
  refine aw_aret dX9_sortOf_11 rfl (rb0 (Nat.zero_le _)) ⟨rfl, _, rfl, rfl, rfl, rfl⟩
theorem t_isHid {G : GC} {E : SH} {iv : IV} {lv : LV} {T : Nat} {s : TS} {v : TV} (hT : TownS G E T) (hs : WS s) (hr : TR T s v iv) (hw : WV s v) {i : Nat} (hi : i < s.1) : ExI G mX9_isHid 2 [.ref T, .int (nI i)] E iv lv (zI (hid s v i)) iv lv := by
  have h7 := hs.1
  have h8 := hs.2 i hi
  have h9 := hw.1 i hi
  have h10 := hw.2.1 (v (13 + i)) (by omega)
  have h11 : seenN (s.2.1 i) (s.2.2.1 i) ≤ 9 := by unfold seenN; split <;> omega
  refine spec0_of (lo := [_,_]) (by decide) (Nat.le_of_ble_eq_true rfl) rfl ?_
  refine aw_aload_n dX9_isHid_0 rfl ?_
  refine aw_iload_n dX9_isHid_1 rfl ?_
  refine aw_xVr [_] dX9_isHid_2 cvX9_121 (TownS.s0 hT) (t_sortOf hT hs hr hi) rfl rfl (Nat.le_of_ble_eq_true rfl) (rb0 (by decide)) ?_
  refine aw_aload_n dX9_isHid_5 rfl ?_
  refine aw_getR dX9_isHid_6 fgX9_47 rfl (TownS.s0 hT) (TownS.r0_5 hT) ?_
  refine aw_iload_n dX9_isHid_9 rfl ?_
  refine aw_iaload dX9_isHid_10 (TownS.s9 hT) rfl (by omega) ?_
  rw [(hr.2.2.1 i hi).2.1]
  refine aw_xUi [_] dX9_isHid_11 (cuX9_144 _ h8.1) (TownS.sort hT (hs.2 i hi).1).1 (e_seenAs h8.2.1 _ h8.1) rfl rfl (Nat.le_of_ble_eq_true rfl) (rb0 (by decide)) ?_
  refine aw_aload_n dX9_isHid_14 rfl ?_
  refine aw_getR dX9_isHid_15 fgX9_59 rfl (TownS.s0 hT) (TownS.r0_9 hT) ?_
  refine aw_aload_n dX9_isHid_18 rfl ?_
  refine aw_getR dX9_isHid_19 fgX9_56 rfl (TownS.s0 hT) (TownS.r0_8 hT) ?_
  refine aw_iload_n dX9_isHid_22 rfl ?_
  refine aw_iaload dX9_isHid_23 (TownS.s12 hT) rfl (by omega) ?_
  rw [(hr.2.2.1 i hi).2.2.2.2]
  refine aw_iaload dX9_isHid_24 (TownS.s13 hT) rfl (by omega) ?_
  rw [hr.2.2.2 (v (13 + i)) (by omega)]
  refine aw_icmp_gt (tgt := 32) dX9_isHid_25 rfl (fun h25 => ?_) (fun h25 => ?_)
  · refine aw_iconst (v := nI 0) dX9_isHid_32 kc_0 ?_
    refine aw_zret dX9_isHid_33 rfl rfl (rb0 (Nat.zero_le _)) ⟨rfl, _, rfl, ?_, rfl, rfl⟩
    rw [nI_ltI (by omega) (by omega)] at h25
    rw [eq_comm]
    first | exact zI_f (by unfold hid; omega) | exact zI_t (by unfold hid; omega)
  · refine aw_iconst (v := nI 1) dX9_isHid_28 kc_1 ?_
    refine aw_goto (tgt := 33) dX9_isHid_29 rfl ?_
    refine aw_zret dX9_isHid_33 rfl rfl (rb0 (Nat.zero_le _)) ⟨rfl, _, rfl, ?_, rfl, rfl⟩
    rw [nI_ltI (by omega) (by omega)] at h25
    rw [eq_comm]
    first | exact zI_f (by unfold hid; omega) | exact zI_t (by unfold hid; omega)
theorem lt_meetsFoe {G : GC} {E : SH} {iv : IV} {lv : LV} {T : Nat} {s : TS} {v : TV} (hT : TownS G E T) (hs : WS s) (hr : TR T s v iv) (hw : WV s v) {i : Nat} (hi : i < s.1) (hne : s.2.2.2 i ≠ i) (hst : v (13 + s.2.2.2 i) = v (13 + i)) : ∀ (c q : Nat), q + c = s.1 → AW G mX9_meetsFoe (rm 1 0) (Z0 G 1 E (fun r i0 l => ∃ w, r = some (.int w) ∧ w = zI (metB s v i = true) ∧ i0 = iv ∧ l = lv)) (fun _ => True) E.1 37 [some (.ref T), some (.int (nI i)), some (.int (nI (s.2.2.2 i))), some (.int (zI (anyU (pbt s v i) q = true))), some (.int (zI (anyU (pou s v i) q = true))), some (.int (nI q))] [] E iv lv := by
  have h7 := hs.1
  have h8 := hs.2 i hi
  have h9 := hw.1 i hi
  intro c
  induction c with
  | zero =>
    intro q hq
    have hq : q = s.1 := by omega
    subst hq
    refine aw_iload dX9_meetsFoe_37 rfl ?_
    refine aw_aload_n dX9_meetsFoe_39 rfl ?_
    refine aw_getI dX9_meetsFoe_40 fgX9_9 rfl (TownS.s0 hT) ?_
    refine aw_icmp_ge (tgt := 108) dX9_meetsFoe_43 rfl (fun h43 => ?_) (fun h43 => absurd (by rw [hr.1]; exact nI_le (Nat.le_refl _) (by omega)) h43)
    refine aw_iload_n dX9_meetsFoe_108 rfl ?_
    refine aw_if_eq (tgt := 117) dX9_meetsFoe_109 rfl (fun h109 => ?_) (fun h109 => ?_)
    · refine aw_iconst (v := nI 1) dX9_meetsFoe_117 kc_1 ?_
      refine aw_goto (tgt := 122) dX9_meetsFoe_118 rfl ?_
      refine aw_zret dX9_meetsFoe_122 rfl rfl (rb0 (Nat.zero_le _)) ⟨rfl, _, rfl, ?_, rfl, rfl⟩
      rw [eq_comm]
      unfold metB
      rw [decide_eq_true hne, decide_eq_true hst]
      first
        | exact zI_t (by rw [show anyU (pbt s v i) s.1 = false by simpa using zI_0.mp h109]; rfl)
        | exact zI_t (by rw [show anyU (pou s v i) s.1 = false by simpa using zI_0.mp h114]; simp)
        | exact zI_f (by rw [zI_n0.mp h109, zI_n0.mp h114]; decide)
    · refine aw_iload dX9_meetsFoe_112 rfl ?_
      refine aw_if_ne (tgt := 121) dX9_meetsFoe_114 rfl (fun h114 => ?_) (fun h114 => ?_)
      · refine aw_iconst (v := nI 0) dX9_meetsFoe_121 kc_0 ?_
        refine aw_zret dX9_meetsFoe_122 rfl rfl (rb0 (Nat.zero_le _)) ⟨rfl, _, rfl, ?_, rfl, rfl⟩
        rw [eq_comm]
        unfold metB
        rw [decide_eq_true hne, decide_eq_true hst]
        first
          | exact zI_t (by rw [show anyU (pbt s v i) s.1 = false by simpa using zI_0.mp h109]; rfl)
          | exact zI_t (by rw [show anyU (pou s v i) s.1 = false by simpa using zI_0.mp h114]; simp)
          | exact zI_f (by rw [zI_n0.mp h109, zI_n0.mp h114]; decide)
      · refine aw_iconst (v := nI 1) dX9_meetsFoe_117 kc_1 ?_
        refine aw_goto (tgt := 122) dX9_meetsFoe_118 rfl ?_
        refine aw_zret dX9_meetsFoe_122 rfl rfl (rb0 (Nat.zero_le _)) ⟨rfl, _, rfl, ?_, rfl, rfl⟩
        rw [eq_comm]
        unfold metB
        rw [decide_eq_true hne, decide_eq_true hst]
        first
          | exact zI_t (by rw [show anyU (pbt s v i) s.1 = false by simpa using zI_0.mp h109]; rfl)
          | exact zI_t (by rw [show anyU (pou s v i) s.1 = false by simpa using zI_0.mp h114]; simp)
          | exact zI_f (by rw [zI_n0.mp h109, zI_n0.mp h114]; decide)
  | succ c ih =>
    intro q hq
    have h10 := hw.1 q (by omega)
    refine aw_iload dX9_meetsFoe_37 rfl ?_
    refine aw_aload_n dX9_meetsFoe_39 rfl ?_
    refine aw_getI dX9_meetsFoe_40 fgX9_9 rfl (TownS.s0 hT) ?_
    refine aw_icmp_ge (tgt := 108) dX9_meetsFoe_43 rfl (fun h43 => absurd h43 (by rw [hr.1]; exact nI_ge (by omega) (by omega))) (fun h43 => ?_)
    refine aw_aload_n dX9_meetsFoe_46 rfl ?_
    refine aw_getR dX9_meetsFoe_47 fgX9_56 rfl (TownS.s0 hT) (TownS.r0_8 hT) ?_
    refine aw_iload dX9_meetsFoe_50 rfl ?_
    refine aw_iaload dX9_meetsFoe_52 (TownS.s12 hT) rfl (by omega) ?_
    rw [(hr.2.2.1 q (by omega)).2.2.2.2]
    refine aw_aload_n dX9_meetsFoe_53 rfl ?_
    refine aw_getR dX9_meetsFoe_54 fgX9_56 rfl (TownS.s0 hT) (TownS.r0_8 hT) ?_
    refine aw_iload_n dX9_meetsFoe_57 rfl ?_
    refine aw_iaload dX9_meetsFoe_58 (TownS.s12 hT) rfl (by omega) ?_
    rw [(hr.2.2.1 i hi).2.2.2.2]
    refine aw_icmp_ne (tgt := 102) dX9_meetsFoe_59 rfl (fun h59 => ?_) (fun h59 => ?_)
    · rw [nI_eq (by omega) (by omega)] at h59
      refine aw_iinc (v := _) (lo' := [_,_,_,_,_,_]) dX9_meetsFoe_102 rfl (nI_1 q) rfl ?_
      refine aw_goto (tgt := 37) dX9_meetsFoe_105 rfl ?_
      have h := ih (q + 1) (by omega)
      rw [anyU, anyU] at h
      first
        | (rw [show pbt s v i q = false from decide_eq_false (fun z => by omega), show pou s v i q = false from decide_eq_false (fun z => by omega), Bool.or_false, Bool.or_false] at h
           exact h)
        | (rw [show pbt s v i q = true from decide_eq_true (by omega), show pou s v i q = false from decide_eq_false (fun z => by omega), Bool.or_true, Bool.or_false] at h
           exact h)
        | (rw [show pbt s v i q = false from decide_eq_false (fun z => by omega), show pou s v i q = true from decide_eq_true (by omega), Bool.or_false, Bool.or_true] at h
           exact h)
    · rw [nI_eq (by omega) (by omega)] at h59
      refine aw_iload dX9_meetsFoe_62 rfl ?_
      refine aw_iload_n dX9_meetsFoe_64 rfl ?_
      refine aw_icmp_eq (tgt := 102) dX9_meetsFoe_65 rfl (fun h65 => ?_) (fun h65 => ?_)
      · rw [nI_eq (by omega) (by omega)] at h65
        refine aw_iinc (v := _) (lo' := [_,_,_,_,_,_]) dX9_meetsFoe_102 rfl (nI_1 q) rfl ?_
        refine aw_goto (tgt := 37) dX9_meetsFoe_105 rfl ?_
        have h := ih (q + 1) (by omega)
        rw [anyU, anyU] at h
        first
          | (rw [show pbt s v i q = false from decide_eq_false (fun z => by omega), show pou s v i q = false from decide_eq_false (fun z => by omega), Bool.or_false, Bool.or_false] at h
             exact h)
          | (rw [show pbt s v i q = true from decide_eq_true (by omega), show pou s v i q = false from decide_eq_false (fun z => by omega), Bool.or_true, Bool.or_false] at h
             exact h)
          | (rw [show pbt s v i q = false from decide_eq_false (fun z => by omega), show pou s v i q = true from decide_eq_true (by omega), Bool.or_false, Bool.or_true] at h
             exact h)
      · rw [nI_eq (by omega) (by omega)] at h65
        refine aw_iload dX9_meetsFoe_68 rfl ?_
        refine aw_iload_n dX9_meetsFoe_70 rfl ?_
        refine aw_icmp_eq (tgt := 102) dX9_meetsFoe_71 rfl (fun h71 => ?_) (fun h71 => ?_)
        · rw [nI_eq (by omega) (by omega)] at h71
          refine aw_iinc (v := _) (lo' := [_,_,_,_,_,_]) dX9_meetsFoe_102 rfl (nI_1 q) rfl ?_
          refine aw_goto (tgt := 37) dX9_meetsFoe_105 rfl ?_
          have h := ih (q + 1) (by omega)
          rw [anyU, anyU] at h
          first
            | (rw [show pbt s v i q = false from decide_eq_false (fun z => by omega), show pou s v i q = false from decide_eq_false (fun z => by omega), Bool.or_false, Bool.or_false] at h
               exact h)
            | (rw [show pbt s v i q = true from decide_eq_true (by omega), show pou s v i q = false from decide_eq_false (fun z => by omega), Bool.or_true, Bool.or_false] at h
               exact h)
            | (rw [show pbt s v i q = false from decide_eq_false (fun z => by omega), show pou s v i q = true from decide_eq_true (by omega), Bool.or_false, Bool.or_true] at h
               exact h)
        · rw [nI_eq (by omega) (by omega)] at h71
          refine aw_iload dX9_meetsFoe_74 rfl ?_
          refine aw_iload_n dX9_meetsFoe_76 rfl ?_
          refine aw_iload_n dX9_meetsFoe_77 rfl ?_
          refine aw_mmin dX9_meetsFoe_78 mjX9_86 st_min in_java_lang_Math cdJ9_min_7cf53 (Nat.le_of_ble_eq_true rfl) (rb0 (by decide)) ?_
          rw [mmin_n (by omega) (by omega)]
          refine aw_icmp_le (tgt := 99) dX9_meetsFoe_81 rfl (fun h81 => ?_) (fun h81 => ?_)
          · rw [nI_leI (by omega) (by omega)] at h81
            refine aw_iconst (v := nI 1) dX9_meetsFoe_99 kc_1 ?_
            refine aw_istore (lo' := [_,_,_,_,_,_]) dX9_meetsFoe_100 (Nat.le_of_ble_eq_true rfl) rfl ?_
            refine aw_iinc (v := _) (lo' := [_,_,_,_,_,_]) dX9_meetsFoe_102 rfl (nI_1 q) rfl ?_
            refine aw_goto (tgt := 37) dX9_meetsFoe_105 rfl ?_
            have h := ih (q + 1) (by omega)
            rw [anyU, anyU] at h
            first
              | (rw [show pbt s v i q = false from decide_eq_false (fun z => by omega), show pou s v i q = false from decide_eq_false (fun z => by omega), Bool.or_false, Bool.or_false] at h
                 exact h)
              | (rw [show pbt s v i q = true from decide_eq_true (by omega), show pou s v i q = false from decide_eq_false (fun z => by omega), Bool.or_true, Bool.or_false] at h
                 exact h)
              | (rw [show pbt s v i q = false from decide_eq_false (fun z => by omega), show pou s v i q = true from decide_eq_true (by omega), Bool.or_false, Bool.or_true] at h
                 exact h)
          · rw [nI_leI (by omega) (by omega)] at h81
            refine aw_iload dX9_meetsFoe_84 rfl ?_
            refine aw_iload_n dX9_meetsFoe_86 rfl ?_
            refine aw_iload_n dX9_meetsFoe_87 rfl ?_
            refine aw_mmax dX9_meetsFoe_88 mjX9_92 st_max in_java_lang_Math cdJ9_max_7cf53 (Nat.le_of_ble_eq_true rfl) (rb0 (by decide)) ?_
            rw [mmax_n (by omega) (by omega)]
            refine aw_icmp_ge (tgt := 99) dX9_meetsFoe_91 rfl (fun h91 => ?_) (fun h91 => ?_)
            · rw [nI_leI (by omega) (by omega)] at h91
              refine aw_iconst (v := nI 1) dX9_meetsFoe_99 kc_1 ?_
              refine aw_istore (lo' := [_,_,_,_,_,_]) dX9_meetsFoe_100 (Nat.le_of_ble_eq_true rfl) rfl ?_
              refine aw_iinc (v := _) (lo' := [_,_,_,_,_,_]) dX9_meetsFoe_102 rfl (nI_1 q) rfl ?_
              refine aw_goto (tgt := 37) dX9_meetsFoe_105 rfl ?_
              have h := ih (q + 1) (by omega)
              rw [anyU, anyU] at h
              first
                | (rw [show pbt s v i q = false from decide_eq_false (fun z => by omega), show pou s v i q = false from decide_eq_false (fun z => by omega), Bool.or_false, Bool.or_false] at h
                   exact h)
                | (rw [show pbt s v i q = true from decide_eq_true (by omega), show pou s v i q = false from decide_eq_false (fun z => by omega), Bool.or_true, Bool.or_false] at h
                   exact h)
                | (rw [show pbt s v i q = false from decide_eq_false (fun z => by omega), show pou s v i q = true from decide_eq_true (by omega), Bool.or_false, Bool.or_true] at h
                   exact h)
            · rw [nI_leI (by omega) (by omega)] at h91
              refine aw_iconst (v := nI 1) dX9_meetsFoe_94 kc_1 ?_
              refine aw_istore_n (lo' := [_,_,_,_,_,_]) dX9_meetsFoe_95 (Nat.le_of_ble_eq_true rfl) rfl ?_
              refine aw_goto (tgt := 102) dX9_meetsFoe_96 rfl ?_
              refine aw_iinc (v := _) (lo' := [_,_,_,_,_,_]) dX9_meetsFoe_102 rfl (nI_1 q) rfl ?_
              refine aw_goto (tgt := 37) dX9_meetsFoe_105 rfl ?_
              have h := ih (q + 1) (by omega)
              rw [anyU, anyU] at h
              first
                | (rw [show pbt s v i q = false from decide_eq_false (fun z => by omega), show pou s v i q = false from decide_eq_false (fun z => by omega), Bool.or_false, Bool.or_false] at h
                   exact h)
                | (rw [show pbt s v i q = true from decide_eq_true (by omega), show pou s v i q = false from decide_eq_false (fun z => by omega), Bool.or_true, Bool.or_false] at h
                   exact h)
                | (rw [show pbt s v i q = false from decide_eq_false (fun z => by omega), show pou s v i q = true from decide_eq_true (by omega), Bool.or_false, Bool.or_true] at h
                   exact h)
theorem foI_eq {s : TS} {i : Nat} (hb : s.2.2.2 i < 2 ^ 31) (h : foI s i = -1) : s.2.2.2 i = i := by
  unfold foI at h
  by_cases e : s.2.2.2 i = i
  · exact e
  · rw [if_neg e] at h
    have h1 : (nI (s.2.2.2 i)).toInt = -1 := by rw [h]; decide
    rw [nI_toInt hb] at h1
    omega
theorem foI_ne {s : TS} {i : Nat} (h : ¬ foI s i = -1) : s.2.2.2 i ≠ i ∧ foI s i = nI (s.2.2.2 i) := by
  unfold foI at h ⊢
  by_cases e : s.2.2.2 i = i
  · rw [if_pos e] at h
    exact absurd rfl h
  · rw [if_neg e]
    exact ⟨e, rfl⟩
theorem metB_ne {s : TS} {v : TV} {i : Nat} (h : metB s v i = true) : s.2.2.2 i ≠ i := (metB_iff.mp h).1
theorem foI_met {s : TS} {i : Nat} (h : s.2.2.2 i ≠ i) : foI s i = nI (s.2.2.2 i) := if_neg h
theorem t_meetsFoe {G : GC} {E : SH} {iv : IV} {lv : LV} {T : Nat} {s : TS} {v : TV} (hT : TownS G E T) (hs : WS s) (hr : TR T s v iv) (hw : WV s v) {i : Nat} (hi : i < s.1) : ExI G mX9_meetsFoe 1 [.ref T, .int (nI i)] E iv lv (zI (metB s v i = true)) iv lv := by
  have h7 := hs.1
  have h8 := hs.2 i hi
  have h9 := hw.1 i hi
  have h10 := hw.1 _ h8.2.2
  refine spec0_of (lo := [_,_,_,_,_,_]) (by decide) (Nat.le_of_ble_eq_true rfl) rfl ?_
  refine aw_aload_n dX9_meetsFoe_0 rfl ?_
  refine aw_getR dX9_meetsFoe_1 fgX9_50 rfl (TownS.s0 hT) (TownS.r0_6 hT) ?_
  refine aw_iload_n dX9_meetsFoe_4 rfl ?_
  refine aw_iaload dX9_meetsFoe_5 (TownS.s10 hT) rfl (by omega) ?_
  rw [(hr.2.2.1 i hi).2.2.1]
  refine aw_istore_n (lo' := [_,_,_,_,_,_]) dX9_meetsFoe_6 (Nat.le_of_ble_eq_true rfl) rfl ?_
  refine aw_iload_n dX9_meetsFoe_7 rfl ?_
  refine aw_iconst (v := (-1)) dX9_meetsFoe_8 kc_m1 ?_
  refine aw_icmp_eq (tgt := 27) dX9_meetsFoe_9 rfl (fun h9 => ?_) (fun h9 => ?_)
  · have hf := foI_eq (by omega) h9
    refine aw_iconst (v := nI 0) dX9_meetsFoe_27 kc_0 ?_
    refine aw_zret dX9_meetsFoe_28 rfl rfl (rb0 (Nat.zero_le _)) ⟨rfl, _, rfl, ?_, rfl, rfl⟩
    rw [eq_comm]
    unfold metB
    first
      | (refine zI_f ?_
         rw [decide_eq_false h24]
         simp
         done)
      | (refine zI_f ?_
         rw [decide_eq_false (fun z => z hf)]
         simp
         done)
  · obtain ⟨hf, hf2⟩ := foI_ne h9
    rw [hf2]
    refine aw_aload_n dX9_meetsFoe_12 rfl ?_
    refine aw_getR dX9_meetsFoe_13 fgX9_56 rfl (TownS.s0 hT) (TownS.r0_8 hT) ?_
    refine aw_iload_n dX9_meetsFoe_16 rfl ?_
    refine aw_iaload dX9_meetsFoe_17 (TownS.s12 hT) rfl (by omega) ?_
    rw [(hr.2.2.1 _ h8.2.2).2.2.2.2]
    refine aw_aload_n dX9_meetsFoe_18 rfl ?_
    refine aw_getR dX9_meetsFoe_19 fgX9_56 rfl (TownS.s0 hT) (TownS.r0_8 hT) ?_
    refine aw_iload_n dX9_meetsFoe_22 rfl ?_
    refine aw_iaload dX9_meetsFoe_23 (TownS.s12 hT) rfl (by omega) ?_
    rw [(hr.2.2.1 i hi).2.2.2.2]
    refine aw_icmp_eq (tgt := 29) dX9_meetsFoe_24 rfl (fun h24 => ?_) (fun h24 => ?_)
    · rw [nI_eq (by omega) (by omega)] at h24
      refine aw_iconst (v := nI 0) dX9_meetsFoe_29 kc_0 ?_
      refine aw_istore_n (lo' := [_,_,_,_,_,_]) dX9_meetsFoe_30 (Nat.le_of_ble_eq_true rfl) rfl ?_
      refine aw_iconst (v := nI 0) dX9_meetsFoe_31 kc_0 ?_
      refine aw_istore (lo' := [_,_,_,_,_,_]) dX9_meetsFoe_32 (Nat.le_of_ble_eq_true rfl) rfl ?_
      refine aw_iconst (v := nI 0) dX9_meetsFoe_34 kc_0 ?_
      refine aw_istore (lo' := [_,_,_,_,_,_]) dX9_meetsFoe_35 (Nat.le_of_ble_eq_true rfl) rfl ?_
      exact lt_meetsFoe hT hs hr hw hi hf h24 s.1 0 (by omega)
    · rw [nI_eq (by omega) (by omega)] at h24
      refine aw_iconst (v := nI 0) dX9_meetsFoe_27 kc_0 ?_
      refine aw_zret dX9_meetsFoe_28 rfl rfl (rb0 (Nat.zero_le _)) ⟨rfl, _, rfl, ?_, rfl, rfl⟩
      rw [eq_comm]
      unfold metB
      first
        | (refine zI_f ?_
           rw [decide_eq_false h24]
           simp
           done)
        | (refine zI_f ?_
           rw [decide_eq_false (fun z => z hf)]
           simp
           done)
theorem t_moodOf {G : GC} {E : SH} {iv : IV} {lv : LV} {T : Nat} {s : TS} {v : TV} (hT : TownS G E T) (hs : WS s) (hr : TR T s v iv) (hw : WV s v) {i : Nat} (hi : i < s.1) : ExI G mX9_moodOf 3 [.ref T, .int (nI i)] E iv lv (nI (mood s v i)) iv lv := by
  have h7 := hs.1
  have h8 := hs.2 i hi
  refine spec0_of (lo := [_,_]) (by decide) (Nat.le_of_ble_eq_true rfl) rfl ?_
  refine aw_aload_n dX9_moodOf_0 rfl ?_
  refine aw_iload_n dX9_moodOf_1 rfl ?_
  refine aw_xVi [_] dX9_moodOf_2 cvX9_133 (TownS.s0 hT) (t_meetsFoe hT hs hr hw hi) rfl rfl (Nat.le_of_ble_eq_true rfl) (rb0 (by decide)) ?_
  refine aw_if_ne (tgt := 10) dX9_moodOf_5 rfl (fun h5 => ?_) (fun h5 => ?_)
  · refine aw_aload_n dX9_moodOf_10 rfl ?_
    refine aw_iload_n dX9_moodOf_11 rfl ?_
    refine aw_xVr [_] dX9_moodOf_12 cvX9_121 (TownS.s0 hT) (t_sortOf hT hs hr hi) rfl rfl (Nat.le_of_ble_eq_true rfl) (rb0 (by decide)) ?_
    refine aw_xUi [] dX9_moodOf_15 (cuX9_137 _ h8.1) (TownS.sort hT (hs.2 i hi).1).1 (e_forgivesAll _ h8.1) rfl rfl (Nat.le_of_ble_eq_true rfl) (rb0 (by decide)) ?_
    refine aw_if_ne (tgt := 34) dX9_moodOf_18 rfl (fun h18 => ?_) (fun h18 => ?_)
    · refine aw_iconst (v := nI 1) dX9_moodOf_34 kc_1 ?_
      refine aw_goto (tgt := 39) dX9_moodOf_35 rfl ?_
      refine aw_iret dX9_moodOf_39 rfl (rb0 (Nat.zero_le _)) ⟨rfl, _, rfl, ?_, rfl, rfl⟩
      first
        | (rw [mood_0 (by simpa using zI_0.mp h5)]; done)
        | (rw [mood_1 (zI_n0.mp h5) (by unfold forg; rw [decide_eq_true (zI_n0.mp h18)]; rfl)]; done)
        | (rw [mood_1 (zI_n0.mp h5) (by unfold forg; rw [decide_eq_true (zI_n0.mp h31)]; simp)]; done)
        | (rw [mood_2 (zI_n0.mp h5) (by unfold forg; rw [decide_eq_false (zI_0.mp h18), decide_eq_false (zI_0.mp h31)]; rfl)]; done)
    · refine aw_aload_n dX9_moodOf_21 rfl ?_
      refine aw_aload_n dX9_moodOf_22 rfl ?_
      refine aw_getR dX9_moodOf_23 fgX9_50 rfl (TownS.s0 hT) (TownS.r0_6 hT) ?_
      refine aw_iload_n dX9_moodOf_26 rfl ?_
      refine aw_iaload dX9_moodOf_27 (TownS.s10 hT) rfl (by omega) ?_
      rw [(hr.2.2.1 i hi).2.2.1]
      rw [foI_met (metB_ne (zI_n0.mp h5))]
      refine aw_xVi [_] dX9_moodOf_28 cvX9_141 (TownS.s0 hT) (t_isHid hT hs hr hw h8.2.2) rfl rfl (Nat.le_of_ble_eq_true rfl) (rb0 (by decide)) ?_
      refine aw_if_eq (tgt := 38) dX9_moodOf_31 rfl (fun h31 => ?_) (fun h31 => ?_)
      · refine aw_iconst (v := nI 2) dX9_moodOf_38 kc_2 ?_
        refine aw_iret dX9_moodOf_39 rfl (rb0 (Nat.zero_le _)) ⟨rfl, _, rfl, ?_, rfl, rfl⟩
        first
          | (rw [mood_0 (by simpa using zI_0.mp h5)]; done)
          | (rw [mood_1 (zI_n0.mp h5) (by unfold forg; rw [decide_eq_true (zI_n0.mp h18)]; rfl)]; done)
          | (rw [mood_1 (zI_n0.mp h5) (by unfold forg; rw [decide_eq_true (zI_n0.mp h31)]; simp)]; done)
          | (rw [mood_2 (zI_n0.mp h5) (by unfold forg; rw [decide_eq_false (zI_0.mp h18), decide_eq_false (zI_0.mp h31)]; rfl)]; done)
      · refine aw_iconst (v := nI 1) dX9_moodOf_34 kc_1 ?_
        refine aw_goto (tgt := 39) dX9_moodOf_35 rfl ?_
        refine aw_iret dX9_moodOf_39 rfl (rb0 (Nat.zero_le _)) ⟨rfl, _, rfl, ?_, rfl, rfl⟩
        first
          | (rw [mood_0 (by simpa using zI_0.mp h5)]; done)
          | (rw [mood_1 (zI_n0.mp h5) (by unfold forg; rw [decide_eq_true (zI_n0.mp h18)]; rfl)]; done)
          | (rw [mood_1 (zI_n0.mp h5) (by unfold forg; rw [decide_eq_true (zI_n0.mp h31)]; simp)]; done)
          | (rw [mood_2 (zI_n0.mp h5) (by unfold forg; rw [decide_eq_false (zI_0.mp h18), decide_eq_false (zI_0.mp h31)]; rfl)]; done)
  · refine aw_iconst (v := nI 0) dX9_moodOf_8 kc_0 ?_
    refine aw_iret dX9_moodOf_9 rfl (rb0 (Nat.zero_le _)) ⟨rfl, _, rfl, ?_, rfl, rfl⟩
    first
      | (rw [mood_0 (by simpa using zI_0.mp h5)]; done)
      | (rw [mood_1 (zI_n0.mp h5) (by unfold forg; rw [decide_eq_true (zI_n0.mp h18)]; rfl)]; done)
      | (rw [mood_1 (zI_n0.mp h5) (by unfold forg; rw [decide_eq_true (zI_n0.mp h31)]; simp)]; done)
      | (rw [mood_2 (zI_n0.mp h5) (by unfold forg; rw [decide_eq_false (zI_0.mp h18), decide_eq_false (zI_0.mp h31)]; rfl)]; done)
theorem t_facesFoe {G : GC} {E : SH} {iv : IV} {lv : LV} {T : Nat} {s : TS} {v : TV} (hT : TownS G E T) (hs : WS s) (hr : TR T s v iv) (hw : WV s v) {i : Nat} (hi : i < s.1) : ExI G mX9_facesFoe 3 [.ref T, .int (nI i)] E iv lv (zI (metB s v i = true ∧ ¬ hid s v (s.2.2.2 i))) iv lv := by
  have h7 := hs.1
  have h8 := hs.2 i hi
  refine spec0_of (lo := [_,_]) (by decide) (Nat.le_of_ble_eq_true rfl) rfl ?_
  refine aw_aload_n dX9_facesFoe_0 rfl ?_
  refine aw_iload_n dX9_facesFoe_1 rfl ?_
  refine aw_xVi [_] dX9_facesFoe_2 cvX9_133 (TownS.s0 hT) (t_meetsFoe hT hs hr hw hi) rfl rfl (Nat.le_of_ble_eq_true rfl) (rb0 (by decide)) ?_
  refine aw_if_eq (tgt := 25) dX9_facesFoe_5 rfl (fun h5 => ?_) (fun h5 => ?_)
  · refine aw_iconst (v := nI 0) dX9_facesFoe_25 kc_0 ?_
    refine aw_zret dX9_facesFoe_26 rfl rfl (rb0 (Nat.zero_le _)) ⟨rfl, _, rfl, ?_, rfl, rfl⟩
    rw [eq_comm]
    first
      | exact zI_f (fun z => zI_0.mp h5 z.1)
      | exact zI_t ⟨zI_n0.mp h5, zI_0.mp h18⟩
      | exact zI_f (fun z => z.2 (zI_n0.mp h18))
  · refine aw_aload_n dX9_facesFoe_8 rfl ?_
    refine aw_aload_n dX9_facesFoe_9 rfl ?_
    refine aw_getR dX9_facesFoe_10 fgX9_50 rfl (TownS.s0 hT) (TownS.r0_6 hT) ?_
    refine aw_iload_n dX9_facesFoe_13 rfl ?_
    refine aw_iaload dX9_facesFoe_14 (TownS.s10 hT) rfl (by omega) ?_
    rw [(hr.2.2.1 i hi).2.2.1]
    rw [foI_met (metB_ne (zI_n0.mp h5))]
    refine aw_xVi [_] dX9_facesFoe_15 cvX9_141 (TownS.s0 hT) (t_isHid hT hs hr hw h8.2.2) rfl rfl (Nat.le_of_ble_eq_true rfl) (rb0 (by decide)) ?_
    refine aw_if_ne (tgt := 25) dX9_facesFoe_18 rfl (fun h18 => ?_) (fun h18 => ?_)
    · refine aw_iconst (v := nI 0) dX9_facesFoe_25 kc_0 ?_
      refine aw_zret dX9_facesFoe_26 rfl rfl (rb0 (Nat.zero_le _)) ⟨rfl, _, rfl, ?_, rfl, rfl⟩
      rw [eq_comm]
      first
        | exact zI_f (fun z => zI_0.mp h5 z.1)
        | exact zI_t ⟨zI_n0.mp h5, zI_0.mp h18⟩
        | exact zI_f (fun z => z.2 (zI_n0.mp h18))
    · refine aw_iconst (v := nI 1) dX9_facesFoe_21 kc_1 ?_
      refine aw_goto (tgt := 26) dX9_facesFoe_22 rfl ?_
      refine aw_zret dX9_facesFoe_26 rfl rfl (rb0 (Nat.zero_le _)) ⟨rfl, _, rfl, ?_, rfl, rfl⟩
      rw [eq_comm]
      first
        | exact zI_f (fun z => zI_0.mp h5 z.1)
        | exact zI_t ⟨zI_n0.mp h5, zI_0.mp h18⟩
        | exact zI_f (fun z => z.2 (zI_n0.mp h18))
theorem t_factOf {G : GC} {E : SH} {iv : IV} {lv : LV} {T : Nat} {s : TS} {v : TV} (hT : TownS G E T) (hs : WS s) (hr : TR T s v iv) (hw : WV s v) {i w : Nat} (hi : i < s.1) (hw6 : w ≤ 6) : ExI G mX9_factOf 3 [.ref T, .int (nI i), .int (nI w)] E iv lv (fact s v i w) iv lv := by
  have h7 := hs.1
  have h8 := hs.2 i hi
  refine spec0_of (lo := [_,_,_]) (by decide) (Nat.le_of_ble_eq_true rfl) rfl ?_
  refine aw_iload_n dX9_factOf_0 rfl ?_
  rcases (show w = 0 ∨ w = 1 ∨ w = 2 ∨ w = 3 ∨ w = 4 ∨ w = 5 ∨ w = 6 from by omega) with rfl | rfl | rfl | rfl | rfl | rfl | rfl
  · refine aw_tableIn (off := 39) (tgt := 40) dX9_factOf_1 (by decide) (by decide) (by decide) rfl ?_
    refine aw_aload_n dX9_factOf_40 rfl ?_
    refine aw_getR dX9_factOf_41 fgX9_43 rfl (TownS.s0 hT) (TownS.r0_4 hT) ?_
    refine aw_iload_n dX9_factOf_44 rfl ?_
    refine aw_iaload dX9_factOf_45 (TownS.s8 hT) rfl (by omega) ?_
    rw [(hr.2.2.1 i hi).1]
    refine aw_iret dX9_factOf_46 rfl (rb0 (Nat.zero_le _)) ⟨rfl, _, rfl, ?_, rfl, rfl⟩
    first | rfl | exact (zI_t (zI_n0.mp h80)).symm | exact (zI_f (zI_0.mp h80)).symm | exact (zI_t (zI_n0.mp h94)).symm | exact (zI_f (zI_0.mp h94)).symm
  · refine aw_tableIn (off := 46) (tgt := 47) dX9_factOf_1 (by decide) (by decide) (by decide) rfl ?_
    refine aw_aload_n dX9_factOf_47 rfl ?_
    refine aw_getR dX9_factOf_48 fgX9_47 rfl (TownS.s0 hT) (TownS.r0_5 hT) ?_
    refine aw_iload_n dX9_factOf_51 rfl ?_
    refine aw_iaload dX9_factOf_52 (TownS.s9 hT) rfl (by omega) ?_
    rw [(hr.2.2.1 i hi).2.1]
    refine aw_iret dX9_factOf_53 rfl (rb0 (Nat.zero_le _)) ⟨rfl, _, rfl, ?_, rfl, rfl⟩
    first | rfl | exact (zI_t (zI_n0.mp h80)).symm | exact (zI_f (zI_0.mp h80)).symm | exact (zI_t (zI_n0.mp h94)).symm | exact (zI_f (zI_0.mp h94)).symm
  · refine aw_tableIn (off := 53) (tgt := 54) dX9_factOf_1 (by decide) (by decide) (by decide) rfl ?_
    refine aw_aload_n dX9_factOf_54 rfl ?_
    refine aw_getR dX9_factOf_55 fgX9_50 rfl (TownS.s0 hT) (TownS.r0_6 hT) ?_
    refine aw_iload_n dX9_factOf_58 rfl ?_
    refine aw_iaload dX9_factOf_59 (TownS.s10 hT) rfl (by omega) ?_
    rw [(hr.2.2.1 i hi).2.2.1]
    refine aw_iret dX9_factOf_60 rfl (rb0 (Nat.zero_le _)) ⟨rfl, _, rfl, ?_, rfl, rfl⟩
    first | rfl | exact (zI_t (zI_n0.mp h80)).symm | exact (zI_f (zI_0.mp h80)).symm | exact (zI_t (zI_n0.mp h94)).symm | exact (zI_f (zI_0.mp h94)).symm
  · refine aw_tableIn (off := 60) (tgt := 61) dX9_factOf_1 (by decide) (by decide) (by decide) rfl ?_
    refine aw_aload_n dX9_factOf_61 rfl ?_
    refine aw_getR dX9_factOf_62 fgX9_53 rfl (TownS.s0 hT) (TownS.r0_7 hT) ?_
    refine aw_iload_n dX9_factOf_65 rfl ?_
    refine aw_iaload dX9_factOf_66 (TownS.s11 hT) rfl (by omega) ?_
    rw [(hr.2.2.1 i hi).2.2.2.1]
    refine aw_iret dX9_factOf_67 rfl (rb0 (Nat.zero_le _)) ⟨rfl, _, rfl, ?_, rfl, rfl⟩
    first | rfl | exact (zI_t (zI_n0.mp h80)).symm | exact (zI_f (zI_0.mp h80)).symm | exact (zI_t (zI_n0.mp h94)).symm | exact (zI_f (zI_0.mp h94)).symm
  · refine aw_tableIn (off := 67) (tgt := 68) dX9_factOf_1 (by decide) (by decide) (by decide) rfl ?_
    refine aw_aload_n dX9_factOf_68 rfl ?_
    refine aw_getR dX9_factOf_69 fgX9_56 rfl (TownS.s0 hT) (TownS.r0_8 hT) ?_
    refine aw_iload_n dX9_factOf_72 rfl ?_
    refine aw_iaload dX9_factOf_73 (TownS.s12 hT) rfl (by omega) ?_
    rw [(hr.2.2.1 i hi).2.2.2.2]
    refine aw_iret dX9_factOf_74 rfl (rb0 (Nat.zero_le _)) ⟨rfl, _, rfl, ?_, rfl, rfl⟩
    first | rfl | exact (zI_t (zI_n0.mp h80)).symm | exact (zI_f (zI_0.mp h80)).symm | exact (zI_t (zI_n0.mp h94)).symm | exact (zI_f (zI_0.mp h94)).symm
  · refine aw_tableIn (off := 74) (tgt := 75) dX9_factOf_1 (by decide) (by decide) (by decide) rfl ?_
    refine aw_aload_n dX9_factOf_75 rfl ?_
    refine aw_iload_n dX9_factOf_76 rfl ?_
    refine aw_xVi [_] dX9_factOf_77 cvX9_141 (TownS.s0 hT) (t_isHid hT hs hr hw hi) rfl rfl (Nat.le_of_ble_eq_true rfl) (rb0 (by decide)) ?_
    refine aw_if_eq (tgt := 87) dX9_factOf_80 rfl (fun h80 => ?_) (fun h80 => ?_)
    · refine aw_iconst (v := nI 0) dX9_factOf_87 kc_0 ?_
      refine aw_iret dX9_factOf_88 rfl (rb0 (Nat.zero_le _)) ⟨rfl, _, rfl, ?_, rfl, rfl⟩
      first | rfl | exact (zI_t (zI_n0.mp h80)).symm | exact (zI_f (zI_0.mp h80)).symm | exact (zI_t (zI_n0.mp h94)).symm | exact (zI_f (zI_0.mp h94)).symm
    · refine aw_iconst (v := nI 1) dX9_factOf_83 kc_1 ?_
      refine aw_goto (tgt := 88) dX9_factOf_84 rfl ?_
      refine aw_iret dX9_factOf_88 rfl (rb0 (Nat.zero_le _)) ⟨rfl, _, rfl, ?_, rfl, rfl⟩
      first | rfl | exact (zI_t (zI_n0.mp h80)).symm | exact (zI_f (zI_0.mp h80)).symm | exact (zI_t (zI_n0.mp h94)).symm | exact (zI_f (zI_0.mp h94)).symm
  · refine aw_tableOut (tgt := 89) dX9_factOf_1 (by decide) rfl ?_
    refine aw_aload_n dX9_factOf_89 rfl ?_
    refine aw_iload_n dX9_factOf_90 rfl ?_
    refine aw_xVi [_] dX9_factOf_91 cvX9_133 (TownS.s0 hT) (t_meetsFoe hT hs hr hw hi) rfl rfl (Nat.le_of_ble_eq_true rfl) (rb0 (by decide)) ?_
    refine aw_if_eq (tgt := 101) dX9_factOf_94 rfl (fun h94 => ?_) (fun h94 => ?_)
    · refine aw_iconst (v := nI 0) dX9_factOf_101 kc_0 ?_
      refine aw_iret dX9_factOf_102 rfl (rb0 (Nat.zero_le _)) ⟨rfl, _, rfl, ?_, rfl, rfl⟩
      first | rfl | exact (zI_t (zI_n0.mp h80)).symm | exact (zI_f (zI_0.mp h80)).symm | exact (zI_t (zI_n0.mp h94)).symm | exact (zI_f (zI_0.mp h94)).symm
    · refine aw_iconst (v := nI 1) dX9_factOf_97 kc_1 ?_
      refine aw_goto (tgt := 102) dX9_factOf_98 rfl ?_
      refine aw_iret dX9_factOf_102 rfl (rb0 (Nat.zero_le _)) ⟨rfl, _, rfl, ?_, rfl, rfl⟩
      first | rfl | exact (zI_t (zI_n0.mp h80)).symm | exact (zI_f (zI_0.mp h80)).symm | exact (zI_t (zI_n0.mp h94)).symm | exact (zI_f (zI_0.mp h94)).symm
