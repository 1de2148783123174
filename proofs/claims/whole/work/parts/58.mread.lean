/-! the reference reads a text -/
def TXb (M t k : Nat) (g : Nat → Int32) (iv : IV) : Prop := iv (M + 5) t = nI k ∧ ∀ i, i < k → iv (M + 6) (60 * t + i) = g i
theorem TXb_of {M t k : Nat} {g : Nat → Int32} {iv i : IV} (h5 : i (M + 5) = iv (M + 5)) (h6 : i (M + 6) = iv (M + 6)) (h : TXb M t k g iv) : TXb M t k g i := ⟨by rw [h5]; exact h.1, fun j hj => by rw [h6]; exact h.2 j hj⟩
def frR (M : Nat) (i iv : IV) : Prop := (∀ b, b ≠ M → b ≠ M + 7 → b ≠ M + 8 → i b = iv b) ∧ ∀ j, j ≠ 10 → j ≠ 11 → i M j = iv M j
theorem frR_rf {M : Nat} {iv : IV} : frR M iv iv := ⟨fun _ _ _ _ => rfl, fun _ _ _ => rfl⟩
theorem frR_T {M t k : Nat} {g : Nat → Int32} {iv i : IV} (h : frR M i iv) (hx : TXb M t k g iv) : TXb M t k g i := TXb_of (h.1 _ (by omega) (by omega) (by omega)) (h.1 _ (by omega) (by omega) (by omega)) hx
theorem frR_M {M f : Nat} {iv jv : IV} {x : Int32} (hf : f = 10 ∨ f = 11) (h : frR M jv iv) : frR M (va_up jv M (upd (jv M) f x)) iv := by
  refine ⟨fun b h1 h2 h3 => by rw [va_up_n h1]; exact h.1 b h1 h2 h3, fun j h1 h2 => ?_⟩
  rw [va_up_s]
  exact (if_neg (by omega)).trans (h.2 j h1 h2)
theorem frR_a {M a : Nat} {iv jv : IV} {x : Nat → Int32} (ha : a = M + 7 ∨ a = M + 8) (h : frR M jv iv) : frR M (va_up jv a x) iv := by
  refine ⟨fun b h1 h2 h3 => by rw [va_up_n (by omega)]; exact h.1 b h1 h2 h3, fun j h1 h2 => ?_⟩
  rw [va_up_n (by omega)]
  exact h.2 j h1 h2
def MPx (M : Nat) (st : PS) (iv : IV) : Prop := (∀ c, c < 5 → c < st.1 → iv (M + 7) c = nI (st.2 c)) ∧ ∀ j, 5 + j < st.1 → iv (M + 8) j = nI (st.2 (5 + j))
theorem MPx_f {M : Nat} {st : PS} {iv i : IV} (h7 : i (M + 7) = iv (M + 7)) (h8 : i (M + 8) = iv (M + 8)) (h : MPx M st iv) : MPx M st i := ⟨fun c h1 h2 => by rw [h7]; exact h.1 c h1 h2, fun j hj => by rw [h8]; exact h.2 j hj⟩
theorem psF_fail {g : Nat → Int32} {p k : Nat} {st : PS} (h : psR g p = .inr st) (hp : p ≤ k) (h1 : p < k → psS st (g p) = none) (h2 : p = k → ¬ (st.1 % 5 = 0 ∧ 15 ≤ st.1)) : psF g k = nI p := by
  unfold psF
  by_cases e : p = k
  · subst e
    rw [h]
    exact if_neg (h2 rfl)
  · have q := psR_l (psR_n h (h1 (by omega))) (k - (p + 1))
    rw [show p + 1 + (k - (p + 1)) = k by omega] at q
    rw [q]
theorem psF_good {g : Nat → Int32} {k : Nat} {st : PS} (h : psR g k = .inr st) (hg : gdP st) : psF g k = -9 := by
  unfold psF
  rw [h]
  exact if_pos hg
theorem psR_bl {g : Nat → Int32} {p : Nat} {st : PS} (h : psR g p = .inr st) (h5 : st.1 % 5 = 0) : ∀ c, (∀ i, p ≤ i → i < p + c → g i = nI 32) → psR g (p + c) = .inr st
  | 0, _ => h
  | c + 1, hb => psR_s (psR_bl h h5 c (fun i h1 h2 => hb i h1 (by omega))) (if_pos ⟨hb (p + c) (by omega) (by omega), h5⟩)
theorem figO_s {x : Int32} {most w : Nat} (hm : most ≤ 9) (h : figO x most = some w) : ¬ x < 0 ∧ x - nI 48 = nI w ∧ w ≤ most := by
  unfold figO at h
  split at h
  · rename_i hq
    obtain ⟨j, hj, e⟩ := ix_le (n := x - nI 48) (k := most) (Int32.not_lt.mpr hq.1) (Int32.not_lt.mpr hq.2) (by omega)
    rw [e, ix_nI (by omega)] at h
    have hjw : j = w := Option.some.inj h
    subst hjw
    refine ⟨?_, e, hj⟩
    have e2 : x = nI (j + 48) := by rw [← nI_add, ← e, Int32.sub_add_cancel]
    rw [e2]
    exact nI_pos (by omega)
  · cases h
theorem figO_n {x : Int32} {most : Nat} (h : figO x most = none) : ¬ (nI 0 ≤ x - nI 48 ∧ x - nI 48 ≤ nI most) := by
  unfold figO at h
  split at h
  · cases h
  · assumption
theorem kdO_9 (x : Int32) : (oI (kdO x) = -9) ↔ kdO x = none := oI_9 (fun k h => by have := kdO_b h; omega)
theorem m_kindOf {G : GC} {E : SH} {iv : IV} {lv : LV} (x : Int32) : ExI G mX11_kindOf 1 [.int x] E iv lv (oI (kdO x)) iv lv := by
  by_cases hq : x.toInt < 98 ∨ 115 < x.toInt
  · have hn : kdO x = none := by
      unfold kdO
      rw [if_neg (fun e => by subst e; revert hq; decide), if_neg (fun e => by subst e; revert hq; decide), if_neg (fun e => by subst e; revert hq; decide), if_neg (fun e => by subst e; revert hq; decide), if_neg (fun e => by subst e; revert hq; decide), if_neg (fun e => by subst e; revert hq; decide)]
    refine spec0_of (lo := [_]) (by decide) (Nat.le_of_ble_eq_true rfl) rfl ?_
    refine aw_iload_n dX11_kindOf_0 rfl ?_
    refine aw_tableOut (tgt := 100) dX11_kindOf_1 hq rfl ?_
    refine aw_bipush (v := (-9)) dX11_kindOf_100 kb_m9 ?_
    refine aw_iret dX11_kindOf_102 rfl (rb0 (Nat.zero_le _)) ⟨rfl, _, rfl, ?_, rfl, rfl⟩
    rw [hn]
    rfl
  · obtain ⟨j, hj, rfl⟩ : ∃ j, j < 2 ^ 31 ∧ x = nI j := nI_of (fun q => by
      have := Int32.lt_iff_toInt_lt.mp q
      rw [Int32.toInt_zero] at this
      omega)
    rw [nI_toInt hj] at hq
    refine spec0_of (lo := [_]) (by decide) (Nat.le_of_ble_eq_true rfl) rfl ?_
    refine aw_iload_n dX11_kindOf_0 rfl ?_
    rcases (show j = 98 ∨ j = 99 ∨ j = 100 ∨ j = 101 ∨ j = 102 ∨ j = 103 ∨ j = 104 ∨ j = 105 ∨ j = 106 ∨ j = 107 ∨ j = 108 ∨ j = 109 ∨ j = 110 ∨ j = 111 ∨ j = 112 ∨ j = 113 ∨ j = 114 ∨ j = 115 from by omega) with rfl | rfl | rfl | rfl | rfl | rfl | rfl | rfl | rfl | rfl | rfl | rfl | rfl | rfl | rfl | rfl | rfl | rfl
    · refine aw_tableIn (off := 97) (tgt := 98) dX11_kindOf_1 (by decide) (by decide) (by decide) rfl ?_
      refine aw_iconst (v := nI 5) dX11_kindOf_98 kc_5 ?_
      refine aw_iret dX11_kindOf_99 rfl (rb0 (Nat.zero_le _)) ⟨rfl, _, rfl, ?_, rfl, rfl⟩
      decide +kernel
    · refine aw_tableIn (off := 99) (tgt := 100) dX11_kindOf_1 (by decide) (by decide) (by decide) rfl ?_
      refine aw_bipush (v := (-9)) dX11_kindOf_100 kb_m9 ?_
      refine aw_iret dX11_kindOf_102 rfl (rb0 (Nat.zero_le _)) ⟨rfl, _, rfl, ?_, rfl, rfl⟩
      decide +kernel
    · refine aw_tableIn (off := 89) (tgt := 90) dX11_kindOf_1 (by decide) (by decide) (by decide) rfl ?_
      refine aw_iconst (v := nI 1) dX11_kindOf_90 kc_1 ?_
      refine aw_iret dX11_kindOf_91 rfl (rb0 (Nat.zero_le _)) ⟨rfl, _, rfl, ?_, rfl, rfl⟩
      decide +kernel
    · refine aw_tableIn (off := 99) (tgt := 100) dX11_kindOf_1 (by decide) (by decide) (by decide) rfl ?_
      refine aw_bipush (v := (-9)) dX11_kindOf_100 kb_m9 ?_
      refine aw_iret dX11_kindOf_102 rfl (rb0 (Nat.zero_le _)) ⟨rfl, _, rfl, ?_, rfl, rfl⟩
      decide +kernel
    · refine aw_tableIn (off := 99) (tgt := 100) dX11_kindOf_1 (by decide) (by decide) (by decide) rfl ?_
      refine aw_bipush (v := (-9)) dX11_kindOf_100 kb_m9 ?_
      refine aw_iret dX11_kindOf_102 rfl (rb0 (Nat.zero_le _)) ⟨rfl, _, rfl, ?_, rfl, rfl⟩
      decide +kernel
    · refine aw_tableIn (off := 99) (tgt := 100) dX11_kindOf_1 (by decide) (by decide) (by decide) rfl ?_
      refine aw_bipush (v := (-9)) dX11_kindOf_100 kb_m9 ?_
      refine aw_iret dX11_kindOf_102 rfl (rb0 (Nat.zero_le _)) ⟨rfl, _, rfl, ?_, rfl, rfl⟩
      decide +kernel
    · refine aw_tableIn (off := 93) (tgt := 94) dX11_kindOf_1 (by decide) (by decide) (by decide) rfl ?_
      refine aw_iconst (v := nI 3) dX11_kindOf_94 kc_3 ?_
      refine aw_iret dX11_kindOf_95 rfl (rb0 (Nat.zero_le _)) ⟨rfl, _, rfl, ?_, rfl, rfl⟩
      decide +kernel
    · refine aw_tableIn (off := 99) (tgt := 100) dX11_kindOf_1 (by decide) (by decide) (by decide) rfl ?_
      refine aw_bipush (v := (-9)) dX11_kindOf_100 kb_m9 ?_
      refine aw_iret dX11_kindOf_102 rfl (rb0 (Nat.zero_le _)) ⟨rfl, _, rfl, ?_, rfl, rfl⟩
      decide +kernel
    · refine aw_tableIn (off := 99) (tgt := 100) dX11_kindOf_1 (by decide) (by decide) (by decide) rfl ?_
      refine aw_bipush (v := (-9)) dX11_kindOf_100 kb_m9 ?_
      refine aw_iret dX11_kindOf_102 rfl (rb0 (Nat.zero_le _)) ⟨rfl, _, rfl, ?_, rfl, rfl⟩
      decide +kernel
    · refine aw_tableIn (off := 99) (tgt := 100) dX11_kindOf_1 (by decide) (by decide) (by decide) rfl ?_
      refine aw_bipush (v := (-9)) dX11_kindOf_100 kb_m9 ?_
      refine aw_iret dX11_kindOf_102 rfl (rb0 (Nat.zero_le _)) ⟨rfl, _, rfl, ?_, rfl, rfl⟩
      decide +kernel
    · refine aw_tableIn (off := 99) (tgt := 100) dX11_kindOf_1 (by decide) (by decide) (by decide) rfl ?_
      refine aw_bipush (v := (-9)) dX11_kindOf_100 kb_m9 ?_
      refine aw_iret dX11_kindOf_102 rfl (rb0 (Nat.zero_le _)) ⟨rfl, _, rfl, ?_, rfl, rfl⟩
      decide +kernel
    · refine aw_tableIn (off := 99) (tgt := 100) dX11_kindOf_1 (by decide) (by decide) (by decide) rfl ?_
      refine aw_bipush (v := (-9)) dX11_kindOf_100 kb_m9 ?_
      refine aw_iret dX11_kindOf_102 rfl (rb0 (Nat.zero_le _)) ⟨rfl, _, rfl, ?_, rfl, rfl⟩
      decide +kernel
    · refine aw_tableIn (off := 87) (tgt := 88) dX11_kindOf_1 (by decide) (by decide) (by decide) rfl ?_
      refine aw_iconst (v := nI 0) dX11_kindOf_88 kc_0 ?_
      refine aw_iret dX11_kindOf_89 rfl (rb0 (Nat.zero_le _)) ⟨rfl, _, rfl, ?_, rfl, rfl⟩
      decide +kernel
    · refine aw_tableIn (off := 99) (tgt := 100) dX11_kindOf_1 (by decide) (by decide) (by decide) rfl ?_
      refine aw_bipush (v := (-9)) dX11_kindOf_100 kb_m9 ?_
      refine aw_iret dX11_kindOf_102 rfl (rb0 (Nat.zero_le _)) ⟨rfl, _, rfl, ?_, rfl, rfl⟩
      decide +kernel
    · refine aw_tableIn (off := 95) (tgt := 96) dX11_kindOf_1 (by decide) (by decide) (by decide) rfl ?_
      refine aw_iconst (v := nI 4) dX11_kindOf_96 kc_4 ?_
      refine aw_iret dX11_kindOf_97 rfl (rb0 (Nat.zero_le _)) ⟨rfl, _, rfl, ?_, rfl, rfl⟩
      decide +kernel
    · refine aw_tableIn (off := 99) (tgt := 100) dX11_kindOf_1 (by decide) (by decide) (by decide) rfl ?_
      refine aw_bipush (v := (-9)) dX11_kindOf_100 kb_m9 ?_
      refine aw_iret dX11_kindOf_102 rfl (rb0 (Nat.zero_le _)) ⟨rfl, _, rfl, ?_, rfl, rfl⟩
      decide +kernel
    · refine aw_tableIn (off := 99) (tgt := 100) dX11_kindOf_1 (by decide) (by decide) (by decide) rfl ?_
      refine aw_bipush (v := (-9)) dX11_kindOf_100 kb_m9 ?_
      refine aw_iret dX11_kindOf_102 rfl (rb0 (Nat.zero_le _)) ⟨rfl, _, rfl, ?_, rfl, rfl⟩
      decide +kernel
    · refine aw_tableIn (off := 91) (tgt := 92) dX11_kindOf_1 (by decide) (by decide) (by decide) rfl ?_
      refine aw_iconst (v := nI 2) dX11_kindOf_92 kc_2 ?_
      refine aw_iret dX11_kindOf_93 rfl (rb0 (Nat.zero_le _)) ⟨rfl, _, rfl, ?_, rfl, rfl⟩
      decide +kernel
theorem m_byteAt {G : GC} {E : SH} {iv : IV} {lv : LV} {M t k p : Nat} {g : Nat → Int32} (hM : MS G E M) (ht : t < 4) (hk : k ≤ 60) (hx : TXb M t k g iv) (hp : p ≤ k) (h10 : iv M 10 = nI p) : ExI G mX11_byteAt 1 [.ref M, .int (nI t)] E iv lv (if p < k then g p else -1) iv lv := by
  refine spec0_of (lo := [_,_]) (by decide) (Nat.le_of_ble_eq_true rfl) rfl ?_
  refine aw_aload_n dX11_byteAt_0 rfl ?_
  refine aw_getI dX11_byteAt_1 fgX11_98 rfl (MS.s0 hM) ?_
  rw [h10]
  refine aw_aload_n dX11_byteAt_4 rfl ?_
  refine aw_getR dX11_byteAt_5 fgX11_26 rfl (MS.s0 hM) (MS.r0_8 hM) ?_
  refine aw_iload_n dX11_byteAt_8 rfl ?_
  refine aw_iaload dX11_byteAt_9 (MS.s5 hM) rfl (by omega) ?_
  rw [hx.1]
  refine aw_icmp_ge (tgt := 30) dX11_byteAt_10 rfl (fun hcm => ?_) (fun hcm => ?_)
  · rw [nI_leI (by omega) (by omega)] at hcm
    refine aw_iconst (v := (-1)) dX11_byteAt_30 kc_m1 ?_
    refine aw_iret dX11_byteAt_31 rfl (rb0 (Nat.zero_le _)) ⟨rfl, _, rfl, ?_, rfl, rfl⟩
    first
      | (rw [if_pos (by omega)]; done)
      | (rw [if_neg (by omega)]; done)
  · rw [nI_leI (by omega) (by omega)] at hcm
    refine aw_aload_n dX11_byteAt_13 rfl ?_
    refine aw_getR dX11_byteAt_14 fgX11_29 rfl (MS.s0 hM) (MS.r0_9 hM) ?_
    refine aw_bipush (v := nI 60) dX11_byteAt_17 kb_60 ?_
    refine aw_iload_n dX11_byteAt_19 rfl ?_
    refine aw_imul dX11_byteAt_20 ?_
    rw [pk_mul]
    refine aw_aload_n dX11_byteAt_21 rfl ?_
    refine aw_getI dX11_byteAt_22 fgX11_98 rfl (MS.s0 hM) ?_
    rw [h10]
    refine aw_iadd dX11_byteAt_25 ?_
    rw [nI_add]
    refine aw_baload dX11_byteAt_26 (MS.s6 hM) rfl (by omega) ?_
    rw [hx.2 p (by omega)]
    refine aw_goto (tgt := 31) dX11_byteAt_27 rfl ?_
    refine aw_iret dX11_byteAt_31 rfl (rb0 (Nat.zero_le _)) ⟨rfl, _, rfl, ?_, rfl, rfl⟩
    first
      | (rw [if_pos (by omega)]; done)
      | (rw [if_neg (by omega)]; done)
theorem m_fig_s {G : GC} {E : SH} {iv : IV} {lv : LV} {M t k p : Nat} {g : Nat → Int32} (hM : MS G E M) (ht : t < 4) (hk : k ≤ 60) (hx : TXb M t k g iv) (hp : p ≤ k) (h10 : iv M 10 = nI p) {most w : Nat} (hm : most ≤ 9) (hpk : p < k) (hf : figO (g p) most = some w) : ExI G mX11_figure 2 [.ref M, .int (nI t), .int (nI most)] E iv lv (nI w) (va_up iv M (upd (iv M) 10 (nI (p + 1)))) lv := by
  obtain ⟨f1, f2, f3⟩ := figO_s hm hf
  refine spec0_of (lo := [_,_,_,_]) (by decide) (Nat.le_of_ble_eq_true rfl) rfl ?_
  refine aw_aload_n dX11_figure_0 rfl ?_
  refine aw_iload_n dX11_figure_1 rfl ?_
  refine aw_xVi [_] dX11_figure_2 cvX11_101 (MS.s0 hM) (m_byteAt hM ht hk hx hp h10) rfl rfl (Nat.le_of_ble_eq_true rfl) (rb0 (by decide)) ?_
  rw [if_pos hpk]
  refine aw_bipush (v := nI 48) dX11_figure_5 kb_48 ?_
  refine aw_isub dX11_figure_7 ?_
  rw [f2]
  refine aw_istore_n (lo' := [_,_,_,_]) dX11_figure_8 (Nat.le_of_ble_eq_true rfl) rfl ?_
  refine aw_aload_n dX11_figure_9 rfl ?_
  refine aw_iload_n dX11_figure_10 rfl ?_
  refine aw_xVi [_] dX11_figure_11 cvX11_101 (MS.s0 hM) (m_byteAt hM ht hk hx hp h10) rfl rfl (Nat.le_of_ble_eq_true rfl) (rb0 (by decide)) ?_
  rw [if_pos hpk]
  refine aw_if_lt (tgt := 26) dX11_figure_14 rfl (fun h14 => ?_) (fun h14 => ?_)
  · exact absurd h14 f1
  · refine aw_iload_n dX11_figure_17 rfl ?_
    refine aw_iconst (v := nI 0) dX11_figure_18 kc_0 ?_
    refine aw_iload_n dX11_figure_19 rfl ?_
    refine aw_xSi [_, _, _] dX11_figure_20 csX11_76 (m_in (nI w) (nI 0) (nI most)) rfl rfl (Nat.le_of_ble_eq_true rfl) (rb0 (by decide)) ?_
    refine aw_if_ne (tgt := 29) dX11_figure_23 rfl (fun h23 => ?_) (fun h23 => ?_)
    · refine aw_aload_n dX11_figure_29 rfl ?_
      refine aw_dup dX11_figure_30 rfl ?_
      refine aw_getI dX11_figure_31 fgX11_98 rfl (MS.s0 hM) ?_
      rw [h10]
      refine aw_iconst (v := nI 1) dX11_figure_34 kc_1 ?_
      refine aw_iadd dX11_figure_35 ?_
      rw [nI_add]
      refine aw_putI dX11_figure_36 fpX11_98 rfl (MS.s0 hM) ?_
      refine aw_iload_n dX11_figure_39 rfl ?_
      refine aw_iret dX11_figure_40 rfl (rb0 (Nat.zero_le _)) ⟨rfl, _, rfl, rfl, rfl, rfl⟩
    · exact absurd (And.intro (nI_le (Nat.zero_le _) (by omega)) (nI_le f3 (by omega))) (zI_0.mp h23)
theorem m_fig_n {G : GC} {E : SH} {iv : IV} {lv : LV} {M t k p : Nat} {g : Nat → Int32} (hM : MS G E M) (ht : t < 4) (hk : k ≤ 60) (hx : TXb M t k g iv) (hp : p ≤ k) (h10 : iv M 10 = nI p) {most : Nat} (hm : most ≤ 9) (hf : p < k → figO (g p) most = none) : ExI G mX11_figure 2 [.ref M, .int (nI t), .int (nI most)] E iv lv (-9) iv lv := by
  by_cases hpk : p < k
  · have hf := figO_n (hf hpk)
    refine spec0_of (lo := [_,_,_,_]) (by decide) (Nat.le_of_ble_eq_true rfl) rfl ?_
    refine aw_aload_n dX11_figure_0 rfl ?_
    refine aw_iload_n dX11_figure_1 rfl ?_
    refine aw_xVi [_] dX11_figure_2 cvX11_101 (MS.s0 hM) (m_byteAt hM ht hk hx hp h10) rfl rfl (Nat.le_of_ble_eq_true rfl) (rb0 (by decide)) ?_
    rw [if_pos hpk]
    refine aw_bipush (v := nI 48) dX11_figure_5 kb_48 ?_
    refine aw_isub dX11_figure_7 ?_
    refine aw_istore_n (lo' := [_,_,_,_]) dX11_figure_8 (Nat.le_of_ble_eq_true rfl) rfl ?_
    refine aw_aload_n dX11_figure_9 rfl ?_
    refine aw_iload_n dX11_figure_10 rfl ?_
    refine aw_xVi [_] dX11_figure_11 cvX11_101 (MS.s0 hM) (m_byteAt hM ht hk hx hp h10) rfl rfl (Nat.le_of_ble_eq_true rfl) (rb0 (by decide)) ?_
    rw [if_pos hpk]
    refine aw_if_lt (tgt := 26) dX11_figure_14 rfl (fun h14 => ?_) (fun h14 => ?_)
    · refine aw_bipush (v := (-9)) dX11_figure_26 kb_m9 ?_
      refine aw_iret dX11_figure_28 rfl (rb0 (Nat.zero_le _)) ⟨rfl, _, rfl, rfl, rfl, rfl⟩
    · refine aw_iload_n dX11_figure_17 rfl ?_
      refine aw_iconst (v := nI 0) dX11_figure_18 kc_0 ?_
      refine aw_iload_n dX11_figure_19 rfl ?_
      refine aw_xSi [_, _, _] dX11_figure_20 csX11_76 (m_in (g p - nI 48) (nI 0) (nI most)) rfl rfl (Nat.le_of_ble_eq_true rfl) (rb0 (by decide)) ?_
      refine aw_if_ne (tgt := 29) dX11_figure_23 rfl (fun h23 => ?_) (fun h23 => ?_)
      · exact absurd (zI_n0.mp h23) hf
      · refine aw_bipush (v := (-9)) dX11_figure_26 kb_m9 ?_
        refine aw_iret dX11_figure_28 rfl (rb0 (Nat.zero_le _)) ⟨rfl, _, rfl, rfl, rfl, rfl⟩
  · refine spec0_of (lo := [_,_,_,_]) (by decide) (Nat.le_of_ble_eq_true rfl) rfl ?_
    refine aw_aload_n dX11_figure_0 rfl ?_
    refine aw_iload_n dX11_figure_1 rfl ?_
    refine aw_xVi [_] dX11_figure_2 cvX11_101 (MS.s0 hM) (m_byteAt hM ht hk hx hp h10) rfl rfl (Nat.le_of_ble_eq_true rfl) (rb0 (by decide)) ?_
    rw [if_neg hpk]
    refine aw_bipush (v := nI 48) dX11_figure_5 kb_48 ?_
    refine aw_isub dX11_figure_7 ?_
    refine aw_istore_n (lo' := [_,_,_,_]) dX11_figure_8 (Nat.le_of_ble_eq_true rfl) rfl ?_
    refine aw_aload_n dX11_figure_9 rfl ?_
    refine aw_iload_n dX11_figure_10 rfl ?_
    refine aw_xVi [_] dX11_figure_11 cvX11_101 (MS.s0 hM) (m_byteAt hM ht hk hx hp h10) rfl rfl (Nat.le_of_ble_eq_true rfl) (rb0 (by decide)) ?_
    rw [if_neg hpk]
    refine aw_if_lt (tgt := 26) dX11_figure_14 rfl (fun h14 => ?_) (fun h14 => absurd (by decide) h14)
    refine aw_bipush (v := (-9)) dX11_figure_26 kb_m9 ?_
    refine aw_iret dX11_figure_28 rfl (rb0 (Nat.zero_le _)) ⟨rfl, _, rfl, rfl, rfl, rfl⟩
theorem lo_blanks {G : GC} {E : SH} {iv : IV} {lv : LV} {M t k p : Nat} {g : Nat → Int32} (hM : MS G E M) (ht : t < 4) (hk : k ≤ 60) (hx : TXb M t k g iv) : ∀ (c q : Nat) (jv : IV), q + c = k → p ≤ q → (∀ i, p ≤ i → i < q → g i = nI 32) → jv = va_up iv M (upd (iv M) 10 (nI q)) → AW G mX11_blanks (rm 2 0) (Z0 G 2 E (fun r i0 l => r = none ∧ (∃ p2, p ≤ p2 ∧ p2 ≤ k ∧ (∀ i, p ≤ i → i < p2 → g i = nI 32) ∧ (p2 < k → g p2 ≠ nI 32) ∧ i0 = va_up iv M (upd (iv M) 10 (nI p2)) ∧ l = lv))) (fun _ => True) E.1 0 [some (.ref M), some (.int (nI t))] [] E jv lv := by
  intro c
  induction c with
  | zero =>
    intro q jv hq h1 h2 hj
    subst hj
    have hxj : TXb M t k g (va_up iv M (upd (iv M) 10 (nI q))) := TXb_of (va_up_n (by omega)) (va_up_n (by omega)) hx
    have h10 : va_up iv M (upd (iv M) 10 (nI q)) M 10 = nI q := by rw [va_up_s]; rfl
    refine aw_aload_n dX11_blanks_0 rfl ?_
    refine aw_iload_n dX11_blanks_1 rfl ?_
    refine aw_xVi [_] dX11_blanks_2 cvX11_101 (MS.s0 hM) (m_byteAt hM ht hk hxj (by omega) h10) rfl rfl (Nat.le_of_ble_eq_true rfl) (rb0 (by decide)) ?_
    rw [if_neg (by omega)]
    refine aw_bipush (v := nI 32) dX11_blanks_5 kb_32 ?_
    refine aw_icmp_ne (tgt := 23) dX11_blanks_7 rfl (fun h7 => ?_) (fun h7 => ?_)
    · refine aw_vret dX11_blanks_23 rfl (rb0 (Nat.zero_le _)) ⟨rfl, rfl, q, h1, by omega, h2, fun z => by omega, rfl, rfl⟩
    · exact absurd h7 (by decide)
  | succ c ih =>
    intro q jv hq h1 h2 hj
    subst hj
    have hxj : TXb M t k g (va_up iv M (upd (iv M) 10 (nI q))) := TXb_of (va_up_n (by omega)) (va_up_n (by omega)) hx
    have h10 : va_up iv M (upd (iv M) 10 (nI q)) M 10 = nI q := by rw [va_up_s]; rfl
    refine aw_aload_n dX11_blanks_0 rfl ?_
    refine aw_iload_n dX11_blanks_1 rfl ?_
    refine aw_xVi [_] dX11_blanks_2 cvX11_101 (MS.s0 hM) (m_byteAt hM ht hk hxj (by omega) h10) rfl rfl (Nat.le_of_ble_eq_true rfl) (rb0 (by decide)) ?_
    rw [if_pos (by omega)]
    refine aw_bipush (v := nI 32) dX11_blanks_5 kb_32 ?_
    refine aw_icmp_ne (tgt := 23) dX11_blanks_7 rfl (fun h7 => ?_) (fun h7 => ?_)
    · refine aw_vret dX11_blanks_23 rfl (rb0 (Nat.zero_le _)) ⟨rfl, rfl, q, h1, by omega, h2, fun _ => h7, rfl, rfl⟩
    · refine aw_aload_n dX11_blanks_10 rfl ?_
      refine aw_dup dX11_blanks_11 rfl ?_
      refine aw_getI dX11_blanks_12 fgX11_98 rfl (MS.s0 hM) ?_
      rw [h10]
      refine aw_iconst (v := nI 1) dX11_blanks_15 kc_1 ?_
      refine aw_iadd dX11_blanks_16 ?_
      rw [nI_add]
      refine aw_putI dX11_blanks_17 fpX11_98 rfl (MS.s0 hM) ?_
      refine aw_goto (tgt := 0) dX11_blanks_20 rfl ?_
      refine ih (q + 1) _ (by omega) (by omega) (fun i g1 g2 => ?_) ?_
      · by_cases e : i = q
        · subst e; exact h7
        · exact h2 i g1 (by omega)
      · rw [up_up, va_up_s]
        congr 1
        funext j
        by_cases e : j = 10
        · subst e; rw [pk_us, pk_us]
        · rw [pk_un e, pk_un e, pk_un e]
theorem upd_id (f : Nat → Int32) (k : Nat) : upd f k (f k) = f := by
  funext j
  by_cases e : j = k
  · subst e; exact pk_us
  · exact pk_un e
theorem m_blanks {G : GC} {E : SH} {iv : IV} {lv : LV} {M t k p : Nat} {g : Nat → Int32} (hM : MS G E M) (ht : t < 4) (hk : k ≤ 60) (hx : TXb M t k g iv) (hp : p ≤ k) (h10 : iv M 10 = nI p) : SpV G mX11_blanks 2 [.ref M, .int (nI t)] E iv lv (fun i0 l => ∃ p2, p ≤ p2 ∧ p2 ≤ k ∧ (∀ i, p ≤ i → i < p2 → g i = nI 32) ∧ (p2 < k → g p2 ≠ nI 32) ∧ i0 = va_up iv M (upd (iv M) 10 (nI p2)) ∧ l = lv) := by
  refine spec0_of (lo := [_,_]) (by decide) (Nat.le_of_ble_eq_true rfl) rfl ?_
  exact lo_blanks (p := p) hM ht hk hx (k - p) p iv (by omega) (Nat.le_refl _) (fun i h1 h2 => by omega) (by rw [← h10, upd_id, up_id])
theorem lo_deep {G : GC} {E : SH} {iv : IV} {lv : LV} {M t k p0 : Nat} {g : Nat → Int32} (hM : MS G E M) (ht : t < 4) (hk : k ≤ 60) (hx : TXb M t k g iv) : ∀ (e c p : Nat) (jv : IV) (st : PS), c + e = 5 → psR g p = .inr st → st.1 = c → (c = 0 → p < k → g p ≠ nI 32) → p0 + c = p → p ≤ k → jv M 10 = nI p → jv M 11 = nI 0 → MPx M st jv → frR M jv iv → AW G mX11_readsDeep (rm 3 0) (Z0 G 3 E (fun r i0 l => ∃ w, r = some (.int w) ∧ ((w = 1 ∧ ∃ p2 s2, psR g p2 = .inr s2 ∧ s2.1 = 5 ∧ p0 < p2 ∧ p2 ≤ k ∧ i0 M 10 = nI p2 ∧ i0 M 11 = nI (s2.1 / 5 - 1) ∧ MPx M s2 i0 ∧ frR M i0 iv ∧ l = lv) ∨ (w = 0 ∧ i0 M 10 = psF g k ∧ psF g k ≠ -9 ∧ frR M i0 iv ∧ l = lv)))) (fun _ => True) E.1 2 [some (.ref M), some (.int (nI t)), some (.int (nI c))] [] E jv lv := by
  intro e
  induction e with
  | zero =>
    intro c p jv st hc hp h5 hb h0 hpk h10 h11 hm hf
    have hc : c = 5 := by omega
    subst hc
    refine aw_iload_n dX11_readsDeep_2 rfl ?_
    refine aw_iconst (v := nI 5) dX11_readsDeep_3 kc_5 ?_
    refine aw_icmp_ge (tgt := 39) dX11_readsDeep_4 rfl (fun h4 => ?_) (fun h4 => absurd (by decide) h4)
    refine aw_iconst (v := nI 1) dX11_readsDeep_39 kc_1 ?_
    refine aw_zret dX11_readsDeep_40 rfl rfl (rb0 (Nat.zero_le _)) ⟨rfl, _, rfl, Or.inl ⟨rfl, p, st, hp, h5, by omega, hpk, h10, (by rw [h5]; exact h11), hm, hf, rfl⟩⟩
  | succ e ih =>
    intro c p jv st hc hp h5 hb h0 hpk h10 h11 hm hf
    have hxj := frR_T hf hx
    have hnb : p < k → ¬ (g p = nI 32 ∧ st.1 % 5 = 0) := fun q1 q => by
      by_cases e0 : c = 0
      · exact hb e0 q1 q.1
      · omega
    by_cases hs : p < k ∧ ∃ w, figO (g p) 9 = some w
    · obtain ⟨hpk2, w, hw⟩ := hs
      have hw9 := (figO_s (by decide) hw).2.2
      have hst : psS st (g p) = some (st.1 + 1, va_up st.2 st.1 w) := by
        unfold psS
        rw [if_neg (hnb hpk2), show vlO st.1 (g p) = some w by unfold vlO; rw [if_neg (by omega), if_pos (by omega)]; exact hw]
      refine aw_iload_n dX11_readsDeep_2 rfl ?_
      refine aw_iconst (v := nI 5) dX11_readsDeep_3 kc_5 ?_
      refine aw_icmp_ge (tgt := 39) dX11_readsDeep_4 rfl (fun h4 => absurd h4 (nI_ge (by omega) (by decide))) (fun h4 => ?_)
      refine aw_aload_n dX11_readsDeep_7 rfl ?_
      refine aw_getR dX11_readsDeep_8 fgX11_33 rfl (MS.s0 hM) (MS.r0_12 hM) ?_
      refine aw_iload_n dX11_readsDeep_11 rfl ?_
      refine aw_aload_n dX11_readsDeep_12 rfl ?_
      refine aw_iload_n dX11_readsDeep_13 rfl ?_
      refine aw_bipush (v := nI 9) dX11_readsDeep_14 kb_9 ?_
      refine aw_xVi [_, _] dX11_readsDeep_16 cvX11_104 (MS.s0 hM) (m_fig_s hM ht hk hxj hpk h10 (most := 9) (w := w) (by decide) hpk2 hw) rfl rfl (Nat.le_of_ble_eq_true rfl) (rb0 (by decide)) ?_
      refine aw_iastore dX11_readsDeep_19 (MS.s7 hM) rfl (by omega) ?_
      refine aw_aload_n dX11_readsDeep_20 rfl ?_
      refine aw_getR dX11_readsDeep_21 fgX11_33 rfl (MS.s0 hM) (MS.r0_12 hM) ?_
      refine aw_iload_n dX11_readsDeep_24 rfl ?_
      refine aw_iaload dX11_readsDeep_25 (MS.s7 hM) rfl (by omega) ?_
      rw [va_up_s, pk_us]
      refine aw_bipush (v := (-9)) dX11_readsDeep_26 kb_m9 ?_
      refine aw_icmp_ne (tgt := 33) dX11_readsDeep_28 rfl (fun h28 => ?_) (fun h28 => absurd h28 (nI_n9 (by omega)))
      refine aw_iinc (v := _) (lo' := [_,_,_]) dX11_readsDeep_33 rfl (nI_1 c) rfl ?_
      refine aw_goto (tgt := 2) dX11_readsDeep_36 rfl ?_
      refine ih (c + 1) (p + 1) _ (st.1 + 1, va_up st.2 st.1 w) (by omega) (psR_s hp hst) (by show st.1 + 1 = c + 1; omega) (fun q => by omega) (by omega) (by omega) ?_ ?_ ⟨fun q q1 q2 => ?_, fun j hj => ?_⟩ (frR_a (Or.inl rfl) (frR_M (Or.inl rfl) hf))
      · rw [va_up_n (by omega), va_up_s]; rfl
      · rw [va_up_n (by omega), va_up_s]
        exact (if_neg (by decide)).trans h11
      · replace q2 : q < st.1 + 1 := q2
        rw [va_up_s]
        show _ = nI (va_up st.2 st.1 w q)
        by_cases e2 : q = c
        · subst e2
          rw [pk_us, h5, va_up_s]
        · rw [pk_un e2, va_up_n (by omega), va_up_n (by omega)]
          exact hm.1 q q1 (by omega)
      · replace hj : 5 + j < st.1 + 1 := hj
        omega
    · have hn : p < k → figO (g p) 9 = none := fun q => by
        cases q2 : figO (g p) 9 with
        | none => rfl
        | some w => exact absurd ⟨q, w, q2⟩ hs
      have hF : psF g k = nI p := psF_fail hp hpk (fun q => by
        unfold psS
        rw [if_neg (hnb q), show vlO st.1 (g p) = none by unfold vlO; rw [if_neg (by omega), if_pos (by omega)]; exact hn q]) (fun _ => by omega)
      refine aw_iload_n dX11_readsDeep_2 rfl ?_
      refine aw_iconst (v := nI 5) dX11_readsDeep_3 kc_5 ?_
      refine aw_icmp_ge (tgt := 39) dX11_readsDeep_4 rfl (fun h4 => absurd h4 (nI_ge (by omega) (by decide))) (fun h4 => ?_)
      refine aw_aload_n dX11_readsDeep_7 rfl ?_
      refine aw_getR dX11_readsDeep_8 fgX11_33 rfl (MS.s0 hM) (MS.r0_12 hM) ?_
      refine aw_iload_n dX11_readsDeep_11 rfl ?_
      refine aw_aload_n dX11_readsDeep_12 rfl ?_
      refine aw_iload_n dX11_readsDeep_13 rfl ?_
      refine aw_bipush (v := nI 9) dX11_readsDeep_14 kb_9 ?_
      refine aw_xVi [_, _] dX11_readsDeep_16 cvX11_104 (MS.s0 hM) (m_fig_n hM ht hk hxj hpk h10 (most := 9) (by decide) hn) rfl rfl (Nat.le_of_ble_eq_true rfl) (rb0 (by decide)) ?_
      refine aw_iastore dX11_readsDeep_19 (MS.s7 hM) rfl (by omega) ?_
      refine aw_aload_n dX11_readsDeep_20 rfl ?_
      refine aw_getR dX11_readsDeep_21 fgX11_33 rfl (MS.s0 hM) (MS.r0_12 hM) ?_
      refine aw_iload_n dX11_readsDeep_24 rfl ?_
      refine aw_iaload dX11_readsDeep_25 (MS.s7 hM) rfl (by omega) ?_
      rw [va_up_s, pk_us]
      refine aw_bipush (v := (-9)) dX11_readsDeep_26 kb_m9 ?_
      refine aw_icmp_ne (tgt := 33) dX11_readsDeep_28 rfl (fun h28 => absurd rfl h28) (fun h28 => ?_)
      refine aw_iconst (v := nI 0) dX11_readsDeep_31 kc_0 ?_
      refine aw_zret dX11_readsDeep_32 rfl rfl (rb0 (Nat.zero_le _)) ⟨rfl, _, rfl, Or.inr ⟨rfl, ?_, ?_, frR_a (Or.inl rfl) hf, rfl⟩⟩
      · rw [va_up_n (by omega), h10, hF]
      · rw [hF]; exact nI_n9 (by omega)
theorem m_readsDeep {G : GC} {E : SH} {iv : IV} {lv : LV} {M t k p : Nat} {g : Nat → Int32} (hM : MS G E M) (ht : t < 4) (hk : k ≤ 60) (hx : TXb M t k g iv) (hp : p ≤ k) (h10 : iv M 10 = nI p) {st : PS} (hr : psR g p = .inr st) (h0 : st.1 = 0) (hb : p < k → g p ≠ nI 32) (h11 : iv M 11 = nI 0) : SpI G mX11_readsDeep 3 [.ref M, .int (nI t)] E iv lv (fun w i0 l => (w = 1 ∧ ∃ p2 s2, psR g p2 = .inr s2 ∧ s2.1 = 5 ∧ p < p2 ∧ p2 ≤ k ∧ i0 M 10 = nI p2 ∧ i0 M 11 = nI (s2.1 / 5 - 1) ∧ MPx M s2 i0 ∧ frR M i0 iv ∧ l = lv) ∨ (w = 0 ∧ i0 M 10 = psF g k ∧ psF g k ≠ -9 ∧ frR M i0 iv ∧ l = lv)) := by
  refine spec0_of (lo := [_,_,_]) (by decide) (Nat.le_of_ble_eq_true rfl) rfl ?_
  refine aw_iconst (v := nI 0) dX11_readsDeep_0 kc_0 ?_
  refine aw_istore_n (lo' := [_,_,_]) dX11_readsDeep_1 (Nat.le_of_ble_eq_true rfl) rfl ?_
  exact lo_deep (p0 := p) hM ht hk hx 5 0 p iv st (by omega) hr h0 (fun _ => hb) (by omega) hp h10 h11 ⟨fun c _ h => by omega, fun j h => by omega⟩ frR_rf
theorem lo_one {G : GC} {E : SH} {iv : IV} {lv : LV} {M t k p0 : Nat} {g : Nat → Int32} (hM : MS G E M) (ht : t < 4) (hk : k ≤ 60) (hx : TXb M t k g iv) {r : Nat} (hr7 : r < 7) {j2 : Int32} : ∀ (e q p : Nat) (jv : IV) (st : PS) (j4 : Option Value), q + e = 5 → 1 ≤ q → psR g p = .inr st → st.1 = 5 * (r + 1) + q → p0 + q = p → p ≤ k → jv M 10 = nI p → jv M 11 = nI r → MPx M st jv → frR M jv iv → AW G mX11_readsOne (rm 3 0) (Z0 G 3 E (fun r i0 l => ∃ w, r = some (.int w) ∧ ((w = 1 ∧ ∃ p2 s2, psR g p2 = .inr s2 ∧ (s2.1 % 5 = 0 ∧ 5 ≤ s2.1) ∧ p0 < p2 ∧ p2 ≤ k ∧ i0 M 10 = nI p2 ∧ i0 M 11 = nI (s2.1 / 5 - 1) ∧ MPx M s2 i0 ∧ frR M i0 iv ∧ l = lv) ∨ (w = 0 ∧ i0 M 10 = psF g k ∧ psF g k ≠ -9 ∧ frR M i0 iv ∧ l = lv)))) (fun _ => True) E.1 50 [some (.ref M), some (.int (nI t)), some (.int j2), some (.int (nI q)), j4] [] E jv lv := by
  intro e
  induction e with
  | zero =>
    intro q p jv st j4 hc hq1 hp h5 h0 hpk h10 h11 hm hf
    have hc : q = 5 := by omega
    subst hc
    refine aw_iload_n dX11_readsOne_50 rfl ?_
    refine aw_iconst (v := nI 5) dX11_readsOne_51 kc_5 ?_
    refine aw_icmp_ge (tgt := 103) dX11_readsOne_52 rfl (fun h52 => ?_) (fun h52 => absurd (by decide) h52)
    refine aw_aload_n dX11_readsOne_103 rfl ?_
    refine aw_dup dX11_readsOne_104 rfl ?_
    refine aw_getI dX11_readsOne_105 fgX11_110 rfl (MS.s0 hM) ?_
    rw [h11]
    refine aw_iconst (v := nI 1) dX11_readsOne_108 kc_1 ?_
    refine aw_iadd dX11_readsOne_109 ?_
    rw [nI_add]
    refine aw_putI dX11_readsOne_110 fpX11_110 rfl (MS.s0 hM) ?_
    refine aw_iconst (v := nI 1) dX11_readsOne_113 kc_1 ?_
    refine aw_zret dX11_readsOne_114 rfl rfl (rb0 (Nat.zero_le _)) ⟨rfl, _, rfl, Or.inl ⟨rfl, p, st, hp, ⟨by omega, by omega⟩, by omega, hpk, ?_, ?_, MPx_f (va_up_n (by omega)) (va_up_n (by omega)) hm, frR_M (Or.inr rfl) hf, rfl⟩⟩
    · rw [va_up_s]
      exact (if_neg (by decide)).trans h10
    · rw [va_up_s, pk_us, h5, show (5 * (r + 1) + 5) / 5 - 1 = r + 1 by omega]
  | succ e ih =>
    intro q p jv st j4 hc hq1 hp h5 h0 hpk h10 h11 hm hf
    have hxj := frR_T hf hx
    have hnb : ¬ (g p = nI 32 ∧ st.1 % 5 = 0) := fun q => by omega
    have hmost : (if q = 4 then 4 else 9) ≤ 9 := by split <;> omega
    have hvl : ∀ x, vlO st.1 x = figO x (if q = 4 then 4 else 9) := fun x => by
      unfold vlO
      rw [if_neg (by omega), if_neg (by omega), if_neg (by omega), show st.1 % 5 = q by omega]
    by_cases hs : p < k ∧ ∃ w, figO (g p) (if q = 4 then 4 else 9) = some w
    · obtain ⟨hpk2, w, hw⟩ := hs
      have hw9 := (figO_s hmost hw).2.2
      have hst : psS st (g p) = some (st.1 + 1, va_up st.2 st.1 w) := by
        unfold psS
        rw [if_neg hnb, hvl, hw]
      have ih2 := ih (q + 1) (p + 1) (va_up (va_up jv M (upd (jv M) 10 (nI (p + 1)))) (M + 8) (upd (va_up jv M (upd (jv M) 10 (nI (p + 1))) (M + 8)) (5 * r + q) (nI w))) (st.1 + 1, va_up st.2 st.1 w) (some (.int (nI w))) (by omega) (by omega) (psR_s hp hst) (by show st.1 + 1 = _; omega) (by omega) (by omega) (by rw [va_up_n (by omega), va_up_s]; rfl) (by rw [va_up_n (by omega), va_up_s]; exact (if_neg (by decide)).trans h11) ⟨fun c q1 q2 => by
          rw [va_up_n (by omega), va_up_n (by omega)]
          show _ = nI (va_up st.2 st.1 w c)
          rw [va_up_n (by omega)]
          exact hm.1 c q1 (by omega), fun j hj => by
          replace hj : 5 + j < st.1 + 1 := hj
          rw [va_up_s]
          show _ = nI (va_up st.2 st.1 w (5 + j))
          by_cases e2 : j = 5 * r + q
          · subst e2
            rw [pk_us, show 5 + (5 * r + q) = st.1 by omega, va_up_s]
          · rw [pk_un e2, va_up_n (by omega), va_up_n (by omega)]
            exact hm.2 j (by omega)⟩ (frR_a (Or.inr rfl) (frR_M (Or.inl rfl) hf))
      have h11b : va_up jv M (upd (jv M) 10 (nI (p + 1))) M 11 = nI r := by rw [va_up_s]; exact (if_neg (by decide)).trans h11
      refine aw_iload_n dX11_readsOne_50 rfl ?_
      refine aw_iconst (v := nI 5) dX11_readsOne_51 kc_5 ?_
      refine aw_icmp_ge (tgt := 103) dX11_readsOne_52 rfl (fun h52 => absurd h52 (nI_ge (by omega) (by decide))) (fun h52 => ?_)
      refine aw_aload_n dX11_readsOne_55 rfl ?_
      refine aw_iload_n dX11_readsOne_56 rfl ?_
      refine aw_iload_n dX11_readsOne_57 rfl ?_
      refine aw_iconst (v := nI 4) dX11_readsOne_58 kc_4 ?_
      refine aw_icmp_ne (tgt := 66) dX11_readsOne_59 rfl (fun h59 => ?_) (fun h59 => ?_)
      · rw [nI_eq (by omega) (by decide)] at h59
        rw [if_neg h59] at hw
        refine aw_bipush (v := nI 9) dX11_readsOne_66 kb_9 ?_
        refine aw_xVi [_, _] dX11_readsOne_68 cvX11_104 (MS.s0 hM) (m_fig_s hM ht hk hxj hpk h10 (w := w) (by decide) hpk2 hw) rfl rfl (Nat.le_of_ble_eq_true rfl) (rb0 (by decide)) ?_
        refine aw_istore (lo' := [_,_,_,_,_]) dX11_readsOne_71 (Nat.le_of_ble_eq_true rfl) rfl ?_
        refine aw_iload dX11_readsOne_73 rfl ?_
        refine aw_bipush (v := (-9)) dX11_readsOne_75 kb_m9 ?_
        refine aw_icmp_ne (tgt := 82) dX11_readsOne_77 rfl (fun h77 => ?_) (fun h77 => absurd h77 (nI_n9 (by omega)))
        refine aw_aload_n dX11_readsOne_82 rfl ?_
        refine aw_getR dX11_readsOne_83 fgX11_36 rfl (MS.s0 hM) (MS.r0_13 hM) ?_
        refine aw_iconst (v := nI 5) dX11_readsOne_86 kc_5 ?_
        refine aw_aload_n dX11_readsOne_87 rfl ?_
        refine aw_getI dX11_readsOne_88 fgX11_110 rfl (MS.s0 hM) ?_
        rw [h11b]
        refine aw_imul dX11_readsOne_91 ?_
        rw [pk_mul]
        refine aw_iload_n dX11_readsOne_92 rfl ?_
        refine aw_iadd dX11_readsOne_93 ?_
        rw [nI_add]
        refine aw_iload dX11_readsOne_94 rfl ?_
        refine aw_iastore dX11_readsOne_96 (MS.s8 hM) rfl (by omega) ?_
        refine aw_iinc (v := _) (lo' := [_,_,_,_,_]) dX11_readsOne_97 rfl (nI_1 q) rfl ?_
        refine aw_goto (tgt := 50) dX11_readsOne_100 rfl ?_
        exact ih2
      · rw [nI_eq (by omega) (by decide)] at h59
        rw [if_pos h59] at hw
        refine aw_iconst (v := nI 4) dX11_readsOne_62 kc_4 ?_
        refine aw_goto (tgt := 68) dX11_readsOne_63 rfl ?_
        refine aw_xVi [_, _] dX11_readsOne_68 cvX11_104 (MS.s0 hM) (m_fig_s hM ht hk hxj hpk h10 (w := w) (by decide) hpk2 hw) rfl rfl (Nat.le_of_ble_eq_true rfl) (rb0 (by decide)) ?_
        refine aw_istore (lo' := [_,_,_,_,_]) dX11_readsOne_71 (Nat.le_of_ble_eq_true rfl) rfl ?_
        refine aw_iload dX11_readsOne_73 rfl ?_
        refine aw_bipush (v := (-9)) dX11_readsOne_75 kb_m9 ?_
        refine aw_icmp_ne (tgt := 82) dX11_readsOne_77 rfl (fun h77 => ?_) (fun h77 => absurd h77 (nI_n9 (by omega)))
        refine aw_aload_n dX11_readsOne_82 rfl ?_
        refine aw_getR dX11_readsOne_83 fgX11_36 rfl (MS.s0 hM) (MS.r0_13 hM) ?_
        refine aw_iconst (v := nI 5) dX11_readsOne_86 kc_5 ?_
        refine aw_aload_n dX11_readsOne_87 rfl ?_
        refine aw_getI dX11_readsOne_88 fgX11_110 rfl (MS.s0 hM) ?_
        rw [h11b]
        refine aw_imul dX11_readsOne_91 ?_
        rw [pk_mul]
        refine aw_iload_n dX11_readsOne_92 rfl ?_
        refine aw_iadd dX11_readsOne_93 ?_
        rw [nI_add]
        refine aw_iload dX11_readsOne_94 rfl ?_
        refine aw_iastore dX11_readsOne_96 (MS.s8 hM) rfl (by omega) ?_
        refine aw_iinc (v := _) (lo' := [_,_,_,_,_]) dX11_readsOne_97 rfl (nI_1 q) rfl ?_
        refine aw_goto (tgt := 50) dX11_readsOne_100 rfl ?_
        exact ih2
    · have hn : p < k → figO (g p) (if q = 4 then 4 else 9) = none := fun z => by
        cases q2 : figO (g p) (if q = 4 then 4 else 9) with
        | none => rfl
        | some w => exact absurd ⟨z, w, q2⟩ hs
      have hF : psF g k = nI p := psF_fail hp hpk (fun z => by
        unfold psS
        rw [if_neg hnb, hvl, hn z]) (fun _ => by omega)
      refine aw_iload_n dX11_readsOne_50 rfl ?_
      refine aw_iconst (v := nI 5) dX11_readsOne_51 kc_5 ?_
      refine aw_icmp_ge (tgt := 103) dX11_readsOne_52 rfl (fun h52 => absurd h52 (nI_ge (by omega) (by decide))) (fun h52 => ?_)
      refine aw_aload_n dX11_readsOne_55 rfl ?_
      refine aw_iload_n dX11_readsOne_56 rfl ?_
      refine aw_iload_n dX11_readsOne_57 rfl ?_
      refine aw_iconst (v := nI 4) dX11_readsOne_58 kc_4 ?_
      refine aw_icmp_ne (tgt := 66) dX11_readsOne_59 rfl (fun h59 => ?_) (fun h59 => ?_)
      · rw [nI_eq (by omega) (by decide)] at h59
        rw [if_neg h59] at hn
        refine aw_bipush (v := nI 9) dX11_readsOne_66 kb_9 ?_
        refine aw_xVi [_, _] dX11_readsOne_68 cvX11_104 (MS.s0 hM) (m_fig_n hM ht hk hxj hpk h10 (by decide) hn) rfl rfl (Nat.le_of_ble_eq_true rfl) (rb0 (by decide)) ?_
        refine aw_istore (lo' := [_,_,_,_,_]) dX11_readsOne_71 (Nat.le_of_ble_eq_true rfl) rfl ?_
        refine aw_iload dX11_readsOne_73 rfl ?_
        refine aw_bipush (v := (-9)) dX11_readsOne_75 kb_m9 ?_
        refine aw_icmp_ne (tgt := 82) dX11_readsOne_77 rfl (fun h77 => absurd rfl h77) (fun h77 => ?_)
        refine aw_iconst (v := nI 0) dX11_readsOne_80 kc_0 ?_
        refine aw_zret dX11_readsOne_81 rfl rfl (rb0 (Nat.zero_le _)) ⟨rfl, _, rfl, Or.inr ⟨rfl, by rw [h10, hF], by rw [hF]; exact nI_n9 (by omega), hf, rfl⟩⟩
      · rw [nI_eq (by omega) (by decide)] at h59
        rw [if_pos h59] at hn
        refine aw_iconst (v := nI 4) dX11_readsOne_62 kc_4 ?_
        refine aw_goto (tgt := 68) dX11_readsOne_63 rfl ?_
        refine aw_xVi [_, _] dX11_readsOne_68 cvX11_104 (MS.s0 hM) (m_fig_n hM ht hk hxj hpk h10 (by decide) hn) rfl rfl (Nat.le_of_ble_eq_true rfl) (rb0 (by decide)) ?_
        refine aw_istore (lo' := [_,_,_,_,_]) dX11_readsOne_71 (Nat.le_of_ble_eq_true rfl) rfl ?_
        refine aw_iload dX11_readsOne_73 rfl ?_
        refine aw_bipush (v := (-9)) dX11_readsOne_75 kb_m9 ?_
        refine aw_icmp_ne (tgt := 82) dX11_readsOne_77 rfl (fun h77 => absurd rfl h77) (fun h77 => ?_)
        refine aw_iconst (v := nI 0) dX11_readsOne_80 kc_0 ?_
        refine aw_zret dX11_readsOne_81 rfl rfl (rb0 (Nat.zero_le _)) ⟨rfl, _, rfl, Or.inr ⟨rfl, by rw [h10, hF], by rw [hF]; exact nI_n9 (by omega), hf, rfl⟩⟩
theorem m_readsOne {G : GC} {E : SH} {iv : IV} {lv : LV} {M t k p : Nat} {g : Nat → Int32} (hM : MS G E M) (ht : t < 4) (hk : k ≤ 60) (hx : TXb M t k g iv) (hp : p ≤ k) (h10 : iv M 10 = nI p) {st : PS} (hr : psR g p = .inr st) (h5 : 5 ≤ st.1) (h50 : st.1 % 5 = 0) (hpk : p < k) (hb : g p ≠ nI 32) (h11 : iv M 11 = nI (st.1 / 5 - 1)) (hm : MPx M st iv) : SpI G mX11_readsOne 3 [.ref M, .int (nI t)] E iv lv (fun w i0 l => (w = 1 ∧ ∃ p2 s2, psR g p2 = .inr s2 ∧ (s2.1 % 5 = 0 ∧ 5 ≤ s2.1) ∧ p < p2 ∧ p2 ≤ k ∧ i0 M 10 = nI p2 ∧ i0 M 11 = nI (s2.1 / 5 - 1) ∧ MPx M s2 i0 ∧ frR M i0 iv ∧ l = lv) ∨ (w = 0 ∧ i0 M 10 = psF g k ∧ psF g k ≠ -9 ∧ frR M i0 iv ∧ l = lv)) := by
  have h40 := (psR_W hr).1
  refine spec0_of (lo := [_,_,_,_,_]) (by decide) (Nat.le_of_ble_eq_true rfl) rfl ?_
  refine aw_aload_n dX11_readsOne_0 rfl ?_
  refine aw_iload_n dX11_readsOne_1 rfl ?_
  refine aw_xVi [_] dX11_readsOne_2 cvX11_101 (MS.s0 hM) (m_byteAt hM ht hk hx hp h10) rfl rfl (Nat.le_of_ble_eq_true rfl) (rb0 (by decide)) ?_
  rw [if_pos hpk]
  refine aw_xSi [_] dX11_readsOne_5 csX11_107 (m_kindOf (g p)) rfl rfl (Nat.le_of_ble_eq_true rfl) (rb0 (by decide)) ?_
  refine aw_istore_n (lo' := [_,_,_,_,_]) dX11_readsOne_8 (Nat.le_of_ble_eq_true rfl) rfl ?_
  refine aw_iload_n dX11_readsOne_9 rfl ?_
  refine aw_bipush (v := (-9)) dX11_readsOne_10 kb_m9 ?_
  refine aw_icmp_eq (tgt := 24) dX11_readsOne_12 rfl (fun h12 => ?_) (fun h12 => ?_)
  · have hkn := (kdO_9 (g p)).mp h12
    refine aw_iconst (v := nI 0) dX11_readsOne_24 kc_0 ?_
    refine aw_zret dX11_readsOne_25 rfl rfl (rb0 (Nat.zero_le _)) ⟨rfl, _, rfl, ?_⟩
    first
      | (have hF : psF g k = nI p := psF_fail hr hp (fun _ => by
           unfold psS
           rw [if_neg (fun q => hb q.1), show vlO st.1 (g p) = none by
             unfold vlO
             rw [if_neg (by omega), if_neg (by omega), if_pos h50]; exact hkn]) (fun q => by omega)
         exact Or.inr ⟨rfl, by rw [h10, hF], by rw [hF]; exact nI_n9 (by omega), frR_rf, rfl⟩)
      | (have hF : psF g k = nI p := psF_fail hr hp (fun _ => by
           unfold psS
           rw [if_neg (fun q => hb q.1), show vlO st.1 (g p) = none by
             unfold vlO
             rw [if_pos (by omega)]]) (fun q => by omega)
         exact Or.inr ⟨rfl, by rw [h10, hF], by rw [hF]; exact nI_n9 (by omega), frR_rf, rfl⟩)
      | (have hF : psF g k = nI p := psF_fail hr hp (fun _ => by
           unfold psS
           rw [if_neg (fun q => hb q.1), show vlO st.1 (g p) = none by
             unfold vlO
             by_cases g4 : 40 ≤ st.1
             · rw [if_pos g4]
             · rw [if_neg g4, if_neg (by omega), if_pos h50]; exact hkn]) (fun q => by omega)
         exact Or.inr ⟨rfl, by rw [h10, hF], by rw [hF]; exact nI_n9 (by omega), frR_rf, rfl⟩)
  · obtain ⟨w, hw⟩ : ∃ w, kdO (g p) = some w := by
      cases q : kdO (g p) with
      | none => exact absurd ((kdO_9 (g p)).mpr q) h12
      | some w => exact ⟨w, rfl⟩
    rw [hw]
    refine aw_aload_n dX11_readsOne_15 rfl ?_
    refine aw_getI dX11_readsOne_16 fgX11_110 rfl (MS.s0 hM) ?_
    rw [h11]
    refine aw_bipush (v := nI 7) dX11_readsOne_19 kb_7 ?_
    refine aw_icmp_ne (tgt := 26) dX11_readsOne_21 rfl (fun h21 => ?_) (fun h21 => ?_)
    · rw [nI_eq (by omega) (by decide)] at h21
      refine aw_aload_n dX11_readsOne_26 rfl ?_
      refine aw_dup dX11_readsOne_27 rfl ?_
      refine aw_getI dX11_readsOne_28 fgX11_98 rfl (MS.s0 hM) ?_
      rw [h10]
      refine aw_iconst (v := nI 1) dX11_readsOne_31 kc_1 ?_
      refine aw_iadd dX11_readsOne_32 ?_
      rw [nI_add]
      refine aw_putI dX11_readsOne_33 fpX11_98 rfl (MS.s0 hM) ?_
      refine aw_aload_n dX11_readsOne_36 rfl ?_
      refine aw_getR dX11_readsOne_37 fgX11_36 rfl (MS.s0 hM) (MS.r0_13 hM) ?_
      refine aw_iconst (v := nI 5) dX11_readsOne_40 kc_5 ?_
      refine aw_aload_n dX11_readsOne_41 rfl ?_
      refine aw_getI dX11_readsOne_42 fgX11_110 rfl (MS.s0 hM) ?_
      rw [show va_up iv M (upd (iv M) 10 (nI (p + 1))) M 11 = nI (st.1 / 5 - 1) from by rw [va_up_s]; exact (if_neg (by decide)).trans h11]
      refine aw_imul dX11_readsOne_45 ?_
      rw [pk_mul]
      refine aw_iload_n dX11_readsOne_46 rfl ?_
      refine aw_iastore dX11_readsOne_47 (MS.s8 hM) rfl (by omega) ?_
      refine aw_iconst (v := nI 1) dX11_readsOne_48 kc_1 ?_
      refine aw_istore_n (lo' := [_,_,_,_,_]) dX11_readsOne_49 (Nat.le_of_ble_eq_true rfl) rfl ?_
      have hst : psS st (g p) = some (st.1 + 1, va_up st.2 st.1 w) := by
        unfold psS
        rw [if_neg (fun q => hb q.1), show vlO st.1 (g p) = some w by
          unfold vlO
          rw [if_neg (by omega), if_neg (by omega), if_pos h50]; exact hw]
      refine lo_one (p0 := p) (r := st.1 / 5 - 1) hM ht hk hx (by omega) 4 1 (p + 1) _ (st.1 + 1, va_up st.2 st.1 w) none (by omega) (by omega) (psR_s hr hst) (by show st.1 + 1 = _; omega) rfl (by omega) (by rw [va_up_n (by omega), va_up_s]; rfl) (by rw [va_up_n (by omega), va_up_s]; exact (if_neg (by decide)).trans h11) ⟨fun c q1 q2 => ?_, fun j hj => ?_⟩ (frR_a (Or.inr rfl) (frR_M (Or.inl rfl) frR_rf))
      · rw [va_up_n (by omega), va_up_n (by omega)]
        show _ = nI (va_up st.2 st.1 w c)
        rw [va_up_n (by omega)]
        exact hm.1 c q1 (by omega)
      · replace hj : 5 + j < st.1 + 1 := hj
        rw [va_up_s]
        show _ = nI (va_up st.2 st.1 w (5 + j))
        by_cases e2 : j = 5 * (st.1 / 5 - 1)
        · subst e2
          rw [pk_us, show 5 + 5 * (st.1 / 5 - 1) = st.1 by omega, va_up_s]
          rfl
        · rw [pk_un e2, va_up_n (by omega), va_up_n (by omega)]
          exact hm.2 j (by omega)
    · rw [nI_eq (by omega) (by decide)] at h21
      refine aw_iconst (v := nI 0) dX11_readsOne_24 kc_0 ?_
      refine aw_zret dX11_readsOne_25 rfl rfl (rb0 (Nat.zero_le _)) ⟨rfl, _, rfl, ?_⟩
      first
        | (have hF : psF g k = nI p := psF_fail hr hp (fun _ => by
             unfold psS
             rw [if_neg (fun q => hb q.1), show vlO st.1 (g p) = none by
               unfold vlO
               rw [if_neg (by omega), if_neg (by omega), if_pos h50]; exact hkn]) (fun q => by omega)
           exact Or.inr ⟨rfl, by rw [h10, hF], by rw [hF]; exact nI_n9 (by omega), frR_rf, rfl⟩)
        | (have hF : psF g k = nI p := psF_fail hr hp (fun _ => by
             unfold psS
             rw [if_neg (fun q => hb q.1), show vlO st.1 (g p) = none by
               unfold vlO
               rw [if_pos (by omega)]]) (fun q => by omega)
           exact Or.inr ⟨rfl, by rw [h10, hF], by rw [hF]; exact nI_n9 (by omega), frR_rf, rfl⟩)
        | (have hF : psF g k = nI p := psF_fail hr hp (fun _ => by
             unfold psS
             rw [if_neg (fun q => hb q.1), show vlO st.1 (g p) = none by
               unfold vlO
               by_cases g4 : 40 ≤ st.1
               · rw [if_pos g4]
               · rw [if_neg g4, if_neg (by omega), if_pos h50]; exact hkn]) (fun q => by omega)
           exact Or.inr ⟨rfl, by rw [h10, hF], by rw [hF]; exact nI_n9 (by omega), frR_rf, rfl⟩)
