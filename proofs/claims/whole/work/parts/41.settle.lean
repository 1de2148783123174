/-! a town out of what was read -/
abbrev nT (st : PS) : Nat := st.1 / 5 - 1
def sTn (st : PS) : TS := (nT st, fun i => st.2 (5 * (i + 1)), fun i => st.2 (5 * (i + 1) + 1), fun i => (i + st.2 (5 * (i + 1) + 2)) % nT st)
/-- what is nobody's keeps what it was -/
def vTn (st : PS) (v0 : TV) : TV := fun k => if k = 0 then 0 else if k < 6 then st.2 (k - 1) else if k < 13 then (if k - 6 < nT st then st.2 (5 * (k - 6 + 1) + 3) else v0 k) else (if k - 13 < nT st then st.2 (5 * (k - 13 + 1) + 4) else v0 k)
def gdP (st : PS) : Prop := st.1 % 5 = 0 ∧ 15 ≤ st.1
theorem sTn_W {st : PS} (h : WP st) (hg : gdP st) : WS (sTn st) := by
  have h40 := h.1
  obtain ⟨g1, g2⟩ := hg
  refine ⟨by show st.1 / 5 - 1 ≤ 7; omega, fun i hi => ?_⟩
  replace hi : i < st.1 / 5 - 1 := hi
  refine ⟨(h.2 (5 * (i + 1)) (by omega)).2.1 (by omega) (by omega), (h.2 (5 * (i + 1) + 1) (by omega)).1, Nat.mod_lt _ (by show 0 < st.1 / 5 - 1; omega)⟩
theorem vTn_W {st : PS} {v0 : TV} (h : WP st) (hg : gdP st) : WV (sTn st) (vTn st v0) := by
  have h40 := h.1
  obtain ⟨g1, g2⟩ := hg
  refine ⟨fun i hi => ?_, fun c hc => ?_, (by show 0 < 2 ^ 20; decide)⟩
  · replace hi : i < st.1 / 5 - 1 := hi
    unfold vTn
    rw [if_neg (by omega), if_neg (by omega), if_pos (by omega), show 6 + i - 6 = i by omega, if_pos hi, if_neg (by omega), if_neg (by omega), if_neg (by omega), show 13 + i - 13 = i by omega, if_pos hi]
    exact ⟨(h.2 (5 * (i + 1) + 3) (by omega)).1, (h.2 (5 * (i + 1) + 4) (by omega)).2.2 (by omega) (by omega)⟩
  · unfold vTn
    rw [if_neg (by omega), if_pos (by omega)]
    exact (h.2 _ (by omega)).1
theorem vTn_d (st : PS) (v0 : TV) {c : Nat} (hc : c < 5) : vTn st v0 (1 + c) = st.2 c := by
  unfold vTn
  rw [if_neg (by omega), if_pos (by omega), show 1 + c - 1 = c by omega]
theorem vTn_g (st : PS) (v0 : TV) {i : Nat} (h7 : nT st ≤ 7) (hi : i < nT st) : vTn st v0 (6 + i) = st.2 (5 * (i + 1) + 3) := by
  unfold vTn
  rw [if_neg (by omega), if_neg (by omega), if_pos (by omega), show 6 + i - 6 = i by omega, if_pos hi]
theorem vTn_s (st : PS) (v0 : TV) {i : Nat} (hi : i < nT st) : vTn st v0 (13 + i) = st.2 (5 * (i + 1) + 4) := by
  unfold vTn
  rw [if_neg (by omega), if_neg (by omega), if_neg (by omega), show 13 + i - 13 = i by omega, if_pos hi]
def SV (T : Nat) (st : PS) (i : Nat) (jv : IV) : Prop := jv T 0 = nI (nT st) ∧ (∀ q, q < 5 → jv (T + 16) q = nI (st.2 q)) ∧ ∀ a, a < i → jv (T + 8) a = nI (st.2 (5 * (a + 1))) ∧ jv (T + 9) a = nI (st.2 (5 * (a + 1) + 1)) ∧ jv (T + 10) a = foI (sTn st) a ∧ jv (T + 14) a = nI (st.2 (5 * (a + 1) + 3)) ∧ jv (T + 15) a = nI (st.2 (5 * (a + 1) + 4))
theorem t_further {G : GC} {E : SH} {iv : IV} {lv : LV} {T i u : Nat} {st : PS} (hT : TownS G E T) (h0 : iv T 0 = nI (nT st)) (h7 : nT st ≤ 7) (hi : i < nT st) (hu : u = st.2 (5 * (i + 1) + 2)) (hu9 : u ≤ 9) : ExI G mX9_further 1 [.ref T, .int (nI i), .int (nI u)] E iv lv (foI (sTn st) i) iv lv := by
  have hl : (i + u) % nT st < nT st := Nat.mod_lt _ (by omega)
  refine spec0_of (lo := [_,_,_,_]) (by decide) (Nat.le_of_ble_eq_true rfl) rfl ?_
  refine aw_aload_n dX9_further_0 rfl ?_
  refine aw_getI dX9_further_1 fgX9_9 rfl (TownS.s0 hT) ?_
  rw [h0]
  refine aw_iconst (v := nI 1) dX9_further_4 kc_1 ?_
  refine aw_icmp_ge (tgt := 10) dX9_further_5 rfl (fun h5 => ?_) (fun h5 => ?_)
  · refine aw_iload_n dX9_further_10 rfl ?_
    refine aw_iload_n dX9_further_11 rfl ?_
    refine aw_iadd dX9_further_12 ?_
    rw [nI_add]
    refine aw_aload_n dX9_further_13 rfl ?_
    refine aw_getI dX9_further_14 fgX9_9 rfl (TownS.s0 hT) ?_
    rw [h0]
    refine aw_irem dX9_further_17 (fun q => absurd q (ni_ne (k := 0) (by omega) (by decide) (by omega))) ?_
    rw [pk_rem (by omega) (by omega) (by omega)]
    refine aw_istore_n (lo' := [_,_,_,_]) dX9_further_18 (Nat.le_of_ble_eq_true rfl) rfl ?_
    refine aw_iload_n dX9_further_19 rfl ?_
    refine aw_iload_n dX9_further_20 rfl ?_
    refine aw_icmp_ne (tgt := 28) dX9_further_21 rfl (fun h21 => ?_) (fun h21 => ?_)
    · rw [nI_eq (by omega) (by omega)] at h21
      refine aw_iload_n dX9_further_28 rfl ?_
      refine aw_iret dX9_further_29 rfl (rb0 (Nat.zero_le _)) ⟨rfl, _, rfl, ?_, rfl, rfl⟩
      have e : foI (sTn st) i = if (i + u) % nT st = i then -1 else nI ((i + u) % nT st) := by rw [hu]; rfl
      rw [e]
      first
        | (rw [if_pos h21]; done)
        | (rw [if_neg h21]; done)
    · rw [nI_eq (by omega) (by omega)] at h21
      refine aw_iconst (v := (-1)) dX9_further_24 kc_m1 ?_
      refine aw_goto (tgt := 29) dX9_further_25 rfl ?_
      refine aw_iret dX9_further_29 rfl (rb0 (Nat.zero_le _)) ⟨rfl, _, rfl, ?_, rfl, rfl⟩
      have e : foI (sTn st) i = if (i + u) % nT st = i then -1 else nI ((i + u) % nT st) := by rw [hu]; rfl
      rw [e]
      first
        | (rw [if_pos h21]; done)
        | (rw [if_neg h21]; done)
  · (rw [nI_leI (by omega) (by omega)] at h5; omega)
theorem lo_set2 {G : GC} {E : SH} {iv : IV} {lv : LV} {T Y : Nat} {st : PS} {v0 : TV} (hT : TownS G E T) (hY : ReadS G E Y) (hYT : Y + 1 < T) (hp : PR Y st iv) (hW : WP st) (hg : gdP st) : ∀ (c i : Nat) (jv : IV) (j3 : Option Value), i + c = nT st → SV T st i jv → frT T jv iv → AW G mX9_settle (rm 2 0) (Z0 G 2 E (fun r i0 l => r = none ∧ (TF T (sTn st) 0 (fun _ => vTn st v0) i0 ∧ frT T i0 iv ∧ l = lv))) (fun _ => True) E.1 44 [some (.ref T), some (.ref Y), some (.int (nI i)), j3] [] E jv lv := by
  have h40 := hW.1
  have hg1 : st.1 % 5 = 0 := hg.1
  have hg2 : 15 ≤ st.1 := hg.2
  have hn7 : nT st ≤ 7 := by show st.1 / 5 - 1 ≤ 7; omega
  have hn5 : ∀ i, i < nT st → 5 * (i + 1) + 4 < st.1 := fun i hi => by
    replace hi : i < st.1 / 5 - 1 := hi
    omega
  intro c
  induction c with
  | zero =>
    intro i jv j3 hi hv hq
    have hi : i = nT st := by omega
    subst hi
    refine aw_iload_n dX9_settle_44 rfl ?_
    refine aw_aload_n dX9_settle_45 rfl ?_
    refine aw_getI dX9_settle_46 fgX9_9 rfl (TownS.s0 hT) ?_
    refine aw_icmp_ge (tgt := 137) dX9_settle_49 rfl (fun h49 => ?_) (fun h49 => absurd (by rw [hv.1]; exact nI_le (Nat.le_refl _) (by omega)) h49)
    refine aw_aload_n dX9_settle_137 rfl ?_
    refine aw_iconst (v := nI 0) dX9_settle_138 kc_0 ?_
    refine aw_putI dX9_settle_139 fpX9_18 rfl (TownS.s0 hT) ?_
    refine aw_aload_n dX9_settle_142 rfl ?_
    refine aw_xVv [] dX9_settle_143 cvX9_101 (TownS.s0 hT) (t_startAnew hT) rfl rfl (Nat.le_of_ble_eq_true rfl) (rb0 (by decide)) ?_
    refine aw_vret dX9_settle_146 rfl (rb0 (Nat.zero_le _)) ⟨rfl, rfl, ⟨⟨?_, ?_, fun i hi => ?_, fun c hc => ?_⟩, ?_, ⟨fun i hi => ?_, fun c hc => ?_⟩, fun d hd => absurd hd (Nat.not_lt_zero d)⟩, fun b hb => ?_, rfl⟩
    · rw [sta_T, va_up_s]; exact hv.1
    · rw [sta_T, va_up_s]; rfl
    · replace hi : i < nT st := hi
      have h := hv.2.2 i hi
      refine ⟨?_, ?_, ?_, ?_, ?_⟩
      · rw [sta_o (by omega) (by omega), va_up_n (by omega)]; exact h.1
      · rw [sta_o (by omega) (by omega), va_up_n (by omega)]; exact h.2.1
      · rw [sta_o (by omega) (by omega), va_up_n (by omega)]; exact h.2.2.1
      · show _ = nI (vTn st v0 (6 + i))
        rw [vTn_g st v0 (i := i) hn7 hi]
        unfold staM
        rw [cpF_o (by omega), cpF_s (by omega), cpF_o (by omega), va_up_n (by omega), va_up_n (by omega)]; exact h.2.2.2.1
      · show _ = nI (vTn st v0 (13 + i))
        rw [vTn_s st v0 hi]
        unfold staM
        rw [cpF_s (by omega), cpF_o (by omega), cpF_o (by omega), va_up_n (by omega), va_up_n (by omega)]; exact h.2.2.2.2
    · show _ = nI (vTn st v0 (1 + c))
      rw [vTn_d st v0 hc]
      unfold staM
      rw [cpF_o (by omega), cpF_o (by omega), cpF_s (by omega), va_up_n (by omega), va_up_n (by omega)]; exact hv.2.1 c hc
    · rw [sta_T, va_up_s]; rfl
    · replace hi : i < nT st := hi
      have h := hv.2.2 i hi
      show _ = nI (vTn st v0 (6 + i)) ∧ _ = nI (vTn st v0 (13 + i))
      rw [vTn_g st v0 (i := i) hn7 hi, vTn_s st v0 hi, sta_o (by omega) (by omega), sta_o (by omega) (by omega), va_up_n (by omega), va_up_n (by omega)]
      exact ⟨h.2.2.2.1, h.2.2.2.2⟩
    · show _ = nI (vTn st v0 (1 + c))
      rw [vTn_d st v0 hc, sta_o (by omega) (by omega), va_up_n (by omega)]; exact hv.2.1 c hc
    · rw [sta_o (by omega) (by omega), va_up_n (by omega)]; exact hq b hb
  | succ c ih =>
    intro i jv j3 hi hv hq
    have hi2 : i < nT st := by omega
    have h54 := hn5 i hi2
    have hvj : jv (Y + 1) = iv (Y + 1) := hq _ (by omega)
    have hu9 := (hW.2 (5 * (i + 1) + 2) (by omega)).1
    refine aw_iload_n dX9_settle_44 rfl ?_
    refine aw_aload_n dX9_settle_45 rfl ?_
    refine aw_getI dX9_settle_46 fgX9_9 rfl (TownS.s0 hT) ?_
    refine aw_icmp_ge (tgt := 137) dX9_settle_49 rfl (fun h49 => absurd h49 (by rw [hv.1]; exact nI_ge (by omega) (by omega))) (fun h49 => ?_)
    refine aw_iconst (v := nI 5) dX9_settle_52 kc_5 ?_
    refine aw_iload_n dX9_settle_53 rfl ?_
    refine aw_iconst (v := nI 1) dX9_settle_54 kc_1 ?_
    refine aw_iadd dX9_settle_55 ?_
    rw [nI_add]
    refine aw_imul dX9_settle_56 ?_
    rw [pk_mul]
    refine aw_istore_n (lo' := [_,_,_,_]) dX9_settle_57 (Nat.le_of_ble_eq_true rfl) rfl ?_
    refine aw_aload_n dX9_settle_58 rfl ?_
    refine aw_getR dX9_settle_59 fgX9_43 rfl (TownS.s0 hT) (TownS.r0_4 hT) ?_
    refine aw_iload_n dX9_settle_62 rfl ?_
    refine aw_aload_n dX9_settle_63 rfl ?_
    refine aw_getR dX9_settle_64 fgX9_95 rfl (ReadS.s0 hY) (ReadS.r0_0 hY) ?_
    refine aw_iload_n dX9_settle_67 rfl ?_
    refine aw_iaload dX9_settle_68 (ReadS.s1 hY) rfl (by omega) ?_
    rw [hvj, hp.2 (5 * (i + 1)) (by omega)]
    refine aw_iastore dX9_settle_69 (TownS.s8 hT) rfl (by omega) ?_
    refine aw_aload_n dX9_settle_70 rfl ?_
    refine aw_getR dX9_settle_71 fgX9_47 rfl (TownS.s0 hT) (TownS.r0_5 hT) ?_
    refine aw_iload_n dX9_settle_74 rfl ?_
    refine aw_aload_n dX9_settle_75 rfl ?_
    refine aw_getR dX9_settle_76 fgX9_95 rfl (ReadS.s0 hY) (ReadS.r0_0 hY) ?_
    refine aw_iload_n dX9_settle_79 rfl ?_
    refine aw_iconst (v := nI 1) dX9_settle_80 kc_1 ?_
    refine aw_iadd dX9_settle_81 ?_
    refine aw_iaload dX9_settle_82 (ReadS.s1 hY) (show nI (5 * (i + 1)) + nI 1 = nI (5 * (i + 1) + 1) by rw [nI_add]) (by omega) ?_
    rw [va_up_n (by omega), hvj, hp.2 (5 * (i + 1) + 1) (by omega)]
    refine aw_iastore dX9_settle_83 (TownS.s9 hT) rfl (by omega) ?_
    refine aw_aload_n dX9_settle_84 rfl ?_
    refine aw_getR dX9_settle_85 fgX9_50 rfl (TownS.s0 hT) (TownS.r0_6 hT) ?_
    refine aw_iload_n dX9_settle_88 rfl ?_
    refine aw_aload_n dX9_settle_89 rfl ?_
    refine aw_iload_n dX9_settle_90 rfl ?_
    refine aw_aload_n dX9_settle_91 rfl ?_
    refine aw_getR dX9_settle_92 fgX9_95 rfl (ReadS.s0 hY) (ReadS.r0_0 hY) ?_
    refine aw_iload_n dX9_settle_95 rfl ?_
    refine aw_iconst (v := nI 2) dX9_settle_96 kc_2 ?_
    refine aw_iadd dX9_settle_97 ?_
    refine aw_iaload dX9_settle_98 (ReadS.s1 hY) (show nI (5 * (i + 1)) + nI 2 = nI (5 * (i + 1) + 2) by rw [nI_add]) (by omega) ?_
    rw [va_up_n (by omega), va_up_n (by omega), hvj, hp.2 (5 * (i + 1) + 2) (by omega)]
    refine aw_xVi [_, _] dX9_settle_99 cvX9_98 (TownS.s0 hT) (t_further hT (by rw [va_up_n (by omega), va_up_n (by omega)]; exact hv.1) hn7 hi2 rfl hu9) rfl rfl (Nat.le_of_ble_eq_true rfl) (rb0 (by decide)) ?_
    refine aw_iastore dX9_settle_102 (TownS.s10 hT) rfl (by omega) ?_
    refine aw_aload_n dX9_settle_103 rfl ?_
    refine aw_getR dX9_settle_104 fgX9_62 rfl (TownS.s0 hT) (TownS.r0_10 hT) ?_
    refine aw_iload_n dX9_settle_107 rfl ?_
    refine aw_aload_n dX9_settle_108 rfl ?_
    refine aw_getR dX9_settle_109 fgX9_95 rfl (ReadS.s0 hY) (ReadS.r0_0 hY) ?_
    refine aw_iload_n dX9_settle_112 rfl ?_
    refine aw_iconst (v := nI 3) dX9_settle_113 kc_3 ?_
    refine aw_iadd dX9_settle_114 ?_
    refine aw_iaload dX9_settle_115 (ReadS.s1 hY) (show nI (5 * (i + 1)) + nI 3 = nI (5 * (i + 1) + 3) by rw [nI_add]) (by omega) ?_
    rw [va_up_n (by omega), va_up_n (by omega), va_up_n (by omega), hvj, hp.2 (5 * (i + 1) + 3) (by omega)]
    refine aw_iastore dX9_settle_116 (TownS.s14 hT) rfl (by omega) ?_
    refine aw_aload_n dX9_settle_117 rfl ?_
    refine aw_getR dX9_settle_118 fgX9_65 rfl (TownS.s0 hT) (TownS.r0_11 hT) ?_
    refine aw_iload_n dX9_settle_121 rfl ?_
    refine aw_aload_n dX9_settle_122 rfl ?_
    refine aw_getR dX9_settle_123 fgX9_95 rfl (ReadS.s0 hY) (ReadS.r0_0 hY) ?_
    refine aw_iload_n dX9_settle_126 rfl ?_
    refine aw_iconst (v := nI 4) dX9_settle_127 kc_4 ?_
    refine aw_iadd dX9_settle_128 ?_
    refine aw_iaload dX9_settle_129 (ReadS.s1 hY) (show nI (5 * (i + 1)) + nI 4 = nI (5 * (i + 1) + 4) by rw [nI_add]) (by omega) ?_
    rw [va_up_n (by omega), va_up_n (by omega), va_up_n (by omega), va_up_n (by omega), hvj, hp.2 (5 * (i + 1) + 4) (by omega)]
    refine aw_iastore dX9_settle_130 (TownS.s15 hT) rfl (by omega) ?_
    refine aw_iinc (v := _) (lo' := [_,_,_,_]) dX9_settle_131 rfl (nI_1 i) rfl ?_
    refine aw_goto (tgt := 44) dX9_settle_134 rfl ?_
    refine ih (i + 1) _ _ (by omega) ⟨?_, fun q hq2 => ?_, fun a ha => ?_⟩ (fun b hb => ?_)
    · rw [va_up_n (by omega), va_up_n (by omega), va_up_n (by omega), va_up_n (by omega), va_up_n (by omega)]; exact hv.1
    · rw [va_up_n (by omega), va_up_n (by omega), va_up_n (by omega), va_up_n (by omega), va_up_n (by omega)]; exact hv.2.1 q hq2
    · rw [va_up_n (show T + 8 ≠ T + 15 by omega), va_up_n (show T + 8 ≠ T + 14 by omega), va_up_n (show T + 8 ≠ T + 10 by omega), va_up_n (show T + 8 ≠ T + 9 by omega), va_up_s, va_up_n (show T + 9 ≠ T + 15 by omega), va_up_n (show T + 9 ≠ T + 14 by omega), va_up_n (show T + 9 ≠ T + 10 by omega), va_up_s, va_up_n (show T + 10 ≠ T + 15 by omega), va_up_n (show T + 10 ≠ T + 14 by omega), va_up_s, va_up_n (show T + 14 ≠ T + 15 by omega), va_up_s, va_up_s]
      by_cases e : a = i
      · subst e
        exact ⟨if_pos rfl, if_pos rfl, if_pos rfl, if_pos rfl, if_pos rfl⟩
      · have h := hv.2.2 a (by omega)
        simp only [va_up_n (show T + 9 ≠ T + 8 by omega), va_up_n (show T + 10 ≠ T + 9 by omega), va_up_n (show T + 10 ≠ T + 8 by omega), va_up_n (show T + 14 ≠ T + 10 by omega), va_up_n (show T + 14 ≠ T + 9 by omega), va_up_n (show T + 14 ≠ T + 8 by omega), va_up_n (show T + 15 ≠ T + 14 by omega), va_up_n (show T + 15 ≠ T + 10 by omega), va_up_n (show T + 15 ≠ T + 9 by omega), va_up_n (show T + 15 ≠ T + 8 by omega)]
        exact ⟨(if_neg e).trans h.1, (if_neg e).trans h.2.1, (if_neg e).trans h.2.2.1, (if_neg e).trans h.2.2.2.1, (if_neg e).trans h.2.2.2.2⟩
    · rw [va_up_n (by omega), va_up_n (by omega), va_up_n (by omega), va_up_n (by omega), va_up_n (by omega)]; exact hq b hb
theorem lo_set1 {G : GC} {E : SH} {iv : IV} {lv : LV} {T Y : Nat} {st : PS} {v0 : TV} (hT : TownS G E T) (hY : ReadS G E Y) (hYT : Y + 1 < T) (hp : PR Y st iv) (hW : WP st) (hg : gdP st) : ∀ (e c : Nat) (jv : IV), c + e = 5 → jv T 0 = nI (nT st) → (∀ q, q < c → jv (T + 16) q = nI (st.2 q)) → frT T jv iv → AW G mX9_settle (rm 2 0) (Z0 G 2 E (fun r i0 l => r = none ∧ (TF T (sTn st) 0 (fun _ => vTn st v0) i0 ∧ frT T i0 iv ∧ l = lv))) (fun _ => True) E.1 19 [some (.ref T), some (.ref Y), some (.int (nI c)), none] [] E jv lv := by
  have h40 := hW.1
  have hg1 : st.1 % 5 = 0 := hg.1
  have hg2 : 15 ≤ st.1 := hg.2
  have hn7 : nT st ≤ 7 := by show st.1 / 5 - 1 ≤ 7; omega
  have hn5 : ∀ i, i < nT st → 5 * (i + 1) + 4 < st.1 := fun i hi => by
    replace hi : i < st.1 / 5 - 1 := hi
    omega
  intro e
  induction e with
  | zero =>
    intro c jv hc h0 hv hq
    have hc : c = 5 := by omega
    subst hc
    refine aw_iload_n dX9_settle_19 rfl ?_
    refine aw_iconst (v := nI 5) dX9_settle_20 kc_5 ?_
    refine aw_icmp_ge (tgt := 42) dX9_settle_21 rfl (fun h21 => ?_) (fun h21 => absurd (by decide) h21)
    refine aw_iconst (v := nI 0) dX9_settle_42 kc_0 ?_
    refine aw_istore_n (lo' := [_,_,_,_]) dX9_settle_43 (Nat.le_of_ble_eq_true rfl) rfl ?_
    exact lo_set2 (v0 := v0) hT hY hYT hp hW hg (nT st) 0 jv none (by omega) ⟨h0, hv, fun a ha => absurd ha (Nat.not_lt_zero a)⟩ hq
  | succ e ih =>
    intro c jv hc h0 hv hq
    have hvj : jv (Y + 1) = iv (Y + 1) := hq _ (by omega)
    refine aw_iload_n dX9_settle_19 rfl ?_
    refine aw_iconst (v := nI 5) dX9_settle_20 kc_5 ?_
    refine aw_icmp_ge (tgt := 42) dX9_settle_21 rfl (fun h21 => absurd h21 (nI_ge (by omega) (by decide))) (fun h21 => ?_)
    refine aw_aload_n dX9_settle_24 rfl ?_
    refine aw_getR dX9_settle_25 fgX9_68 rfl (TownS.s0 hT) (TownS.r0_12 hT) ?_
    refine aw_iload_n dX9_settle_28 rfl ?_
    refine aw_aload_n dX9_settle_29 rfl ?_
    refine aw_getR dX9_settle_30 fgX9_95 rfl (ReadS.s0 hY) (ReadS.r0_0 hY) ?_
    refine aw_iload_n dX9_settle_33 rfl ?_
    refine aw_iaload dX9_settle_34 (ReadS.s1 hY) rfl (by omega) ?_
    rw [hvj, hp.2 c (by omega)]
    refine aw_iastore dX9_settle_35 (TownS.s16 hT) rfl (by omega) ?_
    refine aw_iinc (v := _) (lo' := [_,_,_,_]) dX9_settle_36 rfl (nI_1 c) rfl ?_
    refine aw_goto (tgt := 19) dX9_settle_39 rfl ?_
    refine ih (c + 1) _ (by omega) (by rw [va_up_n (by omega)]; exact h0) (fun q hq2 => ?_) (fun b hb => by rw [va_up_n (by omega)]; exact hq b hb)
    rw [va_up_s]
    by_cases e : q = c
    · subst e; exact if_pos rfl
    · exact (if_neg e).trans (hv q (by omega))
theorem t_settle {G : GC} {E : SH} {iv : IV} {lv : LV} {T Y : Nat} {st : PS} {v0 : TV} (hT : TownS G E T) (hY : ReadS G E Y) (hYT : Y + 1 < T) (hp : PR Y st iv) (hW : WP st) (hg : gdP st) : SpV G mX9_settle 2 [.ref T, .ref Y] E iv lv (fun i0 l => TF T (sTn st) 0 (fun _ => vTn st v0) i0 ∧ frT T i0 iv ∧ l = lv) := by
  have h40 := hW.1
  have hg1 : st.1 % 5 = 0 := hg.1
  have hg2 : 15 ≤ st.1 := hg.2
  have hn7 : nT st ≤ 7 := by show st.1 / 5 - 1 ≤ 7; omega
  have hn5 : ∀ i, i < nT st → 5 * (i + 1) + 4 < st.1 := fun i hi => by
    replace hi : i < st.1 / 5 - 1 := hi
    omega
  refine spec0_of (lo := [_,_,_,_]) (by decide) (Nat.le_of_ble_eq_true rfl) rfl ?_
  refine aw_aload_n dX9_settle_0 rfl ?_
  refine aw_iconst (v := nI 0) dX9_settle_1 kc_0 ?_
  refine aw_bipush (v := nI 7) dX9_settle_2 kb_7 ?_
  refine aw_aload_n dX9_settle_4 rfl ?_
  refine aw_xVi [] dX9_settle_5 cvX9_80 (ReadS.s0 hY) (e_howMany hY (by omega) h40 hp.1) rfl rfl (Nat.le_of_ble_eq_true rfl) (rb0 (by decide)) ?_
  refine aw_mmin dX9_settle_8 mjX9_86 st_min in_java_lang_Math cdJ9_min_7cf53 (Nat.le_of_ble_eq_true rfl) (rb0 (by decide)) ?_
  rw [mmin_n (by omega) (by omega)]
  refine aw_mmax dX9_settle_11 mjX9_92 st_max in_java_lang_Math cdJ9_max_7cf53 (Nat.le_of_ble_eq_true rfl) (rb0 (by decide)) ?_
  rw [mmax_n (by omega) (by omega), show max 0 (min 7 (st.1 / 5 - 1)) = nT st by show _ = st.1 / 5 - 1; omega]
  refine aw_putI dX9_settle_14 fpX9_9 rfl (TownS.s0 hT) ?_
  refine aw_iconst (v := nI 0) dX9_settle_17 kc_0 ?_
  refine aw_istore_n (lo' := [_,_,_,_]) dX9_settle_18 (Nat.le_of_ble_eq_true rfl) rfl ?_
  exact lo_set1 (v0 := v0) hT hY hYT hp hW hg 5 0 _ (by omega) (by rw [va_up_s]; rfl) (fun q h => absurd h (Nat.not_lt_zero q)) (fun b hb => va_up_n (by omega))
