/-! looking ahead: what the outlook holds d days on -/
theorem bec_o {T U b : Nat} {iv : IV} (h1 : b ≠ T) (h2 : b < T + 8 ∨ T + 14 ≤ b) : becM T U iv b = iv b := by
  unfold becM
  rw [cpF_o (by omega), cpF_o (by omega), cpF_o (by omega), cpF_o (by omega), cpF_o (by omega), cpF_o (by omega), va_up_n h1, va_up_n h1]
theorem bec_T {T U : Nat} {iv : IV} (h : U ≠ T) : becM T U iv T = upd (upd (iv T) 0 (iv U 0)) 1 (iv U 1) := by
  unfold becM
  rw [cpF_o (by omega), cpF_o (by omega), cpF_o (by omega), cpF_o (by omega), cpF_o (by omega), cpF_o (by omega), va_up_s, va_up_s, va_up_n h]
theorem TR_bec {T U : Nat} {s : TS} {v : TV} {iv : IV} (h7 : s.1 ≤ 7) (hd : U + 20 ≤ T ∨ T + 20 ≤ U) (h : TR U s v iv) : TR T s v (becM T U iv) := by
  refine ⟨by rw [bec_T (by omega)]; exact h.1, by rw [bec_T (by omega)]; exact h.2.1, fun j hj => ?_, fun c hc => ?_⟩
  · have g := h.2.2.1 j hj
    unfold becM
    refine ⟨?_, ?_, ?_, ?_, ?_⟩
    · rw [cpF_o (by omega), cpF_o (by omega), cpF_o (by omega), cpF_o (by omega), cpF_o (by omega), cpF_s (by omega), va_up_n (by omega), va_up_n (by omega)]; exact g.1
    · rw [cpF_o (by omega), cpF_o (by omega), cpF_o (by omega), cpF_o (by omega), cpF_s (by omega), cpF_o (by omega), va_up_n (by omega), va_up_n (by omega)]; exact g.2.1
    · rw [cpF_o (by omega), cpF_o (by omega), cpF_o (by omega), cpF_s (by omega), cpF_o (by omega), cpF_o (by omega), va_up_n (by omega), va_up_n (by omega)]; exact g.2.2.1
    · rw [cpF_o (by omega), cpF_o (by omega), cpF_s (by omega), cpF_o (by omega), cpF_o (by omega), cpF_o (by omega), va_up_n (by omega), va_up_n (by omega)]; exact g.2.2.2.1
    · rw [cpF_o (by omega), cpF_s (by omega), cpF_o (by omega), cpF_o (by omega), cpF_o (by omega), cpF_o (by omega), va_up_n (by omega), va_up_n (by omega)]; exact g.2.2.2.2
  · unfold becM
    rw [cpF_s (by omega), cpF_o (by omega), cpF_o (by omega), cpF_o (by omega), cpF_o (by omega), cpF_o (by omega), va_up_n (by omega), va_up_n (by omega)]; exact h.2.2.2 c hc
theorem be_o {T U b : Nat} {iv : IV} (h : b < T ∨ T + 20 ≤ b) : beM T U iv b = iv b := by
  unfold beM
  rw [cpF_o (by omega), cpF_o (by omega), cpF_o (by omega), va_up_n (by omega), cpF_o (by omega), cpF_o (by omega), cpF_o (by omega), bec_o (by omega) (by omega)]
theorem TF_be {T U m : Nat} {s : TS} {lg : Nat → TV} {iv : IV} (h7 : s.1 ≤ 7) (hm : m ≤ 40) (hd : U + 20 ≤ T ∨ T + 20 ≤ U) (h : TF U s m lg iv) : TF T s m lg (beM T U iv) := by
  have e0 : ∀ b, T ≤ b → b < T + 14 → b ≠ T → beM T U iv b = becM T U iv b := fun b h1 h2 h3 => by
    unfold beM
    rw [cpF_o (by omega), cpF_o (by omega), cpF_o (by omega), va_up_n (by omega), cpF_o (by omega), cpF_o (by omega), cpF_o (by omega)]
  have eT : beM T U iv T = upd (becM T U iv T) 2 (iv U 2) := by
    unfold beM
    rw [cpF_o (by omega), cpF_o (by omega), cpF_o (by omega), va_up_s, cpF_o (by omega), cpF_o (by omega), cpF_o (by omega), cpF_o (by omega), cpF_o (by omega), cpF_o (by omega), bec_o (b := U) (by omega) (by omega)]
  refine ⟨TR_of (TR_bec h7 hd h.1) (by rw [eT]; rfl) (by rw [eT]; rfl) (fun b h1 h2 => e0 b (by omega) (by omega) (by omega)), by rw [eT]; exact h.2.1, ⟨fun i hi => ⟨?_, ?_⟩, fun c hc => ?_⟩, fun d hd2 => ?_⟩
  · unfold beM
    rw [cpF_o (by omega), cpF_o (by omega), cpF_o (by omega), va_up_n (by omega), cpF_o (by omega), cpF_o (by omega), cpF_s (by omega), bec_o (by omega) (by omega)]
    exact (h.2.2.1.1 i hi).1
  · unfold beM
    rw [cpF_o (by omega), cpF_o (by omega), cpF_o (by omega), va_up_n (by omega), cpF_o (by omega), cpF_s (by omega), cpF_o (by omega), bec_o (by omega) (by omega)]
    exact (h.2.2.1.1 i hi).2
  · unfold beM
    rw [cpF_o (by omega), cpF_o (by omega), cpF_o (by omega), va_up_n (by omega), cpF_s (by omega), cpF_o (by omega), cpF_o (by omega), bec_o (by omega) (by omega)]
    exact h.2.2.1.2 c hc
  · obtain ⟨δ, p, q, g1, g2, g3, g4⟩ := h.2.2.2 d hd2
    refine ⟨δ, p, q, ?_, ?_, ?_, g4⟩
    · unfold beM
      rw [cpF_o (by omega), cpF_o (by omega), cpF_s (by omega), va_up_n (by omega), cpF_o (by omega), cpF_o (by omega), cpF_o (by omega), bec_o (by omega) (by omega)]
      exact g1
    · unfold beM
      rw [cpF_o (by omega), cpF_s (by omega), cpF_o (by omega), va_up_n (by omega), cpF_o (by omega), cpF_o (by omega), cpF_o (by omega), bec_o (by omega) (by omega)]
      exact g2
    · unfold beM
      rw [cpF_s (by omega), cpF_o (by omega), cpF_o (by omega), va_up_n (by omega), cpF_o (by omega), cpF_o (by omega), cpF_o (by omega), bec_o (by omega) (by omega)]
      exact g3
def OS (O : Nat) (s : TS) (v : TV) (d : Nat) (iv : IV) : Prop := TR (O + 1) s v iv ∧ (∀ i, i < s.1 → iv (O + 21) i = nI (mood s v i)) ∧ (∀ i, i < s.1 → iv (O + 30) i = nI (passN s v d (6 + i))) ∧ iv O 5 = nI (v 0 + d)
/-- what thinking ahead may change -/
def frO (O : Nat) (i iv : IV) : Prop := (∀ b, b ≠ O → b ≠ O + 21 → b ≠ O + 30 → i b = iv b) ∧ i O 6 = iv O 6
theorem frO_tr {O : Nat} {i j k : IV} (h : frO O i j) (h2 : frO O j k) : frO O i k := ⟨fun b h1 h3 h4 => (h.1 b h1 h3 h4).trans (h2.1 b h1 h3 h4), h.2.trans h2.2⟩
theorem TR_frO {O : Nat} {s : TS} {v : TV} {i iv : IV} (h : TR (O + 1) s v iv) (hf : frO O i iv) : TR (O + 1) s v i := TR_of h (by rw [hf.1 _ (by omega) (by omega) (by omega)]) (by rw [hf.1 _ (by omega) (by omega) (by omega)]) (fun b h1 h2 => hf.1 b (by omega) (by omega) (by omega))
theorem mood_le (s : TS) (v : TV) (i : Nat) : mood s v i ≤ 2 := by unfold mood; split <;> (try split) <;> omega
theorem o_lookAt {G : GC} {E : SH} {iv : IV} {lv : LV} {O U : Nat} (hO : OutS G E O) (hU : TownS G E U) : ExV G mX3_lookAt 2 [.ref O, .ref U] E iv lv (becM (O + 1) U iv) lv := by
  refine spec0_of (lo := [_,_]) (by decide) (Nat.le_of_ble_eq_true rfl) rfl ?_
  refine aw_aload_n dX3_lookAt_0 rfl ?_
  refine aw_getR dX3_lookAt_1 fgX3_12 rfl (OutS.s0 hO) (OutS.r0_0 hO) ?_
  refine aw_aload_n dX3_lookAt_4 rfl ?_
  refine aw_xVv [_] dX3_lookAt_5 cvX3_50 (TownS.s0 (OutS.aside hO)) (t_becomeAside (OutS.aside hO) hU) rfl rfl (Nat.le_of_ble_eq_true rfl) (rb0 (by decide)) ?_
  refine aw_vret dX3_lookAt_8 rfl (rb0 (Nat.zero_le _)) ⟨rfl, rfl, rfl, rfl⟩
theorem lo_start {G : GC} {E : SH} {iv : IV} {lv : LV} {O : Nat} {s : TS} {v : TV} (hO : OutS G E O) (hs : WS s) (hr : TR (O + 1) s v iv) (hw : WV s v) : ∀ (c i : Nat) (jv : IV), i + c = s.1 → (∀ j, j < i → jv (O + 21) j = nI (mood s v j) ∧ jv (O + 30) j = nI (v (6 + j))) → jv O 5 = nI (v 0) → frO O jv iv → AW G mX3_startFromNow (rm 4 0) (Z0 G 4 E (fun r i0 l => r = none ∧ (OS O s v 0 i0 ∧ frO O i0 iv ∧ l = lv))) (fun _ => True) E.1 13 [some (.ref O), some (.int (nI i))] [] E jv lv := by
  have h7 := hs.1
  intro c
  induction c with
  | zero =>
    intro i jv hi hj h5 hf
    have hi : i = s.1 := by omega
    subst hi
    have hrj := TR_frO hr hf
    refine aw_iload_n dX3_startFromNow_13 rfl ?_
    refine aw_aload_n dX3_startFromNow_14 rfl ?_
    refine aw_getR dX3_startFromNow_15 fgX3_12 rfl (OutS.s0 hO) (OutS.r0_0 hO) ?_
    refine aw_getI dX3_startFromNow_18 fgX3_55 rfl (TownS.s0 (OutS.aside hO)) ?_
    refine aw_icmp_ge (tgt := 59) dX3_startFromNow_21 rfl (fun h21 => ?_) (fun h21 => absurd (by rw [hrj.1]; exact nI_le (Nat.le_refl _) (by omega)) h21)
    refine aw_vret dX3_startFromNow_59 rfl (rb0 (Nat.zero_le _)) ⟨rfl, rfl, ⟨hrj, fun i hi => (hj i hi).1, fun i hi => (hj i hi).2, h5⟩, hf, rfl⟩
  | succ c ih =>
    intro i jv hi hj h5 hf
    have hrj := TR_frO hr hf
    refine aw_iload_n dX3_startFromNow_13 rfl ?_
    refine aw_aload_n dX3_startFromNow_14 rfl ?_
    refine aw_getR dX3_startFromNow_15 fgX3_12 rfl (OutS.s0 hO) (OutS.r0_0 hO) ?_
    refine aw_getI dX3_startFromNow_18 fgX3_55 rfl (TownS.s0 (OutS.aside hO)) ?_
    refine aw_icmp_ge (tgt := 59) dX3_startFromNow_21 rfl (fun h21 => absurd h21 (by rw [hrj.1]; exact nI_ge (by omega) (by omega))) (fun h21 => ?_)
    refine aw_aload_n dX3_startFromNow_24 rfl ?_
    refine aw_getR dX3_startFromNow_25 fgX3_18 rfl (OutS.s0 hO) (OutS.r0_1 hO) ?_
    refine aw_iload_n dX3_startFromNow_28 rfl ?_
    refine aw_aload_n dX3_startFromNow_29 rfl ?_
    refine aw_getR dX3_startFromNow_30 fgX3_12 rfl (OutS.s0 hO) (OutS.r0_0 hO) ?_
    refine aw_iload_n dX3_startFromNow_33 rfl ?_
    refine aw_xVi [_] dX3_startFromNow_34 cvX3_58 (TownS.s0 (OutS.aside hO)) (t_moodOf (OutS.aside hO) hs hrj hw (i := i) (by omega)) rfl rfl (Nat.le_of_ble_eq_true rfl) (rb0 (by decide)) ?_
    refine aw_iastore dX3_startFromNow_37 (OutS.s21 hO) rfl (by omega) ?_
    refine aw_aload_n dX3_startFromNow_38 rfl ?_
    refine aw_getR dX3_startFromNow_39 fgX3_30 rfl (OutS.s0 hO) (OutS.r0_4 hO) ?_
    refine aw_iload_n dX3_startFromNow_42 rfl ?_
    refine aw_aload_n dX3_startFromNow_43 rfl ?_
    refine aw_getR dX3_startFromNow_44 fgX3_12 rfl (OutS.s0 hO) (OutS.r0_0 hO) ?_
    refine aw_getR dX3_startFromNow_47 fgX3_62 rfl (TownS.s0 (OutS.aside hO)) (TownS.r0_7 (OutS.aside hO)) ?_
    refine aw_iload_n dX3_startFromNow_50 rfl ?_
    refine aw_iaload dX3_startFromNow_51 (TownS.s11 (OutS.aside hO)) rfl (by omega) ?_
    rw [va_up_n (by omega), (hrj.2.2.1 i (by omega)).2.2.2.1]
    refine aw_iastore dX3_startFromNow_52 (OutS.s30 hO) rfl (by omega) ?_
    refine aw_iinc (v := _) (lo' := [_,_]) dX3_startFromNow_53 rfl (nI_1 i) rfl ?_
    refine aw_goto (tgt := 13) dX3_startFromNow_56 rfl ?_
    refine ih (i + 1) _ (by omega) (fun j hj2 => ?_) (by rw [va_up_n (by omega), va_up_n (by omega)]; exact h5) (frO_tr ⟨fun b h1 h2 h3 => by rw [va_up_n h3, va_up_n h2], by rw [va_up_n (by omega), va_up_n (by omega)]⟩ hf)
    rw [va_up_n (show O + 21 ≠ O + 30 by omega), va_up_s, va_up_s, va_up_n (show O + 30 ≠ O + 21 by omega)]
    unfold upd
    by_cases e : j = i
    · subst e; rw [if_pos rfl, if_pos rfl]; exact ⟨rfl, rfl⟩
    · rw [if_neg e, if_neg e]; exact hj j (by omega)
theorem o_start {G : GC} {E : SH} {iv : IV} {lv : LV} {O : Nat} {s : TS} {v : TV} (hO : OutS G E O) (hs : WS s) (hr : TR (O + 1) s v iv) (hw : WV s v) : SpV G mX3_startFromNow 4 [.ref O] E iv lv (fun i0 l => OS O s v 0 i0 ∧ frO O i0 iv ∧ l = lv) := by
  refine spec0_of (lo := [_,_]) (by decide) (Nat.le_of_ble_eq_true rfl) rfl ?_
  refine aw_aload_n dX3_startFromNow_0 rfl ?_
  refine aw_aload_n dX3_startFromNow_1 rfl ?_
  refine aw_getR dX3_startFromNow_2 fgX3_12 rfl (OutS.s0 hO) (OutS.r0_0 hO) ?_
  refine aw_getI dX3_startFromNow_5 fgX3_54 rfl (TownS.s0 (OutS.aside hO)) ?_
  rw [hr.2.1]
  refine aw_putI dX3_startFromNow_8 fpX3_33 rfl (OutS.s0 hO) ?_
  refine aw_iconst (v := nI 0) dX3_startFromNow_11 kc_0 ?_
  refine aw_istore_n (lo' := [_,_]) dX3_startFromNow_12 (Nat.le_of_ble_eq_true rfl) rfl ?_
  refine lo_start hO hs hr hw s.1 0 _ (by omega) (fun j hj => absurd hj (Nat.not_lt_zero j)) (by rw [va_up_s]; rfl) ⟨fun b h1 _ _ => va_up_n h1, by rw [va_up_s]; rfl⟩
theorem lo_foresee {G : GC} {E : SH} {iv : IV} {lv : LV} {O : Nat} {s : TS} {v : TV} (hO : OutS G E O) (hs : WS s) (hw : WV s v) {d : Nat} (hr : OS O s v d iv) (hd : v 0 + d + 1 < 2 ^ 20) : ∀ (c i : Nat) (jv : IV), i + c = s.1 → (∀ j, j < s.1 → jv (O + 30) j = nI (if j < i then passN s v (d + 1) (6 + j) else passN s v d (6 + j))) → (∀ b, b ≠ O + 30 → jv b = iv b) → AW G mX3_foreseeDay (rm 3 0) (Z0 G 3 E (fun r i0 l => r = none ∧ (OS O s v (d + 1) i0 ∧ frO O i0 iv ∧ l = lv))) (fun _ => True) E.1 2 [some (.ref O), some (.int (nI i))] [] E jv lv := by
  have h7 := hs.1
  have hwd := WV_passN hs hw d (by omega)
  intro c
  induction c with
  | zero =>
    intro i jv hi hj hf
    have hi : i = s.1 := by omega
    subst hi
    have hrj := TR_frO (i := jv) hr.1 ⟨fun b _ _ h => hf b h, by rw [hf O (by omega)]⟩
    refine aw_iload_n dX3_foreseeDay_2 rfl ?_
    refine aw_aload_n dX3_foreseeDay_3 rfl ?_
    refine aw_getR dX3_foreseeDay_4 fgX3_12 rfl (OutS.s0 hO) (OutS.r0_0 hO) ?_
    refine aw_getI dX3_foreseeDay_7 fgX3_55 rfl (TownS.s0 (OutS.aside hO)) ?_
    refine aw_icmp_ge (tgt := 52) dX3_foreseeDay_10 rfl (fun h10 => ?_) (fun h10 => absurd (by rw [hrj.1]; exact nI_le (Nat.le_refl _) (by omega)) h10)
    refine aw_aload_n dX3_foreseeDay_52 rfl ?_
    refine aw_dup dX3_foreseeDay_53 rfl ?_
    refine aw_getI dX3_foreseeDay_54 fgX3_33 rfl (OutS.s0 hO) ?_
    rw [hf O (by omega), hr.2.2.2]
    refine aw_iconst (v := nI 1) dX3_foreseeDay_57 kc_1 ?_
    refine aw_iadd dX3_foreseeDay_58 ?_
    rw [nI_add]
    refine aw_putI dX3_foreseeDay_59 fpX3_33 rfl (OutS.s0 hO) ?_
    refine aw_vret dX3_foreseeDay_62 rfl (rb0 (Nat.zero_le _)) ⟨rfl, rfl, ⟨?_, fun i hi => ?_, fun i hi => ?_, by rw [va_up_s]; rfl⟩, ⟨fun b h1 _ h3 => (va_up_n h1).trans (hf b h3), by rw [va_up_s, hf O (by omega)]; rfl⟩, rfl⟩
    · exact TR_of hrj (by rw [va_up_n (by omega)]) (by rw [va_up_n (by omega)]) (fun b h1 h2 => va_up_n (by omega))
    · rw [va_up_n (by omega), hf _ (by omega)]; exact hr.2.1 i hi
    · rw [va_up_n (by omega), hj i hi, if_pos hi]
  | succ c ih =>
    intro i jv hi hj hf
    have hrj := TR_frO (i := jv) hr.1 ⟨fun b _ _ h => hf b h, by rw [hf O (by omega)]⟩
    have h9 := hs.2 i (by omega)
    have h12 := hwd.1 i (by omega)
    refine aw_iload_n dX3_foreseeDay_2 rfl ?_
    refine aw_aload_n dX3_foreseeDay_3 rfl ?_
    refine aw_getR dX3_foreseeDay_4 fgX3_12 rfl (OutS.s0 hO) (OutS.r0_0 hO) ?_
    refine aw_getI dX3_foreseeDay_7 fgX3_55 rfl (TownS.s0 (OutS.aside hO)) ?_
    refine aw_icmp_ge (tgt := 52) dX3_foreseeDay_10 rfl (fun h10 => absurd h10 (by rw [hrj.1]; exact nI_ge (by omega) (by omega))) (fun h10 => ?_)
    refine aw_aload_n dX3_foreseeDay_13 rfl ?_
    refine aw_getR dX3_foreseeDay_14 fgX3_30 rfl (OutS.s0 hO) (OutS.r0_4 hO) ?_
    refine aw_iload_n dX3_foreseeDay_17 rfl ?_
    refine aw_aload_n dX3_foreseeDay_18 rfl ?_
    refine aw_getR dX3_foreseeDay_19 fgX3_12 rfl (OutS.s0 hO) (OutS.r0_0 hO) ?_
    refine aw_iload_n dX3_foreseeDay_22 rfl ?_
    refine aw_xVr [_] dX3_foreseeDay_23 cvX3_63 (TownS.s0 (OutS.aside hO)) (t_sortOf (OutS.aside hO) hs hrj (i := i) (by omega)) rfl rfl (Nat.le_of_ble_eq_true rfl) (rb0 (by decide)) ?_
    refine aw_aload_n dX3_foreseeDay_26 rfl ?_
    refine aw_getR dX3_foreseeDay_27 fgX3_30 rfl (OutS.s0 hO) (OutS.r0_4 hO) ?_
    refine aw_iload_n dX3_foreseeDay_30 rfl ?_
    refine aw_iaload dX3_foreseeDay_31 (OutS.s30 hO) rfl (by omega) ?_
    rw [hj i (by omega), if_neg (Nat.lt_irrefl i)]
    refine aw_aload_n dX3_foreseeDay_32 rfl ?_
    refine aw_getR dX3_foreseeDay_33 fgX3_18 rfl (OutS.s0 hO) (OutS.r0_1 hO) ?_
    refine aw_iload_n dX3_foreseeDay_36 rfl ?_
    refine aw_iaload dX3_foreseeDay_37 (OutS.s21 hO) rfl (by omega) ?_
    rw [hf _ (by omega), hr.2.1 i (by omega)]
    refine aw_aload_n dX3_foreseeDay_38 rfl ?_
    refine aw_getI dX3_foreseeDay_39 fgX3_33 rfl (OutS.s0 hO) ?_
    rw [hf O (by omega), hr.2.2.2]
    refine aw_xUi [_, _, _] dX3_foreseeDay_42 (cuX3_67 _ h9.1) (TownS.sort (OutS.aside hO) h9.1).1 (e_grudgeBehind h9.1 (TownS.sort (OutS.aside hO) h9.1).1 h12.1 (mood_le s v i) (d := v 0 + d) (by omega)) rfl rfl (Nat.le_of_ble_eq_true rfl) (rb0 (by decide)) ?_
    refine aw_iastore dX3_foreseeDay_45 (OutS.s30 hO) rfl (by omega) ?_
    refine aw_iinc (v := _) (lo' := [_,_]) dX3_foreseeDay_46 rfl (nI_1 i) rfl ?_
    refine aw_goto (tgt := 2) dX3_foreseeDay_49 rfl ?_
    refine ih (i + 1) _ (by omega) (fun j hj2 => ?_) (fun b hb => (va_up_n hb).trans (hf b hb))
    rw [va_up_s]
    unfold upd
    by_cases e : j = i
    · subst e
      rw [if_pos rfl, if_pos (by omega), passN, pass_g hj2, passN_0, mood_alk (passN_alk s hs.1 v d) (by rw [passN_alk s hs.1 v d _ (by omega)]; exact (hw.1 _ h9.2.2).2)]
    · rw [if_neg e, hj j hj2]
      by_cases e2 : j < i
      · rw [if_pos e2, if_pos (by omega)]
      · rw [if_neg e2, if_neg (by omega)]
theorem o_foresee {G : GC} {E : SH} {iv : IV} {lv : LV} {O : Nat} {s : TS} {v : TV} (hO : OutS G E O) (hs : WS s) (hw : WV s v) {d : Nat} (hr : OS O s v d iv) (hd : v 0 + d + 1 < 2 ^ 20) : SpV G mX3_foreseeDay 3 [.ref O] E iv lv (fun i0 l => OS O s v (d + 1) i0 ∧ frO O i0 iv ∧ l = lv) := by
  refine spec0_of (lo := [_,_]) (by decide) (Nat.le_of_ble_eq_true rfl) rfl ?_
  refine aw_iconst (v := nI 0) dX3_foreseeDay_0 kc_0 ?_
  refine aw_istore_n (lo' := [_,_]) dX3_foreseeDay_1 (Nat.le_of_ble_eq_true rfl) rfl ?_
  exact lo_foresee hO hs hw hr hd s.1 0 iv (by omega) (fun j hj => by rw [if_neg (by omega)]; exact hr.2.2.1 j hj) (fun _ _ => rfl)
theorem lo_total {G : GC} {E : SH} {iv : IV} {lv : LV} {O : Nat} {s : TS} {v : TV} (hO : OutS G E O) (hs : WS s) (hw : WV s v) {d : Nat} (hr : OS O s v d iv) (hd : v 0 + d < 2 ^ 20) : ∀ (c i : Nat), i + c = s.1 → AW G mX3_total (rm 1 0) (Z0 G 1 E (fun r i0 l => ∃ w, r = some (.int w) ∧ w = nI (tot s (passN s v d)) ∧ i0 = iv ∧ l = lv)) (fun _ => True) E.1 4 [some (.ref O), some (.int (nI (sumU (fun j => passN s v d (6 + j)) i))), some (.int (nI i))] [] E iv lv := by
  have h7 := hs.1
  have hwd := WV_passN hs hw d hd
  intro c
  induction c with
  | zero =>
    intro i hi
    have hi : i = s.1 := by omega
    subst hi
    refine aw_iload_n dX3_total_4 rfl ?_
    refine aw_aload_n dX3_total_5 rfl ?_
    refine aw_getR dX3_total_6 fgX3_12 rfl (OutS.s0 hO) (OutS.r0_0 hO) ?_
    refine aw_getI dX3_total_9 fgX3_55 rfl (TownS.s0 (OutS.aside hO)) ?_
    refine aw_icmp_ge (tgt := 30) dX3_total_12 rfl (fun h12 => ?_) (fun h12 => absurd (by rw [hr.1.1]; exact nI_le (Nat.le_refl _) (by omega)) h12)
    refine aw_iload_n dX3_total_30 rfl ?_
    refine aw_iret dX3_total_31 rfl (rb0 (Nat.zero_le _)) ⟨rfl, _, rfl, rfl, rfl, rfl⟩
  | succ c ih =>
    intro i hi
    refine aw_iload_n dX3_total_4 rfl ?_
    refine aw_aload_n dX3_total_5 rfl ?_
    refine aw_getR dX3_total_6 fgX3_12 rfl (OutS.s0 hO) (OutS.r0_0 hO) ?_
    refine aw_getI dX3_total_9 fgX3_55 rfl (TownS.s0 (OutS.aside hO)) ?_
    refine aw_icmp_ge (tgt := 30) dX3_total_12 rfl (fun h12 => absurd h12 (by rw [hr.1.1]; exact nI_ge (by omega) (by omega))) (fun h12 => ?_)
    refine aw_iload_n dX3_total_15 rfl ?_
    refine aw_aload_n dX3_total_16 rfl ?_
    refine aw_getR dX3_total_17 fgX3_30 rfl (OutS.s0 hO) (OutS.r0_4 hO) ?_
    refine aw_iload_n dX3_total_20 rfl ?_
    refine aw_iaload dX3_total_21 (OutS.s30 hO) rfl (by omega) ?_
    rw [hr.2.2.1 i (by omega)]
    refine aw_iadd dX3_total_22 ?_
    rw [nI_add]
    refine aw_istore_n (lo' := [_,_,_]) dX3_total_23 (Nat.le_of_ble_eq_true rfl) rfl ?_
    refine aw_iinc (v := _) (lo' := [_,_,_]) dX3_total_24 rfl (nI_1 i) rfl ?_
    refine aw_goto (tgt := 4) dX3_total_27 rfl ?_
    exact ih (i + 1) (by omega)
theorem o_total {G : GC} {E : SH} {iv : IV} {lv : LV} {O : Nat} {s : TS} {v : TV} (hO : OutS G E O) (hs : WS s) (hw : WV s v) {d : Nat} (hr : OS O s v d iv) (hd : v 0 + d < 2 ^ 20) : ExI G mX3_total 1 [.ref O] E iv lv (nI (tot s (passN s v d))) iv lv := by
  refine spec0_of (lo := [_,_,_]) (by decide) (Nat.le_of_ble_eq_true rfl) rfl ?_
  refine aw_iconst (v := nI 0) dX3_total_0 kc_0 ?_
  refine aw_istore_n (lo' := [_,_,_]) dX3_total_1 (Nat.le_of_ble_eq_true rfl) rfl ?_
  refine aw_iconst (v := nI 0) dX3_total_2 kc_0 ?_
  refine aw_istore_n (lo' := [_,_,_]) dX3_total_3 (Nat.le_of_ble_eq_true rfl) rfl ?_
  exact lo_total hO hs hw hr hd s.1 0 (by omega)
theorem lo_peace {G : GC} {E : SH} {iv : IV} {lv : LV} {O : Nat} {s : TS} {v : TV} (hO : OutS G E O) (hs : WS s) (hw : WV s v) {d : Nat} (hr : OS O s v d iv) (hd : v 0 + d < 2 ^ 20) : ∀ (c i : Nat), i + c = s.1 → AW G mX3_howManyAtPeace (rm 1 0) (Z0 G 1 E (fun r i0 l => ∃ w, r = some (.int w) ∧ w = nI (cntU (pclm (passN s v d)) s.1) ∧ i0 = iv ∧ l = lv)) (fun _ => True) E.1 4 [some (.ref O), some (.int (nI (cntU (pclm (passN s v d)) i))), some (.int (nI i))] [] E iv lv := by
  have h7 := hs.1
  have hwd := WV_passN hs hw d hd
  intro c
  induction c with
  | zero =>
    intro i hi
    have hi : i = s.1 := by omega
    subst hi
    refine aw_iload_n dX3_howManyAtPeace_4 rfl ?_
    refine aw_aload_n dX3_howManyAtPeace_5 rfl ?_
    refine aw_getR dX3_howManyAtPeace_6 fgX3_12 rfl (OutS.s0 hO) (OutS.r0_0 hO) ?_
    refine aw_getI dX3_howManyAtPeace_9 fgX3_55 rfl (TownS.s0 (OutS.aside hO)) ?_
    refine aw_icmp_ge (tgt := 33) dX3_howManyAtPeace_12 rfl (fun h12 => ?_) (fun h12 => absurd (by rw [hr.1.1]; exact nI_le (Nat.le_refl _) (by omega)) h12)
    refine aw_iload_n dX3_howManyAtPeace_33 rfl ?_
    refine aw_iret dX3_howManyAtPeace_34 rfl (rb0 (Nat.zero_le _)) ⟨rfl, _, rfl, rfl, rfl, rfl⟩
  | succ c ih =>
    intro i hi
    have h9 := hwd.1 i (by omega)
    refine aw_iload_n dX3_howManyAtPeace_4 rfl ?_
    refine aw_aload_n dX3_howManyAtPeace_5 rfl ?_
    refine aw_getR dX3_howManyAtPeace_6 fgX3_12 rfl (OutS.s0 hO) (OutS.r0_0 hO) ?_
    refine aw_getI dX3_howManyAtPeace_9 fgX3_55 rfl (TownS.s0 (OutS.aside hO)) ?_
    refine aw_icmp_ge (tgt := 33) dX3_howManyAtPeace_12 rfl (fun h12 => absurd h12 (by rw [hr.1.1]; exact nI_ge (by omega) (by omega))) (fun h12 => ?_)
    refine aw_aload_n dX3_howManyAtPeace_15 rfl ?_
    refine aw_getR dX3_howManyAtPeace_16 fgX3_30 rfl (OutS.s0 hO) (OutS.r0_4 hO) ?_
    refine aw_iload_n dX3_howManyAtPeace_19 rfl ?_
    refine aw_iaload dX3_howManyAtPeace_20 (OutS.s30 hO) rfl (by omega) ?_
    rw [hr.2.2.1 i (by omega)]
    refine aw_if_ne (tgt := 27) dX3_howManyAtPeace_21 rfl (fun h21 => ?_) (fun h21 => ?_)
    · rw [← nI_0, nI_eq (by omega) (by omega)] at h21
      refine aw_iinc (v := _) (lo' := [_,_,_]) dX3_howManyAtPeace_27 rfl (nI_1 i) rfl ?_
      refine aw_goto (tgt := 4) dX3_howManyAtPeace_30 rfl ?_
      have h := ih (i + 1) (by omega)
      rw [cntU] at h
      first
        | (rw [show pclm (passN s v d) i = false from decide_eq_false h21] at h
           exact h)
        | (rw [show pclm (passN s v d) i = true from decide_eq_true h21] at h
           exact h)
    · rw [← nI_0, nI_eq (by omega) (by omega)] at h21
      refine aw_iinc (v := _) (lo' := [_,_,_]) dX3_howManyAtPeace_24 rfl (nI_1 _) rfl ?_
      refine aw_iinc (v := _) (lo' := [_,_,_]) dX3_howManyAtPeace_27 rfl (nI_1 i) rfl ?_
      refine aw_goto (tgt := 4) dX3_howManyAtPeace_30 rfl ?_
      have h := ih (i + 1) (by omega)
      rw [cntU] at h
      first
        | (rw [show pclm (passN s v d) i = false from decide_eq_false h21] at h
           exact h)
        | (rw [show pclm (passN s v d) i = true from decide_eq_true h21] at h
           exact h)
theorem o_peace {G : GC} {E : SH} {iv : IV} {lv : LV} {O : Nat} {s : TS} {v : TV} (hO : OutS G E O) (hs : WS s) (hw : WV s v) {d : Nat} (hr : OS O s v d iv) (hd : v 0 + d < 2 ^ 20) : ExI G mX3_howManyAtPeace 1 [.ref O] E iv lv (nI (cntU (pclm (passN s v d)) s.1)) iv lv := by
  refine spec0_of (lo := [_,_,_]) (by decide) (Nat.le_of_ble_eq_true rfl) rfl ?_
  refine aw_iconst (v := nI 0) dX3_howManyAtPeace_0 kc_0 ?_
  refine aw_istore_n (lo' := [_,_,_]) dX3_howManyAtPeace_1 (Nat.le_of_ble_eq_true rfl) rfl ?_
  refine aw_iconst (v := nI 0) dX3_howManyAtPeace_2 kc_0 ?_
  refine aw_istore_n (lo' := [_,_,_]) dX3_howManyAtPeace_3 (Nat.le_of_ble_eq_true rfl) rfl ?_
  exact lo_peace hO hs hw hr hd s.1 0 (by omega)
theorem lo_behind {G : GC} {E : SH} {iv : IV} {lv : LV} {O : Nat} {s : TS} {v : TV} (hO : OutS G E O) (hs : WS s) (hr : TR (O + 1) s v iv) (hw : WV s v) {n : Nat} (hn : v 0 + n < 2 ^ 20) : ∀ (c i : Nat) (jv : IV), i + c = n → OS O s v i jv → frO O jv iv → AW G mX3_totalBehind (rm 5 0) (Z0 G 5 E (fun r i0 l => ∃ w, r = some (.int w) ∧ (w = nI (tot s (passN s v n)) ∧ OS O s v n i0 ∧ frO O i0 iv ∧ l = lv))) (fun _ => True) E.1 6 [some (.ref O), some (.int (nI n)), some (.int (nI i))] [] E jv lv := by
  intro c
  induction c with
  | zero =>
    intro i jv hi hj hf
    have hi : i = n := by omega
    subst hi
    refine aw_iload_n dX3_totalBehind_6 rfl ?_
    refine aw_iload_n dX3_totalBehind_7 rfl ?_
    refine aw_icmp_ge (tgt := 21) dX3_totalBehind_8 rfl (fun h8 => ?_) (fun h8 => absurd (nI_le (Nat.le_refl _) (by omega)) h8)
    refine aw_aload_n dX3_totalBehind_21 rfl ?_
    refine aw_xVi [] dX3_totalBehind_22 cvX3_79 (OutS.s0 hO) (o_total hO hs hw hj hn) rfl rfl (Nat.le_of_ble_eq_true rfl) (rb0 (by decide)) ?_
    refine aw_iret dX3_totalBehind_25 rfl (rb0 (Nat.zero_le _)) ⟨rfl, _, rfl, rfl, hj, hf, rfl⟩
  | succ c ih =>
    intro i jv hi hj hf
    refine aw_iload_n dX3_totalBehind_6 rfl ?_
    refine aw_iload_n dX3_totalBehind_7 rfl ?_
    refine aw_icmp_ge (tgt := 21) dX3_totalBehind_8 rfl (fun h8 => absurd h8 (nI_ge (by omega) (by omega))) (fun h8 => ?_)
    refine aw_aload_n dX3_totalBehind_11 rfl ?_
    refine aw_sVv [] dX3_totalBehind_12 cvX3_76 (OutS.s0 hO) (o_foresee hO hs hw hj (by omega)) rfl rfl (Nat.le_of_ble_eq_true rfl) (rb0 (by decide)) (fun kv klv hk => ?_)
    obtain ⟨k1, k2, rfl⟩ := hk
    refine aw_iinc (v := _) (lo' := [_,_,_]) dX3_totalBehind_15 rfl (nI_1 i) rfl ?_
    refine aw_goto (tgt := 6) dX3_totalBehind_18 rfl ?_
    exact ih (i + 1) kv (by omega) k1 (frO_tr k2 hf)
theorem o_behind {G : GC} {E : SH} {iv : IV} {lv : LV} {O : Nat} {s : TS} {v : TV} (hO : OutS G E O) (hs : WS s) (hr : TR (O + 1) s v iv) (hw : WV s v) {n : Nat} (hn : v 0 + n < 2 ^ 20) : SpI G mX3_totalBehind 5 [.ref O, .int (nI n)] E iv lv (fun w i0 l => w = nI (tot s (passN s v n)) ∧ OS O s v n i0 ∧ frO O i0 iv ∧ l = lv) := by
  refine spec0_of (lo := [_,_,_]) (by decide) (Nat.le_of_ble_eq_true rfl) rfl ?_
  refine aw_aload_n dX3_totalBehind_0 rfl ?_
  refine aw_sVv [] dX3_totalBehind_1 cvX3_73 (OutS.s0 hO) (o_start hO hs hr hw) rfl rfl (Nat.le_of_ble_eq_true rfl) (rb0 (by decide)) (fun kv klv hk => ?_)
  obtain ⟨k1, k2, rfl⟩ := hk
  refine aw_iconst (v := nI 0) dX3_totalBehind_4 kc_0 ?_
  refine aw_istore_n (lo' := [_,_,_]) dX3_totalBehind_5 (Nat.le_of_ble_eq_true rfl) rfl ?_
  exact lo_behind hO hs hr hw hn n 0 kv (by omega) k1 k2
