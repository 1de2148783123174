/-- the town stands otherwise in its deeds, nothing else has changed -/
theorem QD_set {M m m2 : Nat} {A : AA} {D : DD} {s : TS} {lg lg2 : Nat → TV} {kp : Nat → Option KL} {iv i : IV} {lv : LV} {o : RS} {x : Int32} (hA : MA M A iv lv) (hD : MD M D iv) (hT : MT M (s, (m, lg), kp) iv) (h3 : i M = upd (iv M) 20 (nI m2)) (h4 : ∀ b, b ≠ M → b ≠ M + 14 → b ≠ M + 12 → i b = iv b) (h5 : VR (M + 12) (lg2 m2) i) (h6 : ∀ d, d < m2 → ∀ k, k < 20 → i (M + 14) (20 * d + k) = nI (lg2 d k)) (e : o = (x, A, D, (s, (m2, lg2), kp))) : QD M iv lv o x i lv := by
  subst e
  have e1 : ∀ k, k ≠ 20 → i M k = iv M k := fun k hk => by rw [h3]; exact if_neg hk
  refine ⟨rfl, ⟨(e1 0 (by decide)).trans hA.1, (e1 3 (by decide)).trans hA.2.1, hA.2.2.1, hA.2.2.2.1, fun f hf => by rw [h4 _ (by omega) (by omega) (by omega)]; exact hA.2.2.2.2 f hf⟩, MD_of (h4 _ (by omega) (by omega) (by omega)) (h4 _ (by omega) (by omega) (by omega)) (h4 _ (by omega) (by omega) (by omega)) (h4 _ (by omega) (by omega) (by omega)) hD, ⟨SR_f (e1 14 (by decide)) (h4 _ (by omega) (by omega) (by omega)) (h4 _ (by omega) (by omega) (by omega)) (h4 _ (by omega) (by omega) (by omega)) hT.1, by rw [h3]; rfl, h5, h6, fun k hk e => by rw [h4 _ (by omega) (by omega) (by omega)]; exact hT.2.2.2.2.1 k hk e, fun k hk K e => ?_⟩, fun b hb => h4 b (by omega) (by omega) (by omega), fun _ _ => rfl⟩
  rw [h4 (M + 15) (by omega) (by omega) (by omega), h4 (M + 16) (by omega) (by omega) (by omega)]
  exact hT.2.2.2.2.2 k hk K e
theorem m_undo {G : GC} {E : SH} {iv : IV} {lv : LV} {M : Nat} (hM : MS G E M) {A : AA} {D : DD} {T : FT} (hA : MA M A iv lv) (hD : MD M D iv) (hT : MT M T iv) (hW : WT T) (n : Int32) : SpI G mX11_undo 2 [.ref M, .int n] E iv lv (QD M iv lv (oUndo A D T n)) := by
  obtain ⟨s, ⟨m, lg⟩, kp⟩ := T
  have hs : WS s := hW.1.1
  have hs7 : s.1 ≤ 7 := hs.1
  have hw : WV s (lg m) := nowW hW
  have hd : lg m 0 ≤ 40 := nowD hW
  have hr : SR M s iv := hT.1
  have hv : VR (M + 12) (lg m) iv := hT.2.2.1
  have h20 : iv M 20 = nI m := hT.2.1
  have hm : m ≤ 40 := hW.1.2.1
  refine spec0_of (lo := [_,_,_,_]) (by decide) (Nat.le_of_ble_eq_true rfl) rfl ?_
  refine aw_iload_n dX11_undo_0 rfl ?_
  refine aw_iconst (v := nI 0) dX11_undo_1 kc_0 ?_
  refine aw_aload_n dX11_undo_2 rfl ?_
  refine aw_getI dX11_undo_3 fgX11_129 rfl (MS.s0 hM) ?_
  rw [h20]
  refine aw_xSi [_, _, _] dX11_undo_6 csX11_76 (m_in n (nI 0) (nI m)) rfl rfl (Nat.le_of_ble_eq_true rfl) (rb0 (by decide)) ?_
  refine aw_if_ne (tgt := 14) dX11_undo_9 rfl (fun h9 => ?_) (fun h9 => ?_)
  · have hc := zI_n0.mp h9
    obtain ⟨u, hu, rfl⟩ := ix_le (n := n) (k := m) (Int32.not_lt.mpr hc.1) (Int32.not_lt.mpr hc.2) (by omega)
    refine aw_aload_n dX11_undo_14 rfl ?_
    refine aw_getI dX11_undo_15 fgX11_129 rfl (MS.s0 hM) ?_
    rw [h20]
    refine aw_iload_n dX11_undo_18 rfl ?_
    refine aw_isub dX11_undo_19 ?_
    rw [pk_sub hu]
    refine aw_istore_n (lo' := [_,_,_,_]) dX11_undo_20 (Nat.le_of_ble_eq_true rfl) rfl ?_
    refine aw_iconst (v := nI 0) dX11_undo_21 kc_0 ?_
    refine aw_istore_n (lo' := [_,_,_,_]) dX11_undo_22 (Nat.le_of_ble_eq_true rfl) rfl ?_
    have e : oUndo A D (s, (m, lg), kp) (nI u) = (nI (m - u), A, D, (s, (u, lg), kp)) := by
      dsimp only [oUndo]
      rw [if_neg (fun q => q.elim (fun q => absurd q (nI_pos (by omega))) (fun q => absurd q (nI_nlt hu (by omega)))), ix_nI (by omega)]
    by_cases hum : u < m
    · exact lo_undo hM hT hm hum (fun i0 q1 q2 q3 => ⟨_, rfl, QD_set hA hD hT q3 (fun b h1 h2 h3 => q2 b h3 h1) q1 (fun d hd k hk => by rw [q2 _ (by omega) (by omega)]; exact hT.2.2.2.1 d (by show d < m; omega) k hk) e⟩) 20 0 iv (by omega) (fun q h => absurd h (Nat.not_lt_zero q)) (fun _ _ => rfl)
    · have hum : u = m := by omega
      subst hum
      refine aw_iload_n dX11_undo_23 rfl ?_
      refine aw_bipush (v := nI 20) dX11_undo_24 kb_20 ?_
      refine aw_icmp_ge (tgt := 56) dX11_undo_26 rfl (fun h26 => absurd h26 (by decide)) (fun h26 => ?_)
      refine aw_iload_n dX11_undo_29 rfl ?_
      refine aw_if_le (tgt := 56) dX11_undo_30 rfl (fun h30 => ?_) (fun h30 => absurd (by rw [Nat.sub_self]; decide) h30)
      refine aw_aload_n dX11_undo_56 rfl ?_
      refine aw_iload_n dX11_undo_57 rfl ?_
      refine aw_putI dX11_undo_58 fpX11_129 rfl (MS.s0 hM) ?_
      refine aw_iload_n dX11_undo_61 rfl ?_
      refine aw_iret dX11_undo_62 rfl (rb0 (Nat.zero_le _)) ⟨rfl, _, rfl, ?_⟩
      exact QD_set hA hD hT va_up_s (fun b h1 h2 h3 => va_up_n h1) (fun q hq => by rw [va_up_n (by omega)]; exact hv q hq) (fun d hd k hk => by rw [va_up_n (by omega)]; exact hT.2.2.2.1 d hd k hk) e
  · have hc := zI_0.mp h9
    refine aw_iconst (v := (-1)) dX11_undo_12 kc_m1 ?_
    refine aw_iret dX11_undo_13 rfl (rb0 (Nat.zero_le _)) ⟨rfl, _, rfl, ?_⟩
    refine QD_no hA hD hT ?_
    refine if_pos ?_
    by_cases q : n < 0
    · exact Or.inl q
    · exact Or.inr (Int32.not_le.mp (fun q2 => hc ⟨Int32.not_lt.mp q, q2⟩))
theorem lo_keep2 {G : GC} {E : SH} {iv : IV} {lv : LV} {M : Nat} (hM : MS G E M) {m a : Nat} {v : TV} (hm : m ≤ 40) (ha : a < 3) (h20 : iv M 20 = nI m) (hv : VR (M + 12) v iv) {Q : Option Value → IV → LV → Prop} (hQ : ∀ i0, (∀ q, q < 20 → i0 (M + 16) (820 * a + q) = nI (v q)) → (∀ q, q < 20 * m → i0 (M + 16) (820 * a + 20 + q) = iv (M + 14) q) → (∀ e, ¬ (820 * a ≤ e ∧ e < 820 * a + 820) → i0 (M + 16) e = iv (M + 16) e) → (∀ b, b ≠ M + 16 → i0 b = iv b) → Q (some (.int (nI m))) i0 lv) : ∀ (c j : Nat) (jv : IV), j + c = 20 * m → (∀ q, q < 20 → jv (M + 16) (820 * a + q) = nI (v q)) → (∀ q, q < j → jv (M + 16) (820 * a + 20 + q) = iv (M + 14) q) → (∀ e, ¬ (820 * a ≤ e ∧ e < 820 * a + 820) → jv (M + 16) e = iv (M + 16) e) → (∀ b, b ≠ M + 16 → jv b = iv b) → AW G mX11_keep (rm 2 0) (Z0 G 2 E Q) (fun _ => True) E.1 65 [some (.ref M), some (.int (nI a)), some (.int (nI j))] [] E jv lv := by
  intro c
  induction c with
  | zero =>
    intro j jv hj h1 h2 h3 h4
    have hj : j = 20 * m := by omega
    subst hj
    have h20j : jv M 20 = nI m := by rw [h4 M (by omega)]; exact h20
    refine aw_iload_n dX11_keep_65 rfl ?_
    refine aw_bipush (v := nI 20) dX11_keep_66 kb_20 ?_
    refine aw_aload_n dX11_keep_68 rfl ?_
    refine aw_getI dX11_keep_69 fgX11_129 rfl (MS.s0 hM) ?_
    rw [h20j]
    refine aw_imul dX11_keep_72 ?_
    rw [pk_mul]
    refine aw_icmp_ge (tgt := 103) dX11_keep_73 rfl (fun h73 => ?_) (fun h73 => absurd (nI_le (Nat.le_refl _) (by omega)) h73)
    refine aw_aload_n dX11_keep_103 rfl ?_
    refine aw_getI dX11_keep_104 fgX11_129 rfl (MS.s0 hM) ?_
    rw [h20j]
    refine aw_iret dX11_keep_107 rfl (rb0 (Nat.zero_le _)) ⟨rfl, hQ jv h1 h2 h3 h4⟩
  | succ c ih =>
    intro j jv hj h1 h2 h3 h4
    have h20j : jv M 20 = nI m := by rw [h4 M (by omega)]; exact h20
    refine aw_iload_n dX11_keep_65 rfl ?_
    refine aw_bipush (v := nI 20) dX11_keep_66 kb_20 ?_
    refine aw_aload_n dX11_keep_68 rfl ?_
    refine aw_getI dX11_keep_69 fgX11_129 rfl (MS.s0 hM) ?_
    rw [h20j]
    refine aw_imul dX11_keep_72 ?_
    rw [pk_mul]
    refine aw_icmp_ge (tgt := 103) dX11_keep_73 rfl (fun h73 => absurd h73 (nI_ge (by omega) (by omega))) (fun h73 => ?_)
    refine aw_aload_n dX11_keep_76 rfl ?_
    refine aw_getR dX11_keep_77 fgX11_60 rfl (MS.s0 hM) (MS.r0_23 hM) ?_
    refine aw_sipush (v := nI 820) dX11_keep_80 ks_820 ?_
    refine aw_iload_n dX11_keep_83 rfl ?_
    refine aw_imul dX11_keep_84 ?_
    rw [pk_mul]
    refine aw_bipush (v := nI 20) dX11_keep_85 kb_20 ?_
    refine aw_iadd dX11_keep_87 ?_
    rw [nI_add]
    refine aw_iload_n dX11_keep_88 rfl ?_
    refine aw_iadd dX11_keep_89 ?_
    rw [nI_add]
    refine aw_aload_n dX11_keep_90 rfl ?_
    refine aw_getR dX11_keep_91 fgX11_54 rfl (MS.s0 hM) (MS.r0_21 hM) ?_
    refine aw_iload_n dX11_keep_94 rfl ?_
    refine aw_iaload dX11_keep_95 (MS.s14 hM) rfl (by omega) ?_
    rw [h4 (M + 14) (by omega)]
    refine aw_iastore dX11_keep_96 (MS.s16 hM) rfl (by omega) ?_
    refine aw_iinc (v := _) (lo' := [_,_,_]) dX11_keep_97 rfl (nI_1 j) rfl ?_
    refine aw_goto (tgt := 65) dX11_keep_100 rfl ?_
    refine ih (j + 1) _ (by omega) (fun q hq => ?_) (fun q hq => ?_) (fun e he => ?_) (fun b hb => by rw [va_up_n hb]; exact h4 b hb)
    · rw [va_up_s]
      exact (if_neg (by omega)).trans (h1 q hq)
    · rw [va_up_s]
      by_cases e : q = j
      · subst e; exact if_pos rfl
      · exact (if_neg (by omega)).trans (h2 q (by omega))
    · rw [va_up_s]
      exact (if_neg (by omega)).trans (h3 e he)
theorem lo_keep1 {G : GC} {E : SH} {iv : IV} {lv : LV} {M : Nat} (hM : MS G E M) {m a : Nat} {v : TV} (hm : m ≤ 40) (ha : a < 3) (h20 : iv M 20 = nI m) (hv : VR (M + 12) v iv) {Q : Option Value → IV → LV → Prop} (hQ : ∀ i0, (∀ q, q < 20 → i0 (M + 16) (820 * a + q) = nI (v q)) → (∀ q, q < 20 * m → i0 (M + 16) (820 * a + 20 + q) = iv (M + 14) q) → (∀ e, ¬ (820 * a ≤ e ∧ e < 820 * a + 820) → i0 (M + 16) e = iv (M + 16) e) → (∀ b, b ≠ M + 16 → i0 b = iv b) → Q (some (.int (nI m))) i0 lv) : ∀ (c j : Nat) (jv : IV), j + c = 20 → (∀ q, q < j → jv (M + 16) (820 * a + q) = nI (v q)) → (∀ e, ¬ (820 * a ≤ e ∧ e < 820 * a + 820) → jv (M + 16) e = iv (M + 16) e) → (∀ b, b ≠ M + 16 → jv b = iv b) → AW G mX11_keep (rm 2 0) (Z0 G 2 E Q) (fun _ => True) E.1 33 [some (.ref M), some (.int (nI a)), some (.int (nI j))] [] E jv lv := by
  intro c
  induction c with
  | zero =>
    intro j jv hj h1 h3 h4
    have hj : j = 20 := by omega
    subst hj
    refine aw_iload_n dX11_keep_33 rfl ?_
    refine aw_bipush (v := nI 20) dX11_keep_34 kb_20 ?_
    refine aw_icmp_ge (tgt := 63) dX11_keep_36 rfl (fun h36 => ?_) (fun h36 => absurd (by decide) h36)
    refine aw_iconst (v := nI 0) dX11_keep_63 kc_0 ?_
    refine aw_istore_n (lo' := [_,_,_]) dX11_keep_64 (Nat.le_of_ble_eq_true rfl) rfl ?_
    exact lo_keep2 hM hm ha h20 hv hQ (20 * m) 0 jv (by omega) h1 (fun q h => absurd h (Nat.not_lt_zero q)) h3 h4
  | succ c ih =>
    intro j jv hj h1 h3 h4
    refine aw_iload_n dX11_keep_33 rfl ?_
    refine aw_bipush (v := nI 20) dX11_keep_34 kb_20 ?_
    refine aw_icmp_ge (tgt := 63) dX11_keep_36 rfl (fun h36 => absurd h36 (nI_ge (by omega) (by decide))) (fun h36 => ?_)
    refine aw_aload_n dX11_keep_39 rfl ?_
    refine aw_getR dX11_keep_40 fgX11_60 rfl (MS.s0 hM) (MS.r0_23 hM) ?_
    refine aw_sipush (v := nI 820) dX11_keep_43 ks_820 ?_
    refine aw_iload_n dX11_keep_46 rfl ?_
    refine aw_imul dX11_keep_47 ?_
    rw [pk_mul]
    refine aw_iload_n dX11_keep_48 rfl ?_
    refine aw_iadd dX11_keep_49 ?_
    rw [nI_add]
    refine aw_aload_n dX11_keep_50 rfl ?_
    refine aw_getR dX11_keep_51 fgX11_48 rfl (MS.s0 hM) (MS.r0_18 hM) ?_
    refine aw_iload_n dX11_keep_54 rfl ?_
    refine aw_iaload dX11_keep_55 (MS.s12 hM) rfl (by omega) ?_
    rw [h4 (M + 12) (by omega), hv j (by omega)]
    refine aw_iastore dX11_keep_56 (MS.s16 hM) rfl (by omega) ?_
    refine aw_iinc (v := _) (lo' := [_,_,_]) dX11_keep_57 rfl (nI_1 j) rfl ?_
    refine aw_goto (tgt := 33) dX11_keep_60 rfl ?_
    refine ih (j + 1) _ (by omega) (fun q hq => ?_) (fun e he => ?_) (fun b hb => by rw [va_up_n hb]; exact h4 b hb)
    · rw [va_up_s]
      by_cases e : q = j
      · subst e; exact if_pos rfl
      · exact (if_neg (by omega)).trans (h1 q (by omega))
    · rw [va_up_s]
      exact (if_neg (by omega)).trans (h3 e he)
theorem m_keep {G : GC} {E : SH} {iv : IV} {lv : LV} {M : Nat} (hM : MS G E M) {A : AA} {D : DD} {T : FT} (hA : MA M A iv lv) (hD : MD M D iv) (hT : MT M T iv) (hW : WT T) (c : Int32) : SpI G mX11_keep 2 [.ref M, .int c] E iv lv (QD M iv lv (oKeep A D T c)) := by
  obtain ⟨s, ⟨m, lg⟩, kp⟩ := T
  have hs : WS s := hW.1.1
  have hs7 : s.1 ≤ 7 := hs.1
  have hw : WV s (lg m) := nowW hW
  have hd : lg m 0 ≤ 40 := nowD hW
  have hr : SR M s iv := hT.1
  have hv : VR (M + 12) (lg m) iv := hT.2.2.1
  have h20 : iv M 20 = nI m := hT.2.1
  have hm : m ≤ 40 := hW.1.2.1
  refine spec0_of (lo := [_,_,_]) (by decide) (Nat.le_of_ble_eq_true rfl) rfl ?_
  refine aw_iload_n dX11_keep_0 rfl ?_
  refine aw_iconst (v := nI 0) dX11_keep_1 kc_0 ?_
  refine aw_iconst (v := nI 2) dX11_keep_2 kc_2 ?_
  refine aw_xSi [_, _, _] dX11_keep_3 csX11_76 (m_in c (nI 0) (nI 2)) rfl rfl (Nat.le_of_ble_eq_true rfl) (rb0 (by decide)) ?_
  rw [zI_e (in_iff (k := 2) (by decide))]
  refine aw_if_ne (tgt := 11) dX11_keep_6 rfl (fun h6 => ?_) (fun h6 => ?_)
  · obtain ⟨j, hj, rfl⟩ := zi_of h6 (by decide)
    refine aw_aload_n dX11_keep_11 rfl ?_
    refine aw_getI dX11_keep_12 fgX11_126 rfl (MS.s0 hM) ?_
    rw [hr.1]
    refine aw_if_ne (tgt := 21) dX11_keep_15 rfl (fun h15 => ?_) (fun h15 => ?_)
    · rw [← nI_0, nI_eq (by omega) (by omega)] at h15
      have hnp : s.1 ≠ 0 := h15
      refine aw_aload_n dX11_keep_21 rfl ?_
      refine aw_getR dX11_keep_22 fgX11_57 rfl (MS.s0 hM) (MS.r0_22 hM) ?_
      refine aw_iload_n dX11_keep_25 rfl ?_
      refine aw_aload_n dX11_keep_26 rfl ?_
      refine aw_getI dX11_keep_27 fgX11_129 rfl (MS.s0 hM) ?_
      rw [h20]
      refine aw_iastore dX11_keep_30 (MS.s15 hM) rfl hj ?_
      refine aw_iconst (v := nI 0) dX11_keep_31 kc_0 ?_
      refine aw_istore_n (lo' := [_,_,_]) dX11_keep_32 (Nat.le_of_ble_eq_true rfl) rfl ?_
      have e : oKeep A D (s, (m, lg), kp) (nI j) = (nI m, A, D, (s, (m, lg), va_up kp j (some (m, lg)))) := by
        dsimp only [oKeep]
        rw [if_neg (nbad hj (by decide)), if_neg hnp, ix_nI (by omega)]
      rw [e]
      refine lo_keep1 hM hm hj (iv := va_up iv (M + 15) (upd (iv (M + 15)) j (nI m))) (v := lg m) (by rw [va_up_n (by omega)]; exact h20) (fun q hq => by rw [va_up_n (by omega)]; exact hv q hq) (fun i0 q1 q2 q3 q4 => ⟨_, rfl, ?_⟩) 20 0 _ (by omega) (fun q h => absurd h (Nat.not_lt_zero q)) (fun _ _ => rfl) (fun _ _ => rfl)
      have q5 : ∀ b, b ≠ M + 15 → b ≠ M + 16 → i0 b = iv b := fun b h1 h2 => by rw [q4 b h2, va_up_n h1]
      have hMM : i0 M = iv M := q5 M (by omega) (by omega)
      refine ⟨rfl, MA_of hA hMM (q5 _ (by omega) (by omega)), MD_of (q5 _ (by omega) (by omega)) (q5 _ (by omega) (by omega)) (q5 _ (by omega) (by omega)) (q5 _ (by omega) (by omega)) hD, ⟨SR_f (by rw [hMM]) (q5 _ (by omega) (by omega)) (q5 _ (by omega) (by omega)) (q5 _ (by omega) (by omega)) hr, by rw [hMM]; exact h20, fun q hq => by rw [q5 _ (by omega) (by omega)]; exact hv q hq, fun d hd k hk => by rw [q5 _ (by omega) (by omega)]; exact hT.2.2.2.1 d hd k hk, fun k hk e => ?_, fun k hk K e => ?_⟩, fun b hb => q5 b (by omega) (by omega), fun _ _ => rfl⟩
      · rw [q4 (M + 15) (by omega), va_up_s]
        replace e : va_up kp j (some (m, lg)) k = none := e
        by_cases q : k = j
        · subst q
          rw [va_up_s] at e; cases e
        · rw [va_up_n q] at e
          exact (if_neg q).trans (hT.2.2.2.2.1 k hk e)
      · rw [q4 (M + 15) (by omega), va_up_s]
        replace e : va_up kp j (some (m, lg)) k = some K := e
        by_cases q : k = j
        · subst q
          rw [va_up_s] at e; cases e
          refine ⟨if_pos rfl, q1, fun d hd i hi => ?_⟩
          replace hd : d < m := hd
          rw [q2 (20 * d + i) (by omega), va_up_n (by omega)]
          exact hT.2.2.2.1 d hd i hi
        · rw [va_up_n q] at e
          have hK := hT.2.2.2.2.2 k hk K e
          have hK40 : K.1 ≤ 40 := (hW.2.2 k hk K e).1.2.1
          refine ⟨(if_neg q).trans hK.1, fun i hi => ?_, fun d hd i hi => ?_⟩
          · rw [q3 _ (by omega), va_up_n (by omega)]; exact hK.2.1 i hi
          · rw [q3 _ (by omega), va_up_n (by omega)]; exact hK.2.2 d hd i hi
    · rw [← nI_0, nI_eq (by omega) (by omega)] at h15
      have hnp : s.1 = 0 := h15
      refine aw_bipush (v := (-4)) dX11_keep_18 kb_m4 ?_
      refine aw_iret dX11_keep_20 rfl (rb0 (Nat.zero_le _)) ⟨rfl, _, rfl, ?_⟩
      refine QD_no hA hD hT ?_
      dsimp only [oKeep, nowT]
      
      rw [if_neg (nbad hj (by decide)), if_pos hnp]
  · refine aw_iconst (v := (-1)) dX11_keep_9 kc_m1 ?_
    refine aw_iret dX11_keep_10 rfl (rb0 (Nat.zero_le _)) ⟨rfl, _, rfl, ?_⟩
    refine QD_no hA hD hT ?_
    exact if_pos (zi_bad h6)
theorem lo_on2 {G : GC} {E : SH} {iv : IV} {lv : LV} {M : Nat} (hM : MS G E M) {m a : Nat} (hm : m ≤ 40) (ha : a < 3) (h20 : iv M 20 = nI m) {Q : Option Value → IV → LV → Prop} (hQ : ∀ i0, (∀ q, q < 20 → i0 (M + 12) q = iv (M + 16) (820 * a + q)) → (∀ q, q < 20 * m → i0 (M + 14) q = iv (M + 16) (820 * a + 20 + q)) → (∀ b, b ≠ M + 12 → b ≠ M + 14 → i0 b = iv b) → Q (some (.int (nI m))) i0 lv) : ∀ (c j : Nat) (jv : IV), j + c = 20 * m → (∀ q, q < 20 → jv (M + 12) q = iv (M + 16) (820 * a + q)) → (∀ q, q < j → jv (M + 14) q = iv (M + 16) (820 * a + 20 + q)) → (∀ b, b ≠ M + 12 → b ≠ M + 14 → jv b = iv b) → AW G mX11_on (rm 2 0) (Z0 G 2 E Q) (fun _ => True) E.1 70 [some (.ref M), some (.int (nI a)), some (.int (nI j))] [] E jv lv := by
  intro c
  induction c with
  | zero =>
    intro j jv hj h1 h2 h4
    have hj : j = 20 * m := by omega
    subst hj
    have h20j : jv M 20 = nI m := by rw [h4 M (by omega) (by omega)]; exact h20
    refine aw_iload_n dX11_on_70 rfl ?_
    refine aw_bipush (v := nI 20) dX11_on_71 kb_20 ?_
    refine aw_aload_n dX11_on_73 rfl ?_
    refine aw_getI dX11_on_74 fgX11_129 rfl (MS.s0 hM) ?_
    rw [h20j]
    refine aw_imul dX11_on_77 ?_
    rw [pk_mul]
    refine aw_icmp_ge (tgt := 108) dX11_on_78 rfl (fun h78 => ?_) (fun h78 => absurd (nI_le (Nat.le_refl _) (by omega)) h78)
    refine aw_aload_n dX11_on_108 rfl ?_
    refine aw_getI dX11_on_109 fgX11_129 rfl (MS.s0 hM) ?_
    rw [h20j]
    refine aw_iret dX11_on_112 rfl (rb0 (Nat.zero_le _)) ⟨rfl, hQ jv h1 h2 h4⟩
  | succ c ih =>
    intro j jv hj h1 h2 h4
    have h20j : jv M 20 = nI m := by rw [h4 M (by omega) (by omega)]; exact h20
    refine aw_iload_n dX11_on_70 rfl ?_
    refine aw_bipush (v := nI 20) dX11_on_71 kb_20 ?_
    refine aw_aload_n dX11_on_73 rfl ?_
    refine aw_getI dX11_on_74 fgX11_129 rfl (MS.s0 hM) ?_
    rw [h20j]
    refine aw_imul dX11_on_77 ?_
    rw [pk_mul]
    refine aw_icmp_ge (tgt := 108) dX11_on_78 rfl (fun h78 => absurd h78 (nI_ge (by omega) (by omega))) (fun h78 => ?_)
    refine aw_aload_n dX11_on_81 rfl ?_
    refine aw_getR dX11_on_82 fgX11_54 rfl (MS.s0 hM) (MS.r0_21 hM) ?_
    refine aw_iload_n dX11_on_85 rfl ?_
    refine aw_aload_n dX11_on_86 rfl ?_
    refine aw_getR dX11_on_87 fgX11_60 rfl (MS.s0 hM) (MS.r0_23 hM) ?_
    refine aw_sipush (v := nI 820) dX11_on_90 ks_820 ?_
    refine aw_iload_n dX11_on_93 rfl ?_
    refine aw_imul dX11_on_94 ?_
    rw [pk_mul]
    refine aw_bipush (v := nI 20) dX11_on_95 kb_20 ?_
    refine aw_iadd dX11_on_97 ?_
    rw [nI_add]
    refine aw_iload_n dX11_on_98 rfl ?_
    refine aw_iadd dX11_on_99 ?_
    rw [nI_add]
    refine aw_iaload dX11_on_100 (MS.s16 hM) rfl (by omega) ?_
    rw [h4 (M + 16) (by omega) (by omega)]
    refine aw_iastore dX11_on_101 (MS.s14 hM) rfl (by omega) ?_
    refine aw_iinc (v := _) (lo' := [_,_,_]) dX11_on_102 rfl (nI_1 j) rfl ?_
    refine aw_goto (tgt := 70) dX11_on_105 rfl ?_
    refine ih (j + 1) _ (by omega) (fun q hq => by rw [va_up_n (by omega)]; exact h1 q hq) (fun q hq => ?_) (fun b hb hb2 => by rw [va_up_n hb2]; exact h4 b hb hb2)
    rw [va_up_s]
    by_cases e : q = j
    · subst e; exact if_pos rfl
    · exact (if_neg e).trans (h2 q (by omega))
theorem lo_on1 {G : GC} {E : SH} {iv : IV} {lv : LV} {M : Nat} (hM : MS G E M) {m a : Nat} (hm : m ≤ 40) (ha : a < 3) (h20 : iv M 20 = nI m) {Q : Option Value → IV → LV → Prop} (hQ : ∀ i0, (∀ q, q < 20 → i0 (M + 12) q = iv (M + 16) (820 * a + q)) → (∀ q, q < 20 * m → i0 (M + 14) q = iv (M + 16) (820 * a + 20 + q)) → (∀ b, b ≠ M + 12 → b ≠ M + 14 → i0 b = iv b) → Q (some (.int (nI m))) i0 lv) : ∀ (c j : Nat) (jv : IV), j + c = 20 → (∀ q, q < j → jv (M + 12) q = iv (M + 16) (820 * a + q)) → (∀ b, b ≠ M + 12 → b ≠ M + 14 → jv b = iv b) → AW G mX11_on (rm 2 0) (Z0 G 2 E Q) (fun _ => True) E.1 38 [some (.ref M), some (.int (nI a)), some (.int (nI j))] [] E jv lv := by
  intro c
  induction c with
  | zero =>
    intro j jv hj h1 h4
    have hj : j = 20 := by omega
    subst hj
    refine aw_iload_n dX11_on_38 rfl ?_
    refine aw_bipush (v := nI 20) dX11_on_39 kb_20 ?_
    refine aw_icmp_ge (tgt := 68) dX11_on_41 rfl (fun h41 => ?_) (fun h41 => absurd (by decide) h41)
    refine aw_iconst (v := nI 0) dX11_on_68 kc_0 ?_
    refine aw_istore_n (lo' := [_,_,_]) dX11_on_69 (Nat.le_of_ble_eq_true rfl) rfl ?_
    exact lo_on2 hM hm ha h20 hQ (20 * m) 0 jv (by omega) h1 (fun q h => absurd h (Nat.not_lt_zero q)) h4
  | succ c ih =>
    intro j jv hj h1 h4
    refine aw_iload_n dX11_on_38 rfl ?_
    refine aw_bipush (v := nI 20) dX11_on_39 kb_20 ?_
    refine aw_icmp_ge (tgt := 68) dX11_on_41 rfl (fun h41 => absurd h41 (nI_ge (by omega) (by decide))) (fun h41 => ?_)
    refine aw_aload_n dX11_on_44 rfl ?_
    refine aw_getR dX11_on_45 fgX11_48 rfl (MS.s0 hM) (MS.r0_18 hM) ?_
    refine aw_iload_n dX11_on_48 rfl ?_
    refine aw_aload_n dX11_on_49 rfl ?_
    refine aw_getR dX11_on_50 fgX11_60 rfl (MS.s0 hM) (MS.r0_23 hM) ?_
    refine aw_sipush (v := nI 820) dX11_on_53 ks_820 ?_
    refine aw_iload_n dX11_on_56 rfl ?_
    refine aw_imul dX11_on_57 ?_
    rw [pk_mul]
    refine aw_iload_n dX11_on_58 rfl ?_
    refine aw_iadd dX11_on_59 ?_
    rw [nI_add]
    refine aw_iaload dX11_on_60 (MS.s16 hM) rfl (by omega) ?_
    rw [h4 (M + 16) (by omega) (by omega)]
    refine aw_iastore dX11_on_61 (MS.s12 hM) rfl (by omega) ?_
    refine aw_iinc (v := _) (lo' := [_,_,_]) dX11_on_62 rfl (nI_1 j) rfl ?_
    refine aw_goto (tgt := 38) dX11_on_65 rfl ?_
    refine ih (j + 1) _ (by omega) (fun q hq => ?_) (fun b hb hb2 => by rw [va_up_n hb]; exact h4 b hb hb2)
    rw [va_up_s]
    by_cases e : q = j
    · subst e; exact if_pos rfl
    · exact (if_neg e).trans (h1 q (by omega))
theorem m_on {G : GC} {E : SH} {iv : IV} {lv : LV} {M : Nat} (hM : MS G E M) {A : AA} {D : DD} {T : FT} (hA : MA M A iv lv) (hD : MD M D iv) (hT : MT M T iv) (hW : WT T) (c : Int32) : SpI G mX11_on 2 [.ref M, .int c] E iv lv (QD M iv lv (oOn A D T c)) := by
  obtain ⟨s, ⟨m, lg⟩, kp⟩ := T
  have hs : WS s := hW.1.1
  have hs7 : s.1 ≤ 7 := hs.1
  have hw : WV s (lg m) := nowW hW
  have hd : lg m 0 ≤ 40 := nowD hW
  have hr : SR M s iv := hT.1
  have hv : VR (M + 12) (lg m) iv := hT.2.2.1
  have h20 : iv M 20 = nI m := hT.2.1
  have hm : m ≤ 40 := hW.1.2.1
  by_cases hb : bad c 3
  · refine spec0_of (lo := [_,_,_]) (by decide) (Nat.le_of_ble_eq_true rfl) rfl ?_
    refine aw_iload_n dX11_on_0 rfl ?_
    refine aw_iconst (v := nI 0) dX11_on_1 kc_0 ?_
    refine aw_iconst (v := nI 2) dX11_on_2 kc_2 ?_
    refine aw_xSi [_, _, _] dX11_on_3 csX11_76 (m_in c (nI 0) (nI 2)) rfl rfl (Nat.le_of_ble_eq_true rfl) (rb0 (by decide)) ?_
    rw [zI_e (in_iff (k := 2) (by decide))]
    refine aw_if_ne (tgt := 11) dX11_on_6 rfl (fun h6 => ?_) (fun h6 => ?_)
    · exact absurd hb (fun q => q (zI_n0.mp h6))
    · refine aw_iconst (v := (-1)) dX11_on_9 kc_m1 ?_
      refine aw_iret dX11_on_10 rfl (rb0 (Nat.zero_le _)) ⟨rfl, _, rfl, ?_⟩
      refine QD_no hA hD hT ?_
      exact if_pos hb
  obtain ⟨j, hj, rfl⟩ := ix_of hb (by decide)
  cases hk : kp j with
  | none =>
    have e : oOn A D (s, (m, lg), kp) (nI j) = (-3, fnd A 1, D, (s, (m, lg), kp)) := by
      dsimp only [oOn]
      rw [if_neg hb, ix_nI (by omega), hk]
    have hz : iv (M + 15) j = -1 := hT.2.2.2.2.1 j hj hk
    refine spec0_of (lo := [_,_,_]) (by decide) (Nat.le_of_ble_eq_true rfl) rfl ?_
    refine aw_iload_n dX11_on_0 rfl ?_
    refine aw_iconst (v := nI 0) dX11_on_1 kc_0 ?_
    refine aw_iconst (v := nI 2) dX11_on_2 kc_2 ?_
    refine aw_xSi [_, _, _] dX11_on_3 csX11_76 (m_in (nI j) (nI 0) (nI 2)) rfl rfl (Nat.le_of_ble_eq_true rfl) (rb0 (by decide)) ?_
    rw [zI_e (in_iff (k := 2) (by decide))]
    refine aw_if_ne (tgt := 11) dX11_on_6 rfl (fun h6 => ?_) (fun h6 => ?_)
    · refine aw_aload_n dX11_on_11 rfl ?_
      refine aw_getR dX11_on_12 fgX11_57 rfl (MS.s0 hM) (MS.r0_22 hM) ?_
      refine aw_iload_n dX11_on_15 rfl ?_
      refine aw_iaload dX11_on_16 (MS.s15 hM) rfl hj ?_
      rw [hz]
      refine aw_if_ge (tgt := 26) dX11_on_17 rfl (fun h17 => absurd h17 (by decide)) (fun h17 => ?_)
      refine aw_aload_n dX11_on_20 rfl ?_
      refine aw_iconst (v := nI 1) dX11_on_21 kc_1 ?_
      refine aw_xVi [_] dX11_on_22 cvX11_84 (MS.s0 hM) (m_found hM (f := 1) (by decide)) rfl rfl (Nat.le_of_ble_eq_true rfl) (rb0 (by decide)) ?_
      refine aw_iret dX11_on_25 rfl (rb0 (Nat.zero_le _)) ⟨rfl, _, rfl, ?_⟩
      exact QD_fnd hA hD hT (by decide) e
    · exact absurd (zi_bad h6) hb
  | some K =>
    obtain ⟨m2, lg2⟩ := K
    have hWK : WL s m2 lg2 := (hW.2.2 j hj _ hk).1
    have hm2 : m2 ≤ 40 := hWK.2.1
    obtain ⟨z1, z2, z3⟩ := hT.2.2.2.2.2 j hj _ hk
    replace z1 : iv (M + 15) j = nI m2 := z1
    have e : oOn A D (s, (m, lg), kp) (nI j) = (nI m2, A, D, (s, (m2, lg2), kp)) := by
      dsimp only [oOn]
      rw [if_neg hb, ix_nI (by omega), hk]
    refine spec0_of (lo := [_,_,_]) (by decide) (Nat.le_of_ble_eq_true rfl) rfl ?_
    refine aw_iload_n dX11_on_0 rfl ?_
    refine aw_iconst (v := nI 0) dX11_on_1 kc_0 ?_
    refine aw_iconst (v := nI 2) dX11_on_2 kc_2 ?_
    refine aw_xSi [_, _, _] dX11_on_3 csX11_76 (m_in (nI j) (nI 0) (nI 2)) rfl rfl (Nat.le_of_ble_eq_true rfl) (rb0 (by decide)) ?_
    rw [zI_e (in_iff (k := 2) (by decide))]
    refine aw_if_ne (tgt := 11) dX11_on_6 rfl (fun h6 => ?_) (fun h6 => ?_)
    · refine aw_aload_n dX11_on_11 rfl ?_
      refine aw_getR dX11_on_12 fgX11_57 rfl (MS.s0 hM) (MS.r0_22 hM) ?_
      refine aw_iload_n dX11_on_15 rfl ?_
      refine aw_iaload dX11_on_16 (MS.s15 hM) rfl hj ?_
      rw [z1]
      refine aw_if_ge (tgt := 26) dX11_on_17 rfl (fun h17 => ?_) (fun h17 => absurd (nI_pos' (by omega)) h17)
      refine aw_aload_n dX11_on_26 rfl ?_
      refine aw_aload_n dX11_on_27 rfl ?_
      refine aw_getR dX11_on_28 fgX11_57 rfl (MS.s0 hM) (MS.r0_22 hM) ?_
      refine aw_iload_n dX11_on_31 rfl ?_
      refine aw_iaload dX11_on_32 (MS.s15 hM) rfl hj ?_
      rw [z1]
      refine aw_putI dX11_on_33 fpX11_129 rfl (MS.s0 hM) ?_
      refine aw_iconst (v := nI 0) dX11_on_36 kc_0 ?_
      refine aw_istore_n (lo' := [_,_,_]) dX11_on_37 (Nat.le_of_ble_eq_true rfl) rfl ?_
      rw [e]
      refine lo_on1 hM hm2 hj (iv := va_up iv M (upd (iv M) 20 (nI m2))) (by rw [va_up_s]; rfl) (fun i0 q1 q2 q3 => ⟨_, rfl, QD_set hA hD hT (by rw [q3 M (by omega) (by omega), va_up_s]) (fun b h1 h2 h3 => by rw [q3 b h3 h2, va_up_n h1]) (fun q hq => by rw [q1 q hq, va_up_n (by omega)]; exact z2 q hq) (fun d hd i hi => by rw [q2 _ (by omega), va_up_n (by omega)]; exact z3 d hd i hi) rfl⟩) 20 0 _ (by omega) (fun q h => absurd h (Nat.not_lt_zero q)) (fun _ _ _ => rfl)
    · exact absurd (zi_bad h6) hb
theorem m_mark {G : GC} {E : SH} {iv : IV} {lv : LV} {M : Nat} (hM : MS G E M) {A : AA} {D : DD} {T : FT} (hA : MA M A iv lv) (hD : MD M D iv) (hT : MT M T iv) (hW : WT T) (i k : Int32) : SpI G mX11_mark 3 [.ref M, .int i, .int k] E iv lv (QD M iv lv (oMark A D T i k)) := by
  obtain ⟨s, ⟨m, lg⟩, kp⟩ := T
  have hs : WS s := hW.1.1
  have hs7 : s.1 ≤ 7 := hs.1
  have hw : WV s (lg m) := nowW hW
  have hd : lg m 0 ≤ 40 := nowD hW
  have hr : SR M s iv := hT.1
  have hv : VR (M + 12) (lg m) iv := hT.2.2.1
  have h20 : iv M 20 = nI m := hT.2.1
  have hm : m ≤ 40 := hW.1.2.1
  refine spec0_of (lo := [_,_,_,_]) (by decide) (Nat.le_of_ble_eq_true rfl) rfl ?_
  refine aw_aload_n dX11_mark_0 rfl ?_
  refine aw_iload_n dX11_mark_1 rfl ?_
  refine aw_xVi [_] dX11_mark_2 cvX11_167 (MS.s0 hM) (m_isOne hM hr.1 hs7 i) rfl rfl (Nat.le_of_ble_eq_true rfl) (rb0 (by decide)) ?_
  refine aw_if_eq (tgt := 17) dX11_mark_5 rfl (fun h5 => ?_) (fun h5 => ?_)
  · refine aw_iconst (v := (-1)) dX11_mark_17 kc_m1 ?_
    refine aw_iret dX11_mark_18 rfl (rb0 (Nat.zero_le _)) ⟨rfl, _, rfl, ?_⟩
    first
      | (refine QD_no hA hD hT ?_
         exact if_pos (Or.inl (zi_bad h5)))
      | (refine QD_no hA hD hT ?_
         refine if_pos (Or.inr ?_)
         by_cases q : k < nI 1
         · exact Or.inl q
         · exact Or.inr (Int32.not_le.mp (fun q2 => hc ⟨Int32.not_lt.mp q, q2⟩)))
  · obtain ⟨j, hj, rfl⟩ := zi_of h5 (by omega)
    have h8 := hs.2 j hj
    have h9 := hw.1 j hj
    have h11 := seen_le (s.2.1 j) (s.2.2.1 j)
    have hd2 : lg m 0 % 2 < 2 := Nat.mod_lt _ (by decide)
    refine aw_iload_n dX11_mark_8 rfl ?_
    refine aw_iconst (v := nI 1) dX11_mark_9 kc_1 ?_
    refine aw_iconst (v := nI 5) dX11_mark_10 kc_5 ?_
    refine aw_xSi [_, _, _] dX11_mark_11 csX11_76 (m_in k (nI 1) (nI 5)) rfl rfl (Nat.le_of_ble_eq_true rfl) (rb0 (by decide)) ?_
    refine aw_if_ne (tgt := 19) dX11_mark_14 rfl (fun h14 => ?_) (fun h14 => ?_)
    · have hc := zI_n0.mp h14
      obtain ⟨u, hu1, hu, rfl⟩ := ix_1 (n := k) (k := 5) (Int32.not_lt.mpr hc.1) (Int32.not_lt.mpr hc.2) (by decide)
      refine aw_aload_n dX11_mark_19 rfl ?_
      refine aw_getR dX11_mark_20 fgX11_39 rfl (MS.s0 hM) (MS.r0_15 hM) ?_
      refine aw_iload_n dX11_mark_23 rfl ?_
      refine aw_iaload dX11_mark_24 (MS.s9 hM) rfl (by omega) ?_
      rw [(hr.2 j hj).1]
      refine aw_iload_n dX11_mark_25 rfl ?_
      refine aw_xSi [_, _] dX11_mark_26 csX11_143 (m_isOf (p := s.2.1 j) (q := u) h8.1 (by omega)) rfl rfl (Nat.le_of_ble_eq_true rfl) (rb0 (by decide)) ?_
      refine aw_if_ne (tgt := 38) dX11_mark_29 rfl (fun h29 => ?_) (fun h29 => ?_)
      · refine aw_aload_n dX11_mark_38 rfl ?_
        refine aw_aload_n dX11_mark_39 rfl ?_
        refine aw_getR dX11_mark_40 fgX11_48 rfl (MS.s0 hM) (MS.r0_18 hM) ?_
        refine aw_iload_n dX11_mark_43 rfl ?_
        refine aw_xVi [_, _] dX11_mark_44 cvX11_147 (MS.s0 hM) (m_isMet hM hs hr (MS.s12 hM) hv hw hj) rfl rfl (Nat.le_of_ble_eq_true rfl) (rb0 (by decide)) ?_
        refine aw_if_eq (tgt := 71) dX11_mark_47 rfl (fun h47 => ?_) (fun h47 => ?_)
        · refine aw_iconst (v := nI 0) dX11_mark_71 kc_0 ?_
          refine aw_istore_n (lo' := [_,_,_,_]) dX11_mark_72 (Nat.le_of_ble_eq_true rfl) rfl ?_
          refine aw_iload_n dX11_mark_73 rfl ?_
          rcases (show u = 1 ∨ u = 2 ∨ u = 3 ∨ u = 4 ∨ u = 5 from by omega) with rfl | rfl | rfl | rfl | rfl
          · refine aw_tableIn (off := 30) (tgt := 104) dX11_mark_74 (by decide) (by decide) (by decide) rfl ?_
            refine aw_aload_n dX11_mark_104 rfl ?_
            refine aw_getR dX11_mark_105 fgX11_48 rfl (MS.s0 hM) (MS.r0_18 hM) ?_
            refine aw_bipush (v := nI 6) dX11_mark_108 kb_6 ?_
            refine aw_iload_n dX11_mark_110 rfl ?_
            refine aw_iadd dX11_mark_111 ?_
            refine aw_iaload dX11_mark_112 (MS.s12 hM) (show nI 6 + nI j = nI (6 + j) by rw [nI_add]) (by omega) ?_
            rw [hv (6 + j) (by omega)]
            refine aw_iconst (v := nI 1) dX11_mark_113 kc_1 ?_
            refine aw_iadd dX11_mark_114 ?_
            rw [nI_add]
            refine aw_iconst (v := nI 2) dX11_mark_115 kc_2 ?_
            refine aw_idiv dX11_mark_116 (by decide) ?_
            rw [pk_div (by omega) (by decide) (by decide)]
            refine aw_iret dX11_mark_117 rfl (rb0 (Nat.zero_le _)) ⟨rfl, _, rfl, ?_⟩
            refine QD_no hA hD hT ?_
            dsimp only [oMark, nowT]
            rw [if_neg (fun q => q.elim (nbad hj (by omega)) (fun q => q.elim (fun q => absurd q (nI_nlt hu1 (by omega))) (fun q => absurd q (nI_nlt hu (by omega))))), ix_nI (by omega), ix_nI (by omega), if_pos (zI_n0.mp h29)]
            rfl
          · refine aw_tableIn (off := 44) (tgt := 118) dX11_mark_74 (by decide) (by decide) (by decide) rfl ?_
            refine aw_iconst (v := nI 1) dX11_mark_118 kc_1 ?_
            refine aw_aload_n dX11_mark_119 rfl ?_
            refine aw_getR dX11_mark_120 fgX11_48 rfl (MS.s0 hM) (MS.r0_18 hM) ?_
            refine aw_iconst (v := nI 0) dX11_mark_123 kc_0 ?_
            refine aw_iaload dX11_mark_124 (MS.s12 hM) rfl (by decide) ?_
            rw [hv 0 (by decide)]
            refine aw_iconst (v := nI 2) dX11_mark_125 kc_2 ?_
            refine aw_irem dX11_mark_126 (by decide) ?_
            rw [pk_rem (by omega) (by decide) (by decide)]
            refine aw_isub dX11_mark_127 ?_
            rw [pk_sub (by omega)]
            refine aw_iret dX11_mark_128 rfl (rb0 (Nat.zero_le _)) ⟨rfl, _, rfl, ?_⟩
            refine QD_no hA hD hT ?_
            dsimp only [oMark, nowT]
            rw [if_neg (fun q => q.elim (nbad hj (by omega)) (fun q => q.elim (fun q => absurd q (nI_nlt hu1 (by omega))) (fun q => absurd q (nI_nlt hu (by omega))))), ix_nI (by omega), ix_nI (by omega), if_pos (zI_n0.mp h29)]
            have hk := zI_n0.mp h29
            rw [show mrk s (lg m) j 2 = 1 - lg m 0 % 2 by
              show less (s.2.1 j) (lg m 0) = _
              unfold less
              rw [if_neg (by omega), if_pos (by omega)]]
          · refine aw_tableIn (off := 55) (tgt := 129) dX11_mark_74 (by decide) (by decide) (by decide) rfl ?_
            refine aw_aload_n dX11_mark_129 rfl ?_
            refine aw_getR dX11_mark_130 fgX11_42 rfl (MS.s0 hM) (MS.r0_16 hM) ?_
            refine aw_iload_n dX11_mark_133 rfl ?_
            refine aw_iaload dX11_mark_134 (MS.s10 hM) rfl (by omega) ?_
            rw [(hr.2 j hj).2.1]
            refine aw_aload_n dX11_mark_135 rfl ?_
            refine aw_iload_n dX11_mark_136 rfl ?_
            refine aw_xVi [_] dX11_mark_137 cvX11_132 (MS.s0 hM) (m_seen hM hs hr hj) rfl rfl (Nat.le_of_ble_eq_true rfl) (rb0 (by decide)) ?_
            refine aw_isub dX11_mark_140 ?_
            rw [pk_sub h11]
            refine aw_iret dX11_mark_141 rfl (rb0 (Nat.zero_le _)) ⟨rfl, _, rfl, ?_⟩
            refine QD_no hA hD hT ?_
            dsimp only [oMark, nowT]
            rw [if_neg (fun q => q.elim (nbad hj (by omega)) (fun q => q.elim (fun q => absurd q (nI_nlt hu1 (by omega))) (fun q => absurd q (nI_nlt hu (by omega))))), ix_nI (by omega), ix_nI (by omega), if_pos (zI_n0.mp h29)]
            rfl
          · refine aw_tableIn (off := 68) (tgt := 142) dX11_mark_74 (by decide) (by decide) (by decide) rfl ?_
            refine aw_iload_n dX11_mark_142 rfl ?_
            refine aw_if_eq (tgt := 150) dX11_mark_143 rfl (fun h143 => ?_) (fun h143 => absurd (by decide) h143)
            refine aw_iconst (v := nI 0) dX11_mark_150 kc_0 ?_
            refine aw_iret dX11_mark_151 rfl (rb0 (Nat.zero_le _)) ⟨rfl, _, rfl, ?_⟩
            refine QD_no hA hD hT ?_
            dsimp only [oMark, nowT]
            rw [if_neg (fun q => q.elim (nbad hj (by omega)) (fun q => q.elim (fun q => absurd q (nI_nlt hu1 (by omega))) (fun q => absurd q (nI_nlt hu (by omega))))), ix_nI (by omega), ix_nI (by omega), if_pos (zI_n0.mp h29)]
            first
              | (rw [show mrk s (lg m) j 4 = 1 from if_pos ⟨zI_n0.mp h47, zI_0.mp h64⟩]; done)
              | (rw [show mrk s (lg m) j 4 = 0 from if_neg (fun q => zI_0.mp h47 q.1)]; done)
              | (rw [show mrk s (lg m) j 4 = 0 from if_neg (fun q => q.2 (zI_n0.mp h64))]; done)
              | (exact absurd h143 (by decide))
          · refine aw_tableOut (tgt := 152) dX11_mark_74 (by decide) rfl ?_
            refine aw_iload_n dX11_mark_152 rfl ?_
            refine aw_if_eq (tgt := 174) dX11_mark_153 rfl (fun h153 => ?_) (fun h153 => absurd (by decide) h153)
            refine aw_iconst (v := nI 0) dX11_mark_174 kc_0 ?_
            refine aw_iret dX11_mark_175 rfl (rb0 (Nat.zero_le _)) ⟨rfl, _, rfl, ?_⟩
            refine QD_no hA hD hT ?_
            dsimp only [oMark, nowT]
            rw [if_neg (fun q => q.elim (nbad hj (by omega)) (fun q => q.elim (fun q => absurd q (nI_nlt hu1 (by omega))) (fun q => absurd q (nI_nlt hu (by omega))))), ix_nI (by omega), ix_nI (by omega), if_pos (zI_n0.mp h29)]
            first
              | (rw [show mrk s (lg m) j 5 = 1 from if_pos ⟨⟨zI_n0.mp h47, zI_0.mp h64⟩, by omega⟩]; done)
              | (rw [show mrk s (lg m) j 5 = 0 from if_neg (fun q => by omega)]; done)
              | (rw [show mrk s (lg m) j 5 = 0 from if_neg (fun q => zI_0.mp h47 q.1.1)]; done)
              | (rw [show mrk s (lg m) j 5 = 0 from if_neg (fun q => q.1.2 (zI_n0.mp h64))]; done)
              | (exact absurd h153 (by decide))
        · refine aw_aload_n dX11_mark_50 rfl ?_
          refine aw_aload_n dX11_mark_51 rfl ?_
          refine aw_getR dX11_mark_52 fgX11_48 rfl (MS.s0 hM) (MS.r0_18 hM) ?_
          refine aw_aload_n dX11_mark_55 rfl ?_
          refine aw_getR dX11_mark_56 fgX11_45 rfl (MS.s0 hM) (MS.r0_17 hM) ?_
          refine aw_iload_n dX11_mark_59 rfl ?_
          refine aw_iaload dX11_mark_60 (MS.s11 hM) rfl (by omega) ?_
          rw [(hr.2 j hj).2.2]
          refine aw_xVi [_, _] dX11_mark_61 cvX11_139 (MS.s0 hM) (m_isHid hM hs hr (MS.s12 hM) hv hw h8.2.2) rfl rfl (Nat.le_of_ble_eq_true rfl) (rb0 (by decide)) ?_
          refine aw_if_ne (tgt := 71) dX11_mark_64 rfl (fun h64 => ?_) (fun h64 => ?_)
          · refine aw_iconst (v := nI 0) dX11_mark_71 kc_0 ?_
            refine aw_istore_n (lo' := [_,_,_,_]) dX11_mark_72 (Nat.le_of_ble_eq_true rfl) rfl ?_
            refine aw_iload_n dX11_mark_73 rfl ?_
            rcases (show u = 1 ∨ u = 2 ∨ u = 3 ∨ u = 4 ∨ u = 5 from by omega) with rfl | rfl | rfl | rfl | rfl
            · refine aw_tableIn (off := 30) (tgt := 104) dX11_mark_74 (by decide) (by decide) (by decide) rfl ?_
              refine aw_aload_n dX11_mark_104 rfl ?_
              refine aw_getR dX11_mark_105 fgX11_48 rfl (MS.s0 hM) (MS.r0_18 hM) ?_
              refine aw_bipush (v := nI 6) dX11_mark_108 kb_6 ?_
              refine aw_iload_n dX11_mark_110 rfl ?_
              refine aw_iadd dX11_mark_111 ?_
              refine aw_iaload dX11_mark_112 (MS.s12 hM) (show nI 6 + nI j = nI (6 + j) by rw [nI_add]) (by omega) ?_
              rw [hv (6 + j) (by omega)]
              refine aw_iconst (v := nI 1) dX11_mark_113 kc_1 ?_
              refine aw_iadd dX11_mark_114 ?_
              rw [nI_add]
              refine aw_iconst (v := nI 2) dX11_mark_115 kc_2 ?_
              refine aw_idiv dX11_mark_116 (by decide) ?_
              rw [pk_div (by omega) (by decide) (by decide)]
              refine aw_iret dX11_mark_117 rfl (rb0 (Nat.zero_le _)) ⟨rfl, _, rfl, ?_⟩
              refine QD_no hA hD hT ?_
              dsimp only [oMark, nowT]
              rw [if_neg (fun q => q.elim (nbad hj (by omega)) (fun q => q.elim (fun q => absurd q (nI_nlt hu1 (by omega))) (fun q => absurd q (nI_nlt hu (by omega))))), ix_nI (by omega), ix_nI (by omega), if_pos (zI_n0.mp h29)]
              rfl
            · refine aw_tableIn (off := 44) (tgt := 118) dX11_mark_74 (by decide) (by decide) (by decide) rfl ?_
              refine aw_iconst (v := nI 1) dX11_mark_118 kc_1 ?_
              refine aw_aload_n dX11_mark_119 rfl ?_
              refine aw_getR dX11_mark_120 fgX11_48 rfl (MS.s0 hM) (MS.r0_18 hM) ?_
              refine aw_iconst (v := nI 0) dX11_mark_123 kc_0 ?_
              refine aw_iaload dX11_mark_124 (MS.s12 hM) rfl (by decide) ?_
              rw [hv 0 (by decide)]
              refine aw_iconst (v := nI 2) dX11_mark_125 kc_2 ?_
              refine aw_irem dX11_mark_126 (by decide) ?_
              rw [pk_rem (by omega) (by decide) (by decide)]
              refine aw_isub dX11_mark_127 ?_
              rw [pk_sub (by omega)]
              refine aw_iret dX11_mark_128 rfl (rb0 (Nat.zero_le _)) ⟨rfl, _, rfl, ?_⟩
              refine QD_no hA hD hT ?_
              dsimp only [oMark, nowT]
              rw [if_neg (fun q => q.elim (nbad hj (by omega)) (fun q => q.elim (fun q => absurd q (nI_nlt hu1 (by omega))) (fun q => absurd q (nI_nlt hu (by omega))))), ix_nI (by omega), ix_nI (by omega), if_pos (zI_n0.mp h29)]
              have hk := zI_n0.mp h29
              rw [show mrk s (lg m) j 2 = 1 - lg m 0 % 2 by
                show less (s.2.1 j) (lg m 0) = _
                unfold less
                rw [if_neg (by omega), if_pos (by omega)]]
            · refine aw_tableIn (off := 55) (tgt := 129) dX11_mark_74 (by decide) (by decide) (by decide) rfl ?_
              refine aw_aload_n dX11_mark_129 rfl ?_
              refine aw_getR dX11_mark_130 fgX11_42 rfl (MS.s0 hM) (MS.r0_16 hM) ?_
              refine aw_iload_n dX11_mark_133 rfl ?_
              refine aw_iaload dX11_mark_134 (MS.s10 hM) rfl (by omega) ?_
              rw [(hr.2 j hj).2.1]
              refine aw_aload_n dX11_mark_135 rfl ?_
              refine aw_iload_n dX11_mark_136 rfl ?_
              refine aw_xVi [_] dX11_mark_137 cvX11_132 (MS.s0 hM) (m_seen hM hs hr hj) rfl rfl (Nat.le_of_ble_eq_true rfl) (rb0 (by decide)) ?_
              refine aw_isub dX11_mark_140 ?_
              rw [pk_sub h11]
              refine aw_iret dX11_mark_141 rfl (rb0 (Nat.zero_le _)) ⟨rfl, _, rfl, ?_⟩
              refine QD_no hA hD hT ?_
              dsimp only [oMark, nowT]
              rw [if_neg (fun q => q.elim (nbad hj (by omega)) (fun q => q.elim (fun q => absurd q (nI_nlt hu1 (by omega))) (fun q => absurd q (nI_nlt hu (by omega))))), ix_nI (by omega), ix_nI (by omega), if_pos (zI_n0.mp h29)]
              rfl
            · refine aw_tableIn (off := 68) (tgt := 142) dX11_mark_74 (by decide) (by decide) (by decide) rfl ?_
              refine aw_iload_n dX11_mark_142 rfl ?_
              refine aw_if_eq (tgt := 150) dX11_mark_143 rfl (fun h143 => ?_) (fun h143 => absurd (by decide) h143)
              refine aw_iconst (v := nI 0) dX11_mark_150 kc_0 ?_
              refine aw_iret dX11_mark_151 rfl (rb0 (Nat.zero_le _)) ⟨rfl, _, rfl, ?_⟩
              refine QD_no hA hD hT ?_
              dsimp only [oMark, nowT]
              rw [if_neg (fun q => q.elim (nbad hj (by omega)) (fun q => q.elim (fun q => absurd q (nI_nlt hu1 (by omega))) (fun q => absurd q (nI_nlt hu (by omega))))), ix_nI (by omega), ix_nI (by omega), if_pos (zI_n0.mp h29)]
              first
                | (rw [show mrk s (lg m) j 4 = 1 from if_pos ⟨zI_n0.mp h47, zI_0.mp h64⟩]; done)
                | (rw [show mrk s (lg m) j 4 = 0 from if_neg (fun q => zI_0.mp h47 q.1)]; done)
                | (rw [show mrk s (lg m) j 4 = 0 from if_neg (fun q => q.2 (zI_n0.mp h64))]; done)
                | (exact absurd h143 (by decide))
            · refine aw_tableOut (tgt := 152) dX11_mark_74 (by decide) rfl ?_
              refine aw_iload_n dX11_mark_152 rfl ?_
              refine aw_if_eq (tgt := 174) dX11_mark_153 rfl (fun h153 => ?_) (fun h153 => absurd (by decide) h153)
              refine aw_iconst (v := nI 0) dX11_mark_174 kc_0 ?_
              refine aw_iret dX11_mark_175 rfl (rb0 (Nat.zero_le _)) ⟨rfl, _, rfl, ?_⟩
              refine QD_no hA hD hT ?_
              dsimp only [oMark, nowT]
              rw [if_neg (fun q => q.elim (nbad hj (by omega)) (fun q => q.elim (fun q => absurd q (nI_nlt hu1 (by omega))) (fun q => absurd q (nI_nlt hu (by omega))))), ix_nI (by omega), ix_nI (by omega), if_pos (zI_n0.mp h29)]
              first
                | (rw [show mrk s (lg m) j 5 = 1 from if_pos ⟨⟨zI_n0.mp h47, zI_0.mp h64⟩, by omega⟩]; done)
                | (rw [show mrk s (lg m) j 5 = 0 from if_neg (fun q => by omega)]; done)
                | (rw [show mrk s (lg m) j 5 = 0 from if_neg (fun q => zI_0.mp h47 q.1.1)]; done)
                | (rw [show mrk s (lg m) j 5 = 0 from if_neg (fun q => q.1.2 (zI_n0.mp h64))]; done)
                | (exact absurd h153 (by decide))
          · refine aw_iconst (v := nI 1) dX11_mark_67 kc_1 ?_
            refine aw_goto (tgt := 72) dX11_mark_68 rfl ?_
            refine aw_istore_n (lo' := [_,_,_,_]) dX11_mark_72 (Nat.le_of_ble_eq_true rfl) rfl ?_
            refine aw_iload_n dX11_mark_73 rfl ?_
            rcases (show u = 1 ∨ u = 2 ∨ u = 3 ∨ u = 4 ∨ u = 5 from by omega) with rfl | rfl | rfl | rfl | rfl
            · refine aw_tableIn (off := 30) (tgt := 104) dX11_mark_74 (by decide) (by decide) (by decide) rfl ?_
              refine aw_aload_n dX11_mark_104 rfl ?_
              refine aw_getR dX11_mark_105 fgX11_48 rfl (MS.s0 hM) (MS.r0_18 hM) ?_
              refine aw_bipush (v := nI 6) dX11_mark_108 kb_6 ?_
              refine aw_iload_n dX11_mark_110 rfl ?_
              refine aw_iadd dX11_mark_111 ?_
              refine aw_iaload dX11_mark_112 (MS.s12 hM) (show nI 6 + nI j = nI (6 + j) by rw [nI_add]) (by omega) ?_
              rw [hv (6 + j) (by omega)]
              refine aw_iconst (v := nI 1) dX11_mark_113 kc_1 ?_
              refine aw_iadd dX11_mark_114 ?_
              rw [nI_add]
              refine aw_iconst (v := nI 2) dX11_mark_115 kc_2 ?_
              refine aw_idiv dX11_mark_116 (by decide) ?_
              rw [pk_div (by omega) (by decide) (by decide)]
              refine aw_iret dX11_mark_117 rfl (rb0 (Nat.zero_le _)) ⟨rfl, _, rfl, ?_⟩
              refine QD_no hA hD hT ?_
              dsimp only [oMark, nowT]
              rw [if_neg (fun q => q.elim (nbad hj (by omega)) (fun q => q.elim (fun q => absurd q (nI_nlt hu1 (by omega))) (fun q => absurd q (nI_nlt hu (by omega))))), ix_nI (by omega), ix_nI (by omega), if_pos (zI_n0.mp h29)]
              rfl
            · refine aw_tableIn (off := 44) (tgt := 118) dX11_mark_74 (by decide) (by decide) (by decide) rfl ?_
              refine aw_iconst (v := nI 1) dX11_mark_118 kc_1 ?_
              refine aw_aload_n dX11_mark_119 rfl ?_
              refine aw_getR dX11_mark_120 fgX11_48 rfl (MS.s0 hM) (MS.r0_18 hM) ?_
              refine aw_iconst (v := nI 0) dX11_mark_123 kc_0 ?_
              refine aw_iaload dX11_mark_124 (MS.s12 hM) rfl (by decide) ?_
              rw [hv 0 (by decide)]
              refine aw_iconst (v := nI 2) dX11_mark_125 kc_2 ?_
              refine aw_irem dX11_mark_126 (by decide) ?_
              rw [pk_rem (by omega) (by decide) (by decide)]
              refine aw_isub dX11_mark_127 ?_
              rw [pk_sub (by omega)]
              refine aw_iret dX11_mark_128 rfl (rb0 (Nat.zero_le _)) ⟨rfl, _, rfl, ?_⟩
              refine QD_no hA hD hT ?_
              dsimp only [oMark, nowT]
              rw [if_neg (fun q => q.elim (nbad hj (by omega)) (fun q => q.elim (fun q => absurd q (nI_nlt hu1 (by omega))) (fun q => absurd q (nI_nlt hu (by omega))))), ix_nI (by omega), ix_nI (by omega), if_pos (zI_n0.mp h29)]
              have hk := zI_n0.mp h29
              rw [show mrk s (lg m) j 2 = 1 - lg m 0 % 2 by
                show less (s.2.1 j) (lg m 0) = _
                unfold less
                rw [if_neg (by omega), if_pos (by omega)]]
            · refine aw_tableIn (off := 55) (tgt := 129) dX11_mark_74 (by decide) (by decide) (by decide) rfl ?_
              refine aw_aload_n dX11_mark_129 rfl ?_
              refine aw_getR dX11_mark_130 fgX11_42 rfl (MS.s0 hM) (MS.r0_16 hM) ?_
              refine aw_iload_n dX11_mark_133 rfl ?_
              refine aw_iaload dX11_mark_134 (MS.s10 hM) rfl (by omega) ?_
              rw [(hr.2 j hj).2.1]
              refine aw_aload_n dX11_mark_135 rfl ?_
              refine aw_iload_n dX11_mark_136 rfl ?_
              refine aw_xVi [_] dX11_mark_137 cvX11_132 (MS.s0 hM) (m_seen hM hs hr hj) rfl rfl (Nat.le_of_ble_eq_true rfl) (rb0 (by decide)) ?_
              refine aw_isub dX11_mark_140 ?_
              rw [pk_sub h11]
              refine aw_iret dX11_mark_141 rfl (rb0 (Nat.zero_le _)) ⟨rfl, _, rfl, ?_⟩
              refine QD_no hA hD hT ?_
              dsimp only [oMark, nowT]
              rw [if_neg (fun q => q.elim (nbad hj (by omega)) (fun q => q.elim (fun q => absurd q (nI_nlt hu1 (by omega))) (fun q => absurd q (nI_nlt hu (by omega))))), ix_nI (by omega), ix_nI (by omega), if_pos (zI_n0.mp h29)]
              rfl
            · refine aw_tableIn (off := 68) (tgt := 142) dX11_mark_74 (by decide) (by decide) (by decide) rfl ?_
              refine aw_iload_n dX11_mark_142 rfl ?_
              refine aw_if_eq (tgt := 150) dX11_mark_143 rfl (fun h143 => absurd h143 (by decide)) (fun h143 => ?_)
              refine aw_iconst (v := nI 1) dX11_mark_146 kc_1 ?_
              refine aw_goto (tgt := 151) dX11_mark_147 rfl ?_
              refine aw_iret dX11_mark_151 rfl (rb0 (Nat.zero_le _)) ⟨rfl, _, rfl, ?_⟩
              refine QD_no hA hD hT ?_
              dsimp only [oMark, nowT]
              rw [if_neg (fun q => q.elim (nbad hj (by omega)) (fun q => q.elim (fun q => absurd q (nI_nlt hu1 (by omega))) (fun q => absurd q (nI_nlt hu (by omega))))), ix_nI (by omega), ix_nI (by omega), if_pos (zI_n0.mp h29)]
              first
                | (rw [show mrk s (lg m) j 4 = 1 from if_pos ⟨zI_n0.mp h47, zI_0.mp h64⟩]; done)
                | (rw [show mrk s (lg m) j 4 = 0 from if_neg (fun q => zI_0.mp h47 q.1)]; done)
                | (rw [show mrk s (lg m) j 4 = 0 from if_neg (fun q => q.2 (zI_n0.mp h64))]; done)
                | (exact absurd h143 (by decide))
            · refine aw_tableOut (tgt := 152) dX11_mark_74 (by decide) rfl ?_
              refine aw_iload_n dX11_mark_152 rfl ?_
              refine aw_if_eq (tgt := 174) dX11_mark_153 rfl (fun h153 => absurd h153 (by decide)) (fun h153 => ?_)
              refine aw_aload_n dX11_mark_156 rfl ?_
              refine aw_getR dX11_mark_157 fgX11_48 rfl (MS.s0 hM) (MS.r0_18 hM) ?_
              refine aw_bipush (v := nI 6) dX11_mark_160 kb_6 ?_
              refine aw_iload_n dX11_mark_162 rfl ?_
              refine aw_iadd dX11_mark_163 ?_
              refine aw_iaload dX11_mark_164 (MS.s12 hM) (show nI 6 + nI j = nI (6 + j) by rw [nI_add]) (by omega) ?_
              rw [hv (6 + j) (by omega)]
              refine aw_bipush (v := nI 9) dX11_mark_165 kb_9 ?_
              refine aw_icmp_ge (tgt := 174) dX11_mark_167 rfl (fun h167 => ?_) (fun h167 => ?_)
              · rw [nI_leI (by omega) (by omega)] at h167
                refine aw_iconst (v := nI 0) dX11_mark_174 kc_0 ?_
                refine aw_iret dX11_mark_175 rfl (rb0 (Nat.zero_le _)) ⟨rfl, _, rfl, ?_⟩
                refine QD_no hA hD hT ?_
                dsimp only [oMark, nowT]
                rw [if_neg (fun q => q.elim (nbad hj (by omega)) (fun q => q.elim (fun q => absurd q (nI_nlt hu1 (by omega))) (fun q => absurd q (nI_nlt hu (by omega))))), ix_nI (by omega), ix_nI (by omega), if_pos (zI_n0.mp h29)]
                first
                  | (rw [show mrk s (lg m) j 5 = 1 from if_pos ⟨⟨zI_n0.mp h47, zI_0.mp h64⟩, by omega⟩]; done)
                  | (rw [show mrk s (lg m) j 5 = 0 from if_neg (fun q => by omega)]; done)
                  | (rw [show mrk s (lg m) j 5 = 0 from if_neg (fun q => zI_0.mp h47 q.1.1)]; done)
                  | (rw [show mrk s (lg m) j 5 = 0 from if_neg (fun q => q.1.2 (zI_n0.mp h64))]; done)
                  | (exact absurd h153 (by decide))
              · rw [nI_leI (by omega) (by omega)] at h167
                refine aw_iconst (v := nI 1) dX11_mark_170 kc_1 ?_
                refine aw_goto (tgt := 175) dX11_mark_171 rfl ?_
                refine aw_iret dX11_mark_175 rfl (rb0 (Nat.zero_le _)) ⟨rfl, _, rfl, ?_⟩
                refine QD_no hA hD hT ?_
                dsimp only [oMark, nowT]
                rw [if_neg (fun q => q.elim (nbad hj (by omega)) (fun q => q.elim (fun q => absurd q (nI_nlt hu1 (by omega))) (fun q => absurd q (nI_nlt hu (by omega))))), ix_nI (by omega), ix_nI (by omega), if_pos (zI_n0.mp h29)]
                first
                  | (rw [show mrk s (lg m) j 5 = 1 from if_pos ⟨⟨zI_n0.mp h47, zI_0.mp h64⟩, by omega⟩]; done)
                  | (rw [show mrk s (lg m) j 5 = 0 from if_neg (fun q => by omega)]; done)
                  | (rw [show mrk s (lg m) j 5 = 0 from if_neg (fun q => zI_0.mp h47 q.1.1)]; done)
                  | (rw [show mrk s (lg m) j 5 = 0 from if_neg (fun q => q.1.2 (zI_n0.mp h64))]; done)
                  | (exact absurd h153 (by decide))
      · refine aw_aload_n dX11_mark_32 rfl ?_
        refine aw_iconst (v := nI 3) dX11_mark_33 kc_3 ?_
        refine aw_xVi [_] dX11_mark_34 cvX11_84 (MS.s0 hM) (m_found hM (f := 3) (by decide)) rfl rfl (Nat.le_of_ble_eq_true rfl) (rb0 (by decide)) ?_
        refine aw_iret dX11_mark_37 rfl (rb0 (Nat.zero_le _)) ⟨rfl, _, rfl, ?_⟩
        refine QD_fnd hA hD hT (by decide) ?_
        dsimp only [oMark, nowT]
        rw [if_neg (fun q => q.elim (nbad hj (by omega)) (fun q => q.elim (fun q => absurd q (nI_nlt hu1 (by omega))) (fun q => absurd q (nI_nlt hu (by omega))))), ix_nI (by omega), ix_nI (by omega), if_neg (zI_0.mp h29)]
    · have hc := zI_0.mp h14
      refine aw_iconst (v := (-1)) dX11_mark_17 kc_m1 ?_
      refine aw_iret dX11_mark_18 rfl (rb0 (Nat.zero_le _)) ⟨rfl, _, rfl, ?_⟩
      first
        | (refine QD_no hA hD hT ?_
           exact if_pos (Or.inl (zi_bad h5)))
        | (refine QD_no hA hD hT ?_
           refine if_pos (Or.inr ?_)
           by_cases q : k < nI 1
           · exact Or.inl q
           · exact Or.inr (Int32.not_le.mp (fun q2 => hc ⟨Int32.not_lt.mp q, q2⟩)))
