/-! THE REFERENCE'S WHOLE STATE -/
def MT (M : Nat) (T : FT) (iv : IV) : Prop := SR M T.1 iv ∧ iv M 20 = nI T.2.1.1 ∧ VR (M + 12) (nowT T) iv ∧ (∀ d, d < T.2.1.1 → ∀ k, k < 20 → iv (M + 14) (20 * d + k) = nI (T.2.1.2 d k)) ∧ (∀ k, k < 3 → T.2.2 k = none → iv (M + 15) k = -1) ∧ ∀ k, k < 3 → ∀ K, T.2.2 k = some K → iv (M + 15) k = nI K.1 ∧ (∀ j, j < 20 → iv (M + 16) (820 * k + j) = nI (K.2 K.1 j)) ∧ ∀ d, d < K.1 → ∀ j, j < 20 → iv (M + 16) (820 * k + 20 + (20 * d + j)) = nI (K.2 d j)
def frM {α : Type} (M : Nat) (i iv : Nat → α) : Prop := ∀ b, ¬ (M ≤ b ∧ b < M + 18) → i b = iv b
def QD (M : Nat) (iv : IV) (lv : LV) (o : RS) (v : Int32) (i : IV) (l : LV) : Prop := v = o.1 ∧ MA M o.2.1 i l ∧ MD M o.2.2.1 i ∧ MT M o.2.2.2 i ∧ frM M i iv ∧ frM M l lv
theorem SR_f {M : Nat} {s : TS} {iv i : IV} (h0 : i M 14 = iv M 14) (h9 : i (M + 9) = iv (M + 9)) (h10 : i (M + 10) = iv (M + 10)) (h11 : i (M + 11) = iv (M + 11)) (h : SR M s iv) : SR M s i := ⟨by rw [h0]; exact h.1, fun j hj => by rw [h9, h10, h11]; exact h.2 j hj⟩
theorem MT_of {M : Nat} {T : FT} {iv i : IV} (h0 : i M 14 = iv M 14) (h1 : i M 20 = iv M 20) (h : ∀ b, (M + 9 ≤ b ∧ b ≤ M + 12) ∨ (M + 14 ≤ b ∧ b ≤ M + 16) → i b = iv b) (hT : MT M T iv) : MT M T i := by
  refine ⟨SR_f h0 (h _ (by omega)) (h _ (by omega)) (h _ (by omega)) hT.1, by rw [h1]; exact hT.2.1, fun k hk => by rw [h _ (by omega)]; exact hT.2.2.1 k hk, fun d hd k hk => by rw [h _ (by omega)]; exact hT.2.2.2.1 d hd k hk, fun k hk e => by rw [h _ (by omega)]; exact hT.2.2.2.2.1 k hk e, fun k hk K e => ?_⟩
  rw [h (M + 15) (by omega), h (M + 16) (by omega)]
  exact hT.2.2.2.2.2 k hk K e
theorem QD_no {M : Nat} {A : AA} {D : DD} {T : FT} {iv : IV} {lv : LV} {o : RS} {v : Int32} (hA : MA M A iv lv) (hD : MD M D iv) (hT : MT M T iv) (e : o = (v, A, D, T)) : QD M iv lv o v iv lv := by
  subst e
  exact ⟨rfl, hA, hD, hT, fun _ _ => rfl, fun _ _ => rfl⟩
theorem QD_fnd {M f : Nat} {A : AA} {D : DD} {T : FT} {iv : IV} {lv : LV} {o : RS} (hA : MA M A iv lv) (hD : MD M D iv) (hT : MT M T iv) (hf : f < 6) (e : o = (-3, fnd A f, D, T)) : QD M iv lv o (-3) (fndN M iv f) lv := by
  subst e
  refine ⟨rfl, MA_fnd hA hf, MD_fnd hD, MT_of ?_ ?_ (fun b hb => fndN_o (by omega) (by omega)) hT, fun b hb => fndN_o (by omega) (by omega), fun _ _ => rfl⟩
  · unfold fndN
    rw [va_up_n (by omega), va_up_s]; rfl
  · unfold fndN
    rw [va_up_n (by omega), va_up_s]; rfl
/-- told, and what was tried may have changed before -/
theorem QD_tel {M : Nat} {A : AA} {D : DD} {T : FT} {iv i : IV} {lv : LV} {o : RS} {v w : Int32} (hA : MA M A iv lv) (hD : MD M D iv) (hT : MT M T iv) (hq : ∀ b, b ≠ M + 13 → b ≠ M + 17 → i b = iv b) (e : o = (v, tel A w, D, T)) : QD M iv lv o v (telN M i w) lv := by
  subst e
  refine ⟨rfl, MA_tel (MA_of hA (hq _ (by omega) (by omega)) (hq _ (by omega) (by omega))), MD_tel (MD_of (hq _ (by omega) (by omega)) (hq _ (by omega) (by omega)) (hq _ (by omega) (by omega)) (hq _ (by omega) (by omega)) hD), MT_of ?_ ?_ (fun b hb => ?_) hT, fun b hb => ?_, fun _ _ => rfl⟩
  · unfold telN
    rw [va_up_s, hq M (by omega) (by omega)]; rfl
  · unfold telN
    rw [va_up_s, hq M (by omega) (by omega)]; rfl
  · rw [telN_o (by omega)]; exact hq b (by omega) (by omega)
  · rw [telN_o (by omega)]; exact hq b (by omega) (by omega)
theorem QD_out {M : Nat} {A : AA} {D : DD} {T : FT} {iv i : IV} {lv : LV} {o : RS} {v : Int32} (hA : MA M A iv lv) (hD : MD M D iv) (hT : MT M T iv) (hq : ∀ b, b ≠ M + 13 → b ≠ M + 17 → i b = iv b) (e : o = (v, A, D, T)) : QD M iv lv o v i lv := by
  subst e
  have hM := hq M (by omega) (by omega)
  exact ⟨rfl, MA_of hA hM (hq _ (by omega) (by omega)), MD_of (hq _ (by omega) (by omega)) (hq _ (by omega) (by omega)) (hq _ (by omega) (by omega)) (hq _ (by omega) (by omega)) hD, MT_of (by rw [hM]) (by rw [hM]) (fun b hb => hq b (by omega) (by omega)) hT, fun b hb => hq b (by omega) (by omega), fun _ _ => rfl⟩
theorem m_isOne {G : GC} {E : SH} {iv : IV} {lv : LV} {M n : Nat} (hM : MS G E M) (h0 : iv M 14 = nI n) (hn : n ≤ 7) (r : Int32) : ExI G mX11_isOne 2 [.ref M, .int r] E iv lv (zI (0 ≤ r ∧ r < nI n)) iv lv := by
  refine spec0_of (lo := [_,_]) (by decide) (Nat.le_of_ble_eq_true rfl) rfl ?_
  refine aw_iload_n dX11_isOne_0 rfl ?_
  refine aw_iconst (v := nI 0) dX11_isOne_1 kc_0 ?_
  refine aw_aload_n dX11_isOne_2 rfl ?_
  refine aw_getI dX11_isOne_3 fgX11_126 rfl (MS.s0 hM) ?_
  rw [h0]
  refine aw_iconst (v := nI 1) dX11_isOne_6 kc_1 ?_
  refine aw_isub dX11_isOne_7 ?_
  refine aw_xSi [_, _, _] dX11_isOne_8 csX11_76 (m_in _ _ _) rfl rfl (Nat.le_of_ble_eq_true rfl) (rb0 (by decide)) ?_
  rw [zI_e (in_iff2 (by omega))]
  refine aw_zret dX11_isOne_11 rfl (zI_n _) (rb0 (Nat.zero_le _)) ⟨rfl, _, rfl, rfl, rfl, rfl⟩
theorem m_person {G : GC} {E : SH} {iv : IV} {lv : LV} {M : Nat} (hM : MS G E M) {A : AA} {D : DD} {T : FT} (hA : MA M A iv lv) (hD : MD M D iv) (hT : MT M T iv) (hW : WT T) (i w : Int32) : SpI G mX11_person 4 [.ref M, .int i, .int w] E iv lv (QD M iv lv (oPerson A D T i w)) := by
  obtain ⟨s, ⟨m, lg⟩, kp⟩ := T
  have hs : WS s := hW.1.1
  have hs7 : s.1 ≤ 7 := hs.1
  have hw : WV s (lg m) := nowW hW
  have hd : lg m 0 ≤ 40 := nowD hW
  have hr : SR M s iv := hT.1
  have hv : VR (M + 12) (lg m) iv := hT.2.2.1
  have h20 : iv M 20 = nI m := hT.2.1
  have hm : m ≤ 40 := hW.1.2.1
  refine spec0_of (lo := [_,_,_]) (by decide) (Nat.le_of_ble_eq_true rfl) rfl ?_
  refine aw_aload_n dX11_person_0 rfl ?_
  refine aw_iload_n dX11_person_1 rfl ?_
  refine aw_xVi [_] dX11_person_2 cvX11_167 (MS.s0 hM) (m_isOne hM hr.1 hs7 i) rfl rfl (Nat.le_of_ble_eq_true rfl) (rb0 (by decide)) ?_
  refine aw_if_eq (tgt := 32) dX11_person_5 rfl (fun h5 => ?_) (fun h5 => ?_)
  · refine aw_iconst (v := (-1)) dX11_person_32 kc_m1 ?_
    refine aw_iret dX11_person_33 rfl (rb0 (Nat.zero_le _)) ⟨rfl, _, rfl, ?_⟩
    first
      | (refine QD_tel (i := iv) hA hD hT (fun _ _ _ => rfl) ?_
         dsimp only [oPerson, nowT]
         rw [if_neg (fun q => q.elim (nbad hj (by omega)) (nbad (by omega) (by decide))), ix_nI (by omega), ix_nI (by omega)]
         rfl)
      | (refine QD_no hA hD hT ?_
         exact if_pos (Or.inl (zi_bad h5)))
      | (refine QD_no hA hD hT ?_
         exact if_pos (Or.inr (fun q => hc ⟨q.1, (by
           have h := Int32.lt_iff_toInt_lt.mp q.2
           rw [Int32.le_iff_toInt_le, nI_toInt (by decide)]
           rw [nI_toInt (by decide)] at h
           omega)⟩)))
  · obtain ⟨j, hj, rfl⟩ := zi_of h5 (by omega)
    refine aw_iload_n dX11_person_8 rfl ?_
    refine aw_iconst (v := nI 0) dX11_person_9 kc_0 ?_
    refine aw_bipush (v := nI 6) dX11_person_10 kb_6 ?_
    refine aw_xSi [_, _, _] dX11_person_12 csX11_76 (m_in w (nI 0) (nI 6)) rfl rfl (Nat.le_of_ble_eq_true rfl) (rb0 (by decide)) ?_
    refine aw_if_eq (tgt := 32) dX11_person_15 rfl (fun h15 => ?_) (fun h15 => ?_)
    · have hc := zI_0.mp h15
      refine aw_iconst (v := (-1)) dX11_person_32 kc_m1 ?_
      refine aw_iret dX11_person_33 rfl (rb0 (Nat.zero_le _)) ⟨rfl, _, rfl, ?_⟩
      first
        | (refine QD_tel (i := iv) hA hD hT (fun _ _ _ => rfl) ?_
           dsimp only [oPerson, nowT]
           rw [if_neg (fun q => q.elim (nbad hj (by omega)) (nbad (by omega) (by decide))), ix_nI (by omega), ix_nI (by omega)]
           rfl)
        | (refine QD_no hA hD hT ?_
           exact if_pos (Or.inl (zi_bad h5)))
        | (refine QD_no hA hD hT ?_
           exact if_pos (Or.inr (fun q => hc ⟨q.1, (by
             have h := Int32.lt_iff_toInt_lt.mp q.2
             rw [Int32.le_iff_toInt_le, nI_toInt (by decide)]
             rw [nI_toInt (by decide)] at h
             omega)⟩)))
    · have hc := zI_n0.mp h15
      obtain ⟨u, hu, rfl⟩ := ix_le (n := w) (k := 6) (Int32.not_lt.mpr hc.1) (Int32.not_lt.mpr hc.2) (by decide)
      refine aw_aload_n dX11_person_18 rfl ?_
      refine aw_aload_n dX11_person_19 rfl ?_
      refine aw_iload_n dX11_person_20 rfl ?_
      refine aw_iload_n dX11_person_21 rfl ?_
      refine aw_xVi [_, _] dX11_person_22 cvX11_170 (MS.s0 hM) (m_personTells hM hs hr hv hw (i := j) (w := u) hj (by omega)) rfl rfl (Nat.le_of_ble_eq_true rfl) (rb0 (by decide)) ?_
      refine aw_iconst (v := nI 1) dX11_person_25 kc_1 ?_
      refine aw_xVi [_, _] dX11_person_26 cvX11_92 (MS.s0 hM) (m_tells hM _ _) rfl rfl (Nat.le_of_ble_eq_true rfl) (rb0 (by decide)) ?_
      refine aw_goto (tgt := 33) dX11_person_29 rfl ?_
      refine aw_iret dX11_person_33 rfl (rb0 (Nat.zero_le _)) ⟨rfl, _, rfl, ?_⟩
      first
        | (refine QD_tel (i := iv) hA hD hT (fun _ _ _ => rfl) ?_
           dsimp only [oPerson, nowT]
           rw [if_neg (fun q => q.elim (nbad hj (by omega)) (nbad (by omega) (by decide))), ix_nI (by omega), ix_nI (by omega)]
           rfl)
        | (refine QD_no hA hD hT ?_
           exact if_pos (Or.inl (zi_bad h5)))
        | (refine QD_no hA hD hT ?_
           exact if_pos (Or.inr (fun q => hc ⟨q.1, (by
             have h := Int32.lt_iff_toInt_lt.mp q.2
             rw [Int32.le_iff_toInt_le, nI_toInt (by decide)]
             rw [nI_toInt (by decide)] at h
             omega)⟩)))
theorem lo_rem {G : GC} {E : SH} {iv : IV} {lv : LV} {M m : Nat} {v : TV} (hM : MS G E M) (h20 : iv M 20 = nI m) (hm : m < 40) (hv : VR (M + 12) v iv) : ∀ (c k : Nat) (jv : IV), k + c = 20 → (∀ q, q < k → jv (M + 14) (20 * m + q) = nI (v q)) → (∀ e, e < 20 * m → jv (M + 14) e = iv (M + 14) e) → (∀ b, b ≠ M + 14 → jv b = iv b) → AW G mX11_remember (rm 1 0) (Z0 G 1 E (fun r i0 l => r = none ∧ ((∀ q, q < 20 → i0 (M + 14) (20 * m + q) = nI (v q)) ∧ (∀ e, e < 20 * m → i0 (M + 14) e = iv (M + 14) e) ∧ i0 M = upd (iv M) 20 (nI (m + 1)) ∧ (∀ b, b ≠ M → b ≠ M + 14 → i0 b = iv b) ∧ l = lv))) (fun _ => True) E.1 2 [some (.ref M), some (.int (nI k))] [] E jv lv := by
  intro c
  induction c with
  | zero =>
    intro k jv hk h1 h2 h3
    have hk : k = 20 := by omega
    subst hk
    have hj : jv M 20 = nI m := by rw [h3 M (by omega)]; exact h20
    refine aw_iload_n dX11_remember_2 rfl ?_
    refine aw_bipush (v := nI 20) dX11_remember_3 kb_20 ?_
    refine aw_icmp_ge (tgt := 34) dX11_remember_5 rfl (fun h5 => ?_) (fun h5 => absurd (by decide) h5)
    refine aw_aload_n dX11_remember_34 rfl ?_
    refine aw_dup dX11_remember_35 rfl ?_
    refine aw_getI dX11_remember_36 fgX11_129 rfl (MS.s0 hM) ?_
    rw [hj]
    refine aw_iconst (v := nI 1) dX11_remember_39 kc_1 ?_
    refine aw_iadd dX11_remember_40 ?_
    rw [nI_add]
    refine aw_putI dX11_remember_41 fpX11_129 rfl (MS.s0 hM) ?_
    refine aw_vret dX11_remember_44 rfl (rb0 (Nat.zero_le _)) ⟨rfl, rfl, fun q hq => ?_, fun e he => ?_, ?_, fun b hb hb2 => ?_, rfl⟩
    · rw [va_up_n (by omega)]; exact h1 q hq
    · rw [va_up_n (by omega)]; exact h2 e he
    · rw [va_up_s, h3 M (by omega)]
    · rw [va_up_n hb]; exact h3 b hb2
  | succ c ih =>
    intro k jv hk h1 h2 h3
    have hj : jv M 20 = nI m := by rw [h3 M (by omega)]; exact h20
    refine aw_iload_n dX11_remember_2 rfl ?_
    refine aw_bipush (v := nI 20) dX11_remember_3 kb_20 ?_
    refine aw_icmp_ge (tgt := 34) dX11_remember_5 rfl (fun h5 => absurd h5 (nI_ge (by omega) (by decide))) (fun h5 => ?_)
    refine aw_aload_n dX11_remember_8 rfl ?_
    refine aw_getR dX11_remember_9 fgX11_54 rfl (MS.s0 hM) (MS.r0_21 hM) ?_
    refine aw_bipush (v := nI 20) dX11_remember_12 kb_20 ?_
    refine aw_aload_n dX11_remember_14 rfl ?_
    refine aw_getI dX11_remember_15 fgX11_129 rfl (MS.s0 hM) ?_
    rw [hj]
    refine aw_imul dX11_remember_18 ?_
    rw [pk_mul]
    refine aw_iload_n dX11_remember_19 rfl ?_
    refine aw_iadd dX11_remember_20 ?_
    rw [nI_add]
    refine aw_aload_n dX11_remember_21 rfl ?_
    refine aw_getR dX11_remember_22 fgX11_48 rfl (MS.s0 hM) (MS.r0_18 hM) ?_
    refine aw_iload_n dX11_remember_25 rfl ?_
    refine aw_iaload dX11_remember_26 (MS.s12 hM) rfl (by omega) ?_
    rw [h3 (M + 12) (by omega), hv k (by omega)]
    refine aw_iastore dX11_remember_27 (MS.s14 hM) rfl (by omega) ?_
    refine aw_iinc (v := _) (lo' := [_,_]) dX11_remember_28 rfl (nI_1 k) rfl ?_
    refine aw_goto (tgt := 2) dX11_remember_31 rfl ?_
    refine ih (k + 1) _ (by omega) (fun q hq => ?_) (fun e he => ?_) (fun b hb => by rw [va_up_n hb]; exact h3 b hb)
    · rw [va_up_s]
      by_cases e : q = k
      · subst e; exact if_pos rfl
      · exact (if_neg (by omega)).trans (h1 q (by omega))
    · rw [va_up_s]
      exact (if_neg (by omega)).trans (h2 e he)
theorem m_rem {G : GC} {E : SH} {iv : IV} {lv : LV} {M m : Nat} {v : TV} (hM : MS G E M) (h20 : iv M 20 = nI m) (hm : m < 40) (hv : VR (M + 12) v iv) : SpV G mX11_remember 1 [.ref M] E iv lv (fun i0 l => (∀ q, q < 20 → i0 (M + 14) (20 * m + q) = nI (v q)) ∧ (∀ e, e < 20 * m → i0 (M + 14) e = iv (M + 14) e) ∧ i0 M = upd (iv M) 20 (nI (m + 1)) ∧ (∀ b, b ≠ M → b ≠ M + 14 → i0 b = iv b) ∧ l = lv) := by
  refine spec0_of (lo := [_,_]) (by decide) (Nat.le_of_ble_eq_true rfl) rfl ?_
  refine aw_iconst (v := nI 0) dX11_remember_0 kc_0 ?_
  refine aw_istore_n (lo' := [_,_]) dX11_remember_1 (Nat.le_of_ble_eq_true rfl) rfl ?_
  exact lo_rem hM h20 hm hv 20 0 iv (by omega) (fun q h => absurd h (Nat.not_lt_zero q)) (fun _ _ => rfl) (fun _ _ => rfl)
/-- one deed more: what was is in the log, what is now is w -/
theorem QD_push {M m : Nat} {A : AA} {D : DD} {s : TS} {lg : Nat → TV} {kp : Nat → Option KL} {w : TV} {iv i : IV} {lv : LV} {o : RS} {x : Int32} (hA : MA M A iv lv) (hD : MD M D iv) (hT : MT M (s, (m, lg), kp) iv) (h1 : ∀ q, q < 20 → i (M + 14) (20 * m + q) = nI (lg m q)) (h2 : ∀ e, e < 20 * m → i (M + 14) e = iv (M + 14) e) (h3 : i M = upd (iv M) 20 (nI (m + 1))) (h4 : ∀ b, b ≠ M → b ≠ M + 14 → b ≠ M + 12 → i b = iv b) (h5 : VR (M + 12) w i) (e : o = (x, A, D, (s, (m + 1, lgx lg m w), kp))) : QD M iv lv o x i lv := by
  subst e
  have e1 : ∀ k, k ≠ 20 → i M k = iv M k := fun k hk => by rw [h3]; exact if_neg hk
  refine ⟨rfl, ⟨(e1 0 (by decide)).trans hA.1, (e1 3 (by decide)).trans hA.2.1, hA.2.2.1, hA.2.2.2.1, fun f hf => by rw [h4 _ (by omega) (by omega) (by omega)]; exact hA.2.2.2.2 f hf⟩, MD_of (h4 _ (by omega) (by omega) (by omega)) (h4 _ (by omega) (by omega) (by omega)) (h4 _ (by omega) (by omega) (by omega)) (h4 _ (by omega) (by omega) (by omega)) hD, ⟨SR_f (e1 14 (by decide)) (h4 _ (by omega) (by omega) (by omega)) (h4 _ (by omega) (by omega) (by omega)) (h4 _ (by omega) (by omega) (by omega)) hT.1, by rw [h3]; rfl, ?_, fun d hd k hk => ?_, fun k hk e => by rw [h4 _ (by omega) (by omega) (by omega)]; exact hT.2.2.2.2.1 k hk e, fun k hk K e => ?_⟩, fun b hb => h4 b (by omega) (by omega) (by omega), fun _ _ => rfl⟩
  · show VR (M + 12) (lgx lg m w (m + 1)) i
    rw [show lgx lg m w (m + 1) = w from if_pos rfl]
    exact h5
  · replace hd : d < m + 1 := hd
    show _ = nI (lgx lg m w d k)
    rw [show lgx lg m w d = lg d from if_neg (by omega)]
    by_cases q : d = m
    · subst q; exact h1 k hk
    · rw [h2 _ (by omega)]; exact hT.2.2.2.1 d (by show d < m; omega) k hk
  · rw [h4 (M + 15) (by omega) (by omega) (by omega), h4 (M + 16) (by omega) (by omega) (by omega)]
    exact hT.2.2.2.2.2 k hk K e
theorem m_deeper {G : GC} {E : SH} {iv : IV} {lv : LV} {a b : Nat} (ha : a ≤ 9) (hb : b ≤ 9) : ExI G mX11_deeper 1 [.int (nI a), .int (nI b)] E iv lv (nI (min 9 (a + b))) iv lv := by
  refine spec0_of (lo := [_,_]) (by decide) (Nat.le_of_ble_eq_true rfl) rfl ?_
  refine aw_iload_n dX11_deeper_0 rfl ?_
  refine aw_iload_n dX11_deeper_1 rfl ?_
  refine aw_iadd dX11_deeper_2 ?_
  rw [nI_add]
  refine aw_bipush (v := nI 9) dX11_deeper_3 kb_9 ?_
  refine aw_icmp_le (tgt := 13) dX11_deeper_5 rfl (fun h5 => ?_) (fun h5 => ?_)
  · rw [nI_leI (by omega) (by omega)] at h5
    refine aw_iload_n dX11_deeper_13 rfl ?_
    refine aw_iload_n dX11_deeper_14 rfl ?_
    refine aw_iadd dX11_deeper_15 ?_
    rw [nI_add]
    refine aw_iret dX11_deeper_16 rfl (rb0 (Nat.zero_le _)) ⟨rfl, _, rfl, ?_, rfl, rfl⟩
    first
      | (rw [show min 9 (a + b) = 9 by omega]; done)
      | (rw [show min 9 (a + b) = a + b by omega]; done)
  · rw [nI_leI (by omega) (by omega)] at h5
    refine aw_bipush (v := nI 9) dX11_deeper_8 kb_9 ?_
    refine aw_goto (tgt := 16) dX11_deeper_10 rfl ?_
    refine aw_iret dX11_deeper_16 rfl (rb0 (Nat.zero_le _)) ⟨rfl, _, rfl, ?_, rfl, rfl⟩
    first
      | (rw [show min 9 (a + b) = 9 by omega]; done)
      | (rw [show min 9 (a + b) = a + b by omega]; done)
theorem m_day {G : GC} {E : SH} {iv : IV} {lv : LV} {M : Nat} (hM : MS G E M) {A : AA} {D : DD} {T : FT} (hA : MA M A iv lv) (hD : MD M D iv) (hT : MT M T iv) (hW : WT T) : SpI G mX11_day 6 [.ref M] E iv lv (QD M iv lv (oDay A D T)) := by
  obtain ⟨s, ⟨m, lg⟩, kp⟩ := T
  have hs : WS s := hW.1.1
  have hs7 : s.1 ≤ 7 := hs.1
  have hw : WV s (lg m) := nowW hW
  have hd : lg m 0 ≤ 40 := nowD hW
  have hr : SR M s iv := hT.1
  have hv : VR (M + 12) (lg m) iv := hT.2.2.1
  have h20 : iv M 20 = nI m := hT.2.1
  have hm : m ≤ 40 := hW.1.2.1
  refine spec0_of (lo := [_]) (by decide) (Nat.le_of_ble_eq_true rfl) rfl ?_
  refine aw_aload_n dX11_day_0 rfl ?_
  refine aw_getI dX11_day_1 fgX11_126 rfl (MS.s0 hM) ?_
  rw [hr.1]
  refine aw_if_eq (tgt := 18) dX11_day_4 rfl (fun h4 => ?_) (fun h4 => ?_)
  · rw [← nI_0, nI_eq (by omega) (by omega)] at h4
    have hnp : s.1 = 0 := h4
    refine aw_bipush (v := (-4)) dX11_day_18 kb_m4 ?_
    refine aw_iret dX11_day_20 rfl (rb0 (Nat.zero_le _)) ⟨rfl, _, rfl, ?_⟩
    refine QD_no hA hD hT ?_
    dsimp only [oDay, nowT]
    
    first
      | exact if_pos (Or.inl hnp)
      | exact if_pos (Or.inr (by omega))
  · rw [← nI_0, nI_eq (by omega) (by omega)] at h4
    have hnp : s.1 ≠ 0 := h4
    refine aw_aload_n dX11_day_7 rfl ?_
    refine aw_getR dX11_day_8 fgX11_48 rfl (MS.s0 hM) (MS.r0_18 hM) ?_
    refine aw_iconst (v := nI 0) dX11_day_11 kc_0 ?_
    refine aw_iaload dX11_day_12 (MS.s12 hM) rfl (by decide) ?_
    rw [hv 0 (by decide)]
    refine aw_bipush (v := nI 99) dX11_day_13 kb_99 ?_
    refine aw_icmp_ne (tgt := 21) dX11_day_15 rfl (fun h15 => ?_) (fun h15 => ?_)
    · rw [nI_eq (by omega) (by omega)] at h15
      refine aw_aload_n dX11_day_21 rfl ?_
      refine aw_getI dX11_day_22 fgX11_129 rfl (MS.s0 hM) ?_
      rw [h20]
      refine aw_bipush (v := nI 40) dX11_day_25 kb_40 ?_
      refine aw_icmp_ne (tgt := 33) dX11_day_27 rfl (fun h27 => ?_) (fun h27 => ?_)
      · rw [nI_eq (by omega) (by omega)] at h27
        refine aw_aload_n dX11_day_33 rfl ?_
        refine aw_sVv [] dX11_day_34 cvX11_179 (MS.s0 hM) (m_rem hM h20 (by omega) hv) rfl rfl (Nat.le_of_ble_eq_true rfl) (rb0 (by decide)) (fun kv klv hk => ?_)
        obtain ⟨k1, k2, k3, k4, rfl⟩ := hk
        have hr2 : SR M s kv := SR_f (by rw [k3]; rfl) (k4 _ (by omega) (by omega)) (k4 _ (by omega) (by omega)) (k4 _ (by omega) (by omega)) hr
        have hv2 : VR (M + 12) (lg m) kv := fun q hq => by rw [k4 _ (by omega) (by omega)]; exact hv q hq
        refine aw_aload_n dX11_day_37 rfl ?_
        refine aw_aload_n dX11_day_38 rfl ?_
        refine aw_getR dX11_day_39 fgX11_48 rfl (MS.s0 hM) (MS.r0_18 hM) ?_
        refine aw_sVv [_] dX11_day_42 cvX11_159 (MS.s0 hM) (m_passes hM hs hr2 (MS.s12 hM) hv2 hw (by omega) (Or.inl rfl)) rfl rfl (Nat.le_of_ble_eq_true rfl) (rb0 (by decide)) (fun kw klv2 hk => ?_)
        obtain ⟨q1, q2, rfl⟩ := hk
        have hr3 : SR M s kw := SR_f (by rw [q2 M (by omega)]) (q2 _ (by omega)) (q2 _ (by omega)) (q2 _ (by omega)) hr2
        refine aw_aload_n dX11_day_45 rfl ?_
        refine aw_aload_n dX11_day_46 rfl ?_
        refine aw_getR dX11_day_47 fgX11_48 rfl (MS.s0 hM) (MS.r0_18 hM) ?_
        refine aw_xVi [_] dX11_day_50 cvX11_163 (MS.s0 hM) (m_all hM hs hr3 (MS.s12 hM) q1 (WV_pass hs hw (by omega))) rfl rfl (Nat.le_of_ble_eq_true rfl) (rb0 (by decide)) ?_
        refine aw_iret dX11_day_53 rfl (rb0 (Nat.zero_le _)) ⟨rfl, _, rfl, ?_⟩
        refine QD_push (w := pass s (lg m)) hA hD hT (fun q hq => ?_) (fun e he => ?_) ?_ (fun b h1 h2 h3 => ?_) q1 ?_
        · rw [q2 _ (by omega)]; exact k1 q hq
        · rw [q2 _ (by omega)]; exact k2 e he
        · rw [q2 _ (by omega)]; exact k3
        · rw [q2 _ h3]; exact k4 b h1 h2
        · dsimp only [oDay, nowT]
          rw [if_neg (by omega), if_neg (by omega)]
          rfl
      · rw [nI_eq (by omega) (by omega)] at h27
        refine aw_bipush (v := (-2)) dX11_day_30 kb_m2 ?_
        refine aw_iret dX11_day_32 rfl (rb0 (Nat.zero_le _)) ⟨rfl, _, rfl, ?_⟩
        refine QD_no hA hD hT ?_
        dsimp only [oDay, nowT]
        
        rw [if_neg (by omega), if_pos (by omega)]
    · rw [nI_eq (by omega) (by omega)] at h15
      refine aw_bipush (v := (-4)) dX11_day_18 kb_m4 ?_
      refine aw_iret dX11_day_20 rfl (rb0 (Nat.zero_le _)) ⟨rfl, _, rfl, ?_⟩
      refine QD_no hA hD hT ?_
      dsimp only [oDay, nowT]
      
      first
        | exact if_pos (Or.inl hnp)
        | exact if_pos (Or.inr (by omega))
