theorem pop_add : ∀ k, k < 7 → ∀ x, x < 2 ^ k → pop (x + 2 ^ k) = pop x + 1 := by decide +kernel
theorem pop_bit {p : Nat → Bool} : ∀ n, n ≤ 7 → pop (bitU p n) = cntU p n
  | 0, _ => by show pop 0 = 0; decide
  | n + 1, h => by
    rw [bitU, cntU]
    split
    · rw [pop_add n (by omega) _ (bitU_lt n), pop_bit n (by omega)]
    · rw [Nat.add_zero, Nat.add_zero, pop_bit n (by omega)]
theorem bit_128 {p : Nat → Bool} {n : Nat} (h : n ≤ 7) : bitU p n < 128 := Nat.lt_of_lt_of_le (bitU_lt n) (Nat.pow_le_pow_right (by decide) h)
theorem nd_ge {c : Prop} [Decidable c] {n : Nat} (h : 0 ≤ (if ¬ c then (-1 : Int32) else if n = 0 then -4 else 0)) : c ∧ n ≠ 0 := by
  by_cases hc : c
  · refine ⟨hc, fun hn => ?_⟩
    rw [if_neg (fun q => q hc), if_pos hn] at h
    exact absurd h (by decide)
  · rw [if_pos hc] at h
    exact absurd h (by decide)
theorem nd_no {c : Prop} [Decidable c] {n : Nat} (h : ¬ 0 ≤ (if ¬ c then (-1 : Int32) else if n = 0 then -4 else 0)) : (¬ c ∧ (if ¬ c then (-1 : Int32) else if n = 0 then -4 else 0) = -1) ∨ (c ∧ n = 0 ∧ (if ¬ c then (-1 : Int32) else if n = 0 then -4 else 0) = -4) := by
  by_cases hc : c
  · by_cases hn : n = 0
    · exact Or.inr ⟨hc, hn, by rw [if_neg (fun q => q hc), if_pos hn]⟩
    · rw [if_neg (fun q => q hc), if_neg hn] at h
      exact absurd (by decide) h
  · exact Or.inl ⟨hc, if_pos hc⟩
theorem m_left {G : GC} {E : SH} {iv : IV} {lv : LV} {M : Nat} (hM : MS G E M) {A : AA} {D : DD} {T : FT} (hA : MA M A iv lv) (hD : MD M D iv) (hT : MT M T iv) (hW : WT T) (n : Int32) : SpI G mX11_left 7 [.ref M, .int n] E iv lv (QD M iv lv (oLeft A D T n)) := by
  obtain ⟨s, ⟨m, lg⟩, kp⟩ := T
  have hs : WS s := hW.1.1
  have hs7 : s.1 ≤ 7 := hs.1
  have hw : WV s (lg m) := nowW hW
  have hd : lg m 0 ≤ 40 := nowD hW
  have hr : SR M s iv := hT.1
  have hv : VR (M + 12) (lg m) iv := hT.2.2.1
  have h20 : iv M 20 = nI m := hT.2.1
  have hm : m ≤ 40 := hW.1.2.1
  refine spec0_of (lo := [_,_,_,_]) (by decide) (Nat.le_of_ble_eq_true rfl) rfl ?_
  refine aw_aload_n dX11_left_0 rfl ?_
  refine aw_iload_n dX11_left_1 rfl ?_
  refine aw_iconst (v := nI 0) dX11_left_2 kc_0 ?_
  refine aw_bipush (v := nI 60) dX11_left_3 kb_60 ?_
  refine aw_xSi [_, _, _] dX11_left_5 csX11_76 (m_in n (nI 0) (nI 60)) rfl rfl (Nat.le_of_ble_eq_true rfl) (rb0 (by decide)) ?_
  refine aw_xVi [_] dX11_left_8 cvX11_195 (MS.s0 hM) (m_need hM hr.1 hs7 (nI 0 ≤ n ∧ n ≤ nI 60)) rfl rfl (Nat.le_of_ble_eq_true rfl) (rb0 (by decide)) ?_
  refine aw_istore_n (lo' := [_,_,_,_]) dX11_left_11 (Nat.le_of_ble_eq_true rfl) rfl ?_
  refine aw_iload_n dX11_left_12 rfl ?_
  refine aw_if_ge (tgt := 18) dX11_left_13 rfl (fun h13 => ?_) (fun h13 => ?_)
  · obtain ⟨hc, hnp⟩ := nd_ge h13
    obtain ⟨u, hu, rfl⟩ := ix_le (n := n) (k := 60) (Int32.not_lt.mpr hc.1) (Int32.not_lt.mpr hc.2) (by decide)
    have hwu := WV_passN hs hw u (by omega)
    refine aw_aload_n dX11_left_18 rfl ?_
    refine aw_xVv [] dX11_left_19 cvX11_189 (MS.s0 hM) (m_copyNow hM) rfl rfl (Nat.le_of_ble_eq_true rfl) (rb0 (by decide)) ?_
    have hc13 : VR (M + 13) (lg m) (va_up iv (M + 13) (va_cpy (iv (M + 12)) (iv (M + 13)) 0 0 20)) := VR_copy hv
    have hcq : ∀ b, b ≠ M + 13 → va_up iv (M + 13) (va_cpy (iv (M + 12)) (iv (M + 13)) 0 0 20) b = iv b := fun b hb => va_up_n hb
    generalize va_up iv (M + 13) (va_cpy (iv (M + 12)) (iv (M + 13)) 0 0 20) = civ at hc13 hcq ⊢
    have hcr : SR M s civ := SR_f (by rw [hcq M (by omega)]) (hcq _ (by omega)) (hcq _ (by omega)) (hcq _ (by omega)) hr
    refine aw_aload_n dX11_left_22 rfl ?_
    refine aw_iload_n dX11_left_23 rfl ?_
    refine aw_sVi [_] dX11_left_24 cvX11_192 (MS.s0 hM) (m_allBehind hM hs hcr hc13 hw (n := u) (by omega)) rfl rfl (Nat.le_of_ble_eq_true rfl) (rb0 (by decide)) (fun kw kv klv hk => ?_)
    obtain ⟨k0, k1, k2, rfl⟩ := hk
    subst k0
    have hkq : ∀ b, b ≠ M + 13 → b ≠ M + 17 → kv b = iv b := fun b hb _ => by rw [k2 b hb]; exact hcq b hb
    refine aw_istore_n (lo' := [_,_,_,_]) dX11_left_27 (Nat.le_of_ble_eq_true rfl) rfl ?_
    have hkr : SR M s kv := SR_f (by rw [k2 M (by omega)]) (k2 _ (by omega)) (k2 _ (by omega)) (k2 _ (by omega)) hcr
    refine aw_aload_n dX11_left_28 rfl ?_
    refine aw_aload_n dX11_left_29 rfl ?_
    refine aw_aload_n dX11_left_30 rfl ?_
    refine aw_getR dX11_left_31 fgX11_51 rfl (MS.s0 hM) (MS.r0_19 hM) ?_
    refine aw_xVi [_] dX11_left_34 cvX11_199 (MS.s0 hM) (m_calm hM hs hkr (MS.s13 hM) k1 hwu) rfl rfl (Nat.le_of_ble_eq_true rfl) (rb0 (by decide)) ?_
    refine aw_xSi [_] dX11_left_37 csX11_202 (m_bits (x := bitU (pclm (passN s (lg m) u)) s.1) (bit_128 hs7)) rfl rfl (Nat.le_of_ble_eq_true rfl) (rb0 (by decide)) ?_
    rw [pop_bit _ hs7]
    refine aw_iload_n dX11_left_40 rfl ?_
    refine aw_xVi [_, _] dX11_left_41 cvX11_92 (MS.s0 hM) (m_tells hM _ _) rfl rfl (Nat.le_of_ble_eq_true rfl) (rb0 (by decide)) ?_
    refine aw_iret dX11_left_44 rfl (rb0 (Nat.zero_le _)) ⟨rfl, _, rfl, ?_⟩
    first
      | (refine QD_tel hA hD hT hkq ?_
         dsimp only [oLeft, nowT]
         rw [if_neg (fun q => q.elim (fun q => absurd q (nI_pos (by omega))) (fun q => absurd q (nI_nlt hu (by omega)))), if_neg hnp, ix_nI (by omega)]
         rfl)
      | (rcases nd_no h13 with ⟨hc, e⟩ | ⟨hc, hz, e⟩
         · rw [e]
           refine QD_no hA hD hT ?_
           refine if_pos ?_
           by_cases q : n < 0
           · exact Or.inl q
           · exact Or.inr (Int32.not_le.mp (fun q2 => hc ⟨Int32.not_lt.mp q, q2⟩))
         · rw [e]
           refine QD_no hA hD hT ?_
           dsimp only [oLeft, nowT]
           rw [if_neg (fun q => q.elim (fun q => absurd hc.1 (Int32.not_le.mpr q)) (fun q => absurd hc.2 (Int32.not_le.mpr q))), if_pos hz])
  · refine aw_iload_n dX11_left_16 rfl ?_
    refine aw_iret dX11_left_17 rfl (rb0 (Nat.zero_le _)) ⟨rfl, _, rfl, ?_⟩
    first
      | (refine QD_tel hA hD hT hkq ?_
         dsimp only [oLeft, nowT]
         rw [if_neg (fun q => q.elim (fun q => absurd q (nI_pos (by omega))) (fun q => absurd q (nI_nlt hu (by omega)))), if_neg hnp, ix_nI (by omega)]
         rfl)
      | (rcases nd_no h13 with ⟨hc, e⟩ | ⟨hc, hz, e⟩
         · rw [e]
           refine QD_no hA hD hT ?_
           refine if_pos ?_
           by_cases q : n < 0
           · exact Or.inl q
           · exact Or.inr (Int32.not_le.mp (fun q2 => hc ⟨Int32.not_lt.mp q, q2⟩))
         · rw [e]
           refine QD_no hA hD hT ?_
           dsimp only [oLeft, nowT]
           rw [if_neg (fun q => q.elim (fun q => absurd hc.1 (Int32.not_le.mpr q)) (fun q => absurd hc.2 (Int32.not_le.mpr q))), if_pos hz])
