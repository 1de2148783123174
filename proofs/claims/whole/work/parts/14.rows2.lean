theorem lN_1' : (lN 1 : Int64) = 1 := by decide
theorem hr_iff {i : Int32} {c k : Nat} (hc : c < 2 ^ 31) (hk : k < 2 ^ 31) : (0 ≤ i ∧ 0 ≤ nI c ∧ nI c ≤ nI k ∧ i ≤ nI k - nI c) ↔ (¬ i < 0 ∧ ix i + c ≤ k) := by
  constructor
  · rintro ⟨h1, -, h3, h4⟩
    have h5 : ¬ i < 0 := Int32.not_lt.mpr h1
    obtain ⟨p, hp, rfl⟩ := nI_of h5
    have h3' := (nI_leI hc hk).mp h3
    rw [pk_sub h3', nI_leI hp (by omega)] at h4
    exact ⟨h5, by rw [ix_nI hp]; omega⟩
  · rintro ⟨h1, h2⟩
    obtain ⟨p, hp, rfl⟩ := nI_of h1
    rw [ix_nI hp] at h2
    refine ⟨nI_pos' hp, nI_pos' hc, (nI_leI hc hk).mpr (by omega), ?_⟩
    rw [pk_sub (by omega), nI_leI hp (by omega)]
    omega
theorem oTear_n {A : AA} {D : DD} {j : Nat} (hj : j < 6) (h : D.1 j = none) : oTear A D (nI j) = (-3, fnd A 1, D) := by
  unfold oTear
  rw [if_neg (nbad hj (by decide)), ix_nI (by omega)]
  simp only [h]
theorem oTear_k {A : AA} {D : DD} {j k : Nat} (hj : j < 6) (h : D.1 j = some k) : oTear A D (nI j) = (1, A, dSz D j none) := by
  unfold oTear
  rw [if_neg (nbad hj (by decide)), ix_nI (by omega)]
  simp only [h]
theorem oMean_n {A : AA} {D : DD} {j : Nat} (hj : j < 6) (h : D.1 j = none) : oMean A D (nI j) = (-3, fnd A 1, D) := by
  unfold oMean
  rw [if_neg (nbad hj (by decide)), ix_nI (by omega)]
  simp only [h]
theorem oMean_0 {A : AA} {D : DD} {j : Nat} (hj : j < 6) (h : D.1 j = some 0) : oMean A D (nI j) = (-3, fnd A 4, D) := by
  unfold oMean
  rw [if_neg (nbad hj (by decide)), ix_nI (by omega)]
  simp only [h]
theorem oMean_k {A : AA} {D : DD} {j k : Nat} (hj : j < 6) (h : D.1 j = some k) (hk : k ≠ 0) : oMean A D (nI j) = (1, tel A (lsum (D.2.1 j) k / (nI k).toInt64).toInt32, D) := by
  unfold oMean
  rw [if_neg (nbad hj (by decide)), ix_nI (by omega)]
  cases k with
  | zero => exact absurd rfl hk
  | succ k => simp only [h]
theorem lsum_cong {g h : Nat → Int32} : ∀ {m : Nat}, (∀ i, i < m → g i = h i) → lsum g m = lsum h m
  | 0, _ => rfl
  | m + 1, e => by rw [lsum, lsum, lsum_cong (fun i hi => e i (by omega)), e m (by omega)]
theorem oCopy_5 {A : AA} {D : DD} {a b : Nat} (i j : Int32) {n : Int32} (ha : a < 6) (hb : b < 6) (h : n < 0) : oCopy A D (nI a) i (nI b) j n = (-3, fnd A 5, D) := by
  unfold oCopy
  rw [if_neg (fun q => q.elim (nbad ha (by decide)) (nbad hb (by decide))), if_pos h]
theorem oCopy_1 {A : AA} {D : DD} {a b c : Nat} (i j : Int32) (ha : a < 6) (hb : b < 6) (hc : c < 2 ^ 31) (h : D.1 a = none ∨ D.1 b = none) : oCopy A D (nI a) i (nI b) j (nI c) = (-3, fnd A 1, D) := by
  unfold oCopy
  rw [if_neg (fun q => q.elim (nbad ha (by decide)) (nbad hb (by decide))), if_neg (nI_pos hc), ix_nI (by omega), ix_nI (by omega)]
  rcases h with h | h
  · rw [h]
  · rw [h]
    cases D.1 a <;> rfl
theorem oCopy_2 {A : AA} {D : DD} {a b c k k2 : Nat} {i j : Int32} (ha : a < 6) (hb : b < 6) (hc : c < 2 ^ 31) (h : D.1 a = some k) (h2 : D.1 b = some k2) (hh : i < 0 ∨ j < 0 ∨ k < ix i + c ∨ k2 < ix j + c) : oCopy A D (nI a) i (nI b) j (nI c) = (-3, fnd A 2, D) := by
  unfold oCopy
  rw [if_neg (fun q => q.elim (nbad ha (by decide)) (nbad hb (by decide))), if_neg (nI_pos hc), ix_nI (j := a) (by omega), ix_nI (j := b) (by omega), ix_nI hc]
  simp only [h, h2]
  rw [if_pos hh]
theorem oCopy_k {A : AA} {D : DD} {a b c k k2 p q : Nat} (ha : a < 6) (hb : b < 6) (hc : c < 2 ^ 31) (h : D.1 a = some k) (h2 : D.1 b = some k2) (hp : p + c ≤ k) (hq : q + c ≤ k2) (hk : k < 2 ^ 31) (hk2 : k2 < 2 ^ 31) : oCopy A D (nI a) (nI p) (nI b) (nI q) (nI c) = (1, A, dRw D b (va_cpy (D.2.1 a) (D.2.1 b) p q c)) := by
  unfold oCopy
  rw [if_neg (fun q => q.elim (nbad ha (by decide)) (nbad hb (by decide))), if_neg (nI_pos hc), ix_nI (j := a) (by omega), ix_nI (j := b) (by omega), ix_nI hc, ix_nI (j := p) (by omega), ix_nI (j := q) (by omega)]
  simp only [h, h2]
  rw [if_neg]
  rintro (h | h | h | h)
  · exact nI_pos (by omega) h
  · exact nI_pos (by omega) h
  · omega
  · omega
theorem x_tear {G : GC} {E : SH} {iv : IV} {lv : LV} {X : Nat} (hX : XS G E X) {A : AA} {D : DD} (hA : CA X A iv lv) (hD : CD X D iv) (hW : WD D) (r : Int32) : SpI G mX10_tear 2 [.ref X, .int r] E iv lv (QX X iv lv (oTear A D r)) := by
  refine spec0_of (lo := [_,_]) (by decide) (Nat.le_of_ble_eq_true rfl) rfl ?_
  refine aw_aload_n dX10_tear_0 rfl ?_
  refine aw_iload_n dX10_tear_1 rfl ?_
  refine aw_xVi [_] dX10_tear_2 cvX10_64 (XS.s0 hX) (e_isRow r) rfl rfl (Nat.le_of_ble_eq_true rfl) (rb0 (by decide)) ?_
  refine aw_if_ne (tgt := 10) dX10_tear_5 rfl (fun h5 => ?_) (fun h5 => ?_)
  · obtain ⟨j, hj, rfl⟩ := zi_of h5 (by decide)
    refine aw_aload_n dX10_tear_10 rfl ?_
    refine aw_getR dX10_tear_11 fgX10_11 rfl (XS.s0 hX) (XS.r0_0 hX) ?_
    refine aw_iload_n dX10_tear_14 rfl ?_
    refine aw_aaload dX10_tear_15 (XS.s1 hX) ⟨by decide, by decide⟩ rfl hj (XS.rowr hX hj) ?_
    refine aw_xVi [] dX10_tear_16 cvX10_83 (StripS.s0 (XS.row hX hj)) (e_isThere (XS.row hX hj)) rfl rfl (Nat.le_of_ble_eq_true rfl) (rb0 (by decide)) ?_
    refine aw_if_ne (tgt := 28) dX10_tear_19 rfl (fun h19 => ?_) (fun h19 => ?_)
    · obtain ⟨k, e1⟩ : ∃ k, D.1 j = some k := szv_pos (by rw [← hD.1 j hj]; exact Int32.not_lt.mpr (zI_n0.mp h19))
      have hk := hW.1 j hj k e1
      have hz : iv (X + (58 + 2 * j)) 1 = nI k := by rw [hD.1 j hj, e1]; rfl
      refine aw_aload_n dX10_tear_28 rfl ?_
      refine aw_getR dX10_tear_29 fgX10_11 rfl (XS.s0 hX) (XS.r0_0 hX) ?_
      refine aw_iload_n dX10_tear_32 rfl ?_
      refine aw_aaload dX10_tear_33 (XS.s1 hX) ⟨by decide, by decide⟩ rfl hj (XS.rowr hX hj) ?_
      refine aw_xVv [] dX10_tear_34 cvX10_87 (StripS.s0 (XS.row hX hj)) (e_close (XS.row hX hj)) rfl rfl (Nat.le_of_ble_eq_true rfl) (rb0 (by decide)) ?_
      refine aw_iconst (v := nI 1) dX10_tear_37 kc_1 ?_
      refine aw_iret dX10_tear_38 rfl (rb0 (Nat.zero_le _)) ⟨rfl, _, rfl, ?_⟩
      rw [oTear_k hj e1]
      exact ⟨rfl, CA_of hA (va_up_n (by omega)) (va_up_n (by omega)), CD_sz hj rfl hD, fun a ha => va_up_n (PA_r hj ha).1, rfl⟩
    · have e1 : D.1 j = none := szv_neg (by rw [← hD.1 j hj]; exact Int32.not_le.mp (zI_0.mp h19)) (fun k hk => by have := hW.1 j hj k hk; omega)
      refine aw_aload_n dX10_tear_22 rfl ?_
      refine aw_iconst (v := nI 1) dX10_tear_23 kc_1 ?_
      refine aw_xVi [_] dX10_tear_24 cvX10_68 (XS.s0 hX) (e_foundOut hX (f := 1) (by decide) (by decide)) rfl rfl (Nat.le_of_ble_eq_true rfl) (rb0 (by decide)) ?_
      refine aw_iret dX10_tear_27 rfl (rb0 (Nat.zero_le _)) ⟨rfl, _, rfl, ?_⟩
      exact QX_fnd hA hD (by decide) (oTear_n hj e1)
  · refine aw_iconst (v := (-1)) dX10_tear_8 kc_m1 ?_
    refine aw_iret dX10_tear_9 rfl (rb0 (Nat.zero_le _)) ⟨rfl, _, rfl, ?_⟩
    exact QX_no hA hD (if_pos (zi_bad h5))
theorem x_mean {G : GC} {E : SH} {iv : IV} {lv : LV} {X : Nat} (hX : XS G E X) {A : AA} {D : DD} (hA : CA X A iv lv) (hD : CD X D iv) (hW : WD D) (r : Int32) : SpI G mX10_mean 2 [.ref X, .int r] E iv lv (QX X iv lv (oMean A D r)) := by
  refine spec0_of (lo := [_,_,_]) (by decide) (Nat.le_of_ble_eq_true rfl) rfl ?_
  refine aw_aload_n dX10_mean_0 rfl ?_
  refine aw_iload_n dX10_mean_1 rfl ?_
  refine aw_xVi [_] dX10_mean_2 cvX10_64 (XS.s0 hX) (e_isRow r) rfl rfl (Nat.le_of_ble_eq_true rfl) (rb0 (by decide)) ?_
  refine aw_if_ne (tgt := 10) dX10_mean_5 rfl (fun h5 => ?_) (fun h5 => ?_)
  · obtain ⟨j, hj, rfl⟩ := zi_of h5 (by decide)
    refine aw_aload_n dX10_mean_10 rfl ?_
    refine aw_getR dX10_mean_11 fgX10_11 rfl (XS.s0 hX) (XS.r0_0 hX) ?_
    refine aw_iload_n dX10_mean_14 rfl ?_
    refine aw_aaload dX10_mean_15 (XS.s1 hX) ⟨by decide, by decide⟩ rfl hj (XS.rowr hX hj) ?_
    refine aw_astore_n (lo' := [_,_,_]) dX10_mean_16 (Nat.le_of_ble_eq_true rfl) rfl ?_
    refine aw_aload_n dX10_mean_17 rfl ?_
    refine aw_xVi [] dX10_mean_18 cvX10_83 (StripS.s0 (XS.row hX hj)) (e_isThere (XS.row hX hj)) rfl rfl (Nat.le_of_ble_eq_true rfl) (rb0 (by decide)) ?_
    refine aw_if_ne (tgt := 30) dX10_mean_21 rfl (fun h21 => ?_) (fun h21 => ?_)
    · obtain ⟨k, e1⟩ : ∃ k, D.1 j = some k := szv_pos (by rw [← hD.1 j hj]; exact Int32.not_lt.mpr (zI_n0.mp h21))
      have hk := hW.1 j hj k e1
      have hz : iv (X + (58 + 2 * j)) 1 = nI k := by rw [hD.1 j hj, e1]; rfl
      refine aw_aload_n dX10_mean_30 rfl ?_
      refine aw_getI dX10_mean_31 fgX10_100 rfl (StripS.s0 (XS.row hX hj)) ?_
      refine aw_if_ne (tgt := 43) dX10_mean_34 rfl (fun h34 => ?_) (fun h34 => ?_)
      · have hk0 : k ≠ 0 := fun e => h34 (by rw [hz, e]; rfl)
        refine aw_aload_n dX10_mean_43 rfl ?_
        refine aw_aload_n dX10_mean_44 rfl ?_
        refine aw_xVl [] dX10_mean_45 cvX10_103 (StripS.s0 (XS.row hX hj)) (e_total (XS.row hX hj) hz hk (by decide)) rfl rfl (Nat.le_of_ble_eq_true rfl) (rb0 (by decide)) ?_
        refine aw_aload_n dX10_mean_48 rfl ?_
        refine aw_getI dX10_mean_49 fgX10_100 rfl (StripS.s0 (XS.row hX hj)) ?_
        refine aw_i2l dX10_mean_52 ?_
        refine aw_ldiv dX10_mean_53 (by rw [hz, nI_l (by omega), show (0 : Int64) = lN 0 by decide, lN_eq (by omega) (by omega)]; exact hk0) ?_
        rw [hz]
        refine aw_l2i dX10_mean_54 ?_
        refine aw_putI dX10_mean_55 fpX10_51 rfl (XS.s0 hX) ?_
        refine aw_iconst (v := nI 1) dX10_mean_58 kc_1 ?_
        refine aw_iret dX10_mean_59 rfl (rb0 (Nat.zero_le _)) ⟨rfl, _, rfl, ?_⟩
        rw [oMean_k hj e1 hk0, ← lsum_cong (m := k) (fun i hi => hD.2.1 j i hj (by omega))]
        exact ⟨rfl, CA_tel hA, CD_of (fun a h1 h2 => va_up_n (by omega)) hD, fun a ha => va_up_n (PA_X ha), rfl⟩
      · have hk0 : k = 0 := by
          rw [hz] at h34
          exact (nI_eq (by omega) (by omega)).mp (h34.trans nI_0.symm)
        subst hk0
        refine aw_aload_n dX10_mean_37 rfl ?_
        refine aw_iconst (v := nI 4) dX10_mean_38 kc_4 ?_
        refine aw_xVi [_] dX10_mean_39 cvX10_68 (XS.s0 hX) (e_foundOut hX (f := 4) (by decide) (by decide)) rfl rfl (Nat.le_of_ble_eq_true rfl) (rb0 (by decide)) ?_
        refine aw_iret dX10_mean_42 rfl (rb0 (Nat.zero_le _)) ⟨rfl, _, rfl, ?_⟩
        exact QX_fnd hA hD (by decide) (oMean_0 hj e1)
    · have e1 : D.1 j = none := szv_neg (by rw [← hD.1 j hj]; exact Int32.not_le.mp (zI_0.mp h21)) (fun k hk => by have := hW.1 j hj k hk; omega)
      refine aw_aload_n dX10_mean_24 rfl ?_
      refine aw_iconst (v := nI 1) dX10_mean_25 kc_1 ?_
      refine aw_xVi [_] dX10_mean_26 cvX10_68 (XS.s0 hX) (e_foundOut hX (f := 1) (by decide) (by decide)) rfl rfl (Nat.le_of_ble_eq_true rfl) (rb0 (by decide)) ?_
      refine aw_iret dX10_mean_29 rfl (rb0 (Nat.zero_le _)) ⟨rfl, _, rfl, ?_⟩
      exact QX_fnd hA hD (by decide) (oMean_n hj e1)
  · refine aw_iconst (v := (-1)) dX10_mean_8 kc_m1 ?_
    refine aw_iret dX10_mean_9 rfl (rb0 (Nat.zero_le _)) ⟨rfl, _, rfl, ?_⟩
    exact QX_no hA hD (if_pos (zi_bad h5))
theorem x_copy {G : GC} {E : SH} {iv : IV} {lv : LV} {X : Nat} (hX : XS G E X) {A : AA} {D : DD} (hA : CA X A iv lv) (hD : CD X D iv) (hW : WD D) (r i t j n : Int32) : SpI G mX10_copy 2 [.ref X, .int r, .int i, .int t, .int j, .int n] E iv lv (QX X iv lv (oCopy A D r i t j n)) := by
  refine spec0_of (lo := [_,_,_,_,_,_]) (by decide) (Nat.le_of_ble_eq_true rfl) rfl ?_
  refine aw_aload_n dX10_copy_0 rfl ?_
  refine aw_iload_n dX10_copy_1 rfl ?_
  refine aw_xVi [_] dX10_copy_2 cvX10_64 (XS.s0 hX) (e_isRow r) rfl rfl (Nat.le_of_ble_eq_true rfl) (rb0 (by decide)) ?_
  refine aw_if_eq (tgt := 16) dX10_copy_5 rfl (fun h5 => ?_) (fun h5 => ?_)
  · refine aw_iconst (v := (-1)) dX10_copy_16 kc_m1 ?_
    refine aw_iret dX10_copy_17 rfl (rb0 (Nat.zero_le _)) ⟨rfl, _, rfl, ?_⟩
    first | exact QX_no hA hD (if_pos (Or.inl (zi_bad h5))) | exact QX_no hA hD (if_pos (Or.inr (zi_bad h13)))
  · obtain ⟨a, ha, rfl⟩ := zi_of h5 (by decide)
    refine aw_aload_n dX10_copy_8 rfl ?_
    refine aw_iload_n dX10_copy_9 rfl ?_
    refine aw_xVi [_] dX10_copy_10 cvX10_64 (XS.s0 hX) (e_isRow t) rfl rfl (Nat.le_of_ble_eq_true rfl) (rb0 (by decide)) ?_
    refine aw_if_ne (tgt := 18) dX10_copy_13 rfl (fun h13 => ?_) (fun h13 => ?_)
    · obtain ⟨b, hb, rfl⟩ := zi_of h13 (by decide)
      refine aw_iload dX10_copy_18 rfl ?_
      refine aw_if_ge (tgt := 29) dX10_copy_20 rfl (fun h20 => ?_) (fun h20 => ?_)
      · obtain ⟨c, hc, rfl⟩ := nI_of (Int32.not_lt.mpr h20)
        refine aw_aload_n dX10_copy_29 rfl ?_
        refine aw_getR dX10_copy_30 fgX10_11 rfl (XS.s0 hX) (XS.r0_0 hX) ?_
        refine aw_iload_n dX10_copy_33 rfl ?_
        refine aw_aaload dX10_copy_34 (XS.s1 hX) ⟨by decide, by decide⟩ rfl ha (XS.rowr hX ha) ?_
        refine aw_xVi [] dX10_copy_35 cvX10_83 (StripS.s0 (XS.row hX ha)) (e_isThere (XS.row hX ha)) rfl rfl (Nat.le_of_ble_eq_true rfl) (rb0 (by decide)) ?_
        refine aw_if_eq (tgt := 53) dX10_copy_38 rfl (fun h38 => ?_) (fun h38 => ?_)
        · have e1 : D.1 a = none := szv_neg (by rw [← hD.1 a ha]; exact Int32.not_le.mp (zI_0.mp h38)) (fun k hk => by have := hW.1 a ha k hk; omega)
          refine aw_aload_n dX10_copy_53 rfl ?_
          refine aw_iconst (v := nI 1) dX10_copy_54 kc_1 ?_
          refine aw_xVi [_] dX10_copy_55 cvX10_68 (XS.s0 hX) (e_foundOut hX (f := 1) (by decide) (by decide)) rfl rfl (Nat.le_of_ble_eq_true rfl) (rb0 (by decide)) ?_
          refine aw_iret dX10_copy_58 rfl (rb0 (Nat.zero_le _)) ⟨rfl, _, rfl, ?_⟩
          first | exact QX_fnd hA hD (by decide) (oCopy_1 i j ha hb hc (Or.inl e1)) | exact QX_fnd hA hD (by decide) (oCopy_1 i j ha hb hc (Or.inr e2))
        · obtain ⟨k, e1⟩ : ∃ k, D.1 a = some k := szv_pos (by rw [← hD.1 a ha]; exact Int32.not_lt.mpr (zI_n0.mp h38))
          have hk := hW.1 a ha k e1
          have hzk : iv (X + (58 + 2 * a)) 1 = nI k := by rw [hD.1 a ha, e1]; rfl
          refine aw_aload_n dX10_copy_41 rfl ?_
          refine aw_getR dX10_copy_42 fgX10_11 rfl (XS.s0 hX) (XS.r0_0 hX) ?_
          refine aw_iload_n dX10_copy_45 rfl ?_
          refine aw_aaload dX10_copy_46 (XS.s1 hX) ⟨by decide, by decide⟩ rfl hb (XS.rowr hX hb) ?_
          refine aw_xVi [] dX10_copy_47 cvX10_83 (StripS.s0 (XS.row hX hb)) (e_isThere (XS.row hX hb)) rfl rfl (Nat.le_of_ble_eq_true rfl) (rb0 (by decide)) ?_
          refine aw_if_ne (tgt := 59) dX10_copy_50 rfl (fun h50 => ?_) (fun h50 => ?_)
          · obtain ⟨l, e2⟩ : ∃ k, D.1 b = some k := szv_pos (by rw [← hD.1 b hb]; exact Int32.not_lt.mpr (zI_n0.mp h50))
            have hl := hW.1 b hb l e2
            have hzl : iv (X + (58 + 2 * b)) 1 = nI l := by rw [hD.1 b hb, e2]; rfl
            refine aw_aload_n dX10_copy_59 rfl ?_
            refine aw_getR dX10_copy_60 fgX10_11 rfl (XS.s0 hX) (XS.r0_0 hX) ?_
            refine aw_iload_n dX10_copy_63 rfl ?_
            refine aw_aaload dX10_copy_64 (XS.s1 hX) ⟨by decide, by decide⟩ rfl ha (XS.rowr hX ha) ?_
            refine aw_iload_n dX10_copy_65 rfl ?_
            refine aw_iload dX10_copy_66 rfl ?_
            refine aw_xVi [_, _] dX10_copy_68 cvX10_90 (StripS.s0 (XS.row hX ha)) (e_hasRun (XS.row hX ha)) rfl rfl (Nat.le_of_ble_eq_true rfl) (rb0 (by decide)) ?_
            rw [hzk, zI_e (hr_iff hc (by omega))]
            refine aw_if_eq (tgt := 90) dX10_copy_71 rfl (fun h71 => ?_) (fun h71 => ?_)
            · refine aw_aload_n dX10_copy_90 rfl ?_
              refine aw_iconst (v := nI 2) dX10_copy_91 kc_2 ?_
              refine aw_xVi [_] dX10_copy_92 cvX10_68 (XS.s0 hX) (e_foundOut hX (f := 2) (by decide) (by decide)) rfl rfl (Nat.le_of_ble_eq_true rfl) (rb0 (by decide)) ?_
              refine aw_iret dX10_copy_95 rfl (rb0 (Nat.zero_le _)) ⟨rfl, _, rfl, ?_⟩
              refine QX_fnd hA hD (by decide) (oCopy_2 ha hb hc e1 e2 ?_)
              first
                | (have h9 := zI_0.mp h87
                   by_cases h10 : j < 0
                   · exact Or.inr (Or.inl h10)
                   · exact Or.inr (Or.inr (Or.inr (Nat.not_le.mp (fun h => h9 ⟨h10, h⟩)))))
                | (have h9 := zI_0.mp h71
                   by_cases h10 : i < 0
                   · exact Or.inl h10
                   · exact Or.inr (Or.inr (Or.inl (Nat.not_le.mp (fun h => h9 ⟨h10, h⟩)))))
            · obtain ⟨h7, h8⟩ := zI_n0.mp h71
              obtain ⟨p, hp, rfl⟩ := nI_of h7
              rw [ix_nI hp] at h8
              refine aw_aload_n dX10_copy_74 rfl ?_
              refine aw_getR dX10_copy_75 fgX10_11 rfl (XS.s0 hX) (XS.r0_0 hX) ?_
              refine aw_iload_n dX10_copy_78 rfl ?_
              refine aw_aaload dX10_copy_79 (XS.s1 hX) ⟨by decide, by decide⟩ rfl hb (XS.rowr hX hb) ?_
              refine aw_iload dX10_copy_80 rfl ?_
              refine aw_iload dX10_copy_82 rfl ?_
              refine aw_xVi [_, _] dX10_copy_84 cvX10_90 (StripS.s0 (XS.row hX hb)) (e_hasRun (XS.row hX hb)) rfl rfl (Nat.le_of_ble_eq_true rfl) (rb0 (by decide)) ?_
              rw [hzl, zI_e (hr_iff hc (by omega))]
              refine aw_if_ne (tgt := 96) dX10_copy_87 rfl (fun h87 => ?_) (fun h87 => ?_)
              · obtain ⟨h9, h10⟩ := zI_n0.mp h87
                obtain ⟨q, hq, rfl⟩ := nI_of h9
                rw [ix_nI hq] at h10
                refine aw_aload_n dX10_copy_96 rfl ?_
                refine aw_getR dX10_copy_97 fgX10_11 rfl (XS.s0 hX) (XS.r0_0 hX) ?_
                refine aw_iload_n dX10_copy_100 rfl ?_
                refine aw_aaload dX10_copy_101 (XS.s1 hX) ⟨by decide, by decide⟩ rfl ha (XS.rowr hX ha) ?_
                refine aw_getR dX10_copy_102 fgX10_80 rfl (StripS.s0 (XS.row hX ha)) (StripS.r0_0 (XS.row hX ha)) ?_
                refine aw_iload_n dX10_copy_105 rfl ?_
                refine aw_aload_n dX10_copy_106 rfl ?_
                refine aw_getR dX10_copy_107 fgX10_11 rfl (XS.s0 hX) (XS.r0_0 hX) ?_
                refine aw_iload_n dX10_copy_110 rfl ?_
                refine aw_aaload dX10_copy_111 (XS.s1 hX) ⟨by decide, by decide⟩ rfl hb (XS.rowr hX hb) ?_
                refine aw_getR dX10_copy_112 fgX10_80 rfl (StripS.s0 (XS.row hX hb)) (StripS.r0_0 (XS.row hX hb)) ?_
                refine aw_iload dX10_copy_115 rfl ?_
                refine aw_iload dX10_copy_117 rfl ?_
                refine aw_copy dX10_copy_119 mjX10_94 st_ac na_ac in_java_lang_System (StripS.s1 (XS.row hX ha)) (StripS.s1 (XS.row hX hb)) rfl rfl rfl (by omega) (by omega) (Nat.le_of_ble_eq_true rfl) (rb0 (by decide)) ?_
                refine aw_iconst (v := nI 1) dX10_copy_122 kc_1 ?_
                refine aw_iret dX10_copy_123 rfl (rb0 (Nat.zero_le _)) ⟨rfl, _, rfl, ?_⟩
                rw [oCopy_k ha hb hc e1 e2 h8 h10 (by omega) (by omega)]
                refine ⟨rfl, CA_of hA (va_up_n (by omega)) (va_up_n (by omega)), CD_rw hb (fun x hx => ?_) hD, fun a ha => va_up_n (PA_r hb ha).2, rfl⟩
                unfold va_cpy
                split
                · exact hD.2.1 a _ ha (by omega)
                · exact hD.2.1 b x hb hx
              · refine aw_aload_n dX10_copy_90 rfl ?_
                refine aw_iconst (v := nI 2) dX10_copy_91 kc_2 ?_
                refine aw_xVi [_] dX10_copy_92 cvX10_68 (XS.s0 hX) (e_foundOut hX (f := 2) (by decide) (by decide)) rfl rfl (Nat.le_of_ble_eq_true rfl) (rb0 (by decide)) ?_
                refine aw_iret dX10_copy_95 rfl (rb0 (Nat.zero_le _)) ⟨rfl, _, rfl, ?_⟩
                refine QX_fnd hA hD (by decide) (oCopy_2 ha hb hc e1 e2 ?_)
                first
                  | (have h9 := zI_0.mp h87
                     by_cases h10 : j < 0
                     · exact Or.inr (Or.inl h10)
                     · exact Or.inr (Or.inr (Or.inr (Nat.not_le.mp (fun h => h9 ⟨h10, h⟩)))))
                  | (have h9 := zI_0.mp h71
                     by_cases h10 : i < 0
                     · exact Or.inl h10
                     · exact Or.inr (Or.inr (Or.inl (Nat.not_le.mp (fun h => h9 ⟨h10, h⟩)))))
          · have e2 : D.1 b = none := szv_neg (by rw [← hD.1 b hb]; exact Int32.not_le.mp (zI_0.mp h50)) (fun k hk => by have := hW.1 b hb k hk; omega)
            refine aw_aload_n dX10_copy_53 rfl ?_
            refine aw_iconst (v := nI 1) dX10_copy_54 kc_1 ?_
            refine aw_xVi [_] dX10_copy_55 cvX10_68 (XS.s0 hX) (e_foundOut hX (f := 1) (by decide) (by decide)) rfl rfl (Nat.le_of_ble_eq_true rfl) (rb0 (by decide)) ?_
            refine aw_iret dX10_copy_58 rfl (rb0 (Nat.zero_le _)) ⟨rfl, _, rfl, ?_⟩
            first | exact QX_fnd hA hD (by decide) (oCopy_1 i j ha hb hc (Or.inl e1)) | exact QX_fnd hA hD (by decide) (oCopy_1 i j ha hb hc (Or.inr e2))
      · refine aw_aload_n dX10_copy_23 rfl ?_
        refine aw_iconst (v := nI 5) dX10_copy_24 kc_5 ?_
        refine aw_xVi [_] dX10_copy_25 cvX10_68 (XS.s0 hX) (e_foundOut hX (f := 5) (by decide) (by decide)) rfl rfl (Nat.le_of_ble_eq_true rfl) (rb0 (by decide)) ?_
        refine aw_iret dX10_copy_28 rfl (rb0 (Nat.zero_le _)) ⟨rfl, _, rfl, ?_⟩
        exact QX_fnd hA hD (by decide) (oCopy_5 i j ha hb (Int32.not_le.mp h20))
    · refine aw_iconst (v := (-1)) dX10_copy_16 kc_m1 ?_
      refine aw_iret dX10_copy_17 rfl (rb0 (Nat.zero_le _)) ⟨rfl, _, rfl, ?_⟩
      first | exact QX_no hA hD (if_pos (Or.inl (zi_bad h5))) | exact QX_no hA hD (if_pos (Or.inr (zi_bad h13)))
theorem x_asked {G : GC} {E : SH} {iv : IV} {lv : LV} {X : Nat} (hX : XS G E X) {A : AA} (hA : CA X A iv lv) : ExI G mX10_asked 1 [.ref X] E iv lv (A.1) iv lv := by
  refine spec0_of (lo := [_]) (by decide) (Nat.le_of_ble_eq_true rfl) rfl ?_
  refine aw_aload_n dX10_asked_0 rfl ?_
  refine aw_getI dX10_asked_1 fgX10_51 rfl (XS.s0 hX) ?_
  refine aw_iret dX10_asked_4 rfl (rb0 (Nat.zero_le _)) ⟨rfl, _, rfl, hA.1, rfl, rfl⟩
theorem x_finding {G : GC} {E : SH} {iv : IV} {lv : LV} {X : Nat} (hX : XS G E X) {A : AA} (hA : CA X A iv lv) : ExI G mX10_finding 1 [.ref X] E iv lv (A.2.1) iv lv := by
  refine spec0_of (lo := [_]) (by decide) (Nat.le_of_ble_eq_true rfl) rfl ?_
  refine aw_aload_n dX10_finding_0 rfl ?_
  refine aw_getI dX10_finding_1 fgX10_47 rfl (XS.s0 hX) ?_
  refine aw_iret dX10_finding_4 rfl (rb0 (Nat.zero_le _)) ⟨rfl, _, rfl, hA.2.1, rfl, rfl⟩
theorem x_upper {G : GC} {E : SH} {iv : IV} {lv : LV} {X : Nat} (hX : XS G E X) {A : AA} (hA : CA X A iv lv) : ExL G mX10_upper 1 [.ref X] E iv lv (A.2.2.1) iv lv := by
  refine spec0_of (lo := [_]) (by decide) (Nat.le_of_ble_eq_true rfl) rfl ?_
  refine aw_aload_n dX10_upper_0 rfl ?_
  refine aw_getL dX10_upper_1 fgX10_54 rfl (XS.s0 hX) ?_
  refine aw_lret dX10_upper_4 rfl (rb0 (Nat.zero_le _)) ⟨rfl, _, rfl, hA.2.2.1, rfl, rfl⟩
theorem x_lower {G : GC} {E : SH} {iv : IV} {lv : LV} {X : Nat} (hX : XS G E X) {A : AA} (hA : CA X A iv lv) : ExL G mX10_lower 1 [.ref X] E iv lv (A.2.2.2.1) iv lv := by
  refine spec0_of (lo := [_]) (by decide) (Nat.le_of_ble_eq_true rfl) rfl ?_
  refine aw_aload_n dX10_lower_0 rfl ?_
  refine aw_getL dX10_lower_1 fgX10_58 rfl (XS.s0 hX) ?_
  refine aw_lret dX10_lower_4 rfl (rb0 (Nat.zero_le _)) ⟨rfl, _, rfl, hA.2.2.2.1, rfl, rfl⟩
def oFs (A : AA) (f : Int32) : Int32 := if f < nI 1 ∨ nI 5 < f then -1 else A.2.2.2.2 (ix f)
theorem x_findings {G : GC} {E : SH} {iv : IV} {lv : LV} {X : Nat} (hX : XS G E X) {A : AA} (hA : CA X A iv lv) (f : Int32) : ExI G mX10_findings 1 [.ref X, .int f] E iv lv (oFs A f) iv lv := by
  refine spec0_of (lo := [_,_]) (by decide) (Nat.le_of_ble_eq_true rfl) rfl ?_
  refine aw_iload_n dX10_findings_0 rfl ?_
  refine aw_iconst (v := nI 1) dX10_findings_1 kc_1 ?_
  refine aw_icmp_lt (tgt := 10) dX10_findings_2 rfl (fun h2 => ?_) (fun h2 => ?_)
  · refine aw_iconst (v := (-1)) dX10_findings_10 kc_m1 ?_
    refine aw_iret dX10_findings_11 rfl (rb0 (Nat.zero_le _)) ⟨rfl, _, rfl, ?_, rfl, rfl⟩
    unfold oFs
    first | exact (if_pos (Or.inl h2)).symm | exact (if_pos (Or.inr (Int32.not_le.mp h7))).symm
  · refine aw_iload_n dX10_findings_5 rfl ?_
    refine aw_iconst (v := nI 5) dX10_findings_6 kc_5 ?_
    refine aw_icmp_le (tgt := 12) dX10_findings_7 rfl (fun h7 => ?_) (fun h7 => ?_)
    · obtain ⟨j, hj, rfl⟩ := ix_le (fun q => h2 (Int32.lt_of_lt_of_le q (by decide))) (Int32.not_lt.mpr h7) (by decide)
      refine aw_aload_n dX10_findings_12 rfl ?_
      refine aw_getR dX10_findings_13 fgX10_43 rfl (XS.s0 hX) (XS.r0_6 hX) ?_
      refine aw_iload_n dX10_findings_16 rfl ?_
      refine aw_iaload dX10_findings_17 (XS.s57 hX) rfl (by omega) ?_
      refine aw_iret dX10_findings_18 rfl (rb0 (Nat.zero_le _)) ⟨rfl, _, rfl, ?_, rfl, rfl⟩
      unfold oFs
      rw [if_neg (fun q => q.elim h2 (fun q => absurd q (Int32.not_lt.mpr h7))), ix_nI (by omega)]
      exact hA.2.2.2.2 j (by omega)
    · refine aw_iconst (v := (-1)) dX10_findings_10 kc_m1 ?_
      refine aw_iret dX10_findings_11 rfl (rb0 (Nat.zero_le _)) ⟨rfl, _, rfl, ?_, rfl, rfl⟩
      unfold oFs
      first | exact (if_pos (Or.inl h2)).symm | exact (if_pos (Or.inr (Int32.not_le.mp h7))).symm
