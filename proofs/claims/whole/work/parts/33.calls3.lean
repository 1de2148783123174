/-! a record: a row of totals -/
def rok (g : Nat → Int32) : Nat → Bool
  | 0 => true
  | k + 1 => rok g k && decide (0 ≤ g k ∧ g k ≤ nI 63)
theorem rok_f {g : Nat → Int32} {d : Nat} (h : ¬ (0 ≤ g d ∧ g d ≤ nI 63)) : ∀ c, rok g (d + 1 + c) = false
  | 0 => by
    show (rok g d && decide _) = false
    rw [decide_eq_false h, Bool.and_false]
  | c + 1 => by
    show (rok g (d + 1 + c) && decide _) = false
    rw [rok_f h c, Bool.false_and]
def oRec (A : AA) (D : DD) (T : FT) (i r : Int32) : Option (Int32 × AA) := if bad i T.1.1 ∨ bad r 6 then some (-1, A) else match D.1 (ix r) with
  | none => some (-3, fnd A 1)
  | some k => if k < 1 ∨ 20 < k then some (-3, fnd A 5) else if rok (D.2.1 (ix r)) k then none else some (-3, fnd A 3)
theorem oRec_n {A : AA} {D : DD} {T : FT} {i r : Int32} (h7 : T.1.1 ≤ 7) (h : oRec A D T i r = none) : ∃ j t k, j < T.1.1 ∧ t < 6 ∧ 1 ≤ k ∧ k ≤ 20 ∧ i = nI j ∧ r = nI t ∧ D.1 t = some k := by
  unfold oRec at h
  split at h
  · cases h
  · rename_i hb
    obtain ⟨j, hj, rfl⟩ := ix_of (fun q => hb (Or.inl q)) (by omega)
    obtain ⟨t, ht, rfl⟩ := ix_of (fun q => hb (Or.inr q)) (by decide)
    rw [ix_nI (by omega)] at h
    cases e : D.1 t with
    | none => rw [e] at h; cases h
    | some k =>
      rw [e] at h
      dsimp only at h
      split at h
      · cases h
      · exact ⟨j, t, k, hj, ht, by omega, by omega, rfl, rfl, e⟩
def rsz (D : DD) (r : Nat) : Nat := (D.1 r).getD 0
def oKinds (A : AA) (D : DD) (T : FT) (i r : Int32) : RS := match oRec A D T i r with
  | some q => (q.1, q.2, D, T)
  | none => (nI (bitU (pK T.1 (nowT T) (ix i) (D.2.1 (ix r)) (rsz D (ix r))) 6), A, D, T)
def oHighs (A : AA) (D : DD) (T : FT) (i r : Int32) : RS := match oRec A D T i r with
  | some q => (q.1, q.2, D, T)
  | none => (nI (bitU (pH T.1 (nowT T) (ix i) (D.2.1 (ix r)) (rsz D (ix r))) 10), A, D, T)
def oTest (A : AA) (D : DD) (T : FT) (i r : Int32) : RS := match oRec A D T i r with
  | some q => (q.1, q.2, D, T)
  | none => if xK T.1 (nowT T) (ix i) (D.2.1 (ix r)) (rsz D (ix r)) = 0 then (-9, A, D, T) else (nI ((bst (fLk T.1 (nowT T) (ix i) (xK T.1 (nowT T) (ix i) (D.2.1 (ix r)) (rsz D (ix r)))) 20).1 + 1), tel A (nI (bst (fLk T.1 (nowT T) (ix i) (xK T.1 (nowT T) (ix i) (D.2.1 (ix r)) (rsz D (ix r)))) 20).2), D, T)
def oDuel (A : AA) (D : DD) (T : FT) (n : Int32) : RS := if n < 0 ∨ nI 3 < n then (-1, A, D, T) else if T.1.1 = 0 then (-4, A, D, T) else (nI (ocR T.1 (ix n) 0 (nowT T)), A, D, T)
def QR (X : Nat) (A : AA) (D : DD) (T : FT) (i r : Int32) (iv : IV) (lv : LV) (w : Int32) (i0 : IV) (l : LV) : Prop := (∀ p B, oRec A D T i r = some (p, B) → p ≠ 0 ∧ QC X iv lv (p, B, D, T) w i0 l) ∧ (oRec A D T i r = none → w = 0 ∧ i0 = iv ∧ l = lv)
theorem QR_s {X : Nat} {A B : AA} {D : DD} {T : FT} {i r p : Int32} {iv i0 : IV} {lv l : LV} (h : oRec A D T i r = some (p, B)) (h0 : p ≠ 0) (hq : QC X iv lv (p, B, D, T) p i0 l) : QR X A D T i r iv lv p i0 l := by
  refine ⟨fun p2 B2 e => ?_, fun e => by rw [h] at e; cases e⟩
  rw [h] at e; cases e
  exact ⟨h0, hq⟩
theorem ftB_c {s : TS} {v : TV} {g h : Nat → Int32} : ∀ {m : Nat}, (∀ k, k < m → g k = h k) → ftB s v g m = ftB s v h m
  | 0, _ => rfl
  | m + 1, e => by
    unfold ftB
    rw [ftB_c (fun k hk => e k (by omega)), e m (by omega)]
theorem pK_c {s : TS} {v : TV} {i m : Nat} {g h : Nat → Int32} (e : ∀ k, k < m → g k = h k) : pK s v i g m = pK s v i h m := funext (fun k => ftB_c e)
theorem pH_c {s : TS} {v : TV} {i m : Nat} {g h : Nat → Int32} (e : ∀ k, k < m → g k = h k) : pH s v i g m = pH s v i h m := funext (fun k => ftB_c e)
theorem xK_c {s : TS} {v : TV} {i m : Nat} {g h : Nat → Int32} (e : ∀ k, k < m → g k = h k) : xK s v i g m = xK s v i h m := by unfold xK; rw [pK_c e]
theorem lo_rec {G : GC} {E : SH} {iv : IV} {lv : LV} {X : Nat} (hX : XS G E X) {A : AA} {D : DD} {T : FT} (hA : CA X A iv lv) (hD : CD X D iv) (hT : CT X T iv) (hW : WT T) {j t k : Nat} (ht : t < 6) (hj : j < T.1.1) (hk20 : k ≤ 20) (hz : iv (X + (58 + 2 * t)) 1 = nI k) (e0 : oRec A D T (nI j) (nI t) = if rok (D.2.1 t) k then none else some (-3, fnd A 3)) : ∀ (c d : Nat), d + c = k → rok (D.2.1 t) d = true → AW G mX10_refusalOfRecord (rm 2 0) (Z0 G 2 E (fun q i0 l => ∃ w, q = some (.int w) ∧ QR X A D T (nI j) (nI t) iv lv w i0 l)) (fun _ => True) E.1 64 [some (.ref X), some (.int (nI j)), some (.int (nI t)), some (.ref (X + (58 + 2 * t))), some (.int (nI d))] [] E iv lv := by
  intro c
  induction c with
  | zero =>
    intro d hd hk
    have hd : d = k := by omega
    subst hd
    refine aw_iload dX10_refusalOfRecord_64 rfl ?_
    refine aw_aload_n dX10_refusalOfRecord_66 rfl ?_
    refine aw_getI dX10_refusalOfRecord_67 fgX10_100 rfl (StripS.s0 (XS.row hX ht)) ?_
    refine aw_icmp_ge (tgt := 107) dX10_refusalOfRecord_70 rfl (fun h70 => ?_) (fun h70 => absurd (by rw [hz]; exact nI_le (Nat.le_refl _) (by omega)) h70)
    refine aw_iconst (v := nI 0) dX10_refusalOfRecord_107 kc_0 ?_
    refine aw_iret dX10_refusalOfRecord_108 rfl (rb0 (Nat.zero_le _)) ⟨rfl, _, rfl, ?_⟩
    rw [hk, if_pos rfl] at e0
    exact ⟨fun p B q => (by rw [e0] at q; cases q), fun _ => ⟨rfl, rfl, rfl⟩⟩
  | succ c ih =>
    intro d hd hk
    refine aw_iload dX10_refusalOfRecord_64 rfl ?_
    refine aw_aload_n dX10_refusalOfRecord_66 rfl ?_
    refine aw_getI dX10_refusalOfRecord_67 fgX10_100 rfl (StripS.s0 (XS.row hX ht)) ?_
    refine aw_icmp_ge (tgt := 107) dX10_refusalOfRecord_70 rfl (fun h70 => absurd h70 (by rw [hz]; exact nI_ge (by omega) (by omega))) (fun h70 => ?_)
    refine aw_aload_n dX10_refusalOfRecord_73 rfl ?_
    refine aw_getR dX10_refusalOfRecord_74 fgX10_80 rfl (StripS.s0 (XS.row hX ht)) (StripS.r0_0 (XS.row hX ht)) ?_
    refine aw_iload dX10_refusalOfRecord_77 rfl ?_
    refine aw_iaload dX10_refusalOfRecord_79 (StripS.s1 (XS.row hX ht)) rfl (by omega) ?_
    rw [hD.2.1 t d ht (by omega)]
    refine aw_if_lt (tgt := 95) dX10_refusalOfRecord_80 rfl (fun h80 => ?_) (fun h80 => ?_)
    · refine aw_aload_n dX10_refusalOfRecord_95 rfl ?_
      refine aw_iconst (v := nI 3) dX10_refusalOfRecord_96 kc_3 ?_
      refine aw_xVi [_] dX10_refusalOfRecord_97 cvX10_68 (XS.s0 hX) (e_foundOut hX (f := 3) (by decide) (by decide)) rfl rfl (Nat.le_of_ble_eq_true rfl) (rb0 (by decide)) ?_
      refine aw_iret dX10_refusalOfRecord_100 rfl (rb0 (Nat.zero_le _)) ⟨rfl, _, rfl, ?_⟩
      have hn : ¬ (0 ≤ D.2.1 t d ∧ D.2.1 t d ≤ nI 63) := by
        first
          | exact fun q => absurd q.1 (Int32.not_le.mpr h80)
          | exact fun q => h92 q.2
      have hh := rok_f hn c
      rw [show d + 1 + c = k by omega] at hh
      rw [hh, if_neg (by decide)] at e0
      exact QR_s e0 (by decide) (QC_fnd hA hD hT (by decide) rfl)
    · refine aw_aload_n dX10_refusalOfRecord_83 rfl ?_
      refine aw_getR dX10_refusalOfRecord_84 fgX10_80 rfl (StripS.s0 (XS.row hX ht)) (StripS.r0_0 (XS.row hX ht)) ?_
      refine aw_iload dX10_refusalOfRecord_87 rfl ?_
      refine aw_iaload dX10_refusalOfRecord_89 (StripS.s1 (XS.row hX ht)) rfl (by omega) ?_
      rw [hD.2.1 t d ht (by omega)]
      refine aw_bipush (v := nI 63) dX10_refusalOfRecord_90 kb_63 ?_
      refine aw_icmp_le (tgt := 101) dX10_refusalOfRecord_92 rfl (fun h92 => ?_) (fun h92 => ?_)
      · refine aw_iinc (v := _) (lo' := [_,_,_,_,_]) dX10_refusalOfRecord_101 rfl (nI_1 d) rfl ?_
        refine aw_goto (tgt := 64) dX10_refusalOfRecord_104 rfl ?_
        refine ih (d + 1) (by omega) ?_
        show (rok _ d && decide _) = true
        rw [hk, decide_eq_true ⟨Int32.not_lt.mp h80, h92⟩, Bool.and_true]
      · refine aw_aload_n dX10_refusalOfRecord_95 rfl ?_
        refine aw_iconst (v := nI 3) dX10_refusalOfRecord_96 kc_3 ?_
        refine aw_xVi [_] dX10_refusalOfRecord_97 cvX10_68 (XS.s0 hX) (e_foundOut hX (f := 3) (by decide) (by decide)) rfl rfl (Nat.le_of_ble_eq_true rfl) (rb0 (by decide)) ?_
        refine aw_iret dX10_refusalOfRecord_100 rfl (rb0 (Nat.zero_le _)) ⟨rfl, _, rfl, ?_⟩
        have hn : ¬ (0 ≤ D.2.1 t d ∧ D.2.1 t d ≤ nI 63) := by
          first
            | exact fun q => absurd q.1 (Int32.not_le.mpr h80)
            | exact fun q => h92 q.2
        have hh := rok_f hn c
        rw [show d + 1 + c = k by omega] at hh
        rw [hh, if_neg (by decide)] at e0
        exact QR_s e0 (by decide) (QC_fnd hA hD hT (by decide) rfl)
theorem x_rec {G : GC} {E : SH} {iv : IV} {lv : LV} {X : Nat} (hX : XS G E X) {A : AA} {D : DD} {T : FT} (hA : CA X A iv lv) (hD : CD X D iv) (hT : CT X T iv) (hW : WT T) (hDW : WD D) (i r : Int32) : SpI G mX10_refusalOfRecord 2 [.ref X, .int i, .int r] E iv lv (QR X A D T i r iv lv) := by
  have h7 : T.1.1 ≤ 7 := hW.1.1.1
  by_cases hb : bad i T.1.1 ∨ bad r 6
  · have e : oRec A D T i r = some (-1, A) := if_pos hb
    refine spec0_of (lo := [_,_,_,_,_]) (by decide) (Nat.le_of_ble_eq_true rfl) rfl ?_
    refine aw_aload_n dX10_refusalOfRecord_0 rfl ?_
    refine aw_iload_n dX10_refusalOfRecord_1 rfl ?_
    refine aw_xVi [_] dX10_refusalOfRecord_2 cvX10_121 (XS.s0 hX) (e_isPerson hX hT.1.1.1 i) rfl rfl (Nat.le_of_ble_eq_true rfl) (rb0 (by decide)) ?_
    refine aw_if_eq (tgt := 16) dX10_refusalOfRecord_5 rfl (fun h5 => ?_) (fun h5 => ?_)
    · refine aw_iconst (v := (-1)) dX10_refusalOfRecord_16 kc_m1 ?_
      refine aw_iret dX10_refusalOfRecord_17 rfl (rb0 (Nat.zero_le _)) ⟨rfl, _, rfl, ?_⟩
      exact QR_s e (by decide) (QC_no hA hD hT rfl)
    · refine aw_aload_n dX10_refusalOfRecord_8 rfl ?_
      refine aw_iload_n dX10_refusalOfRecord_9 rfl ?_
      refine aw_xVi [_] dX10_refusalOfRecord_10 cvX10_64 (XS.s0 hX) (e_isRow r) rfl rfl (Nat.le_of_ble_eq_true rfl) (rb0 (by decide)) ?_
      refine aw_if_ne (tgt := 18) dX10_refusalOfRecord_13 rfl (fun h13 => ?_) (fun h13 => ?_)
      · exact absurd hb (fun q => q.elim (fun q => q (zI_n0.mp h5)) (fun q => q (zI_n0.mp h13)))
      · refine aw_iconst (v := (-1)) dX10_refusalOfRecord_16 kc_m1 ?_
        refine aw_iret dX10_refusalOfRecord_17 rfl (rb0 (Nat.zero_le _)) ⟨rfl, _, rfl, ?_⟩
        exact QR_s e (by decide) (QC_no hA hD hT rfl)
  obtain ⟨j, hj, rfl⟩ := ix_of (fun q => hb (Or.inl q)) (by omega)
  obtain ⟨t, ht, rfl⟩ := ix_of (fun q => hb (Or.inr q)) (by decide)
  have hz := hD.1 t ht
  cases hk : D.1 t with
  | none =>
    have e : oRec A D T (nI j) (nI t) = some (-3, fnd A 1) := by
      unfold oRec
      rw [if_neg hb, ix_nI (by omega), hk]
    rw [hk] at hz
    refine spec0_of (lo := [_,_,_,_,_]) (by decide) (Nat.le_of_ble_eq_true rfl) rfl ?_
    refine aw_aload_n dX10_refusalOfRecord_0 rfl ?_
    refine aw_iload_n dX10_refusalOfRecord_1 rfl ?_
    refine aw_xVi [_] dX10_refusalOfRecord_2 cvX10_121 (XS.s0 hX) (e_isPerson hX hT.1.1.1 (nI j)) rfl rfl (Nat.le_of_ble_eq_true rfl) (rb0 (by decide)) ?_
    refine aw_if_eq (tgt := 16) dX10_refusalOfRecord_5 rfl (fun h5 => ?_) (fun h5 => ?_)
    · exact absurd (Or.inl (zi_bad h5)) hb
    · refine aw_aload_n dX10_refusalOfRecord_8 rfl ?_
      refine aw_iload_n dX10_refusalOfRecord_9 rfl ?_
      refine aw_xVi [_] dX10_refusalOfRecord_10 cvX10_64 (XS.s0 hX) (e_isRow (nI t)) rfl rfl (Nat.le_of_ble_eq_true rfl) (rb0 (by decide)) ?_
      refine aw_if_ne (tgt := 18) dX10_refusalOfRecord_13 rfl (fun h13 => ?_) (fun h13 => ?_)
      · refine aw_aload_n dX10_refusalOfRecord_18 rfl ?_
        refine aw_getR dX10_refusalOfRecord_19 fgX10_11 rfl (XS.s0 hX) (XS.r0_0 hX) ?_
        refine aw_iload_n dX10_refusalOfRecord_22 rfl ?_
        refine aw_aaload dX10_refusalOfRecord_23 (XS.s1 hX) ⟨by decide, by decide⟩ rfl ht (XS.rowr hX ht) ?_
        refine aw_astore_n (lo' := [_,_,_,_,_]) dX10_refusalOfRecord_24 (Nat.le_of_ble_eq_true rfl) rfl ?_
        refine aw_aload_n dX10_refusalOfRecord_25 rfl ?_
        refine aw_xVi [] dX10_refusalOfRecord_26 cvX10_83 (StripS.s0 (XS.row hX ht)) (e_isThere (XS.row hX ht)) rfl rfl (Nat.le_of_ble_eq_true rfl) (rb0 (by decide)) ?_
        refine aw_if_ne (tgt := 38) dX10_refusalOfRecord_29 rfl (fun h29 => ?_) (fun h29 => ?_)
        · (rw [hz] at h29; exact absurd (zI_n0.mp h29) (by decide))
        · refine aw_aload_n dX10_refusalOfRecord_32 rfl ?_
          refine aw_iconst (v := nI 1) dX10_refusalOfRecord_33 kc_1 ?_
          refine aw_xVi [_] dX10_refusalOfRecord_34 cvX10_68 (XS.s0 hX) (e_foundOut hX (f := 1) (by decide) (by decide)) rfl rfl (Nat.le_of_ble_eq_true rfl) (rb0 (by decide)) ?_
          refine aw_iret dX10_refusalOfRecord_37 rfl (rb0 (Nat.zero_le _)) ⟨rfl, _, rfl, ?_⟩
          exact QR_s e (by decide) (QC_fnd hA hD hT (by decide) rfl)
      · exact absurd (Or.inr (zi_bad h13)) hb
  | some k =>
    have hk40 : k ≤ 40 := hDW.1 t ht k hk
    replace hz : iv (X + (58 + 2 * t)) 1 = nI k := by rw [hz, hk]; rfl
    have e : oRec A D T (nI j) (nI t) = if k < 1 ∨ 20 < k then some (-3, fnd A 5) else if rok (D.2.1 t) k then none else some (-3, fnd A 3) := by
      unfold oRec
      rw [if_neg hb, ix_nI (by omega), hk]
    refine spec0_of (lo := [_,_,_,_,_]) (by decide) (Nat.le_of_ble_eq_true rfl) rfl ?_
    refine aw_aload_n dX10_refusalOfRecord_0 rfl ?_
    refine aw_iload_n dX10_refusalOfRecord_1 rfl ?_
    refine aw_xVi [_] dX10_refusalOfRecord_2 cvX10_121 (XS.s0 hX) (e_isPerson hX hT.1.1.1 (nI j)) rfl rfl (Nat.le_of_ble_eq_true rfl) (rb0 (by decide)) ?_
    refine aw_if_eq (tgt := 16) dX10_refusalOfRecord_5 rfl (fun h5 => ?_) (fun h5 => ?_)
    · exact absurd (Or.inl (zi_bad h5)) hb
    · refine aw_aload_n dX10_refusalOfRecord_8 rfl ?_
      refine aw_iload_n dX10_refusalOfRecord_9 rfl ?_
      refine aw_xVi [_] dX10_refusalOfRecord_10 cvX10_64 (XS.s0 hX) (e_isRow (nI t)) rfl rfl (Nat.le_of_ble_eq_true rfl) (rb0 (by decide)) ?_
      refine aw_if_ne (tgt := 18) dX10_refusalOfRecord_13 rfl (fun h13 => ?_) (fun h13 => ?_)
      · refine aw_aload_n dX10_refusalOfRecord_18 rfl ?_
        refine aw_getR dX10_refusalOfRecord_19 fgX10_11 rfl (XS.s0 hX) (XS.r0_0 hX) ?_
        refine aw_iload_n dX10_refusalOfRecord_22 rfl ?_
        refine aw_aaload dX10_refusalOfRecord_23 (XS.s1 hX) ⟨by decide, by decide⟩ rfl ht (XS.rowr hX ht) ?_
        refine aw_astore_n (lo' := [_,_,_,_,_]) dX10_refusalOfRecord_24 (Nat.le_of_ble_eq_true rfl) rfl ?_
        refine aw_aload_n dX10_refusalOfRecord_25 rfl ?_
        refine aw_xVi [] dX10_refusalOfRecord_26 cvX10_83 (StripS.s0 (XS.row hX ht)) (e_isThere (XS.row hX ht)) rfl rfl (Nat.le_of_ble_eq_true rfl) (rb0 (by decide)) ?_
        refine aw_if_ne (tgt := 38) dX10_refusalOfRecord_29 rfl (fun h29 => ?_) (fun h29 => ?_)
        · refine aw_aload_n dX10_refusalOfRecord_38 rfl ?_
          refine aw_getI dX10_refusalOfRecord_39 fgX10_100 rfl (StripS.s0 (XS.row hX ht)) ?_
          rw [hz]
          refine aw_iconst (v := nI 1) dX10_refusalOfRecord_42 kc_1 ?_
          refine aw_icmp_lt (tgt := 55) dX10_refusalOfRecord_43 rfl (fun h43 => ?_) (fun h43 => ?_)
          · rw [nI_ltI (by omega) (by omega)] at h43
            refine aw_aload_n dX10_refusalOfRecord_55 rfl ?_
            refine aw_iconst (v := nI 5) dX10_refusalOfRecord_56 kc_5 ?_
            refine aw_xVi [_] dX10_refusalOfRecord_57 cvX10_68 (XS.s0 hX) (e_foundOut hX (f := 5) (by decide) (by decide)) rfl rfl (Nat.le_of_ble_eq_true rfl) (rb0 (by decide)) ?_
            refine aw_iret dX10_refusalOfRecord_60 rfl (rb0 (Nat.zero_le _)) ⟨rfl, _, rfl, ?_⟩
            exact QR_s (e.trans (if_pos (by omega))) (by decide) (QC_fnd hA hD hT (by decide) rfl)
          · rw [nI_ltI (by omega) (by omega)] at h43
            refine aw_aload_n dX10_refusalOfRecord_46 rfl ?_
            refine aw_getI dX10_refusalOfRecord_47 fgX10_100 rfl (StripS.s0 (XS.row hX ht)) ?_
            rw [hz]
            refine aw_bipush (v := nI 20) dX10_refusalOfRecord_50 kb_20 ?_
            refine aw_icmp_le (tgt := 61) dX10_refusalOfRecord_52 rfl (fun h52 => ?_) (fun h52 => ?_)
            · rw [nI_leI (by omega) (by omega)] at h52
              refine aw_iconst (v := nI 0) dX10_refusalOfRecord_61 kc_0 ?_
              refine aw_istore (lo' := [_,_,_,_,_]) dX10_refusalOfRecord_62 (Nat.le_of_ble_eq_true rfl) rfl ?_
              exact lo_rec hX hA hD hT hW ht hj h52 hz (by rw [e, if_neg (by omega)]) k 0 (by omega) rfl
            · rw [nI_leI (by omega) (by omega)] at h52
              refine aw_aload_n dX10_refusalOfRecord_55 rfl ?_
              refine aw_iconst (v := nI 5) dX10_refusalOfRecord_56 kc_5 ?_
              refine aw_xVi [_] dX10_refusalOfRecord_57 cvX10_68 (XS.s0 hX) (e_foundOut hX (f := 5) (by decide) (by decide)) rfl rfl (Nat.le_of_ble_eq_true rfl) (rb0 (by decide)) ?_
              refine aw_iret dX10_refusalOfRecord_60 rfl (rb0 (Nat.zero_le _)) ⟨rfl, _, rfl, ?_⟩
              exact QR_s (e.trans (if_pos (by omega))) (by decide) (QC_fnd hA hD hT (by decide) rfl)
        · (rw [hz] at h29; exact absurd (nI_pos' (by omega)) (zI_0.mp h29))
      · exact absurd (Or.inr (zi_bad h13)) hb
theorem x_kinds {G : GC} {E : SH} {iv : IV} {lv : LV} {X : Nat} (hX : XS G E X) {A : AA} {D : DD} {T : FT} (hA : CA X A iv lv) (hD : CD X D iv) (hT : CT X T iv) (hW : WT T) (hDW : WD D) (i r : Int32) : SpI G mX10_kinds 7 [.ref X, .int i, .int r] E iv lv (QC X iv lv (oKinds A D T i r)) := by
  obtain ⟨s, ⟨m, lg⟩, kp⟩ := T
  have hs : WS s := hW.1.1
  have hs7 : s.1 ≤ 7 := hs.1
  have hw : WV s (lg m) := nowW hW
  have hd : lg m 0 ≤ 40 := nowD hW
  have hf : TF (X + 5) s m lg iv := hT.1
  have hr : TR (X + 5) s (lg m) iv := hf.1
  have hm : m ≤ 40 := hW.1.2.1
  cases hq0 : oRec A D (s, (m, lg), kp) i r with
  | some q =>
    obtain ⟨p, B⟩ := q
    have e : oKinds A D (s, (m, lg), kp) i r = (p, B, D, (s, (m, lg), kp)) := by
      unfold oKinds
      rw [hq0]
    rw [e]
    refine spec0_of (lo := [_,_,_,_]) (by decide) (Nat.le_of_ble_eq_true rfl) rfl ?_
    refine aw_aload_n dX10_kinds_0 rfl ?_
    refine aw_iload_n dX10_kinds_1 rfl ?_
    refine aw_iload_n dX10_kinds_2 rfl ?_
    refine aw_sVi [_, _] dX10_kinds_3 cvX10_217 (XS.s0 hX) (x_rec hX hA hD hT hW hDW i r) rfl rfl (Nat.le_of_ble_eq_true rfl) (rb0 (by decide)) (fun kw kv klv hk => ?_)
    obtain ⟨k0, k1⟩ := hk.1 p B hq0
    refine aw_istore_n (lo' := [_,_,_,_]) dX10_kinds_6 (Nat.le_of_ble_eq_true rfl) rfl ?_
    refine aw_iload_n dX10_kinds_7 rfl ?_
    refine aw_if_eq (tgt := 13) dX10_kinds_8 rfl (fun h8 => ?_) (fun h8 => ?_)
    · exact absurd (k1.1.symm.trans h8) k0
    · refine aw_iload_n dX10_kinds_11 rfl ?_
      refine aw_iret dX10_kinds_12 rfl (rb0 (Nat.zero_le _)) ⟨rfl, _, rfl, ?_⟩
      exact k1
  | none =>
    obtain ⟨j, t, k, hj, ht, hk1, hk20, rfl, rfl, hk⟩ := oRec_n hs7 hq0
    replace hj : j < s.1 := hj
    have hz : iv (X + (58 + 2 * t)) 1 = nI k := by rw [hD.1 t ht, hk]; rfl
    have hg : ∀ e, e < k → iv (X + (58 + 2 * t) + 1) e = D.2.1 t e := fun e he => hD.2.1 t e ht (by omega)
    refine spec0_of (lo := [_,_,_,_]) (by decide) (Nat.le_of_ble_eq_true rfl) rfl ?_
    refine aw_aload_n dX10_kinds_0 rfl ?_
    refine aw_iload_n dX10_kinds_1 rfl ?_
    refine aw_iload_n dX10_kinds_2 rfl ?_
    refine aw_sVi [_, _] dX10_kinds_3 cvX10_217 (XS.s0 hX) (x_rec hX hA hD hT hW hDW (nI j) (nI t)) rfl rfl (Nat.le_of_ble_eq_true rfl) (rb0 (by decide)) (fun kw kv klv hk => ?_)
    obtain ⟨k0, k1, k2⟩ := hk.2 hq0
    rw [k0, k1, k2]
    clear hk k0 k1 k2
    refine aw_istore_n (lo' := [_,_,_,_]) dX10_kinds_6 (Nat.le_of_ble_eq_true rfl) rfl ?_
    refine aw_iload_n dX10_kinds_7 rfl ?_
    refine aw_if_eq (tgt := 13) dX10_kinds_8 rfl (fun h8 => ?_) (fun h8 => ?_)
    · refine aw_aload_n dX10_kinds_13 rfl ?_
      refine aw_getR dX10_kinds_14 fgX10_39 rfl (XS.s0 hX) (XS.r0_5 hX) ?_
      refine aw_aload_n dX10_kinds_17 rfl ?_
      refine aw_getR dX10_kinds_18 fgX10_28 rfl (XS.s0 hX) (XS.r0_3 hX) ?_
      refine aw_xVv [_] dX10_kinds_21 cvX10_195 (OutS.s0 (XS.out hX)) (o_lookAt (XS.out hX) (XS.town hX)) rfl rfl (Nat.le_of_ble_eq_true rfl) (rb0 (by decide)) ?_
      have ho := TR_bec (T := X + 26 + 1) (U := X + 5) hs7 (by omega) hr
      have hq : frQ (X + 26) (becM (X + 26 + 1) (X + 5) iv) iv := fun b hb => bec_o (by omega) (by omega)
      generalize becM (X + 26 + 1) (X + 5) iv = oiv at ho hq ⊢
      have hoz : oiv (X + (58 + 2 * t)) 1 = nI k := by rw [hq _ (by omega)]; exact hz
      have hog : oiv (X + (58 + 2 * t) + 1) = iv (X + (58 + 2 * t) + 1) := hq _ (by omega)
      refine aw_aload_n dX10_kinds_24 rfl ?_
      refine aw_getR dX10_kinds_25 fgX10_39 rfl (XS.s0 hX) (XS.r0_5 hX) ?_
      refine aw_iload_n dX10_kinds_28 rfl ?_
      refine aw_aload_n dX10_kinds_29 rfl ?_
      refine aw_getR dX10_kinds_30 fgX10_11 rfl (XS.s0 hX) (XS.r0_0 hX) ?_
      refine aw_iload_n dX10_kinds_33 rfl ?_
      refine aw_aaload dX10_kinds_34 (XS.s1 hX) ⟨by decide, by decide⟩ rfl ht (XS.rowr hX ht) ?_
      refine aw_sVi [_, _] dX10_kinds_35 cvX10_220 (OutS.s0 (XS.out hX)) (o_kinds (XS.out hX) hs ho hw (i := j) (XS.row hX ht) (by decide) hoz (by omega) (by omega) (by omega) hj) rfl rfl (Nat.le_of_ble_eq_true rfl) (rb0 (by decide)) (fun kw kv klv hk => ?_)
      obtain ⟨k0, k1, k2, k3, rfl⟩ := hk
      have hkq := frQ_tr k2 hq
      refine aw_iret dX10_kinds_38 rfl (rb0 (Nat.zero_le _)) ⟨rfl, _, rfl, ?_⟩
      unfold oKinds
      rw [hq0]
      dsimp only [nowT]
      rw [ix_nI (by omega), ix_nI (by omega), show rsz D t = k by unfold rsz; rw [hk]; rfl]
      rw [hog, pK_c hg] at k0
      subst k0
      exact QC_out hA hD hT hkq rfl
    · exact absurd rfl h8
theorem x_highs {G : GC} {E : SH} {iv : IV} {lv : LV} {X : Nat} (hX : XS G E X) {A : AA} {D : DD} {T : FT} (hA : CA X A iv lv) (hD : CD X D iv) (hT : CT X T iv) (hW : WT T) (hDW : WD D) (i r : Int32) : SpI G mX10_highs 7 [.ref X, .int i, .int r] E iv lv (QC X iv lv (oHighs A D T i r)) := by
  obtain ⟨s, ⟨m, lg⟩, kp⟩ := T
  have hs : WS s := hW.1.1
  have hs7 : s.1 ≤ 7 := hs.1
  have hw : WV s (lg m) := nowW hW
  have hd : lg m 0 ≤ 40 := nowD hW
  have hf : TF (X + 5) s m lg iv := hT.1
  have hr : TR (X + 5) s (lg m) iv := hf.1
  have hm : m ≤ 40 := hW.1.2.1
  cases hq0 : oRec A D (s, (m, lg), kp) i r with
  | some q =>
    obtain ⟨p, B⟩ := q
    have e : oHighs A D (s, (m, lg), kp) i r = (p, B, D, (s, (m, lg), kp)) := by
      unfold oHighs
      rw [hq0]
    rw [e]
    refine spec0_of (lo := [_,_,_,_]) (by decide) (Nat.le_of_ble_eq_true rfl) rfl ?_
    refine aw_aload_n dX10_highs_0 rfl ?_
    refine aw_iload_n dX10_highs_1 rfl ?_
    refine aw_iload_n dX10_highs_2 rfl ?_
    refine aw_sVi [_, _] dX10_highs_3 cvX10_217 (XS.s0 hX) (x_rec hX hA hD hT hW hDW i r) rfl rfl (Nat.le_of_ble_eq_true rfl) (rb0 (by decide)) (fun kw kv klv hk => ?_)
    obtain ⟨k0, k1⟩ := hk.1 p B hq0
    refine aw_istore_n (lo' := [_,_,_,_]) dX10_highs_6 (Nat.le_of_ble_eq_true rfl) rfl ?_
    refine aw_iload_n dX10_highs_7 rfl ?_
    refine aw_if_eq (tgt := 13) dX10_highs_8 rfl (fun h8 => ?_) (fun h8 => ?_)
    · exact absurd (k1.1.symm.trans h8) k0
    · refine aw_iload_n dX10_highs_11 rfl ?_
      refine aw_iret dX10_highs_12 rfl (rb0 (Nat.zero_le _)) ⟨rfl, _, rfl, ?_⟩
      exact k1
  | none =>
    obtain ⟨j, t, k, hj, ht, hk1, hk20, rfl, rfl, hk⟩ := oRec_n hs7 hq0
    replace hj : j < s.1 := hj
    have hz : iv (X + (58 + 2 * t)) 1 = nI k := by rw [hD.1 t ht, hk]; rfl
    have hg : ∀ e, e < k → iv (X + (58 + 2 * t) + 1) e = D.2.1 t e := fun e he => hD.2.1 t e ht (by omega)
    refine spec0_of (lo := [_,_,_,_]) (by decide) (Nat.le_of_ble_eq_true rfl) rfl ?_
    refine aw_aload_n dX10_highs_0 rfl ?_
    refine aw_iload_n dX10_highs_1 rfl ?_
    refine aw_iload_n dX10_highs_2 rfl ?_
    refine aw_sVi [_, _] dX10_highs_3 cvX10_217 (XS.s0 hX) (x_rec hX hA hD hT hW hDW (nI j) (nI t)) rfl rfl (Nat.le_of_ble_eq_true rfl) (rb0 (by decide)) (fun kw kv klv hk => ?_)
    obtain ⟨k0, k1, k2⟩ := hk.2 hq0
    rw [k0, k1, k2]
    clear hk k0 k1 k2
    refine aw_istore_n (lo' := [_,_,_,_]) dX10_highs_6 (Nat.le_of_ble_eq_true rfl) rfl ?_
    refine aw_iload_n dX10_highs_7 rfl ?_
    refine aw_if_eq (tgt := 13) dX10_highs_8 rfl (fun h8 => ?_) (fun h8 => ?_)
    · refine aw_aload_n dX10_highs_13 rfl ?_
      refine aw_getR dX10_highs_14 fgX10_39 rfl (XS.s0 hX) (XS.r0_5 hX) ?_
      refine aw_aload_n dX10_highs_17 rfl ?_
      refine aw_getR dX10_highs_18 fgX10_28 rfl (XS.s0 hX) (XS.r0_3 hX) ?_
      refine aw_xVv [_] dX10_highs_21 cvX10_195 (OutS.s0 (XS.out hX)) (o_lookAt (XS.out hX) (XS.town hX)) rfl rfl (Nat.le_of_ble_eq_true rfl) (rb0 (by decide)) ?_
      have ho := TR_bec (T := X + 26 + 1) (U := X + 5) hs7 (by omega) hr
      have hq : frQ (X + 26) (becM (X + 26 + 1) (X + 5) iv) iv := fun b hb => bec_o (by omega) (by omega)
      generalize becM (X + 26 + 1) (X + 5) iv = oiv at ho hq ⊢
      have hoz : oiv (X + (58 + 2 * t)) 1 = nI k := by rw [hq _ (by omega)]; exact hz
      have hog : oiv (X + (58 + 2 * t) + 1) = iv (X + (58 + 2 * t) + 1) := hq _ (by omega)
      refine aw_aload_n dX10_highs_24 rfl ?_
      refine aw_getR dX10_highs_25 fgX10_39 rfl (XS.s0 hX) (XS.r0_5 hX) ?_
      refine aw_iload_n dX10_highs_28 rfl ?_
      refine aw_aload_n dX10_highs_29 rfl ?_
      refine aw_getR dX10_highs_30 fgX10_11 rfl (XS.s0 hX) (XS.r0_0 hX) ?_
      refine aw_iload_n dX10_highs_33 rfl ?_
      refine aw_aaload dX10_highs_34 (XS.s1 hX) ⟨by decide, by decide⟩ rfl ht (XS.rowr hX ht) ?_
      refine aw_sVi [_, _] dX10_highs_35 cvX10_224 (OutS.s0 (XS.out hX)) (o_heights (XS.out hX) hs ho hw (i := j) (XS.row hX ht) (by decide) hoz (by omega) (by omega) (by omega) hj) rfl rfl (Nat.le_of_ble_eq_true rfl) (rb0 (by decide)) (fun kw kv klv hk => ?_)
      obtain ⟨k0, k1, k2, k3, rfl⟩ := hk
      have hkq := frQ_tr k2 hq
      refine aw_iret dX10_highs_38 rfl (rb0 (Nat.zero_le _)) ⟨rfl, _, rfl, ?_⟩
      unfold oHighs
      rw [hq0]
      dsimp only [nowT]
      rw [ix_nI (by omega), ix_nI (by omega), show rsz D t = k by unfold rsz; rw [hk]; rfl]
      rw [hog, pH_c hg] at k0
      subst k0
      exact QC_out hA hD hT hkq rfl
    · exact absurd rfl h8
theorem x_test {G : GC} {E : SH} {iv : IV} {lv : LV} {X : Nat} (hX : XS G E X) {A : AA} {D : DD} {T : FT} (hA : CA X A iv lv) (hD : CD X D iv) (hT : CT X T iv) (hW : WT T) (hDW : WD D) (i r : Int32) : SpI G mX10_test 8 [.ref X, .int i, .int r] E iv lv (QC X iv lv (oTest A D T i r)) := by
  obtain ⟨s, ⟨m, lg⟩, kp⟩ := T
  have hs : WS s := hW.1.1
  have hs7 : s.1 ≤ 7 := hs.1
  have hw : WV s (lg m) := nowW hW
  have hd : lg m 0 ≤ 40 := nowD hW
  have hf : TF (X + 5) s m lg iv := hT.1
  have hr : TR (X + 5) s (lg m) iv := hf.1
  have hm : m ≤ 40 := hW.1.2.1
  cases hq0 : oRec A D (s, (m, lg), kp) i r with
  | some q =>
    obtain ⟨p, B⟩ := q
    have e : oTest A D (s, (m, lg), kp) i r = (p, B, D, (s, (m, lg), kp)) := by
      unfold oTest
      rw [hq0]
    rw [e]
    refine spec0_of (lo := [_,_,_,_]) (by decide) (Nat.le_of_ble_eq_true rfl) rfl ?_
    refine aw_aload_n dX10_test_0 rfl ?_
    refine aw_iload_n dX10_test_1 rfl ?_
    refine aw_iload_n dX10_test_2 rfl ?_
    refine aw_sVi [_, _] dX10_test_3 cvX10_217 (XS.s0 hX) (x_rec hX hA hD hT hW hDW i r) rfl rfl (Nat.le_of_ble_eq_true rfl) (rb0 (by decide)) (fun kw kv klv hk => ?_)
    obtain ⟨k0, k1⟩ := hk.1 p B hq0
    refine aw_istore_n (lo' := [_,_,_,_]) dX10_test_6 (Nat.le_of_ble_eq_true rfl) rfl ?_
    refine aw_iload_n dX10_test_7 rfl ?_
    refine aw_if_eq (tgt := 13) dX10_test_8 rfl (fun h8 => ?_) (fun h8 => ?_)
    · exact absurd (k1.1.symm.trans h8) k0
    · refine aw_iload_n dX10_test_11 rfl ?_
      refine aw_iret dX10_test_12 rfl (rb0 (Nat.zero_le _)) ⟨rfl, _, rfl, ?_⟩
      exact k1
  | none =>
    obtain ⟨j, t, k, hj, ht, hk1, hk20, rfl, rfl, hk⟩ := oRec_n hs7 hq0
    replace hj : j < s.1 := hj
    have hz : iv (X + (58 + 2 * t)) 1 = nI k := by rw [hD.1 t ht, hk]; rfl
    have hg : ∀ e, e < k → iv (X + (58 + 2 * t) + 1) e = D.2.1 t e := fun e he => hD.2.1 t e ht (by omega)
    refine spec0_of (lo := [_,_,_,_]) (by decide) (Nat.le_of_ble_eq_true rfl) rfl ?_
    refine aw_aload_n dX10_test_0 rfl ?_
    refine aw_iload_n dX10_test_1 rfl ?_
    refine aw_iload_n dX10_test_2 rfl ?_
    refine aw_sVi [_, _] dX10_test_3 cvX10_217 (XS.s0 hX) (x_rec hX hA hD hT hW hDW (nI j) (nI t)) rfl rfl (Nat.le_of_ble_eq_true rfl) (rb0 (by decide)) (fun kw kv klv hk => ?_)
    obtain ⟨k0, k1, k2⟩ := hk.2 hq0
    rw [k0, k1, k2]
    clear hk k0 k1 k2
    refine aw_istore_n (lo' := [_,_,_,_]) dX10_test_6 (Nat.le_of_ble_eq_true rfl) rfl ?_
    refine aw_iload_n dX10_test_7 rfl ?_
    refine aw_if_eq (tgt := 13) dX10_test_8 rfl (fun h8 => ?_) (fun h8 => ?_)
    · refine aw_aload_n dX10_test_13 rfl ?_
      refine aw_getR dX10_test_14 fgX10_39 rfl (XS.s0 hX) (XS.r0_5 hX) ?_
      refine aw_aload_n dX10_test_17 rfl ?_
      refine aw_getR dX10_test_18 fgX10_28 rfl (XS.s0 hX) (XS.r0_3 hX) ?_
      refine aw_xVv [_] dX10_test_21 cvX10_195 (OutS.s0 (XS.out hX)) (o_lookAt (XS.out hX) (XS.town hX)) rfl rfl (Nat.le_of_ble_eq_true rfl) (rb0 (by decide)) ?_
      have ho := TR_bec (T := X + 26 + 1) (U := X + 5) hs7 (by omega) hr
      have hq : frQ (X + 26) (becM (X + 26 + 1) (X + 5) iv) iv := fun b hb => bec_o (by omega) (by omega)
      generalize becM (X + 26 + 1) (X + 5) iv = oiv at ho hq ⊢
      have hoz : oiv (X + (58 + 2 * t)) 1 = nI k := by rw [hq _ (by omega)]; exact hz
      have hog : oiv (X + (58 + 2 * t) + 1) = iv (X + (58 + 2 * t) + 1) := hq _ (by omega)
      refine aw_aload_n dX10_test_24 rfl ?_
      refine aw_aload_n dX10_test_25 rfl ?_
      refine aw_getR dX10_test_26 fgX10_39 rfl (XS.s0 hX) (XS.r0_5 hX) ?_
      refine aw_iload_n dX10_test_29 rfl ?_
      refine aw_aload_n dX10_test_30 rfl ?_
      refine aw_getR dX10_test_31 fgX10_11 rfl (XS.s0 hX) (XS.r0_0 hX) ?_
      refine aw_iload_n dX10_test_34 rfl ?_
      refine aw_aaload dX10_test_35 (XS.s1 hX) ⟨by decide, by decide⟩ rfl ht (XS.rowr hX ht) ?_
      refine aw_sVi [_, _] dX10_test_36 cvX10_227 (OutS.s0 (XS.out hX)) (o_look (XS.out hX) hs ho hw (i := j) (XS.row hX ht) (by decide) hoz (by omega) (by omega) (by omega) hj (by omega)) rfl rfl (Nat.le_of_ble_eq_true rfl) (rb0 (by decide)) (fun kw kv klv hk => ?_)
      obtain ⟨k0, k1, k2, rfl⟩ := hk
      have hkq := frQ_tr k2 hq
      refine aw_xVi [_] dX10_test_39 cvX10_205 (XS.s0 hX) (e_passOn hX kw) rfl rfl (Nat.le_of_ble_eq_true rfl) (rb0 (by decide)) ?_
      refine aw_iret dX10_test_42 rfl (rb0 (Nat.zero_le _)) ⟨rfl, _, rfl, ?_⟩
      unfold oTest
      rw [hq0]
      dsimp only [nowT]
      rw [ix_nI (by omega), ix_nI (by omega), show rsz D t = k by unfold rsz; rw [hk]; rfl]
      rw [hog, xK_c hg] at k0 k1
      by_cases hx : xK s (lg m) j (D.2.1 t) k = 0
      · rw [if_pos hx]
        exact QC_pas hA hD hT hkq (fun _ => rfl) (fun q => absurd (k0 hx) q)
      · rw [if_neg hx]
        obtain ⟨q1, q2⟩ := k1 hx
        have hb := bst_1 (f := fLk s (lg m) j (xK s (lg m) j (D.2.1 t) k)) 20
        refine QC_pas hA hD hT hkq (fun q => absurd (q1.symm.trans q) (nI_n9 (by omega))) (fun q => ?_)
        rw [q1, q2]
    · exact absurd rfl h8
theorem x_duel {G : GC} {E : SH} {iv : IV} {lv : LV} {X : Nat} (hX : XS G E X) {A : AA} {D : DD} {T : FT} (hA : CA X A iv lv) (hD : CD X D iv) (hT : CT X T iv) (hW : WT T) (n : Int32) : SpI G mX10_duel 10 [.ref X, .int n] E iv lv (QC X iv lv (oDuel A D T n)) := by
  obtain ⟨s, ⟨m, lg⟩, kp⟩ := T
  have hs : WS s := hW.1.1
  have hs7 : s.1 ≤ 7 := hs.1
  have hw : WV s (lg m) := nowW hW
  have hd : lg m 0 ≤ 40 := nowD hW
  have hf : TF (X + 5) s m lg iv := hT.1
  have hr : TR (X + 5) s (lg m) iv := hf.1
  have hm : m ≤ 40 := hW.1.2.1
  refine spec0_of (lo := [_,_]) (by decide) (Nat.le_of_ble_eq_true rfl) rfl ?_
  refine aw_iload_n dX10_duel_0 rfl ?_
  refine aw_if_lt (tgt := 9) dX10_duel_1 rfl (fun h1 => ?_) (fun h1 => ?_)
  · refine aw_iconst (v := (-1)) dX10_duel_9 kc_m1 ?_
    refine aw_iret dX10_duel_10 rfl (rb0 (Nat.zero_le _)) ⟨rfl, _, rfl, ?_⟩
    refine QC_no hA hD hT ?_
    dsimp only [oDuel, nowT]
    
    first
      | exact if_pos (Or.inl h1)
      | exact if_pos (Or.inr (Int32.not_le.mp h6))
  · refine aw_iload_n dX10_duel_4 rfl ?_
    refine aw_iconst (v := nI 3) dX10_duel_5 kc_3 ?_
    refine aw_icmp_le (tgt := 11) dX10_duel_6 rfl (fun h6 => ?_) (fun h6 => ?_)
    · obtain ⟨u, hu, rfl⟩ := ix_le (n := n) (k := 3) h1 (Int32.not_lt.mpr h6) (by decide)
      refine aw_aload_n dX10_duel_11 rfl ?_
      refine aw_getR dX10_duel_12 fgX10_28 rfl (XS.s0 hX) (XS.r0_3 hX) ?_
      refine aw_xVi [] dX10_duel_15 cvX10_131 (TownS.s0 (XS.town hX)) (t_hasPeople (XS.town hX) hr.1 (by omega)) rfl rfl (Nat.le_of_ble_eq_true rfl) (rb0 (by omega)) ?_
      refine aw_if_ne (tgt := 24) dX10_duel_18 rfl (fun h18 => ?_) (fun h18 => ?_)
      · have hnp : s.1 ≠ 0 := zI_n0.mp h18
        refine aw_aload_n dX10_duel_24 rfl ?_
        refine aw_getR dX10_duel_25 fgX10_39 rfl (XS.s0 hX) (XS.r0_5 hX) ?_
        refine aw_aload_n dX10_duel_28 rfl ?_
        refine aw_getR dX10_duel_29 fgX10_28 rfl (XS.s0 hX) (XS.r0_3 hX) ?_
        refine aw_xVv [_] dX10_duel_32 cvX10_195 (OutS.s0 (XS.out hX)) (o_lookAt (XS.out hX) (XS.town hX)) rfl rfl (Nat.le_of_ble_eq_true rfl) (rb0 (by omega)) ?_
        have ho := TR_bec (T := X + 26 + 1) (U := X + 5) hs7 (by omega) hr
        have hq : frQ (X + 26) (becM (X + 26 + 1) (X + 5) iv) iv := fun b hb => bec_o (by omega) (by omega)
        generalize becM (X + 26 + 1) (X + 5) iv = oiv at ho hq ⊢
        refine aw_aload_n dX10_duel_35 rfl ?_
        refine aw_getR dX10_duel_36 fgX10_39 rfl (XS.s0 hX) (XS.r0_5 hX) ?_
        refine aw_iload_n dX10_duel_39 rfl ?_
        refine aw_sNi [_] dX10_duel_40 cnX10_230 (OutS.s0 (XS.out hX)) (o_turns (XS.out hX) hs ho hw (n := u) hu (by omega)) rfl rfl (Nat.le_of_ble_eq_true rfl) (rb0 (by omega)) (fun kw kv klv hk => ?_)
        obtain ⟨k0, k1, k2, rfl⟩ := hk
        subst k0
        have hkq := frQ_tr k2 hq
        refine aw_iret dX10_duel_43 rfl (rb0 (Nat.zero_le _)) ⟨rfl, _, rfl, ?_⟩
        refine QC_out hA hD hT hkq ?_
        dsimp only [oDuel, nowT]
        
        rw [if_neg (fun q => q.elim h1 (Int32.not_lt.mpr h6)), if_neg hnp, ix_nI (by omega)]
      · have hnp : s.1 = 0 := Decidable.not_not.mp (zI_0.mp h18)
        refine aw_bipush (v := (-4)) dX10_duel_21 kb_m4 ?_
        refine aw_iret dX10_duel_23 rfl (rb0 (Nat.zero_le _)) ⟨rfl, _, rfl, ?_⟩
        refine QC_no hA hD hT ?_
        dsimp only [oDuel, nowT]
        
        rw [if_neg (fun q => q.elim h1 (Int32.not_lt.mpr h6)), if_pos hnp]
    · refine aw_iconst (v := (-1)) dX10_duel_9 kc_m1 ?_
      refine aw_iret dX10_duel_10 rfl (rb0 (Nat.zero_le _)) ⟨rfl, _, rfl, ?_⟩
      refine QC_no hA hD hT ?_
      dsimp only [oDuel, nowT]
      
      first
        | exact if_pos (Or.inl h1)
        | exact if_pos (Or.inr (Int32.not_le.mp h6))
