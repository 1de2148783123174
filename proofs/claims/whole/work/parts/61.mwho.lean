/-! of which kind one is, how high: the reference -/
def QRM (M : Nat) (A : AA) (D : DD) (T : FT) (i r : Int32) (iv : IV) (lv : LV) (w : Int32) (i0 : IV) (l : LV) : Prop := (∀ p B, oRec A D T i r = some (p, B) → ¬ 0 ≤ p ∧ QD M iv lv (p, B, D, T) w i0 l) ∧ (oRec A D T i r = none → w = 0 ∧ i0 = iv ∧ l = lv)
theorem QRM_s {M : Nat} {A B : AA} {D : DD} {T : FT} {i r p : Int32} {iv i0 : IV} {lv l : LV} (h : oRec A D T i r = some (p, B)) (h0 : ¬ 0 ≤ p) (hq : QD M iv lv (p, B, D, T) p i0 l) : QRM M A D T i r iv lv p i0 l := by
  refine ⟨fun p2 B2 e => ?_, fun e => by rw [h] at e; cases e⟩
  rw [h] at e; cases e
  exact ⟨h0, hq⟩
theorem SR_K {M i k : Nat} {s : TS} {iv jv : IV} (h : SR M s iv) (h0 : jv M 14 = iv M 14) (h10 : jv (M + 10) = iv (M + 10)) (h11 : jv (M + 11) = iv (M + 11)) (h9 : ∀ a, a ≠ i → jv (M + 9) a = iv (M + 9) a) (hi : jv (M + 9) i = nI k) : SR M (sK s i k) jv := by
  refine ⟨by rw [h0]; exact h.1, fun a ha => ?_⟩
  rw [h10, h11]
  refine ⟨?_, (h.2 a ha).2.1, (h.2 a ha).2.2⟩
  show _ = nI (va_up s.2.1 i k a)
  by_cases e : a = i
  · subst e; rw [va_up_s]; exact hi
  · rw [va_up_n e, h9 a e]; exact (h.2 a ha).1
theorem SR_H {M i k : Nat} {s : TS} {iv jv : IV} (h : SR M s iv) (h0 : jv M 14 = iv M 14) (h9 : jv (M + 9) = iv (M + 9)) (h11 : jv (M + 11) = iv (M + 11)) (h10 : ∀ a, a ≠ i → jv (M + 10) a = iv (M + 10) a) (hi : jv (M + 10) i = nI k) : SR M (sH s i k) jv := by
  refine ⟨by rw [h0]; exact h.1, fun a ha => ?_⟩
  rw [h9, h11]
  refine ⟨(h.2 a ha).1, ?_, (h.2 a ha).2.2⟩
  show _ = nI (va_up s.2.2.1 i k a)
  by_cases e : a = i
  · subst e; rw [va_up_s]; exact hi
  · rw [va_up_n e, h10 a e]; exact (h.2 a ha).2.1
theorem back_up {f g : Nat → Int32} {i : Nat} (h : ∀ a, a ≠ i → g a = f a) : upd g i (f i) = f := by
  funext a
  by_cases e : a = i
  · subst e; exact pk_us
  · rw [pk_un e]; exact h a e
theorem lo_mrec {G : GC} {E : SH} {iv : IV} {lv : LV} {M : Nat} (hM : MS G E M) {A : AA} {D : DD} {T : FT} (hA : MA M A iv lv) (hD : MD M D iv) (hT : MT M T iv) (hW : WT T) {j t k : Nat} (ht : t < 6) (hk20 : k ≤ 20) (hz : iv (M + 2) t = nI k) (e0 : oRec A D T (nI j) (nI t) = if rok (D.2.1 t) k then none else some (-3, fnd A 3)) : ∀ (c d : Nat), d + c = k → AW G mX11_needTotals (rm 3 0) (Z0 G 3 E (fun q i0 l => ∃ w, q = some (.int w) ∧ QRM M A D T (nI j) (nI t) iv lv w i0 l)) (fun _ => True) E.1 58 [some (.ref M), some (.int (nI j)), some (.int (nI t)), some (.int (zI (rok (D.2.1 t) d = true))), some (.int (nI d))] [] E iv lv := by
  intro c
  induction c with
  | zero =>
    intro d hd
    have hd : d = k := by omega
    subst hd
    refine aw_iload dX11_needTotals_58 rfl ?_
    refine aw_aload_n dX11_needTotals_60 rfl ?_
    refine aw_getR dX11_needTotals_61 fgX11_17 rfl (MS.s0 hM) (MS.r0_5 hM) ?_
    refine aw_iload_n dX11_needTotals_64 rfl ?_
    refine aw_iaload dX11_needTotals_65 (MS.s2 hM) rfl (by omega) ?_
    rw [hz]
    refine aw_icmp_ge (tgt := 101) dX11_needTotals_66 rfl (fun h66 => ?_) (fun h66 => absurd (nI_le (Nat.le_refl _) (by omega)) h66)
    refine aw_iload_n dX11_needTotals_101 rfl ?_
    refine aw_if_eq (tgt := 109) dX11_needTotals_102 rfl (fun h102 => ?_) (fun h102 => ?_)
    · refine aw_aload_n dX11_needTotals_109 rfl ?_
      refine aw_iconst (v := nI 3) dX11_needTotals_110 kc_3 ?_
      refine aw_xVi [_] dX11_needTotals_111 cvX11_84 (MS.s0 hM) (m_found hM (f := 3) (by decide)) rfl rfl (Nat.le_of_ble_eq_true rfl) (rb0 (by decide)) ?_
      refine aw_iret dX11_needTotals_114 rfl (rb0 (Nat.zero_le _)) ⟨rfl, _, rfl, ?_⟩
      first
        | (rw [zI_n0.mp h102, if_pos rfl] at e0
           exact ⟨fun p B q => (by rw [e0] at q; cases q), fun _ => ⟨rfl, rfl, rfl⟩⟩)
        | (rw [if_neg (zI_0.mp h102)] at e0
           exact QRM_s e0 (by decide) (QD_fnd hA hD hT (by decide) rfl))
    · refine aw_iconst (v := nI 0) dX11_needTotals_105 kc_0 ?_
      refine aw_goto (tgt := 114) dX11_needTotals_106 rfl ?_
      refine aw_iret dX11_needTotals_114 rfl (rb0 (Nat.zero_le _)) ⟨rfl, _, rfl, ?_⟩
      first
        | (rw [zI_n0.mp h102, if_pos rfl] at e0
           exact ⟨fun p B q => (by rw [e0] at q; cases q), fun _ => ⟨rfl, rfl, rfl⟩⟩)
        | (rw [if_neg (zI_0.mp h102)] at e0
           exact QRM_s e0 (by decide) (QD_fnd hA hD hT (by decide) rfl))
  | succ c ih =>
    intro d hd
    have hg : iv (M + 3) (40 * t + d) = D.2.1 t d := hD.2.1 t d ht (by omega)
    refine aw_iload dX11_needTotals_58 rfl ?_
    refine aw_aload_n dX11_needTotals_60 rfl ?_
    refine aw_getR dX11_needTotals_61 fgX11_17 rfl (MS.s0 hM) (MS.r0_5 hM) ?_
    refine aw_iload_n dX11_needTotals_64 rfl ?_
    refine aw_iaload dX11_needTotals_65 (MS.s2 hM) rfl (by omega) ?_
    rw [hz]
    refine aw_icmp_ge (tgt := 101) dX11_needTotals_66 rfl (fun h66 => absurd h66 (nI_ge (by omega) (by omega))) (fun h66 => ?_)
    refine aw_iload_n dX11_needTotals_69 rfl ?_
    refine aw_if_eq (tgt := 93) dX11_needTotals_70 rfl (fun h70 => ?_) (fun h70 => ?_)
    · refine aw_iconst (v := nI 0) dX11_needTotals_93 kc_0 ?_
      refine aw_istore_n (lo' := [_,_,_,_,_]) dX11_needTotals_94 (Nat.le_of_ble_eq_true rfl) rfl ?_
      refine aw_iinc (v := _) (lo' := [_,_,_,_,_]) dX11_needTotals_95 rfl (nI_1 d) rfl ?_
      refine aw_goto (tgt := 58) dX11_needTotals_98 rfl ?_
      have h := ih (d + 1) (by omega)
      first
        | (rw [show zI (rok (D.2.1 t) (d + 1) = true) = nI 0 from zI_f (fun q => by
             rw [rok, Bool.and_eq_true] at q
             exact zI_0.mp h70 q.1)] at h
           exact h)
        | (rw [show zI (rok (D.2.1 t) (d + 1) = true) = nI 0 from zI_f (fun q => by
             rw [rok, Bool.and_eq_true] at q
             exact zI_0.mp h86 (of_decide_eq_true q.2))] at h
           exact h)
        | (rw [show zI (rok (D.2.1 t) (d + 1) = true) = nI 1 from zI_t (by
             rw [rok, zI_n0.mp h70, Bool.true_and]
             exact decide_eq_true (zI_n0.mp h86))] at h
           exact h)
    · refine aw_aload_n dX11_needTotals_73 rfl ?_
      refine aw_iload_n dX11_needTotals_74 rfl ?_
      refine aw_iload dX11_needTotals_75 rfl ?_
      refine aw_xVi [_, _] dX11_needTotals_77 cvX11_88 (MS.s0 hM) (m_rowAt hM (a := t) (p := d) (by omega)) rfl rfl (Nat.le_of_ble_eq_true rfl) (rb0 (by decide)) ?_
      rw [hg]
      refine aw_iconst (v := nI 0) dX11_needTotals_80 kc_0 ?_
      refine aw_bipush (v := nI 63) dX11_needTotals_81 kb_63 ?_
      refine aw_xSi [_, _, _] dX11_needTotals_83 csX11_76 (m_in (D.2.1 t d) (nI 0) (nI 63)) rfl rfl (Nat.le_of_ble_eq_true rfl) (rb0 (by decide)) ?_
      refine aw_if_eq (tgt := 93) dX11_needTotals_86 rfl (fun h86 => ?_) (fun h86 => ?_)
      · refine aw_iconst (v := nI 0) dX11_needTotals_93 kc_0 ?_
        refine aw_istore_n (lo' := [_,_,_,_,_]) dX11_needTotals_94 (Nat.le_of_ble_eq_true rfl) rfl ?_
        refine aw_iinc (v := _) (lo' := [_,_,_,_,_]) dX11_needTotals_95 rfl (nI_1 d) rfl ?_
        refine aw_goto (tgt := 58) dX11_needTotals_98 rfl ?_
        have h := ih (d + 1) (by omega)
        first
          | (rw [show zI (rok (D.2.1 t) (d + 1) = true) = nI 0 from zI_f (fun q => by
               rw [rok, Bool.and_eq_true] at q
               exact zI_0.mp h70 q.1)] at h
             exact h)
          | (rw [show zI (rok (D.2.1 t) (d + 1) = true) = nI 0 from zI_f (fun q => by
               rw [rok, Bool.and_eq_true] at q
               exact zI_0.mp h86 (of_decide_eq_true q.2))] at h
             exact h)
          | (rw [show zI (rok (D.2.1 t) (d + 1) = true) = nI 1 from zI_t (by
               rw [rok, zI_n0.mp h70, Bool.true_and]
               exact decide_eq_true (zI_n0.mp h86))] at h
             exact h)
      · refine aw_iconst (v := nI 1) dX11_needTotals_89 kc_1 ?_
        refine aw_goto (tgt := 94) dX11_needTotals_90 rfl ?_
        refine aw_istore_n (lo' := [_,_,_,_,_]) dX11_needTotals_94 (Nat.le_of_ble_eq_true rfl) rfl ?_
        refine aw_iinc (v := _) (lo' := [_,_,_,_,_]) dX11_needTotals_95 rfl (nI_1 d) rfl ?_
        refine aw_goto (tgt := 58) dX11_needTotals_98 rfl ?_
        have h := ih (d + 1) (by omega)
        first
          | (rw [show zI (rok (D.2.1 t) (d + 1) = true) = nI 0 from zI_f (fun q => by
               rw [rok, Bool.and_eq_true] at q
               exact zI_0.mp h70 q.1)] at h
             exact h)
          | (rw [show zI (rok (D.2.1 t) (d + 1) = true) = nI 0 from zI_f (fun q => by
               rw [rok, Bool.and_eq_true] at q
               exact zI_0.mp h86 (of_decide_eq_true q.2))] at h
             exact h)
          | (rw [show zI (rok (D.2.1 t) (d + 1) = true) = nI 1 from zI_t (by
               rw [rok, zI_n0.mp h70, Bool.true_and]
               exact decide_eq_true (zI_n0.mp h86))] at h
             exact h)
theorem m_rec {G : GC} {E : SH} {iv : IV} {lv : LV} {M : Nat} (hM : MS G E M) {A : AA} {D : DD} {T : FT} (hA : MA M A iv lv) (hD : MD M D iv) (hT : MT M T iv) (hW : WT T) (hDW : WD D) (i r : Int32) : SpI G mX11_needTotals 3 [.ref M, .int i, .int r] E iv lv (QRM M A D T i r iv lv) := by
  have h7 : T.1.1 ≤ 7 := hW.1.1.1
  by_cases hb : bad i T.1.1 ∨ bad r 6
  · have e : oRec A D T i r = some (-1, A) := if_pos hb
    refine spec0_of (lo := [_,_,_,_,_]) (by decide) (Nat.le_of_ble_eq_true rfl) rfl ?_
    refine aw_aload_n dX11_needTotals_0 rfl ?_
    refine aw_iload_n dX11_needTotals_1 rfl ?_
    refine aw_xVi [_] dX11_needTotals_2 cvX11_167 (MS.s0 hM) (m_isOne hM hT.1.1 h7 i) rfl rfl (Nat.le_of_ble_eq_true rfl) (rb0 (by decide)) ?_
    refine aw_if_eq (tgt := 15) dX11_needTotals_5 rfl (fun h5 => ?_) (fun h5 => ?_)
    · refine aw_iconst (v := (-1)) dX11_needTotals_15 kc_m1 ?_
      refine aw_iret dX11_needTotals_16 rfl (rb0 (Nat.zero_le _)) ⟨rfl, _, rfl, ?_⟩
      exact QRM_s e (by decide) (QD_no hA hD hT rfl)
    · refine aw_iload_n dX11_needTotals_8 rfl ?_
      refine aw_xSi [_] dX11_needTotals_9 csX11_80 (m_isRow r) rfl rfl (Nat.le_of_ble_eq_true rfl) (rb0 (by decide)) ?_
      refine aw_if_ne (tgt := 17) dX11_needTotals_12 rfl (fun h12 => ?_) (fun h12 => ?_)
      · exact absurd hb (fun q => q.elim (fun q => q (zI_n0.mp h5)) (fun q => q (zI_n0.mp h12)))
      · refine aw_iconst (v := (-1)) dX11_needTotals_15 kc_m1 ?_
        refine aw_iret dX11_needTotals_16 rfl (rb0 (Nat.zero_le _)) ⟨rfl, _, rfl, ?_⟩
        exact QRM_s e (by decide) (QD_no hA hD hT rfl)
  obtain ⟨j, hj, rfl⟩ := ix_of (fun q => hb (Or.inl q)) (by omega)
  obtain ⟨t, ht, rfl⟩ := ix_of (fun q => hb (Or.inr q)) (by decide)
  have hz := hD.1 t ht
  cases hk : D.1 t with
  | none =>
    have e : oRec A D T (nI j) (nI t) = some (-3, fnd A 1) := by
      unfold oRec
      rw [if_neg hb, ix_nI (by omega), hk]
    replace hz : iv (M + 2) t = -1 := by rw [hz, hk]; rfl
    refine spec0_of (lo := [_,_,_,_,_]) (by decide) (Nat.le_of_ble_eq_true rfl) rfl ?_
    refine aw_aload_n dX11_needTotals_0 rfl ?_
    refine aw_iload_n dX11_needTotals_1 rfl ?_
    refine aw_xVi [_] dX11_needTotals_2 cvX11_167 (MS.s0 hM) (m_isOne hM hT.1.1 h7 (nI j)) rfl rfl (Nat.le_of_ble_eq_true rfl) (rb0 (by decide)) ?_
    refine aw_if_eq (tgt := 15) dX11_needTotals_5 rfl (fun h5 => ?_) (fun h5 => ?_)
    · exact absurd (Or.inl (zi_bad h5)) hb
    · refine aw_iload_n dX11_needTotals_8 rfl ?_
      refine aw_xSi [_] dX11_needTotals_9 csX11_80 (m_isRow (nI t)) rfl rfl (Nat.le_of_ble_eq_true rfl) (rb0 (by decide)) ?_
      refine aw_if_ne (tgt := 17) dX11_needTotals_12 rfl (fun h12 => ?_) (fun h12 => ?_)
      · refine aw_aload_n dX11_needTotals_17 rfl ?_
        refine aw_getR dX11_needTotals_18 fgX11_17 rfl (MS.s0 hM) (MS.r0_5 hM) ?_
        refine aw_iload_n dX11_needTotals_21 rfl ?_
        refine aw_iaload dX11_needTotals_22 (MS.s2 hM) rfl ht ?_
        rw [hz]
        refine aw_if_ge (tgt := 32) dX11_needTotals_23 rfl (fun h23 => absurd h23 (by decide)) (fun h23 => ?_)
        refine aw_aload_n dX11_needTotals_26 rfl ?_
        refine aw_iconst (v := nI 1) dX11_needTotals_27 kc_1 ?_
        refine aw_xVi [_] dX11_needTotals_28 cvX11_84 (MS.s0 hM) (m_found hM (f := 1) (by decide)) rfl rfl (Nat.le_of_ble_eq_true rfl) (rb0 (by decide)) ?_
        refine aw_iret dX11_needTotals_31 rfl (rb0 (Nat.zero_le _)) ⟨rfl, _, rfl, ?_⟩
        exact QRM_s e (by decide) (QD_fnd hA hD hT (by decide) rfl)
      · exact absurd (Or.inr (zi_bad h12)) hb
  | some k =>
    have hk40 : k ≤ 40 := hDW.1 t ht k hk
    replace hz : iv (M + 2) t = nI k := by rw [hz, hk]; rfl
    have e : oRec A D T (nI j) (nI t) = if k < 1 ∨ 20 < k then some (-3, fnd A 5) else if rok (D.2.1 t) k then none else some (-3, fnd A 3) := by
      unfold oRec
      rw [if_neg hb, ix_nI (by omega), hk]
    refine spec0_of (lo := [_,_,_,_,_]) (by decide) (Nat.le_of_ble_eq_true rfl) rfl ?_
    refine aw_aload_n dX11_needTotals_0 rfl ?_
    refine aw_iload_n dX11_needTotals_1 rfl ?_
    refine aw_xVi [_] dX11_needTotals_2 cvX11_167 (MS.s0 hM) (m_isOne hM hT.1.1 h7 (nI j)) rfl rfl (Nat.le_of_ble_eq_true rfl) (rb0 (by decide)) ?_
    refine aw_if_eq (tgt := 15) dX11_needTotals_5 rfl (fun h5 => ?_) (fun h5 => ?_)
    · exact absurd (Or.inl (zi_bad h5)) hb
    · refine aw_iload_n dX11_needTotals_8 rfl ?_
      refine aw_xSi [_] dX11_needTotals_9 csX11_80 (m_isRow (nI t)) rfl rfl (Nat.le_of_ble_eq_true rfl) (rb0 (by decide)) ?_
      refine aw_if_ne (tgt := 17) dX11_needTotals_12 rfl (fun h12 => ?_) (fun h12 => ?_)
      · refine aw_aload_n dX11_needTotals_17 rfl ?_
        refine aw_getR dX11_needTotals_18 fgX11_17 rfl (MS.s0 hM) (MS.r0_5 hM) ?_
        refine aw_iload_n dX11_needTotals_21 rfl ?_
        refine aw_iaload dX11_needTotals_22 (MS.s2 hM) rfl ht ?_
        rw [hz]
        refine aw_if_ge (tgt := 32) dX11_needTotals_23 rfl (fun h23 => ?_) (fun h23 => absurd (nI_pos' (by omega)) h23)
        refine aw_aload_n dX11_needTotals_32 rfl ?_
        refine aw_getR dX11_needTotals_33 fgX11_17 rfl (MS.s0 hM) (MS.r0_5 hM) ?_
        refine aw_iload_n dX11_needTotals_36 rfl ?_
        refine aw_iaload dX11_needTotals_37 (MS.s2 hM) rfl ht ?_
        rw [hz]
        refine aw_iconst (v := nI 1) dX11_needTotals_38 kc_1 ?_
        refine aw_bipush (v := nI 20) dX11_needTotals_39 kb_20 ?_
        refine aw_xSi [_, _, _] dX11_needTotals_41 csX11_76 (m_in (nI k) (nI 1) (nI 20)) rfl rfl (Nat.le_of_ble_eq_true rfl) (rb0 (by decide)) ?_
        refine aw_if_ne (tgt := 53) dX11_needTotals_44 rfl (fun h44 => ?_) (fun h44 => ?_)
        · have hc := zI_n0.mp h44
          rw [nI_leI (by decide) (by omega), nI_leI (by omega) (by decide)] at hc
          refine aw_iconst (v := nI 1) dX11_needTotals_53 kc_1 ?_
          refine aw_istore_n (lo' := [_,_,_,_,_]) dX11_needTotals_54 (Nat.le_of_ble_eq_true rfl) rfl ?_
          refine aw_iconst (v := nI 0) dX11_needTotals_55 kc_0 ?_
          refine aw_istore (lo' := [_,_,_,_,_]) dX11_needTotals_56 (Nat.le_of_ble_eq_true rfl) rfl ?_
          exact lo_mrec hM hA hD hT hW ht hc.2 hz (by rw [e, if_neg (by omega)]) k 0 (by omega)
        · have hc := zI_0.mp h44
          rw [nI_leI (by decide) (by omega), nI_leI (by omega) (by decide)] at hc
          refine aw_aload_n dX11_needTotals_47 rfl ?_
          refine aw_iconst (v := nI 5) dX11_needTotals_48 kc_5 ?_
          refine aw_xVi [_] dX11_needTotals_49 cvX11_84 (MS.s0 hM) (m_found hM (f := 5) (by decide)) rfl rfl (Nat.le_of_ble_eq_true rfl) (rb0 (by decide)) ?_
          refine aw_iret dX11_needTotals_52 rfl (rb0 (Nat.zero_le _)) ⟨rfl, _, rfl, ?_⟩
          exact QRM_s (e.trans (if_pos (by omega))) (by decide) (QD_fnd hA hD hT (by decide) rfl)
      · exact absurd (Or.inr (zi_bad h12)) hb
theorem lo_isSo {G : GC} {E : SH} {iv : IV} {lv : LV} {M t k : Nat} {s : TS} {v : TV} {g : Nat → Int32} (hM : MS G E M) (hs : WS s) (hr : SR M s iv) (hv : VR (M + 12) v iv) (hw : WV s v) (hd : v 0 ≤ 40) (ht : t < 6) (hk : k ≤ 40) (hz : iv (M + 2) t = nI k) (hg : ∀ i, i < k → iv (M + 3) (40 * t + i) = g i) : ∀ (c d : Nat) (jv : IV), d + c = k → VR (M + 13) (passN s v d) jv → (∀ b, b ≠ M + 13 → jv b = iv b) → AW G mX11_isSo (rm 6 0) (Z0 G 6 E (fun r i0 l => ∃ w, r = some (.int w) ∧ (w = zI (ftB s v g k = true) ∧ (∀ b, b ≠ M + 13 → i0 b = iv b) ∧ l = lv))) (fun _ => True) E.1 8 [some (.ref M), some (.int (nI t)), some (.int (zI (ftB s v g d = true))), some (.int (nI d))] [] E jv lv := by
  have h7 := hs.1
  intro c
  induction c with
  | zero =>
    intro d jv hc h1 hf
    have hc : d = k := by omega
    subst hc
    have hzj : jv (M + 2) t = nI d := by rw [hf _ (by omega)]; exact hz
    refine aw_iload_n dX11_isSo_8 rfl ?_
    refine aw_aload_n dX11_isSo_9 rfl ?_
    refine aw_getR dX11_isSo_10 fgX11_17 rfl (MS.s0 hM) (MS.r0_5 hM) ?_
    refine aw_iload_n dX11_isSo_13 rfl ?_
    refine aw_iaload dX11_isSo_14 (MS.s2 hM) rfl (by omega) ?_
    rw [hzj]
    refine aw_icmp_ge (tgt := 59) dX11_isSo_15 rfl (fun h15 => ?_) (fun h15 => absurd (nI_le (Nat.le_refl _) (by omega)) h15)
    refine aw_iload_n dX11_isSo_59 rfl ?_
    refine aw_zret dX11_isSo_60 rfl (zI_n _) (rb0 (Nat.zero_le _)) ⟨rfl, _, rfl, rfl, hf, rfl⟩
  | succ c ih =>
    intro d jv hc h1 hf
    have hzj : jv (M + 2) t = nI k := by rw [hf _ (by omega)]; exact hz
    have hrj : SR M s jv := SR_f (by rw [hf M (by omega)]) (hf _ (by omega)) (hf _ (by omega)) (hf _ (by omega)) hr
    have h0 : passN s v d 0 = v 0 + d := passN_0 s v d
    have hwd := WV_passN hs hw d (by omega)
    have hwd2 := WV_passN hs hw (d + 1) (by omega)
    have hgl := gd_le hs hw (d := d + 1) (by omega)
    refine aw_iload_n dX11_isSo_8 rfl ?_
    refine aw_aload_n dX11_isSo_9 rfl ?_
    refine aw_getR dX11_isSo_10 fgX11_17 rfl (MS.s0 hM) (MS.r0_5 hM) ?_
    refine aw_iload_n dX11_isSo_13 rfl ?_
    refine aw_iaload dX11_isSo_14 (MS.s2 hM) rfl (by omega) ?_
    rw [hzj]
    refine aw_icmp_ge (tgt := 59) dX11_isSo_15 rfl (fun h15 => absurd h15 (nI_ge (by omega) (by omega))) (fun h15 => ?_)
    refine aw_aload_n dX11_isSo_18 rfl ?_
    refine aw_aload_n dX11_isSo_19 rfl ?_
    refine aw_getR dX11_isSo_20 fgX11_51 rfl (MS.s0 hM) (MS.r0_19 hM) ?_
    refine aw_sVv [_] dX11_isSo_23 cvX11_159 (MS.s0 hM) (m_passes hM hs hrj (MS.s13 hM) h1 hwd (by omega) (Or.inr rfl)) rfl rfl (Nat.le_of_ble_eq_true rfl) (rb0 (by decide)) (fun kv klv hk2 => ?_)
    obtain ⟨q1, q2, rfl⟩ := hk2
    replace q1 : VR (M + 13) (passN s v (d + 1)) kv := q1
    have hrk : SR M s kv := SR_f (by rw [q2 M (by omega)]) (q2 _ (by omega)) (q2 _ (by omega)) (q2 _ (by omega)) hrj
    have hgk : kv (M + 3) (40 * t + d) = g d := by rw [q2 _ (by omega), hf _ (by omega)]; exact hg d (by omega)
    refine aw_iload_n dX11_isSo_26 rfl ?_
    refine aw_if_eq (tgt := 51) dX11_isSo_27 rfl (fun h27 => ?_) (fun h27 => ?_)
    · refine aw_iconst (v := nI 0) dX11_isSo_51 kc_0 ?_
      refine aw_istore_n (lo' := [_,_,_,_]) dX11_isSo_52 (Nat.le_of_ble_eq_true rfl) rfl ?_
      refine aw_iinc (v := _) (lo' := [_,_,_,_]) dX11_isSo_53 rfl (nI_1 d) rfl ?_
      refine aw_goto (tgt := 8) dX11_isSo_56 rfl ?_
      have h := ih (d + 1) kv (by omega) q1 (fun b hb => by rw [q2 b hb]; exact hf b hb)
      first
        | (rw [show zI (ftB s v g (d + 1) = true) = nI 0 from zI_f (fun q => by
             rw [ftB, Bool.and_eq_true] at q
             exact zI_0.mp h27 q.1)] at h
           exact h)
        | (rw [show zI (ftB s v g (d + 1) = true) = nI 0 from zI_f (fun q => by
             rw [ftB, Bool.and_eq_true] at q
             exact h44 (of_decide_eq_true q.2))] at h
           exact h)
        | (rw [show zI (ftB s v g (d + 1) = true) = nI 1 from zI_t (by
             rw [ftB, zI_n0.mp h27, Bool.true_and]
             exact decide_eq_true h44)] at h
           exact h)
    · refine aw_aload_n dX11_isSo_30 rfl ?_
      refine aw_aload_n dX11_isSo_31 rfl ?_
      refine aw_getR dX11_isSo_32 fgX11_51 rfl (MS.s0 hM) (MS.r0_19 hM) ?_
      refine aw_xVi [_] dX11_isSo_35 cvX11_163 (MS.s0 hM) (m_all hM hs hrk (MS.s13 hM) q1 hwd2) rfl rfl (Nat.le_of_ble_eq_true rfl) (rb0 (by decide)) ?_
      rw [show tot s (passN s v (d + 1)) = gd s v (d + 1) from rfl]
      refine aw_aload_n dX11_isSo_38 rfl ?_
      refine aw_iload_n dX11_isSo_39 rfl ?_
      refine aw_iload_n dX11_isSo_40 rfl ?_
      refine aw_xVi [_, _] dX11_isSo_41 cvX11_88 (MS.s0 hM) (m_rowAt hM (a := t) (p := d) (by omega)) rfl rfl (Nat.le_of_ble_eq_true rfl) (rb0 (by decide)) ?_
      rw [hgk]
      refine aw_icmp_ne (tgt := 51) dX11_isSo_44 rfl (fun h44 => ?_) (fun h44 => ?_)
      · refine aw_iconst (v := nI 0) dX11_isSo_51 kc_0 ?_
        refine aw_istore_n (lo' := [_,_,_,_]) dX11_isSo_52 (Nat.le_of_ble_eq_true rfl) rfl ?_
        refine aw_iinc (v := _) (lo' := [_,_,_,_]) dX11_isSo_53 rfl (nI_1 d) rfl ?_
        refine aw_goto (tgt := 8) dX11_isSo_56 rfl ?_
        have h := ih (d + 1) kv (by omega) q1 (fun b hb => by rw [q2 b hb]; exact hf b hb)
        first
          | (rw [show zI (ftB s v g (d + 1) = true) = nI 0 from zI_f (fun q => by
               rw [ftB, Bool.and_eq_true] at q
               exact zI_0.mp h27 q.1)] at h
             exact h)
          | (rw [show zI (ftB s v g (d + 1) = true) = nI 0 from zI_f (fun q => by
               rw [ftB, Bool.and_eq_true] at q
               exact h44 (of_decide_eq_true q.2))] at h
             exact h)
          | (rw [show zI (ftB s v g (d + 1) = true) = nI 1 from zI_t (by
               rw [ftB, zI_n0.mp h27, Bool.true_and]
               exact decide_eq_true h44)] at h
             exact h)
      · refine aw_iconst (v := nI 1) dX11_isSo_47 kc_1 ?_
        refine aw_goto (tgt := 52) dX11_isSo_48 rfl ?_
        refine aw_istore_n (lo' := [_,_,_,_]) dX11_isSo_52 (Nat.le_of_ble_eq_true rfl) rfl ?_
        refine aw_iinc (v := _) (lo' := [_,_,_,_]) dX11_isSo_53 rfl (nI_1 d) rfl ?_
        refine aw_goto (tgt := 8) dX11_isSo_56 rfl ?_
        have h := ih (d + 1) kv (by omega) q1 (fun b hb => by rw [q2 b hb]; exact hf b hb)
        first
          | (rw [show zI (ftB s v g (d + 1) = true) = nI 0 from zI_f (fun q => by
               rw [ftB, Bool.and_eq_true] at q
               exact zI_0.mp h27 q.1)] at h
             exact h)
          | (rw [show zI (ftB s v g (d + 1) = true) = nI 0 from zI_f (fun q => by
               rw [ftB, Bool.and_eq_true] at q
               exact h44 (of_decide_eq_true q.2))] at h
             exact h)
          | (rw [show zI (ftB s v g (d + 1) = true) = nI 1 from zI_t (by
               rw [ftB, zI_n0.mp h27, Bool.true_and]
               exact decide_eq_true h44)] at h
             exact h)
theorem m_isSo {G : GC} {E : SH} {iv : IV} {lv : LV} {M t k : Nat} {s : TS} {v : TV} {g : Nat → Int32} (hM : MS G E M) (hs : WS s) (hr : SR M s iv) (hv : VR (M + 12) v iv) (hw : WV s v) (hd : v 0 ≤ 40) (ht : t < 6) (hk : k ≤ 40) (hz : iv (M + 2) t = nI k) (hg : ∀ i, i < k → iv (M + 3) (40 * t + i) = g i) : SpI G mX11_isSo 6 [.ref M, .int (nI t)] E iv lv (fun w i0 l => w = zI (ftB s v g k = true) ∧ (∀ b, b ≠ M + 13 → i0 b = iv b) ∧ l = lv) := by
  refine spec0_of (lo := [_,_,_,_]) (by decide) (Nat.le_of_ble_eq_true rfl) rfl ?_
  refine aw_aload_n dX11_isSo_0 rfl ?_
  refine aw_xVv [] dX11_isSo_1 cvX11_189 (MS.s0 hM) (m_copyNow hM) rfl rfl (Nat.le_of_ble_eq_true rfl) (rb0 (by decide)) ?_
  have hc13 : VR (M + 13) v (va_up iv (M + 13) (va_cpy (iv (M + 12)) (iv (M + 13)) 0 0 20)) := VR_copy hv
  have hcq : ∀ b, b ≠ M + 13 → va_up iv (M + 13) (va_cpy (iv (M + 12)) (iv (M + 13)) 0 0 20) b = iv b := fun b hb => va_up_n hb
  generalize va_up iv (M + 13) (va_cpy (iv (M + 12)) (iv (M + 13)) 0 0 20) = civ at hc13 hcq ⊢
  refine aw_iconst (v := nI 1) dX11_isSo_4 kc_1 ?_
  refine aw_istore_n (lo' := [_,_,_,_]) dX11_isSo_5 (Nat.le_of_ble_eq_true rfl) rfl ?_
  refine aw_iconst (v := nI 0) dX11_isSo_6 kc_0 ?_
  refine aw_istore_n (lo' := [_,_,_,_]) dX11_isSo_7 (Nat.le_of_ble_eq_true rfl) rfl ?_
  exact lo_isSo hM hs hr hv hw hd ht hk hz hg k 0 civ (by omega) hc13 hcq
theorem lo_kindsBy {G : GC} {E : SH} {iv : IV} {lv : LV} {M t k : Nat} {s : TS} {v : TV} {g : Nat → Int32} (hM : MS G E M) (hs : WS s) (hr : SR M s iv) (hv : VR (M + 12) v iv) (hw : WV s v) (hd : v 0 ≤ 40) (ht : t < 6) (hk : k ≤ 40) (hz : iv (M + 2) t = nI k) (hg : ∀ i, i < k → iv (M + 3) (40 * t + i) = g i) {i : Nat} (hi : i < s.1) : ∀ (c e : Nat) (jv : IV), e + c = 6 → (∀ b, b ≠ M + 13 → b ≠ M + 9 → jv b = iv b) → (∀ a, a ≠ i → jv (M + 9) a = iv (M + 9) a) → AW G mX11_kindsBy (rm 7 0) (Z0 G 7 E (fun r i0 l => ∃ w, r = some (.int w) ∧ (w = nI (bitU (pK s v i g k) 6) ∧ (∀ b, b ≠ M + 13 → i0 b = iv b) ∧ l = lv))) (fun _ => True) E.1 13 [some (.ref M), some (.int (nI i)), some (.int (nI t)), some (.int (iv (M + 9) i)), some (.int (nI (bitU (pK s v i g k) e))), some (.int (nI e))] [] E jv lv := by
  have h7 := hs.1
  intro c
  induction c with
  | zero =>
    intro e jv hc hf h9
    have hc : e = 6 := by omega
    subst hc
    refine aw_iload dX11_kindsBy_13 rfl ?_
    refine aw_bipush (v := nI 6) dX11_kindsBy_15 kb_6 ?_
    refine aw_icmp_ge (tgt := 55) dX11_kindsBy_17 rfl (fun h17 => ?_) (fun h17 => absurd (by decide) h17)
    refine aw_aload_n dX11_kindsBy_55 rfl ?_
    refine aw_getR dX11_kindsBy_56 fgX11_39 rfl (MS.s0 hM) (MS.r0_15 hM) ?_
    refine aw_iload_n dX11_kindsBy_59 rfl ?_
    refine aw_iload_n dX11_kindsBy_60 rfl ?_
    refine aw_iastore dX11_kindsBy_61 (MS.s9 hM) rfl (by omega) ?_
    refine aw_iload dX11_kindsBy_62 rfl ?_
    refine aw_iret dX11_kindsBy_64 rfl (rb0 (Nat.zero_le _)) ⟨rfl, _, rfl, rfl, fun b hb => ?_, rfl⟩
    by_cases e9 : b = M + 9
    · subst e9
      rw [va_up_s]
      exact back_up h9
    · rw [va_up_n e9]; exact hf b hb e9
  | succ c ih =>
    intro e jv hc hf h9
    have hf2 : ∀ b, b ≠ M + 13 → b ≠ M + 9 → va_up jv (M + 9) (upd (jv (M + 9)) i (nI e)) b = iv b := fun b h1 h2 => by rw [va_up_n h2]; exact hf b h1 h2
    have h92 : ∀ a, a ≠ i → va_up jv (M + 9) (upd (jv (M + 9)) i (nI e)) (M + 9) a = iv (M + 9) a := fun a ha => by rw [va_up_s, pk_un ha]; exact h9 a ha
    have hr2 : SR M (sK s i e) (va_up jv (M + 9) (upd (jv (M + 9)) i (nI e))) := SR_K hr (by rw [hf2 M (by omega) (by omega)]) (hf2 _ (by omega) (by omega)) (hf2 _ (by omega) (by omega)) h92 (by rw [va_up_s, pk_us])
    refine aw_iload dX11_kindsBy_13 rfl ?_
    refine aw_bipush (v := nI 6) dX11_kindsBy_15 kb_6 ?_
    refine aw_icmp_ge (tgt := 55) dX11_kindsBy_17 rfl (fun h17 => absurd h17 (nI_ge (by omega) (by decide))) (fun h17 => ?_)
    refine aw_aload_n dX11_kindsBy_20 rfl ?_
    refine aw_getR dX11_kindsBy_21 fgX11_39 rfl (MS.s0 hM) (MS.r0_15 hM) ?_
    refine aw_iload_n dX11_kindsBy_24 rfl ?_
    refine aw_iload dX11_kindsBy_25 rfl ?_
    refine aw_iastore dX11_kindsBy_27 (MS.s9 hM) rfl (by omega) ?_
    generalize va_up jv (M + 9) (upd (jv (M + 9)) i (nI e)) = jw at hf2 h92 hr2 ⊢
    refine aw_iload dX11_kindsBy_28 rfl ?_
    refine aw_aload_n dX11_kindsBy_30 rfl ?_
    refine aw_iload_n dX11_kindsBy_31 rfl ?_
    refine aw_sVi [_] dX11_kindsBy_32 cvX11_206 (MS.s0 hM) (m_isSo hM (WS_K hs (i := i) (k := e) (by omega)) hr2 (v := v) (fun q hq => by rw [hf2 _ (by omega) (by omega)]; exact hv q hq) (WV_sK hw) hd ht hk (by rw [hf2 _ (by omega) (by omega)]; exact hz) (g := g) (fun i hi => by rw [hf2 _ (by omega) (by omega)]; exact hg i hi)) rfl rfl (Nat.le_of_ble_eq_true rfl) (rb0 (by decide)) (fun kw kv klv hk2 => ?_)
    obtain ⟨k0, k2, rfl⟩ := hk2
    subst k0
    refine aw_if_eq (tgt := 45) dX11_kindsBy_35 rfl (fun h35 => ?_) (fun h35 => ?_)
    · have hpk : pK s v i g k e = false := Bool.eq_false_iff.mpr (zI_0.mp h35)
      refine aw_iconst (v := nI 0) dX11_kindsBy_45 kc_0 ?_
      refine aw_ior dX11_kindsBy_46 ?_
      first
        | rw [bitU_t (p := pK s v i g k) (i := e) (by omega) hpk]
        | rw [or_0, ← bitU_f (p := pK s v i g k) (i := e) hpk]
      refine aw_istore (lo' := [_,_,_,_,_,_]) dX11_kindsBy_47 (Nat.le_of_ble_eq_true rfl) rfl ?_
      refine aw_iinc (v := _) (lo' := [_,_,_,_,_,_]) dX11_kindsBy_49 rfl (nI_1 e) rfl ?_
      refine aw_goto (tgt := 13) dX11_kindsBy_52 rfl ?_
      exact ih (e + 1) kv (by omega) (fun b h1 h2 => by rw [k2 b h1]; exact hf2 b h1 h2) (fun a ha => by rw [k2 _ (by omega)]; exact h92 a ha)
    · have hpk : pK s v i g k e = true := zI_n0.mp h35
      refine aw_iconst (v := nI 1) dX11_kindsBy_38 kc_1 ?_
      refine aw_iload dX11_kindsBy_39 rfl ?_
      refine aw_ishl dX11_kindsBy_41 ?_
      refine aw_goto (tgt := 46) dX11_kindsBy_42 rfl ?_
      refine aw_ior dX11_kindsBy_46 ?_
      first
        | rw [bitU_t (p := pK s v i g k) (i := e) (by omega) hpk]
        | rw [or_0, ← bitU_f (p := pK s v i g k) (i := e) hpk]
      refine aw_istore (lo' := [_,_,_,_,_,_]) dX11_kindsBy_47 (Nat.le_of_ble_eq_true rfl) rfl ?_
      refine aw_iinc (v := _) (lo' := [_,_,_,_,_,_]) dX11_kindsBy_49 rfl (nI_1 e) rfl ?_
      refine aw_goto (tgt := 13) dX11_kindsBy_52 rfl ?_
      exact ih (e + 1) kv (by omega) (fun b h1 h2 => by rw [k2 b h1]; exact hf2 b h1 h2) (fun a ha => by rw [k2 _ (by omega)]; exact h92 a ha)
theorem m_kindsBy {G : GC} {E : SH} {iv : IV} {lv : LV} {M t k : Nat} {s : TS} {v : TV} {g : Nat → Int32} (hM : MS G E M) (hs : WS s) (hr : SR M s iv) (hv : VR (M + 12) v iv) (hw : WV s v) (hd : v 0 ≤ 40) (ht : t < 6) (hk : k ≤ 40) (hz : iv (M + 2) t = nI k) (hg : ∀ i, i < k → iv (M + 3) (40 * t + i) = g i) {i : Nat} (hi : i < s.1) : SpI G mX11_kindsBy 7 [.ref M, .int (nI i), .int (nI t)] E iv lv (fun w i0 l => w = nI (bitU (pK s v i g k) 6) ∧ (∀ b, b ≠ M + 13 → i0 b = iv b) ∧ l = lv) := by
  have h7 := hs.1
  refine spec0_of (lo := [_,_,_,_,_,_]) (by decide) (Nat.le_of_ble_eq_true rfl) rfl ?_
  refine aw_aload_n dX11_kindsBy_0 rfl ?_
  refine aw_getR dX11_kindsBy_1 fgX11_39 rfl (MS.s0 hM) (MS.r0_15 hM) ?_
  refine aw_iload_n dX11_kindsBy_4 rfl ?_
  refine aw_iaload dX11_kindsBy_5 (MS.s9 hM) rfl (by omega) ?_
  refine aw_istore_n (lo' := [_,_,_,_,_,_]) dX11_kindsBy_6 (Nat.le_of_ble_eq_true rfl) rfl ?_
  refine aw_iconst (v := nI 0) dX11_kindsBy_7 kc_0 ?_
  refine aw_istore (lo' := [_,_,_,_,_,_]) dX11_kindsBy_8 (Nat.le_of_ble_eq_true rfl) rfl ?_
  refine aw_iconst (v := nI 0) dX11_kindsBy_10 kc_0 ?_
  refine aw_istore (lo' := [_,_,_,_,_,_]) dX11_kindsBy_11 (Nat.le_of_ble_eq_true rfl) rfl ?_
  exact lo_kindsBy hM hs hr hv hw hd ht hk hz hg hi 6 0 iv (by omega) (fun _ _ _ => rfl) (fun _ _ => rfl)
theorem m_kinds {G : GC} {E : SH} {iv : IV} {lv : LV} {M : Nat} (hM : MS G E M) {A : AA} {D : DD} {T : FT} (hA : MA M A iv lv) (hD : MD M D iv) (hT : MT M T iv) (hW : WT T) (hDW : WD D) (i r : Int32) : SpI G mX11_kinds 8 [.ref M, .int i, .int r] E iv lv (QD M iv lv (oKinds A D T i r)) := by
  obtain ⟨s, ⟨m, lg⟩, kp⟩ := T
  have hs : WS s := hW.1.1
  have hs7 : s.1 ≤ 7 := hs.1
  have hw : WV s (lg m) := nowW hW
  have hd : lg m 0 ≤ 40 := nowD hW
  have hr : SR M s iv := hT.1
  have hv : VR (M + 12) (lg m) iv := hT.2.2.1
  have h20 : iv M 20 = nI m := hT.2.1
  have hm : m ≤ 40 := hW.1.2.1
  cases hq0 : oRec A D (s, (m, lg), kp) i r with
  | some q =>
    obtain ⟨p, B⟩ := q
    have e : oKinds A D (s, (m, lg), kp) i r = (p, B, D, (s, (m, lg), kp)) := by
      unfold oKinds
      rw [hq0]
    rw [e]
    refine spec0_of (lo := [_,_,_,_]) (by decide) (Nat.le_of_ble_eq_true rfl) rfl ?_
    refine aw_aload_n dX11_kinds_0 rfl ?_
    refine aw_iload_n dX11_kinds_1 rfl ?_
    refine aw_iload_n dX11_kinds_2 rfl ?_
    refine aw_sVi [_, _] dX11_kinds_3 cvX11_209 (MS.s0 hM) (m_rec hM hA hD hT hW hDW i r) rfl rfl (Nat.le_of_ble_eq_true rfl) (rb0 (by decide)) (fun kw kv klv hk => ?_)
    obtain ⟨k0, k1⟩ := hk.1 p B hq0
    refine aw_istore_n (lo' := [_,_,_,_]) dX11_kinds_6 (Nat.le_of_ble_eq_true rfl) rfl ?_
    refine aw_iload_n dX11_kinds_7 rfl ?_
    refine aw_if_ge (tgt := 15) dX11_kinds_8 rfl (fun h8 => ?_) (fun h8 => ?_)
    · exact absurd (by have q := k1.1; dsimp only at q; rw [← q]; exact h8) k0
    · refine aw_iload_n dX11_kinds_11 rfl ?_
      refine aw_goto (tgt := 21) dX11_kinds_12 rfl ?_
      refine aw_iret dX11_kinds_21 rfl (rb0 (Nat.zero_le _)) ⟨rfl, _, rfl, ?_⟩
      exact k1
  | none =>
    obtain ⟨j, t, k, hj, ht, hk1, hk20, rfl, rfl, hk⟩ := oRec_n hs7 hq0
    replace hj : j < s.1 := hj
    have hz : iv (M + 2) t = nI k := by rw [hD.1 t ht, hk]; rfl
    have hg : ∀ e, e < k → iv (M + 3) (40 * t + e) = D.2.1 t e := fun e he => hD.2.1 t e ht (by omega)
    have hU : rsz D t = k := by unfold rsz; rw [hk]; rfl
    refine spec0_of (lo := [_,_,_,_]) (by decide) (Nat.le_of_ble_eq_true rfl) rfl ?_
    refine aw_aload_n dX11_kinds_0 rfl ?_
    refine aw_iload_n dX11_kinds_1 rfl ?_
    refine aw_iload_n dX11_kinds_2 rfl ?_
    refine aw_sVi [_, _] dX11_kinds_3 cvX11_209 (MS.s0 hM) (m_rec hM hA hD hT hW hDW (nI j) (nI t)) rfl rfl (Nat.le_of_ble_eq_true rfl) (rb0 (by decide)) (fun kw kv klv hk => ?_)
    obtain ⟨k0, k1, k2⟩ := hk.2 hq0
    rw [k0, k1, k2]
    clear hk k0 k1 k2
    refine aw_istore_n (lo' := [_,_,_,_]) dX11_kinds_6 (Nat.le_of_ble_eq_true rfl) rfl ?_
    refine aw_iload_n dX11_kinds_7 rfl ?_
    refine aw_if_ge (tgt := 15) dX11_kinds_8 rfl (fun h8 => ?_) (fun h8 => absurd (by decide) h8)
    refine aw_aload_n dX11_kinds_15 rfl ?_
    refine aw_iload_n dX11_kinds_16 rfl ?_
    refine aw_iload_n dX11_kinds_17 rfl ?_
    refine aw_sVi [_, _] dX11_kinds_18 cvX11_212 (MS.s0 hM) (m_kindsBy hM hs hr hv hw hd ht (by omega) hz hg hj) rfl rfl (Nat.le_of_ble_eq_true rfl) (rb0 (by decide)) (fun kw2 kv2 klv2 hk2 => ?_)
    obtain ⟨k0, k2, rfl⟩ := hk2
    subst k0
    refine aw_iret dX11_kinds_21 rfl (rb0 (Nat.zero_le _)) ⟨rfl, _, rfl, ?_⟩
    unfold oKinds
    rw [hq0]
    dsimp only [nowT]
    rw [ix_nI (by omega), ix_nI (by omega), hU]
    exact QD_out hA hD hT (fun b hb _ => k2 b hb) rfl
theorem lo_mhighs {G : GC} {E : SH} {iv : IV} {lv : LV} {M t k : Nat} {s : TS} {v : TV} {g : Nat → Int32} (hM : MS G E M) (hs : WS s) (hr : SR M s iv) (hv : VR (M + 12) v iv) (hw : WV s v) (hd : v 0 ≤ 40) (ht : t < 6) (hk : k ≤ 40) (hz : iv (M + 2) t = nI k) (hg : ∀ i, i < k → iv (M + 3) (40 * t + i) = g i) {i : Nat} (hi : i < s.1) {y3 : Int32} {Q : Option Value → IV → LV → Prop} (hQ : ∀ i0, (∀ b, b ≠ M + 13 → i0 b = iv b) → Q (some (.int (nI (bitU (pH s v i g k) 10)))) i0 lv) : ∀ (c e : Nat) (jv : IV), e + c = 10 → (∀ b, b ≠ M + 13 → b ≠ M + 10 → jv b = iv b) → (∀ a, a ≠ i → jv (M + 10) a = iv (M + 10) a) → AW G mX11_highs (rm 7 0) (Z0 G 7 E Q) (fun _ => True) E.1 27 [some (.ref M), some (.int (nI i)), some (.int (nI t)), some (.int y3), some (.int (iv (M + 10) i)), some (.int (nI (bitU (pH s v i g k) e))), some (.int (nI e))] [] E jv lv := by
  have h7 := hs.1
  intro c
  induction c with
  | zero =>
    intro e jv hc hf h9
    have hc : e = 10 := by omega
    subst hc
    refine aw_iload dX11_highs_27 rfl ?_
    refine aw_bipush (v := nI 9) dX11_highs_29 kb_9 ?_
    refine aw_icmp_gt (tgt := 69) dX11_highs_31 rfl (fun h31 => ?_) (fun h31 => absurd (by decide) h31)
    refine aw_aload_n dX11_highs_69 rfl ?_
    refine aw_getR dX11_highs_70 fgX11_42 rfl (MS.s0 hM) (MS.r0_16 hM) ?_
    refine aw_iload_n dX11_highs_73 rfl ?_
    refine aw_iload dX11_highs_74 rfl ?_
    refine aw_iastore dX11_highs_76 (MS.s10 hM) rfl (by omega) ?_
    refine aw_iload dX11_highs_77 rfl ?_
    refine aw_iret dX11_highs_79 rfl (rb0 (Nat.zero_le _)) ⟨rfl, hQ _ (fun b hb => ?_)⟩
    by_cases e9 : b = M + 10
    · subst e9
      rw [va_up_s]
      exact back_up h9
    · rw [va_up_n e9]; exact hf b hb e9
  | succ c ih =>
    intro e jv hc hf h9
    have hf2 : ∀ b, b ≠ M + 13 → b ≠ M + 10 → va_up jv (M + 10) (upd (jv (M + 10)) i (nI e)) b = iv b := fun b h1 h2 => by rw [va_up_n h2]; exact hf b h1 h2
    have h92 : ∀ a, a ≠ i → va_up jv (M + 10) (upd (jv (M + 10)) i (nI e)) (M + 10) a = iv (M + 10) a := fun a ha => by rw [va_up_s, pk_un ha]; exact h9 a ha
    have hr2 : SR M (sH s i e) (va_up jv (M + 10) (upd (jv (M + 10)) i (nI e))) := SR_H hr (by rw [hf2 M (by omega) (by omega)]) (hf2 _ (by omega) (by omega)) (hf2 _ (by omega) (by omega)) h92 (by rw [va_up_s, pk_us])
    refine aw_iload dX11_highs_27 rfl ?_
    refine aw_bipush (v := nI 9) dX11_highs_29 kb_9 ?_
    refine aw_icmp_gt (tgt := 69) dX11_highs_31 rfl (fun h31 => absurd h31 (nI_nlt (by omega) (by decide))) (fun h31 => ?_)
    refine aw_aload_n dX11_highs_34 rfl ?_
    refine aw_getR dX11_highs_35 fgX11_42 rfl (MS.s0 hM) (MS.r0_16 hM) ?_
    refine aw_iload_n dX11_highs_38 rfl ?_
    refine aw_iload dX11_highs_39 rfl ?_
    refine aw_iastore dX11_highs_41 (MS.s10 hM) rfl (by omega) ?_
    generalize va_up jv (M + 10) (upd (jv (M + 10)) i (nI e)) = jw at hf2 h92 hr2 ⊢
    refine aw_iload dX11_highs_42 rfl ?_
    refine aw_aload_n dX11_highs_44 rfl ?_
    refine aw_iload_n dX11_highs_45 rfl ?_
    refine aw_sVi [_] dX11_highs_46 cvX11_206 (MS.s0 hM) (m_isSo hM (WS_H hs (i := i) (k := e) (by omega)) hr2 (v := v) (fun q hq => by rw [hf2 _ (by omega) (by omega)]; exact hv q hq) (WV_sH hw) hd ht hk (by rw [hf2 _ (by omega) (by omega)]; exact hz) (g := g) (fun i hi => by rw [hf2 _ (by omega) (by omega)]; exact hg i hi)) rfl rfl (Nat.le_of_ble_eq_true rfl) (rb0 (by decide)) (fun kw kv klv hk2 => ?_)
    obtain ⟨k0, k2, rfl⟩ := hk2
    subst k0
    refine aw_if_eq (tgt := 59) dX11_highs_49 rfl (fun h49 => ?_) (fun h49 => ?_)
    · have hpk : pH s v i g k e = false := Bool.eq_false_iff.mpr (zI_0.mp h49)
      refine aw_iconst (v := nI 0) dX11_highs_59 kc_0 ?_
      refine aw_ior dX11_highs_60 ?_
      first
        | rw [bitU_t (p := pH s v i g k) (i := e) (by omega) hpk]
        | rw [or_0, ← bitU_f (p := pH s v i g k) (i := e) hpk]
      refine aw_istore (lo' := [_,_,_,_,_,_,_]) dX11_highs_61 (Nat.le_of_ble_eq_true rfl) rfl ?_
      refine aw_iinc (v := _) (lo' := [_,_,_,_,_,_,_]) dX11_highs_63 rfl (nI_1 e) rfl ?_
      refine aw_goto (tgt := 27) dX11_highs_66 rfl ?_
      exact ih (e + 1) kv (by omega) (fun b h1 h2 => by rw [k2 b h1]; exact hf2 b h1 h2) (fun a ha => by rw [k2 _ (by omega)]; exact h92 a ha)
    · have hpk : pH s v i g k e = true := zI_n0.mp h49
      refine aw_iconst (v := nI 1) dX11_highs_52 kc_1 ?_
      refine aw_iload dX11_highs_53 rfl ?_
      refine aw_ishl dX11_highs_55 ?_
      refine aw_goto (tgt := 60) dX11_highs_56 rfl ?_
      refine aw_ior dX11_highs_60 ?_
      first
        | rw [bitU_t (p := pH s v i g k) (i := e) (by omega) hpk]
        | rw [or_0, ← bitU_f (p := pH s v i g k) (i := e) hpk]
      refine aw_istore (lo' := [_,_,_,_,_,_,_]) dX11_highs_61 (Nat.le_of_ble_eq_true rfl) rfl ?_
      refine aw_iinc (v := _) (lo' := [_,_,_,_,_,_,_]) dX11_highs_63 rfl (nI_1 e) rfl ?_
      refine aw_goto (tgt := 27) dX11_highs_66 rfl ?_
      exact ih (e + 1) kv (by omega) (fun b h1 h2 => by rw [k2 b h1]; exact hf2 b h1 h2) (fun a ha => by rw [k2 _ (by omega)]; exact h92 a ha)
theorem m_highs {G : GC} {E : SH} {iv : IV} {lv : LV} {M : Nat} (hM : MS G E M) {A : AA} {D : DD} {T : FT} (hA : MA M A iv lv) (hD : MD M D iv) (hT : MT M T iv) (hW : WT T) (hDW : WD D) (i r : Int32) : SpI G mX11_highs 7 [.ref M, .int i, .int r] E iv lv (QD M iv lv (oHighs A D T i r)) := by
  obtain ⟨s, ⟨m, lg⟩, kp⟩ := T
  have hs : WS s := hW.1.1
  have hs7 : s.1 ≤ 7 := hs.1
  have hw : WV s (lg m) := nowW hW
  have hd : lg m 0 ≤ 40 := nowD hW
  have hr : SR M s iv := hT.1
  have hv : VR (M + 12) (lg m) iv := hT.2.2.1
  have h20 : iv M 20 = nI m := hT.2.1
  have hm : m ≤ 40 := hW.1.2.1
  cases hq0 : oRec A D (s, (m, lg), kp) i r with
  | some q =>
    obtain ⟨p, B⟩ := q
    have e : oHighs A D (s, (m, lg), kp) i r = (p, B, D, (s, (m, lg), kp)) := by
      unfold oHighs
      rw [hq0]
    rw [e]
    refine spec0_of (lo := [_,_,_,_,_,_,_]) (by decide) (Nat.le_of_ble_eq_true rfl) rfl ?_
    refine aw_aload_n dX11_highs_0 rfl ?_
    refine aw_iload_n dX11_highs_1 rfl ?_
    refine aw_iload_n dX11_highs_2 rfl ?_
    refine aw_sVi [_, _] dX11_highs_3 cvX11_209 (MS.s0 hM) (m_rec hM hA hD hT hW hDW i r) rfl rfl (Nat.le_of_ble_eq_true rfl) (rb0 (by decide)) (fun kw kv klv hk => ?_)
    obtain ⟨k0, k1⟩ := hk.1 p B hq0
    refine aw_istore_n (lo' := [_,_,_,_,_,_,_]) dX11_highs_6 (Nat.le_of_ble_eq_true rfl) rfl ?_
    refine aw_iload_n dX11_highs_7 rfl ?_
    refine aw_if_ge (tgt := 13) dX11_highs_8 rfl (fun h8 => ?_) (fun h8 => ?_)
    · exact absurd (by have q := k1.1; dsimp only at q; rw [← q]; exact h8) k0
    · refine aw_iload_n dX11_highs_11 rfl ?_
      refine aw_iret dX11_highs_12 rfl (rb0 (Nat.zero_le _)) ⟨rfl, _, rfl, ?_⟩
      exact k1
  | none =>
    obtain ⟨j, t, k, hj, ht, hk1, hk20, rfl, rfl, hk⟩ := oRec_n hs7 hq0
    replace hj : j < s.1 := hj
    have hz : iv (M + 2) t = nI k := by rw [hD.1 t ht, hk]; rfl
    have hg : ∀ e, e < k → iv (M + 3) (40 * t + e) = D.2.1 t e := fun e he => hD.2.1 t e ht (by omega)
    have hU : rsz D t = k := by unfold rsz; rw [hk]; rfl
    refine spec0_of (lo := [_,_,_,_,_,_,_]) (by decide) (Nat.le_of_ble_eq_true rfl) rfl ?_
    refine aw_aload_n dX11_highs_0 rfl ?_
    refine aw_iload_n dX11_highs_1 rfl ?_
    refine aw_iload_n dX11_highs_2 rfl ?_
    refine aw_sVi [_, _] dX11_highs_3 cvX11_209 (MS.s0 hM) (m_rec hM hA hD hT hW hDW (nI j) (nI t)) rfl rfl (Nat.le_of_ble_eq_true rfl) (rb0 (by decide)) (fun kw kv klv hk => ?_)
    obtain ⟨k0, k1, k2⟩ := hk.2 hq0
    rw [k0, k1, k2]
    clear hk k0 k1 k2
    refine aw_istore_n (lo' := [_,_,_,_,_,_,_]) dX11_highs_6 (Nat.le_of_ble_eq_true rfl) rfl ?_
    refine aw_iload_n dX11_highs_7 rfl ?_
    refine aw_if_ge (tgt := 13) dX11_highs_8 rfl (fun h8 => ?_) (fun h8 => absurd (by decide) h8)
    refine aw_aload_n dX11_highs_13 rfl ?_
    refine aw_getR dX11_highs_14 fgX11_42 rfl (MS.s0 hM) (MS.r0_16 hM) ?_
    refine aw_iload_n dX11_highs_17 rfl ?_
    refine aw_iaload dX11_highs_18 (MS.s10 hM) rfl (by omega) ?_
    refine aw_istore (lo' := [_,_,_,_,_,_,_]) dX11_highs_19 (Nat.le_of_ble_eq_true rfl) rfl ?_
    refine aw_iconst (v := nI 0) dX11_highs_21 kc_0 ?_
    refine aw_istore (lo' := [_,_,_,_,_,_,_]) dX11_highs_22 (Nat.le_of_ble_eq_true rfl) rfl ?_
    refine aw_iconst (v := nI 0) dX11_highs_24 kc_0 ?_
    refine aw_istore (lo' := [_,_,_,_,_,_,_]) dX11_highs_25 (Nat.le_of_ble_eq_true rfl) rfl ?_
    refine lo_mhighs hM hs hr hv hw hd ht (by omega) hz hg hj (fun i0 q => ⟨_, rfl, ?_⟩) 10 0 iv (by omega) (fun _ _ _ => rfl) (fun _ _ => rfl)
    unfold oHighs
    rw [hq0]
    dsimp only [nowT]
    rw [ix_nI (by omega), ix_nI (by omega), hU]
    exact QD_out hA hD hT (fun b hb _ => q b hb) rfl
