theorem pmt_e (s : TS) (v : TV) (i : Nat) : pmt s v i = metB s v i := by
  unfold pmt mood
  cases metB s v i <;> cases forg s v i <;> decide
theorem pfg_e (s : TS) (v : TV) (i : Nat) : pfg s v i = (metB s v i && forg s v i) := by
  unfold pfg mood
  cases metB s v i <;> cases forg s v i <;> decide
theorem lo_mmeets {G : GC} {E : SH} {iv : IV} {lv : LV} {M : Nat} (hM : MS G E M) {A : AA} {D : DD} {s : TS} {m : Nat} {lg : Nat → TV} {kp : Nat → Option KL} (hA : MA M A iv lv) (hD : MD M D iv) (hT : MT M (s, (m, lg), kp) iv) (hW : WT (s, (m, lg), kp)) : ∀ (c i : Nat) (j4 : Option Value), i + c = s.1 → AW G mX11_meets (rm 4 0) (Z0 G 4 E (fun r i0 l => ∃ w, r = some (.int w) ∧ QD M iv lv (oMeets A D (s, (m, lg), kp)) w i0 l)) (fun _ => True) E.1 6 [some (.ref M), some (.int (nI (bitU (pmt s (lg m)) i))), some (.int (nI (cntU (pfg s (lg m)) i))), some (.int (nI i)), j4] [] E iv lv := by
  have hs : WS s := hW.1.1
  have hs7 : s.1 ≤ 7 := hs.1
  have hw : WV s (lg m) := nowW hW
  have hd : lg m 0 ≤ 40 := nowD hW
  have hr : SR M s iv := hT.1
  have hv : VR (M + 12) (lg m) iv := hT.2.2.1
  have h20 : iv M 20 = nI m := hT.2.1
  have hm : m ≤ 40 := hW.1.2.1
  intro c
  induction c with
  | zero =>
    intro i j4 hi
    have hi : i = s.1 := by omega
    subst hi
    refine aw_iload_n dX11_meets_6 rfl ?_
    refine aw_aload_n dX11_meets_7 rfl ?_
    refine aw_getI dX11_meets_8 fgX11_126 rfl (MS.s0 hM) ?_
    refine aw_icmp_ge (tgt := 71) dX11_meets_11 rfl (fun h11 => ?_) (fun h11 => absurd (by rw [hr.1]; exact nI_le (Nat.le_refl _) (by omega)) h11)
    refine aw_aload_n dX11_meets_71 rfl ?_
    refine aw_iload_n dX11_meets_72 rfl ?_
    refine aw_iload_n dX11_meets_73 rfl ?_
    refine aw_xVi [_, _] dX11_meets_74 cvX11_92 (MS.s0 hM) (m_tells hM _ _) rfl rfl (Nat.le_of_ble_eq_true rfl) (rb0 (by decide)) ?_
    refine aw_iret dX11_meets_77 rfl (rb0 (Nat.zero_le _)) ⟨rfl, _, rfl, ?_⟩
    exact QD_tel (i := iv) hA hD hT (fun _ _ _ => rfl) rfl
  | succ c ih =>
    intro i j4 hi
    refine aw_iload_n dX11_meets_6 rfl ?_
    refine aw_aload_n dX11_meets_7 rfl ?_
    refine aw_getI dX11_meets_8 fgX11_126 rfl (MS.s0 hM) ?_
    refine aw_icmp_ge (tgt := 71) dX11_meets_11 rfl (fun h11 => absurd h11 (by rw [hr.1]; exact nI_ge (by omega) (by omega))) (fun h11 => ?_)
    refine aw_aload_n dX11_meets_14 rfl ?_
    refine aw_aload_n dX11_meets_15 rfl ?_
    refine aw_getR dX11_meets_16 fgX11_48 rfl (MS.s0 hM) (MS.r0_18 hM) ?_
    refine aw_iload_n dX11_meets_19 rfl ?_
    refine aw_xVi [_, _] dX11_meets_20 cvX11_147 (MS.s0 hM) (m_isMet hM hs hr (MS.s12 hM) hv hw (i := i) (by omega)) rfl rfl (Nat.le_of_ble_eq_true rfl) (rb0 (by decide)) ?_
    refine aw_istore (lo' := [_,_,_,_,_]) dX11_meets_23 (Nat.le_of_ble_eq_true rfl) rfl ?_
    refine aw_iload_n dX11_meets_25 rfl ?_
    refine aw_iload dX11_meets_26 rfl ?_
    refine aw_if_eq (tgt := 37) dX11_meets_28 rfl (fun h28 => ?_) (fun h28 => ?_)
    · have b1 : metB s (lg m) i = false := Bool.eq_false_iff.mpr (zI_0.mp h28)
      refine aw_iconst (v := nI 0) dX11_meets_37 kc_0 ?_
      refine aw_ior dX11_meets_38 ?_
      first
        | rw [bitU_t (p := pmt s (lg m)) (i := i) (by omega) (by rw [pmt_e]; exact b1)]
        | rw [or_0]
      refine aw_istore_n (lo' := [_,_,_,_,_]) dX11_meets_39 (Nat.le_of_ble_eq_true rfl) rfl ?_
      refine aw_iload_n dX11_meets_40 rfl ?_
      refine aw_iload dX11_meets_41 rfl ?_
      refine aw_if_eq (tgt := 62) dX11_meets_43 rfl (fun h43 => ?_) (fun h43 => ?_)
      · have b2 : metB s (lg m) i = false := Bool.eq_false_iff.mpr (zI_0.mp h43)
        refine aw_iconst (v := nI 0) dX11_meets_62 kc_0 ?_
        refine aw_iadd dX11_meets_63 ?_
        rw [nI_add]
        refine aw_istore_n (lo' := [_,_,_,_,_]) dX11_meets_64 (Nat.le_of_ble_eq_true rfl) rfl ?_
        refine aw_iinc (v := _) (lo' := [_,_,_,_,_]) dX11_meets_65 rfl (nI_1 i) rfl ?_
        refine aw_goto (tgt := 6) dX11_meets_68 rfl ?_
        first
          | (rw [b1] at b2; cases b2; done)
          | (have h := ih (i + 1) (some (.int (zI (metB s (lg m) i = true)))) (by omega)
             rw [cntU_t (p := pfg s (lg m)) (i := i) (by rw [pfg_e, b1, b3]; rfl)] at h
             exact h)
          | (have h := ih (i + 1) (some (.int (zI (metB s (lg m) i = true)))) (by omega)
             rw [cntU_f (p := pfg s (lg m)) (i := i) (by rw [pfg_e, b1, b3]; rfl)] at h
             exact h)
          | (have h := ih (i + 1) (some (.int (zI (metB s (lg m) i = true)))) (by omega)
             rw [cntU_f (p := pfg s (lg m)) (i := i) (by rw [pfg_e, b1]; rfl), bitU_f (p := pmt s (lg m)) (i := i) (by rw [pmt_e]; exact b1)] at h
             exact h)
      · have b2 : metB s (lg m) i = true := zI_n0.mp h43
        refine aw_aload_n dX11_meets_46 rfl ?_
        refine aw_aload_n dX11_meets_47 rfl ?_
        refine aw_getR dX11_meets_48 fgX11_48 rfl (MS.s0 hM) (MS.r0_18 hM) ?_
        refine aw_iload_n dX11_meets_51 rfl ?_
        refine aw_xVi [_, _] dX11_meets_52 cvX11_150 (MS.s0 hM) (m_isForgiven hM hs hr (MS.s12 hM) hv hw (i := i) (by omega)) rfl rfl (Nat.le_of_ble_eq_true rfl) (rb0 (by decide)) ?_
        refine aw_if_eq (tgt := 62) dX11_meets_55 rfl (fun h55 => ?_) (fun h55 => ?_)
        · have b3 : forg s (lg m) i = false := Bool.eq_false_iff.mpr (zI_0.mp h55)
          refine aw_iconst (v := nI 0) dX11_meets_62 kc_0 ?_
          refine aw_iadd dX11_meets_63 ?_
          rw [nI_add]
          refine aw_istore_n (lo' := [_,_,_,_,_]) dX11_meets_64 (Nat.le_of_ble_eq_true rfl) rfl ?_
          refine aw_iinc (v := _) (lo' := [_,_,_,_,_]) dX11_meets_65 rfl (nI_1 i) rfl ?_
          refine aw_goto (tgt := 6) dX11_meets_68 rfl ?_
          first
            | (rw [b1] at b2; cases b2; done)
            | (have h := ih (i + 1) (some (.int (zI (metB s (lg m) i = true)))) (by omega)
               rw [cntU_t (p := pfg s (lg m)) (i := i) (by rw [pfg_e, b1, b3]; rfl)] at h
               exact h)
            | (have h := ih (i + 1) (some (.int (zI (metB s (lg m) i = true)))) (by omega)
               rw [cntU_f (p := pfg s (lg m)) (i := i) (by rw [pfg_e, b1, b3]; rfl)] at h
               exact h)
            | (have h := ih (i + 1) (some (.int (zI (metB s (lg m) i = true)))) (by omega)
               rw [cntU_f (p := pfg s (lg m)) (i := i) (by rw [pfg_e, b1]; rfl), bitU_f (p := pmt s (lg m)) (i := i) (by rw [pmt_e]; exact b1)] at h
               exact h)
        · have b3 : forg s (lg m) i = true := zI_n0.mp h55
          refine aw_iconst (v := nI 1) dX11_meets_58 kc_1 ?_
          refine aw_goto (tgt := 63) dX11_meets_59 rfl ?_
          refine aw_iadd dX11_meets_63 ?_
          rw [nI_add]
          refine aw_istore_n (lo' := [_,_,_,_,_]) dX11_meets_64 (Nat.le_of_ble_eq_true rfl) rfl ?_
          refine aw_iinc (v := _) (lo' := [_,_,_,_,_]) dX11_meets_65 rfl (nI_1 i) rfl ?_
          refine aw_goto (tgt := 6) dX11_meets_68 rfl ?_
          first
            | (rw [b1] at b2; cases b2; done)
            | (have h := ih (i + 1) (some (.int (zI (metB s (lg m) i = true)))) (by omega)
               rw [cntU_t (p := pfg s (lg m)) (i := i) (by rw [pfg_e, b1, b3]; rfl)] at h
               exact h)
            | (have h := ih (i + 1) (some (.int (zI (metB s (lg m) i = true)))) (by omega)
               rw [cntU_f (p := pfg s (lg m)) (i := i) (by rw [pfg_e, b1, b3]; rfl)] at h
               exact h)
            | (have h := ih (i + 1) (some (.int (zI (metB s (lg m) i = true)))) (by omega)
               rw [cntU_f (p := pfg s (lg m)) (i := i) (by rw [pfg_e, b1]; rfl), bitU_f (p := pmt s (lg m)) (i := i) (by rw [pmt_e]; exact b1)] at h
               exact h)
    · have b1 : metB s (lg m) i = true := zI_n0.mp h28
      refine aw_iconst (v := nI 1) dX11_meets_31 kc_1 ?_
      refine aw_iload_n dX11_meets_32 rfl ?_
      refine aw_ishl dX11_meets_33 ?_
      refine aw_goto (tgt := 38) dX11_meets_34 rfl ?_
      refine aw_ior dX11_meets_38 ?_
      first
        | rw [bitU_t (p := pmt s (lg m)) (i := i) (by omega) (by rw [pmt_e]; exact b1)]
        | rw [or_0]
      refine aw_istore_n (lo' := [_,_,_,_,_]) dX11_meets_39 (Nat.le_of_ble_eq_true rfl) rfl ?_
      refine aw_iload_n dX11_meets_40 rfl ?_
      refine aw_iload dX11_meets_41 rfl ?_
      refine aw_if_eq (tgt := 62) dX11_meets_43 rfl (fun h43 => ?_) (fun h43 => ?_)
      · have b2 : metB s (lg m) i = false := Bool.eq_false_iff.mpr (zI_0.mp h43)
        refine aw_iconst (v := nI 0) dX11_meets_62 kc_0 ?_
        refine aw_iadd dX11_meets_63 ?_
        rw [nI_add]
        refine aw_istore_n (lo' := [_,_,_,_,_]) dX11_meets_64 (Nat.le_of_ble_eq_true rfl) rfl ?_
        refine aw_iinc (v := _) (lo' := [_,_,_,_,_]) dX11_meets_65 rfl (nI_1 i) rfl ?_
        refine aw_goto (tgt := 6) dX11_meets_68 rfl ?_
        first
          | (rw [b1] at b2; cases b2; done)
          | (have h := ih (i + 1) (some (.int (zI (metB s (lg m) i = true)))) (by omega)
             rw [cntU_t (p := pfg s (lg m)) (i := i) (by rw [pfg_e, b1, b3]; rfl)] at h
             exact h)
          | (have h := ih (i + 1) (some (.int (zI (metB s (lg m) i = true)))) (by omega)
             rw [cntU_f (p := pfg s (lg m)) (i := i) (by rw [pfg_e, b1, b3]; rfl)] at h
             exact h)
          | (have h := ih (i + 1) (some (.int (zI (metB s (lg m) i = true)))) (by omega)
             rw [cntU_f (p := pfg s (lg m)) (i := i) (by rw [pfg_e, b1]; rfl), bitU_f (p := pmt s (lg m)) (i := i) (by rw [pmt_e]; exact b1)] at h
             exact h)
      · have b2 : metB s (lg m) i = true := zI_n0.mp h43
        refine aw_aload_n dX11_meets_46 rfl ?_
        refine aw_aload_n dX11_meets_47 rfl ?_
        refine aw_getR dX11_meets_48 fgX11_48 rfl (MS.s0 hM) (MS.r0_18 hM) ?_
        refine aw_iload_n dX11_meets_51 rfl ?_
        refine aw_xVi [_, _] dX11_meets_52 cvX11_150 (MS.s0 hM) (m_isForgiven hM hs hr (MS.s12 hM) hv hw (i := i) (by omega)) rfl rfl (Nat.le_of_ble_eq_true rfl) (rb0 (by decide)) ?_
        refine aw_if_eq (tgt := 62) dX11_meets_55 rfl (fun h55 => ?_) (fun h55 => ?_)
        · have b3 : forg s (lg m) i = false := Bool.eq_false_iff.mpr (zI_0.mp h55)
          refine aw_iconst (v := nI 0) dX11_meets_62 kc_0 ?_
          refine aw_iadd dX11_meets_63 ?_
          rw [nI_add]
          refine aw_istore_n (lo' := [_,_,_,_,_]) dX11_meets_64 (Nat.le_of_ble_eq_true rfl) rfl ?_
          refine aw_iinc (v := _) (lo' := [_,_,_,_,_]) dX11_meets_65 rfl (nI_1 i) rfl ?_
          refine aw_goto (tgt := 6) dX11_meets_68 rfl ?_
          first
            | (rw [b1] at b2; cases b2; done)
            | (have h := ih (i + 1) (some (.int (zI (metB s (lg m) i = true)))) (by omega)
               rw [cntU_t (p := pfg s (lg m)) (i := i) (by rw [pfg_e, b1, b3]; rfl)] at h
               exact h)
            | (have h := ih (i + 1) (some (.int (zI (metB s (lg m) i = true)))) (by omega)
               rw [cntU_f (p := pfg s (lg m)) (i := i) (by rw [pfg_e, b1, b3]; rfl)] at h
               exact h)
            | (have h := ih (i + 1) (some (.int (zI (metB s (lg m) i = true)))) (by omega)
               rw [cntU_f (p := pfg s (lg m)) (i := i) (by rw [pfg_e, b1]; rfl), bitU_f (p := pmt s (lg m)) (i := i) (by rw [pmt_e]; exact b1)] at h
               exact h)
        · have b3 : forg s (lg m) i = true := zI_n0.mp h55
          refine aw_iconst (v := nI 1) dX11_meets_58 kc_1 ?_
          refine aw_goto (tgt := 63) dX11_meets_59 rfl ?_
          refine aw_iadd dX11_meets_63 ?_
          rw [nI_add]
          refine aw_istore_n (lo' := [_,_,_,_,_]) dX11_meets_64 (Nat.le_of_ble_eq_true rfl) rfl ?_
          refine aw_iinc (v := _) (lo' := [_,_,_,_,_]) dX11_meets_65 rfl (nI_1 i) rfl ?_
          refine aw_goto (tgt := 6) dX11_meets_68 rfl ?_
          first
            | (rw [b1] at b2; cases b2; done)
            | (have h := ih (i + 1) (some (.int (zI (metB s (lg m) i = true)))) (by omega)
               rw [cntU_t (p := pfg s (lg m)) (i := i) (by rw [pfg_e, b1, b3]; rfl)] at h
               exact h)
            | (have h := ih (i + 1) (some (.int (zI (metB s (lg m) i = true)))) (by omega)
               rw [cntU_f (p := pfg s (lg m)) (i := i) (by rw [pfg_e, b1, b3]; rfl)] at h
               exact h)
            | (have h := ih (i + 1) (some (.int (zI (metB s (lg m) i = true)))) (by omega)
               rw [cntU_f (p := pfg s (lg m)) (i := i) (by rw [pfg_e, b1]; rfl), bitU_f (p := pmt s (lg m)) (i := i) (by rw [pmt_e]; exact b1)] at h
               exact h)
theorem m_meets {G : GC} {E : SH} {iv : IV} {lv : LV} {M : Nat} (hM : MS G E M) {A : AA} {D : DD} {T : FT} (hA : MA M A iv lv) (hD : MD M D iv) (hT : MT M T iv) (hW : WT T) : SpI G mX11_meets 4 [.ref M] E iv lv (QD M iv lv (oMeets A D T)) := by
  obtain ⟨s, ⟨m, lg⟩, kp⟩ := T
  refine spec0_of (lo := [_,_,_,_,_]) (by decide) (Nat.le_of_ble_eq_true rfl) rfl ?_
  refine aw_iconst (v := nI 0) dX11_meets_0 kc_0 ?_
  refine aw_istore_n (lo' := [_,_,_,_,_]) dX11_meets_1 (Nat.le_of_ble_eq_true rfl) rfl ?_
  refine aw_iconst (v := nI 0) dX11_meets_2 kc_0 ?_
  refine aw_istore_n (lo' := [_,_,_,_,_]) dX11_meets_3 (Nat.le_of_ble_eq_true rfl) rfl ?_
  refine aw_iconst (v := nI 0) dX11_meets_4 kc_0 ?_
  refine aw_istore_n (lo' := [_,_,_,_,_]) dX11_meets_5 (Nat.le_of_ble_eq_true rfl) rfl ?_
  exact lo_mmeets hM hA hD hT hW s.1 0 none (by omega)
