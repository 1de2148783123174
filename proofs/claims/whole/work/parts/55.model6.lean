theorem lo_mpeace {G : GC} {E : SH} {iv : IV} {lv : LV} {M : Nat} (hM : MS G E M) {A : AA} {D : DD} {s : TS} {m : Nat} {lg : Nat → TV} {kp : Nat → Option KL} (hA : MA M A iv lv) (hD : MD M D iv) (hT : MT M (s, (m, lg), kp) iv) (hW : WT (s, (m, lg), kp)) (hnp : s.1 ≠ 0) : ∀ (c i : Nat) (jv : IV) (j3 : Option Value), i + c = 121 → fz (gd s (lg m)) i = none → VR (M + 13) (passN s (lg m) i) jv → (∀ b, b ≠ M + 13 → jv b = iv b) → AW G mX11_peace (rm 6 0) (Z0 G 6 E (fun r i0 l => ∃ w, r = some (.int w) ∧ QD M iv lv (oPeace A D (s, (m, lg), kp)) w i0 l)) (fun _ => True) E.1 18 [some (.ref M), some (.int (nI (mxU (gd s (lg m)) i))), some (.int (nI i)), j3] [] E jv lv := by
  have hs : WS s := hW.1.1
  have hs7 : s.1 ≤ 7 := hs.1
  have hw : WV s (lg m) := nowW hW
  have hd : lg m 0 ≤ 40 := nowD hW
  have hr : SR M s iv := hT.1
  have hv : VR (M + 12) (lg m) iv := hT.2.2.1
  have h20 : iv M 20 = nI m := hT.2.1
  have hm : m ≤ 40 := hW.1.2.1
  intro c
  induction c with
  | zero =>
    intro i jv j3 hi hz hvj hq
    have hi : i = 121 := by omega
    subst hi
    refine aw_iload_n dX11_peace_18 rfl ?_
    refine aw_bipush (v := nI 120) dX11_peace_19 kb_120 ?_
    refine aw_icmp_gt (tgt := 69) dX11_peace_21 rfl (fun h21 => ?_) (fun h21 => absurd (by decide) h21)
    refine aw_bipush (v := (-9)) dX11_peace_69 kb_m9 ?_
    refine aw_iret dX11_peace_71 rfl (rb0 (Nat.zero_le _)) ⟨rfl, _, rfl, ?_⟩
    refine QD_out hA hD hT (fun b hb _ => hq b hb) ?_
    dsimp only [oPeace, nowT]
    rw [if_neg hnp, hz]
  | succ c ih =>
    intro i jv j3 hi hz hvj hq
    have hwi := WV_passN hs hw i (by omega)
    have hrj : SR M s jv := SR_f (by rw [hq M (by omega)]) (hq _ (by omega)) (hq _ (by omega)) (hq _ (by omega)) hr
    have hg := gd_le hs hw (d := i) (by omega)
    have hx : mxU (gd s (lg m)) i ≤ 63 := mxU_le i (fun j hj => gd_le hs hw (by omega))
    have h0 : passN s (lg m) i 0 = lg m 0 + i := passN_0 s (lg m) i
    refine aw_iload_n dX11_peace_18 rfl ?_
    refine aw_bipush (v := nI 120) dX11_peace_19 kb_120 ?_
    refine aw_icmp_gt (tgt := 69) dX11_peace_21 rfl (fun h21 => absurd h21 (nI_nlt (by omega) (by decide))) (fun h21 => ?_)
    refine aw_aload_n dX11_peace_24 rfl ?_
    refine aw_aload_n dX11_peace_25 rfl ?_
    refine aw_getR dX11_peace_26 fgX11_51 rfl (MS.s0 hM) (MS.r0_19 hM) ?_
    refine aw_xVi [_] dX11_peace_29 cvX11_163 (MS.s0 hM) (m_all hM hs hrj (MS.s13 hM) hvj hwi) rfl rfl (Nat.le_of_ble_eq_true rfl) (rb0 (by decide)) ?_
    rw [show tot s (passN s (lg m) i) = gd s (lg m) i from rfl]
    refine aw_istore_n (lo' := [_,_,_,_]) dX11_peace_32 (Nat.le_of_ble_eq_true rfl) rfl ?_
    refine aw_iload_n dX11_peace_33 rfl ?_
    refine aw_iload_n dX11_peace_34 rfl ?_
    refine aw_icmp_le (tgt := 42) dX11_peace_35 rfl (fun h35 => ?_) (fun h35 => ?_)
    · rw [nI_leI (by omega) (by omega)] at h35
      have hmx : mxU (gd s (lg m)) (i + 1) = mxU (gd s (lg m)) i := by
        rw [mxU]
        omega
      refine aw_iload_n dX11_peace_42 rfl ?_
      refine aw_istore_n (lo' := [_,_,_,_]) dX11_peace_43 (Nat.le_of_ble_eq_true rfl) rfl ?_
      refine aw_iload_n dX11_peace_44 rfl ?_
      refine aw_if_ne (tgt := 55) dX11_peace_45 rfl (fun h45 => ?_) (fun h45 => ?_)
      · rw [← nI_0, nI_eq (by omega) (by omega)] at h45
        refine aw_aload_n dX11_peace_55 rfl ?_
        refine aw_aload_n dX11_peace_56 rfl ?_
        refine aw_getR dX11_peace_57 fgX11_51 rfl (MS.s0 hM) (MS.r0_19 hM) ?_
        refine aw_sVv [_] dX11_peace_60 cvX11_159 (MS.s0 hM) (m_passes hM hs hrj (MS.s13 hM) hvj hwi (by omega) (Or.inr rfl)) rfl rfl (Nat.le_of_ble_eq_true rfl) (rb0 (by decide)) (fun kv klv hk => ?_)
        obtain ⟨q1, q2, rfl⟩ := hk
        refine aw_iinc (v := _) (lo' := [_,_,_,_]) dX11_peace_63 rfl (nI_1 i) rfl ?_
        refine aw_goto (tgt := 18) dX11_peace_66 rfl ?_
        have h := ih (i + 1) kv (some (.int (nI (gd s (lg m) i)))) (by omega) (fz_miss hz h45) q1 (fun b hb => by rw [q2 b hb]; exact hq b hb)
        rw [hmx] at h
        exact h
      · rw [← nI_0, nI_eq (by omega) (by omega)] at h45
        refine aw_aload_n dX11_peace_48 rfl ?_
        refine aw_iload_n dX11_peace_49 rfl ?_
        refine aw_iload_n dX11_peace_50 rfl ?_
        refine aw_xVi [_, _] dX11_peace_51 cvX11_92 (MS.s0 hM) (m_tells hM _ _) rfl rfl (Nat.le_of_ble_eq_true rfl) (rb0 (by decide)) ?_
        refine aw_iret dX11_peace_54 rfl (rb0 (Nat.zero_le _)) ⟨rfl, _, rfl, ?_⟩
        refine QD_tel hA hD hT (fun b hb _ => hq b hb) ?_
        dsimp only [oPeace, nowT]
        have hf := fz_le (fz_hit hz h45) c
        rw [show i + 1 + c = 121 by omega] at hf
        rw [if_neg hnp, hf]
        dsimp only
        rw [hmx]
    · rw [nI_leI (by omega) (by omega)] at h35
      have hmx : mxU (gd s (lg m)) (i + 1) = gd s (lg m) i := by
        rw [mxU]
        omega
      refine aw_iload_n dX11_peace_38 rfl ?_
      refine aw_goto (tgt := 43) dX11_peace_39 rfl ?_
      refine aw_istore_n (lo' := [_,_,_,_]) dX11_peace_43 (Nat.le_of_ble_eq_true rfl) rfl ?_
      refine aw_iload_n dX11_peace_44 rfl ?_
      refine aw_if_ne (tgt := 55) dX11_peace_45 rfl (fun h45 => ?_) (fun h45 => ?_)
      · rw [← nI_0, nI_eq (by omega) (by omega)] at h45
        refine aw_aload_n dX11_peace_55 rfl ?_
        refine aw_aload_n dX11_peace_56 rfl ?_
        refine aw_getR dX11_peace_57 fgX11_51 rfl (MS.s0 hM) (MS.r0_19 hM) ?_
        refine aw_sVv [_] dX11_peace_60 cvX11_159 (MS.s0 hM) (m_passes hM hs hrj (MS.s13 hM) hvj hwi (by omega) (Or.inr rfl)) rfl rfl (Nat.le_of_ble_eq_true rfl) (rb0 (by decide)) (fun kv klv hk => ?_)
        obtain ⟨q1, q2, rfl⟩ := hk
        refine aw_iinc (v := _) (lo' := [_,_,_,_]) dX11_peace_63 rfl (nI_1 i) rfl ?_
        refine aw_goto (tgt := 18) dX11_peace_66 rfl ?_
        have h := ih (i + 1) kv (some (.int (nI (gd s (lg m) i)))) (by omega) (fz_miss hz h45) q1 (fun b hb => by rw [q2 b hb]; exact hq b hb)
        rw [hmx] at h
        exact h
      · rw [← nI_0, nI_eq (by omega) (by omega)] at h45
        refine aw_aload_n dX11_peace_48 rfl ?_
        refine aw_iload_n dX11_peace_49 rfl ?_
        refine aw_iload_n dX11_peace_50 rfl ?_
        refine aw_xVi [_, _] dX11_peace_51 cvX11_92 (MS.s0 hM) (m_tells hM _ _) rfl rfl (Nat.le_of_ble_eq_true rfl) (rb0 (by decide)) ?_
        refine aw_iret dX11_peace_54 rfl (rb0 (Nat.zero_le _)) ⟨rfl, _, rfl, ?_⟩
        refine QD_tel hA hD hT (fun b hb _ => hq b hb) ?_
        dsimp only [oPeace, nowT]
        have hf := fz_le (fz_hit hz h45) c
        rw [show i + 1 + c = 121 by omega] at hf
        rw [if_neg hnp, hf]
        dsimp only
        rw [hmx]
theorem m_peace {G : GC} {E : SH} {iv : IV} {lv : LV} {M : Nat} (hM : MS G E M) {A : AA} {D : DD} {T : FT} (hA : MA M A iv lv) (hD : MD M D iv) (hT : MT M T iv) (hW : WT T) : SpI G mX11_peace 6 [.ref M] E iv lv (QD M iv lv (oPeace A D T)) := by
  obtain ⟨s, ⟨m, lg⟩, kp⟩ := T
  have hs : WS s := hW.1.1
  have hs7 : s.1 ≤ 7 := hs.1
  have hw : WV s (lg m) := nowW hW
  have hd : lg m 0 ≤ 40 := nowD hW
  have hr : SR M s iv := hT.1
  have hv : VR (M + 12) (lg m) iv := hT.2.2.1
  have h20 : iv M 20 = nI m := hT.2.1
  have hm : m ≤ 40 := hW.1.2.1
  refine spec0_of (lo := [_,_,_,_]) (by decide) (Nat.le_of_ble_eq_true rfl) rfl ?_
  refine aw_aload_n dX11_peace_0 rfl ?_
  refine aw_getI dX11_peace_1 fgX11_126 rfl (MS.s0 hM) ?_
  rw [hr.1]
  refine aw_if_ne (tgt := 10) dX11_peace_4 rfl (fun h4 => ?_) (fun h4 => ?_)
  · rw [← nI_0, nI_eq (by omega) (by omega)] at h4
    have hnp : s.1 ≠ 0 := h4
    refine aw_aload_n dX11_peace_10 rfl ?_
    refine aw_xVv [] dX11_peace_11 cvX11_189 (MS.s0 hM) (m_copyNow hM) rfl rfl (Nat.le_of_ble_eq_true rfl) (rb0 (by decide)) ?_
    have hc13 : VR (M + 13) (lg m) (va_up iv (M + 13) (va_cpy (iv (M + 12)) (iv (M + 13)) 0 0 20)) := VR_copy hv
    have hcq : ∀ b, b ≠ M + 13 → va_up iv (M + 13) (va_cpy (iv (M + 12)) (iv (M + 13)) 0 0 20) b = iv b := fun b hb => va_up_n hb
    generalize va_up iv (M + 13) (va_cpy (iv (M + 12)) (iv (M + 13)) 0 0 20) = civ at hc13 hcq ⊢
    have hcr : SR M s civ := SR_f (by rw [hcq M (by omega)]) (hcq _ (by omega)) (hcq _ (by omega)) (hcq _ (by omega)) hr
    refine aw_iconst (v := nI 0) dX11_peace_14 kc_0 ?_
    refine aw_istore_n (lo' := [_,_,_,_]) dX11_peace_15 (Nat.le_of_ble_eq_true rfl) rfl ?_
    refine aw_iconst (v := nI 0) dX11_peace_16 kc_0 ?_
    refine aw_istore_n (lo' := [_,_,_,_]) dX11_peace_17 (Nat.le_of_ble_eq_true rfl) rfl ?_
    exact lo_mpeace hM hA hD hT hW hnp 121 0 civ none (by omega) rfl hc13 hcq
  · rw [← nI_0, nI_eq (by omega) (by omega)] at h4
    have hnp : s.1 = 0 := h4
    refine aw_bipush (v := (-4)) dX11_peace_7 kb_m4 ?_
    refine aw_iret dX11_peace_9 rfl (rb0 (Nat.zero_le _)) ⟨rfl, _, rfl, ?_⟩
    refine QD_no hA hD hT ?_
    dsimp only [oPeace, nowT]
    
    exact if_pos hnp
