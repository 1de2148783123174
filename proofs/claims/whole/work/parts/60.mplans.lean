/-! how deep, who should go where: the reference -/
def lsF (f : Nat → Nat) (i : Nat) : Nat := if i = 0 then 1000000 else (bst f i).2
theorem lsF_s {f : Nat → Nat} {i : Nat} : lsF f (i + 1) = (bst f (i + 1)).2 := if_neg (by omega)
theorem bst_lt {f : Nat → Nat} {i : Nat} (h : f i < lsF f i) : (bst f (i + 1)).1 = i ∧ lsF f (i + 1) = f i := by
  have e : bst f (i + 1) = (i, f i) := by
    unfold lsF at h
    rw [bst]
    by_cases h0 : i = 0
    · subst h0; exact if_pos rfl
    · rw [if_neg h0] at h
      rw [if_neg h0, if_pos h]
  rw [lsF_s, e]
  exact ⟨rfl, rfl⟩
theorem bst_ge {f : Nat → Nat} {i : Nat} (hb : f i < 1000000) (h : lsF f i ≤ f i) : (bst f (i + 1)).1 = (bst f i).1 ∧ lsF f (i + 1) = lsF f i := by
  have h0 : i ≠ 0 := fun e => by
    subst e
    have : lsF f 0 = 1000000 := if_pos rfl
    omega
  have e : bst f (i + 1) = bst f i := by
    unfold lsF at h
    rw [if_neg h0] at h
    rw [bst, if_neg h0, if_neg (by omega)]
  rw [lsF_s, e]
  exact ⟨rfl, (if_neg h0).symm⟩
theorem lsF_le {f : Nat → Nat} (hb : ∀ j, f j ≤ 63) (i : Nat) : lsF f i ≤ 1000000 := by
  unfold lsF
  split
  · exact Nat.le_refl _
  · have := (bst_le (f := f) (c := 63) i (fun j _ => hb j)).1
    omega
theorem allD_0 (v : TV) (x : Nat) : allD v x 0 = v 0 := if_neg (by omega)
theorem mvI_9 {q : Option Nat} (h : ∀ j, q = some j → j < 1000) : mvI q = -9 ↔ q = none := by
  cases q with
  | none => exact ⟨fun _ => rfl, fun _ => rfl⟩
  | some j =>
    have hj := h j rfl
    exact ⟨fun q => absurd q (nI_n9 (by omega)), fun q => by cases q⟩
theorem lo_ashc {G : GC} {E : SH} {iv : IV} {lv : LV} {M x : Nat} (hM : MS G E M) {v : TV} {y1 y2 y3 y4 : Int32} {Zz : List Frame → Array Value → State → State → Prop} : (∀ i0, VR (M + 13) (allD v x) i0 → (∀ b, b ≠ M + 13 → i0 b = iv b) → AW G mX11_ash (rm 7 0) Zz (fun _ => True) E.1 64 [some (.ref M), some (.int y1), some (.int y2), some (.int y3), some (.int y4), some (.int (nI x)), some (.int (nI 5))] [] E i0 lv) → ∀ (e c : Nat) (jv : IV), c + e = 5 → VR (M + 13) (fun q => if 1 ≤ q ∧ q < 1 + c then x else v q) jv → (∀ b, b ≠ M + 13 → jv b = iv b) → AW G mX11_ash (rm 7 0) Zz (fun _ => True) E.1 41 [some (.ref M), some (.int y1), some (.int y2), some (.int y3), some (.int y4), some (.int (nI x)), some (.int (nI c))] [] E jv lv := by
  intro hK e
  induction e with
  | zero =>
    intro c jv hc h1 h3
    have hc : c = 5 := by omega
    subst hc
    refine aw_iload dX11_ash_41 rfl ?_
    refine aw_iconst (v := nI 5) dX11_ash_43 kc_5 ?_
    refine aw_icmp_ge (tgt := 64) dX11_ash_44 rfl (fun h44 => ?_) (fun h44 => absurd (by decide) h44)
    exact hK jv h1 h3
  | succ e ih =>
    intro c jv hc h1 h3
    refine aw_iload dX11_ash_41 rfl ?_
    refine aw_iconst (v := nI 5) dX11_ash_43 kc_5 ?_
    refine aw_icmp_ge (tgt := 64) dX11_ash_44 rfl (fun h44 => absurd h44 (nI_ge (by omega) (by decide))) (fun h44 => ?_)
    refine aw_aload_n dX11_ash_47 rfl ?_
    refine aw_getR dX11_ash_48 fgX11_51 rfl (MS.s0 hM) (MS.r0_19 hM) ?_
    refine aw_iconst (v := nI 1) dX11_ash_51 kc_1 ?_
    refine aw_iload dX11_ash_52 rfl ?_
    refine aw_iadd dX11_ash_54 ?_
    rw [nI_add]
    refine aw_iload dX11_ash_55 rfl ?_
    refine aw_iastore dX11_ash_57 (MS.s13 hM) rfl (by omega) ?_
    refine aw_iinc (v := _) (lo' := [_,_,_,_,_,_,_]) dX11_ash_58 rfl (nI_1 c) rfl ?_
    refine aw_goto (tgt := 41) dX11_ash_61 rfl ?_
    refine ih (c + 1) _ (by omega) (VR_up h1 ?_ (fun q hq hn => ?_)) (fun b hb => by rw [va_up_n hb]; exact h3 b hb)
    · rw [if_pos (by omega)]
    · by_cases g : 1 ≤ q ∧ q < 1 + c
      · rw [if_pos g, if_pos (by omega)]
      · rw [if_neg g, if_neg (by omega)]
theorem lo_mash {G : GC} {E : SH} {iv : IV} {lv : LV} {M : Nat} (hM : MS G E M) {A : AA} {D : DD} {s : TS} {m : Nat} {lg : Nat → TV} {kp : Nat → Option KL} (hA : MA M A iv lv) (hD : MD M D iv) (hT : MT M (s, (m, lg), kp) iv) (hW : WT (s, (m, lg), kp)) (hnp : s.1 ≠ 0) {u : Nat} (hu1 : 1 ≤ u) (hu : u ≤ 40) {y2 : Int32} : ∀ (c i : Nat) (jv : IV) (j6 : Option Value), i + c = 10 → (∀ b, b ≠ M + 13 → jv b = iv b) → AW G mX11_ash (rm 7 0) (Z0 G 7 E (fun r i0 l => ∃ w, r = some (.int w) ∧ QD M iv lv (oAsh A D (s, (m, lg), kp) (nI u)) w i0 l)) (fun _ => True) E.1 27 [some (.ref M), some (.int (nI u)), some (.int y2), some (.int (nI (bst (fAsh s (lg m) u) i).1)), some (.int (nI (lsF (fAsh s (lg m) u) i))), some (.int (nI i)), j6] [] E jv lv := by
  have hs : WS s := hW.1.1
  have hs7 : s.1 ≤ 7 := hs.1
  have hw : WV s (lg m) := nowW hW
  have hd : lg m 0 ≤ 40 := nowD hW
  have hr : SR M s iv := hT.1
  have hv : VR (M + 12) (lg m) iv := hT.2.2.1
  have h20 : iv M 20 = nI m := hT.2.1
  have hm : m ≤ 40 := hW.1.2.1
  intro c
  induction c with
  | zero =>
    intro i jv j6 hi hf
    have hi : i = 10 := by omega
    subst hi
    refine aw_iload dX11_ash_27 rfl ?_
    refine aw_bipush (v := nI 9) dX11_ash_29 kb_9 ?_
    refine aw_icmp_gt (tgt := 107) dX11_ash_31 rfl (fun h31 => ?_) (fun h31 => absurd (by decide) h31)
    refine aw_aload_n dX11_ash_107 rfl ?_
    refine aw_iload dX11_ash_108 rfl ?_
    refine aw_iload_n dX11_ash_110 rfl ?_
    refine aw_xVi [_, _] dX11_ash_111 cvX11_92 (MS.s0 hM) (m_tells hM _ _) rfl rfl (Nat.le_of_ble_eq_true rfl) (rb0 (by decide)) ?_
    refine aw_iret dX11_ash_114 rfl (rb0 (Nat.zero_le _)) ⟨rfl, _, rfl, ?_⟩
    refine QD_tel hA hD hT (fun b hb _ => hf b hb) ?_
    dsimp only [oAsh, nowT]
    rw [if_neg (fun q => q.elim (fun q => absurd q (nI_nlt hu1 (by omega))) (fun q => absurd q (nI_nlt hu (by omega)))), if_neg hnp, ix_nI (by omega)]
    rfl
  | succ c ih =>
    intro i jv j6 hi hf
    have hfb : ∀ j, j ≤ 9 → fAsh s (lg m) u j ≤ 63 := fun j hj => gd_le hs (WV_allD hs7 hw hj) (by rw [allD_0]; omega)
    have hfi := hfb i (by omega)
    have hL : lsF (fAsh s (lg m) u) i ≤ 1000000 := by
      unfold lsF
      split
      · exact Nat.le_refl _
      · have := (bst_le (f := fAsh s (lg m) u) (c := 63) i (fun j hj => hfb j (by omega))).1
        omega
    have hb1 : (bst (fAsh s (lg m) u) i).1 ≤ i := bst_1 i
    refine aw_iload dX11_ash_27 rfl ?_
    refine aw_bipush (v := nI 9) dX11_ash_29 kb_9 ?_
    refine aw_icmp_gt (tgt := 107) dX11_ash_31 rfl (fun h31 => absurd h31 (nI_nlt (by omega) (by decide))) (fun h31 => ?_)
    refine aw_aload_n dX11_ash_34 rfl ?_
    refine aw_xVv [] dX11_ash_35 cvX11_189 (MS.s0 hM) (m_copyNow hM) rfl rfl (Nat.le_of_ble_eq_true rfl) (rb0 (by decide)) ?_
    have hc13 : VR (M + 13) (lg m) (va_up jv (M + 13) (va_cpy (jv (M + 12)) (jv (M + 13)) 0 0 20)) := VR_copy (fun q hq => by rw [hf _ (by omega)]; exact hv q hq)
    have hcq : ∀ b, b ≠ M + 13 → va_up jv (M + 13) (va_cpy (jv (M + 12)) (jv (M + 13)) 0 0 20) b = iv b := fun b hb => by rw [va_up_n hb]; exact hf b hb
    generalize va_up jv (M + 13) (va_cpy (jv (M + 12)) (jv (M + 13)) 0 0 20) = civ at hc13 hcq ⊢
    have hcr : SR M s civ := SR_f (by rw [hcq M (by omega)]) (hcq _ (by omega)) (hcq _ (by omega)) (hcq _ (by omega)) hr
    refine aw_iconst (v := nI 0) dX11_ash_38 kc_0 ?_
    refine aw_istore (lo' := [_,_,_,_,_,_,_]) dX11_ash_39 (Nat.le_of_ble_eq_true rfl) rfl ?_
    refine lo_ashc (x := i) (v := lg m) (iv := civ) hM (fun iA a1 a2 => ?_) 5 0 civ (by omega) (fun q hq => by dsimp only; rw [if_neg (by omega)]; exact hc13 q hq) (fun _ _ => rfl)
    have hAr : SR M s iA := SR_f (by rw [a2 M (by omega)]) (a2 _ (by omega)) (a2 _ (by omega)) (a2 _ (by omega)) hcr
    refine aw_aload_n dX11_ash_64 rfl ?_
    refine aw_iload_n dX11_ash_65 rfl ?_
    refine aw_sVi [_] dX11_ash_66 cvX11_192 (MS.s0 hM) (m_allBehind hM hs hAr a1 (WV_allD hs7 hw (by omega)) (n := u) (by rw [allD_0]; omega)) rfl rfl (Nat.le_of_ble_eq_true rfl) (rb0 (by decide)) (fun kw kv klv hk => ?_)
    obtain ⟨k0, k1, k2, rfl⟩ := hk
    subst k0
    rw [show tot s (passN s (allD (lg m) i) u) = fAsh s (lg m) u i from rfl]
    refine aw_istore (lo' := [_,_,_,_,_,_,_]) dX11_ash_69 (Nat.le_of_ble_eq_true rfl) rfl ?_
    refine aw_iload dX11_ash_71 rfl ?_
    refine aw_iload dX11_ash_73 rfl ?_
    refine aw_icmp_ge (tgt := 83) dX11_ash_75 rfl (fun h75 => ?_) (fun h75 => ?_)
    · rw [nI_leI (by omega) (by omega)] at h75
      refine aw_iload_n dX11_ash_83 rfl ?_
      refine aw_istore_n (lo' := [_,_,_,_,_,_,_]) dX11_ash_84 (Nat.le_of_ble_eq_true rfl) rfl ?_
      refine aw_iload dX11_ash_85 rfl ?_
      refine aw_iload dX11_ash_87 rfl ?_
      refine aw_icmp_ge (tgt := 97) dX11_ash_89 rfl (fun h89 => ?_) (fun h89 => ?_)
      · rw [nI_leI (by omega) (by omega)] at h89
        refine aw_iload dX11_ash_97 rfl ?_
        refine aw_istore (lo' := [_,_,_,_,_,_,_]) dX11_ash_99 (Nat.le_of_ble_eq_true rfl) rfl ?_
        refine aw_iinc (v := _) (lo' := [_,_,_,_,_,_,_]) dX11_ash_101 rfl (nI_1 i) rfl ?_
        refine aw_goto (tgt := 27) dX11_ash_104 rfl ?_
        first
          | exact absurd h75 h89
          | exact absurd h89 h75
          | (have h := ih (i + 1) kv (some (.int (nI (fAsh s (lg m) u i)))) (by omega) (fun b hb => by rw [k2 b hb, a2 b hb]; exact hcq b hb)
             rw [(bst_ge (by omega) h75).1, (bst_ge (by omega) h75).2] at h
             exact h)
          | (have h := ih (i + 1) kv (some (.int (nI (fAsh s (lg m) u i)))) (by omega) (fun b hb => by rw [k2 b hb, a2 b hb]; exact hcq b hb)
             rw [(bst_lt (Nat.not_le.mp h75)).1, (bst_lt (Nat.not_le.mp h75)).2] at h
             exact h)
      · rw [nI_leI (by omega) (by omega)] at h89
        refine aw_iload dX11_ash_92 rfl ?_
        refine aw_goto (tgt := 99) dX11_ash_94 rfl ?_
        refine aw_istore (lo' := [_,_,_,_,_,_,_]) dX11_ash_99 (Nat.le_of_ble_eq_true rfl) rfl ?_
        refine aw_iinc (v := _) (lo' := [_,_,_,_,_,_,_]) dX11_ash_101 rfl (nI_1 i) rfl ?_
        refine aw_goto (tgt := 27) dX11_ash_104 rfl ?_
        first
          | exact absurd h75 h89
          | exact absurd h89 h75
          | (have h := ih (i + 1) kv (some (.int (nI (fAsh s (lg m) u i)))) (by omega) (fun b hb => by rw [k2 b hb, a2 b hb]; exact hcq b hb)
             rw [(bst_ge (by omega) h75).1, (bst_ge (by omega) h75).2] at h
             exact h)
          | (have h := ih (i + 1) kv (some (.int (nI (fAsh s (lg m) u i)))) (by omega) (fun b hb => by rw [k2 b hb, a2 b hb]; exact hcq b hb)
             rw [(bst_lt (Nat.not_le.mp h75)).1, (bst_lt (Nat.not_le.mp h75)).2] at h
             exact h)
    · rw [nI_leI (by omega) (by omega)] at h75
      refine aw_iload dX11_ash_78 rfl ?_
      refine aw_goto (tgt := 84) dX11_ash_80 rfl ?_
      refine aw_istore_n (lo' := [_,_,_,_,_,_,_]) dX11_ash_84 (Nat.le_of_ble_eq_true rfl) rfl ?_
      refine aw_iload dX11_ash_85 rfl ?_
      refine aw_iload dX11_ash_87 rfl ?_
      refine aw_icmp_ge (tgt := 97) dX11_ash_89 rfl (fun h89 => ?_) (fun h89 => ?_)
      · rw [nI_leI (by omega) (by omega)] at h89
        refine aw_iload dX11_ash_97 rfl ?_
        refine aw_istore (lo' := [_,_,_,_,_,_,_]) dX11_ash_99 (Nat.le_of_ble_eq_true rfl) rfl ?_
        refine aw_iinc (v := _) (lo' := [_,_,_,_,_,_,_]) dX11_ash_101 rfl (nI_1 i) rfl ?_
        refine aw_goto (tgt := 27) dX11_ash_104 rfl ?_
        first
          | exact absurd h75 h89
          | exact absurd h89 h75
          | (have h := ih (i + 1) kv (some (.int (nI (fAsh s (lg m) u i)))) (by omega) (fun b hb => by rw [k2 b hb, a2 b hb]; exact hcq b hb)
             rw [(bst_ge (by omega) h75).1, (bst_ge (by omega) h75).2] at h
             exact h)
          | (have h := ih (i + 1) kv (some (.int (nI (fAsh s (lg m) u i)))) (by omega) (fun b hb => by rw [k2 b hb, a2 b hb]; exact hcq b hb)
             rw [(bst_lt (Nat.not_le.mp h75)).1, (bst_lt (Nat.not_le.mp h75)).2] at h
             exact h)
      · rw [nI_leI (by omega) (by omega)] at h89
        refine aw_iload dX11_ash_92 rfl ?_
        refine aw_goto (tgt := 99) dX11_ash_94 rfl ?_
        refine aw_istore (lo' := [_,_,_,_,_,_,_]) dX11_ash_99 (Nat.le_of_ble_eq_true rfl) rfl ?_
        refine aw_iinc (v := _) (lo' := [_,_,_,_,_,_,_]) dX11_ash_101 rfl (nI_1 i) rfl ?_
        refine aw_goto (tgt := 27) dX11_ash_104 rfl ?_
        first
          | exact absurd h75 h89
          | exact absurd h89 h75
          | (have h := ih (i + 1) kv (some (.int (nI (fAsh s (lg m) u i)))) (by omega) (fun b hb => by rw [k2 b hb, a2 b hb]; exact hcq b hb)
             rw [(bst_ge (by omega) h75).1, (bst_ge (by omega) h75).2] at h
             exact h)
          | (have h := ih (i + 1) kv (some (.int (nI (fAsh s (lg m) u i)))) (by omega) (fun b hb => by rw [k2 b hb, a2 b hb]; exact hcq b hb)
             rw [(bst_lt (Nat.not_le.mp h75)).1, (bst_lt (Nat.not_le.mp h75)).2] at h
             exact h)
theorem m_ash {G : GC} {E : SH} {iv : IV} {lv : LV} {M : Nat} (hM : MS G E M) {A : AA} {D : DD} {T : FT} (hA : MA M A iv lv) (hD : MD M D iv) (hT : MT M T iv) (hW : WT T) (n : Int32) : SpI G mX11_ash 7 [.ref M, .int n] E iv lv (QD M iv lv (oAsh A D T n)) := by
  obtain ⟨s, ⟨m, lg⟩, kp⟩ := T
  have hs : WS s := hW.1.1
  have hs7 : s.1 ≤ 7 := hs.1
  have hw : WV s (lg m) := nowW hW
  have hd : lg m 0 ≤ 40 := nowD hW
  have hr : SR M s iv := hT.1
  have hv : VR (M + 12) (lg m) iv := hT.2.2.1
  have h20 : iv M 20 = nI m := hT.2.1
  have hm : m ≤ 40 := hW.1.2.1
  refine spec0_of (lo := [_,_,_,_,_,_,_]) (by decide) (Nat.le_of_ble_eq_true rfl) rfl ?_
  refine aw_aload_n dX11_ash_0 rfl ?_
  refine aw_iload_n dX11_ash_1 rfl ?_
  refine aw_iconst (v := nI 1) dX11_ash_2 kc_1 ?_
  refine aw_bipush (v := nI 40) dX11_ash_3 kb_40 ?_
  refine aw_xSi [_, _, _] dX11_ash_5 csX11_76 (m_in n (nI 1) (nI 40)) rfl rfl (Nat.le_of_ble_eq_true rfl) (rb0 (by decide)) ?_
  refine aw_xVi [_] dX11_ash_8 cvX11_195 (MS.s0 hM) (m_need hM hr.1 hs7 (nI 1 ≤ n ∧ n ≤ nI 40)) rfl rfl (Nat.le_of_ble_eq_true rfl) (rb0 (by decide)) ?_
  refine aw_istore_n (lo' := [_,_,_,_,_,_,_]) dX11_ash_11 (Nat.le_of_ble_eq_true rfl) rfl ?_
  refine aw_iload_n dX11_ash_12 rfl ?_
  refine aw_if_ge (tgt := 18) dX11_ash_13 rfl (fun h13 => ?_) (fun h13 => ?_)
  · obtain ⟨hc, hnp⟩ := nd_ge h13
    obtain ⟨u, hu1, hu, rfl⟩ := ix_1 (n := n) (k := 40) (Int32.not_lt.mpr hc.1) (Int32.not_lt.mpr hc.2) (by decide)
    refine aw_iconst (v := nI 0) dX11_ash_18 kc_0 ?_
    refine aw_istore_n (lo' := [_,_,_,_,_,_,_]) dX11_ash_19 (Nat.le_of_ble_eq_true rfl) rfl ?_
    refine aw_ldc dX11_ash_20 kiX11_205 ?_
    refine aw_istore (lo' := [_,_,_,_,_,_,_]) dX11_ash_22 (Nat.le_of_ble_eq_true rfl) rfl ?_
    refine aw_iconst (v := nI 0) dX11_ash_24 kc_0 ?_
    refine aw_istore (lo' := [_,_,_,_,_,_,_]) dX11_ash_25 (Nat.le_of_ble_eq_true rfl) rfl ?_
    exact lo_mash hM hA hD hT hW hnp hu1 hu 10 0 iv none (by omega) (fun _ _ => rfl)
  · refine aw_iload_n dX11_ash_16 rfl ?_
    refine aw_iret dX11_ash_17 rfl (rb0 (Nat.zero_le _)) ⟨rfl, _, rfl, ?_⟩
    rcases nd_no h13 with ⟨hc, e⟩ | ⟨hc, hz, e⟩
    · rw [e]
      refine QD_no hA hD hT ?_
      refine if_pos ?_
      by_cases q : n < nI 1
      · exact Or.inl q
      · exact Or.inr (Int32.not_le.mp (fun q2 => hc ⟨Int32.not_lt.mp q, q2⟩))
    · rw [e]
      refine QD_no hA hD hT ?_
      dsimp only [oAsh, nowT]
      rw [if_neg (fun q => q.elim (fun q => absurd hc.1 (Int32.not_le.mpr q)) (fun q => absurd hc.2 (Int32.not_le.mpr q))), if_pos hz]
theorem lo_mbest {G : GC} {E : SH} {iv : IV} {lv : LV} {M : Nat} (hM : MS G E M) {A : AA} {D : DD} {s : TS} {m : Nat} {lg : Nat → TV} {kp : Nat → Option KL} (hA : MA M A iv lv) (hD : MD M D iv) (hT : MT M (s, (m, lg), kp) iv) (hW : WT (s, (m, lg), kp)) (hnp : s.1 ≠ 0) {u : Nat} (hu1 : 1 ≤ u) (hu : u ≤ 40) {y2 : Int32} : ∀ (c i : Nat) (jv : IV) (j6 : Option Value), i + c = 5 * s.1 → (∀ b, b ≠ M + 13 → jv b = iv b) → AW G mX11_best (rm 7 0) (Z0 G 7 E (fun r i0 l => ∃ w, r = some (.int w) ∧ QD M iv lv (oBest A D (s, (m, lg), kp) (nI u)) w i0 l)) (fun _ => True) E.1 35 [some (.ref M), some (.int (nI u)), some (.int y2), some (.int (nI (mvb (fMv s (lg m) u) (gd s (lg m) u) i).2)), some (.int (mvI (mvb (fMv s (lg m) u) (gd s (lg m) u) i).1)), some (.int (nI i)), j6] [] E jv lv := by
  have hs : WS s := hW.1.1
  have hs7 : s.1 ≤ 7 := hs.1
  have hw : WV s (lg m) := nowW hW
  have hd : lg m 0 ≤ 40 := nowD hW
  have hr : SR M s iv := hT.1
  have hv : VR (M + 12) (lg m) iv := hT.2.2.1
  have h20 : iv M 20 = nI m := hT.2.1
  have hm : m ≤ 40 := hW.1.2.1
  have hg0 : gd s (lg m) u ≤ 63 := gd_le hs hw (by omega)
  have hmd : ∀ j, j < 5 * s.1 → mvv (lg m) j 0 = lg m 0 := fun j _ => va_up_n (by omega)
  have hfb : ∀ j, j < 5 * s.1 → fMv s (lg m) u j ≤ 63 := fun j hj => gd_le hs (WV_mvv hs7 hw hj) (by rw [hmd j hj]; omega)
  intro c
  induction c with
  | zero =>
    intro i jv j6 hi hf
    have hi : i = 5 * s.1 := by omega
    subst hi
    have h14 : jv M 14 = nI s.1 := by rw [hf M (by omega)]; exact hr.1
    have hlt := fun j => mvb_lt (g := fMv s (lg m) u) (l0 := gd s (lg m) u) (5 * s.1) j
    refine aw_iload dX11_best_35 rfl ?_
    refine aw_iconst (v := nI 5) dX11_best_37 kc_5 ?_
    refine aw_aload_n dX11_best_38 rfl ?_
    refine aw_getI dX11_best_39 fgX11_126 rfl (MS.s0 hM) ?_
    rw [h14]
    refine aw_imul dX11_best_42 ?_
    rw [pk_mul]
    refine aw_icmp_ge (tgt := 117) dX11_best_43 rfl (fun h43 => ?_) (fun h43 => absurd (nI_le (Nat.le_refl _) (by omega)) h43)
    refine aw_iload dX11_best_117 rfl ?_
    refine aw_bipush (v := (-9)) dX11_best_119 kb_m9 ?_
    refine aw_icmp_ne (tgt := 129) dX11_best_121 rfl (fun h121 => ?_) (fun h121 => ?_)
    · have hw2 : (mvb (fMv s (lg m) u) (gd s (lg m) u) (5 * s.1)).1 ≠ none := fun q => h121 ((mvI_9 (fun j hj => by have := hlt j hj; omega)).mpr q)
      refine aw_aload_n dX11_best_129 rfl ?_
      refine aw_iload_n dX11_best_130 rfl ?_
      refine aw_iload dX11_best_131 rfl ?_
      refine aw_xVi [_, _] dX11_best_133 cvX11_92 (MS.s0 hM) (m_tells hM _ _) rfl rfl (Nat.le_of_ble_eq_true rfl) (rb0 (by decide)) ?_
      refine aw_iret dX11_best_136 rfl (rb0 (Nat.zero_le _)) ⟨rfl, _, rfl, ?_⟩
      cases hq : (mvb (fMv s (lg m) u) (gd s (lg m) u) (5 * s.1)).1 with
      | none =>
        first
          | exact absurd hq hw2
          | (refine QD_out hA hD hT (fun b hb _ => hf b hb) ?_
             dsimp only [oBest, nowT]
             rw [if_neg (fun q => q.elim (fun q => absurd q (nI_nlt hu1 (by omega))) (fun q => absurd q (nI_nlt hu (by omega)))), if_neg hnp, ix_nI (by omega), hq])
      | some j =>
        first
          | (rw [hw2] at hq; cases hq; done)
          | (refine QD_tel hA hD hT (fun b hb _ => hf b hb) ?_
             dsimp only [oBest, nowT]
             rw [if_neg (fun q => q.elim (fun q => absurd q (nI_nlt hu1 (by omega))) (fun q => absurd q (nI_nlt hu (by omega)))), if_neg hnp, ix_nI (by omega), hq]
             rfl)
    · have hw2 : (mvb (fMv s (lg m) u) (gd s (lg m) u) (5 * s.1)).1 = none := (mvI_9 (fun j hj => by have := hlt j hj; omega)).mp h121
      refine aw_bipush (v := (-9)) dX11_best_124 kb_m9 ?_
      refine aw_goto (tgt := 136) dX11_best_126 rfl ?_
      refine aw_iret dX11_best_136 rfl (rb0 (Nat.zero_le _)) ⟨rfl, _, rfl, ?_⟩
      cases hq : (mvb (fMv s (lg m) u) (gd s (lg m) u) (5 * s.1)).1 with
      | none =>
        first
          | exact absurd hq hw2
          | (refine QD_out hA hD hT (fun b hb _ => hf b hb) ?_
             dsimp only [oBest, nowT]
             rw [if_neg (fun q => q.elim (fun q => absurd q (nI_nlt hu1 (by omega))) (fun q => absurd q (nI_nlt hu (by omega)))), if_neg hnp, ix_nI (by omega), hq])
      | some j =>
        first
          | (rw [hw2] at hq; cases hq; done)
          | (refine QD_tel hA hD hT (fun b hb _ => hf b hb) ?_
             dsimp only [oBest, nowT]
             rw [if_neg (fun q => q.elim (fun q => absurd q (nI_nlt hu1 (by omega))) (fun q => absurd q (nI_nlt hu (by omega)))), if_neg hnp, ix_nI (by omega), hq]
             rfl)
  | succ c ih =>
    intro i jv j6 hi hf
    have h14 : jv M 14 = nI s.1 := by rw [hf M (by omega)]; exact hr.1
    have hfi := hfb i (by omega)
    have hL : (mvb (fMv s (lg m) u) (gd s (lg m) u) i).2 ≤ 63 := mvb_le hg0 i (fun j hj => hfb j (by omega))
    refine aw_iload dX11_best_35 rfl ?_
    refine aw_iconst (v := nI 5) dX11_best_37 kc_5 ?_
    refine aw_aload_n dX11_best_38 rfl ?_
    refine aw_getI dX11_best_39 fgX11_126 rfl (MS.s0 hM) ?_
    rw [h14]
    refine aw_imul dX11_best_42 ?_
    rw [pk_mul]
    refine aw_icmp_ge (tgt := 117) dX11_best_43 rfl (fun h43 => absurd h43 (nI_ge (by omega) (by omega))) (fun h43 => ?_)
    refine aw_aload_n dX11_best_46 rfl ?_
    refine aw_xVv [] dX11_best_47 cvX11_189 (MS.s0 hM) (m_copyNow hM) rfl rfl (Nat.le_of_ble_eq_true rfl) (rb0 (by decide)) ?_
    have hc13 : VR (M + 13) (lg m) (va_up jv (M + 13) (va_cpy (jv (M + 12)) (jv (M + 13)) 0 0 20)) := VR_copy (fun q hq => by rw [hf _ (by omega)]; exact hv q hq)
    have hcq : ∀ b, b ≠ M + 13 → va_up jv (M + 13) (va_cpy (jv (M + 12)) (jv (M + 13)) 0 0 20) b = iv b := fun b hb => by rw [va_up_n hb]; exact hf b hb
    generalize va_up jv (M + 13) (va_cpy (jv (M + 12)) (jv (M + 13)) 0 0 20) = civ at hc13 hcq ⊢
    have hcr : SR M s civ := SR_f (by rw [hcq M (by omega)]) (hcq _ (by omega)) (hcq _ (by omega)) (hcq _ (by omega)) hr
    refine aw_aload_n dX11_best_50 rfl ?_
    refine aw_getR dX11_best_51 fgX11_51 rfl (MS.s0 hM) (MS.r0_19 hM) ?_
    refine aw_bipush (v := nI 13) dX11_best_54 kb_13 ?_
    refine aw_iload dX11_best_56 rfl ?_
    refine aw_iconst (v := nI 5) dX11_best_58 kc_5 ?_
    refine aw_idiv dX11_best_59 (by decide) ?_
    rw [pk_div (by omega) (by decide) (by decide)]
    refine aw_iadd dX11_best_60 ?_
    rw [nI_add]
    refine aw_iload dX11_best_61 rfl ?_
    refine aw_iconst (v := nI 5) dX11_best_63 kc_5 ?_
    refine aw_irem dX11_best_64 (by decide) ?_
    rw [pk_rem (by omega) (by decide) (by decide)]
    refine aw_iastore dX11_best_65 (MS.s13 hM) rfl (by omega) ?_
    have a1 : VR (M + 13) (mvv (lg m) i) (va_up civ (M + 13) (upd (civ (M + 13)) (13 + i / 5) (nI (i % 5)))) := VR_up hc13 (by unfold mvv; rw [va_up_s]) (fun q hq hn => va_up_n hn)
    have a2 : ∀ b, b ≠ M + 13 → va_up civ (M + 13) (upd (civ (M + 13)) (13 + i / 5) (nI (i % 5))) b = civ b := fun b hb => va_up_n hb
    generalize va_up civ (M + 13) (upd (civ (M + 13)) (13 + i / 5) (nI (i % 5))) = iA at a1 a2 ⊢
    have hAr : SR M s iA := SR_f (by rw [a2 M (by omega)]) (a2 _ (by omega)) (a2 _ (by omega)) (a2 _ (by omega)) hcr
    refine aw_aload_n dX11_best_66 rfl ?_
    refine aw_iload_n dX11_best_67 rfl ?_
    refine aw_sVi [_] dX11_best_68 cvX11_192 (MS.s0 hM) (m_allBehind hM hs hAr a1 (WV_mvv hs7 hw (by omega)) (n := u) (by rw [hmd i (by omega)]; omega)) rfl rfl (Nat.le_of_ble_eq_true rfl) (rb0 (by decide)) (fun kw kv klv hk => ?_)
    obtain ⟨k0, k1, k2, rfl⟩ := hk
    subst k0
    rw [show tot s (passN s (mvv (lg m) i) u) = fMv s (lg m) u i from rfl]
    refine aw_istore (lo' := [_,_,_,_,_,_,_]) dX11_best_71 (Nat.le_of_ble_eq_true rfl) rfl ?_
    refine aw_iload dX11_best_73 rfl ?_
    refine aw_iload_n dX11_best_75 rfl ?_
    refine aw_icmp_ge (tgt := 94) dX11_best_76 rfl (fun h76 => ?_) (fun h76 => ?_)
    · rw [nI_leI (by omega) (by omega)] at h76
      refine aw_iload dX11_best_94 rfl ?_
      refine aw_istore (lo' := [_,_,_,_,_,_,_]) dX11_best_96 (Nat.le_of_ble_eq_true rfl) rfl ?_
      refine aw_iload dX11_best_98 rfl ?_
      refine aw_iload_n dX11_best_100 rfl ?_
      refine aw_icmp_ge (tgt := 109) dX11_best_101 rfl (fun h101 => ?_) (fun h101 => ?_)
      · rw [nI_leI (by omega) (by omega)] at h101
        refine aw_iload_n dX11_best_109 rfl ?_
        refine aw_istore_n (lo' := [_,_,_,_,_,_,_]) dX11_best_110 (Nat.le_of_ble_eq_true rfl) rfl ?_
        refine aw_iinc (v := _) (lo' := [_,_,_,_,_,_,_]) dX11_best_111 rfl (nI_1 i) rfl ?_
        refine aw_goto (tgt := 35) dX11_best_114 rfl ?_
        first
          | exact absurd h76 h101
          | exact absurd h101 h76
          | (have h := ih (i + 1) kv (some (.int (nI (fMv s (lg m) u i)))) (by omega) (fun b hb => by rw [k2 b hb, a2 b hb]; exact hcq b hb)
             rw [show mvb (fMv s (lg m) u) (gd s (lg m) u) (i + 1) = mvb (fMv s (lg m) u) (gd s (lg m) u) i from if_neg (by omega)] at h
             exact h)
          | (have h := ih (i + 1) kv (some (.int (nI (fMv s (lg m) u i)))) (by omega) (fun b hb => by rw [k2 b hb, a2 b hb]; exact hcq b hb)
             rw [show mvb (fMv s (lg m) u) (gd s (lg m) u) (i + 1) = (some i, fMv s (lg m) u i) from if_pos (by omega)] at h
             exact h)
      · rw [nI_leI (by omega) (by omega)] at h101
        refine aw_iload dX11_best_104 rfl ?_
        refine aw_goto (tgt := 110) dX11_best_106 rfl ?_
        refine aw_istore_n (lo' := [_,_,_,_,_,_,_]) dX11_best_110 (Nat.le_of_ble_eq_true rfl) rfl ?_
        refine aw_iinc (v := _) (lo' := [_,_,_,_,_,_,_]) dX11_best_111 rfl (nI_1 i) rfl ?_
        refine aw_goto (tgt := 35) dX11_best_114 rfl ?_
        first
          | exact absurd h76 h101
          | exact absurd h101 h76
          | (have h := ih (i + 1) kv (some (.int (nI (fMv s (lg m) u i)))) (by omega) (fun b hb => by rw [k2 b hb, a2 b hb]; exact hcq b hb)
             rw [show mvb (fMv s (lg m) u) (gd s (lg m) u) (i + 1) = mvb (fMv s (lg m) u) (gd s (lg m) u) i from if_neg (by omega)] at h
             exact h)
          | (have h := ih (i + 1) kv (some (.int (nI (fMv s (lg m) u i)))) (by omega) (fun b hb => by rw [k2 b hb, a2 b hb]; exact hcq b hb)
             rw [show mvb (fMv s (lg m) u) (gd s (lg m) u) (i + 1) = (some i, fMv s (lg m) u i) from if_pos (by omega)] at h
             exact h)
    · rw [nI_leI (by omega) (by omega)] at h76
      refine aw_bipush (v := nI 10) dX11_best_79 kb_10 ?_
      refine aw_iload dX11_best_81 rfl ?_
      refine aw_iconst (v := nI 5) dX11_best_83 kc_5 ?_
      refine aw_idiv dX11_best_84 (by decide) ?_
      rw [pk_div (by omega) (by decide) (by decide)]
      refine aw_imul dX11_best_85 ?_
      rw [pk_mul]
      refine aw_iload dX11_best_86 rfl ?_
      refine aw_iconst (v := nI 5) dX11_best_88 kc_5 ?_
      refine aw_irem dX11_best_89 (by decide) ?_
      rw [pk_rem (by omega) (by decide) (by decide)]
      refine aw_iadd dX11_best_90 ?_
      rw [nI_add]
      refine aw_goto (tgt := 96) dX11_best_91 rfl ?_
      refine aw_istore (lo' := [_,_,_,_,_,_,_]) dX11_best_96 (Nat.le_of_ble_eq_true rfl) rfl ?_
      refine aw_iload dX11_best_98 rfl ?_
      refine aw_iload_n dX11_best_100 rfl ?_
      refine aw_icmp_ge (tgt := 109) dX11_best_101 rfl (fun h101 => ?_) (fun h101 => ?_)
      · rw [nI_leI (by omega) (by omega)] at h101
        refine aw_iload_n dX11_best_109 rfl ?_
        refine aw_istore_n (lo' := [_,_,_,_,_,_,_]) dX11_best_110 (Nat.le_of_ble_eq_true rfl) rfl ?_
        refine aw_iinc (v := _) (lo' := [_,_,_,_,_,_,_]) dX11_best_111 rfl (nI_1 i) rfl ?_
        refine aw_goto (tgt := 35) dX11_best_114 rfl ?_
        first
          | exact absurd h76 h101
          | exact absurd h101 h76
          | (have h := ih (i + 1) kv (some (.int (nI (fMv s (lg m) u i)))) (by omega) (fun b hb => by rw [k2 b hb, a2 b hb]; exact hcq b hb)
             rw [show mvb (fMv s (lg m) u) (gd s (lg m) u) (i + 1) = mvb (fMv s (lg m) u) (gd s (lg m) u) i from if_neg (by omega)] at h
             exact h)
          | (have h := ih (i + 1) kv (some (.int (nI (fMv s (lg m) u i)))) (by omega) (fun b hb => by rw [k2 b hb, a2 b hb]; exact hcq b hb)
             rw [show mvb (fMv s (lg m) u) (gd s (lg m) u) (i + 1) = (some i, fMv s (lg m) u i) from if_pos (by omega)] at h
             exact h)
      · rw [nI_leI (by omega) (by omega)] at h101
        refine aw_iload dX11_best_104 rfl ?_
        refine aw_goto (tgt := 110) dX11_best_106 rfl ?_
        refine aw_istore_n (lo' := [_,_,_,_,_,_,_]) dX11_best_110 (Nat.le_of_ble_eq_true rfl) rfl ?_
        refine aw_iinc (v := _) (lo' := [_,_,_,_,_,_,_]) dX11_best_111 rfl (nI_1 i) rfl ?_
        refine aw_goto (tgt := 35) dX11_best_114 rfl ?_
        first
          | exact absurd h76 h101
          | exact absurd h101 h76
          | (have h := ih (i + 1) kv (some (.int (nI (fMv s (lg m) u i)))) (by omega) (fun b hb => by rw [k2 b hb, a2 b hb]; exact hcq b hb)
             rw [show mvb (fMv s (lg m) u) (gd s (lg m) u) (i + 1) = mvb (fMv s (lg m) u) (gd s (lg m) u) i from if_neg (by omega)] at h
             exact h)
          | (have h := ih (i + 1) kv (some (.int (nI (fMv s (lg m) u i)))) (by omega) (fun b hb => by rw [k2 b hb, a2 b hb]; exact hcq b hb)
             rw [show mvb (fMv s (lg m) u) (gd s (lg m) u) (i + 1) = (some i, fMv s (lg m) u i) from if_pos (by omega)] at h
             exact h)
theorem m_best {G : GC} {E : SH} {iv : IV} {lv : LV} {M : Nat} (hM : MS G E M) {A : AA} {D : DD} {T : FT} (hA : MA M A iv lv) (hD : MD M D iv) (hT : MT M T iv) (hW : WT T) (n : Int32) : SpI G mX11_best 7 [.ref M, .int n] E iv lv (QD M iv lv (oBest A D T n)) := by
  obtain ⟨s, ⟨m, lg⟩, kp⟩ := T
  have hs : WS s := hW.1.1
  have hs7 : s.1 ≤ 7 := hs.1
  have hw : WV s (lg m) := nowW hW
  have hd : lg m 0 ≤ 40 := nowD hW
  have hr : SR M s iv := hT.1
  have hv : VR (M + 12) (lg m) iv := hT.2.2.1
  have h20 : iv M 20 = nI m := hT.2.1
  have hm : m ≤ 40 := hW.1.2.1
  refine spec0_of (lo := [_,_,_,_,_,_,_]) (by decide) (Nat.le_of_ble_eq_true rfl) rfl ?_
  refine aw_aload_n dX11_best_0 rfl ?_
  refine aw_iload_n dX11_best_1 rfl ?_
  refine aw_iconst (v := nI 1) dX11_best_2 kc_1 ?_
  refine aw_bipush (v := nI 40) dX11_best_3 kb_40 ?_
  refine aw_xSi [_, _, _] dX11_best_5 csX11_76 (m_in n (nI 1) (nI 40)) rfl rfl (Nat.le_of_ble_eq_true rfl) (rb0 (by decide)) ?_
  refine aw_xVi [_] dX11_best_8 cvX11_195 (MS.s0 hM) (m_need hM hr.1 hs7 (nI 1 ≤ n ∧ n ≤ nI 40)) rfl rfl (Nat.le_of_ble_eq_true rfl) (rb0 (by decide)) ?_
  refine aw_istore_n (lo' := [_,_,_,_,_,_,_]) dX11_best_11 (Nat.le_of_ble_eq_true rfl) rfl ?_
  refine aw_iload_n dX11_best_12 rfl ?_
  refine aw_if_ge (tgt := 18) dX11_best_13 rfl (fun h13 => ?_) (fun h13 => ?_)
  · obtain ⟨hc, hnp⟩ := nd_ge h13
    obtain ⟨u, hu1, hu, rfl⟩ := ix_1 (n := n) (k := 40) (Int32.not_lt.mpr hc.1) (Int32.not_lt.mpr hc.2) (by decide)
    refine aw_aload_n dX11_best_18 rfl ?_
    refine aw_xVv [] dX11_best_19 cvX11_189 (MS.s0 hM) (m_copyNow hM) rfl rfl (Nat.le_of_ble_eq_true rfl) (rb0 (by decide)) ?_
    have hc13 : VR (M + 13) (lg m) (va_up iv (M + 13) (va_cpy (iv (M + 12)) (iv (M + 13)) 0 0 20)) := VR_copy hv
    have hcq : ∀ b, b ≠ M + 13 → va_up iv (M + 13) (va_cpy (iv (M + 12)) (iv (M + 13)) 0 0 20) b = iv b := fun b hb => va_up_n hb
    generalize va_up iv (M + 13) (va_cpy (iv (M + 12)) (iv (M + 13)) 0 0 20) = civ at hc13 hcq ⊢
    have hcr : SR M s civ := SR_f (by rw [hcq M (by omega)]) (hcq _ (by omega)) (hcq _ (by omega)) (hcq _ (by omega)) hr
    refine aw_aload_n dX11_best_22 rfl ?_
    refine aw_iload_n dX11_best_23 rfl ?_
    refine aw_sVi [_] dX11_best_24 cvX11_192 (MS.s0 hM) (m_allBehind hM hs hcr hc13 hw (n := u) (by omega)) rfl rfl (Nat.le_of_ble_eq_true rfl) (rb0 (by decide)) (fun kw kv klv hk => ?_)
    obtain ⟨k0, k1, k2, rfl⟩ := hk
    subst k0
    have hkq : ∀ b, b ≠ M + 13 → b ≠ M + 17 → kv b = iv b := fun b hb _ => by rw [k2 b hb]; exact hcq b hb
    refine aw_istore_n (lo' := [_,_,_,_,_,_,_]) dX11_best_27 (Nat.le_of_ble_eq_true rfl) rfl ?_
    refine aw_bipush (v := (-9)) dX11_best_28 kb_m9 ?_
    refine aw_istore (lo' := [_,_,_,_,_,_,_]) dX11_best_30 (Nat.le_of_ble_eq_true rfl) rfl ?_
    refine aw_iconst (v := nI 0) dX11_best_32 kc_0 ?_
    refine aw_istore (lo' := [_,_,_,_,_,_,_]) dX11_best_33 (Nat.le_of_ble_eq_true rfl) rfl ?_
    exact lo_mbest hM hA hD hT hW hnp hu1 hu (5 * s.1) 0 kv none (by omega) (fun b hb => by rw [k2 b hb]; exact hcq b hb)
  · refine aw_iload_n dX11_best_16 rfl ?_
    refine aw_iret dX11_best_17 rfl (rb0 (Nat.zero_le _)) ⟨rfl, _, rfl, ?_⟩
    rcases nd_no h13 with ⟨hc, e⟩ | ⟨hc, hz, e⟩
    · rw [e]
      refine QD_no hA hD hT ?_
      refine if_pos ?_
      by_cases q : n < nI 1
      · exact Or.inl q
      · exact Or.inr (Int32.not_le.mp (fun q2 => hc ⟨Int32.not_lt.mp q, q2⟩))
    · rw [e]
      refine QD_no hA hD hT ?_
      dsimp only [oBest, nowT]
      rw [if_neg (fun q => q.elim (fun q => absurd hc.1 (Int32.not_le.mpr q)) (fun q => absurd hc.2 (Int32.not_le.mpr q))), if_pos hz]
