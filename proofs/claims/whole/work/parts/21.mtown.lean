theorem mood_0 {s : TS} {v : TV} {i : Nat} (h : metB s v i = false) : mood s v i = 0 := by unfold mood; rw [h]; rfl
theorem mood_1 {s : TS} {v : TV} {i : Nat} (h : metB s v i = true) (h2 : forg s v i = true) : mood s v i = 1 := by unfold mood; rw [h, h2]; rfl
theorem mood_2 {s : TS} {v : TV} {i : Nat} (h : metB s v i = true) (h2 : forg s v i = false) : mood s v i = 2 := by unfold mood; rw [h, h2]; rfl
theorem m_seen {G : GC} {E : SH} {iv : IV} {lv : LV} {M : Nat} {s : TS} (hM : MS G E M) (hs : WS s) (hr : SR M s iv) {i : Nat} (hi : i < s.1) : ExI G mX11_seen 1 [.ref M, .int (nI i)] E iv lv (nI (seenN (s.2.1 i) (s.2.2.1 i))) iv lv := by
  have h7 := hs.1
  have h8 := hs.2 i hi
  refine spec0_of (lo := [_,_,_]) (by decide) (Nat.le_of_ble_eq_true rfl) rfl ?_
  refine aw_aload_n dX11_seen_0 rfl ?_
  refine aw_getR dX11_seen_1 fgX11_39 rfl (MS.s0 hM) (MS.r0_15 hM) ?_
  refine aw_iload_n dX11_seen_4 rfl ?_
  refine aw_iaload dX11_seen_5 (MS.s9 hM) rfl (by omega) ?_
  rw [(hr.2 i hi).1]
  refine aw_iconst (v := nI 3) dX11_seen_6 kc_3 ?_
  refine aw_icmp_ne (tgt := 21) dX11_seen_7 rfl (fun h7 => ?_) (fun h7 => ?_)
  · refine aw_aload_n dX11_seen_21 rfl ?_
    refine aw_getR dX11_seen_22 fgX11_42 rfl (MS.s0 hM) (MS.r0_16 hM) ?_
    refine aw_iload_n dX11_seen_25 rfl ?_
    refine aw_iaload dX11_seen_26 (MS.s10 hM) rfl (by omega) ?_
    rw [(hr.2 i hi).2.1]
    refine aw_istore_n (lo' := [_,_,_]) dX11_seen_27 (Nat.le_of_ble_eq_true rfl) rfl ?_
    refine aw_iload_n dX11_seen_28 rfl ?_
    refine aw_if_ge (tgt := 36) dX11_seen_29 rfl (fun h29 => ?_) (fun h29 => ?_)
    · refine aw_iload_n dX11_seen_36 rfl ?_
      refine aw_iret dX11_seen_37 rfl (rb0 (Nat.zero_le _)) ⟨rfl, _, rfl, ?_, rfl, rfl⟩
      clear hr
      unfold seenN
      split <;> simp (disch := omega) only [Int32.lt_iff_toInt_lt, Int32.le_iff_toInt_le, Int32.toInt_zero, nI_toInt, pk_sub_toInt, ← Int32.toInt_inj] at * <;> omega
    · refine aw_iconst (v := nI 0) dX11_seen_32 kc_0 ?_
      refine aw_goto (tgt := 37) dX11_seen_33 rfl ?_
      refine aw_iret dX11_seen_37 rfl (rb0 (Nat.zero_le _)) ⟨rfl, _, rfl, ?_, rfl, rfl⟩
      clear hr
      unfold seenN
      split <;> simp (disch := omega) only [Int32.lt_iff_toInt_lt, Int32.le_iff_toInt_le, Int32.toInt_zero, nI_toInt, pk_sub_toInt, ← Int32.toInt_inj] at * <;> omega
  · refine aw_aload_n dX11_seen_10 rfl ?_
    refine aw_getR dX11_seen_11 fgX11_42 rfl (MS.s0 hM) (MS.r0_16 hM) ?_
    refine aw_iload_n dX11_seen_14 rfl ?_
    refine aw_iaload dX11_seen_15 (MS.s10 hM) rfl (by omega) ?_
    rw [(hr.2 i hi).2.1]
    refine aw_iconst (v := nI 2) dX11_seen_16 kc_2 ?_
    refine aw_isub dX11_seen_17 ?_
    refine aw_goto (tgt := 27) dX11_seen_18 rfl ?_
    refine aw_istore_n (lo' := [_,_,_]) dX11_seen_27 (Nat.le_of_ble_eq_true rfl) rfl ?_
    refine aw_iload_n dX11_seen_28 rfl ?_
    refine aw_if_ge (tgt := 36) dX11_seen_29 rfl (fun h29 => ?_) (fun h29 => ?_)
    · refine aw_iload_n dX11_seen_36 rfl ?_
      refine aw_iret dX11_seen_37 rfl (rb0 (Nat.zero_le _)) ⟨rfl, _, rfl, ?_, rfl, rfl⟩
      clear hr
      unfold seenN
      split <;> simp (disch := omega) only [Int32.lt_iff_toInt_lt, Int32.le_iff_toInt_le, Int32.toInt_zero, nI_toInt, pk_sub_toInt, ← Int32.toInt_inj] at * <;> omega
    · refine aw_iconst (v := nI 0) dX11_seen_32 kc_0 ?_
      refine aw_goto (tgt := 37) dX11_seen_33 rfl ?_
      refine aw_iret dX11_seen_37 rfl (rb0 (Nat.zero_le _)) ⟨rfl, _, rfl, ?_, rfl, rfl⟩
      clear hr
      unfold seenN
      split <;> simp (disch := omega) only [Int32.lt_iff_toInt_lt, Int32.le_iff_toInt_le, Int32.toInt_zero, nI_toInt, pk_sub_toInt, ← Int32.toInt_inj] at * <;> omega
theorem m_isHid {G : GC} {E : SH} {iv : IV} {lv : LV} {M a : Nat} {s : TS} {v : TV} (hM : MS G E M) (hs : WS s) (hr : SR M s iv) (ha : Sh G E a 20 20) (hv : VR a v iv) (hw : WV s v) {i : Nat} (hi : i < s.1) : ExI G mX11_isHid 2 [.ref M, .ref a, .int (nI i)] E iv lv (zI (hid s v i)) iv lv := by
  have h7 := hs.1
  have h8 := hs.2 i hi
  have h9 := hw.1 i hi
  have h10 := hw.2.1 (v (13 + i)) (by omega)
  have h11 : seenN (s.2.1 i) (s.2.2.1 i) ≤ 9 := by unfold seenN; split <;> omega
  refine spec0_of (lo := [_,_,_]) (by decide) (Nat.le_of_ble_eq_true rfl) rfl ?_
  refine aw_aload_n dX11_isHid_0 rfl ?_
  refine aw_iload_n dX11_isHid_1 rfl ?_
  refine aw_xVi [_] dX11_isHid_2 cvX11_132 (MS.s0 hM) (m_seen hM hs hr hi) rfl rfl (Nat.le_of_ble_eq_true rfl) (rb0 (by decide)) ?_
  refine aw_aload_n dX11_isHid_5 rfl ?_
  refine aw_iconst (v := nI 1) dX11_isHid_6 kc_1 ?_
  refine aw_aload_n dX11_isHid_7 rfl ?_
  refine aw_bipush (v := nI 13) dX11_isHid_8 kb_13 ?_
  refine aw_iload_n dX11_isHid_10 rfl ?_
  refine aw_iadd dX11_isHid_11 ?_
  refine aw_iaload dX11_isHid_12 ha (show nI 13 + nI i = nI (13 + i) by rw [nI_add]) (by omega) ?_
  rw [hv (13 + i) (by omega)]
  refine aw_iadd dX11_isHid_13 ?_
  refine aw_iaload dX11_isHid_14 ha (show nI 1 + nI (v (13 + i)) = nI (1 + v (13 + i)) by rw [nI_add]) (by omega) ?_
  rw [hv (1 + v (13 + i)) (by omega)]
  refine aw_icmp_gt (tgt := 22) dX11_isHid_15 rfl (fun h15 => ?_) (fun h15 => ?_)
  · refine aw_iconst (v := nI 0) dX11_isHid_22 kc_0 ?_
    refine aw_zret dX11_isHid_23 rfl rfl (rb0 (Nat.zero_le _)) ⟨rfl, _, rfl, ?_, rfl, rfl⟩
    rw [nI_ltI (by omega) (by omega)] at h15
    rw [eq_comm]
    first | exact zI_f (by unfold hid; omega) | exact zI_t (by unfold hid; omega)
  · refine aw_iconst (v := nI 1) dX11_isHid_18 kc_1 ?_
    refine aw_goto (tgt := 23) dX11_isHid_19 rfl ?_
    refine aw_zret dX11_isHid_23 rfl rfl (rb0 (Nat.zero_le _)) ⟨rfl, _, rfl, ?_, rfl, rfl⟩
    rw [nI_ltI (by omega) (by omega)] at h15
    rw [eq_comm]
    first | exact zI_f (by unfold hid; omega) | exact zI_t (by unfold hid; omega)
def oI (q : Option Nat) : Int32 := match q with
  | none => -9
  | some k => nI k
theorem oI_if (c : Bool) (q : Option Nat) (k : Nat) : oI (if c then some k else q) = if c then nI k else oI q := by cases c <;> rfl
theorem jI_s {n e : Nat} (h : e < n) : nI (n - e) - nI 1 = nI (n - (e + 1)) := by rw [pk_sub (by omega)]; rfl
theorem jI_d {n e : Nat} : nI (n - (e + 1)) + Int32.ofInt (-1) = nI (n - (e + 1)) - nI 1 := by
  rw [Int32.sub_eq_add_neg]
  rfl
theorem oI_9 {q : Option Nat} (h : ∀ k, q = some k → k < 2 ^ 31) : oI q = -9 ↔ q = none := by
  cases q with
  | none => exact ⟨fun _ => rfl, fun _ => rfl⟩
  | some k =>
    refine ⟨fun e => ?_, fun e => by cases e⟩
    have h1 : (nI k).toInt = -9 := by rw [show nI k = -9 from e]; decide
    rw [nI_toInt (h k rfl)] at h1
    omega
theorem cntD_le {p : Nat → Bool} {n : Nat} : ∀ e, cntD p n e ≤ e
  | 0 => Nat.le_refl 0
  | e + 1 => by
    have h := cntD_le (p := p) (n := n) e
    rw [cntD]
    split <;> omega
theorem lm_nextTo {G : GC} {E : SH} {iv : IV} {lv : LV} {M a : Nat} {s : TS} {v : TV} (hM : MS G E M) (hs : WS s) (hr : SR M s iv) (ha : Sh G E a 20 20) (hv : VR a v iv) (hw : WV s v) {i : Nat} (hi : i < s.1) : ∀ (c e : Nat) (j7 : Option Value), e + c = s.1 → e ≤ s.1 → AW G mX11_nextTo (rm 1 0) (Z0 G 1 E (fun r i0 l => ∃ w, r = some (.int w) ∧ w = oI (nxt s v i) ∧ i0 = iv ∧ l = lv)) (fun _ => True) E.1 18 [some (.ref M), some (.ref a), some (.int (nI i)), some (.int (nI (cntD (psm v i) s.1 e))), some (.int (oI (lstD (psm v i) s.1 e))), some (.int (oI (lstD (pnx v i) s.1 e))), some (.int (nI (s.1 - e) - nI 1)), j7] [] E iv lv := by
  have h7 := hs.1
  have h9 := hw.1 i hi
  intro c
  induction c with
  | zero =>
    intro e j7 he _
    have he : e = s.1 := by omega
    subst he
    have q1 : ∀ k, lstD (pnx v i) s.1 s.1 = some k → k < 2 ^ 31 := fun k hk => by have := (lstD_some (Nat.le_refl _) hk).2.2.1; omega
    have q2 : cntD (psm v i) s.1 s.1 ≤ s.1 := cntD_le s.1
    refine aw_iload dX11_nextTo_18 rfl ?_
    refine aw_if_lt (tgt := 99) dX11_nextTo_20 rfl (fun h20 => ?_) (fun h20 => absurd (by rw [Nat.sub_self]; decide) h20)
    refine aw_iload dX11_nextTo_99 rfl ?_
    refine aw_bipush (v := (-9)) dX11_nextTo_101 kb_m9 ?_
    refine aw_icmp_eq (tgt := 111) dX11_nextTo_103 rfl (fun h103 => ?_) (fun h103 => ?_)
    · rw [oI_9 q1] at h103
      refine aw_iload_n dX11_nextTo_111 rfl ?_
      refine aw_iconst (v := nI 2) dX11_nextTo_112 kc_2 ?_
      refine aw_icmp_le (tgt := 121) dX11_nextTo_113 rfl (fun h113 => ?_) (fun h113 => ?_)
      · rw [nI_leI (by omega) (by omega)] at h113
        refine aw_bipush (v := (-9)) dX11_nextTo_121 kb_m9 ?_
        refine aw_iret dX11_nextTo_123 rfl (rb0 (Nat.zero_le _)) ⟨rfl, _, rfl, ?_, rfl, rfl⟩
        unfold nxt
        first
          | (rw [h103]; simp only; rw [if_neg (by omega)]; rfl)
          | (rw [h103]; simp only; rw [if_pos (by omega)])
          | (cases hq : lstD (pnx v i) s.1 s.1 with
             | none => exact absurd hq h103
             | some q => rfl)
      · rw [nI_leI (by omega) (by omega)] at h113
        refine aw_iload dX11_nextTo_116 rfl ?_
        refine aw_goto (tgt := 123) dX11_nextTo_118 rfl ?_
        refine aw_iret dX11_nextTo_123 rfl (rb0 (Nat.zero_le _)) ⟨rfl, _, rfl, ?_, rfl, rfl⟩
        unfold nxt
        first
          | (rw [h103]; simp only; rw [if_neg (by omega)]; rfl)
          | (rw [h103]; simp only; rw [if_pos (by omega)])
          | (cases hq : lstD (pnx v i) s.1 s.1 with
             | none => exact absurd hq h103
             | some q => rfl)
    · rw [oI_9 q1] at h103
      refine aw_iload dX11_nextTo_106 rfl ?_
      refine aw_goto (tgt := 123) dX11_nextTo_108 rfl ?_
      refine aw_iret dX11_nextTo_123 rfl (rb0 (Nat.zero_le _)) ⟨rfl, _, rfl, ?_, rfl, rfl⟩
      unfold nxt
      first
        | (rw [h103]; simp only; rw [if_neg (by omega)]; rfl)
        | (rw [h103]; simp only; rw [if_pos (by omega)])
        | (cases hq : lstD (pnx v i) s.1 s.1 with
           | none => exact absurd hq h103
           | some q => rfl)
  | succ c ih =>
    intro e j7 he _
    rw [jI_s (by omega)]
    have h10 := hw.1 (s.1 - (e + 1)) (by omega)
    have q2 : cntD (psm v i) s.1 e ≤ s.1 := Nat.le_trans (cntD_le e) (by omega)
    refine aw_iload dX11_nextTo_18 rfl ?_
    refine aw_if_lt (tgt := 99) dX11_nextTo_20 rfl (fun h20 => absurd h20 (nI_pos (by omega))) (fun h20 => ?_)
    refine aw_aload_n dX11_nextTo_23 rfl ?_
    refine aw_bipush (v := nI 13) dX11_nextTo_24 kb_13 ?_
    refine aw_iload dX11_nextTo_26 rfl ?_
    refine aw_iadd dX11_nextTo_28 ?_
    refine aw_iaload dX11_nextTo_29 ha (show nI 13 + nI (s.1 - (e + 1)) = nI (13 + (s.1 - (e + 1))) by rw [nI_add]) (by omega) ?_
    rw [hv (13 + (s.1 - (e + 1))) (by omega)]
    refine aw_aload_n dX11_nextTo_30 rfl ?_
    refine aw_bipush (v := nI 13) dX11_nextTo_31 kb_13 ?_
    refine aw_iload_n dX11_nextTo_33 rfl ?_
    refine aw_iadd dX11_nextTo_34 ?_
    refine aw_iaload dX11_nextTo_35 ha (show nI 13 + nI i = nI (13 + i) by rw [nI_add]) (by omega) ?_
    rw [hv (13 + i) (by omega)]
    refine aw_icmp_ne (tgt := 43) dX11_nextTo_36 rfl (fun h36 => ?_) (fun h36 => ?_)
    · rw [nI_eq (by omega) (by omega)] at h36
      refine aw_iconst (v := nI 0) dX11_nextTo_43 kc_0 ?_
      refine aw_istore (lo' := [_,_,_,_,_,_,_,_]) dX11_nextTo_44 (Nat.le_of_ble_eq_true rfl) rfl ?_
      refine aw_iload_n dX11_nextTo_46 rfl ?_
      refine aw_iload dX11_nextTo_47 rfl ?_
      refine aw_if_eq (tgt := 56) dX11_nextTo_49 rfl (fun h49 => ?_) (fun h49 => absurd (by decide) h49)
      refine aw_iconst (v := nI 0) dX11_nextTo_56 kc_0 ?_
      refine aw_iadd dX11_nextTo_57 ?_
      refine aw_istore_n (lo' := [_,_,_,_,_,_,_,_]) dX11_nextTo_58 (Nat.le_of_ble_eq_true rfl) rfl ?_
      refine aw_iload dX11_nextTo_59 rfl ?_
      refine aw_if_eq (tgt := 69) dX11_nextTo_61 rfl (fun h61 => ?_) (fun h61 => absurd (by decide) h61)
      refine aw_iload dX11_nextTo_69 rfl ?_
      refine aw_istore (lo' := [_,_,_,_,_,_,_,_]) dX11_nextTo_71 (Nat.le_of_ble_eq_true rfl) rfl ?_
      refine aw_iload dX11_nextTo_73 rfl ?_
      refine aw_if_eq (tgt := 89) dX11_nextTo_75 rfl (fun h75 => ?_) (fun h75 => absurd (by decide) h75)
      refine aw_iload dX11_nextTo_89 rfl ?_
      refine aw_istore (lo' := [_,_,_,_,_,_,_,_]) dX11_nextTo_91 (Nat.le_of_ble_eq_true rfl) rfl ?_
      refine aw_iinc (v := _) (lo' := [_,_,_,_,_,_,_,_]) dX11_nextTo_93 rfl jI_d rfl ?_
      refine aw_goto (tgt := 18) dX11_nextTo_96 rfl ?_
      first
        | (have h := ih (e + 1) (some (.int (nI 0))) (by omega) (by omega)
           rw [lstD, lstD, cntD, oI_if, oI_if] at h
           rw [show psm v i (s.1 - (e + 1)) = false from decide_eq_false h36, show pnx v i (s.1 - (e + 1)) = false from decide_eq_false (fun q => h36 q.1)] at h
           rw [nI_add]
           exact h)
        | (have h := ih (e + 1) (some (.int (nI 1))) (by omega) (by omega)
           rw [lstD, lstD, cntD, oI_if, oI_if] at h
           rw [show psm v i (s.1 - (e + 1)) = true from decide_eq_true h36, show pnx v i (s.1 - (e + 1)) = false from decide_eq_false (fun q => absurd q.2 (by omega))] at h
           rw [nI_add]
           exact h)
        | (have h := ih (e + 1) (some (.int (nI 1))) (by omega) (by omega)
           rw [lstD, lstD, cntD, oI_if, oI_if] at h
           rw [show psm v i (s.1 - (e + 1)) = true from decide_eq_true h36, show pnx v i (s.1 - (e + 1)) = true from decide_eq_true ⟨h36, by omega⟩] at h
           rw [nI_add]
           exact h)
    · rw [nI_eq (by omega) (by omega)] at h36
      refine aw_iconst (v := nI 1) dX11_nextTo_39 kc_1 ?_
      refine aw_goto (tgt := 44) dX11_nextTo_40 rfl ?_
      refine aw_istore (lo' := [_,_,_,_,_,_,_,_]) dX11_nextTo_44 (Nat.le_of_ble_eq_true rfl) rfl ?_
      refine aw_iload_n dX11_nextTo_46 rfl ?_
      refine aw_iload dX11_nextTo_47 rfl ?_
      refine aw_if_eq (tgt := 56) dX11_nextTo_49 rfl (fun h49 => absurd h49 (by decide)) (fun h49 => ?_)
      refine aw_iconst (v := nI 1) dX11_nextTo_52 kc_1 ?_
      refine aw_goto (tgt := 57) dX11_nextTo_53 rfl ?_
      refine aw_iadd dX11_nextTo_57 ?_
      refine aw_istore_n (lo' := [_,_,_,_,_,_,_,_]) dX11_nextTo_58 (Nat.le_of_ble_eq_true rfl) rfl ?_
      refine aw_iload dX11_nextTo_59 rfl ?_
      refine aw_if_eq (tgt := 69) dX11_nextTo_61 rfl (fun h61 => absurd h61 (by decide)) (fun h61 => ?_)
      refine aw_iload dX11_nextTo_64 rfl ?_
      refine aw_goto (tgt := 71) dX11_nextTo_66 rfl ?_
      refine aw_istore (lo' := [_,_,_,_,_,_,_,_]) dX11_nextTo_71 (Nat.le_of_ble_eq_true rfl) rfl ?_
      refine aw_iload dX11_nextTo_73 rfl ?_
      refine aw_if_eq (tgt := 89) dX11_nextTo_75 rfl (fun h75 => absurd h75 (by decide)) (fun h75 => ?_)
      refine aw_iload dX11_nextTo_78 rfl ?_
      refine aw_iload_n dX11_nextTo_80 rfl ?_
      refine aw_icmp_le (tgt := 89) dX11_nextTo_81 rfl (fun h81 => ?_) (fun h81 => ?_)
      · rw [nI_leI (by omega) (by omega)] at h81
        refine aw_iload dX11_nextTo_89 rfl ?_
        refine aw_istore (lo' := [_,_,_,_,_,_,_,_]) dX11_nextTo_91 (Nat.le_of_ble_eq_true rfl) rfl ?_
        refine aw_iinc (v := _) (lo' := [_,_,_,_,_,_,_,_]) dX11_nextTo_93 rfl jI_d rfl ?_
        refine aw_goto (tgt := 18) dX11_nextTo_96 rfl ?_
        first
          | (have h := ih (e + 1) (some (.int (nI 0))) (by omega) (by omega)
             rw [lstD, lstD, cntD, oI_if, oI_if] at h
             rw [show psm v i (s.1 - (e + 1)) = false from decide_eq_false h36, show pnx v i (s.1 - (e + 1)) = false from decide_eq_false (fun q => h36 q.1)] at h
             rw [nI_add]
             exact h)
          | (have h := ih (e + 1) (some (.int (nI 1))) (by omega) (by omega)
             rw [lstD, lstD, cntD, oI_if, oI_if] at h
             rw [show psm v i (s.1 - (e + 1)) = true from decide_eq_true h36, show pnx v i (s.1 - (e + 1)) = false from decide_eq_false (fun q => absurd q.2 (by omega))] at h
             rw [nI_add]
             exact h)
          | (have h := ih (e + 1) (some (.int (nI 1))) (by omega) (by omega)
             rw [lstD, lstD, cntD, oI_if, oI_if] at h
             rw [show psm v i (s.1 - (e + 1)) = true from decide_eq_true h36, show pnx v i (s.1 - (e + 1)) = true from decide_eq_true ⟨h36, by omega⟩] at h
             rw [nI_add]
             exact h)
      · rw [nI_leI (by omega) (by omega)] at h81
        refine aw_iload dX11_nextTo_84 rfl ?_
        refine aw_goto (tgt := 91) dX11_nextTo_86 rfl ?_
        refine aw_istore (lo' := [_,_,_,_,_,_,_,_]) dX11_nextTo_91 (Nat.le_of_ble_eq_true rfl) rfl ?_
        refine aw_iinc (v := _) (lo' := [_,_,_,_,_,_,_,_]) dX11_nextTo_93 rfl jI_d rfl ?_
        refine aw_goto (tgt := 18) dX11_nextTo_96 rfl ?_
        first
          | (have h := ih (e + 1) (some (.int (nI 0))) (by omega) (by omega)
             rw [lstD, lstD, cntD, oI_if, oI_if] at h
             rw [show psm v i (s.1 - (e + 1)) = false from decide_eq_false h36, show pnx v i (s.1 - (e + 1)) = false from decide_eq_false (fun q => h36 q.1)] at h
             rw [nI_add]
             exact h)
          | (have h := ih (e + 1) (some (.int (nI 1))) (by omega) (by omega)
             rw [lstD, lstD, cntD, oI_if, oI_if] at h
             rw [show psm v i (s.1 - (e + 1)) = true from decide_eq_true h36, show pnx v i (s.1 - (e + 1)) = false from decide_eq_false (fun q => absurd q.2 (by omega))] at h
             rw [nI_add]
             exact h)
          | (have h := ih (e + 1) (some (.int (nI 1))) (by omega) (by omega)
             rw [lstD, lstD, cntD, oI_if, oI_if] at h
             rw [show psm v i (s.1 - (e + 1)) = true from decide_eq_true h36, show pnx v i (s.1 - (e + 1)) = true from decide_eq_true ⟨h36, by omega⟩] at h
             rw [nI_add]
             exact h)
theorem m_nextTo {G : GC} {E : SH} {iv : IV} {lv : LV} {M a : Nat} {s : TS} {v : TV} (hM : MS G E M) (hs : WS s) (hr : SR M s iv) (ha : Sh G E a 20 20) (hv : VR a v iv) (hw : WV s v) {i : Nat} (hi : i < s.1) : ExI G mX11_nextTo 1 [.ref M, .ref a, .int (nI i)] E iv lv (oI (nxt s v i)) iv lv := by
  refine spec0_of (lo := [_,_,_,_,_,_,_,_]) (by decide) (Nat.le_of_ble_eq_true rfl) rfl ?_
  refine aw_iconst (v := nI 0) dX11_nextTo_0 kc_0 ?_
  refine aw_istore_n (lo' := [_,_,_,_,_,_,_,_]) dX11_nextTo_1 (Nat.le_of_ble_eq_true rfl) rfl ?_
  refine aw_bipush (v := (-9)) dX11_nextTo_2 kb_m9 ?_
  refine aw_istore (lo' := [_,_,_,_,_,_,_,_]) dX11_nextTo_4 (Nat.le_of_ble_eq_true rfl) rfl ?_
  refine aw_bipush (v := (-9)) dX11_nextTo_6 kb_m9 ?_
  refine aw_istore (lo' := [_,_,_,_,_,_,_,_]) dX11_nextTo_8 (Nat.le_of_ble_eq_true rfl) rfl ?_
  refine aw_aload_n dX11_nextTo_10 rfl ?_
  refine aw_getI dX11_nextTo_11 fgX11_126 rfl (MS.s0 hM) ?_
  rw [hr.1]
  refine aw_iconst (v := nI 1) dX11_nextTo_14 kc_1 ?_
  refine aw_isub dX11_nextTo_15 ?_
  refine aw_istore (lo' := [_,_,_,_,_,_,_,_]) dX11_nextTo_16 (Nat.le_of_ble_eq_true rfl) rfl ?_
  exact lm_nextTo hM hs hr ha hv hw hi s.1 0 none (by omega) (by omega)
theorem m_isMet {G : GC} {E : SH} {iv : IV} {lv : LV} {M a : Nat} {s : TS} {v : TV} (hM : MS G E M) (hs : WS s) (hr : SR M s iv) (ha : Sh G E a 20 20) (hv : VR a v iv) (hw : WV s v) {i : Nat} (hi : i < s.1) : ExI G mX11_isMet 2 [.ref M, .ref a, .int (nI i)] E iv lv (zI (metB s v i = true)) iv lv := by
  have h7 := hs.1
  have h8 := hs.2 i hi
  have hq : ∀ i q, oI (nxt s v i) = nI q → q < s.1 → nxt s v i = some q := fun i q h hq => by
    cases e : nxt s v i with
    | none =>
      rw [e] at h
      have h1 : (nI q).toInt = -9 := by rw [← h]; decide
      rw [nI_toInt (by omega)] at h1
      omega
    | some p =>
      rw [e] at h
      have h2 := (nxt_st e).2
      rw [(nI_eq (by omega) (by omega)).mp h]
  have hm := met_nxt (v := v) hi h8.2.2
  rw [← metB_iff] at hm
  refine spec0_of (lo := [_,_,_,_]) (by decide) (Nat.le_of_ble_eq_true rfl) rfl ?_
  refine aw_aload_n dX11_isMet_0 rfl ?_
  refine aw_getR dX11_isMet_1 fgX11_45 rfl (MS.s0 hM) (MS.r0_17 hM) ?_
  refine aw_iload_n dX11_isMet_4 rfl ?_
  refine aw_iaload dX11_isMet_5 (MS.s11 hM) rfl (by omega) ?_
  rw [(hr.2 i hi).2.2]
  refine aw_istore_n (lo' := [_,_,_,_]) dX11_isMet_6 (Nat.le_of_ble_eq_true rfl) rfl ?_
  refine aw_iload_n dX11_isMet_7 rfl ?_
  refine aw_iload_n dX11_isMet_8 rfl ?_
  refine aw_icmp_eq (tgt := 36) dX11_isMet_9 rfl (fun h9 => ?_) (fun h9 => ?_)
  · rw [nI_eq (by omega) (by omega)] at h9
    refine aw_iconst (v := nI 0) dX11_isMet_36 kc_0 ?_
    refine aw_zret dX11_isMet_37 rfl rfl (rb0 (Nat.zero_le _)) ⟨rfl, _, rfl, ?_, rfl, rfl⟩
    rw [eq_comm]
    first
      | exact zI_f (fun q => (hm.mp q).1 h9)
      | exact zI_t (hm.mpr ⟨h9, Or.inl (hq _ _ h19 h8.2.2)⟩)
      | exact zI_t (hm.mpr ⟨h9, Or.inr (hq _ _ h29 hi)⟩)
      | exact zI_f (fun q => (hm.mp q).2.elim (fun e => h19 (by rw [e]; rfl)) (fun e => h29 (by rw [e]; rfl)))
  · rw [nI_eq (by omega) (by omega)] at h9
    refine aw_aload_n dX11_isMet_12 rfl ?_
    refine aw_aload_n dX11_isMet_13 rfl ?_
    refine aw_iload_n dX11_isMet_14 rfl ?_
    refine aw_xVi [_, _] dX11_isMet_15 cvX11_135 (MS.s0 hM) (m_nextTo hM hs hr ha hv hw hi) rfl rfl (Nat.le_of_ble_eq_true rfl) (rb0 (by decide)) ?_
    refine aw_iload_n dX11_isMet_18 rfl ?_
    refine aw_icmp_eq (tgt := 32) dX11_isMet_19 rfl (fun h19 => ?_) (fun h19 => ?_)
    · refine aw_iconst (v := nI 1) dX11_isMet_32 kc_1 ?_
      refine aw_goto (tgt := 37) dX11_isMet_33 rfl ?_
      refine aw_zret dX11_isMet_37 rfl rfl (rb0 (Nat.zero_le _)) ⟨rfl, _, rfl, ?_, rfl, rfl⟩
      rw [eq_comm]
      first
        | exact zI_f (fun q => (hm.mp q).1 h9)
        | exact zI_t (hm.mpr ⟨h9, Or.inl (hq _ _ h19 h8.2.2)⟩)
        | exact zI_t (hm.mpr ⟨h9, Or.inr (hq _ _ h29 hi)⟩)
        | exact zI_f (fun q => (hm.mp q).2.elim (fun e => h19 (by rw [e]; rfl)) (fun e => h29 (by rw [e]; rfl)))
    · refine aw_aload_n dX11_isMet_22 rfl ?_
      refine aw_aload_n dX11_isMet_23 rfl ?_
      refine aw_iload_n dX11_isMet_24 rfl ?_
      refine aw_xVi [_, _] dX11_isMet_25 cvX11_135 (MS.s0 hM) (m_nextTo hM hs hr ha hv hw h8.2.2) rfl rfl (Nat.le_of_ble_eq_true rfl) (rb0 (by decide)) ?_
      refine aw_iload_n dX11_isMet_28 rfl ?_
      refine aw_icmp_ne (tgt := 36) dX11_isMet_29 rfl (fun h29 => ?_) (fun h29 => ?_)
      · refine aw_iconst (v := nI 0) dX11_isMet_36 kc_0 ?_
        refine aw_zret dX11_isMet_37 rfl rfl (rb0 (Nat.zero_le _)) ⟨rfl, _, rfl, ?_, rfl, rfl⟩
        rw [eq_comm]
        first
          | exact zI_f (fun q => (hm.mp q).1 h9)
          | exact zI_t (hm.mpr ⟨h9, Or.inl (hq _ _ h19 h8.2.2)⟩)
          | exact zI_t (hm.mpr ⟨h9, Or.inr (hq _ _ h29 hi)⟩)
          | exact zI_f (fun q => (hm.mp q).2.elim (fun e => h19 (by rw [e]; rfl)) (fun e => h29 (by rw [e]; rfl)))
      · refine aw_iconst (v := nI 1) dX11_isMet_32 kc_1 ?_
        refine aw_goto (tgt := 37) dX11_isMet_33 rfl ?_
        refine aw_zret dX11_isMet_37 rfl rfl (rb0 (Nat.zero_le _)) ⟨rfl, _, rfl, ?_, rfl, rfl⟩
        rw [eq_comm]
        first
          | exact zI_f (fun q => (hm.mp q).1 h9)
          | exact zI_t (hm.mpr ⟨h9, Or.inl (hq _ _ h19 h8.2.2)⟩)
          | exact zI_t (hm.mpr ⟨h9, Or.inr (hq _ _ h29 hi)⟩)
          | exact zI_f (fun q => (hm.mp q).2.elim (fun e => h19 (by rw [e]; rfl)) (fun e => h29 (by rw [e]; rfl)))
theorem m_isForgiven {G : GC} {E : SH} {iv : IV} {lv : LV} {M a : Nat} {s : TS} {v : TV} (hM : MS G E M) (hs : WS s) (hr : SR M s iv) (ha : Sh G E a 20 20) (hv : VR a v iv) (hw : WV s v) {i : Nat} (hi : i < s.1) : ExI G mX11_isForgiven 3 [.ref M, .ref a, .int (nI i)] E iv lv (zI (forg s v i = true)) iv lv := by
  have h7 := hs.1
  have h8 := hs.2 i hi
  refine spec0_of (lo := [_,_,_]) (by decide) (Nat.le_of_ble_eq_true rfl) rfl ?_
  refine aw_aload_n dX11_isForgiven_0 rfl ?_
  refine aw_getR dX11_isForgiven_1 fgX11_39 rfl (MS.s0 hM) (MS.r0_15 hM) ?_
  refine aw_iload_n dX11_isForgiven_4 rfl ?_
  refine aw_iaload dX11_isForgiven_5 (MS.s9 hM) rfl (by omega) ?_
  rw [(hr.2 i hi).1]
  refine aw_iconst (v := nI 4) dX11_isForgiven_6 kc_4 ?_
  refine aw_icmp_eq (tgt := 24) dX11_isForgiven_7 rfl (fun h7 => ?_) (fun h7 => ?_)
  · rw [nI_eq (by omega) (by omega)] at h7
    refine aw_iconst (v := nI 1) dX11_isForgiven_24 kc_1 ?_
    refine aw_goto (tgt := 29) dX11_isForgiven_25 rfl ?_
    refine aw_zret dX11_isForgiven_29 rfl rfl (rb0 (Nat.zero_le _)) ⟨rfl, _, rfl, ?_, rfl, rfl⟩
    rw [eq_comm]
    unfold forg
    first
      | exact zI_t (by rw [decide_eq_true h7]; rfl)
      | exact zI_t (by rw [decide_eq_true (zI_n0.mp h21)]; simp)
      | exact zI_f (by rw [decide_eq_false h7, decide_eq_false (zI_0.mp h21)]; decide)
  · rw [nI_eq (by omega) (by omega)] at h7
    refine aw_aload_n dX11_isForgiven_10 rfl ?_
    refine aw_aload_n dX11_isForgiven_11 rfl ?_
    refine aw_aload_n dX11_isForgiven_12 rfl ?_
    refine aw_getR dX11_isForgiven_13 fgX11_45 rfl (MS.s0 hM) (MS.r0_17 hM) ?_
    refine aw_iload_n dX11_isForgiven_16 rfl ?_
    refine aw_iaload dX11_isForgiven_17 (MS.s11 hM) rfl (by omega) ?_
    rw [(hr.2 i hi).2.2]
    refine aw_xVi [_, _] dX11_isForgiven_18 cvX11_139 (MS.s0 hM) (m_isHid hM hs hr ha hv hw h8.2.2) rfl rfl (Nat.le_of_ble_eq_true rfl) (rb0 (by decide)) ?_
    refine aw_if_eq (tgt := 28) dX11_isForgiven_21 rfl (fun h21 => ?_) (fun h21 => ?_)
    · refine aw_iconst (v := nI 0) dX11_isForgiven_28 kc_0 ?_
      refine aw_zret dX11_isForgiven_29 rfl rfl (rb0 (Nat.zero_le _)) ⟨rfl, _, rfl, ?_, rfl, rfl⟩
      rw [eq_comm]
      unfold forg
      first
        | exact zI_t (by rw [decide_eq_true h7]; rfl)
        | exact zI_t (by rw [decide_eq_true (zI_n0.mp h21)]; simp)
        | exact zI_f (by rw [decide_eq_false h7, decide_eq_false (zI_0.mp h21)]; decide)
    · refine aw_iconst (v := nI 1) dX11_isForgiven_24 kc_1 ?_
      refine aw_goto (tgt := 29) dX11_isForgiven_25 rfl ?_
      refine aw_zret dX11_isForgiven_29 rfl rfl (rb0 (Nat.zero_le _)) ⟨rfl, _, rfl, ?_, rfl, rfl⟩
      rw [eq_comm]
      unfold forg
      first
        | exact zI_t (by rw [decide_eq_true h7]; rfl)
        | exact zI_t (by rw [decide_eq_true (zI_n0.mp h21)]; simp)
        | exact zI_f (by rw [decide_eq_false h7, decide_eq_false (zI_0.mp h21)]; decide)
theorem m_isOf {G : GC} {E : SH} {iv : IV} {lv : LV} {p q : Nat} (hp : p < 6) (hq : q < 6) : ExI G mX11_isOf 1 [.int (nI p), .int (nI q)] E iv lv (zI (p = q ∨ (p = 4 ∧ q = 1) ∨ (p = 5 ∧ q = 2))) iv lv := by
  refine spec0_of (lo := [_,_]) (by decide) (Nat.le_of_ble_eq_true rfl) rfl ?_
  refine aw_iload_n dX11_isOf_0 rfl ?_
  refine aw_iload_n dX11_isOf_1 rfl ?_
  refine aw_icmp_eq (tgt := 25) dX11_isOf_2 rfl (fun h2 => ?_) (fun h2 => ?_)
  · rw [nI_eq (by omega) (by omega)] at h2
    refine aw_iconst (v := nI 1) dX11_isOf_25 kc_1 ?_
    refine aw_goto (tgt := 30) dX11_isOf_26 rfl ?_
    refine aw_zret dX11_isOf_30 rfl rfl (rb0 (Nat.zero_le _)) ⟨rfl, _, rfl, ?_, rfl, rfl⟩
    rw [eq_comm]
    first | exact zI_t (by omega) | exact zI_f (by omega)
  · rw [nI_eq (by omega) (by omega)] at h2
    refine aw_iload_n dX11_isOf_5 rfl ?_
    refine aw_iconst (v := nI 4) dX11_isOf_6 kc_4 ?_
    refine aw_icmp_ne (tgt := 15) dX11_isOf_7 rfl (fun h7 => ?_) (fun h7 => ?_)
    · rw [nI_eq (by omega) (by omega)] at h7
      refine aw_iload_n dX11_isOf_15 rfl ?_
      refine aw_iconst (v := nI 5) dX11_isOf_16 kc_5 ?_
      refine aw_icmp_ne (tgt := 29) dX11_isOf_17 rfl (fun h17 => ?_) (fun h17 => ?_)
      · rw [nI_eq (by omega) (by omega)] at h17
        refine aw_iconst (v := nI 0) dX11_isOf_29 kc_0 ?_
        refine aw_zret dX11_isOf_30 rfl rfl (rb0 (Nat.zero_le _)) ⟨rfl, _, rfl, ?_, rfl, rfl⟩
        rw [eq_comm]
        first | exact zI_t (by omega) | exact zI_f (by omega)
      · rw [nI_eq (by omega) (by omega)] at h17
        refine aw_iload_n dX11_isOf_20 rfl ?_
        refine aw_iconst (v := nI 2) dX11_isOf_21 kc_2 ?_
        refine aw_icmp_ne (tgt := 29) dX11_isOf_22 rfl (fun h22 => ?_) (fun h22 => ?_)
        · rw [nI_eq (by omega) (by omega)] at h22
          refine aw_iconst (v := nI 0) dX11_isOf_29 kc_0 ?_
          refine aw_zret dX11_isOf_30 rfl rfl (rb0 (Nat.zero_le _)) ⟨rfl, _, rfl, ?_, rfl, rfl⟩
          rw [eq_comm]
          first | exact zI_t (by omega) | exact zI_f (by omega)
        · rw [nI_eq (by omega) (by omega)] at h22
          refine aw_iconst (v := nI 1) dX11_isOf_25 kc_1 ?_
          refine aw_goto (tgt := 30) dX11_isOf_26 rfl ?_
          refine aw_zret dX11_isOf_30 rfl rfl (rb0 (Nat.zero_le _)) ⟨rfl, _, rfl, ?_, rfl, rfl⟩
          rw [eq_comm]
          first | exact zI_t (by omega) | exact zI_f (by omega)
    · rw [nI_eq (by omega) (by omega)] at h7
      refine aw_iload_n dX11_isOf_10 rfl ?_
      refine aw_iconst (v := nI 1) dX11_isOf_11 kc_1 ?_
      refine aw_icmp_eq (tgt := 25) dX11_isOf_12 rfl (fun h12 => ?_) (fun h12 => ?_)
      · rw [nI_eq (by omega) (by omega)] at h12
        refine aw_iconst (v := nI 1) dX11_isOf_25 kc_1 ?_
        refine aw_goto (tgt := 30) dX11_isOf_26 rfl ?_
        refine aw_zret dX11_isOf_30 rfl rfl (rb0 (Nat.zero_le _)) ⟨rfl, _, rfl, ?_, rfl, rfl⟩
        rw [eq_comm]
        first | exact zI_t (by omega) | exact zI_f (by omega)
      · rw [nI_eq (by omega) (by omega)] at h12
        refine aw_iload_n dX11_isOf_15 rfl ?_
        refine aw_iconst (v := nI 5) dX11_isOf_16 kc_5 ?_
        refine aw_icmp_ne (tgt := 29) dX11_isOf_17 rfl (fun h17 => ?_) (fun h17 => ?_)
        · rw [nI_eq (by omega) (by omega)] at h17
          refine aw_iconst (v := nI 0) dX11_isOf_29 kc_0 ?_
          refine aw_zret dX11_isOf_30 rfl rfl (rb0 (Nat.zero_le _)) ⟨rfl, _, rfl, ?_, rfl, rfl⟩
          rw [eq_comm]
          first | exact zI_t (by omega) | exact zI_f (by omega)
        · rw [nI_eq (by omega) (by omega)] at h17
          refine aw_iload_n dX11_isOf_20 rfl ?_
          refine aw_iconst (v := nI 2) dX11_isOf_21 kc_2 ?_
          refine aw_icmp_ne (tgt := 29) dX11_isOf_22 rfl (fun h22 => ?_) (fun h22 => ?_)
          · rw [nI_eq (by omega) (by omega)] at h22
            refine aw_iconst (v := nI 0) dX11_isOf_29 kc_0 ?_
            refine aw_zret dX11_isOf_30 rfl rfl (rb0 (Nat.zero_le _)) ⟨rfl, _, rfl, ?_, rfl, rfl⟩
            rw [eq_comm]
            first | exact zI_t (by omega) | exact zI_f (by omega)
          · rw [nI_eq (by omega) (by omega)] at h22
            refine aw_iconst (v := nI 1) dX11_isOf_25 kc_1 ?_
            refine aw_goto (tgt := 30) dX11_isOf_26 rfl ?_
            refine aw_zret dX11_isOf_30 rfl rfl (rb0 (Nat.zero_le _)) ⟨rfl, _, rfl, ?_, rfl, rfl⟩
            rw [eq_comm]
            first | exact zI_t (by omega) | exact zI_f (by omega)
theorem m_lessBy {G : GC} {E : SH} {iv : IV} {lv : LV} {p d : Nat} (hp : p < 6) (hd : d < 2 ^ 20) : ExI G mX11_lessBy 2 [.int (nI p), .int (nI d)] E iv lv (nI (less p d)) iv lv := by
  refine spec0_of (lo := [_,_]) (by decide) (Nat.le_of_ble_eq_true rfl) rfl ?_
  refine aw_iload_n dX11_lessBy_0 rfl ?_
  refine aw_iconst (v := nI 1) dX11_lessBy_1 kc_1 ?_
  refine aw_xSi [_, _] dX11_lessBy_2 csX11_143 (m_isOf hp (q := 1) (by decide)) rfl rfl (Nat.le_of_ble_eq_true rfl) (rb0 (by decide)) ?_
  refine aw_if_eq (tgt := 12) dX11_lessBy_5 rfl (fun h5 => ?_) (fun h5 => ?_)
  · refine aw_iload_n dX11_lessBy_12 rfl ?_
    refine aw_iconst (v := nI 2) dX11_lessBy_13 kc_2 ?_
    refine aw_xSi [_, _] dX11_lessBy_14 csX11_143 (m_isOf hp (q := 2) (by decide)) rfl rfl (Nat.le_of_ble_eq_true rfl) (rb0 (by decide)) ?_
    refine aw_if_eq (tgt := 28) dX11_lessBy_17 rfl (fun h17 => ?_) (fun h17 => ?_)
    · refine aw_iconst (v := nI 1) dX11_lessBy_28 kc_1 ?_
      refine aw_iret dX11_lessBy_29 rfl (rb0 (Nat.zero_le _)) ⟨rfl, _, rfl, ?_, rfl, rfl⟩
      unfold less
      first
        | (have q1 := zI_n0.mp h5
           rw [if_pos (by omega)])
        | (have q1 := zI_0.mp h5
           have q2 := zI_n0.mp h17
           rw [if_neg (by omega), if_pos (by omega), pk_sub (by omega)])
        | (have q1 := zI_0.mp h5
           have q2 := zI_0.mp h17
           rw [if_neg (by omega), if_neg (by omega)])
    · refine aw_iconst (v := nI 1) dX11_lessBy_20 kc_1 ?_
      refine aw_iload_n dX11_lessBy_21 rfl ?_
      refine aw_iconst (v := nI 2) dX11_lessBy_22 kc_2 ?_
      refine aw_irem dX11_lessBy_23 (by decide) ?_
      rw [pk_rem (by omega) (by decide) (by decide)]
      refine aw_isub dX11_lessBy_24 ?_
      refine aw_goto (tgt := 29) dX11_lessBy_25 rfl ?_
      refine aw_iret dX11_lessBy_29 rfl (rb0 (Nat.zero_le _)) ⟨rfl, _, rfl, ?_, rfl, rfl⟩
      unfold less
      first
        | (have q1 := zI_n0.mp h5
           rw [if_pos (by omega)])
        | (have q1 := zI_0.mp h5
           have q2 := zI_n0.mp h17
           rw [if_neg (by omega), if_pos (by omega), pk_sub (by omega)])
        | (have q1 := zI_0.mp h5
           have q2 := zI_0.mp h17
           rw [if_neg (by omega), if_neg (by omega)])
  · refine aw_iconst (v := nI 2) dX11_lessBy_8 kc_2 ?_
    refine aw_goto (tgt := 29) dX11_lessBy_9 rfl ?_
    refine aw_iret dX11_lessBy_29 rfl (rb0 (Nat.zero_le _)) ⟨rfl, _, rfl, ?_, rfl, rfl⟩
    unfold less
    first
      | (have q1 := zI_n0.mp h5
         rw [if_pos (by omega)])
      | (have q1 := zI_0.mp h5
         have q2 := zI_n0.mp h17
         rw [if_neg (by omega), if_pos (by omega), pk_sub (by omega)])
      | (have q1 := zI_0.mp h5
         have q2 := zI_0.mp h17
         rw [if_neg (by omega), if_neg (by omega)])
theorem m_grudgeThen {G : GC} {E : SH} {iv : IV} {lv : LV} {M a : Nat} {s : TS} {v : TV} (hM : MS G E M) (hs : WS s) (hr : SR M s iv) (ha : Sh G E a 20 20) (hv : VR a v iv) (hw : WV s v) {i : Nat} (hi : i < s.1) : ExI G mX11_grudgeThen 4 [.ref M, .ref a, .int (nI i)] E iv lv (nI (gnew (s.2.1 i) (v (6 + i)) (mood s v i) (v 0))) iv lv := by
  have h7 := hs.1
  have h8 := hs.2 i hi
  have h9 := hw.1 i hi
  have h10 := hw.2.2
  have h11 : less (s.2.1 i) (v 0) ≤ 2 := by unfold less; split <;> (try split) <;> omega
  refine spec0_of (lo := [_,_,_,_,_]) (by decide) (Nat.le_of_ble_eq_true rfl) rfl ?_
  refine aw_aload_n dX11_grudgeThen_0 rfl ?_
  refine aw_bipush (v := nI 6) dX11_grudgeThen_1 kb_6 ?_
  refine aw_iload_n dX11_grudgeThen_3 rfl ?_
  refine aw_iadd dX11_grudgeThen_4 ?_
  refine aw_iaload dX11_grudgeThen_5 ha (show nI 6 + nI i = nI (6 + i) by rw [nI_add]) (by omega) ?_
  rw [hv (6 + i) (by omega)]
  refine aw_istore_n (lo' := [_,_,_,_,_]) dX11_grudgeThen_6 (Nat.le_of_ble_eq_true rfl) rfl ?_
  refine aw_aload_n dX11_grudgeThen_7 rfl ?_
  refine aw_aload_n dX11_grudgeThen_8 rfl ?_
  refine aw_iload_n dX11_grudgeThen_9 rfl ?_
  refine aw_xVi [_, _] dX11_grudgeThen_10 cvX11_147 (MS.s0 hM) (m_isMet hM hs hr ha hv hw hi) rfl rfl (Nat.le_of_ble_eq_true rfl) (rb0 (by decide)) ?_
  refine aw_if_ne (tgt := 18) dX11_grudgeThen_13 rfl (fun h13 => ?_) (fun h13 => ?_)
  · refine aw_aload_n dX11_grudgeThen_18 rfl ?_
    refine aw_aload_n dX11_grudgeThen_19 rfl ?_
    refine aw_iload_n dX11_grudgeThen_20 rfl ?_
    refine aw_xVi [_, _] dX11_grudgeThen_21 cvX11_150 (MS.s0 hM) (m_isForgiven hM hs hr ha hv hw hi) rfl rfl (Nat.le_of_ble_eq_true rfl) (rb0 (by decide)) ?_
    refine aw_if_eq (tgt := 56) dX11_grudgeThen_24 rfl (fun h24 => ?_) (fun h24 => ?_)
    · refine aw_aload_n dX11_grudgeThen_56 rfl ?_
      refine aw_getR dX11_grudgeThen_57 fgX11_39 rfl (MS.s0 hM) (MS.r0_15 hM) ?_
      refine aw_iload_n dX11_grudgeThen_60 rfl ?_
      refine aw_iaload dX11_grudgeThen_61 (MS.s9 hM) rfl (by omega) ?_
      rw [(hr.2 i hi).1]
      refine aw_iconst (v := nI 5) dX11_grudgeThen_62 kc_5 ?_
      refine aw_icmp_eq (tgt := 72) dX11_grudgeThen_63 rfl (fun h63 => ?_) (fun h63 => ?_)
      · rw [nI_eq (by omega) (by omega)] at h63
        refine aw_iload_n dX11_grudgeThen_72 rfl ?_
        refine aw_goto (tgt := 79) dX11_grudgeThen_73 rfl ?_
        refine aw_iret dX11_grudgeThen_79 rfl (rb0 (Nat.zero_le _)) ⟨rfl, _, rfl, ?_, rfl, rfl⟩
        unfold gnew
        first
          | (rw [mood_0 (by simpa using zI_0.mp h13)]; rfl)
          | (rw [mood_1 (zI_n0.mp h13) (zI_n0.mp h24), if_pos rfl, pk_sub (by omega)]; done)
          | (rw [mood_1 (zI_n0.mp h13) (zI_n0.mp h24), if_pos rfl, show v (6 + i) - less (s.2.1 i) (v 0) = 0 by omega]; done)
          | (rw [mood_2 (zI_n0.mp h13) (by simpa using zI_0.mp h24), if_neg (by decide), if_pos rfl, if_pos (by omega)]; done)
          | (rw [mood_2 (zI_n0.mp h13) (by simpa using zI_0.mp h24), if_neg (by decide), if_pos rfl, if_neg (by omega), nI_add]; done)
      · rw [nI_eq (by omega) (by omega)] at h63
        refine aw_iload_n dX11_grudgeThen_66 rfl ?_
        refine aw_bipush (v := nI 9) dX11_grudgeThen_67 kb_9 ?_
        refine aw_icmp_ne (tgt := 76) dX11_grudgeThen_69 rfl (fun h69 => ?_) (fun h69 => ?_)
        · rw [nI_eq (by omega) (by omega)] at h69
          refine aw_iload_n dX11_grudgeThen_76 rfl ?_
          refine aw_iconst (v := nI 1) dX11_grudgeThen_77 kc_1 ?_
          refine aw_iadd dX11_grudgeThen_78 ?_
          refine aw_iret dX11_grudgeThen_79 rfl (rb0 (Nat.zero_le _)) ⟨rfl, _, rfl, ?_, rfl, rfl⟩
          unfold gnew
          first
            | (rw [mood_0 (by simpa using zI_0.mp h13)]; rfl)
            | (rw [mood_1 (zI_n0.mp h13) (zI_n0.mp h24), if_pos rfl, pk_sub (by omega)]; done)
            | (rw [mood_1 (zI_n0.mp h13) (zI_n0.mp h24), if_pos rfl, show v (6 + i) - less (s.2.1 i) (v 0) = 0 by omega]; done)
            | (rw [mood_2 (zI_n0.mp h13) (by simpa using zI_0.mp h24), if_neg (by decide), if_pos rfl, if_pos (by omega)]; done)
            | (rw [mood_2 (zI_n0.mp h13) (by simpa using zI_0.mp h24), if_neg (by decide), if_pos rfl, if_neg (by omega), nI_add]; done)
        · rw [nI_eq (by omega) (by omega)] at h69
          refine aw_iload_n dX11_grudgeThen_72 rfl ?_
          refine aw_goto (tgt := 79) dX11_grudgeThen_73 rfl ?_
          refine aw_iret dX11_grudgeThen_79 rfl (rb0 (Nat.zero_le _)) ⟨rfl, _, rfl, ?_, rfl, rfl⟩
          unfold gnew
          first
            | (rw [mood_0 (by simpa using zI_0.mp h13)]; rfl)
            | (rw [mood_1 (zI_n0.mp h13) (zI_n0.mp h24), if_pos rfl, pk_sub (by omega)]; done)
            | (rw [mood_1 (zI_n0.mp h13) (zI_n0.mp h24), if_pos rfl, show v (6 + i) - less (s.2.1 i) (v 0) = 0 by omega]; done)
            | (rw [mood_2 (zI_n0.mp h13) (by simpa using zI_0.mp h24), if_neg (by decide), if_pos rfl, if_pos (by omega)]; done)
            | (rw [mood_2 (zI_n0.mp h13) (by simpa using zI_0.mp h24), if_neg (by decide), if_pos rfl, if_neg (by omega), nI_add]; done)
    · refine aw_aload_n dX11_grudgeThen_27 rfl ?_
      refine aw_getR dX11_grudgeThen_28 fgX11_39 rfl (MS.s0 hM) (MS.r0_15 hM) ?_
      refine aw_iload_n dX11_grudgeThen_31 rfl ?_
      refine aw_iaload dX11_grudgeThen_32 (MS.s9 hM) rfl (by omega) ?_
      rw [(hr.2 i hi).1]
      refine aw_aload_n dX11_grudgeThen_33 rfl ?_
      refine aw_iconst (v := nI 0) dX11_grudgeThen_34 kc_0 ?_
      refine aw_iaload dX11_grudgeThen_35 ha (show nI 0 = nI 0 from rfl) (by omega) ?_
      rw [hv 0 (by omega)]
      refine aw_xSi [_, _] dX11_grudgeThen_36 csX11_153 (m_lessBy (hs.2 i hi).1 hw.2.2) rfl rfl (Nat.le_of_ble_eq_true rfl) (rb0 (by decide)) ?_
      refine aw_istore (lo' := [_,_,_,_,_]) dX11_grudgeThen_39 (Nat.le_of_ble_eq_true rfl) rfl ?_
      refine aw_iload_n dX11_grudgeThen_41 rfl ?_
      refine aw_iload dX11_grudgeThen_42 rfl ?_
      refine aw_icmp_le (tgt := 54) dX11_grudgeThen_44 rfl (fun h44 => ?_) (fun h44 => ?_)
      · rw [nI_leI (by omega) (by omega)] at h44
        refine aw_iconst (v := nI 0) dX11_grudgeThen_54 kc_0 ?_
        refine aw_iret dX11_grudgeThen_55 rfl (rb0 (Nat.zero_le _)) ⟨rfl, _, rfl, ?_, rfl, rfl⟩
        unfold gnew
        first
          | (rw [mood_0 (by simpa using zI_0.mp h13)]; rfl)
          | (rw [mood_1 (zI_n0.mp h13) (zI_n0.mp h24), if_pos rfl, pk_sub (by omega)]; done)
          | (rw [mood_1 (zI_n0.mp h13) (zI_n0.mp h24), if_pos rfl, show v (6 + i) - less (s.2.1 i) (v 0) = 0 by omega]; done)
          | (rw [mood_2 (zI_n0.mp h13) (by simpa using zI_0.mp h24), if_neg (by decide), if_pos rfl, if_pos (by omega)]; done)
          | (rw [mood_2 (zI_n0.mp h13) (by simpa using zI_0.mp h24), if_neg (by decide), if_pos rfl, if_neg (by omega), nI_add]; done)
      · rw [nI_leI (by omega) (by omega)] at h44
        refine aw_iload_n dX11_grudgeThen_47 rfl ?_
        refine aw_iload dX11_grudgeThen_48 rfl ?_
        refine aw_isub dX11_grudgeThen_50 ?_
        refine aw_goto (tgt := 55) dX11_grudgeThen_51 rfl ?_
        refine aw_iret dX11_grudgeThen_55 rfl (rb0 (Nat.zero_le _)) ⟨rfl, _, rfl, ?_, rfl, rfl⟩
        unfold gnew
        first
          | (rw [mood_0 (by simpa using zI_0.mp h13)]; rfl)
          | (rw [mood_1 (zI_n0.mp h13) (zI_n0.mp h24), if_pos rfl, pk_sub (by omega)]; done)
          | (rw [mood_1 (zI_n0.mp h13) (zI_n0.mp h24), if_pos rfl, show v (6 + i) - less (s.2.1 i) (v 0) = 0 by omega]; done)
          | (rw [mood_2 (zI_n0.mp h13) (by simpa using zI_0.mp h24), if_neg (by decide), if_pos rfl, if_pos (by omega)]; done)
          | (rw [mood_2 (zI_n0.mp h13) (by simpa using zI_0.mp h24), if_neg (by decide), if_pos rfl, if_neg (by omega), nI_add]; done)
  · refine aw_iload_n dX11_grudgeThen_16 rfl ?_
    refine aw_iret dX11_grudgeThen_17 rfl (rb0 (Nat.zero_le _)) ⟨rfl, _, rfl, ?_, rfl, rfl⟩
    unfold gnew
    first
      | (rw [mood_0 (by simpa using zI_0.mp h13)]; rfl)
      | (rw [mood_1 (zI_n0.mp h13) (zI_n0.mp h24), if_pos rfl, pk_sub (by omega)]; done)
      | (rw [mood_1 (zI_n0.mp h13) (zI_n0.mp h24), if_pos rfl, show v (6 + i) - less (s.2.1 i) (v 0) = 0 by omega]; done)
      | (rw [mood_2 (zI_n0.mp h13) (by simpa using zI_0.mp h24), if_neg (by decide), if_pos rfl, if_pos (by omega)]; done)
      | (rw [mood_2 (zI_n0.mp h13) (by simpa using zI_0.mp h24), if_neg (by decide), if_pos rfl, if_neg (by omega), nI_add]; done)
