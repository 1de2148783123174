theorem lt_totalGrudge {G : GC} {E : SH} {iv : IV} {lv : LV} {T : Nat} {s : TS} {v : TV} (hT : TownS G E T) (hs : WS s) (hr : TR T s v iv) (hw : WV s v) : ∀ (c i : Nat), i + c = s.1 → AW G mX9_totalGrudge (rm 1 0) (Z0 G 1 E (fun r i0 l => ∃ w, r = some (.int w) ∧ w = nI (tot s v) ∧ i0 = iv ∧ l = lv)) (fun _ => True) E.1 4 [some (.ref T), some (.int (nI (sumU (fun j => v (6 + j)) i))), some (.int (nI i))] [] E iv lv := by
  have h7 := hs.1
  intro c
  induction c with
  | zero =>
    intro i hi
    have hi : i = s.1 := by omega
    subst hi
    refine aw_iload_n dX9_totalGrudge_4 rfl ?_
    refine aw_aload_n dX9_totalGrudge_5 rfl ?_
    refine aw_getI dX9_totalGrudge_6 fgX9_9 rfl (TownS.s0 hT) ?_
    refine aw_icmp_ge (tgt := 27) dX9_totalGrudge_9 rfl (fun h9 => ?_) (fun h9 => absurd (by rw [hr.1]; exact nI_le (Nat.le_refl _) (by omega)) h9)
    refine aw_iload_n dX9_totalGrudge_27 rfl ?_
    refine aw_iret dX9_totalGrudge_28 rfl (rb0 (Nat.zero_le _)) ⟨rfl, _, rfl, rfl, rfl, rfl⟩
  | succ c ih =>
    intro i hi
    refine aw_iload_n dX9_totalGrudge_4 rfl ?_
    refine aw_aload_n dX9_totalGrudge_5 rfl ?_
    refine aw_getI dX9_totalGrudge_6 fgX9_9 rfl (TownS.s0 hT) ?_
    refine aw_icmp_ge (tgt := 27) dX9_totalGrudge_9 rfl (fun h9 => absurd h9 (by rw [hr.1]; exact nI_ge (by omega) (by omega))) (fun h9 => ?_)
    refine aw_iload_n dX9_totalGrudge_12 rfl ?_
    refine aw_aload_n dX9_totalGrudge_13 rfl ?_
    refine aw_getR dX9_totalGrudge_14 fgX9_53 rfl (TownS.s0 hT) (TownS.r0_7 hT) ?_
    refine aw_iload_n dX9_totalGrudge_17 rfl ?_
    refine aw_iaload dX9_totalGrudge_18 (TownS.s11 hT) rfl (by omega) ?_
    rw [(hr.2.2.1 i (by omega)).2.2.2.1]
    refine aw_iadd dX9_totalGrudge_19 ?_
    rw [nI_add]
    refine aw_istore_n (lo' := [_,_,_]) dX9_totalGrudge_20 (Nat.le_of_ble_eq_true rfl) rfl ?_
    refine aw_iinc (v := _) (lo' := [_,_,_]) dX9_totalGrudge_21 rfl (nI_1 i) rfl ?_
    refine aw_goto (tgt := 4) dX9_totalGrudge_24 rfl ?_
    exact ih (i + 1) (by omega)
theorem t_totalGrudge {G : GC} {E : SH} {iv : IV} {lv : LV} {T : Nat} {s : TS} {v : TV} (hT : TownS G E T) (hs : WS s) (hr : TR T s v iv) (hw : WV s v) : ExI G mX9_totalGrudge 1 [.ref T] E iv lv (nI (tot s v)) iv lv := by
  refine spec0_of (lo := [_,_,_]) (by decide) (Nat.le_of_ble_eq_true rfl) rfl ?_
  refine aw_iconst (v := nI 0) dX9_totalGrudge_0 kc_0 ?_
  refine aw_istore_n (lo' := [_,_,_]) dX9_totalGrudge_1 (Nat.le_of_ble_eq_true rfl) rfl ?_
  refine aw_iconst (v := nI 0) dX9_totalGrudge_2 kc_0 ?_
  refine aw_istore_n (lo' := [_,_,_]) dX9_totalGrudge_3 (Nat.le_of_ble_eq_true rfl) rfl ?_
  exact lt_totalGrudge hT hs hr hw s.1 0 (by omega)
def totD (v : TV) : Nat := sumU (fun c => v (1 + c)) 5
theorem lt_totalDeep {G : GC} {E : SH} {iv : IV} {lv : LV} {T : Nat} {s : TS} {v : TV} (hT : TownS G E T) (hs : WS s) (hr : TR T s v iv) (hw : WV s v) : ∀ (c i : Nat), i + c = 5 → AW G mX9_totalDeep (rm 1 0) (Z0 G 1 E (fun r i0 l => ∃ w, r = some (.int w) ∧ w = nI (totD v) ∧ i0 = iv ∧ l = lv)) (fun _ => True) E.1 4 [some (.ref T), some (.int (nI (sumU (fun c => v (1 + c)) i))), some (.int (nI i))] [] E iv lv := by
  have h7 := hs.1
  intro c
  induction c with
  | zero =>
    intro i hi
    have hi : i = 5 := by omega
    subst hi
    refine aw_iload_n dX9_totalDeep_4 rfl ?_
    refine aw_iconst (v := nI 5) dX9_totalDeep_5 kc_5 ?_
    refine aw_icmp_ge (tgt := 24) dX9_totalDeep_6 rfl (fun h6 => ?_) (fun h6 => absurd (by exact nI_le (Nat.le_refl _) (by omega)) h6)
    refine aw_iload_n dX9_totalDeep_24 rfl ?_
    refine aw_iret dX9_totalDeep_25 rfl (rb0 (Nat.zero_le _)) ⟨rfl, _, rfl, rfl, rfl, rfl⟩
  | succ c ih =>
    intro i hi
    refine aw_iload_n dX9_totalDeep_4 rfl ?_
    refine aw_iconst (v := nI 5) dX9_totalDeep_5 kc_5 ?_
    refine aw_icmp_ge (tgt := 24) dX9_totalDeep_6 rfl (fun h6 => absurd h6 (by exact nI_ge (by omega) (by omega))) (fun h6 => ?_)
    refine aw_iload_n dX9_totalDeep_9 rfl ?_
    refine aw_aload_n dX9_totalDeep_10 rfl ?_
    refine aw_getR dX9_totalDeep_11 fgX9_59 rfl (TownS.s0 hT) (TownS.r0_9 hT) ?_
    refine aw_iload_n dX9_totalDeep_14 rfl ?_
    refine aw_iaload dX9_totalDeep_15 (TownS.s13 hT) rfl (by omega) ?_
    rw [hr.2.2.2 i (by omega)]
    refine aw_iadd dX9_totalDeep_16 ?_
    rw [nI_add]
    refine aw_istore_n (lo' := [_,_,_]) dX9_totalDeep_17 (Nat.le_of_ble_eq_true rfl) rfl ?_
    refine aw_iinc (v := _) (lo' := [_,_,_]) dX9_totalDeep_18 rfl (nI_1 i) rfl ?_
    refine aw_goto (tgt := 4) dX9_totalDeep_21 rfl ?_
    exact ih (i + 1) (by omega)
theorem t_totalDeep {G : GC} {E : SH} {iv : IV} {lv : LV} {T : Nat} {s : TS} {v : TV} (hT : TownS G E T) (hs : WS s) (hr : TR T s v iv) (hw : WV s v) : ExI G mX9_totalDeep 1 [.ref T] E iv lv (nI (totD v)) iv lv := by
  refine spec0_of (lo := [_,_,_]) (by decide) (Nat.le_of_ble_eq_true rfl) rfl ?_
  refine aw_iconst (v := nI 0) dX9_totalDeep_0 kc_0 ?_
  refine aw_istore_n (lo' := [_,_,_]) dX9_totalDeep_1 (Nat.le_of_ble_eq_true rfl) rfl ?_
  refine aw_iconst (v := nI 0) dX9_totalDeep_2 kc_0 ?_
  refine aw_istore_n (lo' := [_,_,_]) dX9_totalDeep_3 (Nat.le_of_ble_eq_true rfl) rfl ?_
  exact lt_totalDeep hT hs hr hw 5 0 (by omega)
def phid (s : TS) (v : TV) (i : Nat) : Bool := decide (hid s v i)
theorem lt_whoIsHid {G : GC} {E : SH} {iv : IV} {lv : LV} {T : Nat} {s : TS} {v : TV} (hT : TownS G E T) (hs : WS s) (hr : TR T s v iv) (hw : WV s v) : ∀ (c i : Nat), i + c = s.1 → AW G mX9_whoIsHid (rm 3 0) (Z0 G 3 E (fun r i0 l => ∃ w, r = some (.int w) ∧ w = nI (bitU (phid s v) s.1) ∧ i0 = iv ∧ l = lv)) (fun _ => True) E.1 4 [some (.ref T), some (.int (nI (bitU (phid s v) i))), some (.int (nI i))] [] E iv lv := by
  have h7 := hs.1
  intro c
  induction c with
  | zero =>
    intro i hi
    have hi : i = s.1 := by omega
    subst hi
    refine aw_iload_n dX9_whoIsHid_4 rfl ?_
    refine aw_aload_n dX9_whoIsHid_5 rfl ?_
    refine aw_getI dX9_whoIsHid_6 fgX9_9 rfl (TownS.s0 hT) ?_
    refine aw_icmp_ge (tgt := 32) dX9_whoIsHid_9 rfl (fun h9 => ?_) (fun h9 => absurd (by rw [hr.1]; exact nI_le (Nat.le_refl _) (by omega)) h9)
    refine aw_iload_n dX9_whoIsHid_32 rfl ?_
    refine aw_iret dX9_whoIsHid_33 rfl (rb0 (Nat.zero_le _)) ⟨rfl, _, rfl, rfl, rfl, rfl⟩
  | succ c ih =>
    intro i hi
    refine aw_iload_n dX9_whoIsHid_4 rfl ?_
    refine aw_aload_n dX9_whoIsHid_5 rfl ?_
    refine aw_getI dX9_whoIsHid_6 fgX9_9 rfl (TownS.s0 hT) ?_
    refine aw_icmp_ge (tgt := 32) dX9_whoIsHid_9 rfl (fun h9 => absurd h9 (by rw [hr.1]; exact nI_ge (by omega) (by omega))) (fun h9 => ?_)
    refine aw_aload_n dX9_whoIsHid_12 rfl ?_
    refine aw_iload_n dX9_whoIsHid_13 rfl ?_
    refine aw_xVi [_] dX9_whoIsHid_14 cvX9_141 (TownS.s0 hT) (t_isHid hT hs hr hw (i := i) (by omega)) rfl rfl (Nat.le_of_ble_eq_true rfl) (rb0 (by decide)) ?_
    refine aw_if_eq (tgt := 26) dX9_whoIsHid_17 rfl (fun h17 => ?_) (fun h17 => ?_)
    · refine aw_iinc (v := _) (lo' := [_,_,_]) dX9_whoIsHid_26 rfl (nI_1 i) rfl ?_
      refine aw_goto (tgt := 4) dX9_whoIsHid_29 rfl ?_
      have h := ih (i + 1) (by omega)
      first
        | (rw [bitU_f (show phid s v i = false from decide_eq_false (zI_0.mp h17))] at h
           exact h)
        | (rw [← bitU_t (by omega) (show phid s v i = true from decide_eq_true (zI_n0.mp h17))] at h
           exact h)
    · refine aw_iload_n dX9_whoIsHid_20 rfl ?_
      refine aw_iconst (v := nI 1) dX9_whoIsHid_21 kc_1 ?_
      refine aw_iload_n dX9_whoIsHid_22 rfl ?_
      refine aw_ishl dX9_whoIsHid_23 ?_
      refine aw_ior dX9_whoIsHid_24 ?_
      refine aw_istore_n (lo' := [_,_,_]) dX9_whoIsHid_25 (Nat.le_of_ble_eq_true rfl) rfl ?_
      refine aw_iinc (v := _) (lo' := [_,_,_]) dX9_whoIsHid_26 rfl (nI_1 i) rfl ?_
      refine aw_goto (tgt := 4) dX9_whoIsHid_29 rfl ?_
      have h := ih (i + 1) (by omega)
      first
        | (rw [bitU_f (show phid s v i = false from decide_eq_false (zI_0.mp h17))] at h
           exact h)
        | (rw [← bitU_t (by omega) (show phid s v i = true from decide_eq_true (zI_n0.mp h17))] at h
           exact h)
theorem t_whoIsHid {G : GC} {E : SH} {iv : IV} {lv : LV} {T : Nat} {s : TS} {v : TV} (hT : TownS G E T) (hs : WS s) (hr : TR T s v iv) (hw : WV s v) : ExI G mX9_whoIsHid 3 [.ref T] E iv lv (nI (bitU (phid s v) s.1)) iv lv := by
  refine spec0_of (lo := [_,_,_]) (by decide) (Nat.le_of_ble_eq_true rfl) rfl ?_
  refine aw_iconst (v := nI 0) dX9_whoIsHid_0 kc_0 ?_
  refine aw_istore_n (lo' := [_,_,_]) dX9_whoIsHid_1 (Nat.le_of_ble_eq_true rfl) rfl ?_
  refine aw_iconst (v := nI 0) dX9_whoIsHid_2 kc_0 ?_
  refine aw_istore_n (lo' := [_,_,_]) dX9_whoIsHid_3 (Nat.le_of_ble_eq_true rfl) rfl ?_
  exact lt_whoIsHid hT hs hr hw s.1 0 (by omega)
theorem lt_whoIsAtPeace {G : GC} {E : SH} {iv : IV} {lv : LV} {T : Nat} {s : TS} {v : TV} (hT : TownS G E T) (hs : WS s) (hr : TR T s v iv) (hw : WV s v) : ∀ (c i : Nat), i + c = s.1 → AW G mX9_whoIsAtPeace (rm 1 0) (Z0 G 1 E (fun r i0 l => ∃ w, r = some (.int w) ∧ w = nI (bitU (pclm v) s.1) ∧ i0 = iv ∧ l = lv)) (fun _ => True) E.1 4 [some (.ref T), some (.int (nI (bitU (pclm v) i))), some (.int (nI i))] [] E iv lv := by
  have h7 := hs.1
  intro c
  induction c with
  | zero =>
    intro i hi
    have hi : i = s.1 := by omega
    subst hi
    refine aw_iload_n dX9_whoIsAtPeace_4 rfl ?_
    refine aw_aload_n dX9_whoIsAtPeace_5 rfl ?_
    refine aw_getI dX9_whoIsAtPeace_6 fgX9_9 rfl (TownS.s0 hT) ?_
    refine aw_icmp_ge (tgt := 33) dX9_whoIsAtPeace_9 rfl (fun h9 => ?_) (fun h9 => absurd (by rw [hr.1]; exact nI_le (Nat.le_refl _) (by omega)) h9)
    refine aw_iload_n dX9_whoIsAtPeace_33 rfl ?_
    refine aw_iret dX9_whoIsAtPeace_34 rfl (rb0 (Nat.zero_le _)) ⟨rfl, _, rfl, rfl, rfl, rfl⟩
  | succ c ih =>
    intro i hi
    have h9 := hw.1 i (by omega)
    refine aw_iload_n dX9_whoIsAtPeace_4 rfl ?_
    refine aw_aload_n dX9_whoIsAtPeace_5 rfl ?_
    refine aw_getI dX9_whoIsAtPeace_6 fgX9_9 rfl (TownS.s0 hT) ?_
    refine aw_icmp_ge (tgt := 33) dX9_whoIsAtPeace_9 rfl (fun h9 => absurd h9 (by rw [hr.1]; exact nI_ge (by omega) (by omega))) (fun h9 => ?_)
    refine aw_aload_n dX9_whoIsAtPeace_12 rfl ?_
    refine aw_getR dX9_whoIsAtPeace_13 fgX9_53 rfl (TownS.s0 hT) (TownS.r0_7 hT) ?_
    refine aw_iload_n dX9_whoIsAtPeace_16 rfl ?_
    refine aw_iaload dX9_whoIsAtPeace_17 (TownS.s11 hT) rfl (by omega) ?_
    rw [(hr.2.2.1 i (by omega)).2.2.2.1]
    refine aw_if_ne (tgt := 27) dX9_whoIsAtPeace_18 rfl (fun h18 => ?_) (fun h18 => ?_)
    · rw [← nI_0, nI_eq (by omega) (by omega)] at h18
      refine aw_iinc (v := _) (lo' := [_,_,_]) dX9_whoIsAtPeace_27 rfl (nI_1 i) rfl ?_
      refine aw_goto (tgt := 4) dX9_whoIsAtPeace_30 rfl ?_
      have h := ih (i + 1) (by omega)
      first
        | (rw [bitU_f (show pclm v i = false from decide_eq_false h18)] at h
           exact h)
        | (rw [← bitU_t (by omega) (show pclm v i = true from decide_eq_true h18)] at h
           exact h)
    · rw [← nI_0, nI_eq (by omega) (by omega)] at h18
      refine aw_iload_n dX9_whoIsAtPeace_21 rfl ?_
      refine aw_iconst (v := nI 1) dX9_whoIsAtPeace_22 kc_1 ?_
      refine aw_iload_n dX9_whoIsAtPeace_23 rfl ?_
      refine aw_ishl dX9_whoIsAtPeace_24 ?_
      refine aw_ior dX9_whoIsAtPeace_25 ?_
      refine aw_istore_n (lo' := [_,_,_]) dX9_whoIsAtPeace_26 (Nat.le_of_ble_eq_true rfl) rfl ?_
      refine aw_iinc (v := _) (lo' := [_,_,_]) dX9_whoIsAtPeace_27 rfl (nI_1 i) rfl ?_
      refine aw_goto (tgt := 4) dX9_whoIsAtPeace_30 rfl ?_
      have h := ih (i + 1) (by omega)
      first
        | (rw [bitU_f (show pclm v i = false from decide_eq_false h18)] at h
           exact h)
        | (rw [← bitU_t (by omega) (show pclm v i = true from decide_eq_true h18)] at h
           exact h)
theorem t_whoIsAtPeace {G : GC} {E : SH} {iv : IV} {lv : LV} {T : Nat} {s : TS} {v : TV} (hT : TownS G E T) (hs : WS s) (hr : TR T s v iv) (hw : WV s v) : ExI G mX9_whoIsAtPeace 1 [.ref T] E iv lv (nI (bitU (pclm v) s.1)) iv lv := by
  refine spec0_of (lo := [_,_,_]) (by decide) (Nat.le_of_ble_eq_true rfl) rfl ?_
  refine aw_iconst (v := nI 0) dX9_whoIsAtPeace_0 kc_0 ?_
  refine aw_istore_n (lo' := [_,_,_]) dX9_whoIsAtPeace_1 (Nat.le_of_ble_eq_true rfl) rfl ?_
  refine aw_iconst (v := nI 0) dX9_whoIsAtPeace_2 kc_0 ?_
  refine aw_istore_n (lo' := [_,_,_]) dX9_whoIsAtPeace_3 (Nat.le_of_ble_eq_true rfl) rfl ?_
  exact lt_whoIsAtPeace hT hs hr hw s.1 0 (by omega)
theorem lt_crowdIn {G : GC} {E : SH} {iv : IV} {lv : LV} {T : Nat} {s : TS} {v : TV} (hT : TownS G E T) (hs : WS s) (hr : TR T s v iv) (hw : WV s v) {q : Nat} (hq : q < 5) : ∀ (c i : Nat), i + c = s.1 → AW G mX9_crowdIn (rm 1 0) (Z0 G 1 E (fun r i0 l => ∃ w, r = some (.int w) ∧ w = nI (cntU (pst v q) s.1) ∧ i0 = iv ∧ l = lv)) (fun _ => True) E.1 4 [some (.ref T), some (.int (nI q)), some (.int (nI (cntU (pst v q) i))), some (.int (nI i))] [] E iv lv := by
  have h7 := hs.1
  intro c
  induction c with
  | zero =>
    intro i hi
    have hi : i = s.1 := by omega
    subst hi
    refine aw_iload_n dX9_crowdIn_4 rfl ?_
    refine aw_aload_n dX9_crowdIn_5 rfl ?_
    refine aw_getI dX9_crowdIn_6 fgX9_9 rfl (TownS.s0 hT) ?_
    refine aw_icmp_ge (tgt := 31) dX9_crowdIn_9 rfl (fun h9 => ?_) (fun h9 => absurd (by rw [hr.1]; exact nI_le (Nat.le_refl _) (by omega)) h9)
    refine aw_iload_n dX9_crowdIn_31 rfl ?_
    refine aw_iret dX9_crowdIn_32 rfl (rb0 (Nat.zero_le _)) ⟨rfl, _, rfl, rfl, rfl, rfl⟩
  | succ c ih =>
    intro i hi
    have h9 := hw.1 i (by omega)
    refine aw_iload_n dX9_crowdIn_4 rfl ?_
    refine aw_aload_n dX9_crowdIn_5 rfl ?_
    refine aw_getI dX9_crowdIn_6 fgX9_9 rfl (TownS.s0 hT) ?_
    refine aw_icmp_ge (tgt := 31) dX9_crowdIn_9 rfl (fun h9 => absurd h9 (by rw [hr.1]; exact nI_ge (by omega) (by omega))) (fun h9 => ?_)
    refine aw_aload_n dX9_crowdIn_12 rfl ?_
    refine aw_getR dX9_crowdIn_13 fgX9_56 rfl (TownS.s0 hT) (TownS.r0_8 hT) ?_
    refine aw_iload_n dX9_crowdIn_16 rfl ?_
    refine aw_iaload dX9_crowdIn_17 (TownS.s12 hT) rfl (by omega) ?_
    rw [(hr.2.2.1 i (by omega)).2.2.2.2]
    refine aw_iload_n dX9_crowdIn_18 rfl ?_
    refine aw_icmp_ne (tgt := 25) dX9_crowdIn_19 rfl (fun h19 => ?_) (fun h19 => ?_)
    · rw [nI_eq (by omega) (by omega)] at h19
      refine aw_iinc (v := _) (lo' := [_,_,_,_]) dX9_crowdIn_25 rfl (nI_1 i) rfl ?_
      refine aw_goto (tgt := 4) dX9_crowdIn_28 rfl ?_
      have h := ih (i + 1) (by omega)
      rw [cntU] at h
      first
        | (rw [show pst v q i = false from decide_eq_false h19] at h
           exact h)
        | (rw [show pst v q i = true from decide_eq_true h19] at h
           exact h)
    · rw [nI_eq (by omega) (by omega)] at h19
      refine aw_iinc (v := _) (lo' := [_,_,_,_]) dX9_crowdIn_22 rfl (nI_1 _) rfl ?_
      refine aw_iinc (v := _) (lo' := [_,_,_,_]) dX9_crowdIn_25 rfl (nI_1 i) rfl ?_
      refine aw_goto (tgt := 4) dX9_crowdIn_28 rfl ?_
      have h := ih (i + 1) (by omega)
      rw [cntU] at h
      first
        | (rw [show pst v q i = false from decide_eq_false h19] at h
           exact h)
        | (rw [show pst v q i = true from decide_eq_true h19] at h
           exact h)
theorem t_crowdIn {G : GC} {E : SH} {iv : IV} {lv : LV} {T : Nat} {s : TS} {v : TV} (hT : TownS G E T) (hs : WS s) (hr : TR T s v iv) (hw : WV s v) {q : Nat} (hq : q < 5) : ExI G mX9_crowdIn 1 [.ref T, .int (nI q)] E iv lv (nI (cntU (pst v q) s.1)) iv lv := by
  refine spec0_of (lo := [_,_,_,_]) (by decide) (Nat.le_of_ble_eq_true rfl) rfl ?_
  refine aw_iconst (v := nI 0) dX9_crowdIn_0 kc_0 ?_
  refine aw_istore_n (lo' := [_,_,_,_]) dX9_crowdIn_1 (Nat.le_of_ble_eq_true rfl) rfl ?_
  refine aw_iconst (v := nI 0) dX9_crowdIn_2 kc_0 ?_
  refine aw_istore_n (lo' := [_,_,_,_]) dX9_crowdIn_3 (Nat.le_of_ble_eq_true rfl) rfl ?_
  exact lt_crowdIn hT hs hr hw hq s.1 0 (by omega)
theorem t_hasPeople {G : GC} {E : SH} {iv : IV} {lv : LV} {T n : Nat} (hT : TownS G E T) (h0 : iv T 0 = nI n) (hn : n < 2 ^ 31) : ExI G mX9_hasPeople 1 [.ref T] E iv lv (zI (n ≠ 0)) iv lv := by
  refine spec0_of (lo := [_]) (by decide) (Nat.le_of_ble_eq_true rfl) rfl ?_
  refine aw_aload_n dX9_hasPeople_0 rfl ?_
  refine aw_getI dX9_hasPeople_1 fgX9_9 rfl (TownS.s0 hT) ?_
  rw [h0]
  refine aw_if_le (tgt := 11) dX9_hasPeople_4 rfl (fun h4 => ?_) (fun h4 => ?_)
  · refine aw_iconst (v := nI 0) dX9_hasPeople_11 kc_0 ?_
    refine aw_zret dX9_hasPeople_12 rfl rfl (rb0 (Nat.zero_le _)) ⟨rfl, _, rfl, ?_, rfl, rfl⟩
    rw [← nI_0, nI_leI (by omega) (by omega)] at h4
    rw [eq_comm]
    first | exact zI_f (by omega) | exact zI_t (by omega)
  · refine aw_iconst (v := nI 1) dX9_hasPeople_7 kc_1 ?_
    refine aw_goto (tgt := 12) dX9_hasPeople_8 rfl ?_
    refine aw_zret dX9_hasPeople_12 rfl rfl (rb0 (Nat.zero_le _)) ⟨rfl, _, rfl, ?_, rfl, rfl⟩
    rw [← nI_0, nI_leI (by omega) (by omega)] at h4
    rw [eq_comm]
    first | exact zI_f (by omega) | exact zI_t (by omega)
def cpF (iv : IV) (a0 a n : Nat) : IV := va_up iv a (va_cpy (iv a0) (iv a) 0 0 n)
theorem cpF_o {iv : IV} {a0 a n b : Nat} (h : b ≠ a) : cpF iv a0 a n b = iv b := va_up_n h
theorem cpF_s {iv : IV} {a0 a n k : Nat} (h : k < n) : cpF iv a0 a n a k = iv a0 k := by
  unfold cpF
  rw [va_up_s]
  unfold va_cpy
  rw [if_pos (by omega), Nat.zero_add, Nat.sub_zero]
def staM (T : Nat) (iv : IV) : IV := cpF (cpF (cpF (va_up iv T (upd (iv T) 1 (nI 0))) (T + 16) (T + 13) 5) (T + 14) (T + 11) 7) (T + 15) (T + 12) 7
def becM (T U : Nat) (iv : IV) : IV := cpF (cpF (cpF (cpF (cpF (cpF (va_up (va_up iv T (upd (iv T) 0 (iv U 0))) T (upd (va_up iv T (upd (iv T) 0 (iv U 0)) T) 1 (va_up iv T (upd (iv T) 0 (iv U 0)) U 1))) (U + 8) (T + 8) 7) (U + 9) (T + 9) 7) (U + 10) (T + 10) 7) (U + 11) (T + 11) 7) (U + 12) (T + 12) 7) (U + 13) (T + 13) 5
theorem t_startAnew {G : GC} {E : SH} {iv : IV} {lv : LV} {T : Nat} (hT : TownS G E T) : ExV G mX9_startAnew 1 [.ref T] E iv lv (staM T iv) lv := by
  refine spec0_of (lo := [_]) (by decide) (Nat.le_of_ble_eq_true rfl) rfl ?_
  refine aw_aload_n dX9_startAnew_0 rfl ?_
  refine aw_iconst (v := nI 0) dX9_startAnew_1 kc_0 ?_
  refine aw_putI dX9_startAnew_2 fpX9_15 rfl (TownS.s0 hT) ?_
  refine aw_aload_n dX9_startAnew_5 rfl ?_
  refine aw_getR dX9_startAnew_6 fgX9_68 rfl (TownS.s0 hT) (TownS.r0_12 hT) ?_
  refine aw_iconst (v := nI 0) dX9_startAnew_9 kc_0 ?_
  refine aw_aload_n dX9_startAnew_10 rfl ?_
  refine aw_getR dX9_startAnew_11 fgX9_59 rfl (TownS.s0 hT) (TownS.r0_9 hT) ?_
  refine aw_iconst (v := nI 0) dX9_startAnew_14 kc_0 ?_
  refine aw_iconst (v := nI 5) dX9_startAnew_15 kc_5 ?_
  refine aw_copy dX9_startAnew_16 mjX9_104 st_ac na_ac in_java_lang_System (TownS.s16 hT) (TownS.s13 hT) rfl rfl rfl (by decide) (by decide) (Nat.le_of_ble_eq_true rfl) (rb0 (by decide)) ?_
  refine aw_aload_n dX9_startAnew_19 rfl ?_
  refine aw_getR dX9_startAnew_20 fgX9_62 rfl (TownS.s0 hT) (TownS.r0_10 hT) ?_
  refine aw_iconst (v := nI 0) dX9_startAnew_23 kc_0 ?_
  refine aw_aload_n dX9_startAnew_24 rfl ?_
  refine aw_getR dX9_startAnew_25 fgX9_53 rfl (TownS.s0 hT) (TownS.r0_7 hT) ?_
  refine aw_iconst (v := nI 0) dX9_startAnew_28 kc_0 ?_
  refine aw_bipush (v := nI 7) dX9_startAnew_29 kb_7 ?_
  refine aw_copy dX9_startAnew_31 mjX9_104 st_ac na_ac in_java_lang_System (TownS.s14 hT) (TownS.s11 hT) rfl rfl rfl (by decide) (by decide) (Nat.le_of_ble_eq_true rfl) (rb0 (by decide)) ?_
  refine aw_aload_n dX9_startAnew_34 rfl ?_
  refine aw_getR dX9_startAnew_35 fgX9_65 rfl (TownS.s0 hT) (TownS.r0_11 hT) ?_
  refine aw_iconst (v := nI 0) dX9_startAnew_38 kc_0 ?_
  refine aw_aload_n dX9_startAnew_39 rfl ?_
  refine aw_getR dX9_startAnew_40 fgX9_56 rfl (TownS.s0 hT) (TownS.r0_8 hT) ?_
  refine aw_iconst (v := nI 0) dX9_startAnew_43 kc_0 ?_
  refine aw_bipush (v := nI 7) dX9_startAnew_44 kb_7 ?_
  refine aw_copy dX9_startAnew_46 mjX9_104 st_ac na_ac in_java_lang_System (TownS.s15 hT) (TownS.s12 hT) rfl rfl rfl (by decide) (by decide) (Nat.le_of_ble_eq_true rfl) (rb0 (by decide)) ?_
  refine aw_vret dX9_startAnew_49 rfl (rb0 (Nat.zero_le _)) ⟨rfl, rfl, rfl, rfl⟩
theorem t_becomeAside {G : GC} {E : SH} {iv : IV} {lv : LV} {T U : Nat} (hT : TownS G E T) (hU : TownS G E U) : ExV G mX9_becomeAside 1 [.ref T, .ref U] E iv lv (becM T U iv) lv := by
  refine spec0_of (lo := [_,_]) (by decide) (Nat.le_of_ble_eq_true rfl) rfl ?_
  refine aw_aload_n dX9_becomeAside_0 rfl ?_
  refine aw_aload_n dX9_becomeAside_1 rfl ?_
  refine aw_getI dX9_becomeAside_2 fgX9_9 rfl (TownS.s0 hU) ?_
  refine aw_putI dX9_becomeAside_5 fpX9_9 rfl (TownS.s0 hT) ?_
  refine aw_aload_n dX9_becomeAside_8 rfl ?_
  refine aw_aload_n dX9_becomeAside_9 rfl ?_
  refine aw_getI dX9_becomeAside_10 fgX9_15 rfl (TownS.s0 hU) ?_
  refine aw_putI dX9_becomeAside_13 fpX9_15 rfl (TownS.s0 hT) ?_
  refine aw_aload_n dX9_becomeAside_16 rfl ?_
  refine aw_getR dX9_becomeAside_17 fgX9_43 rfl (TownS.s0 hU) (TownS.r0_4 hU) ?_
  refine aw_iconst (v := nI 0) dX9_becomeAside_20 kc_0 ?_
  refine aw_aload_n dX9_becomeAside_21 rfl ?_
  refine aw_getR dX9_becomeAside_22 fgX9_43 rfl (TownS.s0 hT) (TownS.r0_4 hT) ?_
  refine aw_iconst (v := nI 0) dX9_becomeAside_25 kc_0 ?_
  refine aw_bipush (v := nI 7) dX9_becomeAside_26 kb_7 ?_
  refine aw_copy dX9_becomeAside_28 mjX9_104 st_ac na_ac in_java_lang_System (TownS.s8 hU) (TownS.s8 hT) rfl rfl rfl (by decide) (by decide) (Nat.le_of_ble_eq_true rfl) (rb0 (by decide)) ?_
  refine aw_aload_n dX9_becomeAside_31 rfl ?_
  refine aw_getR dX9_becomeAside_32 fgX9_47 rfl (TownS.s0 hU) (TownS.r0_5 hU) ?_
  refine aw_iconst (v := nI 0) dX9_becomeAside_35 kc_0 ?_
  refine aw_aload_n dX9_becomeAside_36 rfl ?_
  refine aw_getR dX9_becomeAside_37 fgX9_47 rfl (TownS.s0 hT) (TownS.r0_5 hT) ?_
  refine aw_iconst (v := nI 0) dX9_becomeAside_40 kc_0 ?_
  refine aw_bipush (v := nI 7) dX9_becomeAside_41 kb_7 ?_
  refine aw_copy dX9_becomeAside_43 mjX9_104 st_ac na_ac in_java_lang_System (TownS.s9 hU) (TownS.s9 hT) rfl rfl rfl (by decide) (by decide) (Nat.le_of_ble_eq_true rfl) (rb0 (by decide)) ?_
  refine aw_aload_n dX9_becomeAside_46 rfl ?_
  refine aw_getR dX9_becomeAside_47 fgX9_50 rfl (TownS.s0 hU) (TownS.r0_6 hU) ?_
  refine aw_iconst (v := nI 0) dX9_becomeAside_50 kc_0 ?_
  refine aw_aload_n dX9_becomeAside_51 rfl ?_
  refine aw_getR dX9_becomeAside_52 fgX9_50 rfl (TownS.s0 hT) (TownS.r0_6 hT) ?_
  refine aw_iconst (v := nI 0) dX9_becomeAside_55 kc_0 ?_
  refine aw_bipush (v := nI 7) dX9_becomeAside_56 kb_7 ?_
  refine aw_copy dX9_becomeAside_58 mjX9_104 st_ac na_ac in_java_lang_System (TownS.s10 hU) (TownS.s10 hT) rfl rfl rfl (by decide) (by decide) (Nat.le_of_ble_eq_true rfl) (rb0 (by decide)) ?_
  refine aw_aload_n dX9_becomeAside_61 rfl ?_
  refine aw_getR dX9_becomeAside_62 fgX9_53 rfl (TownS.s0 hU) (TownS.r0_7 hU) ?_
  refine aw_iconst (v := nI 0) dX9_becomeAside_65 kc_0 ?_
  refine aw_aload_n dX9_becomeAside_66 rfl ?_
  refine aw_getR dX9_becomeAside_67 fgX9_53 rfl (TownS.s0 hT) (TownS.r0_7 hT) ?_
  refine aw_iconst (v := nI 0) dX9_becomeAside_70 kc_0 ?_
  refine aw_bipush (v := nI 7) dX9_becomeAside_71 kb_7 ?_
  refine aw_copy dX9_becomeAside_73 mjX9_104 st_ac na_ac in_java_lang_System (TownS.s11 hU) (TownS.s11 hT) rfl rfl rfl (by decide) (by decide) (Nat.le_of_ble_eq_true rfl) (rb0 (by decide)) ?_
  refine aw_aload_n dX9_becomeAside_76 rfl ?_
  refine aw_getR dX9_becomeAside_77 fgX9_56 rfl (TownS.s0 hU) (TownS.r0_8 hU) ?_
  refine aw_iconst (v := nI 0) dX9_becomeAside_80 kc_0 ?_
  refine aw_aload_n dX9_becomeAside_81 rfl ?_
  refine aw_getR dX9_becomeAside_82 fgX9_56 rfl (TownS.s0 hT) (TownS.r0_8 hT) ?_
  refine aw_iconst (v := nI 0) dX9_becomeAside_85 kc_0 ?_
  refine aw_bipush (v := nI 7) dX9_becomeAside_86 kb_7 ?_
  refine aw_copy dX9_becomeAside_88 mjX9_104 st_ac na_ac in_java_lang_System (TownS.s12 hU) (TownS.s12 hT) rfl rfl rfl (by decide) (by decide) (Nat.le_of_ble_eq_true rfl) (rb0 (by decide)) ?_
  refine aw_aload_n dX9_becomeAside_91 rfl ?_
  refine aw_getR dX9_becomeAside_92 fgX9_59 rfl (TownS.s0 hU) (TownS.r0_9 hU) ?_
  refine aw_iconst (v := nI 0) dX9_becomeAside_95 kc_0 ?_
  refine aw_aload_n dX9_becomeAside_96 rfl ?_
  refine aw_getR dX9_becomeAside_97 fgX9_59 rfl (TownS.s0 hT) (TownS.r0_9 hT) ?_
  refine aw_iconst (v := nI 0) dX9_becomeAside_100 kc_0 ?_
  refine aw_iconst (v := nI 5) dX9_becomeAside_101 kc_5 ?_
  refine aw_copy dX9_becomeAside_102 mjX9_104 st_ac na_ac in_java_lang_System (TownS.s13 hU) (TownS.s13 hT) rfl rfl rfl (by decide) (by decide) (Nat.le_of_ble_eq_true rfl) (rb0 (by decide)) ?_
  refine aw_vret dX9_becomeAside_105 rfl (rb0 (Nat.zero_le _)) ⟨rfl, rfl, rfl, rfl⟩
def beM (T U : Nat) (iv : IV) : IV := cpF (cpF (cpF (va_up (cpF (cpF (cpF (becM T U iv) (U + 14) (T + 14) 7) (U + 15) (T + 15) 7) (U + 16) (T + 16) 5) T (upd (cpF (cpF (cpF (becM T U iv) (U + 14) (T + 14) 7) (U + 15) (T + 15) 7) (U + 16) (T + 16) 5 T) 2 (cpF (cpF (cpF (becM T U iv) (U + 14) (T + 14) 7) (U + 15) (T + 15) 7) (U + 16) (T + 16) 5 U 2))) (U + 17) (T + 17) 40) (U + 18) (T + 18) 40) (U + 19) (T + 19) 40
theorem t_become {G : GC} {E : SH} {iv : IV} {lv : LV} {T U : Nat} (hT : TownS G E T) (hU : TownS G E U) : ExV G mX9_become 2 [.ref T, .ref U] E iv lv (beM T U iv) lv := by
  refine spec0_of (lo := [_,_]) (by decide) (Nat.le_of_ble_eq_true rfl) rfl ?_
  refine aw_aload_n dX9_become_0 rfl ?_
  refine aw_aload_n dX9_become_1 rfl ?_
  refine aw_xVv [_] dX9_become_2 cvX9_110 (TownS.s0 hT) (t_becomeAside hT hU) rfl rfl (Nat.le_of_ble_eq_true rfl) (rb0 (by decide)) ?_
  refine aw_aload_n dX9_become_5 rfl ?_
  refine aw_getR dX9_become_6 fgX9_62 rfl (TownS.s0 hU) (TownS.r0_10 hU) ?_
  refine aw_iconst (v := nI 0) dX9_become_9 kc_0 ?_
  refine aw_aload_n dX9_become_10 rfl ?_
  refine aw_getR dX9_become_11 fgX9_62 rfl (TownS.s0 hT) (TownS.r0_10 hT) ?_
  refine aw_iconst (v := nI 0) dX9_become_14 kc_0 ?_
  refine aw_bipush (v := nI 7) dX9_become_15 kb_7 ?_
  refine aw_copy dX9_become_17 mjX9_104 st_ac na_ac in_java_lang_System (TownS.s14 hU) (TownS.s14 hT) rfl rfl rfl (by decide) (by decide) (Nat.le_of_ble_eq_true rfl) (rb0 (by decide)) ?_
  refine aw_aload_n dX9_become_20 rfl ?_
  refine aw_getR dX9_become_21 fgX9_65 rfl (TownS.s0 hU) (TownS.r0_11 hU) ?_
  refine aw_iconst (v := nI 0) dX9_become_24 kc_0 ?_
  refine aw_aload_n dX9_become_25 rfl ?_
  refine aw_getR dX9_become_26 fgX9_65 rfl (TownS.s0 hT) (TownS.r0_11 hT) ?_
  refine aw_iconst (v := nI 0) dX9_become_29 kc_0 ?_
  refine aw_bipush (v := nI 7) dX9_become_30 kb_7 ?_
  refine aw_copy dX9_become_32 mjX9_104 st_ac na_ac in_java_lang_System (TownS.s15 hU) (TownS.s15 hT) rfl rfl rfl (by decide) (by decide) (Nat.le_of_ble_eq_true rfl) (rb0 (by decide)) ?_
  refine aw_aload_n dX9_become_35 rfl ?_
  refine aw_getR dX9_become_36 fgX9_68 rfl (TownS.s0 hU) (TownS.r0_12 hU) ?_
  refine aw_iconst (v := nI 0) dX9_become_39 kc_0 ?_
  refine aw_aload_n dX9_become_40 rfl ?_
  refine aw_getR dX9_become_41 fgX9_68 rfl (TownS.s0 hT) (TownS.r0_12 hT) ?_
  refine aw_iconst (v := nI 0) dX9_become_44 kc_0 ?_
  refine aw_iconst (v := nI 5) dX9_become_45 kc_5 ?_
  refine aw_copy dX9_become_46 mjX9_104 st_ac na_ac in_java_lang_System (TownS.s16 hU) (TownS.s16 hT) rfl rfl rfl (by decide) (by decide) (Nat.le_of_ble_eq_true rfl) (rb0 (by decide)) ?_
  refine aw_aload_n dX9_become_49 rfl ?_
  refine aw_aload_n dX9_become_50 rfl ?_
  refine aw_getI dX9_become_51 fgX9_18 rfl (TownS.s0 hU) ?_
  refine aw_putI dX9_become_54 fpX9_18 rfl (TownS.s0 hT) ?_
  refine aw_aload_n dX9_become_57 rfl ?_
  refine aw_getR dX9_become_58 fgX9_71 rfl (TownS.s0 hU) (TownS.r0_13 hU) ?_
  refine aw_iconst (v := nI 0) dX9_become_61 kc_0 ?_
  refine aw_aload_n dX9_become_62 rfl ?_
  refine aw_getR dX9_become_63 fgX9_71 rfl (TownS.s0 hT) (TownS.r0_13 hT) ?_
  refine aw_iconst (v := nI 0) dX9_become_66 kc_0 ?_
  refine aw_bipush (v := nI 40) dX9_become_67 kb_40 ?_
  refine aw_copy dX9_become_69 mjX9_104 st_ac na_ac in_java_lang_System (TownS.s17 hU) (TownS.s17 hT) rfl rfl rfl (by decide) (by decide) (Nat.le_of_ble_eq_true rfl) (rb0 (by decide)) ?_
  refine aw_aload_n dX9_become_72 rfl ?_
  refine aw_getR dX9_become_73 fgX9_74 rfl (TownS.s0 hU) (TownS.r0_14 hU) ?_
  refine aw_iconst (v := nI 0) dX9_become_76 kc_0 ?_
  refine aw_aload_n dX9_become_77 rfl ?_
  refine aw_getR dX9_become_78 fgX9_74 rfl (TownS.s0 hT) (TownS.r0_14 hT) ?_
  refine aw_iconst (v := nI 0) dX9_become_81 kc_0 ?_
  refine aw_bipush (v := nI 40) dX9_become_82 kb_40 ?_
  refine aw_copy dX9_become_84 mjX9_104 st_ac na_ac in_java_lang_System (TownS.s18 hU) (TownS.s18 hT) rfl rfl rfl (by decide) (by decide) (Nat.le_of_ble_eq_true rfl) (rb0 (by decide)) ?_
  refine aw_aload_n dX9_become_87 rfl ?_
  refine aw_getR dX9_become_88 fgX9_77 rfl (TownS.s0 hU) (TownS.r0_15 hU) ?_
  refine aw_iconst (v := nI 0) dX9_become_91 kc_0 ?_
  refine aw_aload_n dX9_become_92 rfl ?_
  refine aw_getR dX9_become_93 fgX9_77 rfl (TownS.s0 hT) (TownS.r0_15 hT) ?_
  refine aw_iconst (v := nI 0) dX9_become_96 kc_0 ?_
  refine aw_bipush (v := nI 40) dX9_become_97 kb_40 ?_
  refine aw_copy dX9_become_99 mjX9_104 st_ac na_ac in_java_lang_System (TownS.s19 hU) (TownS.s19 hT) rfl rfl rfl (by decide) (by decide) (Nat.le_of_ble_eq_true rfl) (rb0 (by decide)) ?_
  refine aw_vret dX9_become_102 rfl (rb0 (Nat.zero_le _)) ⟨rfl, rfl, rfl, rfl⟩
theorem TR_g {T i : Nat} {s : TS} {v w : TV} {iv : IV} {x : Int32} (hi : i < s.1) (h : TR T s v iv) (hx : x = nI (w (6 + i))) (hw : ∀ k, k ≠ 6 + i → w k = v k) (h7 : s.1 ≤ 7) : TR T s w (va_up iv (T + 11) (upd (iv (T + 11)) i x)) := by
  refine ⟨by rw [va_up_n (by omega)]; exact h.1, by rw [va_up_n (by omega), hw 0 (by omega)]; exact h.2.1, fun j hj => ?_, fun c hc => ?_⟩
  · have g := h.2.2.1 j hj
    refine ⟨by rw [va_up_n (by omega)]; exact g.1, by rw [va_up_n (by omega)]; exact g.2.1, by rw [va_up_n (by omega)]; exact g.2.2.1, ?_, by rw [va_up_n (by omega), hw _ (by omega)]; exact g.2.2.2.2⟩
    rw [va_up_s]
    unfold upd
    by_cases e : j = i
    · subst e; rw [if_pos rfl, hx]
    · rw [if_neg e, hw _ (by omega)]; exact g.2.2.2.1
  · rw [va_up_n (by omega), hw _ (by omega)]; exact h.2.2.2 c hc
theorem lt_passDay {G : GC} {E : SH} {iv : IV} {lv : LV} {T : Nat} {s : TS} {v : TV} (hT : TownS G E T) (hs : WS s) (hr : TR T s v iv) (hw : WV s v) (hd : v 0 + 1 < 2 ^ 20) : ∀ (c i : Nat) (jv : IV), i + c = s.1 → TR T s (mix s v i) jv → (∀ b, b ≠ T + 11 → jv b = iv b) → AW G mX9_passDay (rm 4 0) (Z0 G 4 E (fun r i0 l => r = none ∧ (TR T s (pass s v) i0 ∧ (∀ b, b ≠ T → b ≠ T + 11 → i0 b = iv b) ∧ i0 T 2 = iv T 2 ∧ l = lv))) (fun _ => True) E.1 2 [some (.ref T), some (.int (nI i))] [] E jv lv := by
  have h7 := hs.1
  intro c
  induction c with
  | zero =>
    intro i jv hi hj hb
    have hi : i = s.1 := by omega
    subst hi
    refine aw_iload_n dX9_passDay_2 rfl ?_
    refine aw_aload_n dX9_passDay_3 rfl ?_
    refine aw_getI dX9_passDay_4 fgX9_9 rfl (TownS.s0 hT) ?_
    refine aw_icmp_ge (tgt := 45) dX9_passDay_7 rfl (fun h7 => ?_) (fun h7 => absurd (by rw [hj.1]; exact nI_le (Nat.le_refl _) (by omega)) h7)
    refine aw_aload_n dX9_passDay_45 rfl ?_
    refine aw_dup dX9_passDay_46 rfl ?_
    refine aw_getI dX9_passDay_47 fgX9_15 rfl (TownS.s0 hT) ?_
    rw [hj.2.1, mix_d]
    refine aw_iconst (v := nI 1) dX9_passDay_50 kc_1 ?_
    refine aw_iadd dX9_passDay_51 ?_
    rw [nI_add]
    refine aw_putI dX9_passDay_52 fpX9_15 rfl (TownS.s0 hT) ?_
    refine aw_vret dX9_passDay_55 rfl (rb0 (Nat.zero_le _)) ⟨rfl, rfl, ?_, fun b h1 h2 => (va_up_n h1).trans (hb b h2), by rw [va_up_s, ← hb T (by omega)]; rfl, rfl⟩
    refine ⟨by rw [va_up_s]; exact hj.1, by rw [va_up_s, pass_0]; rfl, fun j hj2 => ?_, fun c hc => ?_⟩
    · have g := hj.2.2.1 j hj2
      rw [va_up_n (by omega), va_up_n (by omega), va_up_n (by omega), va_up_n (by omega), va_up_n (by omega), pass_alk s hs.1 v (13 + j) (by omega)]
      refine ⟨g.1, g.2.1, g.2.2.1, ?_, ?_⟩
      · rw [g.2.2.2.1]
        unfold mix
        rw [if_pos (by omega)]
      · rw [g.2.2.2.2, mix_alk s v hs.1 _ (by omega)]
    · rw [va_up_n (by omega), hj.2.2.2 c hc, mix_alk s v hs.1 _ (by omega), pass_alk s hs.1 v _ (by omega)]
  | succ c ih =>
    intro i jv hi hj hb
    have h9 := hs.2 i (by omega)
    have hwm := WV_mix hs hw (i := i) (by omega)
    have h10 := hwm.1 i (by omega)
    have h11 : mood s (mix s v i) i ≤ 2 := by unfold mood; split <;> (try split) <;> omega
    refine aw_iload_n dX9_passDay_2 rfl ?_
    refine aw_aload_n dX9_passDay_3 rfl ?_
    refine aw_getI dX9_passDay_4 fgX9_9 rfl (TownS.s0 hT) ?_
    refine aw_icmp_ge (tgt := 45) dX9_passDay_7 rfl (fun h7 => absurd h7 (by rw [hj.1]; exact nI_ge (by omega) (by omega))) (fun h7 => ?_)
    refine aw_aload_n dX9_passDay_10 rfl ?_
    refine aw_getR dX9_passDay_11 fgX9_53 rfl (TownS.s0 hT) (TownS.r0_7 hT) ?_
    refine aw_iload_n dX9_passDay_14 rfl ?_
    refine aw_aload_n dX9_passDay_15 rfl ?_
    refine aw_iload_n dX9_passDay_16 rfl ?_
    refine aw_xVr [_] dX9_passDay_17 cvX9_121 (TownS.s0 hT) (t_sortOf hT hs hj (i := i) (by omega)) rfl rfl (Nat.le_of_ble_eq_true rfl) (rb0 (by decide)) ?_
    refine aw_aload_n dX9_passDay_20 rfl ?_
    refine aw_getR dX9_passDay_21 fgX9_53 rfl (TownS.s0 hT) (TownS.r0_7 hT) ?_
    refine aw_iload_n dX9_passDay_24 rfl ?_
    refine aw_iaload dX9_passDay_25 (TownS.s11 hT) rfl (by omega) ?_
    rw [(hj.2.2.1 i (by omega)).2.2.2.1]
    refine aw_aload_n dX9_passDay_26 rfl ?_
    refine aw_iload_n dX9_passDay_27 rfl ?_
    refine aw_xVi [_] dX9_passDay_28 cvX9_125 (TownS.s0 hT) (t_moodOf hT hs hj hwm (i := i) (by omega)) rfl rfl (Nat.le_of_ble_eq_true rfl) (rb0 (by decide)) ?_
    refine aw_aload_n dX9_passDay_31 rfl ?_
    refine aw_getI dX9_passDay_32 fgX9_15 rfl (TownS.s0 hT) ?_
    rw [hj.2.1]
    refine aw_xUi [_, _, _] dX9_passDay_35 (cuX9_129 _ h9.1) (TownS.sort hT h9.1).1 (e_grudgeBehind h9.1 (TownS.sort hT h9.1).1 h10.1 h11 hwm.2.2) rfl rfl (Nat.le_of_ble_eq_true rfl) (rb0 (by decide)) ?_
    refine aw_iastore dX9_passDay_38 (TownS.s11 hT) rfl (by omega) ?_
    refine aw_iinc (v := _) (lo' := [_,_]) dX9_passDay_39 rfl (nI_1 i) rfl ?_
    refine aw_goto (tgt := 2) dX9_passDay_42 rfl ?_
    refine ih (i + 1) _ (by omega) (TR_g (w := mix s v (i + 1)) (by omega) hj ?_ (fun k hk0 => ?_) hs.1) (fun b hb2 => (va_up_n hb2).trans (hb b hb2))
    · rw [mix_g, mix_d, mood_alk (mix_alk s v (i := i) (by omega)) (by rw [mix_alk s v (i := i) (by omega) _ (by omega)]; exact (hw.1 _ h9.2.2).2), ← pass_g (by omega)]
      unfold mix
      rw [if_pos (by omega)]
    · unfold mix
      by_cases q : 6 ≤ k ∧ k < 6 + i
      · rw [if_pos q, if_pos (by omega)]
      · rw [if_neg q, if_neg (by omega)]
theorem t_passDay {G : GC} {E : SH} {iv : IV} {lv : LV} {T : Nat} {s : TS} {v : TV} (hT : TownS G E T) (hs : WS s) (hr : TR T s v iv) (hw : WV s v) (hd : v 0 + 1 < 2 ^ 20) : SpV G mX9_passDay 4 [.ref T] E iv lv (fun i0 l => TR T s (pass s v) i0 ∧ (∀ b, b ≠ T → b ≠ T + 11 → i0 b = iv b) ∧ i0 T 2 = iv T 2 ∧ l = lv) := by
  refine spec0_of (lo := [_,_]) (by decide) (Nat.le_of_ble_eq_true rfl) rfl ?_
  refine aw_iconst (v := nI 0) dX9_passDay_0 kc_0 ?_
  refine aw_istore_n (lo' := [_,_]) dX9_passDay_1 (Nat.le_of_ble_eq_true rfl) rfl ?_
  exact lt_passDay hT hs hr hw hd s.1 0 iv (by omega) (by rw [mix_0]; exact hr) (fun _ _ => rfl)
