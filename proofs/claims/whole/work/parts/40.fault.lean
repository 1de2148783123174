/-! the fault of a text -/
theorem figO_b {x : Int32} {most w : Nat} (hm : most ≤ 9) (h : figO x most = some w) : w ≤ most := by
  unfold figO at h
  split at h
  · rename_i hq
    obtain ⟨j, hj, e⟩ := ix_le (n := x - nI 48) (k := most) (Int32.not_lt.mpr hq.1) (Int32.not_lt.mpr hq.2) (by omega)
    rw [e, ix_nI (by omega)] at h
    cases h
    exact hj
  · cases h
theorem kdO_b {x : Int32} {w : Nat} (h : kdO x = some w) : w < 6 := by
  unfold kdO at h
  split at h
  · cases h; decide
  · split at h
    · cases h; decide
    · split at h
      · cases h; decide
      · split at h
        · cases h; decide
        · split at h
          · cases h; decide
          · split at h
            · cases h; decide
            · cases h
theorem vlO_b {n w : Nat} {x : Int32} (h : vlO n x = some w) : n < 40 ∧ w ≤ 9 ∧ (5 ≤ n → n % 5 = 0 → w < 6) ∧ (5 ≤ n → n % 5 = 4 → w ≤ 4) := by
  unfold vlO at h
  split at h
  · cases h
  · split at h
    · exact ⟨by omega, figO_b (by decide) h, fun q => by omega, fun q => by omega⟩
    · split at h
      · have hb := kdO_b h
        exact ⟨by omega, by omega, fun _ _ => hb, fun _ q => by omega⟩
      · split at h
        · have hb := figO_b (by decide) h
          exact ⟨by omega, by omega, fun _ q => by omega, fun _ _ => hb⟩
        · have hb := figO_b (by decide) h
          exact ⟨by omega, hb, fun _ q => by omega, fun _ q => by omega⟩
def WP (st : PS) : Prop := st.1 ≤ 40 ∧ ∀ j, j < st.1 → st.2 j ≤ 9 ∧ (5 ≤ j → j % 5 = 0 → st.2 j < 6) ∧ (5 ≤ j → j % 5 = 4 → st.2 j ≤ 4)
theorem psS_W {st st' : PS} {x : Int32} (h : WP st) (e : psS st x = some st') : WP st' := by
  unfold psS at e
  split at e
  · cases e; exact h
  · split at e
    · cases e
    · rename_i w hv
      cases e
      have hb := vlO_b hv
      refine ⟨hb.1, fun j hj => ?_⟩
      replace hj : j < st.1 + 1 := hj
      show va_up _ _ _ _ ≤ 9 ∧ (_ → _ → va_up _ _ _ _ < 6) ∧ (_ → _ → va_up _ _ _ _ ≤ 4)
      by_cases q : j = st.1
      · subst q
        rw [va_up_s]
        exact hb.2
      · rw [va_up_n q]
        exact h.2 j (by omega)
theorem psR_W {g : Nat → Int32} : ∀ {p : Nat} {st : PS}, psR g p = .inr st → WP st
  | 0, st, h => by
    cases h
    exact ⟨Nat.zero_le _, fun j hj => absurd hj (Nat.not_lt_zero j)⟩
  | p + 1, st, h => by
    cases e : psR g p with
    | inl f => rw [psR_l e 1] at h; cases h
    | inr s2 =>
      cases e2 : psS s2 (g p) with
      | none => rw [psR_n e e2] at h; cases h
      | some s3 =>
        rw [psR_s e e2] at h
        cases h
        exact psS_W (psR_W e) e2
theorem oM_p {q : Option Nat} (h : 0 ≤ oM q) : ∃ w, q = some w := by
  cases q with
  | none => exact absurd h (by decide)
  | some w => exact ⟨w, rfl⟩
theorem oM_n {q : Option Nat} (h : ¬ 0 ≤ oM q) (hb : ∀ w, q = some w → w < 2 ^ 31) : q = none := by
  cases q with
  | none => rfl
  | some w => exact absurd (nI_pos' (hb w rfl)) h
def PR (Y : Nat) (st : PS) (iv : IV) : Prop := iv Y 1 = nI st.1 ∧ ∀ j, j < st.1 → iv (Y + 1) j = nI (st.2 j)
theorem lo_fault {G : GC} {E : SH} {iv : IV} {lv : LV} {Y S z k : Nat} {g : Nat → Int32} (hY : ReadS G E Y) (hS : StripS G E S z) (hz : z < 2 ^ 31) (hk : iv S 1 = nI k) (hkz : k ≤ z) (hSY : Y + 1 < S) (hg : ∀ i, i < k → iv (S + 1) i = g i) : ∀ (c p : Nat) (jv : IV) (st : PS) (j3 j4 : Option Value), p + c = k → psR g p = .inr st → PR Y st jv → (∀ b, b ≠ Y → b ≠ Y + 1 → jv b = iv b) → AW G mX5_faultOf (rm 3 0) (Z0 G 3 E (fun r i0 l => ∃ w, r = some (.int w) ∧ (w = psF g k ∧ (∀ st, psR g k = .inr st → PR Y st i0) ∧ (∀ b, b ≠ Y → b ≠ Y + 1 → i0 b = iv b) ∧ l = lv))) (fun _ => True) E.1 7 [some (.ref Y), some (.ref S), some (.int (nI p)), j3, j4] [] E jv lv := by
  intro c
  induction c with
  | zero =>
    intro p jv st j3 j4 hc hp hr hq
    have hc : p = k := by omega
    subst hc
    have hW := psR_W hp
    have h40 := hW.1
    have hkj : jv S 1 = nI p := by rw [hq S (by omega) (by omega)]; exact hk
    by_cases h0 : st.1 = 0
    · have h01 : jv Y 1 = nI 0 := by rw [hr.1, h0]
      refine aw_iload_n dX5_faultOf_7 rfl ?_
      refine aw_aload_n dX5_faultOf_8 rfl ?_
      refine aw_getI dX5_faultOf_9 fgX5_19 rfl (StripS.s0 hS) ?_
      refine aw_icmp_ge (tgt := 81) dX5_faultOf_12 rfl (fun h12 => ?_) (fun h12 => absurd (by rw [hkj]; exact nI_le (Nat.le_refl _) (by omega)) h12)
      refine aw_aload_n dX5_faultOf_81 rfl ?_
      refine aw_getI dX5_faultOf_82 fgX5_15 rfl (ReadS.s0 hY) ?_
      rw [hr.1]
      refine aw_iconst (v := nI 5) dX5_faultOf_85 kc_5 ?_
      refine aw_irem dX5_faultOf_86 (by decide) ?_
      rw [pk_rem (by omega) (by decide) (by decide)]
      refine aw_if_ne (tgt := 102) dX5_faultOf_87 rfl (fun h87 => ?_) (fun h87 => ?_)
      · rw [← nI_0, nI_eq (by omega) (by omega)] at h87
        refine aw_iconst (v := nI 0) dX5_faultOf_102 kc_0 ?_
        refine aw_istore_n (lo' := [_,_,_,_,_]) dX5_faultOf_103 (Nat.le_of_ble_eq_true rfl) rfl ?_
        refine aw_iload_n dX5_faultOf_104 rfl ?_
        refine aw_if_eq (tgt := 113) dX5_faultOf_105 rfl (fun h105 => ?_) (fun h105 => absurd (by decide) h105)
        refine aw_aload_n dX5_faultOf_113 rfl ?_
        refine aw_getI dX5_faultOf_114 fgX5_19 rfl (StripS.s0 hS) ?_
        rw [hkj]
        refine aw_iret dX5_faultOf_117 rfl (rb0 (Nat.zero_le _)) ⟨rfl, _, rfl, ?_, fun st2 e => ?_, hq, rfl⟩
        · unfold psF
          rw [hp]
          dsimp only
          first
            | (rw [if_neg (by omega)]; done)
            | (rw [if_pos (by omega)]; done)
        · rw [hp] at e; cases e; exact hr
      · rw [← nI_0, nI_eq (by omega) (by omega)] at h87
        refine aw_aload_n dX5_faultOf_90 rfl ?_
        refine aw_xVi [] dX5_faultOf_91 cvX5_31 (ReadS.s0 hY) (e_howMany0 hY h01) rfl rfl (Nat.le_of_ble_eq_true rfl) (rb0 (by decide)) ?_
        refine aw_iconst (v := nI 2) dX5_faultOf_94 kc_2 ?_
        refine aw_icmp_lt (tgt := 102) dX5_faultOf_95 rfl (fun h95 => ?_) (fun h95 => ?_)
        · refine aw_iconst (v := nI 0) dX5_faultOf_102 kc_0 ?_
          refine aw_istore_n (lo' := [_,_,_,_,_]) dX5_faultOf_103 (Nat.le_of_ble_eq_true rfl) rfl ?_
          refine aw_iload_n dX5_faultOf_104 rfl ?_
          refine aw_if_eq (tgt := 113) dX5_faultOf_105 rfl (fun h105 => ?_) (fun h105 => absurd (by decide) h105)
          refine aw_aload_n dX5_faultOf_113 rfl ?_
          refine aw_getI dX5_faultOf_114 fgX5_19 rfl (StripS.s0 hS) ?_
          rw [hkj]
          refine aw_iret dX5_faultOf_117 rfl (rb0 (Nat.zero_le _)) ⟨rfl, _, rfl, ?_, fun st2 e => ?_, hq, rfl⟩
          · unfold psF
            rw [hp]
            dsimp only
            first
              | (rw [if_neg (by omega)]; done)
              | (rw [if_pos (by omega)]; done)
          · rw [hp] at e; cases e; exact hr
        · exact absurd (by decide) h95
    · skip
      refine aw_iload_n dX5_faultOf_7 rfl ?_
      refine aw_aload_n dX5_faultOf_8 rfl ?_
      refine aw_getI dX5_faultOf_9 fgX5_19 rfl (StripS.s0 hS) ?_
      refine aw_icmp_ge (tgt := 81) dX5_faultOf_12 rfl (fun h12 => ?_) (fun h12 => absurd (by rw [hkj]; exact nI_le (Nat.le_refl _) (by omega)) h12)
      refine aw_aload_n dX5_faultOf_81 rfl ?_
      refine aw_getI dX5_faultOf_82 fgX5_15 rfl (ReadS.s0 hY) ?_
      rw [hr.1]
      refine aw_iconst (v := nI 5) dX5_faultOf_85 kc_5 ?_
      refine aw_irem dX5_faultOf_86 (by decide) ?_
      rw [pk_rem (by omega) (by decide) (by decide)]
      refine aw_if_ne (tgt := 102) dX5_faultOf_87 rfl (fun h87 => ?_) (fun h87 => ?_)
      · rw [← nI_0, nI_eq (by omega) (by omega)] at h87
        refine aw_iconst (v := nI 0) dX5_faultOf_102 kc_0 ?_
        refine aw_istore_n (lo' := [_,_,_,_,_]) dX5_faultOf_103 (Nat.le_of_ble_eq_true rfl) rfl ?_
        refine aw_iload_n dX5_faultOf_104 rfl ?_
        refine aw_if_eq (tgt := 113) dX5_faultOf_105 rfl (fun h105 => ?_) (fun h105 => absurd (by decide) h105)
        refine aw_aload_n dX5_faultOf_113 rfl ?_
        refine aw_getI dX5_faultOf_114 fgX5_19 rfl (StripS.s0 hS) ?_
        rw [hkj]
        refine aw_iret dX5_faultOf_117 rfl (rb0 (Nat.zero_le _)) ⟨rfl, _, rfl, ?_, fun st2 e => ?_, hq, rfl⟩
        · unfold psF
          rw [hp]
          dsimp only
          first
            | (rw [if_neg (by omega)]; done)
            | (rw [if_pos (by omega)]; done)
        · rw [hp] at e; cases e; exact hr
      · rw [← nI_0, nI_eq (by omega) (by omega)] at h87
        refine aw_aload_n dX5_faultOf_90 rfl ?_
        refine aw_xVi [] dX5_faultOf_91 cvX5_31 (ReadS.s0 hY) (e_howMany hY (by omega) (by omega) hr.1) rfl rfl (Nat.le_of_ble_eq_true rfl) (rb0 (by decide)) ?_
        refine aw_iconst (v := nI 2) dX5_faultOf_94 kc_2 ?_
        refine aw_icmp_lt (tgt := 102) dX5_faultOf_95 rfl (fun h95 => ?_) (fun h95 => ?_)
        · rw [nI_ltI (by omega) (by omega)] at h95
          refine aw_iconst (v := nI 0) dX5_faultOf_102 kc_0 ?_
          refine aw_istore_n (lo' := [_,_,_,_,_]) dX5_faultOf_103 (Nat.le_of_ble_eq_true rfl) rfl ?_
          refine aw_iload_n dX5_faultOf_104 rfl ?_
          refine aw_if_eq (tgt := 113) dX5_faultOf_105 rfl (fun h105 => ?_) (fun h105 => absurd (by decide) h105)
          refine aw_aload_n dX5_faultOf_113 rfl ?_
          refine aw_getI dX5_faultOf_114 fgX5_19 rfl (StripS.s0 hS) ?_
          rw [hkj]
          refine aw_iret dX5_faultOf_117 rfl (rb0 (Nat.zero_le _)) ⟨rfl, _, rfl, ?_, fun st2 e => ?_, hq, rfl⟩
          · unfold psF
            rw [hp]
            dsimp only
            first
              | (rw [if_neg (by omega)]; done)
              | (rw [if_pos (by omega)]; done)
          · rw [hp] at e; cases e; exact hr
        · rw [nI_ltI (by omega) (by omega)] at h95
          refine aw_iconst (v := nI 1) dX5_faultOf_98 kc_1 ?_
          refine aw_goto (tgt := 103) dX5_faultOf_99 rfl ?_
          refine aw_istore_n (lo' := [_,_,_,_,_]) dX5_faultOf_103 (Nat.le_of_ble_eq_true rfl) rfl ?_
          refine aw_iload_n dX5_faultOf_104 rfl ?_
          refine aw_if_eq (tgt := 113) dX5_faultOf_105 rfl (fun h105 => absurd h105 (by decide)) (fun h105 => ?_)
          refine aw_bipush (v := (-9)) dX5_faultOf_108 kb_m9 ?_
          refine aw_goto (tgt := 117) dX5_faultOf_110 rfl ?_
          refine aw_iret dX5_faultOf_117 rfl (rb0 (Nat.zero_le _)) ⟨rfl, _, rfl, ?_, fun st2 e => ?_, hq, rfl⟩
          · unfold psF
            rw [hp]
            dsimp only
            first
              | (rw [if_neg (by omega)]; done)
              | (rw [if_pos (by omega)]; done)
          · rw [hp] at e; cases e; exact hr
  | succ c ih =>
    intro p jv st j3 j4 hc hp hr hq
    have hW := psR_W hp
    have h40 := hW.1
    have hkj : jv S 1 = nI k := by rw [hq S (by omega) (by omega)]; exact hk
    have hgj : jv (S + 1) p = g p := by rw [hq (S + 1) (by omega) (by omega)]; exact hg p (by omega)
    refine aw_iload_n dX5_faultOf_7 rfl ?_
    refine aw_aload_n dX5_faultOf_8 rfl ?_
    refine aw_getI dX5_faultOf_9 fgX5_19 rfl (StripS.s0 hS) ?_
    refine aw_icmp_ge (tgt := 81) dX5_faultOf_12 rfl (fun h12 => absurd h12 (by rw [hkj]; exact nI_ge (by omega) (by omega))) (fun h12 => ?_)
    refine aw_aload_n dX5_faultOf_15 rfl ?_
    refine aw_getR dX5_faultOf_16 fgX5_24 rfl (StripS.s0 hS) (StripS.r0_0 hS) ?_
    refine aw_iload_n dX5_faultOf_19 rfl ?_
    refine aw_iaload dX5_faultOf_20 (StripS.s1 hS) (hn := hz) rfl (by omega) ?_
    rw [hgj]
    refine aw_istore_n (lo' := [_,_,_,_,_]) dX5_faultOf_21 (Nat.le_of_ble_eq_true rfl) rfl ?_
    refine aw_iload_n dX5_faultOf_22 rfl ?_
    refine aw_bipush (v := nI 32) dX5_faultOf_23 kb_32 ?_
    refine aw_icmp_ne (tgt := 40) dX5_faultOf_25 rfl (fun h25 => ?_) (fun h25 => ?_)
    · have hnb : ¬ (g p = nI 32 ∧ st.1 % 5 = 0) := fun q => h25 q.1
      refine aw_aload_n dX5_faultOf_40 rfl ?_
      refine aw_iload_n dX5_faultOf_41 rfl ?_
      refine aw_xVi [_] dX5_faultOf_42 cvX5_27 (ReadS.s0 hY) (e_valueOf hY h40 hr.1 (g p)) rfl rfl (Nat.le_of_ble_eq_true rfl) (rb0 (by decide)) ?_
      refine aw_istore (lo' := [_,_,_,_,_]) dX5_faultOf_45 (Nat.le_of_ble_eq_true rfl) rfl ?_
      refine aw_iload dX5_faultOf_47 rfl ?_
      refine aw_if_ge (tgt := 54) dX5_faultOf_49 rfl (fun h49 => ?_) (fun h49 => ?_)
      · obtain ⟨w, hv⟩ := oM_p h49
        have hb := vlO_b hv
        rw [hv]
        refine aw_aload_n dX5_faultOf_54 rfl ?_
        refine aw_getR dX5_faultOf_55 fgX5_9 rfl (ReadS.s0 hY) (ReadS.r0_0 hY) ?_
        refine aw_aload_n dX5_faultOf_58 rfl ?_
        refine aw_getI dX5_faultOf_59 fgX5_15 rfl (ReadS.s0 hY) ?_
        rw [hr.1]
        refine aw_iload dX5_faultOf_62 rfl ?_
        refine aw_iastore dX5_faultOf_64 (ReadS.s1 hY) rfl (by omega) ?_
        refine aw_aload_n dX5_faultOf_65 rfl ?_
        refine aw_dup dX5_faultOf_66 rfl ?_
        refine aw_getI dX5_faultOf_67 fgX5_15 rfl (ReadS.s0 hY) ?_
        rw [va_up_n (by omega), hr.1]
        refine aw_iconst (v := nI 1) dX5_faultOf_70 kc_1 ?_
        refine aw_iadd dX5_faultOf_71 ?_
        rw [nI_add]
        refine aw_putI dX5_faultOf_72 fpX5_15 rfl (ReadS.s0 hY) ?_
        refine aw_iinc (v := _) (lo' := [_,_,_,_,_]) dX5_faultOf_75 rfl (nI_1 p) rfl ?_
        refine aw_goto (tgt := 7) dX5_faultOf_78 rfl ?_
        first
          | exact ih (p + 1) jv st _ _ (by omega) (psR_s hp (if_pos ⟨h25, h34⟩)) hr hq
          | (refine ih (p + 1) _ (st.1 + 1, va_up st.2 st.1 w) _ _ (by omega) (psR_s hp (by unfold psS; rw [if_neg hnb, hv])) ⟨?_, fun j hj => ?_⟩ (fun b h1 h2 => by rw [va_up_n h1, va_up_n h2]; exact hq b h1 h2)
             · rw [va_up_s]; rfl
             · rw [va_up_n (by omega), va_up_s]
               replace hj : j < st.1 + 1 := hj
               show _ = nI (va_up _ _ _ _)
               by_cases e : j = st.1
               · subst e; rw [va_up_s]; exact if_pos rfl
               · rw [va_up_n e]
                 refine (if_neg e).trans ?_
                 exact hr.2 j (by omega))
      · have hv := oM_n h49 (fun w e => by have hb := vlO_b e; omega)
        refine aw_iload_n dX5_faultOf_52 rfl ?_
        refine aw_iret dX5_faultOf_53 rfl (rb0 (Nat.zero_le _)) ⟨rfl, _, rfl, ?_, fun st2 e => ?_, hq, rfl⟩
        · have h := psR_l (psR_n hp (by unfold psS; rw [if_neg hnb, hv])) c
          rw [show p + 1 + c = k by omega] at h
          unfold psF
          rw [h]
        · have h := psR_l (psR_n hp (by unfold psS; rw [if_neg hnb, hv])) c
          rw [show p + 1 + c = k by omega] at h
          rw [h] at e; cases e
    · refine aw_aload_n dX5_faultOf_28 rfl ?_
      refine aw_getI dX5_faultOf_29 fgX5_15 rfl (ReadS.s0 hY) ?_
      rw [hr.1]
      refine aw_iconst (v := nI 5) dX5_faultOf_32 kc_5 ?_
      refine aw_irem dX5_faultOf_33 (by decide) ?_
      rw [pk_rem (by omega) (by decide) (by decide)]
      refine aw_if_ne (tgt := 40) dX5_faultOf_34 rfl (fun h34 => ?_) (fun h34 => ?_)
      · rw [← nI_0, nI_eq (by omega) (by omega)] at h34
        have hnb : ¬ (g p = nI 32 ∧ st.1 % 5 = 0) := fun q => h34 q.2
        refine aw_aload_n dX5_faultOf_40 rfl ?_
        refine aw_iload_n dX5_faultOf_41 rfl ?_
        refine aw_xVi [_] dX5_faultOf_42 cvX5_27 (ReadS.s0 hY) (e_valueOf hY h40 hr.1 (g p)) rfl rfl (Nat.le_of_ble_eq_true rfl) (rb0 (by decide)) ?_
        refine aw_istore (lo' := [_,_,_,_,_]) dX5_faultOf_45 (Nat.le_of_ble_eq_true rfl) rfl ?_
        refine aw_iload dX5_faultOf_47 rfl ?_
        refine aw_if_ge (tgt := 54) dX5_faultOf_49 rfl (fun h49 => ?_) (fun h49 => ?_)
        · obtain ⟨w, hv⟩ := oM_p h49
          have hb := vlO_b hv
          rw [hv]
          refine aw_aload_n dX5_faultOf_54 rfl ?_
          refine aw_getR dX5_faultOf_55 fgX5_9 rfl (ReadS.s0 hY) (ReadS.r0_0 hY) ?_
          refine aw_aload_n dX5_faultOf_58 rfl ?_
          refine aw_getI dX5_faultOf_59 fgX5_15 rfl (ReadS.s0 hY) ?_
          rw [hr.1]
          refine aw_iload dX5_faultOf_62 rfl ?_
          refine aw_iastore dX5_faultOf_64 (ReadS.s1 hY) rfl (by omega) ?_
          refine aw_aload_n dX5_faultOf_65 rfl ?_
          refine aw_dup dX5_faultOf_66 rfl ?_
          refine aw_getI dX5_faultOf_67 fgX5_15 rfl (ReadS.s0 hY) ?_
          rw [va_up_n (by omega), hr.1]
          refine aw_iconst (v := nI 1) dX5_faultOf_70 kc_1 ?_
          refine aw_iadd dX5_faultOf_71 ?_
          rw [nI_add]
          refine aw_putI dX5_faultOf_72 fpX5_15 rfl (ReadS.s0 hY) ?_
          refine aw_iinc (v := _) (lo' := [_,_,_,_,_]) dX5_faultOf_75 rfl (nI_1 p) rfl ?_
          refine aw_goto (tgt := 7) dX5_faultOf_78 rfl ?_
          first
            | exact ih (p + 1) jv st _ _ (by omega) (psR_s hp (if_pos ⟨h25, h34⟩)) hr hq
            | (refine ih (p + 1) _ (st.1 + 1, va_up st.2 st.1 w) _ _ (by omega) (psR_s hp (by unfold psS; rw [if_neg hnb, hv])) ⟨?_, fun j hj => ?_⟩ (fun b h1 h2 => by rw [va_up_n h1, va_up_n h2]; exact hq b h1 h2)
               · rw [va_up_s]; rfl
               · rw [va_up_n (by omega), va_up_s]
                 replace hj : j < st.1 + 1 := hj
                 show _ = nI (va_up _ _ _ _)
                 by_cases e : j = st.1
                 · subst e; rw [va_up_s]; exact if_pos rfl
                 · rw [va_up_n e]
                   refine (if_neg e).trans ?_
                   exact hr.2 j (by omega))
        · have hv := oM_n h49 (fun w e => by have hb := vlO_b e; omega)
          refine aw_iload_n dX5_faultOf_52 rfl ?_
          refine aw_iret dX5_faultOf_53 rfl (rb0 (Nat.zero_le _)) ⟨rfl, _, rfl, ?_, fun st2 e => ?_, hq, rfl⟩
          · have h := psR_l (psR_n hp (by unfold psS; rw [if_neg hnb, hv])) c
            rw [show p + 1 + c = k by omega] at h
            unfold psF
            rw [h]
          · have h := psR_l (psR_n hp (by unfold psS; rw [if_neg hnb, hv])) c
            rw [show p + 1 + c = k by omega] at h
            rw [h] at e; cases e
      · rw [← nI_0, nI_eq (by omega) (by omega)] at h34
        refine aw_goto (tgt := 75) dX5_faultOf_37 rfl ?_
        refine aw_iinc (v := _) (lo' := [_,_,_,_,_]) dX5_faultOf_75 rfl (nI_1 p) rfl ?_
        refine aw_goto (tgt := 7) dX5_faultOf_78 rfl ?_
        first
          | exact ih (p + 1) jv st _ _ (by omega) (psR_s hp (if_pos ⟨h25, h34⟩)) hr hq
          | (refine ih (p + 1) _ (st.1 + 1, va_up st.2 st.1 w) _ _ (by omega) (psR_s hp (by unfold psS; rw [if_neg hnb, hv])) ⟨?_, fun j hj => ?_⟩ (fun b h1 h2 => by rw [va_up_n h1, va_up_n h2]; exact hq b h1 h2)
             · rw [va_up_s]; rfl
             · rw [va_up_n (by omega), va_up_s]
               replace hj : j < st.1 + 1 := hj
               show _ = nI (va_up _ _ _ _)
               by_cases e : j = st.1
               · subst e; rw [va_up_s]; exact if_pos rfl
               · rw [va_up_n e]
                 refine (if_neg e).trans ?_
                 exact hr.2 j (by omega))
theorem c_faultOf {G : GC} {E : SH} {iv : IV} {lv : LV} {Y S z k : Nat} {g : Nat → Int32} (hY : ReadS G E Y) (hS : StripS G E S z) (hz : z < 2 ^ 31) (hk : iv S 1 = nI k) (hkz : k ≤ z) (hSY : Y + 1 < S) (hg : ∀ i, i < k → iv (S + 1) i = g i) : SpI G mX5_faultOf 3 [.ref Y, .ref S] E iv lv (fun w i0 l => w = psF g k ∧ (∀ st, psR g k = .inr st → PR Y st i0) ∧ (∀ b, b ≠ Y → b ≠ Y + 1 → i0 b = iv b) ∧ l = lv) := by
  refine spec0_of (lo := [_,_,_,_,_]) (by decide) (Nat.le_of_ble_eq_true rfl) rfl ?_
  refine aw_aload_n dX5_faultOf_0 rfl ?_
  refine aw_iconst (v := nI 0) dX5_faultOf_1 kc_0 ?_
  refine aw_putI dX5_faultOf_2 fpX5_15 rfl (ReadS.s0 hY) ?_
  refine aw_iconst (v := nI 0) dX5_faultOf_5 kc_0 ?_
  refine aw_istore_n (lo' := [_,_,_,_,_]) dX5_faultOf_6 (Nat.le_of_ble_eq_true rfl) rfl ?_
  refine lo_fault hY hS hz hk hkz hSY hg k 0 _ (0, fun _ => 0) none none (by omega) rfl ⟨by rw [va_up_s]; rfl, fun j hj => absurd hj (Nat.not_lt_zero j)⟩ (fun b h1 h2 => va_up_n h1)
