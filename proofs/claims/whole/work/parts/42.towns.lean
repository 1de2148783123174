def psG (g : Nat → Int32) (k : Nat) : Option PS := match psR g k with
  | .inl _ => none
  | .inr st => if st.1 % 5 = 0 ∧ 15 ≤ st.1 then some st else none
theorem psR_f {g : Nat → Int32} : ∀ {p f : Nat}, psR g p = .inl f → f < p
  | 0, f, h => by cases h
  | p + 1, f, h => by
    cases e : psR g p with
    | inl f2 =>
      rw [psR_l e 1] at h
      cases h
      have := psR_f e
      omega
    | inr s2 =>
      cases e2 : psS s2 (g p) with
      | none => rw [psR_n e e2] at h; cases h; omega
      | some s3 => rw [psR_s e e2] at h; cases h
theorem psF_9 {g : Nat → Int32} {k : Nat} (hk : k < 2 ^ 31) (h : psF g k = -9) : ∃ st, psR g k = .inr st ∧ gdP st ∧ psG g k = some st := by
  unfold psF at h
  cases e : psR g k with
  | inl f =>
    rw [e] at h
    have hf := psR_f e
    exact absurd h (nI_n9 (by omega))
  | inr st =>
    rw [e] at h
    dsimp only at h
    by_cases hg : st.1 % 5 = 0 ∧ 15 ≤ st.1
    · exact ⟨st, rfl, hg, by unfold psG; rw [e]; exact if_pos hg⟩
    · rw [if_neg hg] at h
      exact absurd h (nI_n9 hk)
theorem psF_n {g : Nat → Int32} {k : Nat} (h : psF g k ≠ -9) : psG g k = none := by
  unfold psF at h
  unfold psG
  cases e : psR g k with
  | inl f => rfl
  | inr st =>
    rw [e] at h
    dsimp only at h ⊢
    by_cases hg : st.1 % 5 = 0 ∧ 15 ≤ st.1
    · rw [if_pos hg] at h; exact absurd rfl h
    · exact if_neg hg
def oFault (A : AA) (D : DD) (T : FT) (t : Int32) : RS := if bad t 4 then (-1, A, D, T) else match D.2.2.1 (ix t) with
  | none => (-3, fnd A 1, D, T)
  | some k => (psF (D.2.2.2 (ix t)) k, A, D, T)
def oTown (A : AA) (D : DD) (T : FT) (t : Int32) : RS := if bad t 4 then (-1, A, D, T) else match D.2.2.1 (ix t) with
  | none => (-3, fnd A 1, D, T)
  | some k => match psG (D.2.2.2 (ix t)) k with
    | none => (-4, A, D, T)
    | some st => (nI (nT st), A, D, (sTn st, (0, fun _ => vTn st (nowT T)), fun _ => none))
theorem QC_rd {X : Nat} {A : AA} {D : DD} {T : FT} {iv i : IV} {lv : LV} {o : RS} {v : Int32} (hA : CA X A iv lv) (hD : CD X D iv) (hT : CT X T iv) (hq : ∀ b, b ≠ X + 3 → b ≠ X + 3 + 1 → i b = iv b) (e : o = (v, A, D, T)) : QC X iv lv o v i lv := by
  subst e
  exact ⟨rfl, CA_of hA (hq _ (by omega) (by omega)) (hq _ (by omega) (by omega)), CD_of (fun b h1 h2 => hq b (by omega) (by omega)) hD, CT_of (fun b hb => hq b (by omega) (by omega)) hT, fun b hb => hq b (by omega) (by omega), fun _ _ => rfl⟩
theorem x_fault {G : GC} {E : SH} {iv : IV} {lv : LV} {X : Nat} (hX : XS G E X) {A : AA} {D : DD} {T : FT} (hA : CA X A iv lv) (hD : CD X D iv) (hT : CT X T iv) (hW : WT T) (hDW : WD D) (t : Int32) : SpI G mX10_fault 4 [.ref X, .int t] E iv lv (QC X iv lv (oFault A D T t)) := by
  by_cases hb : bad t 4
  · refine spec0_of (lo := [_,_]) (by decide) (Nat.le_of_ble_eq_true rfl) rfl ?_
    refine aw_aload_n dX10_fault_0 rfl ?_
    refine aw_iload_n dX10_fault_1 rfl ?_
    refine aw_xVi [_] dX10_fault_2 cvX10_107 (XS.s0 hX) (e_isText t) rfl rfl (Nat.le_of_ble_eq_true rfl) (rb0 (by decide)) ?_
    refine aw_if_ne (tgt := 10) dX10_fault_5 rfl (fun h5 => ?_) (fun h5 => ?_)
    · exact absurd hb (fun q => q (zI_n0.mp h5))
    · refine aw_iconst (v := (-1)) dX10_fault_8 kc_m1 ?_
      refine aw_iret dX10_fault_9 rfl (rb0 (Nat.zero_le _)) ⟨rfl, _, rfl, ?_⟩
      refine QC_no hA hD hT ?_
      exact if_pos hb
  obtain ⟨j, hj, rfl⟩ := ix_of hb (by decide)
  cases hk : D.2.2.1 j with
  | none =>
    have e : oFault A D T (nI j) = (-3, fnd A 1, D, T) := by
      unfold oFault
      rw [if_neg hb, ix_nI (by omega), hk]
    have hz := hD.2.2.1 j hj
    rw [hk] at hz
    refine spec0_of (lo := [_,_]) (by decide) (Nat.le_of_ble_eq_true rfl) rfl ?_
    refine aw_aload_n dX10_fault_0 rfl ?_
    refine aw_iload_n dX10_fault_1 rfl ?_
    refine aw_xVi [_] dX10_fault_2 cvX10_107 (XS.s0 hX) (e_isText (nI j)) rfl rfl (Nat.le_of_ble_eq_true rfl) (rb0 (by decide)) ?_
    refine aw_if_ne (tgt := 10) dX10_fault_5 rfl (fun h5 => ?_) (fun h5 => ?_)
    · refine aw_aload_n dX10_fault_10 rfl ?_
      refine aw_getR dX10_fault_11 fgX10_15 rfl (XS.s0 hX) (XS.r0_1 hX) ?_
      refine aw_iload_n dX10_fault_14 rfl ?_
      refine aw_aaload dX10_fault_15 (XS.s2 hX) ⟨by decide, by decide⟩ rfl hj (XS.textr hX hj) ?_
      refine aw_xVi [] dX10_fault_16 cvX10_83 (StripS.s0 (XS.text hX hj)) (e_isThere (XS.text hX hj)) rfl rfl (Nat.le_of_ble_eq_true rfl) (rb0 (by decide)) ?_
      refine aw_if_ne (tgt := 28) dX10_fault_19 rfl (fun h19 => ?_) (fun h19 => ?_)
      · (rw [hz] at h19; exact absurd (zI_n0.mp h19) (by decide))
      · refine aw_aload_n dX10_fault_22 rfl ?_
        refine aw_iconst (v := nI 1) dX10_fault_23 kc_1 ?_
        refine aw_xVi [_] dX10_fault_24 cvX10_68 (XS.s0 hX) (e_foundOut hX (f := 1) (by decide) (by decide)) rfl rfl (Nat.le_of_ble_eq_true rfl) (rb0 (by decide)) ?_
        refine aw_iret dX10_fault_27 rfl (rb0 (Nat.zero_le _)) ⟨rfl, _, rfl, ?_⟩
        exact QC_fnd hA hD hT (by decide) e
    · exact absurd (zi_bad h5) hb
  | some k =>
    have hk60 : k ≤ 60 := hDW.2 j hj k hk
    have hz : iv (X + (70 + 2 * j)) 1 = nI k := by rw [hD.2.2.1 j hj, hk]; rfl
    have hg : ∀ i, i < k → iv (X + (70 + 2 * j) + 1) i = D.2.2.2 j i := fun i hi => hD.2.2.2 j i hj (by omega)
    refine spec0_of (lo := [_,_]) (by decide) (Nat.le_of_ble_eq_true rfl) rfl ?_
    refine aw_aload_n dX10_fault_0 rfl ?_
    refine aw_iload_n dX10_fault_1 rfl ?_
    refine aw_xVi [_] dX10_fault_2 cvX10_107 (XS.s0 hX) (e_isText (nI j)) rfl rfl (Nat.le_of_ble_eq_true rfl) (rb0 (by decide)) ?_
    refine aw_if_ne (tgt := 10) dX10_fault_5 rfl (fun h5 => ?_) (fun h5 => ?_)
    · refine aw_aload_n dX10_fault_10 rfl ?_
      refine aw_getR dX10_fault_11 fgX10_15 rfl (XS.s0 hX) (XS.r0_1 hX) ?_
      refine aw_iload_n dX10_fault_14 rfl ?_
      refine aw_aaload dX10_fault_15 (XS.s2 hX) ⟨by decide, by decide⟩ rfl hj (XS.textr hX hj) ?_
      refine aw_xVi [] dX10_fault_16 cvX10_83 (StripS.s0 (XS.text hX hj)) (e_isThere (XS.text hX hj)) rfl rfl (Nat.le_of_ble_eq_true rfl) (rb0 (by decide)) ?_
      refine aw_if_ne (tgt := 28) dX10_fault_19 rfl (fun h19 => ?_) (fun h19 => ?_)
      · refine aw_aload_n dX10_fault_28 rfl ?_
        refine aw_getR dX10_fault_29 fgX10_21 rfl (XS.s0 hX) (XS.r0_2 hX) ?_
        refine aw_aload_n dX10_fault_32 rfl ?_
        refine aw_getR dX10_fault_33 fgX10_15 rfl (XS.s0 hX) (XS.r0_1 hX) ?_
        refine aw_iload_n dX10_fault_36 rfl ?_
        refine aw_aaload dX10_fault_37 (XS.s2 hX) ⟨by decide, by decide⟩ rfl hj (XS.textr hX hj) ?_
        refine aw_sVi [_] dX10_fault_38 cvX10_110 (ReadS.s0 (XS.read hX)) (c_faultOf (XS.read hX) (XS.text hX hj) (by decide) hz (by omega) (by omega) hg) rfl rfl (Nat.le_of_ble_eq_true rfl) (rb0 (by decide)) (fun kw kv klv hk => ?_)
        obtain ⟨k0, k1, k2, rfl⟩ := hk
        refine aw_iret dX10_fault_41 rfl (rb0 (Nat.zero_le _)) ⟨rfl, _, rfl, ?_⟩
        refine QC_rd hA hD hT k2 ?_
        unfold oFault
        rw [if_neg hb, ix_nI (by omega), hk, k0]
      · (rw [hz] at h19; exact absurd (nI_pos' (by omega)) (zI_0.mp h19))
    · exact absurd (zi_bad h5) hb
theorem lo_town {G : GC} {E : SH} {iv : IV} {lv : LV} {X : Nat} (hX : XS G E X) {st : PS} {v0 : TV} {t : Int32} {Q : Option Value → IV → LV → Prop} (hQ : ∀ i0, TF (X + 5) (sTn st) 0 (fun _ => vTn st v0) i0 → (∀ k, k < 3 → i0 (X + (78 + 20 * k)) 0 = nI 0) → (∀ b, (b < X + 3 ∨ (X + 25 ≤ b ∧ b < X + 78) ∨ X + 138 ≤ b) → i0 b = iv b) → Q (some (.int (nI (nT st)))) i0 lv) : ∀ (c i : Nat) (jv : IV), i + c = 3 → TF (X + 5) (sTn st) 0 (fun _ => vTn st v0) jv → (∀ k, k < i → jv (X + (78 + 20 * k)) 0 = nI 0) → (∀ b, (b < X + 3 ∨ (X + 25 ≤ b ∧ b < X + 78) ∨ X + 138 ≤ b) → jv b = iv b) → AW G mX10_town (rm 4 0) (Z0 G 4 E Q) (fun _ => True) E.1 62 [some (.ref X), some (.int t), some (.int (nI i))] [] E jv lv := by
  intro c
  induction c with
  | zero =>
    intro i jv hi hf hz hq
    have hi : i = 3 := by omega
    subst hi
    have h0 : jv (X + 5) 0 = nI (nT st) := hf.1.1
    refine aw_iload_n dX10_town_62 rfl ?_
    refine aw_iconst (v := nI 3) dX10_town_63 kc_3 ?_
    refine aw_icmp_ge (tgt := 83) dX10_town_64 rfl (fun h64 => ?_) (fun h64 => absurd (by decide) h64)
    refine aw_aload_n dX10_town_83 rfl ?_
    refine aw_getR dX10_town_84 fgX10_28 rfl (XS.s0 hX) (XS.r0_3 hX) ?_
    refine aw_getI dX10_town_87 fgX10_118 rfl (TownS.s0 (XS.town hX)) ?_
    rw [h0]
    refine aw_iret dX10_town_90 rfl (rb0 (Nat.zero_le _)) ⟨rfl, hQ jv hf hz hq⟩
  | succ c ih =>
    intro i jv hi hf hz hq
    refine aw_iload_n dX10_town_62 rfl ?_
    refine aw_iconst (v := nI 3) dX10_town_63 kc_3 ?_
    refine aw_icmp_ge (tgt := 83) dX10_town_64 rfl (fun h64 => absurd h64 (nI_ge (by omega) (by decide))) (fun h64 => ?_)
    refine aw_aload_n dX10_town_67 rfl ?_
    refine aw_getR dX10_town_68 fgX10_32 rfl (XS.s0 hX) (XS.r0_4 hX) ?_
    refine aw_iload_n dX10_town_71 rfl ?_
    refine aw_aaload dX10_town_72 (XS.s25 hX) ⟨by decide, by decide⟩ rfl (by omega) (XS.keptr hX (k := i) (by omega)) ?_
    refine aw_iconst (v := nI 0) dX10_town_73 kc_0 ?_
    refine aw_putI dX10_town_74 fpX10_118 rfl (TownS.s0 (XS.kept hX (k := i) (by omega))) ?_
    refine aw_iinc (v := _) (lo' := [_,_,_]) dX10_town_77 rfl (nI_1 i) rfl ?_
    refine aw_goto (tgt := 62) dX10_town_80 rfl ?_
    refine ih (i + 1) _ (by omega) (TF_of (fun b h1 h2 => va_up_n (by omega)) hf) (fun k hk => ?_) (fun b hb => by rw [va_up_n (by omega)]; exact hq b hb)
    by_cases e : k = i
    · subst e; rw [va_up_s]; rfl
    · rw [va_up_n (by omega)]; exact hz k (by omega)
theorem x_town {G : GC} {E : SH} {iv : IV} {lv : LV} {X : Nat} (hX : XS G E X) {A : AA} {D : DD} {T : FT} (hA : CA X A iv lv) (hD : CD X D iv) (hT : CT X T iv) (hW : WT T) (hDW : WD D) (t : Int32) : SpI G mX10_town 4 [.ref X, .int t] E iv lv (QC X iv lv (oTown A D T t)) := by
  by_cases hb : bad t 4
  · refine spec0_of (lo := [_,_,_]) (by decide) (Nat.le_of_ble_eq_true rfl) rfl ?_
    refine aw_aload_n dX10_town_0 rfl ?_
    refine aw_iload_n dX10_town_1 rfl ?_
    refine aw_xVi [_] dX10_town_2 cvX10_107 (XS.s0 hX) (e_isText t) rfl rfl (Nat.le_of_ble_eq_true rfl) (rb0 (by decide)) ?_
    refine aw_if_ne (tgt := 10) dX10_town_5 rfl (fun h5 => ?_) (fun h5 => ?_)
    · exact absurd hb (fun q => q (zI_n0.mp h5))
    · refine aw_iconst (v := (-1)) dX10_town_8 kc_m1 ?_
      refine aw_iret dX10_town_9 rfl (rb0 (Nat.zero_le _)) ⟨rfl, _, rfl, ?_⟩
      refine QC_no hA hD hT ?_
      exact if_pos hb
  obtain ⟨j, hj, rfl⟩ := ix_of hb (by decide)
  cases hk : D.2.2.1 j with
  | none =>
    have e : oTown A D T (nI j) = (-3, fnd A 1, D, T) := by
      unfold oTown
      rw [if_neg hb, ix_nI (by omega), hk]
    have hz := hD.2.2.1 j hj
    rw [hk] at hz
    refine spec0_of (lo := [_,_,_]) (by decide) (Nat.le_of_ble_eq_true rfl) rfl ?_
    refine aw_aload_n dX10_town_0 rfl ?_
    refine aw_iload_n dX10_town_1 rfl ?_
    refine aw_xVi [_] dX10_town_2 cvX10_107 (XS.s0 hX) (e_isText (nI j)) rfl rfl (Nat.le_of_ble_eq_true rfl) (rb0 (by decide)) ?_
    refine aw_if_ne (tgt := 10) dX10_town_5 rfl (fun h5 => ?_) (fun h5 => ?_)
    · refine aw_aload_n dX10_town_10 rfl ?_
      refine aw_getR dX10_town_11 fgX10_15 rfl (XS.s0 hX) (XS.r0_1 hX) ?_
      refine aw_iload_n dX10_town_14 rfl ?_
      refine aw_aaload dX10_town_15 (XS.s2 hX) ⟨by decide, by decide⟩ rfl hj (XS.textr hX hj) ?_
      refine aw_xVi [] dX10_town_16 cvX10_83 (StripS.s0 (XS.text hX hj)) (e_isThere (XS.text hX hj)) rfl rfl (Nat.le_of_ble_eq_true rfl) (rb0 (by decide)) ?_
      refine aw_if_ne (tgt := 28) dX10_town_19 rfl (fun h19 => ?_) (fun h19 => ?_)
      · (rw [hz] at h19; exact absurd (zI_n0.mp h19) (by decide))
      · refine aw_aload_n dX10_town_22 rfl ?_
        refine aw_iconst (v := nI 1) dX10_town_23 kc_1 ?_
        refine aw_xVi [_] dX10_town_24 cvX10_68 (XS.s0 hX) (e_foundOut hX (f := 1) (by decide) (by decide)) rfl rfl (Nat.le_of_ble_eq_true rfl) (rb0 (by decide)) ?_
        refine aw_iret dX10_town_27 rfl (rb0 (Nat.zero_le _)) ⟨rfl, _, rfl, ?_⟩
        exact QC_fnd hA hD hT (by decide) e
    · exact absurd (zi_bad h5) hb
  | some k =>
    have hk60 : k ≤ 60 := hDW.2 j hj k hk
    have hz : iv (X + (70 + 2 * j)) 1 = nI k := by rw [hD.2.2.1 j hj, hk]; rfl
    have hg : ∀ i, i < k → iv (X + (70 + 2 * j) + 1) i = D.2.2.2 j i := fun i hi => hD.2.2.2 j i hj (by omega)
    refine spec0_of (lo := [_,_,_]) (by decide) (Nat.le_of_ble_eq_true rfl) rfl ?_
    refine aw_aload_n dX10_town_0 rfl ?_
    refine aw_iload_n dX10_town_1 rfl ?_
    refine aw_xVi [_] dX10_town_2 cvX10_107 (XS.s0 hX) (e_isText (nI j)) rfl rfl (Nat.le_of_ble_eq_true rfl) (rb0 (by decide)) ?_
    refine aw_if_ne (tgt := 10) dX10_town_5 rfl (fun h5 => ?_) (fun h5 => ?_)
    · refine aw_aload_n dX10_town_10 rfl ?_
      refine aw_getR dX10_town_11 fgX10_15 rfl (XS.s0 hX) (XS.r0_1 hX) ?_
      refine aw_iload_n dX10_town_14 rfl ?_
      refine aw_aaload dX10_town_15 (XS.s2 hX) ⟨by decide, by decide⟩ rfl hj (XS.textr hX hj) ?_
      refine aw_xVi [] dX10_town_16 cvX10_83 (StripS.s0 (XS.text hX hj)) (e_isThere (XS.text hX hj)) rfl rfl (Nat.le_of_ble_eq_true rfl) (rb0 (by decide)) ?_
      refine aw_if_ne (tgt := 28) dX10_town_19 rfl (fun h19 => ?_) (fun h19 => ?_)
      · refine aw_aload_n dX10_town_28 rfl ?_
        refine aw_getR dX10_town_29 fgX10_21 rfl (XS.s0 hX) (XS.r0_2 hX) ?_
        refine aw_aload_n dX10_town_32 rfl ?_
        refine aw_getR dX10_town_33 fgX10_15 rfl (XS.s0 hX) (XS.r0_1 hX) ?_
        refine aw_iload_n dX10_town_36 rfl ?_
        refine aw_aaload dX10_town_37 (XS.s2 hX) ⟨by decide, by decide⟩ rfl hj (XS.textr hX hj) ?_
        refine aw_sVi [_] dX10_town_38 cvX10_110 (ReadS.s0 (XS.read hX)) (c_faultOf (XS.read hX) (XS.text hX hj) (by decide) hz (by omega) (by omega) hg) rfl rfl (Nat.le_of_ble_eq_true rfl) (rb0 (by decide)) (fun kw kv klv hk => ?_)
        obtain ⟨k0, k1, k2, rfl⟩ := hk
        refine aw_bipush (v := (-9)) dX10_town_41 kb_m9 ?_
        refine aw_icmp_eq (tgt := 49) dX10_town_43 rfl (fun h43 => ?_) (fun h43 => ?_)
        · obtain ⟨st, hst, hgd, hG⟩ := psF_9 (by omega) (k0.symm.trans h43)
          have e : oTown A D T (nI j) = (nI (nT st), A, D, (sTn st, (0, fun _ => vTn st (nowT T)), fun _ => none)) := by
            unfold oTown
            rw [if_neg hb, ix_nI (by omega), hk]
            dsimp only
            rw [hG]
          refine aw_aload_n dX10_town_49 rfl ?_
          refine aw_getR dX10_town_50 fgX10_28 rfl (XS.s0 hX) (XS.r0_3 hX) ?_
          refine aw_aload_n dX10_town_53 rfl ?_
          refine aw_getR dX10_town_54 fgX10_21 rfl (XS.s0 hX) (XS.r0_2 hX) ?_
          refine aw_sVv [_] dX10_town_57 cvX10_114 (TownS.s0 (XS.town hX)) (t_settle (v0 := nowT T) (XS.town hX) (XS.read hX) (by omega) (k1 st hst) (psR_W hst) hgd) rfl rfl (Nat.le_of_ble_eq_true rfl) (rb0 (by decide)) (fun kx ky hk2 => ?_)
          obtain ⟨q1, q2, rfl⟩ := hk2
          refine aw_iconst (v := nI 0) dX10_town_60 kc_0 ?_
          refine aw_istore_n (lo' := [_,_,_]) dX10_town_61 (Nat.le_of_ble_eq_true rfl) rfl ?_
          rw [e]
          refine lo_town hX (st := st) (v0 := nowT T) (iv := iv) (fun i0 hf hz hq => ⟨_, rfl, rfl, CA_of hA (hq _ (by omega)) (hq _ (by omega)), CD_of (fun b h1 h2 => hq b (by omega)) hD, ⟨hf, fun k hk _ => hz k hk, fun k hk K q => (by cases q)⟩, fun b hb => hq b (by omega), fun _ _ => rfl⟩) 3 0 kx (by omega) q1 (fun k h => absurd h (Nat.not_lt_zero k)) (fun b hb => by rw [q2 b (by omega)]; exact k2 b (by omega) (by omega))
        · have e : oTown A D T (nI j) = (-4, A, D, T) := by
            unfold oTown
            rw [if_neg hb, ix_nI (by omega), hk]
            dsimp only
            rw [psF_n (fun q => h43 (k0.trans q))]
          refine aw_bipush (v := (-4)) dX10_town_46 kb_m4 ?_
          refine aw_iret dX10_town_48 rfl (rb0 (Nat.zero_le _)) ⟨rfl, _, rfl, ?_⟩
          exact QC_rd hA hD hT k2 e
      · (rw [hz] at h19; exact absurd (nI_pos' (by omega)) (zI_0.mp h19))
    · exact absurd (zi_bad h5) hb
