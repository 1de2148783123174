/-! the fault of a text, a town: the reference -/
def MPf (M : Nat) (st : PS) (iv : IV) : Prop := iv M 11 = nI (st.1 / 5 - 1) ∧ MPx M st iv
theorem QD_rd {M : Nat} {A : AA} {D : DD} {T : FT} {iv i : IV} {lv : LV} {o : RS} {v : Int32} (hA : MA M A iv lv) (hD : MD M D iv) (hT : MT M T iv) (hq : frR M i iv) (e : o = (v, A, D, T)) : QD M iv lv o v i lv := by
  subst e
  have h1 : ∀ b, b ≠ M → b ≠ M + 7 → b ≠ M + 8 → i b = iv b := hq.1
  exact ⟨rfl, ⟨(hq.2 0 (by decide) (by decide)).trans hA.1, (hq.2 3 (by decide) (by decide)).trans hA.2.1, hA.2.2.1, hA.2.2.2.1, fun f hf => by rw [h1 _ (by omega) (by omega) (by omega)]; exact hA.2.2.2.2 f hf⟩, MD_of (h1 _ (by omega) (by omega) (by omega)) (h1 _ (by omega) (by omega) (by omega)) (h1 _ (by omega) (by omega) (by omega)) (h1 _ (by omega) (by omega) (by omega)) hD, MT_of (hq.2 14 (by decide) (by decide)) (hq.2 20 (by decide) (by decide)) (fun b hb => h1 b (by omega) (by omega) (by omega)) hT, fun b hb => h1 b (by omega) (by omega) (by omega), fun _ _ => rfl⟩
theorem frR_tr {M : Nat} {a b c : IV} (h1 : frR M a b) (h2 : frR M b c) : frR M a c := ⟨fun x g1 g2 g3 => (h1.1 x g1 g2 g3).trans (h2.1 x g1 g2 g3), fun j g1 g2 => (h1.2 j g1 g2).trans (h2.2 j g1 g2)⟩
theorem lo_mfault {G : GC} {E : SH} {iv : IV} {lv : LV} {M t k : Nat} {g : Nat → Int32} (hM : MS G E M) (ht : t < 4) (hk : k ≤ 60) (hx : TXb M t k g iv) : ∀ (c p : Nat) (jv : IV) (st : PS), k - p ≤ c → psR g p = .inr st → 5 ≤ st.1 → st.1 % 5 = 0 → (p < k → g p ≠ nI 32) → p ≤ k → jv M 10 = nI p → jv M 11 = nI (st.1 / 5 - 1) → MPx M st jv → frR M jv iv → AW G mX11_faultOf (rm 4 0) (Z0 G 4 E (fun r i0 l => ∃ w, r = some (.int w) ∧ (w = psF g k ∧ (∀ st, psR g k = .inr st → gdP st → MPf M st i0) ∧ frR M i0 iv ∧ l = lv))) (fun _ => True) E.1 46 [some (.ref M), some (.int (nI t))] [] E jv lv := by
  intro c
  induction c with
  | zero =>
    intro p jv st hc hp h5 h50 hb hpk h10 h11 hm hf
    have e : p = k := by omega
    subst e
    have hxj := frR_T hf hx
    have h40 := (psR_W hp).1
    refine aw_aload_n dX11_faultOf_46 rfl ?_
    refine aw_getI dX11_faultOf_47 fgX11_98 rfl (MS.s0 hM) ?_
    rw [h10]
    refine aw_aload_n dX11_faultOf_50 rfl ?_
    refine aw_getR dX11_faultOf_51 fgX11_26 rfl (MS.s0 hM) (MS.r0_8 hM) ?_
    refine aw_iload_n dX11_faultOf_54 rfl ?_
    refine aw_iaload dX11_faultOf_55 (MS.s5 hM) rfl (by omega) ?_
    rw [hxj.1]
    refine aw_icmp_ge (tgt := 80) dX11_faultOf_56 rfl (fun h56 => ?_) (fun h56 => absurd (nI_le (by omega) (by omega)) h56)
    refine aw_aload_n dX11_faultOf_80 rfl ?_
    refine aw_getI dX11_faultOf_81 fgX11_110 rfl (MS.s0 hM) ?_
    rw [h11]
    refine aw_iconst (v := nI 2) dX11_faultOf_84 kc_2 ?_
    refine aw_icmp_ge (tgt := 97) dX11_faultOf_85 rfl (fun h85 => ?_) (fun h85 => ?_)
    · rw [nI_leI (by omega) (by omega)] at h85
      refine aw_bipush (v := (-9)) dX11_faultOf_97 kb_m9 ?_
      refine aw_iret dX11_faultOf_99 rfl (rb0 (Nat.zero_le _)) ⟨rfl, _, rfl, ?_, fun s2 e1 e2 => ?_, hf, rfl⟩
      · first
          | (rw [psF_good hp ⟨h50, by omega⟩]; done)
          | (rw [psF_fail hp (Nat.le_refl _) (fun q => by omega) (fun _ => by omega)]; done)
      · rw [hp] at e1
        cases e1
        exact ⟨h11, hm⟩
    · rw [nI_leI (by omega) (by omega)] at h85
      refine aw_aload_n dX11_faultOf_88 rfl ?_
      refine aw_getR dX11_faultOf_89 fgX11_26 rfl (MS.s0 hM) (MS.r0_8 hM) ?_
      refine aw_iload_n dX11_faultOf_92 rfl ?_
      refine aw_iaload dX11_faultOf_93 (MS.s5 hM) rfl (by omega) ?_
      rw [hxj.1]
      refine aw_goto (tgt := 99) dX11_faultOf_94 rfl ?_
      refine aw_iret dX11_faultOf_99 rfl (rb0 (Nat.zero_le _)) ⟨rfl, _, rfl, ?_, fun s2 e1 e2 => ?_, hf, rfl⟩
      · first
          | (rw [psF_good hp ⟨h50, by omega⟩]; done)
          | (rw [psF_fail hp (Nat.le_refl _) (fun q => by omega) (fun _ => by omega)]; done)
      · rw [hp] at e1
        cases e1
        exact ⟨h11, hm⟩
  | succ c ih =>
    intro p jv st hc hp h5 h50 hb hpk h10 h11 hm hf
    have hxj := frR_T hf hx
    have h40 := (psR_W hp).1
    by_cases hpk2 : p < k
    · skip
      refine aw_aload_n dX11_faultOf_46 rfl ?_
      refine aw_getI dX11_faultOf_47 fgX11_98 rfl (MS.s0 hM) ?_
      rw [h10]
      refine aw_aload_n dX11_faultOf_50 rfl ?_
      refine aw_getR dX11_faultOf_51 fgX11_26 rfl (MS.s0 hM) (MS.r0_8 hM) ?_
      refine aw_iload_n dX11_faultOf_54 rfl ?_
      refine aw_iaload dX11_faultOf_55 (MS.s5 hM) rfl (by omega) ?_
      rw [hxj.1]
      refine aw_icmp_ge (tgt := 80) dX11_faultOf_56 rfl (fun h56 => absurd h56 (nI_ge (by omega) (by omega))) (fun h56 => ?_)
      refine aw_aload_n dX11_faultOf_59 rfl ?_
      refine aw_iload_n dX11_faultOf_60 rfl ?_
      refine aw_sVi [_] dX11_faultOf_61 cvX11_120 (MS.s0 hM) (m_readsOne hM ht hk hxj hpk h10 hp h5 h50 hpk2 (hb hpk2) h11 hm) rfl rfl (Nat.le_of_ble_eq_true rfl) (rb0 (by decide)) (fun kw kv klv hq => ?_)
      refine aw_if_ne (tgt := 72) dX11_faultOf_64 rfl (fun h64 => ?_) (fun h64 => ?_)
      · obtain ⟨-, p2, s2, q1, q2, q3, q5, q6, q7, q8, q9, rfl⟩ := hq.resolve_right (fun z => h64 z.1)
        refine aw_aload_n dX11_faultOf_72 rfl ?_
        refine aw_iload_n dX11_faultOf_73 rfl ?_
        refine aw_sVv [_] dX11_faultOf_74 cvX11_113 (MS.s0 hM) (m_blanks hM ht hk (frR_T (frR_tr q9 hf) hx) q5 q6) rfl rfl (Nat.le_of_ble_eq_true rfl) (rb0 (by decide)) (fun kv2 klv2 hbl => ?_)
        obtain ⟨p3, b1, b2, b3, b4, rfl, rfl⟩ := hbl
        refine aw_goto (tgt := 46) dX11_faultOf_77 rfl ?_
        have hbb := psR_bl q1 q2.1 (p3 - p2) (fun i g1 g2 => b3 i g1 (by omega))
        rw [show p2 + (p3 - p2) = p3 by omega] at hbb
        refine ih p3 _ s2 (by omega) hbb q2.2 q2.1 b4 b2 (by rw [va_up_s]; rfl) ?_ (MPx_f (va_up_n (by omega)) (va_up_n (by omega)) q8) (frR_M (Or.inl rfl) (frR_tr q9 hf))
        rw [va_up_s]
        exact (if_neg (by decide)).trans q7
      · obtain ⟨-, q1, q2, q9, rfl⟩ := hq.resolve_left (fun z => absurd (h64.symm.trans z.1) (by decide))
        refine aw_aload_n dX11_faultOf_67 rfl ?_
        refine aw_getI dX11_faultOf_68 fgX11_98 rfl (MS.s0 hM) ?_
        refine aw_iret dX11_faultOf_71 rfl (rb0 (Nat.zero_le _)) ⟨rfl, _, rfl, q1, fun s2 e1 e2 => absurd (psF_good e1 e2) q2, frR_tr q9 hf, rfl⟩
    · have e : p = k := by omega
      subst e
      refine aw_aload_n dX11_faultOf_46 rfl ?_
      refine aw_getI dX11_faultOf_47 fgX11_98 rfl (MS.s0 hM) ?_
      rw [h10]
      refine aw_aload_n dX11_faultOf_50 rfl ?_
      refine aw_getR dX11_faultOf_51 fgX11_26 rfl (MS.s0 hM) (MS.r0_8 hM) ?_
      refine aw_iload_n dX11_faultOf_54 rfl ?_
      refine aw_iaload dX11_faultOf_55 (MS.s5 hM) rfl (by omega) ?_
      rw [hxj.1]
      refine aw_icmp_ge (tgt := 80) dX11_faultOf_56 rfl (fun h56 => ?_) (fun h56 => absurd (nI_le (by omega) (by omega)) h56)
      refine aw_aload_n dX11_faultOf_80 rfl ?_
      refine aw_getI dX11_faultOf_81 fgX11_110 rfl (MS.s0 hM) ?_
      rw [h11]
      refine aw_iconst (v := nI 2) dX11_faultOf_84 kc_2 ?_
      refine aw_icmp_ge (tgt := 97) dX11_faultOf_85 rfl (fun h85 => ?_) (fun h85 => ?_)
      · rw [nI_leI (by omega) (by omega)] at h85
        refine aw_bipush (v := (-9)) dX11_faultOf_97 kb_m9 ?_
        refine aw_iret dX11_faultOf_99 rfl (rb0 (Nat.zero_le _)) ⟨rfl, _, rfl, ?_, fun s2 e1 e2 => ?_, hf, rfl⟩
        · first
            | (rw [psF_good hp ⟨h50, by omega⟩]; done)
            | (rw [psF_fail hp (Nat.le_refl _) (fun q => by omega) (fun _ => by omega)]; done)
        · rw [hp] at e1
          cases e1
          exact ⟨h11, hm⟩
      · rw [nI_leI (by omega) (by omega)] at h85
        refine aw_aload_n dX11_faultOf_88 rfl ?_
        refine aw_getR dX11_faultOf_89 fgX11_26 rfl (MS.s0 hM) (MS.r0_8 hM) ?_
        refine aw_iload_n dX11_faultOf_92 rfl ?_
        refine aw_iaload dX11_faultOf_93 (MS.s5 hM) rfl (by omega) ?_
        rw [hxj.1]
        refine aw_goto (tgt := 99) dX11_faultOf_94 rfl ?_
        refine aw_iret dX11_faultOf_99 rfl (rb0 (Nat.zero_le _)) ⟨rfl, _, rfl, ?_, fun s2 e1 e2 => ?_, hf, rfl⟩
        · first
            | (rw [psF_good hp ⟨h50, by omega⟩]; done)
            | (rw [psF_fail hp (Nat.le_refl _) (fun q => by omega) (fun _ => by omega)]; done)
        · rw [hp] at e1
          cases e1
          exact ⟨h11, hm⟩
theorem m_faultOf {G : GC} {E : SH} {iv : IV} {lv : LV} {M t k : Nat} {g : Nat → Int32} (hM : MS G E M) (ht : t < 4) (hk : k ≤ 60) (hx : TXb M t k g iv) : SpI G mX11_faultOf 4 [.ref M, .int (nI t)] E iv lv (fun w i0 l => w = psF g k ∧ (∀ st, psR g k = .inr st → gdP st → MPf M st i0) ∧ frR M i0 iv ∧ l = lv) := by
  refine spec0_of (lo := [_,_]) (by decide) (Nat.le_of_ble_eq_true rfl) rfl ?_
  refine aw_aload_n dX11_faultOf_0 rfl ?_
  refine aw_iconst (v := nI 0) dX11_faultOf_1 kc_0 ?_
  refine aw_putI dX11_faultOf_2 fpX11_98 rfl (MS.s0 hM) ?_
  refine aw_aload_n dX11_faultOf_5 rfl ?_
  refine aw_iconst (v := nI 0) dX11_faultOf_6 kc_0 ?_
  refine aw_putI dX11_faultOf_7 fpX11_110 rfl (MS.s0 hM) ?_
  have hf1 : frR M (va_up (va_up iv M (upd (iv M) 10 (nI 0))) M (upd (va_up iv M (upd (iv M) 10 (nI 0)) M) 11 (nI 0))) iv := frR_M (Or.inr rfl) (frR_M (Or.inl rfl) frR_rf)
  have h10 : va_up (va_up iv M (upd (iv M) 10 (nI 0))) M (upd (va_up iv M (upd (iv M) 10 (nI 0)) M) 11 (nI 0)) M 10 = nI 0 := by
    rw [va_up_s, pk_un (by decide), va_up_s, pk_us]
  have h11 : va_up (va_up iv M (upd (iv M) 10 (nI 0))) M (upd (va_up iv M (upd (iv M) 10 (nI 0)) M) 11 (nI 0)) M 11 = nI 0 := by
    rw [va_up_s, pk_us]
  generalize va_up (va_up iv M (upd (iv M) 10 (nI 0))) M (upd (va_up iv M (upd (iv M) 10 (nI 0)) M) 11 (nI 0)) = jv at hf1 h10 h11 ⊢
  refine aw_aload_n dX11_faultOf_10 rfl ?_
  refine aw_iload_n dX11_faultOf_11 rfl ?_
  refine aw_sVv [_] dX11_faultOf_12 cvX11_113 (MS.s0 hM) (m_blanks hM ht hk (frR_T hf1 hx) (Nat.zero_le _) h10) rfl rfl (Nat.le_of_ble_eq_true rfl) (rb0 (by decide)) (fun kv klv hbl => ?_)
  obtain ⟨p3, b1, b2, b3, b4, rfl, rfl⟩ := hbl
  refine aw_aload_n dX11_faultOf_15 rfl ?_
  have hbb := psR_bl (g := g) (p := 0) (st := (0, fun _ => 0)) rfl rfl p3 (fun i g1 g2 => b3 i g1 (by omega))
  rw [Nat.zero_add] at hbb
  have hf2 : frR M (va_up jv M (upd (jv M) 10 (nI p3))) iv := frR_M (Or.inl rfl) hf1
  have h10b : va_up jv M (upd (jv M) 10 (nI p3)) M 10 = nI p3 := by rw [va_up_s]; rfl
  have h11b : va_up jv M (upd (jv M) 10 (nI p3)) M 11 = nI 0 := by rw [va_up_s]; exact (if_neg (by decide)).trans h11
  generalize va_up jv M (upd (jv M) 10 (nI p3)) = jv2 at hf2 h10b h11b ⊢
  refine aw_getI dX11_faultOf_16 fgX11_98 rfl (MS.s0 hM) ?_
  rw [h10b]
  refine aw_aload_n dX11_faultOf_19 rfl ?_
  refine aw_getR dX11_faultOf_20 fgX11_26 rfl (MS.s0 hM) (MS.r0_8 hM) ?_
  refine aw_iload_n dX11_faultOf_23 rfl ?_
  refine aw_iaload dX11_faultOf_24 (MS.s5 hM) rfl (by omega) ?_
  rw [(frR_T hf2 hx).1]
  refine aw_icmp_eq (tgt := 36) dX11_faultOf_25 rfl (fun h25 => ?_) (fun h25 => ?_)
  · rw [nI_eq (by omega) (by omega)] at h25
    refine aw_aload_n dX11_faultOf_36 rfl ?_
    refine aw_getI dX11_faultOf_37 fgX11_98 rfl (MS.s0 hM) ?_
    refine aw_iret dX11_faultOf_40 rfl (rb0 (Nat.zero_le _)) ⟨rfl, _, rfl, ?_⟩
    first
      | exact ⟨q1, fun s2 e1 e2 => absurd (psF_good e1 e2) q2, frR_tr q9 hf2, rfl⟩
      | (have hF : psF g k = nI p3 := psF_fail hbb b2 (fun q => by omega) (fun _ => by show ¬ (0 % 5 = 0 ∧ 15 ≤ 0); omega)
         exact ⟨by rw [h10b, hF], fun s2 e1 e2 => absurd ((psF_good e1 e2).symm.trans hF) (fun q => nI_n9 (by omega) q.symm), hf2, rfl⟩)
  · rw [nI_eq (by omega) (by omega)] at h25
    refine aw_aload_n dX11_faultOf_28 rfl ?_
    refine aw_iload_n dX11_faultOf_29 rfl ?_
    refine aw_sVi [_] dX11_faultOf_30 cvX11_117 (MS.s0 hM) (m_readsDeep hM ht hk (frR_T hf2 hx) b2 h10b hbb rfl b4 h11b) rfl rfl (Nat.le_of_ble_eq_true rfl) (rb0 (by decide)) (fun kw kv klv hq => ?_)
    refine aw_if_ne (tgt := 41) dX11_faultOf_33 rfl (fun h33 => ?_) (fun h33 => ?_)
    · obtain ⟨-, p2, s2, q1, q2, q3, q5, q6, q7, q8, q9, rfl⟩ := hq.resolve_right (fun z => h33 z.1)
      refine aw_aload_n dX11_faultOf_41 rfl ?_
      refine aw_iload_n dX11_faultOf_42 rfl ?_
      refine aw_sVv [_] dX11_faultOf_43 cvX11_113 (MS.s0 hM) (m_blanks hM ht hk (frR_T (frR_tr q9 hf2) hx) q5 q6) rfl rfl (Nat.le_of_ble_eq_true rfl) (rb0 (by decide)) (fun kv2 klv2 hbl => ?_)
      obtain ⟨p4, c1, c2, c3, c4, rfl, rfl⟩ := hbl
      have hbc := psR_bl q1 (by rw [q2]) (p4 - p2) (fun i g1 g2 => c3 i g1 (by omega))
      rw [show p2 + (p4 - p2) = p4 by omega] at hbc
      refine lo_mfault hM ht hk hx (k - p4) p4 _ s2 (Nat.le_refl _) hbc (by omega) (by rw [q2]) c4 c2 (by rw [va_up_s]; rfl) ?_ (MPx_f (va_up_n (by omega)) (va_up_n (by omega)) q8) (frR_M (Or.inl rfl) (frR_tr q9 hf2))
      rw [va_up_s]
      exact (if_neg (by decide)).trans q7
    · obtain ⟨-, q1, q2, q9, rfl⟩ := hq.resolve_left (fun z => absurd (h33.symm.trans z.1) (by decide))
      refine aw_aload_n dX11_faultOf_36 rfl ?_
      refine aw_getI dX11_faultOf_37 fgX11_98 rfl (MS.s0 hM) ?_
      refine aw_iret dX11_faultOf_40 rfl (rb0 (Nat.zero_le _)) ⟨rfl, _, rfl, ?_⟩
      first
        | exact ⟨q1, fun s2 e1 e2 => absurd (psF_good e1 e2) q2, frR_tr q9 hf2, rfl⟩
        | (have hF : psF g k = nI p3 := psF_fail hbb b2 (fun q => by omega) (fun _ => by show ¬ (0 % 5 = 0 ∧ 15 ≤ 0); omega)
           exact ⟨by rw [h10b, hF], fun s2 e1 e2 => absurd ((psF_good e1 e2).symm.trans hF) (fun q => nI_n9 (by omega) q.symm), hf2, rfl⟩)
theorem m_fault {G : GC} {E : SH} {iv : IV} {lv : LV} {M : Nat} (hM : MS G E M) {A : AA} {D : DD} {T : FT} (hA : MA M A iv lv) (hD : MD M D iv) (hT : MT M T iv) (hW : WT T) (hDW : WD D) (t : Int32) : SpI G mX11_fault 5 [.ref M, .int t] E iv lv (QD M iv lv (oFault A D T t)) := by
  by_cases hb : bad t 4
  · refine spec0_of (lo := [_,_]) (by decide) (Nat.le_of_ble_eq_true rfl) rfl ?_
    refine aw_iload_n dX11_fault_0 rfl ?_
    refine aw_xSi [_] dX11_fault_1 csX11_95 (m_isText t) rfl rfl (Nat.le_of_ble_eq_true rfl) (rb0 (by decide)) ?_
    refine aw_if_ne (tgt := 11) dX11_fault_4 rfl (fun h4 => ?_) (fun h4 => ?_)
    · exact absurd hb (fun q => q (zI_n0.mp h4))
    · refine aw_iconst (v := (-1)) dX11_fault_7 kc_m1 ?_
      refine aw_goto (tgt := 33) dX11_fault_8 rfl ?_
      refine aw_iret dX11_fault_33 rfl (rb0 (Nat.zero_le _)) ⟨rfl, _, rfl, ?_⟩
      refine QD_no hA hD hT ?_
      exact if_pos hb
  obtain ⟨j, hj, rfl⟩ := ix_of hb (by decide)
  cases hk : D.2.2.1 j with
  | none =>
    have e : oFault A D T (nI j) = (-3, fnd A 1, D, T) := by
      unfold oFault
      rw [if_neg hb, ix_nI (by omega), hk]
    have hz : iv (M + 5) j = -1 := by rw [hD.2.2.1 j hj, hk]; rfl
    refine spec0_of (lo := [_,_]) (by decide) (Nat.le_of_ble_eq_true rfl) rfl ?_
    refine aw_iload_n dX11_fault_0 rfl ?_
    refine aw_xSi [_] dX11_fault_1 csX11_95 (m_isText (nI j)) rfl rfl (Nat.le_of_ble_eq_true rfl) (rb0 (by decide)) ?_
    refine aw_if_ne (tgt := 11) dX11_fault_4 rfl (fun h4 => ?_) (fun h4 => ?_)
    · refine aw_aload_n dX11_fault_11 rfl ?_
      refine aw_getR dX11_fault_12 fgX11_26 rfl (MS.s0 hM) (MS.r0_8 hM) ?_
      refine aw_iload_n dX11_fault_15 rfl ?_
      refine aw_iaload dX11_fault_16 (MS.s5 hM) rfl hj ?_
      rw [hz]
      refine aw_if_ge (tgt := 28) dX11_fault_17 rfl (fun h17 => absurd h17 (by decide)) (fun h17 => ?_)
      refine aw_aload_n dX11_fault_20 rfl ?_
      refine aw_iconst (v := nI 1) dX11_fault_21 kc_1 ?_
      refine aw_xVi [_] dX11_fault_22 cvX11_84 (MS.s0 hM) (m_found hM (f := 1) (by decide)) rfl rfl (Nat.le_of_ble_eq_true rfl) (rb0 (by decide)) ?_
      refine aw_goto (tgt := 33) dX11_fault_25 rfl ?_
      refine aw_iret dX11_fault_33 rfl (rb0 (Nat.zero_le _)) ⟨rfl, _, rfl, ?_⟩
      exact QD_fnd hA hD hT (by decide) e
    · exact absurd (zi_bad h4) hb
  | some k =>
    have hk60 : k ≤ 60 := hDW.2 j hj k hk
    have hx : TXb M j k (D.2.2.2 j) iv := ⟨by rw [hD.2.2.1 j hj, hk]; rfl, fun i hi => hD.2.2.2 j i hj (by omega)⟩
    refine spec0_of (lo := [_,_]) (by decide) (Nat.le_of_ble_eq_true rfl) rfl ?_
    refine aw_iload_n dX11_fault_0 rfl ?_
    refine aw_xSi [_] dX11_fault_1 csX11_95 (m_isText (nI j)) rfl rfl (Nat.le_of_ble_eq_true rfl) (rb0 (by decide)) ?_
    refine aw_if_ne (tgt := 11) dX11_fault_4 rfl (fun h4 => ?_) (fun h4 => ?_)
    · refine aw_aload_n dX11_fault_11 rfl ?_
      refine aw_getR dX11_fault_12 fgX11_26 rfl (MS.s0 hM) (MS.r0_8 hM) ?_
      refine aw_iload_n dX11_fault_15 rfl ?_
      refine aw_iaload dX11_fault_16 (MS.s5 hM) rfl hj ?_
      rw [hx.1]
      refine aw_if_ge (tgt := 28) dX11_fault_17 rfl (fun h17 => ?_) (fun h17 => absurd (nI_pos' (by omega)) h17)
      refine aw_aload_n dX11_fault_28 rfl ?_
      refine aw_iload_n dX11_fault_29 rfl ?_
      refine aw_sVi [_] dX11_fault_30 cvX11_123 (MS.s0 hM) (m_faultOf hM hj hk60 hx) rfl rfl (Nat.le_of_ble_eq_true rfl) (rb0 (by decide)) (fun kw kv klv hk => ?_)
      obtain ⟨k0, k1, k2, rfl⟩ := hk
      refine aw_iret dX11_fault_33 rfl (rb0 (Nat.zero_le _)) ⟨rfl, _, rfl, ?_⟩
      refine QD_rd hA hD hT k2 ?_
      unfold oFault
      rw [if_neg hb, ix_nI (by omega), hk, k0]
    · exact absurd (zi_bad h4) hb
/-- the town so far as person i -/
def vTi (st : PS) (v0 : TV) (n : Nat) : TV := fun k => if k = 0 then 0 else if k < 6 then st.2 (k - 1) else if k < 13 then (if k - 6 < n then st.2 (5 * (k - 6 + 1) + 3) else v0 k) else (if k - 13 < n then st.2 (5 * (k - 13 + 1) + 4) else v0 k)
theorem vTi_s (st : PS) (v0 : TV) {i : Nat} (hi : i < 7) (k : Nat) : vTi st v0 (i + 1) k = va_up (va_up (vTi st v0 i) (6 + i) (st.2 (5 * (i + 1) + 3))) (13 + i) (st.2 (5 * (i + 1) + 4)) k := by
  by_cases e1 : k = 13 + i
  · subst e1
    rw [va_up_s]
    unfold vTi
    rw [if_neg (by omega), if_neg (by omega), if_neg (by omega), show 13 + i - 13 = i by omega, if_pos (by omega)]
  · rw [va_up_n e1]
    by_cases e2 : k = 6 + i
    · subst e2
      rw [va_up_s]
      unfold vTi
      rw [if_neg (by omega), if_neg (by omega), if_pos (by omega), show 6 + i - 6 = i by omega, if_pos (by omega)]
    · rw [va_up_n e2]
      unfold vTi
      by_cases h0 : k = 0
      · rw [if_pos h0, if_pos h0]
      · rw [if_neg h0, if_neg h0]
        by_cases h6 : k < 6
        · rw [if_pos h6, if_pos h6]
        · rw [if_neg h6, if_neg h6]
          by_cases h13 : k < 13
          · rw [if_pos h13, if_pos h13]
            by_cases h : k - 6 < i
            · rw [if_pos h, if_pos (by omega)]
            · rw [if_neg h, if_neg (by omega)]
          · rw [if_neg h13, if_neg h13]
            by_cases h : k - 13 < i
            · rw [if_pos h, if_pos (by omega)]
            · rw [if_neg h, if_neg (by omega)]
theorem lo_tn1 {G : GC} {E : SH} {iv : IV} {lv : LV} {M : Nat} (hM : MS G E M) {st : PS} {v0 : TV} {t : Int32} {Zz : List Frame → Array Value → State → State → Prop} (h7 : ∀ c, c < 5 → iv (M + 7) c = nI (st.2 c)) : (∀ i0, i0 (M + 12) 0 = nI 0 → (∀ q, q < 5 → i0 (M + 12) (1 + q) = nI (st.2 q)) → (∀ x, 6 ≤ x → i0 (M + 12) x = iv (M + 12) x) → (∀ b, b ≠ M + 12 → i0 b = iv b) → AW G mX11_town (rm 5 0) Zz (fun _ => True) E.1 79 [some (.ref M), some (.int t), some (.int (nI 5))] [] E i0 lv) → ∀ (e c : Nat) (jv : IV), c + e = 5 → jv (M + 12) 0 = nI 0 → (∀ q, q < c → jv (M + 12) (1 + q) = nI (st.2 q)) → (∀ x, 6 ≤ x → jv (M + 12) x = iv (M + 12) x) → (∀ b, b ≠ M + 12 → jv b = iv b) → AW G mX11_town (rm 5 0) Zz (fun _ => True) E.1 54 [some (.ref M), some (.int t), some (.int (nI c))] [] E jv lv := by
  intro hK e
  induction e with
  | zero =>
    intro c jv hc h0 h1 h2 h3
    have hc : c = 5 := by omega
    subst hc
    refine aw_iload_n dX11_town_54 rfl ?_
    refine aw_iconst (v := nI 5) dX11_town_55 kc_5 ?_
    refine aw_icmp_ge (tgt := 79) dX11_town_56 rfl (fun h56 => ?_) (fun h56 => absurd (by decide) h56)
    exact hK jv h0 h1 h2 h3
  | succ e ih =>
    intro c jv hc h0 h1 h2 h3
    refine aw_iload_n dX11_town_54 rfl ?_
    refine aw_iconst (v := nI 5) dX11_town_55 kc_5 ?_
    refine aw_icmp_ge (tgt := 79) dX11_town_56 rfl (fun h56 => absurd h56 (nI_ge (by omega) (by decide))) (fun h56 => ?_)
    refine aw_aload_n dX11_town_59 rfl ?_
    refine aw_getR dX11_town_60 fgX11_48 rfl (MS.s0 hM) (MS.r0_18 hM) ?_
    refine aw_iconst (v := nI 1) dX11_town_63 kc_1 ?_
    refine aw_iload_n dX11_town_64 rfl ?_
    refine aw_iadd dX11_town_65 ?_
    rw [nI_add]
    refine aw_aload_n dX11_town_66 rfl ?_
    refine aw_getR dX11_town_67 fgX11_33 rfl (MS.s0 hM) (MS.r0_12 hM) ?_
    refine aw_iload_n dX11_town_70 rfl ?_
    refine aw_iaload dX11_town_71 (MS.s7 hM) rfl (by omega) ?_
    rw [h3 (M + 7) (by omega), h7 c (by omega)]
    refine aw_iastore dX11_town_72 (MS.s12 hM) rfl (by omega) ?_
    refine aw_iinc (v := _) (lo' := [_,_,_]) dX11_town_73 rfl (nI_1 c) rfl ?_
    refine aw_goto (tgt := 54) dX11_town_76 rfl ?_
    refine ih (c + 1) _ (by omega) ?_ (fun q hq => ?_) (fun x hx => ?_) (fun b hb => by rw [va_up_n hb]; exact h3 b hb)
    · rw [va_up_s]
      exact (if_neg (by omega)).trans h0
    · rw [va_up_s]
      by_cases e2 : q = c
      · subst e2; exact if_pos rfl
      · exact (if_neg (by omega)).trans (h1 q (by omega))
    · rw [va_up_s]
      exact (if_neg (by omega)).trans (h2 x hx)
theorem lo_tn2 {G : GC} {E : SH} {iv : IV} {lv : LV} {M : Nat} (hM : MS G E M) {st : PS} {v0 : TV} {t : Int32} {Zz : List Frame → Array Value → State → State → Prop} (hW : WP st) (hg : gdP st) (h14 : iv M 14 = nI (nT st)) (h8 : ∀ j, 5 + j < st.1 → iv (M + 8) j = nI (st.2 (5 + j))) : (∀ i0, VR (M + 12) (vTi st v0 (nT st)) i0 → (∀ a, a < nT st → i0 (M + 9) a = nI (st.2 (5 * (a + 1))) ∧ i0 (M + 10) a = nI (st.2 (5 * (a + 1) + 1)) ∧ i0 (M + 11) a = nI ((a + st.2 (5 * (a + 1) + 2)) % nT st)) → (∀ b, ¬ (M + 9 ≤ b ∧ b ≤ M + 12) → i0 b = iv b) → AW G mX11_town (rm 5 0) Zz (fun _ => True) E.1 186 [some (.ref M), some (.int t), some (.int (nI (nT st)))] [] E i0 lv) → ∀ (e i : Nat) (jv : IV), i + e = nT st → VR (M + 12) (vTi st v0 i) jv → (∀ a, a < i → jv (M + 9) a = nI (st.2 (5 * (a + 1))) ∧ jv (M + 10) a = nI (st.2 (5 * (a + 1) + 1)) ∧ jv (M + 11) a = nI ((a + st.2 (5 * (a + 1) + 2)) % nT st)) → (∀ b, ¬ (M + 9 ≤ b ∧ b ≤ M + 12) → jv b = iv b) → AW G mX11_town (rm 5 0) Zz (fun _ => True) E.1 81 [some (.ref M), some (.int t), some (.int (nI i))] [] E jv lv := by
  have h40 := hW.1
  have hg1 : st.1 % 5 = 0 := hg.1
  have hg2 : 15 ≤ st.1 := hg.2
  have hn7 : nT st ≤ 7 := by show st.1 / 5 - 1 ≤ 7; omega
  have hn5 : ∀ i, i < nT st → 5 * (i + 1) + 4 < st.1 := fun i hi => by
    replace hi : i < st.1 / 5 - 1 := hi
    omega
  intro hK e
  induction e with
  | zero =>
    intro i jv hi h1 h2 h3
    have hi : i = nT st := by omega
    subst hi
    have h14j : jv M 14 = nI (nT st) := by rw [h3 M (by omega)]; exact h14
    refine aw_iload_n dX11_town_81 rfl ?_
    refine aw_aload_n dX11_town_82 rfl ?_
    refine aw_getI dX11_town_83 fgX11_126 rfl (MS.s0 hM) ?_
    refine aw_icmp_ge (tgt := 186) dX11_town_86 rfl (fun h86 => ?_) (fun h86 => absurd (by rw [h14j]; exact nI_le (Nat.le_refl _) (by omega)) h86)
    exact hK jv h1 h2 h3
  | succ e ih =>
    intro i jv hi h1 h2 h3
    have h14j : jv M 14 = nI (nT st) := by rw [h3 M (by omega)]; exact h14
    have h54 := hn5 i (by omega)
    have hu9 := (hW.2 (5 * (i + 1) + 2) (by omega)).1
    have hml : (i + st.2 (5 * (i + 1) + 2)) % nT st < nT st := Nat.mod_lt _ (by omega)
    refine aw_iload_n dX11_town_81 rfl ?_
    refine aw_aload_n dX11_town_82 rfl ?_
    refine aw_getI dX11_town_83 fgX11_126 rfl (MS.s0 hM) ?_
    refine aw_icmp_ge (tgt := 186) dX11_town_86 rfl (fun h86 => absurd h86 (by rw [h14j]; exact nI_ge (by omega) (by omega))) (fun h86 => ?_)
    refine aw_aload_n dX11_town_89 rfl ?_
    refine aw_getR dX11_town_90 fgX11_39 rfl (MS.s0 hM) (MS.r0_15 hM) ?_
    refine aw_iload_n dX11_town_93 rfl ?_
    refine aw_aload_n dX11_town_94 rfl ?_
    refine aw_getR dX11_town_95 fgX11_36 rfl (MS.s0 hM) (MS.r0_13 hM) ?_
    refine aw_iconst (v := nI 5) dX11_town_98 kc_5 ?_
    refine aw_iload_n dX11_town_99 rfl ?_
    refine aw_imul dX11_town_100 ?_
    rw [pk_mul]
    refine aw_iaload dX11_town_101 (MS.s8 hM) rfl (by omega) ?_
    rw [h3 (M + 8) (by omega), h8 (5 * i) (by omega), show 5 + (5 * i) = 5 * (i + 1) by omega]
    refine aw_iastore dX11_town_102 (MS.s9 hM) rfl (by omega) ?_
    refine aw_aload_n dX11_town_103 rfl ?_
    refine aw_getR dX11_town_104 fgX11_42 rfl (MS.s0 hM) (MS.r0_16 hM) ?_
    refine aw_iload_n dX11_town_107 rfl ?_
    refine aw_aload_n dX11_town_108 rfl ?_
    refine aw_getR dX11_town_109 fgX11_36 rfl (MS.s0 hM) (MS.r0_13 hM) ?_
    refine aw_iconst (v := nI 5) dX11_town_112 kc_5 ?_
    refine aw_iload_n dX11_town_113 rfl ?_
    refine aw_imul dX11_town_114 ?_
    rw [pk_mul]
    refine aw_iconst (v := nI 1) dX11_town_115 kc_1 ?_
    refine aw_iadd dX11_town_116 ?_
    refine aw_iaload dX11_town_117 (MS.s8 hM) (show nI (5 * i) + nI 1 = nI (5 * i + 1) by rw [nI_add]) (by omega) ?_
    rw [va_up_n (by omega), h3 (M + 8) (by omega), h8 (5 * i + 1) (by omega), show 5 + (5 * i + 1) = 5 * (i + 1) + 1 by omega]
    refine aw_iastore dX11_town_118 (MS.s10 hM) rfl (by omega) ?_
    refine aw_aload_n dX11_town_119 rfl ?_
    refine aw_getR dX11_town_120 fgX11_45 rfl (MS.s0 hM) (MS.r0_17 hM) ?_
    refine aw_iload_n dX11_town_123 rfl ?_
    refine aw_iload_n dX11_town_124 rfl ?_
    refine aw_aload_n dX11_town_125 rfl ?_
    refine aw_getR dX11_town_126 fgX11_36 rfl (MS.s0 hM) (MS.r0_13 hM) ?_
    refine aw_iconst (v := nI 5) dX11_town_129 kc_5 ?_
    refine aw_iload_n dX11_town_130 rfl ?_
    refine aw_imul dX11_town_131 ?_
    rw [pk_mul]
    refine aw_iconst (v := nI 2) dX11_town_132 kc_2 ?_
    refine aw_iadd dX11_town_133 ?_
    refine aw_iaload dX11_town_134 (MS.s8 hM) (show nI (5 * i) + nI 2 = nI (5 * i + 2) by rw [nI_add]) (by omega) ?_
    rw [va_up_n (by omega), va_up_n (by omega), h3 (M + 8) (by omega), h8 (5 * i + 2) (by omega), show 5 + (5 * i + 2) = 5 * (i + 1) + 2 by omega]
    refine aw_iadd dX11_town_135 ?_
    rw [nI_add]
    refine aw_aload_n dX11_town_136 rfl ?_
    refine aw_getI dX11_town_137 fgX11_126 rfl (MS.s0 hM) ?_
    rw [va_up_n (by omega), va_up_n (by omega), h14j]
    refine aw_irem dX11_town_140 (fun q => absurd q (ni_ne (k := 0) (by omega) (by decide) (by omega))) ?_
    rw [pk_rem (by omega) (by omega) (by omega)]
    refine aw_iastore dX11_town_141 (MS.s11 hM) rfl (by omega) ?_
    refine aw_aload_n dX11_town_142 rfl ?_
    refine aw_getR dX11_town_143 fgX11_48 rfl (MS.s0 hM) (MS.r0_18 hM) ?_
    refine aw_bipush (v := nI 6) dX11_town_146 kb_6 ?_
    refine aw_iload_n dX11_town_148 rfl ?_
    refine aw_iadd dX11_town_149 ?_
    rw [nI_add]
    refine aw_aload_n dX11_town_150 rfl ?_
    refine aw_getR dX11_town_151 fgX11_36 rfl (MS.s0 hM) (MS.r0_13 hM) ?_
    refine aw_iconst (v := nI 5) dX11_town_154 kc_5 ?_
    refine aw_iload_n dX11_town_155 rfl ?_
    refine aw_imul dX11_town_156 ?_
    rw [pk_mul]
    refine aw_iconst (v := nI 3) dX11_town_157 kc_3 ?_
    refine aw_iadd dX11_town_158 ?_
    refine aw_iaload dX11_town_159 (MS.s8 hM) (show nI (5 * i) + nI 3 = nI (5 * i + 3) by rw [nI_add]) (by omega) ?_
    rw [va_up_n (by omega), va_up_n (by omega), va_up_n (by omega), h3 (M + 8) (by omega), h8 (5 * i + 3) (by omega), show 5 + (5 * i + 3) = 5 * (i + 1) + 3 by omega]
    refine aw_iastore dX11_town_160 (MS.s12 hM) rfl (by omega) ?_
    refine aw_aload_n dX11_town_161 rfl ?_
    refine aw_getR dX11_town_162 fgX11_48 rfl (MS.s0 hM) (MS.r0_18 hM) ?_
    refine aw_bipush (v := nI 13) dX11_town_165 kb_13 ?_
    refine aw_iload_n dX11_town_167 rfl ?_
    refine aw_iadd dX11_town_168 ?_
    rw [nI_add]
    refine aw_aload_n dX11_town_169 rfl ?_
    refine aw_getR dX11_town_170 fgX11_36 rfl (MS.s0 hM) (MS.r0_13 hM) ?_
    refine aw_iconst (v := nI 5) dX11_town_173 kc_5 ?_
    refine aw_iload_n dX11_town_174 rfl ?_
    refine aw_imul dX11_town_175 ?_
    rw [pk_mul]
    refine aw_iconst (v := nI 4) dX11_town_176 kc_4 ?_
    refine aw_iadd dX11_town_177 ?_
    refine aw_iaload dX11_town_178 (MS.s8 hM) (show nI (5 * i) + nI 4 = nI (5 * i + 4) by rw [nI_add]) (by omega) ?_
    rw [va_up_n (by omega), va_up_n (by omega), va_up_n (by omega), va_up_n (by omega), h3 (M + 8) (by omega), h8 (5 * i + 4) (by omega), show 5 + (5 * i + 4) = 5 * (i + 1) + 4 by omega]
    refine aw_iastore dX11_town_179 (MS.s12 hM) rfl (by omega) ?_
    refine aw_iinc (v := _) (lo' := [_,_,_]) dX11_town_180 rfl (nI_1 i) rfl ?_
    refine aw_goto (tgt := 81) dX11_town_183 rfl ?_
    refine ih (i + 1) _ (by omega) (fun k hk => ?_) (fun a ha => ?_) (fun b hb => ?_)
    · rw [vTi_s st v0 (by omega)]
      rw [va_up_s, va_up_s, va_up_n (show M + 12 ≠ M + 11 by omega), va_up_n (show M + 12 ≠ M + 10 by omega), va_up_n (show M + 12 ≠ M + 9 by omega)]
      by_cases e1 : k = 13 + i
      · subst e1; rw [pk_us, va_up_s]
      · rw [pk_un e1, va_up_n e1]
        by_cases e2 : k = 6 + i
        · subst e2; rw [pk_us, va_up_s]
        · rw [pk_un e2, va_up_n e2]; exact h1 k hk
    · rw [va_up_n (show M + 9 ≠ M + 12 by omega), va_up_n (show M + 9 ≠ M + 12 by omega), va_up_n (show M + 9 ≠ M + 11 by omega), va_up_n (show M + 9 ≠ M + 10 by omega), va_up_s, va_up_n (show M + 10 ≠ M + 12 by omega), va_up_n (show M + 10 ≠ M + 12 by omega), va_up_n (show M + 10 ≠ M + 11 by omega), va_up_s, va_up_n (show M + 11 ≠ M + 12 by omega), va_up_n (show M + 11 ≠ M + 12 by omega), va_up_s]
      by_cases e1 : a = i
      · subst e1
        exact ⟨pk_us, pk_us, pk_us⟩
      · have h := h2 a (by omega)
        rw [pk_un e1, pk_un e1, pk_un e1, va_up_n (show M + 10 ≠ M + 9 by omega), va_up_n (show M + 11 ≠ M + 10 by omega), va_up_n (show M + 11 ≠ M + 9 by omega)]
        exact h
    · rw [va_up_n (by omega), va_up_n (by omega), va_up_n (by omega), va_up_n (by omega), va_up_n (by omega)]; exact h3 b hb
theorem lo_tn3 {G : GC} {E : SH} {iv : IV} {lv : LV} {M n : Nat} (hM : MS G E M) {t : Int32} (h14 : iv M 14 = nI n) {Q : Option Value → IV → LV → Prop} (hQ : ∀ i0, (∀ q, q < 3 → i0 (M + 15) q = -1) → (∀ b, b ≠ M + 15 → i0 b = iv b) → Q (some (.int (nI n))) i0 lv) : ∀ (e c : Nat) (jv : IV), c + e = 3 → (∀ q, q < c → jv (M + 15) q = -1) → (∀ b, b ≠ M + 15 → jv b = iv b) → AW G mX11_town (rm 5 0) (Z0 G 5 E Q) (fun _ => True) E.1 193 [some (.ref M), some (.int t), some (.int (nI c))] [] E jv lv := by
  intro e
  induction e with
  | zero =>
    intro c jv hc h1 h3
    have hc : c = 3 := by omega
    subst hc
    have h14j : jv M 14 = nI n := by rw [h3 M (by omega)]; exact h14
    refine aw_iload_n dX11_town_193 rfl ?_
    refine aw_iconst (v := nI 3) dX11_town_194 kc_3 ?_
    refine aw_icmp_ge (tgt := 211) dX11_town_195 rfl (fun h195 => ?_) (fun h195 => absurd (by decide) h195)
    refine aw_aload_n dX11_town_211 rfl ?_
    refine aw_getI dX11_town_212 fgX11_126 rfl (MS.s0 hM) ?_
    rw [h14j]
    refine aw_iret dX11_town_215 rfl (rb0 (Nat.zero_le _)) ⟨rfl, hQ jv h1 h3⟩
  | succ e ih =>
    intro c jv hc h1 h3
    refine aw_iload_n dX11_town_193 rfl ?_
    refine aw_iconst (v := nI 3) dX11_town_194 kc_3 ?_
    refine aw_icmp_ge (tgt := 211) dX11_town_195 rfl (fun h195 => absurd h195 (nI_ge (by omega) (by decide))) (fun h195 => ?_)
    refine aw_aload_n dX11_town_198 rfl ?_
    refine aw_getR dX11_town_199 fgX11_57 rfl (MS.s0 hM) (MS.r0_22 hM) ?_
    refine aw_iload_n dX11_town_202 rfl ?_
    refine aw_iconst (v := (-1)) dX11_town_203 kc_m1 ?_
    refine aw_iastore dX11_town_204 (MS.s15 hM) rfl (by omega) ?_
    refine aw_iinc (v := _) (lo' := [_,_,_]) dX11_town_205 rfl (nI_1 c) rfl ?_
    refine aw_goto (tgt := 193) dX11_town_208 rfl ?_
    refine ih (c + 1) _ (by omega) (fun q hq => ?_) (fun b hb => by rw [va_up_n hb]; exact h3 b hb)
    rw [va_up_s]
    by_cases e2 : q = c
    · subst e2; exact if_pos rfl
    · exact (if_neg e2).trans (h1 q (by omega))
theorem m_town {G : GC} {E : SH} {iv : IV} {lv : LV} {M : Nat} (hM : MS G E M) {A : AA} {D : DD} {T : FT} (hA : MA M A iv lv) (hD : MD M D iv) (hT : MT M T iv) (hW : WT T) (hDW : WD D) (t : Int32) : SpI G mX11_town 5 [.ref M, .int t] E iv lv (QD M iv lv (oTown A D T t)) := by
  by_cases hb : bad t 4
  · refine spec0_of (lo := [_,_,_]) (by decide) (Nat.le_of_ble_eq_true rfl) rfl ?_
    refine aw_iload_n dX11_town_0 rfl ?_
    refine aw_xSi [_] dX11_town_1 csX11_95 (m_isText t) rfl rfl (Nat.le_of_ble_eq_true rfl) (rb0 (by decide)) ?_
    refine aw_if_ne (tgt := 9) dX11_town_4 rfl (fun h4 => ?_) (fun h4 => ?_)
    · exact absurd hb (fun q => q (zI_n0.mp h4))
    · refine aw_iconst (v := (-1)) dX11_town_7 kc_m1 ?_
      refine aw_iret dX11_town_8 rfl (rb0 (Nat.zero_le _)) ⟨rfl, _, rfl, ?_⟩
      refine QD_no hA hD hT ?_
      exact if_pos hb
  obtain ⟨j, hj, rfl⟩ := ix_of hb (by decide)
  cases hk : D.2.2.1 j with
  | none =>
    have e : oTown A D T (nI j) = (-3, fnd A 1, D, T) := by
      unfold oTown
      rw [if_neg hb, ix_nI (by omega), hk]
    have hz : iv (M + 5) j = -1 := by rw [hD.2.2.1 j hj, hk]; rfl
    refine spec0_of (lo := [_,_,_]) (by decide) (Nat.le_of_ble_eq_true rfl) rfl ?_
    refine aw_iload_n dX11_town_0 rfl ?_
    refine aw_xSi [_] dX11_town_1 csX11_95 (m_isText (nI j)) rfl rfl (Nat.le_of_ble_eq_true rfl) (rb0 (by decide)) ?_
    refine aw_if_ne (tgt := 9) dX11_town_4 rfl (fun h4 => ?_) (fun h4 => ?_)
    · refine aw_aload_n dX11_town_9 rfl ?_
      refine aw_getR dX11_town_10 fgX11_26 rfl (MS.s0 hM) (MS.r0_8 hM) ?_
      refine aw_iload_n dX11_town_13 rfl ?_
      refine aw_iaload dX11_town_14 (MS.s5 hM) rfl hj ?_
      rw [hz]
      refine aw_if_ge (tgt := 24) dX11_town_15 rfl (fun h15 => absurd h15 (by decide)) (fun h15 => ?_)
      refine aw_aload_n dX11_town_18 rfl ?_
      refine aw_iconst (v := nI 1) dX11_town_19 kc_1 ?_
      refine aw_xVi [_] dX11_town_20 cvX11_84 (MS.s0 hM) (m_found hM (f := 1) (by decide)) rfl rfl (Nat.le_of_ble_eq_true rfl) (rb0 (by decide)) ?_
      refine aw_iret dX11_town_23 rfl (rb0 (Nat.zero_le _)) ⟨rfl, _, rfl, ?_⟩
      exact QD_fnd hA hD hT (by decide) e
    · exact absurd (zi_bad h4) hb
  | some k =>
    have hk60 : k ≤ 60 := hDW.2 j hj k hk
    have hx : TXb M j k (D.2.2.2 j) iv := ⟨by rw [hD.2.2.1 j hj, hk]; rfl, fun i hi => hD.2.2.2 j i hj (by omega)⟩
    refine spec0_of (lo := [_,_,_]) (by decide) (Nat.le_of_ble_eq_true rfl) rfl ?_
    refine aw_iload_n dX11_town_0 rfl ?_
    refine aw_xSi [_] dX11_town_1 csX11_95 (m_isText (nI j)) rfl rfl (Nat.le_of_ble_eq_true rfl) (rb0 (by decide)) ?_
    refine aw_if_ne (tgt := 9) dX11_town_4 rfl (fun h4 => ?_) (fun h4 => ?_)
    · refine aw_aload_n dX11_town_9 rfl ?_
      refine aw_getR dX11_town_10 fgX11_26 rfl (MS.s0 hM) (MS.r0_8 hM) ?_
      refine aw_iload_n dX11_town_13 rfl ?_
      refine aw_iaload dX11_town_14 (MS.s5 hM) rfl hj ?_
      rw [hx.1]
      refine aw_if_ge (tgt := 24) dX11_town_15 rfl (fun h15 => ?_) (fun h15 => absurd (nI_pos' (by omega)) h15)
      refine aw_aload_n dX11_town_24 rfl ?_
      refine aw_iload_n dX11_town_25 rfl ?_
      refine aw_sVi [_] dX11_town_26 cvX11_123 (MS.s0 hM) (m_faultOf hM hj hk60 hx) rfl rfl (Nat.le_of_ble_eq_true rfl) (rb0 (by decide)) (fun kw kv klv hk => ?_)
      obtain ⟨k0, k1, k2, rfl⟩ := hk
      refine aw_bipush (v := (-9)) dX11_town_29 kb_m9 ?_
      refine aw_icmp_eq (tgt := 37) dX11_town_31 rfl (fun h31 => ?_) (fun h31 => ?_)
      · obtain ⟨st, hst, hgd, hG⟩ := psF_9 (by omega) (k0.symm.trans h31)
        have e : oTown A D T (nI j) = (nI (nT st), A, D, (sTn st, (0, fun _ => vTn st (nowT T)), fun _ => none)) := by
          unfold oTown
          rw [if_neg hb, ix_nI (by omega), hk]
          dsimp only
          rw [hG]
        obtain ⟨m1, m2⟩ := k1 st hst hgd
        have hWP := psR_W hst
        have hgd2 : 15 ≤ st.1 := hgd.2
        refine aw_aload_n dX11_town_37 rfl ?_
        refine aw_aload_n dX11_town_38 rfl ?_
        refine aw_getI dX11_town_39 fgX11_110 rfl (MS.s0 hM) ?_
        rw [m1]
        refine aw_putI dX11_town_42 fpX11_126 rfl (MS.s0 hM) ?_
        refine aw_aload_n dX11_town_45 rfl ?_
        refine aw_getR dX11_town_46 fgX11_48 rfl (MS.s0 hM) (MS.r0_18 hM) ?_
        refine aw_iconst (v := nI 0) dX11_town_49 kc_0 ?_
        refine aw_iconst (v := nI 0) dX11_town_50 kc_0 ?_
        refine aw_iastore dX11_town_51 (MS.s12 hM) rfl (by decide) ?_
        refine aw_iconst (v := nI 0) dX11_town_52 kc_0 ?_
        refine aw_istore_n (lo' := [_,_,_]) dX11_town_53 (Nat.le_of_ble_eq_true rfl) rfl ?_
        rw [e]
        have hv0 : VR (M + 12) (nowT T) kv := fun q hq => by rw [k2.1 _ (by omega) (by omega) (by omega)]; exact hT.2.2.1 q hq
        refine lo_tn1 (st := st) (v0 := nowT T) hM (iv := va_up (va_up kv M (upd (kv M) 14 (nI (st.1 / 5 - 1)))) (M + 12) (upd (va_up kv M (upd (kv M) 14 (nI (st.1 / 5 - 1))) (M + 12)) 0 (nI 0))) (fun c hc => by rw [va_up_n (by omega), va_up_n (by omega)]; exact m2.1 c hc (by omega)) (fun iA a1 a2 a3 a4 => ?_) 5 0 _ (by omega) (by rw [va_up_s]; rfl) (fun q h => absurd h (Nat.not_lt_zero q)) (fun _ _ => rfl) (fun _ _ => rfl)
        have f14 : iA M 14 = nI (nT st) := by rw [a4 M (by omega), va_up_n (by omega), va_up_s]; rfl
        have f8 : ∀ j, 5 + j < st.1 → iA (M + 8) j = nI (st.2 (5 + j)) := fun j hj => by rw [a4 _ (by omega), va_up_n (by omega), va_up_n (by omega)]; exact m2.2 j hj
        have f12 : VR (M + 12) (vTi st (nowT T) 0) iA := fun q hq => by
          unfold vTi
          by_cases g0 : q = 0
          · subst g0; rw [if_pos rfl]; exact a1
          · rw [if_neg g0]
            by_cases g6 : q < 6
            · rw [if_pos g6, ← a2 (q - 1) (by omega), show 1 + (q - 1) = q by omega]
            · rw [if_neg g6, if_neg (Nat.not_lt_zero _), if_neg (Nat.not_lt_zero _), ite_self, a3 q (by omega), va_up_s, va_up_n (by omega), pk_un g0]
              exact hv0 q hq
        refine aw_iconst (v := nI 0) dX11_town_79 kc_0 ?_
        refine aw_istore_n (lo' := [_,_,_]) dX11_town_80 (Nat.le_of_ble_eq_true rfl) rfl ?_
        refine lo_tn2 (st := st) (v0 := nowT T) hM hWP hgd f14 f8 (fun iB b1 b2 b3 => ?_) (nT st) 0 iA (by omega) f12 (fun a ha => absurd ha (Nat.not_lt_zero a)) (fun _ _ => rfl)
        refine aw_aload_n dX11_town_186 rfl ?_
        refine aw_iconst (v := nI 0) dX11_town_187 kc_0 ?_
        refine aw_putI dX11_town_188 fpX11_129 rfl (MS.s0 hM) ?_
        refine aw_iconst (v := nI 0) dX11_town_191 kc_0 ?_
        refine aw_istore_n (lo' := [_,_,_]) dX11_town_192 (Nat.le_of_ble_eq_true rfl) rfl ?_
        refine lo_tn3 (n := nT st) hM (iv := va_up iB M (upd (iB M) 20 (nI 0))) (by rw [va_up_s]; exact (if_neg (by decide)).trans ((congrFun (b3 M (by omega)) 14).trans f14)) (fun i0 c1 c2 => ⟨_, rfl, ?_⟩) 3 0 _ (by omega) (fun q h => absurd h (Nat.not_lt_zero q)) (fun _ _ => rfl)
        have hfr : ∀ b, b ≠ M → b ≠ M + 7 → b ≠ M + 8 → ¬ (M + 9 ≤ b ∧ b ≤ M + 12) → b ≠ M + 15 → i0 b = iv b := fun b h1 h2 h3 h4 h5 => by
          rw [c2 b h5, va_up_n h1, b3 b h4, a4 b (by omega), va_up_n (by omega), va_up_n h1]
          exact k2.1 b h1 h2 h3
        have hMf : ∀ f, f ≠ 10 → f ≠ 11 → f ≠ 14 → f ≠ 20 → i0 M f = iv M f := fun f h1 h2 h3 h4 => by
          rw [c2 M (by omega), va_up_s, pk_un h4, b3 M (by omega), a4 M (by omega), va_up_n (by omega), va_up_s, pk_un h3]
          exact k2.2 f h1 h2
        have hB : ∀ b, M + 9 ≤ b → b ≤ M + 12 → i0 b = iB b := fun b h1 h2 => by rw [c2 b (by omega), va_up_n (by omega)]
        refine ⟨rfl, ⟨(hMf 0 (by decide) (by decide) (by decide) (by decide)).trans hA.1, (hMf 3 (by decide) (by decide) (by decide) (by decide)).trans hA.2.1, hA.2.2.1, hA.2.2.2.1, fun f hf => by rw [hfr _ (by omega) (by omega) (by omega) (by omega) (by omega)]; exact hA.2.2.2.2 f hf⟩, MD_of (hfr _ (by omega) (by omega) (by omega) (by omega) (by omega)) (hfr _ (by omega) (by omega) (by omega) (by omega) (by omega)) (hfr _ (by omega) (by omega) (by omega) (by omega) (by omega)) (hfr _ (by omega) (by omega) (by omega) (by omega) (by omega)) hD, ⟨⟨?_, fun i hi => ?_⟩, ?_, fun q hq => ?_, fun d hd => absurd hd (Nat.not_lt_zero d), fun q hq _ => c1 q hq, fun k hk K q => (by cases q)⟩, fun b hb => hfr b (by omega) (by omega) (by omega) (by omega) (by omega), fun _ _ => rfl⟩
        · rw [c2 M (by omega), va_up_s, pk_un (by decide), b3 M (by omega)]; exact f14
        · rw [hB _ (by omega) (by omega), hB _ (by omega) (by omega), hB _ (by omega) (by omega)]
          exact b2 i hi
        · rw [c2 M (by omega), va_up_s, pk_us]
        · rw [hB _ (by omega) (by omega)]
          exact b1 q hq
      · have e : oTown A D T (nI j) = (-4, A, D, T) := by
          unfold oTown
          rw [if_neg hb, ix_nI (by omega), hk]
          dsimp only
          rw [psF_n (fun q => h31 (k0.trans q))]
        refine aw_bipush (v := (-4)) dX11_town_34 kb_m4 ?_
        refine aw_iret dX11_town_36 rfl (rb0 (Nat.zero_le _)) ⟨rfl, _, rfl, ?_⟩
        exact QD_rd hA hD hT k2 e
    · exact absurd (zi_bad h4) hb
