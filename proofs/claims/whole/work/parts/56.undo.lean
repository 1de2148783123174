theorem lo_undo {G : GC} {E : SH} {iv : IV} {lv : LV} {M : Nat} (hM : MS G E M) {s : TS} {m u : Nat} {lg : Nat → TV} {kp : Nat → Option KL} (hT : MT M (s, (m, lg), kp) iv) (hm : m ≤ 40) (hu : u < m) {Q : Option Value → IV → LV → Prop} (hQ : ∀ i0, VR (M + 12) (lg u) i0 → (∀ b, b ≠ M + 12 → b ≠ M → i0 b = iv b) → i0 M = upd (iv M) 20 (nI u) → Q (some (.int (nI (m - u)))) i0 lv) : ∀ (c k : Nat) (jv : IV), k + c = 20 → (∀ q, q < k → jv (M + 12) q = nI (lg u q)) → (∀ b, b ≠ M + 12 → jv b = iv b) → AW G mX11_undo (rm 2 0) (Z0 G 2 E Q) (fun _ => True) E.1 23 [some (.ref M), some (.int (nI u)), some (.int (nI (m - u))), some (.int (nI k))] [] E jv lv := by
  intro c
  induction c with
  | zero =>
    intro k jv hk h1 h2
    have hk : k = 20 := by omega
    subst hk
    refine aw_iload_n dX11_undo_23 rfl ?_
    refine aw_bipush (v := nI 20) dX11_undo_24 kb_20 ?_
    refine aw_icmp_ge (tgt := 56) dX11_undo_26 rfl (fun h26 => ?_) (fun h26 => absurd (by decide) h26)
    refine aw_aload_n dX11_undo_56 rfl ?_
    refine aw_iload_n dX11_undo_57 rfl ?_
    refine aw_putI dX11_undo_58 fpX11_129 rfl (MS.s0 hM) ?_
    refine aw_iload_n dX11_undo_61 rfl ?_
    refine aw_iret dX11_undo_62 rfl (rb0 (Nat.zero_le _)) ⟨rfl, hQ _ (fun q hq => ?_) (fun b hb hb2 => ?_) ?_⟩
    · rw [va_up_n (by omega)]; exact h1 q hq
    · rw [va_up_n hb2]; exact h2 b hb
    · rw [va_up_s, h2 M (by omega)]
  | succ c ih =>
    intro k jv hk h1 h2
    refine aw_iload_n dX11_undo_23 rfl ?_
    refine aw_bipush (v := nI 20) dX11_undo_24 kb_20 ?_
    refine aw_icmp_ge (tgt := 56) dX11_undo_26 rfl (fun h26 => absurd h26 (nI_ge (by omega) (by decide))) (fun h26 => ?_)
    refine aw_iload_n dX11_undo_29 rfl ?_
    refine aw_if_le (tgt := 56) dX11_undo_30 rfl (fun h30 => absurd h30 (by rw [← nI_0, nI_leI (by omega) (by omega)]; omega)) (fun h30 => ?_)
    refine aw_aload_n dX11_undo_33 rfl ?_
    refine aw_getR dX11_undo_34 fgX11_48 rfl (MS.s0 hM) (MS.r0_18 hM) ?_
    refine aw_iload_n dX11_undo_37 rfl ?_
    refine aw_aload_n dX11_undo_38 rfl ?_
    refine aw_getR dX11_undo_39 fgX11_54 rfl (MS.s0 hM) (MS.r0_21 hM) ?_
    refine aw_bipush (v := nI 20) dX11_undo_42 kb_20 ?_
    refine aw_iload_n dX11_undo_44 rfl ?_
    refine aw_imul dX11_undo_45 ?_
    rw [pk_mul]
    refine aw_iload_n dX11_undo_46 rfl ?_
    refine aw_iadd dX11_undo_47 ?_
    rw [nI_add]
    refine aw_iaload dX11_undo_48 (MS.s14 hM) rfl (by omega) ?_
    rw [h2 (M + 14) (by omega), hT.2.2.2.1 u hu k (by omega)]
    refine aw_iastore dX11_undo_49 (MS.s12 hM) rfl (by omega) ?_
    refine aw_iinc (v := _) (lo' := [_,_,_,_]) dX11_undo_50 rfl (nI_1 k) rfl ?_
    refine aw_goto (tgt := 23) dX11_undo_53 rfl ?_
    refine ih (k + 1) _ (by omega) (fun q hq => ?_) (fun b hb => by rw [va_up_n hb]; exact h2 b hb)
    rw [va_up_s]
    by_cases e : q = k
    · subst e; exact if_pos rfl
    · exact (if_neg e).trans (h1 q (by omega))
