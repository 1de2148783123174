/-! by turns: the reference -/
def mvD (t : Nat) (v : TV) (w : Nat) : TV := if w < 5 then va_up v (1 + w) (tnD t (v (1 + w))) else v
def btN (v : TV) (code : Nat) : Nat → TV
  | 0 => v
  | k + 1 => mvD k (btN v code k) (code / 6 ^ k % 6)
def foldT (t : Nat) (f : Nat → Nat) : Nat → Nat
  | 0 => f 0
  | k + 1 => tnO t (foldT t f k) (f (k + 1))
def gR (s : TS) : Nat → Nat → TV → Nat
  | 0, _, v => gd s v 6
  | n + 1, t, v => foldT t (fun w => gR s n (t + 1) (mvD t v w)) 5
theorem tnO_ab {t : Nat} {ch : Nat → Bool} {f : Nat → Nat} {b0 : Nat} : ∀ c, tnO t (fldC t ch f b0 c) b0 = fldC t ch f b0 c
  | 0 => by
    unfold tnO fldC
    split <;> omega
  | c + 1 => by
    have ih := tnO_ab (t := t) (ch := ch) (f := f) (b0 := b0) c
    rw [fldC]
    split
    · generalize fldC t ch f b0 c = y at ih
      unfold tnO at ih ⊢
      by_cases h : t % 2 = 0
      · rw [if_pos h] at ih
        rw [if_pos h, if_pos h]
        omega
      · rw [if_neg h] at ih
        rw [if_neg h, if_neg h]
        omega
    · exact ih
theorem fldC_all {t : Nat} {ch : Nat → Bool} {f : Nat → Nat} {b0 c : Nat} (h : ch c = false → f c = b0) : fldC t ch f b0 (c + 1) = tnO t (fldC t ch f b0 c) (f c) := by
  rw [fldC]
  cases hc : ch c with
  | true => rfl
  | false =>
    rw [h hc, tnO_ab]
    rfl
theorem gR_oc {s : TS} : ∀ n t v, gR s n t v = ocR s n t v
  | 0, _, _ => rfl
  | n + 1, t, v => by
    have hd : ∀ c, decide (tnD t (v (1 + c)) ≠ v (1 + c)) = false → ocR s n (t + 1) (va_up v (1 + c) (tnD t (v (1 + c)))) = ocR s n (t + 1) v := fun c h => by
      have h := of_decide_eq_false h
      rw [Decidable.not_not.mp h, up_id]
    have e1 : ∀ w, w < 5 → gR s n (t + 1) (mvD t v w) = ocR s n (t + 1) (va_up v (1 + w) (tnD t (v (1 + w)))) := fun w hw => by
      rw [gR_oc n, mvD, if_pos hw]
    have e2 : gR s n (t + 1) (mvD t v 5) = ocR s n (t + 1) v := by
      rw [gR_oc n, mvD, if_neg (by decide)]
    show foldT t _ 5 = fldC t _ _ _ 5
    rw [fldC_all (hd 4), fldC_all (hd 3), fldC_all (hd 2), fldC_all (hd 1), fldC_all (hd 0)]
    simp only [foldT, fldC, e1 0 (by decide), e1 1 (by decide), e1 2 (by decide), e1 3 (by decide), e1 4 (by decide), e2]
    generalize ocR s n (t + 1) v = b
    generalize ocR s n (t + 1) (va_up v (1 + 0) (tnD t (v (1 + 0)))) = f0
    generalize ocR s n (t + 1) (va_up v (1 + 1) (tnD t (v (1 + 1)))) = f1
    generalize ocR s n (t + 1) (va_up v (1 + 2) (tnD t (v (1 + 2)))) = f2
    generalize ocR s n (t + 1) (va_up v (1 + 3) (tnD t (v (1 + 3)))) = f3
    generalize ocR s n (t + 1) (va_up v (1 + 4) (tnD t (v (1 + 4)))) = f4
    unfold tnO
    by_cases h : t % 2 = 0
    · simp only [if_pos h]; omega
    · simp only [if_neg h]; omega
theorem mvD_0 (t : Nat) (v : TV) (w : Nat) : mvD t v w 0 = v 0 := by
  unfold mvD
  split
  · exact va_up_n (by omega)
  · rfl
theorem WV_mvD {s : TS} {v : TV} {t w : Nat} (h7 : s.1 ≤ 7) (hw : WV s v) : WV s (mvD t v w) := by
  unfold mvD
  split
  · exact WV_tn h7 hw (by assumption) tnD_le
  · exact hw
theorem btN_0 (v : TV) (code : Nat) : ∀ k, btN v code k 0 = v 0
  | 0 => rfl
  | k + 1 => by rw [btN, mvD_0, btN_0 v code k]
theorem WV_btN {s : TS} {v : TV} (h7 : s.1 ≤ 7) (hw : WV s v) (code : Nat) : ∀ k, WV s (btN v code k)
  | 0 => hw
  | k + 1 => WV_mvD h7 (WV_btN h7 hw code k)
theorem btN_hi {v : TV} {code w k : Nat} (hk : k < 3) (hc : code < 6 ^ k) (hw : w < 6) : btN v (code + 6 ^ k * w) (k + 1) = mvD k (btN v code k) w := by
  rcases (show k = 0 ∨ k = 1 ∨ k = 2 by omega) with rfl | rfl | rfl
  · show mvD 0 v ((code + 1 * w) / 1 % 6) = mvD 0 v w
    rw [show (code + 1 * w) / 1 % 6 = w by omega]
  · show mvD 1 (mvD 0 v ((code + 6 * w) / 1 % 6)) ((code + 6 * w) / 6 % 6) = mvD 1 (mvD 0 v (code / 1 % 6)) w
    replace hc : code < 6 := hc
    rw [show (code + 6 * w) / 1 % 6 = code / 1 % 6 by omega, show (code + 6 * w) / 6 % 6 = w by omega]
  · show mvD 2 (mvD 1 (mvD 0 v ((code + 36 * w) / 1 % 6)) ((code + 36 * w) / 6 % 6)) ((code + 36 * w) / 36 % 6) = mvD 2 (mvD 1 (mvD 0 v (code / 1 % 6)) (code / 6 % 6)) w
    replace hc : code < 36 := hc
    rw [show (code + 36 * w) / 1 % 6 = code / 1 % 6 by omega, show (code + 36 * w) / 6 % 6 = code / 6 % 6 by omega, show (code + 36 * w) / 36 % 6 = w by omega]
theorem gR_le {s : TS} (hs : WS s) {n t : Nat} {v : TV} (hw : WV s v) (h0 : v 0 + 6 < 2 ^ 20) : gR s n t v ≤ 63 := by
  rw [gR_oc]
  exact ocR_le hs n t v hw h0
theorem foldT_le {t c : Nat} {f : Nat → Nat} : ∀ k, (∀ j, j ≤ k → f j ≤ c) → foldT t f k ≤ c
  | 0, h => h 0 (Nat.le_refl _)
  | k + 1, h => by
    rw [foldT]
    exact tnO_le (foldT_le k (fun j hj => h j (by omega))) (h (k + 1) (Nat.le_refl _))
theorem m_mov1 {G : GC} {E : SH} {iv : IV} {lv : LV} {M t w : Nat} {s : TS} {v : TV} (hM : MS G E M) (hv : VR (M + 13) v iv) (hw : WV s v) (ht : t % 2 = 0) : w < 6 → SpV G mX11_moves 2 [.ref M, .int (nI w), .int (nI 1)] E iv lv (fun i0 l => VR (M + 13) (mvD t v w) i0 ∧ (∀ b, b ≠ M + 13 → i0 b = iv b) ∧ l = lv) := by
  intro hw6
  refine spec0_of (lo := [_,_,_]) (by decide) (Nat.le_of_ble_eq_true rfl) rfl ?_
  refine aw_iload_n dX11_moves_0 rfl ?_
  refine aw_iconst (v := nI 5) dX11_moves_1 kc_5 ?_
  refine aw_icmp_ge (tgt := 33) dX11_moves_2 rfl (fun h2 => ?_) (fun h2 => ?_)
  · rw [nI_leI (by decide) (by omega)] at h2
    have e : mvD t v w = v := if_neg (by omega)
    refine aw_vret dX11_moves_33 rfl (rb0 (Nat.zero_le _)) ⟨rfl, rfl, ?_⟩
    rw [e]
    first
      | exact ⟨hv, fun _ _ => rfl, rfl⟩
      | exact ⟨VR_up hv (by rw [va_up_s]) (fun q _ hn => va_up_n hn), fun b hb => va_up_n hb, rfl⟩
  · rw [nI_leI (by decide) (by omega)] at h2
    have e : mvD t v w = va_up v (1 + w) (min 9 (v (1 + w) + 1)) := by
      rw [mvD, if_pos (by omega), tnD, if_pos ht]
    have h9 := hw.2.1 w (by omega)
    refine aw_aload_n dX11_moves_5 rfl ?_
    refine aw_getR dX11_moves_6 fgX11_51 rfl (MS.s0 hM) (MS.r0_19 hM) ?_
    refine aw_iconst (v := nI 1) dX11_moves_9 kc_1 ?_
    refine aw_iload_n dX11_moves_10 rfl ?_
    refine aw_iadd dX11_moves_11 ?_
    rw [nI_add]
    refine aw_iload_n dX11_moves_12 rfl ?_
    refine aw_if_eq (tgt := 31) dX11_moves_13 rfl (fun h13 => absurd h13 (by decide)) (fun h13 => ?_)
    refine aw_aload_n dX11_moves_16 rfl ?_
    refine aw_getR dX11_moves_17 fgX11_51 rfl (MS.s0 hM) (MS.r0_19 hM) ?_
    refine aw_iconst (v := nI 1) dX11_moves_20 kc_1 ?_
    refine aw_iload_n dX11_moves_21 rfl ?_
    refine aw_iadd dX11_moves_22 ?_
    rw [nI_add]
    refine aw_iaload dX11_moves_23 (MS.s13 hM) rfl (by omega) ?_
    rw [hv (1 + w) (by omega)]
    refine aw_iconst (v := nI 1) dX11_moves_24 kc_1 ?_
    refine aw_xSi [_, _] dX11_moves_25 csX11_182 (m_deeper (a := v (1 + w)) (b := 1) h9 (by decide)) rfl rfl (Nat.le_of_ble_eq_true rfl) (rb0 (by decide)) ?_
    refine aw_goto (tgt := 32) dX11_moves_28 rfl ?_
    refine aw_iastore dX11_moves_32 (MS.s13 hM) rfl (by omega) ?_
    refine aw_vret dX11_moves_33 rfl (rb0 (Nat.zero_le _)) ⟨rfl, rfl, ?_⟩
    rw [e]
    first
      | exact ⟨hv, fun _ _ => rfl, rfl⟩
      | exact ⟨VR_up hv (by rw [va_up_s]) (fun q _ hn => va_up_n hn), fun b hb => va_up_n hb, rfl⟩
theorem m_mov0 {G : GC} {E : SH} {iv : IV} {lv : LV} {M t w : Nat} {s : TS} {v : TV} (hM : MS G E M) (hv : VR (M + 13) v iv) (hw : WV s v) (ht : ¬ t % 2 = 0) : w < 6 → SpV G mX11_moves 2 [.ref M, .int (nI w), .int (nI 0)] E iv lv (fun i0 l => VR (M + 13) (mvD t v w) i0 ∧ (∀ b, b ≠ M + 13 → i0 b = iv b) ∧ l = lv) := by
  intro hw6
  refine spec0_of (lo := [_,_,_]) (by decide) (Nat.le_of_ble_eq_true rfl) rfl ?_
  refine aw_iload_n dX11_moves_0 rfl ?_
  refine aw_iconst (v := nI 5) dX11_moves_1 kc_5 ?_
  refine aw_icmp_ge (tgt := 33) dX11_moves_2 rfl (fun h2 => ?_) (fun h2 => ?_)
  · rw [nI_leI (by decide) (by omega)] at h2
    have e : mvD t v w = v := if_neg (by omega)
    refine aw_vret dX11_moves_33 rfl (rb0 (Nat.zero_le _)) ⟨rfl, rfl, ?_⟩
    rw [e]
    first
      | exact ⟨hv, fun _ _ => rfl, rfl⟩
      | exact ⟨VR_up hv (by rw [va_up_s]) (fun q _ hn => va_up_n hn), fun b hb => va_up_n hb, rfl⟩
  · rw [nI_leI (by decide) (by omega)] at h2
    have e : mvD t v w = va_up v (1 + w) (0) := by
      rw [mvD, if_pos (by omega), tnD, if_neg ht]
    have h9 := hw.2.1 w (by omega)
    refine aw_aload_n dX11_moves_5 rfl ?_
    refine aw_getR dX11_moves_6 fgX11_51 rfl (MS.s0 hM) (MS.r0_19 hM) ?_
    refine aw_iconst (v := nI 1) dX11_moves_9 kc_1 ?_
    refine aw_iload_n dX11_moves_10 rfl ?_
    refine aw_iadd dX11_moves_11 ?_
    rw [nI_add]
    refine aw_iload_n dX11_moves_12 rfl ?_
    refine aw_if_eq (tgt := 31) dX11_moves_13 rfl (fun h13 => ?_) (fun h13 => absurd (by decide) h13)
    refine aw_iconst (v := nI 0) dX11_moves_31 kc_0 ?_
    refine aw_iastore dX11_moves_32 (MS.s13 hM) rfl (by omega) ?_
    refine aw_vret dX11_moves_33 rfl (rb0 (Nat.zero_le _)) ⟨rfl, rfl, ?_⟩
    rw [e]
    first
      | exact ⟨hv, fun _ _ => rfl, rfl⟩
      | exact ⟨VR_up hv (by rw [va_up_s]) (fun q _ hn => va_up_n hn), fun b hb => va_up_n hb, rfl⟩
theorem lo_mbehind {G : GC} {E : SH} {iv : IV} {lv : LV} {M n code : Nat} {s : TS} {v : TV} (hM : MS G E M) (hs : WS s) (hr : SR M s iv) (hv : VR (M + 12) v iv) (hw : WV s v) (hd : v 0 ≤ 40) (hn : n ≤ 3) (hc : code < 216) : ∀ (c k : Nat) (jv : IV), k + c = n → VR (M + 13) (btN v code k) jv → (∀ b, b ≠ M + 13 → jv b = iv b) → AW G mX11_behindTurns (rm 7 0) (Z0 G 7 E (fun r i0 l => ∃ w, r = some (.int w) ∧ (w = nI (gd s (btN v code n) 6) ∧ (∀ b, b ≠ M + 13 → i0 b = iv b) ∧ l = lv))) (fun _ => True) E.1 9 [some (.ref M), some (.int (nI n)), some (.int (nI code)), some (.int (nI (code / 6 ^ k))), some (.int (nI k))] [] E jv lv := by
  have h7 := hs.1
  intro c
  induction c with
  | zero =>
    intro k jv hk h1 hf
    have hk : k = n := by omega
    subst hk
    have hrj : SR M s jv := SR_f (by rw [hf M (by omega)]) (hf _ (by omega)) (hf _ (by omega)) (hf _ (by omega)) hr
    refine aw_iload dX11_behindTurns_9 rfl ?_
    refine aw_iload_n dX11_behindTurns_11 rfl ?_
    refine aw_icmp_ge (tgt := 46) dX11_behindTurns_12 rfl (fun h12 => ?_) (fun h12 => absurd (nI_le (Nat.le_refl _) (by omega)) h12)
    refine aw_aload_n dX11_behindTurns_46 rfl ?_
    refine aw_bipush (v := nI 6) dX11_behindTurns_47 kb_6 ?_
    refine aw_sVi [_] dX11_behindTurns_49 cvX11_192 (MS.s0 hM) (m_allBehind hM hs hrj h1 (WV_btN h7 hw code k) (n := 6) (by rw [btN_0]; omega)) rfl rfl (Nat.le_of_ble_eq_true rfl) (rb0 (by decide)) (fun kw kv klv hk => ?_)
    obtain ⟨k0, k1, k2, rfl⟩ := hk
    refine aw_iret dX11_behindTurns_52 rfl (rb0 (Nat.zero_le _)) ⟨rfl, _, rfl, k0, fun b hb => by rw [k2 b hb]; exact hf b hb, rfl⟩
  | succ c ih =>
    intro k jv hk h1 hf
    have hdl : code / 6 ^ k ≤ code := Nat.div_le_self _ _
    have hrm : code / 6 ^ k % 6 < 6 := Nat.mod_lt _ (by decide)
    have hk2 : k % 2 < 2 := Nat.mod_lt _ (by decide)
    have hdd : code / 6 ^ k / 6 = code / 6 ^ (k + 1) := by rw [Nat.pow_succ, Nat.div_div_eq_div_mul]
    refine aw_iload dX11_behindTurns_9 rfl ?_
    refine aw_iload_n dX11_behindTurns_11 rfl ?_
    refine aw_icmp_ge (tgt := 46) dX11_behindTurns_12 rfl (fun h12 => absurd h12 (nI_ge (by omega) (by omega))) (fun h12 => ?_)
    refine aw_aload_n dX11_behindTurns_15 rfl ?_
    refine aw_iload_n dX11_behindTurns_16 rfl ?_
    refine aw_bipush (v := nI 6) dX11_behindTurns_17 kb_6 ?_
    refine aw_irem dX11_behindTurns_19 (by decide) ?_
    rw [pk_rem (by omega) (by decide) (by decide)]
    refine aw_iload dX11_behindTurns_20 rfl ?_
    refine aw_iconst (v := nI 2) dX11_behindTurns_22 kc_2 ?_
    refine aw_irem dX11_behindTurns_23 (by decide) ?_
    rw [pk_rem (by omega) (by decide) (by decide)]
    refine aw_if_ne (tgt := 31) dX11_behindTurns_24 rfl (fun h24 => ?_) (fun h24 => ?_)
    · rw [← nI_0, nI_eq (by omega) (by omega)] at h24
      refine aw_iconst (v := nI 0) dX11_behindTurns_31 kc_0 ?_
      refine aw_sVv [_, _] dX11_behindTurns_32 cvX11_221 (MS.s0 hM) (m_mov0 (t := k) hM h1 (WV_btN h7 hw code k) (by omega) hrm) rfl rfl (Nat.le_of_ble_eq_true rfl) (rb0 (by decide)) (fun kv klv hk => ?_)
      obtain ⟨q1, q2, rfl⟩ := hk
      refine aw_iload_n dX11_behindTurns_35 rfl ?_
      refine aw_bipush (v := nI 6) dX11_behindTurns_36 kb_6 ?_
      refine aw_idiv dX11_behindTurns_38 (by decide) ?_
      rw [pk_div (by omega) (by decide) (by decide), hdd]
      refine aw_istore_n (lo' := [_,_,_,_,_]) dX11_behindTurns_39 (Nat.le_of_ble_eq_true rfl) rfl ?_
      refine aw_iinc (v := _) (lo' := [_,_,_,_,_]) dX11_behindTurns_40 rfl (nI_1 k) rfl ?_
      refine aw_goto (tgt := 9) dX11_behindTurns_43 rfl ?_
      exact ih (k + 1) kv (by omega) q1 (fun b hb => by rw [q2 b hb]; exact hf b hb)
    · rw [← nI_0, nI_eq (by omega) (by omega)] at h24
      refine aw_iconst (v := nI 1) dX11_behindTurns_27 kc_1 ?_
      refine aw_goto (tgt := 32) dX11_behindTurns_28 rfl ?_
      refine aw_sVv [_, _] dX11_behindTurns_32 cvX11_221 (MS.s0 hM) (m_mov1 (t := k) hM h1 (WV_btN h7 hw code k) (by omega) hrm) rfl rfl (Nat.le_of_ble_eq_true rfl) (rb0 (by decide)) (fun kv klv hk => ?_)
      obtain ⟨q1, q2, rfl⟩ := hk
      refine aw_iload_n dX11_behindTurns_35 rfl ?_
      refine aw_bipush (v := nI 6) dX11_behindTurns_36 kb_6 ?_
      refine aw_idiv dX11_behindTurns_38 (by decide) ?_
      rw [pk_div (by omega) (by decide) (by decide), hdd]
      refine aw_istore_n (lo' := [_,_,_,_,_]) dX11_behindTurns_39 (Nat.le_of_ble_eq_true rfl) rfl ?_
      refine aw_iinc (v := _) (lo' := [_,_,_,_,_]) dX11_behindTurns_40 rfl (nI_1 k) rfl ?_
      refine aw_goto (tgt := 9) dX11_behindTurns_43 rfl ?_
      exact ih (k + 1) kv (by omega) q1 (fun b hb => by rw [q2 b hb]; exact hf b hb)
theorem m_behind {G : GC} {E : SH} {iv : IV} {lv : LV} {M n code : Nat} {s : TS} {v : TV} (hM : MS G E M) (hs : WS s) (hr : SR M s iv) (hv : VR (M + 12) v iv) (hw : WV s v) (hd : v 0 ≤ 40) (hn : n ≤ 3) (hc : code < 216) : SpI G mX11_behindTurns 7 [.ref M, .int (nI n), .int (nI code)] E iv lv (fun w i0 l => w = nI (gd s (btN v code n) 6) ∧ (∀ b, b ≠ M + 13 → i0 b = iv b) ∧ l = lv) := by
  refine spec0_of (lo := [_,_,_,_,_]) (by decide) (Nat.le_of_ble_eq_true rfl) rfl ?_
  refine aw_aload_n dX11_behindTurns_0 rfl ?_
  refine aw_xVv [] dX11_behindTurns_1 cvX11_189 (MS.s0 hM) (m_copyNow hM) rfl rfl (Nat.le_of_ble_eq_true rfl) (rb0 (by decide)) ?_
  have hc13 : VR (M + 13) v (va_up iv (M + 13) (va_cpy (iv (M + 12)) (iv (M + 13)) 0 0 20)) := VR_copy hv
  have hcq : ∀ b, b ≠ M + 13 → va_up iv (M + 13) (va_cpy (iv (M + 12)) (iv (M + 13)) 0 0 20) b = iv b := fun b hb => va_up_n hb
  generalize va_up iv (M + 13) (va_cpy (iv (M + 12)) (iv (M + 13)) 0 0 20) = civ at hc13 hcq ⊢
  refine aw_iload_n dX11_behindTurns_4 rfl ?_
  refine aw_istore_n (lo' := [_,_,_,_,_]) dX11_behindTurns_5 (Nat.le_of_ble_eq_true rfl) rfl ?_
  refine aw_iconst (v := nI 0) dX11_behindTurns_6 kc_0 ?_
  refine aw_istore (lo' := [_,_,_,_,_]) dX11_behindTurns_7 (Nat.le_of_ble_eq_true rfl) rfl ?_
  have h := lo_mbehind hM hs hr hv hw hd hn hc n 0 civ (by omega) hc13 hcq (lv := lv)
  rw [show code / 6 ^ 0 = code from Nat.div_one _] at h
  exact h
theorem lo_du1 {G : GC} {E : SH} {iv : IV} {lv : LV} {M n : Nat} {s : TS} {v : TV} (hM : MS G E M) (hs : WS s) (hr : SR M s iv) (hv : VR (M + 12) v iv) (hw : WV s v) (hd : v 0 ≤ 40) (hn : n ≤ 3) {y2 : Int32} {Zz : List Frame → Array Value → State → State → Prop} : (AW G mX11_duel (rm 8 0) Zz (fun _ => True) E.1 39 [some (.ref M), some (.int (nI n)), some (.int y2), some (.int (nI (6 ^ n))), some (.int (nI n)), none, none, none, none] [] E iv lv) → ∀ (c e : Nat), e + c = n → AW G mX11_duel (rm 8 0) Zz (fun _ => True) E.1 22 [some (.ref M), some (.int (nI n)), some (.int y2), some (.int (nI (6 ^ e))), some (.int (nI e)), none, none, none, none] [] E iv lv := by
  intro hK c
  induction c with
  | zero =>
    intro e hc
    have hc : e = n := by omega
    subst hc
    refine aw_iload dX11_duel_22 rfl ?_
    refine aw_iload_n dX11_duel_24 rfl ?_
    refine aw_icmp_ge (tgt := 39) dX11_duel_25 rfl (fun h25 => ?_) (fun h25 => absurd (nI_le (Nat.le_refl _) (by omega)) h25)
    exact hK
  | succ c ih =>
    intro e hc
    refine aw_iload dX11_duel_22 rfl ?_
    refine aw_iload_n dX11_duel_24 rfl ?_
    refine aw_icmp_ge (tgt := 39) dX11_duel_25 rfl (fun h25 => absurd h25 (nI_ge (by omega) (by omega))) (fun h25 => ?_)
    refine aw_iload_n dX11_duel_28 rfl ?_
    refine aw_bipush (v := nI 6) dX11_duel_29 kb_6 ?_
    refine aw_imul dX11_duel_31 ?_
    rw [pk_mul]
    refine aw_istore_n (lo' := [_,_,_,_,_,_,_,_,_]) dX11_duel_32 (Nat.le_of_ble_eq_true rfl) rfl ?_
    refine aw_iinc (v := _) (lo' := [_,_,_,_,_,_,_,_,_]) dX11_duel_33 rfl (nI_1 e) rfl ?_
    refine aw_goto (tgt := 22) dX11_duel_36 rfl ?_
    exact ih (e + 1) (by omega)
theorem lo_du2 {G : GC} {E : SH} {iv : IV} {lv : LV} {M n : Nat} {s : TS} {v : TV} (hM : MS G E M) (hs : WS s) (hr : SR M s iv) (hv : VR (M + 12) v iv) (hw : WV s v) (hd : v 0 ≤ 40) (hn : n ≤ 3) {y2 : Int32} {Zz : List Frame → Array Value → State → State → Prop} (hN : 6 ^ n ≤ 216) : (∀ i0, (∀ q, q < 6 ^ n → i0 (M + 17) q = nI (gR s 0 n (btN v q n))) → (∀ b, b ≠ M + 13 → b ≠ M + 17 → i0 b = iv b) → AW G mX11_duel (rm 8 0) Zz (fun _ => True) E.1 68 [some (.ref M), some (.int (nI n)), some (.int y2), some (.int (nI (6 ^ n))), some (.int (nI (6 ^ n))), none, none, none, none] [] E i0 lv) → ∀ (c q : Nat) (jv : IV), q + c = 6 ^ n → (∀ z, z < q → jv (M + 17) z = nI (gR s 0 n (btN v z n))) → (∀ b, b ≠ M + 13 → b ≠ M + 17 → jv b = iv b) → AW G mX11_duel (rm 8 0) Zz (fun _ => True) E.1 42 [some (.ref M), some (.int (nI n)), some (.int y2), some (.int (nI (6 ^ n))), some (.int (nI q)), none, none, none, none] [] E jv lv := by
  intro hK c
  induction c with
  | zero =>
    intro q jv hc h1 hf
    have hc : q = 6 ^ n := by omega
    subst hc
    refine aw_iload dX11_duel_42 rfl ?_
    refine aw_iload_n dX11_duel_44 rfl ?_
    refine aw_icmp_ge (tgt := 68) dX11_duel_45 rfl (fun h45 => ?_) (fun h45 => absurd (nI_le (Nat.le_refl _) (by omega)) h45)
    exact hK jv h1 hf
  | succ c ih =>
    intro q jv hc h1 hf
    have hrj : SR M s jv := SR_f (by rw [hf M (by omega) (by omega)]) (hf _ (by omega) (by omega)) (hf _ (by omega) (by omega)) (hf _ (by omega) (by omega)) hr
    have hvj : VR (M + 12) v jv := fun z hz => by rw [hf _ (by omega) (by omega)]; exact hv z hz
    refine aw_iload dX11_duel_42 rfl ?_
    refine aw_iload_n dX11_duel_44 rfl ?_
    refine aw_icmp_ge (tgt := 68) dX11_duel_45 rfl (fun h45 => absurd h45 (nI_ge (by omega) (by omega))) (fun h45 => ?_)
    refine aw_aload_n dX11_duel_48 rfl ?_
    refine aw_getR dX11_duel_49 fgX11_63 rfl (MS.s0 hM) (MS.r0_24 hM) ?_
    refine aw_iload dX11_duel_52 rfl ?_
    refine aw_aload_n dX11_duel_54 rfl ?_
    refine aw_iload_n dX11_duel_55 rfl ?_
    refine aw_iload dX11_duel_56 rfl ?_
    refine aw_sVi [_, _] dX11_duel_58 cvX11_225 (MS.s0 hM) (m_behind hM hs hrj hvj hw hd hn (code := q) (by omega)) rfl rfl (Nat.le_of_ble_eq_true rfl) (rb0 (by decide)) (fun kw kv klv hk => ?_)
    obtain ⟨k0, k2, rfl⟩ := hk
    subst k0
    refine aw_iastore dX11_duel_61 (MS.s17 hM) rfl (by omega) ?_
    refine aw_iinc (v := _) (lo' := [_,_,_,_,_,_,_,_,_]) dX11_duel_62 rfl (nI_1 q) rfl ?_
    refine aw_goto (tgt := 42) dX11_duel_65 rfl ?_
    refine ih (q + 1) _ (by omega) (fun z hz => ?_) (fun b h1 h2 => by rw [va_up_n h2, k2 b h1]; exact hf b h1 h2)
    rw [va_up_s]
    by_cases e : z = q
    · subst e; exact pk_us
    · rw [pk_un e, k2 _ (by omega)]; exact h1 z (by omega)
theorem lo_du5 {G : GC} {E : SH} {iv : IV} {lv : LV} {M n : Nat} {s : TS} {v : TV} (hM : MS G E M) (hs : WS s) (hr : SR M s iv) (hv : VR (M + 12) v iv) (hw : WV s v) (hd : v 0 ≤ 40) (hn : n ≤ 3) {y2 : Int32} {Zz : List Frame → Array Value → State → State → Prop} {e q : Nat} (he : e < 3) (hq : q < 6 ^ e) (hN : 6 ^ e * 6 ≤ 216) (h1 : ∀ z, q ≤ z → z < 6 ^ e * 6 → iv (M + 17) z = nI (gR s (n - (e + 1)) (e + 1) (btN v z (e + 1)))) {j4 : Int32} (hj4 : j4 = nI e) : (∀ j8, AW G mX11_duel (rm 8 0) Zz (fun _ => True) E.1 171 [some (.ref M), some (.int (nI n)), some (.int y2), some (.int (nI (6 ^ e))), some (.int (j4)), some (.int (nI q)), some (.int (nI (foldT e (fun w => gR s (n - (e + 1)) (e + 1) (mvD e (btN v q e) w)) 5))), some (.int (nI 6)), j8] [] E iv lv) → ∀ (c w : Nat) (j8 : Option Value), w + c = 5 → AW G mX11_duel (rm 8 0) Zz (fun _ => True) E.1 104 [some (.ref M), some (.int (nI n)), some (.int y2), some (.int (nI (6 ^ e))), some (.int (j4)), some (.int (nI q)), some (.int (nI (foldT e (fun w => gR s (n - (e + 1)) (e + 1) (mvD e (btN v q e) w)) w))), some (.int (nI (w + 1))), j8] [] E iv lv := by
  subst hj4
  intro hK c
  induction c with
  | zero =>
    intro w j8 hc
    have hc : w = 5 := by omega
    subst hc
    refine aw_iload dX11_duel_104 rfl ?_
    refine aw_bipush (v := nI 6) dX11_duel_106 kb_6 ?_
    refine aw_icmp_ge (tgt := 171) dX11_duel_108 rfl (fun h108 => ?_) (fun h108 => absurd (by decide) h108)
    exact hK j8
  | succ c ih =>
    intro w j8 hc
    have hgl : ∀ w, gR s (n - (e + 1)) (e + 1) (mvD e (btN v q e) w) ≤ 63 := fun w => gR_le hs (WV_mvD hs.1 (WV_btN hs.1 hw q e)) (by rw [mvD_0, btN_0]; omega)
    have hfl : foldT e (fun w => gR s (n - (e + 1)) (e + 1) (mvD e (btN v q e) w)) w ≤ 63 := foldT_le w (fun j _ => hgl j)
    have hg1 := hgl (w + 1)
    have hw5 : 6 ^ e * (w + 1) ≤ 6 ^ e * 5 := Nat.mul_le_mul_left _ (by omega)
    have he2 : e % 2 < 2 := Nat.mod_lt _ (by decide)
    have hrd : iv (M + 17) (q + 6 ^ e * (w + 1)) = nI (gR s (n - (e + 1)) (e + 1) (mvD e (btN v q e) (w + 1))) := by
      rw [h1 _ (by omega) (by omega), btN_hi he hq (by omega)]
    have hfs : foldT e (fun w => gR s (n - (e + 1)) (e + 1) (mvD e (btN v q e) w)) (w + 1) = tnO e (foldT e (fun w => gR s (n - (e + 1)) (e + 1) (mvD e (btN v q e) w)) w) (gR s (n - (e + 1)) (e + 1) (mvD e (btN v q e) (w + 1))) := rfl
    have ih2 := fun j8 => ih (w + 1) j8 (by omega)
    rw [hfs] at ih2
    generalize foldT e (fun w => gR s (n - (e + 1)) (e + 1) (mvD e (btN v q e) w)) w = x at hfl ih2 ⊢
    generalize gR s (n - (e + 1)) (e + 1) (mvD e (btN v q e) (w + 1)) = y at hg1 hrd ih2 ⊢
    refine aw_iload dX11_duel_104 rfl ?_
    refine aw_bipush (v := nI 6) dX11_duel_106 kb_6 ?_
    refine aw_icmp_ge (tgt := 171) dX11_duel_108 rfl (fun h108 => absurd h108 (nI_ge (by omega) (by decide))) (fun h108 => ?_)
    refine aw_aload_n dX11_duel_111 rfl ?_
    refine aw_getR dX11_duel_112 fgX11_63 rfl (MS.s0 hM) (MS.r0_24 hM) ?_
    refine aw_iload dX11_duel_115 rfl ?_
    refine aw_iload_n dX11_duel_117 rfl ?_
    refine aw_iload dX11_duel_118 rfl ?_
    refine aw_imul dX11_duel_120 ?_
    rw [pk_mul]
    refine aw_iadd dX11_duel_121 ?_
    rw [nI_add]
    refine aw_iaload dX11_duel_122 (MS.s17 hM) rfl (by omega) ?_
    rw [hrd]
    refine aw_istore (lo' := [_,_,_,_,_,_,_,_,_]) dX11_duel_123 (Nat.le_of_ble_eq_true rfl) rfl ?_
    refine aw_iload dX11_duel_125 rfl ?_
    refine aw_iconst (v := nI 2) dX11_duel_127 kc_2 ?_
    refine aw_irem dX11_duel_128 (by decide) ?_
    rw [pk_rem (by omega) (by decide) (by decide)]
    refine aw_if_ne (tgt := 149) dX11_duel_129 rfl (fun h129 => ?_) (fun h129 => ?_)
    · rw [← nI_0, nI_eq (by omega) (by omega)] at h129
      refine aw_iload dX11_duel_149 rfl ?_
      refine aw_iload dX11_duel_151 rfl ?_
      refine aw_icmp_le (tgt := 161) dX11_duel_153 rfl (fun h153 => ?_) (fun h153 => ?_)
      · rw [nI_leI (by omega) (by omega)] at h153
        refine aw_iload dX11_duel_161 rfl ?_
        refine aw_istore (lo' := [_,_,_,_,_,_,_,_,_]) dX11_duel_163 (Nat.le_of_ble_eq_true rfl) rfl ?_
        refine aw_iinc (v := _) (lo' := [_,_,_,_,_,_,_,_,_]) dX11_duel_165 rfl (nI_1 (w + 1)) rfl ?_
        refine aw_goto (tgt := 104) dX11_duel_168 rfl ?_
        have h := ih2 (some (.int (nI y)))
        first
          | (rw [show tnO e x y = x by unfold tnO; rw [if_pos h129]; omega] at h
             exact h)
          | (rw [show tnO e x y = y by unfold tnO; rw [if_pos h129]; omega] at h
             exact h)
          | (rw [show tnO e x y = x by unfold tnO; rw [if_neg h129]; omega] at h
             exact h)
          | (rw [show tnO e x y = y by unfold tnO; rw [if_neg h129]; omega] at h
             exact h)
      · rw [nI_leI (by omega) (by omega)] at h153
        refine aw_iload dX11_duel_156 rfl ?_
        refine aw_goto (tgt := 163) dX11_duel_158 rfl ?_
        refine aw_istore (lo' := [_,_,_,_,_,_,_,_,_]) dX11_duel_163 (Nat.le_of_ble_eq_true rfl) rfl ?_
        refine aw_iinc (v := _) (lo' := [_,_,_,_,_,_,_,_,_]) dX11_duel_165 rfl (nI_1 (w + 1)) rfl ?_
        refine aw_goto (tgt := 104) dX11_duel_168 rfl ?_
        have h := ih2 (some (.int (nI y)))
        first
          | (rw [show tnO e x y = x by unfold tnO; rw [if_pos h129]; omega] at h
             exact h)
          | (rw [show tnO e x y = y by unfold tnO; rw [if_pos h129]; omega] at h
             exact h)
          | (rw [show tnO e x y = x by unfold tnO; rw [if_neg h129]; omega] at h
             exact h)
          | (rw [show tnO e x y = y by unfold tnO; rw [if_neg h129]; omega] at h
             exact h)
    · rw [← nI_0, nI_eq (by omega) (by omega)] at h129
      refine aw_iload dX11_duel_132 rfl ?_
      refine aw_iload dX11_duel_134 rfl ?_
      refine aw_icmp_ge (tgt := 144) dX11_duel_136 rfl (fun h136 => ?_) (fun h136 => ?_)
      · rw [nI_leI (by omega) (by omega)] at h136
        refine aw_iload dX11_duel_144 rfl ?_
        refine aw_goto (tgt := 163) dX11_duel_146 rfl ?_
        refine aw_istore (lo' := [_,_,_,_,_,_,_,_,_]) dX11_duel_163 (Nat.le_of_ble_eq_true rfl) rfl ?_
        refine aw_iinc (v := _) (lo' := [_,_,_,_,_,_,_,_,_]) dX11_duel_165 rfl (nI_1 (w + 1)) rfl ?_
        refine aw_goto (tgt := 104) dX11_duel_168 rfl ?_
        have h := ih2 (some (.int (nI y)))
        first
          | (rw [show tnO e x y = x by unfold tnO; rw [if_pos h129]; omega] at h
             exact h)
          | (rw [show tnO e x y = y by unfold tnO; rw [if_pos h129]; omega] at h
             exact h)
          | (rw [show tnO e x y = x by unfold tnO; rw [if_neg h129]; omega] at h
             exact h)
          | (rw [show tnO e x y = y by unfold tnO; rw [if_neg h129]; omega] at h
             exact h)
      · rw [nI_leI (by omega) (by omega)] at h136
        refine aw_iload dX11_duel_139 rfl ?_
        refine aw_goto (tgt := 163) dX11_duel_141 rfl ?_
        refine aw_istore (lo' := [_,_,_,_,_,_,_,_,_]) dX11_duel_163 (Nat.le_of_ble_eq_true rfl) rfl ?_
        refine aw_iinc (v := _) (lo' := [_,_,_,_,_,_,_,_,_]) dX11_duel_165 rfl (nI_1 (w + 1)) rfl ?_
        refine aw_goto (tgt := 104) dX11_duel_168 rfl ?_
        have h := ih2 (some (.int (nI y)))
        first
          | (rw [show tnO e x y = x by unfold tnO; rw [if_pos h129]; omega] at h
             exact h)
          | (rw [show tnO e x y = y by unfold tnO; rw [if_pos h129]; omega] at h
             exact h)
          | (rw [show tnO e x y = x by unfold tnO; rw [if_neg h129]; omega] at h
             exact h)
          | (rw [show tnO e x y = y by unfold tnO; rw [if_neg h129]; omega] at h
             exact h)
theorem lo_du4 {G : GC} {E : SH} {iv : IV} {lv : LV} {M n : Nat} {s : TS} {v : TV} (hM : MS G E M) (hs : WS s) (hr : SR M s iv) (hv : VR (M + 12) v iv) (hw : WV s v) (hd : v 0 ≤ 40) (hn : n ≤ 3) {y2 : Int32} {Zz : List Frame → Array Value → State → State → Prop} {e : Nat} (he : e < n) (hN : 6 ^ e * 6 ≤ 216) {j4 : Int32} (hj4 : j4 = nI e) : (∀ i0 j6 j7 j8, (∀ z, z < 6 ^ e → i0 (M + 17) z = nI (gR s (n - e) e (btN v z e))) → (∀ b, b ≠ M + 13 → b ≠ M + 17 → i0 b = iv b) → AW G mX11_duel (rm 8 0) Zz (fun _ => True) E.1 186 [some (.ref M), some (.int (nI n)), some (.int y2), some (.int (nI (6 ^ e))), some (.int (j4)), some (.int (nI (6 ^ e))), j6, j7, j8] [] E i0 lv) → ∀ (c q : Nat) (jv : IV) (j6 j7 j8 : Option Value), q + c = 6 ^ e → (∀ z, z < q → jv (M + 17) z = nI (gR s (n - e) e (btN v z e))) → (∀ z, q ≤ z → z < 6 ^ e * 6 → jv (M + 17) z = nI (gR s (n - (e + 1)) (e + 1) (btN v z (e + 1)))) → (∀ b, b ≠ M + 13 → b ≠ M + 17 → jv b = iv b) → AW G mX11_duel (rm 8 0) Zz (fun _ => True) E.1 86 [some (.ref M), some (.int (nI n)), some (.int y2), some (.int (nI (6 ^ e))), some (.int (j4)), some (.int (nI q)), j6, j7, j8] [] E jv lv := by
  intro hK c
  induction c with
  | zero =>
    intro q jv j6 j7 j8 hc h0 h1 hf
    have hc : q = 6 ^ e := by omega
    subst hc
    refine aw_iload dX11_duel_86 rfl ?_
    refine aw_iload_n dX11_duel_88 rfl ?_
    refine aw_icmp_ge (tgt := 186) dX11_duel_89 rfl (fun h89 => ?_) (fun h89 => absurd (nI_le (Nat.le_refl _) (by omega)) h89)
    exact hK jv j6 j7 j8 h0 hf
  | succ c ih =>
    intro q jv j6 j7 j8 hc h0 h1 hf
    have hrj : SR M s jv := SR_f (by rw [hf M (by omega) (by omega)]) (hf _ (by omega) (by omega)) (hf _ (by omega) (by omega)) (hf _ (by omega) (by omega)) hr
    have hvj : VR (M + 12) v jv := fun z hz => by rw [hf _ (by omega) (by omega)]; exact hv z hz
    have hgn : gR s (n - e) e (btN v q e) = foldT e (fun w => gR s (n - (e + 1)) (e + 1) (mvD e (btN v q e) w)) 5 := by
      rw [show n - e = (n - (e + 1)) + 1 by omega]; rfl
    have h00 : jv (M + 17) q = nI (foldT e (fun w => gR s (n - (e + 1)) (e + 1) (mvD e (btN v q e) w)) 0) := by
      rw [h1 q (Nat.le_refl _) (by omega)]
      have hb := btN_hi (v := v) (code := q) (w := 0) (k := e) (by omega) (by omega) (by decide)
      rw [Nat.mul_zero, Nat.add_zero] at hb
      rw [hb]
      rfl
    refine aw_iload dX11_duel_86 rfl ?_
    refine aw_iload_n dX11_duel_88 rfl ?_
    refine aw_icmp_ge (tgt := 186) dX11_duel_89 rfl (fun h89 => absurd h89 (nI_ge (by omega) (by omega))) (fun h89 => ?_)
    refine aw_aload_n dX11_duel_92 rfl ?_
    refine aw_getR dX11_duel_93 fgX11_63 rfl (MS.s0 hM) (MS.r0_24 hM) ?_
    refine aw_iload dX11_duel_96 rfl ?_
    refine aw_iaload dX11_duel_98 (MS.s17 hM) rfl (by omega) ?_
    rw [h00]
    refine aw_istore (lo' := [_,_,_,_,_,_,_,_,_]) dX11_duel_99 (Nat.le_of_ble_eq_true rfl) rfl ?_
    refine aw_iconst (v := nI 1) dX11_duel_101 kc_1 ?_
    refine aw_istore (lo' := [_,_,_,_,_,_,_,_,_]) dX11_duel_102 (Nat.le_of_ble_eq_true rfl) rfl ?_
    refine lo_du5 hM hs hrj hvj hw hd hn (e := e) (q := q) (by omega) (by omega) hN h1 hj4 (fun k8 => ?_) 5 0 j8 (by omega)
    rw [← hgn]
    refine aw_aload_n dX11_duel_171 rfl ?_
    refine aw_getR dX11_duel_172 fgX11_63 rfl (MS.s0 hM) (MS.r0_24 hM) ?_
    refine aw_iload dX11_duel_175 rfl ?_
    refine aw_iload dX11_duel_177 rfl ?_
    refine aw_iastore dX11_duel_179 (MS.s17 hM) rfl (by omega) ?_
    refine aw_iinc (v := _) (lo' := [_,_,_,_,_,_,_,_,_]) dX11_duel_180 rfl (nI_1 q) rfl ?_
    refine aw_goto (tgt := 86) dX11_duel_183 rfl ?_
    refine ih (q + 1) _ _ _ _ (by omega) (fun z hz => ?_) (fun z hz hz2 => ?_) (fun b g1 g2 => by rw [va_up_n g2]; exact hf b g1 g2)
    · rw [va_up_s]
      by_cases e2 : z = q
      · subst e2; exact pk_us
      · rw [pk_un e2]; exact h0 z (by omega)
    · rw [va_up_s, pk_un (by omega)]
      exact h1 z (by omega) hz2
theorem lo_du3 {G : GC} {E : SH} {iv : IV} {lv : LV} {M n : Nat} {s : TS} {v : TV} (hM : MS G E M) (hs : WS s) (hr : SR M s iv) (hv : VR (M + 12) v iv) (hw : WV s v) (hd : v 0 ≤ 40) (hn : n ≤ 3) {y2 : Int32} {Q : Option Value → IV → LV → Prop} (hQ : ∀ i0, (∀ b, b ≠ M + 13 → b ≠ M + 17 → i0 b = iv b) → Q (some (.int (nI (gR s n 0 v)))) i0 lv) : ∀ (e : Nat) (jv : IV) (j4 : Int32) (j5 j6 j7 j8 : Option Value), e ≤ n → j4 = nI e - nI 1 → (∀ z, z < 6 ^ e → jv (M + 17) z = nI (gR s (n - e) e (btN v z e))) → (∀ b, b ≠ M + 13 → b ≠ M + 17 → jv b = iv b) → AW G mX11_duel (rm 8 0) (Z0 G 8 E Q) (fun _ => True) E.1 73 [some (.ref M), some (.int (nI n)), some (.int y2), some (.int (nI (6 ^ e))), some (.int (j4)), j5, j6, j7, j8] [] E jv lv := by
  have hp6 : ∀ e, e ≤ 3 → 6 ^ e ≤ 216 := fun e he => Nat.le_trans (Nat.pow_le_pow_right (by decide) he) (by decide)
  intro e
  induction e with
  | zero =>
    intro jv j4 j5 j6 j7 j8 he hj h0 hf
    subst hj
    refine aw_iload dX11_duel_73 rfl ?_
    refine aw_if_lt (tgt := 192) dX11_duel_75 rfl (fun h75 => ?_) (fun h75 => absurd (by decide) h75)
    refine aw_aload_n dX11_duel_192 rfl ?_
    refine aw_getR dX11_duel_193 fgX11_63 rfl (MS.s0 hM) (MS.r0_24 hM) ?_
    refine aw_iconst (v := nI 0) dX11_duel_196 kc_0 ?_
    refine aw_iaload dX11_duel_197 (MS.s17 hM) rfl (by decide) ?_
    rw [h0 0 (by decide)]
    refine aw_iret dX11_duel_198 rfl (rb0 (Nat.zero_le _)) ⟨rfl, hQ jv hf⟩
  | succ e ih =>
    intro jv j4 j5 j6 j7 j8 he hj h0 hf
    have hj4 : j4 = nI e := by rw [hj, pk_sub (by omega)]; rfl
    have hpe := hp6 (e + 1) (by omega)
    have hps : 6 ^ (e + 1) = 6 ^ e * 6 := Nat.pow_succ 6 e
    have hrj : SR M s jv := SR_f (by rw [hf M (by omega) (by omega)]) (hf _ (by omega) (by omega)) (hf _ (by omega) (by omega)) (hf _ (by omega) (by omega)) hr
    have hvj : VR (M + 12) v jv := fun z hz => by rw [hf _ (by omega) (by omega)]; exact hv z hz
    refine aw_iload dX11_duel_73 rfl ?_
    refine aw_if_lt (tgt := 192) dX11_duel_75 rfl (fun h75 => absurd h75 (by rw [hj4]; exact nI_pos (by omega))) (fun h75 => ?_)
    refine aw_iload_n dX11_duel_78 rfl ?_
    refine aw_bipush (v := nI 6) dX11_duel_79 kb_6 ?_
    refine aw_idiv dX11_duel_81 (by decide) ?_
    rw [pk_div (by omega) (by decide) (by decide), show 6 ^ (e + 1) / 6 = 6 ^ e by omega]
    refine aw_istore_n (lo' := [_,_,_,_,_,_,_,_,_]) dX11_duel_82 (Nat.le_of_ble_eq_true rfl) rfl ?_
    refine aw_iconst (v := nI 0) dX11_duel_83 kc_0 ?_
    refine aw_istore (lo' := [_,_,_,_,_,_,_,_,_]) dX11_duel_84 (Nat.le_of_ble_eq_true rfl) rfl ?_
    refine lo_du4 hM hs hrj hvj hw hd hn (e := e) (by omega) (by omega) hj4 (fun i1 k6 k7 k8 g0 g1 => ?_) (6 ^ e) 0 jv _ _ _ (by omega) (fun z h => absurd h (Nat.not_lt_zero z)) (fun z _ hz => h0 z (by omega)) (fun _ _ _ => rfl)
    refine aw_iinc (v := _) (lo' := [_,_,_,_,_,_,_,_,_]) dX11_duel_186 rfl rfl rfl ?_
    refine aw_goto (tgt := 73) dX11_duel_189 rfl ?_
    refine ih i1 _ _ _ _ _ (by omega) ?_ g0 (fun b h1 h2 => by rw [g1 b h1 h2]; exact hf b h1 h2)
    rw [hj4, Int32.sub_eq_add_neg]
    rfl
theorem m_duel {G : GC} {E : SH} {iv : IV} {lv : LV} {M : Nat} (hM : MS G E M) {A : AA} {D : DD} {T : FT} (hA : MA M A iv lv) (hD : MD M D iv) (hT : MT M T iv) (hW : WT T) (n : Int32) : SpI G mX11_duel 8 [.ref M, .int n] E iv lv (QD M iv lv (oDuel A D T n)) := by
  obtain ⟨s, ⟨m, lg⟩, kp⟩ := T
  have hs : WS s := hW.1.1
  have hs7 : s.1 ≤ 7 := hs.1
  have hw : WV s (lg m) := nowW hW
  have hd : lg m 0 ≤ 40 := nowD hW
  have hr : SR M s iv := hT.1
  have hv : VR (M + 12) (lg m) iv := hT.2.2.1
  have h20 : iv M 20 = nI m := hT.2.1
  have hm : m ≤ 40 := hW.1.2.1
  refine spec0_of (lo := [_,_,_,_,_,_,_,_,_]) (by decide) (Nat.le_of_ble_eq_true rfl) rfl ?_
  refine aw_aload_n dX11_duel_0 rfl ?_
  refine aw_iload_n dX11_duel_1 rfl ?_
  refine aw_iconst (v := nI 0) dX11_duel_2 kc_0 ?_
  refine aw_iconst (v := nI 3) dX11_duel_3 kc_3 ?_
  refine aw_xSi [_, _, _] dX11_duel_4 csX11_76 (m_in n (nI 0) (nI 3)) rfl rfl (Nat.le_of_ble_eq_true rfl) (rb0 (by decide)) ?_
  refine aw_xVi [_] dX11_duel_7 cvX11_195 (MS.s0 hM) (m_need hM hr.1 hs7 (nI 0 ≤ n ∧ n ≤ nI 3)) rfl rfl (Nat.le_of_ble_eq_true rfl) (rb0 (by decide)) ?_
  refine aw_istore_n (lo' := [_,_,_,_,_,_,_,_,_]) dX11_duel_10 (Nat.le_of_ble_eq_true rfl) rfl ?_
  refine aw_iload_n dX11_duel_11 rfl ?_
  refine aw_if_ge (tgt := 17) dX11_duel_12 rfl (fun h12 => ?_) (fun h12 => ?_)
  · obtain ⟨hc, hnp⟩ := nd_ge h12
    obtain ⟨u, hu, rfl⟩ := ix_le (n := n) (k := 3) (Int32.not_lt.mpr hc.1) (Int32.not_lt.mpr hc.2) (by decide)
    have hp6 : 6 ^ u ≤ 216 := Nat.le_trans (Nat.pow_le_pow_right (by decide) hu) (by decide)
    refine aw_iconst (v := nI 1) dX11_duel_17 kc_1 ?_
    refine aw_istore_n (lo' := [_,_,_,_,_,_,_,_,_]) dX11_duel_18 (Nat.le_of_ble_eq_true rfl) rfl ?_
    refine aw_iconst (v := nI 0) dX11_duel_19 kc_0 ?_
    refine aw_istore (lo' := [_,_,_,_,_,_,_,_,_]) dX11_duel_20 (Nat.le_of_ble_eq_true rfl) rfl ?_
    refine lo_du1 hM hs hr hv hw hd hu ?_ u 0 (by omega)
    refine aw_iconst (v := nI 0) dX11_duel_39 kc_0 ?_
    refine aw_istore (lo' := [_,_,_,_,_,_,_,_,_]) dX11_duel_40 (Nat.le_of_ble_eq_true rfl) rfl ?_
    refine lo_du2 hM hs hr hv hw hd hu hp6 (fun i1 a1 a2 => ?_) (6 ^ u) 0 iv (by omega) (fun z h => absurd h (Nat.not_lt_zero z)) (fun _ _ _ => rfl)
    refine aw_iload_n dX11_duel_68 rfl ?_
    refine aw_iconst (v := nI 1) dX11_duel_69 kc_1 ?_
    refine aw_isub dX11_duel_70 ?_
    refine aw_istore (lo' := [_,_,_,_,_,_,_,_,_]) dX11_duel_71 (Nat.le_of_ble_eq_true rfl) rfl ?_
    refine lo_du3 hM hs hr hv hw hd hu (fun i0 hf => ⟨_, rfl, QD_out hA hD hT hf ?_⟩) u i1 _ none none none none (Nat.le_refl _) rfl (fun z hz => by rw [Nat.sub_self]; exact a1 z hz) a2
    dsimp only [oDuel, nowT]
    rw [if_neg (fun q => q.elim (fun q => absurd q (nI_pos (by omega))) (fun q => absurd q (nI_nlt hu (by omega)))), if_neg hnp, ix_nI (by omega), gR_oc]
  · refine aw_iload_n dX11_duel_15 rfl ?_
    refine aw_iret dX11_duel_16 rfl (rb0 (Nat.zero_le _)) ⟨rfl, _, rfl, ?_⟩
    rcases nd_no h12 with ⟨hc, e⟩ | ⟨hc, hz, e⟩
    · rw [e]
      refine QD_no hA hD hT ?_
      refine if_pos ?_
      by_cases q : n < 0
      · exact Or.inl q
      · exact Or.inr (Int32.not_le.mp (fun q2 => hc ⟨Int32.not_lt.mp q, q2⟩))
    · rw [e]
      refine QD_no hA hD hT ?_
      dsimp only [oDuel, nowT]
      rw [if_neg (fun q => q.elim (fun q => absurd hc.1 (Int32.not_le.mpr q)) (fun q => absurd hc.2 (Int32.not_le.mpr q))), if_pos hz]
