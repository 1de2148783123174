def mix (s : TS) (v : TV) (i : Nat) : TV := fun k => if 6 ≤ k ∧ k < 6 + i then pass s v k else v k
theorem mix_0 (s : TS) (v : TV) : mix s v 0 = v := by
  funext k
  unfold mix
  rw [if_neg (by omega)]
theorem mix_alk (s : TS) (v : TV) {i : Nat} (h : i ≤ 7) : alk (mix s v i) v := fun k hk => by
  unfold mix
  rw [if_neg (by omega)]
theorem mix_g {s : TS} {v : TV} {i : Nat} : mix s v i (6 + i) = v (6 + i) := by
  unfold mix
  rw [if_neg (by omega)]
theorem mix_d {s : TS} {v : TV} {i : Nat} : mix s v i 0 = v 0 := by
  unfold mix
  rw [if_neg (by omega)]
theorem WV_mix {s : TS} {v : TV} {i : Nat} (hs : WS s) (h : WV s v) (hi : i ≤ s.1) : WV s (mix s v i) := by
  have h7 := hs.1
  have ha := mix_alk s v (i := i) (by omega)
  refine ⟨fun j hj => ⟨?_, ?_⟩, fun c hc => ?_, by rw [mix_d]; exact h.2.2⟩
  · unfold mix
    split
    · rw [pass_g hj]; exact gnew_le (h.1 j hj).1
    · exact (h.1 j hj).1
  · rw [ha _ (by omega)]; exact (h.1 j hj).2
  · rw [ha _ (by omega)]; exact h.2.1 c hc
theorem VR_up {a j : Nat} {v w : TV} {iv : IV} {x : Int32} (h : VR a v iv) (hx : x = nI (w j)) (hw : ∀ k, k < 20 → k ≠ j → w k = v k) : VR a w (va_up iv a (upd (iv a) j x)) := fun k hk => by
  rw [va_up_s]
  unfold upd
  by_cases e : k = j
  · subst e; rw [if_pos rfl, hx]
  · rw [if_neg e, hw k hk e]; exact h k hk
theorem SR_of {M : Nat} {s : TS} {iv i : IV} (h : SR M s iv) (h0 : i M 14 = iv M 14) (h9 : i (M + 9) = iv (M + 9)) (h10 : i (M + 10) = iv (M + 10)) (h11 : i (M + 11) = iv (M + 11)) : SR M s i := by
  refine ⟨by rw [h0]; exact h.1, fun j hj => ?_⟩
  rw [h9, h10, h11]
  exact h.2 j hj
theorem lm_passes {G : GC} {E : SH} {iv : IV} {lv : LV} {M a : Nat} {s : TS} {v : TV} (hM : MS G E M) (hs : WS s) (hr : SR M s iv) (ha : Sh G E a 20 20) (hv : VR a v iv) (hw : WV s v) (hd : v 0 + 1 < 2 ^ 20) (hM2 : a = M + 12 ∨ a = M + 13) : ∀ (c i : Nat) (jv : IV), i + c = s.1 → VR a (mix s v i) jv → (∀ b, b ≠ a → jv b = iv b) → AW G mX11_passes (rm 5 0) (Z0 G 5 E (fun r i0 l => r = none ∧ (VR a (pass s v) i0 ∧ (∀ b, b ≠ a → i0 b = iv b) ∧ l = lv))) (fun _ => True) E.1 2 [some (.ref M), some (.ref a), some (.int (nI i))] [] E jv lv := by
  have h7 := hs.1
  intro c
  induction c with
  | zero =>
    intro i jv hi hj hb
    have hi : i = s.1 := by omega
    subst hi
    have hr2 : SR M s jv := SR_of hr (by rw [hb M (by omega)]) (hb _ (by omega)) (hb _ (by omega)) (hb _ (by omega))
    refine aw_iload_n dX11_passes_2 rfl ?_
    refine aw_aload_n dX11_passes_3 rfl ?_
    refine aw_getI dX11_passes_4 fgX11_126 rfl (MS.s0 hM) ?_
    refine aw_icmp_ge (tgt := 28) dX11_passes_7 rfl (fun h7 => ?_) (fun h7 => absurd (by rw [hr2.1]; exact nI_le (Nat.le_refl _) (by omega)) h7)
    refine aw_aload_n dX11_passes_28 rfl ?_
    refine aw_iconst (v := nI 0) dX11_passes_29 kc_0 ?_
    refine aw_dup2 dX11_passes_30 rfl rfl ?_
    refine aw_iaload dX11_passes_31 ha (show nI 0 = nI 0 from rfl) (by omega) ?_
    rw [hj 0 (by omega)]
    refine aw_iconst (v := nI 1) dX11_passes_32 kc_1 ?_
    refine aw_iadd dX11_passes_33 ?_
    refine aw_iastore dX11_passes_34 ha (show nI 0 = nI 0 from rfl) (by omega) ?_
    refine aw_vret dX11_passes_35 rfl (rb0 (Nat.zero_le _)) ⟨rfl, rfl, ?_, fun b hb2 => (va_up_n hb2).trans (hb b hb2), rfl⟩
    refine VR_up hj ?_ (fun k hk hk0 => ?_)
    · rw [mix_d, nI_add, pass_0]
    · unfold mix
      split
      · rfl
      · unfold pass
        rw [if_neg hk0, if_neg (by omega)]
  | succ c ih =>
    intro i jv hi hj hb
    have hr2 : SR M s jv := SR_of hr (by rw [hb M (by omega)]) (hb _ (by omega)) (hb _ (by omega)) (hb _ (by omega))
    have h9 := hs.2 i (by omega)
    refine aw_iload_n dX11_passes_2 rfl ?_
    refine aw_aload_n dX11_passes_3 rfl ?_
    refine aw_getI dX11_passes_4 fgX11_126 rfl (MS.s0 hM) ?_
    refine aw_icmp_ge (tgt := 28) dX11_passes_7 rfl (fun h7 => absurd h7 (by rw [hr2.1]; exact nI_ge (by omega) (by omega))) (fun h7 => ?_)
    refine aw_aload_n dX11_passes_10 rfl ?_
    refine aw_bipush (v := nI 6) dX11_passes_11 kb_6 ?_
    refine aw_iload_n dX11_passes_13 rfl ?_
    refine aw_iadd dX11_passes_14 ?_
    refine aw_aload_n dX11_passes_15 rfl ?_
    refine aw_aload_n dX11_passes_16 rfl ?_
    refine aw_iload_n dX11_passes_17 rfl ?_
    refine aw_xVi [_, _] dX11_passes_18 cvX11_156 (MS.s0 hM) (m_grudgeThen hM hs hr2 ha hj (WV_mix hs hw (by omega)) (i := i) (by omega)) rfl rfl (Nat.le_of_ble_eq_true rfl) (rb0 (by decide)) ?_
    refine aw_iastore dX11_passes_21 ha (show nI 6 + nI i = nI (6 + i) by rw [nI_add]) (by omega) ?_
    refine aw_iinc (v := _) (lo' := [_,_,_]) dX11_passes_22 rfl (nI_1 i) rfl ?_
    refine aw_goto (tgt := 2) dX11_passes_25 rfl ?_
    refine ih (i + 1) _ (by omega) (VR_up hj ?_ (fun k hk hk0 => ?_)) (fun b hb2 => (va_up_n hb2).trans (hb b hb2))
    · rw [mix_g, mix_d, mood_alk (mix_alk s v (i := i) (by omega)) (by rw [mix_alk s v (i := i) (by omega) _ (by omega)]; exact (hw.1 _ h9.2.2).2), ← pass_g (by omega)]
      unfold mix
      rw [if_pos (by omega)]
    · unfold mix
      by_cases q : 6 ≤ k ∧ k < 6 + i
      · rw [if_pos q, if_pos (by omega)]
      · rw [if_neg q, if_neg (by omega)]
theorem m_passes {G : GC} {E : SH} {iv : IV} {lv : LV} {M a : Nat} {s : TS} {v : TV} (hM : MS G E M) (hs : WS s) (hr : SR M s iv) (ha : Sh G E a 20 20) (hv : VR a v iv) (hw : WV s v) (hd : v 0 + 1 < 2 ^ 20) (hM2 : a = M + 12 ∨ a = M + 13) : SpV G mX11_passes 5 [.ref M, .ref a] E iv lv (fun i0 l => VR a (pass s v) i0 ∧ (∀ b, b ≠ a → i0 b = iv b) ∧ l = lv) := by
  refine spec0_of (lo := [_,_,_]) (by decide) (Nat.le_of_ble_eq_true rfl) rfl ?_
  refine aw_iconst (v := nI 0) dX11_passes_0 kc_0 ?_
  refine aw_istore_n (lo' := [_,_,_]) dX11_passes_1 (Nat.le_of_ble_eq_true rfl) rfl ?_
  exact lm_passes hM hs hr ha hv hw hd hM2 s.1 0 iv (by omega) (by rw [mix_0]; exact hv) (fun _ _ => rfl)
theorem lm_all {G : GC} {E : SH} {iv : IV} {lv : LV} {M a : Nat} {s : TS} {v : TV} (hM : MS G E M) (hs : WS s) (hr : SR M s iv) (ha : Sh G E a 20 20) (hv : VR a v iv) (hw : WV s v) : ∀ (c i : Nat), i + c = s.1 → AW G mX11_all (rm 1 0) (Z0 G 1 E (fun r i0 l => ∃ w, r = some (.int w) ∧ w = nI (tot s v) ∧ i0 = iv ∧ l = lv)) (fun _ => True) E.1 4 [some (.ref M), some (.ref a), some (.int (nI (sumU (fun j => v (6 + j)) i))), some (.int (nI i))] [] E iv lv := by
  have h7 := hs.1
  intro c
  induction c with
  | zero =>
    intro i hi
    have hi : i = s.1 := by omega
    subst hi
    refine aw_iload_n dX11_all_4 rfl ?_
    refine aw_aload_n dX11_all_5 rfl ?_
    refine aw_getI dX11_all_6 fgX11_126 rfl (MS.s0 hM) ?_
    refine aw_icmp_ge (tgt := 27) dX11_all_9 rfl (fun h9 => ?_) (fun h9 => absurd (by rw [hr.1]; exact nI_le (Nat.le_refl _) (by omega)) h9)
    refine aw_iload_n dX11_all_27 rfl ?_
    refine aw_iret dX11_all_28 rfl (rb0 (Nat.zero_le _)) ⟨rfl, _, rfl, rfl, rfl, rfl⟩
  | succ c ih =>
    intro i hi
    refine aw_iload_n dX11_all_4 rfl ?_
    refine aw_aload_n dX11_all_5 rfl ?_
    refine aw_getI dX11_all_6 fgX11_126 rfl (MS.s0 hM) ?_
    refine aw_icmp_ge (tgt := 27) dX11_all_9 rfl (fun h9 => absurd h9 (by rw [hr.1]; exact nI_ge (by omega) (by omega))) (fun h9 => ?_)
    refine aw_iload_n dX11_all_12 rfl ?_
    refine aw_aload_n dX11_all_13 rfl ?_
    refine aw_bipush (v := nI 6) dX11_all_14 kb_6 ?_
    refine aw_iload_n dX11_all_16 rfl ?_
    refine aw_iadd dX11_all_17 ?_
    refine aw_iaload dX11_all_18 ha (show nI 6 + nI i = nI (6 + i) by rw [nI_add]) (by omega) ?_
    rw [hv (6 + i) (by omega)]
    refine aw_iadd dX11_all_19 ?_
    rw [nI_add]
    refine aw_istore_n (lo' := [_,_,_,_]) dX11_all_20 (Nat.le_of_ble_eq_true rfl) rfl ?_
    refine aw_iinc (v := _) (lo' := [_,_,_,_]) dX11_all_21 rfl (nI_1 i) rfl ?_
    refine aw_goto (tgt := 4) dX11_all_24 rfl ?_
    exact ih (i + 1) (by omega)
theorem m_all {G : GC} {E : SH} {iv : IV} {lv : LV} {M a : Nat} {s : TS} {v : TV} (hM : MS G E M) (hs : WS s) (hr : SR M s iv) (ha : Sh G E a 20 20) (hv : VR a v iv) (hw : WV s v) : ExI G mX11_all 1 [.ref M, .ref a] E iv lv (nI (tot s v)) iv lv := by
  refine spec0_of (lo := [_,_,_,_]) (by decide) (Nat.le_of_ble_eq_true rfl) rfl ?_
  refine aw_iconst (v := nI 0) dX11_all_0 kc_0 ?_
  refine aw_istore_n (lo' := [_,_,_,_]) dX11_all_1 (Nat.le_of_ble_eq_true rfl) rfl ?_
  refine aw_iconst (v := nI 0) dX11_all_2 kc_0 ?_
  refine aw_istore_n (lo' := [_,_,_,_]) dX11_all_3 (Nat.le_of_ble_eq_true rfl) rfl ?_
  exact lm_all hM hs hr ha hv hw s.1 0 (by omega)
def bitU (p : Nat → Bool) : Nat → Nat
  | 0 => 0
  | k + 1 => bitU p k + (if p k then 2 ^ k else 0)
theorem bitU_lt {p : Nat → Bool} : ∀ k, bitU p k < 2 ^ k
  | 0 => Nat.zero_lt_one
  | k + 1 => by
    have h := bitU_lt (p := p) k
    rw [bitU, Nat.pow_succ]
    split <;> omega
theorem or_bit : ∀ i, i < 10 → ∀ x, x < 2 ^ i → nI x ||| (nI 1 <<< (nI i &&& 31)) = nI (x + 2 ^ i) := by decide +kernel
theorem or_0 (x : Int32) : x ||| nI 0 = x := by
  rw [nI_0]
  exact Int32.or_zero
theorem bitU_t {p : Nat → Bool} {i : Nat} (hi : i < 10) (h : p i = true) : nI (bitU p i) ||| (nI 1 <<< (nI i &&& 31)) = nI (bitU p (i + 1)) := by
  rw [or_bit i hi _ (bitU_lt i), bitU, h, if_pos rfl]
theorem bitU_f {p : Nat → Bool} {i : Nat} (h : p i = false) : nI (bitU p (i + 1)) = nI (bitU p i) := by
  rw [bitU, h, if_neg (by decide), Nat.add_zero]
theorem bitU_cong {p q : Nat → Bool} : ∀ {n : Nat}, (∀ k, k < n → p k = q k) → bitU p n = bitU q n
  | 0, _ => rfl
  | n + 1, h => by rw [bitU, bitU, bitU_cong (fun k hk => h k (by omega)), h n (by omega)]
def cntU (p : Nat → Bool) : Nat → Nat
  | 0 => 0
  | k + 1 => cntU p k + (if p k then 1 else 0)
theorem cntU_le {p : Nat → Bool} : ∀ k, cntU p k ≤ k
  | 0 => Nat.le_refl 0
  | k + 1 => by
    have h := cntU_le (p := p) k
    rw [cntU]
    split <;> omega
theorem cntU_cong {p q : Nat → Bool} : ∀ {n : Nat}, (∀ k, k < n → p k = q k) → cntU p n = cntU q n
  | 0, _ => rfl
  | n + 1, h => by rw [cntU, cntU, cntU_cong (fun k hk => h k (by omega)), h n (by omega)]
def pclm (v : TV) (i : Nat) : Bool := decide (v (6 + i) = 0)
def pop (x : Nat) : Nat := cntU (fun i => x.testBit i) 7
theorem pop_s : ∀ x, x < 128 → x ≠ 0 → nI x &&& (nI x - nI 1) = nI (x &&& (x - 1)) ∧ x &&& (x - 1) < 128 ∧ pop (x &&& (x - 1)) + 1 = pop x := by decide +kernel
theorem pop_b : ∀ i, i < 7 → ∀ x, x < 2 ^ i → pop (x + 2 ^ i) = pop x + 1 := by decide +kernel
theorem pop_bitU {p : Nat → Bool} : ∀ n, n ≤ 7 → pop (bitU p n) = cntU p n
  | 0, _ => show pop 0 = 0 by decide
  | n + 1, h => by
    rw [bitU, cntU, ← pop_bitU n (by omega)]
    split
    · exact pop_b n (by omega) _ (bitU_lt n)
    · rfl
theorem lm_calm {G : GC} {E : SH} {iv : IV} {lv : LV} {M a : Nat} {s : TS} {v : TV} (hM : MS G E M) (hs : WS s) (hr : SR M s iv) (ha : Sh G E a 20 20) (hv : VR a v iv) (hw : WV s v) : ∀ (c i : Nat), i + c = s.1 → AW G mX11_calm (rm 1 0) (Z0 G 1 E (fun r i0 l => ∃ w, r = some (.int w) ∧ w = nI (bitU (pclm v) s.1) ∧ i0 = iv ∧ l = lv)) (fun _ => True) E.1 4 [some (.ref M), some (.ref a), some (.int (nI (bitU (pclm v) i))), some (.int (nI i))] [] E iv lv := by
  have h7 := hs.1
  intro c
  induction c with
  | zero =>
    intro i hi
    have hi : i = s.1 := by omega
    subst hi
    refine aw_iload_n dX11_calm_4 rfl ?_
    refine aw_aload_n dX11_calm_5 rfl ?_
    refine aw_getI dX11_calm_6 fgX11_126 rfl (MS.s0 hM) ?_
    refine aw_icmp_ge (tgt := 37) dX11_calm_9 rfl (fun h9 => ?_) (fun h9 => absurd (by rw [hr.1]; exact nI_le (Nat.le_refl _) (by omega)) h9)
    refine aw_iload_n dX11_calm_37 rfl ?_
    refine aw_iret dX11_calm_38 rfl (rb0 (Nat.zero_le _)) ⟨rfl, _, rfl, rfl, rfl, rfl⟩
  | succ c ih =>
    intro i hi
    have h9 := hw.1 i (by omega)
    refine aw_iload_n dX11_calm_4 rfl ?_
    refine aw_aload_n dX11_calm_5 rfl ?_
    refine aw_getI dX11_calm_6 fgX11_126 rfl (MS.s0 hM) ?_
    refine aw_icmp_ge (tgt := 37) dX11_calm_9 rfl (fun h9 => absurd h9 (by rw [hr.1]; exact nI_ge (by omega) (by omega))) (fun h9 => ?_)
    refine aw_iload_n dX11_calm_12 rfl ?_
    refine aw_aload_n dX11_calm_13 rfl ?_
    refine aw_bipush (v := nI 6) dX11_calm_14 kb_6 ?_
    refine aw_iload_n dX11_calm_16 rfl ?_
    refine aw_iadd dX11_calm_17 ?_
    refine aw_iaload dX11_calm_18 ha (show nI 6 + nI i = nI (6 + i) by rw [nI_add]) (by omega) ?_
    rw [hv (6 + i) (by omega)]
    refine aw_if_ne (tgt := 28) dX11_calm_19 rfl (fun h19 => ?_) (fun h19 => ?_)
    · rw [← nI_0, nI_eq (by omega) (by omega)] at h19
      refine aw_iconst (v := nI 0) dX11_calm_28 kc_0 ?_
      refine aw_ior dX11_calm_29 ?_
      refine aw_istore_n (lo' := [_,_,_,_]) dX11_calm_30 (Nat.le_of_ble_eq_true rfl) rfl ?_
      refine aw_iinc (v := _) (lo' := [_,_,_,_]) dX11_calm_31 rfl (nI_1 i) rfl ?_
      refine aw_goto (tgt := 4) dX11_calm_34 rfl ?_
      have h := ih (i + 1) (by omega)
      first
        | (rw [bitU_f (show pclm v i = false from decide_eq_false h19)] at h
           rw [or_0]
           exact h)
        | (rw [← bitU_t (by omega) (show pclm v i = true from decide_eq_true h19)] at h
           exact h)
    · rw [← nI_0, nI_eq (by omega) (by omega)] at h19
      refine aw_iconst (v := nI 1) dX11_calm_22 kc_1 ?_
      refine aw_iload_n dX11_calm_23 rfl ?_
      refine aw_ishl dX11_calm_24 ?_
      refine aw_goto (tgt := 29) dX11_calm_25 rfl ?_
      refine aw_ior dX11_calm_29 ?_
      refine aw_istore_n (lo' := [_,_,_,_]) dX11_calm_30 (Nat.le_of_ble_eq_true rfl) rfl ?_
      refine aw_iinc (v := _) (lo' := [_,_,_,_]) dX11_calm_31 rfl (nI_1 i) rfl ?_
      refine aw_goto (tgt := 4) dX11_calm_34 rfl ?_
      have h := ih (i + 1) (by omega)
      first
        | (rw [bitU_f (show pclm v i = false from decide_eq_false h19)] at h
           rw [or_0]
           exact h)
        | (rw [← bitU_t (by omega) (show pclm v i = true from decide_eq_true h19)] at h
           exact h)
theorem m_calm {G : GC} {E : SH} {iv : IV} {lv : LV} {M a : Nat} {s : TS} {v : TV} (hM : MS G E M) (hs : WS s) (hr : SR M s iv) (ha : Sh G E a 20 20) (hv : VR a v iv) (hw : WV s v) : ExI G mX11_calm 1 [.ref M, .ref a] E iv lv (nI (bitU (pclm v) s.1)) iv lv := by
  refine spec0_of (lo := [_,_,_,_]) (by decide) (Nat.le_of_ble_eq_true rfl) rfl ?_
  refine aw_iconst (v := nI 0) dX11_calm_0 kc_0 ?_
  refine aw_istore_n (lo' := [_,_,_,_]) dX11_calm_1 (Nat.le_of_ble_eq_true rfl) rfl ?_
  refine aw_iconst (v := nI 0) dX11_calm_2 kc_0 ?_
  refine aw_istore_n (lo' := [_,_,_,_]) dX11_calm_3 (Nat.le_of_ble_eq_true rfl) rfl ?_
  exact lm_calm hM hs hr ha hv hw s.1 0 (by omega)
theorem lm_bits {G : GC} {E : SH} {iv : IV} {lv : LV} {y : Int32} {w0 : Nat} : ∀ (c x q : Nat), pop x = c → x < 128 → q + c = w0 → AW G mX11_bits (rm 1 0) (Z0 G 1 E (fun r i0 l => ∃ w, r = some (.int w) ∧ w = nI w0 ∧ i0 = iv ∧ l = lv)) (fun _ => True) E.1 4 [some (.int y), some (.int (nI q)), some (.int (nI x))] [] E iv lv := by
  intro c
  induction c with
  | zero =>
    intro x q hc hx hq
    have hx0 : x = 0 := Classical.byContradiction fun e => by have := (pop_s x hx e).2.2; omega
    subst hx0
    refine aw_iload_n dX11_bits_4 rfl ?_
    refine aw_if_eq (tgt := 20) dX11_bits_5 rfl (fun h5 => ?_) (fun h5 => absurd (by decide) h5)
    refine aw_iload_n dX11_bits_20 rfl ?_
    refine aw_iret dX11_bits_21 rfl (rb0 (Nat.zero_le _)) ⟨rfl, _, rfl, by rw [← hq]; rfl, rfl, rfl⟩
  | succ c ih =>
    intro x q hc hx hq
    have hx0 : x ≠ 0 := fun e => by subst e; exact absurd hc (by rw [show pop 0 = 0 by decide]; omega)
    obtain ⟨g1, g2, g3⟩ := pop_s x hx hx0
    refine aw_iload_n dX11_bits_4 rfl ?_
    refine aw_if_eq (tgt := 20) dX11_bits_5 rfl (fun h5 => absurd h5 (nI_ne0 (by omega) (by omega))) (fun h5 => ?_)
    refine aw_iinc (v := _) (lo' := [_,_,_]) dX11_bits_8 rfl (nI_1 q) rfl ?_
    refine aw_iload_n dX11_bits_11 rfl ?_
    refine aw_iload_n dX11_bits_12 rfl ?_
    refine aw_iconst (v := nI 1) dX11_bits_13 kc_1 ?_
    refine aw_isub dX11_bits_14 ?_
    refine aw_iand dX11_bits_15 ?_
    rw [g1]
    refine aw_istore_n (lo' := [_,_,_]) dX11_bits_16 (Nat.le_of_ble_eq_true rfl) rfl ?_
    refine aw_goto (tgt := 4) dX11_bits_17 rfl ?_
    exact ih _ (q + 1) (by omega) g2 (by omega)
theorem m_bits {G : GC} {E : SH} {iv : IV} {lv : LV} {x : Nat} (hx : x < 128) : ExI G mX11_bits 1 [.int (nI x)] E iv lv (nI (pop x)) iv lv := by
  refine spec0_of (lo := [_,_,_]) (by decide) (Nat.le_of_ble_eq_true rfl) rfl ?_
  refine aw_iconst (v := nI 0) dX11_bits_0 kc_0 ?_
  refine aw_istore_n (lo' := [_,_,_]) dX11_bits_1 (Nat.le_of_ble_eq_true rfl) rfl ?_
  refine aw_iload_n dX11_bits_2 rfl ?_
  refine aw_istore_n (lo' := [_,_,_]) dX11_bits_3 (Nat.le_of_ble_eq_true rfl) rfl ?_
  exact lm_bits _ x 0 rfl hx (Nat.zero_add _)
theorem cpy_s0 {α : Type} (f g : Nat → α) (n : Nat) : va_up (va_cpy f g 0 0 n) n (f n) = va_cpy f g 0 0 (n + 1) := by
  have h := cpy_s f g 0 0 n
  rwa [Nat.zero_add] at h
theorem lm_copyNow {G : GC} {E : SH} {iv : IV} {lv : LV} {M : Nat} (hM : MS G E M) : ∀ (c i : Nat), i + c = 20 → AW G mX11_copyNow (rm 1 0) (Z0 G 1 E (fun r i0 l => r = none ∧ i0 = va_up iv (M + 13) (va_cpy (iv (M + 12)) (iv (M + 13)) 0 0 20) ∧ l = lv)) (fun _ => True) E.1 2 [some (.ref M), some (.int (nI i))] [] E (va_up iv (M + 13) (va_cpy (iv (M + 12)) (iv (M + 13)) 0 0 i)) lv := by
  intro c
  induction c with
  | zero =>
    intro i hi
    have hi : i = 20 := by omega
    subst hi
    refine aw_iload_n dX11_copyNow_2 rfl ?_
    refine aw_bipush (v := nI 20) dX11_copyNow_3 kb_20 ?_
    refine aw_icmp_ge (tgt := 26) dX11_copyNow_5 rfl (fun h5 => ?_) (fun h5 => absurd (nI_le (Nat.le_refl _) (by decide)) h5)
    refine aw_vret dX11_copyNow_26 rfl (rb0 (Nat.zero_le _)) ⟨rfl, rfl, rfl, rfl⟩
  | succ c ih =>
    intro i hi
    refine aw_iload_n dX11_copyNow_2 rfl ?_
    refine aw_bipush (v := nI 20) dX11_copyNow_3 kb_20 ?_
    refine aw_icmp_ge (tgt := 26) dX11_copyNow_5 rfl (fun h5 => absurd h5 (nI_ge (by omega) (by decide))) (fun h5 => ?_)
    refine aw_aload_n dX11_copyNow_8 rfl ?_
    refine aw_getR dX11_copyNow_9 fgX11_51 rfl (MS.s0 hM) (MS.r0_19 hM) ?_
    refine aw_iload_n dX11_copyNow_12 rfl ?_
    refine aw_aload_n dX11_copyNow_13 rfl ?_
    refine aw_getR dX11_copyNow_14 fgX11_48 rfl (MS.s0 hM) (MS.r0_18 hM) ?_
    refine aw_iload_n dX11_copyNow_17 rfl ?_
    refine aw_iaload dX11_copyNow_18 (MS.s12 hM) rfl (by omega) ?_
    refine aw_iastore dX11_copyNow_19 (MS.s13 hM) rfl (by omega) ?_
    refine aw_iinc (v := _) (lo' := [_,_]) dX11_copyNow_20 rfl (nI_1 i) rfl ?_
    refine aw_goto (tgt := 2) dX11_copyNow_23 rfl ?_
    rw [va_up_s, va_up_n (show M + 12 ≠ M + 13 by omega), upd_up, up_up, cpy_s0]
    exact ih (i + 1) (by omega)
theorem m_copyNow {G : GC} {E : SH} {iv : IV} {lv : LV} {M : Nat} (hM : MS G E M) : ExV G mX11_copyNow 1 [.ref M] E iv lv (va_up iv (M + 13) (va_cpy (iv (M + 12)) (iv (M + 13)) 0 0 20)) lv := by
  refine spec0_of (lo := [_,_]) (by decide) (Nat.le_of_ble_eq_true rfl) rfl ?_
  refine aw_iconst (v := nI 0) dX11_copyNow_0 kc_0 ?_
  refine aw_istore_n (lo' := [_,_]) dX11_copyNow_1 (Nat.le_of_ble_eq_true rfl) rfl ?_
  have h := lm_copyNow hM (iv := iv) (lv := lv) 20 0 rfl
  rw [cpy_0, up_id] at h
  exact h
theorem VR_copy {M : Nat} {v : TV} {iv : IV} (h : VR (M + 12) v iv) : VR (M + 13) v (va_up iv (M + 13) (va_cpy (iv (M + 12)) (iv (M + 13)) 0 0 20)) := fun k hk => by
  rw [va_up_s]
  unfold va_cpy
  rw [if_pos (by omega), Nat.zero_add, Nat.sub_zero]
  exact h k hk
theorem lm_allBehind {G : GC} {E : SH} {iv : IV} {lv : LV} {M : Nat} {s : TS} {v : TV} (hM : MS G E M) (hs : WS s) (hr : SR M s iv) (hv : VR (M + 13) v iv) (hw : WV s v) {n : Nat} (hn : v 0 + n < 2 ^ 20) : ∀ (c i : Nat) (jv : IV), i + c = n → VR (M + 13) (passN s v i) jv → (∀ b, b ≠ M + 13 → jv b = iv b) → AW G mX11_allBehind (rm 6 0) (Z0 G 6 E (fun r i0 l => ∃ w, r = some (.int w) ∧ (w = nI (tot s (passN s v n)) ∧ VR (M + 13) (passN s v n) i0 ∧ (∀ b, b ≠ M + 13 → i0 b = iv b) ∧ l = lv))) (fun _ => True) E.1 2 [some (.ref M), some (.int (nI n)), some (.int (nI i))] [] E jv lv := by
  intro c
  induction c with
  | zero =>
    intro i jv hi hj hb
    have hi : i = n := by omega
    subst hi
    have hr2 : SR M s jv := SR_of hr (by rw [hb M (by omega)]) (hb _ (by omega)) (hb _ (by omega)) (hb _ (by omega))
    refine aw_iload_n dX11_allBehind_2 rfl ?_
    refine aw_iload_n dX11_allBehind_3 rfl ?_
    refine aw_icmp_ge (tgt := 21) dX11_allBehind_4 rfl (fun h4 => ?_) (fun h4 => absurd (nI_le (Nat.le_refl _) (by omega)) h4)
    refine aw_aload_n dX11_allBehind_21 rfl ?_
    refine aw_aload_n dX11_allBehind_22 rfl ?_
    refine aw_getR dX11_allBehind_23 fgX11_51 rfl (MS.s0 hM) (MS.r0_19 hM) ?_
    refine aw_xVi [_] dX11_allBehind_26 cvX11_163 (MS.s0 hM) (m_all hM hs hr2 (MS.s13 hM) hj (WV_passN hs hw _ hn)) rfl rfl (Nat.le_of_ble_eq_true rfl) (rb0 (by decide)) ?_
    refine aw_iret dX11_allBehind_29 rfl (rb0 (Nat.zero_le _)) ⟨rfl, _, rfl, rfl, hj, hb, rfl⟩
  | succ c ih =>
    intro i jv hi hj hb
    have hr2 : SR M s jv := SR_of hr (by rw [hb M (by omega)]) (hb _ (by omega)) (hb _ (by omega)) (hb _ (by omega))
    refine aw_iload_n dX11_allBehind_2 rfl ?_
    refine aw_iload_n dX11_allBehind_3 rfl ?_
    refine aw_icmp_ge (tgt := 21) dX11_allBehind_4 rfl (fun h4 => absurd h4 (nI_ge (by omega) (by omega))) (fun h4 => ?_)
    refine aw_aload_n dX11_allBehind_7 rfl ?_
    refine aw_aload_n dX11_allBehind_8 rfl ?_
    refine aw_getR dX11_allBehind_9 fgX11_51 rfl (MS.s0 hM) (MS.r0_19 hM) ?_
    refine aw_sVv [_] dX11_allBehind_12 cvX11_159 (MS.s0 hM) (m_passes hM hs hr2 (MS.s13 hM) hj (WV_passN hs hw _ (by omega)) (by rw [passN_0]; omega) (Or.inr rfl)) rfl rfl (Nat.le_of_ble_eq_true rfl) (rb0 (by decide)) (fun kv klv hk => ?_)
    obtain ⟨k1, k2, rfl⟩ := hk
    refine aw_iinc (v := _) (lo' := [_,_,_]) dX11_allBehind_15 rfl (nI_1 i) rfl ?_
    refine aw_goto (tgt := 2) dX11_allBehind_18 rfl ?_
    exact ih (i + 1) kv (by omega) k1 (fun b hb2 => (k2 b hb2).trans (hb b hb2))
theorem m_allBehind {G : GC} {E : SH} {iv : IV} {lv : LV} {M : Nat} {s : TS} {v : TV} (hM : MS G E M) (hs : WS s) (hr : SR M s iv) (hv : VR (M + 13) v iv) (hw : WV s v) {n : Nat} (hn : v 0 + n < 2 ^ 20) : SpI G mX11_allBehind 6 [.ref M, .int (nI n)] E iv lv (fun w i0 l => w = nI (tot s (passN s v n)) ∧ VR (M + 13) (passN s v n) i0 ∧ (∀ b, b ≠ M + 13 → i0 b = iv b) ∧ l = lv) := by
  refine spec0_of (lo := [_,_,_]) (by decide) (Nat.le_of_ble_eq_true rfl) rfl ?_
  refine aw_iconst (v := nI 0) dX11_allBehind_0 kc_0 ?_
  refine aw_istore_n (lo' := [_,_,_]) dX11_allBehind_1 (Nat.le_of_ble_eq_true rfl) rfl ?_
  exact lm_allBehind hM hs hr hv hw hn n 0 iv (by omega) hv (fun _ _ => rfl)
def fact (s : TS) (v : TV) (i w : Nat) : Int32 := match w with
  | 0 => nI (s.2.1 i)
  | 1 => nI (s.2.2.1 i)
  | 2 => foI s i
  | 3 => nI (v (6 + i))
  | 4 => nI (v (13 + i))
  | 5 => zI (hid s v i)
  | _ => zI (metB s v i = true)
theorem m_personTells {G : GC} {E : SH} {iv : IV} {lv : LV} {M : Nat} {s : TS} {v : TV} (hM : MS G E M) (hs : WS s) (hr : SR M s iv) (hv : VR (M + 12) v iv) (hw : WV s v) {i w : Nat} (hi : i < s.1) (hw6 : w ≤ 6) : ExI G mX11_personTells 3 [.ref M, .int (nI i), .int (nI w)] E iv lv (fact s v i w) iv lv := by
  have h7 := hs.1
  have h8 := hs.2 i hi
  refine spec0_of (lo := [_,_,_]) (by decide) (Nat.le_of_ble_eq_true rfl) rfl ?_
  refine aw_iload_n dX11_personTells_0 rfl ?_
  rcases (show w = 0 ∨ w = 1 ∨ w = 2 ∨ w = 3 ∨ w = 4 ∨ w = 5 ∨ w = 6 from by omega) with rfl | rfl | rfl | rfl | rfl | rfl | rfl
  · refine aw_tableIn (off := 39) (tgt := 40) dX11_personTells_1 (by decide) (by decide) (by decide) rfl ?_
    refine aw_aload_n dX11_personTells_40 rfl ?_
    refine aw_getR dX11_personTells_41 fgX11_39 rfl (MS.s0 hM) (MS.r0_15 hM) ?_
    refine aw_iload_n dX11_personTells_44 rfl ?_
    refine aw_iaload dX11_personTells_45 (MS.s9 hM) rfl (by omega) ?_
    rw [(hr.2 i hi).1]
    refine aw_iret dX11_personTells_46 rfl (rb0 (Nat.zero_le _)) ⟨rfl, _, rfl, ?_, rfl, rfl⟩
    first | rfl | exact (if_neg h61).symm | exact (if_pos h61).symm | exact (zI_t (zI_n0.mp h104)).symm | exact (zI_f (zI_0.mp h104)).symm | exact (zI_t (zI_n0.mp h122)).symm | exact (zI_f (zI_0.mp h122)).symm
  · refine aw_tableIn (off := 46) (tgt := 47) dX11_personTells_1 (by decide) (by decide) (by decide) rfl ?_
    refine aw_aload_n dX11_personTells_47 rfl ?_
    refine aw_getR dX11_personTells_48 fgX11_42 rfl (MS.s0 hM) (MS.r0_16 hM) ?_
    refine aw_iload_n dX11_personTells_51 rfl ?_
    refine aw_iaload dX11_personTells_52 (MS.s10 hM) rfl (by omega) ?_
    rw [(hr.2 i hi).2.1]
    refine aw_iret dX11_personTells_53 rfl (rb0 (Nat.zero_le _)) ⟨rfl, _, rfl, ?_, rfl, rfl⟩
    first | rfl | exact (if_neg h61).symm | exact (if_pos h61).symm | exact (zI_t (zI_n0.mp h104)).symm | exact (zI_f (zI_0.mp h104)).symm | exact (zI_t (zI_n0.mp h122)).symm | exact (zI_f (zI_0.mp h122)).symm
  · refine aw_tableIn (off := 53) (tgt := 54) dX11_personTells_1 (by decide) (by decide) (by decide) rfl ?_
    refine aw_aload_n dX11_personTells_54 rfl ?_
    refine aw_getR dX11_personTells_55 fgX11_45 rfl (MS.s0 hM) (MS.r0_17 hM) ?_
    refine aw_iload_n dX11_personTells_58 rfl ?_
    refine aw_iaload dX11_personTells_59 (MS.s11 hM) rfl (by omega) ?_
    rw [(hr.2 i hi).2.2]
    refine aw_iload_n dX11_personTells_60 rfl ?_
    refine aw_icmp_ne (tgt := 68) dX11_personTells_61 rfl (fun h61 => ?_) (fun h61 => ?_)
    · rw [nI_eq (by omega) (by omega)] at h61
      refine aw_aload_n dX11_personTells_68 rfl ?_
      refine aw_getR dX11_personTells_69 fgX11_45 rfl (MS.s0 hM) (MS.r0_17 hM) ?_
      refine aw_iload_n dX11_personTells_72 rfl ?_
      refine aw_iaload dX11_personTells_73 (MS.s11 hM) rfl (by omega) ?_
      rw [(hr.2 i hi).2.2]
      refine aw_iret dX11_personTells_74 rfl (rb0 (Nat.zero_le _)) ⟨rfl, _, rfl, ?_, rfl, rfl⟩
      first | rfl | exact (if_neg h61).symm | exact (if_pos h61).symm | exact (zI_t (zI_n0.mp h104)).symm | exact (zI_f (zI_0.mp h104)).symm | exact (zI_t (zI_n0.mp h122)).symm | exact (zI_f (zI_0.mp h122)).symm
    · rw [nI_eq (by omega) (by omega)] at h61
      refine aw_iconst (v := (-1)) dX11_personTells_64 kc_m1 ?_
      refine aw_goto (tgt := 74) dX11_personTells_65 rfl ?_
      refine aw_iret dX11_personTells_74 rfl (rb0 (Nat.zero_le _)) ⟨rfl, _, rfl, ?_, rfl, rfl⟩
      first | rfl | exact (if_neg h61).symm | exact (if_pos h61).symm | exact (zI_t (zI_n0.mp h104)).symm | exact (zI_f (zI_0.mp h104)).symm | exact (zI_t (zI_n0.mp h122)).symm | exact (zI_f (zI_0.mp h122)).symm
  · refine aw_tableIn (off := 74) (tgt := 75) dX11_personTells_1 (by decide) (by decide) (by decide) rfl ?_
    refine aw_aload_n dX11_personTells_75 rfl ?_
    refine aw_getR dX11_personTells_76 fgX11_48 rfl (MS.s0 hM) (MS.r0_18 hM) ?_
    refine aw_bipush (v := nI 6) dX11_personTells_79 kb_6 ?_
    refine aw_iload_n dX11_personTells_81 rfl ?_
    refine aw_iadd dX11_personTells_82 ?_
    refine aw_iaload dX11_personTells_83 (MS.s12 hM) (show nI 6 + nI i = nI (6 + i) by rw [nI_add]) (by omega) ?_
    rw [hv (6 + i) (by omega)]
    refine aw_iret dX11_personTells_84 rfl (rb0 (Nat.zero_le _)) ⟨rfl, _, rfl, ?_, rfl, rfl⟩
    first | rfl | exact (if_neg h61).symm | exact (if_pos h61).symm | exact (zI_t (zI_n0.mp h104)).symm | exact (zI_f (zI_0.mp h104)).symm | exact (zI_t (zI_n0.mp h122)).symm | exact (zI_f (zI_0.mp h122)).symm
  · refine aw_tableIn (off := 84) (tgt := 85) dX11_personTells_1 (by decide) (by decide) (by decide) rfl ?_
    refine aw_aload_n dX11_personTells_85 rfl ?_
    refine aw_getR dX11_personTells_86 fgX11_48 rfl (MS.s0 hM) (MS.r0_18 hM) ?_
    refine aw_bipush (v := nI 13) dX11_personTells_89 kb_13 ?_
    refine aw_iload_n dX11_personTells_91 rfl ?_
    refine aw_iadd dX11_personTells_92 ?_
    refine aw_iaload dX11_personTells_93 (MS.s12 hM) (show nI 13 + nI i = nI (13 + i) by rw [nI_add]) (by omega) ?_
    rw [hv (13 + i) (by omega)]
    refine aw_iret dX11_personTells_94 rfl (rb0 (Nat.zero_le _)) ⟨rfl, _, rfl, ?_, rfl, rfl⟩
    first | rfl | exact (if_neg h61).symm | exact (if_pos h61).symm | exact (zI_t (zI_n0.mp h104)).symm | exact (zI_f (zI_0.mp h104)).symm | exact (zI_t (zI_n0.mp h122)).symm | exact (zI_f (zI_0.mp h122)).symm
  · refine aw_tableIn (off := 94) (tgt := 95) dX11_personTells_1 (by decide) (by decide) (by decide) rfl ?_
    refine aw_aload_n dX11_personTells_95 rfl ?_
    refine aw_aload_n dX11_personTells_96 rfl ?_
    refine aw_getR dX11_personTells_97 fgX11_48 rfl (MS.s0 hM) (MS.r0_18 hM) ?_
    refine aw_iload_n dX11_personTells_100 rfl ?_
    refine aw_xVi [_, _] dX11_personTells_101 cvX11_139 (MS.s0 hM) (m_isHid hM hs hr (MS.s12 hM) hv hw hi) rfl rfl (Nat.le_of_ble_eq_true rfl) (rb0 (by decide)) ?_
    refine aw_if_eq (tgt := 111) dX11_personTells_104 rfl (fun h104 => ?_) (fun h104 => ?_)
    · refine aw_iconst (v := nI 0) dX11_personTells_111 kc_0 ?_
      refine aw_iret dX11_personTells_112 rfl (rb0 (Nat.zero_le _)) ⟨rfl, _, rfl, ?_, rfl, rfl⟩
      first | rfl | exact (if_neg h61).symm | exact (if_pos h61).symm | exact (zI_t (zI_n0.mp h104)).symm | exact (zI_f (zI_0.mp h104)).symm | exact (zI_t (zI_n0.mp h122)).symm | exact (zI_f (zI_0.mp h122)).symm
    · refine aw_iconst (v := nI 1) dX11_personTells_107 kc_1 ?_
      refine aw_goto (tgt := 112) dX11_personTells_108 rfl ?_
      refine aw_iret dX11_personTells_112 rfl (rb0 (Nat.zero_le _)) ⟨rfl, _, rfl, ?_, rfl, rfl⟩
      first | rfl | exact (if_neg h61).symm | exact (if_pos h61).symm | exact (zI_t (zI_n0.mp h104)).symm | exact (zI_f (zI_0.mp h104)).symm | exact (zI_t (zI_n0.mp h122)).symm | exact (zI_f (zI_0.mp h122)).symm
  · refine aw_tableOut (tgt := 113) dX11_personTells_1 (by decide) rfl ?_
    refine aw_aload_n dX11_personTells_113 rfl ?_
    refine aw_aload_n dX11_personTells_114 rfl ?_
    refine aw_getR dX11_personTells_115 fgX11_48 rfl (MS.s0 hM) (MS.r0_18 hM) ?_
    refine aw_iload_n dX11_personTells_118 rfl ?_
    refine aw_xVi [_, _] dX11_personTells_119 cvX11_147 (MS.s0 hM) (m_isMet hM hs hr (MS.s12 hM) hv hw hi) rfl rfl (Nat.le_of_ble_eq_true rfl) (rb0 (by decide)) ?_
    refine aw_if_eq (tgt := 129) dX11_personTells_122 rfl (fun h122 => ?_) (fun h122 => ?_)
    · refine aw_iconst (v := nI 0) dX11_personTells_129 kc_0 ?_
      refine aw_iret dX11_personTells_130 rfl (rb0 (Nat.zero_le _)) ⟨rfl, _, rfl, ?_, rfl, rfl⟩
      first | rfl | exact (if_neg h61).symm | exact (if_pos h61).symm | exact (zI_t (zI_n0.mp h104)).symm | exact (zI_f (zI_0.mp h104)).symm | exact (zI_t (zI_n0.mp h122)).symm | exact (zI_f (zI_0.mp h122)).symm
    · refine aw_iconst (v := nI 1) dX11_personTells_125 kc_1 ?_
      refine aw_goto (tgt := 130) dX11_personTells_126 rfl ?_
      refine aw_iret dX11_personTells_130 rfl (rb0 (Nat.zero_le _)) ⟨rfl, _, rfl, ?_, rfl, rfl⟩
      first | rfl | exact (if_neg h61).symm | exact (if_pos h61).symm | exact (zI_t (zI_n0.mp h104)).symm | exact (zI_f (zI_0.mp h104)).symm | exact (zI_t (zI_n0.mp h122)).symm | exact (zI_f (zI_0.mp h122)).symm
def pst (v : TV) (c i : Nat) : Bool := decide (v (13 + i) = c)
theorem lm_inStreet {G : GC} {E : SH} {iv : IV} {lv : LV} {M : Nat} {s : TS} {v : TV} (hM : MS G E M) (hs : WS s) (hr : SR M s iv) (hv : VR (M + 12) v iv) (hw : WV s v) {q : Nat} (hq : q < 5) : ∀ (c i : Nat), i + c = s.1 → AW G mX11_inStreet (rm 1 0) (Z0 G 1 E (fun r i0 l => ∃ w, r = some (.int w) ∧ w = nI (cntU (pst v q) s.1) ∧ i0 = iv ∧ l = lv)) (fun _ => True) E.1 4 [some (.ref M), some (.int (nI q)), some (.int (nI (cntU (pst v q) i))), some (.int (nI i))] [] E iv lv := by
  have h7 := hs.1
  intro c
  induction c with
  | zero =>
    intro i hi
    have hi : i = s.1 := by omega
    subst hi
    refine aw_iload_n dX11_inStreet_4 rfl ?_
    refine aw_aload_n dX11_inStreet_5 rfl ?_
    refine aw_getI dX11_inStreet_6 fgX11_126 rfl (MS.s0 hM) ?_
    refine aw_icmp_ge (tgt := 39) dX11_inStreet_9 rfl (fun h9 => ?_) (fun h9 => absurd (by rw [hr.1]; exact nI_le (Nat.le_refl _) (by omega)) h9)
    refine aw_iload_n dX11_inStreet_39 rfl ?_
    refine aw_iret dX11_inStreet_40 rfl (rb0 (Nat.zero_le _)) ⟨rfl, _, rfl, rfl, rfl, rfl⟩
  | succ c ih =>
    intro i hi
    have h9 := hw.1 i (by omega)
    refine aw_iload_n dX11_inStreet_4 rfl ?_
    refine aw_aload_n dX11_inStreet_5 rfl ?_
    refine aw_getI dX11_inStreet_6 fgX11_126 rfl (MS.s0 hM) ?_
    refine aw_icmp_ge (tgt := 39) dX11_inStreet_9 rfl (fun h9 => absurd h9 (by rw [hr.1]; exact nI_ge (by omega) (by omega))) (fun h9 => ?_)
    refine aw_iload_n dX11_inStreet_12 rfl ?_
    refine aw_aload_n dX11_inStreet_13 rfl ?_
    refine aw_getR dX11_inStreet_14 fgX11_48 rfl (MS.s0 hM) (MS.r0_18 hM) ?_
    refine aw_bipush (v := nI 13) dX11_inStreet_17 kb_13 ?_
    refine aw_iload_n dX11_inStreet_19 rfl ?_
    refine aw_iadd dX11_inStreet_20 ?_
    refine aw_iaload dX11_inStreet_21 (MS.s12 hM) (show nI 13 + nI i = nI (13 + i) by rw [nI_add]) (by omega) ?_
    rw [hv (13 + i) (by omega)]
    refine aw_iload_n dX11_inStreet_22 rfl ?_
    refine aw_icmp_ne (tgt := 30) dX11_inStreet_23 rfl (fun h23 => ?_) (fun h23 => ?_)
    · rw [nI_eq (by omega) (by omega)] at h23
      refine aw_iconst (v := nI 0) dX11_inStreet_30 kc_0 ?_
      refine aw_iadd dX11_inStreet_31 ?_
      refine aw_istore_n (lo' := [_,_,_,_]) dX11_inStreet_32 (Nat.le_of_ble_eq_true rfl) rfl ?_
      refine aw_iinc (v := _) (lo' := [_,_,_,_]) dX11_inStreet_33 rfl (nI_1 i) rfl ?_
      refine aw_goto (tgt := 4) dX11_inStreet_36 rfl ?_
      have h := ih (i + 1) (by omega)
      rw [cntU] at h
      first
        | (rw [show pst v q i = false from decide_eq_false h23] at h
           rw [nI_add]
           exact h)
        | (rw [show pst v q i = true from decide_eq_true h23] at h
           rw [nI_add]
           exact h)
    · rw [nI_eq (by omega) (by omega)] at h23
      refine aw_iconst (v := nI 1) dX11_inStreet_26 kc_1 ?_
      refine aw_goto (tgt := 31) dX11_inStreet_27 rfl ?_
      refine aw_iadd dX11_inStreet_31 ?_
      refine aw_istore_n (lo' := [_,_,_,_]) dX11_inStreet_32 (Nat.le_of_ble_eq_true rfl) rfl ?_
      refine aw_iinc (v := _) (lo' := [_,_,_,_]) dX11_inStreet_33 rfl (nI_1 i) rfl ?_
      refine aw_goto (tgt := 4) dX11_inStreet_36 rfl ?_
      have h := ih (i + 1) (by omega)
      rw [cntU] at h
      first
        | (rw [show pst v q i = false from decide_eq_false h23] at h
           rw [nI_add]
           exact h)
        | (rw [show pst v q i = true from decide_eq_true h23] at h
           rw [nI_add]
           exact h)
theorem m_inStreet {G : GC} {E : SH} {iv : IV} {lv : LV} {M : Nat} {s : TS} {v : TV} (hM : MS G E M) (hs : WS s) (hr : SR M s iv) (hv : VR (M + 12) v iv) (hw : WV s v) {q : Nat} (hq : q < 5) : ExI G mX11_inStreet 1 [.ref M, .int (nI q)] E iv lv (nI (cntU (pst v q) s.1)) iv lv := by
  refine spec0_of (lo := [_,_,_,_]) (by decide) (Nat.le_of_ble_eq_true rfl) rfl ?_
  refine aw_iconst (v := nI 0) dX11_inStreet_0 kc_0 ?_
  refine aw_istore_n (lo' := [_,_,_,_]) dX11_inStreet_1 (Nat.le_of_ble_eq_true rfl) rfl ?_
  refine aw_iconst (v := nI 0) dX11_inStreet_2 kc_0 ?_
  refine aw_istore_n (lo' := [_,_,_,_]) dX11_inStreet_3 (Nat.le_of_ble_eq_true rfl) rfl ?_
  exact lm_inStreet hM hs hr hv hw hq s.1 0 (by omega)
