/-- one of another kind, another height -/
def sK (s : TS) (i k : Nat) : TS := (s.1, va_up s.2.1 i k, s.2.2.1, s.2.2.2)
def sH (s : TS) (i h : Nat) : TS := (s.1, s.2.1, va_up s.2.2.1 i h, s.2.2.2)
theorem WS_K {s : TS} {i k : Nat} (hs : WS s) (hk : k < 6) : WS (sK s i k) := by
  refine ⟨hs.1, fun j hj => ⟨?_, (hs.2 j hj).2⟩⟩
  show va_up s.2.1 i k j < 6
  by_cases e : j = i
  · subst e; rw [va_up_s]; exact hk
  · rw [va_up_n e]; exact (hs.2 j hj).1
theorem WS_H {s : TS} {i k : Nat} (hs : WS s) (hk : k ≤ 9) : WS (sH s i k) := by
  refine ⟨hs.1, fun j hj => ⟨(hs.2 j hj).1, ?_, (hs.2 j hj).2.2⟩⟩
  show va_up s.2.2.1 i k j ≤ 9
  by_cases e : j = i
  · subst e; rw [va_up_s]; exact hk
  · rw [va_up_n e]; exact (hs.2 j hj).2.1
theorem sK_self (s : TS) (i : Nat) : sK s i (s.2.1 i) = s := by unfold sK; rw [up_id]
theorem sH_self (s : TS) (i : Nat) : sH s i (s.2.2.1 i) = s := by unfold sH; rw [up_id]
theorem WV_sK {s : TS} {v : TV} {i k : Nat} (hw : WV s v) : WV (sK s i k) v := hw
theorem WV_sH {s : TS} {v : TV} {i k : Nat} (hw : WV s v) : WV (sH s i k) v := hw
theorem TR_K {T i k k2 : Nat} {s : TS} {v : TV} {iv : IV} (h : TR T (sK s i k) v iv) : TR T (sK s i k2) v (va_up iv (T + 8) (upd (iv (T + 8)) i (nI k2))) := by
  refine ⟨by rw [va_up_n (by omega)]; exact h.1, by rw [va_up_n (by omega)]; exact h.2.1, fun j hj => ?_, fun c hc => by rw [va_up_n (by omega)]; exact h.2.2.2 c hc⟩
  have g := h.2.2.1 j hj
  rw [va_up_s, va_up_n (show T + 9 ≠ T + 8 by omega), va_up_n (show T + 10 ≠ T + 8 by omega), va_up_n (show T + 11 ≠ T + 8 by omega), va_up_n (show T + 12 ≠ T + 8 by omega)]
  refine ⟨?_, g.2⟩
  show upd _ _ _ _ = nI (va_up s.2.1 i k2 j)
  unfold upd
  by_cases e : j = i
  · subst e; rw [if_pos rfl, va_up_s]
  · rw [if_neg e, va_up_n e]
    have g1 : iv (T + 8) j = nI (va_up s.2.1 i k j) := g.1
    rw [va_up_n e] at g1
    exact g1
theorem TR_H {T i k k2 : Nat} {s : TS} {v : TV} {iv : IV} (h : TR T (sH s i k) v iv) : TR T (sH s i k2) v (va_up iv (T + 9) (upd (iv (T + 9)) i (nI k2))) := by
  refine ⟨by rw [va_up_n (by omega)]; exact h.1, by rw [va_up_n (by omega)]; exact h.2.1, fun j hj => ?_, fun c hc => by rw [va_up_n (by omega)]; exact h.2.2.2 c hc⟩
  have g := h.2.2.1 j hj
  rw [va_up_s, va_up_n (show T + 8 ≠ T + 9 by omega), va_up_n (show T + 10 ≠ T + 9 by omega), va_up_n (show T + 11 ≠ T + 9 by omega), va_up_n (show T + 12 ≠ T + 9 by omega)]
  refine ⟨g.1, ?_, g.2.2⟩
  show upd _ _ _ _ = nI (va_up s.2.2.1 i k2 j)
  unfold upd
  by_cases e : j = i
  · subst e; rw [if_pos rfl, va_up_s]
  · rw [if_neg e, va_up_n e]
    have g1 : iv (T + 9) j = nI (va_up s.2.2.1 i k j) := g.2.1
    rw [va_up_n e] at g1
    exact g1
def pK (s : TS) (v : TV) (i : Nat) (g : Nat → Int32) (m k : Nat) : Bool := ftB (sK s i k) v g m
def pH (s : TS) (v : TV) (i : Nat) (g : Nat → Int32) (m k : Nat) : Bool := ftB (sH s i k) v g m
theorem lo_kinds {G : GC} {E : SH} {iv : IV} {lv : LV} {O : Nat} {s : TS} {v : TV} (hO : OutS G E O) (hs : WS s) (hr : TR (O + 1) s v iv) (hw : WV s v) {S z m i : Nat} (hS : StripS G E S z) (hz : z < 2 ^ 31) (hm : iv S 1 = nI m) (hmz : m ≤ z) (hSO : S + 1 < O ∨ O + 31 ≤ S) (hn : v 0 + m + 1 < 2 ^ 20) (hi : i < s.1) : ∀ (c e : Nat) (jv : IV), e + c = 6 → (∃ k, TR (O + 1) (sK s i k) v jv) → frQ O jv iv → jv O 6 = iv O 6 → AW G mX3_kindsThatFit (rm 6 0) (Z0 G 6 E (fun r i0 l => ∃ w, r = some (.int w) ∧ (w = nI (bitU (pK s v i (iv (S + 1)) m) 6) ∧ TR (O + 1) s v i0 ∧ frQ O i0 iv ∧ i0 O 6 = iv O 6 ∧ l = lv))) (fun _ => True) E.1 16 [some (.ref O), some (.int (nI i)), some (.ref S), some (.int (nI (s.2.1 i))), some (.int (nI (bitU (pK s v i (iv (S + 1)) m) e))), some (.int (nI e))] [] E jv lv := by
  have h7 := hs.1
  intro c
  induction c with
  | zero =>
    intro e jv he ha hf h6
    obtain ⟨k, ha⟩ := ha
    have he : e = 6 := by omega
    subst he
    refine aw_iload dX3_kindsThatFit_16 rfl ?_
    refine aw_bipush (v := nI 6) dX3_kindsThatFit_18 kb_6 ?_
    refine aw_icmp_ge (tgt := 57) dX3_kindsThatFit_20 rfl (fun h20 => ?_) (fun h20 => absurd (nI_le (Nat.le_refl _) (by decide)) h20)
    refine aw_aload_n dX3_kindsThatFit_57 rfl ?_
    refine aw_getR dX3_kindsThatFit_58 fgX3_12 rfl (OutS.s0 hO) (OutS.r0_0 hO) ?_
    refine aw_getR dX3_kindsThatFit_61 fgX3_104 rfl (TownS.s0 (OutS.aside hO)) (TownS.r0_4 (OutS.aside hO)) ?_
    refine aw_iload_n dX3_kindsThatFit_64 rfl ?_
    refine aw_iload_n dX3_kindsThatFit_65 rfl ?_
    refine aw_iastore dX3_kindsThatFit_66 (TownS.s8 (OutS.aside hO)) rfl (by omega) ?_
    refine aw_iload dX3_kindsThatFit_67 rfl ?_
    refine aw_iret dX3_kindsThatFit_69 rfl (rb0 (Nat.zero_le _)) ⟨rfl, _, rfl, rfl, by have h := TR_K (k2 := s.2.1 i) ha; rw [sK_self] at h; exact h, frQ_tr (fun b hb => va_up_n (by omega)) hf, by rw [va_up_n (by omega)]; exact h6, rfl⟩
  | succ c ih =>
    intro e jv he ha hf h6
    obtain ⟨k, ha⟩ := ha
    have hb := TR_K (k2 := e) ha
    have hS1 : ∀ x, va_up jv (O + 1 + 8) x S = iv S := fun x => (va_up_n (by omega)).trans (hf S (by omega))
    have hS2 : ∀ x, va_up jv (O + 1 + 8) x (S + 1) = iv (S + 1) := fun x => (va_up_n (by omega)).trans (hf (S + 1) (by omega))
    refine aw_iload dX3_kindsThatFit_16 rfl ?_
    refine aw_bipush (v := nI 6) dX3_kindsThatFit_18 kb_6 ?_
    refine aw_icmp_ge (tgt := 57) dX3_kindsThatFit_20 rfl (fun h20 => absurd h20 (nI_ge (by omega) (by decide))) (fun h20 => ?_)
    refine aw_aload_n dX3_kindsThatFit_23 rfl ?_
    refine aw_getR dX3_kindsThatFit_24 fgX3_12 rfl (OutS.s0 hO) (OutS.r0_0 hO) ?_
    refine aw_getR dX3_kindsThatFit_27 fgX3_104 rfl (TownS.s0 (OutS.aside hO)) (TownS.r0_4 (OutS.aside hO)) ?_
    refine aw_iload_n dX3_kindsThatFit_30 rfl ?_
    refine aw_iload dX3_kindsThatFit_31 rfl ?_
    refine aw_iastore dX3_kindsThatFit_33 (TownS.s8 (OutS.aside hO)) rfl (by omega) ?_
    refine aw_aload_n dX3_kindsThatFit_34 rfl ?_
    refine aw_aload_n dX3_kindsThatFit_35 rfl ?_
    refine aw_sVi [_] dX3_kindsThatFit_36 cvX3_107 (OutS.s0 hO) (o_fits hO (WS_K hs (by omega)) hb (WV_sK hw) hS hz (by rw [hS1]; exact hm) hmz hSO hn) rfl rfl (Nat.le_of_ble_eq_true rfl) (rb0 (by decide)) (fun kw kv klv hk => ?_)
    obtain ⟨k0, k1, k2, rfl⟩ := hk
    subst k0
    rw [hS2]
    refine aw_if_eq (tgt := 51) dX3_kindsThatFit_39 rfl (fun h39 => ?_) (fun h39 => ?_)
    · have hp : pK s v i (iv (S + 1)) m e = false := eq_false_of_ne_true (zI_0.mp h39)
      refine aw_iinc (v := _) (lo' := [_,_,_,_,_,_]) dX3_kindsThatFit_51 rfl (nI_1 e) rfl ?_
      refine aw_goto (tgt := 16) dX3_kindsThatFit_54 rfl ?_
      have h := ih (e + 1) kv (by omega) ⟨e, k1⟩ (frQ_tr (frO_Q k2) (frQ_tr (fun b hb => va_up_n (by omega)) hf)) (by rw [k2.2, va_up_n (by omega)]; exact h6)
      first
        | (rw [bitU_f hp] at h
           exact h)
        | (rw [← bitU_t (by omega) hp] at h
           exact h)
    · have hp : pK s v i (iv (S + 1)) m e = true := zI_n0.mp h39
      refine aw_iload dX3_kindsThatFit_42 rfl ?_
      refine aw_iconst (v := nI 1) dX3_kindsThatFit_44 kc_1 ?_
      refine aw_iload dX3_kindsThatFit_45 rfl ?_
      refine aw_ishl dX3_kindsThatFit_47 ?_
      refine aw_ior dX3_kindsThatFit_48 ?_
      refine aw_istore (lo' := [_,_,_,_,_,_]) dX3_kindsThatFit_49 (Nat.le_of_ble_eq_true rfl) rfl ?_
      refine aw_iinc (v := _) (lo' := [_,_,_,_,_,_]) dX3_kindsThatFit_51 rfl (nI_1 e) rfl ?_
      refine aw_goto (tgt := 16) dX3_kindsThatFit_54 rfl ?_
      have h := ih (e + 1) kv (by omega) ⟨e, k1⟩ (frQ_tr (frO_Q k2) (frQ_tr (fun b hb => va_up_n (by omega)) hf)) (by rw [k2.2, va_up_n (by omega)]; exact h6)
      first
        | (rw [bitU_f hp] at h
           exact h)
        | (rw [← bitU_t (by omega) hp] at h
           exact h)
theorem o_kinds {G : GC} {E : SH} {iv : IV} {lv : LV} {O : Nat} {s : TS} {v : TV} (hO : OutS G E O) (hs : WS s) (hr : TR (O + 1) s v iv) (hw : WV s v) {S z m i : Nat} (hS : StripS G E S z) (hz : z < 2 ^ 31) (hm : iv S 1 = nI m) (hmz : m ≤ z) (hSO : S + 1 < O ∨ O + 31 ≤ S) (hn : v 0 + m + 1 < 2 ^ 20) (hi : i < s.1) : SpI G mX3_kindsThatFit 6 [.ref O, .int (nI i), .ref S] E iv lv (fun w i0 l => w = nI (bitU (pK s v i (iv (S + 1)) m) 6) ∧ TR (O + 1) s v i0 ∧ frQ O i0 iv ∧ i0 O 6 = iv O 6 ∧ l = lv) := by
  have h7 := hs.1
  refine spec0_of (lo := [_,_,_,_,_,_]) (by decide) (Nat.le_of_ble_eq_true rfl) rfl ?_
  refine aw_aload_n dX3_kindsThatFit_0 rfl ?_
  refine aw_getR dX3_kindsThatFit_1 fgX3_12 rfl (OutS.s0 hO) (OutS.r0_0 hO) ?_
  refine aw_getR dX3_kindsThatFit_4 fgX3_104 rfl (TownS.s0 (OutS.aside hO)) (TownS.r0_4 (OutS.aside hO)) ?_
  refine aw_iload_n dX3_kindsThatFit_7 rfl ?_
  refine aw_iaload dX3_kindsThatFit_8 (TownS.s8 (OutS.aside hO)) rfl (by omega) ?_
  rw [(hr.2.2.1 i hi).1]
  refine aw_istore_n (lo' := [_,_,_,_,_,_]) dX3_kindsThatFit_9 (Nat.le_of_ble_eq_true rfl) rfl ?_
  refine aw_iconst (v := nI 0) dX3_kindsThatFit_10 kc_0 ?_
  refine aw_istore (lo' := [_,_,_,_,_,_]) dX3_kindsThatFit_11 (Nat.le_of_ble_eq_true rfl) rfl ?_
  refine aw_iconst (v := nI 0) dX3_kindsThatFit_13 kc_0 ?_
  refine aw_istore (lo' := [_,_,_,_,_,_]) dX3_kindsThatFit_14 (Nat.le_of_ble_eq_true rfl) rfl ?_
  exact lo_kinds hO hs hr hw hS hz hm hmz hSO hn hi 6 0 iv (by omega) ⟨s.2.1 i, by rw [sK_self]; exact hr⟩ frQ_rf rfl
theorem lo_heights {G : GC} {E : SH} {iv : IV} {lv : LV} {O : Nat} {s : TS} {v : TV} (hO : OutS G E O) (hs : WS s) (hr : TR (O + 1) s v iv) (hw : WV s v) {S z m i : Nat} (hS : StripS G E S z) (hz : z < 2 ^ 31) (hm : iv S 1 = nI m) (hmz : m ≤ z) (hSO : S + 1 < O ∨ O + 31 ≤ S) (hn : v 0 + m + 1 < 2 ^ 20) (hi : i < s.1) : ∀ (c e : Nat) (jv : IV), e + c = 10 → (∃ k, TR (O + 1) (sH s i k) v jv) → frQ O jv iv → jv O 6 = iv O 6 → AW G mX3_heightsThatFit (rm 6 0) (Z0 G 6 E (fun r i0 l => ∃ w, r = some (.int w) ∧ (w = nI (bitU (pH s v i (iv (S + 1)) m) 10) ∧ TR (O + 1) s v i0 ∧ frQ O i0 iv ∧ i0 O 6 = iv O 6 ∧ l = lv))) (fun _ => True) E.1 16 [some (.ref O), some (.int (nI i)), some (.ref S), some (.int (nI (s.2.2.1 i))), some (.int (nI (bitU (pH s v i (iv (S + 1)) m) e))), some (.int (nI e))] [] E jv lv := by
  have h7 := hs.1
  intro c
  induction c with
  | zero =>
    intro e jv he ha hf h6
    obtain ⟨k, ha⟩ := ha
    have he : e = 10 := by omega
    subst he
    refine aw_iload dX3_heightsThatFit_16 rfl ?_
    refine aw_bipush (v := nI 9) dX3_heightsThatFit_18 kb_9 ?_
    refine aw_icmp_gt (tgt := 57) dX3_heightsThatFit_20 rfl (fun h20 => ?_) (fun h20 => absurd (nI_lt (by decide) (by decide)) h20)
    refine aw_aload_n dX3_heightsThatFit_57 rfl ?_
    refine aw_getR dX3_heightsThatFit_58 fgX3_12 rfl (OutS.s0 hO) (OutS.r0_0 hO) ?_
    refine aw_getR dX3_heightsThatFit_61 fgX3_111 rfl (TownS.s0 (OutS.aside hO)) (TownS.r0_5 (OutS.aside hO)) ?_
    refine aw_iload_n dX3_heightsThatFit_64 rfl ?_
    refine aw_iload_n dX3_heightsThatFit_65 rfl ?_
    refine aw_iastore dX3_heightsThatFit_66 (TownS.s9 (OutS.aside hO)) rfl (by omega) ?_
    refine aw_iload dX3_heightsThatFit_67 rfl ?_
    refine aw_iret dX3_heightsThatFit_69 rfl (rb0 (Nat.zero_le _)) ⟨rfl, _, rfl, rfl, by have h := TR_H (k2 := s.2.2.1 i) ha; rw [sH_self] at h; exact h, frQ_tr (fun b hb => va_up_n (by omega)) hf, by rw [va_up_n (by omega)]; exact h6, rfl⟩
  | succ c ih =>
    intro e jv he ha hf h6
    obtain ⟨k, ha⟩ := ha
    have hb := TR_H (k2 := e) ha
    have hS1 : ∀ x, va_up jv (O + 1 + 9) x S = iv S := fun x => (va_up_n (by omega)).trans (hf S (by omega))
    have hS2 : ∀ x, va_up jv (O + 1 + 9) x (S + 1) = iv (S + 1) := fun x => (va_up_n (by omega)).trans (hf (S + 1) (by omega))
    refine aw_iload dX3_heightsThatFit_16 rfl ?_
    refine aw_bipush (v := nI 9) dX3_heightsThatFit_18 kb_9 ?_
    refine aw_icmp_gt (tgt := 57) dX3_heightsThatFit_20 rfl (fun h20 => absurd h20 (nI_nlt (by omega) (by decide))) (fun h20 => ?_)
    refine aw_aload_n dX3_heightsThatFit_23 rfl ?_
    refine aw_getR dX3_heightsThatFit_24 fgX3_12 rfl (OutS.s0 hO) (OutS.r0_0 hO) ?_
    refine aw_getR dX3_heightsThatFit_27 fgX3_111 rfl (TownS.s0 (OutS.aside hO)) (TownS.r0_5 (OutS.aside hO)) ?_
    refine aw_iload_n dX3_heightsThatFit_30 rfl ?_
    refine aw_iload dX3_heightsThatFit_31 rfl ?_
    refine aw_iastore dX3_heightsThatFit_33 (TownS.s9 (OutS.aside hO)) rfl (by omega) ?_
    refine aw_aload_n dX3_heightsThatFit_34 rfl ?_
    refine aw_aload_n dX3_heightsThatFit_35 rfl ?_
    refine aw_sVi [_] dX3_heightsThatFit_36 cvX3_107 (OutS.s0 hO) (o_fits hO (WS_H hs (by omega)) hb (WV_sH hw) hS hz (by rw [hS1]; exact hm) hmz hSO hn) rfl rfl (Nat.le_of_ble_eq_true rfl) (rb0 (by decide)) (fun kw kv klv hk => ?_)
    obtain ⟨k0, k1, k2, rfl⟩ := hk
    subst k0
    rw [hS2]
    refine aw_if_eq (tgt := 51) dX3_heightsThatFit_39 rfl (fun h39 => ?_) (fun h39 => ?_)
    · have hp : pH s v i (iv (S + 1)) m e = false := eq_false_of_ne_true (zI_0.mp h39)
      refine aw_iinc (v := _) (lo' := [_,_,_,_,_,_]) dX3_heightsThatFit_51 rfl (nI_1 e) rfl ?_
      refine aw_goto (tgt := 16) dX3_heightsThatFit_54 rfl ?_
      have h := ih (e + 1) kv (by omega) ⟨e, k1⟩ (frQ_tr (frO_Q k2) (frQ_tr (fun b hb => va_up_n (by omega)) hf)) (by rw [k2.2, va_up_n (by omega)]; exact h6)
      first
        | (rw [bitU_f hp] at h
           exact h)
        | (rw [← bitU_t (by omega) hp] at h
           exact h)
    · have hp : pH s v i (iv (S + 1)) m e = true := zI_n0.mp h39
      refine aw_iload dX3_heightsThatFit_42 rfl ?_
      refine aw_iconst (v := nI 1) dX3_heightsThatFit_44 kc_1 ?_
      refine aw_iload dX3_heightsThatFit_45 rfl ?_
      refine aw_ishl dX3_heightsThatFit_47 ?_
      refine aw_ior dX3_heightsThatFit_48 ?_
      refine aw_istore (lo' := [_,_,_,_,_,_]) dX3_heightsThatFit_49 (Nat.le_of_ble_eq_true rfl) rfl ?_
      refine aw_iinc (v := _) (lo' := [_,_,_,_,_,_]) dX3_heightsThatFit_51 rfl (nI_1 e) rfl ?_
      refine aw_goto (tgt := 16) dX3_heightsThatFit_54 rfl ?_
      have h := ih (e + 1) kv (by omega) ⟨e, k1⟩ (frQ_tr (frO_Q k2) (frQ_tr (fun b hb => va_up_n (by omega)) hf)) (by rw [k2.2, va_up_n (by omega)]; exact h6)
      first
        | (rw [bitU_f hp] at h
           exact h)
        | (rw [← bitU_t (by omega) hp] at h
           exact h)
theorem o_heights {G : GC} {E : SH} {iv : IV} {lv : LV} {O : Nat} {s : TS} {v : TV} (hO : OutS G E O) (hs : WS s) (hr : TR (O + 1) s v iv) (hw : WV s v) {S z m i : Nat} (hS : StripS G E S z) (hz : z < 2 ^ 31) (hm : iv S 1 = nI m) (hmz : m ≤ z) (hSO : S + 1 < O ∨ O + 31 ≤ S) (hn : v 0 + m + 1 < 2 ^ 20) (hi : i < s.1) : SpI G mX3_heightsThatFit 6 [.ref O, .int (nI i), .ref S] E iv lv (fun w i0 l => w = nI (bitU (pH s v i (iv (S + 1)) m) 10) ∧ TR (O + 1) s v i0 ∧ frQ O i0 iv ∧ i0 O 6 = iv O 6 ∧ l = lv) := by
  have h7 := hs.1
  refine spec0_of (lo := [_,_,_,_,_,_]) (by decide) (Nat.le_of_ble_eq_true rfl) rfl ?_
  refine aw_aload_n dX3_heightsThatFit_0 rfl ?_
  refine aw_getR dX3_heightsThatFit_1 fgX3_12 rfl (OutS.s0 hO) (OutS.r0_0 hO) ?_
  refine aw_getR dX3_heightsThatFit_4 fgX3_111 rfl (TownS.s0 (OutS.aside hO)) (TownS.r0_5 (OutS.aside hO)) ?_
  refine aw_iload_n dX3_heightsThatFit_7 rfl ?_
  refine aw_iaload dX3_heightsThatFit_8 (TownS.s9 (OutS.aside hO)) rfl (by omega) ?_
  rw [(hr.2.2.1 i hi).2.1]
  refine aw_istore_n (lo' := [_,_,_,_,_,_]) dX3_heightsThatFit_9 (Nat.le_of_ble_eq_true rfl) rfl ?_
  refine aw_iconst (v := nI 0) dX3_heightsThatFit_10 kc_0 ?_
  refine aw_istore (lo' := [_,_,_,_,_,_]) dX3_heightsThatFit_11 (Nat.le_of_ble_eq_true rfl) rfl ?_
  refine aw_iconst (v := nI 0) dX3_heightsThatFit_13 kc_0 ?_
  refine aw_istore (lo' := [_,_,_,_,_,_]) dX3_heightsThatFit_14 (Nat.le_of_ble_eq_true rfl) rfl ?_
  exact lo_heights hO hs hr hw hS hz hm hmz hSO hn hi 10 0 iv (by omega) ⟨s.2.2.1 i, by rw [sH_self]; exact hr⟩ frQ_rf rfl
/-- the outlook's table: what the grudges are on each day, were one of each kind -/
def TT (O : Nat) (s : TS) (v : TV) (i : Nat) (iv : IV) : Prop := ∀ k e, k < 6 → 1 ≤ e → e ≤ 20 → iv (O + (24 + k)) e = nI (gd (sK s i k) v e)
theorem lo_fore2 {G : GC} {E : SH} {iv : IV} {lv : LV} {O : Nat} {s : TS} {v : TV} (hO : OutS G E O) (hs : WS s) (hr : TR (O + 1) s v iv) (hw : WV s v) {i : Nat} (hi : i < s.1) (hn : v 0 + 21 < 2 ^ 20) {Zz : List Frame → Array Value → State → State → Prop} {k : Nat} (hk6 : k < 6) : (∀ (jv : IV), TR (O + 1) (sK s i k) v jv → (∀ q e, q < k + 1 → 1 ≤ e → e ≤ 20 → jv (O + (24 + q)) e = nI (gd (sK s i q) v e)) → frQ O jv iv → jv O 6 = iv O 6 → AW G mX3_foretellEach (rm 5 0) Zz (fun _ => True) E.1 52 [some (.ref O), some (.int (nI i)), some (.int (nI k)), some (.int (nI 21))] [] E jv lv) → ∀ (c e : Nat) (jv : IV), e + c = 20 → OS O (sK s i k) v e jv → (∀ q f, q < k → 1 ≤ f → f ≤ 20 → jv (O + (24 + q)) f = nI (gd (sK s i q) v f)) → (∀ f, 1 ≤ f → f ≤ e → jv (O + (24 + k)) f = nI (gd (sK s i k) v f)) → frQ O jv iv → jv O 6 = iv O 6 → AW G mX3_foretellEach (rm 5 0) Zz (fun _ => True) E.1 24 [some (.ref O), some (.int (nI i)), some (.int (nI k)), some (.int (nI (e + 1)))] [] E jv lv := by
  have h7 := hs.1
  have hs2 := WS_K hs (i := i) hk6
  intro hk c
  induction c with
  | zero =>
    intro e jv he hj h1 h2 hf h6
    have he : e = 20 := by omega
    subst he
    refine aw_iload_n dX3_foretellEach_24 rfl ?_
    refine aw_bipush (v := nI 20) dX3_foretellEach_25 kb_20 ?_
    refine aw_icmp_gt (tgt := 52) dX3_foretellEach_27 rfl (fun h27 => ?_) (fun h27 => absurd (nI_lt (by decide) (by decide)) h27)
    exact hk jv hj.1 (fun q f h3 h4 h5 => by
      by_cases e : q = k
      · subst e; exact h2 f h4 h5
      · exact h1 q f (by omega) h4 h5) hf h6
  | succ c ih =>
    intro e jv he hj h1 h2 hf h6
    refine aw_iload_n dX3_foretellEach_24 rfl ?_
    refine aw_bipush (v := nI 20) dX3_foretellEach_25 kb_20 ?_
    refine aw_icmp_gt (tgt := 52) dX3_foretellEach_27 rfl (fun h27 => absurd h27 (nI_nlt (by omega) (by omega))) (fun h27 => ?_)
    refine aw_aload_n dX3_foretellEach_30 rfl ?_
    refine aw_sVv [] dX3_foretellEach_31 cvX3_76 (OutS.s0 hO) (o_foresee hO hs2 (WV_sK hw) hj (by omega)) rfl rfl (Nat.le_of_ble_eq_true rfl) (rb0 (by decide)) (fun kv klv hk => ?_)
    obtain ⟨k1, k2, rfl⟩ := hk
    refine aw_aload_n dX3_foretellEach_34 rfl ?_
    refine aw_getR dX3_foretellEach_35 fgX3_27 rfl (OutS.s0 hO) (OutS.r0_3 hO) ?_
    refine aw_iload_n dX3_foretellEach_38 rfl ?_
    refine aw_aaload dX3_foretellEach_39 (OutS.s23 hO) ⟨by decide, by decide⟩ rfl hk6 (OutS.tot hO hk6).2 ?_
    refine aw_iload_n dX3_foretellEach_40 rfl ?_
    refine aw_aload_n dX3_foretellEach_41 rfl ?_
    refine aw_xVi [] dX3_foretellEach_42 cvX3_79 (OutS.s0 hO) (o_total hO hs2 (WV_sK hw) k1 (by omega)) rfl rfl (Nat.le_of_ble_eq_true rfl) (rb0 (by decide)) ?_
    rw [show tot (sK s i k) (passN (sK s i k) v (e + 1)) = gd (sK s i k) v (e + 1) from rfl]
    refine aw_iastore dX3_foretellEach_45 (OutS.tot hO hk6).1 rfl (by omega) ?_
    refine aw_iinc (v := _) (lo' := [_,_,_,_]) dX3_foretellEach_46 rfl (nI_1 (e + 1)) rfl ?_
    refine aw_goto (tgt := 24) dX3_foretellEach_49 rfl ?_
    have hk2 : ∀ b, O + 24 ≤ b → b < O + 30 → kv b = jv b := fun b hb1 hb2 => k2.1 b (by omega) (by omega) (by omega)
    refine ih (e + 1) _ (by omega) ⟨TR_of k1.1 (by rw [va_up_n (by omega)]) (by rw [va_up_n (by omega)]) (fun b g1 g2 => va_up_n (by omega)), fun j hj2 => by rw [va_up_n (by omega)]; exact k1.2.1 j hj2, fun j hj2 => by rw [va_up_n (by omega)]; exact k1.2.2.1 j hj2, by rw [va_up_n (by omega)]; exact k1.2.2.2⟩ (fun q f h3 h4 h5 => ?_) (fun f h4 h5 => ?_) (frQ_tr (fun b hb => va_up_n (by omega)) (frQ_tr (frO_Q k2) hf)) (by rw [va_up_n (by omega), k2.2]; exact h6)
    · rw [va_up_n (by omega), hk2 _ (by omega) (by omega)]; exact h1 q f h3 h4 h5
    · rw [va_up_s]
      unfold upd
      by_cases e2 : f = e + 1
      · subst e2; exact if_pos rfl
      · rw [if_neg e2, hk2 _ (by omega) (by omega)]; exact h2 f h4 (by omega)
theorem lo_fore {G : GC} {E : SH} {iv : IV} {lv : LV} {O : Nat} {s : TS} {v : TV} (hO : OutS G E O) (hs : WS s) (hr : TR (O + 1) s v iv) (hw : WV s v) {i : Nat} (hi : i < s.1) (hn : v 0 + 21 < 2 ^ 20) : ∀ (c k : Nat) (jv : IV) (j3 : Option Value), k + c = 6 → (∃ q, TR (O + 1) (sK s i q) v jv) → (∀ q f, q < k → 1 ≤ f → f ≤ 20 → jv (O + (24 + q)) f = nI (gd (sK s i q) v f)) → frQ O jv iv → jv O 6 = iv O 6 → AW G mX3_foretellEach (rm 5 0) (Z0 G 5 E (fun r i0 l => r = none ∧ (TT O s v i i0 ∧ frQ O i0 iv ∧ i0 O 6 = iv O 6 ∧ l = lv))) (fun _ => True) E.1 2 [some (.ref O), some (.int (nI i)), some (.int (nI k)), j3] [] E jv lv := by
  have h7 := hs.1
  intro c
  induction c with
  | zero =>
    intro k jv j3 hk ha h1 hf h6
    have hk : k = 6 := by omega
    subst hk
    refine aw_iload_n dX3_foretellEach_2 rfl ?_
    refine aw_bipush (v := nI 6) dX3_foretellEach_3 kb_6 ?_
    refine aw_icmp_ge (tgt := 58) dX3_foretellEach_5 rfl (fun h5 => ?_) (fun h5 => absurd (nI_le (Nat.le_refl _) (by decide)) h5)
    refine aw_vret dX3_foretellEach_58 rfl (rb0 (Nat.zero_le _)) ⟨rfl, rfl, fun q f h2 h3 h4 => h1 q f h2 h3 h4, hf, h6, rfl⟩
  | succ c ih =>
    intro k jv j3 hk ha h1 hf h6
    obtain ⟨q0, ha⟩ := ha
    have hb := TR_K (k2 := k) ha
    refine aw_iload_n dX3_foretellEach_2 rfl ?_
    refine aw_bipush (v := nI 6) dX3_foretellEach_3 kb_6 ?_
    refine aw_icmp_ge (tgt := 58) dX3_foretellEach_5 rfl (fun h5 => absurd h5 (nI_ge (by omega) (by decide))) (fun h5 => ?_)
    refine aw_aload_n dX3_foretellEach_8 rfl ?_
    refine aw_getR dX3_foretellEach_9 fgX3_12 rfl (OutS.s0 hO) (OutS.r0_0 hO) ?_
    refine aw_getR dX3_foretellEach_12 fgX3_104 rfl (TownS.s0 (OutS.aside hO)) (TownS.r0_4 (OutS.aside hO)) ?_
    refine aw_iload_n dX3_foretellEach_15 rfl ?_
    refine aw_iload_n dX3_foretellEach_16 rfl ?_
    refine aw_iastore dX3_foretellEach_17 (TownS.s8 (OutS.aside hO)) rfl (by omega) ?_
    refine aw_aload_n dX3_foretellEach_18 rfl ?_
    refine aw_sVv [] dX3_foretellEach_19 cvX3_73 (OutS.s0 hO) (o_start hO (WS_K hs (i := i) (k := k) (by omega)) hb (WV_sK hw)) rfl rfl (Nat.le_of_ble_eq_true rfl) (rb0 (by decide)) (fun kv klv hk => ?_)
    obtain ⟨k1, k2, rfl⟩ := hk
    refine aw_iconst (v := nI 1) dX3_foretellEach_22 kc_1 ?_
    refine aw_istore_n (lo' := [_,_,_,_]) dX3_foretellEach_23 (Nat.le_of_ble_eq_true rfl) rfl ?_
    refine lo_fore2 hO hs hr hw hi hn (k := k) (by omega) (fun mv hm1 hm2 hm3 hm4 => ?_) 20 0 kv (by omega) k1 (fun q f h3 h4 h5 => ?_) (fun f h4 h5 => absurd h5 (by omega)) (frQ_tr (frO_Q k2) (frQ_tr (fun b hb => va_up_n (by omega)) hf)) (by rw [k2.2, va_up_n (by omega)]; exact h6)
    · refine aw_iinc (v := _) (lo' := [_,_,_,_]) dX3_foretellEach_52 rfl (nI_1 k) rfl ?_
      refine aw_goto (tgt := 2) dX3_foretellEach_55 rfl ?_
      exact ih (k + 1) mv _ (by omega) ⟨k, hm1⟩ hm2 hm3 hm4
    · rw [k2.1 _ (by omega) (by omega) (by omega), va_up_n (by omega)]; exact h1 q f h3 h4 h5
theorem o_fore {G : GC} {E : SH} {iv : IV} {lv : LV} {O : Nat} {s : TS} {v : TV} (hO : OutS G E O) (hs : WS s) (hr : TR (O + 1) s v iv) (hw : WV s v) {i : Nat} (hi : i < s.1) (hn : v 0 + 21 < 2 ^ 20) : SpV G mX3_foretellEach 5 [.ref O, .int (nI i)] E iv lv (fun i0 l => TT O s v i i0 ∧ frQ O i0 iv ∧ i0 O 6 = iv O 6 ∧ l = lv) := by
  refine spec0_of (lo := [_,_,_,_]) (by decide) (Nat.le_of_ble_eq_true rfl) rfl ?_
  refine aw_iconst (v := nI 0) dX3_foretellEach_0 kc_0 ?_
  refine aw_istore_n (lo' := [_,_,_,_]) dX3_foretellEach_1 (Nat.le_of_ble_eq_true rfl) rfl ?_
  exact lo_fore hO hs hr hw hi hn 6 0 iv none (by omega) ⟨s.2.1 i, by rw [sK_self]; exact hr⟩ (fun q f h => absurd h (Nat.not_lt_zero q)) frQ_rf rfl
def sameT (s : TS) (v : TV) (i e k q : Nat) : Bool := decide (gd (sK s i k) v e = gd (sK s i q) v e)
def alk2 (s : TS) (v : TV) (i x e k : Nat) : Nat → Nat := cntU (fun q => x.testBit k && x.testBit q && sameT s v i e k q)
def gpt (s : TS) (v : TV) (i x e : Nat) : Nat → Nat := mxU (fun k => alk2 s v i x e k 6)
theorem bit2 : ∀ x, x < 64 → ∀ k, k < 6 → ∀ q, q < 6 → (((nI x >>> (nI k &&& 31)) &&& (nI x >>> (nI q &&& 31))) &&& nI 1 = nI 1 ↔ (x.testBit k && x.testBit q) = true) := by decide +kernel
theorem lo_gp2 {G : GC} {E : SH} {iv : IV} {lv : LV} {O : Nat} {s : TS} {v : TV} (hO : OutS G E O) (hs : WS s) (hw : WV s v) {i x e : Nat} (hx : x < 64) (h1 : 1 ≤ e) (h20 : e ≤ 20) (hn : v 0 + 21 < 2 ^ 20) (ht : TT O s v i iv) {k : Nat} (hk6 : k < 6) {g : Nat} {Zz : List Frame → Array Value → State → State → Prop} : (∀ j7, AW G mX3_greatestPart (rm 1 0) Zz (fun _ => True) E.1 82 [some (.ref O), some (.int (nI x)), some (.int (nI e)), some (.int (nI g)), some (.int (nI k)), some (.int (nI (alk2 s v i x e k 6))), some (.int (nI 6)), j7] [] E iv lv) → ∀ (c q : Nat) (j7 : Option Value), q + c = 6 → AW G mX3_greatestPart (rm 1 0) Zz (fun _ => True) E.1 18 [some (.ref O), some (.int (nI x)), some (.int (nI e)), some (.int (nI g)), some (.int (nI k)), some (.int (nI (alk2 s v i x e k q))), some (.int (nI q)), j7] [] E iv lv := by
  intro hk c
  induction c with
  | zero =>
    intro q j7 hq
    have hq : q = 6 := by omega
    subst hq
    refine aw_iload dX3_greatestPart_18 rfl ?_
    refine aw_bipush (v := nI 6) dX3_greatestPart_20 kb_6 ?_
    refine aw_icmp_ge (tgt := 82) dX3_greatestPart_22 rfl (fun h22 => ?_) (fun h22 => absurd (nI_le (Nat.le_refl _) (by decide)) h22)
    exact hk j7
  | succ c ih =>
    intro q j7 hq
    have hq6 : q < 6 := by omega
    have g1 := gd_le (WS_K hs (i := i) hk6) (WV_sK hw) (d := e) (by omega)
    have g2 := gd_le (WS_K hs (i := i) hq6) (WV_sK hw) (d := e) (by omega)
    refine aw_iload dX3_greatestPart_18 rfl ?_
    refine aw_bipush (v := nI 6) dX3_greatestPart_20 kb_6 ?_
    refine aw_icmp_ge (tgt := 82) dX3_greatestPart_22 rfl (fun h22 => absurd h22 (nI_ge (by omega) (by decide))) (fun h22 => ?_)
    refine aw_iload_n dX3_greatestPart_25 rfl ?_
    refine aw_iload dX3_greatestPart_26 rfl ?_
    refine aw_ishr dX3_greatestPart_28 ?_
    refine aw_iload_n dX3_greatestPart_29 rfl ?_
    refine aw_iload dX3_greatestPart_30 rfl ?_
    refine aw_ishr dX3_greatestPart_32 ?_
    refine aw_iand dX3_greatestPart_33 ?_
    refine aw_iconst (v := nI 1) dX3_greatestPart_34 kc_1 ?_
    refine aw_iand dX3_greatestPart_35 ?_
    refine aw_iconst (v := nI 1) dX3_greatestPart_36 kc_1 ?_
    refine aw_icmp_ne (tgt := 44) dX3_greatestPart_37 rfl (fun h37 => ?_) (fun h37 => ?_)
    · rw [bit2 x hx k hk6 q hq6] at h37
      refine aw_iconst (v := nI 0) dX3_greatestPart_44 kc_0 ?_
      refine aw_istore (lo' := [_,_,_,_,_,_,_,_]) dX3_greatestPart_45 (Nat.le_of_ble_eq_true rfl) rfl ?_
      refine aw_iload dX3_greatestPart_47 rfl ?_
      refine aw_if_eq (tgt := 76) dX3_greatestPart_49 rfl (fun h49 => ?_) (fun h49 => absurd (by decide) h49)
      refine aw_iinc (v := _) (lo' := [_,_,_,_,_,_,_,_]) dX3_greatestPart_76 rfl (nI_1 q) rfl ?_
      refine aw_goto (tgt := 18) dX3_greatestPart_79 rfl ?_
      have h := ih (q + 1)
      first
        | (have e1 : alk2 s v i x e k (q + 1) = alk2 s v i x e k q + 1 := by
             unfold alk2
             rw [cntU, h37, show sameT s v i e k q = true from decide_eq_true h70]
             rfl
           rw [e1] at h
           exact h _ (by omega))
        | (have e1 : alk2 s v i x e k (q + 1) = alk2 s v i x e k q := by
             unfold alk2
             first
               | (rw [cntU, show sameT s v i e k q = false from decide_eq_false h70, Bool.and_false]; rfl)
               | (rw [cntU, show (x.testBit k && x.testBit q) = false by simpa using h37]; rfl)
           rw [e1] at h
           exact h _ (by omega))
    · rw [bit2 x hx k hk6 q hq6] at h37
      refine aw_iconst (v := nI 1) dX3_greatestPart_40 kc_1 ?_
      refine aw_goto (tgt := 45) dX3_greatestPart_41 rfl ?_
      refine aw_istore (lo' := [_,_,_,_,_,_,_,_]) dX3_greatestPart_45 (Nat.le_of_ble_eq_true rfl) rfl ?_
      refine aw_iload dX3_greatestPart_47 rfl ?_
      refine aw_if_eq (tgt := 76) dX3_greatestPart_49 rfl (fun h49 => absurd h49 (by decide)) (fun h49 => ?_)
      refine aw_aload_n dX3_greatestPart_52 rfl ?_
      refine aw_getR dX3_greatestPart_53 fgX3_27 rfl (OutS.s0 hO) (OutS.r0_3 hO) ?_
      refine aw_iload dX3_greatestPart_56 rfl ?_
      refine aw_aaload dX3_greatestPart_58 (OutS.s23 hO) ⟨by decide, by decide⟩ rfl hk6 (OutS.tot hO hk6).2 ?_
      refine aw_iload_n dX3_greatestPart_59 rfl ?_
      refine aw_iaload dX3_greatestPart_60 (OutS.tot hO hk6).1 rfl (by omega) ?_
      rw [ht k e hk6 h1 h20]
      refine aw_aload_n dX3_greatestPart_61 rfl ?_
      refine aw_getR dX3_greatestPart_62 fgX3_27 rfl (OutS.s0 hO) (OutS.r0_3 hO) ?_
      refine aw_iload dX3_greatestPart_65 rfl ?_
      refine aw_aaload dX3_greatestPart_67 (OutS.s23 hO) ⟨by decide, by decide⟩ rfl hq6 (OutS.tot hO hq6).2 ?_
      refine aw_iload_n dX3_greatestPart_68 rfl ?_
      refine aw_iaload dX3_greatestPart_69 (OutS.tot hO hq6).1 rfl (by omega) ?_
      rw [ht q e hq6 h1 h20]
      refine aw_icmp_ne (tgt := 76) dX3_greatestPart_70 rfl (fun h70 => ?_) (fun h70 => ?_)
      · rw [nI_eq (by omega) (by omega)] at h70
        refine aw_iinc (v := _) (lo' := [_,_,_,_,_,_,_,_]) dX3_greatestPart_76 rfl (nI_1 q) rfl ?_
        refine aw_goto (tgt := 18) dX3_greatestPart_79 rfl ?_
        have h := ih (q + 1)
        first
          | (have e1 : alk2 s v i x e k (q + 1) = alk2 s v i x e k q + 1 := by
               unfold alk2
               rw [cntU, h37, show sameT s v i e k q = true from decide_eq_true h70]
               rfl
             rw [e1] at h
             exact h _ (by omega))
          | (have e1 : alk2 s v i x e k (q + 1) = alk2 s v i x e k q := by
               unfold alk2
               first
                 | (rw [cntU, show sameT s v i e k q = false from decide_eq_false h70, Bool.and_false]; rfl)
                 | (rw [cntU, show (x.testBit k && x.testBit q) = false by simpa using h37]; rfl)
             rw [e1] at h
             exact h _ (by omega))
      · rw [nI_eq (by omega) (by omega)] at h70
        refine aw_iinc (v := _) (lo' := [_,_,_,_,_,_,_,_]) dX3_greatestPart_73 rfl (nI_1 _) rfl ?_
        refine aw_iinc (v := _) (lo' := [_,_,_,_,_,_,_,_]) dX3_greatestPart_76 rfl (nI_1 q) rfl ?_
        refine aw_goto (tgt := 18) dX3_greatestPart_79 rfl ?_
        have h := ih (q + 1)
        first
          | (have e1 : alk2 s v i x e k (q + 1) = alk2 s v i x e k q + 1 := by
               unfold alk2
               rw [cntU, h37, show sameT s v i e k q = true from decide_eq_true h70]
               rfl
             rw [e1] at h
             exact h _ (by omega))
          | (have e1 : alk2 s v i x e k (q + 1) = alk2 s v i x e k q := by
               unfold alk2
               first
                 | (rw [cntU, show sameT s v i e k q = false from decide_eq_false h70, Bool.and_false]; rfl)
                 | (rw [cntU, show (x.testBit k && x.testBit q) = false by simpa using h37]; rfl)
             rw [e1] at h
             exact h _ (by omega))
theorem lo_gp {G : GC} {E : SH} {iv : IV} {lv : LV} {O : Nat} {s : TS} {v : TV} (hO : OutS G E O) (hs : WS s) (hw : WV s v) {i x e : Nat} (hx : x < 64) (h1 : 1 ≤ e) (h20 : e ≤ 20) (hn : v 0 + 21 < 2 ^ 20) (ht : TT O s v i iv) : ∀ (c k : Nat) (j5 j6 j7 : Option Value), k + c = 6 → AW G mX3_greatestPart (rm 1 0) (Z0 G 1 E (fun r i0 l => ∃ w, r = some (.int w) ∧ w = nI (gpt s v i x e 6) ∧ i0 = iv ∧ l = lv)) (fun _ => True) E.1 5 [some (.ref O), some (.int (nI x)), some (.int (nI e)), some (.int (nI (gpt s v i x e k))), some (.int (nI k)), j5, j6, j7] [] E iv lv := by
  intro c
  induction c with
  | zero =>
    intro k j5 j6 j7 hk
    have hk : k = 6 := by omega
    subst hk
    refine aw_iload dX3_greatestPart_5 rfl ?_
    refine aw_bipush (v := nI 6) dX3_greatestPart_7 kb_6 ?_
    refine aw_icmp_ge (tgt := 95) dX3_greatestPart_9 rfl (fun h9 => ?_) (fun h9 => absurd (nI_le (Nat.le_refl _) (by decide)) h9)
    refine aw_iload_n dX3_greatestPart_95 rfl ?_
    refine aw_iret dX3_greatestPart_96 rfl (rb0 (Nat.zero_le _)) ⟨rfl, _, rfl, rfl, rfl, rfl⟩
  | succ c ih =>
    intro k j5 j6 j7 hk
    have g1 : alk2 s v i x e k 6 ≤ 6 := cntU_le 6
    have g2 : gpt s v i x e k ≤ 6 := mxU_le k (fun j _ => cntU_le 6)
    refine aw_iload dX3_greatestPart_5 rfl ?_
    refine aw_bipush (v := nI 6) dX3_greatestPart_7 kb_6 ?_
    refine aw_icmp_ge (tgt := 95) dX3_greatestPart_9 rfl (fun h9 => absurd h9 (nI_ge (by omega) (by decide))) (fun h9 => ?_)
    refine aw_iconst (v := nI 0) dX3_greatestPart_12 kc_0 ?_
    refine aw_istore (lo' := [_,_,_,_,_,_,_,_]) dX3_greatestPart_13 (Nat.le_of_ble_eq_true rfl) rfl ?_
    refine aw_iconst (v := nI 0) dX3_greatestPart_15 kc_0 ?_
    refine aw_istore (lo' := [_,_,_,_,_,_,_,_]) dX3_greatestPart_16 (Nat.le_of_ble_eq_true rfl) rfl ?_
    refine lo_gp2 hO hs hw hx h1 h20 hn ht (k := k) (by omega) (fun j7 => ?_) 6 0 _ (by omega)
    refine aw_iload_n dX3_greatestPart_82 rfl ?_
    refine aw_iload dX3_greatestPart_83 rfl ?_
    refine aw_mmax dX3_greatestPart_85 mjX3_83 st_max in_java_lang_Math cdJ9_max_7cf53 (Nat.le_of_ble_eq_true rfl) (rb0 (by decide)) ?_
    rw [mmax_n (by omega) (by omega)]
    refine aw_istore_n (lo' := [_,_,_,_,_,_,_,_]) dX3_greatestPart_88 (Nat.le_of_ble_eq_true rfl) rfl ?_
    refine aw_iinc (v := _) (lo' := [_,_,_,_,_,_,_,_]) dX3_greatestPart_89 rfl (nI_1 k) rfl ?_
    refine aw_goto (tgt := 5) dX3_greatestPart_92 rfl ?_
    exact ih (k + 1) _ _ _ (by omega)
theorem o_gp {G : GC} {E : SH} {iv : IV} {lv : LV} {O : Nat} {s : TS} {v : TV} (hO : OutS G E O) (hs : WS s) (hw : WV s v) {i x e : Nat} (hx : x < 64) (h1 : 1 ≤ e) (h20 : e ≤ 20) (hn : v 0 + 21 < 2 ^ 20) (ht : TT O s v i iv) : ExI G mX3_greatestPart 1 [.ref O, .int (nI x), .int (nI e)] E iv lv (nI (gpt s v i x e 6)) iv lv := by
  refine spec0_of (lo := [_,_,_,_,_,_,_,_]) (by decide) (Nat.le_of_ble_eq_true rfl) rfl ?_
  refine aw_iconst (v := nI 0) dX3_greatestPart_0 kc_0 ?_
  refine aw_istore_n (lo' := [_,_,_,_,_,_,_,_]) dX3_greatestPart_1 (Nat.le_of_ble_eq_true rfl) rfl ?_
  refine aw_iconst (v := nI 0) dX3_greatestPart_2 kc_0 ?_
  refine aw_istore (lo' := [_,_,_,_,_,_,_,_]) dX3_greatestPart_3 (Nat.le_of_ble_eq_true rfl) rfl ?_
  exact lo_gp hO hs hw hx h1 h20 hn ht 6 0 none none none (by omega)
