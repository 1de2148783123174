def mxU (f : Nat → Nat) : Nat → Nat
  | 0 => 0
  | k + 1 => max (mxU f k) (f k)
def fz (f : Nat → Nat) : Nat → Option Nat
  | 0 => none
  | k + 1 => match fz f k with
    | some d => some d
    | none => if f k = 0 then some k else none
theorem fz_s {f : Nat → Nat} {k d : Nat} (h : fz f k = some d) : fz f (k + 1) = some d := by rw [fz, h]
theorem fz_le {f : Nat → Nat} {k d : Nat} (h : fz f k = some d) : ∀ n, fz f (k + n) = some d
  | 0 => h
  | n + 1 => fz_s (fz_le h n)
theorem fz_hit {f : Nat → Nat} {k : Nat} (h : fz f k = none) (h0 : f k = 0) : fz f (k + 1) = some k := by rw [fz, h]; exact if_pos h0
theorem fz_miss {f : Nat → Nat} {k : Nat} (h : fz f k = none) (h0 : f k ≠ 0) : fz f (k + 1) = none := by rw [fz, h]; exact if_neg h0
theorem mxU_le {f : Nat → Nat} {c : Nat} : ∀ k, (∀ j, j < k → f j ≤ c) → mxU f k ≤ c
  | 0, _ => Nat.zero_le _
  | k + 1, h => by
    have h1 := mxU_le k (fun j hj => h j (by omega))
    have h2 := h k (by omega)
    rw [mxU]
    omega
/-- the grudges d days on -/
def gd (s : TS) (v : TV) (d : Nat) : Nat := tot s (passN s v d)
theorem gd_le {s : TS} {v : TV} (hs : WS s) (hw : WV s v) {d : Nat} (hd : v 0 + d < 2 ^ 20) : gd s v d ≤ 63 := tot_le hs (WV_passN hs hw d hd)
/-- all of the outlook's cells are free -/
def frQ (O : Nat) (i iv : IV) : Prop := ∀ b, (b < O ∨ O + 31 ≤ b) → i b = iv b
theorem frO_Q {O : Nat} {i iv : IV} (h : frO O i iv) : frQ O i iv := fun b hb => h.1 b (by omega) (by omega) (by omega)
theorem frQ_tr {O : Nat} {i j k : IV} (h : frQ O i j) (h2 : frQ O j k) : frQ O i k := fun b hb => (h b hb).trans (h2 b hb)
theorem frQ_rf {O : Nat} {i : IV} : frQ O i i := fun _ _ => rfl
theorem lo_till {G : GC} {E : SH} {iv : IV} {lv : LV} {O : Nat} {s : TS} {v : TV} (hO : OutS G E O) (hs : WS s) (hr : TR (O + 1) s v iv) (hw : WV s v) (hn : v 0 + 121 < 2 ^ 20) : ∀ (c e : Nat) (jv : IV) (j3 : Option Value), e + c = 121 → fz (gd s v) e = none → OS O s v e jv → frQ O jv iv → AW G mX3_daysTillPeace (rm 5 0) (Z0 G 5 E (fun r i0 l => ∃ w, r = some (.int w) ∧ (w = oI (fz (gd s v) 121) ∧ (∀ e, fz (gd s v) 121 = some e → i0 O 6 = nI (mxU (gd s v) (e + 1))) ∧ frQ O i0 iv ∧ l = lv))) (fun _ => True) E.1 8 [some (.ref O), some (.int (nI (mxU (gd s v) e))), some (.int (nI e)), j3] [] E jv lv := by
  intro c
  induction c with
  | zero =>
    intro e jv j3 he hz hj hf
    have he : e = 121 := by omega
    subst he
    refine aw_iload_n dX3_daysTillPeace_8 rfl ?_
    refine aw_bipush (v := nI 120) dX3_daysTillPeace_9 kb_120 ?_
    refine aw_icmp_gt (tgt := 46) dX3_daysTillPeace_11 rfl (fun h11 => ?_) (fun h11 => absurd (nI_lt (by decide) (by decide)) h11)
    refine aw_bipush (v := (-9)) dX3_daysTillPeace_46 kb_m9 ?_
    refine aw_iret dX3_daysTillPeace_48 rfl (rb0 (Nat.zero_le _)) ⟨rfl, _, rfl, by rw [hz]; rfl, fun e he => (by rw [hz] at he; cases he), hf, rfl⟩
  | succ c ih =>
    intro e jv j3 he hz hj hf
    have h1 := gd_le hs hw (d := e) (by omega)
    have h2 : mxU (gd s v) e ≤ 63 := mxU_le e (fun j hj => gd_le hs hw (by omega))
    refine aw_iload_n dX3_daysTillPeace_8 rfl ?_
    refine aw_bipush (v := nI 120) dX3_daysTillPeace_9 kb_120 ?_
    refine aw_icmp_gt (tgt := 46) dX3_daysTillPeace_11 rfl (fun h11 => absurd h11 (nI_nlt (by omega) (by omega))) (fun h11 => ?_)
    refine aw_aload_n dX3_daysTillPeace_14 rfl ?_
    refine aw_xVi [] dX3_daysTillPeace_15 cvX3_79 (OutS.s0 hO) (o_total hO hs hw hj (by omega)) rfl rfl (Nat.le_of_ble_eq_true rfl) (rb0 (by decide)) ?_
    rw [show tot s (passN s v e) = gd s v e from rfl]
    refine aw_istore_n (lo' := [_,_,_,_]) dX3_daysTillPeace_18 (Nat.le_of_ble_eq_true rfl) rfl ?_
    refine aw_iload_n dX3_daysTillPeace_19 rfl ?_
    refine aw_iload_n dX3_daysTillPeace_20 rfl ?_
    refine aw_mmax dX3_daysTillPeace_21 mjX3_83 st_max in_java_lang_Math cdJ9_max_7cf53 (Nat.le_of_ble_eq_true rfl) (rb0 (by decide)) ?_
    rw [mmax_n (by omega) (by omega)]
    refine aw_istore_n (lo' := [_,_,_,_]) dX3_daysTillPeace_24 (Nat.le_of_ble_eq_true rfl) rfl ?_
    refine aw_iload_n dX3_daysTillPeace_25 rfl ?_
    refine aw_if_ne (tgt := 36) dX3_daysTillPeace_26 rfl (fun h26 => ?_) (fun h26 => ?_)
    · rw [← nI_0, nI_eq (by omega) (by omega)] at h26
      refine aw_aload_n dX3_daysTillPeace_36 rfl ?_
      refine aw_sVv [] dX3_daysTillPeace_37 cvX3_76 (OutS.s0 hO) (o_foresee hO hs hw hj (by omega)) rfl rfl (Nat.le_of_ble_eq_true rfl) (rb0 (by decide)) (fun kv klv hk => ?_)
      obtain ⟨k1, k2, rfl⟩ := hk
      refine aw_iinc (v := _) (lo' := [_,_,_,_]) dX3_daysTillPeace_40 rfl (nI_1 e) rfl ?_
      refine aw_goto (tgt := 8) dX3_daysTillPeace_43 rfl ?_
      exact ih (e + 1) kv _ (by omega) (fz_miss hz h26) k1 (frQ_tr (frO_Q k2) hf)
    · rw [← nI_0, nI_eq (by omega) (by omega)] at h26
      refine aw_aload_n dX3_daysTillPeace_29 rfl ?_
      refine aw_iload_n dX3_daysTillPeace_30 rfl ?_
      refine aw_putI dX3_daysTillPeace_31 fpX3_37 rfl (OutS.s0 hO) ?_
      refine aw_iload_n dX3_daysTillPeace_34 rfl ?_
      refine aw_iret dX3_daysTillPeace_35 rfl (rb0 (Nat.zero_le _)) ⟨rfl, _, rfl, ?_⟩
      have e1 := fz_le (fz_hit hz h26) c
      rw [show e + 1 + c = 121 by omega] at e1
      refine ⟨by rw [e1]; rfl, fun x hx => ?_, frQ_tr (fun b hb => va_up_n (by omega)) hf, rfl⟩
      rw [e1] at hx
      cases hx
      rw [va_up_s]
      rfl
theorem o_till {G : GC} {E : SH} {iv : IV} {lv : LV} {O : Nat} {s : TS} {v : TV} (hO : OutS G E O) (hs : WS s) (hr : TR (O + 1) s v iv) (hw : WV s v) (hn : v 0 + 121 < 2 ^ 20) : SpI G mX3_daysTillPeace 5 [.ref O] E iv lv (fun w i0 l => w = oI (fz (gd s v) 121) ∧ (∀ e, fz (gd s v) 121 = some e → i0 O 6 = nI (mxU (gd s v) (e + 1))) ∧ frQ O i0 iv ∧ l = lv) := by
  refine spec0_of (lo := [_,_,_,_]) (by decide) (Nat.le_of_ble_eq_true rfl) rfl ?_
  refine aw_iconst (v := nI 0) dX3_daysTillPeace_0 kc_0 ?_
  refine aw_istore_n (lo' := [_,_,_,_]) dX3_daysTillPeace_1 (Nat.le_of_ble_eq_true rfl) rfl ?_
  refine aw_aload_n dX3_daysTillPeace_2 rfl ?_
  refine aw_sVv [] dX3_daysTillPeace_3 cvX3_73 (OutS.s0 hO) (o_start hO hs hr hw) rfl rfl (Nat.le_of_ble_eq_true rfl) (rb0 (by decide)) (fun kv klv hk => ?_)
  obtain ⟨k1, k2, rfl⟩ := hk
  refine aw_iconst (v := nI 0) dX3_daysTillPeace_6 kc_0 ?_
  refine aw_istore_n (lo' := [_,_,_,_]) dX3_daysTillPeace_7 (Nat.le_of_ble_eq_true rfl) rfl ?_
  exact lo_till hO hs hr hw hn 121 0 kv none (by omega) rfl k1 (frO_Q k2)
def allD (v : TV) (x : Nat) : TV := fun k => if 1 ≤ k ∧ k < 6 then x else v k
theorem WV_allD {s : TS} {v : TV} {x : Nat} (h7 : s.1 ≤ 7) (hw : WV s v) (hx : x ≤ 9) : WV s (allD v x) := by
  refine ⟨fun i hi => ?_, fun c hc => ?_, ?_⟩
  · unfold allD
    rw [if_neg (by omega), if_neg (by omega)]; exact hw.1 i hi
  · unfold allD
    rw [if_pos (by omega)]; exact hx
  · unfold allD
    rw [if_neg (by omega)]; exact hw.2.2
def bst (f : Nat → Nat) : Nat → Nat × Nat
  | 0 => (0, 0)
  | k + 1 => if k = 0 then (0, f 0) else if f k < (bst f k).2 then (k, f k) else bst f k
theorem bst_le {f : Nat → Nat} {c : Nat} : ∀ k, (∀ j, j < k → f j ≤ c) → (bst f k).2 ≤ c ∧ (bst f k).1 ≤ k
  | 0, _ => ⟨Nat.zero_le _, Nat.zero_le _⟩
  | k + 1, h => by
    have h1 := bst_le k (fun j hj => h j (by omega))
    rw [bst]
    split
    · exact ⟨h 0 (by omega), Nat.zero_le _⟩
    · split
      · exact ⟨h k (by omega), by omega⟩
      · exact ⟨h1.1, by omega⟩
def bB (f : Nat → Nat) (k : Nat) : Int32 := if k = 0 then -9 else nI (bst f k).1
theorem bB_9 {f : Nat → Nat} {k : Nat} (h : (bst f k).1 < 2 ^ 31) : bB f k = -9 ↔ k = 0 := by
  unfold bB
  by_cases e : k = 0
  · rw [if_pos e]; exact ⟨fun _ => e, fun _ => rfl⟩
  · rw [if_neg e]
    refine ⟨fun q => ?_, fun q => absurd q e⟩
    have h1 : (nI (bst f k).1).toInt = -9 := by rw [q]; decide
    rw [nI_toInt h] at h1
    omega
def fAsh (s : TS) (v : TV) (n x : Nat) : Nat := gd s (allD v x) n
/-- the aside town, with any deeps -/
def anyD (O : Nat) (s : TS) (v : TV) (iv : IV) : Prop := ∃ u : TV, TR (O + 1) s u iv ∧ (∀ k, (k = 0 ∨ 6 ≤ k) → u k = v k)
theorem TR_allD {O x : Nat} {s : TS} {v : TV} {iv i : IV} (h : anyD O s v iv) (hi : ∀ b, b ≠ O + 1 + 13 → i b = iv b) (hx : ∀ c, c < 5 → i (O + 1 + 13) c = nI x) : TR (O + 1) s (allD v x) i := by
  obtain ⟨u, h, hu⟩ := h
  refine ⟨by rw [hi _ (by omega)]; exact h.1, ?_, fun j hj => ?_, fun c hc => ?_⟩
  · rw [hi _ (by omega), h.2.1, hu 0 (by omega)]
    unfold allD
    rw [if_neg (by omega)]
  · have g := h.2.2.1 j hj
    rw [hi _ (by omega), hi _ (by omega), hi _ (by omega), hi _ (by omega), hi _ (by omega)]
    unfold allD
    rw [if_neg (by omega), if_neg (by omega), ← hu _ (by omega), ← hu _ (by omega)]
    exact g
  · rw [hx c hc]
    unfold allD
    rw [if_pos (by omega)]
theorem lo_depth {G : GC} {E : SH} {iv : IV} {lv : LV} {O : Nat} {s : TS} {v : TV} (hO : OutS G E O) (hs : WS s) (hr : TR (O + 1) s v iv) (hw : WV s v) {n : Nat} (hn : v 0 + n < 2 ^ 20) : ∀ (c e : Nat) (jv : IV) (j4 : Option Value), e + c = 10 → (e ≠ 0 → jv O 6 = nI (bst (fAsh s v n) e).2) → anyD O s v jv → frQ O jv iv → AW G mX3_bestDepth (rm 6 0) (Z0 G 6 E (fun r i0 l => ∃ w, r = some (.int w) ∧ (w = nI (bst (fAsh s v n) 10).1 ∧ i0 O 6 = nI (bst (fAsh s v n) 10).2 ∧ frQ O i0 iv ∧ l = lv))) (fun _ => True) E.1 5 [some (.ref O), some (.int (nI n)), some (.int (bB (fAsh s v n) e)), some (.int (nI e)), j4] [] E jv lv := by
  have h7 := hs.1
  have hfl : ∀ x, x ≤ 9 → fAsh s v n x ≤ 63 := fun x hx => gd_le hs (WV_allD h7 hw hx) (by unfold allD; rw [if_neg (by omega)]; exact hn)
  intro c
  induction c with
  | zero =>
    intro e jv j4 he h6 ha hf
    have he : e = 10 := by omega
    subst he
    refine aw_iload_n dX3_bestDepth_5 rfl ?_
    refine aw_bipush (v := nI 9) dX3_bestDepth_6 kb_9 ?_
    refine aw_icmp_gt (tgt := 58) dX3_bestDepth_8 rfl (fun h8 => ?_) (fun h8 => absurd (nI_lt (by decide) (by decide)) h8)
    refine aw_iload_n dX3_bestDepth_58 rfl ?_
    refine aw_iret dX3_bestDepth_59 rfl (rb0 (Nat.zero_le _)) ⟨rfl, _, rfl, rfl, h6 (by decide), hf, rfl⟩
  | succ c ih =>
    intro e jv j4 he h6 ha hf
    have hb := bst_le (f := fAsh s v n) e (fun j hj => hfl j (by omega))
    have h1 := hfl e (by omega)
    refine aw_iload_n dX3_bestDepth_5 rfl ?_
    refine aw_bipush (v := nI 9) dX3_bestDepth_6 kb_9 ?_
    refine aw_icmp_gt (tgt := 58) dX3_bestDepth_8 rfl (fun h8 => absurd h8 (nI_nlt (by omega) (by omega))) (fun h8 => ?_)
    refine aw_aload_n dX3_bestDepth_11 rfl ?_
    refine aw_getR dX3_bestDepth_12 fgX3_12 rfl (OutS.s0 hO) (OutS.r0_0 hO) ?_
    refine aw_getR dX3_bestDepth_15 fgX3_89 rfl (TownS.s0 (OutS.aside hO)) (TownS.r0_9 (OutS.aside hO)) ?_
    refine aw_iload_n dX3_bestDepth_18 rfl ?_
    refine aw_xSv [_, _] dX3_bestDepth_19 csX3_92 (e_fill (TownS.s13 (OutS.aside hO)) (by decide)) rfl rfl (Nat.le_of_ble_eq_true rfl) (rb0 (by decide)) ?_
    have hra := TR_allD (x := e) (i := va_up jv (O + 1 + 13) (fun i => if i < 5 then nI e else jv (O + 1 + 13) i)) ha (fun b hb => va_up_n hb) (fun c hc => by rw [va_up_s]; exact if_pos hc)
    refine aw_aload_n dX3_bestDepth_22 rfl ?_
    refine aw_iload_n dX3_bestDepth_23 rfl ?_
    refine aw_sVi [_] dX3_bestDepth_24 cvX3_98 (OutS.s0 hO) (o_behind hO hs hra (WV_allD h7 hw (by omega)) (by unfold allD; rw [if_neg (by omega)]; exact hn)) rfl rfl (Nat.le_of_ble_eq_true rfl) (rb0 (by decide)) (fun kw kv klv hk => ?_)
    obtain ⟨k0, k1, k2, rfl⟩ := hk
    subst k0
    refine aw_istore (lo' := [_,_,_,_,_]) dX3_bestDepth_27 (Nat.le_of_ble_eq_true rfl) rfl ?_
    refine aw_iload_n dX3_bestDepth_29 rfl ?_
    refine aw_bipush (v := (-9)) dX3_bestDepth_30 kb_m9 ?_
    refine aw_icmp_eq (tgt := 44) dX3_bestDepth_32 rfl (fun h32 => ?_) (fun h32 => ?_)
    · rw [bB_9 (by omega)] at h32
      refine aw_iload_n dX3_bestDepth_44 rfl ?_
      refine aw_istore_n (lo' := [_,_,_,_,_]) dX3_bestDepth_45 (Nat.le_of_ble_eq_true rfl) rfl ?_
      refine aw_aload_n dX3_bestDepth_46 rfl ?_
      refine aw_iload dX3_bestDepth_47 rfl ?_
      refine aw_putI dX3_bestDepth_49 fpX3_37 rfl (OutS.s0 hO) ?_
      refine aw_iinc (v := _) (lo' := [_,_,_,_,_]) dX3_bestDepth_52 rfl (nI_1 e) rfl ?_
      refine aw_goto (tgt := 5) dX3_bestDepth_55 rfl ?_
      have hfk : frQ O kv iv := frQ_tr (frO_Q k2) (frQ_tr (fun b hb => va_up_n (by omega)) hf)
      have hak : ∀ x : Int32, anyD O s v (va_up kv O (upd (kv O) 6 x)) := fun x => ⟨allD v e, TR_of k1.1 (by rw [va_up_n (by omega)]) (by rw [va_up_n (by omega)]) (fun b h1 h2 => va_up_n (by omega)), fun k hk => by unfold allD; rw [if_neg (by omega)]⟩
      first
        | (have hb9 : ¬ e = 0 := fun z => h32 ((bB_9 (by omega)).mpr z)
           have e1 : bst (fAsh s v n) (e + 1) = bst (fAsh s v n) e := by rw [bst, if_neg hb9, if_neg (by omega)]
           have h := ih (e + 1) kv (some (.int (nI (fAsh s v n e)))) (by omega) (fun _ => by rw [e1, k2.2, va_up_n (by omega)]; exact h6 hb9) ⟨allD v e, k1.1, fun k hk => by unfold allD; rw [if_neg (by omega)]⟩ hfk
           rw [show bB (fAsh s v n) (e + 1) = bB (fAsh s v n) e by unfold bB; rw [if_neg (by omega), if_neg hb9, e1]] at h
           exact h)
        | (have e1 : bst (fAsh s v n) (e + 1) = (e, fAsh s v n e) := by
             rw [bst]
             first
               | (rw [if_pos h32]; subst h32; rfl)
               | (have hb9 : ¬ e = 0 := fun z => h32 ((bB_9 (by omega)).mpr z)
                  rw [if_neg hb9, if_pos (by omega)])
           have h := ih (e + 1) (va_up kv O (upd (kv O) 6 (nI (fAsh s v n e)))) (some (.int (nI (fAsh s v n e)))) (by omega) (fun _ => by rw [e1, va_up_s]; rfl) (hak _) (frQ_tr (fun b hb => va_up_n (by omega)) hfk)
           rw [show bB (fAsh s v n) (e + 1) = nI e by unfold bB; rw [if_neg (by omega), e1]] at h
           exact h)
    · refine aw_iload dX3_bestDepth_35 rfl ?_
      refine aw_aload_n dX3_bestDepth_37 rfl ?_
      refine aw_getI dX3_bestDepth_38 fgX3_37 rfl (OutS.s0 hO) ?_
      rw [k2.2, va_up_n (by omega), h6 (fun z => h32 ((bB_9 (by omega)).mpr z))]
      refine aw_icmp_ge (tgt := 52) dX3_bestDepth_41 rfl (fun h41 => ?_) (fun h41 => ?_)
      · rw [show tot s (passN s (allD v e) n) = fAsh s v n e from rfl, nI_leI (by omega) (by omega)] at h41
        refine aw_iinc (v := _) (lo' := [_,_,_,_,_]) dX3_bestDepth_52 rfl (nI_1 e) rfl ?_
        refine aw_goto (tgt := 5) dX3_bestDepth_55 rfl ?_
        have hfk : frQ O kv iv := frQ_tr (frO_Q k2) (frQ_tr (fun b hb => va_up_n (by omega)) hf)
        have hak : ∀ x : Int32, anyD O s v (va_up kv O (upd (kv O) 6 x)) := fun x => ⟨allD v e, TR_of k1.1 (by rw [va_up_n (by omega)]) (by rw [va_up_n (by omega)]) (fun b h1 h2 => va_up_n (by omega)), fun k hk => by unfold allD; rw [if_neg (by omega)]⟩
        first
          | (have hb9 : ¬ e = 0 := fun z => h32 ((bB_9 (by omega)).mpr z)
             have e1 : bst (fAsh s v n) (e + 1) = bst (fAsh s v n) e := by rw [bst, if_neg hb9, if_neg (by omega)]
             have h := ih (e + 1) kv (some (.int (nI (fAsh s v n e)))) (by omega) (fun _ => by rw [e1, k2.2, va_up_n (by omega)]; exact h6 hb9) ⟨allD v e, k1.1, fun k hk => by unfold allD; rw [if_neg (by omega)]⟩ hfk
             rw [show bB (fAsh s v n) (e + 1) = bB (fAsh s v n) e by unfold bB; rw [if_neg (by omega), if_neg hb9, e1]] at h
             exact h)
          | (have e1 : bst (fAsh s v n) (e + 1) = (e, fAsh s v n e) := by
               rw [bst]
               first
                 | (rw [if_pos h32]; subst h32; rfl)
                 | (have hb9 : ¬ e = 0 := fun z => h32 ((bB_9 (by omega)).mpr z)
                    rw [if_neg hb9, if_pos (by omega)])
             have h := ih (e + 1) (va_up kv O (upd (kv O) 6 (nI (fAsh s v n e)))) (some (.int (nI (fAsh s v n e)))) (by omega) (fun _ => by rw [e1, va_up_s]; rfl) (hak _) (frQ_tr (fun b hb => va_up_n (by omega)) hfk)
             rw [show bB (fAsh s v n) (e + 1) = nI e by unfold bB; rw [if_neg (by omega), e1]] at h
             exact h)
      · rw [show tot s (passN s (allD v e) n) = fAsh s v n e from rfl, nI_leI (by omega) (by omega)] at h41
        refine aw_iload_n dX3_bestDepth_44 rfl ?_
        refine aw_istore_n (lo' := [_,_,_,_,_]) dX3_bestDepth_45 (Nat.le_of_ble_eq_true rfl) rfl ?_
        refine aw_aload_n dX3_bestDepth_46 rfl ?_
        refine aw_iload dX3_bestDepth_47 rfl ?_
        refine aw_putI dX3_bestDepth_49 fpX3_37 rfl (OutS.s0 hO) ?_
        refine aw_iinc (v := _) (lo' := [_,_,_,_,_]) dX3_bestDepth_52 rfl (nI_1 e) rfl ?_
        refine aw_goto (tgt := 5) dX3_bestDepth_55 rfl ?_
        have hfk : frQ O kv iv := frQ_tr (frO_Q k2) (frQ_tr (fun b hb => va_up_n (by omega)) hf)
        have hak : ∀ x : Int32, anyD O s v (va_up kv O (upd (kv O) 6 x)) := fun x => ⟨allD v e, TR_of k1.1 (by rw [va_up_n (by omega)]) (by rw [va_up_n (by omega)]) (fun b h1 h2 => va_up_n (by omega)), fun k hk => by unfold allD; rw [if_neg (by omega)]⟩
        first
          | (have hb9 : ¬ e = 0 := fun z => h32 ((bB_9 (by omega)).mpr z)
             have e1 : bst (fAsh s v n) (e + 1) = bst (fAsh s v n) e := by rw [bst, if_neg hb9, if_neg (by omega)]
             have h := ih (e + 1) kv (some (.int (nI (fAsh s v n e)))) (by omega) (fun _ => by rw [e1, k2.2, va_up_n (by omega)]; exact h6 hb9) ⟨allD v e, k1.1, fun k hk => by unfold allD; rw [if_neg (by omega)]⟩ hfk
             rw [show bB (fAsh s v n) (e + 1) = bB (fAsh s v n) e by unfold bB; rw [if_neg (by omega), if_neg hb9, e1]] at h
             exact h)
          | (have e1 : bst (fAsh s v n) (e + 1) = (e, fAsh s v n e) := by
               rw [bst]
               first
                 | (rw [if_pos h32]; subst h32; rfl)
                 | (have hb9 : ¬ e = 0 := fun z => h32 ((bB_9 (by omega)).mpr z)
                    rw [if_neg hb9, if_pos (by omega)])
             have h := ih (e + 1) (va_up kv O (upd (kv O) 6 (nI (fAsh s v n e)))) (some (.int (nI (fAsh s v n e)))) (by omega) (fun _ => by rw [e1, va_up_s]; rfl) (hak _) (frQ_tr (fun b hb => va_up_n (by omega)) hfk)
             rw [show bB (fAsh s v n) (e + 1) = nI e by unfold bB; rw [if_neg (by omega), e1]] at h
             exact h)
theorem o_depth {G : GC} {E : SH} {iv : IV} {lv : LV} {O : Nat} {s : TS} {v : TV} (hO : OutS G E O) (hs : WS s) (hr : TR (O + 1) s v iv) (hw : WV s v) {n : Nat} (hn : v 0 + n < 2 ^ 20) : SpI G mX3_bestDepth 6 [.ref O, .int (nI n)] E iv lv (fun w i0 l => w = nI (bst (fAsh s v n) 10).1 ∧ i0 O 6 = nI (bst (fAsh s v n) 10).2 ∧ frQ O i0 iv ∧ l = lv) := by
  refine spec0_of (lo := [_,_,_,_,_]) (by decide) (Nat.le_of_ble_eq_true rfl) rfl ?_
  refine aw_bipush (v := (-9)) dX3_bestDepth_0 kb_m9 ?_
  refine aw_istore_n (lo' := [_,_,_,_,_]) dX3_bestDepth_2 (Nat.le_of_ble_eq_true rfl) rfl ?_
  refine aw_iconst (v := nI 0) dX3_bestDepth_3 kc_0 ?_
  refine aw_istore_n (lo' := [_,_,_,_,_]) dX3_bestDepth_4 (Nat.le_of_ble_eq_true rfl) rfl ?_
  exact lo_depth hO hs hr hw hn 10 0 iv none (by omega) (fun h => absurd rfl h) ⟨v, hr, fun _ _ => rfl⟩ frQ_rf
def mvb (g : Nat → Nat) (l0 : Nat) : Nat → Option Nat × Nat
  | 0 => (none, l0)
  | k + 1 => if g k < (mvb g l0 k).2 then (some k, g k) else mvb g l0 k
theorem mvb_le {g : Nat → Nat} {l0 c : Nat} (h0 : l0 ≤ c) : ∀ k, (∀ j, j < k → g j ≤ c) → (mvb g l0 k).2 ≤ c
  | 0, _ => h0
  | k + 1, h => by
    have h1 := mvb_le h0 k (fun j hj => h j (by omega))
    rw [mvb]
    split
    · exact h k (by omega)
    · exact h1
theorem mvb_lt {g : Nat → Nat} {l0 : Nat} : ∀ k j, (mvb g l0 k).1 = some j → j < k
  | 0, j, h => by cases h
  | k + 1, j, h => by
    rw [mvb] at h
    split at h
    · cases h; omega
    · have := mvb_lt k j h
      omega
/-- one of them goes to a street -/
def mvv (v : TV) (j : Nat) : TV := va_up v (13 + j / 5) (j % 5)
def fMv (s : TS) (v : TV) (n j : Nat) : Nat := gd s (mvv v j) n
def mvI (q : Option Nat) : Int32 := match q with
  | none => -9
  | some j => nI (10 * (j / 5) + j % 5)
theorem WV_mvv {s : TS} {v : TV} {j : Nat} (h7 : s.1 ≤ 7) (hw : WV s v) (hj : j < 5 * s.1) : WV s (mvv v j) := by
  unfold mvv
  refine ⟨fun i hi => ?_, fun c hc => ?_, ?_⟩
  · rw [va_up_n (show 6 + i ≠ 13 + j / 5 by omega)]
    refine ⟨(hw.1 i hi).1, ?_⟩
    by_cases e : i = j / 5
    · subst e; rw [va_up_s]; omega
    · rw [va_up_n (by omega)]; exact (hw.1 i hi).2
  · rw [va_up_n (by omega)]; exact hw.2.1 c hc
  · rw [va_up_n (by omega)]; exact hw.2.2
/-- the aside town, but one's street is any -/
def anyS (O : Nat) (s : TS) (v : TV) (i : Nat) (iv : IV) : Prop := ∃ u : TV, TR (O + 1) s u iv ∧ (∀ k, k ≠ 13 + i → u k = v k)
theorem TR_anyS {O i x : Nat} {s : TS} {v : TV} {iv : IV} (h7 : s.1 ≤ 7) (hi : i < s.1) (h : anyS O s v i iv) : TR (O + 1) s (va_up v (13 + i) x) (va_up iv (O + 1 + 12) (upd (iv (O + 1 + 12)) i (nI x))) := by
  obtain ⟨u, h, hu⟩ := h
  have e : va_up v (13 + i) x = va_up u (13 + i) x := by
    funext k
    by_cases e : k = 13 + i
    · subst e; rw [va_up_s, va_up_s]
    · rw [va_up_n e, va_up_n e, hu k e]
  rw [e]
  exact TR_st h7 hi h
theorem lo_move2 {G : GC} {E : SH} {iv : IV} {lv : LV} {O : Nat} {s : TS} {v : TV} (hO : OutS G E O) (hs : WS s) (hr : TR (O + 1) s v iv) (hw : WV s v) {n : Nat} (hn : v 0 + n < 2 ^ 20) {i : Nat} (hi : i < s.1) {Zz : List Frame → Array Value → State → State → Prop} : (∀ (jv : IV) (j7 : Option Value), anyS O s v i jv → frQ O jv iv → AW G mX3_bestMove (rm 6 0) Zz (fun _ => True) E.1 88 [some (.ref O), some (.int (nI n)), some (.int (mvI (mvb (fMv s v n) (gd s v n) (5 * i + 5)).1)), some (.int (nI (mvb (fMv s v n) (gd s v n) (5 * i + 5)).2)), some (.int (nI i)), some (.int (nI (v (13 + i)))), some (.int (nI 5)), j7] [] E jv lv) → ∀ (c e : Nat) (jv : IV) (j7 : Option Value), e + c = 5 → anyS O s v i jv → frQ O jv iv → AW G mX3_bestMove (rm 6 0) Zz (fun _ => True) E.1 39 [some (.ref O), some (.int (nI n)), some (.int (mvI (mvb (fMv s v n) (gd s v n) (5 * i + e)).1)), some (.int (nI (mvb (fMv s v n) (gd s v n) (5 * i + e)).2)), some (.int (nI i)), some (.int (nI (v (13 + i)))), some (.int (nI e)), j7] [] E jv lv := by
  have h7 := hs.1
  have hfl : ∀ j, j < 5 * s.1 → fMv s v n j ≤ 63 := fun j hj => gd_le hs (WV_mvv h7 hw hj) (by unfold mvv; rw [va_up_n (by omega)]; exact hn)
  have h00 : gd s v n ≤ 63 := gd_le hs hw hn
  intro hk c
  induction c with
  | zero =>
    intro e jv j7 he ha hf
    have he : e = 5 := by omega
    subst he
    refine aw_iload dX3_bestMove_39 rfl ?_
    refine aw_iconst (v := nI 5) dX3_bestMove_41 kc_5 ?_
    refine aw_icmp_ge (tgt := 88) dX3_bestMove_42 rfl (fun h42 => ?_) (fun h42 => absurd (nI_le (Nat.le_refl _) (by decide)) h42)
    exact hk jv j7 ha hf
  | succ c ih =>
    intro e jv j7 he ha hf
    have h1 := hfl (5 * i + e) (by omega)
    have h2 := mvb_le h00 (5 * i + e) (fun j hj => hfl j (by omega))
    have hmv : mvv v (5 * i + e) = va_up v (13 + i) e := by unfold mvv; rw [show (5 * i + e) / 5 = i by omega, show (5 * i + e) % 5 = e by omega]
    have hwm := WV_mvv h7 hw (j := 5 * i + e) (by omega)
    refine aw_iload dX3_bestMove_39 rfl ?_
    refine aw_iconst (v := nI 5) dX3_bestMove_41 kc_5 ?_
    refine aw_icmp_ge (tgt := 88) dX3_bestMove_42 rfl (fun h42 => absurd h42 (nI_ge (by omega) (by decide))) (fun h42 => ?_)
    refine aw_aload_n dX3_bestMove_45 rfl ?_
    refine aw_getR dX3_bestMove_46 fgX3_12 rfl (OutS.s0 hO) (OutS.r0_0 hO) ?_
    refine aw_getR dX3_bestMove_49 fgX3_101 rfl (TownS.s0 (OutS.aside hO)) (TownS.r0_8 (OutS.aside hO)) ?_
    refine aw_iload dX3_bestMove_52 rfl ?_
    refine aw_iload dX3_bestMove_54 rfl ?_
    refine aw_iastore dX3_bestMove_56 (TownS.s12 (OutS.aside hO)) rfl (by omega) ?_
    refine aw_aload_n dX3_bestMove_57 rfl ?_
    refine aw_iload_n dX3_bestMove_58 rfl ?_
    refine aw_sVi [_] dX3_bestMove_59 cvX3_98 (OutS.s0 hO) (o_behind hO hs (v := mvv v (5 * i + e)) (n := n) (by rw [hmv]; exact TR_anyS h7 hi ha) hwm (by unfold mvv; rw [va_up_n (by omega)]; exact hn)) rfl rfl (Nat.le_of_ble_eq_true rfl) (rb0 (by decide)) (fun kw kv klv hk => ?_)
    obtain ⟨k0, k1, k2, rfl⟩ := hk
    subst k0
    rw [show tot s (passN s (mvv v (5 * i + e)) n) = fMv s v n (5 * i + e) from rfl]
    have hak : anyS O s v i kv := ⟨_, k1.1, fun k hk => by rw [hmv, va_up_n hk]⟩
    have hfk : frQ O kv iv := frQ_tr (frO_Q k2) (frQ_tr (fun b hb => va_up_n (by omega)) hf)
    refine aw_istore (lo' := [_,_,_,_,_,_,_,_]) dX3_bestMove_62 (Nat.le_of_ble_eq_true rfl) rfl ?_
    refine aw_iload dX3_bestMove_64 rfl ?_
    refine aw_iload_n dX3_bestMove_66 rfl ?_
    refine aw_icmp_ge (tgt := 82) dX3_bestMove_67 rfl (fun h67 => ?_) (fun h67 => ?_)
    · rw [nI_leI (by omega) (by omega)] at h67
      refine aw_iinc (v := _) (lo' := [_,_,_,_,_,_,_,_]) dX3_bestMove_82 rfl (nI_1 e) rfl ?_
      refine aw_goto (tgt := 39) dX3_bestMove_85 rfl ?_
      have h := ih (e + 1) kv (some (.int (nI (fMv s v n (5 * i + e))))) (by omega) hak hfk
      rw [show 5 * i + (e + 1) = 5 * i + e + 1 by omega] at h
      first
        | (rw [show mvb (fMv s v n) (gd s v n) (5 * i + e + 1) = mvb (fMv s v n) (gd s v n) (5 * i + e) from if_neg (by omega)] at h
           exact h)
        | (rw [show mvb (fMv s v n) (gd s v n) (5 * i + e + 1) = (some (5 * i + e), fMv s v n (5 * i + e)) from if_pos (by omega)] at h
           rw [show mvI (some (5 * i + e)) = nI (10 * i + e) by unfold mvI; simp only; rw [show (5 * i + e) / 5 = i by omega, show (5 * i + e) % 5 = e by omega]] at h
           exact h)
    · rw [nI_leI (by omega) (by omega)] at h67
      refine aw_iload dX3_bestMove_70 rfl ?_
      refine aw_istore_n (lo' := [_,_,_,_,_,_,_,_]) dX3_bestMove_72 (Nat.le_of_ble_eq_true rfl) rfl ?_
      refine aw_bipush (v := nI 10) dX3_bestMove_73 kb_10 ?_
      refine aw_iload dX3_bestMove_75 rfl ?_
      refine aw_imul dX3_bestMove_77 ?_
      rw [pk_mul]
      refine aw_iload dX3_bestMove_78 rfl ?_
      refine aw_iadd dX3_bestMove_80 ?_
      rw [nI_add]
      refine aw_istore_n (lo' := [_,_,_,_,_,_,_,_]) dX3_bestMove_81 (Nat.le_of_ble_eq_true rfl) rfl ?_
      refine aw_iinc (v := _) (lo' := [_,_,_,_,_,_,_,_]) dX3_bestMove_82 rfl (nI_1 e) rfl ?_
      refine aw_goto (tgt := 39) dX3_bestMove_85 rfl ?_
      have h := ih (e + 1) kv (some (.int (nI (fMv s v n (5 * i + e))))) (by omega) hak hfk
      rw [show 5 * i + (e + 1) = 5 * i + e + 1 by omega] at h
      first
        | (rw [show mvb (fMv s v n) (gd s v n) (5 * i + e + 1) = mvb (fMv s v n) (gd s v n) (5 * i + e) from if_neg (by omega)] at h
           exact h)
        | (rw [show mvb (fMv s v n) (gd s v n) (5 * i + e + 1) = (some (5 * i + e), fMv s v n (5 * i + e)) from if_pos (by omega)] at h
           rw [show mvI (some (5 * i + e)) = nI (10 * i + e) by unfold mvI; simp only; rw [show (5 * i + e) / 5 = i by omega, show (5 * i + e) % 5 = e by omega]] at h
           exact h)
theorem lo_move {G : GC} {E : SH} {iv : IV} {lv : LV} {O : Nat} {s : TS} {v : TV} (hO : OutS G E O) (hs : WS s) (hr : TR (O + 1) s v iv) (hw : WV s v) {n : Nat} (hn : v 0 + n < 2 ^ 20) : ∀ (c i : Nat) (jv : IV) (j5 j6 j7 : Option Value), i + c = s.1 → TR (O + 1) s v jv → frQ O jv iv → AW G mX3_bestMove (rm 6 0) (Z0 G 6 E (fun r i0 l => ∃ w, r = some (.int w) ∧ (w = mvI (mvb (fMv s v n) (gd s v n) (5 * s.1)).1 ∧ i0 O 6 = nI (mvb (fMv s v n) (gd s v n) (5 * s.1)).2 ∧ frQ O i0 iv ∧ l = lv))) (fun _ => True) E.1 12 [some (.ref O), some (.int (nI n)), some (.int (mvI (mvb (fMv s v n) (gd s v n) (5 * i)).1)), some (.int (nI (mvb (fMv s v n) (gd s v n) (5 * i)).2)), some (.int (nI i)), j5, j6, j7] [] E jv lv := by
  have h7 := hs.1
  have hfl : ∀ j, j < 5 * s.1 → fMv s v n j ≤ 63 := fun j hj => gd_le hs (WV_mvv h7 hw hj) (by unfold mvv; rw [va_up_n (by omega)]; exact hn)
  have h00 : gd s v n ≤ 63 := gd_le hs hw hn
  intro c
  induction c with
  | zero =>
    intro i jv j5 j6 j7 hi hj hf
    have hi : i = s.1 := by omega
    subst hi
    refine aw_iload dX3_bestMove_12 rfl ?_
    refine aw_aload_n dX3_bestMove_14 rfl ?_
    refine aw_getR dX3_bestMove_15 fgX3_12 rfl (OutS.s0 hO) (OutS.r0_0 hO) ?_
    refine aw_getI dX3_bestMove_18 fgX3_55 rfl (TownS.s0 (OutS.aside hO)) ?_
    refine aw_icmp_ge (tgt := 106) dX3_bestMove_21 rfl (fun h21 => ?_) (fun h21 => absurd (by rw [hj.1]; exact nI_le (Nat.le_refl _) (by omega)) h21)
    refine aw_aload_n dX3_bestMove_106 rfl ?_
    refine aw_iload_n dX3_bestMove_107 rfl ?_
    refine aw_putI dX3_bestMove_108 fpX3_37 rfl (OutS.s0 hO) ?_
    refine aw_iload_n dX3_bestMove_111 rfl ?_
    refine aw_iret dX3_bestMove_112 rfl (rb0 (Nat.zero_le _)) ⟨rfl, _, rfl, rfl, by rw [va_up_s]; rfl, frQ_tr (fun b hb => va_up_n (by omega)) hf, rfl⟩
  | succ c ih =>
    intro i jv j5 j6 j7 hi hj hf
    refine aw_iload dX3_bestMove_12 rfl ?_
    refine aw_aload_n dX3_bestMove_14 rfl ?_
    refine aw_getR dX3_bestMove_15 fgX3_12 rfl (OutS.s0 hO) (OutS.r0_0 hO) ?_
    refine aw_getI dX3_bestMove_18 fgX3_55 rfl (TownS.s0 (OutS.aside hO)) ?_
    refine aw_icmp_ge (tgt := 106) dX3_bestMove_21 rfl (fun h21 => absurd h21 (by rw [hj.1]; exact nI_ge (by omega) (by omega))) (fun h21 => ?_)
    refine aw_aload_n dX3_bestMove_24 rfl ?_
    refine aw_getR dX3_bestMove_25 fgX3_12 rfl (OutS.s0 hO) (OutS.r0_0 hO) ?_
    refine aw_getR dX3_bestMove_28 fgX3_101 rfl (TownS.s0 (OutS.aside hO)) (TownS.r0_8 (OutS.aside hO)) ?_
    refine aw_iload dX3_bestMove_31 rfl ?_
    refine aw_iaload dX3_bestMove_33 (TownS.s12 (OutS.aside hO)) rfl (by omega) ?_
    rw [(hj.2.2.1 i (by omega)).2.2.2.2]
    refine aw_istore (lo' := [_,_,_,_,_,_,_,_]) dX3_bestMove_34 (Nat.le_of_ble_eq_true rfl) rfl ?_
    refine aw_iconst (v := nI 0) dX3_bestMove_36 kc_0 ?_
    refine aw_istore (lo' := [_,_,_,_,_,_,_,_]) dX3_bestMove_37 (Nat.le_of_ble_eq_true rfl) rfl ?_
    refine lo_move2 hO hs hr hw hn (i := i) (by omega) (fun kv j7 ha hk => ?_) 5 0 jv j7 (by omega) ⟨v, hj, fun _ _ => rfl⟩ hf
    refine aw_aload_n dX3_bestMove_88 rfl ?_
    refine aw_getR dX3_bestMove_89 fgX3_12 rfl (OutS.s0 hO) (OutS.r0_0 hO) ?_
    refine aw_getR dX3_bestMove_92 fgX3_101 rfl (TownS.s0 (OutS.aside hO)) (TownS.r0_8 (OutS.aside hO)) ?_
    refine aw_iload dX3_bestMove_95 rfl ?_
    refine aw_iload dX3_bestMove_97 rfl ?_
    refine aw_iastore dX3_bestMove_99 (TownS.s12 (OutS.aside hO)) rfl (by omega) ?_
    refine aw_iinc (v := _) (lo' := [_,_,_,_,_,_,_,_]) dX3_bestMove_100 rfl (nI_1 i) rfl ?_
    refine aw_goto (tgt := 12) dX3_bestMove_103 rfl ?_
    have hb := TR_anyS h7 (i := i) (x := v (13 + i)) (by omega) ha
    rw [up_id] at hb
    have h := ih (i + 1) _ (some (.int (nI (v (13 + i))))) (some (.int (nI 5))) j7 (by omega) hb (frQ_tr (fun b hb => va_up_n (by omega)) hk)
    rw [show 5 * (i + 1) = 5 * i + 5 by omega] at h
    exact h
theorem o_move {G : GC} {E : SH} {iv : IV} {lv : LV} {O : Nat} {s : TS} {v : TV} (hO : OutS G E O) (hs : WS s) (hr : TR (O + 1) s v iv) (hw : WV s v) {n : Nat} (hn : v 0 + n < 2 ^ 20) : SpI G mX3_bestMove 6 [.ref O, .int (nI n)] E iv lv (fun w i0 l => w = mvI (mvb (fMv s v n) (gd s v n) (5 * s.1)).1 ∧ i0 O 6 = nI (mvb (fMv s v n) (gd s v n) (5 * s.1)).2 ∧ frQ O i0 iv ∧ l = lv) := by
  refine spec0_of (lo := [_,_,_,_,_,_,_,_]) (by decide) (Nat.le_of_ble_eq_true rfl) rfl ?_
  refine aw_bipush (v := (-9)) dX3_bestMove_0 kb_m9 ?_
  refine aw_istore_n (lo' := [_,_,_,_,_,_,_,_]) dX3_bestMove_2 (Nat.le_of_ble_eq_true rfl) rfl ?_
  refine aw_aload_n dX3_bestMove_3 rfl ?_
  refine aw_iload_n dX3_bestMove_4 rfl ?_
  refine aw_sVi [_] dX3_bestMove_5 cvX3_98 (OutS.s0 hO) (o_behind hO hs hr hw hn) rfl rfl (Nat.le_of_ble_eq_true rfl) (rb0 (by decide)) (fun kw kv klv hk => ?_)
  obtain ⟨k0, k1, k2, rfl⟩ := hk
  subst k0
  refine aw_istore_n (lo' := [_,_,_,_,_,_,_,_]) dX3_bestMove_8 (Nat.le_of_ble_eq_true rfl) rfl ?_
  refine aw_iconst (v := nI 0) dX3_bestMove_9 kc_0 ?_
  refine aw_istore (lo' := [_,_,_,_,_,_,_,_]) dX3_bestMove_10 (Nat.le_of_ble_eq_true rfl) rfl ?_
  exact lo_move hO hs hr hw hn s.1 0 kv none none none (by omega) k1.1 (frO_Q k2)
/-- the first m numbers are what the grudges were behind 1, 2, .. days -/
def ftB (s : TS) (v : TV) (g : Nat → Int32) : Nat → Bool
  | 0 => true
  | k + 1 => ftB s v g k && decide (nI (gd s v (k + 1)) = g k)
theorem ftB_le {s : TS} {v : TV} {g : Nat → Int32} {k : Nat} (h : ftB s v g k = false) : ∀ n, ftB s v g (k + n) = false
  | 0 => h
  | n + 1 => by
    rw [← Nat.add_assoc, ftB, ftB_le h n]
    rfl
theorem lo_fits {G : GC} {E : SH} {iv : IV} {lv : LV} {O : Nat} {s : TS} {v : TV} (hO : OutS G E O) (hs : WS s) (hr : TR (O + 1) s v iv) (hw : WV s v) {S z m : Nat} (hS : StripS G E S z) (hz : z < 2 ^ 31) (hm : iv S 1 = nI m) (hmz : m ≤ z) (hSO : S + 1 < O ∨ O + 31 ≤ S) (hn : v 0 + m + 1 < 2 ^ 20) : ∀ (c e : Nat) (jv : IV), e + c = m → ftB s v (iv (S + 1)) e = true → OS O s v e jv → frO O jv iv → AW G mX3_fits (rm 5 0) (Z0 G 5 E (fun r i0 l => ∃ w, r = some (.int w) ∧ (w = zI (ftB s v (iv (S + 1)) m = true) ∧ TR (O + 1) s v i0 ∧ frO O i0 iv ∧ l = lv))) (fun _ => True) E.1 6 [some (.ref O), some (.ref S), some (.int (nI e))] [] E jv lv := by
  intro c
  induction c with
  | zero =>
    intro e jv he ht hj hf
    have he : e = m := by omega
    subst he
    have hS1 : jv S = iv S := hf.1 S (by omega) (by omega) (by omega)
    refine aw_iload_n dX3_fits_6 rfl ?_
    refine aw_aload_n dX3_fits_7 rfl ?_
    refine aw_getI dX3_fits_8 fgX3_114 rfl (StripS.s0 hS) ?_
    refine aw_icmp_ge (tgt := 39) dX3_fits_11 rfl (fun h11 => ?_) (fun h11 => absurd (by rw [hS1, hm]; exact nI_le (Nat.le_refl _) (by omega)) h11)
    refine aw_iconst (v := nI 1) dX3_fits_39 kc_1 ?_
    refine aw_zret dX3_fits_40 rfl rfl (rb0 (Nat.zero_le _)) ⟨rfl, _, rfl, (zI_t ht).symm, hj.1, hf, rfl⟩
  | succ c ih =>
    intro e jv he ht hj hf
    have hS1 : jv S = iv S := hf.1 S (by omega) (by omega) (by omega)
    refine aw_iload_n dX3_fits_6 rfl ?_
    refine aw_aload_n dX3_fits_7 rfl ?_
    refine aw_getI dX3_fits_8 fgX3_114 rfl (StripS.s0 hS) ?_
    refine aw_icmp_ge (tgt := 39) dX3_fits_11 rfl (fun h11 => absurd h11 (by rw [hS1, hm]; exact nI_ge (by omega) (by omega))) (fun h11 => ?_)
    refine aw_aload_n dX3_fits_14 rfl ?_
    refine aw_sVv [] dX3_fits_15 cvX3_76 (OutS.s0 hO) (o_foresee hO hs hw hj (by omega)) rfl rfl (Nat.le_of_ble_eq_true rfl) (rb0 (by decide)) (fun kv klv hk => ?_)
    obtain ⟨k1, k2, rfl⟩ := hk
    refine aw_aload_n dX3_fits_18 rfl ?_
    refine aw_xVi [] dX3_fits_19 cvX3_79 (OutS.s0 hO) (o_total hO hs hw k1 (by omega)) rfl rfl (Nat.le_of_ble_eq_true rfl) (rb0 (by decide)) ?_
    rw [show tot s (passN s v (e + 1)) = gd s v (e + 1) from rfl]
    refine aw_aload_n dX3_fits_22 rfl ?_
    refine aw_getR dX3_fits_23 fgX3_119 rfl (StripS.s0 hS) (StripS.r0_0 hS) ?_
    refine aw_iload_n dX3_fits_26 rfl ?_
    refine aw_iaload (hn := hz) dX3_fits_27 (StripS.s1 hS) rfl (by omega) ?_
    rw [k2.1 (S + 1) (by omega) (by omega) (by omega), hf.1 (S + 1) (by omega) (by omega) (by omega)]
    refine aw_icmp_eq (tgt := 33) dX3_fits_28 rfl (fun h28 => ?_) (fun h28 => ?_)
    · refine aw_iinc (v := _) (lo' := [_,_,_]) dX3_fits_33 rfl (nI_1 e) rfl ?_
      refine aw_goto (tgt := 6) dX3_fits_36 rfl ?_
      exact ih (e + 1) kv (by omega) (by rw [ftB, ht, decide_eq_true h28]; rfl) k1 (frO_tr k2 hf)
    · refine aw_iconst (v := nI 0) dX3_fits_31 kc_0 ?_
      refine aw_zret dX3_fits_32 rfl rfl (rb0 (Nat.zero_le _)) ⟨rfl, _, rfl, ?_⟩
      have e1 : ftB s v (iv (S + 1)) (e + 1) = false := by rw [ftB, ht, decide_eq_false h28]; rfl
      have e2 := ftB_le e1 c
      rw [show e + 1 + c = m by omega] at e2
      exact ⟨(zI_f (by rw [e2]; decide)).symm, k1.1, frO_tr k2 hf, rfl⟩
theorem o_fits {G : GC} {E : SH} {iv : IV} {lv : LV} {O : Nat} {s : TS} {v : TV} (hO : OutS G E O) (hs : WS s) (hr : TR (O + 1) s v iv) (hw : WV s v) {S z m : Nat} (hS : StripS G E S z) (hz : z < 2 ^ 31) (hm : iv S 1 = nI m) (hmz : m ≤ z) (hSO : S + 1 < O ∨ O + 31 ≤ S) (hn : v 0 + m + 1 < 2 ^ 20) : SpI G mX3_fits 5 [.ref O, .ref S] E iv lv (fun w i0 l => w = zI (ftB s v (iv (S + 1)) m = true) ∧ TR (O + 1) s v i0 ∧ frO O i0 iv ∧ l = lv) := by
  refine spec0_of (lo := [_,_,_]) (by decide) (Nat.le_of_ble_eq_true rfl) rfl ?_
  refine aw_aload_n dX3_fits_0 rfl ?_
  refine aw_sVv [] dX3_fits_1 cvX3_73 (OutS.s0 hO) (o_start hO hs hr hw) rfl rfl (Nat.le_of_ble_eq_true rfl) (rb0 (by decide)) (fun kv klv hk => ?_)
  obtain ⟨k1, k2, rfl⟩ := hk
  refine aw_iconst (v := nI 0) dX3_fits_4 kc_0 ?_
  refine aw_istore_n (lo' := [_,_,_]) dX3_fits_5 (Nat.le_of_ble_eq_true rfl) rfl ?_
  exact lo_fits hO hs hr hw hS hz hm hmz hSO hn m 0 kv (by omega) rfl k1 k2
