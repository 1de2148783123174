def fndM (X : Nat) (iv : IV) (f : Nat) : IV := va_up (va_up iv X (upd (iv X) 7 (nI f))) (X + 57) (upd (iv (X + 57)) f (iv (X + 57) f + nI 1))
theorem fndM_o {X f a : Nat} {iv : IV} (h1 : a ≠ X) (h2 : a ≠ X + 57) : fndM X iv f a = iv a := by unfold fndM; rw [va_up_n h2, va_up_n h1]
theorem CD_of {X : Nat} {D : DD} {iv i : IV} (h : ∀ a, X + 58 ≤ a → a < X + 78 → i a = iv a) (hD : CD X D iv) : CD X D i :=
  ⟨fun r hr => by rw [h _ (by omega) (by omega)]; exact hD.1 r hr, fun r k hr hk => by rw [h _ (by omega) (by omega)]; exact hD.2.1 r k hr hk, fun r hr => by rw [h _ (by omega) (by omega)]; exact hD.2.2.1 r hr, fun r k hr hk => by rw [h _ (by omega) (by omega)]; exact hD.2.2.2 r k hr hk⟩
theorem CA_fnd {X f : Nat} {A : AA} {iv : IV} {lv : LV} (h : CA X A iv lv) (hf : f < 6) : CA X (fnd A f) (fndM X iv f) lv := by
  have e : fndM X iv f X = upd (iv X) 7 (nI f) := by unfold fndM; rw [va_up_n (by omega), va_up_s]
  refine ⟨by rw [e]; exact h.1, by rw [e]; rfl, h.2.2.1, h.2.2.2.1, fun g hg => ?_⟩
  have e2 : fndM X iv f (X + 57) = upd (iv (X + 57)) f (iv (X + 57) f + nI 1) := va_up_s
  rw [e2]
  show _ = upd A.2.2.2.2 f (A.2.2.2.2 f + nI 1) g
  unfold upd
  split
  · rw [h.2.2.2.2 f hf]
  · exact h.2.2.2.2 g hg
theorem CD_fnd {X f : Nat} {D : DD} {iv : IV} (h : CD X D iv) : CD X D (fndM X iv f) := CD_of (fun a h1 h2 => fndM_o (by omega) (by omega)) h
theorem fr_fnd {X f : Nat} {iv : IV} (a : Nat) (h : ¬ PA X a) : fndM X iv f a = iv a := fndM_o (fun e => h (Or.inl e)) (fun e => h (Or.inr (Or.inl e)))
def telM (X : Nat) (iv : IV) (v : Int32) : IV := va_up iv X (upd (iv X) 8 v)
theorem telM_o {X a : Nat} {iv : IV} {v : Int32} (h1 : a ≠ X) : telM X iv v a = iv a := va_up_n h1
theorem CA_tel {X : Nat} {A : AA} {iv : IV} {lv : LV} {v : Int32} (h : CA X A iv lv) : CA X (tel A v) (telM X iv v) lv := by
  have e : telM X iv v X = upd (iv X) 8 v := va_up_s
  refine ⟨by rw [e]; rfl, by rw [e]; exact h.2.1, h.2.2.1, h.2.2.2.1, fun g hg => ?_⟩
  rw [telM_o (by omega)]
  exact h.2.2.2.2 g hg
theorem QX_fnd {X f : Nat} {A : AA} {D : DD} {iv : IV} {lv : LV} {o : OR} (hA : CA X A iv lv) (hD : CD X D iv) (hf : f < 6) (e : o = (-3, fnd A f, D)) : QX X iv lv o (-3) (fndM X iv f) lv := by
  subst e
  exact ⟨rfl, CA_fnd hA hf, CD_fnd hD, fr_fnd, rfl⟩
theorem QX_no {X : Nat} {A : AA} {D : DD} {iv : IV} {lv : LV} {o : OR} {v : Int32} (hA : CA X A iv lv) (hD : CD X D iv) (e : o = (v, A, D)) : QX X iv lv o v iv lv := by
  subst e
  exact ⟨rfl, hA, hD, fun _ _ => rfl, rfl⟩
theorem fill_up (g : Nat → Int32) (x : Int32) (j : Nat) : upd (fun i => if i < j then x else g i) j x = fun i => if i < j + 1 then x else g i := by
  funext i
  unfold upd
  by_cases h : i = j
  · subst h; simp
  · by_cases h2 : i < j
    · simp [h, h2, Nat.lt_succ_of_lt h2]
    · simp [h, h2, show ¬ i < j + 1 by omega]
theorem l_fill {G : GC} {E : SH} {lv : LV} {iv0 : IV} {a n : Nat} {x : Int32} (hs : Sh G E a 20 n) (hn : n < 2 ^ 31) : ∀ (c j : Nat) (iv : IV), j + c = n → iv = va_up iv0 a (fun i => if i < j then x else iv0 a i) → AW G mJ7_fill_53178 (rm 1 0) (Z0 G 1 E (fun r i l => r = none ∧ i = va_up iv0 a (fun i => if i < n then x else iv0 a i) ∧ l = lv)) (fun _ => True) E.1 5 [some (.ref a), some (.int x), some (.int (nI j)), some (.int (nI n))] [] E iv lv := by
  intro c
  induction c with
  | zero =>
    intro j iv hj hiv
    have hj : j = n := by omega
    subst hj
    refine aw_iload_n dJ7_fill_53178_5 rfl ?_
    refine aw_iload_n dJ7_fill_53178_6 rfl ?_
    refine aw_icmp_ge (tgt := 20) dJ7_fill_53178_7 rfl (fun h7 => ?_) (fun h7 => absurd (nI_le (Nat.le_refl _) (by omega)) h7)
    refine aw_vret dJ7_fill_53178_20 rfl (rb0 (Nat.zero_le _)) ⟨rfl, rfl, hiv, rfl⟩
  | succ c ih =>
    intro j iv hj hiv
    refine aw_iload_n dJ7_fill_53178_5 rfl ?_
    refine aw_iload_n dJ7_fill_53178_6 rfl ?_
    refine aw_icmp_ge (tgt := 20) dJ7_fill_53178_7 rfl (fun h7 => absurd h7 (nI_ge (by omega) (by omega))) (fun h7 => ?_)
    refine aw_aload_n dJ7_fill_53178_10 rfl ?_
    refine aw_iload_n dJ7_fill_53178_11 rfl ?_
    refine aw_iload_n dJ7_fill_53178_12 rfl ?_
    refine aw_iastore (hn := hn) dJ7_fill_53178_13 hs rfl (by omega) ?_
    refine aw_iinc (v := _) (lo' := [_,_,_,_]) dJ7_fill_53178_14 rfl (nI_1 j) rfl ?_
    refine aw_goto (tgt := 5) dJ7_fill_53178_17 rfl ?_
    refine ih (j + 1) _ (by omega) ?_
    rw [hiv, va_up_s, fill_up]
    funext b
    by_cases e : b = a
    · subst e; rw [va_up_s, va_up_s]
    · rw [va_up_n e, va_up_n e, va_up_n e]
theorem e_fill {G : GC} {E : SH} {iv : IV} {lv : LV} {a n : Nat} {x : Int32} (hs : Sh G E a 20 n) (hn : n < 2 ^ 31) : ExV G mJ7_fill_53178 1 [.ref a, .int x] E iv lv (va_up iv a (fun i => if i < n then x else iv a i)) lv := by
  refine spec0_of (lo := [_,_,_,_]) (by decide) (Nat.le_of_ble_eq_true rfl) rfl ?_
  refine aw_iconst (v := nI 0) dJ7_fill_53178_0 kc_0 ?_
  refine aw_istore_n (lo' := [_,_,_,_]) dJ7_fill_53178_1 (Nat.le_of_ble_eq_true rfl) rfl ?_
  refine aw_aload_n dJ7_fill_53178_2 rfl ?_
  refine aw_alen dJ7_fill_53178_3 hs ⟨by decide, by decide⟩ ?_
  refine aw_istore_n (lo' := [_,_,_,_]) dJ7_fill_53178_4 (Nat.le_of_ble_eq_true rfl) rfl ?_
  refine l_fill hs hn n 0 iv (by omega) ?_
  funext b
  by_cases e : b = a
  · subst e; rw [va_up_s]; funext i; simp
  · rw [va_up_n e]
theorem e_isThere {G : GC} {E : SH} {iv : IV} {lv : LV} {S n : Nat} (hS : StripS G E S n) : ExI G mX7_isThere 1 [.ref S] E iv lv (zI (0 ≤ iv S 1)) iv lv := by
  refine spec0_of (lo := [_]) (by decide) (Nat.le_of_ble_eq_true rfl) rfl ?_
  refine aw_aload_n dX7_isThere_0 rfl ?_
  refine aw_getI dX7_isThere_1 fgX7_7 rfl (StripS.s0 hS) ?_
  refine aw_if_lt (tgt := 11) dX7_isThere_4 rfl (fun h4 => ?_) (fun h4 => ?_)
  · refine aw_iconst (v := nI 0) dX7_isThere_11 kc_0 ?_
    refine aw_zret dX7_isThere_12 rfl rfl (rb0 (Nat.zero_le _)) ⟨rfl, _, rfl, ?_, rfl, rfl⟩
    rw [eq_comm]
    first | (refine zI_t ?_; (try simp (disch := omega) only [Int32.lt_iff_toInt_lt, Int32.le_iff_toInt_le, Int32.toInt_zero, nI_toInt, ← Int32.toInt_inj] at *); omega) | (refine zI_f ?_; (try simp (disch := omega) only [Int32.lt_iff_toInt_lt, Int32.le_iff_toInt_le, Int32.toInt_zero, nI_toInt, ← Int32.toInt_inj] at *); omega)
  · refine aw_iconst (v := nI 1) dX7_isThere_7 kc_1 ?_
    refine aw_goto (tgt := 12) dX7_isThere_8 rfl ?_
    refine aw_zret dX7_isThere_12 rfl rfl (rb0 (Nat.zero_le _)) ⟨rfl, _, rfl, ?_, rfl, rfl⟩
    rw [eq_comm]
    first | (refine zI_t ?_; (try simp (disch := omega) only [Int32.lt_iff_toInt_lt, Int32.le_iff_toInt_le, Int32.toInt_zero, nI_toInt, ← Int32.toInt_inj] at *); omega) | (refine zI_f ?_; (try simp (disch := omega) only [Int32.lt_iff_toInt_lt, Int32.le_iff_toInt_le, Int32.toInt_zero, nI_toInt, ← Int32.toInt_inj] at *); omega)
theorem e_has {G : GC} {E : SH} {iv : IV} {lv : LV} {S n : Nat} (hS : StripS G E S n) {r : Int32} : ExI G mX7_has 1 [.ref S, .int r] E iv lv (zI (0 ≤ r ∧ r < iv S 1)) iv lv := by
  refine spec0_of (lo := [_,_]) (by decide) (Nat.le_of_ble_eq_true rfl) rfl ?_
  refine aw_iload_n dX7_has_0 rfl ?_
  refine aw_if_lt (tgt := 16) dX7_has_1 rfl (fun h1 => ?_) (fun h1 => ?_)
  · refine aw_iconst (v := nI 0) dX7_has_16 kc_0 ?_
    refine aw_zret dX7_has_17 rfl rfl (rb0 (Nat.zero_le _)) ⟨rfl, _, rfl, ?_, rfl, rfl⟩
    rw [eq_comm]
    first | (refine zI_t ?_; (try simp (disch := omega) only [Int32.lt_iff_toInt_lt, Int32.le_iff_toInt_le, Int32.toInt_zero, nI_toInt, ← Int32.toInt_inj] at *); omega) | (refine zI_f ?_; (try simp (disch := omega) only [Int32.lt_iff_toInt_lt, Int32.le_iff_toInt_le, Int32.toInt_zero, nI_toInt, ← Int32.toInt_inj] at *); omega)
  · refine aw_iload_n dX7_has_4 rfl ?_
    refine aw_aload_n dX7_has_5 rfl ?_
    refine aw_getI dX7_has_6 fgX7_7 rfl (StripS.s0 hS) ?_
    refine aw_icmp_ge (tgt := 16) dX7_has_9 rfl (fun h9 => ?_) (fun h9 => ?_)
    · refine aw_iconst (v := nI 0) dX7_has_16 kc_0 ?_
      refine aw_zret dX7_has_17 rfl rfl (rb0 (Nat.zero_le _)) ⟨rfl, _, rfl, ?_, rfl, rfl⟩
      rw [eq_comm]
      first | (refine zI_t ?_; (try simp (disch := omega) only [Int32.lt_iff_toInt_lt, Int32.le_iff_toInt_le, Int32.toInt_zero, nI_toInt, ← Int32.toInt_inj] at *); omega) | (refine zI_f ?_; (try simp (disch := omega) only [Int32.lt_iff_toInt_lt, Int32.le_iff_toInt_le, Int32.toInt_zero, nI_toInt, ← Int32.toInt_inj] at *); omega)
    · refine aw_iconst (v := nI 1) dX7_has_12 kc_1 ?_
      refine aw_goto (tgt := 17) dX7_has_13 rfl ?_
      refine aw_zret dX7_has_17 rfl rfl (rb0 (Nat.zero_le _)) ⟨rfl, _, rfl, ?_, rfl, rfl⟩
      rw [eq_comm]
      first | (refine zI_t ?_; (try simp (disch := omega) only [Int32.lt_iff_toInt_lt, Int32.le_iff_toInt_le, Int32.toInt_zero, nI_toInt, ← Int32.toInt_inj] at *); omega) | (refine zI_f ?_; (try simp (disch := omega) only [Int32.lt_iff_toInt_lt, Int32.le_iff_toInt_le, Int32.toInt_zero, nI_toInt, ← Int32.toInt_inj] at *); omega)
theorem e_hasRun {G : GC} {E : SH} {iv : IV} {lv : LV} {S n : Nat} (hS : StripS G E S n) {i m : Int32} : ExI G mX7_hasRun 1 [.ref S, .int i, .int m] E iv lv (zI (0 ≤ i ∧ 0 ≤ m ∧ m ≤ iv S 1 ∧ i ≤ iv S 1 - m)) iv lv := by
  refine spec0_of (lo := [_,_,_]) (by decide) (Nat.le_of_ble_eq_true rfl) rfl ?_
  refine aw_iload_n dX7_hasRun_0 rfl ?_
  refine aw_if_lt (tgt := 30) dX7_hasRun_1 rfl (fun h1 => ?_) (fun h1 => ?_)
  · refine aw_iconst (v := nI 0) dX7_hasRun_30 kc_0 ?_
    refine aw_zret dX7_hasRun_31 rfl rfl (rb0 (Nat.zero_le _)) ⟨rfl, _, rfl, ?_, rfl, rfl⟩
    rw [eq_comm]
    first | (refine zI_t ?_; (try simp (disch := omega) only [Int32.lt_iff_toInt_lt, Int32.le_iff_toInt_le, Int32.toInt_zero, nI_toInt, ← Int32.toInt_inj] at *); omega) | (refine zI_f ?_; (try simp (disch := omega) only [Int32.lt_iff_toInt_lt, Int32.le_iff_toInt_le, Int32.toInt_zero, nI_toInt, ← Int32.toInt_inj] at *); omega)
  · refine aw_iload_n dX7_hasRun_4 rfl ?_
    refine aw_if_lt (tgt := 30) dX7_hasRun_5 rfl (fun h5 => ?_) (fun h5 => ?_)
    · refine aw_iconst (v := nI 0) dX7_hasRun_30 kc_0 ?_
      refine aw_zret dX7_hasRun_31 rfl rfl (rb0 (Nat.zero_le _)) ⟨rfl, _, rfl, ?_, rfl, rfl⟩
      rw [eq_comm]
      first | (refine zI_t ?_; (try simp (disch := omega) only [Int32.lt_iff_toInt_lt, Int32.le_iff_toInt_le, Int32.toInt_zero, nI_toInt, ← Int32.toInt_inj] at *); omega) | (refine zI_f ?_; (try simp (disch := omega) only [Int32.lt_iff_toInt_lt, Int32.le_iff_toInt_le, Int32.toInt_zero, nI_toInt, ← Int32.toInt_inj] at *); omega)
    · refine aw_iload_n dX7_hasRun_8 rfl ?_
      refine aw_aload_n dX7_hasRun_9 rfl ?_
      refine aw_getI dX7_hasRun_10 fgX7_7 rfl (StripS.s0 hS) ?_
      refine aw_icmp_gt (tgt := 30) dX7_hasRun_13 rfl (fun h13 => ?_) (fun h13 => ?_)
      · refine aw_iconst (v := nI 0) dX7_hasRun_30 kc_0 ?_
        refine aw_zret dX7_hasRun_31 rfl rfl (rb0 (Nat.zero_le _)) ⟨rfl, _, rfl, ?_, rfl, rfl⟩
        rw [eq_comm]
        first | (refine zI_t ?_; (try simp (disch := omega) only [Int32.lt_iff_toInt_lt, Int32.le_iff_toInt_le, Int32.toInt_zero, nI_toInt, ← Int32.toInt_inj] at *); omega) | (refine zI_f ?_; (try simp (disch := omega) only [Int32.lt_iff_toInt_lt, Int32.le_iff_toInt_le, Int32.toInt_zero, nI_toInt, ← Int32.toInt_inj] at *); omega)
      · refine aw_iload_n dX7_hasRun_16 rfl ?_
        refine aw_aload_n dX7_hasRun_17 rfl ?_
        refine aw_getI dX7_hasRun_18 fgX7_7 rfl (StripS.s0 hS) ?_
        refine aw_iload_n dX7_hasRun_21 rfl ?_
        refine aw_isub dX7_hasRun_22 ?_
        refine aw_icmp_gt (tgt := 30) dX7_hasRun_23 rfl (fun h23 => ?_) (fun h23 => ?_)
        · refine aw_iconst (v := nI 0) dX7_hasRun_30 kc_0 ?_
          refine aw_zret dX7_hasRun_31 rfl rfl (rb0 (Nat.zero_le _)) ⟨rfl, _, rfl, ?_, rfl, rfl⟩
          rw [eq_comm]
          first | (refine zI_t ?_; (try simp (disch := omega) only [Int32.lt_iff_toInt_lt, Int32.le_iff_toInt_le, Int32.toInt_zero, nI_toInt, ← Int32.toInt_inj] at *); omega) | (refine zI_f ?_; (try simp (disch := omega) only [Int32.lt_iff_toInt_lt, Int32.le_iff_toInt_le, Int32.toInt_zero, nI_toInt, ← Int32.toInt_inj] at *); omega)
        · refine aw_iconst (v := nI 1) dX7_hasRun_26 kc_1 ?_
          refine aw_goto (tgt := 31) dX7_hasRun_27 rfl ?_
          refine aw_zret dX7_hasRun_31 rfl rfl (rb0 (Nat.zero_le _)) ⟨rfl, _, rfl, ?_, rfl, rfl⟩
          rw [eq_comm]
          first | (refine zI_t ?_; (try simp (disch := omega) only [Int32.lt_iff_toInt_lt, Int32.le_iff_toInt_le, Int32.toInt_zero, nI_toInt, ← Int32.toInt_inj] at *); omega) | (refine zI_f ?_; (try simp (disch := omega) only [Int32.lt_iff_toInt_lt, Int32.le_iff_toInt_le, Int32.toInt_zero, nI_toInt, ← Int32.toInt_inj] at *); omega)
theorem e_close {G : GC} {E : SH} {iv : IV} {lv : LV} {S n : Nat} (hS : StripS G E S n) : ExV G mX7_close 1 [.ref S] E iv lv (va_up iv S (upd (iv S) 1 (-1))) lv := by
  refine spec0_of (lo := [_]) (by decide) (Nat.le_of_ble_eq_true rfl) rfl ?_
  refine aw_aload_n dX7_close_0 rfl ?_
  refine aw_iconst (v := (-1)) dX7_close_1 kc_m1 ?_
  refine aw_putI dX7_close_2 fpX7_7 rfl (StripS.s0 hS) ?_
  refine aw_vret dX7_close_5 rfl (rb0 (Nat.zero_le _)) ⟨rfl, rfl, rfl, rfl⟩
def opnM (S n : Nat) (iv : IV) (k : Nat) (x : Int32) : IV := va_up (va_up iv S (upd (iv S) 1 (nI k))) (S + 1) (fun i => if i < n then x else iv (S + 1) i)
theorem e_open {G : GC} {E : SH} {iv : IV} {lv : LV} {S n : Nat} (hS : StripS G E S n) {k : Nat} {x : Int32} (hk : k ≤ n) (hn : n < 2 ^ 31) : ExV G mX7_open 2 [.ref S, .int (nI k), .int x] E iv lv (opnM S n iv k x) lv := by
  refine spec0_of (lo := [_,_,_]) (by decide) (Nat.le_of_ble_eq_true rfl) rfl ?_
  refine aw_aload_n dX7_open_0 rfl ?_
  refine aw_iload_n dX7_open_1 rfl ?_
  refine aw_aload_n dX7_open_2 rfl ?_
  refine aw_getR dX7_open_3 fgX7_19 rfl (StripS.s0 hS) (StripS.r0_0 hS) ?_
  refine aw_alen dX7_open_6 (StripS.s1 hS) ⟨by decide, by decide⟩ ?_
  refine aw_mmin dX7_open_7 mjX7_23 st_min in_java_lang_Math cdJ9_min_7cf53 (Nat.le_of_ble_eq_true rfl) (rb0 (by decide)) ?_
  rw [if_neg (nI_nlt hk (by omega))]
  refine aw_putI dX7_open_10 fpX7_7 rfl (StripS.s0 hS) ?_
  refine aw_aload_n dX7_open_13 rfl ?_
  refine aw_getR dX7_open_14 fgX7_19 rfl (StripS.s0 hS) (StripS.r0_0 hS) ?_
  refine aw_iload_n dX7_open_17 rfl ?_
  refine aw_xSv [_, _] dX7_open_18 csX7_26 (e_fill (StripS.s1 hS) hn) rfl rfl (Nat.le_of_ble_eq_true rfl) (rb0 (by decide)) ?_
  refine aw_vret dX7_open_21 rfl (rb0 (Nat.zero_le _)) ⟨rfl, rfl, ?_, rfl⟩
  unfold opnM
  rw [va_up_n (show S + 1 ≠ S by omega)]
