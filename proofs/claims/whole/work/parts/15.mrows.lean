theorem fb_byte_twice (x : Int32) : x.toInt8.toInt32.toInt8.toInt32 = x.toInt8.toInt32 := by simp
def fndN (M : Nat) (iv : IV) (f : Nat) : IV := va_up (va_up iv M (upd (iv M) 3 (nI f))) (M + 1) (upd (iv (M + 1)) f (iv (M + 1) f + nI 1))
def telN (M : Nat) (iv : IV) (v : Int32) : IV := va_up iv M (upd (iv M) 0 v)
theorem fndN_o {M f a : Nat} {iv : IV} (h1 : a ≠ M) (h2 : a ≠ M + 1) : fndN M iv f a = iv a := by unfold fndN; rw [va_up_n h2, va_up_n h1]
theorem fndN_M {M f : Nat} {iv : IV} : fndN M iv f M = upd (iv M) 3 (nI f) := by unfold fndN; rw [va_up_n (by omega), va_up_s]
theorem telN_M {M : Nat} {iv : IV} {v : Int32} : telN M iv v M = upd (iv M) 0 v := va_up_s
theorem telN_o {M a : Nat} {iv : IV} {v : Int32} (h : a ≠ M) : telN M iv v a = iv a := va_up_n h
theorem MD_of {M : Nat} {D : DD} {iv i : IV} (h2 : i (M + 2) = iv (M + 2)) (h3 : i (M + 3) = iv (M + 3)) (h5 : i (M + 5) = iv (M + 5)) (h6 : i (M + 6) = iv (M + 6)) (hD : MD M D iv) : MD M D i :=
  ⟨fun r hr => by rw [h2]; exact hD.1 r hr, fun r k hr hk => by rw [h3]; exact hD.2.1 r k hr hk, fun r hr => by rw [h5]; exact hD.2.2.1 r hr, fun r k hr hk => by rw [h6]; exact hD.2.2.2 r k hr hk⟩
theorem MA_fnd {M f : Nat} {A : AA} {iv : IV} {lv : LV} (h : MA M A iv lv) (hf : f < 6) : MA M (fnd A f) (fndN M iv f) lv := by
  refine ⟨by rw [fndN_M]; exact h.1, by rw [fndN_M]; rfl, h.2.2.1, h.2.2.2.1, fun g hg => ?_⟩
  have e2 : fndN M iv f (M + 1) = upd (iv (M + 1)) f (iv (M + 1) f + nI 1) := va_up_s
  rw [e2]
  show _ = upd A.2.2.2.2 f (A.2.2.2.2 f + nI 1) g
  unfold upd
  split
  · rw [h.2.2.2.2 f hf]
  · exact h.2.2.2.2 g hg
theorem MD_fnd {M f : Nat} {D : DD} {iv : IV} (h : MD M D iv) : MD M D (fndN M iv f) := MD_of (fndN_o (by omega) (by omega)) (fndN_o (by omega) (by omega)) (fndN_o (by omega) (by omega)) (fndN_o (by omega) (by omega)) h
theorem MD_tel {M : Nat} {v : Int32} {D : DD} {iv : IV} (h : MD M D iv) : MD M D (telN M iv v) := MD_of (telN_o (by omega)) (telN_o (by omega)) (telN_o (by omega)) (telN_o (by omega)) h
theorem MA_tel {M : Nat} {A : AA} {iv : IV} {lv : LV} {v : Int32} (h : MA M A iv lv) : MA M (tel A v) (telN M iv v) lv :=
  ⟨by rw [telN_M]; rfl, by rw [telN_M]; exact h.2.1, h.2.2.1, h.2.2.2.1, fun g hg => by rw [telN_o (by omega)]; exact h.2.2.2.2 g hg⟩
theorem MA_of {M : Nat} {A : AA} {iv i : IV} {lv : LV} (h : MA M A iv lv) (h1 : i M = iv M) (h2 : i (M + 1) = iv (M + 1)) : MA M A i lv := ⟨by rw [h1]; exact h.1, by rw [h1]; exact h.2.1, h.2.2.1, h.2.2.2.1, fun f hf => by rw [h2]; exact h.2.2.2.2 f hf⟩
theorem QM_fnd {M f : Nat} {A : AA} {D : DD} {iv : IV} {lv : LV} {o : OR} (hA : MA M A iv lv) (hD : MD M D iv) (hf : f < 6) (e : o = (-3, fnd A f, D)) : QMo M iv lv o (-3) (fndN M iv f) lv := by
  subst e
  exact ⟨rfl, MA_fnd hA hf, MD_fnd hD, fun a ha => fndN_o (fun e => ha ⟨by omega, by omega⟩) (fun e => ha ⟨by omega, by omega⟩), by rw [fndN_M]; rfl, by rw [fndN_M]; rfl, rfl⟩
theorem QM_no {M : Nat} {A : AA} {D : DD} {iv : IV} {lv : LV} {o : OR} {v : Int32} (hA : MA M A iv lv) (hD : MD M D iv) (e : o = (v, A, D)) : QMo M iv lv o v iv lv := by
  subst e
  exact ⟨rfl, hA, hD, fun _ _ => rfl, rfl, rfl, rfl⟩
/-- an op that leaves the object's own cell as it was -/
theorem QM_ar {M : Nat} {A : AA} {D2 : DD} {iv i : IV} {lv : LV} {o : OR} {v : Int32} (e : o = (v, A, D2)) (hA : MA M A iv lv) (h1 : i M = iv M) (h2 : i (M + 1) = iv (M + 1)) (hD : MD M D2 i) (hf : ∀ a, ¬ PMA M a → i a = iv a) : QMo M iv lv o v i lv := by
  subst e
  exact ⟨rfl, MA_of hA h1 h2, hD, hf, by rw [h1], by rw [h1], rfl⟩
theorem in_iff {r : Int32} {k : Nat} (hk : k + 1 < 2 ^ 31) : (nI 0 ≤ r ∧ r ≤ nI k) ↔ (0 ≤ r ∧ r < nI (k + 1)) := by
  simp (disch := omega) only [Int32.lt_iff_toInt_lt, Int32.le_iff_toInt_le, Int32.toInt_zero, nI_toInt]
  omega
theorem in_iff2 {r : Int32} {k : Nat} (hk : k < 2 ^ 30) : (nI 0 ≤ r ∧ r ≤ nI k - nI 1) ↔ (0 ≤ r ∧ r < nI k) := by
  simp (disch := omega) only [Int32.lt_iff_toInt_lt, Int32.le_iff_toInt_le, Int32.toInt_zero, nI_toInt, pk_sub_toInt]
  omega
/-- places a .. b - 1 hold x -/
def rng (a b : Nat) (x : Int32) (g : Nat → Int32) : Nat → Int32 := fun q => if a ≤ q ∧ q < b then x else g q
theorem rng_0 (a : Nat) (x : Int32) (g : Nat → Int32) : rng a a x g = g := by
  funext q
  unfold rng
  rw [if_neg (by omega)]
theorem rng_0z (a : Nat) (x : Int32) (g : Nat → Int32) : rng a (a + 0) x g = g := rng_0 a x g
theorem rng_s (a b : Nat) (x : Int32) (g : Nat → Int32) (h : a ≤ b) : upd (rng a b x g) b x = rng a (b + 1) x g := by
  funext q
  unfold upd rng
  by_cases e : q = b
  · rw [if_pos e, if_pos (by omega)]
  · rw [if_neg e]
    by_cases e2 : a ≤ q ∧ q < b
    · rw [if_pos e2, if_pos (by omega)]
    · rw [if_neg e2, if_neg (by omega)]
theorem up_up {α : Type} (f : Nat → α) (k : Nat) (v w : α) : va_up (va_up f k v) k w = va_up f k w := bx_uu f k v w
theorem up_id {α : Type} (f : Nat → α) (k : Nat) : va_up f k (f k) = f := by
  funext j
  unfold va_up
  split
  · subst j; rfl
  · rfl
theorem m_in {G : GC} {E : SH} {iv : IV} {lv : LV} (v a b : Int32) : ExI G mX11_in 1 [.int v, .int a, .int b] E iv lv (zI (a ≤ v ∧ v ≤ b)) iv lv := by
  refine spec0_of (lo := [_,_,_]) (by decide) (Nat.le_of_ble_eq_true rfl) rfl ?_
  refine aw_iload_n dX11_in_0 rfl ?_
  refine aw_iload_n dX11_in_1 rfl ?_
  refine aw_icmp_lt (tgt := 14) dX11_in_2 rfl (fun h2 => ?_) (fun h2 => ?_)
  · refine aw_iconst (v := nI 0) dX11_in_14 kc_0 ?_
    refine aw_zret dX11_in_15 rfl rfl (rb0 (Nat.zero_le _)) ⟨rfl, _, rfl, ?_, rfl, rfl⟩
    rw [eq_comm]
    first | (refine zI_t ?_; (try simp (disch := omega) only [Int32.lt_iff_toInt_lt, Int32.le_iff_toInt_le, Int32.toInt_zero, nI_toInt, ← Int32.toInt_inj] at *); omega) | (refine zI_f ?_; (try simp (disch := omega) only [Int32.lt_iff_toInt_lt, Int32.le_iff_toInt_le, Int32.toInt_zero, nI_toInt, ← Int32.toInt_inj] at *); omega)
  · refine aw_iload_n dX11_in_5 rfl ?_
    refine aw_iload_n dX11_in_6 rfl ?_
    refine aw_icmp_gt (tgt := 14) dX11_in_7 rfl (fun h7 => ?_) (fun h7 => ?_)
    · refine aw_iconst (v := nI 0) dX11_in_14 kc_0 ?_
      refine aw_zret dX11_in_15 rfl rfl (rb0 (Nat.zero_le _)) ⟨rfl, _, rfl, ?_, rfl, rfl⟩
      rw [eq_comm]
      first | (refine zI_t ?_; (try simp (disch := omega) only [Int32.lt_iff_toInt_lt, Int32.le_iff_toInt_le, Int32.toInt_zero, nI_toInt, ← Int32.toInt_inj] at *); omega) | (refine zI_f ?_; (try simp (disch := omega) only [Int32.lt_iff_toInt_lt, Int32.le_iff_toInt_le, Int32.toInt_zero, nI_toInt, ← Int32.toInt_inj] at *); omega)
    · refine aw_iconst (v := nI 1) dX11_in_10 kc_1 ?_
      refine aw_goto (tgt := 15) dX11_in_11 rfl ?_
      refine aw_zret dX11_in_15 rfl rfl (rb0 (Nat.zero_le _)) ⟨rfl, _, rfl, ?_, rfl, rfl⟩
      rw [eq_comm]
      first | (refine zI_t ?_; (try simp (disch := omega) only [Int32.lt_iff_toInt_lt, Int32.le_iff_toInt_le, Int32.toInt_zero, nI_toInt, ← Int32.toInt_inj] at *); omega) | (refine zI_f ?_; (try simp (disch := omega) only [Int32.lt_iff_toInt_lt, Int32.le_iff_toInt_le, Int32.toInt_zero, nI_toInt, ← Int32.toInt_inj] at *); omega)
theorem m_isRow {G : GC} {E : SH} {iv : IV} {lv : LV} (r : Int32) : ExI G mX11_isRow 2 [.int r] E iv lv (zI (0 ≤ r ∧ r < nI 6)) iv lv := by
  refine spec0_of (lo := [_]) (by decide) (Nat.le_of_ble_eq_true rfl) rfl ?_
  refine aw_iload_n dX11_isRow_0 rfl ?_
  refine aw_iconst (v := nI 0) dX11_isRow_1 kc_0 ?_
  refine aw_iconst (v := nI 5) dX11_isRow_2 kc_5 ?_
  refine aw_xSi [_, _, _] dX11_isRow_3 csX11_76 (m_in _ _ _) rfl rfl (Nat.le_of_ble_eq_true rfl) (rb0 (by decide)) ?_
  refine aw_zret dX11_isRow_6 rfl (zI_n _) (rb0 (Nat.zero_le _)) ⟨rfl, _, rfl, zI_e (in_iff (by decide)), rfl, rfl⟩
theorem m_isText {G : GC} {E : SH} {iv : IV} {lv : LV} (r : Int32) : ExI G mX11_isText 2 [.int r] E iv lv (zI (0 ≤ r ∧ r < nI 4)) iv lv := by
  refine spec0_of (lo := [_]) (by decide) (Nat.le_of_ble_eq_true rfl) rfl ?_
  refine aw_iload_n dX11_isText_0 rfl ?_
  refine aw_iconst (v := nI 0) dX11_isText_1 kc_0 ?_
  refine aw_iconst (v := nI 3) dX11_isText_2 kc_3 ?_
  refine aw_xSi [_, _, _] dX11_isText_3 csX11_76 (m_in _ _ _) rfl rfl (Nat.le_of_ble_eq_true rfl) (rb0 (by decide)) ?_
  refine aw_zret dX11_isText_6 rfl (zI_n _) (rb0 (Nat.zero_le _)) ⟨rfl, _, rfl, zI_e (in_iff (by decide)), rfl, rfl⟩
theorem m_isStreet {G : GC} {E : SH} {iv : IV} {lv : LV} (r : Int32) : ExI G mX11_isStreet 2 [.int r] E iv lv (zI (0 ≤ r ∧ r < nI 5)) iv lv := by
  refine spec0_of (lo := [_]) (by decide) (Nat.le_of_ble_eq_true rfl) rfl ?_
  refine aw_iload_n dX11_isStreet_0 rfl ?_
  refine aw_iconst (v := nI 0) dX11_isStreet_1 kc_0 ?_
  refine aw_iconst (v := nI 4) dX11_isStreet_2 kc_4 ?_
  refine aw_xSi [_, _, _] dX11_isStreet_3 csX11_76 (m_in _ _ _) rfl rfl (Nat.le_of_ble_eq_true rfl) (rb0 (by decide)) ?_
  refine aw_zret dX11_isStreet_6 rfl (zI_n _) (rb0 (Nat.zero_le _)) ⟨rfl, _, rfl, zI_e (in_iff (by decide)), rfl, rfl⟩
theorem m_found {G : GC} {E : SH} {iv : IV} {lv : LV} {M : Nat} (hM : MS G E M) {f : Nat} (h5 : f ≤ 5) : ExI G mX11_found 1 [.ref M, .int (nI f)] E iv lv (-3) (fndN M iv f) lv := by
  refine spec0_of (lo := [_,_]) (by decide) (Nat.le_of_ble_eq_true rfl) rfl ?_
  refine aw_aload_n dX11_found_0 rfl ?_
  refine aw_iload_n dX11_found_1 rfl ?_
  refine aw_putI dX11_found_2 fpX11_66 rfl (MS.s0 hM) ?_
  refine aw_aload_n dX11_found_5 rfl ?_
  refine aw_getR dX11_found_6 fgX11_13 rfl (MS.s0 hM) (MS.r0_4 hM) ?_
  refine aw_iload_n dX11_found_9 rfl ?_
  refine aw_dup2 dX11_found_10 rfl rfl ?_
  refine aw_iaload dX11_found_11 (MS.s1 hM) rfl (by omega) ?_
  refine aw_iconst (v := nI 1) dX11_found_12 kc_1 ?_
  refine aw_iadd dX11_found_13 ?_
  refine aw_iastore dX11_found_14 (MS.s1 hM) rfl (by omega) ?_
  refine aw_bipush (v := (-3)) dX11_found_15 kb_m3 ?_
  refine aw_iret dX11_found_17 rfl (rb0 (Nat.zero_le _)) ⟨rfl, _, rfl, rfl, ?_, rfl⟩
  unfold fndN
  rw [va_up_n (show M + 1 ≠ M by omega)]
theorem m_tells {G : GC} {E : SH} {iv : IV} {lv : LV} {M : Nat} (hM : MS G E M) (v w : Int32) : ExI G mX11_tells 1 [.ref M, .int v, .int w] E iv lv w (telN M iv v) lv := by
  refine spec0_of (lo := [_,_,_]) (by decide) (Nat.le_of_ble_eq_true rfl) rfl ?_
  refine aw_aload_n dX11_tells_0 rfl ?_
  refine aw_iload_n dX11_tells_1 rfl ?_
  refine aw_putI dX11_tells_2 fpX11_70 rfl (MS.s0 hM) ?_
  refine aw_iload_n dX11_tells_5 rfl ?_
  refine aw_iret dX11_tells_6 rfl (rb0 (Nat.zero_le _)) ⟨rfl, _, rfl, rfl, rfl, rfl⟩
theorem m_rowAt {G : GC} {E : SH} {iv : IV} {lv : LV} {M : Nat} (hM : MS G E M) {a p : Nat} (h : 40 * a + p < 240) : ExI G mX11_rowAt 1 [.ref M, .int (nI a), .int (nI p)] E iv lv (iv (M + 3) (40 * a + p)) iv lv := by
  refine spec0_of (lo := [_,_,_]) (by decide) (Nat.le_of_ble_eq_true rfl) rfl ?_
  refine aw_aload_n dX11_rowAt_0 rfl ?_
  refine aw_getR dX11_rowAt_1 fgX11_20 rfl (MS.s0 hM) (MS.r0_6 hM) ?_
  refine aw_bipush (v := nI 40) dX11_rowAt_4 kb_40 ?_
  refine aw_iload_n dX11_rowAt_6 rfl ?_
  refine aw_imul dX11_rowAt_7 ?_
  refine aw_iload_n dX11_rowAt_8 rfl ?_
  refine aw_iadd dX11_rowAt_9 ?_
  refine aw_iaload dX11_rowAt_10 (MS.s3 hM) (show nI 40 * nI a + nI p = nI (40 * a + p) by rw [pk_mul, nI_add]) h ?_
  refine aw_iret dX11_rowAt_11 rfl (rb0 (Nat.zero_le _)) ⟨rfl, _, rfl, rfl, rfl, rfl⟩
theorem MD_row {M j k : Nat} {D : DD} {iv : IV} (hj : j < 6) (hD : MD M D iv) : MD M (dRw (dSz D j (some k)) j (fun _ => 0)) (va_up (va_up iv (M + 2) (upd (iv (M + 2)) j (nI k))) (M + 3) (rng (40 * j) (40 * j + 40) (nI 0) (va_up iv (M + 2) (upd (iv (M + 2)) j (nI k)) (M + 3)))) := by
  refine ⟨fun r hr => ?_, fun r i hr hi => ?_, fun r hr => ?_, fun r i hr hi => ?_⟩
  · rw [va_up_n (by omega), va_up_s]
    show upd _ _ _ _ = szv (va_up D.1 j (some k) r)
    by_cases e : r = j
    · subst e; rw [va_up_s]; exact if_pos rfl
    · rw [va_up_n e]; exact (if_neg e).trans (hD.1 r hr)
  · rw [va_up_s]
    show rng _ _ _ _ _ = va_up D.2.1 j _ r i
    unfold rng
    by_cases e : r = j
    · subst e; rw [if_pos (by omega), va_up_s]; rfl
    · rw [if_neg (by omega), va_up_n (by omega), va_up_n e]; exact hD.2.1 r i hr hi
  · rw [va_up_n (by omega), va_up_n (by omega)]; exact hD.2.2.1 r hr
  · rw [va_up_n (by omega), va_up_n (by omega)]; exact hD.2.2.2 r i hr hi
theorem MD_text {M j k : Nat} {D : DD} {iv : IV} (hj : j < 4) (hD : MD M D iv) : MD M (dTx (dTz D j (some k)) j (fun _ => nI 32)) (va_up (va_up iv (M + 5) (upd (iv (M + 5)) j (nI k))) (M + 6) (rng (60 * j) (60 * j + 60) (nI 32) (va_up iv (M + 5) (upd (iv (M + 5)) j (nI k)) (M + 6)))) := by
  refine ⟨fun r hr => ?_, fun r i hr hi => ?_, fun r hr => ?_, fun r i hr hi => ?_⟩
  · rw [va_up_n (by omega), va_up_n (by omega)]; exact hD.1 r hr
  · rw [va_up_n (by omega), va_up_n (by omega)]; exact hD.2.1 r i hr hi
  · rw [va_up_n (by omega), va_up_s]
    show upd _ _ _ _ = szv (va_up D.2.2.1 j (some k) r)
    by_cases e : r = j
    · subst e; rw [va_up_s]; exact if_pos rfl
    · rw [va_up_n e]; exact (if_neg e).trans (hD.2.2.1 r hr)
  · rw [va_up_s]
    show rng _ _ _ _ _ = va_up D.2.2.2 j _ r i
    unfold rng
    by_cases e : r = j
    · subst e; rw [if_pos (by omega), va_up_s]
    · rw [if_neg (by omega), va_up_n (by omega), va_up_n e]; exact hD.2.2.2 r i hr hi
theorem lm_row {G : GC} {E : SH} {lv : LV} {M : Nat} (hM : MS G E M) {iv0 : IV} {j k : Nat} (hj : j < 6) {Q : Int32 → IV → LV → Prop} (hq : Q (nI k) (va_up iv0 (M + 3) (rng (40 * j) (40 * j + 40) (nI 0) (iv0 (M + 3)))) lv) : ∀ (c i : Nat), i + c = 40 → AW G mX11_row (rm 3 0) (Z0 G 3 E (fun r i l => ∃ v, r = some (.int v) ∧ Q v i l)) (fun _ => True) E.1 34 [some (.ref M), some (.int (nI j)), some (.int (nI k)), some (.int (nI i))] [] E (va_up iv0 (M + 3) (rng (40 * j) (40 * j + i) (nI 0) (iv0 (M + 3)))) lv := by
  intro c
  induction c with
  | zero =>
    intro i hi
    have hi : i = 40 := by omega
    subst hi
    refine aw_iload_n dX11_row_34 rfl ?_
    refine aw_bipush (v := nI 40) dX11_row_35 kb_40 ?_
    refine aw_icmp_ge (tgt := 58) dX11_row_37 rfl (fun h37 => ?_) (fun h37 => absurd (nI_le (Nat.le_refl _) (by decide)) h37)
    refine aw_iload_n dX11_row_58 rfl ?_
    refine aw_iret dX11_row_59 rfl (rb0 (Nat.zero_le _)) ⟨rfl, _, rfl, hq⟩
  | succ c ih =>
    intro i hi
    refine aw_iload_n dX11_row_34 rfl ?_
    refine aw_bipush (v := nI 40) dX11_row_35 kb_40 ?_
    refine aw_icmp_ge (tgt := 58) dX11_row_37 rfl (fun h37 => absurd h37 (nI_ge (by omega) (by decide))) (fun h37 => ?_)
    refine aw_aload_n dX11_row_40 rfl ?_
    refine aw_getR dX11_row_41 fgX11_20 rfl (MS.s0 hM) (MS.r0_6 hM) ?_
    refine aw_bipush (v := nI 40) dX11_row_44 kb_40 ?_
    refine aw_iload_n dX11_row_46 rfl ?_
    refine aw_imul dX11_row_47 ?_
    refine aw_iload_n dX11_row_48 rfl ?_
    refine aw_iadd dX11_row_49 ?_
    refine aw_iconst (v := nI 0) dX11_row_50 kc_0 ?_
    refine aw_iastore dX11_row_51 (MS.s3 hM) (show nI 40 * nI j + nI i = nI (40 * j + i) by rw [pk_mul, nI_add]) (by omega) ?_
    refine aw_iinc (v := _) (lo' := [_,_,_,_]) dX11_row_52 rfl (nI_1 i) rfl ?_
    refine aw_goto (tgt := 34) dX11_row_55 rfl ?_
    have h := ih (i + 1) (by omega)
    rw [show 40 * j + (i + 1) = 40 * j + i + 1 by omega, ← rng_s _ _ _ _ (by omega), ← up_up iv0 (M + 3) (rng (40 * j) (40 * j + i) (nI 0) (iv0 (M + 3)))] at h
    rw [va_up_s]
    exact h
theorem m_row {G : GC} {E : SH} {iv : IV} {lv : LV} {M : Nat} (hM : MS G E M) {A : AA} {D : DD} (hA : MA M A iv lv) (hD : MD M D iv) (hW : WD D) (r n : Int32) : SpI G mX11_row 3 [.ref M, .int r, .int n] E iv lv (QMo M iv lv (oRow A D r n)) := by
  refine spec0_of (lo := [_,_,_,_]) (by decide) (Nat.le_of_ble_eq_true rfl) rfl ?_
  refine aw_iload_n dX11_row_0 rfl ?_
  refine aw_xSi [_] dX11_row_1 csX11_80 (m_isRow r) rfl rfl (Nat.le_of_ble_eq_true rfl) (rb0 (by decide)) ?_
  refine aw_if_eq (tgt := 13) dX11_row_4 rfl (fun h4 => ?_) (fun h4 => ?_)
  · refine aw_iconst (v := (-1)) dX11_row_13 kc_m1 ?_
    refine aw_iret dX11_row_14 rfl (rb0 (Nat.zero_le _)) ⟨rfl, _, rfl, ?_⟩
    refine QM_no hA hD ?_
    unfold oRow
    first | exact if_pos (Or.inl (zi_bad h4)) | exact if_pos (Or.inr (Int32.not_le.mp h10))
  · obtain ⟨j, hj, rfl⟩ := zi_of h4 (by decide)
    refine aw_iload_n dX11_row_7 rfl ?_
    refine aw_bipush (v := nI 40) dX11_row_8 kb_40 ?_
    refine aw_icmp_le (tgt := 15) dX11_row_10 rfl (fun h10 => ?_) (fun h10 => ?_)
    · refine aw_iload_n dX11_row_15 rfl ?_
      refine aw_if_ge (tgt := 25) dX11_row_16 rfl (fun h16 => ?_) (fun h16 => ?_)
      · obtain ⟨k, hk, rfl⟩ := ix_le (Int32.not_lt.mpr h16) (Int32.not_lt.mpr h10) (by decide)
        refine aw_aload_n dX11_row_25 rfl ?_
        refine aw_getR dX11_row_26 fgX11_17 rfl (MS.s0 hM) (MS.r0_5 hM) ?_
        refine aw_iload_n dX11_row_29 rfl ?_
        refine aw_iload_n dX11_row_30 rfl ?_
        refine aw_iastore dX11_row_31 (MS.s2 hM) rfl hj ?_
        refine aw_iconst (v := nI 0) dX11_row_32 kc_0 ?_
        refine aw_istore_n (lo' := [_,_,_,_]) dX11_row_33 (Nat.le_of_ble_eq_true rfl) rfl ?_
        have h := lm_row hM (iv0 := va_up iv (M + 2) (upd (iv (M + 2)) j (nI k))) (k := k) (lv := lv) hj (Q := QMo M iv lv (oRow A D (nI j) (nI k))) ?_ 40 0 rfl
        · rw [rng_0z, up_id] at h
          exact h
        · have e : oRow A D (nI j) (nI k) = (nI k, A, (dRw (dSz D j (some k)) j (fun _ => 0))) := by
            unfold oRow
            rw [if_neg (fun q => q.elim (nbad hj (by decide)) (fun q => absurd q (nI_nlt hk (by omega)))), if_neg (nI_pos (by omega)), ix_nI (by omega), ix_nI (by omega)]
          refine QM_ar e hA (by rw [va_up_n (by omega), va_up_n (by omega)]) (by rw [va_up_n (by omega), va_up_n (by omega)]) ?_ (fun a ha => by rw [va_up_n (fun e => ha ⟨by omega, by omega⟩), va_up_n (fun e => ha ⟨by omega, by omega⟩)])
          exact MD_row hj hD
      · refine aw_aload_n dX11_row_19 rfl ?_
        refine aw_iconst (v := nI 5) dX11_row_20 kc_5 ?_
        refine aw_xVi [_] dX11_row_21 cvX11_84 (MS.s0 hM) (m_found hM (f := 5) (by decide)) rfl rfl (Nat.le_of_ble_eq_true rfl) (rb0 (by decide)) ?_
        refine aw_iret dX11_row_24 rfl (rb0 (Nat.zero_le _)) ⟨rfl, _, rfl, ?_⟩
        refine QM_fnd (f := 5) hA hD (by decide) ?_
        unfold oRow
        rw [if_neg (fun q => q.elim (nbad hj (by decide)) (fun q => absurd q (Int32.not_lt.mpr h10))), if_pos (Int32.not_le.mp h16)]
    · refine aw_iconst (v := (-1)) dX11_row_13 kc_m1 ?_
      refine aw_iret dX11_row_14 rfl (rb0 (Nat.zero_le _)) ⟨rfl, _, rfl, ?_⟩
      refine QM_no hA hD ?_
      unfold oRow
      first | exact if_pos (Or.inl (zi_bad h4)) | exact if_pos (Or.inr (Int32.not_le.mp h10))
theorem lm_text {G : GC} {E : SH} {lv : LV} {M : Nat} (hM : MS G E M) {iv0 : IV} {j k : Nat} (hj : j < 4) {Q : Int32 → IV → LV → Prop} (hq : Q (nI k) (va_up iv0 (M + 6) (rng (60 * j) (60 * j + 60) (nI 32) (iv0 (M + 6)))) lv) : ∀ (c i : Nat), i + c = 60 → AW G mX11_text (rm 3 0) (Z0 G 3 E (fun r i l => ∃ v, r = some (.int v) ∧ Q v i l)) (fun _ => True) E.1 34 [some (.ref M), some (.int (nI j)), some (.int (nI k)), some (.int (nI i))] [] E (va_up iv0 (M + 6) (rng (60 * j) (60 * j + i) (nI 32) (iv0 (M + 6)))) lv := by
  intro c
  induction c with
  | zero =>
    intro i hi
    have hi : i = 60 := by omega
    subst hi
    refine aw_iload_n dX11_text_34 rfl ?_
    refine aw_bipush (v := nI 60) dX11_text_35 kb_60 ?_
    refine aw_icmp_ge (tgt := 59) dX11_text_37 rfl (fun h37 => ?_) (fun h37 => absurd (nI_le (Nat.le_refl _) (by decide)) h37)
    refine aw_iload_n dX11_text_59 rfl ?_
    refine aw_iret dX11_text_60 rfl (rb0 (Nat.zero_le _)) ⟨rfl, _, rfl, hq⟩
  | succ c ih =>
    intro i hi
    refine aw_iload_n dX11_text_34 rfl ?_
    refine aw_bipush (v := nI 60) dX11_text_35 kb_60 ?_
    refine aw_icmp_ge (tgt := 59) dX11_text_37 rfl (fun h37 => absurd h37 (nI_ge (by omega) (by decide))) (fun h37 => ?_)
    refine aw_aload_n dX11_text_40 rfl ?_
    refine aw_getR dX11_text_41 fgX11_29 rfl (MS.s0 hM) (MS.r0_9 hM) ?_
    refine aw_bipush (v := nI 60) dX11_text_44 kb_60 ?_
    refine aw_iload_n dX11_text_46 rfl ?_
    refine aw_imul dX11_text_47 ?_
    refine aw_iload_n dX11_text_48 rfl ?_
    refine aw_iadd dX11_text_49 ?_
    refine aw_bipush (v := nI 32) dX11_text_50 kb_32 ?_
    refine aw_bastore dX11_text_52 (MS.s6 hM) (show nI 60 * nI j + nI i = nI (60 * j + i) by rw [pk_mul, nI_add]) (by omega) ?_
    refine aw_iinc (v := _) (lo' := [_,_,_,_]) dX11_text_53 rfl (nI_1 i) rfl ?_
    refine aw_goto (tgt := 34) dX11_text_56 rfl ?_
    have h := ih (i + 1) (by omega)
    rw [show 60 * j + (i + 1) = 60 * j + i + 1 by omega, ← rng_s _ _ _ _ (by omega), ← up_up iv0 (M + 6) (rng (60 * j) (60 * j + i) (nI 32) (iv0 (M + 6)))] at h
    rw [va_up_s]
    exact h
theorem m_text {G : GC} {E : SH} {iv : IV} {lv : LV} {M : Nat} (hM : MS G E M) {A : AA} {D : DD} (hA : MA M A iv lv) (hD : MD M D iv) (hW : WD D) (r n : Int32) : SpI G mX11_text 3 [.ref M, .int r, .int n] E iv lv (QMo M iv lv (oText A D r n)) := by
  refine spec0_of (lo := [_,_,_,_]) (by decide) (Nat.le_of_ble_eq_true rfl) rfl ?_
  refine aw_iload_n dX11_text_0 rfl ?_
  refine aw_xSi [_] dX11_text_1 csX11_95 (m_isText r) rfl rfl (Nat.le_of_ble_eq_true rfl) (rb0 (by decide)) ?_
  refine aw_if_eq (tgt := 13) dX11_text_4 rfl (fun h4 => ?_) (fun h4 => ?_)
  · refine aw_iconst (v := (-1)) dX11_text_13 kc_m1 ?_
    refine aw_iret dX11_text_14 rfl (rb0 (Nat.zero_le _)) ⟨rfl, _, rfl, ?_⟩
    refine QM_no hA hD ?_
    unfold oText
    first | exact if_pos (Or.inl (zi_bad h4)) | exact if_pos (Or.inr (Int32.not_le.mp h10))
  · obtain ⟨j, hj, rfl⟩ := zi_of h4 (by decide)
    refine aw_iload_n dX11_text_7 rfl ?_
    refine aw_bipush (v := nI 60) dX11_text_8 kb_60 ?_
    refine aw_icmp_le (tgt := 15) dX11_text_10 rfl (fun h10 => ?_) (fun h10 => ?_)
    · refine aw_iload_n dX11_text_15 rfl ?_
      refine aw_if_ge (tgt := 25) dX11_text_16 rfl (fun h16 => ?_) (fun h16 => ?_)
      · obtain ⟨k, hk, rfl⟩ := ix_le (Int32.not_lt.mpr h16) (Int32.not_lt.mpr h10) (by decide)
        refine aw_aload_n dX11_text_25 rfl ?_
        refine aw_getR dX11_text_26 fgX11_26 rfl (MS.s0 hM) (MS.r0_8 hM) ?_
        refine aw_iload_n dX11_text_29 rfl ?_
        refine aw_iload_n dX11_text_30 rfl ?_
        refine aw_iastore dX11_text_31 (MS.s5 hM) rfl hj ?_
        refine aw_iconst (v := nI 0) dX11_text_32 kc_0 ?_
        refine aw_istore_n (lo' := [_,_,_,_]) dX11_text_33 (Nat.le_of_ble_eq_true rfl) rfl ?_
        have h := lm_text hM (iv0 := va_up iv (M + 5) (upd (iv (M + 5)) j (nI k))) (k := k) (lv := lv) hj (Q := QMo M iv lv (oText A D (nI j) (nI k))) ?_ 60 0 rfl
        · rw [rng_0z, up_id] at h
          exact h
        · have e : oText A D (nI j) (nI k) = (nI k, A, (dTx (dTz D j (some k)) j (fun _ => nI 32))) := by
            unfold oText
            rw [if_neg (fun q => q.elim (nbad hj (by decide)) (fun q => absurd q (nI_nlt hk (by omega)))), if_neg (nI_pos (by omega)), ix_nI (by omega), ix_nI (by omega)]
          refine QM_ar e hA (by rw [va_up_n (by omega), va_up_n (by omega)]) (by rw [va_up_n (by omega), va_up_n (by omega)]) ?_ (fun a ha => by rw [va_up_n (fun e => ha ⟨by omega, by omega⟩), va_up_n (fun e => ha ⟨by omega, by omega⟩)])
          exact MD_text hj hD
      · refine aw_aload_n dX11_text_19 rfl ?_
        refine aw_iconst (v := nI 5) dX11_text_20 kc_5 ?_
        refine aw_xVi [_] dX11_text_21 cvX11_84 (MS.s0 hM) (m_found hM (f := 5) (by decide)) rfl rfl (Nat.le_of_ble_eq_true rfl) (rb0 (by decide)) ?_
        refine aw_iret dX11_text_24 rfl (rb0 (Nat.zero_le _)) ⟨rfl, _, rfl, ?_⟩
        refine QM_fnd (f := 5) hA hD (by decide) ?_
        unfold oText
        rw [if_neg (fun q => q.elim (nbad hj (by decide)) (fun q => absurd q (Int32.not_lt.mpr h10))), if_pos (Int32.not_le.mp h16)]
    · refine aw_iconst (v := (-1)) dX11_text_13 kc_m1 ?_
      refine aw_iret dX11_text_14 rfl (rb0 (Nat.zero_le _)) ⟨rfl, _, rfl, ?_⟩
      refine QM_no hA hD ?_
      unfold oText
      first | exact if_pos (Or.inl (zi_bad h4)) | exact if_pos (Or.inr (Int32.not_le.mp h10))
theorem m_tear {G : GC} {E : SH} {iv : IV} {lv : LV} {M : Nat} (hM : MS G E M) {A : AA} {D : DD} (hA : MA M A iv lv) (hD : MD M D iv) (hW : WD D) (r : Int32) : SpI G mX11_tear 3 [.ref M, .int r] E iv lv (QMo M iv lv (oTear A D r)) := by
  refine spec0_of (lo := [_,_]) (by decide) (Nat.le_of_ble_eq_true rfl) rfl ?_
  refine aw_iload_n dX11_tear_0 rfl ?_
  refine aw_xSi [_] dX11_tear_1 csX11_80 (m_isRow r) rfl rfl (Nat.le_of_ble_eq_true rfl) (rb0 (by decide)) ?_
  refine aw_if_ne (tgt := 9) dX11_tear_4 rfl (fun h4 => ?_) (fun h4 => ?_)
  · obtain ⟨j, hj, rfl⟩ := zi_of h4 (by decide)
    refine aw_aload_n dX11_tear_9 rfl ?_
    refine aw_getR dX11_tear_10 fgX11_17 rfl (MS.s0 hM) (MS.r0_5 hM) ?_
    refine aw_iload_n dX11_tear_13 rfl ?_
    refine aw_iaload dX11_tear_14 (MS.s2 hM) rfl hj ?_
    refine aw_if_ge (tgt := 24) dX11_tear_15 rfl (fun h15 => ?_) (fun h15 => ?_)
    · obtain ⟨k, e1⟩ : ∃ k, D.1 j = some k := szv_pos (by rw [← hD.1 j hj]; exact Int32.not_lt.mpr h15)
      have hk := hW.1 j hj k e1
      have hz : iv (M + 2) j = nI k := by rw [hD.1 j hj, e1]; rfl
      refine aw_aload_n dX11_tear_24 rfl ?_
      refine aw_getR dX11_tear_25 fgX11_17 rfl (MS.s0 hM) (MS.r0_5 hM) ?_
      refine aw_iload_n dX11_tear_28 rfl ?_
      refine aw_iconst (v := (-1)) dX11_tear_29 kc_m1 ?_
      refine aw_iastore dX11_tear_30 (MS.s2 hM) rfl hj ?_
      refine aw_iconst (v := nI 1) dX11_tear_31 kc_1 ?_
      refine aw_iret dX11_tear_32 rfl (rb0 (Nat.zero_le _)) ⟨rfl, _, rfl, ?_⟩
      refine QM_ar (oTear_k hj e1) hA (va_up_n (by omega)) (va_up_n (by omega)) ?_ (fun a ha => va_up_n (fun e => ha ⟨by omega, by omega⟩))
      refine ⟨fun r hr => ?_, fun r i hr hi => ?_, fun r hr => ?_, fun r i hr hi => ?_⟩
      · rw [va_up_s]
        show upd _ _ _ _ = szv (va_up D.1 j none r)
        by_cases e : r = j
        · subst e; rw [va_up_s]; exact if_pos rfl
        · rw [va_up_n e]; exact (if_neg e).trans (hD.1 r hr)
      · rw [va_up_n (by omega)]; exact hD.2.1 r i hr hi
      · rw [va_up_n (by omega)]; exact hD.2.2.1 r hr
      · rw [va_up_n (by omega)]; exact hD.2.2.2 r i hr hi
    · have e1 : D.1 j = none := szv_neg (by rw [← hD.1 j hj]; exact Int32.not_le.mp h15) (fun k hk => by have := hW.1 j hj k hk; omega)
      refine aw_aload_n dX11_tear_18 rfl ?_
      refine aw_iconst (v := nI 1) dX11_tear_19 kc_1 ?_
      refine aw_xVi [_] dX11_tear_20 cvX11_84 (MS.s0 hM) (m_found hM (f := 1) (by decide)) rfl rfl (Nat.le_of_ble_eq_true rfl) (rb0 (by decide)) ?_
      refine aw_iret dX11_tear_23 rfl (rb0 (Nat.zero_le _)) ⟨rfl, _, rfl, ?_⟩
      exact QM_fnd hA hD (by decide) (oTear_n hj e1)
  · refine aw_iconst (v := (-1)) dX11_tear_7 kc_m1 ?_
    refine aw_iret dX11_tear_8 rfl (rb0 (Nat.zero_le _)) ⟨rfl, _, rfl, ?_⟩
    exact QM_no hA hD (if_pos (zi_bad h4))
theorem MD_rw {M j p : Nat} {D : DD} {iv : IV} {v : Int32} (hj : j < 6) (hp : p < 40) (hD : MD M D iv) : MD M (dRw D j (upd (D.2.1 j) p v)) (va_up iv (M + 3) (upd (iv (M + 3)) (40 * j + p) v)) := by
  refine ⟨fun r hr => ?_, fun r i hr hi => ?_, fun r hr => ?_, fun r i hr hi => ?_⟩
  · rw [va_up_n (by omega)]; exact hD.1 r hr
  · rw [va_up_s]
    show upd _ _ _ _ = va_up D.2.1 j _ r i
    unfold upd
    by_cases e : r = j
    · subst e
      rw [va_up_s]
      by_cases e2 : i = p
      · subst e2; rw [if_pos rfl, if_pos rfl]
      · rw [if_neg (by omega), if_neg e2]; exact hD.2.1 r i hr hi
    · rw [va_up_n e, if_neg (by omega)]; exact hD.2.1 r i hr hi
  · rw [va_up_n (by omega)]; exact hD.2.2.1 r hr
  · rw [va_up_n (by omega)]; exact hD.2.2.2 r i hr hi
theorem MD_tx {M j p : Nat} {D : DD} {iv : IV} {v : Int32} (hj : j < 4) (hp : p < 60) (hD : MD M D iv) : MD M (dTx D j (upd (D.2.2.2 j) p v)) (va_up iv (M + 6) (upd (iv (M + 6)) (60 * j + p) v)) := by
  refine ⟨fun r hr => ?_, fun r i hr hi => ?_, fun r hr => ?_, fun r i hr hi => ?_⟩
  · rw [va_up_n (by omega)]; exact hD.1 r hr
  · rw [va_up_n (by omega)]; exact hD.2.1 r i hr hi
  · rw [va_up_n (by omega)]; exact hD.2.2.1 r hr
  · rw [va_up_s]
    show upd _ _ _ _ = va_up D.2.2.2 j _ r i
    unfold upd
    by_cases e : r = j
    · subst e
      rw [va_up_s]
      by_cases e2 : i = p
      · subst e2; rw [if_pos rfl, if_pos rfl]
      · rw [if_neg (by omega), if_neg e2]; exact hD.2.2.2 r i hr hi
    · rw [va_up_n e, if_neg (by omega)]; exact hD.2.2.2 r i hr hi
theorem m_at {G : GC} {E : SH} {iv : IV} {lv : LV} {M : Nat} (hM : MS G E M) {A : AA} {D : DD} (hA : MA M A iv lv) (hD : MD M D iv) (hW : WD D) (r i : Int32) : SpI G mX11_at 3 [.ref M, .int r, .int i] E iv lv (QMo M iv lv (oAt A D r i)) := by
  refine spec0_of (lo := [_,_,_]) (by decide) (Nat.le_of_ble_eq_true rfl) rfl ?_
  refine aw_iload_n dX11_at_0 rfl ?_
  refine aw_xSi [_] dX11_at_1 csX11_80 (m_isRow r) rfl rfl (Nat.le_of_ble_eq_true rfl) (rb0 (by decide)) ?_
  refine aw_if_ne (tgt := 9) dX11_at_4 rfl (fun h4 => ?_) (fun h4 => ?_)
  · obtain ⟨j, hj, rfl⟩ := zi_of h4 (by decide)
    refine aw_aload_n dX11_at_9 rfl ?_
    refine aw_getR dX11_at_10 fgX11_17 rfl (MS.s0 hM) (MS.r0_5 hM) ?_
    refine aw_iload_n dX11_at_13 rfl ?_
    refine aw_iaload dX11_at_14 (MS.s2 hM) rfl hj ?_
    refine aw_if_ge (tgt := 24) dX11_at_15 rfl (fun h15 => ?_) (fun h15 => ?_)
    · obtain ⟨k, e1⟩ : ∃ k, D.1 j = some k := szv_pos (by rw [← hD.1 j hj]; exact Int32.not_lt.mpr h15)
      have hk := hW.1 j hj k e1
      have hz : iv (M + 2) j = nI k := by rw [hD.1 j hj, e1]; rfl
      refine aw_iload_n dX11_at_24 rfl ?_
      refine aw_iconst (v := nI 0) dX11_at_25 kc_0 ?_
      refine aw_aload_n dX11_at_26 rfl ?_
      refine aw_getR dX11_at_27 fgX11_17 rfl (MS.s0 hM) (MS.r0_5 hM) ?_
      refine aw_iload_n dX11_at_30 rfl ?_
      refine aw_iaload dX11_at_31 (MS.s2 hM) rfl hj ?_
      refine aw_iconst (v := nI 1) dX11_at_32 kc_1 ?_
      refine aw_isub dX11_at_33 ?_
      refine aw_xSi [_, _, _] dX11_at_34 csX11_76 (m_in _ _ _) rfl rfl (Nat.le_of_ble_eq_true rfl) (rb0 (by decide)) ?_
      rw [hz, zI_e (in_iff2 (by omega))]
      refine aw_if_eq (tgt := 54) dX11_at_37 rfl (fun h37 => ?_) (fun h37 => ?_)
      · refine aw_aload_n dX11_at_54 rfl ?_
        refine aw_iconst (v := nI 2) dX11_at_55 kc_2 ?_
        refine aw_xVi [_] dX11_at_56 cvX11_84 (MS.s0 hM) (m_found hM (f := 2) (by decide)) rfl rfl (Nat.le_of_ble_eq_true rfl) (rb0 (by decide)) ?_
        refine aw_iret dX11_at_59 rfl (rb0 (Nat.zero_le _)) ⟨rfl, _, rfl, ?_⟩
        first
          | exact QM_fnd hA hD (by decide) (oAt_b hj e1 (zI_0.mp h37))
          | (rw [oAt_k hj e1 hp (by omega), ← hD.2.1 j p hj (by omega)]
             exact ⟨rfl, MA_tel hA, MD_tel hD, fun a ha => telN_o (fun e => ha ⟨by omega, by omega⟩), by rw [telN_M]; rfl, by rw [telN_M]; rfl, rfl⟩)
      · have hb := zI_n0.mp h37
        obtain ⟨p, hp, rfl⟩ := ix_of (r := i) (k := k) (fun q => q hb) (by omega)
        refine aw_aload_n dX11_at_40 rfl ?_
        refine aw_aload_n dX11_at_41 rfl ?_
        refine aw_iload_n dX11_at_42 rfl ?_
        refine aw_iload_n dX11_at_43 rfl ?_
        refine aw_xVi [_, _] dX11_at_44 cvX11_88 (MS.s0 hM) (m_rowAt hM (by omega)) rfl rfl (Nat.le_of_ble_eq_true rfl) (rb0 (by decide)) ?_
        refine aw_iconst (v := nI 1) dX11_at_47 kc_1 ?_
        refine aw_xVi [_, _] dX11_at_48 cvX11_92 (MS.s0 hM) (m_tells hM _ _) rfl rfl (Nat.le_of_ble_eq_true rfl) (rb0 (by decide)) ?_
        refine aw_goto (tgt := 59) dX11_at_51 rfl ?_
        refine aw_iret dX11_at_59 rfl (rb0 (Nat.zero_le _)) ⟨rfl, _, rfl, ?_⟩
        first
          | exact QM_fnd hA hD (by decide) (oAt_b hj e1 (zI_0.mp h37))
          | (rw [oAt_k hj e1 hp (by omega), ← hD.2.1 j p hj (by omega)]
             exact ⟨rfl, MA_tel hA, MD_tel hD, fun a ha => telN_o (fun e => ha ⟨by omega, by omega⟩), by rw [telN_M]; rfl, by rw [telN_M]; rfl, rfl⟩)
    · have e1 : D.1 j = none := szv_neg (by rw [← hD.1 j hj]; exact Int32.not_le.mp h15) (fun k hk => by have := hW.1 j hj k hk; omega)
      refine aw_aload_n dX11_at_18 rfl ?_
      refine aw_iconst (v := nI 1) dX11_at_19 kc_1 ?_
      refine aw_xVi [_] dX11_at_20 cvX11_84 (MS.s0 hM) (m_found hM (f := 1) (by decide)) rfl rfl (Nat.le_of_ble_eq_true rfl) (rb0 (by decide)) ?_
      refine aw_iret dX11_at_23 rfl (rb0 (Nat.zero_le _)) ⟨rfl, _, rfl, ?_⟩
      exact QM_fnd hA hD (by decide) (oAt_n i hj e1)
  · refine aw_iconst (v := (-1)) dX11_at_7 kc_m1 ?_
    refine aw_iret dX11_at_8 rfl (rb0 (Nat.zero_le _)) ⟨rfl, _, rfl, ?_⟩
    exact QM_no hA hD (if_pos (zi_bad h4))
theorem m_lay {G : GC} {E : SH} {iv : IV} {lv : LV} {M : Nat} (hM : MS G E M) {A : AA} {D : DD} (hA : MA M A iv lv) (hD : MD M D iv) (hW : WD D) (r i v : Int32) : SpI G mX11_lay 3 [.ref M, .int r, .int i, .int v] E iv lv (QMo M iv lv (oLay A D r i v)) := by
  refine spec0_of (lo := [_,_,_,_,_]) (by decide) (Nat.le_of_ble_eq_true rfl) rfl ?_
  refine aw_iload_n dX11_lay_0 rfl ?_
  refine aw_xSi [_] dX11_lay_1 csX11_80 (m_isRow r) rfl rfl (Nat.le_of_ble_eq_true rfl) (rb0 (by decide)) ?_
  refine aw_if_ne (tgt := 9) dX11_lay_4 rfl (fun h4 => ?_) (fun h4 => ?_)
  · obtain ⟨j, hj, rfl⟩ := zi_of h4 (by decide)
    refine aw_aload_n dX11_lay_9 rfl ?_
    refine aw_getR dX11_lay_10 fgX11_17 rfl (MS.s0 hM) (MS.r0_5 hM) ?_
    refine aw_iload_n dX11_lay_13 rfl ?_
    refine aw_iaload dX11_lay_14 (MS.s2 hM) rfl hj ?_
    refine aw_if_ge (tgt := 24) dX11_lay_15 rfl (fun h15 => ?_) (fun h15 => ?_)
    · obtain ⟨k, e1⟩ : ∃ k, D.1 j = some k := szv_pos (by rw [← hD.1 j hj]; exact Int32.not_lt.mpr h15)
      have hk := hW.1 j hj k e1
      have hz : iv (M + 2) j = nI k := by rw [hD.1 j hj, e1]; rfl
      refine aw_iload_n dX11_lay_24 rfl ?_
      refine aw_iconst (v := nI 0) dX11_lay_25 kc_0 ?_
      refine aw_aload_n dX11_lay_26 rfl ?_
      refine aw_getR dX11_lay_27 fgX11_17 rfl (MS.s0 hM) (MS.r0_5 hM) ?_
      refine aw_iload_n dX11_lay_30 rfl ?_
      refine aw_iaload dX11_lay_31 (MS.s2 hM) rfl hj ?_
      refine aw_iconst (v := nI 1) dX11_lay_32 kc_1 ?_
      refine aw_isub dX11_lay_33 ?_
      refine aw_xSi [_, _, _] dX11_lay_34 csX11_76 (m_in _ _ _) rfl rfl (Nat.le_of_ble_eq_true rfl) (rb0 (by decide)) ?_
      rw [hz, zI_e (in_iff2 (by omega))]
      refine aw_if_ne (tgt := 46) dX11_lay_37 rfl (fun h37 => ?_) (fun h37 => ?_)
      · have hb := zI_n0.mp h37
        obtain ⟨p, hp, rfl⟩ := ix_of (r := i) (k := k) (fun q => q hb) (by omega)
        refine aw_aload_n dX11_lay_46 rfl ?_
        refine aw_iload_n dX11_lay_47 rfl ?_
        refine aw_iload_n dX11_lay_48 rfl ?_
        refine aw_xVi [_, _] dX11_lay_49 cvX11_88 (MS.s0 hM) (m_rowAt hM (by omega)) rfl rfl (Nat.le_of_ble_eq_true rfl) (rb0 (by decide)) ?_
        refine aw_istore (lo' := [_,_,_,_,_]) dX11_lay_52 (Nat.le_of_ble_eq_true rfl) rfl ?_
        refine aw_aload_n dX11_lay_54 rfl ?_
        refine aw_getR dX11_lay_55 fgX11_20 rfl (MS.s0 hM) (MS.r0_6 hM) ?_
        refine aw_bipush (v := nI 40) dX11_lay_58 kb_40 ?_
        refine aw_iload_n dX11_lay_60 rfl ?_
        refine aw_imul dX11_lay_61 ?_
        refine aw_iload_n dX11_lay_62 rfl ?_
        refine aw_iadd dX11_lay_63 ?_
        refine aw_iload_n dX11_lay_64 rfl ?_
        refine aw_iastore dX11_lay_65 (MS.s3 hM) (show nI 40 * nI j + nI p = nI (40 * j + p) by rw [pk_mul, nI_add]) (by omega) ?_
        refine aw_aload_n dX11_lay_66 rfl ?_
        refine aw_iload dX11_lay_67 rfl ?_
        refine aw_iconst (v := nI 1) dX11_lay_69 kc_1 ?_
        refine aw_xVi [_, _] dX11_lay_70 cvX11_92 (MS.s0 hM) (m_tells hM _ _) rfl rfl (Nat.le_of_ble_eq_true rfl) (rb0 (by decide)) ?_
        refine aw_iret dX11_lay_73 rfl (rb0 (Nat.zero_le _)) ⟨rfl, _, rfl, ?_⟩
        rw [oLay_k v hj e1 hp (by omega), ← hD.2.1 j p hj (by omega)]
        refine ⟨rfl, MA_tel (MA_of hA (va_up_n (by omega)) (va_up_n (by omega))), ?_, fun a ha => ?_, ?_, ?_, rfl⟩
        · exact MD_tel (MD_rw hj (by omega) hD)
        · rw [telN_o (fun e => ha ⟨by omega, by omega⟩), va_up_n (fun e => ha ⟨by omega, by omega⟩)]
        · rw [telN_M, va_up_n (by omega)]; rfl
        · rw [telN_M, va_up_n (by omega)]; rfl
      · refine aw_aload_n dX11_lay_40 rfl ?_
        refine aw_iconst (v := nI 2) dX11_lay_41 kc_2 ?_
        refine aw_xVi [_] dX11_lay_42 cvX11_84 (MS.s0 hM) (m_found hM (f := 2) (by decide)) rfl rfl (Nat.le_of_ble_eq_true rfl) (rb0 (by decide)) ?_
        refine aw_iret dX11_lay_45 rfl (rb0 (Nat.zero_le _)) ⟨rfl, _, rfl, ?_⟩
        exact QM_fnd hA hD (by decide) (oLay_b v hj e1 (zI_0.mp h37))
    · have e1 : D.1 j = none := szv_neg (by rw [← hD.1 j hj]; exact Int32.not_le.mp h15) (fun k hk => by have := hW.1 j hj k hk; omega)
      refine aw_aload_n dX11_lay_18 rfl ?_
      refine aw_iconst (v := nI 1) dX11_lay_19 kc_1 ?_
      refine aw_xVi [_] dX11_lay_20 cvX11_84 (MS.s0 hM) (m_found hM (f := 1) (by decide)) rfl rfl (Nat.le_of_ble_eq_true rfl) (rb0 (by decide)) ?_
      refine aw_iret dX11_lay_23 rfl (rb0 (Nat.zero_le _)) ⟨rfl, _, rfl, ?_⟩
      exact QM_fnd hA hD (by decide) (oLay_n i v hj e1)
  · refine aw_iconst (v := (-1)) dX11_lay_7 kc_m1 ?_
    refine aw_iret dX11_lay_8 rfl (rb0 (Nat.zero_le _)) ⟨rfl, _, rfl, ?_⟩
    exact QM_no hA hD (if_pos (zi_bad h4))
theorem m_put {G : GC} {E : SH} {iv : IV} {lv : LV} {M : Nat} (hM : MS G E M) {A : AA} {D : DD} (hA : MA M A iv lv) (hD : MD M D iv) (hW : WD D) (r i v : Int32) : SpI G mX11_put 3 [.ref M, .int r, .int i, .int v] E iv lv (QMo M iv lv (oPut A D r i v)) := by
  refine spec0_of (lo := [_,_,_,_,_]) (by decide) (Nat.le_of_ble_eq_true rfl) rfl ?_
  refine aw_iload_n dX11_put_0 rfl ?_
  refine aw_xSi [_] dX11_put_1 csX11_95 (m_isText r) rfl rfl (Nat.le_of_ble_eq_true rfl) (rb0 (by decide)) ?_
  refine aw_if_ne (tgt := 9) dX11_put_4 rfl (fun h4 => ?_) (fun h4 => ?_)
  · obtain ⟨j, hj, rfl⟩ := zi_of h4 (by decide)
    refine aw_aload_n dX11_put_9 rfl ?_
    refine aw_getR dX11_put_10 fgX11_26 rfl (MS.s0 hM) (MS.r0_8 hM) ?_
    refine aw_iload_n dX11_put_13 rfl ?_
    refine aw_iaload dX11_put_14 (MS.s5 hM) rfl hj ?_
    refine aw_if_ge (tgt := 24) dX11_put_15 rfl (fun h15 => ?_) (fun h15 => ?_)
    · obtain ⟨k, e1⟩ : ∃ k, D.2.2.1 j = some k := szv_pos (by rw [← hD.2.2.1 j hj]; exact Int32.not_lt.mpr h15)
      have hk := hW.2 j hj k e1
      have hz : iv (M + 5) j = nI k := by rw [hD.2.2.1 j hj, e1]; rfl
      refine aw_iload_n dX11_put_24 rfl ?_
      refine aw_iconst (v := nI 0) dX11_put_25 kc_0 ?_
      refine aw_aload_n dX11_put_26 rfl ?_
      refine aw_getR dX11_put_27 fgX11_26 rfl (MS.s0 hM) (MS.r0_8 hM) ?_
      refine aw_iload_n dX11_put_30 rfl ?_
      refine aw_iaload dX11_put_31 (MS.s5 hM) rfl hj ?_
      refine aw_iconst (v := nI 1) dX11_put_32 kc_1 ?_
      refine aw_isub dX11_put_33 ?_
      refine aw_xSi [_, _, _] dX11_put_34 csX11_76 (m_in _ _ _) rfl rfl (Nat.le_of_ble_eq_true rfl) (rb0 (by decide)) ?_
      rw [hz, zI_e (in_iff2 (by omega))]
      refine aw_if_ne (tgt := 46) dX11_put_37 rfl (fun h37 => ?_) (fun h37 => ?_)
      · have hb := zI_n0.mp h37
        obtain ⟨p, hp, rfl⟩ := ix_of (r := i) (k := k) (fun q => q hb) (by omega)
        refine aw_aload_n dX11_put_46 rfl ?_
        refine aw_getR dX11_put_47 fgX11_29 rfl (MS.s0 hM) (MS.r0_9 hM) ?_
        refine aw_bipush (v := nI 60) dX11_put_50 kb_60 ?_
        refine aw_iload_n dX11_put_52 rfl ?_
        refine aw_imul dX11_put_53 ?_
        refine aw_iload_n dX11_put_54 rfl ?_
        refine aw_iadd dX11_put_55 ?_
        refine aw_baload dX11_put_56 (MS.s6 hM) (show nI 60 * nI j + nI p = nI (60 * j + p) by rw [pk_mul, nI_add]) (by omega) ?_
        refine aw_istore (lo' := [_,_,_,_,_]) dX11_put_57 (Nat.le_of_ble_eq_true rfl) rfl ?_
        refine aw_aload_n dX11_put_59 rfl ?_
        refine aw_getR dX11_put_60 fgX11_29 rfl (MS.s0 hM) (MS.r0_9 hM) ?_
        refine aw_bipush (v := nI 60) dX11_put_63 kb_60 ?_
        refine aw_iload_n dX11_put_65 rfl ?_
        refine aw_imul dX11_put_66 ?_
        refine aw_iload_n dX11_put_67 rfl ?_
        refine aw_iadd dX11_put_68 ?_
        refine aw_iload_n dX11_put_69 rfl ?_
        refine aw_i2b dX11_put_70 ?_
        refine aw_bastore dX11_put_71 (MS.s6 hM) (show nI 60 * nI j + nI p = nI (60 * j + p) by rw [pk_mul, nI_add]) (by omega) ?_
        refine aw_sipush (v := nI 1000) dX11_put_72 ks_1000 ?_
        refine aw_iload dX11_put_75 rfl ?_
        refine aw_iadd dX11_put_77 ?_
        refine aw_iret dX11_put_78 rfl (rb0 (Nat.zero_le _)) ⟨rfl, _, rfl, ?_⟩
        rw [fb_byte_twice]
        refine QM_ar (D2 := dTx D j (upd (D.2.2.2 j) p v.toInt8.toInt32)) ?_ hA (va_up_n (by omega)) (va_up_n (by omega)) (MD_tx hj (by omega) hD) (fun a ha => va_up_n (fun e => ha ⟨by omega, by omega⟩))
        rw [oPut_k v hj e1 hp (by omega), ← hD.2.2.2 j p hj (by omega), Int32.add_comm]
      · refine aw_aload_n dX11_put_40 rfl ?_
        refine aw_iconst (v := nI 2) dX11_put_41 kc_2 ?_
        refine aw_xVi [_] dX11_put_42 cvX11_84 (MS.s0 hM) (m_found hM (f := 2) (by decide)) rfl rfl (Nat.le_of_ble_eq_true rfl) (rb0 (by decide)) ?_
        refine aw_iret dX11_put_45 rfl (rb0 (Nat.zero_le _)) ⟨rfl, _, rfl, ?_⟩
        exact QM_fnd hA hD (by decide) (oPut_b v hj e1 (zI_0.mp h37))
    · have e1 : D.2.2.1 j = none := szv_neg (by rw [← hD.2.2.1 j hj]; exact Int32.not_le.mp h15) (fun k hk => by have := hW.2 j hj k hk; omega)
      refine aw_aload_n dX11_put_18 rfl ?_
      refine aw_iconst (v := nI 1) dX11_put_19 kc_1 ?_
      refine aw_xVi [_] dX11_put_20 cvX11_84 (MS.s0 hM) (m_found hM (f := 1) (by decide)) rfl rfl (Nat.le_of_ble_eq_true rfl) (rb0 (by decide)) ?_
      refine aw_iret dX11_put_23 rfl (rb0 (Nat.zero_le _)) ⟨rfl, _, rfl, ?_⟩
      exact QM_fnd hA hD (by decide) (oPut_n i v hj e1)
  · refine aw_iconst (v := (-1)) dX11_put_7 kc_m1 ?_
    refine aw_iret dX11_put_8 rfl (rb0 (Nat.zero_le _)) ⟨rfl, _, rfl, ?_⟩
    exact QM_no hA hD (if_pos (zi_bad h4))
theorem m_asked {G : GC} {E : SH} {iv : IV} {lv : LV} {M : Nat} (hM : MS G E M) {A : AA} (hA : MA M A iv lv) : ExI G mX11_asked 1 [.ref M] E iv lv (A.1) iv lv := by
  refine spec0_of (lo := [_]) (by decide) (Nat.le_of_ble_eq_true rfl) rfl ?_
  refine aw_aload_n dX11_asked_0 rfl ?_
  refine aw_getI dX11_asked_1 fgX11_70 rfl (MS.s0 hM) ?_
  refine aw_iret dX11_asked_4 rfl (rb0 (Nat.zero_le _)) ⟨rfl, _, rfl, hA.1, rfl, rfl⟩
theorem m_finding {G : GC} {E : SH} {iv : IV} {lv : LV} {M : Nat} (hM : MS G E M) {A : AA} (hA : MA M A iv lv) : ExI G mX11_finding 1 [.ref M] E iv lv (A.2.1) iv lv := by
  refine spec0_of (lo := [_]) (by decide) (Nat.le_of_ble_eq_true rfl) rfl ?_
  refine aw_aload_n dX11_finding_0 rfl ?_
  refine aw_getI dX11_finding_1 fgX11_66 rfl (MS.s0 hM) ?_
  refine aw_iret dX11_finding_4 rfl (rb0 (Nat.zero_le _)) ⟨rfl, _, rfl, hA.2.1, rfl, rfl⟩
theorem m_upper {G : GC} {E : SH} {iv : IV} {lv : LV} {M : Nat} (hM : MS G E M) {A : AA} (hA : MA M A iv lv) : ExL G mX11_upper 1 [.ref M] E iv lv (A.2.2.1) iv lv := by
  refine spec0_of (lo := [_]) (by decide) (Nat.le_of_ble_eq_true rfl) rfl ?_
  refine aw_aload_n dX11_upper_0 rfl ?_
  refine aw_getL dX11_upper_1 fgX11_73 rfl (MS.s0 hM) ?_
  refine aw_lret dX11_upper_4 rfl (rb0 (Nat.zero_le _)) ⟨rfl, _, rfl, hA.2.2.1, rfl, rfl⟩
theorem m_lower {G : GC} {E : SH} {iv : IV} {lv : LV} {M : Nat} (hM : MS G E M) {A : AA} (hA : MA M A iv lv) : ExL G mX11_lower 1 [.ref M] E iv lv (A.2.2.2.1) iv lv := by
  refine spec0_of (lo := [_]) (by decide) (Nat.le_of_ble_eq_true rfl) rfl ?_
  refine aw_aload_n dX11_lower_0 rfl ?_
  refine aw_getL dX11_lower_1 fgX11_7 rfl (MS.s0 hM) ?_
  refine aw_lret dX11_lower_4 rfl (rb0 (Nat.zero_le _)) ⟨rfl, _, rfl, hA.2.2.2.1, rfl, rfl⟩
theorem m_findings {G : GC} {E : SH} {iv : IV} {lv : LV} {M : Nat} (hM : MS G E M) {A : AA} (hA : MA M A iv lv) (f : Int32) : ExI G mX11_findings 2 [.ref M, .int f] E iv lv (oFs A f) iv lv := by
  refine spec0_of (lo := [_,_]) (by decide) (Nat.le_of_ble_eq_true rfl) rfl ?_
  refine aw_iload_n dX11_findings_0 rfl ?_
  refine aw_iconst (v := nI 1) dX11_findings_1 kc_1 ?_
  refine aw_iconst (v := nI 5) dX11_findings_2 kc_5 ?_
  refine aw_xSi [_, _, _] dX11_findings_3 csX11_76 (m_in _ _ _) rfl rfl (Nat.le_of_ble_eq_true rfl) (rb0 (by decide)) ?_
  refine aw_if_eq (tgt := 18) dX11_findings_6 rfl (fun h6 => ?_) (fun h6 => ?_)
  · refine aw_iconst (v := (-1)) dX11_findings_18 kc_m1 ?_
    refine aw_iret dX11_findings_19 rfl (rb0 (Nat.zero_le _)) ⟨rfl, _, rfl, ?_, rfl, rfl⟩
    unfold oFs
    first
      | (rw [if_neg (fun q => q.elim (fun q => absurd g1 (Int32.not_le.mpr q)) (fun q => absurd g2 (Int32.not_le.mpr q))), ix_nI (by omega)]
         exact hA.2.2.2.2 j (by omega))
      | (rw [if_pos]
         have g := zI_0.mp h6
         by_cases g1 : f < nI 1
         · exact Or.inl g1
         · exact Or.inr (Int32.not_le.mp (fun g2 => g ⟨Int32.not_lt.mp g1, g2⟩)))
  · obtain ⟨g1, g2⟩ := zI_n0.mp h6
    obtain ⟨j, hj, rfl⟩ := ix_le (fun q => absurd g1 (Int32.not_le.mpr (Int32.lt_of_lt_of_le q (by decide)))) (Int32.not_lt.mpr g2) (by decide)
    refine aw_aload_n dX11_findings_9 rfl ?_
    refine aw_getR dX11_findings_10 fgX11_13 rfl (MS.s0 hM) (MS.r0_4 hM) ?_
    refine aw_iload_n dX11_findings_13 rfl ?_
    refine aw_iaload dX11_findings_14 (MS.s1 hM) rfl (by omega) ?_
    refine aw_goto (tgt := 19) dX11_findings_15 rfl ?_
    refine aw_iret dX11_findings_19 rfl (rb0 (Nat.zero_le _)) ⟨rfl, _, rfl, ?_, rfl, rfl⟩
    unfold oFs
    first
      | (rw [if_neg (fun q => q.elim (fun q => absurd g1 (Int32.not_le.mpr q)) (fun q => absurd g2 (Int32.not_le.mpr q))), ix_nI (by omega)]
         exact hA.2.2.2.2 j (by omega))
      | (rw [if_pos]
         have g := zI_0.mp h6
         by_cases g1 : f < nI 1
         · exact Or.inl g1
         · exact Or.inr (Int32.not_le.mp (fun g2 => g ⟨Int32.not_lt.mp g1, g2⟩)))
