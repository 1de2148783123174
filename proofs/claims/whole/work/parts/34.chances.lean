/-! chances: the greatest shared part -/
def gst (x y : Nat) : Nat → Nat
  | 0 => x
  | c + 1 => if y = 0 then x else gst y (x % y) c
theorem gst_0 (x : Nat) : ∀ c, gst x 0 c = x
  | 0 => rfl
  | _ + 1 => if_pos rfl
theorem gst_g : ∀ k x y c, y < 2 ^ k → 2 * k ≤ c → gst x y c = Nat.gcd y x
  | 0, x, y, c, h, _ => by
    have e : y = 0 := by omega
    subst e
    rw [gst_0, Nat.gcd_zero_left]
  | k + 1, x, y, c, h, hc => by
    by_cases h0 : y = 0
    · subst h0
      rw [gst_0, Nat.gcd_zero_left]
    · obtain ⟨c, rfl⟩ : ∃ e, c = e + 2 := ⟨c - 2, by omega⟩
      rw [show c + 2 = (c + 1) + 1 from rfl, gst, if_neg h0, Nat.gcd_rec y x]
      by_cases h1 : x % y = 0
      · rw [h1, gst_0, Nat.gcd_zero_left]
      · have hl := Nat.mod_lt x (Nat.pos_of_ne_zero h0)
        have hl2 := Nat.mod_lt y (Nat.pos_of_ne_zero h1)
        have hd := Nat.div_add_mod y (x % y)
        have hq : 1 ≤ y / (x % y) := Nat.div_pos (by omega) (by omega)
        have hm : (x % y) * 1 ≤ (x % y) * (y / (x % y)) := Nat.mul_le_mul_left _ hq
        rw [gst, if_neg h1, gst_g k _ _ c (by rw [Nat.pow_succ] at h; omega) (by omega), Nat.gcd_rec (x % y) y]
theorem gst_gcd {x y : Nat} (h : y < 2 ^ 31) : gst x y 100 = Nat.gcd y x := gst_g 31 x y 100 h (by decide)
def lowA (A : AA) (a b : Nat) : AA := (A.1, A.2.1, lN (a / Nat.gcd b a), lN (b / Nat.gcd b a), A.2.2.2.2)
theorem sA_32 : ∀ p, p < 13 → sA p 32 = 248832 := by decide +kernel
theorem sT_b {s : TS} {v : TV} {n p : Nat} (hs : WS s) (hw : WV s v) (hd : v 0 + n < 2 ^ 20) (hp : p ≤ 12) : sT s v n p 32 ≤ 32 * (248832 * 63) := sumU_le (fun x _ => Nat.mul_le_mul (wgt5 hp) (gW_le hs hw hd))
theorem sF_b {s : TS} {v : TV} {n p few : Nat} (hp : p ≤ 12) : sF s v n p few 32 ≤ 32 * 248832 := sumU_le (fun x _ => by
  have h := wgt5 (x := x) hp
  show (if _ then _ else _) ≤ _
  split <;> omega)
def oOdds (A : AA) (D : DD) (T : FT) (k n p : Int32) : RS := if k < 0 ∨ nI 63 < k ∨ ¬ (0 ≤ n ∧ n ≤ nI 20 ∧ 0 ≤ p ∧ p ≤ nI 12) then (-1, A, D, T) else if T.1.1 = 0 then (-4, A, D, T) else (1, lowA A (sF T.1 (nowT T) (ix n) (ix p) (ix k) 32) 248832, D, T)
def oMid (A : AA) (D : DD) (T : FT) (n p : Int32) : RS := if ¬ (0 ≤ n ∧ n ≤ nI 20 ∧ 0 ≤ p ∧ p ≤ nI 12) then (-1, A, D, T) else if T.1.1 = 0 then (-4, A, D, T) else (1, lowA A (sT T.1 (nowT T) (ix n) (ix p) 32) 248832, D, T)
theorem ix_ch {n p : Int32} (h : 0 ≤ n ∧ n ≤ nI 20 ∧ 0 ≤ p ∧ p ≤ nI 12) : ∃ u w, u ≤ 20 ∧ w ≤ 12 ∧ n = nI u ∧ p = nI w := by
  obtain ⟨u, hu, e1⟩ := ix_le (k := 20) (Int32.not_lt.mpr h.1) (Int32.not_lt.mpr h.2.1) (by decide)
  obtain ⟨w, hw, e2⟩ := ix_le (k := 12) (Int32.not_lt.mpr h.2.2.1) (Int32.not_lt.mpr h.2.2.2) (by decide)
  exact ⟨u, w, hu, hw, e1, e2⟩
theorem e_areCh {G : GC} {E : SH} {iv : IV} {lv : LV} {X : Nat} (n p : Int32) : ExI G mX10_areChances 1 [.ref X, .int n, .int p] E iv lv (zI (0 ≤ n ∧ n ≤ nI 20 ∧ 0 ≤ p ∧ p ≤ nI 12)) iv lv := by
  refine spec0_of (lo := [_,_,_]) (by decide) (Nat.le_of_ble_eq_true rfl) rfl ?_
  refine aw_iload_n dX10_areChances_0 rfl ?_
  refine aw_if_lt (tgt := 24) dX10_areChances_1 rfl (fun h1 => ?_) (fun h1 => ?_)
  · refine aw_iconst (v := nI 0) dX10_areChances_24 kc_0 ?_
    refine aw_zret dX10_areChances_25 rfl rfl (rb0 (Nat.zero_le _)) ⟨rfl, _, rfl, ?_, rfl, rfl⟩
    rw [eq_comm]
    first
      | exact zI_f (fun q => absurd q.1 (Int32.not_le.mpr h1))
      | exact zI_f (fun q => absurd q.2.1 (Int32.not_le.mpr h7))
      | exact zI_f (fun q => absurd q.2.2.1 (Int32.not_le.mpr h11))
      | exact zI_f (fun q => absurd q.2.2.2 (Int32.not_le.mpr h17))
      | exact zI_t ⟨Int32.not_lt.mp h1, Int32.not_lt.mp h7, Int32.not_lt.mp h11, Int32.not_lt.mp h17⟩
  · refine aw_iload_n dX10_areChances_4 rfl ?_
    refine aw_bipush (v := nI 20) dX10_areChances_5 kb_20 ?_
    refine aw_icmp_gt (tgt := 24) dX10_areChances_7 rfl (fun h7 => ?_) (fun h7 => ?_)
    · refine aw_iconst (v := nI 0) dX10_areChances_24 kc_0 ?_
      refine aw_zret dX10_areChances_25 rfl rfl (rb0 (Nat.zero_le _)) ⟨rfl, _, rfl, ?_, rfl, rfl⟩
      rw [eq_comm]
      first
        | exact zI_f (fun q => absurd q.1 (Int32.not_le.mpr h1))
        | exact zI_f (fun q => absurd q.2.1 (Int32.not_le.mpr h7))
        | exact zI_f (fun q => absurd q.2.2.1 (Int32.not_le.mpr h11))
        | exact zI_f (fun q => absurd q.2.2.2 (Int32.not_le.mpr h17))
        | exact zI_t ⟨Int32.not_lt.mp h1, Int32.not_lt.mp h7, Int32.not_lt.mp h11, Int32.not_lt.mp h17⟩
    · refine aw_iload_n dX10_areChances_10 rfl ?_
      refine aw_if_lt (tgt := 24) dX10_areChances_11 rfl (fun h11 => ?_) (fun h11 => ?_)
      · refine aw_iconst (v := nI 0) dX10_areChances_24 kc_0 ?_
        refine aw_zret dX10_areChances_25 rfl rfl (rb0 (Nat.zero_le _)) ⟨rfl, _, rfl, ?_, rfl, rfl⟩
        rw [eq_comm]
        first
          | exact zI_f (fun q => absurd q.1 (Int32.not_le.mpr h1))
          | exact zI_f (fun q => absurd q.2.1 (Int32.not_le.mpr h7))
          | exact zI_f (fun q => absurd q.2.2.1 (Int32.not_le.mpr h11))
          | exact zI_f (fun q => absurd q.2.2.2 (Int32.not_le.mpr h17))
          | exact zI_t ⟨Int32.not_lt.mp h1, Int32.not_lt.mp h7, Int32.not_lt.mp h11, Int32.not_lt.mp h17⟩
      · refine aw_iload_n dX10_areChances_14 rfl ?_
        refine aw_bipush (v := nI 12) dX10_areChances_15 kb_12 ?_
        refine aw_icmp_gt (tgt := 24) dX10_areChances_17 rfl (fun h17 => ?_) (fun h17 => ?_)
        · refine aw_iconst (v := nI 0) dX10_areChances_24 kc_0 ?_
          refine aw_zret dX10_areChances_25 rfl rfl (rb0 (Nat.zero_le _)) ⟨rfl, _, rfl, ?_, rfl, rfl⟩
          rw [eq_comm]
          first
            | exact zI_f (fun q => absurd q.1 (Int32.not_le.mpr h1))
            | exact zI_f (fun q => absurd q.2.1 (Int32.not_le.mpr h7))
            | exact zI_f (fun q => absurd q.2.2.1 (Int32.not_le.mpr h11))
            | exact zI_f (fun q => absurd q.2.2.2 (Int32.not_le.mpr h17))
            | exact zI_t ⟨Int32.not_lt.mp h1, Int32.not_lt.mp h7, Int32.not_lt.mp h11, Int32.not_lt.mp h17⟩
        · refine aw_iconst (v := nI 1) dX10_areChances_20 kc_1 ?_
          refine aw_goto (tgt := 25) dX10_areChances_21 rfl ?_
          refine aw_zret dX10_areChances_25 rfl rfl (rb0 (Nat.zero_le _)) ⟨rfl, _, rfl, ?_, rfl, rfl⟩
          rw [eq_comm]
          first
            | exact zI_f (fun q => absurd q.1 (Int32.not_le.mpr h1))
            | exact zI_f (fun q => absurd q.2.1 (Int32.not_le.mpr h7))
            | exact zI_f (fun q => absurd q.2.2.1 (Int32.not_le.mpr h11))
            | exact zI_f (fun q => absurd q.2.2.2 (Int32.not_le.mpr h17))
            | exact zI_t ⟨Int32.not_lt.mp h1, Int32.not_lt.mp h7, Int32.not_lt.mp h11, Int32.not_lt.mp h17⟩
theorem lo_gcd {G : GC} {E : SH} {iv : IV} {lv : LV} {a b : Nat} : ∀ (c t x y : Nat) (j9 j10 : Option Value), t + c = 100 → x < 2 ^ 62 → y < 2 ^ 62 → AW G mX10_greatestShared (rm 1 0) (Z0 G 1 E (fun r i0 l => ∃ w, r = some (.long w) ∧ w = lN (gst x y c) ∧ i0 = iv ∧ l = lv)) (fun _ => True) E.1 9 [some (.long (lN a)), none, some (.long (lN b)), none, some (.long (lN x)), none, some (.long (lN y)), none, some (.int (nI t)), j9, j10] [] E iv lv := by
  intro c
  induction c with
  | zero =>
    intro t x y j9 j10 ht hx hy
    have ht : t = 100 := by omega
    subst ht
    refine aw_iload dX10_greatestShared_9 rfl ?_
    refine aw_bipush (v := nI 100) dX10_greatestShared_11 kb_100 ?_
    refine aw_icmp_ge (tgt := 44) dX10_greatestShared_13 rfl (fun h13 => ?_) (fun h13 => absurd (nI_le (Nat.le_refl _) (by decide)) h13)
    refine aw_lload dX10_greatestShared_44 rfl ?_
    refine aw_lret dX10_greatestShared_46 rfl (rb0 (Nat.zero_le _)) ⟨rfl, _, rfl, rfl, rfl, rfl⟩
  | succ c ih =>
    intro t x y j9 j10 ht hx hy
    refine aw_iload dX10_greatestShared_9 rfl ?_
    refine aw_bipush (v := nI 100) dX10_greatestShared_11 kb_100 ?_
    refine aw_icmp_ge (tgt := 44) dX10_greatestShared_13 rfl (fun h13 => absurd h13 (nI_ge (by omega) (by decide))) (fun h13 => ?_)
    refine aw_lload dX10_greatestShared_16 rfl ?_
    refine aw_lconst (v := lN 0) dX10_greatestShared_18 kl_0 ?_
    refine aw_lcmp dX10_greatestShared_19 ?_
    refine aw_if_eq (tgt := 44) dX10_greatestShared_20 rfl (fun h20 => ?_) (fun h20 => ?_)
    · rw [lg_cmp_eq, pk_lEQ (by omega) (by decide)] at h20
      refine aw_lload dX10_greatestShared_44 rfl ?_
      refine aw_lret dX10_greatestShared_46 rfl (rb0 (Nat.zero_le _)) ⟨rfl, _, rfl, ?_, rfl, rfl⟩
      rw [gst, if_pos h20]
    · rw [lg_cmp_eq, pk_lEQ (by omega) (by decide)] at h20
      refine aw_lload dX10_greatestShared_23 rfl ?_
      refine aw_lload dX10_greatestShared_25 rfl ?_
      refine aw_lrem dX10_greatestShared_27 (fun q => h20 ((pk_lEQ (b := 0) (by omega) (by decide)).mp q)) ?_
      rw [pk_lRem (by omega) (by omega) (by omega)]
      refine aw_lstore (lo' := [_,_,_,_,_,_,_,_,_,_,_]) dX10_greatestShared_28 (Nat.le_of_ble_eq_true rfl) rfl ?_
      refine aw_lload dX10_greatestShared_30 rfl ?_
      refine aw_lstore (lo' := [_,_,_,_,_,_,_,_,_,_,_]) dX10_greatestShared_32 (Nat.le_of_ble_eq_true rfl) rfl ?_
      refine aw_lload dX10_greatestShared_34 rfl ?_
      refine aw_lstore (lo' := [_,_,_,_,_,_,_,_,_,_,_]) dX10_greatestShared_36 (Nat.le_of_ble_eq_true rfl) rfl ?_
      refine aw_iinc (v := _) (lo' := [_,_,_,_,_,_,_,_,_,_,_]) dX10_greatestShared_38 rfl (nI_1 t) rfl ?_
      refine aw_goto (tgt := 9) dX10_greatestShared_41 rfl ?_
      have hl := Nat.mod_lt x (Nat.pos_of_ne_zero h20)
      have h := ih (t + 1) y (x % y) (some (.long (lN (x % y)))) none (by omega) (by omega) (by omega)
      rw [gst, if_neg h20]
      exact h
theorem e_gcd {G : GC} {E : SH} {iv : IV} {lv : LV} {a b : Nat} (ha : a < 2 ^ 62) (hb : b < 2 ^ 31) : ExL G mX10_greatestShared 1 [.long (lN a), .long (lN b)] E iv lv (lN (Nat.gcd b a)) iv lv := by
  rw [← gst_gcd hb]
  refine spec0_of (lo := [_,_,_,_,_,_,_,_,_,_,_]) (by decide) (Nat.le_of_ble_eq_true rfl) rfl ?_
  refine aw_lload_n dX10_greatestShared_0 rfl ?_
  refine aw_lstore (lo' := [_,_,_,_,_,_,_,_,_,_,_]) dX10_greatestShared_1 (Nat.le_of_ble_eq_true rfl) rfl ?_
  refine aw_lload_n dX10_greatestShared_3 rfl ?_
  refine aw_lstore (lo' := [_,_,_,_,_,_,_,_,_,_,_]) dX10_greatestShared_4 (Nat.le_of_ble_eq_true rfl) rfl ?_
  refine aw_iconst (v := nI 0) dX10_greatestShared_6 kc_0 ?_
  refine aw_istore (lo' := [_,_,_,_,_,_,_,_,_,_,_]) dX10_greatestShared_7 (Nat.le_of_ble_eq_true rfl) rfl ?_
  exact lo_gcd 100 0 a b none none (by omega) ha (by omega)
def lowL (X : Nat) (lv : LV) (a b : Nat) : LV := va_up (va_up lv X (vp_updL (lv X) 9 (lN (a / Nat.gcd b a)))) X (vp_updL (va_up lv X (vp_updL (lv X) 9 (lN (a / Nat.gcd b a))) X) 10 (lN (b / Nat.gcd b a)))
theorem e_low {G : GC} {E : SH} {iv : IV} {lv : LV} {X a b : Nat} (hX : XS G E X) (ha : a < 2 ^ 62) (h0 : 0 < b) (hb : b < 2 ^ 31) : ExV G mX10_tellInLowestTerms 2 [.ref X, .long (lN a), .long (lN b)] E iv lv iv (lowL X lv a b) := by
  have hg : 0 < Nat.gcd b a := Nat.gcd_pos_of_pos_left _ h0
  have hg2 : Nat.gcd b a ≤ b := Nat.gcd_le_left _ h0
  refine spec0_of (lo := [_,_,_,_,_,_,_]) (by decide) (Nat.le_of_ble_eq_true rfl) rfl ?_
  refine aw_lload_n dX10_tellInLowestTerms_0 rfl ?_
  refine aw_lload_n dX10_tellInLowestTerms_1 rfl ?_
  refine aw_xSl [_, _] dX10_tellInLowestTerms_2 csX10_304 (e_gcd (a := a) (b := b) ha hb) rfl rfl (Nat.le_of_ble_eq_true rfl) (rb0 (by decide)) ?_
  refine aw_lstore (lo' := [_,_,_,_,_,_,_]) dX10_tellInLowestTerms_5 (Nat.le_of_ble_eq_true rfl) rfl ?_
  refine aw_lload dX10_tellInLowestTerms_7 rfl ?_
  refine aw_lconst (v := lN 0) dX10_tellInLowestTerms_9 kl_0 ?_
  refine aw_lcmp dX10_tellInLowestTerms_10 ?_
  refine aw_if_le (tgt := 30) dX10_tellInLowestTerms_11 rfl (fun h11 => ?_) (fun h11 => ?_)
  · (rw [lg_cmp_le, pk_lLE (by omega) (by decide)] at h11; omega)
  · have hn0 : ¬ lN (Nat.gcd b a) = 0 := fun q => by
      have q := (pk_lEQ (b := 0) (by omega) (by decide)).mp q
      omega
    refine aw_aload_n dX10_tellInLowestTerms_14 rfl ?_
    refine aw_lload_n dX10_tellInLowestTerms_15 rfl ?_
    refine aw_lload dX10_tellInLowestTerms_16 rfl ?_
    refine aw_ldiv dX10_tellInLowestTerms_18 hn0 ?_
    rw [pk_lDiv (by omega) hg (by omega)]
    refine aw_putL dX10_tellInLowestTerms_19 fpX10_54 rfl (XS.s0 hX) ?_
    refine aw_aload_n dX10_tellInLowestTerms_22 rfl ?_
    refine aw_lload_n dX10_tellInLowestTerms_23 rfl ?_
    refine aw_lload dX10_tellInLowestTerms_24 rfl ?_
    refine aw_ldiv dX10_tellInLowestTerms_26 hn0 ?_
    rw [pk_lDiv (by omega) hg (by omega)]
    refine aw_putL dX10_tellInLowestTerms_27 fpX10_58 rfl (XS.s0 hX) ?_
    refine aw_vret dX10_tellInLowestTerms_30 rfl (rb0 (Nat.zero_le _)) ⟨rfl, rfl, rfl, rfl⟩
theorem QC_low {X a b : Nat} {A : AA} {D : DD} {T : FT} {iv i : IV} {lv l : LV} {o : RS} (hA : CA X A iv lv) (hD : CD X D iv) (hT : CT X T iv) (hq : frQ (X + 26) i iv) (hl : ∀ b, b ≠ X + 26 → l b = lv b) (e : o = (1, lowA A a b, D, T)) : QC X iv lv o 1 i (lowL X l a b) := by
  subst e
  have hA2 := CA_of hA (hq X (by omega)) (hq (X + 57) (by omega))
  refine ⟨rfl, ⟨hA2.1, hA2.2.1, ?_, ?_, hA2.2.2.2.2⟩, CD_of (fun b h1 h2 => hq b (by omega)) hD, CT_of (fun b hb => hq b (by omega)) hT, fun b hb => hq b (by omega), fun b hb => ?_⟩
  · unfold lowL
    rw [va_up_s, va_up_s]
    rfl
  · unfold lowL
    rw [va_up_s]
    rfl
  · unfold lowL
    rw [va_up_n (by omega), va_up_n (by omega)]
    exact hl b (by omega)
theorem x_odds {G : GC} {E : SH} {iv : IV} {lv : LV} {X : Nat} (hX : XS G E X) {A : AA} {D : DD} {T : FT} (hA : CA X A iv lv) (hD : CD X D iv) (hT : CT X T iv) (hW : WT T) (k n p : Int32) : SpI G mX10_odds 7 [.ref X, .int k, .int n, .int p] E iv lv (QC X iv lv (oOdds A D T k n p)) := by
  obtain ⟨s, ⟨m, lg⟩, kp⟩ := T
  have hs : WS s := hW.1.1
  have hs7 : s.1 ≤ 7 := hs.1
  have hw : WV s (lg m) := nowW hW
  have hd : lg m 0 ≤ 40 := nowD hW
  have hf : TF (X + 5) s m lg iv := hT.1
  have hr : TR (X + 5) s (lg m) iv := hf.1
  have hm : m ≤ 40 := hW.1.2.1
  refine spec0_of (lo := [_,_,_,_]) (by decide) (Nat.le_of_ble_eq_true rfl) rfl ?_
  refine aw_iload_n dX10_odds_0 rfl ?_
  refine aw_if_lt (tgt := 19) dX10_odds_1 rfl (fun h1 => ?_) (fun h1 => ?_)
  · refine aw_iconst (v := (-1)) dX10_odds_19 kc_m1 ?_
    refine aw_iret dX10_odds_20 rfl (rb0 (Nat.zero_le _)) ⟨rfl, _, rfl, ?_⟩
    refine QC_no hA hD hT ?_
    dsimp only [oOdds, nowT]
    
    first
      | exact if_pos (Or.inl h1)
      | exact if_pos (Or.inr (Or.inl h7))
      | exact if_pos (Or.inr (Or.inr (zI_0.mp h16)))
  · refine aw_iload_n dX10_odds_4 rfl ?_
    refine aw_bipush (v := nI 63) dX10_odds_5 kb_63 ?_
    refine aw_icmp_gt (tgt := 19) dX10_odds_7 rfl (fun h7 => ?_) (fun h7 => ?_)
    · refine aw_iconst (v := (-1)) dX10_odds_19 kc_m1 ?_
      refine aw_iret dX10_odds_20 rfl (rb0 (Nat.zero_le _)) ⟨rfl, _, rfl, ?_⟩
      refine QC_no hA hD hT ?_
      dsimp only [oOdds, nowT]
      
      first
        | exact if_pos (Or.inl h1)
        | exact if_pos (Or.inr (Or.inl h7))
        | exact if_pos (Or.inr (Or.inr (zI_0.mp h16)))
    · refine aw_aload_n dX10_odds_10 rfl ?_
      refine aw_iload_n dX10_odds_11 rfl ?_
      refine aw_iload_n dX10_odds_12 rfl ?_
      refine aw_xVi [_, _] dX10_odds_13 cvX10_233 (XS.s0 hX) (e_areCh n p) rfl rfl (Nat.le_of_ble_eq_true rfl) (rb0 (by decide)) ?_
      refine aw_if_ne (tgt := 21) dX10_odds_16 rfl (fun h16 => ?_) (fun h16 => ?_)
      · have hc := zI_n0.mp h16
        obtain ⟨e, he, rfl⟩ := ix_le (n := k) (k := 63) h1 h7 (by decide)
        obtain ⟨u, w, hu, hw12, rfl, rfl⟩ := ix_ch hc
        refine aw_aload_n dX10_odds_21 rfl ?_
        refine aw_getR dX10_odds_22 fgX10_28 rfl (XS.s0 hX) (XS.r0_3 hX) ?_
        refine aw_xVi [] dX10_odds_25 cvX10_131 (TownS.s0 (XS.town hX)) (t_hasPeople (XS.town hX) hr.1 (by omega)) rfl rfl (Nat.le_of_ble_eq_true rfl) (rb0 (by decide)) ?_
        refine aw_if_ne (tgt := 34) dX10_odds_28 rfl (fun h28 => ?_) (fun h28 => ?_)
        · have hnp : s.1 ≠ 0 := zI_n0.mp h28
          refine aw_aload_n dX10_odds_34 rfl ?_
          refine aw_getR dX10_odds_35 fgX10_39 rfl (XS.s0 hX) (XS.r0_5 hX) ?_
          refine aw_aload_n dX10_odds_38 rfl ?_
          refine aw_getR dX10_odds_39 fgX10_28 rfl (XS.s0 hX) (XS.r0_3 hX) ?_
          refine aw_xVv [_] dX10_odds_42 cvX10_195 (OutS.s0 (XS.out hX)) (o_lookAt (XS.out hX) (XS.town hX)) rfl rfl (Nat.le_of_ble_eq_true rfl) (rb0 (by decide)) ?_
          have ho := TR_bec (T := X + 26 + 1) (U := X + 5) hs7 (by omega) hr
          have hq : frQ (X + 26) (becM (X + 26 + 1) (X + 5) iv) iv := fun b hb => bec_o (by omega) (by omega)
          generalize becM (X + 26 + 1) (X + 5) iv = oiv at ho hq ⊢
          refine aw_aload_n dX10_odds_45 rfl ?_
          refine aw_getR dX10_odds_46 fgX10_39 rfl (XS.s0 hX) (XS.r0_5 hX) ?_
          refine aw_iload_n dX10_odds_49 rfl ?_
          refine aw_iload_n dX10_odds_50 rfl ?_
          refine aw_iload_n dX10_odds_51 rfl ?_
          refine aw_sVv [_, _, _] dX10_odds_52 cvX10_236 (OutS.s0 (XS.out hX)) (o_winds (XS.out hX) hs ho hw (few := e) (n := u) (p := w) (by omega) (by omega) (by omega) (by omega)) rfl rfl (Nat.le_of_ble_eq_true rfl) (rb0 (by decide)) (fun kv klv hk => ?_)
          obtain ⟨k2, k3, k4, k5, k6⟩ := hk
          have hkq := frQ_tr k2 hq
          have hb1 := sT_b (n := u) (p := w) hs hw (by omega) (by omega)
          have hb2 := sF_b (s := s) (v := lg m) (n := u) (p := w) (few := e) (by omega)
          rw [sA_32 w (by omega)] at k5
          refine aw_aload_n dX10_odds_55 rfl ?_
          refine aw_aload_n dX10_odds_56 rfl ?_
          refine aw_getR dX10_odds_57 fgX10_39 rfl (XS.s0 hX) (XS.r0_5 hX) ?_
          refine aw_getL dX10_odds_60 fgX10_239 rfl (OutS.s0 (XS.out hX)) ?_
          rw [k3]
          refine aw_aload_n dX10_odds_63 rfl ?_
          refine aw_getR dX10_odds_64 fgX10_39 rfl (XS.s0 hX) (XS.r0_5 hX) ?_
          refine aw_getL dX10_odds_67 fgX10_242 rfl (OutS.s0 (XS.out hX)) ?_
          rw [k5]
          refine aw_xVv [_, _] dX10_odds_70 cvX10_245 (XS.s0 hX) (e_low (a := sF s (lg m) u w e 32) (b := 248832) hX (by omega) (by decide) (by decide)) rfl rfl (Nat.le_of_ble_eq_true rfl) (rb0 (by decide)) ?_
          refine aw_iconst (v := nI 1) dX10_odds_73 kc_1 ?_
          refine aw_iret dX10_odds_74 rfl (rb0 (Nat.zero_le _)) ⟨rfl, _, rfl, ?_⟩
          refine QC_low hA hD hT hkq k6 ?_
          dsimp only [oOdds, nowT]
          
          rw [if_neg (fun q => q.elim h1 (fun q => q.elim h7 (fun q => q hc))), if_neg hnp, ix_nI (by omega), ix_nI (by omega), ix_nI (by omega)]
        · have hnp : s.1 = 0 := Decidable.not_not.mp (zI_0.mp h28)
          refine aw_bipush (v := (-4)) dX10_odds_31 kb_m4 ?_
          refine aw_iret dX10_odds_33 rfl (rb0 (Nat.zero_le _)) ⟨rfl, _, rfl, ?_⟩
          refine QC_no hA hD hT ?_
          dsimp only [oOdds, nowT]
          
          rw [if_neg (fun q => q.elim h1 (fun q => q.elim h7 (fun q => q hc))), if_pos hnp]
      · refine aw_iconst (v := (-1)) dX10_odds_19 kc_m1 ?_
        refine aw_iret dX10_odds_20 rfl (rb0 (Nat.zero_le _)) ⟨rfl, _, rfl, ?_⟩
        refine QC_no hA hD hT ?_
        dsimp only [oOdds, nowT]
        
        first
          | exact if_pos (Or.inl h1)
          | exact if_pos (Or.inr (Or.inl h7))
          | exact if_pos (Or.inr (Or.inr (zI_0.mp h16)))
theorem x_mid {G : GC} {E : SH} {iv : IV} {lv : LV} {X : Nat} (hX : XS G E X) {A : AA} {D : DD} {T : FT} (hA : CA X A iv lv) (hD : CD X D iv) (hT : CT X T iv) (hW : WT T) (n p : Int32) : SpI G mX10_mid 7 [.ref X, .int n, .int p] E iv lv (QC X iv lv (oMid A D T n p)) := by
  obtain ⟨s, ⟨m, lg⟩, kp⟩ := T
  have hs : WS s := hW.1.1
  have hs7 : s.1 ≤ 7 := hs.1
  have hw : WV s (lg m) := nowW hW
  have hd : lg m 0 ≤ 40 := nowD hW
  have hf : TF (X + 5) s m lg iv := hT.1
  have hr : TR (X + 5) s (lg m) iv := hf.1
  have hm : m ≤ 40 := hW.1.2.1
  refine spec0_of (lo := [_,_,_]) (by decide) (Nat.le_of_ble_eq_true rfl) rfl ?_
  refine aw_aload_n dX10_mid_0 rfl ?_
  refine aw_iload_n dX10_mid_1 rfl ?_
  refine aw_iload_n dX10_mid_2 rfl ?_
  refine aw_xVi [_, _] dX10_mid_3 cvX10_233 (XS.s0 hX) (e_areCh n p) rfl rfl (Nat.le_of_ble_eq_true rfl) (rb0 (by decide)) ?_
  refine aw_if_ne (tgt := 11) dX10_mid_6 rfl (fun h6 => ?_) (fun h6 => ?_)
  · have hc := zI_n0.mp h6
    obtain ⟨u, w, hu, hw12, rfl, rfl⟩ := ix_ch hc
    refine aw_aload_n dX10_mid_11 rfl ?_
    refine aw_getR dX10_mid_12 fgX10_28 rfl (XS.s0 hX) (XS.r0_3 hX) ?_
    refine aw_xVi [] dX10_mid_15 cvX10_131 (TownS.s0 (XS.town hX)) (t_hasPeople (XS.town hX) hr.1 (by omega)) rfl rfl (Nat.le_of_ble_eq_true rfl) (rb0 (by decide)) ?_
    refine aw_if_ne (tgt := 24) dX10_mid_18 rfl (fun h18 => ?_) (fun h18 => ?_)
    · have hnp : s.1 ≠ 0 := zI_n0.mp h18
      refine aw_aload_n dX10_mid_24 rfl ?_
      refine aw_getR dX10_mid_25 fgX10_39 rfl (XS.s0 hX) (XS.r0_5 hX) ?_
      refine aw_aload_n dX10_mid_28 rfl ?_
      refine aw_getR dX10_mid_29 fgX10_28 rfl (XS.s0 hX) (XS.r0_3 hX) ?_
      refine aw_xVv [_] dX10_mid_32 cvX10_195 (OutS.s0 (XS.out hX)) (o_lookAt (XS.out hX) (XS.town hX)) rfl rfl (Nat.le_of_ble_eq_true rfl) (rb0 (by decide)) ?_
      have ho := TR_bec (T := X + 26 + 1) (U := X + 5) hs7 (by omega) hr
      have hq : frQ (X + 26) (becM (X + 26 + 1) (X + 5) iv) iv := fun b hb => bec_o (by omega) (by omega)
      generalize becM (X + 26 + 1) (X + 5) iv = oiv at ho hq ⊢
      refine aw_aload_n dX10_mid_35 rfl ?_
      refine aw_getR dX10_mid_36 fgX10_39 rfl (XS.s0 hX) (XS.r0_5 hX) ?_
      refine aw_iconst (v := nI 0) dX10_mid_39 kc_0 ?_
      refine aw_iload_n dX10_mid_40 rfl ?_
      refine aw_iload_n dX10_mid_41 rfl ?_
      refine aw_sVv [_, _, _] dX10_mid_42 cvX10_236 (OutS.s0 (XS.out hX)) (o_winds (XS.out hX) hs ho hw (few := 0) (n := u) (p := w) (by omega) (by omega) (by omega) (by omega)) rfl rfl (Nat.le_of_ble_eq_true rfl) (rb0 (by decide)) (fun kv klv hk => ?_)
      obtain ⟨k2, k3, k4, k5, k6⟩ := hk
      have hkq := frQ_tr k2 hq
      have hb1 := sT_b (n := u) (p := w) hs hw (by omega) (by omega)
      have hb2 := sF_b (s := s) (v := lg m) (n := u) (p := w) (few := 0) (by omega)
      rw [sA_32 w (by omega)] at k5
      refine aw_aload_n dX10_mid_45 rfl ?_
      refine aw_aload_n dX10_mid_46 rfl ?_
      refine aw_getR dX10_mid_47 fgX10_39 rfl (XS.s0 hX) (XS.r0_5 hX) ?_
      refine aw_getL dX10_mid_50 fgX10_249 rfl (OutS.s0 (XS.out hX)) ?_
      rw [k4]
      refine aw_aload_n dX10_mid_53 rfl ?_
      refine aw_getR dX10_mid_54 fgX10_39 rfl (XS.s0 hX) (XS.r0_5 hX) ?_
      refine aw_getL dX10_mid_57 fgX10_242 rfl (OutS.s0 (XS.out hX)) ?_
      rw [k5]
      refine aw_xVv [_, _] dX10_mid_60 cvX10_245 (XS.s0 hX) (e_low (a := sT s (lg m) u w 32) (b := 248832) hX (by omega) (by decide) (by decide)) rfl rfl (Nat.le_of_ble_eq_true rfl) (rb0 (by decide)) ?_
      refine aw_iconst (v := nI 1) dX10_mid_63 kc_1 ?_
      refine aw_iret dX10_mid_64 rfl (rb0 (Nat.zero_le _)) ⟨rfl, _, rfl, ?_⟩
      refine QC_low hA hD hT hkq k6 ?_
      dsimp only [oMid, nowT]
      
      rw [if_neg (fun q => q hc), if_neg hnp, ix_nI (by omega), ix_nI (by omega)]
    · have hnp : s.1 = 0 := Decidable.not_not.mp (zI_0.mp h18)
      refine aw_bipush (v := (-4)) dX10_mid_21 kb_m4 ?_
      refine aw_iret dX10_mid_23 rfl (rb0 (Nat.zero_le _)) ⟨rfl, _, rfl, ?_⟩
      refine QC_no hA hD hT ?_
      dsimp only [oMid, nowT]
      
      rw [if_neg (fun q => q hc), if_pos hnp]
  · refine aw_iconst (v := (-1)) dX10_mid_9 kc_m1 ?_
    refine aw_iret dX10_mid_10 rfl (rb0 (Nat.zero_le _)) ⟨rfl, _, rfl, ?_⟩
    refine QC_no hA hD hT ?_
    dsimp only [oMid, nowT]
    
    exact if_pos (zI_0.mp h6)
