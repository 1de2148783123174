/-! chances, means: the reference -/
def lowN (M : Nat) (lv : LV) (a b : Nat) : LV := va_up (va_up lv M (vp_updL (lv M) 1 (lN (a / Nat.gcd b a)))) M (vp_updL (va_up lv M (vp_updL (lv M) 1 (lN (a / Nat.gcd b a))) M) 2 (lN (b / Nat.gcd b a)))
theorem QD_low {M a b : Nat} {A : AA} {D : DD} {T : FT} {iv i : IV} {lv l : LV} {o : RS} (hA : MA M A iv lv) (hD : MD M D iv) (hT : MT M T iv) (hq : ∀ b, b ≠ M + 13 → b ≠ M + 17 → i b = iv b) (hl : ∀ b, b ≠ M → l b = lv b) (e : o = (1, lowA A a b, D, T)) : QD M iv lv o 1 i (lowN M l a b) := by
  subst e
  have hM := hq M (by omega) (by omega)
  have hA2 : MA M A i lv := MA_of hA hM (hq _ (by omega) (by omega))
  refine ⟨rfl, ⟨hA2.1, hA2.2.1, ?_, ?_, hA2.2.2.2.2⟩, MD_of (hq _ (by omega) (by omega)) (hq _ (by omega) (by omega)) (hq _ (by omega) (by omega)) (hq _ (by omega) (by omega)) hD, MT_of (by rw [hM]) (by rw [hM]) (fun b hb => hq b (by omega) (by omega)) hT, fun b hb => hq b (by omega) (by omega), fun b hb => ?_⟩
  · unfold lowN
    rw [va_up_s, va_up_s]
    rfl
  · unfold lowN
    rw [va_up_s]
    rfl
  · unfold lowN
    rw [va_up_n (by omega), va_up_n (by omega)]
    exact hl b (by omega)
theorem vW_s (v : TV) (x : Nat) {c : Nat} (y : Nat) (hy : y = if x.testBit c = true then 0 else v (1 + c)) (q : Nat) : vW v x (c + 1) q = va_up (vW v x c) (1 + c) y q := by
  by_cases e : q = 1 + c
  · subst e
    rw [va_up_s, hy]
    unfold vW
    rw [show 1 + c - 1 = c by omega]
    by_cases h : x.testBit c = true
    · rw [if_pos ⟨by omega, h⟩, if_pos h]
    · rw [if_neg (fun q => h q.2), if_neg h]
  · rw [va_up_n e]
    unfold vW
    by_cases h : (1 ≤ q ∧ q < 1 + c) ∧ x.testBit (q - 1) = true
    · rw [if_pos h, if_pos ⟨by omega, h.2⟩]
    · rw [if_neg h, if_neg (fun z => h ⟨by omega, z.2⟩)]
theorem vW_c (v : TV) (x c : Nat) : vW v x c (1 + c) = v (1 + c) := if_neg (fun z => by omega)
theorem vW_z (v : TV) (x q : Nat) : vW v x 0 q = v q := if_neg (fun z => by omega)
theorem lo_mlow {G : GC} {E : SH} {iv : IV} {lv : LV} {M a b : Nat} {w : Int32} (hM : MS G E M) (ha : a < 2 ^ 62) (h0 : 0 < b) (hb : b < 2 ^ 31) : ∀ (c x y : Nat) (j10 j11 : Option Value), y ≤ c → x < 2 ^ 62 → y < 2 ^ 31 → Nat.gcd y x = Nat.gcd b a → AW G mX11_lowest (rm 1 0) (Z0 G 1 E (fun r i0 l => ∃ z, r = some (.int z) ∧ z = w ∧ i0 = iv ∧ l = lowN M lv a b)) (fun _ => True) E.1 6 [some (.ref M), some (.long (lN a)), none, some (.long (lN b)), none, some (.int w), some (.long (lN x)), none, some (.long (lN y)), none, j10, j11] [] E iv lv := by
  have hg : 0 < Nat.gcd b a := Nat.gcd_pos_of_pos_left _ h0
  have hg2 : Nat.gcd b a ≤ b := Nat.gcd_le_left _ h0
  have hn0 : ¬ lN (Nat.gcd b a) = 0 := fun q => by
    have q := (pk_lEQ (b := 0) (by omega) (by decide)).mp q
    omega
  intro c
  induction c with
  | zero =>
    intro x y j10 j11 hc hx hy hgx
    have hc : y = 0 := by omega
    subst hc
    rw [Nat.gcd_zero_left] at hgx
    subst hgx
    refine aw_lload dX11_lowest_6 rfl ?_
    refine aw_lconst (v := lN 0) dX11_lowest_8 kl_0 ?_
    refine aw_lcmp dX11_lowest_9 ?_
    refine aw_if_eq (tgt := 31) dX11_lowest_10 rfl (fun h10 => ?_) (fun h10 => ?_)
    · skip
      refine aw_aload_n dX11_lowest_31 rfl ?_
      refine aw_lload_n dX11_lowest_32 rfl ?_
      refine aw_lload dX11_lowest_33 rfl ?_
      refine aw_ldiv dX11_lowest_35 hn0 ?_
      rw [pk_lDiv (by omega) hg (by omega)]
      refine aw_putL dX11_lowest_36 fpX11_73 rfl (MS.s0 hM) ?_
      refine aw_aload_n dX11_lowest_39 rfl ?_
      refine aw_lload_n dX11_lowest_40 rfl ?_
      refine aw_lload dX11_lowest_41 rfl ?_
      refine aw_ldiv dX11_lowest_43 hn0 ?_
      rw [pk_lDiv (by omega) hg (by omega)]
      refine aw_putL dX11_lowest_44 fpX11_7 rfl (MS.s0 hM) ?_
      refine aw_iload dX11_lowest_47 rfl ?_
      refine aw_iret dX11_lowest_49 rfl (rb0 (Nat.zero_le _)) ⟨rfl, _, rfl, rfl, rfl, rfl⟩
    · exact absurd (by decide) h10
  | succ c ih =>
    intro x y j10 j11 hc hx hy hgx
    by_cases hy0 : y = 0
    · subst hy0
      rw [Nat.gcd_zero_left] at hgx
      subst hgx
      refine aw_lload dX11_lowest_6 rfl ?_
      refine aw_lconst (v := lN 0) dX11_lowest_8 kl_0 ?_
      refine aw_lcmp dX11_lowest_9 ?_
      refine aw_if_eq (tgt := 31) dX11_lowest_10 rfl (fun h10 => ?_) (fun h10 => ?_)
      · skip
        refine aw_aload_n dX11_lowest_31 rfl ?_
        refine aw_lload_n dX11_lowest_32 rfl ?_
        refine aw_lload dX11_lowest_33 rfl ?_
        refine aw_ldiv dX11_lowest_35 hn0 ?_
        rw [pk_lDiv (by omega) hg (by omega)]
        refine aw_putL dX11_lowest_36 fpX11_73 rfl (MS.s0 hM) ?_
        refine aw_aload_n dX11_lowest_39 rfl ?_
        refine aw_lload_n dX11_lowest_40 rfl ?_
        refine aw_lload dX11_lowest_41 rfl ?_
        refine aw_ldiv dX11_lowest_43 hn0 ?_
        rw [pk_lDiv (by omega) hg (by omega)]
        refine aw_putL dX11_lowest_44 fpX11_7 rfl (MS.s0 hM) ?_
        refine aw_iload dX11_lowest_47 rfl ?_
        refine aw_iret dX11_lowest_49 rfl (rb0 (Nat.zero_le _)) ⟨rfl, _, rfl, rfl, rfl, rfl⟩
      · exact absurd (by decide) h10
    · have hl := Nat.mod_lt x (Nat.pos_of_ne_zero hy0)
      rw [Nat.gcd_rec] at hgx
      refine aw_lload dX11_lowest_6 rfl ?_
      refine aw_lconst (v := lN 0) dX11_lowest_8 kl_0 ?_
      refine aw_lcmp dX11_lowest_9 ?_
      refine aw_if_eq (tgt := 31) dX11_lowest_10 rfl (fun h10 => ?_) (fun h10 => ?_)
      · (rw [lg_cmp_eq, pk_lEQ (by omega) (by decide)] at h10; exact absurd h10 hy0)
      · skip
        refine aw_lload dX11_lowest_13 rfl ?_
        refine aw_lload dX11_lowest_15 rfl ?_
        refine aw_lrem dX11_lowest_17 (fun q => hy0 ((pk_lEQ (b := 0) (by omega) (by decide)).mp q)) ?_
        rw [pk_lRem (by omega) (by omega) (by omega)]
        refine aw_lstore (lo' := [_,_,_,_,_,_,_,_,_,_,_,_]) dX11_lowest_18 (Nat.le_of_ble_eq_true rfl) rfl ?_
        refine aw_lload dX11_lowest_20 rfl ?_
        refine aw_lstore (lo' := [_,_,_,_,_,_,_,_,_,_,_,_]) dX11_lowest_22 (Nat.le_of_ble_eq_true rfl) rfl ?_
        refine aw_lload dX11_lowest_24 rfl ?_
        refine aw_lstore (lo' := [_,_,_,_,_,_,_,_,_,_,_,_]) dX11_lowest_26 (Nat.le_of_ble_eq_true rfl) rfl ?_
        refine aw_goto (tgt := 6) dX11_lowest_28 rfl ?_
        exact ih y (x % y) _ _ (by omega) (by omega) (by omega) hgx
theorem m_low {G : GC} {E : SH} {iv : IV} {lv : LV} {M a b : Nat} {w : Int32} (hM : MS G E M) (ha : a < 2 ^ 62) (h0 : 0 < b) (hb : b < 2 ^ 31) : ExI G mX11_lowest 1 [.ref M, .long (lN a), .long (lN b), .int w] E iv lv w iv (lowN M lv a b) := by
  refine spec0_of (lo := [_,_,_,_,_,_,_,_,_,_,_,_]) (by decide) (Nat.le_of_ble_eq_true rfl) rfl ?_
  refine aw_lload_n dX11_lowest_0 rfl ?_
  refine aw_lstore (lo' := [_,_,_,_,_,_,_,_,_,_,_,_]) dX11_lowest_1 (Nat.le_of_ble_eq_true rfl) rfl ?_
  refine aw_lload_n dX11_lowest_3 rfl ?_
  refine aw_lstore (lo' := [_,_,_,_,_,_,_,_,_,_,_,_]) dX11_lowest_4 (Nat.le_of_ble_eq_true rfl) rfl ?_
  exact lo_mlow hM ha h0 hb b a b none none (Nat.le_refl _) ha hb rfl
theorem lo_lw1 {G : GC} {E : SH} {iv : IV} {lv : LV} {M few n p : Nat} {s : TS} {v : TV} (hM : MS G E M) (hs : WS s) (hr : SR M s iv) (hv : VR (M + 12) v iv) (hw : WV s v) (hfw : few ≤ 63) (hn : v 0 + n < 2 ^ 20) (hn3 : n < 2 ^ 20) (hp : p ≤ 12) {Zz : List Frame → Array Value → State → State → Prop} : (∀ l, l M 25 = lN 248832 → (∀ b, b ≠ M → l b = lv b) → AW G mX11_layWinds (rm 7 0) Zz (fun _ => True) E.1 32 [some (.ref M), some (.int (nI few)), some (.int (nI n)), some (.int (nI p)), some (.int (nI 5)), none, none, none] [] E iv l) → ∀ (e c : Nat) (l : LV), c + e = 5 → l M 25 = lN (12 ^ c) → (∀ b, b ≠ M → l b = lv b) → AW G mX11_layWinds (rm 7 0) Zz (fun _ => True) E.1 8 [some (.ref M), some (.int (nI few)), some (.int (nI n)), some (.int (nI p)), some (.int (nI c)), none, none, none] [] E iv l := by
  intro hK e
  induction e with
  | zero =>
    intro c l hc h1 hf
    have hc : c = 5 := by omega
    subst hc
    refine aw_iload dX11_layWinds_8 rfl ?_
    refine aw_iconst (v := nI 5) dX11_layWinds_10 kc_5 ?_
    refine aw_icmp_ge (tgt := 32) dX11_layWinds_11 rfl (fun h11 => ?_) (fun h11 => absurd (by decide) h11)
    exact hK l h1 hf
  | succ e ih =>
    intro c l hc h1 hf
    refine aw_iload dX11_layWinds_8 rfl ?_
    refine aw_iconst (v := nI 5) dX11_layWinds_10 kc_5 ?_
    refine aw_icmp_ge (tgt := 32) dX11_layWinds_11 rfl (fun h11 => absurd h11 (nI_ge (by omega) (by decide))) (fun h11 => ?_)
    refine aw_aload_n dX11_layWinds_14 rfl ?_
    refine aw_dup dX11_layWinds_15 rfl ?_
    refine aw_getL dX11_layWinds_16 fgX11_228 rfl (MS.s0 hM) ?_
    rw [h1]
    refine aw_ldc2 dX11_layWinds_19 klX11_231 ?_
    refine aw_lmul dX11_layWinds_22 ?_
    rw [show lN (12 ^ c) * 12 = lN (12 ^ (c + 1)) from lN_mul (12 ^ c) 12]
    refine aw_putL dX11_layWinds_23 fpX11_228 rfl (MS.s0 hM) ?_
    refine aw_iinc (v := _) (lo' := [_,_,_,_,_,_,_,_]) dX11_layWinds_26 rfl (nI_1 c) rfl ?_
    refine aw_goto (tgt := 8) dX11_layWinds_29 rfl ?_
    exact ih (c + 1) _ (by omega) (by rw [va_up_s]; exact if_pos rfl) (fun b hb => by rw [va_up_n hb]; exact hf b hb)
theorem lo_lw3 {G : GC} {E : SH} {iv : IV} {lv : LV} {M few n p : Nat} {s : TS} {v : TV} (hM : MS G E M) (hs : WS s) (hr : SR M s iv) (hv : VR (M + 12) v iv) (hw : WV s v) (hfw : few ≤ 63) (hn : v 0 + n < 2 ^ 20) (hn3 : n < 2 ^ 20) (hp : p ≤ 12) {x : Nat} (hx : x < 32) {Zz : List Frame → Array Value → State → State → Prop} : (∀ i0, VR (M + 13) (vW v x 5) i0 → (∀ b, b ≠ M + 13 → i0 b = iv b) → AW G mX11_layWinds (rm 7 0) Zz (fun _ => True) E.1 131 [some (.ref M), some (.int (nI few)), some (.int (nI n)), some (.int (nI p)), some (.int (nI x)), some (.long (lN (wgt p x 5))), none, some (.int (nI 5))] [] E i0 lv) → ∀ (e c : Nat) (jv : IV), c + e = 5 → VR (M + 13) (vW v x c) jv → (∀ b, b ≠ M + 13 → jv b = iv b) → AW G mX11_layWinds (rm 7 0) Zz (fun _ => True) E.1 62 [some (.ref M), some (.int (nI few)), some (.int (nI n)), some (.int (nI p)), some (.int (nI x)), some (.long (lN (wgt p x c))), none, some (.int (nI c))] [] E jv lv := by
  intro hK e
  induction e with
  | zero =>
    intro c jv hc h1 hf
    have hc : c = 5 := by omega
    subst hc
    refine aw_iload dX11_layWinds_62 rfl ?_
    refine aw_iconst (v := nI 5) dX11_layWinds_64 kc_5 ?_
    refine aw_icmp_ge (tgt := 131) dX11_layWinds_65 rfl (fun h65 => ?_) (fun h65 => absurd (by decide) h65)
    exact hK jv h1 hf
  | succ e ih =>
    intro c jv hc h1 hf
    have hv9 := hw.2.1 c (by omega)
    have hr1 : jv (M + 13) (1 + c) = nI (v (1 + c)) := by rw [h1 _ (by omega), vW_c]
    cases hb : x.testBit c with
    | true =>
      have hwg : wgt p x (c + 1) = wgt p x c * p := by rw [wgt, hb, if_pos rfl]
      refine aw_iload dX11_layWinds_62 rfl ?_
      refine aw_iconst (v := nI 5) dX11_layWinds_64 kc_5 ?_
      refine aw_icmp_ge (tgt := 131) dX11_layWinds_65 rfl (fun h65 => absurd h65 (nI_ge (by omega) (by decide))) (fun h65 => ?_)
      refine aw_lload dX11_layWinds_68 rfl ?_
      refine aw_iload dX11_layWinds_70 rfl ?_
      refine aw_iload dX11_layWinds_72 rfl ?_
      refine aw_xSi [_, _] dX11_layWinds_74 csX11_215 (m_has (c := c) (by omega) (by omega)) rfl rfl (Nat.le_of_ble_eq_true rfl) (rb0 (by decide)) ?_
      refine aw_if_eq (tgt := 85) dX11_layWinds_77 rfl (fun h77 => ?_) (fun h77 => ?_)
      · exact absurd hb (zI_0.mp h77)
      · refine aw_iload_n dX11_layWinds_80 rfl ?_
        refine aw_i2l dX11_layWinds_81 ?_
        rw [nI_l (by omega)]
        refine aw_goto (tgt := 90) dX11_layWinds_82 rfl ?_
        refine aw_lmul dX11_layWinds_90 ?_
        rw [lN_mul, ← hwg]
        refine aw_lstore (lo' := [_,_,_,_,_,_,_,_]) dX11_layWinds_91 (Nat.le_of_ble_eq_true rfl) rfl ?_
        refine aw_aload_n dX11_layWinds_93 rfl ?_
        refine aw_getR dX11_layWinds_94 fgX11_51 rfl (MS.s0 hM) (MS.r0_19 hM) ?_
        refine aw_iconst (v := nI 1) dX11_layWinds_97 kc_1 ?_
        refine aw_iload dX11_layWinds_98 rfl ?_
        refine aw_iadd dX11_layWinds_100 ?_
        rw [nI_add]
        refine aw_iload dX11_layWinds_101 rfl ?_
        refine aw_iload dX11_layWinds_103 rfl ?_
        refine aw_xSi [_, _] dX11_layWinds_105 csX11_215 (m_has (c := c) (by omega) (by omega)) rfl rfl (Nat.le_of_ble_eq_true rfl) (rb0 (by decide)) ?_
        refine aw_if_eq (tgt := 115) dX11_layWinds_108 rfl (fun h108 => ?_) (fun h108 => ?_)
        · exact absurd hb (zI_0.mp h108)
        · refine aw_iconst (v := nI 0) dX11_layWinds_111 kc_0 ?_
          refine aw_goto (tgt := 124) dX11_layWinds_112 rfl ?_
          refine aw_iastore dX11_layWinds_124 (MS.s13 hM) rfl (by omega) ?_
          refine aw_iinc (v := _) (lo' := [_,_,_,_,_,_,_,_]) dX11_layWinds_125 rfl (nI_1 c) rfl ?_
          refine aw_goto (tgt := 62) dX11_layWinds_128 rfl ?_
          refine ih (c + 1) _ (by omega) (VR_up h1 ?_ (fun q hq hn => ?_)) (fun b hb => by rw [va_up_n hb]; exact hf b hb)
          · rw [vW_s v x (c := c) 0 (by rw [if_pos hb]), va_up_s]
          · rw [vW_s v x (c := c) 0 (by rw [if_pos hb]), va_up_n hn]
    | false =>
      have hwg : wgt p x (c + 1) = wgt p x c * (12 - p) := by rw [wgt, hb, if_neg (by decide)]
      refine aw_iload dX11_layWinds_62 rfl ?_
      refine aw_iconst (v := nI 5) dX11_layWinds_64 kc_5 ?_
      refine aw_icmp_ge (tgt := 131) dX11_layWinds_65 rfl (fun h65 => absurd h65 (nI_ge (by omega) (by decide))) (fun h65 => ?_)
      refine aw_lload dX11_layWinds_68 rfl ?_
      refine aw_iload dX11_layWinds_70 rfl ?_
      refine aw_iload dX11_layWinds_72 rfl ?_
      refine aw_xSi [_, _] dX11_layWinds_74 csX11_215 (m_has (c := c) (by omega) (by omega)) rfl rfl (Nat.le_of_ble_eq_true rfl) (rb0 (by decide)) ?_
      refine aw_if_eq (tgt := 85) dX11_layWinds_77 rfl (fun h77 => ?_) (fun h77 => ?_)
      · refine aw_bipush (v := nI 12) dX11_layWinds_85 kb_12 ?_
        refine aw_iload_n dX11_layWinds_87 rfl ?_
        refine aw_isub dX11_layWinds_88 ?_
        rw [pk_sub hp]
        refine aw_i2l dX11_layWinds_89 ?_
        rw [nI_l (by omega)]
        refine aw_lmul dX11_layWinds_90 ?_
        rw [lN_mul, ← hwg]
        refine aw_lstore (lo' := [_,_,_,_,_,_,_,_]) dX11_layWinds_91 (Nat.le_of_ble_eq_true rfl) rfl ?_
        refine aw_aload_n dX11_layWinds_93 rfl ?_
        refine aw_getR dX11_layWinds_94 fgX11_51 rfl (MS.s0 hM) (MS.r0_19 hM) ?_
        refine aw_iconst (v := nI 1) dX11_layWinds_97 kc_1 ?_
        refine aw_iload dX11_layWinds_98 rfl ?_
        refine aw_iadd dX11_layWinds_100 ?_
        rw [nI_add]
        refine aw_iload dX11_layWinds_101 rfl ?_
        refine aw_iload dX11_layWinds_103 rfl ?_
        refine aw_xSi [_, _] dX11_layWinds_105 csX11_215 (m_has (c := c) (by omega) (by omega)) rfl rfl (Nat.le_of_ble_eq_true rfl) (rb0 (by decide)) ?_
        refine aw_if_eq (tgt := 115) dX11_layWinds_108 rfl (fun h108 => ?_) (fun h108 => ?_)
        · refine aw_aload_n dX11_layWinds_115 rfl ?_
          refine aw_getR dX11_layWinds_116 fgX11_51 rfl (MS.s0 hM) (MS.r0_19 hM) ?_
          refine aw_iconst (v := nI 1) dX11_layWinds_119 kc_1 ?_
          refine aw_iload dX11_layWinds_120 rfl ?_
          refine aw_iadd dX11_layWinds_122 ?_
          rw [nI_add]
          refine aw_iaload dX11_layWinds_123 (MS.s13 hM) rfl (by omega) ?_
          rw [hr1]
          refine aw_iastore dX11_layWinds_124 (MS.s13 hM) rfl (by omega) ?_
          refine aw_iinc (v := _) (lo' := [_,_,_,_,_,_,_,_]) dX11_layWinds_125 rfl (nI_1 c) rfl ?_
          refine aw_goto (tgt := 62) dX11_layWinds_128 rfl ?_
          refine ih (c + 1) _ (by omega) (VR_up h1 ?_ (fun q hq hn => ?_)) (fun b hb => by rw [va_up_n hb]; exact hf b hb)
          · rw [vW_s v x (c := c) (v (1 + c)) (by rw [hb]; rfl), va_up_s]
          · rw [vW_s v x (c := c) (v (1 + c)) (by rw [hb]; rfl), va_up_n hn]
        · exact absurd (zI_n0.mp h108) (by rw [hb]; decide)
      · exact absurd (zI_n0.mp h77) (by rw [hb]; decide)
theorem lo_lw2 {G : GC} {E : SH} {iv : IV} {lv : LV} {M few n p : Nat} {s : TS} {v : TV} (hM : MS G E M) (hs : WS s) (hr : SR M s iv) (hv : VR (M + 12) v iv) (hw : WV s v) (hfw : few ≤ 63) (hn : v 0 + n < 2 ^ 20) (hn3 : n < 2 ^ 20) (hp : p ≤ 12) : ∀ (c x : Nat) (jv : IV) (l : LV) (j5 j6 j7 : Option Value), x + c = 32 → (∀ b, b ≠ M + 13 → jv b = iv b) → l M 25 = lN 248832 → l M 26 = lN (sF s v n p few x) → l M 27 = lN (sT s v n p x) → (∀ b, b ≠ M → l b = lv b) → AW G mX11_layWinds (rm 7 0) (Z0 G 7 E (fun r i0 l => r = none ∧ ((∀ b, b ≠ M + 13 → i0 b = iv b) ∧ l M 25 = lN 248832 ∧ l M 26 = lN (sF s v n p few 32) ∧ l M 27 = lN (sT s v n p 32) ∧ (∀ b, b ≠ M → l b = lv b)))) (fun _ => True) E.1 45 [some (.ref M), some (.int (nI few)), some (.int (nI n)), some (.int (nI p)), some (.int (nI x)), j5, j6, j7] [] E jv l := by
  have h7 := hs.1
  intro c
  induction c with
  | zero =>
    intro x jv l j5 j6 j7 hc hf h1 h2 h3 hl
    have hc : x = 32 := by omega
    subst hc
    refine aw_iload dX11_layWinds_45 rfl ?_
    refine aw_bipush (v := nI 32) dX11_layWinds_47 kb_32 ?_
    refine aw_icmp_ge (tgt := 180) dX11_layWinds_49 rfl (fun h49 => ?_) (fun h49 => absurd (by decide) h49)
    refine aw_vret dX11_layWinds_180 rfl (rb0 (Nat.zero_le _)) ⟨rfl, rfl, hf, h1, h2, h3, hl⟩
  | succ c ih =>
    intro x jv l j5 j6 j7 hc hf h1 h2 h3 hl
    have hrj : SR M s jv := SR_f (by rw [hf M (by omega)]) (hf _ (by omega)) (hf _ (by omega)) (hf _ (by omega)) hr
    have hvj : VR (M + 12) v jv := fun q hq => by rw [hf _ (by omega)]; exact hv q hq
    have hgl : gW s v n x ≤ 63 := gW_le hs hw hn
    refine aw_iload dX11_layWinds_45 rfl ?_
    refine aw_bipush (v := nI 32) dX11_layWinds_47 kb_32 ?_
    refine aw_icmp_ge (tgt := 180) dX11_layWinds_49 rfl (fun h49 => absurd h49 (nI_ge (by omega) (by decide))) (fun h49 => ?_)
    refine aw_lconst (v := lN 1) dX11_layWinds_52 kl_1 ?_
    refine aw_lstore (lo' := [_,_,_,_,_,_,_,_]) dX11_layWinds_53 (Nat.le_of_ble_eq_true rfl) rfl ?_
    refine aw_aload_n dX11_layWinds_55 rfl ?_
    refine aw_xVv [] dX11_layWinds_56 cvX11_189 (MS.s0 hM) (m_copyNow hM) rfl rfl (Nat.le_of_ble_eq_true rfl) (rb0 (by decide)) ?_
    have hc13 : VR (M + 13) v (va_up jv (M + 13) (va_cpy (jv (M + 12)) (jv (M + 13)) 0 0 20)) := VR_copy hvj
    have hcq : ∀ b, b ≠ M + 13 → va_up jv (M + 13) (va_cpy (jv (M + 12)) (jv (M + 13)) 0 0 20) b = iv b := fun b hb => by rw [va_up_n hb]; exact hf b hb
    generalize va_up jv (M + 13) (va_cpy (jv (M + 12)) (jv (M + 13)) 0 0 20) = civ at hc13 hcq ⊢
    refine aw_iconst (v := nI 0) dX11_layWinds_59 kc_0 ?_
    refine aw_istore (lo' := [_,_,_,_,_,_,_,_]) dX11_layWinds_60 (Nat.le_of_ble_eq_true rfl) rfl ?_
    refine lo_lw3 hM hs hr hv hw hfw hn hn3 hp (x := x) (by omega) (fun i1 a1 a2 => ?_) 5 0 civ (by omega) (fun q hq => by rw [vW_z]; exact hc13 q hq) hcq
    have hr1 : SR M s i1 := SR_f (by rw [a2 M (by omega)]) (a2 _ (by omega)) (a2 _ (by omega)) (a2 _ (by omega)) hr
    refine aw_aload_n dX11_layWinds_131 rfl ?_
    refine aw_iload_n dX11_layWinds_132 rfl ?_
    refine aw_sVi [_] dX11_layWinds_133 cvX11_192 (MS.s0 hM) (m_allBehind hM hs hr1 a1 (WV_vW h7 hw (Nat.le_refl 5)) (n := n) (by rw [vW_d]; exact hn)) rfl rfl (Nat.le_of_ble_eq_true rfl) (rb0 (by decide)) (fun kw kv klv hk => ?_)
    obtain ⟨k0, k1, k2, rfl⟩ := hk
    replace k0 : kw = nI (gW s v n x) := k0
    subst k0
    refine aw_istore (lo' := [_,_,_,_,_,_,_,_]) dX11_layWinds_136 (Nat.le_of_ble_eq_true rfl) rfl ?_
    refine aw_aload_n dX11_layWinds_138 rfl ?_
    refine aw_dup dX11_layWinds_139 rfl ?_
    refine aw_getL dX11_layWinds_140 fgX11_233 rfl (MS.s0 hM) ?_
    rw [h2]
    refine aw_iload dX11_layWinds_143 rfl ?_
    refine aw_iload_n dX11_layWinds_145 rfl ?_
    refine aw_icmp_gt (tgt := 154) dX11_layWinds_146 rfl (fun h146 => ?_) (fun h146 => ?_)
    · rw [nI_ltI (by omega) (by omega)] at h146
      refine aw_lconst (v := lN 0) dX11_layWinds_154 kl_0 ?_
      refine aw_ladd dX11_layWinds_155 ?_
      first
        | rw [show lN (sF s v n p few x) + lN (wgt p x 5) = lN (sF s v n p few (x + 1)) by rw [lN_add]; congr 1; show _ = sF s v n p few x + (if _ then _ else _); rw [if_pos (by omega)]]
        | rw [show lN (sF s v n p few x) + lN 0 = lN (sF s v n p few (x + 1)) by rw [lN_add]; congr 1; show _ = sF s v n p few x + (if _ then _ else _); rw [if_neg (by omega)]]
      refine aw_putL dX11_layWinds_156 fpX11_233 rfl (MS.s0 hM) ?_
      refine aw_aload_n dX11_layWinds_159 rfl ?_
      refine aw_dup dX11_layWinds_160 rfl ?_
      refine aw_getL dX11_layWinds_161 fgX11_236 rfl (MS.s0 hM) ?_
      rw [va_up_s, pk_uLn (by decide), h3]
      refine aw_lload dX11_layWinds_164 rfl ?_
      refine aw_iload dX11_layWinds_166 rfl ?_
      refine aw_i2l dX11_layWinds_168 ?_
      rw [nI_l (by omega)]
      refine aw_lmul dX11_layWinds_169 ?_
      rw [lN_mul]
      refine aw_ladd dX11_layWinds_170 ?_
      rw [lN_add]
      refine aw_putL dX11_layWinds_171 fpX11_236 rfl (MS.s0 hM) ?_
      refine aw_iinc (v := _) (lo' := [_,_,_,_,_,_,_,_]) dX11_layWinds_174 rfl (nI_1 x) rfl ?_
      refine aw_goto (tgt := 45) dX11_layWinds_177 rfl ?_
      refine ih (x + 1) kv _ _ _ _ (by omega) (fun b hb => by rw [k2 b hb]; exact a2 b hb) ?_ ?_ ?_ (fun b hb => by rw [va_up_n hb, va_up_n hb]; exact hl b hb)
      · rw [va_up_s, pk_uLn (by decide), va_up_s, pk_uLn (by decide)]; exact h1
      · rw [va_up_s, pk_uLn (by decide), va_up_s, pk_uLs]
      · rw [va_up_s, pk_uLs]; rfl
    · rw [nI_ltI (by omega) (by omega)] at h146
      refine aw_lload dX11_layWinds_149 rfl ?_
      refine aw_goto (tgt := 155) dX11_layWinds_151 rfl ?_
      refine aw_ladd dX11_layWinds_155 ?_
      first
        | rw [show lN (sF s v n p few x) + lN (wgt p x 5) = lN (sF s v n p few (x + 1)) by rw [lN_add]; congr 1; show _ = sF s v n p few x + (if _ then _ else _); rw [if_pos (by omega)]]
        | rw [show lN (sF s v n p few x) + lN 0 = lN (sF s v n p few (x + 1)) by rw [lN_add]; congr 1; show _ = sF s v n p few x + (if _ then _ else _); rw [if_neg (by omega)]]
      refine aw_putL dX11_layWinds_156 fpX11_233 rfl (MS.s0 hM) ?_
      refine aw_aload_n dX11_layWinds_159 rfl ?_
      refine aw_dup dX11_layWinds_160 rfl ?_
      refine aw_getL dX11_layWinds_161 fgX11_236 rfl (MS.s0 hM) ?_
      rw [va_up_s, pk_uLn (by decide), h3]
      refine aw_lload dX11_layWinds_164 rfl ?_
      refine aw_iload dX11_layWinds_166 rfl ?_
      refine aw_i2l dX11_layWinds_168 ?_
      rw [nI_l (by omega)]
      refine aw_lmul dX11_layWinds_169 ?_
      rw [lN_mul]
      refine aw_ladd dX11_layWinds_170 ?_
      rw [lN_add]
      refine aw_putL dX11_layWinds_171 fpX11_236 rfl (MS.s0 hM) ?_
      refine aw_iinc (v := _) (lo' := [_,_,_,_,_,_,_,_]) dX11_layWinds_174 rfl (nI_1 x) rfl ?_
      refine aw_goto (tgt := 45) dX11_layWinds_177 rfl ?_
      refine ih (x + 1) kv _ _ _ _ (by omega) (fun b hb => by rw [k2 b hb]; exact a2 b hb) ?_ ?_ ?_ (fun b hb => by rw [va_up_n hb, va_up_n hb]; exact hl b hb)
      · rw [va_up_s, pk_uLn (by decide), va_up_s, pk_uLn (by decide)]; exact h1
      · rw [va_up_s, pk_uLn (by decide), va_up_s, pk_uLs]
      · rw [va_up_s, pk_uLs]; rfl
theorem m_winds {G : GC} {E : SH} {iv : IV} {lv : LV} {M few n p : Nat} {s : TS} {v : TV} (hM : MS G E M) (hs : WS s) (hr : SR M s iv) (hv : VR (M + 12) v iv) (hw : WV s v) (hfw : few ≤ 63) (hn : v 0 + n < 2 ^ 20) (hn3 : n < 2 ^ 20) (hp : p ≤ 12) : SpV G mX11_layWinds 7 [.ref M, .int (nI few), .int (nI n), .int (nI p)] E iv lv (fun i0 l => (∀ b, b ≠ M + 13 → i0 b = iv b) ∧ l M 25 = lN 248832 ∧ l M 26 = lN (sF s v n p few 32) ∧ l M 27 = lN (sT s v n p 32) ∧ (∀ b, b ≠ M → l b = lv b)) := by
  refine spec0_of (lo := [_,_,_,_,_,_,_,_]) (by decide) (Nat.le_of_ble_eq_true rfl) rfl ?_
  refine aw_aload_n dX11_layWinds_0 rfl ?_
  refine aw_lconst (v := lN 1) dX11_layWinds_1 kl_1 ?_
  refine aw_putL dX11_layWinds_2 fpX11_228 rfl (MS.s0 hM) ?_
  refine aw_iconst (v := nI 0) dX11_layWinds_5 kc_0 ?_
  refine aw_istore (lo' := [_,_,_,_,_,_,_,_]) dX11_layWinds_6 (Nat.le_of_ble_eq_true rfl) rfl ?_
  refine lo_lw1 hM hs hr hv hw hfw hn hn3 hp (fun l a1 a2 => ?_) 5 0 _ (by omega) (by rw [va_up_s]; exact pk_uLs) (fun b hb => va_up_n hb)
  refine aw_aload_n dX11_layWinds_32 rfl ?_
  refine aw_lconst (v := lN 0) dX11_layWinds_33 kl_0 ?_
  refine aw_putL dX11_layWinds_34 fpX11_233 rfl (MS.s0 hM) ?_
  refine aw_aload_n dX11_layWinds_37 rfl ?_
  refine aw_lconst (v := lN 0) dX11_layWinds_38 kl_0 ?_
  refine aw_putL dX11_layWinds_39 fpX11_236 rfl (MS.s0 hM) ?_
  refine aw_iconst (v := nI 0) dX11_layWinds_42 kc_0 ?_
  refine aw_istore (lo' := [_,_,_,_,_,_,_,_]) dX11_layWinds_43 (Nat.le_of_ble_eq_true rfl) rfl ?_
  exact lo_lw2 hM hs hr hv hw hfw hn hn3 hp 32 0 iv _ none none none (by omega) (fun _ _ => rfl) (by rw [va_up_s, pk_uLn (by decide), va_up_s, pk_uLn (by decide)]; exact a1) (by rw [va_up_s, pk_uLn (by decide), va_up_s, pk_uLs]; rfl) (by rw [va_up_s, pk_uLs]; rfl) (fun b hb => by rw [va_up_n hb, va_up_n hb]; exact a2 b hb)
theorem m_odds {G : GC} {E : SH} {iv : IV} {lv : LV} {M : Nat} (hM : MS G E M) {A : AA} {D : DD} {T : FT} (hA : MA M A iv lv) (hD : MD M D iv) (hT : MT M T iv) (hW : WT T) (k n p : Int32) : SpI G mX11_odds 8 [.ref M, .int k, .int n, .int p] E iv lv (QD M iv lv (oOdds A D T k n p)) := by
  obtain ⟨s, ⟨m, lg⟩, kp⟩ := T
  have hs : WS s := hW.1.1
  have hs7 : s.1 ≤ 7 := hs.1
  have hw : WV s (lg m) := nowW hW
  have hd : lg m 0 ≤ 40 := nowD hW
  have hr : SR M s iv := hT.1
  have hv : VR (M + 12) (lg m) iv := hT.2.2.1
  have h20 : iv M 20 = nI m := hT.2.1
  have hm : m ≤ 40 := hW.1.2.1
  refine spec0_of (lo := [_,_,_,_,_]) (by decide) (Nat.le_of_ble_eq_true rfl) rfl ?_
  refine aw_aload_n dX11_odds_0 rfl ?_
  refine aw_iload_n dX11_odds_1 rfl ?_
  refine aw_iconst (v := nI 0) dX11_odds_2 kc_0 ?_
  refine aw_bipush (v := nI 63) dX11_odds_3 kb_63 ?_
  refine aw_xSi [_, _, _] dX11_odds_5 csX11_76 (m_in k (nI 0) (nI 63)) rfl rfl (Nat.le_of_ble_eq_true rfl) (rb0 (by decide)) ?_
  refine aw_if_eq (tgt := 35) dX11_odds_8 rfl (fun h8 => ?_) (fun h8 => ?_)
  · have hc8 := zI_0.mp h8
    refine aw_iconst (v := nI 0) dX11_odds_35 kc_0 ?_
    refine aw_xVi [_] dX11_odds_36 cvX11_195 (MS.s0 hM) (m_need hM hr.1 hs7 False) rfl rfl (Nat.le_of_ble_eq_true rfl) (rb0 (by decide)) ?_
    refine aw_istore (lo' := [_,_,_,_,_]) dX11_odds_39 (Nat.le_of_ble_eq_true rfl) rfl ?_
    refine aw_iload dX11_odds_41 rfl ?_
    refine aw_if_ge (tgt := 49) dX11_odds_43 rfl (fun h43 => ?_) (fun h43 => ?_)
    · exact (nd_ge h43).1.elim
    · refine aw_iload dX11_odds_46 rfl ?_
      refine aw_iret dX11_odds_48 rfl (rb0 (Nat.zero_le _)) ⟨rfl, _, rfl, ?_⟩
      first
        | (rcases nd_no h43 with ⟨hc, e⟩ | ⟨hc, hz, e⟩
           · first
               | exact absurd trivial hc
               | (rw [e]
                  refine QD_no hA hD hT ?_
                  refine if_pos ?_
                  first
                    | exact (Decidable.byCases (p := k < 0) Or.inl (fun q => Or.inr (Or.inl (Int32.not_le.mp (fun q2 => hc8 ⟨Int32.not_lt.mp q, q2⟩)))))
                    | exact Or.inr (Or.inr (fun q => hc18 ⟨q.1, q.2.1⟩))
                    | exact Or.inr (Or.inr (fun q => hc28 ⟨q.2.2.1, q.2.2.2⟩)))
           · first
               | exact hc.elim
               | (rw [e]
                  refine QD_no hA hD hT ?_
                  dsimp only [oOdds, nowT]
                  rw [if_neg (fun q => q.elim (fun q => absurd hc8.1 (Int32.not_le.mpr q)) (fun q => q.elim (fun q => absurd hc8.2 (Int32.not_le.mpr q)) (fun q => q ⟨hc18.1, hc18.2, hc28.1, hc28.2⟩))), if_pos hz]))
  · have hc8 := zI_n0.mp h8
    refine aw_iload_n dX11_odds_11 rfl ?_
    refine aw_iconst (v := nI 0) dX11_odds_12 kc_0 ?_
    refine aw_bipush (v := nI 20) dX11_odds_13 kb_20 ?_
    refine aw_xSi [_, _, _] dX11_odds_15 csX11_76 (m_in n (nI 0) (nI 20)) rfl rfl (Nat.le_of_ble_eq_true rfl) (rb0 (by decide)) ?_
    refine aw_if_eq (tgt := 35) dX11_odds_18 rfl (fun h18 => ?_) (fun h18 => ?_)
    · have hc18 := zI_0.mp h18
      refine aw_iconst (v := nI 0) dX11_odds_35 kc_0 ?_
      refine aw_xVi [_] dX11_odds_36 cvX11_195 (MS.s0 hM) (m_need hM hr.1 hs7 False) rfl rfl (Nat.le_of_ble_eq_true rfl) (rb0 (by decide)) ?_
      refine aw_istore (lo' := [_,_,_,_,_]) dX11_odds_39 (Nat.le_of_ble_eq_true rfl) rfl ?_
      refine aw_iload dX11_odds_41 rfl ?_
      refine aw_if_ge (tgt := 49) dX11_odds_43 rfl (fun h43 => ?_) (fun h43 => ?_)
      · exact (nd_ge h43).1.elim
      · refine aw_iload dX11_odds_46 rfl ?_
        refine aw_iret dX11_odds_48 rfl (rb0 (Nat.zero_le _)) ⟨rfl, _, rfl, ?_⟩
        first
          | (rcases nd_no h43 with ⟨hc, e⟩ | ⟨hc, hz, e⟩
             · first
                 | exact absurd trivial hc
                 | (rw [e]
                    refine QD_no hA hD hT ?_
                    refine if_pos ?_
                    first
                      | exact (Decidable.byCases (p := k < 0) Or.inl (fun q => Or.inr (Or.inl (Int32.not_le.mp (fun q2 => hc8 ⟨Int32.not_lt.mp q, q2⟩)))))
                      | exact Or.inr (Or.inr (fun q => hc18 ⟨q.1, q.2.1⟩))
                      | exact Or.inr (Or.inr (fun q => hc28 ⟨q.2.2.1, q.2.2.2⟩)))
             · first
                 | exact hc.elim
                 | (rw [e]
                    refine QD_no hA hD hT ?_
                    dsimp only [oOdds, nowT]
                    rw [if_neg (fun q => q.elim (fun q => absurd hc8.1 (Int32.not_le.mpr q)) (fun q => q.elim (fun q => absurd hc8.2 (Int32.not_le.mpr q)) (fun q => q ⟨hc18.1, hc18.2, hc28.1, hc28.2⟩))), if_pos hz]))
    · have hc18 := zI_n0.mp h18
      refine aw_iload_n dX11_odds_21 rfl ?_
      refine aw_iconst (v := nI 0) dX11_odds_22 kc_0 ?_
      refine aw_bipush (v := nI 12) dX11_odds_23 kb_12 ?_
      refine aw_xSi [_, _, _] dX11_odds_25 csX11_76 (m_in p (nI 0) (nI 12)) rfl rfl (Nat.le_of_ble_eq_true rfl) (rb0 (by decide)) ?_
      refine aw_if_eq (tgt := 35) dX11_odds_28 rfl (fun h28 => ?_) (fun h28 => ?_)
      · have hc28 := zI_0.mp h28
        refine aw_iconst (v := nI 0) dX11_odds_35 kc_0 ?_
        refine aw_xVi [_] dX11_odds_36 cvX11_195 (MS.s0 hM) (m_need hM hr.1 hs7 False) rfl rfl (Nat.le_of_ble_eq_true rfl) (rb0 (by decide)) ?_
        refine aw_istore (lo' := [_,_,_,_,_]) dX11_odds_39 (Nat.le_of_ble_eq_true rfl) rfl ?_
        refine aw_iload dX11_odds_41 rfl ?_
        refine aw_if_ge (tgt := 49) dX11_odds_43 rfl (fun h43 => ?_) (fun h43 => ?_)
        · exact (nd_ge h43).1.elim
        · refine aw_iload dX11_odds_46 rfl ?_
          refine aw_iret dX11_odds_48 rfl (rb0 (Nat.zero_le _)) ⟨rfl, _, rfl, ?_⟩
          first
            | (rcases nd_no h43 with ⟨hc, e⟩ | ⟨hc, hz, e⟩
               · first
                   | exact absurd trivial hc
                   | (rw [e]
                      refine QD_no hA hD hT ?_
                      refine if_pos ?_
                      first
                        | exact (Decidable.byCases (p := k < 0) Or.inl (fun q => Or.inr (Or.inl (Int32.not_le.mp (fun q2 => hc8 ⟨Int32.not_lt.mp q, q2⟩)))))
                        | exact Or.inr (Or.inr (fun q => hc18 ⟨q.1, q.2.1⟩))
                        | exact Or.inr (Or.inr (fun q => hc28 ⟨q.2.2.1, q.2.2.2⟩)))
               · first
                   | exact hc.elim
                   | (rw [e]
                      refine QD_no hA hD hT ?_
                      dsimp only [oOdds, nowT]
                      rw [if_neg (fun q => q.elim (fun q => absurd hc8.1 (Int32.not_le.mpr q)) (fun q => q.elim (fun q => absurd hc8.2 (Int32.not_le.mpr q)) (fun q => q ⟨hc18.1, hc18.2, hc28.1, hc28.2⟩))), if_pos hz]))
      · have hc28 := zI_n0.mp h28
        refine aw_iconst (v := nI 1) dX11_odds_31 kc_1 ?_
        refine aw_goto (tgt := 36) dX11_odds_32 rfl ?_
        refine aw_xVi [_] dX11_odds_36 cvX11_195 (MS.s0 hM) (m_need hM hr.1 hs7 True) rfl rfl (Nat.le_of_ble_eq_true rfl) (rb0 (by decide)) ?_
        refine aw_istore (lo' := [_,_,_,_,_]) dX11_odds_39 (Nat.le_of_ble_eq_true rfl) rfl ?_
        refine aw_iload dX11_odds_41 rfl ?_
        refine aw_if_ge (tgt := 49) dX11_odds_43 rfl (fun h43 => ?_) (fun h43 => ?_)
        · obtain ⟨hcc, hnp⟩ := nd_ge h43
          obtain ⟨e, he, rfl⟩ := ix_le (n := k) (k := 63) (Int32.not_lt.mpr hc8.1) (Int32.not_lt.mpr hc8.2) (by decide)
          obtain ⟨u, w, hu, hw12, rfl, rfl⟩ := ix_ch ⟨hc18.1, hc18.2, hc28.1, hc28.2⟩
          refine aw_aload_n dX11_odds_49 rfl ?_
          refine aw_iload_n dX11_odds_50 rfl ?_
          refine aw_iload_n dX11_odds_51 rfl ?_
          refine aw_iload_n dX11_odds_52 rfl ?_
          refine aw_sVv [_, _, _] dX11_odds_53 cvX11_239 (MS.s0 hM) (m_winds hM hs hr hv hw (few := e) (n := u) (p := w) (by omega) (by omega) (by omega) (by omega)) rfl rfl (Nat.le_of_ble_eq_true rfl) (rb0 (by decide)) (fun kv klv hk => ?_)
          obtain ⟨k1, k2, k3, k4, k5⟩ := hk
          have hb1 := sT_b (n := u) (p := w) hs hw (by omega) (by omega)
          have hb2 := sF_b (s := s) (v := lg m) (n := u) (p := w) (few := e) (by omega)
          refine aw_aload_n dX11_odds_56 rfl ?_
          refine aw_aload_n dX11_odds_57 rfl ?_
          refine aw_getL dX11_odds_58 fgX11_233 rfl (MS.s0 hM) ?_
          rw [k3]
          refine aw_aload_n dX11_odds_61 rfl ?_
          refine aw_getL dX11_odds_62 fgX11_228 rfl (MS.s0 hM) ?_
          rw [k2]
          refine aw_iconst (v := nI 1) dX11_odds_65 kc_1 ?_
          refine aw_xVi [_, _, _] dX11_odds_66 cvX11_243 (MS.s0 hM) (m_low (a := sF s (lg m) u w e 32) (b := 248832) hM (by omega) (by decide) (by decide)) rfl rfl (Nat.le_of_ble_eq_true rfl) (rb0 (by decide)) ?_
          refine aw_iret dX11_odds_69 rfl (rb0 (Nat.zero_le _)) ⟨rfl, _, rfl, ?_⟩
          refine QD_low hA hD hT (fun b hb _ => k1 b hb) k5 ?_
          dsimp only [oOdds, nowT]
          rw [if_neg (fun q => q.elim (fun q => absurd hc8.1 (Int32.not_le.mpr q)) (fun q => q.elim (fun q => absurd hc8.2 (Int32.not_le.mpr q)) (fun q => q ⟨hc18.1, hc18.2, hc28.1, hc28.2⟩))), if_neg hnp, ix_nI (by omega), ix_nI (by omega), ix_nI (by omega)]
        · refine aw_iload dX11_odds_46 rfl ?_
          refine aw_iret dX11_odds_48 rfl (rb0 (Nat.zero_le _)) ⟨rfl, _, rfl, ?_⟩
          first
            | (rcases nd_no h43 with ⟨hc, e⟩ | ⟨hc, hz, e⟩
               · first
                   | exact absurd trivial hc
                   | (rw [e]
                      refine QD_no hA hD hT ?_
                      refine if_pos ?_
                      first
                        | exact (Decidable.byCases (p := k < 0) Or.inl (fun q => Or.inr (Or.inl (Int32.not_le.mp (fun q2 => hc8 ⟨Int32.not_lt.mp q, q2⟩)))))
                        | exact Or.inr (Or.inr (fun q => hc18 ⟨q.1, q.2.1⟩))
                        | exact Or.inr (Or.inr (fun q => hc28 ⟨q.2.2.1, q.2.2.2⟩)))
               · first
                   | exact hc.elim
                   | (rw [e]
                      refine QD_no hA hD hT ?_
                      dsimp only [oOdds, nowT]
                      rw [if_neg (fun q => q.elim (fun q => absurd hc8.1 (Int32.not_le.mpr q)) (fun q => q.elim (fun q => absurd hc8.2 (Int32.not_le.mpr q)) (fun q => q ⟨hc18.1, hc18.2, hc28.1, hc28.2⟩))), if_pos hz]))
theorem m_mid {G : GC} {E : SH} {iv : IV} {lv : LV} {M : Nat} (hM : MS G E M) {A : AA} {D : DD} {T : FT} (hA : MA M A iv lv) (hD : MD M D iv) (hT : MT M T iv) (hW : WT T) (n p : Int32) : SpI G mX11_mid 8 [.ref M, .int n, .int p] E iv lv (QD M iv lv (oMid A D T n p)) := by
  obtain ⟨s, ⟨m, lg⟩, kp⟩ := T
  have hs : WS s := hW.1.1
  have hs7 : s.1 ≤ 7 := hs.1
  have hw : WV s (lg m) := nowW hW
  have hd : lg m 0 ≤ 40 := nowD hW
  have hr : SR M s iv := hT.1
  have hv : VR (M + 12) (lg m) iv := hT.2.2.1
  have h20 : iv M 20 = nI m := hT.2.1
  have hm : m ≤ 40 := hW.1.2.1
  refine spec0_of (lo := [_,_,_,_]) (by decide) (Nat.le_of_ble_eq_true rfl) rfl ?_
  refine aw_aload_n dX11_mid_0 rfl ?_
  refine aw_iload_n dX11_mid_1 rfl ?_
  refine aw_iconst (v := nI 0) dX11_mid_2 kc_0 ?_
  refine aw_bipush (v := nI 20) dX11_mid_3 kb_20 ?_
  refine aw_xSi [_, _, _] dX11_mid_5 csX11_76 (m_in n (nI 0) (nI 20)) rfl rfl (Nat.le_of_ble_eq_true rfl) (rb0 (by decide)) ?_
  refine aw_if_eq (tgt := 25) dX11_mid_8 rfl (fun h8 => ?_) (fun h8 => ?_)
  · have hc8 := zI_0.mp h8
    refine aw_iconst (v := nI 0) dX11_mid_25 kc_0 ?_
    refine aw_xVi [_] dX11_mid_26 cvX11_195 (MS.s0 hM) (m_need hM hr.1 hs7 False) rfl rfl (Nat.le_of_ble_eq_true rfl) (rb0 (by decide)) ?_
    refine aw_istore_n (lo' := [_,_,_,_]) dX11_mid_29 (Nat.le_of_ble_eq_true rfl) rfl ?_
    refine aw_iload_n dX11_mid_30 rfl ?_
    refine aw_if_ge (tgt := 36) dX11_mid_31 rfl (fun h31 => ?_) (fun h31 => ?_)
    · exact (nd_ge h31).1.elim
    · refine aw_iload_n dX11_mid_34 rfl ?_
      refine aw_iret dX11_mid_35 rfl (rb0 (Nat.zero_le _)) ⟨rfl, _, rfl, ?_⟩
      first
        | (rcases nd_no h31 with ⟨hc, e⟩ | ⟨hc, hz, e⟩
           · first
               | exact absurd trivial hc
               | (rw [e]
                  refine QD_no hA hD hT ?_
                  refine if_pos ?_
                  first
                    | exact (fun q => hc8 ⟨q.1, q.2.1⟩)
                    | exact (fun q => hc18 ⟨q.2.2.1, q.2.2.2⟩))
           · first
               | exact hc.elim
               | (rw [e]
                  refine QD_no hA hD hT ?_
                  dsimp only [oMid, nowT]
                  rw [if_neg (fun q => q ⟨hc8.1, hc8.2, hc18.1, hc18.2⟩), if_pos hz]))
  · have hc8 := zI_n0.mp h8
    refine aw_iload_n dX11_mid_11 rfl ?_
    refine aw_iconst (v := nI 0) dX11_mid_12 kc_0 ?_
    refine aw_bipush (v := nI 12) dX11_mid_13 kb_12 ?_
    refine aw_xSi [_, _, _] dX11_mid_15 csX11_76 (m_in p (nI 0) (nI 12)) rfl rfl (Nat.le_of_ble_eq_true rfl) (rb0 (by decide)) ?_
    refine aw_if_eq (tgt := 25) dX11_mid_18 rfl (fun h18 => ?_) (fun h18 => ?_)
    · have hc18 := zI_0.mp h18
      refine aw_iconst (v := nI 0) dX11_mid_25 kc_0 ?_
      refine aw_xVi [_] dX11_mid_26 cvX11_195 (MS.s0 hM) (m_need hM hr.1 hs7 False) rfl rfl (Nat.le_of_ble_eq_true rfl) (rb0 (by decide)) ?_
      refine aw_istore_n (lo' := [_,_,_,_]) dX11_mid_29 (Nat.le_of_ble_eq_true rfl) rfl ?_
      refine aw_iload_n dX11_mid_30 rfl ?_
      refine aw_if_ge (tgt := 36) dX11_mid_31 rfl (fun h31 => ?_) (fun h31 => ?_)
      · exact (nd_ge h31).1.elim
      · refine aw_iload_n dX11_mid_34 rfl ?_
        refine aw_iret dX11_mid_35 rfl (rb0 (Nat.zero_le _)) ⟨rfl, _, rfl, ?_⟩
        first
          | (rcases nd_no h31 with ⟨hc, e⟩ | ⟨hc, hz, e⟩
             · first
                 | exact absurd trivial hc
                 | (rw [e]
                    refine QD_no hA hD hT ?_
                    refine if_pos ?_
                    first
                      | exact (fun q => hc8 ⟨q.1, q.2.1⟩)
                      | exact (fun q => hc18 ⟨q.2.2.1, q.2.2.2⟩))
             · first
                 | exact hc.elim
                 | (rw [e]
                    refine QD_no hA hD hT ?_
                    dsimp only [oMid, nowT]
                    rw [if_neg (fun q => q ⟨hc8.1, hc8.2, hc18.1, hc18.2⟩), if_pos hz]))
    · have hc18 := zI_n0.mp h18
      refine aw_iconst (v := nI 1) dX11_mid_21 kc_1 ?_
      refine aw_goto (tgt := 26) dX11_mid_22 rfl ?_
      refine aw_xVi [_] dX11_mid_26 cvX11_195 (MS.s0 hM) (m_need hM hr.1 hs7 True) rfl rfl (Nat.le_of_ble_eq_true rfl) (rb0 (by decide)) ?_
      refine aw_istore_n (lo' := [_,_,_,_]) dX11_mid_29 (Nat.le_of_ble_eq_true rfl) rfl ?_
      refine aw_iload_n dX11_mid_30 rfl ?_
      refine aw_if_ge (tgt := 36) dX11_mid_31 rfl (fun h31 => ?_) (fun h31 => ?_)
      · obtain ⟨hcc, hnp⟩ := nd_ge h31
        obtain ⟨u, w, hu, hw12, rfl, rfl⟩ := ix_ch ⟨hc8.1, hc8.2, hc18.1, hc18.2⟩
        refine aw_aload_n dX11_mid_36 rfl ?_
        refine aw_iconst (v := nI 0) dX11_mid_37 kc_0 ?_
        refine aw_iload_n dX11_mid_38 rfl ?_
        refine aw_iload_n dX11_mid_39 rfl ?_
        refine aw_sVv [_, _, _] dX11_mid_40 cvX11_239 (MS.s0 hM) (m_winds hM hs hr hv hw (few := 0) (n := u) (p := w) (by omega) (by omega) (by omega) (by omega)) rfl rfl (Nat.le_of_ble_eq_true rfl) (rb0 (by decide)) (fun kv klv hk => ?_)
        obtain ⟨k1, k2, k3, k4, k5⟩ := hk
        have hb1 := sT_b (n := u) (p := w) hs hw (by omega) (by omega)
        have hb2 := sF_b (s := s) (v := lg m) (n := u) (p := w) (few := 0) (by omega)
        refine aw_aload_n dX11_mid_43 rfl ?_
        refine aw_aload_n dX11_mid_44 rfl ?_
        refine aw_getL dX11_mid_45 fgX11_236 rfl (MS.s0 hM) ?_
        rw [k4]
        refine aw_aload_n dX11_mid_48 rfl ?_
        refine aw_getL dX11_mid_49 fgX11_228 rfl (MS.s0 hM) ?_
        rw [k2]
        refine aw_iconst (v := nI 1) dX11_mid_52 kc_1 ?_
        refine aw_xVi [_, _, _] dX11_mid_53 cvX11_243 (MS.s0 hM) (m_low (a := sT s (lg m) u w 32) (b := 248832) hM (by omega) (by decide) (by decide)) rfl rfl (Nat.le_of_ble_eq_true rfl) (rb0 (by decide)) ?_
        refine aw_iret dX11_mid_56 rfl (rb0 (Nat.zero_le _)) ⟨rfl, _, rfl, ?_⟩
        refine QD_low hA hD hT (fun b hb _ => k1 b hb) k5 ?_
        dsimp only [oMid, nowT]
        rw [if_neg (fun q => q ⟨hc8.1, hc8.2, hc18.1, hc18.2⟩), if_neg hnp, ix_nI (by omega), ix_nI (by omega)]
      · refine aw_iload_n dX11_mid_34 rfl ?_
        refine aw_iret dX11_mid_35 rfl (rb0 (Nat.zero_le _)) ⟨rfl, _, rfl, ?_⟩
        first
          | (rcases nd_no h31 with ⟨hc, e⟩ | ⟨hc, hz, e⟩
             · first
                 | exact absurd trivial hc
                 | (rw [e]
                    refine QD_no hA hD hT ?_
                    refine if_pos ?_
                    first
                      | exact (fun q => hc8 ⟨q.1, q.2.1⟩)
                      | exact (fun q => hc18 ⟨q.2.2.1, q.2.2.2⟩))
             · first
                 | exact hc.elim
                 | (rw [e]
                    refine QD_no hA hD hT ?_
                    dsimp only [oMid, nowT]
                    rw [if_neg (fun q => q ⟨hc8.1, hc8.2, hc18.1, hc18.2⟩), if_pos hz]))
