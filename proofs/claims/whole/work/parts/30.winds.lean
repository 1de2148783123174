/-! winds: the streets that are cleared, as bits -/
def wgt (p x : Nat) : Nat → Nat
  | 0 => 1
  | c + 1 => wgt p x c * (if x.testBit c then p else 12 - p)
def vW (v : TV) (x c : Nat) : TV := fun k => if (1 ≤ k ∧ k < 1 + c) ∧ x.testBit (k - 1) = true then 0 else v k
def gW (s : TS) (v : TV) (n x : Nat) : Nat := gd s (vW v x 5) n
def sA (p : Nat) : Nat → Nat := sumU (fun x => wgt p x 5)
def sT (s : TS) (v : TV) (n p : Nat) : Nat → Nat := sumU (fun x => wgt p x 5 * gW s v n x)
def sF (s : TS) (v : TV) (n p few : Nat) : Nat → Nat := sumU (fun x => if gW s v n x ≤ few then wgt p x 5 else 0)
theorem wgt_le {p x : Nat} (hp : p ≤ 12) : ∀ c, c ≤ 5 → wgt p x c ≤ 12 ^ c
  | 0, _ => Nat.le_refl 1
  | c + 1, h => by
    have h1 := wgt_le (x := x) hp c (by omega)
    rw [wgt, Nat.pow_succ]
    exact Nat.mul_le_mul h1 (by split <;> omega)
theorem wgt5 {p x : Nat} (hp : p ≤ 12) : wgt p x 5 ≤ 248832 := wgt_le hp 5 (Nat.le_refl 5)
theorem WV_vW {s : TS} {v : TV} {x c : Nat} (h7 : s.1 ≤ 7) (hw : WV s v) (hc : c ≤ 5) : WV s (vW v x c) := by
  refine ⟨fun i hi => ?_, fun q hq => ?_, ?_⟩
  · unfold vW
    rw [if_neg (by omega), if_neg (by omega)]; exact hw.1 i hi
  · unfold vW
    split
    · omega
    · exact hw.2.1 q hq
  · unfold vW
    rw [if_neg (by omega)]; exact hw.2.2
theorem vW_d (v : TV) (x c : Nat) : vW v x c 0 = v 0 := by
  unfold vW
  rw [if_neg (by omega)]
theorem gW_le {s : TS} {v : TV} (hs : WS s) (hw : WV s v) {n x : Nat} (hd : v 0 + n < 2 ^ 20) : gW s v n x ≤ 63 := gd_le hs (WV_vW hs.1 hw (Nat.le_refl 5)) (by rw [vW_d]; exact hd)
theorem bit1 : ∀ x, x < 64 → ∀ c, c < 6 → ((nI x >>> (nI c &&& 31)) &&& nI 1 = nI 1 ↔ x.testBit c = true) := by decide +kernel
/-- the aside town with the first c streets by the winds x, the others as they lay -/
def TW (O : Nat) (s : TS) (v : TV) (x c : Nat) (iv : IV) : Prop := ∃ u : TV, TR (O + 1) s u iv ∧ (∀ k, (k = 0 ∨ 6 ≤ k) → u k = v k) ∧ ∀ q, q < c → u (1 + q) = vW v x 5 (1 + q)
theorem TW_s {O x c y : Nat} {s : TS} {v : TV} {iv : IV} (h7 : s.1 ≤ 7) (hc : c < 5) (h : TW O s v x c iv) (hy : y = vW v x 5 (1 + c)) : TW O s v x (c + 1) (va_up iv (O + 1 + 13) (upd (iv (O + 1 + 13)) c (nI y))) := by
  obtain ⟨u, h1, h2, h3⟩ := h
  refine ⟨va_up u (1 + c) y, TR_d h7 hc h1, fun k hk => by rw [va_up_n (by omega)]; exact h2 k hk, fun q hq => ?_⟩
  by_cases e : q = c
  · subst e; rw [va_up_s, hy]
  · rw [va_up_n (by omega)]; exact h3 q (by omega)
theorem TW_5 {O x : Nat} {s : TS} {v : TV} {iv : IV} (h : TW O s v x 5 iv) (h7 : s.1 ≤ 7) : TR (O + 1) s (vW v x 5) iv := by
  obtain ⟨u, h1, h2, h3⟩ := h
  refine ⟨h1.1, ?_, fun j hj => ?_, fun c hc => ?_⟩
  · rw [h1.2.1, h2 0 (by omega), vW_d]
  · have g := h1.2.2.1 j hj
    rw [h2 _ (by omega), h2 _ (by omega)] at g
    have e1 : vW v x 5 (6 + j) = v (6 + j) := by unfold vW; rw [if_neg (by omega)]
    have e2 : vW v x 5 (13 + j) = v (13 + j) := by unfold vW; rw [if_neg (by omega)]
    rw [e1, e2]
    exact g
  · rw [h1.2.2.2 c hc, h3 c hc]
theorem lo_wind2 {G : GC} {E : SH} {iv : IV} {lv : LV} {O : Nat} {s : TS} {v : TV} (hO : OutS G E O) (hs : WS s) (hr : TR (O + 1) s v iv) (hw : WV s v) {few n p : Nat} (hf : few ≤ 63) (hn : v 0 + n < 2 ^ 20) (hn3 : n < 2 ^ 31) (hp : p ≤ 12) {x : Nat} (hx : x < 32) {jl : LV} {Zz : List Frame → Array Value → State → State → Prop} : (∀ (jv : IV) (j8 : Option Value), TW O s v x 5 jv → (∀ c, c < 5 → jv (O + 22) c = nI (v (1 + c))) → frQ O jv iv → AW G mX3_weighWinds (rm 6 0) Zz (fun _ => True) E.1 124 [some (.ref O), some (.int (nI few)), some (.int (nI n)), some (.int (nI p)), some (.int (nI x)), some (.long (lN (wgt p x 5))), none, some (.int (nI 5)), j8] [] E jv jl) → ∀ (e c : Nat) (jv : IV) (j8 : Option Value), c + e = 5 → TW O s v x c jv → (∀ c, c < 5 → jv (O + 22) c = nI (v (1 + c))) → frQ O jv iv → AW G mX3_weighWinds (rm 6 0) Zz (fun _ => True) E.1 48 [some (.ref O), some (.int (nI few)), some (.int (nI n)), some (.int (nI p)), some (.int (nI x)), some (.long (lN (wgt p x c))), none, some (.int (nI c)), j8] [] E jv jl := by
  have h7 := hs.1
  intro hk e
  induction e with
  | zero =>
    intro c jv j8 hc ha hl hq
    have hc : c = 5 := by omega
    subst hc
    refine aw_iload dX3_weighWinds_48 rfl ?_
    refine aw_iconst (v := nI 5) dX3_weighWinds_50 kc_5 ?_
    refine aw_icmp_ge (tgt := 124) dX3_weighWinds_51 rfl (fun h51 => ?_) (fun h51 => absurd (nI_le (Nat.le_refl _) (by decide)) h51)
    exact hk jv j8 ha hl hq
  | succ e ih =>
    intro c jv j8 hc ha hl hq
    have hb := wgt_le (x := x) hp c (by omega)
    refine aw_iload dX3_weighWinds_48 rfl ?_
    refine aw_iconst (v := nI 5) dX3_weighWinds_50 kc_5 ?_
    refine aw_icmp_ge (tgt := 124) dX3_weighWinds_51 rfl (fun h51 => absurd h51 (nI_ge (by omega) (by decide))) (fun h51 => ?_)
    refine aw_iload dX3_weighWinds_54 rfl ?_
    refine aw_iload dX3_weighWinds_56 rfl ?_
    refine aw_ishr dX3_weighWinds_58 ?_
    refine aw_iconst (v := nI 1) dX3_weighWinds_59 kc_1 ?_
    refine aw_iand dX3_weighWinds_60 ?_
    refine aw_iconst (v := nI 1) dX3_weighWinds_61 kc_1 ?_
    refine aw_icmp_ne (tgt := 69) dX3_weighWinds_62 rfl (fun h62 => ?_) (fun h62 => ?_)
    · rw [bit1 x (by omega) c (by omega)] at h62
      refine aw_iconst (v := nI 0) dX3_weighWinds_69 kc_0 ?_
      refine aw_istore (lo' := [_,_,_,_,_,_,_,_,_]) dX3_weighWinds_70 (Nat.le_of_ble_eq_true rfl) rfl ?_
      refine aw_lload dX3_weighWinds_72 rfl ?_
      refine aw_iload dX3_weighWinds_74 rfl ?_
      refine aw_if_eq (tgt := 84) dX3_weighWinds_76 rfl (fun h76 => ?_) (fun h76 => absurd (by decide) h76)
      refine aw_bipush (v := nI 12) dX3_weighWinds_84 kb_12 ?_
      refine aw_iload_n dX3_weighWinds_86 rfl ?_
      refine aw_isub dX3_weighWinds_87 ?_
      rw [pk_sub hp]
      refine aw_i2l dX3_weighWinds_88 ?_
      refine aw_lmul dX3_weighWinds_89 ?_
      rw [nI_l (by omega), lN_mul]
      refine aw_lstore (lo' := [_,_,_,_,_,_,_,_,_]) dX3_weighWinds_90 (Nat.le_of_ble_eq_true rfl) rfl ?_
      refine aw_aload_n dX3_weighWinds_92 rfl ?_
      refine aw_getR dX3_weighWinds_93 fgX3_12 rfl (OutS.s0 hO) (OutS.r0_0 hO) ?_
      refine aw_getR dX3_weighWinds_96 fgX3_89 rfl (TownS.s0 (OutS.aside hO)) (TownS.r0_9 (OutS.aside hO)) ?_
      refine aw_iload dX3_weighWinds_99 rfl ?_
      refine aw_iload dX3_weighWinds_101 rfl ?_
      refine aw_if_eq (tgt := 110) dX3_weighWinds_103 rfl (fun h103 => ?_) (fun h103 => absurd (by decide) h103)
      refine aw_aload_n dX3_weighWinds_110 rfl ?_
      refine aw_getR dX3_weighWinds_111 fgX3_22 rfl (OutS.s0 hO) (OutS.r0_2 hO) ?_
      refine aw_iload dX3_weighWinds_114 rfl ?_
      refine aw_iaload dX3_weighWinds_116 (OutS.s22 hO) rfl (by omega) ?_
      rw [hl c (by omega)]
      refine aw_iastore dX3_weighWinds_117 (TownS.s13 (OutS.aside hO)) rfl (by omega) ?_
      refine aw_iinc (v := _) (lo' := [_,_,_,_,_,_,_,_,_]) dX3_weighWinds_118 rfl (nI_1 c) rfl ?_
      refine aw_goto (tgt := 48) dX3_weighWinds_121 rfl ?_
      first
        | (have h62 : x.testBit c = false := by simpa using h62
           have h := ih (c + 1) _ (some (.int (nI 0))) (by omega) (TW_s (y := v (1 + c)) h7 (by omega) ha (by unfold vW; rw [if_neg (by rw [show 1 + c - 1 = c by omega, h62]; rintro ⟨-, q⟩; cases q)])) (fun q hq => by rw [va_up_n (by omega)]; exact hl q hq) (frQ_tr (fun b hb => va_up_n (by omega)) hq)
           rw [wgt, h62, if_neg (by decide)] at h
           exact h)
        | (have h := ih (c + 1) _ (some (.int (nI 1))) (by omega) (TW_s (y := 0) h7 (by omega) ha (by unfold vW; rw [if_pos ⟨by omega, by rw [show 1 + c - 1 = c by omega]; exact h62⟩])) (fun q hq => by rw [va_up_n (by omega)]; exact hl q hq) (frQ_tr (fun b hb => va_up_n (by omega)) hq)
           rw [wgt, h62, if_pos rfl] at h
           exact h)
    · rw [bit1 x (by omega) c (by omega)] at h62
      refine aw_iconst (v := nI 1) dX3_weighWinds_65 kc_1 ?_
      refine aw_goto (tgt := 70) dX3_weighWinds_66 rfl ?_
      refine aw_istore (lo' := [_,_,_,_,_,_,_,_,_]) dX3_weighWinds_70 (Nat.le_of_ble_eq_true rfl) rfl ?_
      refine aw_lload dX3_weighWinds_72 rfl ?_
      refine aw_iload dX3_weighWinds_74 rfl ?_
      refine aw_if_eq (tgt := 84) dX3_weighWinds_76 rfl (fun h76 => absurd h76 (by decide)) (fun h76 => ?_)
      refine aw_iload_n dX3_weighWinds_79 rfl ?_
      refine aw_i2l dX3_weighWinds_80 ?_
      refine aw_goto (tgt := 89) dX3_weighWinds_81 rfl ?_
      refine aw_lmul dX3_weighWinds_89 ?_
      rw [nI_l (by omega), lN_mul]
      refine aw_lstore (lo' := [_,_,_,_,_,_,_,_,_]) dX3_weighWinds_90 (Nat.le_of_ble_eq_true rfl) rfl ?_
      refine aw_aload_n dX3_weighWinds_92 rfl ?_
      refine aw_getR dX3_weighWinds_93 fgX3_12 rfl (OutS.s0 hO) (OutS.r0_0 hO) ?_
      refine aw_getR dX3_weighWinds_96 fgX3_89 rfl (TownS.s0 (OutS.aside hO)) (TownS.r0_9 (OutS.aside hO)) ?_
      refine aw_iload dX3_weighWinds_99 rfl ?_
      refine aw_iload dX3_weighWinds_101 rfl ?_
      refine aw_if_eq (tgt := 110) dX3_weighWinds_103 rfl (fun h103 => absurd h103 (by decide)) (fun h103 => ?_)
      refine aw_iconst (v := nI 0) dX3_weighWinds_106 kc_0 ?_
      refine aw_goto (tgt := 117) dX3_weighWinds_107 rfl ?_
      refine aw_iastore dX3_weighWinds_117 (TownS.s13 (OutS.aside hO)) rfl (by omega) ?_
      refine aw_iinc (v := _) (lo' := [_,_,_,_,_,_,_,_,_]) dX3_weighWinds_118 rfl (nI_1 c) rfl ?_
      refine aw_goto (tgt := 48) dX3_weighWinds_121 rfl ?_
      first
        | (have h62 : x.testBit c = false := by simpa using h62
           have h := ih (c + 1) _ (some (.int (nI 0))) (by omega) (TW_s (y := v (1 + c)) h7 (by omega) ha (by unfold vW; rw [if_neg (by rw [show 1 + c - 1 = c by omega, h62]; rintro ⟨-, q⟩; cases q)])) (fun q hq => by rw [va_up_n (by omega)]; exact hl q hq) (frQ_tr (fun b hb => va_up_n (by omega)) hq)
           rw [wgt, h62, if_neg (by decide)] at h
           exact h)
        | (have h := ih (c + 1) _ (some (.int (nI 1))) (by omega) (TW_s (y := 0) h7 (by omega) ha (by unfold vW; rw [if_pos ⟨by omega, by rw [show 1 + c - 1 = c by omega]; exact h62⟩])) (fun q hq => by rw [va_up_n (by omega)]; exact hl q hq) (frQ_tr (fun b hb => va_up_n (by omega)) hq)
           rw [wgt, h62, if_pos rfl] at h
           exact h)
theorem lo_wind {G : GC} {E : SH} {iv : IV} {lv : LV} {O : Nat} {s : TS} {v : TV} (hO : OutS G E O) (hs : WS s) (hr : TR (O + 1) s v iv) (hw : WV s v) {few n p : Nat} (hf : few ≤ 63) (hn : v 0 + n < 2 ^ 20) (hn3 : n < 2 ^ 31) (hp : p ≤ 12) : ∀ (e x : Nat) (jv : IV) (jl : LV) (j5 j7 j8 : Option Value), x + e = 32 → TW O s v x 0 jv → (∀ c, c < 5 → jv (O + 22) c = nI (v (1 + c))) → frQ O jv iv → (jl O 7 = lN (sF s v n p few x) ∧ jl O 8 = lN (sT s v n p x) ∧ jl O 9 = lN (sA p x) ∧ ∀ b, b ≠ O → jl b = lv b) → AW G mX3_weighWinds (rm 6 0) (Z0 G 6 E (fun r i0 l => r = none ∧ (frQ O i0 iv ∧ l O 7 = lN (sF s v n p few 32) ∧ l O 8 = lN (sT s v n p 32) ∧ l O 9 = lN (sA p 32) ∧ ∀ b, b ≠ O → l b = lv b))) (fun _ => True) E.1 35 [some (.ref O), some (.int (nI few)), some (.int (nI n)), some (.int (nI p)), some (.int (nI x)), j5, none, j7, j8] [] E jv jl := by
  have h7 := hs.1
  intro e
  induction e with
  | zero =>
    intro x jv jl j5 j7 j8 hx ha hl hq hj
    have hx : x = 32 := by omega
    subst hx
    refine aw_iload dX3_weighWinds_35 rfl ?_
    refine aw_bipush (v := nI 32) dX3_weighWinds_37 kb_32 ?_
    refine aw_icmp_ge (tgt := 191) dX3_weighWinds_39 rfl (fun h39 => ?_) (fun h39 => absurd (nI_le (Nat.le_refl _) (by decide)) h39)
    refine aw_vret dX3_weighWinds_191 rfl (rb0 (Nat.zero_le _)) ⟨rfl, rfl, hq, hj⟩
  | succ e ih =>
    intro x jv jl j5 j7 j8 hx ha hl hq hj
    have hb := wgt5 (x := x) hp
    have hg := gW_le hs hw (x := x) hn
    refine aw_iload dX3_weighWinds_35 rfl ?_
    refine aw_bipush (v := nI 32) dX3_weighWinds_37 kb_32 ?_
    refine aw_icmp_ge (tgt := 191) dX3_weighWinds_39 rfl (fun h39 => absurd h39 (nI_ge (by omega) (by decide))) (fun h39 => ?_)
    refine aw_lconst (v := lN 1) dX3_weighWinds_42 kl_1 ?_
    refine aw_lstore (lo' := [_,_,_,_,_,_,_,_,_]) dX3_weighWinds_43 (Nat.le_of_ble_eq_true rfl) rfl ?_
    refine aw_iconst (v := nI 0) dX3_weighWinds_45 kc_0 ?_
    refine aw_istore (lo' := [_,_,_,_,_,_,_,_,_]) dX3_weighWinds_46 (Nat.le_of_ble_eq_true rfl) rfl ?_
    refine lo_wind2 (lv := lv) hO hs hr hw hf hn hn3 hp (x := x) (by omega) (fun jv j8 ha hl hq => ?_) 5 0 jv j8 (by omega) ha hl hq
    refine aw_lload dX3_weighWinds_124 rfl ?_
    refine aw_lconst (v := lN 0) dX3_weighWinds_126 kl_0 ?_
    refine aw_lcmp dX3_weighWinds_127 ?_
    refine aw_if_le (tgt := 185) dX3_weighWinds_128 rfl (fun h128 => ?_) (fun h128 => ?_)
    · rw [lg_cmp_le, pk_lLE (by omega) (by omega)] at h128
      refine aw_iinc (v := _) (lo' := [_,_,_,_,_,_,_,_,_]) dX3_weighWinds_185 rfl (nI_1 x) rfl ?_
      refine aw_goto (tgt := 35) dX3_weighWinds_188 rfl ?_
      first
        | (obtain ⟨u, u1, u2, -⟩ := ha
           have h0 : wgt p x 5 = 0 := by omega
           refine ih (x + 1) jv _ _ _ _ (by omega) ⟨u, u1, u2, fun q h => absurd h (Nat.not_lt_zero q)⟩ hl hq ⟨?_, ?_, ?_, hj.2.2.2⟩
           · rw [hj.1]
             unfold sF
             rw [sumU, h0]
             split <;> rfl
           · rw [hj.2.1]
             unfold sT
             rw [sumU, h0, Nat.zero_mul]
             rfl
           · rw [hj.2.2.1]
             unfold sA
             rw [sumU, h0]
             rfl)
        | (refine ih (x + 1) kv _ _ _ _ (by omega) hka hkl hkq ⟨?_, ?_, ?_, fun b hb => by rw [va_up_n hb, va_up_n hb, va_up_n hb]; exact hj.2.2.2 b hb⟩
           · rw [va_up_s]
             show lN _ = _
             congr 1
             unfold sF
             rw [sumU]
             first
               | (rw [if_neg (by omega)]; done)
               | (rw [if_pos (by omega)]; done)
           · rw [va_up_s, va_up_s]
             rfl
           · simp only [va_up_s]
             rfl)
    · rw [lg_cmp_le, pk_lLE (by omega) (by omega)] at h128
      refine aw_aload_n dX3_weighWinds_131 rfl ?_
      refine aw_iload_n dX3_weighWinds_132 rfl ?_
      refine aw_sVi [_] dX3_weighWinds_133 cvX3_98 (OutS.s0 hO) (o_behind hO hs (TW_5 ha h7) (WV_vW h7 hw (Nat.le_refl 5)) (by rw [vW_d]; exact hn)) rfl rfl (Nat.le_of_ble_eq_true rfl) (rb0 (by decide)) (fun kw kv klv hk => ?_)
      obtain ⟨k0, k1, k2, rfl⟩ := hk
      subst k0
      rw [show tot s (passN s (vW v x 5) n) = gW s v n x from rfl]
      have hkl : ∀ c, c < 5 → kv (O + 22) c = nI (v (1 + c)) := fun c hc => by rw [k2.1 _ (by omega) (by omega) (by omega)]; exact hl c hc
      have hkq := frQ_tr (frO_Q k2) hq
      have hka : TW O s v (x + 1) 0 kv := ⟨vW v x 5, k1.1, fun k hk => (by unfold vW; rw [if_neg (by omega)]), fun q h => absurd h (Nat.not_lt_zero q)⟩
      refine aw_istore (lo' := [_,_,_,_,_,_,_,_,_]) dX3_weighWinds_136 (Nat.le_of_ble_eq_true rfl) rfl ?_
      refine aw_aload_n dX3_weighWinds_138 rfl ?_
      refine aw_dup dX3_weighWinds_139 rfl ?_
      refine aw_getL dX3_weighWinds_140 fgX3_47 rfl (OutS.s0 hO) ?_
      rw [hj.2.2.1]
      refine aw_lload dX3_weighWinds_143 rfl ?_
      refine aw_ladd dX3_weighWinds_145 ?_
      rw [lN_add]
      refine aw_putL dX3_weighWinds_146 fpX3_47 rfl (OutS.s0 hO) ?_
      refine aw_aload_n dX3_weighWinds_149 rfl ?_
      refine aw_dup dX3_weighWinds_150 rfl ?_
      refine aw_getL dX3_weighWinds_151 fgX3_44 rfl (OutS.s0 hO) ?_
      rw [va_up_s, show vp_updL (klv O) 9 (lN (sA p x + wgt p x 5)) 8 = klv O 8 from rfl, hj.2.1]
      refine aw_lload dX3_weighWinds_154 rfl ?_
      refine aw_iload dX3_weighWinds_156 rfl ?_
      refine aw_i2l dX3_weighWinds_158 ?_
      refine aw_lmul dX3_weighWinds_159 ?_
      rw [nI_l (by omega), lN_mul]
      refine aw_ladd dX3_weighWinds_160 ?_
      rw [lN_add]
      refine aw_putL dX3_weighWinds_161 fpX3_44 rfl (OutS.s0 hO) ?_
      refine aw_aload_n dX3_weighWinds_164 rfl ?_
      refine aw_dup dX3_weighWinds_165 rfl ?_
      refine aw_getL dX3_weighWinds_166 fgX3_40 rfl (OutS.s0 hO) ?_
      rw [va_up_s, va_up_s, show vp_updL (vp_updL (klv O) 9 (lN (sA p x + wgt p x 5))) 8 (lN (sT s v n p x + wgt p x 5 * gW s v n x)) 7 = klv O 7 from rfl, hj.1]
      refine aw_iload dX3_weighWinds_169 rfl ?_
      refine aw_iload_n dX3_weighWinds_171 rfl ?_
      refine aw_icmp_gt (tgt := 180) dX3_weighWinds_172 rfl (fun h172 => ?_) (fun h172 => ?_)
      · rw [nI_ltI (by omega) (by omega)] at h172
        refine aw_lconst (v := lN 0) dX3_weighWinds_180 kl_0 ?_
        refine aw_ladd dX3_weighWinds_181 ?_
        rw [lN_add]
        refine aw_putL dX3_weighWinds_182 fpX3_40 rfl (OutS.s0 hO) ?_
        refine aw_iinc (v := _) (lo' := [_,_,_,_,_,_,_,_,_]) dX3_weighWinds_185 rfl (nI_1 x) rfl ?_
        refine aw_goto (tgt := 35) dX3_weighWinds_188 rfl ?_
        first
          | (obtain ⟨u, u1, u2, -⟩ := ha
             have h0 : wgt p x 5 = 0 := by omega
             refine ih (x + 1) jv _ _ _ _ (by omega) ⟨u, u1, u2, fun q h => absurd h (Nat.not_lt_zero q)⟩ hl hq ⟨?_, ?_, ?_, hj.2.2.2⟩
             · rw [hj.1]
               unfold sF
               rw [sumU, h0]
               split <;> rfl
             · rw [hj.2.1]
               unfold sT
               rw [sumU, h0, Nat.zero_mul]
               rfl
             · rw [hj.2.2.1]
               unfold sA
               rw [sumU, h0]
               rfl)
          | (refine ih (x + 1) kv _ _ _ _ (by omega) hka hkl hkq ⟨?_, ?_, ?_, fun b hb => by rw [va_up_n hb, va_up_n hb, va_up_n hb]; exact hj.2.2.2 b hb⟩
             · rw [va_up_s]
               show lN _ = _
               congr 1
               unfold sF
               rw [sumU]
               first
                 | (rw [if_neg (by omega)]; done)
                 | (rw [if_pos (by omega)]; done)
             · rw [va_up_s, va_up_s]
               rfl
             · simp only [va_up_s]
               rfl)
      · rw [nI_ltI (by omega) (by omega)] at h172
        refine aw_lload dX3_weighWinds_175 rfl ?_
        refine aw_goto (tgt := 181) dX3_weighWinds_177 rfl ?_
        refine aw_ladd dX3_weighWinds_181 ?_
        rw [lN_add]
        refine aw_putL dX3_weighWinds_182 fpX3_40 rfl (OutS.s0 hO) ?_
        refine aw_iinc (v := _) (lo' := [_,_,_,_,_,_,_,_,_]) dX3_weighWinds_185 rfl (nI_1 x) rfl ?_
        refine aw_goto (tgt := 35) dX3_weighWinds_188 rfl ?_
        first
          | (obtain ⟨u, u1, u2, -⟩ := ha
             have h0 : wgt p x 5 = 0 := by omega
             refine ih (x + 1) jv _ _ _ _ (by omega) ⟨u, u1, u2, fun q h => absurd h (Nat.not_lt_zero q)⟩ hl hq ⟨?_, ?_, ?_, hj.2.2.2⟩
             · rw [hj.1]
               unfold sF
               rw [sumU, h0]
               split <;> rfl
             · rw [hj.2.1]
               unfold sT
               rw [sumU, h0, Nat.zero_mul]
               rfl
             · rw [hj.2.2.1]
               unfold sA
               rw [sumU, h0]
               rfl)
          | (refine ih (x + 1) kv _ _ _ _ (by omega) hka hkl hkq ⟨?_, ?_, ?_, fun b hb => by rw [va_up_n hb, va_up_n hb, va_up_n hb]; exact hj.2.2.2 b hb⟩
             · rw [va_up_s]
               show lN _ = _
               congr 1
               unfold sF
               rw [sumU]
               first
                 | (rw [if_neg (by omega)]; done)
                 | (rw [if_pos (by omega)]; done)
             · rw [va_up_s, va_up_s]
               rfl
             · simp only [va_up_s]
               rfl)
theorem o_winds {G : GC} {E : SH} {iv : IV} {lv : LV} {O : Nat} {s : TS} {v : TV} (hO : OutS G E O) (hs : WS s) (hr : TR (O + 1) s v iv) (hw : WV s v) {few n p : Nat} (hf : few ≤ 63) (hn : v 0 + n < 2 ^ 20) (hn3 : n < 2 ^ 31) (hp : p ≤ 12) : SpV G mX3_weighWinds 6 [.ref O, .int (nI few), .int (nI n), .int (nI p)] E iv lv (fun i0 l => frQ O i0 iv ∧ l O 7 = lN (sF s v n p few 32) ∧ l O 8 = lN (sT s v n p 32) ∧ l O 9 = lN (sA p 32) ∧ ∀ b, b ≠ O → l b = lv b) := by
  have h7 := hs.1
  refine spec0_of (lo := [_,_,_,_,_,_,_,_,_]) (by decide) (Nat.le_of_ble_eq_true rfl) rfl ?_
  refine aw_aload_n dX3_weighWinds_0 rfl ?_
  refine aw_getR dX3_weighWinds_1 fgX3_12 rfl (OutS.s0 hO) (OutS.r0_0 hO) ?_
  refine aw_getR dX3_weighWinds_4 fgX3_89 rfl (TownS.s0 (OutS.aside hO)) (TownS.r0_9 (OutS.aside hO)) ?_
  refine aw_iconst (v := nI 0) dX3_weighWinds_7 kc_0 ?_
  refine aw_aload_n dX3_weighWinds_8 rfl ?_
  refine aw_getR dX3_weighWinds_9 fgX3_22 rfl (OutS.s0 hO) (OutS.r0_2 hO) ?_
  refine aw_iconst (v := nI 0) dX3_weighWinds_12 kc_0 ?_
  refine aw_iconst (v := nI 5) dX3_weighWinds_13 kc_5 ?_
  refine aw_copy dX3_weighWinds_14 mjX3_142 st_ac na_ac in_java_lang_System (TownS.s13 (OutS.aside hO)) (OutS.s22 hO) rfl rfl rfl (by decide) (by decide) (Nat.le_of_ble_eq_true rfl) (rb0 (by decide)) ?_
  refine aw_aload_n dX3_weighWinds_17 rfl ?_
  refine aw_lconst (v := lN 0) dX3_weighWinds_18 kl_0 ?_
  refine aw_putL dX3_weighWinds_19 fpX3_40 rfl (OutS.s0 hO) ?_
  refine aw_aload_n dX3_weighWinds_22 rfl ?_
  refine aw_lconst (v := lN 0) dX3_weighWinds_23 kl_0 ?_
  refine aw_putL dX3_weighWinds_24 fpX3_44 rfl (OutS.s0 hO) ?_
  refine aw_aload_n dX3_weighWinds_27 rfl ?_
  refine aw_lconst (v := lN 0) dX3_weighWinds_28 kl_0 ?_
  refine aw_putL dX3_weighWinds_29 fpX3_47 rfl (OutS.s0 hO) ?_
  refine aw_iconst (v := nI 0) dX3_weighWinds_32 kc_0 ?_
  refine aw_istore (lo' := [_,_,_,_,_,_,_,_,_]) dX3_weighWinds_33 (Nat.le_of_ble_eq_true rfl) rfl ?_
  refine lo_wind hO hs hr hw hf hn hn3 hp 32 0 _ _ none none none (by omega) ⟨v, TR_of hr (by rw [va_up_n (by omega)]) (by rw [va_up_n (by omega)]) (fun b h1 h2 => va_up_n (by omega)), fun _ _ => rfl, fun q h => absurd h (Nat.not_lt_zero q)⟩ (fun c hc => ?_) (fun b hb => va_up_n (by omega)) ⟨?_, ?_, ?_, fun b hb => by rw [va_up_n hb, va_up_n hb, va_up_n hb]⟩
  · have h := cpF_s (iv := iv) (a0 := O + 1 + 13) (a := O + 22) (n := 5) hc
    unfold cpF at h
    rw [h]
    exact hr.2.2.2 c hc
  · rw [va_up_s, va_up_s, va_up_s]; rfl
  · rw [va_up_s, va_up_s]; rfl
  · rw [va_up_s]; rfl
