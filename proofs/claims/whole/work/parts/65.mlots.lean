/-! days by lots: the reference -/
def LI (M : Nat) (iv : IV) (K : KL) (jv : IV) : Prop := jv M = upd (iv M) 20 (nI K.1) ∧ VR (M + 12) (K.2 K.1) jv ∧ (∀ d, d < K.1 → ∀ k, k < 20 → jv (M + 14) (20 * d + k) = nI (K.2 d k)) ∧ ∀ b, b ≠ M → b ≠ M + 14 → b ≠ M + 12 → jv b = iv b
theorem LI_s {M : Nat} {iv jv kv i : IV} {K : KL} {w : TV} (h : LI M iv K jv) (h1 : ∀ q, q < 20 → kv (M + 14) (20 * K.1 + q) = nI (K.2 K.1 q)) (h2 : ∀ e, e < 20 * K.1 → kv (M + 14) e = jv (M + 14) e) (h3 : kv M = upd (jv M) 20 (nI (K.1 + 1))) (h4 : ∀ b, b ≠ M → b ≠ M + 14 → kv b = jv b) (h5 : ∀ b, b ≠ M + 12 → i b = kv b) (h6 : VR (M + 12) w i) : LI M iv (K.1 + 1, lgx K.2 K.1 w) i := by
  refine ⟨?_, ?_, fun d hd k hk => ?_, fun b g1 g2 g3 => ?_⟩
  · rw [h5 M (by omega), h3, h.1]
    funext j
    by_cases e : j = 20
    · subst e; rw [pk_us, pk_us]
    · rw [pk_un e, pk_un e, pk_un e]
  · show VR (M + 12) (lgx K.2 K.1 w (K.1 + 1)) i
    rw [show lgx K.2 K.1 w (K.1 + 1) = w from if_pos rfl]
    exact h6
  · replace hd : d < K.1 + 1 := hd
    show _ = nI (lgx K.2 K.1 w d k)
    rw [show lgx K.2 K.1 w d = K.2 d from if_neg (by omega), h5 _ (by omega)]
    by_cases q : d = K.1
    · subst q; exact h1 k hk
    · rw [h2 _ (by omega)]; exact h.2.2.1 d (by omega) k hk
  · rw [h5 b g3, h4 b g1 g2]; exact h.2.2.2 b g1 g2 g3
theorem VR_e {a : Nat} {v w : TV} {iv : IV} (h : VR a v iv) (e : w = v) : VR a w iv := by rw [e]; exact h
theorem up_same {v : TV} {a x : Nat} (h : v a = x) : va_up v a x = v := by subst h; exact up_id v a
theorem lotD_0 {s : TS} {v : TV} {y : Nat} (h : y % 8 = 0) : lotD s v y = va_up v (1 + y / 8 % 5) 0 := by
  unfold lotD lotC
  rw [if_pos h]
  by_cases e : v (1 + y / 8 % 5) = 0
  · rw [if_pos e, up_same e]; rfl
  · rw [if_neg e]; rfl
theorem lotD_1 {s : TS} {v : TV} {y : Nat} (h0 : ¬ y % 8 = 0) (h : y % 8 ≤ 2) (h9 : v (1 + y / 8 % 5) ≤ 9) : lotD s v y = va_up v (1 + y / 8 % 5) (min 9 (v (1 + y / 8 % 5) + 1)) := by
  unfold lotD lotC
  rw [if_neg h0, if_pos h]
  by_cases e : 9 ≤ v (1 + y / 8 % 5)
  · rw [if_pos e, up_same (by omega)]; rfl
  · rw [if_neg e]; rfl
theorem lotD_3 {s : TS} {v : TV} {y : Nat} (h : y % 8 = 3) : lotD s v y = va_up v (13 + y / 64 % s.1) (y / 8 % 5) := by
  unfold lotD lotC
  rw [if_neg (by omega), if_neg (by omega), if_pos h]
  by_cases e : v (13 + y / 64 % s.1) = y / 8 % 5
  · rw [if_pos e, up_same e]; rfl
  · rw [if_neg e]; rfl
theorem lotD_4 {s : TS} {v : TV} {y : Nat} (h : 3 < y % 8) (hd : v 0 < 99) : lotD s v y = pass s v := by
  unfold lotD lotC
  rw [if_neg (by omega), if_neg (by omega), if_neg (by omega), if_neg (by omega)]
  rfl
theorem lo_mlots {G : GC} {E : SH} {iv : IV} {lv : LV} {M : Nat} (hM : MS G E M) {s : TS} {m : Nat} {lg : Nat → TV} (hL : WL s m lg) (h0 : s.1 ≠ 0) (hr : SR M s iv) {n x : Nat} {y2 y3 : Int32} (hx : x < 2147483647) (hmn : m + n ≤ 40) {Q : Option Value → IV → LV → Prop} (hQ : ∀ i0, LI M iv (lotL s (m, lg) x n) i0 → Q (some (.int (nI (tot s ((lotL s (m, lg) x n).2 (lotL s (m, lg) x n).1))))) i0 lv) : ∀ (c t : Nat) (jv : IV) (j7 j8 : Option Value), t + c = n → LI M iv (lotL s (m, lg) x t) jv → AW G mX11_lots (rm 6 0) (Z0 G 6 E Q) (fun _ => True) E.1 57 [some (.ref M), some (.int (nI n)), some (.int y2), some (.int y3), some (.long (lN (lotX x t))), none, some (.int (nI t)), j7, j8] [] E jv lv := by
  have hs := hL.1
  have h7 := hs.1
  intro c
  induction c with
  | zero =>
    intro t jv j7 j8 ht hI
    have ht : t = n := by omega
    subst ht
    have hLt := lotL_W (K := (m, lg)) (x := x) h0 hL t hmn
    have hrj : SR M s jv := SR_f (by rw [hI.1]; rfl) (hI.2.2.2 _ (by omega) (by omega) (by omega)) (hI.2.2.2 _ (by omega) (by omega) (by omega)) (hI.2.2.2 _ (by omega) (by omega) (by omega)) hr
    refine aw_iload dX11_lots_57 rfl ?_
    refine aw_iload_n dX11_lots_59 rfl ?_
    refine aw_icmp_ge (tgt := 207) dX11_lots_60 rfl (fun h60 => ?_) (fun h60 => absurd (nI_le (Nat.le_refl _) (by omega)) h60)
    refine aw_aload_n dX11_lots_207 rfl ?_
    refine aw_aload_n dX11_lots_208 rfl ?_
    refine aw_getR dX11_lots_209 fgX11_48 rfl (MS.s0 hM) (MS.r0_18 hM) ?_
    refine aw_xVi [_] dX11_lots_212 cvX11_163 (MS.s0 hM) (m_all hM hs hrj (MS.s12 hM) hI.2.1 (hLt.2.2.2 _ (Nat.le_refl _)).1) rfl rfl (Nat.le_of_ble_eq_true rfl) (rb0 (by decide)) ?_
    refine aw_iret dX11_lots_215 rfl (rb0 (Nat.zero_le _)) ⟨rfl, hQ jv hI⟩
  | succ c ih =>
    intro t jv j7 j8 ht hI
    have hLt := lotL_W (K := (m, lg)) (x := x) h0 hL t (show m + t ≤ 40 by omega)
    have hK1 : (lotL s (m, lg) x t).1 = m + t := lotL_1 t
    have hxt := lotX_lt hx t
    have hxs := lotX_lt hx (t + 1)
    have ih2 := fun i j7 j8 => ih (t + 1) i j7 j8 (by omega)
    rw [show lotL s (m, lg) x (t + 1) = ((lotL s (m, lg) x t).1 + 1, lgx (lotL s (m, lg) x t).2 (lotL s (m, lg) x t).1 (lotD s ((lotL s (m, lg) x t).2 (lotL s (m, lg) x t).1) (lotX x (t + 1)))) from rfl] at ih2
    generalize lotL s (m, lg) x t = K at hLt hK1 hI ih2
    have hw : WV s (K.2 K.1) := (hLt.2.2.2 _ (Nat.le_refl _)).1
    have hd : K.2 K.1 0 ≤ K.1 := (hLt.2.2.2 _ (Nat.le_refl _)).2
    have h20 : jv M 20 = nI K.1 := by rw [hI.1]; rfl
    have hv := hI.2.1
    have hrj : SR M s jv := SR_f (by rw [hI.1]; rfl) (hI.2.2.2 _ (by omega) (by omega) (by omega)) (hI.2.2.2 _ (by omega) (by omega) (by omega)) (hI.2.2.2 _ (by omega) (by omega) (by omega)) hr
    have hlx : lotX x (t + 1) = lotX x t * 48271 % 2147483647 := rfl
    refine aw_iload dX11_lots_57 rfl ?_
    refine aw_iload_n dX11_lots_59 rfl ?_
    refine aw_icmp_ge (tgt := 207) dX11_lots_60 rfl (fun h60 => absurd h60 (nI_ge (by omega) (by omega))) (fun h60 => ?_)
    refine aw_lload dX11_lots_63 rfl ?_
    refine aw_ldc2 dX11_lots_65 klX11_248 ?_
    refine aw_lmul dX11_lots_68 ?_
    rw [show lN (lotX x t) * 48271 = lN (lotX x t * 48271) from lN_mul _ 48271]
    refine aw_ldc2 dX11_lots_69 klX11_250 ?_
    refine aw_lrem dX11_lots_72 (by decide) ?_
    rw [show lN (lotX x t * 48271) - lN (lotX x t * 48271) / 2147483647 * 2147483647 = lN (lotX x (t + 1)) from pk_lRem (b := 2147483647) (by omega) (by decide) (by decide)]
    clear hlx
    generalize lotX x (t + 1) = y at hxs ih2 ⊢
    have hc5 : y / 8 % 5 < 5 := Nat.mod_lt _ (by decide)
    have hw8 : y % 8 < 8 := Nat.mod_lt _ (by decide)
    have hv9 := hw.2.1 (y / 8 % 5) hc5
    have hi7 : y / 64 % s.1 < s.1 := Nat.mod_lt _ (by omega)
    refine aw_lstore (lo' := [_,_,_,_,_,_,_,_,_]) dX11_lots_73 (Nat.le_of_ble_eq_true rfl) rfl ?_
    refine aw_lload dX11_lots_75 rfl ?_
    refine aw_ldc2 dX11_lots_77 klX11_252 ?_
    refine aw_ldiv dX11_lots_80 (by decide) ?_
    rw [show lN (y) / 8 = lN (y / 8) from pk_lDiv (a := y) (b := 8) (by omega) (by decide) (by decide)]
    refine aw_ldc2 dX11_lots_81 klX11_254 ?_
    refine aw_lrem dX11_lots_84 (by decide) ?_
    rw [show lN (y / 8) - lN (y / 8) / 5 * 5 = lN ((y / 8) % 5) from pk_lRem (a := y / 8) (b := 5) (by omega) (by decide) (by decide)]
    skip
    refine aw_l2i dX11_lots_85 ?_
    rw [lN_i]
    refine aw_istore (lo' := [_,_,_,_,_,_,_,_,_]) dX11_lots_86 (Nat.le_of_ble_eq_true rfl) rfl ?_
    refine aw_lload dX11_lots_88 rfl ?_
    refine aw_ldc2 dX11_lots_90 klX11_252 ?_
    refine aw_lrem dX11_lots_93 (by decide) ?_
    rw [show lN (y) - lN (y) / 8 * 8 = lN ((y) % 8) from pk_lRem (a := y) (b := 8) (by omega) (by decide) (by decide)]
    refine aw_l2i dX11_lots_94 ?_
    rw [lN_i]
    refine aw_istore (lo' := [_,_,_,_,_,_,_,_,_]) dX11_lots_95 (Nat.le_of_ble_eq_true rfl) rfl ?_
    refine aw_aload_n dX11_lots_97 rfl ?_
    refine aw_sVv [] dX11_lots_98 cvX11_179 (MS.s0 hM) (m_rem hM h20 (by omega) hv) rfl rfl (Nat.le_of_ble_eq_true rfl) (rb0 (by decide)) (fun kv klv hk => ?_)
    obtain ⟨k1, k2, k3, k4, rfl⟩ := hk
    have hvk : VR (M + 12) (K.2 K.1) kv := fun q hq => by rw [k4 _ (by omega) (by omega)]; exact hv q hq
    have hrk : SR M s kv := SR_f (by rw [k3]; rfl) (k4 _ (by omega) (by omega)) (k4 _ (by omega) (by omega)) (k4 _ (by omega) (by omega)) hrj
    refine aw_iload dX11_lots_101 rfl ?_
    refine aw_if_ne (tgt := 119) dX11_lots_103 rfl (fun h103 => ?_) (fun h103 => ?_)
    · rw [← nI_0, nI_eq (by omega) (by omega)] at h103
      refine aw_iload dX11_lots_119 rfl ?_
      refine aw_iconst (v := nI 3) dX11_lots_121 kc_3 ?_
      refine aw_icmp_ge (tgt := 150) dX11_lots_122 rfl (fun h122 => ?_) (fun h122 => ?_)
      · rw [nI_leI (by omega) (by omega)] at h122
        refine aw_iload dX11_lots_150 rfl ?_
        refine aw_iconst (v := nI 3) dX11_lots_152 kc_3 ?_
        refine aw_icmp_ne (tgt := 182) dX11_lots_153 rfl (fun h153 => ?_) (fun h153 => ?_)
        · rw [nI_eq (by omega) (by omega)] at h153
          refine aw_aload_n dX11_lots_182 rfl ?_
          refine aw_getR dX11_lots_183 fgX11_48 rfl (MS.s0 hM) (MS.r0_18 hM) ?_
          refine aw_iconst (v := nI 0) dX11_lots_186 kc_0 ?_
          refine aw_iaload dX11_lots_187 (MS.s12 hM) rfl (by decide) ?_
          rw [hvk 0 (by decide)]
          refine aw_bipush (v := nI 99) dX11_lots_188 kb_99 ?_
          refine aw_icmp_ge (tgt := 201) dX11_lots_190 rfl (fun h190 => ?_) (fun h190 => ?_)
          · (rw [nI_leI (by decide) (by omega)] at h190; omega)
          · refine aw_aload_n dX11_lots_193 rfl ?_
            refine aw_aload_n dX11_lots_194 rfl ?_
            refine aw_getR dX11_lots_195 fgX11_48 rfl (MS.s0 hM) (MS.r0_18 hM) ?_
            refine aw_sVv [_] dX11_lots_198 cvX11_159 (MS.s0 hM) (m_passes hM hs hrk (MS.s12 hM) hvk hw (by omega) (Or.inl rfl)) rfl rfl (Nat.le_of_ble_eq_true rfl) (rb0 (by decide)) (fun kv2 klv2 hk => ?_)
            obtain ⟨q1, q2, rfl⟩ := hk
            refine aw_iinc (v := _) (lo' := [_,_,_,_,_,_,_,_,_]) dX11_lots_201 rfl (nI_1 t) rfl ?_
            refine aw_goto (tgt := 57) dX11_lots_204 rfl ?_
            first
              | exact ih2 _ _ _ (LI_s hI k1 k2 k3 k4 (fun b hb => va_up_n hb) (VR_e (VR_up hvk (w := va_up (K.2 K.1) (1 + y / 8 % 5) 0) (by rw [va_up_s]) (fun q _ hn => va_up_n hn)) (lotD_0 h103)))
              | exact ih2 _ _ _ (LI_s hI k1 k2 k3 k4 (fun b hb => va_up_n hb) (VR_e (VR_up hvk (w := va_up (K.2 K.1) (1 + y / 8 % 5) (min 9 (K.2 K.1 (1 + y / 8 % 5) + 1))) (by rw [va_up_s]) (fun q _ hn => va_up_n hn)) (lotD_1 h103 (by omega) hv9)))
              | exact ih2 _ _ _ (LI_s hI k1 k2 k3 k4 (fun b hb => va_up_n hb) (VR_e (VR_up hvk (w := va_up (K.2 K.1) (13 + y / 64 % s.1) (y / 8 % 5)) (by rw [va_up_s]) (fun q _ hn => va_up_n hn)) (lotD_3 h153)))
              | exact ih2 _ _ _ (LI_s hI k1 k2 k3 k4 q2 (VR_e q1 (lotD_4 (by omega) (by omega))))
        · rw [nI_eq (by omega) (by omega)] at h153
          refine aw_aload_n dX11_lots_156 rfl ?_
          refine aw_getR dX11_lots_157 fgX11_48 rfl (MS.s0 hM) (MS.r0_18 hM) ?_
          refine aw_bipush (v := nI 13) dX11_lots_160 kb_13 ?_
          refine aw_lload dX11_lots_162 rfl ?_
          refine aw_ldc2 dX11_lots_164 klX11_256 ?_
          refine aw_ldiv dX11_lots_167 (by decide) ?_
          rw [show lN (y) / 64 = lN (y / 64) from pk_lDiv (a := y) (b := 64) (by omega) (by decide) (by decide)]
          refine aw_aload_n dX11_lots_168 rfl ?_
          refine aw_getI dX11_lots_169 fgX11_126 rfl (MS.s0 hM) ?_
          rw [hrk.1]
          refine aw_i2l dX11_lots_172 ?_
          rw [nI_l (by omega)]
          refine aw_lrem dX11_lots_173 (fun q => h0 ((pk_lEQ (b := 0) (by omega) (by decide)).mp q)) ?_
          rw [pk_lRem (a := y / 64) (by omega) (by omega) (by omega)]
          refine aw_l2i dX11_lots_174 ?_
          rw [lN_i]
          refine aw_iadd dX11_lots_175 ?_
          rw [nI_add]
          refine aw_iload dX11_lots_176 rfl ?_
          refine aw_iastore dX11_lots_178 (MS.s12 hM) rfl (by omega) ?_
          refine aw_goto (tgt := 201) dX11_lots_179 rfl ?_
          refine aw_iinc (v := _) (lo' := [_,_,_,_,_,_,_,_,_]) dX11_lots_201 rfl (nI_1 t) rfl ?_
          refine aw_goto (tgt := 57) dX11_lots_204 rfl ?_
          first
            | exact ih2 _ _ _ (LI_s hI k1 k2 k3 k4 (fun b hb => va_up_n hb) (VR_e (VR_up hvk (w := va_up (K.2 K.1) (1 + y / 8 % 5) 0) (by rw [va_up_s]) (fun q _ hn => va_up_n hn)) (lotD_0 h103)))
            | exact ih2 _ _ _ (LI_s hI k1 k2 k3 k4 (fun b hb => va_up_n hb) (VR_e (VR_up hvk (w := va_up (K.2 K.1) (1 + y / 8 % 5) (min 9 (K.2 K.1 (1 + y / 8 % 5) + 1))) (by rw [va_up_s]) (fun q _ hn => va_up_n hn)) (lotD_1 h103 (by omega) hv9)))
            | exact ih2 _ _ _ (LI_s hI k1 k2 k3 k4 (fun b hb => va_up_n hb) (VR_e (VR_up hvk (w := va_up (K.2 K.1) (13 + y / 64 % s.1) (y / 8 % 5)) (by rw [va_up_s]) (fun q _ hn => va_up_n hn)) (lotD_3 h153)))
            | exact ih2 _ _ _ (LI_s hI k1 k2 k3 k4 q2 (VR_e q1 (lotD_4 (by omega) (by omega))))
      · rw [nI_leI (by omega) (by omega)] at h122
        refine aw_aload_n dX11_lots_125 rfl ?_
        refine aw_getR dX11_lots_126 fgX11_48 rfl (MS.s0 hM) (MS.r0_18 hM) ?_
        refine aw_iconst (v := nI 1) dX11_lots_129 kc_1 ?_
        refine aw_iload dX11_lots_130 rfl ?_
        refine aw_iadd dX11_lots_132 ?_
        rw [nI_add]
        refine aw_aload_n dX11_lots_133 rfl ?_
        refine aw_getR dX11_lots_134 fgX11_48 rfl (MS.s0 hM) (MS.r0_18 hM) ?_
        refine aw_iconst (v := nI 1) dX11_lots_137 kc_1 ?_
        refine aw_iload dX11_lots_138 rfl ?_
        refine aw_iadd dX11_lots_140 ?_
        rw [nI_add]
        refine aw_iaload dX11_lots_141 (MS.s12 hM) rfl (by omega) ?_
        rw [hvk (1 + y / 8 % 5) (by omega)]
        refine aw_iconst (v := nI 1) dX11_lots_142 kc_1 ?_
        refine aw_xSi [_, _] dX11_lots_143 csX11_182 (m_deeper (a := K.2 K.1 (1 + y / 8 % 5)) (b := 1) hv9 (by decide)) rfl rfl (Nat.le_of_ble_eq_true rfl) (rb0 (by decide)) ?_
        refine aw_iastore dX11_lots_146 (MS.s12 hM) rfl (by omega) ?_
        refine aw_goto (tgt := 201) dX11_lots_147 rfl ?_
        refine aw_iinc (v := _) (lo' := [_,_,_,_,_,_,_,_,_]) dX11_lots_201 rfl (nI_1 t) rfl ?_
        refine aw_goto (tgt := 57) dX11_lots_204 rfl ?_
        first
          | exact ih2 _ _ _ (LI_s hI k1 k2 k3 k4 (fun b hb => va_up_n hb) (VR_e (VR_up hvk (w := va_up (K.2 K.1) (1 + y / 8 % 5) 0) (by rw [va_up_s]) (fun q _ hn => va_up_n hn)) (lotD_0 h103)))
          | exact ih2 _ _ _ (LI_s hI k1 k2 k3 k4 (fun b hb => va_up_n hb) (VR_e (VR_up hvk (w := va_up (K.2 K.1) (1 + y / 8 % 5) (min 9 (K.2 K.1 (1 + y / 8 % 5) + 1))) (by rw [va_up_s]) (fun q _ hn => va_up_n hn)) (lotD_1 h103 (by omega) hv9)))
          | exact ih2 _ _ _ (LI_s hI k1 k2 k3 k4 (fun b hb => va_up_n hb) (VR_e (VR_up hvk (w := va_up (K.2 K.1) (13 + y / 64 % s.1) (y / 8 % 5)) (by rw [va_up_s]) (fun q _ hn => va_up_n hn)) (lotD_3 h153)))
          | exact ih2 _ _ _ (LI_s hI k1 k2 k3 k4 q2 (VR_e q1 (lotD_4 (by omega) (by omega))))
    · rw [← nI_0, nI_eq (by omega) (by omega)] at h103
      refine aw_aload_n dX11_lots_106 rfl ?_
      refine aw_getR dX11_lots_107 fgX11_48 rfl (MS.s0 hM) (MS.r0_18 hM) ?_
      refine aw_iconst (v := nI 1) dX11_lots_110 kc_1 ?_
      refine aw_iload dX11_lots_111 rfl ?_
      refine aw_iadd dX11_lots_113 ?_
      rw [nI_add]
      refine aw_iconst (v := nI 0) dX11_lots_114 kc_0 ?_
      refine aw_iastore dX11_lots_115 (MS.s12 hM) rfl (by omega) ?_
      refine aw_goto (tgt := 201) dX11_lots_116 rfl ?_
      refine aw_iinc (v := _) (lo' := [_,_,_,_,_,_,_,_,_]) dX11_lots_201 rfl (nI_1 t) rfl ?_
      refine aw_goto (tgt := 57) dX11_lots_204 rfl ?_
      first
        | exact ih2 _ _ _ (LI_s hI k1 k2 k3 k4 (fun b hb => va_up_n hb) (VR_e (VR_up hvk (w := va_up (K.2 K.1) (1 + y / 8 % 5) 0) (by rw [va_up_s]) (fun q _ hn => va_up_n hn)) (lotD_0 h103)))
        | exact ih2 _ _ _ (LI_s hI k1 k2 k3 k4 (fun b hb => va_up_n hb) (VR_e (VR_up hvk (w := va_up (K.2 K.1) (1 + y / 8 % 5) (min 9 (K.2 K.1 (1 + y / 8 % 5) + 1))) (by rw [va_up_s]) (fun q _ hn => va_up_n hn)) (lotD_1 h103 (by omega) hv9)))
        | exact ih2 _ _ _ (LI_s hI k1 k2 k3 k4 (fun b hb => va_up_n hb) (VR_e (VR_up hvk (w := va_up (K.2 K.1) (13 + y / 64 % s.1) (y / 8 % 5)) (by rw [va_up_s]) (fun q _ hn => va_up_n hn)) (lotD_3 h153)))
        | exact ih2 _ _ _ (LI_s hI k1 k2 k3 k4 q2 (VR_e q1 (lotD_4 (by omega) (by omega))))
theorem m_lots {G : GC} {E : SH} {iv : IV} {lv : LV} {M : Nat} (hM : MS G E M) {A : AA} {D : DD} {T : FT} (hA : MA M A iv lv) (hD : MD M D iv) (hT : MT M T iv) (hW : WT T) (n y : Int32) : SpI G mX11_lots 6 [.ref M, .int n, .int y] E iv lv (QD M iv lv (oLots A D T n y)) := by
  obtain ⟨s, ⟨m, lg⟩, kp⟩ := T
  have hs : WS s := hW.1.1
  have hs7 : s.1 ≤ 7 := hs.1
  have hw : WV s (lg m) := nowW hW
  have hd : lg m 0 ≤ 40 := nowD hW
  have hr : SR M s iv := hT.1
  have hv : VR (M + 12) (lg m) iv := hT.2.2.1
  have h20 : iv M 20 = nI m := hT.2.1
  have hm : m ≤ 40 := hW.1.2.1
  refine spec0_of (lo := [_,_,_,_,_,_,_,_,_]) (by decide) (Nat.le_of_ble_eq_true rfl) rfl ?_
  refine aw_aload_n dX11_lots_0 rfl ?_
  refine aw_iload_n dX11_lots_1 rfl ?_
  refine aw_iconst (v := nI 1) dX11_lots_2 kc_1 ?_
  refine aw_bipush (v := nI 20) dX11_lots_3 kb_20 ?_
  refine aw_xSi [_, _, _] dX11_lots_5 csX11_76 (m_in n (nI 1) (nI 20)) rfl rfl (Nat.le_of_ble_eq_true rfl) (rb0 (by decide)) ?_
  refine aw_if_eq (tgt := 25) dX11_lots_8 rfl (fun h8 => ?_) (fun h8 => ?_)
  · have hc8 := zI_0.mp h8
    refine aw_iconst (v := nI 0) dX11_lots_25 kc_0 ?_
    refine aw_xVi [_] dX11_lots_26 cvX11_195 (MS.s0 hM) (m_need hM hr.1 hs7 False) rfl rfl (Nat.le_of_ble_eq_true rfl) (rb0 (by decide)) ?_
    refine aw_istore_n (lo' := [_,_,_,_,_,_,_,_,_]) dX11_lots_29 (Nat.le_of_ble_eq_true rfl) rfl ?_
    refine aw_iload_n dX11_lots_30 rfl ?_
    refine aw_if_ge (tgt := 36) dX11_lots_31 rfl (fun h31 => ?_) (fun h31 => ?_)
    · exact (nd_ge h31).1.elim
    · refine aw_iload_n dX11_lots_34 rfl ?_
      refine aw_iret dX11_lots_35 rfl (rb0 (Nat.zero_le _)) ⟨rfl, _, rfl, ?_⟩
      first
        | (rcases nd_no h31 with ⟨hc, e⟩ | ⟨hc, hz, e⟩
           · first
               | exact absurd trivial hc
               | (rw [e]
                  refine QD_no hA hD hT ?_
                  refine if_pos ?_
                  first
                    | exact (Decidable.byCases (p := n < nI 1) Or.inl (fun q => Or.inr (Or.inl (Int32.not_le.mp (fun q2 => hc8 ⟨Int32.not_lt.mp q, q2⟩)))))
                    | exact Or.inr (Or.inr (Decidable.byCases (p := y < nI 1) Or.inl (fun q => Or.inr (Int32.not_le.mp (fun q2 => hc18 ⟨Int32.not_lt.mp q, q2⟩))))))
           · first
               | exact hc.elim
               | (rw [e]
                  refine QD_no hA hD hT ?_
                  dsimp only [oLots, nowT]
                  rw [if_neg (fun q => q.elim (fun q => absurd hc8.1 (Int32.not_le.mpr q)) (fun q => q.elim (fun q => absurd hc8.2 (Int32.not_le.mpr q)) (fun q => q.elim (fun q => absurd hc18.1 (Int32.not_le.mpr q)) (fun q => absurd hc18.2 (Int32.not_le.mpr q))))), if_pos hz]))
  · have hc8 := zI_n0.mp h8
    refine aw_iload_n dX11_lots_11 rfl ?_
    refine aw_iconst (v := nI 1) dX11_lots_12 kc_1 ?_
    refine aw_ldc dX11_lots_13 kiX11_247 ?_
    refine aw_xSi [_, _, _] dX11_lots_15 csX11_76 (m_in y (nI 1) (nI 2147483646)) rfl rfl (Nat.le_of_ble_eq_true rfl) (rb0 (by decide)) ?_
    refine aw_if_eq (tgt := 25) dX11_lots_18 rfl (fun h18 => ?_) (fun h18 => ?_)
    · have hc18 := zI_0.mp h18
      refine aw_iconst (v := nI 0) dX11_lots_25 kc_0 ?_
      refine aw_xVi [_] dX11_lots_26 cvX11_195 (MS.s0 hM) (m_need hM hr.1 hs7 False) rfl rfl (Nat.le_of_ble_eq_true rfl) (rb0 (by decide)) ?_
      refine aw_istore_n (lo' := [_,_,_,_,_,_,_,_,_]) dX11_lots_29 (Nat.le_of_ble_eq_true rfl) rfl ?_
      refine aw_iload_n dX11_lots_30 rfl ?_
      refine aw_if_ge (tgt := 36) dX11_lots_31 rfl (fun h31 => ?_) (fun h31 => ?_)
      · exact (nd_ge h31).1.elim
      · refine aw_iload_n dX11_lots_34 rfl ?_
        refine aw_iret dX11_lots_35 rfl (rb0 (Nat.zero_le _)) ⟨rfl, _, rfl, ?_⟩
        first
          | (rcases nd_no h31 with ⟨hc, e⟩ | ⟨hc, hz, e⟩
             · first
                 | exact absurd trivial hc
                 | (rw [e]
                    refine QD_no hA hD hT ?_
                    refine if_pos ?_
                    first
                      | exact (Decidable.byCases (p := n < nI 1) Or.inl (fun q => Or.inr (Or.inl (Int32.not_le.mp (fun q2 => hc8 ⟨Int32.not_lt.mp q, q2⟩)))))
                      | exact Or.inr (Or.inr (Decidable.byCases (p := y < nI 1) Or.inl (fun q => Or.inr (Int32.not_le.mp (fun q2 => hc18 ⟨Int32.not_lt.mp q, q2⟩))))))
             · first
                 | exact hc.elim
                 | (rw [e]
                    refine QD_no hA hD hT ?_
                    dsimp only [oLots, nowT]
                    rw [if_neg (fun q => q.elim (fun q => absurd hc8.1 (Int32.not_le.mpr q)) (fun q => q.elim (fun q => absurd hc8.2 (Int32.not_le.mpr q)) (fun q => q.elim (fun q => absurd hc18.1 (Int32.not_le.mpr q)) (fun q => absurd hc18.2 (Int32.not_le.mpr q))))), if_pos hz]))
    · have hc18 := zI_n0.mp h18
      refine aw_iconst (v := nI 1) dX11_lots_21 kc_1 ?_
      refine aw_goto (tgt := 26) dX11_lots_22 rfl ?_
      refine aw_xVi [_] dX11_lots_26 cvX11_195 (MS.s0 hM) (m_need hM hr.1 hs7 True) rfl rfl (Nat.le_of_ble_eq_true rfl) (rb0 (by decide)) ?_
      refine aw_istore_n (lo' := [_,_,_,_,_,_,_,_,_]) dX11_lots_29 (Nat.le_of_ble_eq_true rfl) rfl ?_
      refine aw_iload_n dX11_lots_30 rfl ?_
      refine aw_if_ge (tgt := 36) dX11_lots_31 rfl (fun h31 => ?_) (fun h31 => ?_)
      · obtain ⟨hcc, hnp⟩ := nd_ge h31
        have hb : ¬ (n < nI 1 ∨ nI 20 < n ∨ y < nI 1 ∨ nI 2147483646 < y) := fun q => q.elim (fun q => absurd hc8.1 (Int32.not_le.mpr q)) (fun q => q.elim (fun q => absurd hc8.2 (Int32.not_le.mpr q)) (fun q => q.elim (fun q => absurd hc18.1 (Int32.not_le.mpr q)) (fun q => absurd hc18.2 (Int32.not_le.mpr q))))
        obtain ⟨u, hu1, hu, rfl⟩ := ix_1 (n := n) (k := 20) (Int32.not_lt.mpr hc8.1) (Int32.not_lt.mpr hc8.2) (by decide)
        obtain ⟨x, hx1, hx, rfl⟩ := ix_1 (n := y) (k := 2147483646) (Int32.not_lt.mpr hc18.1) (Int32.not_lt.mpr hc18.2) (by decide)
        refine aw_aload_n dX11_lots_36 rfl ?_
        refine aw_getI dX11_lots_37 fgX11_129 rfl (MS.s0 hM) ?_
        rw [h20]
        refine aw_iload_n dX11_lots_40 rfl ?_
        refine aw_iadd dX11_lots_41 ?_
        rw [nI_add]
        refine aw_bipush (v := nI 40) dX11_lots_42 kb_40 ?_
        refine aw_icmp_le (tgt := 50) dX11_lots_44 rfl (fun h44 => ?_) (fun h44 => ?_)
        · rw [nI_leI (by omega) (by omega)] at h44
          refine aw_iload_n dX11_lots_50 rfl ?_
          refine aw_i2l dX11_lots_51 ?_
          rw [nI_l (by omega)]
          refine aw_lstore (lo' := [_,_,_,_,_,_,_,_,_]) dX11_lots_52 (Nat.le_of_ble_eq_true rfl) rfl ?_
          refine aw_iconst (v := nI 0) dX11_lots_54 kc_0 ?_
          refine aw_istore (lo' := [_,_,_,_,_,_,_,_,_]) dX11_lots_55 (Nat.le_of_ble_eq_true rfl) rfl ?_
          refine lo_mlots (iv := iv) (lv := lv) hM hW.1 hnp hr (by omega) (by omega) (fun i0 hI => ⟨_, rfl, ?_⟩) u 0 iv none none (by omega) ⟨by show iv M = upd (iv M) 20 (nI m); rw [← h20]; exact (upd_id _ _).symm, hv, hT.2.2.2.1, fun _ _ _ _ => rfl⟩
          refine QD_set hA hD hT hI.1 hI.2.2.2 hI.2.1 hI.2.2.1 ?_
          dsimp only [oLots, nowT]
          rw [if_neg hb, if_neg hnp, if_neg (by rw [ix_nI (by omega)]; omega), ix_nI (by omega), ix_nI (by omega)]
        · rw [nI_leI (by omega) (by omega)] at h44
          refine aw_bipush (v := (-2)) dX11_lots_47 kb_m2 ?_
          refine aw_iret dX11_lots_49 rfl (rb0 (Nat.zero_le _)) ⟨rfl, _, rfl, ?_⟩
          refine QD_no hA hD hT ?_
          dsimp only [oLots, nowT]
          rw [if_neg hb, if_neg hnp, if_pos (by rw [ix_nI (by omega)]; omega)]
      · refine aw_iload_n dX11_lots_34 rfl ?_
        refine aw_iret dX11_lots_35 rfl (rb0 (Nat.zero_le _)) ⟨rfl, _, rfl, ?_⟩
        first
          | (rcases nd_no h31 with ⟨hc, e⟩ | ⟨hc, hz, e⟩
             · first
                 | exact absurd trivial hc
                 | (rw [e]
                    refine QD_no hA hD hT ?_
                    refine if_pos ?_
                    first
                      | exact (Decidable.byCases (p := n < nI 1) Or.inl (fun q => Or.inr (Or.inl (Int32.not_le.mp (fun q2 => hc8 ⟨Int32.not_lt.mp q, q2⟩)))))
                      | exact Or.inr (Or.inr (Decidable.byCases (p := y < nI 1) Or.inl (fun q => Or.inr (Int32.not_le.mp (fun q2 => hc18 ⟨Int32.not_lt.mp q, q2⟩))))))
             · first
                 | exact hc.elim
                 | (rw [e]
                    refine QD_no hA hD hT ?_
                    dsimp only [oLots, nowT]
                    rw [if_neg (fun q => q.elim (fun q => absurd hc8.1 (Int32.not_le.mpr q)) (fun q => q.elim (fun q => absurd hc8.2 (Int32.not_le.mpr q)) (fun q => q.elim (fun q => absurd hc18.1 (Int32.not_le.mpr q)) (fun q => absurd hc18.2 (Int32.not_le.mpr q))))), if_pos hz]))
