theorem cpy_s {α : Type} (f : Nat → α) (g : Nat → α) (sp dp n : Nat) : va_up (va_cpy f g sp dp n) (dp + n) (f (sp + n)) = va_cpy f g sp dp (n + 1) := by
  funext k
  unfold va_up va_cpy
  by_cases e : k = dp + n
  · rw [if_pos e, if_pos (by omega), show k - dp = n by omega]
  · rw [if_neg e]
    by_cases e2 : dp ≤ k ∧ k < dp + n
    · rw [if_pos e2, if_pos (by omega)]
    · rw [if_neg e2, if_neg (by omega)]
theorem cpy_0 {α : Type} (f g : Nat → α) (sp dp : Nat) : va_cpy f g sp dp 0 = g := by
  funext k
  unfold va_cpy
  rw [if_neg (by omega)]
theorem upd_up (f : Nat → Int32) (k : Nat) (x : Int32) : upd f k x = va_up f k x := rfl
theorem cpc {p c k : Nat} (hp : p < 2 ^ 31) (hc : c < 2 ^ 31) (hk : k < 2 ^ 31) : 0 < lg_cmp ((nI p).toInt64 + (nI c).toInt64) (nI k).toInt64 ↔ k < p + c := by
  rw [lg_cmp_gt, nI_l hp, nI_l hc, nI_l hk, lN_add, pk_lLT (by omega) (by omega)]
theorem cpl {p c k : Nat} (hp : p < 2 ^ 31) (hc : c < 2 ^ 31) (hk : k < 2 ^ 31) : lg_cmp ((nI p).toInt64 + (nI c).toInt64) (nI k).toInt64 ≤ 0 ↔ p + c ≤ k := by
  rw [lg_cmp_le, nI_l hp, nI_l hc, nI_l hk, lN_add, pk_lLE (by omega) (by omega)]
theorem lm_copy2 {G : GC} {E : SH} {lv : LV} {M : Nat} (hM : MS G E M) {iv0 : IV} {a p b q c : Nat} (ha : a < 6) (hb : b < 6) (hp : p + c ≤ 40) (hq : q + c ≤ 40) {Q : Int32 → IV → LV → Prop} (hQ : Q (nI 1) (va_up iv0 (M + 3) (va_cpy (iv0 (M + 4)) (iv0 (M + 3)) 0 (40 * b + q) c)) lv) : ∀ (e i : Nat), i + e = c → AW G mX11_copy (rm 3 0) (Z0 G 3 E (fun r i l => ∃ v, r = some (.int v) ∧ Q v i l)) (fun _ => True) E.1 136 [some (.ref M), some (.int (nI a)), some (.int (nI p)), some (.int (nI b)), some (.int (nI q)), some (.int (nI c)), some (.int (nI i))] [] E (va_up iv0 (M + 3) (va_cpy (iv0 (M + 4)) (iv0 (M + 3)) 0 (40 * b + q) i)) lv := by
  intro e
  induction e with
  | zero =>
    intro i hi
    have hi : i = c := by omega
    subst hi
    refine aw_iload dX11_copy_136 rfl ?_
    refine aw_iload dX11_copy_138 rfl ?_
    refine aw_icmp_ge (tgt := 171) dX11_copy_140 rfl (fun h140 => ?_) (fun h140 => absurd (nI_le (Nat.le_refl _) (by omega)) h140)
    refine aw_iconst (v := nI 1) dX11_copy_171 kc_1 ?_
    refine aw_iret dX11_copy_172 rfl (rb0 (Nat.zero_le _)) ⟨rfl, _, rfl, hQ⟩
  | succ e ih =>
    intro i hi
    refine aw_iload dX11_copy_136 rfl ?_
    refine aw_iload dX11_copy_138 rfl ?_
    refine aw_icmp_ge (tgt := 171) dX11_copy_140 rfl (fun h140 => absurd h140 (nI_ge (by omega) (by omega))) (fun h140 => ?_)
    refine aw_aload_n dX11_copy_143 rfl ?_
    refine aw_getR dX11_copy_144 fgX11_20 rfl (MS.s0 hM) (MS.r0_6 hM) ?_
    refine aw_bipush (v := nI 40) dX11_copy_147 kb_40 ?_
    refine aw_iload_n dX11_copy_149 rfl ?_
    refine aw_imul dX11_copy_150 ?_
    refine aw_iload dX11_copy_151 rfl ?_
    refine aw_iadd dX11_copy_153 ?_
    refine aw_iload dX11_copy_154 rfl ?_
    refine aw_iadd dX11_copy_156 ?_
    refine aw_aload_n dX11_copy_157 rfl ?_
    refine aw_getR dX11_copy_158 fgX11_23 rfl (MS.s0 hM) (MS.r0_7 hM) ?_
    refine aw_iload dX11_copy_161 rfl ?_
    refine aw_iaload dX11_copy_163 (MS.s4 hM) rfl (by omega) ?_
    refine aw_iastore dX11_copy_164 (MS.s3 hM) (show nI 40 * nI b + nI q + nI i = nI (40 * b + q + i) by rw [pk_mul, nI_add, nI_add]) (by omega) ?_
    refine aw_iinc (v := _) (lo' := [_,_,_,_,_,_,_]) dX11_copy_165 rfl (nI_1 i) rfl ?_
    refine aw_goto (tgt := 136) dX11_copy_168 rfl ?_
    have h := ih (i + 1) (by omega)
    rw [← cpy_s, Nat.zero_add, ← up_up iv0 (M + 3) (va_cpy (iv0 (M + 4)) (iv0 (M + 3)) 0 (40 * b + q) i)] at h
    rw [va_up_s, va_up_n (by omega), upd_up]
    exact h
theorem lm_copy1 {G : GC} {E : SH} {lv : LV} {M : Nat} (hM : MS G E M) {iv0 : IV} {a p b q c : Nat} (ha : a < 6) (hb : b < 6) (hp : p + c ≤ 40) (hq : q + c ≤ 40) {Q : Int32 → IV → LV → Prop} (hQ : Q (nI 1) (va_up (va_up iv0 (M + 4) (va_cpy (iv0 (M + 3)) (iv0 (M + 4)) (40 * a + p) 0 c)) (M + 3) (va_cpy (iv0 (M + 3)) (iv0 (M + 3)) (40 * a + p) (40 * b + q) c)) lv) : ∀ (e i : Nat), i + e = c → AW G mX11_copy (rm 3 0) (Z0 G 3 E (fun r i l => ∃ v, r = some (.int v) ∧ Q v i l)) (fun _ => True) E.1 104 [some (.ref M), some (.int (nI a)), some (.int (nI p)), some (.int (nI b)), some (.int (nI q)), some (.int (nI c)), some (.int (nI i))] [] E (va_up iv0 (M + 4) (va_cpy (iv0 (M + 3)) (iv0 (M + 4)) (40 * a + p) 0 i)) lv := by
  intro e
  induction e with
  | zero =>
    intro i hi
    have hi : i = c := by omega
    subst hi
    refine aw_iload dX11_copy_104 rfl ?_
    refine aw_iload dX11_copy_106 rfl ?_
    refine aw_icmp_ge (tgt := 133) dX11_copy_108 rfl (fun h108 => ?_) (fun h108 => absurd (nI_le (Nat.le_refl _) (by omega)) h108)
    refine aw_iconst (v := nI 0) dX11_copy_133 kc_0 ?_
    refine aw_istore (lo' := [_,_,_,_,_,_,_]) dX11_copy_134 (Nat.le_of_ble_eq_true rfl) rfl ?_
    have h := lm_copy2 hM (iv0 := va_up iv0 (M + 4) (va_cpy (iv0 (M + 3)) (iv0 (M + 4)) (40 * a + p) 0 i)) (lv := lv) ha hb hp hq (Q := Q) ?_ i 0 (by omega)
    · rw [cpy_0, up_id] at h
      exact h
    · rw [va_up_s, va_up_n (show M + 3 ≠ M + 4 by omega)]
      rw [show va_cpy (va_cpy (iv0 (M + 3)) (iv0 (M + 4)) (40 * a + p) 0 i) (iv0 (M + 3)) 0 (40 * b + q) i = va_cpy (iv0 (M + 3)) (iv0 (M + 3)) (40 * a + p) (40 * b + q) i from ?_]
      · exact hQ
      · funext x
        unfold va_cpy
        by_cases hx : 40 * b + q ≤ x ∧ x < 40 * b + q + i
        · rw [if_pos hx, if_pos hx, if_pos (by omega), Nat.zero_add, Nat.sub_zero]
        · rw [if_neg hx, if_neg hx]
  | succ e ih =>
    intro i hi
    refine aw_iload dX11_copy_104 rfl ?_
    refine aw_iload dX11_copy_106 rfl ?_
    refine aw_icmp_ge (tgt := 133) dX11_copy_108 rfl (fun h108 => absurd h108 (nI_ge (by omega) (by omega))) (fun h108 => ?_)
    refine aw_aload_n dX11_copy_111 rfl ?_
    refine aw_getR dX11_copy_112 fgX11_23 rfl (MS.s0 hM) (MS.r0_7 hM) ?_
    refine aw_iload dX11_copy_115 rfl ?_
    refine aw_aload_n dX11_copy_117 rfl ?_
    refine aw_iload_n dX11_copy_118 rfl ?_
    refine aw_iload_n dX11_copy_119 rfl ?_
    refine aw_iload dX11_copy_120 rfl ?_
    refine aw_iadd dX11_copy_122 ?_
    rw [nI_add]
    refine aw_xVi [_, _] dX11_copy_123 cvX11_88 (MS.s0 hM) (m_rowAt hM (p := p + i) (by omega)) rfl rfl (Nat.le_of_ble_eq_true rfl) (rb0 (by decide)) ?_
    refine aw_iastore dX11_copy_126 (MS.s4 hM) rfl (by omega) ?_
    refine aw_iinc (v := _) (lo' := [_,_,_,_,_,_,_]) dX11_copy_127 rfl (nI_1 i) rfl ?_
    refine aw_goto (tgt := 104) dX11_copy_130 rfl ?_
    have h := ih (i + 1) (by omega)
    rw [← cpy_s, Nat.zero_add, ← up_up iv0 (M + 4) (va_cpy (iv0 (M + 3)) (iv0 (M + 4)) (40 * a + p) 0 i)] at h
    rw [va_up_s, va_up_n (show M + 3 ≠ M + 4 by omega), upd_up, show 40 * a + (p + i) = 40 * a + p + i by omega]
    exact h
theorem m_copy {G : GC} {E : SH} {iv : IV} {lv : LV} {M : Nat} (hM : MS G E M) {A : AA} {D : DD} (hA : MA M A iv lv) (hD : MD M D iv) (hW : WD D) (r i t j n : Int32) : SpI G mX11_copy 3 [.ref M, .int r, .int i, .int t, .int j, .int n] E iv lv (QMo M iv lv (oCopy A D r i t j n)) := by
  refine spec0_of (lo := [_,_,_,_,_,_,_]) (by decide) (Nat.le_of_ble_eq_true rfl) rfl ?_
  refine aw_iload_n dX11_copy_0 rfl ?_
  refine aw_xSi [_] dX11_copy_1 csX11_80 (m_isRow r) rfl rfl (Nat.le_of_ble_eq_true rfl) (rb0 (by decide)) ?_
  refine aw_if_eq (tgt := 14) dX11_copy_4 rfl (fun h4 => ?_) (fun h4 => ?_)
  · refine aw_iconst (v := (-1)) dX11_copy_14 kc_m1 ?_
    refine aw_iret dX11_copy_15 rfl (rb0 (Nat.zero_le _)) ⟨rfl, _, rfl, ?_⟩
    first | exact QM_no hA hD (if_pos (Or.inl (zi_bad h4))) | exact QM_no hA hD (if_pos (Or.inr (zi_bad h11)))
  · obtain ⟨a, ha, rfl⟩ := zi_of h4 (by decide)
    refine aw_iload_n dX11_copy_7 rfl ?_
    refine aw_xSi [_] dX11_copy_8 csX11_80 (m_isRow t) rfl rfl (Nat.le_of_ble_eq_true rfl) (rb0 (by decide)) ?_
    refine aw_if_ne (tgt := 16) dX11_copy_11 rfl (fun h11 => ?_) (fun h11 => ?_)
    · obtain ⟨b, hb, rfl⟩ := zi_of h11 (by decide)
      refine aw_iload dX11_copy_16 rfl ?_
      refine aw_if_ge (tgt := 27) dX11_copy_18 rfl (fun h18 => ?_) (fun h18 => ?_)
      · obtain ⟨c, hc, rfl⟩ := nI_of (Int32.not_lt.mpr h18)
        refine aw_aload_n dX11_copy_27 rfl ?_
        refine aw_getR dX11_copy_28 fgX11_17 rfl (MS.s0 hM) (MS.r0_5 hM) ?_
        refine aw_iload_n dX11_copy_31 rfl ?_
        refine aw_iaload dX11_copy_32 (MS.s2 hM) rfl ha ?_
        refine aw_if_lt (tgt := 45) dX11_copy_33 rfl (fun h33 => ?_) (fun h33 => ?_)
        · have e1 : D.1 a = none := szv_neg (by rw [← hD.1 a ha]; exact h33) (fun k hk => by have := hW.1 a ha k hk; omega)
          refine aw_aload_n dX11_copy_45 rfl ?_
          refine aw_iconst (v := nI 1) dX11_copy_46 kc_1 ?_
          refine aw_xVi [_] dX11_copy_47 cvX11_84 (MS.s0 hM) (m_found hM (f := 1) (by decide)) rfl rfl (Nat.le_of_ble_eq_true rfl) (rb0 (by decide)) ?_
          refine aw_iret dX11_copy_50 rfl (rb0 (Nat.zero_le _)) ⟨rfl, _, rfl, ?_⟩
          first | exact QM_fnd hA hD (by decide) (oCopy_1 i j ha hb hc (Or.inl e1)) | exact QM_fnd hA hD (by decide) (oCopy_1 i j ha hb hc (Or.inr e2))
        · obtain ⟨k, e1⟩ : ∃ k, D.1 a = some k := szv_pos (by rw [← hD.1 a ha]; exact h33)
          have hk := hW.1 a ha k e1
          have hzk : iv (M + 2) a = nI k := by rw [hD.1 a ha, e1]; rfl
          refine aw_aload_n dX11_copy_36 rfl ?_
          refine aw_getR dX11_copy_37 fgX11_17 rfl (MS.s0 hM) (MS.r0_5 hM) ?_
          refine aw_iload_n dX11_copy_40 rfl ?_
          refine aw_iaload dX11_copy_41 (MS.s2 hM) rfl hb ?_
          refine aw_if_ge (tgt := 51) dX11_copy_42 rfl (fun h42 => ?_) (fun h42 => ?_)
          · obtain ⟨l, e2⟩ : ∃ k, D.1 b = some k := szv_pos (by rw [← hD.1 b hb]; exact Int32.not_lt.mpr h42)
            have hl := hW.1 b hb l e2
            have hzl : iv (M + 2) b = nI l := by rw [hD.1 b hb, e2]; rfl
            refine aw_iload_n dX11_copy_51 rfl ?_
            refine aw_if_lt (tgt := 95) dX11_copy_52 rfl (fun h52 => ?_) (fun h52 => ?_)
            · refine aw_aload_n dX11_copy_95 rfl ?_
              refine aw_iconst (v := nI 2) dX11_copy_96 kc_2 ?_
              refine aw_xVi [_] dX11_copy_97 cvX11_84 (MS.s0 hM) (m_found hM (f := 2) (by decide)) rfl rfl (Nat.le_of_ble_eq_true rfl) (rb0 (by decide)) ?_
              refine aw_iret dX11_copy_100 rfl (rb0 (Nat.zero_le _)) ⟨rfl, _, rfl, ?_⟩
              refine QM_fnd hA hD (by decide) (oCopy_2 ha hb hc e1 e2 ?_)
              first
                | exact Or.inr (Or.inr (Or.inr (by rw [ix_nI hq]; omega)))
                | exact Or.inr (Or.inr (Or.inl (by rw [ix_nI hp]; omega)))
                | exact Or.inr (Or.inl h57)
                | exact Or.inl h52
            · obtain ⟨p, hp, rfl⟩ := nI_of h52
              refine aw_iload dX11_copy_55 rfl ?_
              refine aw_if_lt (tgt := 95) dX11_copy_57 rfl (fun h57 => ?_) (fun h57 => ?_)
              · refine aw_aload_n dX11_copy_95 rfl ?_
                refine aw_iconst (v := nI 2) dX11_copy_96 kc_2 ?_
                refine aw_xVi [_] dX11_copy_97 cvX11_84 (MS.s0 hM) (m_found hM (f := 2) (by decide)) rfl rfl (Nat.le_of_ble_eq_true rfl) (rb0 (by decide)) ?_
                refine aw_iret dX11_copy_100 rfl (rb0 (Nat.zero_le _)) ⟨rfl, _, rfl, ?_⟩
                refine QM_fnd hA hD (by decide) (oCopy_2 ha hb hc e1 e2 ?_)
                first
                  | exact Or.inr (Or.inr (Or.inr (by rw [ix_nI hq]; omega)))
                  | exact Or.inr (Or.inr (Or.inl (by rw [ix_nI hp]; omega)))
                  | exact Or.inr (Or.inl h57)
                  | exact Or.inl h52
              · obtain ⟨q, hq, rfl⟩ := nI_of h57
                refine aw_iload_n dX11_copy_60 rfl ?_
                refine aw_i2l dX11_copy_61 ?_
                refine aw_iload dX11_copy_62 rfl ?_
                refine aw_i2l dX11_copy_64 ?_
                refine aw_ladd dX11_copy_65 ?_
                refine aw_aload_n dX11_copy_66 rfl ?_
                refine aw_getR dX11_copy_67 fgX11_17 rfl (MS.s0 hM) (MS.r0_5 hM) ?_
                refine aw_iload_n dX11_copy_70 rfl ?_
                refine aw_iaload dX11_copy_71 (MS.s2 hM) rfl ha ?_
                refine aw_i2l dX11_copy_72 ?_
                refine aw_lcmp dX11_copy_73 ?_
                refine aw_if_gt (tgt := 95) dX11_copy_74 rfl (fun h74 => ?_) (fun h74 => ?_)
                · rw [hzk, cpc hp hc (by omega)] at h74
                  refine aw_aload_n dX11_copy_95 rfl ?_
                  refine aw_iconst (v := nI 2) dX11_copy_96 kc_2 ?_
                  refine aw_xVi [_] dX11_copy_97 cvX11_84 (MS.s0 hM) (m_found hM (f := 2) (by decide)) rfl rfl (Nat.le_of_ble_eq_true rfl) (rb0 (by decide)) ?_
                  refine aw_iret dX11_copy_100 rfl (rb0 (Nat.zero_le _)) ⟨rfl, _, rfl, ?_⟩
                  refine QM_fnd hA hD (by decide) (oCopy_2 ha hb hc e1 e2 ?_)
                  first
                    | exact Or.inr (Or.inr (Or.inr (by rw [ix_nI hq]; omega)))
                    | exact Or.inr (Or.inr (Or.inl (by rw [ix_nI hp]; omega)))
                    | exact Or.inr (Or.inl h57)
                    | exact Or.inl h52
                · rw [hzk, cpc hp hc (by omega)] at h74
                  refine aw_iload dX11_copy_77 rfl ?_
                  refine aw_i2l dX11_copy_79 ?_
                  refine aw_iload dX11_copy_80 rfl ?_
                  refine aw_i2l dX11_copy_82 ?_
                  refine aw_ladd dX11_copy_83 ?_
                  refine aw_aload_n dX11_copy_84 rfl ?_
                  refine aw_getR dX11_copy_85 fgX11_17 rfl (MS.s0 hM) (MS.r0_5 hM) ?_
                  refine aw_iload_n dX11_copy_88 rfl ?_
                  refine aw_iaload dX11_copy_89 (MS.s2 hM) rfl hb ?_
                  refine aw_i2l dX11_copy_90 ?_
                  refine aw_lcmp dX11_copy_91 ?_
                  refine aw_if_le (tgt := 101) dX11_copy_92 rfl (fun h92 => ?_) (fun h92 => ?_)
                  · rw [hzl, cpl hq hc (by omega)] at h92
                    refine aw_iconst (v := nI 0) dX11_copy_101 kc_0 ?_
                    refine aw_istore (lo' := [_,_,_,_,_,_,_]) dX11_copy_102 (Nat.le_of_ble_eq_true rfl) rfl ?_
                    have h := lm_copy1 hM (iv0 := iv) (lv := lv) (a := a) (p := p) (b := b) (q := q) (c := c) ha hb (by omega) (by omega) (Q := QMo M iv lv (oCopy A D (nI a) (nI p) (nI b) (nI q) (nI c))) ?_ c 0 (by omega)
                    · rw [cpy_0, up_id] at h
                      exact h
                    · refine QM_ar (oCopy_k ha hb hc e1 e2 (by omega) h92 (by omega) (by omega)) hA (by rw [va_up_n (by omega), va_up_n (by omega)]) (by rw [va_up_n (by omega), va_up_n (by omega)]) ?_ (fun x hx => by rw [va_up_n (fun e => hx ⟨by omega, by omega⟩), va_up_n (fun e => hx ⟨by omega, by omega⟩)])
                      refine ⟨fun r hr => ?_, fun r i hr hi => ?_, fun r hr => ?_, fun r i hr hi => ?_⟩
                      · rw [va_up_n (by omega), va_up_n (by omega)]; exact hD.1 r hr
                      · rw [va_up_s]
                        show va_cpy _ _ _ _ _ _ = va_up D.2.1 b _ r i
                        unfold va_cpy
                        by_cases e : r = b
                        · subst e
                          rw [va_up_s]
                          by_cases e2 : q ≤ i ∧ i < q + c
                          · rw [if_pos (by omega), if_pos e2, ← hD.2.1 a _ ha (by omega)]
                            congr 1
                            omega
                          · rw [if_neg (by omega), if_neg e2]; exact hD.2.1 r i hr hi
                        · rw [va_up_n e, if_neg (by omega)]; exact hD.2.1 r i hr hi
                      · rw [va_up_n (by omega), va_up_n (by omega)]; exact hD.2.2.1 r hr
                      · rw [va_up_n (by omega), va_up_n (by omega)]; exact hD.2.2.2 r i hr hi
                  · rw [hzl, cpl hq hc (by omega)] at h92
                    refine aw_aload_n dX11_copy_95 rfl ?_
                    refine aw_iconst (v := nI 2) dX11_copy_96 kc_2 ?_
                    refine aw_xVi [_] dX11_copy_97 cvX11_84 (MS.s0 hM) (m_found hM (f := 2) (by decide)) rfl rfl (Nat.le_of_ble_eq_true rfl) (rb0 (by decide)) ?_
                    refine aw_iret dX11_copy_100 rfl (rb0 (Nat.zero_le _)) ⟨rfl, _, rfl, ?_⟩
                    refine QM_fnd hA hD (by decide) (oCopy_2 ha hb hc e1 e2 ?_)
                    first
                      | exact Or.inr (Or.inr (Or.inr (by rw [ix_nI hq]; omega)))
                      | exact Or.inr (Or.inr (Or.inl (by rw [ix_nI hp]; omega)))
                      | exact Or.inr (Or.inl h57)
                      | exact Or.inl h52
          · have e2 : D.1 b = none := szv_neg (by rw [← hD.1 b hb]; exact Int32.not_le.mp h42) (fun k hk => by have := hW.1 b hb k hk; omega)
            refine aw_aload_n dX11_copy_45 rfl ?_
            refine aw_iconst (v := nI 1) dX11_copy_46 kc_1 ?_
            refine aw_xVi [_] dX11_copy_47 cvX11_84 (MS.s0 hM) (m_found hM (f := 1) (by decide)) rfl rfl (Nat.le_of_ble_eq_true rfl) (rb0 (by decide)) ?_
            refine aw_iret dX11_copy_50 rfl (rb0 (Nat.zero_le _)) ⟨rfl, _, rfl, ?_⟩
            first | exact QM_fnd hA hD (by decide) (oCopy_1 i j ha hb hc (Or.inl e1)) | exact QM_fnd hA hD (by decide) (oCopy_1 i j ha hb hc (Or.inr e2))
      · refine aw_aload_n dX11_copy_21 rfl ?_
        refine aw_iconst (v := nI 5) dX11_copy_22 kc_5 ?_
        refine aw_xVi [_] dX11_copy_23 cvX11_84 (MS.s0 hM) (m_found hM (f := 5) (by decide)) rfl rfl (Nat.le_of_ble_eq_true rfl) (rb0 (by decide)) ?_
        refine aw_iret dX11_copy_26 rfl (rb0 (Nat.zero_le _)) ⟨rfl, _, rfl, ?_⟩
        exact QM_fnd hA hD (by decide) (oCopy_5 i j ha hb (Int32.not_le.mp h18))
    · refine aw_iconst (v := (-1)) dX11_copy_14 kc_m1 ?_
      refine aw_iret dX11_copy_15 rfl (rb0 (Nat.zero_le _)) ⟨rfl, _, rfl, ?_⟩
      first | exact QM_no hA hD (if_pos (Or.inl (zi_bad h4))) | exact QM_no hA hD (if_pos (Or.inr (zi_bad h11)))
theorem lm_mean {G : GC} {E : SH} {iv : IV} {lv : LV} {M : Nat} (hM : MS G E M) {A : AA} {D : DD} (hA : MA M A iv lv) (hD : MD M D iv) (hW : WD D) {j k : Nat} (hj : j < 6) (e1 : D.1 j = some k) (hk : k ≤ 40) (hk0 : k ≠ 0) (hz : iv (M + 2) j = nI k) : ∀ (e i : Nat), i + e = k → AW G mX11_mean (rm 3 0) (Z0 G 3 E (fun r i l => ∃ v, r = some (.int v) ∧ QMo M iv lv (oMean A D (nI j)) v i l)) (fun _ => True) E.1 44 [some (.ref M), some (.int (nI j)), some (.long (lsum (D.2.1 j) i)), none, some (.int (nI i))] [] E iv lv := by
  intro e
  induction e with
  | zero =>
    intro i hi
    have hi : i = k := by omega
    subst hi
    refine aw_iload dX11_mean_44 rfl ?_
    refine aw_aload_n dX11_mean_46 rfl ?_
    refine aw_getR dX11_mean_47 fgX11_17 rfl (MS.s0 hM) (MS.r0_5 hM) ?_
    refine aw_iload_n dX11_mean_50 rfl ?_
    refine aw_iaload dX11_mean_51 (MS.s2 hM) rfl hj ?_
    refine aw_icmp_ge (tgt := 72) dX11_mean_52 rfl (fun h52 => ?_) (fun h52 => absurd (by rw [hz]; exact nI_le (Nat.le_refl _) (by omega)) h52)
    refine aw_aload_n dX11_mean_72 rfl ?_
    refine aw_lload_n dX11_mean_73 rfl ?_
    refine aw_aload_n dX11_mean_74 rfl ?_
    refine aw_getR dX11_mean_75 fgX11_17 rfl (MS.s0 hM) (MS.r0_5 hM) ?_
    refine aw_iload_n dX11_mean_78 rfl ?_
    refine aw_iaload dX11_mean_79 (MS.s2 hM) rfl hj ?_
    refine aw_i2l dX11_mean_80 ?_
    refine aw_ldiv dX11_mean_81 (by rw [hz, nI_l (by omega), show (0 : Int64) = lN 0 by decide, lN_eq (by omega) (by omega)]; exact hk0) ?_
    rw [hz]
    refine aw_l2i dX11_mean_82 ?_
    refine aw_iconst (v := nI 1) dX11_mean_83 kc_1 ?_
    refine aw_xVi [_, _] dX11_mean_84 cvX11_92 (MS.s0 hM) (m_tells hM _ _) rfl rfl (Nat.le_of_ble_eq_true rfl) (rb0 (by decide)) ?_
    refine aw_iret dX11_mean_87 rfl (rb0 (Nat.zero_le _)) ⟨rfl, _, rfl, ?_⟩
    rw [oMean_k hj e1 hk0]
    exact ⟨rfl, MA_tel hA, MD_tel hD, fun a ha => telN_o (fun e => ha ⟨by omega, by omega⟩), by rw [telN_M]; rfl, by rw [telN_M]; rfl, rfl⟩
  | succ e ih =>
    intro i hi
    refine aw_iload dX11_mean_44 rfl ?_
    refine aw_aload_n dX11_mean_46 rfl ?_
    refine aw_getR dX11_mean_47 fgX11_17 rfl (MS.s0 hM) (MS.r0_5 hM) ?_
    refine aw_iload_n dX11_mean_50 rfl ?_
    refine aw_iaload dX11_mean_51 (MS.s2 hM) rfl hj ?_
    refine aw_icmp_ge (tgt := 72) dX11_mean_52 rfl (fun h52 => absurd h52 (by rw [hz]; exact nI_ge (by omega) (by omega))) (fun h52 => ?_)
    refine aw_lload_n dX11_mean_55 rfl ?_
    refine aw_aload_n dX11_mean_56 rfl ?_
    refine aw_iload_n dX11_mean_57 rfl ?_
    refine aw_iload dX11_mean_58 rfl ?_
    refine aw_xVi [_, _] dX11_mean_60 cvX11_88 (MS.s0 hM) (m_rowAt hM (by omega)) rfl rfl (Nat.le_of_ble_eq_true rfl) (rb0 (by decide)) ?_
    rw [hD.2.1 j i hj (by omega)]
    refine aw_i2l dX11_mean_63 ?_
    refine aw_ladd dX11_mean_64 ?_
    refine aw_lstore_n (lo' := [_,_,_,_,_]) dX11_mean_65 (Nat.le_of_ble_eq_true rfl) rfl ?_
    refine aw_iinc (v := _) (lo' := [_,_,_,_,_]) dX11_mean_66 rfl (nI_1 i) rfl ?_
    refine aw_goto (tgt := 44) dX11_mean_69 rfl ?_
    exact ih (i + 1) (by omega)
theorem m_mean {G : GC} {E : SH} {iv : IV} {lv : LV} {M : Nat} (hM : MS G E M) {A : AA} {D : DD} (hA : MA M A iv lv) (hD : MD M D iv) (hW : WD D) (r : Int32) : SpI G mX11_mean 3 [.ref M, .int r] E iv lv (QMo M iv lv (oMean A D r)) := by
  refine spec0_of (lo := [_,_,_,_,_]) (by decide) (Nat.le_of_ble_eq_true rfl) rfl ?_
  refine aw_iload_n dX11_mean_0 rfl ?_
  refine aw_xSi [_] dX11_mean_1 csX11_80 (m_isRow r) rfl rfl (Nat.le_of_ble_eq_true rfl) (rb0 (by decide)) ?_
  refine aw_if_ne (tgt := 9) dX11_mean_4 rfl (fun h4 => ?_) (fun h4 => ?_)
  · obtain ⟨j, hj, rfl⟩ := zi_of h4 (by decide)
    refine aw_aload_n dX11_mean_9 rfl ?_
    refine aw_getR dX11_mean_10 fgX11_17 rfl (MS.s0 hM) (MS.r0_5 hM) ?_
    refine aw_iload_n dX11_mean_13 rfl ?_
    refine aw_iaload dX11_mean_14 (MS.s2 hM) rfl hj ?_
    refine aw_if_ge (tgt := 24) dX11_mean_15 rfl (fun h15 => ?_) (fun h15 => ?_)
    · obtain ⟨k, e1⟩ : ∃ k, D.1 j = some k := szv_pos (by rw [← hD.1 j hj]; exact Int32.not_lt.mpr h15)
      have hk := hW.1 j hj k e1
      have hzk : iv (M + 2) j = nI k := by rw [hD.1 j hj, e1]; rfl
      refine aw_aload_n dX11_mean_24 rfl ?_
      refine aw_getR dX11_mean_25 fgX11_17 rfl (MS.s0 hM) (MS.r0_5 hM) ?_
      refine aw_iload_n dX11_mean_28 rfl ?_
      refine aw_iaload dX11_mean_29 (MS.s2 hM) rfl hj ?_
      refine aw_if_ne (tgt := 39) dX11_mean_30 rfl (fun h30 => ?_) (fun h30 => ?_)
      · have hk0 : k ≠ 0 := fun e => h30 (by rw [hzk, e]; rfl)
        refine aw_lconst (v := lN 0) dX11_mean_39 kl_0 ?_
        refine aw_lstore_n (lo' := [_,_,_,_,_]) dX11_mean_40 (Nat.le_of_ble_eq_true rfl) rfl ?_
        refine aw_iconst (v := nI 0) dX11_mean_41 kc_0 ?_
        refine aw_istore (lo' := [_,_,_,_,_]) dX11_mean_42 (Nat.le_of_ble_eq_true rfl) rfl ?_
        exact lm_mean hM hA hD hW hj e1 hk hk0 hzk k 0 (by omega)
      · have hk0 : k = 0 := by
          rw [hzk] at h30
          exact (nI_eq (by omega) (by omega)).mp (h30.trans nI_0.symm)
        subst hk0
        refine aw_aload_n dX11_mean_33 rfl ?_
        refine aw_iconst (v := nI 4) dX11_mean_34 kc_4 ?_
        refine aw_xVi [_] dX11_mean_35 cvX11_84 (MS.s0 hM) (m_found hM (f := 4) (by decide)) rfl rfl (Nat.le_of_ble_eq_true rfl) (rb0 (by decide)) ?_
        refine aw_iret dX11_mean_38 rfl (rb0 (Nat.zero_le _)) ⟨rfl, _, rfl, ?_⟩
        exact QM_fnd hA hD (by decide) (oMean_0 hj e1)
    · have e1 : D.1 j = none := szv_neg (by rw [← hD.1 j hj]; exact Int32.not_le.mp h15) (fun k hk => by have := hW.1 j hj k hk; omega)
      refine aw_aload_n dX11_mean_18 rfl ?_
      refine aw_iconst (v := nI 1) dX11_mean_19 kc_1 ?_
      refine aw_xVi [_] dX11_mean_20 cvX11_84 (MS.s0 hM) (m_found hM (f := 1) (by decide)) rfl rfl (Nat.le_of_ble_eq_true rfl) (rb0 (by decide)) ?_
      refine aw_iret dX11_mean_23 rfl (rb0 (Nat.zero_le _)) ⟨rfl, _, rfl, ?_⟩
      exact QM_fnd hA hD (by decide) (oMean_n hj e1)
  · refine aw_iconst (v := (-1)) dX11_mean_7 kc_m1 ?_
    refine aw_iret dX11_mean_8 rfl (rb0 (Nat.zero_le _)) ⟨rfl, _, rfl, ?_⟩
    exact QM_no hA hD (if_pos (zi_bad h4))
