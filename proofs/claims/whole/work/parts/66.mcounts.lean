theorem lo_k4 {G : GC} {E : SH} {iv : IV} {lv : LV} {M : Nat} {s : TS} {v : TV} (hM : MS G E M) (hs : WS s) (hr : SR M s iv) (hv : VR (M + 12) v iv) (hw : WV s v) {y1 : Int32} : ∀ (c i : Nat), i + c = s.1 → AW G mX11_counted (rm 3 0) (Z0 G 3 E (fun r i0 l => ∃ w, r = some (.int w) ∧ w = nI (bitU (phid s v) s.1) ∧ i0 = iv ∧ l = lv)) (fun _ => True) E.1 84 [some (.ref M), some (.int y1), some (.int (nI (bitU (phid s v) i))), some (.int (nI i))] [] E iv lv := by
  have h7 := hs.1
  intro c
  induction c with
  | zero =>
    intro i hi
    have hi : i = s.1 := by omega
    subst hi
    refine aw_iload_n dX11_counted_84 rfl ?_
    refine aw_aload_n dX11_counted_85 rfl ?_
    refine aw_getI dX11_counted_86 fgX11_126 rfl (MS.s0 hM) ?_
    refine aw_icmp_ge (tgt := 120) dX11_counted_89 rfl (fun h89 => ?_) (fun h89 => absurd (by rw [hr.1]; exact nI_le (Nat.le_refl _) (by omega)) h89)
    refine aw_iload_n dX11_counted_120 rfl ?_
    refine aw_iret dX11_counted_121 rfl (rb0 (Nat.zero_le _)) ⟨rfl, _, rfl, rfl, rfl, rfl⟩
  | succ c ih =>
    intro i hi
    refine aw_iload_n dX11_counted_84 rfl ?_
    refine aw_aload_n dX11_counted_85 rfl ?_
    refine aw_getI dX11_counted_86 fgX11_126 rfl (MS.s0 hM) ?_
    refine aw_icmp_ge (tgt := 120) dX11_counted_89 rfl (fun h89 => absurd h89 (by rw [hr.1]; exact nI_ge (by omega) (by omega))) (fun h89 => ?_)
    refine aw_iload_n dX11_counted_92 rfl ?_
    refine aw_aload_n dX11_counted_93 rfl ?_
    refine aw_aload_n dX11_counted_94 rfl ?_
    refine aw_getR dX11_counted_95 fgX11_48 rfl (MS.s0 hM) (MS.r0_18 hM) ?_
    refine aw_iload_n dX11_counted_98 rfl ?_
    refine aw_xVi [_, _] dX11_counted_99 cvX11_139 (MS.s0 hM) (m_isHid hM hs hr (MS.s12 hM) hv hw (i := i) (by omega)) rfl rfl (Nat.le_of_ble_eq_true rfl) (rb0 (by decide)) ?_
    refine aw_if_eq (tgt := 111) dX11_counted_102 rfl (fun h102 => ?_) (fun h102 => ?_)
    · have hb : phid s v i = false := decide_eq_false (zI_0.mp h102)
      refine aw_iconst (v := nI 0) dX11_counted_111 kc_0 ?_
      refine aw_ior dX11_counted_112 ?_
      first
        | rw [bitU_t (p := phid s v) (i := i) (by omega) hb]
        | rw [or_0, ← bitU_f (p := phid s v) (i := i) hb]
      refine aw_istore_n (lo' := [_,_,_,_]) dX11_counted_113 (Nat.le_of_ble_eq_true rfl) rfl ?_
      refine aw_iinc (v := _) (lo' := [_,_,_,_]) dX11_counted_114 rfl (nI_1 i) rfl ?_
      refine aw_goto (tgt := 84) dX11_counted_117 rfl ?_
      exact ih (i + 1) (by omega)
    · have hb : phid s v i = true := decide_eq_true (zI_n0.mp h102)
      refine aw_iconst (v := nI 1) dX11_counted_105 kc_1 ?_
      refine aw_iload_n dX11_counted_106 rfl ?_
      refine aw_ishl dX11_counted_107 ?_
      refine aw_goto (tgt := 112) dX11_counted_108 rfl ?_
      refine aw_ior dX11_counted_112 ?_
      first
        | rw [bitU_t (p := phid s v) (i := i) (by omega) hb]
        | rw [or_0, ← bitU_f (p := phid s v) (i := i) hb]
      refine aw_istore_n (lo' := [_,_,_,_]) dX11_counted_113 (Nat.le_of_ble_eq_true rfl) rfl ?_
      refine aw_iinc (v := _) (lo' := [_,_,_,_]) dX11_counted_114 rfl (nI_1 i) rfl ?_
      refine aw_goto (tgt := 84) dX11_counted_117 rfl ?_
      exact ih (i + 1) (by omega)
theorem lo_k6 {G : GC} {E : SH} {iv : IV} {lv : LV} {M : Nat} {s : TS} {v : TV} (hM : MS G E M) (hs : WS s) (hr : SR M s iv) (hv : VR (M + 12) v iv) (hw : WV s v) {y1 : Int32} : ∀ (c i : Nat), i + c = 5 → AW G mX11_counted (rm 3 0) (Z0 G 3 E (fun r i0 l => ∃ w, r = some (.int w) ∧ w = nI (sumU (fun c => v (1 + c)) 5) ∧ i0 = iv ∧ l = lv)) (fun _ => True) E.1 133 [some (.ref M), some (.int y1), some (.int (nI (sumU (fun c => v (1 + c)) i))), some (.int (nI i))] [] E iv lv := by
  have h7 := hs.1
  intro c
  induction c with
  | zero =>
    intro i hi
    have hi : i = 5 := by omega
    subst hi
    refine aw_iload_n dX11_counted_133 rfl ?_
    refine aw_iconst (v := nI 5) dX11_counted_134 kc_5 ?_
    refine aw_icmp_ge (tgt := 155) dX11_counted_135 rfl (fun h135 => ?_) (fun h135 => absurd (by decide) h135)
    refine aw_iload_n dX11_counted_155 rfl ?_
    refine aw_iret dX11_counted_156 rfl (rb0 (Nat.zero_le _)) ⟨rfl, _, rfl, rfl, rfl, rfl⟩
  | succ c ih =>
    intro i hi
    refine aw_iload_n dX11_counted_133 rfl ?_
    refine aw_iconst (v := nI 5) dX11_counted_134 kc_5 ?_
    refine aw_icmp_ge (tgt := 155) dX11_counted_135 rfl (fun h135 => absurd h135 (nI_ge (by omega) (by decide))) (fun h135 => ?_)
    refine aw_iload_n dX11_counted_138 rfl ?_
    refine aw_aload_n dX11_counted_139 rfl ?_
    refine aw_getR dX11_counted_140 fgX11_48 rfl (MS.s0 hM) (MS.r0_18 hM) ?_
    refine aw_iconst (v := nI 1) dX11_counted_143 kc_1 ?_
    refine aw_iload_n dX11_counted_144 rfl ?_
    refine aw_iadd dX11_counted_145 ?_
    rw [nI_add]
    refine aw_iaload dX11_counted_146 (MS.s12 hM) rfl (by omega) ?_
    rw [hv (1 + i) (by omega)]
    refine aw_iadd dX11_counted_147 ?_
    rw [nI_add]
    refine aw_istore_n (lo' := [_,_,_,_]) dX11_counted_148 (Nat.le_of_ble_eq_true rfl) rfl ?_
    refine aw_iinc (v := _) (lo' := [_,_,_,_]) dX11_counted_149 rfl (nI_1 i) rfl ?_
    refine aw_goto (tgt := 133) dX11_counted_152 rfl ?_
    exact ih (i + 1) (by omega)
theorem lo_k7 {G : GC} {E : SH} {iv : IV} {lv : LV} {M : Nat} {s : TS} {v : TV} (hM : MS G E M) (hs : WS s) (hr : SR M s iv) (hv : VR (M + 12) v iv) (hw : WV s v) {y1 : Int32} {D : DD} (hD : MD M D iv) (hDW : WD D) : ∀ (c i : Nat), i + c = 6 → AW G mX11_counted (rm 3 0) (Z0 G 3 E (fun r i0 l => ∃ w, r = some (.int w) ∧ w = nI (cntU (fun r => (D.1 r).isSome) 6) ∧ i0 = iv ∧ l = lv)) (fun _ => True) E.1 159 [some (.ref M), some (.int y1), some (.int (nI (cntU (fun r => (D.1 r).isSome) i))), some (.int (nI i))] [] E iv lv := by
  have h7 := hs.1
  intro c
  induction c with
  | zero =>
    intro i hi
    have hi : i = 6 := by omega
    subst hi
    refine aw_iload_n dX11_counted_159 rfl ?_
    refine aw_bipush (v := nI 6) dX11_counted_160 kb_6 ?_
    refine aw_icmp_ge (tgt := 188) dX11_counted_162 rfl (fun h162 => ?_) (fun h162 => absurd (by decide) h162)
    refine aw_iload_n dX11_counted_188 rfl ?_
    refine aw_iret dX11_counted_189 rfl (rb0 (Nat.zero_le _)) ⟨rfl, _, rfl, rfl, rfl, rfl⟩
  | succ c ih =>
    intro i hi
    refine aw_iload_n dX11_counted_159 rfl ?_
    refine aw_bipush (v := nI 6) dX11_counted_160 kb_6 ?_
    refine aw_icmp_ge (tgt := 188) dX11_counted_162 rfl (fun h162 => absurd h162 (nI_ge (by omega) (by decide))) (fun h162 => ?_)
    refine aw_iload_n dX11_counted_165 rfl ?_
    refine aw_aload_n dX11_counted_166 rfl ?_
    refine aw_getR dX11_counted_167 fgX11_17 rfl (MS.s0 hM) (MS.r0_5 hM) ?_
    refine aw_iload_n dX11_counted_170 rfl ?_
    refine aw_iaload dX11_counted_171 (MS.s2 hM) rfl (by omega) ?_
    rw [hD.1 i (by omega)]
    refine aw_if_lt (tgt := 179) dX11_counted_172 rfl (fun h172 => ?_) (fun h172 => ?_)
    · refine aw_iconst (v := nI 0) dX11_counted_179 kc_0 ?_
      refine aw_iadd dX11_counted_180 ?_
      rw [nI_add]
      refine aw_istore_n (lo' := [_,_,_,_]) dX11_counted_181 (Nat.le_of_ble_eq_true rfl) rfl ?_
      refine aw_iinc (v := _) (lo' := [_,_,_,_]) dX11_counted_182 rfl (nI_1 i) rfl ?_
      refine aw_goto (tgt := 159) dX11_counted_185 rfl ?_
      have h := ih (i + 1) (by omega)
      cases e : D.1 i with
      | none =>
        first
          | (rw [cntU_f (p := fun r => (D.1 r).isSome) (i := i) (by show (D.1 i).isSome = false; rw [e]; rfl)] at h
             exact h)
          | (rw [e] at h172
             exact absurd (by decide) h172)
      | some k =>
        have hk := hDW.1 i (by omega) k e
        first
          | (rw [cntU_t (p := fun r => (D.1 r).isSome) (i := i) (by show (D.1 i).isSome = true; rw [e]; rfl)] at h
             exact h)
          | (rw [e] at h172
             exact absurd h172 (nI_pos (by omega)))
    · refine aw_iconst (v := nI 1) dX11_counted_175 kc_1 ?_
      refine aw_goto (tgt := 180) dX11_counted_176 rfl ?_
      refine aw_iadd dX11_counted_180 ?_
      rw [nI_add]
      refine aw_istore_n (lo' := [_,_,_,_]) dX11_counted_181 (Nat.le_of_ble_eq_true rfl) rfl ?_
      refine aw_iinc (v := _) (lo' := [_,_,_,_]) dX11_counted_182 rfl (nI_1 i) rfl ?_
      refine aw_goto (tgt := 159) dX11_counted_185 rfl ?_
      have h := ih (i + 1) (by omega)
      cases e : D.1 i with
      | none =>
        first
          | (rw [cntU_f (p := fun r => (D.1 r).isSome) (i := i) (by show (D.1 i).isSome = false; rw [e]; rfl)] at h
             exact h)
          | (rw [e] at h172
             exact absurd (by decide) h172)
      | some k =>
        have hk := hDW.1 i (by omega) k e
        first
          | (rw [cntU_t (p := fun r => (D.1 r).isSome) (i := i) (by show (D.1 i).isSome = true; rw [e]; rfl)] at h
             exact h)
          | (rw [e] at h172
             exact absurd h172 (nI_pos (by omega)))
theorem lo_k8 {G : GC} {E : SH} {iv : IV} {lv : LV} {M : Nat} {s : TS} {v : TV} (hM : MS G E M) (hs : WS s) (hr : SR M s iv) (hv : VR (M + 12) v iv) (hw : WV s v) {y1 : Int32} {D : DD} (hD : MD M D iv) (hDW : WD D) : ∀ (c i : Nat), i + c = 4 → AW G mX11_counted (rm 3 0) (Z0 G 3 E (fun r i0 l => ∃ w, r = some (.int w) ∧ w = nI (cntU (fun r => (D.2.2.1 r).isSome) 4) ∧ i0 = iv ∧ l = lv)) (fun _ => True) E.1 192 [some (.ref M), some (.int y1), some (.int (nI (cntU (fun r => (D.2.2.1 r).isSome) i))), some (.int (nI i))] [] E iv lv := by
  have h7 := hs.1
  intro c
  induction c with
  | zero =>
    intro i hi
    have hi : i = 4 := by omega
    subst hi
    refine aw_iload_n dX11_counted_192 rfl ?_
    refine aw_iconst (v := nI 4) dX11_counted_193 kc_4 ?_
    refine aw_icmp_ge (tgt := 220) dX11_counted_194 rfl (fun h194 => ?_) (fun h194 => absurd (by decide) h194)
    refine aw_iload_n dX11_counted_220 rfl ?_
    refine aw_iret dX11_counted_221 rfl (rb0 (Nat.zero_le _)) ⟨rfl, _, rfl, rfl, rfl, rfl⟩
  | succ c ih =>
    intro i hi
    refine aw_iload_n dX11_counted_192 rfl ?_
    refine aw_iconst (v := nI 4) dX11_counted_193 kc_4 ?_
    refine aw_icmp_ge (tgt := 220) dX11_counted_194 rfl (fun h194 => absurd h194 (nI_ge (by omega) (by decide))) (fun h194 => ?_)
    refine aw_iload_n dX11_counted_197 rfl ?_
    refine aw_aload_n dX11_counted_198 rfl ?_
    refine aw_getR dX11_counted_199 fgX11_26 rfl (MS.s0 hM) (MS.r0_8 hM) ?_
    refine aw_iload_n dX11_counted_202 rfl ?_
    refine aw_iaload dX11_counted_203 (MS.s5 hM) rfl (by omega) ?_
    rw [hD.2.2.1 i (by omega)]
    refine aw_if_lt (tgt := 211) dX11_counted_204 rfl (fun h204 => ?_) (fun h204 => ?_)
    · refine aw_iconst (v := nI 0) dX11_counted_211 kc_0 ?_
      refine aw_iadd dX11_counted_212 ?_
      rw [nI_add]
      refine aw_istore_n (lo' := [_,_,_,_]) dX11_counted_213 (Nat.le_of_ble_eq_true rfl) rfl ?_
      refine aw_iinc (v := _) (lo' := [_,_,_,_]) dX11_counted_214 rfl (nI_1 i) rfl ?_
      refine aw_goto (tgt := 192) dX11_counted_217 rfl ?_
      have h := ih (i + 1) (by omega)
      cases e : D.2.2.1 i with
      | none =>
        first
          | (rw [cntU_f (p := fun r => (D.2.2.1 r).isSome) (i := i) (by show (D.2.2.1 i).isSome = false; rw [e]; rfl)] at h
             exact h)
          | (rw [e] at h204
             exact absurd (by decide) h204)
      | some k =>
        have hk := hDW.2 i (by omega) k e
        first
          | (rw [cntU_t (p := fun r => (D.2.2.1 r).isSome) (i := i) (by show (D.2.2.1 i).isSome = true; rw [e]; rfl)] at h
             exact h)
          | (rw [e] at h204
             exact absurd h204 (nI_pos (by omega)))
    · refine aw_iconst (v := nI 1) dX11_counted_207 kc_1 ?_
      refine aw_goto (tgt := 212) dX11_counted_208 rfl ?_
      refine aw_iadd dX11_counted_212 ?_
      rw [nI_add]
      refine aw_istore_n (lo' := [_,_,_,_]) dX11_counted_213 (Nat.le_of_ble_eq_true rfl) rfl ?_
      refine aw_iinc (v := _) (lo' := [_,_,_,_]) dX11_counted_214 rfl (nI_1 i) rfl ?_
      refine aw_goto (tgt := 192) dX11_counted_217 rfl ?_
      have h := ih (i + 1) (by omega)
      cases e : D.2.2.1 i with
      | none =>
        first
          | (rw [cntU_f (p := fun r => (D.2.2.1 r).isSome) (i := i) (by show (D.2.2.1 i).isSome = false; rw [e]; rfl)] at h
             exact h)
          | (rw [e] at h204
             exact absurd (by decide) h204)
      | some k =>
        have hk := hDW.2 i (by omega) k e
        first
          | (rw [cntU_t (p := fun r => (D.2.2.1 r).isSome) (i := i) (by show (D.2.2.1 i).isSome = true; rw [e]; rfl)] at h
             exact h)
          | (rw [e] at h204
             exact absurd h204 (nI_pos (by omega)))
theorem lo_k9 {G : GC} {E : SH} {iv : IV} {lv : LV} {M : Nat} {T : FT} (hM : MS G E M) (hs : WS T.1) (hT : MT M T iv) (hW : WT T) {y1 : Int32} : ∀ (c i : Nat), i + c = 3 → AW G mX11_counted (rm 3 0) (Z0 G 3 E (fun r i0 l => ∃ w, r = some (.int w) ∧ w = nI (cntU (fun k => (T.2.2 k).isSome) 3) ∧ i0 = iv ∧ l = lv)) (fun _ => True) E.1 224 [some (.ref M), some (.int y1), some (.int (nI (cntU (fun k => (T.2.2 k).isSome) i))), some (.int (nI i))] [] E iv lv := by
  have h7 := hs.1
  intro c
  induction c with
  | zero =>
    intro i hi
    have hi : i = 3 := by omega
    subst hi
    refine aw_iload_n dX11_counted_224 rfl ?_
    refine aw_iconst (v := nI 3) dX11_counted_225 kc_3 ?_
    refine aw_icmp_ge (tgt := 252) dX11_counted_226 rfl (fun h226 => ?_) (fun h226 => absurd (by decide) h226)
    refine aw_iload_n dX11_counted_252 rfl ?_
    refine aw_iret dX11_counted_253 rfl (rb0 (Nat.zero_le _)) ⟨rfl, _, rfl, rfl, rfl, rfl⟩
  | succ c ih =>
    intro i hi
    refine aw_iload_n dX11_counted_224 rfl ?_
    refine aw_iconst (v := nI 3) dX11_counted_225 kc_3 ?_
    refine aw_icmp_ge (tgt := 252) dX11_counted_226 rfl (fun h226 => absurd h226 (nI_ge (by omega) (by decide))) (fun h226 => ?_)
    refine aw_iload_n dX11_counted_229 rfl ?_
    refine aw_aload_n dX11_counted_230 rfl ?_
    refine aw_getR dX11_counted_231 fgX11_57 rfl (MS.s0 hM) (MS.r0_22 hM) ?_
    refine aw_iload_n dX11_counted_234 rfl ?_
    refine aw_iaload dX11_counted_235 (MS.s15 hM) rfl (by omega) ?_
    refine aw_if_lt (tgt := 243) dX11_counted_236 rfl (fun h236 => ?_) (fun h236 => ?_)
    · refine aw_iconst (v := nI 0) dX11_counted_243 kc_0 ?_
      refine aw_iadd dX11_counted_244 ?_
      rw [nI_add]
      refine aw_istore_n (lo' := [_,_,_,_]) dX11_counted_245 (Nat.le_of_ble_eq_true rfl) rfl ?_
      refine aw_iinc (v := _) (lo' := [_,_,_,_]) dX11_counted_246 rfl (nI_1 i) rfl ?_
      refine aw_goto (tgt := 224) dX11_counted_249 rfl ?_
      have h := ih (i + 1) (by omega)
      cases e : T.2.2 i with
      | none =>
        have hz := hT.2.2.2.2.1 i (by omega) e
        first
          | (rw [cntU_f (p := fun k => (T.2.2 k).isSome) (i := i) (by show (T.2.2 i).isSome = false; rw [e]; rfl)] at h
             exact h)
          | (rw [hz] at h236
             exact absurd (by decide) h236)
      | some K =>
        have hz := (hT.2.2.2.2.2 i (by omega) K e).1
        have hk : K.1 ≤ 40 := (hW.2.2 i (by omega) K e).1.2.1
        first
          | (rw [cntU_t (p := fun k => (T.2.2 k).isSome) (i := i) (by show (T.2.2 i).isSome = true; rw [e]; rfl)] at h
             exact h)
          | (rw [hz] at h236
             exact absurd h236 (nI_pos (by omega)))
    · refine aw_iconst (v := nI 1) dX11_counted_239 kc_1 ?_
      refine aw_goto (tgt := 244) dX11_counted_240 rfl ?_
      refine aw_iadd dX11_counted_244 ?_
      rw [nI_add]
      refine aw_istore_n (lo' := [_,_,_,_]) dX11_counted_245 (Nat.le_of_ble_eq_true rfl) rfl ?_
      refine aw_iinc (v := _) (lo' := [_,_,_,_]) dX11_counted_246 rfl (nI_1 i) rfl ?_
      refine aw_goto (tgt := 224) dX11_counted_249 rfl ?_
      have h := ih (i + 1) (by omega)
      cases e : T.2.2 i with
      | none =>
        have hz := hT.2.2.2.2.1 i (by omega) e
        first
          | (rw [cntU_f (p := fun k => (T.2.2 k).isSome) (i := i) (by show (T.2.2 i).isSome = false; rw [e]; rfl)] at h
             exact h)
          | (rw [hz] at h236
             exact absurd (by decide) h236)
      | some K =>
        have hz := (hT.2.2.2.2.2 i (by omega) K e).1
        have hk : K.1 ≤ 40 := (hW.2.2 i (by omega) K e).1.2.1
        first
          | (rw [cntU_t (p := fun k => (T.2.2 k).isSome) (i := i) (by show (T.2.2 i).isSome = true; rw [e]; rfl)] at h
             exact h)
          | (rw [hz] at h236
             exact absurd h236 (nI_pos (by omega)))
theorem lo_k10 {G : GC} {E : SH} {iv : IV} {lv : LV} {M : Nat} {s : TS} {v : TV} (hM : MS G E M) (hs : WS s) (hr : SR M s iv) (hv : VR (M + 12) v iv) (hw : WV s v) : ∀ (c i : Nat), i + c = s.1 → AW G mX11_counted (rm 3 0) (Z0 G 3 E (fun r i0 l => ∃ w, r = some (.int w) ∧ w = nI (cntU (fun i => decide (isK (s.2.1 i) 1)) s.1) ∧ i0 = iv ∧ l = lv)) (fun _ => True) E.1 256 [some (.ref M), some (.int (nI 10)), some (.int (nI (cntU (fun i => decide (isK (s.2.1 i) 1)) i))), some (.int (nI i))] [] E iv lv := by
  have h7 := hs.1
  intro c
  induction c with
  | zero =>
    intro i hi
    have hi : i = s.1 := by omega
    subst hi
    refine aw_iload_n dX11_counted_256 rfl ?_
    refine aw_aload_n dX11_counted_257 rfl ?_
    refine aw_getI dX11_counted_258 fgX11_126 rfl (MS.s0 hM) ?_
    refine aw_icmp_ge (tgt := 301) dX11_counted_261 rfl (fun h261 => ?_) (fun h261 => absurd (by rw [hr.1]; exact nI_le (Nat.le_refl _) (by omega)) h261)
    refine aw_iload_n dX11_counted_301 rfl ?_
    refine aw_iret dX11_counted_302 rfl (rb0 (Nat.zero_le _)) ⟨rfl, _, rfl, rfl, rfl, rfl⟩
  | succ c ih =>
    intro i hi
    have h8 := hs.2 i (by omega)
    refine aw_iload_n dX11_counted_256 rfl ?_
    refine aw_aload_n dX11_counted_257 rfl ?_
    refine aw_getI dX11_counted_258 fgX11_126 rfl (MS.s0 hM) ?_
    refine aw_icmp_ge (tgt := 301) dX11_counted_261 rfl (fun h261 => absurd h261 (by rw [hr.1]; exact nI_ge (by omega) (by omega))) (fun h261 => ?_)
    refine aw_iload_n dX11_counted_264 rfl ?_
    refine aw_aload_n dX11_counted_265 rfl ?_
    refine aw_getR dX11_counted_266 fgX11_39 rfl (MS.s0 hM) (MS.r0_15 hM) ?_
    refine aw_iload_n dX11_counted_269 rfl ?_
    refine aw_iaload dX11_counted_270 (MS.s9 hM) rfl (by omega) ?_
    rw [(hr.2 i (by omega)).1]
    refine aw_iload_n dX11_counted_271 rfl ?_
    refine aw_bipush (v := nI 10) dX11_counted_272 kb_10 ?_
    refine aw_icmp_ne (tgt := 281) dX11_counted_274 rfl (fun h274 => ?_) (fun h274 => ?_)
    · exact absurd (by decide) h274
    · skip
      refine aw_iconst (v := nI 1) dX11_counted_277 kc_1 ?_
      refine aw_goto (tgt := 282) dX11_counted_278 rfl ?_
      refine aw_xSi [_, _] dX11_counted_282 csX11_143 (m_isOf (p := s.2.1 i) (q := 1) h8.1 (by decide)) rfl rfl (Nat.le_of_ble_eq_true rfl) (rb0 (by decide)) ?_
      refine aw_if_eq (tgt := 292) dX11_counted_285 rfl (fun h285 => ?_) (fun h285 => ?_)
      · refine aw_iconst (v := nI 0) dX11_counted_292 kc_0 ?_
        refine aw_iadd dX11_counted_293 ?_
        rw [nI_add]
        refine aw_istore_n (lo' := [_,_,_,_]) dX11_counted_294 (Nat.le_of_ble_eq_true rfl) rfl ?_
        refine aw_iinc (v := _) (lo' := [_,_,_,_]) dX11_counted_295 rfl (nI_1 i) rfl ?_
        refine aw_goto (tgt := 256) dX11_counted_298 rfl ?_
        have h := ih (i + 1) (by omega)
        first
          | (rw [cntU_f (p := fun i => decide (isK (s.2.1 i) 1)) (i := i) (decide_eq_false (zI_0.mp h285))] at h
             exact h)
          | (rw [cntU_t (p := fun i => decide (isK (s.2.1 i) 1)) (i := i) (decide_eq_true (zI_n0.mp h285))] at h
             exact h)
      · refine aw_iconst (v := nI 1) dX11_counted_288 kc_1 ?_
        refine aw_goto (tgt := 293) dX11_counted_289 rfl ?_
        refine aw_iadd dX11_counted_293 ?_
        rw [nI_add]
        refine aw_istore_n (lo' := [_,_,_,_]) dX11_counted_294 (Nat.le_of_ble_eq_true rfl) rfl ?_
        refine aw_iinc (v := _) (lo' := [_,_,_,_]) dX11_counted_295 rfl (nI_1 i) rfl ?_
        refine aw_goto (tgt := 256) dX11_counted_298 rfl ?_
        have h := ih (i + 1) (by omega)
        first
          | (rw [cntU_f (p := fun i => decide (isK (s.2.1 i) 1)) (i := i) (decide_eq_false (zI_0.mp h285))] at h
             exact h)
          | (rw [cntU_t (p := fun i => decide (isK (s.2.1 i) 1)) (i := i) (decide_eq_true (zI_n0.mp h285))] at h
             exact h)
theorem lo_k11 {G : GC} {E : SH} {iv : IV} {lv : LV} {M : Nat} {s : TS} {v : TV} (hM : MS G E M) (hs : WS s) (hr : SR M s iv) (hv : VR (M + 12) v iv) (hw : WV s v) : ∀ (c i : Nat), i + c = s.1 → AW G mX11_counted (rm 3 0) (Z0 G 3 E (fun r i0 l => ∃ w, r = some (.int w) ∧ w = nI (cntU (fun i => decide (isK (s.2.1 i) 2)) s.1) ∧ i0 = iv ∧ l = lv)) (fun _ => True) E.1 256 [some (.ref M), some (.int (nI 11)), some (.int (nI (cntU (fun i => decide (isK (s.2.1 i) 2)) i))), some (.int (nI i))] [] E iv lv := by
  have h7 := hs.1
  intro c
  induction c with
  | zero =>
    intro i hi
    have hi : i = s.1 := by omega
    subst hi
    refine aw_iload_n dX11_counted_256 rfl ?_
    refine aw_aload_n dX11_counted_257 rfl ?_
    refine aw_getI dX11_counted_258 fgX11_126 rfl (MS.s0 hM) ?_
    refine aw_icmp_ge (tgt := 301) dX11_counted_261 rfl (fun h261 => ?_) (fun h261 => absurd (by rw [hr.1]; exact nI_le (Nat.le_refl _) (by omega)) h261)
    refine aw_iload_n dX11_counted_301 rfl ?_
    refine aw_iret dX11_counted_302 rfl (rb0 (Nat.zero_le _)) ⟨rfl, _, rfl, rfl, rfl, rfl⟩
  | succ c ih =>
    intro i hi
    have h8 := hs.2 i (by omega)
    refine aw_iload_n dX11_counted_256 rfl ?_
    refine aw_aload_n dX11_counted_257 rfl ?_
    refine aw_getI dX11_counted_258 fgX11_126 rfl (MS.s0 hM) ?_
    refine aw_icmp_ge (tgt := 301) dX11_counted_261 rfl (fun h261 => absurd h261 (by rw [hr.1]; exact nI_ge (by omega) (by omega))) (fun h261 => ?_)
    refine aw_iload_n dX11_counted_264 rfl ?_
    refine aw_aload_n dX11_counted_265 rfl ?_
    refine aw_getR dX11_counted_266 fgX11_39 rfl (MS.s0 hM) (MS.r0_15 hM) ?_
    refine aw_iload_n dX11_counted_269 rfl ?_
    refine aw_iaload dX11_counted_270 (MS.s9 hM) rfl (by omega) ?_
    rw [(hr.2 i (by omega)).1]
    refine aw_iload_n dX11_counted_271 rfl ?_
    refine aw_bipush (v := nI 10) dX11_counted_272 kb_10 ?_
    refine aw_icmp_ne (tgt := 281) dX11_counted_274 rfl (fun h274 => ?_) (fun h274 => ?_)
    · skip
      refine aw_iconst (v := nI 2) dX11_counted_281 kc_2 ?_
      refine aw_xSi [_, _] dX11_counted_282 csX11_143 (m_isOf (p := s.2.1 i) (q := 2) h8.1 (by decide)) rfl rfl (Nat.le_of_ble_eq_true rfl) (rb0 (by decide)) ?_
      refine aw_if_eq (tgt := 292) dX11_counted_285 rfl (fun h285 => ?_) (fun h285 => ?_)
      · refine aw_iconst (v := nI 0) dX11_counted_292 kc_0 ?_
        refine aw_iadd dX11_counted_293 ?_
        rw [nI_add]
        refine aw_istore_n (lo' := [_,_,_,_]) dX11_counted_294 (Nat.le_of_ble_eq_true rfl) rfl ?_
        refine aw_iinc (v := _) (lo' := [_,_,_,_]) dX11_counted_295 rfl (nI_1 i) rfl ?_
        refine aw_goto (tgt := 256) dX11_counted_298 rfl ?_
        have h := ih (i + 1) (by omega)
        first
          | (rw [cntU_f (p := fun i => decide (isK (s.2.1 i) 2)) (i := i) (decide_eq_false (zI_0.mp h285))] at h
             exact h)
          | (rw [cntU_t (p := fun i => decide (isK (s.2.1 i) 2)) (i := i) (decide_eq_true (zI_n0.mp h285))] at h
             exact h)
      · refine aw_iconst (v := nI 1) dX11_counted_288 kc_1 ?_
        refine aw_goto (tgt := 293) dX11_counted_289 rfl ?_
        refine aw_iadd dX11_counted_293 ?_
        rw [nI_add]
        refine aw_istore_n (lo' := [_,_,_,_]) dX11_counted_294 (Nat.le_of_ble_eq_true rfl) rfl ?_
        refine aw_iinc (v := _) (lo' := [_,_,_,_]) dX11_counted_295 rfl (nI_1 i) rfl ?_
        refine aw_goto (tgt := 256) dX11_counted_298 rfl ?_
        have h := ih (i + 1) (by omega)
        first
          | (rw [cntU_f (p := fun i => decide (isK (s.2.1 i) 2)) (i := i) (decide_eq_false (zI_0.mp h285))] at h
             exact h)
          | (rw [cntU_t (p := fun i => decide (isK (s.2.1 i) 2)) (i := i) (decide_eq_true (zI_n0.mp h285))] at h
             exact h)
    · exact absurd h274 (by decide)
theorem m_cnt {G : GC} {E : SH} {iv : IV} {lv : LV} {M : Nat} (hM : MS G E M) {D : DD} {T : FT} (hD : MD M D iv) (hDW : WD D) (hT : MT M T iv) (hW : WT T) {w : Nat} (hw12 : w < 12) : ExI G mX11_counted 3 [.ref M, .int (nI w)] E iv lv (nI (cnt D T w)) iv lv := by
  obtain ⟨s, ⟨m, lg⟩, kp⟩ := T
  have hs : WS s := hW.1.1
  have hs7 : s.1 ≤ 7 := hs.1
  have hw : WV s (lg m) := nowW hW
  have hd : lg m 0 ≤ 40 := nowD hW
  have hr : SR M s iv := hT.1
  have hv : VR (M + 12) (lg m) iv := hT.2.2.1
  have h20 : iv M 20 = nI m := hT.2.1
  have hm : m ≤ 40 := hW.1.2.1
  refine spec0_of (lo := [_,_,_,_]) (by decide) (Nat.le_of_ble_eq_true rfl) rfl ?_
  refine aw_iconst (v := nI 0) dX11_counted_0 kc_0 ?_
  refine aw_istore_n (lo' := [_,_,_,_]) dX11_counted_1 (Nat.le_of_ble_eq_true rfl) rfl ?_
  refine aw_iload_n dX11_counted_2 rfl ?_
  rcases (show w = 0 ∨ w = 1 ∨ w = 2 ∨ w = 3 ∨ w = 4 ∨ w = 5 ∨ w = 6 ∨ w = 7 ∨ w = 8 ∨ w = 9 ∨ w = 10 ∨ w = 11 from by omega) with rfl | rfl | rfl | rfl | rfl | rfl | rfl | rfl | rfl | rfl | rfl | rfl
  · refine aw_tableIn (off := 53) (tgt := 56) dX11_counted_3 (by decide) (by decide) (by decide) rfl ?_
    refine aw_aload_n dX11_counted_56 rfl ?_
    refine aw_getI dX11_counted_57 fgX11_126 rfl (MS.s0 hM) ?_
    rw [hr.1]
    refine aw_iret dX11_counted_60 rfl (rb0 (Nat.zero_le _)) ⟨rfl, _, rfl, rfl, rfl, rfl⟩
  · refine aw_tableIn (off := 58) (tgt := 61) dX11_counted_3 (by decide) (by decide) (by decide) rfl ?_
    refine aw_aload_n dX11_counted_61 rfl ?_
    refine aw_getR dX11_counted_62 fgX11_48 rfl (MS.s0 hM) (MS.r0_18 hM) ?_
    refine aw_iconst (v := nI 0) dX11_counted_65 kc_0 ?_
    refine aw_iaload dX11_counted_66 (MS.s12 hM) rfl (by decide) ?_
    rw [hv 0 (by decide)]
    refine aw_iret dX11_counted_67 rfl (rb0 (Nat.zero_le _)) ⟨rfl, _, rfl, rfl, rfl, rfl⟩
  · refine aw_tableIn (off := 65) (tgt := 68) dX11_counted_3 (by decide) (by decide) (by decide) rfl ?_
    refine aw_aload_n dX11_counted_68 rfl ?_
    refine aw_getI dX11_counted_69 fgX11_129 rfl (MS.s0 hM) ?_
    rw [h20]
    refine aw_iret dX11_counted_72 rfl (rb0 (Nat.zero_le _)) ⟨rfl, _, rfl, rfl, rfl, rfl⟩
  · refine aw_tableIn (off := 70) (tgt := 73) dX11_counted_3 (by decide) (by decide) (by decide) rfl ?_
    refine aw_aload_n dX11_counted_73 rfl ?_
    refine aw_aload_n dX11_counted_74 rfl ?_
    refine aw_getR dX11_counted_75 fgX11_48 rfl (MS.s0 hM) (MS.r0_18 hM) ?_
    refine aw_xVi [_] dX11_counted_78 cvX11_163 (MS.s0 hM) (m_all hM hs hr (MS.s12 hM) hv hw) rfl rfl (Nat.le_of_ble_eq_true rfl) (rb0 (by decide)) ?_
    refine aw_iret dX11_counted_81 rfl (rb0 (Nat.zero_le _)) ⟨rfl, _, rfl, rfl, rfl, rfl⟩
  · refine aw_tableIn (off := 79) (tgt := 82) dX11_counted_3 (by decide) (by decide) (by decide) rfl ?_
    refine aw_iconst (v := nI 0) dX11_counted_82 kc_0 ?_
    refine aw_istore_n (lo' := [_,_,_,_]) dX11_counted_83 (Nat.le_of_ble_eq_true rfl) rfl ?_
    exact lo_k4 hM hs hr hv hw s.1 0 (by omega)
  · refine aw_tableIn (off := 119) (tgt := 122) dX11_counted_3 (by decide) (by decide) (by decide) rfl ?_
    refine aw_aload_n dX11_counted_122 rfl ?_
    refine aw_aload_n dX11_counted_123 rfl ?_
    refine aw_getR dX11_counted_124 fgX11_48 rfl (MS.s0 hM) (MS.r0_18 hM) ?_
    refine aw_xVi [_] dX11_counted_127 cvX11_199 (MS.s0 hM) (m_calm hM hs hr (MS.s12 hM) hv hw) rfl rfl (Nat.le_of_ble_eq_true rfl) (rb0 (by decide)) ?_
    refine aw_iret dX11_counted_130 rfl (rb0 (Nat.zero_le _)) ⟨rfl, _, rfl, rfl, rfl, rfl⟩
  · refine aw_tableIn (off := 128) (tgt := 131) dX11_counted_3 (by decide) (by decide) (by decide) rfl ?_
    refine aw_iconst (v := nI 0) dX11_counted_131 kc_0 ?_
    refine aw_istore_n (lo' := [_,_,_,_]) dX11_counted_132 (Nat.le_of_ble_eq_true rfl) rfl ?_
    exact lo_k6 hM hs hr hv hw 5 0 (by omega)
  · refine aw_tableIn (off := 154) (tgt := 157) dX11_counted_3 (by decide) (by decide) (by decide) rfl ?_
    refine aw_iconst (v := nI 0) dX11_counted_157 kc_0 ?_
    refine aw_istore_n (lo' := [_,_,_,_]) dX11_counted_158 (Nat.le_of_ble_eq_true rfl) rfl ?_
    exact lo_k7 hM hs hr hv hw hD hDW 6 0 (by omega)
  · refine aw_tableIn (off := 187) (tgt := 190) dX11_counted_3 (by decide) (by decide) (by decide) rfl ?_
    refine aw_iconst (v := nI 0) dX11_counted_190 kc_0 ?_
    refine aw_istore_n (lo' := [_,_,_,_]) dX11_counted_191 (Nat.le_of_ble_eq_true rfl) rfl ?_
    exact lo_k8 hM hs hr hv hw hD hDW 4 0 (by omega)
  · refine aw_tableIn (off := 219) (tgt := 222) dX11_counted_3 (by decide) (by decide) (by decide) rfl ?_
    refine aw_iconst (v := nI 0) dX11_counted_222 kc_0 ?_
    refine aw_istore_n (lo' := [_,_,_,_]) dX11_counted_223 (Nat.le_of_ble_eq_true rfl) rfl ?_
    exact lo_k9 hM hs hT hW 3 0 (by omega)
  · refine aw_tableOut (tgt := 254) dX11_counted_3 (by decide) rfl ?_
    refine aw_iconst (v := nI 0) dX11_counted_254 kc_0 ?_
    refine aw_istore_n (lo' := [_,_,_,_]) dX11_counted_255 (Nat.le_of_ble_eq_true rfl) rfl ?_
    first
      | exact lo_k10 hM hs hr hv hw s.1 0 (by omega)
      | exact lo_k11 hM hs hr hv hw s.1 0 (by omega)
  · refine aw_tableOut (tgt := 254) dX11_counted_3 (by decide) rfl ?_
    refine aw_iconst (v := nI 0) dX11_counted_254 kc_0 ?_
    refine aw_istore_n (lo' := [_,_,_,_]) dX11_counted_255 (Nat.le_of_ble_eq_true rfl) rfl ?_
    first
      | exact lo_k10 hM hs hr hv hw s.1 0 (by omega)
      | exact lo_k11 hM hs hr hv hw s.1 0 (by omega)
theorem m_count {G : GC} {E : SH} {iv : IV} {lv : LV} {M : Nat} (hM : MS G E M) {D : DD} {T : FT} (hD : MD M D iv) (hDW : WD D) (hT : MT M T iv) (hW : WT T) {w : Nat} (hw12 : w < 12) : ExI G mX11_count 4 [.ref M, .int (nI w)] E iv lv (nI (cnt D T w)) iv lv := by
  refine spec0_of (lo := [_,_]) (by decide) (Nat.le_of_ble_eq_true rfl) rfl ?_
  refine aw_iload_n dX11_count_0 rfl ?_
  refine aw_iconst (v := nI 0) dX11_count_1 kc_0 ?_
  refine aw_bipush (v := nI 11) dX11_count_2 kb_11 ?_
  refine aw_xSi [_, _, _] dX11_count_4 csX11_76 (m_in (nI w) (nI 0) (nI 11)) rfl rfl (Nat.le_of_ble_eq_true rfl) (rb0 (by decide)) ?_
  refine aw_if_eq (tgt := 18) dX11_count_7 rfl (fun h7 => ?_) (fun h7 => ?_)
  · exact absurd ⟨nI_le (Nat.zero_le _) (by omega), nI_le (by omega) (by decide)⟩ (zI_0.mp h7)
  · refine aw_aload_n dX11_count_10 rfl ?_
    refine aw_iload_n dX11_count_11 rfl ?_
    refine aw_xVi [_] dX11_count_12 cvX11_258 (MS.s0 hM) (m_cnt hM hD hDW hT hW hw12) rfl rfl (Nat.le_of_ble_eq_true rfl) (rb0 (by decide)) ?_
    refine aw_goto (tgt := 19) dX11_count_15 rfl ?_
    refine aw_iret dX11_count_19 rfl (rb0 (Nat.zero_le _)) ⟨rfl, _, rfl, rfl, rfl, rfl⟩
theorem m_countB {G : GC} {E : SH} {iv : IV} {lv : LV} {M : Nat} (w : Int32) (hb : bad w 12) : ExI G mX11_count 4 [.ref M, .int w] E iv lv (-1) iv lv := by
  refine spec0_of (lo := [_,_]) (by decide) (Nat.le_of_ble_eq_true rfl) rfl ?_
  refine aw_iload_n dX11_count_0 rfl ?_
  refine aw_iconst (v := nI 0) dX11_count_1 kc_0 ?_
  refine aw_bipush (v := nI 11) dX11_count_2 kb_11 ?_
  refine aw_xSi [_, _, _] dX11_count_4 csX11_76 (m_in w (nI 0) (nI 11)) rfl rfl (Nat.le_of_ble_eq_true rfl) (rb0 (by decide)) ?_
  rw [zI_e (in_iff (k := 11) (by decide))]
  refine aw_if_eq (tgt := 18) dX11_count_7 rfl (fun h7 => ?_) (fun h7 => ?_)
  · refine aw_iconst (v := (-1)) dX11_count_18 kc_m1 ?_
    refine aw_iret dX11_count_19 rfl (rb0 (Nat.zero_le _)) ⟨rfl, _, rfl, rfl, rfl, rfl⟩
  · exact absurd (zI_n0.mp h7) hb
/-! the digest: the reference -/
def LL (M : Nat) (lv l : LV) (h : Int64) : Prop := l M 28 = h ∧ (∀ b, b ≠ M → l b = lv b) ∧ ∀ j, j ≠ 28 → l M j = lv M j
theorem LL_s {M : Nat} {lv l : LV} {h z : Int64} (hl : LL M lv l h) : LL M lv (va_up l M (vp_updL (l M) 28 (31 * l M 28 + z))) (31 * h + z) := by
  refine ⟨?_, fun b hb => ?_, fun j hj => ?_⟩
  · rw [va_up_s, pk_uLs, hl.1]
  · rw [va_up_n hb]; exact hl.2.1 b hb
  · rw [va_up_s, pk_uLn hj]; exact hl.2.2 j hj
theorem m_adds {G : GC} {E : SH} {iv : IV} {lv : LV} {M : Nat} (hM : MS G E M) (z : Int64) : ExV G mX11_adds 1 [.ref M, .long z] E iv lv iv (va_up lv M (vp_updL (lv M) 28 (31 * lv M 28 + z))) := by
  refine spec0_of (lo := [_,_,_]) (by decide) (Nat.le_of_ble_eq_true rfl) rfl ?_
  refine aw_aload_n dX11_adds_0 rfl ?_
  refine aw_ldc2 dX11_adds_1 klX11_261 ?_
  refine aw_aload_n dX11_adds_4 rfl ?_
  refine aw_getL dX11_adds_5 fgX11_263 rfl (MS.s0 hM) ?_
  refine aw_lmul dX11_adds_8 ?_
  refine aw_lload_n dX11_adds_9 rfl ?_
  refine aw_ladd dX11_adds_10 ?_
  refine aw_putL dX11_adds_11 fpX11_263 rfl (MS.s0 hM) ?_
  refine aw_vret dX11_adds_14 rfl (rb0 (Nat.zero_le _)) ⟨rfl, rfl, rfl, rfl⟩
theorem lo_e1 {G : GC} {E : SH} {iv : IV} {lv : LV} {M : Nat} (hM : MS G E M) {D : DD} {s : TS} {m : Nat} {lg : Nat → TV} {kp : Nat → Option KL} (hD : MD M D iv) (hDW : WD D) (hT : MT M (s, (m, lg), kp) iv) (hW : WT (s, (m, lg), kp)) {Zz : List Frame → Array Value → State → State → Prop} (h : Int64) : (∀ l j2, LL M lv l (digs (fun w => nI (cnt D (s, (m, lg), kp) w)) h 12) → AW G mX11_digest (rm 4 0) Zz (fun _ => True) E.1 31 [some (.ref M), some (.int (nI 12)), j2] [] E iv l) → ∀ (c i : Nat) (l : LV) (j2 : Option Value), i + c = 12 → LL M lv l (digs (fun w => nI (cnt D (s, (m, lg), kp) w)) h i) → AW G mX11_digest (rm 4 0) Zz (fun _ => True) E.1 9 [some (.ref M), some (.int (nI i)), j2] [] E iv l := by
  have hs : WS s := hW.1.1
  have hs7 : s.1 ≤ 7 := hs.1
  have hw : WV s (lg m) := nowW hW
  have hd : lg m 0 ≤ 40 := nowD hW
  have hr : SR M s iv := hT.1
  have hv : VR (M + 12) (lg m) iv := hT.2.2.1
  have h20 : iv M 20 = nI m := hT.2.1
  have hm : m ≤ 40 := hW.1.2.1
  intro hK c
  induction c with
  | zero =>
    intro i l j2 hi hl
    have hi : i = 12 := by omega
    subst hi
    refine aw_iload_n dX11_digest_9 rfl ?_
    refine aw_bipush (v := nI 12) dX11_digest_10 kb_12 ?_
    refine aw_icmp_ge (tgt := 31) dX11_digest_12 rfl (fun h12 => ?_) (fun h12 => absurd (nI_le (Nat.le_refl _) (by decide)) h12)
    exact hK l j2 hl
  | succ c ih =>
    intro i l j2 hi hl
    refine aw_iload_n dX11_digest_9 rfl ?_
    refine aw_bipush (v := nI 12) dX11_digest_10 kb_12 ?_
    refine aw_icmp_ge (tgt := 31) dX11_digest_12 rfl (fun h12 => absurd h12 (nI_ge (by omega) (by decide))) (fun h12 => ?_)
    refine aw_aload_n dX11_digest_15 rfl ?_
    refine aw_aload_n dX11_digest_16 rfl ?_
    refine aw_iload_n dX11_digest_17 rfl ?_
    refine aw_xVi [_] dX11_digest_18 cvX11_258 (MS.s0 hM) (m_cnt hM hD hDW hT hW (w := i) (by omega)) rfl rfl (Nat.le_of_ble_eq_true rfl) (rb0 (by decide)) ?_
    refine aw_i2l dX11_digest_21 ?_
    refine aw_xVv [_] dX11_digest_22 cvX11_268 (MS.s0 hM) (m_adds hM _) rfl rfl (Nat.le_of_ble_eq_true rfl) (rb0 (by decide)) ?_
    refine aw_iinc (v := _) (lo' := [_,_,_]) dX11_digest_25 rfl (nI_1 i) rfl ?_
    refine aw_goto (tgt := 9) dX11_digest_28 rfl ?_
    exact ih (i + 1) _ j2 (by omega) (LL_s hl)
theorem lo_e2a {G : GC} {E : SH} {iv : IV} {lv : LV} {M : Nat} (hM : MS G E M) {D : DD} {s : TS} {m : Nat} {lg : Nat → TV} {kp : Nat → Option KL} (hD : MD M D iv) (hDW : WD D) (hT : MT M (s, (m, lg), kp) iv) (hW : WT (s, (m, lg), kp)) {Zz : List Frame → Array Value → State → State → Prop} (h : Int64) {i : Nat} (hi : i < s.1) : (∀ l, LL M lv l (digs (fact s (lg m) i) h 7) → AW G mX11_digest (rm 4 0) Zz (fun _ => True) E.1 66 [some (.ref M), some (.int (nI i)), some (.int (nI 7))] [] E iv l) → ∀ (c w : Nat) (l : LV), w + c = 7 → LL M lv l (digs (fact s (lg m) i) h w) → AW G mX11_digest (rm 4 0) Zz (fun _ => True) E.1 43 [some (.ref M), some (.int (nI i)), some (.int (nI w))] [] E iv l := by
  have hs : WS s := hW.1.1
  have hs7 : s.1 ≤ 7 := hs.1
  have hw : WV s (lg m) := nowW hW
  have hd : lg m 0 ≤ 40 := nowD hW
  have hr : SR M s iv := hT.1
  have hv : VR (M + 12) (lg m) iv := hT.2.2.1
  have h20 : iv M 20 = nI m := hT.2.1
  have hm : m ≤ 40 := hW.1.2.1
  intro hK c
  induction c with
  | zero =>
    intro w l hw2 hl
    have hw2 : w = 7 := by omega
    subst hw2
    refine aw_iload_n dX11_digest_43 rfl ?_
    refine aw_bipush (v := nI 6) dX11_digest_44 kb_6 ?_
    refine aw_icmp_gt (tgt := 66) dX11_digest_46 rfl (fun h46 => ?_) (fun h46 => absurd (by decide) h46)
    exact hK l hl
  | succ c ih =>
    intro w l hw2 hl
    refine aw_iload_n dX11_digest_43 rfl ?_
    refine aw_bipush (v := nI 6) dX11_digest_44 kb_6 ?_
    refine aw_icmp_gt (tgt := 66) dX11_digest_46 rfl (fun h46 => absurd h46 (nI_nlt (by omega) (by decide))) (fun h46 => ?_)
    refine aw_aload_n dX11_digest_49 rfl ?_
    refine aw_aload_n dX11_digest_50 rfl ?_
    refine aw_iload_n dX11_digest_51 rfl ?_
    refine aw_iload_n dX11_digest_52 rfl ?_
    refine aw_xVi [_, _] dX11_digest_53 cvX11_170 (MS.s0 hM) (m_personTells hM hs hr hv hw (i := i) (w := w) hi (by omega)) rfl rfl (Nat.le_of_ble_eq_true rfl) (rb0 (by decide)) ?_
    refine aw_i2l dX11_digest_56 ?_
    refine aw_xVv [_] dX11_digest_57 cvX11_268 (MS.s0 hM) (m_adds hM _) rfl rfl (Nat.le_of_ble_eq_true rfl) (rb0 (by decide)) ?_
    refine aw_iinc (v := _) (lo' := [_,_,_]) dX11_digest_60 rfl (nI_1 w) rfl ?_
    refine aw_goto (tgt := 43) dX11_digest_63 rfl ?_
    exact ih (w + 1) _ (by omega) (LL_s hl)
theorem lo_e2 {G : GC} {E : SH} {iv : IV} {lv : LV} {M : Nat} (hM : MS G E M) {D : DD} {s : TS} {m : Nat} {lg : Nat → TV} {kp : Nat → Option KL} (hD : MD M D iv) (hDW : WD D) (hT : MT M (s, (m, lg), kp) iv) (hW : WT (s, (m, lg), kp)) {Zz : List Frame → Array Value → State → State → Prop} (h : Int64) : (∀ l j2, LL M lv l (dgP s (lg m) h (s.1)) → AW G mX11_digest (rm 4 0) Zz (fun _ => True) E.1 72 [some (.ref M), some (.int (nI s.1)), j2] [] E iv l) → ∀ (c i : Nat) (l : LV) (j2 : Option Value), i + c = s.1 → LL M lv l (dgP s (lg m) h (i)) → AW G mX11_digest (rm 4 0) Zz (fun _ => True) E.1 33 [some (.ref M), some (.int (nI i)), j2] [] E iv l := by
  have hs : WS s := hW.1.1
  have hs7 : s.1 ≤ 7 := hs.1
  have hw : WV s (lg m) := nowW hW
  have hd : lg m 0 ≤ 40 := nowD hW
  have hr : SR M s iv := hT.1
  have hv : VR (M + 12) (lg m) iv := hT.2.2.1
  have h20 : iv M 20 = nI m := hT.2.1
  have hm : m ≤ 40 := hW.1.2.1
  intro hK c
  induction c with
  | zero =>
    intro i l j2 hi hl
    have hi : i = s.1 := by omega
    subst hi
    refine aw_iload_n dX11_digest_33 rfl ?_
    refine aw_aload_n dX11_digest_34 rfl ?_
    refine aw_getI dX11_digest_35 fgX11_126 rfl (MS.s0 hM) ?_
    refine aw_icmp_ge (tgt := 72) dX11_digest_38 rfl (fun h38 => ?_) (fun h38 => absurd (by rw [hr.1]; exact nI_le (Nat.le_refl _) (by omega)) h38)
    exact hK l j2 hl
  | succ c ih =>
    intro i l j2 hi hl
    refine aw_iload_n dX11_digest_33 rfl ?_
    refine aw_aload_n dX11_digest_34 rfl ?_
    refine aw_getI dX11_digest_35 fgX11_126 rfl (MS.s0 hM) ?_
    refine aw_icmp_ge (tgt := 72) dX11_digest_38 rfl (fun h38 => absurd h38 (by rw [hr.1]; exact nI_ge (by omega) (by omega))) (fun h38 => ?_)
    refine aw_iconst (v := nI 0) dX11_digest_41 kc_0 ?_
    refine aw_istore_n (lo' := [_,_,_]) dX11_digest_42 (Nat.le_of_ble_eq_true rfl) rfl ?_
    refine lo_e2a hM hD hDW hT hW (dgP s (lg m) h i) (i := i) (by omega) (fun l2 hl2 => ?_) 7 0 l (by omega) hl
    refine aw_iinc (v := _) (lo' := [_,_,_]) dX11_digest_66 rfl (nI_1 i) rfl ?_
    refine aw_goto (tgt := 33) dX11_digest_69 rfl ?_
    exact ih (i + 1) _ _ (by omega) hl2
theorem lo_e3 {G : GC} {E : SH} {iv : IV} {lv : LV} {M : Nat} (hM : MS G E M) {D : DD} {s : TS} {m : Nat} {lg : Nat → TV} {kp : Nat → Option KL} (hD : MD M D iv) (hDW : WD D) (hT : MT M (s, (m, lg), kp) iv) (hW : WT (s, (m, lg), kp)) {Zz : List Frame → Array Value → State → State → Prop} (h : Int64) : (∀ l j2, LL M lv l (digs (fun c => nI (lg m (1 + c))) h 5) → AW G mX11_digest (rm 4 0) Zz (fun _ => True) E.1 98 [some (.ref M), some (.int (nI 5)), j2] [] E iv l) → ∀ (c i : Nat) (l : LV) (j2 : Option Value), i + c = 5 → LL M lv l (digs (fun c => nI (lg m (1 + c))) h i) → AW G mX11_digest (rm 4 0) Zz (fun _ => True) E.1 74 [some (.ref M), some (.int (nI i)), j2] [] E iv l := by
  have hs : WS s := hW.1.1
  have hs7 : s.1 ≤ 7 := hs.1
  have hw : WV s (lg m) := nowW hW
  have hd : lg m 0 ≤ 40 := nowD hW
  have hr : SR M s iv := hT.1
  have hv : VR (M + 12) (lg m) iv := hT.2.2.1
  have h20 : iv M 20 = nI m := hT.2.1
  have hm : m ≤ 40 := hW.1.2.1
  intro hK c
  induction c with
  | zero =>
    intro i l j2 hi hl
    have hi : i = 5 := by omega
    subst hi
    refine aw_iload_n dX11_digest_74 rfl ?_
    refine aw_iconst (v := nI 5) dX11_digest_75 kc_5 ?_
    refine aw_icmp_ge (tgt := 98) dX11_digest_76 rfl (fun h76 => ?_) (fun h76 => absurd (nI_le (Nat.le_refl _) (by decide)) h76)
    exact hK l j2 hl
  | succ c ih =>
    intro i l j2 hi hl
    refine aw_iload_n dX11_digest_74 rfl ?_
    refine aw_iconst (v := nI 5) dX11_digest_75 kc_5 ?_
    refine aw_icmp_ge (tgt := 98) dX11_digest_76 rfl (fun h76 => absurd h76 (nI_ge (by omega) (by decide))) (fun h76 => ?_)
    refine aw_aload_n dX11_digest_79 rfl ?_
    refine aw_aload_n dX11_digest_80 rfl ?_
    refine aw_getR dX11_digest_81 fgX11_48 rfl (MS.s0 hM) (MS.r0_18 hM) ?_
    refine aw_iconst (v := nI 1) dX11_digest_84 kc_1 ?_
    refine aw_iload_n dX11_digest_85 rfl ?_
    refine aw_iadd dX11_digest_86 ?_
    rw [nI_add]
    refine aw_iaload dX11_digest_87 (MS.s12 hM) rfl (by omega) ?_
    rw [hv (1 + i) (by omega)]
    refine aw_i2l dX11_digest_88 ?_
    refine aw_xVv [_] dX11_digest_89 cvX11_268 (MS.s0 hM) (m_adds hM _) rfl rfl (Nat.le_of_ble_eq_true rfl) (rb0 (by decide)) ?_
    refine aw_iinc (v := _) (lo' := [_,_,_]) dX11_digest_92 rfl (nI_1 i) rfl ?_
    refine aw_goto (tgt := 74) dX11_digest_95 rfl ?_
    exact ih (i + 1) _ j2 (by omega) (LL_s hl)
theorem lo_e4 {G : GC} {E : SH} {iv : IV} {lv : LV} {M : Nat} (hM : MS G E M) {D : DD} {s : TS} {m : Nat} {lg : Nat → TV} {kp : Nat → Option KL} (hD : MD M D iv) (hDW : WD D) (hT : MT M (s, (m, lg), kp) iv) (hW : WT (s, (m, lg), kp)) {Zz : List Frame → Array Value → State → State → Prop} (h : Int64) : (∀ l j2, LL M lv l (digs (fun k => kpv (kp k)) h 3) → AW G mX11_digest (rm 4 0) Zz (fun _ => True) E.1 122 [some (.ref M), some (.int (nI 3)), j2] [] E iv l) → ∀ (c i : Nat) (l : LV) (j2 : Option Value), i + c = 3 → LL M lv l (digs (fun k => kpv (kp k)) h i) → AW G mX11_digest (rm 4 0) Zz (fun _ => True) E.1 100 [some (.ref M), some (.int (nI i)), j2] [] E iv l := by
  have hs : WS s := hW.1.1
  have hs7 : s.1 ≤ 7 := hs.1
  have hw : WV s (lg m) := nowW hW
  have hd : lg m 0 ≤ 40 := nowD hW
  have hr : SR M s iv := hT.1
  have hv : VR (M + 12) (lg m) iv := hT.2.2.1
  have h20 : iv M 20 = nI m := hT.2.1
  have hm : m ≤ 40 := hW.1.2.1
  intro hK c
  induction c with
  | zero =>
    intro i l j2 hi hl
    have hi : i = 3 := by omega
    subst hi
    refine aw_iload_n dX11_digest_100 rfl ?_
    refine aw_iconst (v := nI 3) dX11_digest_101 kc_3 ?_
    refine aw_icmp_ge (tgt := 122) dX11_digest_102 rfl (fun h102 => ?_) (fun h102 => absurd (nI_le (Nat.le_refl _) (by decide)) h102)
    exact hK l j2 hl
  | succ c ih =>
    intro i l j2 hi hl
    have hkv : iv (M + 15) i = kpv (kp i) := by
      cases e : kp i with
      | none => exact hT.2.2.2.2.1 i (by omega) e
      | some K => exact (hT.2.2.2.2.2 i (by omega) K e).1
    refine aw_iload_n dX11_digest_100 rfl ?_
    refine aw_iconst (v := nI 3) dX11_digest_101 kc_3 ?_
    refine aw_icmp_ge (tgt := 122) dX11_digest_102 rfl (fun h102 => absurd h102 (nI_ge (by omega) (by decide))) (fun h102 => ?_)
    refine aw_aload_n dX11_digest_105 rfl ?_
    refine aw_aload_n dX11_digest_106 rfl ?_
    refine aw_getR dX11_digest_107 fgX11_57 rfl (MS.s0 hM) (MS.r0_22 hM) ?_
    refine aw_iload_n dX11_digest_110 rfl ?_
    refine aw_iaload dX11_digest_111 (MS.s15 hM) rfl (by omega) ?_
    rw [hkv]
    refine aw_i2l dX11_digest_112 ?_
    refine aw_xVv [_] dX11_digest_113 cvX11_268 (MS.s0 hM) (m_adds hM _) rfl rfl (Nat.le_of_ble_eq_true rfl) (rb0 (by decide)) ?_
    refine aw_iinc (v := _) (lo' := [_,_,_]) dX11_digest_116 rfl (nI_1 i) rfl ?_
    refine aw_goto (tgt := 100) dX11_digest_119 rfl ?_
    exact ih (i + 1) _ j2 (by omega) (LL_s hl)
theorem lo_e5a {G : GC} {E : SH} {iv : IV} {lv : LV} {M : Nat} (hM : MS G E M) {D : DD} {s : TS} {m : Nat} {lg : Nat → TV} {kp : Nat → Option KL} (hD : MD M D iv) (hDW : WD D) (hT : MT M (s, (m, lg), kp) iv) (hW : WT (s, (m, lg), kp)) {Zz : List Frame → Array Value → State → State → Prop} (h : Int64) {i k : Nat} {g : Nat → Int32} (hi : i < 6) (hk : k ≤ 40) (hz : iv (M + 2) i = nI k) (hg : ∀ q, q < k → iv (M + 3) (40 * i + q) = g q) : (∀ l, LL M lv l (digs g h k) → AW G mX11_digest (rm 4 0) Zz (fun _ => True) E.1 170 [some (.ref M), some (.int (nI i)), some (.int (nI k))] [] E iv l) → ∀ (c q : Nat) (l : LV), q + c = k → LL M lv l (digs g h q) → AW G mX11_digest (rm 4 0) Zz (fun _ => True) E.1 143 [some (.ref M), some (.int (nI i)), some (.int (nI q))] [] E iv l := by
  intro hK c
  induction c with
  | zero =>
    intro q l hq hl
    have hq : q = k := by omega
    subst hq
    refine aw_iload_n dX11_digest_143 rfl ?_
    refine aw_aload_n dX11_digest_144 rfl ?_
    refine aw_getR dX11_digest_145 fgX11_17 rfl (MS.s0 hM) (MS.r0_5 hM) ?_
    refine aw_iload_n dX11_digest_148 rfl ?_
    refine aw_iaload dX11_digest_149 (MS.s2 hM) rfl (by omega) ?_
    rw [hz]
    refine aw_icmp_ge (tgt := 170) dX11_digest_150 rfl (fun h150 => ?_) (fun h150 => absurd (nI_le (Nat.le_refl _) (by omega)) h150)
    exact hK l hl
  | succ c ih =>
    intro q l hq hl
    refine aw_iload_n dX11_digest_143 rfl ?_
    refine aw_aload_n dX11_digest_144 rfl ?_
    refine aw_getR dX11_digest_145 fgX11_17 rfl (MS.s0 hM) (MS.r0_5 hM) ?_
    refine aw_iload_n dX11_digest_148 rfl ?_
    refine aw_iaload dX11_digest_149 (MS.s2 hM) rfl (by omega) ?_
    rw [hz]
    refine aw_icmp_ge (tgt := 170) dX11_digest_150 rfl (fun h150 => absurd h150 (nI_ge (by omega) (by omega))) (fun h150 => ?_)
    refine aw_aload_n dX11_digest_153 rfl ?_
    refine aw_aload_n dX11_digest_154 rfl ?_
    refine aw_iload_n dX11_digest_155 rfl ?_
    refine aw_iload_n dX11_digest_156 rfl ?_
    refine aw_xVi [_, _] dX11_digest_157 cvX11_88 (MS.s0 hM) (m_rowAt hM (a := i) (p := q) (by omega)) rfl rfl (Nat.le_of_ble_eq_true rfl) (rb0 (by decide)) ?_
    rw [hg q (by omega)]
    refine aw_i2l dX11_digest_160 ?_
    refine aw_xVv [_] dX11_digest_161 cvX11_268 (MS.s0 hM) (m_adds hM _) rfl rfl (Nat.le_of_ble_eq_true rfl) (rb0 (by decide)) ?_
    refine aw_iinc (v := _) (lo' := [_,_,_]) dX11_digest_164 rfl (nI_1 q) rfl ?_
    refine aw_goto (tgt := 143) dX11_digest_167 rfl ?_
    exact ih (q + 1) _ (by omega) (LL_s hl)
theorem lo_e5 {G : GC} {E : SH} {iv : IV} {lv : LV} {M : Nat} (hM : MS G E M) {D : DD} {s : TS} {m : Nat} {lg : Nat → TV} {kp : Nat → Option KL} (hD : MD M D iv) (hDW : WD D) (hT : MT M (s, (m, lg), kp) iv) (hW : WT (s, (m, lg), kp)) {Zz : List Frame → Array Value → State → State → Prop} (h : Int64) : (∀ l j2, LL M lv l (dgS D.1 D.2.1 h (6)) → AW G mX11_digest (rm 4 0) Zz (fun _ => True) E.1 176 [some (.ref M), some (.int (nI 6)), j2] [] E iv l) → ∀ (c i : Nat) (l : LV) (j2 : Option Value), i + c = 6 → LL M lv l (dgS D.1 D.2.1 h (i)) → AW G mX11_digest (rm 4 0) Zz (fun _ => True) E.1 124 [some (.ref M), some (.int (nI i)), j2] [] E iv l := by
  have hs : WS s := hW.1.1
  have hs7 : s.1 ≤ 7 := hs.1
  have hw : WV s (lg m) := nowW hW
  have hd : lg m 0 ≤ 40 := nowD hW
  have hr : SR M s iv := hT.1
  have hv : VR (M + 12) (lg m) iv := hT.2.2.1
  have h20 : iv M 20 = nI m := hT.2.1
  have hm : m ≤ 40 := hW.1.2.1
  intro hK c
  induction c with
  | zero =>
    intro i l j2 hi hl
    have hi : i = 6 := by omega
    subst hi
    refine aw_iload_n dX11_digest_124 rfl ?_
    refine aw_bipush (v := nI 6) dX11_digest_125 kb_6 ?_
    refine aw_icmp_ge (tgt := 176) dX11_digest_127 rfl (fun h127 => ?_) (fun h127 => absurd (nI_le (Nat.le_refl _) (by decide)) h127)
    exact hK l j2 hl
  | succ c ih =>
    intro i l j2 hi hl
    refine aw_iload_n dX11_digest_124 rfl ?_
    refine aw_bipush (v := nI 6) dX11_digest_125 kb_6 ?_
    refine aw_icmp_ge (tgt := 176) dX11_digest_127 rfl (fun h127 => absurd h127 (nI_ge (by omega) (by decide))) (fun h127 => ?_)
    refine aw_aload_n dX11_digest_130 rfl ?_
    refine aw_aload_n dX11_digest_131 rfl ?_
    refine aw_getR dX11_digest_132 fgX11_17 rfl (MS.s0 hM) (MS.r0_5 hM) ?_
    refine aw_iload_n dX11_digest_135 rfl ?_
    refine aw_iaload dX11_digest_136 (MS.s2 hM) rfl (by omega) ?_
    rw [hD.1 i (by omega)]
    refine aw_i2l dX11_digest_137 ?_
    refine aw_xVv [_] dX11_digest_138 cvX11_268 (MS.s0 hM) (m_adds hM _) rfl rfl (Nat.le_of_ble_eq_true rfl) (rb0 (by decide)) ?_
    refine aw_iconst (v := nI 0) dX11_digest_141 kc_0 ?_
    refine aw_istore_n (lo' := [_,_,_]) dX11_digest_142 (Nat.le_of_ble_eq_true rfl) rfl ?_
    have hl1 := LL_s (z := (szv (D.1 i)).toInt64) hl
    generalize va_up l M (vp_updL (l M) 28 (31 * l M 28 + (szv (D.1 i)).toInt64)) = l1 at hl1 ⊢
    have hz := hD.1 i (by omega)
    have hst : dgS D.1 D.2.1 h (i + 1) = digs (D.2.1 i) (31 * dgS D.1 D.2.1 h i + (szv (D.1 i)).toInt64) ((D.1 i).getD 0) := rfl
    cases e : D.1 i with
    | none =>
      rw [e] at hz hst hl1
      have hl2 : LL M lv l1 (dgS D.1 D.2.1 h (i + 1)) := by rw [hst]; exact hl1
      refine aw_iload_n dX11_digest_143 rfl ?_
      refine aw_aload_n dX11_digest_144 rfl ?_
      refine aw_getR dX11_digest_145 fgX11_17 rfl (MS.s0 hM) (MS.r0_5 hM) ?_
      refine aw_iload_n dX11_digest_148 rfl ?_
      refine aw_iaload dX11_digest_149 (MS.s2 hM) rfl (by omega) ?_
      rw [hz]
      refine aw_icmp_ge (tgt := 170) dX11_digest_150 rfl (fun h150 => ?_) (fun h150 => absurd (by decide) h150)
      refine aw_iinc (v := _) (lo' := [_,_,_]) dX11_digest_170 rfl (nI_1 i) rfl ?_
      refine aw_goto (tgt := 124) dX11_digest_173 rfl ?_
      exact ih (i + 1) _ _ (by omega) hl2
    | some k =>
      have hk := hDW.1 i (by omega) k e
      rw [e] at hz hst hl1
      refine lo_e5a hM hD hDW hT hW _ (i := i) (k := k) (g := D.2.1 i) (by omega) (by omega) hz (fun q hq => hD.2.1 i q (by omega) (by omega)) (fun l2 hl3 => ?_) k 0 l1 (by omega) hl1
      have hl2 : LL M lv l2 (dgS D.1 D.2.1 h (i + 1)) := by rw [hst]; exact hl3
      refine aw_iinc (v := _) (lo' := [_,_,_]) dX11_digest_170 rfl (nI_1 i) rfl ?_
      refine aw_goto (tgt := 124) dX11_digest_173 rfl ?_
      exact ih (i + 1) _ _ (by omega) hl2
theorem lo_e6a {G : GC} {E : SH} {iv : IV} {lv : LV} {M : Nat} (hM : MS G E M) {D : DD} {s : TS} {m : Nat} {lg : Nat → TV} {kp : Nat → Option KL} (hD : MD M D iv) (hDW : WD D) (hT : MT M (s, (m, lg), kp) iv) (hW : WT (s, (m, lg), kp)) {Zz : List Frame → Array Value → State → State → Prop} (h : Int64) {i k : Nat} {g : Nat → Int32} (hi : i < 4) (hk : k ≤ 60) (hz : iv (M + 5) i = nI k) (hg : ∀ q, q < k → iv (M + 6) (60 * i + q) = g q) : (∀ l, LL M lv l (digs g h k) → AW G mX11_digest (rm 4 0) Zz (fun _ => True) E.1 228 [some (.ref M), some (.int (nI i)), some (.int (nI k))] [] E iv l) → ∀ (c q : Nat) (l : LV), q + c = k → LL M lv l (digs g h q) → AW G mX11_digest (rm 4 0) Zz (fun _ => True) E.1 196 [some (.ref M), some (.int (nI i)), some (.int (nI q))] [] E iv l := by
  intro hK c
  induction c with
  | zero =>
    intro q l hq hl
    have hq : q = k := by omega
    subst hq
    refine aw_iload_n dX11_digest_196 rfl ?_
    refine aw_aload_n dX11_digest_197 rfl ?_
    refine aw_getR dX11_digest_198 fgX11_26 rfl (MS.s0 hM) (MS.r0_8 hM) ?_
    refine aw_iload_n dX11_digest_201 rfl ?_
    refine aw_iaload dX11_digest_202 (MS.s5 hM) rfl (by omega) ?_
    rw [hz]
    refine aw_icmp_ge (tgt := 228) dX11_digest_203 rfl (fun h203 => ?_) (fun h203 => absurd (nI_le (Nat.le_refl _) (by omega)) h203)
    exact hK l hl
  | succ c ih =>
    intro q l hq hl
    refine aw_iload_n dX11_digest_196 rfl ?_
    refine aw_aload_n dX11_digest_197 rfl ?_
    refine aw_getR dX11_digest_198 fgX11_26 rfl (MS.s0 hM) (MS.r0_8 hM) ?_
    refine aw_iload_n dX11_digest_201 rfl ?_
    refine aw_iaload dX11_digest_202 (MS.s5 hM) rfl (by omega) ?_
    rw [hz]
    refine aw_icmp_ge (tgt := 228) dX11_digest_203 rfl (fun h203 => absurd h203 (nI_ge (by omega) (by omega))) (fun h203 => ?_)
    refine aw_aload_n dX11_digest_206 rfl ?_
    refine aw_aload_n dX11_digest_207 rfl ?_
    refine aw_getR dX11_digest_208 fgX11_29 rfl (MS.s0 hM) (MS.r0_9 hM) ?_
    refine aw_bipush (v := nI 60) dX11_digest_211 kb_60 ?_
    refine aw_iload_n dX11_digest_213 rfl ?_
    refine aw_imul dX11_digest_214 ?_
    rw [pk_mul]
    refine aw_iload_n dX11_digest_215 rfl ?_
    refine aw_iadd dX11_digest_216 ?_
    rw [nI_add]
    refine aw_baload dX11_digest_217 (MS.s6 hM) rfl (by omega) ?_
    rw [hg q (by omega)]
    refine aw_i2l dX11_digest_218 ?_
    refine aw_xVv [_] dX11_digest_219 cvX11_268 (MS.s0 hM) (m_adds hM _) rfl rfl (Nat.le_of_ble_eq_true rfl) (rb0 (by decide)) ?_
    refine aw_iinc (v := _) (lo' := [_,_,_]) dX11_digest_222 rfl (nI_1 q) rfl ?_
    refine aw_goto (tgt := 196) dX11_digest_225 rfl ?_
    exact ih (q + 1) _ (by omega) (LL_s hl)
theorem lo_e6 {G : GC} {E : SH} {iv : IV} {lv : LV} {M : Nat} (hM : MS G E M) {D : DD} {s : TS} {m : Nat} {lg : Nat → TV} {kp : Nat → Option KL} (hD : MD M D iv) (hDW : WD D) (hT : MT M (s, (m, lg), kp) iv) (hW : WT (s, (m, lg), kp)) {Zz : List Frame → Array Value → State → State → Prop} (h : Int64) : (∀ l j2, LL M lv l (dgS D.2.2.1 D.2.2.2 h (4)) → AW G mX11_digest (rm 4 0) Zz (fun _ => True) E.1 234 [some (.ref M), some (.int (nI 4)), j2] [] E iv l) → ∀ (c i : Nat) (l : LV) (j2 : Option Value), i + c = 4 → LL M lv l (dgS D.2.2.1 D.2.2.2 h (i)) → AW G mX11_digest (rm 4 0) Zz (fun _ => True) E.1 178 [some (.ref M), some (.int (nI i)), j2] [] E iv l := by
  have hs : WS s := hW.1.1
  have hs7 : s.1 ≤ 7 := hs.1
  have hw : WV s (lg m) := nowW hW
  have hd : lg m 0 ≤ 40 := nowD hW
  have hr : SR M s iv := hT.1
  have hv : VR (M + 12) (lg m) iv := hT.2.2.1
  have h20 : iv M 20 = nI m := hT.2.1
  have hm : m ≤ 40 := hW.1.2.1
  intro hK c
  induction c with
  | zero =>
    intro i l j2 hi hl
    have hi : i = 4 := by omega
    subst hi
    refine aw_iload_n dX11_digest_178 rfl ?_
    refine aw_iconst (v := nI 4) dX11_digest_179 kc_4 ?_
    refine aw_icmp_ge (tgt := 234) dX11_digest_180 rfl (fun h180 => ?_) (fun h180 => absurd (nI_le (Nat.le_refl _) (by decide)) h180)
    exact hK l j2 hl
  | succ c ih =>
    intro i l j2 hi hl
    refine aw_iload_n dX11_digest_178 rfl ?_
    refine aw_iconst (v := nI 4) dX11_digest_179 kc_4 ?_
    refine aw_icmp_ge (tgt := 234) dX11_digest_180 rfl (fun h180 => absurd h180 (nI_ge (by omega) (by decide))) (fun h180 => ?_)
    refine aw_aload_n dX11_digest_183 rfl ?_
    refine aw_aload_n dX11_digest_184 rfl ?_
    refine aw_getR dX11_digest_185 fgX11_26 rfl (MS.s0 hM) (MS.r0_8 hM) ?_
    refine aw_iload_n dX11_digest_188 rfl ?_
    refine aw_iaload dX11_digest_189 (MS.s5 hM) rfl (by omega) ?_
    rw [hD.2.2.1 i (by omega)]
    refine aw_i2l dX11_digest_190 ?_
    refine aw_xVv [_] dX11_digest_191 cvX11_268 (MS.s0 hM) (m_adds hM _) rfl rfl (Nat.le_of_ble_eq_true rfl) (rb0 (by decide)) ?_
    refine aw_iconst (v := nI 0) dX11_digest_194 kc_0 ?_
    refine aw_istore_n (lo' := [_,_,_]) dX11_digest_195 (Nat.le_of_ble_eq_true rfl) rfl ?_
    have hl1 := LL_s (z := (szv (D.2.2.1 i)).toInt64) hl
    generalize va_up l M (vp_updL (l M) 28 (31 * l M 28 + (szv (D.2.2.1 i)).toInt64)) = l1 at hl1 ⊢
    have hz := hD.2.2.1 i (by omega)
    have hst : dgS D.2.2.1 D.2.2.2 h (i + 1) = digs (D.2.2.2 i) (31 * dgS D.2.2.1 D.2.2.2 h i + (szv (D.2.2.1 i)).toInt64) ((D.2.2.1 i).getD 0) := rfl
    cases e : D.2.2.1 i with
    | none =>
      rw [e] at hz hst hl1
      have hl2 : LL M lv l1 (dgS D.2.2.1 D.2.2.2 h (i + 1)) := by rw [hst]; exact hl1
      refine aw_iload_n dX11_digest_196 rfl ?_
      refine aw_aload_n dX11_digest_197 rfl ?_
      refine aw_getR dX11_digest_198 fgX11_26 rfl (MS.s0 hM) (MS.r0_8 hM) ?_
      refine aw_iload_n dX11_digest_201 rfl ?_
      refine aw_iaload dX11_digest_202 (MS.s5 hM) rfl (by omega) ?_
      rw [hz]
      refine aw_icmp_ge (tgt := 228) dX11_digest_203 rfl (fun h203 => ?_) (fun h203 => absurd (by decide) h203)
      refine aw_iinc (v := _) (lo' := [_,_,_]) dX11_digest_228 rfl (nI_1 i) rfl ?_
      refine aw_goto (tgt := 178) dX11_digest_231 rfl ?_
      exact ih (i + 1) _ _ (by omega) hl2
    | some k =>
      have hk := hDW.2 i (by omega) k e
      rw [e] at hz hst hl1
      refine lo_e6a hM hD hDW hT hW _ (i := i) (k := k) (g := D.2.2.2 i) (by omega) (by omega) hz (fun q hq => hD.2.2.2 i q (by omega) (by omega)) (fun l2 hl3 => ?_) k 0 l1 (by omega) hl1
      have hl2 : LL M lv l2 (dgS D.2.2.1 D.2.2.2 h (i + 1)) := by rw [hst]; exact hl3
      refine aw_iinc (v := _) (lo' := [_,_,_]) dX11_digest_228 rfl (nI_1 i) rfl ?_
      refine aw_goto (tgt := 178) dX11_digest_231 rfl ?_
      exact ih (i + 1) _ _ (by omega) hl2
theorem m_digest {G : GC} {E : SH} {iv : IV} {lv : LV} {M : Nat} (hM : MS G E M) {D : DD} {T : FT} (hD : MD M D iv) (hDW : WD D) (hT : MT M T iv) (hW : WT T) : SpL G mX11_digest 4 [.ref M] E iv lv (fun w i0 l => w = dgst D T ∧ i0 = iv ∧ (∀ b, b ≠ M → l b = lv b) ∧ ∀ j, j ≠ 28 → l M j = lv M j) := by
  obtain ⟨s, ⟨m, lg⟩, kp⟩ := T
  refine spec0_of (lo := [_,_,_]) (by decide) (Nat.le_of_ble_eq_true rfl) rfl ?_
  refine aw_aload_n dX11_digest_0 rfl ?_
  refine aw_ldc2 dX11_digest_1 klX11_266 ?_
  refine aw_putL dX11_digest_4 fpX11_263 rfl (MS.s0 hM) ?_
  refine aw_iconst (v := nI 0) dX11_digest_7 kc_0 ?_
  refine aw_istore_n (lo' := [_,_,_]) dX11_digest_8 (Nat.le_of_ble_eq_true rfl) rfl ?_
  refine lo_e1 hM hD hDW hT hW 17 (fun l1 j1 hl1 => ?_) 12 0 _ none (by omega) ⟨by rw [va_up_s]; exact pk_uLs, fun b hb => va_up_n hb, fun j hj => by rw [va_up_s]; exact pk_uLn hj⟩
  refine aw_iconst (v := nI 0) dX11_digest_31 kc_0 ?_
  refine aw_istore_n (lo' := [_,_,_]) dX11_digest_32 (Nat.le_of_ble_eq_true rfl) rfl ?_
  refine lo_e2 hM hD hDW hT hW _ (fun l2 j2 hl2 => ?_) s.1 0 _ _ (by omega) hl1
  refine aw_iconst (v := nI 0) dX11_digest_72 kc_0 ?_
  refine aw_istore_n (lo' := [_,_,_]) dX11_digest_73 (Nat.le_of_ble_eq_true rfl) rfl ?_
  refine lo_e3 hM hD hDW hT hW _ (fun l3 j3 hl3 => ?_) 5 0 _ _ (by omega) hl2
  refine aw_iconst (v := nI 0) dX11_digest_98 kc_0 ?_
  refine aw_istore_n (lo' := [_,_,_]) dX11_digest_99 (Nat.le_of_ble_eq_true rfl) rfl ?_
  refine lo_e4 hM hD hDW hT hW _ (fun l4 j4 hl4 => ?_) 3 0 _ _ (by omega) hl3
  refine aw_iconst (v := nI 0) dX11_digest_122 kc_0 ?_
  refine aw_istore_n (lo' := [_,_,_]) dX11_digest_123 (Nat.le_of_ble_eq_true rfl) rfl ?_
  refine lo_e5 hM hD hDW hT hW _ (fun l5 j5 hl5 => ?_) 6 0 _ _ (by omega) hl4
  refine aw_iconst (v := nI 0) dX11_digest_176 kc_0 ?_
  refine aw_istore_n (lo' := [_,_,_]) dX11_digest_177 (Nat.le_of_ble_eq_true rfl) rfl ?_
  refine lo_e6 hM hD hDW hT hW _ (fun l6 j6 hl6 => ?_) 4 0 _ _ (by omega) hl5
  refine aw_aload_n dX11_digest_234 rfl ?_
  refine aw_getL dX11_digest_235 fgX11_263 rfl (MS.s0 hM) ?_
  refine aw_lret dX11_digest_238 rfl (rb0 (Nat.zero_le _)) ⟨rfl, _, rfl, hl6.1, rfl, hl6.2.1, hl6.2.2⟩
