/-! the mark of a kind -/
def mrk (s : TS) (v : TV) (j q : Nat) : Nat := match q with
  | 1 => (v (6 + j) + 1) / 2
  | 2 => less (s.2.1 j) (v 0)
  | 3 => s.2.2.1 j - seenN (s.2.1 j) (s.2.2.1 j)
  | 4 => if metB s v j = true ∧ ¬ hid s v (s.2.2.2 j) then 1 else 0
  | _ => if (metB s v j = true ∧ ¬ hid s v (s.2.2.2 j)) ∧ v (6 + j) < 9 then 1 else 0
def oMark (A : AA) (D : DD) (T : FT) (i k : Int32) : RS := if bad i T.1.1 ∨ k < nI 1 ∨ nI 5 < k then (-1, A, D, T) else if isK (T.1.2.1 (ix i)) (ix k) then (nI (mrk T.1 (nowT T) (ix i) (ix k)), A, D, T) else (-3, fnd A 3, D, T)
theorem seen_le (k h : Nat) : seenN k h ≤ h := by unfold seenN; split <;> omega
theorem x_mark {G : GC} {E : SH} {iv : IV} {lv : LV} {X : Nat} (hX : XS G E X) {A : AA} {D : DD} {T : FT} (hA : CA X A iv lv) (hD : CD X D iv) (hT : CT X T iv) (hW : WT T) (i k : Int32) : SpI G mX10_mark 4 [.ref X, .int i, .int k] E iv lv (QC X iv lv (oMark A D T i k)) := by
  obtain ⟨s, ⟨m, lg⟩, kp⟩ := T
  have hs : WS s := hW.1.1
  have hs7 : s.1 ≤ 7 := hs.1
  have hw : WV s (lg m) := nowW hW
  have hd : lg m 0 ≤ 40 := nowD hW
  have hf : TF (X + 5) s m lg iv := hT.1
  have hr : TR (X + 5) s (lg m) iv := hf.1
  have hm : m ≤ 40 := hW.1.2.1
  refine spec0_of (lo := [_,_,_]) (by decide) (Nat.le_of_ble_eq_true rfl) rfl ?_
  refine aw_aload_n dX10_mark_0 rfl ?_
  refine aw_iload_n dX10_mark_1 rfl ?_
  refine aw_xVi [_] dX10_mark_2 cvX10_121 (XS.s0 hX) (e_isPerson hX hr.1 i) rfl rfl (Nat.le_of_ble_eq_true rfl) (rb0 (by decide)) ?_
  refine aw_if_eq (tgt := 19) dX10_mark_5 rfl (fun h5 => ?_) (fun h5 => ?_)
  · refine aw_iconst (v := (-1)) dX10_mark_19 kc_m1 ?_
    refine aw_iret dX10_mark_20 rfl (rb0 (Nat.zero_le _)) ⟨rfl, _, rfl, ?_⟩
    refine QC_no hA hD hT ?_
    dsimp only [oMark, nowT]
    
    first
      | exact if_pos (Or.inl (zi_bad h5))
      | exact if_pos (Or.inr (Or.inl h10))
      | exact if_pos (Or.inr (Or.inr (by
          have h := Int32.not_lt.mp h16
          have h := Int32.le_iff_toInt_le.mp h
          rw [Int32.lt_iff_toInt_lt, nI_toInt (by decide)]
          rw [nI_toInt (by decide)] at h
          omega)))
  · obtain ⟨j, hj, rfl⟩ := zi_of h5 (by omega)
    have h8 := hs.2 j hj
    have h9 := hw.1 j hj
    have h11 := seen_le (s.2.1 j) (s.2.2.1 j)
    refine aw_iload_n dX10_mark_8 rfl ?_
    refine aw_iconst (v := nI 1) dX10_mark_9 kc_1 ?_
    refine aw_icmp_lt (tgt := 19) dX10_mark_10 rfl (fun h10 => ?_) (fun h10 => ?_)
    · refine aw_iconst (v := (-1)) dX10_mark_19 kc_m1 ?_
      refine aw_iret dX10_mark_20 rfl (rb0 (Nat.zero_le _)) ⟨rfl, _, rfl, ?_⟩
      refine QC_no hA hD hT ?_
      dsimp only [oMark, nowT]
      
      first
        | exact if_pos (Or.inl (zi_bad h5))
        | exact if_pos (Or.inr (Or.inl h10))
        | exact if_pos (Or.inr (Or.inr (by
            have h := Int32.not_lt.mp h16
            have h := Int32.le_iff_toInt_le.mp h
            rw [Int32.lt_iff_toInt_lt, nI_toInt (by decide)]
            rw [nI_toInt (by decide)] at h
            omega)))
    · refine aw_iload_n dX10_mark_13 rfl ?_
      refine aw_bipush (v := nI 6) dX10_mark_14 kb_6 ?_
      refine aw_icmp_lt (tgt := 21) dX10_mark_16 rfl (fun h16 => ?_) (fun h16 => ?_)
      · obtain ⟨u, hu1, hu, rfl⟩ := ix_1 (n := k) (k := 5) h10 (fun q => by
          have h := Int32.lt_iff_toInt_lt.mp h16
          have h2 := Int32.lt_iff_toInt_lt.mp q
          rw [nI_toInt (by decide)] at h h2
          omega) (by decide)
        have hu5 : u ≤ 5 := hu
        refine aw_aload_n dX10_mark_21 rfl ?_
        refine aw_aload_n dX10_mark_22 rfl ?_
        refine aw_getR dX10_mark_23 fgX10_28 rfl (XS.s0 hX) (XS.r0_3 hX) ?_
        refine aw_iload_n dX10_mark_26 rfl ?_
        refine aw_xVr [_] dX10_mark_27 cvX10_140 (TownS.s0 (XS.town hX)) (t_sortOf (XS.town hX) hs hr hj) rfl rfl (Nat.le_of_ble_eq_true rfl) (rb0 (by decide)) ?_
        refine aw_iload_n dX10_mark_30 rfl ?_
        refine aw_xVi [_, _] dX10_mark_31 cvX10_144 (XS.s0 hX) (e_isOfKind (k := s.2.1 j) (q := u) h8.1 hu1 hu5 (TownS.sort (XS.town hX) h8.1).1) rfl rfl (Nat.le_of_ble_eq_true rfl) (rb0 (by decide)) ?_
        refine aw_if_ne (tgt := 43) dX10_mark_34 rfl (fun h34 => ?_) (fun h34 => ?_)
        · refine aw_iload_n dX10_mark_43 rfl ?_
          rcases (show u = 1 ∨ u = 2 ∨ u = 3 ∨ u = 4 ∨ u = 5 from by omega) with rfl | rfl | rfl | rfl | rfl
          · refine aw_tableIn (off := 32) (tgt := 76) dX10_mark_44 (by decide) (by decide) (by decide) rfl ?_
            refine aw_aload_n dX10_mark_76 rfl ?_
            refine aw_getR dX10_mark_77 fgX10_28 rfl (XS.s0 hX) (XS.r0_3 hX) ?_
            refine aw_getR dX10_mark_80 fgX10_148 rfl (TownS.s0 (XS.town hX)) (TownS.r0_7 (XS.town hX)) ?_
            refine aw_iload_n dX10_mark_83 rfl ?_
            refine aw_iaload dX10_mark_84 (TownS.s11 (XS.town hX)) rfl (by omega) ?_
            rw [(hr.2.2.1 j hj).2.2.2.1]
            refine aw_iconst (v := nI 1) dX10_mark_85 kc_1 ?_
            refine aw_iadd dX10_mark_86 ?_
            rw [nI_add]
            refine aw_iconst (v := nI 2) dX10_mark_87 kc_2 ?_
            refine aw_idiv dX10_mark_88 (by decide) ?_
            rw [pk_div (by omega) (by decide) (by decide)]
            refine aw_iret dX10_mark_89 rfl (rb0 (Nat.zero_le _)) ⟨rfl, _, rfl, ?_⟩
            refine QC_no hA hD hT ?_
            dsimp only [oMark, nowT]
            rw [if_neg (fun q => q.elim (nbad hj (by omega)) (fun q => q.elim h10 (fun q => absurd q (nI_nlt hu5 (by omega))))), ix_nI (by omega), ix_nI (by omega), if_pos (zI_n0.mp h34)]
            rfl
          · refine aw_tableIn (off := 46) (tgt := 90) dX10_mark_44 (by decide) (by decide) (by decide) rfl ?_
            refine aw_aload_n dX10_mark_90 rfl ?_
            refine aw_getR dX10_mark_91 fgX10_28 rfl (XS.s0 hX) (XS.r0_3 hX) ?_
            refine aw_iload_n dX10_mark_94 rfl ?_
            refine aw_xVr [_] dX10_mark_95 cvX10_140 (TownS.s0 (XS.town hX)) (t_sortOf (XS.town hX) hs hr hj) rfl rfl (Nat.le_of_ble_eq_true rfl) (rb0 (by decide)) ?_
            refine aw_aload_n dX10_mark_98 rfl ?_
            refine aw_getR dX10_mark_99 fgX10_28 rfl (XS.s0 hX) (XS.r0_3 hX) ?_
            refine aw_getI dX10_mark_102 fgX10_151 rfl (TownS.s0 (XS.town hX)) ?_
            rw [hr.2.1]
            refine aw_xUi [_] dX10_mark_105 (cuX10_154 _ h8.1) (TownS.sort (XS.town hX) h8.1).1 (e_forgiveness (by omega) _ h8.1) rfl rfl (Nat.le_of_ble_eq_true rfl) (rb0 (by decide)) ?_
            refine aw_iret dX10_mark_108 rfl (rb0 (Nat.zero_le _)) ⟨rfl, _, rfl, ?_⟩
            refine QC_no hA hD hT ?_
            dsimp only [oMark, nowT]
            rw [if_neg (fun q => q.elim (nbad hj (by omega)) (fun q => q.elim h10 (fun q => absurd q (nI_nlt hu5 (by omega))))), ix_nI (by omega), ix_nI (by omega), if_pos (zI_n0.mp h34)]
            rfl
          · refine aw_tableIn (off := 65) (tgt := 109) dX10_mark_44 (by decide) (by decide) (by decide) rfl ?_
            refine aw_aload_n dX10_mark_109 rfl ?_
            refine aw_getR dX10_mark_110 fgX10_28 rfl (XS.s0 hX) (XS.r0_3 hX) ?_
            refine aw_getR dX10_mark_113 fgX10_159 rfl (TownS.s0 (XS.town hX)) (TownS.r0_5 (XS.town hX)) ?_
            refine aw_iload_n dX10_mark_116 rfl ?_
            refine aw_iaload dX10_mark_117 (TownS.s9 (XS.town hX)) rfl (by omega) ?_
            rw [(hr.2.2.1 j hj).2.1]
            refine aw_aload_n dX10_mark_118 rfl ?_
            refine aw_getR dX10_mark_119 fgX10_28 rfl (XS.s0 hX) (XS.r0_3 hX) ?_
            refine aw_iload_n dX10_mark_122 rfl ?_
            refine aw_xVr [_] dX10_mark_123 cvX10_140 (TownS.s0 (XS.town hX)) (t_sortOf (XS.town hX) hs hr hj) rfl rfl (Nat.le_of_ble_eq_true rfl) (rb0 (by decide)) ?_
            refine aw_aload_n dX10_mark_126 rfl ?_
            refine aw_getR dX10_mark_127 fgX10_28 rfl (XS.s0 hX) (XS.r0_3 hX) ?_
            refine aw_getR dX10_mark_130 fgX10_159 rfl (TownS.s0 (XS.town hX)) (TownS.r0_5 (XS.town hX)) ?_
            refine aw_iload_n dX10_mark_133 rfl ?_
            refine aw_iaload dX10_mark_134 (TownS.s9 (XS.town hX)) rfl (by omega) ?_
            rw [(hr.2.2.1 j hj).2.1]
            refine aw_xUi [_] dX10_mark_135 (cuX10_162 _ h8.1) (TownS.sort (XS.town hX) h8.1).1 (e_seenAs h8.2.1 _ h8.1) rfl rfl (Nat.le_of_ble_eq_true rfl) (rb0 (by decide)) ?_
            refine aw_isub dX10_mark_138 ?_
            rw [pk_sub h11]
            refine aw_iret dX10_mark_139 rfl (rb0 (Nat.zero_le _)) ⟨rfl, _, rfl, ?_⟩
            refine QC_no hA hD hT ?_
            dsimp only [oMark, nowT]
            rw [if_neg (fun q => q.elim (nbad hj (by omega)) (fun q => q.elim h10 (fun q => absurd q (nI_nlt hu5 (by omega))))), ix_nI (by omega), ix_nI (by omega), if_pos (zI_n0.mp h34)]
            rfl
          · refine aw_tableIn (off := 96) (tgt := 140) dX10_mark_44 (by decide) (by decide) (by decide) rfl ?_
            refine aw_aload_n dX10_mark_140 rfl ?_
            refine aw_getR dX10_mark_141 fgX10_28 rfl (XS.s0 hX) (XS.r0_3 hX) ?_
            refine aw_iload_n dX10_mark_144 rfl ?_
            refine aw_xVi [_] dX10_mark_145 cvX10_165 (TownS.s0 (XS.town hX)) (t_facesFoe (XS.town hX) hs hr hw hj) rfl rfl (Nat.le_of_ble_eq_true rfl) (rb0 (by decide)) ?_
            refine aw_if_eq (tgt := 155) dX10_mark_148 rfl (fun h148 => ?_) (fun h148 => ?_)
            · refine aw_iconst (v := nI 0) dX10_mark_155 kc_0 ?_
              refine aw_iret dX10_mark_156 rfl (rb0 (Nat.zero_le _)) ⟨rfl, _, rfl, ?_⟩
              refine QC_no hA hD hT ?_
              dsimp only [oMark, nowT]
              rw [if_neg (fun q => q.elim (nbad hj (by omega)) (fun q => q.elim h10 (fun q => absurd q (nI_nlt hu5 (by omega))))), ix_nI (by omega), ix_nI (by omega), if_pos (zI_n0.mp h34)]
              first
                | (rw [show mrk s (lg m) j 4 = 1 from if_pos (zI_n0.mp h148)]; done)
                | (rw [show mrk s (lg m) j 4 = 0 from if_neg (zI_0.mp h148)]; done)
                | (rw [show mrk s (lg m) j 4 = 1 from if_pos (zI_n0.mp h148)]; rfl)
                | (rw [show mrk s (lg m) j 4 = 0 from if_neg (zI_0.mp h148)]; rfl)
            · refine aw_iconst (v := nI 1) dX10_mark_151 kc_1 ?_
              refine aw_goto (tgt := 156) dX10_mark_152 rfl ?_
              refine aw_iret dX10_mark_156 rfl (rb0 (Nat.zero_le _)) ⟨rfl, _, rfl, ?_⟩
              refine QC_no hA hD hT ?_
              dsimp only [oMark, nowT]
              rw [if_neg (fun q => q.elim (nbad hj (by omega)) (fun q => q.elim h10 (fun q => absurd q (nI_nlt hu5 (by omega))))), ix_nI (by omega), ix_nI (by omega), if_pos (zI_n0.mp h34)]
              first
                | (rw [show mrk s (lg m) j 4 = 1 from if_pos (zI_n0.mp h148)]; done)
                | (rw [show mrk s (lg m) j 4 = 0 from if_neg (zI_0.mp h148)]; done)
                | (rw [show mrk s (lg m) j 4 = 1 from if_pos (zI_n0.mp h148)]; rfl)
                | (rw [show mrk s (lg m) j 4 = 0 from if_neg (zI_0.mp h148)]; rfl)
          · refine aw_tableOut (tgt := 157) dX10_mark_44 (by decide) rfl ?_
            refine aw_aload_n dX10_mark_157 rfl ?_
            refine aw_getR dX10_mark_158 fgX10_28 rfl (XS.s0 hX) (XS.r0_3 hX) ?_
            refine aw_iload_n dX10_mark_161 rfl ?_
            refine aw_xVi [_] dX10_mark_162 cvX10_165 (TownS.s0 (XS.town hX)) (t_facesFoe (XS.town hX) hs hr hw hj) rfl rfl (Nat.le_of_ble_eq_true rfl) (rb0 (by decide)) ?_
            refine aw_if_eq (tgt := 186) dX10_mark_165 rfl (fun h165 => ?_) (fun h165 => ?_)
            · refine aw_iconst (v := nI 0) dX10_mark_186 kc_0 ?_
              refine aw_iret dX10_mark_187 rfl (rb0 (Nat.zero_le _)) ⟨rfl, _, rfl, ?_⟩
              refine QC_no hA hD hT ?_
              dsimp only [oMark, nowT]
              rw [if_neg (fun q => q.elim (nbad hj (by omega)) (fun q => q.elim h10 (fun q => absurd q (nI_nlt hu5 (by omega))))), ix_nI (by omega), ix_nI (by omega), if_pos (zI_n0.mp h34)]
              first
                | (rw [show mrk s (lg m) j 5 = 1 from if_pos ⟨zI_n0.mp h165, by omega⟩]; done)
                | (rw [show mrk s (lg m) j 5 = 0 from if_neg (fun q => by omega)]; done)
                | (rw [show mrk s (lg m) j 5 = 0 from if_neg (fun q => zI_0.mp h165 q.1)]; done)
            · refine aw_aload_n dX10_mark_168 rfl ?_
              refine aw_getR dX10_mark_169 fgX10_28 rfl (XS.s0 hX) (XS.r0_3 hX) ?_
              refine aw_getR dX10_mark_172 fgX10_148 rfl (TownS.s0 (XS.town hX)) (TownS.r0_7 (XS.town hX)) ?_
              refine aw_iload_n dX10_mark_175 rfl ?_
              refine aw_iaload dX10_mark_176 (TownS.s11 (XS.town hX)) rfl (by omega) ?_
              rw [(hr.2.2.1 j hj).2.2.2.1]
              refine aw_bipush (v := nI 9) dX10_mark_177 kb_9 ?_
              refine aw_icmp_ge (tgt := 186) dX10_mark_179 rfl (fun h179 => ?_) (fun h179 => ?_)
              · rw [nI_leI (by omega) (by omega)] at h179
                refine aw_iconst (v := nI 0) dX10_mark_186 kc_0 ?_
                refine aw_iret dX10_mark_187 rfl (rb0 (Nat.zero_le _)) ⟨rfl, _, rfl, ?_⟩
                refine QC_no hA hD hT ?_
                dsimp only [oMark, nowT]
                rw [if_neg (fun q => q.elim (nbad hj (by omega)) (fun q => q.elim h10 (fun q => absurd q (nI_nlt hu5 (by omega))))), ix_nI (by omega), ix_nI (by omega), if_pos (zI_n0.mp h34)]
                first
                  | (rw [show mrk s (lg m) j 5 = 1 from if_pos ⟨zI_n0.mp h165, by omega⟩]; done)
                  | (rw [show mrk s (lg m) j 5 = 0 from if_neg (fun q => by omega)]; done)
                  | (rw [show mrk s (lg m) j 5 = 0 from if_neg (fun q => zI_0.mp h165 q.1)]; done)
              · rw [nI_leI (by omega) (by omega)] at h179
                refine aw_iconst (v := nI 1) dX10_mark_182 kc_1 ?_
                refine aw_goto (tgt := 187) dX10_mark_183 rfl ?_
                refine aw_iret dX10_mark_187 rfl (rb0 (Nat.zero_le _)) ⟨rfl, _, rfl, ?_⟩
                refine QC_no hA hD hT ?_
                dsimp only [oMark, nowT]
                rw [if_neg (fun q => q.elim (nbad hj (by omega)) (fun q => q.elim h10 (fun q => absurd q (nI_nlt hu5 (by omega))))), ix_nI (by omega), ix_nI (by omega), if_pos (zI_n0.mp h34)]
                first
                  | (rw [show mrk s (lg m) j 5 = 1 from if_pos ⟨zI_n0.mp h165, by omega⟩]; done)
                  | (rw [show mrk s (lg m) j 5 = 0 from if_neg (fun q => by omega)]; done)
                  | (rw [show mrk s (lg m) j 5 = 0 from if_neg (fun q => zI_0.mp h165 q.1)]; done)
        · refine aw_aload_n dX10_mark_37 rfl ?_
          refine aw_iconst (v := nI 3) dX10_mark_38 kc_3 ?_
          refine aw_xVi [_] dX10_mark_39 cvX10_68 (XS.s0 hX) (e_foundOut hX (f := 3) (by decide) (by decide)) rfl rfl (Nat.le_of_ble_eq_true rfl) (rb0 (by decide)) ?_
          refine aw_iret dX10_mark_42 rfl (rb0 (Nat.zero_le _)) ⟨rfl, _, rfl, ?_⟩
          refine QC_fnd hA hD hT (by decide) ?_
          dsimp only [oMark, nowT]
          
          rw [if_neg (fun q => q.elim (nbad hj (by omega)) (fun q => q.elim h10 (fun q => absurd q (nI_nlt hu5 (by omega))))), ix_nI (by omega), ix_nI (by omega), if_neg (zI_0.mp h34)]
      · refine aw_iconst (v := (-1)) dX10_mark_19 kc_m1 ?_
        refine aw_iret dX10_mark_20 rfl (rb0 (Nat.zero_le _)) ⟨rfl, _, rfl, ?_⟩
        refine QC_no hA hD hT ?_
        dsimp only [oMark, nowT]
        
        first
          | exact if_pos (Or.inl (zi_bad h5))
          | exact if_pos (Or.inr (Or.inl h10))
          | exact if_pos (Or.inr (Or.inr (by
              have h := Int32.not_lt.mp h16
              have h := Int32.le_iff_toInt_le.mp h
              rw [Int32.lt_iff_toInt_lt, nI_toInt (by decide)]
              rw [nI_toInt (by decide)] at h
              omega)))
/-! what is counted -/
def cnt (D : DD) (T : FT) (w : Nat) : Nat := match w with
  | 0 => T.1.1
  | 1 => nowT T 0
  | 2 => T.2.1.1
  | 3 => tot T.1 (nowT T)
  | 4 => bitU (phid T.1 (nowT T)) T.1.1
  | 5 => bitU (pclm (nowT T)) T.1.1
  | 6 => totD (nowT T)
  | 7 => cntU (fun r => (D.1 r).isSome) 6
  | 8 => cntU (fun t => (D.2.2.1 t).isSome) 4
  | 9 => cntU (fun k => (T.2.2 k).isSome) 3
  | 10 => cntU (fun i => decide (isK (T.1.2.1 i) 1)) T.1.1
  | _ => cntU (fun i => decide (isK (T.1.2.1 i) 2)) T.1.1
theorem lo_ofKind {G : GC} {E : SH} {iv : IV} {lv : LV} {X : Nat} (hX : XS G E X) {s : TS} {v : TV} (hs : WS s) (hr : TR (X + 5) s v iv) {q : Nat} (h1 : 1 ≤ q) (h5 : q ≤ 5) : ∀ (c i : Nat), i + c = s.1 → AW G mX10_howManyOfKind (rm 2 0) (Z0 G 2 E (fun r i0 l => ∃ w, r = some (.int w) ∧ w = nI (cntU (fun i => decide (isK (s.2.1 i) q)) s.1) ∧ i0 = iv ∧ l = lv)) (fun _ => True) E.1 4 [some (.ref X), some (.int (nI q)), some (.int (nI (cntU (fun i => decide (isK (s.2.1 i) q)) i))), some (.int (nI i))] [] E iv lv := by
  have h7 := hs.1
  intro c
  induction c with
  | zero =>
    intro i hi
    have hi : i = s.1 := by omega
    subst hi
    refine aw_iload_n dX10_howManyOfKind_4 rfl ?_
    refine aw_aload_n dX10_howManyOfKind_5 rfl ?_
    refine aw_getR dX10_howManyOfKind_6 fgX10_28 rfl (XS.s0 hX) (XS.r0_3 hX) ?_
    refine aw_getI dX10_howManyOfKind_9 fgX10_118 rfl (TownS.s0 (XS.town hX)) ?_
    refine aw_icmp_ge (tgt := 40) dX10_howManyOfKind_12 rfl (fun h12 => ?_) (fun h12 => absurd (by rw [hr.1]; exact nI_le (Nat.le_refl _) (by omega)) h12)
    refine aw_iload_n dX10_howManyOfKind_40 rfl ?_
    refine aw_iret dX10_howManyOfKind_41 rfl (rb0 (Nat.zero_le _)) ⟨rfl, _, rfl, rfl, rfl, rfl⟩
  | succ c ih =>
    intro i hi
    have hj : i < s.1 := by omega
    have h8 := hs.2 i hj
    refine aw_iload_n dX10_howManyOfKind_4 rfl ?_
    refine aw_aload_n dX10_howManyOfKind_5 rfl ?_
    refine aw_getR dX10_howManyOfKind_6 fgX10_28 rfl (XS.s0 hX) (XS.r0_3 hX) ?_
    refine aw_getI dX10_howManyOfKind_9 fgX10_118 rfl (TownS.s0 (XS.town hX)) ?_
    refine aw_icmp_ge (tgt := 40) dX10_howManyOfKind_12 rfl (fun h12 => absurd h12 (by rw [hr.1]; exact nI_ge (by omega) (by omega))) (fun h12 => ?_)
    refine aw_aload_n dX10_howManyOfKind_15 rfl ?_
    refine aw_aload_n dX10_howManyOfKind_16 rfl ?_
    refine aw_getR dX10_howManyOfKind_17 fgX10_28 rfl (XS.s0 hX) (XS.r0_3 hX) ?_
    refine aw_iload_n dX10_howManyOfKind_20 rfl ?_
    refine aw_xVr [_] dX10_howManyOfKind_21 cvX10_140 (TownS.s0 (XS.town hX)) (t_sortOf (XS.town hX) hs hr hj) rfl rfl (Nat.le_of_ble_eq_true rfl) (rb0 (by decide)) ?_
    refine aw_iload_n dX10_howManyOfKind_24 rfl ?_
    refine aw_xVi [_, _] dX10_howManyOfKind_25 cvX10_144 (XS.s0 hX) (e_isOfKind (k := s.2.1 i) (q := q) h8.1 h1 h5 (TownS.sort (XS.town hX) h8.1).1) rfl rfl (Nat.le_of_ble_eq_true rfl) (rb0 (by decide)) ?_
    refine aw_if_eq (tgt := 34) dX10_howManyOfKind_28 rfl (fun h28 => ?_) (fun h28 => ?_)
    · refine aw_iinc (v := _) (lo' := [_,_,_,_]) dX10_howManyOfKind_34 rfl (nI_1 i) rfl ?_
      refine aw_goto (tgt := 4) dX10_howManyOfKind_37 rfl ?_
      have h := ih (i + 1) (by omega)
      rw [cntU] at h
      first
        | (rw [decide_eq_false (zI_0.mp h28)] at h
           exact h)
        | (rw [decide_eq_true (zI_n0.mp h28)] at h
           exact h)
    · refine aw_iinc (v := _) (lo' := [_,_,_,_]) dX10_howManyOfKind_31 rfl (nI_1 _) rfl ?_
      refine aw_iinc (v := _) (lo' := [_,_,_,_]) dX10_howManyOfKind_34 rfl (nI_1 i) rfl ?_
      refine aw_goto (tgt := 4) dX10_howManyOfKind_37 rfl ?_
      have h := ih (i + 1) (by omega)
      rw [cntU] at h
      first
        | (rw [decide_eq_false (zI_0.mp h28)] at h
           exact h)
        | (rw [decide_eq_true (zI_n0.mp h28)] at h
           exact h)
theorem e_ofKind {G : GC} {E : SH} {iv : IV} {lv : LV} {X : Nat} (hX : XS G E X) {s : TS} {v : TV} (hs : WS s) (hr : TR (X + 5) s v iv) {q : Nat} (h1 : 1 ≤ q) (h5 : q ≤ 5) : ExI G mX10_howManyOfKind 2 [.ref X, .int (nI q)] E iv lv (nI (cntU (fun i => decide (isK (s.2.1 i) q)) s.1)) iv lv := by
  refine spec0_of (lo := [_,_,_,_]) (by decide) (Nat.le_of_ble_eq_true rfl) rfl ?_
  refine aw_iconst (v := nI 0) dX10_howManyOfKind_0 kc_0 ?_
  refine aw_istore_n (lo' := [_,_,_,_]) dX10_howManyOfKind_1 (Nat.le_of_ble_eq_true rfl) rfl ?_
  refine aw_iconst (v := nI 0) dX10_howManyOfKind_2 kc_0 ?_
  refine aw_istore_n (lo' := [_,_,_,_]) dX10_howManyOfKind_3 (Nat.le_of_ble_eq_true rfl) rfl ?_
  exact lo_ofKind hX hs hr h1 h5 s.1 0 (by omega)
theorem cntU_t {p : Nat → Bool} {i : Nat} (h : p i = true) : cntU p (i + 1) = cntU p i + 1 := by rw [cntU, h, if_pos rfl]
theorem cntU_f {p : Nat → Bool} {i : Nat} (h : p i = false) : cntU p (i + 1) = cntU p i := by rw [cntU, h, if_neg (by decide), Nat.add_zero]
theorem kp_n {X : Nat} {T : FT} {iv : IV} (hT : CT X T iv) (hW : WT T) {k : Nat} (hk : k < 3) : ∃ n, n < 8 ∧ iv (X + (78 + 20 * k)) 0 = nI n ∧ (n ≠ 0 ↔ (T.2.2 k).isSome = true) := by
  cases e : T.2.2 k with
  | none => exact ⟨0, by decide, hT.2.1 k hk e, ⟨fun h => absurd rfl h, fun h => by cases h⟩⟩
  | some K =>
    have h7 := hW.1.1.1
    exact ⟨T.1.1, by omega, (hT.2.2 k hk K e).1.1, ⟨fun _ => rfl, fun _ => (hW.2.2 k hk K e).2⟩⟩
theorem lo_kept {G : GC} {E : SH} {iv : IV} {lv : LV} {X : Nat} (hX : XS G E X) {T : FT} (hT : CT X T iv) (hW : WT T) : ∀ (c i : Nat), i + c = 3 → AW G mX10_howManyAreKept (rm 2 0) (Z0 G 2 E (fun r i0 l => ∃ w, r = some (.int w) ∧ w = nI (cntU (fun k => (T.2.2 k).isSome) 3) ∧ i0 = iv ∧ l = lv)) (fun _ => True) E.1 4 [some (.ref X), some (.int (nI (cntU (fun k => (T.2.2 k).isSome) i))), some (.int (nI i))] [] E iv lv := by
  intro c
  induction c with
  | zero =>
    intro i hi
    have hi : i = 3 := by omega
    subst hi
    refine aw_iload_n dX10_howManyAreKept_4 rfl ?_
    refine aw_iconst (v := nI 3) dX10_howManyAreKept_5 kc_3 ?_
    refine aw_icmp_ge (tgt := 30) dX10_howManyAreKept_6 rfl (fun h6 => ?_) (fun h6 => absurd (by decide) h6)
    refine aw_iload_n dX10_howManyAreKept_30 rfl ?_
    refine aw_iret dX10_howManyAreKept_31 rfl (rb0 (Nat.zero_le _)) ⟨rfl, _, rfl, rfl, rfl, rfl⟩
  | succ c ih =>
    intro i hi
    obtain ⟨n, hn, e0, e1⟩ := kp_n hT hW (k := i) (by omega)
    refine aw_iload_n dX10_howManyAreKept_4 rfl ?_
    refine aw_iconst (v := nI 3) dX10_howManyAreKept_5 kc_3 ?_
    refine aw_icmp_ge (tgt := 30) dX10_howManyAreKept_6 rfl (fun h6 => absurd h6 (nI_ge (by omega) (by decide))) (fun h6 => ?_)
    refine aw_aload_n dX10_howManyAreKept_9 rfl ?_
    refine aw_getR dX10_howManyAreKept_10 fgX10_32 rfl (XS.s0 hX) (XS.r0_4 hX) ?_
    refine aw_iload_n dX10_howManyAreKept_13 rfl ?_
    refine aw_aaload dX10_howManyAreKept_14 (XS.s25 hX) ⟨by decide, by decide⟩ rfl (by omega) (XS.keptr hX (k := i) (by omega)) ?_
    refine aw_xVi [] dX10_howManyAreKept_15 cvX10_131 (TownS.s0 (XS.kept hX (k := i) (by omega))) (t_hasPeople (XS.kept hX (k := i) (by omega)) e0 (by omega)) rfl rfl (Nat.le_of_ble_eq_true rfl) (rb0 (by decide)) ?_
    refine aw_if_eq (tgt := 24) dX10_howManyAreKept_18 rfl (fun h18 => ?_) (fun h18 => ?_)
    · refine aw_iinc (v := _) (lo' := [_,_,_]) dX10_howManyAreKept_24 rfl (nI_1 i) rfl ?_
      refine aw_goto (tgt := 4) dX10_howManyAreKept_27 rfl ?_
      have h := ih (i + 1) (by omega)
      first
        | (rw [cntU_f (p := fun k => (T.2.2 k).isSome) (i := i) (Bool.eq_false_iff.mpr (fun q => zI_0.mp h18 (e1.mpr q)))] at h
           exact h)
        | (rw [cntU_t (p := fun k => (T.2.2 k).isSome) (i := i) (e1.mp (zI_n0.mp h18))] at h
           exact h)
    · refine aw_iinc (v := _) (lo' := [_,_,_]) dX10_howManyAreKept_21 rfl (nI_1 _) rfl ?_
      refine aw_iinc (v := _) (lo' := [_,_,_]) dX10_howManyAreKept_24 rfl (nI_1 i) rfl ?_
      refine aw_goto (tgt := 4) dX10_howManyAreKept_27 rfl ?_
      have h := ih (i + 1) (by omega)
      first
        | (rw [cntU_f (p := fun k => (T.2.2 k).isSome) (i := i) (Bool.eq_false_iff.mpr (fun q => zI_0.mp h18 (e1.mpr q)))] at h
           exact h)
        | (rw [cntU_t (p := fun k => (T.2.2 k).isSome) (i := i) (e1.mp (zI_n0.mp h18))] at h
           exact h)
theorem e_kept {G : GC} {E : SH} {iv : IV} {lv : LV} {X : Nat} (hX : XS G E X) {T : FT} (hT : CT X T iv) (hW : WT T) : ExI G mX10_howManyAreKept 2 [.ref X] E iv lv (nI (cntU (fun k => (T.2.2 k).isSome) 3)) iv lv := by
  refine spec0_of (lo := [_,_,_]) (by decide) (Nat.le_of_ble_eq_true rfl) rfl ?_
  refine aw_iconst (v := nI 0) dX10_howManyAreKept_0 kc_0 ?_
  refine aw_istore_n (lo' := [_,_,_]) dX10_howManyAreKept_1 (Nat.le_of_ble_eq_true rfl) rfl ?_
  refine aw_iconst (v := nI 0) dX10_howManyAreKept_2 kc_0 ?_
  refine aw_istore_n (lo' := [_,_,_]) dX10_howManyAreKept_3 (Nat.le_of_ble_eq_true rfl) rfl ?_
  exact lo_kept hX hT hW 3 0 (by omega)
theorem lo_there_rows {G : GC} {E : SH} {iv : IV} {lv : LV} {X : Nat} (hX : XS G E X) {D : DD} (hD : CD X D iv) (hDW : WD D) : ∀ (c i : Nat) (j5 : Option Value), i + c = 6 → AW G mX10_howManyAreThere (rm 2 0) (Z0 G 2 E (fun r i0 l => ∃ w, r = some (.int w) ∧ w = nI (cntU (fun r => (D.1 r).isSome) 6) ∧ i0 = iv ∧ l = lv)) (fun _ => True) E.1 10 [some (.ref (X + 1)), some (.int (nI (cntU (fun r => (D.1 r).isSome) i))), some (.ref (X + 1)), some (.int (nI 6)), some (.int (nI i)), j5] [] E iv lv := by
  intro c
  induction c with
  | zero =>
    intro i j5 hi
    have hi : i = 6 := by omega
    subst hi
    refine aw_iload dX10_howManyAreThere_10 rfl ?_
    refine aw_iload_n dX10_howManyAreThere_12 rfl ?_
    refine aw_icmp_ge (tgt := 39) dX10_howManyAreThere_13 rfl (fun h13 => ?_) (fun h13 => absurd (nI_le (Nat.le_refl _) (by decide)) h13)
    refine aw_iload_n dX10_howManyAreThere_39 rfl ?_
    refine aw_iret dX10_howManyAreThere_40 rfl (rb0 (Nat.zero_le _)) ⟨rfl, _, rfl, rfl, rfl, rfl⟩
  | succ c ih =>
    intro i j5 hi
    have hz := hD.1 i (by omega)
    refine aw_iload dX10_howManyAreThere_10 rfl ?_
    refine aw_iload_n dX10_howManyAreThere_12 rfl ?_
    refine aw_icmp_ge (tgt := 39) dX10_howManyAreThere_13 rfl (fun h13 => absurd h13 (nI_ge (by omega) (by decide))) (fun h13 => ?_)
    refine aw_aload_n dX10_howManyAreThere_16 rfl ?_
    refine aw_iload dX10_howManyAreThere_17 rfl ?_
    refine aw_aaload dX10_howManyAreThere_19 (XS.s1 hX) ⟨by decide, by decide⟩ rfl (by omega) (XS.rowr hX (k := i) (by omega)) ?_
    refine aw_astore (lo' := [_,_,_,_,_,_]) dX10_howManyAreThere_20 (Nat.le_of_ble_eq_true rfl) rfl ?_
    refine aw_aload dX10_howManyAreThere_22 rfl ?_
    refine aw_xVi [] dX10_howManyAreThere_24 cvX10_83 (StripS.s0 (XS.row hX (k := i) (by omega))) (e_isThere (XS.row hX (k := i) (by omega))) rfl rfl (Nat.le_of_ble_eq_true rfl) (rb0 (by decide)) ?_
    refine aw_if_eq (tgt := 33) dX10_howManyAreThere_27 rfl (fun h27 => ?_) (fun h27 => ?_)
    · refine aw_iinc (v := _) (lo' := [_,_,_,_,_,_]) dX10_howManyAreThere_33 rfl (nI_1 i) rfl ?_
      refine aw_goto (tgt := 10) dX10_howManyAreThere_36 rfl ?_
      have h := ih (i + 1) (some (.ref (X + (58 + 2 * i)))) (by omega)
      cases e : D.1 i with
      | none =>
        first
          | (rw [cntU_f (p := fun r => (D.1 r).isSome) (i := i) (by show (D.1 i).isSome = false; rw [e]; rfl)] at h
             exact h)
          | (rw [hz, e] at h27
             exact absurd (zI_n0.mp h27) (by decide))
      | some k =>
        have hk := hDW.1 i (by omega) k e
        first
          | (rw [cntU_t (p := fun r => (D.1 r).isSome) (i := i) (by show (D.1 i).isSome = true; rw [e]; rfl)] at h
             exact h)
          | (rw [hz, e] at h27
             exact absurd (nI_pos' (by omega)) (zI_0.mp h27))
    · refine aw_iinc (v := _) (lo' := [_,_,_,_,_,_]) dX10_howManyAreThere_30 rfl (nI_1 _) rfl ?_
      refine aw_iinc (v := _) (lo' := [_,_,_,_,_,_]) dX10_howManyAreThere_33 rfl (nI_1 i) rfl ?_
      refine aw_goto (tgt := 10) dX10_howManyAreThere_36 rfl ?_
      have h := ih (i + 1) (some (.ref (X + (58 + 2 * i)))) (by omega)
      cases e : D.1 i with
      | none =>
        first
          | (rw [cntU_f (p := fun r => (D.1 r).isSome) (i := i) (by show (D.1 i).isSome = false; rw [e]; rfl)] at h
             exact h)
          | (rw [hz, e] at h27
             exact absurd (zI_n0.mp h27) (by decide))
      | some k =>
        have hk := hDW.1 i (by omega) k e
        first
          | (rw [cntU_t (p := fun r => (D.1 r).isSome) (i := i) (by show (D.1 i).isSome = true; rw [e]; rfl)] at h
             exact h)
          | (rw [hz, e] at h27
             exact absurd (nI_pos' (by omega)) (zI_0.mp h27))
theorem e_there_rows {G : GC} {E : SH} {iv : IV} {lv : LV} {X : Nat} (hX : XS G E X) {D : DD} (hD : CD X D iv) (hDW : WD D) : ExI G mX10_howManyAreThere 2 [.ref (X + 1)] E iv lv (nI (cntU (fun r => (D.1 r).isSome) 6)) iv lv := by
  refine spec0_of (lo := [_,_,_,_,_,_]) (by decide) (Nat.le_of_ble_eq_true rfl) rfl ?_
  refine aw_iconst (v := nI 0) dX10_howManyAreThere_0 kc_0 ?_
  refine aw_istore_n (lo' := [_,_,_,_,_,_]) dX10_howManyAreThere_1 (Nat.le_of_ble_eq_true rfl) rfl ?_
  refine aw_aload_n dX10_howManyAreThere_2 rfl ?_
  refine aw_astore_n (lo' := [_,_,_,_,_,_]) dX10_howManyAreThere_3 (Nat.le_of_ble_eq_true rfl) rfl ?_
  refine aw_aload_n dX10_howManyAreThere_4 rfl ?_
  refine aw_alen dX10_howManyAreThere_5 (XS.s1 hX) ⟨by decide, by decide⟩ ?_
  refine aw_istore_n (lo' := [_,_,_,_,_,_]) dX10_howManyAreThere_6 (Nat.le_of_ble_eq_true rfl) rfl ?_
  refine aw_iconst (v := nI 0) dX10_howManyAreThere_7 kc_0 ?_
  refine aw_istore (lo' := [_,_,_,_,_,_]) dX10_howManyAreThere_8 (Nat.le_of_ble_eq_true rfl) rfl ?_
  exact lo_there_rows hX hD hDW 6 0 none (by omega)
theorem lo_there_texts {G : GC} {E : SH} {iv : IV} {lv : LV} {X : Nat} (hX : XS G E X) {D : DD} (hD : CD X D iv) (hDW : WD D) : ∀ (c i : Nat) (j5 : Option Value), i + c = 4 → AW G mX10_howManyAreThere (rm 2 0) (Z0 G 2 E (fun r i0 l => ∃ w, r = some (.int w) ∧ w = nI (cntU (fun r => (D.2.2.1 r).isSome) 4) ∧ i0 = iv ∧ l = lv)) (fun _ => True) E.1 10 [some (.ref (X + 2)), some (.int (nI (cntU (fun r => (D.2.2.1 r).isSome) i))), some (.ref (X + 2)), some (.int (nI 4)), some (.int (nI i)), j5] [] E iv lv := by
  intro c
  induction c with
  | zero =>
    intro i j5 hi
    have hi : i = 4 := by omega
    subst hi
    refine aw_iload dX10_howManyAreThere_10 rfl ?_
    refine aw_iload_n dX10_howManyAreThere_12 rfl ?_
    refine aw_icmp_ge (tgt := 39) dX10_howManyAreThere_13 rfl (fun h13 => ?_) (fun h13 => absurd (nI_le (Nat.le_refl _) (by decide)) h13)
    refine aw_iload_n dX10_howManyAreThere_39 rfl ?_
    refine aw_iret dX10_howManyAreThere_40 rfl (rb0 (Nat.zero_le _)) ⟨rfl, _, rfl, rfl, rfl, rfl⟩
  | succ c ih =>
    intro i j5 hi
    have hz := hD.2.2.1 i (by omega)
    refine aw_iload dX10_howManyAreThere_10 rfl ?_
    refine aw_iload_n dX10_howManyAreThere_12 rfl ?_
    refine aw_icmp_ge (tgt := 39) dX10_howManyAreThere_13 rfl (fun h13 => absurd h13 (nI_ge (by omega) (by decide))) (fun h13 => ?_)
    refine aw_aload_n dX10_howManyAreThere_16 rfl ?_
    refine aw_iload dX10_howManyAreThere_17 rfl ?_
    refine aw_aaload dX10_howManyAreThere_19 (XS.s2 hX) ⟨by decide, by decide⟩ rfl (by omega) (XS.textr hX (k := i) (by omega)) ?_
    refine aw_astore (lo' := [_,_,_,_,_,_]) dX10_howManyAreThere_20 (Nat.le_of_ble_eq_true rfl) rfl ?_
    refine aw_aload dX10_howManyAreThere_22 rfl ?_
    refine aw_xVi [] dX10_howManyAreThere_24 cvX10_83 (StripS.s0 (XS.text hX (k := i) (by omega))) (e_isThere (XS.text hX (k := i) (by omega))) rfl rfl (Nat.le_of_ble_eq_true rfl) (rb0 (by decide)) ?_
    refine aw_if_eq (tgt := 33) dX10_howManyAreThere_27 rfl (fun h27 => ?_) (fun h27 => ?_)
    · refine aw_iinc (v := _) (lo' := [_,_,_,_,_,_]) dX10_howManyAreThere_33 rfl (nI_1 i) rfl ?_
      refine aw_goto (tgt := 10) dX10_howManyAreThere_36 rfl ?_
      have h := ih (i + 1) (some (.ref (X + (70 + 2 * i)))) (by omega)
      cases e : D.2.2.1 i with
      | none =>
        first
          | (rw [cntU_f (p := fun r => (D.2.2.1 r).isSome) (i := i) (by show (D.2.2.1 i).isSome = false; rw [e]; rfl)] at h
             exact h)
          | (rw [hz, e] at h27
             exact absurd (zI_n0.mp h27) (by decide))
      | some k =>
        have hk := hDW.2 i (by omega) k e
        first
          | (rw [cntU_t (p := fun r => (D.2.2.1 r).isSome) (i := i) (by show (D.2.2.1 i).isSome = true; rw [e]; rfl)] at h
             exact h)
          | (rw [hz, e] at h27
             exact absurd (nI_pos' (by omega)) (zI_0.mp h27))
    · refine aw_iinc (v := _) (lo' := [_,_,_,_,_,_]) dX10_howManyAreThere_30 rfl (nI_1 _) rfl ?_
      refine aw_iinc (v := _) (lo' := [_,_,_,_,_,_]) dX10_howManyAreThere_33 rfl (nI_1 i) rfl ?_
      refine aw_goto (tgt := 10) dX10_howManyAreThere_36 rfl ?_
      have h := ih (i + 1) (some (.ref (X + (70 + 2 * i)))) (by omega)
      cases e : D.2.2.1 i with
      | none =>
        first
          | (rw [cntU_f (p := fun r => (D.2.2.1 r).isSome) (i := i) (by show (D.2.2.1 i).isSome = false; rw [e]; rfl)] at h
             exact h)
          | (rw [hz, e] at h27
             exact absurd (zI_n0.mp h27) (by decide))
      | some k =>
        have hk := hDW.2 i (by omega) k e
        first
          | (rw [cntU_t (p := fun r => (D.2.2.1 r).isSome) (i := i) (by show (D.2.2.1 i).isSome = true; rw [e]; rfl)] at h
             exact h)
          | (rw [hz, e] at h27
             exact absurd (nI_pos' (by omega)) (zI_0.mp h27))
theorem e_there_texts {G : GC} {E : SH} {iv : IV} {lv : LV} {X : Nat} (hX : XS G E X) {D : DD} (hD : CD X D iv) (hDW : WD D) : ExI G mX10_howManyAreThere 2 [.ref (X + 2)] E iv lv (nI (cntU (fun r => (D.2.2.1 r).isSome) 4)) iv lv := by
  refine spec0_of (lo := [_,_,_,_,_,_]) (by decide) (Nat.le_of_ble_eq_true rfl) rfl ?_
  refine aw_iconst (v := nI 0) dX10_howManyAreThere_0 kc_0 ?_
  refine aw_istore_n (lo' := [_,_,_,_,_,_]) dX10_howManyAreThere_1 (Nat.le_of_ble_eq_true rfl) rfl ?_
  refine aw_aload_n dX10_howManyAreThere_2 rfl ?_
  refine aw_astore_n (lo' := [_,_,_,_,_,_]) dX10_howManyAreThere_3 (Nat.le_of_ble_eq_true rfl) rfl ?_
  refine aw_aload_n dX10_howManyAreThere_4 rfl ?_
  refine aw_alen dX10_howManyAreThere_5 (XS.s2 hX) ⟨by decide, by decide⟩ ?_
  refine aw_istore_n (lo' := [_,_,_,_,_,_]) dX10_howManyAreThere_6 (Nat.le_of_ble_eq_true rfl) rfl ?_
  refine aw_iconst (v := nI 0) dX10_howManyAreThere_7 kc_0 ?_
  refine aw_istore (lo' := [_,_,_,_,_,_]) dX10_howManyAreThere_8 (Nat.le_of_ble_eq_true rfl) rfl ?_
  exact lo_there_texts hX hD hDW 4 0 none (by omega)
theorem e_cnt {G : GC} {E : SH} {iv : IV} {lv : LV} {X : Nat} (hX : XS G E X) {D : DD} {T : FT} (hD : CD X D iv) (hDW : WD D) (hT : CT X T iv) (hW : WT T) {w : Nat} (hw12 : w < 12) : ExI G mX10_count 4 [.ref X, .int (nI w)] E iv lv (nI (cnt D T w)) iv lv := by
  obtain ⟨s, ⟨m, lg⟩, kp⟩ := T
  have hs : WS s := hW.1.1
  have hs7 : s.1 ≤ 7 := hs.1
  have hw : WV s (lg m) := nowW hW
  have hd : lg m 0 ≤ 40 := nowD hW
  have hf : TF (X + 5) s m lg iv := hT.1
  have hr : TR (X + 5) s (lg m) iv := hf.1
  have hm : m ≤ 40 := hW.1.2.1
  refine spec0_of (lo := [_,_]) (by decide) (Nat.le_of_ble_eq_true rfl) rfl ?_
  refine aw_iload_n dX10_count_0 rfl ?_
  rcases (show w = 0 ∨ w = 1 ∨ w = 2 ∨ w = 3 ∨ w = 4 ∨ w = 5 ∨ w = 6 ∨ w = 7 ∨ w = 8 ∨ w = 9 ∨ w = 10 ∨ w = 11 from by omega) with rfl | rfl | rfl | rfl | rfl | rfl | rfl | rfl | rfl | rfl | rfl | rfl
  · refine aw_tableIn (off := 63) (tgt := 64) dX10_count_1 (by decide) (by decide) (by decide) rfl ?_
    refine aw_aload_n dX10_count_64 rfl ?_
    refine aw_getR dX10_count_65 fgX10_28 rfl (XS.s0 hX) (XS.r0_3 hX) ?_
    refine aw_getI dX10_count_68 fgX10_118 rfl (TownS.s0 (XS.town hX)) ?_
    rw [hr.1]
    refine aw_iret dX10_count_71 rfl (rb0 (Nat.zero_le _)) ⟨rfl, _, rfl, rfl, rfl, rfl⟩
  · refine aw_tableIn (off := 71) (tgt := 72) dX10_count_1 (by decide) (by decide) (by decide) rfl ?_
    refine aw_aload_n dX10_count_72 rfl ?_
    refine aw_getR dX10_count_73 fgX10_28 rfl (XS.s0 hX) (XS.r0_3 hX) ?_
    refine aw_getI dX10_count_76 fgX10_151 rfl (TownS.s0 (XS.town hX)) ?_
    rw [hr.2.1]
    refine aw_iret dX10_count_79 rfl (rb0 (Nat.zero_le _)) ⟨rfl, _, rfl, rfl, rfl, rfl⟩
  · refine aw_tableIn (off := 79) (tgt := 80) dX10_count_1 (by decide) (by decide) (by decide) rfl ?_
    refine aw_aload_n dX10_count_80 rfl ?_
    refine aw_getR dX10_count_81 fgX10_28 rfl (XS.s0 hX) (XS.r0_3 hX) ?_
    refine aw_getI dX10_count_84 fgX10_168 rfl (TownS.s0 (XS.town hX)) ?_
    rw [hf.2.1]
    refine aw_iret dX10_count_87 rfl (rb0 (Nat.zero_le _)) ⟨rfl, _, rfl, rfl, rfl, rfl⟩
  · refine aw_tableIn (off := 87) (tgt := 88) dX10_count_1 (by decide) (by decide) (by decide) rfl ?_
    refine aw_aload_n dX10_count_88 rfl ?_
    refine aw_getR dX10_count_89 fgX10_28 rfl (XS.s0 hX) (XS.r0_3 hX) ?_
    refine aw_xVi [] dX10_count_92 cvX10_175 (TownS.s0 (XS.town hX)) (t_totalGrudge (XS.town hX) hs hr hw) rfl rfl (Nat.le_of_ble_eq_true rfl) (rb0 (by decide)) ?_
    refine aw_iret dX10_count_95 rfl (rb0 (Nat.zero_le _)) ⟨rfl, _, rfl, rfl, rfl, rfl⟩
  · refine aw_tableIn (off := 95) (tgt := 96) dX10_count_1 (by decide) (by decide) (by decide) rfl ?_
    refine aw_aload_n dX10_count_96 rfl ?_
    refine aw_getR dX10_count_97 fgX10_28 rfl (XS.s0 hX) (XS.r0_3 hX) ?_
    refine aw_xVi [] dX10_count_100 cvX10_260 (TownS.s0 (XS.town hX)) (t_whoIsHid (XS.town hX) hs hr hw) rfl rfl (Nat.le_of_ble_eq_true rfl) (rb0 (by decide)) ?_
    refine aw_iret dX10_count_103 rfl (rb0 (Nat.zero_le _)) ⟨rfl, _, rfl, rfl, rfl, rfl⟩
  · refine aw_tableIn (off := 103) (tgt := 104) dX10_count_1 (by decide) (by decide) (by decide) rfl ?_
    refine aw_aload_n dX10_count_104 rfl ?_
    refine aw_getR dX10_count_105 fgX10_28 rfl (XS.s0 hX) (XS.r0_3 hX) ?_
    refine aw_xVi [] dX10_count_108 cvX10_263 (TownS.s0 (XS.town hX)) (t_whoIsAtPeace (XS.town hX) hs hr hw) rfl rfl (Nat.le_of_ble_eq_true rfl) (rb0 (by decide)) ?_
    refine aw_iret dX10_count_111 rfl (rb0 (Nat.zero_le _)) ⟨rfl, _, rfl, rfl, rfl, rfl⟩
  · refine aw_tableIn (off := 111) (tgt := 112) dX10_count_1 (by decide) (by decide) (by decide) rfl ?_
    refine aw_aload_n dX10_count_112 rfl ?_
    refine aw_getR dX10_count_113 fgX10_28 rfl (XS.s0 hX) (XS.r0_3 hX) ?_
    refine aw_xVi [] dX10_count_116 cvX10_266 (TownS.s0 (XS.town hX)) (t_totalDeep (XS.town hX) hs hr hw) rfl rfl (Nat.le_of_ble_eq_true rfl) (rb0 (by decide)) ?_
    refine aw_iret dX10_count_119 rfl (rb0 (Nat.zero_le _)) ⟨rfl, _, rfl, rfl, rfl, rfl⟩
  · refine aw_tableIn (off := 119) (tgt := 120) dX10_count_1 (by decide) (by decide) (by decide) rfl ?_
    refine aw_aload_n dX10_count_120 rfl ?_
    refine aw_getR dX10_count_121 fgX10_11 rfl (XS.s0 hX) (XS.r0_0 hX) ?_
    refine aw_xSi [_] dX10_count_124 csX10_269 (e_there_rows hX hD hDW) rfl rfl (Nat.le_of_ble_eq_true rfl) (rb0 (by decide)) ?_
    refine aw_iret dX10_count_127 rfl (rb0 (Nat.zero_le _)) ⟨rfl, _, rfl, rfl, rfl, rfl⟩
  · refine aw_tableIn (off := 127) (tgt := 128) dX10_count_1 (by decide) (by decide) (by decide) rfl ?_
    refine aw_aload_n dX10_count_128 rfl ?_
    refine aw_getR dX10_count_129 fgX10_15 rfl (XS.s0 hX) (XS.r0_1 hX) ?_
    refine aw_xSi [_] dX10_count_132 csX10_269 (e_there_texts hX hD hDW) rfl rfl (Nat.le_of_ble_eq_true rfl) (rb0 (by decide)) ?_
    refine aw_iret dX10_count_135 rfl (rb0 (Nat.zero_le _)) ⟨rfl, _, rfl, rfl, rfl, rfl⟩
  · refine aw_tableIn (off := 135) (tgt := 136) dX10_count_1 (by decide) (by decide) (by decide) rfl ?_
    refine aw_aload_n dX10_count_136 rfl ?_
    refine aw_xVi [] dX10_count_137 cvX10_273 (XS.s0 hX) (e_kept hX hT hW) rfl rfl (Nat.le_of_ble_eq_true rfl) (rb0 (by decide)) ?_
    refine aw_iret dX10_count_140 rfl (rb0 (Nat.zero_le _)) ⟨rfl, _, rfl, rfl, rfl, rfl⟩
  · refine aw_tableIn (off := 140) (tgt := 141) dX10_count_1 (by decide) (by decide) (by decide) rfl ?_
    refine aw_aload_n dX10_count_141 rfl ?_
    refine aw_iconst (v := nI 1) dX10_count_142 kc_1 ?_
    refine aw_xVi [_] dX10_count_143 cvX10_276 (XS.s0 hX) (e_ofKind hX hs hr (q := 1) (by decide) (by decide)) rfl rfl (Nat.le_of_ble_eq_true rfl) (rb0 (by decide)) ?_
    refine aw_iret dX10_count_146 rfl (rb0 (Nat.zero_le _)) ⟨rfl, _, rfl, rfl, rfl, rfl⟩
  · refine aw_tableIn (off := 146) (tgt := 147) dX10_count_1 (by decide) (by decide) (by decide) rfl ?_
    refine aw_aload_n dX10_count_147 rfl ?_
    refine aw_iconst (v := nI 2) dX10_count_148 kc_2 ?_
    refine aw_xVi [_] dX10_count_149 cvX10_276 (XS.s0 hX) (e_ofKind hX hs hr (q := 2) (by decide) (by decide)) rfl rfl (Nat.le_of_ble_eq_true rfl) (rb0 (by decide)) ?_
    refine aw_iret dX10_count_152 rfl (rb0 (Nat.zero_le _)) ⟨rfl, _, rfl, rfl, rfl, rfl⟩
theorem e_cntB {G : GC} {E : SH} {iv : IV} {lv : LV} {X : Nat} (w : Int32) (hb : bad w 12) : ExI G mX10_count 4 [.ref X, .int w] E iv lv (-1) iv lv := by
  have hq : w.toInt < 0 ∨ 11 < w.toInt := by
    by_cases h : w.toInt < 0
    · exact Or.inl h
    · refine Or.inr ?_
      by_cases h2 : 11 < w.toInt
      · exact h2
      · refine absurd ⟨?_, ?_⟩ hb
        · rw [Int32.le_iff_toInt_le, Int32.toInt_zero]; omega
        · rw [Int32.lt_iff_toInt_lt, nI_toInt (by decide)]; omega
  refine spec0_of (lo := [_,_]) (by decide) (Nat.le_of_ble_eq_true rfl) rfl ?_
  refine aw_iload_n dX10_count_0 rfl ?_
  refine aw_tableOut (tgt := 153) dX10_count_1 hq rfl ?_
  refine aw_iconst (v := (-1)) dX10_count_153 kc_m1 ?_
  exact aw_iret dX10_count_154 rfl (rb0 (Nat.zero_le _)) ⟨rfl, _, rfl, rfl, rfl, rfl⟩
