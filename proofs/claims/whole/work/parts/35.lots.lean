/-! lots -/
def lotX (x : Nat) : Nat → Nat
  | 0 => x
  | k + 1 => lotX x k * 48271 % 2147483647
theorem lotX_lt {x : Nat} (h : x < 2147483647) : ∀ k, lotX x k < 2147483647
  | 0 => h
  | k + 1 => Nat.mod_lt _ (by decide)
def lotC (s : TS) (v : TV) (x : Nat) : Nat × Nat × Nat :=
  if x % 8 = 0 then (if v (1 + x / 8 % 5) = 0 then 0 else 3, x / 8 % 5, 0)
  else if x % 8 ≤ 2 then (if 9 ≤ v (1 + x / 8 % 5) then 0 else 2, x / 8 % 5, 1)
  else if x % 8 = 3 then (if v (13 + x / 64 % s.1) = x / 8 % 5 then 0 else 4, x / 64 % s.1, x / 8 % 5)
  else (if 99 ≤ v 0 then 0 else 1, 0, 0)
def lotD (s : TS) (v : TV) (x : Nat) : TV := deed s (lotC s v x).1 (lotC s v x).2.1 (lotC s v x).2.2 v
theorem lotC_ok {s : TS} {v : TV} {x : Nat} (h0 : s.1 ≠ 0) : dOK s (lotC s v x).1 (lotC s v x).2.1 (lotC s v x).2.2 := by
  have h1 : x / 8 % 5 < 5 := Nat.mod_lt _ (by decide)
  have h2 : x / 64 % s.1 < s.1 := Nat.mod_lt _ (by omega)
  unfold lotC dOK
  split
  · split <;> (try dsimp only) <;> exact ⟨by omega, fun q => by omega, fun q => by omega, fun q => by omega⟩
  · split
    · split <;> (try dsimp only) <;> exact ⟨by omega, fun q => by omega, fun q => by omega, fun q => by omega⟩
    · split
      · split <;> (try dsimp only) <;> exact ⟨by omega, fun q => by omega, fun q => by omega, fun q => by omega⟩
      · split <;> (try dsimp only) <;> exact ⟨by omega, fun q => by omega, fun q => by omega, fun q => by omega⟩
def lotL (s : TS) (K : KL) (x : Nat) : Nat → KL
  | 0 => K
  | k + 1 => ((lotL s K x k).1 + 1, lgx (lotL s K x k).2 (lotL s K x k).1 (lotD s ((lotL s K x k).2 (lotL s K x k).1) (lotX x (k + 1))))
theorem lotL_1 {s : TS} {K : KL} {x : Nat} : ∀ k, (lotL s K x k).1 = K.1 + k
  | 0 => rfl
  | k + 1 => by
    show (lotL s K x k).1 + 1 = _
    rw [lotL_1 k]; omega
theorem lotL_W {s : TS} {K : KL} {x : Nat} (h0 : s.1 ≠ 0) (h : WL s K.1 K.2) : ∀ k, K.1 + k ≤ 40 → WL s (lotL s K x k).1 (lotL s K x k).2
  | 0, _ => h
  | k + 1, hk => WL_deed (lotL_W h0 h k (by omega)) (by rw [lotL_1]; omega) (lotC_ok h0)
def oLots (A : AA) (D : DD) (T : FT) (n y : Int32) : RS := if n < nI 1 ∨ nI 20 < n ∨ y < nI 1 ∨ nI 2147483646 < y then (-1, A, D, T) else if T.1.1 = 0 then (-4, A, D, T) else if 40 < T.2.1.1 + ix n then (-2, A, D, T) else (nI (tot T.1 ((lotL T.1 T.2.1 (ix y) (ix n)).2 (lotL T.1 T.2.1 (ix y) (ix n)).1)), A, D, (T.1, lotL T.1 T.2.1 (ix y) (ix n), T.2.2))
theorem x_byLot {G : GC} {E : SH} {iv : IV} {lv : LV} {X : Nat} (hX : XS G E X) {s : TS} {m : Nat} {lg : Nat → TV} (hL : WL s m lg) (hf : TF (X + 5) s m lg iv) (hm : m < 40) (h0 : s.1 ≠ 0) {x : Nat} (hx : x < 2147483647) : SpV G mX10_performByLot 7 [.ref X, .long (lN x)] E iv lv (fun i0 l => TF (X + 5) s (m + 1) (lgx lg m (lotD s (lg m) x)) i0 ∧ frT (X + 5) i0 iv ∧ l = lv) := by
  have hs : WS s := hL.1
  have h7 := hs.1
  have hr := hf.1
  have hw : WV s (lg m) := (hL.2.2.2 m (Nat.le_refl _)).1
  have hd : lg m 0 ≤ m := (hL.2.2.2 m (Nat.le_refl _)).2
  have hc5 : x / 8 % 5 < 5 := Nat.mod_lt _ (by decide)
  have hw8 : x % 8 < 8 := Nat.mod_lt _ (by decide)
  have hv9 := hw.2.1 (x / 8 % 5) hc5
  have hi7 : x / 64 % s.1 < s.1 := Nat.mod_lt _ (by omega)
  have hv4 := (hw.1 (x / 64 % s.1) hi7).2
  refine spec0_of (lo := [_,_,_,_,_,_]) (by decide) (Nat.le_of_ble_eq_true rfl) rfl ?_
  refine aw_lload_n dX10_performByLot_0 rfl ?_
  refine aw_ldc2 dX10_performByLot_1 klX10_308 ?_
  refine aw_ldiv dX10_performByLot_4 (by decide) ?_
  rw [show lN (x) / 8 = lN (x / 8) from pk_lDiv (a := x) (b := 8) (by omega) (by decide) (by decide)]
  refine aw_ldc2 dX10_performByLot_5 klX10_310 ?_
  refine aw_lrem dX10_performByLot_8 (by decide) ?_
  rw [show lN (x / 8) - lN (x / 8) / 5 * 5 = lN ((x / 8) % 5) from pk_lRem (a := x / 8) (b := 5) (by omega) (by decide) (by decide)]
  refine aw_l2i dX10_performByLot_9 ?_
  rw [lN_i]
  refine aw_istore_n (lo' := [_,_,_,_,_,_]) dX10_performByLot_10 (Nat.le_of_ble_eq_true rfl) rfl ?_
  refine aw_lload_n dX10_performByLot_11 rfl ?_
  refine aw_ldc2 dX10_performByLot_12 klX10_308 ?_
  refine aw_lrem dX10_performByLot_15 (by decide) ?_
  rw [show lN (x) - lN (x) / 8 * 8 = lN ((x) % 8) from pk_lRem (a := x) (b := 8) (by omega) (by decide) (by decide)]
  refine aw_l2i dX10_performByLot_16 ?_
  rw [lN_i]
  refine aw_istore (lo' := [_,_,_,_,_,_]) dX10_performByLot_17 (Nat.le_of_ble_eq_true rfl) rfl ?_
  refine aw_iload dX10_performByLot_19 rfl ?_
  refine aw_if_ne (tgt := 53) dX10_performByLot_21 rfl (fun h21 => ?_) (fun h21 => ?_)
  · rw [← nI_0, nI_eq (by omega) (by omega)] at h21
    refine aw_iload dX10_performByLot_53 rfl ?_
    refine aw_iconst (v := nI 2) dX10_performByLot_55 kc_2 ?_
    refine aw_icmp_gt (tgt := 90) dX10_performByLot_56 rfl (fun h56 => ?_) (fun h56 => ?_)
    · rw [nI_ltI (by omega) (by omega)] at h56
      refine aw_iload dX10_performByLot_90 rfl ?_
      refine aw_iconst (v := nI 3) dX10_performByLot_92 kc_3 ?_
      refine aw_icmp_ne (tgt := 159) dX10_performByLot_93 rfl (fun h93 => ?_) (fun h93 => ?_)
      · rw [nI_eq (by omega) (by omega)] at h93
        refine aw_aload_n dX10_performByLot_159 rfl ?_
        refine aw_getR dX10_performByLot_160 fgX10_28 rfl (XS.s0 hX) (XS.r0_3 hX) ?_
        refine aw_aload_n dX10_performByLot_163 rfl ?_
        refine aw_getR dX10_performByLot_164 fgX10_28 rfl (XS.s0 hX) (XS.r0_3 hX) ?_
        refine aw_getI dX10_performByLot_167 fgX10_151 rfl (TownS.s0 (XS.town hX)) ?_
        rw [hr.2.1]
        refine aw_bipush (v := nI 99) dX10_performByLot_170 kb_99 ?_
        refine aw_icmp_ge (tgt := 179) dX10_performByLot_172 rfl (fun h172 => ?_) (fun h172 => ?_)
        · rw [nI_leI (by omega) (by omega)] at h172
          refine aw_iconst (v := nI 0) dX10_performByLot_179 kc_0 ?_
          refine aw_iconst (v := nI 0) dX10_performByLot_180 kc_0 ?_
          refine aw_iconst (v := nI 0) dX10_performByLot_181 kc_0 ?_
          refine aw_sVv [_, _, _] dX10_performByLot_182 cvX10_171 (TownS.s0 (XS.town hX)) (t_perform (XS.town hX) hL hf hm (by refine ⟨?_, ?_, ?_, ?_⟩ <;> omega)) rfl rfl (Nat.le_of_ble_eq_true rfl) (rb0 (by decide)) (fun kv klv hk => ?_)
          obtain ⟨k1, k2, rfl⟩ := hk
          refine aw_vret dX10_performByLot_185 rfl (rb0 (Nat.zero_le _)) ?_
          first
            | (have e : lotC s (lg m) x = (3, x / 8 % 5, 0) := by
                 unfold lotC
                 rw [if_pos h21, if_neg (by omega)]
               refine ⟨rfl, rfl, ?_, k2, rfl⟩
               rw [lotD, e]
               exact k1)
            | (have e : lotC s (lg m) x = (0, x / 8 % 5, 0) := by
                 unfold lotC
                 rw [if_pos h21, if_pos (by omega)]
               refine ⟨rfl, rfl, ?_, k2, rfl⟩
               rw [lotD, e]
               exact k1)
            | (have e : lotC s (lg m) x = (2, x / 8 % 5, 1) := by
                 unfold lotC
                 rw [if_neg h21, if_pos (by omega), if_neg (by omega)]
               refine ⟨rfl, rfl, ?_, k2, rfl⟩
               rw [lotD, e]
               exact k1)
            | (have e : lotC s (lg m) x = (0, x / 8 % 5, 1) := by
                 unfold lotC
                 rw [if_neg h21, if_pos (by omega), if_pos (by omega)]
               refine ⟨rfl, rfl, ?_, k2, rfl⟩
               rw [lotD, e]
               exact k1)
            | (have e : lotC s (lg m) x = (4, x / 64 % s.1, x / 8 % 5) := by
                 unfold lotC
                 rw [if_neg h21, if_neg (by omega), if_pos (by omega), if_neg (by omega)]
               refine ⟨rfl, rfl, ?_, k2, rfl⟩
               rw [lotD, e]
               exact k1)
            | (have e : lotC s (lg m) x = (0, x / 64 % s.1, x / 8 % 5) := by
                 unfold lotC
                 rw [if_neg h21, if_neg (by omega), if_pos (by omega), if_pos (by omega)]
               refine ⟨rfl, rfl, ?_, k2, rfl⟩
               rw [lotD, e]
               exact k1)
            | (have e : lotC s (lg m) x = (1, 0, 0) := by
                 unfold lotC
                 rw [if_neg h21, if_neg (by omega), if_neg (by omega), if_neg (by omega)]
               refine ⟨rfl, rfl, ?_, k2, rfl⟩
               rw [lotD, e]
               exact k1)
            | (have e : lotC s (lg m) x = (0, 0, 0) := by
                 unfold lotC
                 rw [if_neg h21, if_neg (by omega), if_neg (by omega), if_pos (by omega)]
               refine ⟨rfl, rfl, ?_, k2, rfl⟩
               rw [lotD, e]
               exact k1)
        · rw [nI_leI (by omega) (by omega)] at h172
          refine aw_iconst (v := nI 1) dX10_performByLot_175 kc_1 ?_
          refine aw_goto (tgt := 180) dX10_performByLot_176 rfl ?_
          refine aw_iconst (v := nI 0) dX10_performByLot_180 kc_0 ?_
          refine aw_iconst (v := nI 0) dX10_performByLot_181 kc_0 ?_
          refine aw_sVv [_, _, _] dX10_performByLot_182 cvX10_171 (TownS.s0 (XS.town hX)) (t_perform (XS.town hX) hL hf hm (by refine ⟨?_, ?_, ?_, ?_⟩ <;> omega)) rfl rfl (Nat.le_of_ble_eq_true rfl) (rb0 (by decide)) (fun kv klv hk => ?_)
          obtain ⟨k1, k2, rfl⟩ := hk
          refine aw_vret dX10_performByLot_185 rfl (rb0 (Nat.zero_le _)) ?_
          first
            | (have e : lotC s (lg m) x = (3, x / 8 % 5, 0) := by
                 unfold lotC
                 rw [if_pos h21, if_neg (by omega)]
               refine ⟨rfl, rfl, ?_, k2, rfl⟩
               rw [lotD, e]
               exact k1)
            | (have e : lotC s (lg m) x = (0, x / 8 % 5, 0) := by
                 unfold lotC
                 rw [if_pos h21, if_pos (by omega)]
               refine ⟨rfl, rfl, ?_, k2, rfl⟩
               rw [lotD, e]
               exact k1)
            | (have e : lotC s (lg m) x = (2, x / 8 % 5, 1) := by
                 unfold lotC
                 rw [if_neg h21, if_pos (by omega), if_neg (by omega)]
               refine ⟨rfl, rfl, ?_, k2, rfl⟩
               rw [lotD, e]
               exact k1)
            | (have e : lotC s (lg m) x = (0, x / 8 % 5, 1) := by
                 unfold lotC
                 rw [if_neg h21, if_pos (by omega), if_pos (by omega)]
               refine ⟨rfl, rfl, ?_, k2, rfl⟩
               rw [lotD, e]
               exact k1)
            | (have e : lotC s (lg m) x = (4, x / 64 % s.1, x / 8 % 5) := by
                 unfold lotC
                 rw [if_neg h21, if_neg (by omega), if_pos (by omega), if_neg (by omega)]
               refine ⟨rfl, rfl, ?_, k2, rfl⟩
               rw [lotD, e]
               exact k1)
            | (have e : lotC s (lg m) x = (0, x / 64 % s.1, x / 8 % 5) := by
                 unfold lotC
                 rw [if_neg h21, if_neg (by omega), if_pos (by omega), if_pos (by omega)]
               refine ⟨rfl, rfl, ?_, k2, rfl⟩
               rw [lotD, e]
               exact k1)
            | (have e : lotC s (lg m) x = (1, 0, 0) := by
                 unfold lotC
                 rw [if_neg h21, if_neg (by omega), if_neg (by omega), if_neg (by omega)]
               refine ⟨rfl, rfl, ?_, k2, rfl⟩
               rw [lotD, e]
               exact k1)
            | (have e : lotC s (lg m) x = (0, 0, 0) := by
                 unfold lotC
                 rw [if_neg h21, if_neg (by omega), if_neg (by omega), if_pos (by omega)]
               refine ⟨rfl, rfl, ?_, k2, rfl⟩
               rw [lotD, e]
               exact k1)
      · rw [nI_eq (by omega) (by omega)] at h93
        refine aw_aload_n dX10_performByLot_96 rfl ?_
        refine aw_getR dX10_performByLot_97 fgX10_28 rfl (XS.s0 hX) (XS.r0_3 hX) ?_
        refine aw_getI dX10_performByLot_100 fgX10_118 rfl (TownS.s0 (XS.town hX)) ?_
        rw [hr.1]
        refine aw_if_le (tgt := 124) dX10_performByLot_103 rfl (fun h103 => ?_) (fun h103 => ?_)
        · (rw [← nI_0, nI_leI (by omega) (by omega)] at h103; omega)
        · refine aw_lload_n dX10_performByLot_106 rfl ?_
          refine aw_ldc2 dX10_performByLot_107 klX10_312 ?_
          refine aw_ldiv dX10_performByLot_110 (by decide) ?_
          rw [show lN (x) / 64 = lN (x / 64) from pk_lDiv (a := x) (b := 64) (by omega) (by decide) (by decide)]
          refine aw_aload_n dX10_performByLot_111 rfl ?_
          refine aw_getR dX10_performByLot_112 fgX10_28 rfl (XS.s0 hX) (XS.r0_3 hX) ?_
          refine aw_getI dX10_performByLot_115 fgX10_118 rfl (TownS.s0 (XS.town hX)) ?_
          rw [hr.1]
          refine aw_i2l dX10_performByLot_118 ?_
          rw [nI_l (by omega)]
          refine aw_lrem dX10_performByLot_119 (fun q => h0 ((pk_lEQ (b := 0) (by omega) (by decide)).mp q)) ?_
          rw [pk_lRem (a := x / 64) (by omega) (by omega) (by omega)]
          refine aw_l2i dX10_performByLot_120 ?_
          rw [lN_i]
          refine aw_goto (tgt := 125) dX10_performByLot_121 rfl ?_
          refine aw_istore (lo' := [_,_,_,_,_,_]) dX10_performByLot_125 (Nat.le_of_ble_eq_true rfl) rfl ?_
          refine aw_aload_n dX10_performByLot_127 rfl ?_
          refine aw_getR dX10_performByLot_128 fgX10_28 rfl (XS.s0 hX) (XS.r0_3 hX) ?_
          refine aw_aload_n dX10_performByLot_131 rfl ?_
          refine aw_getR dX10_performByLot_132 fgX10_28 rfl (XS.s0 hX) (XS.r0_3 hX) ?_
          refine aw_getR dX10_performByLot_135 fgX10_179 rfl (TownS.s0 (XS.town hX)) (TownS.r0_8 (XS.town hX)) ?_
          refine aw_iload dX10_performByLot_138 rfl ?_
          refine aw_iaload dX10_performByLot_140 (TownS.s12 (XS.town hX)) rfl (by omega) ?_
          rw [(hr.2.2.1 (x / 64 % s.1) hi7).2.2.2.2]
          refine aw_iload_n dX10_performByLot_141 rfl ?_
          refine aw_icmp_eq (tgt := 149) dX10_performByLot_142 rfl (fun h142 => ?_) (fun h142 => ?_)
          · rw [nI_eq (by omega) (by omega)] at h142
            refine aw_iconst (v := nI 0) dX10_performByLot_149 kc_0 ?_
            refine aw_iload dX10_performByLot_150 rfl ?_
            refine aw_iload_n dX10_performByLot_152 rfl ?_
            refine aw_sVv [_, _, _] dX10_performByLot_153 cvX10_171 (TownS.s0 (XS.town hX)) (t_perform (XS.town hX) hL hf hm (by refine ⟨?_, ?_, ?_, ?_⟩ <;> omega)) rfl rfl (Nat.le_of_ble_eq_true rfl) (rb0 (by decide)) (fun kv klv hk => ?_)
            obtain ⟨k1, k2, rfl⟩ := hk
            refine aw_goto (tgt := 185) dX10_performByLot_156 rfl ?_
            refine aw_vret dX10_performByLot_185 rfl (rb0 (Nat.zero_le _)) ?_
            first
              | (have e : lotC s (lg m) x = (3, x / 8 % 5, 0) := by
                   unfold lotC
                   rw [if_pos h21, if_neg (by omega)]
                 refine ⟨rfl, rfl, ?_, k2, rfl⟩
                 rw [lotD, e]
                 exact k1)
              | (have e : lotC s (lg m) x = (0, x / 8 % 5, 0) := by
                   unfold lotC
                   rw [if_pos h21, if_pos (by omega)]
                 refine ⟨rfl, rfl, ?_, k2, rfl⟩
                 rw [lotD, e]
                 exact k1)
              | (have e : lotC s (lg m) x = (2, x / 8 % 5, 1) := by
                   unfold lotC
                   rw [if_neg h21, if_pos (by omega), if_neg (by omega)]
                 refine ⟨rfl, rfl, ?_, k2, rfl⟩
                 rw [lotD, e]
                 exact k1)
              | (have e : lotC s (lg m) x = (0, x / 8 % 5, 1) := by
                   unfold lotC
                   rw [if_neg h21, if_pos (by omega), if_pos (by omega)]
                 refine ⟨rfl, rfl, ?_, k2, rfl⟩
                 rw [lotD, e]
                 exact k1)
              | (have e : lotC s (lg m) x = (4, x / 64 % s.1, x / 8 % 5) := by
                   unfold lotC
                   rw [if_neg h21, if_neg (by omega), if_pos (by omega), if_neg (by omega)]
                 refine ⟨rfl, rfl, ?_, k2, rfl⟩
                 rw [lotD, e]
                 exact k1)
              | (have e : lotC s (lg m) x = (0, x / 64 % s.1, x / 8 % 5) := by
                   unfold lotC
                   rw [if_neg h21, if_neg (by omega), if_pos (by omega), if_pos (by omega)]
                 refine ⟨rfl, rfl, ?_, k2, rfl⟩
                 rw [lotD, e]
                 exact k1)
              | (have e : lotC s (lg m) x = (1, 0, 0) := by
                   unfold lotC
                   rw [if_neg h21, if_neg (by omega), if_neg (by omega), if_neg (by omega)]
                 refine ⟨rfl, rfl, ?_, k2, rfl⟩
                 rw [lotD, e]
                 exact k1)
              | (have e : lotC s (lg m) x = (0, 0, 0) := by
                   unfold lotC
                   rw [if_neg h21, if_neg (by omega), if_neg (by omega), if_pos (by omega)]
                 refine ⟨rfl, rfl, ?_, k2, rfl⟩
                 rw [lotD, e]
                 exact k1)
          · rw [nI_eq (by omega) (by omega)] at h142
            refine aw_iconst (v := nI 4) dX10_performByLot_145 kc_4 ?_
            refine aw_goto (tgt := 150) dX10_performByLot_146 rfl ?_
            refine aw_iload dX10_performByLot_150 rfl ?_
            refine aw_iload_n dX10_performByLot_152 rfl ?_
            refine aw_sVv [_, _, _] dX10_performByLot_153 cvX10_171 (TownS.s0 (XS.town hX)) (t_perform (XS.town hX) hL hf hm (by refine ⟨?_, ?_, ?_, ?_⟩ <;> omega)) rfl rfl (Nat.le_of_ble_eq_true rfl) (rb0 (by decide)) (fun kv klv hk => ?_)
            obtain ⟨k1, k2, rfl⟩ := hk
            refine aw_goto (tgt := 185) dX10_performByLot_156 rfl ?_
            refine aw_vret dX10_performByLot_185 rfl (rb0 (Nat.zero_le _)) ?_
            first
              | (have e : lotC s (lg m) x = (3, x / 8 % 5, 0) := by
                   unfold lotC
                   rw [if_pos h21, if_neg (by omega)]
                 refine ⟨rfl, rfl, ?_, k2, rfl⟩
                 rw [lotD, e]
                 exact k1)
              | (have e : lotC s (lg m) x = (0, x / 8 % 5, 0) := by
                   unfold lotC
                   rw [if_pos h21, if_pos (by omega)]
                 refine ⟨rfl, rfl, ?_, k2, rfl⟩
                 rw [lotD, e]
                 exact k1)
              | (have e : lotC s (lg m) x = (2, x / 8 % 5, 1) := by
                   unfold lotC
                   rw [if_neg h21, if_pos (by omega), if_neg (by omega)]
                 refine ⟨rfl, rfl, ?_, k2, rfl⟩
                 rw [lotD, e]
                 exact k1)
              | (have e : lotC s (lg m) x = (0, x / 8 % 5, 1) := by
                   unfold lotC
                   rw [if_neg h21, if_pos (by omega), if_pos (by omega)]
                 refine ⟨rfl, rfl, ?_, k2, rfl⟩
                 rw [lotD, e]
                 exact k1)
              | (have e : lotC s (lg m) x = (4, x / 64 % s.1, x / 8 % 5) := by
                   unfold lotC
                   rw [if_neg h21, if_neg (by omega), if_pos (by omega), if_neg (by omega)]
                 refine ⟨rfl, rfl, ?_, k2, rfl⟩
                 rw [lotD, e]
                 exact k1)
              | (have e : lotC s (lg m) x = (0, x / 64 % s.1, x / 8 % 5) := by
                   unfold lotC
                   rw [if_neg h21, if_neg (by omega), if_pos (by omega), if_pos (by omega)]
                 refine ⟨rfl, rfl, ?_, k2, rfl⟩
                 rw [lotD, e]
                 exact k1)
              | (have e : lotC s (lg m) x = (1, 0, 0) := by
                   unfold lotC
                   rw [if_neg h21, if_neg (by omega), if_neg (by omega), if_neg (by omega)]
                 refine ⟨rfl, rfl, ?_, k2, rfl⟩
                 rw [lotD, e]
                 exact k1)
              | (have e : lotC s (lg m) x = (0, 0, 0) := by
                   unfold lotC
                   rw [if_neg h21, if_neg (by omega), if_neg (by omega), if_pos (by omega)]
                 refine ⟨rfl, rfl, ?_, k2, rfl⟩
                 rw [lotD, e]
                 exact k1)
    · rw [nI_ltI (by omega) (by omega)] at h56
      refine aw_aload_n dX10_performByLot_59 rfl ?_
      refine aw_getR dX10_performByLot_60 fgX10_28 rfl (XS.s0 hX) (XS.r0_3 hX) ?_
      refine aw_aload_n dX10_performByLot_63 rfl ?_
      refine aw_getR dX10_performByLot_64 fgX10_28 rfl (XS.s0 hX) (XS.r0_3 hX) ?_
      refine aw_getR dX10_performByLot_67 fgX10_137 rfl (TownS.s0 (XS.town hX)) (TownS.r0_9 (XS.town hX)) ?_
      refine aw_iload_n dX10_performByLot_70 rfl ?_
      refine aw_iaload dX10_performByLot_71 (TownS.s13 (XS.town hX)) rfl (by omega) ?_
      rw [hr.2.2.2 (x / 8 % 5) (by omega)]
      refine aw_bipush (v := nI 9) dX10_performByLot_72 kb_9 ?_
      refine aw_icmp_ge (tgt := 81) dX10_performByLot_74 rfl (fun h74 => ?_) (fun h74 => ?_)
      · rw [nI_leI (by omega) (by omega)] at h74
        refine aw_iconst (v := nI 0) dX10_performByLot_81 kc_0 ?_
        refine aw_iload_n dX10_performByLot_82 rfl ?_
        refine aw_iconst (v := nI 1) dX10_performByLot_83 kc_1 ?_
        refine aw_sVv [_, _, _] dX10_performByLot_84 cvX10_171 (TownS.s0 (XS.town hX)) (t_perform (XS.town hX) hL hf hm (by refine ⟨?_, ?_, ?_, ?_⟩ <;> omega)) rfl rfl (Nat.le_of_ble_eq_true rfl) (rb0 (by decide)) (fun kv klv hk => ?_)
        obtain ⟨k1, k2, rfl⟩ := hk
        refine aw_goto (tgt := 185) dX10_performByLot_87 rfl ?_
        refine aw_vret dX10_performByLot_185 rfl (rb0 (Nat.zero_le _)) ?_
        first
          | (have e : lotC s (lg m) x = (3, x / 8 % 5, 0) := by
               unfold lotC
               rw [if_pos h21, if_neg (by omega)]
             refine ⟨rfl, rfl, ?_, k2, rfl⟩
             rw [lotD, e]
             exact k1)
          | (have e : lotC s (lg m) x = (0, x / 8 % 5, 0) := by
               unfold lotC
               rw [if_pos h21, if_pos (by omega)]
             refine ⟨rfl, rfl, ?_, k2, rfl⟩
             rw [lotD, e]
             exact k1)
          | (have e : lotC s (lg m) x = (2, x / 8 % 5, 1) := by
               unfold lotC
               rw [if_neg h21, if_pos (by omega), if_neg (by omega)]
             refine ⟨rfl, rfl, ?_, k2, rfl⟩
             rw [lotD, e]
             exact k1)
          | (have e : lotC s (lg m) x = (0, x / 8 % 5, 1) := by
               unfold lotC
               rw [if_neg h21, if_pos (by omega), if_pos (by omega)]
             refine ⟨rfl, rfl, ?_, k2, rfl⟩
             rw [lotD, e]
             exact k1)
          | (have e : lotC s (lg m) x = (4, x / 64 % s.1, x / 8 % 5) := by
               unfold lotC
               rw [if_neg h21, if_neg (by omega), if_pos (by omega), if_neg (by omega)]
             refine ⟨rfl, rfl, ?_, k2, rfl⟩
             rw [lotD, e]
             exact k1)
          | (have e : lotC s (lg m) x = (0, x / 64 % s.1, x / 8 % 5) := by
               unfold lotC
               rw [if_neg h21, if_neg (by omega), if_pos (by omega), if_pos (by omega)]
             refine ⟨rfl, rfl, ?_, k2, rfl⟩
             rw [lotD, e]
             exact k1)
          | (have e : lotC s (lg m) x = (1, 0, 0) := by
               unfold lotC
               rw [if_neg h21, if_neg (by omega), if_neg (by omega), if_neg (by omega)]
             refine ⟨rfl, rfl, ?_, k2, rfl⟩
             rw [lotD, e]
             exact k1)
          | (have e : lotC s (lg m) x = (0, 0, 0) := by
               unfold lotC
               rw [if_neg h21, if_neg (by omega), if_neg (by omega), if_pos (by omega)]
             refine ⟨rfl, rfl, ?_, k2, rfl⟩
             rw [lotD, e]
             exact k1)
      · rw [nI_leI (by omega) (by omega)] at h74
        refine aw_iconst (v := nI 2) dX10_performByLot_77 kc_2 ?_
        refine aw_goto (tgt := 82) dX10_performByLot_78 rfl ?_
        refine aw_iload_n dX10_performByLot_82 rfl ?_
        refine aw_iconst (v := nI 1) dX10_performByLot_83 kc_1 ?_
        refine aw_sVv [_, _, _] dX10_performByLot_84 cvX10_171 (TownS.s0 (XS.town hX)) (t_perform (XS.town hX) hL hf hm (by refine ⟨?_, ?_, ?_, ?_⟩ <;> omega)) rfl rfl (Nat.le_of_ble_eq_true rfl) (rb0 (by decide)) (fun kv klv hk => ?_)
        obtain ⟨k1, k2, rfl⟩ := hk
        refine aw_goto (tgt := 185) dX10_performByLot_87 rfl ?_
        refine aw_vret dX10_performByLot_185 rfl (rb0 (Nat.zero_le _)) ?_
        first
          | (have e : lotC s (lg m) x = (3, x / 8 % 5, 0) := by
               unfold lotC
               rw [if_pos h21, if_neg (by omega)]
             refine ⟨rfl, rfl, ?_, k2, rfl⟩
             rw [lotD, e]
             exact k1)
          | (have e : lotC s (lg m) x = (0, x / 8 % 5, 0) := by
               unfold lotC
               rw [if_pos h21, if_pos (by omega)]
             refine ⟨rfl, rfl, ?_, k2, rfl⟩
             rw [lotD, e]
             exact k1)
          | (have e : lotC s (lg m) x = (2, x / 8 % 5, 1) := by
               unfold lotC
               rw [if_neg h21, if_pos (by omega), if_neg (by omega)]
             refine ⟨rfl, rfl, ?_, k2, rfl⟩
             rw [lotD, e]
             exact k1)
          | (have e : lotC s (lg m) x = (0, x / 8 % 5, 1) := by
               unfold lotC
               rw [if_neg h21, if_pos (by omega), if_pos (by omega)]
             refine ⟨rfl, rfl, ?_, k2, rfl⟩
             rw [lotD, e]
             exact k1)
          | (have e : lotC s (lg m) x = (4, x / 64 % s.1, x / 8 % 5) := by
               unfold lotC
               rw [if_neg h21, if_neg (by omega), if_pos (by omega), if_neg (by omega)]
             refine ⟨rfl, rfl, ?_, k2, rfl⟩
             rw [lotD, e]
             exact k1)
          | (have e : lotC s (lg m) x = (0, x / 64 % s.1, x / 8 % 5) := by
               unfold lotC
               rw [if_neg h21, if_neg (by omega), if_pos (by omega), if_pos (by omega)]
             refine ⟨rfl, rfl, ?_, k2, rfl⟩
             rw [lotD, e]
             exact k1)
          | (have e : lotC s (lg m) x = (1, 0, 0) := by
               unfold lotC
               rw [if_neg h21, if_neg (by omega), if_neg (by omega), if_neg (by omega)]
             refine ⟨rfl, rfl, ?_, k2, rfl⟩
             rw [lotD, e]
             exact k1)
          | (have e : lotC s (lg m) x = (0, 0, 0) := by
               unfold lotC
               rw [if_neg h21, if_neg (by omega), if_neg (by omega), if_pos (by omega)]
             refine ⟨rfl, rfl, ?_, k2, rfl⟩
             rw [lotD, e]
             exact k1)
  · rw [← nI_0, nI_eq (by omega) (by omega)] at h21
    refine aw_aload_n dX10_performByLot_24 rfl ?_
    refine aw_getR dX10_performByLot_25 fgX10_28 rfl (XS.s0 hX) (XS.r0_3 hX) ?_
    refine aw_aload_n dX10_performByLot_28 rfl ?_
    refine aw_getR dX10_performByLot_29 fgX10_28 rfl (XS.s0 hX) (XS.r0_3 hX) ?_
    refine aw_getR dX10_performByLot_32 fgX10_137 rfl (TownS.s0 (XS.town hX)) (TownS.r0_9 (XS.town hX)) ?_
    refine aw_iload_n dX10_performByLot_35 rfl ?_
    refine aw_iaload dX10_performByLot_36 (TownS.s13 (XS.town hX)) rfl (by omega) ?_
    rw [hr.2.2.2 (x / 8 % 5) (by omega)]
    refine aw_if_le (tgt := 44) dX10_performByLot_37 rfl (fun h37 => ?_) (fun h37 => ?_)
    · rw [← nI_0, nI_leI (by omega) (by omega)] at h37
      refine aw_iconst (v := nI 0) dX10_performByLot_44 kc_0 ?_
      refine aw_iload_n dX10_performByLot_45 rfl ?_
      refine aw_iconst (v := nI 0) dX10_performByLot_46 kc_0 ?_
      refine aw_sVv [_, _, _] dX10_performByLot_47 cvX10_171 (TownS.s0 (XS.town hX)) (t_perform (XS.town hX) hL hf hm (by refine ⟨?_, ?_, ?_, ?_⟩ <;> omega)) rfl rfl (Nat.le_of_ble_eq_true rfl) (rb0 (by decide)) (fun kv klv hk => ?_)
      obtain ⟨k1, k2, rfl⟩ := hk
      refine aw_goto (tgt := 185) dX10_performByLot_50 rfl ?_
      refine aw_vret dX10_performByLot_185 rfl (rb0 (Nat.zero_le _)) ?_
      first
        | (have e : lotC s (lg m) x = (3, x / 8 % 5, 0) := by
             unfold lotC
             rw [if_pos h21, if_neg (by omega)]
           refine ⟨rfl, rfl, ?_, k2, rfl⟩
           rw [lotD, e]
           exact k1)
        | (have e : lotC s (lg m) x = (0, x / 8 % 5, 0) := by
             unfold lotC
             rw [if_pos h21, if_pos (by omega)]
           refine ⟨rfl, rfl, ?_, k2, rfl⟩
           rw [lotD, e]
           exact k1)
        | (have e : lotC s (lg m) x = (2, x / 8 % 5, 1) := by
             unfold lotC
             rw [if_neg h21, if_pos (by omega), if_neg (by omega)]
           refine ⟨rfl, rfl, ?_, k2, rfl⟩
           rw [lotD, e]
           exact k1)
        | (have e : lotC s (lg m) x = (0, x / 8 % 5, 1) := by
             unfold lotC
             rw [if_neg h21, if_pos (by omega), if_pos (by omega)]
           refine ⟨rfl, rfl, ?_, k2, rfl⟩
           rw [lotD, e]
           exact k1)
        | (have e : lotC s (lg m) x = (4, x / 64 % s.1, x / 8 % 5) := by
             unfold lotC
             rw [if_neg h21, if_neg (by omega), if_pos (by omega), if_neg (by omega)]
           refine ⟨rfl, rfl, ?_, k2, rfl⟩
           rw [lotD, e]
           exact k1)
        | (have e : lotC s (lg m) x = (0, x / 64 % s.1, x / 8 % 5) := by
             unfold lotC
             rw [if_neg h21, if_neg (by omega), if_pos (by omega), if_pos (by omega)]
           refine ⟨rfl, rfl, ?_, k2, rfl⟩
           rw [lotD, e]
           exact k1)
        | (have e : lotC s (lg m) x = (1, 0, 0) := by
             unfold lotC
             rw [if_neg h21, if_neg (by omega), if_neg (by omega), if_neg (by omega)]
           refine ⟨rfl, rfl, ?_, k2, rfl⟩
           rw [lotD, e]
           exact k1)
        | (have e : lotC s (lg m) x = (0, 0, 0) := by
             unfold lotC
             rw [if_neg h21, if_neg (by omega), if_neg (by omega), if_pos (by omega)]
           refine ⟨rfl, rfl, ?_, k2, rfl⟩
           rw [lotD, e]
           exact k1)
    · rw [← nI_0, nI_leI (by omega) (by omega)] at h37
      refine aw_iconst (v := nI 3) dX10_performByLot_40 kc_3 ?_
      refine aw_goto (tgt := 45) dX10_performByLot_41 rfl ?_
      refine aw_iload_n dX10_performByLot_45 rfl ?_
      refine aw_iconst (v := nI 0) dX10_performByLot_46 kc_0 ?_
      refine aw_sVv [_, _, _] dX10_performByLot_47 cvX10_171 (TownS.s0 (XS.town hX)) (t_perform (XS.town hX) hL hf hm (by refine ⟨?_, ?_, ?_, ?_⟩ <;> omega)) rfl rfl (Nat.le_of_ble_eq_true rfl) (rb0 (by decide)) (fun kv klv hk => ?_)
      obtain ⟨k1, k2, rfl⟩ := hk
      refine aw_goto (tgt := 185) dX10_performByLot_50 rfl ?_
      refine aw_vret dX10_performByLot_185 rfl (rb0 (Nat.zero_le _)) ?_
      first
        | (have e : lotC s (lg m) x = (3, x / 8 % 5, 0) := by
             unfold lotC
             rw [if_pos h21, if_neg (by omega)]
           refine ⟨rfl, rfl, ?_, k2, rfl⟩
           rw [lotD, e]
           exact k1)
        | (have e : lotC s (lg m) x = (0, x / 8 % 5, 0) := by
             unfold lotC
             rw [if_pos h21, if_pos (by omega)]
           refine ⟨rfl, rfl, ?_, k2, rfl⟩
           rw [lotD, e]
           exact k1)
        | (have e : lotC s (lg m) x = (2, x / 8 % 5, 1) := by
             unfold lotC
             rw [if_neg h21, if_pos (by omega), if_neg (by omega)]
           refine ⟨rfl, rfl, ?_, k2, rfl⟩
           rw [lotD, e]
           exact k1)
        | (have e : lotC s (lg m) x = (0, x / 8 % 5, 1) := by
             unfold lotC
             rw [if_neg h21, if_pos (by omega), if_pos (by omega)]
           refine ⟨rfl, rfl, ?_, k2, rfl⟩
           rw [lotD, e]
           exact k1)
        | (have e : lotC s (lg m) x = (4, x / 64 % s.1, x / 8 % 5) := by
             unfold lotC
             rw [if_neg h21, if_neg (by omega), if_pos (by omega), if_neg (by omega)]
           refine ⟨rfl, rfl, ?_, k2, rfl⟩
           rw [lotD, e]
           exact k1)
        | (have e : lotC s (lg m) x = (0, x / 64 % s.1, x / 8 % 5) := by
             unfold lotC
             rw [if_neg h21, if_neg (by omega), if_pos (by omega), if_pos (by omega)]
           refine ⟨rfl, rfl, ?_, k2, rfl⟩
           rw [lotD, e]
           exact k1)
        | (have e : lotC s (lg m) x = (1, 0, 0) := by
             unfold lotC
             rw [if_neg h21, if_neg (by omega), if_neg (by omega), if_neg (by omega)]
           refine ⟨rfl, rfl, ?_, k2, rfl⟩
           rw [lotD, e]
           exact k1)
        | (have e : lotC s (lg m) x = (0, 0, 0) := by
             unfold lotC
             rw [if_neg h21, if_neg (by omega), if_neg (by omega), if_pos (by omega)]
           refine ⟨rfl, rfl, ?_, k2, rfl⟩
           rw [lotD, e]
           exact k1)
theorem lo_lots {G : GC} {E : SH} {iv : IV} {lv : LV} {X : Nat} (hX : XS G E X) {s : TS} {m : Nat} {lg : Nat → TV} (hL : WL s m lg) (h0 : s.1 ≠ 0) {n x : Nat} (hx : x < 2147483647) (hmn : m + n ≤ 40) {Q : Option Value → IV → LV → Prop} (hQ : ∀ i0, TF (X + 5) s (lotL s (m, lg) x n).1 (lotL s (m, lg) x n).2 i0 → frT (X + 5) i0 iv → Q (some (.int (nI (tot s ((lotL s (m, lg) x n).2 (lotL s (m, lg) x n).1))))) i0 lv) : ∀ (c t : Nat) (jv : IV), t + c = n → TF (X + 5) s (lotL s (m, lg) x t).1 (lotL s (m, lg) x t).2 jv → frT (X + 5) jv iv → AW G mX10_lots (rm 8 0) (Z0 G 8 E Q) (fun _ => True) E.1 63 [some (.ref X), some (.int (nI n)), some (.int (nI x)), some (.long (lN (lotX x t))), none, some (.int (nI t))] [] E jv lv := by
  intro c
  induction c with
  | zero =>
    intro t jv ht hf hq
    have ht : t = n := by omega
    subst ht
    have hLt := lotL_W (K := (m, lg)) (x := x) h0 hL t hmn
    refine aw_iload dX10_lots_63 rfl ?_
    refine aw_iload_n dX10_lots_65 rfl ?_
    refine aw_icmp_ge (tgt := 90) dX10_lots_66 rfl (fun h66 => ?_) (fun h66 => absurd (nI_le (Nat.le_refl _) (by omega)) h66)
    refine aw_aload_n dX10_lots_90 rfl ?_
    refine aw_getR dX10_lots_91 fgX10_28 rfl (XS.s0 hX) (XS.r0_3 hX) ?_
    refine aw_xVi [] dX10_lots_94 cvX10_175 (TownS.s0 (XS.town hX)) (t_totalGrudge (XS.town hX) hL.1 hf.1 (hLt.2.2.2 _ (Nat.le_refl _)).1) rfl rfl (Nat.le_of_ble_eq_true rfl) (rb0 (by decide)) ?_
    refine aw_iret dX10_lots_97 rfl (rb0 (Nat.zero_le _)) ⟨rfl, hQ jv hf hq⟩
  | succ c ih =>
    intro t jv ht hf hq
    have hLt := lotL_W (K := (m, lg)) (x := x) h0 hL t (show m + t ≤ 40 by omega)
    have hxt := lotX_lt hx t
    have hxs := lotX_lt hx (t + 1)
    refine aw_iload dX10_lots_63 rfl ?_
    refine aw_iload_n dX10_lots_65 rfl ?_
    refine aw_icmp_ge (tgt := 90) dX10_lots_66 rfl (fun h66 => absurd h66 (nI_ge (by omega) (by omega))) (fun h66 => ?_)
    refine aw_lload_n dX10_lots_69 rfl ?_
    refine aw_ldc2 dX10_lots_70 klX10_254 ?_
    refine aw_lmul dX10_lots_73 ?_
    rw [show lN (lotX x t) * 48271 = lN (lotX x t * 48271) from lN_mul _ 48271]
    refine aw_ldc2 dX10_lots_74 klX10_252 ?_
    refine aw_lrem dX10_lots_77 (by decide) ?_
    rw [show lN (lotX x t * 48271) - lN (lotX x t * 48271) / 2147483647 * 2147483647 = lN (lotX x (t + 1)) from pk_lRem (b := 2147483647) (by omega) (by decide) (by decide)]
    refine aw_lstore_n (lo' := [_,_,_,_,_,_]) dX10_lots_78 (Nat.le_of_ble_eq_true rfl) rfl ?_
    refine aw_aload_n dX10_lots_79 rfl ?_
    refine aw_lload_n dX10_lots_80 rfl ?_
    refine aw_sVv [_] dX10_lots_81 cvX10_256 (XS.s0 hX) (x_byLot hX hLt hf (by rw [lotL_1]; show m + t < 40; omega) h0 hxs) rfl rfl (Nat.le_of_ble_eq_true rfl) (rb0 (by decide)) (fun kv klv hk => ?_)
    obtain ⟨k1, k2, rfl⟩ := hk
    refine aw_iinc (v := _) (lo' := [_,_,_,_,_,_]) dX10_lots_84 rfl (nI_1 t) rfl ?_
    refine aw_goto (tgt := 63) dX10_lots_87 rfl ?_
    exact ih (t + 1) kv (by omega) k1 (fun b hb => (k2 b hb).trans (hq b hb))
theorem x_lots {G : GC} {E : SH} {iv : IV} {lv : LV} {X : Nat} (hX : XS G E X) {A : AA} {D : DD} {T : FT} (hA : CA X A iv lv) (hD : CD X D iv) (hT : CT X T iv) (hW : WT T) (n y : Int32) : SpI G mX10_lots 8 [.ref X, .int n, .int y] E iv lv (QC X iv lv (oLots A D T n y)) := by
  obtain ⟨s, ⟨m, lg⟩, kp⟩ := T
  have hs : WS s := hW.1.1
  have hs7 : s.1 ≤ 7 := hs.1
  have hw : WV s (lg m) := nowW hW
  have hd : lg m 0 ≤ 40 := nowD hW
  have hf : TF (X + 5) s m lg iv := hT.1
  have hr : TR (X + 5) s (lg m) iv := hf.1
  have hm : m ≤ 40 := hW.1.2.1
  refine spec0_of (lo := [_,_,_,_,_,_]) (by decide) (Nat.le_of_ble_eq_true rfl) rfl ?_
  refine aw_iload_n dX10_lots_0 rfl ?_
  refine aw_iconst (v := nI 1) dX10_lots_1 kc_1 ?_
  refine aw_icmp_lt (tgt := 25) dX10_lots_2 rfl (fun h2 => ?_) (fun h2 => ?_)
  · refine aw_iconst (v := (-1)) dX10_lots_25 kc_m1 ?_
    refine aw_iret dX10_lots_26 rfl (rb0 (Nat.zero_le _)) ⟨rfl, _, rfl, ?_⟩
    refine QC_no hA hD hT ?_
    dsimp only [oLots, nowT]
    
    first
      | exact if_pos (Or.inl h2)
      | exact if_pos (Or.inr (Or.inl h8))
      | exact if_pos (Or.inr (Or.inr (Or.inl h13)))
      | exact if_pos (Or.inr (Or.inr (Or.inr ((nI_ltI (by decide) hx31).mpr (by omega)))))
  · refine aw_iload_n dX10_lots_5 rfl ?_
    refine aw_bipush (v := nI 20) dX10_lots_6 kb_20 ?_
    refine aw_icmp_gt (tgt := 25) dX10_lots_8 rfl (fun h8 => ?_) (fun h8 => ?_)
    · refine aw_iconst (v := (-1)) dX10_lots_25 kc_m1 ?_
      refine aw_iret dX10_lots_26 rfl (rb0 (Nat.zero_le _)) ⟨rfl, _, rfl, ?_⟩
      refine QC_no hA hD hT ?_
      dsimp only [oLots, nowT]
      
      first
        | exact if_pos (Or.inl h2)
        | exact if_pos (Or.inr (Or.inl h8))
        | exact if_pos (Or.inr (Or.inr (Or.inl h13)))
        | exact if_pos (Or.inr (Or.inr (Or.inr ((nI_ltI (by decide) hx31).mpr (by omega)))))
    · refine aw_iload_n dX10_lots_11 rfl ?_
      refine aw_iconst (v := nI 1) dX10_lots_12 kc_1 ?_
      refine aw_icmp_lt (tgt := 25) dX10_lots_13 rfl (fun h13 => ?_) (fun h13 => ?_)
      · refine aw_iconst (v := (-1)) dX10_lots_25 kc_m1 ?_
        refine aw_iret dX10_lots_26 rfl (rb0 (Nat.zero_le _)) ⟨rfl, _, rfl, ?_⟩
        refine QC_no hA hD hT ?_
        dsimp only [oLots, nowT]
        
        first
          | exact if_pos (Or.inl h2)
          | exact if_pos (Or.inr (Or.inl h8))
          | exact if_pos (Or.inr (Or.inr (Or.inl h13)))
          | exact if_pos (Or.inr (Or.inr (Or.inr ((nI_ltI (by decide) hx31).mpr (by omega)))))
      · obtain ⟨x, hx31, rfl⟩ := nI_of (x := y) (fun q => h13 (Int32.lt_trans q (by decide)))
        refine aw_iload_n dX10_lots_16 rfl ?_
        refine aw_i2l dX10_lots_17 ?_
        refine aw_ldc2 dX10_lots_18 klX10_252 ?_
        refine aw_lcmp dX10_lots_21 ?_
        refine aw_if_lt (tgt := 27) dX10_lots_22 rfl (fun h22 => ?_) (fun h22 => ?_)
        · rw [lg_cmp_lt, nI_l hx31, show (2147483647 : Int64) = lN 2147483647 from rfl, pk_lLT (by omega) (by decide)] at h22
          obtain ⟨u, hu1, hu, rfl⟩ := ix_1 (n := n) (k := 20) h2 h8 (by decide)
          have hb : ¬ (nI u < nI 1 ∨ nI 20 < nI u ∨ nI x < nI 1 ∨ nI 2147483646 < nI x) := fun q => q.elim h2 (fun q => q.elim h8 (fun q => q.elim h13 (fun q => by rw [nI_ltI (by decide) hx31] at q; omega)))
          refine aw_aload_n dX10_lots_27 rfl ?_
          refine aw_getR dX10_lots_28 fgX10_28 rfl (XS.s0 hX) (XS.r0_3 hX) ?_
          refine aw_xVi [] dX10_lots_31 cvX10_131 (TownS.s0 (XS.town hX)) (t_hasPeople (XS.town hX) hr.1 (by omega)) rfl rfl (Nat.le_of_ble_eq_true rfl) (rb0 (by decide)) ?_
          refine aw_if_ne (tgt := 40) dX10_lots_34 rfl (fun h34 => ?_) (fun h34 => ?_)
          · have hnp : s.1 ≠ 0 := zI_n0.mp h34
            refine aw_aload_n dX10_lots_40 rfl ?_
            refine aw_getR dX10_lots_41 fgX10_28 rfl (XS.s0 hX) (XS.r0_3 hX) ?_
            refine aw_getI dX10_lots_44 fgX10_168 rfl (TownS.s0 (XS.town hX)) ?_
            rw [hf.2.1]
            refine aw_iload_n dX10_lots_47 rfl ?_
            refine aw_iadd dX10_lots_48 ?_
            rw [nI_add]
            refine aw_bipush (v := nI 40) dX10_lots_49 kb_40 ?_
            refine aw_icmp_le (tgt := 57) dX10_lots_51 rfl (fun h51 => ?_) (fun h51 => ?_)
            · rw [nI_leI (by omega) (by omega)] at h51
              refine aw_iload_n dX10_lots_57 rfl ?_
              refine aw_i2l dX10_lots_58 ?_
              rw [nI_l (by omega)]
              refine aw_lstore_n (lo' := [_,_,_,_,_,_]) dX10_lots_59 (Nat.le_of_ble_eq_true rfl) rfl ?_
              refine aw_iconst (v := nI 0) dX10_lots_60 kc_0 ?_
              refine aw_istore (lo' := [_,_,_,_,_,_]) dX10_lots_61 (Nat.le_of_ble_eq_true rfl) rfl ?_
              refine lo_lots (iv := iv) (lv := lv) hX hW.1 hnp h22 (by omega) (fun i0 k1 k2 => ⟨_, rfl, ?_⟩) u 0 iv (by omega) hf (fun _ _ => rfl)
              refine QC_twn hA hD hT k1 k2 ?_
              dsimp only [oLots, nowT]
              rw [if_neg hb, if_neg hnp, if_neg (by rw [ix_nI (by omega)]; omega), ix_nI (by omega), ix_nI (by omega)]
            · rw [nI_leI (by omega) (by omega)] at h51
              refine aw_bipush (v := (-2)) dX10_lots_54 kb_m2 ?_
              refine aw_iret dX10_lots_56 rfl (rb0 (Nat.zero_le _)) ⟨rfl, _, rfl, ?_⟩
              refine QC_no hA hD hT ?_
              dsimp only [oLots, nowT]
              
              rw [if_neg hb, if_neg hnp, if_pos (by rw [ix_nI (by omega)]; omega)]
          · have hnp : s.1 = 0 := Decidable.not_not.mp (zI_0.mp h34)
            refine aw_bipush (v := (-4)) dX10_lots_37 kb_m4 ?_
            refine aw_iret dX10_lots_39 rfl (rb0 (Nat.zero_le _)) ⟨rfl, _, rfl, ?_⟩
            refine QC_no hA hD hT ?_
            dsimp only [oLots, nowT]
            
            rw [if_neg hb, if_pos hnp]
        · rw [lg_cmp_lt, nI_l hx31, show (2147483647 : Int64) = lN 2147483647 from rfl, pk_lLT (by omega) (by decide)] at h22
          refine aw_iconst (v := (-1)) dX10_lots_25 kc_m1 ?_
          refine aw_iret dX10_lots_26 rfl (rb0 (Nat.zero_le _)) ⟨rfl, _, rfl, ?_⟩
          refine QC_no hA hD hT ?_
          dsimp only [oLots, nowT]
          
          first
            | exact if_pos (Or.inl h2)
            | exact if_pos (Or.inr (Or.inl h8))
            | exact if_pos (Or.inr (Or.inr (Or.inl h13)))
            | exact if_pos (Or.inr (Or.inr (Or.inr ((nI_ltI (by decide) hx31).mpr (by omega)))))
