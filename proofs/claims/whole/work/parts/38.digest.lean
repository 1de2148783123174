/-! the digest -/
def kpv (q : Option KL) : Int32 := match q with
  | none => -1
  | some K => nI K.1
def dgP (s : TS) (v : TV) (h : Int64) : Nat → Int64
  | 0 => h
  | i + 1 => digs (fact s v i) (dgP s v h i) 7
def dgS (z : Nat → Option Nat) (g : Nat → Nat → Int32) (h : Int64) : Nat → Int64
  | 0 => h
  | r + 1 => digs (g r) (dig (dgS z g h r) (szv (z r))) ((z r).getD 0)
def dgst (D : DD) (T : FT) : Int64 := dgS D.2.2.1 D.2.2.2 (dgS D.1 D.2.1 (digs (fun k => kpv (T.2.2 k)) (digs (fun c => nI (nowT T (1 + c))) (dgP T.1 (nowT T) (digs (fun w => nI (cnt D T w)) 17 12) T.1.1) 5) 3) 6) 4
theorem digs_c {f g : Nat → Int32} {h : Int64} : ∀ {n : Nat}, (∀ k, k < n → f k = g k) → digs f h n = digs g h n
  | 0, _ => rfl
  | n + 1, e => by rw [digs, digs, digs_c (fun k hk => e k (by omega)), e n (by omega)]
theorem lo_dg1 {G : GC} {E : SH} {iv : IV} {lv : LV} {X : Nat} (hX : XS G E X) {D : DD} {s : TS} {m : Nat} {lg : Nat → TV} {kp : Nat → Option KL} (hD : CD X D iv) (hDW : WD D) (hT : CT X (s, (m, lg), kp) iv) (hW : WT (s, (m, lg), kp)) {Zz : List Frame → Array Value → State → State → Prop} (h : Int64) : (∀ j4, AW G mX10_digest (rm 5 0) Zz (fun _ => True) E.1 31 [some (.ref X), some (.long (digs (fun w => nI (cnt D (s, (m, lg), kp) w)) h 12)), none, some (.int (nI 12)), j4] [] E iv lv) → ∀ (e i : Nat) (j4 : Option Value), i + e = 12 → AW G mX10_digest (rm 5 0) Zz (fun _ => True) E.1 6 [some (.ref X), some (.long (digs (fun w => nI (cnt D (s, (m, lg), kp) w)) h i)), none, some (.int (nI i)), j4] [] E iv lv := by
  have hs : WS s := hW.1.1
  have hs7 : s.1 ≤ 7 := hs.1
  have hw : WV s (lg m) := nowW hW
  have hd : lg m 0 ≤ 40 := nowD hW
  have hf : TF (X + 5) s m lg iv := hT.1
  have hr : TR (X + 5) s (lg m) iv := hf.1
  have hm : m ≤ 40 := hW.1.2.1
  intro hk e
  induction e with
  | zero =>
    intro i j4 hi
    have hi : i = 12 := by omega
    subst hi
    refine aw_iload_n dX10_digest_6 rfl ?_
    refine aw_bipush (v := nI 12) dX10_digest_7 kb_12 ?_
    refine aw_icmp_ge (tgt := 31) dX10_digest_9 rfl (fun h9 => ?_) (fun h9 => absurd (nI_le (Nat.le_refl _) (by decide)) h9)
    exact hk j4
  | succ e ih =>
    intro i j4 hi
    refine aw_iload_n dX10_digest_6 rfl ?_
    refine aw_bipush (v := nI 12) dX10_digest_7 kb_12 ?_
    refine aw_icmp_ge (tgt := 31) dX10_digest_9 rfl (fun h9 => absurd h9 (nI_ge (by omega) (by decide))) (fun h9 => ?_)
    refine aw_ldc2 dX10_digest_12 klX10_281 ?_
    refine aw_lload_n dX10_digest_15 rfl ?_
    refine aw_lmul dX10_digest_16 ?_
    refine aw_aload_n dX10_digest_17 rfl ?_
    refine aw_iload_n dX10_digest_18 rfl ?_
    refine aw_xVi [_] dX10_digest_19 cvX10_283 (XS.s0 hX) (e_cnt hX hD hDW hT hW (w := i) (by omega)) rfl rfl (Nat.le_of_ble_eq_true rfl) (rb0 (by decide)) ?_
    refine aw_i2l dX10_digest_22 ?_
    refine aw_ladd dX10_digest_23 ?_
    refine aw_lstore_n (lo' := [_,_,_,_,_]) dX10_digest_24 (Nat.le_of_ble_eq_true rfl) rfl ?_
    refine aw_iinc (v := _) (lo' := [_,_,_,_,_]) dX10_digest_25 rfl (nI_1 i) rfl ?_
    refine aw_goto (tgt := 6) dX10_digest_28 rfl ?_
    exact ih (i + 1) j4 (by omega)
theorem lo_dg2a {G : GC} {E : SH} {iv : IV} {lv : LV} {X : Nat} (hX : XS G E X) {D : DD} {s : TS} {m : Nat} {lg : Nat → TV} {kp : Nat → Option KL} (hD : CD X D iv) (hDW : WD D) (hT : CT X (s, (m, lg), kp) iv) (hW : WT (s, (m, lg), kp)) {Zz : List Frame → Array Value → State → State → Prop} (h : Int64) {i : Nat} (hi : i < s.1) : (AW G mX10_digest (rm 5 0) Zz (fun _ => True) E.1 78 [some (.ref X), some (.long (digs (fact s (lg m) i) h 7)), none, some (.int (nI i)), some (.int (nI 7))] [] E iv lv) → ∀ (e w : Nat), w + e = 7 → AW G mX10_digest (rm 5 0) Zz (fun _ => True) E.1 47 [some (.ref X), some (.long (digs (fact s (lg m) i) h w)), none, some (.int (nI i)), some (.int (nI w))] [] E iv lv := by
  have hs : WS s := hW.1.1
  have hs7 : s.1 ≤ 7 := hs.1
  have hw : WV s (lg m) := nowW hW
  have hd : lg m 0 ≤ 40 := nowD hW
  have hf : TF (X + 5) s m lg iv := hT.1
  have hr : TR (X + 5) s (lg m) iv := hf.1
  have hm : m ≤ 40 := hW.1.2.1
  intro hk e
  induction e with
  | zero =>
    intro w hi
    have hi : w = 7 := by omega
    subst hi
    refine aw_iload dX10_digest_47 rfl ?_
    refine aw_bipush (v := nI 7) dX10_digest_49 kb_7 ?_
    refine aw_icmp_ge (tgt := 78) dX10_digest_51 rfl (fun h51 => ?_) (fun h51 => absurd (by decide) h51)
    exact hk
  | succ e ih =>
    intro w hi
    refine aw_iload dX10_digest_47 rfl ?_
    refine aw_bipush (v := nI 7) dX10_digest_49 kb_7 ?_
    refine aw_icmp_ge (tgt := 78) dX10_digest_51 rfl (fun h51 => absurd h51 (nI_ge (by omega) (by decide))) (fun h51 => ?_)
    refine aw_ldc2 dX10_digest_54 klX10_281 ?_
    refine aw_lload_n dX10_digest_57 rfl ?_
    refine aw_lmul dX10_digest_58 ?_
    refine aw_aload_n dX10_digest_59 rfl ?_
    refine aw_getR dX10_digest_60 fgX10_28 rfl (XS.s0 hX) (XS.r0_3 hX) ?_
    refine aw_iload_n dX10_digest_63 rfl ?_
    refine aw_iload dX10_digest_64 rfl ?_
    refine aw_xVi [_, _] dX10_digest_66 cvX10_124 (TownS.s0 (XS.town hX)) (t_factOf (XS.town hX) hs hr hw (i := i) (w := w) (by omega) (by omega)) rfl rfl (Nat.le_of_ble_eq_true rfl) (rb0 (by decide)) ?_
    refine aw_i2l dX10_digest_69 ?_
    refine aw_ladd dX10_digest_70 ?_
    refine aw_lstore_n (lo' := [_,_,_,_,_]) dX10_digest_71 (Nat.le_of_ble_eq_true rfl) rfl ?_
    refine aw_iinc (v := _) (lo' := [_,_,_,_,_]) dX10_digest_72 rfl (nI_1 w) rfl ?_
    refine aw_goto (tgt := 47) dX10_digest_75 rfl ?_
    exact ih (w + 1) (by omega)
theorem lo_dg2 {G : GC} {E : SH} {iv : IV} {lv : LV} {X : Nat} (hX : XS G E X) {D : DD} {s : TS} {m : Nat} {lg : Nat → TV} {kp : Nat → Option KL} (hD : CD X D iv) (hDW : WD D) (hT : CT X (s, (m, lg), kp) iv) (hW : WT (s, (m, lg), kp)) {Zz : List Frame → Array Value → State → State → Prop} (h : Int64) : (∀ j4, AW G mX10_digest (rm 5 0) Zz (fun _ => True) E.1 84 [some (.ref X), some (.long (dgP s (lg m) h s.1)), none, some (.int (nI s.1)), j4] [] E iv lv) → ∀ (e i : Nat) (j4 : Option Value), i + e = s.1 → AW G mX10_digest (rm 5 0) Zz (fun _ => True) E.1 33 [some (.ref X), some (.long (dgP s (lg m) h i)), none, some (.int (nI i)), j4] [] E iv lv := by
  have hs : WS s := hW.1.1
  have hs7 : s.1 ≤ 7 := hs.1
  have hw : WV s (lg m) := nowW hW
  have hd : lg m 0 ≤ 40 := nowD hW
  have hf : TF (X + 5) s m lg iv := hT.1
  have hr : TR (X + 5) s (lg m) iv := hf.1
  have hm : m ≤ 40 := hW.1.2.1
  intro hk e
  induction e with
  | zero =>
    intro i j4 hi
    have hi : i = s.1 := by omega
    subst hi
    refine aw_iload_n dX10_digest_33 rfl ?_
    refine aw_aload_n dX10_digest_34 rfl ?_
    refine aw_getR dX10_digest_35 fgX10_28 rfl (XS.s0 hX) (XS.r0_3 hX) ?_
    refine aw_getI dX10_digest_38 fgX10_118 rfl (TownS.s0 (XS.town hX)) ?_
    refine aw_icmp_ge (tgt := 84) dX10_digest_41 rfl (fun h41 => ?_) (fun h41 => absurd (by rw [hr.1]; exact nI_le (Nat.le_refl _) (by omega)) h41)
    exact hk j4
  | succ e ih =>
    intro i j4 hi
    refine aw_iload_n dX10_digest_33 rfl ?_
    refine aw_aload_n dX10_digest_34 rfl ?_
    refine aw_getR dX10_digest_35 fgX10_28 rfl (XS.s0 hX) (XS.r0_3 hX) ?_
    refine aw_getI dX10_digest_38 fgX10_118 rfl (TownS.s0 (XS.town hX)) ?_
    refine aw_icmp_ge (tgt := 84) dX10_digest_41 rfl (fun h41 => absurd h41 (by rw [hr.1]; exact nI_ge (by omega) (by omega))) (fun h41 => ?_)
    refine aw_iconst (v := nI 0) dX10_digest_44 kc_0 ?_
    refine aw_istore (lo' := [_,_,_,_,_]) dX10_digest_45 (Nat.le_of_ble_eq_true rfl) rfl ?_
    refine lo_dg2a hX hD hDW hT hW (dgP s (lg m) h i) (i := i) (by omega) ?_ 7 0 (by omega)
    refine aw_iinc (v := _) (lo' := [_,_,_,_,_]) dX10_digest_78 rfl (nI_1 i) rfl ?_
    refine aw_goto (tgt := 33) dX10_digest_81 rfl ?_
    exact ih (i + 1) _ (by omega)
theorem lo_dg3 {G : GC} {E : SH} {iv : IV} {lv : LV} {X : Nat} (hX : XS G E X) {D : DD} {s : TS} {m : Nat} {lg : Nat → TV} {kp : Nat → Option KL} (hD : CD X D iv) (hDW : WD D) (hT : CT X (s, (m, lg), kp) iv) (hW : WT (s, (m, lg), kp)) {Zz : List Frame → Array Value → State → State → Prop} (h : Int64) : (∀ j4, AW G mX10_digest (rm 5 0) Zz (fun _ => True) E.1 114 [some (.ref X), some (.long (digs (fun c => nI (lg m (1 + c))) h 5)), none, some (.int (nI 5)), j4] [] E iv lv) → ∀ (e i : Nat) (j4 : Option Value), i + e = 5 → AW G mX10_digest (rm 5 0) Zz (fun _ => True) E.1 86 [some (.ref X), some (.long (digs (fun c => nI (lg m (1 + c))) h i)), none, some (.int (nI i)), j4] [] E iv lv := by
  have hs : WS s := hW.1.1
  have hs7 : s.1 ≤ 7 := hs.1
  have hw : WV s (lg m) := nowW hW
  have hd : lg m 0 ≤ 40 := nowD hW
  have hf : TF (X + 5) s m lg iv := hT.1
  have hr : TR (X + 5) s (lg m) iv := hf.1
  have hm : m ≤ 40 := hW.1.2.1
  intro hk e
  induction e with
  | zero =>
    intro i j4 hi
    have hi : i = 5 := by omega
    subst hi
    refine aw_iload_n dX10_digest_86 rfl ?_
    refine aw_iconst (v := nI 5) dX10_digest_87 kc_5 ?_
    refine aw_icmp_ge (tgt := 114) dX10_digest_88 rfl (fun h88 => ?_) (fun h88 => absurd (nI_le (Nat.le_refl _) (by decide)) h88)
    exact hk j4
  | succ e ih =>
    intro i j4 hi
    refine aw_iload_n dX10_digest_86 rfl ?_
    refine aw_iconst (v := nI 5) dX10_digest_87 kc_5 ?_
    refine aw_icmp_ge (tgt := 114) dX10_digest_88 rfl (fun h88 => absurd h88 (nI_ge (by omega) (by decide))) (fun h88 => ?_)
    refine aw_ldc2 dX10_digest_91 klX10_281 ?_
    refine aw_lload_n dX10_digest_94 rfl ?_
    refine aw_lmul dX10_digest_95 ?_
    refine aw_aload_n dX10_digest_96 rfl ?_
    refine aw_getR dX10_digest_97 fgX10_28 rfl (XS.s0 hX) (XS.r0_3 hX) ?_
    refine aw_getR dX10_digest_100 fgX10_137 rfl (TownS.s0 (XS.town hX)) (TownS.r0_9 (XS.town hX)) ?_
    refine aw_iload_n dX10_digest_103 rfl ?_
    refine aw_iaload dX10_digest_104 (TownS.s13 (XS.town hX)) rfl (by omega) ?_
    rw [hr.2.2.2 i (by omega)]
    refine aw_i2l dX10_digest_105 ?_
    refine aw_ladd dX10_digest_106 ?_
    refine aw_lstore_n (lo' := [_,_,_,_,_]) dX10_digest_107 (Nat.le_of_ble_eq_true rfl) rfl ?_
    refine aw_iinc (v := _) (lo' := [_,_,_,_,_]) dX10_digest_108 rfl (nI_1 i) rfl ?_
    refine aw_goto (tgt := 86) dX10_digest_111 rfl ?_
    exact ih (i + 1) j4 (by omega)
theorem lo_dg4 {G : GC} {E : SH} {iv : IV} {lv : LV} {X : Nat} (hX : XS G E X) {D : DD} {s : TS} {m : Nat} {lg : Nat → TV} {kp : Nat → Option KL} (hD : CD X D iv) (hDW : WD D) (hT : CT X (s, (m, lg), kp) iv) (hW : WT (s, (m, lg), kp)) {Zz : List Frame → Array Value → State → State → Prop} (h : Int64) : (∀ j4, AW G mX10_digest (rm 5 0) Zz (fun _ => True) E.1 160 [some (.ref X), some (.long (digs (fun k => kpv (kp k)) h 3)), none, some (.int (nI 3)), j4] [] E iv lv) → ∀ (e i : Nat) (j4 : Option Value), i + e = 3 → AW G mX10_digest (rm 5 0) Zz (fun _ => True) E.1 116 [some (.ref X), some (.long (digs (fun k => kpv (kp k)) h i)), none, some (.int (nI i)), j4] [] E iv lv := by
  have hs : WS s := hW.1.1
  have hs7 : s.1 ≤ 7 := hs.1
  have hw : WV s (lg m) := nowW hW
  have hd : lg m 0 ≤ 40 := nowD hW
  have hf : TF (X + 5) s m lg iv := hT.1
  have hr : TR (X + 5) s (lg m) iv := hf.1
  have hm : m ≤ 40 := hW.1.2.1
  intro hk e
  induction e with
  | zero =>
    intro i j4 hi
    have hi : i = 3 := by omega
    subst hi
    refine aw_iload_n dX10_digest_116 rfl ?_
    refine aw_iconst (v := nI 3) dX10_digest_117 kc_3 ?_
    refine aw_icmp_ge (tgt := 160) dX10_digest_118 rfl (fun h118 => ?_) (fun h118 => absurd (nI_le (Nat.le_refl _) (by decide)) h118)
    exact hk j4
  | succ e ih =>
    intro i j4 hi
    obtain ⟨n, hn, e0, e1⟩ := kp_n hT hW (k := i) (by omega)
    refine aw_iload_n dX10_digest_116 rfl ?_
    refine aw_iconst (v := nI 3) dX10_digest_117 kc_3 ?_
    refine aw_icmp_ge (tgt := 160) dX10_digest_118 rfl (fun h118 => absurd h118 (nI_ge (by omega) (by decide))) (fun h118 => ?_)
    refine aw_ldc2 dX10_digest_121 klX10_281 ?_
    refine aw_lload_n dX10_digest_124 rfl ?_
    refine aw_lmul dX10_digest_125 ?_
    refine aw_aload_n dX10_digest_126 rfl ?_
    refine aw_getR dX10_digest_127 fgX10_32 rfl (XS.s0 hX) (XS.r0_4 hX) ?_
    refine aw_iload_n dX10_digest_130 rfl ?_
    refine aw_aaload dX10_digest_131 (XS.s25 hX) ⟨by decide, by decide⟩ rfl (by omega) (XS.keptr hX (k := i) (by omega)) ?_
    refine aw_xVi [] dX10_digest_132 cvX10_131 (TownS.s0 (XS.kept hX (k := i) (by omega))) (t_hasPeople (XS.kept hX (k := i) (by omega)) e0 (by omega)) rfl rfl (Nat.le_of_ble_eq_true rfl) (rb0 (by decide)) ?_
    refine aw_if_eq (tgt := 150) dX10_digest_135 rfl (fun h135 => ?_) (fun h135 => ?_)
    · refine aw_iconst (v := (-1)) dX10_digest_150 kc_m1 ?_
      refine aw_i2l dX10_digest_151 ?_
      refine aw_ladd dX10_digest_152 ?_
      refine aw_lstore_n (lo' := [_,_,_,_,_]) dX10_digest_153 (Nat.le_of_ble_eq_true rfl) rfl ?_
      refine aw_iinc (v := _) (lo' := [_,_,_,_,_]) dX10_digest_154 rfl (nI_1 i) rfl ?_
      refine aw_goto (tgt := 116) dX10_digest_157 rfl ?_
      have h2 := ih (i + 1) j4 (by omega)
      have e2 : digs (fun k => kpv (kp k)) h (i + 1) = 31 * digs (fun k => kpv (kp k)) h i + (kpv (kp i)).toInt64 := rfl
      rw [e2] at h2
      cases e : kp i with
      | none =>
        first
          | exact absurd (e1.mp (zI_n0.mp h135)) (by show ¬ (kp i).isSome = true; rw [e]; decide)
          | (rw [e, show kpv none = -1 from rfl] at h2
             exact h2)
      | some K =>
        first
          | exact absurd (e1.mpr (by show (kp i).isSome = true; rw [e]; rfl)) (zI_0.mp h135)
          | (rw [(hT.2.2 i (by omega) K e).2.1]
             rw [e, show kpv (some K) = nI K.1 from rfl] at h2
             exact h2)
    · refine aw_aload_n dX10_digest_138 rfl ?_
      refine aw_getR dX10_digest_139 fgX10_32 rfl (XS.s0 hX) (XS.r0_4 hX) ?_
      refine aw_iload_n dX10_digest_142 rfl ?_
      refine aw_aaload dX10_digest_143 (XS.s25 hX) ⟨by decide, by decide⟩ rfl (by omega) (XS.keptr hX (k := i) (by omega)) ?_
      refine aw_getI dX10_digest_144 fgX10_168 rfl (TownS.s0 (XS.kept hX (k := i) (by omega))) ?_
      refine aw_goto (tgt := 151) dX10_digest_147 rfl ?_
      refine aw_i2l dX10_digest_151 ?_
      refine aw_ladd dX10_digest_152 ?_
      refine aw_lstore_n (lo' := [_,_,_,_,_]) dX10_digest_153 (Nat.le_of_ble_eq_true rfl) rfl ?_
      refine aw_iinc (v := _) (lo' := [_,_,_,_,_]) dX10_digest_154 rfl (nI_1 i) rfl ?_
      refine aw_goto (tgt := 116) dX10_digest_157 rfl ?_
      have h2 := ih (i + 1) j4 (by omega)
      have e2 : digs (fun k => kpv (kp k)) h (i + 1) = 31 * digs (fun k => kpv (kp k)) h i + (kpv (kp i)).toInt64 := rfl
      rw [e2] at h2
      cases e : kp i with
      | none =>
        first
          | exact absurd (e1.mp (zI_n0.mp h135)) (by show ¬ (kp i).isSome = true; rw [e]; decide)
          | (rw [e, show kpv none = -1 from rfl] at h2
             exact h2)
      | some K =>
        first
          | exact absurd (e1.mpr (by show (kp i).isSome = true; rw [e]; rfl)) (zI_0.mp h135)
          | (rw [(hT.2.2 i (by omega) K e).2.1]
             rw [e, show kpv (some K) = nI K.1 from rfl] at h2
             exact h2)
theorem lo_dg5s {G : GC} {E : SH} {iv : IV} {lv : LV} {X : Nat} (hX : XS G E X) {D : DD} {s : TS} {m : Nat} {lg : Nat → TV} {kp : Nat → Option KL} (hD : CD X D iv) (hDW : WD D) (hT : CT X (s, (m, lg), kp) iv) (hW : WT (s, (m, lg), kp)) {Zz : List Frame → Array Value → State → State → Prop} (h : Int64) {i : Nat} (hi : i < 6) : ExL G mX7_digestedInto 1 [.ref (X + (58 + 2 * i)), .long h] E iv lv (digs (D.2.1 i) (dig h (szv (D.1 i))) ((D.1 i).getD 0)) iv lv := by
  cases e : D.1 i with
  | none =>
    have h2 := hD.1 i hi
    rw [e] at h2
    have h3 := e_digested0 (lv := lv) (XS.row hX (k := i) hi) (h := h) h2
    rw [h2] at h3
    exact h3
  | some k =>
    have hk := hDW.1 i hi k e
    have h2 := hD.1 i hi
    rw [e] at h2
    have h3 := e_digested (lv := lv) (XS.row hX (k := i) hi) (h := h) (m := k) h2 (by omega) (by decide)
    rw [h2, digs_c (fun j hj => hD.2.1 i j hi (by omega))] at h3
    exact h3
theorem lo_dg5 {G : GC} {E : SH} {iv : IV} {lv : LV} {X : Nat} (hX : XS G E X) {D : DD} {s : TS} {m : Nat} {lg : Nat → TV} {kp : Nat → Option KL} (hD : CD X D iv) (hDW : WD D) (hT : CT X (s, (m, lg), kp) iv) (hW : WT (s, (m, lg), kp)) {Zz : List Frame → Array Value → State → State → Prop} (h : Int64) : (∀ j4, AW G mX10_digest (rm 5 0) Zz (fun _ => True) E.1 185 [some (.ref X), some (.long (dgS D.1 D.2.1 h (6))), none, some (.int (nI 6)), j4] [] E iv lv) → ∀ (e i : Nat) (j4 : Option Value), i + e = 6 → AW G mX10_digest (rm 5 0) Zz (fun _ => True) E.1 162 [some (.ref X), some (.long (dgS D.1 D.2.1 h (i))), none, some (.int (nI i)), j4] [] E iv lv := by
  have hs : WS s := hW.1.1
  have hs7 : s.1 ≤ 7 := hs.1
  have hw : WV s (lg m) := nowW hW
  have hd : lg m 0 ≤ 40 := nowD hW
  have hf : TF (X + 5) s m lg iv := hT.1
  have hr : TR (X + 5) s (lg m) iv := hf.1
  have hm : m ≤ 40 := hW.1.2.1
  intro hk e
  induction e with
  | zero =>
    intro i j4 hi
    have hi : i = 6 := by omega
    subst hi
    refine aw_iload_n dX10_digest_162 rfl ?_
    refine aw_bipush (v := nI 6) dX10_digest_163 kb_6 ?_
    refine aw_icmp_ge (tgt := 185) dX10_digest_165 rfl (fun h165 => ?_) (fun h165 => absurd (nI_le (Nat.le_refl _) (by decide)) h165)
    exact hk j4
  | succ e ih =>
    intro i j4 hi
    refine aw_iload_n dX10_digest_162 rfl ?_
    refine aw_bipush (v := nI 6) dX10_digest_163 kb_6 ?_
    refine aw_icmp_ge (tgt := 185) dX10_digest_165 rfl (fun h165 => absurd h165 (nI_ge (by omega) (by decide))) (fun h165 => ?_)
    refine aw_aload_n dX10_digest_168 rfl ?_
    refine aw_getR dX10_digest_169 fgX10_11 rfl (XS.s0 hX) (XS.r0_0 hX) ?_
    refine aw_iload_n dX10_digest_172 rfl ?_
    refine aw_aaload dX10_digest_173 (XS.s1 hX) ⟨by decide, by decide⟩ rfl (by omega) (XS.rowr hX (k := i) (by omega)) ?_
    refine aw_lload_n dX10_digest_174 rfl ?_
    refine aw_xVl [_] dX10_digest_175 cvX10_286 (StripS.s0 (XS.row hX (k := i) (by omega))) (lo_dg5s hX hD hDW hT hW (Zz := Zz) _ (i := i) (by omega)) rfl rfl (Nat.le_of_ble_eq_true rfl) (rb0 (by decide)) ?_
    refine aw_lstore_n (lo' := [_,_,_,_,_]) dX10_digest_178 (Nat.le_of_ble_eq_true rfl) rfl ?_
    refine aw_iinc (v := _) (lo' := [_,_,_,_,_]) dX10_digest_179 rfl (nI_1 i) rfl ?_
    refine aw_goto (tgt := 162) dX10_digest_182 rfl ?_
    exact ih (i + 1) j4 (by omega)
theorem lo_dg6s {G : GC} {E : SH} {iv : IV} {lv : LV} {X : Nat} (hX : XS G E X) {D : DD} {s : TS} {m : Nat} {lg : Nat → TV} {kp : Nat → Option KL} (hD : CD X D iv) (hDW : WD D) (hT : CT X (s, (m, lg), kp) iv) (hW : WT (s, (m, lg), kp)) {Zz : List Frame → Array Value → State → State → Prop} (h : Int64) {i : Nat} (hi : i < 4) : ExL G mX7_digestedInto 1 [.ref (X + (70 + 2 * i)), .long h] E iv lv (digs (D.2.2.2 i) (dig h (szv (D.2.2.1 i))) ((D.2.2.1 i).getD 0)) iv lv := by
  cases e : D.2.2.1 i with
  | none =>
    have h2 := hD.2.2.1 i hi
    rw [e] at h2
    have h3 := e_digested0 (lv := lv) (XS.text hX (k := i) hi) (h := h) h2
    rw [h2] at h3
    exact h3
  | some k =>
    have hk := hDW.2 i hi k e
    have h2 := hD.2.2.1 i hi
    rw [e] at h2
    have h3 := e_digested (lv := lv) (XS.text hX (k := i) hi) (h := h) (m := k) h2 (by omega) (by decide)
    rw [h2, digs_c (fun j hj => hD.2.2.2 i j hi (by omega))] at h3
    exact h3
theorem lo_dg6 {G : GC} {E : SH} {iv : IV} {lv : LV} {X : Nat} (hX : XS G E X) {D : DD} {s : TS} {m : Nat} {lg : Nat → TV} {kp : Nat → Option KL} (hD : CD X D iv) (hDW : WD D) (hT : CT X (s, (m, lg), kp) iv) (hW : WT (s, (m, lg), kp)) {Zz : List Frame → Array Value → State → State → Prop} (h : Int64) : (∀ j4, AW G mX10_digest (rm 5 0) Zz (fun _ => True) E.1 209 [some (.ref X), some (.long (dgS D.2.2.1 D.2.2.2 h (4))), none, some (.int (nI 4)), j4] [] E iv lv) → ∀ (e i : Nat) (j4 : Option Value), i + e = 4 → AW G mX10_digest (rm 5 0) Zz (fun _ => True) E.1 187 [some (.ref X), some (.long (dgS D.2.2.1 D.2.2.2 h (i))), none, some (.int (nI i)), j4] [] E iv lv := by
  have hs : WS s := hW.1.1
  have hs7 : s.1 ≤ 7 := hs.1
  have hw : WV s (lg m) := nowW hW
  have hd : lg m 0 ≤ 40 := nowD hW
  have hf : TF (X + 5) s m lg iv := hT.1
  have hr : TR (X + 5) s (lg m) iv := hf.1
  have hm : m ≤ 40 := hW.1.2.1
  intro hk e
  induction e with
  | zero =>
    intro i j4 hi
    have hi : i = 4 := by omega
    subst hi
    refine aw_iload_n dX10_digest_187 rfl ?_
    refine aw_iconst (v := nI 4) dX10_digest_188 kc_4 ?_
    refine aw_icmp_ge (tgt := 209) dX10_digest_189 rfl (fun h189 => ?_) (fun h189 => absurd (nI_le (Nat.le_refl _) (by decide)) h189)
    exact hk j4
  | succ e ih =>
    intro i j4 hi
    refine aw_iload_n dX10_digest_187 rfl ?_
    refine aw_iconst (v := nI 4) dX10_digest_188 kc_4 ?_
    refine aw_icmp_ge (tgt := 209) dX10_digest_189 rfl (fun h189 => absurd h189 (nI_ge (by omega) (by decide))) (fun h189 => ?_)
    refine aw_aload_n dX10_digest_192 rfl ?_
    refine aw_getR dX10_digest_193 fgX10_15 rfl (XS.s0 hX) (XS.r0_1 hX) ?_
    refine aw_iload_n dX10_digest_196 rfl ?_
    refine aw_aaload dX10_digest_197 (XS.s2 hX) ⟨by decide, by decide⟩ rfl (by omega) (XS.textr hX (k := i) (by omega)) ?_
    refine aw_lload_n dX10_digest_198 rfl ?_
    refine aw_xVl [_] dX10_digest_199 cvX10_286 (StripS.s0 (XS.text hX (k := i) (by omega))) (lo_dg6s hX hD hDW hT hW (Zz := Zz) _ (i := i) (by omega)) rfl rfl (Nat.le_of_ble_eq_true rfl) (rb0 (by decide)) ?_
    refine aw_lstore_n (lo' := [_,_,_,_,_]) dX10_digest_202 (Nat.le_of_ble_eq_true rfl) rfl ?_
    refine aw_iinc (v := _) (lo' := [_,_,_,_,_]) dX10_digest_203 rfl (nI_1 i) rfl ?_
    refine aw_goto (tgt := 187) dX10_digest_206 rfl ?_
    exact ih (i + 1) j4 (by omega)
theorem x_digest {G : GC} {E : SH} {iv : IV} {lv : LV} {X : Nat} (hX : XS G E X) {D : DD} {T : FT} (hD : CD X D iv) (hDW : WD D) (hT : CT X T iv) (hW : WT T) : ExL G mX10_digest 5 [.ref X] E iv lv (dgst D T) iv lv := by
  obtain ⟨s, ⟨m, lg⟩, kp⟩ := T
  refine spec0_of (lo := [_,_,_,_,_]) (by decide) (Nat.le_of_ble_eq_true rfl) rfl ?_
  refine aw_ldc2 dX10_digest_0 klX10_279 ?_
  refine aw_lstore_n (lo' := [_,_,_,_,_]) dX10_digest_3 (Nat.le_of_ble_eq_true rfl) rfl ?_
  refine aw_iconst (v := nI 0) dX10_digest_4 kc_0 ?_
  refine aw_istore_n (lo' := [_,_,_,_,_]) dX10_digest_5 (Nat.le_of_ble_eq_true rfl) rfl ?_
  refine lo_dg1 hX hD hDW hT hW 17 (fun j4 => ?_) 12 0 none (by omega)
  refine aw_iconst (v := nI 0) dX10_digest_31 kc_0 ?_
  refine aw_istore_n (lo' := [_,_,_,_,_]) dX10_digest_32 (Nat.le_of_ble_eq_true rfl) rfl ?_
  refine lo_dg2 hX hD hDW hT hW _ (fun j4 => ?_) s.1 0 j4 (by omega)
  refine aw_iconst (v := nI 0) dX10_digest_84 kc_0 ?_
  refine aw_istore_n (lo' := [_,_,_,_,_]) dX10_digest_85 (Nat.le_of_ble_eq_true rfl) rfl ?_
  refine lo_dg3 hX hD hDW hT hW _ (fun j4 => ?_) 5 0 j4 (by omega)
  refine aw_iconst (v := nI 0) dX10_digest_114 kc_0 ?_
  refine aw_istore_n (lo' := [_,_,_,_,_]) dX10_digest_115 (Nat.le_of_ble_eq_true rfl) rfl ?_
  refine lo_dg4 hX hD hDW hT hW _ (fun j4 => ?_) 3 0 j4 (by omega)
  refine aw_iconst (v := nI 0) dX10_digest_160 kc_0 ?_
  refine aw_istore_n (lo' := [_,_,_,_,_]) dX10_digest_161 (Nat.le_of_ble_eq_true rfl) rfl ?_
  refine lo_dg5 hX hD hDW hT hW _ (fun j4 => ?_) 6 0 j4 (by omega)
  refine aw_iconst (v := nI 0) dX10_digest_185 kc_0 ?_
  refine aw_istore_n (lo' := [_,_,_,_,_]) dX10_digest_186 (Nat.le_of_ble_eq_true rfl) rfl ?_
  refine lo_dg6 hX hD hDW hT hW _ (fun j4 => ?_) 4 0 j4 (by omega)
  refine aw_lload_n dX10_digest_209 rfl ?_
  refine aw_lret dX10_digest_210 rfl (rb0 (Nat.zero_le _)) ⟨rfl, _, rfl, rfl, rfl, rfl⟩
