/-! when to look: the reference -/
def lsG (f : Nat → Nat) (i : Nat) : Nat := if i = 0 then 7 else (bst f i).2
theorem lsG_s {f : Nat → Nat} {i : Nat} : lsG f (i + 1) = (bst f (i + 1)).2 := if_neg (by omega)
theorem bL_s {f : Nat → Nat} {i : Nat} : bL f (i + 1) = nI ((bst f (i + 1)).1 + 1) := if_neg (by omega)
theorem bsG_lt {f : Nat → Nat} {i : Nat} (h : f i < lsG f i) : bL f (i + 1) = nI (i + 1) ∧ lsG f (i + 1) = f i := by
  have e : bst f (i + 1) = (i, f i) := by
    unfold lsG at h
    rw [bst]
    by_cases h0 : i = 0
    · subst h0; exact if_pos rfl
    · rw [if_neg h0] at h
      rw [if_neg h0, if_pos h]
  rw [lsG_s, bL_s, e]
  exact ⟨rfl, rfl⟩
theorem bsG_ge {f : Nat → Nat} {i : Nat} (hb : f i < 7) (h : lsG f i ≤ f i) : bL f (i + 1) = bL f i ∧ lsG f (i + 1) = lsG f i := by
  have h0 : i ≠ 0 := fun e => by
    subst e
    have : lsG f 0 = 7 := if_pos rfl
    omega
  have e : bst f (i + 1) = bst f i := by
    unfold lsG at h
    rw [if_neg h0] at h
    rw [bst, if_neg h0, if_neg (by omega)]
  refine ⟨?_, ?_⟩
  · rw [bL_s, e]; exact (if_neg h0).symm
  · rw [lsG_s, e]; exact (if_neg h0).symm
theorem alk2_0 {s : TS} {v : TV} {i x e a : Nat} (h : x.testBit a = false) : ∀ n, alk2 s v i x e a n = 0
  | 0 => rfl
  | n + 1 => by
    show cntU _ (n + 1) = 0
    rw [cntU_f (by rw [h]; rfl)]
    exact alk2_0 h n
theorem alk2_le {s : TS} {v : TV} {i x e a : Nat} (n : Nat) : alk2 s v i x e a n ≤ n := cntU_le n
theorem m_has {G : GC} {E : SH} {iv : IV} {lv : LV} {x c : Nat} (hx : x < 64) (hc : c < 6) : ExI G mX11_has 1 [.int (nI x), .int (nI c)] E iv lv (zI (x.testBit c = true)) iv lv := by
  refine spec0_of (lo := [_,_]) (by decide) (Nat.le_of_ble_eq_true rfl) rfl ?_
  refine aw_iload_n dX11_has_0 rfl ?_
  refine aw_iload_n dX11_has_1 rfl ?_
  refine aw_ishr dX11_has_2 ?_
  refine aw_iconst (v := nI 1) dX11_has_3 kc_1 ?_
  refine aw_iand dX11_has_4 ?_
  refine aw_iconst (v := nI 1) dX11_has_5 kc_1 ?_
  refine aw_icmp_ne (tgt := 13) dX11_has_6 rfl (fun h6 => ?_) (fun h6 => ?_)
  · refine aw_iconst (v := nI 0) dX11_has_13 kc_0 ?_
    refine aw_zret dX11_has_14 rfl rfl (rb0 (Nat.zero_le _)) ⟨rfl, _, rfl, ?_, rfl, rfl⟩
    rw [eq_comm]
    first
      | exact zI_f (fun q => h6 ((bit1 x hx c hc).mpr q))
      | exact zI_t ((bit1 x hx c hc).mp h6)
  · refine aw_iconst (v := nI 1) dX11_has_9 kc_1 ?_
    refine aw_goto (tgt := 14) dX11_has_10 rfl ?_
    refine aw_zret dX11_has_14 rfl rfl (rb0 (Nat.zero_le _)) ⟨rfl, _, rfl, ?_, rfl, rfl⟩
    rw [eq_comm]
    first
      | exact zI_f (fun q => h6 ((bit1 x hx c hc).mpr q))
      | exact zI_t ((bit1 x hx c hc).mp h6)
theorem m_allAs {G : GC} {E : SH} {iv : IV} {lv : LV} {M : Nat} {s : TS} {v : TV} (hM : MS G E M) (hs : WS s) (hr : SR M s iv) (hv : VR (M + 12) v iv) (hw : WV s v) {i : Nat} (hi : i < s.1) {a n : Nat} (ha : a < 6) (hn : v 0 + n < 2 ^ 20) : SpI G mX11_allAs 7 [.ref M, .int (nI i), .int (nI a), .int (nI n)] E iv lv (fun w i0 l => w = nI (gd (sK s i a) v n) ∧ (∀ b, b ≠ M + 13 → i0 b = iv b) ∧ l = lv) := by
  have h7 := hs.1
  have hf2 : ∀ b, b ≠ M + 9 → va_up iv (M + 9) (upd (iv (M + 9)) i (nI a)) b = iv b := fun b h2 => va_up_n h2
  have h92 : ∀ q, q ≠ i → va_up iv (M + 9) (upd (iv (M + 9)) i (nI a)) (M + 9) q = iv (M + 9) q := fun q hq => by rw [va_up_s, pk_un hq]
  have hr2 : SR M (sK s i a) (va_up iv (M + 9) (upd (iv (M + 9)) i (nI a))) := SR_K hr (by rw [hf2 M (by omega)]) (hf2 _ (by omega)) (hf2 _ (by omega)) h92 (by rw [va_up_s, pk_us])
  have hv2 : VR (M + 12) v (va_up iv (M + 9) (upd (iv (M + 9)) i (nI a))) := fun q hq => by rw [hf2 _ (by omega)]; exact hv q hq
  refine spec0_of (lo := [_,_,_,_,_,_]) (by decide) (Nat.le_of_ble_eq_true rfl) rfl ?_
  refine aw_aload_n dX11_allAs_0 rfl ?_
  refine aw_getR dX11_allAs_1 fgX11_39 rfl (MS.s0 hM) (MS.r0_15 hM) ?_
  refine aw_iload_n dX11_allAs_4 rfl ?_
  refine aw_iaload dX11_allAs_5 (MS.s9 hM) rfl (by omega) ?_
  refine aw_istore (lo' := [_,_,_,_,_,_]) dX11_allAs_6 (Nat.le_of_ble_eq_true rfl) rfl ?_
  refine aw_aload_n dX11_allAs_8 rfl ?_
  refine aw_getR dX11_allAs_9 fgX11_39 rfl (MS.s0 hM) (MS.r0_15 hM) ?_
  refine aw_iload_n dX11_allAs_12 rfl ?_
  refine aw_iload_n dX11_allAs_13 rfl ?_
  refine aw_iastore dX11_allAs_14 (MS.s9 hM) rfl (by omega) ?_
  generalize va_up iv (M + 9) (upd (iv (M + 9)) i (nI a)) = jw at hf2 h92 hr2 hv2 ⊢
  refine aw_aload_n dX11_allAs_15 rfl ?_
  refine aw_xVv [] dX11_allAs_16 cvX11_189 (MS.s0 hM) (m_copyNow hM) rfl rfl (Nat.le_of_ble_eq_true rfl) (rb0 (by decide)) ?_
  have hc13 : VR (M + 13) v (va_up jw (M + 13) (va_cpy (jw (M + 12)) (jw (M + 13)) 0 0 20)) := VR_copy hv2
  have hcq : ∀ b, b ≠ M + 13 → va_up jw (M + 13) (va_cpy (jw (M + 12)) (jw (M + 13)) 0 0 20) b = jw b := fun b hb => va_up_n hb
  generalize va_up jw (M + 13) (va_cpy (jw (M + 12)) (jw (M + 13)) 0 0 20) = civ at hc13 hcq ⊢
  have hcr : SR M (sK s i a) civ := SR_f (by rw [hcq M (by omega)]) (hcq _ (by omega)) (hcq _ (by omega)) (hcq _ (by omega)) hr2
  refine aw_aload_n dX11_allAs_19 rfl ?_
  refine aw_iload_n dX11_allAs_20 rfl ?_
  refine aw_sVi [_] dX11_allAs_21 cvX11_192 (MS.s0 hM) (m_allBehind hM (WS_K hs (i := i) (k := a) ha) hcr hc13 (WV_sK hw) (n := n) hn) rfl rfl (Nat.le_of_ble_eq_true rfl) (rb0 (by decide)) (fun kw kv klv hk => ?_)
  obtain ⟨k0, k1, k2, rfl⟩ := hk
  refine aw_istore (lo' := [_,_,_,_,_,_]) dX11_allAs_24 (Nat.le_of_ble_eq_true rfl) rfl ?_
  refine aw_aload_n dX11_allAs_26 rfl ?_
  refine aw_getR dX11_allAs_27 fgX11_39 rfl (MS.s0 hM) (MS.r0_15 hM) ?_
  refine aw_iload_n dX11_allAs_30 rfl ?_
  refine aw_iload dX11_allAs_31 rfl ?_
  refine aw_iastore dX11_allAs_33 (MS.s9 hM) rfl (by omega) ?_
  refine aw_iload dX11_allAs_34 rfl ?_
  refine aw_iret dX11_allAs_36 rfl (rb0 (Nat.zero_le _)) ⟨rfl, _, rfl, k0, fun b hb => ?_, rfl⟩
  by_cases e9 : b = M + 9
  · subst e9
    rw [va_up_s]
    exact back_up (fun q hq => by rw [k2 _ (by omega), hcq _ (by omega)]; exact h92 q hq)
  · rw [va_up_n e9, k2 b hb, hcq b hb]; exact hf2 b e9
theorem lo_test3 {G : GC} {E : SH} {iv : IV} {lv : LV} {M : Nat} {s : TS} {v : TV} (hM : MS G E M) (hs : WS s) (hr : SR M s iv) (hv : VR (M + 12) v iv) (hw : WV s v) {i : Nat} (hi : i < s.1) (hd : v 0 ≤ 40) {x : Nat} (hx : x < 64) {y2 y3 : Int32} {Zz : List Frame → Array Value → State → State → Prop} {e a : Nat} (he : e ≤ 20) (ha : a < 6) (hb : x.testBit a = true) {y5 y6 y8 : Int32} : (∀ i0, (∀ b, b ≠ M + 13 → i0 b = iv b) → AW G mX11_test (rm 8 0) Zz (fun _ => True) E.1 127 [some (.ref M), some (.int (nI i)), some (.int y2), some (.int y3), some (.int (nI x)), some (.int (y5)), some (.int (y6)), some (.int (nI e)), some (.int (y8)), some (.int (nI a)), some (.int (nI (alk2 s v i x e a 6))), some (.int (nI 6))] [] E i0 lv) → ∀ (c q : Nat) (jv : IV), q + c = 6 → (∀ b, b ≠ M + 13 → jv b = iv b) → AW G mX11_test (rm 8 0) Zz (fun _ => True) E.1 63 [some (.ref M), some (.int (nI i)), some (.int y2), some (.int y3), some (.int (nI x)), some (.int (y5)), some (.int (y6)), some (.int (nI e)), some (.int (y8)), some (.int (nI a)), some (.int (nI (alk2 s v i x e a q))), some (.int (nI q))] [] E jv lv := by
  intro hK c
  induction c with
  | zero =>
    intro q jv hc hf
    have hc : q = 6 := by omega
    subst hc
    refine aw_iload dX11_test_63 rfl ?_
    refine aw_bipush (v := nI 6) dX11_test_65 kb_6 ?_
    refine aw_icmp_ge (tgt := 127) dX11_test_67 rfl (fun h67 => ?_) (fun h67 => absurd (by decide) h67)
    exact hK jv hf
  | succ c ih =>
    intro q jv hc hf
    have hrj : SR M s jv := SR_f (by rw [hf M (by omega)]) (hf _ (by omega)) (hf _ (by omega)) (hf _ (by omega)) hr
    have hvj : VR (M + 12) v jv := fun z hz => by rw [hf _ (by omega)]; exact hv z hz
    have g1 := gd_le (WS_K hs (i := i) (k := a) ha) (WV_sK hw) (d := e) (by omega)
    have g2 := gd_le (WS_K hs (i := i) (k := q) (by omega)) (WV_sK hw) (d := e) (by omega)
    refine aw_iload dX11_test_63 rfl ?_
    refine aw_bipush (v := nI 6) dX11_test_65 kb_6 ?_
    refine aw_icmp_ge (tgt := 127) dX11_test_67 rfl (fun h67 => absurd h67 (nI_ge (by omega) (by decide))) (fun h67 => ?_)
    refine aw_iload dX11_test_70 rfl ?_
    refine aw_iload dX11_test_72 rfl ?_
    refine aw_xSi [_, _] dX11_test_74 csX11_215 (m_has hx ha) rfl rfl (Nat.le_of_ble_eq_true rfl) (rb0 (by decide)) ?_
    refine aw_if_eq (tgt := 127) dX11_test_77 rfl (fun h77 => ?_) (fun h77 => ?_)
    · exact absurd hb (zI_0.mp h77)
    · refine aw_iload dX11_test_80 rfl ?_
      refine aw_iload dX11_test_82 rfl ?_
      refine aw_iload dX11_test_84 rfl ?_
      refine aw_xSi [_, _] dX11_test_86 csX11_215 (m_has (c := q) hx (by omega)) rfl rfl (Nat.le_of_ble_eq_true rfl) (rb0 (by decide)) ?_
      refine aw_if_eq (tgt := 117) dX11_test_89 rfl (fun h89 => ?_) (fun h89 => ?_)
      · refine aw_iconst (v := nI 0) dX11_test_117 kc_0 ?_
        refine aw_iadd dX11_test_118 ?_
        rw [nI_add]
        refine aw_istore (lo' := [_,_,_,_,_,_,_,_,_,_,_,_]) dX11_test_119 (Nat.le_of_ble_eq_true rfl) rfl ?_
        refine aw_iinc (v := _) (lo' := [_,_,_,_,_,_,_,_,_,_,_,_]) dX11_test_121 rfl (nI_1 q) rfl ?_
        refine aw_goto (tgt := 63) dX11_test_124 rfl ?_
        first
          | (have h := ih (q + 1) jv (by omega) hf
             rw [show alk2 s v i x e a (q + 1) = alk2 s v i x e a q from cntU_f (by (try dsimp only); rw [Bool.eq_false_iff.mpr (zI_0.mp h89), Bool.and_false, Bool.false_and])] at h
             exact h)
          | (have h := ih (q + 1) kv2 (by omega) (fun b hb => by rw [k22 b hb, k2 b hb]; exact hf b hb)
             rw [show alk2 s v i x e a (q + 1) = alk2 s v i x e a q from cntU_f (by (try dsimp only); unfold sameT; rw [decide_eq_false h110, Bool.and_false])] at h
             exact h)
          | (have h := ih (q + 1) kv2 (by omega) (fun b hb => by rw [k22 b hb, k2 b hb]; exact hf b hb)
             rw [show alk2 s v i x e a (q + 1) = alk2 s v i x e a q + 1 from cntU_t (by (try dsimp only); unfold sameT; rw [decide_eq_true h110, hb, zI_n0.mp h89]; rfl)] at h
             exact h)
      · refine aw_aload_n dX11_test_92 rfl ?_
        refine aw_iload_n dX11_test_93 rfl ?_
        refine aw_iload dX11_test_94 rfl ?_
        refine aw_iload dX11_test_96 rfl ?_
        refine aw_sVi [_, _, _] dX11_test_98 cvX11_218 (MS.s0 hM) (m_allAs hM hs hrj hvj hw hi (a := a) (n := e) ha (by omega)) rfl rfl (Nat.le_of_ble_eq_true rfl) (rb0 (by decide)) (fun kw kv klv hk => ?_)
        obtain ⟨k0, k2, rfl⟩ := hk
        subst k0
        have hrk : SR M s kv := SR_f (by rw [k2 M (by omega)]) (k2 _ (by omega)) (k2 _ (by omega)) (k2 _ (by omega)) hrj
        have hvk : VR (M + 12) v kv := fun z hz => by rw [k2 _ (by omega)]; exact hvj z hz
        refine aw_aload_n dX11_test_101 rfl ?_
        refine aw_iload_n dX11_test_102 rfl ?_
        refine aw_iload dX11_test_103 rfl ?_
        refine aw_iload dX11_test_105 rfl ?_
        refine aw_sVi [_, _, _] dX11_test_107 cvX11_218 (MS.s0 hM) (m_allAs hM hs hrk hvk hw hi (a := q) (n := e) (by omega) (by omega)) rfl rfl (Nat.le_of_ble_eq_true rfl) (rb0 (by decide)) (fun kw2 kv2 klv2 hk => ?_)
        obtain ⟨k02, k22, rfl⟩ := hk
        subst k02
        refine aw_icmp_ne (tgt := 117) dX11_test_110 rfl (fun h110 => ?_) (fun h110 => ?_)
        · rw [nI_eq (by omega) (by omega)] at h110
          refine aw_iconst (v := nI 0) dX11_test_117 kc_0 ?_
          refine aw_iadd dX11_test_118 ?_
          rw [nI_add]
          refine aw_istore (lo' := [_,_,_,_,_,_,_,_,_,_,_,_]) dX11_test_119 (Nat.le_of_ble_eq_true rfl) rfl ?_
          refine aw_iinc (v := _) (lo' := [_,_,_,_,_,_,_,_,_,_,_,_]) dX11_test_121 rfl (nI_1 q) rfl ?_
          refine aw_goto (tgt := 63) dX11_test_124 rfl ?_
          first
            | (have h := ih (q + 1) jv (by omega) hf
               rw [show alk2 s v i x e a (q + 1) = alk2 s v i x e a q from cntU_f (by (try dsimp only); rw [Bool.eq_false_iff.mpr (zI_0.mp h89), Bool.and_false, Bool.false_and])] at h
               exact h)
            | (have h := ih (q + 1) kv2 (by omega) (fun b hb => by rw [k22 b hb, k2 b hb]; exact hf b hb)
               rw [show alk2 s v i x e a (q + 1) = alk2 s v i x e a q from cntU_f (by (try dsimp only); unfold sameT; rw [decide_eq_false h110, Bool.and_false])] at h
               exact h)
            | (have h := ih (q + 1) kv2 (by omega) (fun b hb => by rw [k22 b hb, k2 b hb]; exact hf b hb)
               rw [show alk2 s v i x e a (q + 1) = alk2 s v i x e a q + 1 from cntU_t (by (try dsimp only); unfold sameT; rw [decide_eq_true h110, hb, zI_n0.mp h89]; rfl)] at h
               exact h)
        · rw [nI_eq (by omega) (by omega)] at h110
          refine aw_iconst (v := nI 1) dX11_test_113 kc_1 ?_
          refine aw_goto (tgt := 118) dX11_test_114 rfl ?_
          refine aw_iadd dX11_test_118 ?_
          rw [nI_add]
          refine aw_istore (lo' := [_,_,_,_,_,_,_,_,_,_,_,_]) dX11_test_119 (Nat.le_of_ble_eq_true rfl) rfl ?_
          refine aw_iinc (v := _) (lo' := [_,_,_,_,_,_,_,_,_,_,_,_]) dX11_test_121 rfl (nI_1 q) rfl ?_
          refine aw_goto (tgt := 63) dX11_test_124 rfl ?_
          first
            | (have h := ih (q + 1) jv (by omega) hf
               rw [show alk2 s v i x e a (q + 1) = alk2 s v i x e a q from cntU_f (by (try dsimp only); rw [Bool.eq_false_iff.mpr (zI_0.mp h89), Bool.and_false, Bool.false_and])] at h
               exact h)
            | (have h := ih (q + 1) kv2 (by omega) (fun b hb => by rw [k22 b hb, k2 b hb]; exact hf b hb)
               rw [show alk2 s v i x e a (q + 1) = alk2 s v i x e a q from cntU_f (by (try dsimp only); unfold sameT; rw [decide_eq_false h110, Bool.and_false])] at h
               exact h)
            | (have h := ih (q + 1) kv2 (by omega) (fun b hb => by rw [k22 b hb, k2 b hb]; exact hf b hb)
               rw [show alk2 s v i x e a (q + 1) = alk2 s v i x e a q + 1 from cntU_t (by (try dsimp only); unfold sameT; rw [decide_eq_true h110, hb, zI_n0.mp h89]; rfl)] at h
               exact h)
theorem lo_test2 {G : GC} {E : SH} {iv : IV} {lv : LV} {M : Nat} {s : TS} {v : TV} (hM : MS G E M) (hs : WS s) (hr : SR M s iv) (hv : VR (M + 12) v iv) (hw : WV s v) {i : Nat} (hi : i < s.1) (hd : v 0 ≤ 40) {x : Nat} (hx : x < 64) {y2 y3 : Int32} {Zz : List Frame → Array Value → State → State → Prop} {e : Nat} (he : e ≤ 20) {y5 y6 : Int32} : (∀ i0 j10 j11, (∀ b, b ≠ M + 13 → i0 b = iv b) → AW G mX11_test (rm 8 0) Zz (fun _ => True) E.1 149 [some (.ref M), some (.int (nI i)), some (.int y2), some (.int y3), some (.int (nI x)), some (.int (y5)), some (.int (y6)), some (.int (nI e)), some (.int (nI (mxU (fun a => alk2 s v i x e a 6) 6))), some (.int (nI 6)), j10, j11] [] E i0 lv) → ∀ (c a : Nat) (jv : IV) (j10 j11 : Option Value), a + c = 6 → (∀ b, b ≠ M + 13 → jv b = iv b) → AW G mX11_test (rm 8 0) Zz (fun _ => True) E.1 50 [some (.ref M), some (.int (nI i)), some (.int y2), some (.int y3), some (.int (nI x)), some (.int (y5)), some (.int (y6)), some (.int (nI e)), some (.int (nI (mxU (fun a => alk2 s v i x e a 6) a))), some (.int (nI a)), j10, j11] [] E jv lv := by
  intro hK c
  induction c with
  | zero =>
    intro a jv j10 j11 hc hf
    have hc : a = 6 := by omega
    subst hc
    refine aw_iload dX11_test_50 rfl ?_
    refine aw_bipush (v := nI 6) dX11_test_52 kb_6 ?_
    refine aw_icmp_ge (tgt := 149) dX11_test_54 rfl (fun h54 => ?_) (fun h54 => absurd (by decide) h54)
    exact hK jv j10 j11 hf
  | succ c ih =>
    intro a jv j10 j11 hc hf
    have hm1 : mxU (fun a => alk2 s v i x e a 6) a ≤ 6 := mxU_le a (fun j _ => alk2_le 6)
    have hm2 : alk2 s v i x e a 6 ≤ 6 := alk2_le 6
    cases hb : x.testBit a with
    | true =>
      refine aw_iload dX11_test_50 rfl ?_
      refine aw_bipush (v := nI 6) dX11_test_52 kb_6 ?_
      refine aw_icmp_ge (tgt := 149) dX11_test_54 rfl (fun h54 => absurd h54 (nI_ge (by omega) (by decide))) (fun h54 => ?_)
      refine aw_iconst (v := nI 0) dX11_test_57 kc_0 ?_
      refine aw_istore (lo' := [_,_,_,_,_,_,_,_,_,_,_,_]) dX11_test_58 (Nat.le_of_ble_eq_true rfl) rfl ?_
      refine aw_iconst (v := nI 0) dX11_test_60 kc_0 ?_
      refine aw_istore (lo' := [_,_,_,_,_,_,_,_,_,_,_,_]) dX11_test_61 (Nat.le_of_ble_eq_true rfl) rfl ?_
      refine lo_test3 hM hs hr hv hw hi hd hx he (by omega) hb (fun i1 hf1 => ?_) 6 0 jv (by omega) hf
      refine aw_iload dX11_test_127 rfl ?_
      refine aw_iload dX11_test_129 rfl ?_
      refine aw_icmp_le (tgt := 139) dX11_test_131 rfl (fun h131 => ?_) (fun h131 => ?_)
      · rw [nI_leI (by omega) (by omega)] at h131
        refine aw_iload dX11_test_139 rfl ?_
        refine aw_istore (lo' := [_,_,_,_,_,_,_,_,_,_,_,_]) dX11_test_141 (Nat.le_of_ble_eq_true rfl) rfl ?_
        refine aw_iinc (v := _) (lo' := [_,_,_,_,_,_,_,_,_,_,_,_]) dX11_test_143 rfl (nI_1 a) rfl ?_
        refine aw_goto (tgt := 50) dX11_test_146 rfl ?_
        first
          | exact absurd (Nat.zero_le _) h131
          | (have h := fun z1 z2 => ih (a + 1) i1 z1 z2 (by omega) hf1
             rw [show mxU (fun a => alk2 s v i x e a 6) (a + 1) = alk2 s v i x e a 6 by rw [mxU]; omega] at h
             exact h _ _)
          | (have h := fun z1 z2 => ih (a + 1) i1 z1 z2 (by omega) hf1
             rw [show mxU (fun a => alk2 s v i x e a 6) (a + 1) = mxU (fun a => alk2 s v i x e a 6) a by rw [mxU]; omega] at h
             exact h _ _)
      · rw [nI_leI (by omega) (by omega)] at h131
        refine aw_iload dX11_test_134 rfl ?_
        refine aw_goto (tgt := 141) dX11_test_136 rfl ?_
        refine aw_istore (lo' := [_,_,_,_,_,_,_,_,_,_,_,_]) dX11_test_141 (Nat.le_of_ble_eq_true rfl) rfl ?_
        refine aw_iinc (v := _) (lo' := [_,_,_,_,_,_,_,_,_,_,_,_]) dX11_test_143 rfl (nI_1 a) rfl ?_
        refine aw_goto (tgt := 50) dX11_test_146 rfl ?_
        first
          | exact absurd (Nat.zero_le _) h131
          | (have h := fun z1 z2 => ih (a + 1) i1 z1 z2 (by omega) hf1
             rw [show mxU (fun a => alk2 s v i x e a 6) (a + 1) = alk2 s v i x e a 6 by rw [mxU]; omega] at h
             exact h _ _)
          | (have h := fun z1 z2 => ih (a + 1) i1 z1 z2 (by omega) hf1
             rw [show mxU (fun a => alk2 s v i x e a 6) (a + 1) = mxU (fun a => alk2 s v i x e a 6) a by rw [mxU]; omega] at h
             exact h _ _)
    | false =>
      have hz : alk2 s v i x e a 6 = 0 := alk2_0 hb 6
      refine aw_iload dX11_test_50 rfl ?_
      refine aw_bipush (v := nI 6) dX11_test_52 kb_6 ?_
      refine aw_icmp_ge (tgt := 149) dX11_test_54 rfl (fun h54 => absurd h54 (nI_ge (by omega) (by decide))) (fun h54 => ?_)
      refine aw_iconst (v := nI 0) dX11_test_57 kc_0 ?_
      refine aw_istore (lo' := [_,_,_,_,_,_,_,_,_,_,_,_]) dX11_test_58 (Nat.le_of_ble_eq_true rfl) rfl ?_
      refine aw_iconst (v := nI 0) dX11_test_60 kc_0 ?_
      refine aw_istore (lo' := [_,_,_,_,_,_,_,_,_,_,_,_]) dX11_test_61 (Nat.le_of_ble_eq_true rfl) rfl ?_
      refine aw_iload dX11_test_63 rfl ?_
      refine aw_bipush (v := nI 6) dX11_test_65 kb_6 ?_
      refine aw_icmp_ge (tgt := 127) dX11_test_67 rfl (fun h67 => absurd h67 (by decide)) (fun h67 => ?_)
      refine aw_iload dX11_test_70 rfl ?_
      refine aw_iload dX11_test_72 rfl ?_
      refine aw_xSi [_, _] dX11_test_74 csX11_215 (m_has (c := a) hx (by omega)) rfl rfl (Nat.le_of_ble_eq_true rfl) (rb0 (by decide)) ?_
      refine aw_if_eq (tgt := 127) dX11_test_77 rfl (fun h77 => ?_) (fun h77 => ?_)
      · try skip
        refine aw_iload dX11_test_127 rfl ?_
        refine aw_iload dX11_test_129 rfl ?_
        refine aw_icmp_le (tgt := 139) dX11_test_131 rfl (fun h131 => ?_) (fun h131 => ?_)
        · rw [nI_leI (by omega) (by omega)] at h131
          refine aw_iload dX11_test_139 rfl ?_
          refine aw_istore (lo' := [_,_,_,_,_,_,_,_,_,_,_,_]) dX11_test_141 (Nat.le_of_ble_eq_true rfl) rfl ?_
          refine aw_iinc (v := _) (lo' := [_,_,_,_,_,_,_,_,_,_,_,_]) dX11_test_143 rfl (nI_1 a) rfl ?_
          refine aw_goto (tgt := 50) dX11_test_146 rfl ?_
          first
            | exact absurd (Nat.zero_le _) h131
            | (have h := fun z1 z2 => ih (a + 1) jv z1 z2 (by omega) hf
               rw [show mxU (fun a => alk2 s v i x e a 6) (a + 1) = alk2 s v i x e a 6 by rw [mxU]; omega] at h
               exact h _ _)
            | (have h := fun z1 z2 => ih (a + 1) jv z1 z2 (by omega) hf
               rw [show mxU (fun a => alk2 s v i x e a 6) (a + 1) = mxU (fun a => alk2 s v i x e a 6) a by rw [mxU]; omega] at h
               exact h _ _)
        · rw [nI_leI (by omega) (by omega)] at h131
          refine aw_iload dX11_test_134 rfl ?_
          refine aw_goto (tgt := 141) dX11_test_136 rfl ?_
          refine aw_istore (lo' := [_,_,_,_,_,_,_,_,_,_,_,_]) dX11_test_141 (Nat.le_of_ble_eq_true rfl) rfl ?_
          refine aw_iinc (v := _) (lo' := [_,_,_,_,_,_,_,_,_,_,_,_]) dX11_test_143 rfl (nI_1 a) rfl ?_
          refine aw_goto (tgt := 50) dX11_test_146 rfl ?_
          first
            | exact absurd (Nat.zero_le _) h131
            | (have h := fun z1 z2 => ih (a + 1) jv z1 z2 (by omega) hf
               rw [show mxU (fun a => alk2 s v i x e a 6) (a + 1) = alk2 s v i x e a 6 by rw [mxU]; omega] at h
               exact h _ _)
            | (have h := fun z1 z2 => ih (a + 1) jv z1 z2 (by omega) hf
               rw [show mxU (fun a => alk2 s v i x e a 6) (a + 1) = mxU (fun a => alk2 s v i x e a 6) a by rw [mxU]; omega] at h
               exact h _ _)
      · exact absurd (zI_n0.mp h77) (by rw [hb]; decide)
theorem lo_test1 {G : GC} {E : SH} {iv : IV} {lv : LV} {M : Nat} {s : TS} {v : TV} (hM : MS G E M) (hs : WS s) (hr : SR M s iv) (hv : VR (M + 12) v iv) (hw : WV s v) {i : Nat} (hi : i < s.1) (hd : v 0 ≤ 40) {x : Nat} (hx : x < 64) {y2 y3 : Int32} (hx0 : x ≠ 0) {Q : Option Value → IV → LV → Prop} (hQ : ∀ i0, (∀ b, b ≠ M + 13 → i0 b = iv b) → Q (some (.int (nI ((bst (fLk s v i x) 20).1 + 1)))) (telN M i0 (nI (bst (fLk s v i x) 20).2)) lv) : ∀ (c e : Nat) (jv : IV) (j8 j9 j10 j11 : Option Value), e + c = 20 → (∀ b, b ≠ M + 13 → jv b = iv b) → AW G mX11_test (rm 8 0) (Z0 G 8 E Q) (fun _ => True) E.1 32 [some (.ref M), some (.int (nI i)), some (.int y2), some (.int y3), some (.int (nI x)), some (.int (bL (fLk s v i x) e)), some (.int (nI (lsG (fLk s v i x) e))), some (.int (nI (e + 1))), j8, j9, j10, j11] [] E jv lv := by
  have hfb : ∀ e, fLk s v i x e ≤ 6 := fun e => mxU_le 6 (fun j _ => alk2_le 6)
  intro c
  induction c with
  | zero =>
    intro e jv j8 j9 j10 j11 hc hf
    have hc : e = 20 := by omega
    subst hc
    have hb1 : (bst (fLk s v i x) 20).1 ≤ 20 := bst_1 20
    refine aw_iload dX11_test_32 rfl ?_
    refine aw_bipush (v := nI 20) dX11_test_34 kb_20 ?_
    refine aw_icmp_gt (tgt := 187) dX11_test_36 rfl (fun h36 => ?_) (fun h36 => absurd (by decide) h36)
    refine aw_iload dX11_test_187 rfl ?_
    refine aw_bipush (v := (-9)) dX11_test_189 kb_m9 ?_
    refine aw_icmp_ne (tgt := 199) dX11_test_191 rfl (fun h191 => ?_) (fun h191 => absurd h191 (nI_n9 (k := (bst (fLk s v i x) 20).1 + 1) (by omega)))
    refine aw_aload_n dX11_test_199 rfl ?_
    refine aw_iload dX11_test_200 rfl ?_
    refine aw_iload dX11_test_202 rfl ?_
    refine aw_xVi [_, _] dX11_test_204 cvX11_92 (MS.s0 hM) (m_tells hM _ _) rfl rfl (Nat.le_of_ble_eq_true rfl) (rb0 (by decide)) ?_
    refine aw_iret dX11_test_207 rfl (rb0 (Nat.zero_le _)) ⟨rfl, hQ jv hf⟩
  | succ c ih =>
    intro e jv j8 j9 j10 j11 hc hf
    have hL : lsG (fLk s v i x) e ≤ 7 := by
      unfold lsG
      split
      · exact Nat.le_refl _
      · have := (bst_le (f := fLk s v i x) (c := 6) e (fun j _ => hfb j)).1
        omega
    have hfe := hfb e
    have hfe2 : fLk s v i x e = mxU (fun a => alk2 s v i x (e + 1) a 6) 6 := rfl
    refine aw_iload dX11_test_32 rfl ?_
    refine aw_bipush (v := nI 20) dX11_test_34 kb_20 ?_
    refine aw_icmp_gt (tgt := 187) dX11_test_36 rfl (fun h36 => absurd h36 (nI_nlt (by omega) (by decide))) (fun h36 => ?_)
    refine aw_iload dX11_test_39 rfl ?_
    refine aw_if_eq (tgt := 187) dX11_test_41 rfl (fun h41 => ?_) (fun h41 => ?_)
    · (rw [← nI_0, nI_eq (by omega) (by decide)] at h41; exact absurd h41 hx0)
    · refine aw_iconst (v := nI 0) dX11_test_44 kc_0 ?_
      refine aw_istore (lo' := [_,_,_,_,_,_,_,_,_,_,_,_]) dX11_test_45 (Nat.le_of_ble_eq_true rfl) rfl ?_
      refine aw_iconst (v := nI 0) dX11_test_47 kc_0 ?_
      refine aw_istore (lo' := [_,_,_,_,_,_,_,_,_,_,_,_]) dX11_test_48 (Nat.le_of_ble_eq_true rfl) rfl ?_
      refine lo_test2 hM hs hr hv hw hi hd hx (e := e + 1) (by omega) (fun i1 k10 k11 hf1 => ?_) 6 0 jv _ _ (by omega) hf
      rw [← hfe2]
      refine aw_iload dX11_test_149 rfl ?_
      refine aw_iload dX11_test_151 rfl ?_
      refine aw_icmp_ge (tgt := 161) dX11_test_153 rfl (fun h153 => ?_) (fun h153 => ?_)
      · rw [nI_leI (by omega) (by omega)] at h153
        refine aw_iload dX11_test_161 rfl ?_
        refine aw_istore (lo' := [_,_,_,_,_,_,_,_,_,_,_,_]) dX11_test_163 (Nat.le_of_ble_eq_true rfl) rfl ?_
        refine aw_iload dX11_test_165 rfl ?_
        refine aw_iload dX11_test_167 rfl ?_
        refine aw_icmp_ge (tgt := 177) dX11_test_169 rfl (fun h169 => ?_) (fun h169 => ?_)
        · rw [nI_leI (by omega) (by omega)] at h169
          refine aw_iload dX11_test_177 rfl ?_
          refine aw_istore (lo' := [_,_,_,_,_,_,_,_,_,_,_,_]) dX11_test_179 (Nat.le_of_ble_eq_true rfl) rfl ?_
          refine aw_iinc (v := _) (lo' := [_,_,_,_,_,_,_,_,_,_,_,_]) dX11_test_181 rfl (nI_1 (e + 1)) rfl ?_
          refine aw_goto (tgt := 32) dX11_test_184 rfl ?_
          first
            | exact absurd h153 h169
            | exact absurd h169 h153
            | (have h := fun z1 z2 => ih (e + 1) i1 z1 z2 k10 k11 (by omega) hf1
               rw [(bsG_ge (by omega) h153).1, (bsG_ge (by omega) h153).2] at h
               exact h _ _)
            | (have h := fun z1 z2 => ih (e + 1) i1 z1 z2 k10 k11 (by omega) hf1
               rw [(bsG_lt (Nat.not_le.mp h153)).1, (bsG_lt (Nat.not_le.mp h153)).2] at h
               exact h _ _)
        · rw [nI_leI (by omega) (by omega)] at h169
          refine aw_iload dX11_test_172 rfl ?_
          refine aw_goto (tgt := 179) dX11_test_174 rfl ?_
          refine aw_istore (lo' := [_,_,_,_,_,_,_,_,_,_,_,_]) dX11_test_179 (Nat.le_of_ble_eq_true rfl) rfl ?_
          refine aw_iinc (v := _) (lo' := [_,_,_,_,_,_,_,_,_,_,_,_]) dX11_test_181 rfl (nI_1 (e + 1)) rfl ?_
          refine aw_goto (tgt := 32) dX11_test_184 rfl ?_
          first
            | exact absurd h153 h169
            | exact absurd h169 h153
            | (have h := fun z1 z2 => ih (e + 1) i1 z1 z2 k10 k11 (by omega) hf1
               rw [(bsG_ge (by omega) h153).1, (bsG_ge (by omega) h153).2] at h
               exact h _ _)
            | (have h := fun z1 z2 => ih (e + 1) i1 z1 z2 k10 k11 (by omega) hf1
               rw [(bsG_lt (Nat.not_le.mp h153)).1, (bsG_lt (Nat.not_le.mp h153)).2] at h
               exact h _ _)
      · rw [nI_leI (by omega) (by omega)] at h153
        refine aw_iload dX11_test_156 rfl ?_
        refine aw_goto (tgt := 163) dX11_test_158 rfl ?_
        refine aw_istore (lo' := [_,_,_,_,_,_,_,_,_,_,_,_]) dX11_test_163 (Nat.le_of_ble_eq_true rfl) rfl ?_
        refine aw_iload dX11_test_165 rfl ?_
        refine aw_iload dX11_test_167 rfl ?_
        refine aw_icmp_ge (tgt := 177) dX11_test_169 rfl (fun h169 => ?_) (fun h169 => ?_)
        · rw [nI_leI (by omega) (by omega)] at h169
          refine aw_iload dX11_test_177 rfl ?_
          refine aw_istore (lo' := [_,_,_,_,_,_,_,_,_,_,_,_]) dX11_test_179 (Nat.le_of_ble_eq_true rfl) rfl ?_
          refine aw_iinc (v := _) (lo' := [_,_,_,_,_,_,_,_,_,_,_,_]) dX11_test_181 rfl (nI_1 (e + 1)) rfl ?_
          refine aw_goto (tgt := 32) dX11_test_184 rfl ?_
          first
            | exact absurd h153 h169
            | exact absurd h169 h153
            | (have h := fun z1 z2 => ih (e + 1) i1 z1 z2 k10 k11 (by omega) hf1
               rw [(bsG_ge (by omega) h153).1, (bsG_ge (by omega) h153).2] at h
               exact h _ _)
            | (have h := fun z1 z2 => ih (e + 1) i1 z1 z2 k10 k11 (by omega) hf1
               rw [(bsG_lt (Nat.not_le.mp h153)).1, (bsG_lt (Nat.not_le.mp h153)).2] at h
               exact h _ _)
        · rw [nI_leI (by omega) (by omega)] at h169
          refine aw_iload dX11_test_172 rfl ?_
          refine aw_goto (tgt := 179) dX11_test_174 rfl ?_
          refine aw_istore (lo' := [_,_,_,_,_,_,_,_,_,_,_,_]) dX11_test_179 (Nat.le_of_ble_eq_true rfl) rfl ?_
          refine aw_iinc (v := _) (lo' := [_,_,_,_,_,_,_,_,_,_,_,_]) dX11_test_181 rfl (nI_1 (e + 1)) rfl ?_
          refine aw_goto (tgt := 32) dX11_test_184 rfl ?_
          first
            | exact absurd h153 h169
            | exact absurd h169 h153
            | (have h := fun z1 z2 => ih (e + 1) i1 z1 z2 k10 k11 (by omega) hf1
               rw [(bsG_ge (by omega) h153).1, (bsG_ge (by omega) h153).2] at h
               exact h _ _)
            | (have h := fun z1 z2 => ih (e + 1) i1 z1 z2 k10 k11 (by omega) hf1
               rw [(bsG_lt (Nat.not_le.mp h153)).1, (bsG_lt (Nat.not_le.mp h153)).2] at h
               exact h _ _)
theorem m_test {G : GC} {E : SH} {iv : IV} {lv : LV} {M : Nat} (hM : MS G E M) {A : AA} {D : DD} {T : FT} (hA : MA M A iv lv) (hD : MD M D iv) (hT : MT M T iv) (hW : WT T) (hDW : WD D) (i r : Int32) : SpI G mX11_test 8 [.ref M, .int i, .int r] E iv lv (QD M iv lv (oTest A D T i r)) := by
  obtain ⟨s, ⟨m, lg⟩, kp⟩ := T
  have hs : WS s := hW.1.1
  have hs7 : s.1 ≤ 7 := hs.1
  have hw : WV s (lg m) := nowW hW
  have hd : lg m 0 ≤ 40 := nowD hW
  have hr : SR M s iv := hT.1
  have hv : VR (M + 12) (lg m) iv := hT.2.2.1
  have h20 : iv M 20 = nI m := hT.2.1
  have hm : m ≤ 40 := hW.1.2.1
  cases hq0 : oRec A D (s, (m, lg), kp) i r with
  | some q =>
    obtain ⟨p, B⟩ := q
    have e : oTest A D (s, (m, lg), kp) i r = (p, B, D, (s, (m, lg), kp)) := by
      unfold oTest
      rw [hq0]
    rw [e]
    refine spec0_of (lo := [_,_,_,_,_,_,_,_,_,_,_,_]) (by decide) (Nat.le_of_ble_eq_true rfl) rfl ?_
    refine aw_aload_n dX11_test_0 rfl ?_
    refine aw_iload_n dX11_test_1 rfl ?_
    refine aw_iload_n dX11_test_2 rfl ?_
    refine aw_sVi [_, _] dX11_test_3 cvX11_209 (MS.s0 hM) (m_rec hM hA hD hT hW hDW i r) rfl rfl (Nat.le_of_ble_eq_true rfl) (rb0 (by decide)) (fun kw kv klv hk => ?_)
    obtain ⟨k0, k1⟩ := hk.1 p B hq0
    refine aw_istore_n (lo' := [_,_,_,_,_,_,_,_,_,_,_,_]) dX11_test_6 (Nat.le_of_ble_eq_true rfl) rfl ?_
    refine aw_iload_n dX11_test_7 rfl ?_
    refine aw_if_ge (tgt := 13) dX11_test_8 rfl (fun h8 => ?_) (fun h8 => ?_)
    · exact absurd (by have q := k1.1; dsimp only at q; rw [← q]; exact h8) k0
    · refine aw_iload_n dX11_test_11 rfl ?_
      refine aw_iret dX11_test_12 rfl (rb0 (Nat.zero_le _)) ⟨rfl, _, rfl, ?_⟩
      exact k1
  | none =>
    obtain ⟨j, t, k, hj, ht, hk1, hk20, rfl, rfl, hk⟩ := oRec_n hs7 hq0
    replace hj : j < s.1 := hj
    have hz : iv (M + 2) t = nI k := by rw [hD.1 t ht, hk]; rfl
    have hg : ∀ e, e < k → iv (M + 3) (40 * t + e) = D.2.1 t e := fun e he => hD.2.1 t e ht (by omega)
    have hU : rsz D t = k := by unfold rsz; rw [hk]; rfl
    refine spec0_of (lo := [_,_,_,_,_,_,_,_,_,_,_,_]) (by decide) (Nat.le_of_ble_eq_true rfl) rfl ?_
    refine aw_aload_n dX11_test_0 rfl ?_
    refine aw_iload_n dX11_test_1 rfl ?_
    refine aw_iload_n dX11_test_2 rfl ?_
    refine aw_sVi [_, _] dX11_test_3 cvX11_209 (MS.s0 hM) (m_rec hM hA hD hT hW hDW (nI j) (nI t)) rfl rfl (Nat.le_of_ble_eq_true rfl) (rb0 (by decide)) (fun kw kv klv hk => ?_)
    obtain ⟨k0, k1, k2⟩ := hk.2 hq0
    rw [k0, k1, k2]
    clear hk k0 k1 k2
    refine aw_istore_n (lo' := [_,_,_,_,_,_,_,_,_,_,_,_]) dX11_test_6 (Nat.le_of_ble_eq_true rfl) rfl ?_
    refine aw_iload_n dX11_test_7 rfl ?_
    refine aw_if_ge (tgt := 13) dX11_test_8 rfl (fun h8 => ?_) (fun h8 => absurd (by decide) h8)
    refine aw_aload_n dX11_test_13 rfl ?_
    refine aw_iload_n dX11_test_14 rfl ?_
    refine aw_iload_n dX11_test_15 rfl ?_
    refine aw_sVi [_, _] dX11_test_16 cvX11_212 (MS.s0 hM) (m_kindsBy hM hs hr hv hw hd ht (by omega) hz hg hj) rfl rfl (Nat.le_of_ble_eq_true rfl) (rb0 (by decide)) (fun kw2 kv2 klv2 hk2 => ?_)
    obtain ⟨k0, k2, rfl⟩ := hk2
    replace k0 : kw2 = nI (xK s (lg m) j (D.2.1 t) k) := k0
    subst k0
    have hx64 : xK s (lg m) j (D.2.1 t) k < 64 := bitU_lt 6
    have hr2 : SR M s kv2 := SR_f (by rw [k2 M (by omega)]) (k2 _ (by omega)) (k2 _ (by omega)) (k2 _ (by omega)) hr
    have hv2 : VR (M + 12) (lg m) kv2 := fun z hz => by rw [k2 _ (by omega)]; exact hv z hz
    refine aw_istore (lo' := [_,_,_,_,_,_,_,_,_,_,_,_]) dX11_test_19 (Nat.le_of_ble_eq_true rfl) rfl ?_
    refine aw_bipush (v := (-9)) dX11_test_21 kb_m9 ?_
    refine aw_istore (lo' := [_,_,_,_,_,_,_,_,_,_,_,_]) dX11_test_23 (Nat.le_of_ble_eq_true rfl) rfl ?_
    refine aw_bipush (v := nI 7) dX11_test_25 kb_7 ?_
    refine aw_istore (lo' := [_,_,_,_,_,_,_,_,_,_,_,_]) dX11_test_27 (Nat.le_of_ble_eq_true rfl) rfl ?_
    refine aw_iconst (v := nI 1) dX11_test_29 kc_1 ?_
    refine aw_istore (lo' := [_,_,_,_,_,_,_,_,_,_,_,_]) dX11_test_30 (Nat.le_of_ble_eq_true rfl) rfl ?_
    by_cases hx0 : xK s (lg m) j (D.2.1 t) k = 0
    · rw [hx0]
      refine aw_iload dX11_test_32 rfl ?_
      refine aw_bipush (v := nI 20) dX11_test_34 kb_20 ?_
      refine aw_icmp_gt (tgt := 187) dX11_test_36 rfl (fun h36 => absurd h36 (by decide)) (fun h36 => ?_)
      refine aw_iload dX11_test_39 rfl ?_
      refine aw_if_eq (tgt := 187) dX11_test_41 rfl (fun h41 => ?_) (fun h41 => absurd rfl h41)
      refine aw_iload dX11_test_187 rfl ?_
      refine aw_bipush (v := (-9)) dX11_test_189 kb_m9 ?_
      refine aw_icmp_ne (tgt := 199) dX11_test_191 rfl (fun h191 => absurd rfl h191) (fun h191 => ?_)
      refine aw_bipush (v := (-9)) dX11_test_194 kb_m9 ?_
      refine aw_goto (tgt := 207) dX11_test_196 rfl ?_
      refine aw_iret dX11_test_207 rfl (rb0 (Nat.zero_le _)) ⟨rfl, _, rfl, ?_⟩
      unfold oTest
      rw [hq0]
      dsimp only [nowT]
      rw [ix_nI (by omega), ix_nI (by omega), hU]
      rw [if_pos hx0]
      exact QD_out hA hD hT (fun b hb _ => k2 b hb) rfl
    · refine lo_test1 hM hs hr2 hv2 hw hj hd hx64 hx0 (fun i0 hf => ⟨_, rfl, ?_⟩) 20 0 kv2 _ _ _ _ (by omega) (fun _ _ => rfl)
      unfold oTest
      rw [hq0]
      dsimp only [nowT]
      rw [ix_nI (by omega), ix_nI (by omega), hU]
      rw [if_neg hx0]
      exact QD_tel hA hD hT (fun b hb _ => by rw [hf b hb]; exact k2 b hb) rfl
