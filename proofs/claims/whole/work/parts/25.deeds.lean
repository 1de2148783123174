/-! deeds: what is done to a state; a town with its deeds -/
def deed (s : TS) (δ p q : Nat) (v : TV) : TV := match δ with
  | 1 => pass s v
  | 2 => va_up v (1 + p) (min 9 (v (1 + p) + q))
  | 3 => va_up v (1 + p) 0
  | 4 => va_up v (13 + p) q
  | _ => v
def dOK (s : TS) (δ p q : Nat) : Prop := δ ≤ 4 ∧ (δ = 2 ∨ δ = 3 → p < 5) ∧ (δ = 2 → q ≤ 9) ∧ (δ = 4 → p < s.1 ∧ q < 5)
theorem WV_deed {s : TS} {v : TV} {δ p q : Nat} (hs : WS s) (hw : WV s v) (ho : dOK s δ p q) (hd : v 0 + 1 < 2 ^ 20) : WV s (deed s δ p q v) := by
  have h7 := hs.1
  obtain ⟨h1, h2, h3, h4⟩ := ho
  rcases (show δ = 0 ∨ δ = 1 ∨ δ = 2 ∨ δ = 3 ∨ δ = 4 by omega) with rfl | rfl | rfl | rfl | rfl
  · exact hw
  · exact WV_pass hs hw hd
  · have hp := h2 (Or.inl rfl)
    refine ⟨fun i hi => ?_, fun c hc => ?_, ?_⟩
    · show va_up _ _ _ _ ≤ 9 ∧ va_up _ _ _ _ ≤ 4
      rw [va_up_n (by omega), va_up_n (by omega)]; exact hw.1 i hi
    · show va_up _ _ _ _ ≤ 9
      by_cases e : c = p
      · subst e; rw [va_up_s]; omega
      · rw [va_up_n (by omega)]; exact hw.2.1 c hc
    · show va_up _ _ _ _ < _
      rw [va_up_n (by omega)]; exact hw.2.2
  · have hp := h2 (Or.inr rfl)
    refine ⟨fun i hi => ?_, fun c hc => ?_, ?_⟩
    · show va_up _ _ _ _ ≤ 9 ∧ va_up _ _ _ _ ≤ 4
      rw [va_up_n (by omega), va_up_n (by omega)]; exact hw.1 i hi
    · show va_up _ _ _ _ ≤ 9
      by_cases e : c = p
      · subst e; rw [va_up_s]; omega
      · rw [va_up_n (by omega)]; exact hw.2.1 c hc
    · show va_up _ _ _ _ < _
      rw [va_up_n (by omega)]; exact hw.2.2
  · obtain ⟨hp, hq⟩ := h4 rfl
    refine ⟨fun i hi => ?_, fun c hc => ?_, ?_⟩
    · show va_up _ _ _ _ ≤ 9 ∧ va_up _ _ _ _ ≤ 4
      rw [va_up_n (by omega)]
      refine ⟨(hw.1 i hi).1, ?_⟩
      by_cases e : i = p
      · subst e; rw [va_up_s]; omega
      · rw [va_up_n (by omega)]; exact (hw.1 i hi).2
    · show va_up _ _ _ _ ≤ 9
      rw [va_up_n (by omega)]; exact hw.2.1 c hc
    · show va_up _ _ _ _ < _
      rw [va_up_n (by omega)]; exact hw.2.2
theorem deed_0 (s : TS) (δ p q : Nat) (v : TV) : deed s δ p q v 0 ≤ v 0 + 1 := by
  unfold deed
  split
  · rw [pass_0]; exact Nat.le_refl _
  · rw [va_up_n (by omega)]; omega
  · rw [va_up_n (by omega)]; omega
  · rw [va_up_n (by omega)]; omega
  · omega
theorem TR_d {T c x : Nat} {s : TS} {v : TV} {iv : IV} (h7 : s.1 ≤ 7) (hc : c < 5) (h : TR T s v iv) : TR T s (va_up v (1 + c) x) (va_up iv (T + 13) (upd (iv (T + 13)) c (nI x))) := by
  refine ⟨by rw [va_up_n (by omega)]; exact h.1, by rw [va_up_n (by omega), va_up_n (by omega)]; exact h.2.1, fun j hj => ?_, fun q hq => ?_⟩
  · rw [va_up_n (by omega), va_up_n (by omega), va_up_n (by omega), va_up_n (by omega), va_up_n (by omega), va_up_n (by omega), va_up_n (by omega)]
    exact h.2.2.1 j hj
  · rw [va_up_s]
    unfold upd
    by_cases e : q = c
    · subst e; rw [if_pos rfl, va_up_s]
    · rw [if_neg e, va_up_n (by omega)]; exact h.2.2.2 q hq
theorem TR_st {T i x : Nat} {s : TS} {v : TV} {iv : IV} (h7 : s.1 ≤ 7) (hi : i < s.1) (h : TR T s v iv) : TR T s (va_up v (13 + i) x) (va_up iv (T + 12) (upd (iv (T + 12)) i (nI x))) := by
  refine ⟨by rw [va_up_n (by omega)]; exact h.1, by rw [va_up_n (by omega), va_up_n (by omega)]; exact h.2.1, fun j hj => ?_, fun q hq => by rw [va_up_n (by omega), va_up_n (by omega)]; exact h.2.2.2 q hq⟩
  have g := h.2.2.1 j hj
  rw [va_up_n (show T + 8 ≠ T + 12 by omega), va_up_n (show T + 9 ≠ T + 12 by omega), va_up_n (show T + 10 ≠ T + 12 by omega), va_up_n (show T + 11 ≠ T + 12 by omega), va_up_n (show 6 + j ≠ 13 + i by omega), va_up_s]
  refine ⟨g.1, g.2.1, g.2.2.1, g.2.2.2.1, ?_⟩
  unfold upd
  by_cases e : j = i
  · subst e; rw [if_pos rfl, va_up_s]
  · rw [if_neg e, va_up_n (by omega)]; exact g.2.2.2.2
/-- the same town, held by another memory -/
theorem TR_of {T : Nat} {s : TS} {v : TV} {iv i : IV} (h : TR T s v iv) (h0 : i T 0 = iv T 0) (h1 : i T 1 = iv T 1) (hh : ∀ b, T + 8 ≤ b → b < T + 14 → i b = iv b) : TR T s v i := by
  refine ⟨by rw [h0]; exact h.1, by rw [h1]; exact h.2.1, fun j hj => ?_, fun c hc => ?_⟩
  · rw [hh _ (by omega) (by omega), hh _ (by omega) (by omega), hh _ (by omega) (by omega), hh _ (by omega) (by omega), hh _ (by omega) (by omega)]; exact h.2.2.1 j hj
  · rw [hh _ (by omega) (by omega)]; exact h.2.2.2 c hc
def TF (T : Nat) (s : TS) (m : Nat) (lg : Nat → TV) (iv : IV) : Prop := TR T s (lg m) iv ∧ iv T 2 = nI m ∧ ((∀ i, i < s.1 → iv (T + 14) i = nI (lg 0 (6 + i)) ∧ iv (T + 15) i = nI (lg 0 (13 + i))) ∧ (∀ c, c < 5 → iv (T + 16) c = nI (lg 0 (1 + c)))) ∧ ∀ d, d < m → ∃ δ p q, iv (T + 17) d = nI δ ∧ iv (T + 18) d = nI p ∧ iv (T + 19) d = nI q ∧ dOK s δ p q ∧ lg (d + 1) = deed s δ p q (lg d)
def WL (s : TS) (m : Nat) (lg : Nat → TV) : Prop := WS s ∧ m ≤ 40 ∧ lg 0 0 = 0 ∧ ∀ d, d ≤ m → WV s (lg d) ∧ lg d 0 ≤ d
def frT (T : Nat) (i iv : IV) : Prop := ∀ b, ¬ (T ≤ b ∧ b < T + 20) → i b = iv b
theorem TR_sta {T : Nat} {s : TS} {w u : TV} {iv : IV} (h7 : s.1 ≤ 7) (h : TR T s u iv) (h0 : w 0 = 0) (hf : (∀ i, i < s.1 → iv (T + 14) i = nI (w (6 + i)) ∧ iv (T + 15) i = nI (w (13 + i))) ∧ (∀ c, c < 5 → iv (T + 16) c = nI (w (1 + c)))) : TR T s w (staM T iv) := by
  unfold staM
  refine ⟨?_, ?_, fun j hj => ?_, fun c hc => ?_⟩
  · rw [cpF_o (by omega), cpF_o (by omega), cpF_o (by omega), va_up_s]; exact h.1
  · rw [cpF_o (by omega), cpF_o (by omega), cpF_o (by omega), va_up_s, h0]; rfl
  · have g := h.2.2.1 j hj
    refine ⟨?_, ?_, ?_, ?_, ?_⟩
    · rw [cpF_o (by omega), cpF_o (by omega), cpF_o (by omega), va_up_n (by omega)]; exact g.1
    · rw [cpF_o (by omega), cpF_o (by omega), cpF_o (by omega), va_up_n (by omega)]; exact g.2.1
    · rw [cpF_o (by omega), cpF_o (by omega), cpF_o (by omega), va_up_n (by omega)]; exact g.2.2.1
    · rw [cpF_o (by omega), cpF_s (by omega), cpF_o (by omega), va_up_n (by omega)]; exact (hf.1 j hj).1
    · rw [cpF_s (by omega), cpF_o (by omega), cpF_o (by omega), va_up_n (by omega)]; exact (hf.1 j hj).2
  · rw [cpF_o (by omega), cpF_o (by omega), cpF_s (by omega), va_up_n (by omega)]; exact hf.2 c hc
theorem sta_o {T b : Nat} {iv : IV} (h1 : b ≠ T) (h2 : b < T + 11 ∨ T + 14 ≤ b) : staM T iv b = iv b := by
  unfold staM
  rw [cpF_o (by omega), cpF_o (by omega), cpF_o (by omega), va_up_n h1]
theorem sta_T {T : Nat} {iv : IV} : staM T iv T = upd (iv T) 1 (nI 0) := by
  unfold staM
  rw [cpF_o (by omega), cpF_o (by omega), cpF_o (by omega), va_up_s]
theorem t_carryOut {G : GC} {E : SH} {iv : IV} {lv : LV} {T : Nat} {s : TS} {v : TV} (hT : TownS G E T) (hs : WS s) (hr : TR T s v iv) (hw : WV s v) (hd : v 0 + 1 < 2 ^ 20) {e δ p q : Nat} (he : e < 40) (e1 : iv (T + 17) e = nI δ) (e2 : iv (T + 18) e = nI p) (e3 : iv (T + 19) e = nI q) (ho : dOK s δ p q) : SpV G mX9_carryOut 5 [.ref T, .int (nI e)] E iv lv (fun i0 l => TR T s (deed s δ p q v) i0 ∧ (∀ b, b ≠ T → b ≠ T + 11 → b ≠ T + 12 → b ≠ T + 13 → i0 b = iv b) ∧ i0 T 2 = iv T 2 ∧ l = lv) := by
  have h7 := hs.1
  obtain ⟨o1, o2, o3, o4⟩ := ho
  refine spec0_of (lo := [_,_,_]) (by decide) (Nat.le_of_ble_eq_true rfl) rfl ?_
  refine aw_aload_n dX9_carryOut_0 rfl ?_
  refine aw_getR dX9_carryOut_1 fgX9_74 rfl (TownS.s0 hT) (TownS.r0_14 hT) ?_
  refine aw_iload_n dX9_carryOut_4 rfl ?_
  refine aw_iaload dX9_carryOut_5 (TownS.s18 hT) rfl he ?_
  rw [e2]
  refine aw_istore_n (lo' := [_,_,_]) dX9_carryOut_6 (Nat.le_of_ble_eq_true rfl) rfl ?_
  refine aw_aload_n dX9_carryOut_7 rfl ?_
  refine aw_getR dX9_carryOut_8 fgX9_71 rfl (TownS.s0 hT) (TownS.r0_13 hT) ?_
  refine aw_iload_n dX9_carryOut_11 rfl ?_
  refine aw_iaload dX9_carryOut_12 (TownS.s17 hT) rfl he ?_
  rw [e1]
  rcases (show δ = 0 ∨ δ = 1 ∨ δ = 2 ∨ δ = 3 ∨ δ = 4 from by omega) with rfl | rfl | rfl | rfl | rfl
  · refine aw_tableOut (tgt := 103) dX9_carryOut_13 (by decide) rfl ?_
    refine aw_vret dX9_carryOut_103 rfl (rb0 (Nat.zero_le _)) ⟨rfl, rfl, ?_⟩
    first
      | exact ⟨k1, fun b h1 h2 _ _ => k2 b h1 h2, k3, rfl⟩
      | exact ⟨TR_d hs.1 hp hr, fun b _ _ _ h4 => va_up_n h4, by rw [va_up_n (by omega)], rfl⟩
      | exact ⟨TR_st hs.1 hp.1 hr, fun b _ _ h3 _ => va_up_n h3, by rw [va_up_n (by omega)], rfl⟩
      | exact ⟨hr, fun b _ _ _ _ => rfl, rfl, rfl⟩
  · refine aw_tableIn (off := 31) (tgt := 44) dX9_carryOut_13 (by decide) (by decide) (by decide) rfl ?_
    refine aw_aload_n dX9_carryOut_44 rfl ?_
    refine aw_sVv [] dX9_carryOut_45 cvX9_118 (TownS.s0 hT) (t_passDay hT hs hr hw hd) rfl rfl (Nat.le_of_ble_eq_true rfl) (rb0 (by decide)) (fun kv klv hk => ?_)
    obtain ⟨k1, k2, k3, rfl⟩ := hk
    refine aw_goto (tgt := 103) dX9_carryOut_48 rfl ?_
    refine aw_vret dX9_carryOut_103 rfl (rb0 (Nat.zero_le _)) ⟨rfl, rfl, ?_⟩
    first
      | exact ⟨k1, fun b h1 h2 _ _ => k2 b h1 h2, k3, rfl⟩
      | exact ⟨TR_d hs.1 hp hr, fun b _ _ _ h4 => va_up_n h4, by rw [va_up_n (by omega)], rfl⟩
      | exact ⟨TR_st hs.1 hp.1 hr, fun b _ _ h3 _ => va_up_n h3, by rw [va_up_n (by omega)], rfl⟩
      | exact ⟨hr, fun b _ _ _ _ => rfl, rfl, rfl⟩
  · refine aw_tableIn (off := 38) (tgt := 51) dX9_carryOut_13 (by decide) (by decide) (by decide) rfl ?_
    have hp := o2 (Or.inl rfl)
    have hq := o3 rfl
    have hc := hw.2.1 p hp
    refine aw_aload_n dX9_carryOut_51 rfl ?_
    refine aw_getR dX9_carryOut_52 fgX9_59 rfl (TownS.s0 hT) (TownS.r0_9 hT) ?_
    refine aw_iload_n dX9_carryOut_55 rfl ?_
    refine aw_bipush (v := nI 9) dX9_carryOut_56 kb_9 ?_
    refine aw_aload_n dX9_carryOut_58 rfl ?_
    refine aw_getR dX9_carryOut_59 fgX9_59 rfl (TownS.s0 hT) (TownS.r0_9 hT) ?_
    refine aw_iload_n dX9_carryOut_62 rfl ?_
    refine aw_iaload dX9_carryOut_63 (TownS.s13 hT) rfl (by omega) ?_
    rw [hr.2.2.2 p (by omega)]
    refine aw_aload_n dX9_carryOut_64 rfl ?_
    refine aw_getR dX9_carryOut_65 fgX9_77 rfl (TownS.s0 hT) (TownS.r0_15 hT) ?_
    refine aw_iload_n dX9_carryOut_68 rfl ?_
    refine aw_iaload dX9_carryOut_69 (TownS.s19 hT) rfl he ?_
    rw [e3]
    refine aw_iadd dX9_carryOut_70 ?_
    rw [nI_add]
    refine aw_mmin dX9_carryOut_71 mjX9_86 st_min in_java_lang_Math cdJ9_min_7cf53 (Nat.le_of_ble_eq_true rfl) (rb0 (by decide)) ?_
    rw [mmin_n (by omega) (by omega)]
    refine aw_iastore dX9_carryOut_74 (TownS.s13 hT) rfl (by omega) ?_
    refine aw_goto (tgt := 103) dX9_carryOut_75 rfl ?_
    refine aw_vret dX9_carryOut_103 rfl (rb0 (Nat.zero_le _)) ⟨rfl, rfl, ?_⟩
    first
      | exact ⟨k1, fun b h1 h2 _ _ => k2 b h1 h2, k3, rfl⟩
      | exact ⟨TR_d hs.1 hp hr, fun b _ _ _ h4 => va_up_n h4, by rw [va_up_n (by omega)], rfl⟩
      | exact ⟨TR_st hs.1 hp.1 hr, fun b _ _ h3 _ => va_up_n h3, by rw [va_up_n (by omega)], rfl⟩
      | exact ⟨hr, fun b _ _ _ _ => rfl, rfl, rfl⟩
  · refine aw_tableIn (off := 65) (tgt := 78) dX9_carryOut_13 (by decide) (by decide) (by decide) rfl ?_
    have hp := o2 (Or.inr rfl)
    refine aw_aload_n dX9_carryOut_78 rfl ?_
    refine aw_getR dX9_carryOut_79 fgX9_59 rfl (TownS.s0 hT) (TownS.r0_9 hT) ?_
    refine aw_iload_n dX9_carryOut_82 rfl ?_
    refine aw_iconst (v := nI 0) dX9_carryOut_83 kc_0 ?_
    refine aw_iastore dX9_carryOut_84 (TownS.s13 hT) rfl (by omega) ?_
    refine aw_goto (tgt := 103) dX9_carryOut_85 rfl ?_
    refine aw_vret dX9_carryOut_103 rfl (rb0 (Nat.zero_le _)) ⟨rfl, rfl, ?_⟩
    first
      | exact ⟨k1, fun b h1 h2 _ _ => k2 b h1 h2, k3, rfl⟩
      | exact ⟨TR_d hs.1 hp hr, fun b _ _ _ h4 => va_up_n h4, by rw [va_up_n (by omega)], rfl⟩
      | exact ⟨TR_st hs.1 hp.1 hr, fun b _ _ h3 _ => va_up_n h3, by rw [va_up_n (by omega)], rfl⟩
      | exact ⟨hr, fun b _ _ _ _ => rfl, rfl, rfl⟩
  · refine aw_tableIn (off := 75) (tgt := 88) dX9_carryOut_13 (by decide) (by decide) (by decide) rfl ?_
    have hp := o4 rfl
    refine aw_aload_n dX9_carryOut_88 rfl ?_
    refine aw_getR dX9_carryOut_89 fgX9_56 rfl (TownS.s0 hT) (TownS.r0_8 hT) ?_
    refine aw_iload_n dX9_carryOut_92 rfl ?_
    refine aw_aload_n dX9_carryOut_93 rfl ?_
    refine aw_getR dX9_carryOut_94 fgX9_77 rfl (TownS.s0 hT) (TownS.r0_15 hT) ?_
    refine aw_iload_n dX9_carryOut_97 rfl ?_
    refine aw_iaload dX9_carryOut_98 (TownS.s19 hT) rfl he ?_
    rw [e3]
    refine aw_iastore dX9_carryOut_99 (TownS.s12 hT) rfl (by omega) ?_
    refine aw_goto (tgt := 103) dX9_carryOut_100 rfl ?_
    refine aw_vret dX9_carryOut_103 rfl (rb0 (Nat.zero_le _)) ⟨rfl, rfl, ?_⟩
    first
      | exact ⟨k1, fun b h1 h2 _ _ => k2 b h1 h2, k3, rfl⟩
      | exact ⟨TR_d hs.1 hp hr, fun b _ _ _ h4 => va_up_n h4, by rw [va_up_n (by omega)], rfl⟩
      | exact ⟨TR_st hs.1 hp.1 hr, fun b _ _ h3 _ => va_up_n h3, by rw [va_up_n (by omega)], rfl⟩
      | exact ⟨hr, fun b _ _ _ _ => rfl, rfl, rfl⟩
def lgx (lg : Nat → TV) (m : Nat) (w : TV) : Nat → TV := fun d => if d = m + 1 then w else lg d
theorem lgx_s {lg : Nat → TV} {m : Nat} {w : TV} : lgx lg m w (m + 1) = w := if_pos rfl
theorem lgx_n {lg : Nat → TV} {m d : Nat} {w : TV} (h : d ≤ m) : lgx lg m w d = lg d := if_neg (by omega)
theorem WL_deed {s : TS} {m δ p q : Nat} {lg : Nat → TV} (h : WL s m lg) (hm : m < 40) (ho : dOK s δ p q) : WL s (m + 1) (lgx lg m (deed s δ p q (lg m))) := by
  have hv := h.2.2.2 m (Nat.le_refl _)
  refine ⟨h.1, hm, by rw [lgx_n (by omega)]; exact h.2.2.1, fun d hd => ?_⟩
  by_cases e : d = m + 1
  · subst e
    rw [lgx_s]
    have h1 := deed_0 s δ p q (lg m)
    exact ⟨WV_deed h.1 hv.1 ho (by omega), by omega⟩
  · rw [lgx_n (by omega)]; exact h.2.2.2 d (by omega)
theorem t_perform {G : GC} {E : SH} {iv : IV} {lv : LV} {T : Nat} {s : TS} {m : Nat} {lg : Nat → TV} (hT : TownS G E T) (hL : WL s m lg) (hf : TF T s m lg iv) (hm : m < 40) {δ p q : Nat} (ho : dOK s δ p q) : SpV G mX9_perform 6 [.ref T, .int (nI δ), .int (nI p), .int (nI q)] E iv lv (fun i0 l => TF T s (m + 1) (lgx lg m (deed s δ p q (lg m))) i0 ∧ frT T i0 iv ∧ l = lv) := by
  have h7 := hL.1.1
  have hv := hL.2.2.2 m (Nat.le_refl _)
  refine spec0_of (lo := [_,_,_,_]) (by decide) (Nat.le_of_ble_eq_true rfl) rfl ?_
  refine aw_aload_n dX9_perform_0 rfl ?_
  refine aw_getI dX9_perform_1 fgX9_18 rfl (TownS.s0 hT) ?_
  refine aw_bipush (v := nI 40) dX9_perform_4 kb_40 ?_
  refine aw_icmp_ge (tgt := 57) dX9_perform_6 rfl (fun h6 => absurd h6 (by rw [hf.2.1]; exact nI_ge (by omega) (by omega))) (fun h6 => ?_)
  refine aw_aload_n dX9_perform_9 rfl ?_
  refine aw_getR dX9_perform_10 fgX9_71 rfl (TownS.s0 hT) (TownS.r0_13 hT) ?_
  refine aw_aload_n dX9_perform_13 rfl ?_
  refine aw_getI dX9_perform_14 fgX9_18 rfl (TownS.s0 hT) ?_
  rw [hf.2.1]
  refine aw_iload_n dX9_perform_17 rfl ?_
  refine aw_iastore dX9_perform_18 (TownS.s17 hT) rfl hm ?_
  refine aw_aload_n dX9_perform_19 rfl ?_
  refine aw_getR dX9_perform_20 fgX9_74 rfl (TownS.s0 hT) (TownS.r0_14 hT) ?_
  refine aw_aload_n dX9_perform_23 rfl ?_
  refine aw_getI dX9_perform_24 fgX9_18 rfl (TownS.s0 hT) ?_
  rw [va_up_n (by omega), hf.2.1]
  refine aw_iload_n dX9_perform_27 rfl ?_
  refine aw_iastore dX9_perform_28 (TownS.s18 hT) rfl hm ?_
  refine aw_aload_n dX9_perform_29 rfl ?_
  refine aw_getR dX9_perform_30 fgX9_77 rfl (TownS.s0 hT) (TownS.r0_15 hT) ?_
  refine aw_aload_n dX9_perform_33 rfl ?_
  refine aw_getI dX9_perform_34 fgX9_18 rfl (TownS.s0 hT) ?_
  rw [va_up_n (by omega), va_up_n (by omega), hf.2.1]
  refine aw_iload_n dX9_perform_37 rfl ?_
  refine aw_iastore dX9_perform_38 (TownS.s19 hT) rfl hm ?_
  refine aw_aload_n dX9_perform_39 rfl ?_
  refine aw_aload_n dX9_perform_40 rfl ?_
  refine aw_getI dX9_perform_41 fgX9_18 rfl (TownS.s0 hT) ?_
  rw [va_up_n (by omega), va_up_n (by omega), va_up_n (by omega), hf.2.1]
  refine aw_sVv [_] dX9_perform_44 cvX9_114 (TownS.s0 hT) (t_carryOut hT hL.1 (TR_of hf.1 (by rw [va_up_n (by omega), va_up_n (by omega), va_up_n (by omega)]) (by rw [va_up_n (by omega), va_up_n (by omega), va_up_n (by omega)]) (fun b h1 h2 => by rw [va_up_n (by omega), va_up_n (by omega), va_up_n (by omega)])) hv.1 (by omega) (e := m) (δ := δ) (p := p) (q := q) hm (by rw [va_up_n (by omega), va_up_n (by omega), va_up_s]; exact if_pos rfl) (by rw [va_up_n (by omega), va_up_s]; exact if_pos rfl) (by rw [va_up_s]; exact if_pos rfl) ho) rfl rfl (Nat.le_of_ble_eq_true rfl) (rb0 (by decide)) (fun kv klv hk => ?_)
  obtain ⟨k1, k2, k3, rfl⟩ := hk
  refine aw_aload_n dX9_perform_47 rfl ?_
  refine aw_dup dX9_perform_48 rfl ?_
  refine aw_getI dX9_perform_49 fgX9_18 rfl (TownS.s0 hT) ?_
  rw [k3, va_up_n (by omega), va_up_n (by omega), va_up_n (by omega), hf.2.1]
  refine aw_iconst (v := nI 1) dX9_perform_52 kc_1 ?_
  refine aw_iadd dX9_perform_53 ?_
  rw [nI_add]
  refine aw_putI dX9_perform_54 fpX9_18 rfl (TownS.s0 hT) ?_
  refine aw_vret dX9_perform_57 rfl (rb0 (Nat.zero_le _)) ⟨rfl, rfl, ?_, ?_, rfl⟩
  · have kk : ∀ b, T + 14 ≤ b → kv b = va_up (va_up (va_up iv (T + 17) (upd (iv (T + 17)) m (nI δ))) (T + 18) (upd (va_up iv (T + 17) (upd (iv (T + 17)) m (nI δ)) (T + 18)) m (nI p))) (T + 19) (upd (va_up (va_up iv (T + 17) (upd (iv (T + 17)) m (nI δ))) (T + 18) (upd (va_up iv (T + 17) (upd (iv (T + 17)) m (nI δ)) (T + 18)) m (nI p)) (T + 19)) m (nI q)) b := fun b hb => k2 b (by omega) (by omega) (by omega) (by omega)
    refine ⟨?_, by rw [va_up_s]; rfl, ⟨fun i hi => ?_, fun c hc => ?_⟩, fun x hx => ?_⟩
    · rw [lgx_s]
      exact TR_of k1 (by rw [va_up_s]; rfl) (by rw [va_up_s]; rfl) (fun b h1 h2 => va_up_n (by omega))
    · rw [lgx_n (by omega), va_up_n (by omega), va_up_n (by omega), kk _ (by omega), kk _ (by omega), va_up_n (by omega), va_up_n (by omega), va_up_n (by omega), va_up_n (by omega), va_up_n (by omega), va_up_n (by omega)]
      exact hf.2.2.1.1 i hi
    · rw [lgx_n (by omega), va_up_n (by omega), kk _ (by omega), va_up_n (by omega), va_up_n (by omega), va_up_n (by omega)]
      exact hf.2.2.1.2 c hc
    · rw [va_up_n (by omega), va_up_n (by omega), va_up_n (by omega), kk _ (by omega), kk _ (by omega), kk _ (by omega), va_up_s, va_up_n (show T + 18 ≠ T + 19 by omega), va_up_s, va_up_n (show T + 17 ≠ T + 19 by omega), va_up_n (show T + 17 ≠ T + 18 by omega), va_up_s, va_up_n (show T + 18 ≠ T + 17 by omega), va_up_n (show T + 19 ≠ T + 18 by omega), va_up_n (show T + 19 ≠ T + 17 by omega)]
      by_cases e : x = m
      · subst e
        refine ⟨δ, p, q, if_pos rfl, if_pos rfl, if_pos rfl, ho, ?_⟩
        rw [lgx_s, lgx_n (Nat.le_refl _)]
      · obtain ⟨δ2, p2, q2, g1, g2, g3, g4, g5⟩ := hf.2.2.2 x (by omega)
        refine ⟨δ2, p2, q2, (if_neg e).trans g1, (if_neg e).trans g2, (if_neg e).trans g3, g4, ?_⟩
        rw [lgx_n (by omega), lgx_n (by omega)]
        exact g5
  · intro b hb
    rw [va_up_n (by omega), k2 b (by omega) (by omega) (by omega) (by omega), va_up_n (by omega), va_up_n (by omega), va_up_n (by omega)]
theorem lt_goBackTo {G : GC} {E : SH} {iv : IV} {lv : LV} {T : Nat} {s : TS} {m : Nat} {lg : Nat → TV} (hT : TownS G E T) (hL : WL s m lg) (hf : TF T s m lg iv) {n : Nat} (hn : n ≤ m) : ∀ (c i : Nat) (jv : IV), i + c = n → TR T s (lg i) jv → jv T 2 = nI n → (∀ b, T + 14 ≤ b → jv b = iv b) → frT T jv iv → AW G mX9_goBackTo (rm 6 0) (Z0 G 6 E (fun r i0 l => r = none ∧ (TF T s n lg i0 ∧ frT T i0 iv ∧ l = lv))) (fun _ => True) E.1 22 [some (.ref T), some (.int (nI n)), some (.int (nI i))] [] E jv lv := by
  have h40 := hL.2.1
  intro c
  induction c with
  | zero =>
    intro i jv hi hj h2 h3 h4
    have hi : i = n := by omega
    subst hi
    refine aw_iload_n dX9_goBackTo_22 rfl ?_
    refine aw_aload_n dX9_goBackTo_23 rfl ?_
    refine aw_getI dX9_goBackTo_24 fgX9_18 rfl (TownS.s0 hT) ?_
    refine aw_icmp_ge (tgt := 41) dX9_goBackTo_27 rfl (fun h27 => ?_) (fun h27 => absurd (by rw [h2]; exact nI_le (Nat.le_refl _) (by omega)) h27)
    refine aw_vret dX9_goBackTo_41 rfl (rb0 (Nat.zero_le _)) ⟨rfl, rfl, ⟨hj, h2, ?_, fun d hd => ?_⟩, h4, rfl⟩
    · rw [h3 _ (by omega), h3 _ (by omega), h3 _ (by omega)]
      exact hf.2.2.1
    · rw [h3 _ (by omega), h3 _ (by omega), h3 _ (by omega)]
      exact hf.2.2.2 d (by omega)
  | succ c ih =>
    intro i jv hi hj h2 h3 h4
    obtain ⟨δ, p, q, g1, g2, g3, g4, g5⟩ := hf.2.2.2 i (by omega)
    have hv := hL.2.2.2 i (by omega)
    refine aw_iload_n dX9_goBackTo_22 rfl ?_
    refine aw_aload_n dX9_goBackTo_23 rfl ?_
    refine aw_getI dX9_goBackTo_24 fgX9_18 rfl (TownS.s0 hT) ?_
    refine aw_icmp_ge (tgt := 41) dX9_goBackTo_27 rfl (fun h27 => absurd h27 (by rw [h2]; exact nI_ge (by omega) (by omega))) (fun h27 => ?_)
    refine aw_aload_n dX9_goBackTo_30 rfl ?_
    refine aw_iload_n dX9_goBackTo_31 rfl ?_
    refine aw_sVv [_] dX9_goBackTo_32 cvX9_114 (TownS.s0 hT) (t_carryOut hT hL.1 hj hv.1 (by omega) (e := i) (by omega) (by rw [h3 _ (by omega)]; exact g1) (by rw [h3 _ (by omega)]; exact g2) (by rw [h3 _ (by omega)]; exact g3) g4) rfl rfl (Nat.le_of_ble_eq_true rfl) (rb0 (by decide)) (fun kv klv hk => ?_)
    obtain ⟨k1, k2, k3, rfl⟩ := hk
    refine aw_iinc (v := _) (lo' := [_,_,_]) dX9_goBackTo_35 rfl (nI_1 i) rfl ?_
    refine aw_goto (tgt := 22) dX9_goBackTo_38 rfl ?_
    exact ih (i + 1) kv (by omega) (by rw [g5]; exact k1) (k3.trans h2) (fun b hb => (k2 b (by omega) (by omega) (by omega) (by omega)).trans (h3 b hb)) (fun b hb => (k2 b (by omega) (by omega) (by omega) (by omega)).trans (h4 b hb))
theorem t_goBackTo {G : GC} {E : SH} {iv : IV} {lv : LV} {T : Nat} {s : TS} {m : Nat} {lg : Nat → TV} (hT : TownS G E T) (hL : WL s m lg) (hf : TF T s m lg iv) {n : Nat} (hn : n ≤ m) : SpV G mX9_goBackTo 6 [.ref T, .int (nI n)] E iv lv (fun i0 l => TF T s n lg i0 ∧ frT T i0 iv ∧ l = lv) := by
  have h40 := hL.2.1
  refine spec0_of (lo := [_,_,_]) (by decide) (Nat.le_of_ble_eq_true rfl) rfl ?_
  refine aw_aload_n dX9_goBackTo_0 rfl ?_
  refine aw_iconst (v := nI 0) dX9_goBackTo_1 kc_0 ?_
  refine aw_iload_n dX9_goBackTo_2 rfl ?_
  refine aw_aload_n dX9_goBackTo_3 rfl ?_
  refine aw_getI dX9_goBackTo_4 fgX9_18 rfl (TownS.s0 hT) ?_
  rw [hf.2.1]
  refine aw_mmin dX9_goBackTo_7 mjX9_86 st_min in_java_lang_Math cdJ9_min_7cf53 (Nat.le_of_ble_eq_true rfl) (rb0 (by decide)) ?_
  rw [mmin_n (by omega) (by omega)]
  refine aw_mmax dX9_goBackTo_10 mjX9_92 st_max in_java_lang_Math cdJ9_max_7cf53 (Nat.le_of_ble_eq_true rfl) (rb0 (by decide)) ?_
  rw [mmax_n (by omega) (by omega), show max 0 (min n m) = n by omega]
  refine aw_putI dX9_goBackTo_13 fpX9_18 rfl (TownS.s0 hT) ?_
  refine aw_aload_n dX9_goBackTo_16 rfl ?_
  refine aw_xVv [] dX9_goBackTo_17 cvX9_101 (TownS.s0 hT) (t_startAnew hT) rfl rfl (Nat.le_of_ble_eq_true rfl) (rb0 (by decide)) ?_
  refine aw_iconst (v := nI 0) dX9_goBackTo_20 kc_0 ?_
  refine aw_istore_n (lo' := [_,_,_]) dX9_goBackTo_21 (Nat.le_of_ble_eq_true rfl) rfl ?_
  refine lt_goBackTo hT hL hf hn n 0 _ (by omega) ?_ ?_ (fun b hb => ?_) (fun b hb => ?_)
  · refine TR_sta hL.1.1 (u := lg m) (TR_of hf.1 (by rw [va_up_s]; rfl) (by rw [va_up_s]; rfl) (fun b h1 h2 => va_up_n (by omega))) hL.2.2.1 ?_
    rw [va_up_n (by omega), va_up_n (by omega), va_up_n (by omega)]
    exact hf.2.2.1
  · rw [sta_T, va_up_s]; rfl
  · rw [sta_o (by omega) (by omega), va_up_n (by omega)]
  · rw [sta_o (by omega) (by omega), va_up_n (by omega)]
