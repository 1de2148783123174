def bL (f : Nat → Nat) (e : Nat) : Int32 := if e = 0 then -9 else nI ((bst f e).1 + 1)
theorem bL_9 {f : Nat → Nat} {k : Nat} (h : (bst f k).1 + 1 < 2 ^ 31) : bL f k = -9 ↔ k = 0 := by
  unfold bL
  by_cases e : k = 0
  · rw [if_pos e]; exact ⟨fun _ => e, fun _ => rfl⟩
  · rw [if_neg e]
    refine ⟨fun q => ?_, fun q => absurd q e⟩
    have h1 : (nI ((bst f k).1 + 1)).toInt = -9 := by rw [q]; decide
    rw [nI_toInt h] at h1
    omega
def xK (s : TS) (v : TV) (i : Nat) (g : Nat → Int32) (m : Nat) : Nat := bitU (pK s v i g m) 6
def fLk (s : TS) (v : TV) (i x e : Nat) : Nat := gpt s v i x (e + 1) 6
theorem lo_look {G : GC} {E : SH} {iv : IV} {lv : LV} {O : Nat} {s : TS} {v : TV} (hO : OutS G E O) (hs : WS s) (hr : TR (O + 1) s v iv) (hw : WV s v) {S z m i : Nat} (hS : StripS G E S z) (hz : z < 2 ^ 31) (hm : iv S 1 = nI m) (hmz : m ≤ z) (hSO : S + 1 < O ∨ O + 31 ≤ S) (hn : v 0 + m + 1 < 2 ^ 20) (hi : i < s.1) (hn2 : v 0 + 21 < 2 ^ 20) {x : Nat} (hx : x = xK s v i (iv (S + 1)) m) (hx0 : x ≠ 0) : ∀ (c e : Nat) (jv : IV) (j6 : Option Value), e + c = 20 → TT O s v i jv → (e ≠ 0 → jv O 6 = nI (bst (fLk s v i x) e).2) → frQ O jv iv → AW G mX3_bestLook (rm 7 0) (Z0 G 7 E (fun r i0 l => ∃ w, r = some (.int w) ∧ ((xK s v i (iv (S + 1)) m = 0 → w = -9) ∧ (xK s v i (iv (S + 1)) m ≠ 0 → w = nI ((bst (fLk s v i (xK s v i (iv (S + 1)) m)) 20).1 + 1) ∧ i0 O 6 = nI (bst (fLk s v i (xK s v i (iv (S + 1)) m)) 20).2) ∧ frQ O i0 iv ∧ l = lv))) (fun _ => True) E.1 26 [some (.ref O), some (.int (nI i)), some (.ref S), some (.int (nI x)), some (.int (bL (fLk s v i x) e)), some (.int (nI (e + 1))), j6] [] E jv lv := by
  have hx6 : x < 64 := by rw [hx]; exact bitU_lt 6
  have hfl : ∀ e, fLk s v i x e ≤ 6 := fun e => mxU_le 6 (fun j _ => cntU_le 6)
  intro c
  induction c with
  | zero =>
    intro e jv j6 he ht h6 hf
    have he : e = 20 := by omega
    subst he
    refine aw_iload dX3_bestLook_26 rfl ?_
    refine aw_bipush (v := nI 20) dX3_bestLook_28 kb_20 ?_
    refine aw_icmp_gt (tgt := 74) dX3_bestLook_30 rfl (fun h30 => ?_) (fun h30 => absurd (nI_lt (by decide) (by decide)) h30)
    refine aw_iload dX3_bestLook_74 rfl ?_
    refine aw_iret dX3_bestLook_76 rfl (rb0 (Nat.zero_le _)) ⟨rfl, _, rfl, fun q => absurd (hx.trans q) hx0, fun _ => by rw [← hx]; exact ⟨rfl, h6 (by decide)⟩, hf, rfl⟩
  | succ c ih =>
    intro e jv j6 he ht h6 hf
    have hb := bst_le (f := fLk s v i x) e (fun j _ => hfl j)
    have h1 := hfl e
    refine aw_iload dX3_bestLook_26 rfl ?_
    refine aw_bipush (v := nI 20) dX3_bestLook_28 kb_20 ?_
    refine aw_icmp_gt (tgt := 74) dX3_bestLook_30 rfl (fun h30 => absurd h30 (nI_nlt (by omega) (by omega))) (fun h30 => ?_)
    refine aw_aload_n dX3_bestLook_33 rfl ?_
    refine aw_iload_n dX3_bestLook_34 rfl ?_
    refine aw_iload dX3_bestLook_35 rfl ?_
    refine aw_xVi [_, _] dX3_bestLook_37 cvX3_130 (OutS.s0 hO) (o_gp hO hs hw hx6 (e := e + 1) (by omega) (by omega) hn2 ht) rfl rfl (Nat.le_of_ble_eq_true rfl) (rb0 (by decide)) ?_
    rw [show gpt s v i x (e + 1) 6 = fLk s v i x e from rfl]
    refine aw_istore (lo' := [_,_,_,_,_,_,_]) dX3_bestLook_40 (Nat.le_of_ble_eq_true rfl) rfl ?_
    refine aw_iload dX3_bestLook_42 rfl ?_
    refine aw_bipush (v := (-9)) dX3_bestLook_44 kb_m9 ?_
    refine aw_icmp_eq (tgt := 58) dX3_bestLook_46 rfl (fun h46 => ?_) (fun h46 => ?_)
    · rw [bL_9 (by omega)] at h46
      refine aw_iload dX3_bestLook_58 rfl ?_
      refine aw_istore (lo' := [_,_,_,_,_,_,_]) dX3_bestLook_60 (Nat.le_of_ble_eq_true rfl) rfl ?_
      refine aw_aload_n dX3_bestLook_62 rfl ?_
      refine aw_iload dX3_bestLook_63 rfl ?_
      refine aw_putI dX3_bestLook_65 fpX3_37 rfl (OutS.s0 hO) ?_
      refine aw_iinc (v := _) (lo' := [_,_,_,_,_,_,_]) dX3_bestLook_68 rfl (nI_1 (e + 1)) rfl ?_
      refine aw_goto (tgt := 26) dX3_bestLook_71 rfl ?_
      have hT9 : ∀ y : Int32, TT O s v i (va_up jv O (upd (jv O) 6 y)) := fun y q f h2 h3 h4 => by rw [va_up_n (by omega)]; exact ht q f h2 h3 h4
      first
        | (have hb9 : ¬ e = 0 := fun z => h46 ((bL_9 (by omega)).mpr z)
           have e1 : bst (fLk s v i x) (e + 1) = bst (fLk s v i x) e := by rw [bst, if_neg hb9, if_neg (by omega)]
           have h := ih (e + 1) jv (some (.int (nI (fLk s v i x e)))) (by omega) ht (fun _ => by rw [e1]; exact h6 hb9) hf
           rw [show bL (fLk s v i x) (e + 1) = bL (fLk s v i x) e by unfold bL; rw [if_neg (by omega), if_neg hb9, e1]] at h
           exact h)
        | (have e1 : bst (fLk s v i x) (e + 1) = (e, fLk s v i x e) := by
             rw [bst]
             first
               | (rw [if_pos h46]; subst h46; rfl)
               | (have hb9 : ¬ e = 0 := fun z => h46 ((bL_9 (by omega)).mpr z)
                  rw [if_neg hb9, if_pos (by omega)])
           have h := ih (e + 1) (va_up jv O (upd (jv O) 6 (nI (fLk s v i x e)))) (some (.int (nI (fLk s v i x e)))) (by omega) (hT9 _) (fun _ => by rw [e1, va_up_s]; rfl) (frQ_tr (fun b hb => va_up_n (by omega)) hf)
           rw [show bL (fLk s v i x) (e + 1) = nI (e + 1) by unfold bL; rw [if_neg (by omega), e1]] at h
           exact h)
    · refine aw_iload dX3_bestLook_49 rfl ?_
      refine aw_aload_n dX3_bestLook_51 rfl ?_
      refine aw_getI dX3_bestLook_52 fgX3_37 rfl (OutS.s0 hO) ?_
      rw [h6 (fun z => h46 ((bL_9 (by omega)).mpr z))]
      refine aw_icmp_ge (tgt := 68) dX3_bestLook_55 rfl (fun h55 => ?_) (fun h55 => ?_)
      · rw [nI_leI (by omega) (by omega)] at h55
        refine aw_iinc (v := _) (lo' := [_,_,_,_,_,_,_]) dX3_bestLook_68 rfl (nI_1 (e + 1)) rfl ?_
        refine aw_goto (tgt := 26) dX3_bestLook_71 rfl ?_
        have hT9 : ∀ y : Int32, TT O s v i (va_up jv O (upd (jv O) 6 y)) := fun y q f h2 h3 h4 => by rw [va_up_n (by omega)]; exact ht q f h2 h3 h4
        first
          | (have hb9 : ¬ e = 0 := fun z => h46 ((bL_9 (by omega)).mpr z)
             have e1 : bst (fLk s v i x) (e + 1) = bst (fLk s v i x) e := by rw [bst, if_neg hb9, if_neg (by omega)]
             have h := ih (e + 1) jv (some (.int (nI (fLk s v i x e)))) (by omega) ht (fun _ => by rw [e1]; exact h6 hb9) hf
             rw [show bL (fLk s v i x) (e + 1) = bL (fLk s v i x) e by unfold bL; rw [if_neg (by omega), if_neg hb9, e1]] at h
             exact h)
          | (have e1 : bst (fLk s v i x) (e + 1) = (e, fLk s v i x e) := by
               rw [bst]
               first
                 | (rw [if_pos h46]; subst h46; rfl)
                 | (have hb9 : ¬ e = 0 := fun z => h46 ((bL_9 (by omega)).mpr z)
                    rw [if_neg hb9, if_pos (by omega)])
             have h := ih (e + 1) (va_up jv O (upd (jv O) 6 (nI (fLk s v i x e)))) (some (.int (nI (fLk s v i x e)))) (by omega) (hT9 _) (fun _ => by rw [e1, va_up_s]; rfl) (frQ_tr (fun b hb => va_up_n (by omega)) hf)
             rw [show bL (fLk s v i x) (e + 1) = nI (e + 1) by unfold bL; rw [if_neg (by omega), e1]] at h
             exact h)
      · rw [nI_leI (by omega) (by omega)] at h55
        refine aw_iload dX3_bestLook_58 rfl ?_
        refine aw_istore (lo' := [_,_,_,_,_,_,_]) dX3_bestLook_60 (Nat.le_of_ble_eq_true rfl) rfl ?_
        refine aw_aload_n dX3_bestLook_62 rfl ?_
        refine aw_iload dX3_bestLook_63 rfl ?_
        refine aw_putI dX3_bestLook_65 fpX3_37 rfl (OutS.s0 hO) ?_
        refine aw_iinc (v := _) (lo' := [_,_,_,_,_,_,_]) dX3_bestLook_68 rfl (nI_1 (e + 1)) rfl ?_
        refine aw_goto (tgt := 26) dX3_bestLook_71 rfl ?_
        have hT9 : ∀ y : Int32, TT O s v i (va_up jv O (upd (jv O) 6 y)) := fun y q f h2 h3 h4 => by rw [va_up_n (by omega)]; exact ht q f h2 h3 h4
        first
          | (have hb9 : ¬ e = 0 := fun z => h46 ((bL_9 (by omega)).mpr z)
             have e1 : bst (fLk s v i x) (e + 1) = bst (fLk s v i x) e := by rw [bst, if_neg hb9, if_neg (by omega)]
             have h := ih (e + 1) jv (some (.int (nI (fLk s v i x e)))) (by omega) ht (fun _ => by rw [e1]; exact h6 hb9) hf
             rw [show bL (fLk s v i x) (e + 1) = bL (fLk s v i x) e by unfold bL; rw [if_neg (by omega), if_neg hb9, e1]] at h
             exact h)
          | (have e1 : bst (fLk s v i x) (e + 1) = (e, fLk s v i x e) := by
               rw [bst]
               first
                 | (rw [if_pos h46]; subst h46; rfl)
                 | (have hb9 : ¬ e = 0 := fun z => h46 ((bL_9 (by omega)).mpr z)
                    rw [if_neg hb9, if_pos (by omega)])
             have h := ih (e + 1) (va_up jv O (upd (jv O) 6 (nI (fLk s v i x e)))) (some (.int (nI (fLk s v i x e)))) (by omega) (hT9 _) (fun _ => by rw [e1, va_up_s]; rfl) (frQ_tr (fun b hb => va_up_n (by omega)) hf)
             rw [show bL (fLk s v i x) (e + 1) = nI (e + 1) by unfold bL; rw [if_neg (by omega), e1]] at h
             exact h)
theorem o_look {G : GC} {E : SH} {iv : IV} {lv : LV} {O : Nat} {s : TS} {v : TV} (hO : OutS G E O) (hs : WS s) (hr : TR (O + 1) s v iv) (hw : WV s v) {S z m i : Nat} (hS : StripS G E S z) (hz : z < 2 ^ 31) (hm : iv S 1 = nI m) (hmz : m ≤ z) (hSO : S + 1 < O ∨ O + 31 ≤ S) (hn : v 0 + m + 1 < 2 ^ 20) (hi : i < s.1) (hn2 : v 0 + 21 < 2 ^ 20) : SpI G mX3_bestLook 7 [.ref O, .int (nI i), .ref S] E iv lv (fun w i0 l => (xK s v i (iv (S + 1)) m = 0 → w = -9) ∧ (xK s v i (iv (S + 1)) m ≠ 0 → w = nI ((bst (fLk s v i (xK s v i (iv (S + 1)) m)) 20).1 + 1) ∧ i0 O 6 = nI (bst (fLk s v i (xK s v i (iv (S + 1)) m)) 20).2) ∧ frQ O i0 iv ∧ l = lv) := by
  have hx6 : xK s v i (iv (S + 1)) m < 64 := bitU_lt 6
  refine spec0_of (lo := [_,_,_,_,_,_,_]) (by decide) (Nat.le_of_ble_eq_true rfl) rfl ?_
  refine aw_aload_n dX3_bestLook_0 rfl ?_
  refine aw_iload_n dX3_bestLook_1 rfl ?_
  refine aw_aload_n dX3_bestLook_2 rfl ?_
  refine aw_sVi [_, _] dX3_bestLook_3 cvX3_122 (OutS.s0 hO) (o_kinds hO hs hr hw hS hz hm hmz hSO hn hi) rfl rfl (Nat.le_of_ble_eq_true rfl) (rb0 (by decide)) (fun kw kv klv hk => ?_)
  obtain ⟨k0, k1, k2, k3, rfl⟩ := hk
  subst k0
  rw [show bitU (pK s v i (iv (S + 1)) m) 6 = xK s v i (iv (S + 1)) m from rfl]
  refine aw_istore_n (lo' := [_,_,_,_,_,_,_]) dX3_bestLook_6 (Nat.le_of_ble_eq_true rfl) rfl ?_
  refine aw_iload_n dX3_bestLook_7 rfl ?_
  refine aw_if_ne (tgt := 14) dX3_bestLook_8 rfl (fun h8 => ?_) (fun h8 => ?_)
  · rw [← nI_0, nI_eq (by omega) (by omega)] at h8
    refine aw_aload_n dX3_bestLook_14 rfl ?_
    refine aw_iload_n dX3_bestLook_15 rfl ?_
    refine aw_sVv [_] dX3_bestLook_16 cvX3_126 (OutS.s0 hO) (o_fore hO hs k1 hw hi hn2) rfl rfl (Nat.le_of_ble_eq_true rfl) (rb0 (by decide)) (fun nv nlv hk => ?_)
    obtain ⟨n1, n2, n3, rfl⟩ := hk
    refine aw_bipush (v := (-9)) dX3_bestLook_19 kb_m9 ?_
    refine aw_istore (lo' := [_,_,_,_,_,_,_]) dX3_bestLook_21 (Nat.le_of_ble_eq_true rfl) rfl ?_
    refine aw_iconst (v := nI 1) dX3_bestLook_23 kc_1 ?_
    refine aw_istore (lo' := [_,_,_,_,_,_,_]) dX3_bestLook_24 (Nat.le_of_ble_eq_true rfl) rfl ?_
    exact lo_look hO hs hr hw hS hz hm hmz hSO hn hi hn2 rfl h8 20 0 nv none (by omega) n1 (fun h => absurd rfl h) (frQ_tr n2 k2)
  · rw [← nI_0, nI_eq (by omega) (by omega)] at h8
    refine aw_bipush (v := (-9)) dX3_bestLook_11 kb_m9 ?_
    refine aw_iret dX3_bestLook_13 rfl (rb0 (Nat.zero_le _)) ⟨rfl, _, rfl, fun _ => rfl, fun q => absurd h8 q, k2, rfl⟩
theorem aw_top {G : GC} {μ : MI} {R : Room} {Z : List Frame → Array Value → State → State → Prop} {X : State → Prop} {z0 pc : Nat} {lo : List (Option Value)} {st : List Value} {E : SH} {iv : IV} {lv : LV} {x y : Int32} (h : x = y) (k : AW G μ R Z X z0 pc lo (.int y :: st) E iv lv) : AW G μ R Z X z0 pc lo (.int x :: st) E iv lv := by
  subst h
  exact k
/-- one turn: the ash's, or the wind's, in a street -/
def tnD (t x : Nat) : Nat := if t % 2 = 0 then min 9 (x + 1) else 0
def tnO (t a b : Nat) : Nat := if t % 2 = 0 then min a b else max a b
def fldC (t : Nat) (ch : Nat → Bool) (f : Nat → Nat) (b0 : Nat) : Nat → Nat
  | 0 => b0
  | c + 1 => if ch c then tnO t (fldC t ch f b0 c) (f c) else fldC t ch f b0 c
def ocR (s : TS) : Nat → Nat → TV → Nat
  | 0, _, v => gd s v 6
  | k + 1, t, v => fldC t (fun c => decide (tnD t (v (1 + c)) ≠ v (1 + c))) (fun c => ocR s k (t + 1) (va_up v (1 + c) (tnD t (v (1 + c))))) (ocR s k (t + 1) v) 5
theorem WV_tn {s : TS} {v : TV} {c x : Nat} (h7 : s.1 ≤ 7) (hw : WV s v) (hc : c < 5) (hx : x ≤ 9) : WV s (va_up v (1 + c) x) := by
  refine ⟨fun i hi => ?_, fun q hq => ?_, ?_⟩
  · rw [va_up_n (by omega), va_up_n (by omega)]; exact hw.1 i hi
  · by_cases e : q = c
    · subst e; rw [va_up_s]; exact hx
    · rw [va_up_n (by omega)]; exact hw.2.1 q hq
  · rw [va_up_n (by omega)]; exact hw.2.2
theorem tnD_le {t x : Nat} : tnD t x ≤ 9 := by unfold tnD; split <;> omega
theorem tnO_le {t a b c : Nat} (h1 : a ≤ c) (h2 : b ≤ c) : tnO t a b ≤ c := by unfold tnO; split <;> omega
theorem fldC_le {t : Nat} {ch : Nat → Bool} {f : Nat → Nat} {b0 x : Nat} (h0 : b0 ≤ x) : ∀ c, (∀ j, j < c → f j ≤ x) → fldC t ch f b0 c ≤ x
  | 0, _ => h0
  | c + 1, h => by
    have h1 := fldC_le (t := t) (ch := ch) h0 c (fun j hj => h j (by omega))
    rw [fldC]
    split
    · exact tnO_le h1 (h c (by omega))
    · exact h1
theorem ocR_le {s : TS} (hs : WS s) : ∀ k t v, WV s v → v 0 + 6 < 2 ^ 20 → ocR s k t v ≤ 63
  | 0, _, v, hw, hd => gd_le hs hw hd
  | k + 1, t, v, hw, hd => by
    rw [ocR]
    exact fldC_le (ocR_le hs k (t + 1) v hw hd) 5 (fun j hj => ocR_le hs k (t + 1) _ (WV_tn hs.1 hw hj tnD_le) (by rw [va_up_n (by omega)]; exact hd))
theorem lo_ash {G : GC} {E : SH} {iv : IV} {lv : LV} {O : Nat} {s : TS} {v : TV} (hO : OutS G E O) (hs : WS s) (hr : TR (O + 1) s v iv) (hw : WV s v) {k t : Nat} (hk : k + 1 ≤ 3) (hp : t % 2 = 0) (hd : v 0 + 6 < 2 ^ 20) (ih : ∀ {u : TV} {jv : IV}, TR (O + 1) s u jv → WV s u → u 0 + 6 < 2 ^ 20 → SpI G mX3_mostByWind (6 + k) [.ref O, .int (nI k)] E jv lv (fun w i0 l => w = nI (ocR s k (t + 1) u) ∧ TR (O + 1) s u i0 ∧ frQ O i0 jv ∧ l = lv)) : ∀ (c q : Nat) (jv : IV) (j4 : Option Value), q + c = 5 → TR (O + 1) s v jv → frQ O jv iv → AW G mX3_leastByAsh (rm (6 + (k + 1)) 0) (Z0 G (6 + (k + 1)) E (fun r i0 l => ∃ w, r = some (.int w) ∧ (w = nI (ocR s (k + 1) t v) ∧ TR (O + 1) s v i0 ∧ frQ O i0 iv ∧ l = lv))) (fun _ => True) E.1 27 [some (.ref O), some (.int (nI (k + 1))), some (.int (nI (fldC t (fun c => decide (tnD t (v (1 + c)) ≠ v (1 + c))) (fun c => ocR s k (t + 1) (va_up v (1 + c) (tnD t (v (1 + c))))) (ocR s k (t + 1) v) q))), some (.int (nI q)), j4] [] E jv lv := by
  have h7 := hs.1
  have hb0 := ocR_le hs k (t + 1) v hw hd
  intro c
  induction c with
  | zero =>
    intro q jv j4 hq hj hf
    have hq : q = 5 := by omega
    subst hq
    refine aw_iload_n dX3_leastByAsh_27 rfl ?_
    refine aw_iconst (v := nI 5) dX3_leastByAsh_28 kc_5 ?_
    refine aw_icmp_ge (tgt := 92) dX3_leastByAsh_29 rfl (fun h29 => ?_) (fun h29 => absurd (nI_le (Nat.le_refl _) (by decide)) h29)
    refine aw_iload_n dX3_leastByAsh_92 rfl ?_
    refine aw_iret dX3_leastByAsh_93 rfl (rb0 (Nat.zero_le _)) ⟨rfl, _, rfl, rfl, hj, hf, rfl⟩
  | succ c ihc =>
    intro q jv j4 hq hj hf
    have hq5 : q < 5 := by omega
    have hv9 := hw.2.1 q hq5
    have hf9 : (fldC t (fun c => decide (tnD t (v (1 + c)) ≠ v (1 + c))) (fun c => ocR s k (t + 1) (va_up v (1 + c) (tnD t (v (1 + c))))) (ocR s k (t + 1) v) q) ≤ 63 := fldC_le hb0 q (fun j hj => ocR_le hs k (t + 1) _ (WV_tn h7 hw (by omega) tnD_le) (by rw [va_up_n (by omega)]; exact hd))
    have ho9 := ocR_le hs k (t + 1) (va_up v (1 + q) (tnD t (v (1 + q)))) (WV_tn h7 hw hq5 tnD_le) (by rw [va_up_n (by omega)]; exact hd)
    have hD : tnD t (v (1 + q)) = min 9 (v (1 + q) + 1) := if_pos hp
    refine aw_iload_n dX3_leastByAsh_27 rfl ?_
    refine aw_iconst (v := nI 5) dX3_leastByAsh_28 kc_5 ?_
    refine aw_icmp_ge (tgt := 92) dX3_leastByAsh_29 rfl (fun h29 => absurd h29 (nI_ge (by omega) (by decide))) (fun h29 => ?_)
    refine aw_aload_n dX3_leastByAsh_32 rfl ?_
    refine aw_getR dX3_leastByAsh_33 fgX3_12 rfl (OutS.s0 hO) (OutS.r0_0 hO) ?_
    refine aw_getR dX3_leastByAsh_36 fgX3_89 rfl (TownS.s0 (OutS.aside hO)) (TownS.r0_9 (OutS.aside hO)) ?_
    refine aw_iload_n dX3_leastByAsh_39 rfl ?_
    refine aw_iaload dX3_leastByAsh_40 (TownS.s13 (OutS.aside hO)) rfl (by omega) ?_
    rw [hj.2.2.2 q (by omega)]
    refine aw_istore (lo' := [_,_,_,_,_]) dX3_leastByAsh_41 (Nat.le_of_ble_eq_true rfl) rfl ?_
    refine aw_iload dX3_leastByAsh_43 rfl ?_
    refine aw_bipush (v := nI 9) dX3_leastByAsh_45 kb_9 ?_
    refine aw_icmp_ge (tgt := 86) dX3_leastByAsh_47 rfl (fun h47 => ?_) (fun h47 => ?_)
    · rw [nI_leI (by decide) (by omega)] at h47
      refine aw_iinc (v := _) (lo' := [_,_,_,_,_]) dX3_leastByAsh_86 rfl (nI_1 q) rfl ?_
      refine aw_goto (tgt := 27) dX3_leastByAsh_89 rfl ?_
      first
        | (have e9 : tnD t (v (1 + q)) = v (1 + q) := by rw [hD]; omega
           have h := ihc (q + 1) jv (some (.int (nI (v (1 + q))))) (by omega) hj hf
           rw [fldC] at h
           rw [show decide (tnD t (v (1 + q)) ≠ v (1 + q)) = false from decide_eq_false (fun z => z e9), if_neg (by decide)] at h
           exact h)
        | (have hne : tnD t (v (1 + q)) ≠ v (1 + q) := by rw [hD]; omega
           have hbk : TR (O + 1) s v (va_up kv (O + 1 + 13) (upd (kv (O + 1 + 13)) q (nI (v (1 + q))))) := by
             have h1 := TR_d (x := v (1 + q)) h7 hq5 k1
             rw [up_up, up_id] at h1
             exact h1
           have h := ihc (q + 1) (va_up kv (O + 1 + 13) (upd (kv (O + 1 + 13)) q (nI (v (1 + q))))) (some (.int (nI (v (1 + q))))) (by omega) hbk (frQ_tr (fun b hb => va_up_n (by omega)) (frQ_tr k2 (frQ_tr (fun b hb => va_up_n (by omega)) hf)))
           rw [fldC] at h
           rw [show decide (tnD t (v (1 + q)) ≠ v (1 + q)) = true from decide_eq_true hne, if_pos rfl] at h
           rw [show tnO t (fldC t (fun c => decide (tnD t (v (1 + c)) ≠ v (1 + c))) (fun c => ocR s k (t + 1) (va_up v (1 + c) (tnD t (v (1 + c))))) (ocR s k (t + 1) v) q) (ocR s k (t + 1) (va_up v (1 + q) (tnD t (v (1 + q))))) = min (fldC t (fun c => decide (tnD t (v (1 + c)) ≠ v (1 + c))) (fun c => ocR s k (t + 1) (va_up v (1 + c) (tnD t (v (1 + c))))) (ocR s k (t + 1) v) q) (ocR s k (t + 1) (va_up v (1 + q) (tnD t (v (1 + q))))) from if_pos hp] at h
           exact h)
    · rw [nI_leI (by decide) (by omega)] at h47
      refine aw_aload_n dX3_leastByAsh_50 rfl ?_
      refine aw_getR dX3_leastByAsh_51 fgX3_12 rfl (OutS.s0 hO) (OutS.r0_0 hO) ?_
      refine aw_getR dX3_leastByAsh_54 fgX3_89 rfl (TownS.s0 (OutS.aside hO)) (TownS.r0_9 (OutS.aside hO)) ?_
      refine aw_iload_n dX3_leastByAsh_57 rfl ?_
      refine aw_iload dX3_leastByAsh_58 rfl ?_
      refine aw_iconst (v := nI 1) dX3_leastByAsh_60 kc_1 ?_
      refine aw_iadd dX3_leastByAsh_61 ?_
      rw [nI_add, show v (1 + q) + 1 = tnD t (v (1 + q)) by rw [hD]; omega]
      refine aw_iastore dX3_leastByAsh_62 (TownS.s13 (OutS.aside hO)) rfl (by omega) ?_
      refine aw_iload_n dX3_leastByAsh_63 rfl ?_
      refine aw_aload_n dX3_leastByAsh_64 rfl ?_
      refine aw_iload_n dX3_leastByAsh_65 rfl ?_
      refine aw_iconst (v := nI 1) dX3_leastByAsh_66 kc_1 ?_
      refine aw_isub dX3_leastByAsh_67 ?_
      rw [pk_sub (by omega), Nat.add_sub_cancel]
      refine aw_sVi [_] dX3_leastByAsh_68 cvX3_133 (OutS.s0 hO) (ih (u := va_up v (1 + q) (tnD t (v (1 + q)))) (TR_d h7 hq5 hj) (WV_tn h7 hw hq5 tnD_le) (by rw [va_up_n (by omega)]; exact hd)) rfl rfl (Nat.le_of_ble_eq_true rfl) (rb0 (by omega)) (fun kw kv klv hk => ?_)
      obtain ⟨k0, k1, k2, rfl⟩ := hk
      subst k0
      refine aw_mmin dX3_leastByAsh_71 mjX3_136 st_min in_java_lang_Math cdJ9_min_7cf53 (Nat.le_of_ble_eq_true rfl) (rb0 (by omega)) ?_
      rw [mmin_n (by omega) (by omega)]
      refine aw_istore_n (lo' := [_,_,_,_,_]) dX3_leastByAsh_74 (Nat.le_of_ble_eq_true rfl) rfl ?_
      refine aw_aload_n dX3_leastByAsh_75 rfl ?_
      refine aw_getR dX3_leastByAsh_76 fgX3_12 rfl (OutS.s0 hO) (OutS.r0_0 hO) ?_
      refine aw_getR dX3_leastByAsh_79 fgX3_89 rfl (TownS.s0 (OutS.aside hO)) (TownS.r0_9 (OutS.aside hO)) ?_
      refine aw_iload_n dX3_leastByAsh_82 rfl ?_
      refine aw_iload dX3_leastByAsh_83 rfl ?_
      refine aw_iastore dX3_leastByAsh_85 (TownS.s13 (OutS.aside hO)) rfl (by omega) ?_
      refine aw_iinc (v := _) (lo' := [_,_,_,_,_]) dX3_leastByAsh_86 rfl (nI_1 q) rfl ?_
      refine aw_goto (tgt := 27) dX3_leastByAsh_89 rfl ?_
      first
        | (have e9 : tnD t (v (1 + q)) = v (1 + q) := by rw [hD]; omega
           have h := ihc (q + 1) jv (some (.int (nI (v (1 + q))))) (by omega) hj hf
           rw [fldC] at h
           rw [show decide (tnD t (v (1 + q)) ≠ v (1 + q)) = false from decide_eq_false (fun z => z e9), if_neg (by decide)] at h
           exact h)
        | (have hne : tnD t (v (1 + q)) ≠ v (1 + q) := by rw [hD]; omega
           have hbk : TR (O + 1) s v (va_up kv (O + 1 + 13) (upd (kv (O + 1 + 13)) q (nI (v (1 + q))))) := by
             have h1 := TR_d (x := v (1 + q)) h7 hq5 k1
             rw [up_up, up_id] at h1
             exact h1
           have h := ihc (q + 1) (va_up kv (O + 1 + 13) (upd (kv (O + 1 + 13)) q (nI (v (1 + q))))) (some (.int (nI (v (1 + q))))) (by omega) hbk (frQ_tr (fun b hb => va_up_n (by omega)) (frQ_tr k2 (frQ_tr (fun b hb => va_up_n (by omega)) hf)))
           rw [fldC] at h
           rw [show decide (tnD t (v (1 + q)) ≠ v (1 + q)) = true from decide_eq_true hne, if_pos rfl] at h
           rw [show tnO t (fldC t (fun c => decide (tnD t (v (1 + c)) ≠ v (1 + c))) (fun c => ocR s k (t + 1) (va_up v (1 + c) (tnD t (v (1 + c))))) (ocR s k (t + 1) v) q) (ocR s k (t + 1) (va_up v (1 + q) (tnD t (v (1 + q))))) = min (fldC t (fun c => decide (tnD t (v (1 + c)) ≠ v (1 + c))) (fun c => ocR s k (t + 1) (va_up v (1 + c) (tnD t (v (1 + c))))) (ocR s k (t + 1) v) q) (ocR s k (t + 1) (va_up v (1 + q) (tnD t (v (1 + q))))) from if_pos hp] at h
           exact h)
theorem lo_windy {G : GC} {E : SH} {iv : IV} {lv : LV} {O : Nat} {s : TS} {v : TV} (hO : OutS G E O) (hs : WS s) (hr : TR (O + 1) s v iv) (hw : WV s v) {k t : Nat} (hk : k + 1 ≤ 3) (hp : t % 2 = 1) (hd : v 0 + 6 < 2 ^ 20) (ih : ∀ {u : TV} {jv : IV}, TR (O + 1) s u jv → WV s u → u 0 + 6 < 2 ^ 20 → SpI G mX3_leastByAsh (6 + k) [.ref O, .int (nI k)] E jv lv (fun w i0 l => w = nI (ocR s k (t + 1) u) ∧ TR (O + 1) s u i0 ∧ frQ O i0 jv ∧ l = lv)) : ∀ (c q : Nat) (jv : IV) (j4 : Option Value), q + c = 5 → TR (O + 1) s v jv → frQ O jv iv → AW G mX3_mostByWind (rm (6 + (k + 1)) 0) (Z0 G (6 + (k + 1)) E (fun r i0 l => ∃ w, r = some (.int w) ∧ (w = nI (ocR s (k + 1) t v) ∧ TR (O + 1) s v i0 ∧ frQ O i0 iv ∧ l = lv))) (fun _ => True) E.1 27 [some (.ref O), some (.int (nI (k + 1))), some (.int (nI (fldC t (fun c => decide (tnD t (v (1 + c)) ≠ v (1 + c))) (fun c => ocR s k (t + 1) (va_up v (1 + c) (tnD t (v (1 + c))))) (ocR s k (t + 1) v) q))), some (.int (nI q)), j4] [] E jv lv := by
  have h7 := hs.1
  have hb0 := ocR_le hs k (t + 1) v hw hd
  intro c
  induction c with
  | zero =>
    intro q jv j4 hq hj hf
    have hq : q = 5 := by omega
    subst hq
    refine aw_iload_n dX3_mostByWind_27 rfl ?_
    refine aw_iconst (v := nI 5) dX3_mostByWind_28 kc_5 ?_
    refine aw_icmp_ge (tgt := 87) dX3_mostByWind_29 rfl (fun h29 => ?_) (fun h29 => absurd (nI_le (Nat.le_refl _) (by decide)) h29)
    refine aw_iload_n dX3_mostByWind_87 rfl ?_
    refine aw_iret dX3_mostByWind_88 rfl (rb0 (Nat.zero_le _)) ⟨rfl, _, rfl, rfl, hj, hf, rfl⟩
  | succ c ihc =>
    intro q jv j4 hq hj hf
    have hq5 : q < 5 := by omega
    have hv9 := hw.2.1 q hq5
    have hf9 : (fldC t (fun c => decide (tnD t (v (1 + c)) ≠ v (1 + c))) (fun c => ocR s k (t + 1) (va_up v (1 + c) (tnD t (v (1 + c))))) (ocR s k (t + 1) v) q) ≤ 63 := fldC_le hb0 q (fun j hj => ocR_le hs k (t + 1) _ (WV_tn h7 hw (by omega) tnD_le) (by rw [va_up_n (by omega)]; exact hd))
    have ho9 := ocR_le hs k (t + 1) (va_up v (1 + q) (tnD t (v (1 + q)))) (WV_tn h7 hw hq5 tnD_le) (by rw [va_up_n (by omega)]; exact hd)
    have hD : tnD t (v (1 + q)) = 0 := if_neg (by omega)
    refine aw_iload_n dX3_mostByWind_27 rfl ?_
    refine aw_iconst (v := nI 5) dX3_mostByWind_28 kc_5 ?_
    refine aw_icmp_ge (tgt := 87) dX3_mostByWind_29 rfl (fun h29 => absurd h29 (nI_ge (by omega) (by decide))) (fun h29 => ?_)
    refine aw_aload_n dX3_mostByWind_32 rfl ?_
    refine aw_getR dX3_mostByWind_33 fgX3_12 rfl (OutS.s0 hO) (OutS.r0_0 hO) ?_
    refine aw_getR dX3_mostByWind_36 fgX3_89 rfl (TownS.s0 (OutS.aside hO)) (TownS.r0_9 (OutS.aside hO)) ?_
    refine aw_iload_n dX3_mostByWind_39 rfl ?_
    refine aw_iaload dX3_mostByWind_40 (TownS.s13 (OutS.aside hO)) rfl (by omega) ?_
    rw [hj.2.2.2 q (by omega)]
    refine aw_istore (lo' := [_,_,_,_,_]) dX3_mostByWind_41 (Nat.le_of_ble_eq_true rfl) rfl ?_
    refine aw_iload dX3_mostByWind_43 rfl ?_
    refine aw_if_le (tgt := 81) dX3_mostByWind_45 rfl (fun h45 => ?_) (fun h45 => ?_)
    · rw [← nI_0, nI_leI (by omega) (by decide)] at h45
      refine aw_iinc (v := _) (lo' := [_,_,_,_,_]) dX3_mostByWind_81 rfl (nI_1 q) rfl ?_
      refine aw_goto (tgt := 27) dX3_mostByWind_84 rfl ?_
      first
        | (have e9 : tnD t (v (1 + q)) = v (1 + q) := by rw [hD]; omega
           have h := ihc (q + 1) jv (some (.int (nI (v (1 + q))))) (by omega) hj hf
           rw [fldC] at h
           rw [show decide (tnD t (v (1 + q)) ≠ v (1 + q)) = false from decide_eq_false (fun z => z e9), if_neg (by decide)] at h
           exact h)
        | (have hne : tnD t (v (1 + q)) ≠ v (1 + q) := by rw [hD]; omega
           have hbk : TR (O + 1) s v (va_up kv (O + 1 + 13) (upd (kv (O + 1 + 13)) q (nI (v (1 + q))))) := by
             have h1 := TR_d (x := v (1 + q)) h7 hq5 k1
             rw [up_up, up_id] at h1
             exact h1
           have h := ihc (q + 1) (va_up kv (O + 1 + 13) (upd (kv (O + 1 + 13)) q (nI (v (1 + q))))) (some (.int (nI (v (1 + q))))) (by omega) hbk (frQ_tr (fun b hb => va_up_n (by omega)) (frQ_tr k2 (frQ_tr (fun b hb => va_up_n (by omega)) hf)))
           rw [fldC] at h
           rw [show decide (tnD t (v (1 + q)) ≠ v (1 + q)) = true from decide_eq_true hne, if_pos rfl] at h
           rw [show tnO t (fldC t (fun c => decide (tnD t (v (1 + c)) ≠ v (1 + c))) (fun c => ocR s k (t + 1) (va_up v (1 + c) (tnD t (v (1 + c))))) (ocR s k (t + 1) v) q) (ocR s k (t + 1) (va_up v (1 + q) (tnD t (v (1 + q))))) = max (fldC t (fun c => decide (tnD t (v (1 + c)) ≠ v (1 + c))) (fun c => ocR s k (t + 1) (va_up v (1 + c) (tnD t (v (1 + c))))) (ocR s k (t + 1) v) q) (ocR s k (t + 1) (va_up v (1 + q) (tnD t (v (1 + q))))) from if_neg (by omega)] at h
           exact h)
    · rw [← nI_0, nI_leI (by omega) (by decide)] at h45
      refine aw_aload_n dX3_mostByWind_48 rfl ?_
      refine aw_getR dX3_mostByWind_49 fgX3_12 rfl (OutS.s0 hO) (OutS.r0_0 hO) ?_
      refine aw_getR dX3_mostByWind_52 fgX3_89 rfl (TownS.s0 (OutS.aside hO)) (TownS.r0_9 (OutS.aside hO)) ?_
      refine aw_iload_n dX3_mostByWind_55 rfl ?_
      refine aw_iconst (v := nI 0) dX3_mostByWind_56 kc_0 ?_
      refine aw_top (y := nI (tnD t (v (1 + q)))) (by rw [hD]) ?_
      refine aw_iastore dX3_mostByWind_57 (TownS.s13 (OutS.aside hO)) rfl (by omega) ?_
      refine aw_iload_n dX3_mostByWind_58 rfl ?_
      refine aw_aload_n dX3_mostByWind_59 rfl ?_
      refine aw_iload_n dX3_mostByWind_60 rfl ?_
      refine aw_iconst (v := nI 1) dX3_mostByWind_61 kc_1 ?_
      refine aw_isub dX3_mostByWind_62 ?_
      rw [pk_sub (by omega), Nat.add_sub_cancel]
      refine aw_sVi [_] dX3_mostByWind_63 cvX3_139 (OutS.s0 hO) (ih (u := va_up v (1 + q) (tnD t (v (1 + q)))) (TR_d h7 hq5 hj) (WV_tn h7 hw hq5 tnD_le) (by rw [va_up_n (by omega)]; exact hd)) rfl rfl (Nat.le_of_ble_eq_true rfl) (rb0 (by omega)) (fun kw kv klv hk => ?_)
      obtain ⟨k0, k1, k2, rfl⟩ := hk
      subst k0
      refine aw_mmax dX3_mostByWind_66 mjX3_83 st_max in_java_lang_Math cdJ9_max_7cf53 (Nat.le_of_ble_eq_true rfl) (rb0 (by omega)) ?_
      rw [mmax_n (by omega) (by omega)]
      refine aw_istore_n (lo' := [_,_,_,_,_]) dX3_mostByWind_69 (Nat.le_of_ble_eq_true rfl) rfl ?_
      refine aw_aload_n dX3_mostByWind_70 rfl ?_
      refine aw_getR dX3_mostByWind_71 fgX3_12 rfl (OutS.s0 hO) (OutS.r0_0 hO) ?_
      refine aw_getR dX3_mostByWind_74 fgX3_89 rfl (TownS.s0 (OutS.aside hO)) (TownS.r0_9 (OutS.aside hO)) ?_
      refine aw_iload_n dX3_mostByWind_77 rfl ?_
      refine aw_iload dX3_mostByWind_78 rfl ?_
      refine aw_iastore dX3_mostByWind_80 (TownS.s13 (OutS.aside hO)) rfl (by omega) ?_
      refine aw_iinc (v := _) (lo' := [_,_,_,_,_]) dX3_mostByWind_81 rfl (nI_1 q) rfl ?_
      refine aw_goto (tgt := 27) dX3_mostByWind_84 rfl ?_
      first
        | (have e9 : tnD t (v (1 + q)) = v (1 + q) := by rw [hD]; omega
           have h := ihc (q + 1) jv (some (.int (nI (v (1 + q))))) (by omega) hj hf
           rw [fldC] at h
           rw [show decide (tnD t (v (1 + q)) ≠ v (1 + q)) = false from decide_eq_false (fun z => z e9), if_neg (by decide)] at h
           exact h)
        | (have hne : tnD t (v (1 + q)) ≠ v (1 + q) := by rw [hD]; omega
           have hbk : TR (O + 1) s v (va_up kv (O + 1 + 13) (upd (kv (O + 1 + 13)) q (nI (v (1 + q))))) := by
             have h1 := TR_d (x := v (1 + q)) h7 hq5 k1
             rw [up_up, up_id] at h1
             exact h1
           have h := ihc (q + 1) (va_up kv (O + 1 + 13) (upd (kv (O + 1 + 13)) q (nI (v (1 + q))))) (some (.int (nI (v (1 + q))))) (by omega) hbk (frQ_tr (fun b hb => va_up_n (by omega)) (frQ_tr k2 (frQ_tr (fun b hb => va_up_n (by omega)) hf)))
           rw [fldC] at h
           rw [show decide (tnD t (v (1 + q)) ≠ v (1 + q)) = true from decide_eq_true hne, if_pos rfl] at h
           rw [show tnO t (fldC t (fun c => decide (tnD t (v (1 + c)) ≠ v (1 + c))) (fun c => ocR s k (t + 1) (va_up v (1 + c) (tnD t (v (1 + c))))) (ocR s k (t + 1) v) q) (ocR s k (t + 1) (va_up v (1 + q) (tnD t (v (1 + q))))) = max (fldC t (fun c => decide (tnD t (v (1 + c)) ≠ v (1 + c))) (fun c => ocR s k (t + 1) (va_up v (1 + c) (tnD t (v (1 + c))))) (ocR s k (t + 1) v) q) (ocR s k (t + 1) (va_up v (1 + q) (tnD t (v (1 + q))))) from if_neg (by omega)] at h
           exact h)
theorem o_both {G : GC} {E : SH} {lv : LV} {O : Nat} {s : TS} (hO : OutS G E O) (hs : WS s) : ∀ k : Nat, k ≤ 3 → (∀ (t : Nat) (v : TV) (iv : IV), t % 2 = 0 → TR (O + 1) s v iv → WV s v → v 0 + 6 < 2 ^ 20 → SpI G mX3_leastByAsh (6 + k) [.ref O, .int (nI k)] E iv lv (fun w i0 l => w = nI (ocR s k t v) ∧ TR (O + 1) s v i0 ∧ frQ O i0 iv ∧ l = lv)) ∧ (∀ (t : Nat) (v : TV) (iv : IV), t % 2 = 1 → TR (O + 1) s v iv → WV s v → v 0 + 6 < 2 ^ 20 → SpI G mX3_mostByWind (6 + k) [.ref O, .int (nI k)] E iv lv (fun w i0 l => w = nI (ocR s k t v) ∧ TR (O + 1) s v i0 ∧ frQ O i0 iv ∧ l = lv)) := by
  intro k
  induction k with
  | zero =>
    intro hk
    refine ⟨?_, ?_⟩
    · intro t v iv hp hr hw hd
      refine spec0_of (lo := [_,_,_,_,_]) (by decide) (Nat.le_of_ble_eq_true rfl) rfl ?_
      refine aw_iload_n dX3_leastByAsh_0 rfl ?_
      refine aw_iconst (v := nI 1) dX3_leastByAsh_1 kc_1 ?_
      refine aw_icmp_lt (tgt := 10) dX3_leastByAsh_2 rfl (fun h2 => ?_) (fun h2 => absurd (nI_lt (by decide) (by decide)) h2)
      refine aw_aload_n dX3_leastByAsh_10 rfl ?_
      refine aw_bipush (v := nI 6) dX3_leastByAsh_11 kb_6 ?_
      refine aw_sVi [_] dX3_leastByAsh_13 cvX3_98 (OutS.s0 hO) (o_behind hO hs hr hw hd) rfl rfl (Nat.le_of_ble_eq_true rfl) (rb0 (by decide)) (fun kw kv klv hk => ?_)
      obtain ⟨k0, k1, k2, rfl⟩ := hk
      subst k0
      refine aw_iret dX3_leastByAsh_16 rfl (rb0 (Nat.zero_le _)) ⟨rfl, _, rfl, rfl, k1.1, frO_Q k2, rfl⟩
    · intro t v iv hp hr hw hd
      refine spec0_of (lo := [_,_,_,_,_]) (by decide) (Nat.le_of_ble_eq_true rfl) rfl ?_
      refine aw_iload_n dX3_mostByWind_0 rfl ?_
      refine aw_iconst (v := nI 1) dX3_mostByWind_1 kc_1 ?_
      refine aw_icmp_lt (tgt := 10) dX3_mostByWind_2 rfl (fun h2 => ?_) (fun h2 => absurd (nI_lt (by decide) (by decide)) h2)
      refine aw_aload_n dX3_mostByWind_10 rfl ?_
      refine aw_bipush (v := nI 6) dX3_mostByWind_11 kb_6 ?_
      refine aw_sVi [_] dX3_mostByWind_13 cvX3_98 (OutS.s0 hO) (o_behind hO hs hr hw hd) rfl rfl (Nat.le_of_ble_eq_true rfl) (rb0 (by decide)) (fun kw kv klv hk => ?_)
      obtain ⟨k0, k1, k2, rfl⟩ := hk
      subst k0
      refine aw_iret dX3_mostByWind_16 rfl (rb0 (Nat.zero_le _)) ⟨rfl, _, rfl, rfl, k1.1, frO_Q k2, rfl⟩
  | succ k ih =>
    intro hk
    obtain ⟨ih0, ih1⟩ := ih (by omega)
    refine ⟨?_, ?_⟩
    · intro t v iv hp hr hw hd
      refine spec0_of (lo := [_,_,_,_,_]) (by decide) (Nat.le_of_ble_eq_true rfl) rfl ?_
      refine aw_iload_n dX3_leastByAsh_0 rfl ?_
      refine aw_iconst (v := nI 1) dX3_leastByAsh_1 kc_1 ?_
      refine aw_icmp_lt (tgt := 10) dX3_leastByAsh_2 rfl (fun h2 => absurd h2 (nI_nlt (by omega) (by omega))) (fun h2 => ?_)
      refine aw_iload_n dX3_leastByAsh_5 rfl ?_
      refine aw_iconst (v := nI 3) dX3_leastByAsh_6 kc_3 ?_
      refine aw_icmp_le (tgt := 17) dX3_leastByAsh_7 rfl (fun h7 => ?_) (fun h7 => absurd (nI_le hk (by decide)) h7)
      refine aw_aload_n dX3_leastByAsh_17 rfl ?_
      refine aw_iload_n dX3_leastByAsh_18 rfl ?_
      refine aw_iconst (v := nI 1) dX3_leastByAsh_19 kc_1 ?_
      refine aw_isub dX3_leastByAsh_20 ?_
      rw [pk_sub (by omega), Nat.add_sub_cancel]
      refine aw_sVi [_] dX3_leastByAsh_21 cvX3_133 (OutS.s0 hO) (ih1 (t + 1) v iv (by omega) hr hw hd) rfl rfl (Nat.le_of_ble_eq_true rfl) (rb0 (by omega)) (fun kw kv klv hk => ?_)
      obtain ⟨k0, k1, k2, rfl⟩ := hk
      subst k0
      refine aw_istore_n (lo' := [_,_,_,_,_]) dX3_leastByAsh_24 (Nat.le_of_ble_eq_true rfl) rfl ?_
      refine aw_iconst (v := nI 0) dX3_leastByAsh_25 kc_0 ?_
      refine aw_istore_n (lo' := [_,_,_,_,_]) dX3_leastByAsh_26 (Nat.le_of_ble_eq_true rfl) rfl ?_
      exact lo_ash hO hs hr hw (k := k) (t := t) (lv := klv) hk hp hd (fun {u jv} h1 h2 h3 => ih1 (t + 1) u jv (by omega) h1 h2 h3) 5 0 kv none (by omega) k1 k2
    · intro t v iv hp hr hw hd
      refine spec0_of (lo := [_,_,_,_,_]) (by decide) (Nat.le_of_ble_eq_true rfl) rfl ?_
      refine aw_iload_n dX3_mostByWind_0 rfl ?_
      refine aw_iconst (v := nI 1) dX3_mostByWind_1 kc_1 ?_
      refine aw_icmp_lt (tgt := 10) dX3_mostByWind_2 rfl (fun h2 => absurd h2 (nI_nlt (by omega) (by omega))) (fun h2 => ?_)
      refine aw_iload_n dX3_mostByWind_5 rfl ?_
      refine aw_iconst (v := nI 3) dX3_mostByWind_6 kc_3 ?_
      refine aw_icmp_le (tgt := 17) dX3_mostByWind_7 rfl (fun h7 => ?_) (fun h7 => absurd (nI_le hk (by decide)) h7)
      refine aw_aload_n dX3_mostByWind_17 rfl ?_
      refine aw_iload_n dX3_mostByWind_18 rfl ?_
      refine aw_iconst (v := nI 1) dX3_mostByWind_19 kc_1 ?_
      refine aw_isub dX3_mostByWind_20 ?_
      rw [pk_sub (by omega), Nat.add_sub_cancel]
      refine aw_sVi [_] dX3_mostByWind_21 cvX3_139 (OutS.s0 hO) (ih0 (t + 1) v iv (by omega) hr hw hd) rfl rfl (Nat.le_of_ble_eq_true rfl) (rb0 (by omega)) (fun kw kv klv hk => ?_)
      obtain ⟨k0, k1, k2, rfl⟩ := hk
      subst k0
      refine aw_istore_n (lo' := [_,_,_,_,_]) dX3_mostByWind_24 (Nat.le_of_ble_eq_true rfl) rfl ?_
      refine aw_iconst (v := nI 0) dX3_mostByWind_25 kc_0 ?_
      refine aw_istore_n (lo' := [_,_,_,_,_]) dX3_mostByWind_26 (Nat.le_of_ble_eq_true rfl) rfl ?_
      exact lo_windy hO hs hr hw (k := k) (t := t) (lv := klv) hk hp hd (fun {u jv} h1 h2 h3 => ih0 (t + 1) u jv (by omega) h1 h2 h3) 5 0 kv none (by omega) k1 k2
theorem o_turns {G : GC} {E : SH} {iv : IV} {lv : LV} {O : Nat} {s : TS} {v : TV} (hO : OutS G E O) (hs : WS s) (hr : TR (O + 1) s v iv) (hw : WV s v) {n : Nat} (hn : n ≤ 3) (hd : v 0 + 6 < 2 ^ 20) : SpI G mX3_leastByAsh (6 + n) [.ref O, .int (nI n)] E iv lv (fun w i0 l => w = nI (ocR s n 0 v) ∧ TR (O + 1) s v i0 ∧ frQ O i0 iv ∧ l = lv) := by
  exact (o_both (lv := lv) hO hs n hn).1 0 v iv (by decide) hr hw hd
