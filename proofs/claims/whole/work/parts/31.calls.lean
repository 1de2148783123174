/-! THE WHOLE STATE: answers, rows and texts, the town with its deeds, what is kept -/
abbrev KL : Type := Nat × (Nat → TV)
abbrev FT : Type := TS × KL × (Nat → Option KL)
abbrev RS : Type := Int32 × AA × DD × FT
abbrev nowT (T : FT) : TV := T.2.1.2 T.2.1.1
def CT (X : Nat) (T : FT) (iv : IV) : Prop := TF (X + 5) T.1 T.2.1.1 T.2.1.2 iv ∧ (∀ k, k < 3 → T.2.2 k = none → iv (X + (78 + 20 * k)) 0 = nI 0) ∧ ∀ k, k < 3 → ∀ K, T.2.2 k = some K → TF (X + (78 + 20 * k)) T.1 K.1 K.2 iv
def WT (T : FT) : Prop := WL T.1 T.2.1.1 T.2.1.2 ∧ (T.1.1 = 0 → T.2.1.1 = 0) ∧ ∀ k, k < 3 → ∀ K, T.2.2 k = some K → WL T.1 K.1 K.2 ∧ T.1.1 ≠ 0
def frX {α : Type} (X : Nat) (i iv : Nat → α) : Prop := ∀ b, ¬ (X ≤ b ∧ b < X + 138) → i b = iv b
def QC (X : Nat) (iv : IV) (lv : LV) (o : RS) (v : Int32) (i : IV) (l : LV) : Prop := v = o.1 ∧ CA X o.2.1 i l ∧ CD X o.2.2.1 i ∧ CT X o.2.2.2 i ∧ frX X i iv ∧ frX X l lv
theorem TF_of {T m : Nat} {s : TS} {lg : Nat → TV} {iv i : IV} (h : ∀ b, T ≤ b → b < T + 20 → i b = iv b) (hf : TF T s m lg iv) : TF T s m lg i := by
  refine ⟨TR_of hf.1 (by rw [h _ (by omega) (by omega)]) (by rw [h _ (by omega) (by omega)]) (fun b h1 h2 => h b (by omega) (by omega)), by rw [h _ (by omega) (by omega)]; exact hf.2.1, ⟨fun i hi => ?_, fun c hc => ?_⟩, fun d hd => ?_⟩
  · rw [h _ (by omega) (by omega), h _ (by omega) (by omega)]; exact hf.2.2.1.1 i hi
  · rw [h _ (by omega) (by omega)]; exact hf.2.2.1.2 c hc
  · rw [h _ (by omega) (by omega), h _ (by omega) (by omega), h _ (by omega) (by omega)]; exact hf.2.2.2 d hd
theorem CT_of {X : Nat} {T : FT} {iv i : IV} (h : ∀ b, (X + 5 ≤ b ∧ b < X + 25) ∨ (X + 78 ≤ b ∧ b < X + 138) → i b = iv b) (hT : CT X T iv) : CT X T i :=
  ⟨TF_of (fun b h1 h2 => h b (by omega)) hT.1, fun k hk e => by rw [h _ (by omega)]; exact hT.2.1 k hk e, fun k hk K e => TF_of (fun b h1 h2 => h b (by omega)) (hT.2.2 k hk K e)⟩
theorem QC_no {X : Nat} {A : AA} {D : DD} {T : FT} {iv : IV} {lv : LV} {o : RS} {v : Int32} (hA : CA X A iv lv) (hD : CD X D iv) (hT : CT X T iv) (e : o = (v, A, D, T)) : QC X iv lv o v iv lv := by
  subst e
  exact ⟨rfl, hA, hD, hT, fun _ _ => rfl, fun _ _ => rfl⟩
theorem QC_fnd {X f : Nat} {A : AA} {D : DD} {T : FT} {iv : IV} {lv : LV} {o : RS} (hA : CA X A iv lv) (hD : CD X D iv) (hT : CT X T iv) (hf : f < 6) (e : o = (-3, fnd A f, D, T)) : QC X iv lv o (-3) (fndM X iv f) lv := by
  subst e
  exact ⟨rfl, CA_fnd hA hf, CD_fnd hD, CT_of (fun b hb => fndM_o (by omega) (by omega)) hT, fun b hb => fndM_o (by omega) (by omega), fun _ _ => rfl⟩
/-- told; the outlook may have changed before -/
theorem QC_tel {X : Nat} {A : AA} {D : DD} {T : FT} {iv i : IV} {lv : LV} {o : RS} {v w : Int32} (hA : CA X A iv lv) (hD : CD X D iv) (hT : CT X T iv) (hq : frQ (X + 26) i iv) (e : o = (v, tel A w, D, T)) : QC X iv lv o v (telM X i w) lv := by
  subst e
  refine ⟨rfl, CA_tel (CA_of hA (hq _ (by omega)) (hq _ (by omega))), CD_of (fun b h1 h2 => ?_) hD, CT_of (fun b hb => ?_) hT, fun b hb => ?_, fun _ _ => rfl⟩
  · rw [telM_o (by omega)]; exact hq b (by omega)
  · rw [telM_o (by omega)]; exact hq b (by omega)
  · rw [telM_o (by omega)]; exact hq b (by omega)
theorem QC_out {X : Nat} {A : AA} {D : DD} {T : FT} {iv i : IV} {lv : LV} {o : RS} {v : Int32} (hA : CA X A iv lv) (hD : CD X D iv) (hT : CT X T iv) (hq : frQ (X + 26) i iv) (e : o = (v, A, D, T)) : QC X iv lv o v i lv := by
  subst e
  exact ⟨rfl, CA_of hA (hq _ (by omega)) (hq _ (by omega)), CD_of (fun b h1 h2 => hq b (by omega)) hD, CT_of (fun b hb => hq b (by omega)) hT, fun b hb => hq b (by omega), fun _ _ => rfl⟩
/-- the town has changed, and nothing else -/
theorem QC_twn {X m : Nat} {A : AA} {D : DD} {T : FT} {lg : Nat → TV} {iv i : IV} {lv : LV} {o : RS} {v : Int32} (hA : CA X A iv lv) (hD : CD X D iv) (hT : CT X T iv) (hf : TF (X + 5) T.1 m lg i) (hq : frT (X + 5) i iv) (e : o = (v, A, D, (T.1, (m, lg), T.2.2))) : QC X iv lv o v i lv := by
  subst e
  exact ⟨rfl, CA_of hA (hq _ (by omega)) (hq _ (by omega)), CD_of (fun b h1 h2 => hq b (by omega)) hD, ⟨hf, fun k hk e => (by rw [hq _ (by omega)]; exact hT.2.1 k hk e), fun k hk K e => TF_of (fun b h1 h2 => hq b (by omega)) (hT.2.2 k hk K e)⟩, fun b hb => hq b (by omega), fun _ _ => rfl⟩
theorem nowW {T : FT} (h : WT T) : WV T.1 (nowT T) := (h.1.2.2.2 _ (Nat.le_refl _)).1
theorem nowD {T : FT} (h : WT T) : nowT T 0 ≤ 40 := Nat.le_trans (h.1.2.2.2 _ (Nat.le_refl _)).2 h.1.2.1
def pushD (T : FT) (δ p q : Nat) : FT := (T.1, (T.2.1.1 + 1, lgx T.2.1.2 T.2.1.1 (deed T.1 δ p q (nowT T))), T.2.2)
theorem nowP {T : FT} {δ p q : Nat} : nowT (pushD T δ p q) = deed T.1 δ p q (nowT T) := by
  show lgx _ _ _ _ = _
  exact if_pos rfl
def oPerson (A : AA) (D : DD) (T : FT) (i w : Int32) : RS := if bad i T.1.1 ∨ bad w 7 then (-1, A, D, T) else (1, tel A (fact T.1 (nowT T) (ix i) (ix w)), D, T)
def oDeep (A : AA) (D : DD) (T : FT) (c : Int32) : RS := if bad c 5 then (-1, A, D, T) else if T.1.1 = 0 then (-4, A, D, T) else (nI (nowT T (1 + ix c)), tel A (nI (cntU (pst (nowT T) (ix c)) T.1.1)), D, T)
def oDay (A : AA) (D : DD) (T : FT) : RS := if T.1.1 = 0 ∨ 99 ≤ nowT T 0 then (-4, A, D, T) else if 40 ≤ T.2.1.1 then (-2, A, D, T) else (nI (tot T.1 (pass T.1 (nowT T))), A, D, pushD T 1 0 0)
def oFall (A : AA) (D : DD) (T : FT) (c n : Int32) : RS := if bad c 5 ∨ n < nI 1 ∨ nI 9 < n then (-1, A, D, T) else if T.1.1 = 0 ∨ 9 ≤ nowT T (1 + ix c) then (-4, A, D, T) else if 40 ≤ T.2.1.1 then (-2, A, D, T) else (nI (min 9 (nowT T (1 + ix c) + ix n)), A, D, pushD T 2 (ix c) (ix n))
def oWind (A : AA) (D : DD) (T : FT) (c : Int32) : RS := if bad c 5 then (-1, A, D, T) else if T.1.1 = 0 ∨ nowT T (1 + ix c) = 0 then (-4, A, D, T) else if 40 ≤ T.2.1.1 then (-2, A, D, T) else (nI (nowT T (1 + ix c)), A, D, pushD T 3 (ix c) 0)
def oGo (A : AA) (D : DD) (T : FT) (i c : Int32) : RS := if bad i T.1.1 ∨ bad c 5 then (-1, A, D, T) else if nowT T (13 + ix i) = ix c then (-4, A, D, T) else if 40 ≤ T.2.1.1 then (-2, A, D, T) else (nI (nowT T (13 + ix i)), A, D, pushD T 4 (ix i) (ix c))
def oUndo (A : AA) (D : DD) (T : FT) (n : Int32) : RS := if n < 0 ∨ nI T.2.1.1 < n then (-1, A, D, T) else (nI (T.2.1.1 - ix n), A, D, (T.1, (ix n, T.2.1.2), T.2.2))
def oKeep (A : AA) (D : DD) (T : FT) (k : Int32) : RS := if bad k 3 then (-1, A, D, T) else if T.1.1 = 0 then (-4, A, D, T) else (nI T.2.1.1, A, D, (T.1, T.2.1, va_up T.2.2 (ix k) (some T.2.1)))
def oOn (A : AA) (D : DD) (T : FT) (k : Int32) : RS := if bad k 3 then (-1, A, D, T) else match T.2.2 (ix k) with
  | none => (-3, fnd A 1, D, T)
  | some K => (nI K.1, A, D, (T.1, K, T.2.2))
def pmt (s : TS) (v : TV) (i : Nat) : Bool := decide (mood s v i ≠ 0)
def pfg (s : TS) (v : TV) (i : Nat) : Bool := decide (mood s v i = 1)
def oMeets (A : AA) (D : DD) (T : FT) : RS := (nI (bitU (pmt T.1 (nowT T)) T.1.1), tel A (nI (cntU (pfg T.1 (nowT T)) T.1.1)), D, T)
def oLater (A : AA) (D : DD) (T : FT) (i n : Int32) : RS := if bad i T.1.1 ∨ n < 0 ∨ nI 60 < n then (-1, A, D, T) else (nI (passN T.1 (nowT T) (ix n) (6 + ix i)), tel A (nI (gd T.1 (nowT T) (ix n))), D, T)
def oPeace (A : AA) (D : DD) (T : FT) : RS := if T.1.1 = 0 then (-4, A, D, T) else match fz (gd T.1 (nowT T)) 121 with
  | none => (-9, A, D, T)
  | some e => (nI e, tel A (nI (mxU (gd T.1 (nowT T)) (e + 1))), D, T)
def oLeft (A : AA) (D : DD) (T : FT) (n : Int32) : RS := if n < 0 ∨ nI 60 < n then (-1, A, D, T) else if T.1.1 = 0 then (-4, A, D, T) else (nI (gd T.1 (nowT T) (ix n)), tel A (nI (cntU (pclm (passN T.1 (nowT T) (ix n))) T.1.1)), D, T)
def oAsh (A : AA) (D : DD) (T : FT) (n : Int32) : RS := if n < nI 1 ∨ nI 40 < n then (-1, A, D, T) else if T.1.1 = 0 then (-4, A, D, T) else (nI (bst (fAsh T.1 (nowT T) (ix n)) 10).1, tel A (nI (bst (fAsh T.1 (nowT T) (ix n)) 10).2), D, T)
def oBest (A : AA) (D : DD) (T : FT) (n : Int32) : RS := if n < nI 1 ∨ nI 40 < n then (-1, A, D, T) else if T.1.1 = 0 then (-4, A, D, T) else match (mvb (fMv T.1 (nowT T) (ix n)) (gd T.1 (nowT T) (ix n)) (5 * T.1.1)).1 with
  | none => (-9, A, D, T)
  | some j => (nI (10 * (j / 5) + j % 5), tel A (nI (mvb (fMv T.1 (nowT T) (ix n)) (gd T.1 (nowT T) (ix n)) (5 * T.1.1)).2), D, T)
theorem ix_1 {n : Int32} {k : Nat} (h1 : ¬ n < nI 1) (h : ¬ nI k < n) (hk : k < 2 ^ 31) : ∃ j, 1 ≤ j ∧ j ≤ k ∧ n = nI j := by
  obtain ⟨j, hj, rfl⟩ := ix_le (k := k) (fun q => h1 (Int32.lt_trans q (by decide))) h hk
  refine ⟨j, ?_, hj, rfl⟩
  by_cases e : j = 0
  · subst e; exact absurd (by decide) h1
  · omega
theorem ni_ne {j k : Nat} (hj : j < 2 ^ 31) (hk : k < 2 ^ 31) (h : j ≠ k) : nI j ≠ nI k := fun q => h (by rw [← ix_nI hj, ← ix_nI hk, q])
theorem e_isPerson {G : GC} {E : SH} {iv : IV} {lv : LV} {X n : Nat} (hX : XS G E X) (h0 : iv (X + 5) 0 = nI n) (r : Int32) : ExI G mX10_isPerson 1 [.ref X, .int r] E iv lv (zI (0 ≤ r ∧ r < nI n)) iv lv := by
  refine spec0_of (lo := [_,_]) (by decide) (Nat.le_of_ble_eq_true rfl) rfl ?_
  refine aw_iload_n dX10_isPerson_0 rfl ?_
  refine aw_if_lt (tgt := 19) dX10_isPerson_1 rfl (fun h1 => ?_) (fun h1 => ?_)
  · refine aw_iconst (v := nI 0) dX10_isPerson_19 kc_0 ?_
    refine aw_zret dX10_isPerson_20 rfl rfl (rb0 (Nat.zero_le _)) ⟨rfl, _, rfl, ?_, rfl, rfl⟩
    rw [eq_comm]
    first
      | exact zI_f (fun q => absurd q.1 (Int32.not_le.mpr h1))
      | exact zI_f (fun q => h12 q.2)
      | exact zI_f (fun q => absurd q.2 (Int32.not_lt.mpr h12))
      | exact zI_t ⟨Int32.not_lt.mp h1, Int32.not_le.mp h12⟩
      | exact zI_t ⟨Int32.not_lt.mp h1, h12⟩
  · refine aw_iload_n dX10_isPerson_4 rfl ?_
    refine aw_aload_n dX10_isPerson_5 rfl ?_
    refine aw_getR dX10_isPerson_6 fgX10_28 rfl (XS.s0 hX) (XS.r0_3 hX) ?_
    refine aw_getI dX10_isPerson_9 fgX10_118 rfl (TownS.s0 (XS.town hX)) ?_
    rw [h0]
    refine aw_icmp_ge (tgt := 19) dX10_isPerson_12 rfl (fun h12 => ?_) (fun h12 => ?_)
    · refine aw_iconst (v := nI 0) dX10_isPerson_19 kc_0 ?_
      refine aw_zret dX10_isPerson_20 rfl rfl (rb0 (Nat.zero_le _)) ⟨rfl, _, rfl, ?_, rfl, rfl⟩
      rw [eq_comm]
      first
        | exact zI_f (fun q => absurd q.1 (Int32.not_le.mpr h1))
        | exact zI_f (fun q => h12 q.2)
        | exact zI_f (fun q => absurd q.2 (Int32.not_lt.mpr h12))
        | exact zI_t ⟨Int32.not_lt.mp h1, Int32.not_le.mp h12⟩
        | exact zI_t ⟨Int32.not_lt.mp h1, h12⟩
    · refine aw_iconst (v := nI 1) dX10_isPerson_15 kc_1 ?_
      refine aw_goto (tgt := 20) dX10_isPerson_16 rfl ?_
      refine aw_zret dX10_isPerson_20 rfl rfl (rb0 (Nat.zero_le _)) ⟨rfl, _, rfl, ?_, rfl, rfl⟩
      rw [eq_comm]
      first
        | exact zI_f (fun q => absurd q.1 (Int32.not_le.mpr h1))
        | exact zI_f (fun q => h12 q.2)
        | exact zI_f (fun q => absurd q.2 (Int32.not_lt.mpr h12))
        | exact zI_t ⟨Int32.not_lt.mp h1, Int32.not_le.mp h12⟩
        | exact zI_t ⟨Int32.not_lt.mp h1, h12⟩
theorem e_passOn {G : GC} {E : SH} {iv : IV} {lv : LV} {X : Nat} (hX : XS G E X) (w : Int32) : ExI G mX10_passOn 1 [.ref X, .int w] E iv lv w (if w = -9 then iv else telM X iv (iv (X + 26) 6)) lv := by
  refine spec0_of (lo := [_,_]) (by decide) (Nat.le_of_ble_eq_true rfl) rfl ?_
  refine aw_iload_n dX10_passOn_0 rfl ?_
  refine aw_bipush (v := (-9)) dX10_passOn_1 kb_m9 ?_
  refine aw_icmp_eq (tgt := 17) dX10_passOn_3 rfl (fun h3 => ?_) (fun h3 => ?_)
  · refine aw_iload_n dX10_passOn_17 rfl ?_
    refine aw_iret dX10_passOn_18 rfl (rb0 (Nat.zero_le _)) ⟨rfl, _, rfl, ?_, ?_, rfl⟩
    · rfl
    · rw [eq_comm]
      first
        | exact if_pos h3
        | exact if_neg h3
  · refine aw_aload_n dX10_passOn_6 rfl ?_
    refine aw_aload_n dX10_passOn_7 rfl ?_
    refine aw_getR dX10_passOn_8 fgX10_39 rfl (XS.s0 hX) (XS.r0_5 hX) ?_
    refine aw_getI dX10_passOn_11 fgX10_303 rfl (OutS.s0 (XS.out hX)) ?_
    refine aw_putI dX10_passOn_14 fpX10_51 rfl (XS.s0 hX) ?_
    refine aw_iload_n dX10_passOn_17 rfl ?_
    refine aw_iret dX10_passOn_18 rfl (rb0 (Nat.zero_le _)) ⟨rfl, _, rfl, ?_, ?_, rfl⟩
    · rfl
    · rw [eq_comm]
      first
        | exact if_pos h3
        | exact if_neg h3
theorem x_person {G : GC} {E : SH} {iv : IV} {lv : LV} {X : Nat} (hX : XS G E X) {A : AA} {D : DD} {T : FT} (hA : CA X A iv lv) (hD : CD X D iv) (hT : CT X T iv) (hW : WT T) (i w : Int32) : SpI G mX10_person 4 [.ref X, .int i, .int w] E iv lv (QC X iv lv (oPerson A D T i w)) := by
  obtain ⟨s, ⟨m, lg⟩, kp⟩ := T
  have hs : WS s := hW.1.1
  have hs7 : s.1 ≤ 7 := hs.1
  have hw : WV s (lg m) := nowW hW
  have hd : lg m 0 ≤ 40 := nowD hW
  have hf : TF (X + 5) s m lg iv := hT.1
  have hr : TR (X + 5) s (lg m) iv := hf.1
  have hm : m ≤ 40 := hW.1.2.1
  refine spec0_of (lo := [_,_,_]) (by decide) (Nat.le_of_ble_eq_true rfl) rfl ?_
  refine aw_aload_n dX10_person_0 rfl ?_
  refine aw_iload_n dX10_person_1 rfl ?_
  refine aw_xVi [_] dX10_person_2 cvX10_121 (XS.s0 hX) (e_isPerson hX hr.1 i) rfl rfl (Nat.le_of_ble_eq_true rfl) (rb0 (by decide)) ?_
  refine aw_if_eq (tgt := 18) dX10_person_5 rfl (fun h5 => ?_) (fun h5 => ?_)
  · refine aw_iconst (v := (-1)) dX10_person_18 kc_m1 ?_
    refine aw_iret dX10_person_19 rfl (rb0 (Nat.zero_le _)) ⟨rfl, _, rfl, ?_⟩
    refine QC_no hA hD hT ?_
    dsimp only [oPerson, nowT]
    
    first
      | exact if_pos (Or.inl (zi_bad h5))
      | exact if_pos (Or.inr (fun q => absurd q.1 (Int32.not_le.mpr h9)))
      | exact if_pos (Or.inr (fun q => h15 q.2))
  · obtain ⟨j, hj, rfl⟩ := zi_of h5 (by omega)
    refine aw_iload_n dX10_person_8 rfl ?_
    refine aw_if_lt (tgt := 18) dX10_person_9 rfl (fun h9 => ?_) (fun h9 => ?_)
    · refine aw_iconst (v := (-1)) dX10_person_18 kc_m1 ?_
      refine aw_iret dX10_person_19 rfl (rb0 (Nat.zero_le _)) ⟨rfl, _, rfl, ?_⟩
      refine QC_no hA hD hT ?_
      dsimp only [oPerson, nowT]
      
      first
        | exact if_pos (Or.inl (zi_bad h5))
        | exact if_pos (Or.inr (fun q => absurd q.1 (Int32.not_le.mpr h9)))
        | exact if_pos (Or.inr (fun q => h15 q.2))
    · refine aw_iload_n dX10_person_12 rfl ?_
      refine aw_bipush (v := nI 7) dX10_person_13 kb_7 ?_
      refine aw_icmp_lt (tgt := 20) dX10_person_15 rfl (fun h15 => ?_) (fun h15 => ?_)
      · obtain ⟨u, hu, rfl⟩ := ix_of (r := w) (k := 7) (fun q => q ⟨Int32.not_lt.mp h9, h15⟩) (by decide)
        refine aw_aload_n dX10_person_20 rfl ?_
        refine aw_aload_n dX10_person_21 rfl ?_
        refine aw_getR dX10_person_22 fgX10_28 rfl (XS.s0 hX) (XS.r0_3 hX) ?_
        refine aw_iload_n dX10_person_25 rfl ?_
        refine aw_iload_n dX10_person_26 rfl ?_
        refine aw_xVi [_, _] dX10_person_27 cvX10_124 (TownS.s0 (XS.town hX)) (t_factOf (XS.town hX) hs hr hw (i := j) (w := u) hj (by omega)) rfl rfl (Nat.le_of_ble_eq_true rfl) (rb0 (by decide)) ?_
        refine aw_putI dX10_person_30 fpX10_51 rfl (XS.s0 hX) ?_
        refine aw_iconst (v := nI 1) dX10_person_33 kc_1 ?_
        refine aw_iret dX10_person_34 rfl (rb0 (Nat.zero_le _)) ⟨rfl, _, rfl, ?_⟩
        refine QC_tel (i := iv) hA hD hT frQ_rf ?_
        dsimp only [oPerson, nowT]
        
        rw [if_neg (fun q => q.elim (nbad hj (by omega)) (nbad hu (by decide))), ix_nI (by omega), ix_nI (by omega)]
        rfl
      · refine aw_iconst (v := (-1)) dX10_person_18 kc_m1 ?_
        refine aw_iret dX10_person_19 rfl (rb0 (Nat.zero_le _)) ⟨rfl, _, rfl, ?_⟩
        refine QC_no hA hD hT ?_
        dsimp only [oPerson, nowT]
        
        first
          | exact if_pos (Or.inl (zi_bad h5))
          | exact if_pos (Or.inr (fun q => absurd q.1 (Int32.not_le.mpr h9)))
          | exact if_pos (Or.inr (fun q => h15 q.2))
theorem x_deep {G : GC} {E : SH} {iv : IV} {lv : LV} {X : Nat} (hX : XS G E X) {A : AA} {D : DD} {T : FT} (hA : CA X A iv lv) (hD : CD X D iv) (hT : CT X T iv) (hW : WT T) (c : Int32) : SpI G mX10_deep 2 [.ref X, .int c] E iv lv (QC X iv lv (oDeep A D T c)) := by
  obtain ⟨s, ⟨m, lg⟩, kp⟩ := T
  have hs : WS s := hW.1.1
  have hs7 : s.1 ≤ 7 := hs.1
  have hw : WV s (lg m) := nowW hW
  have hd : lg m 0 ≤ 40 := nowD hW
  have hf : TF (X + 5) s m lg iv := hT.1
  have hr : TR (X + 5) s (lg m) iv := hf.1
  have hm : m ≤ 40 := hW.1.2.1
  refine spec0_of (lo := [_,_]) (by decide) (Nat.le_of_ble_eq_true rfl) rfl ?_
  refine aw_aload_n dX10_deep_0 rfl ?_
  refine aw_iload_n dX10_deep_1 rfl ?_
  refine aw_xVi [_] dX10_deep_2 cvX10_128 (XS.s0 hX) (e_isStreet c) rfl rfl (Nat.le_of_ble_eq_true rfl) (rb0 (by decide)) ?_
  refine aw_if_ne (tgt := 10) dX10_deep_5 rfl (fun h5 => ?_) (fun h5 => ?_)
  · obtain ⟨j, hj, rfl⟩ := zi_of h5 (by omega)
    refine aw_aload_n dX10_deep_10 rfl ?_
    refine aw_getR dX10_deep_11 fgX10_28 rfl (XS.s0 hX) (XS.r0_3 hX) ?_
    refine aw_xVi [] dX10_deep_14 cvX10_131 (TownS.s0 (XS.town hX)) (t_hasPeople (XS.town hX) hr.1 (by omega)) rfl rfl (Nat.le_of_ble_eq_true rfl) (rb0 (by decide)) ?_
    refine aw_if_ne (tgt := 23) dX10_deep_17 rfl (fun h17 => ?_) (fun h17 => ?_)
    · have hnp : s.1 ≠ 0 := zI_n0.mp h17
      refine aw_aload_n dX10_deep_23 rfl ?_
      refine aw_aload_n dX10_deep_24 rfl ?_
      refine aw_getR dX10_deep_25 fgX10_28 rfl (XS.s0 hX) (XS.r0_3 hX) ?_
      refine aw_iload_n dX10_deep_28 rfl ?_
      refine aw_xVi [_] dX10_deep_29 cvX10_134 (TownS.s0 (XS.town hX)) (t_crowdIn (XS.town hX) hs hr hw (q := j) hj) rfl rfl (Nat.le_of_ble_eq_true rfl) (rb0 (by decide)) ?_
      refine aw_putI dX10_deep_32 fpX10_51 rfl (XS.s0 hX) ?_
      refine aw_aload_n dX10_deep_35 rfl ?_
      refine aw_getR dX10_deep_36 fgX10_28 rfl (XS.s0 hX) (XS.r0_3 hX) ?_
      refine aw_getR dX10_deep_39 fgX10_137 rfl (TownS.s0 (XS.town hX)) (TownS.r0_9 (XS.town hX)) ?_
      refine aw_iload_n dX10_deep_42 rfl ?_
      refine aw_iaload dX10_deep_43 (TownS.s13 (XS.town hX)) rfl (by omega) ?_
      rw [va_up_n (by omega), hr.2.2.2 j hj]
      refine aw_iret dX10_deep_44 rfl (rb0 (Nat.zero_le _)) ⟨rfl, _, rfl, ?_⟩
      refine QC_tel (i := iv) hA hD hT frQ_rf ?_
      dsimp only [oDeep, nowT]
      
      rw [if_neg (nbad hj (by decide)), if_neg hnp, ix_nI (by omega)]
    · have hnp : s.1 = 0 := Decidable.not_not.mp (zI_0.mp h17)
      refine aw_bipush (v := (-4)) dX10_deep_20 kb_m4 ?_
      refine aw_iret dX10_deep_22 rfl (rb0 (Nat.zero_le _)) ⟨rfl, _, rfl, ?_⟩
      refine QC_no hA hD hT ?_
      dsimp only [oDeep, nowT]
      
      rw [if_neg (nbad hj (by decide)), if_pos hnp]
  · refine aw_iconst (v := (-1)) dX10_deep_8 kc_m1 ?_
    refine aw_iret dX10_deep_9 rfl (rb0 (Nat.zero_le _)) ⟨rfl, _, rfl, ?_⟩
    refine QC_no hA hD hT ?_
    dsimp only [oDeep, nowT]
    
    exact if_pos (zi_bad h5)
theorem x_day {G : GC} {E : SH} {iv : IV} {lv : LV} {X : Nat} (hX : XS G E X) {A : AA} {D : DD} {T : FT} (hA : CA X A iv lv) (hD : CD X D iv) (hT : CT X T iv) (hW : WT T) : SpI G mX10_day 7 [.ref X] E iv lv (QC X iv lv (oDay A D T)) := by
  obtain ⟨s, ⟨m, lg⟩, kp⟩ := T
  have hs : WS s := hW.1.1
  have hs7 : s.1 ≤ 7 := hs.1
  have hw : WV s (lg m) := nowW hW
  have hd : lg m 0 ≤ 40 := nowD hW
  have hf : TF (X + 5) s m lg iv := hT.1
  have hr : TR (X + 5) s (lg m) iv := hf.1
  have hm : m ≤ 40 := hW.1.2.1
  refine spec0_of (lo := [_]) (by decide) (Nat.le_of_ble_eq_true rfl) rfl ?_
  refine aw_aload_n dX10_day_0 rfl ?_
  refine aw_getR dX10_day_1 fgX10_28 rfl (XS.s0 hX) (XS.r0_3 hX) ?_
  refine aw_xVi [] dX10_day_4 cvX10_131 (TownS.s0 (XS.town hX)) (t_hasPeople (XS.town hX) hr.1 (by omega)) rfl rfl (Nat.le_of_ble_eq_true rfl) (rb0 (by decide)) ?_
  refine aw_if_eq (tgt := 22) dX10_day_7 rfl (fun h7 => ?_) (fun h7 => ?_)
  · have hnp : s.1 = 0 := Decidable.not_not.mp (zI_0.mp h7)
    refine aw_bipush (v := (-4)) dX10_day_22 kb_m4 ?_
    refine aw_iret dX10_day_24 rfl (rb0 (Nat.zero_le _)) ⟨rfl, _, rfl, ?_⟩
    refine QC_no hA hD hT ?_
    dsimp only [oDay, nowT]
    
    first
      | exact if_pos (Or.inl hnp)
      | exact if_pos (Or.inr (by omega))
  · have hnp : s.1 ≠ 0 := zI_n0.mp h7
    refine aw_aload_n dX10_day_10 rfl ?_
    refine aw_getR dX10_day_11 fgX10_28 rfl (XS.s0 hX) (XS.r0_3 hX) ?_
    refine aw_getI dX10_day_14 fgX10_151 rfl (TownS.s0 (XS.town hX)) ?_
    rw [hr.2.1]
    refine aw_bipush (v := nI 99) dX10_day_17 kb_99 ?_
    refine aw_icmp_lt (tgt := 25) dX10_day_19 rfl (fun h19 => ?_) (fun h19 => ?_)
    · rw [nI_ltI (by omega) (by omega)] at h19
      refine aw_aload_n dX10_day_25 rfl ?_
      refine aw_getR dX10_day_26 fgX10_28 rfl (XS.s0 hX) (XS.r0_3 hX) ?_
      refine aw_getI dX10_day_29 fgX10_168 rfl (TownS.s0 (XS.town hX)) ?_
      rw [hf.2.1]
      refine aw_bipush (v := nI 40) dX10_day_32 kb_40 ?_
      refine aw_icmp_lt (tgt := 40) dX10_day_34 rfl (fun h34 => ?_) (fun h34 => ?_)
      · rw [nI_ltI (by omega) (by omega)] at h34
        refine aw_aload_n dX10_day_40 rfl ?_
        refine aw_getR dX10_day_41 fgX10_28 rfl (XS.s0 hX) (XS.r0_3 hX) ?_
        refine aw_iconst (v := nI 1) dX10_day_44 kc_1 ?_
        refine aw_iconst (v := nI 0) dX10_day_45 kc_0 ?_
        refine aw_iconst (v := nI 0) dX10_day_46 kc_0 ?_
        refine aw_sVv [_, _, _] dX10_day_47 cvX10_171 (TownS.s0 (XS.town hX)) (t_perform (XS.town hX) hW.1 hf (by omega) (δ := 1) (p := 0) (q := 0) ⟨by decide, fun q => by omega, fun q => by omega, fun q => by omega⟩) rfl rfl (Nat.le_of_ble_eq_true rfl) (rb0 (by decide)) (fun kv klv hk => ?_)
        obtain ⟨k1, k2, rfl⟩ := hk
        refine aw_aload_n dX10_day_50 rfl ?_
        refine aw_getR dX10_day_51 fgX10_28 rfl (XS.s0 hX) (XS.r0_3 hX) ?_
        refine aw_xVi [] dX10_day_54 cvX10_175 (TownS.s0 (XS.town hX)) (t_totalGrudge (XS.town hX) hs k1.1 ((WL_deed hW.1 (by omega) ⟨by decide, fun q => by omega, fun q => by omega, fun q => by omega⟩).2.2.2 _ (Nat.le_refl _)).1) rfl rfl (Nat.le_of_ble_eq_true rfl) (rb0 (by decide)) ?_
        refine aw_iret dX10_day_57 rfl (rb0 (Nat.zero_le _)) ⟨rfl, _, rfl, ?_⟩
        refine QC_twn hA hD hT k1 k2 ?_
        dsimp only [oDay, nowT]
        
        rw [if_neg (by omega), if_neg (by omega), lgx, if_pos rfl]
        rfl
      · rw [nI_ltI (by omega) (by omega)] at h34
        refine aw_bipush (v := (-2)) dX10_day_37 kb_m2 ?_
        refine aw_iret dX10_day_39 rfl (rb0 (Nat.zero_le _)) ⟨rfl, _, rfl, ?_⟩
        refine QC_no hA hD hT ?_
        dsimp only [oDay, nowT]
        
        rw [if_neg (by omega), if_pos (by omega)]
    · rw [nI_ltI (by omega) (by omega)] at h19
      refine aw_bipush (v := (-4)) dX10_day_22 kb_m4 ?_
      refine aw_iret dX10_day_24 rfl (rb0 (Nat.zero_le _)) ⟨rfl, _, rfl, ?_⟩
      refine QC_no hA hD hT ?_
      dsimp only [oDay, nowT]
      
      first
        | exact if_pos (Or.inl hnp)
        | exact if_pos (Or.inr (by omega))
theorem x_fall {G : GC} {E : SH} {iv : IV} {lv : LV} {X : Nat} (hX : XS G E X) {A : AA} {D : DD} {T : FT} (hA : CA X A iv lv) (hD : CD X D iv) (hT : CT X T iv) (hW : WT T) (c n : Int32) : SpI G mX10_fall 7 [.ref X, .int c, .int n] E iv lv (QC X iv lv (oFall A D T c n)) := by
  obtain ⟨s, ⟨m, lg⟩, kp⟩ := T
  have hs : WS s := hW.1.1
  have hs7 : s.1 ≤ 7 := hs.1
  have hw : WV s (lg m) := nowW hW
  have hd : lg m 0 ≤ 40 := nowD hW
  have hf : TF (X + 5) s m lg iv := hT.1
  have hr : TR (X + 5) s (lg m) iv := hf.1
  have hm : m ≤ 40 := hW.1.2.1
  refine spec0_of (lo := [_,_,_]) (by decide) (Nat.le_of_ble_eq_true rfl) rfl ?_
  refine aw_aload_n dX10_fall_0 rfl ?_
  refine aw_iload_n dX10_fall_1 rfl ?_
  refine aw_xVi [_] dX10_fall_2 cvX10_128 (XS.s0 hX) (e_isStreet c) rfl rfl (Nat.le_of_ble_eq_true rfl) (rb0 (by decide)) ?_
  refine aw_if_eq (tgt := 19) dX10_fall_5 rfl (fun h5 => ?_) (fun h5 => ?_)
  · refine aw_iconst (v := (-1)) dX10_fall_19 kc_m1 ?_
    refine aw_iret dX10_fall_20 rfl (rb0 (Nat.zero_le _)) ⟨rfl, _, rfl, ?_⟩
    refine QC_no hA hD hT ?_
    dsimp only [oFall, nowT]
    
    first
      | exact if_pos (Or.inl (zi_bad h5))
      | exact if_pos (Or.inr (Or.inl h10))
      | exact if_pos (Or.inr (Or.inr (Int32.not_le.mp h16)))
  · obtain ⟨j, hj, rfl⟩ := zi_of h5 (by omega)
    refine aw_iload_n dX10_fall_8 rfl ?_
    refine aw_iconst (v := nI 1) dX10_fall_9 kc_1 ?_
    refine aw_icmp_lt (tgt := 19) dX10_fall_10 rfl (fun h10 => ?_) (fun h10 => ?_)
    · refine aw_iconst (v := (-1)) dX10_fall_19 kc_m1 ?_
      refine aw_iret dX10_fall_20 rfl (rb0 (Nat.zero_le _)) ⟨rfl, _, rfl, ?_⟩
      refine QC_no hA hD hT ?_
      dsimp only [oFall, nowT]
      
      first
        | exact if_pos (Or.inl (zi_bad h5))
        | exact if_pos (Or.inr (Or.inl h10))
        | exact if_pos (Or.inr (Or.inr (Int32.not_le.mp h16)))
    · refine aw_iload_n dX10_fall_13 rfl ?_
      refine aw_bipush (v := nI 9) dX10_fall_14 kb_9 ?_
      refine aw_icmp_le (tgt := 21) dX10_fall_16 rfl (fun h16 => ?_) (fun h16 => ?_)
      · obtain ⟨u, hu1, hu, rfl⟩ := ix_1 (n := n) (k := 9) h10 (Int32.not_lt.mpr h16) (by decide)
        have hv9 := hw.2.1 j hj
        refine aw_aload_n dX10_fall_21 rfl ?_
        refine aw_getR dX10_fall_22 fgX10_28 rfl (XS.s0 hX) (XS.r0_3 hX) ?_
        refine aw_xVi [] dX10_fall_25 cvX10_131 (TownS.s0 (XS.town hX)) (t_hasPeople (XS.town hX) hr.1 (by omega)) rfl rfl (Nat.le_of_ble_eq_true rfl) (rb0 (by decide)) ?_
        refine aw_if_eq (tgt := 45) dX10_fall_28 rfl (fun h28 => ?_) (fun h28 => ?_)
        · have hnp : s.1 = 0 := Decidable.not_not.mp (zI_0.mp h28)
          refine aw_bipush (v := (-4)) dX10_fall_45 kb_m4 ?_
          refine aw_iret dX10_fall_47 rfl (rb0 (Nat.zero_le _)) ⟨rfl, _, rfl, ?_⟩
          refine QC_no hA hD hT ?_
          dsimp only [oFall, nowT]
          
          rw [if_neg (fun q => q.elim (nbad hj (by decide)) (fun q => q.elim h10 (Int32.not_lt.mpr h16))), if_pos (by rw [ix_nI (by omega)]; omega)]
        · have hnp : s.1 ≠ 0 := zI_n0.mp h28
          refine aw_aload_n dX10_fall_31 rfl ?_
          refine aw_getR dX10_fall_32 fgX10_28 rfl (XS.s0 hX) (XS.r0_3 hX) ?_
          refine aw_getR dX10_fall_35 fgX10_137 rfl (TownS.s0 (XS.town hX)) (TownS.r0_9 (XS.town hX)) ?_
          refine aw_iload_n dX10_fall_38 rfl ?_
          refine aw_iaload dX10_fall_39 (TownS.s13 (XS.town hX)) rfl (by omega) ?_
          rw [hr.2.2.2 j hj]
          refine aw_bipush (v := nI 9) dX10_fall_40 kb_9 ?_
          refine aw_icmp_lt (tgt := 48) dX10_fall_42 rfl (fun h42 => ?_) (fun h42 => ?_)
          · rw [nI_ltI (by omega) (by omega)] at h42
            refine aw_aload_n dX10_fall_48 rfl ?_
            refine aw_getR dX10_fall_49 fgX10_28 rfl (XS.s0 hX) (XS.r0_3 hX) ?_
            refine aw_getI dX10_fall_52 fgX10_168 rfl (TownS.s0 (XS.town hX)) ?_
            rw [hf.2.1]
            refine aw_bipush (v := nI 40) dX10_fall_55 kb_40 ?_
            refine aw_icmp_lt (tgt := 63) dX10_fall_57 rfl (fun h57 => ?_) (fun h57 => ?_)
            · rw [nI_ltI (by omega) (by omega)] at h57
              refine aw_aload_n dX10_fall_63 rfl ?_
              refine aw_getR dX10_fall_64 fgX10_28 rfl (XS.s0 hX) (XS.r0_3 hX) ?_
              refine aw_iconst (v := nI 2) dX10_fall_67 kc_2 ?_
              refine aw_iload_n dX10_fall_68 rfl ?_
              refine aw_iload_n dX10_fall_69 rfl ?_
              refine aw_sVv [_, _, _] dX10_fall_70 cvX10_171 (TownS.s0 (XS.town hX)) (t_perform (XS.town hX) hW.1 hf (by omega) (δ := 2) (p := j) (q := u) ⟨by decide, fun q => by omega, fun q => by omega, fun q => by omega⟩) rfl rfl (Nat.le_of_ble_eq_true rfl) (rb0 (by decide)) (fun kv klv hk => ?_)
              obtain ⟨k1, k2, rfl⟩ := hk
              refine aw_aload_n dX10_fall_73 rfl ?_
              refine aw_getR dX10_fall_74 fgX10_28 rfl (XS.s0 hX) (XS.r0_3 hX) ?_
              refine aw_getR dX10_fall_77 fgX10_137 rfl (TownS.s0 (XS.town hX)) (TownS.r0_9 (XS.town hX)) ?_
              refine aw_iload_n dX10_fall_80 rfl ?_
              refine aw_iaload dX10_fall_81 (TownS.s13 (XS.town hX)) rfl (by omega) ?_
              rw [k1.1.2.2.2 j hj]
              refine aw_iret dX10_fall_82 rfl (rb0 (Nat.zero_le _)) ⟨rfl, _, rfl, ?_⟩
              refine QC_twn hA hD hT k1 k2 ?_
              dsimp only [oFall, nowT]
              
              rw [if_neg (fun q => q.elim (nbad hj (by decide)) (fun q => q.elim h10 (Int32.not_lt.mpr h16))), if_neg (by rw [ix_nI (by omega)]; omega), if_neg (by omega), lgx, if_pos rfl, ix_nI (by omega), ix_nI (by omega)]
              show _ = (nI (va_up _ _ _ _), _)
              rw [va_up_s]
              rfl
            · rw [nI_ltI (by omega) (by omega)] at h57
              refine aw_bipush (v := (-2)) dX10_fall_60 kb_m2 ?_
              refine aw_iret dX10_fall_62 rfl (rb0 (Nat.zero_le _)) ⟨rfl, _, rfl, ?_⟩
              refine QC_no hA hD hT ?_
              dsimp only [oFall, nowT]
              
              rw [if_neg (fun q => q.elim (nbad hj (by decide)) (fun q => q.elim h10 (Int32.not_lt.mpr h16))), if_neg (by rw [ix_nI (by omega)]; omega), if_pos (by omega)]
          · rw [nI_ltI (by omega) (by omega)] at h42
            refine aw_bipush (v := (-4)) dX10_fall_45 kb_m4 ?_
            refine aw_iret dX10_fall_47 rfl (rb0 (Nat.zero_le _)) ⟨rfl, _, rfl, ?_⟩
            refine QC_no hA hD hT ?_
            dsimp only [oFall, nowT]
            
            rw [if_neg (fun q => q.elim (nbad hj (by decide)) (fun q => q.elim h10 (Int32.not_lt.mpr h16))), if_pos (by rw [ix_nI (by omega)]; omega)]
      · refine aw_iconst (v := (-1)) dX10_fall_19 kc_m1 ?_
        refine aw_iret dX10_fall_20 rfl (rb0 (Nat.zero_le _)) ⟨rfl, _, rfl, ?_⟩
        refine QC_no hA hD hT ?_
        dsimp only [oFall, nowT]
        
        first
          | exact if_pos (Or.inl (zi_bad h5))
          | exact if_pos (Or.inr (Or.inl h10))
          | exact if_pos (Or.inr (Or.inr (Int32.not_le.mp h16)))
theorem x_wind {G : GC} {E : SH} {iv : IV} {lv : LV} {X : Nat} (hX : XS G E X) {A : AA} {D : DD} {T : FT} (hA : CA X A iv lv) (hD : CD X D iv) (hT : CT X T iv) (hW : WT T) (c : Int32) : SpI G mX10_wind 7 [.ref X, .int c] E iv lv (QC X iv lv (oWind A D T c)) := by
  obtain ⟨s, ⟨m, lg⟩, kp⟩ := T
  have hs : WS s := hW.1.1
  have hs7 : s.1 ≤ 7 := hs.1
  have hw : WV s (lg m) := nowW hW
  have hd : lg m 0 ≤ 40 := nowD hW
  have hf : TF (X + 5) s m lg iv := hT.1
  have hr : TR (X + 5) s (lg m) iv := hf.1
  have hm : m ≤ 40 := hW.1.2.1
  refine spec0_of (lo := [_,_,_]) (by decide) (Nat.le_of_ble_eq_true rfl) rfl ?_
  refine aw_aload_n dX10_wind_0 rfl ?_
  refine aw_iload_n dX10_wind_1 rfl ?_
  refine aw_xVi [_] dX10_wind_2 cvX10_128 (XS.s0 hX) (e_isStreet c) rfl rfl (Nat.le_of_ble_eq_true rfl) (rb0 (by decide)) ?_
  refine aw_if_ne (tgt := 10) dX10_wind_5 rfl (fun h5 => ?_) (fun h5 => ?_)
  · obtain ⟨j, hj, rfl⟩ := zi_of h5 (by omega)
    refine aw_aload_n dX10_wind_10 rfl ?_
    refine aw_getR dX10_wind_11 fgX10_28 rfl (XS.s0 hX) (XS.r0_3 hX) ?_
    refine aw_xVi [] dX10_wind_14 cvX10_131 (TownS.s0 (XS.town hX)) (t_hasPeople (XS.town hX) hr.1 (by omega)) rfl rfl (Nat.le_of_ble_eq_true rfl) (rb0 (by decide)) ?_
    refine aw_if_eq (tgt := 32) dX10_wind_17 rfl (fun h17 => ?_) (fun h17 => ?_)
    · have hnp : s.1 = 0 := Decidable.not_not.mp (zI_0.mp h17)
      refine aw_bipush (v := (-4)) dX10_wind_32 kb_m4 ?_
      refine aw_iret dX10_wind_34 rfl (rb0 (Nat.zero_le _)) ⟨rfl, _, rfl, ?_⟩
      refine QC_no hA hD hT ?_
      dsimp only [oWind, nowT]
      
      rw [if_neg (nbad hj (by decide)), if_pos (by rw [ix_nI (by omega)]; omega)]
    · have hnp : s.1 ≠ 0 := zI_n0.mp h17
      refine aw_aload_n dX10_wind_20 rfl ?_
      refine aw_getR dX10_wind_21 fgX10_28 rfl (XS.s0 hX) (XS.r0_3 hX) ?_
      refine aw_getR dX10_wind_24 fgX10_137 rfl (TownS.s0 (XS.town hX)) (TownS.r0_9 (XS.town hX)) ?_
      refine aw_iload_n dX10_wind_27 rfl ?_
      refine aw_iaload dX10_wind_28 (TownS.s13 (XS.town hX)) rfl (by omega) ?_
      rw [hr.2.2.2 j hj]
      refine aw_if_ne (tgt := 35) dX10_wind_29 rfl (fun h29 => ?_) (fun h29 => ?_)
      · have hne : lg m (1 + j) ≠ 0 := fun q => h29 (by rw [q]; rfl)
        refine aw_aload_n dX10_wind_35 rfl ?_
        refine aw_getR dX10_wind_36 fgX10_28 rfl (XS.s0 hX) (XS.r0_3 hX) ?_
        refine aw_getI dX10_wind_39 fgX10_168 rfl (TownS.s0 (XS.town hX)) ?_
        rw [hf.2.1]
        refine aw_bipush (v := nI 40) dX10_wind_42 kb_40 ?_
        refine aw_icmp_lt (tgt := 50) dX10_wind_44 rfl (fun h44 => ?_) (fun h44 => ?_)
        · rw [nI_ltI (by omega) (by omega)] at h44
          refine aw_aload_n dX10_wind_50 rfl ?_
          refine aw_getR dX10_wind_51 fgX10_28 rfl (XS.s0 hX) (XS.r0_3 hX) ?_
          refine aw_getR dX10_wind_54 fgX10_137 rfl (TownS.s0 (XS.town hX)) (TownS.r0_9 (XS.town hX)) ?_
          refine aw_iload_n dX10_wind_57 rfl ?_
          refine aw_iaload dX10_wind_58 (TownS.s13 (XS.town hX)) rfl (by omega) ?_
          rw [hr.2.2.2 j hj]
          refine aw_istore_n (lo' := [_,_,_]) dX10_wind_59 (Nat.le_of_ble_eq_true rfl) rfl ?_
          refine aw_aload_n dX10_wind_60 rfl ?_
          refine aw_getR dX10_wind_61 fgX10_28 rfl (XS.s0 hX) (XS.r0_3 hX) ?_
          refine aw_iconst (v := nI 3) dX10_wind_64 kc_3 ?_
          refine aw_iload_n dX10_wind_65 rfl ?_
          refine aw_iconst (v := nI 0) dX10_wind_66 kc_0 ?_
          refine aw_sVv [_, _, _] dX10_wind_67 cvX10_171 (TownS.s0 (XS.town hX)) (t_perform (XS.town hX) hW.1 hf (by omega) (δ := 3) (p := j) (q := 0) ⟨by decide, fun q => by omega, fun q => by omega, fun q => by omega⟩) rfl rfl (Nat.le_of_ble_eq_true rfl) (rb0 (by decide)) (fun kv klv hk => ?_)
          obtain ⟨k1, k2, rfl⟩ := hk
          refine aw_iload_n dX10_wind_70 rfl ?_
          refine aw_iret dX10_wind_71 rfl (rb0 (Nat.zero_le _)) ⟨rfl, _, rfl, ?_⟩
          refine QC_twn hA hD hT k1 k2 ?_
          dsimp only [oWind, nowT]
          
          rw [if_neg (nbad hj (by decide)), if_neg (by rw [ix_nI (by omega)]; omega), if_neg (by omega), ix_nI (by omega)]
          rfl
        · rw [nI_ltI (by omega) (by omega)] at h44
          refine aw_bipush (v := (-2)) dX10_wind_47 kb_m2 ?_
          refine aw_iret dX10_wind_49 rfl (rb0 (Nat.zero_le _)) ⟨rfl, _, rfl, ?_⟩
          refine QC_no hA hD hT ?_
          dsimp only [oWind, nowT]
          
          rw [if_neg (nbad hj (by decide)), if_neg (by rw [ix_nI (by omega)]; omega), if_pos (by omega)]
      · have hne : lg m (1 + j) = 0 := by
          have h := hw.2.1 j hj
          exact Decidable.byContradiction (fun q => ni_ne (by omega) (by decide) q h29)
        refine aw_bipush (v := (-4)) dX10_wind_32 kb_m4 ?_
        refine aw_iret dX10_wind_34 rfl (rb0 (Nat.zero_le _)) ⟨rfl, _, rfl, ?_⟩
        refine QC_no hA hD hT ?_
        dsimp only [oWind, nowT]
        
        rw [if_neg (nbad hj (by decide)), if_pos (by rw [ix_nI (by omega)]; omega)]
  · refine aw_iconst (v := (-1)) dX10_wind_8 kc_m1 ?_
    refine aw_iret dX10_wind_9 rfl (rb0 (Nat.zero_le _)) ⟨rfl, _, rfl, ?_⟩
    refine QC_no hA hD hT ?_
    dsimp only [oWind, nowT]
    
    exact if_pos (zi_bad h5)
theorem x_go {G : GC} {E : SH} {iv : IV} {lv : LV} {X : Nat} (hX : XS G E X) {A : AA} {D : DD} {T : FT} (hA : CA X A iv lv) (hD : CD X D iv) (hT : CT X T iv) (hW : WT T) (i c : Int32) : SpI G mX10_go 7 [.ref X, .int i, .int c] E iv lv (QC X iv lv (oGo A D T i c)) := by
  obtain ⟨s, ⟨m, lg⟩, kp⟩ := T
  have hs : WS s := hW.1.1
  have hs7 : s.1 ≤ 7 := hs.1
  have hw : WV s (lg m) := nowW hW
  have hd : lg m 0 ≤ 40 := nowD hW
  have hf : TF (X + 5) s m lg iv := hT.1
  have hr : TR (X + 5) s (lg m) iv := hf.1
  have hm : m ≤ 40 := hW.1.2.1
  refine spec0_of (lo := [_,_,_,_]) (by decide) (Nat.le_of_ble_eq_true rfl) rfl ?_
  refine aw_aload_n dX10_go_0 rfl ?_
  refine aw_iload_n dX10_go_1 rfl ?_
  refine aw_xVi [_] dX10_go_2 cvX10_121 (XS.s0 hX) (e_isPerson hX hr.1 i) rfl rfl (Nat.le_of_ble_eq_true rfl) (rb0 (by decide)) ?_
  refine aw_if_eq (tgt := 16) dX10_go_5 rfl (fun h5 => ?_) (fun h5 => ?_)
  · refine aw_iconst (v := (-1)) dX10_go_16 kc_m1 ?_
    refine aw_iret dX10_go_17 rfl (rb0 (Nat.zero_le _)) ⟨rfl, _, rfl, ?_⟩
    refine QC_no hA hD hT ?_
    dsimp only [oGo, nowT]
    
    first
      | exact if_pos (Or.inl (zi_bad h5))
      | exact if_pos (Or.inr (zi_bad h13))
  · obtain ⟨j, hj, rfl⟩ := zi_of h5 (by omega)
    refine aw_aload_n dX10_go_8 rfl ?_
    refine aw_iload_n dX10_go_9 rfl ?_
    refine aw_xVi [_] dX10_go_10 cvX10_128 (XS.s0 hX) (e_isStreet c) rfl rfl (Nat.le_of_ble_eq_true rfl) (rb0 (by decide)) ?_
    refine aw_if_ne (tgt := 18) dX10_go_13 rfl (fun h13 => ?_) (fun h13 => ?_)
    · obtain ⟨u, hu, rfl⟩ := zi_of h13 (by omega)
      have hv4 := (hw.1 j hj).2
      refine aw_aload_n dX10_go_18 rfl ?_
      refine aw_getR dX10_go_19 fgX10_28 rfl (XS.s0 hX) (XS.r0_3 hX) ?_
      refine aw_getR dX10_go_22 fgX10_179 rfl (TownS.s0 (XS.town hX)) (TownS.r0_8 (XS.town hX)) ?_
      refine aw_iload_n dX10_go_25 rfl ?_
      refine aw_iaload dX10_go_26 (TownS.s12 (XS.town hX)) rfl (by omega) ?_
      rw [(hr.2.2.1 j hj).2.2.2.2]
      refine aw_iload_n dX10_go_27 rfl ?_
      refine aw_icmp_ne (tgt := 34) dX10_go_28 rfl (fun h28 => ?_) (fun h28 => ?_)
      · have hne : lg m (13 + j) ≠ u := fun q => h28 (by rw [q])
        refine aw_aload_n dX10_go_34 rfl ?_
        refine aw_getR dX10_go_35 fgX10_28 rfl (XS.s0 hX) (XS.r0_3 hX) ?_
        refine aw_getI dX10_go_38 fgX10_168 rfl (TownS.s0 (XS.town hX)) ?_
        rw [hf.2.1]
        refine aw_bipush (v := nI 40) dX10_go_41 kb_40 ?_
        refine aw_icmp_lt (tgt := 49) dX10_go_43 rfl (fun h43 => ?_) (fun h43 => ?_)
        · rw [nI_ltI (by omega) (by omega)] at h43
          refine aw_aload_n dX10_go_49 rfl ?_
          refine aw_getR dX10_go_50 fgX10_28 rfl (XS.s0 hX) (XS.r0_3 hX) ?_
          refine aw_getR dX10_go_53 fgX10_179 rfl (TownS.s0 (XS.town hX)) (TownS.r0_8 (XS.town hX)) ?_
          refine aw_iload_n dX10_go_56 rfl ?_
          refine aw_iaload dX10_go_57 (TownS.s12 (XS.town hX)) rfl (by omega) ?_
          rw [(hr.2.2.1 j hj).2.2.2.2]
          refine aw_istore_n (lo' := [_,_,_,_]) dX10_go_58 (Nat.le_of_ble_eq_true rfl) rfl ?_
          refine aw_aload_n dX10_go_59 rfl ?_
          refine aw_getR dX10_go_60 fgX10_28 rfl (XS.s0 hX) (XS.r0_3 hX) ?_
          refine aw_iconst (v := nI 4) dX10_go_63 kc_4 ?_
          refine aw_iload_n dX10_go_64 rfl ?_
          refine aw_iload_n dX10_go_65 rfl ?_
          refine aw_sVv [_, _, _] dX10_go_66 cvX10_171 (TownS.s0 (XS.town hX)) (t_perform (XS.town hX) hW.1 hf (by omega) (δ := 4) (p := j) (q := u) ⟨by decide, fun q => by omega, fun q => by omega, fun _ => ⟨hj, hu⟩⟩) rfl rfl (Nat.le_of_ble_eq_true rfl) (rb0 (by decide)) (fun kv klv hk => ?_)
          obtain ⟨k1, k2, rfl⟩ := hk
          refine aw_iload_n dX10_go_69 rfl ?_
          refine aw_iret dX10_go_70 rfl (rb0 (Nat.zero_le _)) ⟨rfl, _, rfl, ?_⟩
          refine QC_twn hA hD hT k1 k2 ?_
          dsimp only [oGo, nowT]
          
          rw [if_neg (fun q => q.elim (nbad hj (by omega)) (nbad hu (by decide))), if_neg (by rw [ix_nI (by omega), ix_nI (by omega)]; exact hne), if_neg (by omega), ix_nI (by omega), ix_nI (by omega)]
          rfl
        · rw [nI_ltI (by omega) (by omega)] at h43
          refine aw_bipush (v := (-2)) dX10_go_46 kb_m2 ?_
          refine aw_iret dX10_go_48 rfl (rb0 (Nat.zero_le _)) ⟨rfl, _, rfl, ?_⟩
          refine QC_no hA hD hT ?_
          dsimp only [oGo, nowT]
          
          rw [if_neg (fun q => q.elim (nbad hj (by omega)) (nbad hu (by decide))), if_neg (by rw [ix_nI (by omega), ix_nI (by omega)]; exact hne), if_pos (by omega)]
      · have hne : lg m (13 + j) = u := Decidable.byContradiction (fun q => ni_ne (by omega) (by omega) q h28)
        refine aw_bipush (v := (-4)) dX10_go_31 kb_m4 ?_
        refine aw_iret dX10_go_33 rfl (rb0 (Nat.zero_le _)) ⟨rfl, _, rfl, ?_⟩
        refine QC_no hA hD hT ?_
        dsimp only [oGo, nowT]
        
        rw [if_neg (fun q => q.elim (nbad hj (by omega)) (nbad hu (by decide))), if_pos (by rw [ix_nI (by omega), ix_nI (by omega)]; exact hne)]
    · refine aw_iconst (v := (-1)) dX10_go_16 kc_m1 ?_
      refine aw_iret dX10_go_17 rfl (rb0 (Nat.zero_le _)) ⟨rfl, _, rfl, ?_⟩
      refine QC_no hA hD hT ?_
      dsimp only [oGo, nowT]
      
      first
        | exact if_pos (Or.inl (zi_bad h5))
        | exact if_pos (Or.inr (zi_bad h13))
theorem x_undo {G : GC} {E : SH} {iv : IV} {lv : LV} {X : Nat} (hX : XS G E X) {A : AA} {D : DD} {T : FT} (hA : CA X A iv lv) (hD : CD X D iv) (hT : CT X T iv) (hW : WT T) (n : Int32) : SpI G mX10_undo 7 [.ref X, .int n] E iv lv (QC X iv lv (oUndo A D T n)) := by
  obtain ⟨s, ⟨m, lg⟩, kp⟩ := T
  have hs : WS s := hW.1.1
  have hs7 : s.1 ≤ 7 := hs.1
  have hw : WV s (lg m) := nowW hW
  have hd : lg m 0 ≤ 40 := nowD hW
  have hf : TF (X + 5) s m lg iv := hT.1
  have hr : TR (X + 5) s (lg m) iv := hf.1
  have hm : m ≤ 40 := hW.1.2.1
  refine spec0_of (lo := [_,_,_]) (by decide) (Nat.le_of_ble_eq_true rfl) rfl ?_
  refine aw_iload_n dX10_undo_0 rfl ?_
  refine aw_if_lt (tgt := 15) dX10_undo_1 rfl (fun h1 => ?_) (fun h1 => ?_)
  · refine aw_iconst (v := (-1)) dX10_undo_15 kc_m1 ?_
    refine aw_iret dX10_undo_16 rfl (rb0 (Nat.zero_le _)) ⟨rfl, _, rfl, ?_⟩
    refine QC_no hA hD hT ?_
    dsimp only [oUndo, nowT]
    
    first
      | exact if_pos (Or.inl h1)
      | exact if_pos (Or.inr (Int32.not_le.mp h12))
  · refine aw_iload_n dX10_undo_4 rfl ?_
    refine aw_aload_n dX10_undo_5 rfl ?_
    refine aw_getR dX10_undo_6 fgX10_28 rfl (XS.s0 hX) (XS.r0_3 hX) ?_
    refine aw_getI dX10_undo_9 fgX10_168 rfl (TownS.s0 (XS.town hX)) ?_
    rw [hf.2.1]
    refine aw_icmp_le (tgt := 17) dX10_undo_12 rfl (fun h12 => ?_) (fun h12 => ?_)
    · obtain ⟨u, hu, rfl⟩ := ix_le (n := n) (k := m) h1 (Int32.not_lt.mpr h12) (by omega)
      refine aw_aload_n dX10_undo_17 rfl ?_
      refine aw_getR dX10_undo_18 fgX10_28 rfl (XS.s0 hX) (XS.r0_3 hX) ?_
      refine aw_getI dX10_undo_21 fgX10_168 rfl (TownS.s0 (XS.town hX)) ?_
      rw [hf.2.1]
      refine aw_iload_n dX10_undo_24 rfl ?_
      refine aw_isub dX10_undo_25 ?_
      rw [pk_sub hu]
      refine aw_istore_n (lo' := [_,_,_]) dX10_undo_26 (Nat.le_of_ble_eq_true rfl) rfl ?_
      refine aw_aload_n dX10_undo_27 rfl ?_
      refine aw_getR dX10_undo_28 fgX10_28 rfl (XS.s0 hX) (XS.r0_3 hX) ?_
      refine aw_iload_n dX10_undo_31 rfl ?_
      refine aw_sVv [_] dX10_undo_32 cvX10_182 (TownS.s0 (XS.town hX)) (t_goBackTo (XS.town hX) hW.1 hf (n := u) hu) rfl rfl (Nat.le_of_ble_eq_true rfl) (rb0 (by decide)) (fun kv klv hk => ?_)
      obtain ⟨k1, k2, rfl⟩ := hk
      refine aw_iload_n dX10_undo_35 rfl ?_
      refine aw_iret dX10_undo_36 rfl (rb0 (Nat.zero_le _)) ⟨rfl, _, rfl, ?_⟩
      refine QC_twn hA hD hT k1 k2 ?_
      dsimp only [oUndo, nowT]
      
      rw [if_neg (fun q => q.elim h1 (Int32.not_lt.mpr h12)), ix_nI (by omega)]
    · refine aw_iconst (v := (-1)) dX10_undo_15 kc_m1 ?_
      refine aw_iret dX10_undo_16 rfl (rb0 (Nat.zero_le _)) ⟨rfl, _, rfl, ?_⟩
      refine QC_no hA hD hT ?_
      dsimp only [oUndo, nowT]
      
      first
        | exact if_pos (Or.inl h1)
        | exact if_pos (Or.inr (Int32.not_le.mp h12))
theorem x_keep {G : GC} {E : SH} {iv : IV} {lv : LV} {X : Nat} (hX : XS G E X) {A : AA} {D : DD} {T : FT} (hA : CA X A iv lv) (hD : CD X D iv) (hT : CT X T iv) (hW : WT T) (c : Int32) : SpI G mX10_keep 3 [.ref X, .int c] E iv lv (QC X iv lv (oKeep A D T c)) := by
  obtain ⟨s, ⟨m, lg⟩, kp⟩ := T
  have hs : WS s := hW.1.1
  have hs7 : s.1 ≤ 7 := hs.1
  have hw : WV s (lg m) := nowW hW
  have hd : lg m 0 ≤ 40 := nowD hW
  have hf : TF (X + 5) s m lg iv := hT.1
  have hr : TR (X + 5) s (lg m) iv := hf.1
  have hm : m ≤ 40 := hW.1.2.1
  refine spec0_of (lo := [_,_]) (by decide) (Nat.le_of_ble_eq_true rfl) rfl ?_
  refine aw_aload_n dX10_keep_0 rfl ?_
  refine aw_iload_n dX10_keep_1 rfl ?_
  refine aw_xVi [_] dX10_keep_2 cvX10_185 (XS.s0 hX) (e_isKeepingPlace c) rfl rfl (Nat.le_of_ble_eq_true rfl) (rb0 (by decide)) ?_
  refine aw_if_ne (tgt := 10) dX10_keep_5 rfl (fun h5 => ?_) (fun h5 => ?_)
  · obtain ⟨j, hj, rfl⟩ := zi_of h5 (by omega)
    refine aw_aload_n dX10_keep_10 rfl ?_
    refine aw_getR dX10_keep_11 fgX10_28 rfl (XS.s0 hX) (XS.r0_3 hX) ?_
    refine aw_xVi [] dX10_keep_14 cvX10_131 (TownS.s0 (XS.town hX)) (t_hasPeople (XS.town hX) hr.1 (by omega)) rfl rfl (Nat.le_of_ble_eq_true rfl) (rb0 (by decide)) ?_
    refine aw_if_ne (tgt := 23) dX10_keep_17 rfl (fun h17 => ?_) (fun h17 => ?_)
    · have hnp : s.1 ≠ 0 := zI_n0.mp h17
      refine aw_aload_n dX10_keep_23 rfl ?_
      refine aw_getR dX10_keep_24 fgX10_32 rfl (XS.s0 hX) (XS.r0_4 hX) ?_
      refine aw_iload_n dX10_keep_27 rfl ?_
      refine aw_aaload dX10_keep_28 (XS.s25 hX) ⟨by decide, by decide⟩ rfl hj (XS.keptr hX hj) ?_
      refine aw_aload_n dX10_keep_29 rfl ?_
      refine aw_getR dX10_keep_30 fgX10_28 rfl (XS.s0 hX) (XS.r0_3 hX) ?_
      refine aw_xVv [_] dX10_keep_33 cvX10_188 (TownS.s0 (XS.kept hX hj)) (t_become (XS.kept hX hj) (XS.town hX)) rfl rfl (Nat.le_of_ble_eq_true rfl) (rb0 (by decide)) ?_
      refine aw_aload_n dX10_keep_36 rfl ?_
      refine aw_getR dX10_keep_37 fgX10_28 rfl (XS.s0 hX) (XS.r0_3 hX) ?_
      refine aw_getI dX10_keep_40 fgX10_168 rfl (TownS.s0 (XS.town hX)) ?_
      rw [be_o (by omega), hf.2.1]
      refine aw_iret dX10_keep_43 rfl (rb0 (Nat.zero_le _)) ⟨rfl, _, rfl, ?_⟩
      have e : oKeep A D (s, (m, lg), kp) (nI j) = (nI m, A, D, (s, (m, lg), va_up kp j (some (m, lg)))) := by
        dsimp only [oKeep, nowT]
        rw [if_neg (nbad hj (by decide)), if_neg hnp, ix_nI (by omega)]
      rw [e]
      refine ⟨rfl, CA_of hA (be_o (by omega)) (be_o (by omega)), CD_of (fun b h1 h2 => be_o (by omega)) hD, ⟨TF_of (fun b h1 h2 => be_o (by omega)) hf, fun k hk e => ?_, fun k hk K e => ?_⟩, fun b hb => be_o (by omega), fun _ _ => rfl⟩
      · by_cases q : k = j
        · subst q
          replace e : va_up kp k (some (m, lg)) k = none := e
          rw [va_up_s] at e; cases e
        · replace e : va_up kp j (some (m, lg)) k = none := e
          rw [va_up_n q] at e
          rw [be_o (by omega)]; exact hT.2.1 k hk e
      · by_cases q : k = j
        · subst q
          replace e : va_up kp k (some (m, lg)) k = some K := e
          rw [va_up_s] at e; cases e
          exact TF_be hs7 hm (by omega) hf
        · replace e : va_up kp j (some (m, lg)) k = some K := e
          rw [va_up_n q] at e
          exact TF_of (fun b h1 h2 => be_o (by omega)) (hT.2.2 k hk K e)
    · have hnp : s.1 = 0 := Decidable.not_not.mp (zI_0.mp h17)
      refine aw_bipush (v := (-4)) dX10_keep_20 kb_m4 ?_
      refine aw_iret dX10_keep_22 rfl (rb0 (Nat.zero_le _)) ⟨rfl, _, rfl, ?_⟩
      refine QC_no hA hD hT ?_
      dsimp only [oKeep, nowT]
      
      rw [if_neg (nbad hj (by decide)), if_pos hnp]
  · refine aw_iconst (v := (-1)) dX10_keep_8 kc_m1 ?_
    refine aw_iret dX10_keep_9 rfl (rb0 (Nat.zero_le _)) ⟨rfl, _, rfl, ?_⟩
    refine QC_no hA hD hT ?_
    dsimp only [oKeep, nowT]
    
    exact if_pos (zi_bad h5)
theorem x_on {G : GC} {E : SH} {iv : IV} {lv : LV} {X : Nat} (hX : XS G E X) {A : AA} {D : DD} {T : FT} (hA : CA X A iv lv) (hD : CD X D iv) (hT : CT X T iv) (hW : WT T) (c : Int32) : SpI G mX10_on 3 [.ref X, .int c] E iv lv (QC X iv lv (oOn A D T c)) := by
  obtain ⟨s, ⟨m, lg⟩, kp⟩ := T
  have hs : WS s := hW.1.1
  have hs7 : s.1 ≤ 7 := hs.1
  have hw : WV s (lg m) := nowW hW
  have hd : lg m 0 ≤ 40 := nowD hW
  have hf : TF (X + 5) s m lg iv := hT.1
  have hr : TR (X + 5) s (lg m) iv := hf.1
  have hm : m ≤ 40 := hW.1.2.1
  by_cases hb : bad c 3
  · refine spec0_of (lo := [_,_]) (by decide) (Nat.le_of_ble_eq_true rfl) rfl ?_
    refine aw_aload_n dX10_on_0 rfl ?_
    refine aw_iload_n dX10_on_1 rfl ?_
    refine aw_xVi [_] dX10_on_2 cvX10_185 (XS.s0 hX) (e_isKeepingPlace c) rfl rfl (Nat.le_of_ble_eq_true rfl) (rb0 (by decide)) ?_
    refine aw_if_ne (tgt := 10) dX10_on_5 rfl (fun h5 => ?_) (fun h5 => ?_)
    · exact absurd hb (fun q => q (zI_n0.mp h5))
    · refine aw_iconst (v := (-1)) dX10_on_8 kc_m1 ?_
      refine aw_iret dX10_on_9 rfl (rb0 (Nat.zero_le _)) ⟨rfl, _, rfl, ?_⟩
      refine QC_no hA hD hT ?_
      dsimp only [oOn]
      exact if_pos hb
  obtain ⟨j, hj, rfl⟩ := ix_of hb (by decide)
  cases hk : kp j with
  | none =>
    have e : oOn A D (s, (m, lg), kp) (nI j) = (-3, fnd A 1, D, (s, (m, lg), kp)) := by
      dsimp only [oOn]
      rw [if_neg hb, ix_nI (by omega), hk]
    refine spec0_of (lo := [_,_]) (by decide) (Nat.le_of_ble_eq_true rfl) rfl ?_
    refine aw_aload_n dX10_on_0 rfl ?_
    refine aw_iload_n dX10_on_1 rfl ?_
    refine aw_xVi [_] dX10_on_2 cvX10_185 (XS.s0 hX) (e_isKeepingPlace (nI j)) rfl rfl (Nat.le_of_ble_eq_true rfl) (rb0 (by decide)) ?_
    refine aw_if_ne (tgt := 10) dX10_on_5 rfl (fun h5 => ?_) (fun h5 => ?_)
    · refine aw_aload_n dX10_on_10 rfl ?_
      refine aw_getR dX10_on_11 fgX10_32 rfl (XS.s0 hX) (XS.r0_4 hX) ?_
      refine aw_iload_n dX10_on_14 rfl ?_
      refine aw_aaload dX10_on_15 (XS.s25 hX) ⟨by decide, by decide⟩ rfl hj (XS.keptr hX hj) ?_
      refine aw_xVi [] dX10_on_16 cvX10_131 (TownS.s0 (XS.kept hX hj)) (t_hasPeople (n := 0) (XS.kept hX hj) (hT.2.1 j hj hk) (by omega)) rfl rfl (Nat.le_of_ble_eq_true rfl) (rb0 (by decide)) ?_
      refine aw_if_ne (tgt := 28) dX10_on_19 rfl (fun h19 => ?_) (fun h19 => ?_)
      · exact absurd rfl (zI_n0.mp h19)
      · refine aw_aload_n dX10_on_22 rfl ?_
        refine aw_iconst (v := nI 1) dX10_on_23 kc_1 ?_
        refine aw_xVi [_] dX10_on_24 cvX10_68 (XS.s0 hX) (e_foundOut hX (f := 1) (by decide) (by decide)) rfl rfl (Nat.le_of_ble_eq_true rfl) (rb0 (by decide)) ?_
        refine aw_iret dX10_on_27 rfl (rb0 (Nat.zero_le _)) ⟨rfl, _, rfl, ?_⟩
        exact QC_fnd hA hD hT (by decide) e
    · exact absurd (zi_bad h5) hb
  | some K =>
    obtain ⟨m2, lg2⟩ := K
    have hK : TF (X + (78 + 20 * j)) s m2 lg2 iv := hT.2.2 j hj _ hk
    have hWK : WL s m2 lg2 := (hW.2.2 j hj _ hk).1
    have hm2 : m2 ≤ 40 := hWK.2.1
    have h0 : s.1 ≠ 0 := (hW.2.2 j hj _ hk).2
    have e : oOn A D (s, (m, lg), kp) (nI j) = (nI m2, A, D, (s, (m2, lg2), kp)) := by
      dsimp only [oOn]
      rw [if_neg hb, ix_nI (by omega), hk]
    refine spec0_of (lo := [_,_]) (by decide) (Nat.le_of_ble_eq_true rfl) rfl ?_
    refine aw_aload_n dX10_on_0 rfl ?_
    refine aw_iload_n dX10_on_1 rfl ?_
    refine aw_xVi [_] dX10_on_2 cvX10_185 (XS.s0 hX) (e_isKeepingPlace (nI j)) rfl rfl (Nat.le_of_ble_eq_true rfl) (rb0 (by decide)) ?_
    refine aw_if_ne (tgt := 10) dX10_on_5 rfl (fun h5 => ?_) (fun h5 => ?_)
    · refine aw_aload_n dX10_on_10 rfl ?_
      refine aw_getR dX10_on_11 fgX10_32 rfl (XS.s0 hX) (XS.r0_4 hX) ?_
      refine aw_iload_n dX10_on_14 rfl ?_
      refine aw_aaload dX10_on_15 (XS.s25 hX) ⟨by decide, by decide⟩ rfl hj (XS.keptr hX hj) ?_
      refine aw_xVi [] dX10_on_16 cvX10_131 (TownS.s0 (XS.kept hX hj)) (t_hasPeople (XS.kept hX hj) hK.1.1 (by omega)) rfl rfl (Nat.le_of_ble_eq_true rfl) (rb0 (by decide)) ?_
      refine aw_if_ne (tgt := 28) dX10_on_19 rfl (fun h19 => ?_) (fun h19 => ?_)
      · refine aw_aload_n dX10_on_28 rfl ?_
        refine aw_getR dX10_on_29 fgX10_28 rfl (XS.s0 hX) (XS.r0_3 hX) ?_
        refine aw_aload_n dX10_on_32 rfl ?_
        refine aw_getR dX10_on_33 fgX10_32 rfl (XS.s0 hX) (XS.r0_4 hX) ?_
        refine aw_iload_n dX10_on_36 rfl ?_
        refine aw_aaload dX10_on_37 (XS.s25 hX) ⟨by decide, by decide⟩ rfl hj (XS.keptr hX hj) ?_
        refine aw_xVv [_] dX10_on_38 cvX10_188 (TownS.s0 (XS.town hX)) (t_become (XS.town hX) (XS.kept hX hj)) rfl rfl (Nat.le_of_ble_eq_true rfl) (rb0 (by decide)) ?_
        refine aw_aload_n dX10_on_41 rfl ?_
        refine aw_getR dX10_on_42 fgX10_28 rfl (XS.s0 hX) (XS.r0_3 hX) ?_
        refine aw_getI dX10_on_45 fgX10_168 rfl (TownS.s0 (XS.town hX)) ?_
        rw [(TF_be (T := X + 5) hs7 hm2 (by omega) hK).2.1]
        refine aw_iret dX10_on_48 rfl (rb0 (Nat.zero_le _)) ⟨rfl, _, rfl, ?_⟩
        exact QC_twn hA hD hT (TF_be (T := X + 5) hs7 hm2 (by omega) hK) (fun b hb => be_o (by omega)) e
      · exact absurd h0 (zI_0.mp h19)
    · exact absurd (zi_bad h5) hb
