/-! every call keeps what is well made -/
section KW
variable {A : AA} {D : DD} {T : FT}
theorem WD_rw {r : Nat} {g : Nat → Int32} (h : WD D) : WD (dRw D r g) := h
theorem WD_tx {r : Nat} {g : Nat → Int32} (h : WD D) : WD (dTx D r g) := h
theorem WD_sz {r : Nat} {q : Option Nat} (h : WD D) (hq : ∀ k, q = some k → k ≤ 40) : WD (dSz D r q) := by
  refine ⟨fun x hx k e => ?_, h.2⟩
  replace e : va_up D.1 r q x = some k := e
  by_cases y : x = r
  · subst y; rw [va_up_s] at e; exact hq k e
  · rw [va_up_n y] at e; exact h.1 x hx k e
theorem WD_tz {r : Nat} {q : Option Nat} (h : WD D) (hq : ∀ k, q = some k → k ≤ 60) : WD (dTz D r q) := by
  refine ⟨h.1, fun x hx k e => ?_⟩
  replace e : va_up D.2.2.1 r q x = some k := e
  by_cases y : x = r
  · subst y; rw [va_up_s] at e; exact hq k e
  · rw [va_up_n y] at e; exact h.2 x hx k e
theorem kw_row (r n : Int32) (h : WD D) : WD (oRow A D r n).2.2 := by
  unfold oRow
  by_cases h1 : bad r 6 ∨ nI 40 < n
  · rw [if_pos h1]; exact h
  · rw [if_neg h1]
    by_cases h2 : n < 0
    · rw [if_pos h2]; exact h
    · rw [if_neg h2]
      obtain ⟨j, hj, rfl⟩ := ix_le (n := n) (k := 40) h2 (fun q => h1 (Or.inr q)) (by decide)
      refine WD_rw (WD_sz h (fun k e => ?_))
      rw [ix_nI (by omega)] at e
      cases e
      exact hj
theorem kw_text (r n : Int32) (h : WD D) : WD (oText A D r n).2.2 := by
  unfold oText
  by_cases h1 : bad r 4 ∨ nI 60 < n
  · rw [if_pos h1]; exact h
  · rw [if_neg h1]
    by_cases h2 : n < 0
    · rw [if_pos h2]; exact h
    · rw [if_neg h2]
      obtain ⟨j, hj, rfl⟩ := ix_le (n := n) (k := 60) h2 (fun q => h1 (Or.inr q)) (by decide)
      refine WD_tx (WD_tz h (fun k e => ?_))
      rw [ix_nI (by omega)] at e
      cases e
      exact hj
theorem kw_lay (r i v : Int32) (h : WD D) : WD (oLay A D r i v).2.2 := by
  unfold oLay
  split
  · exact h
  · split
    · exact h
    · split
      · exact h
      · exact WD_rw h
theorem kw_at (r i : Int32) (h : WD D) : WD (oAt A D r i).2.2 := by
  unfold oAt
  split
  · exact h
  · split
    · exact h
    · split <;> exact h
theorem kw_tear (r : Int32) (h : WD D) : WD (oTear A D r).2.2 := by
  unfold oTear
  split
  · exact h
  · split
    · exact h
    · exact WD_sz h (fun k e => by cases e)
theorem kw_put (t i v : Int32) (h : WD D) : WD (oPut A D t i v).2.2 := by
  unfold oPut
  split
  · exact h
  · split
    · exact h
    · split
      · exact h
      · exact WD_tx h
theorem kw_copy (r i t j n : Int32) (h : WD D) : WD (oCopy A D r i t j n).2.2 := by
  unfold oCopy
  split
  · exact h
  · split
    · exact h
    · split
      · split
        · exact h
        · exact WD_rw h
      · exact h
theorem kw_mean (r : Int32) (h : WD D) : WD (oMean A D r).2.2 := by
  unfold oMean
  split
  · exact h
  · split <;> exact h
def KW (D : DD) (T : FT) (o : RS) : Prop := WD o.2.2.1 ∧ WT o.2.2.2
theorem KW_e {o : RS} {v : Int32} {B : AA} (hD : WD D) (hT : WT T) (e : o = (v, B, D, T)) : KW D T o := by
  subst e
  exact ⟨hD, hT⟩
theorem kw_person (i w : Int32) (hD : WD D) (hT : WT T) : KW D T (oPerson A D T i w) := by
  unfold oPerson
  (repeat' split) <;> exact ⟨hD, hT⟩
theorem kw_deep (c : Int32) (hD : WD D) (hT : WT T) : KW D T (oDeep A D T c) := by
  unfold oDeep
  (repeat' split) <;> exact ⟨hD, hT⟩
theorem kw_mark (i w : Int32) (hD : WD D) (hT : WT T) : KW D T (oMark A D T i w) := by
  unfold oMark
  (repeat' split) <;> exact ⟨hD, hT⟩
theorem kw_meets (hD : WD D) (hT : WT T) : KW D T (oMeets A D T) := ⟨hD, hT⟩
theorem kw_later (i w : Int32) (hD : WD D) (hT : WT T) : KW D T (oLater A D T i w) := by
  unfold oLater
  (repeat' split) <;> exact ⟨hD, hT⟩
theorem kw_peace (hD : WD D) (hT : WT T) : KW D T (oPeace A D T) := by
  unfold oPeace
  (repeat' split) <;> exact ⟨hD, hT⟩
theorem kw_left (n : Int32) (hD : WD D) (hT : WT T) : KW D T (oLeft A D T n) := by
  unfold oLeft
  (repeat' split) <;> exact ⟨hD, hT⟩
theorem kw_ash (n : Int32) (hD : WD D) (hT : WT T) : KW D T (oAsh A D T n) := by
  unfold oAsh
  (repeat' split) <;> exact ⟨hD, hT⟩
theorem kw_best (n : Int32) (hD : WD D) (hT : WT T) : KW D T (oBest A D T n) := by
  unfold oBest
  (repeat' split) <;> exact ⟨hD, hT⟩
theorem kw_kinds (i r : Int32) (hD : WD D) (hT : WT T) : KW D T (oKinds A D T i r) := by
  unfold oKinds
  (repeat' split) <;> exact ⟨hD, hT⟩
theorem kw_highs (i r : Int32) (hD : WD D) (hT : WT T) : KW D T (oHighs A D T i r) := by
  unfold oHighs
  (repeat' split) <;> exact ⟨hD, hT⟩
theorem kw_test (i r : Int32) (hD : WD D) (hT : WT T) : KW D T (oTest A D T i r) := by
  unfold oTest
  (repeat' split) <;> exact ⟨hD, hT⟩
theorem kw_duel (n : Int32) (hD : WD D) (hT : WT T) : KW D T (oDuel A D T n) := by
  unfold oDuel
  (repeat' split) <;> exact ⟨hD, hT⟩
theorem kw_odds (k n p : Int32) (hD : WD D) (hT : WT T) : KW D T (oOdds A D T k n p) := by
  unfold oOdds
  (repeat' split) <;> exact ⟨hD, hT⟩
theorem kw_mid (n p : Int32) (hD : WD D) (hT : WT T) : KW D T (oMid A D T n p) := by
  unfold oMid
  (repeat' split) <;> exact ⟨hD, hT⟩
theorem kw_fault (t : Int32) (hD : WD D) (hT : WT T) : KW D T (oFault A D T t) := by
  unfold oFault
  (repeat' split) <;> exact ⟨hD, hT⟩
theorem WT_push {δ p q : Nat} (hT : WT T) (h0 : T.1.1 ≠ 0) (hm : T.2.1.1 < 40) (ho : dOK T.1 δ p q) : WT (pushD T δ p q) := ⟨WL_deed hT.1 hm ho, fun e => absurd e h0, hT.2.2⟩
theorem bad_s {i : Int32} {n : Nat} (h : ¬ bad i n) (hn : n < 2 ^ 31) : ix i < n := by
  obtain ⟨j, hj, rfl⟩ := ix_of h hn
  rw [ix_nI (by omega)]
  exact hj
theorem kw_day (hD : WD D) (hT : WT T) : KW D T (oDay A D T) := by
  unfold oDay
  by_cases h1 : T.1.1 = 0 ∨ 99 ≤ nowT T 0
  · rw [if_pos h1]; exact ⟨hD, hT⟩
  · rw [if_neg h1]
    by_cases h2 : 40 ≤ T.2.1.1
    · rw [if_pos h2]; exact ⟨hD, hT⟩
    · rw [if_neg h2]
      exact ⟨hD, WT_push hT (fun e => h1 (Or.inl e)) (by omega) ⟨by decide, fun q => by omega, fun q => by omega, fun q => by omega⟩⟩
theorem kw_fall (c n : Int32) (hD : WD D) (hT : WT T) : KW D T (oFall A D T c n) := by
  unfold oFall
  by_cases h0 : bad c 5 ∨ n < nI 1 ∨ nI 9 < n
  · rw [if_pos h0]; exact ⟨hD, hT⟩
  · rw [if_neg h0]
    by_cases h1 : T.1.1 = 0 ∨ 9 ≤ nowT T (1 + ix c)
    · rw [if_pos h1]; exact ⟨hD, hT⟩
    · rw [if_neg h1]
      by_cases h2 : 40 ≤ T.2.1.1
      · rw [if_pos h2]; exact ⟨hD, hT⟩
      · rw [if_neg h2]
        have hc := bad_s (fun q => h0 (Or.inl q)) (by decide)
        obtain ⟨j, hj1, hj, rfl⟩ := ix_1 (n := n) (k := 9) (fun q => h0 (Or.inr (Or.inl q))) (fun q => h0 (Or.inr (Or.inr q))) (by decide)
        exact ⟨hD, WT_push hT (fun e => h1 (Or.inl e)) (by omega) ⟨by decide, fun _ => hc, fun _ => by rw [ix_nI (by omega)]; exact hj, fun q => by omega⟩⟩
theorem kw_wind (c : Int32) (hD : WD D) (hT : WT T) : KW D T (oWind A D T c) := by
  unfold oWind
  by_cases h0 : bad c 5
  · rw [if_pos h0]; exact ⟨hD, hT⟩
  · rw [if_neg h0]
    by_cases h1 : T.1.1 = 0 ∨ nowT T (1 + ix c) = 0
    · rw [if_pos h1]; exact ⟨hD, hT⟩
    · rw [if_neg h1]
      by_cases h2 : 40 ≤ T.2.1.1
      · rw [if_pos h2]; exact ⟨hD, hT⟩
      · rw [if_neg h2]
        have hc := bad_s h0 (by decide)
        exact ⟨hD, WT_push hT (fun e => h1 (Or.inl e)) (by omega) ⟨by decide, fun _ => hc, fun q => by omega, fun q => by omega⟩⟩
theorem kw_go (i c : Int32) (hD : WD D) (hT : WT T) : KW D T (oGo A D T i c) := by
  have h7 : T.1.1 ≤ 7 := hT.1.1.1
  unfold oGo
  by_cases h0 : bad i T.1.1 ∨ bad c 5
  · rw [if_pos h0]; exact ⟨hD, hT⟩
  · rw [if_neg h0]
    by_cases h1 : nowT T (13 + ix i) = ix c
    · rw [if_pos h1]; exact ⟨hD, hT⟩
    · rw [if_neg h1]
      by_cases h2 : 40 ≤ T.2.1.1
      · rw [if_pos h2]; exact ⟨hD, hT⟩
      · rw [if_neg h2]
        have hi := bad_s (fun q => h0 (Or.inl q)) (by omega)
        have hc := bad_s (fun q => h0 (Or.inr q)) (by decide)
        exact ⟨hD, WT_push hT (by omega) (by omega) ⟨by decide, fun q => by omega, fun q => by omega, fun _ => ⟨hi, hc⟩⟩⟩
theorem kw_undo (n : Int32) (hD : WD D) (hT : WT T) : KW D T (oUndo A D T n) := by
  have hm : T.2.1.1 ≤ 40 := hT.1.2.1
  unfold oUndo
  by_cases h0 : n < 0 ∨ nI T.2.1.1 < n
  · rw [if_pos h0]; exact ⟨hD, hT⟩
  · rw [if_neg h0]
    obtain ⟨j, hj, rfl⟩ := ix_le (n := n) (k := T.2.1.1) (fun q => h0 (Or.inl q)) (fun q => h0 (Or.inr q)) (by omega)
    rw [ix_nI (by omega)]
    refine ⟨hD, ⟨hT.1.1, by show j ≤ 40; omega, hT.1.2.2.1, fun d hd => hT.1.2.2.2 d (Nat.le_trans hd hj)⟩, fun e => ?_, hT.2.2⟩
    have := hT.2.1 e
    show j = 0
    omega
theorem kw_keep (k : Int32) (hD : WD D) (hT : WT T) : KW D T (oKeep A D T k) := by
  unfold oKeep
  by_cases h0 : bad k 3
  · rw [if_pos h0]; exact ⟨hD, hT⟩
  · rw [if_neg h0]
    by_cases h1 : T.1.1 = 0
    · rw [if_pos h1]; exact ⟨hD, hT⟩
    · rw [if_neg h1]
      refine ⟨hD, hT.1, hT.2.1, fun x hx K e => ?_⟩
      replace e : va_up T.2.2 (ix k) (some T.2.1) x = some K := e
      by_cases y : x = ix k
      · subst y
        rw [va_up_s] at e
        cases e
        exact ⟨hT.1, h1⟩
      · rw [va_up_n y] at e
        exact hT.2.2 x hx K e
theorem kw_on (k : Int32) (hD : WD D) (hT : WT T) : KW D T (oOn A D T k) := by
  unfold oOn
  by_cases h0 : bad k 3
  · rw [if_pos h0]; exact ⟨hD, hT⟩
  · rw [if_neg h0]
    have hk := bad_s h0 (by decide)
    cases e : T.2.2 (ix k) with
    | none => exact ⟨hD, hT⟩
    | some K =>
      have h := hT.2.2 _ hk K e
      exact ⟨hD, h.1, fun q => absurd q h.2, hT.2.2⟩
theorem kw_lots (n y : Int32) (hD : WD D) (hT : WT T) : KW D T (oLots A D T n y) := by
  unfold oLots
  by_cases h0 : n < nI 1 ∨ nI 20 < n ∨ y < nI 1 ∨ nI 2147483646 < y
  · rw [if_pos h0]; exact ⟨hD, hT⟩
  · rw [if_neg h0]
    by_cases h1 : T.1.1 = 0
    · rw [if_pos h1]; exact ⟨hD, hT⟩
    · rw [if_neg h1]
      by_cases h2 : 40 < T.2.1.1 + ix n
      · rw [if_pos h2]; exact ⟨hD, hT⟩
      · rw [if_neg h2]
        exact ⟨hD, lotL_W h1 hT.1 _ (by omega), fun e => absurd e h1, hT.2.2⟩
theorem psG_s {g : Nat → Int32} {k : Nat} {st : PS} (h : psG g k = some st) : psR g k = .inr st ∧ gdP st := by
  unfold psG at h
  cases e : psR g k with
  | inl f => rw [e] at h; cases h
  | inr s2 =>
    rw [e] at h
    dsimp only at h
    by_cases hg : s2.1 % 5 = 0 ∧ 15 ≤ s2.1
    · rw [if_pos hg] at h
      cases h
      exact ⟨rfl, hg⟩
    · rw [if_neg hg] at h
      cases h
theorem kw_town (t : Int32) (hD : WD D) (hT : WT T) : KW D T (oTown A D T t) := by
  unfold oTown
  by_cases h0 : bad t 4
  · rw [if_pos h0]; exact ⟨hD, hT⟩
  · rw [if_neg h0]
    cases e : D.2.2.1 (ix t) with
    | none => exact ⟨hD, hT⟩
    | some k =>
      dsimp only
      cases e2 : psG (D.2.2.2 (ix t)) k with
      | none => exact ⟨hD, hT⟩
      | some st =>
        obtain ⟨h1, h2⟩ := psG_s e2
        have hW := psR_W h1
        have h15 : 15 ≤ st.1 := h2.2
        have hv := vTn_W (v0 := nowT T) hW h2
        refine ⟨hD, ⟨sTn_W hW h2, Nat.zero_le _, rfl, fun d hd => ?_⟩, fun _ => rfl, fun x hx K q => by cases q⟩
        refine ⟨hv, ?_⟩
        show (0 : Nat) ≤ d
        exact Nat.zero_le _
end KW
