/-! WHAT HAS BEEN MADE: cells from a on, their shapes, references, numbers; all before a as it was. -/
theorem mkE_r {E : SH} {e t n b : Nat} (h : b ≠ e) : (mkE E e t n).2.2 b = E.2.2 b := va_up_n h
theorem mnE_r {E : SH} {e b : Nat} (h : b < e) : (mnE E e).2.2 b = E.2.2 b := (if_neg (by omega)).trans (if_neg (by omega))
theorem mnE_s {E : SH} {e : Nat} : (mnE E e).2.2 e = fun i => if i < 6 then some (e + 1 + i) else none := if_pos rfl
theorem setR_s {E : SH} {a k b : Nat} : (setR E a k b).2.2 a = va_up (E.2.2 a) k (some b) := va_up_s
theorem setR_n {E : SH} {a k b x : Nat} (h : x ≠ a) : (setR E a k b).2.2 x = E.2.2 x := va_up_n h
def Wz : Nat → Nat → Bool := fun _ _ => false
def Lz : Nat → Bool := fun _ => false
def CS (G : GC) (E0 : SH) (iv0 : IV) (lv0 : LV) (a : Nat) (C R : List (Nat × Nat × Nat)) (k : Nat) (Wp : Nat → Nat → Bool) (Lp : Nat → Bool) (E : SH) (iv : IV) (lv : LV) : Prop :=
  E.1 = a + k ∧ gB G ≤ a ∧ (∀ p ∈ C, p.1 < k ∧ E.2.1 (a + p.1) = (p.2.1, p.2.2)) ∧ (∀ p ∈ R, p.1 < k ∧ E.2.2 (a + p.1) p.2.1 = some (a + p.2.2)) ∧ (∀ b, b < a → E.2.1 b = E0.2.1 b ∧ E.2.2 b = E0.2.2 b ∧ iv b = iv0 b ∧ lv b = lv0 b) ∧ (∀ o j, o < k → iv (a + o) j = if Wp o j then -1 else 0) ∧ ∀ j, lv a j = if Lp j then 1 else 0
section CSS
variable {G : GC} {E0 E : SH} {iv0 iv : IV} {lv0 lv : LV} {a k : Nat} {C R : List (Nat × Nat × Nat)} {Wp : Nat → Nat → Bool} {Lp : Nat → Bool}
theorem CS.s (h : CS G E0 iv0 lv0 a C R k Wp Lp E iv lv) (p : Nat × Nat × Nat) (hp : p ∈ C) : Sh G E (a + p.1) p.2.1 p.2.2 := by
  have h1 := (h.2.2.1 p hp).1
  have h2 := h.1
  have h3 := h.2.1
  exact ⟨by omega, by omega, (h.2.2.1 p hp).2⟩
theorem CS.r (h : CS G E0 iv0 lv0 a C R k Wp Lp E iv lv) (p : Nat × Nat × Nat) (hp : p ∈ R) : E.2.2 (a + p.1) p.2.1 = some (a + p.2.2) := (h.2.2.2.1 p hp).2
theorem CS_new {e t : Nat} (he : E.1 = e) (hB : gB G ≤ e) : CS G (mkE E e t 0) (va_up iv e (fun _ => 0)) (va_up lv e (fun _ => 0)) e [(0, t, 0)] [] 1 Wz Lz (mkE E e t 0) (va_up iv e (fun _ => 0)) (va_up lv e (fun _ => 0)) := by
  refine ⟨rfl, hB, fun p hp => ?_, fun p hp => absurd hp List.not_mem_nil, fun b hb => ⟨rfl, rfl, rfl, rfl⟩, fun o j ho => ?_, fun j => ?_⟩
  · rw [List.mem_singleton.mp hp]
    exact ⟨Nat.one_pos, va_up_s⟩
  · have e0 : o = 0 := by omega
    subst e0
    show va_up iv e _ e j = _
    rw [va_up_s]
    rfl
  · rw [va_up_s]
    rfl
theorem CS_mk {t n : Nat} (h : CS G E0 iv0 lv0 a C R k Wp Lp E iv lv) (h0 : 0 < k) (hW : ∀ j, Wp k j = false) : CS G E0 iv0 lv0 a (C ++ [(k, t, n)]) R (k + 1) Wp Lp (mkE E (a + k) t n) (va_up iv (a + k) (fun _ => 0)) (va_up lv (a + k) (fun _ => 0)) := by
  obtain ⟨h1, h2, h3, h4, h5, h6, h7⟩ := h
  refine ⟨rfl, h2, fun p hp => ?_, fun p hp => ?_, fun b hb => ?_, fun o j ho => ?_, fun j => ?_⟩
  · rcases List.mem_append.mp hp with q | q
    · have := h3 p q
      exact ⟨by omega, by show va_up _ _ _ _ = _; rw [va_up_n (by omega)]; exact this.2⟩
    · rw [List.mem_singleton.mp q]
      exact ⟨Nat.lt_succ_self k, va_up_s⟩
  · have := h4 p hp
    exact ⟨by omega, by rw [mkE_r (by omega)]; exact this.2⟩
  · have := h5 b hb
    refine ⟨?_, ?_, ?_, ?_⟩
    · show va_up _ _ _ _ = _; rw [va_up_n (by omega)]; exact this.1
    · show va_up _ _ _ _ = _; rw [va_up_n (by omega)]; exact this.2.1
    · rw [va_up_n (by omega)]; exact this.2.2.1
    · rw [va_up_n (by omega)]; exact this.2.2.2
  · by_cases q : o = k
    · subst q
      rw [va_up_s, hW j]
      rfl
    · rw [va_up_n (by omega)]
      exact h6 o j (by omega)
  · rw [va_up_n (by omega)]
    exact h7 j
theorem CS_mna (h : CS G E0 iv0 lv0 a C R k Wp Lp E iv lv) (h0 : 0 < k) (hW : ∀ o j, k ≤ o → Wp o j = false) : CS G E0 iv0 lv0 a (C ++ [(k, 25, 6), (k + 1, 20, 21), (k + 2, 20, 21), (k + 3, 20, 21), (k + 4, 20, 21), (k + 5, 20, 21), (k + 6, 20, 21)]) (R ++ [(k, 0, k + 1), (k, 1, k + 2), (k, 2, k + 3), (k, 3, k + 4), (k, 4, k + 5), (k, 5, k + 6)]) (k + 7) Wp Lp (mnE E (a + k)) (mnV iv (a + k) 0) (mnV lv (a + k) 0) := by
  obtain ⟨h1, h2, h3, h4, h5, h6, h7⟩ := h
  refine ⟨rfl, h2, fun p hp => ?_, fun p hp => ?_, fun b hb => ?_, fun o j ho => ?_, fun j => ?_⟩
  · rcases List.mem_append.mp hp with q | q
    · have := h3 p q
      refine ⟨by omega, ?_⟩
      show (if _ then _ else if _ then _ else _) = _
      rw [if_neg (by omega), if_neg (by omega)]
      exact this.2
    · simp only [List.mem_cons, List.not_mem_nil, or_false] at q
      rcases q with q | q | q | q | q | q | q <;> subst q <;> refine ⟨by show _ < k + 7; omega, ?_⟩
      · exact if_pos rfl
      all_goals (show (if _ then _ else if _ then _ else _) = _; rw [if_neg (by omega), if_pos (by omega)])
  · rcases List.mem_append.mp hp with q | q
    · have := h4 p q
      refine ⟨by omega, ?_⟩
      rw [mnE_r (by omega)]
      exact this.2
    · simp only [List.mem_cons, List.not_mem_nil, or_false] at q
      rcases q with q | q | q | q | q | q <;> subst q <;> refine ⟨by show k < k + 7; omega, ?_⟩ <;> (dsimp only; rw [mnE_s]; dsimp only; rw [if_pos (by decide)]; first | rfl | (congr 1; omega))
  · have := h5 b hb
    refine ⟨?_, ?_, ?_, ?_⟩
    · show (if _ then _ else if _ then _ else _) = _; rw [if_neg (by omega), if_neg (by omega)]; exact this.1
    · show (if _ then _ else if _ then _ else _) = _; rw [if_neg (by omega), if_neg (by omega)]; exact this.2.1
    · unfold mnV; rw [if_neg (by omega)]; exact this.2.2.1
    · unfold mnV; rw [if_neg (by omega)]; exact this.2.2.2
  · unfold mnV
    by_cases q : k ≤ o
    · rw [if_pos (by omega), hW o j q]
      rfl
    · rw [if_neg (by omega)]
      exact h6 o j (by omega)
  · unfold mnV
    rw [if_neg (by omega)]
    exact h7 j
theorem CS_setR {x y i sl j : Nat} (h : CS G E0 iv0 lv0 a C R k Wp Lp E iv lv) (hx : x = a + i) (hy : y = a + j) (hi : i < k) (hR : R.all (fun p => !(p.1 == i && p.2.1 == sl)) = true) : CS G E0 iv0 lv0 a C (R ++ [(i, sl, j)]) k Wp Lp (setR E x sl y) iv lv := by
  subst hx hy
  obtain ⟨h1, h2, h3, h4, h5, h6, h7⟩ := h
  refine ⟨h1, h2, h3, fun p hp => ?_, fun b hb => ?_, h6, h7⟩
  · rcases List.mem_append.mp hp with q | q
    · have := h4 p q
      refine ⟨this.1, ?_⟩
      by_cases e : p.1 = i
      · rw [e, setR_s]
        have hne := List.all_eq_true.mp hR p q
        rw [va_up_n (fun e2 => by rw [e, e2] at hne; simp at hne), ← e]
        exact this.2
      · rw [setR_n (by omega)]
        exact this.2
    · rw [List.mem_singleton.mp q]
      refine ⟨hi, ?_⟩
      dsimp only
      rw [setR_s, va_up_s]
  · have := h5 b hb
    refine ⟨this.1, ?_, this.2.2⟩
    show va_up _ _ _ _ = _
    rw [va_up_n (by omega)]
    exact this.2.1
theorem CS_putI0 {x i sl : Nat} (h : CS G E0 iv0 lv0 a C R k Wp Lp E iv lv) (hx : x = a + i) (hi : i < k) (hW : Wp i sl = false) : CS G E0 iv0 lv0 a C R k Wp Lp E (va_up iv x (upd (iv x) sl (nI 0))) lv := by
  subst hx
  obtain ⟨h1, h2, h3, h4, h5, h6, h7⟩ := h
  refine ⟨h1, h2, h3, h4, fun b hb => ?_, fun o j ho => ?_, h7⟩
  · rw [va_up_n (by omega)]; exact h5 b hb
  · by_cases q : o = i
    · subst q
      rw [va_up_s]
      by_cases e : j = sl
      · subst e; rw [pk_us, hW]; rfl
      · rw [pk_un e]; exact h6 o j ho
    · rw [va_up_n (by omega)]; exact h6 o j ho
theorem CS_putIm {x i sl : Nat} (h : CS G E0 iv0 lv0 a C R k Wp Lp E iv lv) (hx : x = a + i) (hi : i < k) : CS G E0 iv0 lv0 a C R k (fun o j => (o == i && j == sl) || Wp o j) Lp E (va_up iv x (upd (iv x) sl (-1))) lv := by
  subst hx
  obtain ⟨h1, h2, h3, h4, h5, h6, h7⟩ := h
  refine ⟨h1, h2, h3, h4, fun b hb => ?_, fun o j ho => ?_, h7⟩
  · rw [va_up_n (by omega)]; exact h5 b hb
  · by_cases q : o = i
    · subst q
      rw [va_up_s]
      by_cases e : j = sl
      · subst e; rw [pk_us]; simp
      · rw [pk_un e, h6 o j ho]; simp [e]
    · rw [va_up_n (by omega), h6 o j ho]; simp [q]
theorem CS_putL0 {sl : Nat} (h : CS G E0 iv0 lv0 a C R k Wp Lp E iv lv) (hL : Lp sl = false) : CS G E0 iv0 lv0 a C R k Wp Lp E iv (va_up lv a (vp_updL (lv a) sl (lN 0))) := by
  obtain ⟨h1, h2, h3, h4, h5, h6, h7⟩ := h
  refine ⟨h1, h2, h3, h4, fun b hb => ?_, h6, fun j => ?_⟩
  · rw [va_up_n (by omega)]; exact h5 b hb
  · rw [va_up_s]
    by_cases e : j = sl
    · subst e; rw [pk_uLs, hL]; rfl
    · rw [pk_uLn e]; exact h7 j
theorem CS_putL1 {sl : Nat} (h : CS G E0 iv0 lv0 a C R k Wp Lp E iv lv) : CS G E0 iv0 lv0 a C R k Wp (fun j => j == sl || Lp j) E iv (va_up lv a (vp_updL (lv a) sl (lN 1))) := by
  obtain ⟨h1, h2, h3, h4, h5, h6, h7⟩ := h
  refine ⟨h1, h2, h3, h4, fun b hb => ?_, h6, fun j => ?_⟩
  · rw [va_up_n (by omega)]; exact h5 b hb
  · rw [va_up_s]
    by_cases e : j = sl
    · subst e; rw [pk_uLs]; simp; rfl
    · rw [pk_uLn e, h7 j]; simp [e]
theorem CS_sub {E3 : SH} {iv3 : IV} {lv3 : LV} {t k2 : Nat} {C2 R2 : List (Nat × Nat × Nat)} {W2 Wn : Nat → Nat → Bool} {L2 : Nat → Bool} (h : CS G E0 iv0 lv0 a C R k Wp Lp E iv lv) (h0 : 0 < k) (h2 : CS G (mkE E (a + k) t 0) (va_up iv (a + k) (fun _ => 0)) (va_up lv (a + k) (fun _ => 0)) (a + k) C2 R2 k2 W2 L2 E3 iv3 lv3) (hW : ∀ o j, o < k2 → Wn (k + o) j = W2 o j) (hW1 : ∀ o j, o < k → Wn o j = Wp o j) :
    CS G E0 iv0 lv0 a (C ++ C2.map (fun p => (k + p.1, p.2))) (R ++ R2.map (fun p => (k + p.1, p.2.1, k + p.2.2))) (k + k2) Wn Lp E3 iv3 lv3 := by
  obtain ⟨g1, g2, g3, g4, g5, g6, g7⟩ := h2
  obtain ⟨h1, hB, h3, h4, h5, h6, h7⟩ := h
  have f : ∀ b, b < a + k → E3.2.1 b = E.2.1 b ∧ E3.2.2 b = E.2.2 b ∧ iv3 b = iv b ∧ lv3 b = lv b := fun b hb => by
    have := g5 b hb
    refine ⟨this.1.trans (va_up_n (by omega)), this.2.1.trans (va_up_n (by omega)), this.2.2.1.trans (va_up_n (by omega)), this.2.2.2.trans (va_up_n (by omega))⟩
  refine ⟨by omega, hB, fun p hp => ?_, fun p hp => ?_, fun b hb => ?_, fun o j ho => ?_, fun j => ?_⟩
  · rcases List.mem_append.mp hp with q | q
    · have := h3 p q
      refine ⟨by omega, ?_⟩
      rw [(f _ (by omega)).1]
      exact this.2
    · obtain ⟨p0, hp0, rfl⟩ := List.mem_map.mp q
      have := g3 p0 hp0
      refine ⟨by show k + p0.1 < k + k2; omega, ?_⟩
      show E3.2.1 (a + (k + p0.1)) = _
      rw [← Nat.add_assoc]
      exact this.2
  · rcases List.mem_append.mp hp with q | q
    · have := h4 p q
      refine ⟨by omega, ?_⟩
      rw [(f _ (by omega)).2.1]
      exact this.2
    · obtain ⟨p0, hp0, rfl⟩ := List.mem_map.mp q
      have := g4 p0 hp0
      refine ⟨by show k + p0.1 < k + k2; omega, ?_⟩
      show E3.2.2 (a + (k + p0.1)) p0.2.1 = some (a + (k + p0.2.2))
      rw [← Nat.add_assoc, ← Nat.add_assoc]
      exact this.2
  · have q := f b (by omega)
    have q5 := h5 b hb
    exact ⟨q.1.trans q5.1, q.2.1.trans q5.2.1, q.2.2.1.trans q5.2.2.1, q.2.2.2.trans q5.2.2.2⟩
  · by_cases q : o < k
    · rw [(f _ (by omega)).2.2.1, h6 o j q, hW1 o j q]
    · have := g6 (o - k) j (by omega)
      rw [show a + k + (o - k) = a + o by omega] at this
      rw [this, ← hW (o - k) j (by omega), show k + (o - k) = o by omega]
  · rw [(f a (by omega)).2.2.2]
    exact h7 j
theorem CS_cast {C2 R2 : List (Nat × Nat × Nat)} {W2 : Nat → Nat → Bool} {L2 : Nat → Bool} (h : CS G E0 iv0 lv0 a C R k Wp Lp E iv lv) (hC : C2.all (fun p => C.contains p) = true) (hR : R2.all (fun p => R.contains p) = true) (hW : ∀ o j, o < k → W2 o j = Wp o j) (hL : ∀ j, L2 j = Lp j) : CS G E0 iv0 lv0 a C2 R2 k W2 L2 E iv lv := by
  obtain ⟨h1, h2, h3, h4, h5, h6, h7⟩ := h
  exact ⟨h1, h2, fun p hp => h3 p (List.contains_iff_mem.mp (List.all_eq_true.mp hC p hp)), fun p hp => h4 p (List.contains_iff_mem.mp (List.all_eq_true.mp hR p hp)), h5, fun o j ho => by rw [hW o j ho]; exact h6 o j ho, fun j => by rw [hL j]; exact h7 j⟩
end CSS
/-- room, when k cells are made of mc + 1 -/
theorem rbA {D d mc m a k z0 : Nat} {E : SH} (h : d ≤ D) (hE : E.1 = a + k) (h0 : z0 = a + 1) (hm : k + m ≤ mc + 1) (hk : 0 < k) : RB (rm D mc) z0 E d m := by
  subst h0
  refine ⟨h, Nat.mul_le_mul_left 100 h, ?_, ?_⟩
  · show E.1 - (a + 1) + m ≤ mc
    omega
  · show 2500 * (E.1 - (a + 1)) + 2500 * m ≤ 2500 * mc
    rw [← Nat.mul_add]
    exact Nat.mul_le_mul_left _ (by omega)
