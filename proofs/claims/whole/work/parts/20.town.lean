/-! THE TOWN, as numbers: s = (how many, kinds, highs, foes), v = (day, five deeps, seven grudges, seven streets) -/
abbrev TS : Type := Nat × (Nat → Nat) × (Nat → Nat) × (Nat → Nat)
abbrev TV : Type := Nat → Nat
def anyU (p : Nat → Bool) : Nat → Bool
  | 0 => false
  | k + 1 => anyU p k || p k
theorem anyU_t {p : Nat → Bool} : ∀ {n : Nat}, anyU p n = true ↔ ∃ k, k < n ∧ p k = true
  | 0 => ⟨fun h => (by cases h), fun ⟨k, h, _⟩ => absurd h (Nat.not_lt_zero k)⟩
  | n + 1 => by
    rw [anyU, Bool.or_eq_true, anyU_t (n := n)]
    constructor
    · rintro (⟨k, h1, h2⟩ | h)
      · exact ⟨k, by omega, h2⟩
      · exact ⟨n, by omega, h⟩
    · rintro ⟨k, h1, h2⟩
      by_cases e : k = n
      · subst e; exact Or.inr h2
      · exact Or.inl ⟨k, by omega, h2⟩
theorem anyU_f {p : Nat → Bool} {n : Nat} : anyU p n = false ↔ ∀ k, k < n → p k = false := by
  rw [← Bool.not_eq_true, anyU_t]
  constructor
  · intro h k hk
    cases e : p k with
    | false => rfl
    | true => exact absurd ⟨k, hk, e⟩ h
  · rintro h ⟨k, h1, h2⟩
    rw [h k h1] at h2
    cases h2
theorem anyU_cong {p q : Nat → Bool} : ∀ {n : Nat}, (∀ k, k < n → p k = q k) → anyU p n = anyU q n
  | 0, _ => rfl
  | n + 1, h => by rw [anyU, anyU, anyU_cong (fun k hk => h k (by omega)), h n (by omega)]
def seenN (k h : Nat) : Nat := if k = 3 then h - 2 else h
abbrev hid (s : TS) (v : TV) (i : Nat) : Prop := seenN (s.2.1 i) (s.2.2.1 i) ≤ v (1 + v (13 + i))
/-- between one and the foe, in the street; elsewhere there -/
def pbt (s : TS) (v : TV) (i k : Nat) : Bool := decide (v (13 + k) = v (13 + i) ∧ k ≠ i ∧ k ≠ s.2.2.2 i ∧ (min i (s.2.2.2 i) < k ∧ k < max i (s.2.2.2 i)))
def pou (s : TS) (v : TV) (i k : Nat) : Bool := decide (v (13 + k) = v (13 + i) ∧ k ≠ i ∧ k ≠ s.2.2.2 i ∧ ¬ (min i (s.2.2.2 i) < k ∧ k < max i (s.2.2.2 i)))
def met (s : TS) (v : TV) (i : Nat) : Prop := s.2.2.2 i ≠ i ∧ v (13 + s.2.2.2 i) = v (13 + i) ∧ (anyU (pbt s v i) s.1 = false ∨ anyU (pou s v i) s.1 = false)
def metB (s : TS) (v : TV) (i : Nat) : Bool := decide (s.2.2.2 i ≠ i) && decide (v (13 + s.2.2.2 i) = v (13 + i)) && (!anyU (pbt s v i) s.1 || !anyU (pou s v i) s.1)
theorem metB_iff {s : TS} {v : TV} {i : Nat} : metB s v i = true ↔ met s v i := by
  unfold metB met
  simp [Bool.and_eq_true, and_assoc]
def forg (s : TS) (v : TV) (i : Nat) : Bool := decide (s.2.1 i = 4) || decide (hid s v (s.2.2.2 i))
def mood (s : TS) (v : TV) (i : Nat) : Nat := if metB s v i then (if forg s v i then 1 else 2) else 0
def less (k d : Nat) : Nat := if k = 1 ∨ k = 4 then 2 else if k = 2 ∨ k = 5 then 1 - d % 2 else 1
def gnew (k g m d : Nat) : Nat := if m = 1 then g - less k d else if m = 2 then (if k = 5 ∨ g = 9 then g else g + 1) else g
def pass (s : TS) (v : TV) : TV := fun k => if k = 0 then v 0 + 1 else if 6 ≤ k ∧ k < 6 + s.1 then gnew (s.2.1 (k - 6)) (v k) (mood s v (k - 6)) (v 0) else v k
def passN (s : TS) (v : TV) : Nat → TV
  | 0 => v
  | d + 1 => pass s (passN s v d)
def sumU (f : Nat → Nat) : Nat → Nat
  | 0 => 0
  | k + 1 => sumU f k + f k
def tot (s : TS) (v : TV) : Nat := sumU (fun i => v (6 + i)) s.1
theorem sumU_cong {f g : Nat → Nat} : ∀ {n : Nat}, (∀ k, k < n → f k = g k) → sumU f n = sumU g n
  | 0, _ => rfl
  | n + 1, h => by rw [sumU, sumU, sumU_cong (fun k hk => h k (by omega)), h n (by omega)]
theorem sumU_le {f : Nat → Nat} {c : Nat} : ∀ {n : Nat}, (∀ k, k < n → f k ≤ c) → sumU f n ≤ n * c
  | 0, _ => Nat.zero_le _
  | n + 1, h => by
    have h1 := sumU_le (n := n) (fun k hk => h k (by omega))
    have h2 := h n (by omega)
    rw [sumU, Nat.succ_mul]
    omega
/-- the statics, well made -/
def WS (s : TS) : Prop := s.1 ≤ 7 ∧ ∀ i, i < s.1 → s.2.1 i < 6 ∧ s.2.2.1 i ≤ 9 ∧ s.2.2.2 i < s.1
/-- a state, well made -/
def WV (s : TS) (v : TV) : Prop := (∀ i, i < s.1 → v (6 + i) ≤ 9 ∧ v (13 + i) ≤ 4) ∧ (∀ c, c < 5 → v (1 + c) ≤ 9) ∧ v 0 < 2 ^ 20
/-- two states alike but for day and grudges -/
def alk (v w : TV) : Prop := ∀ k, (1 ≤ k ∧ k < 6) ∨ 13 ≤ k → v k = w k
theorem hid_alk {s : TS} {v w : TV} (h : alk v w) {i : Nat} (hi : v (13 + i) ≤ 4) : hid s v i ↔ hid s w i := by
  unfold hid
  rw [← h (13 + i) (by omega), ← h (1 + v (13 + i)) (by omega)]
theorem metB_alk {s : TS} {v w : TV} (h : alk v w) (i : Nat) : metB s v i = metB s w i := by
  have e1 : ∀ k, pbt s v i k = pbt s w i k := fun k => by unfold pbt; rw [h (13 + k) (by omega), h (13 + i) (by omega)]
  have e2 : ∀ k, pou s v i k = pou s w i k := fun k => by unfold pou; rw [h (13 + k) (by omega), h (13 + i) (by omega)]
  unfold metB
  rw [anyU_cong (fun k _ => e1 k), anyU_cong (fun k _ => e2 k), h (13 + s.2.2.2 i) (by omega), h (13 + i) (by omega)]
theorem forg_alk {s : TS} {v w : TV} (h : alk v w) {i : Nat} (hi : v (13 + s.2.2.2 i) ≤ 4) : forg s v i = forg s w i := by
  unfold forg
  congr 1
  exact decide_eq_decide.mpr (hid_alk h hi)
theorem mood_alk {s : TS} {v w : TV} (h : alk v w) {i : Nat} (hi : v (13 + s.2.2.2 i) ≤ 4) : mood s v i = mood s w i := by
  unfold mood
  rw [metB_alk h, forg_alk h hi]
theorem pass_alk (s : TS) (hs : s.1 ≤ 7) (v : TV) : alk (pass s v) v := fun k hk => by
  unfold pass
  rw [if_neg (by omega), if_neg (by omega)]
theorem alk_tr {u v w : TV} (h : alk u v) (h2 : alk v w) : alk u w := fun k hk => (h k hk).trans (h2 k hk)
theorem alk_rf (v : TV) : alk v v := fun _ _ => rfl
theorem passN_alk (s : TS) (hs : s.1 ≤ 7) (v : TV) : ∀ d, alk (passN s v d) v
  | 0 => alk_rf v
  | d + 1 => alk_tr (pass_alk s hs _) (passN_alk s hs v d)
theorem gnew_le {k g m d : Nat} (h : g ≤ 9) : gnew k g m d ≤ 9 := by
  unfold gnew
  split
  · omega
  · split
    · split <;> omega
    · exact h
theorem pass_g {s : TS} {v : TV} {i : Nat} (hi : i < s.1) : pass s v (6 + i) = gnew (s.2.1 i) (v (6 + i)) (mood s v i) (v 0) := by
  unfold pass
  rw [if_neg (by omega), if_pos (by omega), show 6 + i - 6 = i by omega]
theorem pass_0 (s : TS) (v : TV) : pass s v 0 = v 0 + 1 := if_pos rfl
theorem WV_pass {s : TS} {v : TV} (hs : WS s) (h : WV s v) (hd : v 0 + 1 < 2 ^ 20) : WV s (pass s v) := by
  have ha := pass_alk s hs.1 v
  refine ⟨fun i hi => ⟨?_, ?_⟩, fun c hc => ?_, by rw [pass_0]; exact hd⟩
  · rw [pass_g hi]; exact gnew_le (h.1 i hi).1
  · rw [ha _ (by omega)]; exact (h.1 i hi).2
  · rw [ha _ (by omega)]; exact h.2.1 c hc
theorem passN_0 (s : TS) (v : TV) : ∀ d, passN s v d 0 = v 0 + d
  | 0 => rfl
  | d + 1 => by rw [passN, pass_0, passN_0 s v d]; omega
theorem WV_passN {s : TS} {v : TV} (hs : WS s) (h : WV s v) : ∀ d, v 0 + d < 2 ^ 20 → WV s (passN s v d)
  | 0, _ => h
  | d + 1, hd => WV_pass hs (WV_passN hs h d (by omega)) (by rw [passN_0]; omega)
theorem tot_le {s : TS} {v : TV} (hs : WS s) (h : WV s v) : tot s v ≤ 63 := by
  have h1 : tot s v ≤ s.1 * 9 := sumU_le (fun k hk => (h.1 k hk).1)
  have h2 := hs.1
  omega
/-! memory: a row of the reference holds a state; its statics; a town of the class holds a state -/
def VR (a : Nat) (v : TV) (iv : IV) : Prop := ∀ k, k < 20 → iv a k = nI (v k)
def SR (M : Nat) (s : TS) (iv : IV) : Prop := iv M 14 = nI s.1 ∧ ∀ i, i < s.1 → iv (M + 9) i = nI (s.2.1 i) ∧ iv (M + 10) i = nI (s.2.2.1 i) ∧ iv (M + 11) i = nI (s.2.2.2 i)
def foI (s : TS) (i : Nat) : Int32 := if s.2.2.2 i = i then -1 else nI (s.2.2.2 i)
def TR (T : Nat) (s : TS) (v : TV) (iv : IV) : Prop := iv T 0 = nI s.1 ∧ iv T 1 = nI (v 0) ∧ (∀ i, i < s.1 → iv (T + 8) i = nI (s.2.1 i) ∧ iv (T + 9) i = nI (s.2.2.1 i) ∧ iv (T + 10) i = foI s i ∧ iv (T + 11) i = nI (v (6 + i)) ∧ iv (T + 12) i = nI (v (13 + i))) ∧ ∀ c, c < 5 → iv (T + 13) c = nI (v (1 + c))
/-! the reference's way to say who meets whom -/
def lstD (p : Nat → Bool) (n : Nat) : Nat → Option Nat
  | 0 => none
  | e + 1 => if p (n - (e + 1)) then some (n - (e + 1)) else lstD p n e
def cntD (p : Nat → Bool) (n : Nat) : Nat → Nat
  | 0 => 0
  | e + 1 => cntD p n e + (if p (n - (e + 1)) then 1 else 0)
theorem lstD_some {p : Nat → Bool} {n q : Nat} : ∀ {e : Nat}, e ≤ n → lstD p n e = some q → p q = true ∧ n - e ≤ q ∧ q < n ∧ ∀ k, n - e ≤ k → k < q → p k = false
  | 0, _, h => by cases h
  | e + 1, he, h => by
    rw [lstD] at h
    split at h
    · rename_i hp
      cases h
      exact ⟨hp, Nat.le_refl _, by omega, fun k h1 h2 => by omega⟩
    · rename_i hp
      obtain ⟨h1, h2, h3, h4⟩ := lstD_some (e := e) (by omega) h
      refine ⟨h1, by omega, h3, fun k g1 g2 => ?_⟩
      by_cases e2 : k = n - (e + 1)
      · subst e2; simpa using hp
      · exact h4 k (by omega) g2
theorem lstD_none {p : Nat → Bool} {n : Nat} : ∀ {e : Nat}, e ≤ n → lstD p n e = none → ∀ k, n - e ≤ k → k < n → p k = false
  | 0, _, _, k, h1, h2 => by omega
  | e + 1, he, h, k, h1, h2 => by
    rw [lstD] at h
    split at h
    · cases h
    · rename_i hp
      by_cases e2 : k = n - (e + 1)
      · subst e2; simpa using hp
      · exact lstD_none (e := e) (by omega) h k (by omega) h2
/-- at least three -/
theorem cntD_3 {p : Nat → Bool} {n a b c : Nat} (ha : p a = true) (hb : p b = true) (hc : p c = true) (hn : c < n) (h1 : a < b) (h2 : b < c) : 2 < cntD p n n := by
  have key : ∀ e, e ≤ n → (if n - e ≤ a then 1 else 0) + (if n - e ≤ b then 1 else 0) + (if n - e ≤ c then 1 else 0) ≤ cntD p n e := by
    intro e
    induction e with
    | zero =>
      intro _
      rw [if_neg (by omega), if_neg (by omega), if_neg (by omega)]
      exact Nat.zero_le _
    | succ e ih =>
      intro he
      have ih := ih (by omega)
      rw [cntD]
      by_cases ea : n - (e + 1) = a
      · rw [ea, ha, if_pos rfl]
        rw [if_neg (show ¬ n - e ≤ a by omega)] at ih
        rw [if_pos (Nat.le_refl a), if_pos (by omega), if_pos (by omega)]
        rw [if_pos (by omega), if_pos (by omega)] at ih
        omega
      · by_cases eb : n - (e + 1) = b
        · rw [eb, hb, if_pos rfl]
          rw [if_neg (show ¬ n - e ≤ a by omega), if_neg (show ¬ n - e ≤ b by omega), if_pos (by omega)] at ih
          rw [if_neg (by omega), if_pos (Nat.le_refl b), if_pos (by omega)]
          omega
        · by_cases ec : n - (e + 1) = c
          · rw [ec, hc, if_pos rfl]
            rw [if_neg (show ¬ n - e ≤ a by omega), if_neg (show ¬ n - e ≤ b by omega), if_neg (show ¬ n - e ≤ c by omega)] at ih
            rw [if_neg (by omega), if_neg (by omega), if_pos (Nat.le_refl c)]
            omega
          · have q1 : (n - (e + 1) ≤ a) = (n - e ≤ a) := propext ⟨fun h => by omega, fun h => by omega⟩
            have q2 : (n - (e + 1) ≤ b) = (n - e ≤ b) := propext ⟨fun h => by omega, fun h => by omega⟩
            have q3 : (n - (e + 1) ≤ c) = (n - e ≤ c) := propext ⟨fun h => by omega, fun h => by omega⟩
            simp only [q1, q2, q3]
            omega
  have h := key n (Nat.le_refl n)
  rw [Nat.sub_self, if_pos (Nat.zero_le _), if_pos (Nat.zero_le _), if_pos (Nat.zero_le _)] at h
  omega
/-- only two -/
theorem cntD_2 {p : Nat → Bool} {n a b : Nat} (h : ∀ k, k < n → p k = true → k = a ∨ k = b) (hab : a < b) : cntD p n n ≤ 2 := by
  have key : ∀ e, e ≤ n → cntD p n e ≤ (if n - e ≤ a then 1 else 0) + (if n - e ≤ b then 1 else 0) := by
    intro e
    induction e with
    | zero => intro _; exact Nat.zero_le _
    | succ e ih =>
      intro he
      have ih := ih (by omega)
      rw [cntD]
      by_cases ea : n - (e + 1) = a
      · rw [if_neg (show ¬ n - e ≤ a by omega)] at ih
        rw [if_pos (show n - (e + 1) ≤ a by omega), if_pos (show n - (e + 1) ≤ b by omega)]
        split <;> split at ih <;> omega
      · by_cases eb : n - (e + 1) = b
        · rw [if_neg (show ¬ n - e ≤ a by omega), if_neg (show ¬ n - e ≤ b by omega)] at ih
          rw [if_neg (show ¬ n - (e + 1) ≤ a by omega), if_pos (show n - (e + 1) ≤ b by omega)]
          split <;> omega
        · have hp : p (n - (e + 1)) = false := by
            cases hp : p (n - (e + 1)) with
            | false => rfl
            | true => exact absurd (h _ (by omega) hp) (by omega)
          rw [hp, if_neg (by decide)]
          have q1 : (n - (e + 1) ≤ a) = (n - e ≤ a) := propext ⟨fun h => by omega, fun h => by omega⟩
          have q2 : (n - (e + 1) ≤ b) = (n - e ≤ b) := propext ⟨fun h => by omega, fun h => by omega⟩
          simp only [q1, q2]
          omega
  have h := key n (Nat.le_refl n)
  split at h <;> split at h <;> omega
def psm (v : TV) (i k : Nat) : Bool := decide (v (13 + k) = v (13 + i))
def pnx (v : TV) (i k : Nat) : Bool := decide (v (13 + k) = v (13 + i) ∧ i < k)
def nxt (s : TS) (v : TV) (i : Nat) : Option Nat := match lstD (pnx v i) s.1 s.1 with
  | some q => some q
  | none => if 2 < cntD (psm v i) s.1 s.1 then lstD (psm v i) s.1 s.1 else none
theorem nxt_st {s : TS} {v : TV} {i q : Nat} (h : nxt s v i = some q) : v (13 + q) = v (13 + i) ∧ q < s.1 := by
  unfold nxt at h
  split at h
  · rename_i q2 h2
    cases h
    obtain ⟨h1, -, h3, -⟩ := lstD_some (Nat.le_refl _) h2
    unfold pnx at h1
    exact ⟨(of_decide_eq_true h1).1, h3⟩
  · split at h
    · obtain ⟨h1, -, h3, -⟩ := lstD_some (Nat.le_refl _) h
      unfold psm at h1
      exact ⟨of_decide_eq_true h1, h3⟩
    · cases h
/-- of a < b in one street: b is behind a just if nobody is between -/
theorem nxt_up {s : TS} {v : TV} {a b : Nat} (hab : a < b) (hb : b < s.1) (hs : v (13 + b) = v (13 + a)) : nxt s v a = some b ↔ ∀ k, a < k → k < b → v (13 + k) ≠ v (13 + a) := by
  unfold nxt
  have hex : ∃ q, lstD (pnx v a) s.1 s.1 = some q := by
    cases h : lstD (pnx v a) s.1 s.1 with
    | some q => exact ⟨q, rfl⟩
    | none =>
      have := lstD_none (Nat.le_refl _) h b (by omega) hb
      unfold pnx at this
      exact absurd ⟨hs, hab⟩ (of_decide_eq_false this)
  obtain ⟨q, hq⟩ := hex
  obtain ⟨h1, -, h3, h4⟩ := lstD_some (Nat.le_refl _) hq
  unfold pnx at h1 h4
  have h1 := of_decide_eq_true h1
  simp only [hq]
  constructor
  · intro h k g1 g2 g3
    cases h
    exact of_decide_eq_false (h4 k (by omega) g2) ⟨g3, g1⟩
  · intro h
    have : q = b := by
      by_cases e : q < b
      · exact absurd h1.1 (h q h1.2 e)
      · by_cases e2 : b < q
        · exact absurd ⟨hs, hab⟩ (of_decide_eq_false (h4 b (by omega) e2))
        · omega
    rw [this]
/-- of a < b in one street: a is behind b just if nobody is outside, and they are three -/
theorem nxt_dn {s : TS} {v : TV} {a b : Nat} (hab : a < b) (hb : b < s.1) (hs : v (13 + b) = v (13 + a)) : nxt s v b = some a ↔ (∀ k, k < s.1 → v (13 + k) = v (13 + a) → a ≤ k ∧ k ≤ b) ∧ ∃ k, a < k ∧ k < b ∧ v (13 + k) = v (13 + a) := by
  unfold nxt
  constructor
  · intro h
    split at h
    · rename_i q hq
      cases h
      obtain ⟨h1, -, -, -⟩ := lstD_some (Nat.le_refl _) hq
      unfold pnx at h1
      have := (of_decide_eq_true h1).2
      omega
    · rename_i hn
      split at h
      · rename_i h3
        obtain ⟨g1, -, g3, g4⟩ := lstD_some (Nat.le_refl _) h
        have hout : ∀ k, k < s.1 → v (13 + k) = v (13 + a) → a ≤ k ∧ k ≤ b := by
          intro k hk hks
          refine ⟨Nat.le_of_not_lt fun q => ?_, Nat.le_of_not_lt fun q => ?_⟩
          · have := g4 k (by omega) q
            unfold psm at this
            exact of_decide_eq_false this (by rw [hks, hs])
          · have := lstD_none (Nat.le_refl _) hn k (by omega) hk
            unfold pnx at this
            exact of_decide_eq_false this ⟨by rw [hks, hs], q⟩
        refine ⟨hout, ?_⟩
        apply Classical.byContradiction
        intro hno
        have : cntD (psm v b) s.1 s.1 ≤ 2 := cntD_2 (a := a) (b := b) (fun k hk hp => by
          unfold psm at hp
          have hp := of_decide_eq_true hp
          have h9 := hout k hk (by rw [hp, hs])
          by_cases e1 : k = a
          · exact Or.inl e1
          · by_cases e2 : k = b
            · exact Or.inr e2
            · exact absurd ⟨k, by omega, by omega, by rw [hp, hs]⟩ hno) hab
        omega
      · cases h
  · rintro ⟨hout, k, k1, k2, k3⟩
    have hn : lstD (pnx v b) s.1 s.1 = none := by
      cases h : lstD (pnx v b) s.1 s.1 with
      | none => rfl
      | some q =>
        obtain ⟨h1, -, h3, -⟩ := lstD_some (Nat.le_refl _) h
        unfold pnx at h1
        have h1 := of_decide_eq_true h1
        have := (hout q h3 (by rw [h1.1, hs])).2
        omega
    simp only [hn]
    have h3 : 2 < cntD (psm v b) s.1 s.1 := cntD_3 (a := a) (b := k) (c := b) (by unfold psm; exact decide_eq_true (by rw [hs])) (by unfold psm; exact decide_eq_true (by rw [k3, hs])) (by unfold psm; exact decide_eq_true rfl) hb k1 k2
    rw [if_pos h3]
    cases h : lstD (psm v b) s.1 s.1 with
    | none =>
      have := lstD_none (Nat.le_refl _) h b (by omega) hb
      unfold psm at this
      exact absurd rfl (of_decide_eq_false this)
    | some q =>
      obtain ⟨h1, -, h5, h6⟩ := lstD_some (Nat.le_refl _) h
      unfold psm at h1 h6
      have h1 := of_decide_eq_true h1
      have h7 := (hout q h5 (by rw [h1, hs])).1
      by_cases e : q = a
      · rw [e]
      · exact absurd (by rw [hs]) (of_decide_eq_false (h6 a (by omega) (by omega)))
theorem met_nxt {s : TS} {v : TV} {i : Nat} (hi : i < s.1) (hf : s.2.2.2 i < s.1) : met s v i ↔ s.2.2.2 i ≠ i ∧ (nxt s v i = some (s.2.2.2 i) ∨ nxt s v (s.2.2.2 i) = some i) := by
  unfold met
  generalize hj : s.2.2.2 i = j at *
  refine and_congr_right fun hne => ?_
  by_cases hs : v (13 + j) = v (13 + i)
  case neg =>
    constructor
    · exact fun h => absurd h.1 hs
    · rintro (h | h)
      · exact absurd (nxt_st h).1 hs
      · exact absurd (nxt_st h).1.symm hs
  have hb : anyU (pbt s v i) s.1 = false ↔ ∀ k, min i j < k → k < max i j → v (13 + k) ≠ v (13 + i) := by
    rw [anyU_f]
    unfold pbt
    constructor
    · intro h k h1 h2 h3
      exact of_decide_eq_false (h k (by omega)) ⟨h3, by omega, by omega, by rw [hj]; exact ⟨h1, h2⟩⟩
    · intro h k hk
      refine decide_eq_false fun ⟨h3, h4, h5, h6⟩ => ?_
      rw [hj] at h6
      exact h k h6.1 h6.2 h3
  have ho : anyU (pou s v i) s.1 = false ↔ ∀ k, k < s.1 → v (13 + k) = v (13 + i) → min i j ≤ k ∧ k ≤ max i j := by
    rw [anyU_f]
    unfold pou
    constructor
    · intro h k h1 h2
      have h3 := of_decide_eq_false (h k h1)
      rw [hj] at h3
      by_cases e1 : k = i
      · omega
      · by_cases e2 : k = j
        · omega
        · have : min i j < k ∧ k < max i j := Classical.byContradiction fun q => h3 ⟨h2, e1, e2, q⟩
          omega
    · intro h k hk
      refine decide_eq_false fun ⟨h3, h4, h5, h6⟩ => ?_
      have := h k hk h3
      rw [hj] at h5 h6
      omega
  rw [hb, ho]
  rcases Nat.lt_or_gt_of_ne hne with hlt | hlt
  · rw [nxt_up hlt hi hs.symm, nxt_dn hlt hi hs.symm, show min i j = j by omega, show max i j = i by omega, hs]
    constructor
    · rintro ⟨-, h | h⟩
      · exact Or.inr h
      · by_cases hex : ∃ k, j < k ∧ k < i ∧ v (13 + k) = v (13 + i)
        · exact Or.inl ⟨h, hex⟩
        · exact Or.inr fun k h1 h2 h3 => hex ⟨k, h1, h2, h3⟩
    · rintro (h | h)
      · exact ⟨rfl, Or.inr h.1⟩
      · exact ⟨rfl, Or.inl h⟩
  · rw [nxt_up hlt hf hs, nxt_dn hlt hf hs, show min i j = i by omega, show max i j = j by omega]
    constructor
    · rintro ⟨-, h | h⟩
      · exact Or.inl h
      · by_cases hex : ∃ k, i < k ∧ k < j ∧ v (13 + k) = v (13 + i)
        · exact Or.inr ⟨h, hex⟩
        · exact Or.inl fun k h1 h2 h3 => hex ⟨k, h1, h2, h3⟩
    · rintro (h | h)
      · exact ⟨hs, Or.inl h⟩
      · exact ⟨hs, Or.inr h.1⟩
