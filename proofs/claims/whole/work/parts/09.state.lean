/-! WHAT A STATE IS: answers (A), rows and texts (D). -/
/-- told, latest finding, upper, lower, how often each finding came -/
abbrev AA : Type := Int32 × Int32 × Int64 × Int64 × (Nat → Int32)
/-- sizes of rows, their places; sizes of texts, their bytes -/
abbrev DD : Type := (Nat → Option Nat) × (Nat → Nat → Int32) × (Nat → Option Nat) × (Nat → Nat → Int32)
def szv (o : Option Nat) : Int32 := match o with
  | none => -1
  | some k => nI k
def CA (X : Nat) (A : AA) (iv : IV) (lv : LV) : Prop := iv X 8 = A.1 ∧ iv X 7 = A.2.1 ∧ lv X 9 = A.2.2.1 ∧ lv X 10 = A.2.2.2.1 ∧ ∀ f, f < 6 → iv (X + 57) f = A.2.2.2.2 f
def MA (M : Nat) (A : AA) (iv : IV) (lv : LV) : Prop := iv M 0 = A.1 ∧ iv M 3 = A.2.1 ∧ lv M 1 = A.2.2.1 ∧ lv M 2 = A.2.2.2.1 ∧ ∀ f, f < 6 → iv (M + 1) f = A.2.2.2.2 f
def WD (D : DD) : Prop := (∀ r, r < 6 → ∀ k, D.1 r = some k → k ≤ 40) ∧ ∀ t, t < 4 → ∀ k, D.2.2.1 t = some k → k ≤ 60
def CD (X : Nat) (D : DD) (iv : IV) : Prop := (∀ r, r < 6 → iv (X + (58 + 2 * r)) 1 = szv (D.1 r)) ∧ (∀ r i, r < 6 → i < 40 → iv (X + (58 + 2 * r) + 1) i = D.2.1 r i) ∧ (∀ t, t < 4 → iv (X + (70 + 2 * t)) 1 = szv (D.2.2.1 t)) ∧ ∀ t i, t < 4 → i < 60 → iv (X + (70 + 2 * t) + 1) i = D.2.2.2 t i
def MD (M : Nat) (D : DD) (iv : IV) : Prop := (∀ r, r < 6 → iv (M + 2) r = szv (D.1 r)) ∧ (∀ r i, r < 6 → i < 40 → iv (M + 3) (40 * r + i) = D.2.1 r i) ∧ (∀ t, t < 4 → iv (M + 5) t = szv (D.2.2.1 t)) ∧ ∀ t i, t < 4 → i < 60 → iv (M + 6) (60 * t + i) = D.2.2.2 t i
abbrev bad (r : Int32) (k : Nat) : Prop := ¬ (0 ≤ r ∧ r < nI k)
def ix (r : Int32) : Nat := r.toNatClampNeg
theorem ix_nI {j : Nat} (h : j < 2 ^ 31) : ix (nI j) = j := nI_clamp h
theorem nbad {j k : Nat} (h : j < k) (hk : k < 2 ^ 31) : ¬ bad (nI j) k := fun q => q ⟨nI_pos' (by omega), nI_lt h hk⟩
theorem bad_ge {j k : Nat} (h : k ≤ j) (hj : j < 2 ^ 31) : bad (nI j) k := fun q => absurd q.2 (nI_nlt h hj)
theorem ix_of {r : Int32} {k : Nat} (h : ¬ bad r k) (hk : k < 2 ^ 31) : ∃ j, j < k ∧ r = nI j := by
  have h : 0 ≤ r ∧ r < nI k := Decidable.not_not.mp h
  rcases pk_ix r hk with q | q | q
  · exact absurd h.1 (Int32.not_le.mpr q)
  · exact absurd h.2 (Int32.not_lt.mpr q)
  · exact q
theorem zi_of {r : Int32} {k : Nat} (h : ¬ zI (0 ≤ r ∧ r < nI k) = 0) (hk : k < 2 ^ 31) : ∃ j, j < k ∧ r = nI j := ix_of (fun q => q (zI_n0.mp h)) hk
theorem zi_bad {r : Int32} {k : Nat} (h : zI (0 ≤ r ∧ r < nI k) = 0) : bad r k := zI_0.mp h
/-- an int that isn't negative and not above -/
theorem ix_le {n : Int32} {k : Nat} (h : ¬ n < 0) (h2 : ¬ nI k < n) (hk : k < 2 ^ 31) : ∃ j, j ≤ k ∧ n = nI j := nI_of2 (nI_toInt hk) h (Int32.not_lt.mp h2)
theorem i32_le_ge {a b : Int32} (h : ¬ a ≤ b) : b < a := Int32.not_le.mp h
theorem szv_neg {o : Option Nat} (h : szv o < 0) (hk : ∀ k, o = some k → k < 2 ^ 31) : o = none := by
  cases o with
  | none => rfl
  | some k => exact absurd h (nI_pos (hk k rfl))
theorem szv_pos {o : Option Nat} (h : ¬ szv o < 0) : ∃ k, o = some k := by
  cases o with
  | none => exact absurd (by decide) h
  | some k => exact ⟨k, rfl⟩
def fnd (A : AA) (f : Nat) : AA := (A.1, nI f, A.2.2.1, A.2.2.2.1, upd A.2.2.2.2 f (A.2.2.2.2 f + nI 1))
def tel (A : AA) (v : Int32) : AA := (v, A.2)
def dSz (D : DD) (r : Nat) (o : Option Nat) : DD := (va_up D.1 r o, D.2)
def dRw (D : DD) (r : Nat) (g : Nat → Int32) : DD := (D.1, va_up D.2.1 r g, D.2.2)
def dTz (D : DD) (t : Nat) (o : Option Nat) : DD := (D.1, D.2.1, va_up D.2.2.1 t o, D.2.2.2)
def dTx (D : DD) (t : Nat) (g : Nat → Int32) : DD := (D.1, D.2.1, D.2.2.1, va_up D.2.2.2 t g)
abbrev OR : Type := Int32 × AA × DD
def oRow (A : AA) (D : DD) (r n : Int32) : OR := if bad r 6 ∨ nI 40 < n then (-1, A, D) else if n < 0 then (-3, fnd A 5, D) else (n, A, dRw (dSz D (ix r) (some (ix n))) (ix r) (fun _ => 0))
def oText (A : AA) (D : DD) (r n : Int32) : OR := if bad r 4 ∨ nI 60 < n then (-1, A, D) else if n < 0 then (-3, fnd A 5, D) else (n, A, dTx (dTz D (ix r) (some (ix n))) (ix r) (fun _ => nI 32))
def oLay (A : AA) (D : DD) (r i v : Int32) : OR := if bad r 6 then (-1, A, D) else match D.1 (ix r) with
  | none => (-3, fnd A 1, D)
  | some k => if bad i k then (-3, fnd A 2, D) else (1, tel A (D.2.1 (ix r) (ix i)), dRw D (ix r) (upd (D.2.1 (ix r)) (ix i) v))
def oAt (A : AA) (D : DD) (r i : Int32) : OR := if bad r 6 then (-1, A, D) else match D.1 (ix r) with
  | none => (-3, fnd A 1, D)
  | some k => if bad i k then (-3, fnd A 2, D) else (1, tel A (D.2.1 (ix r) (ix i)), D)
def oTear (A : AA) (D : DD) (r : Int32) : OR := if bad r 6 then (-1, A, D) else match D.1 (ix r) with
  | none => (-3, fnd A 1, D)
  | some _ => (1, A, dSz D (ix r) none)
def oPut (A : AA) (D : DD) (t i v : Int32) : OR := if bad t 4 then (-1, A, D) else match D.2.2.1 (ix t) with
  | none => (-3, fnd A 1, D)
  | some k => if bad i k then (-3, fnd A 2, D) else (D.2.2.2 (ix t) (ix i) + nI 1000, A, dTx D (ix t) (upd (D.2.2.2 (ix t)) (ix i) v.toInt8.toInt32))
def oCopy (A : AA) (D : DD) (r i t j n : Int32) : OR := if bad r 6 ∨ bad t 6 then (-1, A, D) else if n < 0 then (-3, fnd A 5, D) else match D.1 (ix r), D.1 (ix t) with
  | some k, some k2 => if i < 0 ∨ j < 0 ∨ k < ix i + ix n ∨ k2 < ix j + ix n then (-3, fnd A 2, D) else (1, A, dRw D (ix t) (va_cpy (D.2.1 (ix r)) (D.2.1 (ix t)) (ix i) (ix j) (ix n)))
  | _, _ => (-3, fnd A 1, D)
def lsum (g : Nat → Int32) : Nat → Int64
  | 0 => 0
  | k + 1 => lsum g k + (g k).toInt64
def oMean (A : AA) (D : DD) (r : Int32) : OR := if bad r 6 then (-1, A, D) else match D.1 (ix r) with
  | none => (-3, fnd A 1, D)
  | some 0 => (-3, fnd A 4, D)
  | some (k + 1) => (1, tel A (lsum (D.2.1 (ix r)) (k + 1) / (nI (k + 1)).toInt64).toInt32, D)
/-- what an op on rows and texts may change -/
def PA (X a : Nat) : Prop := a = X ∨ a = X + 57 ∨ (X + 58 ≤ a ∧ a < X + 78)
def PMA (M a : Nat) : Prop := M ≤ a ∧ a < M + 9
def QX (X : Nat) (iv : IV) (lv : LV) (o : OR) (v : Int32) (i : IV) (l : LV) : Prop := v = o.1 ∧ CA X o.2.1 i l ∧ CD X o.2.2 i ∧ (∀ a, ¬ PA X a → i a = iv a) ∧ l = lv
def QMo (M : Nat) (iv : IV) (lv : LV) (o : OR) (v : Int32) (i : IV) (l : LV) : Prop := v = o.1 ∧ MA M o.2.1 i l ∧ MD M o.2.2 i ∧ (∀ a, ¬ PMA M a → i a = iv a) ∧ i M 14 = iv M 14 ∧ i M 20 = iv M 20 ∧ l = lv
theorem va_up_s {α : Type} {f : Nat → α} {k : Nat} {v : α} : va_up f k v k = v := if_pos rfl
theorem va_up_n {α : Type} {f : Nat → α} {j k : Nat} {v : α} (h : j ≠ k) : va_up f k v j = f j := if_neg h
