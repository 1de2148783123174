/-! THE FLAT MACHINE. A world is an interval of cells from B on; each has a tag and a length, slots that are ints, longs or references; all of a method's steps are said over these alone. -/
abbrev IV : Type := Nat → Nat → Int32
abbrev LV : Type := Nat → Nat → Int64
/-- shapes: the heap's size; a cell's tag and length; its references -/
abbrev SH : Type := Nat × (Nat → Nat × Nat) × (Nat → Nat → Option Nat)
/-- launch, classes, slots, array classes, the world's first cell, the letters' cell -/
abbrev GC : Type := Launch × (Nat → ClassId) × (Nat → Nat → Nat) × (Nat → ClassId) × Nat × Nat
abbrev gL (G : GC) : Launch := G.1
abbrev gD (G : GC) : va_G := (G.2.1, G.2.2.1)
abbrev gA (G : GC) : Nat → ClassId := G.2.2.2.1
abbrev gB (G : GC) : Nat := G.2.2.2.2.1
abbrev gT (G : GC) : Nat := G.2.2.2.2.2
def tyT (t k : Nat) : FieldType := match t with
  | 3 => tyX3 k | 5 => tyX5 k | 7 => tyX7 k | 9 => tyX9 k | 10 => tyX10 k | 11 => tyX11 k | _ => .int
def nF (t : Nat) : Nat := match t with
  | 3 => 10 | 5 => 2 | 7 => 2 | 9 => 16 | 10 => 11 | 11 => 29 | _ => 0
def fv (rf : Nat → Nat → Option Nat) (iv : IV) (lv : LV) (t a k : Nat) : Value := match tyT t k with
  | .int => .int (iv a k) | .long => .long (lv a k) | _ => va_rf (rf a k)
def ce (dT : Nat → ClassId) (E : SH) (iv : IV) (lv : LV) (a : Nat) : va_E :=
  if (E.2.1 a).1 < 20 then .inr ((E.2.1 a).1, (List.range (nF (E.2.1 a).1)).map (fv E.2.2 iv lv (E.2.1 a).1 a))
  else .inl (dT ((E.2.1 a).1 - 20), (E.2.1 a).2, if (E.2.1 a).1 < 22 then .inl (iv a) else .inr (.inr (.inr (.inr (E.2.2 a)))))
def tysA (dT : Nat → ClassId) : List (ClassId × FieldType) := [(dT 0, .int), (dT 1, .byte), (dT 2, .object RX7), (dT 3, .object RX9), (dT 4, .object RX2), (dT 5, .array .int)]
/-- the letters of the kinds -/
def LT (j : Nat) : Int32 := match j with
  | 0 => 110 | 1 => 100 | 2 => 115 | 3 => 104 | 4 => 112 | _ => 98
/-- which kinds are none of which -/
def ncL : List (String × String) := [(RX2, RX1), (RX2, RX8), (RX2, RX6), (RX2, RX4), (RX2, RX0), (RX1, RX8), (RX1, RX6), (RX1, RX4), (RX1, RX0), (RX8, RX1), (RX8, RX6), (RX8, RX4), (RX8, RX0), (RX6, RX1), (RX6, RX8), (RX6, RX4), (RX6, RX0), (RX4, RX8), (RX4, RX6), (RX4, RX0), (RX0, RX1), (RX0, RX6), (RX0, RX4)]
/-- which kinds are which; the arrays that are made -/
def ycL : List (String × String) := [(RX4, RX1), (RX0, RX8), (RX1, RX2), (RX8, RX2), (RX6, RX2), (RX4, RX2), (RX0, RX2)]
def aoL : List String := [RX7, RX9, RX2]
def AI (s : State) : Prop := (Cond.arrayOver (.array .int)).before #[] s = true
theorem AI.moved {u U : State} (hvm : u.vm.Alike U.vm) (h : AI u) : AI U := by
  unfold AI Cond.before Cond.holds at h
  simp only [Cond.value, beq_iff_eq] at h
  cases hc : u.vm.findClass (FieldType.array FieldType.int).toString with
  | none => simp [hc] at h
  | some comp =>
    simp only [hc, Option.bind_some, Option.bind_eq_some_iff, Option.map_eq_some_iff] at h
    obtain ⟨c, hi, k, hk, hb⟩ := h
    obtain ⟨k', hk', he⟩ := hvm.2.2 _ _ hk
    have hi2 : (U.vm.classes.findIdx? fun (x : Class) => match x.kind with | .array component _ => component == comp | _ => false) = some c := by
      refine (va_idx_bare U.vm comp).symm.trans ?_
      first | rw [hvm.bare_eq] | rw [← hvm.bare_eq]
      exact (va_idx_bare u.vm comp).trans hi
    cases hkind : k.kind with
    | array component ty =>
      rw [hkind] at hb
      simp at hb
      have hkind2 : k'.kind = .array component (.array .int) := by rw [he, ← hb.1]; exact hkind
      have f1 : U.vm.findClass (FieldType.array FieldType.int).toString = some comp := by rw [hvm.findClass]; exact hc
      have f2 : U.vm.findClass ("[" ++ (FieldType.array FieldType.int).toString) = some c := by rw [hvm.findClass]; exact hb.2
      unfold AI Cond.before Cond.holds
      simp only [Cond.value]
      rw [f1, Option.bind_some]
      refine (congrArg (fun o : Option Nat => (o.bind (fun c => (U.vm.classes[c]?).map fun (k : Class) => match k.kind with | .array _ ty => decide (ty = FieldType.array FieldType.int) && decide (U.vm.findClass ("[" ++ (FieldType.array FieldType.int).toString) = some c) | _ => false) == some true)) hi2).trans ?_
      simp [hk', hkind2, f2]
    | _ => rw [hkind] at hb; simp at hb
/-- a nest mate's private methods may be called -/
def nS (s : State) : Prop := ∀ q ∈ nkL, va_Nw (.methodLinkNest q.1 q.2.1 q.2.2.1 q.2.2.2) s
def xC (s : State) : Prop := (∀ q ∈ ycL, va_Nw (.castable q.1 q.2) s) ∧ (∀ C ∈ aoL, va_AO C s) ∧ AI s ∧ nS s
theorem xC.moved {u U : State} (hv : u.vm.Alike U.vm) (hn : nS u → nS U) (h : xC u) : xC U := ⟨fun q hq => va_tabs rfl (rfl : (u.setVm U.vm).vm = U.vm) (by rw [Cond.castable_setVm hv]; exact h.1 q hq), fun C hC => (h.2.1 C hC).moved hv, h.2.2.1.moved hv, hn h.2.2.2⟩
def SF (G : GC) (s : State) (H : Heap) : Prop := va_Z RX5 "LETTERS" "[C" (.ref (gT G)) (fun q => gB G ≤ q) s H ∧ va_T .char (gT G) 6 (fun j => .int (LT j)) (fun q => gB G ≤ q) s H ∧ (∀ q ∈ ncL, va_Nc q.1 q.2 s) ∧ xC s
def wd (G : GC) (E : SH) (iv : IV) (lv : LV) (s : State) (H : Heap) : Prop :=
  va_K (gD G) vwCl (tysA (gA G)) s ∧ (∀ a, gB G ≤ a → a < E.1 → va_at (gD G) vwCl (a, ce (gA G) E iv lv a) H) ∧ H.size = E.1 ∧ gB G ≤ E.1
/-- a cell of the world: its tag, its length -/
def Sh (G : GC) (E : SH) (a t n : Nat) : Prop := gB G ≤ a ∧ a < E.1 ∧ E.2.1 a = (t, n)
/-- what the machine is at, in a method -/
def CX (μ : MI) (p : Program) (s : State) (m : MethodId) (args : Array Value) (meth : Method) (c : Code) : Prop :=
  p.tables.exec = Jvm.exec ∧ c.code = μ.2.1 ∧ c.maxLocals = μ.2.2.1 ∧ meth.sig.returnType = μ.2.2.2 ∧ meth.locks = false ∧ s.vm.findClass μ.1.cls = some m.cls ∧ (∀ w ∈ tb, w.before args s = true) ∧ meth.name = μ.1.name
def aL (ls : Array Slot) (lo : List (Option Value)) : Prop := ls.size = lo.length ∧ lv_wf ls ∧ ∀ (i : Nat) (v : Value), lo[i]? = some (some v) → ls[i]? = some (.val v)
def WQ (G : GC) (μ : MI) (X : State → Prop) (z0 : Nat) (lo : List (Option Value)) (E : SH) (iv : IV) (lv : LV) (s : State) (H : Heap) (locs : List Loc) (ls : Array Slot) : Prop :=
  X s ∧ s.heap.size = z0 ∧ gB G ≤ z0 ∧ SF G s s.heap ∧ wd G E iv lv s H ∧ va_S (fun q => gB G ≤ q) s.heap H locs ∧ aL ls lo ∧ lo.length = μ.2.2.1
/-- from here on it comes to Z -/
def AW (G : GC) (μ : MI) (R : Room) (Z : List Frame → Array Value → State → State → Prop) (X : State → Prop) (z0 : Nat) (pc : Nat) (lo : List (Option Value)) (st : List Value) (E : SH) (iv : IV) (lv : LV) : Prop :=
  ∀ (p : Program) (e : Jvm.Env) (s : State) (m : MethodId) (args : Array Value) (below : List Frame) (meth : Method) (c : Code) (H : Heap) (locs : List Loc) (ls : Array Slot),
    CX μ p s m args meth c → WQ G μ X z0 lo E iv lv s H locs ls → W p (gL G) e R s m args below meth c H locs (E.1 - z0) (2500 * (E.1 - z0)) (Z below args s) (F0 m pc ls st)
/-- storing into a local -/
def kp (lo : List (Option Value)) (i : Nat) : List (Option Value) := match i with
  | 0 => lo
  | j + 1 => match lo[j]? with
    | some (some w) => if w.category = 2 then lo.set j none else lo
    | _ => lo
def st1 (lo : List (Option Value)) (i : Nat) (v : Value) : List (Option Value) := (kp lo i).set i (some v)
def st2 (lo : List (Option Value)) (i : Nat) (v : Value) : List (Option Value) := ((kp lo i).set i (some v)).set (i + 1) none
def en : Nat → List (Option Value) → List (Nat × Value)
  | _, [] => []
  | i, none :: l => en (i + 1) l
  | i, some v :: l => (i, v) :: en (i + 1) l
theorem en_mem : ∀ (lo : List (Option Value)) (i0 : Nat) (q : Nat × Value), q ∈ en i0 lo ↔ ∃ j, lo[j]? = some (some q.2) ∧ q.1 = i0 + j
  | [], i0, q => by simp [en]
  | none :: l, i0, q => by
    rw [en, en_mem l (i0 + 1) q]
    constructor
    · rintro ⟨j, h1, h2⟩
      exact ⟨j + 1, by simpa using h1, by omega⟩
    · rintro ⟨j, h1, h2⟩
      cases j with
      | zero => simp at h1
      | succ j => exact ⟨j, by simpa using h1, by omega⟩
  | some v :: l, i0, q => by
    rw [en, List.mem_cons, en_mem l (i0 + 1) q]
    constructor
    · rintro (rfl | ⟨j, h1, h2⟩)
      · exact ⟨0, by simp, by simp⟩
      · exact ⟨j + 1, by simpa using h1, by omega⟩
    · rintro ⟨j, h1, h2⟩
      cases j with
      | zero =>
        left
        simp at h1
        obtain ⟨a, b⟩ := q
        simp at h1 h2
        rw [h1, h2]
      | succ j => exact Or.inr ⟨j, by simpa using h1, by omega⟩
theorem aL_has {ls : Array Slot} {lo : List (Option Value)} (h : aL ls lo) : lv_has ls lo.length (en 0 lo) := by
  refine ⟨h.1, h.2.1, fun q hq => ?_⟩
  obtain ⟨j, h1, h2⟩ := (en_mem lo 0 q).mp hq
  rw [h2, Nat.zero_add]
  exact h.2.2 j q.2 h1
theorem kp_length (lo : List (Option Value)) (i : Nat) : (kp lo i).length = lo.length := by
  unfold kp
  split
  · rfl
  · split
    · split <;> simp
    · rfl
theorem kp_at {lo : List (Option Value)} {i j : Nat} {w : Value} (h : (kp lo i)[j]? = some (some w)) : lo[j]? = some (some w) ∧ ¬ (j + 1 = i ∧ w.category = 2) := by
  unfold kp at h
  split at h
  · exact ⟨h, by omega⟩
  · rename_i k
    split at h
    · rename_i w' hw'
      split at h
      · by_cases e : k = j
        · subst e
          rw [List.getElem?_set_self (List.getElem?_eq_some_iff.mp hw').1] at h
          simp at h
        · rw [List.getElem?_set_ne e] at h
          exact ⟨h, by omega⟩
      · rename_i hc
        refine ⟨h, fun ⟨h1, h2⟩ => ?_⟩
        have e : j = k := by omega
        subst e
        rw [hw'] at h
        simp at h
        rw [h] at hc
        exact hc h2
    · rename_i hn
      refine ⟨h, fun ⟨h1, h2⟩ => ?_⟩
      have e : j = k := by omega
      subst e
      exact hn w h
theorem aL_st1 {ls : Array Slot} {lo : List (Option Value)} {i n : Nat} {v : Value} (hn : n = lo.length) (hi : i < n) (h : lv_has ls n ((i, v) :: (en 0 lo).filter (fun q => !(q.1 == i) && !(q.1 + 1 == i && q.2.category == 2)))) : aL ls (st1 lo i v) := by
  subst hn
  refine ⟨by rw [h.1, st1, List.length_set, kp_length], h.2.1, fun j w hj => ?_⟩
  unfold st1 at hj
  by_cases e : i = j
  · subst e
    rw [List.getElem?_set_self (by rw [kp_length]; exact hi)] at hj
    cases hj
    exact h.2.2 (i, v) List.mem_cons_self
  · rw [List.getElem?_set_ne e] at hj
    obtain ⟨h1, h2⟩ := kp_at hj
    refine h.2.2 (j, w) (List.mem_cons_of_mem _ (List.mem_filter.mpr ⟨(en_mem lo 0 (j, w)).mpr ⟨j, h1, by simp⟩, ?_⟩))
    simp only [Bool.and_eq_true, Bool.not_eq_true', beq_eq_false_iff_ne, ne_eq, Bool.and_eq_false_iff]
    refine ⟨fun q => e q.symm, ?_⟩
    by_cases f : j + 1 = i
    · exact Or.inr (fun q => h2 ⟨f, q⟩)
    · exact Or.inl f
theorem aL_st2 {ls : Array Slot} {lo : List (Option Value)} {i n : Nat} {v : Value} (hn : n = lo.length) (hi : i + 1 < n) (h : lv_has ls n ((i, v) :: (en 0 lo).filter (fun q => !(q.1 == i) && (!(q.1 == i + 1) && !(q.1 + 1 == i && q.2.category == 2))))) : aL ls (st2 lo i v) := by
  subst hn
  refine ⟨by rw [h.1, st2, List.length_set, List.length_set, kp_length], h.2.1, fun j w hj => ?_⟩
  unfold st2 at hj
  by_cases e1 : i + 1 = j
  · subst e1
    rw [List.getElem?_set_self (by rw [List.length_set, kp_length]; exact hi)] at hj
    cases hj
  · rw [List.getElem?_set_ne e1] at hj
    by_cases e : i = j
    · subst e
      rw [List.getElem?_set_self (by rw [kp_length]; omega)] at hj
      cases hj
      exact h.2.2 (i, v) List.mem_cons_self
    · rw [List.getElem?_set_ne e] at hj
      obtain ⟨h1, h2⟩ := kp_at hj
      refine h.2.2 (j, w) (List.mem_cons_of_mem _ (List.mem_filter.mpr ⟨(en_mem lo 0 (j, w)).mpr ⟨j, h1, by simp⟩, ?_⟩))
      simp only [Bool.and_eq_true, Bool.not_eq_true', beq_eq_false_iff_ne, ne_eq, Bool.and_eq_false_iff]
      refine ⟨fun q => e q.symm, fun q => e1 q.symm, ?_⟩
      by_cases f : j + 1 = i
      · exact Or.inr (fun q => h2 ⟨f, q⟩)
      · exact Or.inl f
section AWS
variable {G : GC} {μ : MI} {R : Room} {Z : List Frame → Array Value → State → State → Prop} {X : State → Prop} {z0 pc : Nat} {lo : List (Option Value)} {st : List Value} {E : SH} {iv : IV} {lv : LV}
theorem aw_iconst {n : Int} {v : Int32} (hd : decode μ.2.1 pc = .ok (.iconst n, 1)) (hv : Int32.ofInt n = v) (k : AW G μ R Z X z0 (pc + 1) lo (.int v :: st) E iv lv) : AW G μ R Z X z0 pc lo st E iv lv :=
  fun p e s m args below meth c H locs ls C q => lv_iconst C.1 C.2.1 hd hv (k p e s m args below meth c H locs ls C q)
theorem aw_bipush {n : Int} {v : Int32} (hd : decode μ.2.1 pc = .ok (.bipush n, 2)) (hv : (Int8.ofInt n).toInt32 = v) (k : AW G μ R Z X z0 (pc + 2) lo (.int v :: st) E iv lv) : AW G μ R Z X z0 pc lo st E iv lv :=
  fun p e s m args below meth c H locs ls C q => lv_bipush C.1 C.2.1 hd hv (k p e s m args below meth c H locs ls C q)
theorem aw_sipush {n : Int} {v : Int32} (hd : decode μ.2.1 pc = .ok (.sipush n, 3)) (hv : (Int16.ofInt n).toInt32 = v) (k : AW G μ R Z X z0 (pc + 3) lo (.int v :: st) E iv lv) : AW G μ R Z X z0 pc lo st E iv lv :=
  fun p e s m args below meth c H locs ls C q => lv_sipush C.1 C.2.1 hd hv (k p e s m args below meth c H locs ls C q)
theorem aw_lconst {n : Fin 2} {v : Int64} (hd : decode μ.2.1 pc = .ok (.lconst n, 1)) (hv : Int64.ofNat (n : Nat) = v) (k : AW G μ R Z X z0 (pc + 1) lo (.long v :: st) E iv lv) : AW G μ R Z X z0 pc lo st E iv lv :=
  fun p e s m args below meth c H locs ls C q => lv_lconst C.1 C.2.1 hd hv (k p e s m args below meth c H locs ls C q)
theorem aw_ldc {i : Nat} {v : Int32} (hd : decode μ.2.1 pc = .ok (.ldc i, 2)) (hw : Cond.constant μ.1.cls i v ∈ tb) (k : AW G μ R Z X z0 (pc + 2) lo (.int v :: st) E iv lv) : AW G μ R Z X z0 pc lo st E iv lv :=
  fun p e s m args below meth c H locs ls C q => lv_ldc C.1 C.2.1 C.2.2.2.2.2.1 (C.2.2.2.2.2.2.1 _ hw) hd (k p e s m args below meth c H locs ls C q)
theorem aw_ldc2 {i : Nat} {v : Int64} (hd : decode μ.2.1 pc = .ok (.ldc2_w i, 3)) (hw : Cond.constantLong μ.1.cls i v ∈ tb) (k : AW G μ R Z X z0 (pc + 3) lo (.long v :: st) E iv lv) : AW G μ R Z X z0 pc lo st E iv lv :=
  fun p e s m args below meth c H locs ls C q => lv_ldc2 C.1 C.2.1 C.2.2.2.2.2.1 (C.2.2.2.2.2.2.1 _ hw) hd (k p e s m args below meth c H locs ls C q)
theorem aw_iload_n {i : Fin 4} {x : Int32} (hd : decode μ.2.1 pc = .ok (.iload_n i, 1)) (hl : lo[(i : Nat)]? = some (some (.int x))) (k : AW G μ R Z X z0 (pc + 1) lo (.int x :: st) E iv lv) : AW G μ R Z X z0 pc lo st E iv lv :=
  fun p e s m args below meth c H locs ls C q => lv_iload_n C.1 C.2.1 hd rfl (q.2.2.2.2.2.2.1.2.2 _ _ hl) (k p e s m args below meth c H locs ls C q)
theorem aw_iload {i : Nat} {x : Int32} (hd : decode μ.2.1 pc = .ok (.iload i, 2)) (hl : lo[i]? = some (some (.int x))) (k : AW G μ R Z X z0 (pc + 2) lo (.int x :: st) E iv lv) : AW G μ R Z X z0 pc lo st E iv lv :=
  fun p e s m args below meth c H locs ls C q => lv_iload C.1 C.2.1 hd (q.2.2.2.2.2.2.1.2.2 _ _ hl) (k p e s m args below meth c H locs ls C q)
theorem aw_lload_n {i : Fin 4} {x : Int64} (hd : decode μ.2.1 pc = .ok (.lload_n i, 1)) (hl : lo[(i : Nat)]? = some (some (.long x))) (k : AW G μ R Z X z0 (pc + 1) lo (.long x :: st) E iv lv) : AW G μ R Z X z0 pc lo st E iv lv :=
  fun p e s m args below meth c H locs ls C q => lv_lload_n C.1 C.2.1 hd rfl (q.2.2.2.2.2.2.1.2.2 _ _ hl) (k p e s m args below meth c H locs ls C q)
theorem aw_lload {i : Nat} {x : Int64} (hd : decode μ.2.1 pc = .ok (.lload i, 2)) (hl : lo[i]? = some (some (.long x))) (k : AW G μ R Z X z0 (pc + 2) lo (.long x :: st) E iv lv) : AW G μ R Z X z0 pc lo st E iv lv :=
  fun p e s m args below meth c H locs ls C q => lv_lload C.1 C.2.1 hd (q.2.2.2.2.2.2.1.2.2 _ _ hl) (k p e s m args below meth c H locs ls C q)
theorem aw_aload_n {i : Fin 4} {x : Nat} (hd : decode μ.2.1 pc = .ok (.aload_n i, 1)) (hl : lo[(i : Nat)]? = some (some (.ref x))) (k : AW G μ R Z X z0 (pc + 1) lo (.ref x :: st) E iv lv) : AW G μ R Z X z0 pc lo st E iv lv :=
  fun p e s m args below meth c H locs ls C q => lv_aload_n C.1 C.2.1 hd rfl (q.2.2.2.2.2.2.1.2.2 _ _ hl) (k p e s m args below meth c H locs ls C q)
theorem aw_aload {i : Nat} {x : Nat} (hd : decode μ.2.1 pc = .ok (.aload i, 2)) (hl : lo[i]? = some (some (.ref x))) (k : AW G μ R Z X z0 (pc + 2) lo (.ref x :: st) E iv lv) : AW G μ R Z X z0 pc lo st E iv lv :=
  fun p e s m args below meth c H locs ls C q => lv_aload C.1 C.2.1 hd (q.2.2.2.2.2.2.1.2.2 _ _ hl) (k p e s m args below meth c H locs ls C q)
theorem WQ.to {lo' : List (Option Value)} {s : State} {H : Heap} {locs : List Loc} {ls ls' : Array Slot} (q : WQ G μ X z0 lo E iv lv s H locs ls) (h : aL ls' lo') (hn : lo'.length = lo.length) : WQ G μ X z0 lo' E iv lv s H locs ls' :=
  ⟨q.1, q.2.1, q.2.2.1, q.2.2.2.1, q.2.2.2.2.1, q.2.2.2.2.2.1, h, hn.trans q.2.2.2.2.2.2.2⟩
theorem st1_length (lo : List (Option Value)) (i : Nat) (v : Value) : (st1 lo i v).length = lo.length := by rw [st1, List.length_set, kp_length]
theorem st2_length (lo : List (Option Value)) (i : Nat) (v : Value) : (st2 lo i v).length = lo.length := by rw [st2, List.length_set, List.length_set, kp_length]
theorem aw_istore_n {i : Fin 4} {x : Int32} {lo' : List (Option Value)} (hd : decode μ.2.1 pc = .ok (.istore_n i, 1)) (hi : (i : Nat) < lo.length) (hl : st1 lo i (.int x) = lo') (k : AW G μ R Z X z0 (pc + 1) lo' st E iv lv) : AW G μ R Z X z0 pc lo (.int x :: st) E iv lv :=
  fun p e s m args below meth c H locs ls C q => lv_istore_n (nL := lo.length) C.1 C.2.1 hd rfl (aL_has q.2.2.2.2.2.2.1) hi rfl (fun ls' h => k p e s m args below meth c H locs ls' C (by subst hl; exact q.to (aL_st1 rfl hi h) (st1_length _ _ _)))
theorem aw_istore {i : Nat} {x : Int32} {lo' : List (Option Value)} (hd : decode μ.2.1 pc = .ok (.istore i, 2)) (hi : i < lo.length) (hl : st1 lo i (.int x) = lo') (k : AW G μ R Z X z0 (pc + 2) lo' st E iv lv) : AW G μ R Z X z0 pc lo (.int x :: st) E iv lv :=
  fun p e s m args below meth c H locs ls C q => lv_istore (nL := lo.length) C.1 C.2.1 hd (aL_has q.2.2.2.2.2.2.1) hi rfl (fun ls' h => k p e s m args below meth c H locs ls' C (by subst hl; exact q.to (aL_st1 rfl hi h) (st1_length _ _ _)))
theorem aw_astore_n {i : Fin 4} {x : Nat} {lo' : List (Option Value)} (hd : decode μ.2.1 pc = .ok (.astore_n i, 1)) (hi : (i : Nat) < lo.length) (hl : st1 lo i (.ref x) = lo') (k : AW G μ R Z X z0 (pc + 1) lo' st E iv lv) : AW G μ R Z X z0 pc lo (.ref x :: st) E iv lv :=
  fun p e s m args below meth c H locs ls C q => lv_astore_n (nL := lo.length) C.1 C.2.1 hd rfl (aL_has q.2.2.2.2.2.2.1) hi rfl (fun ls' h => k p e s m args below meth c H locs ls' C (by subst hl; exact q.to (aL_st1 rfl hi h) (st1_length _ _ _)))
theorem aw_astore {i : Nat} {x : Nat} {lo' : List (Option Value)} (hd : decode μ.2.1 pc = .ok (.astore i, 2)) (hi : i < lo.length) (hl : st1 lo i (.ref x) = lo') (k : AW G μ R Z X z0 (pc + 2) lo' st E iv lv) : AW G μ R Z X z0 pc lo (.ref x :: st) E iv lv :=
  fun p e s m args below meth c H locs ls C q => lv_astore (nL := lo.length) C.1 C.2.1 hd (aL_has q.2.2.2.2.2.2.1) hi rfl (fun ls' h => k p e s m args below meth c H locs ls' C (by subst hl; exact q.to (aL_st1 rfl hi h) (st1_length _ _ _)))
theorem aw_lstore_n {i : Fin 4} {x : Int64} {lo' : List (Option Value)} (hd : decode μ.2.1 pc = .ok (.lstore_n i, 1)) (hi : (i : Nat) + 1 < lo.length) (hl : st2 lo i (.long x) = lo') (k : AW G μ R Z X z0 (pc + 1) lo' st E iv lv) : AW G μ R Z X z0 pc lo (.long x :: st) E iv lv :=
  fun p e s m args below meth c H locs ls C q => lv_lstore_n (nL := lo.length) C.1 C.2.1 hd rfl (aL_has q.2.2.2.2.2.2.1) hi rfl (fun ls' h => k p e s m args below meth c H locs ls' C (by subst hl; exact q.to (aL_st2 rfl hi h) (st2_length _ _ _)))
theorem aw_lstore {i : Nat} {x : Int64} {lo' : List (Option Value)} (hd : decode μ.2.1 pc = .ok (.lstore i, 2)) (hi : i + 1 < lo.length) (hl : st2 lo i (.long x) = lo') (k : AW G μ R Z X z0 (pc + 2) lo' st E iv lv) : AW G μ R Z X z0 pc lo (.long x :: st) E iv lv :=
  fun p e s m args below meth c H locs ls C q => lv_lstore (nL := lo.length) C.1 C.2.1 hd (aL_has q.2.2.2.2.2.2.1) hi rfl (fun ls' h => k p e s m args below meth c H locs ls' C (by subst hl; exact q.to (aL_st2 rfl hi h) (st2_length _ _ _)))
theorem aw_iinc {i : Nat} {n : Int} {x v : Int32} {lo' : List (Option Value)} (hd : decode μ.2.1 pc = .ok (.iinc i n, 3)) (hg : lo[i]? = some (some (.int x))) (hv : x + Int32.ofInt n = v) (hl : st1 lo i (.int v) = lo') (k : AW G μ R Z X z0 (pc + 3) lo' st E iv lv) : AW G μ R Z X z0 pc lo st E iv lv :=
  fun p e s m args below meth c H locs ls C q => by
    have hi : i < lo.length := (List.getElem?_eq_some_iff.mp hg).1
    obtain ⟨k0, hk0⟩ := List.getElem?_of_mem ((en_mem lo 0 (i, .int x)).mpr ⟨i, hg, by simp⟩)
    exact lv_iinc (nL := lo.length) C.1 C.2.1 hd (aL_has q.2.2.2.2.2.2.1) hk0 hv hi rfl (fun ls' h => k p e s m args below meth c H locs ls' C (by subst hl; exact q.to (aL_st1 rfl hi h) (st1_length _ _ _)))
theorem aw_iadd {x y : Int32} (hd : decode μ.2.1 pc = .ok (.iadd, 1)) (k : AW G μ R Z X z0 (pc + 1) lo (.int (x + y) :: st) E iv lv) : AW G μ R Z X z0 pc lo (.int y :: .int x :: st) E iv lv :=
  fun p e s m args below meth c H locs ls C q => lv_iadd C.1 C.2.1 hd (k p e s m args below meth c H locs ls C q)
theorem aw_isub {x y : Int32} (hd : decode μ.2.1 pc = .ok (.isub, 1)) (k : AW G μ R Z X z0 (pc + 1) lo (.int (x - y) :: st) E iv lv) : AW G μ R Z X z0 pc lo (.int y :: .int x :: st) E iv lv :=
  fun p e s m args below meth c H locs ls C q => lv_isub C.1 C.2.1 hd (k p e s m args below meth c H locs ls C q)
theorem aw_imul {x y : Int32} (hd : decode μ.2.1 pc = .ok (.imul, 1)) (k : AW G μ R Z X z0 (pc + 1) lo (.int (x * y) :: st) E iv lv) : AW G μ R Z X z0 pc lo (.int y :: .int x :: st) E iv lv :=
  fun p e s m args below meth c H locs ls C q => lv_imul C.1 C.2.1 hd (k p e s m args below meth c H locs ls C q)
theorem aw_iand {x y : Int32} (hd : decode μ.2.1 pc = .ok (.iand, 1)) (k : AW G μ R Z X z0 (pc + 1) lo (.int (x &&& y) :: st) E iv lv) : AW G μ R Z X z0 pc lo (.int y :: .int x :: st) E iv lv :=
  fun p e s m args below meth c H locs ls C q => lv_iand C.1 C.2.1 hd (k p e s m args below meth c H locs ls C q)
theorem aw_ior {x y : Int32} (hd : decode μ.2.1 pc = .ok (.ior, 1)) (k : AW G μ R Z X z0 (pc + 1) lo (.int (x ||| y) :: st) E iv lv) : AW G μ R Z X z0 pc lo (.int y :: .int x :: st) E iv lv :=
  fun p e s m args below meth c H locs ls C q => lv_ior C.1 C.2.1 hd (k p e s m args below meth c H locs ls C q)
theorem aw_ishl {x y : Int32} (hd : decode μ.2.1 pc = .ok (.ishl, 1)) (k : AW G μ R Z X z0 (pc + 1) lo (.int (x <<< (y &&& 31)) :: st) E iv lv) : AW G μ R Z X z0 pc lo (.int y :: .int x :: st) E iv lv :=
  fun p e s m args below meth c H locs ls C q => lv_ishl C.1 C.2.1 hd (k p e s m args below meth c H locs ls C q)
theorem aw_ishr {x y : Int32} (hd : decode μ.2.1 pc = .ok (.ishr, 1)) (k : AW G μ R Z X z0 (pc + 1) lo (.int (x >>> (y &&& 31)) :: st) E iv lv) : AW G μ R Z X z0 pc lo (.int y :: .int x :: st) E iv lv :=
  fun p e s m args below meth c H locs ls C q => lv_ishr C.1 C.2.1 hd (k p e s m args below meth c H locs ls C q)
theorem aw_idiv {x y : Int32} (hd : decode μ.2.1 pc = .ok (.idiv, 1)) (hn : ¬ y = 0) (k : AW G μ R Z X z0 (pc + 1) lo (.int (x / y) :: st) E iv lv) : AW G μ R Z X z0 pc lo (.int y :: .int x :: st) E iv lv :=
  fun p e s m args below meth c H locs ls C q => lv_idiv C.1 C.2.1 hd hn (k p e s m args below meth c H locs ls C q)
theorem aw_irem {x y : Int32} (hd : decode μ.2.1 pc = .ok (.irem, 1)) (hn : ¬ y = 0) (k : AW G μ R Z X z0 (pc + 1) lo (.int (x - x / y * y) :: st) E iv lv) : AW G μ R Z X z0 pc lo (.int y :: .int x :: st) E iv lv :=
  fun p e s m args below meth c H locs ls C q => lv_irem C.1 C.2.1 hd hn (k p e s m args below meth c H locs ls C q)
theorem aw_ladd {x y : Int64} (hd : decode μ.2.1 pc = .ok (.ladd, 1)) (k : AW G μ R Z X z0 (pc + 1) lo (.long (x + y) :: st) E iv lv) : AW G μ R Z X z0 pc lo (.long y :: .long x :: st) E iv lv :=
  fun p e s m args below meth c H locs ls C q => lv_ladd C.1 C.2.1 hd (k p e s m args below meth c H locs ls C q)
theorem aw_lmul {x y : Int64} (hd : decode μ.2.1 pc = .ok (.lmul, 1)) (k : AW G μ R Z X z0 (pc + 1) lo (.long (x * y) :: st) E iv lv) : AW G μ R Z X z0 pc lo (.long y :: .long x :: st) E iv lv :=
  fun p e s m args below meth c H locs ls C q => lv_lmul C.1 C.2.1 hd (k p e s m args below meth c H locs ls C q)
theorem aw_ldiv {x y : Int64} (hd : decode μ.2.1 pc = .ok (.ldiv, 1)) (hn : ¬ y = 0) (k : AW G μ R Z X z0 (pc + 1) lo (.long (x / y) :: st) E iv lv) : AW G μ R Z X z0 pc lo (.long y :: .long x :: st) E iv lv :=
  fun p e s m args below meth c H locs ls C q => lv_ldiv C.1 C.2.1 hd hn (k p e s m args below meth c H locs ls C q)
theorem aw_lrem {x y : Int64} (hd : decode μ.2.1 pc = .ok (.lrem, 1)) (hn : ¬ y = 0) (k : AW G μ R Z X z0 (pc + 1) lo (.long (x - x / y * y) :: st) E iv lv) : AW G μ R Z X z0 pc lo (.long y :: .long x :: st) E iv lv :=
  fun p e s m args below meth c H locs ls C q => lv_lrem C.1 C.2.1 hd hn (k p e s m args below meth c H locs ls C q)
theorem aw_i2l {x : Int32} (hd : decode μ.2.1 pc = .ok (.i2l, 1)) (k : AW G μ R Z X z0 (pc + 1) lo (.long x.toInt64 :: st) E iv lv) : AW G μ R Z X z0 pc lo (.int x :: st) E iv lv :=
  fun p e s m args below meth c H locs ls C q => lv_i2l C.1 C.2.1 hd rfl (k p e s m args below meth c H locs ls C q)
theorem aw_l2i {x : Int64} (hd : decode μ.2.1 pc = .ok (.l2i, 1)) (k : AW G μ R Z X z0 (pc + 1) lo (.int x.toInt32 :: st) E iv lv) : AW G μ R Z X z0 pc lo (.long x :: st) E iv lv :=
  fun p e s m args below meth c H locs ls C q => lv_l2i C.1 C.2.1 hd rfl (k p e s m args below meth c H locs ls C q)
theorem aw_i2b {x : Int32} (hd : decode μ.2.1 pc = .ok (.i2b, 1)) (k : AW G μ R Z X z0 (pc + 1) lo (.int x.toInt8.toInt32 :: st) E iv lv) : AW G μ R Z X z0 pc lo (.int x :: st) E iv lv :=
  fun p e s m args below meth c H locs ls C q => lv_i2b C.1 C.2.1 hd rfl (k p e s m args below meth c H locs ls C q)
theorem aw_dup {v : Value} (hd : decode μ.2.1 pc = .ok (.dup, 1)) (hc : v.category = 1) (k : AW G μ R Z X z0 (pc + 1) lo (v :: v :: st) E iv lv) : AW G μ R Z X z0 pc lo (v :: st) E iv lv :=
  fun p e s m args below meth c H locs ls C q => lv_dup C.1 C.2.1 hd hc (k p e s m args below meth c H locs ls C q)
theorem aw_dup2 {va vb : Value} (hd : decode μ.2.1 pc = .ok (.dup2, 1)) (ha : va.category = 1) (hb : vb.category = 1) (k : AW G μ R Z X z0 (pc + 1) lo (va :: vb :: va :: vb :: st) E iv lv) : AW G μ R Z X z0 pc lo (va :: vb :: st) E iv lv :=
  fun p e s m args below meth c H locs ls C q => lv_dup2_11 C.1 C.2.1 hd ha hb (k p e s m args below meth c H locs ls C q)
theorem aw_if_eq {x : Int32} {off : Int} {tgt : Nat} (hd : decode μ.2.1 pc = .ok (.ifCond .eq off, 3)) (ht : (pc : Int) + off = (tgt : Int)) (kt : x = 0 → AW G μ R Z X z0 tgt lo st E iv lv) (kf : ¬ x = 0 → AW G μ R Z X z0 (pc + 3) lo st E iv lv) : AW G μ R Z X z0 pc lo (.int x :: st) E iv lv :=
  fun p e s m args below meth c H locs ls C q => lv_if_eq C.1 C.2.1 hd ht (fun h => kt h p e s m args below meth c H locs ls C q) (fun h => kf h p e s m args below meth c H locs ls C q)
theorem aw_icmp_eq {x y : Int32} {off : Int} {tgt : Nat} (hd : decode μ.2.1 pc = .ok (.if_icmp .eq off, 3)) (ht : (pc : Int) + off = (tgt : Int)) (kt : x = y → AW G μ R Z X z0 tgt lo st E iv lv) (kf : ¬ x = y → AW G μ R Z X z0 (pc + 3) lo st E iv lv) : AW G μ R Z X z0 pc lo (.int y :: .int x :: st) E iv lv :=
  fun p e s m args below meth c H locs ls C q => lv_icmp_eq C.1 C.2.1 hd ht (fun h => kt h p e s m args below meth c H locs ls C q) (fun h => kf h p e s m args below meth c H locs ls C q)
theorem aw_if_ne {x : Int32} {off : Int} {tgt : Nat} (hd : decode μ.2.1 pc = .ok (.ifCond .ne off, 3)) (ht : (pc : Int) + off = (tgt : Int)) (kt : ¬ x = 0 → AW G μ R Z X z0 tgt lo st E iv lv) (kf : x = 0 → AW G μ R Z X z0 (pc + 3) lo st E iv lv) : AW G μ R Z X z0 pc lo (.int x :: st) E iv lv :=
  fun p e s m args below meth c H locs ls C q => lv_if_ne C.1 C.2.1 hd ht (fun h => kt h p e s m args below meth c H locs ls C q) (fun h => kf h p e s m args below meth c H locs ls C q)
theorem aw_icmp_ne {x y : Int32} {off : Int} {tgt : Nat} (hd : decode μ.2.1 pc = .ok (.if_icmp .ne off, 3)) (ht : (pc : Int) + off = (tgt : Int)) (kt : ¬ x = y → AW G μ R Z X z0 tgt lo st E iv lv) (kf : x = y → AW G μ R Z X z0 (pc + 3) lo st E iv lv) : AW G μ R Z X z0 pc lo (.int y :: .int x :: st) E iv lv :=
  fun p e s m args below meth c H locs ls C q => lv_icmp_ne C.1 C.2.1 hd ht (fun h => kt h p e s m args below meth c H locs ls C q) (fun h => kf h p e s m args below meth c H locs ls C q)
theorem aw_if_lt {x : Int32} {off : Int} {tgt : Nat} (hd : decode μ.2.1 pc = .ok (.ifCond .lt off, 3)) (ht : (pc : Int) + off = (tgt : Int)) (kt : x < 0 → AW G μ R Z X z0 tgt lo st E iv lv) (kf : ¬ x < 0 → AW G μ R Z X z0 (pc + 3) lo st E iv lv) : AW G μ R Z X z0 pc lo (.int x :: st) E iv lv :=
  fun p e s m args below meth c H locs ls C q => lv_if_lt C.1 C.2.1 hd ht (fun h => kt h p e s m args below meth c H locs ls C q) (fun h => kf h p e s m args below meth c H locs ls C q)
theorem aw_icmp_lt {x y : Int32} {off : Int} {tgt : Nat} (hd : decode μ.2.1 pc = .ok (.if_icmp .lt off, 3)) (ht : (pc : Int) + off = (tgt : Int)) (kt : x < y → AW G μ R Z X z0 tgt lo st E iv lv) (kf : ¬ x < y → AW G μ R Z X z0 (pc + 3) lo st E iv lv) : AW G μ R Z X z0 pc lo (.int y :: .int x :: st) E iv lv :=
  fun p e s m args below meth c H locs ls C q => lv_icmp_lt C.1 C.2.1 hd ht (fun h => kt h p e s m args below meth c H locs ls C q) (fun h => kf h p e s m args below meth c H locs ls C q)
theorem aw_if_ge {x : Int32} {off : Int} {tgt : Nat} (hd : decode μ.2.1 pc = .ok (.ifCond .ge off, 3)) (ht : (pc : Int) + off = (tgt : Int)) (kt : 0 ≤ x → AW G μ R Z X z0 tgt lo st E iv lv) (kf : ¬ 0 ≤ x → AW G μ R Z X z0 (pc + 3) lo st E iv lv) : AW G μ R Z X z0 pc lo (.int x :: st) E iv lv :=
  fun p e s m args below meth c H locs ls C q => lv_if_ge C.1 C.2.1 hd ht (fun h => kt h p e s m args below meth c H locs ls C q) (fun h => kf h p e s m args below meth c H locs ls C q)
theorem aw_icmp_ge {x y : Int32} {off : Int} {tgt : Nat} (hd : decode μ.2.1 pc = .ok (.if_icmp .ge off, 3)) (ht : (pc : Int) + off = (tgt : Int)) (kt : y ≤ x → AW G μ R Z X z0 tgt lo st E iv lv) (kf : ¬ y ≤ x → AW G μ R Z X z0 (pc + 3) lo st E iv lv) : AW G μ R Z X z0 pc lo (.int y :: .int x :: st) E iv lv :=
  fun p e s m args below meth c H locs ls C q => lv_icmp_ge C.1 C.2.1 hd ht (fun h => kt h p e s m args below meth c H locs ls C q) (fun h => kf h p e s m args below meth c H locs ls C q)
theorem aw_if_gt {x : Int32} {off : Int} {tgt : Nat} (hd : decode μ.2.1 pc = .ok (.ifCond .gt off, 3)) (ht : (pc : Int) + off = (tgt : Int)) (kt : 0 < x → AW G μ R Z X z0 tgt lo st E iv lv) (kf : ¬ 0 < x → AW G μ R Z X z0 (pc + 3) lo st E iv lv) : AW G μ R Z X z0 pc lo (.int x :: st) E iv lv :=
  fun p e s m args below meth c H locs ls C q => lv_if_gt C.1 C.2.1 hd ht (fun h => kt h p e s m args below meth c H locs ls C q) (fun h => kf h p e s m args below meth c H locs ls C q)
theorem aw_icmp_gt {x y : Int32} {off : Int} {tgt : Nat} (hd : decode μ.2.1 pc = .ok (.if_icmp .gt off, 3)) (ht : (pc : Int) + off = (tgt : Int)) (kt : y < x → AW G μ R Z X z0 tgt lo st E iv lv) (kf : ¬ y < x → AW G μ R Z X z0 (pc + 3) lo st E iv lv) : AW G μ R Z X z0 pc lo (.int y :: .int x :: st) E iv lv :=
  fun p e s m args below meth c H locs ls C q => lv_icmp_gt C.1 C.2.1 hd ht (fun h => kt h p e s m args below meth c H locs ls C q) (fun h => kf h p e s m args below meth c H locs ls C q)
theorem aw_if_le {x : Int32} {off : Int} {tgt : Nat} (hd : decode μ.2.1 pc = .ok (.ifCond .le off, 3)) (ht : (pc : Int) + off = (tgt : Int)) (kt : x ≤ 0 → AW G μ R Z X z0 tgt lo st E iv lv) (kf : ¬ x ≤ 0 → AW G μ R Z X z0 (pc + 3) lo st E iv lv) : AW G μ R Z X z0 pc lo (.int x :: st) E iv lv :=
  fun p e s m args below meth c H locs ls C q => lv_if_le C.1 C.2.1 hd ht (fun h => kt h p e s m args below meth c H locs ls C q) (fun h => kf h p e s m args below meth c H locs ls C q)
theorem aw_icmp_le {x y : Int32} {off : Int} {tgt : Nat} (hd : decode μ.2.1 pc = .ok (.if_icmp .le off, 3)) (ht : (pc : Int) + off = (tgt : Int)) (kt : x ≤ y → AW G μ R Z X z0 tgt lo st E iv lv) (kf : ¬ x ≤ y → AW G μ R Z X z0 (pc + 3) lo st E iv lv) : AW G μ R Z X z0 pc lo (.int y :: .int x :: st) E iv lv :=
  fun p e s m args below meth c H locs ls C q => lv_icmp_le C.1 C.2.1 hd ht (fun h => kt h p e s m args below meth c H locs ls C q) (fun h => kf h p e s m args below meth c H locs ls C q)
theorem aw_lcmp {x y : Int64} (hd : decode μ.2.1 pc = .ok (.lcmp, 1)) (k : AW G μ R Z X z0 (pc + 1) lo (.int (lg_cmp x y) :: st) E iv lv) : AW G μ R Z X z0 pc lo (.long y :: .long x :: st) E iv lv :=
  fun p e s m args below meth c H locs ls C q => W.lcmp C.1 C.2.1 hd (k p e s m args below meth c H locs ls C q)
theorem aw_goto {off : Int} {tgt : Nat} (hd : decode μ.2.1 pc = .ok (.goto off, 3)) (ht : (pc : Int) + off = (tgt : Int)) (k : AW G μ R Z X z0 tgt lo st E iv lv) : AW G μ R Z X z0 pc lo st E iv lv :=
  fun p e s m args below meth c H locs ls C q => lv_goto C.1 C.2.1 hd ht (k p e s m args below meth c H locs ls C q)
theorem aw_tableOut {dflt lw hi : Int} {offs : Array Int} {len : Nat} {x : Int32} {tgt : Nat} (hd : decode μ.2.1 pc = .ok (.tableswitch dflt lw hi offs, len)) (h : x.toInt < lw ∨ hi < x.toInt) (ht : (pc : Int) + dflt = (tgt : Int)) (k : AW G μ R Z X z0 tgt lo st E iv lv) : AW G μ R Z X z0 pc lo (.int x :: st) E iv lv :=
  fun p e s m args below meth c H locs ls C q => lv_tableOut C.1 C.2.1 hd h ht (k p e s m args below meth c H locs ls C q)
theorem aw_tableIn {dflt lw hi : Int} {offs : Array Int} {len : Nat} {x : Int32} {off : Int} {tgt : Nat} (hd : decode μ.2.1 pc = .ok (.tableswitch dflt lw hi offs, len)) (h1 : ¬ x.toInt < lw) (h2 : ¬ hi < x.toInt) (ho : offs[(x.toInt - lw).toNat]? = some off) (ht : (pc : Int) + off = (tgt : Int)) (k : AW G μ R Z X z0 tgt lo st E iv lv) : AW G μ R Z X z0 pc lo (.int x :: st) E iv lv :=
  fun p e s m args below meth c H locs ls C q => lv_tableIn C.1 C.2.1 hd h1 h2 ho ht (k p e s m args below meth c H locs ls C q)
theorem aw_lookup {dflt : Int} {ps : Array (Int × Int)} {len : Nat} {x : Int32} {off : Int} {tgt : Nat} (hd : decode μ.2.1 pc = .ok (.lookupswitch dflt ps, len)) (hp : (ps.toList.zip (ps.toList.drop 1)).all (fun (a, next) => a.1 < next.1) = true) (ho : Op.lookupswitch.offset ps.toList dflt x.toInt = off) (ht : (pc : Int) + off = (tgt : Int)) (k : AW G μ R Z X z0 tgt lo st E iv lv) : AW G μ R Z X z0 pc lo (.int x :: st) E iv lv :=
  fun p e s m args below meth c H locs ls C q => lv_lookup C.1 C.2.1 hd hp ho ht (k p e s m args below meth c H locs ls C q)
end AWS
