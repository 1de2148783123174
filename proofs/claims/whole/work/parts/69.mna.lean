/-! new int[6][21]: out of the machine's own words. -/
def mq_r (cI : ClassId) : Cell := arrV cI 21 (fun _ => .int 0)
def mq_o (cA : ClassId) (h i : Nat) : Cell := arrV cA 6 (fun k => va_rf (if k < i then some (h + 1 + k) else none))
/-- behind i rows of the six -/
def mq_s (T : State) (cA cI : ClassId) (i : Nat) : State := match i with
  | 0 => T.pushCell (mq_o cA T.heap.size 0)
  | i + 1 => ((mq_s T cA cI i).pushCell (mq_r cI)).setCell T.heap.size (mq_o cA T.heap.size (i + 1))
theorem mq_up (cA : ClassId) (h i : Nat) : (mq_o cA h i).setSlot i (.ref (h + 1 + i)) = mq_o cA h (i + 1) := by
  unfold mq_o
  rw [arrV_store]
  refine congrArg (arrV cA 6) (funext fun k => ?_)
  unfold updV
  rcases Nat.lt_trichotomy k i with q | q | q
  · rw [if_neg (by omega)]
    show va_rf (if k < i then _ else _) = _
    rw [if_pos q, if_pos (by omega)]
  · rw [if_pos q, if_pos (by omega), q]
    rfl
  · rw [if_neg (by omega)]
    show va_rf (if k < i then _ else _) = _
    rw [if_neg (by omega), if_neg (by omega)]
theorem mq_f (T : State) (cA cI : ClassId) (i : Nat) : (mq_s T cA cI i).heap.size = T.heap.size + 1 + i ∧ (mq_s T cA cI i).heap[T.heap.size]? = some (mq_o cA T.heap.size i) ∧ (∀ x : Nat, x < T.heap.size → (mq_s T cA cI i).heap[x]? = T.heap[x]?) ∧ (∀ j : Nat, j < i → (mq_s T cA cI i).heap[T.heap.size + 1 + j]? = some (mq_r cI)) ∧ (mq_s T cA cI i).vm = T.vm ∧ (mq_s T cA cI i).slotsUsed = T.slotsUsed + 6 + i * 21 := by
  induction i with
  | zero =>
    refine ⟨?_, ?_, fun x hx => ?_, fun j hj => absurd hj (Nat.not_lt_zero j), rfl, ?_⟩
    · show (T.heap.push _).size = _
      rw [Array.size_push]
    · show (T.heap.push _)[_]? = _
      rw [Array.getElem?_push_size]
    · show (T.heap.push _)[x]? = _
      rw [Array.getElem?_push, if_neg (Nat.ne_of_lt hx)]
    · show T.slotsUsed + (mq_o cA T.heap.size 0).slots.size = _
      rw [show (mq_o cA T.heap.size 0).slots.size = 6 from arrV_size _ _ _]
  | succ i ih =>
    obtain ⟨z, a, o, r, v, u⟩ := ih
    have g : ∀ x : Nat, (mq_s T cA cI (i + 1)).heap[x]? = if x = T.heap.size then some (mq_o cA T.heap.size (i + 1)) else if x = T.heap.size + 1 + i then some (mq_r cI) else (mq_s T cA cI i).heap[x]? := fun x => by
      show (((mq_s T cA cI i).heap.push (mq_r cI)).setIfInBounds T.heap.size _)[x]? = _
      rw [Array.getElem?_setIfInBounds, Array.size_push, Array.getElem?_push, z]
      by_cases e1 : x = T.heap.size
      · rw [if_pos e1.symm, if_pos (by omega), if_pos e1]
      · rw [if_neg (fun q => e1 q.symm), if_neg e1]
    refine ⟨?_, by rw [g, if_pos rfl], fun x hx => by rw [g, if_neg (by omega), if_neg (by omega)]; exact o x hx, fun j hj => ?_, v, ?_⟩
    · show (((mq_s T cA cI i).heap.push (mq_r cI)).setIfInBounds T.heap.size _).size = _
      rw [Array.size_setIfInBounds, Array.size_push, z]
      omega
    · by_cases q : j = i
      · rw [g, if_neg (by omega), if_pos (by omega)]
      · rw [g, if_neg (by omega), if_neg (by omega)]
        exact r j (by omega)
    · show (mq_s T cA cI i).slotsUsed + (mq_r cI).slots.size = _
      rw [u, show (mq_r cI).slots.size = 21 from arrV_size _ _ _]
      omega
theorem mq_t (T : State) (f : JFrame) (cA cI : ClassId) (i : Nat) : mq_s (T.setTop f) cA cI i = (mq_s T cA cI i).setTop f := by
  induction i with
  | zero => rfl
  | succ i ih =>
    show ((mq_s (T.setTop f) cA cI i).pushCell (mq_r cI)).setCell T.heap.size _ = _
    rw [ih]
    rfl
section MNA
variable {EP : CtlPost} {e : Jvm.Env} {d : Bool} {acts : List Action} {T : State}
/-- a loop that counts, from state to state -/
theorem mq_l {S : Nat → State} {f : Nat → PUnit → Sem (ForInStep PUnit)} {n : Nat} (hf : ∀ i, i < n → ∀ (d : Bool) (acts : List Action) (Q : ForInStep PUnit → Pre), (∀ d2 a2, Q (.yield PUnit.unit) d2 a2 (S (i + 1))) → wp (f i PUnit.unit) Q EP e d acts (S i)) {Q : PUnit → Pre} (hq : ∀ d acts, Q PUnit.unit d acts (S n)) : ∀ (k i : Nat), i + k = n → ∀ (d : Bool) (acts : List Action), wp (forIn (List.range' i k) PUnit.unit f) Q EP e d acts (S i)
  | 0, i, h, d, acts => by
    have h' : i = n := h
    subst h'
    simp only [List.range'_zero, List.forIn_nil, wp_pure']
    exact hq d acts
  | k + 1, i, h, d, acts => by
    rw [List.range'_succ]
    simp only [List.forIn_cons, wp_bind']
    exact hf i (by omega) d acts _ (fun d2 a2 => mq_l hf hq k (i + 1) (by omega) d2 a2)
theorem mq_n {c comp : ClassId} {k : Class} {ty : FieldType} {n : Nat} {z : Value} {Q : Addr → Pre} (hk : T.vm.classes[c]? = some k) (hkind : k.kind = .array comp ty) (h1 : ¬ n > e.platform.arrayLengthLimit) (h2 : ¬ n * componentBytes ty > e.platform.maxHeapBytes) (hz : fits ty z = true) (h3 : T.heap.size < e.platform.maxCells) (h4 : T.slotsUsed + n ≤ e.platform.maxSlots) (hq : ∀ a2, Q T.heap.size d a2 (T.pushCell (arrV c n (fun _ => z)))) : wp (Jvm.newArray c n z) Q EP e d acts T := by
  have hf : ∀ i v, (Array.replicate n z)[i]? = some v → T.fitsSlot c .none i v = true := by
    intro i v hv
    rw [Array.getElem?_replicate] at hv
    split at hv
    · cases hv
      simp [State.fitsSlot, State.slotType?, hk, hkind, hz]
    · cases hv
  simp only [Jvm.newArray, Jvm.arrayFits, wp_bind', W.ask, W.ite, h1, if_false, wp_pure', W.theClass, hk, hkind, h2, W.alloc, W.stop, Option.some.injEq, exists_eq_left', Array.size_replicate]
  rw [if_neg (by omega)]
  refine ⟨h3, h4, hf, ?_⟩
  rw [arrV_new]
  exact hq _
theorem mq_w {cA cI cc : ClassId} {kA kI : Class} {Q : Addr → Pre} (hA : T.vm.classes[cA]? = some kA) (hA2 : kA.kind = .array cI (.array .int)) (hI : T.vm.classes[cI]? = some kI) (hI2 : kI.kind = .array cc .int) (hL : e.platform.arrayLengthLimit ≥ 21) (hB : e.platform.maxHeapBytes ≥ 84) (hc : T.heap.size + 7 ≤ e.platform.maxCells) (hs : T.slotsUsed + 132 ≤ e.platform.maxSlots) (hq : ∀ d acts, Q T.heap.size d acts (mq_s T cA cI 6)) : wp (multianewarray.make cA [nI 6, nI 21]) Q EP e d acts T := by
  have n6 : (nI 6).toNatClampNeg = 6 := nI_clamp (by decide)
  have n21 : (nI 21).toNatClampNeg = 21 := nI_clamp (by decide)
  have p6 : ¬ nI 6 < 0 := nI_pos (by decide)
  have p21 : ¬ nI 21 < 0 := nI_pos (by decide)
  have z6 : ¬ (nI 6 == 0) = true := by decide
  rw [multianewarray.make]
  simp only [wp_bind', W.ite, p6, if_false, wp_pure', W.theClass, hA, hA2, Option.some.injEq, exists_eq_left', n6]
  refine mq_n hA hA2 (by omega) (by show ¬ 6 * 4 > _; omega) rfl (by omega) (by omega) (fun a2 => ?_)
  simp only [z6, Bool.false_eq_true, if_false, wp_pure', wp_bind', Std.Legacy.Range.forIn_eq_forIn_range', Std.Legacy.Range.size]
  rw [show T.pushCell (arrV cA 6 fun _ => Value.null) = mq_s T cA cI 0 from congrArg (fun f => T.pushCell (arrV cA 6 f)) (funext fun k => by rw [if_neg (Nat.not_lt_zero k)]; rfl)]
  refine mq_l (n := 6) (S := mq_s T cA cI) (fun i hi d2 a3 Q2 hn => ?_) (fun d2 a3 => by simp only [wp_pure']; exact hq d2 a3) 6 0 rfl d a2
  obtain ⟨z, a, -, -, v, u⟩ := mq_f T cA cI i
  have hA' : (mq_s T cA cI i).vm.classes[cA]? = some kA := by rw [v]; exact hA
  have hI' : (mq_s T cA cI i).vm.classes[cI]? = some kI := by rw [v]; exact hI
  rw [multianewarray.make]
  simp only [wp_bind', W.ite, p21, if_false, wp_pure', W.theClass, hI', hI2, Option.some.injEq, exists_eq_left', n21]
  refine mq_n hI' hI2 (by omega) (by show ¬ 21 * 4 > _; omega) rfl (by rw [z]; omega) (by rw [u]; omega) (fun a4 => ?_)
  simp only [wp_bind', W.writeLoc, wp_pure']
  refine ⟨mq_o cA T.heap.size i, ?_, fun h => (by cases h), ?_, ?_, ?_⟩
  · show ((mq_s T cA cI i).heap.push _)[_]? = _
    rw [Array.getElem?_push, if_neg (by rw [z]; omega)]
    exact a
  · rw [show (mq_o cA T.heap.size i).slots.size = 6 from arrV_size _ _ _]
    exact hi
  · show State.fitsSlot _ cA .none i _ = true
    simp [State.fitsSlot, State.slotType?, hA', hA2]
    rfl
  · rw [z, mq_up]
    exact hn _ _
end MNA
section MNS
variable {p : Program} {l : Launch} {e : Jvm.Env} {R : Room} {s : State} {m : MethodId} {args : Array Value} {below : List Frame} {meth : Method} {c : Code} {T : State} {locs : List Loc} {cells slots : Nat}
theorem mq_X (X : Stand p l e R s m args below meth c T locs cells slots) (cA cI : ClassId) (i : Nat) : Stand p l e R s m args below meth c (mq_s T cA cI i) locs (cells + (1 + i)) (slots + (6 + i * 21)) := by
  induction i with
  | zero => exact X.pushed (mq_o cA T.heap.size 0)
  | succ i ih =>
    obtain ⟨z, a, -, -, -, -⟩ := mq_f T cA cI i
    have h1 := ih.pushed (mq_r cI)
    have h2 : ((mq_s T cA cI i).pushCell (mq_r cI)).heap[T.heap.size]? = some (mq_o cA T.heap.size i) := by
      show ((mq_s T cA cI i).heap.push _)[_]? = _
      rw [Array.getElem?_push, if_neg (by rw [z]; omega)]
      exact a
    have h3 := h1.stored h2 i (.ref (T.heap.size + 1 + i))
    rw [mq_up] at h3
    have h4 := h3.dropFresh (fun x hx => by rw [List.mem_singleton.mp hx]; exact X.heapGrown)
    rw [show (mq_r cI).slots.size = 21 from arrV_size _ _ _] at h4
    rw [show cells + (1 + (i + 1)) = cells + (1 + i) + 1 by omega, show slots + (6 + (i + 1) * 21) = slots + (6 + i * 21) + 21 by omega]
    exact h4
/-- int[][] is made of int[] -/
theorem mq_a (h : AI s) : ∃ (cI cA : ClassId) (k : Class), s.vm.findClass "[I" = some cI ∧ s.vm.classes[cA]? = some k ∧ k.kind = .array cI (.array .int) ∧ s.vm.findClass "[[I" = some cA := by
  unfold AI Cond.before at h
  simp only [Cond.holds, Cond.value, beq_iff_eq, Option.bind_eq_some_iff, Option.map_eq_some_iff] at h
  obtain ⟨cI, f1, cA, f2, k, f3, f4⟩ := h
  obtain ⟨f0, f5, -⟩ := Array.findIdx?_eq_some_iff_getElem.mp f2
  rw [(Array.getElem?_eq_some_iff.mp f3).2] at f5
  cases hk : k.kind with
  | array co ty =>
    rw [hk] at f4 f5
    simp at f4 f5
    exact ⟨cI, cA, k, f1, f3, by rw [hk, f5, f4.1], f4.2⟩
  | _ =>
    rw [hk] at f4
    simp at f4
theorem mq_step (X : Stand p l e R s m args below meth c T locs cells slots) (hexec : p.tables.exec = Jvm.exec) {own : String} {idx : Nat} (hown : s.vm.findClass own = some m.cls) (hck : (Cond.classLink own idx "[[I").before args s = true) (hao : AI s) (har : (Cond.arrayClass .int).before args s = true) {g : JFrame} (hg : g.method = m) (hd : decode c.code g.pc = .ok (.multianewarray idx 2, 4)) {rest : List Value} (hst : g.stack = .int (nI 21) :: .int (nI 6) :: rest) (hc : cells + 7 ≤ R.cells) (hs : slots + 132 ≤ R.slots) :
    ∃ (vm : Vm) (cA cI : ClassId), s.vm.findClass "[[I" = some cA ∧ s.vm.findClass "[I" = some cI ∧ Stand p l e R s m args below meth c (mq_s (T.setVm vm) cA cI 6) locs (cells + 7) (slots + 132) ∧
      ∀ target, Steps p.tables e below ((mq_s (T.setVm vm) cA cI 6).setTop { g with pc := g.pc + 4, stack := .ref T.heap.size :: rest }) target → Steps p.tables e below (T.setTop g) target := by
  subst hg
  obtain ⟨cI, cA, kA, a1, a2, a3, a4⟩ := mq_a hao
  obtain ⟨cI2, kI, cc, b1, b2, b3⟩ := Cond.arrayClass_spec har
  have hcI : cI2 = cI := Option.some.inj (b1.symm.trans a1)
  subst hcI
  obtain ⟨cA2, l1, l2⟩ := Cond.classLink_spec hown hck e.platform (by rw [X.admits.platform])
  have hcA : cA2 = cA := Option.some.inj (l1.symm.trans a4)
  subst hcA
  obtain ⟨g1, g2, -⟩ := State.classEntry (e := e) X.warmed l2
  obtain ⟨kA1, hA1, eA⟩ := g2.alike.2.2 _ _ a2
  obtain ⟨kI1, hI1, eI⟩ := g2.alike.2.2 _ _ b2
  generalize T.vm.noted g.method.cls idx (.cls cA2) = vm at g1 g2 hA1 hI1
  obtain ⟨r1, r2⟩ := X.roomAbove hc hs
  have XF := mq_X (X.noted g2) cA2 cI2 6
  refine ⟨vm, cA2, cI2, a4, a1, XF, fun target ht => ?_⟩
  jvm_step X.here [hexec, hd]
  simp only [multianewarray.sem, wp_bind', W.resolveClassAt_links (State.method?_setTop g X.here.top) g1]
  refine (popN_top (s := T.setVm vm) (f := g) (args := [.int (nI 6), .int (nI 21)]) (rest := rest) X.here.top hst).mpr ?_
  simp only [List.mapM_cons, List.mapM_nil, wp_bind', wp_pure']
  refine mq_w (T := (T.setVm vm).setTop { g with stack := rest }) (kA := kA1) (kI := kI1) (cc := cc) hA1 (by rw [eA]; exact a3) hI1 (by rw [eI]; exact b3) (by rw [Launch.admits_arrayLengthLimit X.admits]; decide) (by rw [Launch.admits_maxHeapBytes X.admits]; decide) r1 r2 (fun d2 a5 => ?_)
  rw [mq_t]
  simp only [wp_bind', W.mark, W.pushRef, State.topJava?_setTop' _ XF.here.top, Option.some.injEq, exists_eq_left', State.setTop_setTop, State.heap_setTop]
  intro a6
  simp [jvm, XF.here.top]
  exact ht
end MNS
