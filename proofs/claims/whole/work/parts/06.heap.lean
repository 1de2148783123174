/-! Fields, arrays, returns, contracts and calls of the flat machine. -/
theorem one_P {D : va_G} {cl : List vw_C} {a : Nat} {e : va_E} {H : Heap} (h : va_at D cl (a, e) H) : va_P D cl [(a, e)] H := fun k q hk => by
  have hz : k < 1 := (List.getElem?_eq_some_iff.mp hk).1
  rw [show k = 0 by omega] at hk
  cases hk
  exact h
def CF (t : Nat) (C : String) (T : u_T) (N : Nat) : Prop := vwCl[t]? = some (C, T, N) ∧ N = nF t ∧ t < 20 ∧ (∀ w ∈ u_ws C T N, w ∈ tb) ∧ (∀ k, k < N → parseFieldDescriptor (T k).2.2.1 = some (tyT t k)) ∧ (∀ a, a < N → ∀ b, b < N → a ≠ b → (T a).2.1 ≠ (T b).2.1)
/-- a field: slot k of the class t, by the number idx of the class own's pool -/
def FG (own : String) (idx t k : Nat) : Prop := ∃ C T N, CF t C T N ∧ k < N ∧ Cond.fieldLink own idx (T k).1 (T k).2.1 (T k).2.2.1 ∈ tb
def FL (own : String) (idx t k : Nat) (fin : Bool) : Prop := ∃ C T N, CF t C T N ∧ k < N ∧ Cond.fieldLink own idx (T k).1 (T k).2.1 (T k).2.2.1 ∈ tb ∧ (T k).2.2.2 = fin ∧ (fin = true → (T k).1 = own)
theorem ce_o {dT : Nat → ClassId} {E : SH} {iv : IV} {lv : LV} {a t n : Nat} (h : E.2.1 a = (t, n)) (ht : t < 20) : ce dT E iv lv a = .inr (t, (List.range (nF t)).map (fv E.2.2 iv lv t a)) := by
  unfold ce
  rw [h, if_pos ht]
theorem ce_i {dT : Nat → ClassId} {E : SH} {iv : IV} {lv : LV} {a t n : Nat} (h : E.2.1 a = (t, n)) (h1 : 20 ≤ t) (h2 : t < 22) : ce dT E iv lv a = .inl (dT (t - 20), n, .inl (iv a)) := by
  unfold ce
  rw [h, if_neg (by simp; omega), if_pos h2]
theorem ce_r {dT : Nat → ClassId} {E : SH} {iv : IV} {lv : LV} {a t n : Nat} (h : E.2.1 a = (t, n)) (h1 : 22 ≤ t) : ce dT E iv lv a = .inl (dT (t - 20), n, .inr (.inr (.inr (.inr (E.2.2 a))))) := by
  unfold ce
  rw [h, if_neg (by simp; omega), if_neg (by simp; omega)]
theorem ce_eq {dT : Nat → ClassId} {E E' : SH} {iv iv' : IV} {lv lv' : LV} {b : Nat} (h : E'.2.1 b = E.2.1 b) (hr : E'.2.2 b = E.2.2 b) (hi : iv' b = iv b) (hl : lv' b = lv b) : ce dT E' iv' lv' b = ce dT E iv lv b := by
  have e : ∀ k, fv E'.2.2 iv' lv' (E.2.1 b).1 b k = fv E.2.2 iv lv (E.2.1 b).1 b k := fun k => by
    unfold fv
    rw [hr, hi, hl]
  unfold ce
  rw [h, hr, hi, List.map_congr_left (fun k _ => e k)]
def rm (d mc : Nat) : Room := { frames := d, cells := mc, slots := 2500 * mc, locals := 100 * d }
/-- the room that is left -/
def RB (R : Room) (z0 : Nat) (E : SH) (k mc : Nat) : Prop := k ≤ R.frames ∧ 100 * k ≤ R.locals ∧ E.1 - z0 + mc ≤ R.cells ∧ 2500 * (E.1 - z0) + 2500 * mc ≤ R.slots
theorem rb0 {D k : Nat} {E : SH} (h : k ≤ D) : RB (rm D 0) E.1 E k 0 := ⟨h, Nat.mul_le_mul_left 100 h, by simp [rm], by simp [rm]⟩
def QM (G : GC) (Q : Option Value → SH → IV → LV → Prop) : Array Value → State → Outcome → State → Prop := fun _ s o t => (∃ (r : Option Value) (E' : SH) (iv' : IV) (lv' : LV), o = .returned r ∧ Q r E' iv' lv' ∧ wd G E' iv' lv' t t.heap) ∧ va_F (fun q => gB G ≤ q) s t
def PM (G : GC) (E : SH) (iv : IV) (lv : LV) : State → Prop := fun U => U.heap.size = E.1 ∧ SF G U U.heap ∧ wd G E iv lv U U.heap
def Spec (G : GC) (μ : MI) (d mc : Nat) (av : List Value) (E : SH) (iv : IV) (lv : LV) (Q : Option Value → SH → IV → LV → Prop) : Prop :=
  Met (gL G) μ.1 (Cond.code μ.1 μ.2.1 μ.2.2.1 μ.2.2.2 :: tb) (rm d mc) (va_Pc av (PM G E iv lv)) (QM G Q) mc (2500 * mc) (fun q => gB G ≤ q)
/-- a contract that makes no cell -/
def Spec0 (G : GC) (μ : MI) (d : Nat) (av : List Value) (E : SH) (iv : IV) (lv : LV) (Q : Option Value → IV → LV → Prop) : Prop := Spec G μ d 0 av E iv lv (fun r E' iv' lv' => E' = E ∧ Q r iv' lv')
def ZM (G : GC) (R : Room) (Q : Option Value → SH → IV → LV → Prop) : List Frame → Array Value → State → State → Prop := fun below args s => MQ below (QM G Q) args s R.cells R.slots (fun q => gB G ≤ q)
def Z0 (G : GC) (d : Nat) (E : SH) (Q : Option Value → IV → LV → Prop) : List Frame → Array Value → State → State → Prop := ZM G (rm d 0) (fun r E' iv' lv' => E' = E ∧ Q r iv' lv')
def enL : List Value → List (Option Value)
  | [] => []
  | v :: vs => if v.category = 2 then some v :: none :: enL vs else some v :: enL vs
theorem enL_length : ∀ vs : List Value, (enL vs).length = (lg_sl vs).length
  | [] => rfl
  | v :: vs => by
    have ih := enL_length vs
    unfold lg_sl at ih ⊢
    rw [enL, List.flatMap_cons]
    split <;> simp [ih] <;> omega
theorem enL_at : ∀ (vs : List Value) (i0 i : Nat) (v : Value), (enL vs)[i]? = some (some v) → (i0 + i, v) ∈ lv_args i0 vs
  | [], _, _, _, h => by simp [enL] at h
  | w :: vs, i0, i, v, h => by
    rw [enL] at h
    rw [lv_args, List.mem_cons]
    split at h
    · rename_i hc
      rw [if_pos hc]
      match i, h with
      | 0, h =>
        simp at h
        left
        rw [h]; rfl
      | 1, h => simp at h
      | i + 2, h =>
        right
        have := enL_at vs (i0 + 2) i v (by simpa using h)
        rw [show i0 + (i + 2) = i0 + 2 + i by omega]
        exact this
    · rename_i hc
      rw [if_neg hc]
      match i, h with
      | 0, h =>
        simp at h
        left
        rw [h]; rfl
      | i + 1, h =>
        right
        have := enL_at vs (i0 + 1) i v (by simpa using h)
        rw [show i0 + (i + 1) = i0 + 1 + i by omega]
        exact this
theorem wd.moved {G : GC} {E : SH} {iv : IV} {lv : LV} {s t : State} {H : Heap} (hv : s.vm.Alike t.vm) (h : wd G E iv lv s H) : wd G E iv lv t H := ⟨va_K.moved hv h.1, h.2⟩
theorem SF.moved {G : GC} {s t : State} {H : Heap} (hv : s.vm.Alike t.vm) (hn : nS s → nS t) (h : SF G s H) : SF G t H := ⟨h.1.moved hv, h.2.1.moved hv, fun q hq => (h.2.2.1 q hq).moved hv, h.2.2.2.moved hv hn⟩
theorem PM.blind {G : GC} {E : SH} {iv : IV} {lv : LV} {av : List Value} : FrameBlind (va_Pc av (PM G E iv lv)) := fun a U g mk q => by
  obtain ⟨q0, q1, q2, q3⟩ := q
  exact ⟨q0, q1, SF.moved (s := U) (t := U.calling g mk a) (Vm.Alike.refl U.vm) (fun h q hq => va_Nw.same rfl (rfl : U.vm = (U.calling g mk a).vm) (h q hq)) q2, wd.moved (s := U) (t := U.calling g mk a) (Vm.Alike.refl U.vm) q3⟩
theorem spec_of {G : GC} {μ : MI} {d mc : Nat} {av : List Value} {E : SH} {iv : IV} {lv : LV} {Q : Option Value → SH → IV → LV → Prop} {lo : List (Option Value)} (hy : plainName μ.1.cls = true) (hle : (enL av).length ≤ μ.2.2.1) (hl : enL av ++ List.replicate (μ.2.2.1 - (enL av).length) none = lo)
    (k : AW G μ (rm d mc) (ZM G (rm d mc) Q) (fun _ => True) E.1 0 lo [] E iv lv) : Spec G μ d mc av E iv lv Q := by
  refine Met.ofW (cc := μ.2.1) (maxL := μ.2.2.1) (ret := μ.2.2.2) hy rfl ?_
  intro p e s m args below meth c s₁ B hml hv
  obtain ⟨rfl, hz, hF, hw⟩ := hv
  have hts := atoms_spec (ws := Cond.code μ.1 μ.2.1 μ.2.2.1 μ.2.2.2 :: tb) B.pre
  have h0 := lv_entry av (n := μ.2.2.1) (by rw [← enL_length]; exact hle)
  rw [lg_entry_eq]
  generalize (lg_sl av ++ List.replicate (μ.2.2.1 - (lg_sl av).length) Slot.unset).toArray = ls at h0 ⊢
  have hlen : lo.length = μ.2.2.1 := by
    rw [← hl, List.length_append, List.length_replicate]
    omega
  have ha : aL ls lo := by
    refine ⟨by rw [h0.1, hlen], h0.2.1, fun i v hi => ?_⟩
    rw [← hl] at hi
    by_cases q : i < (enL av).length
    · rw [List.getElem?_append_left q] at hi
      have := h0.2.2 _ (enL_at av 0 i v hi)
      simpa using this
    · rw [List.getElem?_append_right (by omega)] at hi
      have := List.eq_of_mem_replicate (List.mem_of_getElem? hi)
      cases this
  have hk := k p e s m av.toArray below meth c s.heap [] ls ⟨B.exec, B.bytes, hml, B.returns, B.notSynchronized, findClass_of_methodNamed B.named, fun w h => hts w (List.mem_cons_of_mem _ h), (name_of_methodNamed B.named B.method).1⟩ ⟨trivial, hz, hw.2.2.2, hF, hw, va_S.rf, ha, hlen⟩
  rw [Nat.sub_self, Nat.mul_zero] at hk
  exact hk
theorem spec0_of {G : GC} {μ : MI} {d : Nat} {av : List Value} {E : SH} {iv : IV} {lv : LV} {Q : Option Value → IV → LV → Prop} {lo : List (Option Value)} (hy : plainName μ.1.cls = true) (hle : (enL av).length ≤ μ.2.2.1) (hl : enL av ++ List.replicate (μ.2.2.1 - (enL av).length) none = lo)
    (k : AW G μ (rm d 0) (Z0 G d E Q) (fun _ => True) E.1 0 lo [] E iv lv) : Spec0 G μ d av E iv lv Q := spec_of hy hle hl k
section AWH
variable {G : GC} {μ : MI} {R : Room} {Z : List Frame → Array Value → State → State → Prop} {X : State → Prop} {z0 pc : Nat} {lo : List (Option Value)} {st : List Value} {E : SH} {iv : IV} {lv : LV}
theorem aw_get0 {v : Value} {idx t k n a : Nat} (hd : decode μ.2.1 pc = .ok (.getfield idx, 3)) (hf : FG μ.1.cls idx t k) (hs : Sh G E a t n) (hv : fv E.2.2 iv lv t a k = v) (kk : AW G μ R Z X z0 (pc + 3) lo (v :: st) E iv lv) : AW G μ R Z X z0 pc lo (.ref a :: st) E iv lv :=
  fun p e s m args below meth c H locs ls C q => by
    obtain ⟨Cn, T, N, ⟨c1, c2, c3, c4, c5, c6⟩, f1, f2⟩ := hf
    obtain ⟨hK, hA, hz, hB⟩ := q.2.2.2.2.1
    have h0 := hA a hs.1 hs.2.1
    rw [ce_o hs.2.2 c3] at h0
    exact va_get (D := gD G) C.1 C.2.1 C.2.2.2.2.2.2.1 c4 C.2.2.2.2.2.1 hK (one_P h0) 0 rfl c1 k f1 (C.2.2.2.2.2.2.1 _ f2) (fun _ h => h) (by rw [List.getElem?_map, List.getElem?_range (by rw [← c2]; exact f1)]; exact congrArg some hv) hd (kk p e s m args below meth c H locs ls C q)
theorem aw_getI {idx t k n a : Nat} (hd : decode μ.2.1 pc = .ok (.getfield idx, 3)) (hf : FG μ.1.cls idx t k) (hty : tyT t k = .int) (hs : Sh G E a t n) (kk : AW G μ R Z X z0 (pc + 3) lo (.int (iv a k) :: st) E iv lv) : AW G μ R Z X z0 pc lo (.ref a :: st) E iv lv := aw_get0 hd hf hs (by unfold fv; rw [hty]) kk
theorem aw_getL {idx t k n a : Nat} (hd : decode μ.2.1 pc = .ok (.getfield idx, 3)) (hf : FG μ.1.cls idx t k) (hty : tyT t k = .long) (hs : Sh G E a t n) (kk : AW G μ R Z X z0 (pc + 3) lo (.long (lv a k) :: st) E iv lv) : AW G μ R Z X z0 pc lo (.ref a :: st) E iv lv := aw_get0 hd hf hs (by unfold fv; rw [hty]) kk
theorem aw_getR {idx t k n a b : Nat} (hd : decode μ.2.1 pc = .ok (.getfield idx, 3)) (hf : FG μ.1.cls idx t k) (hty : (tyT t k).isReference = true) (hs : Sh G E a t n) (hr : E.2.2 a k = some b) (kk : AW G μ R Z X z0 (pc + 3) lo (.ref b :: st) E iv lv) : AW G μ R Z X z0 pc lo (.ref a :: st) E iv lv := aw_get0 hd hf hs (by
  unfold fv
  rw [hr]
  generalize tyT t k = ty at hty
  cases ty <;> first | rfl | (cases hty)) kk
theorem wd.set {s : State} {H H1 : Heap} {E' : SH} {iv' : IV} {lv' : LV} {a : Nat} (h : wd G E iv lv s H) (hE : E'.1 = E.1) (ho : ∀ b, b ≠ a → ce (gA G) E' iv' lv' b = ce (gA G) E iv lv b) (z : H1.size = H.size) (oq : ∀ q : Nat, q ≠ a → H1[q]? = H[q]?) (ha : va_at (gD G) vwCl (a, ce (gA G) E' iv' lv' a) H1) : wd G E' iv' lv' s H1 := by
  obtain ⟨hK, hA, hz, hB⟩ := h
  refine ⟨hK, fun b h1 h2 => ?_, by rw [z, hE]; exact hz, by rw [hE]; exact hB⟩
  by_cases e : b = a
  · subst e
    exact ha
  · rw [ho b e]
    exact (hA b h1 (by rw [← hE]; exact h2)).kept (oq b e)
theorem aw_put0 {v : Value} {idx t k n a : Nat} {fin : Bool} {E' : SH} {iv' : IV} {lv' : LV} (hd : decode μ.2.1 pc = .ok (.putfield idx, 3)) (hf : FL μ.1.cls idx t k fin) (hin : fin = true → μ.1.name = "<init>") (hs : Sh G E a t n) (hn : narrow (tyT t k) v = v) (hfit : fits (tyT t k) v = true)
    (hE : E'.1 = E.1) (hE2 : E'.2.1 a = (t, n)) (ho : ∀ b, b ≠ a → ce (gA G) E' iv' lv' b = ce (gA G) E iv lv b) (ha : ∀ j, j < nF t → fv E'.2.2 iv' lv' t a j = if j = k then v else fv E.2.2 iv lv t a j)
    (kk : AW G μ R Z X z0 (pc + 3) lo st E' iv' lv') : AW G μ R Z X z0 pc lo (v :: .ref a :: st) E iv lv :=
  fun p e s m args below meth c H locs ls C q => by
    obtain ⟨Cn, T, N, ⟨c1, c2, c3, c4, c5, c6⟩, f1, f2, f3, f4⟩ := hf
    have hts := C.2.2.2.2.2.2.1
    have hw := q.2.2.2.2.1
    obtain ⟨hK, hA, hz, hB⟩ := q.2.2.2.2.1
    have h0 := hA a hs.1 hs.2.1
    rw [ce_o hs.2.2 c3] at h0
    have hap := va_apart (own := μ.1.cls) hts c4 (tyT t) c5 c6 hK c1
    obtain ⟨r, h1, cell, q1, q2, q3, q4⟩ := h0
    have hr : r = (Cn, T, N) := Option.some.inj (h1.symm.trans c1)
    subst hr
    obtain ⟨hS, hfc, kC, hkC, hkind⟩ := hK.1 t _ c1
    obtain ⟨cf, kf, fi, f, hi, hsl⟩ := hS k f1
    have hlay := hts _ (c4 _ (u_in_lay f1))
    unfold u_lay at hlay
    have hst := (u_facts hfc hkC (u_lays hts c4 f1) hi).1
    have key : ∀ H' : Heap, H'[a]? = some (cell.setSlot ((gD G).2 t k) v) → H'.size = H.size → (∀ q, q ≠ a → H'[q]? = H[q]?) → W p (gL G) e R s m args below meth c H' (locs ++ [⟨a, (gD G).2 t k⟩]) (E.1 - z0) (2500 * (E.1 - z0)) (Z below args s) (F0 m (pc + 3) ls st) := by
      intro H' e1 e2 e3
      have hk := kk p e s m args below meth c H' (locs ++ [⟨a, (gD G).2 t k⟩]) ls C ⟨q.1, q.2.1, q.2.2.1, q.2.2.2.1, wd.set (G := G) hw hE ho e2 e3 ?_, q.2.2.2.2.2.1.put e2 e3 hs.1, q.2.2.2.2.2.2⟩
      · rw [hE] at hk
        exact hk
      · rw [ce_o hE2 c3]
        refine ⟨_, c1, t_OB.to (V := updV (vp_V ((List.range (nF t)).map (fv E.2.2 iv lv t a))) k v) ⟨_, e1, q2, q3, t_set q4 hap f1 v⟩ (fun j hj => ?_)⟩
        have hj' : j < nF t := by rw [← c2]; exact hj
        have e9 : ∀ (g : Nat → Value), vp_V ((List.range (nF t)).map g) j = g j := fun g => by
          unfold vp_V
          rw [List.getD_eq_getElem?_getD, List.getElem?_map, List.getElem?_range hj']
          rfl
        rw [e9, ha j hj']
        unfold updV
        rw [e9]
    cases fin with
    | false =>
      rw [if_neg (by rw [f3]; decide)] at hlay
      have h6 := u_store hfc hkC hkind hlay hi (c5 k f1) hn hfit
      refine W.putK C.1 C.2.1 (f := f) ⟨C.2.2.2.2.2.1, hts _ f2, ⟨_, _, _, hi⟩, hst⟩ (by rw [q2]; exact h6) q1 q3 (by rw [hsl]; exact k2_hasslot (q4 k f1)) rfl rfl hd fun H' e1 e2 e3 => ?_
      rw [hsl] at e1 ⊢
      exact key H' e1 e2 e3
    | true =>
      rw [if_pos f3] at hlay
      have hcf : m.cls = cf := by
        obtain ⟨_, _, c', _, _, _, -, -, hf', -, -, -, hown2, -⟩ := Cond.laysFinal_spec hlay
        have e1 : c' = cf := by have := hi.symm.trans hf'; simp at this; exact this.1.symm
        rw [f4 rfl] at hown2
        rw [← e1]; exact Option.some.inj (C.2.2.2.2.2.1.symm.trans hown2)
      have h6 := u_fits hfc hkC hkind (Or.inr hlay) hi (c5 k f1) hn hfit
      refine W.putFinK C.1 C.2.1 C.2.2.2.2.2.1 (hts _ f2) hi hst hcf (C.2.2.2.2.2.2.2.trans (hin rfl)) (by rw [q2]; exact h6) q1 q3 (by rw [hsl]; exact k2_hasslot (q4 k f1)) rfl rfl hd fun H' e1 e2 e3 => ?_
      rw [hsl] at e1 ⊢
      exact key H' e1 e2 e3
theorem aw_putI {x : Int32} {idx t k n a : Nat} (hd : decode μ.2.1 pc = .ok (.putfield idx, 3)) (hf : FL μ.1.cls idx t k false) (hty : tyT t k = .int) (hs : Sh G E a t n) (kk : AW G μ R Z X z0 (pc + 3) lo st E (va_up iv a (upd (iv a) k x)) lv) : AW G μ R Z X z0 pc lo (.int x :: .ref a :: st) E iv lv := by
  refine aw_put0 hd hf (fun h => by cases h) hs (by rw [hty]; rfl) (by rw [hty]; rfl) rfl hs.2.2 (fun b hb => ce_eq rfl rfl (by simp [va_up, hb]) rfl) (fun j _ => ?_) kk
  unfold fv
  by_cases e : j = k
  · subst e
    simp [hty, va_up, upd]
  · simp [e, va_up, upd]
theorem aw_putL {x : Int64} {idx t k n a : Nat} (hd : decode μ.2.1 pc = .ok (.putfield idx, 3)) (hf : FL μ.1.cls idx t k false) (hty : tyT t k = .long) (hs : Sh G E a t n) (kk : AW G μ R Z X z0 (pc + 3) lo st E iv (va_up lv a (vp_updL (lv a) k x))) : AW G μ R Z X z0 pc lo (.long x :: .ref a :: st) E iv lv := by
  refine aw_put0 hd hf (fun h => by cases h) hs (by rw [hty]; rfl) (by rw [hty]; rfl) rfl hs.2.2 (fun b hb => ce_eq rfl rfl rfl (by simp [va_up, hb])) (fun j _ => ?_) kk
  unfold fv
  by_cases e : j = k
  · subst e
    simp [hty, va_up, vp_updL]
  · simp [e, va_up, vp_updL]
theorem nI_in' {i : Int32} {j n : Nat} (hi : i = nI j) (hj : j < n) (hn : n < 2 ^ 31) : vp_in i n ∧ i.toNatClampNeg = j := by
  subst hi
  exact ⟨vp_in_nI hj hn, nI_clamp (by omega)⟩
theorem aw_iaload {i : Int32} {j n a : Nat} (hd : decode μ.2.1 pc = .ok (.iaload, 1)) (hs : Sh G E a 20 n) (hi : i = nI j) (hj : j < n) (kk : AW G μ R Z X z0 (pc + 1) lo (.int (iv a j) :: st) E iv lv) (hn : n < 2 ^ 31 := by decide) : AW G μ R Z X z0 pc lo (.int i :: .ref a :: st) E iv lv :=
  fun p e s m args below meth c H locs ls C q => by
    obtain ⟨hK, hA, hz, hB⟩ := q.2.2.2.2.1
    have h0 := hA a hs.1 hs.2.1
    rw [ce_i hs.2.2 (by decide) (by decide)] at h0
    obtain ⟨g1, g2⟩ := nI_in' hi hj hn
    exact va_iald (D := gD G) C.1 C.2.1 hK (one_P h0) 0 0 rfl rfl g1 hd (by rw [g2]; exact kk p e s m args below meth c H locs ls C q)
theorem aw_baload {i : Int32} {j n a : Nat} (hd : decode μ.2.1 pc = .ok (.baload, 1)) (hs : Sh G E a 21 n) (hi : i = nI j) (hj : j < n) (kk : AW G μ R Z X z0 (pc + 1) lo (.int (iv a j) :: st) E iv lv) (hn : n < 2 ^ 31 := by decide) : AW G μ R Z X z0 pc lo (.int i :: .ref a :: st) E iv lv :=
  fun p e s m args below meth c H locs ls C q => by
    obtain ⟨hK, hA, hz, hB⟩ := q.2.2.2.2.1
    have h0 := hA a hs.1 hs.2.1
    rw [ce_i hs.2.2 (by decide) (by decide)] at h0
    obtain ⟨g1, g2⟩ := nI_in' hi hj hn
    exact va_bald (D := gD G) C.1 C.2.1 hK (one_P h0) 0 1 rfl rfl g1 hd (by rw [g2]; exact kk p e s m args below meth c H locs ls C q)
theorem aw_aaload {i : Int32} {j n a b t : Nat} (hd : decode μ.2.1 pc = .ok (.aaload, 1)) (hs : Sh G E a t n) (ht : 22 ≤ t ∧ t < 26) (hi : i = nI j) (hj : j < n) (hr : E.2.2 a j = some b) (kk : AW G μ R Z X z0 (pc + 1) lo (.ref b :: st) E iv lv) (hn : n < 2 ^ 31 := by decide) : AW G μ R Z X z0 pc lo (.int i :: .ref a :: st) E iv lv :=
  fun p e s m args below meth c H locs ls C q => by
    obtain ⟨hK, hA, hz, hB⟩ := q.2.2.2.2.1
    have h0 := hA a hs.1 hs.2.1
    rw [ce_r hs.2.2 ht.1] at h0
    obtain ⟨g1, g2⟩ := nI_in' hi hj hn
    have hlt : i.toNatClampNeg < n := by rw [g2]; exact hj
    have hty : ∃ ty : FieldType, (tysA (gA G))[t - 20]? = some (gA G (t - 20), ty) ∧ ty.isReference = true := by
      have : t = 22 ∨ t = 23 ∨ t = 24 ∨ t = 25 := by omega
      rcases this with e | e | e | e <;> subst e <;> exact ⟨_, rfl, rfl⟩
    obtain ⟨ty, t1, t2⟩ := hty
    refine W.aald (v := va_rf (E.2.2 a i.toNatClampNeg)) (ty := ty) C.1 C.2.1 h0 ((hK.2 _ _ t1).1 n (fun j => va_rf (E.2.2 a j))) t2 (fun q => by cases q) (by show ¬ (i < 0 ∨ (arrV _ _ _).slots.size ≤ _); rw [arrV_size]; exact g1) (by show (arrV _ _ _).slots[_]? = _; rw [arrV_read _ _ hlt]) rfl rfl hd ?_
    rw [g2, hr]
    exact kk p e s m args below meth c H locs ls C q
theorem aw_alen {n a t : Nat} (hd : decode μ.2.1 pc = .ok (.arraylength, 1)) (hs : Sh G E a t n) (ht : 20 ≤ t ∧ t < 26) (kk : AW G μ R Z X z0 (pc + 1) lo (.int (nI n) :: st) E iv lv) : AW G μ R Z X z0 pc lo (.ref a :: st) E iv lv :=
  fun p e s m args below meth c H locs ls C q => by
    obtain ⟨hK, hA, hz, hB⟩ := q.2.2.2.2.1
    have h0 := hA a hs.1 hs.2.1
    have hty : ∃ ty : FieldType, (tysA (gA G))[t - 20]? = some (gA G (t - 20), ty) := by
      have : t = 20 ∨ t = 21 ∨ t = 22 ∨ t = 23 ∨ t = 24 ∨ t = 25 := by omega
      rcases this with e | e | e | e | e | e <;> subst e <;> exact ⟨_, rfl⟩
    obtain ⟨ty, t1⟩ := hty
    by_cases h : t < 22
    · rw [ce_i hs.2.2 ht.1 h] at h0
      exact va_alen (D := gD G) C.1 C.2.1 hK (one_P h0) 0 _ rfl t1 rfl hd (kk p e s m args below meth c H locs ls C q)
    · rw [ce_r hs.2.2 (by omega)] at h0
      exact va_alen (D := gD G) C.1 C.2.1 hK (one_P h0) 0 _ rfl t1 rfl hd (kk p e s m args below meth c H locs ls C q)
theorem aw_iastore {i x : Int32} {j n a : Nat} (hd : decode μ.2.1 pc = .ok (.iastore, 1)) (hs : Sh G E a 20 n) (hi : i = nI j) (hj : j < n) (kk : AW G μ R Z X z0 (pc + 1) lo st E (va_up iv a (upd (iv a) j x)) lv) (hn : n < 2 ^ 31 := by decide) : AW G μ R Z X z0 pc lo (.int x :: .int i :: .ref a :: st) E iv lv :=
  fun p e s m args below meth c H locs ls C q => by
    have hw := q.2.2.2.2.1
    obtain ⟨hK, hA, hz, hB⟩ := q.2.2.2.2.1
    have h0 := hA a hs.1 hs.2.1
    rw [ce_i hs.2.2 (by decide) (by decide)] at h0
    obtain ⟨g1, g2⟩ := nI_in' hi hj hn
    refine W.iast C.1 C.2.1 h0 ((hK.2 0 _ rfl).1 n (fun j => .int (iv a j))) (fun q => by cases q) (by show ¬ (i < 0 ∨ (arrV _ _ _).slots.size ≤ _); rw [arrV_size]; exact g1) rfl rfl hd fun H1 e1 z oq => ?_
    refine kk p e s m args below meth c H1 _ ls C ⟨q.1, q.2.1, q.2.2.1, q.2.2.2.1, wd.set (G := G) (a := a) hw rfl (fun b hb => ce_eq rfl rfl (by simp [va_up, hb]) rfl) z oq ?_, q.2.2.2.2.2.1.put z oq hs.1, q.2.2.2.2.2.2⟩
    rw [ce_i hs.2.2 (by decide) (by decide)]
    show H1[a]? = some (vp_cell _ _)
    rw [e1, vp_cell_i, vp_cell_i, arrV_store, g2]
    congr 2
    funext k
    by_cases hk : k = j
    · subst hk
      simp [updV, upd, va_up]
    · simp [updV, upd, va_up, hk]
theorem aw_bastore {i x : Int32} {j n a : Nat} (hd : decode μ.2.1 pc = .ok (.bastore, 1)) (hs : Sh G E a 21 n) (hi : i = nI j) (hj : j < n) (kk : AW G μ R Z X z0 (pc + 1) lo st E (va_up iv a (upd (iv a) j x.toInt8.toInt32)) lv) (hn : n < 2 ^ 31 := by decide) : AW G μ R Z X z0 pc lo (.int x :: .int i :: .ref a :: st) E iv lv :=
  fun p e s m args below meth c H locs ls C q => by
    have hw := q.2.2.2.2.1
    obtain ⟨hK, hA, hz, hB⟩ := q.2.2.2.2.1
    have h0 := hA a hs.1 hs.2.1
    rw [ce_i hs.2.2 (by decide) (by decide)] at h0
    obtain ⟨g1, g2⟩ := nI_in' hi hj hn
    refine W.bast C.1 C.2.1 h0 ((hK.2 1 _ rfl).1 n (fun j => .int (iv a j))) (fun q => by cases q) (by show ¬ (i < 0 ∨ (arrV _ _ _).slots.size ≤ _); rw [arrV_size]; exact g1) rfl rfl hd fun H1 e1 z oq => ?_
    refine kk p e s m args below meth c H1 _ ls C ⟨q.1, q.2.1, q.2.2.1, q.2.2.2.1, wd.set (G := G) (a := a) hw rfl (fun b hb => ce_eq rfl rfl (by simp [va_up, hb]) rfl) z oq ?_, q.2.2.2.2.2.1.put z oq hs.1, q.2.2.2.2.2.2⟩
    rw [ce_i hs.2.2 (by decide) (by decide)]
    show H1[a]? = some (vp_cell _ _)
    rw [e1, vp_cell_i, vp_cell_i, arrV_store, g2]
    congr 2
    funext k
    by_cases hk : k = j
    · subst hk
      simp [updV, upd, va_up, narrow_byte]
    · simp [updV, upd, va_up, hk]
theorem wd.end {s t : State} {H : Heap} (hw : wd G E iv lv s H) (ht : t.heap = H) (hW : s.WarmedH t.vm) : wd G E iv lv t t.heap := by
  subst ht
  exact wd.moved hW.alike hw
theorem aw_iret {Q : Option Value → SH → IV → LV → Prop} {v : Int32} (hd : decode μ.2.1 pc = .ok (.ireturn, 1)) (hr : μ.2.2.2 = some .int) (hb : RB R z0 E 0 0) (hq : Q (some (.int v)) E iv lv) : AW G μ R (ZM G R Q) X z0 pc lo [.int v] E iv lv :=
  fun p e s m args below meth c H locs ls C q => W.widen (k := R.cells) (n := R.slots) hb.2.2.1 hb.2.2.2 (W.iret C.1 C.2.1 (C.2.2.2.1.trans hr) (fun t ht hW => ⟨⟨_, E, iv, lv, rfl, hq, q.2.2.2.2.1.end ht hW⟩, q.2.2.2.2.2.1.F ht⟩) q.2.2.2.2.2.1.2.2 hd C.2.2.2.2.1)
theorem aw_zret {Q : Option Value → SH → IV → LV → Prop} {v : Int32} (hd : decode μ.2.1 pc = .ok (.ireturn, 1)) (hr : μ.2.2.2 = some .boolean) (hn : narrow .boolean (.int v) = .int v) (hb : RB R z0 E 0 0) (hq : Q (some (.int v)) E iv lv) : AW G μ R (ZM G R Q) X z0 pc lo [.int v] E iv lv :=
  fun p e s m args below meth c H locs ls C q => W.widen (k := R.cells) (n := R.slots) hb.2.2.1 hb.2.2.2 (W.zret C.1 C.2.1 (C.2.2.2.1.trans hr) hn (fun t ht hW => ⟨⟨_, E, iv, lv, rfl, hq, q.2.2.2.2.1.end ht hW⟩, q.2.2.2.2.2.1.F ht⟩) q.2.2.2.2.2.1.2.2 hd C.2.2.2.2.1)
theorem aw_lret {Q : Option Value → SH → IV → LV → Prop} {v : Int64} (hd : decode μ.2.1 pc = .ok (.lreturn, 1)) (hr : μ.2.2.2 = some .long) (hb : RB R z0 E 0 0) (hq : Q (some (.long v)) E iv lv) : AW G μ R (ZM G R Q) X z0 pc lo [.long v] E iv lv :=
  fun p e s m args below meth c H locs ls C q => W.widen (k := R.cells) (n := R.slots) hb.2.2.1 hb.2.2.2 (W.lret C.1 C.2.1 (C.2.2.2.1.trans hr) (fun t ht hW => ⟨⟨_, E, iv, lv, rfl, hq, q.2.2.2.2.1.end ht hW⟩, q.2.2.2.2.2.1.F ht⟩) q.2.2.2.2.2.1.2.2 hd C.2.2.2.2.1)
theorem aw_vret {Q : Option Value → SH → IV → LV → Prop} (hd : decode μ.2.1 pc = .ok (.return_, 1)) (hr : μ.2.2.2 = none) (hb : RB R z0 E 0 0) (hq : Q none E iv lv) : AW G μ R (ZM G R Q) X z0 pc lo [] E iv lv :=
  fun p e s m args below meth c H locs ls C q => W.widen (k := R.cells) (n := R.slots) hb.2.2.1 hb.2.2.2 (W.vret C.1 C.2.1 (C.2.2.2.1.trans hr) (fun t ht hW => ⟨⟨_, E, iv, lv, rfl, hq, q.2.2.2.2.1.end ht hW⟩, q.2.2.2.2.2.1.F ht⟩) q.2.2.2.2.2.1.2.2 hd C.2.2.2.2.1)
theorem run_go {Q : Option Value → SH → IV → LV → Prop} {Qz : State → Prop} {p : Program} {l : Launch} {e : Jvm.Env} {s : State} {m : MethodId} {args a : Array Value} {below : List Frame} {meth : Method} {c : Code} {H : Heap} {locs : List Loc} {cells slots mc ms : Nat} {ls : Array Slot} {st0 rest : List Value}
    (hr : va_Run p l e R s m args below meth c H locs cells slots mc ms (F0 m pc ls st0) rest (QM G Q a) (fun q => gB G ≤ q)) (hS : va_S (fun q => gB G ≤ q) s.heap H locs)
    (kk : ∀ (r : Option Value) (E' : SH) (iv' : IV) (lv' : LV) (H1 : Heap) (locs1 : List Loc), Q r E' iv' lv' → wd G E' iv' lv' s H1 → va_S (fun q => gB G ≤ q) s.heap H1 locs1 → W p l e R s m args below meth c H1 locs1 (cells + mc) (slots + ms) Qz (F0 m (pc + 3) ls (r.toList ++ rest))) : W p l e R s m args below meth c H locs cells slots Qz (F0 m pc ls st0) := by
  intro T hT Xs
  obtain ⟨v, st₀, t, T', L, h0, X', hL, e1, e2, ⟨⟨r, E', iv', lv', hv, hp, hb⟩, hz, hk⟩, stp⟩ := hr T hT Xs
  cases hv
  rw [h0] at hz hk
  obtain ⟨t2, a1, b1⟩ := kk v E' iv' lv' T'.heap (locs ++ L) hp (by rw [e1]; exact wd.moved (by rw [← e2]; exact X'.warmed.alike.symm) hb)
    ⟨Nat.le_trans hS.1 (by rw [e1]; exact hz), fun q h1 h2 => by rw [e1, hk q (Nat.lt_of_lt_of_le h1 hS.1) h2]; exact hS.2.1 q h1 h2, fun q hq => by
      rcases List.mem_append.mp hq with h | h
      · exact hS.2.2 q h
      · exact hL q h⟩ T' rfl X'
  exact ⟨t2, stp t2 a1, b1⟩
theorem gi {ws : List Cond} (h : ∀ w ∈ ws, w ∈ tb) : GoodIn tb ws := fun w hw => ⟨h w hw, good_of_word (tb_good (h w hw))⟩
theorem SF.kept {s U : State} {H : Heap} {locs : List Loc} (h : SF G s s.heap) (hS : va_S (fun q => gB G ≤ q) s.heap H locs) (hU : U.heap = H) (hW : s.WarmedH U.vm) : SF G U U.heap := by
  subst hU
  exact SF.moved hW.alike (fun h q hq => va_Nw.warmM hW (h q hq)) ⟨h.1.kept hS.2.1, h.2.1.kept hS.2.1, h.2.2⟩
/-- what a call asks of the tables -/
def CB (own : String) (idx : Nat) (μ' : MI) (n : Nat) : Prop := Cond.methodLink own idx μ'.1 ∈ tb ∧ Cond.code μ'.1 μ'.2.1 μ'.2.2.1 μ'.2.2.2 ∈ tb ∧ Cond.initialized μ'.1.cls ∈ tb ∧ (μ'.1.cls ≠ "java/lang/invoke/MethodHandle" ∧ μ'.1.cls ≠ "java/lang/invoke/VarHandle" ∧ (parseMethodDescriptor μ'.1.desc).map (fun d => d.parameters.length) = some n) ∧ μ'.2.2.1 ≤ 81
theorem CB.to {own : String} {idx n d mc : Nat} {μ' : MI} {s : State} {args : Array Value} (h : CB own idx μ' n) (hts : ∀ w ∈ tb, w.before args s = true) (hR : RB R z0 E (d + 1) mc) : CallB R s args own idx μ'.1 μ'.2.1 μ'.2.2.1 μ'.2.2.2 (Cond.code μ'.1 μ'.2.1 μ'.2.2.1 μ'.2.2.2 :: tb) (rm d mc) mc (2500 * mc) n :=
  callB_of n hts (gi (fun w hw => (List.mem_cons.mp hw).elim (fun e => e ▸ h.2.1) id)) rfl rfl rfl (hts _ h.2.2.1) (hts _ h.1) h.2.2.2.1 ⟨hR.1, by
    have h1 := hR.2.1
    have h2 := h.2.2.2.2
    show 8 + (μ'.2.2.1 + 11) + 100 * d ≤ R.locals
    omega⟩
theorem aw_after {Q' : Option Value → SH → IV → LV → Prop} {mc : Nat} {rest : List Value} {p : Program} {e : Jvm.Env} {s : State} {m : MethodId} {args a : Array Value} {below : List Frame} {meth : Method} {c : Code} {H : Heap} {locs : List Loc} {ls : Array Slot} {st0 : List Value} (C : CX μ p s m args meth c) (q : WQ G μ X z0 lo E iv lv s H locs ls)
    (hr : va_Run p (gL G) e R s m args below meth c H locs (E.1 - z0) (2500 * (E.1 - z0)) mc (2500 * mc) (F0 m pc ls st0) rest (QM G Q' a) (fun q => gB G ≤ q)) (hz : z0 ≤ E.1) (hQ : ∀ r E' iv' lv', Q' r E' iv' lv' → E'.1 = E.1 + mc)
    (kk : ∀ r E' iv' lv', Q' r E' iv' lv' → AW G μ R Z X z0 (pc + 3) lo (r.toList ++ rest) E' iv' lv') : W p (gL G) e R s m args below meth c H locs (E.1 - z0) (2500 * (E.1 - z0)) (Z below args s) (F0 m pc ls st0) := by
  refine run_go hr q.2.2.2.2.2.1 (fun r E' iv' lv' H1 locs1 hq hw hS => ?_)
  have h := kk r E' iv' lv' hq p e s m args below meth c H1 locs1 ls C ⟨q.1, q.2.1, q.2.2.1, q.2.2.2.1, hw, hS, q.2.2.2.2.2.2⟩
  have e1 := hQ r E' iv' lv' hq
  have e2 : E'.1 - z0 = E.1 - z0 + mc := by omega
  rw [e2, Nat.mul_add] at h
  exact h
theorem WQ.le {s : State} {H : Heap} {locs : List Loc} {ls : Array Slot} (q : WQ G μ X z0 lo E iv lv s H locs ls) : z0 ≤ E.1 := by
  have h1 := q.2.2.2.2.2.1.1
  rw [q.2.1, q.2.2.2.2.1.2.2.1] at h1
  exact h1
theorem WQ.pre {s U : State} {H : Heap} {locs : List Loc} {ls : Array Slot} (q : WQ G μ X z0 lo E iv lv s H locs ls) (hU : U.heap = H) (hW : s.WarmedH U.vm) : PM G E iv lv U := by
  refine ⟨by rw [hU]; exact q.2.2.2.2.1.2.2.1, SF.kept q.2.2.2.1 q.2.2.2.2.2.1 hU hW, ?_⟩
  rw [hU]
  exact wd.moved hW.alike q.2.2.2.2.1
def CV (own : String) (idx : Nat) (t : Nat) (μ' : MI) (n : Nat) : Prop := CB own idx μ' n ∧ Cond.instanceMethod μ'.1 ∈ tb ∧ Cond.selects μ'.1.cls μ'.1 μ'.1 ∈ tb ∧ ∃ T N, CF t μ'.1.cls T N
theorem aw_callV {Q' : Option Value → SH → IV → LV → Prop} {idx t n d mc a nn : Nat} {μ' : MI} (As : List Value) {rest : List Value} (hd : decode μ.2.1 pc = .ok (.invokevirtual idx, 3)) (hc : CV μ.1.cls idx t μ' n) (hs : Sh G E a t nn) (sp : Spec G μ' d mc (.ref a :: As) E iv lv Q') (hn : As.length = n) (hst : st = As.reverse ++ .ref a :: rest) (hw : (rest.map fun v => v.category).sum ≤ 8) (hR : RB R z0 E (d + 1) mc)
    (hQ : ∀ r E' iv' lv', Q' r E' iv' lv' → E'.1 = E.1 + mc) (kk : ∀ r E' iv' lv', Q' r E' iv' lv' → AW G μ R Z X z0 (pc + 3) lo (r.toList ++ rest) E' iv' lv') : AW G μ R Z X z0 pc lo st E iv lv :=
  fun p e s m args below meth c H locs ls C q => by
    obtain ⟨cb, c1, c2, T, N, c3⟩ := hc
    have hts := C.2.2.2.2.2.2.1
    have h0 := q.2.2.2.2.1.2.1 a hs.1 hs.2.1
    rw [ce_o hs.2.2 c3.2.2.1] at h0
    subst hst
    exact aw_after C q (va_runV (C := μ'.1.cls) (As := As) (rest := rest) ⟨C.1, C.2.1, rfl, C.2.2.2.2.2.1, hts⟩ sp ⟨cb.to hts hR, hts _ c1, hts _ c2⟩ ⟨PM.blind, va_recv (D := gD G) q.2.2.2.2.1.1 (one_P h0) c3.1 (q0 := 0) rfl, fun U hU hW => ⟨rfl, q.pre hU hW⟩⟩ rfl hn (by rw [C.2.2.1, ← q.2.2.2.2.2.2.2]; exact q.2.2.2.2.2.2.1.1) rfl (lv_room hw) hd ⟨hR.2.2.1, hR.2.2.2⟩) q.le hQ kk
theorem aw_callS {Q' : Option Value → SH → IV → LV → Prop} {idx n d mc : Nat} {μ' : MI} (As : List Value) {rest : List Value} (hd : decode μ.2.1 pc = .ok (.invokestatic idx, 3)) (hc : CB μ.1.cls idx μ' n ∧ Cond.static μ'.1 ∈ tb) (sp : Spec G μ' d mc As E iv lv Q') (hn : As.length = n) (hst : st = As.reverse ++ rest) (hw : (rest.map fun v => v.category).sum ≤ 8) (hR : RB R z0 E (d + 1) mc)
    (hQ : ∀ r E' iv' lv', Q' r E' iv' lv' → E'.1 = E.1 + mc) (kk : ∀ r E' iv' lv', Q' r E' iv' lv' → AW G μ R Z X z0 (pc + 3) lo (r.toList ++ rest) E' iv' lv') : AW G μ R Z X z0 pc lo st E iv lv :=
  fun p e s m args below meth c H locs ls C q => by
    obtain ⟨cb, c1⟩ := hc
    have hts := C.2.2.2.2.2.2.1
    subst hst
    exact aw_after C q (va_runS (As := As) (rest := rest) ⟨C.1, C.2.1, rfl, C.2.2.2.2.2.1, hts⟩ sp ⟨cb.to hts hR, hts _ c1⟩ ⟨PM.blind, fun U hU hW => ⟨rfl, q.pre hU hW⟩⟩ rfl hn (by rw [C.2.2.1, ← q.2.2.2.2.2.2.2]; exact q.2.2.2.2.2.2.1.1) rfl (lv_room hw) hd ⟨hR.2.2.1, hR.2.2.2⟩) q.le hQ kk
theorem aw_callI {Q' : Option Value → SH → IV → LV → Prop} {idx n d mc a : Nat} {y : MethodName} {b : ByteArray} {mL : Nat} (As : List Value) {rest : List Value} (hd : decode μ.2.1 pc = .ok (.invokespecial idx, 3)) (hc : CB μ.1.cls idx (y, b, mL, none) n ∧ y.name = "<init>" ∧ Cond.instanceMethod y ∈ tb) (sp : Spec G (y, b, mL, none) d mc (.ref a :: As) E iv lv Q') (hn : As.length = n) (hst : st = As.reverse ++ .ref a :: rest) (hw : (rest.map fun v => v.category).sum ≤ 8) (hR : RB R z0 E (d + 1) mc)
    (hQ : ∀ r E' iv' lv', Q' r E' iv' lv' → E'.1 = E.1 + mc) (kk : ∀ r E' iv' lv', Q' r E' iv' lv' → AW G μ R Z X z0 (pc + 3) lo (r.toList ++ rest) E' iv' lv') : AW G μ R Z X z0 pc lo st E iv lv :=
  fun p e s m args below meth c H locs ls C q => by
    obtain ⟨cb, c1, c2⟩ := hc
    have hts := C.2.2.2.2.2.2.1
    subst hst
    exact aw_after C q (va_runI (As := As) (rest := rest) ⟨C.1, C.2.1, rfl, C.2.2.2.2.2.1, hts⟩ sp ⟨cb.to hts hR, c1, hts _ c2⟩ ⟨PM.blind, fun U hU hW => ⟨rfl, q.pre hU hW⟩⟩ rfl hn (by rw [C.2.2.1, ← q.2.2.2.2.2.2.2]; exact q.2.2.2.2.2.2.1.1) rfl (lv_room hw) hd ⟨hR.2.2.1, hR.2.2.2⟩) q.le hQ kk
/-- calls that make no cell -/
theorem aw_callV0 {Q' : Option Value → IV → LV → Prop} {idx t n d a nn : Nat} {μ' : MI} (As : List Value) {rest : List Value} (hd : decode μ.2.1 pc = .ok (.invokevirtual idx, 3)) (hc : CV μ.1.cls idx t μ' n) (hs : Sh G E a t nn) (sp : Spec0 G μ' d (.ref a :: As) E iv lv Q') (hn : As.length = n) (hst : st = As.reverse ++ .ref a :: rest) (hw : (rest.map fun v => v.category).sum ≤ 8) (hR : RB R z0 E (d + 1) 0)
    (kk : ∀ r iv' lv', Q' r iv' lv' → AW G μ R Z X z0 (pc + 3) lo (r.toList ++ rest) E iv' lv') : AW G μ R Z X z0 pc lo st E iv lv :=
  aw_callV As hd hc hs sp hn hst hw hR (fun _ E' _ _ h => by rw [h.1]; rfl) (fun r E' iv' lv' h => by rw [h.1]; exact kk r iv' lv' h.2)
theorem aw_callS0 {Q' : Option Value → IV → LV → Prop} {idx n d : Nat} {μ' : MI} (As : List Value) {rest : List Value} (hd : decode μ.2.1 pc = .ok (.invokestatic idx, 3)) (hc : CB μ.1.cls idx μ' n ∧ Cond.static μ'.1 ∈ tb) (sp : Spec0 G μ' d As E iv lv Q') (hn : As.length = n) (hst : st = As.reverse ++ rest) (hw : (rest.map fun v => v.category).sum ≤ 8) (hR : RB R z0 E (d + 1) 0)
    (kk : ∀ r iv' lv', Q' r iv' lv' → AW G μ R Z X z0 (pc + 3) lo (r.toList ++ rest) E iv' lv') : AW G μ R Z X z0 pc lo st E iv lv :=
  aw_callS As hd hc sp hn hst hw hR (fun _ E' _ _ h => by rw [h.1]; rfl) (fun r E' iv' lv' h => by rw [h.1]; exact kk r iv' lv' h.2)
/-- a private method of a nest mate -/
def CN (own : String) (idx : Nat) (t : Nat) (μ' : MI) (n : Nat) : Prop := ∃ host : String, (own, idx, μ'.1, host) ∈ nkL ∧ Cond.code μ'.1 μ'.2.1 μ'.2.2.1 μ'.2.2.2 ∈ tb ∧ Cond.initialized μ'.1.cls ∈ tb ∧ (μ'.1.cls ≠ "java/lang/invoke/MethodHandle" ∧ μ'.1.cls ≠ "java/lang/invoke/VarHandle" ∧ (parseMethodDescriptor μ'.1.desc).map (fun d => d.parameters.length) = some n) ∧ μ'.2.2.1 ≤ 81 ∧ Cond.instanceMethod μ'.1 ∈ tb ∧ Cond.selects μ'.1.cls μ'.1 μ'.1 ∈ tb ∧ ∃ T N, CF t μ'.1.cls T N
theorem aw_callN {Q' : Option Value → IV → LV → Prop} {idx t n d a nn : Nat} {μ' : MI} (As : List Value) {rest : List Value} (hd : decode μ.2.1 pc = .ok (.invokevirtual idx, 3)) (hc : CN μ.1.cls idx t μ' n) (hs : Sh G E a t nn) (sp : Spec0 G μ' d (.ref a :: As) E iv lv Q') (hn : As.length = n) (hst : st = As.reverse ++ .ref a :: rest) (hw : (rest.map fun v => v.category).sum ≤ 8) (hR : RB R z0 E (d + 1) 0)
    (kk : ∀ r iv' lv', Q' r iv' lv' → AW G μ R Z X z0 (pc + 3) lo (r.toList ++ rest) E iv' lv') : AW G μ R Z X z0 pc lo st E iv lv :=
  fun p e s m args below meth c H locs ls C q => by
    obtain ⟨host, c1, c2, c3, c4, c5, c6, c7, T, N, cf⟩ := hc
    have hts := C.2.2.2.2.2.2.1
    have h0 := q.2.2.2.2.1.2.1 a hs.1 hs.2.1
    rw [ce_o hs.2.2 cf.2.2.1] at h0
    subst hst
    have hR' : (rm d 0).frames + 1 ≤ R.frames ∧ 8 + (μ'.2.2.1 + 11) + (rm d 0).locals ≤ R.locals := ⟨hR.1, by
      have h1 := hR.2.1
      show 8 + (μ'.2.2.1 + 11) + 100 * d ≤ R.locals
      omega⟩
    have hws : ∀ w ∈ (Cond.code μ'.1 μ'.2.1 μ'.2.2.1 μ'.2.2.2 :: tb), w ∈ tb := fun w hw => (List.mem_cons.mp hw).elim (fun e => e ▸ c2) id
    have hcn : va_CN R s args μ.1.cls idx μ'.1 host μ'.2.1 μ'.2.2.1 μ'.2.2.2 (Cond.code μ'.1 μ'.2.1 μ'.2.2.1 μ'.2.2.2 :: tb) (rm d 0) 0 (2500 * 0) n := va_cnB n hts (gi hws) rfl rfl rfl (q.2.2.2.1.2.2.2.2.2.2 _ c1) (hts _ c3) c4 hR'
    exact aw_after C q (va_runVN (C := μ'.1.cls) (As := As) (rest := rest) ⟨C.1, C.2.1, rfl, C.2.2.2.2.2.1, hts⟩ sp ⟨hcn, hts _ c6, hts _ c7⟩ ⟨PM.blind, va_recv (D := gD G) q.2.2.2.2.1.1 (one_P h0) cf.1 (q0 := 0) rfl, fun U hU hW => ⟨rfl, q.pre hU hW⟩⟩ rfl hn (by rw [C.2.2.1, ← q.2.2.2.2.2.2.2]; exact q.2.2.2.2.2.2.1.1) rfl (lv_room hw) hd ⟨hR.2.2.1, hR.2.2.2⟩) q.le (fun _ E' _ _ h => by rw [h.1]; rfl) (fun r E' iv' lv' h => by rw [h.1]; exact kk r iv' lv' h.2)
/-- a method that a class inherits, or overrides -/
def CU (own : String) (idx t : Nat) (x : MethodName) (μ' : MI) (n : Nat) : Prop := Cond.methodLink own idx x ∈ tb ∧ Cond.sameMethod x.cls x.cls x.name x.desc ∈ tb ∧ Cond.selects ((vwCl[t]?).elim "" (fun r => r.1)) x μ'.1 ∈ tb ∧ Cond.instanceMethod μ'.1 ∈ tb ∧ Cond.initialized μ'.1.cls ∈ tb ∧ Cond.code μ'.1 μ'.2.1 μ'.2.2.1 μ'.2.2.2 ∈ tb ∧ (x.cls ≠ "java/lang/invoke/MethodHandle" ∧ x.cls ≠ "java/lang/invoke/VarHandle" ∧ (parseMethodDescriptor x.desc).map (fun d => d.parameters.length) = some n) ∧ μ'.2.2.1 ≤ 81 ∧
  (μ'.1 = x ∨ (Cond.instanceMethod x ∈ tb ∧ ∃ b0 m0 r0, Cond.code x b0 m0 r0 ∈ tb)) ∧ ∃ T N, CF t ((vwCl[t]?).elim "" (fun r => r.1)) T N
theorem aw_callU {Q' : Option Value → IV → LV → Prop} {idx t n d a nn : Nat} {x : MethodName} {μ' : MI} (As : List Value) {rest : List Value} (hd : decode μ.2.1 pc = .ok (.invokevirtual idx, 3)) (hc : CU μ.1.cls idx t x μ' n) (hs : Sh G E a t nn) (sp : Spec0 G μ' d (.ref a :: As) E iv lv Q') (hn : As.length = n) (hst : st = As.reverse ++ .ref a :: rest) (hw : (rest.map fun v => v.category).sum ≤ 8) (hR : RB R z0 E (d + 1) 0)
    (kk : ∀ r iv' lv', Q' r iv' lv' → AW G μ R Z X z0 (pc + 3) lo (r.toList ++ rest) E iv' lv') : AW G μ R Z X z0 pc lo st E iv lv :=
  fun p e s m args below meth c H locs ls C q => by
    obtain ⟨c1, c2, c3, c4, c5, c6, c7, c8, c9, T, N, cf⟩ := hc
    have hts := C.2.2.2.2.2.2.1
    have h0 := q.2.2.2.2.1.2.1 a hs.1 hs.2.1
    rw [ce_o hs.2.2 cf.2.2.1] at h0
    subst hst
    have hR' : (rm d 0).frames + 1 ≤ R.frames ∧ 8 + (μ'.2.2.1 + 11) + (rm d 0).locals ≤ R.locals := ⟨hR.1, by
      have h1 := hR.2.1
      show 8 + (μ'.2.2.1 + 11) + 100 * d ≤ R.locals
      omega⟩
    have hws : ∀ w ∈ (Cond.code μ'.1 μ'.2.1 μ'.2.2.1 μ'.2.2.2 :: tb), w ∈ tb := fun w hw => (List.mem_cons.mp hw).elim (fun e => e ▸ c6) id
    have hcu : va_CU R s args μ.1.cls ((vwCl[t]?).elim "" (fun r => r.1)) x.cls idx x μ'.1 μ'.2.1 μ'.2.2.1 μ'.2.2.2 (Cond.code μ'.1 μ'.2.1 μ'.2.2.1 μ'.2.2.2 :: tb) (rm d 0) 0 (2500 * 0) n := by
      rcases c9 with e1 | ⟨e1, b0, m0, r0, e2⟩
      · refine va_cwU n hts (gi (fun w hw => ?_)) rfl rfl rfl e1 c7 hR'
        rcases List.mem_append.mp hw with h | h
        · simp only [List.mem_cons, List.not_mem_nil, or_false] at h
          rcases h with h | h | h | h | h <;> rw [h] <;> assumption
        · exact hws w h
      · refine va_cwO n hts (gi (fun w hw => ?_)) rfl rfl rfl e2 c7 hR'
        rcases List.mem_append.mp hw with h | h
        · simp only [List.mem_cons, List.not_mem_nil, or_false] at h
          rcases h with h | h | h | h | h | h <;> rw [h] <;> assumption
        · exact hws w h
    exact aw_after C q (va_runU (As := As) (rest := rest) ⟨C.1, C.2.1, rfl, C.2.2.2.2.2.1, hts⟩ sp hcu ⟨PM.blind, va_recv (D := gD G) q.2.2.2.2.1.1 (one_P h0) cf.1 (q0 := 0) rfl, fun U hU hW => ⟨rfl, q.pre hU hW⟩⟩ rfl hn (by rw [C.2.2.1, ← q.2.2.2.2.2.2.2]; exact q.2.2.2.2.2.2.1.1) rfl (lv_room hw) hd ⟨hR.2.2.1, hR.2.2.2⟩) q.le (fun _ E' _ _ h => by rw [h.1]; rfl) (fun r E' iv' lv' h => by rw [h.1]; exact kk r iv' lv' h.2)
theorem aw_mmax {x y : Int32} {idx : Nat} (hd : decode μ.2.1 pc = .ok (.invokestatic idx, 3)) (hm : Cond.methodLink μ.1.cls idx Lib.Math.max.name ∈ tb) (hst : Cond.static Lib.Math.max.name ∈ tb) (hin : Cond.initialized "java/lang/Math" ∈ tb) (hc : Cond.code Lib.Math.max.name Lib.Math.max.code 2 (some .int) ∈ tb) (hw : (st.map fun v => v.category).sum ≤ 60) (hR : RB R z0 E 1 0) (kk : AW G μ R Z X z0 (pc + 3) lo (.int (if x < y then y else x) :: st) E iv lv) : AW G μ R Z X z0 pc lo (.int y :: .int x :: st) E iv lv :=
  fun p e s m args below meth c H locs ls C q => by
    have hts := C.2.2.2.2.2.2.1
    exact va_mmax C.1 C.2.1 (by rw [C.2.2.1, ← q.2.2.2.2.2.2.2]; exact q.2.2.2.2.2.2.1.1.symm) C.2.2.2.2.2.1 (hts _ hm) (hts _ hst) (hts _ hin) (hts _ hc) hR.1 (by have := hR.2.1; omega) hR.2.2.1 hR.2.2.2 hd (kk p e s m args below meth c H locs ls C q)
theorem aw_mmin {x y : Int32} {idx : Nat} (hd : decode μ.2.1 pc = .ok (.invokestatic idx, 3)) (hm : Cond.methodLink μ.1.cls idx Lib.Math.min.name ∈ tb) (hst : Cond.static Lib.Math.min.name ∈ tb) (hin : Cond.initialized "java/lang/Math" ∈ tb) (hc : Cond.code Lib.Math.min.name Lib.Math.min.code 2 (some .int) ∈ tb) (hw : (st.map fun v => v.category).sum ≤ 60) (hR : RB R z0 E 1 0) (kk : AW G μ R Z X z0 (pc + 3) lo (.int (if y < x then y else x) :: st) E iv lv) : AW G μ R Z X z0 pc lo (.int y :: .int x :: st) E iv lv :=
  fun p e s m args below meth c H locs ls C q => by
    have hts := C.2.2.2.2.2.2.1
    exact va_mmin C.1 C.2.1 (by rw [C.2.2.1, ← q.2.2.2.2.2.2.2]; exact q.2.2.2.2.2.2.1.1.symm) C.2.2.2.2.2.1 (hts _ hm) (hts _ hst) (hts _ hin) (hts _ hc) hR.1 (by have := hR.2.1; omega) hR.2.2.1 hR.2.2.2 hd (kk p e s m args below meth c H locs ls C q)
theorem aw_copy {idx a0 a n0 n1 jn jd js : Nat} {sp dp n : Int32} (hd : decode μ.2.1 pc = .ok (.invokestatic idx, 3)) (hm : Cond.methodLink μ.1.cls idx arraycopyName ∈ tb) (hst : Cond.static arraycopyName ∈ tb) (hna : Cond.native arraycopyName ∈ tb) (hin : Cond.initialized "java/lang/System" ∈ tb) (h0 : Sh G E a0 20 n0) (h1 : Sh G E a 20 n1) (es : sp = nI js) (ed : dp = nI jd) (en : n = nI jn) (hs : js + jn ≤ n0) (hdd : jd + jn ≤ n1) (hw : (st.map fun v => v.category).sum ≤ 60) (hR : RB R z0 E 1 0) (kk : AW G μ R Z X z0 (pc + 3) lo st E (va_up iv a (va_cpy (iv a0) (iv a) js jd jn)) lv) (hn0 : n0 < 2 ^ 31 := by decide) (hn1 : n1 < 2 ^ 31 := by decide) : AW G μ R Z X z0 pc lo (.int n :: .int dp :: .ref a :: .int sp :: .ref a0 :: st) E iv lv :=
  fun p e s m args below meth c H locs ls C q => by
    have hts := C.2.2.2.2.2.2.1
    subst es ed en
    have es : (nI js).toNatClampNeg = js := nI_clamp (by omega)
    have ed : (nI jd).toNatClampNeg = jd := nI_clamp (by omega)
    have en : (nI jn).toNatClampNeg = jn := nI_clamp (by omega)
    have hwd := q.2.2.2.2.1
    obtain ⟨hK, hA, hz, hB⟩ := q.2.2.2.2.1
    have g0 := hA a0 h0.1 h0.2.1
    rw [ce_i h0.2.2 (by decide) (by decide)] at g0
    have g1 := hA a h1.1 h1.2.1
    rw [ce_i h1.2.2 (by decide) (by decide)] at g1
    have hc0 : H[a0]? = some (vp_cell (gA G 0) (n0, .inl (iv a0))) := g0
    have hc1 : H[a]? = some (vp_cell (gA G 0) (n1, .inl (iv a))) := g1
    obtain ⟨-, k0, hk0, cm0, hkk0⟩ := (hK.2 0 _ rfl).1 n0 (fun j => .int (iv a0 j))
    obtain ⟨-, k1, hk1, cm1, hkk1⟩ := (hK.2 0 _ rfl).1 n1 (fun j => .int (iv a j))
    have nn : ∀ z : Nat, z < 2 ^ 31 → (nI z).toInt = (z : Int) := fun z h => nI_toInt h
    intro T hT Xs
    obtain ⟨vm', X', step⟩ := Xs.arraycopy C.1 C.2.2.2.2.2.1 (hts _ hm) (hts _ hna) (hts _ hst) (hts _ hin) (src := a0) (dst := a) (cs := vp_cell (gA G 0) (n0, .inl (iv a0))) (cd := vp_cell (gA G 0) (n1, .inl (iv a))) (srcPos := nI js) (destPos := nI jd) (n := nI jn) (by rw [hT]; exact hc0) (by rw [hT]; exact hc1)
      (fun _ h => by cases h) (fun _ h => by cases h) (fun h => by cases h) (fun h => by cases h) hk0 hk1 hkk0 hkk1 rfl (nI_pos (by omega)) (nI_pos (by omega)) (nI_pos (by omega))
      (by rw [nn js (by omega), nn jn (by omega)]; show ¬ _ > ((arrV (gA G 0) n0 (fun j => .int (iv a0 j))).slots.size : Int); rw [arrV_size]; omega)
      (by rw [nn jd (by omega), nn jn (by omega)]; show ¬ _ > ((arrV (gA G 0) n1 (fun j => .int (iv a j))).slots.size : Int); rw [arrV_size]; omega)
      (fun vm₁ _ i hi => by
        rw [en] at hi
        have e : (vp_cell (gA G 0) (n0, .inl (iv a0))).slots.getD ((nI js).toNatClampNeg + i) .null = .int (iv a0 ((nI js).toNatClampNeg + i)) := by
          show (arrV (gA G 0) n0 (fun j => .int (iv a0 j))).slots.getD _ _ = _
          rw [Array.getD_eq_getD_getElem?, arrV_read _ _ (by rw [es]; omega)]
          rfl
        exact ⟨by rw [e]; rfl, by rw [e]; exact trivial⟩)
      (g := F0 m pc ls (.int (nI jn) :: .int (nI jd) :: .ref a :: .int (nI js) :: .ref a0 :: st)) rfl (by rw [C.2.2.1, ← q.2.2.2.2.2.2.2]; exact q.2.2.2.2.2.2.1.1) (rest := st) rfl (by rw [C.2.1]; exact hd) hR.1 (by
        have h9 := hR.2.1
        have h8 : nativeFrameWords "java/lang/System" "arraycopy" 5 ≤ 20 := by decide
        show 2 * 0 + _ + _ ≤ _
        omega)
    have e1 : copied (vp_cell (gA G 0) (n0, .inl (iv a0))) (vp_cell (gA G 0) (n1, .inl (iv a))) (nI js) (nI jd) (nI jn) = vp_cell (gA G 0) (n1, .inl (va_cpy (iv a0) (iv a) (nI js).toNatClampNeg (nI jd).toNatClampNeg (nI jn).toNatClampNeg)) := va_copied (fun z => .int z) (gA G 0) (gA G 0) (iv a0) (iv a) (by rw [es, en]; exact hs)
    rw [e1] at X' step
    rw [es, ed, en] at X' step
    have hl : a < H.size := (Array.getElem?_eq_some_iff.mp hc1).1
    have hheap : ((T.setVm vm').setCell a (vp_cell (gA G 0) (n1, .inl (va_cpy (iv a0) (iv a) js jd jn)))).heap = H.setIfInBounds a (vp_cell (gA G 0) (n1, .inl (va_cpy (iv a0) (iv a) js jd jn))) := by rw [← hT]; rfl
    have oq : ∀ q : Nat, q ≠ a → (H.setIfInBounds a (vp_cell (gA G 0) (n1, .inl (va_cpy (iv a0) (iv a) js jd jn))))[q]? = H[q]? := fun q hq => by simp [Array.getElem?_setIfInBounds, Ne.symm hq]
    obtain ⟨t, a1, b1⟩ := kk p e s m args below meth c _ _ ls C ⟨q.1, q.2.1, q.2.2.1, q.2.2.2.1, wd.set (G := G) (a := a) hwd rfl (fun b hb => ce_eq rfl rfl (by simp [va_up, hb]) rfl) (by simp) oq (by
      rw [ce_i h1.2.2 (by decide) (by decide)]
      show (H.setIfInBounds a _)[a]? = some _
      simp [Array.getElem?_setIfInBounds, hl, va_up]), ⟨by simp; exact q.2.2.2.2.2.1.1, fun x g1 g2 => by
        rw [oq x (fun e => g2 (by rw [e]; exact h1.1))]
        exact q.2.2.2.2.2.1.2.1 x g1 g2, fun x hx => by
        rcases List.mem_append.mp hx with h | h
        · exact q.2.2.2.2.2.1.2.2 x h
        · obtain ⟨z, -, hz⟩ := List.mem_map.mp h
          rw [← hz]
          exact h1.1⟩, q.2.2.2.2.2.2⟩ _ hheap X'
    exact ⟨t, step t a1, b1⟩
end AWH
