/-! MAKING: new cells of the flat machine. -/
def mkE (E : SH) (e t n : Nat) : SH := (e + 1, va_up E.2.1 e (t, n), va_up E.2.2 e (fun _ => none))
def setR (E : SH) (a k b : Nat) : SH := (E.1, E.2.1, va_up E.2.2 a (va_up (E.2.2 a) k (some b)))
def mnE (E : SH) (e : Nat) : SH := (e + 7, fun b => if b = e then (25, 6) else if e < b then (20, 21) else E.2.1 b, fun b => if b = e then (fun i => if i < 6 then some (e + 1 + i) else none) else if e < b then (fun _ => none) else E.2.2 b)
def mnV {α : Type} (iv : Nat → Nat → α) (e : Nat) (z : α) : Nat → Nat → α := fun b => if e ≤ b then (fun _ => z) else iv b
def DF (t : Nat) : Prop := ∀ j, j < nF t → defaultValue (tyT t j) = fv (fun _ _ => none) (fun _ _ => 0) (fun _ _ => 0) t 0 j
theorem df_0 : DF 0 := fun j hj => absurd hj (Nat.not_lt_zero j)
theorem df_1 : DF 1 := fun j hj => absurd hj (Nat.not_lt_zero j)
theorem df_2 : DF 2 := fun j hj => absurd hj (Nat.not_lt_zero j)
theorem df_4 : DF 4 := fun j hj => absurd hj (Nat.not_lt_zero j)
theorem df_6 : DF 6 := fun j hj => absurd hj (Nat.not_lt_zero j)
theorem df_8 : DF 8 := fun j hj => absurd hj (Nat.not_lt_zero j)
theorem df_3 : DF 3 := fun j hj => by
  replace hj : j < 10 := hj
  rcases (show j = 0 ∨ j = 1 ∨ j = 2 ∨ j = 3 ∨ j = 4 ∨ j = 5 ∨ j = 6 ∨ j = 7 ∨ j = 8 ∨ j = 9 by omega) with rfl | rfl | rfl | rfl | rfl | rfl | rfl | rfl | rfl | rfl <;> rfl
theorem df_5 : DF 5 := fun j hj => by
  replace hj : j < 2 := hj
  rcases (show j = 0 ∨ j = 1 by omega) with rfl | rfl <;> rfl
theorem df_7 : DF 7 := fun j hj => by
  replace hj : j < 2 := hj
  rcases (show j = 0 ∨ j = 1 by omega) with rfl | rfl <;> rfl
theorem df_9 : DF 9 := fun j hj => by
  replace hj : j < 16 := hj
  rcases (show j = 0 ∨ j = 1 ∨ j = 2 ∨ j = 3 ∨ j = 4 ∨ j = 5 ∨ j = 6 ∨ j = 7 ∨ j = 8 ∨ j = 9 ∨ j = 10 ∨ j = 11 ∨ j = 12 ∨ j = 13 ∨ j = 14 ∨ j = 15 by omega) with rfl | rfl | rfl | rfl | rfl | rfl | rfl | rfl | rfl | rfl | rfl | rfl | rfl | rfl | rfl | rfl <;> rfl
theorem df_10 : DF 10 := fun j hj => by
  replace hj : j < 11 := hj
  rcases (show j = 0 ∨ j = 1 ∨ j = 2 ∨ j = 3 ∨ j = 4 ∨ j = 5 ∨ j = 6 ∨ j = 7 ∨ j = 8 ∨ j = 9 ∨ j = 10 by omega) with rfl | rfl | rfl | rfl | rfl | rfl | rfl | rfl | rfl | rfl | rfl <;> rfl
theorem df_11 : DF 11 := fun j hj => by
  replace hj : j < 29 := hj
  rcases (show j = 0 ∨ j = 1 ∨ j = 2 ∨ j = 3 ∨ j = 4 ∨ j = 5 ∨ j = 6 ∨ j = 7 ∨ j = 8 ∨ j = 9 ∨ j = 10 ∨ j = 11 ∨ j = 12 ∨ j = 13 ∨ j = 14 ∨ j = 15 ∨ j = 16 ∨ j = 17 ∨ j = 18 ∨ j = 19 ∨ j = 20 ∨ j = 21 ∨ j = 22 ∨ j = 23 ∨ j = 24 ∨ j = 25 ∨ j = 26 ∨ j = 27 ∨ j = 28 by omega) with rfl | rfl | rfl | rfl | rfl | rfl | rfl | rfl | rfl | rfl | rfl | rfl | rfl | rfl | rfl | rfl | rfl | rfl | rfl | rfl | rfl | rfl | rfl | rfl | rfl | rfl | rfl | rfl | rfl <;> rfl
section AWN
variable {G : GC} {μ : MI} {R : Room} {Z : List Frame → Array Value → State → State → Prop} {X : State → Prop} {z0 pc : Nat} {lo : List (Option Value)} {st : List Value} {E : SH} {iv : IV} {lv : LV}
/-- a cell more, behind all others -/
theorem wd.more {s : State} {H H1 : Heap} {e t n : Nat} (h : wd G E iv lv s H) (he : E.1 = e) (hz : H1.size = e + 1) (ho : ∀ q : Nat, q < e → H1[q]? = H[q]?) (ha : va_at (gD G) vwCl (e, ce (gA G) (mkE E e t n) (va_up iv e (fun _ => 0)) (va_up lv e (fun _ => 0)) e) H1) : wd G (mkE E e t n) (va_up iv e (fun _ => 0)) (va_up lv e (fun _ => 0)) s H1 := by
  subst he
  obtain ⟨hK, hA, hs, hB⟩ := h
  refine ⟨hK, fun b h1 h2 => ?_, hz, Nat.le_succ_of_le hB⟩
  replace h2 : b < E.1 + 1 := h2
  by_cases q : b = E.1
  · subst q
    exact ha
  · rw [ce_eq (E := E) (iv := iv) (lv := lv) (va_up_n q) (va_up_n q) (va_up_n q) (va_up_n q)]
    exact (hA b h1 (by omega)).kept (ho b (by omega))
theorem grow {E' : SH} {iv' : IV} {lv' : LV} {p : Program} {e : Jvm.Env} {s : State} {m : MethodId} {args : Array Value} {below : List Frame} {meth : Method} {c : Code} {H H1 : Heap} {locs : List Loc} {ls : Array Slot} {lo' : List (Option Value)} {st' : List Value} {pc' cells slots mc : Nat} (C : CX μ p s m args meth c) (q : WQ G μ X z0 lo E iv lv s H locs ls) (hlo : lo' = lo) (hE : E'.1 = E.1 + mc) (hw : wd G E' iv' lv' s H1) (ho : ∀ x : Nat, x < E.1 → H1[x]? = H[x]?) (hc : cells = E.1 - z0 + mc) (hs : slots ≤ 2500 * (E.1 - z0) + 2500 * mc)
    (kk : AW G μ R Z X z0 pc' lo' st' E' iv' lv') : W p (gL G) e R s m args below meth c H1 locs cells slots (Z below args s) (F0 m pc' ls st') := by
  subst hlo
  have hle := q.le
  have hS := q.2.2.2.2.2.1
  have hsz : H.size = E.1 := q.2.2.2.2.1.2.2.1
  have hk := kk p e s m args below meth c H1 locs ls C ⟨q.1, q.2.1, q.2.2.1, q.2.2.2.1, hw, ⟨by rw [hw.2.2.1, hE, ← hsz]; exact Nat.le_trans hS.1 (Nat.le_add_right _ _), fun x h1 h2 => (ho x (by rw [← hsz]; exact Nat.lt_of_lt_of_le h1 hS.1)).trans (hS.2.1 x h1 h2), hS.2.2⟩, q.2.2.2.2.2.2⟩
  rw [hE, show E.1 + mc - z0 = E.1 - z0 + mc by omega] at hk
  refine W.widen (k := E.1 - z0 + mc) (n := 2500 * (E.1 - z0 + mc)) (by omega) (by rw [Nat.mul_add]; exact hs) hk
theorem aw_new {C : String} {T : u_T} {N idx t e : Nat} (hd : decode μ.2.1 pc = .ok (.new idx, 3)) (he : E.1 = e) (hck : Cond.classLink μ.1.cls idx C ∈ tb) (hin : Cond.instantiable C N ∈ tb) (hini : Cond.initialized C ∈ tb) (hcf : CF t C T N) (hdf : DF t) (hN : N ≤ 2500) (hR : RB R z0 E 0 1) (kk : AW G μ R Z X z0 (pc + 3) lo (.ref e :: st) (mkE E e t 0) (va_up iv e (fun _ => 0)) (va_up lv e (fun _ => 0))) : AW G μ R Z X z0 pc lo st E iv lv :=
  fun p e2 s m args below meth c H locs ls C q => by
    subst he
    have hts := C.2.2.2.2.2.2.1
    obtain ⟨c1, c2, c3, c4, c5, c6⟩ := hcf
    have hw := q.2.2.2.2.1
    have hKn := hw.1.1 t _ c1
    have hb1 := hR.2.2.1
    have hb2 := hR.2.2.2
    refine W.newcK C.1 C.2.1 C.2.2.2.2.2.1 (hts _ hck) (hts _ hin) (hts _ hini) rfl hd hb1 (by omega) hKn.2.1 hw.2.2.1 fun H1 kC hkC e1 z1 o1 => ?_
    refine grow C q rfl (mc := 1) rfl (wd.more (t := t) (n := 0) hw rfl z1 o1 ?_) o1 rfl (by omega) kk
    rw [ce_o (t := t) (n := 0) va_up_s c3]
    refine ⟨_, c1, (u_born (tyT t) hts c4 hKn hkC e1 c5).to (fun j hj => ?_)⟩
    have hj' : j < nF t := by rw [← c2]; exact hj
    unfold vp_V
    rw [List.getD_eq_getElem?_getD, List.getElem?_map, List.getElem?_range hj', hdf j hj']
    unfold fv mkE
    dsimp only
    rw [va_up_s, va_up_s, va_up_s]
    rfl
theorem aw_newi {n e : Nat} (hd : decode μ.2.1 pc = .ok (.newarray .int, 2)) (he : E.1 = e) (harr : Cond.arrayClass .int ∈ tb) (hn : n ≤ 2500) (hR : RB R z0 E 0 1) (kk : AW G μ R Z X z0 (pc + 2) lo (.ref e :: st) (mkE E e 20 n) (va_up iv e (fun _ => 0)) (va_up lv e (fun _ => 0))) : AW G μ R Z X z0 pc lo (.int (nI n) :: st) E iv lv :=
  fun p e2 s m args below meth c H locs ls C q => by
    subst he
    have hts := C.2.2.2.2.2.2.1
    have hw := q.2.2.2.2.1
    have hb1 := hR.2.2.1
    have hb2 := hR.2.2.2
    refine va_newaK (atype := .int) C.1 C.2.1 (hts _ harr) rfl hd rfl (nI_pos (by omega)) (nI_clamp (by omega)) (by show n * 4 ≤ _; omega) hb1 (by omega) hw.2.2.1 fun H1 cA e1 z1 o1 hAr hNm => ?_
    have hc : gA G 0 = cA := Option.some.inj ((hw.1.2 0 _ rfl).2.symm.trans hNm)
    subst hc
    refine grow C q rfl (mc := 1) rfl (wd.more (t := 20) (n := n) hw rfl z1 o1 ?_) o1 rfl (by omega) kk
    rw [ce_i (t := 20) (n := n) va_up_s (by decide) (by decide), va_up_s]
    exact e1
theorem aw_newb {n e : Nat} (hd : decode μ.2.1 pc = .ok (.newarray .byte, 2)) (he : E.1 = e) (harr : Cond.arrayClass .byte ∈ tb) (hn : n ≤ 2500) (hR : RB R z0 E 0 1) (kk : AW G μ R Z X z0 (pc + 2) lo (.ref e :: st) (mkE E e 21 n) (va_up iv e (fun _ => 0)) (va_up lv e (fun _ => 0))) : AW G μ R Z X z0 pc lo (.int (nI n) :: st) E iv lv :=
  fun p e2 s m args below meth c H locs ls C q => by
    subst he
    have hts := C.2.2.2.2.2.2.1
    have hw := q.2.2.2.2.1
    have hb1 := hR.2.2.1
    have hb2 := hR.2.2.2
    refine va_newaK (atype := .byte) C.1 C.2.1 (hts _ harr) rfl hd rfl (nI_pos (by omega)) (nI_clamp (by omega)) (by show n * 1 ≤ _; omega) hb1 (by omega) hw.2.2.1 fun H1 cA e1 z1 o1 hAr hNm => ?_
    have hc : gA G 1 = cA := Option.some.inj ((hw.1.2 1 _ rfl).2.symm.trans hNm)
    subst hc
    refine grow C q rfl (mc := 1) rfl (wd.more (t := 21) (n := n) hw rfl z1 o1 ?_) o1 rfl (by omega) kk
    rw [ce_i (t := 21) (n := n) va_up_s (by decide) (by decide), va_up_s]
    exact e1
theorem aw_newq {C : String} {idx t n e : Nat} (hd : decode μ.2.1 pc = .ok (.anewarray idx, 3)) (he : E.1 = e) (hck : Cond.classLink μ.1.cls idx C ∈ tb) (hao : C ∈ aoL) (ht : (tysA (gA G))[t - 20]? = some (gA G (t - 20), .object C)) (ht2 : 22 ≤ t) (hn : n ≤ 2500) (hR : RB R z0 E 0 1) (kk : AW G μ R Z X z0 (pc + 3) lo (.ref e :: st) (mkE E e t n) (va_up iv e (fun _ => 0)) (va_up lv e (fun _ => 0))) : AW G μ R Z X z0 pc lo (.int (nI n) :: st) E iv lv :=
  fun p e2 s m args below meth c H locs ls Cx q => by
    subst he
    have hts := Cx.2.2.2.2.2.2.1
    have hw := q.2.2.2.2.1
    have hb1 := hR.2.2.1
    have hb2 := hR.2.2.2
    have hcl : (nI n).toNatClampNeg = n := nI_clamp (by omega)
    refine W.anew Cx.1 Cx.2.1 Cx.2.2.2.2.2.1 (hts _ hck) (va_AO.use (q.2.2.2.1.2.2.2.2.1 C hao)) rfl hd rfl (nI_pos (by omega)) (by rw [hcl]; omega) hb1 (by rw [hcl]; omega) fun cA kA comp f1 f2 f3 f4 => ?_
    obtain ⟨kA2, comp2, g1, g2, g3, g4⟩ := (hw.1.2 _ _ ht).2
    have hc : gA G (t - 20) = cA := Option.some.inj (g4.symm.trans f1)
    rw [hcl, hw.2.2.1]
    generalize hH1 : H.push ({ cls := cA, slots := Array.replicate n .null, vm := .none } : Cell) = H1
    have hsz : H.size = E.1 := hw.2.2.1
    have z1 : H1.size = E.1 + 1 := by rw [← hH1, Array.size_push, hsz]
    have e1 : H1[E.1]? = some (arrV cA n (fun _ => .null)) := by rw [← hH1, ← hsz, Array.getElem?_push_size, ← arrV_new]
    have o1 : ∀ x : Nat, x < E.1 → H1[x]? = H[x]? := fun x hx => by rw [← hH1, Array.getElem?_push, if_neg (by rw [hsz]; exact Nat.ne_of_lt hx)]
    refine grow Cx q rfl (mc := 1) rfl (wd.more (t := t) (n := n) hw rfl z1 o1 ?_) o1 rfl (by omega) kk
    rw [ce_r (t := t) (n := n) va_up_s ht2, hc]
    show H1[E.1]? = some (vp_cell _ _)
    rw [vp_cell_q, e1]
    unfold mkE
    dsimp only
    rw [va_up_s]
    rfl
theorem aw_mna {idx e : Nat} (hd : decode μ.2.1 pc = .ok (.multianewarray idx 2, 4)) (he : E.1 = e) (hck : Cond.classLink μ.1.cls idx "[[I" ∈ tb) (harr : Cond.arrayClass .int ∈ tb) (hR : RB R z0 E 0 7) (kk : AW G μ R Z X z0 (pc + 4) lo (.ref e :: st) (mnE E e) (mnV iv e 0) (mnV lv e 0)) : AW G μ R Z X z0 pc lo (.int (nI 21) :: .int (nI 6) :: st) E iv lv :=
  fun p e2 s m args below meth c H locs ls Cx q => by
    subst he
    have hts := Cx.2.2.2.2.2.2.1
    have hw := q.2.2.2.2.1
    have hb1 := hR.2.2.1
    have hb2 := hR.2.2.2
    have hsz : H.size = E.1 := hw.2.2.1
    intro T hT Xs
    obtain ⟨vm₁, cA, comp, fA, fC, X', step⟩ := mq_step Xs Cx.1 Cx.2.2.2.2.2.1 (hts _ hck) q.2.2.2.1.2.2.2.2.2.1 (hts _ harr) (g := F0 m pc ls (.int (nI 21) :: .int (nI 6) :: st)) rfl (by rw [Cx.2.1]; exact hd) rfl (by omega) (by omega)
    have hTh : (T.setVm vm₁).heap = H := hT
    obtain ⟨f1, f2, f3, f4, -, -⟩ := mq_f (T.setVm vm₁) cA comp 6
    rw [hTh, hsz] at f1 f2 f3 f4
    have hold : ∀ x : Nat, x < E.1 → (mq_s (T.setVm vm₁) cA comp 6).heap[x]? = H[x]? := f3
    have hrow : ∀ j : Nat, j < 6 → (mq_s (T.setVm vm₁) cA comp 6).heap[E.1 + 1 + j]? = some (arrV comp 21 (fun _ => .int 0)) := f4
    have hcA : gA G 5 = cA := Option.some.inj ((hw.1.2 5 _ rfl).2.symm.trans fA)
    have hcI : gA G 0 = comp := Option.some.inj ((hw.1.2 0 _ rfl).2.symm.trans fC)
    generalize mq_s (T.setVm vm₁) cA comp 6 = F at X' step f1 f2 hold hrow
    have hwF : wd G (mnE E E.1) (mnV iv E.1 0) (mnV lv E.1 0) s F.heap := by
      refine ⟨hw.1, fun b h1 h2 => ?_, f1, Nat.le_trans hw.2.2.2 (Nat.le_add_right _ _)⟩
      replace h2 : b < E.1 + 7 := h2
      by_cases c0 : b < E.1
      · rw [ce_eq (E := E) (iv := iv) (lv := lv) (by show (if _ then _ else if _ then _ else _) = _; rw [if_neg (by omega), if_neg (by omega)]) (by show (if _ then _ else if _ then _ else _) = _; rw [if_neg (by omega), if_neg (by omega)]) (by unfold mnV; rw [if_neg (by omega)]) (by unfold mnV; rw [if_neg (by omega)])]
        exact (hw.2.1 b h1 c0).kept (hold b c0)
      · by_cases c1 : b = E.1
        · subst c1
          rw [ce_r (t := 25) (n := 6) (if_pos rfl) (by decide), hcA]
          show F.heap[E.1]? = some (vp_cell _ _)
          rw [vp_cell_q, f2]
          have hr : (mnE E E.1).2.2 E.1 = fun i => if i < 6 then some (E.1 + 1 + i) else none := if_pos rfl
          rw [hr]
          rfl
        · have ht : (mnE E E.1).2.1 b = (20, 21) := by show (if _ then _ else if _ then _ else _) = _; rw [if_neg c1, if_pos (by omega)]
          rw [ce_i ht (by decide) (by decide), hcI]
          show F.heap[b]? = some (vp_cell _ _)
          rw [vp_cell_i, show b = E.1 + 1 + (b - (E.1 + 1)) by omega, hrow _ (by omega)]
          unfold mnV
          rw [if_pos (by omega)]
    obtain ⟨t, a1, b1⟩ := grow (H1 := F.heap) (pc' := pc + 4) (st' := .ref E.1 :: st) (cells := E.1 - z0 + 7) (slots := 2500 * (E.1 - z0) + 132) (e := e2) (below := below) Cx q rfl (mc := 7) rfl hwF hold (by omega) (by omega) kk F rfl X'
    refine ⟨t, step t ?_, b1⟩
    rw [show T.heap.size = E.1 by rw [hT]; exact hsz]
    exact a1
theorem wd.setr {s : State} {H H1 : Heap} {a k b : Nat} (h : wd G E iv lv s H) (z : H1.size = H.size) (oq : ∀ q : Nat, q ≠ a → H1[q]? = H[q]?) (ha : va_at (gD G) vwCl (a, ce (gA G) (setR E a k b) iv lv a) H1) : wd G (setR E a k b) iv lv s H1 := wd.set (a := a) h rfl (fun x hx => ce_eq rfl (va_up_n hx) rfl rfl) z oq ha
theorem aw_aast {i : Int32} {a j n t v tv nv : Nat} {q0 : vw_C} {C : String} (hd : decode μ.2.1 pc = .ok (.aastore, 1)) (hs : Sh G E a t n) (ht : (tysA (gA G))[t - 20]? = some (gA G (t - 20), .object C)) (ht2 : 22 ≤ t) (hi : i = nI j) (hj : j < n) (hv : Sh G E v tv nv) (htv : tv < 20) (hq0 : vwCl[tv]? = some q0) (hca : q0.1 = C ∨ (q0.1, C) ∈ ycL) (kk : AW G μ R Z X z0 (pc + 1) lo st (setR E a j v) iv lv) (hn : n < 2 ^ 31 := by decide) : AW G μ R Z X z0 pc lo (.ref v :: .int i :: .ref a :: st) E iv lv :=
  fun p e s m args below meth c H locs ls Cx q => by
    have hw := q.2.2.2.2.1
    obtain ⟨hK, hA, hz, hB⟩ := q.2.2.2.2.1
    have h0 := hA a hs.1 hs.2.1
    rw [ce_r hs.2.2 ht2] at h0
    have hv0 := hA v hv.1 hv.2.1
    rw [ce_o hv.2.2 htv] at hv0
    obtain ⟨g1, g2⟩ := nI_in' hi hj hn
    obtain ⟨r', hr', cellV, w1, w2, w3, -⟩ := hv0
    have hrq : r' = q0 := Option.some.inj (hr'.symm.trans hq0)
    subst hrq
    have hcls := (hK.1 tv r' hq0).2
    obtain ⟨kA, comp, k1, k2, k3, -⟩ := (hK.2 _ _ ht).2
    obtain ⟨kC, hkC, -⟩ := hcls.2
    have hasn : s.vm.assignable ((gD G).1 tv) comp = true := by
      rcases hca with e1 | e1
      · subst e1
        have ec : comp = (gD G).1 tv := Option.some.inj (k3.symm.trans hcls.1)
        rw [ec]
        exact va_assign hcls
      · obtain ⟨c0, t1, f1, f2, f3⟩ := Cond.castable_spec (va_Nw.use (A := args) rfl (q.2.2.2.1.2.2.2.1 _ e1))
        cases hcls.1.symm.trans f1
        cases k3.symm.trans f2
        exact f3
    obtain ⟨kE, hkE, -⟩ := Vm.findClass_spec k3
    have hlt : i.toNatClampNeg < n := by rw [g2]; exact hj
    refine W.aast Cx.1 Cx.2.1 h0 (fun q h => by cases h) (fun h => by cases h) k1 k2 rfl hkE ⟨fun q => g1 (Or.inl q), by show _ < (arrV _ _ _).slots.size; rw [arrV_size]; exact hlt⟩ w1 (fun q h => by rw [w3] at h; cases h) (by rw [w2]; exact hkC) (by rw [w2]; exact hasn) rfl rfl hd fun H1 e1 z oq => ?_
    refine kk p e s m args below meth c H1 _ ls Cx ⟨q.1, q.2.1, q.2.2.1, q.2.2.2.1, wd.setr hw z oq ?_, q.2.2.2.2.2.1.put z oq hs.1, q.2.2.2.2.2.2⟩
    rw [ce_r (E := setR E a j v) hs.2.2 ht2]
    show H1[a]? = some (vp_cell _ _)
    rw [e1, vp_cell_q, vp_cell_q, arrV_store, g2]
    congr 2
    funext k
    unfold setR
    dsimp only
    rw [va_up_s]
    by_cases hk : k = j
    · subst hk
      rw [va_up_s]
      simp [updV, va_rf]
    · rw [va_up_n hk]
      simp [updV, hk]
theorem aw_putR {idx t k n a b : Nat} {fin : Bool} (hd : decode μ.2.1 pc = .ok (.putfield idx, 3)) (hf : FL μ.1.cls idx t k fin) (hin : fin = true → μ.1.name = "<init>") (hty : (tyT t k).isReference = true) (hs : Sh G E a t n) (kk : AW G μ R Z X z0 (pc + 3) lo st (setR E a k b) iv lv) : AW G μ R Z X z0 pc lo (.ref b :: .ref a :: st) E iv lv := by
  refine aw_put0 (E' := setR E a k b) hd hf hin hs ?_ ?_ rfl hs.2.2 (fun x hx => ce_eq rfl (va_up_n hx) rfl rfl) (fun j _ => ?_) kk
  · generalize tyT t k = ty at hty
    cases ty <;> first | rfl | (cases hty)
  · generalize tyT t k = ty at hty
    cases ty <;> first | rfl | (cases hty)
  · unfold fv setR
    dsimp only
    rw [va_up_s]
    by_cases e : j = k
    · subst e
      rw [va_up_s, if_pos rfl]
      generalize tyT t j = ty at hty
      cases ty <;> first | rfl | (cases hty)
    · rw [va_up_n e, if_neg e]
theorem aw_oinit {idx a : Nat} (hd : decode μ.2.1 pc = .ok (.invokespecial idx, 3)) (hl : Cond.methodLink μ.1.cls idx Lib.objectInit ∈ tb) (hi : Cond.instanceMethod Lib.objectInit ∈ tb) (hc : Cond.code Lib.objectInit ⟨#[0xb1]⟩ 1 none ∈ tb) (hw : (st.map fun v => v.category).sum ≤ 8) (hR : RB R z0 E 1 0) (kk : AW G μ R Z X z0 (pc + 3) lo st E iv lv) : AW G μ R Z X z0 pc lo (.ref a :: st) E iv lv :=
  fun p e s m args below meth c H locs ls C q => by
    have hts := C.2.2.2.2.2.2.1
    have h9 := hR.2.1
    exact W.objInit C.1 C.2.1 C.2.2.2.2.2.1 (hts _ hl) (hts _ hi) (hts _ hc) (g := F0 m pc ls (.ref a :: st)) rfl (by rw [C.2.2.1, ← q.2.2.2.2.2.2.2]; exact q.2.2.2.2.2.2.1.1) rfl hd hR.1 (by show 2 * 0 + _ + 12 ≤ _; omega) (kk p e s m args below meth c H locs ls C q)
end AWN
