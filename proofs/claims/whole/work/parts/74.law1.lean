/-! THE CLAIM OUT OF ONE WALK OF THE LAW'S BODY. Your part is whole_start (and what it stands on); all else here is the same for every law, but numbers. -/
def R_law : String := "AshGreetingsLaw"
def lw_P (b : Addr) (xs : List Int32) (args : Array Value) (s : State) : Prop := args = #[.ref b] ∧ s.IntsAt b xs ∧ xs.length ≤ 3072 ∧ (Jvm.Cond.and given_1 narrow_1).before args s = true
def lw_Q (_ : Array Value) (s : State) (o : Outcome) (t : State) : Prop := o = .returned (some (.int 1)) ∧ Framed s o t [] 600000 7302250
def lw_Z (below : List Frame) (a : Array Value) (s : State) : State → Prop := fun t => ∃ o, t.status = .running ∧ Ended t below o ∧ lw_Q a s o t
/-- the law's own end, with 1 on the stack, nothing written that was there before, its room as the claim has it -/
theorem lw_ret {p : Program} {l : Launch} {e : Env} {s : State} {m : MethodId} {below : List Frame} {meth : Method} {c : Code} {b : Nat} (hx : p.tables.exec = Jvm.exec) (hb : c.code = code) (hr : meth.sig.returnType = ret) (hlocks : meth.locks = false) {pc : Nat} {H : Heap} {ls : Array Slot} (hdg : decode code pc = .ok (.ireturn, 1)) : W p l e room_1 s m #[Value.ref b] below meth c H [] 600000 7302250 (lw_Z below #[Value.ref b] s) (F0 m pc ls [.int 1]) := by
  intro T hT X
  obtain ⟨fs, hret, hrun, hended, hW, hframe⟩ := X.leave (v := some (.int 1)) (hlocks := hlocks) (fun h => by rw [hr] at h; cases h)
  have hmeth' : T.vm.method? m = some meth := X.method'
  refine ⟨T.setFrames fs, ?_, .returned (some (.int 1)), hrun, hended, rfl, ⟨_, rfl⟩, hW, hframe⟩
  jvm_step X.here [X.here.top, hx, hb, hdg, hmeth', hr, ret, narrow_b1]
  (try refine ⟨rfl, ?_⟩); (try refine ⟨rfl, ?_⟩)
  first | (intro acts; rw [hret _ acts rfl rfl rfl]) | rw [hret _ _ rfl rfl rfl]
  exact Steps.refl _
/-- what holds at the law's entry: the machine, the code, the tables' words (any of lw_tbl by 'hts w (by decide +kernel)'), the script of L ints xs at the cell b, what the Statement gives of the start (any of its parts by flat_of_before) -/
def lw_At (p : Program) (s : State) (m : MethodId) (meth : Method) (c : Code) (b L : Nat) (xs : Nat → Int32) : Prop :=
  p.tables.exec = Jvm.exec ∧ c.code = code ∧ meth.sig.returnType = ret ∧ c.maxLocals = 4 ∧ s.vm.findClass R_law = some m.cls ∧ (∀ w ∈ lw_tbl, w.before #[Value.ref b] s = true) ∧ va_X b L xs s s.heap ∧ b < s.heap.size ∧ meth.locks = false ∧ (Jvm.Cond.and given_1 narrow_1).before #[Value.ref b] s = true
theorem lw_retA {p : Program} {l : Launch} {e : Env} {s : State} {m : MethodId} {args : Array Value} {below : List Frame} {meth : Method} {c : Code} (hx : p.tables.exec = Jvm.exec) (hb : c.code = code) (hr : meth.sig.returnType = ret) (hlocks : meth.locks = false) {pc : Nat} {H : Heap} {ls : Array Slot} (hdg : decode code pc = .ok (.ireturn, 1)) : W p l e room_1 s m args below meth c H [] 600000 7302250 (lw_Z below args s) (F0 m pc ls [.int 1]) := by
  intro T hT X
  obtain ⟨fs, hret, hrun, hended, hW, hframe⟩ := X.leave (v := some (.int 1)) (hlocks := hlocks) (fun h => by rw [hr] at h; cases h)
  have hmeth' : T.vm.method? m = some meth := X.method'
  refine ⟨T.setFrames fs, ?_, .returned (some (.int 1)), hrun, hended, rfl, ⟨_, rfl⟩, hW, hframe⟩
  jvm_step X.here [X.here.top, hx, hb, hdg, hmeth', hr, ret, narrow_b1]
  (try refine ⟨rfl, ?_⟩); (try refine ⟨rfl, ?_⟩)
  first | (intro acts; rw [hret _ acts rfl rfl rfl]) | rw [hret _ _ rfl rfl rfl]
  exact Steps.refl _
/-! the law's own rows -/
abbrev mLw (nm : String) : MI := (⟨RL, nm, "([I)Z"⟩, cL_law, 4, some .boolean)
def ZL : List Frame → Array Value → State → State → Prop := fun below args s => lw_Z below args s
def XL (G : GC) (b L : Nat) (xs : Nat → Int32) (s : State) : Prop := va_X b L xs s s.heap ∧ b < s.heap.size ∧ gB G = s.heap.size
section AWL
variable {G : GC} {μ : MI} {R : Room} {Z : List Frame → Array Value → State → State → Prop} {b L : Nat} {xs : Nat → Int32} {z0 pc : Nat} {lo : List (Option Value)} {st : List Value} {E : SH} {iv : IV} {lv : LV}
theorem aw_sld {i : Int32} {j : Nat} (hd : decode μ.2.1 pc = .ok (.iaload, 1)) (hi : i = nI j) (hj : j < L) (hL : L ≤ 3072) (kk : AW G μ R Z (XL G b L xs) z0 (pc + 1) lo (.int (xs j) :: st) E iv lv) : AW G μ R Z (XL G b L xs) z0 pc lo (.int i :: .ref b :: st) E iv lv :=
  fun p e s m args below meth c H locs ls C q => by
    obtain ⟨h1, h2, h3⟩ := q.1
    obtain ⟨g1, g2⟩ := nI_in' hi hj (by omega)
    refine va_sld C.1 C.2.1 h1 h2 (A := fun q => gB G ≤ q) (by rw [h3]; exact Nat.not_le.mpr h2) q.2.2.2.2.2.1 g1 hd ?_
    rw [g2]
    exact kk p e s m args below meth c H locs ls C q
theorem aw_slen (hd : decode μ.2.1 pc = .ok (.arraylength, 1)) (kk : AW G μ R Z (XL G b L xs) z0 (pc + 1) lo (.int (nI L) :: st) E iv lv) : AW G μ R Z (XL G b L xs) z0 pc lo (.ref b :: st) E iv lv :=
  fun p e s m args below meth c H locs ls C q => by
    obtain ⟨h1, h2, h3⟩ := q.1
    exact va_slen C.1 C.2.1 h1 h2 (A := fun q => gB G ≤ q) (by rw [h3]; exact Nat.not_le.mpr h2) q.2.2.2.2.2.1 hd (kk p e s m args below meth c H locs ls C q)
theorem aw_lawret {nm : String} (hd : decode cL_law pc = .ok (.ireturn, 1)) (hE : E.1 ≤ z0 + 200) : AW G (mLw nm) room_1 ZL (XL G b L xs) z0 pc lo [.int (nI 1)] E iv lv :=
  fun p e s m args below meth c H locs ls C q => by
    obtain ⟨h1, h2, h3⟩ := q.1
    refine va_forget (fun x hx => by rw [← h3]; exact q.2.2.2.2.2.1.2.2 x hx) ?_
    exact W.widen (k := 600000) (n := 7302250) (by omega) (by omega) (lw_retA C.1 C.2.1 C.2.2.2.1 C.2.2.2.2.1 hd)
end AWL
theorem rbL {z0 d m : Nat} {E : SH} (hE : E.1 + m ≤ z0 + 200) (hd : d ≤ 30) (hm : m ≤ 200) : RB room_1 z0 E d m := by
  refine ⟨by show d ≤ 2048; omega, by show 100 * d ≤ 84000; omega, by show E.1 - z0 + m ≤ 600000; omega, by show 2500 * (E.1 - z0) + 2500 * m ≤ 7302250; omega⟩
/-! both sides hold one state -/
def Inv (X : Nat) (A : AA) (D : DD) (T : FT) (iv : IV) (lv : LV) : Prop := (CA X A iv lv ∧ CD X D iv ∧ CT X T iv) ∧ (MA (X + 138) A iv lv ∧ MD (X + 138) D iv ∧ MT (X + 138) T iv) ∧ WD D ∧ WT T
section INV
variable {X : Nat} {A A2 : AA} {D D2 : DD} {T T2 : FT} {iv i1 i2 : IV} {lv l1 l2 : LV}
theorem M_fr {M : Nat} (hi : ∀ b, M ≤ b → b < M + 18 → i1 b = iv b) (hl : l1 M = lv M) (h : MA M A iv lv ∧ MD M D iv ∧ MT M T iv) : MA M A i1 l1 ∧ MD M D i1 ∧ MT M T i1 := by
  obtain ⟨hA, hD, hT⟩ := h
  have hM := hi M (by omega) (by omega)
  refine ⟨⟨by rw [hM]; exact hA.1, by rw [hM]; exact hA.2.1, by rw [hl]; exact hA.2.2.1, by rw [hl]; exact hA.2.2.2.1, fun f hf => by rw [hi _ (by omega) (by omega)]; exact hA.2.2.2.2 f hf⟩, MD_of (hi _ (by omega) (by omega)) (hi _ (by omega) (by omega)) (hi _ (by omega) (by omega)) (hi _ (by omega) (by omega)) hD, MT_of (by rw [hM]) (by rw [hM]) (fun b hb => hi b (by omega) (by omega)) hT⟩
theorem X_fr (hi : ∀ b, X ≤ b → b < X + 138 → i1 b = iv b) (hl : l1 X = lv X) (h : CA X A iv lv ∧ CD X D iv ∧ CT X T iv) : CA X A i1 l1 ∧ CD X D i1 ∧ CT X T i1 := by
  obtain ⟨hA, hD, hT⟩ := h
  have hM := hi X (by omega) (by omega)
  refine ⟨⟨by rw [hM]; exact hA.1, by rw [hM]; exact hA.2.1, by rw [hl]; exact hA.2.2.1, by rw [hl]; exact hA.2.2.2.1, fun f hf => by rw [hi _ (by omega) (by omega)]; exact hA.2.2.2.2 f hf⟩, CD_of (fun b h1 h2 => hi b (by omega) (by omega)) hD, CT_of (fun b hb => hi b (by omega) (by omega)) hT⟩
theorem inv_M {o : RS} {v : Int32} (h : Inv X A D T iv lv) (q : QC X iv lv o v i1 l1) : MA (X + 138) A i1 l1 ∧ MD (X + 138) D i1 ∧ MT (X + 138) T i1 := M_fr (fun b h1 h2 => q.2.2.2.2.1 b (by omega)) (q.2.2.2.2.2 _ (by omega)) h.2.1
theorem inv_QQ {o : RS} {v1 v2 : Int32} (q1 : QC X iv lv o v1 i1 l1) (q2 : QD (X + 138) i1 l1 o v2 i2 l2) (kw : KW D T o) : v1 = v2 ∧ Inv X o.2.1 o.2.2.1 o.2.2.2 i2 l2 :=
  ⟨q1.1.trans q2.1.symm, X_fr (fun b h1 h2 => q2.2.2.2.2.1 b (by omega)) (q2.2.2.2.2.2 _ (by omega)) ⟨q1.2.1, q1.2.2.1, q1.2.2.2.1⟩, ⟨q2.2.1, q2.2.2.1, q2.2.2.2.1⟩, kw⟩
theorem QX_C {o : OR} {v : Int32} (q : QX X iv lv o v i1 l1) (hT : CT X T iv) : QC X iv lv (o.1, o.2.1, o.2.2, T) v i1 l1 := by
  obtain ⟨h1, h2, h3, h4, h5⟩ := q
  subst h5
  have h4' : ∀ b, b ≠ X → b ≠ X + 57 → ¬ (X + 58 ≤ b ∧ b < X + 78) → i1 b = iv b := fun b g1 g2 g3 => h4 b (fun q => q.elim g1 (fun q => q.elim g2 g3))
  exact ⟨h1, h2, h3, CT_of (fun b hb => h4' b (by omega) (by omega) (by omega)) hT, fun b hb => h4' b (by omega) (by omega) (by omega), fun _ _ => rfl⟩
theorem QM_D {M : Nat} {o : OR} {v : Int32} (q : QMo M iv lv o v i1 l1) (hT : MT M T iv) : QD M iv lv (o.1, o.2.1, o.2.2, T) v i1 l1 := by
  obtain ⟨h1, h2, h3, h4, h5, h6, h7⟩ := q
  subst h7
  have h4' : ∀ b, ¬ (M ≤ b ∧ b < M + 9) → i1 b = iv b := fun b g => h4 b g
  exact ⟨h1, h2, h3, MT_of h5 h6 (fun b hb => h4' b (by omega)) hT, fun b hb => h4' b (by omega), fun _ _ => rfl⟩
theorem inv_dg (h : Inv X A D T iv lv) (hl : ∀ b, b ≠ X + 138 → l1 b = lv b) (hj : ∀ j, j ≠ 28 → l1 (X + 138) j = lv (X + 138) j) : Inv X A D T iv l1 := by
  obtain ⟨h1, h2, h3⟩ := h
  refine ⟨X_fr (fun _ _ _ => rfl) (hl X (by omega)) h1, ⟨⟨h2.1.1, h2.1.2.1, (hj 1 (by decide)).trans h2.1.2.2.1, (hj 2 (by decide)).trans h2.1.2.2.2.1, h2.1.2.2.2.2⟩, h2.2⟩, h3⟩
end INV
def A0 : AA := (0, 0, 0, 1, fun _ => 0)
def D0 : DD := (fun _ => none, fun _ _ => 0, fun _ => none, fun _ _ => 0)
def T0 : FT := ((0, fun _ => 0, fun _ => 0, fun _ => 0), (0, fun _ _ => 0), fun _ => none)
theorem W0 : WD D0 ∧ WT T0 := by
  refine ⟨⟨fun r _ k e => (by cases e), fun r _ k e => (by cases e)⟩, ⟨⟨Nat.zero_le _, fun i hi => absurd hi (Nat.not_lt_zero i)⟩, Nat.zero_le _, rfl, fun d hd => ⟨⟨fun i hi => absurd hi (Nat.not_lt_zero i), fun c hc => Nat.zero_le _, by show (0 : Nat) < 2 ^ 20; decide⟩, Nat.zero_le _⟩⟩, fun _ => rfl, fun k _ K e => (by cases e)⟩
theorem init_inv {G : GC} {E1 E2 E4 : SH} {iv1 iv2 iv4 : IV} {lv1 lv2 lv4 : LV} {X : Nat} (h1 : CS G E1 iv1 lv1 X XC XR 138 WXr (fun j => j == 10 || Lz j) E2 iv2 lv2) (h2 : CS G (mkE E2 (X + 138) 11 0) (va_up iv2 (X + 138) (fun _ => 0)) (va_up lv2 (X + 138) (fun _ => 0)) (X + 138) MC MR 18 WMd (fun j => j == 2 || Lz j) E4 iv4 lv4) : XS G E4 X ∧ MS G E4 (X + 138) ∧ E4.1 = X + 156 ∧ Inv X A0 D0 T0 iv4 lv4 := by
  obtain ⟨g1, g2, g3, g4, g5, g6, g7⟩ := h2
  obtain ⟨k1, k2, k3, k4, k5, k6, k7⟩ := h1
  have f : ∀ b, b < X + 138 → E4.2.1 b = E2.2.1 b ∧ E4.2.2 b = E2.2.2 b ∧ iv4 b = iv2 b ∧ lv4 b = lv2 b := fun b hb => by
    have := g5 b hb
    exact ⟨this.1.trans (va_up_n (by omega)), this.2.1.trans (va_up_n (by omega)), this.2.2.1.trans (va_up_n (by omega)), this.2.2.2.trans (va_up_n (by omega))⟩
  have vX : ∀ o j, o < 138 → iv4 (X + o) j = if WXr o j then -1 else 0 := fun o j ho => by rw [(f _ (by omega)).2.2.1]; exact k6 o j ho
  have zX : ∀ o j, o < 138 → ¬ (58 ≤ o ∧ o < 78 ∧ o % 2 = 0 ∧ j = 1) → iv4 (X + o) j = 0 := fun o j ho h => by rw [vX o j ho, show WXr o j = false from decide_eq_false h]; rfl
  have zM : ∀ o j, o < 18 → WMd o j = false → iv4 (X + 138 + o) j = 0 := fun o j ho h => by rw [g6 o j ho, h]; rfl
  have mM : ∀ o j, o < 18 → WMd o j = true → iv4 (X + 138 + o) j = -1 := fun o j ho h => by rw [g6 o j ho, h]; rfl
  have hE : E4.1 = X + 156 := g1
  refine ⟨⟨fun p hp => ?_, fun p hp => ?_⟩, ⟨fun p hp => ?_, fun p hp => (g4 p hp).2⟩, hE, ⟨⟨?_, ?_, ?_, ?_, fun x hx => ?_⟩, ⟨fun r hr => ?_, fun r i hr hi => ?_, fun t ht => ?_, fun t i ht hi => ?_⟩, ⟨⟨⟨?_, ?_, fun i hi => absurd hi (Nat.not_lt_zero i), fun c hc => ?_⟩, ?_, ⟨fun i hi => absurd hi (Nat.not_lt_zero i), fun c hc => ?_⟩, fun d hd => absurd hd (Nat.not_lt_zero d)⟩, fun k hk _ => ?_, fun k hk K e => (by cases e)⟩⟩, ⟨⟨zM 0 0 (by decide) rfl, zM 0 3 (by decide) rfl, g7 1, g7 2, fun x hx => zM 1 x (by decide) rfl⟩, ⟨fun r hr => ?_, fun r i hr hi => zM 3 _ (by decide) rfl, fun t ht => ?_, fun t i ht hi => zM 6 _ (by decide) rfl⟩, ⟨⟨zM 0 14 (by decide) rfl, fun i hi => absurd hi (Nat.not_lt_zero i)⟩, zM 0 20 (by decide) rfl, fun k hk => zM 12 k (by decide) rfl, fun d hd => absurd hd (Nat.not_lt_zero d), fun k hk _ => ?_, fun k hk K e => (by cases e)⟩⟩, W0⟩
  · have := k3 p hp
    exact ⟨by omega, by omega, by rw [(f _ (by omega)).1]; exact this.2⟩
  · have := k4 p hp
    rw [(f _ (by omega)).2.1]
    exact this.2
  · have := g3 p hp
    exact ⟨by omega, by omega, this.2⟩
  · exact zX 0 8 (by decide) (by decide)
  · exact zX 0 7 (by decide) (by decide)
  · rw [(f X (by omega)).2.2.2]; exact k7 9
  · rw [(f X (by omega)).2.2.2]; exact k7 10
  · exact zX 57 x (by decide) (fun q => by omega)
  · rw [vX _ _ (by omega), show WXr (58 + 2 * r) 1 = true from decide_eq_true ⟨by omega, by omega, by omega, rfl⟩]; rfl
  · rw [Nat.add_assoc]; exact zX (58 + 2 * r + 1) i (by omega) (fun q => by omega)
  · rw [vX _ _ (by omega), show WXr (70 + 2 * t) 1 = true from decide_eq_true ⟨by omega, by omega, by omega, rfl⟩]; rfl
  · rw [Nat.add_assoc]; exact zX (70 + 2 * t + 1) i (by omega) (fun q => by omega)
  · exact zX 5 0 (by decide) (by decide)
  · exact zX 5 1 (by decide) (by decide)
  · exact zX 18 c (by decide) (fun q => by omega)
  · exact zX 5 2 (by decide) (by decide)
  · exact zX 21 c (by decide) (fun q => by omega)
  · exact zX (78 + 20 * k) 0 (by omega) (fun q => by omega)
  · refine mM 2 r (by decide) ?_
    rcases (show r = 0 ∨ r = 1 ∨ r = 2 ∨ r = 3 ∨ r = 4 ∨ r = 5 by omega) with rfl | rfl | rfl | rfl | rfl | rfl <;> rfl
  · refine mM 5 t (by decide) ?_
    rcases (show t = 0 ∨ t = 1 ∨ t = 2 ∨ t = 3 by omega) with rfl | rfl | rfl | rfl <;> rfl
  · refine mM 15 k (by decide) ?_
    rcases (show k = 0 ∨ k = 1 ∨ k = 2 by omega) with rfl | rfl | rfl <;> rfl
