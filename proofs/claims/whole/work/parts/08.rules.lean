/-! contracts by the kind of their answer; calls; constants; shapes -/
def SpI (G : GC) (μ : MI) (d : Nat) (av : List Value) (E : SH) (iv : IV) (lv : LV) (Q : Int32 → IV → LV → Prop) : Prop := Spec0 G μ d av E iv lv (fun r i l => ∃ v, r = some (.int v) ∧ Q v i l)
def ExI (G : GC) (μ : MI) (d : Nat) (av : List Value) (E : SH) (iv : IV) (lv : LV) (v : Int32) (iv' : IV) (lv' : LV) : Prop := SpI G μ d av E iv lv (fun w i l => w = v ∧ i = iv' ∧ l = lv')
def SpL (G : GC) (μ : MI) (d : Nat) (av : List Value) (E : SH) (iv : IV) (lv : LV) (Q : Int64 → IV → LV → Prop) : Prop := Spec0 G μ d av E iv lv (fun r i l => ∃ v, r = some (.long v) ∧ Q v i l)
def ExL (G : GC) (μ : MI) (d : Nat) (av : List Value) (E : SH) (iv : IV) (lv : LV) (v : Int64) (iv' : IV) (lv' : LV) : Prop := SpL G μ d av E iv lv (fun w i l => w = v ∧ i = iv' ∧ l = lv')
def SpR (G : GC) (μ : MI) (d : Nat) (av : List Value) (E : SH) (iv : IV) (lv : LV) (Q : Nat → IV → LV → Prop) : Prop := Spec0 G μ d av E iv lv (fun r i l => ∃ v, r = some (.ref v) ∧ Q v i l)
def ExR (G : GC) (μ : MI) (d : Nat) (av : List Value) (E : SH) (iv : IV) (lv : LV) (v : Nat) (iv' : IV) (lv' : LV) : Prop := SpR G μ d av E iv lv (fun w i l => w = v ∧ i = iv' ∧ l = lv')
def SpV (G : GC) (μ : MI) (d : Nat) (av : List Value) (E : SH) (iv : IV) (lv : LV) (Q : IV → LV → Prop) : Prop := Spec0 G μ d av E iv lv (fun r i l => r = none ∧ Q i l)
def ExV (G : GC) (μ : MI) (d : Nat) (av : List Value) (E : SH) (iv : IV) (lv : LV) (iv' : IV) (lv' : LV) : Prop := SpV G μ d av E iv lv (fun i l => i = iv' ∧ l = lv')
section CR
variable {G : GC} {μ : MI} {R : Room} {Z : List Frame → Array Value → State → State → Prop} {X : State → Prop} {z0 pc : Nat} {lo : List (Option Value)} {st : List Value} {E : SH} {iv : IV} {lv : LV}
theorem aw_sVi {Q' : Int32 → IV → LV → Prop} {idx t n d a nn : Nat} {μ' : MI} (As : List Value) {rest : List Value} (hd : decode μ.2.1 pc = .ok (.invokevirtual idx, 3)) (hc : CV μ.1.cls idx t μ' n) (hs : Sh G E a t nn) (sp : SpI G μ' d (.ref a :: As) E iv lv Q') (hn : As.length = n) (hst : st = As.reverse ++ .ref a :: rest) (hw : (rest.map fun v => v.category).sum ≤ 8) (hR : RB R z0 E (d + 1) 0) (kk : ∀ v iv' lv', Q' v iv' lv' → AW G μ R Z X z0 (pc + 3) lo (.int v :: rest) E iv' lv') : AW G μ R Z X z0 pc lo st E iv lv :=
  aw_callV0 As hd hc hs sp hn hst hw hR (fun r i l h => by obtain ⟨v, rfl, hq⟩ := h; exact kk v i l hq)
theorem aw_xVi {v : Int32} {iv' : IV} {lv' : LV} {idx t n d a nn : Nat} {μ' : MI} (As : List Value) {rest : List Value} (hd : decode μ.2.1 pc = .ok (.invokevirtual idx, 3)) (hc : CV μ.1.cls idx t μ' n) (hs : Sh G E a t nn) (sp : ExI G μ' d (.ref a :: As) E iv lv v iv' lv') (hn : As.length = n) (hst : st = As.reverse ++ .ref a :: rest) (hw : (rest.map fun v => v.category).sum ≤ 8) (hR : RB R z0 E (d + 1) 0) (kk : AW G μ R Z X z0 (pc + 3) lo (.int v :: rest) E iv' lv') : AW G μ R Z X z0 pc lo st E iv lv :=
  aw_sVi As hd hc hs sp hn hst hw hR (fun w i l h => by obtain ⟨rfl, rfl, rfl⟩ := h; exact kk)
theorem aw_sVl {Q' : Int64 → IV → LV → Prop} {idx t n d a nn : Nat} {μ' : MI} (As : List Value) {rest : List Value} (hd : decode μ.2.1 pc = .ok (.invokevirtual idx, 3)) (hc : CV μ.1.cls idx t μ' n) (hs : Sh G E a t nn) (sp : SpL G μ' d (.ref a :: As) E iv lv Q') (hn : As.length = n) (hst : st = As.reverse ++ .ref a :: rest) (hw : (rest.map fun v => v.category).sum ≤ 8) (hR : RB R z0 E (d + 1) 0) (kk : ∀ v iv' lv', Q' v iv' lv' → AW G μ R Z X z0 (pc + 3) lo (.long v :: rest) E iv' lv') : AW G μ R Z X z0 pc lo st E iv lv :=
  aw_callV0 As hd hc hs sp hn hst hw hR (fun r i l h => by obtain ⟨v, rfl, hq⟩ := h; exact kk v i l hq)
theorem aw_xVl {v : Int64} {iv' : IV} {lv' : LV} {idx t n d a nn : Nat} {μ' : MI} (As : List Value) {rest : List Value} (hd : decode μ.2.1 pc = .ok (.invokevirtual idx, 3)) (hc : CV μ.1.cls idx t μ' n) (hs : Sh G E a t nn) (sp : ExL G μ' d (.ref a :: As) E iv lv v iv' lv') (hn : As.length = n) (hst : st = As.reverse ++ .ref a :: rest) (hw : (rest.map fun v => v.category).sum ≤ 8) (hR : RB R z0 E (d + 1) 0) (kk : AW G μ R Z X z0 (pc + 3) lo (.long v :: rest) E iv' lv') : AW G μ R Z X z0 pc lo st E iv lv :=
  aw_sVl As hd hc hs sp hn hst hw hR (fun w i l h => by obtain ⟨rfl, rfl, rfl⟩ := h; exact kk)
theorem aw_sVr {Q' : Nat → IV → LV → Prop} {idx t n d a nn : Nat} {μ' : MI} (As : List Value) {rest : List Value} (hd : decode μ.2.1 pc = .ok (.invokevirtual idx, 3)) (hc : CV μ.1.cls idx t μ' n) (hs : Sh G E a t nn) (sp : SpR G μ' d (.ref a :: As) E iv lv Q') (hn : As.length = n) (hst : st = As.reverse ++ .ref a :: rest) (hw : (rest.map fun v => v.category).sum ≤ 8) (hR : RB R z0 E (d + 1) 0) (kk : ∀ v iv' lv', Q' v iv' lv' → AW G μ R Z X z0 (pc + 3) lo (.ref v :: rest) E iv' lv') : AW G μ R Z X z0 pc lo st E iv lv :=
  aw_callV0 As hd hc hs sp hn hst hw hR (fun r i l h => by obtain ⟨v, rfl, hq⟩ := h; exact kk v i l hq)
theorem aw_xVr {v : Nat} {iv' : IV} {lv' : LV} {idx t n d a nn : Nat} {μ' : MI} (As : List Value) {rest : List Value} (hd : decode μ.2.1 pc = .ok (.invokevirtual idx, 3)) (hc : CV μ.1.cls idx t μ' n) (hs : Sh G E a t nn) (sp : ExR G μ' d (.ref a :: As) E iv lv v iv' lv') (hn : As.length = n) (hst : st = As.reverse ++ .ref a :: rest) (hw : (rest.map fun v => v.category).sum ≤ 8) (hR : RB R z0 E (d + 1) 0) (kk : AW G μ R Z X z0 (pc + 3) lo (.ref v :: rest) E iv' lv') : AW G μ R Z X z0 pc lo st E iv lv :=
  aw_sVr As hd hc hs sp hn hst hw hR (fun w i l h => by obtain ⟨rfl, rfl, rfl⟩ := h; exact kk)
theorem aw_sVv {Q' : IV → LV → Prop} {idx t n d a nn : Nat} {μ' : MI} (As : List Value) {rest : List Value} (hd : decode μ.2.1 pc = .ok (.invokevirtual idx, 3)) (hc : CV μ.1.cls idx t μ' n) (hs : Sh G E a t nn) (sp : SpV G μ' d (.ref a :: As) E iv lv Q') (hn : As.length = n) (hst : st = As.reverse ++ .ref a :: rest) (hw : (rest.map fun v => v.category).sum ≤ 8) (hR : RB R z0 E (d + 1) 0) (kk : ∀ iv' lv', Q' iv' lv' → AW G μ R Z X z0 (pc + 3) lo rest E iv' lv') : AW G μ R Z X z0 pc lo st E iv lv :=
  aw_callV0 As hd hc hs sp hn hst hw hR (fun r i l h => by obtain ⟨rfl, hq⟩ := h; exact kk i l hq)
theorem aw_xVv {iv' : IV} {lv' : LV} {idx t n d a nn : Nat} {μ' : MI} (As : List Value) {rest : List Value} (hd : decode μ.2.1 pc = .ok (.invokevirtual idx, 3)) (hc : CV μ.1.cls idx t μ' n) (hs : Sh G E a t nn) (sp : ExV G μ' d (.ref a :: As) E iv lv iv' lv') (hn : As.length = n) (hst : st = As.reverse ++ .ref a :: rest) (hw : (rest.map fun v => v.category).sum ≤ 8) (hR : RB R z0 E (d + 1) 0) (kk : AW G μ R Z X z0 (pc + 3) lo rest E iv' lv') : AW G μ R Z X z0 pc lo st E iv lv :=
  aw_sVv As hd hc hs sp hn hst hw hR (fun i l h => by obtain ⟨rfl, rfl⟩ := h; exact kk)
theorem aw_sNi {Q' : Int32 → IV → LV → Prop} {idx t n d a nn : Nat} {μ' : MI} (As : List Value) {rest : List Value} (hd : decode μ.2.1 pc = .ok (.invokevirtual idx, 3)) (hc : CN μ.1.cls idx t μ' n) (hs : Sh G E a t nn) (sp : SpI G μ' d (.ref a :: As) E iv lv Q') (hn : As.length = n) (hst : st = As.reverse ++ .ref a :: rest) (hw : (rest.map fun v => v.category).sum ≤ 8) (hR : RB R z0 E (d + 1) 0) (kk : ∀ v iv' lv', Q' v iv' lv' → AW G μ R Z X z0 (pc + 3) lo (.int v :: rest) E iv' lv') : AW G μ R Z X z0 pc lo st E iv lv :=
  aw_callN As hd hc hs sp hn hst hw hR (fun r i l h => by obtain ⟨v, rfl, hq⟩ := h; exact kk v i l hq)
theorem aw_xNi {v : Int32} {iv' : IV} {lv' : LV} {idx t n d a nn : Nat} {μ' : MI} (As : List Value) {rest : List Value} (hd : decode μ.2.1 pc = .ok (.invokevirtual idx, 3)) (hc : CN μ.1.cls idx t μ' n) (hs : Sh G E a t nn) (sp : ExI G μ' d (.ref a :: As) E iv lv v iv' lv') (hn : As.length = n) (hst : st = As.reverse ++ .ref a :: rest) (hw : (rest.map fun v => v.category).sum ≤ 8) (hR : RB R z0 E (d + 1) 0) (kk : AW G μ R Z X z0 (pc + 3) lo (.int v :: rest) E iv' lv') : AW G μ R Z X z0 pc lo st E iv lv :=
  aw_sNi As hd hc hs sp hn hst hw hR (fun w i l h => by obtain ⟨rfl, rfl, rfl⟩ := h; exact kk)
theorem aw_sNl {Q' : Int64 → IV → LV → Prop} {idx t n d a nn : Nat} {μ' : MI} (As : List Value) {rest : List Value} (hd : decode μ.2.1 pc = .ok (.invokevirtual idx, 3)) (hc : CN μ.1.cls idx t μ' n) (hs : Sh G E a t nn) (sp : SpL G μ' d (.ref a :: As) E iv lv Q') (hn : As.length = n) (hst : st = As.reverse ++ .ref a :: rest) (hw : (rest.map fun v => v.category).sum ≤ 8) (hR : RB R z0 E (d + 1) 0) (kk : ∀ v iv' lv', Q' v iv' lv' → AW G μ R Z X z0 (pc + 3) lo (.long v :: rest) E iv' lv') : AW G μ R Z X z0 pc lo st E iv lv :=
  aw_callN As hd hc hs sp hn hst hw hR (fun r i l h => by obtain ⟨v, rfl, hq⟩ := h; exact kk v i l hq)
theorem aw_xNl {v : Int64} {iv' : IV} {lv' : LV} {idx t n d a nn : Nat} {μ' : MI} (As : List Value) {rest : List Value} (hd : decode μ.2.1 pc = .ok (.invokevirtual idx, 3)) (hc : CN μ.1.cls idx t μ' n) (hs : Sh G E a t nn) (sp : ExL G μ' d (.ref a :: As) E iv lv v iv' lv') (hn : As.length = n) (hst : st = As.reverse ++ .ref a :: rest) (hw : (rest.map fun v => v.category).sum ≤ 8) (hR : RB R z0 E (d + 1) 0) (kk : AW G μ R Z X z0 (pc + 3) lo (.long v :: rest) E iv' lv') : AW G μ R Z X z0 pc lo st E iv lv :=
  aw_sNl As hd hc hs sp hn hst hw hR (fun w i l h => by obtain ⟨rfl, rfl, rfl⟩ := h; exact kk)
theorem aw_sNr {Q' : Nat → IV → LV → Prop} {idx t n d a nn : Nat} {μ' : MI} (As : List Value) {rest : List Value} (hd : decode μ.2.1 pc = .ok (.invokevirtual idx, 3)) (hc : CN μ.1.cls idx t μ' n) (hs : Sh G E a t nn) (sp : SpR G μ' d (.ref a :: As) E iv lv Q') (hn : As.length = n) (hst : st = As.reverse ++ .ref a :: rest) (hw : (rest.map fun v => v.category).sum ≤ 8) (hR : RB R z0 E (d + 1) 0) (kk : ∀ v iv' lv', Q' v iv' lv' → AW G μ R Z X z0 (pc + 3) lo (.ref v :: rest) E iv' lv') : AW G μ R Z X z0 pc lo st E iv lv :=
  aw_callN As hd hc hs sp hn hst hw hR (fun r i l h => by obtain ⟨v, rfl, hq⟩ := h; exact kk v i l hq)
theorem aw_xNr {v : Nat} {iv' : IV} {lv' : LV} {idx t n d a nn : Nat} {μ' : MI} (As : List Value) {rest : List Value} (hd : decode μ.2.1 pc = .ok (.invokevirtual idx, 3)) (hc : CN μ.1.cls idx t μ' n) (hs : Sh G E a t nn) (sp : ExR G μ' d (.ref a :: As) E iv lv v iv' lv') (hn : As.length = n) (hst : st = As.reverse ++ .ref a :: rest) (hw : (rest.map fun v => v.category).sum ≤ 8) (hR : RB R z0 E (d + 1) 0) (kk : AW G μ R Z X z0 (pc + 3) lo (.ref v :: rest) E iv' lv') : AW G μ R Z X z0 pc lo st E iv lv :=
  aw_sNr As hd hc hs sp hn hst hw hR (fun w i l h => by obtain ⟨rfl, rfl, rfl⟩ := h; exact kk)
theorem aw_sNv {Q' : IV → LV → Prop} {idx t n d a nn : Nat} {μ' : MI} (As : List Value) {rest : List Value} (hd : decode μ.2.1 pc = .ok (.invokevirtual idx, 3)) (hc : CN μ.1.cls idx t μ' n) (hs : Sh G E a t nn) (sp : SpV G μ' d (.ref a :: As) E iv lv Q') (hn : As.length = n) (hst : st = As.reverse ++ .ref a :: rest) (hw : (rest.map fun v => v.category).sum ≤ 8) (hR : RB R z0 E (d + 1) 0) (kk : ∀ iv' lv', Q' iv' lv' → AW G μ R Z X z0 (pc + 3) lo rest E iv' lv') : AW G μ R Z X z0 pc lo st E iv lv :=
  aw_callN As hd hc hs sp hn hst hw hR (fun r i l h => by obtain ⟨rfl, hq⟩ := h; exact kk i l hq)
theorem aw_xNv {iv' : IV} {lv' : LV} {idx t n d a nn : Nat} {μ' : MI} (As : List Value) {rest : List Value} (hd : decode μ.2.1 pc = .ok (.invokevirtual idx, 3)) (hc : CN μ.1.cls idx t μ' n) (hs : Sh G E a t nn) (sp : ExV G μ' d (.ref a :: As) E iv lv iv' lv') (hn : As.length = n) (hst : st = As.reverse ++ .ref a :: rest) (hw : (rest.map fun v => v.category).sum ≤ 8) (hR : RB R z0 E (d + 1) 0) (kk : AW G μ R Z X z0 (pc + 3) lo rest E iv' lv') : AW G μ R Z X z0 pc lo st E iv lv :=
  aw_sNv As hd hc hs sp hn hst hw hR (fun i l h => by obtain ⟨rfl, rfl⟩ := h; exact kk)
theorem aw_sUi {Q' : Int32 → IV → LV → Prop} {idx t n d a nn : Nat} {x : MethodName} {μ' : MI} (As : List Value) {rest : List Value} (hd : decode μ.2.1 pc = .ok (.invokevirtual idx, 3)) (hc : CU μ.1.cls idx t x μ' n) (hs : Sh G E a t nn) (sp : SpI G μ' d (.ref a :: As) E iv lv Q') (hn : As.length = n) (hst : st = As.reverse ++ .ref a :: rest) (hw : (rest.map fun v => v.category).sum ≤ 8) (hR : RB R z0 E (d + 1) 0) (kk : ∀ v iv' lv', Q' v iv' lv' → AW G μ R Z X z0 (pc + 3) lo (.int v :: rest) E iv' lv') : AW G μ R Z X z0 pc lo st E iv lv :=
  aw_callU As hd hc hs sp hn hst hw hR (fun r i l h => by obtain ⟨v, rfl, hq⟩ := h; exact kk v i l hq)
theorem aw_xUi {v : Int32} {iv' : IV} {lv' : LV} {idx t n d a nn : Nat} {x : MethodName} {μ' : MI} (As : List Value) {rest : List Value} (hd : decode μ.2.1 pc = .ok (.invokevirtual idx, 3)) (hc : CU μ.1.cls idx t x μ' n) (hs : Sh G E a t nn) (sp : ExI G μ' d (.ref a :: As) E iv lv v iv' lv') (hn : As.length = n) (hst : st = As.reverse ++ .ref a :: rest) (hw : (rest.map fun v => v.category).sum ≤ 8) (hR : RB R z0 E (d + 1) 0) (kk : AW G μ R Z X z0 (pc + 3) lo (.int v :: rest) E iv' lv') : AW G μ R Z X z0 pc lo st E iv lv :=
  aw_sUi As hd hc hs sp hn hst hw hR (fun w i l h => by obtain ⟨rfl, rfl, rfl⟩ := h; exact kk)
theorem aw_sUl {Q' : Int64 → IV → LV → Prop} {idx t n d a nn : Nat} {x : MethodName} {μ' : MI} (As : List Value) {rest : List Value} (hd : decode μ.2.1 pc = .ok (.invokevirtual idx, 3)) (hc : CU μ.1.cls idx t x μ' n) (hs : Sh G E a t nn) (sp : SpL G μ' d (.ref a :: As) E iv lv Q') (hn : As.length = n) (hst : st = As.reverse ++ .ref a :: rest) (hw : (rest.map fun v => v.category).sum ≤ 8) (hR : RB R z0 E (d + 1) 0) (kk : ∀ v iv' lv', Q' v iv' lv' → AW G μ R Z X z0 (pc + 3) lo (.long v :: rest) E iv' lv') : AW G μ R Z X z0 pc lo st E iv lv :=
  aw_callU As hd hc hs sp hn hst hw hR (fun r i l h => by obtain ⟨v, rfl, hq⟩ := h; exact kk v i l hq)
theorem aw_xUl {v : Int64} {iv' : IV} {lv' : LV} {idx t n d a nn : Nat} {x : MethodName} {μ' : MI} (As : List Value) {rest : List Value} (hd : decode μ.2.1 pc = .ok (.invokevirtual idx, 3)) (hc : CU μ.1.cls idx t x μ' n) (hs : Sh G E a t nn) (sp : ExL G μ' d (.ref a :: As) E iv lv v iv' lv') (hn : As.length = n) (hst : st = As.reverse ++ .ref a :: rest) (hw : (rest.map fun v => v.category).sum ≤ 8) (hR : RB R z0 E (d + 1) 0) (kk : AW G μ R Z X z0 (pc + 3) lo (.long v :: rest) E iv' lv') : AW G μ R Z X z0 pc lo st E iv lv :=
  aw_sUl As hd hc hs sp hn hst hw hR (fun w i l h => by obtain ⟨rfl, rfl, rfl⟩ := h; exact kk)
theorem aw_sUr {Q' : Nat → IV → LV → Prop} {idx t n d a nn : Nat} {x : MethodName} {μ' : MI} (As : List Value) {rest : List Value} (hd : decode μ.2.1 pc = .ok (.invokevirtual idx, 3)) (hc : CU μ.1.cls idx t x μ' n) (hs : Sh G E a t nn) (sp : SpR G μ' d (.ref a :: As) E iv lv Q') (hn : As.length = n) (hst : st = As.reverse ++ .ref a :: rest) (hw : (rest.map fun v => v.category).sum ≤ 8) (hR : RB R z0 E (d + 1) 0) (kk : ∀ v iv' lv', Q' v iv' lv' → AW G μ R Z X z0 (pc + 3) lo (.ref v :: rest) E iv' lv') : AW G μ R Z X z0 pc lo st E iv lv :=
  aw_callU As hd hc hs sp hn hst hw hR (fun r i l h => by obtain ⟨v, rfl, hq⟩ := h; exact kk v i l hq)
theorem aw_xUr {v : Nat} {iv' : IV} {lv' : LV} {idx t n d a nn : Nat} {x : MethodName} {μ' : MI} (As : List Value) {rest : List Value} (hd : decode μ.2.1 pc = .ok (.invokevirtual idx, 3)) (hc : CU μ.1.cls idx t x μ' n) (hs : Sh G E a t nn) (sp : ExR G μ' d (.ref a :: As) E iv lv v iv' lv') (hn : As.length = n) (hst : st = As.reverse ++ .ref a :: rest) (hw : (rest.map fun v => v.category).sum ≤ 8) (hR : RB R z0 E (d + 1) 0) (kk : AW G μ R Z X z0 (pc + 3) lo (.ref v :: rest) E iv' lv') : AW G μ R Z X z0 pc lo st E iv lv :=
  aw_sUr As hd hc hs sp hn hst hw hR (fun w i l h => by obtain ⟨rfl, rfl, rfl⟩ := h; exact kk)
theorem aw_sUv {Q' : IV → LV → Prop} {idx t n d a nn : Nat} {x : MethodName} {μ' : MI} (As : List Value) {rest : List Value} (hd : decode μ.2.1 pc = .ok (.invokevirtual idx, 3)) (hc : CU μ.1.cls idx t x μ' n) (hs : Sh G E a t nn) (sp : SpV G μ' d (.ref a :: As) E iv lv Q') (hn : As.length = n) (hst : st = As.reverse ++ .ref a :: rest) (hw : (rest.map fun v => v.category).sum ≤ 8) (hR : RB R z0 E (d + 1) 0) (kk : ∀ iv' lv', Q' iv' lv' → AW G μ R Z X z0 (pc + 3) lo rest E iv' lv') : AW G μ R Z X z0 pc lo st E iv lv :=
  aw_callU As hd hc hs sp hn hst hw hR (fun r i l h => by obtain ⟨rfl, hq⟩ := h; exact kk i l hq)
theorem aw_xUv {iv' : IV} {lv' : LV} {idx t n d a nn : Nat} {x : MethodName} {μ' : MI} (As : List Value) {rest : List Value} (hd : decode μ.2.1 pc = .ok (.invokevirtual idx, 3)) (hc : CU μ.1.cls idx t x μ' n) (hs : Sh G E a t nn) (sp : ExV G μ' d (.ref a :: As) E iv lv iv' lv') (hn : As.length = n) (hst : st = As.reverse ++ .ref a :: rest) (hw : (rest.map fun v => v.category).sum ≤ 8) (hR : RB R z0 E (d + 1) 0) (kk : AW G μ R Z X z0 (pc + 3) lo rest E iv' lv') : AW G μ R Z X z0 pc lo st E iv lv :=
  aw_sUv As hd hc hs sp hn hst hw hR (fun i l h => by obtain ⟨rfl, rfl⟩ := h; exact kk)
theorem aw_sSi {Q' : Int32 → IV → LV → Prop} {idx n d : Nat} {μ' : MI} (As : List Value) {rest : List Value} (hd : decode μ.2.1 pc = .ok (.invokestatic idx, 3)) (hc : CB μ.1.cls idx μ' n ∧ Cond.static μ'.1 ∈ tb) (sp : SpI G μ' d As E iv lv Q') (hn : As.length = n) (hst : st = As.reverse ++ rest) (hw : (rest.map fun v => v.category).sum ≤ 8) (hR : RB R z0 E (d + 1) 0) (kk : ∀ v iv' lv', Q' v iv' lv' → AW G μ R Z X z0 (pc + 3) lo (.int v :: rest) E iv' lv') : AW G μ R Z X z0 pc lo st E iv lv :=
  aw_callS0 As hd hc sp hn hst hw hR (fun r i l h => by obtain ⟨v, rfl, hq⟩ := h; exact kk v i l hq)
theorem aw_xSi {v : Int32} {iv' : IV} {lv' : LV} {idx n d : Nat} {μ' : MI} (As : List Value) {rest : List Value} (hd : decode μ.2.1 pc = .ok (.invokestatic idx, 3)) (hc : CB μ.1.cls idx μ' n ∧ Cond.static μ'.1 ∈ tb) (sp : ExI G μ' d As E iv lv v iv' lv') (hn : As.length = n) (hst : st = As.reverse ++ rest) (hw : (rest.map fun v => v.category).sum ≤ 8) (hR : RB R z0 E (d + 1) 0) (kk : AW G μ R Z X z0 (pc + 3) lo (.int v :: rest) E iv' lv') : AW G μ R Z X z0 pc lo st E iv lv :=
  aw_sSi As hd hc sp hn hst hw hR (fun w i l h => by obtain ⟨rfl, rfl, rfl⟩ := h; exact kk)
theorem aw_sSl {Q' : Int64 → IV → LV → Prop} {idx n d : Nat} {μ' : MI} (As : List Value) {rest : List Value} (hd : decode μ.2.1 pc = .ok (.invokestatic idx, 3)) (hc : CB μ.1.cls idx μ' n ∧ Cond.static μ'.1 ∈ tb) (sp : SpL G μ' d As E iv lv Q') (hn : As.length = n) (hst : st = As.reverse ++ rest) (hw : (rest.map fun v => v.category).sum ≤ 8) (hR : RB R z0 E (d + 1) 0) (kk : ∀ v iv' lv', Q' v iv' lv' → AW G μ R Z X z0 (pc + 3) lo (.long v :: rest) E iv' lv') : AW G μ R Z X z0 pc lo st E iv lv :=
  aw_callS0 As hd hc sp hn hst hw hR (fun r i l h => by obtain ⟨v, rfl, hq⟩ := h; exact kk v i l hq)
theorem aw_xSl {v : Int64} {iv' : IV} {lv' : LV} {idx n d : Nat} {μ' : MI} (As : List Value) {rest : List Value} (hd : decode μ.2.1 pc = .ok (.invokestatic idx, 3)) (hc : CB μ.1.cls idx μ' n ∧ Cond.static μ'.1 ∈ tb) (sp : ExL G μ' d As E iv lv v iv' lv') (hn : As.length = n) (hst : st = As.reverse ++ rest) (hw : (rest.map fun v => v.category).sum ≤ 8) (hR : RB R z0 E (d + 1) 0) (kk : AW G μ R Z X z0 (pc + 3) lo (.long v :: rest) E iv' lv') : AW G μ R Z X z0 pc lo st E iv lv :=
  aw_sSl As hd hc sp hn hst hw hR (fun w i l h => by obtain ⟨rfl, rfl, rfl⟩ := h; exact kk)
theorem aw_sSr {Q' : Nat → IV → LV → Prop} {idx n d : Nat} {μ' : MI} (As : List Value) {rest : List Value} (hd : decode μ.2.1 pc = .ok (.invokestatic idx, 3)) (hc : CB μ.1.cls idx μ' n ∧ Cond.static μ'.1 ∈ tb) (sp : SpR G μ' d As E iv lv Q') (hn : As.length = n) (hst : st = As.reverse ++ rest) (hw : (rest.map fun v => v.category).sum ≤ 8) (hR : RB R z0 E (d + 1) 0) (kk : ∀ v iv' lv', Q' v iv' lv' → AW G μ R Z X z0 (pc + 3) lo (.ref v :: rest) E iv' lv') : AW G μ R Z X z0 pc lo st E iv lv :=
  aw_callS0 As hd hc sp hn hst hw hR (fun r i l h => by obtain ⟨v, rfl, hq⟩ := h; exact kk v i l hq)
theorem aw_xSr {v : Nat} {iv' : IV} {lv' : LV} {idx n d : Nat} {μ' : MI} (As : List Value) {rest : List Value} (hd : decode μ.2.1 pc = .ok (.invokestatic idx, 3)) (hc : CB μ.1.cls idx μ' n ∧ Cond.static μ'.1 ∈ tb) (sp : ExR G μ' d As E iv lv v iv' lv') (hn : As.length = n) (hst : st = As.reverse ++ rest) (hw : (rest.map fun v => v.category).sum ≤ 8) (hR : RB R z0 E (d + 1) 0) (kk : AW G μ R Z X z0 (pc + 3) lo (.ref v :: rest) E iv' lv') : AW G μ R Z X z0 pc lo st E iv lv :=
  aw_sSr As hd hc sp hn hst hw hR (fun w i l h => by obtain ⟨rfl, rfl, rfl⟩ := h; exact kk)
theorem aw_sSv {Q' : IV → LV → Prop} {idx n d : Nat} {μ' : MI} (As : List Value) {rest : List Value} (hd : decode μ.2.1 pc = .ok (.invokestatic idx, 3)) (hc : CB μ.1.cls idx μ' n ∧ Cond.static μ'.1 ∈ tb) (sp : SpV G μ' d As E iv lv Q') (hn : As.length = n) (hst : st = As.reverse ++ rest) (hw : (rest.map fun v => v.category).sum ≤ 8) (hR : RB R z0 E (d + 1) 0) (kk : ∀ iv' lv', Q' iv' lv' → AW G μ R Z X z0 (pc + 3) lo rest E iv' lv') : AW G μ R Z X z0 pc lo st E iv lv :=
  aw_callS0 As hd hc sp hn hst hw hR (fun r i l h => by obtain ⟨rfl, hq⟩ := h; exact kk i l hq)
theorem aw_xSv {iv' : IV} {lv' : LV} {idx n d : Nat} {μ' : MI} (As : List Value) {rest : List Value} (hd : decode μ.2.1 pc = .ok (.invokestatic idx, 3)) (hc : CB μ.1.cls idx μ' n ∧ Cond.static μ'.1 ∈ tb) (sp : ExV G μ' d As E iv lv iv' lv') (hn : As.length = n) (hst : st = As.reverse ++ rest) (hw : (rest.map fun v => v.category).sum ≤ 8) (hR : RB R z0 E (d + 1) 0) (kk : AW G μ R Z X z0 (pc + 3) lo rest E iv' lv') : AW G μ R Z X z0 pc lo st E iv lv :=
  aw_sSv As hd hc sp hn hst hw hR (fun i l h => by obtain ⟨rfl, rfl⟩ := h; exact kk)
theorem aw_aret {Q : Option Value → SH → IV → LV → Prop} {v : Nat} {rt : FieldType} (hd : decode μ.2.1 pc = .ok (.areturn, 1)) (hr : μ.2.2.2 = some rt) (hb : RB R z0 E 0 0) (hq : Q (some (.ref v)) E iv lv) (hrt : rt.isReference = true := by rfl) : AW G μ R (ZM G R Q) X z0 pc lo [.ref v] E iv lv :=
  fun p e s m args below meth c H locs ls C q => W.widen (k := R.cells) (n := R.slots) hb.2.2.1 hb.2.2.2 (W.aret C.1 C.2.1 (C.2.2.2.1.trans hr) (by cases rt <;> first | exact Or.inl ⟨_, rfl⟩ | exact Or.inr ⟨_, rfl⟩ | (cases hrt)) (Or.inr ⟨_, rfl⟩) (fun t ht hW => ⟨⟨_, E, iv, lv, rfl, hq, q.2.2.2.2.1.end ht hW⟩, q.2.2.2.2.2.1.F ht⟩) q.2.2.2.2.2.1.2.2 hd C.2.2.2.2.1)
end CR
theorem kc_m1 : Int32.ofInt (-1) = (-1) := by decide
theorem kc_0 : Int32.ofInt (0) = nI 0 := by decide
theorem kc_1 : Int32.ofInt (1) = nI 1 := by decide
theorem kc_2 : Int32.ofInt (2) = nI 2 := by decide
theorem kc_3 : Int32.ofInt (3) = nI 3 := by decide
theorem kc_4 : Int32.ofInt (4) = nI 4 := by decide
theorem kc_5 : Int32.ofInt (5) = nI 5 := by decide
theorem kb_m9 : (Int8.ofInt (-9)).toInt32 = (-9) := by decide
theorem kb_m4 : (Int8.ofInt (-4)).toInt32 = (-4) := by decide
theorem kb_m3 : (Int8.ofInt (-3)).toInt32 = (-3) := by decide
theorem kb_m2 : (Int8.ofInt (-2)).toInt32 = (-2) := by decide
theorem kb_6 : (Int8.ofInt (6)).toInt32 = nI 6 := by decide
theorem kb_7 : (Int8.ofInt (7)).toInt32 = nI 7 := by decide
theorem kb_9 : (Int8.ofInt (9)).toInt32 = nI 9 := by decide
theorem kb_10 : (Int8.ofInt (10)).toInt32 = nI 10 := by decide
theorem kb_11 : (Int8.ofInt (11)).toInt32 = nI 11 := by decide
theorem kb_12 : (Int8.ofInt (12)).toInt32 = nI 12 := by decide
theorem kb_13 : (Int8.ofInt (13)).toInt32 = nI 13 := by decide
theorem kb_20 : (Int8.ofInt (20)).toInt32 = nI 20 := by decide
theorem kb_21 : (Int8.ofInt (21)).toInt32 = nI 21 := by decide
theorem kb_32 : (Int8.ofInt (32)).toInt32 = nI 32 := by decide
theorem kb_35 : (Int8.ofInt (35)).toInt32 = nI 35 := by decide
theorem kb_40 : (Int8.ofInt (40)).toInt32 = nI 40 := by decide
theorem kb_48 : (Int8.ofInt (48)).toInt32 = nI 48 := by decide
theorem kb_60 : (Int8.ofInt (60)).toInt32 = nI 60 := by decide
theorem kb_63 : (Int8.ofInt (63)).toInt32 = nI 63 := by decide
theorem kb_99 : (Int8.ofInt (99)).toInt32 = nI 99 := by decide
theorem kb_100 : (Int8.ofInt (100)).toInt32 = nI 100 := by decide
theorem kb_120 : (Int8.ofInt (120)).toInt32 = nI 120 := by decide
theorem ks_216 : (Int16.ofInt (216)).toInt32 = nI 216 := by decide
theorem ks_240 : (Int16.ofInt (240)).toInt32 = nI 240 := by decide
theorem ks_480 : (Int16.ofInt (480)).toInt32 = nI 480 := by decide
theorem ks_800 : (Int16.ofInt (800)).toInt32 = nI 800 := by decide
theorem ks_820 : (Int16.ofInt (820)).toInt32 = nI 820 := by decide
theorem ks_1000 : (Int16.ofInt (1000)).toInt32 = nI 1000 := by decide
theorem ks_2460 : (Int16.ofInt (2460)).toInt32 = nI 2460 := by decide
theorem kl_0 : Int64.ofNat ((0 : Fin 2) : Nat) = lN 0 := by decide
theorem kl_1 : Int64.ofNat ((1 : Fin 2) : Nat) = lN 1 := by decide
def StripS (G : GC) (E : SH) (S n : Nat) : Prop := Sh G E S 7 0 ∧ Sh G E (S + 1) 20 n ∧ E.2.2 S 0 = some (S + 1)
theorem StripS.s0 {G : GC} {E : SH} {S n : Nat} (h : StripS G E S n) : Sh G E S 7 0 := h.1
theorem StripS.s1 {G : GC} {E : SH} {S n : Nat} (h : StripS G E S n) : Sh G E (S + 1) 20 n := h.2.1
theorem StripS.r0_0 {G : GC} {E : SH} {S n : Nat} (h : StripS G E S n) : E.2.2 S 0 = some (S + 1) := h.2.2
def TownC : List (Nat × Nat × Nat) := [(0, 9, 0), (1, 24, 6), (2, 2, 0), (3, 1, 0), (4, 8, 0), (5, 6, 0), (6, 4, 0), (7, 0, 0), (8, 20, 7), (9, 20, 7), (10, 20, 7), (11, 20, 7), (12, 20, 7), (13, 20, 5), (14, 20, 7), (15, 20, 7), (16, 20, 5), (17, 20, 40), (18, 20, 40), (19, 20, 40)]
def TownR : List (Nat × Nat × Nat) := [(0, 3, 1), (0, 4, 8), (0, 5, 9), (0, 6, 10), (0, 7, 11), (0, 8, 12), (0, 9, 13), (0, 10, 14), (0, 11, 15), (0, 12, 16), (0, 13, 17), (0, 14, 18), (0, 15, 19), (1, 0, 2), (1, 1, 3), (1, 2, 4), (1, 3, 5), (1, 4, 6), (1, 5, 7)]
def TownS (G : GC) (E : SH) (a : Nat) : Prop := (∀ p ∈ TownC, Sh G E (a + p.1) p.2.1 p.2.2) ∧ (∀ p ∈ TownR, E.2.2 (a + p.1) p.2.1 = some (a + p.2.2))
theorem TownS.s0 {G : GC} {E : SH} {a : Nat} (h : TownS G E a) : Sh G E a 9 0 := h.1 (0, 9, 0) (by decide)
theorem TownS.s1 {G : GC} {E : SH} {a : Nat} (h : TownS G E a) : Sh G E (a + 1) 24 6 := h.1 (1, 24, 6) (by decide)
theorem TownS.s2 {G : GC} {E : SH} {a : Nat} (h : TownS G E a) : Sh G E (a + 2) 2 0 := h.1 (2, 2, 0) (by decide)
theorem TownS.s3 {G : GC} {E : SH} {a : Nat} (h : TownS G E a) : Sh G E (a + 3) 1 0 := h.1 (3, 1, 0) (by decide)
theorem TownS.s4 {G : GC} {E : SH} {a : Nat} (h : TownS G E a) : Sh G E (a + 4) 8 0 := h.1 (4, 8, 0) (by decide)
theorem TownS.s5 {G : GC} {E : SH} {a : Nat} (h : TownS G E a) : Sh G E (a + 5) 6 0 := h.1 (5, 6, 0) (by decide)
theorem TownS.s6 {G : GC} {E : SH} {a : Nat} (h : TownS G E a) : Sh G E (a + 6) 4 0 := h.1 (6, 4, 0) (by decide)
theorem TownS.s7 {G : GC} {E : SH} {a : Nat} (h : TownS G E a) : Sh G E (a + 7) 0 0 := h.1 (7, 0, 0) (by decide)
theorem TownS.s8 {G : GC} {E : SH} {a : Nat} (h : TownS G E a) : Sh G E (a + 8) 20 7 := h.1 (8, 20, 7) (by decide)
theorem TownS.s9 {G : GC} {E : SH} {a : Nat} (h : TownS G E a) : Sh G E (a + 9) 20 7 := h.1 (9, 20, 7) (by decide)
theorem TownS.s10 {G : GC} {E : SH} {a : Nat} (h : TownS G E a) : Sh G E (a + 10) 20 7 := h.1 (10, 20, 7) (by decide)
theorem TownS.s11 {G : GC} {E : SH} {a : Nat} (h : TownS G E a) : Sh G E (a + 11) 20 7 := h.1 (11, 20, 7) (by decide)
theorem TownS.s12 {G : GC} {E : SH} {a : Nat} (h : TownS G E a) : Sh G E (a + 12) 20 7 := h.1 (12, 20, 7) (by decide)
theorem TownS.s13 {G : GC} {E : SH} {a : Nat} (h : TownS G E a) : Sh G E (a + 13) 20 5 := h.1 (13, 20, 5) (by decide)
theorem TownS.s14 {G : GC} {E : SH} {a : Nat} (h : TownS G E a) : Sh G E (a + 14) 20 7 := h.1 (14, 20, 7) (by decide)
theorem TownS.s15 {G : GC} {E : SH} {a : Nat} (h : TownS G E a) : Sh G E (a + 15) 20 7 := h.1 (15, 20, 7) (by decide)
theorem TownS.s16 {G : GC} {E : SH} {a : Nat} (h : TownS G E a) : Sh G E (a + 16) 20 5 := h.1 (16, 20, 5) (by decide)
theorem TownS.s17 {G : GC} {E : SH} {a : Nat} (h : TownS G E a) : Sh G E (a + 17) 20 40 := h.1 (17, 20, 40) (by decide)
theorem TownS.s18 {G : GC} {E : SH} {a : Nat} (h : TownS G E a) : Sh G E (a + 18) 20 40 := h.1 (18, 20, 40) (by decide)
theorem TownS.s19 {G : GC} {E : SH} {a : Nat} (h : TownS G E a) : Sh G E (a + 19) 20 40 := h.1 (19, 20, 40) (by decide)
theorem TownS.r0_3 {G : GC} {E : SH} {a : Nat} (h : TownS G E a) : E.2.2 a 3 = some (a + 1) := h.2 (0, 3, 1) (by decide)
theorem TownS.r0_4 {G : GC} {E : SH} {a : Nat} (h : TownS G E a) : E.2.2 a 4 = some (a + 8) := h.2 (0, 4, 8) (by decide)
theorem TownS.r0_5 {G : GC} {E : SH} {a : Nat} (h : TownS G E a) : E.2.2 a 5 = some (a + 9) := h.2 (0, 5, 9) (by decide)
theorem TownS.r0_6 {G : GC} {E : SH} {a : Nat} (h : TownS G E a) : E.2.2 a 6 = some (a + 10) := h.2 (0, 6, 10) (by decide)
theorem TownS.r0_7 {G : GC} {E : SH} {a : Nat} (h : TownS G E a) : E.2.2 a 7 = some (a + 11) := h.2 (0, 7, 11) (by decide)
theorem TownS.r0_8 {G : GC} {E : SH} {a : Nat} (h : TownS G E a) : E.2.2 a 8 = some (a + 12) := h.2 (0, 8, 12) (by decide)
theorem TownS.r0_9 {G : GC} {E : SH} {a : Nat} (h : TownS G E a) : E.2.2 a 9 = some (a + 13) := h.2 (0, 9, 13) (by decide)
theorem TownS.r0_10 {G : GC} {E : SH} {a : Nat} (h : TownS G E a) : E.2.2 a 10 = some (a + 14) := h.2 (0, 10, 14) (by decide)
theorem TownS.r0_11 {G : GC} {E : SH} {a : Nat} (h : TownS G E a) : E.2.2 a 11 = some (a + 15) := h.2 (0, 11, 15) (by decide)
theorem TownS.r0_12 {G : GC} {E : SH} {a : Nat} (h : TownS G E a) : E.2.2 a 12 = some (a + 16) := h.2 (0, 12, 16) (by decide)
theorem TownS.r0_13 {G : GC} {E : SH} {a : Nat} (h : TownS G E a) : E.2.2 a 13 = some (a + 17) := h.2 (0, 13, 17) (by decide)
theorem TownS.r0_14 {G : GC} {E : SH} {a : Nat} (h : TownS G E a) : E.2.2 a 14 = some (a + 18) := h.2 (0, 14, 18) (by decide)
theorem TownS.r0_15 {G : GC} {E : SH} {a : Nat} (h : TownS G E a) : E.2.2 a 15 = some (a + 19) := h.2 (0, 15, 19) (by decide)
def ReadC : List (Nat × Nat × Nat) := [(0, 5, 0), (1, 20, 40)]
def ReadR : List (Nat × Nat × Nat) := [(0, 0, 1)]
def ReadS (G : GC) (E : SH) (a : Nat) : Prop := (∀ p ∈ ReadC, Sh G E (a + p.1) p.2.1 p.2.2) ∧ (∀ p ∈ ReadR, E.2.2 (a + p.1) p.2.1 = some (a + p.2.2))
theorem ReadS.s0 {G : GC} {E : SH} {a : Nat} (h : ReadS G E a) : Sh G E a 5 0 := h.1 (0, 5, 0) (by decide)
theorem ReadS.s1 {G : GC} {E : SH} {a : Nat} (h : ReadS G E a) : Sh G E (a + 1) 20 40 := h.1 (1, 20, 40) (by decide)
theorem ReadS.r0_0 {G : GC} {E : SH} {a : Nat} (h : ReadS G E a) : E.2.2 a 0 = some (a + 1) := h.2 (0, 0, 1) (by decide)
def OutC : List (Nat × Nat × Nat) := [(0, 3, 0), (1, 9, 0), (2, 24, 6), (3, 2, 0), (4, 1, 0), (5, 8, 0), (6, 6, 0), (7, 4, 0), (8, 0, 0), (9, 20, 7), (10, 20, 7), (11, 20, 7), (12, 20, 7), (13, 20, 7), (14, 20, 5), (15, 20, 7), (16, 20, 7), (17, 20, 5), (18, 20, 40), (19, 20, 40), (20, 20, 40), (21, 20, 7), (22, 20, 5), (23, 25, 6), (24, 20, 21), (25, 20, 21), (26, 20, 21), (27, 20, 21), (28, 20, 21), (29, 20, 21), (30, 20, 7)]
def OutR : List (Nat × Nat × Nat) := [(0, 0, 1), (0, 1, 21), (0, 2, 22), (0, 3, 23), (0, 4, 30), (1, 3, 2), (1, 4, 9), (1, 5, 10), (1, 6, 11), (1, 7, 12), (1, 8, 13), (1, 9, 14), (1, 10, 15), (1, 11, 16), (1, 12, 17), (1, 13, 18), (1, 14, 19), (1, 15, 20), (2, 0, 3), (2, 1, 4), (2, 2, 5), (2, 3, 6), (2, 4, 7), (2, 5, 8), (23, 0, 24), (23, 1, 25), (23, 2, 26), (23, 3, 27), (23, 4, 28), (23, 5, 29)]
def OutS (G : GC) (E : SH) (a : Nat) : Prop := (∀ p ∈ OutC, Sh G E (a + p.1) p.2.1 p.2.2) ∧ (∀ p ∈ OutR, E.2.2 (a + p.1) p.2.1 = some (a + p.2.2))
theorem OutS.s0 {G : GC} {E : SH} {a : Nat} (h : OutS G E a) : Sh G E a 3 0 := h.1 (0, 3, 0) (by decide)
theorem OutS.s21 {G : GC} {E : SH} {a : Nat} (h : OutS G E a) : Sh G E (a + 21) 20 7 := h.1 (21, 20, 7) (by decide)
theorem OutS.s22 {G : GC} {E : SH} {a : Nat} (h : OutS G E a) : Sh G E (a + 22) 20 5 := h.1 (22, 20, 5) (by decide)
theorem OutS.s23 {G : GC} {E : SH} {a : Nat} (h : OutS G E a) : Sh G E (a + 23) 25 6 := h.1 (23, 25, 6) (by decide)
theorem OutS.s24 {G : GC} {E : SH} {a : Nat} (h : OutS G E a) : Sh G E (a + 24) 20 21 := h.1 (24, 20, 21) (by decide)
theorem OutS.s25 {G : GC} {E : SH} {a : Nat} (h : OutS G E a) : Sh G E (a + 25) 20 21 := h.1 (25, 20, 21) (by decide)
theorem OutS.s26 {G : GC} {E : SH} {a : Nat} (h : OutS G E a) : Sh G E (a + 26) 20 21 := h.1 (26, 20, 21) (by decide)
theorem OutS.s27 {G : GC} {E : SH} {a : Nat} (h : OutS G E a) : Sh G E (a + 27) 20 21 := h.1 (27, 20, 21) (by decide)
theorem OutS.s28 {G : GC} {E : SH} {a : Nat} (h : OutS G E a) : Sh G E (a + 28) 20 21 := h.1 (28, 20, 21) (by decide)
theorem OutS.s29 {G : GC} {E : SH} {a : Nat} (h : OutS G E a) : Sh G E (a + 29) 20 21 := h.1 (29, 20, 21) (by decide)
theorem OutS.s30 {G : GC} {E : SH} {a : Nat} (h : OutS G E a) : Sh G E (a + 30) 20 7 := h.1 (30, 20, 7) (by decide)
theorem OutS.r0_0 {G : GC} {E : SH} {a : Nat} (h : OutS G E a) : E.2.2 a 0 = some (a + 1) := h.2 (0, 0, 1) (by decide)
theorem OutS.r0_1 {G : GC} {E : SH} {a : Nat} (h : OutS G E a) : E.2.2 a 1 = some (a + 21) := h.2 (0, 1, 21) (by decide)
theorem OutS.r0_2 {G : GC} {E : SH} {a : Nat} (h : OutS G E a) : E.2.2 a 2 = some (a + 22) := h.2 (0, 2, 22) (by decide)
theorem OutS.r0_3 {G : GC} {E : SH} {a : Nat} (h : OutS G E a) : E.2.2 a 3 = some (a + 23) := h.2 (0, 3, 23) (by decide)
theorem OutS.r0_4 {G : GC} {E : SH} {a : Nat} (h : OutS G E a) : E.2.2 a 4 = some (a + 30) := h.2 (0, 4, 30) (by decide)
def XC : List (Nat × Nat × Nat) := [(0, 10, 0), (1, 22, 6), (2, 22, 4), (3, 5, 0), (4, 20, 40), (5, 9, 0), (6, 24, 6), (7, 2, 0), (8, 1, 0), (9, 8, 0), (10, 6, 0), (11, 4, 0), (12, 0, 0), (13, 20, 7), (14, 20, 7), (15, 20, 7), (16, 20, 7), (17, 20, 7), (18, 20, 5), (19, 20, 7), (20, 20, 7), (21, 20, 5), (22, 20, 40), (23, 20, 40), (24, 20, 40), (25, 23, 3), (26, 3, 0), (27, 9, 0), (28, 24, 6), (29, 2, 0), (30, 1, 0), (31, 8, 0), (32, 6, 0), (33, 4, 0), (34, 0, 0), (35, 20, 7), (36, 20, 7), (37, 20, 7), (38, 20, 7), (39, 20, 7), (40, 20, 5), (41, 20, 7), (42, 20, 7), (43, 20, 5), (44, 20, 40), (45, 20, 40), (46, 20, 40), (47, 20, 7), (48, 20, 5), (49, 25, 6), (50, 20, 21), (51, 20, 21), (52, 20, 21), (53, 20, 21), (54, 20, 21), (55, 20, 21), (56, 20, 7), (57, 20, 6), (58, 7, 0), (59, 20, 40), (60, 7, 0), (61, 20, 40), (62, 7, 0), (63, 20, 40), (64, 7, 0), (65, 20, 40), (66, 7, 0), (67, 20, 40), (68, 7, 0), (69, 20, 40), (70, 7, 0), (71, 20, 60), (72, 7, 0), (73, 20, 60), (74, 7, 0), (75, 20, 60), (76, 7, 0), (77, 20, 60), (78, 9, 0), (79, 24, 6), (80, 2, 0), (81, 1, 0), (82, 8, 0), (83, 6, 0), (84, 4, 0), (85, 0, 0), (86, 20, 7), (87, 20, 7), (88, 20, 7), (89, 20, 7), (90, 20, 7), (91, 20, 5), (92, 20, 7), (93, 20, 7), (94, 20, 5), (95, 20, 40), (96, 20, 40), (97, 20, 40), (98, 9, 0), (99, 24, 6), (100, 2, 0), (101, 1, 0), (102, 8, 0), (103, 6, 0), (104, 4, 0), (105, 0, 0), (106, 20, 7), (107, 20, 7), (108, 20, 7), (109, 20, 7), (110, 20, 7), (111, 20, 5), (112, 20, 7), (113, 20, 7), (114, 20, 5), (115, 20, 40), (116, 20, 40), (117, 20, 40), (118, 9, 0), (119, 24, 6), (120, 2, 0), (121, 1, 0), (122, 8, 0), (123, 6, 0), (124, 4, 0), (125, 0, 0), (126, 20, 7), (127, 20, 7), (128, 20, 7), (129, 20, 7), (130, 20, 7), (131, 20, 5), (132, 20, 7), (133, 20, 7), (134, 20, 5), (135, 20, 40), (136, 20, 40), (137, 20, 40)]
def XR : List (Nat × Nat × Nat) := [(0, 0, 1), (0, 1, 2), (0, 2, 3), (0, 3, 5), (0, 4, 25), (0, 5, 26), (0, 6, 57), (3, 0, 4), (5, 3, 6), (5, 4, 13), (5, 5, 14), (5, 6, 15), (5, 7, 16), (5, 8, 17), (5, 9, 18), (5, 10, 19), (5, 11, 20), (5, 12, 21), (5, 13, 22), (5, 14, 23), (5, 15, 24), (6, 0, 7), (6, 1, 8), (6, 2, 9), (6, 3, 10), (6, 4, 11), (6, 5, 12), (26, 0, 27), (26, 1, 47), (26, 2, 48), (26, 3, 49), (26, 4, 56), (27, 3, 28), (27, 4, 35), (27, 5, 36), (27, 6, 37), (27, 7, 38), (27, 8, 39), (27, 9, 40), (27, 10, 41), (27, 11, 42), (27, 12, 43), (27, 13, 44), (27, 14, 45), (27, 15, 46), (28, 0, 29), (28, 1, 30), (28, 2, 31), (28, 3, 32), (28, 4, 33), (28, 5, 34), (49, 0, 50), (49, 1, 51), (49, 2, 52), (49, 3, 53), (49, 4, 54), (49, 5, 55), (58, 0, 59), (1, 0, 58), (60, 0, 61), (1, 1, 60), (62, 0, 63), (1, 2, 62), (64, 0, 65), (1, 3, 64), (66, 0, 67), (1, 4, 66), (68, 0, 69), (1, 5, 68), (70, 0, 71), (2, 0, 70), (72, 0, 73), (2, 1, 72), (74, 0, 75), (2, 2, 74), (76, 0, 77), (2, 3, 76), (78, 3, 79), (78, 4, 86), (78, 5, 87), (78, 6, 88), (78, 7, 89), (78, 8, 90), (78, 9, 91), (78, 10, 92), (78, 11, 93), (78, 12, 94), (78, 13, 95), (78, 14, 96), (78, 15, 97), (79, 0, 80), (79, 1, 81), (79, 2, 82), (79, 3, 83), (79, 4, 84), (79, 5, 85), (25, 0, 78), (98, 3, 99), (98, 4, 106), (98, 5, 107), (98, 6, 108), (98, 7, 109), (98, 8, 110), (98, 9, 111), (98, 10, 112), (98, 11, 113), (98, 12, 114), (98, 13, 115), (98, 14, 116), (98, 15, 117), (99, 0, 100), (99, 1, 101), (99, 2, 102), (99, 3, 103), (99, 4, 104), (99, 5, 105), (25, 1, 98), (118, 3, 119), (118, 4, 126), (118, 5, 127), (118, 6, 128), (118, 7, 129), (118, 8, 130), (118, 9, 131), (118, 10, 132), (118, 11, 133), (118, 12, 134), (118, 13, 135), (118, 14, 136), (118, 15, 137), (119, 0, 120), (119, 1, 121), (119, 2, 122), (119, 3, 123), (119, 4, 124), (119, 5, 125), (25, 2, 118)]
def XS (G : GC) (E : SH) (a : Nat) : Prop := (∀ p ∈ XC, Sh G E (a + p.1) p.2.1 p.2.2) ∧ (∀ p ∈ XR, E.2.2 (a + p.1) p.2.1 = some (a + p.2.2))
theorem XS.s0 {G : GC} {E : SH} {a : Nat} (h : XS G E a) : Sh G E a 10 0 := h.1 (0, 10, 0) (by decide)
theorem XS.s1 {G : GC} {E : SH} {a : Nat} (h : XS G E a) : Sh G E (a + 1) 22 6 := h.1 (1, 22, 6) (by decide)
theorem XS.s2 {G : GC} {E : SH} {a : Nat} (h : XS G E a) : Sh G E (a + 2) 22 4 := h.1 (2, 22, 4) (by decide)
theorem XS.s25 {G : GC} {E : SH} {a : Nat} (h : XS G E a) : Sh G E (a + 25) 23 3 := h.1 (25, 23, 3) (by decide)
theorem XS.s57 {G : GC} {E : SH} {a : Nat} (h : XS G E a) : Sh G E (a + 57) 20 6 := h.1 (57, 20, 6) (by decide)
theorem XS.r0_0 {G : GC} {E : SH} {a : Nat} (h : XS G E a) : E.2.2 a 0 = some (a + 1) := h.2 (0, 0, 1) (by decide)
theorem XS.r0_1 {G : GC} {E : SH} {a : Nat} (h : XS G E a) : E.2.2 a 1 = some (a + 2) := h.2 (0, 1, 2) (by decide)
theorem XS.r0_2 {G : GC} {E : SH} {a : Nat} (h : XS G E a) : E.2.2 a 2 = some (a + 3) := h.2 (0, 2, 3) (by decide)
theorem XS.r0_3 {G : GC} {E : SH} {a : Nat} (h : XS G E a) : E.2.2 a 3 = some (a + 5) := h.2 (0, 3, 5) (by decide)
theorem XS.r0_4 {G : GC} {E : SH} {a : Nat} (h : XS G E a) : E.2.2 a 4 = some (a + 25) := h.2 (0, 4, 25) (by decide)
theorem XS.r0_5 {G : GC} {E : SH} {a : Nat} (h : XS G E a) : E.2.2 a 5 = some (a + 26) := h.2 (0, 5, 26) (by decide)
theorem XS.r0_6 {G : GC} {E : SH} {a : Nat} (h : XS G E a) : E.2.2 a 6 = some (a + 57) := h.2 (0, 6, 57) (by decide)
def MC : List (Nat × Nat × Nat) := [(0, 11, 0), (1, 20, 6), (2, 20, 6), (3, 20, 240), (4, 20, 40), (5, 20, 4), (6, 21, 480), (7, 20, 5), (8, 20, 35), (9, 20, 7), (10, 20, 7), (11, 20, 7), (12, 20, 20), (13, 20, 20), (14, 20, 800), (15, 20, 3), (16, 20, 2460), (17, 20, 216)]
def MR : List (Nat × Nat × Nat) := [(0, 4, 1), (0, 5, 2), (0, 6, 3), (0, 7, 4), (0, 8, 5), (0, 9, 6), (0, 12, 7), (0, 13, 8), (0, 15, 9), (0, 16, 10), (0, 17, 11), (0, 18, 12), (0, 19, 13), (0, 21, 14), (0, 22, 15), (0, 23, 16), (0, 24, 17)]
def MS (G : GC) (E : SH) (a : Nat) : Prop := (∀ p ∈ MC, Sh G E (a + p.1) p.2.1 p.2.2) ∧ (∀ p ∈ MR, E.2.2 (a + p.1) p.2.1 = some (a + p.2.2))
theorem MS.s0 {G : GC} {E : SH} {a : Nat} (h : MS G E a) : Sh G E a 11 0 := h.1 (0, 11, 0) (by decide)
theorem MS.s1 {G : GC} {E : SH} {a : Nat} (h : MS G E a) : Sh G E (a + 1) 20 6 := h.1 (1, 20, 6) (by decide)
theorem MS.s2 {G : GC} {E : SH} {a : Nat} (h : MS G E a) : Sh G E (a + 2) 20 6 := h.1 (2, 20, 6) (by decide)
theorem MS.s3 {G : GC} {E : SH} {a : Nat} (h : MS G E a) : Sh G E (a + 3) 20 240 := h.1 (3, 20, 240) (by decide)
theorem MS.s4 {G : GC} {E : SH} {a : Nat} (h : MS G E a) : Sh G E (a + 4) 20 40 := h.1 (4, 20, 40) (by decide)
theorem MS.s5 {G : GC} {E : SH} {a : Nat} (h : MS G E a) : Sh G E (a + 5) 20 4 := h.1 (5, 20, 4) (by decide)
theorem MS.s6 {G : GC} {E : SH} {a : Nat} (h : MS G E a) : Sh G E (a + 6) 21 480 := h.1 (6, 21, 480) (by decide)
theorem MS.s7 {G : GC} {E : SH} {a : Nat} (h : MS G E a) : Sh G E (a + 7) 20 5 := h.1 (7, 20, 5) (by decide)
theorem MS.s8 {G : GC} {E : SH} {a : Nat} (h : MS G E a) : Sh G E (a + 8) 20 35 := h.1 (8, 20, 35) (by decide)
theorem MS.s9 {G : GC} {E : SH} {a : Nat} (h : MS G E a) : Sh G E (a + 9) 20 7 := h.1 (9, 20, 7) (by decide)
theorem MS.s10 {G : GC} {E : SH} {a : Nat} (h : MS G E a) : Sh G E (a + 10) 20 7 := h.1 (10, 20, 7) (by decide)
theorem MS.s11 {G : GC} {E : SH} {a : Nat} (h : MS G E a) : Sh G E (a + 11) 20 7 := h.1 (11, 20, 7) (by decide)
theorem MS.s12 {G : GC} {E : SH} {a : Nat} (h : MS G E a) : Sh G E (a + 12) 20 20 := h.1 (12, 20, 20) (by decide)
theorem MS.s13 {G : GC} {E : SH} {a : Nat} (h : MS G E a) : Sh G E (a + 13) 20 20 := h.1 (13, 20, 20) (by decide)
theorem MS.s14 {G : GC} {E : SH} {a : Nat} (h : MS G E a) : Sh G E (a + 14) 20 800 := h.1 (14, 20, 800) (by decide)
theorem MS.s15 {G : GC} {E : SH} {a : Nat} (h : MS G E a) : Sh G E (a + 15) 20 3 := h.1 (15, 20, 3) (by decide)
theorem MS.s16 {G : GC} {E : SH} {a : Nat} (h : MS G E a) : Sh G E (a + 16) 20 2460 := h.1 (16, 20, 2460) (by decide)
theorem MS.s17 {G : GC} {E : SH} {a : Nat} (h : MS G E a) : Sh G E (a + 17) 20 216 := h.1 (17, 20, 216) (by decide)
theorem MS.r0_4 {G : GC} {E : SH} {a : Nat} (h : MS G E a) : E.2.2 a 4 = some (a + 1) := h.2 (0, 4, 1) (by decide)
theorem MS.r0_5 {G : GC} {E : SH} {a : Nat} (h : MS G E a) : E.2.2 a 5 = some (a + 2) := h.2 (0, 5, 2) (by decide)
theorem MS.r0_6 {G : GC} {E : SH} {a : Nat} (h : MS G E a) : E.2.2 a 6 = some (a + 3) := h.2 (0, 6, 3) (by decide)
theorem MS.r0_7 {G : GC} {E : SH} {a : Nat} (h : MS G E a) : E.2.2 a 7 = some (a + 4) := h.2 (0, 7, 4) (by decide)
theorem MS.r0_8 {G : GC} {E : SH} {a : Nat} (h : MS G E a) : E.2.2 a 8 = some (a + 5) := h.2 (0, 8, 5) (by decide)
theorem MS.r0_9 {G : GC} {E : SH} {a : Nat} (h : MS G E a) : E.2.2 a 9 = some (a + 6) := h.2 (0, 9, 6) (by decide)
theorem MS.r0_12 {G : GC} {E : SH} {a : Nat} (h : MS G E a) : E.2.2 a 12 = some (a + 7) := h.2 (0, 12, 7) (by decide)
theorem MS.r0_13 {G : GC} {E : SH} {a : Nat} (h : MS G E a) : E.2.2 a 13 = some (a + 8) := h.2 (0, 13, 8) (by decide)
theorem MS.r0_15 {G : GC} {E : SH} {a : Nat} (h : MS G E a) : E.2.2 a 15 = some (a + 9) := h.2 (0, 15, 9) (by decide)
theorem MS.r0_16 {G : GC} {E : SH} {a : Nat} (h : MS G E a) : E.2.2 a 16 = some (a + 10) := h.2 (0, 16, 10) (by decide)
theorem MS.r0_17 {G : GC} {E : SH} {a : Nat} (h : MS G E a) : E.2.2 a 17 = some (a + 11) := h.2 (0, 17, 11) (by decide)
theorem MS.r0_18 {G : GC} {E : SH} {a : Nat} (h : MS G E a) : E.2.2 a 18 = some (a + 12) := h.2 (0, 18, 12) (by decide)
theorem MS.r0_19 {G : GC} {E : SH} {a : Nat} (h : MS G E a) : E.2.2 a 19 = some (a + 13) := h.2 (0, 19, 13) (by decide)
theorem MS.r0_21 {G : GC} {E : SH} {a : Nat} (h : MS G E a) : E.2.2 a 21 = some (a + 14) := h.2 (0, 21, 14) (by decide)
theorem MS.r0_22 {G : GC} {E : SH} {a : Nat} (h : MS G E a) : E.2.2 a 22 = some (a + 15) := h.2 (0, 22, 15) (by decide)
theorem MS.r0_23 {G : GC} {E : SH} {a : Nat} (h : MS G E a) : E.2.2 a 23 = some (a + 16) := h.2 (0, 23, 16) (by decide)
theorem MS.r0_24 {G : GC} {E : SH} {a : Nat} (h : MS G E a) : E.2.2 a 24 = some (a + 17) := h.2 (0, 24, 17) (by decide)
theorem shp_sub {C C' R R' : List (Nat × Nat × Nat)} {G : GC} {E : SH} {a o b : Nat} (hb : b = a + o) (h : (∀ p ∈ C, Sh G E (a + p.1) p.2.1 p.2.2) ∧ (∀ p ∈ R, E.2.2 (a + p.1) p.2.1 = some (a + p.2.2))) (hC : C'.all (fun p => C.contains (o + p.1, p.2.1, p.2.2)) = true) (hR : R'.all (fun p => R.contains (o + p.1, p.2.1, o + p.2.2)) = true) : (∀ p ∈ C', Sh G E (b + p.1) p.2.1 p.2.2) ∧ (∀ p ∈ R', E.2.2 (b + p.1) p.2.1 = some (b + p.2.2)) := by
  subst hb
  refine ⟨fun p hp => ?_, fun p hp => ?_⟩
  · have := h.1 (o + p.1, p.2.1, p.2.2) (List.contains_iff_mem.mp (List.all_eq_true.mp hC p hp))
    rwa [← Nat.add_assoc] at this
  · have := h.2 (o + p.1, p.2.1, o + p.2.2) (List.contains_iff_mem.mp (List.all_eq_true.mp hR p hp))
    rwa [← Nat.add_assoc, ← Nat.add_assoc] at this
theorem XS.town {G : GC} {E : SH} {a : Nat} (h : XS G E a) : TownS G E (a + 5) := shp_sub rfl h (by decide +kernel) (by decide +kernel)
theorem XS.read {G : GC} {E : SH} {a : Nat} (h : XS G E a) : ReadS G E (a + 3) := shp_sub rfl h (by decide +kernel) (by decide +kernel)
theorem XS.out {G : GC} {E : SH} {a : Nat} (h : XS G E a) : OutS G E (a + 26) := shp_sub rfl h (by decide +kernel) (by decide +kernel)
theorem OutS.aside {G : GC} {E : SH} {a : Nat} (h : OutS G E a) : TownS G E (a + 1) := shp_sub rfl h (by decide +kernel) (by decide +kernel)
theorem XS.kept {G : GC} {E : SH} {a k : Nat} (h : XS G E a) (hk : k < 3) : TownS G E (a + (78 + 20 * k)) := by
  match k, hk with
  | 0, _ => exact shp_sub (o := 78) rfl h (by decide +kernel) (by decide +kernel)
  | 1, _ => exact shp_sub (o := 98) rfl h (by decide +kernel) (by decide +kernel)
  | 2, _ => exact shp_sub (o := 118) rfl h (by decide +kernel) (by decide +kernel)
theorem XS.keptr {G : GC} {E : SH} {a k : Nat} (h : XS G E a) (hk : k < 3) : E.2.2 (a + 25) k = some (a + (78 + 20 * k)) := by
  match k, hk with
  | 0, _ => exact h.2 (25, 0, 78) (by decide +kernel)
  | 1, _ => exact h.2 (25, 1, 98) (by decide +kernel)
  | 2, _ => exact h.2 (25, 2, 118) (by decide +kernel)
theorem strip_sub {C R : List (Nat × Nat × Nat)} {G : GC} {E : SH} {a o n : Nat} (h : (∀ p ∈ C, Sh G E (a + p.1) p.2.1 p.2.2) ∧ (∀ p ∈ R, E.2.2 (a + p.1) p.2.1 = some (a + p.2.2))) (h1 : C.contains (o, 7, 0) = true) (h2 : C.contains (o + 1, 20, n) = true) (h3 : R.contains (o, 0, o + 1) = true) : StripS G E (a + o) n :=
  ⟨h.1 (o, 7, 0) (List.contains_iff_mem.mp h1), h.1 (o + 1, 20, n) (List.contains_iff_mem.mp h2), h.2 (o, 0, o + 1) (List.contains_iff_mem.mp h3)⟩
theorem XS.row {G : GC} {E : SH} {a k : Nat} (h : XS G E a) (hk : k < 6) : StripS G E (a + (58 + 2 * k)) 40 := by
  match k, hk with
  | 0, _ => exact strip_sub (o := 58) h (by decide +kernel) (by decide +kernel) (by decide +kernel)
  | 1, _ => exact strip_sub (o := 60) h (by decide +kernel) (by decide +kernel) (by decide +kernel)
  | 2, _ => exact strip_sub (o := 62) h (by decide +kernel) (by decide +kernel) (by decide +kernel)
  | 3, _ => exact strip_sub (o := 64) h (by decide +kernel) (by decide +kernel) (by decide +kernel)
  | 4, _ => exact strip_sub (o := 66) h (by decide +kernel) (by decide +kernel) (by decide +kernel)
  | 5, _ => exact strip_sub (o := 68) h (by decide +kernel) (by decide +kernel) (by decide +kernel)
theorem XS.rowr {G : GC} {E : SH} {a k : Nat} (h : XS G E a) (hk : k < 6) : E.2.2 (a + 1) k = some (a + (58 + 2 * k)) := by
  match k, hk with
  | 0, _ => exact h.2 (1, 0, 58) (by decide +kernel)
  | 1, _ => exact h.2 (1, 1, 60) (by decide +kernel)
  | 2, _ => exact h.2 (1, 2, 62) (by decide +kernel)
  | 3, _ => exact h.2 (1, 3, 64) (by decide +kernel)
  | 4, _ => exact h.2 (1, 4, 66) (by decide +kernel)
  | 5, _ => exact h.2 (1, 5, 68) (by decide +kernel)
theorem XS.text {G : GC} {E : SH} {a k : Nat} (h : XS G E a) (hk : k < 4) : StripS G E (a + (70 + 2 * k)) 60 := by
  match k, hk with
  | 0, _ => exact strip_sub (o := 70) h (by decide +kernel) (by decide +kernel) (by decide +kernel)
  | 1, _ => exact strip_sub (o := 72) h (by decide +kernel) (by decide +kernel) (by decide +kernel)
  | 2, _ => exact strip_sub (o := 74) h (by decide +kernel) (by decide +kernel) (by decide +kernel)
  | 3, _ => exact strip_sub (o := 76) h (by decide +kernel) (by decide +kernel) (by decide +kernel)
theorem XS.textr {G : GC} {E : SH} {a k : Nat} (h : XS G E a) (hk : k < 4) : E.2.2 (a + 2) k = some (a + (70 + 2 * k)) := by
  match k, hk with
  | 0, _ => exact h.2 (2, 0, 70) (by decide +kernel)
  | 1, _ => exact h.2 (2, 1, 72) (by decide +kernel)
  | 2, _ => exact h.2 (2, 2, 74) (by decide +kernel)
  | 3, _ => exact h.2 (2, 3, 76) (by decide +kernel)
/-- the class of a kind -/
def sbt (k : Nat) : Nat := match k with
  | 0 => 2 | 1 => 1 | 2 => 8 | 3 => 6 | 4 => 4 | _ => 0
theorem TownS.sort {G : GC} {E : SH} {a k : Nat} (h : TownS G E a) (hk : k < 6) : Sh G E (a + (2 + k)) (sbt k) 0 ∧ E.2.2 (a + 1) k = some (a + (2 + k)) := by
  match k, hk with
  | 0, _ => exact ⟨h.1 (2, 2, 0) (by decide), h.2 (1, 0, 2) (by decide)⟩
  | 1, _ => exact ⟨h.1 (3, 1, 0) (by decide), h.2 (1, 1, 3) (by decide)⟩
  | 2, _ => exact ⟨h.1 (4, 8, 0) (by decide), h.2 (1, 2, 4) (by decide)⟩
  | 3, _ => exact ⟨h.1 (5, 6, 0) (by decide), h.2 (1, 3, 5) (by decide)⟩
  | 4, _ => exact ⟨h.1 (6, 4, 0) (by decide), h.2 (1, 4, 6) (by decide)⟩
  | 5, _ => exact ⟨h.1 (7, 0, 0) (by decide), h.2 (1, 5, 7) (by decide)⟩
theorem OutS.tot {G : GC} {E : SH} {a k : Nat} (h : OutS G E a) (hk : k < 6) : Sh G E (a + (24 + k)) 20 21 ∧ E.2.2 (a + 23) k = some (a + (24 + k)) := by
  match k, hk with
  | 0, _ => exact ⟨h.1 (24, 20, 21) (by decide +kernel), h.2 (23, 0, 24) (by decide +kernel)⟩
  | 1, _ => exact ⟨h.1 (25, 20, 21) (by decide +kernel), h.2 (23, 1, 25) (by decide +kernel)⟩
  | 2, _ => exact ⟨h.1 (26, 20, 21) (by decide +kernel), h.2 (23, 2, 26) (by decide +kernel)⟩
  | 3, _ => exact ⟨h.1 (27, 20, 21) (by decide +kernel), h.2 (23, 3, 27) (by decide +kernel)⟩
  | 4, _ => exact ⟨h.1 (28, 20, 21) (by decide +kernel), h.2 (23, 4, 28) (by decide +kernel)⟩
  | 5, _ => exact ⟨h.1 (29, 20, 21) (by decide +kernel), h.2 (23, 5, 29) (by decide +kernel)⟩
/-- a truth as an int -/
def zI (c : Prop) [Decidable c] : Int32 := if c then 1 else 0
theorem zI_n (c : Prop) [Decidable c] : narrow .boolean (.int (zI c)) = .int (zI c) := by
  unfold zI
  split <;> rfl
theorem zI_t {c : Prop} [Decidable c] (h : c) : zI c = 1 := if_pos h
theorem zI_f {c : Prop} [Decidable c] (h : ¬ c) : zI c = 0 := if_neg h
theorem zI_0 {c : Prop} [Decidable c] : zI c = 0 ↔ ¬ c := by
  unfold zI
  split
  · exact ⟨fun h => absurd h (by decide), fun h => absurd ‹c› h⟩
  · exact ⟨fun _ => ‹¬ c›, fun _ => rfl⟩
theorem zI_n0 {c : Prop} [Decidable c] : ¬ zI c = 0 ↔ c := by
  rw [zI_0]
  exact Decidable.not_not
theorem zI_e {c d : Prop} [Decidable c] [Decidable d] (h : c ↔ d) : zI c = zI d := by
  unfold zI
  by_cases hc : c
  · rw [if_pos hc, if_pos (h.mp hc)]
  · rw [if_neg hc, if_neg (fun q => hc (h.mpr q))]
