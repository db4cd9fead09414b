/-! THE SMALL MACHINE: values with kinds in place of addresses; its worlds, words and checks -/
abbrev am_ls : Type := List (Nat × am_V)
abbrev tI : Type := Nat → Nat → Nat → Int32
abbrev tL : Type := Nat → Nat → Nat → Int64
abbrev tR : Type := Nat → Nat → Nat → Option (Nat × Nat)
abbrev tN : Type := Nat → Nat
abbrev tM : Type := Nat → Nat → Nat
abbrev tQ : Type := Option am_V → tI → tL → tR → tN → tM → Prop
abbrev am_C : Type := Σ' c : Prop, Decidable c
abbrev am_if (c : Prop) [d : Decidable c] : am_C := ⟨c, d⟩
def u3 {α : Type} (f : Nat → Nat → Nat → α) (k i j : Nat) (v : α) : Nat → Nat → Nat → α := fun a b c => if a = k then if b = i then if c = j then v else f a b c else f a b c else f a b c
def z2 {α : Type} (f : Nat → Nat → Nat → α) (k i : Nat) (v : α) : Nat → Nat → Nat → α := fun a b c => if a = k then if b = i then v else f a b c else f a b c
def u2 (f : tM) (k i v : Nat) : tM := fun a b => if a = k then if b = i then v else f a b else f a b
def u1 (f : tN) (k v : Nat) : tN := fun a => if a = k then v else f a
theorem u3_eq {α : Type} (f : Nat → Nat → Nat → α) (k i j : Nat) (v : α) : u3 f k i j v k i j = v := by simp [u3]
theorem u3_k {α : Type} (f : Nat → Nat → Nat → α) {k i j a b c : Nat} (v : α) (h : a ≠ k) : u3 f k i j v a b c = f a b c := by simp [u3, h]
theorem u3_i {α : Type} (f : Nat → Nat → Nat → α) {k i j a b c : Nat} (v : α) (h : b ≠ i) : u3 f k i j v a b c = f a b c := by simp [u3, h]
theorem u3_j {α : Type} (f : Nat → Nat → Nat → α) {k i j a b c : Nat} (v : α) (h : c ≠ j) : u3 f k i j v a b c = f a b c := by simp [u3, h]
-- values, cells, worlds
def am_cv (ad : tM) : am_V → Value
  | .inl x => .int x
  | .inr (.inl x) => .long x
  | .inr (.inr none) => .null
  | .inr (.inr (some q)) => .ref (ad q.1 q.2)
def am_cat : am_V → Nat
  | .inr (.inl _) => 2
  | _ => 1
theorem am_cv_cat (ad : tM) (v : am_V) : (am_cv ad v).category = am_cat v := by
  rcases v with x | x | _ | q <;> rfl
noncomputable def am_fv (ad : tM) (σ : tI) (τ : tL) (ρ : tR) (k i j : Nat) : Value :=
  if am_ft k j = 1 then .long (τ k i j) else if am_ft k j = 2 then va_rf ((ρ k i j).map fun q => ad q.1 q.2) else .int (σ k i j)
noncomputable def am_ce (ca : Nat → ClassId) (ad : tM) (σ : tI) (τ : tL) (ρ : tR) (ln : tM) (p : Nat × Nat) : va_E :=
  if p.1 < 13 then .inr (p.1, (List.range (am_nf p.1)).map (am_fv ad σ τ ρ p.1 p.2))
  else if am_ek p.1 < 2 then .inl (ca (am_ek p.1), ln p.1 p.2, .inl (fun j => σ p.1 p.2 j))
  else .inl (ca (am_ek p.1), ln p.1 p.2, .inr (.inr (.inr (.inr (fun j => if j < ln p.1 p.2 then (ρ p.1 p.2 j).map (fun q => ad q.1 q.2) else none)))))
noncomputable def am_wl (ca : Nat → ClassId) (ad : tM) (σ : tI) (τ : tL) (ρ : tR) (ln : tM) (L : List (Nat × Nat)) : va_W := L.map fun p => (ad p.1 p.2, am_ce ca ad σ τ ρ ln p)
def am_ty (ca : Nat → ClassId) : List (ClassId × FieldType) := [(ca 0, .int), (ca 1, .boolean), (ca 2, .object RX6), (ca 3, .object RX9), (ca 4, .object RX8), (ca 5, .object RX0)]
def am_VR (ρ : tR) (cn : tN) (ln : tM) : Prop := ∀ (k i j : Nat) (q : Nat × Nat), i < cn k → (13 ≤ k → j < ln k i) → ρ k i j = some q → q.2 < cn q.1
def am_VO (cn : tN) : am_V → Prop
  | .inr (.inr (some q)) => q.2 < cn q.1
  | _ => True
def am_Vs (cn : tN) : List am_V → Prop
  | [] => True
  | v :: r => am_VO cn v ∧ am_Vs cn r
def am_Vl (cn : tN) : am_ls → Prop
  | [] => True
  | q :: r => am_VO cn q.2 ∧ am_Vl cn r
/-- words that are not kept by 'goodWord', but by the state's own warming -/
def am_xw : List Cond := lw_tbl.filter (fun w => match w with | .methodLinkNest .. => true | _ => false)
def am_Xt (s : State) : Prop := (∀ w ∈ am_xw, va_Nw w s) ∧ va_AO RX6 s ∧ va_AO RX9 s ∧ va_AO RX8 s ∧ va_AO RX0 s
theorem am_Xt.warm {s U : State} (hW : s.WarmedH U.vm) (h : am_Xt s) : am_Xt U := by
  refine ⟨fun w hw => ?_, h.2.1.moved hW.alike, h.2.2.1.moved hW.alike, h.2.2.2.1.moved hW.alike, h.2.2.2.2.moved hW.alike⟩
  have h1 := h.1 w hw
  have h2 := (List.mem_filter.mp hw).2
  cases w <;> first | (exact va_Nw.warmM hW h1) | (simp at h2; done)
theorem am_Xt.same {s U : State} (e : s.vm = U.vm) (h : am_Xt s) : am_Xt U := by
  have hA : s.vm.Alike U.vm := by rw [e]; exact Vm.Alike.refl _
  refine ⟨fun w hw => ?_, h.2.1.moved hA, h.2.2.1.moved hA, h.2.2.2.1.moved hA, h.2.2.2.2.moved hA⟩
  have h1 := h.1 w hw
  have h2 := (List.mem_filter.mp hw).2
  cases w <;> first | (exact va_Nw.same rfl e h1) | (simp at h2; done)
-- a method's contract, and the machine at a place of a method
/-- what a world is: the cells of kinds and numbers below 'cn' -/
def am_Y (D : va_G) (ca : Nat → ClassId) (A : Nat → Prop) (ad : tM) (L : List (Nat × Nat)) (H : Heap) (σ : tI) (τ : tL) (ρ : tR) (cn : tN) (ln : tM) : Prop :=
  (∀ q : Nat × Nat, q ∈ L ↔ q.2 < cn q.1) ∧ am_VR ρ cn ln ∧ va_P D vwCl (am_wl ca ad σ τ ρ ln L) H ∧ va_D A (am_wl ca ad σ τ ρ ln L)
def am_P (D : va_G) (ca : Nat → ClassId) (ad : tM) (L : List (Nat × Nat)) (σ : tI) (τ : tL) (ρ : tR) (cn : tN) (ln : tM) (vs : List am_V) (sz : Nat) : Array Value → State → Prop :=
  va_Pc (vs.map (am_cv ad)) (fun U => U.heap.size = sz ∧ am_Y D ca (fun _ => True) ad L U.heap σ τ ρ cn ln ∧ va_K D vwCl (am_ty ca) U ∧ am_Xt U ∧ am_Vs cn vs)
def am_Q (D : va_G) (ca : Nat → ClassId) (ad : tM) (L : List (Nat × Nat)) (A : Nat → Prop) (Q : tQ) : Array Value → State → Outcome → State → Prop :=
  fun _ st oc t => (∃ (v : Option am_V) (ad' : tM) (L' : List (Nat × Nat)) (σ : tI) (τ : tL) (ρ : tR) (cn : tN) (ln : tM), oc = .returned (v.map (am_cv ad')) ∧ Q v σ τ ρ cn ln ∧ (∀ q ∈ L, ad' q.1 q.2 = ad q.1 q.2 ∧ q ∈ L') ∧ am_Y D ca A ad' L' t.heap σ τ ρ cn ln ∧ (∀ w, v = some w → am_VO cn w)) ∧ va_F A st t
noncomputable def am_E (l : Launch) (y : Nat) (vs : List am_V) (σ : tI) (τ : tL) (ρ : tR) (cn : tN) (ln : tM) (Q : tQ) : Prop :=
  ∀ (D : va_G) (ca : Nat → ClassId) (ad : tM) (L : List (Nat × Nat)) (sz : Nat), Met l (am_nm y) (am_ws y) (am_rm y) (am_P D ca ad L σ τ ρ cn ln vs sz) (am_Q D ca ad L (va_A (am_wl ca ad σ τ ρ ln L) sz) Q) (am_rm y).cells (am_rm y).slots (va_A (am_wl ca ad σ τ ρ ln L) sz)
noncomputable def am_X (y : Nat) (p : Program) (s : State) (m : MethodId) (args : Array Value) (meth : Method) (c : Code) (D : va_G) (ca : Nat → ClassId) (A : Nat → Prop) : Prop :=
  p.tables.exec = Jvm.exec ∧ c.code = am_cb y ∧ meth.sig.returnType = am_rt y ∧ c.maxLocals = am_ml y ∧ (∀ w ∈ am_ws y, w.before args s = true) ∧ s.vm.findClass (am_nm y).cls = some m.cls ∧ meth.locks = false ∧ meth.name = (am_nm y).name ∧ va_K D vwCl (am_ty ca) s ∧ am_Xt s ∧ ∀ q : Nat, s.heap.size ≤ q → A q
def am_lc (ad : tM) (ls : am_ls) : List (Nat × Value) := ls.map fun q => (q.1, am_cv ad q.2)
noncomputable def am_G (l : Launch) (y : Nat) (Q : tQ) (u w : Nat) (pc : Nat) (ls : am_ls) (st : List am_V) (σ : tI) (τ : tL) (ρ : tR) (cn : tN) (ln : tM) : Prop :=
  ∀ (p : Program) (e : Env) (s : State) (m : MethodId) (args : Array Value) (below : List Frame) (meth : Method) (c : Code) (D : va_G) (ca : Nat → ClassId) (ad0 : tM) (L0 : List (Nat × Nat)) (A : Nat → Prop) (ad : tM) (L : List (Nat × Nat)) (H : Heap) (locs : List Loc) (lsA : Array Slot),
    am_X y p s m args meth c D ca A → (∀ q ∈ L0, ad q.1 q.2 = ad0 q.1 q.2 ∧ q ∈ L) → am_Y D ca A ad L H σ τ ρ cn ln → va_S A s.heap H locs → lv_has lsA (am_ml y) (am_lc ad ls) → am_Vl cn ls → am_Vs cn st →
    W p l e (am_rm y) s m args below meth c H locs u w (MQ below (am_Q D ca ad0 L0 A Q) args s (am_rm y).cells (am_rm y).slots A) (F0 m pc lsA (st.map (am_cv ad)))
