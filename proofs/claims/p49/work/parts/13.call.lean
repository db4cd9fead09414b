/-! RETURNS, ENTRIES, CALLS of the small machine -/
section AMR
variable {l : Launch} {y : Nat} {Q : tQ} {u w pc : Nat} {ls : am_ls} {st : List am_V} {σ : tI} {τ : tL} {ρ : tR} {cn : tN} {ln : tM}
theorem am_zret {x : Int32} {ty : FieldType} (hd : decode (am_cb y) pc = .ok (.ireturn, 1)) (hr : am_rt y = some ty) (hn : narrow ty (.int x) = .int x) (hu : u ≤ (am_rm y).cells) (hw : w ≤ (am_rm y).slots) (hQ : Q (some (.inl x)) σ τ ρ cn ln) : am_G l y Q u w pc ls [.inl x] σ τ ρ cn ln := by
  intro p e s m args below meth cc D ca ad0 L0 A ad L H locs lsA hX hL hY hS hl hVl hV
  refine W.widen hu hw ?_
  exact W.zret hX.1 hX.2.1 (hX.2.2.1.trans hr) hn (fun t ht _ => ⟨⟨some (.inl x), ad, L, σ, τ, ρ, cn, ln, rfl, hQ, hL, ⟨hY.1, hY.2.1, by rw [ht]; exact hY.2.2.1, hY.2.2.2⟩, fun w hw => by cases hw; exact trivial⟩, hS.F ht⟩) hS.2.2 hd hX.2.2.2.2.2.2.1
theorem am_lret {x : Int64} (hd : decode (am_cb y) pc = .ok (.lreturn, 1)) (hr : am_rt y = some .long) (hu : u ≤ (am_rm y).cells) (hw : w ≤ (am_rm y).slots) (hQ : Q (some (.inr (.inl x))) σ τ ρ cn ln) : am_G l y Q u w pc ls [.inr (.inl x)] σ τ ρ cn ln := by
  intro p e s m args below meth cc D ca ad0 L0 A ad L H locs lsA hX hL hY hS hl hVl hV
  refine W.widen hu hw ?_
  exact W.lret hX.1 hX.2.1 (hX.2.2.1.trans hr) (fun t ht _ => ⟨⟨some (.inr (.inl x)), ad, L, σ, τ, ρ, cn, ln, rfl, hQ, hL, ⟨hY.1, hY.2.1, by rw [ht]; exact hY.2.2.1, hY.2.2.2⟩, fun w hw => by cases hw; exact trivial⟩, hS.F ht⟩) hS.2.2 hd hX.2.2.2.2.2.2.1
theorem am_vret (hd : decode (am_cb y) pc = .ok (.return_, 1)) (hr : am_rt y = none) (hu : u ≤ (am_rm y).cells) (hw : w ≤ (am_rm y).slots) (hQ : Q none σ τ ρ cn ln) : am_G l y Q u w pc ls [] σ τ ρ cn ln := by
  intro p e s m args below meth cc D ca ad0 L0 A ad L H locs lsA hX hL hY hS hl hVl hV
  refine W.widen hu hw ?_
  exact W.vret hX.1 hX.2.1 (hX.2.2.1.trans hr) (fun t ht _ => ⟨⟨none, ad, L, σ, τ, ρ, cn, ln, rfl, hQ, hL, ⟨hY.1, hY.2.1, by rw [ht]; exact hY.2.2.1, hY.2.2.2⟩, fun w hw => by cases hw⟩, hS.F ht⟩) hS.2.2 hd hX.2.2.2.2.2.2.1
def am_args : Nat → List am_V → am_ls
  | _, [] => []
  | i, v :: r => (i, v) :: am_args (i + am_cat v) r
def am_cats : List am_V → Nat
  | [] => 0
  | v :: r => am_cat v + am_cats r
theorem am_cat12 (v : am_V) : am_cat v = 1 ∨ am_cat v = 2 := by rcases v with x | x | x <;> simp [am_cat]
theorem am_args_lc {ad : tM} : ∀ (vs : List am_V) (i : Nat), lv_args i (vs.map (am_cv ad)) = am_lc ad (am_args i vs)
  | [], _ => rfl
  | v :: r, i => by
    have h : (if (am_cv ad v).category = 2 then i + 2 else i + 1) = i + am_cat v := by
      rw [am_cv_cat]
      rcases am_cat12 v with e | e <;> rw [e] <;> simp
    show (i, am_cv ad v) :: lv_args (if (am_cv ad v).category = 2 then i + 2 else i + 1) (r.map (am_cv ad)) = _
    rw [h, am_args_lc r (i + am_cat v)]
    rfl
theorem am_sl_len {ad : tM} : ∀ (vs : List am_V), (lg_sl (vs.map (am_cv ad))).length = am_cats vs
  | [] => rfl
  | v :: r => by
    have h := am_sl_len (ad := ad) r
    unfold lg_sl at h ⊢
    rw [List.map_cons, List.flatMap_cons, List.length_append, h, am_cv_cat]
    rcases am_cat12 v with e | e <;> simp [am_cats, e]
theorem am_Vl_args : ∀ {vs : List am_V} (i : Nat), am_Vs cn vs → am_Vl cn (am_args i vs)
  | [], _, _ => trivial
  | _ :: _, _, h => ⟨h.1, am_Vl_args _ h.2⟩
set_option maxHeartbeats 4000000 in
/-- a method's contract out of its walk -/
theorem am_E_of {vs : List am_V} (hy : plainName (am_nm y).cls = true) (hc : am_cats vs ≤ am_ml y) (hG : am_G l y Q 0 0 0 (am_args 0 vs) [] σ τ ρ cn ln) : am_E l y vs σ τ ρ cn ln Q := by
  intro D ca ad L sz
  refine Met.ofW (cc := am_cb y) (maxL := am_ml y) (ret := am_rt y) hy rfl ?_
  intro p e s m args below meth c s₁ B hml hv
  obtain ⟨rfl, hsz, hY, hK, hXt, hVs⟩ := hv
  subst hsz
  have hl := lv_entry (vs.map (am_cv ad)) (n := am_ml y) (by rw [am_sl_len]; exact hc)
  rw [am_args_lc] at hl
  rw [lg_entry_eq]
  have hX : am_X y p s m (vs.map (am_cv ad)).toArray meth c D ca (va_A (am_wl ca ad σ τ ρ ln L) s.heap.size) := ⟨B.exec, B.bytes, B.returns, hml, atoms_spec (ws := am_ws y) B.pre, findClass_of_methodNamed B.named, B.notSynchronized, (name_of_methodNamed B.named B.method).1, hK, hXt, fun q hq => Or.inr hq⟩
  exact hG p e s m _ below meth c D ca ad L (va_A (am_wl ca ad σ τ ρ ln L) s.heap.size) ad L s.heap [] _ hX (fun q hq => ⟨rfl, hq⟩) ⟨hY.1, hY.2.1, hY.2.2.1, hY.2.2.2.self⟩ va_S.rf hl (am_Vl_args 0 hVs) trivial
-- calls
def am_push : Option am_V → List am_V → List am_V
  | some v, st => v :: st
  | none, st => st
def am_spl : Nat → List am_V → List am_V → Option (List am_V × List am_V)
  | 0, st, acc => some (acc, st)
  | n + 1, v :: st, acc => am_spl n st (v :: acc)
  | _ + 1, [], _ => none
theorem am_spl_ok : ∀ (n : Nat) (st acc vs rest : List am_V), am_spl n st acc = some (vs, rest) → ∃ as : List am_V, as.length = n ∧ st = as ++ rest ∧ vs = as.reverse ++ acc
  | 0, st, acc, vs, rest, h => by cases h; exact ⟨[], rfl, rfl, rfl⟩
  | n + 1, [], _, _, _, h => by cases h
  | n + 1, v :: st, acc, vs, rest, h => by
    obtain ⟨as, h1, h2, h3⟩ := am_spl_ok n st (v :: acc) vs rest h
    exact ⟨v :: as, by simp [h1], by simp [h2], by simp [h3]⟩
theorem am_Vs_app {a b : List am_V} (h : am_Vs cn (a ++ b)) : am_Vs cn a ∧ am_Vs cn b := by
  induction a with
  | nil => exact ⟨trivial, h⟩
  | cons v a ih =>
    obtain ⟨h1, h2⟩ := ih h.2
    exact ⟨⟨h.1, h1⟩, h2⟩
theorem am_Vs_app2 {a b : List am_V} (h1 : am_Vs cn a) (h2 : am_Vs cn b) : am_Vs cn (a ++ b) := by
  induction a with
  | nil => exact h2
  | cons v a ih => exact ⟨h1.1, ih h1.2⟩
theorem am_Vs_rev {a : List am_V} (h : am_Vs cn a) : am_Vs cn a.reverse := by
  induction a with
  | nil => exact trivial
  | cons v a ih =>
    rw [List.reverse_cons]
    exact am_Vs_app2 (ih h.2) ⟨h.1, trivial⟩
theorem am_P_blind {D : va_G} {ca : Nat → ClassId} {ad : tM} {L : List (Nat × Nat)} {vs : List am_V} {sz : Nat} : FrameBlind (am_P D ca ad L σ τ ρ cn ln vs sz) := by
  intro a U g mk q
  obtain ⟨q0, q1, qY, qK, qX, qV⟩ := q
  exact ⟨q0, q1, qY, va_K.moved (u := U) (U := U.calling g mk a) (Vm.Alike.refl U.vm) qK, am_Xt.same (s := U) (U := U.calling g mk a) rfl qX, qV⟩
set_option maxHeartbeats 4000000 in
/-- behind a call -/
theorem am_after {p : Program} {e : Env} {s : State} {m : MethodId} {args : Array Value} {below : List Frame} {meth : Method} {c : Code} {D : va_G} {ca : Nat → ClassId} {ad0 : tM} {L0 : List (Nat × Nat)} {A : Nat → Prop} {ad : tM} {L : List (Nat × Nat)} {H : Heap} {locs : List Loc} {lsA : Array Slot} {rest : List am_V} {stv : List Value} {Q2 : tQ} {a : Array Value} {mc ms : Nat}
    (hr : va_Run p l e (am_rm y) s m args below meth c H locs u w mc ms (F0 m pc lsA stv) (rest.map (am_cv ad)) (am_Q D ca ad L (va_A (am_wl ca ad σ τ ρ ln L) H.size) Q2 a) (va_A (am_wl ca ad σ τ ρ ln L) H.size))
    (hX : am_X y p s m args meth c D ca A) (hL : ∀ q ∈ L0, ad q.1 q.2 = ad0 q.1 q.2 ∧ q ∈ L) (hY : am_Y D ca A ad L H σ τ ρ cn ln) (hS : va_S A s.heap H locs) (hl : lv_has lsA (am_ml y) (am_lc ad ls)) (hVl : am_Vl cn ls) (hV : am_Vs cn rest)
    (K : ∀ v σ2 τ2 ρ2 cn2 ln2, Q2 v σ2 τ2 ρ2 cn2 ln2 → am_G l y Q (u + mc) (w + ms) (pc + 3) ls (am_push v rest) σ2 τ2 ρ2 cn2 ln2) :
    W p l e (am_rm y) s m args below meth c H locs u w (MQ below (am_Q D ca ad0 L0 A Q) args s (am_rm y).cells (am_rm y).slots A) (F0 m pc lsA stv) := by
  intro T hT X
  obtain ⟨v, st₀, t, T', Lc, h0, X', hLc, e1, e2, ⟨⟨v2, ad2, L2, σ2, τ2, ρ2, cn2, ln2, hv, hq, hL2, hY2, hVv⟩, hz, hk⟩, stp⟩ := hr T hT X
  have hv : v = v2.map (am_cv ad2) := by injection hv
  have hfree : ∀ q, va_A (am_wl ca ad σ τ ρ ln L) H.size q → A q := by
    intro q hq
    rcases hq with ⟨k, ec, h⟩ | h
    · exact hY.2.2.2.2 k (q, ec) h
    · exact hX.2.2.2.2.2.2.2.2.2.2 q (Nat.le_trans hS.1 h)
  rw [h0] at hz hk
  have same : ∀ k i, i < cn k → ad2 k i = ad k i := fun k i hi => (hL2 (k, i) ((hY.1 (k, i)).mpr hi)).1
  have mono : ∀ k, cn k ≤ cn2 k := by
    intro k
    refine Nat.le_of_not_lt fun hlt => ?_
    have h1 := (hL2 (k, cn2 k) ((hY.1 (k, cn2 k)).mpr hlt)).2
    exact Nat.lt_irrefl _ ((hY2.1 (k, cn2 k)).mp h1)
  have hS2 : va_S A s.heap T'.heap (locs ++ Lc) := ⟨Nat.le_trans hS.1 (by rw [e1]; exact hz), fun q h1 h2 => by
      rw [e1, hk q (Nat.lt_of_lt_of_le h1 hS.1) (fun z => h2 (hfree q z))]; exact hS.2.1 q h1 h2, fun q hq => by
      rcases List.mem_append.mp hq with h | h
      · exact hS.2.2 q h
      · exact hfree _ (hLc q h)⟩
  have hY3 : am_Y D ca A ad2 L2 T'.heap σ2 τ2 ρ2 cn2 ln2 := ⟨hY2.1, hY2.2.1, by rw [e1]; exact hY2.2.2.1, hY2.2.2.2.weaken (fun k q _ h => hfree q.1 h)⟩
  have hVp : am_Vs cn2 (am_push v2 rest) := by
    cases v2 with
    | none => exact am_Vs_mono mono hV
    | some x => exact ⟨hVv x rfl, am_Vs_mono mono hV⟩
  obtain ⟨t2, a1, b1⟩ := K v2 σ2 τ2 ρ2 cn2 ln2 hq p e s m args below meth c D ca ad0 L0 A ad2 L2 T'.heap (locs ++ Lc) lsA hX (fun q hq => ⟨((hL2 q (hL q hq).2).1).trans (hL q hq).1, (hL2 q (hL q hq).2).2⟩) hY3 hS2 (by rw [am_lc_same same hVl]; exact hl) (am_Vl_mono mono hVl) hVp T' rfl X'
  refine ⟨t2, stp t2 ?_, b1⟩
  have e3 : (am_push v2 rest).map (am_cv ad2) = v.toList ++ rest.map (am_cv ad) := by
    rw [hv, ← am_map_same same hV]
    cases v2 <;> rfl
  rw [e3] at a1
  exact a1
end AMR
-- the checks of calls
def am_cx (z : Nat) : Nat := bif Nat.blt z 45 then (bif Nat.blt z 9 then (bif Nat.blt z 4 then 0 else 1) else bif Nat.blt z 13 then 2 else bif Nat.blt z 35 then 3 else 4) else bif Nat.blt z 74 then (bif Nat.blt z 56 then 5 else bif Nat.blt z 63 then 6 else bif Nat.blt z 73 then 7 else 8) else bif Nat.blt z 92 then (bif Nat.blt z 87 then 9 else 10) else bif Nat.blt z 154 then 11 else 12
noncomputable def am_okm (z : Nat) : Bool := am_has (am_m z).2.2.2.2.2.1 (.code (am_nm z) (am_cb z) (am_ml z) (am_rt z)) && (am_in (.initialized (am_nm z).cls) && (decide ((am_nm z).cls ≠ "java/lang/invoke/MethodHandle" ∧ (am_nm z).cls ≠ "java/lang/invoke/VarHandle") && (plainName (am_nm z).cls && (match am_fl z with
  | 0 => am_has (am_m z).2.2.2.2.2.2.1 (.instanceMethod (am_nm z)) && (am_has (am_m z).2.2.2.2.2.2.2.1 (.selects (am_nm z).cls (am_nm z) (am_nm z)) && (decide ((vwCl[am_cx z]?).map (fun q => q.1) = some (am_nm z).cls) && (Nat.beq (am_rm z).cells 0 && Nat.beq (am_rm z).slots 0)))
  | 1 => am_has (am_m z).2.2.2.2.2.2.1 (.static (am_nm z)) && (Nat.beq (am_rm z).cells 0 && Nat.beq (am_rm z).slots 0)
  | 2 => am_has (am_m z).2.2.2.2.2.2.1 (.instanceMethod (am_nm z)) && (decide ((am_nm z).name = "<init>") && decide (am_rt z = none))
  | _ => false))))
noncomputable def am_lnk (y x z b c d : Nat) : Bool := (bif Nat.beq d 0 then am_has c (.methodLink (am_nm y).cls x (am_nm z)) else decide (Cond.methodLinkNest (am_nm y).cls x (am_nm z) "DoorCalls" ∈ lw_tbl)) && (decide ((parseMethodDescriptor (am_nm z).desc).map (fun d => d.parameters.length) = some b) && (Nat.ble ((am_rm z).frames + 1) (am_rm y).frames && Nat.ble (8 + (am_ml z + 11) + (am_rm z).locals) (am_rm y).locals))
noncomputable def am_ckc (y : Nat) (e : am_en) : Bool := match e with
  | (i, _, _, z, b, c, d, _, _) => match i with
    | .invokevirtual x => am_lnk y x z b c d && Nat.beq (am_fl z) 0
    | .invokestatic x => bif Nat.beq z 1001 then am_has c (.methodLink (am_nm y).cls x arraycopyName) && (Nat.ble 1 (am_rm y).frames && Nat.ble 26 (am_rm y).locals) else am_lnk y x z b c d && Nat.beq (am_fl z) 1
    | .invokespecial x => bif Nat.beq z 1000 then am_has c (.methodLink (am_nm y).cls x objectInit) && (Nat.ble 1 (am_rm y).frames && Nat.ble 20 (am_rm y).locals) else am_lnk y x z b c d && Nat.beq (am_fl z) 2
    | _ => true
noncomputable def am_allc (y n : Nat) (t : Nat → Option am_en) : Bool := (List.range n).all (fun pc => match t pc with | some e => am_ckc y e | none => true)
theorem am_cof {y n : Nat} {t : Nat → Option am_en} (hc : am_allc y n t = true) {pc : Nat} {e : am_en} (h : am_gu n t pc = some e) : am_ckc y e = true := by
  unfold am_gu at h
  cases hb : Nat.blt pc n with
  | false => rw [hb] at h; cases h
  | true =>
    rw [hb] at h
    have h1 : t pc = some e := h
    have hlt : pc < n := Nat.le_of_ble_eq_true hb
    have h2 := List.all_eq_true.mp hc pc (List.mem_range.mpr hlt)
    rw [h1] at h2
    exact h2
