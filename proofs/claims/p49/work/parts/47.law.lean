/-! THE LAW: its world, the script's loads, its calls -/
section LGA
variable {p : Program} {l : Launch} {e : Env} {s : State} {m : MethodId} {below : List Frame} {meth : Method} {c : Code} {D : va_G} {ca : Nat → ClassId} {b L : Nat} {xs : Nat → Int32} {u w pc : Nat} {ls : am_ls} {st : List am_V} {σ : tI} {τ : tL} {ρ : tR} {cn : tN} {ln : tM}
def lg_A (s : State) : Nat → Prop := fun q => s.heap.size ≤ q
def lg_X (p : Program) (s : State) (m : MethodId) (meth : Method) (c : Code) (D : va_G) (ca : Nat → ClassId) (b L : Nat) (xs : Nat → Int32) : Prop := lw_At p s m meth c b L xs ∧ va_K D vwCl (am_ty ca) s ∧ am_Xt s ∧ L < 2 ^ 31
/-- the machine at a place of the law -/
def lg_J (l : Launch) (p : Program) (e : Env) (s : State) (m : MethodId) (below : List Frame) (meth : Method) (c : Code) (D : va_G) (ca : Nat → ClassId) (b : Nat) (u w pc : Nat) (ls : am_ls) (st : List am_V) (σ : tI) (τ : tL) (ρ : tR) (cn : tN) (ln : tM) : Prop :=
  ∀ (ad : tM) (Lw : List (Nat × Nat)) (H : Heap) (locs : List Loc) (lsA : Array Slot), am_Y D ca (lg_A s) ad Lw H σ τ ρ cn ln → va_S (lg_A s) s.heap H locs → lv_has lsA 4 ((0, .ref b) :: am_lc ad ls) → am_Vl cn ls → am_Vs cn st → W p l e room_1 s m #[.ref b] below meth c H locs u w (lw_Z below #[.ref b] s) (F0 m pc lsA (st.map (am_cv ad)))
set_option maxHeartbeats 4000000 in
theorem lg_after {ad : tM} {Lw : List (Nat × Nat)} {H : Heap} {locs : List Loc} {lsA : Array Slot} {rest : List am_V} {stv : List Value} {Q2 : tQ} {a : Array Value} {mc ms : Nat}
    (hr : va_Run p l e room_1 s m #[.ref b] below meth c H locs u w mc ms (F0 m pc lsA stv) (rest.map (am_cv ad)) (am_Q D ca ad Lw (va_A (am_wl ca ad σ τ ρ ln Lw) H.size) Q2 a) (va_A (am_wl ca ad σ τ ρ ln Lw) H.size))
    (hY : am_Y D ca (lg_A s) ad Lw H σ τ ρ cn ln) (hS : va_S (lg_A s) s.heap H locs) (hl : lv_has lsA 4 ((0, .ref b) :: am_lc ad ls)) (hVl : am_Vl cn ls) (hV : am_Vs cn rest)
    (K : ∀ v σ2 τ2 ρ2 cn2 ln2, Q2 v σ2 τ2 ρ2 cn2 ln2 → (∀ k, cn k ≤ cn2 k) → lg_J l p e s m below meth c D ca b (u + mc) (w + ms) (pc + 3) ls (am_push v rest) σ2 τ2 ρ2 cn2 ln2) :
    W p l e room_1 s m #[.ref b] below meth c H locs u w (lw_Z below #[.ref b] s) (F0 m pc lsA stv) := by
  intro T hT X
  obtain ⟨v, st₀, t, T', Lc, h0, X', hLc, e1, e2, ⟨⟨v2, ad2, L2, σ2, τ2, ρ2, cn2, ln2, hv, hq, hL2, hY2, hVv⟩, hz, hk⟩, stp⟩ := hr T hT X
  have hv : v = v2.map (am_cv ad2) := by injection hv
  have hfree : ∀ q, va_A (am_wl ca ad σ τ ρ ln Lw) H.size q → lg_A s q := by
    intro q hq
    rcases hq with ⟨k, ec, h⟩ | h
    · exact hY.2.2.2.2 k (q, ec) h
    · exact Nat.le_trans hS.1 h
  rw [h0] at hz hk
  have same : ∀ k i, i < cn k → ad2 k i = ad k i := fun k i hi => (hL2 (k, i) ((hY.1 (k, i)).mpr hi)).1
  have mono : ∀ k, cn k ≤ cn2 k := by
    intro k
    refine Nat.le_of_not_lt fun hlt => ?_
    have h1 := (hL2 (k, cn2 k) ((hY.1 (k, cn2 k)).mpr hlt)).2
    exact Nat.lt_irrefl _ ((hY2.1 (k, cn2 k)).mp h1)
  have hS2 : va_S (lg_A s) s.heap T'.heap (locs ++ Lc) := ⟨Nat.le_trans hS.1 (by rw [e1]; exact hz), fun q h1 h2 => by
      rw [e1, hk q (Nat.lt_of_lt_of_le h1 hS.1) (fun z => h2 (hfree q z))]; exact hS.2.1 q h1 h2, fun q hq => by
      rcases List.mem_append.mp hq with h | h
      · exact hS.2.2 q h
      · exact hfree _ (hLc q h)⟩
  have hY3 : am_Y D ca (lg_A s) ad2 L2 T'.heap σ2 τ2 ρ2 cn2 ln2 := ⟨hY2.1, hY2.2.1, by rw [e1]; exact hY2.2.2.1, hY2.2.2.2.weaken (fun k q _ h => hfree q.1 h)⟩
  have hVp : am_Vs cn2 (am_push v2 rest) := by
    cases v2 with
    | none => exact am_Vs_mono mono hV
    | some x => exact ⟨hVv x rfl, am_Vs_mono mono hV⟩
  obtain ⟨t2, a1, b1⟩ := K v2 σ2 τ2 ρ2 cn2 ln2 hq mono ad2 L2 T'.heap (locs ++ Lc) lsA hY3 hS2 (by rw [am_lc_same same hVl]; exact hl) (am_Vl_mono mono hVl) hVp T' rfl X'
  refine ⟨t2, stp t2 ?_, b1⟩
  have e3 : (am_push v2 rest).map (am_cv ad2) = v.toList ++ rest.map (am_cv ad) := by
    rw [hv, ← am_map_same same hV]
    cases v2 <;> rfl
  rw [e3] at a1
  exact a1
theorem lg_good {z : Nat} (hz : Cond.code (am_nm z) (am_cb z) (am_ml z) (am_rt z) ∈ am_gd) : GoodIn lw_tbl (am_ws z) := by
  intro w hw
  rcases List.mem_cons.mp hw with rfl | hw
  · exact ⟨(List.mem_filter.mp hz).1, good_of_word (List.mem_filter.mp hz).2⟩
  · exact ⟨(List.mem_filter.mp hw).1, good_of_word (List.mem_filter.mp hw).2⟩
/-- what a call of the law must have: its link, its parameters, room -/
noncomputable def lg_lnk (x z n cI f : Nat) : Bool := am_eqw cI 2 380 x (am_m z).1.1 (am_m z).1.2.1 (am_m z).1.2.2 && (Nat.beq (am_np (am_m z).1.2.2) (n + 1) && (Nat.beq (am_fl z) f && (Nat.ble ((am_rm z).frames + 1) 10 && Nat.ble (8 + (am_ml z + 11) + (am_rm z).locals) 388)))
theorem lg_lnk_inv {x z n cI f : Nat} (h : lg_lnk x z n cI f = true) : am_in (.methodLink R_law x (am_nm z)) = true ∧ (parseMethodDescriptor (am_nm z).desc).map (fun d => d.parameters.length) = some n ∧ Nat.beq (am_fl z) f = true ∧ Nat.ble ((am_rm z).frames + 1) 10 = true ∧ Nat.ble (8 + (am_ml z + 11) + (am_rm z).locals) 388 = true := by
  unfold lg_lnk at h
  rw [Bool.and_eq_true, Bool.and_eq_true, Bool.and_eq_true, Bool.and_eq_true] at h
  obtain ⟨h1, h2, h3, h4, h5⟩ := h
  exact ⟨am_eqw_in h1 rfl rfl, am_np_ok h2, h3, h4, h5⟩
set_option maxHeartbeats 8000000 in
theorem lg_callV {x z n cI k o : Nat} {vs rest : List am_V} {Q2 : tQ} (C : lg_X p s m meth c D ca b L xs) (hd : decode code pc = .ok (.invokevirtual x, 3)) (hz : am_okm z = true) (hlk : lg_lnk x z n cI 0 = true) (hs : am_spl (n + 1) st [] = some (aR k o :: vs, rest)) (hW : am_cats rest ≤ 8) (hr : Nat.beq k (am_cx z) = true) (hE : am_E l z (aR k o :: vs) σ τ ρ cn ln Q2) (hu : u ≤ 600000 ∧ w ≤ 7302250)
    (K : ∀ v σ2 τ2 ρ2 cn2 ln2, Q2 v σ2 τ2 ρ2 cn2 ln2 → (∀ k, cn k ≤ cn2 k) → lg_J l p e s m below meth c D ca b u w (pc + 3) ls (am_push v rest) σ2 τ2 ρ2 cn2 ln2) : lg_J l p e s m below meth c D ca b u w pc ls st σ τ ρ cn ln := by
  obtain ⟨⟨hx, hb, hrt, hml, hown, hts, hX, hbl, hlocks, hgv⟩, hK, hXt, hL31⟩ := C
  obtain ⟨k1, k2, kf, k3, k4⟩ := lg_lnk_inv hlk
  have hfl := am_beq kf
  have h0 := am_rm0 hz (by rw [hfl]; decide)
  obtain ⟨o1, o2, o3, o4, o5, o6, o7, -⟩ := am_okm_inv hz
  obtain ⟨as, a1, a2, a3⟩ := am_spl_ok _ _ _ _ _ hs
  subst a2
  rw [List.append_nil] at a3
  intro ad Lw H locs lsA hY hS hl hVl hV
  obtain ⟨hVa, hVr⟩ := am_Vs_app hV
  have hVvs : am_Vs cn (aR k o :: vs) := by rw [a3]; exact am_Vs_rev hVa
  have hst : (as ++ rest).map (am_cv ad) = ((aR k o :: vs).map (am_cv ad)).reverse ++ rest.map (am_cv ad) := by rw [a3, List.map_append, List.map_reverse, List.reverse_reverse]
  have hWr : 2 * (F0 m pc lsA ((as ++ rest).map (am_cv ad))).monitorRoom + ((rest.map (am_cv ad)).map fun v => v.category).sum ≤ 8 := by
    show 2 * 0 + _ ≤ 8
    rw [am_cats_sum]
    omega
  have hfix : CallFix p m c code 4 s #[.ref b] lw_tbl R_law := ⟨hx, hb, hml, hown, hts⟩
  have hst2 : (as ++ rest).map (am_cv ad) = (vs.map (am_cv ad)).reverse ++ .ref (ad k o) :: rest.map (am_cv ad) := by
    rw [hst, List.map_cons, List.reverse_cons, List.append_assoc]
    rfl
  have hlen : (vs.map (am_cv ad)).length = n := by
    have h1 := congrArg List.length a3
    simp only [List.length_cons, List.length_reverse, a1] at h1
    simp only [List.length_map]
    omega
  obtain ⟨g1, g2, g3⟩ := o5 hfl
  obtain rfl := am_beq hr
  have hin : ∀ {q : Cond}, q ∈ am_gd → q.before #[.ref b] s = true := fun h => hts _ (List.mem_filter.mp h).1
  cases hvw : vwCl[am_cx z]? with
  | none => rw [hvw] at g3; cases g3
  | some r =>
    rw [hvw] at g3
    have g3 : r.1 = (am_nm z).cls := Option.some.inj g3
    obtain ⟨rC, rT, rN⟩ := r
    obtain ⟨q0, hq1, hq2⟩ := hY.at (k := am_cx z) (i := o) hVvs.1
    rw [am_ce_obj (am_cl hvw).1] at hq2
    have hrecv := va_recv hK hY.2.2.1 hvw hq2
    rw [g3] at hrecv
    have hp : PreV s H (am_nm z).cls (ad (am_cx z) o) (am_P D ca ad Lw σ τ ρ cn ln (aR (am_cx z) o :: vs) H.size) (vs.map (am_cv ad)) := ⟨am_P_blind, hrecv, fun U hU hWU => am_P_pre hY hK hXt hU hWU hVvs⟩
    refine lg_after (mc := 0) (ms := 0) (by
      have hrun := va_runV (Ts := lw_tbl) (own := R_law) (R := room_1) (cells := u) (slots := w) (locs := locs) (e := e) (below := below) (meth := meth) hfix (hE D ca ad Lw H.size) ⟨callB_of n hts (lg_good o1) rfl rfl rfl (hin o2) (hin (am_in_in k1)) ⟨o3.1, o3.2, k2⟩ ⟨Nat.le_of_ble_eq_true k3, Nat.le_of_ble_eq_true k4⟩, hin g1, hin g2⟩ hp (g := F0 m pc lsA ((as ++ rest).map (am_cv ad))) rfl hlen hl.1 hst2 hWr hd (by rw [h0.1, h0.2]; exact hu)
      rw [h0.1, h0.2] at hrun
      exact hrun) hY hS hl hVl hVr K
-- the script's loads
noncomputable def lg_at (pc k : Nat) : Nat := bif Nat.beq k 6 then pc + 4 else pc + 3
noncomputable def lg_ca (pc k : Nat) : Bool := lg_d pc (.aload_n 0) 1 && (lg_d (pc + 1) (.iload_n 3) 1 && ((bif Nat.beq k 6 then lg_d (pc + 2) (.bipush 6) 2 else lg_d (pc + 2) (.iconst k) 1) && (lg_d (lg_at pc k) (.iadd) 1 && lg_d (lg_at pc k + 1) (.iaload) 1)))
abbrev lg_ls (i : Int32) : am_ls := [(1, aR 11 0), (2, aR 12 0), (3, aI i)]
theorem lg_ld {k i0 : Nat} (C : lg_X p s m meth c D ca b L xs) (hck : lg_ca pc k = true) (hk : k < 7) (hi : i0 + 7 ≤ L) (K : lg_J l p e s m below meth c D ca b u w (lg_at pc k + 2) (lg_ls (nI i0)) (aI (xs (i0 + k)) :: st) σ τ ρ cn ln) : lg_J l p e s m below meth c D ca b u w pc (lg_ls (nI i0)) st σ τ ρ cn ln := by
  obtain ⟨⟨hx, hb, hrt, hml, hown, hts, hX, hbl, hlocks, hgv⟩, hK, hXt, hL31⟩ := C
  unfold lg_ca at hck
  rw [Bool.and_eq_true, Bool.and_eq_true, Bool.and_eq_true, Bool.and_eq_true] at hck
  obtain ⟨d0, d1, d2, d3, d4⟩ := hck
  have d0 := lg_dq d0
  have d1 := lg_dq d1
  have d3 := lg_dq d3
  have d4 := lg_dq d4
  intro ad Lw H locs lsA hY hS hl hVl hV
  have K1 := K ad Lw H locs lsA hY hS hl hVl ⟨trivial, hV⟩
  have hbA : ¬ lg_A s b := Nat.not_le.mpr hbl
  have K2 : W p l e room_1 s m #[.ref b] below meth c H locs u w (lw_Z below #[.ref b] s) (F0 m (lg_at pc k) lsA (.int (nI k) :: .int (nI i0) :: .ref b :: st.map (am_cv ad))) := by
    refine lv_iadd hx hb d3 ?_
    rw [nI_add]
    refine va_sld hx hb hX hbl hbA hS (vp_in_nI (n := i0 + k) (N := L) (by omega) hL31) d4 ?_
    rw [nI_clamp (by omega)]
    exact K1
  refine lv_aload_n hx hb d0 rfl (lv_at hl 0 rfl) ?_
  refine lv_iload_n hx hb d1 rfl (lv_at hl 3 rfl) ?_
  cases h6 : Nat.beq k 6 with
  | true =>
    rw [h6, cond_true] at d2
    obtain rfl := am_beq h6
    exact lv_bipush hx hb (lg_dq d2) rfl K2
  | false =>
    rw [h6, cond_false] at d2
    have e1 : lg_at pc k = pc + 3 := by unfold lg_at; rw [h6]; rfl
    rw [e1] at K2
    exact lv_iconst hx hb (lg_dq d2) rfl K2
noncomputable def lg_cl : Nat → Nat → Nat → Bool
  | 0, _, _ => true
  | d + 1, pc, k => lg_ca pc k && lg_cl d (lg_at pc k + 2) (k + 1)
noncomputable def lg_pl : Nat → Nat → Nat → Nat
  | 0, pc, _ => pc
  | d + 1, pc, k => lg_pl d (lg_at pc k + 2) (k + 1)
def lg_sk (a : Nat → Int32) : Nat → Nat → List am_V → List am_V
  | 0, _, st => st
  | d + 1, k, st => lg_sk a d (k + 1) (aI (a k) :: st)
theorem lg_lds {i0 : Nat} (C : lg_X p s m meth c D ca b L xs) (hi : i0 + 7 ≤ L) : ∀ (d : Nat) {pc k : Nat} {st : List am_V}, lg_cl d pc k = true → k + d ≤ 7 → lg_J l p e s m below meth c D ca b u w (lg_pl d pc k) (lg_ls (nI i0)) (lg_sk (fun k => xs (i0 + k)) d k st) σ τ ρ cn ln → lg_J l p e s m below meth c D ca b u w pc (lg_ls (nI i0)) st σ τ ρ cn ln := by
  intro d
  induction d with
  | zero =>
    intro pc k st _ _ K
    rw [lg_pl, lg_sk] at K
    exact K
  | succ d ih =>
    intro pc k st hc hk K
    rw [lg_cl, Bool.and_eq_true] at hc
    rw [lg_pl, lg_sk] at K
    exact lg_ld C hc.1 (by omega) hi (ih hc.2 (by omega) K)
theorem lg_ax {i : Int32} (C : lg_X p s m meth c D ca b L xs) (hd : decode code pc = .ok (.aload_n 1, 1)) (h11 : 0 < cn 11) (K : lg_J l p e s m below meth c D ca b u w (pc + 1) (lg_ls i) (aR 11 0 :: st) σ τ ρ cn ln) : lg_J l p e s m below meth c D ca b u w pc (lg_ls i) st σ τ ρ cn ln := by
  intro ad Lw H locs lsA hY hS hl hVl hV
  exact lv_aload_n C.1.1 C.1.2.1 hd rfl (lv_at hl 1 rfl) (K ad Lw H locs lsA hY hS hl hVl ⟨h11, hV⟩)
theorem lg_am {i : Int32} (C : lg_X p s m meth c D ca b L xs) (hd : decode code pc = .ok (.aload_n 2, 1)) (h12 : 0 < cn 12) (K : lg_J l p e s m below meth c D ca b u w (pc + 1) (lg_ls i) (aR 12 0 :: st) σ τ ρ cn ln) : lg_J l p e s m below meth c D ca b u w pc (lg_ls i) st σ τ ρ cn ln := by
  intro ad Lw H locs lsA hY hS hl hVl hV
  exact lv_aload_n C.1.1 C.1.2.1 hd rfl (lv_at hl 2 rfl) (K ad Lw H locs lsA hY hS hl hVl ⟨h12, hV⟩)
/-- the bytes of a case: x.m(..) compared with m.m(..) -/
noncomputable def lg_ck (pc zx zm n ix im cx cm : Nat) : Bool :=
  lg_d pc (.aload_n 1) 1 && (lg_cl n (pc + 1) 1 && (lg_d (lg_pl n (pc + 1) 1) (.invokevirtual ix) 3 && (lg_lnk ix zx n cx 0 && (Nat.beq 11 (am_cx zx) && (lg_d (lg_pl n (pc + 1) 1 + 3) (.aload_n 2) 1 && (lg_cl n (lg_pl n (pc + 1) 1 + 4) 1 && (lg_d (lg_pl n (lg_pl n (pc + 1) 1 + 4) 1) (.invokevirtual im) 3 && (lg_lnk im zm n cm 0 && (Nat.beq 12 (am_cx zm) && (bif (Nat.beq zx 135 || Nat.beq zx 136 || Nat.beq zx 140) then (lg_d (lg_pl n (lg_pl n (pc + 1) 1 + 4) 1 + 3) (.lcmp) 1 && lg_d (lg_pl n (lg_pl n (pc + 1) 1 + 4) 1 + 4) (.ifCond .eq (1727 - ((lg_pl n (lg_pl n (pc + 1) 1 + 4) 1 + 4 : Nat) : Int))) 3) else lg_d (lg_pl n (lg_pl n (pc + 1) 1 + 4) 1 + 3) (.if_icmp .eq (1727 - ((lg_pl n (lg_pl n (pc + 1) 1 + 4) 1 + 3 : Nat) : Int))) 3))))))))))
set_option maxHeartbeats 4000000 in
theorem lg_case {zx zm n ix im cx cm i0 : Nat} {as : List am_V} {R : tI → tL → tR → tN → tM → Prop} (C : lg_X p s m meth c D ca b L xs) (hi : i0 + 7 ≤ L) (hck : lg_ck pc zx zm n ix im cx cm = true) (hn : n ≤ 6) (hs : ∀ q rest, am_spl (n + 1) (lg_sk (fun k => xs (i0 + k)) n 1 (q :: rest)) [] = some (q :: as, rest)) (hG : LG l zx zm as σ τ ρ cn ln R) (h11 : 0 < cn 11) (h12 : 0 < cn 12) (hu : u ≤ 600000 ∧ w ≤ 7302250)
    (K : ∀ σ2 τ2 ρ2 cn2 ln2, R σ2 τ2 ρ2 cn2 ln2 → 0 < cn2 11 → 0 < cn2 12 → lg_J l p e s m below meth c D ca b u w 1727 (lg_ls (nI i0)) [] σ2 τ2 ρ2 cn2 ln2) : lg_J l p e s m below meth c D ca b u w pc (lg_ls (nI i0)) [] σ τ ρ cn ln := by
  unfold lg_ck at hck
  simp only [Bool.and_eq_true] at hck
  obtain ⟨d0, c1, d1, k1, r1, d2, c2, d3, k2, r2, dd⟩ := hck
  refine lg_ax C (lg_dq d0) h11 ?_
  refine lg_lds C hi n c1 (by omega) ?_
  refine lg_callV C (lg_dq d1) hG.1 k1 (hs _ _) (by decide) r1 hG.2 hu ?_
  rintro v σ1 τ1 ρ1 cn1 ln1 ⟨hv, hz, hE⟩ mono
  cases v with
  | none => cases hv
  | some v =>
    refine lg_am C (lg_dq d2) (Nat.lt_of_lt_of_le h12 (mono 12)) ?_
    refine lg_lds C hi n c2 (by omega) ?_
    refine lg_callV C (lg_dq d3) hz k2 (hs _ _) (by rcases am_cat12 v with q | q <;> simp [am_push, am_cats, q]) r2 hE hu ?_
    rintro v2 σ2 τ2 ρ2 cn2 ln2 ⟨rfl, hR⟩ mono2
    have K1 := K σ2 τ2 ρ2 cn2 ln2 hR (Nat.lt_of_lt_of_le h11 (Nat.le_trans (mono 11) (mono2 11))) (Nat.lt_of_lt_of_le h12 (Nat.le_trans (mono 12) (mono2 12)))
    intro ad Lw H locs lsA hY hS hl hVl hV
    have K2 := K1 ad Lw H locs lsA hY hS hl hVl trivial
    show W p l e room_1 s m #[.ref b] below meth c H locs u w (lw_Z below #[.ref b] s) (F0 m (lg_pl n (lg_pl n (pc + 1) 1 + 4) 1 + 3) lsA _)
    generalize lg_pl n (lg_pl n (pc + 1) 1 + 4) 1 = P at dd ⊢
    obtain ⟨⟨hx, hb, hrt, hml, hown, hts, hX, hbl, hlocks, hgv⟩, hK, hXt, hL31⟩ := C
    unfold am_num at hv
    rcases v with g | g | g
    · cases hb3 : (Nat.beq zx 135 || Nat.beq zx 136 || Nat.beq zx 140) with
      | true => simp only [hb3] at hv; cases hv
      | false =>
        rw [hb3, cond_false] at dd
        exact lv_icmp_eq hx hb (lg_dq dd) (tgt := 1727) (by omega) (fun _ => K2) (fun h => absurd rfl h)
    · cases hb3 : (Nat.beq zx 135 || Nat.beq zx 136 || Nat.beq zx 140) with
      | false => simp only [hb3] at hv; cases hv
      | true =>
        rw [hb3, cond_true, Bool.and_eq_true] at dd
        refine W.lcmp hx hb (lg_dq dd.1) ?_
        exact lv_if_eq hx hb (lg_dq dd.2) (tgt := 1727) (by omega) (fun _ => K2) (fun h => absurd ((lg_cmp_eq g g).mpr rfl) h)
    · cases hv
noncomputable def lg_lx (zx : Nat) : Bool := Nat.beq zx 135 || Nat.beq zx 136 || Nat.beq zx 140
noncomputable def lg_lm (zm : Nat) : Bool := Nat.beq zm 248 || Nat.beq zm 249 || Nat.beq zm 258
noncomputable def lg_pp (q : Bool) (pc : Nat) : Bool := bif q then lg_d pc (.pop2) 1 else lg_d pc (.pop) 1
theorem lg_pop {q : Bool} {v : am_V} (C : lg_X p s m meth c D ca b L xs) (hd : lg_pp q pc = true) (hv : (match v with | .inl _ => !q | .inr (.inl _) => q | _ => false) = true) (K : lg_J l p e s m below meth c D ca b u w (pc + 1) ls st σ τ ρ cn ln) : lg_J l p e s m below meth c D ca b u w pc ls (v :: st) σ τ ρ cn ln := by
  intro ad Lw H locs lsA hY hS hl hVl hV
  have K2 := K ad Lw H locs lsA hY hS hl hVl hV.2
  unfold lg_pp at hd
  rcases v with g | g | g
  · cases q with
    | true => cases hv
    | false =>
      rw [cond_false] at hd
      exact lv_pop C.1.1 C.1.2.1 (lg_dq hd) rfl K2
  · cases q with
    | false => cases hv
    | true =>
      rw [cond_true] at hd
      exact lv_pop2_2 C.1.1 C.1.2.1 (lg_dq hd) rfl K2
  · cases hv
/-- a case that is not compared, over any world -/
noncomputable def LGn (l : Launch) (zx zm : Nat) (as : List am_V) (σ : tI) (τ : tL) (ρ : tR) (cn : tN) (ln : tM) (R : tI → tL → tR → tN → tM → Prop) : Prop :=
  am_okm zx = true ∧ am_E l zx (aR 11 0 :: as) σ τ ρ cn ln (fun v σ1 τ1 ρ1 cn1 ln1 => am_num zx v = true ∧ am_okm zm = true ∧ am_E l zm (aR 12 0 :: as) σ1 τ1 ρ1 cn1 ln1 (fun v2 σ2 τ2 ρ2 cn2 ln2 => am_numM zm v2 = true ∧ R σ2 τ2 ρ2 cn2 ln2))
theorem LGn.of_LCn {t : Option (Nat × Nat)} {zx zm : Nat} {as : List am_V} {R : tI → tL → tR → tN → tM → Prop} (h : LCn l zx zm as σ τ t) (hR : ∀ σ2 τ2 t2, Rall σ2 τ2 → R σ2 τ2 (rX t2) cX lX) : LGn l zx zm as σ τ (rX t) cX lX R := by
  refine ⟨h.1, am_E.mono h.2 ?_⟩
  rintro v σ1 τ1 ρ1 cn1 ln1 ⟨t1, rfl, rfl, rfl, h1, h2⟩
  refine ⟨h1, h2.1, am_E.mono h2.2 ?_⟩
  rintro v2 σ2 τ2 ρ2 cn2 ln2 ⟨t2, rfl, rfl, rfl, h3, h4⟩
  exact ⟨h3, hR _ _ _ h4⟩
noncomputable def lg_ckn (pc zx zm n ix im cx cm : Nat) : Bool :=
  lg_d pc (.aload_n 1) 1 && (lg_cl n (pc + 1) 1 && (lg_d (lg_pl n (pc + 1) 1) (.invokevirtual ix) 3 && (lg_lnk ix zx n cx 0 && (Nat.beq 11 (am_cx zx) && (lg_pp (lg_lx zx) (lg_pl n (pc + 1) 1 + 3) && (lg_d (lg_pl n (pc + 1) 1 + 4) (.aload_n 2) 1 && (lg_cl n (lg_pl n (pc + 1) 1 + 5) 1 && (lg_d (lg_pl n (lg_pl n (pc + 1) 1 + 5) 1) (.invokevirtual im) 3 && (lg_lnk im zm n cm 0 && (Nat.beq 12 (am_cx zm) && (lg_pp (lg_lm zm) (lg_pl n (lg_pl n (pc + 1) 1 + 5) 1 + 3) && lg_d (lg_pl n (lg_pl n (pc + 1) 1 + 5) 1 + 4) (.goto (1727 - ((lg_pl n (lg_pl n (pc + 1) 1 + 5) 1 + 4 : Nat) : Int))) 3)))))))))))
set_option maxHeartbeats 4000000 in
theorem lg_casen {zx zm n ix im cx cm i0 : Nat} {as : List am_V} {R : tI → tL → tR → tN → tM → Prop} (C : lg_X p s m meth c D ca b L xs) (hi : i0 + 7 ≤ L) (hck : lg_ckn pc zx zm n ix im cx cm = true) (hn : n ≤ 6) (hs : ∀ q rest, am_spl (n + 1) (lg_sk (fun k => xs (i0 + k)) n 1 (q :: rest)) [] = some (q :: as, rest)) (hG : LGn l zx zm as σ τ ρ cn ln R) (h11 : 0 < cn 11) (h12 : 0 < cn 12) (hu : u ≤ 600000 ∧ w ≤ 7302250)
    (K : ∀ σ2 τ2 ρ2 cn2 ln2, R σ2 τ2 ρ2 cn2 ln2 → 0 < cn2 11 → 0 < cn2 12 → lg_J l p e s m below meth c D ca b u w 1727 (lg_ls (nI i0)) [] σ2 τ2 ρ2 cn2 ln2) : lg_J l p e s m below meth c D ca b u w pc (lg_ls (nI i0)) [] σ τ ρ cn ln := by
  unfold lg_ckn at hck
  simp only [Bool.and_eq_true] at hck
  obtain ⟨d0, c1, d1, k1, r1, p1, d2, c2, d3, k2, r2, p2, dd⟩ := hck
  refine lg_ax C (lg_dq d0) h11 ?_
  refine lg_lds C hi n c1 (by omega) ?_
  refine lg_callV C (lg_dq d1) hG.1 k1 (hs _ _) (by decide) r1 hG.2 hu ?_
  rintro v σ1 τ1 ρ1 cn1 ln1 ⟨hv, hz, hE⟩ mono
  cases v with
  | none => cases hv
  | some v =>
    refine lg_pop C p1 (by unfold am_num at hv; unfold lg_lx; rcases v with g | g | g <;> exact hv) ?_
    refine lg_am C (lg_dq d2) (Nat.lt_of_lt_of_le h12 (mono 12)) ?_
    refine lg_lds C hi n c2 (by omega) ?_
    refine lg_callV C (lg_dq d3) hz k2 (hs _ _) (by decide) r2 hE hu ?_
    rintro v2 σ2 τ2 ρ2 cn2 ln2 ⟨hv2, hR⟩ mono2
    cases v2 with
    | none => cases hv2
    | some v2 =>
      refine lg_pop C p2 (by unfold am_numM at hv2; unfold lg_lm; rcases v2 with g | g | g <;> exact hv2) ?_
      have K1 := K σ2 τ2 ρ2 cn2 ln2 hR (Nat.lt_of_lt_of_le h11 (Nat.le_trans (mono 11) (mono2 11))) (Nat.lt_of_lt_of_le h12 (Nat.le_trans (mono 12) (mono2 12)))
      intro ad Lw H locs lsA hY hS hl hVl hV
      have K2 := K1 ad Lw H locs lsA hY hS hl hVl trivial
      have hgo : ∀ P : Nat, lg_d (P + 4) (.goto (1727 - ((P + 4 : Nat) : Int))) 3 = true → W p l e room_1 s m #[.ref b] below meth c H locs u w (lw_Z below #[.ref b] s) (F0 m (P + 4) lsA []) := fun P hP => lv_goto C.1.1 C.1.2.1 (lg_dq hP) (tgt := 1727) (by omega) K2
      exact hgo _ dd
end LGA
