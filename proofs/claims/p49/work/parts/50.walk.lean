/-! THE LAW: its news, its loop's head and end, its exit; what holds at its entry -/
theorem dl_0 : decode code 0 = .ok (.new 7, 3) := by decide +kernel
theorem dl_3 : decode code 3 = .ok (.dup, 1) := by decide +kernel
theorem dl_4 : decode code 4 = .ok (.invokespecial 9, 3) := by decide +kernel
theorem dl_7 : decode code 7 = .ok (.astore_n 1, 1) := by decide +kernel
theorem dl_8 : decode code 8 = .ok (.new 10, 3) := by decide +kernel
theorem dl_11 : decode code 11 = .ok (.dup, 1) := by decide +kernel
theorem dl_12 : decode code 12 = .ok (.invokespecial 12, 3) := by decide +kernel
theorem dl_15 : decode code 15 = .ok (.astore_n 2, 1) := by decide +kernel
theorem dl_16 : decode code 16 = .ok (.iconst 0, 1) := by decide +kernel
theorem dl_17 : decode code 17 = .ok (.istore_n 3, 1) := by decide +kernel
theorem dl_18 : decode code 18 = .ok (.iload_n 3, 1) := by decide +kernel
theorem dl_19 : decode code 19 = .ok (.aload_n 0, 1) := by decide +kernel
theorem dl_20 : decode code 20 = .ok (.arraylength, 1) := by decide +kernel
theorem dl_21 : decode code 21 = .ok (.bipush 7, 2) := by decide +kernel
theorem dl_23 : decode code 23 = .ok (.isub, 1) := by decide +kernel
theorem dl_24 : decode code 24 = .ok (.if_icmp .gt 1709, 3) := by decide +kernel
theorem dl_27 : decode code 27 = .ok (.aload_n 0, 1) := by decide +kernel
theorem dl_28 : decode code 28 = .ok (.iload_n 3, 1) := by decide +kernel
theorem dl_29 : decode code 29 = .ok (.iaload, 1) := by decide +kernel
theorem dl_30 : decode code 30 = .ok (.bipush 63, 2) := by decide +kernel
theorem dl_32 : decode code 32 = .ok (.iand, 1) := by decide +kernel
def lg_offs : Array Int := #[207, 240, 283, 316, 339, 402, 435, 478, 501, 524, 557, 600, 633, 686, 739, 762, 785, 828, 871, 914, 957, 970, 983, 1006, 1029, 1082, 1157, 1210, 1243, 1256, 1279, 1302, 1335, 1368, 1391, 1414, 1447, 1480, 1513, 1536, 1569, 1582, 1595, 1608, 1621, 1644, 1657, 1680]
theorem dl_33 : decode code 33 = .ok (.tableswitch 1694 0 47 lg_offs, 207) := by decide +kernel
theorem dl_1727 : decode code 1727 = .ok (.iinc 3 7, 3) := by decide +kernel
theorem dl_1730 : decode code 1730 = .ok (.goto (-1712), 3) := by decide +kernel
theorem dl_1733 : decode code 1733 = .ok (.iconst 1, 1) := by decide +kernel
theorem dl_1734 : decode code 1734 = .ok (.ireturn, 1) := by decide +kernel
section LGB
variable {p : Program} {l : Launch} {e : Env} {s : State} {m : MethodId} {below : List Frame} {meth : Method} {c : Code} {D : va_G} {ca : Nat → ClassId} {b L : Nat} {xs : Nat → Int32} {u w pc : Nat} {ls : am_ls} {st : List am_V} {σ : tI} {τ : tL} {ρ : tR} {cn : tN} {ln : tM}
theorem lg_in (C : lg_X p s m meth c D ca b L xs) {q : Cond} (h : q ∈ am_gd) : q.before #[.ref b] s = true := C.1.2.2.2.2.2.1 _ (List.mem_filter.mp h).1
set_option maxHeartbeats 4000000 in
theorem lg_newo {x a N : Nat} (C : lg_X p s m meth c D ca b L xs) (hd : decode code pc = .ok (.new x, 3)) {Cn : String} {T : u_T} (hc : vwCl[a]? = some (Cn, T, N)) (hcl : Cond.classLink R_law x Cn ∈ lw_tbl) (hu : u + 1 ≤ 600000) (hw : w + N ≤ 7302250)
    (K : lg_J l p e s m below meth c D ca b (u + 1) (w + N) (pc + 3) ls (aR a (cn a) :: st) (z2 σ a (cn a) 0) (z2 τ a (cn a) 0) (z2 ρ a (cn a) none) (u1 cn a (cn a + 1)) ln) : lg_J l p e s m below meth c D ca b u w pc ls st σ τ ρ cn ln := by
  obtain ⟨ha, hok, -, ty0, hty0⟩ := am_cl hc
  have hN := am_cl_N hok
  have hin := fun {q : Cond} (h : q ∈ am_gd) => lg_in C h
  obtain ⟨⟨hx, hb, hrt, hml, hown, hts, hX, hbl, hlocks, hgv⟩, hK, hXt, hL31⟩ := C
  intro ad Lw H locs lsA hY hS hl hVl hV
  refine va_new (D := D) (cl := vwCl) (ws := am_wl ca ad σ τ ρ ln Lw) (tys := am_ty ca) (ci := a) (fs := (List.range N).map (fun j => if am_ft a j = 1 then .long 0 else if am_ft a j = 2 then .null else .int 0)) hx hb (Ts := am_gd) (fun w hw => hin hw) (fun w hw => am_cl_w hok w (List.mem_append_left _ hw)) ty0 hty0 hown (hts _ hcl) (hin (am_cl_w hok _ (List.mem_append_right _ List.mem_cons_self))) (hin (am_cl_w hok _ (List.mem_append_right _ (List.mem_cons_of_mem _ List.mem_cons_self)))) hK hY.2.2.1 hY.2.2.2 hS (fun _ h => h) hc ?_ hu hw hd (fun q H1 hP1 hD1 hS1 => ?_)
  · intro j hj
    have h1 := am_cl_t hok hj
    rw [hty0 j hj] at h1
    rw [am_ty_def h1]
    simp [vp_V, hj]
  · have hY2 := hY.push (a := a) (q := q) (σ2 := z2 σ a (cn a) 0) (τ2 := z2 τ a (cn a) 0) (ρ2 := z2 ρ a (cn a) none) (ln2 := ln) hP1 hD1 (fun r hr => z2_ne σ hr) (fun r hr => z2_ne τ hr) (fun r hr => z2_ne ρ hr) (fun _ _ => rfl) (fun j => by simp [z2]) (by
      rw [am_ce_obj ha, ← hN]
      refine congrArg (fun f => (Sum.inr (a, (List.range N).map f) : va_E)) (funext fun j => ?_)
      simp [am_fv, z2, va_rf])
    have h1 := K (u2 ad a (cn a) q) (Lw ++ [(a, cn a)]) H1 locs lsA hY2 hS1 (by rw [am_lc_same am_u2_same hVl]; exact hl) (am_Vl_mono am_u1_mono hVl) ⟨by simp [am_VO, u1], am_Vs_mono am_u1_mono hV⟩
    rw [List.map_cons, am_map_same am_u2_same hV] at h1
    simpa [am_cv, u2] using h1
theorem lg_dup {a o : Nat} (C : lg_X p s m meth c D ca b L xs) (hd : decode code pc = .ok (.dup, 1)) (K : lg_J l p e s m below meth c D ca b u w (pc + 1) ls (aR a o :: aR a o :: st) σ τ ρ cn ln) : lg_J l p e s m below meth c D ca b u w pc ls (aR a o :: st) σ τ ρ cn ln := by
  intro ad Lw H locs lsA hY hS hl hVl hV
  exact lv_dup C.1.1 C.1.2.1 hd rfl (K ad Lw H locs lsA hY hS hl hVl ⟨hV.1, hV⟩)
set_option maxHeartbeats 8000000 in
theorem lg_callI {x z n cI k o : Nat} {vs rest : List am_V} {Q2 : tQ} (C : lg_X p s m meth c D ca b L xs) (hd : decode code pc = .ok (.invokespecial x, 3)) (hz : am_okm z = true) (hlk : lg_lnk x z n cI 2 = true) (hs : am_spl (n + 1) st [] = some (aR k o :: vs, rest)) (hW : am_cats rest ≤ 8) (hE : am_E l z (aR k o :: vs) σ τ ρ cn ln Q2) (hu : u + (am_rm z).cells ≤ 600000 ∧ w + (am_rm z).slots ≤ 7302250)
    (K : ∀ v σ2 τ2 ρ2 cn2 ln2, Q2 v σ2 τ2 ρ2 cn2 ln2 → (∀ k, cn k ≤ cn2 k) → lg_J l p e s m below meth c D ca b (u + (am_rm z).cells) (w + (am_rm z).slots) (pc + 3) ls (am_push v rest) σ2 τ2 ρ2 cn2 ln2) : lg_J l p e s m below meth c D ca b u w pc ls st σ τ ρ cn ln := by
  have hin := fun {q : Cond} (h : q ∈ am_gd) => lg_in C h
  obtain ⟨⟨hx, hb, hrt, hml, hown, hts, hX, hbl, hlocks, hgv⟩, hK, hXt, hL31⟩ := C
  obtain ⟨k1, k2, kf, k3, k4⟩ := lg_lnk_inv hlk
  have hfl := am_beq kf
  obtain ⟨o1, o2, o3, o4, o5, o6, o7, -⟩ := am_okm_inv hz
  obtain ⟨as, a1, a2, a3⟩ := am_spl_ok _ _ _ _ _ hs
  subst a2
  rw [List.append_nil] at a3
  intro ad Lw H locs lsA hY hS hl hVl hV
  obtain ⟨hVa, hVr⟩ := am_Vs_app hV
  have hVvs : am_Vs cn (aR k o :: vs) := by rw [a3]; exact am_Vs_rev hVa
  have hst : (as ++ rest).map (am_cv ad) = ((aR k o :: vs).map (am_cv ad)).reverse ++ rest.map (am_cv ad) := by rw [a3, List.map_append, List.map_reverse, List.reverse_reverse]
  have hWr : 2 * (F0 m pc lsA ((as ++ rest).map (am_cv ad))).monitorRoom + ((rest.map (am_cv ad)).map fun v => v.category).sum ≤ 8 := by
    show 2 * 0 + _ ≤ 8
    rw [am_cats_sum]
    omega
  have hfix : CallFix p m c code 4 s #[.ref b] lw_tbl R_law := ⟨hx, hb, hml, hown, hts⟩
  have hst2 : (as ++ rest).map (am_cv ad) = (vs.map (am_cv ad)).reverse ++ .ref (ad k o) :: rest.map (am_cv ad) := by
    rw [hst, List.map_cons, List.reverse_cons, List.append_assoc]
    rfl
  have hlen : (vs.map (am_cv ad)).length = n := by
    have h1 := congrArg List.length a3
    simp only [List.length_cons, List.length_reverse, a1] at h1
    simp only [List.length_map]
    omega
  obtain ⟨g1, g2, g3⟩ := o7 hfl
  have hws : am_ws z = Cond.code (am_nm z) (am_cb z) (am_ml z) none :: am_gd := by unfold am_ws; rw [g3]
  have hp : PreS s H (am_P D ca ad Lw σ τ ρ cn ln (aR k o :: vs) H.size) (.ref (ad k o) :: vs.map (am_cv ad)) := ⟨am_P_blind, fun U hU hWU => am_P_pre hY hK hXt hU hWU hVvs⟩
  exact lg_after (va_runI (Ts := lw_tbl) (own := R_law) (R := room_1) hfix (hE D ca ad Lw H.size) (cwI n hts (lg_good o1) hws rfl rfl (hin o2) (hin (am_in_in k1)) (hin g1) g2 ⟨o3.1, o3.2, k2⟩ ⟨Nat.le_of_ble_eq_true k3, Nat.le_of_ble_eq_true k4⟩) hp rfl hlen hl.1 hst2 hWr hd hu) hY hS hl hVl hVr K
theorem lg_exit (C : lg_X p s m meth c D ca b L xs) (hu : u ≤ 600000 ∧ w ≤ 7302250) : lg_J l p e s m below meth c D ca b u w 1733 ls [] σ τ ρ cn ln := by
  obtain ⟨⟨hx, hb, hrt, hml, hown, hts, hX, hbl, hlocks, hgv⟩, hK, hXt, hL31⟩ := C
  intro ad Lw H locs lsA hY hS hl hVl hV
  refine lv_iconst (v := 1) hx hb dl_1733 rfl ?_
  refine va_forget (fun q hq => hS.2.2 q hq) ?_
  exact W.widen hu.1 hu.2 (lw_ret hx hb hrt hlocks dl_1734)
theorem lg_next {i0 : Nat} (C : lg_X p s m meth c D ca b L xs) (K : lg_J l p e s m below meth c D ca b u w 18 (lg_ls (nI (i0 + 7))) [] σ τ ρ cn ln) : lg_J l p e s m below meth c D ca b u w 1727 (lg_ls (nI i0)) [] σ τ ρ cn ln := by
  intro ad Lw H locs lsA hY hS hl hVl hV
  refine lv_iinc (k := 3) (x := nI i0) (v := nI (i0 + 7)) (lv' := [(3, .int (nI (i0 + 7))), (0, .ref b), (1, .ref (ad 11 0)), (2, .ref (ad 12 0))]) C.1.1 C.1.2.1 dl_1727 hl rfl (nI_add i0 7) (by decide) rfl (fun ls2 hl2 => ?_)
  refine lv_goto C.1.1 C.1.2.1 dl_1730 (tgt := 18) (by decide) ?_
  exact K ad Lw H locs ls2 hY hS (lv_sub hl2 [1, 2, 3, 0] rfl) ⟨hVl.1, hVl.2.1, trivial, trivial⟩ trivial
theorem lg_cmp7 {i0 L : Nat} (hi : i0 < 2 ^ 30) (hL : L < 2 ^ 31) : (Int32.ofNat L - 7 < nI i0) ↔ L < i0 + 7 := by
  by_cases h : 7 ≤ L
  · obtain ⟨k, rfl⟩ : ∃ k, L = k + 7 := ⟨L - 7, by omega⟩
    have e : Int32.ofNat (k + 7) - 7 = nI k := by
      show nI (k + 7) - 7 = nI k
      rw [← nI_add k 7]
      show nI k + 7 - 7 = nI k
      exact Int32.add_sub_cancel _ _
    rw [e, i_lt, nI_toInt (by omega), nI_toInt (by omega)]
    omega
  · constructor
    · intro _; omega
    · intro _
      have e : Int32.ofNat L - 7 < 0 := by
        rcases (show L = 0 ∨ L = 1 ∨ L = 2 ∨ L = 3 ∨ L = 4 ∨ L = 5 ∨ L = 6 by omega) with rfl | rfl | rfl | rfl | rfl | rfl | rfl <;> decide
      exact Int32.lt_of_lt_of_le e (nI_pos' (by omega))
theorem lg_head {i0 : Nat} (C : lg_X p s m meth c D ca b L xs) (hi : i0 < 2 ^ 30) (Ke : L < i0 + 7 → lg_J l p e s m below meth c D ca b u w 1733 (lg_ls (nI i0)) [] σ τ ρ cn ln) (Kg : i0 + 7 ≤ L → lg_J l p e s m below meth c D ca b u w 33 (lg_ls (nI i0)) [aI (xs i0 &&& 63)] σ τ ρ cn ln) : lg_J l p e s m below meth c D ca b u w 18 (lg_ls (nI i0)) [] σ τ ρ cn ln := by
  obtain ⟨⟨hx, hb, hrt, hml, hown, hts, hX, hbl, hlocks, hgv⟩, hK, hXt, hL31⟩ := C
  have hbA : ¬ lg_A s b := Nat.not_le.mpr hbl
  intro ad Lw H locs lsA hY hS hl hVl hV
  refine lv_iload_n hx hb dl_18 rfl (lv_at hl 3 rfl) ?_
  refine lv_aload_n hx hb dl_19 rfl (lv_at hl 0 rfl) ?_
  refine va_slen hx hb hX hbl hbA hS dl_20 ?_
  refine lv_bipush (v := 7) hx hb dl_21 rfl ?_
  refine lv_isub hx hb dl_23 ?_
  refine lv_icmp_gt hx hb dl_24 (tgt := 1733) (by decide) (fun h => ?_) (fun h => ?_)
  · exact Ke ((lg_cmp7 hi hL31).mp h) ad Lw H locs lsA hY hS hl hVl trivial
  · have hL : i0 + 7 ≤ L := Nat.le_of_not_lt fun h2 => h ((lg_cmp7 hi hL31).mpr h2)
    refine lv_aload_n hx hb dl_27 rfl (lv_at hl 0 rfl) ?_
    refine lv_iload_n hx hb dl_28 rfl (lv_at hl 3 rfl) ?_
    refine va_sld hx hb hX hbl hbA hS (vp_in_nI (n := i0) (N := L) (by omega) hL31) dl_29 ?_
    rw [nI_clamp (by omega)]
    refine lv_bipush (v := 63) hx hb dl_30 rfl ?_
    refine lv_iand hx hb dl_32 ?_
    exact Kg hL ad Lw H locs lsA hY hS hl hVl ⟨trivial, trivial⟩
theorem lg_tab {j tgt : Nat} {off : Int} (C : lg_X p s m meth c D ca b L xs) (hj : j ≤ 47) (ho : lg_offs[j]? = some off) (ht : (33 : Int) + off = (tgt : Int)) (K : lg_J l p e s m below meth c D ca b u w tgt ls [] σ τ ρ cn ln) : lg_J l p e s m below meth c D ca b u w 33 ls [aI (nI j)] σ τ ρ cn ln := by
  intro ad Lw H locs lsA hY hS hl hVl hV
  have e1 : (nI j).toInt = (j : Int) := nI_toInt (by omega)
  exact lv_tableIn C.1.1 C.1.2.1 dl_33 (by rw [e1]; omega) (by rw [e1]; omega) (by rw [e1]; exact ho) ht (K ad Lw H locs lsA hY hS hl hVl trivial)
theorem lg_out {j : Nat} (C : lg_X p s m meth c D ca b L xs) (hj : 48 ≤ j) (hj2 : j < 64) (K : lg_J l p e s m below meth c D ca b u w 1727 ls [] σ τ ρ cn ln) : lg_J l p e s m below meth c D ca b u w 33 ls [aI (nI j)] σ τ ρ cn ln := by
  intro ad Lw H locs lsA hY hS hl hVl hV
  have e1 : (nI j).toInt = (j : Int) := nI_toInt (by omega)
  exact lv_tableOut C.1.1 C.1.2.1 dl_33 (by rw [e1]; omega) (tgt := 1727) (by decide) (K ad Lw H locs lsA hY hS hl hVl trivial)
/-- the classes and array classes that the tables name -/
theorem lg_known (C0 : lw_At p s m meth c b L xs) : ∃ (D : va_G) (ca : Nat → ClassId), va_K D vwCl (am_ty ca) s ∧ am_Xt s := by
  obtain ⟨hx, hb, hrt, hml, hown, hts, hX, hbl, hlocks, hgv⟩ := C0
  have hin : ∀ {q : Cond}, q ∈ am_gd → q.before #[.ref b] s = true := fun h => hts _ (List.mem_filter.mp h).1
  have hk : ∀ k : Nat, ∃ (d : ClassId) (i : Nat → Nat), ∀ q : vw_C, vwCl[k]? = some q → u_Kn s q.1 q.2.1 q.2.2 d i := by
    intro k
    cases h : vwCl[k]? with
    | none => exact ⟨m.cls, fun _ => 0, fun q hq => by cases hq⟩
    | some q =>
      obtain ⟨Cn, T, N⟩ := q
      obtain ⟨ha, hok, -, -⟩ := am_cl h
      obtain ⟨d, i, hd⟩ := u_known (ws := am_gd) (s := s) (args := #[.ref b]) (fun w hw => hin hw) (fun w hw => am_cl_w hok w (List.mem_append_left _ hw)) (hin (am_cl_w hok _ (List.mem_append_right _ List.mem_cons_self)))
      exact ⟨d, i, fun q hq => by cases hq; exact hd⟩
  have hov : ∀ C2 : String, Cond.arrayOver (.object C2) ∈ lw_tbl → va_AO C2 s ∧ ∃ cA : ClassId, ArrOfT s cA (.object C2) ∧ va_RA s cA (.object C2) := by
    intro C2 h
    have h1 : va_AO C2 s := va_AO.of (hts _ h)
    obtain ⟨comp, cA, kA, f4, -, f2, f3, f1⟩ := Cond.arrayOver_spec h1
    exact ⟨h1, cA, fun N z => ⟨(fun k h => by cases h), kA, f2, comp, f3⟩, kA, comp, f2, f3, f4, f1⟩
  obtain ⟨a0, k0, q0, f0, g0, h0⟩ := Cond.arrayClass_spec (hin am_arrI)
  obtain ⟨a1, k1, q1, f1, g1, h1⟩ := Cond.arrayClass_spec (hin am_arrZ)
  obtain ⟨v6, a2, b2, c2⟩ := hov RX6 (by decide +kernel)
  obtain ⟨v9, a3, b3, c3⟩ := hov RX9 (by decide +kernel)
  obtain ⟨v8, a4, b4, c4⟩ := hov RX8 (by decide +kernel)
  obtain ⟨v0, a5, b5, c5⟩ := hov RX0 (by decide +kernel)
  refine ⟨(fun k => Classical.choose (hk k), fun k => Classical.choose (Classical.choose_spec (hk k))), fun k => if k = 0 then a0 else if k = 1 then a1 else if k = 2 then a2 else if k = 3 then a3 else if k = 4 then a4 else a5, ⟨fun k q hq => Classical.choose_spec (Classical.choose_spec (hk k)) q hq, ?_⟩, ?_⟩
  · intro k q hq
    match k, hq with
    | 0, hq => cases hq; exact ⟨fun n z => ⟨fun k h => (by cases h), k0, g0, q0, h0⟩, f0⟩
    | 1, hq => cases hq; exact ⟨fun n z => ⟨fun k h => (by cases h), k1, g1, q1, h1⟩, f1⟩
    | 2, hq => cases hq; exact ⟨b2, c2⟩
    | 3, hq => cases hq; exact ⟨b3, c3⟩
    | 4, hq => cases hq; exact ⟨b4, c4⟩
    | 5, hq => cases hq; exact ⟨b5, c5⟩
    | k + 6, hq => simp [am_ty] at hq
  · refine ⟨fun w hw => ?_, v6, v9, v8, v0⟩
    have h2 := List.mem_filter.mp hw
    have h3 := hts w h2.1
    have h4 := h2.2
    cases w <;> first | (exact va_Nw.of rfl h3) | (simp at h4; done)
/-- from the constructors' end to the world of the cases -/
theorem lg_start {v : Option am_V} {i : Int32} (hM : gM = some (v, σ, τ, ρ, cn, ln)) (K : lg_J l p e s m below meth c D ca b u w pc (lg_ls i) [] e1 t1L (rX none) cX lX) : lg_J l p e s m below meth c D ca b u w pc (lg_ls i) [] σ τ ρ cn ln := by
  intro ad Lw H locs lsA hY hS hl hVl hV
  obtain ⟨L2, hY2⟩ := am_Y.start hM hY
  exact K ad L2 H locs lsA hY2 hS hl ⟨(show 0 < cX 11 by decide), (show 0 < cX 12 by decide), trivial, trivial⟩ trivial
end LGB
