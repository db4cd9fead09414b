/-! the law up to its loop -/
theorem lg_i92 : lg_lnk 9 92 0 105 2 = true := by decide +kernel
theorem lg_i154 : lg_lnk 12 154 0 1184 2 = true := by decide +kernel
theorem lg_c11 : Cond.classLink R_law 7 RX11 ∈ lw_tbl := List.mem_of_getElem? (i := 103) (by decide +kernel)
theorem lg_c12 : Cond.classLink R_law 10 RX12 ∈ lw_tbl := List.mem_of_getElem? (i := 1182) (by decide +kernel)
theorem lg_r1 : 0 + 1 + (am_rm 92).cells ≤ 600000 ∧ 0 + 14 + (am_rm 92).slots ≤ 7302250 := by decide +kernel
theorem lg_r2 : 0 + 1 + (am_rm 92).cells + 1 + (am_rm 154).cells ≤ 600000 ∧ 0 + 14 + (am_rm 92).slots + 69 + (am_rm 154).slots ≤ 7302250 := by decide +kernel
section LGC
variable {p : Program} {l : Launch} {e : Env} {s : State} {m : MethodId} {below : List Frame} {meth : Method} {c : Code} {D : va_G} {ca : Nat → ClassId} {b L : Nat} {xs : Nat → Int32} {u w pc : Nat} {st : List am_V} {σ : tI} {τ : tL} {ρ : tR} {cn : tN} {ln : tM}
theorem lg_st1 {a o : Nat} (C : lg_X p s m meth c D ca b L xs) (hd : decode code pc = .ok (.astore_n 1, 1)) (K : lg_J l p e s m below meth c D ca b u w (pc + 1) [(1, aR a o)] [] σ τ ρ cn ln) : lg_J l p e s m below meth c D ca b u w pc [] [aR a o] σ τ ρ cn ln := by
  intro ad Lw H locs lsA hY hS hl hVl hV
  refine lv_astore_n (lv' := [(1, .ref (ad a o)), (0, .ref b)]) C.1.1 C.1.2.1 hd rfl hl (by decide) rfl (fun ls2 hl2 => ?_)
  exact K ad Lw H locs ls2 hY hS (lv_sub hl2 [1, 0] rfl) ⟨hV.1, trivial⟩ trivial
theorem lg_st2 {a o a1 o1 : Nat} (C : lg_X p s m meth c D ca b L xs) (hd : decode code pc = .ok (.astore_n 2, 1)) (K : lg_J l p e s m below meth c D ca b u w (pc + 1) [(1, aR a1 o1), (2, aR a o)] [] σ τ ρ cn ln) : lg_J l p e s m below meth c D ca b u w pc [(1, aR a1 o1)] [aR a o] σ τ ρ cn ln := by
  intro ad Lw H locs lsA hY hS hl hVl hV
  refine lv_astore_n (lv' := [(2, .ref (ad a o)), (0, .ref b), (1, .ref (ad a1 o1))]) C.1.1 C.1.2.1 hd rfl hl (by decide) rfl (fun ls2 hl2 => ?_)
  exact K ad Lw H locs ls2 hY hS (lv_sub hl2 [1, 2, 0] rfl) ⟨hVl.1, hV.1, trivial⟩ trivial
theorem lg_i0 (C : lg_X p s m meth c D ca b L xs) (K : lg_J l p e s m below meth c D ca b u w 18 (lg_ls (nI 0)) [] σ τ ρ cn ln) : lg_J l p e s m below meth c D ca b u w 16 [(1, aR 11 0), (2, aR 12 0)] [] σ τ ρ cn ln := by
  intro ad Lw H locs lsA hY hS hl hVl hV
  refine lv_iconst (v := 0) C.1.1 C.1.2.1 dl_16 rfl ?_
  refine lv_istore_n (lv' := [(3, .int 0), (0, .ref b), (1, .ref (ad 11 0)), (2, .ref (ad 12 0))]) C.1.1 C.1.2.1 dl_17 rfl hl (by decide) rfl (fun ls2 hl2 => ?_)
  exact K ad Lw H locs ls2 hY hS (lv_sub hl2 [1, 2, 3, 0] rfl) ⟨hVl.1, hVl.2.1, trivial, trivial⟩ trivial
end LGC
theorem z2_0 {α : Type} {v : α} {k i : Nat} : z2 (fun _ _ _ => v) k i v = fun _ _ _ => v := by
  funext a b c
  unfold z2
  by_cases h1 : a = k
  · by_cases h2 : b = i
    · simp
    · simp
  · simp
theorem u1_0 : u1 (fun _ => 0) 11 (0 + 1) = s0N := by
  funext a
  rfl
set_option maxHeartbeats 4000000 in
/-- both constructors, then the world of the cases -/
theorem lg_begin {p : Program} {l : Launch} {e : Env} {s : State} {m : MethodId} {below : List Frame} {meth : Method} {c : Code} {D : va_G} {ca : Nat → ClassId} {b L : Nat} {xs : Nat → Int32} (C : lg_X p s m meth c D ca b L xs) (K : lg_J l p e s m below meth c D ca b (0 + 1 + (am_rm 92).cells + 1 + (am_rm 154).cells) (0 + 14 + (am_rm 92).slots + 69 + (am_rm 154).slots) 18 (lg_ls (nI 0)) [] e1 t1L (rX none) cX lX) : lg_J l p e s m below meth c D ca b 0 0 0 [] [] s0I s0L s0R (fun _ => 0) s0M := by
  cases hX : gX with
  | none =>
    have h1 := gX_12
    unfold gXq at h1
    rw [hX] at h1
    cases h1
  | some rx =>
    obtain ⟨vx, σx, τx, ρx, cnx, lnx⟩ := rx
    have h1 := gX_12
    unfold gXq at h1
    rw [hX] at h1
    rw [Bool.and_eq_true] at h1
    have hvx : vx = none := Option.isNone_iff_eq_none.mp h1.1
    have h12 : cnx 12 = 0 := am_beq h1.2
    subst hvx
    cases hM : gM with
    | none =>
      have h2 := gM_some
      rw [hM] at h2
      cases h2
    | some rm =>
      obtain ⟨vm, σm, τm, ρm, cnm, lnm⟩ := rm
      have hvm : vm = none := (gM_facts hM).1
      subst hvm
      have hX1 : am_run 1000 92 0 0 0 [(0, aR 11 0)] [] s0I s0L s0R s0N s0M = some (none, σx, τx, ρx, cnx, lnx) := hX
      have hM1 : am_run 1000 154 0 0 0 [(0, aR 12 0)] [] (z2 σx 12 0 0) (z2 τx 12 0 0) (z2 ρx 12 0 none) (u1 cnx 12 1) lnx = some (none, σm, τm, ρm, cnm, lnm) := (congrArg gMf hX).symm.trans hM
      have E1 : am_E l 92 [aR 11 0] s0I s0L s0R s0N s0M (fun v s t p c n => v = none ∧ s = σx ∧ t = τx ∧ p = ρx ∧ c = cnx ∧ n = lnx) := am_E_of (am_okm_inv am_o92).2.2.2.1 (by rw [am_l92]; decide) (am_run_ok 1000 hX1 am_r92 ⟨rfl, rfl, rfl, rfl, rfl, rfl⟩)
      have E2 : am_E l 154 [aR 12 0] (z2 σx 12 0 0) (z2 τx 12 0 0) (z2 ρx 12 0 none) (u1 cnx 12 1) lnx (fun v s t p c n => v = none ∧ s = σm ∧ t = τm ∧ p = ρm ∧ c = cnm ∧ n = lnm) := am_E_of (am_okm_inv am_o154).2.2.2.1 (by rw [am_l154]; decide) (am_run_ok 1000 hM1 am_r154 ⟨rfl, rfl, rfl, rfl, rfl, rfl⟩)
      refine lg_newo (a := 11) C dl_0 (show vwCl[11]? = some (RX11, TX11, 14) from rfl) lg_c11 (by decide) (by decide) ?_
      have e1 : z2 s0I 11 ((fun _ => 0 : tN) 11) 0 = s0I := z2_0
      have e2 : z2 s0L 11 ((fun _ => 0 : tN) 11) 0 = s0L := z2_0
      have e3 : z2 s0R 11 ((fun _ => 0 : tN) 11) none = s0R := z2_0
      have e4 : u1 (fun _ => 0) 11 ((fun _ => 0 : tN) 11 + 1) = s0N := u1_0
      rw [e1, e2, e3, e4]
      refine lg_dup C dl_3 ?_
      refine lg_callI (n := 0) C dl_4 am_o92 lg_i92 rfl (by decide) E1 lg_r1 ?_
      rintro v σ2 τ2 ρ2 cn2 ln2 ⟨rfl, rfl, rfl, rfl, rfl, rfl⟩ _
      refine lg_st1 C dl_7 ?_
      refine lg_newo (a := 12) C dl_8 (show vwCl[12]? = some (RX12, TX12, 69) from rfl) lg_c12 (by decide +kernel) (by decide +kernel) ?_
      rw [h12]
      refine lg_dup C dl_11 ?_
      refine lg_callI (n := 0) C dl_12 am_o154 lg_i154 rfl (by decide) E2 lg_r2 ?_
      rintro v σ2 τ2 ρ2 cn2 ln2 ⟨rfl, rfl, rfl, rfl, rfl, rfl⟩ _
      refine lg_st2 C dl_15 ?_
      refine lg_i0 C ?_
      exact lg_start hM K
