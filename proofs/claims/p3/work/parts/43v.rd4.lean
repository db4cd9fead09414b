/-! the class's wrongPlace -/
section L67
variable {l : Launch} {σ σ2 : tI} {τ τ2 : tL} {t : Option (Nat × Nat)} {r N p : Nat} {G : Nat → Int32}
theorem XIndex.o {i v a : Nat} {S : aSh} (h : XIndex σ i S) (hv : v < 10) (ha : a < 16) : σ 38 i (16 * v + a) = pI (itO S v a) := by
  obtain ⟨g1, g2⟩ := h v a hv ha
  cases e : itO S v a with
  | none =>
    refine g2 (fun k hk z => ?_)
    have := lastM_none e k hk
    exact this (decide_eq_true z)
  | some k =>
    obtain ⟨q1, q2, q3, q4⟩ := itO_s e
    exact g1 k q1 q2 q3 q4
theorem x_like {i v a so : Nat} {S : aSh} (hS : ShOK S) (hX : XItems σ i S) (hI : XIndex σ i S) (hv : v < 10) (ha : a < 16) (hso : so < 4) : am_D l 84 [aR 9 i, aI (nI v), aI (nI a), aI (nI so)] σ τ (rX t) cX lX (some (aI (pI (lkO S v a so)))) σ τ (rX t) := by
  have s12 := hS.1
  have h := x_itemLike (l := l) (σ := σ) (τ := τ) (t := t) (i := i) (n := 0) (so := nI so) hv ha (hI.o hv ha) (fun k hk => by have := (itO_s hk).1; omega)
  have e : likeO (σ 33 i) (nI so) (itO S v a) = lkO S v a so := by
    unfold likeO lkO
    cases e : itO S v a with
    | none => rfl
    | some k =>
      have hk := (itO_s e).1
      have b2 := (hS.2.1 k hk).2.1
      show (if σ 33 i k = nI so then some k else none) = (if sSo S k = so then some k else none)
      rw [(hX k hk).2.1]
      by_cases e2 : sSo S k = so
      · rw [if_pos e2, if_pos (by rw [e2])]
      · rw [if_neg e2, if_neg (fun z => e2 (nI_inj' (by omega) (by omega) z))]
  rw [e] at h
  exact h
theorem x_lk_lp {Q : tQ} {i v : Nat} {rd : Int32} {S : aSh} (hS : ShOK S) (h9 : σ 9 i 1 = nI (sN S)) (hX : XItems σ i S) (hv : v < 10) (h7 : σ 4 0 7 = rd) (K : ∀ w : Int32, w = cI (lkN S v rd (sN S)) → Q (some (aI w)) σ τ (rX t) cX lX) : ∀ (d k : Nat), k + d = sN S → ¬ lkN S v rd k → am_G l 41 Q 0 0 2 [(3, aI (nI k)), (0, aR 4 0), (1, aR 9 i), (2, aI (nI v))] [] σ τ (rX t) cX lX
  | 0, k, hk, hn => by
    have s12 := hS.1
    obtain rfl : k = sN S := by omega
    refine am_vc_ok am_k41 [2] 100 ?_
    refine And.intro (fun _ => ?_) (fun z => absurd (by rw [h9]; exact nI_le (Nat.le_refl _) (by omega)) z)
    exact am_vZ am_k41 am_r41 rfl (Or.inl rfl) (K 0 (cI_f hn).symm)
  | d + 1, k, hk, hn => by
    have s12 := hS.1
    have hk2 : k < sN S := by omega
    obtain ⟨x1, x2, x3, x4, x5, x6⟩ := hX k hk2
    obtain ⟨b1, b2, b3, b4, b5, b6, b7⟩ := hS.2.1 k hk2
    have hiff : (σ 35 i k ≤ nI v ∧ nI v ≤ σ 36 i k) ↔ (sSi S k ≤ v ∧ v ≤ sTi S k) := by
      rw [x4, x5, nI_leI (by omega) (by omega), nI_leI (by omega) (by omega)]
    have hpr : σ 37 i k = -9 ↔ sPr S k = none := by
      rw [x6]
      cases e : sPr S k with
      | none => exact ⟨fun _ => rfl, fun _ => rfl⟩
      | some d => exact ⟨fun z => absurd z (n9_4 (by have := (b7 d e).1; omega)), fun z => by cases z⟩
    have go : ¬ ((sSi S k ≤ v ∧ v ≤ sTi S k) ∧ sPr S k = none ∧ bb rd (sNm S k) = false) → am_G l 41 Q 0 0 2 [(3, aI (nI k + 1)), (0, aR 4 0), (1, aR 9 i), (2, aI (nI v))] [] σ τ (rX t) cX lX := by
      intro hz
      rw [show nI k + 1 = nI (k + 1) from nI_1 k]
      exact x_lk_lp hS h9 hX hv h7 K d (k + 1) (by omega) (fun z => (lkN_s.mp z).elim hn hz)
    refine am_vc_ok am_k41 [2] 100 ?_
    refine And.intro (fun z => absurd z (by rw [h9]; exact nI_ge hk2 (by omega))) (fun _ => ?_)
    refine am_vO am_k41 am_h41 rfl rfl rfl rfl (x_has (by omega)) ?_
    refine am_vc_ok am_k41 [2] 100 ?_
    refine And.intro (fun z => ?_) (fun z => ?_)
    · exact go (fun y => bI_0.mp z (hiff.mpr y.1))
    have z1 := hiff.mp (bI_1.mp z)
    refine am_vO am_k41 am_h41 rfl rfl rfl rfl (x_isNeeded (by omega)) ?_
    refine am_vc_ok am_k41 [2] 100 ?_
    refine And.intro (fun z => ?_) (fun z => ?_)
    · exact go (fun y => bI_0.mp z (hpr.mpr y.2.1))
    have z2 := hpr.mp (bI_1.mp z)
    refine And.intro (vp_in_nI (N := 12) (by omega) (by decide)) ?_
    rw [nI_clamp (n := k) (by omega), x1, h7]
    refine And.intro (fun z => ?_) (fun z => ?_)
    · have z := (bb_x b1).mp z
      exact am_vZ am_k41 am_r41 rfl (Or.inr rfl) (K 1 (cI_t ⟨k, hk2, z1, z2, z⟩).symm)
    · exact go (fun y => z ((bb_x b1).mpr y.2.2))
theorem x_lacks {i v : Nat} {rd : Int32} {S : aSh} (hS : ShOK S) (h9 : σ 9 i 1 = nI (sN S)) (hX : XItems σ i S) (hv : v < 10) (h7 : σ 4 0 7 = rd) : am_D l 41 [aR 4 0, aR 9 i, aI (nI v)] σ τ (rX t) cX lX (some (aI (cI (lkN S v rd (sN S))))) σ τ (rX t) := by
  refine am_D_of am_o41 am_l41 rfl ?_
  refine am_vc_ok am_k41 [2] 100 ?_
  refine x_lk_lp hS h9 hX hv h7 (fun w hw => ⟨by rw [hw], rfl, rfl, rfl, rfl, rfl⟩) (sN S) 0 (by omega) ?_
  rintro ⟨q, hq, -⟩
  omega
def rwQ (σ : tI) (R : Nat ⊕ rS) (v : Option am_V) (s : tI) : Prop := rxF σ s ∧ match R with
  | .inl q => v = some (aI (nI q))
  | .inr st => v = some (aI (-9)) ∧ rC s st
theorem x_wp_lp {Q : tQ} {i v : Nat} {S : aSh} {R : Nat ⊕ rS} (hv : v < 10) (hS : ShOK S) (h9 : σ 9 i 1 = nI (sN S)) (hX : XItems σ i S) (hI : XIndex σ i S) (hr : 4 ≤ r) (h : K0 σ r N G) (hB : ∀ j, j < N → isB (G j)) (hQ : ∀ w s, rwQ σ R w s → Q w s τ (rX t) cX lX) : ∀ (d k p : Nat) (st : rS) (s : tI), N < p + d → 1 ≤ d → k ≤ p → p ≤ N → rdA S v G N st p = R → rIn S v G N st p → rxF σ s → rC s st → am_G l 36 Q 0 0 24 [(5, aI (nI k)), (4, aI (nI p)), (0, aR 4 0), (1, aR 9 i), (2, aI (nI v)), (3, aR 6 r)] [] s τ (rX t) cX lX
  | 0, k, p, st, s, hd, h1, hk, hp, hR, hin, hf, hC => absurd h1 (by omega)
  | d + 1, k, p, st, s, hd, h1, hk, hp, hR, hin, hf, hC => by
    have hN := h.2.1
    have hK := h.rx hr hf
    have e9 : s 9 i 1 = nI (sN S) := by rw [hf.1 9 (by decide) (by decide) (by decide) (by decide)]; exact h9
    have hXs : XItems s i S := hX.fr (Nat.le_refl _) (fun q k a b _ => by rw [hf.1 q (by omega) (by omega) (by omega) (by omega)])
    have hIs : XIndex s i S := by
      unfold XIndex
      rw [hf.1 38 (by decide) (by decide) (by decide) (by decide)]
      exact hI
    have fin := fun (hd2 : 1 ≤ d) k p st s a b c => x_wp_lp hv hS h9 hX hI hr h hB hQ d k p st s a hd2 b c
    by_cases hpN : N ≤ p
    · have hend := rdA_end (S := S) (v := v) (G := G) (st := st) hpN
      have done : am_G l 36 Q 0 0 183 [(5, aI (nI k)), (4, aI (nI p)), (0, aR 4 0), (1, aR 9 i), (2, aI (nI v)), (3, aR 6 r)] [] s τ (rX t) cX lX := by
        refine am_vc_ok am_k36 [] 100 ?_
        refine am_vO am_k36 am_h36 rfl rfl rfl rfl (x_lacks hS e9 hXs hv hC.1) ?_
        refine am_vc_ok am_k36 [] 100 ?_
        refine And.intro (fun z => ?_) (fun z => ?_)
        · have z := cI_0.mp z
          rw [hend.2 z] at hR
          refine am_vI am_k36 am_r36 rfl (hQ _ _ ⟨hf, ?_⟩)
          rw [← hR]
          exact ⟨rfl, hC⟩
        · have z := cI_n0.mp z
          rw [hend.1 z] at hR
          refine am_vI am_k36 am_r36 rfl (hQ _ _ ⟨hf, ?_⟩)
          rw [← hR]
          exact congrArg (fun x => some (aI x)) hK.1
      refine am_vc_ok am_k36 [24, 183] 100 ?_
      refine And.intro (fun _ => done) (fun _ => ?_)
      refine And.intro (fun _ => done) (fun z => absurd (by rw [hK.1]; exact nI_le hpN (by omega)) z)
    have hpN : p < N := by omega
    obtain ⟨u1, u2, u3', u4⟩ := ub_ok (hB p hpN)
    have eut : ut G N p = ub (G p) := if_pos hpN
    refine am_vc_ok am_k36 [24] 100 ?_
    refine And.intro (fun z => absurd z (nI_ge (b := 60) (by omega) (by decide))) (fun _ => ?_)
    refine And.intro (fun z => absurd z (by rw [hK.1]; exact nI_ge hpN (by omega))) (fun _ => ?_)
    refine And.intro (by rw [lX_row hK.2.2.1]; exact vp_in_nI (by omega) (by decide)) ?_
    rw [nI_clamp (n := p) (by omega), hK.2.2.2]
    have ret : ∀ q, fdR S v G N st p = .inl q → ∀ s2, rxF σ s2 → Q (some (aI (nI q))) s2 τ (rX t) cX lX := by
      intro q e s2 hs2
      rw [rdA_no hpN e] at hR
      refine hQ _ _ ⟨hs2, ?_⟩
      rw [← hR]
    have bad1 : ¬ ut G N p < 64 → Q (some (aI (nI p))) s τ (rX t) cX lX := fun z => ret p (by unfold fdR; rw [if_pos (Or.inl z)]) s hf
    refine And.intro (fun z => ?_) (fun z => ?_)
    · exact am_vI am_k36 am_r36 rfl (bad1 (fun y => by rw [eut] at y; exact (u3'.mpr y).1 z))
    refine And.intro (fun z2 => ?_) (fun z2 => ?_)
    rotate_left
    · exact am_vI am_k36 am_r36 rfl (bad1 (fun y => by rw [eut] at y; exact z2 (u3'.mpr y).2))
    have h64 : ub (G p) < 64 := u3'.mp ⟨z, z2⟩
    rw [u4 h64]
    rw [eut.symm] at h64 ⊢
    generalize hh : ut G N p = hd0 at *
    have ha : hd0 % 16 < 16 := Nat.mod_lt _ (by decide)
    have hso : hd0 / 16 < 4 := by omega
    obtain ⟨q1, q2⟩ := d16 hd0 (by omega)
    refine And.intro (by decide) ?_
    rw [q1]
    refine And.intro (by decide) ?_
    rw [q2]
    have hbx : ((s 4 0 7 ||| s 4 0 8) &&& bt (hd0 % 16) = 0) ↔ bb (rRd st ||| rKp st) (hd0 % 16) = false := by
      rw [hC.1, hC.2.1]
      exact bb_x ha
    refine And.intro (fun y => ?_) (fun y => ?_)
    rotate_left
    · have y : bb (rRd st ||| rKp st) (hd0 % 16) = true := by
        cases hb : bb (rRd st ||| rKp st) (hd0 % 16) with
        | true => rfl
        | false => exact absurd (hbx.mpr hb) y
      exact am_vI am_k36 am_r36 rfl (ret p (by unfold fdR; rw [hh, if_pos (Or.inr y)]) s hf)
    have y := hbx.mp y
    have hok1 : ¬ (¬ hd0 < 64 ∨ bb (rRd st ||| rKp st) (hd0 % 16) = true) := by
      rintro (q | q)
      · exact q h64
      · rw [y] at q; cases q
    refine am_vO am_k36 am_h36 rfl rfl rfl rfl (x_like hS hXs hIs hv ha hso) ?_
    refine am_vc_ok am_k36 [24] 100 ?_
    generalize hk0 : lkO S v (hd0 % 16) (hd0 / 16) = ko at *
    have hko : ∀ q, ko = some q → q < sN S ∧ sSo S q = hd0 / 16 := fun q hq => by
      rw [hq] at hk0
      obtain ⟨w1, w2⟩ := lkO_s hk0
      exact ⟨(itO_s w1).1, w2⟩
    refine am_vS am_k36 am_h36 rfl rfl rfl rfl (x_choices hS hXs (fun q hq => (hko q hq).1) hso) ?_
    refine am_vc_ok am_k36 [24] 100 ?_
    refine am_vS am_k36 am_h36 rfl rfl rfl rfl (x_wrongIn hK hB (by omega) hso) ?_
    refine am_vc_ok am_k36 [24] 100 ?_
    have hu := ut_lt (G := G) (N := N) (q := p + 1) hB
    have hbd := chI_bd (u := ut G N (p + 1)) hS hko hu
    by_cases c1 : bdC S (hd0 / 16) ko (ut G N (p + 1))
    · rw [if_pos (hbd.mpr c1)]
      refine And.intro (fun w => absurd w (n9_4 (by omega))) (fun _ => ?_)
      refine am_vI am_k36 am_r36 rfl (ret (p + 1) ?_ s hf)
      unfold fdR
      rw [hh, if_neg hok1, hk0, if_pos c1]
    rw [if_neg (fun w => c1 (hbd.mp w))]
    by_cases c2 : N < p + wdN (hd0 / 16) (ut G N (p + 1))
    · rw [if_pos c2]
      refine And.intro (fun w => absurd w (n9_4 (by omega))) (fun _ => ?_)
      refine am_vI am_k36 am_r36 rfl (ret N ?_ s hf)
      unfold fdR
      rw [hh, if_neg hok1, hk0, if_neg c1, if_pos c2]
    rw [if_neg c2]
    refine And.intro (fun _ => ?_) (fun w => absurd rfl w)
    have efd : fdR S v G N st p = .inr (tkR G st ko (hd0 % 16) p (p + wdN (hd0 / 16) (ut G N (p + 1))), p + wdN (hd0 / 16) (ut G N (p + 1))) := by
      unfold fdR
      rw [hh, if_neg hok1, hk0, if_neg c1, if_neg c2]
    rw [rdA_st hpN efd] at hR
    have hin2 := hin.st hB hpN efd
    have w2 := wdN_2 (so := hd0 / 16) (u := ut G N (p + 1))
    generalize he : p + wdN (hd0 / 16) (ut G N (p + 1)) = e at *
    refine am_vS am_k36 am_h36 rfl rfl rfl rfl (x_width hK hB (by omega) hso) ?_
    have eadd : nI p + nI (wdN (hd0 / 16) (ut G N (p + 1))) = nI e := by rw [nI_add, he]
    have fin2 : ∀ (kv : Int32), kv = (if ko = none then 0 else 1) → am_G l 36 Q 0 0 170 [(11, aI (nI p + nI (wdN (hd0 / 16) (ut G N (p + 1))))), (10, aI (-9)), (9, aI (pI ko)), (8, aI (nI (hd0 % 16))), (7, aI (nI (hd0 / 16))), (6, aI (nI hd0)), (5, aI (nI k)), (4, aI (nI p)), (0, aR 4 0), (1, aR 9 i), (2, aI (nI v)), (3, aR 6 r)] [aI kv, aI (nI (hd0 % 16)), aI (nI p + nI (wdN (hd0 / 16) (ut G N (p + 1)))), aI (nI p), aR 6 r, aR 4 0] s τ (rX t) cX lX := by
      intro kv hkv
      rw [eadd]
      refine am_vc_ok am_k36 [24] 100 ?_
      refine am_vOT am_k36 am_h36 rfl rfl rfl rfl (x_take (k := ko) (kv := kv) hK hr (by omega) (by omega) ha hin.2.1 hC hkv) ?_
      rintro w s2 τ2 t2 ⟨rfl, rfl, rfl, hf2, hC2⟩
      have K2 := fin (by omega) (k + 1) e (tkR G st ko (hd0 % 16) p e) s2 (by omega) (by omega) (by omega) hR hin2 (hf.tr hf2) hC2
      refine am_vc_ok am_k36 [24] 100 ?_
      rw [← nI_1 k] at K2
      exact am_Gp [0, 1, 8, 9, 10, 11] rfl K2
    refine am_vc_ok am_k36 [170] 100 ?_
    cases ko with
    | none =>
      refine And.intro (fun _ => ?_) (fun w => absurd rfl w)
      exact fin2 0 rfl
    | some q =>
      have := (hko q rfl).1
      have := hS.1
      refine And.intro (fun w => absurd w (n9_4 (by omega))) (fun _ => ?_)
      exact fin2 1 rfl
theorem x_wrongPlace {i v : Nat} {S : aSh} (hv : v < 10) (hS : ShOK S) (h9 : σ 9 i 1 = nI (sN S)) (hX : XItems σ i S) (hI : XIndex σ i S) (hr : 4 ≤ r) (h : K0 σ r N G) (hB : ∀ j, j < N → isB (G j)) : am_T l 36 [aR 4 0, aR 9 i, aI (nI v), aR 6 r] σ τ t (fun w s τ2 t2 => τ2 = τ ∧ t2 = t ∧ rwQ σ (rdA S v G N st0 0) w s) := by
  refine am_T_of am_o36 am_l36 rfl ?_
  refine am_vc_ok am_k36 [24] 100 ?_
  refine am_Gp (ls2 := [(5, aI (nI 0)), (4, aI (nI 0)), (0, aR 4 0), (1, aR 9 i), (2, aI (nI v)), (3, aR 6 r)]) [0, 1, 2, 3, 4, 5] rfl ?_
  refine x_wp_lp (σ := σ) hv hS h9 hX hI hr h hB ?_ (N + 1) 0 0 st0 _ (by omega) (by omega) (by omega) (by omega) rfl st0_in (((rxF.refl.u6 (Or.inl rfl) (Or.inr rfl)).u4 (by decide)).u4 (by decide)) ⟨by rw [u3_j _ _ (by decide), u3_eq]; rfl, by rw [u3_eq]; rfl, (fun a _ hb => by
    rw [show rRd st0 = 0 from rfl, bb_0] at hb
    cases hb), by rw [u3_k _ _ (by decide), u3_k _ _ (by decide), u3_eq]; rfl, fun j hj => absurd hj (Nat.not_lt_zero j)⟩
  intro w s hs
  exact ⟨_, rfl, rfl, rfl, rfl, rfl, hs⟩
end L67
