/-! the model's goThrough: the whole -/
section L70
variable {l : Launch} {σ σ2 : tI} {τ τ2 : tL} {t : Option (Nat × Nat)} {x N p : Nat} {G : Nat → Int32}
def mgQ (σ : tI) (R : Nat ⊕ rS) (v : Option am_V) (s : tI) : Prop := rmF σ s ∧ match R with
  | .inl q => v = some (aI (nI q))
  | .inr st => v = some (aI (-9)) ∧ rM s st
theorem m_nd_lp {Q : tQ} {sh v : Nat} {rd : Int32} {S : aSh} {l4 : Int32} (hsh : sh < 4) (hv : v < 10) (hS : ShOK S) (h49 : σ 49 0 sh = nI (sN S)) (hX : MItems σ sh S) (h19 : σ 12 0 19 = rd) (hy : lkN S v rd (sN S) → Q (some (aI (nI N))) σ τ (rX t) cX lX) (hn : ¬ lkN S v rd (sN S) → Q (some (aI (-9))) σ τ (rX t) cX lX) : ∀ (d i : Nat), i + d = sN S → ¬ lkN S v rd i → am_G l 190 Q 0 0 346 [(6, aI (nI i)), (4, aI l4), (5, aI (nI N)), (0, aR 12 0), (1, aI (nI sh)), (2, aI (nI v)), (3, aI (nI x))] [] σ τ (rX t) cX lX
  | 0, i, hi, hz => by
    have s12 := hS.1
    obtain rfl : i = sN S := by omega
    refine am_vc_ok am_k190 [346] 100 ?_
    refine And.intro (vp_in_nI (N := 4) hsh (by decide)) ?_
    rw [nI_clamp (n := sh) (by omega), h49]
    refine And.intro (fun _ => ?_) (fun z => absurd (nI_le (Nat.le_refl _) (by omega)) z)
    exact am_vI am_k190 am_r190 rfl (hn hz)
  | d + 1, i, hi, hz => by
    have s12 := hS.1
    have hi2 : i < sN S := by omega
    obtain ⟨b1, b2, b3, b4, b5, b6, b7⟩ := hS.2.1 i hi2
    have x4 : σ 50 0 (72 * sh + 6 * i + 3) = nI (sSi S i) := hX i 3 hi2 (by decide)
    have x5 : σ 50 0 (72 * sh + 6 * i + 4) = nI (sTi S i) := hX i 4 hi2 (by decide)
    have x6 : σ 50 0 (72 * sh + 6 * i + 5) = pI (sPr S i) := hX i 5 hi2 (by decide)
    have x1 : σ 50 0 (72 * sh + 6 * i + 0) = nI (sNm S i) := hX i 0 hi2 (by decide)
    have hiff : (σ 50 0 (72 * sh + 6 * i + 3) ≤ nI v ∧ nI v ≤ σ 50 0 (72 * sh + 6 * i + 4)) ↔ (sSi S i ≤ v ∧ v ≤ sTi S i) := by
      rw [x4, x5, nI_leI (by omega) (by omega), nI_leI (by omega) (by omega)]
    have p5 := m_part (l := l) (τ := τ) (t := t) (σ := σ) (w := 5) hsh (show i < 12 by omega) (by decide)
    have p0 := m_part (l := l) (τ := τ) (t := t) (σ := σ) (w := 0) hsh (show i < 12 by omega) (by decide)
    rw [x6] at p5
    rw [x1] at p0
    have go : ¬ ((sSi S i ≤ v ∧ v ≤ sTi S i) ∧ sPr S i = none ∧ bb rd (sNm S i) = false) → am_G l 190 Q 0 0 346 [(6, aI (nI i + 1)), (4, aI l4), (5, aI (nI N)), (0, aR 12 0), (1, aI (nI sh)), (2, aI (nI v)), (3, aI (nI x))] [] σ τ (rX t) cX lX := by
      intro h
      rw [show nI i + 1 = nI (i + 1) from nI_1 i]
      exact m_nd_lp hsh hv hS h49 hX h19 hy hn d (i + 1) (by omega) (fun z => (lkN_s.mp z).elim hz h)
    refine am_vc_ok am_k190 [346] 100 ?_
    refine And.intro (vp_in_nI (N := 4) hsh (by decide)) ?_
    rw [nI_clamp (n := sh) (by omega), h49]
    refine And.intro (fun z => absurd z (nI_ge hi2 (by omega))) (fun _ => ?_)
    refine am_vO am_k190 am_h190 rfl rfl rfl rfl (m_isOf hsh (show i < 12 by omega)) ?_
    refine am_vc_ok am_k190 [346] 100 ?_
    refine And.intro (fun z => ?_) (fun z => ?_)
    · exact go (fun y => bI_0.mp z (hiff.mpr y.1))
    have z1 := hiff.mp (bI_1.mp z)
    refine am_vO am_k190 am_h190 rfl rfl rfl rfl (p5) ?_
    refine am_vc_ok am_k190 [346] 100 ?_
    cases e : sPr S i with
    | some dd =>
      have := (b7 dd e).1
      refine And.intro (fun _ => ?_) (fun z => absurd (nI_pos' (by omega)) z)
      exact go (fun y => by rw [e] at y; exact absurd y.2.1 (by simp))
    | none =>
      refine And.intro (fun z => absurd z (by decide)) (fun _ => ?_)
      refine am_vO am_k190 am_h190 rfl rfl rfl rfl (p0) ?_
      refine am_vc_ok am_k190 [346] 100 ?_
      rw [h19]
      refine am_vS am_k190 am_h190 rfl rfl rfl rfl (m_has) ?_
      refine am_vc_ok am_k190 [346] 100 ?_
      refine And.intro (fun z => ?_) (fun z => ?_)
      · have z : bb rd (sNm S i) = false := by
          cases hb : bb rd (sNm S i) with
          | false => rfl
          | true => exact absurd ((bb_m b1).mpr hb) (bI_0.mp z)
        exact am_vI am_k190 am_r190 rfl (hy ⟨i, hi2, z1, e, z⟩)
      · have z := (bb_m b1).mp (bI_1.mp z)
        exact go (fun y => by rw [z] at y; exact absurd y.2.2 (by decide))
theorem m_gt_lp {Q : tQ} {sh v : Nat} {S : aSh} {R : Nat ⊕ rS} (hsh : sh < 4) (hv : v < 10) (hS : ShOK S) (h49 : σ 49 0 sh = nI (sN S)) (hX : MItems σ sh S) (h : M0 σ x N G) (hB : ∀ j, j < N → isB (G j)) (hQ : ∀ w s, mgQ σ R w s → Q w s τ (rX t) cX lX) : ∀ (d p : Nat) (st : rS) (s : tI), N < p + d → 1 ≤ d → p ≤ N → rdA S v G N st p = R → rIn S v G N st p → rmF σ s → rM s st → am_G l 190 Q 0 0 26 [(4, aI (nI p)), (5, aI (nI N)), (0, aR 12 0), (1, aI (nI sh)), (2, aI (nI v)), (3, aI (nI x))] [] s τ (rX t) cX lX
  | 0, p, st, s, hd, h1, hp, hR, hin, hf, hC => absurd h1 (by omega)
  | d + 1, p, st, s, hd, h1, hp, hR, hin, hf, hC => by
    have hN := h.2.1
    have hM := h.rm hf
    have s12 := hS.1
    have e49 : s 49 0 sh = nI (sN S) := by rw [hf.1 49 (by decide) (by decide) (by decide) (by decide)]; exact h49
    have hXs : MItems s sh S := by
      unfold MItems
      rw [hf.1 50 (by decide) (by decide) (by decide) (by decide)]
      exact hX
    have fin := fun (hd2 : 1 ≤ d) p st s a => m_gt_lp hsh hv hS h49 hX h hB hQ d p st s a hd2
    by_cases hpN : N ≤ p
    · have hend := rdA_end (S := S) (v := v) (G := G) (st := st) hpN
      refine am_vc_ok am_k190 [346] 100 ?_
      refine And.intro (fun _ => ?_) (fun z => absurd (nI_le hpN (by omega)) z)
      refine am_Gp (ls2 := [(6, aI (nI 0)), (4, aI (nI p)), (5, aI (nI N)), (0, aR 12 0), (1, aI (nI sh)), (2, aI (nI v)), (3, aI (nI x))]) [0, 1, 2, 3, 4, 5, 6] rfl ?_
      refine m_nd_lp hsh hv hS e49 hXs hC.1 (fun z => ?_) (fun z => ?_) (sN S) 0 (by omega) (by rintro ⟨q, hq, -⟩; omega)
      · rw [hend.1 z] at hR
        refine hQ _ _ ⟨hf, ?_⟩
        rw [← hR]
      · rw [hend.2 z] at hR
        refine hQ _ _ ⟨hf, ?_⟩
        rw [← hR]
        exact ⟨rfl, hC⟩
    have hpN : p < N := by omega
    have h256 := ut_lt (G := G) (N := N) (q := p) hB
    have hby0 := m_byteAt (l := l) (τ := τ) (t := t) (q := p) hM hB hpN
    have ret : ∀ q, fdR S v G N st p = .inl q → ∀ s2, rmF σ s2 → Q (some (aI (nI q))) s2 τ (rX t) cX lX := by
      intro q e s2 hs2
      rw [rdA_no hpN e] at hR
      refine hQ _ _ ⟨hs2, ?_⟩
      rw [← hR]
    refine am_vc_ok am_k190 [119] 100 ?_
    refine And.intro (fun z => absurd z (nI_ge hpN (by omega))) (fun _ => ?_)
    refine am_vO am_k190 am_h190 rfl rfl rfl rfl (hby0) ?_
    refine am_vc_ok am_k190 [119] 100 ?_
    generalize hh : ut G N p = hd0 at *
    have ha : hd0 % 16 < 16 := Nat.mod_lt _ (by decide)
    obtain ⟨q1, q2⟩ := d16 hd0 h256
    refine And.intro (by decide) ?_
    rw [q2]
    refine And.intro (by decide) ?_
    rw [q1]
    refine And.intro (fun z => ?_) (fun z => ?_)
    · have z : 3 < hd0 / 16 := (nI_ltI (a := 3) (by decide) (by omega)).mp z
      exact am_vI am_k190 am_r190 rfl (ret p (by unfold fdR; rw [hh, if_pos (Or.inl (by omega))]) s hf)
    have z : hd0 / 16 < 4 := by
      have : ¬ 3 < hd0 / 16 := fun y => z (nI_lt (a := 3) y (by omega))
      omega
    have h64 : hd0 < 64 := by omega
    refine am_vS am_k190 am_h190 rfl rfl rfl rfl (m_has) ?_
    refine am_vc_ok am_k190 [119] 100 ?_
    have hbm : (((s 12 0 19 ||| s 12 0 20) >>> (nI (hd0 % 16) &&& 31)) &&& 1 = 1) ↔ bb (rRd st ||| rKp st) (hd0 % 16) = true := by
      rw [hC.1, hC.2.1]
      exact bb_m ha
    refine And.intro (fun y => ?_) (fun y => ?_)
    rotate_left
    · have y := hbm.mp (bI_1.mp y)
      exact am_vI am_k190 am_r190 rfl (ret p (by unfold fdR; rw [hh, if_pos (Or.inr y)]) s hf)
    have y : ¬ bb (rRd st ||| rKp st) (hd0 % 16) = true := fun q => bI_0.mp y (hbm.mpr q)
    have hok1 : ¬ (¬ hd0 < 64 ∨ bb (rRd st ||| rKp st) (hd0 % 16) = true) := by
      rintro (q | q)
      · exact q h64
      · exact y q
    have hna : bb (rRd st) (hd0 % 16) = false := by
      cases hb : bb (rRd st) (hd0 % 16) with
      | false => rfl
      | true => exact absurd (by rw [bb_or2, hb]; rfl) y
    generalize hk0 : lkO S v (hd0 % 16) (hd0 / 16) = ko at *
    have hko : ∀ q, ko = some q → q < sN S ∧ sSo S q = hd0 / 16 := fun q hq => by
      rw [hq] at hk0
      obtain ⟨w1, w2⟩ := lkO_s hk0
      exact ⟨(itO_s w1).1, w2⟩
    have bd1 : bdC S (hd0 / 16) ko (ut G N (p + 1)) → ∀ s2, rmF σ s2 → Q (some (aI (nI p + 1))) s2 τ (rX t) cX lX := by
      intro c1 s2 hs2
      rw [nI_1]
      refine ret (p + 1) ?_ s2 hs2
      unfold fdR
      rw [hh, if_neg hok1, hk0, if_pos c1]
    refine And.intro (fun w => ?_) (fun w => ?_)
    rotate_left
    · have w : ¬ p + 1 < N := fun q => w (by rw [nI_1]; exact nI_lt q (by omega))
      have e0 : ut G N (p + 1) = 0 := if_neg w
      have c1 : ¬ bdC S (hd0 / 16) ko (ut G N (p + 1)) := by
        rw [e0]
        rintro (q | ⟨q1, k, q2, q3⟩)
        · omega
        · obtain ⟨k1, k2⟩ := hko k q2
          have := (hS.2.1 k k1).2.2.1 (by omega)
          omega
      have w2 := wdN_2 (so := hd0 / 16) (u := ut G N (p + 1))
      refine am_vI am_k190 am_r190 rfl (ret N ?_ s hf)
      unfold fdR
      rw [hh, if_neg hok1, hk0, if_neg c1, if_pos (by omega)]
    have w : p + 1 < N := by
      have w : nI p + 1 < nI N := w
      rw [nI_1] at w
      exact (nI_ltI (by omega) (by omega)).mp w
    have hu256 := ut_lt (G := G) (N := N) (q := p + 1) hB
    have hby := m_byteAt (l := l) (τ := τ) (t := t) (q := p + 1) hM hB w
    rw [← nI_1 p] at hby
    have go : ¬ (hd0 / 16 = 2 ∧ 9 < ut G N (p + 1)) → am_G l 190 Q 0 0 119 [(9, aI (nI p + 1)), (8, aI (nI (hd0 / 16))), (7, aI (nI (hd0 % 16))), (6, aI (nI hd0)), (4, aI (nI p)), (5, aI (nI N)), (0, aR 12 0), (1, aI (nI sh)), (2, aI (nI v)), (3, aI (nI x))] [] s τ (rX t) cX lX := by
      intro h29
      have go2 : ∀ (l10 : Int32) (rv : Int32), rv = (if ko = none then 0 else 1) → (∀ q, ko = some q → l10 = nI q) → am_G l 190 Q 0 0 152 [(10, aI l10), (9, aI (nI p + 1)), (8, aI (nI (hd0 / 16))), (7, aI (nI (hd0 % 16))), (6, aI (nI hd0)), (4, aI (nI p)), (5, aI (nI N)), (0, aR 12 0), (1, aI (nI sh)), (2, aI (nI v)), (3, aI (nI x))] [aI rv] s τ (rX t) cX lX := by
        intro l10 rv hrv hl10
        have go3 : ¬ bdC S (hd0 / 16) ko (ut G N (p + 1)) → am_G l 190 Q 0 0 186 [(11, aI rv), (10, aI l10), (9, aI (nI p + 1)), (8, aI (nI (hd0 / 16))), (7, aI (nI (hd0 % 16))), (6, aI (nI hd0)), (4, aI (nI p)), (5, aI (nI N)), (0, aR 12 0), (1, aI (nI sh)), (2, aI (nI v)), (3, aI (nI x))] [] s τ (rX t) cX lX := by
          intro c1
          rw [nI_1]
          refine m_tk h hB hf hC w rfl ha z hin.2.1 hrv hna (fun c2 s2 hs2 => ?_) (fun c2 s2 hs2 hC2 => ?_)
          · refine ret N ?_ s2 hs2
            unfold fdR
            rw [hh, if_neg hok1, hk0, if_neg c1, if_pos c2]
          · have efd : fdR S v G N st p = .inr (tkR G st ko (hd0 % 16) p (p + wdN (hd0 / 16) (ut G N (p + 1))), p + wdN (hd0 / 16) (ut G N (p + 1))) := by
              unfold fdR
              rw [hh, if_neg hok1, hk0, if_neg c1, if_neg (by omega)]
            rw [rdA_st hpN efd] at hR
            have w2 := wdN_2 (so := hd0 / 16) (u := ut G N (p + 1))
            exact fin (by omega) _ _ s2 (by omega) c2 hR (hin.st hB hpN efd) hs2 hC2
        refine am_vc_ok am_k190 [186] 100 ?_
        refine And.intro (fun q => ?_) (fun q => ?_)
        rotate_left
        · have q : ¬ hd0 / 16 = 3 := fun y => q (by rw [y]; rfl)
          refine go3 ?_
          rintro (y | y)
          · exact h29 y
          · exact q y.1
        have q : hd0 / 16 = 3 := nI_inj' (by omega) (by decide) (show nI (hd0 / 16) = nI 3 from q)
        cases hkk : ko with
        | none =>
          rw [hkk, if_pos rfl] at hrv
          refine And.intro (fun _ => ?_) (fun y => absurd hrv y)
          refine go3 ?_
          rw [hkk]
          rintro (y | ⟨-, k, y, -⟩)
          · omega
          · cases y
        | some k =>
          rw [hkk, if_neg (by simp)] at hrv
          obtain ⟨k1, k2⟩ := hko k hkk
          have hl := hl10 k hkk
          have hch := (hS.2.1 k k1).2.2.1 (by omega)
          have p2 := m_part (l := l) (τ := τ) (t := t) (σ := s) (w := 2) hsh (show k < 12 by omega) (by decide)
          rw [show s 50 0 (72 * sh + 6 * k + 2) = nI (sCh S k) from hXs k 2 k1 (by decide), ← hl] at p2
          refine And.intro (fun y => absurd (hrv.symm.trans y) (by decide)) (fun _ => ?_)
          refine am_vO am_k190 am_h190 rfl rfl rfl rfl (hby) ?_
          refine am_vc_ok am_k190 [186] 100 ?_
          refine am_vO am_k190 am_h190 rfl rfl rfl rfl (p2) ?_
          refine am_vc_ok am_k190 [186] 100 ?_
          refine And.intro (fun y => ?_) (fun y => ?_)
          · have y : ut G N (p + 1) < sCh S k := (nI_ltI (by omega) (by omega)).mp y
            refine go3 ?_
            rw [hkk]
            rintro (y | ⟨-, k3, e3, y3⟩)
            · omega
            · cases e3; omega
          · have y : ¬ ut G N (p + 1) < sCh S k := fun q => y (nI_lt q (by omega))
            exact am_vI am_k190 am_r190 rfl (bd1 (Or.inr ⟨q, k, hkk, by omega⟩) s hf)
      refine am_vc_ok am_k190 [152] 100 ?_
      refine am_vO am_k190 am_h190 rfl rfl rfl rfl (m_itO hsh hS e49 hXs hv ha) ?_
      refine am_vc_ok am_k190 [152] 100 ?_
      cases hi : itO S v (hd0 % 16) with
      | none =>
        have hkn : ko = none := by rw [← hk0]; unfold lkO; rw [hi]
        refine And.intro (fun _ => ?_) (fun q => absurd (by decide) q)
        exact go2 _ 0 (by rw [if_pos hkn]) (fun q hq => by rw [hkn] at hq; cases hq)
      | some k =>
        have hk1 := (itO_s hi).1
        have b2 := (hS.2.1 k hk1).2.1
        have p1 := m_part (l := l) (τ := τ) (t := t) (σ := s) (w := 1) hsh (show k < 12 by omega) (by decide)
        rw [show s 50 0 (72 * sh + 6 * k + 1) = nI (sSo S k) from hXs k 1 hk1 (by decide)] at p1
        refine And.intro (fun q => absurd q (nI_pos (by omega))) (fun _ => ?_)
        refine am_vO am_k190 am_h190 rfl rfl rfl rfl (p1) ?_
        refine am_vc_ok am_k190 [152] 100 ?_
        refine And.intro (fun q => ?_) (fun q => ?_)
        · have q : sSo S k = hd0 / 16 := nI_inj' (by omega) (by omega) q
          have hkn : ko = some k := by rw [← hk0]; unfold lkO; rw [hi]; exact if_pos q
          exact go2 _ 1 (by rw [if_neg (by rw [hkn]; simp)]) (fun q hq => by rw [hkn] at hq; cases hq; rfl)
        · have q : ¬ sSo S k = hd0 / 16 := fun y => q (by rw [y])
          have hkn : ko = none := by rw [← hk0]; unfold lkO; rw [hi]; exact if_neg q
          exact go2 _ 0 (by rw [if_pos hkn]) (fun q hq => by rw [hkn] at hq; cases hq)
    refine And.intro (fun q => ?_) (fun q => ?_)
    rotate_left
    · have q : ¬ hd0 / 16 = 2 := fun y => q (by rw [y]; rfl)
      exact go (fun y => q y.1)
    have q : hd0 / 16 = 2 := nI_inj' (by omega) (by decide) (show nI (hd0 / 16) = nI 2 from q)
    refine am_vO am_k190 am_h190 rfl rfl rfl rfl (hby) ?_
    refine am_vc_ok am_k190 [119] 100 ?_
    refine And.intro (fun u => ?_) (fun u => ?_)
    · have u : ut G N (p + 1) ≤ 9 := (nI_leI (b := 9) (by omega) (by decide)).mp u
      exact go (fun y => by omega)
    · have u : ¬ ut G N (p + 1) ≤ 9 := fun y => u (nI_le (b := 9) y (by decide))
      exact am_vI am_k190 am_r190 rfl (bd1 (Or.inl ⟨q, by omega⟩) s hf)
theorem m_goThrough {sh v : Nat} {S : aSh} (hsh : sh < 4) (hv : v < 10) (hS : ShOK S) (h49 : σ 49 0 sh = nI (sN S)) (hX : MItems σ sh S) (h : M0 σ x N G) (hB : ∀ j, j < N → isB (G j)) : am_T l 190 [aR 12 0, aI (nI sh), aI (nI v), aI (nI x)] σ τ t (fun w s τ2 t2 => τ2 = τ ∧ t2 = t ∧ mgQ σ (rdA S v G N st0 0) w s) := by
  have hx := h.2.2.1
  have e47 : u3 (u3 (u3 σ 12 0 19 0) 12 0 20 0) 12 0 21 0 47 0 x = nI N := by rw [u3_k _ _ (by decide), u3_k _ _ (by decide), u3_k _ _ (by decide)]; exact h.1
  refine am_T_of am_o190 am_l190 rfl ?_
  refine am_vc_ok am_k190 [26] 100 ?_
  refine And.intro (vp_in_nI (N := 6) hx (by decide)) ?_
  rw [nI_clamp (n := x) (by omega), e47]
  refine am_Gp (ls2 := [(4, aI (nI 0)), (5, aI (nI N)), (0, aR 12 0), (1, aI (nI sh)), (2, aI (nI v)), (3, aI (nI x))]) [1, 0, 2, 3, 4, 5] rfl ?_
  refine m_gt_lp (σ := σ) hsh hv hS h49 hX h hB ?_ (N + 1) 0 st0 _ (by omega) (by omega) (by omega) rfl st0_in (((rmF.refl.w (by decide)).w (by decide)).w (by decide)) ⟨by rw [u3_j _ _ (by decide), u3_j _ _ (by decide), u3_eq]; rfl, by rw [u3_j _ _ (by decide), u3_eq]; rfl, (fun a _ hb => by
    rw [show rRd st0 = 0 from rfl, bb_0] at hb
    cases hb), by rw [u3_eq]; rfl, fun j hj => absurd hj (Nat.not_lt_zero j)⟩
  intro w s hs
  exact ⟨_, rfl, rfl, rfl, rfl, rfl, hs⟩
end L70
