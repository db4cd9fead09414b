/-! the model's goThrough: the whole -/
section L70
variable {l : Launch} {σ σ2 : tI} {τ τ2 : tL} {t : Option (Nat × Nat)} {x N p : Nat} {G : Nat → Int32}
def mgQ (σ : tI) (R : Nat ⊕ rS) (v : Option am_V) (s : tI) : Prop := rmF σ s ∧ match R with
  | .inl q => v = some (aI (nI q))
  | .inr st => v = some (aI (-9)) ∧ rM s st
theorem m_nd_lp {Q : tQ} {sh v : Nat} {rd : Int32} {S : aSh} {l4 : Int32} (hsh : sh < 4) (hv : v < 10) (hS : ShOK S) (h49 : σ 49 0 sh = nI (sN S)) (hX : MItems σ sh S) (h19 : σ 12 0 19 = rd) (hy : lkN S v rd (sN S) → Q (some (aI (nI N))) σ τ (rX t) cX lX) (hn : ¬ lkN S v rd (sN S) → Q (some (aI (-9))) σ τ (rX t) cX lX) : ∀ (d i : Nat), i + d = sN S → ¬ lkN S v rd i → am_G l 190 Q 0 0 346 [(6, aI (nI i)), (4, aI l4), (5, aI (nI N)), (0, aR 12 0), (1, aI (nI sh)), (2, aI (nI v)), (3, aI (nI x))] [] σ τ (rX t) cX lX
  | 0, i, hi, hz => by
    have s12 := hS.1
    obtain rfl : i = sN S := by omega
    refine am_vc_ok am_k190 [346] 100 ?_
    refine And.intro (vp_in_nI (N := 4) hsh (by decide)) ?_
    rw [nI_clamp (n := sh) (by omega), h49]
    refine And.intro (fun _ => ?_) (fun z => absurd (nI_le (Nat.le_refl _) (by omega)) z)
    exact am_vI am_k190 am_r190 rfl (hn hz)
  | d + 1, i, hi, hz => by
    have s12 := hS.1
    have hi2 : i < sN S := by omega
    obtain ⟨b1, b2, b3, b4, b5, b6, b7⟩ := hS.2.1 i hi2
    have x4 : σ 50 0 (72 * sh + 6 * i + 3) = nI (sSi S i) := hX i 3 hi2 (by decide)
    have x5 : σ 50 0 (72 * sh + 6 * i + 4) = nI (sTi S i) := hX i 4 hi2 (by decide)
    have x6 : σ 50 0 (72 * sh + 6 * i + 5) = pI (sPr S i) := hX i 5 hi2 (by decide)
    have x1 : σ 50 0 (72 * sh + 6 * i + 0) = nI (sNm S i) := hX i 0 hi2 (by decide)
    have hiff : (σ 50 0 (72 * sh + 6 * i + 3) ≤ nI v ∧ nI v ≤ σ 50 0 (72 * sh + 6 * i + 4)) ↔ (sSi S i ≤ v ∧ v ≤ sTi S i) := by
      rw [x4, x5, nI_leI (by omega) (by omega), nI_leI (by omega) (by omega)]
    have p5 := m_part (l := l) (τ := τ) (t := t) (σ := σ) (w := 5) hsh (show i < 12 by omega) (by decide)
    have p0 := m_part (l := l) (τ := τ) (t := t) (σ := σ) (w := 0) hsh (show i < 12 by omega) (by decide)
    rw [x6] at p5
    rw [x1] at p0
    have go : ¬ ((sSi S i ≤ v ∧ v ≤ sTi S i) ∧ sPr S i = none ∧ bb rd (sNm S i) = false) → am_G l 190 Q 0 0 346 [(6, aI (nI i + 1)), (4, aI l4), (5, aI (nI N)), (0, aR 12 0), (1, aI (nI sh)), (2, aI (nI v)), (3, aI (nI x))] [] σ τ (rX t) cX lX := by
      intro h
      rw [show nI i + 1 = nI (i + 1) from nI_1 i]
      exact m_nd_lp hsh hv hS h49 hX h19 hy hn d (i + 1) (by omega) (fun z => (lkN_s.mp z).elim hz h)
    refine am_vc_ok am_k190 [346] 100 ?_
    refine And.intro (vp_in_nI (N := 4) hsh (by decide)) ?_
    rw [nI_clamp (n := sh) (by omega), h49]
    refine And.intro (fun z => absurd z (nI_ge hi2 (by omega))) (fun _ => ?_)
    refine am_vO am_k190 am_h190 rfl rfl rfl rfl (m_isOf hsh (show i < 12 by omega)) ?_
    refine am_vc_ok am_k190 [346] 100 ?_
    refine And.intro (fun z => ?_) (fun z => ?_)
    · exact go (fun y => bI_0.mp z (hiff.mpr y.1))
    have z1 := hiff.mp (bI_1.mp z)
    refine am_vO am_k190 am_h190 rfl rfl rfl rfl (p5) ?_
    refine am_vc_ok am_k190 [346] 100 ?_
    cases e : sPr S i with
    | some dd =>
      have := (b7 dd e).1
      refine And.intro (fun _ => ?_) (fun z => absurd (nI_pos' (by omega)) z)
      exact go (fun y => by rw [e] at y; exact absurd y.2.1 (by simp))
    | none =>
      refine And.intro (fun z => absurd z (by decide)) (fun _ => ?_)
      refine am_vO am_k190 am_h190 rfl rfl rfl rfl (p0) ?_
      refine am_vc_ok am_k190 [346] 100 ?_
      rw [h19]
      refine am_vS am_k190 am_h190 rfl rfl rfl rfl (m_has) ?_
      refine am_vc_ok am_k190 [346] 100 ?_
      refine And.intro (fun z => ?_) (fun z => ?_)
      · have z : bb rd (sNm S i) = false := by
          cases hb : bb rd (sNm S i) with
          | false => rfl
          | true => exact absurd ((bb_m b1).mpr hb) (bI_0.mp z)
        exact am_vI am_k190 am_r190 rfl (hy ⟨i, hi2, z1, e, z⟩)
      · have z := (bb_m b1).mp (bI_1.mp z)
        exact go (fun y => by rw [z] at y; exact absurd y.2.2 (by decide))
theorem m_gt_lp {Q : tQ} {sh v : Nat} {S : aSh} {R : Nat ⊕ rS} (hsh : sh < 4) (hv : v < 10) (hS : ShOK S) (h49 : σ 49 0 sh = nI (sN S)) (hX : MItems σ sh S) (h : M0 σ x N G) (hB : ∀ j, j < N → isB (G j)) (hQ : ∀ w s, mgQ σ R w s → Q w s τ (rX t) cX lX) : ∀ (d p : Nat) (st : rS) (s : tI), N < p + d → 1 ≤ d → p ≤ N → rdA S v G N st p = R → rIn S v G N st p → rmF σ s → rM s st → am_G l 190 Q 0 0 26 [(4, aI (nI p)), (5, aI (nI N)), (0, aR 12 0), (1, aI (nI sh)), (2, aI (nI v)), (3, aI (nI x))] [] s τ (rX t) cX lX
  | 0, p, st, s, hd, h1, hp, hR, hin, hf, hC => absurd h1 (by omega)
  | d + 1, p, st, s, hd, h1, hp, hR, hin, hf, hC => by
    have hN := h.2.1
    have hM := h.rm hf
    have s12 := hS.1
    have e49 : s 49 0 sh = nI (sN S) := by rw [hf.1 49 (by decide) (by decide) (by decide) (by decide)]; exact h49
    have hXs : MItems s sh S := by
      unfold MItems
      rw [hf.1 50 (by decide) (by decide) (by decide) (by decide)]
      exact hX
    have fin := fun (hd2 : 1 ≤ d) p st s a => m_gt_lp hsh hv hS h49 hX h hB hQ d p st s a hd2
    by_cases hpN : N ≤ p
    · have hend := rdA_end (S := S) (v := v) (G := G) (st := st) hpN
      refine am_vc_ok am_k190 [346] 100 ?_
      refine And.intro (fun _ => ?_) (fun z => absurd (nI_le hpN (by omega)) z)
      refine am_Gp (ls2 := [(6, aI (nI 0)), (4, aI (nI p)), (5, aI (nI N)), (0, aR 12 0), (1, aI (nI sh)), (2, aI (nI v)), (3, aI (nI x))]) [0, 1, 2, 3, 4, 5, 6] rfl ?_
      refine m_nd_lp hsh hv hS e49 hXs hC.1 (fun z => ?_) (fun z => ?_) (sN S) 0 (by omega) (by rintro ⟨q, hq, -⟩; omega)
      · rw [hend.1 z] at hR
        refine hQ _ _ ⟨hf, ?_⟩
        rw [← hR]
      · rw [hend.2 z] at hR
        refine hQ _ _ ⟨hf, ?_⟩
        rw [← hR]
        exact ⟨rfl, hC⟩
    have hpN : p < N := by omega
    have h256 := ut_lt (G := G) (N := N) (q := p) hB
    have hby0 := m_byteAt (l := l) (τ := τ) (t := t) (q := p) hM hB hpN
    have ret : ∀ q, fdR S v G N st p = .inl q → ∀ s2, rmF σ s2 → Q (some (aI (nI q))) s2 τ (rX t) cX lX := by
      intro q e s2 hs2
      rw [rdA_no hpN e] at hR
      refine hQ _ _ ⟨hs2, ?_⟩
      rw [← hR]
    refine am_vc_ok am_k190 [119] 100 ?_
    refine And.intro (fun z => absurd z (nI_ge hpN (by omega))) (fun _ => ?_)
    refine am_vO am_k190 am_h190 rfl rfl rfl rfl (hby0) ?_
    refine am_vc_ok am_k190 [119] 100 ?_
    generalize hh : ut G N p = hd0 at *
    have ha : hd0 % 16 < 16 := Nat.mod_lt _ (by decide)
    obtain ⟨q1, q2⟩ := d16 hd0 h256
    refine And.intro (by decide) ?_
    rw [q2]
    refine And.intro (by decide) ?_
    rw [q1]
    refine And.intro (fun z => ?_) (fun z => ?_)
    · have z : 3 < hd0 / 16 := (nI_ltI (a := 3) (by decide) (by omega)).mp z
      exact am_vI am_k190 am_r190 rfl (ret p (by unfold fdR; rw [hh, if_pos (Or.inl (by omega))]) s hf)
    have z : hd0 / 16 < 4 := by
      have : ¬ 3 < hd0 / 16 := fun y => z (nI_lt (a := 3) y (by omega))
      omega
    have h64 : hd0 < 64 := by omega
    refine am_vS am_k190 am_h190 rfl rfl rfl rfl (m_has) ?_
    refine am_vc_ok am_k190 [119] 100 ?_
    have hbm : (((s 12 0 19 ||| s 12 0 20) >>> (nI (hd0 % 16) &&& 31)) &&& 1 = 1) ↔ bb (rRd st ||| rKp st) (hd0 % 16) = true := by
      rw [hC.1, hC.2.1]
      exact bb_m ha
    refine And.intro (fun y => ?_) (fun y => ?_)
    rotate_left
    · have y := hbm.mp (bI_1.mp y)
      exact am_vI am_k190 am_r190 rfl (ret p (by unfold fdR; rw [hh, if_pos (Or.inr y)]) s hf)
    have y : ¬ bb (rRd st ||| rKp st) (hd0 % 16) = true := fun q => bI_0.mp y (hbm.mpr q)
    have hok1 : ¬ (¬ hd0 < 64 ∨ bb (rRd st ||| rKp st) (hd0 % 16) = true) := by
      rintro (q | q)
      · exact q h64
      · exact y q
    have hna : bb (rRd st) (hd0 % 16) = false := by
      cases hb : bb (rRd st) (hd0 % 16) with
      | false => rfl
      | true => exact absurd (by rw [bb_or2, hb]; rfl) y
    generalize hk0 : lkO S v (hd0 % 16) (hd0 / 16) = ko at *
    have hko : ∀ q, ko = some q → q < sN S ∧ sSo S q = hd0 / 16 := fun q hq => by
      rw [hq] at hk0
      obtain ⟨w1, w2⟩ := lkO_s hk0
      exact ⟨(itO_s w1).1, w2⟩
    have bd1 : bdC S (hd0 / 16) ko (ut G N (p + 1)) → ∀ s2, rmF σ s2 → Q (some (aI (nI p + 1))) s2 τ (rX t) cX lX := by
      intro c1 s2 hs2
      rw [nI_1]
      refine ret (p + 1) ?_ s2 hs2
      unfold fdR
      rw [hh, if_neg hok1, hk0, if_pos c1]
    refine And.intro (fun w => ?_) (fun w => ?_)
    rotate_left
    · have w : ¬ p + 1 < N := fun q => w (by rw [nI_1]; exact nI_lt q (by omega))
      have e0 : ut G N (p + 1) = 0 := if_neg w
      have c1 : ¬ bdC S (hd0 / 16) ko (ut G N (p + 1)) := by
        rw [e0]
        rintro (q | ⟨q1, k, q2, q3⟩)
        · omega
        · obtain ⟨k1, k2⟩ := hko k q2
          have := (hS.2.1 k k1).2.2.1 (by omega)
          omega
      have w2 := wdN_2 (so := hd0 / 16) (u := ut G N (p + 1))
      refine am_vI am_k190 am_r190 rfl (ret N ?_ s hf)
      unfold fdR
      rw [hh, if_neg hok1, hk0, if_neg c1, if_pos (by omega)]
    have w : p + 1 < N := by
      have w : nI p + 1 < nI N := w
      rw [nI_1] at w
      exact (nI_ltI (by omega) (by omega)).mp w
    have hu256 := ut_lt (G := G) (N := N) (q := p + 1) hB
    have hby := m_byteAt (l := l) (τ := τ) (t := t) (q := p + 1) hM hB w
    rw [← nI_1 p] at hby
    have go : ¬ (hd0 / 16 = 2 ∧ 9 < ut G N (p + 1)) → am_G l 190 Q 0 0 119 [(9, aI (nI p + 1)), (8, aI (nI (hd0 / 16))), (7, aI (nI (hd0 % 16))), (6, aI (nI hd0)), (4, aI (nI p)), (5, aI (nI N)), (0, aR 12 0), (1, aI (nI sh)), (2, aI (nI v)), (3, aI (nI x))] [] s τ (rX t) cX lX := by
      intro h29
      have go2 : ∀ (l10 : Int32) (rv : Int32), rv = (if ko = none then 0 else 1) → (∀ q, ko = some q → l10 = nI q) → am_G l 190 Q 0 0 152 [(10, aI l10), (9, aI (nI p + 1)), (8, aI (nI (hd0 / 16))), (7, aI (nI (hd0 % 16))), (6, aI (nI hd0)), (4, aI (nI p)), (5, aI (nI N)), (0, aR 12 0), (1, aI (nI sh)), (2, aI (nI v)), (3, aI (nI x))] [aI rv] s τ (rX t) cX lX := by
        intro l10 rv hrv hl10
        have go3 : ¬ bdC S (hd0 / 16) ko (ut G N (p + 1)) → am_G l 190 Q 0 0 186 [(11, aI rv), (10, aI l10), (9, aI (nI p + 1)), (8, aI (nI (hd0 / 16))), (7, aI (nI (hd0 % 16))), (6, aI (nI hd0)), (4, aI (nI p)), (5, aI (nI N)), (0, aR 12 0), (1, aI (nI sh)), (2, aI (nI v)), (3, aI (nI x))] [] s τ (rX t) cX lX := by
          intro c1
          rw [nI_1]
          refine m_tk h hB hf hC w rfl ha z hin.2.1 hrv hna (fun c2 s2 hs2 => ?_) (fun c2 s2 hs2 hC2 => ?_)
          · refine ret N ?_ s2 hs2
            unfold fdR
            rw [hh, if_neg hok1, hk0, if_neg c1, if_pos c2]
          · have efd : fdR S v G N st p = .inr (tkR G st ko (hd0 % 16) p (p + wdN (hd0 / 16) (ut G N (p + 1))), p + wdN (hd0 / 16) (ut G N (p + 1))) := by
              unfold fdR
              rw [hh, if_neg hok1, hk0, if_neg c1, if_neg (by omega)]
            rw [rdA_st hpN efd] at hR
            have w2 := wdN_2 (so := hd0 / 16) (u := ut G N (p + 1))
            exact fin (by omega) _ _ s2 (by omega) c2 hR (hin.st hB hpN efd) hs2 hC2
        refine am_vc_ok am_k190 [186] 100 ?_
        refine And.intro (fun q => ?_) (fun q => ?_)
        rotate_left
        · have q : ¬ hd0 / 16 = 3 := fun y => q (by rw [y]; rfl)
          refine go3 ?_
          rintro (y | y)
          · exact h29 y
          · exact q y.1
        have q : hd0 / 16 = 3 := nI_inj' (by omega) (by decide) (show nI (hd0 / 16) = nI 3 from q)
        cases hkk : ko with
        | none =>
          rw [hkk, if_pos rfl] at hrv
          refine And.intro (fun _ => ?_) (fun y => absurd hrv y)
          refine go3 ?_
          rw [hkk]
          rintro (y | ⟨-, k, y, -⟩)
          · omega
          · cases y
        | some k =>
          rw [hkk, if_neg (by simp)] at hrv
          obtain ⟨k1, k2⟩ := hko k hkk
          have hl := hl10 k hkk
          have hch := (hS.2.1 k k1).2.2.1 (by omega)
          have p2 := m_part (l := l) (τ := τ) (t := t) (σ := s) (w := 2) hsh (show k < 12 by omega) (by decide)
          rw [show s 50 0 (72 * sh + 6 * k + 2) = nI (sCh S k) from hXs k 2 k1 (by decide), ← hl] at p2
          refine And.intro (fun y => absurd (hrv.symm.trans y) (by decide)) (fun _ => ?_)
          refine am_vO am_k190 am_h190 rfl rfl rfl rfl (hby) ?_
          refine am_vc_ok am_k190 [186] 100 ?_
          refine am_vO am_k190 am_h190 rfl rfl rfl rfl (p2) ?_
          refine am_vc_ok am_k190 [186] 100 ?_
          refine And.intro (fun y => ?_) (fun y => ?_)
          · have y : ut G N (p + 1) < sCh S k := (nI_ltI (by omega) (by omega)).mp y
            refine go3 ?_
            rw [hkk]
            rintro (y | ⟨-, k3, e3, y3⟩)
            · omega
            · cases e3; omega
          · have y : ¬ ut G N (p + 1) < sCh S k := fun q => y (nI_lt q (by omega))
            exact am_vI am_k190 am_r190 rfl (bd1 (Or.inr ⟨q, k, hkk, by omega⟩) s hf)
      refine am_vc_ok am_k190 [152] 100 ?_
      refine am_vO am_k190 am_h190 rfl rfl rfl rfl (m_itO hsh hS e49 hXs hv ha) ?_
      refine am_vc_ok am_k190 [152] 100 ?_
      cases hi : itO S v (hd0 % 16) with
      | none =>
        have hkn : ko = none := by rw [← hk0]; unfold lkO; rw [hi]
        refine And.intro (fun _ => ?_) (fun q => absurd (by decide) q)
        exact go2 _ 0 (by rw [if_pos hkn]) (fun q hq => by rw [hkn] at hq; cases hq)
      | some k =>
        have hk1 := (itO_s hi).1
        have b2 := (hS.2.1 k hk1).2.1
        have p1 := m_part (l := l) (τ := τ) (t := t) (σ := s) (w := 1) hsh (show k < 12 by omega) (by decide)
        rw [show s 50 0 (72 * sh + 6 * k + 1) = nI (sSo S k) from hXs k 1 hk1 (by decide)] at p1
        refine And.intro (fun q => absurd q (nI_pos (by omega))) (fun _ => ?_)
        refine am_vO am_k190 am_h190 rfl rfl rfl rfl (p1) ?_
        refine am_vc_ok am_k190 [152] 100 ?_
        refine And.intro (fun q => ?_) (fun q => ?_)
        · have q : sSo S k = hd0 / 16 := nI_inj' (by omega) (by omega) q
          have hkn : ko = some k := by rw [← hk0]; unfold lkO; rw [hi]; exact if_pos q
          exact go2 _ 1 (by rw [if_neg (by rw [hkn]; simp)]) (fun q hq => by rw [hkn] at hq; cases hq; rfl)
        · have q : ¬ sSo S k = hd0 / 16 := fun y => q (by rw [y])
          have hkn : ko = none := by rw [← hk0]; unfold lkO; rw [hi]; exact if_neg q
          exact go2 _ 0 (by rw [if_pos hkn]) (fun q hq => by rw [hkn] at hq; cases hq)
    refine And.intro (fun q => ?_) (fun q => ?_)
    rotate_left
    · have q : ¬ hd0 / 16 = 2 := fun y => q (by rw [y]; rfl)
      exact go (fun y => q y.1)
    have q : hd0 / 16 = 2 := nI_inj' (by omega) (by decide) (show nI (hd0 / 16) = nI 2 from q)
    refine am_vO am_k190 am_h190 rfl rfl rfl rfl (hby) ?_
    refine am_vc_ok am_k190 [119] 100 ?_
    refine And.intro (fun u => ?_) (fun u => ?_)
    · have u : ut G N (p + 1) ≤ 9 := (nI_leI (b := 9) (by omega) (by decide)).mp u
      exact go (fun y => by omega)
    · have u : ¬ ut G N (p + 1) ≤ 9 := fun y => u (nI_le (b := 9) y (by decide))
      exact am_vI am_k190 am_r190 rfl (bd1 (Or.inl ⟨q, by omega⟩) s hf)
theorem m_goThrough {sh v : Nat} {S : aSh} (hsh : sh < 4) (hv : v < 10) (hS : ShOK S) (h49 : σ 49 0 sh = nI (sN S)) (hX : MItems σ sh S) (h : M0 σ x N G) (hB : ∀ j, j < N → isB (G j)) : am_T l 190 [aR 12 0, aI (nI sh), aI (nI v), aI (nI x)] σ τ t (fun w s τ2 t2 => τ2 = τ ∧ t2 = t ∧ mgQ σ (rdA S v G N st0 0) w s) := by
  have hx := h.2.2.1
  have e47 : u3 (u3 (u3 σ 12 0 19 0) 12 0 20 0) 12 0 21 0 47 0 x = nI N := by rw [u3_k _ _ (by decide), u3_k _ _ (by decide), u3_k _ _ (by decide)]; exact h.1
  refine am_T_of am_o190 am_l190 rfl ?_
  refine am_vc_ok am_k190 [26] 100 ?_
  refine And.intro (vp_in_nI (N := 6) hx (by decide)) ?_
  rw [nI_clamp (n := x) (by omega), e47]
  refine am_Gp (ls2 := [(4, aI (nI 0)), (5, aI (nI N)), (0, aR 12 0), (1, aI (nI sh)), (2, aI (nI v)), (3, aI (nI x))]) [1, 0, 2, 3, 4, 5] rfl ?_
  refine m_gt_lp (σ := σ) hsh hv hS h49 hX h hB ?_ (N + 1) 0 st0 _ (by omega) (by omega) (by omega) rfl st0_in (((rmF.refl.w (by decide)).w (by decide)).w (by decide)) ⟨by rw [u3_j _ _ (by decide), u3_j _ _ (by decide), u3_eq]; rfl, by rw [u3_j _ _ (by decide), u3_eq]; rfl, (fun a _ hb => by
    rw [show rRd st0 = 0 from rfl, bb_0] at hb
    cases hb), by rw [u3_eq]; rfl, fun j hj => absurd hj (Nat.not_lt_zero j)⟩
  intro w s hs
  exact ⟨_, rfl, rfl, rfl, rfl, rfl, hs⟩
end L70

/-! the model's read -/
section L71
variable {l : Launch} {σ σ2 : tI} {τ τ2 : tL} {t : Option (Nat × Nat)} {x N p : Nat} {G : Nat → Int32}
theorem rM.ou {s : tI} {st : rS} {o : wO} {v : Int32} (h : rM s st) : rM (wou s o v) st := by
  obtain ⟨h1, h2, h3, h4, h5⟩ := h
  refine ⟨by rw [wou, u3_j _ _ (by decide), u3_k _ _ (by decide)]; exact h1, by rw [wou, u3_j _ _ (by decide), u3_k _ _ (by decide)]; exact h2, fun a ha hb => by rw [wou, u3_k _ _ (by decide), u3_k _ _ (by decide)]; exact h3 a ha hb, by rw [wou, u3_j _ _ (by decide), u3_k _ _ (by decide)]; exact h4, fun j hj => by rw [wou, u3_k _ _ (by decide), u3_k _ _ (by decide)]; exact h5 j hj⟩
theorem rmF.ou {s : tI} {o : wO} {v : Int32} (h : rmF σ s) : rmF σ (wou s o v) := (h.u (by decide)).w (by decide)
theorem m_rv_lp {Q : tQ} {m i sh v rr nm : Nat} {df l5 : Int32} {st : rS} (hm : m ≤ 9) (hum : ut G N p = m) (hpN : p + m < N) (h : M0 σ x N G) (hB : ∀ j, j < N → isB (G j)) {O : wO} (K : ∀ s q, rmF σ s → rM s st → wJ s O → am_G l 191 Q 0 0 302 [(11, aI q), (10, aI (nI p)), (9, aI (nI 2)), (8, aI (nI nm)), (7, aI (nI i)), (6, aI df), (5, aI l5), (0, aR 12 0), (1, aI (nI sh)), (2, aI (nI v)), (3, aI (nI x)), (4, aI (nI rr))] [] s τ (rX t) cX lX) : ∀ (d k : Nat) (o : wO) (s : tI), k + d = m + 1 → 1 ≤ k → o.1 + d ≤ 120 → vlM G N p d k o = O → rmF σ s → rM s st → wJ s o → am_G l 191 Q 0 0 249 [(11, aI (nI k)), (10, aI (nI p)), (9, aI (nI 2)), (8, aI (nI nm)), (7, aI (nI i)), (6, aI df), (5, aI l5), (0, aR 12 0), (1, aI (nI sh)), (2, aI (nI v)), (3, aI (nI x)), (4, aI (nI rr))] [] s τ (rX t) cX lX
  | 0, k, o, s, hk, h1, ho, hO, hf, hM, hJ => by
    have hN := h.2.1
    obtain rfl : k = m + 1 := by omega
    subst hO
    have hby := m_byteAt (l := l) (τ := τ) (t := t) (q := p) (h.rm hf) hB (by omega)
    rw [hum] at hby
    refine am_vc_ok am_k191 [249, 302] 100 ?_
    refine And.intro (fun _ => ?_) (fun z => absurd rfl z)
    refine am_vO am_k191 am_h191 rfl rfl rfl rfl (hby) ?_
    refine am_vc_ok am_k191 [249, 302] 100 ?_
    exact And.intro (fun _ => K s _ hf hM hJ) (fun z => absurd (nI_lt (by omega) (by omega)) z)
  | d + 1, k, o, s, hk, h1, ho, hO, hf, hM, hJ => by
    have hN := h.2.1
    have hby := m_byteAt (l := l) (τ := τ) (t := t) (q := p) (h.rm hf) hB (by omega)
    rw [hum] at hby
    have hby2 := m_byteAt (l := l) (τ := τ) (t := t) (q := p + k) (h.rm hf) hB (by omega)
    rw [← nI_add] at hby2
    have K2 := m_rv_lp hm hum hpN h hB K d (k + 1) (wps o (nI (ut G N (p + k)))) (wou s o (nI (ut G N (p + k)))) (by omega) (by omega) (by show o.1 + 1 + d ≤ 120; omega) hO hf.ou hM.ou hJ.ps
    refine am_vc_ok am_k191 [249, 302] 100 ?_
    refine And.intro (fun _ => ?_) (fun z => absurd rfl z)
    refine am_vO am_k191 am_h191 rfl rfl rfl rfl (hby) ?_
    refine am_vc_ok am_k191 [249, 302] 100 ?_
    refine And.intro (fun z => absurd z (Int32.not_lt.mpr (nI_le (by omega) (by omega)))) (fun _ => ?_)
    refine am_vO am_k191 am_h191 rfl rfl rfl rfl (hby2) ?_
    refine am_vc_ok am_k191 [249, 302] 100 ?_
    refine And.intro (by rw [hJ.1]; exact vp_in_nI (N := 400) (by omega) (by decide)) ?_
    rw [hJ.1, nI_clamp (n := o.1) (by omega)]
    rw [← nI_1 k] at K2
    exact am_Gs (by rw [u3_k (a := 12) (b := 0) (c := 16) _ _ (show 12 ≠ 52 by decide), hJ.1, nI_1]) (am_Gp [0, 1, 2, 3, 4, 5, 6, 7, 8, 9, 10, 11] rfl K2)
theorem m_rdc_lp {Q : tQ} {sh v rr : Nat} {S : aSh} {st : rS} {l5 : Int32} {R : Int32 × wO} (hsh : sh < 4) (hv : v < 10) (hS : ShOK S) (h49 : σ 49 0 sh = nI (sN S)) (hX : MItems σ sh S) (h : M0 σ x N G) (hB : ∀ j, j < N → isB (G j)) (hin : rIn S v G N st N) (K : ∀ s q, rmF σ s → rM s st → wJ s R.2 → R.2.1 ≤ 120 → am_G l 191 Q 0 0 308 [(7, aI q), (6, aI R.1), (5, aI l5), (0, aR 12 0), (1, aI (nI sh)), (2, aI (nI v)), (3, aI (nI x)), (4, aI (nI rr))] [] s τ (rX t) cX lX) : ∀ (d i : Nat) (df : Int32) (o : wO) (s : tI), i + d = sN S → o.1 ≤ 10 * i → dcP S v G N st d i df o = R → rmF σ s → rM s st → wJ s o → am_G l 191 Q 0 0 85 [(7, aI (nI i)), (6, aI df), (5, aI l5), (0, aR 12 0), (1, aI (nI sh)), (2, aI (nI v)), (3, aI (nI x)), (4, aI (nI rr))] [] s τ (rX t) cX lX
  | 0, i, df, o, s, hi, ho, hR, hf, hM, hJ => by
    have s12 := hS.1
    have e49 : s 49 0 sh = nI (sN S) := by rw [hf.1 49 (by decide) (by decide) (by decide) (by decide)]; exact h49
    obtain rfl : i = sN S := by omega
    subst hR
    refine am_vc_ok am_k191 [85, 308] 100 ?_
    refine And.intro (vp_in_nI (N := 4) hsh (by decide)) ?_
    rw [nI_clamp (n := sh) (by omega), e49]
    exact And.intro (fun _ => K s _ hf hM hJ (by show o.1 ≤ 120; omega)) (fun z => absurd (nI_le (Nat.le_refl _) (by omega)) z)
  | d + 1, i, df, o, s, hi, ho, hR, hf, hM, hJ => by
    have s12 := hS.1
    have hN := h.2.1
    have e49 : s 49 0 sh = nI (sN S) := by rw [hf.1 49 (by decide) (by decide) (by decide) (by decide)]; exact h49
    have hXs : MItems s sh S := by
      unfold MItems
      rw [hf.1 50 (by decide) (by decide) (by decide) (by decide)]
      exact hX
    have hi2 : i < sN S := by omega
    obtain ⟨b1, b2, b3, b4, b5, b6, b7⟩ := hS.2.1 i hi2
    have x4 : s 50 0 (72 * sh + 6 * i + 3) = nI (sSi S i) := hXs i 3 hi2 (by decide)
    have x5 : s 50 0 (72 * sh + 6 * i + 4) = nI (sTi S i) := hXs i 4 hi2 (by decide)
    have hiff : (s 50 0 (72 * sh + 6 * i + 3) ≤ nI v ∧ nI v ≤ s 50 0 (72 * sh + 6 * i + 4)) ↔ (sSi S i ≤ v ∧ v ≤ sTi S i) := by
      rw [x4, x5, nI_leI (by omega) (by omega), nI_leI (by omega) (by omega)]
    have p0 := m_part (l := l) (τ := τ) (t := t) (σ := s) (w := 0) hsh (show i < 12 by omega) (by decide)
    have p1 := m_part (l := l) (τ := τ) (t := t) (σ := s) (w := 1) hsh (show i < 12 by omega) (by decide)
    have p5 := m_part (l := l) (τ := τ) (t := t) (σ := s) (w := 5) hsh (show i < 12 by omega) (by decide)
    rw [show s 50 0 (72 * sh + 6 * i + 0) = nI (sNm S i) from hXs i 0 hi2 (by decide)] at p0
    rw [show s 50 0 (72 * sh + 6 * i + 1) = nI (sSo S i) from hXs i 1 hi2 (by decide)] at p1
    rw [show s 50 0 (72 * sh + 6 * i + 5) = pI (sPr S i) from hXs i 5 hi2 (by decide)] at p5
    have fin := fun df o s => m_rdc_lp (l5 := l5) hsh hv hS h49 hX h hB hin K d (i + 1) df o s (by omega)
    unfold dcP at hR
    refine am_vc_ok am_k191 [85, 249, 235, 302, 308] 100 ?_
    refine And.intro (vp_in_nI (N := 4) hsh (by decide)) ?_
    rw [nI_clamp (n := sh) (by omega), e49]
    refine And.intro (fun z => absurd z (nI_ge hi2 (by omega))) (fun _ => ?_)
    refine am_vO am_k191 am_h191 rfl rfl rfl rfl (m_isOf hsh (show i < 12 by omega)) ?_
    refine am_vc_ok am_k191 [85, 249, 235, 302, 308] 100 ?_
    refine And.intro (fun z => ?_) (fun z => ?_)
    · have z : ¬ (sSi S i ≤ v ∧ v ≤ sTi S i) := fun y => bI_0.mp z (hiff.mpr y)
      rw [if_neg z] at hR
      have K2 := fin df o s (by omega) hR hf hM hJ
      rw [← nI_1 i] at K2
      refine am_vc_ok am_k191 [85] 100 ?_
      exact K2
    have z := hiff.mp (bI_1.mp z)
    rw [if_pos z] at hR
    refine am_vO am_k191 am_h191 rfl rfl rfl rfl (p0) ?_
    refine am_vc_ok am_k191 [85, 249, 235, 302, 308] 100 ?_
    refine am_vO am_k191 am_h191 rfl rfl rfl rfl (p1) ?_
    refine am_vc_ok am_k191 [85, 249, 235, 302, 308] 100 ?_
    have hbm : (((s 12 0 19) >>> (nI (sNm S i) &&& 31)) &&& 1 = 1) ↔ bb (rRd st) (sNm S i) = true := by
      rw [hM.1]
      exact bb_m b1
    refine am_vS am_k191 am_h191 rfl rfl rfl rfl (m_has) ?_
    refine am_vc_ok am_k191 [85, 249, 235, 302, 308] 100 ?_
    refine And.intro (fun y => ?_) (fun y => ?_)
    · have y : ¬ bb (rRd st) (sNm S i) = true := fun q => bI_0.mp y (hbm.mpr q)
      rw [if_neg y] at hR
      refine am_vO am_k191 am_h191 rfl rfl rfl rfl (p5) ?_
      refine am_vc_ok am_k191 [85, 249, 235, 302, 308] 100 ?_
      refine And.intro (by rw [hJ.1]; exact vp_in_nI (N := 400) (by omega) (by decide)) ?_
      rw [hJ.1, nI_clamp (n := o.1) (by omega)]
      have K2 := fin (df ||| bt (sNm S i)) (wps o (pI (sPr S i))) (wou s o (pI (sPr S i))) (by show o.1 + 1 ≤ _; omega) hR hf.ou hM.ou hJ.ps
      rw [← nI_1 i] at K2
      refine am_Gs (σ2 := wou s o (pI (sPr S i))) (by rw [u3_k (a := 12) (b := 0) (c := 16) _ _ (show 12 ≠ 52 by decide), hJ.1, nI_1]) ?_
      refine am_vc_ok am_k191 [85] 100 ?_
      exact am_Gp [0, 1, 4, 5, 6, 7, 8, 9] rfl K2
    have y := hbm.mp (bI_1.mp y)
    rw [if_pos y] at hR
    obtain ⟨g1, g2, g3⟩ := hin.it hS hi2 z y
    have e53 : s 53 0 (sNm S i) = nI (rVp st (sNm S i)) := hM.2.2.1 (sNm S i) b1 y
    generalize hp0 : rVp st (sNm S i) = pp at *
    have hMs := h.rm hf
    have hby := m_byteAt (l := l) (τ := τ) (t := t) (q := pp) hMs hB g1
    have hl := vlF_len (o := o) (p := pp) (G := G) (N := N) (so := sSo S i) (fun q => (g3 q).1)
    have go : ∀ val : Int32, val = nI (if sSo S i = 1 then 256 * ut G N pp + ut G N (pp + 1) else ut G N pp) → am_G l 191 Q 0 0 235 [(10, aI (nI pp)), (9, aI (nI (sSo S i))), (8, aI (nI (sNm S i))), (7, aI (nI i)), (6, aI df), (5, aI l5), (0, aR 12 0), (1, aI (nI sh)), (2, aI (nI v)), (3, aI (nI x)), (4, aI (nI rr))] [aI val, aI (s 12 0 16), aR 52 0] s τ (rX t) cX lX := by
      rintro _ rfl
      generalize hval : nI (if sSo S i = 1 then 256 * ut G N pp + ut G N (pp + 1) else ut G N pp) = val
      have done : ∀ s2 q c, rmF σ s2 → rM s2 st → wJ s2 (vlF G N (sSo S i) pp o) → am_G l 191 Q 0 0 302 [(11, aI q), (10, aI (nI pp)), (9, aI c), (8, aI (nI (sNm S i))), (7, aI (nI i)), (6, aI df), (5, aI l5), (0, aR 12 0), (1, aI (nI sh)), (2, aI (nI v)), (3, aI (nI x)), (4, aI (nI rr))] [] s2 τ (rX t) cX lX := by
        intro s2 q c hf2 hM2 hJ2
        have K2 := fin df (vlF G N (sSo S i) pp o) s2 (by omega) hR hf2 hM2 hJ2
        rw [← nI_1 i] at K2
        refine am_vc_ok am_k191 [85] 100 ?_
        exact am_Gp [0, 5, 6, 7, 8, 9, 10, 11] rfl K2
      refine am_vc_ok am_k191 [249] 100 ?_
      refine And.intro (by rw [hJ.1]; exact vp_in_nI (N := 400) (by omega) (by decide)) ?_
      rw [hJ.1, nI_clamp (n := o.1) (by omega)]
      refine am_Gs (σ2 := wou s o val) (by rw [u3_k (a := 12) (b := 0) (c := 16) _ _ (show 12 ≠ 52 by decide), hJ.1, nI_1]) ?_
      refine am_Gp (ls2 := [(11, aI (nI 1)), (10, aI (nI pp)), (9, aI (nI (sSo S i))), (8, aI (nI (sNm S i))), (7, aI (nI i)), (6, aI df), (5, aI l5), (0, aR 12 0), (1, aI (nI sh)), (2, aI (nI v)), (3, aI (nI x)), (4, aI (nI rr))]) [0, 1, 2, 3, 4, 5, 6, 7, 8, 9, 10, 11] rfl ?_
      by_cases h2 : sSo S i = 2
      · obtain ⟨g4, g5⟩ := g3 h2
        rw [h2]
        refine m_rv_lp (σ := σ) g4 rfl g5 h hB (fun s2 q hf2 hM2 hJ2 => ?_) (ut G N pp) 1 (wps o val) (wou s o val) (by omega) (by omega) (by show o.1 + 1 + ut G N pp ≤ 120; omega) rfl hf.ou hM.ou hJ.ps
        refine done s2 q _ hf2 hM2 ?_
        unfold vlF
        rw [if_pos h2, hval]
        exact hJ2
      · have hd := done (wou s o val) (nI 1) (nI (sSo S i)) hf.ou hM.ou (by
          unfold vlF
          rw [if_neg h2, hval]
          exact hJ.ps)
        refine am_vc_ok am_k191 [302] 100 ?_
        refine And.intro (fun q => absurd (nI_inj' (by omega) (by decide) (show nI (sSo S i) = nI 2 from q)) h2) (fun _ => ?_)
        exact hd
    refine And.intro (vp_in_nI (N := 16) b1 (by decide)) ?_
    rw [nI_clamp (n := sNm S i) (by omega), e53]
    refine And.intro (fun q => ?_) (fun q => ?_)
    · have q : sSo S i = 1 := nI_inj' (by omega) (by decide) (show nI (sSo S i) = nI 1 from q)
      have hby2 := m_byteAt (l := l) (τ := τ) (t := t) (q := pp + 1) hMs hB (g2 q)
      rw [← nI_1 pp] at hby2
      refine am_vO am_k191 am_h191 rfl rfl rfl rfl (hby) ?_
      refine am_vc_ok am_k191 [85, 249, 235, 302, 308] 100 ?_
      refine am_vO am_k191 am_h191 rfl rfl rfl rfl (hby2) ?_
      refine am_vc_ok am_k191 [85, 249, 235, 302, 308] 100 ?_
      refine go _ ?_
      rw [if_pos q, show (256 : Int32) = nI 256 from rfl, pk_mul, nI_add]
    · have q : ¬ sSo S i = 1 := fun y => q (by rw [y]; rfl)
      refine am_vO am_k191 am_h191 rfl rfl rfl rfl (hby) ?_
      exact go _ (by rw [if_neg q])
end L71

/-! the model's read -/
section L72
variable {l : Launch} {σ σ2 : tI} {τ τ2 : tL} {t : Option (Nat × Nat)} {x N p : Nat} {G : Nat → Int32}
theorem m_rc1 {Q : tQ} {rr n : Nat} {a b c d e : Int32} (hr : rr < 6) (hn : n ≤ 60) (h16 : σ 12 0 16 = nI n) (K : am_G l 191 Q 0 0 372 [(7, aI (nI n)), (6, aI a), (5, aI b), (0, aR 12 0), (1, aI c), (2, aI d), (3, aI e), (4, aI (nI rr))] [] (cp3 σ 45 0 52 0 0 (60 * rr) n) τ (rX t) cX lX) : ∀ (f k : Nat), k + f = n → am_G l 191 Q 0 0 337 [(7, aI (nI k)), (6, aI a), (5, aI b), (0, aR 12 0), (1, aI c), (2, aI d), (3, aI e), (4, aI (nI rr))] [] (cp3 σ 45 0 52 0 0 (60 * rr) k) τ (rX t) cX lX
  | 0, k, h => by
    obtain rfl : k = n := by omega
    have e16 : cp3 σ 45 0 52 0 0 (60 * rr) k 12 0 16 = nI k := by rw [cp3_kk (by decide)]; exact h16
    refine am_vc_ok am_k191 [337, 372] 100 ?_
    refine And.intro (fun _ => K) (fun h1 => absurd (by rw [e16]; exact nI_le (Nat.le_refl _) (by omega)) h1)
  | f + 1, k, h => by
    have K2 := m_rc1 hr hn h16 K f (k + 1) (by omega)
    have e16 : cp3 σ 45 0 52 0 0 (60 * rr) k 12 0 16 = nI n := by rw [cp3_kk (by decide)]; exact h16
    have e1 := cp3_1 (σ := σ) (k1 := 45) (o1 := 0) (k0 := 52) (o0 := 0) (sp := 0) (dp := 60 * rr) (n := k)
    rw [Nat.zero_add] at e1
    have e2 : cp3 σ 45 0 52 0 0 (60 * rr) k 52 0 k = σ 52 0 k := by rw [cp3_kk (by decide)]
    refine am_vc_ok am_k191 [337, 372] 100 ?_
    refine And.intro (fun h1 => absurd h1 (by rw [e16]; exact nI_ge (by omega) (by omega))) (fun _ => ?_)
    refine And.intro (vp_in_nI (N := 400) (by omega) (by decide)) ?_
    rw [nI_clamp (n := k) (by omega), e2]
    refine And.intro (by rw [i60]; exact vp_in_nI (N := 360) (by omega) (by decide)) ?_
    rw [i60, nI_clamp (n := 60 * rr + k) (by omega), e1]
    rw [← nI_1 k] at K2
    exact K2
theorem m_rc2 {Q : tQ} {n : Nat} {a b c d e r : Int32} (hn : n ≤ 60) (h21 : σ 12 0 21 = nI n) (hQ : Q (some (aI (-9))) (cp3 σ 56 0 54 0 0 0 n) τ (rX t) cX lX) : ∀ (f k : Nat), k + f = n → am_G l 191 Q 0 0 411 [(7, aI (nI k)), (6, aI a), (5, aI b), (0, aR 12 0), (1, aI c), (2, aI d), (3, aI e), (4, aI r)] [] (cp3 σ 56 0 54 0 0 0 k) τ (rX t) cX lX
  | 0, k, h => by
    obtain rfl : k = n := by omega
    have e16 : cp3 σ 56 0 54 0 0 0 k 12 0 21 = nI k := by rw [cp3_kk (by decide)]; exact h21
    refine am_vc_ok am_k191 [411] 100 ?_
    refine And.intro (fun _ => ?_) (fun h1 => absurd (by rw [e16]; exact nI_le (Nat.le_refl _) (by omega)) h1)
    exact am_vI am_k191 am_r191 rfl hQ
  | f + 1, k, h => by
    have K2 := m_rc2 (a := a) (b := b) (c := c) (d := d) (e := e) (r := r) hn h21 hQ f (k + 1) (by omega)
    have e16 : cp3 σ 56 0 54 0 0 0 k 12 0 21 = nI n := by rw [cp3_kk (by decide)]; exact h21
    have e1 := cp3_1 (σ := σ) (k1 := 56) (o1 := 0) (k0 := 54) (o0 := 0) (sp := 0) (dp := 0) (n := k)
    rw [Nat.zero_add] at e1
    have e2 : cp3 σ 56 0 54 0 0 0 k 54 0 k = σ 54 0 k := by rw [cp3_kk (by decide)]
    refine am_vc_ok am_k191 [411] 100 ?_
    refine And.intro (fun h1 => absurd h1 (by rw [e16]; exact nI_ge (by omega) (by omega))) (fun _ => ?_)
    refine And.intro (vp_in_nI (N := 60) (by omega) (by decide)) ?_
    rw [nI_clamp (n := k) (by omega), e2]
    refine And.intro (vp_in_nI (N := 60) (by omega) (by decide)) ?_
    rw [nI_clamp (n := k) (by omega), e1]
    rw [← nI_1 k] at K2
    exact K2
/-- the end of a good read -/
abbrev rdE (s : tI) (st : rS) (D : Int32 × wO) (rr : Nat) : tI := cp3 (u3 (u3 (u3 (u3 (cp3 (mfill (u3 s 44 0 rr (nI D.2.1)) 45 (60 * rr) 60 0) 45 0 52 0 0 (60 * rr) D.2.1) 55 0 0 (rRd st)) 55 0 1 (rKp st)) 55 0 2 D.1) 12 0 24 (nI (rUn st).1)) 56 0 54 0 0 0 (rUn st).1
/-- what read leaves in the model -/
def rmQ (σ : tI) (S : aSh) (v : Nat) (G : Nat → Int32) (N rr : Nat) (R : Nat ⊕ rS) (w : Option am_V) (s : tI) : Prop := match R with
  | .inl q => w = some (aI (nI q)) ∧ rmF σ s
  | .inr st => if (dcP S v G N st (sN S) 0 0 o0).2.1 ≤ 60 then w = some (aI (-9)) ∧ ∃ s1, rmF σ s1 ∧ rM s1 st ∧ wJ s1 (dcP S v G N st (sN S) 0 0 o0).2 ∧ s = rdE s1 st (dcP S v G N st (sN S) 0 0 o0) rr else w = some (aI (-3)) ∧ ∃ s1, rmF σ s1 ∧ s = mmeets 2 s1
theorem m_readB {a b c d : Int32} (h : ¬ ((0 ≤ a ∧ a ≤ 3) ∧ (0 ≤ b ∧ b ≤ 9) ∧ (0 ≤ c ∧ c ≤ 5) ∧ (0 ≤ d ∧ d ≤ 5))) : am_D l 191 [aR 12 0, aI a, aI b, aI c, aI d] σ τ (rX t) cX lX (some (aI (-1))) σ τ (rX t) := by
  refine am_D_of am_o191 am_l191 rfl ?_
  refine am_vc_ok am_k191 [] 100 ?_
  refine am_vS am_k191 am_h191 rfl rfl rfl rfl (m_isShape) ?_
  refine am_vc_ok am_k191 [] 100 ?_
  refine And.intro (fun h1 => ?_) (fun h1 => ?_)
  · exact am_vI am_k191 am_r191 rfl ⟨rfl, rfl, rfl, rfl, rfl, rfl⟩
  refine am_vS am_k191 am_h191 rfl rfl rfl rfl (m_isVersion) ?_
  refine am_vc_ok am_k191 [] 100 ?_
  refine And.intro (fun h2 => ?_) (fun h2 => ?_)
  · exact am_vI am_k191 am_r191 rfl ⟨rfl, rfl, rfl, rfl, rfl, rfl⟩
  refine am_vS am_k191 am_h191 rfl rfl rfl rfl (m_isSix) ?_
  refine am_vc_ok am_k191 [] 100 ?_
  refine And.intro (fun h3 => ?_) (fun h3 => ?_)
  · exact am_vI am_k191 am_r191 rfl ⟨rfl, rfl, rfl, rfl, rfl, rfl⟩
  refine am_vS am_k191 am_h191 rfl rfl rfl rfl (m_isSix) ?_
  refine am_vc_ok am_k191 [] 100 ?_
  refine And.intro (fun h4 => ?_) (fun h4 => ?_)
  · exact am_vI am_k191 am_r191 rfl ⟨rfl, rfl, rfl, rfl, rfl, rfl⟩
  · exact absurd ⟨bI_1.mp h1, bI_1.mp h2, bI_1.mp h4, bI_1.mp h3⟩ h
theorem m_read_no {s v rr : Nat} (hs : s < 4) (hv : v < 10) (hx : x < 6) (hr : rr < 6) (h0 : σ 49 0 s < 0 ∨ σ 47 0 x < 0) : am_D l 191 [aR 12 0, aI (nI s), aI (nI v), aI (nI x), aI (nI rr)] σ τ (rX t) cX lX (some (aI (-3))) (mmeets 1 σ) τ (rX t) := by
  refine am_D_of am_o191 am_l191 rfl ?_
  refine am_vc_ok am_k191 [] 100 ?_
  refine am_vS am_k191 am_h191 rfl rfl rfl rfl (m_isShape) ?_
  refine am_vc_ok am_k191 [] 100 ?_
  refine And.intro (fun g => absurd (in3 hs) (bI_0.mp g)) (fun _ => ?_)
  refine am_vS am_k191 am_h191 rfl rfl rfl rfl (m_isVersion) ?_
  refine am_vc_ok am_k191 [] 100 ?_
  refine And.intro (fun g => absurd (in9 hv) (bI_0.mp g)) (fun _ => ?_)
  refine am_vS am_k191 am_h191 rfl rfl rfl rfl (m_isSix) ?_
  refine am_vc_ok am_k191 [] 100 ?_
  refine And.intro (fun g => absurd (in5 hr) (bI_0.mp g)) (fun _ => ?_)
  refine am_vS am_k191 am_h191 rfl rfl rfl rfl (m_isSix) ?_
  refine am_vc_ok am_k191 [] 100 ?_
  refine And.intro (fun g => absurd (in5 hx) (bI_0.mp g)) (fun _ => ?_)
  refine And.intro (vp_in_nI (N := 4) hs (by decide)) ?_
  rw [nI_clamp (n := s) (by omega)]
  refine And.intro (fun z => ?_) (fun z => ?_)
  · refine am_vO am_k191 am_h191 rfl rfl rfl rfl (m_meets (w := 1) (by decide)) ?_
    refine am_vc_ok am_k191 [] 100 ?_
    exact am_vI am_k191 am_r191 rfl ⟨rfl, rfl, rfl, rfl, rfl, rfl⟩
  · refine And.intro (vp_in_nI (N := 6) hx (by decide)) ?_
    rw [nI_clamp (n := x) (by omega)]
    refine And.intro (fun y => absurd (h0.resolve_left z) (Int32.not_lt.mpr y)) (fun y => ?_)
    refine am_vO am_k191 am_h191 rfl rfl rfl rfl (m_meets (w := 1) (by decide)) ?_
    refine am_vc_ok am_k191 [] 100 ?_
    exact am_vI am_k191 am_r191 rfl ⟨rfl, rfl, rfl, rfl, rfl, rfl⟩
theorem m_read {s v rr : Nat} {S : aSh} (hs : s < 4) (hv : v < 10) (hr : rr < 6) (hS : ShOK S) (h49 : σ 49 0 s = nI (sN S)) (hX : MItems σ s S) (h : M0 σ x N G) (hB : ∀ j, j < N → isB (G j)) : am_T l 191 [aR 12 0, aI (nI s), aI (nI v), aI (nI x), aI (nI rr)] σ τ t (fun w s2 τ2 t2 => τ2 = τ ∧ t2 = t ∧ rmQ σ S v G N rr (rdA S v G N st0 0) w s2) := by
  have s12 := hS.1
  have hN := h.2.1
  have hx := h.2.2.1
  have h0 : ¬ σ 49 0 s < 0 := by rw [h49]; exact nI_pos (by omega)
  have h01 : ¬ σ 47 0 x < 0 := by rw [h.1]; exact nI_pos (by omega)
  refine am_T_of am_o191 am_l191 rfl ?_
  refine am_vc_ok am_k191 [85] 100 ?_
  refine am_vS am_k191 am_h191 rfl rfl rfl rfl (m_isShape) ?_
  refine am_vc_ok am_k191 [85] 100 ?_
  refine And.intro (fun g => absurd (in3 hs) (bI_0.mp g)) (fun _ => ?_)
  refine am_vS am_k191 am_h191 rfl rfl rfl rfl (m_isVersion) ?_
  refine am_vc_ok am_k191 [85] 100 ?_
  refine And.intro (fun g => absurd (in9 hv) (bI_0.mp g)) (fun _ => ?_)
  refine am_vS am_k191 am_h191 rfl rfl rfl rfl (m_isSix) ?_
  refine am_vc_ok am_k191 [85] 100 ?_
  refine And.intro (fun g => absurd (in5 hr) (bI_0.mp g)) (fun _ => ?_)
  refine am_vS am_k191 am_h191 rfl rfl rfl rfl (m_isSix) ?_
  refine am_vc_ok am_k191 [85] 100 ?_
  refine And.intro (fun g => absurd (in5 hx) (bI_0.mp g)) (fun _ => ?_)
  refine And.intro (vp_in_nI (N := 4) hs (by decide)) ?_
  rw [nI_clamp (n := s) (by omega)]
  refine And.intro (fun y => absurd y h0) (fun _ => ?_)
  refine And.intro (vp_in_nI (N := 6) hx (by decide)) ?_
  rw [nI_clamp (n := x) (by omega)]
  refine And.intro (fun _ => ?_) (fun y => absurd (Int32.not_lt.mp h01) y)
  refine am_vOT am_k191 am_h191 rfl rfl rfl rfl (m_goThrough hs hv hS h49 hX h hB) ?_
  rintro w s1 τ2 t2 ⟨rfl, rfl, hf, hQ⟩
  cases e : rdA S v G N st0 0 with
  | inl q =>
    rw [e] at hQ
    have hQ : w = some (aI (nI q)) := hQ
    subst hQ
    have hq : q ≤ N := rdP_f _ _ _ _ e
    refine am_vc_ok am_k191 [85] 100 ?_
    refine And.intro (fun y => absurd y (n9_4 (by omega))) (fun _ => ?_)
    exact am_vI am_k191 am_r191 rfl ⟨_, rfl, rfl, rfl, rfl, rfl, rfl, hf⟩
  | inr st =>
    rw [e] at hQ
    obtain ⟨rfl, hC⟩ := hQ
    have hin : rIn S v G N st N := rdP_in hB (N + 1) 0 st0 st (by omega) (by omega) st0_in e
    refine am_vc_ok am_k191 [85] 100 ?_
    refine And.intro (fun _ => ?_) (fun y => absurd rfl y)
    refine am_Gp (ls2 := [(7, aI (nI 0)), (6, aI 0), (5, aI (-9)), (0, aR 12 0), (1, aI (nI s)), (2, aI (nI v)), (3, aI (nI x)), (4, aI (nI rr))]) [0, 1, 2, 3, 4, 5, 6, 7] rfl ?_
    have hM1 : rM (u3 s1 12 0 16 0) st := by
      obtain ⟨h1, h2, h3, h4, h5⟩ := hC
      exact ⟨by rw [u3_j _ _ (by decide)]; exact h1, by rw [u3_j _ _ (by decide)]; exact h2, fun a ha hb => by rw [u3_k _ _ (by decide)]; exact h3 a ha hb, by rw [u3_j _ _ (by decide)]; exact h4, fun j hj => by rw [u3_k _ _ (by decide)]; exact h5 j hj⟩
    refine m_rdc_lp (σ := σ) hs hv hS h49 hX h hB hin ?_ (sN S) 0 0 o0 _ (by omega) (by decide) rfl (hf.w (by decide)) hM1 ⟨u3_eq _ _ _ _ _, fun j hj => absurd hj (Nat.not_lt_zero j)⟩
    intro s2 q hf2 hM2 hJ2 ho2
    generalize hD : dcP S v G N st (sN S) 0 0 o0 = D at *
    refine am_vc_ok am_k191 [337] 100 ?_
    refine And.intro (fun y => ?_) (fun y => ?_)
    · have y : s2 12 0 16 ≤ 60 := y
      rw [hJ2.1, show (60 : Int32) = nI 60 from rfl, nI_leI (by omega) (by decide)] at y
      have hu : (rUn st).1 ≤ 60 := Nat.le_trans hin.2.1 hN
      have hrow := m_row (l := l) (σ := s2) (τ := τ2) (t := t2) hr y
      rw [← hJ2.1] at hrow
      refine am_vO am_k191 am_h191 rfl rfl rfl rfl (hrow) ?_
      refine am_vc_ok am_k191 [337] 100 ?_
      rw [hJ2.1]
      generalize hs3 : mfill (u3 s2 44 0 rr (nI D.2.1)) 45 (60 * rr) 60 0 = s3
      have e3 : ∀ q, q ≠ 44 → q ≠ 45 → s3 q = s2 q := fun q a1 a2 => by
        rw [← hs3]
        funext b c
        simp [mfill, u3, a1, a2]
      have f16 : s3 12 0 16 = nI D.2.1 := by rw [e3 12 (by decide) (by decide)]; exact hJ2.1
      refine am_Gs (σ2 := cp3 s3 45 0 52 0 0 (60 * rr) 0) cp3_0.symm ?_
      refine am_Gp (ls2 := [(7, aI (nI 0)), (6, aI D.1), (5, aI (-9)), (0, aR 12 0), (1, aI (nI s)), (2, aI (nI v)), (3, aI (nI x)), (4, aI (nI rr))]) [0, 1, 2, 3, 4, 5, 6, 7] rfl ?_
      refine m_rc1 hr y f16 ?_ D.2.1 0 (by omega)
      generalize hs4 : cp3 s3 45 0 52 0 0 (60 * rr) D.2.1 = s4
      have e4 : ∀ q, q ≠ 44 → q ≠ 45 → s4 q = s2 q := fun q a1 a2 => by rw [← hs4, cp3_kk a2]; exact e3 q a1 a2
      have g19 : s4 12 0 19 = rRd st := by rw [e4 12 (by decide) (by decide)]; exact hM2.1
      have g20 : s4 12 0 20 = rKp st := by rw [e4 12 (by decide) (by decide)]; exact hM2.2.1
      have g21 : s4 12 0 21 = nI (rUn st).1 := by rw [e4 12 (by decide) (by decide)]; exact hM2.2.2.2.1
      refine am_vc_ok am_k191 [411] 100 ?_
      refine And.intro (vp_in_nI (N := 3) (show 0 < 3 by decide) (by decide)) ?_
      rw [g19]
      refine And.intro (vp_in_nI (N := 3) (show 1 < 3 by decide) (by decide)) ?_
      rw [u3_k (a := 12) (b := 0) (c := 20) _ _ (by decide), g20]
      refine And.intro (vp_in_nI (N := 3) (show 2 < 3 by decide) (by decide)) ?_
      refine am_Gs (σ2 := cp3 (u3 (u3 (u3 (u3 s4 55 0 0 (rRd st)) 55 0 1 (rKp st)) 55 0 2 D.1) 12 0 24 (nI (rUn st).1)) 56 0 54 0 0 0 0) ?_ ?_
      · rw [cp3_0, u3_k (a := 12) (b := 0) (c := 21) _ _ (by decide), u3_k (a := 12) (b := 0) (c := 21) _ _ (by decide), u3_k (a := 12) (b := 0) (c := 21) _ _ (by decide), g21]
        rfl
      refine am_Gp (ls2 := [(7, aI (nI 0)), (6, aI D.1), (5, aI (-9)), (0, aR 12 0), (1, aI (nI s)), (2, aI (nI v)), (3, aI (nI x)), (4, aI (nI rr))]) [0, 1, 2, 3, 4, 5, 6, 7] rfl ?_
      refine m_rc2 hu (by rw [u3_j _ _ (by decide), u3_k _ _ (by decide), u3_k _ _ (by decide), u3_k _ _ (by decide)]; exact g21) ?_ (rUn st).1 0 (by omega)
      refine ⟨_, rfl, rfl, rfl, rfl, rfl, ?_⟩
      show (if (dcP S v G N st (sN S) 0 0 o0).2.1 ≤ 60 then _ else _)
      rw [hD, if_pos y]
      exact ⟨rfl, s2, hf2, hM2, hJ2, by rw [rdE, hs3, hs4]⟩
    · have y : ¬ s2 12 0 16 ≤ 60 := y
      rw [hJ2.1, show (60 : Int32) = nI 60 from rfl, nI_leI (by omega) (by decide)] at y
      refine am_vO am_k191 am_h191 rfl rfl rfl rfl (m_meets (w := 2) (by decide)) ?_
      refine am_vc_ok am_k191 [411] 100 ?_
      refine am_vI am_k191 am_r191 rfl ⟨_, rfl, rfl, rfl, rfl, rfl, ?_⟩
      show (if (dcP S v G N st (sN S) 0 0 o0).2.1 ≤ 60 then _ else _)
      rw [hD, if_neg y]
      exact ⟨rfl, s2, hf2, rfl⟩
end L72

/-! CASES OF THE LAW: read -/
section L73
variable {l : Launch} {σ σ2 : tI} {τ τ2 : tL} {t : Option (Nat × Nat)} {x N p : Nat} {G : Nat → Int32}
theorem Rall.rdno (h : Rall σ τ) {s1 s3 : tI} (hf : rxF σ s1) (hm : rmF s1 s3) : Rall s3 τ := by
  have g : ∀ q, q ≠ 4 ∧ q ≠ 6 ∧ q ≠ 26 ∧ q ≠ 30 ∧ q ≠ 12 ∧ q ≠ 52 ∧ q ≠ 53 ∧ q ≠ 54 → s3 q = σ q := fun q ⟨a1, a2, a3, a4, a5, a6, a7, a8⟩ => (hm.1 q a5 a6 a7 a8).trans (hf.1 q a1 a2 a3 a4)
  refine h.scr (fun q hq => g q ?_) (fun j hj => ?_) (fun i _ h1 h3 => ?_) (fun i _ h1 h3 => ?_) (fun k s hk => ?_) (fun j hj => ?_)
  · refine ⟨?_, ?_, ?_, ?_, ?_, ?_, ?_, ?_⟩ <;> (rintro rfl; exact absurd hq (by decide))
  · rw [hm.1 4 (by decide) (by decide) (by decide) (by decide)]
    exact hf.2.2 j (by omega)
  · rw [hm.1 6 (by decide) (by decide) (by decide) (by decide)]
    exact hf.2.1 6 i (Or.inl rfl) h1 h3
  · rw [hm.1 30 (by decide) (by decide) (by decide) (by decide)]
    exact hf.2.1 30 i (Or.inr rfl) h1 h3
  · rw [g k (by omega)]
  · rw [hm.2 j (by rintro rfl; exact absurd hj (by decide)) (by rintro rfl; exact absurd hj (by decide)) (by rintro rfl; exact absurd hj (by decide)) (by rintro rfl; exact absurd hj (by decide)), hf.1 12 (by decide) (by decide) (by decide) (by decide)]
theorem Rall.rdfnd (h : Rall σ τ) {s1 s3 : tI} {w w2 : Nat} (hf : rxF σ s1) (hm : rmF (xfind w s1) s3) : Rall (mmeets w2 s3) τ := by
  have g : ∀ q, q ≠ 4 ∧ q ≠ 6 ∧ q ≠ 26 ∧ q ≠ 30 ∧ q ≠ 12 ∧ q ≠ 52 ∧ q ≠ 53 ∧ q ≠ 54 ∧ q ≠ 11 ∧ q ≠ 42 ∧ q ≠ 43 → mmeets w2 s3 q = σ q := fun q ⟨a1, a2, a3, a4, a5, a6, a7, a8, a9, b1, b2⟩ => by
    rw [mmeets, u3_kk _ _ b2, u3_kk _ _ a5, hm.1 q a5 a6 a7 a8, xfind, u3_kk _ _ b1, u3_kk _ _ a9, hf.1 q a1 a2 a3 a4]
  have gi : ∀ q i, (q = 6 ∨ q = 30) → i ≠ 1 → i ≠ 3 → mmeets w2 s3 q i = σ q i := fun q i hq h1 h3 => by
    rw [mmeets, u3_kk _ _ (by omega), u3_kk _ _ (by omega), hm.1 q (by omega) (by omega) (by omega) (by omega), xfind, u3_kk _ _ (by omega), u3_kk _ _ (by omega), hf.2.1 q i hq h1 h3]
  have g4 : ∀ j, j < 7 → mmeets w2 s3 4 0 j = σ 4 0 j := fun j hj => by
    rw [mmeets, u3_k _ _ (by decide), u3_k _ _ (by decide), hm.1 4 (by decide) (by decide) (by decide) (by decide), xfind, u3_k _ _ (by decide), u3_k _ _ (by decide), hf.2.2 j hj]
  have g12 : ∀ j, j ≠ 0 → j ≠ 16 → j ≠ 19 → j ≠ 20 → j ≠ 21 → mmeets w2 s3 12 0 j = σ 12 0 j := fun j h0 a b c d => by
    rw [mmeets, u3_k _ _ (by decide), u3_j _ _ h0, hm.2 j a b c d, xfind, u3_k _ _ (by decide), u3_k _ _ (by decide), hf.1 12 (by decide) (by decide) (by decide) (by decide)]
  have g11 : mmeets w2 s3 11 0 11 = σ 11 0 11 := by
    rw [mmeets, u3_k _ _ (by decide), u3_k _ _ (by decide), hm.1 11 (by decide) (by decide) (by decide) (by decide), xfind, u3_k _ _ (by decide), u3_j _ _ (by decide), hf.1 11 (by decide) (by decide) (by decide) (by decide)]
  refine h.gen (h.1.fr (fun r _ => gi 6 _ (Or.inl rfl) (by omega) (by omega)) (fun r _ => gi 30 _ (Or.inr rfl) (by omega) (by omega)) (g 44 (by decide)) (g 45 (by decide))) (h.2.1.fr (fun r _ => gi 6 _ (Or.inl rfl) (by omega) (by omega)) (fun r _ => gi 30 _ (Or.inr rfl) (by omega) (by omega)) (g 47 (by decide)) (g 48 (by decide))) (h.2.2.1.fr (fun k hk => g k ?_)) ?_ ?_ (fun q hq => g q ?_) (fun j hj => g12 j ?_ ?_ ?_ ?_ ?_)
  · simp only [kShapes, Bool.or_eq_true, Bool.and_eq_true, Nat.ble_eq, Nat.beq_eq] at hk
    omega
  · have z := h.2.2.2.1
    unfold Rread at z ⊢
    rw [g4 2 (by decide), g4 3 (by decide), g4 4 (by decide), g 55 (by decide), g 56 (by decide), gi 6 2 (Or.inl rfl) (by decide) (by decide), gi 30 2 (Or.inr rfl) (by decide) (by decide), g12 24 (by decide) (by decide) (by decide) (by decide) (by decide)]
    exact z
  · have z := h.2.2.2.2.2.1
    unfold Rmisc at z ⊢
    rw [g11, g12 2 (by decide) (by decide) (by decide) (by decide) (by decide)]
    exact z
  · simp only [kNet, Bool.or_eq_true, Bool.and_eq_true, Nat.ble_eq] at hq
    omega
  all_goals (rintro rfl; exact absurd hj (by decide))
theorem Rall.rdok (h : Rall σ τ) {s1 s3 : tI} {st : rS} {D : Int32 × wO} {rr : Nat} (hr : rr < 6) (hf : rxF σ s1) (hC : rC s1 st) (h9 : s1 4 0 9 = D.1) (hN : nC s1 D.2) (hn : D.2.1 ≤ 60) (hu : (rUn st).1 ≤ 60) (hB : ∀ j, j < (rUn st).1 → isB ((rUn st).2 j)) (hm : rmF (xbec (kpS s1 (rUn st).1) (4 + rr) 1 D.2.1) s3) (hM : rM s3 st) (hJ : wJ s3 D.2) : Rall (rdE s3 st D rr) τ := by
  generalize hF : rdE s3 st D rr = F
  have k4 : ∀ q, q ≠ 44 → q ≠ 45 → q ≠ 55 → q ≠ 12 → q ≠ 56 → F q = s3 q := fun q a1 a2 a3 a4 a5 => by
    rw [← hF, rdE, cp3_kk a5, u3_kk _ _ a4, u3_kk _ _ a3, u3_kk _ _ a3, u3_kk _ _ a3, cp3_kk a2]
    funext b c
    simp [mfill, u3, a1, a2]
  have kk : ∀ q, q ≠ 4 → q ≠ 6 → q ≠ 30 → kpS s1 (rUn st).1 q = s1 q := fun q a1 a2 a3 => by rw [kpS, xbec_k a2 a3, u3_kk _ _ a1, u3_kk _ _ a1, u3_kk _ _ a1]
  have ki : ∀ q i, (q = 6 ∨ q = 30) → i ≠ 2 → kpS s1 (rUn st).1 q i = s1 q i := fun q i hq hi => by rw [kpS, xbec_i hi, u3_kk _ _ (by omega), u3_kk _ _ (by omega), u3_kk _ _ (by omega)]
  have g : ∀ q, q ≠ 4 ∧ q ≠ 6 ∧ q ≠ 26 ∧ q ≠ 30 ∧ q ≠ 12 ∧ q ≠ 52 ∧ q ≠ 53 ∧ q ≠ 54 ∧ q ≠ 44 ∧ q ≠ 45 ∧ q ≠ 55 ∧ q ≠ 56 → F q = σ q := fun q ⟨a1, a2, a3, a4, a5, a6, a7, a8, a9, b1, b2, b3⟩ => by
    rw [k4 q a9 b1 b2 a5 b3, hm.1 q a5 a6 a7 a8, xbec_k a2 a4, kk q a1 a2 a4, hf.1 q a1 a2 a3 a4]
  have gi : ∀ q i, (q = 6 ∨ q = 30) → i ≠ 1 → i ≠ 2 → i ≠ 3 → i ≠ 4 + rr → F q i = σ q i := fun q i hq h1 h2 h3 h4 => by
    rw [k4 q (by omega) (by omega) (by omega) (by omega) (by omega), hm.1 q (by omega) (by omega) (by omega) (by omega), xbec_i h4, ki q i hq h2, hf.2.1 q i hq h1 h3]
  have f6 : ∀ q, (q = 4 ∨ q = 6 ∨ q = 30) → F q = xbec (kpS s1 (rUn st).1) (4 + rr) 1 D.2.1 q := fun q hq => by
    rw [k4 q (by omega) (by omega) (by omega) (by omega) (by omega), hm.1 q (by omega) (by omega) (by omega) (by omega)]
  have c0 : F 6 (4 + rr) 0 = 1 := by rw [f6 6 (by decide), xbec_0]
  have c1 : F 6 (4 + rr) 1 = nI D.2.1 := by rw [f6 6 (by decide), xbec_1]
  have cp : ∀ j, j < D.2.1 → F 30 (4 + rr) j = D.2.2 j := fun j hj => by
    rw [f6 30 (by decide), xbec_p hj, ki 30 1 (Or.inr rfl) (by decide)]
    exact hN.2 j hj
  have u1 : F 6 2 1 = nI (rUn st).1 := by rw [f6 6 (by decide), xbec_i (show 2 ≠ 4 + rr by omega), kpS, xbec_1]
  have up : ∀ j, j < (rUn st).1 → F 30 2 j = (rUn st).2 j := fun j hj => by
    rw [f6 30 (by decide), xbec_i (show 2 ≠ 4 + rr by omega), kpS, xbec_p hj, u3_k _ _ (by decide), u3_k _ _ (by decide), u3_k _ _ (by decide)]
    exact hC.2.2.2.2 j hj
  have d2 : F 4 0 2 = rRd st := by
    rw [f6 4 (by decide), xbec_k (by decide) (by decide), kpS, xbec_k (by decide) (by decide), u3_j _ _ (by decide), u3_j _ _ (by decide), u3_eq]
    exact hC.1
  have d3 : F 4 0 3 = rKp st := by
    rw [f6 4 (by decide), xbec_k (by decide) (by decide), kpS, xbec_k (by decide) (by decide), u3_j _ _ (by decide), u3_eq]
    exact hC.2.1
  have d4 : F 4 0 4 = D.1 := by
    rw [f6 4 (by decide), xbec_k (by decide) (by decide), kpS, xbec_k (by decide) (by decide), u3_eq]
    exact h9
  have n0 : F 55 0 0 = rRd st := by rw [← hF, rdE, cp3_kk (by decide), u3_k _ _ (by decide), u3_j _ _ (by decide), u3_j _ _ (by decide), u3_eq]
  have n1 : F 55 0 1 = rKp st := by rw [← hF, rdE, cp3_kk (by decide), u3_k _ _ (by decide), u3_j _ _ (by decide), u3_eq]
  have n2 : F 55 0 2 = D.1 := by rw [← hF, rdE, cp3_kk (by decide), u3_k _ _ (by decide), u3_eq]
  have n24 : F 12 0 24 = nI (rUn st).1 := by rw [← hF, rdE, cp3_kk (by decide), u3_eq]
  have g12 : ∀ j, j ≠ 16 → j ≠ 19 → j ≠ 20 → j ≠ 21 → j ≠ 24 → F 12 0 j = σ 12 0 j := fun j a b c d e => by
    have e1 : F 12 0 j = s3 12 0 j := by
      rw [← hF, rdE, cp3_kk (by decide), u3_j _ _ e, u3_k _ _ (by decide), u3_k _ _ (by decide), u3_k _ _ (by decide), cp3_kk (by decide)]
      simp [mfill, u3]
    rw [e1, hm.2 j a b c d, xbec_k (by decide) (by decide), kk 12 (by decide) (by decide) (by decide), hf.1 12 (by decide) (by decide) (by decide) (by decide)]
  have mp56 : ∀ j, j < (rUn st).1 → F 56 0 j = (rUn st).2 j := fun j hj => by
    rw [← hF, rdE, cp3_at hj, u3_k _ _ (by decide), u3_k _ _ (by decide), u3_k _ _ (by decide), u3_k _ _ (by decide), cp3_kk (by decide)]
    have : mfill (u3 s3 44 0 rr (nI D.2.1)) 45 (60 * rr) 60 0 54 0 j = s3 54 0 j := by simp [mfill, u3]
    rw [this]
    exact hM.2.2.2.2 j hj
  have r44 : ∀ q, F 44 0 q = if q = rr then nI D.2.1 else σ 44 0 q := fun q => by
    have e1 : F 44 0 q = if q = rr then nI D.2.1 else s3 44 0 q := by
      rw [← hF, rdE, cp3_kk (by decide), u3_k _ _ (by decide), u3_k _ _ (by decide), u3_k _ _ (by decide), u3_k _ _ (by decide), cp3_kk (by decide)]
      by_cases e : q = rr
      · simp [mfill, u3, e]
      · simp [mfill, u3, e]
    rw [e1, hm.1 44 (by decide) (by decide) (by decide) (by decide), xbec_k (by decide) (by decide), kk 44 (by decide) (by decide) (by decide), hf.1 44 (by decide) (by decide) (by decide) (by decide)]
  have m45 : ∀ j, F 45 0 j = cp3 (mfill (u3 s3 44 0 rr (nI D.2.1)) 45 (60 * rr) 60 0) 45 0 52 0 0 (60 * rr) D.2.1 45 0 j := fun j => by
    rw [← hF, rdE, cp3_kk (by decide), u3_k _ _ (by decide), u3_k _ _ (by decide), u3_k _ _ (by decide), u3_k _ _ (by decide)]
  have mp : ∀ j, j < D.2.1 → F 45 0 (60 * rr + j) = D.2.2 j := fun j hj => by
    rw [m45]
    have e1 : cp3 (mfill (u3 s3 44 0 rr (nI D.2.1)) 45 (60 * rr) 60 0) 45 0 52 0 0 (60 * rr) D.2.1 45 0 (60 * rr + j) = s3 52 0 j := by
      have e2 : 60 * rr + j < 60 * rr + D.2.1 := by omega
      have e3 : 60 * rr + j - 60 * rr = j := by omega
      simp [cp3, mfill, u3, e2, e3]
    rw [e1]
    exact hJ.2 j hj
  have np : ∀ j, (j < 60 * rr ∨ 60 * rr + 60 ≤ j) → F 45 0 j = σ 45 0 j := fun j hj => by
    rw [m45]
    have e1 : cp3 (mfill (u3 s3 44 0 rr (nI D.2.1)) 45 (60 * rr) 60 0) 45 0 52 0 0 (60 * rr) D.2.1 45 0 j = s3 45 0 j := by
      have e2 : ¬ (60 * rr ≤ j ∧ j < 60 * rr + D.2.1) := by omega
      have e3 : ¬ (60 * rr ≤ j ∧ j < 60 * rr + 60) := by omega
      simp [cp3, mfill, u3, e2, e3]
    rw [e1, hm.1 45 (by decide) (by decide) (by decide) (by decide), xbec_k (by decide) (by decide), kk 45 (by decide) (by decide) (by decide), hf.1 45 (by decide) (by decide) (by decide) (by decide)]
  refine h.gen (fun q hq => ?_) (h.2.1.fr (fun r _ => gi 6 _ (Or.inl rfl) (by omega) (by omega) (by omega) (by omega)) (fun r _ => gi 30 _ (Or.inr rfl) (by omega) (by omega) (by omega) (by omega)) (g 47 (by decide)) (g 48 (by decide))) (h.2.2.1.fr (fun k hk => g k ?_)) ⟨d2.trans n0.symm, d3.trans n1.symm, d4.trans n2.symm, (rUn st).1, hu, u1, n24, fun j hj => ⟨(up j hj).trans (mp56 j hj).symm, by rw [up j hj]; exact hB j hj⟩⟩ ?_ (fun q hq => g q ?_) (fun j hj => g12 j ?_ ?_ ?_ ?_ ?_)
  · by_cases eq : q = rr
    · subst eq
      exact ⟨D.2.1, hn, c1, Or.inr ⟨c0, by rw [r44, if_pos rfl], fun j hj => (cp j hj).trans (mp j hj).symm⟩⟩
    · rw [gi 6 (4 + q) (Or.inl rfl) (by omega) (by omega) (by omega) (by omega), gi 30 (4 + q) (Or.inr rfl) (by omega) (by omega) (by omega) (by omega), r44, if_neg eq]
      obtain ⟨n, z1, z2, z3⟩ := h.1 q hq
      refine ⟨n, z1, z2, ?_⟩
      rcases z3 with z3 | ⟨z5, z6, z7⟩
      · exact Or.inl z3
      · exact Or.inr ⟨z5, z6, fun j hj => (z7 j hj).trans (np _ (by omega)).symm⟩
  · simp only [kShapes, Bool.or_eq_true, Bool.and_eq_true, Nat.ble_eq, Nat.beq_eq] at hk
    omega
  · have z := h.2.2.2.2.2.1
    unfold Rmisc at z ⊢
    rw [g 11 (by decide), g12 2 (by decide) (by decide) (by decide) (by decide) (by decide)]
    exact z
  · simp only [kNet, Bool.or_eq_true, Bool.and_eq_true, Nat.ble_eq] at hq
    omega
  all_goals (rintro rfl; exact absurd hj (by decide))
theorem LC_read (h : Rall σ τ) (a b c d : Int32) : LC l 106 191 [aI a, aI b, aI c, aI d] σ τ t := by
  by_cases hc : (0 ≤ a ∧ a < 4) ∧ (0 ≤ b ∧ b < 10) ∧ (0 ≤ c ∧ c < 6) ∧ (0 ≤ d ∧ d < 6)
  · obtain ⟨ha, hb, hc, hd⟩ := hc
    obtain ⟨s, hs, rfl⟩ := ix_lt (n := 4) (by decide) ha
    obtain ⟨v, hv, rfl⟩ := ix_lt (n := 10) (by decide) hb
    obtain ⟨x, hx, rfl⟩ := ix_lt (n := 6) (by decide) hc
    obtain ⟨rr, hr, rfl⟩ := ix_lt (n := 6) (by decide) hd
    rcases h.2.2.1 s hs with ⟨y1, y2⟩ | ⟨S, hS⟩
    · refine LC.of (x_read_no hs hv hx hr (Or.inl y1)) (m_read_no hs hv hx hr (Or.inl ?_)) (h.find (by decide))
      simp [u3, y2]
    obtain ⟨⟨N, hN, hd1, hct⟩, hB⟩ := h.2.1 x hx
    rcases hct with ⟨h0, hz⟩ | ⟨h0, hz, hp⟩
    · refine LC.of (x_read_no hs hv hx hr (Or.inr h0)) (m_read_no hs hv hx hr (Or.inr ?_)) (h.find (by decide))
      simp [u3, hz]
    obtain ⟨w1, w2, w3, w4, w5, w6, w7⟩ := hS
    have hK : K0 σ (10 + x) N (σ 30 (10 + x)) := ⟨hd1, hN, by omega, rfl⟩
    have hB2 : ∀ j, j < N → isB (σ 30 (10 + x) j) := fun j hj => hB j (by omega) (by rw [hz]; exact m9 (by omega)) (by rw [hz]; exact nI_lt hj (by omega))
    refine am_T.mono (x_read hs hv hx hr (by rw [w2]; decide) (by rw [h0]; decide) w1 w3 w5 w6 hK hB2) ?_
    rintro w s2 τ2 t2 ⟨rfl, rfl, hQ⟩
    have mgo : ∀ s2, (∀ q, q = 49 ∨ q = 50 ∨ q = 47 ∨ q = 48 → s2 q = σ q) → am_T l 191 [aR 12 0, aI (nI s), aI (nI v), aI (nI x), aI (nI rr)] s2 τ2 t2 (fun w s3 τ3 t3 => τ3 = τ2 ∧ t3 = t2 ∧ rmQ s2 S v (σ 30 (10 + x)) N rr (rdA S v (σ 30 (10 + x)) N st0 0) w s3) := by
      intro s2 hk
      refine m_read hs hv hr w1 (by rw [hk 49 (by decide)]; exact w4) ?_ ⟨by rw [hk 47 (by decide)]; exact hz, hN, hx, fun j hj => by rw [hk 48 (by decide)]; exact (hp j hj).symm⟩ hB2
      unfold MItems
      rw [hk 50 (by decide)]
      exact w7
    cases e : rdA S v (σ 30 (10 + x)) N st0 0 with
    | inl q =>
      rw [e] at hQ mgo
      obtain ⟨rfl, hf⟩ := hQ
      refine ⟨rfl, am_T.mono (mgo _ (fun q hq => hf.1 q (by omega) (by omega) (by omega) (by omega))) ?_⟩
      rintro w3 s3 τ3 t3 ⟨rfl, rfl, rfl, hf2⟩
      exact ⟨rfl, h.rdno hf hf2⟩
    | inr st =>
      have hin : rIn S v (σ 30 (10 + x)) N st N := rdP_in hB2 (N + 1) 0 st0 st (by omega) (by omega) st0_in e
      rw [e] at hQ mgo
      unfold rrQ at hQ
      unfold rmQ at mgo
      dsimp only at hQ mgo
      generalize hD : dcP S v (σ 30 (10 + x)) N st (sN S) 0 0 o0 = D at *
      by_cases ho : D.2.1 ≤ 60
      · rw [if_pos ho] at hQ
        obtain ⟨rfl, s1, hf, hC, h9, hN1, rfl⟩ := hQ
        refine ⟨rfl, am_T.mono (mgo _ (fun q hq => by rw [xbec_k (by omega) (by omega), kpS, xbec_k (by omega) (by omega), u3_kk _ _ (by omega), u3_kk _ _ (by omega), u3_kk _ _ (by omega), hf.1 q (by omega) (by omega) (by omega) (by omega)])) ?_⟩
        rintro w3 s3 τ3 t3 ⟨rfl, rfl, hQ2⟩
        rw [if_pos ho] at hQ2
        obtain ⟨rfl, s4, hf2, hM2, hJ2, rfl⟩ := hQ2
        exact ⟨rfl, h.rdok hr hf hC h9 hN1 ho (Nat.le_trans hin.2.1 hN) hin.2.2 hf2 hM2 hJ2⟩
      · rw [if_neg ho] at hQ
        obtain ⟨rfl, s1, hf, rfl⟩ := hQ
        refine ⟨rfl, am_T.mono (mgo _ (fun q hq => by rw [xfind, u3_kk _ _ (by omega), u3_kk _ _ (by omega), hf.1 q (by omega) (by omega) (by omega) (by omega)])) ?_⟩
        rintro w3 s3 τ3 t3 ⟨rfl, rfl, hQ2⟩
        rw [if_neg ho] at hQ2
        obtain ⟨rfl, s4, hf2, rfl⟩ := hQ2
        exact ⟨rfl, h.rdfnd hf hf2⟩
  · refine LC.of (x_readB hc) (m_readB ?_) h
    rintro ⟨z1, z2, z3, z4⟩
    obtain ⟨j, hj, rfl⟩ := ix_le (n := 4) (by decide) z1
    obtain ⟨k, hk, rfl⟩ := ix_le (n := 10) (by decide) z2
    obtain ⟨m, hm, rfl⟩ := ix_le (n := 6) (by decide) z3
    obtain ⟨n, hn, rfl⟩ := ix_le (n := 6) (by decide) z4
    exact hc ⟨in4 hj, in10 hk, in6 hm, in6 hn⟩
end L73

/-! ticks: class cells of one state, model cells of another; changes of one call's cells -/
section L80
variable {l : Launch} {σ σ2 s A : tI} {τ τ2 : tL} {t : Option (Nat × Nat)} {T n m lo k c : Nat}
/-- kinds of the class -/
def isC : Nat → Bool := fun q => Nat.ble q 11 || (Nat.ble 13 q && Nat.ble q 42)
/-- class cells of σ, model cells of A -/
def mrg (σ A : tI) : tI := fun q => bif isC q then σ q else A q
theorem mrg_x {q i j : Nat} {v : Int32} (h : isC q = true) : mrg (u3 σ q i j v) A = u3 (mrg σ A) q i j v := by
  funext a b d
  by_cases e : a = q
  · subst e
    simp [mrg, u3, h]
  · cases ha : isC a <;> simp [mrg, u3, e, ha]
theorem mrg_m {q i j : Nat} {v : Int32} (h : isC q = false) : mrg σ (u3 A q i j v) = u3 (mrg σ A) q i j v := by
  funext a b d
  by_cases e : a = q
  · subst e
    simp [mrg, u3, h]
  · cases ha : isC a <;> simp [mrg, u3, e, ha]
theorem mrg_self : mrg σ σ = σ := by
  funext a
  unfold mrg
  cases isC a <;> rfl
theorem mrg_c {q : Nat} (h : isC q = true) : mrg σ A q = σ q := by unfold mrg; rw [h]; rfl
theorem mrg_n {q : Nat} (h : isC q = false) : mrg σ A q = A q := by unfold mrg; rw [h]; rfl
/-- kinds that a change of one call leaves as they were -/
def ccK : Nat → Bool := fun q => Nat.beq q 1 || Nat.beq q 2 || Nat.beq q 12 || (Nat.ble 14 q && Nat.ble q 23) || (Nat.ble 62 q && Nat.ble q 69) || Nat.beq q 74 || (Nat.ble 84 q && Nat.ble q 93)
/-- only call c's own cells, services' counts and the count of open ones may have changed -/
def ccF (σ s : tI) (c : Nat) : Prop := (∀ q, ccK q = true → s q = σ q) ∧ (∀ c2, c2 ≠ c → s 0 c2 = σ 0 c2 ∧ s 13 c2 = σ 13 c2) ∧ (∀ q c2, 70 ≤ q → q ≤ 83 → q ≠ 80 → c2 ≠ c → s q 0 c2 = σ q 0 c2) ∧ (∀ c2 j, c2 ≠ c → j < 4 → s 80 0 (4 * c2 + j) = σ 80 0 (4 * c2 + j)) ∧ (∀ j, j ≠ 6 → s 3 0 j = σ 3 0 j) ∧ (∀ a j, j ≠ 5 → j ≠ 6 → s 8 a j = σ 8 a j) ∧ s 0 c 11 = σ 0 c 11
theorem Rnet0.cc (h : Rnet0 σ T n m lo k) (hc : c < n) (E : ccF σ s c) (hR : Rcall s c) (hO : Ocall s c) (h6 : s 3 0 6 = nI (cntN (fun c => decide (s 71 0 c = 0)) n)) (h85 : ∀ a, a < 6 → s 8 a 5 = nI (cntN (fun c => decide (s 66 0 c = nI a ∧ s 77 0 c = 1)) n) ∧ s 8 a 6 = nI (cntN (fun c => decide (s 66 0 c = nI a ∧ s 77 0 c = 2)) n)) (h90 : ∀ f, lo ≤ f → f < m → σ 84 0 f = 1 → σ 89 0 f = nI c → s 72 0 c = σ 72 0 c) : Rnet0 s T n m lo k := by
  obtain ⟨E1, E2, E3, E4, E5, E6, E7⟩ := E
  obtain ⟨g1, g2, g3, g4, g5, g6, g7, g8, g9, g10, g11, g12⟩ := h
  have hn := g2.2.2
  have eM : ∀ q c2, 65 ≤ q → q ≤ 83 → q ≠ 80 → c2 ≠ c → s q 0 c2 = σ q 0 c2 := by
    intro q c2 h1 h2 h3 h4
    by_cases h : 70 ≤ q
    · exact E3 q c2 h h2 h3 h4
    · rw [E1 q (by simp only [ccK, Bool.or_eq_true, Bool.and_eq_true, Nat.ble_eq, Nat.beq_eq]; omega)]
  refine ⟨?_, ?_, fun c2 hc2 => ?_, fun c2 h1 h2 => ?_, h6, fun a ha => ?_, ?_, ?_, ?_, ?_, ?_, ?_⟩
  · rw [E5 4 (by decide), E1 12 rfl]; exact g1
  · rw [E5 5 (by decide), E1 12 rfl]; exact g2
  · have eU : undU s lo m c2 = undU σ lo m c2 := by unfold undU; rw [E1 89 rfl]
    rw [eU]
    obtain ⟨k1, k2, k3⟩ := g3 c2 hc2
    by_cases e : c2 = c
    · subst e
      exact ⟨hR, hO, E7.trans k3⟩
    · refine ⟨?_, ?_, by rw [(E2 c2 e).1]; exact k3⟩
      · unfold Rcall at k1 ⊢
        rw [(E2 c2 e).1, (E2 c2 e).2, eM 65 c2 (by decide) (by decide) (by decide) e, eM 66 c2 (by decide) (by decide) (by decide) e, eM 67 c2 (by decide) (by decide) (by decide) e, eM 68 c2 (by decide) (by decide) (by decide) e, eM 69 c2 (by decide) (by decide) (by decide) e, eM 70 c2 (by decide) (by decide) (by decide) e, eM 71 c2 (by decide) (by decide) (by decide) e, eM 72 c2 (by decide) (by decide) (by decide) e, eM 73 c2 (by decide) (by decide) (by decide) e, eM 74 c2 (by decide) (by decide) (by decide) e, eM 75 c2 (by decide) (by decide) (by decide) e, eM 76 c2 (by decide) (by decide) (by decide) e, eM 77 c2 (by decide) (by decide) (by decide) e, eM 78 c2 (by decide) (by decide) (by decide) e, eM 79 c2 (by decide) (by decide) (by decide) e, eM 81 c2 (by decide) (by decide) (by decide) e, eM 82 c2 (by decide) (by decide) (by decide) e, eM 83 c2 (by decide) (by decide) (by decide) e]
        obtain ⟨a0, a1, a2, a3, a4, a5, a6, a7, a8, a9, b0, b1, b2, b3, b4, b5, b6, b7, b8⟩ := k1
        exact ⟨a0, a1, a2, a3, a4, a5, a6, a7, a8, a9, b0, b1, b2, b3, b4, b5, b6, b7, fun j hj => by rw [E4 c2 j e hj]; exact b8 j hj⟩
      · unfold Ocall at k2 ⊢
        rw [eM 65 c2 (by decide) (by decide) (by decide) e, eM 66 c2 (by decide) (by decide) (by decide) e, eM 67 c2 (by decide) (by decide) (by decide) e, eM 68 c2 (by decide) (by decide) (by decide) e, eM 70 c2 (by decide) (by decide) (by decide) e, eM 71 c2 (by decide) (by decide) (by decide) e, eM 72 c2 (by decide) (by decide) (by decide) e, eM 77 c2 (by decide) (by decide) (by decide) e, eM 78 c2 (by decide) (by decide) (by decide) e, eM 81 c2 (by decide) (by decide) (by decide) e, eM 82 c2 (by decide) (by decide) (by decide) e]
        exact k2
  · have e : c2 ≠ c := by omega
    have k1 := g4 c2 h1 h2
    unfold Fcall at k1 ⊢
    rw [(E2 c2 e).1, (E2 c2 e).2, eM 72 c2 (by decide) (by decide) (by decide) e, eM 73 c2 (by decide) (by decide) (by decide) e, eM 77 c2 (by decide) (by decide) (by decide) e, eM 81 c2 (by decide) (by decide) (by decide) e, eM 82 c2 (by decide) (by decide) (by decide) e, eM 83 c2 (by decide) (by decide) (by decide) e]
    obtain ⟨a0, a1, a2, a3, a4, a5, a6, a7, a8, a9, b0, b1, b2, b3, b4, b5, b6⟩ := k1
    exact ⟨a0, a1, a2, a3, a4, a5, a6, a7, a8, a9, b0, b1, b2, b3, b4, b5, fun j hj => ⟨(b6 j hj).1, by rw [E4 c2 j e hj]; exact (b6 j hj).2⟩⟩
  · rw [E6 a 2 (by decide) (by decide), E6 a 3 (by decide) (by decide), E6 a 4 (by decide) (by decide), E1 62 rfl, E1 63 rfl, E1 64 rfl]
    obtain ⟨k1, k2, k3, k4, k5, k6, -, -⟩ := g6 a ha
    exact ⟨k1, k2, k3, k4, k5, k6, (h85 a ha).1, (h85 a ha).2⟩
  · rw [E1 1 rfl, E1 12 rfl]; exact g7
  · unfold Rframe Oframe at g8 ⊢
    rw [E1 14 rfl, E1 15 rfl, E1 16 rfl, E1 17 rfl, E1 18 rfl, E1 19 rfl, E1 20 rfl, E1 84 rfl, E1 85 rfl, E1 86 rfl, E1 87 rfl, E1 88 rfl, E1 89 rfl, E1 90 rfl]
    exact g8
  · rw [E1 1 rfl, E1 88 rfl]; exact g9
  · rw [E1 1 rfl, E1 88 rfl]; exact g10
  · intro f c2 a1 a2 a3 a4 a5
    rw [E1 84 rfl] at a3
    rw [E1 89 rfl] at a4
    rw [E1 90 rfl, g11 f c2 a1 a2 a3 a4 a5]
    by_cases e : c2 = c
    · subst e
      exact (h90 f a1 a2 a3 a4).symm
    · exact (eM 72 c2 (by decide) (by decide) (by decide) e).symm
  · rw [E1 2 rfl, E1 12 rfl, E1 21 rfl, E1 22 rfl, E1 23 rfl, E1 91 rfl, E1 92 rfl, E1 93 rfl]; exact g12
/-- the accounting, with so much left over of call c -/
def RaccS (σ : tI) (n m lo c x : Nat) : Prop :=
  ∃ P S : Nat, ∃ Rp Kc : Nat → Nat, σ 3 0 7 = nI P ∧ σ 12 0 62 = nI P ∧ P ≤ 100 ∧ σ 3 0 8 = nI S ∧ σ 12 0 63 = nI S ∧ S ≤ 200 ∧ m = P + S + sumN (fun c => (σ 72 0 c).toNatClampNeg + 1 + Rp c + Kc c) n ∧
    ∀ c2, c2 < n → Rp c2 + (if σ 77 0 c2 = 0 then 0 else 1) + asksU σ lo m c2 + (if c2 = c then x else 0) ≤ (σ 72 0 c2).toNatClampNeg + 1 ∧ Kc c2 ≤ (if σ 71 0 c2 = 0 then 0 else 1) ∧ (σ 81 0 c2).toNatClampNeg ≤ 9 * lo
theorem Racc.S {x : Nat} (h : RaccS σ n m lo c x) : Racc σ n m lo := by
  obtain ⟨P, S, Rp, Kc, g1, g2, g3, g4, g5, g6, g7, g8⟩ := h
  exact ⟨P, S, Rp, Kc, g1, g2, g3, g4, g5, g6, g7, fun c2 hc2 => ⟨by have := (g8 c2 hc2).1; omega, (g8 c2 hc2).2⟩⟩
theorem Racc.S0 (h : Racc σ n m lo) : RaccS σ n m lo c 0 := by
  obtain ⟨P, S, Rp, Kc, g1, g2, g3, g4, g5, g6, g7, g8⟩ := h
  exact ⟨P, S, Rp, Kc, g1, g2, g3, g4, g5, g6, g7, fun c2 hc2 => ⟨by have := (g8 c2 hc2).1; rw [show (if c2 = c then 0 else 0) = 0 from ite_self 0]; omega, (g8 c2 hc2).2⟩⟩
/-- call c's cells change: what is left over of it changes by what is placed -/
theorem RaccS.cc {x x2 : Nat} (h : RaccS σ n m lo c x) (E : ccF σ s c) (h72 : s 72 0 c = σ 72 0 c) (h77 : (if s 77 0 c = 0 then 0 else 1) + x2 ≤ (if σ 77 0 c = 0 then 0 else 1) + x) (h71 : (if σ 71 0 c = 0 then 0 else 1) ≤ (if s 71 0 c = 0 then 0 else 1)) (h81 : (s 81 0 c).toNatClampNeg ≤ 9 * lo) : RaccS s n m lo c x2 := by
  obtain ⟨E1, E2, E3, E4, E5, E6, E7⟩ := E
  obtain ⟨P, S, Rp, Kc, g1, g2, g3, g4, g5, g6, g7, g8⟩ := h
  have e72 : ∀ c2, s 72 0 c2 = σ 72 0 c2 := fun c2 => by
    by_cases e : c2 = c
    · rw [e, h72]
    · exact E3 72 c2 (by decide) (by decide) (by decide) e
  have eA : ∀ c2, asksU s lo m c2 = asksU σ lo m c2 := fun c2 => by unfold asksU; rw [E1 84 rfl, E1 89 rfl]
  refine ⟨P, S, Rp, Kc, by rw [E5 7 (by decide)]; exact g1, by rw [E1 12 rfl]; exact g2, g3, by rw [E5 8 (by decide)]; exact g4, by rw [E1 12 rfl]; exact g5, g6, by simp only [e72]; exact g7, fun c2 hc2 => ?_⟩
  obtain ⟨k1, k2, k3⟩ := g8 c2 hc2
  rw [e72, eA]
  by_cases e : c2 = c
  · subst e
    rw [if_pos rfl] at k1 ⊢
    exact ⟨by omega, by omega, h81⟩
  · rw [if_neg e] at k1 ⊢
    rw [E3 77 c2 (by decide) (by decide) (by decide) e, E3 71 c2 (by decide) (by decide) (by decide) e, E3 81 c2 (by decide) (by decide) (by decide) e]
    exact ⟨k1, k2, k3⟩
/-- counts: where one call changes -/
theorem cntN_inc {p q : Nat → Bool} {c : Nat} (hp : p c = false) (hq : q c = true) (h : ∀ x, x ≠ c → p x = q x) {n : Nat} (hc : c < n) : cntN q n = cntN p n + 1 := cntN_dec hq hp (fun x hx => (h x hx).symm) hc
theorem cntN_same {p q : Nat → Bool} {c : Nat} (hpq : p c = q c) (h : ∀ x, x ≠ c → p x = q x) {n : Nat} : cntN p n = cntN q n := cntN_cg (fun x _ => by
  by_cases e : x = c
  · rw [e, hpq]
  · exact h x e)
end L80

/-! ticks: a frame is marked, sent; a call is given up, asked again (nothing of the machine here) -/
section L81
variable {σ σ2 s A : tI} {τ τ2 : tL} {t : Option (Nat × Nat)} {T n m lo k c : Nat}
theorem Rnet0.mrk (h : Rnet0 σ T n m lo k) (hlo : lo < m) (E : ∀ q, q ≠ 0 → q ≠ 1 → q ≠ 18 → q ≠ 88 → s q = σ q) (E0 : ∀ c j, j ≠ 11 → s 0 c j = σ 0 c j) (E0u : ∀ c, c < 30 → s 0 c 11 = if c < n ∧ σ 89 0 lo = nI c then σ 0 c 11 - 1 else σ 0 c 11) (E18 : ∀ f, f ≠ lo → s 18 0 f = σ 18 0 f ∧ s 88 0 f = σ 88 0 f) (e18 : s 18 0 lo = s 88 0 lo) (e88 : s 88 0 lo = 1 ∨ s 88 0 lo = 2) (E1 : s 1 0 0 = σ 1 0 0 ∧ s 1 0 2 = nI (lo + 1) ∧ s 1 0 1 = if s 88 0 lo = 2 then σ 1 0 1 + 1 else σ 1 0 1) : Rnet0 s T n m (lo + 1) k := by
  have d : ∀ q, (Nat.ble 2 q && Nat.ble q 17 || Nat.ble 19 q && Nat.ble q 87 || Nat.ble 89 q) = true → s q = σ q := by
    intro q z
    simp only [Bool.or_eq_true, Bool.and_eq_true, Nat.ble_eq] at z
    exact E q (by omega) (by omega) (by omega) (by omega)
  obtain ⟨g1, g2, g3, g4, g5, g6, g7, g8, g9, g10, g11, g12⟩ := h
  have hn := g2.2.2
  have eU : ∀ c, undU σ lo m c = undU s (lo + 1) m c + (if σ 89 0 lo = nI c then 1 else 0) := by
    intro c
    unfold undU
    rw [d 89 rfl]
    by_cases e : σ 89 0 lo = nI c
    · rw [if_pos e]
      exact cntN_dec (c := lo) (by simp [e]) (decide_eq_false (fun z => absurd z.1 (Nat.not_succ_le_self lo))) (fun x hx => by
        have : (lo ≤ x) = (lo + 1 ≤ x) := propext (by omega)
        simp only [this]) hlo
    · rw [if_neg e]
      exact cntN_same (c := lo) (by simp [e]) (fun x hx => by
        have : (lo ≤ x) = (lo + 1 ≤ x) := propext (by omega)
        simp only [this])
  have eC : ∀ c, Rcall σ c → Rcall s c := by
    intro c hc
    unfold Rcall at hc ⊢
    rw [E0 c 0 (by decide), E0 c 1 (by decide), E0 c 2 (by decide), E0 c 3 (by decide), E0 c 4 (by decide), E0 c 5 (by decide), E0 c 6 (by decide), E0 c 7 (by decide), E0 c 8 (by decide), E0 c 9 (by decide), E0 c 10 (by decide), E0 c 12 (by decide), E0 c 13 (by decide), E0 c 14 (by decide), E0 c 15 (by decide), E0 c 16 (by decide), E0 c 17 (by decide), E0 c 18 (by decide), d 13 rfl, d 65 rfl, d 66 rfl, d 67 rfl, d 68 rfl, d 69 rfl, d 70 rfl, d 71 rfl, d 72 rfl, d 73 rfl, d 74 rfl, d 75 rfl, d 76 rfl, d 77 rfl, d 78 rfl, d 79 rfl, d 80 rfl, d 81 rfl, d 82 rfl, d 83 rfl]
    exact hc
  have eO : ∀ c, Ocall σ c → Ocall s c := by
    intro c hc
    unfold Ocall at hc ⊢
    rw [d 65 rfl, d 66 rfl, d 67 rfl, d 68 rfl, d 70 rfl, d 71 rfl, d 72 rfl, d 77 rfl, d 78 rfl, d 81 rfl, d 82 rfl]
    exact hc
  refine ⟨?_, ?_, fun c hc => ?_, fun c h1 h2 => ?_, ?_, ?_, ?_, fun f hf => ?_, ?_, ?_, ?_, ?_⟩
  · rw [d 3 rfl, d 12 rfl]; exact g1
  · rw [d 3 rfl, d 12 rfl]; exact g2
  · obtain ⟨k1, k2, k3⟩ := g3 c hc
    refine ⟨eC c k1, eO c k2, ?_⟩
    have hu := eU c
    rw [E0u c (by omega)]
    by_cases e : σ 89 0 lo = nI c
    · rw [if_pos e] at hu
      rw [if_pos ⟨hc, e⟩, k3, hu, nI_pred]
    · rw [if_neg e] at hu
      rw [if_neg (fun z => e z.2), k3, hu, Nat.add_zero]
  · have k1 := g4 c h1 h2
    unfold Fcall at k1 ⊢
    rw [E0u c h2, if_neg (fun z => by omega), E0 c 7 (by decide), E0 c 8 (by decide), E0 c 9 (by decide), E0 c 12 (by decide), E0 c 14 (by decide), E0 c 15 (by decide), E0 c 16 (by decide), E0 c 17 (by decide), E0 c 18 (by decide), d 13 rfl, d 72 rfl, d 73 rfl, d 77 rfl, d 80 rfl, d 81 rfl, d 82 rfl, d 83 rfl]
    exact k1
  · rw [d 3 rfl, d 71 rfl]; exact g5
  · rw [d 8 rfl, d 62 rfl, d 63 rfl, d 64 rfl, d 66 rfl, d 77 rfl]; exact g6
  · rw [E1.1, d 12 rfl]; exact g7
  · obtain ⟨k1, k2⟩ := g8 f hf
    unfold Rframe at k1 ⊢
    unfold Oframe at k2 ⊢
    rw [d 14 rfl, d 15 rfl, d 16 rfl, d 17 rfl, d 19 rfl, d 20 rfl, d 84 rfl, d 85 rfl, d 86 rfl, d 87 rfl, d 89 rfl, d 90 rfl]
    refine ⟨?_, k2⟩
    obtain ⟨a0, a1, a2, a3, a4, a5, a6⟩ := k1
    refine ⟨a0, a1, a2, a3, ?_, a5, a6⟩
    by_cases e : f = lo
    · rw [e]; exact e18
    · rw [(E18 f e).1, (E18 f e).2]; exact a4
  · rw [E1.2.2, g9]
    by_cases e : s 88 0 lo = 2
    · rw [if_pos e, nI_1]
      congr 1
      refine (cntN_inc (c := lo) ?_ ?_ (fun x hx => by rw [(E18 x hx).2]) hlo).symm
      · rw [g10.2.2.2 lo (Nat.le_refl _) hlo]; decide
      · simp [e]
    · rw [if_neg e]
      congr 1
      refine cntN_same (c := lo) ?_ (fun x hx => by rw [(E18 x hx).2])
      rw [g10.2.2.2 lo (Nat.le_refl _) hlo, decide_eq_false e]
      decide
  · refine ⟨E1.2.1, by omega, fun f hf => ?_, fun f h1 h2 => ?_⟩
    · by_cases e : f = lo
      · rw [e]; exact e88
      · rw [(E18 f e).2]; exact g10.2.2.1 f (by omega)
    · rw [(E18 f (by omega)).2]; exact g10.2.2.2 f (by omega) h2
  · intro f c a1 a2 a3 a4 a5
    rw [d 84 rfl] at a3
    rw [d 89 rfl] at a4
    rw [d 90 rfl, d 72 rfl]
    exact g11 f c (by omega) a2 a3 a4 a5
  · rw [d 2 rfl, d 12 rfl, d 21 rfl, d 22 rfl, d 23 rfl, d 91 rfl, d 92 rfl, d 93 rfl]; exact g12
theorem Racc.mrk (h : Racc σ n m lo) (hlo : lo < m) (E : ∀ q, q ≠ 0 → q ≠ 1 → q ≠ 18 → q ≠ 88 → s q = σ q) : RaccS s n m (lo + 1) c (if σ 84 0 lo = 1 ∧ σ 89 0 lo = nI c then 1 else 0) := by
  obtain ⟨P, S, Rp, Kc, g1, g2, g3, g4, g5, g6, g7, g8⟩ := h
  have e : ∀ q, q = 3 ∨ q = 12 ∨ q = 71 ∨ q = 72 ∨ q = 77 ∨ q = 81 ∨ q = 84 ∨ q = 89 → s q = σ q := fun q hq => E q (by omega) (by omega) (by omega) (by omega)
  have eA : ∀ c, asksU σ lo m c = asksU s (lo + 1) m c + (if σ 84 0 lo = 1 ∧ σ 89 0 lo = nI c then 1 else 0) := by
    intro c
    unfold asksU
    rw [e 84 (by decide), e 89 (by decide)]
    by_cases h1 : σ 84 0 lo = 1 ∧ σ 89 0 lo = nI c
    · rw [if_pos h1]
      exact cntN_dec (c := lo) (by simp [h1.1, h1.2]) (decide_eq_false (fun z => absurd z.1 (Nat.not_succ_le_self lo))) (fun x hx => by
        have : (lo ≤ x) = (lo + 1 ≤ x) := propext (by omega)
        simp only [this]) hlo
    · rw [if_neg h1]
      exact cntN_same (c := lo) (by
        have : ¬ (lo ≤ lo ∧ σ 84 0 lo = 1 ∧ σ 89 0 lo = nI c) := fun z => h1 z.2
        exact (decide_eq_false this).trans (decide_eq_false (fun z => absurd z.1 (Nat.not_succ_le_self lo))).symm) (fun x hx => by
        have : (lo ≤ x) = (lo + 1 ≤ x) := propext (by omega)
        simp only [this])
  refine ⟨P, S, Rp, Kc, by rw [e 3 (by decide)]; exact g1, by rw [e 12 (by decide)]; exact g2, g3, by rw [e 3 (by decide)]; exact g4, by rw [e 12 (by decide)]; exact g5, g6, by rw [e 72 (by decide)]; exact g7, fun c2 hc2 => ?_⟩
  rw [e 71 (by decide), e 72 (by decide), e 77 (by decide), e 81 (by decide)]
  obtain ⟨k1, k2, k3⟩ := g8 c2 hc2
  refine ⟨?_, k2, by omega⟩
  rw [eA c2] at k1
  by_cases hc : c2 = c
  · subst hc
    rw [if_pos rfl]
    omega
  · rw [if_neg hc]
    omega
/-- an answer is sent -/
theorem RaccS.ans {x kd : Nat} {a b dx dm : Int32} (h : RaccS σ n m lo c (x + 1)) (hc : c < n) (hkd : 2 ≤ kd ∧ kd ≤ 6) : RaccS (ssnd σ m c kd a b dx dm) n (m + 1) lo c x := by
  obtain ⟨P, S, Rp, Kc, g1, g2, g3, g4, g5, g6, g7, g8⟩ := h
  have e : ∀ q, q = 71 ∨ q = 72 ∨ q = 77 ∨ q = 81 → ssnd σ m c kd a b dx dm q = σ q := fun q hq => ssnd_k (by omega) (by omega) (by omega) (by
    rcases hq with rfl | rfl | rfl | rfl <;> rfl)
  refine ⟨P, S, fun y => if y = c then Rp y + 1 else Rp y, Kc, ?_, ?_, g3, ?_, ?_, g6, ?_, fun c2 hc2 => ?_⟩
  · rw [← g1]; simp [ssnd, msend, xsend, xadd, u3]
  · rw [← g2]; simp [ssnd, msend, xsend, xadd, u3]
  · rw [← g4]; simp [ssnd, msend, xsend, xadd, u3]
  · rw [← g5]; simp [ssnd, msend, xsend, xadd, u3]
  · rw [e 72 (by decide), sumN_inc (f := fun y => (σ 72 0 y).toNatClampNeg + 1 + Rp y + Kc y) (c := c) (by simp; omega) (fun y hy => by simp [hy]), if_pos hc]
    omega
  · rw [asksU_snd hkd, e 71 (by decide), e 72 (by decide), e 77 (by decide), e 81 (by decide)]
    obtain ⟨k1, k2, k3⟩ := g8 c2 hc2
    refine ⟨?_, k2, k3⟩
    by_cases hcc : c2 = c
    · rw [if_pos hcc] at k1 ⊢
      show (if c2 = c then Rp c2 + 1 else Rp c2) + _ + _ + _ ≤ _
      rw [if_pos hcc]
      omega
    · rw [if_neg hcc] at k1 ⊢
      show (if c2 = c then Rp c2 + 1 else Rp c2) + _ + _ + _ ≤ _
      rw [if_neg hcc]
      exact k1
/-- a call is given up: its end, and a cancel -/
theorem Rnet.give {w hh : Nat} {a b : Int32} (h : Rnet σ T n m lo k) (hc : c < n) (h7 : σ 71 0 c = 0) (hw : σ 3 0 6 = nI (w + 1)) (hw2 : w ≤ 30) (hh1 : 1 ≤ hh) (hh2 : hh < 9) : Rnet (ssnd (sfin σ c w T hh) m c 6 a b (nI hh) (nI hh)) T n (m + 1) lo k := by
  obtain ⟨h0, ha⟩ := h.split
  refine Rnet.join ((h0.fin hc h7 hw hw2 hh1 hh2).snd (by decide) hc (fun _ => rfl) (fun z => absurd z (by decide)) (fun z => absurd z (by decide)) (fun z => absurd z (by decide))) ?_
  obtain ⟨P, S, Rp, Kc, g1, g2, g3, g4, g5, g6, g7, g8⟩ := ha
  have nh : ¬ nI hh = 0 := fun z => absurd ((nI_eq (b := 0) (by omega) (by decide)).mp z) (by omega)
  have e : ∀ q, q ≠ 0 → q ≠ 1 → q ≠ 3 → q ≠ 12 → q ≠ 71 → q ≠ 75 → kFr q = false → ssnd (sfin σ c w T hh) m c 6 a b (nI hh) (nI hh) q = σ q := by
    intro q a1 a2 a3 a4 a5 a6 a7
    rw [ssnd_k a1 a2 a4 a7]
    unfold sfin
    rw [u3_kk _ _ a6, u3_kk _ _ a5, u3_kk _ _ a3, u3_kk _ _ a1, u3_kk _ _ a1]
  have e72 := e 72 (by decide) (by decide) (by decide) (by decide) (by decide) (by decide) rfl
  have e77 := e 77 (by decide) (by decide) (by decide) (by decide) (by decide) (by decide) rfl
  have e81 := e 81 (by decide) (by decide) (by decide) (by decide) (by decide) (by decide) rfl
  have v71 : ∀ c2, ssnd (sfin σ c w T hh) m c 6 a b (nI hh) (nI hh) 71 0 c2 = if c2 = c then nI hh else σ 71 0 c2 := by
    intro c2
    rw [ssnd_k (by decide) (by decide) (by decide) rfl]
    simp [sfin, u3]
  have hK : Kc c = 0 := by
    have z := (g8 c hc).2.1
    rw [if_pos h7] at z
    omega
  have hA : ∀ c2, asksU (ssnd (sfin σ c w T hh) m c 6 a b (nI hh) (nI hh)) lo (m + 1) c2 = asksU σ lo m c2 := by
    intro c2
    rw [asksU_snd (by decide)]
    unfold asksU
    have e84 : sfin σ c w T hh 84 = σ 84 := by
      unfold sfin
      rw [u3_kk _ _ (by decide), u3_kk _ _ (by decide), u3_kk _ _ (by decide), u3_kk _ _ (by decide), u3_kk _ _ (by decide)]
    have e89 : sfin σ c w T hh 89 = σ 89 := by
      unfold sfin
      rw [u3_kk _ _ (by decide), u3_kk _ _ (by decide), u3_kk _ _ (by decide), u3_kk _ _ (by decide), u3_kk _ _ (by decide)]
    rw [e84, e89]
  refine ⟨P, S, Rp, fun x => if x = c then 1 else Kc x, ?_, ?_, g3, ?_, ?_, g6, ?_, ?_⟩
  · rw [← g1]; simp [ssnd, sfin, msend, xsend, xadd, u3]
  · rw [← g2]; simp [ssnd, sfin, msend, xsend, xadd, u3]
  · rw [← g4]; simp [ssnd, sfin, msend, xsend, xadd, u3]
  · rw [← g5]; simp [ssnd, sfin, msend, xsend, xadd, u3]
  · rw [e72, sumN_inc (f := fun x => (σ 72 0 x).toNatClampNeg + 1 + Rp x + Kc x) (c := c) (by simp [hK]) (fun x hx => by simp [hx]), if_pos hc]
    omega
  · intro c2 hc2
    rw [hA, e72, e77, v71, e81]
    refine ⟨(g8 c2 hc2).1, ?_, (g8 c2 hc2).2.2⟩
    show (if c2 = c then 1 else Kc c2) ≤ _
    by_cases hcc : c2 = c
    · rw [if_pos hcc, if_pos hcc, if_neg nh]
      exact Nat.le_refl _
    · rw [if_neg hcc, if_neg hcc]; exact (g8 c2 hc2).2.1
/-- a call ends -/
theorem RaccS.fin {w hh x : Nat} (h : RaccS σ n m lo c x) (hh1 : 1 ≤ hh) (hh2 : hh < 9) (h71 : σ 71 0 c = 0) (h81 : (σ 81 0 c).toNatClampNeg ≤ 9 * lo) : RaccS (sfin σ c w T hh) n m lo c x := by
  have nh : ¬ nI hh = 0 := fun z => absurd ((nI_eq (b := 0) (by omega) (by decide)).mp z) (by omega)
  have e : ∀ q, q ≠ 0 → q ≠ 3 → q ≠ 71 → q ≠ 75 → sfin σ c w T hh q = σ q := by
    intro q a1 a2 a3 a4
    unfold sfin
    rw [u3_kk _ _ a4, u3_kk _ _ a3, u3_kk _ _ a2, u3_kk _ _ a1, u3_kk _ _ a1]
  obtain ⟨P, S, Rp, Kc, g1, g2, g3, g4, g5, g6, g7, g8⟩ := h
  refine ⟨P, S, Rp, Kc, by rw [← g1]; simp [sfin, u3], by rw [e 12 (by decide) (by decide) (by decide) (by decide)]; exact g2, g3, by rw [← g4]; simp [sfin, u3], by rw [e 12 (by decide) (by decide) (by decide) (by decide)]; exact g5, g6, by rw [e 72 (by decide) (by decide) (by decide) (by decide)]; exact g7, fun c2 hc2 => ?_⟩
  obtain ⟨k1, k2, k3⟩ := g8 c2 hc2
  have eA : asksU (sfin σ c w T hh) lo m c2 = asksU σ lo m c2 := by
    unfold asksU
    rw [e 84 (by decide) (by decide) (by decide) (by decide), e 89 (by decide) (by decide) (by decide) (by decide)]
  have v71 : sfin σ c w T hh 71 0 c2 = if c2 = c then nI hh else σ 71 0 c2 := by simp [sfin, u3]
  rw [eA, e 72 (by decide) (by decide) (by decide) (by decide), e 77 (by decide) (by decide) (by decide) (by decide), e 81 (by decide) (by decide) (by decide) (by decide), v71]
  refine ⟨k1, ?_, k3⟩
  by_cases hcc : c2 = c
  · rw [if_pos hcc, if_neg nh]
    rw [hcc, if_pos h71] at k2
    rw [hcc]
    omega
  · rw [if_neg hcc]; exact k2
/-- a call is asked again -/
abbrev sagn (σ : tI) (c T x y : Nat) : tI := u3 (u3 (u3 (u3 (u3 (u3 σ 0 c 4 (nI y)) 0 c 9 (nI (x + 1))) 0 c 10 (nI T)) 70 0 c (nI y)) 72 0 c (nI (x + 1))) 76 0 c (nI T)
theorem Rnet.agn {x y : Nat} {a b : Int32} (h : Rnet σ T n m lo k) (hc : c < n) (h72 : σ 72 0 c = nI x) (h70 : σ 70 0 c = nI (y + 1)) (hxy : x + (y + 1) ≤ 5) (hna : ∀ f, lo ≤ f → f < m → σ 84 0 f = 1 → ¬ σ 89 0 f = nI c) : Rnet (ssnd (sagn σ c T x y) m c 1 a b 0 (nI (x + 1))) T n (m + 1) lo k := by
  obtain ⟨h0, ha⟩ := h.split
  have hn := h0.2.1.2.2
  obtain ⟨kR, kO, kU⟩ := h0.2.2.1 c hc
  have E : ccF σ (sagn σ c T x y) c := by
    refine ⟨fun q hq => ?_, fun c2 h2 => ⟨?_, ?_⟩, fun q c2 h1 _ _ h2 => ?_, fun c2 j h2 hj => ?_, fun j hj => ?_, fun a j _ _ => ?_, ?_⟩
    · have : q ≠ 0 ∧ q ≠ 70 ∧ q ≠ 72 ∧ q ≠ 76 := by
        simp only [ccK, Bool.or_eq_true, Bool.and_eq_true, Nat.ble_eq, Nat.beq_eq] at hq
        omega
      rw [sagn, u3_kk _ _ this.2.2.2, u3_kk _ _ this.2.2.1, u3_kk _ _ this.2.1, u3_kk _ _ this.1, u3_kk _ _ this.1, u3_kk _ _ this.1]
    · funext j; simp [sagn, u3, h2]
    · funext j; simp [sagn, u3]
    · simp [sagn, u3, h2, show q ≠ 0 by omega]
    · simp [sagn, u3]
    · simp [sagn, u3]
    · simp [sagn, u3]
    · simp [sagn, u3]
  have v72 : sagn σ c T x y 72 0 c = nI (x + 1) := by simp [sagn, u3]
  have vo : ∀ q, q ≠ 0 → q ≠ 70 → q ≠ 72 → q ≠ 76 → sagn σ c T x y q = σ q := fun q a1 a2 a3 a4 => by
    rw [sagn, u3_kk _ _ a4, u3_kk _ _ a3, u3_kk _ _ a2, u3_kk _ _ a1, u3_kk _ _ a1, u3_kk _ _ a1]
  have hs0 : Rnet0 (sagn σ c T x y) T n m lo k := by
    refine h0.cc hc E ?_ ?_ ?_ (fun a ha => ?_) (fun f h1 h2 h3 h4 => absurd h4 (hna f h1 h2 h3))
    · unfold Rcall at kR ⊢
      rw [vo 13 (by decide) (by decide) (by decide) (by decide), vo 65 (by decide) (by decide) (by decide) (by decide), vo 66 (by decide) (by decide) (by decide) (by decide), vo 67 (by decide) (by decide) (by decide) (by decide), vo 68 (by decide) (by decide) (by decide) (by decide), vo 69 (by decide) (by decide) (by decide) (by decide), vo 71 (by decide) (by decide) (by decide) (by decide), vo 73 (by decide) (by decide) (by decide) (by decide), vo 74 (by decide) (by decide) (by decide) (by decide), vo 75 (by decide) (by decide) (by decide) (by decide), vo 77 (by decide) (by decide) (by decide) (by decide), vo 78 (by decide) (by decide) (by decide) (by decide), vo 79 (by decide) (by decide) (by decide) (by decide), vo 80 (by decide) (by decide) (by decide) (by decide), vo 81 (by decide) (by decide) (by decide) (by decide), vo 82 (by decide) (by decide) (by decide) (by decide), vo 83 (by decide) (by decide) (by decide) (by decide)]
      obtain ⟨a0, a1, a2, a3, a4, a5, a6, a7, a8, a9, b0, b1, b2, b3, b4, b5, b6, b7, b8⟩ := kR
      refine ⟨?_, ?_, ?_, ?_, ?_, ?_, ?_, ?_, ?_, ?_, ?_, ?_, ?_, ?_, ?_, ?_, ?_, ?_, b8⟩
      · rw [← a0]; simp [sagn, u3]
      · rw [← a1]; simp [sagn, u3]
      · rw [← a2]; simp [sagn, u3]
      · rw [← a3]; simp [sagn, u3]
      · simp [sagn, u3]
      · rw [← a5]; simp [sagn, u3]
      · rw [← a6]; simp [sagn, u3]
      · rw [← a7]; simp [sagn, u3]
      · rw [← a8]; simp [sagn, u3]
      · simp [sagn, u3]
      · simp [sagn, u3]
      · rw [← b1]; simp [sagn, u3]
      · rw [← b2]; simp [sagn, u3]
      · rw [← b3]; simp [sagn, u3]
      · rw [← b4]; simp [sagn, u3]
      · rw [← b5]; simp [sagn, u3]
      · rw [← b6]; simp [sagn, u3]
      · intro z; rw [← b7 z]; simp [sagn, u3]
    · unfold Ocall at kO ⊢
      rw [vo 65 (by decide) (by decide) (by decide) (by decide), vo 66 (by decide) (by decide) (by decide) (by decide), vo 67 (by decide) (by decide) (by decide) (by decide), vo 68 (by decide) (by decide) (by decide) (by decide), vo 71 (by decide) (by decide) (by decide) (by decide), vo 77 (by decide) (by decide) (by decide) (by decide), vo 78 (by decide) (by decide) (by decide) (by decide), vo 81 (by decide) (by decide) (by decide) (by decide), vo 82 (by decide) (by decide) (by decide) (by decide), v72]
      obtain ⟨k1, k2, k3, -, k5, k6, k7⟩ := kO
      exact ⟨k1, k2, k3, ⟨x + 1, y, by omega, rfl, by simp [sagn, u3]⟩, k5, k6, k7⟩
    · rw [vo 71 (by decide) (by decide) (by decide) (by decide), vo 3 (by decide) (by decide) (by decide) (by decide)]; exact h0.2.2.2.2.1
    · rw [vo 8 (by decide) (by decide) (by decide) (by decide), vo 66 (by decide) (by decide) (by decide) (by decide), vo 77 (by decide) (by decide) (by decide) (by decide)]
      exact ⟨(h0.2.2.2.2.2.1 a ha).2.2.2.2.2.2.1, (h0.2.2.2.2.2.1 a ha).2.2.2.2.2.2.2⟩
  refine Rnet.join (hs0.snd (by decide) hc (fun z => absurd rfl z) (fun _ => v72.symm) (fun z => absurd z (by decide)) (fun z => absurd z (by decide))) ?_
  obtain ⟨P, S, Rp, Kc, g1, g2, g3, g4, g5, g6, g7, g8⟩ := ha
  generalize hs1 : sagn σ c T x y = s1 at *
  have e : ∀ q, q = 71 ∨ q = 72 ∨ q = 77 ∨ q = 81 → ssnd s1 m c 1 a b 0 (nI (x + 1)) q = s1 q := fun q hq => ssnd_k (by omega) (by omega) (by omega) (by
    rcases hq with rfl | rfl | rfl | rfl <;> rfl)
  have e72 : ∀ c2, s1 72 0 c2 = if c2 = c then nI (x + 1) else σ 72 0 c2 := fun c2 => by
    by_cases hcc : c2 = c
    · rw [if_pos hcc, hcc, v72]
    · rw [if_neg hcc, E.2.2.1 72 c2 (by decide) (by decide) (by decide) hcc]
  have v84 : ssnd s1 m c 1 a b 0 (nI (x + 1)) 84 0 m = 1 := by simp [ssnd, msend, xsend, xadd, u3]; rfl
  have v89 : ssnd s1 m c 1 a b 0 (nI (x + 1)) 89 0 m = nI c := by simp [ssnd, msend, xsend, xadd, u3]
  have hlo := h0.2.2.2.2.2.2.2.2.2.1.2.1
  have eA : ∀ c2, c2 < n → asksU (ssnd s1 m c 1 a b 0 (nI (x + 1))) lo (m + 1) c2 = asksU σ lo m c2 + (if c2 = c then 1 else 0) := by
    intro c2 hc2
    show cntN _ m + _ = _
    have e1 : cntN (fun f => decide (lo ≤ f ∧ ssnd s1 m c 1 a b 0 (nI (x + 1)) 84 0 f = 1 ∧ ssnd s1 m c 1 a b 0 (nI (x + 1)) 89 0 f = nI c2)) m = asksU σ lo m c2 := by
      refine cntN_cg (fun f hf => ?_)
      rw [ssnd_f rfl (by omega), ssnd_f rfl (by omega), E.1 84 rfl, E.1 89 rfl]
    rw [e1]
    congr 1
    show (if decide (lo ≤ m ∧ ssnd s1 m c 1 a b 0 (nI (x + 1)) 84 0 m = 1 ∧ ssnd s1 m c 1 a b 0 (nI (x + 1)) 89 0 m = nI c2) = true then 1 else 0) = _
    rw [v84, v89]
    by_cases hcc : c2 = c
    · rw [if_pos hcc, hcc]
      simp [hlo]
    · rw [if_neg hcc]
      have : ¬ (lo ≤ m ∧ (1 : Int32) = 1 ∧ nI c = nI c2) := fun z => hcc (nI_inj' (by omega) (by omega) z.2.2).symm
      exact if_neg (fun z => this (of_decide_eq_true z))
  refine ⟨P, S, Rp, Kc, ?_, ?_, g3, ?_, ?_, g6, ?_, fun c2 hc2 => ?_⟩
  · rw [← g1, ← E.2.2.2.2.1 7 (by decide)]; simp [ssnd, msend, xsend, xadd, u3]
  · rw [← g2, ← E.1 12 rfl]; simp [ssnd, msend, xsend, xadd, u3]
  · rw [← g4, ← E.2.2.2.2.1 8 (by decide)]; simp [ssnd, msend, xsend, xadd, u3]
  · rw [← g5, ← E.1 12 rfl]; simp [ssnd, msend, xsend, xadd, u3]
  · rw [e 72 (by decide)]
    have e3 : sumN (fun c => (s1 72 0 c).toNatClampNeg + 1 + Rp c + Kc c) n = sumN (fun c => (σ 72 0 c).toNatClampNeg + 1 + Rp c + Kc c) n + (if c < n then 1 else 0) := by
      refine sumN_inc (c := c) ?_ (fun z hz => ?_)
      · show (s1 72 0 c).toNatClampNeg + 1 + Rp c + Kc c = (σ 72 0 c).toNatClampNeg + 1 + Rp c + Kc c + 1
        rw [v72, h72, nI_clamp (by omega), nI_clamp (by omega)]
        omega
      · show (s1 72 0 z).toNatClampNeg + 1 + Rp z + Kc z = _
        rw [e72, if_neg hz]
    rw [e3, if_pos hc]
    omega
  · rw [eA c2 hc2, e 71 (by decide), e 72 (by decide), e 77 (by decide), e 81 (by decide), vo 71 (by decide) (by decide) (by decide) (by decide), vo 77 (by decide) (by decide) (by decide) (by decide), vo 81 (by decide) (by decide) (by decide) (by decide), e72]
    obtain ⟨k1, k2, k3⟩ := g8 c2 hc2
    refine ⟨?_, k2, k3⟩
    by_cases hcc : c2 = c
    · rw [if_pos hcc, if_pos hcc, nI_clamp (by omega)]
      rw [hcc, h72, nI_clamp (by omega)] at k1
      rw [hcc]
      omega
    · rw [if_neg hcc, if_neg hcc]
      exact k1
end L81

/-! ticks: the small steps of both sides -/
section L82
variable {l : Launch} {σ σ2 s A : tI} {τ τ2 : tL} {t : Option (Nat × Nat)} {T n m lo k c : Nat}
theorem x_nsend2 {d : Int32} (hc : c < 30) (hm : σ 1 0 0 = nI m) (hm2 : m < 690) : am_D l 15 [aR 3 0, aI 2, aI (nI c), aI d] σ τ (rX t) cX lX (some (aI (nI m))) (xsend σ m c 2 (σ 0 c 1) (σ 0 c 0) d) τ (rX t) := by
  refine am_D_of am_o15 am_l15 rfl ?_
  refine am_vc_ok am_k15 [] 100 ?_
  refine And.intro (vp_in_nI (N := 30) hc (by decide)) ?_
  rw [nI_clamp (by omega)]
  refine And.intro (fun h => absurd h (by decide)) (fun _ => ?_)
  refine And.intro (fun h => absurd h (by decide)) (fun _ => ?_)
  refine And.intro (fun h => absurd h (by decide)) (fun _ => ?_)
  refine And.intro (fun _ => ?_) (fun h => absurd rfl h)
  refine And.intro (fun _ => ?_) (fun h => absurd rfl h)
  refine am_vO am_k15 am_h15 rfl rfl rfl rfl (x_addF (m := m) (by simp [u3, hm]) hm2) ?_
  refine am_vc_ok am_k15 [] 100 ?_
  refine am_vI am_k15 am_r15 rfl ⟨rfl, ?_, rfl, rfl, rfl, rfl⟩
  rw [u3_jj (show 0 ≠ 11 by decide), u3_jj (show 1 ≠ 11 by decide)]
  rfl
theorem x_nsend3 {d : Int32} (hc : c < 30) (hm : σ 1 0 0 = nI m) (hm2 : m < 690) : am_D l 15 [aR 3 0, aI 3, aI (nI c), aI d] σ τ (rX t) cX lX (some (aI (nI m))) (xsend σ m c 3 (σ 0 c 1) (σ 0 c 0) d) τ (rX t) := by
  refine am_D_of am_o15 am_l15 rfl ?_
  refine am_vc_ok am_k15 [] 100 ?_
  refine And.intro (vp_in_nI (N := 30) hc (by decide)) ?_
  rw [nI_clamp (by omega)]
  refine And.intro (fun h => absurd h (by decide)) (fun _ => ?_)
  refine And.intro (fun h => absurd h (by decide)) (fun _ => ?_)
  refine And.intro (fun h => absurd h (by decide)) (fun _ => ?_)
  refine And.intro (fun _ => ?_) (fun h => absurd rfl h)
  refine And.intro (fun _ => ?_) (fun h => absurd rfl h)
  refine am_vO am_k15 am_h15 rfl rfl rfl rfl (x_addF (m := m) (by simp [u3, hm]) hm2) ?_
  refine am_vc_ok am_k15 [] 100 ?_
  refine am_vI am_k15 am_r15 rfl ⟨rfl, ?_, rfl, rfl, rfl, rfl⟩
  rw [u3_jj (show 0 ≠ 11 by decide), u3_jj (show 1 ≠ 11 by decide)]
  rfl
/-- an ask comes: the class -/
def taX (σ : tI) (c b m : Nat) : tI := if ¬ σ 0 c 12 = 0 then σ else if σ 3 0 4 ≤ σ 0 c 15 then xsend σ m c 2 (σ 0 c 1) (σ 0 c 0) 0 else if σ 0 c 2 = 1 ∧ 0 < σ 0 c 9 then xsend σ m c 3 (σ 0 c 1) (σ 0 c 0) 8 else if σ 0 c 6 < σ 3 0 4 + σ 0 c 3 then xsend σ m c 3 (σ 0 c 1) (σ 0 c 0) 6 else if σ 8 b 2 ≤ σ 8 b 6 + σ 8 b 5 ∧ σ 8 b 3 ≤ σ 8 b 5 then xsend σ m c 3 (σ 0 c 1) (σ 0 c 0) 4 else u3 (u3 σ 0 c 12 1) 8 b 5 (σ 8 b 5 + 1)
theorem x_takeAsk {b : Nat} (hc : c < 30) (hb : b < 6) (h1 : σ 0 c 1 = nI b) (hm : σ 1 0 0 = nI m) (hm2 : m < 690) : am_D l 23 [aR 3 0, aI (nI c)] σ τ (rX t) cX lX none (taX σ c b m) τ (rX t) := by
  unfold taX
  refine am_D_of am_o23 am_l23 rfl ?_
  refine am_vc_ok am_k23 [48] 100 ?_
  refine And.intro (vp_in_nI (N := 30) hc (by decide)) ?_
  rw [nI_clamp (n := c) (by omega)]
  refine And.intro (by rw [h1]; exact vp_in_nI (N := 6) hb (by decide)) ?_
  rw [h1, nI_clamp (n := b) (by omega)]
  refine And.intro (fun z => ?_) (fun z => ?_)
  rotate_left
  · have z : ¬ σ 0 c 12 = 0 := z
    rw [if_pos z]
    exact am_vV am_k23 am_r23 rfl ⟨rfl, rfl, rfl, rfl, rfl, rfl⟩
  have z : σ 0 c 12 = 0 := z
  rw [if_neg (fun y => y z)]
  have go : ∀ hf : Int32, hf = (if σ 8 b 2 ≤ σ 8 b 6 + σ 8 b 5 then 0 else 1) → am_G l 23 (fun v s' t' p c' n' => v = none ∧ s' = (if σ 3 0 4 ≤ σ 0 c 15 then xsend σ m c 2 (nI b) (σ 0 c 0) 0 else if σ 0 c 2 = 1 ∧ 0 < σ 0 c 9 then xsend σ m c 3 (nI b) (σ 0 c 0) 8 else if σ 0 c 6 < σ 3 0 4 + σ 0 c 3 then xsend σ m c 3 (nI b) (σ 0 c 0) 6 else if σ 8 b 2 ≤ σ 8 b 6 + σ 8 b 5 ∧ σ 8 b 3 ≤ σ 8 b 5 then xsend σ m c 3 (nI b) (σ 0 c 0) 4 else u3 (u3 σ 0 c 12 1) 8 b 5 (σ 8 b 5 + 1)) ∧ t' = τ ∧ p = rX t ∧ c' = cX ∧ n' = lX) 0 0 48 [(4, aI hf), (3, aR 8 b), (2, aR 0 c), (0, aR 3 0), (1, aI (nI c))] [] σ τ (rX t) cX lX := by
    intro hf hhf
    have s2 := fun d => x_nsend2 (l := l) (τ := τ) (t := t) (σ := σ) (d := d) hc hm hm2
    have s3 := fun d => x_nsend3 (l := l) (τ := τ) (t := t) (σ := σ) (d := d) hc hm hm2
    rw [h1] at s2 s3
    refine am_vc_ok am_k23 [94, 122, 149] 100 ?_
    refine am_vO am_k23 am_h23 rfl rfl rfl rfl (x_isKept) ?_
    refine am_vc_ok am_k23 [94, 122, 149] 100 ?_
    refine And.intro (fun y => ?_) (fun y => ?_)
    rotate_left
    · have y := bI_1.mp y
      rw [if_pos y]
      refine am_vO am_k23 am_h23 rfl rfl rfl rfl (s2 0) ?_
      refine am_vc_ok am_k23 [94, 122, 149] 100 ?_
      exact am_vV am_k23 am_r23 rfl ⟨rfl, rfl, rfl, rfl, rfl, rfl⟩
    have y := bI_0.mp y
    rw [if_neg y]
    have last : ¬ (σ 8 b 2 ≤ σ 8 b 6 + σ 8 b 5 ∧ σ 8 b 3 ≤ σ 8 b 5) → am_G l 23 (fun v s' t' p c' n' => v = none ∧ s' = u3 (u3 σ 0 c 12 1) 8 b 5 (σ 8 b 5 + 1) ∧ t' = τ ∧ p = rX t ∧ c' = cX ∧ n' = lX) 0 0 149 [(4, aI hf), (3, aR 8 b), (2, aR 0 c), (0, aR 3 0), (1, aI (nI c))] [] σ τ (rX t) cX lX := by
      intro _
      refine am_vc_ok am_k23 [] 100 ?_
      exact am_vV am_k23 am_r23 rfl ⟨rfl, rfl, rfl, rfl, rfl, rfl⟩
    have mid : am_G l 23 (fun v s' t' p c' n' => v = none ∧ s' = (if σ 0 c 6 < σ 3 0 4 + σ 0 c 3 then xsend σ m c 3 (nI b) (σ 0 c 0) 6 else if σ 8 b 2 ≤ σ 8 b 6 + σ 8 b 5 ∧ σ 8 b 3 ≤ σ 8 b 5 then xsend σ m c 3 (nI b) (σ 0 c 0) 4 else u3 (u3 σ 0 c 12 1) 8 b 5 (σ 8 b 5 + 1)) ∧ t' = τ ∧ p = rX t ∧ c' = cX ∧ n' = lX) 0 0 94 [(4, aI hf), (3, aR 8 b), (2, aR 0 c), (0, aR 3 0), (1, aI (nI c))] [] σ τ (rX t) cX lX := by
      refine am_vc_ok am_k23 [149] 100 ?_
      refine And.intro (fun w => ?_) (fun w => ?_)
      rotate_left
      · have w : ¬ σ 3 0 4 + σ 0 c 3 ≤ σ 0 c 6 := w
        rw [if_pos (Int32.not_le.mp w)]
        refine am_vO am_k23 am_h23 rfl rfl rfl rfl (s3 6) ?_
        refine am_vc_ok am_k23 [149] 100 ?_
        exact am_vV am_k23 am_r23 rfl ⟨rfl, rfl, rfl, rfl, rfl, rfl⟩
      have w : σ 3 0 4 + σ 0 c 3 ≤ σ 0 c 6 := w
      rw [if_neg (Int32.not_lt.mpr w)]
      by_cases q1 : σ 8 b 2 ≤ σ 8 b 6 + σ 8 b 5
      · rw [if_pos q1] at hhf
        subst hhf
        refine And.intro (fun _ => ?_) (fun q => absurd rfl q)
        refine And.intro (fun q => ?_) (fun q => ?_)
        · have q : σ 8 b 5 < σ 8 b 3 := q
          have qn : ¬ (σ 8 b 2 ≤ σ 8 b 6 + σ 8 b 5 ∧ σ 8 b 3 ≤ σ 8 b 5) := fun z => absurd z.2 (Int32.not_le.mpr q)
          rw [if_neg qn]
          exact last qn
        · have q : ¬ σ 8 b 5 < σ 8 b 3 := q
          rw [if_pos ⟨q1, Int32.not_lt.mp q⟩]
          refine am_vO am_k23 am_h23 rfl rfl rfl rfl (s3 4) ?_
          refine am_vc_ok am_k23 [149] 100 ?_
          exact am_vV am_k23 am_r23 rfl ⟨rfl, rfl, rfl, rfl, rfl, rfl⟩
      · rw [if_neg q1] at hhf
        subst hhf
        have qn : ¬ (σ 8 b 2 ≤ σ 8 b 6 + σ 8 b 5 ∧ σ 8 b 3 ≤ σ 8 b 5) := fun z => q1 z.1
        rw [if_neg qn]
        refine And.intro (fun q => absurd q (by decide)) (fun _ => ?_)
        exact last qn
    refine And.intro (fun w => ?_) (fun w => ?_)
    rotate_left
    · have w : ¬ σ 0 c 2 = 1 := w
      rw [if_neg (fun q => w q.1)]
      exact mid
    have w : σ 0 c 2 = 1 := w
    refine And.intro (fun q => ?_) (fun q => ?_)
    · have q : σ 0 c 9 ≤ 0 := q
      rw [if_neg (fun p => absurd p.2 (Int32.not_lt.mpr q))]
      exact mid
    · have q : ¬ σ 0 c 9 ≤ 0 := q
      rw [if_pos ⟨w, Int32.not_le.mp q⟩]
      refine am_vO am_k23 am_h23 rfl rfl rfl rfl (s3 8) ?_
      refine am_vc_ok am_k23 [94, 122, 149] 100 ?_
      exact am_vV am_k23 am_r23 rfl ⟨rfl, rfl, rfl, rfl, rfl, rfl⟩
  refine And.intro (fun y => ?_) (fun y => ?_)
  · have y : σ 8 b 2 ≤ σ 8 b 6 + σ 8 b 5 := y
    exact go 0 (by rw [if_pos y])
  · have y : ¬ σ 8 b 2 ≤ σ 8 b 6 + σ 8 b 5 := y
    exact go 1 (by rw [if_neg y])
abbrev wtM (A : tI) (n b : Nat) : Nat := cntN (fun c => decide (A 66 0 c = nI b ∧ A 77 0 c = 1)) n
abbrev dgM (A : tI) (n b : Nat) : Nat := cntN (fun c => decide (A 66 0 c = nI b ∧ A 77 0 c = 2)) n
/-- an ask comes: the model -/
def taM (A : tI) (c b m n : Nat) (wh : Int32) : tI := if ¬ A 77 0 c = 0 then A else if A 12 0 5 ≤ A 79 0 c then msend A m 2 (A 66 0 c) (A 65 0 c) (nI c) 0 else if A 67 0 c = 1 ∧ 0 < wh then msend A m 3 (A 66 0 c) (A 65 0 c) (nI c) 8 else if A 69 0 c < A 12 0 5 + A 68 0 c then msend A m 3 (A 66 0 c) (A 65 0 c) (nI c) 6 else if A 62 0 b ≤ nI (wtM A n b) + nI (dgM A n b) ∧ A 63 0 b ≤ nI (wtM A n b) then msend A m 3 (A 66 0 c) (A 65 0 c) (nI c) 4 else u3 A 77 0 c 1
theorem m_tooLate (hc : c < 30) : am_D l 220 [aR 12 0, aI (nI c)] σ τ (rX t) cX lX (some (aI (bI (σ 69 0 c < σ 12 0 5 + σ 68 0 c)))) σ τ (rX t) := by
  refine am_D_of am_o220 am_l220 rfl ?_
  refine am_vc_ok am_k220 [] 100 ?_
  refine And.intro (vp_in_nI (N := 30) hc (by decide)) ?_
  rw [nI_clamp (n := c) (by omega)]
  refine And.intro (vp_in_nI (N := 30) hc (by decide)) ?_
  rw [nI_clamp (n := c) (by omega)]
  refine And.intro (fun z => ?_) (fun z => ?_)
  · have z : σ 12 0 5 + σ 68 0 c ≤ σ 69 0 c := z
    rw [bI_f (Int32.not_lt.mpr z)]
    exact am_vZ am_k220 am_r220 rfl (Or.inl rfl) ⟨rfl, rfl, rfl, rfl, rfl, rfl⟩
  · have z : ¬ σ 12 0 5 + σ 68 0 c ≤ σ 69 0 c := z
    rw [bI_t (Int32.not_le.mp z)]
    exact am_vZ am_k220 am_r220 rfl (Or.inr rfl) ⟨rfl, rfl, rfl, rfl, rfl, rfl⟩
theorem m_takeAsk {b : Nat} {wh : Int32} (hc : c < 30) (hb : b < 6) (h66 : σ 66 0 c = nI b) (hm : σ 12 0 54 = nI m) (hm2 : m < 690) (hn : σ 12 0 34 = nI n) (hn2 : n ≤ 30) : am_D l 222 [aR 12 0, aI (nI c), aI wh] σ τ (rX t) cX lX none (taM σ c b m n wh) τ (rX t) := by
  unfold taM
  have sb := fun kd d => m_sendBack (l := l) (τ := τ) (t := t) (σ := σ) (kd := kd) (d := d) hc hm hm2
  have pw := m_placedAt (l := l) (τ := τ) (t := t) (σ := σ) (a := nI b) (b := 1) hn hn2
  have pd := m_placedAt (l := l) (τ := τ) (t := t) (σ := σ) (a := nI b) (b := 2) hn hn2
  refine am_D_of am_o222 am_l222 rfl ?_
  refine am_vc_ok am_k222 [70, 130] 100 ?_
  refine And.intro (vp_in_nI (N := 30) hc (by decide)) ?_
  rw [nI_clamp (n := c) (by omega), h66]
  rw [h66] at sb
  refine am_vO am_k222 am_h222 rfl rfl rfl rfl (pw) ?_
  refine am_vc_ok am_k222 [70, 130] 100 ?_
  refine And.intro (vp_in_nI (N := 30) hc (by decide)) ?_
  rw [nI_clamp (n := c) (by omega)]
  refine And.intro (fun z => ?_) (fun z => ?_)
  rotate_left
  · have z : ¬ σ 77 0 c = 0 := z
    rw [if_pos z]
    exact am_vV am_k222 am_r222 rfl ⟨rfl, rfl, rfl, rfl, rfl, rfl⟩
  have z : σ 77 0 c = 0 := z
  rw [if_neg (fun y => y z)]
  refine am_vO am_k222 am_h222 rfl rfl rfl rfl (m_isKeptName hc) ?_
  refine am_vc_ok am_k222 [70, 130] 100 ?_
  refine And.intro (fun y => ?_) (fun y => ?_)
  rotate_left
  · have y := bI_1.mp y
    rw [if_pos y]
    refine am_vO am_k222 am_h222 rfl rfl rfl rfl (sb 2 0) ?_
    refine am_vc_ok am_k222 [70, 130] 100 ?_
    exact am_vV am_k222 am_r222 rfl ⟨rfl, rfl, rfl, rfl, rfl, rfl⟩
  have y := bI_0.mp y
  rw [if_neg y]
  have last : am_G l 222 (fun v s' t' p c' n' => v = none ∧ s' = u3 σ 77 0 c 1 ∧ t' = τ ∧ p = rX t ∧ c' = cX ∧ n' = lX) 0 0 130 [(4, aI (nI (wtM σ n b))), (3, aI (nI b)), (0, aR 12 0), (1, aI (nI c)), (2, aI wh)] [] σ τ (rX t) cX lX := by
    refine am_vc_ok am_k222 [] 100 ?_
    refine And.intro (vp_in_nI (N := 30) hc (by decide)) ?_
    rw [nI_clamp (n := c) (by omega)]
    exact am_vV am_k222 am_r222 rfl ⟨rfl, rfl, rfl, rfl, rfl, rfl⟩
  have mid : am_G l 222 (fun v s' t' p c' n' => v = none ∧ s' = (if σ 69 0 c < σ 12 0 5 + σ 68 0 c then msend σ m 3 (nI b) (σ 65 0 c) (nI c) 6 else if σ 62 0 b ≤ nI (wtM σ n b) + nI (dgM σ n b) ∧ σ 63 0 b ≤ nI (wtM σ n b) then msend σ m 3 (nI b) (σ 65 0 c) (nI c) 4 else u3 σ 77 0 c 1) ∧ t' = τ ∧ p = rX t ∧ c' = cX ∧ n' = lX) 0 0 70 [(4, aI (nI (wtM σ n b))), (3, aI (nI b)), (0, aR 12 0), (1, aI (nI c)), (2, aI wh)] [] σ τ (rX t) cX lX := by
    refine am_vc_ok am_k222 [130] 100 ?_
    refine am_vO am_k222 am_h222 rfl rfl rfl rfl (m_tooLate hc) ?_
    refine am_vc_ok am_k222 [130] 100 ?_
    refine And.intro (fun w => ?_) (fun w => ?_)
    rotate_left
    · have w := bI_1.mp w
      rw [if_pos w]
      refine am_vO am_k222 am_h222 rfl rfl rfl rfl (sb 3 6) ?_
      refine am_vc_ok am_k222 [130] 100 ?_
      exact am_vV am_k222 am_r222 rfl ⟨rfl, rfl, rfl, rfl, rfl, rfl⟩
    have w := bI_0.mp w
    rw [if_neg w]
    refine am_vO am_k222 am_h222 rfl rfl rfl rfl (pd) ?_
    refine am_vc_ok am_k222 [130] 100 ?_
    refine And.intro (vp_in_nI (N := 6) hb (by decide)) ?_
    rw [nI_clamp (n := b) (by omega)]
    refine And.intro (fun q => ?_) (fun q => ?_)
    · have q : nI (wtM σ n b) + nI (dgM σ n b) < σ 62 0 b := q
      rw [if_neg (fun z => absurd z.1 (Int32.not_le.mpr q))]
      exact last
    have q : ¬ nI (wtM σ n b) + nI (dgM σ n b) < σ 62 0 b := q
    refine And.intro (vp_in_nI (N := 6) hb (by decide)) ?_
    rw [nI_clamp (n := b) (by omega)]
    refine And.intro (fun q2 => ?_) (fun q2 => ?_)
    · have q2 : nI (wtM σ n b) < σ 63 0 b := q2
      rw [if_neg (fun z => absurd z.2 (Int32.not_le.mpr q2))]
      exact last
    · have q2 : ¬ nI (wtM σ n b) < σ 63 0 b := q2
      rw [if_pos ⟨Int32.not_lt.mp q, Int32.not_lt.mp q2⟩]
      refine am_vO am_k222 am_h222 rfl rfl rfl rfl (sb 3 4) ?_
      refine am_vc_ok am_k222 [130] 100 ?_
      exact am_vV am_k222 am_r222 rfl ⟨rfl, rfl, rfl, rfl, rfl, rfl⟩
  refine And.intro (fun w => ?_) (fun w => ?_)
  · have w : wh ≤ 0 := w
    rw [if_neg (fun p => absurd p.2 (Int32.not_lt.mpr w))]
    exact mid
  have w : ¬ wh ≤ 0 := w
  refine And.intro (vp_in_nI (N := 30) hc (by decide)) ?_
  rw [nI_clamp (n := c) (by omega)]
  refine And.intro (fun q => ?_) (fun q => ?_)
  · have q : σ 67 0 c = 1 := q
    rw [if_pos ⟨q, Int32.not_le.mp w⟩]
    refine am_vO am_k222 am_h222 rfl rfl rfl rfl (sb 3 8) ?_
    refine am_vc_ok am_k222 [70, 130] 100 ?_
    exact am_vV am_k222 am_r222 rfl ⟨rfl, rfl, rfl, rfl, rfl, rfl⟩
  · have q : ¬ σ 67 0 c = 1 := q
    rw [if_neg (fun p => q p.1)]
    exact mid
end L82

/-! ticks: frames of both sides; what a model's method does to the model's cells; shares -/
section L83
variable {l : Launch} {σ σ2 s s0 s1 A A0 A1 : tI} {τ τ2 : tL} {t : Option (Nat × Nat)} {T n m lo k c : Nat}
/-- what a tick may change, class and model -/
def okx : Nat → Nat → Bool := fun q j => Nat.ble q 1 || Nat.beq q 3 || (Nat.ble 13 q && Nat.ble q 20) || (Nat.beq q 8 && (Nat.beq j 5 || Nat.beq j 6))
def okm : Nat → Nat → Bool := fun q j => (Nat.ble 65 q && Nat.ble q 90) || (Nat.beq q 12 && (Nat.beq j 5 || Nat.beq j 54))
def xF (s0 s : tI) : Prop := ∀ q i j, okx q j = false → s q i j = s0 q i j
def mF (A0 A : tI) : Prop := ∀ q i j, okm q j = false → A q i j = A0 q i j
theorem xF.r : xF s s := fun _ _ _ _ => rfl
theorem mF.r : mF A A := fun _ _ _ _ => rfl
theorem u3_at {f : tI} {q i j a b d : Nat} {v : Int32} (h : ¬ (a = q ∧ b = i ∧ d = j)) : u3 f q i j v a b d = f a b d := by
  unfold u3
  by_cases h1 : a = q
  · by_cases h2 : b = i
    · by_cases h3 : d = j
      · exact absurd ⟨h1, h2, h3⟩ h
      · rw [if_pos h1, if_pos h2, if_neg h3]
    · rw [if_pos h1, if_neg h2]
  · rw [if_neg h1]
theorem xF.u {q i j : Nat} {v : Int32} (h : xF s0 s) (hq : okx q j = true) : xF s0 (u3 s q i j v) := by
  intro a b d hd
  rw [u3_at (fun z => by rw [z.1, z.2.2, hq] at hd; cases hd)]
  exact h a b d hd
theorem mF.u {q i j : Nat} {v : Int32} (h : mF A0 A) (hq : okm q j = true) : mF A0 (u3 A q i j v) := by
  intro a b d hd
  rw [u3_at (fun z => by rw [z.1, z.2.2, hq] at hd; cases hd)]
  exact h a b d hd
theorem xF_mrg (h : xF s0 s) : mrg s s0 = s := by
  funext q i j
  unfold mrg
  cases hq : isC q
  · cases ho : okx q j
    · exact (h q i j ho).symm
    · exfalso
      have e : isC q = true := by
        unfold isC
        unfold okx at ho
        simp only [Bool.or_eq_true, Bool.and_eq_true, Nat.ble_eq, Nat.beq_eq] at ho ⊢
        omega
      rw [hq] at e
      cases e
  · rfl
/-- a method of the model, on the model's cells alone -/
noncomputable def MD (l : Launch) (z : Nat) (as : List am_V) (A : tI) (r : Option am_V) (A1 : tI) : Prop := ∀ (σ : tI) (τ : tL) (t : Option (Nat × Nat)), am_D l z as (mrg σ A) τ (rX t) cX lX r (mrg σ A1) τ (rX t)
noncomputable def MG (l : Launch) (z pc : Nat) (ls : am_ls) (A : tI) (r : Option am_V) (A1 : tI) : Prop := ∀ (σ : tI) (τ : tL) (t : Option (Nat × Nat)), am_G l z (fun v s t' p c n => v = r ∧ s = mrg σ A1 ∧ t' = τ ∧ p = rX t ∧ c = cX ∧ n = lX) 0 0 pc ls [] (mrg σ A) τ (rX t) cX lX
theorem mrg_xsend {kd a b d : Int32} : xsend (mrg s A) m c kd a b d = mrg (xsend s m c kd a b d) A := by
  simp only [xsend, xadd]
  rw [mrg_x rfl, mrg_x rfl, mrg_x rfl, mrg_x rfl, mrg_x rfl, mrg_x rfl, mrg_x rfl, mrg_x rfl, mrg_x rfl]
  rfl
theorem mrg_msend {kd a b c d : Int32} : msend (mrg s A) m kd a b c d = mrg s (msend A m kd a b c d) := by
  simp only [msend]
  rw [mrg_m rfl, mrg_m rfl, mrg_m rfl, mrg_m rfl, mrg_m rfl, mrg_m rfl, mrg_m rfl, mrg_m rfl]
  rfl
theorem mrg_ssnd {kd : Nat} {a b dx dm : Int32} : ssnd (mrg s A) m c kd a b dx dm = mrg (xsend s m c (nI kd) a b dx) (msend A m (nI kd) a b (nI c) dm) := by
  unfold ssnd
  rw [mrg_xsend, mrg_msend]
theorem ccK_ne {q : Nat} (h : ccK q = true) : q ≠ 0 ∧ q ≠ 3 ∧ q ≠ 8 ∧ q ≠ 13 ∧ q ≠ 70 ∧ q ≠ 71 ∧ q ≠ 72 ∧ q ≠ 73 ∧ q ≠ 75 ∧ q ≠ 76 ∧ q ≠ 77 ∧ q ≠ 78 ∧ q ≠ 79 ∧ q ≠ 80 ∧ q ≠ 81 ∧ q ≠ 82 ∧ q ≠ 83 := by
  simp only [ccK, Bool.or_eq_true, Bool.and_eq_true, Nat.ble_eq, Nat.beq_eq] at h
  omega
/-- a share more -/
theorem Rnet.shr {j : Nat} (h : Rnet σ T n m lo k) (hc : c < n) (hj : j < 4) : Rnet (u3 (u3 σ 13 c j (σ 13 c j + 1)) 80 0 (4 * c + j) (σ 80 0 (4 * c + j) + 1)) T n m lo k := by
  obtain ⟨h0, ha⟩ := h.split
  obtain ⟨kR, kO, kU⟩ := h0.2.2.1 c hc
  have E : ccF σ (u3 (u3 σ 13 c j (σ 13 c j + 1)) 80 0 (4 * c + j) (σ 80 0 (4 * c + j) + 1)) c := by
    refine ⟨fun q hq => ?_, fun c2 h2 => ⟨?_, ?_⟩, fun q c2 h1 h1b h1c h2 => ?_, fun c2 y h2 hy => ?_, fun y hy => ?_, fun a y hy5 hy6 => ?_, ?_⟩
    · have z := ccK_ne hq
      funext i y
      simp [u3, z]
    · funext y; simp [u3, h2]
    · funext y; simp [u3, h2]
    · have z : q ≠ 0 ∧ q ≠ 3 ∧ q ≠ 8 ∧ q ≠ 13 ∧ q ≠ 80 := by omega
      simp [u3, h2, z]
    · have z2 : ¬ 4 * c2 + y = 4 * c + j := (by omega); simp [u3, z2]
    · simp [u3, hy]
    · simp [u3, hy5, hy6]
    · simp [u3]
  refine Rnet.join (h0.cc hc E ?_ ?_ ?_ ?_ ?_) (Racc.S (x := 0) (ha.S0.cc E ?_ ?_ ?_ ?_))
  · unfold Rcall at kR ⊢
    obtain ⟨a0, a1, a2, a3, a4, a5, a6, a7, a8, a9, b0, b1, b2, b3, b4, b5, b6, b7, b8⟩ := kR
    refine ⟨?_, ?_, ?_, ?_, ?_, ?_, ?_, ?_, ?_, ?_, ?_, ?_, ?_, ?_, ?_, ?_, ?_, ?_, ?_⟩
    all_goals (first | (simp [u3]; done) | (simp [u3]; assumption) | skip)
    intro j2 h2
    by_cases e : j2 = j
    · subst e
      simp [u3, b8 j2 hj]
    · have : ¬ 4 * c + j2 = 4 * c + j := by omega
      simp [u3, e, this, b8 j2 h2]
  · simpa [Ocall, u3] using kO
  · simpa [u3] using h0.2.2.2.2.1
  · intro a ha
    exact (h0.2.2.2.2.2.1 a ha).2.2.2.2.2.2
  · intro f _ _ _ _
    simp [u3]
  · simp [u3]
  · simp [u3]
  · simp [u3]
  · obtain ⟨P, S, Rp, Kc, g1, g2, g3, g4, g5, g6, g7, g8⟩ := ha
    simpa [u3] using (g8 c hc).2.2
def shx (s : tI) (c : Nat) : Int32 := if s 0 c 12 = 0 then (if s 0 c 11 ≤ 0 then 3 else 0) else s 0 c 12
theorem x_share : am_D l 3 [aR 0 c] s τ (rX t) cX lX (some (aI (shx s c))) s τ (rX t) := by
  unfold shx
  refine am_D_of am_o3 am_l3 rfl ?_
  refine am_vc_ok am_k3 [] 100 ?_
  refine And.intro (fun h => ?_) (fun h => ?_)
  · have h : s 0 c 12 = 0 := h
    rw [if_pos h]
    refine And.intro (fun h2 => ?_) (fun h2 => ?_)
    · have h2 : s 0 c 11 ≤ 0 := h2
      rw [if_pos h2]
      exact am_vI am_k3 am_r3 rfl ⟨rfl, rfl, rfl, rfl, rfl, rfl⟩
    · have h2 : ¬ s 0 c 11 ≤ 0 := h2
      rw [if_neg h2]
      exact am_vI am_k3 am_r3 rfl ⟨rfl, rfl, rfl, rfl, rfl, rfl⟩
  · have h : ¬ s 0 c 12 = 0 := h
    rw [if_neg h]
    exact am_vI am_k3 am_r3 rfl ⟨rfl, rfl, rfl, rfl, rfl, rfl⟩
/-- frames of call c under way -/
abbrev uwM (A : tI) (c m : Nat) : Nat := cntN (fun f => decide (A 88 0 f = 0 ∧ A 89 0 f = nI c)) m
def shm (A : tI) (c m : Nat) : Int32 := if A 77 0 c = 0 then (if uwM A c m = 0 then 3 else 0) else A 77 0 c
theorem Rnet.shv (h : Rnet σ T n m lo k) (hc : c < n) : shx σ c = shm σ c m ∧ ∃ j, j < 4 ∧ shm σ c m = nI j := by
  have h0 := h.split.1
  obtain ⟨kR, kO, kU⟩ := h0.2.2.1 c hc
  have e12 : σ 0 c 12 = σ 77 0 c := kR.2.2.2.2.2.2.2.2.2.2.2.1
  have eu : undU σ lo m c = uwM σ c m := by
    refine cntN_cg (fun f hf => ?_)
    have g := h0.2.2.2.2.2.2.2.2.2.1.2.2
    by_cases hl : lo ≤ f
    · have := g.2 f hl hf
      simp [hl, this]
    · have z : ¬ σ 88 0 f = 0 := by
        rcases g.1 f (by omega) with e | e <;> rw [e] <;> decide
      simp [hl, z]
  have hm := h.m_le
  have hle : uwM σ c m ≤ m := cntN_le
  constructor
  · unfold shx shm
    rw [e12, kU, eu]
    by_cases z : uwM σ c m = 0
    · rw [z, if_pos (show nI 0 ≤ 0 by decide), if_pos rfl]
    · have z3 : ¬ nI (uwM σ c m) ≤ nI 0 := nI_ge (b := uwM σ c m) (by omega) (by omega)
      rw [if_neg z, if_neg (show ¬ nI (uwM σ c m) ≤ 0 from z3)]
  · unfold shm
    rcases kO.2.2.2.2.1 with e | e | e
    · rw [if_pos e]
      by_cases z : uwM σ c m = 0
      · exact ⟨3, by decide, by rw [if_pos z]; rfl⟩
      · exact ⟨0, by decide, by rw [if_neg z]; rfl⟩
    · rw [e]; exact ⟨1, by decide, rfl⟩
    · rw [e]; exact ⟨2, by decide, rfl⟩
theorem m_sh_in {Q : tQ} (hm : σ 12 0 54 = nI m) (hm2 : m ≤ 690) (K : am_G l 227 Q 0 0 57 [(3, aI (nI m)), (2, aI (if uwM σ c m = 0 then 0 else 1)), (1, aI (nI c)), (0, aR 12 0)] [] σ τ (rX t) cX lX) : ∀ (d f : Nat), f + d = m → am_G l 227 Q 0 0 14 [(3, aI (nI f)), (2, aI (if uwM σ c f = 0 then 0 else 1)), (1, aI (nI c)), (0, aR 12 0)] [] σ τ (rX t) cX lX
  | 0, f, h => by
    obtain rfl : f = m := by omega
    refine am_vc_ok am_k227 [14, 57] 100 ?_
    exact And.intro (fun _ => K) (fun h1 => absurd (by rw [hm]; exact Int32.le_refl _) h1)
  | d + 1, f, h => by
    have K2 := m_sh_in hm hm2 K d (f + 1) (by omega)
    rw [← nI_1] at K2
    refine am_vc_ok am_k227 [14, 57] 100 ?_
    refine And.intro (fun h1 => absurd (show nI m ≤ nI f by rw [← hm]; exact h1) (nI_ge (b := m) (by omega) (by omega))) (fun _ => ?_)
    by_cases y : uwM σ c f = 0
    · rw [if_pos y]
      refine And.intro (fun _ => ?_) (fun g => absurd rfl g)
      refine And.intro (vp_in_nI (N := 1200) (show f < 1200 by omega) (by decide)) ?_
      rw [nI_clamp (n := f) (by omega)]
      refine And.intro (fun h1 => ?_) (fun h1 => ?_)
      · have h1 : σ 88 0 f = 0 := h1
        refine And.intro (vp_in_nI (N := 1200) (show f < 1200 by omega) (by decide)) ?_
        rw [nI_clamp (n := f) (by omega)]
        refine And.intro (fun h2 => ?_) (fun h2 => ?_)
        · have h2 : σ 89 0 f = nI c := h2
          rw [if_neg (show ¬ uwM σ c (f + 1) = 0 by unfold uwM; rw [cntN_1 (by simp [h1, h2])]; omega)] at K2
          exact K2
        · have h2 : ¬ σ 89 0 f = nI c := h2
          rw [if_pos (show uwM σ c (f + 1) = 0 by unfold uwM; rw [cntN_0 (by simp [h2])]; exact y)] at K2
          exact K2
      · have h1 : ¬ σ 88 0 f = 0 := h1
        rw [if_pos (show uwM σ c (f + 1) = 0 by unfold uwM; rw [cntN_0 (by simp [h1])]; exact y)] at K2
        exact K2
    · rw [if_neg y]
      refine And.intro (fun g => absurd g (by decide)) (fun _ => ?_)
      rw [if_neg (show ¬ uwM σ c (f + 1) = 0 from fun z => y (Nat.le_zero.mp (z ▸ (Nat.le_add_right _ _ : uwM σ c f ≤ uwM σ c (f + 1)))))] at K2
      exact K2
/-- one call's share, the model -/
def shM (A : tI) (c j : Nat) : tI := if A 71 0 c = 0 then u3 A 80 0 (4 * c + j) (A 80 0 (4 * c + j) + 1) else A
theorem m_sh {Q : tQ} {j : Nat} (hc : c < n) (hn : σ 12 0 34 = nI n) (hn2 : n ≤ 30) (hm : σ 12 0 54 = nI m) (hm2 : m ≤ 690) (hj : shm σ c m = nI j) (hj2 : j < 4) (K : am_G l 227 Q 0 0 2 [(1, aI (nI (c + 1))), (0, aR 12 0)] [] (shM σ c j) τ (rX t) cX lX) : am_G l 227 Q 0 0 2 [(1, aI (nI c)), (0, aR 12 0)] [] σ τ (rX t) cX lX := by
  rw [← nI_1] at K
  unfold shM at K
  unfold shm at hj
  refine am_vc_ok am_k227 [14] 100 ?_
  refine And.intro (fun h1 => absurd (show nI n ≤ nI c by rw [← hn]; exact h1) (nI_ge (b := n) (by omega) (by omega))) (fun _ => ?_)
  refine m_sh_in hm hm2 ?_ m 0 (by omega)
  refine am_vc_ok am_k227 [2] 100 ?_
  refine And.intro (vp_in_nI (N := 30) (show c < 30 by omega) (by decide)) ?_
  rw [nI_clamp (n := c) (by omega)]
  refine And.intro (fun h1 => ?_) (fun h1 => ?_)
  rotate_left
  · have h1 : ¬ σ 71 0 c = 0 := h1
    rw [if_neg h1] at K
    exact am_Gp [0, 3] rfl K
  have h1 : σ 71 0 c = 0 := h1
  rw [if_pos h1] at K
  refine And.intro (vp_in_nI (N := 30) (show c < 30 by omega) (by decide)) ?_
  rw [nI_clamp (n := c) (by omega)]
  have n4 : (4 : Int32) * nI c = nI (4 * c) := by rw [show (4 : Int32) = nI 4 from rfl, pk_mul]
  refine And.intro (fun h2 => ?_) (fun h2 => ?_)
  · have h2 : σ 77 0 c = 0 := h2
    rw [if_pos h2] at hj
    by_cases y : uwM σ c m = 0
    · rw [if_pos y] at hj ⊢
      have e4 : (4 : Int32) * nI c + 3 = nI (4 * c + j) := by rw [hj, n4, nI_add]
      refine And.intro (fun _ => ?_) (fun g => absurd rfl g)
      refine And.intro (by rw [e4]; exact vp_in_nI (N := 120) (show 4 * c + j < 120 by omega) (by decide)) ?_
      refine And.intro (by rw [e4]; exact vp_in_nI (N := 120) (show 4 * c + j < 120 by omega) (by decide)) ?_
      rw [e4, nI_clamp (n := 4 * c + j) (by omega)]
      exact am_Gp [0, 3] rfl K
    · rw [if_neg y] at hj ⊢
      have e4 : (4 : Int32) * nI c + 0 = nI (4 * c + j) := by rw [hj, n4, nI_add]
      refine And.intro (fun g => absurd g (by decide)) (fun _ => ?_)
      refine And.intro (by rw [e4]; exact vp_in_nI (N := 120) (show 4 * c + j < 120 by omega) (by decide)) ?_
      refine And.intro (by rw [e4]; exact vp_in_nI (N := 120) (show 4 * c + j < 120 by omega) (by decide)) ?_
      rw [e4, nI_clamp (n := 4 * c + j) (by omega)]
      exact am_Gp [0, 3] rfl K
  · have h2 : ¬ σ 77 0 c = 0 := h2
    rw [if_neg h2] at hj
    have e4 : (4 : Int32) * nI c + σ 77 0 c = nI (4 * c + j) := by rw [hj, n4, nI_add]
    refine And.intro (vp_in_nI (N := 30) (show c < 30 by omega) (by decide)) ?_
    rw [nI_clamp (n := c) (by omega)]
    refine And.intro (by rw [e4]; exact vp_in_nI (N := 120) (show 4 * c + j < 120 by omega) (by decide)) ?_
    refine And.intro (by rw [e4]; exact vp_in_nI (N := 120) (show 4 * c + j < 120 by omega) (by decide)) ?_
    rw [e4, nI_clamp (n := 4 * c + j) (by omega)]
    exact am_Gp [0, 3] rfl K
theorem shm_mrg : shm (mrg s A) c m = shm A c m := rfl
theorem shx_mrg : shx (mrg s A) c = shx s c := rfl
theorem mrg_shM {j : Nat} : shM (mrg s A) c j = mrg s (shM A c j) := by
  unfold shM
  show (if A 71 0 c = 0 then _ else _) = _
  by_cases h : A 71 0 c = 0
  · rw [if_pos h, if_pos h, mrg_m rfl]
    rfl
  · rw [if_neg h, if_neg h]
theorem m_sh_step {j : Nat} (hR : Rnet (mrg s A) T n m lo k) (hc : c < n) (hj : shm A c m = nI j) (hj2 : j < 4) (h : MG l 227 2 [(1, aI (nI (c + 1))), (0, aR 12 0)] (shM A c j) none A1) : MG l 227 2 [(1, aI (nI c)), (0, aR 12 0)] A none A1 := by
  intro σ τ t
  have h0 := hR.split.1
  exact m_sh (j := j) hc h0.2.1.2.1 h0.2.1.2.2 h0.2.2.2.2.2.2.1.2 hR.m_le hj hj2 (am_Gs mrg_shM (h σ τ t))
theorem m_sh_end (hn : A 12 0 34 = nI n) : MG l 227 2 [(1, aI (nI n)), (0, aR 12 0)] A none A := by
  intro σ τ t
  refine am_vc_ok am_k227 [2, 14] 100 ?_
  refine And.intro (fun _ => ?_) (fun g => absurd (show A 12 0 34 ≤ nI n by rw [hn]; exact Int32.le_refl _) g)
  exact am_vV am_k227 am_r227 rfl ⟨rfl, rfl, rfl, rfl, rfl, rfl⟩
theorem m_sh_rest (hR : Rnet (mrg s A) T n m lo k) : ∀ (d c : Nat), c + d = n → (∀ c2, c ≤ c2 → c2 < n → ¬ A 71 0 c2 = 0) → MG l 227 2 [(1, aI (nI c)), (0, aR 12 0)] A none A
  | 0, c, h, _ => by
    obtain rfl : c = n := by omega
    exact m_sh_end hR.split.1.2.1.2.1
  | d + 1, c, h, hz => by
    obtain ⟨j, hj, hj2⟩ := (hR.shv (c := c) (by omega)).2
    refine m_sh_step hR (by omega) (j := j) hj2 hj ?_
    rw [show shM A c j = A from if_neg (hz c (Nat.le_refl _) (by omega))]
    exact m_sh_rest hR d (c + 1) (by omega) (fun c2 h1 h2 => hz c2 (by omega) h2)
theorem cntN_none {p : Nat → Bool} : ∀ {n : Nat}, cntN p n = 0 → ∀ c, c < n → p c = false
  | 0, _, c, hc => absurd hc (by omega)
  | n + 1, h, c, hc => by
    have h : cntN p n + (if p n = true then 1 else 0) = 0 := h
    by_cases e : c = n
    · subst e
      cases hp : p c
      · rfl
      · rw [hp] at h
        simp at h
    · exact cntN_none (n := n) (by omega) c (by omega)
theorem xm_share {Q : tQ} : ∀ (d c : Nat) {s A : tI}, c + d = n → Rnet (mrg s A) T n m lo k → xF s0 s → mF A0 A → (∀ s1 A1, MG l 227 2 [(1, aI (nI c)), (0, aR 12 0)] A none A1 → Rnet (mrg s1 A1) T n m lo k → xF s0 s1 → mF A0 A1 → Q none s1 τ (rX t) cX lX) → am_G l 20 Q 0 0 2 [(1, aI (nI c)), (0, aR 3 0)] [] s τ (rX t) cX lX
  | 0, c, s, A, h, hR, hF, hM, hQ => by
    obtain rfl : c = n := by omega
    have h0 := hR.split.1
    have h5 : s 3 0 5 = nI c := h0.2.1.1
    refine am_vc_ok am_k20 [] 100 ?_
    refine And.intro (fun _ => ?_) (fun g => absurd (show s 3 0 5 ≤ nI c by rw [h5]; exact Int32.le_refl _) g)
    refine am_vV am_k20 am_r20 rfl (hQ s A (m_sh_end h0.2.1.2.1) hR hF hM)
  | d + 1, c, s, A, h, hR, hF, hM, hQ => by
    have h0 := hR.split.1
    have hn := h0.2.1.2.2
    have h5 : s 3 0 5 = nI n := h0.2.1.1
    have h6 : s 3 0 6 = nI (cntN (fun c => decide (A 71 0 c = 0)) n) := h0.2.2.2.2.1
    have hle : cntN (fun c => decide (A 71 0 c = 0)) n ≤ n := cntN_le
    have h7 : s 0 c 7 = A 71 0 c := (h0.2.2.1 c (by omega)).1.2.2.2.2.2.2.2.1
    obtain ⟨hv, j, hj, hj2⟩ := hR.shv (c := c) (by omega)
    have hx : shx s c = nI j := hv.trans hj2
    refine am_vc_ok am_k20 [2] 100 ?_
    refine And.intro (fun g => absurd (show nI n ≤ nI c by rw [← h5]; exact g) (nI_ge (b := n) (by omega) (by omega))) (fun _ => ?_)
    refine And.intro (fun g => ?_) (fun g => ?_)
    · have g : s 3 0 6 ≤ 0 := g
      refine am_vV am_k20 am_r20 rfl (hQ s A ?_ hR hF hM)
      refine m_sh_rest hR (d + 1) c h (fun c2 _ h2 e => ?_)
      rw [h6] at g
      have z : cntN (fun c => decide (A 71 0 c = 0)) n = 0 := by
        by_cases e : cntN (fun c => decide (A 71 0 c = 0)) n = 0
        · exact e
        · exact absurd (show nI (cntN (fun c => decide (A 71 0 c = 0)) n) ≤ nI 0 from g) (nI_ge (b := cntN (fun c => decide (A 71 0 c = 0)) n) (by omega) (by omega))
      have := cntN_none z c2 h2
      simp [e] at this
    · refine And.intro (vp_in_nI (N := 30) (show c < 30 by omega) (by decide)) ?_
      rw [nI_clamp (n := c) (by omega)]
      refine And.intro (fun z => ?_) (fun z => ?_)
      · have z : s 0 c 7 = 0 := z
        refine And.intro (vp_in_nI (N := 30) (show c < 30 by omega) (by decide)) ?_
        refine And.intro (vp_in_nI (N := 30) (show c < 30 by omega) (by decide)) ?_
        rw [nI_clamp (n := c) (by omega)]
        refine am_vO am_k20 am_h20 rfl rfl rfl rfl (x_share) ?_
        refine am_vc_ok am_k20 [2] 100 ?_
        rw [hx]
        refine And.intro (vp_in_nI (N := 4) hj (by decide)) ?_
        refine And.intro (vp_in_nI (N := 4) hj (by decide)) ?_
        rw [nI_clamp (n := j) (by omega)]
        have R1 := hR.shr (c := c) (by omega) hj
        rw [← mrg_x (q := 13) rfl, ← mrg_m (q := 80) rfl] at R1
        have e1 : shM A c j = u3 A 80 0 (4 * c + j) (A 80 0 (4 * c + j) + 1) := if_pos (h7.symm.trans z)
        have K := xm_share d (c + 1) (s := u3 s 13 c j (s 13 c j + 1)) (A := shM A c j) (by omega) (by rw [e1]; exact R1) (hF.u rfl) (by rw [e1]; exact hM.u rfl) (fun s1 A1 q => hQ s1 A1 (m_sh_step hR (by omega) hj2 hj q))
        rw [← nI_1] at K
        exact K
      · have z : ¬ s 0 c 7 = 0 := z
        have e1 : shM A c j = A := if_neg (fun y => z (h7.trans y))
        have K := xm_share d (c + 1) (s := s) (A := A) (by omega) hR hF hM (fun s1 A1 q => hQ s1 A1 (m_sh_step hR (by omega) hj2 hj (by rw [e1]; exact q)))
        rw [← nI_1] at K
        exact K
theorem xm_shareOut (hR : Rnet (mrg s A) T n m lo k) (hF : xF s0 s) (hM : mF A0 A) : am_T l 20 [aR 3 0] s τ t (fun v s1 τ1 t1 => v = none ∧ τ1 = τ ∧ t1 = t ∧ ∃ A1, MD l 227 [aR 12 0] A none A1 ∧ Rnet (mrg s1 A1) T n m lo k ∧ xF s0 s1 ∧ mF A0 A1) := by
  refine am_T_of am_o20 am_l20 rfl ?_
  refine am_vc_ok am_k20 [2] 100 ?_
  refine xm_share n 0 (by omega) hR hF hM (fun s1 A1 q r f g => ⟨t, rfl, rfl, rfl, rfl, rfl, rfl, A1, fun σ τ t => ?_, r, f, g⟩)
  refine am_D_of am_o227 am_l227 rfl ?_
  refine am_vc_ok am_k227 [2] 100 ?_
  exact q σ τ t
end L83
