/-! the model's read -/
section L71
variable {l : Launch} {σ σ2 : tI} {τ τ2 : tL} {t : Option (Nat × Nat)} {x N p : Nat} {G : Nat → Int32}
theorem rM.ou {s : tI} {st : rS} {o : wO} {v : Int32} (h : rM s st) : rM (wou s o v) st := by
  obtain ⟨h1, h2, h3, h4, h5⟩ := h
  refine ⟨by rw [wou, u3_j _ _ (by decide), u3_k _ _ (by decide)]; exact h1, by rw [wou, u3_j _ _ (by decide), u3_k _ _ (by decide)]; exact h2, fun a ha hb => by rw [wou, u3_k _ _ (by decide), u3_k _ _ (by decide)]; exact h3 a ha hb, by rw [wou, u3_j _ _ (by decide), u3_k _ _ (by decide)]; exact h4, fun j hj => by rw [wou, u3_k _ _ (by decide), u3_k _ _ (by decide)]; exact h5 j hj⟩
theorem rmF.ou {s : tI} {o : wO} {v : Int32} (h : rmF σ s) : rmF σ (wou s o v) := (h.u (by decide)).w (by decide)
theorem m_rv_lp {Q : tQ} {m i sh v rr nm : Nat} {df l5 : Int32} {st : rS} (hm : m ≤ 9) (hum : ut G N p = m) (hpN : p + m < N) (h : M0 σ x N G) (hB : ∀ j, j < N → isB (G j)) {O : wO} (K : ∀ s q, rmF σ s → rM s st → wJ s O → am_G l 191 Q 0 0 302 [(11, aI q), (10, aI (nI p)), (9, aI (nI 2)), (8, aI (nI nm)), (7, aI (nI i)), (6, aI df), (5, aI l5), (0, aR 12 0), (1, aI (nI sh)), (2, aI (nI v)), (3, aI (nI x)), (4, aI (nI rr))] [] s τ (rX t) cX lX) : ∀ (d k : Nat) (o : wO) (s : tI), k + d = m + 1 → 1 ≤ k → o.1 + d ≤ 120 → vlM G N p d k o = O → rmF σ s → rM s st → wJ s o → am_G l 191 Q 0 0 249 [(11, aI (nI k)), (10, aI (nI p)), (9, aI (nI 2)), (8, aI (nI nm)), (7, aI (nI i)), (6, aI df), (5, aI l5), (0, aR 12 0), (1, aI (nI sh)), (2, aI (nI v)), (3, aI (nI x)), (4, aI (nI rr))] [] s τ (rX t) cX lX
  | 0, k, o, s, hk, h1, ho, hO, hf, hM, hJ => by
    have hN := h.2.1
    obtain rfl : k = m + 1 := by omega
    subst hO
    have hby := m_byteAt (l := l) (τ := τ) (t := t) (q := p) (h.rm hf) hB (by omega)
    rw [hum] at hby
    refine am_vc_ok am_k191 [249, 302] 100 ?_
    refine And.intro (fun _ => ?_) (fun z => absurd rfl z)
    refine am_vO am_k191 am_h191 rfl rfl rfl rfl (hby) ?_
    refine am_vc_ok am_k191 [249, 302] 100 ?_
    exact And.intro (fun _ => K s _ hf hM hJ) (fun z => absurd (nI_lt (by omega) (by omega)) z)
  | d + 1, k, o, s, hk, h1, ho, hO, hf, hM, hJ => by
    have hN := h.2.1
    have hby := m_byteAt (l := l) (τ := τ) (t := t) (q := p) (h.rm hf) hB (by omega)
    rw [hum] at hby
    have hby2 := m_byteAt (l := l) (τ := τ) (t := t) (q := p + k) (h.rm hf) hB (by omega)
    rw [← nI_add] at hby2
    have K2 := m_rv_lp hm hum hpN h hB K d (k + 1) (wps o (nI (ut G N (p + k)))) (wou s o (nI (ut G N (p + k)))) (by omega) (by omega) (by show o.1 + 1 + d ≤ 120; omega) hO hf.ou hM.ou hJ.ps
    refine am_vc_ok am_k191 [249, 302] 100 ?_
    refine And.intro (fun _ => ?_) (fun z => absurd rfl z)
    refine am_vO am_k191 am_h191 rfl rfl rfl rfl (hby) ?_
    refine am_vc_ok am_k191 [249, 302] 100 ?_
    refine And.intro (fun z => absurd z (Int32.not_lt.mpr (nI_le (by omega) (by omega)))) (fun _ => ?_)
    refine am_vO am_k191 am_h191 rfl rfl rfl rfl (hby2) ?_
    refine am_vc_ok am_k191 [249, 302] 100 ?_
    refine And.intro (by rw [hJ.1]; exact vp_in_nI (N := 400) (by omega) (by decide)) ?_
    rw [hJ.1, nI_clamp (n := o.1) (by omega)]
    rw [← nI_1 k] at K2
    exact am_Gs (by rw [u3_k (a := 12) (b := 0) (c := 16) _ _ (show 12 ≠ 52 by decide), hJ.1, nI_1]) (am_Gp [0, 1, 2, 3, 4, 5, 6, 7, 8, 9, 10, 11] rfl K2)
theorem m_rdc_lp {Q : tQ} {sh v rr : Nat} {S : aSh} {st : rS} {l5 : Int32} {R : Int32 × wO} (hsh : sh < 4) (hv : v < 10) (hS : ShOK S) (h49 : σ 49 0 sh = nI (sN S)) (hX : MItems σ sh S) (h : M0 σ x N G) (hB : ∀ j, j < N → isB (G j)) (hin : rIn S v G N st N) (K : ∀ s q, rmF σ s → rM s st → wJ s R.2 → R.2.1 ≤ 120 → am_G l 191 Q 0 0 308 [(7, aI q), (6, aI R.1), (5, aI l5), (0, aR 12 0), (1, aI (nI sh)), (2, aI (nI v)), (3, aI (nI x)), (4, aI (nI rr))] [] s τ (rX t) cX lX) : ∀ (d i : Nat) (df : Int32) (o : wO) (s : tI), i + d = sN S → o.1 ≤ 10 * i → dcP S v G N st d i df o = R → rmF σ s → rM s st → wJ s o → am_G l 191 Q 0 0 85 [(7, aI (nI i)), (6, aI df), (5, aI l5), (0, aR 12 0), (1, aI (nI sh)), (2, aI (nI v)), (3, aI (nI x)), (4, aI (nI rr))] [] s τ (rX t) cX lX
  | 0, i, df, o, s, hi, ho, hR, hf, hM, hJ => by
    have s12 := hS.1
    have e49 : s 49 0 sh = nI (sN S) := by rw [hf.1 49 (by decide) (by decide) (by decide) (by decide)]; exact h49
    obtain rfl : i = sN S := by omega
    subst hR
    refine am_vc_ok am_k191 [85, 308] 100 ?_
    refine And.intro (vp_in_nI (N := 4) hsh (by decide)) ?_
    rw [nI_clamp (n := sh) (by omega), e49]
    exact And.intro (fun _ => K s _ hf hM hJ (by show o.1 ≤ 120; omega)) (fun z => absurd (nI_le (Nat.le_refl _) (by omega)) z)
  | d + 1, i, df, o, s, hi, ho, hR, hf, hM, hJ => by
    have s12 := hS.1
    have hN := h.2.1
    have e49 : s 49 0 sh = nI (sN S) := by rw [hf.1 49 (by decide) (by decide) (by decide) (by decide)]; exact h49
    have hXs : MItems s sh S := by
      unfold MItems
      rw [hf.1 50 (by decide) (by decide) (by decide) (by decide)]
      exact hX
    have hi2 : i < sN S := by omega
    obtain ⟨b1, b2, b3, b4, b5, b6, b7⟩ := hS.2.1 i hi2
    have x4 : s 50 0 (72 * sh + 6 * i + 3) = nI (sSi S i) := hXs i 3 hi2 (by decide)
    have x5 : s 50 0 (72 * sh + 6 * i + 4) = nI (sTi S i) := hXs i 4 hi2 (by decide)
    have hiff : (s 50 0 (72 * sh + 6 * i + 3) ≤ nI v ∧ nI v ≤ s 50 0 (72 * sh + 6 * i + 4)) ↔ (sSi S i ≤ v ∧ v ≤ sTi S i) := by
      rw [x4, x5, nI_leI (by omega) (by omega), nI_leI (by omega) (by omega)]
    have p0 := m_part (l := l) (τ := τ) (t := t) (σ := s) (w := 0) hsh (show i < 12 by omega) (by decide)
    have p1 := m_part (l := l) (τ := τ) (t := t) (σ := s) (w := 1) hsh (show i < 12 by omega) (by decide)
    have p5 := m_part (l := l) (τ := τ) (t := t) (σ := s) (w := 5) hsh (show i < 12 by omega) (by decide)
    rw [show s 50 0 (72 * sh + 6 * i + 0) = nI (sNm S i) from hXs i 0 hi2 (by decide)] at p0
    rw [show s 50 0 (72 * sh + 6 * i + 1) = nI (sSo S i) from hXs i 1 hi2 (by decide)] at p1
    rw [show s 50 0 (72 * sh + 6 * i + 5) = pI (sPr S i) from hXs i 5 hi2 (by decide)] at p5
    have fin := fun df o s => m_rdc_lp (l5 := l5) hsh hv hS h49 hX h hB hin K d (i + 1) df o s (by omega)
    unfold dcP at hR
    refine am_vc_ok am_k191 [85, 249, 235, 302, 308] 100 ?_
    refine And.intro (vp_in_nI (N := 4) hsh (by decide)) ?_
    rw [nI_clamp (n := sh) (by omega), e49]
    refine And.intro (fun z => absurd z (nI_ge hi2 (by omega))) (fun _ => ?_)
    refine am_vO am_k191 am_h191 rfl rfl rfl rfl (m_isOf hsh (show i < 12 by omega)) ?_
    refine am_vc_ok am_k191 [85, 249, 235, 302, 308] 100 ?_
    refine And.intro (fun z => ?_) (fun z => ?_)
    · have z : ¬ (sSi S i ≤ v ∧ v ≤ sTi S i) := fun y => bI_0.mp z (hiff.mpr y)
      rw [if_neg z] at hR
      have K2 := fin df o s (by omega) hR hf hM hJ
      rw [← nI_1 i] at K2
      refine am_vc_ok am_k191 [85] 100 ?_
      exact K2
    have z := hiff.mp (bI_1.mp z)
    rw [if_pos z] at hR
    refine am_vO am_k191 am_h191 rfl rfl rfl rfl (p0) ?_
    refine am_vc_ok am_k191 [85, 249, 235, 302, 308] 100 ?_
    refine am_vO am_k191 am_h191 rfl rfl rfl rfl (p1) ?_
    refine am_vc_ok am_k191 [85, 249, 235, 302, 308] 100 ?_
    have hbm : (((s 12 0 19) >>> (nI (sNm S i) &&& 31)) &&& 1 = 1) ↔ bb (rRd st) (sNm S i) = true := by
      rw [hM.1]
      exact bb_m b1
    refine am_vS am_k191 am_h191 rfl rfl rfl rfl (m_has) ?_
    refine am_vc_ok am_k191 [85, 249, 235, 302, 308] 100 ?_
    refine And.intro (fun y => ?_) (fun y => ?_)
    · have y : ¬ bb (rRd st) (sNm S i) = true := fun q => bI_0.mp y (hbm.mpr q)
      rw [if_neg y] at hR
      refine am_vO am_k191 am_h191 rfl rfl rfl rfl (p5) ?_
      refine am_vc_ok am_k191 [85, 249, 235, 302, 308] 100 ?_
      refine And.intro (by rw [hJ.1]; exact vp_in_nI (N := 400) (by omega) (by decide)) ?_
      rw [hJ.1, nI_clamp (n := o.1) (by omega)]
      have K2 := fin (df ||| bt (sNm S i)) (wps o (pI (sPr S i))) (wou s o (pI (sPr S i))) (by show o.1 + 1 ≤ _; omega) hR hf.ou hM.ou hJ.ps
      rw [← nI_1 i] at K2
      refine am_Gs (σ2 := wou s o (pI (sPr S i))) (by rw [u3_k (a := 12) (b := 0) (c := 16) _ _ (show 12 ≠ 52 by decide), hJ.1, nI_1]) ?_
      refine am_vc_ok am_k191 [85] 100 ?_
      exact am_Gp [0, 1, 4, 5, 6, 7, 8, 9] rfl K2
    have y := hbm.mp (bI_1.mp y)
    rw [if_pos y] at hR
    obtain ⟨g1, g2, g3⟩ := hin.it hS hi2 z y
    have e53 : s 53 0 (sNm S i) = nI (rVp st (sNm S i)) := hM.2.2.1 (sNm S i) b1 y
    generalize hp0 : rVp st (sNm S i) = pp at *
    have hMs := h.rm hf
    have hby := m_byteAt (l := l) (τ := τ) (t := t) (q := pp) hMs hB g1
    have hl := vlF_len (o := o) (p := pp) (G := G) (N := N) (so := sSo S i) (fun q => (g3 q).1)
    have go : ∀ val : Int32, val = nI (if sSo S i = 1 then 256 * ut G N pp + ut G N (pp + 1) else ut G N pp) → am_G l 191 Q 0 0 235 [(10, aI (nI pp)), (9, aI (nI (sSo S i))), (8, aI (nI (sNm S i))), (7, aI (nI i)), (6, aI df), (5, aI l5), (0, aR 12 0), (1, aI (nI sh)), (2, aI (nI v)), (3, aI (nI x)), (4, aI (nI rr))] [aI val, aI (s 12 0 16), aR 52 0] s τ (rX t) cX lX := by
      rintro _ rfl
      generalize hval : nI (if sSo S i = 1 then 256 * ut G N pp + ut G N (pp + 1) else ut G N pp) = val
      have done : ∀ s2 q c, rmF σ s2 → rM s2 st → wJ s2 (vlF G N (sSo S i) pp o) → am_G l 191 Q 0 0 302 [(11, aI q), (10, aI (nI pp)), (9, aI c), (8, aI (nI (sNm S i))), (7, aI (nI i)), (6, aI df), (5, aI l5), (0, aR 12 0), (1, aI (nI sh)), (2, aI (nI v)), (3, aI (nI x)), (4, aI (nI rr))] [] s2 τ (rX t) cX lX := by
        intro s2 q c hf2 hM2 hJ2
        have K2 := fin df (vlF G N (sSo S i) pp o) s2 (by omega) hR hf2 hM2 hJ2
        rw [← nI_1 i] at K2
        refine am_vc_ok am_k191 [85] 100 ?_
        exact am_Gp [0, 5, 6, 7, 8, 9, 10, 11] rfl K2
      refine am_vc_ok am_k191 [249] 100 ?_
      refine And.intro (by rw [hJ.1]; exact vp_in_nI (N := 400) (by omega) (by decide)) ?_
      rw [hJ.1, nI_clamp (n := o.1) (by omega)]
      refine am_Gs (σ2 := wou s o val) (by rw [u3_k (a := 12) (b := 0) (c := 16) _ _ (show 12 ≠ 52 by decide), hJ.1, nI_1]) ?_
      refine am_Gp (ls2 := [(11, aI (nI 1)), (10, aI (nI pp)), (9, aI (nI (sSo S i))), (8, aI (nI (sNm S i))), (7, aI (nI i)), (6, aI df), (5, aI l5), (0, aR 12 0), (1, aI (nI sh)), (2, aI (nI v)), (3, aI (nI x)), (4, aI (nI rr))]) [0, 1, 2, 3, 4, 5, 6, 7, 8, 9, 10, 11] rfl ?_
      by_cases h2 : sSo S i = 2
      · obtain ⟨g4, g5⟩ := g3 h2
        rw [h2]
        refine m_rv_lp (σ := σ) g4 rfl g5 h hB (fun s2 q hf2 hM2 hJ2 => ?_) (ut G N pp) 1 (wps o val) (wou s o val) (by omega) (by omega) (by show o.1 + 1 + ut G N pp ≤ 120; omega) rfl hf.ou hM.ou hJ.ps
        refine done s2 q _ hf2 hM2 ?_
        unfold vlF
        rw [if_pos h2, hval]
        exact hJ2
      · have hd := done (wou s o val) (nI 1) (nI (sSo S i)) hf.ou hM.ou (by
          unfold vlF
          rw [if_neg h2, hval]
          exact hJ.ps)
        refine am_vc_ok am_k191 [302] 100 ?_
        refine And.intro (fun q => absurd (nI_inj' (by omega) (by decide) (show nI (sSo S i) = nI 2 from q)) h2) (fun _ => ?_)
        exact hd
    refine And.intro (vp_in_nI (N := 16) b1 (by decide)) ?_
    rw [nI_clamp (n := sNm S i) (by omega), e53]
    refine And.intro (fun q => ?_) (fun q => ?_)
    · have q : sSo S i = 1 := nI_inj' (by omega) (by decide) (show nI (sSo S i) = nI 1 from q)
      have hby2 := m_byteAt (l := l) (τ := τ) (t := t) (q := pp + 1) hMs hB (g2 q)
      rw [← nI_1 pp] at hby2
      refine am_vO am_k191 am_h191 rfl rfl rfl rfl (hby) ?_
      refine am_vc_ok am_k191 [85, 249, 235, 302, 308] 100 ?_
      refine am_vO am_k191 am_h191 rfl rfl rfl rfl (hby2) ?_
      refine am_vc_ok am_k191 [85, 249, 235, 302, 308] 100 ?_
      refine go _ ?_
      rw [if_pos q, show (256 : Int32) = nI 256 from rfl, pk_mul, nI_add]
    · have q : ¬ sSo S i = 1 := fun y => q (by rw [y]; rfl)
      refine am_vO am_k191 am_h191 rfl rfl rfl rfl (hby) ?_
      exact go _ (by rw [if_neg q])
end L71
