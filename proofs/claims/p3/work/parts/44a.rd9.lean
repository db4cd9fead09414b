/-! the model's read -/
section L72
variable {l : Launch} {σ σ2 : tI} {τ τ2 : tL} {t : Option (Nat × Nat)} {x N p : Nat} {G : Nat → Int32}
theorem m_rc1 {Q : tQ} {rr n : Nat} {a b c d e : Int32} (hr : rr < 6) (hn : n ≤ 60) (h16 : σ 12 0 16 = nI n) (K : am_G l 191 Q 0 0 372 [(7, aI (nI n)), (6, aI a), (5, aI b), (0, aR 12 0), (1, aI c), (2, aI d), (3, aI e), (4, aI (nI rr))] [] (cp3 σ 45 0 52 0 0 (60 * rr) n) τ (rX t) cX lX) : ∀ (f k : Nat), k + f = n → am_G l 191 Q 0 0 337 [(7, aI (nI k)), (6, aI a), (5, aI b), (0, aR 12 0), (1, aI c), (2, aI d), (3, aI e), (4, aI (nI rr))] [] (cp3 σ 45 0 52 0 0 (60 * rr) k) τ (rX t) cX lX
  | 0, k, h => by
    obtain rfl : k = n := by omega
    have e16 : cp3 σ 45 0 52 0 0 (60 * rr) k 12 0 16 = nI k := by rw [cp3_kk (by decide)]; exact h16
    refine am_vc_ok am_k191 [337, 372] 100 ?_
    refine And.intro (fun _ => K) (fun h1 => absurd (by rw [e16]; exact nI_le (Nat.le_refl _) (by omega)) h1)
  | f + 1, k, h => by
    have K2 := m_rc1 hr hn h16 K f (k + 1) (by omega)
    have e16 : cp3 σ 45 0 52 0 0 (60 * rr) k 12 0 16 = nI n := by rw [cp3_kk (by decide)]; exact h16
    have e1 := cp3_1 (σ := σ) (k1 := 45) (o1 := 0) (k0 := 52) (o0 := 0) (sp := 0) (dp := 60 * rr) (n := k)
    rw [Nat.zero_add] at e1
    have e2 : cp3 σ 45 0 52 0 0 (60 * rr) k 52 0 k = σ 52 0 k := by rw [cp3_kk (by decide)]
    refine am_vc_ok am_k191 [337, 372] 100 ?_
    refine And.intro (fun h1 => absurd h1 (by rw [e16]; exact nI_ge (by omega) (by omega))) (fun _ => ?_)
    refine And.intro (vp_in_nI (N := 400) (by omega) (by decide)) ?_
    rw [nI_clamp (n := k) (by omega), e2]
    refine And.intro (by rw [i60]; exact vp_in_nI (N := 360) (by omega) (by decide)) ?_
    rw [i60, nI_clamp (n := 60 * rr + k) (by omega), e1]
    rw [← nI_1 k] at K2
    exact K2
theorem m_rc2 {Q : tQ} {n : Nat} {a b c d e r : Int32} (hn : n ≤ 60) (h21 : σ 12 0 21 = nI n) (hQ : Q (some (aI (-9))) (cp3 σ 56 0 54 0 0 0 n) τ (rX t) cX lX) : ∀ (f k : Nat), k + f = n → am_G l 191 Q 0 0 411 [(7, aI (nI k)), (6, aI a), (5, aI b), (0, aR 12 0), (1, aI c), (2, aI d), (3, aI e), (4, aI r)] [] (cp3 σ 56 0 54 0 0 0 k) τ (rX t) cX lX
  | 0, k, h => by
    obtain rfl : k = n := by omega
    have e16 : cp3 σ 56 0 54 0 0 0 k 12 0 21 = nI k := by rw [cp3_kk (by decide)]; exact h21
    refine am_vc_ok am_k191 [411] 100 ?_
    refine And.intro (fun _ => ?_) (fun h1 => absurd (by rw [e16]; exact nI_le (Nat.le_refl _) (by omega)) h1)
    exact am_vI am_k191 am_r191 rfl hQ
  | f + 1, k, h => by
    have K2 := m_rc2 (a := a) (b := b) (c := c) (d := d) (e := e) (r := r) hn h21 hQ f (k + 1) (by omega)
    have e16 : cp3 σ 56 0 54 0 0 0 k 12 0 21 = nI n := by rw [cp3_kk (by decide)]; exact h21
    have e1 := cp3_1 (σ := σ) (k1 := 56) (o1 := 0) (k0 := 54) (o0 := 0) (sp := 0) (dp := 0) (n := k)
    rw [Nat.zero_add] at e1
    have e2 : cp3 σ 56 0 54 0 0 0 k 54 0 k = σ 54 0 k := by rw [cp3_kk (by decide)]
    refine am_vc_ok am_k191 [411] 100 ?_
    refine And.intro (fun h1 => absurd h1 (by rw [e16]; exact nI_ge (by omega) (by omega))) (fun _ => ?_)
    refine And.intro (vp_in_nI (N := 60) (by omega) (by decide)) ?_
    rw [nI_clamp (n := k) (by omega), e2]
    refine And.intro (vp_in_nI (N := 60) (by omega) (by decide)) ?_
    rw [nI_clamp (n := k) (by omega), e1]
    rw [← nI_1 k] at K2
    exact K2
/-- the end of a good read -/
abbrev rdE (s : tI) (st : rS) (D : Int32 × wO) (rr : Nat) : tI := cp3 (u3 (u3 (u3 (u3 (cp3 (mfill (u3 s 44 0 rr (nI D.2.1)) 45 (60 * rr) 60 0) 45 0 52 0 0 (60 * rr) D.2.1) 55 0 0 (rRd st)) 55 0 1 (rKp st)) 55 0 2 D.1) 12 0 24 (nI (rUn st).1)) 56 0 54 0 0 0 (rUn st).1
/-- what read leaves in the model -/
def rmQ (σ : tI) (S : aSh) (v : Nat) (G : Nat → Int32) (N rr : Nat) (R : Nat ⊕ rS) (w : Option am_V) (s : tI) : Prop := match R with
  | .inl q => w = some (aI (nI q)) ∧ rmF σ s
  | .inr st => if (dcP S v G N st (sN S) 0 0 o0).2.1 ≤ 60 then w = some (aI (-9)) ∧ ∃ s1, rmF σ s1 ∧ rM s1 st ∧ wJ s1 (dcP S v G N st (sN S) 0 0 o0).2 ∧ s = rdE s1 st (dcP S v G N st (sN S) 0 0 o0) rr else w = some (aI (-3)) ∧ ∃ s1, rmF σ s1 ∧ s = mmeets 2 s1
theorem m_readB {a b c d : Int32} (h : ¬ ((0 ≤ a ∧ a ≤ 3) ∧ (0 ≤ b ∧ b ≤ 9) ∧ (0 ≤ c ∧ c ≤ 5) ∧ (0 ≤ d ∧ d ≤ 5))) : am_D l 191 [aR 12 0, aI a, aI b, aI c, aI d] σ τ (rX t) cX lX (some (aI (-1))) σ τ (rX t) := by
  refine am_D_of am_o191 am_l191 rfl ?_
  refine am_vc_ok am_k191 [] 100 ?_
  refine am_vS am_k191 am_h191 rfl rfl rfl rfl (m_isShape) ?_
  refine am_vc_ok am_k191 [] 100 ?_
  refine And.intro (fun h1 => ?_) (fun h1 => ?_)
  · exact am_vI am_k191 am_r191 rfl ⟨rfl, rfl, rfl, rfl, rfl, rfl⟩
  refine am_vS am_k191 am_h191 rfl rfl rfl rfl (m_isVersion) ?_
  refine am_vc_ok am_k191 [] 100 ?_
  refine And.intro (fun h2 => ?_) (fun h2 => ?_)
  · exact am_vI am_k191 am_r191 rfl ⟨rfl, rfl, rfl, rfl, rfl, rfl⟩
  refine am_vS am_k191 am_h191 rfl rfl rfl rfl (m_isSix) ?_
  refine am_vc_ok am_k191 [] 100 ?_
  refine And.intro (fun h3 => ?_) (fun h3 => ?_)
  · exact am_vI am_k191 am_r191 rfl ⟨rfl, rfl, rfl, rfl, rfl, rfl⟩
  refine am_vS am_k191 am_h191 rfl rfl rfl rfl (m_isSix) ?_
  refine am_vc_ok am_k191 [] 100 ?_
  refine And.intro (fun h4 => ?_) (fun h4 => ?_)
  · exact am_vI am_k191 am_r191 rfl ⟨rfl, rfl, rfl, rfl, rfl, rfl⟩
  · exact absurd ⟨bI_1.mp h1, bI_1.mp h2, bI_1.mp h4, bI_1.mp h3⟩ h
theorem m_read_no {s v rr : Nat} (hs : s < 4) (hv : v < 10) (hx : x < 6) (hr : rr < 6) (h0 : σ 49 0 s < 0 ∨ σ 47 0 x < 0) : am_D l 191 [aR 12 0, aI (nI s), aI (nI v), aI (nI x), aI (nI rr)] σ τ (rX t) cX lX (some (aI (-3))) (mmeets 1 σ) τ (rX t) := by
  refine am_D_of am_o191 am_l191 rfl ?_
  refine am_vc_ok am_k191 [] 100 ?_
  refine am_vS am_k191 am_h191 rfl rfl rfl rfl (m_isShape) ?_
  refine am_vc_ok am_k191 [] 100 ?_
  refine And.intro (fun g => absurd (in3 hs) (bI_0.mp g)) (fun _ => ?_)
  refine am_vS am_k191 am_h191 rfl rfl rfl rfl (m_isVersion) ?_
  refine am_vc_ok am_k191 [] 100 ?_
  refine And.intro (fun g => absurd (in9 hv) (bI_0.mp g)) (fun _ => ?_)
  refine am_vS am_k191 am_h191 rfl rfl rfl rfl (m_isSix) ?_
  refine am_vc_ok am_k191 [] 100 ?_
  refine And.intro (fun g => absurd (in5 hr) (bI_0.mp g)) (fun _ => ?_)
  refine am_vS am_k191 am_h191 rfl rfl rfl rfl (m_isSix) ?_
  refine am_vc_ok am_k191 [] 100 ?_
  refine And.intro (fun g => absurd (in5 hx) (bI_0.mp g)) (fun _ => ?_)
  refine And.intro (vp_in_nI (N := 4) hs (by decide)) ?_
  rw [nI_clamp (n := s) (by omega)]
  refine And.intro (fun z => ?_) (fun z => ?_)
  · refine am_vO am_k191 am_h191 rfl rfl rfl rfl (m_meets (w := 1) (by decide)) ?_
    refine am_vc_ok am_k191 [] 100 ?_
    exact am_vI am_k191 am_r191 rfl ⟨rfl, rfl, rfl, rfl, rfl, rfl⟩
  · refine And.intro (vp_in_nI (N := 6) hx (by decide)) ?_
    rw [nI_clamp (n := x) (by omega)]
    refine And.intro (fun y => absurd (h0.resolve_left z) (Int32.not_lt.mpr y)) (fun y => ?_)
    refine am_vO am_k191 am_h191 rfl rfl rfl rfl (m_meets (w := 1) (by decide)) ?_
    refine am_vc_ok am_k191 [] 100 ?_
    exact am_vI am_k191 am_r191 rfl ⟨rfl, rfl, rfl, rfl, rfl, rfl⟩
theorem m_read {s v rr : Nat} {S : aSh} (hs : s < 4) (hv : v < 10) (hr : rr < 6) (hS : ShOK S) (h49 : σ 49 0 s = nI (sN S)) (hX : MItems σ s S) (h : M0 σ x N G) (hB : ∀ j, j < N → isB (G j)) : am_T l 191 [aR 12 0, aI (nI s), aI (nI v), aI (nI x), aI (nI rr)] σ τ t (fun w s2 τ2 t2 => τ2 = τ ∧ t2 = t ∧ rmQ σ S v G N rr (rdA S v G N st0 0) w s2) := by
  have s12 := hS.1
  have hN := h.2.1
  have hx := h.2.2.1
  have h0 : ¬ σ 49 0 s < 0 := by rw [h49]; exact nI_pos (by omega)
  have h01 : ¬ σ 47 0 x < 0 := by rw [h.1]; exact nI_pos (by omega)
  refine am_T_of am_o191 am_l191 rfl ?_
  refine am_vc_ok am_k191 [85] 100 ?_
  refine am_vS am_k191 am_h191 rfl rfl rfl rfl (m_isShape) ?_
  refine am_vc_ok am_k191 [85] 100 ?_
  refine And.intro (fun g => absurd (in3 hs) (bI_0.mp g)) (fun _ => ?_)
  refine am_vS am_k191 am_h191 rfl rfl rfl rfl (m_isVersion) ?_
  refine am_vc_ok am_k191 [85] 100 ?_
  refine And.intro (fun g => absurd (in9 hv) (bI_0.mp g)) (fun _ => ?_)
  refine am_vS am_k191 am_h191 rfl rfl rfl rfl (m_isSix) ?_
  refine am_vc_ok am_k191 [85] 100 ?_
  refine And.intro (fun g => absurd (in5 hr) (bI_0.mp g)) (fun _ => ?_)
  refine am_vS am_k191 am_h191 rfl rfl rfl rfl (m_isSix) ?_
  refine am_vc_ok am_k191 [85] 100 ?_
  refine And.intro (fun g => absurd (in5 hx) (bI_0.mp g)) (fun _ => ?_)
  refine And.intro (vp_in_nI (N := 4) hs (by decide)) ?_
  rw [nI_clamp (n := s) (by omega)]
  refine And.intro (fun y => absurd y h0) (fun _ => ?_)
  refine And.intro (vp_in_nI (N := 6) hx (by decide)) ?_
  rw [nI_clamp (n := x) (by omega)]
  refine And.intro (fun _ => ?_) (fun y => absurd (Int32.not_lt.mp h01) y)
  refine am_vOT am_k191 am_h191 rfl rfl rfl rfl (m_goThrough hs hv hS h49 hX h hB) ?_
  rintro w s1 τ2 t2 ⟨rfl, rfl, hf, hQ⟩
  cases e : rdA S v G N st0 0 with
  | inl q =>
    rw [e] at hQ
    have hQ : w = some (aI (nI q)) := hQ
    subst hQ
    have hq : q ≤ N := rdP_f _ _ _ _ e
    refine am_vc_ok am_k191 [85] 100 ?_
    refine And.intro (fun y => absurd y (n9_4 (by omega))) (fun _ => ?_)
    exact am_vI am_k191 am_r191 rfl ⟨_, rfl, rfl, rfl, rfl, rfl, rfl, hf⟩
  | inr st =>
    rw [e] at hQ
    obtain ⟨rfl, hC⟩ := hQ
    have hin : rIn S v G N st N := rdP_in hB (N + 1) 0 st0 st (by omega) (by omega) st0_in e
    refine am_vc_ok am_k191 [85] 100 ?_
    refine And.intro (fun _ => ?_) (fun y => absurd rfl y)
    refine am_Gp (ls2 := [(7, aI (nI 0)), (6, aI 0), (5, aI (-9)), (0, aR 12 0), (1, aI (nI s)), (2, aI (nI v)), (3, aI (nI x)), (4, aI (nI rr))]) [0, 1, 2, 3, 4, 5, 6, 7] rfl ?_
    have hM1 : rM (u3 s1 12 0 16 0) st := by
      obtain ⟨h1, h2, h3, h4, h5⟩ := hC
      exact ⟨by rw [u3_j _ _ (by decide)]; exact h1, by rw [u3_j _ _ (by decide)]; exact h2, fun a ha hb => by rw [u3_k _ _ (by decide)]; exact h3 a ha hb, by rw [u3_j _ _ (by decide)]; exact h4, fun j hj => by rw [u3_k _ _ (by decide)]; exact h5 j hj⟩
    refine m_rdc_lp (σ := σ) hs hv hS h49 hX h hB hin ?_ (sN S) 0 0 o0 _ (by omega) (by decide) rfl (hf.w (by decide)) hM1 ⟨u3_eq _ _ _ _ _, fun j hj => absurd hj (Nat.not_lt_zero j)⟩
    intro s2 q hf2 hM2 hJ2 ho2
    generalize hD : dcP S v G N st (sN S) 0 0 o0 = D at *
    refine am_vc_ok am_k191 [337] 100 ?_
    refine And.intro (fun y => ?_) (fun y => ?_)
    · have y : s2 12 0 16 ≤ 60 := y
      rw [hJ2.1, show (60 : Int32) = nI 60 from rfl, nI_leI (by omega) (by decide)] at y
      have hu : (rUn st).1 ≤ 60 := Nat.le_trans hin.2.1 hN
      have hrow := m_row (l := l) (σ := s2) (τ := τ2) (t := t2) hr y
      rw [← hJ2.1] at hrow
      refine am_vO am_k191 am_h191 rfl rfl rfl rfl (hrow) ?_
      refine am_vc_ok am_k191 [337] 100 ?_
      rw [hJ2.1]
      generalize hs3 : mfill (u3 s2 44 0 rr (nI D.2.1)) 45 (60 * rr) 60 0 = s3
      have e3 : ∀ q, q ≠ 44 → q ≠ 45 → s3 q = s2 q := fun q a1 a2 => by
        rw [← hs3]
        funext b c
        simp [mfill, u3, a1, a2]
      have f16 : s3 12 0 16 = nI D.2.1 := by rw [e3 12 (by decide) (by decide)]; exact hJ2.1
      refine am_Gs (σ2 := cp3 s3 45 0 52 0 0 (60 * rr) 0) cp3_0.symm ?_
      refine am_Gp (ls2 := [(7, aI (nI 0)), (6, aI D.1), (5, aI (-9)), (0, aR 12 0), (1, aI (nI s)), (2, aI (nI v)), (3, aI (nI x)), (4, aI (nI rr))]) [0, 1, 2, 3, 4, 5, 6, 7] rfl ?_
      refine m_rc1 hr y f16 ?_ D.2.1 0 (by omega)
      generalize hs4 : cp3 s3 45 0 52 0 0 (60 * rr) D.2.1 = s4
      have e4 : ∀ q, q ≠ 44 → q ≠ 45 → s4 q = s2 q := fun q a1 a2 => by rw [← hs4, cp3_kk a2]; exact e3 q a1 a2
      have g19 : s4 12 0 19 = rRd st := by rw [e4 12 (by decide) (by decide)]; exact hM2.1
      have g20 : s4 12 0 20 = rKp st := by rw [e4 12 (by decide) (by decide)]; exact hM2.2.1
      have g21 : s4 12 0 21 = nI (rUn st).1 := by rw [e4 12 (by decide) (by decide)]; exact hM2.2.2.2.1
      refine am_vc_ok am_k191 [411] 100 ?_
      refine And.intro (vp_in_nI (N := 3) (show 0 < 3 by decide) (by decide)) ?_
      rw [g19]
      refine And.intro (vp_in_nI (N := 3) (show 1 < 3 by decide) (by decide)) ?_
      rw [u3_k (a := 12) (b := 0) (c := 20) _ _ (by decide), g20]
      refine And.intro (vp_in_nI (N := 3) (show 2 < 3 by decide) (by decide)) ?_
      refine am_Gs (σ2 := cp3 (u3 (u3 (u3 (u3 s4 55 0 0 (rRd st)) 55 0 1 (rKp st)) 55 0 2 D.1) 12 0 24 (nI (rUn st).1)) 56 0 54 0 0 0 0) ?_ ?_
      · rw [cp3_0, u3_k (a := 12) (b := 0) (c := 21) _ _ (by decide), u3_k (a := 12) (b := 0) (c := 21) _ _ (by decide), u3_k (a := 12) (b := 0) (c := 21) _ _ (by decide), g21]
        rfl
      refine am_Gp (ls2 := [(7, aI (nI 0)), (6, aI D.1), (5, aI (-9)), (0, aR 12 0), (1, aI (nI s)), (2, aI (nI v)), (3, aI (nI x)), (4, aI (nI rr))]) [0, 1, 2, 3, 4, 5, 6, 7] rfl ?_
      refine m_rc2 hu (by rw [u3_j _ _ (by decide), u3_k _ _ (by decide), u3_k _ _ (by decide), u3_k _ _ (by decide)]; exact g21) ?_ (rUn st).1 0 (by omega)
      refine ⟨_, rfl, rfl, rfl, rfl, rfl, ?_⟩
      show (if (dcP S v G N st (sN S) 0 0 o0).2.1 ≤ 60 then _ else _)
      rw [hD, if_pos y]
      exact ⟨rfl, s2, hf2, hM2, hJ2, by rw [rdE, hs3, hs4]⟩
    · have y : ¬ s2 12 0 16 ≤ 60 := y
      rw [hJ2.1, show (60 : Int32) = nI 60 from rfl, nI_leI (by omega) (by decide)] at y
      refine am_vO am_k191 am_h191 rfl rfl rfl rfl (m_meets (w := 2) (by decide)) ?_
      refine am_vc_ok am_k191 [411] 100 ?_
      refine am_vI am_k191 am_r191 rfl ⟨_, rfl, rfl, rfl, rfl, rfl, ?_⟩
      show (if (dcP S v G N st (sN S) 0 0 o0).2.1 ≤ 60 then _ else _)
      rw [hD, if_neg y]
      exact ⟨rfl, s2, hf2, rfl⟩
end L72
