/-! CASES OF THE LAW: fault, shape -/
section L57
variable {l : Launch} {σ σ2 : tI} {τ τ2 : tL} {t : Option (Nat × Nat)} {x N p : Nat} {G : Nat → Int32}
theorem x_faultB {r : Int32} (hr : ¬ (0 ≤ r ∧ r < 6)) : am_D l 101 [aR 11 0, aI r] σ τ (rX t) cX lX (some (aI (-1))) σ τ (rX t) := by
  refine am_D_of am_o101 am_l101 rfl ?_
  refine am_vc_ok am_k101 [] 100 ?_
  refine am_vS am_k101 am_h101 rfl rfl rfl rfl (x_within) ?_
  refine am_vc_ok am_k101 [] 100 ?_
  refine And.intro (fun h => ?_) (fun h => ?_)
  · exact am_vI am_k101 am_r101 rfl ⟨rfl, rfl, rfl, rfl, rfl, rfl⟩
  · exact absurd (bI_1.mp h) hr
theorem x_fault_no (hx : x < 6) (h0 : σ 6 (10 + x) 0 = 0) : am_D l 101 [aR 11 0, aI (nI x)] σ τ (rX t) cX lX (some (aI (-3))) (xfind 1 σ) τ (rX t) := by
  refine am_D_of am_o101 am_l101 rfl ?_
  refine am_vc_ok am_k101 [] 100 ?_
  refine am_vS am_k101 am_h101 rfl rfl rfl rfl (x_within) ?_
  refine am_vc_ok am_k101 [] 100 ?_
  refine And.intro (fun g => absurd (in6 hx) (bI_0.mp g)) (fun _ => ?_)
  refine And.intro (vp_in_nI (N := 6) hx (by decide)) ?_
  rw [nI_clamp (n := x) (by omega)]
  refine And.intro (fun _ => ?_) (fun g => absurd h0 g)
  refine am_vO am_k101 am_h101 rfl rfl rfl rfl (x_find (w := 1) (by decide)) ?_
  refine am_vc_ok am_k101 [] 100 ?_
  exact am_vI am_k101 am_r101 rfl ⟨rfl, rfl, rfl, rfl, rfl, rfl⟩
theorem x_fault (hx : x < 6) (h0 : ¬ σ 6 (10 + x) 0 = 0) (h : K0 σ (10 + x) N G) (hB : ∀ j, j < N → isB (G j)) : am_T l 101 [aR 11 0, aI (nI x)] σ τ t (fun v s τ2 t2 => τ2 = τ ∧ t2 = some (6, 10 + x) ∧ faQ σ (pA (sgN G N) N S0 0) v s) := by
  refine am_T_of am_o101 am_l101 rfl ?_
  refine am_vc_ok am_k101 [] 100 ?_
  refine am_vS am_k101 am_h101 rfl rfl rfl rfl (x_within) ?_
  refine am_vc_ok am_k101 [] 100 ?_
  refine And.intro (fun g => absurd (in6 hx) (bI_0.mp g)) (fun _ => ?_)
  refine And.intro (vp_in_nI (N := 6) hx (by decide)) ?_
  rw [nI_clamp (n := x) (by omega)]
  refine And.intro (fun g => absurd g h0) (fun _ => ?_)
  refine And.intro (vp_in_nI (N := 6) hx (by decide)) ?_
  rw [nI_clamp (n := x) (by omega)]
  refine am_vOT am_k101 am_h101 rfl rfl rfl rfl (x_faultOf h hB) ?_
  rintro v s τ2 t2 ⟨rfl, rfl, hQ⟩
  obtain ⟨w, rfl⟩ : ∃ w : Int32, v = some (aI w) := by
    have := hQ.2
    cases e : pA (sgN G N) N S0 0 with
    | inl q => rw [e] at this; exact ⟨_, this⟩
    | inr S => rw [e] at this; exact ⟨_, this.1⟩
  refine am_vc_ok am_k101 [] 100 ?_
  exact am_vI am_k101 am_r101 rfl ⟨_, rfl, rfl, rfl, rfl, rfl, hQ⟩
theorem x_shapeB {s r : Int32} (hr : ¬ ((0 ≤ s ∧ s < 4) ∧ (0 ≤ r ∧ r < 6))) : am_D l 102 [aR 11 0, aI s, aI r] σ τ (rX t) cX lX (some (aI (-1))) σ τ (rX t) := by
  refine am_D_of am_o102 am_l102 rfl ?_
  refine am_vc_ok am_k102 [] 100 ?_
  refine am_vS am_k102 am_h102 rfl rfl rfl rfl (x_within) ?_
  refine am_vc_ok am_k102 [] 100 ?_
  refine And.intro (fun h => ?_) (fun h => ?_)
  · exact am_vI am_k102 am_r102 rfl ⟨rfl, rfl, rfl, rfl, rfl, rfl⟩
  · refine am_vS am_k102 am_h102 rfl rfl rfl rfl (x_within) ?_
    refine am_vc_ok am_k102 [] 100 ?_
    refine And.intro (fun g => ?_) (fun g => ?_)
    · exact am_vI am_k102 am_r102 rfl ⟨rfl, rfl, rfl, rfl, rfl, rfl⟩
    · exact absurd ⟨bI_1.mp h, bI_1.mp g⟩ hr
theorem x_shape_no {s : Nat} (hs : s < 4) (hx : x < 6) (h0 : σ 6 (10 + x) 0 = 0) : am_D l 102 [aR 11 0, aI (nI s), aI (nI x)] σ τ (rX t) cX lX (some (aI (-3))) (xfind 1 σ) τ (rX t) := by
  refine am_D_of am_o102 am_l102 rfl ?_
  refine am_vc_ok am_k102 [] 100 ?_
  refine am_vS am_k102 am_h102 rfl rfl rfl rfl (x_within) ?_
  refine am_vc_ok am_k102 [] 100 ?_
  refine And.intro (fun g => absurd (in4 hs) (bI_0.mp g)) (fun _ => ?_)
  refine am_vS am_k102 am_h102 rfl rfl rfl rfl (x_within) ?_
  refine am_vc_ok am_k102 [] 100 ?_
  refine And.intro (fun g => absurd (in6 hx) (bI_0.mp g)) (fun _ => ?_)
  refine And.intro (vp_in_nI (N := 6) hx (by decide)) ?_
  rw [nI_clamp (n := x) (by omega)]
  refine And.intro (fun _ => ?_) (fun g => absurd h0 g)
  refine am_vO am_k102 am_h102 rfl rfl rfl rfl (x_find (w := 1) (by decide)) ?_
  refine am_vc_ok am_k102 [] 100 ?_
  exact am_vI am_k102 am_r102 rfl ⟨rfl, rfl, rfl, rfl, rfl, rfl⟩
/-- what shape leaves in the class -/
def shQ (σ : tI) (i : Nat) (R : Nat ⊕ aSh) (v : Option am_V) (s2 : tI) : Prop := match R with
  | .inl _ => v = some (aI (-4)) ∧ scP σ s2
  | .inr S => v = some (aI (nI (sN S))) ∧ ShOK S ∧ (∃ s1, scP σ s1 ∧ bcf s1 s2 i) ∧ s2 9 i 0 = 1 ∧ s2 9 i 1 = nI (sN S) ∧ XItems s2 i S ∧ XIndex s2 i S
theorem x_shape {s : Nat} (hs : s < 4) (hx : x < 6) (h0 : ¬ σ 6 (10 + x) 0 = 0) (h : K0 σ (10 + x) N G) (hB : ∀ j, j < N → isB (G j)) : am_T l 102 [aR 11 0, aI (nI s), aI (nI x)] σ τ t (fun v s2 τ2 t2 => τ2 = τ ∧ t2 = some (6, 10 + x) ∧ shQ σ (1 + s) (pA (sgN G N) N S0 0) v s2) := by
  refine am_T_of am_o102 am_l102 rfl ?_
  refine am_vc_ok am_k102 [] 100 ?_
  refine am_vS am_k102 am_h102 rfl rfl rfl rfl (x_within) ?_
  refine am_vc_ok am_k102 [] 100 ?_
  refine And.intro (fun g => absurd (in4 hs) (bI_0.mp g)) (fun _ => ?_)
  refine am_vS am_k102 am_h102 rfl rfl rfl rfl (x_within) ?_
  refine am_vc_ok am_k102 [] 100 ?_
  refine And.intro (fun g => absurd (in6 hx) (bI_0.mp g)) (fun _ => ?_)
  refine And.intro (vp_in_nI (N := 6) hx (by decide)) ?_
  rw [nI_clamp (n := x) (by omega)]
  refine And.intro (fun g => absurd g h0) (fun _ => ?_)
  refine And.intro (vp_in_nI (N := 6) hx (by decide)) ?_
  rw [nI_clamp (n := x) (by omega)]
  refine am_vOT am_k102 am_h102 rfl rfl rfl rfl (x_faultOf h hB) ?_
  rintro v s1 τ2 t2 ⟨rfl, rfl, hsc, hQ⟩
  cases e : pA (sgN G N) N S0 0 with
  | inl q =>
    rw [e] at hQ
    have hQ : v = some (aI (nI q)) := hQ
    subst hQ
    have hq : q < 1000 := by
      have := pA_f (sg := sgN G N) (N := N) sgN_N (p := 0) (by omega) e
      have := h.2.1
      omega
    refine am_vc_ok am_k102 [] 100 ?_
    refine And.intro (fun z => absurd z (n9_4 hq)) (fun _ => ?_)
    exact am_vI am_k102 am_r102 rfl ⟨_, rfl, rfl, rfl, rfl, rfl, rfl, hsc⟩
  | inr S =>
    rw [e] at hQ
    obtain ⟨rfl, j1, j2, j3⟩ := hQ
    refine am_vc_ok am_k102 [] 100 ?_
    refine And.intro (fun _ => ?_) (fun z => absurd rfl z)
    refine And.intro (vp_in_nI (N := 4) hs (by decide)) ?_
    rw [nI_clamp (n := s) (by omega)]
    refine am_vOT am_k102 am_h102 rfl rfl rfl rfl (x_become (i := 1 + s) (by omega) j3 j1 j2) ?_
    rintro v s2 τ2 t2 ⟨rfl, rfl, rfl, hb, i1, i2, i3, i4⟩
    refine am_vc_ok am_k102 [] 100 ?_
    refine And.intro (vp_in_nI (N := 4) hs (by decide)) ?_
    rw [nI_clamp (n := s) (by omega)]
    refine am_vI am_k102 am_r102 rfl ⟨_, rfl, rfl, rfl, rfl, rfl, ?_, j3, ⟨s1, hsc, hb⟩, i1, i2, i3, i4⟩
    exact congrArg (fun x => some (aI x)) i2
theorem m_faultB {r : Int32} (hr : ¬ (0 ≤ r ∧ r ≤ 5)) : am_D l 179 [aR 12 0, aI r] σ τ (rX t) cX lX (some (aI (-1))) σ τ (rX t) := by
  refine am_D_of am_o179 am_l179 rfl ?_
  refine am_vc_ok am_k179 [] 100 ?_
  refine am_vO am_k179 am_h179 rfl rfl rfl rfl (m_askedText_bad hr) ?_
  refine am_vc_ok am_k179 [] 100 ?_
  refine And.intro (fun g => absurd g (by decide)) (fun _ => ?_)
  exact am_vI am_k179 am_r179 rfl ⟨rfl, rfl, rfl, rfl, rfl, rfl⟩
theorem m_fault_no (hx : x < 6) (h0 : σ 47 0 x < 0) : am_D l 179 [aR 12 0, aI (nI x)] σ τ (rX t) cX lX (some (aI (-3))) (mmeets 1 σ) τ (rX t) := by
  refine am_D_of am_o179 am_l179 rfl ?_
  refine am_vc_ok am_k179 [] 100 ?_
  refine am_vO am_k179 am_h179 rfl rfl rfl rfl (m_askedText hx) ?_
  refine am_vc_ok am_k179 [] 100 ?_
  simp only [if_pos h0]
  refine And.intro (fun g => absurd g (by decide)) (fun _ => ?_)
  exact am_vI am_k179 am_r179 rfl ⟨rfl, rfl, rfl, rfl, rfl, rfl⟩
theorem m_fault (h : M0 σ x N G) : am_T l 179 [aR 12 0, aI (nI x)] σ τ t (fun v s τ2 t2 => τ2 = τ ∧ t2 = t ∧ rsQ σ (pA (sgN G N) N S0 0) v s) := by
  have hx := h.2.2.1
  have h0 : ¬ σ 47 0 x < 0 := by rw [h.1]; exact nI_pos (by have := h.2.1; omega)
  refine am_T_of am_o179 am_l179 rfl ?_
  refine am_vc_ok am_k179 [] 100 ?_
  refine am_vO am_k179 am_h179 rfl rfl rfl rfl (m_askedText hx) ?_
  refine am_vc_ok am_k179 [] 100 ?_
  simp only [if_neg h0]
  refine And.intro (fun _ => ?_) (fun g => absurd (by decide) g)
  refine am_vOT am_k179 am_h179 rfl rfl rfl rfl (m_reads h) ?_
  rintro v s τ2 t2 ⟨rfl, rfl, hQ⟩
  obtain ⟨w, rfl⟩ : ∃ w : Int32, v = some (aI w) := by
    have := hQ.2
    cases e : pA (sgN G N) N S0 0 with
    | inl q => rw [e] at this; exact ⟨_, this⟩
    | inr S => rw [e] at this; exact ⟨_, this.1⟩
  refine am_vc_ok am_k179 [] 100 ?_
  exact am_vI am_k179 am_r179 rfl ⟨_, rfl, rfl, rfl, rfl, rfl, hQ⟩
theorem m_shapeB {s r : Int32} (hr : ¬ ((0 ≤ s ∧ s ≤ 3) ∧ (0 ≤ r ∧ r ≤ 5))) : am_D l 180 [aR 12 0, aI s, aI r] σ τ (rX t) cX lX (some (aI (-1))) σ τ (rX t) := by
  refine am_D_of am_o180 am_l180 rfl ?_
  refine am_vc_ok am_k180 [] 100 ?_
  refine am_vS am_k180 am_h180 rfl rfl rfl rfl (m_isShape) ?_
  refine am_vc_ok am_k180 [] 100 ?_
  refine And.intro (fun h => ?_) (fun h => ?_)
  · exact am_vI am_k180 am_r180 rfl ⟨rfl, rfl, rfl, rfl, rfl, rfl⟩
  · refine am_vS am_k180 am_h180 rfl rfl rfl rfl (m_isSix) ?_
    refine am_vc_ok am_k180 [] 100 ?_
    refine And.intro (fun g => ?_) (fun g => ?_)
    · exact am_vI am_k180 am_r180 rfl ⟨rfl, rfl, rfl, rfl, rfl, rfl⟩
    · exact absurd ⟨bI_1.mp h, bI_1.mp g⟩ hr
theorem m_shape_no {s : Nat} (hs : s < 4) (hx : x < 6) (h0 : σ 47 0 x < 0) : am_D l 180 [aR 12 0, aI (nI s), aI (nI x)] σ τ (rX t) cX lX (some (aI (-3))) (mmeets 1 σ) τ (rX t) := by
  refine am_D_of am_o180 am_l180 rfl ?_
  refine am_vc_ok am_k180 [] 100 ?_
  refine am_vS am_k180 am_h180 rfl rfl rfl rfl (m_isShape) ?_
  refine am_vc_ok am_k180 [] 100 ?_
  refine And.intro (fun g => absurd (in3 hs) (bI_0.mp g)) (fun _ => ?_)
  refine am_vS am_k180 am_h180 rfl rfl rfl rfl (m_isSix) ?_
  refine am_vc_ok am_k180 [] 100 ?_
  refine And.intro (fun g => absurd (in5 hx) (bI_0.mp g)) (fun _ => ?_)
  refine And.intro (vp_in_nI (N := 6) hx (by decide)) ?_
  rw [nI_clamp (n := x) (by omega)]
  refine And.intro (fun g => absurd h0 (Int32.not_lt.mpr g)) (fun _ => ?_)
  refine am_vO am_k180 am_h180 rfl rfl rfl rfl (m_meets (w := 1) (by decide)) ?_
  refine am_vc_ok am_k180 [] 100 ?_
  exact am_vI am_k180 am_r180 rfl ⟨rfl, rfl, rfl, rfl, rfl, rfl⟩
theorem m_sh_lp {Q : tQ} {s : Nat} (hs : s < 4) {xx : Int32} (K : am_G l 180 Q 0 0 85 [(3, aI (nI 72)), (0, aR 12 0), (1, aI (nI s)), (2, aI xx)] [] (cp3 σ 50 0 51 0 0 (72 * s) 72) τ (rX t) cX lX) : ∀ (d k : Nat), k + d = 72 → am_G l 180 Q 0 0 56 [(3, aI (nI k)), (0, aR 12 0), (1, aI (nI s)), (2, aI xx)] [] (cp3 σ 50 0 51 0 0 (72 * s) k) τ (rX t) cX lX
  | 0, k, h => by
    obtain rfl : k = 72 := by omega
    refine am_vc_ok am_k180 [56, 85] 100 ?_
    exact And.intro (fun _ => K) (fun h1 => absurd (show (72 : Int32) ≤ nI 72 by decide) h1)
  | d + 1, k, h => by
    have K2 := m_sh_lp hs K d (k + 1) (by omega)
    have ei : 72 * nI s + nI k = nI (72 * s + k) := by rw [show (72 : Int32) = nI 72 from rfl, pk_mul, nI_add]
    have e := cp3_1 (σ := σ) (k1 := 50) (o1 := 0) (k0 := 51) (o0 := 0) (sp := 0) (dp := 72 * s) (n := k)
    rw [Nat.zero_add] at e
    have e2 : cp3 σ 50 0 51 0 0 (72 * s) k 51 0 k = σ 51 0 k := by rw [cp3_kk (by decide)]
    refine am_vc_ok am_k180 [56, 85] 100 ?_
    refine And.intro (fun h1 => absurd h1 (nI_ge (b := 72) (by omega) (by decide))) (fun _ => ?_)
    refine And.intro (vp_in_nI (N := 72) (by omega) (by decide)) ?_
    rw [nI_clamp (n := k) (by omega), e2]
    refine And.intro (by rw [ei]; exact vp_in_nI (N := 288) (by omega) (by decide)) ?_
    rw [ei, nI_clamp (n := 72 * s + k) (by omega), e]
    rw [← nI_1 k] at K2
    exact K2
/-- what shape leaves in the model -/
def mhQ (σ : tI) (s : Nat) (R : Nat ⊕ aSh) (v : Option am_V) (s2 : tI) : Prop := match R with
  | .inl _ => v = some (aI (-4)) ∧ rdF σ s2
  | .inr S => v = some (aI (nI (sN S))) ∧ ∃ s1, rdF σ s1 ∧ RP s1 S ∧ s2 = cp3 (u3 s1 49 0 s (nI (sN S))) 50 0 51 0 0 (72 * s) 72
theorem m_shape {s : Nat} (hs : s < 4) (h : M0 σ x N G) : am_T l 180 [aR 12 0, aI (nI s), aI (nI x)] σ τ t (fun v s2 τ2 t2 => τ2 = τ ∧ t2 = t ∧ mhQ σ s (pA (sgN G N) N S0 0) v s2) := by
  have hx := h.2.2.1
  have h0 : ¬ σ 47 0 x < 0 := by rw [h.1]; exact nI_pos (by have := h.2.1; omega)
  refine am_T_of am_o180 am_l180 rfl ?_
  refine am_vc_ok am_k180 [56] 100 ?_
  refine am_vS am_k180 am_h180 rfl rfl rfl rfl (m_isShape) ?_
  refine am_vc_ok am_k180 [56] 100 ?_
  refine And.intro (fun g => absurd (in3 hs) (bI_0.mp g)) (fun _ => ?_)
  refine am_vS am_k180 am_h180 rfl rfl rfl rfl (m_isSix) ?_
  refine am_vc_ok am_k180 [56] 100 ?_
  refine And.intro (fun g => absurd (in5 hx) (bI_0.mp g)) (fun _ => ?_)
  refine And.intro (vp_in_nI (N := 6) hx (by decide)) ?_
  rw [nI_clamp (n := x) (by omega)]
  refine And.intro (fun _ => ?_) (fun g => absurd (Int32.not_lt.mp h0) g)
  refine am_vOT am_k180 am_h180 rfl rfl rfl rfl (m_reads h) ?_
  rintro v s1 τ2 t2 ⟨rfl, rfl, hsc, hQ⟩
  cases e : pA (sgN G N) N S0 0 with
  | inl q =>
    rw [e] at hQ
    have hQ : v = some (aI (nI q)) := hQ
    subst hQ
    have hq : q < 1000 := by
      have := pA_f (sg := sgN G N) (N := N) sgN_N (p := 0) (by omega) e
      have := h.2.1
      omega
    refine am_vc_ok am_k180 [56] 100 ?_
    refine And.intro (fun z => absurd z (n9_4 hq)) (fun _ => ?_)
    exact am_vI am_k180 am_r180 rfl ⟨_, rfl, rfl, rfl, rfl, rfl, rfl, hsc⟩
  | inr S =>
    rw [e] at hQ
    obtain ⟨rfl, j1, j2, j3⟩ := hQ
    refine am_vc_ok am_k180 [56] 100 ?_
    refine And.intro (fun _ => ?_) (fun z => absurd rfl z)
    refine And.intro (vp_in_nI (N := 4) hs (by decide)) ?_
    rw [nI_clamp (n := s) (by omega), j1]
    refine am_Gs (σ2 := cp3 (u3 s1 49 0 s (nI (sN S))) 50 0 51 0 0 (72 * s) 0) cp3_0.symm ?_
    refine am_Gp (ls2 := [(3, aI (nI 0)), (0, aR 12 0), (1, aI (nI s)), (2, aI (nI x))]) [0, 1, 2, 3] rfl ?_
    refine m_sh_lp hs ?_ 72 0 (by omega)
    refine am_vc_ok am_k180 [] 100 ?_
    refine am_vI am_k180 am_r180 rfl ⟨_, rfl, rfl, rfl, rfl, rfl, ?_, s1, hsc, j2, rfl⟩
    refine congrArg (fun x => some (aI x)) ?_
    rw [cp3_kk (by decide), u3_k _ _ (by decide)]
    exact j1
theorem Rall.scan (h : Rall σ τ) {s s2 : tI} (hs : scP σ s) (hr : rdF s s2) : Rall s2 τ := by
  have g : ∀ q, q ≠ 7 ∧ q ≠ 9 ∧ ¬ (32 ≤ q ∧ q ≤ 37) ∧ q ≠ 12 ∧ q ≠ 51 → s2 q = σ q := fun q ⟨a1, a2, a3, a4, a5⟩ => (hr.1 q a4 a5).trans (hs.1 q a1 a2 a3)
  refine h.scr (fun q hq => g q ?_) (fun j _ => by rw [g 4 (by decide)]) (fun i _ _ _ => by rw [g 6 (by decide)]) (fun i _ _ _ => by rw [g 30 (by decide)]) (fun k s hk => ?_) (fun j hj => ?_)
  · refine ⟨?_, ?_, ?_, ?_, ?_⟩
    · rintro rfl; exact absurd hq (by decide)
    · rintro rfl; exact absurd hq (by decide)
    · intro z
      have : ∀ q, q < 38 → 32 ≤ q → scK q = true := by decide
      rw [this q (by omega) z.1] at hq
      cases hq
    · rintro rfl; exact absurd hq (by decide)
    · rintro rfl; exact absurd hq (by decide)
  · rw [hr.1 k (by omega) (by omega)]
    exact hs.2 k (1 + s) (by omega) (by omega)
  · rw [hr.2 j (by rintro rfl; exact absurd hj (by decide)) (by rintro rfl; exact absurd hj (by decide)), hs.1 12 (by decide) (by decide) (by decide)]
theorem LC_fault (h : Rall σ τ) (r : Int32) : LC l 101 179 [aI r] σ τ t := by
  by_cases hr : 0 ≤ r ∧ r < 6
  · obtain ⟨x, hx, rfl⟩ := ix_lt (n := 6) (by decide) hr
    obtain ⟨⟨n, hn, hd1, hc⟩, hB⟩ := h.2.1 x hx
    rcases hc with ⟨h0, hs⟩ | ⟨h0, hs, hp⟩
    · refine LC.of (x_fault_no hx h0) (m_fault_no hx ?_) (h.find (by decide))
      simp [u3, hs]
    · have h01 : ¬ σ 6 (10 + x) 0 = 0 := by rw [h0]; decide
      have hK : K0 σ (10 + x) n (σ 30 (10 + x)) := ⟨hd1, hn, by omega, rfl⟩
      have hB2 : ∀ j, j < n → isB (σ 30 (10 + x) j) := fun j hj => hB j (by omega) (by rw [hs]; exact m9 (by omega)) (by rw [hs]; exact nI_lt hj (by omega))
      refine am_T.mono (x_fault hx h01 hK hB2) ?_
      rintro v s τ2 t2 ⟨rfl, rfl, hsc, hQ⟩
      have hM : M0 s x n (σ 30 (10 + x)) := ⟨by rw [hsc.1 47 (by decide) (by decide) (by decide)]; exact hs, hn, hx, fun j hj => by rw [hsc.1 48 (by decide) (by decide) (by decide)]; exact (hp j hj).symm⟩
      refine ⟨?_, am_T.mono (m_fault hM) ?_⟩
      · cases e : pA (sgN (σ 30 (10 + x)) n) n S0 0 with
        | inl q => rw [e] at hQ; rw [show v = some (aI (nI q)) from hQ]; rfl
        | inr S => rw [e] at hQ; rw [hQ.1]; rfl
      · rintro v2 s2 τ3 t3 ⟨rfl, rfl, hrd, hQ2⟩
        refine ⟨?_, h.scan hsc hrd⟩
        cases e : pA (sgN (σ 30 (10 + x)) n) n S0 0 with
        | inl q => rw [e] at hQ hQ2; exact (show v2 = some (aI (nI q)) from hQ2).trans (show v = some (aI (nI q)) from hQ).symm
        | inr S => rw [e] at hQ hQ2; exact hQ2.1.trans hQ.1.symm
  · exact LC.of (x_faultB hr) (m_faultB (not6 hr)) h
theorem Rshape.fr3 {s2 : tI} {s : Nat} {S : aSh} (h : Rshape σ s S) (h9 : ∀ k, k = 9 ∨ (32 ≤ k ∧ k ≤ 38) → s2 k (1 + s) = σ k (1 + s)) (h49 : s2 49 0 s = σ 49 0 s) (h50 : ∀ j, j < 72 → s2 50 0 (72 * s + j) = σ 50 0 (72 * s + j)) : Rshape s2 s S := by
  have s12 := h.1.1
  unfold Rshape XItems XIndex at h ⊢
  rw [h9 9 (by decide), h9 32 (by decide), h9 33 (by decide), h9 34 (by decide), h9 35 (by decide), h9 36 (by decide), h9 37 (by decide), h9 38 (by decide), h49]
  obtain ⟨a1, a2, a3, a4, a5, a6, a7⟩ := h
  refine ⟨a1, a2, a3, a4, a5, a6, fun k w hk hw => ?_⟩
  rw [show 72 * s + 6 * k + w = 72 * s + (6 * k + w) by omega, h50 _ (by omega), show 72 * s + (6 * k + w) = 72 * s + 6 * k + w by omega]
  exact a7 k w hk hw
/-- a shape is another one -/
theorem Rall.shp (h : Rall σ τ) {s s1 s2 s3 s4 : tI} {i : Nat} {S : aSh} (hi : i < 4) (hs : scP σ s1) (hb : bcf s1 s2 (1 + i)) (hr : rdF s2 s3) (e : s4 = cp3 (u3 s3 49 0 i (nI (sN S))) 50 0 51 0 0 (72 * i) 72) (hS : ShOK S) (c0 : s2 9 (1 + i) 0 = 1) (c1 : s2 9 (1 + i) 1 = nI (sN S)) (c2 : XItems s2 (1 + i) S) (c3 : XIndex s2 (1 + i) S) (c4 : RP s3 S) : Rall s4 τ := by
  have s12 := hS.1
  have k4 : ∀ q, q ≠ 49 → q ≠ 50 → s4 q = s3 q := fun q a1 a2 => by rw [e, cp3_kk a2, u3_kk _ _ a1]
  have g : ∀ q, q ≠ 7 ∧ q ≠ 9 ∧ ¬ (32 ≤ q ∧ q ≤ 38) ∧ q ≠ 12 ∧ q ≠ 51 ∧ q ≠ 49 ∧ q ≠ 50 → s4 q = σ q := fun q ⟨a1, a2, a3, a4, a5, a6, a7⟩ => by
    rw [k4 q a6 a7, hr.1 q a4 a5, hb.1 q a2 a3, hs.1 q a1 a2 (by omega)]
  have gi : ∀ q, (q = 9 ∨ (32 ≤ q ∧ q ≤ 38)) → s4 q = s2 q := fun q hq => by rw [k4 q (by omega) (by omega), hr.1 q (by omega) (by omega)]
  have gj : ∀ q j, (q = 9 ∨ (32 ≤ q ∧ q ≤ 38)) → j ≠ 0 → j ≠ 1 + i → s4 q j = σ q j := fun q j hq h1 h2 => by
    rw [gi q hq, hb.2 q j h2]
    exact hs.2 q j (by omega) h1
  have e49 : s4 49 0 i = nI (sN S) := by rw [e, cp3_kk (by decide), u3_eq]
  have f49 : ∀ j, j ≠ i → s4 49 0 j = σ 49 0 j := fun j hj => by rw [e, cp3_kk (by decide), u3_j _ _ hj, hr.1 49 (by decide) (by decide), hb.1 49 (by decide) (by decide), hs.1 49 (by decide) (by decide) (by decide)]
  have e50 : ∀ j, j < 72 → s4 50 0 (72 * i + j) = s3 51 0 j := fun j hj => by
    rw [e]
    show (if 72 * i ≤ 72 * i + j ∧ 72 * i + j < 72 * i + 72 then u3 s3 49 0 i (nI (sN S)) 51 0 (0 + (72 * i + j - 72 * i)) else _) = _
    rw [if_pos (by omega), u3_k _ _ (by decide), show 0 + (72 * i + j - 72 * i) = j by omega]
  have f50 : ∀ j, (j < 72 * i ∨ 72 * i + 72 ≤ j) → s4 50 0 j = σ 50 0 j := fun j hj => by
    rw [e]
    show (if 72 * i ≤ j ∧ j < 72 * i + 72 then _ else u3 s3 49 0 i (nI (sN S)) 50 0 j) = _
    rw [if_neg (by omega), u3_k _ _ (by decide), hr.1 50 (by decide) (by decide), hb.1 50 (by decide) (by decide), hs.1 50 (by decide) (by decide) (by decide)]
  have g12 : ∀ j, scj j = false → s4 12 0 j = σ 12 0 j := fun j hj => by
    rw [k4 12 (by decide) (by decide), hr.2 j (by rintro rfl; exact absurd hj (by decide)) (by rintro rfl; exact absurd hj (by decide)), hb.1 12 (by decide) (by decide), hs.1 12 (by decide) (by decide) (by decide)]
  obtain ⟨z1, z2, z3, z4, z5, z6, T, n, m, lo, kk, z7⟩ := h
  refine ⟨z1.fr (fun r _ => by rw [g 6 (by decide)]) (fun r _ => by rw [g 30 (by decide)]) (g 44 (by decide)) (g 45 (by decide)), z2.fr (fun r _ => by rw [g 6 (by decide)]) (fun r _ => by rw [g 30 (by decide)]) (g 47 (by decide)) (g 48 (by decide)), fun s' hs' => ?_, z4.fr (g 4 (by decide)) (g 55 (by decide)) (g 56 (by decide)) (by rw [g 6 (by decide)]) (by rw [g 30 (by decide)]) (g12 24 rfl), z5.fr (fun a _ => by rw [g 8 (by decide)]; exact ⟨rfl, rfl⟩) (g 57 (by decide)) (g 58 (by decide)) (g 31 (by decide)) (g 59 (by decide)) (fun s' _ z => ?_), ?_, T, n, m, lo, kk, z7.fr (fun k z => g k ?_) (fun j z => g12 j ?_) (fun a j _ _ => by rw [g 8 (by decide)])⟩
  · by_cases es : s' = i
    · subst es
      refine Or.inr ⟨S, hS, ?_, ?_, e49, ?_, ?_, fun k w hk hw => ?_⟩
      · rw [gi 9 (by decide)]; exact c0
      · rw [gi 9 (by decide)]; exact c1
      · unfold XItems; rw [gi 32 (by decide), gi 33 (by decide), gi 34 (by decide), gi 35 (by decide), gi 36 (by decide), gi 37 (by decide)]; exact c2
      · unfold XIndex; rw [gi 38 (by decide)]; exact c3
      · rw [show 72 * s' + 6 * k + w = 72 * s' + (6 * k + w) by omega, e50 _ (by omega)]
        exact c4 k w hk hw
    · rcases z3 s' hs' with ⟨y1, y2⟩ | ⟨S', hS'⟩
      · exact Or.inl ⟨by rw [gj 9 (1 + s') (by decide) (by omega) (by omega)]; exact y1, by rw [f49 s' es]; exact y2⟩
      · exact Or.inr ⟨S', hS'.fr3 (fun k hk => gj k (1 + s') hk (by omega) (by omega)) (f49 s' es) (fun j hj => f50 _ (by omega))⟩
  · by_cases es : s' = i
    · subst es
      rw [e49]
      exact m9 (by omega)
    · rw [f49 s' es]; exact z
  · unfold Rmisc at z6 ⊢
    rw [g 11 (by decide), g12 2 rfl]
    exact z6
  · simp only [kNet, Bool.or_eq_true, Bool.and_eq_true, Nat.ble_eq] at z
    omega
  · cases hc : scj j with
    | false => rfl
    | true =>
      exfalso
      simp only [scj, jNet, Bool.or_eq_true, Nat.beq_eq] at hc z
      omega
theorem LC_shape (h : Rall σ τ) (s r : Int32) : LC l 102 180 [aI s, aI r] σ τ t := by
  by_cases hc : (0 ≤ s ∧ s < 4) ∧ (0 ≤ r ∧ r < 6)
  · obtain ⟨hs, hr⟩ := hc
    obtain ⟨i, hi, rfl⟩ := ix_lt (n := 4) (by decide) hs
    obtain ⟨x, hx, rfl⟩ := ix_lt (n := 6) (by decide) hr
    obtain ⟨⟨n, hn, hd1, hc⟩, hB⟩ := h.2.1 x hx
    rcases hc with ⟨h0, hs⟩ | ⟨h0, hs, hp⟩
    · refine LC.of (x_shape_no hi hx h0) (m_shape_no hi hx ?_) (h.find (by decide))
      simp [u3, hs]
    · have h01 : ¬ σ 6 (10 + x) 0 = 0 := by rw [h0]; decide
      have hK : K0 σ (10 + x) n (σ 30 (10 + x)) := ⟨hd1, hn, by omega, rfl⟩
      have hB2 : ∀ j, j < n → isB (σ 30 (10 + x) j) := fun j hj => hB j (by omega) (by rw [hs]; exact m9 (by omega)) (by rw [hs]; exact nI_lt hj (by omega))
      refine am_T.mono (x_shape hi hx h01 hK hB2) ?_
      rintro v s2 τ2 t2 ⟨rfl, rfl, hQ⟩
      cases e : pA (sgN (σ 30 (10 + x)) n) n S0 0 with
      | inl q =>
        rw [e] at hQ
        obtain ⟨rfl, hsc⟩ := hQ
        have hM : M0 s2 x n (σ 30 (10 + x)) := ⟨by rw [hsc.1 47 (by decide) (by decide) (by decide)]; exact hs, hn, hx, fun j hj => by rw [hsc.1 48 (by decide) (by decide) (by decide)]; exact (hp j hj).symm⟩
        refine ⟨rfl, am_T.mono (m_shape hi hM) ?_⟩
        rintro v2 s3 τ3 t3 ⟨rfl, rfl, hQ2⟩
        rw [e] at hQ2
        exact ⟨hQ2.1, h.scan hsc hQ2.2⟩
      | inr S =>
        rw [e] at hQ
        obtain ⟨rfl, hS, ⟨s1, hsc, hb⟩, c0, c1, c2, c3⟩ := hQ
        have hM : M0 s2 x n (σ 30 (10 + x)) := ⟨by rw [hb.1 47 (by decide) (by decide), hsc.1 47 (by decide) (by decide) (by decide)]; exact hs, hn, hx, fun j hj => by rw [hb.1 48 (by decide) (by decide), hsc.1 48 (by decide) (by decide) (by decide)]; exact (hp j hj).symm⟩
        refine ⟨rfl, am_T.mono (m_shape hi hM) ?_⟩
        rintro v2 s4 τ3 t3 ⟨rfl, rfl, hQ2⟩
        rw [e] at hQ2
        obtain ⟨rfl, s3, hrd, hRP, e4⟩ := hQ2
        exact ⟨rfl, h.shp (s := σ) hi hsc hb hrd e4 hS c0 c1 c2 c3 hRP⟩
  · refine LC.of (x_shapeB hc) (m_shapeB ?_) h
    rintro ⟨z1, z2⟩
    obtain ⟨j, hj, rfl⟩ := ix_le (n := 4) (by decide) z1
    obtain ⟨k, hk, rfl⟩ := ix_le (n := 6) (by decide) z2
    exact hc ⟨in4 hj, in6 hk⟩
end L57
