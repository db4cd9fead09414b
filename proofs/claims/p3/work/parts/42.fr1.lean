/-! CASES OF THE LAW in a form for any world; refusals of fault, shape, fields, write, read, handOn, fits, unlike -/
noncomputable def LG (l : Launch) (zx zm : Nat) (as : List am_V) (σ : tI) (τ : tL) (ρ : tR) (cn : tN) (ln : tM) (R : tI → tL → tR → tN → tM → Prop) : Prop :=
  am_okm zx = true ∧ am_E l zx (aR 11 0 :: as) σ τ ρ cn ln (fun v σ1 τ1 ρ1 cn1 ln1 => am_num zx v = true ∧ am_okm zm = true ∧ am_E l zm (aR 12 0 :: as) σ1 τ1 ρ1 cn1 ln1 (fun v2 σ2 τ2 ρ2 cn2 ln2 => v2 = v ∧ R σ2 τ2 ρ2 cn2 ln2))
def lgT : tI → tL → tR → tN → tM → Prop := fun _ _ _ _ _ => True
section L16
variable {l : Launch} {σ σ2 s : tI} {τ τ2 : tL} {t : Option (Nat × Nat)}
theorem LG.of_LC {zx zm : Nat} {as : List am_V} {R : tI → tL → tR → tN → tM → Prop} (h : LC l zx zm as σ τ t) (hR : ∀ σ2 τ2 t2, Rall σ2 τ2 → R σ2 τ2 (rX t2) cX lX) : LG l zx zm as σ τ (rX t) cX lX R := by
  refine ⟨h.1, am_E.mono h.2 ?_⟩
  rintro v σ1 τ1 ρ1 cn1 ln1 ⟨t1, rfl, rfl, rfl, h1, h2⟩
  refine ⟨h1, h2.1, am_E.mono h2.2 ?_⟩
  rintro v2 σ2 τ2 ρ2 cn2 ln2 ⟨t2, rfl, rfl, rfl, h3, h4⟩
  exact ⟨h3, hR _ _ _ h4⟩
theorem LG.of {zx zm : Nat} {as : List am_V} {R : tI → tL → tR → tN → tM → Prop} {ρ ρ1 ρ2 : tR} {cn : tN} {ln : tM} {v : am_V} {σ1 : tI} {τ1 : tL} (hx : am_D l zx (aR 11 0 :: as) σ τ ρ cn ln (some v) σ1 τ1 ρ1) (hm : am_D l zm (aR 12 0 :: as) σ1 τ1 ρ1 cn ln (some v) σ2 τ2 ρ2) (hR : R σ2 τ2 ρ2 cn ln) (hv : am_num zx (some v) = true := by rfl) : LG l zx zm as σ τ ρ cn ln R := by
  refine ⟨hx.1, am_E.mono hx.2 ?_⟩
  rintro v1 σ1 τ1 ρ1 cn1 ln1 ⟨rfl, rfl, rfl, rfl, rfl, rfl⟩
  refine ⟨hv, hm.1, am_E.mono hm.2 ?_⟩
  rintro v2 σ2 τ2 ρ2 cn2 ln2 ⟨rfl, rfl, rfl, rfl, rfl, rfl⟩
  exact ⟨rfl, hR⟩
theorem x_fault_bad {r : Int32} (hr : ¬ (0 ≤ r ∧ r < 6)) : am_D l 101 [aR 11 0, aI r] σ τ (rX t) cX lX (some (aI (-1))) σ τ (rX t) := by
  refine am_D_of am_o101 am_l101 rfl ?_
  refine am_vc_ok am_k101 [] 100 ?_
  refine am_vS am_k101 am_h101 rfl rfl rfl rfl (x_within) ?_
  refine am_vc_ok am_k101 [] 100 ?_
  refine And.intro (fun h => ?_) (fun h => ?_)
  · exact am_vI am_k101 am_r101 rfl ⟨rfl, rfl, rfl, rfl, rfl, rfl⟩
  · exact absurd (bI_1.mp h) hr
theorem x_fault_none {j : Nat} (hj : j < 6) (h0 : σ 6 (10 + j) 0 = 0) : am_D l 101 [aR 11 0, aI (nI j)] σ τ (rX t) cX lX (some (aI (-3))) (xfind 1 σ) τ (rX t) := by
  refine am_D_of am_o101 am_l101 rfl ?_
  refine am_vc_ok am_k101 [] 100 ?_
  refine am_vS am_k101 am_h101 rfl rfl rfl rfl (x_within) ?_
  refine am_vc_ok am_k101 [] 100 ?_
  refine And.intro (fun h => ?_) (fun h => ?_)
  · exact absurd (in6 hj) (bI_0.mp h)
  refine And.intro (vp_in_nI (N := 6) hj (by decide)) ?_
  rw [nI_clamp (n := j) (by omega)]
  refine And.intro (fun _ => ?_) (fun g => absurd h0 g)
  refine am_vO am_k101 am_h101 rfl rfl rfl rfl (x_find (w := 1) (by decide)) ?_
  refine am_vc_ok am_k101 [] 100 ?_
  exact am_vI am_k101 am_r101 rfl ⟨rfl, rfl, rfl, rfl, rfl, rfl⟩
theorem x_shape_bad {s r : Int32} (h : ¬ (0 ≤ s ∧ s < 4) ∨ ¬ (0 ≤ r ∧ r < 6)) : am_D l 102 [aR 11 0, aI s, aI r] σ τ (rX t) cX lX (some (aI (-1))) σ τ (rX t) := by
  refine am_D_of am_o102 am_l102 rfl ?_
  refine am_vc_ok am_k102 [] 100 ?_
  refine am_vS am_k102 am_h102 rfl rfl rfl rfl (x_within) ?_
  refine am_vc_ok am_k102 [] 100 ?_
  refine And.intro (fun h1 => ?_) (fun h1 => ?_)
  · exact am_vI am_k102 am_r102 rfl ⟨rfl, rfl, rfl, rfl, rfl, rfl⟩
  refine am_vS am_k102 am_h102 rfl rfl rfl rfl (x_within) ?_
  refine am_vc_ok am_k102 [] 100 ?_
  refine And.intro (fun h2 => ?_) (fun h2 => ?_)
  · exact am_vI am_k102 am_r102 rfl ⟨rfl, rfl, rfl, rfl, rfl, rfl⟩
  · rcases h with h | h
    · exact absurd (bI_1.mp h1) h
    · exact absurd (bI_1.mp h2) h
theorem x_shape_none {s : Int32} {j : Nat} (hs : 0 ≤ s ∧ s < 4) (hj : j < 6) (h0 : σ 6 (10 + j) 0 = 0) : am_D l 102 [aR 11 0, aI s, aI (nI j)] σ τ (rX t) cX lX (some (aI (-3))) (xfind 1 σ) τ (rX t) := by
  refine am_D_of am_o102 am_l102 rfl ?_
  refine am_vc_ok am_k102 [] 100 ?_
  refine am_vS am_k102 am_h102 rfl rfl rfl rfl (x_within) ?_
  refine am_vc_ok am_k102 [] 100 ?_
  refine And.intro (fun g => absurd hs (bI_0.mp g)) (fun _ => ?_)
  refine am_vS am_k102 am_h102 rfl rfl rfl rfl (x_within) ?_
  refine am_vc_ok am_k102 [] 100 ?_
  refine And.intro (fun g => absurd (in6 hj) (bI_0.mp g)) (fun _ => ?_)
  refine And.intro (vp_in_nI (N := 6) hj (by decide)) ?_
  rw [nI_clamp (n := j) (by omega)]
  refine And.intro (fun _ => ?_) (fun g => absurd h0 g)
  refine am_vO am_k102 am_h102 rfl rfl rfl rfl (x_find (w := 1) (by decide)) ?_
  refine am_vc_ok am_k102 [] 100 ?_
  exact am_vI am_k102 am_r102 rfl ⟨rfl, rfl, rfl, rfl, rfl, rfl⟩
theorem x_fields_bad {s v : Int32} (h : ¬ (0 ≤ s ∧ s < 4) ∨ ¬ (0 ≤ v ∧ v < 10)) : am_D l 104 [aR 11 0, aI s, aI v] σ τ (rX t) cX lX (some (aI (-1))) σ τ (rX t) := by
  refine am_D_of am_o104 am_l104 rfl ?_
  refine am_vc_ok am_k104 [] 100 ?_
  refine am_vS am_k104 am_h104 rfl rfl rfl rfl (x_within) ?_
  refine am_vc_ok am_k104 [] 100 ?_
  refine And.intro (fun h1 => ?_) (fun h1 => ?_)
  · exact am_vI am_k104 am_r104 rfl ⟨rfl, rfl, rfl, rfl, rfl, rfl⟩
  refine am_vS am_k104 am_h104 rfl rfl rfl rfl (x_within) ?_
  refine am_vc_ok am_k104 [] 100 ?_
  refine And.intro (fun h2 => ?_) (fun h2 => ?_)
  · exact am_vI am_k104 am_r104 rfl ⟨rfl, rfl, rfl, rfl, rfl, rfl⟩
  · rcases h with h | h
    · exact absurd (bI_1.mp h1) h
    · exact absurd (bI_1.mp h2) h
theorem x_fields_none {s : Nat} {v : Int32} (hs : s < 4) (hv : 0 ≤ v ∧ v < 10) (h0 : σ 9 (1 + s) 0 = 0) : am_D l 104 [aR 11 0, aI (nI s), aI v] σ τ (rX t) cX lX (some (aI (-3))) (xfind 1 σ) τ (rX t) := by
  refine am_D_of am_o104 am_l104 rfl ?_
  refine am_vc_ok am_k104 [] 100 ?_
  refine am_vS am_k104 am_h104 rfl rfl rfl rfl (x_within) ?_
  refine am_vc_ok am_k104 [] 100 ?_
  refine And.intro (fun g => absurd (in4 hs) (bI_0.mp g)) (fun _ => ?_)
  refine am_vS am_k104 am_h104 rfl rfl rfl rfl (x_within) ?_
  refine am_vc_ok am_k104 [] 100 ?_
  refine And.intro (fun g => absurd hv (bI_0.mp g)) (fun _ => ?_)
  refine And.intro (vp_in_nI (N := 4) hs (by decide)) ?_
  rw [nI_clamp (n := s) (by omega)]
  refine And.intro (fun _ => ?_) (fun g => absurd h0 g)
  refine am_vO am_k104 am_h104 rfl rfl rfl rfl (x_find (w := 1) (by decide)) ?_
  refine am_vc_ok am_k104 [] 100 ?_
  exact am_vI am_k104 am_r104 rfl ⟨rfl, rfl, rfl, rfl, rfl, rfl⟩
theorem x_write_bad {s v r q : Int32} (h : ¬ (0 ≤ s ∧ s < 4) ∨ ¬ (0 ≤ v ∧ v < 10) ∨ ¬ (0 ≤ r ∧ r < 6) ∨ ¬ (0 ≤ q ∧ q < 6)) : am_D l 105 [aR 11 0, aI s, aI v, aI r, aI q] σ τ (rX t) cX lX (some (aI (-1))) σ τ (rX t) := by
  refine am_D_of am_o105 am_l105 rfl ?_
  refine am_vc_ok am_k105 [] 100 ?_
  refine am_vS am_k105 am_h105 rfl rfl rfl rfl (x_within) ?_
  refine am_vc_ok am_k105 [] 100 ?_
  refine And.intro (fun h1 => ?_) (fun h1 => ?_)
  · exact am_vI am_k105 am_r105 rfl ⟨rfl, rfl, rfl, rfl, rfl, rfl⟩
  refine am_vS am_k105 am_h105 rfl rfl rfl rfl (x_within) ?_
  refine am_vc_ok am_k105 [] 100 ?_
  refine And.intro (fun h2 => ?_) (fun h2 => ?_)
  · exact am_vI am_k105 am_r105 rfl ⟨rfl, rfl, rfl, rfl, rfl, rfl⟩
  refine am_vS am_k105 am_h105 rfl rfl rfl rfl (x_within) ?_
  refine am_vc_ok am_k105 [] 100 ?_
  refine And.intro (fun h3 => ?_) (fun h3 => ?_)
  · exact am_vI am_k105 am_r105 rfl ⟨rfl, rfl, rfl, rfl, rfl, rfl⟩
  refine am_vS am_k105 am_h105 rfl rfl rfl rfl (x_within) ?_
  refine am_vc_ok am_k105 [] 100 ?_
  refine And.intro (fun h4 => ?_) (fun h4 => ?_)
  · exact am_vI am_k105 am_r105 rfl ⟨rfl, rfl, rfl, rfl, rfl, rfl⟩
  · rcases h with h | h | h | h
    · exact absurd (bI_1.mp h1) h
    · exact absurd (bI_1.mp h2) h
    · exact absurd (bI_1.mp h3) h
    · exact absurd (bI_1.mp h4) h
theorem x_write_none {s r : Nat} {v q : Int32} (hs : s < 4) (hv : 0 ≤ v ∧ v < 10) (hr : r < 6) (hq : 0 ≤ q ∧ q < 6) (h0 : σ 9 (1 + s) 0 = 0 ∨ σ 6 (4 + r) 0 = 0) : am_D l 105 [aR 11 0, aI (nI s), aI v, aI (nI r), aI q] σ τ (rX t) cX lX (some (aI (-3))) (xfind 1 σ) τ (rX t) := by
  refine am_D_of am_o105 am_l105 rfl ?_
  refine am_vc_ok am_k105 [] 100 ?_
  refine am_vS am_k105 am_h105 rfl rfl rfl rfl (x_within) ?_
  refine am_vc_ok am_k105 [] 100 ?_
  refine And.intro (fun g => absurd (in4 hs) (bI_0.mp g)) (fun _ => ?_)
  refine am_vS am_k105 am_h105 rfl rfl rfl rfl (x_within) ?_
  refine am_vc_ok am_k105 [] 100 ?_
  refine And.intro (fun g => absurd hv (bI_0.mp g)) (fun _ => ?_)
  refine am_vS am_k105 am_h105 rfl rfl rfl rfl (x_within) ?_
  refine am_vc_ok am_k105 [] 100 ?_
  refine And.intro (fun g => absurd (in6 hr) (bI_0.mp g)) (fun _ => ?_)
  refine am_vS am_k105 am_h105 rfl rfl rfl rfl (x_within) ?_
  refine am_vc_ok am_k105 [] 100 ?_
  refine And.intro (fun g => absurd hq (bI_0.mp g)) (fun _ => ?_)
  refine And.intro (vp_in_nI (N := 4) hs (by decide)) ?_
  rw [nI_clamp (n := s) (by omega)]
  refine And.intro (fun _ => ?_) (fun g1 => ?_)
  · refine am_vO am_k105 am_h105 rfl rfl rfl rfl (x_find (w := 1) (by decide)) ?_
    refine am_vc_ok am_k105 [] 100 ?_
    exact am_vI am_k105 am_r105 rfl ⟨rfl, rfl, rfl, rfl, rfl, rfl⟩
  refine And.intro (vp_in_nI (N := 6) hr (by decide)) ?_
  rw [nI_clamp (n := r) (by omega)]
  refine And.intro (fun _ => ?_) (fun g2 => ?_)
  · refine am_vO am_k105 am_h105 rfl rfl rfl rfl (x_find (w := 1) (by decide)) ?_
    refine am_vc_ok am_k105 [] 100 ?_
    exact am_vI am_k105 am_r105 rfl ⟨rfl, rfl, rfl, rfl, rfl, rfl⟩
  · rcases h0 with h0 | h0
    · exact absurd h0 g1
    · exact absurd h0 g2
theorem x_read_bad {s v r q : Int32} (h : ¬ (0 ≤ s ∧ s < 4) ∨ ¬ (0 ≤ v ∧ v < 10) ∨ ¬ (0 ≤ r ∧ r < 6) ∨ ¬ (0 ≤ q ∧ q < 6)) : am_D l 106 [aR 11 0, aI s, aI v, aI r, aI q] σ τ (rX t) cX lX (some (aI (-1))) σ τ (rX t) := by
  refine am_D_of am_o106 am_l106 rfl ?_
  refine am_vc_ok am_k106 [] 100 ?_
  refine am_vS am_k106 am_h106 rfl rfl rfl rfl (x_within) ?_
  refine am_vc_ok am_k106 [] 100 ?_
  refine And.intro (fun h1 => ?_) (fun h1 => ?_)
  · exact am_vI am_k106 am_r106 rfl ⟨rfl, rfl, rfl, rfl, rfl, rfl⟩
  refine am_vS am_k106 am_h106 rfl rfl rfl rfl (x_within) ?_
  refine am_vc_ok am_k106 [] 100 ?_
  refine And.intro (fun h2 => ?_) (fun h2 => ?_)
  · exact am_vI am_k106 am_r106 rfl ⟨rfl, rfl, rfl, rfl, rfl, rfl⟩
  refine am_vS am_k106 am_h106 rfl rfl rfl rfl (x_within) ?_
  refine am_vc_ok am_k106 [] 100 ?_
  refine And.intro (fun h3 => ?_) (fun h3 => ?_)
  · exact am_vI am_k106 am_r106 rfl ⟨rfl, rfl, rfl, rfl, rfl, rfl⟩
  refine am_vS am_k106 am_h106 rfl rfl rfl rfl (x_within) ?_
  refine am_vc_ok am_k106 [] 100 ?_
  refine And.intro (fun h4 => ?_) (fun h4 => ?_)
  · exact am_vI am_k106 am_r106 rfl ⟨rfl, rfl, rfl, rfl, rfl, rfl⟩
  · rcases h with h | h | h | h
    · exact absurd (bI_1.mp h1) h
    · exact absurd (bI_1.mp h2) h
    · exact absurd (bI_1.mp h3) h
    · exact absurd (bI_1.mp h4) h
theorem x_read_none {s r : Nat} {v q : Int32} (hs : s < 4) (hv : 0 ≤ v ∧ v < 10) (hr : r < 6) (hq : 0 ≤ q ∧ q < 6) (h0 : σ 9 (1 + s) 0 = 0 ∨ σ 6 (10 + r) 0 = 0) : am_D l 106 [aR 11 0, aI (nI s), aI v, aI (nI r), aI q] σ τ (rX t) cX lX (some (aI (-3))) (xfind 1 σ) τ (rX t) := by
  refine am_D_of am_o106 am_l106 rfl ?_
  refine am_vc_ok am_k106 [] 100 ?_
  refine am_vS am_k106 am_h106 rfl rfl rfl rfl (x_within) ?_
  refine am_vc_ok am_k106 [] 100 ?_
  refine And.intro (fun g => absurd (in4 hs) (bI_0.mp g)) (fun _ => ?_)
  refine am_vS am_k106 am_h106 rfl rfl rfl rfl (x_within) ?_
  refine am_vc_ok am_k106 [] 100 ?_
  refine And.intro (fun g => absurd hv (bI_0.mp g)) (fun _ => ?_)
  refine am_vS am_k106 am_h106 rfl rfl rfl rfl (x_within) ?_
  refine am_vc_ok am_k106 [] 100 ?_
  refine And.intro (fun g => absurd (in6 hr) (bI_0.mp g)) (fun _ => ?_)
  refine am_vS am_k106 am_h106 rfl rfl rfl rfl (x_within) ?_
  refine am_vc_ok am_k106 [] 100 ?_
  refine And.intro (fun g => absurd hq (bI_0.mp g)) (fun _ => ?_)
  refine And.intro (vp_in_nI (N := 4) hs (by decide)) ?_
  rw [nI_clamp (n := s) (by omega)]
  refine And.intro (fun _ => ?_) (fun g1 => ?_)
  · refine am_vO am_k106 am_h106 rfl rfl rfl rfl (x_find (w := 1) (by decide)) ?_
    refine am_vc_ok am_k106 [] 100 ?_
    exact am_vI am_k106 am_r106 rfl ⟨rfl, rfl, rfl, rfl, rfl, rfl⟩
  refine And.intro (vp_in_nI (N := 6) hr (by decide)) ?_
  rw [nI_clamp (n := r) (by omega)]
  refine And.intro (fun _ => ?_) (fun g2 => ?_)
  · refine am_vO am_k106 am_h106 rfl rfl rfl rfl (x_find (w := 1) (by decide)) ?_
    refine am_vc_ok am_k106 [] 100 ?_
    exact am_vI am_k106 am_r106 rfl ⟨rfl, rfl, rfl, rfl, rfl, rfl⟩
  · rcases h0 with h0 | h0
    · exact absurd h0 g1
    · exact absurd h0 g2
theorem x_handOn_bad {r : Int32} (hr : ¬ (0 ≤ r ∧ r < 6)) : am_D l 108 [aR 11 0, aI r] σ τ (rX t) cX lX (some (aI (-1))) σ τ (rX t) := by
  refine am_D_of am_o108 am_l108 rfl ?_
  refine am_vc_ok am_k108 [] 100 ?_
  refine am_vS am_k108 am_h108 rfl rfl rfl rfl (x_within) ?_
  refine am_vc_ok am_k108 [] 100 ?_
  refine And.intro (fun h => ?_) (fun h => ?_)
  · exact am_vI am_k108 am_r108 rfl ⟨rfl, rfl, rfl, rfl, rfl, rfl⟩
  · exact absurd (bI_1.mp h) hr
theorem x_handOn_none {j : Nat} (hj : j < 6) (h0 : σ 6 (10 + j) 0 = 0) : am_D l 108 [aR 11 0, aI (nI j)] σ τ (rX t) cX lX (some (aI (-3))) (xfind 1 σ) τ (rX t) := by
  refine am_D_of am_o108 am_l108 rfl ?_
  refine am_vc_ok am_k108 [] 100 ?_
  refine am_vS am_k108 am_h108 rfl rfl rfl rfl (x_within) ?_
  refine am_vc_ok am_k108 [] 100 ?_
  refine And.intro (fun h => ?_) (fun h => ?_)
  · exact absurd (in6 hj) (bI_0.mp h)
  refine And.intro (vp_in_nI (N := 6) hj (by decide)) ?_
  rw [nI_clamp (n := j) (by omega)]
  refine And.intro (fun _ => ?_) (fun g => absurd h0 g)
  refine am_vO am_k108 am_h108 rfl rfl rfl rfl (x_find (w := 1) (by decide)) ?_
  refine am_vc_ok am_k108 [] 100 ?_
  exact am_vI am_k108 am_r108 rfl ⟨rfl, rfl, rfl, rfl, rfl, rfl⟩
theorem x_refVer_bad {s w v : Int32} (h : ¬ (0 ≤ s ∧ s < 4) ∨ ¬ (0 ≤ w ∧ w < 10) ∨ ¬ (0 ≤ v ∧ v < 10)) : am_D l 145 [aR 11 0, aI s, aI w, aI v] σ τ (rX t) cX lX (some (aI (-1))) σ τ (rX t) := by
  refine am_D_of am_o145 am_l145 rfl ?_
  refine am_vc_ok am_k145 [] 100 ?_
  refine am_vS am_k145 am_h145 rfl rfl rfl rfl (x_within) ?_
  refine am_vc_ok am_k145 [] 100 ?_
  refine And.intro (fun h1 => ?_) (fun h1 => ?_)
  · exact am_vI am_k145 am_r145 rfl ⟨rfl, rfl, rfl, rfl, rfl, rfl⟩
  refine am_vS am_k145 am_h145 rfl rfl rfl rfl (x_within) ?_
  refine am_vc_ok am_k145 [] 100 ?_
  refine And.intro (fun h2 => ?_) (fun h2 => ?_)
  · exact am_vI am_k145 am_r145 rfl ⟨rfl, rfl, rfl, rfl, rfl, rfl⟩
  refine am_vS am_k145 am_h145 rfl rfl rfl rfl (x_within) ?_
  refine am_vc_ok am_k145 [] 100 ?_
  refine And.intro (fun h3 => ?_) (fun h3 => ?_)
  · exact am_vI am_k145 am_r145 rfl ⟨rfl, rfl, rfl, rfl, rfl, rfl⟩
  · rcases h with h | h | h
    · exact absurd (bI_1.mp h1) h
    · exact absurd (bI_1.mp h2) h
    · exact absurd (bI_1.mp h3) h
theorem x_refVer_none {s : Nat} {w v : Int32} (hs : s < 4) (hw : 0 ≤ w ∧ w < 10) (hv : 0 ≤ v ∧ v < 10) (h0 : σ 9 (1 + s) 0 = 0) : am_D l 145 [aR 11 0, aI (nI s), aI w, aI v] σ τ (rX t) cX lX (some (aI (-3))) (xfind 1 σ) τ (rX t) := by
  refine am_D_of am_o145 am_l145 rfl ?_
  refine am_vc_ok am_k145 [] 100 ?_
  refine am_vS am_k145 am_h145 rfl rfl rfl rfl (x_within) ?_
  refine am_vc_ok am_k145 [] 100 ?_
  refine And.intro (fun g => absurd (in4 hs) (bI_0.mp g)) (fun _ => ?_)
  refine am_vS am_k145 am_h145 rfl rfl rfl rfl (x_within) ?_
  refine am_vc_ok am_k145 [] 100 ?_
  refine And.intro (fun g => absurd hw (bI_0.mp g)) (fun _ => ?_)
  refine am_vS am_k145 am_h145 rfl rfl rfl rfl (x_within) ?_
  refine am_vc_ok am_k145 [] 100 ?_
  refine And.intro (fun g => absurd hv (bI_0.mp g)) (fun _ => ?_)
  refine And.intro (vp_in_nI (N := 4) hs (by decide)) ?_
  rw [nI_clamp (n := s) (by omega)]
  refine And.intro (fun _ => ?_) (fun g => absurd h0 g)
  refine am_vO am_k145 am_h145 rfl rfl rfl rfl (x_find (w := 1) (by decide)) ?_
  refine am_vc_ok am_k145 [] 100 ?_
  exact am_vI am_k145 am_r145 rfl ⟨rfl, rfl, rfl, rfl, rfl, rfl⟩
theorem x_fits_ref {s w v r : Int32} {s1 : tI} (h : am_D l 145 [aR 11 0, aI s, aI w, aI v] σ τ (rX t) cX lX (some (aI r)) s1 τ (rX t)) (hr : ¬ r = -9) : am_D l 109 [aR 11 0, aI s, aI w, aI v] σ τ (rX t) cX lX (some (aI r)) s1 τ (rX t) := by
  refine am_D_of am_o109 am_l109 rfl ?_
  refine am_vc_ok am_k109 [] 100 ?_
  refine am_vO am_k109 am_h109 rfl rfl rfl rfl (h) ?_
  refine am_vc_ok am_k109 [] 100 ?_
  refine And.intro (fun g => absurd g hr) (fun _ => ?_)
  exact am_vI am_k109 am_r109 rfl ⟨rfl, rfl, rfl, rfl, rfl, rfl⟩
theorem x_unlike_ref {s w v r : Int32} {s1 : tI} (h : am_D l 145 [aR 11 0, aI s, aI w, aI v] σ τ (rX t) cX lX (some (aI r)) s1 τ (rX t)) (hr : ¬ r = -9) : am_D l 110 [aR 11 0, aI s, aI w, aI v] σ τ (rX t) cX lX (some (aI r)) s1 τ (rX t) := by
  refine am_D_of am_o110 am_l110 rfl ?_
  refine am_vc_ok am_k110 [35] 100 ?_
  refine am_vO am_k110 am_h110 rfl rfl rfl rfl (h) ?_
  refine am_vc_ok am_k110 [35] 100 ?_
  refine And.intro (fun g => absurd g hr) (fun _ => ?_)
  exact am_vI am_k110 am_r110 rfl ⟨rfl, rfl, rfl, rfl, rfl, rfl⟩
-- the model's refusals
theorem m_fault_bad {r : Int32} (hr : ¬ (0 ≤ r ∧ r ≤ 5)) : am_D l 179 [aR 12 0, aI r] σ τ (rX t) cX lX (some (aI (-1))) σ τ (rX t) := by
  refine am_D_of am_o179 am_l179 rfl ?_
  refine am_vc_ok am_k179 [] 100 ?_
  refine am_vO am_k179 am_h179 rfl rfl rfl rfl (m_askedText_bad hr) ?_
  refine am_vc_ok am_k179 [] 100 ?_
  refine And.intro (fun g => absurd g (by decide)) (fun _ => ?_)
  exact am_vI am_k179 am_r179 rfl ⟨rfl, rfl, rfl, rfl, rfl, rfl⟩
theorem m_fault_none {j : Nat} (hj : j < 6) (h0 : σ 47 0 j < 0) : am_D l 179 [aR 12 0, aI (nI j)] σ τ (rX t) cX lX (some (aI (-3))) (mmeets 1 σ) τ (rX t) := by
  refine am_D_of am_o179 am_l179 rfl ?_
  refine am_vc_ok am_k179 [] 100 ?_
  refine am_vO am_k179 am_h179 rfl rfl rfl rfl (m_askedText hj) ?_
  refine am_vc_ok am_k179 [] 100 ?_
  simp only [if_pos h0]
  refine And.intro (fun g => absurd g (by decide)) (fun _ => ?_)
  exact am_vI am_k179 am_r179 rfl ⟨rfl, rfl, rfl, rfl, rfl, rfl⟩
theorem m_shape_bad {s r : Int32} (h : ¬ (0 ≤ s ∧ s ≤ 3) ∨ ¬ (0 ≤ r ∧ r ≤ 5)) : am_D l 180 [aR 12 0, aI s, aI r] σ τ (rX t) cX lX (some (aI (-1))) σ τ (rX t) := by
  refine am_D_of am_o180 am_l180 rfl ?_
  refine am_vc_ok am_k180 [56] 100 ?_
  refine am_vS am_k180 am_h180 rfl rfl rfl rfl (m_isShape) ?_
  refine am_vc_ok am_k180 [56] 100 ?_
  refine And.intro (fun h1 => ?_) (fun h1 => ?_)
  · exact am_vI am_k180 am_r180 rfl ⟨rfl, rfl, rfl, rfl, rfl, rfl⟩
  refine am_vS am_k180 am_h180 rfl rfl rfl rfl (m_isSix) ?_
  refine am_vc_ok am_k180 [56] 100 ?_
  refine And.intro (fun h2 => ?_) (fun h2 => ?_)
  · exact am_vI am_k180 am_r180 rfl ⟨rfl, rfl, rfl, rfl, rfl, rfl⟩
  · rcases h with h | h
    · exact absurd (bI_1.mp h1) h
    · exact absurd (bI_1.mp h2) h
theorem m_shape_none {s : Int32} {j : Nat} (hs : 0 ≤ s ∧ s ≤ 3) (hj : j < 6) (h0 : σ 47 0 j < 0) : am_D l 180 [aR 12 0, aI s, aI (nI j)] σ τ (rX t) cX lX (some (aI (-3))) (mmeets 1 σ) τ (rX t) := by
  refine am_D_of am_o180 am_l180 rfl ?_
  refine am_vc_ok am_k180 [56] 100 ?_
  refine am_vS am_k180 am_h180 rfl rfl rfl rfl (m_isShape) ?_
  refine am_vc_ok am_k180 [56] 100 ?_
  refine And.intro (fun g => absurd hs (bI_0.mp g)) (fun _ => ?_)
  refine am_vS am_k180 am_h180 rfl rfl rfl rfl (m_isSix) ?_
  refine am_vc_ok am_k180 [56] 100 ?_
  refine And.intro (fun g => absurd (in5 hj) (bI_0.mp g)) (fun _ => ?_)
  refine And.intro (vp_in_nI (N := 6) hj (by decide)) ?_
  rw [nI_clamp (n := j) (by omega)]
  refine And.intro (fun g => absurd h0 (Int32.not_lt.mpr g)) (fun _ => ?_)
  refine am_vO am_k180 am_h180 rfl rfl rfl rfl (m_meets (w := 1) (by decide)) ?_
  refine am_vc_ok am_k180 [56] 100 ?_
  exact am_vI am_k180 am_r180 rfl ⟨rfl, rfl, rfl, rfl, rfl, rfl⟩
theorem m_fields_bad {s v : Int32} (h : ¬ (0 ≤ s ∧ s ≤ 3) ∨ ¬ (0 ≤ v ∧ v ≤ 9)) : am_D l 186 [aR 12 0, aI s, aI v] σ τ (rX t) cX lX (some (aI (-1))) σ τ (rX t) := by
  refine am_D_of am_o186 am_l186 rfl ?_
  refine am_vc_ok am_k186 [30] 100 ?_
  refine am_vS am_k186 am_h186 rfl rfl rfl rfl (m_isVersion) ?_
  refine am_vc_ok am_k186 [30] 100 ?_
  refine And.intro (fun h1 => ?_) (fun h1 => ?_)
  · exact am_vI am_k186 am_r186 rfl ⟨rfl, rfl, rfl, rfl, rfl, rfl⟩
  rcases h with h | h
  · refine am_vO am_k186 am_h186 rfl rfl rfl rfl (m_askedShape_bad h) ?_
    refine am_vc_ok am_k186 [30] 100 ?_
    refine And.intro (fun g => absurd g (by decide)) (fun _ => ?_)
    exact am_vI am_k186 am_r186 rfl ⟨rfl, rfl, rfl, rfl, rfl, rfl⟩
  · exact absurd (bI_1.mp h1) h
theorem m_fields_none {s : Nat} {v : Int32} (hs : s < 4) (hv : 0 ≤ v ∧ v ≤ 9) (h0 : σ 49 0 s < 0) : am_D l 186 [aR 12 0, aI (nI s), aI v] σ τ (rX t) cX lX (some (aI (-3))) (mmeets 1 σ) τ (rX t) := by
  refine am_D_of am_o186 am_l186 rfl ?_
  refine am_vc_ok am_k186 [30] 100 ?_
  refine am_vS am_k186 am_h186 rfl rfl rfl rfl (m_isVersion) ?_
  refine am_vc_ok am_k186 [30] 100 ?_
  refine And.intro (fun g => absurd hv (bI_0.mp g)) (fun _ => ?_)
  refine am_vO am_k186 am_h186 rfl rfl rfl rfl (m_askedShape hs) ?_
  refine am_vc_ok am_k186 [30] 100 ?_
  simp only [if_pos h0]
  refine And.intro (fun g => absurd g (by decide)) (fun _ => ?_)
  exact am_vI am_k186 am_r186 rfl ⟨rfl, rfl, rfl, rfl, rfl, rfl⟩
theorem m_write_bad {s v r q : Int32} (h : ¬ (0 ≤ s ∧ s ≤ 3) ∨ ¬ (0 ≤ v ∧ v ≤ 9) ∨ ¬ (0 ≤ r ∧ r ≤ 5) ∨ ¬ (0 ≤ q ∧ q ≤ 5)) : am_D l 188 [aR 12 0, aI s, aI v, aI r, aI q] σ τ (rX t) cX lX (some (aI (-1))) σ τ (rX t) := by
  refine am_D_of am_o188 am_l188 rfl ?_
  refine am_vc_ok am_k188 [66] 100 ?_
  refine am_vS am_k188 am_h188 rfl rfl rfl rfl (m_isShape) ?_
  refine am_vc_ok am_k188 [66] 100 ?_
  refine And.intro (fun h1 => ?_) (fun h1 => ?_)
  · exact am_vI am_k188 am_r188 rfl ⟨rfl, rfl, rfl, rfl, rfl, rfl⟩
  refine am_vS am_k188 am_h188 rfl rfl rfl rfl (m_isVersion) ?_
  refine am_vc_ok am_k188 [66] 100 ?_
  refine And.intro (fun h2 => ?_) (fun h2 => ?_)
  · exact am_vI am_k188 am_r188 rfl ⟨rfl, rfl, rfl, rfl, rfl, rfl⟩
  refine am_vS am_k188 am_h188 rfl rfl rfl rfl (m_isSix) ?_
  refine am_vc_ok am_k188 [66] 100 ?_
  refine And.intro (fun h3 => ?_) (fun h3 => ?_)
  · exact am_vI am_k188 am_r188 rfl ⟨rfl, rfl, rfl, rfl, rfl, rfl⟩
  refine am_vS am_k188 am_h188 rfl rfl rfl rfl (m_isSix) ?_
  refine am_vc_ok am_k188 [66] 100 ?_
  refine And.intro (fun h4 => ?_) (fun h4 => ?_)
  · exact am_vI am_k188 am_r188 rfl ⟨rfl, rfl, rfl, rfl, rfl, rfl⟩
  · rcases h with h | h | h | h
    · exact absurd (bI_1.mp h1) h
    · exact absurd (bI_1.mp h2) h
    · exact absurd (bI_1.mp h3) h
    · exact absurd (bI_1.mp h4) h
theorem m_write_none {s r : Nat} {v q : Int32} (hs : s < 4) (hv : 0 ≤ v ∧ v ≤ 9) (hr : r < 6) (hq : 0 ≤ q ∧ q ≤ 5) (h0 : σ 49 0 s < 0 ∨ σ 44 0 r < 0) : am_D l 188 [aR 12 0, aI (nI s), aI v, aI (nI r), aI q] σ τ (rX t) cX lX (some (aI (-3))) (mmeets 1 σ) τ (rX t) := by
  refine am_D_of am_o188 am_l188 rfl ?_
  refine am_vc_ok am_k188 [66] 100 ?_
  refine am_vS am_k188 am_h188 rfl rfl rfl rfl (m_isShape) ?_
  refine am_vc_ok am_k188 [66] 100 ?_
  refine And.intro (fun g => absurd (in3 hs) (bI_0.mp g)) (fun _ => ?_)
  refine am_vS am_k188 am_h188 rfl rfl rfl rfl (m_isVersion) ?_
  refine am_vc_ok am_k188 [66] 100 ?_
  refine And.intro (fun g => absurd hv (bI_0.mp g)) (fun _ => ?_)
  refine am_vS am_k188 am_h188 rfl rfl rfl rfl (m_isSix) ?_
  refine am_vc_ok am_k188 [66] 100 ?_
  refine And.intro (fun g => absurd (in5 hr) (bI_0.mp g)) (fun _ => ?_)
  refine am_vS am_k188 am_h188 rfl rfl rfl rfl (m_isSix) ?_
  refine am_vc_ok am_k188 [66] 100 ?_
  refine And.intro (fun g => absurd hq (bI_0.mp g)) (fun _ => ?_)
  refine And.intro (vp_in_nI (N := 4) hs (by decide)) ?_
  rw [nI_clamp (n := s) (by omega)]
  refine And.intro (fun _ => ?_) (fun g1 => ?_)
  · refine am_vO am_k188 am_h188 rfl rfl rfl rfl (m_meets (w := 1) (by decide)) ?_
    refine am_vc_ok am_k188 [66] 100 ?_
    exact am_vI am_k188 am_r188 rfl ⟨rfl, rfl, rfl, rfl, rfl, rfl⟩
  refine And.intro (vp_in_nI (N := 6) hr (by decide)) ?_
  rw [nI_clamp (n := r) (by omega)]
  refine And.intro (fun g2 => ?_) (fun _ => ?_)
  · rcases h0 with h0 | h0
    · exact absurd h0 g1
    · exact absurd h0 (Int32.not_lt.mpr g2)
  · refine am_vO am_k188 am_h188 rfl rfl rfl rfl (m_meets (w := 1) (by decide)) ?_
    refine am_vc_ok am_k188 [66] 100 ?_
    exact am_vI am_k188 am_r188 rfl ⟨rfl, rfl, rfl, rfl, rfl, rfl⟩
theorem m_read_bad {s v r q : Int32} (h : ¬ (0 ≤ s ∧ s ≤ 3) ∨ ¬ (0 ≤ v ∧ v ≤ 9) ∨ ¬ (0 ≤ r ∧ r ≤ 5) ∨ ¬ (0 ≤ q ∧ q ≤ 5)) : am_D l 191 [aR 12 0, aI s, aI v, aI r, aI q] σ τ (rX t) cX lX (some (aI (-1))) σ τ (rX t) := by
  refine am_D_of am_o191 am_l191 rfl ?_
  refine am_vc_ok am_k191 [] 100 ?_
  refine am_vS am_k191 am_h191 rfl rfl rfl rfl (m_isShape) ?_
  refine am_vc_ok am_k191 [] 100 ?_
  refine And.intro (fun h1 => ?_) (fun h1 => ?_)
  · exact am_vI am_k191 am_r191 rfl ⟨rfl, rfl, rfl, rfl, rfl, rfl⟩
  refine am_vS am_k191 am_h191 rfl rfl rfl rfl (m_isVersion) ?_
  refine am_vc_ok am_k191 [] 100 ?_
  refine And.intro (fun h2 => ?_) (fun h2 => ?_)
  · exact am_vI am_k191 am_r191 rfl ⟨rfl, rfl, rfl, rfl, rfl, rfl⟩
  refine am_vS am_k191 am_h191 rfl rfl rfl rfl (m_isSix) ?_
  refine am_vc_ok am_k191 [] 100 ?_
  refine And.intro (fun h4 => ?_) (fun h4 => ?_)
  · exact am_vI am_k191 am_r191 rfl ⟨rfl, rfl, rfl, rfl, rfl, rfl⟩
  refine am_vS am_k191 am_h191 rfl rfl rfl rfl (m_isSix) ?_
  refine am_vc_ok am_k191 [] 100 ?_
  refine And.intro (fun h3 => ?_) (fun h3 => ?_)
  · exact am_vI am_k191 am_r191 rfl ⟨rfl, rfl, rfl, rfl, rfl, rfl⟩
  · rcases h with h | h | h | h
    · exact absurd (bI_1.mp h1) h
    · exact absurd (bI_1.mp h2) h
    · exact absurd (bI_1.mp h3) h
    · exact absurd (bI_1.mp h4) h
theorem m_read_none {s r : Nat} {v q : Int32} (hs : s < 4) (hv : 0 ≤ v ∧ v ≤ 9) (hr : r < 6) (hq : 0 ≤ q ∧ q ≤ 5) (h0 : σ 49 0 s < 0 ∨ σ 47 0 r < 0) : am_D l 191 [aR 12 0, aI (nI s), aI v, aI (nI r), aI q] σ τ (rX t) cX lX (some (aI (-3))) (mmeets 1 σ) τ (rX t) := by
  refine am_D_of am_o191 am_l191 rfl ?_
  refine am_vc_ok am_k191 [] 100 ?_
  refine am_vS am_k191 am_h191 rfl rfl rfl rfl (m_isShape) ?_
  refine am_vc_ok am_k191 [] 100 ?_
  refine And.intro (fun g => absurd (in3 hs) (bI_0.mp g)) (fun _ => ?_)
  refine am_vS am_k191 am_h191 rfl rfl rfl rfl (m_isVersion) ?_
  refine am_vc_ok am_k191 [] 100 ?_
  refine And.intro (fun g => absurd hv (bI_0.mp g)) (fun _ => ?_)
  refine am_vS am_k191 am_h191 rfl rfl rfl rfl (m_isSix) ?_
  refine am_vc_ok am_k191 [] 100 ?_
  refine And.intro (fun g => absurd hq (bI_0.mp g)) (fun _ => ?_)
  refine am_vS am_k191 am_h191 rfl rfl rfl rfl (m_isSix) ?_
  refine am_vc_ok am_k191 [] 100 ?_
  refine And.intro (fun g => absurd (in5 hr) (bI_0.mp g)) (fun _ => ?_)
  refine And.intro (vp_in_nI (N := 4) hs (by decide)) ?_
  rw [nI_clamp (n := s) (by omega)]
  refine And.intro (fun _ => ?_) (fun g1 => ?_)
  · refine am_vO am_k191 am_h191 rfl rfl rfl rfl (m_meets (w := 1) (by decide)) ?_
    refine am_vc_ok am_k191 [] 100 ?_
    exact am_vI am_k191 am_r191 rfl ⟨rfl, rfl, rfl, rfl, rfl, rfl⟩
  refine And.intro (vp_in_nI (N := 6) hr (by decide)) ?_
  rw [nI_clamp (n := r) (by omega)]
  refine And.intro (fun g2 => ?_) (fun _ => ?_)
  · rcases h0 with h0 | h0
    · exact absurd h0 g1
    · exact absurd h0 (Int32.not_lt.mpr g2)
  · refine am_vO am_k191 am_h191 rfl rfl rfl rfl (m_meets (w := 1) (by decide)) ?_
    refine am_vc_ok am_k191 [] 100 ?_
    exact am_vI am_k191 am_r191 rfl ⟨rfl, rfl, rfl, rfl, rfl, rfl⟩
theorem m_handOn_bad {r : Int32} (hr : ¬ (0 ≤ r ∧ r ≤ 5)) : am_D l 193 [aR 12 0, aI r] σ τ (rX t) cX lX (some (aI (-1))) σ τ (rX t) := by
  refine am_D_of am_o193 am_l193 rfl ?_
  refine am_vc_ok am_k193 [36] 100 ?_
  refine am_vO am_k193 am_h193 rfl rfl rfl rfl (m_askedText_bad hr) ?_
  refine am_vc_ok am_k193 [36] 100 ?_
  refine And.intro (fun g => absurd g (by decide)) (fun _ => ?_)
  exact am_vI am_k193 am_r193 rfl ⟨rfl, rfl, rfl, rfl, rfl, rfl⟩
theorem m_handOn_none {j : Nat} (hj : j < 6) (h0 : σ 47 0 j < 0) : am_D l 193 [aR 12 0, aI (nI j)] σ τ (rX t) cX lX (some (aI (-3))) (mmeets 1 σ) τ (rX t) := by
  refine am_D_of am_o193 am_l193 rfl ?_
  refine am_vc_ok am_k193 [36] 100 ?_
  refine am_vO am_k193 am_h193 rfl rfl rfl rfl (m_askedText hj) ?_
  refine am_vc_ok am_k193 [36] 100 ?_
  simp only [if_pos h0]
  refine And.intro (fun g => absurd g (by decide)) (fun _ => ?_)
  exact am_vI am_k193 am_r193 rfl ⟨rfl, rfl, rfl, rfl, rfl, rfl⟩
theorem m_unlike_bad {s w v : Int32} (h : ¬ (0 ≤ s ∧ s ≤ 3) ∨ ¬ (0 ≤ w ∧ w ≤ 9) ∨ ¬ (0 ≤ v ∧ v ≤ 9)) : am_D l 195 [aR 12 0, aI s, aI w, aI v] σ τ (rX t) cX lX (some (aI (-1))) σ τ (rX t) := by
  refine am_D_of am_o195 am_l195 rfl ?_
  refine am_vc_ok am_k195 [] 100 ?_
  refine am_vS am_k195 am_h195 rfl rfl rfl rfl (m_isVersion) ?_
  refine am_vc_ok am_k195 [] 100 ?_
  refine And.intro (fun h2 => ?_) (fun h2 => ?_)
  · exact am_vI am_k195 am_r195 rfl ⟨rfl, rfl, rfl, rfl, rfl, rfl⟩
  refine am_vS am_k195 am_h195 rfl rfl rfl rfl (m_isVersion) ?_
  refine am_vc_ok am_k195 [] 100 ?_
  refine And.intro (fun h3 => ?_) (fun h3 => ?_)
  · exact am_vI am_k195 am_r195 rfl ⟨rfl, rfl, rfl, rfl, rfl, rfl⟩
  rcases h with h | h | h
  · refine am_vO am_k195 am_h195 rfl rfl rfl rfl (m_askedShape_bad h) ?_
    refine am_vc_ok am_k195 [] 100 ?_
    refine And.intro (fun g => absurd g (by decide)) (fun _ => ?_)
    exact am_vI am_k195 am_r195 rfl ⟨rfl, rfl, rfl, rfl, rfl, rfl⟩
  · exact absurd (bI_1.mp h2) h
  · exact absurd (bI_1.mp h3) h
theorem m_unlike_none {s : Nat} {w v : Int32} (hs : s < 4) (hw : 0 ≤ w ∧ w ≤ 9) (hv : 0 ≤ v ∧ v ≤ 9) (h0 : σ 49 0 s < 0) : am_D l 195 [aR 12 0, aI (nI s), aI w, aI v] σ τ (rX t) cX lX (some (aI (-3))) (mmeets 1 σ) τ (rX t) := by
  refine am_D_of am_o195 am_l195 rfl ?_
  refine am_vc_ok am_k195 [] 100 ?_
  refine am_vS am_k195 am_h195 rfl rfl rfl rfl (m_isVersion) ?_
  refine am_vc_ok am_k195 [] 100 ?_
  refine And.intro (fun g => absurd hw (bI_0.mp g)) (fun _ => ?_)
  refine am_vS am_k195 am_h195 rfl rfl rfl rfl (m_isVersion) ?_
  refine am_vc_ok am_k195 [] 100 ?_
  refine And.intro (fun g => absurd hv (bI_0.mp g)) (fun _ => ?_)
  refine am_vO am_k195 am_h195 rfl rfl rfl rfl (m_askedShape hs) ?_
  refine am_vc_ok am_k195 [] 100 ?_
  simp only [if_pos h0]
  refine And.intro (fun g => absurd g (by decide)) (fun _ => ?_)
  exact am_vI am_k195 am_r195 rfl ⟨rfl, rfl, rfl, rfl, rfl, rfl⟩
theorem m_fits_ref {s w v r : Int32} {s1 : tI} (h : am_D l 195 [aR 12 0, aI s, aI w, aI v] σ τ (rX t) cX lX (some (aI r)) s1 τ (rX t)) (hr : ¬ r = -9) (h0 : r < 0) : am_D l 196 [aR 12 0, aI s, aI w, aI v] σ τ (rX t) cX lX (some (aI r)) s1 τ (rX t) := by
  refine am_D_of am_o196 am_l196 rfl ?_
  refine am_vc_ok am_k196 [] 100 ?_
  refine am_vO am_k196 am_h196 rfl rfl rfl rfl (h) ?_
  refine am_vc_ok am_k196 [] 100 ?_
  refine And.intro (fun g => absurd g hr) (fun _ => ?_)
  refine And.intro (fun _ => ?_) (fun g => absurd h0 g)
  exact am_vI am_k196 am_r196 rfl ⟨rfl, rfl, rfl, rfl, rfl, rfl⟩
end L16
