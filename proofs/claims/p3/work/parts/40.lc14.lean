/-! CASES OF THE LAW: copy (the class's side) -/
section L14
variable {l : Launch} {σ σ2 s : tI} {τ τ2 : tL} {t : Option (Nat × Nat)}
theorem lX30 {r : Nat} (h : r < 6) : lX 30 (4 + r) = 60 := by
  rcases (show r = 0 ∨ r = 1 ∨ r = 2 ∨ r = 3 ∨ r = 4 ∨ r = 5 by omega) with rfl | rfl | rfl | rfl | rfl | rfl <;> rfl
theorem x_copy_bad {r f r2 f2 k : Int32} (h : ¬ (0 ≤ r ∧ r < 6) ∨ ¬ (0 ≤ r2 ∧ r2 < 6)) : am_D l 97 [aR 11 0, aI r, aI f, aI r2, aI f2, aI k] σ τ (rX t) cX lX (some (aI (-1))) σ τ (rX t) := by
  refine am_D_of am_o97 am_l97 rfl ?_
  refine am_vc_ok am_k97 [] 100 ?_
  refine am_vS am_k97 am_h97 rfl rfl rfl rfl (x_within) ?_
  refine am_vc_ok am_k97 [] 100 ?_
  refine And.intro (fun h1 => ?_) (fun h1 => ?_)
  · exact am_vI am_k97 am_r97 rfl ⟨rfl, rfl, rfl, rfl, rfl, rfl⟩
  refine am_vS am_k97 am_h97 rfl rfl rfl rfl (x_within) ?_
  refine am_vc_ok am_k97 [] 100 ?_
  refine And.intro (fun h2 => ?_) (fun h2 => ?_)
  · exact am_vI am_k97 am_r97 rfl ⟨rfl, rfl, rfl, rfl, rfl, rfl⟩
  · rcases h with h | h
    · exact absurd (bI_1.mp h1) h
    · exact absurd (bI_1.mp h2) h
theorem x_copy_neg {r f r2 f2 k : Int32} (h : 0 ≤ r ∧ r < 6) (h2 : 0 ≤ r2 ∧ r2 < 6) (hk : k < 0) : am_D l 97 [aR 11 0, aI r, aI f, aI r2, aI f2, aI k] σ τ (rX t) cX lX (some (aI (-3))) (xfind 5 σ) τ (rX t) := by
  refine am_D_of am_o97 am_l97 rfl ?_
  refine am_vc_ok am_k97 [] 100 ?_
  refine am_vS am_k97 am_h97 rfl rfl rfl rfl (x_within) ?_
  refine am_vc_ok am_k97 [] 100 ?_
  refine And.intro (fun g => absurd h (bI_0.mp g)) (fun _ => ?_)
  refine am_vS am_k97 am_h97 rfl rfl rfl rfl (x_within) ?_
  refine am_vc_ok am_k97 [] 100 ?_
  refine And.intro (fun g => absurd h2 (bI_0.mp g)) (fun _ => ?_)
  refine And.intro (fun g => absurd hk (Int32.not_lt.mpr g)) (fun _ => ?_)
  refine am_vO am_k97 am_h97 rfl rfl rfl rfl (x_find (w := 5) (by decide)) ?_
  refine am_vc_ok am_k97 [] 100 ?_
  exact am_vI am_k97 am_r97 rfl ⟨rfl, rfl, rfl, rfl, rfl, rfl⟩
theorem x_copy_none {r r2 : Nat} {f f2 k : Int32} (h : r < 6) (h2 : r2 < 6) (hk : 0 ≤ k) (h0 : σ 6 (4 + r) 0 = 0 ∨ σ 6 (4 + r2) 0 = 0) : am_D l 97 [aR 11 0, aI (nI r), aI f, aI (nI r2), aI f2, aI k] σ τ (rX t) cX lX (some (aI (-3))) (xfind 1 σ) τ (rX t) := by
  refine am_D_of am_o97 am_l97 rfl ?_
  refine am_vc_ok am_k97 [] 100 ?_
  refine am_vS am_k97 am_h97 rfl rfl rfl rfl (x_within) ?_
  refine am_vc_ok am_k97 [] 100 ?_
  refine And.intro (fun g => absurd (in6 h) (bI_0.mp g)) (fun _ => ?_)
  refine am_vS am_k97 am_h97 rfl rfl rfl rfl (x_within) ?_
  refine am_vc_ok am_k97 [] 100 ?_
  refine And.intro (fun g => absurd (in6 h2) (bI_0.mp g)) (fun _ => ?_)
  refine And.intro (fun _ => ?_) (fun g => absurd hk g)
  refine And.intro (vp_in_nI (N := 6) h (by decide)) ?_
  rw [nI_clamp (n := r) (by omega)]
  refine And.intro (fun _ => ?_) (fun g1 => ?_)
  · refine am_vO am_k97 am_h97 rfl rfl rfl rfl (x_find (w := 1) (by decide)) ?_
    refine am_vc_ok am_k97 [] 100 ?_
    exact am_vI am_k97 am_r97 rfl ⟨rfl, rfl, rfl, rfl, rfl, rfl⟩
  · refine And.intro (vp_in_nI (N := 6) h2 (by decide)) ?_
    rw [nI_clamp (n := r2) (by omega)]
    refine And.intro (fun _ => ?_) (fun g2 => ?_)
    · refine am_vO am_k97 am_h97 rfl rfl rfl rfl (x_find (w := 1) (by decide)) ?_
      refine am_vc_ok am_k97 [] 100 ?_
      exact am_vI am_k97 am_r97 rfl ⟨rfl, rfl, rfl, rfl, rfl, rfl⟩
    · rcases h0 with h0 | h0
      · exact absurd h0 g1
      · exact absurd h0 g2
theorem x_copy_out {r r2 : Nat} {f f2 k : Int32} (h : r < 6) (h2 : r2 < 6) (hk : 0 ≤ k) (h01 : ¬ σ 6 (4 + r) 0 = 0) (h02 : ¬ σ 6 (4 + r2) 0 = 0) (hs : ¬ (0 ≤ f ∧ f ≤ σ 6 (4 + r) 1 ∧ k ≤ σ 6 (4 + r) 1 - f) ∨ ¬ (0 ≤ f2 ∧ f2 ≤ σ 6 (4 + r2) 1 ∧ k ≤ σ 6 (4 + r2) 1 - f2)) : am_D l 97 [aR 11 0, aI (nI r), aI f, aI (nI r2), aI f2, aI k] σ τ (rX t) cX lX (some (aI (-3))) (xfind 2 σ) τ (rX t) := by
  refine am_D_of am_o97 am_l97 rfl ?_
  refine am_vc_ok am_k97 [] 100 ?_
  refine am_vS am_k97 am_h97 rfl rfl rfl rfl (x_within) ?_
  refine am_vc_ok am_k97 [] 100 ?_
  refine And.intro (fun g => absurd (in6 h) (bI_0.mp g)) (fun _ => ?_)
  refine am_vS am_k97 am_h97 rfl rfl rfl rfl (x_within) ?_
  refine am_vc_ok am_k97 [] 100 ?_
  refine And.intro (fun g => absurd (in6 h2) (bI_0.mp g)) (fun _ => ?_)
  refine And.intro (fun _ => ?_) (fun g => absurd hk g)
  refine And.intro (vp_in_nI (N := 6) h (by decide)) ?_
  rw [nI_clamp (n := r) (by omega)]
  refine And.intro (fun g => absurd g h01) (fun _ => ?_)
  refine And.intro (vp_in_nI (N := 6) h2 (by decide)) ?_
  rw [nI_clamp (n := r2) (by omega)]
  refine And.intro (fun g => absurd g h02) (fun _ => ?_)
  refine And.intro (vp_in_nI (N := 6) h (by decide)) ?_
  rw [nI_clamp (n := r) (by omega)]
  refine am_vO am_k97 am_h97 rfl rfl rfl rfl (x_spans) ?_
  refine am_vc_ok am_k97 [] 100 ?_
  refine And.intro (fun _ => ?_) (fun g1 => ?_)
  · refine am_vO am_k97 am_h97 rfl rfl rfl rfl (x_find (w := 2) (by decide)) ?_
    refine am_vc_ok am_k97 [] 100 ?_
    exact am_vI am_k97 am_r97 rfl ⟨rfl, rfl, rfl, rfl, rfl, rfl⟩
  · refine And.intro (vp_in_nI (N := 6) h2 (by decide)) ?_
    rw [nI_clamp (n := r2) (by omega)]
    refine am_vO am_k97 am_h97 rfl rfl rfl rfl (x_spans) ?_
    refine am_vc_ok am_k97 [] 100 ?_
    refine And.intro (fun _ => ?_) (fun g2 => ?_)
    · refine am_vO am_k97 am_h97 rfl rfl rfl rfl (x_find (w := 2) (by decide)) ?_
      refine am_vc_ok am_k97 [] 100 ?_
      exact am_vI am_k97 am_r97 rfl ⟨rfl, rfl, rfl, rfl, rfl, rfl⟩
    · rcases hs with hs | hs
      · exact absurd (bI_1.mp g1) hs
      · exact absurd (bI_1.mp g2) hs
theorem x_copy {r r2 f f2 k : Nat} (h : r < 6) (h2 : r2 < 6) (hk : 0 ≤ nI k) (h01 : ¬ σ 6 (4 + r) 0 = 0) (h02 : ¬ σ 6 (4 + r2) 0 = 0) (hs : 0 ≤ nI f ∧ nI f ≤ σ 6 (4 + r) 1 ∧ nI k ≤ σ 6 (4 + r) 1 - nI f) (hs2 : 0 ≤ nI f2 ∧ nI f2 ≤ σ 6 (4 + r2) 1 ∧ nI k ≤ σ 6 (4 + r2) 1 - nI f2) (hf : f + k ≤ 60) (hf2 : f2 + k ≤ 60) : am_D l 97 [aR 11 0, aI (nI r), aI (nI f), aI (nI r2), aI (nI f2), aI (nI k)] σ τ (rX t) cX lX (some (aI 1)) (cp3 σ 30 (4 + r2) 30 (4 + r) f f2 k) τ (rX t) := by
  refine am_D_of am_o97 am_l97 rfl ?_
  refine am_vc_ok am_k97 [] 100 ?_
  refine am_vS am_k97 am_h97 rfl rfl rfl rfl (x_within) ?_
  refine am_vc_ok am_k97 [] 100 ?_
  refine And.intro (fun g => absurd (in6 h) (bI_0.mp g)) (fun _ => ?_)
  refine am_vS am_k97 am_h97 rfl rfl rfl rfl (x_within) ?_
  refine am_vc_ok am_k97 [] 100 ?_
  refine And.intro (fun g => absurd (in6 h2) (bI_0.mp g)) (fun _ => ?_)
  refine And.intro (fun _ => ?_) (fun g => absurd hk g)
  refine And.intro (vp_in_nI (N := 6) h (by decide)) ?_
  rw [nI_clamp (n := r) (by omega)]
  refine And.intro (fun g => absurd g h01) (fun _ => ?_)
  refine And.intro (vp_in_nI (N := 6) h2 (by decide)) ?_
  rw [nI_clamp (n := r2) (by omega)]
  refine And.intro (fun g => absurd g h02) (fun _ => ?_)
  refine And.intro (vp_in_nI (N := 6) h (by decide)) ?_
  rw [nI_clamp (n := r) (by omega)]
  refine am_vO am_k97 am_h97 rfl rfl rfl rfl (x_spans) ?_
  refine am_vc_ok am_k97 [] 100 ?_
  refine And.intro (fun g => absurd hs (bI_0.mp g)) (fun _ => ?_)
  refine And.intro (vp_in_nI (N := 6) h2 (by decide)) ?_
  rw [nI_clamp (n := r2) (by omega)]
  refine am_vO am_k97 am_h97 rfl rfl rfl rfl (x_spans) ?_
  refine am_vc_ok am_k97 [] 100 ?_
  refine And.intro (fun g => absurd hs2 (bI_0.mp g)) (fun _ => ?_)
  refine And.intro (vp_in_nI (N := 6) h (by decide)) ?_
  refine And.intro (vp_in_nI (N := 6) h2 (by decide)) ?_
  rw [nI_clamp (n := r) (by omega), nI_clamp (n := r2) (by omega)]
  refine am_vA am_k97 am_h97 rfl rfl rfl rfl (nI_pos (by omega)) (nI_pos (by omega)) (nI_pos (by omega)) ?_ ?_ ?_
  · rw [nI_clamp (by omega), nI_clamp (by omega), lX30 h]; exact hf
  · rw [nI_clamp (by omega), nI_clamp (by omega), lX30 h2]; exact hf2
  rw [nI_clamp (n := f) (by omega), nI_clamp (n := f2) (by omega), nI_clamp (n := k) (by omega)]
  refine am_vc_ok am_k97 [] 100 ?_
  exact am_vI am_k97 am_r97 rfl ⟨rfl, rfl, rfl, rfl, rfl, rfl⟩
theorem m_copy_bad {r f r2 f2 k : Int32} (h : ¬ (0 ≤ r ∧ r ≤ 5) ∨ ¬ (0 ≤ r2 ∧ r2 ≤ 5)) : am_D l 167 [aR 12 0, aI r, aI f, aI r2, aI f2, aI k] σ τ (rX t) cX lX (some (aI (-1))) σ τ (rX t) := by
  refine am_D_of am_o167 am_l167 rfl ?_
  refine am_vc_ok am_k167 [] 100 ?_
  refine am_vS am_k167 am_h167 rfl rfl rfl rfl (m_isSix) ?_
  refine am_vc_ok am_k167 [] 100 ?_
  refine And.intro (fun h1 => ?_) (fun h1 => ?_)
  · exact am_vI am_k167 am_r167 rfl ⟨rfl, rfl, rfl, rfl, rfl, rfl⟩
  refine am_vS am_k167 am_h167 rfl rfl rfl rfl (m_isSix) ?_
  refine am_vc_ok am_k167 [] 100 ?_
  refine And.intro (fun h2 => ?_) (fun h2 => ?_)
  · exact am_vI am_k167 am_r167 rfl ⟨rfl, rfl, rfl, rfl, rfl, rfl⟩
  · rcases h with h | h
    · exact absurd (bI_1.mp h1) h
    · exact absurd (bI_1.mp h2) h
theorem m_copy_neg {r f r2 f2 k : Int32} (h : 0 ≤ r ∧ r ≤ 5) (h2 : 0 ≤ r2 ∧ r2 ≤ 5) (hk : k < 0) : am_D l 167 [aR 12 0, aI r, aI f, aI r2, aI f2, aI k] σ τ (rX t) cX lX (some (aI (-3))) (mmeets 5 σ) τ (rX t) := by
  refine am_D_of am_o167 am_l167 rfl ?_
  refine am_vc_ok am_k167 [] 100 ?_
  refine am_vS am_k167 am_h167 rfl rfl rfl rfl (m_isSix) ?_
  refine am_vc_ok am_k167 [] 100 ?_
  refine And.intro (fun g => absurd h (bI_0.mp g)) (fun _ => ?_)
  refine am_vS am_k167 am_h167 rfl rfl rfl rfl (m_isSix) ?_
  refine am_vc_ok am_k167 [] 100 ?_
  refine And.intro (fun g => absurd h2 (bI_0.mp g)) (fun _ => ?_)
  refine And.intro (fun g => absurd hk (Int32.not_lt.mpr g)) (fun _ => ?_)
  refine am_vO am_k167 am_h167 rfl rfl rfl rfl (m_meets (w := 5) (by decide)) ?_
  refine am_vc_ok am_k167 [] 100 ?_
  exact am_vI am_k167 am_r167 rfl ⟨rfl, rfl, rfl, rfl, rfl, rfl⟩
theorem m_copy_none {r r2 : Nat} {f f2 k : Int32} (h : r < 6) (h2 : r2 < 6) (hk : 0 ≤ k) (h0 : σ 44 0 r < 0 ∨ σ 44 0 r2 < 0) : am_D l 167 [aR 12 0, aI (nI r), aI f, aI (nI r2), aI f2, aI k] σ τ (rX t) cX lX (some (aI (-3))) (mmeets 1 σ) τ (rX t) := by
  refine am_D_of am_o167 am_l167 rfl ?_
  refine am_vc_ok am_k167 [] 100 ?_
  refine am_vS am_k167 am_h167 rfl rfl rfl rfl (m_isSix) ?_
  refine am_vc_ok am_k167 [] 100 ?_
  refine And.intro (fun g => absurd (in5 h) (bI_0.mp g)) (fun _ => ?_)
  refine am_vS am_k167 am_h167 rfl rfl rfl rfl (m_isSix) ?_
  refine am_vc_ok am_k167 [] 100 ?_
  refine And.intro (fun g => absurd (in5 h2) (bI_0.mp g)) (fun _ => ?_)
  refine And.intro (fun _ => ?_) (fun g => absurd hk g)
  refine And.intro (vp_in_nI (N := 6) h (by decide)) ?_
  rw [nI_clamp (n := r) (by omega)]
  refine And.intro (fun _ => ?_) (fun g1 => ?_)
  · refine am_vO am_k167 am_h167 rfl rfl rfl rfl (m_meets (w := 1) (by decide)) ?_
    refine am_vc_ok am_k167 [] 100 ?_
    exact am_vI am_k167 am_r167 rfl ⟨rfl, rfl, rfl, rfl, rfl, rfl⟩
  · refine And.intro (vp_in_nI (N := 6) h2 (by decide)) ?_
    rw [nI_clamp (n := r2) (by omega)]
    refine And.intro (fun g2 => ?_) (fun _ => ?_)
    · rcases h0 with h0 | h0
      · exact absurd h0 g1
      · exact absurd h0 (Int32.not_lt.mpr g2)
    · refine am_vO am_k167 am_h167 rfl rfl rfl rfl (m_meets (w := 1) (by decide)) ?_
      refine am_vc_ok am_k167 [] 100 ?_
      exact am_vI am_k167 am_r167 rfl ⟨rfl, rfl, rfl, rfl, rfl, rfl⟩
theorem m_copy_out {r r2 : Nat} {f f2 k : Int32} (h : r < 6) (h2 : r2 < 6) (hk : 0 ≤ k) (h01 : ¬ σ 44 0 r < 0) (h02 : ¬ σ 44 0 r2 < 0) (hs : ¬ (¬ f < 0 ∧ ¬ f2 < 0 ∧ ¬ 0 < lg_cmp (f.toInt64 + k.toInt64) (σ 44 0 r).toInt64 ∧ lg_cmp (f2.toInt64 + k.toInt64) (σ 44 0 r2).toInt64 ≤ 0)) : am_D l 167 [aR 12 0, aI (nI r), aI f, aI (nI r2), aI f2, aI k] σ τ (rX t) cX lX (some (aI (-3))) (mmeets 2 σ) τ (rX t) := by
  refine am_D_of am_o167 am_l167 rfl ?_
  refine am_vc_ok am_k167 [] 100 ?_
  refine am_vS am_k167 am_h167 rfl rfl rfl rfl (m_isSix) ?_
  refine am_vc_ok am_k167 [] 100 ?_
  refine And.intro (fun g => absurd (in5 h) (bI_0.mp g)) (fun _ => ?_)
  refine am_vS am_k167 am_h167 rfl rfl rfl rfl (m_isSix) ?_
  refine am_vc_ok am_k167 [] 100 ?_
  refine And.intro (fun g => absurd (in5 h2) (bI_0.mp g)) (fun _ => ?_)
  refine And.intro (fun _ => ?_) (fun g => absurd hk g)
  refine And.intro (vp_in_nI (N := 6) h (by decide)) ?_
  rw [nI_clamp (n := r) (by omega)]
  refine And.intro (fun g => absurd g h01) (fun _ => ?_)
  refine And.intro (vp_in_nI (N := 6) h2 (by decide)) ?_
  rw [nI_clamp (n := r2) (by omega)]
  refine And.intro (fun _ => ?_) (fun g => absurd (Int32.not_lt.mp h02) g)
  refine And.intro (fun g3 => ?_) (fun g3 => ?_)
  · refine am_vO am_k167 am_h167 rfl rfl rfl rfl (m_meets (w := 2) (by decide)) ?_
    refine am_vc_ok am_k167 [] 100 ?_
    exact am_vI am_k167 am_r167 rfl ⟨rfl, rfl, rfl, rfl, rfl, rfl⟩
  refine And.intro (fun g4 => ?_) (fun g4 => ?_)
  · refine am_vO am_k167 am_h167 rfl rfl rfl rfl (m_meets (w := 2) (by decide)) ?_
    refine am_vc_ok am_k167 [] 100 ?_
    exact am_vI am_k167 am_r167 rfl ⟨rfl, rfl, rfl, rfl, rfl, rfl⟩
  refine And.intro (vp_in_nI (N := 6) h (by decide)) ?_
  rw [nI_clamp (n := r) (by omega)]
  refine And.intro (fun g5 => ?_) (fun g5 => ?_)
  · refine am_vO am_k167 am_h167 rfl rfl rfl rfl (m_meets (w := 2) (by decide)) ?_
    refine am_vc_ok am_k167 [] 100 ?_
    exact am_vI am_k167 am_r167 rfl ⟨rfl, rfl, rfl, rfl, rfl, rfl⟩
  refine And.intro (vp_in_nI (N := 6) h2 (by decide)) ?_
  rw [nI_clamp (n := r2) (by omega)]
  refine And.intro (fun g6 => ?_) (fun g6 => ?_)
  · exact absurd ⟨g3, g4, g5, g6⟩ hs
  · refine am_vO am_k167 am_h167 rfl rfl rfl rfl (m_meets (w := 2) (by decide)) ?_
    refine am_vc_ok am_k167 [] 100 ?_
    exact am_vI am_k167 am_r167 rfl ⟨rfl, rfl, rfl, rfl, rfl, rfl⟩
theorem cp3_0 {k1 o1 k0 o0 sp dp : Nat} : cp3 σ k1 o1 k0 o0 sp dp 0 = σ := by
  funext a b c
  unfold cp3
  rw [if_neg (show ¬ (dp ≤ c ∧ c < dp + 0) by omega)]
  simp
theorem cp3_1 {k1 o1 k0 o0 sp dp n : Nat} : u3 (cp3 σ k1 o1 k0 o0 sp dp n) k1 o1 (dp + n) (σ k0 o0 (sp + n)) = cp3 σ k1 o1 k0 o0 sp dp (n + 1) := by
  funext a b c
  by_cases h1 : a = k1
  · by_cases h2 : b = o1
    · by_cases h3 : c = dp + n
      · rw [h1, h2, h3, u3_eq]
        unfold cp3
        rw [if_pos rfl, if_pos rfl, if_pos ⟨by omega, by omega⟩, show sp + (dp + n - dp) = sp + n by omega]
      · rw [u3_j _ _ h3]
        unfold cp3
        rw [if_pos h1, if_pos h2, if_pos h1, if_pos h2]
        by_cases h4 : dp ≤ c ∧ c < dp + n
        · rw [if_pos h4, if_pos ⟨h4.1, by omega⟩]
        · rw [if_neg h4, if_neg (by omega)]
    · rw [u3_i _ _ h2]
      unfold cp3
      rw [if_pos h1, if_neg h2, if_pos h1, if_neg h2]
  · rw [u3_k _ _ h1]
    unfold cp3
    rw [if_neg h1, if_neg h1]
theorem ix60 {r f c : Nat} : (60 : Int32) * nI r + nI f + nI c = nI (60 * r + f + c) := by
  rw [show (60 : Int32) = nI 60 from rfl, pk_mul, nI_add, nI_add]
abbrev mv1 (σ : tI) (r f c : Nat) : tI := cp3 σ 46 0 45 0 (60 * r + f) 0 c
theorem m_copy_loop1 {Q : tQ} {r r2 f f2 k : Nat} (hr : r < 6) (hf : f + k ≤ 60) (K : am_G l 167 Q 0 0 138 [(6, aI (nI k)), (0, aR 12 0), (1, aI (nI r)), (2, aI (nI f)), (3, aI (nI r2)), (4, aI (nI f2)), (5, aI (nI k))] [] (mv1 σ r f k) τ (rX t) cX lX) : ∀ (d c : Nat), c + d = k → am_G l 167 Q 0 0 104 [(6, aI (nI c)), (0, aR 12 0), (1, aI (nI r)), (2, aI (nI f)), (3, aI (nI r2)), (4, aI (nI f2)), (5, aI (nI k))] [] (mv1 σ r f c) τ (rX t) cX lX
  | 0, c, h => by
    obtain rfl : c = k := by omega
    refine am_vc_ok am_k167 [104, 138] 100 ?_
    refine And.intro (fun _ => K) (fun h1 => absurd (Int32.le_refl _) h1)
  | d + 1, c, h => by
    have K2 := m_copy_loop1 hr hf K d (c + 1) (by omega)
    rw [← nI_1] at K2
    refine am_vc_ok am_k167 [104, 138] 100 ?_
    refine And.intro (fun h1 => absurd h1 (nI_ge (by omega) (by omega))) (fun h1 => ?_)
    refine And.intro (by rw [ix60]; exact vp_in_nI (N := 360) (by omega) (by decide)) ?_
    rw [ix60, nI_clamp (n := 60 * r + f + c) (by omega)]
    refine And.intro (vp_in_nI (N := 60) (by omega) (by decide)) ?_
    rw [nI_clamp (n := c) (by omega)]
    have e := cp3_1 (σ := σ) (k1 := 46) (o1 := 0) (k0 := 45) (o0 := 0) (sp := 60 * r + f) (dp := 0) (n := c)
    rw [Nat.zero_add] at e
    have e2 : mv1 σ r f c 45 0 (60 * r + f + c) = σ 45 0 (60 * r + f + c) := by simp [mv1, cp3]
    rw [e2, e]
    exact K2
abbrev mv2 (σ : tI) (r2 f2 c : Nat) : tI := cp3 σ 45 0 46 0 0 (60 * r2 + f2) c
theorem m_copy_loop2 {Q : tQ} {r r2 f f2 k : Nat} (hr : r2 < 6) (hf : f2 + k ≤ 60) (K : am_G l 167 Q 0 0 176 [(6, aI (nI k)), (0, aR 12 0), (1, aI (nI r)), (2, aI (nI f)), (3, aI (nI r2)), (4, aI (nI f2)), (5, aI (nI k))] [] (mv2 σ r2 f2 k) τ (rX t) cX lX) : ∀ (d c : Nat), c + d = k → am_G l 167 Q 0 0 141 [(6, aI (nI c)), (0, aR 12 0), (1, aI (nI r)), (2, aI (nI f)), (3, aI (nI r2)), (4, aI (nI f2)), (5, aI (nI k))] [] (mv2 σ r2 f2 c) τ (rX t) cX lX
  | 0, c, h => by
    obtain rfl : c = k := by omega
    refine am_vc_ok am_k167 [141, 176] 100 ?_
    refine And.intro (fun _ => K) (fun h1 => absurd (Int32.le_refl _) h1)
  | d + 1, c, h => by
    have K2 := m_copy_loop2 hr hf K d (c + 1) (by omega)
    rw [← nI_1] at K2
    refine am_vc_ok am_k167 [141, 176] 100 ?_
    refine And.intro (fun h1 => absurd h1 (nI_ge (by omega) (by omega))) (fun h1 => ?_)
    refine And.intro (vp_in_nI (N := 60) (by omega) (by decide)) ?_
    rw [nI_clamp (n := c) (by omega)]
    refine And.intro (by rw [ix60]; exact vp_in_nI (N := 360) (by omega) (by decide)) ?_
    rw [ix60, nI_clamp (n := 60 * r2 + f2 + c) (by omega)]
    have e := cp3_1 (σ := σ) (k1 := 45) (o1 := 0) (k0 := 46) (o0 := 0) (sp := 0) (dp := 60 * r2 + f2) (n := c)
    rw [Nat.zero_add] at e
    have e2 : mv2 σ r2 f2 c 46 0 c = σ 46 0 c := by simp [mv2, cp3]
    rw [e2, e]
    exact K2
theorem m_copy {r r2 f f2 k : Nat} (h : r < 6) (h2 : r2 < 6) (hk : 0 ≤ nI k) (h01 : ¬ σ 44 0 r < 0) (h02 : ¬ σ 44 0 r2 < 0) (hf : f + k ≤ 60) (hf2 : f2 + k ≤ 60) (hs : ¬ nI f < 0 ∧ ¬ nI f2 < 0 ∧ ¬ 0 < lg_cmp ((nI f).toInt64 + (nI k).toInt64) (σ 44 0 r).toInt64 ∧ lg_cmp ((nI f2).toInt64 + (nI k).toInt64) (σ 44 0 r2).toInt64 ≤ 0) : am_D l 167 [aR 12 0, aI (nI r), aI (nI f), aI (nI r2), aI (nI f2), aI (nI k)] σ τ (rX t) cX lX (some (aI 1)) (mv2 (mv1 σ r f k) r2 f2 k) τ (rX t) := by
  refine am_D_of am_o167 am_l167 rfl ?_
  refine am_vc_ok am_k167 [104] 100 ?_
  refine am_vS am_k167 am_h167 rfl rfl rfl rfl (m_isSix) ?_
  refine am_vc_ok am_k167 [104] 100 ?_
  refine And.intro (fun g => absurd (in5 h) (bI_0.mp g)) (fun _ => ?_)
  refine am_vS am_k167 am_h167 rfl rfl rfl rfl (m_isSix) ?_
  refine am_vc_ok am_k167 [104] 100 ?_
  refine And.intro (fun g => absurd (in5 h2) (bI_0.mp g)) (fun _ => ?_)
  refine And.intro (fun _ => ?_) (fun g => absurd hk g)
  refine And.intro (vp_in_nI (N := 6) h (by decide)) ?_
  rw [nI_clamp (n := r) (by omega)]
  refine And.intro (fun g => absurd g h01) (fun _ => ?_)
  refine And.intro (vp_in_nI (N := 6) h2 (by decide)) ?_
  rw [nI_clamp (n := r2) (by omega)]
  refine And.intro (fun _ => ?_) (fun g => absurd (Int32.not_lt.mp h02) g)
  refine And.intro (fun g => absurd g hs.1) (fun _ => ?_)
  refine And.intro (fun g => absurd g hs.2.1) (fun _ => ?_)
  refine And.intro (vp_in_nI (N := 6) h (by decide)) ?_
  rw [nI_clamp (n := r) (by omega)]
  refine And.intro (fun g => absurd g hs.2.2.1) (fun _ => ?_)
  refine And.intro (vp_in_nI (N := 6) h2 (by decide)) ?_
  rw [nI_clamp (n := r2) (by omega)]
  refine And.intro (fun _ => ?_) (fun g => absurd hs.2.2.2 g)
  have L2 := m_copy_loop2 (l := l) (σ := mv1 σ r f k) (τ := τ) (t := t) (Q := fun v s t_1 p c n => v = some (aI 1) ∧ s = mv2 (mv1 σ r f k) r2 f2 k ∧ t_1 = τ ∧ p = rX t ∧ c = cX ∧ n = lX) (r := r) (f := f) h2 hf2 (by
    refine am_vc_ok am_k167 [] 100 ?_
    exact am_vI am_k167 am_r167 rfl ⟨rfl, rfl, rfl, rfl, rfl, rfl⟩) k 0 (by omega)
  rw [show mv2 (mv1 σ r f k) r2 f2 0 = mv1 σ r f k from cp3_0] at L2
  have L1 := m_copy_loop1 (l := l) (σ := σ) (τ := τ) (t := t) (Q := fun v s t_1 p c n => v = some (aI 1) ∧ s = mv2 (mv1 σ r f k) r2 f2 k ∧ t_1 = τ ∧ p = rX t ∧ c = cX ∧ n = lX) (r2 := r2) (f2 := f2) h hf (by
    refine am_vc_ok am_k167 [141] 100 ?_
    exact L2) k 0 (by omega)
  rw [show mv1 σ r f 0 = σ from cp3_0] at L1
  exact L1
end L14
