/-! ROWS AND TEXTS: class and model -/
section XR2
variable {l : Launch} {σ : tI} {τ : tL} {t : Option (Nat × Nat)}
theorem in6 {j : Nat} (hj : j < 6) : ((0 : Int32) ≤ nI j ∧ nI j < 6) := ⟨nI_pos' (by omega), nI_lt (b := 6) hj (by decide)⟩
theorem in5 {j : Nat} (hj : j < 6) : ((0 : Int32) ≤ nI j ∧ nI j ≤ 5) := ⟨nI_pos' (by omega), nI_le (b := 5) (by omega) (by decide)⟩
theorem x_at_bad {r i : Int32} (hr : ¬ (0 ≤ r ∧ r < 6)) : am_D l 95 [aR 11 0, aI r, aI i] σ τ (rX t) cX lX (some (aI (-1))) σ τ (rX t) := by
  refine am_D_of am_o95 am_l95 rfl ?_
  refine am_vc_ok am_k95 [] 100 ?_
  refine am_vO am_k95 am_h95 rfl rfl rfl rfl (x_refPlace_bad hr) ?_
  refine am_vc_ok am_k95 [] 100 ?_
  refine And.intro (fun h => ?_) (fun h => ?_)
  · exact absurd h (by decide)
  · exact am_vI am_k95 am_r95 rfl ⟨rfl, rfl, rfl, rfl, rfl, rfl⟩
theorem x_at {j n : Nat} {i : Int32} (hj : j < 6) (hn : σ 6 (4 + j) 1 = nI n) (hn2 : n ≤ 60) : am_D l 95 [aR 11 0, aI (nI j), aI i] σ τ (rX t) cX lX (some (aI (if σ 6 (4 + j) 0 = 0 then -3 else if 0 ≤ i ∧ i < nI n then 1 else -3))) (if σ 6 (4 + j) 0 = 0 then xfind 1 σ else if 0 ≤ i ∧ i < nI n then u3 σ 11 0 11 (σ 30 (4 + j) i.toNatClampNeg) else xfind 2 σ) τ (rX t) := by
  refine am_D_of am_o95 am_l95 rfl ?_
  refine am_vc_ok am_k95 [] 100 ?_
  refine am_vO am_k95 am_h95 rfl rfl rfl rfl (x_refPlace hj hn hn2) ?_
  refine am_vc_ok am_k95 [] 100 ?_
  by_cases h1 : σ 6 (4 + j) 0 = 0
  · simp only [if_pos h1]
    refine And.intro (fun h => ?_) (fun h => ?_)
    · exact absurd h (by decide)
    · exact am_vI am_k95 am_r95 rfl ⟨rfl, rfl, rfl, rfl, rfl, rfl⟩
  · simp only [if_neg h1]
    by_cases h2 : 0 ≤ i ∧ i < nI n
    · simp only [if_pos h2]
      refine And.intro (fun h => ?_) (fun h => ?_)
      · obtain ⟨k, hk, rfl⟩ := ix_lt (nI_toInt (by omega)) h2
        refine And.intro (vp_in_nI (N := 6) hj (by decide)) ?_
        rw [nI_clamp (n := j) (by omega)]
        refine And.intro (by rw [lX_row (by omega)]; exact vp_in_nI (by omega) (by decide)) ?_
        exact am_vI am_k95 am_r95 rfl ⟨rfl, rfl, rfl, rfl, rfl, rfl⟩
      · exact absurd rfl h
    · simp only [if_neg h2]
      refine And.intro (fun h => ?_) (fun h => ?_)
      · exact absurd h (by decide)
      · exact am_vI am_k95 am_r95 rfl ⟨rfl, rfl, rfl, rfl, rfl, rfl⟩
theorem x_lay_bad {r i v : Int32} (hr : ¬ (0 ≤ r ∧ r < 6)) : am_D l 94 [aR 11 0, aI r, aI i, aI v] σ τ (rX t) cX lX (some (aI (-1))) σ τ (rX t) := by
  refine am_D_of am_o94 am_l94 rfl ?_
  refine am_vc_ok am_k94 [] 100 ?_
  refine am_vO am_k94 am_h94 rfl rfl rfl rfl (x_refPlace_bad hr) ?_
  refine am_vc_ok am_k94 [] 100 ?_
  refine And.intro (fun h => ?_) (fun h => ?_)
  · exact absurd h (by decide)
  · exact am_vI am_k94 am_r94 rfl ⟨rfl, rfl, rfl, rfl, rfl, rfl⟩
theorem x_lay {j n : Nat} {i v : Int32} (hj : j < 6) (hn : σ 6 (4 + j) 1 = nI n) (hn2 : n ≤ 60) : am_D l 94 [aR 11 0, aI (nI j), aI i, aI v] σ τ (rX t) cX lX (some (aI (if σ 6 (4 + j) 0 = 0 then -3 else if 0 ≤ i ∧ i < nI n then 1 else -3))) (if σ 6 (4 + j) 0 = 0 then xfind 1 σ else if 0 ≤ i ∧ i < nI n then u3 (u3 σ 11 0 11 (σ 30 (4 + j) i.toNatClampNeg)) 30 (4 + j) i.toNatClampNeg v else xfind 2 σ) τ (rX t) := by
  refine am_D_of am_o94 am_l94 rfl ?_
  refine am_vc_ok am_k94 [] 100 ?_
  refine am_vO am_k94 am_h94 rfl rfl rfl rfl (x_refPlace hj hn hn2) ?_
  refine am_vc_ok am_k94 [] 100 ?_
  by_cases h1 : σ 6 (4 + j) 0 = 0
  · simp only [if_pos h1]
    refine And.intro (fun h => ?_) (fun h => ?_)
    · exact absurd h (by decide)
    · exact am_vI am_k94 am_r94 rfl ⟨rfl, rfl, rfl, rfl, rfl, rfl⟩
  · simp only [if_neg h1]
    by_cases h2 : 0 ≤ i ∧ i < nI n
    · simp only [if_pos h2]
      refine And.intro (fun h => ?_) (fun h => ?_)
      · obtain ⟨k, hk, rfl⟩ := ix_lt (nI_toInt (by omega)) h2
        refine And.intro (vp_in_nI (N := 6) hj (by decide)) ?_
        rw [nI_clamp (n := j) (by omega)]
        refine And.intro (by rw [lX_row (by omega)]; exact vp_in_nI (by omega) (by decide)) ?_
        refine And.intro (vp_in_nI (N := 6) hj (by decide)) ?_
        rw [nI_clamp (n := j) (by omega)]
        refine And.intro (by rw [lX_row (by omega)]; exact vp_in_nI (by omega) (by decide)) ?_
        exact am_vI am_k94 am_r94 rfl ⟨rfl, rfl, rfl, rfl, rfl, rfl⟩
      · exact absurd rfl h
    · simp only [if_neg h2]
      refine And.intro (fun h => ?_) (fun h => ?_)
      · exact absurd h (by decide)
      · exact am_vI am_k94 am_r94 rfl ⟨rfl, rfl, rfl, rfl, rfl, rfl⟩
theorem x_tear_bad {r : Int32} (hr : ¬ (0 ≤ r ∧ r < 6)) : am_D l 96 [aR 11 0, aI r] σ τ (rX t) cX lX (some (aI (-1))) σ τ (rX t) := by
  refine am_D_of am_o96 am_l96 rfl ?_
  refine am_vc_ok am_k96 [] 100 ?_
  refine am_vS am_k96 am_h96 rfl rfl rfl rfl (x_within) ?_
  refine am_vc_ok am_k96 [] 100 ?_
  refine And.intro (fun h => ?_) (fun h => ?_)
  · exact am_vI am_k96 am_r96 rfl ⟨rfl, rfl, rfl, rfl, rfl, rfl⟩
  · exact absurd (bI_1.mp h) hr
theorem x_tear {j : Nat} (hj : j < 6) : am_D l 96 [aR 11 0, aI (nI j)] σ τ (rX t) cX lX (some (aI (if σ 6 (4 + j) 0 = 0 then -3 else 1))) (if σ 6 (4 + j) 0 = 0 then xfind 1 σ else u3 σ 6 (4 + j) 0 0) τ (rX t) := by
  refine am_D_of am_o96 am_l96 rfl ?_
  refine am_vc_ok am_k96 [] 100 ?_
  refine am_vS am_k96 am_h96 rfl rfl rfl rfl (x_within) ?_
  refine am_vc_ok am_k96 [] 100 ?_
  refine And.intro (fun h => ?_) (fun h => ?_)
  · exact absurd (in6 hj) (bI_0.mp h)
  refine And.intro (vp_in_nI (N := 6) hj (by decide)) ?_
  rw [nI_clamp (n := j) (by omega)]
  refine And.intro (fun h1 => ?_) (fun h1 => ?_)
  · have h1 : σ 6 (4 + j) 0 = 0 := h1
    simp only [if_pos h1]
    refine am_vO am_k96 am_h96 rfl rfl rfl rfl (x_find (w := 1) (by decide)) ?_
    refine am_vc_ok am_k96 [] 100 ?_
    exact am_vI am_k96 am_r96 rfl ⟨rfl, rfl, rfl, rfl, rfl, rfl⟩
  · have h1 : ¬ σ 6 (4 + j) 0 = 0 := h1
    simp only [if_neg h1]
    refine And.intro (vp_in_nI (N := 6) hj (by decide)) ?_
    rw [nI_clamp (n := j) (by omega)]
    refine And.intro (Or.inl rfl) ?_
    exact am_vI am_k96 am_r96 rfl ⟨rfl, rfl, rfl, rfl, rfl, rfl⟩
theorem x_row_bad {r n : Int32} (hr : ¬ (0 ≤ r ∧ r < 6) ∨ ¬ n ≤ 60) : am_D l 93 [aR 11 0, aI r, aI n] σ τ (rX t) cX lX (some (aI (-1))) σ τ (rX t) := by
  refine am_D_of am_o93 am_l93 rfl ?_
  refine am_vc_ok am_k93 [] 100 ?_
  refine am_vS am_k93 am_h93 rfl rfl rfl rfl (x_within) ?_
  refine am_vc_ok am_k93 [] 100 ?_
  refine And.intro (fun h => ?_) (fun h => ?_)
  · exact am_vI am_k93 am_r93 rfl ⟨rfl, rfl, rfl, rfl, rfl, rfl⟩
  refine And.intro (fun h1 => ?_) (fun h1 => ?_)
  · exact absurd h1 (hr.resolve_left (fun z => z (bI_1.mp h)))
  · exact am_vI am_k93 am_r93 rfl ⟨rfl, rfl, rfl, rfl, rfl, rfl⟩
theorem x_row_neg {r n : Int32} (hr : 0 ≤ r ∧ r < 6) (hn : n < 0) : am_D l 93 [aR 11 0, aI r, aI n] σ τ (rX t) cX lX (some (aI (-3))) (xfind 5 σ) τ (rX t) := by
  refine am_D_of am_o93 am_l93 rfl ?_
  refine am_vc_ok am_k93 [] 100 ?_
  refine am_vS am_k93 am_h93 rfl rfl rfl rfl (x_within) ?_
  refine am_vc_ok am_k93 [] 100 ?_
  refine And.intro (fun h => ?_) (fun h => ?_)
  · exact absurd hr (bI_0.mp h)
  refine And.intro (fun h1 => ?_) (fun h1 => ?_)
  · refine And.intro (fun h2 => ?_) (fun h2 => ?_)
    · exact absurd hn (Int32.not_lt.mpr h2)
    · refine am_vO am_k93 am_h93 rfl rfl rfl rfl (x_find (w := 5) (by decide)) ?_
      refine am_vc_ok am_k93 [] 100 ?_
      exact am_vI am_k93 am_r93 rfl ⟨rfl, rfl, rfl, rfl, rfl, rfl⟩
  · exact absurd (Int32.le_trans (Int32.le_of_lt hn) (by decide)) h1
theorem x_row {j n : Nat} (hj : j < 6) (hn : n ≤ 60) : am_D l 93 [aR 11 0, aI (nI j), aI (nI n)] σ τ (rX t) cX lX (some (aI (nI n))) (rfill σ (4 + j) n 0) τ (rX t) := by
  refine am_D_of am_o93 am_l93 rfl ?_
  refine am_vc_ok am_k93 [] 100 ?_
  refine am_vS am_k93 am_h93 rfl rfl rfl rfl (x_within) ?_
  refine am_vc_ok am_k93 [] 100 ?_
  refine And.intro (fun h => ?_) (fun h => ?_)
  · exact absurd (in6 hj) (bI_0.mp h)
  refine And.intro (fun h1 => ?_) (fun h1 => ?_)
  · refine And.intro (fun h2 => ?_) (fun h2 => ?_)
    · refine And.intro (vp_in_nI (N := 6) hj (by decide)) ?_
      rw [nI_clamp (n := j) (by omega)]
      refine am_vO am_k93 am_h93 rfl rfl rfl rfl (x_renew (n := n) (by rw [lX_row (by omega)]; exact hn) (by rw [lX_row (by omega)]; decide)) ?_
      refine am_vc_ok am_k93 [] 100 ?_
      exact am_vI am_k93 am_r93 rfl ⟨rfl, rfl, rfl, rfl, rfl, rfl⟩
    · exact absurd (nI_pos' (by omega)) h2
  · exact absurd (nI_le (b := 60) hn (by decide)) h1
theorem x_text_bad {r n : Int32} (hr : ¬ (0 ≤ r ∧ r < 6) ∨ ¬ n ≤ 60) : am_D l 98 [aR 11 0, aI r, aI n] σ τ (rX t) cX lX (some (aI (-1))) σ τ (rX t) := by
  refine am_D_of am_o98 am_l98 rfl ?_
  refine am_vc_ok am_k98 [] 100 ?_
  refine am_vS am_k98 am_h98 rfl rfl rfl rfl (x_within) ?_
  refine am_vc_ok am_k98 [] 100 ?_
  refine And.intro (fun h => ?_) (fun h => ?_)
  · exact am_vI am_k98 am_r98 rfl ⟨rfl, rfl, rfl, rfl, rfl, rfl⟩
  refine And.intro (fun h1 => ?_) (fun h1 => ?_)
  · exact absurd h1 (hr.resolve_left (fun z => z (bI_1.mp h)))
  · exact am_vI am_k98 am_r98 rfl ⟨rfl, rfl, rfl, rfl, rfl, rfl⟩
theorem x_text_neg {r n : Int32} (hr : 0 ≤ r ∧ r < 6) (hn : n < 0) : am_D l 98 [aR 11 0, aI r, aI n] σ τ (rX t) cX lX (some (aI (-3))) (xfind 5 σ) τ (rX t) := by
  refine am_D_of am_o98 am_l98 rfl ?_
  refine am_vc_ok am_k98 [] 100 ?_
  refine am_vS am_k98 am_h98 rfl rfl rfl rfl (x_within) ?_
  refine am_vc_ok am_k98 [] 100 ?_
  refine And.intro (fun h => ?_) (fun h => ?_)
  · exact absurd hr (bI_0.mp h)
  refine And.intro (fun h1 => ?_) (fun h1 => ?_)
  · refine And.intro (fun h2 => ?_) (fun h2 => ?_)
    · exact absurd hn (Int32.not_lt.mpr h2)
    · refine am_vO am_k98 am_h98 rfl rfl rfl rfl (x_find (w := 5) (by decide)) ?_
      refine am_vc_ok am_k98 [] 100 ?_
      exact am_vI am_k98 am_r98 rfl ⟨rfl, rfl, rfl, rfl, rfl, rfl⟩
  · exact absurd (Int32.le_trans (Int32.le_of_lt hn) (by decide)) h1
theorem x_text {j n : Nat} (hj : j < 6) (hn : n ≤ 60) : am_D l 98 [aR 11 0, aI (nI j), aI (nI n)] σ τ (rX t) cX lX (some (aI (nI n))) (rfill σ (10 + j) n 32) τ (rX t) := by
  refine am_D_of am_o98 am_l98 rfl ?_
  refine am_vc_ok am_k98 [] 100 ?_
  refine am_vS am_k98 am_h98 rfl rfl rfl rfl (x_within) ?_
  refine am_vc_ok am_k98 [] 100 ?_
  refine And.intro (fun h => ?_) (fun h => ?_)
  · exact absurd (in6 hj) (bI_0.mp h)
  refine And.intro (fun h1 => ?_) (fun h1 => ?_)
  · refine And.intro (fun h2 => ?_) (fun h2 => ?_)
    · refine And.intro (vp_in_nI (N := 6) hj (by decide)) ?_
      rw [nI_clamp (n := j) (by omega)]
      refine am_vO am_k98 am_h98 rfl rfl rfl rfl (x_renew (n := n) (by rw [lX_row (by omega)]; exact hn) (by rw [lX_row (by omega)]; decide)) ?_
      refine am_vc_ok am_k98 [] 100 ?_
      exact am_vI am_k98 am_r98 rfl ⟨rfl, rfl, rfl, rfl, rfl, rfl⟩
    · exact absurd (nI_pos' (by omega)) h2
  · exact absurd (nI_le (b := 60) hn (by decide)) h1
theorem x_put_bad {r i v : Int32} (hr : ¬ (0 ≤ r ∧ r < 6)) : am_D l 99 [aR 11 0, aI r, aI i, aI v] σ τ (rX t) cX lX (some (aI (-1))) σ τ (rX t) := by
  refine am_D_of am_o99 am_l99 rfl ?_
  refine am_vc_ok am_k99 [] 100 ?_
  refine am_vS am_k99 am_h99 rfl rfl rfl rfl (x_within) ?_
  refine am_vc_ok am_k99 [] 100 ?_
  refine And.intro (fun h => ?_) (fun h => ?_)
  · exact am_vI am_k99 am_r99 rfl ⟨rfl, rfl, rfl, rfl, rfl, rfl⟩
  · exact absurd (bI_1.mp h) hr
theorem x_put {j n : Nat} {i v : Int32} (hj : j < 6) (hn : σ 6 (10 + j) 1 = nI n) (hn2 : n ≤ 60) : am_D l 99 [aR 11 0, aI (nI j), aI i, aI v] σ τ (rX t) cX lX (some (aI (if σ 6 (10 + j) 0 = 0 then -3 else if 0 ≤ i ∧ i < nI n then σ 30 (10 + j) i.toNatClampNeg + 1000 else -3))) (if σ 6 (10 + j) 0 = 0 then xfind 1 σ else if 0 ≤ i ∧ i < nI n then u3 σ 30 (10 + j) i.toNatClampNeg v.toInt8.toInt32 else xfind 2 σ) τ (rX t) := by
  refine am_D_of am_o99 am_l99 rfl ?_
  refine am_vc_ok am_k99 [] 100 ?_
  refine am_vS am_k99 am_h99 rfl rfl rfl rfl (x_within) ?_
  refine am_vc_ok am_k99 [] 100 ?_
  refine And.intro (fun h => ?_) (fun h => ?_)
  · exact absurd (in6 hj) (bI_0.mp h)
  refine And.intro (vp_in_nI (N := 6) hj (by decide)) ?_
  rw [nI_clamp (n := j) (by omega)]
  refine And.intro (fun h1 => ?_) (fun h1 => ?_)
  · have h1 : σ 6 (10 + j) 0 = 0 := h1
    simp only [if_pos h1]
    refine am_vO am_k99 am_h99 rfl rfl rfl rfl (x_find (w := 1) (by decide)) ?_
    refine am_vc_ok am_k99 [] 100 ?_
    exact am_vI am_k99 am_r99 rfl ⟨rfl, rfl, rfl, rfl, rfl, rfl⟩
  have h1 : ¬ σ 6 (10 + j) 0 = 0 := h1
  simp only [if_neg h1]
  refine And.intro (vp_in_nI (N := 6) hj (by decide)) ?_
  rw [nI_clamp (n := j) (by omega)]
  refine am_vS am_k99 am_h99 rfl rfl rfl rfl (x_within) ?_
  refine am_vc_ok am_k99 [] 100 ?_
  rw [hn]
  refine And.intro (fun h2 => ?_) (fun h2 => ?_)
  · simp only [if_neg (bI_0.mp h2)]
    refine am_vO am_k99 am_h99 rfl rfl rfl rfl (x_find (w := 2) (by decide)) ?_
    refine am_vc_ok am_k99 [] 100 ?_
    exact am_vI am_k99 am_r99 rfl ⟨rfl, rfl, rfl, rfl, rfl, rfl⟩
  have h2 := bI_1.mp h2
  simp only [if_pos h2]
  obtain ⟨k, hk, rfl⟩ := ix_lt (nI_toInt (by omega)) h2
  refine And.intro (vp_in_nI (N := 6) hj (by decide)) ?_
  rw [nI_clamp (n := j) (by omega)]
  refine And.intro (by rw [lX_row (by omega)]; exact vp_in_nI (by omega) (by decide)) ?_
  refine And.intro (vp_in_nI (N := 6) hj (by decide)) ?_
  rw [nI_clamp (n := j) (by omega)]
  refine And.intro (by rw [lX_row (by omega)]; exact vp_in_nI (by omega) (by decide)) ?_
  exact am_vI am_k99 am_r99 rfl ⟨rfl, rfl, rfl, rfl, rfl, rfl⟩
theorem x_size_bad {r : Int32} (hr : ¬ (0 ≤ r ∧ r < 6)) : am_D l 100 [aR 11 0, aI r] σ τ (rX t) cX lX (some (aI (-1))) σ τ (rX t) := by
  refine am_D_of am_o100 am_l100 rfl ?_
  refine am_vc_ok am_k100 [] 100 ?_
  refine am_vS am_k100 am_h100 rfl rfl rfl rfl (x_within) ?_
  refine am_vc_ok am_k100 [] 100 ?_
  refine And.intro (fun h => ?_) (fun h => ?_)
  · exact am_vI am_k100 am_r100 rfl ⟨rfl, rfl, rfl, rfl, rfl, rfl⟩
  · exact absurd (bI_1.mp h) hr
theorem x_size {j : Nat} (hj : j < 6) : am_D l 100 [aR 11 0, aI (nI j)] σ τ (rX t) cX lX (some (aI (if σ 6 (10 + j) 0 = 0 then -3 else σ 6 (10 + j) 1))) (if σ 6 (10 + j) 0 = 0 then xfind 1 σ else σ) τ (rX t) := by
  refine am_D_of am_o100 am_l100 rfl ?_
  refine am_vc_ok am_k100 [] 100 ?_
  refine am_vS am_k100 am_h100 rfl rfl rfl rfl (x_within) ?_
  refine am_vc_ok am_k100 [] 100 ?_
  refine And.intro (fun h => ?_) (fun h => ?_)
  · exact absurd (in6 hj) (bI_0.mp h)
  refine And.intro (vp_in_nI (N := 6) hj (by decide)) ?_
  rw [nI_clamp (n := j) (by omega)]
  refine And.intro (fun h1 => ?_) (fun h1 => ?_)
  · have h1 : σ 6 (10 + j) 0 = 0 := h1
    simp only [if_pos h1]
    refine am_vO am_k100 am_h100 rfl rfl rfl rfl (x_find (w := 1) (by decide)) ?_
    refine am_vc_ok am_k100 [] 100 ?_
    exact am_vI am_k100 am_r100 rfl ⟨rfl, rfl, rfl, rfl, rfl, rfl⟩
  have h1 : ¬ σ 6 (10 + j) 0 = 0 := h1
  simp only [if_neg h1]
  refine And.intro (vp_in_nI (N := 6) hj (by decide)) ?_
  rw [nI_clamp (n := j) (by omega)]
  exact am_vI am_k100 am_r100 rfl ⟨rfl, rfl, rfl, rfl, rfl, rfl⟩
end XR2
