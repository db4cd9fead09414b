/-! MODEL: small methods -/
section MB
variable {l : Launch} {σ : tI} {τ : tL} {ρ : tR} {cn : tN} {ln : tM} {t : Option (Nat × Nat)}
theorem m_in {v lo hi : Int32} : am_D l 155 [aI v, aI lo, aI hi] σ τ ρ cn ln (some (aI (bI (lo ≤ v ∧ v ≤ hi)))) σ τ ρ := by
  refine am_D_of am_o155 am_l155 rfl ?_
  refine am_vc_ok am_k155 [] 100 ?_
  refine And.intro (fun h1 => ?_) (fun h1 => ?_)
  · rw [bI_f (fun h => (Int32.not_le.mpr h1) h.1)]
    exact am_vZ am_k155 am_r155 rfl (Or.inl rfl) ⟨rfl, rfl, rfl, rfl, rfl, rfl⟩
  refine And.intro (fun h2 => ?_) (fun h2 => ?_)
  · rw [bI_f (fun h => (Int32.not_le.mpr h2) h.2)]
    exact am_vZ am_k155 am_r155 rfl (Or.inl rfl) ⟨rfl, rfl, rfl, rfl, rfl, rfl⟩
  · rw [bI_t ⟨Int32.not_lt.mp h1, Int32.not_lt.mp h2⟩]
    exact am_vZ am_k155 am_r155 rfl (Or.inr rfl) ⟨rfl, rfl, rfl, rfl, rfl, rfl⟩
abbrev mmeets (w : Nat) (σ : tI) : tI := u3 (u3 σ 12 0 0 (nI w)) 43 0 w (σ 43 0 w + 1)
theorem m_meets {w : Nat} (hw : w < 6) : am_D l 156 [aR 12 0, aI (nI w)] σ τ (rX t) cX lX (some (aI (-3))) (mmeets w σ) τ (rX t) := by
  refine am_D_of am_o156 am_l156 rfl ?_
  refine am_vc_ok am_k156 [] 100 ?_
  refine And.intro (vp_in_nI (N := 6) hw (by decide)) ?_
  refine And.intro (vp_in_nI (N := 6) hw (by decide)) ?_
  rw [nI_clamp (by omega)]
  refine am_vI am_k156 am_r156 rfl ⟨rfl, ?_, rfl, rfl, rfl, rfl⟩
  rw [u3_k σ (nI w) (show 43 ≠ 12 by decide)]
theorem m_ask {v a : Int32} : am_D l 157 [aR 12 0, aI v, aI a] σ τ (rX t) cX lX (some (aI a)) (u3 σ 12 0 2 v) τ (rX t) := by
  refine am_D_of am_o157 am_l157 rfl ?_
  refine am_vc_ok am_k157 [] 100 ?_
  exact am_vI am_k157 am_r157 rfl ⟨rfl, rfl, rfl, rfl, rfl, rfl⟩
theorem m_isSix {k : Int32} : am_D l 160 [aI k] σ τ ρ cn ln (some (aI (bI (0 ≤ k ∧ k ≤ 5)))) σ τ ρ := by
  refine am_D_of am_o160 am_l160 rfl ?_
  refine am_vc_ok am_k160 [] 100 ?_
  refine am_vS am_k160 am_h160 rfl rfl rfl rfl (m_in) ?_
  refine am_vc_ok am_k160 [] 100 ?_
  refine am_vZ am_k160 am_r160 rfl bI_01 ⟨rfl, rfl, rfl, rfl, rfl, rfl⟩
theorem m_isShape {k : Int32} : am_D l 172 [aI k] σ τ ρ cn ln (some (aI (bI (0 ≤ k ∧ k ≤ 3)))) σ τ ρ := by
  refine am_D_of am_o172 am_l172 rfl ?_
  refine am_vc_ok am_k172 [] 100 ?_
  refine am_vS am_k172 am_h172 rfl rfl rfl rfl (m_in) ?_
  refine am_vc_ok am_k172 [] 100 ?_
  refine am_vZ am_k172 am_r172 rfl bI_01 ⟨rfl, rfl, rfl, rfl, rfl, rfl⟩
theorem m_isVersion {k : Int32} : am_D l 183 [aI k] σ τ ρ cn ln (some (aI (bI (0 ≤ k ∧ k ≤ 9)))) σ τ ρ := by
  refine am_D_of am_o183 am_l183 rfl ?_
  refine am_vc_ok am_k183 [] 100 ?_
  refine am_vS am_k183 am_h183 rfl rfl rfl rfl (m_in) ?_
  refine am_vc_ok am_k183 [] 100 ?_
  refine am_vZ am_k183 am_r183 rfl bI_01 ⟨rfl, rfl, rfl, rfl, rfl, rfl⟩
theorem m_isTick {k : Int32} : am_D l 214 [aI k] σ τ ρ cn ln (some (aI (bI (0 ≤ k ∧ k ≤ 9999)))) σ τ ρ := by
  refine am_D_of am_o214 am_l214 rfl ?_
  refine am_vc_ok am_k214 [] 100 ?_
  refine am_vS am_k214 am_h214 rfl rfl rfl rfl (m_in) ?_
  refine am_vc_ok am_k214 [] 100 ?_
  refine am_vZ am_k214 am_r214 rfl bI_01 ⟨rfl, rfl, rfl, rfl, rfl, rfl⟩
theorem m_has {s k : Int32} : am_D l 158 [aI s, aI k] σ τ ρ cn ln (some (aI (bI ((s >>> (k &&& 31)) &&& 1 = 1)))) σ τ ρ := by
  refine am_D_of am_o158 am_l158 rfl ?_
  refine am_vc_ok am_k158 [] 100 ?_
  refine And.intro (fun h1 => ?_) (fun h1 => ?_)
  · rw [bI_t h1]
    exact am_vZ am_k158 am_r158 rfl (Or.inr rfl) ⟨rfl, rfl, rfl, rfl, rfl, rfl⟩
  · rw [bI_f h1]
    exact am_vZ am_k158 am_r158 rfl (Or.inl rfl) ⟨rfl, rfl, rfl, rfl, rfl, rfl⟩
theorem m_isCall {c : Int32} : am_D l 231 [aR 12 0, aI c] σ τ (rX t) cX lX (some (aI (bI (0 ≤ c ∧ c ≤ σ 12 0 34 - 1)))) σ τ (rX t) := by
  refine am_D_of am_o231 am_l231 rfl ?_
  refine am_vc_ok am_k231 [] 100 ?_
  refine am_vS am_k231 am_h231 rfl rfl rfl rfl (m_in) ?_
  refine am_vc_ok am_k231 [] 100 ?_
  refine am_vZ am_k231 am_r231 rfl bI_01 ⟨rfl, rfl, rfl, rfl, rfl, rfl⟩
theorem x_isPair {a b : Int32} : am_D l 142 [aI a, aI b] σ τ ρ cn ln (some (aI (bI ((0 ≤ a ∧ a < 6) ∧ (0 ≤ b ∧ b < 6) ∧ a ≠ b)))) σ τ ρ := by
  refine am_D_of am_o142 am_l142 rfl ?_
  refine am_vc_ok am_k142 [] 100 ?_
  refine am_vS am_k142 am_h142 rfl rfl rfl rfl (x_within) ?_
  refine am_vc_ok am_k142 [] 100 ?_
  refine And.intro (fun h1 => ?_) (fun h1 => ?_)
  · rw [bI_f (fun h => bI_0.mp h1 h.1)]
    exact am_vZ am_k142 am_r142 rfl (Or.inl rfl) ⟨rfl, rfl, rfl, rfl, rfl, rfl⟩
  refine am_vS am_k142 am_h142 rfl rfl rfl rfl (x_within) ?_
  refine am_vc_ok am_k142 [] 100 ?_
  refine And.intro (fun h2 => ?_) (fun h2 => ?_)
  · rw [bI_f (fun h => bI_0.mp h2 h.2.1)]
    exact am_vZ am_k142 am_r142 rfl (Or.inl rfl) ⟨rfl, rfl, rfl, rfl, rfl, rfl⟩
  refine And.intro (fun h3 => ?_) (fun h3 => ?_)
  · rw [bI_f (fun h => h.2.2 h3)]
    exact am_vZ am_k142 am_r142 rfl (Or.inl rfl) ⟨rfl, rfl, rfl, rfl, rfl, rfl⟩
  · rw [bI_t ⟨bI_1.mp h1, bI_1.mp h2, h3⟩]
    exact am_vZ am_k142 am_r142 rfl (Or.inr rfl) ⟨rfl, rfl, rfl, rfl, rfl, rfl⟩
theorem m_part {s i w : Nat} (hs : s < 4) (hi : i < 12) (hw : w < 6) : am_D l 181 [aR 12 0, aI (nI s), aI (nI i), aI (nI w)] σ τ (rX t) cX lX (some (aI (σ 50 0 (72 * s + 6 * i + w)))) σ τ (rX t) := by
  have e : (72 : Int32) * nI s + 6 * nI i + nI w = nI (72 * s + 6 * i + w) := by
    rw [show (72 : Int32) = nI 72 from rfl, show (6 : Int32) = nI 6 from rfl, pk_mul, pk_mul, nI_add, nI_add]
  refine am_D_of am_o181 am_l181 rfl ?_
  refine am_vc_ok am_k181 [] 100 ?_
  refine And.intro (by rw [e]; exact vp_in_nI (N := 288) (by omega) (by decide)) ?_
  rw [e, nI_clamp (by omega)]
  exact am_vI am_k181 am_r181 rfl ⟨rfl, rfl, rfl, rfl, rfl, rfl⟩
end MB

/-! ROWS AND TEXTS: class and model -/
section XR2
variable {l : Launch} {σ : tI} {τ : tL} {t : Option (Nat × Nat)}
theorem in6 {j : Nat} (hj : j < 6) : ((0 : Int32) ≤ nI j ∧ nI j < 6) := ⟨nI_pos' (by omega), nI_lt (b := 6) hj (by decide)⟩
theorem in5 {j : Nat} (hj : j < 6) : ((0 : Int32) ≤ nI j ∧ nI j ≤ 5) := ⟨nI_pos' (by omega), nI_le (b := 5) (by omega) (by decide)⟩
theorem x_at_bad {r i : Int32} (hr : ¬ (0 ≤ r ∧ r < 6)) : am_D l 95 [aR 11 0, aI r, aI i] σ τ (rX t) cX lX (some (aI (-1))) σ τ (rX t) := by
  refine am_D_of am_o95 am_l95 rfl ?_
  refine am_vc_ok am_k95 [] 100 ?_
  refine am_vO am_k95 am_h95 rfl rfl rfl rfl (x_refPlace_bad hr) ?_
  refine am_vc_ok am_k95 [] 100 ?_
  refine And.intro (fun h => ?_) (fun h => ?_)
  · exact absurd h (by decide)
  · exact am_vI am_k95 am_r95 rfl ⟨rfl, rfl, rfl, rfl, rfl, rfl⟩
theorem x_at {j n : Nat} {i : Int32} (hj : j < 6) (hn : σ 6 (4 + j) 1 = nI n) (hn2 : n ≤ 60) : am_D l 95 [aR 11 0, aI (nI j), aI i] σ τ (rX t) cX lX (some (aI (if σ 6 (4 + j) 0 = 0 then -3 else if 0 ≤ i ∧ i < nI n then 1 else -3))) (if σ 6 (4 + j) 0 = 0 then xfind 1 σ else if 0 ≤ i ∧ i < nI n then u3 σ 11 0 11 (σ 30 (4 + j) i.toNatClampNeg) else xfind 2 σ) τ (rX t) := by
  refine am_D_of am_o95 am_l95 rfl ?_
  refine am_vc_ok am_k95 [] 100 ?_
  refine am_vO am_k95 am_h95 rfl rfl rfl rfl (x_refPlace hj hn hn2) ?_
  refine am_vc_ok am_k95 [] 100 ?_
  by_cases h1 : σ 6 (4 + j) 0 = 0
  · simp only [if_pos h1]
    refine And.intro (fun h => ?_) (fun h => ?_)
    · exact absurd h (by decide)
    · exact am_vI am_k95 am_r95 rfl ⟨rfl, rfl, rfl, rfl, rfl, rfl⟩
  · simp only [if_neg h1]
    by_cases h2 : 0 ≤ i ∧ i < nI n
    · simp only [if_pos h2]
      refine And.intro (fun h => ?_) (fun h => ?_)
      · obtain ⟨k, hk, rfl⟩ := ix_lt (nI_toInt (by omega)) h2
        refine And.intro (vp_in_nI (N := 6) hj (by decide)) ?_
        rw [nI_clamp (n := j) (by omega)]
        refine And.intro (by rw [lX_row (by omega)]; exact vp_in_nI (by omega) (by decide)) ?_
        exact am_vI am_k95 am_r95 rfl ⟨rfl, rfl, rfl, rfl, rfl, rfl⟩
      · exact absurd rfl h
    · simp only [if_neg h2]
      refine And.intro (fun h => ?_) (fun h => ?_)
      · exact absurd h (by decide)
      · exact am_vI am_k95 am_r95 rfl ⟨rfl, rfl, rfl, rfl, rfl, rfl⟩
theorem x_lay_bad {r i v : Int32} (hr : ¬ (0 ≤ r ∧ r < 6)) : am_D l 94 [aR 11 0, aI r, aI i, aI v] σ τ (rX t) cX lX (some (aI (-1))) σ τ (rX t) := by
  refine am_D_of am_o94 am_l94 rfl ?_
  refine am_vc_ok am_k94 [] 100 ?_
  refine am_vO am_k94 am_h94 rfl rfl rfl rfl (x_refPlace_bad hr) ?_
  refine am_vc_ok am_k94 [] 100 ?_
  refine And.intro (fun h => ?_) (fun h => ?_)
  · exact absurd h (by decide)
  · exact am_vI am_k94 am_r94 rfl ⟨rfl, rfl, rfl, rfl, rfl, rfl⟩
theorem x_lay {j n : Nat} {i v : Int32} (hj : j < 6) (hn : σ 6 (4 + j) 1 = nI n) (hn2 : n ≤ 60) : am_D l 94 [aR 11 0, aI (nI j), aI i, aI v] σ τ (rX t) cX lX (some (aI (if σ 6 (4 + j) 0 = 0 then -3 else if 0 ≤ i ∧ i < nI n then 1 else -3))) (if σ 6 (4 + j) 0 = 0 then xfind 1 σ else if 0 ≤ i ∧ i < nI n then u3 (u3 σ 11 0 11 (σ 30 (4 + j) i.toNatClampNeg)) 30 (4 + j) i.toNatClampNeg v else xfind 2 σ) τ (rX t) := by
  refine am_D_of am_o94 am_l94 rfl ?_
  refine am_vc_ok am_k94 [] 100 ?_
  refine am_vO am_k94 am_h94 rfl rfl rfl rfl (x_refPlace hj hn hn2) ?_
  refine am_vc_ok am_k94 [] 100 ?_
  by_cases h1 : σ 6 (4 + j) 0 = 0
  · simp only [if_pos h1]
    refine And.intro (fun h => ?_) (fun h => ?_)
    · exact absurd h (by decide)
    · exact am_vI am_k94 am_r94 rfl ⟨rfl, rfl, rfl, rfl, rfl, rfl⟩
  · simp only [if_neg h1]
    by_cases h2 : 0 ≤ i ∧ i < nI n
    · simp only [if_pos h2]
      refine And.intro (fun h => ?_) (fun h => ?_)
      · obtain ⟨k, hk, rfl⟩ := ix_lt (nI_toInt (by omega)) h2
        refine And.intro (vp_in_nI (N := 6) hj (by decide)) ?_
        rw [nI_clamp (n := j) (by omega)]
        refine And.intro (by rw [lX_row (by omega)]; exact vp_in_nI (by omega) (by decide)) ?_
        refine And.intro (vp_in_nI (N := 6) hj (by decide)) ?_
        rw [nI_clamp (n := j) (by omega)]
        refine And.intro (by rw [lX_row (by omega)]; exact vp_in_nI (by omega) (by decide)) ?_
        exact am_vI am_k94 am_r94 rfl ⟨rfl, rfl, rfl, rfl, rfl, rfl⟩
      · exact absurd rfl h
    · simp only [if_neg h2]
      refine And.intro (fun h => ?_) (fun h => ?_)
      · exact absurd h (by decide)
      · exact am_vI am_k94 am_r94 rfl ⟨rfl, rfl, rfl, rfl, rfl, rfl⟩
theorem x_tear_bad {r : Int32} (hr : ¬ (0 ≤ r ∧ r < 6)) : am_D l 96 [aR 11 0, aI r] σ τ (rX t) cX lX (some (aI (-1))) σ τ (rX t) := by
  refine am_D_of am_o96 am_l96 rfl ?_
  refine am_vc_ok am_k96 [] 100 ?_
  refine am_vS am_k96 am_h96 rfl rfl rfl rfl (x_within) ?_
  refine am_vc_ok am_k96 [] 100 ?_
  refine And.intro (fun h => ?_) (fun h => ?_)
  · exact am_vI am_k96 am_r96 rfl ⟨rfl, rfl, rfl, rfl, rfl, rfl⟩
  · exact absurd (bI_1.mp h) hr
theorem x_tear {j : Nat} (hj : j < 6) : am_D l 96 [aR 11 0, aI (nI j)] σ τ (rX t) cX lX (some (aI (if σ 6 (4 + j) 0 = 0 then -3 else 1))) (if σ 6 (4 + j) 0 = 0 then xfind 1 σ else u3 σ 6 (4 + j) 0 0) τ (rX t) := by
  refine am_D_of am_o96 am_l96 rfl ?_
  refine am_vc_ok am_k96 [] 100 ?_
  refine am_vS am_k96 am_h96 rfl rfl rfl rfl (x_within) ?_
  refine am_vc_ok am_k96 [] 100 ?_
  refine And.intro (fun h => ?_) (fun h => ?_)
  · exact absurd (in6 hj) (bI_0.mp h)
  refine And.intro (vp_in_nI (N := 6) hj (by decide)) ?_
  rw [nI_clamp (n := j) (by omega)]
  refine And.intro (fun h1 => ?_) (fun h1 => ?_)
  · have h1 : σ 6 (4 + j) 0 = 0 := h1
    simp only [if_pos h1]
    refine am_vO am_k96 am_h96 rfl rfl rfl rfl (x_find (w := 1) (by decide)) ?_
    refine am_vc_ok am_k96 [] 100 ?_
    exact am_vI am_k96 am_r96 rfl ⟨rfl, rfl, rfl, rfl, rfl, rfl⟩
  · have h1 : ¬ σ 6 (4 + j) 0 = 0 := h1
    simp only [if_neg h1]
    refine And.intro (vp_in_nI (N := 6) hj (by decide)) ?_
    rw [nI_clamp (n := j) (by omega)]
    refine And.intro (Or.inl rfl) ?_
    exact am_vI am_k96 am_r96 rfl ⟨rfl, rfl, rfl, rfl, rfl, rfl⟩
theorem x_row_bad {r n : Int32} (hr : ¬ (0 ≤ r ∧ r < 6) ∨ ¬ n ≤ 60) : am_D l 93 [aR 11 0, aI r, aI n] σ τ (rX t) cX lX (some (aI (-1))) σ τ (rX t) := by
  refine am_D_of am_o93 am_l93 rfl ?_
  refine am_vc_ok am_k93 [] 100 ?_
  refine am_vS am_k93 am_h93 rfl rfl rfl rfl (x_within) ?_
  refine am_vc_ok am_k93 [] 100 ?_
  refine And.intro (fun h => ?_) (fun h => ?_)
  · exact am_vI am_k93 am_r93 rfl ⟨rfl, rfl, rfl, rfl, rfl, rfl⟩
  refine And.intro (fun h1 => ?_) (fun h1 => ?_)
  · exact absurd h1 (hr.resolve_left (fun z => z (bI_1.mp h)))
  · exact am_vI am_k93 am_r93 rfl ⟨rfl, rfl, rfl, rfl, rfl, rfl⟩
theorem x_row_neg {r n : Int32} (hr : 0 ≤ r ∧ r < 6) (hn : n < 0) : am_D l 93 [aR 11 0, aI r, aI n] σ τ (rX t) cX lX (some (aI (-3))) (xfind 5 σ) τ (rX t) := by
  refine am_D_of am_o93 am_l93 rfl ?_
  refine am_vc_ok am_k93 [] 100 ?_
  refine am_vS am_k93 am_h93 rfl rfl rfl rfl (x_within) ?_
  refine am_vc_ok am_k93 [] 100 ?_
  refine And.intro (fun h => ?_) (fun h => ?_)
  · exact absurd hr (bI_0.mp h)
  refine And.intro (fun h1 => ?_) (fun h1 => ?_)
  · refine And.intro (fun h2 => ?_) (fun h2 => ?_)
    · exact absurd hn (Int32.not_lt.mpr h2)
    · refine am_vO am_k93 am_h93 rfl rfl rfl rfl (x_find (w := 5) (by decide)) ?_
      refine am_vc_ok am_k93 [] 100 ?_
      exact am_vI am_k93 am_r93 rfl ⟨rfl, rfl, rfl, rfl, rfl, rfl⟩
  · exact absurd (Int32.le_trans (Int32.le_of_lt hn) (by decide)) h1
theorem x_row {j n : Nat} (hj : j < 6) (hn : n ≤ 60) : am_D l 93 [aR 11 0, aI (nI j), aI (nI n)] σ τ (rX t) cX lX (some (aI (nI n))) (rfill σ (4 + j) n 0) τ (rX t) := by
  refine am_D_of am_o93 am_l93 rfl ?_
  refine am_vc_ok am_k93 [] 100 ?_
  refine am_vS am_k93 am_h93 rfl rfl rfl rfl (x_within) ?_
  refine am_vc_ok am_k93 [] 100 ?_
  refine And.intro (fun h => ?_) (fun h => ?_)
  · exact absurd (in6 hj) (bI_0.mp h)
  refine And.intro (fun h1 => ?_) (fun h1 => ?_)
  · refine And.intro (fun h2 => ?_) (fun h2 => ?_)
    · refine And.intro (vp_in_nI (N := 6) hj (by decide)) ?_
      rw [nI_clamp (n := j) (by omega)]
      refine am_vO am_k93 am_h93 rfl rfl rfl rfl (x_renew (n := n) (by rw [lX_row (by omega)]; exact hn) (by rw [lX_row (by omega)]; decide)) ?_
      refine am_vc_ok am_k93 [] 100 ?_
      exact am_vI am_k93 am_r93 rfl ⟨rfl, rfl, rfl, rfl, rfl, rfl⟩
    · exact absurd (nI_pos' (by omega)) h2
  · exact absurd (nI_le (b := 60) hn (by decide)) h1
theorem x_text_bad {r n : Int32} (hr : ¬ (0 ≤ r ∧ r < 6) ∨ ¬ n ≤ 60) : am_D l 98 [aR 11 0, aI r, aI n] σ τ (rX t) cX lX (some (aI (-1))) σ τ (rX t) := by
  refine am_D_of am_o98 am_l98 rfl ?_
  refine am_vc_ok am_k98 [] 100 ?_
  refine am_vS am_k98 am_h98 rfl rfl rfl rfl (x_within) ?_
  refine am_vc_ok am_k98 [] 100 ?_
  refine And.intro (fun h => ?_) (fun h => ?_)
  · exact am_vI am_k98 am_r98 rfl ⟨rfl, rfl, rfl, rfl, rfl, rfl⟩
  refine And.intro (fun h1 => ?_) (fun h1 => ?_)
  · exact absurd h1 (hr.resolve_left (fun z => z (bI_1.mp h)))
  · exact am_vI am_k98 am_r98 rfl ⟨rfl, rfl, rfl, rfl, rfl, rfl⟩
theorem x_text_neg {r n : Int32} (hr : 0 ≤ r ∧ r < 6) (hn : n < 0) : am_D l 98 [aR 11 0, aI r, aI n] σ τ (rX t) cX lX (some (aI (-3))) (xfind 5 σ) τ (rX t) := by
  refine am_D_of am_o98 am_l98 rfl ?_
  refine am_vc_ok am_k98 [] 100 ?_
  refine am_vS am_k98 am_h98 rfl rfl rfl rfl (x_within) ?_
  refine am_vc_ok am_k98 [] 100 ?_
  refine And.intro (fun h => ?_) (fun h => ?_)
  · exact absurd hr (bI_0.mp h)
  refine And.intro (fun h1 => ?_) (fun h1 => ?_)
  · refine And.intro (fun h2 => ?_) (fun h2 => ?_)
    · exact absurd hn (Int32.not_lt.mpr h2)
    · refine am_vO am_k98 am_h98 rfl rfl rfl rfl (x_find (w := 5) (by decide)) ?_
      refine am_vc_ok am_k98 [] 100 ?_
      exact am_vI am_k98 am_r98 rfl ⟨rfl, rfl, rfl, rfl, rfl, rfl⟩
  · exact absurd (Int32.le_trans (Int32.le_of_lt hn) (by decide)) h1
theorem x_text {j n : Nat} (hj : j < 6) (hn : n ≤ 60) : am_D l 98 [aR 11 0, aI (nI j), aI (nI n)] σ τ (rX t) cX lX (some (aI (nI n))) (rfill σ (10 + j) n 32) τ (rX t) := by
  refine am_D_of am_o98 am_l98 rfl ?_
  refine am_vc_ok am_k98 [] 100 ?_
  refine am_vS am_k98 am_h98 rfl rfl rfl rfl (x_within) ?_
  refine am_vc_ok am_k98 [] 100 ?_
  refine And.intro (fun h => ?_) (fun h => ?_)
  · exact absurd (in6 hj) (bI_0.mp h)
  refine And.intro (fun h1 => ?_) (fun h1 => ?_)
  · refine And.intro (fun h2 => ?_) (fun h2 => ?_)
    · refine And.intro (vp_in_nI (N := 6) hj (by decide)) ?_
      rw [nI_clamp (n := j) (by omega)]
      refine am_vO am_k98 am_h98 rfl rfl rfl rfl (x_renew (n := n) (by rw [lX_row (by omega)]; exact hn) (by rw [lX_row (by omega)]; decide)) ?_
      refine am_vc_ok am_k98 [] 100 ?_
      exact am_vI am_k98 am_r98 rfl ⟨rfl, rfl, rfl, rfl, rfl, rfl⟩
    · exact absurd (nI_pos' (by omega)) h2
  · exact absurd (nI_le (b := 60) hn (by decide)) h1
theorem x_put_bad {r i v : Int32} (hr : ¬ (0 ≤ r ∧ r < 6)) : am_D l 99 [aR 11 0, aI r, aI i, aI v] σ τ (rX t) cX lX (some (aI (-1))) σ τ (rX t) := by
  refine am_D_of am_o99 am_l99 rfl ?_
  refine am_vc_ok am_k99 [] 100 ?_
  refine am_vS am_k99 am_h99 rfl rfl rfl rfl (x_within) ?_
  refine am_vc_ok am_k99 [] 100 ?_
  refine And.intro (fun h => ?_) (fun h => ?_)
  · exact am_vI am_k99 am_r99 rfl ⟨rfl, rfl, rfl, rfl, rfl, rfl⟩
  · exact absurd (bI_1.mp h) hr
theorem x_put {j n : Nat} {i v : Int32} (hj : j < 6) (hn : σ 6 (10 + j) 1 = nI n) (hn2 : n ≤ 60) : am_D l 99 [aR 11 0, aI (nI j), aI i, aI v] σ τ (rX t) cX lX (some (aI (if σ 6 (10 + j) 0 = 0 then -3 else if 0 ≤ i ∧ i < nI n then σ 30 (10 + j) i.toNatClampNeg + 1000 else -3))) (if σ 6 (10 + j) 0 = 0 then xfind 1 σ else if 0 ≤ i ∧ i < nI n then u3 σ 30 (10 + j) i.toNatClampNeg v.toInt8.toInt32 else xfind 2 σ) τ (rX t) := by
  refine am_D_of am_o99 am_l99 rfl ?_
  refine am_vc_ok am_k99 [] 100 ?_
  refine am_vS am_k99 am_h99 rfl rfl rfl rfl (x_within) ?_
  refine am_vc_ok am_k99 [] 100 ?_
  refine And.intro (fun h => ?_) (fun h => ?_)
  · exact absurd (in6 hj) (bI_0.mp h)
  refine And.intro (vp_in_nI (N := 6) hj (by decide)) ?_
  rw [nI_clamp (n := j) (by omega)]
  refine And.intro (fun h1 => ?_) (fun h1 => ?_)
  · have h1 : σ 6 (10 + j) 0 = 0 := h1
    simp only [if_pos h1]
    refine am_vO am_k99 am_h99 rfl rfl rfl rfl (x_find (w := 1) (by decide)) ?_
    refine am_vc_ok am_k99 [] 100 ?_
    exact am_vI am_k99 am_r99 rfl ⟨rfl, rfl, rfl, rfl, rfl, rfl⟩
  have h1 : ¬ σ 6 (10 + j) 0 = 0 := h1
  simp only [if_neg h1]
  refine And.intro (vp_in_nI (N := 6) hj (by decide)) ?_
  rw [nI_clamp (n := j) (by omega)]
  refine am_vS am_k99 am_h99 rfl rfl rfl rfl (x_within) ?_
  refine am_vc_ok am_k99 [] 100 ?_
  rw [hn]
  refine And.intro (fun h2 => ?_) (fun h2 => ?_)
  · simp only [if_neg (bI_0.mp h2)]
    refine am_vO am_k99 am_h99 rfl rfl rfl rfl (x_find (w := 2) (by decide)) ?_
    refine am_vc_ok am_k99 [] 100 ?_
    exact am_vI am_k99 am_r99 rfl ⟨rfl, rfl, rfl, rfl, rfl, rfl⟩
  have h2 := bI_1.mp h2
  simp only [if_pos h2]
  obtain ⟨k, hk, rfl⟩ := ix_lt (nI_toInt (by omega)) h2
  refine And.intro (vp_in_nI (N := 6) hj (by decide)) ?_
  rw [nI_clamp (n := j) (by omega)]
  refine And.intro (by rw [lX_row (by omega)]; exact vp_in_nI (by omega) (by decide)) ?_
  refine And.intro (vp_in_nI (N := 6) hj (by decide)) ?_
  rw [nI_clamp (n := j) (by omega)]
  refine And.intro (by rw [lX_row (by omega)]; exact vp_in_nI (by omega) (by decide)) ?_
  exact am_vI am_k99 am_r99 rfl ⟨rfl, rfl, rfl, rfl, rfl, rfl⟩
theorem x_size_bad {r : Int32} (hr : ¬ (0 ≤ r ∧ r < 6)) : am_D l 100 [aR 11 0, aI r] σ τ (rX t) cX lX (some (aI (-1))) σ τ (rX t) := by
  refine am_D_of am_o100 am_l100 rfl ?_
  refine am_vc_ok am_k100 [] 100 ?_
  refine am_vS am_k100 am_h100 rfl rfl rfl rfl (x_within) ?_
  refine am_vc_ok am_k100 [] 100 ?_
  refine And.intro (fun h => ?_) (fun h => ?_)
  · exact am_vI am_k100 am_r100 rfl ⟨rfl, rfl, rfl, rfl, rfl, rfl⟩
  · exact absurd (bI_1.mp h) hr
theorem x_size {j : Nat} (hj : j < 6) : am_D l 100 [aR 11 0, aI (nI j)] σ τ (rX t) cX lX (some (aI (if σ 6 (10 + j) 0 = 0 then -3 else σ 6 (10 + j) 1))) (if σ 6 (10 + j) 0 = 0 then xfind 1 σ else σ) τ (rX t) := by
  refine am_D_of am_o100 am_l100 rfl ?_
  refine am_vc_ok am_k100 [] 100 ?_
  refine am_vS am_k100 am_h100 rfl rfl rfl rfl (x_within) ?_
  refine am_vc_ok am_k100 [] 100 ?_
  refine And.intro (fun h => ?_) (fun h => ?_)
  · exact absurd (in6 hj) (bI_0.mp h)
  refine And.intro (vp_in_nI (N := 6) hj (by decide)) ?_
  rw [nI_clamp (n := j) (by omega)]
  refine And.intro (fun h1 => ?_) (fun h1 => ?_)
  · have h1 : σ 6 (10 + j) 0 = 0 := h1
    simp only [if_pos h1]
    refine am_vO am_k100 am_h100 rfl rfl rfl rfl (x_find (w := 1) (by decide)) ?_
    refine am_vc_ok am_k100 [] 100 ?_
    exact am_vI am_k100 am_r100 rfl ⟨rfl, rfl, rfl, rfl, rfl, rfl⟩
  have h1 : ¬ σ 6 (10 + j) 0 = 0 := h1
  simp only [if_neg h1]
  refine And.intro (vp_in_nI (N := 6) hj (by decide)) ?_
  rw [nI_clamp (n := j) (by omega)]
  exact am_vI am_k100 am_r100 rfl ⟨rfl, rfl, rfl, rfl, rfl, rfl⟩
end XR2

/-! ROWS AND TEXTS: the model -/
/-- a stretch of a model's row is v -/
def mfill (σ : tI) (K b n : Nat) (v : Int32) : tI := fun k i j => if k = K ∧ i = 0 ∧ b ≤ j ∧ j < b + n then v else σ k i j
theorem mfill_0 {σ : tI} {K b : Nat} {v : Int32} : σ = mfill σ K b 0 v := by
  funext k i j
  grind [mfill]
theorem mfill_s {σ : tI} {K b n : Nat} {v : Int32} : u3 (mfill σ K b n v) K 0 (b + n) v = mfill σ K b (n + 1) v := by
  funext k i j
  grind (splits := 25) [u3, mfill]
theorem n60 (j k : Nat) : (60 : Int32) * nI j + nI k = nI (60 * j + k) := by
  rw [show (60 : Int32) = nI 60 from rfl, pk_mul, nI_add]
section MR
variable {l : Launch} {σ : tI} {τ : tL} {t : Option (Nat × Nat)}
theorem m_askedRow_bad {r : Int32} (hr : ¬ (0 ≤ r ∧ r ≤ 5)) : am_D l 161 [aR 12 0, aI r] σ τ (rX t) cX lX (some (aI (-1))) σ τ (rX t) := by
  refine am_D_of am_o161 am_l161 rfl ?_
  refine am_vc_ok am_k161 [] 100 ?_
  refine am_vS am_k161 am_h161 rfl rfl rfl rfl (m_isSix) ?_
  refine am_vc_ok am_k161 [] 100 ?_
  refine And.intro (fun h => ?_) (fun h => ?_)
  · exact am_vI am_k161 am_r161 rfl ⟨rfl, rfl, rfl, rfl, rfl, rfl⟩
  · exact absurd (bI_1.mp h) hr
theorem m_askedRow {j : Nat} (hj : j < 6) : am_D l 161 [aR 12 0, aI (nI j)] σ τ (rX t) cX lX (some (aI (if σ 44 0 j < 0 then -3 else 0))) (if σ 44 0 j < 0 then mmeets 1 σ else σ) τ (rX t) := by
  refine am_D_of am_o161 am_l161 rfl ?_
  refine am_vc_ok am_k161 [] 100 ?_
  refine am_vS am_k161 am_h161 rfl rfl rfl rfl (m_isSix) ?_
  refine am_vc_ok am_k161 [] 100 ?_
  refine And.intro (fun h => ?_) (fun h => ?_)
  · exact absurd (in5 hj) (bI_0.mp h)
  refine And.intro (vp_in_nI (N := 6) hj (by decide)) ?_
  rw [nI_clamp (n := j) (by omega)]
  refine And.intro (fun h1 => ?_) (fun h1 => ?_)
  · have h1 : 0 ≤ σ 44 0 j := h1
    simp only [if_neg (Int32.not_lt.mpr h1)]
    exact am_vI am_k161 am_r161 rfl ⟨rfl, rfl, rfl, rfl, rfl, rfl⟩
  · have h1 : ¬ 0 ≤ σ 44 0 j := h1
    simp only [if_pos (Int32.not_le.mp h1)]
    refine am_vO am_k161 am_h161 rfl rfl rfl rfl (m_meets (w := 1) (by decide)) ?_
    refine am_vc_ok am_k161 [] 100 ?_
    exact am_vI am_k161 am_r161 rfl ⟨rfl, rfl, rfl, rfl, rfl, rfl⟩
theorem m_askedText_bad {r : Int32} (hr : ¬ (0 ≤ r ∧ r ≤ 5)) : am_D l 162 [aR 12 0, aI r] σ τ (rX t) cX lX (some (aI (-1))) σ τ (rX t) := by
  refine am_D_of am_o162 am_l162 rfl ?_
  refine am_vc_ok am_k162 [] 100 ?_
  refine am_vS am_k162 am_h162 rfl rfl rfl rfl (m_isSix) ?_
  refine am_vc_ok am_k162 [] 100 ?_
  refine And.intro (fun h => ?_) (fun h => ?_)
  · exact am_vI am_k162 am_r162 rfl ⟨rfl, rfl, rfl, rfl, rfl, rfl⟩
  · exact absurd (bI_1.mp h) hr
theorem m_askedText {j : Nat} (hj : j < 6) : am_D l 162 [aR 12 0, aI (nI j)] σ τ (rX t) cX lX (some (aI (if σ 47 0 j < 0 then -3 else 0))) (if σ 47 0 j < 0 then mmeets 1 σ else σ) τ (rX t) := by
  refine am_D_of am_o162 am_l162 rfl ?_
  refine am_vc_ok am_k162 [] 100 ?_
  refine am_vS am_k162 am_h162 rfl rfl rfl rfl (m_isSix) ?_
  refine am_vc_ok am_k162 [] 100 ?_
  refine And.intro (fun h => ?_) (fun h => ?_)
  · exact absurd (in5 hj) (bI_0.mp h)
  refine And.intro (vp_in_nI (N := 6) hj (by decide)) ?_
  rw [nI_clamp (n := j) (by omega)]
  refine And.intro (fun h1 => ?_) (fun h1 => ?_)
  · have h1 : 0 ≤ σ 47 0 j := h1
    simp only [if_neg (Int32.not_lt.mpr h1)]
    exact am_vI am_k162 am_r162 rfl ⟨rfl, rfl, rfl, rfl, rfl, rfl⟩
  · have h1 : ¬ 0 ≤ σ 47 0 j := h1
    simp only [if_pos (Int32.not_le.mp h1)]
    refine am_vO am_k162 am_h162 rfl rfl rfl rfl (m_meets (w := 1) (by decide)) ?_
    refine am_vc_ok am_k162 [] 100 ?_
    exact am_vI am_k162 am_r162 rfl ⟨rfl, rfl, rfl, rfl, rfl, rfl⟩
theorem m_at_bad {r i : Int32} (hr : ¬ (0 ≤ r ∧ r ≤ 5)) : am_D l 165 [aR 12 0, aI r, aI i] σ τ (rX t) cX lX (some (aI (-1))) σ τ (rX t) := by
  refine am_D_of am_o165 am_l165 rfl ?_
  refine am_vc_ok am_k165 [] 100 ?_
  refine am_vO am_k165 am_h165 rfl rfl rfl rfl (m_askedRow_bad hr) ?_
  refine am_vc_ok am_k165 [] 100 ?_
  refine And.intro (fun h => ?_) (fun h => ?_)
  · exact absurd h (by decide)
  · exact am_vI am_k165 am_r165 rfl ⟨rfl, rfl, rfl, rfl, rfl, rfl⟩
theorem m_at_none {j : Nat} {i : Int32} (hj : j < 6) (hn : σ 44 0 j = -9) : am_D l 165 [aR 12 0, aI (nI j), aI i] σ τ (rX t) cX lX (some (aI (-3))) (mmeets 1 σ) τ (rX t) := by
  have h0 : σ 44 0 j < 0 := by rw [hn]; decide
  refine am_D_of am_o165 am_l165 rfl ?_
  refine am_vc_ok am_k165 [] 100 ?_
  refine am_vO am_k165 am_h165 rfl rfl rfl rfl (m_askedRow hj) ?_
  refine am_vc_ok am_k165 [] 100 ?_
  simp only [if_pos h0]
  refine And.intro (fun h => ?_) (fun h => ?_)
  · exact absurd h (by decide)
  · exact am_vI am_k165 am_r165 rfl ⟨rfl, rfl, rfl, rfl, rfl, rfl⟩
theorem m_at {j n : Nat} {i : Int32} (hj : j < 6) (hn : σ 44 0 j = nI n) (hn2 : n ≤ 60) : am_D l 165 [aR 12 0, aI (nI j), aI i] σ τ (rX t) cX lX (some (aI (if 0 ≤ i ∧ i ≤ nI n - 1 then 1 else -3))) (if 0 ≤ i ∧ i ≤ nI n - 1 then u3 σ 12 0 2 (σ 45 0 (60 * j + i.toNatClampNeg)) else mmeets 2 σ) τ (rX t) := by
  have h0 : ¬ σ 44 0 j < 0 := by rw [hn]; exact nI_pos (by omega)
  refine am_D_of am_o165 am_l165 rfl ?_
  refine am_vc_ok am_k165 [] 100 ?_
  refine am_vO am_k165 am_h165 rfl rfl rfl rfl (m_askedRow hj) ?_
  refine am_vc_ok am_k165 [] 100 ?_
  simp only [if_neg h0]
  refine And.intro (fun h => ?_) (fun h => ?_)
  · refine And.intro (vp_in_nI (N := 6) hj (by decide)) ?_
    rw [nI_clamp (n := j) (by omega)]
    refine am_vS am_k165 am_h165 rfl rfl rfl rfl (m_in) ?_
    refine am_vc_ok am_k165 [] 100 ?_
    rw [hn]
    refine And.intro (fun h2 => ?_) (fun h2 => ?_)
    · simp only [if_neg (bI_0.mp h2)]
      refine am_vO am_k165 am_h165 rfl rfl rfl rfl (m_meets (w := 2) (by decide)) ?_
      refine am_vc_ok am_k165 [] 100 ?_
      exact am_vI am_k165 am_r165 rfl ⟨rfl, rfl, rfl, rfl, rfl, rfl⟩
    · have h2 := bI_1.mp h2
      simp only [if_pos h2]
      have hk : ∃ k, k < n ∧ i = nI k := by
        refine ix_le ?_ h2
        cases n with
        | zero => rfl
        | succ n => rw [nI_pred, nI_toInt (by omega)]; rfl
      obtain ⟨k, hk, rfl⟩ := hk
      refine And.intro (by rw [n60]; exact vp_in_nI (N := 360) (by omega) (by decide)) ?_
      rw [n60, nI_clamp (n := 60 * j + k) (by omega), nI_clamp (n := k) (by omega)]
      refine am_vO am_k165 am_h165 rfl rfl rfl rfl (m_ask) ?_
      refine am_vc_ok am_k165 [] 100 ?_
      exact am_vI am_k165 am_r165 rfl ⟨rfl, rfl, rfl, rfl, rfl, rfl⟩
  · exact absurd (by decide) h
theorem m_lay_bad {r i v : Int32} (hr : ¬ (0 ≤ r ∧ r ≤ 5)) : am_D l 164 [aR 12 0, aI r, aI i, aI v] σ τ (rX t) cX lX (some (aI (-1))) σ τ (rX t) := by
  refine am_D_of am_o164 am_l164 rfl ?_
  refine am_vc_ok am_k164 [] 100 ?_
  refine am_vO am_k164 am_h164 rfl rfl rfl rfl (m_at_bad hr) ?_
  refine am_vc_ok am_k164 [] 100 ?_
  refine And.intro (fun h => ?_) (fun h => ?_)
  · exact absurd h (by decide)
  · exact am_vI am_k164 am_r164 rfl ⟨rfl, rfl, rfl, rfl, rfl, rfl⟩
theorem m_lay_none {j : Nat} {i v : Int32} (hj : j < 6) (hn : σ 44 0 j = -9) : am_D l 164 [aR 12 0, aI (nI j), aI i, aI v] σ τ (rX t) cX lX (some (aI (-3))) (mmeets 1 σ) τ (rX t) := by
  refine am_D_of am_o164 am_l164 rfl ?_
  refine am_vc_ok am_k164 [] 100 ?_
  refine am_vO am_k164 am_h164 rfl rfl rfl rfl (m_at_none hj hn) ?_
  refine am_vc_ok am_k164 [] 100 ?_
  refine And.intro (fun h => ?_) (fun h => ?_)
  · exact absurd h (by decide)
  · exact am_vI am_k164 am_r164 rfl ⟨rfl, rfl, rfl, rfl, rfl, rfl⟩
theorem m_lay {j n : Nat} {i v : Int32} (hj : j < 6) (hn : σ 44 0 j = nI n) (hn2 : n ≤ 60) : am_D l 164 [aR 12 0, aI (nI j), aI i, aI v] σ τ (rX t) cX lX (some (aI (if 0 ≤ i ∧ i ≤ nI n - 1 then 1 else -3))) (if 0 ≤ i ∧ i ≤ nI n - 1 then u3 (u3 σ 12 0 2 (σ 45 0 (60 * j + i.toNatClampNeg))) 45 0 (60 * j + i.toNatClampNeg) v else mmeets 2 σ) τ (rX t) := by
  refine am_D_of am_o164 am_l164 rfl ?_
  refine am_vc_ok am_k164 [] 100 ?_
  refine am_vO am_k164 am_h164 rfl rfl rfl rfl (m_at hj hn hn2) ?_
  refine am_vc_ok am_k164 [] 100 ?_
  by_cases h2 : 0 ≤ i ∧ i ≤ nI n - 1
  · simp only [if_pos h2]
    have hk : ∃ k, k < n ∧ i = nI k := by
      refine ix_le ?_ h2
      cases n with
      | zero => rfl
      | succ n => rw [nI_pred, nI_toInt (by omega)]; rfl
    obtain ⟨k, hk, rfl⟩ := hk
    refine And.intro (fun h => ?_) (fun h => ?_)
    · refine And.intro (by rw [n60]; exact vp_in_nI (N := 360) (by omega) (by decide)) ?_
      rw [n60, nI_clamp (n := 60 * j + k) (by omega), nI_clamp (n := k) (by omega)]
      exact am_vI am_k164 am_r164 rfl ⟨rfl, rfl, rfl, rfl, rfl, rfl⟩
    · exact absurd (by decide) h
  · simp only [if_neg h2]
    refine And.intro (fun h => ?_) (fun h => ?_)
    · exact absurd h (by decide)
    · exact am_vI am_k164 am_r164 rfl ⟨rfl, rfl, rfl, rfl, rfl, rfl⟩
theorem m_tear_bad {r : Int32} (hr : ¬ (0 ≤ r ∧ r ≤ 5)) : am_D l 166 [aR 12 0, aI r] σ τ (rX t) cX lX (some (aI (-1))) σ τ (rX t) := by
  refine am_D_of am_o166 am_l166 rfl ?_
  refine am_vc_ok am_k166 [] 100 ?_
  refine am_vO am_k166 am_h166 rfl rfl rfl rfl (m_askedRow_bad hr) ?_
  refine am_vc_ok am_k166 [] 100 ?_
  refine And.intro (fun h => ?_) (fun h => ?_)
  · exact absurd h (by decide)
  · exact am_vI am_k166 am_r166 rfl ⟨rfl, rfl, rfl, rfl, rfl, rfl⟩
theorem m_tear {j : Nat} (hj : j < 6) : am_D l 166 [aR 12 0, aI (nI j)] σ τ (rX t) cX lX (some (aI (if σ 44 0 j < 0 then -3 else 1))) (if σ 44 0 j < 0 then mmeets 1 σ else u3 σ 44 0 j (-9)) τ (rX t) := by
  refine am_D_of am_o166 am_l166 rfl ?_
  refine am_vc_ok am_k166 [] 100 ?_
  refine am_vO am_k166 am_h166 rfl rfl rfl rfl (m_askedRow hj) ?_
  refine am_vc_ok am_k166 [] 100 ?_
  by_cases h1 : σ 44 0 j < 0
  · simp only [if_pos h1]
    refine And.intro (fun h => ?_) (fun h => ?_)
    · exact absurd h (by decide)
    · exact am_vI am_k166 am_r166 rfl ⟨rfl, rfl, rfl, rfl, rfl, rfl⟩
  · simp only [if_neg h1]
    refine And.intro (fun h => ?_) (fun h => ?_)
    · refine And.intro (vp_in_nI (N := 6) hj (by decide)) ?_
      rw [nI_clamp (n := j) (by omega)]
      exact am_vI am_k166 am_r166 rfl ⟨rfl, rfl, rfl, rfl, rfl, rfl⟩
    · exact absurd (by decide) h
theorem m_row_bad {r n : Int32} (hr : ¬ (0 ≤ r ∧ r ≤ 5) ∨ ¬ n ≤ 60) : am_D l 163 [aR 12 0, aI r, aI n] σ τ (rX t) cX lX (some (aI (-1))) σ τ (rX t) := by
  refine am_D_of am_o163 am_l163 rfl ?_
  refine am_vc_ok am_k163 [] 100 ?_
  refine am_vS am_k163 am_h163 rfl rfl rfl rfl (m_isSix) ?_
  refine am_vc_ok am_k163 [] 100 ?_
  refine And.intro (fun h => ?_) (fun h => ?_)
  · exact am_vI am_k163 am_r163 rfl ⟨rfl, rfl, rfl, rfl, rfl, rfl⟩
  refine And.intro (fun h1 => ?_) (fun h1 => ?_)
  · exact absurd h1 (hr.resolve_left (fun z => z (bI_1.mp h)))
  · exact am_vI am_k163 am_r163 rfl ⟨rfl, rfl, rfl, rfl, rfl, rfl⟩
theorem m_row_neg {r n : Int32} (hr : 0 ≤ r ∧ r ≤ 5) (hn : n < 0) : am_D l 163 [aR 12 0, aI r, aI n] σ τ (rX t) cX lX (some (aI (-3))) (mmeets 5 σ) τ (rX t) := by
  refine am_D_of am_o163 am_l163 rfl ?_
  refine am_vc_ok am_k163 [] 100 ?_
  refine am_vS am_k163 am_h163 rfl rfl rfl rfl (m_isSix) ?_
  refine am_vc_ok am_k163 [] 100 ?_
  refine And.intro (fun h => ?_) (fun h => ?_)
  · exact absurd hr (bI_0.mp h)
  refine And.intro (fun h1 => ?_) (fun h1 => ?_)
  · refine And.intro (fun h2 => ?_) (fun h2 => ?_)
    · exact absurd hn (Int32.not_lt.mpr h2)
    · refine am_vO am_k163 am_h163 rfl rfl rfl rfl (m_meets (w := 5) (by decide)) ?_
      refine am_vc_ok am_k163 [] 100 ?_
      exact am_vI am_k163 am_r163 rfl ⟨rfl, rfl, rfl, rfl, rfl, rfl⟩
  · exact absurd (Int32.le_trans (Int32.le_of_lt hn) (by decide)) h1
theorem m_row_loop {Q : tQ} {j : Nat} {n : Int32} (hj : j < 6) (K : am_G l 163 Q 0 0 58 [(3, aI (nI 60)), (0, aR 12 0), (1, aI (nI j)), (2, aI n)] [] (mfill σ 45 (60 * j) 60 0) τ (rX t) cX lX) : ∀ (d k : Nat), k + d = 60 → am_G l 163 Q 0 0 34 [(3, aI (nI k)), (0, aR 12 0), (1, aI (nI j)), (2, aI n)] [] (mfill σ 45 (60 * j) k 0) τ (rX t) cX lX
  | 0, k, h => by
    obtain rfl : k = 60 := by omega
    refine am_vc_ok am_k163 [34, 58] 100 ?_
    exact And.intro (fun _ => K) (fun h1 => absurd (show (60 : Int32) ≤ nI 60 by decide) h1)
  | d + 1, k, h => by
    refine am_vc_ok am_k163 [34, 58] 100 ?_
    refine And.intro (fun h1 => absurd h1 (nI_ge (b := 60) (by omega) (by decide))) (fun h1 => ?_)
    refine And.intro (by rw [n60]; exact vp_in_nI (N := 360) (by omega) (by decide)) ?_
    rw [n60, nI_clamp (n := 60 * j + k) (by omega)]
    refine am_Gs mfill_s ?_
    have K2 := m_row_loop hj K d (k + 1) (by omega)
    rw [← nI_1] at K2
    exact K2
theorem m_row {j n : Nat} (hj : j < 6) (hn : n ≤ 60) : am_D l 163 [aR 12 0, aI (nI j), aI (nI n)] σ τ (rX t) cX lX (some (aI (nI n))) (mfill (u3 σ 44 0 j (nI n)) 45 (60 * j) 60 0) τ (rX t) := by
  refine am_D_of am_o163 am_l163 rfl ?_
  refine am_vc_ok am_k163 [34] 100 ?_
  refine am_vS am_k163 am_h163 rfl rfl rfl rfl (m_isSix) ?_
  refine am_vc_ok am_k163 [34] 100 ?_
  refine And.intro (fun h => ?_) (fun h => ?_)
  · exact absurd (in5 hj) (bI_0.mp h)
  refine And.intro (fun h1 => ?_) (fun h1 => ?_)
  · refine And.intro (fun h2 => ?_) (fun h2 => ?_)
    · refine And.intro (vp_in_nI (N := 6) hj (by decide)) ?_
      rw [nI_clamp (n := j) (by omega)]
      refine am_Gs (mfill_0 (K := 45) (b := 60 * j) (v := 0)) ?_
      refine m_row_loop hj ?_ 60 0 (by omega)
      refine am_vc_ok am_k163 [34] 100 ?_
      exact am_vI am_k163 am_r163 rfl ⟨rfl, rfl, rfl, rfl, rfl, rfl⟩
    · exact absurd (nI_pos' (by omega)) h2
  · exact absurd (nI_le (b := 60) hn (by decide)) h1
theorem m_beginText_loop {Q : tQ} {j : Nat} {n : Int32} (hj : j < 6) (K : am_G l 168 Q 0 0 34 [(3, aI (nI 60)), (0, aR 12 0), (1, aI (nI j)), (2, aI n)] [] (mfill σ 48 (60 * j) 60 32) τ (rX t) cX lX) : ∀ (d k : Nat), k + d = 60 → am_G l 168 Q 0 0 9 [(3, aI (nI k)), (0, aR 12 0), (1, aI (nI j)), (2, aI n)] [] (mfill σ 48 (60 * j) k 32) τ (rX t) cX lX
  | 0, k, h => by
    obtain rfl : k = 60 := by omega
    refine am_vc_ok am_k168 [9, 34] 100 ?_
    exact And.intro (fun _ => K) (fun h1 => absurd (show (60 : Int32) ≤ nI 60 by decide) h1)
  | d + 1, k, h => by
    refine am_vc_ok am_k168 [9, 34] 100 ?_
    refine And.intro (fun h1 => absurd h1 (nI_ge (b := 60) (by omega) (by decide))) (fun h1 => ?_)
    refine And.intro (by rw [n60]; exact vp_in_nI (N := 360) (by omega) (by decide)) ?_
    rw [n60, nI_clamp (n := 60 * j + k) (by omega)]
    refine am_Gs mfill_s ?_
    have K2 := m_beginText_loop hj K d (k + 1) (by omega)
    rw [← nI_1] at K2
    exact K2
theorem m_beginText {j : Nat} {n : Int32} (hj : j < 6) : am_D l 168 [aR 12 0, aI (nI j), aI n] σ τ (rX t) cX lX none (mfill (u3 σ 47 0 j n) 48 (60 * j) 60 32) τ (rX t) := by
  refine am_D_of am_o168 am_l168 rfl ?_
  refine am_vc_ok am_k168 [9] 100 ?_
  refine And.intro (vp_in_nI (N := 6) hj (by decide)) ?_
  rw [nI_clamp (n := j) (by omega)]
  refine am_Gs (mfill_0 (K := 48) (b := 60 * j) (v := 32)) ?_
  refine m_beginText_loop hj ?_ 60 0 (by omega)
  exact am_vV am_k168 am_r168 rfl ⟨rfl, rfl, rfl, rfl, rfl, rfl⟩
theorem m_text_bad {r n : Int32} (hr : ¬ (0 ≤ r ∧ r ≤ 5) ∨ ¬ n ≤ 60) : am_D l 169 [aR 12 0, aI r, aI n] σ τ (rX t) cX lX (some (aI (-1))) σ τ (rX t) := by
  refine am_D_of am_o169 am_l169 rfl ?_
  refine am_vc_ok am_k169 [] 100 ?_
  refine am_vS am_k169 am_h169 rfl rfl rfl rfl (m_isSix) ?_
  refine am_vc_ok am_k169 [] 100 ?_
  refine And.intro (fun h => ?_) (fun h => ?_)
  · exact am_vI am_k169 am_r169 rfl ⟨rfl, rfl, rfl, rfl, rfl, rfl⟩
  refine And.intro (fun h1 => ?_) (fun h1 => ?_)
  · exact absurd h1 (hr.resolve_left (fun z => z (bI_1.mp h)))
  · exact am_vI am_k169 am_r169 rfl ⟨rfl, rfl, rfl, rfl, rfl, rfl⟩
theorem m_text_neg {r n : Int32} (hr : 0 ≤ r ∧ r ≤ 5) (hn : n < 0) : am_D l 169 [aR 12 0, aI r, aI n] σ τ (rX t) cX lX (some (aI (-3))) (mmeets 5 σ) τ (rX t) := by
  refine am_D_of am_o169 am_l169 rfl ?_
  refine am_vc_ok am_k169 [] 100 ?_
  refine am_vS am_k169 am_h169 rfl rfl rfl rfl (m_isSix) ?_
  refine am_vc_ok am_k169 [] 100 ?_
  refine And.intro (fun h => ?_) (fun h => ?_)
  · exact absurd hr (bI_0.mp h)
  refine And.intro (fun h1 => ?_) (fun h1 => ?_)
  · refine And.intro (fun h2 => ?_) (fun h2 => ?_)
    · exact absurd hn (Int32.not_lt.mpr h2)
    · refine am_vO am_k169 am_h169 rfl rfl rfl rfl (m_meets (w := 5) (by decide)) ?_
      refine am_vc_ok am_k169 [] 100 ?_
      exact am_vI am_k169 am_r169 rfl ⟨rfl, rfl, rfl, rfl, rfl, rfl⟩
  · exact absurd (Int32.le_trans (Int32.le_of_lt hn) (by decide)) h1
theorem m_text {j n : Nat} (hj : j < 6) (hn : n ≤ 60) : am_D l 169 [aR 12 0, aI (nI j), aI (nI n)] σ τ (rX t) cX lX (some (aI (nI n))) (mfill (u3 σ 47 0 j (nI n)) 48 (60 * j) 60 32) τ (rX t) := by
  refine am_D_of am_o169 am_l169 rfl ?_
  refine am_vc_ok am_k169 [] 100 ?_
  refine am_vS am_k169 am_h169 rfl rfl rfl rfl (m_isSix) ?_
  refine am_vc_ok am_k169 [] 100 ?_
  refine And.intro (fun h => ?_) (fun h => ?_)
  · exact absurd (in5 hj) (bI_0.mp h)
  refine And.intro (fun h1 => ?_) (fun h1 => ?_)
  · refine And.intro (fun h2 => ?_) (fun h2 => ?_)
    · refine am_vO am_k169 am_h169 rfl rfl rfl rfl (m_beginText hj) ?_
      refine am_vc_ok am_k169 [] 100 ?_
      exact am_vI am_k169 am_r169 rfl ⟨rfl, rfl, rfl, rfl, rfl, rfl⟩
    · exact absurd (nI_pos' (by omega)) h2
  · exact absurd (nI_le (b := 60) hn (by decide)) h1
theorem m_put_bad {r i v : Int32} (hr : ¬ (0 ≤ r ∧ r ≤ 5)) : am_D l 170 [aR 12 0, aI r, aI i, aI v] σ τ (rX t) cX lX (some (aI (-1))) σ τ (rX t) := by
  refine am_D_of am_o170 am_l170 rfl ?_
  refine am_vc_ok am_k170 [] 100 ?_
  refine am_vO am_k170 am_h170 rfl rfl rfl rfl (m_askedText_bad hr) ?_
  refine am_vc_ok am_k170 [] 100 ?_
  refine And.intro (fun h => ?_) (fun h => ?_)
  · exact absurd h (by decide)
  · exact am_vI am_k170 am_r170 rfl ⟨rfl, rfl, rfl, rfl, rfl, rfl⟩
theorem m_put_none {j : Nat} {i v : Int32} (hj : j < 6) (hn : σ 47 0 j = -9) : am_D l 170 [aR 12 0, aI (nI j), aI i, aI v] σ τ (rX t) cX lX (some (aI (-3))) (mmeets 1 σ) τ (rX t) := by
  have h0 : σ 47 0 j < 0 := by rw [hn]; decide
  refine am_D_of am_o170 am_l170 rfl ?_
  refine am_vc_ok am_k170 [] 100 ?_
  refine am_vO am_k170 am_h170 rfl rfl rfl rfl (m_askedText hj) ?_
  refine am_vc_ok am_k170 [] 100 ?_
  simp only [if_pos h0]
  refine And.intro (fun h => ?_) (fun h => ?_)
  · exact absurd h (by decide)
  · exact am_vI am_k170 am_r170 rfl ⟨rfl, rfl, rfl, rfl, rfl, rfl⟩
theorem m_put {j n : Nat} {i v : Int32} (hj : j < 6) (hn : σ 47 0 j = nI n) (hn2 : n ≤ 60) : am_D l 170 [aR 12 0, aI (nI j), aI i, aI v] σ τ (rX t) cX lX (some (aI (if 0 ≤ i ∧ i ≤ nI n - 1 then σ 48 0 (60 * j + i.toNatClampNeg) + 1000 else -3))) (if 0 ≤ i ∧ i ≤ nI n - 1 then u3 σ 48 0 (60 * j + i.toNatClampNeg) v.toInt8.toInt32 else mmeets 2 σ) τ (rX t) := by
  have h0 : ¬ σ 47 0 j < 0 := by rw [hn]; exact nI_pos (by omega)
  refine am_D_of am_o170 am_l170 rfl ?_
  refine am_vc_ok am_k170 [] 100 ?_
  refine am_vO am_k170 am_h170 rfl rfl rfl rfl (m_askedText hj) ?_
  refine am_vc_ok am_k170 [] 100 ?_
  simp only [if_neg h0]
  refine And.intro (fun h => ?_) (fun h => ?_)
  · refine And.intro (vp_in_nI (N := 6) hj (by decide)) ?_
    rw [nI_clamp (n := j) (by omega)]
    refine am_vS am_k170 am_h170 rfl rfl rfl rfl (m_in) ?_
    refine am_vc_ok am_k170 [] 100 ?_
    rw [hn]
    refine And.intro (fun h2 => ?_) (fun h2 => ?_)
    · simp only [if_neg (bI_0.mp h2)]
      refine am_vO am_k170 am_h170 rfl rfl rfl rfl (m_meets (w := 2) (by decide)) ?_
      refine am_vc_ok am_k170 [] 100 ?_
      exact am_vI am_k170 am_r170 rfl ⟨rfl, rfl, rfl, rfl, rfl, rfl⟩
    · have h2 := bI_1.mp h2
      simp only [if_pos h2]
      have hk : ∃ k, k < n ∧ i = nI k := by
        refine ix_le ?_ h2
        cases n with
        | zero => rfl
        | succ n => rw [nI_pred, nI_toInt (by omega)]; rfl
      obtain ⟨k, hk, rfl⟩ := hk
      refine And.intro (by rw [n60]; exact vp_in_nI (N := 360) (by omega) (by decide)) ?_
      rw [n60, nI_clamp (n := 60 * j + k) (by omega), nI_clamp (n := k) (by omega)]
      refine And.intro (by rw [n60]; exact vp_in_nI (N := 360) (by omega) (by decide)) ?_
      rw [n60, nI_clamp (n := 60 * j + k) (by omega)]
      exact am_vI am_k170 am_r170 rfl ⟨rfl, rfl, rfl, rfl, rfl, rfl⟩
  · exact absurd (by decide) h
theorem m_size_bad {r : Int32} (hr : ¬ (0 ≤ r ∧ r ≤ 5)) : am_D l 171 [aR 12 0, aI r] σ τ (rX t) cX lX (some (aI (-1))) σ τ (rX t) := by
  refine am_D_of am_o171 am_l171 rfl ?_
  refine am_vc_ok am_k171 [] 100 ?_
  refine am_vO am_k171 am_h171 rfl rfl rfl rfl (m_askedText_bad hr) ?_
  refine am_vc_ok am_k171 [] 100 ?_
  refine And.intro (fun h => ?_) (fun h => ?_)
  · exact absurd h (by decide)
  · exact am_vI am_k171 am_r171 rfl ⟨rfl, rfl, rfl, rfl, rfl, rfl⟩
theorem m_size {j : Nat} (hj : j < 6) : am_D l 171 [aR 12 0, aI (nI j)] σ τ (rX t) cX lX (some (aI (if σ 47 0 j < 0 then -3 else σ 47 0 j))) (if σ 47 0 j < 0 then mmeets 1 σ else σ) τ (rX t) := by
  refine am_D_of am_o171 am_l171 rfl ?_
  refine am_vc_ok am_k171 [] 100 ?_
  refine am_vO am_k171 am_h171 rfl rfl rfl rfl (m_askedText hj) ?_
  refine am_vc_ok am_k171 [] 100 ?_
  by_cases h1 : σ 47 0 j < 0
  · simp only [if_pos h1]
    refine And.intro (fun h => ?_) (fun h => ?_)
    · exact absurd h (by decide)
    · exact am_vI am_k171 am_r171 rfl ⟨rfl, rfl, rfl, rfl, rfl, rfl⟩
  · simp only [if_neg h1]
    refine And.intro (fun h => ?_) (fun h => ?_)
    · refine And.intro (vp_in_nI (N := 6) hj (by decide)) ?_
      rw [nI_clamp (n := j) (by omega)]
      exact am_vI am_k171 am_r171 rfl ⟨rfl, rfl, rfl, rfl, rfl, rfl⟩
    · exact absurd (by decide) h
end MR

/-! THE RELATION between the class's cells and the model's -/
/-- how many i below n have p -/
def cntN (p : Nat → Bool) : Nat → Nat
  | 0 => 0
  | n + 1 => cntN p n + (if p n = true then 1 else 0)
def sumN (f : Nat → Nat) : Nat → Nat
  | 0 => 0
  | n + 1 => sumN f n + f n
def isB (v : Int32) : Prop := -128 ≤ v ∧ v ≤ 127
/-- a Row object d with places p, against a size and places g -/
def rRow (d p : Nat → Int32) (sz : Int32) (g : Nat → Int32) : Prop := ∃ n, n ≤ 60 ∧ d 1 = nI n ∧ ((d 0 = 0 ∧ sz = -9) ∨ (d 0 = 1 ∧ sz = nI n ∧ ∀ j, j < n → p j = g j))
def Rrows (σ : tI) : Prop := ∀ r, r < 6 → rRow (σ 6 (4 + r)) (σ 30 (4 + r)) (σ 44 0 r) (fun j => σ 45 0 (60 * r + j))
def Rtexts (σ : tI) : Prop := ∀ r, r < 6 → rRow (σ 6 (10 + r)) (σ 30 (10 + r)) (σ 47 0 r) (fun j => σ 48 0 (60 * r + j)) ∧ ∀ j, j < 60 → σ 47 0 r ≠ -9 → nI j < σ 47 0 r → isB (σ 30 (10 + r) j)
def pI (o : Option Nat) : Int32 := match o with
  | none => -9
  | some d => nI d
abbrev aSh : Type := Nat × (Nat → Nat) × (Nat → Nat) × (Nat → Nat) × (Nat → Nat) × (Nat → Nat) × (Nat → Option Nat)
abbrev sN (S : aSh) : Nat := S.1
abbrev sNm (S : aSh) : Nat → Nat := S.2.1
abbrev sSo (S : aSh) : Nat → Nat := S.2.2.1
abbrev sCh (S : aSh) : Nat → Nat := S.2.2.2.1
abbrev sSi (S : aSh) : Nat → Nat := S.2.2.2.2.1
abbrev sTi (S : aSh) : Nat → Nat := S.2.2.2.2.2.1
abbrev sPr (S : aSh) : Nat → Option Nat := S.2.2.2.2.2.2
/-- a shape's items are as the language wants them -/
def ShOK (S : aSh) : Prop := sN S ≤ 12 ∧ (∀ k, k < sN S → sNm S k < 16 ∧ sSo S k < 4 ∧ (sSo S k = 3 → 1 ≤ sCh S k ∧ sCh S k ≤ 9) ∧ (sSo S k ≠ 3 → sCh S k = 0) ∧ sSi S k ≤ sTi S k ∧ sTi S k ≤ 9 ∧ ∀ d, sPr S k = some d → d ≤ 999 ∧ sSo S k ≠ 2 ∧ (sSo S k = 0 → d ≤ 255) ∧ (sSo S k = 3 → d < sCh S k)) ∧ ∀ k1 k2, k1 < sN S → k2 < sN S → k1 ≠ k2 → sNm S k1 = sNm S k2 → sTi S k1 < sSi S k2 ∨ sTi S k2 < sSi S k1
/-- the six facts of item k -/
def sF (S : aSh) (k w : Nat) : Int32 := if w = 0 then nI (sNm S k) else if w = 1 then nI (sSo S k) else if w = 2 then nI (sCh S k) else if w = 3 then nI (sSi S k) else if w = 4 then nI (sTi S k) else pI (sPr S k)
/-- the class's Shape object i holds S (without its index) -/
def XItems (σ : tI) (i : Nat) (S : aSh) : Prop := ∀ k, k < sN S → σ 32 i k = nI (sNm S k) ∧ σ 33 i k = nI (sSo S k) ∧ σ 34 i k = nI (sCh S k) ∧ σ 35 i k = nI (sSi S k) ∧ σ 36 i k = nI (sTi S k) ∧ σ 37 i k = pI (sPr S k)
def XIndex (σ : tI) (i : Nat) (S : aSh) : Prop := ∀ v a, v < 10 → a < 16 → (∀ k, k < sN S → sNm S k = a → sSi S k ≤ v → v ≤ sTi S k → σ 38 i (16 * v + a) = nI k) ∧ ((∀ k, k < sN S → ¬ (sNm S k = a ∧ sSi S k ≤ v ∧ v ≤ sTi S k)) → σ 38 i (16 * v + a) = -9)
def MItems (σ : tI) (s : Nat) (S : aSh) : Prop := ∀ k w, k < sN S → w < 6 → σ 50 0 (72 * s + 6 * k + w) = sF S k w
def Rshape (σ : tI) (s : Nat) (S : aSh) : Prop := ShOK S ∧ σ 9 (1 + s) 0 = 1 ∧ σ 9 (1 + s) 1 = nI (sN S) ∧ σ 49 0 s = nI (sN S) ∧ XItems σ (1 + s) S ∧ XIndex σ (1 + s) S ∧ MItems σ s S
def Rshapes (σ : tI) : Prop := ∀ s, s < 4 → (σ 9 (1 + s) 0 = 0 ∧ σ 49 0 s = -9) ∨ ∃ S : aSh, Rshape σ s S
def Rread (σ : tI) : Prop := σ 4 0 2 = σ 55 0 0 ∧ σ 4 0 3 = σ 55 0 1 ∧ σ 4 0 4 = σ 55 0 2 ∧ ∃ n, n ≤ 60 ∧ σ 6 2 1 = nI n ∧ σ 12 0 24 = nI n ∧ ∀ j, j < n → σ 30 2 j = σ 56 0 j ∧ isB (σ 30 2 j)
def Rserv (σ : tI) : Prop := ∀ a, a < 6 → (∃ v w, v < 10 ∧ w < 10 ∧ σ 8 a 0 = nI v ∧ σ 57 0 a = nI v ∧ σ 8 a 1 = nI w ∧ σ 58 0 a = nI w) ∧ ∀ b, b < 6 → σ 31 a b = σ 59 0 (6 * a + b) ∧ (σ 31 a b = -9 ∨ ∃ s, s < 4 ∧ σ 31 a b = nI s ∧ σ 49 0 s ≠ -9 ∧ a ≠ b)
/-- (what FINDING was told may differ: promise 14 leaves it open of one R field) -/
def Rmisc (σ : tI) (τ : tL) : Prop := True ∧ True ∧ σ 11 0 11 = σ 12 0 2 ∧ τ 11 0 12 = τ 12 0 3 ∧ τ 11 0 13 = τ 12 0 4
/-- a call's facts, class against model -/
def Rcall (σ : tI) (c : Nat) : Prop := σ 0 c 0 = σ 65 0 c ∧ σ 0 c 1 = σ 66 0 c ∧ σ 0 c 2 = σ 67 0 c ∧ σ 0 c 3 = σ 68 0 c ∧ σ 0 c 4 = σ 70 0 c ∧ σ 0 c 5 = σ 74 0 c ∧ σ 0 c 6 = σ 69 0 c ∧ σ 0 c 7 = σ 71 0 c ∧ σ 0 c 8 = σ 75 0 c ∧ σ 0 c 9 = σ 72 0 c ∧ σ 0 c 10 = σ 76 0 c ∧ σ 0 c 12 = σ 77 0 c ∧ σ 0 c 14 = σ 73 0 c ∧ σ 0 c 15 = σ 79 0 c ∧ σ 0 c 16 = σ 81 0 c ∧ σ 0 c 17 = σ 82 0 c ∧ σ 0 c 18 = σ 83 0 c ∧ (σ 77 0 c = 2 → σ 0 c 13 = σ 78 0 c) ∧ ∀ j, j < 4 → σ 13 c j = σ 80 0 (4 * c + j)
/-- what a call's numbers may be -/
def Ocall (σ : tI) (c : Nat) : Prop := (∃ a b, a < 6 ∧ b < 6 ∧ a ≠ b ∧ σ 65 0 c = nI a ∧ σ 66 0 c = nI b) ∧ (∃ x, x < 3 ∧ σ 67 0 c = nI x) ∧ (∃ x, 1 ≤ x ∧ x ≤ 9 ∧ σ 68 0 c = nI x ∧ (σ 77 0 c = 2 → ∃ g, 1 ≤ g ∧ g ≤ 9 ∧ σ 78 0 c = nI g)) ∧ (∃ x y, x + y ≤ 5 ∧ σ 72 0 c = nI x ∧ σ 70 0 c = nI y) ∧ (σ 77 0 c = 0 ∨ σ 77 0 c = 1 ∨ σ 77 0 c = 2) ∧ (∃ h, h < 9 ∧ σ 71 0 c = nI h) ∧ ∃ x y, x ≤ y ∧ y ≤ 7000 ∧ σ 82 0 c = nI x ∧ σ 81 0 c = nI y
/-- a call that is not yet told -/
def Fcall (σ : tI) (c : Nat) : Prop := σ 0 c 7 = 0 ∧ σ 0 c 8 = -9 ∧ σ 0 c 9 = 0 ∧ σ 0 c 11 = 0 ∧ σ 0 c 12 = 0 ∧ σ 0 c 14 = 0 ∧ σ 0 c 15 = -9 ∧ σ 0 c 16 = 0 ∧ σ 0 c 17 = 0 ∧ σ 0 c 18 = 0 ∧ σ 72 0 c = 0 ∧ σ 73 0 c = 0 ∧ σ 77 0 c = 0 ∧ σ 81 0 c = 0 ∧ σ 82 0 c = 0 ∧ σ 83 0 c = 0 ∧ ∀ j, j < 4 → σ 13 c j = 0 ∧ σ 80 0 (4 * c + j) = 0
/-- a frame's facts, class against model -/
def Rframe (σ : tI) (f : Nat) : Prop := σ 14 0 f = σ 84 0 f ∧ σ 15 0 f = σ 85 0 f ∧ σ 16 0 f = σ 86 0 f ∧ σ 17 0 f = σ 87 0 f ∧ σ 18 0 f = σ 88 0 f ∧ σ 19 0 f = σ 89 0 f ∧ (σ 84 0 f ≠ 1 → σ 20 0 f = σ 90 0 f)
def Oframe (σ : tI) (n f : Nat) : Prop := (σ 84 0 f = 0 ∧ σ 89 0 f = -9) ∨ ∃ k c, 1 ≤ k ∧ k ≤ 6 ∧ c < n ∧ σ 84 0 f = nI k ∧ σ 89 0 f = nI c ∧ (k = 3 → ∃ d, 1 ≤ d ∧ d < 9 ∧ σ 90 0 f = nI d) ∧ (k = 5 → ∃ d, d ≤ 9 ∧ σ 90 0 f = nI d)
/-- frames f of lo .. m - 1 that ask for call c -/
def asksU (σ : tI) (lo m c : Nat) : Nat := cntN (fun f => decide (lo ≤ f ∧ σ 84 0 f = 1 ∧ σ 89 0 f = nI c)) m
def undU (σ : tI) (lo m c : Nat) : Nat := cntN (fun f => decide (lo ≤ f ∧ σ 89 0 f = nI c)) m
/-- T the tick, n calls, m frames, lo the first under way, k breaks -/
def Rnet (σ : tI) (T n m lo k : Nat) : Prop :=
  (σ 3 0 4 = nI T ∧ σ 12 0 5 = nI T ∧ T ≤ 9999) ∧ (σ 3 0 5 = nI n ∧ σ 12 0 34 = nI n ∧ n ≤ 30) ∧ (∀ c, c < n → Rcall σ c ∧ Ocall σ c ∧ σ 0 c 11 = nI (undU σ lo m c)) ∧ (∀ c, n ≤ c → c < 30 → Fcall σ c) ∧
  σ 3 0 6 = nI (cntN (fun c => decide (σ 71 0 c = 0)) n) ∧
  (∀ a, a < 6 → σ 8 a 2 = σ 62 0 a ∧ σ 8 a 3 = σ 63 0 a ∧ σ 8 a 4 = σ 64 0 a ∧ (∃ h, 1 ≤ h ∧ h ≤ 3 ∧ σ 62 0 a = nI h) ∧ (∃ h, h ≤ 9 ∧ σ 63 0 a = nI h) ∧ (∃ h, h ≤ 99 ∧ σ 64 0 a = nI h) ∧
    σ 8 a 5 = nI (cntN (fun c => decide (σ 66 0 c = nI a ∧ σ 77 0 c = 1)) n) ∧ σ 8 a 6 = nI (cntN (fun c => decide (σ 66 0 c = nI a ∧ σ 77 0 c = 2)) n)) ∧
  (σ 1 0 0 = nI m ∧ σ 12 0 54 = nI m) ∧ (∀ f, f < m → Rframe σ f ∧ Oframe σ n f) ∧ σ 1 0 1 = nI (cntN (fun f => decide (σ 88 0 f = 2)) m) ∧
  (σ 1 0 2 = nI lo ∧ lo ≤ m ∧ (∀ f, f < lo → σ 88 0 f = 1 ∨ σ 88 0 f = 2) ∧ ∀ f, lo ≤ f → f < m → σ 88 0 f = 0) ∧
  (∀ f c, lo ≤ f → f < m → σ 84 0 f = 1 → σ 89 0 f = nI c → c < n → σ 90 0 f = σ 72 0 c) ∧
  (σ 2 0 0 = nI k ∧ σ 12 0 64 = nI k ∧ k ≤ 20 ∧ ∀ i, i < k → σ 21 0 i = σ 91 0 i ∧ σ 22 0 i = σ 92 0 i ∧ σ 23 0 i = σ 93 0 i) ∧
  ∃ P S : Nat, ∃ Rp Kc : Nat → Nat, σ 3 0 7 = nI P ∧ σ 12 0 62 = nI P ∧ P ≤ 100 ∧ σ 3 0 8 = nI S ∧ σ 12 0 63 = nI S ∧ S ≤ 200 ∧ m = P + S + sumN (fun c => (σ 72 0 c).toNatClampNeg + 1 + Rp c + Kc c) n ∧
    ∀ c, c < n → Rp c + (if σ 77 0 c = 0 then 0 else 1) + asksU σ lo m c ≤ (σ 72 0 c).toNatClampNeg + 1 ∧ Kc c ≤ (if σ 71 0 c = 0 then 0 else 1) ∧ (σ 81 0 c).toNatClampNeg ≤ 9 * lo
/-- the relation -/
def Rall (σ : tI) (τ : tL) : Prop := Rrows σ ∧ Rtexts σ ∧ Rshapes σ ∧ Rread σ ∧ Rserv σ ∧ Rmisc σ τ ∧ ∃ T n m lo k, Rnet σ T n m lo k
/-- a case of the law: the class's method, then the model's, answer alike, and the relation holds again -/
def am_num (z : Nat) (v : Option am_V) : Bool := match v with
  | some (.inl _) => !(Nat.beq z 135 || Nat.beq z 136 || Nat.beq z 140)
  | some (.inr (.inl _)) => Nat.beq z 135 || Nat.beq z 136 || Nat.beq z 140
  | _ => false
noncomputable def LC (l : Launch) (zx zm : Nat) (as : List am_V) (σ : tI) (τ : tL) (t : Option (Nat × Nat)) : Prop :=
  am_T l zx (aR 11 0 :: as) σ τ t (fun v σ1 τ1 t1 => am_num zx v = true ∧ am_T l zm (aR 12 0 :: as) σ1 τ1 t1 (fun v2 σ2 τ2 _ => v2 = v ∧ Rall σ2 τ2))
def am_numM (z : Nat) (v : Option am_V) : Bool := match v with
  | some (.inl _) => !(Nat.beq z 248 || Nat.beq z 249 || Nat.beq z 258)
  | some (.inr (.inl _)) => Nat.beq z 248 || Nat.beq z 249 || Nat.beq z 258
  | _ => false
/-- a case of the law whose answers are not compared -/
noncomputable def LCn (l : Launch) (zx zm : Nat) (as : List am_V) (σ : tI) (τ : tL) (t : Option (Nat × Nat)) : Prop :=
  am_T l zx (aR 11 0 :: as) σ τ t (fun v σ1 τ1 t1 => am_num zx v = true ∧ am_T l zm (aR 12 0 :: as) σ1 τ1 t1 (fun v2 σ2 τ2 _ => am_numM zm v2 = true ∧ Rall σ2 τ2))
theorem LC.n {l : Launch} {zx zm : Nat} {as : List am_V} {σ : tI} {τ : tL} {t : Option (Nat × Nat)} (h : LC l zx zm as σ τ t) (hz : (Nat.beq zx 135 || Nat.beq zx 136 || Nat.beq zx 140) = (Nat.beq zm 248 || Nat.beq zm 249 || Nat.beq zm 258)) : LCn l zx zm as σ τ t := by
  refine am_T.mono h ?_
  rintro v σ1 τ1 t1 ⟨h1, h2⟩
  refine ⟨h1, am_T.mono h2 ?_⟩
  rintro v2 σ2 τ2 t2 ⟨rfl, h3⟩
  refine ⟨?_, h3⟩
  unfold am_num at h1
  unfold am_numM
  rw [← hz]
  exact h1
-- frames of the relation: what a part looks at
def kRows : Nat → Bool := fun k => Nat.beq k 44 || Nat.beq k 45
def kTexts : Nat → Bool := fun k => Nat.beq k 47 || Nat.beq k 48
def kShapes : Nat → Bool := fun k => Nat.beq k 9 || (Nat.ble 32 k && Nat.ble k 38) || Nat.beq k 49 || Nat.beq k 50
def kNet : Nat → Bool := fun k => Nat.ble k 3 || (Nat.ble 13 k && Nat.ble k 23) || (Nat.ble 62 k && Nat.ble k 93)
def jNet : Nat → Bool := fun j => Nat.beq j 5 || Nat.beq j 34 || Nat.beq j 54 || Nat.beq j 62 || Nat.beq j 63 || Nat.beq j 64
theorem Rrows.fr {σ σ2 : tI} (h : Rrows σ) (h6 : ∀ r, r < 6 → σ2 6 (4 + r) = σ 6 (4 + r)) (h30 : ∀ r, r < 6 → σ2 30 (4 + r) = σ 30 (4 + r)) (h44 : σ2 44 = σ 44) (h45 : σ2 45 = σ 45) : Rrows σ2 := by
  intro r hr
  rw [h6 r hr, h30 r hr, h44, h45]
  exact h r hr
theorem Rtexts.fr {σ σ2 : tI} (h : Rtexts σ) (h6 : ∀ r, r < 6 → σ2 6 (10 + r) = σ 6 (10 + r)) (h30 : ∀ r, r < 6 → σ2 30 (10 + r) = σ 30 (10 + r)) (h47 : σ2 47 = σ 47) (h48 : σ2 48 = σ 48) : Rtexts σ2 := by
  intro r hr
  rw [h6 r hr, h30 r hr, h47, h48]
  exact h r hr
theorem Rshapes.fr {σ σ2 : tI} (h : Rshapes σ) (hk : ∀ k, kShapes k = true → σ2 k = σ k) : Rshapes σ2 := by
  unfold Rshapes Rshape XItems XIndex MItems at h ⊢
  rw [hk 9 rfl, hk 32 rfl, hk 33 rfl, hk 34 rfl, hk 35 rfl, hk 36 rfl, hk 37 rfl, hk 38 rfl, hk 49 rfl, hk 50 rfl]
  exact h
theorem Rread.fr {σ σ2 : tI} (h : Rread σ) (h4 : σ2 4 = σ 4) (h55 : σ2 55 = σ 55) (h56 : σ2 56 = σ 56) (h6 : σ2 6 2 = σ 6 2) (h30 : σ2 30 2 = σ 30 2) (h12 : σ2 12 0 24 = σ 12 0 24) : Rread σ2 := by
  unfold Rread at h ⊢
  rw [h4, h55, h56, h6, h30, h12]
  exact h
theorem Rserv.fr {σ σ2 : tI} (h : Rserv σ) (h8 : ∀ a, a < 6 → σ2 8 a 0 = σ 8 a 0 ∧ σ2 8 a 1 = σ 8 a 1) (h57 : σ2 57 = σ 57) (h58 : σ2 58 = σ 58) (h31 : σ2 31 = σ 31) (h59 : σ2 59 = σ 59) (h49 : ∀ s, s < 4 → σ 49 0 s ≠ -9 → σ2 49 0 s ≠ -9) : Rserv σ2 := by
  intro a ha
  obtain ⟨h1, h2⟩ := h a ha
  rw [(h8 a ha).1, (h8 a ha).2, h57, h58, h31, h59]
  refine ⟨h1, fun b hb => ⟨(h2 b hb).1, ?_⟩⟩
  rcases (h2 b hb).2 with h3 | ⟨s, hs, h3, h4, h5⟩
  · exact Or.inl h3
  · exact Or.inr ⟨s, hs, h3, h49 s hs h4, h5⟩
theorem Rmisc.fr {σ σ2 : tI} {τ : tL} (h : Rmisc σ τ) (h11 : σ2 11 = σ 11) (h42 : σ2 42 = σ 42) (h43 : σ2 43 = σ 43) (h0 : σ2 12 0 0 = σ 12 0 0) (h2 : σ2 12 0 2 = σ 12 0 2) : Rmisc σ2 τ := by
  unfold Rmisc at h ⊢
  rw [h11, h2]
  exact h
theorem Rnet.fr {σ σ2 : tI} {T n m lo k : Nat} (h : Rnet σ T n m lo k) (hk : ∀ k, kNet k = true → σ2 k = σ k) (hj : ∀ j, jNet j = true → σ2 12 0 j = σ 12 0 j) (h8 : ∀ a j, a < 6 → 2 ≤ j → σ2 8 a j = σ 8 a j) : Rnet σ2 T n m lo k := by
  have e8 : ∀ a, a < 6 → σ2 8 a 2 = σ 8 a 2 ∧ σ2 8 a 3 = σ 8 a 3 ∧ σ2 8 a 4 = σ 8 a 4 ∧ σ2 8 a 5 = σ 8 a 5 ∧ σ2 8 a 6 = σ 8 a 6 := fun a ha => ⟨h8 a 2 ha (by decide), h8 a 3 ha (by decide), h8 a 4 ha (by decide), h8 a 5 ha (by decide), h8 a 6 ha (by decide)⟩
  unfold Rnet Rcall Ocall Fcall Rframe Oframe asksU undU at h ⊢
  rw [hk 0 rfl, hk 1 rfl, hk 2 rfl, hk 3 rfl, hk 13 rfl, hk 14 rfl, hk 15 rfl, hk 16 rfl, hk 17 rfl, hk 18 rfl, hk 19 rfl, hk 20 rfl, hk 21 rfl, hk 22 rfl, hk 23 rfl, hk 62 rfl, hk 63 rfl, hk 64 rfl, hk 65 rfl, hk 66 rfl, hk 67 rfl, hk 68 rfl, hk 69 rfl, hk 70 rfl, hk 71 rfl, hk 72 rfl, hk 73 rfl, hk 74 rfl, hk 75 rfl, hk 76 rfl, hk 77 rfl, hk 78 rfl, hk 79 rfl, hk 80 rfl, hk 81 rfl, hk 82 rfl, hk 83 rfl, hk 84 rfl, hk 85 rfl, hk 86 rfl, hk 87 rfl, hk 88 rfl, hk 89 rfl, hk 90 rfl, hk 91 rfl, hk 92 rfl, hk 93 rfl, hj 5 rfl, hj 34 rfl, hj 54 rfl, hj 62 rfl, hj 63 rfl, hj 64 rfl]
  obtain ⟨h1, h2, h3, h4, h5, h6, h7⟩ := h
  refine ⟨h1, h2, h3, h4, h5, fun a ha => ?_, h7⟩
  obtain ⟨g1, g2, g3, g4, g5⟩ := e8 a ha
  rw [g1, g2, g3, g4, g5]
  exact h6 a ha
theorem u3_kk {α : Type} (f : Nat → Nat → Nat → α) {k i j a : Nat} (v : α) (h : a ≠ k) : u3 f k i j v a = f a := by
  funext b c
  simp [u3, h]
theorem u3_ii {α : Type} (f : Nat → Nat → Nat → α) {k i j b : Nat} (v : α) (h : b ≠ i) : u3 f k i j v k b = f k b := by
  funext c
  simp [u3, h]

/-! CASES OF THE LAW: rows and texts -/
section L1
variable {l : Launch} {σ σ2 : tI} {τ τ2 : tL} {t : Option (Nat × Nat)}
theorem kNe {K : Nat → Bool} {k a : Nat} (hk : K k = true) (h : K a = false) : k ≠ a := fun e => by rw [e, h] at hk; cases hk
/-- only findings, asked, fractions, rows or texts may have changed -/
theorem Rall.mk {σ σ2 : tI} {τ τ2 : tL} (h : Rall σ τ) (hk : ∀ k, k ≠ 11 → k ≠ 12 → k ≠ 42 → k ≠ 43 → k ≠ 44 → k ≠ 45 → k ≠ 47 → k ≠ 48 → k ≠ 6 → k ≠ 30 → σ2 k = σ k) (h6 : ∀ i, i < 4 → σ2 6 i = σ 6 i) (h30 : ∀ i, i < 4 → σ2 30 i = σ 30 i) (h12 : ∀ j, j ≠ 0 → j ≠ 2 → σ2 12 0 j = σ 12 0 j) (hr : Rrows σ2) (ht : Rtexts σ2) (hm : Rmisc σ2 τ2) : Rall σ2 τ2 := by
  obtain ⟨-, -, h3, h4, h5, -, T, n, m, lo, kk, h7⟩ := h
  have e49 : σ2 49 = σ 49 := hk 49 (by decide) (by decide) (by decide) (by decide) (by decide) (by decide) (by decide) (by decide) (by decide) (by decide)
  have g : ∀ k, k ≠ 11 ∧ k ≠ 12 ∧ k ≠ 42 ∧ k ≠ 43 ∧ k ≠ 44 ∧ k ≠ 45 ∧ k ≠ 47 ∧ k ≠ 48 ∧ k ≠ 6 ∧ k ≠ 30 → σ2 k = σ k := fun k ⟨a1, a2, a3, a4, a5, a6, a7, a8, a9, a0⟩ => hk k a1 a2 a3 a4 a5 a6 a7 a8 a9 a0
  refine ⟨hr, ht, h3.fr (fun k z => g k ⟨kNe z rfl, kNe z rfl, kNe z rfl, kNe z rfl, kNe z rfl, kNe z rfl, kNe z rfl, kNe z rfl, kNe z rfl, kNe z rfl⟩), h4.fr (g 4 (by decide)) (g 55 (by decide)) (g 56 (by decide)) (h6 2 (by decide)) (h30 2 (by decide)) (h12 24 (by decide) (by decide)), h5.fr (fun a ha => by rw [g 8 (by decide)]; exact ⟨rfl, rfl⟩) (g 57 (by decide)) (g 58 (by decide)) (g 31 (by decide)) (g 59 (by decide)) (fun s _ hs => by rw [e49]; exact hs), hm, T, n, m, lo, kk, h7.fr (fun k z => g k ⟨kNe z rfl, kNe z rfl, kNe z rfl, kNe z rfl, kNe z rfl, kNe z rfl, kNe z rfl, kNe z rfl, kNe z rfl, kNe z rfl⟩) (fun j z => h12 j (kNe z rfl) (kNe z rfl)) (fun a j _ _ => by rw [g 8 (by decide)])⟩
theorem Rall.misc {σ σ2 : tI} {τ τ2 : tL} (h : Rall σ τ) (hk : ∀ k, k ≠ 11 → k ≠ 12 → k ≠ 42 → k ≠ 43 → σ2 k = σ k) (h12 : ∀ j, j ≠ 0 → j ≠ 2 → σ2 12 0 j = σ 12 0 j) (hm : Rmisc σ2 τ2) : Rall σ2 τ2 := by
  have e6 := hk 6 (by decide) (by decide) (by decide) (by decide)
  have e30 := hk 30 (by decide) (by decide) (by decide) (by decide)
  have e44 := hk 44 (by decide) (by decide) (by decide) (by decide)
  have e45 := hk 45 (by decide) (by decide) (by decide) (by decide)
  have e47 := hk 47 (by decide) (by decide) (by decide) (by decide)
  have e48 := hk 48 (by decide) (by decide) (by decide) (by decide)
  exact h.mk (fun k a1 a2 a3 a4 _ _ _ _ _ _ => hk k a1 a2 a3 a4) (fun i _ => by rw [e6]) (fun i _ => by rw [e30]) h12 (h.1.fr (fun r _ => by rw [e6]) (fun r _ => by rw [e30]) e44 e45) (h.2.1.fr (fun r _ => by rw [e6]) (fun r _ => by rw [e30]) e47 e48) hm
theorem Rall.find {w w2 : Nat} (_ : w < 6) (h : Rall σ τ) : Rall (mmeets w2 (xfind w σ)) τ := by
  refine h.misc (fun k a1 a2 a3 a4 => ?_) (fun j a1 a2 => ?_) ?_
  · unfold mmeets xfind
    rw [u3_kk _ _ a4, u3_kk _ _ a2, u3_kk _ _ a3, u3_kk _ _ a1]
  · simp [u3, a1]
  · obtain ⟨-, -, -, -, -, ⟨h1, h2, h3, h4, h5⟩, -⟩ := h
    refine ⟨trivial, trivial, ?_, h4, h5⟩
    simp [u3, h3]
theorem Rall.ask {v : Int32} (h : Rall σ τ) : Rall (u3 (u3 σ 11 0 11 v) 12 0 2 v) τ := by
  refine h.misc (fun k a1 a2 a3 a4 => ?_) (fun j a1 a2 => ?_) ?_
  · rw [u3_kk _ _ a2, u3_kk _ _ a1]
  · rw [u3_j _ _ a2, u3_k _ _ (by decide)]
  · obtain ⟨-, -, -, -, -, ⟨h1, h2, h3, h4, h5⟩, -⟩ := h
    refine ⟨trivial, trivial, ?_, h4, h5⟩
    simp [u3]
theorem LC.of {zx zm : Nat} {as : List am_V} {v : am_V} {σ1 : tI} {τ1 : tL} {t1 t2 : Option (Nat × Nat)} (hx : am_D l zx (aR 11 0 :: as) σ τ (rX t) cX lX (some v) σ1 τ1 (rX t1)) (hm : am_D l zm (aR 12 0 :: as) σ1 τ1 (rX t1) cX lX (some v) σ2 τ2 (rX t2)) (hR : Rall σ2 τ2) (hv : am_num zx (some v) = true := by rfl) : LC l zx zm as σ τ t :=
  hx.T ⟨hv, hm.T ⟨rfl, hR⟩⟩
theorem LCn.of {zx zm : Nat} {as : List am_V} {v v2 : am_V} {σ1 : tI} {τ1 : tL} {t1 t2 : Option (Nat × Nat)} (hx : am_D l zx (aR 11 0 :: as) σ τ (rX t) cX lX (some v) σ1 τ1 (rX t1)) (hm : am_D l zm (aR 12 0 :: as) σ1 τ1 (rX t1) cX lX (some v2) σ2 τ2 (rX t2)) (hR : Rall σ2 τ2) (hv : am_num zx (some v) = true := by rfl) (hv2 : am_numM zm (some v2) = true := by rfl) : LCn l zx zm as σ τ t :=
  hx.T ⟨hv, hm.T ⟨hv2, hR⟩⟩
theorem not6 {r : Int32} (h : ¬ (0 ≤ r ∧ r < 6)) : ¬ (0 ≤ r ∧ r ≤ 5) := by
  intro h2
  obtain ⟨j, hj, rfl⟩ := ix_le (n := 6) (by decide) h2
  exact h (in6 hj)
theorem le5 {r : Int32} (h : 0 ≤ r ∧ r < 6) : 0 ≤ r ∧ r ≤ 5 := by
  obtain ⟨j, hj, rfl⟩ := ix_lt (n := 6) (by decide) h
  exact in5 hj
theorem le_pred {i : Int32} {n : Nat} (hn : n ≤ 60) : (0 ≤ i ∧ i ≤ nI n - 1) ↔ (0 ≤ i ∧ i < nI n) := by
  constructor
  · intro h
    have hk : ∃ k, k < n ∧ i = nI k := by
      refine ix_le ?_ h
      cases n with
      | zero => rfl
      | succ n => rw [nI_pred, nI_toInt (by omega)]; rfl
    obtain ⟨k, hk, rfl⟩ := hk
    exact ⟨h.1, nI_lt hk (by omega)⟩
  · intro h
    obtain ⟨k, hk, rfl⟩ := ix_lt (nI_toInt (by omega)) h
    cases n with
    | zero => omega
    | succ n => rw [nI_pred]; exact ⟨h.1, nI_le (by omega) (by omega)⟩
theorem m9 {n : Nat} (h : n ≤ 2000) : nI n ≠ -9 := by
  intro e
  have := congrArg Int32.toInt e
  rw [nI_toInt (by omega)] at this
  have h9 : (-9 : Int32).toInt = -9 := by decide
  omega
theorem LC_at (h : Rall σ τ) (r i : Int32) : LC l 95 165 [aI r, aI i] σ τ t := by
  by_cases hr : 0 ≤ r ∧ r < 6
  · obtain ⟨j, hj, rfl⟩ := ix_lt (n := 6) (by decide) hr
    obtain ⟨n, hn, hd1, hc⟩ := h.1 j hj
    have hx := x_at (l := l) (τ := τ) (t := t) (i := i) hj hd1 hn
    rcases hc with ⟨h0, hs⟩ | ⟨h0, hs, hp⟩
    · simp only [if_pos h0] at hx
      exact LC.of hx (m_at_none hj (by simp [u3, hs])) (h.find (by decide))
    · have h01 : ¬ σ 6 (4 + j) 0 = 0 := by rw [h0]; decide
      simp only [if_neg h01] at hx
      by_cases hi : 0 ≤ i ∧ i < nI n
      · simp only [if_pos hi] at hx
        have hm := m_at (l := l) (σ := u3 σ 11 0 11 (σ 30 (4 + j) i.toNatClampNeg)) (τ := τ) (t := t) (i := i) hj (by simp [u3, hs]) hn
        simp only [if_pos ((le_pred hn).mpr hi)] at hm
        obtain ⟨k, hk, rfl⟩ := ix_lt (nI_toInt (by omega)) hi
        refine LC.of hx hm ?_
        have hp2 : σ 30 (4 + j) k = σ 45 0 (60 * j + k) := hp k hk
        rw [u3_k _ _ (show 45 ≠ 11 by decide), nI_clamp (by omega), ← hp2]
        exact h.ask
      · simp only [if_neg hi] at hx
        have hm := m_at (l := l) (σ := xfind 2 σ) (τ := τ) (t := t) (i := i) hj (by simp [u3, hs]) hn
        simp only [if_neg (fun z => hi ((le_pred hn).mp z))] at hm
        exact LC.of hx hm (h.find (by decide))
  · exact LC.of (x_at_bad hr) (m_at_bad (not6 hr)) h
theorem LC_lay (h : Rall σ τ) (r i v : Int32) : LC l 94 164 [aI r, aI i, aI v] σ τ t := by
  by_cases hr : 0 ≤ r ∧ r < 6
  · obtain ⟨j, hj, rfl⟩ := ix_lt (n := 6) (by decide) hr
    obtain ⟨n, hn, hd1, hc⟩ := h.1 j hj
    have hx := x_lay (l := l) (τ := τ) (t := t) (i := i) (v := v) hj hd1 hn
    rcases hc with ⟨h0, hs⟩ | ⟨h0, hs, hp⟩
    · simp only [if_pos h0] at hx
      exact LC.of hx (m_lay_none hj (by simp [u3, hs])) (h.find (by decide))
    · have h01 : ¬ σ 6 (4 + j) 0 = 0 := by rw [h0]; decide
      simp only [if_neg h01] at hx
      by_cases hi : 0 ≤ i ∧ i < nI n
      · simp only [if_pos hi] at hx
        obtain ⟨k, hk, rfl⟩ := ix_lt (nI_toInt (by omega)) hi
        have hm := m_lay (l := l) (σ := u3 (u3 σ 11 0 11 (σ 30 (4 + j) (nI k).toNatClampNeg)) 30 (4 + j) (nI k).toNatClampNeg v) (τ := τ) (t := t) (i := nI k) (v := v) hj (by simp [u3, hs]) hn
        simp only [if_pos ((le_pred hn).mpr hi)] at hm
        refine LC.of hx hm ?_
        have hp2 : σ 30 (4 + j) k = σ 45 0 (60 * j + k) := hp k hk
        rw [u3_k _ _ (show 45 ≠ 30 by decide), u3_k _ _ (show 45 ≠ 11 by decide), nI_clamp (by omega), ← hp2]
        have h' := h.ask (v := σ 30 (4 + j) k)
        refine h'.mk (fun k a1 a2 a3 a4 a5 a6 a7 a8 a9 a0 => ?_) (fun i hi => ?_) (fun i hi => ?_) (fun j a1 a2 => ?_) ?_ ?_ ?_
        · rw [u3_kk _ _ a6, u3_kk _ _ a2, u3_kk _ _ a0, u3_kk _ _ a1, u3_kk _ _ a2, u3_kk _ _ a1]
        · funext c; simp [u3]
        · funext c; simp [u3, show i ≠ 4 + j by omega]
        · simp [u3]
        · intro r hr
          obtain ⟨n2, g1, g2, g3⟩ := h.1 r hr
          by_cases e : r = j
          · subst e
            refine ⟨n2, g1, by simpa [u3] using g2, ?_⟩
            rcases g3 with ⟨g4, g5⟩ | ⟨g4, g5, g6⟩
            · exact absurd g4 h01
            · refine Or.inr ⟨by simpa [u3] using g4, by simpa [u3] using g5, fun q hq => ?_⟩
              by_cases e2 : q = k
              · subst e2; simp [u3]
              · simp [u3, e2, g6 q hq]
          · refine ⟨n2, g1, by simpa [u3] using g2, ?_⟩
            rcases g3 with ⟨g4, g5⟩ | ⟨g4, g5, g6⟩
            · exact Or.inl ⟨by simpa [u3] using g4, by simpa [u3] using g5⟩
            · refine Or.inr ⟨by simpa [u3] using g4, by simpa [u3] using g5, fun q hq => ?_⟩
              simp [u3, e, show 60 * r + q ≠ 60 * j + k by omega, g6 q hq]
        · refine h.2.1.fr (fun r hr => ?_) (fun r hr => ?_) ?_ ?_
          · funext c; simp [u3]
          · funext c; simp [u3, show 10 + r ≠ 4 + j by omega]
          · funext b c; simp [u3]
          · funext b c; simp [u3]
        · obtain ⟨-, -, -, -, -, ⟨h1, h2, h3, h4, h5⟩, -⟩ := h'
          exact ⟨trivial, trivial, by simp [u3], h4, h5⟩
      · simp only [if_neg hi] at hx
        have hm := m_lay (l := l) (σ := xfind 2 σ) (τ := τ) (t := t) (i := i) (v := v) hj (by simp [u3, hs]) hn
        simp only [if_neg (fun z => hi ((le_pred hn).mp z))] at hm
        exact LC.of hx hm (h.find (by decide))
  · exact LC.of (x_lay_bad hr) (m_lay_bad (not6 hr)) h
end L1

/-! CASES OF THE LAW: row, tear, text, put, size -/
section L2
variable {l : Launch} {σ σ2 : tI} {τ τ2 : tL} {t : Option (Nat × Nat)}
theorem rRow.cg {d d2 p p2 : Nat → Int32} {sz sz2 : Int32} {g g2 : Nat → Int32} (h : rRow d p sz g) (hd : d2 0 = d 0 ∧ d2 1 = d 1) (hp : ∀ q, q < 60 → p2 q = p q) (hs : sz2 = sz) (hg : ∀ q, q < 60 → g2 q = g q) : rRow d2 p2 sz2 g2 := by
  obtain ⟨n, h1, h2, h3⟩ := h
  refine ⟨n, h1, hd.2.trans h2, ?_⟩
  rcases h3 with ⟨a, b⟩ | ⟨a, b, c⟩
  · exact Or.inl ⟨hd.1.trans a, hs.trans b⟩
  · exact Or.inr ⟨hd.1.trans a, hs.trans b, fun j hj => by rw [hp j (by omega), hg j (by omega)]; exact c j hj⟩
theorem Rmisc.same {σ σ2 : tI} {τ : tL} (h : Rmisc σ τ) (h1 : σ2 11 0 10 = σ 11 0 10) (h2 : σ2 11 0 11 = σ 11 0 11) (h42 : σ2 42 = σ 42) (h43 : σ2 43 = σ 43) (h0 : σ2 12 0 0 = σ 12 0 0) (h3 : σ2 12 0 2 = σ 12 0 2) : Rmisc σ2 τ := by
  unfold Rmisc at h ⊢
  rw [h2, h3]
  exact h
theorem cls60 {n : Int32} : (¬ n ≤ 60) ∨ n < 0 ∨ ∃ k, k ≤ 60 ∧ n = nI k := by
  by_cases h1 : n ≤ 60
  · by_cases h2 : n < 0
    · exact Or.inr (Or.inl h2)
    · obtain ⟨k, hk, e⟩ := ix_le (n := 61) (N := 60) (by decide) ⟨Int32.not_lt.mp h2, h1⟩
      exact Or.inr (Or.inr ⟨k, by omega, e⟩)
  · exact Or.inl h1
theorem LC_row (h : Rall σ τ) (r n : Int32) : LC l 93 163 [aI r, aI n] σ τ t := by
  by_cases hr : 0 ≤ r ∧ r < 6
  · rcases cls60 (n := n) with hn | hn | ⟨m, hm, rfl⟩
    · exact LC.of (x_row_bad (Or.inr hn)) (m_row_bad (Or.inr hn)) h
    · exact LC.of (x_row_neg hr hn) (m_row_neg (le5 hr) hn) (h.find (by decide))
    · obtain ⟨j, hj, rfl⟩ := ix_lt (n := 6) (by decide) hr
      refine LC.of (x_row hj hm) (m_row hj hm) ?_
      refine h.mk (fun k a1 a2 a3 a4 a5 a6 a7 a8 a9 a0 => ?_) (fun i hi => ?_) (fun i hi => ?_) (fun j a1 a2 => ?_) (fun q hq => ?_) ?_ (h.2.2.2.2.2.1.same ?_ ?_ ?_ ?_ ?_ ?_)
      · funext b c; simp [mfill, u3, rfill, a5, a6, a9, a0]
      · funext c; simp [mfill, u3, rfill, show i ≠ 4 + j by omega]
      · funext c; simp [mfill, u3, rfill, show i ≠ 4 + j by omega]
      · simp [mfill, u3, rfill]
      · by_cases e : q = j
        · subst e
          refine ⟨m, hm, by simp [mfill, u3, rfill], Or.inr ⟨by simp [mfill, u3, rfill], by simp [mfill, u3, rfill], fun c hc => ?_⟩⟩
          simp [mfill, u3, rfill, hc, show c < 60 by omega]
        · refine (h.1 q hq).cg ⟨by simp [mfill, u3, rfill, e], by simp [mfill, u3, rfill, e]⟩ (fun c hc => by simp [mfill, u3, rfill, e]) (by simp [mfill, u3, rfill, e]) (fun c hc => ?_)
          have e2 : ¬ (60 * j ≤ 60 * q + c ∧ 60 * q + c < 60 * j + 60) := by omega
          simp [mfill, u3, rfill, e2]
      · refine h.2.1.fr (fun r hr => ?_) (fun r hr => ?_) ?_ ?_
        · funext c; simp [mfill, u3, rfill, show 10 + r ≠ 4 + j by omega]
        · funext c; simp [mfill, u3, rfill, show 10 + r ≠ 4 + j by omega]
        · funext b c; simp [mfill, u3, rfill]
        · funext b c; simp [mfill, u3, rfill]
      · simp [mfill, u3, rfill]
      · simp [mfill, u3, rfill]
      · funext b c; simp [mfill, u3, rfill]
      · funext b c; simp [mfill, u3, rfill]
      · simp [mfill, u3, rfill]
      · simp [mfill, u3, rfill]
  · exact LC.of (x_row_bad (Or.inl hr)) (m_row_bad (Or.inl (not6 hr))) h
theorem LC_tear (h : Rall σ τ) (r : Int32) : LC l 96 166 [aI r] σ τ t := by
  by_cases hr : 0 ≤ r ∧ r < 6
  · obtain ⟨j, hj, rfl⟩ := ix_lt (n := 6) (by decide) hr
    obtain ⟨n, hn, hd1, hc⟩ := h.1 j hj
    have hx := x_tear (l := l) (σ := σ) (τ := τ) (t := t) hj
    rcases hc with ⟨h0, hs⟩ | ⟨h0, hs, hp⟩
    · simp only [if_pos h0] at hx
      have hm := m_tear (l := l) (σ := xfind 1 σ) (τ := τ) (t := t) hj
      simp only [if_pos (show (xfind 1 σ) 44 0 j < 0 by simp [u3, hs])] at hm
      exact LC.of hx hm (h.find (by decide))
    · have h01 : ¬ σ 6 (4 + j) 0 = 0 := by rw [h0]; decide
      simp only [if_neg h01] at hx
      have hm := m_tear (l := l) (σ := u3 σ 6 (4 + j) 0 0) (τ := τ) (t := t) hj
      simp only [if_neg (show ¬ (u3 σ 6 (4 + j) 0 0) 44 0 j < 0 by simp only [u3_k _ _ (show 44 ≠ 6 by decide), hs]; exact nI_pos (by omega))] at hm
      refine LC.of hx hm ?_
      refine h.mk (fun k a1 a2 a3 a4 a5 a6 a7 a8 a9 a0 => ?_) (fun i hi => ?_) (fun i hi => ?_) (fun j a1 a2 => ?_) (fun q hq => ?_) ?_ (h.2.2.2.2.2.1.same ?_ ?_ ?_ ?_ ?_ ?_)
      · funext b c; simp [u3, a5, a9]
      · funext c; simp [u3, show i ≠ 4 + j by omega]
      · funext c; simp [u3]
      · simp [u3]
      · by_cases e : q = j
        · subst e
          exact ⟨n, hn, by simpa [u3] using hd1, Or.inl ⟨by simp [u3], by simp [u3]⟩⟩
        · exact (h.1 q hq).cg ⟨by simp [u3, e], by simp [u3]⟩ (fun c hc => by simp [u3]) (by simp [u3, e]) (fun c hc => by simp [u3])
      · refine h.2.1.fr (fun r hr => ?_) (fun r hr => ?_) ?_ ?_
        · funext c; simp [u3, show 10 + r ≠ 4 + j by omega]
        · funext c; simp [u3]
        · funext b c; simp [u3]
        · funext b c; simp [u3]
      · simp [u3]
      · simp [u3]
      · funext b c; simp [u3]
      · funext b c; simp [u3]
      · simp [u3]
      · simp [u3]
  · exact LC.of (x_tear_bad hr) (m_tear_bad (not6 hr)) h
theorem isB_32 : isB 32 := by unfold isB; decide
theorem isB_i2b (v : Int32) : isB v.toInt8.toInt32 := by
  unfold isB
  rw [i_le, i_le, Int8.toInt_toInt32]
  have h1 := Int8.le_toInt v.toInt8
  have h2 := Int8.toInt_lt v.toInt8
  have e1 : (-128 : Int32).toInt = -128 := by decide
  have e2 : (127 : Int32).toInt = 127 := by decide
  omega
theorem LC_text (h : Rall σ τ) (r n : Int32) : LC l 98 169 [aI r, aI n] σ τ t := by
  by_cases hr : 0 ≤ r ∧ r < 6
  · rcases cls60 (n := n) with hn | hn | ⟨m, hm, rfl⟩
    · exact LC.of (x_text_bad (Or.inr hn)) (m_text_bad (Or.inr hn)) h
    · exact LC.of (x_text_neg hr hn) (m_text_neg (le5 hr) hn) (h.find (by decide))
    · obtain ⟨j, hj, rfl⟩ := ix_lt (n := 6) (by decide) hr
      refine LC.of (x_text hj hm) (m_text hj hm) ?_
      refine h.mk (fun k a1 a2 a3 a4 a5 a6 a7 a8 a9 a0 => ?_) (fun i hi => ?_) (fun i hi => ?_) (fun j a1 a2 => ?_) ?_ (fun q hq => ?_) (h.2.2.2.2.2.1.same ?_ ?_ ?_ ?_ ?_ ?_)
      · funext b c; simp [mfill, u3, rfill, a7, a8, a9, a0]
      · funext c; simp [mfill, u3, rfill, show i ≠ 10 + j by omega]
      · funext c; simp [mfill, u3, rfill, show i ≠ 10 + j by omega]
      · simp [mfill, u3, rfill]
      · refine h.1.fr (fun r hr => ?_) (fun r hr => ?_) ?_ ?_
        · funext c; simp [mfill, u3, rfill, show 4 + r ≠ 10 + j by omega]
        · funext c; simp [mfill, u3, rfill, show 4 + r ≠ 10 + j by omega]
        · funext b c; simp [mfill, u3, rfill]
        · funext b c; simp [mfill, u3, rfill]
      · by_cases e : q = j
        · subst e
          refine ⟨⟨m, hm, by simp [mfill, u3, rfill], Or.inr ⟨by simp [mfill, u3, rfill], by simp [mfill, u3, rfill], fun c hc => ?_⟩⟩, fun c hc _ hc2 => ?_⟩
          · simp [mfill, u3, rfill, hc, show c < 60 by omega]
          · have hc3 : c < m := by
              have : nI c < nI m := by simpa [mfill, u3] using hc2
              exact (nI_ltI (by omega) (by omega)).mp this
            have : mfill (u3 (rfill σ (10 + q) m 32) 47 0 q (nI m)) 48 (60 * q) 60 32 30 (10 + q) c = 32 := by simp [mfill, u3, rfill, hc3]
            rw [this]
            exact isB_32
        · refine ⟨(h.2.1 q hq).1.cg ⟨by simp [mfill, u3, rfill, e], by simp [mfill, u3, rfill, e]⟩ (fun c hc => by simp [mfill, u3, rfill, e]) (by simp [mfill, u3, rfill, e]) (fun c hc => ?_), fun c hc h1 h2 => ?_⟩
          · have e2 : ¬ (60 * j ≤ 60 * q + c ∧ 60 * q + c < 60 * j + 60) := by omega
            simp [mfill, u3, rfill, e2]
          · have e3 : mfill (u3 (rfill σ (10 + j) m 32) 47 0 j (nI m)) 48 (60 * j) 60 32 47 0 q = σ 47 0 q := by simp [mfill, u3, rfill, e]
            have e4 : mfill (u3 (rfill σ (10 + j) m 32) 47 0 j (nI m)) 48 (60 * j) 60 32 30 (10 + q) c = σ 30 (10 + q) c := by simp [mfill, u3, rfill, e]
            rw [e3] at h1 h2
            rw [e4]
            exact (h.2.1 q hq).2 c hc h1 h2
      · simp [mfill, u3, rfill]
      · simp [mfill, u3, rfill]
      · funext b c; simp [mfill, u3, rfill]
      · funext b c; simp [mfill, u3, rfill]
      · simp [mfill, u3, rfill]
      · simp [mfill, u3, rfill]
  · exact LC.of (x_text_bad (Or.inl hr)) (m_text_bad (Or.inl (not6 hr))) h
theorem LC_size (h : Rall σ τ) (r : Int32) : LC l 100 171 [aI r] σ τ t := by
  by_cases hr : 0 ≤ r ∧ r < 6
  · obtain ⟨j, hj, rfl⟩ := ix_lt (n := 6) (by decide) hr
    obtain ⟨n, hn, hd1, hc⟩ := (h.2.1 j hj).1
    have hx := x_size (l := l) (σ := σ) (τ := τ) (t := t) hj
    rcases hc with ⟨h0, hs⟩ | ⟨h0, hs, hp⟩
    · simp only [if_pos h0] at hx
      have hm := m_size (l := l) (σ := xfind 1 σ) (τ := τ) (t := t) hj
      have e : (xfind 1 σ) 47 0 j < 0 := by simp [u3, hs]
      simp only [if_pos e] at hm
      exact LC.of hx hm (h.find (by decide))
    · have h01 : ¬ σ 6 (10 + j) 0 = 0 := by rw [h0]; decide
      simp only [if_neg h01] at hx
      have hm := m_size (l := l) (σ := σ) (τ := τ) (t := t) hj
      have e : ¬ σ 47 0 j < 0 := by rw [hs]; exact nI_pos (by omega)
      simp only [if_neg e] at hm
      rw [hs, ← hd1] at hm
      exact LC.of hx hm h
  · exact LC.of (x_size_bad hr) (m_size_bad (not6 hr)) h
theorem LC_put (h : Rall σ τ) (r i v : Int32) : LC l 99 170 [aI r, aI i, aI v] σ τ t := by
  by_cases hr : 0 ≤ r ∧ r < 6
  · obtain ⟨j, hj, rfl⟩ := ix_lt (n := 6) (by decide) hr
    obtain ⟨n, hn, hd1, hc⟩ := (h.2.1 j hj).1
    have hx := x_put (l := l) (τ := τ) (t := t) (i := i) (v := v) hj hd1 hn
    rcases hc with ⟨h0, hs⟩ | ⟨h0, hs, hp⟩
    · simp only [if_pos h0] at hx
      exact LC.of hx (m_put_none hj (by simp [u3, hs])) (h.find (by decide))
    · have h01 : ¬ σ 6 (10 + j) 0 = 0 := by rw [h0]; decide
      simp only [if_neg h01] at hx
      by_cases hi : 0 ≤ i ∧ i < nI n
      · simp only [if_pos hi] at hx
        obtain ⟨k, hk, rfl⟩ := ix_lt (nI_toInt (by omega)) hi
        have hm := m_put (l := l) (σ := u3 σ 30 (10 + j) (nI k).toNatClampNeg v.toInt8.toInt32) (τ := τ) (t := t) (i := nI k) (v := v) hj (by simp [u3, hs]) hn
        simp only [if_pos ((le_pred hn).mpr hi)] at hm
        have hp2 : σ 30 (10 + j) k = σ 48 0 (60 * j + k) := hp k hk
        rw [u3_k _ _ (show 48 ≠ 30 by decide), nI_clamp (n := k) (by omega), ← hp2] at hm
        rw [nI_clamp (n := k) (by omega)] at hx
        refine LC.of hx hm ?_
        refine h.mk (fun k a1 a2 a3 a4 a5 a6 a7 a8 a9 a0 => ?_) (fun i hi => ?_) (fun i hi => ?_) (fun j a1 a2 => ?_) ?_ (fun q hq => ?_) (h.2.2.2.2.2.1.same ?_ ?_ ?_ ?_ ?_ ?_)
        · rw [u3_kk _ _ a8, u3_kk _ _ a0]
        · funext c; simp [u3]
        · funext c; simp [u3, show i ≠ 10 + j by omega]
        · simp [u3]
        · refine h.1.fr (fun r hr => ?_) (fun r hr => ?_) ?_ ?_
          · funext c; simp [u3]
          · funext c; simp [u3, show 4 + r ≠ 10 + j by omega]
          · funext b c; simp [u3]
          · funext b c; simp [u3]
        · by_cases e : q = j
          · subst e
            refine ⟨⟨n, hn, by simpa [u3] using hd1, Or.inr ⟨by simpa [u3] using h0, by simpa [u3] using hs, fun c hc => ?_⟩⟩, fun c hc h1 h2 => ?_⟩
            · by_cases e2 : c = k
              · subst e2; simp [u3]
              · have hp3 : σ 30 (10 + q) c = σ 48 0 (60 * q + c) := hp c hc
                simp [u3, e2, hp3]
            · have e3 : u3 (u3 σ 30 (10 + q) k v.toInt8.toInt32) 48 0 (60 * q + k) v.toInt8.toInt32 47 0 q = σ 47 0 q := by simp [u3]
              rw [e3] at h1 h2
              by_cases e2 : c = k
              · have e4 : u3 (u3 σ 30 (10 + q) k v.toInt8.toInt32) 48 0 (60 * q + k) v.toInt8.toInt32 30 (10 + q) c = v.toInt8.toInt32 := by simp [u3, e2]
                rw [e4]
                exact isB_i2b v
              · have e4 : u3 (u3 σ 30 (10 + q) k v.toInt8.toInt32) 48 0 (60 * q + k) v.toInt8.toInt32 30 (10 + q) c = σ 30 (10 + q) c := by simp [u3, e2]
                rw [e4]
                exact (h.2.1 q hq).2 c hc h1 h2
          · refine ⟨(h.2.1 q hq).1.cg ⟨by simp [u3], by simp [u3]⟩ (fun c hc => by simp [u3, e]) (by simp [u3]) (fun c hc => ?_), fun c hc h1 h2 => ?_⟩
            · simp [u3, show 60 * q + c ≠ 60 * j + k by omega]
            · have e3 : u3 (u3 σ 30 (10 + j) k v.toInt8.toInt32) 48 0 (60 * j + k) v.toInt8.toInt32 47 0 q = σ 47 0 q := by simp [u3]
              have e4 : u3 (u3 σ 30 (10 + j) k v.toInt8.toInt32) 48 0 (60 * j + k) v.toInt8.toInt32 30 (10 + q) c = σ 30 (10 + q) c := by simp [u3, e]
              rw [e3] at h1 h2
              rw [e4]
              exact (h.2.1 q hq).2 c hc h1 h2
        · simp [u3]
        · simp [u3]
        · funext b c; simp [u3]
        · funext b c; simp [u3]
        · simp [u3]
        · simp [u3]
      · simp only [if_neg hi] at hx
        have hm := m_put (l := l) (σ := xfind 2 σ) (τ := τ) (t := t) (i := i) (v := v) hj (by simp [u3, hs]) hn
        simp only [if_neg (fun z => hi ((le_pred hn).mp z))] at hm
        exact LC.of hx hm (h.find (by decide))
  · exact LC.of (x_put_bad hr) (m_put_bad (not6 hr)) h
end L2

/-! CASES OF THE LAW: what is told -/
section L3
variable {l : Launch} {σ σ2 : tI} {τ τ2 : tL} {t : Option (Nat × Nat)}
noncomputable def am_swok (x : Int32) (sl : List (Int32 × Nat)) (d tg : Nat) : Bool := sl.all (fun q => !(decide (x = q.1)) || Nat.beq q.2 tg) && (sl.any (fun q => decide (x = q.1)) || Nat.beq d tg)
theorem am_sw1 {K : Nat → Prop} {x : Int32} {tg : Nat} (k : K tg) : ∀ {sl : List (Int32 × Nat)}, sl.all (fun q => !(decide (x = q.1)) || Nat.beq q.2 tg) = true → am_vs1 K x sl
  | [], _ => trivial
  | (c, g) :: r, h => by
    rw [List.all_cons, Bool.and_eq_true] at h
    refine ⟨fun e => ?_, am_sw1 k h.2⟩
    have h1 := h.1
    simp only [e, decide_true, Bool.not_true, Bool.false_or] at h1
    rw [am_beq h1]
    exact k
theorem am_sw2 {P : Prop} {x : Int32} : ∀ {sl : List (Int32 × Nat)}, (sl.any (fun q => decide (x = q.1)) = true ∨ P) → am_vs2 x P sl
  | [], h => h.resolve_left (by simp)
  | (c, g) :: r, h => fun hn => am_sw2 (by
      rcases h with h | h
      · rw [List.any_cons, Bool.or_eq_true, decide_eq_true_eq] at h
        exact Or.inl (h.resolve_left hn)
      · exact Or.inr h)
/-- a switch over a known number -/
theorem am_sw {K : Nat → Prop} {x : Int32} {sl : List (Int32 × Nat)} {d : Nat} (tg : Nat) (h : am_swok x sl d tg = true) (k : K tg) : am_vsw K x sl d := by
  unfold am_swok at h
  rw [Bool.and_eq_true, Bool.or_eq_true] at h
  refine ⟨am_sw1 k h.1, am_sw2 ?_⟩
  rcases h.2 with h2 | h2
  · exact Or.inl h2
  · exact Or.inr (by rw [am_beq h2]; exact k)
theorem le_pred2 {i : Int32} {n : Nat} (hn : n ≤ 2000) : (0 ≤ i ∧ i ≤ nI n - 1) ↔ (0 ≤ i ∧ i < nI n) := by
  constructor
  · intro h
    have hk : ∃ k, k < n ∧ i = nI k := by
      refine ix_le ?_ h
      cases n with
      | zero => rfl
      | succ n => rw [nI_pred, nI_toInt (by omega)]; rfl
    obtain ⟨k, hk, rfl⟩ := hk
    exact ⟨h.1, nI_lt hk (by omega)⟩
  · intro h
    obtain ⟨k, hk, rfl⟩ := ix_lt (nI_toInt (by omega)) h
    cases n with
    | zero => omega
    | succ n => rw [nI_pred]; exact ⟨h.1, nI_le (by omega) (by omega)⟩
theorem inN {j n : Nat} (hj : j < n) (hn : n ≤ 2000) : ((0 : Int32) ≤ nI j ∧ nI j < nI n) := ⟨nI_pos' (by omega), nI_lt hj (by omega)⟩
theorem leN {x : Int32} {n : Nat} {N M : Int32} (hN : N.toInt = n) (hM : M.toInt + 1 = n) : (0 ≤ x ∧ x ≤ M) ↔ (0 ≤ x ∧ x < N) := by
  rw [i_le, i_le, i_lt]
  constructor
  · rintro ⟨a, b⟩; exact ⟨a, by omega⟩
  · rintro ⟨a, b⟩; exact ⟨a, by omega⟩
theorem sumN_le {f : Nat → Nat} {B : Nat} : ∀ {n : Nat}, (∀ c, c < n → f c ≤ B) → sumN f n ≤ B * n
  | 0, _ => Nat.zero_le _
  | n + 1, h => by
    have h1 := sumN_le (n := n) (fun c hc => h c (by omega))
    have h2 := h n (by omega)
    show sumN f n + f n ≤ B * (n + 1)
    rw [Nat.mul_add]
    omega
theorem Rnet.m_le {T n m lo k : Nat} (h : Rnet σ T n m lo k) : m ≤ 690 := by
  obtain ⟨-, ⟨-, -, hn⟩, h3, -, -, -, -, -, -, -, -, -, P, S, Rp, Kc, -, -, hP, -, -, hS, hm, hc⟩ := h
  have h1 : sumN (fun c => (σ 72 0 c).toNatClampNeg + 1 + Rp c + Kc c) n ≤ 13 * n := by
    refine sumN_le (fun c hcn => ?_)
    obtain ⟨-, ⟨-, -, -, ⟨x, y, hxy, hx, -⟩, -⟩, -⟩ := h3 c hcn
    obtain ⟨g1, g2, -⟩ := hc c hcn
    have e : (σ 72 0 c).toNatClampNeg = x := by rw [hx, nI_clamp (by omega)]
    rw [e] at g1 ⊢
    have g3 : Kc c ≤ 1 := by split at g2 <;> omega
    show x + 1 + Rp c + Kc c ≤ 13
    omega
  omega
theorem x_asked : am_D l 134 [aR 11 0] σ τ (rX t) cX lX (some (aI (σ 11 0 11))) σ τ (rX t) := by
  refine am_D_of am_o134 am_l134 rfl ?_
  refine am_vc_ok am_k134 [] 100 ?_
  exact am_vI am_k134 am_r134 rfl ⟨rfl, rfl, rfl, rfl, rfl, rfl⟩
theorem m_asked : am_D l 247 [aR 12 0] σ τ (rX t) cX lX (some (aI (σ 12 0 2))) σ τ (rX t) := by
  refine am_D_of am_o247 am_l247 rfl ?_
  refine am_vc_ok am_k247 [] 100 ?_
  exact am_vI am_k247 am_r247 rfl ⟨rfl, rfl, rfl, rfl, rfl, rfl⟩
theorem LC_asked (h : Rall σ τ) : LC l 134 247 [] σ τ t := by
  have hm := m_asked (l := l) (σ := σ) (τ := τ) (t := t)
  rw [← h.2.2.2.2.2.1.2.2.1] at hm
  exact LC.of x_asked hm h
theorem x_finding : am_D l 138 [aR 11 0] σ τ (rX t) cX lX (some (aI (σ 11 0 10))) σ τ (rX t) := by
  refine am_D_of am_o138 am_l138 rfl ?_
  refine am_vc_ok am_k138 [] 100 ?_
  exact am_vI am_k138 am_r138 rfl ⟨rfl, rfl, rfl, rfl, rfl, rfl⟩
theorem m_finding : am_D l 252 [aR 12 0] σ τ (rX t) cX lX (some (aI (σ 12 0 0))) σ τ (rX t) := by
  refine am_D_of am_o252 am_l252 rfl ?_
  refine am_vc_ok am_k252 [] 100 ?_
  exact am_vI am_k252 am_r252 rfl ⟨rfl, rfl, rfl, rfl, rfl, rfl⟩
theorem LC_finding (h : Rall σ τ) : LCn l 138 252 [] σ τ t := LCn.of x_finding m_finding h
theorem x_upper : am_D l 135 [aR 11 0] σ τ (rX t) cX lX (some (aL (τ 11 0 12))) σ τ (rX t) := by
  refine am_D_of am_o135 am_l135 rfl ?_
  refine am_vc_ok am_k135 [] 100 ?_
  exact am_vL am_k135 am_r135 rfl ⟨rfl, rfl, rfl, rfl, rfl, rfl⟩
theorem m_upper : am_D l 248 [aR 12 0] σ τ (rX t) cX lX (some (aL (τ 12 0 3))) σ τ (rX t) := by
  refine am_D_of am_o248 am_l248 rfl ?_
  refine am_vc_ok am_k248 [] 100 ?_
  exact am_vL am_k248 am_r248 rfl ⟨rfl, rfl, rfl, rfl, rfl, rfl⟩
theorem LC_upper (h : Rall σ τ) : LC l 135 248 [] σ τ t := by
  have hm := m_upper (l := l) (σ := σ) (τ := τ) (t := t)
  rw [← h.2.2.2.2.2.1.2.2.2.1] at hm
  exact LC.of x_upper hm h
theorem x_lower : am_D l 136 [aR 11 0] σ τ (rX t) cX lX (some (aL (τ 11 0 13))) σ τ (rX t) := by
  refine am_D_of am_o136 am_l136 rfl ?_
  refine am_vc_ok am_k136 [] 100 ?_
  exact am_vL am_k136 am_r136 rfl ⟨rfl, rfl, rfl, rfl, rfl, rfl⟩
theorem m_lower : am_D l 249 [aR 12 0] σ τ (rX t) cX lX (some (aL (τ 12 0 4))) σ τ (rX t) := by
  refine am_D_of am_o249 am_l249 rfl ?_
  refine am_vc_ok am_k249 [] 100 ?_
  exact am_vL am_k249 am_r249 rfl ⟨rfl, rfl, rfl, rfl, rfl, rfl⟩
theorem LC_lower (h : Rall σ τ) : LC l 136 249 [] σ τ t := by
  have hm := m_lower (l := l) (σ := σ) (τ := τ) (t := t)
  rw [← h.2.2.2.2.2.1.2.2.2.2] at hm
  exact LC.of x_lower hm h
theorem x_findings_bad {f : Int32} (hf : ¬ (1 ≤ f ∧ f ≤ 5)) : am_D l 139 [aR 11 0, aI f] σ τ (rX t) cX lX (some (aI (-1))) σ τ (rX t) := by
  refine am_D_of am_o139 am_l139 rfl ?_
  refine am_vc_ok am_k139 [] 100 ?_
  refine And.intro (fun h1 => ?_) (fun h1 => ?_)
  · exact am_vI am_k139 am_r139 rfl ⟨rfl, rfl, rfl, rfl, rfl, rfl⟩
  refine And.intro (fun h2 => ?_) (fun h2 => ?_)
  · exact am_vI am_k139 am_r139 rfl ⟨rfl, rfl, rfl, rfl, rfl, rfl⟩
  · exact absurd ⟨Int32.not_lt.mp h1, Int32.not_lt.mp h2⟩ hf
theorem x_findings {f : Nat} (h1 : 1 ≤ f) (h2 : f < 6) : am_D l 139 [aR 11 0, aI (nI f)] σ τ (rX t) cX lX (some (aI (σ 42 0 f))) σ τ (rX t) := by
  refine am_D_of am_o139 am_l139 rfl ?_
  refine am_vc_ok am_k139 [] 100 ?_
  refine And.intro (fun g1 => absurd g1 (nI_nlt (b := 1) h1 (by omega))) (fun _ => ?_)
  refine And.intro (fun g1 => absurd g1 (nI_nlt (a := 5) (by omega) (by decide))) (fun _ => ?_)
  refine And.intro (vp_in_nI (N := 6) h2 (by decide)) ?_
  rw [nI_clamp (by omega)]
  exact am_vI am_k139 am_r139 rfl ⟨rfl, rfl, rfl, rfl, rfl, rfl⟩
theorem m_findings_bad {f : Int32} (hf : ¬ (1 ≤ f ∧ f ≤ 5)) : am_D l 253 [aR 12 0, aI f] σ τ (rX t) cX lX (some (aI (-1))) σ τ (rX t) := by
  refine am_D_of am_o253 am_l253 rfl ?_
  refine am_vc_ok am_k253 [] 100 ?_
  refine am_vS am_k253 am_h253 rfl rfl rfl rfl (m_in) ?_
  refine am_vc_ok am_k253 [] 100 ?_
  refine And.intro (fun h => ?_) (fun h => ?_)
  · exact am_vI am_k253 am_r253 rfl ⟨rfl, rfl, rfl, rfl, rfl, rfl⟩
  · exact absurd (bI_1.mp h) hf
theorem m_findings {f : Nat} (h1 : 1 ≤ f) (h2 : f < 6) : am_D l 253 [aR 12 0, aI (nI f)] σ τ (rX t) cX lX (some (aI (σ 43 0 f))) σ τ (rX t) := by
  refine am_D_of am_o253 am_l253 rfl ?_
  refine am_vc_ok am_k253 [] 100 ?_
  refine am_vS am_k253 am_h253 rfl rfl rfl rfl (m_in) ?_
  refine am_vc_ok am_k253 [] 100 ?_
  refine And.intro (fun h => ?_) (fun h => ?_)
  · exact absurd ⟨nI_le (a := 1) h1 (by omega), nI_le (b := 5) (by omega) (by decide)⟩ (bI_0.mp h)
  refine And.intro (vp_in_nI (N := 6) h2 (by decide)) ?_
  rw [nI_clamp (by omega)]
  exact am_vI am_k253 am_r253 rfl ⟨rfl, rfl, rfl, rfl, rfl, rfl⟩
theorem LC_findings (h : Rall σ τ) (f : Int32) : LCn l 139 253 [aI f] σ τ t := by
  by_cases hf : 1 ≤ f ∧ f ≤ 5
  · obtain ⟨k, hk, rfl⟩ := ix_le (n := 6) (N := 5) (by decide) ⟨Int32.le_trans (by decide) hf.1, hf.2⟩
    have h1 : 1 ≤ k := (nI_leI (a := 1) (by decide) (by omega)).mp hf.1
    exact LCn.of (x_findings h1 hk) (m_findings h1 hk) h
  · exact LCn.of (x_findings_bad hf) (m_findings_bad hf) h
theorem x_names {w : Nat} (hw : w < 3) : am_D l 107 [aR 11 0, aI (nI w)] σ τ (rX t) cX lX (some (aI (σ 4 0 (2 + w)))) σ τ (rX t) := by
  refine am_D_of am_o107 am_l107 rfl ?_
  refine am_vc_ok am_k107 [] 100 ?_
  match w, hw with
  | 0, _ =>
    refine am_sw 28 (by decide +kernel) ?_
    exact am_vI am_k107 am_r107 rfl ⟨rfl, rfl, rfl, rfl, rfl, rfl⟩
  | 1, _ =>
    refine am_sw 36 (by decide +kernel) ?_
    exact am_vI am_k107 am_r107 rfl ⟨rfl, rfl, rfl, rfl, rfl, rfl⟩
  | 2, _ =>
    refine am_sw 44 (by decide +kernel) ?_
    exact am_vI am_k107 am_r107 rfl ⟨rfl, rfl, rfl, rfl, rfl, rfl⟩
theorem x_names_bad {w : Int32} (hw : ¬ (0 ≤ w ∧ w ≤ 2)) : am_D l 107 [aR 11 0, aI w] σ τ (rX t) cX lX (some (aI (-1))) σ τ (rX t) := by
  refine am_D_of am_o107 am_l107 rfl ?_
  refine am_vc_ok am_k107 [] 100 ?_
  refine And.intro ⟨fun e => absurd (by rw [e]; decide) hw, fun e => absurd (by rw [e]; decide) hw, fun e => absurd (by rw [e]; decide) hw, trivial⟩ (fun _ _ _ => ?_)
  exact am_vI am_k107 am_r107 rfl ⟨rfl, rfl, rfl, rfl, rfl, rfl⟩
theorem m_names {w : Nat} (hw : w < 3) : am_D l 192 [aR 12 0, aI (nI w)] σ τ (rX t) cX lX (some (aI (σ 55 0 w))) σ τ (rX t) := by
  refine am_D_of am_o192 am_l192 rfl ?_
  refine am_vc_ok am_k192 [] 100 ?_
  refine am_vS am_k192 am_h192 rfl rfl rfl rfl (m_in) ?_
  refine am_vc_ok am_k192 [] 100 ?_
  refine And.intro (fun h => ?_) (fun h => ?_)
  · exact absurd ⟨nI_pos' (by omega), nI_le (b := 2) (by omega) (by decide)⟩ (bI_0.mp h)
  refine And.intro (vp_in_nI (N := 3) hw (by decide)) ?_
  rw [nI_clamp (by omega)]
  exact am_vI am_k192 am_r192 rfl ⟨rfl, rfl, rfl, rfl, rfl, rfl⟩
theorem m_names_bad {w : Int32} (hw : ¬ (0 ≤ w ∧ w ≤ 2)) : am_D l 192 [aR 12 0, aI w] σ τ (rX t) cX lX (some (aI (-1))) σ τ (rX t) := by
  refine am_D_of am_o192 am_l192 rfl ?_
  refine am_vc_ok am_k192 [] 100 ?_
  refine am_vS am_k192 am_h192 rfl rfl rfl rfl (m_in) ?_
  refine am_vc_ok am_k192 [] 100 ?_
  refine And.intro (fun h => ?_) (fun h => ?_)
  · exact am_vI am_k192 am_r192 rfl ⟨rfl, rfl, rfl, rfl, rfl, rfl⟩
  · exact absurd (bI_1.mp h) hw
theorem LC_names (h : Rall σ τ) (w : Int32) : LC l 107 192 [aI w] σ τ t := by
  by_cases hw : 0 ≤ w ∧ w ≤ 2
  · obtain ⟨k, hk, rfl⟩ := ix_le (n := 3) (by decide) hw
    have hm := m_names (l := l) (σ := σ) (τ := τ) (t := t) hk
    have e : σ 55 0 k = σ 4 0 (2 + k) := by
      obtain ⟨e0, e1, e2, -⟩ := h.2.2.2.1
      rcases (show k = 0 ∨ k = 1 ∨ k = 2 by omega) with rfl | rfl | rfl
      · exact e0.symm
      · exact e1.symm
      · exact e2.symm
    rw [e] at hm
    exact LC.of (x_names hk) hm h
  · exact LC.of (x_names_bad hw) (m_names_bad hw) h
-- calls: facts
def cfJ (w : Nat) : Nat := if w = 0 then 7 else if w = 1 then 9 else if w = 2 then 4 else if w = 3 then 14 else if w = 4 then 5 else if w = 5 then 8 else 12
def ctK (w : Nat) : Nat := if w = 0 then 71 else if w = 1 then 72 else if w = 2 then 70 else if w = 3 then 73 else if w = 4 then 74 else if w = 5 then 75 else 77
theorem x_cfact {c w : Nat} (hw : w < 7) : am_D l 1 [aR 0 c, aI (nI w)] σ τ (rX t) cX lX (some (aI (σ 0 c (cfJ w)))) σ τ (rX t) := by
  refine am_D_of am_o1 am_l1 rfl ?_
  refine am_vc_ok am_k1 [] 100 ?_
  match w, hw with
  | 0, _ =>
    refine am_sw 40 (by decide +kernel) ?_
    exact am_vI am_k1 am_r1 rfl ⟨rfl, rfl, rfl, rfl, rfl, rfl⟩
  | 1, _ =>
    refine am_sw 45 (by decide +kernel) ?_
    exact am_vI am_k1 am_r1 rfl ⟨rfl, rfl, rfl, rfl, rfl, rfl⟩
  | 2, _ =>
    refine am_sw 50 (by decide +kernel) ?_
    exact am_vI am_k1 am_r1 rfl ⟨rfl, rfl, rfl, rfl, rfl, rfl⟩
  | 3, _ =>
    refine am_sw 55 (by decide +kernel) ?_
    exact am_vI am_k1 am_r1 rfl ⟨rfl, rfl, rfl, rfl, rfl, rfl⟩
  | 4, _ =>
    refine am_sw 60 (by decide +kernel) ?_
    exact am_vI am_k1 am_r1 rfl ⟨rfl, rfl, rfl, rfl, rfl, rfl⟩
  | 5, _ =>
    refine am_sw 65 (by decide +kernel) ?_
    exact am_vI am_k1 am_r1 rfl ⟨rfl, rfl, rfl, rfl, rfl, rfl⟩
  | 6, _ =>
    refine am_sw 70 (by decide +kernel) ?_
    exact am_vI am_k1 am_r1 rfl ⟨rfl, rfl, rfl, rfl, rfl, rfl⟩
theorem m_callTells {c w : Nat} (hc : c < 30) (hw : w < 7) : am_D l 233 [aR 12 0, aI (nI c), aI (nI w)] σ τ (rX t) cX lX (some (aI (σ (ctK w) 0 c))) σ τ (rX t) := by
  refine am_D_of am_o233 am_l233 rfl ?_
  refine am_vc_ok am_k233 [] 100 ?_
  match w, hw with
  | 0, _ =>
    refine am_sw 40 (by decide +kernel) ?_
    refine And.intro (vp_in_nI (N := 30) hc (by decide)) ?_
    rw [nI_clamp (by omega)]
    exact am_vI am_k233 am_r233 rfl ⟨rfl, rfl, rfl, rfl, rfl, rfl⟩
  | 1, _ =>
    refine am_sw 47 (by decide +kernel) ?_
    refine And.intro (vp_in_nI (N := 30) hc (by decide)) ?_
    rw [nI_clamp (by omega)]
    exact am_vI am_k233 am_r233 rfl ⟨rfl, rfl, rfl, rfl, rfl, rfl⟩
  | 2, _ =>
    refine am_sw 54 (by decide +kernel) ?_
    refine And.intro (vp_in_nI (N := 30) hc (by decide)) ?_
    rw [nI_clamp (by omega)]
    exact am_vI am_k233 am_r233 rfl ⟨rfl, rfl, rfl, rfl, rfl, rfl⟩
  | 3, _ =>
    refine am_sw 61 (by decide +kernel) ?_
    refine And.intro (vp_in_nI (N := 30) hc (by decide)) ?_
    rw [nI_clamp (by omega)]
    exact am_vI am_k233 am_r233 rfl ⟨rfl, rfl, rfl, rfl, rfl, rfl⟩
  | 4, _ =>
    refine am_sw 68 (by decide +kernel) ?_
    refine And.intro (vp_in_nI (N := 30) hc (by decide)) ?_
    rw [nI_clamp (by omega)]
    exact am_vI am_k233 am_r233 rfl ⟨rfl, rfl, rfl, rfl, rfl, rfl⟩
  | 5, _ =>
    refine am_sw 75 (by decide +kernel) ?_
    refine And.intro (vp_in_nI (N := 30) hc (by decide)) ?_
    rw [nI_clamp (by omega)]
    exact am_vI am_k233 am_r233 rfl ⟨rfl, rfl, rfl, rfl, rfl, rfl⟩
  | 6, _ =>
    refine am_sw 82 (by decide +kernel) ?_
    refine And.intro (vp_in_nI (N := 30) hc (by decide)) ?_
    rw [nI_clamp (by omega)]
    exact am_vI am_k233 am_r233 rfl ⟨rfl, rfl, rfl, rfl, rfl, rfl⟩
theorem Rcall.tells {c w : Nat} (h : Rcall σ c) (hw : w < 7) : σ 0 c (cfJ w) = σ (ctK w) 0 c := by
  obtain ⟨h0, h1, h2, h3, h4, h5, h6, h7, h8, h9, h10, h12, h14, -⟩ := h
  match w, hw with
  | 0, _ => exact h7
  | 1, _ => exact h9
  | 2, _ => exact h4
  | 3, _ => exact h14
  | 4, _ => exact h5
  | 5, _ => exact h8
  | 6, _ => exact h12
theorem x_told_bad {c w : Int32} (h : ¬ (0 ≤ c ∧ c < σ 3 0 5) ∨ ¬ (0 ≤ w ∧ w < 7)) : am_D l 124 [aR 11 0, aI c, aI w] σ τ (rX t) cX lX (some (aI (-1))) σ τ (rX t) := by
  refine am_D_of am_o124 am_l124 rfl ?_
  refine am_vc_ok am_k124 [] 100 ?_
  refine am_vS am_k124 am_h124 rfl rfl rfl rfl (x_within) ?_
  refine am_vc_ok am_k124 [] 100 ?_
  refine And.intro (fun h1 => ?_) (fun h1 => ?_)
  · exact am_vI am_k124 am_r124 rfl ⟨rfl, rfl, rfl, rfl, rfl, rfl⟩
  refine am_vS am_k124 am_h124 rfl rfl rfl rfl (x_within) ?_
  refine am_vc_ok am_k124 [] 100 ?_
  refine And.intro (fun h2 => ?_) (fun h2 => ?_)
  · exact am_vI am_k124 am_r124 rfl ⟨rfl, rfl, rfl, rfl, rfl, rfl⟩
  · rcases h with h | h
    · exact absurd (bI_1.mp h1) h
    · exact absurd (bI_1.mp h2) h
theorem x_told {c w n : Nat} (hn : σ 3 0 5 = nI n) (hn2 : n ≤ 30) (hc : c < n) (hw : w < 7) : am_D l 124 [aR 11 0, aI (nI c), aI (nI w)] σ τ (rX t) cX lX (some (aI 1)) (u3 σ 11 0 11 (σ 0 c (cfJ w))) τ (rX t) := by
  refine am_D_of am_o124 am_l124 rfl ?_
  refine am_vc_ok am_k124 [] 100 ?_
  refine am_vS am_k124 am_h124 rfl rfl rfl rfl (x_within) ?_
  refine am_vc_ok am_k124 [] 100 ?_
  refine And.intro (fun h1 => ?_) (fun h1 => ?_)
  · exact absurd (by rw [hn]; exact inN hc (by omega)) (bI_0.mp h1)
  refine am_vS am_k124 am_h124 rfl rfl rfl rfl (x_within) ?_
  refine am_vc_ok am_k124 [] 100 ?_
  refine And.intro (fun h2 => ?_) (fun h2 => ?_)
  · exact absurd (inN (n := 7) hw (by omega)) (bI_0.mp h2)
  refine And.intro (vp_in_nI (N := 30) (by omega) (by decide)) ?_
  rw [nI_clamp (by omega)]
  refine am_vO am_k124 am_h124 rfl rfl rfl rfl (x_cfact hw) ?_
  refine am_vc_ok am_k124 [] 100 ?_
  exact am_vI am_k124 am_r124 rfl ⟨rfl, rfl, rfl, rfl, rfl, rfl⟩
theorem m_told_bad {c w : Int32} (h : ¬ (0 ≤ c ∧ c ≤ σ 12 0 34 - 1) ∨ ¬ (0 ≤ w ∧ w ≤ 6)) : am_D l 234 [aR 12 0, aI c, aI w] σ τ (rX t) cX lX (some (aI (-1))) σ τ (rX t) := by
  refine am_D_of am_o234 am_l234 rfl ?_
  refine am_vc_ok am_k234 [] 100 ?_
  refine am_vO am_k234 am_h234 rfl rfl rfl rfl (m_isCall) ?_
  refine am_vc_ok am_k234 [] 100 ?_
  refine And.intro (fun h1 => ?_) (fun h1 => ?_)
  · exact am_vI am_k234 am_r234 rfl ⟨rfl, rfl, rfl, rfl, rfl, rfl⟩
  refine am_vS am_k234 am_h234 rfl rfl rfl rfl (m_in) ?_
  refine am_vc_ok am_k234 [] 100 ?_
  refine And.intro (fun h2 => ?_) (fun h2 => ?_)
  · exact am_vI am_k234 am_r234 rfl ⟨rfl, rfl, rfl, rfl, rfl, rfl⟩
  · rcases h with h | h
    · exact absurd (bI_1.mp h1) h
    · exact absurd (bI_1.mp h2) h
theorem m_told {c w n : Nat} (hn : σ 12 0 34 = nI n) (hn2 : n ≤ 30) (hc : c < n) (hw : w < 7) : am_D l 234 [aR 12 0, aI (nI c), aI (nI w)] σ τ (rX t) cX lX (some (aI 1)) (u3 σ 12 0 2 (σ (ctK w) 0 c)) τ (rX t) := by
  refine am_D_of am_o234 am_l234 rfl ?_
  refine am_vc_ok am_k234 [] 100 ?_
  refine am_vO am_k234 am_h234 rfl rfl rfl rfl (m_isCall) ?_
  refine am_vc_ok am_k234 [] 100 ?_
  refine And.intro (fun h1 => ?_) (fun h1 => ?_)
  · exact absurd (by rw [hn]; exact (le_pred2 (by omega)).mpr (inN hc (by omega))) (bI_0.mp h1)
  refine am_vS am_k234 am_h234 rfl rfl rfl rfl (m_in) ?_
  refine am_vc_ok am_k234 [] 100 ?_
  refine And.intro (fun h2 => ?_) (fun h2 => ?_)
  · exact absurd ((leN (n := 7) (N := 7) (by decide) (by decide)).mpr (inN (n := 7) hw (by omega))) (bI_0.mp h2)
  refine am_vO am_k234 am_h234 rfl rfl rfl rfl (m_callTells (by omega) hw) ?_
  refine am_vc_ok am_k234 [] 100 ?_
  refine am_vO am_k234 am_h234 rfl rfl rfl rfl (m_ask) ?_
  refine am_vc_ok am_k234 [] 100 ?_
  exact am_vI am_k234 am_r234 rfl ⟨rfl, rfl, rfl, rfl, rfl, rfl⟩
theorem ctK_ne {w : Nat} : ctK w ≠ 11 := by unfold ctK; repeat (split <;> try decide)
theorem LC_told (h : Rall σ τ) (c w : Int32) : LC l 124 234 [aI c, aI w] σ τ t := by
  have hR := h
  obtain ⟨-, -, -, -, -, -, T, n, m, lo, k, hN⟩ := h
  have hn := hN.2.1
  by_cases hc : 0 ≤ c ∧ c < nI n
  · by_cases hw : 0 ≤ w ∧ w < 7
    · obtain ⟨c, hc1, rfl⟩ := ix_lt (nI_toInt (by omega)) hc
      obtain ⟨w, hw1, rfl⟩ := ix_lt (n := 7) (by decide) hw
      have hx := x_told (l := l) (τ := τ) (t := t) hn.1 hn.2.2 hc1 hw1
      have hm := m_told (l := l) (σ := u3 σ 11 0 11 (σ 0 c (cfJ w))) (τ := τ) (t := t) (by simp [u3, hn.2.1]) hn.2.2 hc1 hw1
      rw [u3_k _ _ ctK_ne, ← (hN.2.2.1 c hc1).1.tells hw1] at hm
      exact LC.of hx hm hR.ask
    · exact LC.of (x_told_bad (Or.inr hw)) (m_told_bad (Or.inr (fun z => hw ((leN (n := 7) (N := 7) (by decide) (by decide)).mp z)))) hR
  · exact LC.of (x_told_bad (Or.inl (by rw [hn.1]; exact hc))) (m_told_bad (Or.inl (by rw [hn.2.1]; exact fun z => hc ((le_pred2 (by omega)).mp z)))) hR
theorem x_where_bad {c w : Int32} (h : ¬ (0 ≤ c ∧ c < σ 3 0 5) ∨ ¬ (0 ≤ w ∧ w < 4)) : am_D l 125 [aR 11 0, aI c, aI w] σ τ (rX t) cX lX (some (aI (-1))) σ τ (rX t) := by
  refine am_D_of am_o125 am_l125 rfl ?_
  refine am_vc_ok am_k125 [] 100 ?_
  refine am_vS am_k125 am_h125 rfl rfl rfl rfl (x_within) ?_
  refine am_vc_ok am_k125 [] 100 ?_
  refine And.intro (fun h1 => ?_) (fun h1 => ?_)
  · exact am_vI am_k125 am_r125 rfl ⟨rfl, rfl, rfl, rfl, rfl, rfl⟩
  refine am_vS am_k125 am_h125 rfl rfl rfl rfl (x_within) ?_
  refine am_vc_ok am_k125 [] 100 ?_
  refine And.intro (fun h2 => ?_) (fun h2 => ?_)
  · exact am_vI am_k125 am_r125 rfl ⟨rfl, rfl, rfl, rfl, rfl, rfl⟩
  · rcases h with h | h
    · exact absurd (bI_1.mp h1) h
    · exact absurd (bI_1.mp h2) h
theorem x_where {c w n : Nat} (hn : σ 3 0 5 = nI n) (hn2 : n ≤ 30) (hc : c < n) (hw : w < 4) : am_D l 125 [aR 11 0, aI (nI c), aI (nI w)] σ τ (rX t) cX lX (some (aI (σ 13 c w))) σ τ (rX t) := by
  refine am_D_of am_o125 am_l125 rfl ?_
  refine am_vc_ok am_k125 [] 100 ?_
  refine am_vS am_k125 am_h125 rfl rfl rfl rfl (x_within) ?_
  refine am_vc_ok am_k125 [] 100 ?_
  refine And.intro (fun h1 => ?_) (fun h1 => ?_)
  · exact absurd (by rw [hn]; exact inN hc (by omega)) (bI_0.mp h1)
  refine am_vS am_k125 am_h125 rfl rfl rfl rfl (x_within) ?_
  refine am_vc_ok am_k125 [] 100 ?_
  refine And.intro (fun h2 => ?_) (fun h2 => ?_)
  · exact absurd (inN (n := 4) hw (by omega)) (bI_0.mp h2)
  refine And.intro (vp_in_nI (N := 30) (by omega) (by decide)) ?_
  rw [nI_clamp (n := c) (by omega)]
  refine And.intro (vp_in_nI (N := 4) hw (by decide)) ?_
  rw [nI_clamp (n := w) (by omega)]
  exact am_vI am_k125 am_r125 rfl ⟨rfl, rfl, rfl, rfl, rfl, rfl⟩
theorem m_where_bad {c w : Int32} (h : ¬ (0 ≤ c ∧ c ≤ σ 12 0 34 - 1) ∨ ¬ (0 ≤ w ∧ w ≤ 3)) : am_D l 235 [aR 12 0, aI c, aI w] σ τ (rX t) cX lX (some (aI (-1))) σ τ (rX t) := by
  refine am_D_of am_o235 am_l235 rfl ?_
  refine am_vc_ok am_k235 [] 100 ?_
  refine am_vO am_k235 am_h235 rfl rfl rfl rfl (m_isCall) ?_
  refine am_vc_ok am_k235 [] 100 ?_
  refine And.intro (fun h1 => ?_) (fun h1 => ?_)
  · exact am_vI am_k235 am_r235 rfl ⟨rfl, rfl, rfl, rfl, rfl, rfl⟩
  refine am_vS am_k235 am_h235 rfl rfl rfl rfl (m_in) ?_
  refine am_vc_ok am_k235 [] 100 ?_
  refine And.intro (fun h2 => ?_) (fun h2 => ?_)
  · exact am_vI am_k235 am_r235 rfl ⟨rfl, rfl, rfl, rfl, rfl, rfl⟩
  · rcases h with h | h
    · exact absurd (bI_1.mp h1) h
    · exact absurd (bI_1.mp h2) h
theorem n4 (j k : Nat) : (4 : Int32) * nI j + nI k = nI (4 * j + k) := by
  rw [show (4 : Int32) = nI 4 from rfl, pk_mul, nI_add]
theorem m_where {c w n : Nat} (hn : σ 12 0 34 = nI n) (hn2 : n ≤ 30) (hc : c < n) (hw : w < 4) : am_D l 235 [aR 12 0, aI (nI c), aI (nI w)] σ τ (rX t) cX lX (some (aI (σ 80 0 (4 * c + w)))) σ τ (rX t) := by
  refine am_D_of am_o235 am_l235 rfl ?_
  refine am_vc_ok am_k235 [] 100 ?_
  refine am_vO am_k235 am_h235 rfl rfl rfl rfl (m_isCall) ?_
  refine am_vc_ok am_k235 [] 100 ?_
  refine And.intro (fun h1 => ?_) (fun h1 => ?_)
  · exact absurd (by rw [hn]; exact (le_pred2 (by omega)).mpr (inN hc (by omega))) (bI_0.mp h1)
  refine am_vS am_k235 am_h235 rfl rfl rfl rfl (m_in) ?_
  refine am_vc_ok am_k235 [] 100 ?_
  refine And.intro (fun h2 => ?_) (fun h2 => ?_)
  · exact absurd ((leN (n := 4) (N := 4) (by decide) (by decide)).mpr (inN (n := 4) hw (by omega))) (bI_0.mp h2)
  refine And.intro (by rw [n4]; exact vp_in_nI (N := 120) (by omega) (by decide)) ?_
  rw [n4, nI_clamp (by omega)]
  exact am_vI am_k235 am_r235 rfl ⟨rfl, rfl, rfl, rfl, rfl, rfl⟩
theorem Rcall.sh {c j : Nat} (h : Rcall σ c) (hj : j < 4) : σ 13 c j = σ 80 0 (4 * c + j) := h.2.2.2.2.2.2.2.2.2.2.2.2.2.2.2.2.2.2 j hj
theorem LC_where (h : Rall σ τ) (c w : Int32) : LC l 125 235 [aI c, aI w] σ τ t := by
  have hR := h
  obtain ⟨-, -, -, -, -, -, T, n, m, lo, k, hN⟩ := h
  have hn := hN.2.1
  by_cases hc : 0 ≤ c ∧ c < nI n
  · by_cases hw : 0 ≤ w ∧ w < 4
    · obtain ⟨c, hc1, rfl⟩ := ix_lt (nI_toInt (by omega)) hc
      obtain ⟨w, hw1, rfl⟩ := ix_lt (n := 4) (by decide) hw
      have hm := m_where (l := l) (τ := τ) (t := t) hn.2.1 hn.2.2 hc1 hw1
      rw [← (hN.2.2.1 c hc1).1.sh hw1] at hm
      exact LC.of (x_where hn.1 hn.2.2 hc1 hw1) hm hR
    · exact LC.of (x_where_bad (Or.inr hw)) (m_where_bad (Or.inr (fun z => hw ((leN (n := 4) (N := 4) (by decide) (by decide)).mp z)))) hR
  · exact LC.of (x_where_bad (Or.inl (by rw [hn.1]; exact hc))) (m_where_bad (Or.inl (by rw [hn.2.1]; exact fun z => hc ((le_pred2 (by omega)).mp z)))) hR
end L3

/-! CASES OF THE LAW: stream, frame, mark, queue, kept -/
section L4
variable {l : Launch} {σ σ2 : tI} {τ τ2 : tL} {t : Option (Nat × Nat)}
def sfJ (w : Nat) : Nat := 16 + w
def stK (w : Nat) : Nat := 81 + w
theorem x_streamFact {c w : Nat} (hw : w < 3) : am_D l 2 [aR 0 c, aI (nI w)] σ τ (rX t) cX lX (some (aI (σ 0 c (16 + w)))) σ τ (rX t) := by
  refine am_D_of am_o2 am_l2 rfl ?_
  refine am_vc_ok am_k2 [] 100 ?_
  match w, hw with
  | 0, _ =>
    refine am_sw 28 (by decide +kernel) ?_
    exact am_vI am_k2 am_r2 rfl ⟨rfl, rfl, rfl, rfl, rfl, rfl⟩
  | 1, _ =>
    refine am_sw 33 (by decide +kernel) ?_
    exact am_vI am_k2 am_r2 rfl ⟨rfl, rfl, rfl, rfl, rfl, rfl⟩
  | 2, _ =>
    refine am_sw 38 (by decide +kernel) ?_
    exact am_vI am_k2 am_r2 rfl ⟨rfl, rfl, rfl, rfl, rfl, rfl⟩
theorem m_streamTells {c w : Nat} (hc : c < 30) (hw : w < 3) : am_D l 244 [aR 12 0, aI (nI c), aI (nI w)] σ τ (rX t) cX lX (some (aI (σ (81 + w) 0 c))) σ τ (rX t) := by
  refine am_D_of am_o244 am_l244 rfl ?_
  refine am_vc_ok am_k244 [] 100 ?_
  match w, hw with
  | 0, _ =>
    refine And.intro (fun _ => ?_) (fun h => absurd rfl h)
    refine And.intro (vp_in_nI (N := 30) hc (by decide)) ?_
    rw [nI_clamp (by omega)]
    exact am_vI am_k244 am_r244 rfl ⟨rfl, rfl, rfl, rfl, rfl, rfl⟩
  | 1, _ =>
    refine And.intro (fun h => absurd h (by decide)) (fun _ => ?_)
    refine And.intro (fun _ => ?_) (fun h => absurd rfl h)
    refine And.intro (vp_in_nI (N := 30) hc (by decide)) ?_
    rw [nI_clamp (by omega)]
    exact am_vI am_k244 am_r244 rfl ⟨rfl, rfl, rfl, rfl, rfl, rfl⟩
  | 2, _ =>
    refine And.intro (fun h => absurd h (by decide)) (fun _ => ?_)
    refine And.intro (fun h => absurd h (by decide)) (fun _ => ?_)
    refine And.intro (vp_in_nI (N := 30) hc (by decide)) ?_
    rw [nI_clamp (by omega)]
    exact am_vI am_k244 am_r244 rfl ⟨rfl, rfl, rfl, rfl, rfl, rfl⟩
theorem x_stream_bad {c w : Int32} (h : ¬ (0 ≤ c ∧ c < σ 3 0 5) ∨ ¬ (0 ≤ w ∧ w < 3)) : am_D l 132 [aR 11 0, aI c, aI w] σ τ (rX t) cX lX (some (aI (-1))) σ τ (rX t) := by
  refine am_D_of am_o132 am_l132 rfl ?_
  refine am_vc_ok am_k132 [] 100 ?_
  refine am_vS am_k132 am_h132 rfl rfl rfl rfl (x_within) ?_
  refine am_vc_ok am_k132 [] 100 ?_
  refine And.intro (fun h1 => ?_) (fun h1 => ?_)
  · exact am_vI am_k132 am_r132 rfl ⟨rfl, rfl, rfl, rfl, rfl, rfl⟩
  refine am_vS am_k132 am_h132 rfl rfl rfl rfl (x_within) ?_
  refine am_vc_ok am_k132 [] 100 ?_
  refine And.intro (fun h2 => ?_) (fun h2 => ?_)
  · exact am_vI am_k132 am_r132 rfl ⟨rfl, rfl, rfl, rfl, rfl, rfl⟩
  · rcases h with h | h
    · exact absurd (bI_1.mp h1) h
    · exact absurd (bI_1.mp h2) h
theorem x_stream {c w n : Nat} (hn : σ 3 0 5 = nI n) (hn2 : n ≤ 30) (hc : c < n) (hw : w < 3) : am_D l 132 [aR 11 0, aI (nI c), aI (nI w)] σ τ (rX t) cX lX (some (aI (σ 0 c (16 + w)))) σ τ (rX t) := by
  refine am_D_of am_o132 am_l132 rfl ?_
  refine am_vc_ok am_k132 [] 100 ?_
  refine am_vS am_k132 am_h132 rfl rfl rfl rfl (x_within) ?_
  refine am_vc_ok am_k132 [] 100 ?_
  refine And.intro (fun h1 => ?_) (fun h1 => ?_)
  · exact absurd (by rw [hn]; exact inN hc (by omega)) (bI_0.mp h1)
  refine am_vS am_k132 am_h132 rfl rfl rfl rfl (x_within) ?_
  refine am_vc_ok am_k132 [] 100 ?_
  refine And.intro (fun h2 => ?_) (fun h2 => ?_)
  · exact absurd (inN (n := 3) hw (by omega)) (bI_0.mp h2)
  refine And.intro (vp_in_nI (N := 30) (by omega) (by decide)) ?_
  rw [nI_clamp (n := c) (by omega)]
  refine am_vO am_k132 am_h132 rfl rfl rfl rfl (x_streamFact hw) ?_
  refine am_vc_ok am_k132 [] 100 ?_
  exact am_vI am_k132 am_r132 rfl ⟨rfl, rfl, rfl, rfl, rfl, rfl⟩
theorem m_stream_bad {c w : Int32} (h : ¬ (0 ≤ c ∧ c ≤ σ 12 0 34 - 1) ∨ ¬ (0 ≤ w ∧ w ≤ 2)) : am_D l 245 [aR 12 0, aI c, aI w] σ τ (rX t) cX lX (some (aI (-1))) σ τ (rX t) := by
  refine am_D_of am_o245 am_l245 rfl ?_
  refine am_vc_ok am_k245 [] 100 ?_
  refine am_vO am_k245 am_h245 rfl rfl rfl rfl (m_isCall) ?_
  refine am_vc_ok am_k245 [] 100 ?_
  refine And.intro (fun h1 => ?_) (fun h1 => ?_)
  · exact am_vI am_k245 am_r245 rfl ⟨rfl, rfl, rfl, rfl, rfl, rfl⟩
  refine am_vS am_k245 am_h245 rfl rfl rfl rfl (m_in) ?_
  refine am_vc_ok am_k245 [] 100 ?_
  refine And.intro (fun h2 => ?_) (fun h2 => ?_)
  · exact am_vI am_k245 am_r245 rfl ⟨rfl, rfl, rfl, rfl, rfl, rfl⟩
  · rcases h with h | h
    · exact absurd (bI_1.mp h1) h
    · exact absurd (bI_1.mp h2) h
theorem m_stream {c w n : Nat} (hn : σ 12 0 34 = nI n) (hn2 : n ≤ 30) (hc : c < n) (hw : w < 3) : am_D l 245 [aR 12 0, aI (nI c), aI (nI w)] σ τ (rX t) cX lX (some (aI (σ (81 + w) 0 c))) σ τ (rX t) := by
  refine am_D_of am_o245 am_l245 rfl ?_
  refine am_vc_ok am_k245 [] 100 ?_
  refine am_vO am_k245 am_h245 rfl rfl rfl rfl (m_isCall) ?_
  refine am_vc_ok am_k245 [] 100 ?_
  refine And.intro (fun h1 => ?_) (fun h1 => ?_)
  · exact absurd (by rw [hn]; exact (le_pred2 (by omega)).mpr (inN hc (by omega))) (bI_0.mp h1)
  refine am_vS am_k245 am_h245 rfl rfl rfl rfl (m_in) ?_
  refine am_vc_ok am_k245 [] 100 ?_
  refine And.intro (fun h2 => ?_) (fun h2 => ?_)
  · exact absurd ((leN (n := 3) (N := 3) (by decide) (by decide)).mpr (inN (n := 3) hw (by omega))) (bI_0.mp h2)
  refine am_vO am_k245 am_h245 rfl rfl rfl rfl (m_streamTells (by omega) hw) ?_
  refine am_vc_ok am_k245 [] 100 ?_
  exact am_vI am_k245 am_r245 rfl ⟨rfl, rfl, rfl, rfl, rfl, rfl⟩
theorem Rcall.st {c w : Nat} (h : Rcall σ c) (hw : w < 3) : σ 0 c (16 + w) = σ (81 + w) 0 c := by
  obtain ⟨-, -, -, -, -, -, -, -, -, -, -, -, -, -, h16, h17, h18, -⟩ := h
  rcases (show w = 0 ∨ w = 1 ∨ w = 2 by omega) with rfl | rfl | rfl
  · exact h16
  · exact h17
  · exact h18
theorem LC_stream (h : Rall σ τ) (c w : Int32) : LC l 132 245 [aI c, aI w] σ τ t := by
  have hR := h
  obtain ⟨-, -, -, -, -, -, T, n, m, lo, k, hN⟩ := h
  have hn := hN.2.1
  by_cases hc : 0 ≤ c ∧ c < nI n
  · by_cases hw : 0 ≤ w ∧ w < 3
    · obtain ⟨c, hc1, rfl⟩ := ix_lt (nI_toInt (by omega)) hc
      obtain ⟨w, hw1, rfl⟩ := ix_lt (n := 3) (by decide) hw
      have hm := m_stream (l := l) (τ := τ) (t := t) hn.2.1 hn.2.2 hc1 hw1
      rw [← (hN.2.2.1 c hc1).1.st hw1] at hm
      exact LC.of (x_stream hn.1 hn.2.2 hc1 hw1) hm hR
    · exact LC.of (x_stream_bad (Or.inr hw)) (m_stream_bad (Or.inr (fun z => hw ((leN (n := 3) (N := 3) (by decide) (by decide)).mp z)))) hR
  · exact LC.of (x_stream_bad (Or.inl (by rw [hn.1]; exact hc))) (m_stream_bad (Or.inl (by rw [hn.2.1]; exact fun z => hc ((le_pred2 (by omega)).mp z)))) hR
-- frames
theorem x_ffact {f w : Nat} (hf : f < 690) (hw : w < 5) : am_D l 6 [aR 1 0, aI (nI f), aI (nI w)] σ τ (rX t) cX lX (some (aI (σ (14 + w) 0 f))) σ τ (rX t) := by
  refine am_D_of am_o6 am_l6 rfl ?_
  refine am_vc_ok am_k6 [] 100 ?_
  match w, hw with
  | 0, _ =>
    refine am_sw 32 (by decide +kernel) ?_
    refine And.intro (vp_in_nI (N := 690) hf (by decide)) ?_
    rw [nI_clamp (by omega)]
    exact am_vI am_k6 am_r6 rfl ⟨rfl, rfl, rfl, rfl, rfl, rfl⟩
  | 1, _ =>
    refine am_sw 39 (by decide +kernel) ?_
    refine And.intro (vp_in_nI (N := 690) hf (by decide)) ?_
    rw [nI_clamp (by omega)]
    exact am_vI am_k6 am_r6 rfl ⟨rfl, rfl, rfl, rfl, rfl, rfl⟩
  | 2, _ =>
    refine am_sw 46 (by decide +kernel) ?_
    refine And.intro (vp_in_nI (N := 690) hf (by decide)) ?_
    rw [nI_clamp (by omega)]
    exact am_vI am_k6 am_r6 rfl ⟨rfl, rfl, rfl, rfl, rfl, rfl⟩
  | 3, _ =>
    refine am_sw 53 (by decide +kernel) ?_
    refine And.intro (vp_in_nI (N := 690) hf (by decide)) ?_
    rw [nI_clamp (by omega)]
    exact am_vI am_k6 am_r6 rfl ⟨rfl, rfl, rfl, rfl, rfl, rfl⟩
  | 4, _ =>
    refine am_sw 60 (by decide +kernel) ?_
    refine And.intro (vp_in_nI (N := 690) hf (by decide)) ?_
    rw [nI_clamp (by omega)]
    exact am_vI am_k6 am_r6 rfl ⟨rfl, rfl, rfl, rfl, rfl, rfl⟩
theorem m_frameTells {f w : Nat} (hf : f < 1200) (hw : w < 5) : am_D l 239 [aR 12 0, aI (nI f), aI (nI w)] σ τ (rX t) cX lX (some (aI (σ (84 + w) 0 f))) σ τ (rX t) := by
  refine am_D_of am_o239 am_l239 rfl ?_
  refine am_vc_ok am_k239 [] 100 ?_
  match w, hw with
  | 0, _ =>
    refine And.intro (fun _ => ?_) (fun h => absurd rfl h)
    refine And.intro (vp_in_nI (N := 1200) hf (by decide)) ?_
    rw [nI_clamp (by omega)]
    exact am_vI am_k239 am_r239 rfl ⟨rfl, rfl, rfl, rfl, rfl, rfl⟩
  | 1, _ =>
    refine And.intro (fun h => absurd h (by decide)) (fun _ => ?_)
    refine And.intro (fun _ => ?_) (fun h => absurd rfl h)
    refine And.intro (vp_in_nI (N := 1200) hf (by decide)) ?_
    rw [nI_clamp (by omega)]
    exact am_vI am_k239 am_r239 rfl ⟨rfl, rfl, rfl, rfl, rfl, rfl⟩
  | 2, _ =>
    refine And.intro (fun h => absurd h (by decide)) (fun _ => ?_)
    refine And.intro (fun h => absurd h (by decide)) (fun _ => ?_)
    refine And.intro (fun _ => ?_) (fun h => absurd rfl h)
    refine And.intro (vp_in_nI (N := 1200) hf (by decide)) ?_
    rw [nI_clamp (by omega)]
    exact am_vI am_k239 am_r239 rfl ⟨rfl, rfl, rfl, rfl, rfl, rfl⟩
  | 3, _ =>
    refine And.intro (fun h => absurd h (by decide)) (fun _ => ?_)
    refine And.intro (fun h => absurd h (by decide)) (fun _ => ?_)
    refine And.intro (fun h => absurd h (by decide)) (fun _ => ?_)
    refine And.intro (fun _ => ?_) (fun h => absurd rfl h)
    refine And.intro (vp_in_nI (N := 1200) hf (by decide)) ?_
    rw [nI_clamp (by omega)]
    exact am_vI am_k239 am_r239 rfl ⟨rfl, rfl, rfl, rfl, rfl, rfl⟩
  | 4, _ =>
    refine And.intro (fun h => absurd h (by decide)) (fun _ => ?_)
    refine And.intro (fun h => absurd h (by decide)) (fun _ => ?_)
    refine And.intro (fun h => absurd h (by decide)) (fun _ => ?_)
    refine And.intro (fun h => absurd h (by decide)) (fun _ => ?_)
    refine And.intro (vp_in_nI (N := 1200) hf (by decide)) ?_
    rw [nI_clamp (by omega)]
    exact am_vI am_k239 am_r239 rfl ⟨rfl, rfl, rfl, rfl, rfl, rfl⟩
theorem x_frame_bad {c w : Int32} (h : ¬ (0 ≤ c ∧ c < σ 1 0 0) ∨ ¬ (0 ≤ w ∧ w < 5)) : am_D l 128 [aR 11 0, aI c, aI w] σ τ (rX t) cX lX (some (aI (-1))) σ τ (rX t) := by
  refine am_D_of am_o128 am_l128 rfl ?_
  refine am_vc_ok am_k128 [] 100 ?_
  refine am_vS am_k128 am_h128 rfl rfl rfl rfl (x_within) ?_
  refine am_vc_ok am_k128 [] 100 ?_
  refine And.intro (fun h1 => ?_) (fun h1 => ?_)
  · exact am_vI am_k128 am_r128 rfl ⟨rfl, rfl, rfl, rfl, rfl, rfl⟩
  refine am_vS am_k128 am_h128 rfl rfl rfl rfl (x_within) ?_
  refine am_vc_ok am_k128 [] 100 ?_
  refine And.intro (fun h2 => ?_) (fun h2 => ?_)
  · exact am_vI am_k128 am_r128 rfl ⟨rfl, rfl, rfl, rfl, rfl, rfl⟩
  · rcases h with h | h
    · exact absurd (bI_1.mp h1) h
    · exact absurd (bI_1.mp h2) h
theorem x_frame {f w m : Nat} (hn : σ 1 0 0 = nI m) (hn2 : m ≤ 690) (hf : f < m) (hw : w < 5) : am_D l 128 [aR 11 0, aI (nI f), aI (nI w)] σ τ (rX t) cX lX (some (aI 1)) (u3 σ 11 0 11 (σ (14 + w) 0 f)) τ (rX t) := by
  refine am_D_of am_o128 am_l128 rfl ?_
  refine am_vc_ok am_k128 [] 100 ?_
  refine am_vS am_k128 am_h128 rfl rfl rfl rfl (x_within) ?_
  refine am_vc_ok am_k128 [] 100 ?_
  refine And.intro (fun h1 => ?_) (fun h1 => ?_)
  · exact absurd (by rw [hn]; exact inN hf (by omega)) (bI_0.mp h1)
  refine am_vS am_k128 am_h128 rfl rfl rfl rfl (x_within) ?_
  refine am_vc_ok am_k128 [] 100 ?_
  refine And.intro (fun h2 => ?_) (fun h2 => ?_)
  · exact absurd (inN (n := 5) hw (by omega)) (bI_0.mp h2)
  refine am_vO am_k128 am_h128 rfl rfl rfl rfl (x_ffact (by omega) hw) ?_
  refine am_vc_ok am_k128 [] 100 ?_
  exact am_vI am_k128 am_r128 rfl ⟨rfl, rfl, rfl, rfl, rfl, rfl⟩
theorem m_frame_bad {c w : Int32} (h : ¬ (0 ≤ c ∧ c ≤ σ 12 0 54 - 1) ∨ ¬ (0 ≤ w ∧ w ≤ 4)) : am_D l 240 [aR 12 0, aI c, aI w] σ τ (rX t) cX lX (some (aI (-1))) σ τ (rX t) := by
  refine am_D_of am_o240 am_l240 rfl ?_
  refine am_vc_ok am_k240 [] 100 ?_
  refine am_vS am_k240 am_h240 rfl rfl rfl rfl (m_in) ?_
  refine am_vc_ok am_k240 [] 100 ?_
  refine And.intro (fun h1 => ?_) (fun h1 => ?_)
  · exact am_vI am_k240 am_r240 rfl ⟨rfl, rfl, rfl, rfl, rfl, rfl⟩
  refine am_vS am_k240 am_h240 rfl rfl rfl rfl (m_in) ?_
  refine am_vc_ok am_k240 [] 100 ?_
  refine And.intro (fun h2 => ?_) (fun h2 => ?_)
  · exact am_vI am_k240 am_r240 rfl ⟨rfl, rfl, rfl, rfl, rfl, rfl⟩
  · rcases h with h | h
    · exact absurd (bI_1.mp h1) h
    · exact absurd (bI_1.mp h2) h
theorem m_frame {f w m : Nat} (hn : σ 12 0 54 = nI m) (hn2 : m ≤ 690) (hf : f < m) (hw : w < 5) : am_D l 240 [aR 12 0, aI (nI f), aI (nI w)] σ τ (rX t) cX lX (some (aI 1)) (u3 σ 12 0 2 (σ (84 + w) 0 f)) τ (rX t) := by
  refine am_D_of am_o240 am_l240 rfl ?_
  refine am_vc_ok am_k240 [] 100 ?_
  refine am_vS am_k240 am_h240 rfl rfl rfl rfl (m_in) ?_
  refine am_vc_ok am_k240 [] 100 ?_
  refine And.intro (fun h1 => ?_) (fun h1 => ?_)
  · exact absurd (by rw [hn]; exact (le_pred2 (by omega)).mpr (inN hf (by omega))) (bI_0.mp h1)
  refine am_vS am_k240 am_h240 rfl rfl rfl rfl (m_in) ?_
  refine am_vc_ok am_k240 [] 100 ?_
  refine And.intro (fun h2 => ?_) (fun h2 => ?_)
  · exact absurd ((leN (n := 5) (N := 5) (by decide) (by decide)).mpr (inN (n := 5) hw (by omega))) (bI_0.mp h2)
  refine am_vO am_k240 am_h240 rfl rfl rfl rfl (m_frameTells (by omega) hw) ?_
  refine am_vc_ok am_k240 [] 100 ?_
  refine am_vO am_k240 am_h240 rfl rfl rfl rfl (m_ask) ?_
  refine am_vc_ok am_k240 [] 100 ?_
  exact am_vI am_k240 am_r240 rfl ⟨rfl, rfl, rfl, rfl, rfl, rfl⟩
theorem Rframe.tells {f w : Nat} (h : Rframe σ f) (hw : w < 5) : σ (14 + w) 0 f = σ (84 + w) 0 f := by
  obtain ⟨h0, h1, h2, h3, h4, -⟩ := h
  rcases (show w = 0 ∨ w = 1 ∨ w = 2 ∨ w = 3 ∨ w = 4 by omega) with rfl | rfl | rfl | rfl | rfl
  · exact h0
  · exact h1
  · exact h2
  · exact h3
  · exact h4
theorem LC_frame (h : Rall σ τ) (c w : Int32) : LC l 128 240 [aI c, aI w] σ τ t := by
  have hR := h
  obtain ⟨-, -, -, -, -, -, T, n, m, lo, k, hN⟩ := h
  have hm6 := hN.m_le
  have hf := hN.2.2.2.2.2.2.2.1
  have hm := hN.2.2.2.2.2.2.1
  by_cases hc : 0 ≤ c ∧ c < nI m
  · by_cases hw : 0 ≤ w ∧ w < 5
    · obtain ⟨c, hc1, rfl⟩ := ix_lt (nI_toInt (by omega)) hc
      obtain ⟨w, hw1, rfl⟩ := ix_lt (n := 5) (by decide) hw
      have hx := x_frame (l := l) (τ := τ) (t := t) hm.1 hm6 hc1 hw1
      have hmm := m_frame (l := l) (σ := u3 σ 11 0 11 (σ (14 + w) 0 c)) (τ := τ) (t := t) (by simp [u3, hm.2]) hm6 hc1 hw1
      rw [u3_k _ _ (show 84 + w ≠ 11 by omega), ← (hf c hc1).1.tells hw1] at hmm
      exact LC.of hx hmm hR.ask
    · exact LC.of (x_frame_bad (Or.inr hw)) (m_frame_bad (Or.inr (fun z => hw ((leN (n := 5) (N := 5) (by decide) (by decide)).mp z)))) hR
  · exact LC.of (x_frame_bad (Or.inl (by rw [hm.1]; exact hc))) (m_frame_bad (Or.inl (by rw [hm.2]; exact fun z => hc ((le_pred2 (by omega)).mp z)))) hR
-- counting calls
theorem cntN_le {p : Nat → Bool} : ∀ {n : Nat}, cntN p n ≤ n
  | 0 => Nat.le_refl _
  | n + 1 => by
    have h := cntN_le (p := p) (n := n)
    show cntN p n + _ ≤ n + 1
    split <;> omega
theorem cntN_cg {p q : Nat → Bool} : ∀ {n : Nat}, (∀ c, c < n → p c = q c) → cntN p n = cntN q n
  | 0, _ => rfl
  | n + 1, h => by
    show cntN p n + _ = cntN q n + _
    rw [cntN_cg (n := n) (fun c hc => h c (by omega)), h n (by omega)]
theorem m_placedAt_loop {Q : tQ} {n : Nat} {a b : Int32} (hn : σ 12 0 34 = nI n) (hn2 : n ≤ 30) (K : am_G l 218 Q 0 0 50 [(4, aI (nI n)), (3, aI (nI (cntN (fun c => decide (σ 66 0 c = a ∧ σ 77 0 c = b)) n))), (0, aR 12 0), (1, aI a), (2, aI b)] [] σ τ (rX t) cX lX) : ∀ (d c : Nat), c + d = n → am_G l 218 Q 0 0 5 [(4, aI (nI c)), (3, aI (nI (cntN (fun c => decide (σ 66 0 c = a ∧ σ 77 0 c = b)) c))), (0, aR 12 0), (1, aI a), (2, aI b)] [] σ τ (rX t) cX lX
  | 0, c, h => by
    obtain rfl : c = n := by omega
    refine am_vc_ok am_k218 [5, 50] 100 ?_
    refine And.intro (fun _ => K) (fun h1 => absurd (by rw [hn]; exact Int32.le_refl _) h1)
  | d + 1, c, h => by
    have K2 := m_placedAt_loop hn hn2 K d (c + 1) (by omega)
    rw [← nI_1] at K2
    have hc : c < 30 := by omega
    refine am_vc_ok am_k218 [5, 50] 100 ?_
    refine And.intro (fun h1 => absurd h1 (by rw [hn]; exact nI_ge (by omega) (by omega))) (fun h1 => ?_)
    refine And.intro (vp_in_nI (N := 30) hc (by decide)) ?_
    rw [nI_clamp (by omega)]
    refine And.intro (fun h2 => ?_) (fun h2 => ?_)
    · have h2 : σ 66 0 c = a := h2
      refine And.intro (vp_in_nI (N := 30) hc (by decide)) ?_
      rw [nI_clamp (by omega)]
      refine And.intro (fun h3 => ?_) (fun h3 => ?_)
      · have h3 : σ 77 0 c = b := h3
        have e : nI (cntN (fun c => decide (σ 66 0 c = a ∧ σ 77 0 c = b)) c) + 1 = nI (cntN (fun c => decide (σ 66 0 c = a ∧ σ 77 0 c = b)) (c + 1)) := by
          rw [nI_1]; simp [cntN, h2, h3]
        rw [← e] at K2
        exact K2
      · have h3 : ¬ σ 77 0 c = b := h3
        have e : nI (cntN (fun c => decide (σ 66 0 c = a ∧ σ 77 0 c = b)) c) + 0 = nI (cntN (fun c => decide (σ 66 0 c = a ∧ σ 77 0 c = b)) (c + 1)) := by
          rw [Int32.add_zero]; simp [cntN, h3]
        rw [← e] at K2
        exact K2
    · have h2 : ¬ σ 66 0 c = a := h2
      have e : nI (cntN (fun c => decide (σ 66 0 c = a ∧ σ 77 0 c = b)) c) + 0 = nI (cntN (fun c => decide (σ 66 0 c = a ∧ σ 77 0 c = b)) (c + 1)) := by
        rw [Int32.add_zero]; simp [cntN, h2]
      rw [← e] at K2
      exact K2
theorem m_placedAt {n : Nat} {a b : Int32} (hn : σ 12 0 34 = nI n) (hn2 : n ≤ 30) : am_D l 218 [aR 12 0, aI a, aI b] σ τ (rX t) cX lX (some (aI (nI (cntN (fun c => decide (σ 66 0 c = a ∧ σ 77 0 c = b)) n)))) σ τ (rX t) := by
  refine am_D_of am_o218 am_l218 rfl ?_
  refine am_vc_ok am_k218 [5] 100 ?_
  refine m_placedAt_loop hn hn2 ?_ n 0 (by omega)
  refine am_vc_ok am_k218 [5] 100 ?_
  exact am_vI am_k218 am_r218 rfl ⟨rfl, rfl, rfl, rfl, rfl, rfl⟩
theorem x_queue_bad {a : Int32} (ha : ¬ (0 ≤ a ∧ a < 6)) : am_D l 126 [aR 11 0, aI a] σ τ (rX t) cX lX (some (aI (-1))) σ τ (rX t) := by
  refine am_D_of am_o126 am_l126 rfl ?_
  refine am_vc_ok am_k126 [] 100 ?_
  refine am_vS am_k126 am_h126 rfl rfl rfl rfl (x_within) ?_
  refine am_vc_ok am_k126 [] 100 ?_
  refine And.intro (fun h => ?_) (fun h => ?_)
  · exact am_vI am_k126 am_r126 rfl ⟨rfl, rfl, rfl, rfl, rfl, rfl⟩
  · exact absurd (bI_1.mp h) ha
theorem x_queue {a : Nat} (ha : a < 6) : am_D l 126 [aR 11 0, aI (nI a)] σ τ (rX t) cX lX (some (aI (σ 8 a 5))) (u3 σ 11 0 11 (σ 8 a 6)) τ (rX t) := by
  refine am_D_of am_o126 am_l126 rfl ?_
  refine am_vc_ok am_k126 [] 100 ?_
  refine am_vS am_k126 am_h126 rfl rfl rfl rfl (x_within) ?_
  refine am_vc_ok am_k126 [] 100 ?_
  refine And.intro (fun h => ?_) (fun h => ?_)
  · exact absurd (in6 ha) (bI_0.mp h)
  refine And.intro (vp_in_nI (N := 6) ha (by decide)) ?_
  rw [nI_clamp (by omega)]
  refine And.intro (vp_in_nI (N := 6) ha (by decide)) ?_
  rw [nI_clamp (by omega)]
  refine am_vI am_k126 am_r126 rfl ⟨?_, rfl, rfl, rfl, rfl, rfl⟩
  rw [u3_k _ _ (show 8 ≠ 11 by decide)]
theorem m_queue_bad {a : Int32} (ha : ¬ (0 ≤ a ∧ a ≤ 5)) : am_D l 236 [aR 12 0, aI a] σ τ (rX t) cX lX (some (aI (-1))) σ τ (rX t) := by
  refine am_D_of am_o236 am_l236 rfl ?_
  refine am_vc_ok am_k236 [] 100 ?_
  refine am_vS am_k236 am_h236 rfl rfl rfl rfl (m_isSix) ?_
  refine am_vc_ok am_k236 [] 100 ?_
  refine And.intro (fun h => ?_) (fun h => ?_)
  · exact am_vI am_k236 am_r236 rfl ⟨rfl, rfl, rfl, rfl, rfl, rfl⟩
  · exact absurd (bI_1.mp h) ha
theorem m_queue {a n : Nat} (hn : σ 12 0 34 = nI n) (hn2 : n ≤ 30) (ha : a < 6) : am_D l 236 [aR 12 0, aI (nI a)] σ τ (rX t) cX lX (some (aI (nI (cntN (fun c => decide (σ 66 0 c = nI a ∧ σ 77 0 c = 1)) n)))) (u3 σ 12 0 2 (nI (cntN (fun c => decide (σ 66 0 c = nI a ∧ σ 77 0 c = 2)) n))) τ (rX t) := by
  refine am_D_of am_o236 am_l236 rfl ?_
  refine am_vc_ok am_k236 [] 100 ?_
  refine am_vS am_k236 am_h236 rfl rfl rfl rfl (m_isSix) ?_
  refine am_vc_ok am_k236 [] 100 ?_
  refine And.intro (fun h => ?_) (fun h => ?_)
  · exact absurd (in5 ha) (bI_0.mp h)
  refine am_vO am_k236 am_h236 rfl rfl rfl rfl (m_placedAt hn hn2) ?_
  refine am_vc_ok am_k236 [] 100 ?_
  refine am_vO am_k236 am_h236 rfl rfl rfl rfl (m_placedAt hn hn2) ?_
  refine am_vc_ok am_k236 [] 100 ?_
  refine am_vO am_k236 am_h236 rfl rfl rfl rfl (m_ask) ?_
  refine am_vc_ok am_k236 [] 100 ?_
  exact am_vI am_k236 am_r236 rfl ⟨rfl, rfl, rfl, rfl, rfl, rfl⟩
theorem LC_queue (h : Rall σ τ) (a : Int32) : LC l 126 236 [aI a] σ τ t := by
  have hR := h
  obtain ⟨-, -, -, -, -, -, T, n, m, lo, k, hN⟩ := h
  have hn := hN.2.1
  by_cases ha : 0 ≤ a ∧ a < 6
  · obtain ⟨a, ha1, rfl⟩ := ix_lt (n := 6) (by decide) ha
    obtain ⟨-, -, -, -, -, -, e1, e2⟩ := hN.2.2.2.2.2.1 a ha1
    have hx := x_queue (l := l) (σ := σ) (τ := τ) (t := t) ha1
    have hm := m_queue (l := l) (σ := u3 σ 11 0 11 (σ 8 a 6)) (τ := τ) (t := t) (by simp [u3, hn.2.1]) hn.2.2 ha1
    simp only [u3_k _ _ (show 66 ≠ 11 by decide), u3_k _ _ (show 77 ≠ 11 by decide)] at hm
    rw [← e1, ← e2] at hm
    exact LC.of hx hm hR.ask
  · exact LC.of (x_queue_bad ha) (m_queue_bad (not6 ha)) hR
end L4
