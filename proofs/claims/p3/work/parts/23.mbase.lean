/-! MODEL: small methods -/
section MB
variable {l : Launch} {σ : tI} {τ : tL} {ρ : tR} {cn : tN} {ln : tM} {t : Option (Nat × Nat)}
theorem m_in {v lo hi : Int32} : am_D l 155 [aI v, aI lo, aI hi] σ τ ρ cn ln (some (aI (bI (lo ≤ v ∧ v ≤ hi)))) σ τ ρ := by
  refine am_D_of am_o155 am_l155 rfl ?_
  refine am_vc_ok am_k155 [] 100 ?_
  refine And.intro (fun h1 => ?_) (fun h1 => ?_)
  · rw [bI_f (fun h => (Int32.not_le.mpr h1) h.1)]
    exact am_vZ am_k155 am_r155 rfl (Or.inl rfl) ⟨rfl, rfl, rfl, rfl, rfl, rfl⟩
  refine And.intro (fun h2 => ?_) (fun h2 => ?_)
  · rw [bI_f (fun h => (Int32.not_le.mpr h2) h.2)]
    exact am_vZ am_k155 am_r155 rfl (Or.inl rfl) ⟨rfl, rfl, rfl, rfl, rfl, rfl⟩
  · rw [bI_t ⟨Int32.not_lt.mp h1, Int32.not_lt.mp h2⟩]
    exact am_vZ am_k155 am_r155 rfl (Or.inr rfl) ⟨rfl, rfl, rfl, rfl, rfl, rfl⟩
abbrev mmeets (w : Nat) (σ : tI) : tI := u3 (u3 σ 12 0 0 (nI w)) 43 0 w (σ 43 0 w + 1)
theorem m_meets {w : Nat} (hw : w < 6) : am_D l 156 [aR 12 0, aI (nI w)] σ τ (rX t) cX lX (some (aI (-3))) (mmeets w σ) τ (rX t) := by
  refine am_D_of am_o156 am_l156 rfl ?_
  refine am_vc_ok am_k156 [] 100 ?_
  refine And.intro (vp_in_nI (N := 6) hw (by decide)) ?_
  refine And.intro (vp_in_nI (N := 6) hw (by decide)) ?_
  rw [nI_clamp (by omega)]
  refine am_vI am_k156 am_r156 rfl ⟨rfl, ?_, rfl, rfl, rfl, rfl⟩
  rw [u3_k σ (nI w) (show 43 ≠ 12 by decide)]
theorem m_ask {v a : Int32} : am_D l 157 [aR 12 0, aI v, aI a] σ τ (rX t) cX lX (some (aI a)) (u3 σ 12 0 2 v) τ (rX t) := by
  refine am_D_of am_o157 am_l157 rfl ?_
  refine am_vc_ok am_k157 [] 100 ?_
  exact am_vI am_k157 am_r157 rfl ⟨rfl, rfl, rfl, rfl, rfl, rfl⟩
theorem m_isSix {k : Int32} : am_D l 160 [aI k] σ τ ρ cn ln (some (aI (bI (0 ≤ k ∧ k ≤ 5)))) σ τ ρ := by
  refine am_D_of am_o160 am_l160 rfl ?_
  refine am_vc_ok am_k160 [] 100 ?_
  refine am_vS am_k160 am_h160 rfl rfl rfl rfl (m_in) ?_
  refine am_vc_ok am_k160 [] 100 ?_
  refine am_vZ am_k160 am_r160 rfl bI_01 ⟨rfl, rfl, rfl, rfl, rfl, rfl⟩
theorem m_isShape {k : Int32} : am_D l 172 [aI k] σ τ ρ cn ln (some (aI (bI (0 ≤ k ∧ k ≤ 3)))) σ τ ρ := by
  refine am_D_of am_o172 am_l172 rfl ?_
  refine am_vc_ok am_k172 [] 100 ?_
  refine am_vS am_k172 am_h172 rfl rfl rfl rfl (m_in) ?_
  refine am_vc_ok am_k172 [] 100 ?_
  refine am_vZ am_k172 am_r172 rfl bI_01 ⟨rfl, rfl, rfl, rfl, rfl, rfl⟩
theorem m_isVersion {k : Int32} : am_D l 183 [aI k] σ τ ρ cn ln (some (aI (bI (0 ≤ k ∧ k ≤ 9)))) σ τ ρ := by
  refine am_D_of am_o183 am_l183 rfl ?_
  refine am_vc_ok am_k183 [] 100 ?_
  refine am_vS am_k183 am_h183 rfl rfl rfl rfl (m_in) ?_
  refine am_vc_ok am_k183 [] 100 ?_
  refine am_vZ am_k183 am_r183 rfl bI_01 ⟨rfl, rfl, rfl, rfl, rfl, rfl⟩
theorem m_isTick {k : Int32} : am_D l 214 [aI k] σ τ ρ cn ln (some (aI (bI (0 ≤ k ∧ k ≤ 9999)))) σ τ ρ := by
  refine am_D_of am_o214 am_l214 rfl ?_
  refine am_vc_ok am_k214 [] 100 ?_
  refine am_vS am_k214 am_h214 rfl rfl rfl rfl (m_in) ?_
  refine am_vc_ok am_k214 [] 100 ?_
  refine am_vZ am_k214 am_r214 rfl bI_01 ⟨rfl, rfl, rfl, rfl, rfl, rfl⟩
theorem m_has {s k : Int32} : am_D l 158 [aI s, aI k] σ τ ρ cn ln (some (aI (bI ((s >>> (k &&& 31)) &&& 1 = 1)))) σ τ ρ := by
  refine am_D_of am_o158 am_l158 rfl ?_
  refine am_vc_ok am_k158 [] 100 ?_
  refine And.intro (fun h1 => ?_) (fun h1 => ?_)
  · rw [bI_t h1]
    exact am_vZ am_k158 am_r158 rfl (Or.inr rfl) ⟨rfl, rfl, rfl, rfl, rfl, rfl⟩
  · rw [bI_f h1]
    exact am_vZ am_k158 am_r158 rfl (Or.inl rfl) ⟨rfl, rfl, rfl, rfl, rfl, rfl⟩
theorem m_isCall {c : Int32} : am_D l 231 [aR 12 0, aI c] σ τ (rX t) cX lX (some (aI (bI (0 ≤ c ∧ c ≤ σ 12 0 34 - 1)))) σ τ (rX t) := by
  refine am_D_of am_o231 am_l231 rfl ?_
  refine am_vc_ok am_k231 [] 100 ?_
  refine am_vS am_k231 am_h231 rfl rfl rfl rfl (m_in) ?_
  refine am_vc_ok am_k231 [] 100 ?_
  refine am_vZ am_k231 am_r231 rfl bI_01 ⟨rfl, rfl, rfl, rfl, rfl, rfl⟩
theorem x_isPair {a b : Int32} : am_D l 142 [aI a, aI b] σ τ ρ cn ln (some (aI (bI ((0 ≤ a ∧ a < 6) ∧ (0 ≤ b ∧ b < 6) ∧ a ≠ b)))) σ τ ρ := by
  refine am_D_of am_o142 am_l142 rfl ?_
  refine am_vc_ok am_k142 [] 100 ?_
  refine am_vS am_k142 am_h142 rfl rfl rfl rfl (x_within) ?_
  refine am_vc_ok am_k142 [] 100 ?_
  refine And.intro (fun h1 => ?_) (fun h1 => ?_)
  · rw [bI_f (fun h => bI_0.mp h1 h.1)]
    exact am_vZ am_k142 am_r142 rfl (Or.inl rfl) ⟨rfl, rfl, rfl, rfl, rfl, rfl⟩
  refine am_vS am_k142 am_h142 rfl rfl rfl rfl (x_within) ?_
  refine am_vc_ok am_k142 [] 100 ?_
  refine And.intro (fun h2 => ?_) (fun h2 => ?_)
  · rw [bI_f (fun h => bI_0.mp h2 h.2.1)]
    exact am_vZ am_k142 am_r142 rfl (Or.inl rfl) ⟨rfl, rfl, rfl, rfl, rfl, rfl⟩
  refine And.intro (fun h3 => ?_) (fun h3 => ?_)
  · rw [bI_f (fun h => h.2.2 h3)]
    exact am_vZ am_k142 am_r142 rfl (Or.inl rfl) ⟨rfl, rfl, rfl, rfl, rfl, rfl⟩
  · rw [bI_t ⟨bI_1.mp h1, bI_1.mp h2, h3⟩]
    exact am_vZ am_k142 am_r142 rfl (Or.inr rfl) ⟨rfl, rfl, rfl, rfl, rfl, rfl⟩
theorem m_part {s i w : Nat} (hs : s < 4) (hi : i < 12) (hw : w < 6) : am_D l 181 [aR 12 0, aI (nI s), aI (nI i), aI (nI w)] σ τ (rX t) cX lX (some (aI (σ 50 0 (72 * s + 6 * i + w)))) σ τ (rX t) := by
  have e : (72 : Int32) * nI s + 6 * nI i + nI w = nI (72 * s + 6 * i + w) := by
    rw [show (72 : Int32) = nI 72 from rfl, show (6 : Int32) = nI 6 from rfl, pk_mul, pk_mul, nI_add, nI_add]
  refine am_D_of am_o181 am_l181 rfl ?_
  refine am_vc_ok am_k181 [] 100 ?_
  refine And.intro (by rw [e]; exact vp_in_nI (N := 288) (by omega) (by decide)) ?_
  rw [e, nI_clamp (by omega)]
  exact am_vI am_k181 am_r181 rfl ⟨rfl, rfl, rfl, rfl, rfl, rfl⟩
end MB
