/-! CASES OF THE LAW: breaks; the sending of a frame -/
section L8
variable {l : Launch} {σ σ2 : tI} {τ τ2 : tL} {t : Option (Nat × Nat)}
abbrev xbrk (σ : tI) (k : Nat) (g f e : Int32) : tI := u3 (u3 (u3 (u3 σ 21 0 k g) 22 0 k f) 23 0 k e) 2 0 0 (nI (k + 1))
theorem x_breakLine {a b k : Nat} {f e : Int32} (ha : a < 6) (hb : b < 6) (hk : σ 2 0 0 = nI k) (hk2 : k < 20) : am_D l 10 [aR 2 0, aI (nI a), aI (nI b), aI f, aI e] σ τ (rX t) cX lX none (xbrk σ k (nI (6 * min a b + max a b)) f e) τ (rX t) := by
  have q1 : ∀ {v : Int32}, (u3 σ 21 0 k v) 2 0 0 = nI k := by intro v; simp [u3, hk]
  refine am_D_of am_o10 am_l10 rfl ?_
  refine am_vc_ok am_k10 [] 100 ?_
  refine And.intro (fun h => absurd h (by rw [hk]; exact nI_ge (b := 20) hk2 (by decide))) (fun _ => ?_)
  rw [hk]
  refine am_vS am_k10 am_h10 rfl rfl rfl rfl (x_lineOf ha hb) ?_
  refine am_vc_ok am_k10 [] 100 ?_
  refine And.intro (vp_in_nI (N := 20) hk2 (by decide)) ?_
  rw [nI_clamp (by omega)]
  refine And.intro (by rw [q1]; exact vp_in_nI (N := 20) hk2 (by decide)) ?_
  rw [q1, nI_clamp (by omega)]
  refine And.intro (by rw [u3_k _ _ (show 2 ≠ 22 by decide), q1]; exact vp_in_nI (N := 20) hk2 (by decide)) ?_
  rw [u3_k _ _ (show 2 ≠ 22 by decide), q1, nI_clamp (by omega)]
  refine am_vV am_k10 am_r10 rfl ⟨rfl, ?_, rfl, rfl, rfl, rfl⟩
  rw [u3_k _ _ (show 2 ≠ 23 by decide), u3_k _ _ (show 2 ≠ 22 by decide), q1, show nI k + 1 = nI (k + 1) from nI_1 k]
theorem x_breaks_bad {a b f e : Int32} (h : ¬ (((0 ≤ a ∧ a < 6) ∧ (0 ≤ b ∧ b < 6) ∧ a ≠ b) ∧ 0 ≤ f ∧ e ≤ 9999 ∧ f ≤ e)) : am_D l 119 [aR 11 0, aI a, aI b, aI f, aI e] σ τ (rX t) cX lX (some (aI (-1))) σ τ (rX t) := by
  refine am_D_of am_o119 am_l119 rfl ?_
  refine am_vc_ok am_k119 [] 100 ?_
  refine am_vS am_k119 am_h119 rfl rfl rfl rfl (x_isPair) ?_
  refine am_vc_ok am_k119 [] 100 ?_
  refine And.intro (fun h1 => ?_) (fun h1 => ?_)
  · exact am_vI am_k119 am_r119 rfl ⟨rfl, rfl, rfl, rfl, rfl, rfl⟩
  refine And.intro (fun h2 => ?_) (fun h2 => ?_)
  · exact am_vI am_k119 am_r119 rfl ⟨rfl, rfl, rfl, rfl, rfl, rfl⟩
  refine And.intro (fun h3 => ?_) (fun h3 => ?_)
  · exact am_vI am_k119 am_r119 rfl ⟨rfl, rfl, rfl, rfl, rfl, rfl⟩
  refine And.intro (fun h4 => ?_) (fun h4 => ?_)
  · exact absurd ⟨bI_1.mp h1, Int32.not_lt.mp h2, Int32.not_lt.mp h3, h4⟩ h
  · exact am_vI am_k119 am_r119 rfl ⟨rfl, rfl, rfl, rfl, rfl, rfl⟩
theorem x_breaks_full {a b f e : Int32} (h : ((0 ≤ a ∧ a < 6) ∧ (0 ≤ b ∧ b < 6) ∧ a ≠ b) ∧ 0 ≤ f ∧ e ≤ 9999 ∧ f ≤ e) (hk : σ 2 0 0 = nI 20) : am_D l 119 [aR 11 0, aI a, aI b, aI f, aI e] σ τ (rX t) cX lX (some (aI (-2))) σ τ (rX t) := by
  refine am_D_of am_o119 am_l119 rfl ?_
  refine am_vc_ok am_k119 [] 100 ?_
  refine am_vS am_k119 am_h119 rfl rfl rfl rfl (x_isPair) ?_
  refine am_vc_ok am_k119 [] 100 ?_
  refine And.intro (fun g => absurd h.1 (bI_0.mp g)) (fun _ => ?_)
  refine And.intro (fun g => absurd h.2.1 (Int32.not_le.mpr g)) (fun _ => ?_)
  refine And.intro (fun g => absurd h.2.2.1 (Int32.not_le.mpr g)) (fun _ => ?_)
  refine And.intro (fun _ => ?_) (fun g => absurd h.2.2.2 g)
  refine And.intro (fun g => absurd g (by rw [hk]; decide)) (fun _ => ?_)
  exact am_vI am_k119 am_r119 rfl ⟨rfl, rfl, rfl, rfl, rfl, rfl⟩
theorem x_breaks {a b k : Nat} {f e : Int32} (ha : a < 6) (hb : b < 6) (hab : a ≠ b) (h : 0 ≤ f ∧ e ≤ 9999 ∧ f ≤ e) (hk : σ 2 0 0 = nI k) (hk2 : k < 20) : am_D l 119 [aR 11 0, aI (nI a), aI (nI b), aI f, aI e] σ τ (rX t) cX lX (some (aI (nI (k + 1)))) (xbrk σ k (nI (6 * min a b + max a b)) f e) τ (rX t) := by
  have hp : (0 ≤ nI a ∧ nI a < 6) ∧ (0 ≤ nI b ∧ nI b < 6) ∧ nI a ≠ nI b := ⟨in6 ha, in6 hb, fun z => hab ((nI_eq (by omega) (by omega)).mp z)⟩
  refine am_D_of am_o119 am_l119 rfl ?_
  refine am_vc_ok am_k119 [] 100 ?_
  refine am_vS am_k119 am_h119 rfl rfl rfl rfl (x_isPair) ?_
  refine am_vc_ok am_k119 [] 100 ?_
  refine And.intro (fun g => absurd hp (bI_0.mp g)) (fun _ => ?_)
  refine And.intro (fun g => absurd h.1 (Int32.not_le.mpr g)) (fun _ => ?_)
  refine And.intro (fun g => absurd h.2.1 (Int32.not_le.mpr g)) (fun _ => ?_)
  refine And.intro (fun _ => ?_) (fun g => absurd h.2.2 g)
  refine And.intro (fun _ => ?_) (fun g => absurd (by rw [hk]; exact nI_lt (b := 20) hk2 (by decide)) g)
  refine am_vO am_k119 am_h119 rfl rfl rfl rfl (x_breakLine ha hb hk hk2) ?_
  refine am_vc_ok am_k119 [] 100 ?_
  refine am_vI am_k119 am_r119 rfl ⟨?_, rfl, rfl, rfl, rfl, rfl⟩
  rw [u3_eq]
abbrev mbrk (σ : tI) (k : Nat) (g f e : Int32) : tI := u3 (u3 (u3 (u3 σ 91 0 k g) 92 0 k f) 93 0 k e) 12 0 64 (nI (k + 1))
theorem m_breaks_bad {a b f e : Int32} (h : ¬ (((0 ≤ a ∧ a ≤ 5) ∧ (0 ≤ b ∧ b ≤ 5) ∧ a ≠ b) ∧ (0 ≤ f ∧ f ≤ 9999) ∧ (0 ≤ e ∧ e ≤ 9999) ∧ f ≤ e)) : am_D l 215 [aR 12 0, aI a, aI b, aI f, aI e] σ τ (rX t) cX lX (some (aI (-1))) σ τ (rX t) := by
  refine am_D_of am_o215 am_l215 rfl ?_
  refine am_vc_ok am_k215 [] 100 ?_
  refine am_vS am_k215 am_h215 rfl rfl rfl rfl (m_isSix) ?_
  refine am_vc_ok am_k215 [] 100 ?_
  refine And.intro (fun h1 => ?_) (fun h1 => ?_)
  · exact am_vI am_k215 am_r215 rfl ⟨rfl, rfl, rfl, rfl, rfl, rfl⟩
  refine am_vS am_k215 am_h215 rfl rfl rfl rfl (m_isSix) ?_
  refine am_vc_ok am_k215 [] 100 ?_
  refine And.intro (fun h2 => ?_) (fun h2 => ?_)
  · exact am_vI am_k215 am_r215 rfl ⟨rfl, rfl, rfl, rfl, rfl, rfl⟩
  refine And.intro (fun h3 => ?_) (fun h3 => ?_)
  · exact am_vI am_k215 am_r215 rfl ⟨rfl, rfl, rfl, rfl, rfl, rfl⟩
  refine am_vS am_k215 am_h215 rfl rfl rfl rfl (m_isTick) ?_
  refine am_vc_ok am_k215 [] 100 ?_
  refine And.intro (fun h4 => ?_) (fun h4 => ?_)
  · exact am_vI am_k215 am_r215 rfl ⟨rfl, rfl, rfl, rfl, rfl, rfl⟩
  refine am_vS am_k215 am_h215 rfl rfl rfl rfl (m_isTick) ?_
  refine am_vc_ok am_k215 [] 100 ?_
  refine And.intro (fun h5 => ?_) (fun h5 => ?_)
  · exact am_vI am_k215 am_r215 rfl ⟨rfl, rfl, rfl, rfl, rfl, rfl⟩
  refine And.intro (fun h6 => ?_) (fun h6 => ?_)
  · exact absurd ⟨⟨bI_1.mp h1, bI_1.mp h2, h3⟩, bI_1.mp h4, bI_1.mp h5, h6⟩ h
  · exact am_vI am_k215 am_r215 rfl ⟨rfl, rfl, rfl, rfl, rfl, rfl⟩
theorem m_breaks_full {a b f e : Int32} (h : ((0 ≤ a ∧ a ≤ 5) ∧ (0 ≤ b ∧ b ≤ 5) ∧ a ≠ b) ∧ (0 ≤ f ∧ f ≤ 9999) ∧ (0 ≤ e ∧ e ≤ 9999) ∧ f ≤ e) (hk : σ 12 0 64 = nI 20) : am_D l 215 [aR 12 0, aI a, aI b, aI f, aI e] σ τ (rX t) cX lX (some (aI (-2))) σ τ (rX t) := by
  refine am_D_of am_o215 am_l215 rfl ?_
  refine am_vc_ok am_k215 [] 100 ?_
  refine am_vS am_k215 am_h215 rfl rfl rfl rfl (m_isSix) ?_
  refine am_vc_ok am_k215 [] 100 ?_
  refine And.intro (fun g => absurd h.1.1 (bI_0.mp g)) (fun _ => ?_)
  refine am_vS am_k215 am_h215 rfl rfl rfl rfl (m_isSix) ?_
  refine am_vc_ok am_k215 [] 100 ?_
  refine And.intro (fun g => absurd h.1.2.1 (bI_0.mp g)) (fun _ => ?_)
  refine And.intro (fun g => absurd g h.1.2.2) (fun _ => ?_)
  refine am_vS am_k215 am_h215 rfl rfl rfl rfl (m_isTick) ?_
  refine am_vc_ok am_k215 [] 100 ?_
  refine And.intro (fun g => absurd h.2.1 (bI_0.mp g)) (fun _ => ?_)
  refine am_vS am_k215 am_h215 rfl rfl rfl rfl (m_isTick) ?_
  refine am_vc_ok am_k215 [] 100 ?_
  refine And.intro (fun g => absurd h.2.2.1 (bI_0.mp g)) (fun _ => ?_)
  refine And.intro (fun _ => ?_) (fun g => absurd h.2.2.2 g)
  refine And.intro (fun _ => ?_) (fun g => absurd hk g)
  exact am_vI am_k215 am_r215 rfl ⟨rfl, rfl, rfl, rfl, rfl, rfl⟩
theorem m_breaks {a b k : Nat} {f e : Int32} (ha : a < 6) (hb : b < 6) (hab : a ≠ b) (h : (0 ≤ f ∧ f ≤ 9999) ∧ (0 ≤ e ∧ e ≤ 9999) ∧ f ≤ e) (hk : σ 12 0 64 = nI k) (hk2 : k < 20) : am_D l 215 [aR 12 0, aI (nI a), aI (nI b), aI f, aI e] σ τ (rX t) cX lX (some (aI (nI (k + 1)))) (mbrk σ k (nI (6 * min a b + max a b)) f e) τ (rX t) := by
  have q1 : ∀ {v : Int32}, (u3 σ 91 0 k v) 12 0 64 = nI k := by intro v; simp [u3, hk]
  refine am_D_of am_o215 am_l215 rfl ?_
  refine am_vc_ok am_k215 [] 100 ?_
  refine am_vS am_k215 am_h215 rfl rfl rfl rfl (m_isSix) ?_
  refine am_vc_ok am_k215 [] 100 ?_
  refine And.intro (fun g => absurd (in5 ha) (bI_0.mp g)) (fun _ => ?_)
  refine am_vS am_k215 am_h215 rfl rfl rfl rfl (m_isSix) ?_
  refine am_vc_ok am_k215 [] 100 ?_
  refine And.intro (fun g => absurd (in5 hb) (bI_0.mp g)) (fun _ => ?_)
  refine And.intro (fun g => absurd ((nI_eq (by omega) (by omega)).mp g) hab) (fun _ => ?_)
  refine am_vS am_k215 am_h215 rfl rfl rfl rfl (m_isTick) ?_
  refine am_vc_ok am_k215 [] 100 ?_
  refine And.intro (fun g => absurd h.1 (bI_0.mp g)) (fun _ => ?_)
  refine am_vS am_k215 am_h215 rfl rfl rfl rfl (m_isTick) ?_
  refine am_vc_ok am_k215 [] 100 ?_
  refine And.intro (fun g => absurd h.2.1 (bI_0.mp g)) (fun _ => ?_)
  refine And.intro (fun _ => ?_) (fun g => absurd h.2.2 g)
  refine And.intro (fun g => absurd ((nI_eq (b := 20) (by omega) (by decide)).mp (hk.symm.trans g)) (by omega)) (fun _ => ?_)
  rw [hk]
  refine am_vS am_k215 am_h215 rfl rfl rfl rfl (m_line ha hb) ?_
  refine am_vc_ok am_k215 [] 100 ?_
  refine And.intro (vp_in_nI (N := 20) hk2 (by decide)) ?_
  rw [nI_clamp (by omega)]
  refine And.intro (by rw [q1]; exact vp_in_nI (N := 20) hk2 (by decide)) ?_
  rw [q1, nI_clamp (by omega)]
  refine And.intro (by rw [u3_k _ _ (show 12 ≠ 92 by decide), q1]; exact vp_in_nI (N := 20) hk2 (by decide)) ?_
  rw [u3_k _ _ (show 12 ≠ 92 by decide), q1, nI_clamp (by omega)]
  rw [u3_k _ _ (show 12 ≠ 93 by decide), u3_k _ _ (show 12 ≠ 92 by decide), q1, show nI k + 1 = nI (k + 1) from nI_1 k]
  refine am_vI am_k215 am_r215 rfl ⟨?_, rfl, rfl, rfl, rfl, rfl⟩
  rw [u3_eq]
end L8
