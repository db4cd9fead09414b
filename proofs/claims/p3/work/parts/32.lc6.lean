/-! CASES OF THE LAW: version, service -/
section L6
variable {l : Launch} {σ σ2 : tI} {τ τ2 : tL} {t : Option (Nat × Nat)}
theorem x_version_bad {a v w : Int32} (h : ¬ ((0 ≤ a ∧ a < 6) ∧ (0 ≤ v ∧ v < 10) ∧ (0 ≤ w ∧ w < 10))) : am_D l 111 [aR 11 0, aI a, aI v, aI w] σ τ (rX t) cX lX (some (aI (-1))) σ τ (rX t) := by
  refine am_D_of am_o111 am_l111 rfl ?_
  refine am_vc_ok am_k111 [] 100 ?_
  refine am_vS am_k111 am_h111 rfl rfl rfl rfl (x_within) ?_
  refine am_vc_ok am_k111 [] 100 ?_
  refine And.intro (fun h1 => ?_) (fun h1 => ?_)
  · exact am_vI am_k111 am_r111 rfl ⟨rfl, rfl, rfl, rfl, rfl, rfl⟩
  refine am_vS am_k111 am_h111 rfl rfl rfl rfl (x_within) ?_
  refine am_vc_ok am_k111 [] 100 ?_
  refine And.intro (fun h2 => ?_) (fun h2 => ?_)
  · exact am_vI am_k111 am_r111 rfl ⟨rfl, rfl, rfl, rfl, rfl, rfl⟩
  refine am_vS am_k111 am_h111 rfl rfl rfl rfl (x_within) ?_
  refine am_vc_ok am_k111 [] 100 ?_
  refine And.intro (fun h3 => ?_) (fun h3 => ?_)
  · exact am_vI am_k111 am_r111 rfl ⟨rfl, rfl, rfl, rfl, rfl, rfl⟩
  · exact absurd ⟨bI_1.mp h1, bI_1.mp h2, bI_1.mp h3⟩ h
theorem x_version {a : Nat} {v w : Int32} (ha : a < 6) (hv : 0 ≤ v ∧ v < 10) (hw : 0 ≤ w ∧ w < 10) : am_D l 111 [aR 11 0, aI (nI a), aI v, aI w] σ τ (rX t) cX lX (some (aI 1)) (u3 (u3 σ 8 a 0 v) 8 a 1 w) τ (rX t) := by
  refine am_D_of am_o111 am_l111 rfl ?_
  refine am_vc_ok am_k111 [] 100 ?_
  refine am_vS am_k111 am_h111 rfl rfl rfl rfl (x_within) ?_
  refine am_vc_ok am_k111 [] 100 ?_
  refine And.intro (fun h1 => ?_) (fun h1 => ?_)
  · exact absurd (in6 ha) (bI_0.mp h1)
  refine am_vS am_k111 am_h111 rfl rfl rfl rfl (x_within) ?_
  refine am_vc_ok am_k111 [] 100 ?_
  refine And.intro (fun h2 => ?_) (fun h2 => ?_)
  · exact absurd hv (bI_0.mp h2)
  refine am_vS am_k111 am_h111 rfl rfl rfl rfl (x_within) ?_
  refine am_vc_ok am_k111 [] 100 ?_
  refine And.intro (fun h3 => ?_) (fun h3 => ?_)
  · exact absurd hw (bI_0.mp h3)
  refine And.intro (vp_in_nI (N := 6) ha (by decide)) ?_
  rw [nI_clamp (by omega)]
  refine And.intro (vp_in_nI (N := 6) ha (by decide)) ?_
  rw [nI_clamp (by omega)]
  exact am_vI am_k111 am_r111 rfl ⟨rfl, rfl, rfl, rfl, rfl, rfl⟩
theorem m_version_bad {a v w : Int32} (h : ¬ ((0 ≤ a ∧ a ≤ 5) ∧ (0 ≤ v ∧ v ≤ 9) ∧ (0 ≤ w ∧ w ≤ 9))) : am_D l 197 [aR 12 0, aI a, aI v, aI w] σ τ (rX t) cX lX (some (aI (-1))) σ τ (rX t) := by
  refine am_D_of am_o197 am_l197 rfl ?_
  refine am_vc_ok am_k197 [] 100 ?_
  refine am_vS am_k197 am_h197 rfl rfl rfl rfl (m_isSix) ?_
  refine am_vc_ok am_k197 [] 100 ?_
  refine And.intro (fun h1 => ?_) (fun h1 => ?_)
  · exact am_vI am_k197 am_r197 rfl ⟨rfl, rfl, rfl, rfl, rfl, rfl⟩
  refine am_vS am_k197 am_h197 rfl rfl rfl rfl (m_isVersion) ?_
  refine am_vc_ok am_k197 [] 100 ?_
  refine And.intro (fun h2 => ?_) (fun h2 => ?_)
  · exact am_vI am_k197 am_r197 rfl ⟨rfl, rfl, rfl, rfl, rfl, rfl⟩
  refine am_vS am_k197 am_h197 rfl rfl rfl rfl (m_isVersion) ?_
  refine am_vc_ok am_k197 [] 100 ?_
  refine And.intro (fun h3 => ?_) (fun h3 => ?_)
  · exact am_vI am_k197 am_r197 rfl ⟨rfl, rfl, rfl, rfl, rfl, rfl⟩
  · exact absurd ⟨bI_1.mp h1, bI_1.mp h2, bI_1.mp h3⟩ h
theorem m_version {a : Nat} {v w : Int32} (ha : a < 6) (hv : 0 ≤ v ∧ v ≤ 9) (hw : 0 ≤ w ∧ w ≤ 9) : am_D l 197 [aR 12 0, aI (nI a), aI v, aI w] σ τ (rX t) cX lX (some (aI 1)) (u3 (u3 σ 57 0 a v) 58 0 a w) τ (rX t) := by
  refine am_D_of am_o197 am_l197 rfl ?_
  refine am_vc_ok am_k197 [] 100 ?_
  refine am_vS am_k197 am_h197 rfl rfl rfl rfl (m_isSix) ?_
  refine am_vc_ok am_k197 [] 100 ?_
  refine And.intro (fun h1 => ?_) (fun h1 => ?_)
  · exact absurd (in5 ha) (bI_0.mp h1)
  refine am_vS am_k197 am_h197 rfl rfl rfl rfl (m_isVersion) ?_
  refine am_vc_ok am_k197 [] 100 ?_
  refine And.intro (fun h2 => ?_) (fun h2 => ?_)
  · exact absurd hv (bI_0.mp h2)
  refine am_vS am_k197 am_h197 rfl rfl rfl rfl (m_isVersion) ?_
  refine am_vc_ok am_k197 [] 100 ?_
  refine And.intro (fun h3 => ?_) (fun h3 => ?_)
  · exact absurd hw (bI_0.mp h3)
  refine And.intro (vp_in_nI (N := 6) ha (by decide)) ?_
  rw [nI_clamp (by omega)]
  refine And.intro (vp_in_nI (N := 6) ha (by decide)) ?_
  rw [nI_clamp (by omega)]
  exact am_vI am_k197 am_r197 rfl ⟨rfl, rfl, rfl, rfl, rfl, rfl⟩
/-- only services' versions may have changed -/
theorem Rall.vers {σ σ2 : tI} {τ : tL} (h : Rall σ τ) (hk : ∀ k, k ≠ 8 → k ≠ 57 → k ≠ 58 → σ2 k = σ k) (h8 : ∀ a j, 2 ≤ j → σ2 8 a j = σ 8 a j) (hs : Rserv σ2) : Rall σ2 τ := by
  obtain ⟨h1, h2, h3, h4, -, h6, T, n, m, lo, kk, h7⟩ := h
  have g : ∀ k, k ≠ 8 ∧ k ≠ 57 ∧ k ≠ 58 → σ2 k = σ k := fun k ⟨a1, a2, a3⟩ => hk k a1 a2 a3
  exact ⟨h1.fr (fun r _ => by rw [g 6 (by decide)]) (fun r _ => by rw [g 30 (by decide)]) (g 44 (by decide)) (g 45 (by decide)), h2.fr (fun r _ => by rw [g 6 (by decide)]) (fun r _ => by rw [g 30 (by decide)]) (g 47 (by decide)) (g 48 (by decide)), h3.fr (fun k z => g k ⟨kNe z rfl, kNe z rfl, kNe z rfl⟩), h4.fr (g 4 (by decide)) (g 55 (by decide)) (g 56 (by decide)) (by rw [g 6 (by decide)]) (by rw [g 30 (by decide)]) (by rw [g 12 (by decide)]), hs, h6.fr (g 11 (by decide)) (g 42 (by decide)) (g 43 (by decide)) (by rw [g 12 (by decide)]) (by rw [g 12 (by decide)]), T, n, m, lo, kk, h7.fr (fun k z => g k ⟨kNe z rfl, kNe z rfl, kNe z rfl⟩) (fun j _ => by rw [g 12 (by decide)]) (fun a j _ hj => h8 a j hj)⟩
theorem LC_version (h : Rall σ τ) (a v w : Int32) : LC l 111 197 [aI a, aI v, aI w] σ τ t := by
  have e10 : ∀ x : Int32, (0 ≤ x ∧ x ≤ 9) ↔ (0 ≤ x ∧ x < 10) := fun x => leN (n := 10) (N := 10) (by decide) (by decide)
  by_cases hc : (0 ≤ a ∧ a < 6) ∧ (0 ≤ v ∧ v < 10) ∧ (0 ≤ w ∧ w < 10)
  · obtain ⟨ha, hv, hw⟩ := hc
    obtain ⟨a, ha1, rfl⟩ := ix_lt (n := 6) (by decide) ha
    refine LC.of (x_version ha1 hv hw) (m_version ha1 ((e10 v).mpr hv) ((e10 w).mpr hw)) ?_
    obtain ⟨v, hv1, rfl⟩ := ix_lt (n := 10) (by decide) hv
    obtain ⟨w, hw1, rfl⟩ := ix_lt (n := 10) (by decide) hw
    refine h.vers (fun k a1 a2 a3 => ?_) (fun b j hj => ?_) (fun b hb => ?_)
    · rw [u3_kk _ _ a3, u3_kk _ _ a2, u3_kk _ _ a1, u3_kk _ _ a1]
    · simp [u3, show j ≠ 0 by omega, show j ≠ 1 by omega]
    · obtain ⟨g1, g2⟩ := h.2.2.2.2.1 b hb
      refine ⟨?_, fun c hc => ?_⟩
      · by_cases e : b = a
        · subst e
          exact ⟨v, w, hv1, hw1, by simp [u3], by simp [u3], by simp [u3], by simp [u3]⟩
        · obtain ⟨x, y, x1, y1, q1, q2, q3, q4⟩ := g1
          exact ⟨x, y, x1, y1, by simpa [u3, e] using q1, by simpa [u3, e] using q2, by simpa [u3, e] using q3, by simpa [u3, e] using q4⟩
      · simpa [u3] using g2 c hc
  · refine LC.of (x_version_bad hc) (m_version_bad ?_) h
    rintro ⟨z1, z2, z3⟩
    exact hc ⟨by
      obtain ⟨j, hj, rfl⟩ := ix_le (n := 6) (by decide) z1
      exact in6 hj, (e10 v).mp z2, (e10 w).mp z3⟩
theorem x_service_bad {a x y z : Int32} (h : ¬ ((0 ≤ a ∧ a < 6) ∧ (1 ≤ x ∧ x ≤ 3) ∧ (0 ≤ y ∧ y ≤ 9) ∧ (0 ≤ z ∧ z ≤ 99))) : am_D l 117 [aR 11 0, aI a, aI x, aI y, aI z] σ τ (rX t) cX lX (some (aI (-1))) σ τ (rX t) := by
  refine am_D_of am_o117 am_l117 rfl ?_
  refine am_vc_ok am_k117 [] 100 ?_
  refine am_vS am_k117 am_h117 rfl rfl rfl rfl (x_within) ?_
  refine am_vc_ok am_k117 [] 100 ?_
  refine And.intro (fun h1 => ?_) (fun h1 => ?_)
  · exact am_vI am_k117 am_r117 rfl ⟨rfl, rfl, rfl, rfl, rfl, rfl⟩
  refine And.intro (fun h2 => ?_) (fun h2 => ?_)
  · exact am_vI am_k117 am_r117 rfl ⟨rfl, rfl, rfl, rfl, rfl, rfl⟩
  refine And.intro (fun h3 => ?_) (fun h3 => ?_)
  · refine And.intro (fun h4 => ?_) (fun h4 => ?_)
    · exact am_vI am_k117 am_r117 rfl ⟨rfl, rfl, rfl, rfl, rfl, rfl⟩
    refine And.intro (fun h5 => ?_) (fun h5 => ?_)
    · exact am_vI am_k117 am_r117 rfl ⟨rfl, rfl, rfl, rfl, rfl, rfl⟩
    refine And.intro (fun h6 => ?_) (fun h6 => ?_)
    · exact am_vI am_k117 am_r117 rfl ⟨rfl, rfl, rfl, rfl, rfl, rfl⟩
    refine And.intro (fun h7 => ?_) (fun h7 => ?_)
    · exact absurd ⟨bI_1.mp h1, ⟨Int32.not_lt.mp h2, h3⟩, ⟨Int32.not_lt.mp h4, Int32.not_lt.mp h5⟩, ⟨Int32.not_lt.mp h6, h7⟩⟩ h
    · exact am_vI am_k117 am_r117 rfl ⟨rfl, rfl, rfl, rfl, rfl, rfl⟩
  · exact am_vI am_k117 am_r117 rfl ⟨rfl, rfl, rfl, rfl, rfl, rfl⟩
theorem x_service {a : Nat} {x y z : Int32} (ha : a < 6) (hx : 1 ≤ x ∧ x ≤ 3) (hy : 0 ≤ y ∧ y ≤ 9) (hz : 0 ≤ z ∧ z ≤ 99) : am_D l 117 [aR 11 0, aI (nI a), aI x, aI y, aI z] σ τ (rX t) cX lX (some (aI 1)) (u3 (u3 (u3 σ 8 a 2 x) 8 a 3 y) 8 a 4 z) τ (rX t) := by
  refine am_D_of am_o117 am_l117 rfl ?_
  refine am_vc_ok am_k117 [] 100 ?_
  refine am_vS am_k117 am_h117 rfl rfl rfl rfl (x_within) ?_
  refine am_vc_ok am_k117 [] 100 ?_
  refine And.intro (fun h1 => ?_) (fun h1 => ?_)
  · exact absurd (in6 ha) (bI_0.mp h1)
  refine And.intro (fun g => absurd hx.1 (Int32.not_le.mpr g)) (fun _ => ?_)
  refine And.intro (fun _ => ?_) (fun g => absurd hx.2 g)
  refine And.intro (fun g => absurd hy.1 (Int32.not_le.mpr g)) (fun _ => ?_)
  refine And.intro (fun g => absurd hy.2 (Int32.not_le.mpr g)) (fun _ => ?_)
  refine And.intro (fun g => absurd hz.1 (Int32.not_le.mpr g)) (fun _ => ?_)
  refine And.intro (fun _ => ?_) (fun g => absurd hz.2 g)
  refine And.intro (vp_in_nI (N := 6) ha (by decide)) ?_
  rw [nI_clamp (by omega)]
  refine And.intro (vp_in_nI (N := 6) ha (by decide)) ?_
  rw [nI_clamp (by omega)]
  refine And.intro (vp_in_nI (N := 6) ha (by decide)) ?_
  rw [nI_clamp (by omega)]
  exact am_vI am_k117 am_r117 rfl ⟨rfl, rfl, rfl, rfl, rfl, rfl⟩
theorem m_service_bad {a x y z : Int32} (h : ¬ ((0 ≤ a ∧ a ≤ 5) ∧ (1 ≤ x ∧ x ≤ 3) ∧ (0 ≤ y ∧ y ≤ 9) ∧ (0 ≤ z ∧ z ≤ 99))) : am_D l 208 [aR 12 0, aI a, aI x, aI y, aI z] σ τ (rX t) cX lX (some (aI (-1))) σ τ (rX t) := by
  refine am_D_of am_o208 am_l208 rfl ?_
  refine am_vc_ok am_k208 [] 100 ?_
  refine am_vS am_k208 am_h208 rfl rfl rfl rfl (m_isSix) ?_
  refine am_vc_ok am_k208 [] 100 ?_
  refine And.intro (fun h1 => ?_) (fun h1 => ?_)
  · exact am_vI am_k208 am_r208 rfl ⟨rfl, rfl, rfl, rfl, rfl, rfl⟩
  refine am_vS am_k208 am_h208 rfl rfl rfl rfl (m_in) ?_
  refine am_vc_ok am_k208 [] 100 ?_
  refine And.intro (fun h2 => ?_) (fun h2 => ?_)
  · exact am_vI am_k208 am_r208 rfl ⟨rfl, rfl, rfl, rfl, rfl, rfl⟩
  refine am_vS am_k208 am_h208 rfl rfl rfl rfl (m_in) ?_
  refine am_vc_ok am_k208 [] 100 ?_
  refine And.intro (fun h3 => ?_) (fun h3 => ?_)
  · exact am_vI am_k208 am_r208 rfl ⟨rfl, rfl, rfl, rfl, rfl, rfl⟩
  refine am_vS am_k208 am_h208 rfl rfl rfl rfl (m_in) ?_
  refine am_vc_ok am_k208 [] 100 ?_
  refine And.intro (fun h4 => ?_) (fun h4 => ?_)
  · exact am_vI am_k208 am_r208 rfl ⟨rfl, rfl, rfl, rfl, rfl, rfl⟩
  · exact absurd ⟨bI_1.mp h1, bI_1.mp h2, bI_1.mp h3, bI_1.mp h4⟩ h
theorem m_service {a : Nat} {x y z : Int32} (ha : a < 6) (hx : 1 ≤ x ∧ x ≤ 3) (hy : 0 ≤ y ∧ y ≤ 9) (hz : 0 ≤ z ∧ z ≤ 99) : am_D l 208 [aR 12 0, aI (nI a), aI x, aI y, aI z] σ τ (rX t) cX lX (some (aI 1)) (u3 (u3 (u3 σ 62 0 a x) 63 0 a y) 64 0 a z) τ (rX t) := by
  refine am_D_of am_o208 am_l208 rfl ?_
  refine am_vc_ok am_k208 [] 100 ?_
  refine am_vS am_k208 am_h208 rfl rfl rfl rfl (m_isSix) ?_
  refine am_vc_ok am_k208 [] 100 ?_
  refine And.intro (fun h1 => ?_) (fun h1 => ?_)
  · exact absurd (in5 ha) (bI_0.mp h1)
  refine am_vS am_k208 am_h208 rfl rfl rfl rfl (m_in) ?_
  refine am_vc_ok am_k208 [] 100 ?_
  refine And.intro (fun h2 => ?_) (fun h2 => ?_)
  · exact absurd hx (bI_0.mp h2)
  refine am_vS am_k208 am_h208 rfl rfl rfl rfl (m_in) ?_
  refine am_vc_ok am_k208 [] 100 ?_
  refine And.intro (fun h3 => ?_) (fun h3 => ?_)
  · exact absurd hy (bI_0.mp h3)
  refine am_vS am_k208 am_h208 rfl rfl rfl rfl (m_in) ?_
  refine am_vc_ok am_k208 [] 100 ?_
  refine And.intro (fun h4 => ?_) (fun h4 => ?_)
  · exact absurd hz (bI_0.mp h4)
  refine And.intro (vp_in_nI (N := 6) ha (by decide)) ?_
  rw [nI_clamp (by omega)]
  refine And.intro (vp_in_nI (N := 6) ha (by decide)) ?_
  rw [nI_clamp (by omega)]
  refine And.intro (vp_in_nI (N := 6) ha (by decide)) ?_
  rw [nI_clamp (by omega)]
  exact am_vI am_k208 am_r208 rfl ⟨rfl, rfl, rfl, rfl, rfl, rfl⟩
/-- only the net's cells may have changed -/
theorem Rall.net {σ σ2 : tI} {τ : tL} {T n m lo kk : Nat} (h : Rall σ τ) (hk : ∀ k, kNet k = false → k ≠ 8 → k ≠ 12 → σ2 k = σ k) (h8 : ∀ a, a < 6 → σ2 8 a 0 = σ 8 a 0 ∧ σ2 8 a 1 = σ 8 a 1) (h12 : ∀ j, jNet j = false → σ2 12 0 j = σ 12 0 j) (hN : Rnet σ2 T n m lo kk) : Rall σ2 τ := by
  obtain ⟨h1, h2, h3, h4, h5, h6, -⟩ := h
  have kn : ∀ {k : Nat}, kShapes k = true → kNet k = false ∧ k ≠ 8 ∧ k ≠ 12 := by
    intro k z
    refine ⟨?_, kNe z rfl, kNe z rfl⟩
    cases hq : kNet k with
    | false => rfl
    | true =>
      exfalso
      unfold kShapes at z
      unfold kNet at hq
      simp only [Bool.or_eq_true, Bool.and_eq_true, Nat.ble_eq, Nat.beq_eq] at z hq
      omega
  have g6 := hk 6 rfl (by decide) (by decide)
  have g30 := hk 30 rfl (by decide) (by decide)
  have g49 := hk 49 rfl (by decide) (by decide)
  exact ⟨h1.fr (fun r _ => by rw [g6]) (fun r _ => by rw [g30]) (hk 44 rfl (by decide) (by decide)) (hk 45 rfl (by decide) (by decide)), h2.fr (fun r _ => by rw [g6]) (fun r _ => by rw [g30]) (hk 47 rfl (by decide) (by decide)) (hk 48 rfl (by decide) (by decide)), h3.fr (fun k z => hk k (kn z).1 (kn z).2.1 (kn z).2.2), h4.fr (hk 4 rfl (by decide) (by decide)) (hk 55 rfl (by decide) (by decide)) (hk 56 rfl (by decide) (by decide)) (by rw [g6]) (by rw [g30]) (h12 24 rfl), h5.fr h8 (hk 57 rfl (by decide) (by decide)) (hk 58 rfl (by decide) (by decide)) (hk 31 rfl (by decide) (by decide)) (hk 59 rfl (by decide) (by decide)) (fun s _ z => by rw [g49]; exact z), h6.fr (hk 11 rfl (by decide) (by decide)) (hk 42 rfl (by decide) (by decide)) (hk 43 rfl (by decide) (by decide)) (h12 0 rfl) (h12 2 rfl), T, n, m, lo, kk, hN⟩
theorem LC_service (h : Rall σ τ) (a x y z : Int32) : LC l 117 208 [aI a, aI x, aI y, aI z] σ τ t := by
  by_cases hc : (0 ≤ a ∧ a < 6) ∧ (1 ≤ x ∧ x ≤ 3) ∧ (0 ≤ y ∧ y ≤ 9) ∧ (0 ≤ z ∧ z ≤ 99)
  · obtain ⟨ha, hx, hy, hz⟩ := hc
    obtain ⟨a, ha1, rfl⟩ := ix_lt (n := 6) (by decide) ha
    refine LC.of (x_service ha1 hx hy hz) (m_service ha1 hx hy hz) ?_
    obtain ⟨-, -, -, -, -, -, T, n, m, lo, k, hN⟩ := id h
    refine h.net (T := T) (n := n) (m := m) (lo := lo) (kk := k) (fun q z1 z2 z3 => ?_) (fun b hb => ?_) (fun j _ => ?_) ?_
    · have b1 : q ≠ 62 := fun e => by rw [e] at z1; cases z1
      have b2 : q ≠ 63 := fun e => by rw [e] at z1; cases z1
      have b3 : q ≠ 64 := fun e => by rw [e] at z1; cases z1
      rw [u3_kk _ _ b3, u3_kk _ _ b2, u3_kk _ _ b1, u3_kk _ _ z2, u3_kk _ _ z2, u3_kk _ _ z2]
    · simp [u3]
    · simp [u3]
    · obtain ⟨x, hx1, rfl⟩ := ix_le (n := 4) (N := 3) (by decide) ⟨Int32.le_trans (by decide) hx.1, hx.2⟩
      obtain ⟨y, hy1, rfl⟩ := ix_le (n := 10) (by decide) hy
      obtain ⟨z, hz1, rfl⟩ := ix_le (n := 100) (by decide) hz
      have hx0 : 1 ≤ x := (nI_leI (a := 1) (by decide) (by omega)).mp hx.1
      obtain ⟨g1, g2, g3, g4, g5, g6, g7, g8, g9, g10, g11, g12, g13⟩ := hN
      have hN2 : Rnet (u3 (u3 (u3 (u3 (u3 (u3 σ 8 a 2 (nI x)) 8 a 3 (nI y)) 8 a 4 (nI z)) 62 0 a (nI x)) 63 0 a (nI y)) 64 0 a (nI z)) T n m lo k := by
        refine ⟨by simpa [u3] using g1, by simpa [u3] using g2, by simpa [u3, Rcall, Ocall, undU] using g3, by simpa [u3, Fcall] using g4, by simpa [u3] using g5, fun b hb => ?_, by simpa [u3] using g7, by simpa [u3, Rframe, Oframe] using g8, by simpa [u3] using g9, by simpa [u3] using g10, by simpa [u3] using g11, by simpa [u3] using g12, by simpa [u3, asksU] using g13⟩
        obtain ⟨q1, q2, q3, q4, q5, q6, q7, q8⟩ := g6 b hb
        by_cases e : b = a
        · subst e
          exact ⟨by simp [u3], by simp [u3], by simp [u3], ⟨x, hx0, by omega, by simp [u3]⟩, ⟨y, by omega, by simp [u3]⟩, ⟨z, by omega, by simp [u3]⟩, by simpa [u3] using q7, by simpa [u3] using q8⟩
        · exact ⟨by simpa [u3, e] using q1, by simpa [u3, e] using q2, by simpa [u3, e] using q3, by simpa [u3, e] using q4, by simpa [u3, e] using q5, by simpa [u3, e] using q6, by simpa [u3] using q7, by simpa [u3] using q8⟩
      exact hN2
  · refine LC.of (x_service_bad hc) (m_service_bad ?_) h
    rintro ⟨z1, z2⟩
    exact hc ⟨by
      obtain ⟨j, hj, rfl⟩ := ix_le (n := 6) (by decide) z1
      exact in6 hj, z2⟩
end L6
