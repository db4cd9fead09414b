/-! CASES OF THE LAW: piece -/
section L11
variable {l : Launch} {σ σ2 s : tI} {τ τ2 : tL} {t : Option (Nat × Nat)}
theorem x_piece_bad {c : Int32} (h : ¬ (0 ≤ c ∧ c < σ 3 0 5)) : am_D l 131 [aR 11 0, aI c] σ τ (rX t) cX lX (some (aI (-1))) σ τ (rX t) := by
  refine am_D_of am_o131 am_l131 rfl ?_
  refine am_vc_ok am_k131 [] 100 ?_
  refine am_vS am_k131 am_h131 rfl rfl rfl rfl (x_within) ?_
  refine am_vc_ok am_k131 [] 100 ?_
  refine And.intro (fun h1 => ?_) (fun h1 => ?_)
  · exact am_vI am_k131 am_r131 rfl ⟨rfl, rfl, rfl, rfl, rfl, rfl⟩
  · exact absurd (bI_1.mp h1) h
theorem x_piece_full {c n : Nat} (hn : σ 3 0 5 = nI n) (hn2 : n ≤ 30) (hc : c < n) (hS : σ 3 0 8 = nI 200) : am_D l 131 [aR 11 0, aI (nI c)] σ τ (rX t) cX lX (some (aI (-2))) σ τ (rX t) := by
  refine am_D_of am_o131 am_l131 rfl ?_
  refine am_vc_ok am_k131 [] 100 ?_
  refine am_vS am_k131 am_h131 rfl rfl rfl rfl (x_within) ?_
  refine am_vc_ok am_k131 [] 100 ?_
  refine And.intro (fun g => absurd (by rw [hn]; exact inN hc (by omega)) (bI_0.mp g)) (fun _ => ?_)
  refine And.intro (fun g => absurd g (by rw [hS]; decide)) (fun _ => ?_)
  exact am_vI am_k131 am_r131 rfl ⟨rfl, rfl, rfl, rfl, rfl, rfl⟩
theorem x_piece_not {c n S : Nat} (hn : σ 3 0 5 = nI n) (hn2 : n ≤ 30) (hc : c < n) (hS : σ 3 0 8 = nI S) (hS2 : S < 200) (h7 : ¬ (σ 0 c 7 = 3 ∧ σ 0 c 17 < σ 0 c 16)) : am_D l 131 [aR 11 0, aI (nI c)] σ τ (rX t) cX lX (some (aI (-4))) σ τ (rX t) := by
  refine am_D_of am_o131 am_l131 rfl ?_
  refine am_vc_ok am_k131 [] 100 ?_
  refine am_vS am_k131 am_h131 rfl rfl rfl rfl (x_within) ?_
  refine am_vc_ok am_k131 [] 100 ?_
  refine And.intro (fun g => absurd (by rw [hn]; exact inN hc (by omega)) (bI_0.mp g)) (fun _ => ?_)
  refine And.intro (fun _ => ?_) (fun g => absurd (by rw [hS]; exact nI_lt (b := 200) hS2 (by decide)) g)
  refine And.intro (vp_in_nI (N := 30) (by omega) (by decide)) ?_
  rw [nI_clamp (by omega)]
  refine And.intro (fun g1 => ?_) (fun _ => ?_)
  · refine And.intro (fun g2 => absurd ⟨g1, g2⟩ h7) (fun _ => ?_)
    exact am_vI am_k131 am_r131 rfl ⟨rfl, rfl, rfl, rfl, rfl, rfl⟩
  · exact am_vI am_k131 am_r131 rfl ⟨rfl, rfl, rfl, rfl, rfl, rfl⟩
theorem x_piece {c n S m x : Nat} (hn : σ 3 0 5 = nI n) (hn2 : n ≤ 30) (hc : c < n) (hS : σ 3 0 8 = nI S) (hS2 : S < 200) (h7 : σ 0 c 7 = 3 ∧ σ 0 c 17 < σ 0 c 16) (hx : σ 0 c 17 = nI x) (hm : σ 1 0 0 = nI m) (hm2 : m < 690) : am_D l 131 [aR 11 0, aI (nI c)] σ τ (rX t) cX lX (some (aI (nI m))) (xsend (u3 (u3 σ 3 0 8 (nI (S + 1))) 0 c 17 (nI (x + 1))) m c 4 (σ 0 c 1) (σ 0 c 0) (nI (x + 1))) τ (rX t) := by
  refine am_D_of am_o131 am_l131 rfl ?_
  refine am_vc_ok am_k131 [] 100 ?_
  refine am_vS am_k131 am_h131 rfl rfl rfl rfl (x_within) ?_
  refine am_vc_ok am_k131 [] 100 ?_
  refine And.intro (fun g => absurd (by rw [hn]; exact inN hc (by omega)) (bI_0.mp g)) (fun _ => ?_)
  refine And.intro (fun _ => ?_) (fun g => absurd (by rw [hS]; exact nI_lt (b := 200) hS2 (by decide)) g)
  refine And.intro (vp_in_nI (N := 30) (by omega) (by decide)) ?_
  rw [nI_clamp (by omega)]
  refine And.intro (fun _ => ?_) (fun g => absurd h7.1 g)
  refine And.intro (fun _ => ?_) (fun g => absurd h7.2 g)
  refine am_vc_ok am_k131 [] 100 ?_
  refine am_vO am_k131 am_h131 rfl rfl rfl rfl (x_nsend4 (m := m) (by omega) (by simp [u3, hm]) hm2) ?_
  refine am_vc_ok am_k131 [] 100 ?_
  refine am_vI am_k131 am_r131 rfl ⟨rfl, ?_, rfl, rfl, rfl, rfl⟩
  rw [hS, show nI S + 1 = nI (S + 1) from nI_1 S]
  simp only [u3_jj (show 0 ≠ 17 by decide), u3_jj (show 1 ≠ 17 by decide), u3_eq, u3_k _ _ (show 0 ≠ 3 by decide), hx, show nI x + 1 = nI (x + 1) from nI_1 x]
theorem m_piece_bad {c : Int32} (h : ¬ (0 ≤ c ∧ c ≤ σ 12 0 34 - 1)) : am_D l 243 [aR 12 0, aI c] σ τ (rX t) cX lX (some (aI (-1))) σ τ (rX t) := by
  refine am_D_of am_o243 am_l243 rfl ?_
  refine am_vc_ok am_k243 [] 100 ?_
  refine am_vO am_k243 am_h243 rfl rfl rfl rfl (m_isCall) ?_
  refine am_vc_ok am_k243 [] 100 ?_
  refine And.intro (fun h1 => ?_) (fun h1 => ?_)
  · exact am_vI am_k243 am_r243 rfl ⟨rfl, rfl, rfl, rfl, rfl, rfl⟩
  · exact absurd (bI_1.mp h1) h
theorem m_piece_full {c : Int32} (hc : 0 ≤ c ∧ c ≤ σ 12 0 34 - 1) (hS : σ 12 0 63 = nI 200) : am_D l 243 [aR 12 0, aI c] σ τ (rX t) cX lX (some (aI (-2))) σ τ (rX t) := by
  refine am_D_of am_o243 am_l243 rfl ?_
  refine am_vc_ok am_k243 [] 100 ?_
  refine am_vO am_k243 am_h243 rfl rfl rfl rfl (m_isCall) ?_
  refine am_vc_ok am_k243 [] 100 ?_
  refine And.intro (fun g => absurd hc (bI_0.mp g)) (fun _ => ?_)
  refine And.intro (fun _ => ?_) (fun g => absurd hS g)
  exact am_vI am_k243 am_r243 rfl ⟨rfl, rfl, rfl, rfl, rfl, rfl⟩
theorem m_piece_not {c S : Nat} (hc : 0 ≤ nI c ∧ nI c ≤ σ 12 0 34 - 1) (hc2 : c < 30) (hS : σ 12 0 63 = nI S) (hS2 : S < 200) (h7 : ¬ (σ 71 0 c = 3 ∧ ¬ σ 82 0 c = σ 81 0 c)) : am_D l 243 [aR 12 0, aI (nI c)] σ τ (rX t) cX lX (some (aI (-4))) σ τ (rX t) := by
  refine am_D_of am_o243 am_l243 rfl ?_
  refine am_vc_ok am_k243 [] 100 ?_
  refine am_vO am_k243 am_h243 rfl rfl rfl rfl (m_isCall) ?_
  refine am_vc_ok am_k243 [] 100 ?_
  refine And.intro (fun g => absurd hc (bI_0.mp g)) (fun _ => ?_)
  refine And.intro (fun g => absurd ((nI_eq (b := 200) (by omega) (by decide)).mp (hS.symm.trans g)) (by omega)) (fun _ => ?_)
  refine And.intro (vp_in_nI (N := 30) (by omega) (by decide)) ?_
  rw [nI_clamp (by omega)]
  refine And.intro (fun g1 => ?_) (fun _ => ?_)
  · refine And.intro (vp_in_nI (N := 30) (by omega) (by decide)) ?_
    refine And.intro (vp_in_nI (N := 30) (by omega) (by decide)) ?_
    rw [nI_clamp (by omega)]
    refine And.intro (fun _ => ?_) (fun g2 => absurd ⟨g1, g2⟩ h7)
    exact am_vI am_k243 am_r243 rfl ⟨rfl, rfl, rfl, rfl, rfl, rfl⟩
  · exact am_vI am_k243 am_r243 rfl ⟨rfl, rfl, rfl, rfl, rfl, rfl⟩
theorem m_piece {c S m x : Nat} (hc : 0 ≤ nI c ∧ nI c ≤ σ 12 0 34 - 1) (hc2 : c < 30) (hS : σ 12 0 63 = nI S) (hS2 : S < 200) (h7 : σ 71 0 c = 3 ∧ ¬ σ 82 0 c = σ 81 0 c) (hx : σ 82 0 c = nI x) (hm : σ 12 0 54 = nI m) (hm2 : m < 690) : am_D l 243 [aR 12 0, aI (nI c)] σ τ (rX t) cX lX (some (aI (nI m))) (msend (u3 (u3 σ 12 0 63 (nI (S + 1))) 82 0 c (nI (x + 1))) m 4 (σ 66 0 c) (σ 65 0 c) (nI c) (nI (x + 1))) τ (rX t) := by
  refine am_D_of am_o243 am_l243 rfl ?_
  refine am_vc_ok am_k243 [] 100 ?_
  refine am_vO am_k243 am_h243 rfl rfl rfl rfl (m_isCall) ?_
  refine am_vc_ok am_k243 [] 100 ?_
  refine And.intro (fun g => absurd hc (bI_0.mp g)) (fun _ => ?_)
  refine And.intro (fun g => absurd ((nI_eq (b := 200) (by omega) (by decide)).mp (hS.symm.trans g)) (by omega)) (fun _ => ?_)
  refine And.intro (vp_in_nI (N := 30) (by omega) (by decide)) ?_
  rw [nI_clamp (by omega)]
  refine And.intro (fun _ => ?_) (fun g => absurd h7.1 g)
  refine And.intro (vp_in_nI (N := 30) (by omega) (by decide)) ?_
  refine And.intro (vp_in_nI (N := 30) (by omega) (by decide)) ?_
  rw [nI_clamp (by omega)]
  refine And.intro (fun g => absurd g h7.2) (fun _ => ?_)
  refine And.intro (vp_in_nI (N := 30) (by omega) (by decide)) ?_
  refine And.intro (vp_in_nI (N := 30) (by omega) (by decide)) ?_
  refine And.intro (vp_in_nI (N := 30) (by omega) (by decide)) ?_
  rw [nI_clamp (by omega)]
  refine am_vO am_k243 am_h243 rfl rfl rfl rfl (m_sendBack (m := m) hc2 (by simp [u3, hm]) hm2) ?_
  refine am_vc_ok am_k243 [] 100 ?_
  refine am_vI am_k243 am_r243 rfl ⟨rfl, ?_, rfl, rfl, rfl, rfl⟩
  rw [hS, show nI S + 1 = nI (S + 1) from nI_1 S]
  simp only [u3_eq, u3_k _ _ (show 82 ≠ 12 by decide), hx, show nI x + 1 = nI (x + 1) from nI_1 x]
  rfl
abbrev spc (σ : tI) (c x : Nat) : tI := u3 (u3 σ 0 c 17 (nI (x + 1))) 82 0 c (nI (x + 1))
theorem Rnet0.pc {T n m lo k c x y : Nat} (h : Rnet0 σ T n m lo k) (hc : c < n) (hx : σ 82 0 c = nI x) (hy : σ 81 0 c = nI y) (hxy : x < y) (hy2 : y ≤ 7000) : Rnet0 (spc σ c x) T n m lo k := by
  have e : ∀ q, q ≠ 0 → q ≠ 82 → spc σ c x q = σ q := by
    intro q a1 a2
    unfold spc
    rw [u3_kk _ _ a2, u3_kk _ _ a1]
  have e0 : ∀ c2 j, c2 ≠ c ∨ j ≠ 17 → spc σ c x 0 c2 j = σ 0 c2 j := by
    intro c2 j hj
    unfold spc
    rw [u3_k _ _ (by decide)]
    rcases hj with hj | hj
    · exact u3_i _ _ hj
    · exact u3_j _ _ hj
  have e82 : ∀ c2, c2 ≠ c → spc σ c x 82 0 c2 = σ 82 0 c2 := by
    intro c2 hj
    unfold spc
    rw [u3_j _ _ hj]
    exact u3_k _ _ (by decide)
  have v17 : spc σ c x 0 c 17 = nI (x + 1) := by simp [spc, u3]
  have v82 : spc σ c x 82 0 c = nI (x + 1) := by simp [spc, u3]
  generalize spc σ c x = s at e e0 e82 v17 v82 ⊢
  have d : ∀ q, (Nat.ble 1 q && Nat.ble q 81 || Nat.ble 83 q) = true → s q = σ q := by
    intro q z
    simp only [Bool.or_eq_true, Bool.and_eq_true, Nat.ble_eq] at z
    exact e q (by omega) (by omega)
  obtain ⟨h1, h2, h3, h4, h5, h6, h7⟩ := h
  refine ⟨?_, ?_, ?_, ?_, ?_, ?_, ?_⟩
  · rw [d 3 rfl, d 12 rfl]; exact h1
  · rw [d 3 rfl, d 12 rfl]; exact h2
  · intro c2 hc2
    obtain ⟨g1, g2, g3⟩ := h3 c2 hc2
    have gU : undU s lo m c2 = undU σ lo m c2 := by unfold undU; rw [d 89 rfl]
    rw [gU, e0 c2 11 (Or.inr (by decide))]
    refine ⟨?_, ?_, g3⟩
    · unfold Rcall at g1 ⊢
      have g17 : s 0 c2 17 = s 82 0 c2 := by
        by_cases hcc : c2 = c
        · rw [hcc, v17, v82]
        · rw [e0 c2 17 (Or.inl hcc), e82 c2 hcc]; exact g1.2.2.2.2.2.2.2.2.2.2.2.2.2.2.2.1
      rw [e0 c2 0 (Or.inr (by decide)), e0 c2 1 (Or.inr (by decide)), e0 c2 2 (Or.inr (by decide)), e0 c2 3 (Or.inr (by decide)), e0 c2 4 (Or.inr (by decide)), e0 c2 5 (Or.inr (by decide)), e0 c2 6 (Or.inr (by decide)), e0 c2 7 (Or.inr (by decide)), e0 c2 8 (Or.inr (by decide)), e0 c2 9 (Or.inr (by decide)), e0 c2 10 (Or.inr (by decide)), e0 c2 12 (Or.inr (by decide)), e0 c2 13 (Or.inr (by decide)), e0 c2 14 (Or.inr (by decide)), e0 c2 15 (Or.inr (by decide)), e0 c2 16 (Or.inr (by decide)), e0 c2 18 (Or.inr (by decide)), d 13 rfl, d 65 rfl, d 66 rfl, d 67 rfl, d 68 rfl, d 69 rfl, d 70 rfl, d 71 rfl, d 72 rfl, d 73 rfl, d 74 rfl, d 75 rfl, d 76 rfl, d 77 rfl, d 78 rfl, d 79 rfl, d 80 rfl, d 81 rfl, d 83 rfl]
      obtain ⟨k0, k1, k2, k3, k4, k5, k6, k7, k8, k9, k10, k12, k14, k15, k16, -, k18⟩ := g1
      exact ⟨k0, k1, k2, k3, k4, k5, k6, k7, k8, k9, k10, k12, k14, k15, k16, g17, k18⟩
    · unfold Ocall at g2 ⊢
      rw [d 65 rfl, d 66 rfl, d 67 rfl, d 68 rfl, d 70 rfl, d 71 rfl, d 72 rfl, d 77 rfl, d 78 rfl, d 81 rfl]
      obtain ⟨k1, k2, k3, k4, k5, k6, k7⟩ := g2
      refine ⟨k1, k2, k3, k4, k5, k6, ?_⟩
      by_cases hcc : c2 = c
      · rw [hcc, v82]; exact ⟨x + 1, y, by omega, hy2, rfl, hy⟩
      · rw [e82 c2 hcc]; exact k7
  · intro c2 hc1 hc2
    have g := h4 c2 hc1 hc2
    have hcc : c2 ≠ c := by omega
    unfold Fcall at g ⊢
    rw [e82 c2 hcc, e0 c2 7 (Or.inl hcc), e0 c2 8 (Or.inl hcc), e0 c2 9 (Or.inl hcc), e0 c2 11 (Or.inl hcc), e0 c2 12 (Or.inl hcc), e0 c2 14 (Or.inl hcc), e0 c2 15 (Or.inl hcc), e0 c2 16 (Or.inl hcc), e0 c2 17 (Or.inl hcc), e0 c2 18 (Or.inl hcc), d 13 rfl, d 72 rfl, d 73 rfl, d 77 rfl, d 80 rfl, d 81 rfl, d 83 rfl]
    exact g
  · rw [d 3 rfl, d 71 rfl]; exact h5
  · rw [d 8 rfl, d 62 rfl, d 63 rfl, d 64 rfl, d 66 rfl, d 77 rfl]; exact h6
  · unfold Rframe Oframe at h7 ⊢
    rw [d 1 rfl, d 2 rfl, d 12 rfl, d 14 rfl, d 15 rfl, d 16 rfl, d 17 rfl, d 18 rfl, d 19 rfl, d 20 rfl, d 21 rfl, d 22 rfl, d 23 rfl, d 72 rfl, d 84 rfl, d 85 rfl, d 86 rfl, d 87 rfl, d 88 rfl, d 89 rfl, d 90 rfl, d 91 rfl, d 92 rfl, d 93 rfl]
    exact h7
theorem Rnet.pc {T n m lo k c x y : Nat} (h : Rnet σ T n m lo k) (hc : c < n) (hx : σ 82 0 c = nI x) (hy : σ 81 0 c = nI y) (hxy : x < y) (hy2 : y ≤ 7000) : Rnet (spc σ c x) T n m lo k := by
  obtain ⟨h0, ha⟩ := h.split
  refine Rnet.join (h0.pc hc hx hy hxy hy2) ?_
  have e : ∀ q, q ≠ 0 → q ≠ 82 → spc σ c x q = σ q := by
    intro q a1 a2
    unfold spc
    rw [u3_kk _ _ a2, u3_kk _ _ a1]
  unfold Racc asksU at ha ⊢
  rw [e 3 (by decide) (by decide), e 12 (by decide) (by decide), e 71 (by decide) (by decide), e 72 (by decide) (by decide), e 77 (by decide) (by decide), e 81 (by decide) (by decide), e 84 (by decide) (by decide), e 89 (by decide) (by decide)]
  exact ha
theorem u3_comm {f : tI} {k i j k2 i2 j2 : Nat} {v w : Int32} (h : k ≠ k2) : u3 (u3 f k i j v) k2 i2 j2 w = u3 (u3 f k2 i2 j2 w) k i j v := by
  funext a b c
  by_cases h1 : a = k2
  · have h2 : a ≠ k := fun z => h (z.symm.trans h1)
    rw [u3_k _ v h2, h1]
    by_cases h3 : b = i2
    · by_cases h4 : c = j2
      · rw [h3, h4, u3_eq, u3_eq]
      · rw [u3_j _ _ h4, u3_j _ _ h4, u3_k _ _ (h1 ▸ h2)]
    · rw [u3_i _ _ h3, u3_i _ _ h3, u3_k _ _ (h1 ▸ h2)]
  · rw [u3_k _ w h1]
    by_cases h2 : a = k
    · rw [h2]
      by_cases h3 : b = i
      · by_cases h4 : c = j
        · rw [h3, h4, u3_eq, u3_eq]
        · rw [u3_j _ _ h4, u3_j _ _ h4, u3_k _ _ (h2 ▸ h1)]
      · rw [u3_i _ _ h3, u3_i _ _ h3, u3_k _ _ (h2 ▸ h1)]
    · rw [u3_k _ _ h2, u3_k _ _ h2, u3_k _ _ h1]
theorem spc_eq {S m c x : Nat} {a b : Int32} : msend (u3 (u3 (xsend (u3 (u3 σ 3 0 8 (nI (S + 1))) 0 c 17 (nI (x + 1))) m c 4 a b (nI (x + 1))) 12 0 63 (nI (S + 1))) 82 0 c (nI (x + 1))) m 4 a b (nI c) (nI (x + 1)) = sstr (spc σ c x) S m c 4 a b (nI (x + 1)) := by
  have e : u3 (u3 (xsend (u3 (u3 σ 3 0 8 (nI (S + 1))) 0 c 17 (nI (x + 1))) m c 4 a b (nI (x + 1))) 12 0 63 (nI (S + 1))) 82 0 c (nI (x + 1)) = u3 (xsend (u3 (spc σ c x) 3 0 8 (nI (S + 1))) m c 4 a b (nI (x + 1))) 12 0 63 (nI (S + 1)) := by
    simp only [xsend, xadd, spc]
    rw [u3_comm (show 12 ≠ 82 by decide), u3_comm (show 1 ≠ 82 by decide), u3_comm (show 20 ≠ 82 by decide), u3_comm (show 19 ≠ 82 by decide), u3_comm (show 18 ≠ 82 by decide), u3_comm (show 17 ≠ 82 by decide), u3_comm (show 16 ≠ 82 by decide), u3_comm (show 15 ≠ 82 by decide), u3_comm (show 14 ≠ 82 by decide), u3_comm (k := 0) (k2 := 82) (j := 11) (by decide), u3_comm (k := 3) (k2 := 0) (j2 := 17) (by decide), u3_comm (k := 3) (k2 := 82) (by decide)]
    rfl
  rw [e]
  rfl
theorem LC_piece (h : Rall σ τ) (c : Int32) : LC l 131 243 [aI c] σ τ t := by
  obtain ⟨-, -, -, -, -, -, T, n, m, lo, k, hN⟩ := id h
  obtain ⟨h0, P, S, Rp, Kc, g1, g2, g3, g4, g5, g6, -⟩ := hN.split
  have hm := h0.2.2.2.2.2.2.1
  have hn := h0.2.1
  by_cases hc : 0 ≤ c ∧ c < nI n
  · obtain ⟨c, hc1, rfl⟩ := ix_lt (nI_toInt (by omega)) hc
    have hcm : 0 ≤ nI c ∧ nI c ≤ nI n - 1 := (le_pred2 (by omega)).mpr hc
    by_cases hS : S < 200
    · have hC := (h0.2.2.1 c hc1).1
      obtain ⟨-, -, -, -, -, -, x, y, hxy, hy2, hx, hy⟩ := (h0.2.2.1 c hc1).2.1
      have c7 : σ 0 c 7 = σ 71 0 c := hC.2.2.2.2.2.2.2.1
      have c16 : σ 0 c 16 = nI y := (hC.st (w := 0) (by decide)).trans hy
      have c17 : σ 0 c 17 = nI x := (hC.st (w := 1) (by decide)).trans hx
      by_cases h7 : σ 71 0 c = 3 ∧ x < y
      · have hN2 := (hN.pc hc1 hx hy h7.2 hy2).strm (S := S) (a := σ 0 c 1) (b := σ 0 c 0) (v := nI (x + 1)) (kd := 4) (c := c) (Or.inl rfl) hc1 (by simp [spc, u3, g4]) hS (fun z => absurd z (by decide))
        have hm2 := hN2.m_le
        have hM := m_piece (l := l) (σ := xsend (u3 (u3 σ 3 0 8 (nI (S + 1))) 0 c 17 (nI (x + 1))) m c 4 (σ 0 c 1) (σ 0 c 0) (nI (x + 1))) (τ := τ) (t := t) (c := c) (S := S) (m := m) (x := x) (by simp [xsend, xadd, u3, hn.2.1]; exact hcm) (by omega) (by simp [xsend, xadd, u3, g5]) hS (by simp [xsend, xadd, u3, h7.1, hx, hy]; exact fun z => absurd ((nI_eq (by omega) (by omega)).mp z) (by omega)) (by simp [xsend, xadd, u3, hx]) (by simp [xsend, xadd, u3, hm.2]) (by omega)
        have q1 : xsend (u3 (u3 σ 3 0 8 (nI (S + 1))) 0 c 17 (nI (x + 1))) m c 4 (σ 0 c 1) (σ 0 c 0) (nI (x + 1)) 65 0 c = σ 0 c 0 := by rw [hC.1]; simp [xsend, xadd, u3]
        have q2 : xsend (u3 (u3 σ 3 0 8 (nI (S + 1))) 0 c 17 (nI (x + 1))) m c 4 (σ 0 c 1) (σ 0 c 0) (nI (x + 1)) 66 0 c = σ 0 c 1 := by rw [hC.2.1]; simp [xsend, xadd, u3]
        rw [q1, q2, spc_eq] at hM
        refine LC.of (x_piece hn.1 hn.2.2 hc1 g4 hS ⟨c7.trans h7.1, by rw [c16, c17]; exact nI_lt h7.2 (by omega)⟩ c17 hm.1 (by omega)) hM ?_
        refine h.net (fun q z1 z2 z3 => ?_) (fun c2 hc2 => ?_) (fun j z => ?_) hN2
        · have d : ∀ c, kNet c = true → q ≠ c := fun c hc e => by rw [e, hc] at z1; cases z1
          rw [sstr_k (d 0 rfl) (d 3 rfl) (d 1 rfl) z3 (kNet_fr z1)]
          unfold spc
          rw [u3_kk _ _ (d 82 rfl), u3_kk _ _ (d 0 rfl)]
        · have e8 := sstr_k (σ := spc σ c x) (S := S) (m := m) (c := c) (kd := 4) (a := σ 0 c 1) (b := σ 0 c 0) (v := nI (x + 1)) (q := 8) (by decide) (by decide) (by decide) (by decide) rfl
          exact ⟨congrFun (congrFun e8 c2) 0, congrFun (congrFun e8 c2) 1⟩
        · have d1 : j ≠ 54 := fun e => by rw [e] at z; cases z
          have d2 : j ≠ 63 := fun e => by rw [e] at z; cases z
          simp [sstr, msend, xsend, xadd, spc, u3, d1, d2]
      · refine LC.of (x_piece_not hn.1 hn.2.2 hc1 g4 hS ?_) (m_piece_not (by rw [hn.2.1]; exact hcm) (by omega) g5 hS ?_) h
        · rw [c7, c16, c17]
          exact fun z => h7 ⟨z.1, (nI_ltI (by omega) (by omega)).mp z.2⟩
        · rw [hx, hy]
          exact fun z => h7 ⟨z.1, Nat.lt_of_le_of_ne hxy (fun w => z.2 (by rw [w]))⟩
    · obtain rfl : S = 200 := by omega
      exact LC.of (x_piece_full hn.1 hn.2.2 hc1 g4) (m_piece_full (by rw [hn.2.1]; exact hcm) g5) h
  · exact LC.of (x_piece_bad (by rw [hn.1]; exact hc)) (m_piece_bad (by rw [hn.2.1]; exact fun z => hc ((le_pred2 (by omega)).mp z))) h
end L11
