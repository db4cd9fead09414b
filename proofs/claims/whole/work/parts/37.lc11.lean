/-! CASES OF THE LAW: piece -/
section L11
variable {l : Launch} {σ σ2 s : tI} {τ τ2 : tL} {t : Option (Nat × Nat)}
theorem x_piece_bad {c : Int32} (h : ¬ (0 ≤ c ∧ c < σ 3 0 5)) : am_D l 131 [aR 11 0, aI c] σ τ (rX t) cX lX (some (aI (-1))) σ τ (rX t) := by
  refine am_D_of am_o131 am_l131 rfl ?_
  refine am_vc_ok am_k131 [] 100 ?_
  refine am_vS am_k131 am_h131 rfl rfl rfl rfl (x_within) ?_
  refine am_vc_ok am_k131 [] 100 ?_
  refine And.intro (fun h1 => ?_) (fun h1 => ?_)
  · exact am_vI am_k131 am_r131 rfl ⟨rfl, rfl, rfl, rfl, rfl, rfl⟩
  · exact absurd (bI_1.mp h1) h
theorem x_piece_full {c n : Nat} (hn : σ 3 0 5 = nI n) (hn2 : n ≤ 30) (hc : c < n) (hS : σ 3 0 8 = nI 200) : am_D l 131 [aR 11 0, aI (nI c)] σ τ (rX t) cX lX (some (aI (-2))) σ τ (rX t) := by
  refine am_D_of am_o131 am_l131 rfl ?_
  refine am_vc_ok am_k131 [] 100 ?_
  refine am_vS am_k131 am_h131 rfl rfl rfl rfl (x_within) ?_
  refine am_vc_ok am_k131 [] 100 ?_
  refine And.intro (fun g => absurd (by rw [hn]; exact inN hc (by omega)) (bI_0.mp g)) (fun _ => ?_)
  refine And.intro (fun g => absurd g (by rw [hS]; decide)) (fun _ => ?_)
  exact am_vI am_k131 am_r131 rfl ⟨rfl, rfl, rfl, rfl, rfl, rfl⟩
theorem x_piece_not {c n S : Nat} (hn : σ 3 0 5 = nI n) (hn2 : n ≤ 30) (hc : c < n) (hS : σ 3 0 8 = nI S) (hS2 : S < 200) (h7 : ¬ (σ 0 c 7 = 3 ∧ σ 0 c 17 < σ 0 c 16)) : am_D l 131 [aR 11 0, aI (nI c)] σ τ (rX t) cX lX (some (aI (-4))) σ τ (rX t) := by
  refine am_D_of am_o131 am_l131 rfl ?_
  refine am_vc_ok am_k131 [] 100 ?_
  refine am_vS am_k131 am_h131 rfl rfl rfl rfl (x_within) ?_
  refine am_vc_ok am_k131 [] 100 ?_
  refine And.intro (fun g => absurd (by rw [hn]; exact inN hc (by omega)) (bI_0.mp g)) (fun _ => ?_)
  refine And.intro (fun _ => ?_) (fun g => absurd (by rw [hS]; exact nI_lt (b := 200) hS2 (by decide)) g)
  refine And.intro (vp_in_nI (N := 30) (by omega) (by decide)) ?_
  rw [nI_clamp (by omega)]
  refine And.intro (fun g1 => ?_) (fun _ => ?_)
  · refine And.intro (fun g2 => absurd ⟨g1, g2⟩ h7) (fun _ => ?_)
    exact am_vI am_k131 am_r131 rfl ⟨rfl, rfl, rfl, rfl, rfl, rfl⟩
  · exact am_vI am_k131 am_r131 rfl ⟨rfl, rfl, rfl, rfl, rfl, rfl⟩
theorem x_piece {c n S m x : Nat} (hn : σ 3 0 5 = nI n) (hn2 : n ≤ 30) (hc : c < n) (hS : σ 3 0 8 = nI S) (hS2 : S < 200) (h7 : σ 0 c 7 = 3 ∧ σ 0 c 17 < σ 0 c 16) (hx : σ 0 c 17 = nI x) (hm : σ 1 0 0 = nI m) (hm2 : m < 690) : am_D l 131 [aR 11 0, aI (nI c)] σ τ (rX t) cX lX (some (aI (nI m))) (xsend (u3 (u3 σ 3 0 8 (nI (S + 1))) 0 c 17 (nI (x + 1))) m c 4 (σ 0 c 1) (σ 0 c 0) (nI (x + 1))) τ (rX t) := by
  refine am_D_of am_o131 am_l131 rfl ?_
  refine am_vc_ok am_k131 [] 100 ?_
  refine am_vS am_k131 am_h131 rfl rfl rfl rfl (x_within) ?_
  refine am_vc_ok am_k131 [] 100 ?_
  refine And.intro (fun g => absurd (by rw [hn]; exact inN hc (by omega)) (bI_0.mp g)) (fun _ => ?_)
  refine And.intro (fun _ => ?_) (fun g => absurd (by rw [hS]; exact nI_lt (b := 200) hS2 (by decide)) g)
  refine And.intro (vp_in_nI (N := 30) (by omega) (by decide)) ?_
  rw [nI_clamp (by omega)]
  refine And.intro (fun _ => ?_) (fun g => absurd h7.1 g)
  refine And.intro (fun _ => ?_) (fun g => absurd h7.2 g)
  refine am_vc_ok am_k131 [] 100 ?_
  refine am_vO am_k131 am_h131 rfl rfl rfl rfl (x_nsend4 (m := m) (by omega) (by simp [u3, hm]) hm2) ?_
  refine am_vc_ok am_k131 [] 100 ?_
  refine am_vI am_k131 am_r131 rfl ⟨rfl, ?_, rfl, rfl, rfl, rfl⟩
  rw [hS, show nI S + 1 = nI (S + 1) from nI_1 S]
  simp only [u3_jj (show 0 ≠ 17 by decide), u3_jj (show 1 ≠ 17 by decide), u3_eq, u3_k _ _ (show 0 ≠ 3 by decide), hx, show nI x + 1 = nI (x + 1) from nI_1 x]
theorem m_piece_bad {c : Int32} (h : ¬ (0 ≤ c ∧ c ≤ σ 12 0 34 - 1)) : am_D l 243 [aR 12 0, aI c] σ τ (rX t) cX lX (some (aI (-1))) σ τ (rX t) := by
  refine am_D_of am_o243 am_l243 rfl ?_
  refine am_vc_ok am_k243 [] 100 ?_
  refine am_vO am_k243 am_h243 rfl rfl rfl rfl (m_isCall) ?_
  refine am_vc_ok am_k243 [] 100 ?_
  refine And.intro (fun h1 => ?_) (fun h1 => ?_)
  · exact am_vI am_k243 am_r243 rfl ⟨rfl, rfl, rfl, rfl, rfl, rfl⟩
  · exact absurd (bI_1.mp h1) h
theorem m_piece_full {c : Int32} (hc : 0 ≤ c ∧ c ≤ σ 12 0 34 - 1) (hS : σ 12 0 63 = nI 200) : am_D l 243 [aR 12 0, aI c] σ τ (rX t) cX lX (some (aI (-2))) σ τ (rX t) := by
  refine am_D_of am_o243 am_l243 rfl ?_
  refine am_vc_ok am_k243 [] 100 ?_
  refine am_vO am_k243 am_h243 rfl rfl rfl rfl (m_isCall) ?_
  refine am_vc_ok am_k243 [] 100 ?_
  refine And.intro (fun g => absurd hc (bI_0.mp g)) (fun _ => ?_)
  refine And.intro (fun _ => ?_) (fun g => absurd hS g)
  exact am_vI am_k243 am_r243 rfl ⟨rfl, rfl, rfl, rfl, rfl, rfl⟩
theorem m_piece_not {c S : Nat} (hc : 0 ≤ nI c ∧ nI c ≤ σ 12 0 34 - 1) (hc2 : c < 30) (hS : σ 12 0 63 = nI S) (hS2 : S < 200) (h7 : ¬ (σ 71 0 c = 3 ∧ ¬ σ 82 0 c = σ 81 0 c)) : am_D l 243 [aR 12 0, aI (nI c)] σ τ (rX t) cX lX (some (aI (-4))) σ τ (rX t) := by
  refine am_D_of am_o243 am_l243 rfl ?_
  refine am_vc_ok am_k243 [] 100 ?_
  refine am_vO am_k243 am_h243 rfl rfl rfl rfl (m_isCall) ?_
  refine am_vc_ok am_k243 [] 100 ?_
  refine And.intro (fun g => absurd hc (bI_0.mp g)) (fun _ => ?_)
  refine And.intro (fun g => absurd ((nI_eq (b := 200) (by omega) (by decide)).mp (hS.symm.trans g)) (by omega)) (fun _ => ?_)
  refine And.intro (vp_in_nI (N := 30) (by omega) (by decide)) ?_
  rw [nI_clamp (by omega)]
  refine And.intro (fun g1 => ?_) (fun _ => ?_)
  · refine And.intro (vp_in_nI (N := 30) (by omega) (by decide)) ?_
    refine And.intro (vp_in_nI (N := 30) (by omega) (by decide)) ?_
    rw [nI_clamp (by omega)]
    refine And.intro (fun _ => ?_) (fun g2 => absurd ⟨g1, g2⟩ h7)
    exact am_vI am_k243 am_r243 rfl ⟨rfl, rfl, rfl, rfl, rfl, rfl⟩
  · exact am_vI am_k243 am_r243 rfl ⟨rfl, rfl, rfl, rfl, rfl, rfl⟩
theorem m_piece {c S m x : Nat} (hc : 0 ≤ nI c ∧ nI c ≤ σ 12 0 34 - 1) (hc2 : c < 30) (hS : σ 12 0 63 = nI S) (hS2 : S < 200) (h7 : σ 71 0 c = 3 ∧ ¬ σ 82 0 c = σ 81 0 c) (hx : σ 82 0 c = nI x) (hm : σ 12 0 54 = nI m) (hm2 : m < 690) : am_D l 243 [aR 12 0, aI (nI c)] σ τ (rX t) cX lX (some (aI (nI m))) (msend (u3 (u3 σ 12 0 63 (nI (S + 1))) 82 0 c (nI (x + 1))) m 4 (σ 66 0 c) (σ 65 0 c) (nI c) (nI (x + 1))) τ (rX t) := by
  refine am_D_of am_o243 am_l243 rfl ?_
  refine am_vc_ok am_k243 [] 100 ?_
  refine am_vO am_k243 am_h243 rfl rfl rfl rfl (m_isCall) ?_
  refine am_vc_ok am_k243 [] 100 ?_
  refine And.intro (fun g => absurd hc (bI_0.mp g)) (fun _ => ?_)
  refine And.intro (fun g => absurd ((nI_eq (b := 200) (by omega) (by decide)).mp (hS.symm.trans g)) (by omega)) (fun _ => ?_)
  refine And.intro (vp_in_nI (N := 30) (by omega) (by decide)) ?_
  rw [nI_clamp (by omega)]
  refine And.intro (fun _ => ?_) (fun g => absurd h7.1 g)
  refine And.intro (vp_in_nI (N := 30) (by omega) (by decide)) ?_
  refine And.intro (vp_in_nI (N := 30) (by omega) (by decide)) ?_
  rw [nI_clamp (by omega)]
  refine And.intro (fun g => absurd g h7.2) (fun _ => ?_)
  refine And.intro (vp_in_nI (N := 30) (by omega) (by decide)) ?_
  refine And.intro (vp_in_nI (N := 30) (by omega) (by decide)) ?_
  refine And.intro (vp_in_nI (N := 30) (by omega) (by decide)) ?_
  rw [nI_clamp (by omega)]
  refine am_vO am_k243 am_h243 rfl rfl rfl rfl (m_sendBack (m := m) hc2 (by simp [u3, hm]) hm2) ?_
  refine am_vc_ok am_k243 [] 100 ?_
  refine am_vI am_k243 am_r243 rfl ⟨rfl, ?_, rfl, rfl, rfl, rfl⟩
  rw [hS, show nI S + 1 = nI (S + 1) from nI_1 S]
  simp only [u3_eq, u3_k _ _ (show 82 ≠ 12 by decide), hx, show nI x + 1 = nI (x + 1) from nI_1 x]
  rfl
end L11
