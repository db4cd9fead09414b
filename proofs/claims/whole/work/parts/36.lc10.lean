/-! CASES OF THE LAW: the class's send; credit -/
section L10
variable {l : Launch} {σ σ2 s : tI} {τ τ2 : tL} {t : Option (Nat × Nat)}
abbrev xsend (σ : tI) (m c : Nat) (kd a b d : Int32) : tI := xadd (u3 σ 0 c 11 (σ 0 c 11 + 1)) m kd a b (σ 3 0 4) (nI c) d
theorem u3_jj {f : tI} {k i j b : Nat} {v : Int32} (h : b ≠ j) : u3 f k i j v k i b = f k i b := by simp [u3, h]
theorem x_nsend5 {m c : Nat} {d : Int32} (hc : c < 30) (hm : σ 1 0 0 = nI m) (hm2 : m < 690) : am_D l 15 [aR 3 0, aI 5, aI (nI c), aI d] σ τ (rX t) cX lX (some (aI (nI m))) (xsend σ m c 5 (σ 0 c 0) (σ 0 c 1) d) τ (rX t) := by
  refine am_D_of am_o15 am_l15 rfl ?_
  refine am_vc_ok am_k15 [] 100 ?_
  refine And.intro (vp_in_nI (N := 30) hc (by decide)) ?_
  rw [nI_clamp (by omega)]
  refine And.intro (fun h => absurd h (by decide)) (fun _ => ?_)
  refine And.intro (fun h => absurd h (by decide)) (fun _ => ?_)
  refine And.intro (fun _ => ?_) (fun h => absurd rfl h)
  refine And.intro (fun h => absurd h (by decide)) (fun _ => ?_)
  refine And.intro (fun h => absurd h (by decide)) (fun _ => ?_)
  refine am_vO am_k15 am_h15 rfl rfl rfl rfl (x_addF (m := m) (by simp [u3, hm]) hm2) ?_
  refine am_vc_ok am_k15 [] 100 ?_
  refine am_vI am_k15 am_r15 rfl ⟨rfl, ?_, rfl, rfl, rfl, rfl⟩
  rw [u3_jj (show 0 ≠ 11 by decide), u3_jj (show 1 ≠ 11 by decide)]
  rfl
theorem x_nsend4 {m c : Nat} {d : Int32} (hc : c < 30) (hm : σ 1 0 0 = nI m) (hm2 : m < 690) : am_D l 15 [aR 3 0, aI 4, aI (nI c), aI d] σ τ (rX t) cX lX (some (aI (nI m))) (xsend σ m c 4 (σ 0 c 1) (σ 0 c 0) d) τ (rX t) := by
  refine am_D_of am_o15 am_l15 rfl ?_
  refine am_vc_ok am_k15 [] 100 ?_
  refine And.intro (vp_in_nI (N := 30) hc (by decide)) ?_
  rw [nI_clamp (by omega)]
  refine And.intro (fun h => absurd h (by decide)) (fun _ => ?_)
  refine And.intro (fun h => absurd h (by decide)) (fun _ => ?_)
  refine And.intro (fun h => absurd h (by decide)) (fun _ => ?_)
  refine And.intro (fun _ => ?_) (fun h => absurd rfl h)
  refine And.intro (fun _ => ?_) (fun h => absurd rfl h)
  refine am_vO am_k15 am_h15 rfl rfl rfl rfl (x_addF (m := m) (by simp [u3, hm]) hm2) ?_
  refine am_vc_ok am_k15 [] 100 ?_
  refine am_vI am_k15 am_r15 rfl ⟨rfl, ?_, rfl, rfl, rfl, rfl⟩
  rw [u3_jj (show 0 ≠ 11 by decide), u3_jj (show 1 ≠ 11 by decide)]
  rfl
theorem x_credit_bad {c v : Int32} (h : ¬ (0 ≤ c ∧ c < σ 3 0 5) ∨ ¬ (1 ≤ v ∧ v ≤ 9)) : am_D l 130 [aR 11 0, aI c, aI v] σ τ (rX t) cX lX (some (aI (-1))) σ τ (rX t) := by
  refine am_D_of am_o130 am_l130 rfl ?_
  refine am_vc_ok am_k130 [] 100 ?_
  refine am_vS am_k130 am_h130 rfl rfl rfl rfl (x_within) ?_
  refine am_vc_ok am_k130 [] 100 ?_
  refine And.intro (fun h1 => ?_) (fun h1 => ?_)
  · exact am_vI am_k130 am_r130 rfl ⟨rfl, rfl, rfl, rfl, rfl, rfl⟩
  refine And.intro (fun h2 => ?_) (fun h2 => ?_)
  · exact am_vI am_k130 am_r130 rfl ⟨rfl, rfl, rfl, rfl, rfl, rfl⟩
  refine And.intro (fun h3 => ?_) (fun h3 => ?_)
  · rcases h with h | h
    · exact absurd (bI_1.mp h1) h
    · exact absurd ⟨Int32.not_lt.mp h2, h3⟩ h
  · exact am_vI am_k130 am_r130 rfl ⟨rfl, rfl, rfl, rfl, rfl, rfl⟩
theorem x_credit_full {c n : Nat} {v : Int32} (hn : σ 3 0 5 = nI n) (hn2 : n ≤ 30) (hc : c < n) (hv : 1 ≤ v ∧ v ≤ 9) (hS : σ 3 0 8 = nI 200) : am_D l 130 [aR 11 0, aI (nI c), aI v] σ τ (rX t) cX lX (some (aI (-2))) σ τ (rX t) := by
  refine am_D_of am_o130 am_l130 rfl ?_
  refine am_vc_ok am_k130 [] 100 ?_
  refine am_vS am_k130 am_h130 rfl rfl rfl rfl (x_within) ?_
  refine am_vc_ok am_k130 [] 100 ?_
  refine And.intro (fun g => absurd (by rw [hn]; exact inN hc (by omega)) (bI_0.mp g)) (fun _ => ?_)
  refine And.intro (fun g => absurd hv.1 (Int32.not_le.mpr g)) (fun _ => ?_)
  refine And.intro (fun _ => ?_) (fun g => absurd hv.2 g)
  refine And.intro (fun g => absurd g (by rw [hS]; decide)) (fun _ => ?_)
  exact am_vI am_k130 am_r130 rfl ⟨rfl, rfl, rfl, rfl, rfl, rfl⟩
theorem x_credit_not {c n S : Nat} {v : Int32} (hn : σ 3 0 5 = nI n) (hn2 : n ≤ 30) (hc : c < n) (hv : 1 ≤ v ∧ v ≤ 9) (hS : σ 3 0 8 = nI S) (hS2 : S < 200) (h7 : ¬ σ 0 c 7 = 3) : am_D l 130 [aR 11 0, aI (nI c), aI v] σ τ (rX t) cX lX (some (aI (-4))) σ τ (rX t) := by
  refine am_D_of am_o130 am_l130 rfl ?_
  refine am_vc_ok am_k130 [] 100 ?_
  refine am_vS am_k130 am_h130 rfl rfl rfl rfl (x_within) ?_
  refine am_vc_ok am_k130 [] 100 ?_
  refine And.intro (fun g => absurd (by rw [hn]; exact inN hc (by omega)) (bI_0.mp g)) (fun _ => ?_)
  refine And.intro (fun g => absurd hv.1 (Int32.not_le.mpr g)) (fun _ => ?_)
  refine And.intro (fun _ => ?_) (fun g => absurd hv.2 g)
  refine And.intro (fun _ => ?_) (fun g => absurd (by rw [hS]; exact nI_lt (b := 200) hS2 (by decide)) g)
  refine And.intro (vp_in_nI (N := 30) (by omega) (by decide)) ?_
  rw [nI_clamp (by omega)]
  refine And.intro (fun g => absurd g h7) (fun _ => ?_)
  exact am_vI am_k130 am_r130 rfl ⟨rfl, rfl, rfl, rfl, rfl, rfl⟩
theorem x_credit {c n S m : Nat} {v : Int32} (hn : σ 3 0 5 = nI n) (hn2 : n ≤ 30) (hc : c < n) (hv : 1 ≤ v ∧ v ≤ 9) (hS : σ 3 0 8 = nI S) (hS2 : S < 200) (h7 : σ 0 c 7 = 3) (hm : σ 1 0 0 = nI m) (hm2 : m < 690) : am_D l 130 [aR 11 0, aI (nI c), aI v] σ τ (rX t) cX lX (some (aI (nI m))) (xsend (u3 σ 3 0 8 (nI (S + 1))) m c 5 (σ 0 c 0) (σ 0 c 1) v) τ (rX t) := by
  refine am_D_of am_o130 am_l130 rfl ?_
  refine am_vc_ok am_k130 [] 100 ?_
  refine am_vS am_k130 am_h130 rfl rfl rfl rfl (x_within) ?_
  refine am_vc_ok am_k130 [] 100 ?_
  refine And.intro (fun g => absurd (by rw [hn]; exact inN hc (by omega)) (bI_0.mp g)) (fun _ => ?_)
  refine And.intro (fun g => absurd hv.1 (Int32.not_le.mpr g)) (fun _ => ?_)
  refine And.intro (fun _ => ?_) (fun g => absurd hv.2 g)
  refine And.intro (fun _ => ?_) (fun g => absurd (by rw [hS]; exact nI_lt (b := 200) hS2 (by decide)) g)
  refine And.intro (vp_in_nI (N := 30) (by omega) (by decide)) ?_
  rw [nI_clamp (by omega)]
  refine And.intro (fun _ => ?_) (fun g => absurd h7 g)
  refine am_vc_ok am_k130 [] 100 ?_
  refine am_vO am_k130 am_h130 rfl rfl rfl rfl (x_nsend5 (m := m) (by omega) (by simp [u3, hm]) hm2) ?_
  refine am_vc_ok am_k130 [] 100 ?_
  refine am_vI am_k130 am_r130 rfl ⟨rfl, ?_, rfl, rfl, rfl, rfl⟩
  rw [hS, show nI S + 1 = nI (S + 1) from nI_1 S]
  rfl
theorem m_credit_bad {c v : Int32} (h : ¬ (0 ≤ c ∧ c ≤ σ 12 0 34 - 1) ∨ ¬ (1 ≤ v ∧ v ≤ 9)) : am_D l 242 [aR 12 0, aI c, aI v] σ τ (rX t) cX lX (some (aI (-1))) σ τ (rX t) := by
  refine am_D_of am_o242 am_l242 rfl ?_
  refine am_vc_ok am_k242 [] 100 ?_
  refine am_vO am_k242 am_h242 rfl rfl rfl rfl (m_isCall) ?_
  refine am_vc_ok am_k242 [] 100 ?_
  refine And.intro (fun h1 => ?_) (fun h1 => ?_)
  · exact am_vI am_k242 am_r242 rfl ⟨rfl, rfl, rfl, rfl, rfl, rfl⟩
  refine am_vS am_k242 am_h242 rfl rfl rfl rfl (m_in) ?_
  refine am_vc_ok am_k242 [] 100 ?_
  refine And.intro (fun h2 => ?_) (fun h2 => ?_)
  · exact am_vI am_k242 am_r242 rfl ⟨rfl, rfl, rfl, rfl, rfl, rfl⟩
  · rcases h with h | h
    · exact absurd (bI_1.mp h1) h
    · exact absurd (bI_1.mp h2) h
theorem m_credit_full {c : Int32} {v : Int32} (hc : 0 ≤ c ∧ c ≤ σ 12 0 34 - 1) (hv : 1 ≤ v ∧ v ≤ 9) (hS : σ 12 0 63 = nI 200) : am_D l 242 [aR 12 0, aI c, aI v] σ τ (rX t) cX lX (some (aI (-2))) σ τ (rX t) := by
  refine am_D_of am_o242 am_l242 rfl ?_
  refine am_vc_ok am_k242 [] 100 ?_
  refine am_vO am_k242 am_h242 rfl rfl rfl rfl (m_isCall) ?_
  refine am_vc_ok am_k242 [] 100 ?_
  refine And.intro (fun g => absurd hc (bI_0.mp g)) (fun _ => ?_)
  refine am_vS am_k242 am_h242 rfl rfl rfl rfl (m_in) ?_
  refine am_vc_ok am_k242 [] 100 ?_
  refine And.intro (fun g => absurd hv (bI_0.mp g)) (fun _ => ?_)
  refine And.intro (fun _ => ?_) (fun g => absurd hS g)
  exact am_vI am_k242 am_r242 rfl ⟨rfl, rfl, rfl, rfl, rfl, rfl⟩
theorem m_credit_not {c S : Nat} {v : Int32} (hc : 0 ≤ nI c ∧ nI c ≤ σ 12 0 34 - 1) (hc2 : c < 30) (hv : 1 ≤ v ∧ v ≤ 9) (hS : σ 12 0 63 = nI S) (hS2 : S < 200) (h7 : ¬ σ 71 0 c = 3) : am_D l 242 [aR 12 0, aI (nI c), aI v] σ τ (rX t) cX lX (some (aI (-4))) σ τ (rX t) := by
  refine am_D_of am_o242 am_l242 rfl ?_
  refine am_vc_ok am_k242 [] 100 ?_
  refine am_vO am_k242 am_h242 rfl rfl rfl rfl (m_isCall) ?_
  refine am_vc_ok am_k242 [] 100 ?_
  refine And.intro (fun g => absurd hc (bI_0.mp g)) (fun _ => ?_)
  refine am_vS am_k242 am_h242 rfl rfl rfl rfl (m_in) ?_
  refine am_vc_ok am_k242 [] 100 ?_
  refine And.intro (fun g => absurd hv (bI_0.mp g)) (fun _ => ?_)
  refine And.intro (fun g => absurd ((nI_eq (b := 200) (by omega) (by decide)).mp (hS.symm.trans g)) (by omega)) (fun _ => ?_)
  refine And.intro (vp_in_nI (N := 30) (by omega) (by decide)) ?_
  rw [nI_clamp (by omega)]
  refine And.intro (fun g => absurd g h7) (fun _ => ?_)
  exact am_vI am_k242 am_r242 rfl ⟨rfl, rfl, rfl, rfl, rfl, rfl⟩
theorem m_credit {c S m : Nat} {v : Int32} (hc : 0 ≤ nI c ∧ nI c ≤ σ 12 0 34 - 1) (hc2 : c < 30) (hv : 1 ≤ v ∧ v ≤ 9) (hS : σ 12 0 63 = nI S) (hS2 : S < 200) (h7 : σ 71 0 c = 3) (hm : σ 12 0 54 = nI m) (hm2 : m < 690) : am_D l 242 [aR 12 0, aI (nI c), aI v] σ τ (rX t) cX lX (some (aI (nI m))) (msend (u3 σ 12 0 63 (nI (S + 1))) m 5 (σ 65 0 c) (σ 66 0 c) (nI c) v) τ (rX t) := by
  refine am_D_of am_o242 am_l242 rfl ?_
  refine am_vc_ok am_k242 [] 100 ?_
  refine am_vO am_k242 am_h242 rfl rfl rfl rfl (m_isCall) ?_
  refine am_vc_ok am_k242 [] 100 ?_
  refine And.intro (fun g => absurd hc (bI_0.mp g)) (fun _ => ?_)
  refine am_vS am_k242 am_h242 rfl rfl rfl rfl (m_in) ?_
  refine am_vc_ok am_k242 [] 100 ?_
  refine And.intro (fun g => absurd hv (bI_0.mp g)) (fun _ => ?_)
  refine And.intro (fun g => absurd ((nI_eq (b := 200) (by omega) (by decide)).mp (hS.symm.trans g)) (by omega)) (fun _ => ?_)
  refine And.intro (vp_in_nI (N := 30) (by omega) (by decide)) ?_
  rw [nI_clamp (by omega)]
  refine And.intro (fun _ => ?_) (fun g => absurd h7 g)
  refine am_vc_ok am_k242 [] 100 ?_
  refine am_vO am_k242 am_h242 rfl rfl rfl rfl (m_sendOut (m := m) hc2 (by simp [u3, hm]) hm2) ?_
  refine am_vc_ok am_k242 [] 100 ?_
  refine am_vI am_k242 am_r242 rfl ⟨rfl, ?_, rfl, rfl, rfl, rfl⟩
  rw [hS, show nI S + 1 = nI (S + 1) from nI_1 S]
  rfl
end L10
