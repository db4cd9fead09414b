/-! CASES OF THE LAW: copy (the class's side) -/
section L14
variable {l : Launch} {σ σ2 s : tI} {τ τ2 : tL} {t : Option (Nat × Nat)}
theorem x_copy_bad {r f r2 f2 k : Int32} (h : ¬ (0 ≤ r ∧ r < 6) ∨ ¬ (0 ≤ r2 ∧ r2 < 6)) : am_D l 97 [aR 11 0, aI r, aI f, aI r2, aI f2, aI k] σ τ (rX t) cX lX (some (aI (-1))) σ τ (rX t) := by
  refine am_D_of am_o97 am_l97 rfl ?_
  refine am_vc_ok am_k97 [] 100 ?_
  refine am_vS am_k97 am_h97 rfl rfl rfl rfl (x_within) ?_
  refine am_vc_ok am_k97 [] 100 ?_
  refine And.intro (fun h1 => ?_) (fun h1 => ?_)
  · exact am_vI am_k97 am_r97 rfl ⟨rfl, rfl, rfl, rfl, rfl, rfl⟩
  refine am_vS am_k97 am_h97 rfl rfl rfl rfl (x_within) ?_
  refine am_vc_ok am_k97 [] 100 ?_
  refine And.intro (fun h2 => ?_) (fun h2 => ?_)
  · exact am_vI am_k97 am_r97 rfl ⟨rfl, rfl, rfl, rfl, rfl, rfl⟩
  · rcases h with h | h
    · exact absurd (bI_1.mp h1) h
    · exact absurd (bI_1.mp h2) h
theorem x_copy_neg {r f r2 f2 k : Int32} (h : 0 ≤ r ∧ r < 6) (h2 : 0 ≤ r2 ∧ r2 < 6) (hk : k < 0) : am_D l 97 [aR 11 0, aI r, aI f, aI r2, aI f2, aI k] σ τ (rX t) cX lX (some (aI (-3))) (xfind 5 σ) τ (rX t) := by
  refine am_D_of am_o97 am_l97 rfl ?_
  refine am_vc_ok am_k97 [] 100 ?_
  refine am_vS am_k97 am_h97 rfl rfl rfl rfl (x_within) ?_
  refine am_vc_ok am_k97 [] 100 ?_
  refine And.intro (fun g => absurd h (bI_0.mp g)) (fun _ => ?_)
  refine am_vS am_k97 am_h97 rfl rfl rfl rfl (x_within) ?_
  refine am_vc_ok am_k97 [] 100 ?_
  refine And.intro (fun g => absurd h2 (bI_0.mp g)) (fun _ => ?_)
  refine And.intro (fun g => absurd hk (Int32.not_lt.mpr g)) (fun _ => ?_)
  refine am_vO am_k97 am_h97 rfl rfl rfl rfl (x_find (w := 5) (by decide)) ?_
  refine am_vc_ok am_k97 [] 100 ?_
  exact am_vI am_k97 am_r97 rfl ⟨rfl, rfl, rfl, rfl, rfl, rfl⟩
theorem x_copy_none {r r2 : Nat} {f f2 k : Int32} (h : r < 6) (h2 : r2 < 6) (hk : 0 ≤ k) (h0 : σ 6 (4 + r) 0 = 0 ∨ σ 6 (4 + r2) 0 = 0) : am_D l 97 [aR 11 0, aI (nI r), aI f, aI (nI r2), aI f2, aI k] σ τ (rX t) cX lX (some (aI (-3))) (xfind 1 σ) τ (rX t) := by
  refine am_D_of am_o97 am_l97 rfl ?_
  refine am_vc_ok am_k97 [] 100 ?_
  refine am_vS am_k97 am_h97 rfl rfl rfl rfl (x_within) ?_
  refine am_vc_ok am_k97 [] 100 ?_
  refine And.intro (fun g => absurd (in6 h) (bI_0.mp g)) (fun _ => ?_)
  refine am_vS am_k97 am_h97 rfl rfl rfl rfl (x_within) ?_
  refine am_vc_ok am_k97 [] 100 ?_
  refine And.intro (fun g => absurd (in6 h2) (bI_0.mp g)) (fun _ => ?_)
  refine And.intro (fun _ => ?_) (fun g => absurd hk g)
  refine And.intro (vp_in_nI (N := 6) h (by decide)) ?_
  rw [nI_clamp (n := r) (by omega)]
  refine And.intro (fun _ => ?_) (fun g1 => ?_)
  · refine am_vO am_k97 am_h97 rfl rfl rfl rfl (x_find (w := 1) (by decide)) ?_
    refine am_vc_ok am_k97 [] 100 ?_
    exact am_vI am_k97 am_r97 rfl ⟨rfl, rfl, rfl, rfl, rfl, rfl⟩
  · refine And.intro (vp_in_nI (N := 6) h2 (by decide)) ?_
    rw [nI_clamp (n := r2) (by omega)]
    refine And.intro (fun _ => ?_) (fun g2 => ?_)
    · refine am_vO am_k97 am_h97 rfl rfl rfl rfl (x_find (w := 1) (by decide)) ?_
      refine am_vc_ok am_k97 [] 100 ?_
      exact am_vI am_k97 am_r97 rfl ⟨rfl, rfl, rfl, rfl, rfl, rfl⟩
    · rcases h0 with h0 | h0
      · exact absurd h0 g1
      · exact absurd h0 g2
end L14
