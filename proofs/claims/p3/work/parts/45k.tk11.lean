/-! ticks: a frame is taken, small steps -/
section L90
variable {l : Launch} {σ σ2 s s0 s1 A A0 A1 A2 : tI} {τ τ2 : tL} {t : Option (Nat × Nat)} {T n m lo k c b f w : Nat}
theorem x_end_not {h : Int32} (hc : c < 30) (h7 : ¬ s 0 c 7 = 0) : am_D l 17 [aR 3 0, aI (nI c), aI h] s τ (rX t) cX lX none s τ (rX t) := by
  refine am_D_of am_o17 am_l17 rfl ?_
  refine am_vc_ok am_k17 [] 100 ?_
  refine And.intro (vp_in_nI (N := 30) hc (by decide)) ?_
  rw [nI_clamp (n := c) (by omega)]
  refine And.intro (fun g => absurd g h7) (fun _ => ?_)
  exact am_vV am_k17 am_r17 rfl ⟨rfl, rfl, rfl, rfl, rfl, rfl⟩
theorem x_tc_on (hc : c < 30) (hb : b < 6) (h1 : s 0 c 1 = nI b) (h : s 0 c 12 = 1) : am_D l 24 [aR 3 0, aI (nI c)] s τ (rX t) cX lX none (u3 (u3 s 0 c 12 0) 8 b 5 (s 8 b 5 - 1)) τ (rX t) := by
  have f1 : (u3 s 0 c 12 0) 0 c 1 = nI b := by simp [u3, h1]
  refine am_D_of am_o24 am_l24 rfl ?_
  refine am_vc_ok am_k24 [] 100 ?_
  refine And.intro (vp_in_nI (N := 30) hc (by decide)) ?_
  rw [nI_clamp (n := c) (by omega)]
  refine And.intro (fun _ => ?_) (fun g => absurd h g)
  refine And.intro (vp_in_nI (N := 30) hc (by decide)) ?_
  rw [nI_clamp (n := c) (by omega)]
  refine And.intro (vp_in_nI (N := 30) hc (by decide)) ?_
  rw [nI_clamp (n := c) (by omega)]
  refine And.intro (by rw [f1]; exact vp_in_nI (N := 6) hb (by decide)) ?_
  rw [f1, nI_clamp (n := b) (by omega)]
  exact am_vV am_k24 am_r24 rfl ⟨rfl, rfl, rfl, rfl, rfl, rfl⟩
theorem x_tc_not (hc : c < 30) (h : ¬ s 0 c 12 = 1) : am_D l 24 [aR 3 0, aI (nI c)] s τ (rX t) cX lX none s τ (rX t) := by
  refine am_D_of am_o24 am_l24 rfl ?_
  refine am_vc_ok am_k24 [] 100 ?_
  refine And.intro (vp_in_nI (N := 30) hc (by decide)) ?_
  rw [nI_clamp (n := c) (by omega)]
  refine And.intro (fun g => absurd g h) (fun _ => ?_)
  exact am_vV am_k24 am_r24 rfl ⟨rfl, rfl, rfl, rfl, rfl, rfl⟩
theorem x_take_ping (hf : f < 690) (h19 : s 19 0 f = -9) : am_D l 22 [aR 3 0, aI (nI f)] s τ (rX t) cX lX none s τ (rX t) := by
  refine am_D_of am_o22 am_l22 rfl ?_
  refine am_vc_ok am_k22 [] 100 ?_
  refine And.intro (vp_in_nI (N := 690) hf (by decide)) ?_
  rw [nI_clamp (n := f) (by omega), h19]
  refine am_vS am_k22 am_h22 rfl rfl rfl rfl (x_within) ?_
  refine am_vc_ok am_k22 [] 100 ?_
  refine And.intro (fun _ => ?_) (fun g => absurd (bI_1.mp g).1 (by decide))
  exact am_vV am_k22 am_r22 rfl ⟨rfl, rfl, rfl, rfl, rfl, rfl⟩
theorem x_take_1 (hf : f < 690) (h19 : s 19 0 f = nI c) (hn : s 3 0 5 = nI n) (hn2 : n ≤ 30) (hc : c < n) (h14 : s 14 0 f = 1) (hD : am_D l 23 [aR 3 0, aI (nI c)] s τ (rX t) cX lX none s1 τ (rX t)) : am_D l 22 [aR 3 0, aI (nI f)] s τ (rX t) cX lX none s1 τ (rX t) := by
  refine am_D_of am_o22 am_l22 rfl ?_
  refine am_vc_ok am_k22 [] 100 ?_
  refine And.intro (vp_in_nI (N := 690) hf (by decide)) ?_
  rw [nI_clamp (n := f) (by omega), h19]
  refine am_vS am_k22 am_h22 rfl rfl rfl rfl (x_within) ?_
  refine am_vc_ok am_k22 [] 100 ?_
  refine And.intro (fun g => absurd (by rw [hn]; exact inN hc (by omega)) (bI_0.mp g)) (fun _ => ?_)
  refine And.intro (vp_in_nI (N := 690) hf (by decide)) ?_
  rw [nI_clamp (n := f) (by omega), h14]
  refine am_sw 68 (by decide +kernel) ?_
  refine am_vO am_k22 am_h22 rfl rfl rfl rfl (hD) ?_
  refine am_vc_ok am_k22 [] 100 ?_
  exact am_vV am_k22 am_r22 rfl ⟨rfl, rfl, rfl, rfl, rfl, rfl⟩
theorem x_take_2 (hf : f < 690) (h19 : s 19 0 f = nI c) (hn : s 3 0 5 = nI n) (hn2 : n ≤ 30) (hc : c < n) (h14 : s 14 0 f = 2) (hD : am_D l 17 [aR 3 0, aI (nI c), aI 3] s τ (rX t) cX lX none s1 τ (rX t)) : am_D l 22 [aR 3 0, aI (nI f)] s τ (rX t) cX lX none s1 τ (rX t) := by
  refine am_D_of am_o22 am_l22 rfl ?_
  refine am_vc_ok am_k22 [] 100 ?_
  refine And.intro (vp_in_nI (N := 690) hf (by decide)) ?_
  rw [nI_clamp (n := f) (by omega), h19]
  refine am_vS am_k22 am_h22 rfl rfl rfl rfl (x_within) ?_
  refine am_vc_ok am_k22 [] 100 ?_
  refine And.intro (fun g => absurd (by rw [hn]; exact inN hc (by omega)) (bI_0.mp g)) (fun _ => ?_)
  refine And.intro (vp_in_nI (N := 690) hf (by decide)) ?_
  rw [nI_clamp (n := f) (by omega), h14]
  refine am_sw 76 (by decide +kernel) ?_
  refine am_vO am_k22 am_h22 rfl rfl rfl rfl (hD) ?_
  refine am_vc_ok am_k22 [] 100 ?_
  exact am_vV am_k22 am_r22 rfl ⟨rfl, rfl, rfl, rfl, rfl, rfl⟩
theorem x_take_3 (hf : f < 690) (h19 : s 19 0 f = nI c) (hn : s 3 0 5 = nI n) (hn2 : n ≤ 30) (hc : c < n) (h14 : s 14 0 f = 3) (hD : am_D l 17 [aR 3 0, aI (nI c), aI (s 20 0 f)] s τ (rX t) cX lX none s1 τ (rX t)) : am_D l 22 [aR 3 0, aI (nI f)] s τ (rX t) cX lX none s1 τ (rX t) := by
  refine am_D_of am_o22 am_l22 rfl ?_
  refine am_vc_ok am_k22 [] 100 ?_
  refine And.intro (vp_in_nI (N := 690) hf (by decide)) ?_
  rw [nI_clamp (n := f) (by omega), h19]
  refine am_vS am_k22 am_h22 rfl rfl rfl rfl (x_within) ?_
  refine am_vc_ok am_k22 [] 100 ?_
  refine And.intro (fun g => absurd (by rw [hn]; exact inN hc (by omega)) (bI_0.mp g)) (fun _ => ?_)
  refine And.intro (vp_in_nI (N := 690) hf (by decide)) ?_
  rw [nI_clamp (n := f) (by omega), h14]
  refine am_sw 85 (by decide +kernel) ?_
  refine And.intro (vp_in_nI (N := 690) hf (by decide)) ?_
  rw [nI_clamp (n := f) (by omega)]
  refine am_vO am_k22 am_h22 rfl rfl rfl rfl (hD) ?_
  refine am_vc_ok am_k22 [] 100 ?_
  exact am_vV am_k22 am_r22 rfl ⟨rfl, rfl, rfl, rfl, rfl, rfl⟩
theorem x_take_4 (hf : f < 690) (h19 : s 19 0 f = nI c) (hn : s 3 0 5 = nI n) (hn2 : n ≤ 30) (hc : c < n) (h14 : s 14 0 f = 4) : am_D l 22 [aR 3 0, aI (nI f)] s τ (rX t) cX lX none (u3 s 0 c 18 (s 0 c 18 + 1)) τ (rX t) := by
  refine am_D_of am_o22 am_l22 rfl ?_
  refine am_vc_ok am_k22 [] 100 ?_
  refine And.intro (vp_in_nI (N := 690) hf (by decide)) ?_
  rw [nI_clamp (n := f) (by omega), h19]
  refine am_vS am_k22 am_h22 rfl rfl rfl rfl (x_within) ?_
  refine am_vc_ok am_k22 [] 100 ?_
  refine And.intro (fun g => absurd (by rw [hn]; exact inN hc (by omega)) (bI_0.mp g)) (fun _ => ?_)
  refine And.intro (vp_in_nI (N := 690) hf (by decide)) ?_
  rw [nI_clamp (n := f) (by omega), h14]
  refine am_sw 102 (by decide +kernel) ?_
  refine And.intro (vp_in_nI (N := 30) (show c < 30 by omega) (by decide)) ?_
  rw [nI_clamp (n := c) (by omega)]
  exact am_vV am_k22 am_r22 rfl ⟨rfl, rfl, rfl, rfl, rfl, rfl⟩
theorem x_take_5 (hf : f < 690) (h19 : s 19 0 f = nI c) (hn : s 3 0 5 = nI n) (hn2 : n ≤ 30) (hc : c < n) (h14 : s 14 0 f = 5) : am_D l 22 [aR 3 0, aI (nI f)] s τ (rX t) cX lX none (u3 s 0 c 16 (s 0 c 16 + s 20 0 f)) τ (rX t) := by
  refine am_D_of am_o22 am_l22 rfl ?_
  refine am_vc_ok am_k22 [] 100 ?_
  refine And.intro (vp_in_nI (N := 690) hf (by decide)) ?_
  rw [nI_clamp (n := f) (by omega), h19]
  refine am_vS am_k22 am_h22 rfl rfl rfl rfl (x_within) ?_
  refine am_vc_ok am_k22 [] 100 ?_
  refine And.intro (fun g => absurd (by rw [hn]; exact inN hc (by omega)) (bI_0.mp g)) (fun _ => ?_)
  refine And.intro (vp_in_nI (N := 690) hf (by decide)) ?_
  rw [nI_clamp (n := f) (by omega), h14]
  refine am_sw 120 (by decide +kernel) ?_
  refine And.intro (vp_in_nI (N := 30) (show c < 30 by omega) (by decide)) ?_
  rw [nI_clamp (n := c) (by omega)]
  refine And.intro (vp_in_nI (N := 690) hf (by decide)) ?_
  rw [nI_clamp (n := f) (by omega)]
  exact am_vV am_k22 am_r22 rfl ⟨rfl, rfl, rfl, rfl, rfl, rfl⟩
theorem x_take_6 (hf : f < 690) (h19 : s 19 0 f = nI c) (hn : s 3 0 5 = nI n) (hn2 : n ≤ 30) (hc : c < n) (h14 : s 14 0 f = 6) (hD : am_D l 24 [aR 3 0, aI (nI c)] s τ (rX t) cX lX none s1 τ (rX t)) : am_D l 22 [aR 3 0, aI (nI f)] s τ (rX t) cX lX none s1 τ (rX t) := by
  refine am_D_of am_o22 am_l22 rfl ?_
  refine am_vc_ok am_k22 [] 100 ?_
  refine And.intro (vp_in_nI (N := 690) hf (by decide)) ?_
  rw [nI_clamp (n := f) (by omega), h19]
  refine am_vS am_k22 am_h22 rfl rfl rfl rfl (x_within) ?_
  refine am_vc_ok am_k22 [] 100 ?_
  refine And.intro (fun g => absurd (by rw [hn]; exact inN hc (by omega)) (bI_0.mp g)) (fun _ => ?_)
  refine And.intro (vp_in_nI (N := 690) hf (by decide)) ?_
  rw [nI_clamp (n := f) (by omega), h14]
  refine am_sw 146 (by decide +kernel) ?_
  refine am_vO am_k22 am_h22 rfl rfl rfl rfl (hD) ?_
  refine am_vc_ok am_k22 [] 100 ?_
  exact am_vV am_k22 am_r22 rfl ⟨rfl, rfl, rfl, rfl, rfl, rfl⟩
theorem m_tf_ping (hf : f < 1200) (h : σ 84 0 f = 0) : am_D l 223 [aR 12 0, aI (nI f)] σ τ (rX t) cX lX none σ τ (rX t) := by
  refine am_D_of am_o223 am_l223 rfl ?_
  refine am_vc_ok am_k223 [] 100 ?_
  refine And.intro (vp_in_nI (N := 1200) hf (by decide)) ?_
  rw [nI_clamp (n := f) (by omega)]
  refine And.intro (vp_in_nI (N := 1200) hf (by decide)) ?_
  rw [nI_clamp (n := f) (by omega), h]
  refine am_sw 153 (by decide +kernel) ?_
  exact am_vV am_k223 am_r223 rfl ⟨rfl, rfl, rfl, rfl, rfl, rfl⟩
theorem m_tf_1 (hf : f < 1200) (h89 : σ 89 0 f = nI c) (h : σ 84 0 f = 1) (hD : am_D l 222 [aR 12 0, aI (nI c), aI (σ 90 0 f)] σ τ (rX t) cX lX none σ2 τ (rX t)) : am_D l 223 [aR 12 0, aI (nI f)] σ τ (rX t) cX lX none σ2 τ (rX t) := by
  refine am_D_of am_o223 am_l223 rfl ?_
  refine am_vc_ok am_k223 [] 100 ?_
  refine And.intro (vp_in_nI (N := 1200) hf (by decide)) ?_
  rw [nI_clamp (n := f) (by omega), h89]
  refine And.intro (vp_in_nI (N := 1200) hf (by decide)) ?_
  rw [nI_clamp (n := f) (by omega), h]
  refine am_sw 52 (by decide +kernel) ?_
  refine And.intro (vp_in_nI (N := 1200) hf (by decide)) ?_
  rw [nI_clamp (n := f) (by omega)]
  refine am_vO am_k223 am_h223 rfl rfl rfl rfl (hD) ?_
  refine am_vc_ok am_k223 [] 100 ?_
  exact am_vV am_k223 am_r223 rfl ⟨rfl, rfl, rfl, rfl, rfl, rfl⟩
theorem m_tf_2n {kd : Int32} (hk : kd = 2 ∨ kd = 3) (hf : f < 1200) (hc : c < 30) (h89 : σ 89 0 f = nI c) (h : σ 84 0 f = kd) (h7 : ¬ σ 71 0 c = 0) : am_D l 223 [aR 12 0, aI (nI f)] σ τ (rX t) cX lX none σ τ (rX t) := by
  refine am_D_of am_o223 am_l223 rfl ?_
  refine am_vc_ok am_k223 [] 100 ?_
  refine And.intro (vp_in_nI (N := 1200) hf (by decide)) ?_
  rw [nI_clamp (n := f) (by omega), h89]
  refine And.intro (vp_in_nI (N := 1200) hf (by decide)) ?_
  rw [nI_clamp (n := f) (by omega), h]
  rcases hk with rfl | rfl
  · refine am_sw 91 (by decide +kernel) ?_
    refine And.intro (vp_in_nI (N := 30) hc (by decide)) ?_
    rw [nI_clamp (n := c) (by omega)]
    refine And.intro (fun g => absurd g h7) (fun _ => ?_)
    exact am_vV am_k223 am_r223 rfl ⟨rfl, rfl, rfl, rfl, rfl, rfl⟩
  · refine am_sw 91 (by decide +kernel) ?_
    refine And.intro (vp_in_nI (N := 30) hc (by decide)) ?_
    rw [nI_clamp (n := c) (by omega)]
    refine And.intro (fun g => absurd g h7) (fun _ => ?_)
    exact am_vV am_k223 am_r223 rfl ⟨rfl, rfl, rfl, rfl, rfl, rfl⟩
theorem m_tf_2 (hf : f < 1200) (hc : c < 30) (h89 : σ 89 0 f = nI c) (h : σ 84 0 f = 2) (h7 : σ 71 0 c = 0) : am_D l 223 [aR 12 0, aI (nI f)] σ τ (rX t) cX lX none (mends σ c 3) τ (rX t) := by
  refine am_D_of am_o223 am_l223 rfl ?_
  refine am_vc_ok am_k223 [] 100 ?_
  refine And.intro (vp_in_nI (N := 1200) hf (by decide)) ?_
  rw [nI_clamp (n := f) (by omega), h89]
  refine And.intro (vp_in_nI (N := 1200) hf (by decide)) ?_
  rw [nI_clamp (n := f) (by omega), h]
  refine am_sw 91 (by decide +kernel) ?_
  refine And.intro (vp_in_nI (N := 30) hc (by decide)) ?_
  rw [nI_clamp (n := c) (by omega)]
  refine And.intro (fun _ => ?_) (fun g => absurd h7 g)
  refine And.intro (vp_in_nI (N := 1200) hf (by decide)) ?_
  rw [nI_clamp (n := f) (by omega), h]
  refine And.intro (fun _ => ?_) (fun g => absurd rfl g)
  refine am_vO am_k223 am_h223 rfl rfl rfl rfl (m_ends hc) ?_
  refine am_vc_ok am_k223 [] 100 ?_
  exact am_vV am_k223 am_r223 rfl ⟨rfl, rfl, rfl, rfl, rfl, rfl⟩
theorem m_tf_3 (hf : f < 1200) (hc : c < 30) (h89 : σ 89 0 f = nI c) (h : σ 84 0 f = 3) (h7 : σ 71 0 c = 0) : am_D l 223 [aR 12 0, aI (nI f)] σ τ (rX t) cX lX none (mends σ c (σ 90 0 f)) τ (rX t) := by
  refine am_D_of am_o223 am_l223 rfl ?_
  refine am_vc_ok am_k223 [] 100 ?_
  refine And.intro (vp_in_nI (N := 1200) hf (by decide)) ?_
  rw [nI_clamp (n := f) (by omega), h89]
  refine And.intro (vp_in_nI (N := 1200) hf (by decide)) ?_
  rw [nI_clamp (n := f) (by omega), h]
  refine am_sw 91 (by decide +kernel) ?_
  refine And.intro (vp_in_nI (N := 30) hc (by decide)) ?_
  rw [nI_clamp (n := c) (by omega)]
  refine And.intro (fun _ => ?_) (fun g => absurd h7 g)
  refine And.intro (vp_in_nI (N := 1200) hf (by decide)) ?_
  rw [nI_clamp (n := f) (by omega), h]
  refine And.intro (fun g => absurd g (by decide)) (fun _ => ?_)
  refine And.intro (vp_in_nI (N := 1200) hf (by decide)) ?_
  rw [nI_clamp (n := f) (by omega)]
  refine am_vO am_k223 am_h223 rfl rfl rfl rfl (m_ends hc) ?_
  refine am_vc_ok am_k223 [] 100 ?_
  exact am_vV am_k223 am_r223 rfl ⟨rfl, rfl, rfl, rfl, rfl, rfl⟩
theorem m_tf_4 (hf : f < 1200) (hc : c < 30) (h89 : σ 89 0 f = nI c) (h : σ 84 0 f = 4) : am_D l 223 [aR 12 0, aI (nI f)] σ τ (rX t) cX lX none (u3 σ 83 0 c (σ 83 0 c + 1)) τ (rX t) := by
  refine am_D_of am_o223 am_l223 rfl ?_
  refine am_vc_ok am_k223 [] 100 ?_
  refine And.intro (vp_in_nI (N := 1200) hf (by decide)) ?_
  rw [nI_clamp (n := f) (by omega), h89]
  refine And.intro (vp_in_nI (N := 1200) hf (by decide)) ?_
  rw [nI_clamp (n := f) (by omega), h]
  refine am_sw 126 (by decide +kernel) ?_
  refine And.intro (vp_in_nI (N := 30) hc (by decide)) ?_
  refine And.intro (vp_in_nI (N := 30) hc (by decide)) ?_
  rw [nI_clamp (n := c) (by omega)]
  exact am_vV am_k223 am_r223 rfl ⟨rfl, rfl, rfl, rfl, rfl, rfl⟩
theorem m_tf_5 (hf : f < 1200) (hc : c < 30) (h89 : σ 89 0 f = nI c) (h : σ 84 0 f = 5) : am_D l 223 [aR 12 0, aI (nI f)] σ τ (rX t) cX lX none (u3 σ 81 0 c (σ 81 0 c + σ 90 0 f)) τ (rX t) := by
  refine am_D_of am_o223 am_l223 rfl ?_
  refine am_vc_ok am_k223 [] 100 ?_
  refine And.intro (vp_in_nI (N := 1200) hf (by decide)) ?_
  rw [nI_clamp (n := f) (by omega), h89]
  refine And.intro (vp_in_nI (N := 1200) hf (by decide)) ?_
  rw [nI_clamp (n := f) (by omega), h]
  refine am_sw 137 (by decide +kernel) ?_
  refine And.intro (vp_in_nI (N := 30) hc (by decide)) ?_
  refine And.intro (vp_in_nI (N := 1200) hf (by decide)) ?_
  refine And.intro (vp_in_nI (N := 30) hc (by decide)) ?_
  rw [nI_clamp (n := c) (by omega), nI_clamp (n := f) (by omega)]
  exact am_vV am_k223 am_r223 rfl ⟨rfl, rfl, rfl, rfl, rfl, rfl⟩
theorem m_tf_6 {v : Int32} (hf : f < 1200) (hc : c < 30) (h89 : σ 89 0 f = nI c) (h : σ 84 0 f = 6) (hv : v = if σ 77 0 c = 1 then 0 else σ 77 0 c) : am_D l 223 [aR 12 0, aI (nI f)] σ τ (rX t) cX lX none (u3 σ 77 0 c v) τ (rX t) := by
  subst hv
  refine am_D_of am_o223 am_l223 rfl ?_
  refine am_vc_ok am_k223 [] 100 ?_
  refine And.intro (vp_in_nI (N := 1200) hf (by decide)) ?_
  rw [nI_clamp (n := f) (by omega), h89]
  refine And.intro (vp_in_nI (N := 1200) hf (by decide)) ?_
  rw [nI_clamp (n := f) (by omega), h]
  refine am_sw 64 (by decide +kernel) ?_
  refine And.intro (vp_in_nI (N := 30) hc (by decide)) ?_
  rw [nI_clamp (n := c) (by omega)]
  refine And.intro (fun g => ?_) (fun g => ?_)
  · have g : σ 77 0 c = 1 := g
    rw [if_pos g]
    refine And.intro (vp_in_nI (N := 30) hc (by decide)) ?_
    rw [nI_clamp (n := c) (by omega)]
    exact am_vV am_k223 am_r223 rfl ⟨rfl, rfl, rfl, rfl, rfl, rfl⟩
  · have g : ¬ σ 77 0 c = 1 := g
    rw [if_neg g]
    refine And.intro (vp_in_nI (N := 30) hc (by decide)) ?_
    rw [nI_clamp (n := c) (by omega)]
    refine And.intro (vp_in_nI (N := 30) hc (by decide)) ?_
    rw [nI_clamp (n := c) (by omega)]
    exact am_vV am_k223 am_r223 rfl ⟨rfl, rfl, rfl, rfl, rfl, rfl⟩
end L90
