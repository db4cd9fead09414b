/-! ticks of an empty net, the model's side -/
section L18
variable {l : Launch} {σ σ2 s : tI} {τ τ2 : tL} {t : Option (Nat × Nat)}
theorem m_share0 (hn : σ 12 0 34 = 0) : am_D l 227 [aR 12 0] σ τ (rX t) cX lX none σ τ (rX t) := by
  refine am_D_of am_o227 am_l227 rfl ?_
  refine am_vc_ok am_k227 [] 100 ?_
  refine And.intro (fun _ => ?_) (fun g => absurd (by rw [hn]; decide) g)
  exact am_vV am_k227 am_r227 rfl ⟨rfl, rfl, rfl, rfl, rfl, rfl⟩
theorem m_work0 {a : Int32} (hn : σ 12 0 34 = 0) : am_D l 224 [aR 12 0, aI a] σ τ (rX t) cX lX none σ τ (rX t) := by
  refine am_D_of am_o224 am_l224 rfl ?_
  refine am_vc_ok am_k224 [] 100 ?_
  refine And.intro (fun _ => ?_) (fun g => absurd (by rw [hn]; decide) g)
  exact am_vV am_k224 am_r224 rfl ⟨rfl, rfl, rfl, rfl, rfl, rfl⟩
theorem m_begin0 {a : Int32} (hn : σ 12 0 34 = 0) : am_D l 225 [aR 12 0, aI a] σ τ (rX t) cX lX none σ τ (rX t) := by
  refine am_D_of am_o225 am_l225 rfl ?_
  refine am_vc_ok am_k225 [] 100 ?_
  refine And.intro (fun _ => ?_) (fun g => absurd (by rw [hn]; decide) g)
  exact am_vV am_k225 am_r225 rfl ⟨rfl, rfl, rfl, rfl, rfl, rfl⟩
theorem m_tick_l1 {Q : tQ} {z : Int32} (hn : σ 12 0 34 = 0) (K : am_G l 228 Q 0 0 109 [(3, aI (nI 6)), (2, aI z), (1, aI 0), (0, aR 12 0)] [] σ τ (rX t) cX lX) : ∀ (d k : Nat), k + d = 6 → am_G l 228 Q 0 0 92 [(3, aI (nI k)), (2, aI z), (1, aI 0), (0, aR 12 0)] [] σ τ (rX t) cX lX
  | 0, k, h => by
    obtain rfl : k = 6 := by omega
    refine am_vc_ok am_k228 [92, 109] 100 ?_
    exact And.intro (fun _ => K) (fun h1 => absurd (show (6 : Int32) ≤ nI 6 by decide) h1)
  | d + 1, k, h => by
    refine am_vc_ok am_k228 [92, 109] 100 ?_
    refine And.intro (fun h1 => absurd h1 (nI_ge (b := 6) (by omega) (by decide))) (fun _ => ?_)
    refine am_vO am_k228 am_h228 rfl rfl rfl rfl (m_work0 hn) ?_
    refine am_vc_ok am_k228 [92, 109] 100 ?_
    have K2 := m_tick_l1 hn K d (k + 1) (by omega)
    rw [← nI_1] at K2
    exact K2
theorem m_tick_l2 {Q : tQ} {z : Int32} (hn : σ 12 0 34 = 0) (K : am_G l 228 Q 0 0 128 [(3, aI (nI 6)), (2, aI z), (1, aI 0), (0, aR 12 0)] [] σ τ (rX t) cX lX) : ∀ (d k : Nat), k + d = 6 → am_G l 228 Q 0 0 111 [(3, aI (nI k)), (2, aI z), (1, aI 0), (0, aR 12 0)] [] σ τ (rX t) cX lX
  | 0, k, h => by
    obtain rfl : k = 6 := by omega
    refine am_vc_ok am_k228 [111, 128] 100 ?_
    exact And.intro (fun _ => K) (fun h1 => absurd (show (6 : Int32) ≤ nI 6 by decide) h1)
  | d + 1, k, h => by
    refine am_vc_ok am_k228 [111, 128] 100 ?_
    refine And.intro (fun h1 => absurd h1 (nI_ge (b := 6) (by omega) (by decide))) (fun _ => ?_)
    refine am_vO am_k228 am_h228 rfl rfl rfl rfl (m_begin0 hn) ?_
    refine am_vc_ok am_k228 [111, 128] 100 ?_
    have K2 := m_tick_l2 hn K d (k + 1) (by omega)
    rw [← nI_1] at K2
    exact K2
theorem m_oneTick0 (hn : σ 12 0 34 = 0) (h : σ 12 0 54 = 0) : am_D l 228 [aR 12 0] σ τ (rX t) cX lX (some (aI 0)) (u3 σ 12 0 5 (σ 12 0 5 + 1)) τ (rX t) := by
  have hn2 : u3 σ 12 0 5 (σ 12 0 5 + 1) 12 0 34 = 0 := by simp [u3, hn]
  refine am_D_of am_o228 am_l228 rfl ?_
  refine am_vc_ok am_k228 [92] 100 ?_
  refine am_vO am_k228 am_h228 rfl rfl rfl rfl (m_share0 hn) ?_
  refine am_vc_ok am_k228 [92] 100 ?_
  refine And.intro (fun _ => ?_) (fun g => absurd (by simp [u3, h]) g)
  refine m_tick_l1 hn2 ?_ 6 0 (by omega)
  refine am_vc_ok am_k228 [111] 100 ?_
  refine m_tick_l2 hn2 ?_ 6 0 (by omega)
  refine am_vc_ok am_k228 [111] 100 ?_
  refine And.intro (fun _ => ?_) (fun g => absurd (by simp [u3, hn]) g)
  exact am_vI am_k228 am_r228 rfl ⟨rfl, rfl, rfl, rfl, rfl, rfl⟩
theorem m_run_loop {Q : tQ} {T n : Nat} (hn5 : σ 12 0 34 = 0) (h1 : σ 12 0 54 = 0) (hn : n ≤ 100) (K : am_G l 230 Q 0 0 49 [(3, aI (nI n)), (2, aI 0), (0, aR 12 0), (1, aI (nI n))] [] (u3 σ 12 0 5 (nI (T + n))) τ (rX t) cX lX) : ∀ (d k : Nat), k + d = n → am_G l 230 Q 0 0 31 [(3, aI (nI k)), (2, aI 0), (0, aR 12 0), (1, aI (nI n))] [] (u3 σ 12 0 5 (nI (T + k))) τ (rX t) cX lX
  | 0, k, h => by
    obtain rfl : k = n := by omega
    refine am_vc_ok am_k230 [31, 49] 100 ?_
    exact And.intro (fun _ => K) (fun h1 => absurd (Int32.le_refl _) h1)
  | d + 1, k, h => by
    refine am_vc_ok am_k230 [31, 49] 100 ?_
    refine And.intro (fun h1 => absurd h1 (nI_ge (b := n) (by omega) (by omega))) (fun _ => ?_)
    refine am_vO am_k230 am_h230 rfl rfl rfl rfl (m_oneTick0 (by simp [u3, hn5]) (by simp [u3, h1])) ?_
    refine am_vc_ok am_k230 [31, 49] 100 ?_
    have K2 := m_run_loop hn5 h1 hn K d (k + 1) (by omega)
    rw [← nI_1] at K2
    rw [u3_eq, u3_twice, show nI (T + k) + 1 = nI (T + (k + 1)) from nI_1 (T + k)]
    exact K2
theorem m_run_bad {n : Int32} (h : ¬ (0 ≤ n ∧ n ≤ 100)) : am_D l 230 [aR 12 0, aI n] σ τ (rX t) cX lX (some (aI (-1))) σ τ (rX t) := by
  refine am_D_of am_o230 am_l230 rfl ?_
  refine am_vc_ok am_k230 [31] 100 ?_
  refine am_vS am_k230 am_h230 rfl rfl rfl rfl (m_in) ?_
  refine am_vc_ok am_k230 [31] 100 ?_
  refine And.intro (fun h1 => ?_) (fun h1 => ?_)
  · exact am_vI am_k230 am_r230 rfl ⟨rfl, rfl, rfl, rfl, rfl, rfl⟩
  · exact absurd (bI_1.mp h1) h
theorem m_run0 {T n : Nat} (hT : σ 12 0 5 = nI T) (hT2 : T + n ≤ 9999) (hn5 : σ 12 0 34 = 0) (h1 : σ 12 0 54 = 0) (hn : n ≤ 100) : am_D l 230 [aR 12 0, aI (nI n)] σ τ (rX t) cX lX (some (aI 0)) (u3 σ 12 0 5 (nI (T + n))) τ (rX t) := by
  have hs : σ = u3 σ 12 0 5 (nI (T + 0)) := (u3_self hT).symm
  refine am_D_of am_o230 am_l230 rfl ?_
  refine am_vc_ok am_k230 [31, 49] 100 ?_
  refine am_vS am_k230 am_h230 rfl rfl rfl rfl (m_in) ?_
  refine am_vc_ok am_k230 [31, 49] 100 ?_
  refine And.intro (fun g => absurd ⟨nI_pos' (n := n) (by omega), nI_le (b := 100) hn (by decide)⟩ (bI_0.mp g)) (fun _ => ?_)
  refine And.intro (fun _ => ?_) (fun g => absurd (by rw [hT, nI_add]; exact nI_le (b := 9999) hT2 (by decide)) g)
  refine am_Gs hs ?_
  refine m_run_loop hn5 h1 hn ?_ n 0 (by omega)
  refine am_vc_ok am_k230 [31, 49] 100 ?_
  exact am_vI am_k230 am_r230 rfl ⟨rfl, rfl, rfl, rfl, rfl, rfl⟩
end L18
