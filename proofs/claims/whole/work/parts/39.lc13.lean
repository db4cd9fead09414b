/-! CASES OF THE LAW: count -/
section L13
variable {l : Launch} {σ σ2 s : tI} {τ τ2 : tL} {t : Option (Nat × Nat)}
theorem x_rowsT_loop {Q : tQ} (K : am_G l 148 Q 0 0 33 [(2, aI (nI 6)), (1, aI (nI (cntN (fun x => decide (¬ σ 6 (4 + x) 0 = 0)) 6))), (0, aR 39 0)] [] σ τ (rX t) cX lX) : ∀ (d c : Nat), c + d = 6 → am_G l 148 Q 0 0 4 [(2, aI (nI c)), (1, aI (nI (cntN (fun x => decide (¬ σ 6 (4 + x) 0 = 0)) c))), (0, aR 39 0)] [] σ τ (rX t) cX lX
  | 0, c, h => by
    obtain rfl : c = 6 := by omega
    refine am_vc_ok am_k148 [4, 33] 100 ?_
    refine And.intro (fun _ => K) (fun h1 => absurd (by exact Int32.le_refl _) h1)
  | d + 1, c, h => by
    have K2 := x_rowsT_loop  K d (c + 1) (by omega)
    rw [← nI_1] at K2
    refine am_vc_ok am_k148 [4, 33] 100 ?_
    refine And.intro (fun h1 => absurd h1 (by exact nI_ge (b := 6) (by omega) (by decide))) (fun h1 => ?_)
    refine And.intro (vp_in_nI (N := 6) (by omega) (by decide)) ?_
    rw [nI_clamp (by omega)]
    refine And.intro (fun h2 => ?_) (fun h2 => ?_)
    · have h2 : σ 6 (4 + c) 0 = 0 := h2
      have e : nI (cntN (fun x => decide (¬ σ 6 (4 + x) 0 = 0)) c) + 0 = nI (cntN (fun x => decide (¬ σ 6 (4 + x) 0 = 0)) (c + 1)) := by
        rw [Int32.add_zero]; simp [cntN, h2]
      rw [← e] at K2
      exact K2
    · have h2 : ¬ σ 6 (4 + c) 0 = 0 := h2
      have e : nI (cntN (fun x => decide (¬ σ 6 (4 + x) 0 = 0)) c) + 1 = nI (cntN (fun x => decide (¬ σ 6 (4 + x) 0 = 0)) (c + 1)) := by
        rw [nI_1]; simp [cntN, h2]
      rw [← e] at K2
      exact K2
theorem x_rowsT : am_D l 148 [aR 39 0] σ τ (rX t) cX lX (some (aI (nI (cntN (fun x => decide (¬ σ 6 (4 + x) 0 = 0)) 6)))) σ τ (rX t) := by
  refine am_D_of am_o148 am_l148 rfl ?_
  refine am_vc_ok am_k148 [4] 100 ?_
  refine x_rowsT_loop ?_ 6 0 (by omega)
  refine am_vc_ok am_k148 [4] 100 ?_
  exact am_vI am_k148 am_r148 rfl ⟨rfl, rfl, rfl, rfl, rfl, rfl⟩
theorem x_textsT_loop {Q : tQ} (K : am_G l 148 Q 0 0 33 [(2, aI (nI 6)), (1, aI (nI (cntN (fun x => decide (¬ σ 6 (10 + x) 0 = 0)) 6))), (0, aR 40 0)] [] σ τ (rX t) cX lX) : ∀ (d c : Nat), c + d = 6 → am_G l 148 Q 0 0 4 [(2, aI (nI c)), (1, aI (nI (cntN (fun x => decide (¬ σ 6 (10 + x) 0 = 0)) c))), (0, aR 40 0)] [] σ τ (rX t) cX lX
  | 0, c, h => by
    obtain rfl : c = 6 := by omega
    refine am_vc_ok am_k148 [4, 33] 100 ?_
    refine And.intro (fun _ => K) (fun h1 => absurd (by exact Int32.le_refl _) h1)
  | d + 1, c, h => by
    have K2 := x_textsT_loop  K d (c + 1) (by omega)
    rw [← nI_1] at K2
    refine am_vc_ok am_k148 [4, 33] 100 ?_
    refine And.intro (fun h1 => absurd h1 (by exact nI_ge (b := 6) (by omega) (by decide))) (fun h1 => ?_)
    refine And.intro (vp_in_nI (N := 6) (by omega) (by decide)) ?_
    rw [nI_clamp (by omega)]
    refine And.intro (fun h2 => ?_) (fun h2 => ?_)
    · have h2 : σ 6 (10 + c) 0 = 0 := h2
      have e : nI (cntN (fun x => decide (¬ σ 6 (10 + x) 0 = 0)) c) + 0 = nI (cntN (fun x => decide (¬ σ 6 (10 + x) 0 = 0)) (c + 1)) := by
        rw [Int32.add_zero]; simp [cntN, h2]
      rw [← e] at K2
      exact K2
    · have h2 : ¬ σ 6 (10 + c) 0 = 0 := h2
      have e : nI (cntN (fun x => decide (¬ σ 6 (10 + x) 0 = 0)) c) + 1 = nI (cntN (fun x => decide (¬ σ 6 (10 + x) 0 = 0)) (c + 1)) := by
        rw [nI_1]; simp [cntN, h2]
      rw [← e] at K2
      exact K2
theorem x_textsT : am_D l 148 [aR 40 0] σ τ (rX t) cX lX (some (aI (nI (cntN (fun x => decide (¬ σ 6 (10 + x) 0 = 0)) 6)))) σ τ (rX t) := by
  refine am_D_of am_o148 am_l148 rfl ?_
  refine am_vc_ok am_k148 [4] 100 ?_
  refine x_textsT_loop ?_ 6 0 (by omega)
  refine am_vc_ok am_k148 [4] 100 ?_
  exact am_vI am_k148 am_r148 rfl ⟨rfl, rfl, rfl, rfl, rfl, rfl⟩
theorem x_shapesT_loop {Q : tQ} (K : am_G l 149 Q 0 0 35 [(2, aI (nI 4)), (1, aI (nI (cntN (fun x => decide (¬ σ 9 (1 + x) 0 = 0)) 4))), (0, aR 11 0)] [] σ τ (rX t) cX lX) : ∀ (d c : Nat), c + d = 4 → am_G l 149 Q 0 0 4 [(2, aI (nI c)), (1, aI (nI (cntN (fun x => decide (¬ σ 9 (1 + x) 0 = 0)) c))), (0, aR 11 0)] [] σ τ (rX t) cX lX
  | 0, c, h => by
    obtain rfl : c = 4 := by omega
    refine am_vc_ok am_k149 [4, 35] 100 ?_
    refine And.intro (fun _ => K) (fun h1 => absurd (by exact Int32.le_refl _) h1)
  | d + 1, c, h => by
    have K2 := x_shapesT_loop  K d (c + 1) (by omega)
    rw [← nI_1] at K2
    refine am_vc_ok am_k149 [4, 35] 100 ?_
    refine And.intro (fun h1 => absurd h1 (by exact nI_ge (b := 4) (by omega) (by decide))) (fun h1 => ?_)
    refine And.intro (vp_in_nI (N := 4) (by omega) (by decide)) ?_
    rw [nI_clamp (by omega)]
    refine And.intro (fun h2 => ?_) (fun h2 => ?_)
    · have h2 : σ 9 (1 + c) 0 = 0 := h2
      have e : nI (cntN (fun x => decide (¬ σ 9 (1 + x) 0 = 0)) c) + 0 = nI (cntN (fun x => decide (¬ σ 9 (1 + x) 0 = 0)) (c + 1)) := by
        rw [Int32.add_zero]; simp [cntN, h2]
      rw [← e] at K2
      exact K2
    · have h2 : ¬ σ 9 (1 + c) 0 = 0 := h2
      have e : nI (cntN (fun x => decide (¬ σ 9 (1 + x) 0 = 0)) c) + 1 = nI (cntN (fun x => decide (¬ σ 9 (1 + x) 0 = 0)) (c + 1)) := by
        rw [nI_1]; simp [cntN, h2]
      rw [← e] at K2
      exact K2
theorem x_shapesT : am_D l 149 [aR 11 0] σ τ (rX t) cX lX (some (aI (nI (cntN (fun x => decide (¬ σ 9 (1 + x) 0 = 0)) 4)))) σ τ (rX t) := by
  refine am_D_of am_o149 am_l149 rfl ?_
  refine am_vc_ok am_k149 [4] 100 ?_
  refine x_shapesT_loop ?_ 4 0 (by omega)
  refine am_vc_ok am_k149 [4] 100 ?_
  exact am_vI am_k149 am_r149 rfl ⟨rfl, rfl, rfl, rfl, rfl, rfl⟩
end L13