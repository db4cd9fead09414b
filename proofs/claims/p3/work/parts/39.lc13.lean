/-! CASES OF THE LAW: count -/
section L13
variable {l : Launch} {σ σ2 s : tI} {τ τ2 : tL} {t : Option (Nat × Nat)}
theorem x_rowsT_loop {Q : tQ} (K : am_G l 148 Q 0 0 33 [(2, aI (nI 6)), (1, aI (nI (cntN (fun x => decide (¬ σ 6 (4 + x) 0 = 0)) 6))), (0, aR 39 0)] [] σ τ (rX t) cX lX) : ∀ (d c : Nat), c + d = 6 → am_G l 148 Q 0 0 4 [(2, aI (nI c)), (1, aI (nI (cntN (fun x => decide (¬ σ 6 (4 + x) 0 = 0)) c))), (0, aR 39 0)] [] σ τ (rX t) cX lX
  | 0, c, h => by
    obtain rfl : c = 6 := by omega
    refine am_vc_ok am_k148 [4, 33] 100 ?_
    refine And.intro (fun _ => K) (fun h1 => absurd (by exact Int32.le_refl _) h1)
  | d + 1, c, h => by
    have K2 := x_rowsT_loop  K d (c + 1) (by omega)
    rw [← nI_1] at K2
    refine am_vc_ok am_k148 [4, 33] 100 ?_
    refine And.intro (fun h1 => absurd h1 (by exact nI_ge (b := 6) (by omega) (by decide))) (fun h1 => ?_)
    refine And.intro (vp_in_nI (N := 6) (by omega) (by decide)) ?_
    rw [nI_clamp (by omega)]
    refine And.intro (fun h2 => ?_) (fun h2 => ?_)
    · have h2 : σ 6 (4 + c) 0 = 0 := h2
      have e : nI (cntN (fun x => decide (¬ σ 6 (4 + x) 0 = 0)) c) + 0 = nI (cntN (fun x => decide (¬ σ 6 (4 + x) 0 = 0)) (c + 1)) := by
        rw [Int32.add_zero]; simp [cntN, h2]
      rw [← e] at K2
      exact K2
    · have h2 : ¬ σ 6 (4 + c) 0 = 0 := h2
      have e : nI (cntN (fun x => decide (¬ σ 6 (4 + x) 0 = 0)) c) + 1 = nI (cntN (fun x => decide (¬ σ 6 (4 + x) 0 = 0)) (c + 1)) := by
        rw [nI_1]; simp [cntN, h2]
      rw [← e] at K2
      exact K2
theorem x_rowsT : am_D l 148 [aR 39 0] σ τ (rX t) cX lX (some (aI (nI (cntN (fun x => decide (¬ σ 6 (4 + x) 0 = 0)) 6)))) σ τ (rX t) := by
  refine am_D_of am_o148 am_l148 rfl ?_
  refine am_vc_ok am_k148 [4] 100 ?_
  refine x_rowsT_loop ?_ 6 0 (by omega)
  refine am_vc_ok am_k148 [4] 100 ?_
  exact am_vI am_k148 am_r148 rfl ⟨rfl, rfl, rfl, rfl, rfl, rfl⟩
theorem x_textsT_loop {Q : tQ} (K : am_G l 148 Q 0 0 33 [(2, aI (nI 6)), (1, aI (nI (cntN (fun x => decide (¬ σ 6 (10 + x) 0 = 0)) 6))), (0, aR 40 0)] [] σ τ (rX t) cX lX) : ∀ (d c : Nat), c + d = 6 → am_G l 148 Q 0 0 4 [(2, aI (nI c)), (1, aI (nI (cntN (fun x => decide (¬ σ 6 (10 + x) 0 = 0)) c))), (0, aR 40 0)] [] σ τ (rX t) cX lX
  | 0, c, h => by
    obtain rfl : c = 6 := by omega
    refine am_vc_ok am_k148 [4, 33] 100 ?_
    refine And.intro (fun _ => K) (fun h1 => absurd (by exact Int32.le_refl _) h1)
  | d + 1, c, h => by
    have K2 := x_textsT_loop  K d (c + 1) (by omega)
    rw [← nI_1] at K2
    refine am_vc_ok am_k148 [4, 33] 100 ?_
    refine And.intro (fun h1 => absurd h1 (by exact nI_ge (b := 6) (by omega) (by decide))) (fun h1 => ?_)
    refine And.intro (vp_in_nI (N := 6) (by omega) (by decide)) ?_
    rw [nI_clamp (by omega)]
    refine And.intro (fun h2 => ?_) (fun h2 => ?_)
    · have h2 : σ 6 (10 + c) 0 = 0 := h2
      have e : nI (cntN (fun x => decide (¬ σ 6 (10 + x) 0 = 0)) c) + 0 = nI (cntN (fun x => decide (¬ σ 6 (10 + x) 0 = 0)) (c + 1)) := by
        rw [Int32.add_zero]; simp [cntN, h2]
      rw [← e] at K2
      exact K2
    · have h2 : ¬ σ 6 (10 + c) 0 = 0 := h2
      have e : nI (cntN (fun x => decide (¬ σ 6 (10 + x) 0 = 0)) c) + 1 = nI (cntN (fun x => decide (¬ σ 6 (10 + x) 0 = 0)) (c + 1)) := by
        rw [nI_1]; simp [cntN, h2]
      rw [← e] at K2
      exact K2
theorem x_textsT : am_D l 148 [aR 40 0] σ τ (rX t) cX lX (some (aI (nI (cntN (fun x => decide (¬ σ 6 (10 + x) 0 = 0)) 6)))) σ τ (rX t) := by
  refine am_D_of am_o148 am_l148 rfl ?_
  refine am_vc_ok am_k148 [4] 100 ?_
  refine x_textsT_loop ?_ 6 0 (by omega)
  refine am_vc_ok am_k148 [4] 100 ?_
  exact am_vI am_k148 am_r148 rfl ⟨rfl, rfl, rfl, rfl, rfl, rfl⟩
theorem x_shapesT_loop {Q : tQ} (K : am_G l 149 Q 0 0 35 [(2, aI (nI 4)), (1, aI (nI (cntN (fun x => decide (¬ σ 9 (1 + x) 0 = 0)) 4))), (0, aR 11 0)] [] σ τ (rX t) cX lX) : ∀ (d c : Nat), c + d = 4 → am_G l 149 Q 0 0 4 [(2, aI (nI c)), (1, aI (nI (cntN (fun x => decide (¬ σ 9 (1 + x) 0 = 0)) c))), (0, aR 11 0)] [] σ τ (rX t) cX lX
  | 0, c, h => by
    obtain rfl : c = 4 := by omega
    refine am_vc_ok am_k149 [4, 35] 100 ?_
    refine And.intro (fun _ => K) (fun h1 => absurd (by exact Int32.le_refl _) h1)
  | d + 1, c, h => by
    have K2 := x_shapesT_loop  K d (c + 1) (by omega)
    rw [← nI_1] at K2
    refine am_vc_ok am_k149 [4, 35] 100 ?_
    refine And.intro (fun h1 => absurd h1 (by exact nI_ge (b := 4) (by omega) (by decide))) (fun h1 => ?_)
    refine And.intro (vp_in_nI (N := 4) (by omega) (by decide)) ?_
    rw [nI_clamp (by omega)]
    refine And.intro (fun h2 => ?_) (fun h2 => ?_)
    · have h2 : σ 9 (1 + c) 0 = 0 := h2
      have e : nI (cntN (fun x => decide (¬ σ 9 (1 + x) 0 = 0)) c) + 0 = nI (cntN (fun x => decide (¬ σ 9 (1 + x) 0 = 0)) (c + 1)) := by
        rw [Int32.add_zero]; simp [cntN, h2]
      rw [← e] at K2
      exact K2
    · have h2 : ¬ σ 9 (1 + c) 0 = 0 := h2
      have e : nI (cntN (fun x => decide (¬ σ 9 (1 + x) 0 = 0)) c) + 1 = nI (cntN (fun x => decide (¬ σ 9 (1 + x) 0 = 0)) (c + 1)) := by
        rw [nI_1]; simp [cntN, h2]
      rw [← e] at K2
      exact K2
theorem x_shapesT : am_D l 149 [aR 11 0] σ τ (rX t) cX lX (some (aI (nI (cntN (fun x => decide (¬ σ 9 (1 + x) 0 = 0)) 4)))) σ τ (rX t) := by
  refine am_D_of am_o149 am_l149 rfl ?_
  refine am_vc_ok am_k149 [4] 100 ?_
  refine x_shapesT_loop ?_ 4 0 (by omega)
  refine am_vc_ok am_k149 [4] 100 ?_
  exact am_vI am_k149 am_r149 rfl ⟨rfl, rfl, rfl, rfl, rfl, rfl⟩
theorem m_open_loop {Q : tQ} {n : Nat} (hn : σ 12 0 34 = nI n) (hn2 : n ≤ 30) (K : am_G l 250 Q 0 0 95 [(3, aI (nI n)), (2, aI (nI (cntN (fun x => decide (σ 71 0 x = 0)) n))), (0, aR 12 0), (1, aI (nI 2))] [] σ τ (rX t) cX lX) : ∀ (d c : Nat), c + d = n → am_G l 250 Q 0 0 64 [(3, aI (nI c)), (2, aI (nI (cntN (fun x => decide (σ 71 0 x = 0)) c))), (0, aR 12 0), (1, aI (nI 2))] [] σ τ (rX t) cX lX
  | 0, c, h => by
    obtain rfl : c = n := by omega
    refine am_vc_ok am_k250 [64, 95] 100 ?_
    refine And.intro (fun _ => K) (fun h1 => absurd (by rw [hn]; exact Int32.le_refl _) h1)
  | d + 1, c, h => by
    have K2 := m_open_loop hn hn2 K d (c + 1) (by omega)
    rw [← nI_1] at K2
    refine am_vc_ok am_k250 [64, 95] 100 ?_
    refine And.intro (fun h1 => absurd h1 (by rw [hn]; exact nI_ge (by omega) (by omega))) (fun h1 => ?_)
    refine And.intro (vp_in_nI (N := 30) (by omega) (by decide)) ?_
    rw [nI_clamp (by omega)]
    refine And.intro (fun h2 => ?_) (fun h2 => ?_)
    · have h2 : σ 71 0 c = 0 := h2
      have e : nI (cntN (fun x => decide (σ 71 0 x = 0)) c) + 1 = nI (cntN (fun x => decide (σ 71 0 x = 0)) (c + 1)) := by
        rw [nI_1]; simp [cntN, h2]
      rw [← e] at K2
      exact K2
    · have h2 : ¬ σ 71 0 c = 0 := h2
      have e : nI (cntN (fun x => decide (σ 71 0 x = 0)) c) + 0 = nI (cntN (fun x => decide (σ 71 0 x = 0)) (c + 1)) := by
        rw [Int32.add_zero]; simp [cntN, h2]
      rw [← e] at K2
      exact K2
theorem m_lost_loop {Q : tQ} {n : Nat} (hn : σ 12 0 54 = nI n) (hn2 : n ≤ 690) (K : am_G l 250 Q 0 0 136 [(3, aI (nI n)), (2, aI (nI (cntN (fun x => decide (σ 88 0 x = 2)) n))), (0, aR 12 0), (1, aI (nI 4))] [] σ τ (rX t) cX lX) : ∀ (d c : Nat), c + d = n → am_G l 250 Q 0 0 104 [(3, aI (nI c)), (2, aI (nI (cntN (fun x => decide (σ 88 0 x = 2)) c))), (0, aR 12 0), (1, aI (nI 4))] [] σ τ (rX t) cX lX
  | 0, c, h => by
    obtain rfl : c = n := by omega
    refine am_vc_ok am_k250 [104, 136] 100 ?_
    refine And.intro (fun _ => K) (fun h1 => absurd (by rw [hn]; exact Int32.le_refl _) h1)
  | d + 1, c, h => by
    have K2 := m_lost_loop hn hn2 K d (c + 1) (by omega)
    rw [← nI_1] at K2
    refine am_vc_ok am_k250 [104, 136] 100 ?_
    refine And.intro (fun h1 => absurd h1 (by rw [hn]; exact nI_ge (by omega) (by omega))) (fun h1 => ?_)
    refine And.intro (vp_in_nI (N := 1200) (by omega) (by decide)) ?_
    rw [nI_clamp (by omega)]
    refine And.intro (fun h2 => ?_) (fun h2 => ?_)
    · have h2 : σ 88 0 c = 2 := h2
      have e : nI (cntN (fun x => decide (σ 88 0 x = 2)) c) + 1 = nI (cntN (fun x => decide (σ 88 0 x = 2)) (c + 1)) := by
        rw [nI_1]; simp [cntN, h2]
      rw [← e] at K2
      exact K2
    · have h2 : ¬ σ 88 0 c = 2 := h2
      have e : nI (cntN (fun x => decide (σ 88 0 x = 2)) c) + 0 = nI (cntN (fun x => decide (σ 88 0 x = 2)) (c + 1)) := by
        rw [Int32.add_zero]; simp [cntN, h2]
      rw [← e] at K2
      exact K2
theorem m_shapesT_loop {Q : tQ} (K : am_G l 250 Q 0 0 173 [(3, aI (nI 4)), (2, aI (nI (cntN (fun x => decide (¬ σ 49 0 x < 0)) 4))), (0, aR 12 0), (1, aI (nI 8))] [] σ τ (rX t) cX lX) : ∀ (d c : Nat), c + d = 4 → am_G l 250 Q 0 0 145 [(3, aI (nI c)), (2, aI (nI (cntN (fun x => decide (¬ σ 49 0 x < 0)) c))), (0, aR 12 0), (1, aI (nI 8))] [] σ τ (rX t) cX lX
  | 0, c, h => by
    obtain rfl : c = 4 := by omega
    refine am_vc_ok am_k250 [145, 173] 100 ?_
    refine And.intro (fun _ => K) (fun h1 => absurd (by exact Int32.le_refl _) h1)
  | d + 1, c, h => by
    have K2 := m_shapesT_loop  K d (c + 1) (by omega)
    rw [← nI_1] at K2
    refine am_vc_ok am_k250 [145, 173] 100 ?_
    refine And.intro (fun h1 => absurd h1 (by exact nI_ge (b := 4) (by omega) (by decide))) (fun h1 => ?_)
    refine And.intro (vp_in_nI (N := 4) (by omega) (by decide)) ?_
    rw [nI_clamp (by omega)]
    refine And.intro (fun h2 => ?_) (fun h2 => ?_)
    · have h2 : σ 49 0 c < 0 := h2
      have e : nI (cntN (fun x => decide (¬ σ 49 0 x < 0)) c) + 0 = nI (cntN (fun x => decide (¬ σ 49 0 x < 0)) (c + 1)) := by
        rw [Int32.add_zero]; simp [cntN, h2]
      rw [← e] at K2
      exact K2
    · have h2 : ¬ σ 49 0 c < 0 := h2
      have e : nI (cntN (fun x => decide (¬ σ 49 0 x < 0)) c) + 1 = nI (cntN (fun x => decide (¬ σ 49 0 x < 0)) (c + 1)) := by
        rw [nI_1]; simp [cntN, h2]
      rw [← e] at K2
      exact K2
theorem m_rowsT_loop {Q : tQ} (K : am_G l 250 Q 0 0 221 [(3, aI (nI 6)), (2, aI (nI (cntN (fun x => decide (¬ σ 44 0 x < 0)) 6))), (0, aR 12 0), (1, aI (nI 6))] [] σ τ (rX t) cX lX) : ∀ (d c : Nat), c + d = 6 → am_G l 250 Q 0 0 177 [(3, aI (nI c)), (2, aI (nI (cntN (fun x => decide (¬ σ 44 0 x < 0)) c))), (0, aR 12 0), (1, aI (nI 6))] [] σ τ (rX t) cX lX
  | 0, c, h => by
    obtain rfl : c = 6 := by omega
    refine am_vc_ok am_k250 [177, 221] 100 ?_
    refine And.intro (fun _ => K) (fun h1 => absurd (by exact Int32.le_refl _) h1)
  | d + 1, c, h => by
    have K2 := m_rowsT_loop  K d (c + 1) (by omega)
    rw [← nI_1] at K2
    refine am_vc_ok am_k250 [177, 221] 100 ?_
    refine And.intro (fun h1 => absurd h1 (by exact nI_ge (b := 6) (by omega) (by decide))) (fun h1 => ?_)
    refine And.intro (fun _ => ?_) (fun h2 => absurd (by decide) h2)
    refine And.intro (vp_in_nI (N := 6) (by omega) (by decide)) ?_
    rw [nI_clamp (by omega)]
    refine And.intro (fun h2 => ?_) (fun h2 => ?_)
    · have h2 : σ 44 0 c < 0 := h2
      have e : nI (cntN (fun x => decide (¬ σ 44 0 x < 0)) c) + 0 = nI (cntN (fun x => decide (¬ σ 44 0 x < 0)) (c + 1)) := by
        rw [Int32.add_zero]; simp [cntN, h2]
      rw [← e] at K2
      exact K2
    · have h2 : ¬ σ 44 0 c < 0 := h2
      have e : nI (cntN (fun x => decide (¬ σ 44 0 x < 0)) c) + 1 = nI (cntN (fun x => decide (¬ σ 44 0 x < 0)) (c + 1)) := by
        rw [nI_1]; simp [cntN, h2]
      rw [← e] at K2
      exact K2
theorem m_textsT_loop {Q : tQ} (K : am_G l 250 Q 0 0 221 [(3, aI (nI 6)), (2, aI (nI (cntN (fun x => decide (¬ σ 47 0 x < 0)) 6))), (0, aR 12 0), (1, aI (nI 7))] [] σ τ (rX t) cX lX) : ∀ (d c : Nat), c + d = 6 → am_G l 250 Q 0 0 177 [(3, aI (nI c)), (2, aI (nI (cntN (fun x => decide (¬ σ 47 0 x < 0)) c))), (0, aR 12 0), (1, aI (nI 7))] [] σ τ (rX t) cX lX
  | 0, c, h => by
    obtain rfl : c = 6 := by omega
    refine am_vc_ok am_k250 [177, 221] 100 ?_
    refine And.intro (fun _ => K) (fun h1 => absurd (by exact Int32.le_refl _) h1)
  | d + 1, c, h => by
    have K2 := m_textsT_loop  K d (c + 1) (by omega)
    rw [← nI_1] at K2
    refine am_vc_ok am_k250 [177, 221] 100 ?_
    refine And.intro (fun h1 => absurd h1 (by exact nI_ge (b := 6) (by omega) (by decide))) (fun h1 => ?_)
    refine And.intro (fun h2 => absurd h2 (by decide)) (fun _ => ?_)
    refine And.intro (vp_in_nI (N := 6) (by omega) (by decide)) ?_
    rw [nI_clamp (by omega)]
    refine And.intro (fun h2 => ?_) (fun h2 => ?_)
    · have h2 : σ 47 0 c < 0 := h2
      have e : nI (cntN (fun x => decide (¬ σ 47 0 x < 0)) c) + 0 = nI (cntN (fun x => decide (¬ σ 47 0 x < 0)) (c + 1)) := by
        rw [Int32.add_zero]; simp [cntN, h2]
      rw [← e] at K2
      exact K2
    · have h2 : ¬ σ 47 0 c < 0 := h2
      have e : nI (cntN (fun x => decide (¬ σ 47 0 x < 0)) c) + 1 = nI (cntN (fun x => decide (¬ σ 47 0 x < 0)) (c + 1)) := by
        rw [nI_1]; simp [cntN, h2]
      rw [← e] at K2
      exact K2
theorem m_cnt0 : am_D l 250 [aR 12 0, aI (nI 0)] σ τ (rX t) cX lX (some (aI (σ 12 0 5))) σ τ (rX t) := by
  refine am_D_of am_o250 am_l250 rfl ?_
  refine am_vc_ok am_k250 [] 100 ?_
  refine am_sw 52 (by decide +kernel) ?_
  exact am_vI am_k250 am_r250 rfl ⟨rfl, rfl, rfl, rfl, rfl, rfl⟩
theorem m_cnt1 : am_D l 250 [aR 12 0, aI (nI 1)] σ τ (rX t) cX lX (some (aI (σ 12 0 34))) σ τ (rX t) := by
  refine am_D_of am_o250 am_l250 rfl ?_
  refine am_vc_ok am_k250 [] 100 ?_
  refine am_sw 57 (by decide +kernel) ?_
  exact am_vI am_k250 am_r250 rfl ⟨rfl, rfl, rfl, rfl, rfl, rfl⟩
theorem m_cnt2 {n : Nat} (hn : σ 12 0 34 = nI n) (hn2 : n ≤ 30) : am_D l 250 [aR 12 0, aI (nI 2)] σ τ (rX t) cX lX (some (aI (nI (cntN (fun x => decide (σ 71 0 x = 0)) n)))) σ τ (rX t) := by
  refine am_D_of am_o250 am_l250 rfl ?_
  refine am_vc_ok am_k250 [64] 100 ?_
  refine am_sw 62 (by decide +kernel) ?_
  refine m_open_loop hn hn2 ?_ n 0 (by omega)
  refine am_vc_ok am_k250 [] 100 ?_
  exact am_vI am_k250 am_r250 rfl ⟨rfl, rfl, rfl, rfl, rfl, rfl⟩
theorem m_cnt3 : am_D l 250 [aR 12 0, aI (nI 3)] σ τ (rX t) cX lX (some (aI (σ 12 0 54))) σ τ (rX t) := by
  refine am_D_of am_o250 am_l250 rfl ?_
  refine am_vc_ok am_k250 [] 100 ?_
  refine am_sw 97 (by decide +kernel) ?_
  exact am_vI am_k250 am_r250 rfl ⟨rfl, rfl, rfl, rfl, rfl, rfl⟩
theorem m_cnt4 {n : Nat} (hn : σ 12 0 54 = nI n) (hn2 : n ≤ 690) : am_D l 250 [aR 12 0, aI (nI 4)] σ τ (rX t) cX lX (some (aI (nI (cntN (fun x => decide (σ 88 0 x = 2)) n)))) σ τ (rX t) := by
  refine am_D_of am_o250 am_l250 rfl ?_
  refine am_vc_ok am_k250 [104] 100 ?_
  refine am_sw 102 (by decide +kernel) ?_
  refine m_lost_loop hn hn2 ?_ n 0 (by omega)
  refine am_vc_ok am_k250 [] 100 ?_
  exact am_vI am_k250 am_r250 rfl ⟨rfl, rfl, rfl, rfl, rfl, rfl⟩
theorem m_cnt5 : am_D l 250 [aR 12 0, aI (nI 5)] σ τ (rX t) cX lX (some (aI (σ 12 0 64))) σ τ (rX t) := by
  refine am_D_of am_o250 am_l250 rfl ?_
  refine am_vc_ok am_k250 [] 100 ?_
  refine am_sw 138 (by decide +kernel) ?_
  exact am_vI am_k250 am_r250 rfl ⟨rfl, rfl, rfl, rfl, rfl, rfl⟩
theorem m_cnt6 : am_D l 250 [aR 12 0, aI (nI 6)] σ τ (rX t) cX lX (some (aI (nI (cntN (fun x => decide (¬ σ 44 0 x < 0)) 6)))) σ τ (rX t) := by
  refine am_D_of am_o250 am_l250 rfl ?_
  refine am_vc_ok am_k250 [177] 100 ?_
  refine am_sw 175 (by decide +kernel) ?_
  refine m_rowsT_loop ?_ 6 0 (by omega)
  refine am_vc_ok am_k250 [] 100 ?_
  exact am_vI am_k250 am_r250 rfl ⟨rfl, rfl, rfl, rfl, rfl, rfl⟩
theorem m_cnt7 : am_D l 250 [aR 12 0, aI (nI 7)] σ τ (rX t) cX lX (some (aI (nI (cntN (fun x => decide (¬ σ 47 0 x < 0)) 6)))) σ τ (rX t) := by
  refine am_D_of am_o250 am_l250 rfl ?_
  refine am_vc_ok am_k250 [177] 100 ?_
  refine am_sw 175 (by decide +kernel) ?_
  refine m_textsT_loop ?_ 6 0 (by omega)
  refine am_vc_ok am_k250 [] 100 ?_
  exact am_vI am_k250 am_r250 rfl ⟨rfl, rfl, rfl, rfl, rfl, rfl⟩
theorem m_cnt8 : am_D l 250 [aR 12 0, aI (nI 8)] σ τ (rX t) cX lX (some (aI (nI (cntN (fun x => decide (¬ σ 49 0 x < 0)) 4)))) σ τ (rX t) := by
  refine am_D_of am_o250 am_l250 rfl ?_
  refine am_vc_ok am_k250 [145] 100 ?_
  refine am_sw 143 (by decide +kernel) ?_
  refine m_shapesT_loop ?_ 4 0 (by omega)
  refine am_vc_ok am_k250 [] 100 ?_
  exact am_vI am_k250 am_r250 rfl ⟨rfl, rfl, rfl, rfl, rfl, rfl⟩
theorem x_cnt0 : am_D l 147 [aR 11 0, aI (nI 0)] σ τ (rX t) cX lX (some (aI (σ 3 0 4))) σ τ (rX t) := by
  refine am_D_of am_o147 am_l147 rfl ?_
  refine am_vc_ok am_k147 [] 100 ?_
  refine am_sw 48 (by decide +kernel) ?_
  exact am_vI am_k147 am_r147 rfl ⟨rfl, rfl, rfl, rfl, rfl, rfl⟩
theorem x_cnt1 : am_D l 147 [aR 11 0, aI (nI 1)] σ τ (rX t) cX lX (some (aI (σ 3 0 5))) σ τ (rX t) := by
  refine am_D_of am_o147 am_l147 rfl ?_
  refine am_vc_ok am_k147 [] 100 ?_
  refine am_sw 56 (by decide +kernel) ?_
  exact am_vI am_k147 am_r147 rfl ⟨rfl, rfl, rfl, rfl, rfl, rfl⟩
theorem x_cnt2 : am_D l 147 [aR 11 0, aI (nI 2)] σ τ (rX t) cX lX (some (aI (σ 3 0 6))) σ τ (rX t) := by
  refine am_D_of am_o147 am_l147 rfl ?_
  refine am_vc_ok am_k147 [] 100 ?_
  refine am_sw 64 (by decide +kernel) ?_
  exact am_vI am_k147 am_r147 rfl ⟨rfl, rfl, rfl, rfl, rfl, rfl⟩
theorem x_cnt3 : am_D l 147 [aR 11 0, aI (nI 3)] σ τ (rX t) cX lX (some (aI (σ 1 0 0))) σ τ (rX t) := by
  refine am_D_of am_o147 am_l147 rfl ?_
  refine am_vc_ok am_k147 [] 100 ?_
  refine am_sw 72 (by decide +kernel) ?_
  exact am_vI am_k147 am_r147 rfl ⟨rfl, rfl, rfl, rfl, rfl, rfl⟩
theorem x_cnt4 : am_D l 147 [aR 11 0, aI (nI 4)] σ τ (rX t) cX lX (some (aI (σ 1 0 1))) σ τ (rX t) := by
  refine am_D_of am_o147 am_l147 rfl ?_
  refine am_vc_ok am_k147 [] 100 ?_
  refine am_sw 83 (by decide +kernel) ?_
  exact am_vI am_k147 am_r147 rfl ⟨rfl, rfl, rfl, rfl, rfl, rfl⟩
theorem x_cnt5 : am_D l 147 [aR 11 0, aI (nI 5)] σ τ (rX t) cX lX (some (aI (σ 2 0 0))) σ τ (rX t) := by
  refine am_D_of am_o147 am_l147 rfl ?_
  refine am_vc_ok am_k147 [] 100 ?_
  refine am_sw 94 (by decide +kernel) ?_
  exact am_vI am_k147 am_r147 rfl ⟨rfl, rfl, rfl, rfl, rfl, rfl⟩
theorem x_cnt6 : am_D l 147 [aR 11 0, aI (nI 6)] σ τ (rX t) cX lX (some (aI (nI (cntN (fun x => decide (¬ σ 6 (4 + x) 0 = 0)) 6)))) σ τ (rX t) := by
  refine am_D_of am_o147 am_l147 rfl ?_
  refine am_vc_ok am_k147 [] 100 ?_
  refine am_sw 105 (by decide +kernel) ?_
  refine am_vS am_k147 am_h147 rfl rfl rfl rfl (x_rowsT) ?_
  refine am_vc_ok am_k147 [] 100 ?_
  exact am_vI am_k147 am_r147 rfl ⟨rfl, rfl, rfl, rfl, rfl, rfl⟩
theorem x_cnt7 : am_D l 147 [aR 11 0, aI (nI 7)] σ τ (rX t) cX lX (some (aI (nI (cntN (fun x => decide (¬ σ 6 (10 + x) 0 = 0)) 6)))) σ τ (rX t) := by
  refine am_D_of am_o147 am_l147 rfl ?_
  refine am_vc_ok am_k147 [] 100 ?_
  refine am_sw 113 (by decide +kernel) ?_
  refine am_vS am_k147 am_h147 rfl rfl rfl rfl (x_textsT) ?_
  refine am_vc_ok am_k147 [] 100 ?_
  exact am_vI am_k147 am_r147 rfl ⟨rfl, rfl, rfl, rfl, rfl, rfl⟩
theorem x_cnt8 : am_D l 147 [aR 11 0, aI (nI 8)] σ τ (rX t) cX lX (some (aI (nI (cntN (fun x => decide (¬ σ 9 (1 + x) 0 = 0)) 4)))) σ τ (rX t) := by
  refine am_D_of am_o147 am_l147 rfl ?_
  refine am_vc_ok am_k147 [] 100 ?_
  refine am_sw 121 (by decide +kernel) ?_
  refine am_vO am_k147 am_h147 rfl rfl rfl rfl (x_shapesT) ?_
  refine am_vc_ok am_k147 [] 100 ?_
  exact am_vI am_k147 am_r147 rfl ⟨rfl, rfl, rfl, rfl, rfl, rfl⟩
theorem x_count_bad {c : Int32} (hc : ¬ (0 ≤ c ∧ c < 9)) : am_D l 137 [aR 11 0, aI c] σ τ (rX t) cX lX (some (aI (-1))) σ τ (rX t) := by
  refine am_D_of am_o137 am_l137 rfl ?_
  refine am_vc_ok am_k137 [] 100 ?_
  refine am_vS am_k137 am_h137 rfl rfl rfl rfl (x_within) ?_
  refine am_vc_ok am_k137 [] 100 ?_
  refine And.intro (fun h => ?_) (fun h => ?_)
  · exact am_vI am_k137 am_r137 rfl ⟨rfl, rfl, rfl, rfl, rfl, rfl⟩
  · exact absurd (bI_1.mp h) hc
theorem x_count {c v : Int32} (hc : 0 ≤ c ∧ c < 9) (hD : am_D l 147 [aR 11 0, aI c] σ τ (rX t) cX lX (some (aI v)) σ τ (rX t)) : am_D l 137 [aR 11 0, aI c] σ τ (rX t) cX lX (some (aI v)) σ τ (rX t) := by
  refine am_D_of am_o137 am_l137 rfl ?_
  refine am_vc_ok am_k137 [] 100 ?_
  refine am_vS am_k137 am_h137 rfl rfl rfl rfl (x_within) ?_
  refine am_vc_ok am_k137 [] 100 ?_
  refine And.intro (fun g => absurd hc (bI_0.mp g)) (fun _ => ?_)
  refine am_vO am_k137 am_h137 rfl rfl rfl rfl (hD) ?_
  refine am_vc_ok am_k137 [] 100 ?_
  exact am_vI am_k137 am_r137 rfl ⟨rfl, rfl, rfl, rfl, rfl, rfl⟩
theorem m_count_bad {c : Int32} (hc : ¬ (0 ≤ c ∧ c ≤ 8)) : am_D l 251 [aR 12 0, aI c] σ τ (rX t) cX lX (some (aI (-1))) σ τ (rX t) := by
  refine am_D_of am_o251 am_l251 rfl ?_
  refine am_vc_ok am_k251 [] 100 ?_
  refine am_vS am_k251 am_h251 rfl rfl rfl rfl (m_in) ?_
  refine am_vc_ok am_k251 [] 100 ?_
  refine And.intro (fun h => ?_) (fun h => ?_)
  · exact am_vI am_k251 am_r251 rfl ⟨rfl, rfl, rfl, rfl, rfl, rfl⟩
  · exact absurd (bI_1.mp h) hc
theorem m_count {c v : Int32} (hc : 0 ≤ c ∧ c ≤ 8) (hD : am_D l 250 [aR 12 0, aI c] σ τ (rX t) cX lX (some (aI v)) σ τ (rX t)) : am_D l 251 [aR 12 0, aI c] σ τ (rX t) cX lX (some (aI v)) σ τ (rX t) := by
  refine am_D_of am_o251 am_l251 rfl ?_
  refine am_vc_ok am_k251 [] 100 ?_
  refine am_vS am_k251 am_h251 rfl rfl rfl rfl (m_in) ?_
  refine am_vc_ok am_k251 [] 100 ?_
  refine And.intro (fun g => absurd hc (bI_0.mp g)) (fun _ => ?_)
  refine am_vO am_k251 am_h251 rfl rfl rfl rfl (hD) ?_
  refine am_vc_ok am_k251 [] 100 ?_
  exact am_vI am_k251 am_r251 rfl ⟨rfl, rfl, rfl, rfl, rfl, rfl⟩
theorem rRow.there {d p g : Nat → Int32} {sz : Int32} (h : rRow d p sz g) : (¬ d 0 = 0) ↔ ¬ sz < 0 := by
  obtain ⟨n, hn, -, ⟨h1, h2⟩ | ⟨h1, h2, -⟩⟩ := h
  · rw [h1, h2]; decide
  · rw [h1, h2]
    exact ⟨fun _ => nI_pos (by omega), fun _ => by decide⟩
theorem LC_count (h : Rall σ τ) (c : Int32) : LC l 137 251 [aI c] σ τ t := by
  have e9 : (0 ≤ c ∧ c ≤ 8) ↔ (0 ≤ c ∧ c < 9) := leN (n := 9) (N := 9) (by decide) (by decide)
  by_cases hc : 0 ≤ c ∧ c < 9
  · have hc2 := e9.mpr hc
    obtain ⟨hr, ht, hs, -, -, -, T, n, m, lo, k, hN⟩ := id h
    have h0 := hN.split.1
    have hn := h0.2.1
    have hm := h0.2.2.2.2.2.2.1
    have hT := h0.1
    have mk : ∀ {v v2 : Int32}, v2 = v → am_D l 147 [aR 11 0, aI c] σ τ (rX t) cX lX (some (aI v)) σ τ (rX t) → am_D l 250 [aR 12 0, aI c] σ τ (rX t) cX lX (some (aI v2)) σ τ (rX t) → LC l 137 251 [aI c] σ τ t := by
      intro v v2 e z1 z2
      subst e
      exact LC.of (x_count hc z1) (m_count hc2 z2) h
    obtain ⟨w, hw, rfl⟩ := ix_lt (n := 9) (by decide) hc
    match w, hw with
    | 0, _ => exact mk (hT.2.1.trans hT.1.symm) x_cnt0 m_cnt0
    | 1, _ => exact mk (hn.2.1.trans hn.1.symm) x_cnt1 m_cnt1
    | 2, _ => exact mk h0.2.2.2.2.1.symm x_cnt2 (m_cnt2 hn.2.1 hn.2.2)
    | 3, _ => exact mk (hm.2.trans hm.1.symm) x_cnt3 m_cnt3
    | 4, _ => exact mk h0.2.2.2.2.2.2.2.2.1.symm x_cnt4 (m_cnt4 hm.2 hN.m_le)
    | 5, _ => exact mk (h0.2.2.2.2.2.2.2.2.2.2.2.2.1.trans h0.2.2.2.2.2.2.2.2.2.2.2.1.symm) x_cnt5 m_cnt5
    | 6, _ => exact mk (by rw [cntN_cg (fun x hx => decide_eq_decide.mpr (hr x hx).there.symm)]) x_cnt6 m_cnt6
    | 7, _ => exact mk (by rw [cntN_cg (fun x hx => decide_eq_decide.mpr (ht x hx).1.there.symm)]) x_cnt7 m_cnt7
    | 8, _ =>
      refine mk ?_ x_cnt8 m_cnt8
      rw [cntN_cg (q := fun x => decide (¬ σ 9 (1 + x) 0 = 0)) (fun x hx => decide_eq_decide.mpr ?_)]
      rcases hs x hx with ⟨g1, g2⟩ | ⟨S, hS⟩
      · rw [g1, g2]; decide
      · rw [hS.2.1, hS.2.2.2.1]
        have := hS.1.1
        exact ⟨fun _ => by decide, fun _ => nI_pos (by omega)⟩
  · exact LC.of (x_count_bad hc) (m_count_bad (fun z => hc (e9.mp z))) h
end L13