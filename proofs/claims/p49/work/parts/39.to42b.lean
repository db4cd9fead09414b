/-! CASES OF THE LAW: count -/
section L13
variable {l : Launch} {σ σ2 s : tI} {τ τ2 : tL} {t : Option (Nat × Nat)}
theorem x_rowsT_loop {Q : tQ} (K : am_G l 148 Q 0 0 33 [(2, aI (nI 6)), (1, aI (nI (cntN (fun x => decide (¬ σ 6 (4 + x) 0 = 0)) 6))), (0, aR 39 0)] [] σ τ (rX t) cX lX) : ∀ (d c : Nat), c + d = 6 → am_G l 148 Q 0 0 4 [(2, aI (nI c)), (1, aI (nI (cntN (fun x => decide (¬ σ 6 (4 + x) 0 = 0)) c))), (0, aR 39 0)] [] σ τ (rX t) cX lX
  | 0, c, h => by
    obtain rfl : c = 6 := by omega
    refine am_vc_ok am_k148 [4, 33] 100 ?_
    refine And.intro (fun _ => K) (fun h1 => absurd (by exact Int32.le_refl _) h1)
  | d + 1, c, h => by
    have K2 := x_rowsT_loop  K d (c + 1) (by omega)
    rw [← nI_1] at K2
    refine am_vc_ok am_k148 [4, 33] 100 ?_
    refine And.intro (fun h1 => absurd h1 (by exact nI_ge (b := 6) (by omega) (by decide))) (fun h1 => ?_)
    refine And.intro (vp_in_nI (N := 6) (by omega) (by decide)) ?_
    rw [nI_clamp (by omega)]
    refine And.intro (fun h2 => ?_) (fun h2 => ?_)
    · have h2 : σ 6 (4 + c) 0 = 0 := h2
      have e : nI (cntN (fun x => decide (¬ σ 6 (4 + x) 0 = 0)) c) + 0 = nI (cntN (fun x => decide (¬ σ 6 (4 + x) 0 = 0)) (c + 1)) := by
        rw [Int32.add_zero]; simp [cntN, h2]
      rw [← e] at K2
      exact K2
    · have h2 : ¬ σ 6 (4 + c) 0 = 0 := h2
      have e : nI (cntN (fun x => decide (¬ σ 6 (4 + x) 0 = 0)) c) + 1 = nI (cntN (fun x => decide (¬ σ 6 (4 + x) 0 = 0)) (c + 1)) := by
        rw [nI_1]; simp [cntN, h2]
      rw [← e] at K2
      exact K2
theorem x_rowsT : am_D l 148 [aR 39 0] σ τ (rX t) cX lX (some (aI (nI (cntN (fun x => decide (¬ σ 6 (4 + x) 0 = 0)) 6)))) σ τ (rX t) := by
  refine am_D_of am_o148 am_l148 rfl ?_
  refine am_vc_ok am_k148 [4] 100 ?_
  refine x_rowsT_loop ?_ 6 0 (by omega)
  refine am_vc_ok am_k148 [4] 100 ?_
  exact am_vI am_k148 am_r148 rfl ⟨rfl, rfl, rfl, rfl, rfl, rfl⟩
theorem x_textsT_loop {Q : tQ} (K : am_G l 148 Q 0 0 33 [(2, aI (nI 6)), (1, aI (nI (cntN (fun x => decide (¬ σ 6 (10 + x) 0 = 0)) 6))), (0, aR 40 0)] [] σ τ (rX t) cX lX) : ∀ (d c : Nat), c + d = 6 → am_G l 148 Q 0 0 4 [(2, aI (nI c)), (1, aI (nI (cntN (fun x => decide (¬ σ 6 (10 + x) 0 = 0)) c))), (0, aR 40 0)] [] σ τ (rX t) cX lX
  | 0, c, h => by
    obtain rfl : c = 6 := by omega
    refine am_vc_ok am_k148 [4, 33] 100 ?_
    refine And.intro (fun _ => K) (fun h1 => absurd (by exact Int32.le_refl _) h1)
  | d + 1, c, h => by
    have K2 := x_textsT_loop  K d (c + 1) (by omega)
    rw [← nI_1] at K2
    refine am_vc_ok am_k148 [4, 33] 100 ?_
    refine And.intro (fun h1 => absurd h1 (by exact nI_ge (b := 6) (by omega) (by decide))) (fun h1 => ?_)
    refine And.intro (vp_in_nI (N := 6) (by omega) (by decide)) ?_
    rw [nI_clamp (by omega)]
    refine And.intro (fun h2 => ?_) (fun h2 => ?_)
    · have h2 : σ 6 (10 + c) 0 = 0 := h2
      have e : nI (cntN (fun x => decide (¬ σ 6 (10 + x) 0 = 0)) c) + 0 = nI (cntN (fun x => decide (¬ σ 6 (10 + x) 0 = 0)) (c + 1)) := by
        rw [Int32.add_zero]; simp [cntN, h2]
      rw [← e] at K2
      exact K2
    · have h2 : ¬ σ 6 (10 + c) 0 = 0 := h2
      have e : nI (cntN (fun x => decide (¬ σ 6 (10 + x) 0 = 0)) c) + 1 = nI (cntN (fun x => decide (¬ σ 6 (10 + x) 0 = 0)) (c + 1)) := by
        rw [nI_1]; simp [cntN, h2]
      rw [← e] at K2
      exact K2
theorem x_textsT : am_D l 148 [aR 40 0] σ τ (rX t) cX lX (some (aI (nI (cntN (fun x => decide (¬ σ 6 (10 + x) 0 = 0)) 6)))) σ τ (rX t) := by
  refine am_D_of am_o148 am_l148 rfl ?_
  refine am_vc_ok am_k148 [4] 100 ?_
  refine x_textsT_loop ?_ 6 0 (by omega)
  refine am_vc_ok am_k148 [4] 100 ?_
  exact am_vI am_k148 am_r148 rfl ⟨rfl, rfl, rfl, rfl, rfl, rfl⟩
theorem x_shapesT_loop {Q : tQ} (K : am_G l 149 Q 0 0 35 [(2, aI (nI 4)), (1, aI (nI (cntN (fun x => decide (¬ σ 9 (1 + x) 0 = 0)) 4))), (0, aR 11 0)] [] σ τ (rX t) cX lX) : ∀ (d c : Nat), c + d = 4 → am_G l 149 Q 0 0 4 [(2, aI (nI c)), (1, aI (nI (cntN (fun x => decide (¬ σ 9 (1 + x) 0 = 0)) c))), (0, aR 11 0)] [] σ τ (rX t) cX lX
  | 0, c, h => by
    obtain rfl : c = 4 := by omega
    refine am_vc_ok am_k149 [4, 35] 100 ?_
    refine And.intro (fun _ => K) (fun h1 => absurd (by exact Int32.le_refl _) h1)
  | d + 1, c, h => by
    have K2 := x_shapesT_loop  K d (c + 1) (by omega)
    rw [← nI_1] at K2
    refine am_vc_ok am_k149 [4, 35] 100 ?_
    refine And.intro (fun h1 => absurd h1 (by exact nI_ge (b := 4) (by omega) (by decide))) (fun h1 => ?_)
    refine And.intro (vp_in_nI (N := 4) (by omega) (by decide)) ?_
    rw [nI_clamp (by omega)]
    refine And.intro (fun h2 => ?_) (fun h2 => ?_)
    · have h2 : σ 9 (1 + c) 0 = 0 := h2
      have e : nI (cntN (fun x => decide (¬ σ 9 (1 + x) 0 = 0)) c) + 0 = nI (cntN (fun x => decide (¬ σ 9 (1 + x) 0 = 0)) (c + 1)) := by
        rw [Int32.add_zero]; simp [cntN, h2]
      rw [← e] at K2
      exact K2
    · have h2 : ¬ σ 9 (1 + c) 0 = 0 := h2
      have e : nI (cntN (fun x => decide (¬ σ 9 (1 + x) 0 = 0)) c) + 1 = nI (cntN (fun x => decide (¬ σ 9 (1 + x) 0 = 0)) (c + 1)) := by
        rw [nI_1]; simp [cntN, h2]
      rw [← e] at K2
      exact K2
theorem x_shapesT : am_D l 149 [aR 11 0] σ τ (rX t) cX lX (some (aI (nI (cntN (fun x => decide (¬ σ 9 (1 + x) 0 = 0)) 4)))) σ τ (rX t) := by
  refine am_D_of am_o149 am_l149 rfl ?_
  refine am_vc_ok am_k149 [4] 100 ?_
  refine x_shapesT_loop ?_ 4 0 (by omega)
  refine am_vc_ok am_k149 [4] 100 ?_
  exact am_vI am_k149 am_r149 rfl ⟨rfl, rfl, rfl, rfl, rfl, rfl⟩
theorem m_open_loop {Q : tQ} {n : Nat} (hn : σ 12 0 34 = nI n) (hn2 : n ≤ 30) (K : am_G l 250 Q 0 0 95 [(3, aI (nI n)), (2, aI (nI (cntN (fun x => decide (σ 71 0 x = 0)) n))), (0, aR 12 0), (1, aI (nI 2))] [] σ τ (rX t) cX lX) : ∀ (d c : Nat), c + d = n → am_G l 250 Q 0 0 64 [(3, aI (nI c)), (2, aI (nI (cntN (fun x => decide (σ 71 0 x = 0)) c))), (0, aR 12 0), (1, aI (nI 2))] [] σ τ (rX t) cX lX
  | 0, c, h => by
    obtain rfl : c = n := by omega
    refine am_vc_ok am_k250 [64, 95] 100 ?_
    refine And.intro (fun _ => K) (fun h1 => absurd (by rw [hn]; exact Int32.le_refl _) h1)
  | d + 1, c, h => by
    have K2 := m_open_loop hn hn2 K d (c + 1) (by omega)
    rw [← nI_1] at K2
    refine am_vc_ok am_k250 [64, 95] 100 ?_
    refine And.intro (fun h1 => absurd h1 (by rw [hn]; exact nI_ge (by omega) (by omega))) (fun h1 => ?_)
    refine And.intro (vp_in_nI (N := 30) (by omega) (by decide)) ?_
    rw [nI_clamp (by omega)]
    refine And.intro (fun h2 => ?_) (fun h2 => ?_)
    · have h2 : σ 71 0 c = 0 := h2
      have e : nI (cntN (fun x => decide (σ 71 0 x = 0)) c) + 1 = nI (cntN (fun x => decide (σ 71 0 x = 0)) (c + 1)) := by
        rw [nI_1]; simp [cntN, h2]
      rw [← e] at K2
      exact K2
    · have h2 : ¬ σ 71 0 c = 0 := h2
      have e : nI (cntN (fun x => decide (σ 71 0 x = 0)) c) + 0 = nI (cntN (fun x => decide (σ 71 0 x = 0)) (c + 1)) := by
        rw [Int32.add_zero]; simp [cntN, h2]
      rw [← e] at K2
      exact K2
theorem m_lost_loop {Q : tQ} {n : Nat} (hn : σ 12 0 54 = nI n) (hn2 : n ≤ 690) (K : am_G l 250 Q 0 0 136 [(3, aI (nI n)), (2, aI (nI (cntN (fun x => decide (σ 88 0 x = 2)) n))), (0, aR 12 0), (1, aI (nI 4))] [] σ τ (rX t) cX lX) : ∀ (d c : Nat), c + d = n → am_G l 250 Q 0 0 104 [(3, aI (nI c)), (2, aI (nI (cntN (fun x => decide (σ 88 0 x = 2)) c))), (0, aR 12 0), (1, aI (nI 4))] [] σ τ (rX t) cX lX
  | 0, c, h => by
    obtain rfl : c = n := by omega
    refine am_vc_ok am_k250 [104, 136] 100 ?_
    refine And.intro (fun _ => K) (fun h1 => absurd (by rw [hn]; exact Int32.le_refl _) h1)
  | d + 1, c, h => by
    have K2 := m_lost_loop hn hn2 K d (c + 1) (by omega)
    rw [← nI_1] at K2
    refine am_vc_ok am_k250 [104, 136] 100 ?_
    refine And.intro (fun h1 => absurd h1 (by rw [hn]; exact nI_ge (by omega) (by omega))) (fun h1 => ?_)
    refine And.intro (vp_in_nI (N := 1200) (by omega) (by decide)) ?_
    rw [nI_clamp (by omega)]
    refine And.intro (fun h2 => ?_) (fun h2 => ?_)
    · have h2 : σ 88 0 c = 2 := h2
      have e : nI (cntN (fun x => decide (σ 88 0 x = 2)) c) + 1 = nI (cntN (fun x => decide (σ 88 0 x = 2)) (c + 1)) := by
        rw [nI_1]; simp [cntN, h2]
      rw [← e] at K2
      exact K2
    · have h2 : ¬ σ 88 0 c = 2 := h2
      have e : nI (cntN (fun x => decide (σ 88 0 x = 2)) c) + 0 = nI (cntN (fun x => decide (σ 88 0 x = 2)) (c + 1)) := by
        rw [Int32.add_zero]; simp [cntN, h2]
      rw [← e] at K2
      exact K2
theorem m_shapesT_loop {Q : tQ} (K : am_G l 250 Q 0 0 173 [(3, aI (nI 4)), (2, aI (nI (cntN (fun x => decide (¬ σ 49 0 x < 0)) 4))), (0, aR 12 0), (1, aI (nI 8))] [] σ τ (rX t) cX lX) : ∀ (d c : Nat), c + d = 4 → am_G l 250 Q 0 0 145 [(3, aI (nI c)), (2, aI (nI (cntN (fun x => decide (¬ σ 49 0 x < 0)) c))), (0, aR 12 0), (1, aI (nI 8))] [] σ τ (rX t) cX lX
  | 0, c, h => by
    obtain rfl : c = 4 := by omega
    refine am_vc_ok am_k250 [145, 173] 100 ?_
    refine And.intro (fun _ => K) (fun h1 => absurd (by exact Int32.le_refl _) h1)
  | d + 1, c, h => by
    have K2 := m_shapesT_loop  K d (c + 1) (by omega)
    rw [← nI_1] at K2
    refine am_vc_ok am_k250 [145, 173] 100 ?_
    refine And.intro (fun h1 => absurd h1 (by exact nI_ge (b := 4) (by omega) (by decide))) (fun h1 => ?_)
    refine And.intro (vp_in_nI (N := 4) (by omega) (by decide)) ?_
    rw [nI_clamp (by omega)]
    refine And.intro (fun h2 => ?_) (fun h2 => ?_)
    · have h2 : σ 49 0 c < 0 := h2
      have e : nI (cntN (fun x => decide (¬ σ 49 0 x < 0)) c) + 0 = nI (cntN (fun x => decide (¬ σ 49 0 x < 0)) (c + 1)) := by
        rw [Int32.add_zero]; simp [cntN, h2]
      rw [← e] at K2
      exact K2
    · have h2 : ¬ σ 49 0 c < 0 := h2
      have e : nI (cntN (fun x => decide (¬ σ 49 0 x < 0)) c) + 1 = nI (cntN (fun x => decide (¬ σ 49 0 x < 0)) (c + 1)) := by
        rw [nI_1]; simp [cntN, h2]
      rw [← e] at K2
      exact K2
theorem m_rowsT_loop {Q : tQ} (K : am_G l 250 Q 0 0 221 [(3, aI (nI 6)), (2, aI (nI (cntN (fun x => decide (¬ σ 44 0 x < 0)) 6))), (0, aR 12 0), (1, aI (nI 6))] [] σ τ (rX t) cX lX) : ∀ (d c : Nat), c + d = 6 → am_G l 250 Q 0 0 177 [(3, aI (nI c)), (2, aI (nI (cntN (fun x => decide (¬ σ 44 0 x < 0)) c))), (0, aR 12 0), (1, aI (nI 6))] [] σ τ (rX t) cX lX
  | 0, c, h => by
    obtain rfl : c = 6 := by omega
    refine am_vc_ok am_k250 [177, 221] 100 ?_
    refine And.intro (fun _ => K) (fun h1 => absurd (by exact Int32.le_refl _) h1)
  | d + 1, c, h => by
    have K2 := m_rowsT_loop  K d (c + 1) (by omega)
    rw [← nI_1] at K2
    refine am_vc_ok am_k250 [177, 221] 100 ?_
    refine And.intro (fun h1 => absurd h1 (by exact nI_ge (b := 6) (by omega) (by decide))) (fun h1 => ?_)
    refine And.intro (fun _ => ?_) (fun h2 => absurd (by decide) h2)
    refine And.intro (vp_in_nI (N := 6) (by omega) (by decide)) ?_
    rw [nI_clamp (by omega)]
    refine And.intro (fun h2 => ?_) (fun h2 => ?_)
    · have h2 : σ 44 0 c < 0 := h2
      have e : nI (cntN (fun x => decide (¬ σ 44 0 x < 0)) c) + 0 = nI (cntN (fun x => decide (¬ σ 44 0 x < 0)) (c + 1)) := by
        rw [Int32.add_zero]; simp [cntN, h2]
      rw [← e] at K2
      exact K2
    · have h2 : ¬ σ 44 0 c < 0 := h2
      have e : nI (cntN (fun x => decide (¬ σ 44 0 x < 0)) c) + 1 = nI (cntN (fun x => decide (¬ σ 44 0 x < 0)) (c + 1)) := by
        rw [nI_1]; simp [cntN, h2]
      rw [← e] at K2
      exact K2
theorem m_textsT_loop {Q : tQ} (K : am_G l 250 Q 0 0 221 [(3, aI (nI 6)), (2, aI (nI (cntN (fun x => decide (¬ σ 47 0 x < 0)) 6))), (0, aR 12 0), (1, aI (nI 7))] [] σ τ (rX t) cX lX) : ∀ (d c : Nat), c + d = 6 → am_G l 250 Q 0 0 177 [(3, aI (nI c)), (2, aI (nI (cntN (fun x => decide (¬ σ 47 0 x < 0)) c))), (0, aR 12 0), (1, aI (nI 7))] [] σ τ (rX t) cX lX
  | 0, c, h => by
    obtain rfl : c = 6 := by omega
    refine am_vc_ok am_k250 [177, 221] 100 ?_
    refine And.intro (fun _ => K) (fun h1 => absurd (by exact Int32.le_refl _) h1)
  | d + 1, c, h => by
    have K2 := m_textsT_loop  K d (c + 1) (by omega)
    rw [← nI_1] at K2
    refine am_vc_ok am_k250 [177, 221] 100 ?_
    refine And.intro (fun h1 => absurd h1 (by exact nI_ge (b := 6) (by omega) (by decide))) (fun h1 => ?_)
    refine And.intro (fun h2 => absurd h2 (by decide)) (fun _ => ?_)
    refine And.intro (vp_in_nI (N := 6) (by omega) (by decide)) ?_
    rw [nI_clamp (by omega)]
    refine And.intro (fun h2 => ?_) (fun h2 => ?_)
    · have h2 : σ 47 0 c < 0 := h2
      have e : nI (cntN (fun x => decide (¬ σ 47 0 x < 0)) c) + 0 = nI (cntN (fun x => decide (¬ σ 47 0 x < 0)) (c + 1)) := by
        rw [Int32.add_zero]; simp [cntN, h2]
      rw [← e] at K2
      exact K2
    · have h2 : ¬ σ 47 0 c < 0 := h2
      have e : nI (cntN (fun x => decide (¬ σ 47 0 x < 0)) c) + 1 = nI (cntN (fun x => decide (¬ σ 47 0 x < 0)) (c + 1)) := by
        rw [nI_1]; simp [cntN, h2]
      rw [← e] at K2
      exact K2
theorem m_cnt0 : am_D l 250 [aR 12 0, aI (nI 0)] σ τ (rX t) cX lX (some (aI (σ 12 0 5))) σ τ (rX t) := by
  refine am_D_of am_o250 am_l250 rfl ?_
  refine am_vc_ok am_k250 [] 100 ?_
  refine am_sw 52 (by decide +kernel) ?_
  exact am_vI am_k250 am_r250 rfl ⟨rfl, rfl, rfl, rfl, rfl, rfl⟩
theorem m_cnt1 : am_D l 250 [aR 12 0, aI (nI 1)] σ τ (rX t) cX lX (some (aI (σ 12 0 34))) σ τ (rX t) := by
  refine am_D_of am_o250 am_l250 rfl ?_
  refine am_vc_ok am_k250 [] 100 ?_
  refine am_sw 57 (by decide +kernel) ?_
  exact am_vI am_k250 am_r250 rfl ⟨rfl, rfl, rfl, rfl, rfl, rfl⟩
theorem m_cnt2 {n : Nat} (hn : σ 12 0 34 = nI n) (hn2 : n ≤ 30) : am_D l 250 [aR 12 0, aI (nI 2)] σ τ (rX t) cX lX (some (aI (nI (cntN (fun x => decide (σ 71 0 x = 0)) n)))) σ τ (rX t) := by
  refine am_D_of am_o250 am_l250 rfl ?_
  refine am_vc_ok am_k250 [64] 100 ?_
  refine am_sw 62 (by decide +kernel) ?_
  refine m_open_loop hn hn2 ?_ n 0 (by omega)
  refine am_vc_ok am_k250 [] 100 ?_
  exact am_vI am_k250 am_r250 rfl ⟨rfl, rfl, rfl, rfl, rfl, rfl⟩
theorem m_cnt3 : am_D l 250 [aR 12 0, aI (nI 3)] σ τ (rX t) cX lX (some (aI (σ 12 0 54))) σ τ (rX t) := by
  refine am_D_of am_o250 am_l250 rfl ?_
  refine am_vc_ok am_k250 [] 100 ?_
  refine am_sw 97 (by decide +kernel) ?_
  exact am_vI am_k250 am_r250 rfl ⟨rfl, rfl, rfl, rfl, rfl, rfl⟩
theorem m_cnt4 {n : Nat} (hn : σ 12 0 54 = nI n) (hn2 : n ≤ 690) : am_D l 250 [aR 12 0, aI (nI 4)] σ τ (rX t) cX lX (some (aI (nI (cntN (fun x => decide (σ 88 0 x = 2)) n)))) σ τ (rX t) := by
  refine am_D_of am_o250 am_l250 rfl ?_
  refine am_vc_ok am_k250 [104] 100 ?_
  refine am_sw 102 (by decide +kernel) ?_
  refine m_lost_loop hn hn2 ?_ n 0 (by omega)
  refine am_vc_ok am_k250 [] 100 ?_
  exact am_vI am_k250 am_r250 rfl ⟨rfl, rfl, rfl, rfl, rfl, rfl⟩
theorem m_cnt5 : am_D l 250 [aR 12 0, aI (nI 5)] σ τ (rX t) cX lX (some (aI (σ 12 0 64))) σ τ (rX t) := by
  refine am_D_of am_o250 am_l250 rfl ?_
  refine am_vc_ok am_k250 [] 100 ?_
  refine am_sw 138 (by decide +kernel) ?_
  exact am_vI am_k250 am_r250 rfl ⟨rfl, rfl, rfl, rfl, rfl, rfl⟩
theorem m_cnt6 : am_D l 250 [aR 12 0, aI (nI 6)] σ τ (rX t) cX lX (some (aI (nI (cntN (fun x => decide (¬ σ 44 0 x < 0)) 6)))) σ τ (rX t) := by
  refine am_D_of am_o250 am_l250 rfl ?_
  refine am_vc_ok am_k250 [177] 100 ?_
  refine am_sw 175 (by decide +kernel) ?_
  refine m_rowsT_loop ?_ 6 0 (by omega)
  refine am_vc_ok am_k250 [] 100 ?_
  exact am_vI am_k250 am_r250 rfl ⟨rfl, rfl, rfl, rfl, rfl, rfl⟩
theorem m_cnt7 : am_D l 250 [aR 12 0, aI (nI 7)] σ τ (rX t) cX lX (some (aI (nI (cntN (fun x => decide (¬ σ 47 0 x < 0)) 6)))) σ τ (rX t) := by
  refine am_D_of am_o250 am_l250 rfl ?_
  refine am_vc_ok am_k250 [177] 100 ?_
  refine am_sw 175 (by decide +kernel) ?_
  refine m_textsT_loop ?_ 6 0 (by omega)
  refine am_vc_ok am_k250 [] 100 ?_
  exact am_vI am_k250 am_r250 rfl ⟨rfl, rfl, rfl, rfl, rfl, rfl⟩
theorem m_cnt8 : am_D l 250 [aR 12 0, aI (nI 8)] σ τ (rX t) cX lX (some (aI (nI (cntN (fun x => decide (¬ σ 49 0 x < 0)) 4)))) σ τ (rX t) := by
  refine am_D_of am_o250 am_l250 rfl ?_
  refine am_vc_ok am_k250 [145] 100 ?_
  refine am_sw 143 (by decide +kernel) ?_
  refine m_shapesT_loop ?_ 4 0 (by omega)
  refine am_vc_ok am_k250 [] 100 ?_
  exact am_vI am_k250 am_r250 rfl ⟨rfl, rfl, rfl, rfl, rfl, rfl⟩
theorem x_cnt0 : am_D l 147 [aR 11 0, aI (nI 0)] σ τ (rX t) cX lX (some (aI (σ 3 0 4))) σ τ (rX t) := by
  refine am_D_of am_o147 am_l147 rfl ?_
  refine am_vc_ok am_k147 [] 100 ?_
  refine am_sw 48 (by decide +kernel) ?_
  exact am_vI am_k147 am_r147 rfl ⟨rfl, rfl, rfl, rfl, rfl, rfl⟩
theorem x_cnt1 : am_D l 147 [aR 11 0, aI (nI 1)] σ τ (rX t) cX lX (some (aI (σ 3 0 5))) σ τ (rX t) := by
  refine am_D_of am_o147 am_l147 rfl ?_
  refine am_vc_ok am_k147 [] 100 ?_
  refine am_sw 56 (by decide +kernel) ?_
  exact am_vI am_k147 am_r147 rfl ⟨rfl, rfl, rfl, rfl, rfl, rfl⟩
theorem x_cnt2 : am_D l 147 [aR 11 0, aI (nI 2)] σ τ (rX t) cX lX (some (aI (σ 3 0 6))) σ τ (rX t) := by
  refine am_D_of am_o147 am_l147 rfl ?_
  refine am_vc_ok am_k147 [] 100 ?_
  refine am_sw 64 (by decide +kernel) ?_
  exact am_vI am_k147 am_r147 rfl ⟨rfl, rfl, rfl, rfl, rfl, rfl⟩
theorem x_cnt3 : am_D l 147 [aR 11 0, aI (nI 3)] σ τ (rX t) cX lX (some (aI (σ 1 0 0))) σ τ (rX t) := by
  refine am_D_of am_o147 am_l147 rfl ?_
  refine am_vc_ok am_k147 [] 100 ?_
  refine am_sw 72 (by decide +kernel) ?_
  exact am_vI am_k147 am_r147 rfl ⟨rfl, rfl, rfl, rfl, rfl, rfl⟩
theorem x_cnt4 : am_D l 147 [aR 11 0, aI (nI 4)] σ τ (rX t) cX lX (some (aI (σ 1 0 1))) σ τ (rX t) := by
  refine am_D_of am_o147 am_l147 rfl ?_
  refine am_vc_ok am_k147 [] 100 ?_
  refine am_sw 83 (by decide +kernel) ?_
  exact am_vI am_k147 am_r147 rfl ⟨rfl, rfl, rfl, rfl, rfl, rfl⟩
theorem x_cnt5 : am_D l 147 [aR 11 0, aI (nI 5)] σ τ (rX t) cX lX (some (aI (σ 2 0 0))) σ τ (rX t) := by
  refine am_D_of am_o147 am_l147 rfl ?_
  refine am_vc_ok am_k147 [] 100 ?_
  refine am_sw 94 (by decide +kernel) ?_
  exact am_vI am_k147 am_r147 rfl ⟨rfl, rfl, rfl, rfl, rfl, rfl⟩
theorem x_cnt6 : am_D l 147 [aR 11 0, aI (nI 6)] σ τ (rX t) cX lX (some (aI (nI (cntN (fun x => decide (¬ σ 6 (4 + x) 0 = 0)) 6)))) σ τ (rX t) := by
  refine am_D_of am_o147 am_l147 rfl ?_
  refine am_vc_ok am_k147 [] 100 ?_
  refine am_sw 105 (by decide +kernel) ?_
  refine am_vS am_k147 am_h147 rfl rfl rfl rfl (x_rowsT) ?_
  refine am_vc_ok am_k147 [] 100 ?_
  exact am_vI am_k147 am_r147 rfl ⟨rfl, rfl, rfl, rfl, rfl, rfl⟩
theorem x_cnt7 : am_D l 147 [aR 11 0, aI (nI 7)] σ τ (rX t) cX lX (some (aI (nI (cntN (fun x => decide (¬ σ 6 (10 + x) 0 = 0)) 6)))) σ τ (rX t) := by
  refine am_D_of am_o147 am_l147 rfl ?_
  refine am_vc_ok am_k147 [] 100 ?_
  refine am_sw 113 (by decide +kernel) ?_
  refine am_vS am_k147 am_h147 rfl rfl rfl rfl (x_textsT) ?_
  refine am_vc_ok am_k147 [] 100 ?_
  exact am_vI am_k147 am_r147 rfl ⟨rfl, rfl, rfl, rfl, rfl, rfl⟩
theorem x_cnt8 : am_D l 147 [aR 11 0, aI (nI 8)] σ τ (rX t) cX lX (some (aI (nI (cntN (fun x => decide (¬ σ 9 (1 + x) 0 = 0)) 4)))) σ τ (rX t) := by
  refine am_D_of am_o147 am_l147 rfl ?_
  refine am_vc_ok am_k147 [] 100 ?_
  refine am_sw 121 (by decide +kernel) ?_
  refine am_vO am_k147 am_h147 rfl rfl rfl rfl (x_shapesT) ?_
  refine am_vc_ok am_k147 [] 100 ?_
  exact am_vI am_k147 am_r147 rfl ⟨rfl, rfl, rfl, rfl, rfl, rfl⟩
theorem x_count_bad {c : Int32} (hc : ¬ (0 ≤ c ∧ c < 9)) : am_D l 137 [aR 11 0, aI c] σ τ (rX t) cX lX (some (aI (-1))) σ τ (rX t) := by
  refine am_D_of am_o137 am_l137 rfl ?_
  refine am_vc_ok am_k137 [] 100 ?_
  refine am_vS am_k137 am_h137 rfl rfl rfl rfl (x_within) ?_
  refine am_vc_ok am_k137 [] 100 ?_
  refine And.intro (fun h => ?_) (fun h => ?_)
  · exact am_vI am_k137 am_r137 rfl ⟨rfl, rfl, rfl, rfl, rfl, rfl⟩
  · exact absurd (bI_1.mp h) hc
theorem x_count {c v : Int32} (hc : 0 ≤ c ∧ c < 9) (hD : am_D l 147 [aR 11 0, aI c] σ τ (rX t) cX lX (some (aI v)) σ τ (rX t)) : am_D l 137 [aR 11 0, aI c] σ τ (rX t) cX lX (some (aI v)) σ τ (rX t) := by
  refine am_D_of am_o137 am_l137 rfl ?_
  refine am_vc_ok am_k137 [] 100 ?_
  refine am_vS am_k137 am_h137 rfl rfl rfl rfl (x_within) ?_
  refine am_vc_ok am_k137 [] 100 ?_
  refine And.intro (fun g => absurd hc (bI_0.mp g)) (fun _ => ?_)
  refine am_vO am_k137 am_h137 rfl rfl rfl rfl (hD) ?_
  refine am_vc_ok am_k137 [] 100 ?_
  exact am_vI am_k137 am_r137 rfl ⟨rfl, rfl, rfl, rfl, rfl, rfl⟩
theorem m_count_bad {c : Int32} (hc : ¬ (0 ≤ c ∧ c ≤ 8)) : am_D l 251 [aR 12 0, aI c] σ τ (rX t) cX lX (some (aI (-1))) σ τ (rX t) := by
  refine am_D_of am_o251 am_l251 rfl ?_
  refine am_vc_ok am_k251 [] 100 ?_
  refine am_vS am_k251 am_h251 rfl rfl rfl rfl (m_in) ?_
  refine am_vc_ok am_k251 [] 100 ?_
  refine And.intro (fun h => ?_) (fun h => ?_)
  · exact am_vI am_k251 am_r251 rfl ⟨rfl, rfl, rfl, rfl, rfl, rfl⟩
  · exact absurd (bI_1.mp h) hc
theorem m_count {c v : Int32} (hc : 0 ≤ c ∧ c ≤ 8) (hD : am_D l 250 [aR 12 0, aI c] σ τ (rX t) cX lX (some (aI v)) σ τ (rX t)) : am_D l 251 [aR 12 0, aI c] σ τ (rX t) cX lX (some (aI v)) σ τ (rX t) := by
  refine am_D_of am_o251 am_l251 rfl ?_
  refine am_vc_ok am_k251 [] 100 ?_
  refine am_vS am_k251 am_h251 rfl rfl rfl rfl (m_in) ?_
  refine am_vc_ok am_k251 [] 100 ?_
  refine And.intro (fun g => absurd hc (bI_0.mp g)) (fun _ => ?_)
  refine am_vO am_k251 am_h251 rfl rfl rfl rfl (hD) ?_
  refine am_vc_ok am_k251 [] 100 ?_
  exact am_vI am_k251 am_r251 rfl ⟨rfl, rfl, rfl, rfl, rfl, rfl⟩
theorem rRow.there {d p g : Nat → Int32} {sz : Int32} (h : rRow d p sz g) : (¬ d 0 = 0) ↔ ¬ sz < 0 := by
  obtain ⟨n, hn, -, ⟨h1, h2⟩ | ⟨h1, h2, -⟩⟩ := h
  · rw [h1, h2]; decide
  · rw [h1, h2]
    exact ⟨fun _ => nI_pos (by omega), fun _ => by decide⟩
theorem LC_count (h : Rall σ τ) (c : Int32) : LC l 137 251 [aI c] σ τ t := by
  have e9 : (0 ≤ c ∧ c ≤ 8) ↔ (0 ≤ c ∧ c < 9) := leN (n := 9) (N := 9) (by decide) (by decide)
  by_cases hc : 0 ≤ c ∧ c < 9
  · have hc2 := e9.mpr hc
    obtain ⟨hr, ht, hs, -, -, -, T, n, m, lo, k, hN⟩ := id h
    have h0 := hN.split.1
    have hn := h0.2.1
    have hm := h0.2.2.2.2.2.2.1
    have hT := h0.1
    have mk : ∀ {v v2 : Int32}, v2 = v → am_D l 147 [aR 11 0, aI c] σ τ (rX t) cX lX (some (aI v)) σ τ (rX t) → am_D l 250 [aR 12 0, aI c] σ τ (rX t) cX lX (some (aI v2)) σ τ (rX t) → LC l 137 251 [aI c] σ τ t := by
      intro v v2 e z1 z2
      subst e
      exact LC.of (x_count hc z1) (m_count hc2 z2) h
    obtain ⟨w, hw, rfl⟩ := ix_lt (n := 9) (by decide) hc
    match w, hw with
    | 0, _ => exact mk (hT.2.1.trans hT.1.symm) x_cnt0 m_cnt0
    | 1, _ => exact mk (hn.2.1.trans hn.1.symm) x_cnt1 m_cnt1
    | 2, _ => exact mk h0.2.2.2.2.1.symm x_cnt2 (m_cnt2 hn.2.1 hn.2.2)
    | 3, _ => exact mk (hm.2.trans hm.1.symm) x_cnt3 m_cnt3
    | 4, _ => exact mk h0.2.2.2.2.2.2.2.2.1.symm x_cnt4 (m_cnt4 hm.2 hN.m_le)
    | 5, _ => exact mk (h0.2.2.2.2.2.2.2.2.2.2.2.2.1.trans h0.2.2.2.2.2.2.2.2.2.2.2.1.symm) x_cnt5 m_cnt5
    | 6, _ => exact mk (by rw [cntN_cg (fun x hx => decide_eq_decide.mpr (hr x hx).there.symm)]) x_cnt6 m_cnt6
    | 7, _ => exact mk (by rw [cntN_cg (fun x hx => decide_eq_decide.mpr (ht x hx).1.there.symm)]) x_cnt7 m_cnt7
    | 8, _ =>
      refine mk ?_ x_cnt8 m_cnt8
      rw [cntN_cg (q := fun x => decide (¬ σ 9 (1 + x) 0 = 0)) (fun x hx => decide_eq_decide.mpr ?_)]
      rcases hs x hx with ⟨g1, g2⟩ | ⟨S, hS⟩
      · rw [g1, g2]; decide
      · rw [hS.2.1, hS.2.2.2.1]
        have := hS.1.1
        exact ⟨fun _ => by decide, fun _ => nI_pos (by omega)⟩
  · exact LC.of (x_count_bad hc) (m_count_bad (fun z => hc (e9.mp z))) h
end L13

/-! CASES OF THE LAW: copy (the class's side) -/
section L14
variable {l : Launch} {σ σ2 s : tI} {τ τ2 : tL} {t : Option (Nat × Nat)}
theorem lX30 {r : Nat} (h : r < 6) : lX 30 (4 + r) = 60 := by
  rcases (show r = 0 ∨ r = 1 ∨ r = 2 ∨ r = 3 ∨ r = 4 ∨ r = 5 by omega) with rfl | rfl | rfl | rfl | rfl | rfl <;> rfl
theorem x_copy_bad {r f r2 f2 k : Int32} (h : ¬ (0 ≤ r ∧ r < 6) ∨ ¬ (0 ≤ r2 ∧ r2 < 6)) : am_D l 97 [aR 11 0, aI r, aI f, aI r2, aI f2, aI k] σ τ (rX t) cX lX (some (aI (-1))) σ τ (rX t) := by
  refine am_D_of am_o97 am_l97 rfl ?_
  refine am_vc_ok am_k97 [] 100 ?_
  refine am_vS am_k97 am_h97 rfl rfl rfl rfl (x_within) ?_
  refine am_vc_ok am_k97 [] 100 ?_
  refine And.intro (fun h1 => ?_) (fun h1 => ?_)
  · exact am_vI am_k97 am_r97 rfl ⟨rfl, rfl, rfl, rfl, rfl, rfl⟩
  refine am_vS am_k97 am_h97 rfl rfl rfl rfl (x_within) ?_
  refine am_vc_ok am_k97 [] 100 ?_
  refine And.intro (fun h2 => ?_) (fun h2 => ?_)
  · exact am_vI am_k97 am_r97 rfl ⟨rfl, rfl, rfl, rfl, rfl, rfl⟩
  · rcases h with h | h
    · exact absurd (bI_1.mp h1) h
    · exact absurd (bI_1.mp h2) h
theorem x_copy_neg {r f r2 f2 k : Int32} (h : 0 ≤ r ∧ r < 6) (h2 : 0 ≤ r2 ∧ r2 < 6) (hk : k < 0) : am_D l 97 [aR 11 0, aI r, aI f, aI r2, aI f2, aI k] σ τ (rX t) cX lX (some (aI (-3))) (xfind 5 σ) τ (rX t) := by
  refine am_D_of am_o97 am_l97 rfl ?_
  refine am_vc_ok am_k97 [] 100 ?_
  refine am_vS am_k97 am_h97 rfl rfl rfl rfl (x_within) ?_
  refine am_vc_ok am_k97 [] 100 ?_
  refine And.intro (fun g => absurd h (bI_0.mp g)) (fun _ => ?_)
  refine am_vS am_k97 am_h97 rfl rfl rfl rfl (x_within) ?_
  refine am_vc_ok am_k97 [] 100 ?_
  refine And.intro (fun g => absurd h2 (bI_0.mp g)) (fun _ => ?_)
  refine And.intro (fun g => absurd hk (Int32.not_lt.mpr g)) (fun _ => ?_)
  refine am_vO am_k97 am_h97 rfl rfl rfl rfl (x_find (w := 5) (by decide)) ?_
  refine am_vc_ok am_k97 [] 100 ?_
  exact am_vI am_k97 am_r97 rfl ⟨rfl, rfl, rfl, rfl, rfl, rfl⟩
theorem x_copy_none {r r2 : Nat} {f f2 k : Int32} (h : r < 6) (h2 : r2 < 6) (hk : 0 ≤ k) (h0 : σ 6 (4 + r) 0 = 0 ∨ σ 6 (4 + r2) 0 = 0) : am_D l 97 [aR 11 0, aI (nI r), aI f, aI (nI r2), aI f2, aI k] σ τ (rX t) cX lX (some (aI (-3))) (xfind 1 σ) τ (rX t) := by
  refine am_D_of am_o97 am_l97 rfl ?_
  refine am_vc_ok am_k97 [] 100 ?_
  refine am_vS am_k97 am_h97 rfl rfl rfl rfl (x_within) ?_
  refine am_vc_ok am_k97 [] 100 ?_
  refine And.intro (fun g => absurd (in6 h) (bI_0.mp g)) (fun _ => ?_)
  refine am_vS am_k97 am_h97 rfl rfl rfl rfl (x_within) ?_
  refine am_vc_ok am_k97 [] 100 ?_
  refine And.intro (fun g => absurd (in6 h2) (bI_0.mp g)) (fun _ => ?_)
  refine And.intro (fun _ => ?_) (fun g => absurd hk g)
  refine And.intro (vp_in_nI (N := 6) h (by decide)) ?_
  rw [nI_clamp (n := r) (by omega)]
  refine And.intro (fun _ => ?_) (fun g1 => ?_)
  · refine am_vO am_k97 am_h97 rfl rfl rfl rfl (x_find (w := 1) (by decide)) ?_
    refine am_vc_ok am_k97 [] 100 ?_
    exact am_vI am_k97 am_r97 rfl ⟨rfl, rfl, rfl, rfl, rfl, rfl⟩
  · refine And.intro (vp_in_nI (N := 6) h2 (by decide)) ?_
    rw [nI_clamp (n := r2) (by omega)]
    refine And.intro (fun _ => ?_) (fun g2 => ?_)
    · refine am_vO am_k97 am_h97 rfl rfl rfl rfl (x_find (w := 1) (by decide)) ?_
      refine am_vc_ok am_k97 [] 100 ?_
      exact am_vI am_k97 am_r97 rfl ⟨rfl, rfl, rfl, rfl, rfl, rfl⟩
    · rcases h0 with h0 | h0
      · exact absurd h0 g1
      · exact absurd h0 g2
theorem x_copy_out {r r2 : Nat} {f f2 k : Int32} (h : r < 6) (h2 : r2 < 6) (hk : 0 ≤ k) (h01 : ¬ σ 6 (4 + r) 0 = 0) (h02 : ¬ σ 6 (4 + r2) 0 = 0) (hs : ¬ (0 ≤ f ∧ f ≤ σ 6 (4 + r) 1 ∧ k ≤ σ 6 (4 + r) 1 - f) ∨ ¬ (0 ≤ f2 ∧ f2 ≤ σ 6 (4 + r2) 1 ∧ k ≤ σ 6 (4 + r2) 1 - f2)) : am_D l 97 [aR 11 0, aI (nI r), aI f, aI (nI r2), aI f2, aI k] σ τ (rX t) cX lX (some (aI (-3))) (xfind 2 σ) τ (rX t) := by
  refine am_D_of am_o97 am_l97 rfl ?_
  refine am_vc_ok am_k97 [] 100 ?_
  refine am_vS am_k97 am_h97 rfl rfl rfl rfl (x_within) ?_
  refine am_vc_ok am_k97 [] 100 ?_
  refine And.intro (fun g => absurd (in6 h) (bI_0.mp g)) (fun _ => ?_)
  refine am_vS am_k97 am_h97 rfl rfl rfl rfl (x_within) ?_
  refine am_vc_ok am_k97 [] 100 ?_
  refine And.intro (fun g => absurd (in6 h2) (bI_0.mp g)) (fun _ => ?_)
  refine And.intro (fun _ => ?_) (fun g => absurd hk g)
  refine And.intro (vp_in_nI (N := 6) h (by decide)) ?_
  rw [nI_clamp (n := r) (by omega)]
  refine And.intro (fun g => absurd g h01) (fun _ => ?_)
  refine And.intro (vp_in_nI (N := 6) h2 (by decide)) ?_
  rw [nI_clamp (n := r2) (by omega)]
  refine And.intro (fun g => absurd g h02) (fun _ => ?_)
  refine And.intro (vp_in_nI (N := 6) h (by decide)) ?_
  rw [nI_clamp (n := r) (by omega)]
  refine am_vO am_k97 am_h97 rfl rfl rfl rfl (x_spans) ?_
  refine am_vc_ok am_k97 [] 100 ?_
  refine And.intro (fun _ => ?_) (fun g1 => ?_)
  · refine am_vO am_k97 am_h97 rfl rfl rfl rfl (x_find (w := 2) (by decide)) ?_
    refine am_vc_ok am_k97 [] 100 ?_
    exact am_vI am_k97 am_r97 rfl ⟨rfl, rfl, rfl, rfl, rfl, rfl⟩
  · refine And.intro (vp_in_nI (N := 6) h2 (by decide)) ?_
    rw [nI_clamp (n := r2) (by omega)]
    refine am_vO am_k97 am_h97 rfl rfl rfl rfl (x_spans) ?_
    refine am_vc_ok am_k97 [] 100 ?_
    refine And.intro (fun _ => ?_) (fun g2 => ?_)
    · refine am_vO am_k97 am_h97 rfl rfl rfl rfl (x_find (w := 2) (by decide)) ?_
      refine am_vc_ok am_k97 [] 100 ?_
      exact am_vI am_k97 am_r97 rfl ⟨rfl, rfl, rfl, rfl, rfl, rfl⟩
    · rcases hs with hs | hs
      · exact absurd (bI_1.mp g1) hs
      · exact absurd (bI_1.mp g2) hs
theorem x_copy {r r2 f f2 k : Nat} (h : r < 6) (h2 : r2 < 6) (hk : 0 ≤ nI k) (h01 : ¬ σ 6 (4 + r) 0 = 0) (h02 : ¬ σ 6 (4 + r2) 0 = 0) (hs : 0 ≤ nI f ∧ nI f ≤ σ 6 (4 + r) 1 ∧ nI k ≤ σ 6 (4 + r) 1 - nI f) (hs2 : 0 ≤ nI f2 ∧ nI f2 ≤ σ 6 (4 + r2) 1 ∧ nI k ≤ σ 6 (4 + r2) 1 - nI f2) (hf : f + k ≤ 60) (hf2 : f2 + k ≤ 60) : am_D l 97 [aR 11 0, aI (nI r), aI (nI f), aI (nI r2), aI (nI f2), aI (nI k)] σ τ (rX t) cX lX (some (aI 1)) (cp3 σ 30 (4 + r2) 30 (4 + r) f f2 k) τ (rX t) := by
  refine am_D_of am_o97 am_l97 rfl ?_
  refine am_vc_ok am_k97 [] 100 ?_
  refine am_vS am_k97 am_h97 rfl rfl rfl rfl (x_within) ?_
  refine am_vc_ok am_k97 [] 100 ?_
  refine And.intro (fun g => absurd (in6 h) (bI_0.mp g)) (fun _ => ?_)
  refine am_vS am_k97 am_h97 rfl rfl rfl rfl (x_within) ?_
  refine am_vc_ok am_k97 [] 100 ?_
  refine And.intro (fun g => absurd (in6 h2) (bI_0.mp g)) (fun _ => ?_)
  refine And.intro (fun _ => ?_) (fun g => absurd hk g)
  refine And.intro (vp_in_nI (N := 6) h (by decide)) ?_
  rw [nI_clamp (n := r) (by omega)]
  refine And.intro (fun g => absurd g h01) (fun _ => ?_)
  refine And.intro (vp_in_nI (N := 6) h2 (by decide)) ?_
  rw [nI_clamp (n := r2) (by omega)]
  refine And.intro (fun g => absurd g h02) (fun _ => ?_)
  refine And.intro (vp_in_nI (N := 6) h (by decide)) ?_
  rw [nI_clamp (n := r) (by omega)]
  refine am_vO am_k97 am_h97 rfl rfl rfl rfl (x_spans) ?_
  refine am_vc_ok am_k97 [] 100 ?_
  refine And.intro (fun g => absurd hs (bI_0.mp g)) (fun _ => ?_)
  refine And.intro (vp_in_nI (N := 6) h2 (by decide)) ?_
  rw [nI_clamp (n := r2) (by omega)]
  refine am_vO am_k97 am_h97 rfl rfl rfl rfl (x_spans) ?_
  refine am_vc_ok am_k97 [] 100 ?_
  refine And.intro (fun g => absurd hs2 (bI_0.mp g)) (fun _ => ?_)
  refine And.intro (vp_in_nI (N := 6) h (by decide)) ?_
  refine And.intro (vp_in_nI (N := 6) h2 (by decide)) ?_
  rw [nI_clamp (n := r) (by omega), nI_clamp (n := r2) (by omega)]
  refine am_vA am_k97 am_h97 rfl rfl rfl rfl (nI_pos (by omega)) (nI_pos (by omega)) (nI_pos (by omega)) ?_ ?_ ?_
  · rw [nI_clamp (by omega), nI_clamp (by omega), lX30 h]; exact hf
  · rw [nI_clamp (by omega), nI_clamp (by omega), lX30 h2]; exact hf2
  rw [nI_clamp (n := f) (by omega), nI_clamp (n := f2) (by omega), nI_clamp (n := k) (by omega)]
  refine am_vc_ok am_k97 [] 100 ?_
  exact am_vI am_k97 am_r97 rfl ⟨rfl, rfl, rfl, rfl, rfl, rfl⟩
theorem m_copy_bad {r f r2 f2 k : Int32} (h : ¬ (0 ≤ r ∧ r ≤ 5) ∨ ¬ (0 ≤ r2 ∧ r2 ≤ 5)) : am_D l 167 [aR 12 0, aI r, aI f, aI r2, aI f2, aI k] σ τ (rX t) cX lX (some (aI (-1))) σ τ (rX t) := by
  refine am_D_of am_o167 am_l167 rfl ?_
  refine am_vc_ok am_k167 [] 100 ?_
  refine am_vS am_k167 am_h167 rfl rfl rfl rfl (m_isSix) ?_
  refine am_vc_ok am_k167 [] 100 ?_
  refine And.intro (fun h1 => ?_) (fun h1 => ?_)
  · exact am_vI am_k167 am_r167 rfl ⟨rfl, rfl, rfl, rfl, rfl, rfl⟩
  refine am_vS am_k167 am_h167 rfl rfl rfl rfl (m_isSix) ?_
  refine am_vc_ok am_k167 [] 100 ?_
  refine And.intro (fun h2 => ?_) (fun h2 => ?_)
  · exact am_vI am_k167 am_r167 rfl ⟨rfl, rfl, rfl, rfl, rfl, rfl⟩
  · rcases h with h | h
    · exact absurd (bI_1.mp h1) h
    · exact absurd (bI_1.mp h2) h
theorem m_copy_neg {r f r2 f2 k : Int32} (h : 0 ≤ r ∧ r ≤ 5) (h2 : 0 ≤ r2 ∧ r2 ≤ 5) (hk : k < 0) : am_D l 167 [aR 12 0, aI r, aI f, aI r2, aI f2, aI k] σ τ (rX t) cX lX (some (aI (-3))) (mmeets 5 σ) τ (rX t) := by
  refine am_D_of am_o167 am_l167 rfl ?_
  refine am_vc_ok am_k167 [] 100 ?_
  refine am_vS am_k167 am_h167 rfl rfl rfl rfl (m_isSix) ?_
  refine am_vc_ok am_k167 [] 100 ?_
  refine And.intro (fun g => absurd h (bI_0.mp g)) (fun _ => ?_)
  refine am_vS am_k167 am_h167 rfl rfl rfl rfl (m_isSix) ?_
  refine am_vc_ok am_k167 [] 100 ?_
  refine And.intro (fun g => absurd h2 (bI_0.mp g)) (fun _ => ?_)
  refine And.intro (fun g => absurd hk (Int32.not_lt.mpr g)) (fun _ => ?_)
  refine am_vO am_k167 am_h167 rfl rfl rfl rfl (m_meets (w := 5) (by decide)) ?_
  refine am_vc_ok am_k167 [] 100 ?_
  exact am_vI am_k167 am_r167 rfl ⟨rfl, rfl, rfl, rfl, rfl, rfl⟩
theorem m_copy_none {r r2 : Nat} {f f2 k : Int32} (h : r < 6) (h2 : r2 < 6) (hk : 0 ≤ k) (h0 : σ 44 0 r < 0 ∨ σ 44 0 r2 < 0) : am_D l 167 [aR 12 0, aI (nI r), aI f, aI (nI r2), aI f2, aI k] σ τ (rX t) cX lX (some (aI (-3))) (mmeets 1 σ) τ (rX t) := by
  refine am_D_of am_o167 am_l167 rfl ?_
  refine am_vc_ok am_k167 [] 100 ?_
  refine am_vS am_k167 am_h167 rfl rfl rfl rfl (m_isSix) ?_
  refine am_vc_ok am_k167 [] 100 ?_
  refine And.intro (fun g => absurd (in5 h) (bI_0.mp g)) (fun _ => ?_)
  refine am_vS am_k167 am_h167 rfl rfl rfl rfl (m_isSix) ?_
  refine am_vc_ok am_k167 [] 100 ?_
  refine And.intro (fun g => absurd (in5 h2) (bI_0.mp g)) (fun _ => ?_)
  refine And.intro (fun _ => ?_) (fun g => absurd hk g)
  refine And.intro (vp_in_nI (N := 6) h (by decide)) ?_
  rw [nI_clamp (n := r) (by omega)]
  refine And.intro (fun _ => ?_) (fun g1 => ?_)
  · refine am_vO am_k167 am_h167 rfl rfl rfl rfl (m_meets (w := 1) (by decide)) ?_
    refine am_vc_ok am_k167 [] 100 ?_
    exact am_vI am_k167 am_r167 rfl ⟨rfl, rfl, rfl, rfl, rfl, rfl⟩
  · refine And.intro (vp_in_nI (N := 6) h2 (by decide)) ?_
    rw [nI_clamp (n := r2) (by omega)]
    refine And.intro (fun g2 => ?_) (fun _ => ?_)
    · rcases h0 with h0 | h0
      · exact absurd h0 g1
      · exact absurd h0 (Int32.not_lt.mpr g2)
    · refine am_vO am_k167 am_h167 rfl rfl rfl rfl (m_meets (w := 1) (by decide)) ?_
      refine am_vc_ok am_k167 [] 100 ?_
      exact am_vI am_k167 am_r167 rfl ⟨rfl, rfl, rfl, rfl, rfl, rfl⟩
theorem m_copy_out {r r2 : Nat} {f f2 k : Int32} (h : r < 6) (h2 : r2 < 6) (hk : 0 ≤ k) (h01 : ¬ σ 44 0 r < 0) (h02 : ¬ σ 44 0 r2 < 0) (hs : ¬ (¬ f < 0 ∧ ¬ f2 < 0 ∧ ¬ 0 < lg_cmp (f.toInt64 + k.toInt64) (σ 44 0 r).toInt64 ∧ lg_cmp (f2.toInt64 + k.toInt64) (σ 44 0 r2).toInt64 ≤ 0)) : am_D l 167 [aR 12 0, aI (nI r), aI f, aI (nI r2), aI f2, aI k] σ τ (rX t) cX lX (some (aI (-3))) (mmeets 2 σ) τ (rX t) := by
  refine am_D_of am_o167 am_l167 rfl ?_
  refine am_vc_ok am_k167 [] 100 ?_
  refine am_vS am_k167 am_h167 rfl rfl rfl rfl (m_isSix) ?_
  refine am_vc_ok am_k167 [] 100 ?_
  refine And.intro (fun g => absurd (in5 h) (bI_0.mp g)) (fun _ => ?_)
  refine am_vS am_k167 am_h167 rfl rfl rfl rfl (m_isSix) ?_
  refine am_vc_ok am_k167 [] 100 ?_
  refine And.intro (fun g => absurd (in5 h2) (bI_0.mp g)) (fun _ => ?_)
  refine And.intro (fun _ => ?_) (fun g => absurd hk g)
  refine And.intro (vp_in_nI (N := 6) h (by decide)) ?_
  rw [nI_clamp (n := r) (by omega)]
  refine And.intro (fun g => absurd g h01) (fun _ => ?_)
  refine And.intro (vp_in_nI (N := 6) h2 (by decide)) ?_
  rw [nI_clamp (n := r2) (by omega)]
  refine And.intro (fun _ => ?_) (fun g => absurd (Int32.not_lt.mp h02) g)
  refine And.intro (fun g3 => ?_) (fun g3 => ?_)
  · refine am_vO am_k167 am_h167 rfl rfl rfl rfl (m_meets (w := 2) (by decide)) ?_
    refine am_vc_ok am_k167 [] 100 ?_
    exact am_vI am_k167 am_r167 rfl ⟨rfl, rfl, rfl, rfl, rfl, rfl⟩
  refine And.intro (fun g4 => ?_) (fun g4 => ?_)
  · refine am_vO am_k167 am_h167 rfl rfl rfl rfl (m_meets (w := 2) (by decide)) ?_
    refine am_vc_ok am_k167 [] 100 ?_
    exact am_vI am_k167 am_r167 rfl ⟨rfl, rfl, rfl, rfl, rfl, rfl⟩
  refine And.intro (vp_in_nI (N := 6) h (by decide)) ?_
  rw [nI_clamp (n := r) (by omega)]
  refine And.intro (fun g5 => ?_) (fun g5 => ?_)
  · refine am_vO am_k167 am_h167 rfl rfl rfl rfl (m_meets (w := 2) (by decide)) ?_
    refine am_vc_ok am_k167 [] 100 ?_
    exact am_vI am_k167 am_r167 rfl ⟨rfl, rfl, rfl, rfl, rfl, rfl⟩
  refine And.intro (vp_in_nI (N := 6) h2 (by decide)) ?_
  rw [nI_clamp (n := r2) (by omega)]
  refine And.intro (fun g6 => ?_) (fun g6 => ?_)
  · exact absurd ⟨g3, g4, g5, g6⟩ hs
  · refine am_vO am_k167 am_h167 rfl rfl rfl rfl (m_meets (w := 2) (by decide)) ?_
    refine am_vc_ok am_k167 [] 100 ?_
    exact am_vI am_k167 am_r167 rfl ⟨rfl, rfl, rfl, rfl, rfl, rfl⟩
theorem cp3_0 {k1 o1 k0 o0 sp dp : Nat} : cp3 σ k1 o1 k0 o0 sp dp 0 = σ := by
  funext a b c
  unfold cp3
  rw [if_neg (show ¬ (dp ≤ c ∧ c < dp + 0) by omega)]
  simp
theorem cp3_1 {k1 o1 k0 o0 sp dp n : Nat} : u3 (cp3 σ k1 o1 k0 o0 sp dp n) k1 o1 (dp + n) (σ k0 o0 (sp + n)) = cp3 σ k1 o1 k0 o0 sp dp (n + 1) := by
  funext a b c
  by_cases h1 : a = k1
  · by_cases h2 : b = o1
    · by_cases h3 : c = dp + n
      · rw [h1, h2, h3, u3_eq]
        unfold cp3
        rw [if_pos rfl, if_pos rfl, if_pos ⟨by omega, by omega⟩, show sp + (dp + n - dp) = sp + n by omega]
      · rw [u3_j _ _ h3]
        unfold cp3
        rw [if_pos h1, if_pos h2, if_pos h1, if_pos h2]
        by_cases h4 : dp ≤ c ∧ c < dp + n
        · rw [if_pos h4, if_pos ⟨h4.1, by omega⟩]
        · rw [if_neg h4, if_neg (by omega)]
    · rw [u3_i _ _ h2]
      unfold cp3
      rw [if_pos h1, if_neg h2, if_pos h1, if_neg h2]
  · rw [u3_k _ _ h1]
    unfold cp3
    rw [if_neg h1, if_neg h1]
theorem ix60 {r f c : Nat} : (60 : Int32) * nI r + nI f + nI c = nI (60 * r + f + c) := by
  rw [show (60 : Int32) = nI 60 from rfl, pk_mul, nI_add, nI_add]
abbrev mv1 (σ : tI) (r f c : Nat) : tI := cp3 σ 46 0 45 0 (60 * r + f) 0 c
theorem m_copy_loop1 {Q : tQ} {r r2 f f2 k : Nat} (hr : r < 6) (hf : f + k ≤ 60) (K : am_G l 167 Q 0 0 138 [(6, aI (nI k)), (0, aR 12 0), (1, aI (nI r)), (2, aI (nI f)), (3, aI (nI r2)), (4, aI (nI f2)), (5, aI (nI k))] [] (mv1 σ r f k) τ (rX t) cX lX) : ∀ (d c : Nat), c + d = k → am_G l 167 Q 0 0 104 [(6, aI (nI c)), (0, aR 12 0), (1, aI (nI r)), (2, aI (nI f)), (3, aI (nI r2)), (4, aI (nI f2)), (5, aI (nI k))] [] (mv1 σ r f c) τ (rX t) cX lX
  | 0, c, h => by
    obtain rfl : c = k := by omega
    refine am_vc_ok am_k167 [104, 138] 100 ?_
    refine And.intro (fun _ => K) (fun h1 => absurd (Int32.le_refl _) h1)
  | d + 1, c, h => by
    have K2 := m_copy_loop1 hr hf K d (c + 1) (by omega)
    rw [← nI_1] at K2
    refine am_vc_ok am_k167 [104, 138] 100 ?_
    refine And.intro (fun h1 => absurd h1 (nI_ge (by omega) (by omega))) (fun h1 => ?_)
    refine And.intro (by rw [ix60]; exact vp_in_nI (N := 360) (by omega) (by decide)) ?_
    rw [ix60, nI_clamp (n := 60 * r + f + c) (by omega)]
    refine And.intro (vp_in_nI (N := 60) (by omega) (by decide)) ?_
    rw [nI_clamp (n := c) (by omega)]
    have e := cp3_1 (σ := σ) (k1 := 46) (o1 := 0) (k0 := 45) (o0 := 0) (sp := 60 * r + f) (dp := 0) (n := c)
    rw [Nat.zero_add] at e
    have e2 : mv1 σ r f c 45 0 (60 * r + f + c) = σ 45 0 (60 * r + f + c) := by simp [mv1, cp3]
    rw [e2, e]
    exact K2
abbrev mv2 (σ : tI) (r2 f2 c : Nat) : tI := cp3 σ 45 0 46 0 0 (60 * r2 + f2) c
theorem m_copy_loop2 {Q : tQ} {r r2 f f2 k : Nat} (hr : r2 < 6) (hf : f2 + k ≤ 60) (K : am_G l 167 Q 0 0 176 [(6, aI (nI k)), (0, aR 12 0), (1, aI (nI r)), (2, aI (nI f)), (3, aI (nI r2)), (4, aI (nI f2)), (5, aI (nI k))] [] (mv2 σ r2 f2 k) τ (rX t) cX lX) : ∀ (d c : Nat), c + d = k → am_G l 167 Q 0 0 141 [(6, aI (nI c)), (0, aR 12 0), (1, aI (nI r)), (2, aI (nI f)), (3, aI (nI r2)), (4, aI (nI f2)), (5, aI (nI k))] [] (mv2 σ r2 f2 c) τ (rX t) cX lX
  | 0, c, h => by
    obtain rfl : c = k := by omega
    refine am_vc_ok am_k167 [141, 176] 100 ?_
    refine And.intro (fun _ => K) (fun h1 => absurd (Int32.le_refl _) h1)
  | d + 1, c, h => by
    have K2 := m_copy_loop2 hr hf K d (c + 1) (by omega)
    rw [← nI_1] at K2
    refine am_vc_ok am_k167 [141, 176] 100 ?_
    refine And.intro (fun h1 => absurd h1 (nI_ge (by omega) (by omega))) (fun h1 => ?_)
    refine And.intro (vp_in_nI (N := 60) (by omega) (by decide)) ?_
    rw [nI_clamp (n := c) (by omega)]
    refine And.intro (by rw [ix60]; exact vp_in_nI (N := 360) (by omega) (by decide)) ?_
    rw [ix60, nI_clamp (n := 60 * r2 + f2 + c) (by omega)]
    have e := cp3_1 (σ := σ) (k1 := 45) (o1 := 0) (k0 := 46) (o0 := 0) (sp := 0) (dp := 60 * r2 + f2) (n := c)
    rw [Nat.zero_add] at e
    have e2 : mv2 σ r2 f2 c 46 0 c = σ 46 0 c := by simp [mv2, cp3]
    rw [e2, e]
    exact K2
theorem m_copy {r r2 f f2 k : Nat} (h : r < 6) (h2 : r2 < 6) (hk : 0 ≤ nI k) (h01 : ¬ σ 44 0 r < 0) (h02 : ¬ σ 44 0 r2 < 0) (hf : f + k ≤ 60) (hf2 : f2 + k ≤ 60) (hs : ¬ nI f < 0 ∧ ¬ nI f2 < 0 ∧ ¬ 0 < lg_cmp ((nI f).toInt64 + (nI k).toInt64) (σ 44 0 r).toInt64 ∧ lg_cmp ((nI f2).toInt64 + (nI k).toInt64) (σ 44 0 r2).toInt64 ≤ 0) : am_D l 167 [aR 12 0, aI (nI r), aI (nI f), aI (nI r2), aI (nI f2), aI (nI k)] σ τ (rX t) cX lX (some (aI 1)) (mv2 (mv1 σ r f k) r2 f2 k) τ (rX t) := by
  refine am_D_of am_o167 am_l167 rfl ?_
  refine am_vc_ok am_k167 [104] 100 ?_
  refine am_vS am_k167 am_h167 rfl rfl rfl rfl (m_isSix) ?_
  refine am_vc_ok am_k167 [104] 100 ?_
  refine And.intro (fun g => absurd (in5 h) (bI_0.mp g)) (fun _ => ?_)
  refine am_vS am_k167 am_h167 rfl rfl rfl rfl (m_isSix) ?_
  refine am_vc_ok am_k167 [104] 100 ?_
  refine And.intro (fun g => absurd (in5 h2) (bI_0.mp g)) (fun _ => ?_)
  refine And.intro (fun _ => ?_) (fun g => absurd hk g)
  refine And.intro (vp_in_nI (N := 6) h (by decide)) ?_
  rw [nI_clamp (n := r) (by omega)]
  refine And.intro (fun g => absurd g h01) (fun _ => ?_)
  refine And.intro (vp_in_nI (N := 6) h2 (by decide)) ?_
  rw [nI_clamp (n := r2) (by omega)]
  refine And.intro (fun _ => ?_) (fun g => absurd (Int32.not_lt.mp h02) g)
  refine And.intro (fun g => absurd g hs.1) (fun _ => ?_)
  refine And.intro (fun g => absurd g hs.2.1) (fun _ => ?_)
  refine And.intro (vp_in_nI (N := 6) h (by decide)) ?_
  rw [nI_clamp (n := r) (by omega)]
  refine And.intro (fun g => absurd g hs.2.2.1) (fun _ => ?_)
  refine And.intro (vp_in_nI (N := 6) h2 (by decide)) ?_
  rw [nI_clamp (n := r2) (by omega)]
  refine And.intro (fun _ => ?_) (fun g => absurd hs.2.2.2 g)
  have L2 := m_copy_loop2 (l := l) (σ := mv1 σ r f k) (τ := τ) (t := t) (Q := fun v s t_1 p c n => v = some (aI 1) ∧ s = mv2 (mv1 σ r f k) r2 f2 k ∧ t_1 = τ ∧ p = rX t ∧ c = cX ∧ n = lX) (r := r) (f := f) h2 hf2 (by
    refine am_vc_ok am_k167 [] 100 ?_
    exact am_vI am_k167 am_r167 rfl ⟨rfl, rfl, rfl, rfl, rfl, rfl⟩) k 0 (by omega)
  rw [show mv2 (mv1 σ r f k) r2 f2 0 = mv1 σ r f k from cp3_0] at L2
  have L1 := m_copy_loop1 (l := l) (σ := σ) (τ := τ) (t := t) (Q := fun v s t_1 p c n => v = some (aI 1) ∧ s = mv2 (mv1 σ r f k) r2 f2 k ∧ t_1 = τ ∧ p = rX t ∧ c = cX ∧ n = lX) (r2 := r2) (f2 := f2) h hf (by
    refine am_vc_ok am_k167 [141] 100 ?_
    exact L2) k 0 (by omega)
  rw [show mv1 σ r f 0 = σ from cp3_0] at L1
  exact L1
end L14

/-! copy: the arithmetic -/
section L15
theorem span_iff {f k : Int32} {n : Nat} (hk : 0 ≤ k) (hn : n ≤ 60) : (0 ≤ f ∧ f ≤ nI n ∧ k ≤ nI n - f) ↔ (¬ f < 0 ∧ f.toInt64 + k.toInt64 ≤ (nI n).toInt64) := by
  have e : (nI n).toInt = n := nI_toInt (by omega)
  have f1 := Int32.le_toInt f
  have f2 := Int32.toInt_lt f
  have k1 := Int32.le_toInt k
  have k2 := Int32.toInt_lt k
  have z : (0 : Int32).toInt = 0 := rfl
  rw [Int32.le_iff_toInt_le, z] at hk
  have s64 : (f.toInt64 + k.toInt64).toInt = f.toInt + k.toInt := by
    rw [Int64.toInt_add, Int32.toInt_toInt64, Int32.toInt_toInt64]
    exact Int.bmod_eq_of_le (by omega) (by omega)
  rw [Int32.not_lt, Int64.le_iff_toInt_le, s64, Int32.toInt_toInt64, Int32.le_iff_toInt_le, Int32.le_iff_toInt_le, Int32.le_iff_toInt_le, e, z]
  constructor
  · rintro ⟨a, b, c⟩
    rw [Int32.toInt_sub, e, Int.bmod_eq_of_le (by omega) (by omega)] at c
    exact ⟨a, by omega⟩
  · rintro ⟨a, b⟩
    refine ⟨a, by omega, ?_⟩
    rw [Int32.toInt_sub, e, Int.bmod_eq_of_le (by omega) (by omega)]
    omega
theorem Rall.c46 {σ σ2 : tI} {τ : tL} (h : Rall σ τ) (hk : ∀ k, k ≠ 46 → σ2 k = σ k) : Rall σ2 τ := by
  obtain ⟨h1, h2, h3, h4, h5, h6, T, n, m, lo, kk, h7⟩ := h
  have g6 := hk 6 (by decide)
  have g30 := hk 30 (by decide)
  have g12 := hk 12 (by decide)
  have g8 := hk 8 (by decide)
  have g49 := hk 49 (by decide)
  exact ⟨h1.fr (fun r _ => by rw [g6]) (fun r _ => by rw [g30]) (hk 44 (by decide)) (hk 45 (by decide)), h2.fr (fun r _ => by rw [g6]) (fun r _ => by rw [g30]) (hk 47 (by decide)) (hk 48 (by decide)), h3.fr (fun k z => hk k (kNe z rfl)), h4.fr (hk 4 (by decide)) (hk 55 (by decide)) (hk 56 (by decide)) (by rw [g6]) (by rw [g30]) (by rw [g12]), h5.fr (fun a _ => by rw [g8]; exact ⟨rfl, rfl⟩) (hk 57 (by decide)) (hk 58 (by decide)) (hk 31 (by decide)) (hk 59 (by decide)) (fun s _ z => by rw [g49]; exact z), h6.fr (hk 11 (by decide)) (hk 42 (by decide)) (hk 43 (by decide)) (by rw [g12]) (by rw [g12]), T, n, m, lo, kk, h7.fr (fun k z => hk k (kNe z rfl)) (fun j _ => by rw [g12]) (fun a j _ _ => by rw [g8])⟩
end L15

/-! CASES OF THE LAW in a form for any world; refusals of fault, shape, fields, write, read, handOn, fits, unlike -/
noncomputable def LG (l : Launch) (zx zm : Nat) (as : List am_V) (σ : tI) (τ : tL) (ρ : tR) (cn : tN) (ln : tM) (R : tI → tL → tR → tN → tM → Prop) : Prop :=
  am_okm zx = true ∧ am_E l zx (aR 11 0 :: as) σ τ ρ cn ln (fun v σ1 τ1 ρ1 cn1 ln1 => am_num zx v = true ∧ am_okm zm = true ∧ am_E l zm (aR 12 0 :: as) σ1 τ1 ρ1 cn1 ln1 (fun v2 σ2 τ2 ρ2 cn2 ln2 => v2 = v ∧ R σ2 τ2 ρ2 cn2 ln2))
def lgT : tI → tL → tR → tN → tM → Prop := fun _ _ _ _ _ => True
section L16
variable {l : Launch} {σ σ2 s : tI} {τ τ2 : tL} {t : Option (Nat × Nat)}
theorem LG.of_LC {zx zm : Nat} {as : List am_V} {R : tI → tL → tR → tN → tM → Prop} (h : LC l zx zm as σ τ t) (hR : ∀ σ2 τ2 t2, Rall σ2 τ2 → R σ2 τ2 (rX t2) cX lX) : LG l zx zm as σ τ (rX t) cX lX R := by
  refine ⟨h.1, am_E.mono h.2 ?_⟩
  rintro v σ1 τ1 ρ1 cn1 ln1 ⟨t1, rfl, rfl, rfl, h1, h2⟩
  refine ⟨h1, h2.1, am_E.mono h2.2 ?_⟩
  rintro v2 σ2 τ2 ρ2 cn2 ln2 ⟨t2, rfl, rfl, rfl, h3, h4⟩
  exact ⟨h3, hR _ _ _ h4⟩
theorem LG.of {zx zm : Nat} {as : List am_V} {R : tI → tL → tR → tN → tM → Prop} {ρ ρ1 ρ2 : tR} {cn : tN} {ln : tM} {v : am_V} {σ1 : tI} {τ1 : tL} (hx : am_D l zx (aR 11 0 :: as) σ τ ρ cn ln (some v) σ1 τ1 ρ1) (hm : am_D l zm (aR 12 0 :: as) σ1 τ1 ρ1 cn ln (some v) σ2 τ2 ρ2) (hR : R σ2 τ2 ρ2 cn ln) (hv : am_num zx (some v) = true := by rfl) : LG l zx zm as σ τ ρ cn ln R := by
  refine ⟨hx.1, am_E.mono hx.2 ?_⟩
  rintro v1 σ1 τ1 ρ1 cn1 ln1 ⟨rfl, rfl, rfl, rfl, rfl, rfl⟩
  refine ⟨hv, hm.1, am_E.mono hm.2 ?_⟩
  rintro v2 σ2 τ2 ρ2 cn2 ln2 ⟨rfl, rfl, rfl, rfl, rfl, rfl⟩
  exact ⟨rfl, hR⟩
theorem x_fault_bad {r : Int32} (hr : ¬ (0 ≤ r ∧ r < 6)) : am_D l 101 [aR 11 0, aI r] σ τ (rX t) cX lX (some (aI (-1))) σ τ (rX t) := by
  refine am_D_of am_o101 am_l101 rfl ?_
  refine am_vc_ok am_k101 [] 100 ?_
  refine am_vS am_k101 am_h101 rfl rfl rfl rfl (x_within) ?_
  refine am_vc_ok am_k101 [] 100 ?_
  refine And.intro (fun h => ?_) (fun h => ?_)
  · exact am_vI am_k101 am_r101 rfl ⟨rfl, rfl, rfl, rfl, rfl, rfl⟩
  · exact absurd (bI_1.mp h) hr
theorem x_fault_none {j : Nat} (hj : j < 6) (h0 : σ 6 (10 + j) 0 = 0) : am_D l 101 [aR 11 0, aI (nI j)] σ τ (rX t) cX lX (some (aI (-3))) (xfind 1 σ) τ (rX t) := by
  refine am_D_of am_o101 am_l101 rfl ?_
  refine am_vc_ok am_k101 [] 100 ?_
  refine am_vS am_k101 am_h101 rfl rfl rfl rfl (x_within) ?_
  refine am_vc_ok am_k101 [] 100 ?_
  refine And.intro (fun h => ?_) (fun h => ?_)
  · exact absurd (in6 hj) (bI_0.mp h)
  refine And.intro (vp_in_nI (N := 6) hj (by decide)) ?_
  rw [nI_clamp (n := j) (by omega)]
  refine And.intro (fun _ => ?_) (fun g => absurd h0 g)
  refine am_vO am_k101 am_h101 rfl rfl rfl rfl (x_find (w := 1) (by decide)) ?_
  refine am_vc_ok am_k101 [] 100 ?_
  exact am_vI am_k101 am_r101 rfl ⟨rfl, rfl, rfl, rfl, rfl, rfl⟩
theorem x_shape_bad {s r : Int32} (h : ¬ (0 ≤ s ∧ s < 4) ∨ ¬ (0 ≤ r ∧ r < 6)) : am_D l 102 [aR 11 0, aI s, aI r] σ τ (rX t) cX lX (some (aI (-1))) σ τ (rX t) := by
  refine am_D_of am_o102 am_l102 rfl ?_
  refine am_vc_ok am_k102 [] 100 ?_
  refine am_vS am_k102 am_h102 rfl rfl rfl rfl (x_within) ?_
  refine am_vc_ok am_k102 [] 100 ?_
  refine And.intro (fun h1 => ?_) (fun h1 => ?_)
  · exact am_vI am_k102 am_r102 rfl ⟨rfl, rfl, rfl, rfl, rfl, rfl⟩
  refine am_vS am_k102 am_h102 rfl rfl rfl rfl (x_within) ?_
  refine am_vc_ok am_k102 [] 100 ?_
  refine And.intro (fun h2 => ?_) (fun h2 => ?_)
  · exact am_vI am_k102 am_r102 rfl ⟨rfl, rfl, rfl, rfl, rfl, rfl⟩
  · rcases h with h | h
    · exact absurd (bI_1.mp h1) h
    · exact absurd (bI_1.mp h2) h
theorem x_shape_none {s : Int32} {j : Nat} (hs : 0 ≤ s ∧ s < 4) (hj : j < 6) (h0 : σ 6 (10 + j) 0 = 0) : am_D l 102 [aR 11 0, aI s, aI (nI j)] σ τ (rX t) cX lX (some (aI (-3))) (xfind 1 σ) τ (rX t) := by
  refine am_D_of am_o102 am_l102 rfl ?_
  refine am_vc_ok am_k102 [] 100 ?_
  refine am_vS am_k102 am_h102 rfl rfl rfl rfl (x_within) ?_
  refine am_vc_ok am_k102 [] 100 ?_
  refine And.intro (fun g => absurd hs (bI_0.mp g)) (fun _ => ?_)
  refine am_vS am_k102 am_h102 rfl rfl rfl rfl (x_within) ?_
  refine am_vc_ok am_k102 [] 100 ?_
  refine And.intro (fun g => absurd (in6 hj) (bI_0.mp g)) (fun _ => ?_)
  refine And.intro (vp_in_nI (N := 6) hj (by decide)) ?_
  rw [nI_clamp (n := j) (by omega)]
  refine And.intro (fun _ => ?_) (fun g => absurd h0 g)
  refine am_vO am_k102 am_h102 rfl rfl rfl rfl (x_find (w := 1) (by decide)) ?_
  refine am_vc_ok am_k102 [] 100 ?_
  exact am_vI am_k102 am_r102 rfl ⟨rfl, rfl, rfl, rfl, rfl, rfl⟩
theorem x_fields_bad {s v : Int32} (h : ¬ (0 ≤ s ∧ s < 4) ∨ ¬ (0 ≤ v ∧ v < 10)) : am_D l 104 [aR 11 0, aI s, aI v] σ τ (rX t) cX lX (some (aI (-1))) σ τ (rX t) := by
  refine am_D_of am_o104 am_l104 rfl ?_
  refine am_vc_ok am_k104 [] 100 ?_
  refine am_vS am_k104 am_h104 rfl rfl rfl rfl (x_within) ?_
  refine am_vc_ok am_k104 [] 100 ?_
  refine And.intro (fun h1 => ?_) (fun h1 => ?_)
  · exact am_vI am_k104 am_r104 rfl ⟨rfl, rfl, rfl, rfl, rfl, rfl⟩
  refine am_vS am_k104 am_h104 rfl rfl rfl rfl (x_within) ?_
  refine am_vc_ok am_k104 [] 100 ?_
  refine And.intro (fun h2 => ?_) (fun h2 => ?_)
  · exact am_vI am_k104 am_r104 rfl ⟨rfl, rfl, rfl, rfl, rfl, rfl⟩
  · rcases h with h | h
    · exact absurd (bI_1.mp h1) h
    · exact absurd (bI_1.mp h2) h
theorem x_fields_none {s : Nat} {v : Int32} (hs : s < 4) (hv : 0 ≤ v ∧ v < 10) (h0 : σ 9 (1 + s) 0 = 0) : am_D l 104 [aR 11 0, aI (nI s), aI v] σ τ (rX t) cX lX (some (aI (-3))) (xfind 1 σ) τ (rX t) := by
  refine am_D_of am_o104 am_l104 rfl ?_
  refine am_vc_ok am_k104 [] 100 ?_
  refine am_vS am_k104 am_h104 rfl rfl rfl rfl (x_within) ?_
  refine am_vc_ok am_k104 [] 100 ?_
  refine And.intro (fun g => absurd (in4 hs) (bI_0.mp g)) (fun _ => ?_)
  refine am_vS am_k104 am_h104 rfl rfl rfl rfl (x_within) ?_
  refine am_vc_ok am_k104 [] 100 ?_
  refine And.intro (fun g => absurd hv (bI_0.mp g)) (fun _ => ?_)
  refine And.intro (vp_in_nI (N := 4) hs (by decide)) ?_
  rw [nI_clamp (n := s) (by omega)]
  refine And.intro (fun _ => ?_) (fun g => absurd h0 g)
  refine am_vO am_k104 am_h104 rfl rfl rfl rfl (x_find (w := 1) (by decide)) ?_
  refine am_vc_ok am_k104 [] 100 ?_
  exact am_vI am_k104 am_r104 rfl ⟨rfl, rfl, rfl, rfl, rfl, rfl⟩
theorem x_write_bad {s v r q : Int32} (h : ¬ (0 ≤ s ∧ s < 4) ∨ ¬ (0 ≤ v ∧ v < 10) ∨ ¬ (0 ≤ r ∧ r < 6) ∨ ¬ (0 ≤ q ∧ q < 6)) : am_D l 105 [aR 11 0, aI s, aI v, aI r, aI q] σ τ (rX t) cX lX (some (aI (-1))) σ τ (rX t) := by
  refine am_D_of am_o105 am_l105 rfl ?_
  refine am_vc_ok am_k105 [] 100 ?_
  refine am_vS am_k105 am_h105 rfl rfl rfl rfl (x_within) ?_
  refine am_vc_ok am_k105 [] 100 ?_
  refine And.intro (fun h1 => ?_) (fun h1 => ?_)
  · exact am_vI am_k105 am_r105 rfl ⟨rfl, rfl, rfl, rfl, rfl, rfl⟩
  refine am_vS am_k105 am_h105 rfl rfl rfl rfl (x_within) ?_
  refine am_vc_ok am_k105 [] 100 ?_
  refine And.intro (fun h2 => ?_) (fun h2 => ?_)
  · exact am_vI am_k105 am_r105 rfl ⟨rfl, rfl, rfl, rfl, rfl, rfl⟩
  refine am_vS am_k105 am_h105 rfl rfl rfl rfl (x_within) ?_
  refine am_vc_ok am_k105 [] 100 ?_
  refine And.intro (fun h3 => ?_) (fun h3 => ?_)
  · exact am_vI am_k105 am_r105 rfl ⟨rfl, rfl, rfl, rfl, rfl, rfl⟩
  refine am_vS am_k105 am_h105 rfl rfl rfl rfl (x_within) ?_
  refine am_vc_ok am_k105 [] 100 ?_
  refine And.intro (fun h4 => ?_) (fun h4 => ?_)
  · exact am_vI am_k105 am_r105 rfl ⟨rfl, rfl, rfl, rfl, rfl, rfl⟩
  · rcases h with h | h | h | h
    · exact absurd (bI_1.mp h1) h
    · exact absurd (bI_1.mp h2) h
    · exact absurd (bI_1.mp h3) h
    · exact absurd (bI_1.mp h4) h
theorem x_write_none {s r : Nat} {v q : Int32} (hs : s < 4) (hv : 0 ≤ v ∧ v < 10) (hr : r < 6) (hq : 0 ≤ q ∧ q < 6) (h0 : σ 9 (1 + s) 0 = 0 ∨ σ 6 (4 + r) 0 = 0) : am_D l 105 [aR 11 0, aI (nI s), aI v, aI (nI r), aI q] σ τ (rX t) cX lX (some (aI (-3))) (xfind 1 σ) τ (rX t) := by
  refine am_D_of am_o105 am_l105 rfl ?_
  refine am_vc_ok am_k105 [] 100 ?_
  refine am_vS am_k105 am_h105 rfl rfl rfl rfl (x_within) ?_
  refine am_vc_ok am_k105 [] 100 ?_
  refine And.intro (fun g => absurd (in4 hs) (bI_0.mp g)) (fun _ => ?_)
  refine am_vS am_k105 am_h105 rfl rfl rfl rfl (x_within) ?_
  refine am_vc_ok am_k105 [] 100 ?_
  refine And.intro (fun g => absurd hv (bI_0.mp g)) (fun _ => ?_)
  refine am_vS am_k105 am_h105 rfl rfl rfl rfl (x_within) ?_
  refine am_vc_ok am_k105 [] 100 ?_
  refine And.intro (fun g => absurd (in6 hr) (bI_0.mp g)) (fun _ => ?_)
  refine am_vS am_k105 am_h105 rfl rfl rfl rfl (x_within) ?_
  refine am_vc_ok am_k105 [] 100 ?_
  refine And.intro (fun g => absurd hq (bI_0.mp g)) (fun _ => ?_)
  refine And.intro (vp_in_nI (N := 4) hs (by decide)) ?_
  rw [nI_clamp (n := s) (by omega)]
  refine And.intro (fun _ => ?_) (fun g1 => ?_)
  · refine am_vO am_k105 am_h105 rfl rfl rfl rfl (x_find (w := 1) (by decide)) ?_
    refine am_vc_ok am_k105 [] 100 ?_
    exact am_vI am_k105 am_r105 rfl ⟨rfl, rfl, rfl, rfl, rfl, rfl⟩
  refine And.intro (vp_in_nI (N := 6) hr (by decide)) ?_
  rw [nI_clamp (n := r) (by omega)]
  refine And.intro (fun _ => ?_) (fun g2 => ?_)
  · refine am_vO am_k105 am_h105 rfl rfl rfl rfl (x_find (w := 1) (by decide)) ?_
    refine am_vc_ok am_k105 [] 100 ?_
    exact am_vI am_k105 am_r105 rfl ⟨rfl, rfl, rfl, rfl, rfl, rfl⟩
  · rcases h0 with h0 | h0
    · exact absurd h0 g1
    · exact absurd h0 g2
theorem x_read_bad {s v r q : Int32} (h : ¬ (0 ≤ s ∧ s < 4) ∨ ¬ (0 ≤ v ∧ v < 10) ∨ ¬ (0 ≤ r ∧ r < 6) ∨ ¬ (0 ≤ q ∧ q < 6)) : am_D l 106 [aR 11 0, aI s, aI v, aI r, aI q] σ τ (rX t) cX lX (some (aI (-1))) σ τ (rX t) := by
  refine am_D_of am_o106 am_l106 rfl ?_
  refine am_vc_ok am_k106 [] 100 ?_
  refine am_vS am_k106 am_h106 rfl rfl rfl rfl (x_within) ?_
  refine am_vc_ok am_k106 [] 100 ?_
  refine And.intro (fun h1 => ?_) (fun h1 => ?_)
  · exact am_vI am_k106 am_r106 rfl ⟨rfl, rfl, rfl, rfl, rfl, rfl⟩
  refine am_vS am_k106 am_h106 rfl rfl rfl rfl (x_within) ?_
  refine am_vc_ok am_k106 [] 100 ?_
  refine And.intro (fun h2 => ?_) (fun h2 => ?_)
  · exact am_vI am_k106 am_r106 rfl ⟨rfl, rfl, rfl, rfl, rfl, rfl⟩
  refine am_vS am_k106 am_h106 rfl rfl rfl rfl (x_within) ?_
  refine am_vc_ok am_k106 [] 100 ?_
  refine And.intro (fun h3 => ?_) (fun h3 => ?_)
  · exact am_vI am_k106 am_r106 rfl ⟨rfl, rfl, rfl, rfl, rfl, rfl⟩
  refine am_vS am_k106 am_h106 rfl rfl rfl rfl (x_within) ?_
  refine am_vc_ok am_k106 [] 100 ?_
  refine And.intro (fun h4 => ?_) (fun h4 => ?_)
  · exact am_vI am_k106 am_r106 rfl ⟨rfl, rfl, rfl, rfl, rfl, rfl⟩
  · rcases h with h | h | h | h
    · exact absurd (bI_1.mp h1) h
    · exact absurd (bI_1.mp h2) h
    · exact absurd (bI_1.mp h3) h
    · exact absurd (bI_1.mp h4) h
theorem x_read_none {s r : Nat} {v q : Int32} (hs : s < 4) (hv : 0 ≤ v ∧ v < 10) (hr : r < 6) (hq : 0 ≤ q ∧ q < 6) (h0 : σ 9 (1 + s) 0 = 0 ∨ σ 6 (10 + r) 0 = 0) : am_D l 106 [aR 11 0, aI (nI s), aI v, aI (nI r), aI q] σ τ (rX t) cX lX (some (aI (-3))) (xfind 1 σ) τ (rX t) := by
  refine am_D_of am_o106 am_l106 rfl ?_
  refine am_vc_ok am_k106 [] 100 ?_
  refine am_vS am_k106 am_h106 rfl rfl rfl rfl (x_within) ?_
  refine am_vc_ok am_k106 [] 100 ?_
  refine And.intro (fun g => absurd (in4 hs) (bI_0.mp g)) (fun _ => ?_)
  refine am_vS am_k106 am_h106 rfl rfl rfl rfl (x_within) ?_
  refine am_vc_ok am_k106 [] 100 ?_
  refine And.intro (fun g => absurd hv (bI_0.mp g)) (fun _ => ?_)
  refine am_vS am_k106 am_h106 rfl rfl rfl rfl (x_within) ?_
  refine am_vc_ok am_k106 [] 100 ?_
  refine And.intro (fun g => absurd (in6 hr) (bI_0.mp g)) (fun _ => ?_)
  refine am_vS am_k106 am_h106 rfl rfl rfl rfl (x_within) ?_
  refine am_vc_ok am_k106 [] 100 ?_
  refine And.intro (fun g => absurd hq (bI_0.mp g)) (fun _ => ?_)
  refine And.intro (vp_in_nI (N := 4) hs (by decide)) ?_
  rw [nI_clamp (n := s) (by omega)]
  refine And.intro (fun _ => ?_) (fun g1 => ?_)
  · refine am_vO am_k106 am_h106 rfl rfl rfl rfl (x_find (w := 1) (by decide)) ?_
    refine am_vc_ok am_k106 [] 100 ?_
    exact am_vI am_k106 am_r106 rfl ⟨rfl, rfl, rfl, rfl, rfl, rfl⟩
  refine And.intro (vp_in_nI (N := 6) hr (by decide)) ?_
  rw [nI_clamp (n := r) (by omega)]
  refine And.intro (fun _ => ?_) (fun g2 => ?_)
  · refine am_vO am_k106 am_h106 rfl rfl rfl rfl (x_find (w := 1) (by decide)) ?_
    refine am_vc_ok am_k106 [] 100 ?_
    exact am_vI am_k106 am_r106 rfl ⟨rfl, rfl, rfl, rfl, rfl, rfl⟩
  · rcases h0 with h0 | h0
    · exact absurd h0 g1
    · exact absurd h0 g2
theorem x_handOn_bad {r : Int32} (hr : ¬ (0 ≤ r ∧ r < 6)) : am_D l 108 [aR 11 0, aI r] σ τ (rX t) cX lX (some (aI (-1))) σ τ (rX t) := by
  refine am_D_of am_o108 am_l108 rfl ?_
  refine am_vc_ok am_k108 [] 100 ?_
  refine am_vS am_k108 am_h108 rfl rfl rfl rfl (x_within) ?_
  refine am_vc_ok am_k108 [] 100 ?_
  refine And.intro (fun h => ?_) (fun h => ?_)
  · exact am_vI am_k108 am_r108 rfl ⟨rfl, rfl, rfl, rfl, rfl, rfl⟩
  · exact absurd (bI_1.mp h) hr
theorem x_handOn_none {j : Nat} (hj : j < 6) (h0 : σ 6 (10 + j) 0 = 0) : am_D l 108 [aR 11 0, aI (nI j)] σ τ (rX t) cX lX (some (aI (-3))) (xfind 1 σ) τ (rX t) := by
  refine am_D_of am_o108 am_l108 rfl ?_
  refine am_vc_ok am_k108 [] 100 ?_
  refine am_vS am_k108 am_h108 rfl rfl rfl rfl (x_within) ?_
  refine am_vc_ok am_k108 [] 100 ?_
  refine And.intro (fun h => ?_) (fun h => ?_)
  · exact absurd (in6 hj) (bI_0.mp h)
  refine And.intro (vp_in_nI (N := 6) hj (by decide)) ?_
  rw [nI_clamp (n := j) (by omega)]
  refine And.intro (fun _ => ?_) (fun g => absurd h0 g)
  refine am_vO am_k108 am_h108 rfl rfl rfl rfl (x_find (w := 1) (by decide)) ?_
  refine am_vc_ok am_k108 [] 100 ?_
  exact am_vI am_k108 am_r108 rfl ⟨rfl, rfl, rfl, rfl, rfl, rfl⟩
theorem x_refVer_bad {s w v : Int32} (h : ¬ (0 ≤ s ∧ s < 4) ∨ ¬ (0 ≤ w ∧ w < 10) ∨ ¬ (0 ≤ v ∧ v < 10)) : am_D l 145 [aR 11 0, aI s, aI w, aI v] σ τ (rX t) cX lX (some (aI (-1))) σ τ (rX t) := by
  refine am_D_of am_o145 am_l145 rfl ?_
  refine am_vc_ok am_k145 [] 100 ?_
  refine am_vS am_k145 am_h145 rfl rfl rfl rfl (x_within) ?_
  refine am_vc_ok am_k145 [] 100 ?_
  refine And.intro (fun h1 => ?_) (fun h1 => ?_)
  · exact am_vI am_k145 am_r145 rfl ⟨rfl, rfl, rfl, rfl, rfl, rfl⟩
  refine am_vS am_k145 am_h145 rfl rfl rfl rfl (x_within) ?_
  refine am_vc_ok am_k145 [] 100 ?_
  refine And.intro (fun h2 => ?_) (fun h2 => ?_)
  · exact am_vI am_k145 am_r145 rfl ⟨rfl, rfl, rfl, rfl, rfl, rfl⟩
  refine am_vS am_k145 am_h145 rfl rfl rfl rfl (x_within) ?_
  refine am_vc_ok am_k145 [] 100 ?_
  refine And.intro (fun h3 => ?_) (fun h3 => ?_)
  · exact am_vI am_k145 am_r145 rfl ⟨rfl, rfl, rfl, rfl, rfl, rfl⟩
  · rcases h with h | h | h
    · exact absurd (bI_1.mp h1) h
    · exact absurd (bI_1.mp h2) h
    · exact absurd (bI_1.mp h3) h
theorem x_refVer_none {s : Nat} {w v : Int32} (hs : s < 4) (hw : 0 ≤ w ∧ w < 10) (hv : 0 ≤ v ∧ v < 10) (h0 : σ 9 (1 + s) 0 = 0) : am_D l 145 [aR 11 0, aI (nI s), aI w, aI v] σ τ (rX t) cX lX (some (aI (-3))) (xfind 1 σ) τ (rX t) := by
  refine am_D_of am_o145 am_l145 rfl ?_
  refine am_vc_ok am_k145 [] 100 ?_
  refine am_vS am_k145 am_h145 rfl rfl rfl rfl (x_within) ?_
  refine am_vc_ok am_k145 [] 100 ?_
  refine And.intro (fun g => absurd (in4 hs) (bI_0.mp g)) (fun _ => ?_)
  refine am_vS am_k145 am_h145 rfl rfl rfl rfl (x_within) ?_
  refine am_vc_ok am_k145 [] 100 ?_
  refine And.intro (fun g => absurd hw (bI_0.mp g)) (fun _ => ?_)
  refine am_vS am_k145 am_h145 rfl rfl rfl rfl (x_within) ?_
  refine am_vc_ok am_k145 [] 100 ?_
  refine And.intro (fun g => absurd hv (bI_0.mp g)) (fun _ => ?_)
  refine And.intro (vp_in_nI (N := 4) hs (by decide)) ?_
  rw [nI_clamp (n := s) (by omega)]
  refine And.intro (fun _ => ?_) (fun g => absurd h0 g)
  refine am_vO am_k145 am_h145 rfl rfl rfl rfl (x_find (w := 1) (by decide)) ?_
  refine am_vc_ok am_k145 [] 100 ?_
  exact am_vI am_k145 am_r145 rfl ⟨rfl, rfl, rfl, rfl, rfl, rfl⟩
theorem x_fits_ref {s w v r : Int32} {s1 : tI} (h : am_D l 145 [aR 11 0, aI s, aI w, aI v] σ τ (rX t) cX lX (some (aI r)) s1 τ (rX t)) (hr : ¬ r = -9) : am_D l 109 [aR 11 0, aI s, aI w, aI v] σ τ (rX t) cX lX (some (aI r)) s1 τ (rX t) := by
  refine am_D_of am_o109 am_l109 rfl ?_
  refine am_vc_ok am_k109 [] 100 ?_
  refine am_vO am_k109 am_h109 rfl rfl rfl rfl (h) ?_
  refine am_vc_ok am_k109 [] 100 ?_
  refine And.intro (fun g => absurd g hr) (fun _ => ?_)
  exact am_vI am_k109 am_r109 rfl ⟨rfl, rfl, rfl, rfl, rfl, rfl⟩
theorem x_unlike_ref {s w v r : Int32} {s1 : tI} (h : am_D l 145 [aR 11 0, aI s, aI w, aI v] σ τ (rX t) cX lX (some (aI r)) s1 τ (rX t)) (hr : ¬ r = -9) : am_D l 110 [aR 11 0, aI s, aI w, aI v] σ τ (rX t) cX lX (some (aI r)) s1 τ (rX t) := by
  refine am_D_of am_o110 am_l110 rfl ?_
  refine am_vc_ok am_k110 [35] 100 ?_
  refine am_vO am_k110 am_h110 rfl rfl rfl rfl (h) ?_
  refine am_vc_ok am_k110 [35] 100 ?_
  refine And.intro (fun g => absurd g hr) (fun _ => ?_)
  exact am_vI am_k110 am_r110 rfl ⟨rfl, rfl, rfl, rfl, rfl, rfl⟩
-- the model's refusals
theorem m_fault_bad {r : Int32} (hr : ¬ (0 ≤ r ∧ r ≤ 5)) : am_D l 179 [aR 12 0, aI r] σ τ (rX t) cX lX (some (aI (-1))) σ τ (rX t) := by
  refine am_D_of am_o179 am_l179 rfl ?_
  refine am_vc_ok am_k179 [] 100 ?_
  refine am_vO am_k179 am_h179 rfl rfl rfl rfl (m_askedText_bad hr) ?_
  refine am_vc_ok am_k179 [] 100 ?_
  refine And.intro (fun g => absurd g (by decide)) (fun _ => ?_)
  exact am_vI am_k179 am_r179 rfl ⟨rfl, rfl, rfl, rfl, rfl, rfl⟩
theorem m_fault_none {j : Nat} (hj : j < 6) (h0 : σ 47 0 j < 0) : am_D l 179 [aR 12 0, aI (nI j)] σ τ (rX t) cX lX (some (aI (-3))) (mmeets 1 σ) τ (rX t) := by
  refine am_D_of am_o179 am_l179 rfl ?_
  refine am_vc_ok am_k179 [] 100 ?_
  refine am_vO am_k179 am_h179 rfl rfl rfl rfl (m_askedText hj) ?_
  refine am_vc_ok am_k179 [] 100 ?_
  simp only [if_pos h0]
  refine And.intro (fun g => absurd g (by decide)) (fun _ => ?_)
  exact am_vI am_k179 am_r179 rfl ⟨rfl, rfl, rfl, rfl, rfl, rfl⟩
theorem m_shape_bad {s r : Int32} (h : ¬ (0 ≤ s ∧ s ≤ 3) ∨ ¬ (0 ≤ r ∧ r ≤ 5)) : am_D l 180 [aR 12 0, aI s, aI r] σ τ (rX t) cX lX (some (aI (-1))) σ τ (rX t) := by
  refine am_D_of am_o180 am_l180 rfl ?_
  refine am_vc_ok am_k180 [56] 100 ?_
  refine am_vS am_k180 am_h180 rfl rfl rfl rfl (m_isShape) ?_
  refine am_vc_ok am_k180 [56] 100 ?_
  refine And.intro (fun h1 => ?_) (fun h1 => ?_)
  · exact am_vI am_k180 am_r180 rfl ⟨rfl, rfl, rfl, rfl, rfl, rfl⟩
  refine am_vS am_k180 am_h180 rfl rfl rfl rfl (m_isSix) ?_
  refine am_vc_ok am_k180 [56] 100 ?_
  refine And.intro (fun h2 => ?_) (fun h2 => ?_)
  · exact am_vI am_k180 am_r180 rfl ⟨rfl, rfl, rfl, rfl, rfl, rfl⟩
  · rcases h with h | h
    · exact absurd (bI_1.mp h1) h
    · exact absurd (bI_1.mp h2) h
theorem m_shape_none {s : Int32} {j : Nat} (hs : 0 ≤ s ∧ s ≤ 3) (hj : j < 6) (h0 : σ 47 0 j < 0) : am_D l 180 [aR 12 0, aI s, aI (nI j)] σ τ (rX t) cX lX (some (aI (-3))) (mmeets 1 σ) τ (rX t) := by
  refine am_D_of am_o180 am_l180 rfl ?_
  refine am_vc_ok am_k180 [56] 100 ?_
  refine am_vS am_k180 am_h180 rfl rfl rfl rfl (m_isShape) ?_
  refine am_vc_ok am_k180 [56] 100 ?_
  refine And.intro (fun g => absurd hs (bI_0.mp g)) (fun _ => ?_)
  refine am_vS am_k180 am_h180 rfl rfl rfl rfl (m_isSix) ?_
  refine am_vc_ok am_k180 [56] 100 ?_
  refine And.intro (fun g => absurd (in5 hj) (bI_0.mp g)) (fun _ => ?_)
  refine And.intro (vp_in_nI (N := 6) hj (by decide)) ?_
  rw [nI_clamp (n := j) (by omega)]
  refine And.intro (fun g => absurd h0 (Int32.not_lt.mpr g)) (fun _ => ?_)
  refine am_vO am_k180 am_h180 rfl rfl rfl rfl (m_meets (w := 1) (by decide)) ?_
  refine am_vc_ok am_k180 [56] 100 ?_
  exact am_vI am_k180 am_r180 rfl ⟨rfl, rfl, rfl, rfl, rfl, rfl⟩
theorem m_fields_bad {s v : Int32} (h : ¬ (0 ≤ s ∧ s ≤ 3) ∨ ¬ (0 ≤ v ∧ v ≤ 9)) : am_D l 186 [aR 12 0, aI s, aI v] σ τ (rX t) cX lX (some (aI (-1))) σ τ (rX t) := by
  refine am_D_of am_o186 am_l186 rfl ?_
  refine am_vc_ok am_k186 [30] 100 ?_
  refine am_vS am_k186 am_h186 rfl rfl rfl rfl (m_isVersion) ?_
  refine am_vc_ok am_k186 [30] 100 ?_
  refine And.intro (fun h1 => ?_) (fun h1 => ?_)
  · exact am_vI am_k186 am_r186 rfl ⟨rfl, rfl, rfl, rfl, rfl, rfl⟩
  rcases h with h | h
  · refine am_vO am_k186 am_h186 rfl rfl rfl rfl (m_askedShape_bad h) ?_
    refine am_vc_ok am_k186 [30] 100 ?_
    refine And.intro (fun g => absurd g (by decide)) (fun _ => ?_)
    exact am_vI am_k186 am_r186 rfl ⟨rfl, rfl, rfl, rfl, rfl, rfl⟩
  · exact absurd (bI_1.mp h1) h
theorem m_fields_none {s : Nat} {v : Int32} (hs : s < 4) (hv : 0 ≤ v ∧ v ≤ 9) (h0 : σ 49 0 s < 0) : am_D l 186 [aR 12 0, aI (nI s), aI v] σ τ (rX t) cX lX (some (aI (-3))) (mmeets 1 σ) τ (rX t) := by
  refine am_D_of am_o186 am_l186 rfl ?_
  refine am_vc_ok am_k186 [30] 100 ?_
  refine am_vS am_k186 am_h186 rfl rfl rfl rfl (m_isVersion) ?_
  refine am_vc_ok am_k186 [30] 100 ?_
  refine And.intro (fun g => absurd hv (bI_0.mp g)) (fun _ => ?_)
  refine am_vO am_k186 am_h186 rfl rfl rfl rfl (m_askedShape hs) ?_
  refine am_vc_ok am_k186 [30] 100 ?_
  simp only [if_pos h0]
  refine And.intro (fun g => absurd g (by decide)) (fun _ => ?_)
  exact am_vI am_k186 am_r186 rfl ⟨rfl, rfl, rfl, rfl, rfl, rfl⟩
theorem m_write_bad {s v r q : Int32} (h : ¬ (0 ≤ s ∧ s ≤ 3) ∨ ¬ (0 ≤ v ∧ v ≤ 9) ∨ ¬ (0 ≤ r ∧ r ≤ 5) ∨ ¬ (0 ≤ q ∧ q ≤ 5)) : am_D l 188 [aR 12 0, aI s, aI v, aI r, aI q] σ τ (rX t) cX lX (some (aI (-1))) σ τ (rX t) := by
  refine am_D_of am_o188 am_l188 rfl ?_
  refine am_vc_ok am_k188 [66] 100 ?_
  refine am_vS am_k188 am_h188 rfl rfl rfl rfl (m_isShape) ?_
  refine am_vc_ok am_k188 [66] 100 ?_
  refine And.intro (fun h1 => ?_) (fun h1 => ?_)
  · exact am_vI am_k188 am_r188 rfl ⟨rfl, rfl, rfl, rfl, rfl, rfl⟩
  refine am_vS am_k188 am_h188 rfl rfl rfl rfl (m_isVersion) ?_
  refine am_vc_ok am_k188 [66] 100 ?_
  refine And.intro (fun h2 => ?_) (fun h2 => ?_)
  · exact am_vI am_k188 am_r188 rfl ⟨rfl, rfl, rfl, rfl, rfl, rfl⟩
  refine am_vS am_k188 am_h188 rfl rfl rfl rfl (m_isSix) ?_
  refine am_vc_ok am_k188 [66] 100 ?_
  refine And.intro (fun h3 => ?_) (fun h3 => ?_)
  · exact am_vI am_k188 am_r188 rfl ⟨rfl, rfl, rfl, rfl, rfl, rfl⟩
  refine am_vS am_k188 am_h188 rfl rfl rfl rfl (m_isSix) ?_
  refine am_vc_ok am_k188 [66] 100 ?_
  refine And.intro (fun h4 => ?_) (fun h4 => ?_)
  · exact am_vI am_k188 am_r188 rfl ⟨rfl, rfl, rfl, rfl, rfl, rfl⟩
  · rcases h with h | h | h | h
    · exact absurd (bI_1.mp h1) h
    · exact absurd (bI_1.mp h2) h
    · exact absurd (bI_1.mp h3) h
    · exact absurd (bI_1.mp h4) h
theorem m_write_none {s r : Nat} {v q : Int32} (hs : s < 4) (hv : 0 ≤ v ∧ v ≤ 9) (hr : r < 6) (hq : 0 ≤ q ∧ q ≤ 5) (h0 : σ 49 0 s < 0 ∨ σ 44 0 r < 0) : am_D l 188 [aR 12 0, aI (nI s), aI v, aI (nI r), aI q] σ τ (rX t) cX lX (some (aI (-3))) (mmeets 1 σ) τ (rX t) := by
  refine am_D_of am_o188 am_l188 rfl ?_
  refine am_vc_ok am_k188 [66] 100 ?_
  refine am_vS am_k188 am_h188 rfl rfl rfl rfl (m_isShape) ?_
  refine am_vc_ok am_k188 [66] 100 ?_
  refine And.intro (fun g => absurd (in3 hs) (bI_0.mp g)) (fun _ => ?_)
  refine am_vS am_k188 am_h188 rfl rfl rfl rfl (m_isVersion) ?_
  refine am_vc_ok am_k188 [66] 100 ?_
  refine And.intro (fun g => absurd hv (bI_0.mp g)) (fun _ => ?_)
  refine am_vS am_k188 am_h188 rfl rfl rfl rfl (m_isSix) ?_
  refine am_vc_ok am_k188 [66] 100 ?_
  refine And.intro (fun g => absurd (in5 hr) (bI_0.mp g)) (fun _ => ?_)
  refine am_vS am_k188 am_h188 rfl rfl rfl rfl (m_isSix) ?_
  refine am_vc_ok am_k188 [66] 100 ?_
  refine And.intro (fun g => absurd hq (bI_0.mp g)) (fun _ => ?_)
  refine And.intro (vp_in_nI (N := 4) hs (by decide)) ?_
  rw [nI_clamp (n := s) (by omega)]
  refine And.intro (fun _ => ?_) (fun g1 => ?_)
  · refine am_vO am_k188 am_h188 rfl rfl rfl rfl (m_meets (w := 1) (by decide)) ?_
    refine am_vc_ok am_k188 [66] 100 ?_
    exact am_vI am_k188 am_r188 rfl ⟨rfl, rfl, rfl, rfl, rfl, rfl⟩
  refine And.intro (vp_in_nI (N := 6) hr (by decide)) ?_
  rw [nI_clamp (n := r) (by omega)]
  refine And.intro (fun g2 => ?_) (fun _ => ?_)
  · rcases h0 with h0 | h0
    · exact absurd h0 g1
    · exact absurd h0 (Int32.not_lt.mpr g2)
  · refine am_vO am_k188 am_h188 rfl rfl rfl rfl (m_meets (w := 1) (by decide)) ?_
    refine am_vc_ok am_k188 [66] 100 ?_
    exact am_vI am_k188 am_r188 rfl ⟨rfl, rfl, rfl, rfl, rfl, rfl⟩
theorem m_read_bad {s v r q : Int32} (h : ¬ (0 ≤ s ∧ s ≤ 3) ∨ ¬ (0 ≤ v ∧ v ≤ 9) ∨ ¬ (0 ≤ r ∧ r ≤ 5) ∨ ¬ (0 ≤ q ∧ q ≤ 5)) : am_D l 191 [aR 12 0, aI s, aI v, aI r, aI q] σ τ (rX t) cX lX (some (aI (-1))) σ τ (rX t) := by
  refine am_D_of am_o191 am_l191 rfl ?_
  refine am_vc_ok am_k191 [] 100 ?_
  refine am_vS am_k191 am_h191 rfl rfl rfl rfl (m_isShape) ?_
  refine am_vc_ok am_k191 [] 100 ?_
  refine And.intro (fun h1 => ?_) (fun h1 => ?_)
  · exact am_vI am_k191 am_r191 rfl ⟨rfl, rfl, rfl, rfl, rfl, rfl⟩
  refine am_vS am_k191 am_h191 rfl rfl rfl rfl (m_isVersion) ?_
  refine am_vc_ok am_k191 [] 100 ?_
  refine And.intro (fun h2 => ?_) (fun h2 => ?_)
  · exact am_vI am_k191 am_r191 rfl ⟨rfl, rfl, rfl, rfl, rfl, rfl⟩
  refine am_vS am_k191 am_h191 rfl rfl rfl rfl (m_isSix) ?_
  refine am_vc_ok am_k191 [] 100 ?_
  refine And.intro (fun h4 => ?_) (fun h4 => ?_)
  · exact am_vI am_k191 am_r191 rfl ⟨rfl, rfl, rfl, rfl, rfl, rfl⟩
  refine am_vS am_k191 am_h191 rfl rfl rfl rfl (m_isSix) ?_
  refine am_vc_ok am_k191 [] 100 ?_
  refine And.intro (fun h3 => ?_) (fun h3 => ?_)
  · exact am_vI am_k191 am_r191 rfl ⟨rfl, rfl, rfl, rfl, rfl, rfl⟩
  · rcases h with h | h | h | h
    · exact absurd (bI_1.mp h1) h
    · exact absurd (bI_1.mp h2) h
    · exact absurd (bI_1.mp h3) h
    · exact absurd (bI_1.mp h4) h
theorem m_read_none {s r : Nat} {v q : Int32} (hs : s < 4) (hv : 0 ≤ v ∧ v ≤ 9) (hr : r < 6) (hq : 0 ≤ q ∧ q ≤ 5) (h0 : σ 49 0 s < 0 ∨ σ 47 0 r < 0) : am_D l 191 [aR 12 0, aI (nI s), aI v, aI (nI r), aI q] σ τ (rX t) cX lX (some (aI (-3))) (mmeets 1 σ) τ (rX t) := by
  refine am_D_of am_o191 am_l191 rfl ?_
  refine am_vc_ok am_k191 [] 100 ?_
  refine am_vS am_k191 am_h191 rfl rfl rfl rfl (m_isShape) ?_
  refine am_vc_ok am_k191 [] 100 ?_
  refine And.intro (fun g => absurd (in3 hs) (bI_0.mp g)) (fun _ => ?_)
  refine am_vS am_k191 am_h191 rfl rfl rfl rfl (m_isVersion) ?_
  refine am_vc_ok am_k191 [] 100 ?_
  refine And.intro (fun g => absurd hv (bI_0.mp g)) (fun _ => ?_)
  refine am_vS am_k191 am_h191 rfl rfl rfl rfl (m_isSix) ?_
  refine am_vc_ok am_k191 [] 100 ?_
  refine And.intro (fun g => absurd hq (bI_0.mp g)) (fun _ => ?_)
  refine am_vS am_k191 am_h191 rfl rfl rfl rfl (m_isSix) ?_
  refine am_vc_ok am_k191 [] 100 ?_
  refine And.intro (fun g => absurd (in5 hr) (bI_0.mp g)) (fun _ => ?_)
  refine And.intro (vp_in_nI (N := 4) hs (by decide)) ?_
  rw [nI_clamp (n := s) (by omega)]
  refine And.intro (fun _ => ?_) (fun g1 => ?_)
  · refine am_vO am_k191 am_h191 rfl rfl rfl rfl (m_meets (w := 1) (by decide)) ?_
    refine am_vc_ok am_k191 [] 100 ?_
    exact am_vI am_k191 am_r191 rfl ⟨rfl, rfl, rfl, rfl, rfl, rfl⟩
  refine And.intro (vp_in_nI (N := 6) hr (by decide)) ?_
  rw [nI_clamp (n := r) (by omega)]
  refine And.intro (fun g2 => ?_) (fun _ => ?_)
  · rcases h0 with h0 | h0
    · exact absurd h0 g1
    · exact absurd h0 (Int32.not_lt.mpr g2)
  · refine am_vO am_k191 am_h191 rfl rfl rfl rfl (m_meets (w := 1) (by decide)) ?_
    refine am_vc_ok am_k191 [] 100 ?_
    exact am_vI am_k191 am_r191 rfl ⟨rfl, rfl, rfl, rfl, rfl, rfl⟩
theorem m_handOn_bad {r : Int32} (hr : ¬ (0 ≤ r ∧ r ≤ 5)) : am_D l 193 [aR 12 0, aI r] σ τ (rX t) cX lX (some (aI (-1))) σ τ (rX t) := by
  refine am_D_of am_o193 am_l193 rfl ?_
  refine am_vc_ok am_k193 [36] 100 ?_
  refine am_vO am_k193 am_h193 rfl rfl rfl rfl (m_askedText_bad hr) ?_
  refine am_vc_ok am_k193 [36] 100 ?_
  refine And.intro (fun g => absurd g (by decide)) (fun _ => ?_)
  exact am_vI am_k193 am_r193 rfl ⟨rfl, rfl, rfl, rfl, rfl, rfl⟩
theorem m_handOn_none {j : Nat} (hj : j < 6) (h0 : σ 47 0 j < 0) : am_D l 193 [aR 12 0, aI (nI j)] σ τ (rX t) cX lX (some (aI (-3))) (mmeets 1 σ) τ (rX t) := by
  refine am_D_of am_o193 am_l193 rfl ?_
  refine am_vc_ok am_k193 [36] 100 ?_
  refine am_vO am_k193 am_h193 rfl rfl rfl rfl (m_askedText hj) ?_
  refine am_vc_ok am_k193 [36] 100 ?_
  simp only [if_pos h0]
  refine And.intro (fun g => absurd g (by decide)) (fun _ => ?_)
  exact am_vI am_k193 am_r193 rfl ⟨rfl, rfl, rfl, rfl, rfl, rfl⟩
theorem m_unlike_bad {s w v : Int32} (h : ¬ (0 ≤ s ∧ s ≤ 3) ∨ ¬ (0 ≤ w ∧ w ≤ 9) ∨ ¬ (0 ≤ v ∧ v ≤ 9)) : am_D l 195 [aR 12 0, aI s, aI w, aI v] σ τ (rX t) cX lX (some (aI (-1))) σ τ (rX t) := by
  refine am_D_of am_o195 am_l195 rfl ?_
  refine am_vc_ok am_k195 [] 100 ?_
  refine am_vS am_k195 am_h195 rfl rfl rfl rfl (m_isVersion) ?_
  refine am_vc_ok am_k195 [] 100 ?_
  refine And.intro (fun h2 => ?_) (fun h2 => ?_)
  · exact am_vI am_k195 am_r195 rfl ⟨rfl, rfl, rfl, rfl, rfl, rfl⟩
  refine am_vS am_k195 am_h195 rfl rfl rfl rfl (m_isVersion) ?_
  refine am_vc_ok am_k195 [] 100 ?_
  refine And.intro (fun h3 => ?_) (fun h3 => ?_)
  · exact am_vI am_k195 am_r195 rfl ⟨rfl, rfl, rfl, rfl, rfl, rfl⟩
  rcases h with h | h | h
  · refine am_vO am_k195 am_h195 rfl rfl rfl rfl (m_askedShape_bad h) ?_
    refine am_vc_ok am_k195 [] 100 ?_
    refine And.intro (fun g => absurd g (by decide)) (fun _ => ?_)
    exact am_vI am_k195 am_r195 rfl ⟨rfl, rfl, rfl, rfl, rfl, rfl⟩
  · exact absurd (bI_1.mp h2) h
  · exact absurd (bI_1.mp h3) h
theorem m_unlike_none {s : Nat} {w v : Int32} (hs : s < 4) (hw : 0 ≤ w ∧ w ≤ 9) (hv : 0 ≤ v ∧ v ≤ 9) (h0 : σ 49 0 s < 0) : am_D l 195 [aR 12 0, aI (nI s), aI w, aI v] σ τ (rX t) cX lX (some (aI (-3))) (mmeets 1 σ) τ (rX t) := by
  refine am_D_of am_o195 am_l195 rfl ?_
  refine am_vc_ok am_k195 [] 100 ?_
  refine am_vS am_k195 am_h195 rfl rfl rfl rfl (m_isVersion) ?_
  refine am_vc_ok am_k195 [] 100 ?_
  refine And.intro (fun g => absurd hw (bI_0.mp g)) (fun _ => ?_)
  refine am_vS am_k195 am_h195 rfl rfl rfl rfl (m_isVersion) ?_
  refine am_vc_ok am_k195 [] 100 ?_
  refine And.intro (fun g => absurd hv (bI_0.mp g)) (fun _ => ?_)
  refine am_vO am_k195 am_h195 rfl rfl rfl rfl (m_askedShape hs) ?_
  refine am_vc_ok am_k195 [] 100 ?_
  simp only [if_pos h0]
  refine And.intro (fun g => absurd g (by decide)) (fun _ => ?_)
  exact am_vI am_k195 am_r195 rfl ⟨rfl, rfl, rfl, rfl, rfl, rfl⟩
theorem m_fits_ref {s w v r : Int32} {s1 : tI} (h : am_D l 195 [aR 12 0, aI s, aI w, aI v] σ τ (rX t) cX lX (some (aI r)) s1 τ (rX t)) (hr : ¬ r = -9) (h0 : r < 0) : am_D l 196 [aR 12 0, aI s, aI w, aI v] σ τ (rX t) cX lX (some (aI r)) s1 τ (rX t) := by
  refine am_D_of am_o196 am_l196 rfl ?_
  refine am_vc_ok am_k196 [] 100 ?_
  refine am_vO am_k196 am_h196 rfl rfl rfl rfl (h) ?_
  refine am_vc_ok am_k196 [] 100 ?_
  refine And.intro (fun g => absurd g hr) (fun _ => ?_)
  refine And.intro (fun _ => ?_) (fun g => absurd h0 g)
  exact am_vI am_k196 am_r196 rfl ⟨rfl, rfl, rfl, rfl, rfl, rfl⟩
end L16

/-! door, call, and ticks of an empty net, both sides -/
section L17
variable {l : Launch} {σ σ2 s : tI} {τ τ2 : tL} {t : Option (Nat × Nat)}
theorem u3_self {f : tI} {k i j : Nat} {v : Int32} (h : f k i j = v) : u3 f k i j v = f := by
  funext a b c
  unfold u3
  by_cases h1 : a = k
  · by_cases h2 : b = i
    · by_cases h3 : c = j
      · subst h1 h2 h3; simp [h]
      · simp [h3]
    · simp [h2]
  · simp [h1]
theorem u3_twice {f : tI} {k i j : Nat} {v w : Int32} : u3 (u3 f k i j v) k i j w = u3 f k i j w := by
  funext a b c
  unfold u3
  by_cases h1 : a = k
  · by_cases h2 : b = i
    · by_cases h3 : c = j
      · simp [h1, h2, h3]
      · simp [h3]
    · simp [h2]
  · simp [h1]
theorem n9_4 {q : Nat} (h : q < 1000) : ¬ nI q = -9 := by
  intro e
  have e2 := congrArg Int32.toInt e
  rw [nI_toInt (by omega)] at e2
  have e3 : (-9 : Int32).toInt = -9 := by decide
  omega
theorem x_door_bad {a b s : Int32} (h : ¬ ((0 ≤ a ∧ a < 6) ∧ (0 ≤ b ∧ b < 6) ∧ a ≠ b) ∨ (¬ s = -9 ∧ ¬ (0 ≤ s ∧ s < 4))) : am_D l 112 [aR 11 0, aI a, aI b, aI s] σ τ (rX t) cX lX (some (aI (-1))) σ τ (rX t) := by
  refine am_D_of am_o112 am_l112 rfl ?_
  refine am_vc_ok am_k112 [] 100 ?_
  refine am_vS am_k112 am_h112 rfl rfl rfl rfl (x_isPair) ?_
  refine am_vc_ok am_k112 [] 100 ?_
  refine And.intro (fun h1 => ?_) (fun h1 => ?_)
  · exact am_vI am_k112 am_r112 rfl ⟨rfl, rfl, rfl, rfl, rfl, rfl⟩
  refine And.intro (fun h2 => ?_) (fun h2 => ?_)
  · rcases h with h | h
    · exact absurd (bI_1.mp h1) h
    · exact absurd h2 h.1
  refine am_vS am_k112 am_h112 rfl rfl rfl rfl (x_within) ?_
  refine am_vc_ok am_k112 [] 100 ?_
  refine And.intro (fun h3 => ?_) (fun h3 => ?_)
  · exact am_vI am_k112 am_r112 rfl ⟨rfl, rfl, rfl, rfl, rfl, rfl⟩
  · rcases h with h | h
    · exact absurd (bI_1.mp h1) h
    · exact absurd (bI_1.mp h3) h.2
theorem x_door_none {a b : Int32} {q : Nat} (hp : (0 ≤ a ∧ a < 6) ∧ (0 ≤ b ∧ b < 6) ∧ a ≠ b) (hq : q < 4) (h0 : σ 9 (1 + q) 0 = 0) : am_D l 112 [aR 11 0, aI a, aI b, aI (nI q)] σ τ (rX t) cX lX (some (aI (-3))) (xfind 1 σ) τ (rX t) := by
  refine am_D_of am_o112 am_l112 rfl ?_
  refine am_vc_ok am_k112 [] 100 ?_
  refine am_vS am_k112 am_h112 rfl rfl rfl rfl (x_isPair) ?_
  refine am_vc_ok am_k112 [] 100 ?_
  refine And.intro (fun g => absurd hp (bI_0.mp g)) (fun _ => ?_)
  refine And.intro (fun g => absurd g (n9_4 (by omega))) (fun _ => ?_)
  refine am_vS am_k112 am_h112 rfl rfl rfl rfl (x_within) ?_
  refine am_vc_ok am_k112 [] 100 ?_
  refine And.intro (fun g => absurd (in4 hq) (bI_0.mp g)) (fun _ => ?_)
  refine And.intro (fun g => absurd g (n9_4 (by omega))) (fun _ => ?_)
  refine And.intro (vp_in_nI (N := 4) hq (by decide)) ?_
  rw [nI_clamp (n := q) (by omega)]
  refine And.intro (fun _ => ?_) (fun g => absurd h0 g)
  refine am_vO am_k112 am_h112 rfl rfl rfl rfl (x_find (w := 1) (by decide)) ?_
  refine am_vc_ok am_k112 [] 100 ?_
  exact am_vI am_k112 am_r112 rfl ⟨rfl, rfl, rfl, rfl, rfl, rfl⟩
theorem x_door_off {a b : Nat} (ha : a < 6) (hb : b < 6) (hab : nI a ≠ nI b) : am_D l 112 [aR 11 0, aI (nI a), aI (nI b), aI (-9)] σ τ (rX t) cX lX (some (aI (σ 31 a b))) (u3 σ 31 a b (-9)) τ (rX t) := by
  refine am_D_of am_o112 am_l112 rfl ?_
  refine am_vc_ok am_k112 [] 100 ?_
  refine am_vS am_k112 am_h112 rfl rfl rfl rfl (x_isPair) ?_
  refine am_vc_ok am_k112 [] 100 ?_
  refine And.intro (fun g => absurd ⟨in6 ha, in6 hb, hab⟩ (bI_0.mp g)) (fun _ => ?_)
  refine And.intro (fun _ => ?_) (fun g => absurd rfl g)
  refine And.intro (fun _ => ?_) (fun g => absurd rfl g)
  refine And.intro (vp_in_nI (N := 6) ha (by decide)) ?_
  rw [nI_clamp (n := a) (by omega)]
  refine And.intro (vp_in_nI (N := 6) hb (by decide)) ?_
  rw [nI_clamp (n := b) (by omega)]
  refine And.intro (vp_in_nI (N := 6) ha (by decide)) ?_
  rw [nI_clamp (n := a) (by omega)]
  refine And.intro (vp_in_nI (N := 6) hb (by decide)) ?_
  rw [nI_clamp (n := b) (by omega)]
  exact am_vI am_k112 am_r112 rfl ⟨rfl, rfl, rfl, rfl, rfl, rfl⟩
theorem m_door_bad {a b s : Int32} (h : ¬ ((0 ≤ a ∧ a ≤ 5) ∧ (0 ≤ b ∧ b ≤ 5) ∧ a ≠ b) ∨ (¬ s = -9 ∧ ¬ (0 ≤ s ∧ s ≤ 3))) : am_D l 198 [aR 12 0, aI a, aI b, aI s] σ τ (rX t) cX lX (some (aI (-1))) σ τ (rX t) := by
  refine am_D_of am_o198 am_l198 rfl ?_
  refine am_vc_ok am_k198 [] 100 ?_
  refine am_vS am_k198 am_h198 rfl rfl rfl rfl (m_isSix) ?_
  refine am_vc_ok am_k198 [] 100 ?_
  refine And.intro (fun h1 => ?_) (fun h1 => ?_)
  · exact am_vI am_k198 am_r198 rfl ⟨rfl, rfl, rfl, rfl, rfl, rfl⟩
  refine am_vS am_k198 am_h198 rfl rfl rfl rfl (m_isSix) ?_
  refine am_vc_ok am_k198 [] 100 ?_
  refine And.intro (fun h2 => ?_) (fun h2 => ?_)
  · exact am_vI am_k198 am_r198 rfl ⟨rfl, rfl, rfl, rfl, rfl, rfl⟩
  refine And.intro (fun h3 => ?_) (fun h3 => ?_)
  · exact am_vI am_k198 am_r198 rfl ⟨rfl, rfl, rfl, rfl, rfl, rfl⟩
  refine And.intro (fun h4 => ?_) (fun h4 => ?_)
  · rcases h with h | h
    · exact absurd ⟨bI_1.mp h1, bI_1.mp h2, h3⟩ h
    · exact absurd h4 h.1
  refine am_vS am_k198 am_h198 rfl rfl rfl rfl (m_isShape) ?_
  refine am_vc_ok am_k198 [] 100 ?_
  refine And.intro (fun h5 => ?_) (fun h5 => ?_)
  · exact am_vI am_k198 am_r198 rfl ⟨rfl, rfl, rfl, rfl, rfl, rfl⟩
  · rcases h with h | h
    · exact absurd ⟨bI_1.mp h1, bI_1.mp h2, h3⟩ h
    · exact absurd (bI_1.mp h5) h.2
theorem m_door_none {a b : Int32} {q : Nat} (hp : (0 ≤ a ∧ a ≤ 5) ∧ (0 ≤ b ∧ b ≤ 5) ∧ a ≠ b) (hq : q < 4) (h0 : σ 49 0 q < 0) : am_D l 198 [aR 12 0, aI a, aI b, aI (nI q)] σ τ (rX t) cX lX (some (aI (-3))) (mmeets 1 σ) τ (rX t) := by
  refine am_D_of am_o198 am_l198 rfl ?_
  refine am_vc_ok am_k198 [] 100 ?_
  refine am_vS am_k198 am_h198 rfl rfl rfl rfl (m_isSix) ?_
  refine am_vc_ok am_k198 [] 100 ?_
  refine And.intro (fun g => absurd hp.1 (bI_0.mp g)) (fun _ => ?_)
  refine am_vS am_k198 am_h198 rfl rfl rfl rfl (m_isSix) ?_
  refine am_vc_ok am_k198 [] 100 ?_
  refine And.intro (fun g => absurd hp.2.1 (bI_0.mp g)) (fun _ => ?_)
  refine And.intro (fun g => absurd g hp.2.2) (fun _ => ?_)
  refine And.intro (fun g => absurd g (n9_4 (by omega))) (fun _ => ?_)
  refine am_vS am_k198 am_h198 rfl rfl rfl rfl (m_isShape) ?_
  refine am_vc_ok am_k198 [] 100 ?_
  refine And.intro (fun g => absurd (in3 hq) (bI_0.mp g)) (fun _ => ?_)
  refine And.intro (fun g => absurd g (n9_4 (by omega))) (fun _ => ?_)
  refine And.intro (vp_in_nI (N := 4) hq (by decide)) ?_
  rw [nI_clamp (n := q) (by omega)]
  refine And.intro (fun g => absurd h0 (Int32.not_lt.mpr g)) (fun _ => ?_)
  refine am_vO am_k198 am_h198 rfl rfl rfl rfl (m_meets (w := 1) (by decide)) ?_
  refine am_vc_ok am_k198 [] 100 ?_
  exact am_vI am_k198 am_r198 rfl ⟨rfl, rfl, rfl, rfl, rfl, rfl⟩
theorem n6 (a b : Nat) : (6 : Int32) * nI a + nI b = nI (6 * a + b) := by
  rw [show (6 : Int32) = nI 6 from rfl, show nI 6 * nI a = nI (6 * a) from (Int32.ofNat_mul 6 a).symm, nI_add]
theorem m_door_off {a b : Nat} (ha : a < 6) (hb : b < 6) (hab : nI a ≠ nI b) : am_D l 198 [aR 12 0, aI (nI a), aI (nI b), aI (-9)] σ τ (rX t) cX lX (some (aI (σ 59 0 (6 * a + b)))) (u3 σ 59 0 (6 * a + b) (-9)) τ (rX t) := by
  refine am_D_of am_o198 am_l198 rfl ?_
  refine am_vc_ok am_k198 [] 100 ?_
  refine am_vS am_k198 am_h198 rfl rfl rfl rfl (m_isSix) ?_
  refine am_vc_ok am_k198 [] 100 ?_
  refine And.intro (fun g => absurd (in5 ha) (bI_0.mp g)) (fun _ => ?_)
  refine am_vS am_k198 am_h198 rfl rfl rfl rfl (m_isSix) ?_
  refine am_vc_ok am_k198 [] 100 ?_
  refine And.intro (fun g => absurd (in5 hb) (bI_0.mp g)) (fun _ => ?_)
  refine And.intro (fun g => absurd g hab) (fun _ => ?_)
  refine And.intro (fun _ => ?_) (fun g => absurd rfl g)
  refine And.intro (fun _ => ?_) (fun g => absurd rfl g)
  refine And.intro (by rw [n6]; exact vp_in_nI (N := 36) (by omega) (by decide)) ?_
  rw [n6, nI_clamp (n := 6 * a + b) (by omega)]
  refine And.intro (by rw [n6]; exact vp_in_nI (N := 36) (by omega) (by decide)) ?_
  rw [n6, nI_clamp (n := 6 * a + b) (by omega)]
  exact am_vI am_k198 am_r198 rfl ⟨rfl, rfl, rfl, rfl, rfl, rfl⟩
-- a call is told
theorem x_nsend1 {m c : Nat} {d : Int32} (hc : c < 30) (hm : σ 1 0 0 = nI m) (hm2 : m < 690) : am_D l 15 [aR 3 0, aI 1, aI (nI c), aI d] σ τ (rX t) cX lX (some (aI (nI m))) (xsend σ m c 1 (σ 0 c 0) (σ 0 c 1) d) τ (rX t) := by
  refine am_D_of am_o15 am_l15 rfl ?_
  refine am_vc_ok am_k15 [] 100 ?_
  refine And.intro (vp_in_nI (N := 30) hc (by decide)) ?_
  rw [nI_clamp (by omega)]
  refine And.intro (fun _ => ?_) (fun h => absurd rfl h)
  refine And.intro (fun h => absurd h (by decide)) (fun _ => ?_)
  refine And.intro (fun h => absurd h (by decide)) (fun _ => ?_)
  refine am_vO am_k15 am_h15 rfl rfl rfl rfl (x_addF (m := m) (by simp [u3, hm]) hm2) ?_
  refine am_vc_ok am_k15 [] 100 ?_
  refine am_vI am_k15 am_r15 rfl ⟨rfl, ?_, rfl, rfl, rfl, rfl⟩
  rw [u3_jj (show 0 ≠ 11 by decide), u3_jj (show 1 ≠ 11 by decide)]
  rfl
theorem x_nask {m c : Nat} (hc : c < 30) (hm : σ 1 0 0 = nI m) (hm2 : m < 690) : am_D l 16 [aR 3 0, aI (nI c)] σ τ (rX t) cX lX none (xsend (u3 σ 0 c 10 (σ 3 0 4)) m c 1 (σ 0 c 0) (σ 0 c 1) 0) τ (rX t) := by
  refine am_D_of am_o16 am_l16 rfl ?_
  refine am_vc_ok am_k16 [] 100 ?_
  refine And.intro (vp_in_nI (N := 30) hc (by decide)) ?_
  rw [nI_clamp (n := c) (by omega)]
  refine am_vO am_k16 am_h16 rfl rfl rfl rfl (x_nsend1 (m := m) hc (by simp [u3, hm]) hm2) ?_
  refine am_vc_ok am_k16 [] 100 ?_
  refine am_vV am_k16 am_r16 rfl ⟨rfl, ?_, rfl, rfl, rfl, rfl⟩
  rw [u3_jj (show 0 ≠ 10 by decide), u3_jj (show 1 ≠ 10 by decide)]
def xop (σ : tI) (n : Nat) (a b s w h p : Int32) : tI := u3 (u3 (u3 (u3 (u3 (u3 (u3 (u3 (u3 σ 0 n 0 a) 0 n 1 b) 0 n 2 s) 0 n 3 w) 0 n 4 p) 0 n 5 (σ 3 0 4)) 0 n 6 (σ 3 0 4 + h)) 3 0 5 (σ 3 0 5 + 1)) 3 0 6 (σ 3 0 6 + 1)
def xopen (σ : tI) (n m : Nat) (a b s w h p : Int32) : tI := xsend (u3 (xop σ n a b s w h p) 0 n 10 ((xop σ n a b s w h p) 3 0 4)) m n 1 ((xop σ n a b s w h p) 0 n 0) ((xop σ n a b s w h p) 0 n 1) 0
theorem x_open {n m : Nat} {a b s w h p : Int32} (hn : σ 3 0 5 = nI n) (hn2 : n < 30) (hm : σ 1 0 0 = nI m) (hm2 : m < 690) : am_D l 14 [aR 3 0, aI a, aI b, aI s, aI w, aI h, aI p] σ τ (rX t) cX lX (some (aI (nI n))) (xopen σ n m a b s w h p) τ (rX t) := by
  refine am_D_of am_o14 am_l14 rfl ?_
  refine am_vc_ok am_k14 [] 100 ?_
  refine And.intro (by rw [hn]; exact vp_in_nI (N := 30) hn2 (by decide)) ?_
  rw [hn, nI_clamp (n := n) (by omega)]
  refine am_vO am_k14 am_h14 rfl rfl rfl rfl (x_nask (m := m) hn2 (by simp [u3, hm]) hm2) ?_
  refine am_vc_ok am_k14 [] 100 ?_
  exact am_vI am_k14 am_r14 rfl ⟨rfl, rfl, rfl, rfl, rfl, rfl⟩
theorem x_call_bad {a b s w h p : Int32} (hb : ¬ (((0 ≤ a ∧ a < 6) ∧ (0 ≤ b ∧ b < 6) ∧ a ≠ b) ∧ (0 ≤ s ∧ s < 3) ∧ (1 ≤ w ∧ w ≤ 9) ∧ (1 ≤ h ∧ h ≤ 99) ∧ (0 ≤ p ∧ p ≤ 5))) : am_D l 118 [aR 11 0, aI a, aI b, aI s, aI w, aI h, aI p] σ τ (rX t) cX lX (some (aI (-1))) σ τ (rX t) := by
  refine am_D_of am_o118 am_l118 rfl ?_
  refine am_vc_ok am_k118 [] 100 ?_
  refine am_vS am_k118 am_h118 rfl rfl rfl rfl (x_isPair) ?_
  refine am_vc_ok am_k118 [] 100 ?_
  refine And.intro (fun h1 => ?_) (fun h1 => ?_)
  · exact am_vI am_k118 am_r118 rfl ⟨rfl, rfl, rfl, rfl, rfl, rfl⟩
  refine am_vS am_k118 am_h118 rfl rfl rfl rfl (x_within) ?_
  refine am_vc_ok am_k118 [] 100 ?_
  refine And.intro (fun h2 => ?_) (fun h2 => ?_)
  · exact am_vI am_k118 am_r118 rfl ⟨rfl, rfl, rfl, rfl, rfl, rfl⟩
  refine And.intro (fun h3 => ?_) (fun h3 => ?_)
  · exact am_vI am_k118 am_r118 rfl ⟨rfl, rfl, rfl, rfl, rfl, rfl⟩
  refine And.intro (fun h4 => ?_) (fun h4 => ?_)
  · refine And.intro (fun h5 => ?_) (fun h5 => ?_)
    · exact am_vI am_k118 am_r118 rfl ⟨rfl, rfl, rfl, rfl, rfl, rfl⟩
    refine And.intro (fun h6 => ?_) (fun h6 => ?_)
    · exact am_vI am_k118 am_r118 rfl ⟨rfl, rfl, rfl, rfl, rfl, rfl⟩
    refine And.intro (fun h7 => ?_) (fun h7 => ?_)
    · exact am_vI am_k118 am_r118 rfl ⟨rfl, rfl, rfl, rfl, rfl, rfl⟩
    refine And.intro (fun h8 => ?_) (fun h8 => ?_)
    · exact absurd ⟨bI_1.mp h1, bI_1.mp h2, ⟨Int32.not_lt.mp h3, h4⟩, ⟨Int32.not_lt.mp h5, Int32.not_lt.mp h6⟩, Int32.not_lt.mp h7, h8⟩ hb
    · exact am_vI am_k118 am_r118 rfl ⟨rfl, rfl, rfl, rfl, rfl, rfl⟩
  · exact am_vI am_k118 am_r118 rfl ⟨rfl, rfl, rfl, rfl, rfl, rfl⟩
theorem x_call {n m : Nat} {a b s w h p : Int32} (hb : ((0 ≤ a ∧ a < 6) ∧ (0 ≤ b ∧ b < 6) ∧ a ≠ b) ∧ (0 ≤ s ∧ s < 3) ∧ (1 ≤ w ∧ w ≤ 9) ∧ (1 ≤ h ∧ h ≤ 99) ∧ (0 ≤ p ∧ p ≤ 5)) (hn : σ 3 0 5 = nI n) (hn2 : n < 30) (hT : σ 3 0 4 + h ≤ 9999) (hm : σ 1 0 0 = nI m) (hm2 : m < 690) : am_D l 118 [aR 11 0, aI a, aI b, aI s, aI w, aI h, aI p] σ τ (rX t) cX lX (some (aI (nI n))) (xopen σ n m a b s w h p) τ (rX t) := by
  obtain ⟨b1, b2, b3, b4, b5⟩ := hb
  refine am_D_of am_o118 am_l118 rfl ?_
  refine am_vc_ok am_k118 [] 100 ?_
  refine am_vS am_k118 am_h118 rfl rfl rfl rfl (x_isPair) ?_
  refine am_vc_ok am_k118 [] 100 ?_
  refine And.intro (fun g => absurd b1 (bI_0.mp g)) (fun _ => ?_)
  refine am_vS am_k118 am_h118 rfl rfl rfl rfl (x_within) ?_
  refine am_vc_ok am_k118 [] 100 ?_
  refine And.intro (fun g => absurd b2 (bI_0.mp g)) (fun _ => ?_)
  refine And.intro (fun g => absurd b3.1 (Int32.not_le.mpr g)) (fun _ => ?_)
  refine And.intro (fun _ => ?_) (fun g => absurd b3.2 g)
  refine And.intro (fun g => absurd b4.1 (Int32.not_le.mpr g)) (fun _ => ?_)
  refine And.intro (fun g => absurd b4.2 (Int32.not_le.mpr g)) (fun _ => ?_)
  refine And.intro (fun g => absurd b5.1 (Int32.not_le.mpr g)) (fun _ => ?_)
  refine And.intro (fun _ => ?_) (fun g => absurd b5.2 g)
  refine And.intro (fun _ => ?_) (fun g => absurd (by rw [hn]; exact nI_lt (b := 30) hn2 (by decide)) g)
  refine And.intro (fun _ => ?_) (fun g => absurd hT g)
  refine am_vO am_k118 am_h118 rfl rfl rfl rfl (x_open hn hn2 hm hm2) ?_
  refine am_vc_ok am_k118 [] 100 ?_
  exact am_vI am_k118 am_r118 rfl ⟨rfl, rfl, rfl, rfl, rfl, rfl⟩
def mop (σ : tI) (n : Nat) (a b s w h p : Int32) : tI := u3 (u3 (u3 (u3 (u3 (u3 (u3 (u3 (u3 (u3 (u3 (u3 σ 12 0 34 (σ 12 0 34 + 1)) 65 0 n a) 66 0 n b) 67 0 n s) 68 0 n w) 69 0 n (σ 12 0 5 + h)) 70 0 n p) 71 0 n 0) 74 0 n (σ 12 0 5)) 75 0 n (-9)) 79 0 n (-9)) 76 0 n (σ 12 0 5)
def mopen (σ : tI) (n m : Nat) (a b s w h p : Int32) : tI := msend (mop σ n a b s w h p) m 1 ((mop σ n a b s w h p) 65 0 n) ((mop σ n a b s w h p) 66 0 n) (nI n) 0
theorem m_call_bad {a b s w h p : Int32} (hb : ¬ (((0 ≤ a ∧ a ≤ 5) ∧ (0 ≤ b ∧ b ≤ 5) ∧ a ≠ b) ∧ (0 ≤ s ∧ s ≤ 2) ∧ (1 ≤ w ∧ w ≤ 9) ∧ (1 ≤ h ∧ h ≤ 99) ∧ (0 ≤ p ∧ p ≤ 5))) : am_D l 212 [aR 12 0, aI a, aI b, aI s, aI w, aI h, aI p] σ τ (rX t) cX lX (some (aI (-1))) σ τ (rX t) := by
  refine am_D_of am_o212 am_l212 rfl ?_
  refine am_vc_ok am_k212 [] 100 ?_
  refine am_vS am_k212 am_h212 rfl rfl rfl rfl (m_isSix) ?_
  refine am_vc_ok am_k212 [] 100 ?_
  refine And.intro (fun h1 => ?_) (fun h1 => ?_)
  · exact am_vI am_k212 am_r212 rfl ⟨rfl, rfl, rfl, rfl, rfl, rfl⟩
  refine am_vS am_k212 am_h212 rfl rfl rfl rfl (m_isSix) ?_
  refine am_vc_ok am_k212 [] 100 ?_
  refine And.intro (fun h2 => ?_) (fun h2 => ?_)
  · exact am_vI am_k212 am_r212 rfl ⟨rfl, rfl, rfl, rfl, rfl, rfl⟩
  refine And.intro (fun h3 => ?_) (fun h3 => ?_)
  · exact am_vI am_k212 am_r212 rfl ⟨rfl, rfl, rfl, rfl, rfl, rfl⟩
  refine am_vS am_k212 am_h212 rfl rfl rfl rfl (m_in) ?_
  refine am_vc_ok am_k212 [] 100 ?_
  refine And.intro (fun h4 => ?_) (fun h4 => ?_)
  · exact am_vI am_k212 am_r212 rfl ⟨rfl, rfl, rfl, rfl, rfl, rfl⟩
  refine am_vS am_k212 am_h212 rfl rfl rfl rfl (m_in) ?_
  refine am_vc_ok am_k212 [] 100 ?_
  refine And.intro (fun h5 => ?_) (fun h5 => ?_)
  · exact am_vI am_k212 am_r212 rfl ⟨rfl, rfl, rfl, rfl, rfl, rfl⟩
  refine am_vS am_k212 am_h212 rfl rfl rfl rfl (m_in) ?_
  refine am_vc_ok am_k212 [] 100 ?_
  refine And.intro (fun h6 => ?_) (fun h6 => ?_)
  · exact am_vI am_k212 am_r212 rfl ⟨rfl, rfl, rfl, rfl, rfl, rfl⟩
  refine am_vS am_k212 am_h212 rfl rfl rfl rfl (m_in) ?_
  refine am_vc_ok am_k212 [] 100 ?_
  refine And.intro (fun h7 => ?_) (fun h7 => ?_)
  · exact am_vI am_k212 am_r212 rfl ⟨rfl, rfl, rfl, rfl, rfl, rfl⟩
  · exact absurd ⟨⟨bI_1.mp h1, bI_1.mp h2, h3⟩, bI_1.mp h4, bI_1.mp h5, bI_1.mp h6, bI_1.mp h7⟩ hb
theorem m_call {n m : Nat} {a b s w h p : Int32} (hb : ((0 ≤ a ∧ a ≤ 5) ∧ (0 ≤ b ∧ b ≤ 5) ∧ a ≠ b) ∧ (0 ≤ s ∧ s ≤ 2) ∧ (1 ≤ w ∧ w ≤ 9) ∧ (1 ≤ h ∧ h ≤ 99) ∧ (0 ≤ p ∧ p ≤ 5)) (hn : σ 12 0 34 = nI n) (hn2 : n < 30) (hT : σ 12 0 5 + h ≤ 9999) (hm : σ 12 0 54 = nI m) (hm2 : m < 690) : am_D l 212 [aR 12 0, aI a, aI b, aI s, aI w, aI h, aI p] σ τ (rX t) cX lX (some (aI (nI n))) (mopen σ n m a b s w h p) τ (rX t) := by
  obtain ⟨b1, b2, b3, b4, b5⟩ := hb
  refine am_D_of am_o212 am_l212 rfl ?_
  refine am_vc_ok am_k212 [] 100 ?_
  refine am_vS am_k212 am_h212 rfl rfl rfl rfl (m_isSix) ?_
  refine am_vc_ok am_k212 [] 100 ?_
  refine And.intro (fun g => absurd b1.1 (bI_0.mp g)) (fun _ => ?_)
  refine am_vS am_k212 am_h212 rfl rfl rfl rfl (m_isSix) ?_
  refine am_vc_ok am_k212 [] 100 ?_
  refine And.intro (fun g => absurd b1.2.1 (bI_0.mp g)) (fun _ => ?_)
  refine And.intro (fun g => absurd g b1.2.2) (fun _ => ?_)
  refine am_vS am_k212 am_h212 rfl rfl rfl rfl (m_in) ?_
  refine am_vc_ok am_k212 [] 100 ?_
  refine And.intro (fun g => absurd b2 (bI_0.mp g)) (fun _ => ?_)
  refine am_vS am_k212 am_h212 rfl rfl rfl rfl (m_in) ?_
  refine am_vc_ok am_k212 [] 100 ?_
  refine And.intro (fun g => absurd b3 (bI_0.mp g)) (fun _ => ?_)
  refine am_vS am_k212 am_h212 rfl rfl rfl rfl (m_in) ?_
  refine am_vc_ok am_k212 [] 100 ?_
  refine And.intro (fun g => absurd b4 (bI_0.mp g)) (fun _ => ?_)
  refine am_vS am_k212 am_h212 rfl rfl rfl rfl (m_in) ?_
  refine am_vc_ok am_k212 [] 100 ?_
  refine And.intro (fun g => absurd b5 (bI_0.mp g)) (fun _ => ?_)
  refine And.intro (fun g => absurd g (by rw [hn]; intro e; have e2 := congrArg Int32.toInt e; rw [nI_toInt (by omega)] at e2; have e3 : (30 : Int32).toInt = 30 := by decide
                                          omega)) (fun _ => ?_)
  refine And.intro (fun _ => ?_) (fun g => absurd hT g)
  refine And.intro (by rw [hn]; exact vp_in_nI (N := 30) hn2 (by decide)) ?_
  rw [hn, nI_clamp (n := n) (by omega)]
  refine And.intro (vp_in_nI (N := 30) hn2 (by decide)) ?_
  rw [nI_clamp (n := n) (by omega)]
  refine And.intro (vp_in_nI (N := 30) hn2 (by decide)) ?_
  rw [nI_clamp (n := n) (by omega)]
  refine And.intro (vp_in_nI (N := 30) hn2 (by decide)) ?_
  rw [nI_clamp (n := n) (by omega)]
  refine And.intro (vp_in_nI (N := 30) hn2 (by decide)) ?_
  rw [nI_clamp (n := n) (by omega)]
  refine And.intro (vp_in_nI (N := 30) hn2 (by decide)) ?_
  rw [nI_clamp (n := n) (by omega)]
  refine And.intro (vp_in_nI (N := 30) hn2 (by decide)) ?_
  rw [nI_clamp (n := n) (by omega)]
  refine And.intro (vp_in_nI (N := 30) hn2 (by decide)) ?_
  rw [nI_clamp (n := n) (by omega)]
  refine And.intro (vp_in_nI (N := 30) hn2 (by decide)) ?_
  rw [nI_clamp (n := n) (by omega)]
  refine And.intro (vp_in_nI (N := 30) hn2 (by decide)) ?_
  rw [nI_clamp (n := n) (by omega)]
  refine And.intro (vp_in_nI (N := 30) hn2 (by decide)) ?_
  rw [nI_clamp (n := n) (by omega)]
  refine am_vO am_k212 am_h212 rfl rfl rfl rfl (m_sendOut (m := m) hn2 (by simp [u3, hm]) hm2) ?_
  refine am_vc_ok am_k212 [] 100 ?_
  refine am_vI am_k212 am_r212 rfl ⟨rfl, ?_, rfl, rfl, rfl, rfl⟩
  simp only [mopen, mop, hn]
  rfl
-- ticks of an empty net
theorem x_share0 (hn : σ 3 0 5 = 0) : am_D l 20 [aR 3 0] σ τ (rX t) cX lX none σ τ (rX t) := by
  refine am_D_of am_o20 am_l20 rfl ?_
  refine am_vc_ok am_k20 [] 100 ?_
  refine And.intro (fun _ => ?_) (fun g => absurd (by rw [hn]; decide) g)
  exact am_vV am_k20 am_r20 rfl ⟨rfl, rfl, rfl, rfl, rfl, rfl⟩
theorem x_deliver0 (h : σ 1 0 2 = σ 1 0 0) : am_D l 21 [aR 3 0] σ τ (rX t) cX lX (some (aI 0)) (u3 σ 1 0 2 (σ 1 0 0)) τ (rX t) := by
  refine am_D_of am_o21 am_l21 rfl ?_
  refine am_vc_ok am_k21 [] 100 ?_
  refine And.intro (fun _ => ?_) (fun g => absurd (by rw [h]; exact Int32.le_refl _) g)
  exact am_vI am_k21 am_r21 rfl ⟨rfl, rfl, rfl, rfl, rfl, rfl⟩
theorem x_finish0 {a : Int32} (hn : σ 3 0 5 = 0) : am_D l 25 [aR 3 0, aI a] σ τ (rX t) cX lX none σ τ (rX t) := by
  refine am_D_of am_o25 am_l25 rfl ?_
  refine am_vc_ok am_k25 [] 100 ?_
  refine And.intro (fun _ => ?_) (fun g => absurd (by rw [hn]; decide) g)
  exact am_vV am_k25 am_r25 rfl ⟨rfl, rfl, rfl, rfl, rfl, rfl⟩
theorem x_begin0 {a : Int32} (ha : vp_in a 6) (hn : σ 3 0 5 = 0) : am_D l 27 [aR 3 0, aI a] σ τ (rX t) cX lX none σ τ (rX t) := by
  refine am_D_of am_o27 am_l27 rfl ?_
  refine am_vc_ok am_k27 [] 100 ?_
  refine And.intro (ha) ?_
  refine And.intro (fun _ => ?_) (fun g => absurd (by rw [hn]; decide) g)
  exact am_vV am_k27 am_r27 rfl ⟨rfl, rfl, rfl, rfl, rfl, rfl⟩
theorem x_watch0 (hn : σ 3 0 5 = 0) : am_D l 29 [aR 3 0] σ τ (rX t) cX lX none σ τ (rX t) := by
  refine am_D_of am_o29 am_l29 rfl ?_
  refine am_vc_ok am_k29 [] 100 ?_
  refine And.intro (fun _ => ?_) (fun g => absurd (by rw [hn]; decide) g)
  exact am_vV am_k29 am_r29 rfl ⟨rfl, rfl, rfl, rfl, rfl, rfl⟩
theorem x_pass0 (hn : σ 3 0 5 = 0) (h : σ 1 0 2 = σ 1 0 0) : am_D l 19 [aR 3 0] σ τ (rX t) cX lX (some (aI 0)) (u3 (u3 σ 3 0 4 (σ 3 0 4 + 1)) 1 0 2 (σ 1 0 0)) τ (rX t) := by
  refine am_D_of am_o19 am_l19 rfl ?_
  refine am_vc_ok am_k19 [] 100 ?_
  refine am_vO am_k19 am_h19 rfl rfl rfl rfl (x_share0 hn) ?_
  refine am_vc_ok am_k19 [] 100 ?_
  refine am_vO am_k19 am_h19 rfl rfl rfl rfl (x_deliver0 (by simp [u3, h])) ?_
  refine am_vc_ok am_k19 [] 100 ?_
  refine And.intro (fun g => absurd g (by decide)) (fun _ => ?_)
  refine am_vO am_k19 am_h19 rfl rfl rfl rfl (x_finish0 (by simp [u3, hn])) ?_
  refine am_vc_ok am_k19 [] 100 ?_
  refine And.intro (fun g => absurd g (by decide)) (fun _ => ?_)
  refine am_vO am_k19 am_h19 rfl rfl rfl rfl (x_finish0 (by simp [u3, hn])) ?_
  refine am_vc_ok am_k19 [] 100 ?_
  refine And.intro (fun g => absurd g (by decide)) (fun _ => ?_)
  refine am_vO am_k19 am_h19 rfl rfl rfl rfl (x_finish0 (by simp [u3, hn])) ?_
  refine am_vc_ok am_k19 [] 100 ?_
  refine And.intro (fun g => absurd g (by decide)) (fun _ => ?_)
  refine am_vO am_k19 am_h19 rfl rfl rfl rfl (x_finish0 (by simp [u3, hn])) ?_
  refine am_vc_ok am_k19 [] 100 ?_
  refine And.intro (fun g => absurd g (by decide)) (fun _ => ?_)
  refine am_vO am_k19 am_h19 rfl rfl rfl rfl (x_finish0 (by simp [u3, hn])) ?_
  refine am_vc_ok am_k19 [] 100 ?_
  refine And.intro (fun g => absurd g (by decide)) (fun _ => ?_)
  refine am_vO am_k19 am_h19 rfl rfl rfl rfl (x_finish0 (by simp [u3, hn])) ?_
  refine am_vc_ok am_k19 [] 100 ?_
  refine And.intro (fun _ => ?_) (fun g => absurd (by decide) g)
  refine And.intro (fun g => absurd g (by decide)) (fun _ => ?_)
  refine am_vO am_k19 am_h19 rfl rfl rfl rfl (x_begin0 (by unfold vp_in; decide) (by simp [u3, hn])) ?_
  refine am_vc_ok am_k19 [] 100 ?_
  refine And.intro (fun g => absurd g (by decide)) (fun _ => ?_)
  refine am_vO am_k19 am_h19 rfl rfl rfl rfl (x_begin0 (by unfold vp_in; decide) (by simp [u3, hn])) ?_
  refine am_vc_ok am_k19 [] 100 ?_
  refine And.intro (fun g => absurd g (by decide)) (fun _ => ?_)
  refine am_vO am_k19 am_h19 rfl rfl rfl rfl (x_begin0 (by unfold vp_in; decide) (by simp [u3, hn])) ?_
  refine am_vc_ok am_k19 [] 100 ?_
  refine And.intro (fun g => absurd g (by decide)) (fun _ => ?_)
  refine am_vO am_k19 am_h19 rfl rfl rfl rfl (x_begin0 (by unfold vp_in; decide) (by simp [u3, hn])) ?_
  refine am_vc_ok am_k19 [] 100 ?_
  refine And.intro (fun g => absurd g (by decide)) (fun _ => ?_)
  refine am_vO am_k19 am_h19 rfl rfl rfl rfl (x_begin0 (by unfold vp_in; decide) (by simp [u3, hn])) ?_
  refine am_vc_ok am_k19 [] 100 ?_
  refine And.intro (fun g => absurd g (by decide)) (fun _ => ?_)
  refine am_vO am_k19 am_h19 rfl rfl rfl rfl (x_begin0 (by unfold vp_in; decide) (by simp [u3, hn])) ?_
  refine am_vc_ok am_k19 [] 100 ?_
  refine And.intro (fun _ => ?_) (fun g => absurd (by decide) g)
  refine am_vO am_k19 am_h19 rfl rfl rfl rfl (x_watch0 (by simp [u3, hn])) ?_
  refine am_vc_ok am_k19 [] 100 ?_
  exact am_vI am_k19 am_r19 rfl ⟨rfl, rfl, rfl, rfl, rfl, rfl⟩
theorem x_pass1 {T : Nat} (hT : σ 3 0 4 = nI T) (hn : σ 3 0 5 = 0) (h : σ 1 0 2 = σ 1 0 0) : am_D l 19 [aR 3 0] σ τ (rX t) cX lX (some (aI 0)) (u3 σ 3 0 4 (nI (T + 1))) τ (rX t) := by
  have h1 := x_pass0 (l := l) (τ := τ) (t := t) hn h
  rw [u3_self (f := u3 σ 3 0 4 (σ 3 0 4 + 1)) (k := 1) (i := 0) (j := 2) (by simp [u3, h]), hT, nI_1 T] at h1
  exact h1
theorem x_run_loop {Q : tQ} {T n : Nat} (hn5 : σ 3 0 5 = 0) (h1 : σ 1 0 2 = σ 1 0 0) (hn : n ≤ 100) (K : am_G l 122 Q 0 0 55 [(3, aI (nI n)), (2, aI 0), (0, aR 11 0), (1, aI (nI n))] [] (u3 σ 3 0 4 (nI (T + n))) τ (rX t) cX lX) : ∀ (d k : Nat), k + d = n → am_G l 122 Q 0 0 34 [(3, aI (nI k)), (2, aI 0), (0, aR 11 0), (1, aI (nI n))] [] (u3 σ 3 0 4 (nI (T + k))) τ (rX t) cX lX
  | 0, k, h => by
    obtain rfl : k = n := by omega
    refine am_vc_ok am_k122 [34, 55] 100 ?_
    exact And.intro (fun _ => K) (fun h1 => absurd (Int32.le_refl _) h1)
  | d + 1, k, h => by
    refine am_vc_ok am_k122 [34, 55] 100 ?_
    refine And.intro (fun h1 => absurd h1 (nI_ge (b := n) (by omega) (by omega))) (fun _ => ?_)
    refine am_vO am_k122 am_h122 rfl rfl rfl rfl (x_pass1 (T := T + k) (by simp [u3]) (by simp [u3, hn5]) (by simp [u3, h1])) ?_
    refine am_vc_ok am_k122 [34, 55] 100 ?_
    have K2 := x_run_loop hn5 h1 hn K d (k + 1) (by omega)
    rw [← nI_1] at K2
    rw [u3_twice]
    exact K2
theorem x_run_bad {n : Int32} (h : ¬ (0 ≤ n ∧ n ≤ 100)) : am_D l 122 [aR 11 0, aI n] σ τ (rX t) cX lX (some (aI (-1))) σ τ (rX t) := by
  refine am_D_of am_o122 am_l122 rfl ?_
  refine am_vc_ok am_k122 [34] 100 ?_
  refine And.intro (fun h1 => ?_) (fun h1 => ?_)
  · exact am_vI am_k122 am_r122 rfl ⟨rfl, rfl, rfl, rfl, rfl, rfl⟩
  refine And.intro (fun h2 => ?_) (fun h2 => ?_)
  · exact absurd ⟨Int32.not_lt.mp h1, h2⟩ h
  · exact am_vI am_k122 am_r122 rfl ⟨rfl, rfl, rfl, rfl, rfl, rfl⟩
theorem x_run0 {T n : Nat} (hT : σ 3 0 4 = nI T) (hT2 : T + n ≤ 9999) (hn5 : σ 3 0 5 = 0) (h1 : σ 1 0 2 = σ 1 0 0) (hn : n ≤ 100) : am_D l 122 [aR 11 0, aI (nI n)] σ τ (rX t) cX lX (some (aI 0)) (u3 σ 3 0 4 (nI (T + n))) τ (rX t) := by
  have hs : σ = u3 σ 3 0 4 (nI (T + 0)) := (u3_self hT).symm
  refine am_D_of am_o122 am_l122 rfl ?_
  refine am_vc_ok am_k122 [34, 55] 100 ?_
  refine And.intro (fun g => absurd (nI_pos' (n := n) (by omega)) (Int32.not_le.mpr g)) (fun _ => ?_)
  refine And.intro (fun _ => ?_) (fun g => absurd (nI_le (b := 100) hn (by decide)) g)
  refine And.intro (fun _ => ?_) (fun g => absurd (by rw [hT, nI_add]; exact nI_le (b := 9999) hT2 (by decide)) g)
  refine am_Gs hs ?_
  refine x_run_loop hn5 h1 hn ?_ n 0 (by omega)
  refine am_vc_ok am_k122 [34, 55] 100 ?_
  exact am_vI am_k122 am_r122 rfl ⟨rfl, rfl, rfl, rfl, rfl, rfl⟩
end L17

/-! ticks of an empty net, the model's side -/
section L18
variable {l : Launch} {σ σ2 s : tI} {τ τ2 : tL} {t : Option (Nat × Nat)}
theorem m_share0 (hn : σ 12 0 34 = 0) : am_D l 227 [aR 12 0] σ τ (rX t) cX lX none σ τ (rX t) := by
  refine am_D_of am_o227 am_l227 rfl ?_
  refine am_vc_ok am_k227 [] 100 ?_
  refine And.intro (fun _ => ?_) (fun g => absurd (by rw [hn]; decide) g)
  exact am_vV am_k227 am_r227 rfl ⟨rfl, rfl, rfl, rfl, rfl, rfl⟩
theorem m_work0 {a : Int32} (hn : σ 12 0 34 = 0) : am_D l 224 [aR 12 0, aI a] σ τ (rX t) cX lX none σ τ (rX t) := by
  refine am_D_of am_o224 am_l224 rfl ?_
  refine am_vc_ok am_k224 [] 100 ?_
  refine And.intro (fun _ => ?_) (fun g => absurd (by rw [hn]; decide) g)
  exact am_vV am_k224 am_r224 rfl ⟨rfl, rfl, rfl, rfl, rfl, rfl⟩
theorem m_begin0 {a : Int32} (hn : σ 12 0 34 = 0) : am_D l 225 [aR 12 0, aI a] σ τ (rX t) cX lX none σ τ (rX t) := by
  refine am_D_of am_o225 am_l225 rfl ?_
  refine am_vc_ok am_k225 [] 100 ?_
  refine And.intro (fun _ => ?_) (fun g => absurd (by rw [hn]; decide) g)
  exact am_vV am_k225 am_r225 rfl ⟨rfl, rfl, rfl, rfl, rfl, rfl⟩
theorem m_tick_l1 {Q : tQ} {z : Int32} (hn : σ 12 0 34 = 0) (K : am_G l 228 Q 0 0 109 [(3, aI (nI 6)), (2, aI z), (1, aI 0), (0, aR 12 0)] [] σ τ (rX t) cX lX) : ∀ (d k : Nat), k + d = 6 → am_G l 228 Q 0 0 92 [(3, aI (nI k)), (2, aI z), (1, aI 0), (0, aR 12 0)] [] σ τ (rX t) cX lX
  | 0, k, h => by
    obtain rfl : k = 6 := by omega
    refine am_vc_ok am_k228 [92, 109] 100 ?_
    exact And.intro (fun _ => K) (fun h1 => absurd (show (6 : Int32) ≤ nI 6 by decide) h1)
  | d + 1, k, h => by
    refine am_vc_ok am_k228 [92, 109] 100 ?_
    refine And.intro (fun h1 => absurd h1 (nI_ge (b := 6) (by omega) (by decide))) (fun _ => ?_)
    refine am_vO am_k228 am_h228 rfl rfl rfl rfl (m_work0 hn) ?_
    refine am_vc_ok am_k228 [92, 109] 100 ?_
    have K2 := m_tick_l1 hn K d (k + 1) (by omega)
    rw [← nI_1] at K2
    exact K2
theorem m_tick_l2 {Q : tQ} {z : Int32} (hn : σ 12 0 34 = 0) (K : am_G l 228 Q 0 0 128 [(3, aI (nI 6)), (2, aI z), (1, aI 0), (0, aR 12 0)] [] σ τ (rX t) cX lX) : ∀ (d k : Nat), k + d = 6 → am_G l 228 Q 0 0 111 [(3, aI (nI k)), (2, aI z), (1, aI 0), (0, aR 12 0)] [] σ τ (rX t) cX lX
  | 0, k, h => by
    obtain rfl : k = 6 := by omega
    refine am_vc_ok am_k228 [111, 128] 100 ?_
    exact And.intro (fun _ => K) (fun h1 => absurd (show (6 : Int32) ≤ nI 6 by decide) h1)
  | d + 1, k, h => by
    refine am_vc_ok am_k228 [111, 128] 100 ?_
    refine And.intro (fun h1 => absurd h1 (nI_ge (b := 6) (by omega) (by decide))) (fun _ => ?_)
    refine am_vO am_k228 am_h228 rfl rfl rfl rfl (m_begin0 hn) ?_
    refine am_vc_ok am_k228 [111, 128] 100 ?_
    have K2 := m_tick_l2 hn K d (k + 1) (by omega)
    rw [← nI_1] at K2
    exact K2
theorem m_oneTick0 (hn : σ 12 0 34 = 0) (h : σ 12 0 54 = 0) : am_D l 228 [aR 12 0] σ τ (rX t) cX lX (some (aI 0)) (u3 σ 12 0 5 (σ 12 0 5 + 1)) τ (rX t) := by
  have hn2 : u3 σ 12 0 5 (σ 12 0 5 + 1) 12 0 34 = 0 := by simp [u3, hn]
  refine am_D_of am_o228 am_l228 rfl ?_
  refine am_vc_ok am_k228 [92] 100 ?_
  refine am_vO am_k228 am_h228 rfl rfl rfl rfl (m_share0 hn) ?_
  refine am_vc_ok am_k228 [92] 100 ?_
  refine And.intro (fun _ => ?_) (fun g => absurd (by simp [u3, h]) g)
  refine m_tick_l1 hn2 ?_ 6 0 (by omega)
  refine am_vc_ok am_k228 [111] 100 ?_
  refine m_tick_l2 hn2 ?_ 6 0 (by omega)
  refine am_vc_ok am_k228 [111] 100 ?_
  refine And.intro (fun _ => ?_) (fun g => absurd (by simp [u3, hn]) g)
  exact am_vI am_k228 am_r228 rfl ⟨rfl, rfl, rfl, rfl, rfl, rfl⟩
theorem m_run_loop {Q : tQ} {T n : Nat} (hn5 : σ 12 0 34 = 0) (h1 : σ 12 0 54 = 0) (hn : n ≤ 100) (K : am_G l 230 Q 0 0 49 [(3, aI (nI n)), (2, aI 0), (0, aR 12 0), (1, aI (nI n))] [] (u3 σ 12 0 5 (nI (T + n))) τ (rX t) cX lX) : ∀ (d k : Nat), k + d = n → am_G l 230 Q 0 0 31 [(3, aI (nI k)), (2, aI 0), (0, aR 12 0), (1, aI (nI n))] [] (u3 σ 12 0 5 (nI (T + k))) τ (rX t) cX lX
  | 0, k, h => by
    obtain rfl : k = n := by omega
    refine am_vc_ok am_k230 [31, 49] 100 ?_
    exact And.intro (fun _ => K) (fun h1 => absurd (Int32.le_refl _) h1)
  | d + 1, k, h => by
    refine am_vc_ok am_k230 [31, 49] 100 ?_
    refine And.intro (fun h1 => absurd h1 (nI_ge (b := n) (by omega) (by omega))) (fun _ => ?_)
    refine am_vO am_k230 am_h230 rfl rfl rfl rfl (m_oneTick0 (by simp [u3, hn5]) (by simp [u3, h1])) ?_
    refine am_vc_ok am_k230 [31, 49] 100 ?_
    have K2 := m_run_loop hn5 h1 hn K d (k + 1) (by omega)
    rw [← nI_1] at K2
    rw [u3_eq, u3_twice, show nI (T + k) + 1 = nI (T + (k + 1)) from nI_1 (T + k)]
    exact K2
theorem m_run_bad {n : Int32} (h : ¬ (0 ≤ n ∧ n ≤ 100)) : am_D l 230 [aR 12 0, aI n] σ τ (rX t) cX lX (some (aI (-1))) σ τ (rX t) := by
  refine am_D_of am_o230 am_l230 rfl ?_
  refine am_vc_ok am_k230 [31] 100 ?_
  refine am_vS am_k230 am_h230 rfl rfl rfl rfl (m_in) ?_
  refine am_vc_ok am_k230 [31] 100 ?_
  refine And.intro (fun h1 => ?_) (fun h1 => ?_)
  · exact am_vI am_k230 am_r230 rfl ⟨rfl, rfl, rfl, rfl, rfl, rfl⟩
  · exact absurd (bI_1.mp h1) h
theorem m_run0 {T n : Nat} (hT : σ 12 0 5 = nI T) (hT2 : T + n ≤ 9999) (hn5 : σ 12 0 34 = 0) (h1 : σ 12 0 54 = 0) (hn : n ≤ 100) : am_D l 230 [aR 12 0, aI (nI n)] σ τ (rX t) cX lX (some (aI 0)) (u3 σ 12 0 5 (nI (T + n))) τ (rX t) := by
  have hs : σ = u3 σ 12 0 5 (nI (T + 0)) := (u3_self hT).symm
  refine am_D_of am_o230 am_l230 rfl ?_
  refine am_vc_ok am_k230 [31, 49] 100 ?_
  refine am_vS am_k230 am_h230 rfl rfl rfl rfl (m_in) ?_
  refine am_vc_ok am_k230 [31, 49] 100 ?_
  refine And.intro (fun g => absurd ⟨nI_pos' (n := n) (by omega), nI_le (b := 100) hn (by decide)⟩ (bI_0.mp g)) (fun _ => ?_)
  refine And.intro (fun _ => ?_) (fun g => absurd (by rw [hT, nI_add]; exact nI_le (b := 9999) hT2 (by decide)) g)
  refine am_Gs hs ?_
  refine m_run_loop hn5 h1 hn ?_ n 0 (by omega)
  refine am_vc_ok am_k230 [31, 49] 100 ?_
  exact am_vI am_k230 am_r230 rfl ⟨rfl, rfl, rfl, rfl, rfl, rfl⟩
end L18

/-! CASES OF THE LAW: copy -/
section L15b
variable {l : Launch} {σ σ2 : tI} {τ τ2 : tL} {t : Option (Nat × Nat)}
theorem nI_sub' {n f : Nat} (h : f ≤ n) : nI n - nI f = nI (n - f) := by
  have e : nI n = nI (n - f) + nI f := by rw [nI_add]; congr 1; omega
  rw [e]
  exact Int32.add_sub_cancel _ _
abbrev cpS (σ : tI) (i j f f2 k : Nat) : tI := mv2 (mv1 (cp3 σ 30 (4 + j) 30 (4 + i) f f2 k) i f k) j f2 k
theorem cpS_k {i j f f2 k a : Nat} (h1 : a ≠ 30) (h2 : a ≠ 45) (h3 : a ≠ 46) : cpS σ i j f f2 k a = σ a := by
  funext b c
  simp [cpS, mv2, mv1, cp3, h1, h2, h3]
theorem cpS_30 {i j f f2 k b c : Nat} : cpS σ i j f f2 k 30 b c = if b = 4 + j then (if f2 ≤ c ∧ c < f2 + k then σ 30 (4 + i) (f + (c - f2)) else σ 30 b c) else σ 30 b c := by
  simp [cpS, mv2, mv1, cp3]
theorem cpS_45 {i j f f2 k c : Nat} : cpS σ i j f f2 k 45 0 c = if 60 * j + f2 ≤ c ∧ c < 60 * j + f2 + k then σ 45 0 (60 * i + f + (c - (60 * j + f2))) else σ 45 0 c := by
  simp only [cpS, mv2, mv1, cp3]
  by_cases h : 60 * j + f2 ≤ c ∧ c < 60 * j + f2 + k
  · simp [h, show c - (60 * j + f2) < k by omega]
  · simp [h]
theorem Rall.cp {i j f f2 k n1 n2 : Nat} (h : Rall σ τ) (hi : i < 6) (hj : j < 6) (hn1 : n1 ≤ 60) (hn2 : n2 ≤ 60) (a1 : σ 6 (4 + j) 0 = 1) (a2 : σ 6 (4 + j) 1 = nI n2) (a3 : σ 44 0 j = nI n2) (g1 : ∀ q, q < n1 → σ 30 (4 + i) q = σ 45 0 (60 * i + q)) (g2 : ∀ q, q < n2 → σ 30 (4 + j) q = σ 45 0 (60 * j + q)) (hf : f + k ≤ n1) (hf2 : f2 + k ≤ n2) : Rall (cpS σ i j f f2 k) τ := by
  have hb : Rall (fun a b c => if a = 46 then cpS σ i j f f2 k a b c else σ a b c) τ := h.c46 (fun q hq => by funext b c; simp [hq])
  refine hb.mk (fun q _ _ _ _ _ h45 _ _ _ h30 => ?_) (fun q hq => ?_) (fun q hq => ?_) (fun q _ _ => ?_) (fun r hr => ?_) ?_ ?_
  · by_cases h46 : q = 46
    · subst h46; funext b c; simp
    · rw [cpS_k h30 h45 h46]; funext b c; simp [h46]
  · rw [cpS_k (by decide) (by decide) (by decide)]; funext c; simp
  · funext c; rw [cpS_30]; simp [show q ≠ 4 + j by omega]
  · rw [cpS_k (by decide) (by decide) (by decide)]; simp
  · rw [cpS_k (a := 6) (by decide) (by decide) (by decide), cpS_k (a := 44) (by decide) (by decide) (by decide)]
    by_cases e : r = j
    · subst e
      refine ⟨n2, hn2, a2, Or.inr ⟨a1, a3, fun q hq => ?_⟩⟩
      show cpS σ i r f f2 k 30 (4 + r) q = cpS σ i r f f2 k 45 0 (60 * r + q)
      rw [cpS_30, cpS_45, if_pos rfl]
      by_cases hq2 : f2 ≤ q ∧ q < f2 + k
      · rw [if_pos hq2, if_pos (by omega), g1 _ (by omega)]
        congr 1
        omega
      · rw [if_neg hq2, if_neg (by omega)]
        exact g2 q hq
    · obtain ⟨n, b1, b2, b3⟩ := h.1 r hr
      refine ⟨n, b1, b2, ?_⟩
      rcases b3 with b3 | ⟨b3, b4, b5⟩
      · exact Or.inl b3
      · refine Or.inr ⟨b3, b4, fun q hq => ?_⟩
        show cpS σ i j f f2 k 30 (4 + r) q = cpS σ i j f f2 k 45 0 (60 * r + q)
        rw [cpS_30, cpS_45, if_neg (by omega), if_neg (by omega)]
        exact b5 q hq
  · refine h.2.1.fr (fun r _ => ?_) (fun r _ => ?_) ?_ ?_
    · rw [cpS_k (by decide) (by decide) (by decide)]
    · funext c; rw [cpS_30, if_neg (by omega)]
    · rw [cpS_k (by decide) (by decide) (by decide)]
    · rw [cpS_k (by decide) (by decide) (by decide)]
  · refine h.2.2.2.2.2.1.fr ?_ ?_ ?_ ?_ ?_
    all_goals rw [cpS_k (by decide) (by decide) (by decide)]
theorem LC_copy (h : Rall σ τ) (r f r2 f2 k : Int32) : LC l 97 167 [aI r, aI f, aI r2, aI f2, aI k] σ τ t := by
  by_cases hr : 0 ≤ r ∧ r < 6
  rotate_left
  · exact LC.of (x_copy_bad (Or.inl hr)) (m_copy_bad (Or.inl (not6 hr))) h
  by_cases hr2 : 0 ≤ r2 ∧ r2 < 6
  rotate_left
  · exact LC.of (x_copy_bad (Or.inr hr2)) (m_copy_bad (Or.inr (not6 hr2))) h
  by_cases hk : k < 0
  · exact LC.of (x_copy_neg hr hr2 hk) (m_copy_neg (le5 hr) (le5 hr2) hk) (h.find (by decide))
  have hk := Int32.not_lt.mp hk
  obtain ⟨i, hi, rfl⟩ := ix_lt (n := 6) (by decide) hr
  obtain ⟨j, hj, rfl⟩ := ix_lt (n := 6) (by decide) hr2
  obtain ⟨n1, b1, c1, d1⟩ := h.1 i hi
  obtain ⟨n2, b2, c2, d2⟩ := h.1 j hj
  rcases d1 with ⟨d1, z1⟩ | ⟨d1, z1, g1⟩
  · exact LC.of (x_copy_none hi hj hk (Or.inl d1)) (m_copy_none hi hj hk (Or.inl (by show σ 44 0 i < 0; rw [z1]; decide))) (h.find (by decide))
  rcases d2 with ⟨d2, z2⟩ | ⟨d2, z2, g2⟩
  · exact LC.of (x_copy_none hi hj hk (Or.inr d2)) (m_copy_none hi hj hk (Or.inr (by show σ 44 0 j < 0; rw [z2]; decide))) (h.find (by decide))
  have n01 : ¬ σ 6 (4 + i) 0 = 0 := by rw [d1]; decide
  have n02 : ¬ σ 6 (4 + j) 0 = 0 := by rw [d2]; decide
  have q1 : ¬ σ 44 0 i < 0 := by rw [z1]; exact nI_pos (by omega)
  have q2 : ¬ σ 44 0 j < 0 := by rw [z2]; exact nI_pos (by omega)
  by_cases s1 : 0 ≤ f ∧ f ≤ nI n1 ∧ k ≤ nI n1 - f
  · by_cases s2 : 0 ≤ f2 ∧ f2 ≤ nI n2 ∧ k ≤ nI n2 - f2
    · have t1 := (span_iff hk b1).mp s1
      have t2 := (span_iff hk b2).mp s2
      have hM : ¬ f < 0 ∧ ¬ f2 < 0 ∧ ¬ 0 < lg_cmp (f.toInt64 + k.toInt64) (σ 44 0 i).toInt64 ∧ lg_cmp (f2.toInt64 + k.toInt64) (σ 44 0 j).toInt64 ≤ 0 := by
        rw [lg_cmp_gt, lg_cmp_le, z1, z2]
        exact ⟨t1.1, t2.1, Int64.not_lt.mpr t1.2, t2.2⟩
      obtain ⟨f', hf', rfl⟩ := ix_le (N := nI n1) (n := n1 + 1) (by rw [nI_toInt (by omega)]; rfl) ⟨s1.1, s1.2.1⟩
      obtain ⟨f2', hf2', rfl⟩ := ix_le (N := nI n2) (n := n2 + 1) (by rw [nI_toInt (by omega)]; rfl) ⟨s2.1, s2.2.1⟩
      have u1 := s1.2.2
      rw [nI_sub' (by omega)] at u1
      obtain ⟨k', hk', rfl⟩ := ix_le (N := nI (n1 - f')) (n := n1 - f' + 1) (by rw [nI_toInt (by omega)]; rfl) ⟨hk, u1⟩
      have u2 := s2.2.2
      rw [nI_sub' (by omega), i_le, nI_toInt (by omega), nI_toInt (by omega)] at u2
      refine LC.of (x_copy hi hj hk n01 n02 (by rw [c1]; exact s1) (by rw [c2]; exact s2) (by omega) (by omega)) (m_copy hi hj hk (σ := cp3 σ 30 (4 + j) 30 (4 + i) f' f2' k') (by simpa [cp3] using q1) (by simpa [cp3] using q2) (by omega) (by omega) (by simpa [cp3] using hM)) ?_
      exact h.cp hi hj b1 b2 d2 c2 z2 g1 g2 (by omega) (by omega)
    · refine LC.of (x_copy_out hi hj hk n01 n02 (Or.inr (by rw [c2]; exact s2))) (m_copy_out hi hj hk q1 q2 ?_) (h.find (by decide))
      show ¬ (¬ f < 0 ∧ ¬ f2 < 0 ∧ ¬ 0 < lg_cmp (f.toInt64 + k.toInt64) (σ 44 0 i).toInt64 ∧ lg_cmp (f2.toInt64 + k.toInt64) (σ 44 0 j).toInt64 ≤ 0)
      rw [lg_cmp_le, z2]
      rintro ⟨-, v2, -, v4⟩
      exact s2 ((span_iff hk b2).mpr ⟨v2, v4⟩)
  · refine LC.of (x_copy_out hi hj hk n01 n02 (Or.inl (by rw [c1]; exact s1))) (m_copy_out hi hj hk q1 q2 ?_) (h.find (by decide))
    show ¬ (¬ f < 0 ∧ ¬ f2 < 0 ∧ ¬ 0 < lg_cmp (f.toInt64 + k.toInt64) (σ 44 0 i).toInt64 ∧ lg_cmp (f2.toInt64 + k.toInt64) (σ 44 0 j).toInt64 ≤ 0)
    rw [lg_cmp_gt, z1]
    rintro ⟨v1, -, v3, -⟩
    exact s1 ((span_iff hk b1).mpr ⟨v1, Int64.not_lt.mp v3⟩)
end L15b

/-! CASES OF THE LAW: door -/
section L19
variable {l : Launch} {σ σ2 : tI} {τ τ2 : tL} {t : Option (Nat × Nat)}
theorem x_door_on {a b q : Nat} (ha : a < 6) (hb : b < 6) (hab : nI a ≠ nI b) (hq : q < 4) (h0 : ¬ σ 9 (1 + q) 0 = 0) : am_D l 112 [aR 11 0, aI (nI a), aI (nI b), aI (nI q)] σ τ (rX t) cX lX (some (aI (σ 31 a b))) (u3 σ 31 a b (nI q)) τ (rX t) := by
  refine am_D_of am_o112 am_l112 rfl ?_
  refine am_vc_ok am_k112 [] 100 ?_
  refine am_vS am_k112 am_h112 rfl rfl rfl rfl (x_isPair) ?_
  refine am_vc_ok am_k112 [] 100 ?_
  refine And.intro (fun g => absurd ⟨in6 ha, in6 hb, hab⟩ (bI_0.mp g)) (fun _ => ?_)
  refine And.intro (fun g => absurd g (n9_4 (by omega))) (fun _ => ?_)
  refine am_vS am_k112 am_h112 rfl rfl rfl rfl (x_within) ?_
  refine am_vc_ok am_k112 [] 100 ?_
  refine And.intro (fun g => absurd (in4 hq) (bI_0.mp g)) (fun _ => ?_)
  refine And.intro (fun g => absurd g (n9_4 (by omega))) (fun _ => ?_)
  refine And.intro (vp_in_nI (N := 4) hq (by decide)) ?_
  rw [nI_clamp (n := q) (by omega)]
  refine And.intro (fun g => absurd g h0) (fun _ => ?_)
  refine And.intro (vp_in_nI (N := 6) ha (by decide)) ?_
  rw [nI_clamp (n := a) (by omega)]
  refine And.intro (vp_in_nI (N := 6) hb (by decide)) ?_
  rw [nI_clamp (n := b) (by omega)]
  refine And.intro (vp_in_nI (N := 6) ha (by decide)) ?_
  rw [nI_clamp (n := a) (by omega)]
  refine And.intro (vp_in_nI (N := 6) hb (by decide)) ?_
  rw [nI_clamp (n := b) (by omega)]
  exact am_vI am_k112 am_r112 rfl ⟨rfl, rfl, rfl, rfl, rfl, rfl⟩
theorem m_door_on {a b q : Nat} (ha : a < 6) (hb : b < 6) (hab : nI a ≠ nI b) (hq : q < 4) (h0 : ¬ σ 49 0 q < 0) : am_D l 198 [aR 12 0, aI (nI a), aI (nI b), aI (nI q)] σ τ (rX t) cX lX (some (aI (σ 59 0 (6 * a + b)))) (u3 σ 59 0 (6 * a + b) (nI q)) τ (rX t) := by
  refine am_D_of am_o198 am_l198 rfl ?_
  refine am_vc_ok am_k198 [] 100 ?_
  refine am_vS am_k198 am_h198 rfl rfl rfl rfl (m_isSix) ?_
  refine am_vc_ok am_k198 [] 100 ?_
  refine And.intro (fun g => absurd (in5 ha) (bI_0.mp g)) (fun _ => ?_)
  refine am_vS am_k198 am_h198 rfl rfl rfl rfl (m_isSix) ?_
  refine am_vc_ok am_k198 [] 100 ?_
  refine And.intro (fun g => absurd (in5 hb) (bI_0.mp g)) (fun _ => ?_)
  refine And.intro (fun g => absurd g hab) (fun _ => ?_)
  refine And.intro (fun g => absurd g (n9_4 (by omega))) (fun _ => ?_)
  refine am_vS am_k198 am_h198 rfl rfl rfl rfl (m_isShape) ?_
  refine am_vc_ok am_k198 [] 100 ?_
  refine And.intro (fun g => absurd (in3 hq) (bI_0.mp g)) (fun _ => ?_)
  refine And.intro (fun g => absurd g (n9_4 (by omega))) (fun _ => ?_)
  refine And.intro (vp_in_nI (N := 4) hq (by decide)) ?_
  rw [nI_clamp (n := q) (by omega)]
  refine And.intro (fun _ => ?_) (fun g => absurd (Int32.not_lt.mp h0) g)
  refine And.intro (by rw [n6]; exact vp_in_nI (N := 36) (by omega) (by decide)) ?_
  rw [n6, nI_clamp (n := 6 * a + b) (by omega)]
  refine And.intro (by rw [n6]; exact vp_in_nI (N := 36) (by omega) (by decide)) ?_
  rw [n6, nI_clamp (n := 6 * a + b) (by omega)]
  exact am_vI am_k198 am_r198 rfl ⟨rfl, rfl, rfl, rfl, rfl, rfl⟩
theorem Rall.doors {σ σ2 : tI} {τ : tL} (h : Rall σ τ) (hk : ∀ k, k ≠ 31 → k ≠ 59 → σ2 k = σ k) (hs : Rserv σ2) : Rall σ2 τ := by
  obtain ⟨h1, h2, h3, h4, -, h6, T, n, m, lo, kk, h7⟩ := h
  have g6 := hk 6 (by decide) (by decide)
  have g30 := hk 30 (by decide) (by decide)
  have g12 := hk 12 (by decide) (by decide)
  have g8 := hk 8 (by decide) (by decide)
  exact ⟨h1.fr (fun r _ => by rw [g6]) (fun r _ => by rw [g30]) (hk 44 (by decide) (by decide)) (hk 45 (by decide) (by decide)), h2.fr (fun r _ => by rw [g6]) (fun r _ => by rw [g30]) (hk 47 (by decide) (by decide)) (hk 48 (by decide) (by decide)), h3.fr (fun k z => hk k (kNe z rfl) (kNe z rfl)), h4.fr (hk 4 (by decide) (by decide)) (hk 55 (by decide) (by decide)) (hk 56 (by decide) (by decide)) (by rw [g6]) (by rw [g30]) (by rw [g12]), hs, h6.fr (hk 11 (by decide) (by decide)) (hk 42 (by decide) (by decide)) (hk 43 (by decide) (by decide)) (by rw [g12]) (by rw [g12]), T, n, m, lo, kk, h7.fr (fun k z => hk k (kNe z rfl) (kNe z rfl)) (fun j _ => by rw [g12]) (fun a j _ _ => by rw [g8])⟩
theorem Rshapes.there {s : Nat} (h : Rshapes σ) (hs : s < 4) : (σ 9 (1 + s) 0 = 0 ∧ σ 49 0 s = -9) ∨ (σ 9 (1 + s) 0 = 1 ∧ ∃ n, n ≤ 12 ∧ σ 49 0 s = nI n) := by
  rcases h s hs with h1 | ⟨S, h1, h2, h3, h4, -⟩
  · exact Or.inl h1
  · exact Or.inr ⟨h2, sN S, h1.1, h4⟩
theorem Rserv.set {a b : Nat} {v : Int32} (h : Rserv σ) (ha : a < 6) (hb : b < 6) (hv : v = -9 ∨ ∃ s, s < 4 ∧ v = nI s ∧ σ 49 0 s ≠ -9 ∧ a ≠ b) : Rserv (u3 (u3 σ 31 a b v) 59 0 (6 * a + b) v) := by
  intro c hc
  obtain ⟨g1, g2⟩ := h c hc
  refine ⟨?_, fun d hd => ?_⟩
  · simpa [u3] using g1
  · by_cases e : c = a ∧ d = b
    · obtain ⟨rfl, rfl⟩ := e
      refine ⟨by simp [u3], ?_⟩
      rcases hv with hv | ⟨s, s1, s2, s3, s4⟩
      · exact Or.inl (by simp [u3, hv])
      · exact Or.inr ⟨s, s1, by simp [u3, s2], by simpa [u3] using s3, s4⟩
    · have e1 : u3 (u3 σ 31 a b v) 59 0 (6 * a + b) v 31 c d = σ 31 c d := by
        by_cases e2 : c = a
        · have e3 : d ≠ b := fun z => e ⟨e2, z⟩
          simp [u3, e3]
        · simp [u3, e2]
      have e2 : u3 (u3 σ 31 a b v) 59 0 (6 * a + b) v 59 0 (6 * c + d) = σ 59 0 (6 * c + d) := by
        have e3 : 6 * c + d ≠ 6 * a + b := fun z => e ⟨by omega, by omega⟩
        simp [u3, e3]
      have e3 : ∀ s, u3 (u3 σ 31 a b v) 59 0 (6 * a + b) v 49 0 s = σ 49 0 s := fun s => by simp [u3]
      rw [e1, e2]
      refine ⟨(g2 d hd).1, ?_⟩
      rcases (g2 d hd).2 with z | ⟨s, s1, s2, s3, s4⟩
      · exact Or.inl z
      · exact Or.inr ⟨s, s1, s2, by rw [e3]; exact s3, s4⟩
theorem LC_door (h : Rall σ τ) (a b s : Int32) : LC l 112 198 [aI a, aI b, aI s] σ τ t := by
  by_cases hp : (0 ≤ a ∧ a < 6) ∧ (0 ≤ b ∧ b < 6) ∧ a ≠ b
  · obtain ⟨ha, hb, hab⟩ := hp
    by_cases h9 : s = -9
    · subst h9
      obtain ⟨i, hi, rfl⟩ := ix_lt (n := 6) (by decide) ha
      obtain ⟨j, hj, rfl⟩ := ix_lt (n := 6) (by decide) hb
      have hm := m_door_off (l := l) (σ := u3 σ 31 i j (-9)) (τ := τ) (t := t) hi hj hab
      rw [show u3 σ 31 i j (-9) 59 0 (6 * i + j) = σ 31 i j from (by simp [u3, ((h.2.2.2.2.1 i hi).2 j hj).1])] at hm
      refine LC.of (x_door_off hi hj hab) hm ?_
      refine h.doors (fun k a1 a2 => ?_) (h.2.2.2.2.1.set hi hj (Or.inl rfl))
      rw [u3_kk _ _ a2, u3_kk _ _ a1]
    · by_cases hs : 0 ≤ s ∧ s < 4
      · obtain ⟨q, hq, rfl⟩ := ix_lt (n := 4) (by decide) hs
        rcases h.2.2.1.there hq with ⟨z1, z2⟩ | ⟨z1, n, hn, z2⟩
        · exact LC.of (x_door_none ⟨ha, hb, hab⟩ hq z1) (m_door_none ⟨le5 ha, le5 hb, hab⟩ hq (by show σ 49 0 q < 0; rw [z2]; decide)) (h.find (by decide))
        · obtain ⟨i, hi, rfl⟩ := ix_lt (n := 6) (by decide) ha
          obtain ⟨j, hj, rfl⟩ := ix_lt (n := 6) (by decide) hb
          have hm := m_door_on (l := l) (σ := u3 σ 31 i j (nI q)) (τ := τ) (t := t) hi hj hab hq (by show ¬ σ 49 0 q < 0; rw [z2]; exact nI_pos (by omega))
          rw [show u3 σ 31 i j (nI q) 59 0 (6 * i + j) = σ 31 i j from (by simp [u3, ((h.2.2.2.2.1 i hi).2 j hj).1])] at hm
          refine LC.of (x_door_on hi hj hab hq (by rw [z1]; decide)) hm ?_
          refine h.doors (fun k a1 a2 => ?_) (h.2.2.2.2.1.set hi hj (Or.inr ⟨q, hq, rfl, by rw [z2]; exact n9_4 (by omega), fun z => hab (by rw [z])⟩))
          rw [u3_kk _ _ a2, u3_kk _ _ a1]
      · exact LC.of (x_door_bad (Or.inr ⟨h9, hs⟩)) (m_door_bad (Or.inr ⟨h9, not4 hs⟩)) h
  · have h2 : ¬ ((0 ≤ a ∧ a ≤ 5) ∧ (0 ≤ b ∧ b ≤ 5) ∧ a ≠ b) := by
      rintro ⟨g1, g2, g3⟩
      by_cases k1 : 0 ≤ a ∧ a < 6
      · by_cases k2 : 0 ≤ b ∧ b < 6
        · exact hp ⟨k1, k2, g3⟩
        · exact not6 k2 g2
      · exact not6 k1 g1
    exact LC.of (x_door_bad (Or.inl hp)) (m_door_bad (Or.inl h2)) h
end L19
