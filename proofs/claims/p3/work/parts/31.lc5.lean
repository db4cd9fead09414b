/-! CASES OF THE LAW: kept, mark, version, service -/
section L5
variable {l : Launch} {σ σ2 : tI} {τ τ2 : tL} {t : Option (Nat × Nat)}
theorem x_isKept {c : Nat} : am_D l 31 [aR 3 0, aR 0 c] σ τ (rX t) cX lX (some (aI (bI (σ 3 0 4 ≤ σ 0 c 15)))) σ τ (rX t) := by
  refine am_D_of am_o31 am_l31 rfl ?_
  refine am_vc_ok am_k31 [] 100 ?_
  refine And.intro (fun h => ?_) (fun h => ?_)
  · rw [bI_f (Int32.not_le.mpr h)]
    exact am_vZ am_k31 am_r31 rfl (Or.inl rfl) ⟨rfl, rfl, rfl, rfl, rfl, rfl⟩
  · rw [bI_t (Int32.not_lt.mp h)]
    exact am_vZ am_k31 am_r31 rfl (Or.inr rfl) ⟨rfl, rfl, rfl, rfl, rfl, rfl⟩
theorem m_isKeptName {c : Nat} (hc : c < 30) : am_D l 221 [aR 12 0, aI (nI c)] σ τ (rX t) cX lX (some (aI (bI (σ 12 0 5 ≤ σ 79 0 c)))) σ τ (rX t) := by
  refine am_D_of am_o221 am_l221 rfl ?_
  refine am_vc_ok am_k221 [] 100 ?_
  refine And.intro (vp_in_nI (N := 30) hc (by decide)) ?_
  rw [nI_clamp (by omega)]
  refine And.intro (fun h => ?_) (fun h => ?_)
  · rw [bI_f (Int32.not_le.mpr h)]
    exact am_vZ am_k221 am_r221 rfl (Or.inl rfl) ⟨rfl, rfl, rfl, rfl, rfl, rfl⟩
  · rw [bI_t (Int32.not_lt.mp h)]
    exact am_vZ am_k221 am_r221 rfl (Or.inr rfl) ⟨rfl, rfl, rfl, rfl, rfl, rfl⟩
theorem x_namesKept_loop {Q : tQ} {n : Nat} {a : Int32} (hn : σ 3 0 5 = nI n) (hn2 : n ≤ 30) (K : am_G l 32 Q 0 0 52 [(3, aI (nI n)), (2, aI (nI (cntN (fun c => decide (σ 0 c 1 = a ∧ σ 3 0 4 ≤ σ 0 c 15)) n))), (0, aR 3 0), (1, aI a)] [] σ τ (rX t) cX lX) : ∀ (d c : Nat), c + d = n → am_G l 32 Q 0 0 4 [(3, aI (nI c)), (2, aI (nI (cntN (fun c => decide (σ 0 c 1 = a ∧ σ 3 0 4 ≤ σ 0 c 15)) c))), (0, aR 3 0), (1, aI a)] [] σ τ (rX t) cX lX
  | 0, c, h => by
    obtain rfl : c = n := by omega
    refine am_vc_ok am_k32 [4, 52] 100 ?_
    refine And.intro (fun _ => K) (fun h1 => absurd (by rw [hn]; exact Int32.le_refl _) h1)
  | d + 1, c, h => by
    have K2 := x_namesKept_loop hn hn2 K d (c + 1) (by omega)
    rw [← nI_1] at K2
    have hc : c < 30 := by omega
    refine am_vc_ok am_k32 [4, 52] 100 ?_
    refine And.intro (fun h1 => absurd h1 (by rw [hn]; exact nI_ge (by omega) (by omega))) (fun h1 => ?_)
    refine And.intro (vp_in_nI (N := 30) hc (by decide)) ?_
    rw [nI_clamp (by omega)]
    refine And.intro (fun h2 => ?_) (fun h2 => ?_)
    · have h2 : σ 0 c 1 = a := h2
      refine And.intro (vp_in_nI (N := 30) hc (by decide)) ?_
      rw [nI_clamp (by omega)]
      refine am_vO am_k32 am_h32 rfl rfl rfl rfl (x_isKept) ?_
      refine am_vc_ok am_k32 [4, 52] 100 ?_
      refine And.intro (fun h3 => ?_) (fun h3 => ?_)
      · have h3 := bI_0.mp h3
        have e : nI (cntN (fun c => decide (σ 0 c 1 = a ∧ σ 3 0 4 ≤ σ 0 c 15)) c) + 0 = nI (cntN (fun c => decide (σ 0 c 1 = a ∧ σ 3 0 4 ≤ σ 0 c 15)) (c + 1)) := by
          rw [Int32.add_zero]; simp [cntN, h3]
        rw [← e] at K2
        exact K2
      · have h3 := bI_1.mp h3
        have e : nI (cntN (fun c => decide (σ 0 c 1 = a ∧ σ 3 0 4 ≤ σ 0 c 15)) c) + 1 = nI (cntN (fun c => decide (σ 0 c 1 = a ∧ σ 3 0 4 ≤ σ 0 c 15)) (c + 1)) := by
          rw [nI_1]; simp [cntN, h2, h3]
        rw [← e] at K2
        exact K2
    · have h2 : ¬ σ 0 c 1 = a := h2
      have e : nI (cntN (fun c => decide (σ 0 c 1 = a ∧ σ 3 0 4 ≤ σ 0 c 15)) c) + 0 = nI (cntN (fun c => decide (σ 0 c 1 = a ∧ σ 3 0 4 ≤ σ 0 c 15)) (c + 1)) := by
        rw [Int32.add_zero]; simp [cntN, h2]
      rw [← e] at K2
      exact K2
theorem x_namesKept {n : Nat} {a : Int32} (hn : σ 3 0 5 = nI n) (hn2 : n ≤ 30) : am_D l 32 [aR 3 0, aI a] σ τ (rX t) cX lX (some (aI (nI (cntN (fun c => decide (σ 0 c 1 = a ∧ σ 3 0 4 ≤ σ 0 c 15)) n)))) σ τ (rX t) := by
  refine am_D_of am_o32 am_l32 rfl ?_
  refine am_vc_ok am_k32 [4] 100 ?_
  refine x_namesKept_loop hn hn2 ?_ n 0 (by omega)
  refine am_vc_ok am_k32 [4] 100 ?_
  exact am_vI am_k32 am_r32 rfl ⟨rfl, rfl, rfl, rfl, rfl, rfl⟩
theorem m_keptAt_loop {Q : tQ} {n : Nat} {a : Int32} (hn : σ 12 0 34 = nI n) (hn2 : n ≤ 30) (K : am_G l 237 Q 0 0 44 [(3, aI (nI n)), (2, aI (nI (cntN (fun c => decide (σ 66 0 c = a ∧ σ 12 0 5 ≤ σ 79 0 c)) n))), (0, aR 12 0), (1, aI a)] [] σ τ (rX t) cX lX) : ∀ (d c : Nat), c + d = n → am_G l 237 Q 0 0 4 [(3, aI (nI c)), (2, aI (nI (cntN (fun c => decide (σ 66 0 c = a ∧ σ 12 0 5 ≤ σ 79 0 c)) c))), (0, aR 12 0), (1, aI a)] [] σ τ (rX t) cX lX
  | 0, c, h => by
    obtain rfl : c = n := by omega
    refine am_vc_ok am_k237 [4, 44] 100 ?_
    refine And.intro (fun _ => K) (fun h1 => absurd (by rw [hn]; exact Int32.le_refl _) h1)
  | d + 1, c, h => by
    have K2 := m_keptAt_loop hn hn2 K d (c + 1) (by omega)
    rw [← nI_1] at K2
    have hc : c < 30 := by omega
    refine am_vc_ok am_k237 [4, 44] 100 ?_
    refine And.intro (fun h1 => absurd h1 (by rw [hn]; exact nI_ge (by omega) (by omega))) (fun h1 => ?_)
    refine And.intro (vp_in_nI (N := 30) hc (by decide)) ?_
    rw [nI_clamp (by omega)]
    refine And.intro (fun h2 => ?_) (fun h2 => ?_)
    · have h2 : σ 66 0 c = a := h2
      refine am_vO am_k237 am_h237 rfl rfl rfl rfl (m_isKeptName hc) ?_
      refine am_vc_ok am_k237 [4, 44] 100 ?_
      refine And.intro (fun h3 => ?_) (fun h3 => ?_)
      · have h3 := bI_0.mp h3
        have e : nI (cntN (fun c => decide (σ 66 0 c = a ∧ σ 12 0 5 ≤ σ 79 0 c)) c) + 0 = nI (cntN (fun c => decide (σ 66 0 c = a ∧ σ 12 0 5 ≤ σ 79 0 c)) (c + 1)) := by
          rw [Int32.add_zero]; simp [cntN, h3]
        rw [← e] at K2
        exact K2
      · have h3 := bI_1.mp h3
        have e : nI (cntN (fun c => decide (σ 66 0 c = a ∧ σ 12 0 5 ≤ σ 79 0 c)) c) + 1 = nI (cntN (fun c => decide (σ 66 0 c = a ∧ σ 12 0 5 ≤ σ 79 0 c)) (c + 1)) := by
          rw [nI_1]; simp [cntN, h2, h3]
        rw [← e] at K2
        exact K2
    · have h2 : ¬ σ 66 0 c = a := h2
      have e : nI (cntN (fun c => decide (σ 66 0 c = a ∧ σ 12 0 5 ≤ σ 79 0 c)) c) + 0 = nI (cntN (fun c => decide (σ 66 0 c = a ∧ σ 12 0 5 ≤ σ 79 0 c)) (c + 1)) := by
        rw [Int32.add_zero]; simp [cntN, h2]
      rw [← e] at K2
      exact K2
theorem m_keptAt {n : Nat} {a : Int32} (hn : σ 12 0 34 = nI n) (hn2 : n ≤ 30) : am_D l 237 [aR 12 0, aI a] σ τ (rX t) cX lX (some (aI (nI (cntN (fun c => decide (σ 66 0 c = a ∧ σ 12 0 5 ≤ σ 79 0 c)) n)))) σ τ (rX t) := by
  refine am_D_of am_o237 am_l237 rfl ?_
  refine am_vc_ok am_k237 [4] 100 ?_
  refine m_keptAt_loop hn hn2 ?_ n 0 (by omega)
  refine am_vc_ok am_k237 [4] 100 ?_
  exact am_vI am_k237 am_r237 rfl ⟨rfl, rfl, rfl, rfl, rfl, rfl⟩
theorem x_kept_bad {a : Int32} (ha : ¬ (0 ≤ a ∧ a < 6)) : am_D l 127 [aR 11 0, aI a] σ τ (rX t) cX lX (some (aI (-1))) σ τ (rX t) := by
  refine am_D_of am_o127 am_l127 rfl ?_
  refine am_vc_ok am_k127 [] 100 ?_
  refine am_vS am_k127 am_h127 rfl rfl rfl rfl (x_within) ?_
  refine am_vc_ok am_k127 [] 100 ?_
  refine And.intro (fun h => ?_) (fun h => ?_)
  · exact am_vI am_k127 am_r127 rfl ⟨rfl, rfl, rfl, rfl, rfl, rfl⟩
  · exact absurd (bI_1.mp h) ha
theorem x_kept {a : Int32} {n : Nat} (ha : 0 ≤ a ∧ a < 6) (hn : σ 3 0 5 = nI n) (hn2 : n ≤ 30) : am_D l 127 [aR 11 0, aI a] σ τ (rX t) cX lX (some (aI (nI (cntN (fun c => decide (σ 0 c 1 = a ∧ σ 3 0 4 ≤ σ 0 c 15)) n)))) σ τ (rX t) := by
  refine am_D_of am_o127 am_l127 rfl ?_
  refine am_vc_ok am_k127 [] 100 ?_
  refine am_vS am_k127 am_h127 rfl rfl rfl rfl (x_within) ?_
  refine am_vc_ok am_k127 [] 100 ?_
  refine And.intro (fun h => ?_) (fun h => ?_)
  · exact absurd ha (bI_0.mp h)
  refine am_vO am_k127 am_h127 rfl rfl rfl rfl (x_namesKept hn hn2) ?_
  refine am_vc_ok am_k127 [] 100 ?_
  exact am_vI am_k127 am_r127 rfl ⟨rfl, rfl, rfl, rfl, rfl, rfl⟩
theorem m_kept_bad {a : Int32} (ha : ¬ (0 ≤ a ∧ a ≤ 5)) : am_D l 238 [aR 12 0, aI a] σ τ (rX t) cX lX (some (aI (-1))) σ τ (rX t) := by
  refine am_D_of am_o238 am_l238 rfl ?_
  refine am_vc_ok am_k238 [] 100 ?_
  refine am_vS am_k238 am_h238 rfl rfl rfl rfl (m_isSix) ?_
  refine am_vc_ok am_k238 [] 100 ?_
  refine And.intro (fun h => ?_) (fun h => ?_)
  · exact am_vI am_k238 am_r238 rfl ⟨rfl, rfl, rfl, rfl, rfl, rfl⟩
  · exact absurd (bI_1.mp h) ha
theorem m_kept {a : Int32} {n : Nat} (ha : 0 ≤ a ∧ a ≤ 5) (hn : σ 12 0 34 = nI n) (hn2 : n ≤ 30) : am_D l 238 [aR 12 0, aI a] σ τ (rX t) cX lX (some (aI (nI (cntN (fun c => decide (σ 66 0 c = a ∧ σ 12 0 5 ≤ σ 79 0 c)) n)))) σ τ (rX t) := by
  refine am_D_of am_o238 am_l238 rfl ?_
  refine am_vc_ok am_k238 [] 100 ?_
  refine am_vS am_k238 am_h238 rfl rfl rfl rfl (m_isSix) ?_
  refine am_vc_ok am_k238 [] 100 ?_
  refine And.intro (fun h => ?_) (fun h => ?_)
  · exact absurd ha (bI_0.mp h)
  refine am_vO am_k238 am_h238 rfl rfl rfl rfl (m_keptAt hn hn2) ?_
  refine am_vc_ok am_k238 [] 100 ?_
  exact am_vI am_k238 am_r238 rfl ⟨rfl, rfl, rfl, rfl, rfl, rfl⟩
theorem Rnet.kept {T n m lo k : Nat} (h : Rnet σ T n m lo k) (a : Int32) : cntN (fun c => decide (σ 66 0 c = a ∧ σ 12 0 5 ≤ σ 79 0 c)) n = cntN (fun c => decide (σ 0 c 1 = a ∧ σ 3 0 4 ≤ σ 0 c 15)) n := by
  refine cntN_cg (fun c hc => ?_)
  obtain ⟨⟨-, h1, -, -, -, -, -, -, -, -, -, -, -, h15, -⟩, -⟩ := h.2.2.1 c hc
  rw [h1, h15, h.1.1, h.1.2.1]
theorem LC_kept (h : Rall σ τ) (a : Int32) : LC l 127 238 [aI a] σ τ t := by
  have hR := h
  obtain ⟨-, -, -, -, -, -, T, n, m, lo, k, hN⟩ := h
  have hn := hN.2.1
  by_cases ha : 0 ≤ a ∧ a < 6
  · have hm := m_kept (l := l) (σ := σ) (τ := τ) (t := t) (le5 ha) hn.2.1 hn.2.2
    rw [hN.kept a] at hm
    exact LC.of (x_kept ha hn.1 hn.2.2) hm hR
  · exact LC.of (x_kept_bad ha) (m_kept_bad (not6 ha)) hR
-- mark
theorem x_isOf {f : Nat} {q : Int32} (hf : f < 690) : am_D l 7 [aR 1 0, aI (nI f), aI q] σ τ (rX t) cX lX (some (aI (bI (σ 14 0 f = q ∨ (σ 14 0 f = 3 ∧ q = 2) ∨ (σ 14 0 f = 6 ∧ q = 1))))) σ τ (rX t) := by
  refine am_D_of am_o7 am_l7 rfl ?_
  refine am_vc_ok am_k7 [] 100 ?_
  refine And.intro (vp_in_nI (N := 690) hf (by decide)) ?_
  rw [nI_clamp (by omega)]
  generalize σ 14 0 f = o
  refine And.intro (fun h1 => ?_) (fun h1 => ?_)
  · rw [bI_t (Or.inl h1)]
    exact am_vZ am_k7 am_r7 rfl (Or.inr rfl) ⟨rfl, rfl, rfl, rfl, rfl, rfl⟩
  refine And.intro (fun h2 => ?_) (fun h2 => ?_)
  · refine And.intro (fun h3 => ?_) (fun h3 => ?_)
    · rw [bI_t (Or.inr (Or.inl ⟨h2, h3⟩))]
      exact am_vZ am_k7 am_r7 rfl (Or.inr rfl) ⟨rfl, rfl, rfl, rfl, rfl, rfl⟩
    refine And.intro (fun h4 => ?_) (fun h4 => ?_)
    · exact absurd (h2.symm.trans h4) (by decide)
    · rw [bI_f (by rintro (z | ⟨-, z⟩ | ⟨z, -⟩); exact h1 z; exact h3 z; exact h4 z)]
      exact am_vZ am_k7 am_r7 rfl (Or.inl rfl) ⟨rfl, rfl, rfl, rfl, rfl, rfl⟩
  refine And.intro (fun h4 => ?_) (fun h4 => ?_)
  · refine And.intro (fun h5 => ?_) (fun h5 => ?_)
    · rw [bI_t (Or.inr (Or.inr ⟨h4, h5⟩))]
      exact am_vZ am_k7 am_r7 rfl (Or.inr rfl) ⟨rfl, rfl, rfl, rfl, rfl, rfl⟩
    · rw [bI_f (by rintro (z | ⟨z, -⟩ | ⟨-, z⟩); exact h1 z; exact h2 z; exact h5 z)]
      exact am_vZ am_k7 am_r7 rfl (Or.inl rfl) ⟨rfl, rfl, rfl, rfl, rfl, rfl⟩
  · rw [bI_f (by rintro (z | ⟨z, -⟩ | ⟨z, -⟩); exact h1 z; exact h2 z; exact h4 z)]
    exact am_vZ am_k7 am_r7 rfl (Or.inl rfl) ⟨rfl, rfl, rfl, rfl, rfl, rfl⟩
theorem x_tells {f : Nat} {q : Int32} (hf : f < 690) : am_D l 8 [aR 1 0, aI (nI f), aI q] σ τ (rX t) cX lX (some (aI (if q = 1 ∨ q = 2 then σ 19 0 f else σ 20 0 f))) σ τ (rX t) := by
  refine am_D_of am_o8 am_l8 rfl ?_
  refine am_vc_ok am_k8 [] 100 ?_
  refine And.intro (fun h1 => ?_) (fun h1 => ?_)
  · rw [if_pos (Or.inl h1)]
    refine And.intro (vp_in_nI (N := 690) hf (by decide)) ?_
    rw [nI_clamp (by omega)]
    exact am_vI am_k8 am_r8 rfl ⟨rfl, rfl, rfl, rfl, rfl, rfl⟩
  refine And.intro (fun h2 => ?_) (fun h2 => ?_)
  · rw [if_pos (Or.inr h2)]
    refine And.intro (vp_in_nI (N := 690) hf (by decide)) ?_
    rw [nI_clamp (by omega)]
    exact am_vI am_k8 am_r8 rfl ⟨rfl, rfl, rfl, rfl, rfl, rfl⟩
  · rw [if_neg (by rintro (z | z); exact h1 z; exact h2 z)]
    refine And.intro (vp_in_nI (N := 690) hf (by decide)) ?_
    rw [nI_clamp (by omega)]
    exact am_vI am_k8 am_r8 rfl ⟨rfl, rfl, rfl, rfl, rfl, rfl⟩
theorem x_mark_bad {c w : Int32} (h : ¬ (0 ≤ c ∧ c < σ 1 0 0) ∨ ¬ (1 ≤ w ∧ w ≤ 6)) : am_D l 129 [aR 11 0, aI c, aI w] σ τ (rX t) cX lX (some (aI (-1))) σ τ (rX t) := by
  refine am_D_of am_o129 am_l129 rfl ?_
  refine am_vc_ok am_k129 [] 100 ?_
  refine am_vS am_k129 am_h129 rfl rfl rfl rfl (x_within) ?_
  refine am_vc_ok am_k129 [] 100 ?_
  refine And.intro (fun h1 => ?_) (fun h1 => ?_)
  · exact am_vI am_k129 am_r129 rfl ⟨rfl, rfl, rfl, rfl, rfl, rfl⟩
  refine And.intro (fun h2 => ?_) (fun h2 => ?_)
  · exact am_vI am_k129 am_r129 rfl ⟨rfl, rfl, rfl, rfl, rfl, rfl⟩
  refine And.intro (fun h3 => ?_) (fun h3 => ?_)
  · rcases h with h | h
    · exact absurd (bI_1.mp h1) h
    · exact absurd ⟨Int32.not_lt.mp h2, h3⟩ h
  · exact am_vI am_k129 am_r129 rfl ⟨rfl, rfl, rfl, rfl, rfl, rfl⟩
theorem x_mark {f m : Nat} {q : Int32} (hn : σ 1 0 0 = nI m) (hn2 : m ≤ 690) (hf : f < m) (hq : 1 ≤ q ∧ q ≤ 6) : am_D l 129 [aR 11 0, aI (nI f), aI q] σ τ (rX t) cX lX (some (aI (if σ 14 0 f = q ∨ (σ 14 0 f = 3 ∧ q = 2) ∨ (σ 14 0 f = 6 ∧ q = 1) then (if q = 1 ∨ q = 2 then σ 19 0 f else σ 20 0 f) else -3))) (if σ 14 0 f = q ∨ (σ 14 0 f = 3 ∧ q = 2) ∨ (σ 14 0 f = 6 ∧ q = 1) then σ else xfind 3 σ) τ (rX t) := by
  refine am_D_of am_o129 am_l129 rfl ?_
  refine am_vc_ok am_k129 [] 100 ?_
  refine am_vS am_k129 am_h129 rfl rfl rfl rfl (x_within) ?_
  refine am_vc_ok am_k129 [] 100 ?_
  refine And.intro (fun h1 => ?_) (fun h1 => ?_)
  · exact absurd (by rw [hn]; exact inN hf (by omega)) (bI_0.mp h1)
  refine And.intro (fun g => absurd hq.1 (Int32.not_le.mpr g)) (fun _ => ?_)
  refine And.intro (fun _ => ?_) (fun g => absurd hq.2 g)
  refine am_vO am_k129 am_h129 rfl rfl rfl rfl (x_isOf (by omega)) ?_
  refine am_vc_ok am_k129 [] 100 ?_
  refine And.intro (fun h2 => ?_) (fun h2 => ?_)
  · simp only [if_neg (bI_0.mp h2)]
    refine am_vO am_k129 am_h129 rfl rfl rfl rfl (x_find (w := 3) (by decide)) ?_
    refine am_vc_ok am_k129 [] 100 ?_
    exact am_vI am_k129 am_r129 rfl ⟨rfl, rfl, rfl, rfl, rfl, rfl⟩
  · simp only [if_pos (bI_1.mp h2)]
    refine am_vO am_k129 am_h129 rfl rfl rfl rfl (x_tells (by omega)) ?_
    refine am_vc_ok am_k129 [] 100 ?_
    exact am_vI am_k129 am_r129 rfl ⟨rfl, rfl, rfl, rfl, rfl, rfl⟩
theorem m_mark_bad {c w : Int32} (h : ¬ (0 ≤ c ∧ c ≤ σ 12 0 54 - 1) ∨ ¬ (1 ≤ w ∧ w ≤ 6)) : am_D l 241 [aR 12 0, aI c, aI w] σ τ (rX t) cX lX (some (aI (-1))) σ τ (rX t) := by
  refine am_D_of am_o241 am_l241 rfl ?_
  refine am_vc_ok am_k241 [] 100 ?_
  refine am_vS am_k241 am_h241 rfl rfl rfl rfl (m_in) ?_
  refine am_vc_ok am_k241 [] 100 ?_
  refine And.intro (fun h1 => ?_) (fun h1 => ?_)
  · exact am_vI am_k241 am_r241 rfl ⟨rfl, rfl, rfl, rfl, rfl, rfl⟩
  refine am_vS am_k241 am_h241 rfl rfl rfl rfl (m_in) ?_
  refine am_vc_ok am_k241 [] 100 ?_
  refine And.intro (fun h2 => ?_) (fun h2 => ?_)
  · exact am_vI am_k241 am_r241 rfl ⟨rfl, rfl, rfl, rfl, rfl, rfl⟩
  · rcases h with h | h
    · exact absurd (bI_1.mp h1) h
    · exact absurd (bI_1.mp h2) h
theorem m_mark_end {f : Nat} {q o : Int32} {Q : tQ} (hf : f < 1200) (hQ : Q (some (aI (if q = 1 ∨ q = 2 then σ 89 0 f else σ 90 0 f))) σ τ (rX t) cX lX) : am_G l 241 Q 0 0 65 [(3, aI o), (0, aR 12 0), (1, aI (nI f)), (2, aI q)] [] σ τ (rX t) cX lX := by
  refine am_vc_ok am_k241 [] 100 ?_
  refine And.intro (fun h1 => ?_) (fun h1 => ?_)
  · rw [if_pos (Or.inl h1)] at hQ
    refine And.intro (vp_in_nI (N := 1200) hf (by decide)) ?_
    rw [nI_clamp (by omega)]
    exact am_vI am_k241 am_r241 rfl hQ
  refine And.intro (fun h2 => ?_) (fun h2 => ?_)
  · rw [if_pos (Or.inr h2)] at hQ
    refine And.intro (vp_in_nI (N := 1200) hf (by decide)) ?_
    rw [nI_clamp (by omega)]
    exact am_vI am_k241 am_r241 rfl hQ
  · rw [if_neg (by rintro (z | z); exact h1 z; exact h2 z)] at hQ
    refine And.intro (vp_in_nI (N := 1200) hf (by decide)) ?_
    rw [nI_clamp (by omega)]
    exact am_vI am_k241 am_r241 rfl hQ
theorem m_mark {f m : Nat} {q : Int32} (hn : σ 12 0 54 = nI m) (hn2 : m ≤ 690) (hf : f < m) (hq : 1 ≤ q ∧ q ≤ 6) : am_D l 241 [aR 12 0, aI (nI f), aI q] σ τ (rX t) cX lX (some (aI (if σ 84 0 f = q ∨ (σ 84 0 f = 3 ∧ q = 2) ∨ (σ 84 0 f = 6 ∧ q = 1) then (if q = 1 ∨ q = 2 then σ 89 0 f else σ 90 0 f) else -3))) (if σ 84 0 f = q ∨ (σ 84 0 f = 3 ∧ q = 2) ∨ (σ 84 0 f = 6 ∧ q = 1) then σ else mmeets 3 σ) τ (rX t) := by
  refine am_D_of am_o241 am_l241 rfl ?_
  refine am_vc_ok am_k241 [65] 100 ?_
  refine am_vS am_k241 am_h241 rfl rfl rfl rfl (m_in) ?_
  refine am_vc_ok am_k241 [65] 100 ?_
  refine And.intro (fun h1 => ?_) (fun h1 => ?_)
  · exact absurd (by rw [hn]; exact (le_pred2 (by omega)).mpr (inN hf (by omega))) (bI_0.mp h1)
  refine am_vS am_k241 am_h241 rfl rfl rfl rfl (m_in) ?_
  refine am_vc_ok am_k241 [65] 100 ?_
  refine And.intro (fun h2 => ?_) (fun h2 => ?_)
  · exact absurd hq (bI_0.mp h2)
  refine And.intro (vp_in_nI (N := 1200) (by omega) (by decide)) ?_
  rw [nI_clamp (by omega)]
  generalize ho : σ 84 0 f = o
  refine And.intro (fun h3 => ?_) (fun h3 => ?_)
  · simp only [if_pos (Or.inl h3 : o = q ∨ (o = 3 ∧ q = 2) ∨ (o = 6 ∧ q = 1))]
    exact m_mark_end (by omega) ⟨rfl, rfl, rfl, rfl, rfl, rfl⟩
  refine And.intro (fun h4 => ?_) (fun h4 => ?_)
  · refine And.intro (fun h5 => ?_) (fun h5 => ?_)
    · simp only [if_pos (Or.inr (Or.inr ⟨h5, h4⟩) : o = q ∨ (o = 3 ∧ q = 2) ∨ (o = 6 ∧ q = 1))]
      exact m_mark_end (by omega) ⟨rfl, rfl, rfl, rfl, rfl, rfl⟩
    refine And.intro (fun h6 => ?_) (fun h6 => ?_)
    · exact absurd (h4.symm.trans h6) (by decide)
    · have e : ¬ (o = q ∨ (o = 3 ∧ q = 2) ∨ (o = 6 ∧ q = 1)) := by rintro (z | ⟨-, z⟩ | ⟨z, -⟩); exact h3 z; exact h6 z; exact h5 z
      simp only [if_neg e]
      refine am_vO am_k241 am_h241 rfl rfl rfl rfl (m_meets (w := 3) (by decide)) ?_
      refine am_vc_ok am_k241 [65] 100 ?_
      exact am_vI am_k241 am_r241 rfl ⟨rfl, rfl, rfl, rfl, rfl, rfl⟩
  refine And.intro (fun h6 => ?_) (fun h6 => ?_)
  · refine And.intro (fun h7 => ?_) (fun h7 => ?_)
    · simp only [if_pos (Or.inr (Or.inl ⟨h7, h6⟩) : o = q ∨ (o = 3 ∧ q = 2) ∨ (o = 6 ∧ q = 1))]
      exact m_mark_end (by omega) ⟨rfl, rfl, rfl, rfl, rfl, rfl⟩
    · have e : ¬ (o = q ∨ (o = 3 ∧ q = 2) ∨ (o = 6 ∧ q = 1)) := by rintro (z | ⟨z, -⟩ | ⟨-, z⟩); exact h3 z; exact h7 z; exact h4 z
      simp only [if_neg e]
      refine am_vO am_k241 am_h241 rfl rfl rfl rfl (m_meets (w := 3) (by decide)) ?_
      refine am_vc_ok am_k241 [65] 100 ?_
      exact am_vI am_k241 am_r241 rfl ⟨rfl, rfl, rfl, rfl, rfl, rfl⟩
  · have e : ¬ (o = q ∨ (o = 3 ∧ q = 2) ∨ (o = 6 ∧ q = 1)) := by rintro (z | ⟨-, z⟩ | ⟨-, z⟩); exact h3 z; exact h6 z; exact h4 z
    simp only [if_neg e]
    refine am_vO am_k241 am_h241 rfl rfl rfl rfl (m_meets (w := 3) (by decide)) ?_
    refine am_vc_ok am_k241 [65] 100 ?_
    exact am_vI am_k241 am_r241 rfl ⟨rfl, rfl, rfl, rfl, rfl, rfl⟩
theorem LC_mark (h : Rall σ τ) (c w : Int32) : LC l 129 241 [aI c, aI w] σ τ t := by
  have hR := h
  obtain ⟨-, -, -, -, -, -, T, n, m, lo, k, hN⟩ := h
  have hm6 := hN.m_le
  have hf := hN.2.2.2.2.2.2.2.1
  have hm := hN.2.2.2.2.2.2.1
  by_cases hc : 0 ≤ c ∧ c < nI m
  · by_cases hw : 1 ≤ w ∧ w ≤ 6
    · obtain ⟨c, hc1, rfl⟩ := ix_lt (nI_toInt (by omega)) hc
      have hx := x_mark (l := l) (τ := τ) (t := t) hm.1 hm6 hc1 hw
      obtain ⟨e0, -, -, -, -, e5, e6⟩ := (hf c hc1).1
      by_cases hk : σ 14 0 c = w ∨ (σ 14 0 c = 3 ∧ w = 2) ∨ (σ 14 0 c = 6 ∧ w = 1)
      · simp only [if_pos hk] at hx
        have hmm := m_mark (l := l) (σ := σ) (τ := τ) (t := t) hm.2 hm6 hc1 hw
        rw [← e0] at hmm
        simp only [if_pos hk] at hmm
        have e7 : (if w = 1 ∨ w = 2 then σ 89 0 c else σ 90 0 c) = (if w = 1 ∨ w = 2 then σ 19 0 c else σ 20 0 c) := by
          by_cases hz : w = 1 ∨ w = 2
          · rw [if_pos hz, if_pos hz, e5]
          · rw [if_neg hz, if_neg hz, e6]
            intro z
            rw [← e0] at z
            rcases hk with hk | ⟨hk, -⟩ | ⟨hk, -⟩
            · exact hz (Or.inl (hk.symm.trans z))
            · exact absurd (hk.symm.trans z) (by decide)
            · exact absurd (hk.symm.trans z) (by decide)
        rw [e7] at hmm
        exact LC.of hx hmm hR
      · simp only [if_neg hk] at hx
        have hmm := m_mark (l := l) (σ := xfind 3 σ) (τ := τ) (t := t) (by simp [u3, hm.2]) hm6 hc1 hw
        have e8 : (xfind 3 σ) 84 0 c = σ 14 0 c := by simp [u3, e0]
        rw [e8] at hmm
        simp only [if_neg hk] at hmm
        exact LC.of hx hmm (hR.find (by decide))
    · exact LC.of (x_mark_bad (Or.inr hw)) (m_mark_bad (Or.inr hw)) hR
  · exact LC.of (x_mark_bad (Or.inl (by rw [hm.1]; exact hc))) (m_mark_bad (Or.inl (by rw [hm.2]; exact fun z => hc ((le_pred2 (by omega)).mp z)))) hR
end L5
