/-! CASES OF THE LAW: kept, mark, version, service -/
section L5
variable {l : Launch} {σ σ2 : tI} {τ τ2 : tL} {t : Option (Nat × Nat)}
theorem x_isKept {c : Nat} : am_D l 31 [aR 3 0, aR 0 c] σ τ (rX t) cX lX (some (aI (bI (σ 3 0 4 ≤ σ 0 c 15)))) σ τ (rX t) := by
  refine am_D_of am_o31 am_l31 rfl ?_
  refine am_vc_ok am_k31 [] 100 ?_
  refine And.intro (fun h => ?_) (fun h => ?_)
  · rw [bI_f (Int32.not_le.mpr h)]
    exact am_vZ am_k31 am_r31 rfl (Or.inl rfl) ⟨rfl, rfl, rfl, rfl, rfl, rfl⟩
  · rw [bI_t (Int32.not_lt.mp h)]
    exact am_vZ am_k31 am_r31 rfl (Or.inr rfl) ⟨rfl, rfl, rfl, rfl, rfl, rfl⟩
theorem m_isKeptName {c : Nat} (hc : c < 30) : am_D l 221 [aR 12 0, aI (nI c)] σ τ (rX t) cX lX (some (aI (bI (σ 12 0 5 ≤ σ 79 0 c)))) σ τ (rX t) := by
  refine am_D_of am_o221 am_l221 rfl ?_
  refine am_vc_ok am_k221 [] 100 ?_
  refine And.intro (vp_in_nI (N := 30) hc (by decide)) ?_
  rw [nI_clamp (by omega)]
  refine And.intro (fun h => ?_) (fun h => ?_)
  · rw [bI_f (Int32.not_le.mpr h)]
    exact am_vZ am_k221 am_r221 rfl (Or.inl rfl) ⟨rfl, rfl, rfl, rfl, rfl, rfl⟩
  · rw [bI_t (Int32.not_lt.mp h)]
    exact am_vZ am_k221 am_r221 rfl (Or.inr rfl) ⟨rfl, rfl, rfl, rfl, rfl, rfl⟩
theorem x_namesKept_loop {Q : tQ} {n : Nat} {a : Int32} (hn : σ 3 0 5 = nI n) (hn2 : n ≤ 30) (K : am_G l 32 Q 0 0 52 [(3, aI (nI n)), (2, aI (nI (cntN (fun c => decide (σ 0 c 1 = a ∧ σ 3 0 4 ≤ σ 0 c 15)) n))), (0, aR 3 0), (1, aI a)] [] σ τ (rX t) cX lX) : ∀ (d c : Nat), c + d = n → am_G l 32 Q 0 0 4 [(3, aI (nI c)), (2, aI (nI (cntN (fun c => decide (σ 0 c 1 = a ∧ σ 3 0 4 ≤ σ 0 c 15)) c))), (0, aR 3 0), (1, aI a)] [] σ τ (rX t) cX lX
  | 0, c, h => by
    obtain rfl : c = n := by omega
    refine am_vc_ok am_k32 [4, 52] 100 ?_
    refine And.intro (fun _ => K) (fun h1 => absurd (by rw [hn]; exact Int32.le_refl _) h1)
  | d + 1, c, h => by
    have K2 := x_namesKept_loop hn hn2 K d (c + 1) (by omega)
    rw [← nI_1] at K2
    have hc : c < 30 := by omega
    refine am_vc_ok am_k32 [4, 52] 100 ?_
    refine And.intro (fun h1 => absurd h1 (by rw [hn]; exact nI_ge (by omega) (by omega))) (fun h1 => ?_)
    refine And.intro (vp_in_nI (N := 30) hc (by decide)) ?_
    rw [nI_clamp (by omega)]
    refine And.intro (fun h2 => ?_) (fun h2 => ?_)
    · have h2 : σ 0 c 1 = a := h2
      refine And.intro (vp_in_nI (N := 30) hc (by decide)) ?_
      rw [nI_clamp (by omega)]
      refine am_vO am_k32 am_h32 rfl rfl rfl rfl (x_isKept) ?_
      refine am_vc_ok am_k32 [4, 52] 100 ?_
      refine And.intro (fun h3 => ?_) (fun h3 => ?_)
      · have h3 := bI_0.mp h3
        have e : nI (cntN (fun c => decide (σ 0 c 1 = a ∧ σ 3 0 4 ≤ σ 0 c 15)) c) + 0 = nI (cntN (fun c => decide (σ 0 c 1 = a ∧ σ 3 0 4 ≤ σ 0 c 15)) (c + 1)) := by
          rw [Int32.add_zero]; simp [cntN, h3]
        rw [← e] at K2
        exact K2
      · have h3 := bI_1.mp h3
        have e : nI (cntN (fun c => decide (σ 0 c 1 = a ∧ σ 3 0 4 ≤ σ 0 c 15)) c) + 1 = nI (cntN (fun c => decide (σ 0 c 1 = a ∧ σ 3 0 4 ≤ σ 0 c 15)) (c + 1)) := by
          rw [nI_1]; simp [cntN, h2, h3]
        rw [← e] at K2
        exact K2
    · have h2 : ¬ σ 0 c 1 = a := h2
      have e : nI (cntN (fun c => decide (σ 0 c 1 = a ∧ σ 3 0 4 ≤ σ 0 c 15)) c) + 0 = nI (cntN (fun c => decide (σ 0 c 1 = a ∧ σ 3 0 4 ≤ σ 0 c 15)) (c + 1)) := by
        rw [Int32.add_zero]; simp [cntN, h2]
      rw [← e] at K2
      exact K2
theorem x_namesKept {n : Nat} {a : Int32} (hn : σ 3 0 5 = nI n) (hn2 : n ≤ 30) : am_D l 32 [aR 3 0, aI a] σ τ (rX t) cX lX (some (aI (nI (cntN (fun c => decide (σ 0 c 1 = a ∧ σ 3 0 4 ≤ σ 0 c 15)) n)))) σ τ (rX t) := by
  refine am_D_of am_o32 am_l32 rfl ?_
  refine am_vc_ok am_k32 [4] 100 ?_
  refine x_namesKept_loop hn hn2 ?_ n 0 (by omega)
  refine am_vc_ok am_k32 [4] 100 ?_
  exact am_vI am_k32 am_r32 rfl ⟨rfl, rfl, rfl, rfl, rfl, rfl⟩
theorem m_keptAt_loop {Q : tQ} {n : Nat} {a : Int32} (hn : σ 12 0 34 = nI n) (hn2 : n ≤ 30) (K : am_G l 237 Q 0 0 44 [(3, aI (nI n)), (2, aI (nI (cntN (fun c => decide (σ 66 0 c = a ∧ σ 12 0 5 ≤ σ 79 0 c)) n))), (0, aR 12 0), (1, aI a)] [] σ τ (rX t) cX lX) : ∀ (d c : Nat), c + d = n → am_G l 237 Q 0 0 4 [(3, aI (nI c)), (2, aI (nI (cntN (fun c => decide (σ 66 0 c = a ∧ σ 12 0 5 ≤ σ 79 0 c)) c))), (0, aR 12 0), (1, aI a)] [] σ τ (rX t) cX lX
  | 0, c, h => by
    obtain rfl : c = n := by omega
    refine am_vc_ok am_k237 [4, 44] 100 ?_
    refine And.intro (fun _ => K) (fun h1 => absurd (by rw [hn]; exact Int32.le_refl _) h1)
  | d + 1, c, h => by
    have K2 := m_keptAt_loop hn hn2 K d (c + 1) (by omega)
    rw [← nI_1] at K2
    have hc : c < 30 := by omega
    refine am_vc_ok am_k237 [4, 44] 100 ?_
    refine And.intro (fun h1 => absurd h1 (by rw [hn]; exact nI_ge (by omega) (by omega))) (fun h1 => ?_)
    refine And.intro (vp_in_nI (N := 30) hc (by decide)) ?_
    rw [nI_clamp (by omega)]
    refine And.intro (fun h2 => ?_) (fun h2 => ?_)
    · have h2 : σ 66 0 c = a := h2
      refine am_vO am_k237 am_h237 rfl rfl rfl rfl (m_isKeptName hc) ?_
      refine am_vc_ok am_k237 [4, 44] 100 ?_
      refine And.intro (fun h3 => ?_) (fun h3 => ?_)
      · have h3 := bI_0.mp h3
        have e : nI (cntN (fun c => decide (σ 66 0 c = a ∧ σ 12 0 5 ≤ σ 79 0 c)) c) + 0 = nI (cntN (fun c => decide (σ 66 0 c = a ∧ σ 12 0 5 ≤ σ 79 0 c)) (c + 1)) := by
          rw [Int32.add_zero]; simp [cntN, h3]
        rw [← e] at K2
        exact K2
      · have h3 := bI_1.mp h3
        have e : nI (cntN (fun c => decide (σ 66 0 c = a ∧ σ 12 0 5 ≤ σ 79 0 c)) c) + 1 = nI (cntN (fun c => decide (σ 66 0 c = a ∧ σ 12 0 5 ≤ σ 79 0 c)) (c + 1)) := by
          rw [nI_1]; simp [cntN, h2, h3]
        rw [← e] at K2
        exact K2
    · have h2 : ¬ σ 66 0 c = a := h2
      have e : nI (cntN (fun c => decide (σ 66 0 c = a ∧ σ 12 0 5 ≤ σ 79 0 c)) c) + 0 = nI (cntN (fun c => decide (σ 66 0 c = a ∧ σ 12 0 5 ≤ σ 79 0 c)) (c + 1)) := by
        rw [Int32.add_zero]; simp [cntN, h2]
      rw [← e] at K2
      exact K2
theorem m_keptAt {n : Nat} {a : Int32} (hn : σ 12 0 34 = nI n) (hn2 : n ≤ 30) : am_D l 237 [aR 12 0, aI a] σ τ (rX t) cX lX (some (aI (nI (cntN (fun c => decide (σ 66 0 c = a ∧ σ 12 0 5 ≤ σ 79 0 c)) n)))) σ τ (rX t) := by
  refine am_D_of am_o237 am_l237 rfl ?_
  refine am_vc_ok am_k237 [4] 100 ?_
  refine m_keptAt_loop hn hn2 ?_ n 0 (by omega)
  refine am_vc_ok am_k237 [4] 100 ?_
  exact am_vI am_k237 am_r237 rfl ⟨rfl, rfl, rfl, rfl, rfl, rfl⟩
theorem x_kept_bad {a : Int32} (ha : ¬ (0 ≤ a ∧ a < 6)) : am_D l 127 [aR 11 0, aI a] σ τ (rX t) cX lX (some (aI (-1))) σ τ (rX t) := by
  refine am_D_of am_o127 am_l127 rfl ?_
  refine am_vc_ok am_k127 [] 100 ?_
  refine am_vS am_k127 am_h127 rfl rfl rfl rfl (x_within) ?_
  refine am_vc_ok am_k127 [] 100 ?_
  refine And.intro (fun h => ?_) (fun h => ?_)
  · exact am_vI am_k127 am_r127 rfl ⟨rfl, rfl, rfl, rfl, rfl, rfl⟩
  · exact absurd (bI_1.mp h) ha
theorem x_kept {a : Int32} {n : Nat} (ha : 0 ≤ a ∧ a < 6) (hn : σ 3 0 5 = nI n) (hn2 : n ≤ 30) : am_D l 127 [aR 11 0, aI a] σ τ (rX t) cX lX (some (aI (nI (cntN (fun c => decide (σ 0 c 1 = a ∧ σ 3 0 4 ≤ σ 0 c 15)) n)))) σ τ (rX t) := by
  refine am_D_of am_o127 am_l127 rfl ?_
  refine am_vc_ok am_k127 [] 100 ?_
  refine am_vS am_k127 am_h127 rfl rfl rfl rfl (x_within) ?_
  refine am_vc_ok am_k127 [] 100 ?_
  refine And.intro (fun h => ?_) (fun h => ?_)
  · exact absurd ha (bI_0.mp h)
  refine am_vO am_k127 am_h127 rfl rfl rfl rfl (x_namesKept hn hn2) ?_
  refine am_vc_ok am_k127 [] 100 ?_
  exact am_vI am_k127 am_r127 rfl ⟨rfl, rfl, rfl, rfl, rfl, rfl⟩
theorem m_kept_bad {a : Int32} (ha : ¬ (0 ≤ a ∧ a ≤ 5)) : am_D l 238 [aR 12 0, aI a] σ τ (rX t) cX lX (some (aI (-1))) σ τ (rX t) := by
  refine am_D_of am_o238 am_l238 rfl ?_
  refine am_vc_ok am_k238 [] 100 ?_
  refine am_vS am_k238 am_h238 rfl rfl rfl rfl (m_isSix) ?_
  refine am_vc_ok am_k238 [] 100 ?_
  refine And.intro (fun h => ?_) (fun h => ?_)
  · exact am_vI am_k238 am_r238 rfl ⟨rfl, rfl, rfl, rfl, rfl, rfl⟩
  · exact absurd (bI_1.mp h) ha
theorem m_kept {a : Int32} {n : Nat} (ha : 0 ≤ a ∧ a ≤ 5) (hn : σ 12 0 34 = nI n) (hn2 : n ≤ 30) : am_D l 238 [aR 12 0, aI a] σ τ (rX t) cX lX (some (aI (nI (cntN (fun c => decide (σ 66 0 c = a ∧ σ 12 0 5 ≤ σ 79 0 c)) n)))) σ τ (rX t) := by
  refine am_D_of am_o238 am_l238 rfl ?_
  refine am_vc_ok am_k238 [] 100 ?_
  refine am_vS am_k238 am_h238 rfl rfl rfl rfl (m_isSix) ?_
  refine am_vc_ok am_k238 [] 100 ?_
  refine And.intro (fun h => ?_) (fun h => ?_)
  · exact absurd ha (bI_0.mp h)
  refine am_vO am_k238 am_h238 rfl rfl rfl rfl (m_keptAt hn hn2) ?_
  refine am_vc_ok am_k238 [] 100 ?_
  exact am_vI am_k238 am_r238 rfl ⟨rfl, rfl, rfl, rfl, rfl, rfl⟩
theorem Rnet.kept {T n m lo k : Nat} (h : Rnet σ T n m lo k) (a : Int32) : cntN (fun c => decide (σ 66 0 c = a ∧ σ 12 0 5 ≤ σ 79 0 c)) n = cntN (fun c => decide (σ 0 c 1 = a ∧ σ 3 0 4 ≤ σ 0 c 15)) n := by
  refine cntN_cg (fun c hc => ?_)
  obtain ⟨⟨-, h1, -, -, -, -, -, -, -, -, -, -, -, h15, -⟩, -⟩ := h.2.2.1 c hc
  rw [h1, h15, h.1.1, h.1.2.1]
theorem LC_kept (h : Rall σ τ) (a : Int32) : LC l 127 238 [aI a] σ τ t := by
  have hR := h
  obtain ⟨-, -, -, -, -, -, T, n, m, lo, k, hN⟩ := h
  have hn := hN.2.1
  by_cases ha : 0 ≤ a ∧ a < 6
  · have hm := m_kept (l := l) (σ := σ) (τ := τ) (t := t) (le5 ha) hn.2.1 hn.2.2
    rw [hN.kept a] at hm
    exact LC.of (x_kept ha hn.1 hn.2.2) hm hR
  · exact LC.of (x_kept_bad ha) (m_kept_bad (not6 ha)) hR
-- mark
theorem x_isOf {f : Nat} {q : Int32} (hf : f < 690) : am_D l 7 [aR 1 0, aI (nI f), aI q] σ τ (rX t) cX lX (some (aI (bI (σ 14 0 f = q ∨ (σ 14 0 f = 3 ∧ q = 2) ∨ (σ 14 0 f = 6 ∧ q = 1))))) σ τ (rX t) := by
  refine am_D_of am_o7 am_l7 rfl ?_
  refine am_vc_ok am_k7 [] 100 ?_
  refine And.intro (vp_in_nI (N := 690) hf (by decide)) ?_
  rw [nI_clamp (by omega)]
  generalize σ 14 0 f = o
  refine And.intro (fun h1 => ?_) (fun h1 => ?_)
  · rw [bI_t (Or.inl h1)]
    exact am_vZ am_k7 am_r7 rfl (Or.inr rfl) ⟨rfl, rfl, rfl, rfl, rfl, rfl⟩
  refine And.intro (fun h2 => ?_) (fun h2 => ?_)
  · refine And.intro (fun h3 => ?_) (fun h3 => ?_)
    · rw [bI_t (Or.inr (Or.inl ⟨h2, h3⟩))]
      exact am_vZ am_k7 am_r7 rfl (Or.inr rfl) ⟨rfl, rfl, rfl, rfl, rfl, rfl⟩
    refine And.intro (fun h4 => ?_) (fun h4 => ?_)
    · exact absurd (h2.symm.trans h4) (by decide)
    · rw [bI_f (by rintro (z | ⟨-, z⟩ | ⟨z, -⟩); exact h1 z; exact h3 z; exact h4 z)]
      exact am_vZ am_k7 am_r7 rfl (Or.inl rfl) ⟨rfl, rfl, rfl, rfl, rfl, rfl⟩
  refine And.intro (fun h4 => ?_) (fun h4 => ?_)
  · refine And.intro (fun h5 => ?_) (fun h5 => ?_)
    · rw [bI_t (Or.inr (Or.inr ⟨h4, h5⟩))]
      exact am_vZ am_k7 am_r7 rfl (Or.inr rfl) ⟨rfl, rfl, rfl, rfl, rfl, rfl⟩
    · rw [bI_f (by rintro (z | ⟨z, -⟩ | ⟨-, z⟩); exact h1 z; exact h2 z; exact h5 z)]
      exact am_vZ am_k7 am_r7 rfl (Or.inl rfl) ⟨rfl, rfl, rfl, rfl, rfl, rfl⟩
  · rw [bI_f (by rintro (z | ⟨z, -⟩ | ⟨z, -⟩); exact h1 z; exact h2 z; exact h4 z)]
    exact am_vZ am_k7 am_r7 rfl (Or.inl rfl) ⟨rfl, rfl, rfl, rfl, rfl, rfl⟩
theorem x_tells {f : Nat} {q : Int32} (hf : f < 690) : am_D l 8 [aR 1 0, aI (nI f), aI q] σ τ (rX t) cX lX (some (aI (if q = 1 ∨ q = 2 then σ 19 0 f else σ 20 0 f))) σ τ (rX t) := by
  refine am_D_of am_o8 am_l8 rfl ?_
  refine am_vc_ok am_k8 [] 100 ?_
  refine And.intro (fun h1 => ?_) (fun h1 => ?_)
  · rw [if_pos (Or.inl h1)]
    refine And.intro (vp_in_nI (N := 690) hf (by decide)) ?_
    rw [nI_clamp (by omega)]
    exact am_vI am_k8 am_r8 rfl ⟨rfl, rfl, rfl, rfl, rfl, rfl⟩
  refine And.intro (fun h2 => ?_) (fun h2 => ?_)
  · rw [if_pos (Or.inr h2)]
    refine And.intro (vp_in_nI (N := 690) hf (by decide)) ?_
    rw [nI_clamp (by omega)]
    exact am_vI am_k8 am_r8 rfl ⟨rfl, rfl, rfl, rfl, rfl, rfl⟩
  · rw [if_neg (by rintro (z | z); exact h1 z; exact h2 z)]
    refine And.intro (vp_in_nI (N := 690) hf (by decide)) ?_
    rw [nI_clamp (by omega)]
    exact am_vI am_k8 am_r8 rfl ⟨rfl, rfl, rfl, rfl, rfl, rfl⟩
theorem x_mark_bad {c w : Int32} (h : ¬ (0 ≤ c ∧ c < σ 1 0 0) ∨ ¬ (1 ≤ w ∧ w ≤ 6)) : am_D l 129 [aR 11 0, aI c, aI w] σ τ (rX t) cX lX (some (aI (-1))) σ τ (rX t) := by
  refine am_D_of am_o129 am_l129 rfl ?_
  refine am_vc_ok am_k129 [] 100 ?_
  refine am_vS am_k129 am_h129 rfl rfl rfl rfl (x_within) ?_
  refine am_vc_ok am_k129 [] 100 ?_
  refine And.intro (fun h1 => ?_) (fun h1 => ?_)
  · exact am_vI am_k129 am_r129 rfl ⟨rfl, rfl, rfl, rfl, rfl, rfl⟩
  refine And.intro (fun h2 => ?_) (fun h2 => ?_)
  · exact am_vI am_k129 am_r129 rfl ⟨rfl, rfl, rfl, rfl, rfl, rfl⟩
  refine And.intro (fun h3 => ?_) (fun h3 => ?_)
  · rcases h with h | h
    · exact absurd (bI_1.mp h1) h
    · exact absurd ⟨Int32.not_lt.mp h2, h3⟩ h
  · exact am_vI am_k129 am_r129 rfl ⟨rfl, rfl, rfl, rfl, rfl, rfl⟩
theorem x_mark {f m : Nat} {q : Int32} (hn : σ 1 0 0 = nI m) (hn2 : m ≤ 690) (hf : f < m) (hq : 1 ≤ q ∧ q ≤ 6) : am_D l 129 [aR 11 0, aI (nI f), aI q] σ τ (rX t) cX lX (some (aI (if σ 14 0 f = q ∨ (σ 14 0 f = 3 ∧ q = 2) ∨ (σ 14 0 f = 6 ∧ q = 1) then (if q = 1 ∨ q = 2 then σ 19 0 f else σ 20 0 f) else -3))) (if σ 14 0 f = q ∨ (σ 14 0 f = 3 ∧ q = 2) ∨ (σ 14 0 f = 6 ∧ q = 1) then σ else xfind 3 σ) τ (rX t) := by
  refine am_D_of am_o129 am_l129 rfl ?_
  refine am_vc_ok am_k129 [] 100 ?_
  refine am_vS am_k129 am_h129 rfl rfl rfl rfl (x_within) ?_
  refine am_vc_ok am_k129 [] 100 ?_
  refine And.intro (fun h1 => ?_) (fun h1 => ?_)
  · exact absurd (by rw [hn]; exact inN hf (by omega)) (bI_0.mp h1)
  refine And.intro (fun g => absurd hq.1 (Int32.not_le.mpr g)) (fun _ => ?_)
  refine And.intro (fun _ => ?_) (fun g => absurd hq.2 g)
  refine am_vO am_k129 am_h129 rfl rfl rfl rfl (x_isOf (by omega)) ?_
  refine am_vc_ok am_k129 [] 100 ?_
  refine And.intro (fun h2 => ?_) (fun h2 => ?_)
  · simp only [if_neg (bI_0.mp h2)]
    refine am_vO am_k129 am_h129 rfl rfl rfl rfl (x_find (w := 3) (by decide)) ?_
    refine am_vc_ok am_k129 [] 100 ?_
    exact am_vI am_k129 am_r129 rfl ⟨rfl, rfl, rfl, rfl, rfl, rfl⟩
  · simp only [if_pos (bI_1.mp h2)]
    refine am_vO am_k129 am_h129 rfl rfl rfl rfl (x_tells (by omega)) ?_
    refine am_vc_ok am_k129 [] 100 ?_
    exact am_vI am_k129 am_r129 rfl ⟨rfl, rfl, rfl, rfl, rfl, rfl⟩
theorem m_mark_bad {c w : Int32} (h : ¬ (0 ≤ c ∧ c ≤ σ 12 0 54 - 1) ∨ ¬ (1 ≤ w ∧ w ≤ 6)) : am_D l 241 [aR 12 0, aI c, aI w] σ τ (rX t) cX lX (some (aI (-1))) σ τ (rX t) := by
  refine am_D_of am_o241 am_l241 rfl ?_
  refine am_vc_ok am_k241 [] 100 ?_
  refine am_vS am_k241 am_h241 rfl rfl rfl rfl (m_in) ?_
  refine am_vc_ok am_k241 [] 100 ?_
  refine And.intro (fun h1 => ?_) (fun h1 => ?_)
  · exact am_vI am_k241 am_r241 rfl ⟨rfl, rfl, rfl, rfl, rfl, rfl⟩
  refine am_vS am_k241 am_h241 rfl rfl rfl rfl (m_in) ?_
  refine am_vc_ok am_k241 [] 100 ?_
  refine And.intro (fun h2 => ?_) (fun h2 => ?_)
  · exact am_vI am_k241 am_r241 rfl ⟨rfl, rfl, rfl, rfl, rfl, rfl⟩
  · rcases h with h | h
    · exact absurd (bI_1.mp h1) h
    · exact absurd (bI_1.mp h2) h
theorem m_mark_end {f : Nat} {q o : Int32} {Q : tQ} (hf : f < 1200) (hQ : Q (some (aI (if q = 1 ∨ q = 2 then σ 89 0 f else σ 90 0 f))) σ τ (rX t) cX lX) : am_G l 241 Q 0 0 65 [(3, aI o), (0, aR 12 0), (1, aI (nI f)), (2, aI q)] [] σ τ (rX t) cX lX := by
  refine am_vc_ok am_k241 [] 100 ?_
  refine And.intro (fun h1 => ?_) (fun h1 => ?_)
  · rw [if_pos (Or.inl h1)] at hQ
    refine And.intro (vp_in_nI (N := 1200) hf (by decide)) ?_
    rw [nI_clamp (by omega)]
    exact am_vI am_k241 am_r241 rfl hQ
  refine And.intro (fun h2 => ?_) (fun h2 => ?_)
  · rw [if_pos (Or.inr h2)] at hQ
    refine And.intro (vp_in_nI (N := 1200) hf (by decide)) ?_
    rw [nI_clamp (by omega)]
    exact am_vI am_k241 am_r241 rfl hQ
  · rw [if_neg (by rintro (z | z); exact h1 z; exact h2 z)] at hQ
    refine And.intro (vp_in_nI (N := 1200) hf (by decide)) ?_
    rw [nI_clamp (by omega)]
    exact am_vI am_k241 am_r241 rfl hQ
theorem m_mark {f m : Nat} {q : Int32} (hn : σ 12 0 54 = nI m) (hn2 : m ≤ 690) (hf : f < m) (hq : 1 ≤ q ∧ q ≤ 6) : am_D l 241 [aR 12 0, aI (nI f), aI q] σ τ (rX t) cX lX (some (aI (if σ 84 0 f = q ∨ (σ 84 0 f = 3 ∧ q = 2) ∨ (σ 84 0 f = 6 ∧ q = 1) then (if q = 1 ∨ q = 2 then σ 89 0 f else σ 90 0 f) else -3))) (if σ 84 0 f = q ∨ (σ 84 0 f = 3 ∧ q = 2) ∨ (σ 84 0 f = 6 ∧ q = 1) then σ else mmeets 3 σ) τ (rX t) := by
  refine am_D_of am_o241 am_l241 rfl ?_
  refine am_vc_ok am_k241 [65] 100 ?_
  refine am_vS am_k241 am_h241 rfl rfl rfl rfl (m_in) ?_
  refine am_vc_ok am_k241 [65] 100 ?_
  refine And.intro (fun h1 => ?_) (fun h1 => ?_)
  · exact absurd (by rw [hn]; exact (le_pred2 (by omega)).mpr (inN hf (by omega))) (bI_0.mp h1)
  refine am_vS am_k241 am_h241 rfl rfl rfl rfl (m_in) ?_
  refine am_vc_ok am_k241 [65] 100 ?_
  refine And.intro (fun h2 => ?_) (fun h2 => ?_)
  · exact absurd hq (bI_0.mp h2)
  refine And.intro (vp_in_nI (N := 1200) (by omega) (by decide)) ?_
  rw [nI_clamp (by omega)]
  generalize ho : σ 84 0 f = o
  refine And.intro (fun h3 => ?_) (fun h3 => ?_)
  · simp only [if_pos (Or.inl h3 : o = q ∨ (o = 3 ∧ q = 2) ∨ (o = 6 ∧ q = 1))]
    exact m_mark_end (by omega) ⟨rfl, rfl, rfl, rfl, rfl, rfl⟩
  refine And.intro (fun h4 => ?_) (fun h4 => ?_)
  · refine And.intro (fun h5 => ?_) (fun h5 => ?_)
    · simp only [if_pos (Or.inr (Or.inr ⟨h5, h4⟩) : o = q ∨ (o = 3 ∧ q = 2) ∨ (o = 6 ∧ q = 1))]
      exact m_mark_end (by omega) ⟨rfl, rfl, rfl, rfl, rfl, rfl⟩
    refine And.intro (fun h6 => ?_) (fun h6 => ?_)
    · exact absurd (h4.symm.trans h6) (by decide)
    · have e : ¬ (o = q ∨ (o = 3 ∧ q = 2) ∨ (o = 6 ∧ q = 1)) := by rintro (z | ⟨-, z⟩ | ⟨z, -⟩); exact h3 z; exact h6 z; exact h5 z
      simp only [if_neg e]
      refine am_vO am_k241 am_h241 rfl rfl rfl rfl (m_meets (w := 3) (by decide)) ?_
      refine am_vc_ok am_k241 [65] 100 ?_
      exact am_vI am_k241 am_r241 rfl ⟨rfl, rfl, rfl, rfl, rfl, rfl⟩
  refine And.intro (fun h6 => ?_) (fun h6 => ?_)
  · refine And.intro (fun h7 => ?_) (fun h7 => ?_)
    · simp only [if_pos (Or.inr (Or.inl ⟨h7, h6⟩) : o = q ∨ (o = 3 ∧ q = 2) ∨ (o = 6 ∧ q = 1))]
      exact m_mark_end (by omega) ⟨rfl, rfl, rfl, rfl, rfl, rfl⟩
    · have e : ¬ (o = q ∨ (o = 3 ∧ q = 2) ∨ (o = 6 ∧ q = 1)) := by rintro (z | ⟨z, -⟩ | ⟨-, z⟩); exact h3 z; exact h7 z; exact h4 z
      simp only [if_neg e]
      refine am_vO am_k241 am_h241 rfl rfl rfl rfl (m_meets (w := 3) (by decide)) ?_
      refine am_vc_ok am_k241 [65] 100 ?_
      exact am_vI am_k241 am_r241 rfl ⟨rfl, rfl, rfl, rfl, rfl, rfl⟩
  · have e : ¬ (o = q ∨ (o = 3 ∧ q = 2) ∨ (o = 6 ∧ q = 1)) := by rintro (z | ⟨-, z⟩ | ⟨-, z⟩); exact h3 z; exact h6 z; exact h4 z
    simp only [if_neg e]
    refine am_vO am_k241 am_h241 rfl rfl rfl rfl (m_meets (w := 3) (by decide)) ?_
    refine am_vc_ok am_k241 [65] 100 ?_
    exact am_vI am_k241 am_r241 rfl ⟨rfl, rfl, rfl, rfl, rfl, rfl⟩
theorem LC_mark (h : Rall σ τ) (c w : Int32) : LC l 129 241 [aI c, aI w] σ τ t := by
  have hR := h
  obtain ⟨-, -, -, -, -, -, T, n, m, lo, k, hN⟩ := h
  have hm6 := hN.m_le
  have hf := hN.2.2.2.2.2.2.2.1
  have hm := hN.2.2.2.2.2.2.1
  by_cases hc : 0 ≤ c ∧ c < nI m
  · by_cases hw : 1 ≤ w ∧ w ≤ 6
    · obtain ⟨c, hc1, rfl⟩ := ix_lt (nI_toInt (by omega)) hc
      have hx := x_mark (l := l) (τ := τ) (t := t) hm.1 hm6 hc1 hw
      obtain ⟨e0, -, -, -, -, e5, e6⟩ := (hf c hc1).1
      by_cases hk : σ 14 0 c = w ∨ (σ 14 0 c = 3 ∧ w = 2) ∨ (σ 14 0 c = 6 ∧ w = 1)
      · simp only [if_pos hk] at hx
        have hmm := m_mark (l := l) (σ := σ) (τ := τ) (t := t) hm.2 hm6 hc1 hw
        rw [← e0] at hmm
        simp only [if_pos hk] at hmm
        have e7 : (if w = 1 ∨ w = 2 then σ 89 0 c else σ 90 0 c) = (if w = 1 ∨ w = 2 then σ 19 0 c else σ 20 0 c) := by
          by_cases hz : w = 1 ∨ w = 2
          · rw [if_pos hz, if_pos hz, e5]
          · rw [if_neg hz, if_neg hz, e6]
            intro z
            rw [← e0] at z
            rcases hk with hk | ⟨hk, -⟩ | ⟨hk, -⟩
            · exact hz (Or.inl (hk.symm.trans z))
            · exact absurd (hk.symm.trans z) (by decide)
            · exact absurd (hk.symm.trans z) (by decide)
        rw [e7] at hmm
        exact LC.of hx hmm hR
      · simp only [if_neg hk] at hx
        have hmm := m_mark (l := l) (σ := xfind 3 σ) (τ := τ) (t := t) (by simp [u3, hm.2]) hm6 hc1 hw
        have e8 : (xfind 3 σ) 84 0 c = σ 14 0 c := by simp [u3, e0]
        rw [e8] at hmm
        simp only [if_neg hk] at hmm
        exact LC.of hx hmm (hR.find (by decide))
    · exact LC.of (x_mark_bad (Or.inr hw)) (m_mark_bad (Or.inr hw)) hR
  · exact LC.of (x_mark_bad (Or.inl (by rw [hm.1]; exact hc))) (m_mark_bad (Or.inl (by rw [hm.2]; exact fun z => hc ((le_pred2 (by omega)).mp z)))) hR
end L5

/-! CASES OF THE LAW: version, service -/
section L6
variable {l : Launch} {σ σ2 : tI} {τ τ2 : tL} {t : Option (Nat × Nat)}
theorem x_version_bad {a v w : Int32} (h : ¬ ((0 ≤ a ∧ a < 6) ∧ (0 ≤ v ∧ v < 10) ∧ (0 ≤ w ∧ w < 10))) : am_D l 111 [aR 11 0, aI a, aI v, aI w] σ τ (rX t) cX lX (some (aI (-1))) σ τ (rX t) := by
  refine am_D_of am_o111 am_l111 rfl ?_
  refine am_vc_ok am_k111 [] 100 ?_
  refine am_vS am_k111 am_h111 rfl rfl rfl rfl (x_within) ?_
  refine am_vc_ok am_k111 [] 100 ?_
  refine And.intro (fun h1 => ?_) (fun h1 => ?_)
  · exact am_vI am_k111 am_r111 rfl ⟨rfl, rfl, rfl, rfl, rfl, rfl⟩
  refine am_vS am_k111 am_h111 rfl rfl rfl rfl (x_within) ?_
  refine am_vc_ok am_k111 [] 100 ?_
  refine And.intro (fun h2 => ?_) (fun h2 => ?_)
  · exact am_vI am_k111 am_r111 rfl ⟨rfl, rfl, rfl, rfl, rfl, rfl⟩
  refine am_vS am_k111 am_h111 rfl rfl rfl rfl (x_within) ?_
  refine am_vc_ok am_k111 [] 100 ?_
  refine And.intro (fun h3 => ?_) (fun h3 => ?_)
  · exact am_vI am_k111 am_r111 rfl ⟨rfl, rfl, rfl, rfl, rfl, rfl⟩
  · exact absurd ⟨bI_1.mp h1, bI_1.mp h2, bI_1.mp h3⟩ h
theorem x_version {a : Nat} {v w : Int32} (ha : a < 6) (hv : 0 ≤ v ∧ v < 10) (hw : 0 ≤ w ∧ w < 10) : am_D l 111 [aR 11 0, aI (nI a), aI v, aI w] σ τ (rX t) cX lX (some (aI 1)) (u3 (u3 σ 8 a 0 v) 8 a 1 w) τ (rX t) := by
  refine am_D_of am_o111 am_l111 rfl ?_
  refine am_vc_ok am_k111 [] 100 ?_
  refine am_vS am_k111 am_h111 rfl rfl rfl rfl (x_within) ?_
  refine am_vc_ok am_k111 [] 100 ?_
  refine And.intro (fun h1 => ?_) (fun h1 => ?_)
  · exact absurd (in6 ha) (bI_0.mp h1)
  refine am_vS am_k111 am_h111 rfl rfl rfl rfl (x_within) ?_
  refine am_vc_ok am_k111 [] 100 ?_
  refine And.intro (fun h2 => ?_) (fun h2 => ?_)
  · exact absurd hv (bI_0.mp h2)
  refine am_vS am_k111 am_h111 rfl rfl rfl rfl (x_within) ?_
  refine am_vc_ok am_k111 [] 100 ?_
  refine And.intro (fun h3 => ?_) (fun h3 => ?_)
  · exact absurd hw (bI_0.mp h3)
  refine And.intro (vp_in_nI (N := 6) ha (by decide)) ?_
  rw [nI_clamp (by omega)]
  refine And.intro (vp_in_nI (N := 6) ha (by decide)) ?_
  rw [nI_clamp (by omega)]
  exact am_vI am_k111 am_r111 rfl ⟨rfl, rfl, rfl, rfl, rfl, rfl⟩
theorem m_version_bad {a v w : Int32} (h : ¬ ((0 ≤ a ∧ a ≤ 5) ∧ (0 ≤ v ∧ v ≤ 9) ∧ (0 ≤ w ∧ w ≤ 9))) : am_D l 197 [aR 12 0, aI a, aI v, aI w] σ τ (rX t) cX lX (some (aI (-1))) σ τ (rX t) := by
  refine am_D_of am_o197 am_l197 rfl ?_
  refine am_vc_ok am_k197 [] 100 ?_
  refine am_vS am_k197 am_h197 rfl rfl rfl rfl (m_isSix) ?_
  refine am_vc_ok am_k197 [] 100 ?_
  refine And.intro (fun h1 => ?_) (fun h1 => ?_)
  · exact am_vI am_k197 am_r197 rfl ⟨rfl, rfl, rfl, rfl, rfl, rfl⟩
  refine am_vS am_k197 am_h197 rfl rfl rfl rfl (m_isVersion) ?_
  refine am_vc_ok am_k197 [] 100 ?_
  refine And.intro (fun h2 => ?_) (fun h2 => ?_)
  · exact am_vI am_k197 am_r197 rfl ⟨rfl, rfl, rfl, rfl, rfl, rfl⟩
  refine am_vS am_k197 am_h197 rfl rfl rfl rfl (m_isVersion) ?_
  refine am_vc_ok am_k197 [] 100 ?_
  refine And.intro (fun h3 => ?_) (fun h3 => ?_)
  · exact am_vI am_k197 am_r197 rfl ⟨rfl, rfl, rfl, rfl, rfl, rfl⟩
  · exact absurd ⟨bI_1.mp h1, bI_1.mp h2, bI_1.mp h3⟩ h
theorem m_version {a : Nat} {v w : Int32} (ha : a < 6) (hv : 0 ≤ v ∧ v ≤ 9) (hw : 0 ≤ w ∧ w ≤ 9) : am_D l 197 [aR 12 0, aI (nI a), aI v, aI w] σ τ (rX t) cX lX (some (aI 1)) (u3 (u3 σ 57 0 a v) 58 0 a w) τ (rX t) := by
  refine am_D_of am_o197 am_l197 rfl ?_
  refine am_vc_ok am_k197 [] 100 ?_
  refine am_vS am_k197 am_h197 rfl rfl rfl rfl (m_isSix) ?_
  refine am_vc_ok am_k197 [] 100 ?_
  refine And.intro (fun h1 => ?_) (fun h1 => ?_)
  · exact absurd (in5 ha) (bI_0.mp h1)
  refine am_vS am_k197 am_h197 rfl rfl rfl rfl (m_isVersion) ?_
  refine am_vc_ok am_k197 [] 100 ?_
  refine And.intro (fun h2 => ?_) (fun h2 => ?_)
  · exact absurd hv (bI_0.mp h2)
  refine am_vS am_k197 am_h197 rfl rfl rfl rfl (m_isVersion) ?_
  refine am_vc_ok am_k197 [] 100 ?_
  refine And.intro (fun h3 => ?_) (fun h3 => ?_)
  · exact absurd hw (bI_0.mp h3)
  refine And.intro (vp_in_nI (N := 6) ha (by decide)) ?_
  rw [nI_clamp (by omega)]
  refine And.intro (vp_in_nI (N := 6) ha (by decide)) ?_
  rw [nI_clamp (by omega)]
  exact am_vI am_k197 am_r197 rfl ⟨rfl, rfl, rfl, rfl, rfl, rfl⟩
/-- only services' versions may have changed -/
theorem Rall.vers {σ σ2 : tI} {τ : tL} (h : Rall σ τ) (hk : ∀ k, k ≠ 8 → k ≠ 57 → k ≠ 58 → σ2 k = σ k) (h8 : ∀ a j, 2 ≤ j → σ2 8 a j = σ 8 a j) (hs : Rserv σ2) : Rall σ2 τ := by
  obtain ⟨h1, h2, h3, h4, -, h6, T, n, m, lo, kk, h7⟩ := h
  have g : ∀ k, k ≠ 8 ∧ k ≠ 57 ∧ k ≠ 58 → σ2 k = σ k := fun k ⟨a1, a2, a3⟩ => hk k a1 a2 a3
  exact ⟨h1.fr (fun r _ => by rw [g 6 (by decide)]) (fun r _ => by rw [g 30 (by decide)]) (g 44 (by decide)) (g 45 (by decide)), h2.fr (fun r _ => by rw [g 6 (by decide)]) (fun r _ => by rw [g 30 (by decide)]) (g 47 (by decide)) (g 48 (by decide)), h3.fr (fun k z => g k ⟨kNe z rfl, kNe z rfl, kNe z rfl⟩), h4.fr (g 4 (by decide)) (g 55 (by decide)) (g 56 (by decide)) (by rw [g 6 (by decide)]) (by rw [g 30 (by decide)]) (by rw [g 12 (by decide)]), hs, h6.fr (g 11 (by decide)) (g 42 (by decide)) (g 43 (by decide)) (by rw [g 12 (by decide)]) (by rw [g 12 (by decide)]), T, n, m, lo, kk, h7.fr (fun k z => g k ⟨kNe z rfl, kNe z rfl, kNe z rfl⟩) (fun j _ => by rw [g 12 (by decide)]) (fun a j _ hj => h8 a j hj)⟩
theorem LC_version (h : Rall σ τ) (a v w : Int32) : LC l 111 197 [aI a, aI v, aI w] σ τ t := by
  have e10 : ∀ x : Int32, (0 ≤ x ∧ x ≤ 9) ↔ (0 ≤ x ∧ x < 10) := fun x => leN (n := 10) (N := 10) (by decide) (by decide)
  by_cases hc : (0 ≤ a ∧ a < 6) ∧ (0 ≤ v ∧ v < 10) ∧ (0 ≤ w ∧ w < 10)
  · obtain ⟨ha, hv, hw⟩ := hc
    obtain ⟨a, ha1, rfl⟩ := ix_lt (n := 6) (by decide) ha
    refine LC.of (x_version ha1 hv hw) (m_version ha1 ((e10 v).mpr hv) ((e10 w).mpr hw)) ?_
    obtain ⟨v, hv1, rfl⟩ := ix_lt (n := 10) (by decide) hv
    obtain ⟨w, hw1, rfl⟩ := ix_lt (n := 10) (by decide) hw
    refine h.vers (fun k a1 a2 a3 => ?_) (fun b j hj => ?_) (fun b hb => ?_)
    · rw [u3_kk _ _ a3, u3_kk _ _ a2, u3_kk _ _ a1, u3_kk _ _ a1]
    · simp [u3, show j ≠ 0 by omega, show j ≠ 1 by omega]
    · obtain ⟨g1, g2⟩ := h.2.2.2.2.1 b hb
      refine ⟨?_, fun c hc => ?_⟩
      · by_cases e : b = a
        · subst e
          exact ⟨v, w, hv1, hw1, by simp [u3], by simp [u3], by simp [u3], by simp [u3]⟩
        · obtain ⟨x, y, x1, y1, q1, q2, q3, q4⟩ := g1
          exact ⟨x, y, x1, y1, by simpa [u3, e] using q1, by simpa [u3, e] using q2, by simpa [u3, e] using q3, by simpa [u3, e] using q4⟩
      · simpa [u3] using g2 c hc
  · refine LC.of (x_version_bad hc) (m_version_bad ?_) h
    rintro ⟨z1, z2, z3⟩
    exact hc ⟨by
      obtain ⟨j, hj, rfl⟩ := ix_le (n := 6) (by decide) z1
      exact in6 hj, (e10 v).mp z2, (e10 w).mp z3⟩
theorem x_service_bad {a x y z : Int32} (h : ¬ ((0 ≤ a ∧ a < 6) ∧ (1 ≤ x ∧ x ≤ 3) ∧ (0 ≤ y ∧ y ≤ 9) ∧ (0 ≤ z ∧ z ≤ 99))) : am_D l 117 [aR 11 0, aI a, aI x, aI y, aI z] σ τ (rX t) cX lX (some (aI (-1))) σ τ (rX t) := by
  refine am_D_of am_o117 am_l117 rfl ?_
  refine am_vc_ok am_k117 [] 100 ?_
  refine am_vS am_k117 am_h117 rfl rfl rfl rfl (x_within) ?_
  refine am_vc_ok am_k117 [] 100 ?_
  refine And.intro (fun h1 => ?_) (fun h1 => ?_)
  · exact am_vI am_k117 am_r117 rfl ⟨rfl, rfl, rfl, rfl, rfl, rfl⟩
  refine And.intro (fun h2 => ?_) (fun h2 => ?_)
  · exact am_vI am_k117 am_r117 rfl ⟨rfl, rfl, rfl, rfl, rfl, rfl⟩
  refine And.intro (fun h3 => ?_) (fun h3 => ?_)
  · refine And.intro (fun h4 => ?_) (fun h4 => ?_)
    · exact am_vI am_k117 am_r117 rfl ⟨rfl, rfl, rfl, rfl, rfl, rfl⟩
    refine And.intro (fun h5 => ?_) (fun h5 => ?_)
    · exact am_vI am_k117 am_r117 rfl ⟨rfl, rfl, rfl, rfl, rfl, rfl⟩
    refine And.intro (fun h6 => ?_) (fun h6 => ?_)
    · exact am_vI am_k117 am_r117 rfl ⟨rfl, rfl, rfl, rfl, rfl, rfl⟩
    refine And.intro (fun h7 => ?_) (fun h7 => ?_)
    · exact absurd ⟨bI_1.mp h1, ⟨Int32.not_lt.mp h2, h3⟩, ⟨Int32.not_lt.mp h4, Int32.not_lt.mp h5⟩, ⟨Int32.not_lt.mp h6, h7⟩⟩ h
    · exact am_vI am_k117 am_r117 rfl ⟨rfl, rfl, rfl, rfl, rfl, rfl⟩
  · exact am_vI am_k117 am_r117 rfl ⟨rfl, rfl, rfl, rfl, rfl, rfl⟩
theorem x_service {a : Nat} {x y z : Int32} (ha : a < 6) (hx : 1 ≤ x ∧ x ≤ 3) (hy : 0 ≤ y ∧ y ≤ 9) (hz : 0 ≤ z ∧ z ≤ 99) : am_D l 117 [aR 11 0, aI (nI a), aI x, aI y, aI z] σ τ (rX t) cX lX (some (aI 1)) (u3 (u3 (u3 σ 8 a 2 x) 8 a 3 y) 8 a 4 z) τ (rX t) := by
  refine am_D_of am_o117 am_l117 rfl ?_
  refine am_vc_ok am_k117 [] 100 ?_
  refine am_vS am_k117 am_h117 rfl rfl rfl rfl (x_within) ?_
  refine am_vc_ok am_k117 [] 100 ?_
  refine And.intro (fun h1 => ?_) (fun h1 => ?_)
  · exact absurd (in6 ha) (bI_0.mp h1)
  refine And.intro (fun g => absurd hx.1 (Int32.not_le.mpr g)) (fun _ => ?_)
  refine And.intro (fun _ => ?_) (fun g => absurd hx.2 g)
  refine And.intro (fun g => absurd hy.1 (Int32.not_le.mpr g)) (fun _ => ?_)
  refine And.intro (fun g => absurd hy.2 (Int32.not_le.mpr g)) (fun _ => ?_)
  refine And.intro (fun g => absurd hz.1 (Int32.not_le.mpr g)) (fun _ => ?_)
  refine And.intro (fun _ => ?_) (fun g => absurd hz.2 g)
  refine And.intro (vp_in_nI (N := 6) ha (by decide)) ?_
  rw [nI_clamp (by omega)]
  refine And.intro (vp_in_nI (N := 6) ha (by decide)) ?_
  rw [nI_clamp (by omega)]
  refine And.intro (vp_in_nI (N := 6) ha (by decide)) ?_
  rw [nI_clamp (by omega)]
  exact am_vI am_k117 am_r117 rfl ⟨rfl, rfl, rfl, rfl, rfl, rfl⟩
theorem m_service_bad {a x y z : Int32} (h : ¬ ((0 ≤ a ∧ a ≤ 5) ∧ (1 ≤ x ∧ x ≤ 3) ∧ (0 ≤ y ∧ y ≤ 9) ∧ (0 ≤ z ∧ z ≤ 99))) : am_D l 208 [aR 12 0, aI a, aI x, aI y, aI z] σ τ (rX t) cX lX (some (aI (-1))) σ τ (rX t) := by
  refine am_D_of am_o208 am_l208 rfl ?_
  refine am_vc_ok am_k208 [] 100 ?_
  refine am_vS am_k208 am_h208 rfl rfl rfl rfl (m_isSix) ?_
  refine am_vc_ok am_k208 [] 100 ?_
  refine And.intro (fun h1 => ?_) (fun h1 => ?_)
  · exact am_vI am_k208 am_r208 rfl ⟨rfl, rfl, rfl, rfl, rfl, rfl⟩
  refine am_vS am_k208 am_h208 rfl rfl rfl rfl (m_in) ?_
  refine am_vc_ok am_k208 [] 100 ?_
  refine And.intro (fun h2 => ?_) (fun h2 => ?_)
  · exact am_vI am_k208 am_r208 rfl ⟨rfl, rfl, rfl, rfl, rfl, rfl⟩
  refine am_vS am_k208 am_h208 rfl rfl rfl rfl (m_in) ?_
  refine am_vc_ok am_k208 [] 100 ?_
  refine And.intro (fun h3 => ?_) (fun h3 => ?_)
  · exact am_vI am_k208 am_r208 rfl ⟨rfl, rfl, rfl, rfl, rfl, rfl⟩
  refine am_vS am_k208 am_h208 rfl rfl rfl rfl (m_in) ?_
  refine am_vc_ok am_k208 [] 100 ?_
  refine And.intro (fun h4 => ?_) (fun h4 => ?_)
  · exact am_vI am_k208 am_r208 rfl ⟨rfl, rfl, rfl, rfl, rfl, rfl⟩
  · exact absurd ⟨bI_1.mp h1, bI_1.mp h2, bI_1.mp h3, bI_1.mp h4⟩ h
theorem m_service {a : Nat} {x y z : Int32} (ha : a < 6) (hx : 1 ≤ x ∧ x ≤ 3) (hy : 0 ≤ y ∧ y ≤ 9) (hz : 0 ≤ z ∧ z ≤ 99) : am_D l 208 [aR 12 0, aI (nI a), aI x, aI y, aI z] σ τ (rX t) cX lX (some (aI 1)) (u3 (u3 (u3 σ 62 0 a x) 63 0 a y) 64 0 a z) τ (rX t) := by
  refine am_D_of am_o208 am_l208 rfl ?_
  refine am_vc_ok am_k208 [] 100 ?_
  refine am_vS am_k208 am_h208 rfl rfl rfl rfl (m_isSix) ?_
  refine am_vc_ok am_k208 [] 100 ?_
  refine And.intro (fun h1 => ?_) (fun h1 => ?_)
  · exact absurd (in5 ha) (bI_0.mp h1)
  refine am_vS am_k208 am_h208 rfl rfl rfl rfl (m_in) ?_
  refine am_vc_ok am_k208 [] 100 ?_
  refine And.intro (fun h2 => ?_) (fun h2 => ?_)
  · exact absurd hx (bI_0.mp h2)
  refine am_vS am_k208 am_h208 rfl rfl rfl rfl (m_in) ?_
  refine am_vc_ok am_k208 [] 100 ?_
  refine And.intro (fun h3 => ?_) (fun h3 => ?_)
  · exact absurd hy (bI_0.mp h3)
  refine am_vS am_k208 am_h208 rfl rfl rfl rfl (m_in) ?_
  refine am_vc_ok am_k208 [] 100 ?_
  refine And.intro (fun h4 => ?_) (fun h4 => ?_)
  · exact absurd hz (bI_0.mp h4)
  refine And.intro (vp_in_nI (N := 6) ha (by decide)) ?_
  rw [nI_clamp (by omega)]
  refine And.intro (vp_in_nI (N := 6) ha (by decide)) ?_
  rw [nI_clamp (by omega)]
  refine And.intro (vp_in_nI (N := 6) ha (by decide)) ?_
  rw [nI_clamp (by omega)]
  exact am_vI am_k208 am_r208 rfl ⟨rfl, rfl, rfl, rfl, rfl, rfl⟩
/-- only the net's cells may have changed -/
theorem Rall.net {σ σ2 : tI} {τ : tL} {T n m lo kk : Nat} (h : Rall σ τ) (hk : ∀ k, kNet k = false → k ≠ 8 → k ≠ 12 → σ2 k = σ k) (h8 : ∀ a, a < 6 → σ2 8 a 0 = σ 8 a 0 ∧ σ2 8 a 1 = σ 8 a 1) (h12 : ∀ j, jNet j = false → σ2 12 0 j = σ 12 0 j) (hN : Rnet σ2 T n m lo kk) : Rall σ2 τ := by
  obtain ⟨h1, h2, h3, h4, h5, h6, -⟩ := h
  have kn : ∀ {k : Nat}, kShapes k = true → kNet k = false ∧ k ≠ 8 ∧ k ≠ 12 := by
    intro k z
    refine ⟨?_, kNe z rfl, kNe z rfl⟩
    cases hq : kNet k with
    | false => rfl
    | true =>
      exfalso
      unfold kShapes at z
      unfold kNet at hq
      simp only [Bool.or_eq_true, Bool.and_eq_true, Nat.ble_eq, Nat.beq_eq] at z hq
      omega
  have g6 := hk 6 rfl (by decide) (by decide)
  have g30 := hk 30 rfl (by decide) (by decide)
  have g49 := hk 49 rfl (by decide) (by decide)
  exact ⟨h1.fr (fun r _ => by rw [g6]) (fun r _ => by rw [g30]) (hk 44 rfl (by decide) (by decide)) (hk 45 rfl (by decide) (by decide)), h2.fr (fun r _ => by rw [g6]) (fun r _ => by rw [g30]) (hk 47 rfl (by decide) (by decide)) (hk 48 rfl (by decide) (by decide)), h3.fr (fun k z => hk k (kn z).1 (kn z).2.1 (kn z).2.2), h4.fr (hk 4 rfl (by decide) (by decide)) (hk 55 rfl (by decide) (by decide)) (hk 56 rfl (by decide) (by decide)) (by rw [g6]) (by rw [g30]) (h12 24 rfl), h5.fr h8 (hk 57 rfl (by decide) (by decide)) (hk 58 rfl (by decide) (by decide)) (hk 31 rfl (by decide) (by decide)) (hk 59 rfl (by decide) (by decide)) (fun s _ z => by rw [g49]; exact z), h6.fr (hk 11 rfl (by decide) (by decide)) (hk 42 rfl (by decide) (by decide)) (hk 43 rfl (by decide) (by decide)) (h12 0 rfl) (h12 2 rfl), T, n, m, lo, kk, hN⟩
theorem LC_service (h : Rall σ τ) (a x y z : Int32) : LC l 117 208 [aI a, aI x, aI y, aI z] σ τ t := by
  by_cases hc : (0 ≤ a ∧ a < 6) ∧ (1 ≤ x ∧ x ≤ 3) ∧ (0 ≤ y ∧ y ≤ 9) ∧ (0 ≤ z ∧ z ≤ 99)
  · obtain ⟨ha, hx, hy, hz⟩ := hc
    obtain ⟨a, ha1, rfl⟩ := ix_lt (n := 6) (by decide) ha
    refine LC.of (x_service ha1 hx hy hz) (m_service ha1 hx hy hz) ?_
    obtain ⟨-, -, -, -, -, -, T, n, m, lo, k, hN⟩ := id h
    refine h.net (T := T) (n := n) (m := m) (lo := lo) (kk := k) (fun q z1 z2 z3 => ?_) (fun b hb => ?_) (fun j _ => ?_) ?_
    · have b1 : q ≠ 62 := fun e => by rw [e] at z1; cases z1
      have b2 : q ≠ 63 := fun e => by rw [e] at z1; cases z1
      have b3 : q ≠ 64 := fun e => by rw [e] at z1; cases z1
      rw [u3_kk _ _ b3, u3_kk _ _ b2, u3_kk _ _ b1, u3_kk _ _ z2, u3_kk _ _ z2, u3_kk _ _ z2]
    · simp [u3]
    · simp [u3]
    · obtain ⟨x, hx1, rfl⟩ := ix_le (n := 4) (N := 3) (by decide) ⟨Int32.le_trans (by decide) hx.1, hx.2⟩
      obtain ⟨y, hy1, rfl⟩ := ix_le (n := 10) (by decide) hy
      obtain ⟨z, hz1, rfl⟩ := ix_le (n := 100) (by decide) hz
      have hx0 : 1 ≤ x := (nI_leI (a := 1) (by decide) (by omega)).mp hx.1
      obtain ⟨g1, g2, g3, g4, g5, g6, g7, g8, g9, g10, g11, g12, g13⟩ := hN
      have hN2 : Rnet (u3 (u3 (u3 (u3 (u3 (u3 σ 8 a 2 (nI x)) 8 a 3 (nI y)) 8 a 4 (nI z)) 62 0 a (nI x)) 63 0 a (nI y)) 64 0 a (nI z)) T n m lo k := by
        refine ⟨by simpa [u3] using g1, by simpa [u3] using g2, by simpa [u3, Rcall, Ocall, undU] using g3, by simpa [u3, Fcall] using g4, by simpa [u3] using g5, fun b hb => ?_, by simpa [u3] using g7, by simpa [u3, Rframe, Oframe] using g8, by simpa [u3] using g9, by simpa [u3] using g10, by simpa [u3] using g11, by simpa [u3] using g12, by simpa [u3, asksU] using g13⟩
        obtain ⟨q1, q2, q3, q4, q5, q6, q7, q8⟩ := g6 b hb
        by_cases e : b = a
        · subst e
          exact ⟨by simp [u3], by simp [u3], by simp [u3], ⟨x, hx0, by omega, by simp [u3]⟩, ⟨y, by omega, by simp [u3]⟩, ⟨z, by omega, by simp [u3]⟩, by simpa [u3] using q7, by simpa [u3] using q8⟩
        · exact ⟨by simpa [u3, e] using q1, by simpa [u3, e] using q2, by simpa [u3, e] using q3, by simpa [u3, e] using q4, by simpa [u3, e] using q5, by simpa [u3, e] using q6, by simpa [u3] using q7, by simpa [u3] using q8⟩
      exact hN2
  · refine LC.of (x_service_bad hc) (m_service_bad ?_) h
    rintro ⟨z1, z2⟩
    exact hc ⟨by
      obtain ⟨j, hj, rfl⟩ := ix_le (n := 6) (by decide) z1
      exact in6 hj, z2⟩
end L6

/-! CASES OF THE LAW: item, breaks -/
section L7
variable {l : Launch} {σ σ2 : tI} {τ τ2 : tL} {t : Option (Nat × Nat)} {ρ : tR} {cn : tN} {ln : tM}
theorem in4 {j : Nat} (hj : j < 4) : ((0 : Int32) ≤ nI j ∧ nI j < 4) := ⟨nI_pos' (by omega), nI_lt (b := 4) hj (by decide)⟩
theorem in3 {j : Nat} (hj : j < 4) : ((0 : Int32) ≤ nI j ∧ nI j ≤ 3) := ⟨nI_pos' (by omega), nI_le (b := 3) (by omega) (by decide)⟩
theorem not4 {r : Int32} (h : ¬ (0 ≤ r ∧ r < 4)) : ¬ (0 ≤ r ∧ r ≤ 3) := by
  intro h2
  obtain ⟨j, hj, rfl⟩ := ix_le (n := 4) (by decide) h2
  exact h (in4 hj)
theorem x_sfact {i k w : Nat} (hk : k < 12) (hw : w < 6) : am_D l 79 [aR 9 i, aI (nI k), aI (nI w)] σ τ (rX t) cX lX (some (aI (σ (32 + w) i k))) σ τ (rX t) := by
  refine am_D_of am_o79 am_l79 rfl ?_
  refine am_vc_ok am_k79 [] 100 ?_
  match w, hw with
  | 0, _ =>
    refine am_sw 36 (by decide +kernel) ?_
    refine And.intro (vp_in_nI (N := 12) hk (by decide)) ?_
    rw [nI_clamp (by omega)]
    exact am_vI am_k79 am_r79 rfl ⟨rfl, rfl, rfl, rfl, rfl, rfl⟩
  | 1, _ =>
    refine am_sw 43 (by decide +kernel) ?_
    refine And.intro (vp_in_nI (N := 12) hk (by decide)) ?_
    rw [nI_clamp (by omega)]
    exact am_vI am_k79 am_r79 rfl ⟨rfl, rfl, rfl, rfl, rfl, rfl⟩
  | 2, _ =>
    refine am_sw 50 (by decide +kernel) ?_
    refine And.intro (vp_in_nI (N := 12) hk (by decide)) ?_
    rw [nI_clamp (by omega)]
    exact am_vI am_k79 am_r79 rfl ⟨rfl, rfl, rfl, rfl, rfl, rfl⟩
  | 3, _ =>
    refine am_sw 57 (by decide +kernel) ?_
    refine And.intro (vp_in_nI (N := 12) hk (by decide)) ?_
    rw [nI_clamp (by omega)]
    exact am_vI am_k79 am_r79 rfl ⟨rfl, rfl, rfl, rfl, rfl, rfl⟩
  | 4, _ =>
    refine am_sw 64 (by decide +kernel) ?_
    refine And.intro (vp_in_nI (N := 12) hk (by decide)) ?_
    rw [nI_clamp (by omega)]
    exact am_vI am_k79 am_r79 rfl ⟨rfl, rfl, rfl, rfl, rfl, rfl⟩
  | 5, _ =>
    refine am_sw 71 (by decide +kernel) ?_
    refine And.intro (vp_in_nI (N := 12) hk (by decide)) ?_
    rw [nI_clamp (by omega)]
    exact am_vI am_k79 am_r79 rfl ⟨rfl, rfl, rfl, rfl, rfl, rfl⟩
theorem x_item_bad {s i w : Int32} (h : ¬ (0 ≤ s ∧ s < 4) ∨ ¬ (0 ≤ w ∧ w < 6)) : am_D l 103 [aR 11 0, aI s, aI i, aI w] σ τ (rX t) cX lX (some (aI (-1))) σ τ (rX t) := by
  refine am_D_of am_o103 am_l103 rfl ?_
  refine am_vc_ok am_k103 [] 100 ?_
  refine am_vS am_k103 am_h103 rfl rfl rfl rfl (x_within) ?_
  refine am_vc_ok am_k103 [] 100 ?_
  refine And.intro (fun h1 => ?_) (fun h1 => ?_)
  · exact am_vI am_k103 am_r103 rfl ⟨rfl, rfl, rfl, rfl, rfl, rfl⟩
  refine am_vS am_k103 am_h103 rfl rfl rfl rfl (x_within) ?_
  refine am_vc_ok am_k103 [] 100 ?_
  refine And.intro (fun h2 => ?_) (fun h2 => ?_)
  · exact am_vI am_k103 am_r103 rfl ⟨rfl, rfl, rfl, rfl, rfl, rfl⟩
  · rcases h with h | h
    · exact absurd (bI_1.mp h1) h
    · exact absurd (bI_1.mp h2) h
theorem x_item_none {s : Nat} {i w : Int32} (hs : s < 4) (hw : 0 ≤ w ∧ w < 6) (h0 : σ 9 (1 + s) 0 = 0) : am_D l 103 [aR 11 0, aI (nI s), aI i, aI w] σ τ (rX t) cX lX (some (aI (-3))) (xfind 1 σ) τ (rX t) := by
  refine am_D_of am_o103 am_l103 rfl ?_
  refine am_vc_ok am_k103 [] 100 ?_
  refine am_vS am_k103 am_h103 rfl rfl rfl rfl (x_within) ?_
  refine am_vc_ok am_k103 [] 100 ?_
  refine And.intro (fun h1 => ?_) (fun h1 => ?_)
  · exact absurd (in4 hs) (bI_0.mp h1)
  refine am_vS am_k103 am_h103 rfl rfl rfl rfl (x_within) ?_
  refine am_vc_ok am_k103 [] 100 ?_
  refine And.intro (fun h2 => ?_) (fun h2 => ?_)
  · exact absurd hw (bI_0.mp h2)
  refine And.intro (vp_in_nI (N := 4) hs (by decide)) ?_
  rw [nI_clamp (by omega)]
  refine And.intro (fun _ => ?_) (fun h => absurd h0 h)
  refine am_vO am_k103 am_h103 rfl rfl rfl rfl (x_find (w := 1) (by decide)) ?_
  refine am_vc_ok am_k103 [] 100 ?_
  exact am_vI am_k103 am_r103 rfl ⟨rfl, rfl, rfl, rfl, rfl, rfl⟩
theorem x_item {s w n : Nat} {i : Int32} (hs : s < 4) (hw : w < 6) (h0 : σ 9 (1 + s) 0 = 1) (hn : σ 9 (1 + s) 1 = nI n) (hn2 : n ≤ 12) : am_D l 103 [aR 11 0, aI (nI s), aI i, aI (nI w)] σ τ (rX t) cX lX (some (aI (if 0 ≤ i ∧ i < nI n then 1 else -3))) (if 0 ≤ i ∧ i < nI n then u3 σ 11 0 11 (σ (32 + w) (1 + s) i.toNatClampNeg) else xfind 2 σ) τ (rX t) := by
  have h01 : ¬ σ 9 (1 + s) 0 = 0 := by rw [h0]; decide
  refine am_D_of am_o103 am_l103 rfl ?_
  refine am_vc_ok am_k103 [] 100 ?_
  refine am_vS am_k103 am_h103 rfl rfl rfl rfl (x_within) ?_
  refine am_vc_ok am_k103 [] 100 ?_
  refine And.intro (fun h1 => ?_) (fun h1 => ?_)
  · exact absurd (in4 hs) (bI_0.mp h1)
  refine am_vS am_k103 am_h103 rfl rfl rfl rfl (x_within) ?_
  refine am_vc_ok am_k103 [] 100 ?_
  refine And.intro (fun h2 => ?_) (fun h2 => ?_)
  · exact absurd (inN (n := 6) hw (by omega)) (bI_0.mp h2)
  refine And.intro (vp_in_nI (N := 4) hs (by decide)) ?_
  rw [nI_clamp (n := s) (by omega)]
  refine And.intro (fun h => absurd h h01) (fun _ => ?_)
  refine And.intro (vp_in_nI (N := 4) hs (by decide)) ?_
  rw [nI_clamp (n := s) (by omega)]
  refine am_vS am_k103 am_h103 rfl rfl rfl rfl (x_within) ?_
  refine am_vc_ok am_k103 [] 100 ?_
  rw [hn]
  refine And.intro (fun h3 => ?_) (fun h3 => ?_)
  · simp only [if_neg (bI_0.mp h3)]
    refine am_vO am_k103 am_h103 rfl rfl rfl rfl (x_find (w := 2) (by decide)) ?_
    refine am_vc_ok am_k103 [] 100 ?_
    exact am_vI am_k103 am_r103 rfl ⟨rfl, rfl, rfl, rfl, rfl, rfl⟩
  · have h3 := bI_1.mp h3
    simp only [if_pos h3]
    obtain ⟨k, hk, rfl⟩ := ix_lt (nI_toInt (by omega)) h3
    refine And.intro (vp_in_nI (N := 4) hs (by decide)) ?_
    rw [nI_clamp (n := s) (by omega), nI_clamp (n := k) (by omega)]
    refine am_vO am_k103 am_h103 rfl rfl rfl rfl (x_sfact (by omega) hw) ?_
    refine am_vc_ok am_k103 [] 100 ?_
    exact am_vI am_k103 am_r103 rfl ⟨rfl, rfl, rfl, rfl, rfl, rfl⟩
theorem m_askedShape_bad {s : Int32} (hs : ¬ (0 ≤ s ∧ s ≤ 3)) : am_D l 173 [aR 12 0, aI s] σ τ (rX t) cX lX (some (aI (-1))) σ τ (rX t) := by
  refine am_D_of am_o173 am_l173 rfl ?_
  refine am_vc_ok am_k173 [] 100 ?_
  refine am_vS am_k173 am_h173 rfl rfl rfl rfl (m_isShape) ?_
  refine am_vc_ok am_k173 [] 100 ?_
  refine And.intro (fun h => ?_) (fun h => ?_)
  · exact am_vI am_k173 am_r173 rfl ⟨rfl, rfl, rfl, rfl, rfl, rfl⟩
  · exact absurd (bI_1.mp h) hs
theorem m_askedShape {s : Nat} (hs : s < 4) : am_D l 173 [aR 12 0, aI (nI s)] σ τ (rX t) cX lX (some (aI (if σ 49 0 s < 0 then -3 else 0))) (if σ 49 0 s < 0 then mmeets 1 σ else σ) τ (rX t) := by
  refine am_D_of am_o173 am_l173 rfl ?_
  refine am_vc_ok am_k173 [] 100 ?_
  refine am_vS am_k173 am_h173 rfl rfl rfl rfl (m_isShape) ?_
  refine am_vc_ok am_k173 [] 100 ?_
  refine And.intro (fun h => ?_) (fun h => ?_)
  · exact absurd (in3 hs) (bI_0.mp h)
  refine And.intro (vp_in_nI (N := 4) hs (by decide)) ?_
  rw [nI_clamp (by omega)]
  refine And.intro (fun h1 => ?_) (fun h1 => ?_)
  · have h1 : 0 ≤ σ 49 0 s := h1
    simp only [if_neg (Int32.not_lt.mpr h1)]
    exact am_vI am_k173 am_r173 rfl ⟨rfl, rfl, rfl, rfl, rfl, rfl⟩
  · have h1 : ¬ 0 ≤ σ 49 0 s := h1
    simp only [if_pos (Int32.not_le.mp h1)]
    refine am_vO am_k173 am_h173 rfl rfl rfl rfl (m_meets (w := 1) (by decide)) ?_
    refine am_vc_ok am_k173 [] 100 ?_
    exact am_vI am_k173 am_r173 rfl ⟨rfl, rfl, rfl, rfl, rfl, rfl⟩
theorem m_item_bad {s i w : Int32} (h : ¬ (0 ≤ s ∧ s ≤ 3) ∨ ¬ (0 ≤ w ∧ w ≤ 5)) : am_D l 182 [aR 12 0, aI s, aI i, aI w] σ τ (rX t) cX lX (some (aI (-1))) σ τ (rX t) := by
  refine am_D_of am_o182 am_l182 rfl ?_
  refine am_vc_ok am_k182 [] 100 ?_
  refine am_vS am_k182 am_h182 rfl rfl rfl rfl (m_in) ?_
  refine am_vc_ok am_k182 [] 100 ?_
  refine And.intro (fun h1 => ?_) (fun h1 => ?_)
  · exact am_vI am_k182 am_r182 rfl ⟨rfl, rfl, rfl, rfl, rfl, rfl⟩
  rcases h with h | h
  · refine am_vO am_k182 am_h182 rfl rfl rfl rfl (m_askedShape_bad h) ?_
    refine am_vc_ok am_k182 [] 100 ?_
    refine And.intro (fun h2 => ?_) (fun h2 => ?_)
    · exact absurd h2 (by decide)
    · exact am_vI am_k182 am_r182 rfl ⟨rfl, rfl, rfl, rfl, rfl, rfl⟩
  · exact absurd (bI_1.mp h1) h
theorem m_item_none {s : Nat} {i w : Int32} (hs : s < 4) (hw : 0 ≤ w ∧ w ≤ 5) (h0 : σ 49 0 s = -9) : am_D l 182 [aR 12 0, aI (nI s), aI i, aI w] σ τ (rX t) cX lX (some (aI (-3))) (mmeets 1 σ) τ (rX t) := by
  have h0 : σ 49 0 s < 0 := by rw [h0]; decide
  refine am_D_of am_o182 am_l182 rfl ?_
  refine am_vc_ok am_k182 [] 100 ?_
  refine am_vS am_k182 am_h182 rfl rfl rfl rfl (m_in) ?_
  refine am_vc_ok am_k182 [] 100 ?_
  refine And.intro (fun h1 => ?_) (fun h1 => ?_)
  · exact absurd hw (bI_0.mp h1)
  refine am_vO am_k182 am_h182 rfl rfl rfl rfl (m_askedShape hs) ?_
  refine am_vc_ok am_k182 [] 100 ?_
  simp only [if_pos h0]
  refine And.intro (fun h2 => ?_) (fun h2 => ?_)
  · exact absurd h2 (by decide)
  · exact am_vI am_k182 am_r182 rfl ⟨rfl, rfl, rfl, rfl, rfl, rfl⟩
theorem m_item {s w n : Nat} {i : Int32} (hs : s < 4) (hw : w < 6) (hn : σ 49 0 s = nI n) (hn2 : n ≤ 12) : am_D l 182 [aR 12 0, aI (nI s), aI i, aI (nI w)] σ τ (rX t) cX lX (some (aI (if 0 ≤ i ∧ i ≤ nI n - 1 then 1 else -3))) (if 0 ≤ i ∧ i ≤ nI n - 1 then u3 σ 12 0 2 (σ 50 0 (72 * s + 6 * i.toNatClampNeg + w)) else mmeets 2 σ) τ (rX t) := by
  have h0 : ¬ σ 49 0 s < 0 := by rw [hn]; exact nI_pos (by omega)
  refine am_D_of am_o182 am_l182 rfl ?_
  refine am_vc_ok am_k182 [] 100 ?_
  refine am_vS am_k182 am_h182 rfl rfl rfl rfl (m_in) ?_
  refine am_vc_ok am_k182 [] 100 ?_
  refine And.intro (fun h1 => ?_) (fun h1 => ?_)
  · exact absurd (in5 hw) (bI_0.mp h1)
  refine am_vO am_k182 am_h182 rfl rfl rfl rfl (m_askedShape hs) ?_
  refine am_vc_ok am_k182 [] 100 ?_
  simp only [if_neg h0]
  refine And.intro (fun _ => ?_) (fun z => absurd (by decide) z)
  refine And.intro (vp_in_nI (N := 4) hs (by decide)) ?_
  rw [nI_clamp (n := s) (by omega)]
  refine am_vS am_k182 am_h182 rfl rfl rfl rfl (m_in) ?_
  refine am_vc_ok am_k182 [] 100 ?_
  rw [hn]
  refine And.intro (fun h3 => ?_) (fun h3 => ?_)
  · simp only [if_neg (bI_0.mp h3)]
    refine am_vO am_k182 am_h182 rfl rfl rfl rfl (m_meets (w := 2) (by decide)) ?_
    refine am_vc_ok am_k182 [] 100 ?_
    exact am_vI am_k182 am_r182 rfl ⟨rfl, rfl, rfl, rfl, rfl, rfl⟩
  · have h3 := bI_1.mp h3
    simp only [if_pos h3]
    obtain ⟨k, hk, rfl⟩ := ix_lt (nI_toInt (by omega)) ((le_pred2 (by omega)).mp h3)
    rw [nI_clamp (n := k) (by omega)]
    refine am_vO am_k182 am_h182 rfl rfl rfl rfl (m_part hs (by omega) hw) ?_
    refine am_vc_ok am_k182 [] 100 ?_
    refine am_vO am_k182 am_h182 rfl rfl rfl rfl (m_ask) ?_
    refine am_vc_ok am_k182 [] 100 ?_
    exact am_vI am_k182 am_r182 rfl ⟨rfl, rfl, rfl, rfl, rfl, rfl⟩
theorem Rshape.item {s k w : Nat} {S : aSh} (h : Rshape σ s S) (hk : k < sN S) (hw : w < 6) : σ (32 + w) (1 + s) k = sF S k w := by
  obtain ⟨-, -, -, -, hx, -, -⟩ := h
  obtain ⟨h0, h1, h2, h3, h4, h5⟩ := hx k hk
  rcases (show w = 0 ∨ w = 1 ∨ w = 2 ∨ w = 3 ∨ w = 4 ∨ w = 5 by omega) with rfl | rfl | rfl | rfl | rfl | rfl
  · exact h0
  · exact h1
  · exact h2
  · exact h3
  · exact h4
  · exact h5
theorem LC_item (h : Rall σ τ) (s i w : Int32) : LC l 103 182 [aI s, aI i, aI w] σ τ t := by
  have e6 : ∀ x : Int32, (0 ≤ x ∧ x ≤ 5) ↔ (0 ≤ x ∧ x < 6) := fun x => leN (n := 6) (N := 6) (by decide) (by decide)
  by_cases hs : 0 ≤ s ∧ s < 4
  · by_cases hw : 0 ≤ w ∧ w < 6
    · obtain ⟨s, hs1, rfl⟩ := ix_lt (n := 4) (by decide) hs
      rcases h.2.2.1 s hs1 with ⟨h0, h9⟩ | ⟨S, hS⟩
      · exact LC.of (x_item_none hs1 hw h0) (m_item_none hs1 ((e6 w).mpr hw) (by simp [u3, h9])) (h.find (by decide))
      · obtain ⟨w, hw1, rfl⟩ := ix_lt (n := 6) (by decide) hw
        have hx := x_item (l := l) (τ := τ) (t := t) (i := i) hs1 hw1 hS.2.1 hS.2.2.1 hS.1.1
        by_cases hi : 0 ≤ i ∧ i < nI (sN S)
        · simp only [if_pos hi] at hx
          have h12 := hS.1.1
          obtain ⟨k, hk, rfl⟩ := ix_lt (nI_toInt (by omega)) hi
          have hm := m_item (l := l) (σ := u3 σ 11 0 11 (σ (32 + w) (1 + s) (nI k).toNatClampNeg)) (τ := τ) (t := t) (i := nI k) hs1 hw1 (by simp [u3, hS.2.2.2.1]) hS.1.1
          simp only [if_pos ((le_pred2 (by omega)).mpr hi)] at hm
          rw [u3_k _ _ (show 50 ≠ 11 by decide), nI_clamp (n := k) (by omega), hS.2.2.2.2.2.2 k w hk hw1, ← hS.item hk hw1] at hm
          rw [nI_clamp (n := k) (by omega)] at hx
          exact LC.of hx hm h.ask
        · simp only [if_neg hi] at hx
          have h12 := hS.1.1
          have hm := m_item (l := l) (σ := xfind 2 σ) (τ := τ) (t := t) (i := i) hs1 hw1 (by simp [u3, hS.2.2.2.1]) hS.1.1
          simp only [if_neg (fun z => hi ((le_pred2 (by omega)).mp z))] at hm
          exact LC.of hx hm (h.find (by decide))
    · exact LC.of (x_item_bad (Or.inr hw)) (m_item_bad (Or.inr (fun z => hw ((e6 w).mp z)))) h
  · exact LC.of (x_item_bad (Or.inl hs)) (m_item_bad (Or.inl (not4 hs))) h
-- breaks
theorem x_lineOf {a b : Nat} (ha : a < 6) (hb : b < 6) : am_D l 12 [aI (nI a), aI (nI b)] σ τ ρ cn ln (some (aI (nI (6 * min a b + max a b)))) σ τ ρ := by
  have e6 : (6 : Int32) = nI 6 := rfl
  refine am_D_of am_o12 am_l12 rfl ?_
  refine am_vc_ok am_k12 [] 100 ?_
  refine am_vMin am_k12 am_h12 rfl rfl ?_
  refine am_vc_ok am_k12 [] 100 ?_
  refine am_vMax am_k12 am_h12 rfl rfl ?_
  refine am_vc_ok am_k12 [] 100 ?_
  refine am_vI am_k12 am_r12 rfl ⟨?_, rfl, rfl, rfl, rfl, rfl⟩
  rcases Nat.lt_or_ge b a with h | h
  · rw [if_pos (nI_lt h (by omega)), if_neg (nI_nlt (by omega) (by omega)), e6, pk_mul, nI_add, Nat.min_eq_right (by omega), Nat.max_eq_left (by omega), Nat.mul_comm]
  · rw [if_neg (nI_nlt h (by omega)), e6, pk_mul]
    rcases Nat.lt_or_ge a b with h2 | h2
    · rw [if_pos (nI_lt h2 (by omega)), nI_add, Nat.min_eq_left (by omega), Nat.max_eq_right (by omega), Nat.mul_comm]
    · obtain rfl : a = b := by omega
      rw [if_neg (nI_nlt (by omega) (by omega)), nI_add, Nat.min_self, Nat.max_self, Nat.mul_comm]
theorem m_line {a b : Nat} (ha : a < 6) (hb : b < 6) : am_D l 213 [aI (nI a), aI (nI b)] σ τ ρ cn ln (some (aI (nI (6 * min a b + max a b)))) σ τ ρ := by
  have e6 : (6 : Int32) = nI 6 := rfl
  refine am_D_of am_o213 am_l213 rfl ?_
  refine am_vc_ok am_k213 [] 100 ?_
  refine And.intro (fun h => ?_) (fun h => ?_)
  · have h := (nI_leI (by omega) (by omega)).mp h
    rw [Nat.min_eq_right h, Nat.max_eq_left h, ← nI_add, ← pk_mul]
    exact am_vI am_k213 am_r213 rfl ⟨rfl, rfl, rfl, rfl, rfl, rfl⟩
  · have h2 : ¬ b ≤ a := fun z => h ((nI_leI (by omega) (by omega)).mpr z)
    rw [Nat.min_eq_left (by omega), Nat.max_eq_right (by omega), ← nI_add, ← pk_mul]
    exact am_vI am_k213 am_r213 rfl ⟨rfl, rfl, rfl, rfl, rfl, rfl⟩
end L7

/-! CASES OF THE LAW: breaks; the sending of a frame -/
section L8
variable {l : Launch} {σ σ2 : tI} {τ τ2 : tL} {t : Option (Nat × Nat)}
abbrev xbrk (σ : tI) (k : Nat) (g f e : Int32) : tI := u3 (u3 (u3 (u3 σ 21 0 k g) 22 0 k f) 23 0 k e) 2 0 0 (nI (k + 1))
theorem x_breakLine {a b k : Nat} {f e : Int32} (ha : a < 6) (hb : b < 6) (hk : σ 2 0 0 = nI k) (hk2 : k < 20) : am_D l 10 [aR 2 0, aI (nI a), aI (nI b), aI f, aI e] σ τ (rX t) cX lX none (xbrk σ k (nI (6 * min a b + max a b)) f e) τ (rX t) := by
  have q1 : ∀ {v : Int32}, (u3 σ 21 0 k v) 2 0 0 = nI k := by intro v; simp [u3, hk]
  refine am_D_of am_o10 am_l10 rfl ?_
  refine am_vc_ok am_k10 [] 100 ?_
  refine And.intro (fun h => absurd h (by rw [hk]; exact nI_ge (b := 20) hk2 (by decide))) (fun _ => ?_)
  refine am_vS am_k10 am_h10 rfl rfl rfl rfl (x_lineOf ha hb) ?_
  refine am_vc_ok am_k10 [] 100 ?_
  rw [hk]
  refine And.intro (vp_in_nI (N := 20) hk2 (by decide)) ?_
  rw [nI_clamp (by omega)]
  refine And.intro (by rw [q1]; exact vp_in_nI (N := 20) hk2 (by decide)) ?_
  rw [q1, nI_clamp (by omega)]
  refine And.intro (by rw [u3_k _ _ (show 2 ≠ 22 by decide), q1]; exact vp_in_nI (N := 20) hk2 (by decide)) ?_
  rw [u3_k _ _ (show 2 ≠ 22 by decide), q1, nI_clamp (by omega)]
  refine am_vV am_k10 am_r10 rfl ⟨rfl, ?_, rfl, rfl, rfl, rfl⟩
  rw [u3_k _ _ (show 2 ≠ 23 by decide), u3_k _ _ (show 2 ≠ 22 by decide), q1, show nI k + 1 = nI (k + 1) from nI_1 k]
theorem x_breaks_bad {a b f e : Int32} (h : ¬ (((0 ≤ a ∧ a < 6) ∧ (0 ≤ b ∧ b < 6) ∧ a ≠ b) ∧ 0 ≤ f ∧ e ≤ 9999 ∧ f ≤ e)) : am_D l 119 [aR 11 0, aI a, aI b, aI f, aI e] σ τ (rX t) cX lX (some (aI (-1))) σ τ (rX t) := by
  refine am_D_of am_o119 am_l119 rfl ?_
  refine am_vc_ok am_k119 [] 100 ?_
  refine am_vS am_k119 am_h119 rfl rfl rfl rfl (x_isPair) ?_
  refine am_vc_ok am_k119 [] 100 ?_
  refine And.intro (fun h1 => ?_) (fun h1 => ?_)
  · exact am_vI am_k119 am_r119 rfl ⟨rfl, rfl, rfl, rfl, rfl, rfl⟩
  refine And.intro (fun h2 => ?_) (fun h2 => ?_)
  · exact am_vI am_k119 am_r119 rfl ⟨rfl, rfl, rfl, rfl, rfl, rfl⟩
  refine And.intro (fun h3 => ?_) (fun h3 => ?_)
  · exact am_vI am_k119 am_r119 rfl ⟨rfl, rfl, rfl, rfl, rfl, rfl⟩
  refine And.intro (fun h4 => ?_) (fun h4 => ?_)
  · exact absurd ⟨bI_1.mp h1, Int32.not_lt.mp h2, Int32.not_lt.mp h3, h4⟩ h
  · exact am_vI am_k119 am_r119 rfl ⟨rfl, rfl, rfl, rfl, rfl, rfl⟩
theorem x_breaks_full {a b f e : Int32} (h : ((0 ≤ a ∧ a < 6) ∧ (0 ≤ b ∧ b < 6) ∧ a ≠ b) ∧ 0 ≤ f ∧ e ≤ 9999 ∧ f ≤ e) (hk : σ 2 0 0 = nI 20) : am_D l 119 [aR 11 0, aI a, aI b, aI f, aI e] σ τ (rX t) cX lX (some (aI (-2))) σ τ (rX t) := by
  refine am_D_of am_o119 am_l119 rfl ?_
  refine am_vc_ok am_k119 [] 100 ?_
  refine am_vS am_k119 am_h119 rfl rfl rfl rfl (x_isPair) ?_
  refine am_vc_ok am_k119 [] 100 ?_
  refine And.intro (fun g => absurd h.1 (bI_0.mp g)) (fun _ => ?_)
  refine And.intro (fun g => absurd h.2.1 (Int32.not_le.mpr g)) (fun _ => ?_)
  refine And.intro (fun g => absurd h.2.2.1 (Int32.not_le.mpr g)) (fun _ => ?_)
  refine And.intro (fun _ => ?_) (fun g => absurd h.2.2.2 g)
  refine And.intro (fun g => absurd g (by rw [hk]; decide)) (fun _ => ?_)
  exact am_vI am_k119 am_r119 rfl ⟨rfl, rfl, rfl, rfl, rfl, rfl⟩
theorem x_breaks {a b k : Nat} {f e : Int32} (ha : a < 6) (hb : b < 6) (hab : a ≠ b) (h : 0 ≤ f ∧ e ≤ 9999 ∧ f ≤ e) (hk : σ 2 0 0 = nI k) (hk2 : k < 20) : am_D l 119 [aR 11 0, aI (nI a), aI (nI b), aI f, aI e] σ τ (rX t) cX lX (some (aI (nI (k + 1)))) (xbrk σ k (nI (6 * min a b + max a b)) f e) τ (rX t) := by
  have hp : (0 ≤ nI a ∧ nI a < 6) ∧ (0 ≤ nI b ∧ nI b < 6) ∧ nI a ≠ nI b := ⟨in6 ha, in6 hb, fun z => hab ((nI_eq (by omega) (by omega)).mp z)⟩
  refine am_D_of am_o119 am_l119 rfl ?_
  refine am_vc_ok am_k119 [] 100 ?_
  refine am_vS am_k119 am_h119 rfl rfl rfl rfl (x_isPair) ?_
  refine am_vc_ok am_k119 [] 100 ?_
  refine And.intro (fun g => absurd hp (bI_0.mp g)) (fun _ => ?_)
  refine And.intro (fun g => absurd h.1 (Int32.not_le.mpr g)) (fun _ => ?_)
  refine And.intro (fun g => absurd h.2.1 (Int32.not_le.mpr g)) (fun _ => ?_)
  refine And.intro (fun _ => ?_) (fun g => absurd h.2.2 g)
  refine And.intro (fun _ => ?_) (fun g => absurd (by rw [hk]; exact nI_lt (b := 20) hk2 (by decide)) g)
  refine am_vO am_k119 am_h119 rfl rfl rfl rfl (x_breakLine ha hb hk hk2) ?_
  refine am_vc_ok am_k119 [] 100 ?_
  refine am_vI am_k119 am_r119 rfl ⟨?_, rfl, rfl, rfl, rfl, rfl⟩
  simp [xbrk, u3]
abbrev mbrk (σ : tI) (k : Nat) (g f e : Int32) : tI := u3 (u3 (u3 (u3 σ 91 0 k g) 92 0 k f) 93 0 k e) 12 0 64 (nI (k + 1))
theorem m_breaks_bad {a b f e : Int32} (h : ¬ (((0 ≤ a ∧ a ≤ 5) ∧ (0 ≤ b ∧ b ≤ 5) ∧ a ≠ b) ∧ (0 ≤ f ∧ f ≤ 9999) ∧ (0 ≤ e ∧ e ≤ 9999) ∧ f ≤ e)) : am_D l 215 [aR 12 0, aI a, aI b, aI f, aI e] σ τ (rX t) cX lX (some (aI (-1))) σ τ (rX t) := by
  refine am_D_of am_o215 am_l215 rfl ?_
  refine am_vc_ok am_k215 [] 100 ?_
  refine am_vS am_k215 am_h215 rfl rfl rfl rfl (m_isSix) ?_
  refine am_vc_ok am_k215 [] 100 ?_
  refine And.intro (fun h1 => ?_) (fun h1 => ?_)
  · exact am_vI am_k215 am_r215 rfl ⟨rfl, rfl, rfl, rfl, rfl, rfl⟩
  refine am_vS am_k215 am_h215 rfl rfl rfl rfl (m_isSix) ?_
  refine am_vc_ok am_k215 [] 100 ?_
  refine And.intro (fun h2 => ?_) (fun h2 => ?_)
  · exact am_vI am_k215 am_r215 rfl ⟨rfl, rfl, rfl, rfl, rfl, rfl⟩
  refine And.intro (fun h3 => ?_) (fun h3 => ?_)
  · exact am_vI am_k215 am_r215 rfl ⟨rfl, rfl, rfl, rfl, rfl, rfl⟩
  refine am_vS am_k215 am_h215 rfl rfl rfl rfl (m_isTick) ?_
  refine am_vc_ok am_k215 [] 100 ?_
  refine And.intro (fun h4 => ?_) (fun h4 => ?_)
  · exact am_vI am_k215 am_r215 rfl ⟨rfl, rfl, rfl, rfl, rfl, rfl⟩
  refine am_vS am_k215 am_h215 rfl rfl rfl rfl (m_isTick) ?_
  refine am_vc_ok am_k215 [] 100 ?_
  refine And.intro (fun h5 => ?_) (fun h5 => ?_)
  · exact am_vI am_k215 am_r215 rfl ⟨rfl, rfl, rfl, rfl, rfl, rfl⟩
  refine And.intro (fun h6 => ?_) (fun h6 => ?_)
  · exact absurd ⟨⟨bI_1.mp h1, bI_1.mp h2, h3⟩, bI_1.mp h4, bI_1.mp h5, h6⟩ h
  · exact am_vI am_k215 am_r215 rfl ⟨rfl, rfl, rfl, rfl, rfl, rfl⟩
theorem m_breaks_full {a b f e : Int32} (h : ((0 ≤ a ∧ a ≤ 5) ∧ (0 ≤ b ∧ b ≤ 5) ∧ a ≠ b) ∧ (0 ≤ f ∧ f ≤ 9999) ∧ (0 ≤ e ∧ e ≤ 9999) ∧ f ≤ e) (hk : σ 12 0 64 = nI 20) : am_D l 215 [aR 12 0, aI a, aI b, aI f, aI e] σ τ (rX t) cX lX (some (aI (-2))) σ τ (rX t) := by
  refine am_D_of am_o215 am_l215 rfl ?_
  refine am_vc_ok am_k215 [] 100 ?_
  refine am_vS am_k215 am_h215 rfl rfl rfl rfl (m_isSix) ?_
  refine am_vc_ok am_k215 [] 100 ?_
  refine And.intro (fun g => absurd h.1.1 (bI_0.mp g)) (fun _ => ?_)
  refine am_vS am_k215 am_h215 rfl rfl rfl rfl (m_isSix) ?_
  refine am_vc_ok am_k215 [] 100 ?_
  refine And.intro (fun g => absurd h.1.2.1 (bI_0.mp g)) (fun _ => ?_)
  refine And.intro (fun g => absurd g h.1.2.2) (fun _ => ?_)
  refine am_vS am_k215 am_h215 rfl rfl rfl rfl (m_isTick) ?_
  refine am_vc_ok am_k215 [] 100 ?_
  refine And.intro (fun g => absurd h.2.1 (bI_0.mp g)) (fun _ => ?_)
  refine am_vS am_k215 am_h215 rfl rfl rfl rfl (m_isTick) ?_
  refine am_vc_ok am_k215 [] 100 ?_
  refine And.intro (fun g => absurd h.2.2.1 (bI_0.mp g)) (fun _ => ?_)
  refine And.intro (fun _ => ?_) (fun g => absurd h.2.2.2 g)
  refine And.intro (fun _ => ?_) (fun g => absurd hk g)
  exact am_vI am_k215 am_r215 rfl ⟨rfl, rfl, rfl, rfl, rfl, rfl⟩
theorem m_breaks {a b k : Nat} {f e : Int32} (ha : a < 6) (hb : b < 6) (hab : a ≠ b) (h : (0 ≤ f ∧ f ≤ 9999) ∧ (0 ≤ e ∧ e ≤ 9999) ∧ f ≤ e) (hk : σ 12 0 64 = nI k) (hk2 : k < 20) : am_D l 215 [aR 12 0, aI (nI a), aI (nI b), aI f, aI e] σ τ (rX t) cX lX (some (aI (nI (k + 1)))) (mbrk σ k (nI (6 * min a b + max a b)) f e) τ (rX t) := by
  have q1 : ∀ {v : Int32}, (u3 σ 91 0 k v) 12 0 64 = nI k := by intro v; simp [u3, hk]
  refine am_D_of am_o215 am_l215 rfl ?_
  refine am_vc_ok am_k215 [] 100 ?_
  refine am_vS am_k215 am_h215 rfl rfl rfl rfl (m_isSix) ?_
  refine am_vc_ok am_k215 [] 100 ?_
  refine And.intro (fun g => absurd (in5 ha) (bI_0.mp g)) (fun _ => ?_)
  refine am_vS am_k215 am_h215 rfl rfl rfl rfl (m_isSix) ?_
  refine am_vc_ok am_k215 [] 100 ?_
  refine And.intro (fun g => absurd (in5 hb) (bI_0.mp g)) (fun _ => ?_)
  refine And.intro (fun g => absurd ((nI_eq (by omega) (by omega)).mp g) hab) (fun _ => ?_)
  refine am_vS am_k215 am_h215 rfl rfl rfl rfl (m_isTick) ?_
  refine am_vc_ok am_k215 [] 100 ?_
  refine And.intro (fun g => absurd h.1 (bI_0.mp g)) (fun _ => ?_)
  refine am_vS am_k215 am_h215 rfl rfl rfl rfl (m_isTick) ?_
  refine am_vc_ok am_k215 [] 100 ?_
  refine And.intro (fun g => absurd h.2.1 (bI_0.mp g)) (fun _ => ?_)
  refine And.intro (fun _ => ?_) (fun g => absurd h.2.2 g)
  refine And.intro (fun g => absurd ((nI_eq (b := 20) (by omega) (by decide)).mp (hk.symm.trans g)) (by omega)) (fun _ => ?_)
  refine am_vS am_k215 am_h215 rfl rfl rfl rfl (m_line ha hb) ?_
  refine am_vc_ok am_k215 [] 100 ?_
  rw [hk]
  refine And.intro (vp_in_nI (N := 20) hk2 (by decide)) ?_
  rw [nI_clamp (by omega)]
  refine And.intro (by rw [q1]; exact vp_in_nI (N := 20) hk2 (by decide)) ?_
  rw [q1, nI_clamp (by omega)]
  refine And.intro (by rw [u3_k _ _ (show 12 ≠ 92 by decide), q1]; exact vp_in_nI (N := 20) hk2 (by decide)) ?_
  rw [u3_k _ _ (show 12 ≠ 92 by decide), q1, nI_clamp (by omega)]
  refine am_vI am_k215 am_r215 rfl ⟨?_, ?_, rfl, rfl, rfl, rfl⟩
  · simp [u3, hk, nI_1]
  · rw [u3_k _ _ (show 12 ≠ 93 by decide), u3_k _ _ (show 12 ≠ 92 by decide), q1, show nI k + 1 = nI (k + 1) from nI_1 k]
theorem Rnet.brk {T n m lo k : Nat} (h : Rnet σ T n m lo k) (hk : k < 20) (g f e : Int32) : Rnet (mbrk (xbrk σ k g f e) k g f e) T n m lo (k + 1) := by
  have E : ∀ q, q ≠ 2 → q ≠ 21 → q ≠ 22 → q ≠ 23 → q ≠ 91 → q ≠ 92 → q ≠ 93 → q ≠ 12 → mbrk (xbrk σ k g f e) k g f e q = σ q := by
    intro q a1 a2 a3 a4 a5 a6 a7 a8
    unfold mbrk xbrk
    rw [u3_kk _ _ a8, u3_kk _ _ a7, u3_kk _ _ a6, u3_kk _ _ a5, u3_kk _ _ a1, u3_kk _ _ a4, u3_kk _ _ a3, u3_kk _ _ a2]
  have E12 : ∀ j, j ≠ 64 → mbrk (xbrk σ k g f e) k g f e 12 0 j = σ 12 0 j := by
    intro j hj
    simp [mbrk, xbrk, u3, hj]
  have e64 : mbrk (xbrk σ k g f e) k g f e 12 0 64 = nI (k + 1) := by simp [mbrk, xbrk, u3]
  have e2 : mbrk (xbrk σ k g f e) k g f e 2 0 0 = nI (k + 1) := by simp [mbrk, xbrk, u3]
  have eL : ∀ i, i < k + 1 → mbrk (xbrk σ k g f e) k g f e 21 0 i = (if i = k then g else σ 21 0 i) ∧ mbrk (xbrk σ k g f e) k g f e 22 0 i = (if i = k then f else σ 22 0 i) ∧ mbrk (xbrk σ k g f e) k g f e 23 0 i = (if i = k then e else σ 23 0 i) ∧ mbrk (xbrk σ k g f e) k g f e 91 0 i = (if i = k then g else σ 91 0 i) ∧ mbrk (xbrk σ k g f e) k g f e 92 0 i = (if i = k then f else σ 92 0 i) ∧ mbrk (xbrk σ k g f e) k g f e 93 0 i = (if i = k then e else σ 93 0 i) := by
    intro i _
    simp [mbrk, xbrk, u3]
  generalize mbrk (xbrk σ k g f e) k g f e = s at E E12 e64 e2 eL ⊢
  unfold Rnet Rcall Ocall Fcall Rframe Oframe asksU undU at h ⊢
  have d : ∀ q, (Nat.ble q 1 || Nat.beq q 3 || Nat.beq q 8 || (Nat.ble 13 q && Nat.ble q 20) || (Nat.ble 62 q && Nat.ble q 90)) = true → s q = σ q := by
    intro q z
    simp only [Bool.or_eq_true, Bool.and_eq_true, Nat.ble_eq, Nat.beq_eq] at z
    exact E q (by omega) (by omega) (by omega) (by omega) (by omega) (by omega) (by omega) (by omega)
  rw [d 0 rfl, d 1 rfl, d 3 rfl, d 8 rfl, d 13 rfl, d 14 rfl, d 15 rfl, d 16 rfl, d 17 rfl, d 18 rfl, d 19 rfl, d 20 rfl, d 62 rfl, d 63 rfl, d 64 rfl, d 65 rfl, d 66 rfl, d 67 rfl, d 68 rfl, d 69 rfl, d 70 rfl, d 71 rfl, d 72 rfl, d 73 rfl, d 74 rfl, d 75 rfl, d 76 rfl, d 77 rfl, d 78 rfl, d 79 rfl, d 80 rfl, d 81 rfl, d 82 rfl, d 83 rfl, d 84 rfl, d 85 rfl, d 86 rfl, d 87 rfl, d 88 rfl, d 89 rfl, d 90 rfl, E12 5 (by decide), E12 34 (by decide), E12 54 (by decide), E12 62 (by decide), E12 63 (by decide)]
  obtain ⟨h1, h2, h3, h4, h5, h6, h7, h8, h9, h10, h11, ⟨-, -, -, h12⟩, h13⟩ := h
  refine ⟨h1, h2, h3, h4, h5, h6, h7, h8, h9, h10, h11, ⟨e2, e64, by omega, fun i hi => ?_⟩, h13⟩
  obtain ⟨l1, l2, l3, l4, l5, l6⟩ := eL i hi
  rw [l1, l2, l3, l4, l5, l6]
  by_cases hik : i = k
  · simp [hik]
  · simp only [if_neg hik]; exact h12 i (by omega)
theorem brk_iff {f e : Int32} : (0 ≤ f ∧ e ≤ 9999 ∧ f ≤ e) ↔ ((0 ≤ f ∧ f ≤ 9999) ∧ (0 ≤ e ∧ e ≤ 9999) ∧ f ≤ e) :=
  ⟨fun ⟨a, b, c⟩ => ⟨⟨a, Int32.le_trans c b⟩, ⟨Int32.le_trans a c, b⟩, c⟩, fun ⟨⟨a, _⟩, ⟨_, b⟩, c⟩ => ⟨a, b, c⟩⟩
theorem LC_breaks (h : Rall σ τ) (a b f e : Int32) : LC l 119 215 [aI a, aI b, aI f, aI e] σ τ t := by
  have e6 : ∀ x : Int32, (0 ≤ x ∧ x ≤ 5) ↔ (0 ≤ x ∧ x < 6) := fun x => leN (n := 6) (N := 6) (by decide) (by decide)
  obtain ⟨-, -, -, -, -, -, T, n, m, lo, k, hN⟩ := id h
  have hk := hN.2.2.2.2.2.2.2.2.2.2.2.1
  by_cases hc : ((0 ≤ a ∧ a < 6) ∧ (0 ≤ b ∧ b < 6) ∧ a ≠ b) ∧ 0 ≤ f ∧ e ≤ 9999 ∧ f ≤ e
  · have hc2 : ((0 ≤ a ∧ a ≤ 5) ∧ (0 ≤ b ∧ b ≤ 5) ∧ a ≠ b) ∧ (0 ≤ f ∧ f ≤ 9999) ∧ (0 ≤ e ∧ e ≤ 9999) ∧ f ≤ e := ⟨⟨(e6 a).mpr hc.1.1, (e6 b).mpr hc.1.2.1, hc.1.2.2⟩, brk_iff.mp hc.2⟩
    by_cases hk2 : k < 20
    · obtain ⟨⟨ha, hb, hab⟩, hd⟩ := hc
      obtain ⟨a, ha1, rfl⟩ := ix_lt (n := 6) (by decide) ha
      obtain ⟨b, hb1, rfl⟩ := ix_lt (n := 6) (by decide) hb
      refine LC.of (x_breaks ha1 hb1 (fun z => hab (by rw [z])) hd hk.1 hk2) (m_breaks (k := k) ha1 hb1 (fun z => hab (by rw [z])) hc2.2 (by simp [mbrk, xbrk, u3, hk.2.1]) hk2) ?_
      refine h.net (T := T) (n := n) (m := m) (lo := lo) (kk := k + 1) (fun q z1 z2 z3 => ?_) (fun b hb => ?_) (fun j z => ?_) (hN.brk hk2 _ _ _)
      · have d : ∀ c, kNet c = true → q ≠ c := fun c hc e => by rw [e, hc] at z1; cases z1
        unfold mbrk xbrk
        rw [u3_kk _ _ z3, u3_kk _ _ (d 93 rfl), u3_kk _ _ (d 92 rfl), u3_kk _ _ (d 91 rfl), u3_kk _ _ (d 2 rfl), u3_kk _ _ (d 23 rfl), u3_kk _ _ (d 22 rfl), u3_kk _ _ (d 21 rfl)]
      · simp [mbrk, xbrk, u3]
      · have d : j ≠ 64 := fun e => by rw [e] at z; cases z
        simp [mbrk, xbrk, u3, d]
    · obtain rfl : k = 20 := by omega
      exact LC.of (x_breaks_full hc hk.1) (m_breaks_full hc2 hk.2.1) h
  · exact LC.of (x_breaks_bad hc) (m_breaks_bad (fun z => hc ⟨⟨(e6 a).mp z.1.1, (e6 b).mp z.1.2.1, z.1.2.2⟩, brk_iff.mpr z.2⟩)) h
end L8

/-! CASES OF THE LAW: the sending of a frame; ping -/
section L9
variable {l : Launch} {σ σ2 s : tI} {τ τ2 : tL} {t : Option (Nat × Nat)}
abbrev xadd (σ : tI) (m : Nat) (kd a b at' c d : Int32) : tI := u3 (u3 (u3 (u3 (u3 (u3 (u3 (u3 σ 14 0 m kd) 15 0 m a) 16 0 m b) 17 0 m at') 18 0 m 0) 19 0 m c) 20 0 m d) 1 0 0 (nI (m + 1))
abbrev msend (σ : tI) (m : Nat) (kd a b c d : Int32) : tI := u3 (u3 (u3 (u3 (u3 (u3 (u3 (u3 σ 84 0 m kd) 85 0 m a) 86 0 m b) 87 0 m (σ 12 0 5)) 88 0 m 0) 89 0 m c) 90 0 m d) 12 0 54 (nI (m + 1))
theorem x_addF {m : Nat} {kd a b at' c d : Int32} (hm : σ 1 0 0 = nI m) (hm2 : m < 690) : am_D l 5 [aR 1 0, aI kd, aI a, aI b, aI at', aI c, aI d] σ τ (rX t) cX lX (some (aI (nI m))) (xadd σ m kd a b at' c d) τ (rX t) := by
  refine am_D_of am_o5 am_l5 rfl ?_
  refine am_vc_ok am_k5 [] 100 ?_
  refine And.intro (fun _ => ?_) (fun h => absurd (by rw [hm]; exact nI_lt (b := 690) hm2 (by decide)) h)
  refine And.intro (by rw [hm]; exact vp_in_nI (N := 690) hm2 (by decide)) ?_
  rw [hm, nI_clamp (by omega)]
  refine And.intro (vp_in_nI (N := 690) hm2 (by decide)) ?_
  rw [nI_clamp (by omega)]
  refine And.intro (vp_in_nI (N := 690) hm2 (by decide)) ?_
  rw [nI_clamp (by omega)]
  refine And.intro (vp_in_nI (N := 690) hm2 (by decide)) ?_
  rw [nI_clamp (by omega)]
  refine And.intro (vp_in_nI (N := 690) hm2 (by decide)) ?_
  rw [nI_clamp (by omega)]
  refine And.intro (vp_in_nI (N := 690) hm2 (by decide)) ?_
  rw [nI_clamp (by omega)]
  refine And.intro (vp_in_nI (N := 690) hm2 (by decide)) ?_
  rw [nI_clamp (by omega)]
  refine am_vI am_k5 am_r5 rfl ⟨rfl, ?_, rfl, rfl, rfl, rfl⟩
  simp only [xadd]
  rw [u3_k _ _ (show 1 ≠ 20 by decide), u3_k _ _ (show 1 ≠ 19 by decide), u3_k _ _ (show 1 ≠ 18 by decide), u3_k _ _ (show 1 ≠ 17 by decide), u3_k _ _ (show 1 ≠ 16 by decide), u3_k _ _ (show 1 ≠ 15 by decide), u3_k _ _ (show 1 ≠ 14 by decide), hm, show nI m + 1 = nI (m + 1) from nI_1 m]
theorem m_send {m : Nat} {kd a b c d : Int32} (hm : σ 12 0 54 = nI m) (hm2 : m < 690) : am_D l 209 [aR 12 0, aI kd, aI a, aI b, aI c, aI d] σ τ (rX t) cX lX (some (aI (nI m))) (msend σ m kd a b c d) τ (rX t) := by
  refine am_D_of am_o209 am_l209 rfl ?_
  refine am_vc_ok am_k209 [] 100 ?_
  refine And.intro (by rw [hm]; exact vp_in_nI (N := 1200) (by omega) (by decide)) ?_
  rw [hm, nI_clamp (by omega)]
  refine And.intro (by rw [u3_k _ _ (show 12 ≠ 84 by decide), hm]; exact vp_in_nI (N := 1200) (by omega) (by decide)) ?_
  simp only [u3_k _ _ (show 12 ≠ 84 by decide), hm]
  rw [nI_clamp (by omega)]
  refine And.intro (by rw [u3_k _ _ (show 12 ≠ 85 by decide), u3_k _ _ (show 12 ≠ 84 by decide), hm]; exact vp_in_nI (N := 1200) (by omega) (by decide)) ?_
  simp only [u3_k _ _ (show 12 ≠ 85 by decide), u3_k _ _ (show 12 ≠ 84 by decide), hm]
  rw [nI_clamp (by omega)]
  refine And.intro (by rw [u3_k _ _ (show 12 ≠ 86 by decide), u3_k _ _ (show 12 ≠ 85 by decide), u3_k _ _ (show 12 ≠ 84 by decide), hm]; exact vp_in_nI (N := 1200) (by omega) (by decide)) ?_
  simp only [u3_k _ _ (show 12 ≠ 86 by decide), u3_k _ _ (show 12 ≠ 85 by decide), u3_k _ _ (show 12 ≠ 84 by decide), hm]
  rw [nI_clamp (by omega)]
  refine And.intro (by rw [u3_k _ _ (show 12 ≠ 87 by decide), u3_k _ _ (show 12 ≠ 86 by decide), u3_k _ _ (show 12 ≠ 85 by decide), u3_k _ _ (show 12 ≠ 84 by decide), hm]; exact vp_in_nI (N := 1200) (by omega) (by decide)) ?_
  simp only [u3_k _ _ (show 12 ≠ 87 by decide), u3_k _ _ (show 12 ≠ 86 by decide), u3_k _ _ (show 12 ≠ 85 by decide), u3_k _ _ (show 12 ≠ 84 by decide), hm]
  rw [nI_clamp (by omega)]
  refine And.intro (by rw [u3_k _ _ (show 12 ≠ 88 by decide), u3_k _ _ (show 12 ≠ 87 by decide), u3_k _ _ (show 12 ≠ 86 by decide), u3_k _ _ (show 12 ≠ 85 by decide), u3_k _ _ (show 12 ≠ 84 by decide), hm]; exact vp_in_nI (N := 1200) (by omega) (by decide)) ?_
  simp only [u3_k _ _ (show 12 ≠ 88 by decide), u3_k _ _ (show 12 ≠ 87 by decide), u3_k _ _ (show 12 ≠ 86 by decide), u3_k _ _ (show 12 ≠ 85 by decide), u3_k _ _ (show 12 ≠ 84 by decide), hm]
  rw [nI_clamp (by omega)]
  refine And.intro (by rw [u3_k _ _ (show 12 ≠ 89 by decide), u3_k _ _ (show 12 ≠ 88 by decide), u3_k _ _ (show 12 ≠ 87 by decide), u3_k _ _ (show 12 ≠ 86 by decide), u3_k _ _ (show 12 ≠ 85 by decide), u3_k _ _ (show 12 ≠ 84 by decide), hm]; exact vp_in_nI (N := 1200) (by omega) (by decide)) ?_
  simp only [u3_k _ _ (show 12 ≠ 89 by decide), u3_k _ _ (show 12 ≠ 88 by decide), u3_k _ _ (show 12 ≠ 87 by decide), u3_k _ _ (show 12 ≠ 86 by decide), u3_k _ _ (show 12 ≠ 85 by decide), u3_k _ _ (show 12 ≠ 84 by decide), hm]
  rw [nI_clamp (by omega)]
  refine am_vI am_k209 am_r209 rfl ⟨?_, ?_, rfl, rfl, rfl, rfl⟩
  · simp [u3, hm]
  · simp only [msend]
    rw [u3_k _ _ (show 12 ≠ 90 by decide), u3_k _ _ (show 12 ≠ 89 by decide), u3_k _ _ (show 12 ≠ 88 by decide), u3_k _ _ (show 12 ≠ 87 by decide), u3_k _ _ (show 12 ≠ 86 by decide), u3_k _ _ (show 12 ≠ 85 by decide), u3_k _ _ (show 12 ≠ 84 by decide), hm, show nI m + 1 = nI (m + 1) from nI_1 m]
theorem m_sendBack {m c : Nat} {kd d : Int32} (hc : c < 30) (hm : σ 12 0 54 = nI m) (hm2 : m < 690) : am_D l 210 [aR 12 0, aI (nI c), aI kd, aI d] σ τ (rX t) cX lX (some (aI (nI m))) (msend σ m kd (σ 66 0 c) (σ 65 0 c) (nI c) d) τ (rX t) := by
  refine am_D_of am_o210 am_l210 rfl ?_
  refine am_vc_ok am_k210 [] 100 ?_
  refine And.intro (vp_in_nI (N := 30) hc (by decide)) ?_
  refine And.intro (vp_in_nI (N := 30) hc (by decide)) ?_
  rw [nI_clamp (by omega)]
  refine am_vO am_k210 am_h210 rfl rfl rfl rfl (m_send hm hm2) ?_
  refine am_vc_ok am_k210 [] 100 ?_
  exact am_vI am_k210 am_r210 rfl ⟨rfl, rfl, rfl, rfl, rfl, rfl⟩
theorem m_sendOut {m c : Nat} {kd d : Int32} (hc : c < 30) (hm : σ 12 0 54 = nI m) (hm2 : m < 690) : am_D l 211 [aR 12 0, aI (nI c), aI kd, aI d] σ τ (rX t) cX lX (some (aI (nI m))) (msend σ m kd (σ 65 0 c) (σ 66 0 c) (nI c) d) τ (rX t) := by
  refine am_D_of am_o211 am_l211 rfl ?_
  refine am_vc_ok am_k211 [] 100 ?_
  refine And.intro (vp_in_nI (N := 30) hc (by decide)) ?_
  refine And.intro (vp_in_nI (N := 30) hc (by decide)) ?_
  rw [nI_clamp (by omega)]
  refine am_vO am_k211 am_h211 rfl rfl rfl rfl (m_send hm hm2) ?_
  refine am_vc_ok am_k211 [] 100 ?_
  exact am_vI am_k211 am_r211 rfl ⟨rfl, rfl, rfl, rfl, rfl, rfl⟩
/-- Rnet without the accounting; the accounting -/
def Rnet0 (σ : tI) (T n m lo k : Nat) : Prop :=
  (σ 3 0 4 = nI T ∧ σ 12 0 5 = nI T ∧ T ≤ 9999) ∧ (σ 3 0 5 = nI n ∧ σ 12 0 34 = nI n ∧ n ≤ 30) ∧ (∀ c, c < n → Rcall σ c ∧ Ocall σ c ∧ σ 0 c 11 = nI (undU σ lo m c)) ∧ (∀ c, n ≤ c → c < 30 → Fcall σ c) ∧
  σ 3 0 6 = nI (cntN (fun c => decide (σ 71 0 c = 0)) n) ∧
  (∀ a, a < 6 → σ 8 a 2 = σ 62 0 a ∧ σ 8 a 3 = σ 63 0 a ∧ σ 8 a 4 = σ 64 0 a ∧ (∃ h, 1 ≤ h ∧ h ≤ 3 ∧ σ 62 0 a = nI h) ∧ (∃ h, h ≤ 9 ∧ σ 63 0 a = nI h) ∧ (∃ h, h ≤ 99 ∧ σ 64 0 a = nI h) ∧
    σ 8 a 5 = nI (cntN (fun c => decide (σ 66 0 c = nI a ∧ σ 77 0 c = 1)) n) ∧ σ 8 a 6 = nI (cntN (fun c => decide (σ 66 0 c = nI a ∧ σ 77 0 c = 2)) n)) ∧
  (σ 1 0 0 = nI m ∧ σ 12 0 54 = nI m) ∧ (∀ f, f < m → Rframe σ f ∧ Oframe σ n f) ∧ σ 1 0 1 = nI (cntN (fun f => decide (σ 88 0 f = 2)) m) ∧
  (σ 1 0 2 = nI lo ∧ lo ≤ m ∧ (∀ f, f < lo → σ 88 0 f = 1 ∨ σ 88 0 f = 2) ∧ ∀ f, lo ≤ f → f < m → σ 88 0 f = 0) ∧
  (∀ f c, lo ≤ f → f < m → σ 84 0 f = 1 → σ 89 0 f = nI c → c < n → σ 90 0 f = σ 72 0 c) ∧
  (σ 2 0 0 = nI k ∧ σ 12 0 64 = nI k ∧ k ≤ 20 ∧ ∀ i, i < k → σ 21 0 i = σ 91 0 i ∧ σ 22 0 i = σ 92 0 i ∧ σ 23 0 i = σ 93 0 i)
def Racc (σ : tI) (n m lo : Nat) : Prop :=
  ∃ P S : Nat, ∃ Rp Kc : Nat → Nat, σ 3 0 7 = nI P ∧ σ 12 0 62 = nI P ∧ P ≤ 100 ∧ σ 3 0 8 = nI S ∧ σ 12 0 63 = nI S ∧ S ≤ 200 ∧ m = P + S + sumN (fun c => (σ 72 0 c).toNatClampNeg + 1 + Rp c + Kc c) n ∧
    ∀ c, c < n → Rp c + (if σ 77 0 c = 0 then 0 else 1) + asksU σ lo m c ≤ (σ 72 0 c).toNatClampNeg + 1 ∧ Kc c ≤ (if σ 71 0 c = 0 then 0 else 1) ∧ (σ 81 0 c).toNatClampNeg ≤ 9 * lo
theorem Rnet.split {T n m lo k : Nat} (h : Rnet σ T n m lo k) : Rnet0 σ T n m lo k ∧ Racc σ n m lo := by
  obtain ⟨h1, h2, h3, h4, h5, h6, h7, h8, h9, h10, h11, h12, h13⟩ := h
  exact ⟨⟨h1, h2, h3, h4, h5, h6, h7, h8, h9, h10, h11, h12⟩, h13⟩
theorem Rnet.join {T n m lo k : Nat} (h : Rnet0 σ T n m lo k) (ha : Racc σ n m lo) : Rnet σ T n m lo k := by
  obtain ⟨h1, h2, h3, h4, h5, h6, h7, h8, h9, h10, h11, h12⟩ := h
  exact ⟨h1, h2, h3, h4, h5, h6, h7, h8, h9, h10, h11, h12, ha⟩
/-- what adding frame m leaves as it was -/
def kAdd : Nat → Bool := fun q => Nat.beq q 2 || Nat.beq q 8 || Nat.beq q 13 || (Nat.ble 21 q && Nat.ble q 23) || (Nat.ble 62 q && Nat.ble q 83) || (Nat.ble 91 q && Nat.ble q 93)
def kFr : Nat → Bool := fun q => (Nat.ble 14 q && Nat.ble q 20) || (Nat.ble 84 q && Nat.ble q 90)
theorem Rnet0.add {T n m lo k : Nat} (h : Rnet0 σ T n m lo k) (E : ∀ q, kAdd q = true → s q = σ q) (E0 : ∀ c j, j ≠ 11 → s 0 c j = σ 0 c j) (E0u : ∀ c, c < n → s 0 c 11 = σ 0 c 11 + (if s 89 0 m = nI c then 1 else 0)) (E0f : ∀ c, n ≤ c → c < 30 → s 0 c 11 = σ 0 c 11) (E1 : s 1 0 0 = nI (m + 1) ∧ s 12 0 54 = nI (m + 1) ∧ s 1 0 1 = σ 1 0 1 ∧ s 1 0 2 = σ 1 0 2) (E3 : s 3 0 4 = σ 3 0 4 ∧ s 3 0 5 = σ 3 0 5 ∧ s 3 0 6 = σ 3 0 6 ∧ s 12 0 5 = σ 12 0 5 ∧ s 12 0 34 = σ 12 0 34 ∧ s 12 0 64 = σ 12 0 64) (EF : ∀ q f, kFr q = true → f ≠ m → s q 0 f = σ q 0 f) (hR : Rframe s m) (hO : Oframe s n m) (h88 : s 88 0 m = 0) (h90 : ∀ c, s 84 0 m = 1 → s 89 0 m = nI c → c < n → s 90 0 m = σ 72 0 c) : Rnet0 s T n (m + 1) lo k := by
  obtain ⟨h1, h2, h3, h4, h5, h6, h7, h8, h9, h10, h11, h12⟩ := h
  have eC : ∀ c, Rcall σ c → Rcall s c := by
    intro c hc
    unfold Rcall at hc ⊢
    rw [E0 c 0 (by decide), E0 c 1 (by decide), E0 c 2 (by decide), E0 c 3 (by decide), E0 c 4 (by decide), E0 c 5 (by decide), E0 c 6 (by decide), E0 c 7 (by decide), E0 c 8 (by decide), E0 c 9 (by decide), E0 c 10 (by decide), E0 c 12 (by decide), E0 c 13 (by decide), E0 c 14 (by decide), E0 c 15 (by decide), E0 c 16 (by decide), E0 c 17 (by decide), E0 c 18 (by decide), E 13 rfl, E 65 rfl, E 66 rfl, E 67 rfl, E 68 rfl, E 69 rfl, E 70 rfl, E 71 rfl, E 72 rfl, E 73 rfl, E 74 rfl, E 75 rfl, E 76 rfl, E 77 rfl, E 78 rfl, E 79 rfl, E 80 rfl, E 81 rfl, E 82 rfl, E 83 rfl]
    exact hc
  have eO : ∀ c, Ocall σ c → Ocall s c := by
    intro c hc
    unfold Ocall at hc ⊢
    rw [E 65 rfl, E 66 rfl, E 67 rfl, E 68 rfl, E 70 rfl, E 71 rfl, E 72 rfl, E 77 rfl, E 78 rfl, E 81 rfl, E 82 rfl]
    exact hc
  have eU : ∀ c, undU s lo (m + 1) c = undU σ lo m c + (if s 89 0 m = nI c then 1 else 0) := by
    intro c
    show cntN _ m + _ = _
    have e1 : cntN (fun f => decide (lo ≤ f ∧ s 89 0 f = nI c)) m = undU σ lo m c := by
      refine cntN_cg (fun f hf => ?_)
      rw [EF 89 f rfl (by omega)]
    rw [e1]
    congr 1
    have hlo := h10.2.1
    by_cases hx : s 89 0 m = nI c
    · simp [hx, hlo]
    · simp [hx]
  refine ⟨?_, ?_, ?_, ?_, ?_, ?_, ⟨E1.1, E1.2.1⟩, ?_, ?_, ?_, ?_, ?_⟩
  · rw [E3.1, E3.2.2.2.1]; exact h1
  · rw [E3.2.1, E3.2.2.2.2.1]; exact h2
  · intro c hc
    obtain ⟨g1, g2, g3⟩ := h3 c hc
    refine ⟨eC c g1, eO c g2, ?_⟩
    rw [eU, E0u c hc, g3]
    split
    · exact nI_1 _
    · simp
  · intro c hc1 hc2
    have g := h4 c hc1 hc2
    unfold Fcall at g ⊢
    rw [E0f c hc1 hc2, E0 c 7 (by decide), E0 c 8 (by decide), E0 c 9 (by decide), E0 c 12 (by decide), E0 c 14 (by decide), E0 c 15 (by decide), E0 c 16 (by decide), E0 c 17 (by decide), E0 c 18 (by decide), E 13 rfl, E 72 rfl, E 73 rfl, E 77 rfl, E 80 rfl, E 81 rfl, E 82 rfl, E 83 rfl]
    exact g
  · rw [E3.2.2.1, E 71 rfl]; exact h5
  · rw [E 8 rfl, E 62 rfl, E 63 rfl, E 64 rfl, E 66 rfl, E 77 rfl]; exact h6
  · intro f hf
    by_cases hfm : f = m
    · rw [hfm]; exact ⟨hR, hO⟩
    · obtain ⟨g1, g2⟩ := h8 f (by omega)
      unfold Rframe at g1 ⊢
      unfold Oframe at g2 ⊢
      rw [EF 14 f rfl hfm, EF 15 f rfl hfm, EF 16 f rfl hfm, EF 17 f rfl hfm, EF 18 f rfl hfm, EF 19 f rfl hfm, EF 20 f rfl hfm, EF 84 f rfl hfm, EF 85 f rfl hfm, EF 86 f rfl hfm, EF 87 f rfl hfm, EF 88 f rfl hfm, EF 89 f rfl hfm, EF 90 f rfl hfm]
      exact ⟨g1, g2⟩
  · rw [E1.2.2.1, h9]
    have e1 : cntN (fun f => decide (s 88 0 f = 2)) (m + 1) = cntN (fun f => decide (σ 88 0 f = 2)) m := by
      show cntN _ m + _ = _
      rw [cntN_cg (q := fun f => decide (σ 88 0 f = 2)) (fun f hf => by rw [EF 88 f rfl (by omega)])]
      simp [h88]
    rw [e1]
  · obtain ⟨g1, g2, g3, g4⟩ := h10
    refine ⟨E1.2.2.2.trans g1, by omega, fun f hf => ?_, fun f hf1 hf2 => ?_⟩
    · rw [EF 88 f rfl (by omega)]; exact g3 f hf
    · by_cases hfm : f = m
      · rw [hfm]; exact h88
      · rw [EF 88 f rfl hfm]; exact g4 f hf1 (by omega)
  · intro f c hf1 hf2 hf3 hf4 hc
    rw [E 72 rfl]
    by_cases hfm : f = m
    · rw [hfm] at hf3 hf4 ⊢; exact h90 c hf3 hf4 hc
    · rw [EF 84 f rfl hfm] at hf3
      rw [EF 89 f rfl hfm] at hf4
      rw [EF 90 f rfl hfm]
      exact h11 f c hf1 (by omega) hf3 hf4 hc
  · rw [E 2 rfl, E3.2.2.2.2.2, E 21 rfl, E 22 rfl, E 23 rfl, E 91 rfl, E 92 rfl, E 93 rfl]; exact h12
theorem x_ping_bad {a b : Int32} (h : ¬ ((0 ≤ a ∧ a < 6) ∧ (0 ≤ b ∧ b < 6) ∧ a ≠ b)) : am_D l 120 [aR 11 0, aI a, aI b] σ τ (rX t) cX lX (some (aI (-1))) σ τ (rX t) := by
  refine am_D_of am_o120 am_l120 rfl ?_
  refine am_vc_ok am_k120 [] 100 ?_
  refine am_vS am_k120 am_h120 rfl rfl rfl rfl (x_isPair) ?_
  refine am_vc_ok am_k120 [] 100 ?_
  refine And.intro (fun h1 => ?_) (fun h1 => ?_)
  · exact am_vI am_k120 am_r120 rfl ⟨rfl, rfl, rfl, rfl, rfl, rfl⟩
  · exact absurd (bI_1.mp h1) h
theorem x_ping_full {a b : Int32} (h : (0 ≤ a ∧ a < 6) ∧ (0 ≤ b ∧ b < 6) ∧ a ≠ b) (hP : σ 3 0 7 = nI 100) : am_D l 120 [aR 11 0, aI a, aI b] σ τ (rX t) cX lX (some (aI (-2))) σ τ (rX t) := by
  refine am_D_of am_o120 am_l120 rfl ?_
  refine am_vc_ok am_k120 [] 100 ?_
  refine am_vS am_k120 am_h120 rfl rfl rfl rfl (x_isPair) ?_
  refine am_vc_ok am_k120 [] 100 ?_
  refine And.intro (fun g => absurd h (bI_0.mp g)) (fun _ => ?_)
  refine And.intro (fun g => absurd g (by rw [hP]; decide)) (fun _ => ?_)
  exact am_vI am_k120 am_r120 rfl ⟨rfl, rfl, rfl, rfl, rfl, rfl⟩
theorem x_ping {P m : Nat} {a b : Int32} (h : (0 ≤ a ∧ a < 6) ∧ (0 ≤ b ∧ b < 6) ∧ a ≠ b) (hP : σ 3 0 7 = nI P) (hP2 : P < 100) (hm : σ 1 0 0 = nI m) (hm2 : m < 690) : am_D l 120 [aR 11 0, aI a, aI b] σ τ (rX t) cX lX (some (aI (nI m))) (xadd (u3 σ 3 0 7 (nI (P + 1))) m 0 a b (σ 3 0 4) (-9) 0) τ (rX t) := by
  refine am_D_of am_o120 am_l120 rfl ?_
  refine am_vc_ok am_k120 [] 100 ?_
  refine am_vS am_k120 am_h120 rfl rfl rfl rfl (x_isPair) ?_
  refine am_vc_ok am_k120 [] 100 ?_
  refine And.intro (fun g => absurd h (bI_0.mp g)) (fun _ => ?_)
  refine And.intro (fun _ => ?_) (fun g => absurd (by rw [hP]; exact nI_lt (b := 100) hP2 (by decide)) g)
  refine am_vc_ok am_k120 [] 100 ?_
  refine am_vO am_k120 am_h120 rfl rfl rfl rfl (x_addF (m := m) (by simp [u3, hm]) hm2) ?_
  refine am_vc_ok am_k120 [] 100 ?_
  refine am_vI am_k120 am_r120 rfl ⟨rfl, ?_, rfl, rfl, rfl, rfl⟩
  rw [hP, show nI P + 1 = nI (P + 1) from nI_1 P]
  rfl
theorem m_ping_bad {a b : Int32} (h : ¬ ((0 ≤ a ∧ a ≤ 5) ∧ (0 ≤ b ∧ b ≤ 5) ∧ a ≠ b)) : am_D l 217 [aR 12 0, aI a, aI b] σ τ (rX t) cX lX (some (aI (-1))) σ τ (rX t) := by
  refine am_D_of am_o217 am_l217 rfl ?_
  refine am_vc_ok am_k217 [] 100 ?_
  refine am_vS am_k217 am_h217 rfl rfl rfl rfl (m_isSix) ?_
  refine am_vc_ok am_k217 [] 100 ?_
  refine And.intro (fun h1 => ?_) (fun h1 => ?_)
  · exact am_vI am_k217 am_r217 rfl ⟨rfl, rfl, rfl, rfl, rfl, rfl⟩
  refine am_vS am_k217 am_h217 rfl rfl rfl rfl (m_isSix) ?_
  refine am_vc_ok am_k217 [] 100 ?_
  refine And.intro (fun h2 => ?_) (fun h2 => ?_)
  · exact am_vI am_k217 am_r217 rfl ⟨rfl, rfl, rfl, rfl, rfl, rfl⟩
  refine And.intro (fun h3 => ?_) (fun h3 => ?_)
  · exact am_vI am_k217 am_r217 rfl ⟨rfl, rfl, rfl, rfl, rfl, rfl⟩
  · exact absurd ⟨bI_1.mp h1, bI_1.mp h2, h3⟩ h
theorem m_ping_full {a b : Int32} (h : (0 ≤ a ∧ a ≤ 5) ∧ (0 ≤ b ∧ b ≤ 5) ∧ a ≠ b) (hP : σ 12 0 62 = nI 100) : am_D l 217 [aR 12 0, aI a, aI b] σ τ (rX t) cX lX (some (aI (-2))) σ τ (rX t) := by
  refine am_D_of am_o217 am_l217 rfl ?_
  refine am_vc_ok am_k217 [] 100 ?_
  refine am_vS am_k217 am_h217 rfl rfl rfl rfl (m_isSix) ?_
  refine am_vc_ok am_k217 [] 100 ?_
  refine And.intro (fun g => absurd h.1 (bI_0.mp g)) (fun _ => ?_)
  refine am_vS am_k217 am_h217 rfl rfl rfl rfl (m_isSix) ?_
  refine am_vc_ok am_k217 [] 100 ?_
  refine And.intro (fun g => absurd h.2.1 (bI_0.mp g)) (fun _ => ?_)
  refine And.intro (fun g => absurd g h.2.2) (fun _ => ?_)
  refine And.intro (fun _ => ?_) (fun g => absurd hP g)
  exact am_vI am_k217 am_r217 rfl ⟨rfl, rfl, rfl, rfl, rfl, rfl⟩
theorem m_ping {P m : Nat} {a b : Int32} (h : (0 ≤ a ∧ a ≤ 5) ∧ (0 ≤ b ∧ b ≤ 5) ∧ a ≠ b) (hP : σ 12 0 62 = nI P) (hP2 : P < 100) (hm : σ 12 0 54 = nI m) (hm2 : m < 690) : am_D l 217 [aR 12 0, aI a, aI b] σ τ (rX t) cX lX (some (aI (nI m))) (msend (u3 σ 12 0 62 (nI (P + 1))) m 0 a b (-9) 0) τ (rX t) := by
  refine am_D_of am_o217 am_l217 rfl ?_
  refine am_vc_ok am_k217 [] 100 ?_
  refine am_vS am_k217 am_h217 rfl rfl rfl rfl (m_isSix) ?_
  refine am_vc_ok am_k217 [] 100 ?_
  refine And.intro (fun g => absurd h.1 (bI_0.mp g)) (fun _ => ?_)
  refine am_vS am_k217 am_h217 rfl rfl rfl rfl (m_isSix) ?_
  refine am_vc_ok am_k217 [] 100 ?_
  refine And.intro (fun g => absurd h.2.1 (bI_0.mp g)) (fun _ => ?_)
  refine And.intro (fun g => absurd g h.2.2) (fun _ => ?_)
  refine And.intro (fun g => absurd ((nI_eq (b := 100) (by omega) (by decide)).mp (hP.symm.trans g)) (by omega)) (fun _ => ?_)
  refine am_vc_ok am_k217 [] 100 ?_
  refine am_vO am_k217 am_h217 rfl rfl rfl rfl (m_send (m := m) (by simp [u3, hm]) hm2) ?_
  refine am_vc_ok am_k217 [] 100 ?_
  refine am_vI am_k217 am_r217 rfl ⟨rfl, ?_, rfl, rfl, rfl, rfl⟩
  rw [hP, show nI P + 1 = nI (P + 1) from nI_1 P]
abbrev sping (σ : tI) (P m : Nat) (a b : Int32) : tI := msend (u3 (xadd (u3 σ 3 0 7 (nI (P + 1))) m 0 a b (σ 3 0 4) (-9) 0) 12 0 62 (nI (P + 1))) m 0 a b (-9) 0
theorem sping_k {P m q : Nat} {a b : Int32} (h3 : q ≠ 3) (h1 : q ≠ 1) (h12 : q ≠ 12) (hF : kFr q = false) : sping σ P m a b q = σ q := by
  have d : ∀ c, kFr c = true → q ≠ c := fun c hc e => by rw [e, hc] at hF; cases hF
  simp only [sping, msend, xadd]
  rw [u3_kk _ _ h12, u3_kk _ _ (d 90 rfl), u3_kk _ _ (d 89 rfl), u3_kk _ _ (d 88 rfl), u3_kk _ _ (d 87 rfl), u3_kk _ _ (d 86 rfl), u3_kk _ _ (d 85 rfl), u3_kk _ _ (d 84 rfl), u3_kk _ _ h12, u3_kk _ _ h1, u3_kk _ _ (d 20 rfl), u3_kk _ _ (d 19 rfl), u3_kk _ _ (d 18 rfl), u3_kk _ _ (d 17 rfl), u3_kk _ _ (d 16 rfl), u3_kk _ _ (d 15 rfl), u3_kk _ _ (d 14 rfl), u3_kk _ _ h3]
theorem sping_f {P m q f : Nat} {a b : Int32} (hF : kFr q = true) (hf : f ≠ m) : sping σ P m a b q 0 f = σ q 0 f := by
  have d : ∀ c, kFr c = false → q ≠ c := fun c hc e => by rw [e, hc] at hF; cases hF
  simp [sping, msend, xadd, u3, hf, d 12 rfl, d 1 rfl, d 3 rfl]
theorem Rnet.ping {T n m lo k P : Nat} {a b : Int32} (h : Rnet σ T n m lo k) (hP : σ 3 0 7 = nI P) (hP2 : P < 100) : Rnet (sping σ P m a b) T n (m + 1) lo k := by
  obtain ⟨h0, ha⟩ := h.split
  have n9 : ∀ c, c < 30 → ¬ (-9 : Int32) = nI c := fun c hc e => absurd (e ▸ (nI_pos' (n := c) (by omega)) : (0 : Int32) ≤ -9) (by decide)
  have kd : ∀ q, kAdd q = true → q ≠ 3 ∧ q ≠ 1 ∧ q ≠ 12 ∧ kFr q = false := by
    intro q z
    have z2 := z
    unfold kAdd at z2
    simp only [Bool.or_eq_true, Bool.and_eq_true, Nat.ble_eq, Nat.beq_eq] at z2
    refine ⟨by omega, by omega, by omega, ?_⟩
    cases hq : kFr q with
    | false => rfl
    | true =>
      exfalso
      unfold kFr at hq
      simp only [Bool.or_eq_true, Bool.and_eq_true, Nat.ble_eq] at hq
      omega
  have v89 : sping σ P m a b 89 0 m = -9 := by simp [sping, msend, xadd, u3]
  have hn := h0.2.1.2.2
  have e72 : sping σ P m a b 72 = σ 72 := sping_k (by decide) (by decide) (by decide) rfl
  have e71 : sping σ P m a b 71 = σ 71 := sping_k (by decide) (by decide) (by decide) rfl
  have e77 : sping σ P m a b 77 = σ 77 := sping_k (by decide) (by decide) (by decide) rfl
  have e81 : sping σ P m a b 81 = σ 81 := sping_k (by decide) (by decide) (by decide) rfl
  refine Rnet.join (h0.add (fun q z => sping_k (kd q z).1 (kd q z).2.1 (kd q z).2.2.1 (kd q z).2.2.2) (fun c j _ => by rw [sping_k (by decide) (by decide) (by decide) rfl]) (fun c hc => by rw [v89, if_neg (n9 c (by omega)), sping_k (by decide) (by decide) (by decide) rfl]; simp) (fun c _ _ => by rw [sping_k (by decide) (by decide) (by decide) rfl]) ?_ ?_ (fun q f z hf => sping_f z hf) ?_ ?_ ?_ ?_) ?_
  · simp [sping, msend, xadd, u3]
  · simp [sping, msend, xadd, u3]
  · have hT := h0.1
    simp [Rframe, sping, msend, xadd, u3, hT.1, hT.2.1]
  · exact Or.inl ⟨by simp [sping, msend, xadd, u3], v89⟩
  · simp [sping, msend, xadd, u3]
  · intro c h1
    exact absurd h1 (by simp [sping, msend, xadd, u3])
  · obtain ⟨P2, S, Rp, Kc, g1, g2, g3, g4, g5, g6, g7, g8⟩ := ha
    obtain rfl : P2 = P := (nI_eq (by omega) (by omega)).mp (g1.symm.trans hP)
    refine ⟨P2 + 1, S, Rp, Kc, by simp [sping, msend, xadd, u3], by simp [sping, msend, xadd, u3], by omega, ?_, ?_, g6, ?_, ?_⟩
    · rw [← g4]; simp [sping, msend, xadd, u3]
    · rw [← g5]; simp [sping, msend, xadd, u3]
    · rw [e72]; omega
    · intro c hc
      have eA : asksU (sping σ P2 m a b) lo (m + 1) c = asksU σ lo m c := by
        show cntN _ m + _ = _
        have e1 : cntN (fun f => decide (lo ≤ f ∧ sping σ P2 m a b 84 0 f = 1 ∧ sping σ P2 m a b 89 0 f = nI c)) m = asksU σ lo m c := by
          refine cntN_cg (fun f hf => ?_)
          rw [sping_f rfl (by omega), sping_f rfl (by omega)]
        rw [e1]
        have e2 : ¬ (lo ≤ m ∧ sping σ P2 m a b 84 0 m = 1 ∧ sping σ P2 m a b 89 0 m = nI c) := fun z => n9 c (by omega) (v89.symm.trans z.2.2)
        simp only [decide_eq_true_eq, if_neg e2]
        rfl
      rw [eA, e72, e71, e77, e81]
      exact g8 c hc
theorem LC_ping (h : Rall σ τ) (a b : Int32) : LC l 120 217 [aI a, aI b] σ τ t := by
  have e6 : ∀ x : Int32, (0 ≤ x ∧ x ≤ 5) ↔ (0 ≤ x ∧ x < 6) := fun x => leN (n := 6) (N := 6) (by decide) (by decide)
  obtain ⟨-, -, -, -, -, -, T, n, m, lo, k, hN⟩ := id h
  obtain ⟨h0, P, S, Rp, Kc, g1, g2, g3, -⟩ := hN.split
  have hm := h0.2.2.2.2.2.2.1
  by_cases hc : (0 ≤ a ∧ a < 6) ∧ (0 ≤ b ∧ b < 6) ∧ a ≠ b
  · have hc2 : (0 ≤ a ∧ a ≤ 5) ∧ (0 ≤ b ∧ b ≤ 5) ∧ a ≠ b := ⟨(e6 a).mpr hc.1, (e6 b).mpr hc.2.1, hc.2.2⟩
    by_cases hP : P < 100
    · have hN2 := hN.ping (a := a) (b := b) g1 hP
      have hm2 := hN2.m_le
      refine LC.of (x_ping hc g1 hP hm.1 (by omega)) (m_ping (P := P) (m := m) hc2 (by simp [xadd, u3, g2]) hP (by simp [xadd, u3, hm.2]) (by omega)) ?_
      refine h.net (fun q z1 z2 z3 => ?_) (fun c hc => ?_) (fun j z => ?_) hN2
      · have d : ∀ c, kNet c = true → q ≠ c := fun c hc e => by rw [e, hc] at z1; cases z1
        refine sping_k (d 3 rfl) (d 1 rfl) z3 ?_
        cases hq : kFr q with
        | false => rfl
        | true =>
          exfalso
          unfold kFr at hq
          unfold kNet at z1
          simp only [Bool.or_eq_true, Bool.and_eq_true, Nat.ble_eq] at hq
          simp only [Bool.or_eq_false_iff, Bool.and_eq_false_iff] at z1
          rcases hq with hq | hq
          · rcases z1.1.2 with z | z
            · exact absurd (Nat.ble_eq.mpr (show 13 ≤ q by omega)) (by rw [z]; decide)
            · exact absurd (Nat.ble_eq.mpr (show q ≤ 23 by omega)) (by rw [z]; decide)
          · rcases z1.2 with z | z
            · exact absurd (Nat.ble_eq.mpr (show 62 ≤ q by omega)) (by rw [z]; decide)
            · exact absurd (Nat.ble_eq.mpr (show q ≤ 93 by omega)) (by rw [z]; decide)
      · have e8 := sping_k (σ := σ) (P := P) (m := m) (a := a) (b := b) (q := 8) (by decide) (by decide) (by decide) rfl
        exact ⟨congrFun (congrFun e8 c) 0, congrFun (congrFun e8 c) 1⟩
      · have d1 : j ≠ 54 := fun e => by rw [e] at z; cases z
        have d2 : j ≠ 62 := fun e => by rw [e] at z; cases z
        simp [msend, xadd, u3, d1, d2]
    · obtain rfl : P = 100 := by omega
      exact LC.of (x_ping_full hc g1) (m_ping_full hc2 g2) h
  · exact LC.of (x_ping_bad hc) (m_ping_bad (fun z => hc ⟨(e6 a).mp z.1, (e6 b).mp z.2.1, z.2.2⟩)) h
end L9

/-! CASES OF THE LAW: the class's send; credit -/
section L10
variable {l : Launch} {σ σ2 s : tI} {τ τ2 : tL} {t : Option (Nat × Nat)}
abbrev xsend (σ : tI) (m c : Nat) (kd a b d : Int32) : tI := xadd (u3 σ 0 c 11 (σ 0 c 11 + 1)) m kd a b (σ 3 0 4) (nI c) d
theorem u3_jj {f : tI} {k i j b : Nat} {v : Int32} (h : b ≠ j) : u3 f k i j v k i b = f k i b := by simp [u3, h]
theorem x_nsend5 {m c : Nat} {d : Int32} (hc : c < 30) (hm : σ 1 0 0 = nI m) (hm2 : m < 690) : am_D l 15 [aR 3 0, aI 5, aI (nI c), aI d] σ τ (rX t) cX lX (some (aI (nI m))) (xsend σ m c 5 (σ 0 c 0) (σ 0 c 1) d) τ (rX t) := by
  refine am_D_of am_o15 am_l15 rfl ?_
  refine am_vc_ok am_k15 [] 100 ?_
  refine And.intro (vp_in_nI (N := 30) hc (by decide)) ?_
  rw [nI_clamp (by omega)]
  refine And.intro (fun h => absurd h (by decide)) (fun _ => ?_)
  refine And.intro (fun h => absurd h (by decide)) (fun _ => ?_)
  refine And.intro (fun _ => ?_) (fun h => absurd rfl h)
  refine And.intro (fun h => absurd h (by decide)) (fun _ => ?_)
  refine And.intro (fun h => absurd h (by decide)) (fun _ => ?_)
  refine am_vO am_k15 am_h15 rfl rfl rfl rfl (x_addF (m := m) (by simp [u3, hm]) hm2) ?_
  refine am_vc_ok am_k15 [] 100 ?_
  refine am_vI am_k15 am_r15 rfl ⟨rfl, ?_, rfl, rfl, rfl, rfl⟩
  rw [u3_jj (show 0 ≠ 11 by decide), u3_jj (show 1 ≠ 11 by decide)]
  rfl
theorem x_nsend4 {m c : Nat} {d : Int32} (hc : c < 30) (hm : σ 1 0 0 = nI m) (hm2 : m < 690) : am_D l 15 [aR 3 0, aI 4, aI (nI c), aI d] σ τ (rX t) cX lX (some (aI (nI m))) (xsend σ m c 4 (σ 0 c 1) (σ 0 c 0) d) τ (rX t) := by
  refine am_D_of am_o15 am_l15 rfl ?_
  refine am_vc_ok am_k15 [] 100 ?_
  refine And.intro (vp_in_nI (N := 30) hc (by decide)) ?_
  rw [nI_clamp (by omega)]
  refine And.intro (fun h => absurd h (by decide)) (fun _ => ?_)
  refine And.intro (fun h => absurd h (by decide)) (fun _ => ?_)
  refine And.intro (fun h => absurd h (by decide)) (fun _ => ?_)
  refine And.intro (fun _ => ?_) (fun h => absurd rfl h)
  refine And.intro (fun _ => ?_) (fun h => absurd rfl h)
  refine am_vO am_k15 am_h15 rfl rfl rfl rfl (x_addF (m := m) (by simp [u3, hm]) hm2) ?_
  refine am_vc_ok am_k15 [] 100 ?_
  refine am_vI am_k15 am_r15 rfl ⟨rfl, ?_, rfl, rfl, rfl, rfl⟩
  rw [u3_jj (show 0 ≠ 11 by decide), u3_jj (show 1 ≠ 11 by decide)]
  rfl
theorem x_credit_bad {c v : Int32} (h : ¬ (0 ≤ c ∧ c < σ 3 0 5) ∨ ¬ (1 ≤ v ∧ v ≤ 9)) : am_D l 130 [aR 11 0, aI c, aI v] σ τ (rX t) cX lX (some (aI (-1))) σ τ (rX t) := by
  refine am_D_of am_o130 am_l130 rfl ?_
  refine am_vc_ok am_k130 [] 100 ?_
  refine am_vS am_k130 am_h130 rfl rfl rfl rfl (x_within) ?_
  refine am_vc_ok am_k130 [] 100 ?_
  refine And.intro (fun h1 => ?_) (fun h1 => ?_)
  · exact am_vI am_k130 am_r130 rfl ⟨rfl, rfl, rfl, rfl, rfl, rfl⟩
  refine And.intro (fun h2 => ?_) (fun h2 => ?_)
  · exact am_vI am_k130 am_r130 rfl ⟨rfl, rfl, rfl, rfl, rfl, rfl⟩
  refine And.intro (fun h3 => ?_) (fun h3 => ?_)
  · rcases h with h | h
    · exact absurd (bI_1.mp h1) h
    · exact absurd ⟨Int32.not_lt.mp h2, h3⟩ h
  · exact am_vI am_k130 am_r130 rfl ⟨rfl, rfl, rfl, rfl, rfl, rfl⟩
theorem x_credit_full {c n : Nat} {v : Int32} (hn : σ 3 0 5 = nI n) (hn2 : n ≤ 30) (hc : c < n) (hv : 1 ≤ v ∧ v ≤ 9) (hS : σ 3 0 8 = nI 200) : am_D l 130 [aR 11 0, aI (nI c), aI v] σ τ (rX t) cX lX (some (aI (-2))) σ τ (rX t) := by
  refine am_D_of am_o130 am_l130 rfl ?_
  refine am_vc_ok am_k130 [] 100 ?_
  refine am_vS am_k130 am_h130 rfl rfl rfl rfl (x_within) ?_
  refine am_vc_ok am_k130 [] 100 ?_
  refine And.intro (fun g => absurd (by rw [hn]; exact inN hc (by omega)) (bI_0.mp g)) (fun _ => ?_)
  refine And.intro (fun g => absurd hv.1 (Int32.not_le.mpr g)) (fun _ => ?_)
  refine And.intro (fun _ => ?_) (fun g => absurd hv.2 g)
  refine And.intro (fun g => absurd g (by rw [hS]; decide)) (fun _ => ?_)
  exact am_vI am_k130 am_r130 rfl ⟨rfl, rfl, rfl, rfl, rfl, rfl⟩
theorem x_credit_not {c n S : Nat} {v : Int32} (hn : σ 3 0 5 = nI n) (hn2 : n ≤ 30) (hc : c < n) (hv : 1 ≤ v ∧ v ≤ 9) (hS : σ 3 0 8 = nI S) (hS2 : S < 200) (h7 : ¬ σ 0 c 7 = 3) : am_D l 130 [aR 11 0, aI (nI c), aI v] σ τ (rX t) cX lX (some (aI (-4))) σ τ (rX t) := by
  refine am_D_of am_o130 am_l130 rfl ?_
  refine am_vc_ok am_k130 [] 100 ?_
  refine am_vS am_k130 am_h130 rfl rfl rfl rfl (x_within) ?_
  refine am_vc_ok am_k130 [] 100 ?_
  refine And.intro (fun g => absurd (by rw [hn]; exact inN hc (by omega)) (bI_0.mp g)) (fun _ => ?_)
  refine And.intro (fun g => absurd hv.1 (Int32.not_le.mpr g)) (fun _ => ?_)
  refine And.intro (fun _ => ?_) (fun g => absurd hv.2 g)
  refine And.intro (fun _ => ?_) (fun g => absurd (by rw [hS]; exact nI_lt (b := 200) hS2 (by decide)) g)
  refine And.intro (vp_in_nI (N := 30) (by omega) (by decide)) ?_
  rw [nI_clamp (by omega)]
  refine And.intro (fun g => absurd g h7) (fun _ => ?_)
  exact am_vI am_k130 am_r130 rfl ⟨rfl, rfl, rfl, rfl, rfl, rfl⟩
theorem x_credit {c n S m : Nat} {v : Int32} (hn : σ 3 0 5 = nI n) (hn2 : n ≤ 30) (hc : c < n) (hv : 1 ≤ v ∧ v ≤ 9) (hS : σ 3 0 8 = nI S) (hS2 : S < 200) (h7 : σ 0 c 7 = 3) (hm : σ 1 0 0 = nI m) (hm2 : m < 690) : am_D l 130 [aR 11 0, aI (nI c), aI v] σ τ (rX t) cX lX (some (aI (nI m))) (xsend (u3 σ 3 0 8 (nI (S + 1))) m c 5 (σ 0 c 0) (σ 0 c 1) v) τ (rX t) := by
  refine am_D_of am_o130 am_l130 rfl ?_
  refine am_vc_ok am_k130 [] 100 ?_
  refine am_vS am_k130 am_h130 rfl rfl rfl rfl (x_within) ?_
  refine am_vc_ok am_k130 [] 100 ?_
  refine And.intro (fun g => absurd (by rw [hn]; exact inN hc (by omega)) (bI_0.mp g)) (fun _ => ?_)
  refine And.intro (fun g => absurd hv.1 (Int32.not_le.mpr g)) (fun _ => ?_)
  refine And.intro (fun _ => ?_) (fun g => absurd hv.2 g)
  refine And.intro (fun _ => ?_) (fun g => absurd (by rw [hS]; exact nI_lt (b := 200) hS2 (by decide)) g)
  refine And.intro (vp_in_nI (N := 30) (by omega) (by decide)) ?_
  rw [nI_clamp (by omega)]
  refine And.intro (fun _ => ?_) (fun g => absurd h7 g)
  refine am_vc_ok am_k130 [] 100 ?_
  refine am_vO am_k130 am_h130 rfl rfl rfl rfl (x_nsend5 (m := m) (by omega) (by simp [u3, hm]) hm2) ?_
  refine am_vc_ok am_k130 [] 100 ?_
  refine am_vI am_k130 am_r130 rfl ⟨rfl, ?_, rfl, rfl, rfl, rfl⟩
  rw [hS, show nI S + 1 = nI (S + 1) from nI_1 S]
  rfl
theorem m_credit_bad {c v : Int32} (h : ¬ (0 ≤ c ∧ c ≤ σ 12 0 34 - 1) ∨ ¬ (1 ≤ v ∧ v ≤ 9)) : am_D l 242 [aR 12 0, aI c, aI v] σ τ (rX t) cX lX (some (aI (-1))) σ τ (rX t) := by
  refine am_D_of am_o242 am_l242 rfl ?_
  refine am_vc_ok am_k242 [] 100 ?_
  refine am_vO am_k242 am_h242 rfl rfl rfl rfl (m_isCall) ?_
  refine am_vc_ok am_k242 [] 100 ?_
  refine And.intro (fun h1 => ?_) (fun h1 => ?_)
  · exact am_vI am_k242 am_r242 rfl ⟨rfl, rfl, rfl, rfl, rfl, rfl⟩
  refine am_vS am_k242 am_h242 rfl rfl rfl rfl (m_in) ?_
  refine am_vc_ok am_k242 [] 100 ?_
  refine And.intro (fun h2 => ?_) (fun h2 => ?_)
  · exact am_vI am_k242 am_r242 rfl ⟨rfl, rfl, rfl, rfl, rfl, rfl⟩
  · rcases h with h | h
    · exact absurd (bI_1.mp h1) h
    · exact absurd (bI_1.mp h2) h
theorem m_credit_full {c : Int32} {v : Int32} (hc : 0 ≤ c ∧ c ≤ σ 12 0 34 - 1) (hv : 1 ≤ v ∧ v ≤ 9) (hS : σ 12 0 63 = nI 200) : am_D l 242 [aR 12 0, aI c, aI v] σ τ (rX t) cX lX (some (aI (-2))) σ τ (rX t) := by
  refine am_D_of am_o242 am_l242 rfl ?_
  refine am_vc_ok am_k242 [] 100 ?_
  refine am_vO am_k242 am_h242 rfl rfl rfl rfl (m_isCall) ?_
  refine am_vc_ok am_k242 [] 100 ?_
  refine And.intro (fun g => absurd hc (bI_0.mp g)) (fun _ => ?_)
  refine am_vS am_k242 am_h242 rfl rfl rfl rfl (m_in) ?_
  refine am_vc_ok am_k242 [] 100 ?_
  refine And.intro (fun g => absurd hv (bI_0.mp g)) (fun _ => ?_)
  refine And.intro (fun _ => ?_) (fun g => absurd hS g)
  exact am_vI am_k242 am_r242 rfl ⟨rfl, rfl, rfl, rfl, rfl, rfl⟩
theorem m_credit_not {c S : Nat} {v : Int32} (hc : 0 ≤ nI c ∧ nI c ≤ σ 12 0 34 - 1) (hc2 : c < 30) (hv : 1 ≤ v ∧ v ≤ 9) (hS : σ 12 0 63 = nI S) (hS2 : S < 200) (h7 : ¬ σ 71 0 c = 3) : am_D l 242 [aR 12 0, aI (nI c), aI v] σ τ (rX t) cX lX (some (aI (-4))) σ τ (rX t) := by
  refine am_D_of am_o242 am_l242 rfl ?_
  refine am_vc_ok am_k242 [] 100 ?_
  refine am_vO am_k242 am_h242 rfl rfl rfl rfl (m_isCall) ?_
  refine am_vc_ok am_k242 [] 100 ?_
  refine And.intro (fun g => absurd hc (bI_0.mp g)) (fun _ => ?_)
  refine am_vS am_k242 am_h242 rfl rfl rfl rfl (m_in) ?_
  refine am_vc_ok am_k242 [] 100 ?_
  refine And.intro (fun g => absurd hv (bI_0.mp g)) (fun _ => ?_)
  refine And.intro (fun g => absurd ((nI_eq (b := 200) (by omega) (by decide)).mp (hS.symm.trans g)) (by omega)) (fun _ => ?_)
  refine And.intro (vp_in_nI (N := 30) (by omega) (by decide)) ?_
  rw [nI_clamp (by omega)]
  refine And.intro (fun g => absurd g h7) (fun _ => ?_)
  exact am_vI am_k242 am_r242 rfl ⟨rfl, rfl, rfl, rfl, rfl, rfl⟩
theorem m_credit {c S m : Nat} {v : Int32} (hc : 0 ≤ nI c ∧ nI c ≤ σ 12 0 34 - 1) (hc2 : c < 30) (hv : 1 ≤ v ∧ v ≤ 9) (hS : σ 12 0 63 = nI S) (hS2 : S < 200) (h7 : σ 71 0 c = 3) (hm : σ 12 0 54 = nI m) (hm2 : m < 690) : am_D l 242 [aR 12 0, aI (nI c), aI v] σ τ (rX t) cX lX (some (aI (nI m))) (msend (u3 σ 12 0 63 (nI (S + 1))) m 5 (σ 65 0 c) (σ 66 0 c) (nI c) v) τ (rX t) := by
  refine am_D_of am_o242 am_l242 rfl ?_
  refine am_vc_ok am_k242 [] 100 ?_
  refine am_vO am_k242 am_h242 rfl rfl rfl rfl (m_isCall) ?_
  refine am_vc_ok am_k242 [] 100 ?_
  refine And.intro (fun g => absurd hc (bI_0.mp g)) (fun _ => ?_)
  refine am_vS am_k242 am_h242 rfl rfl rfl rfl (m_in) ?_
  refine am_vc_ok am_k242 [] 100 ?_
  refine And.intro (fun g => absurd hv (bI_0.mp g)) (fun _ => ?_)
  refine And.intro (fun g => absurd ((nI_eq (b := 200) (by omega) (by decide)).mp (hS.symm.trans g)) (by omega)) (fun _ => ?_)
  refine And.intro (vp_in_nI (N := 30) (by omega) (by decide)) ?_
  rw [nI_clamp (by omega)]
  refine And.intro (fun _ => ?_) (fun g => absurd h7 g)
  refine am_vc_ok am_k242 [] 100 ?_
  refine am_vO am_k242 am_h242 rfl rfl rfl rfl (m_sendOut (m := m) hc2 (by simp [u3, hm]) hm2) ?_
  refine am_vc_ok am_k242 [] 100 ?_
  refine am_vI am_k242 am_r242 rfl ⟨rfl, ?_, rfl, rfl, rfl, rfl⟩
  rw [hS, show nI S + 1 = nI (S + 1) from nI_1 S]
  rfl
abbrev sstr (σ : tI) (S m c kd : Nat) (a b v : Int32) : tI := msend (u3 (xsend (u3 σ 3 0 8 (nI (S + 1))) m c (nI kd) a b v) 12 0 63 (nI (S + 1))) m (nI kd) a b (nI c) v
theorem sstr_k {S m c kd q : Nat} {a b v : Int32} (h0 : q ≠ 0) (h3 : q ≠ 3) (h1 : q ≠ 1) (h12 : q ≠ 12) (hF : kFr q = false) : sstr σ S m c kd a b v q = σ q := by
  have d : ∀ c, kFr c = true → q ≠ c := fun c hc e => by rw [e, hc] at hF; cases hF
  simp only [sstr, msend, xsend, xadd]
  rw [u3_kk _ _ h12, u3_kk _ _ (d 90 rfl), u3_kk _ _ (d 89 rfl), u3_kk _ _ (d 88 rfl), u3_kk _ _ (d 87 rfl), u3_kk _ _ (d 86 rfl), u3_kk _ _ (d 85 rfl), u3_kk _ _ (d 84 rfl), u3_kk _ _ h12, u3_kk _ _ h1, u3_kk _ _ (d 20 rfl), u3_kk _ _ (d 19 rfl), u3_kk _ _ (d 18 rfl), u3_kk _ _ (d 17 rfl), u3_kk _ _ (d 16 rfl), u3_kk _ _ (d 15 rfl), u3_kk _ _ (d 14 rfl), u3_kk _ _ h0, u3_kk _ _ h3]
theorem sstr_f {S m c kd q f : Nat} {a b v : Int32} (hF : kFr q = true) (hf : f ≠ m) : sstr σ S m c kd a b v q 0 f = σ q 0 f := by
  have d : ∀ c, kFr c = false → q ≠ c := fun c hc e => by rw [e, hc] at hF; cases hF
  simp [sstr, msend, xsend, xadd, u3, hf, d 12 rfl, d 1 rfl, d 3 rfl, d 0 rfl]
theorem kAdd_d {q : Nat} (z : kAdd q = true) : q ≠ 0 ∧ q ≠ 3 ∧ q ≠ 1 ∧ q ≠ 12 ∧ kFr q = false := by
  have z2 := z
  unfold kAdd at z2
  simp only [Bool.or_eq_true, Bool.and_eq_true, Nat.ble_eq, Nat.beq_eq] at z2
  refine ⟨by omega, by omega, by omega, by omega, ?_⟩
  cases hq : kFr q with
  | false => rfl
  | true =>
    exfalso
    unfold kFr at hq
    simp only [Bool.or_eq_true, Bool.and_eq_true, Nat.ble_eq] at hq
    omega
theorem Rnet.strm {T n m lo k S c kd : Nat} {a b v : Int32} (h : Rnet σ T n m lo k) (hkd : kd = 4 ∨ kd = 5) (hc : c < n) (hS : σ 3 0 8 = nI S) (hS2 : S < 200) (hv : kd = 5 → ∃ d, d ≤ 9 ∧ v = nI d) : Rnet (sstr σ S m c kd a b v) T n (m + 1) lo k := by
  obtain ⟨h0, ha⟩ := h.split
  have hn := h0.2.1.2.2
  have v89 : sstr σ S m c kd a b v 89 0 m = nI c := by simp [sstr, msend, xsend, xadd, u3]
  have v84 : sstr σ S m c kd a b v 84 0 m = nI kd := by simp [sstr, msend, xsend, xadd, u3]
  have v90 : sstr σ S m c kd a b v 90 0 m = v := by simp [sstr, msend, xsend, xadd, u3]
  have n1 : ¬ nI kd = 1 := by rcases hkd with rfl | rfl <;> decide
  have e72 : sstr σ S m c kd a b v 72 = σ 72 := sstr_k (by decide) (by decide) (by decide) (by decide) rfl
  have e71 : sstr σ S m c kd a b v 71 = σ 71 := sstr_k (by decide) (by decide) (by decide) (by decide) rfl
  have e77 : sstr σ S m c kd a b v 77 = σ 77 := sstr_k (by decide) (by decide) (by decide) (by decide) rfl
  have e81 : sstr σ S m c kd a b v 81 = σ 81 := sstr_k (by decide) (by decide) (by decide) (by decide) rfl
  have v0 : ∀ c2 j, sstr σ S m c kd a b v 0 c2 j = if c2 = c ∧ j = 11 then σ 0 c 11 + 1 else σ 0 c2 j := by
    intro c2 j
    by_cases z1 : c2 = c <;> by_cases z2 : j = 11 <;> simp [sstr, msend, xsend, xadd, u3, z1, z2]
  refine Rnet.join (h0.add (fun q z => sstr_k (kAdd_d z).1 (kAdd_d z).2.1 (kAdd_d z).2.2.1 (kAdd_d z).2.2.2.1 (kAdd_d z).2.2.2.2) (fun c2 j hj => by rw [v0, if_neg (fun z => hj z.2)]) (fun c2 hc2 => ?_) (fun c2 hc2 _ => by rw [v0, if_neg (fun z => by omega)]) ?_ ?_ (fun q f z hf => sstr_f z hf) ?_ ?_ ?_ ?_) ?_
  · rw [v89, v0]
    by_cases hcc : c2 = c
    · rw [if_pos ⟨hcc, rfl⟩, if_pos (by rw [hcc]), hcc]
    · rw [if_neg (fun z => hcc z.1), if_neg (fun z => hcc ((nI_eq (by omega) (by omega)).mp z).symm)]; simp
  · simp [sstr, msend, xsend, xadd, u3]
  · simp [sstr, msend, xsend, xadd, u3]
  · have hT := h0.1
    simp [Rframe, sstr, msend, xsend, xadd, u3, hT.1, hT.2.1]
  · exact Or.inr ⟨kd, c, by omega, by omega, hc, v84, v89, fun z => by omega, fun z => by rw [v90]; exact hv z⟩
  · simp [sstr, msend, xsend, xadd, u3]
  · intro c2 h1
    exact absurd (v84.symm.trans h1) n1
  · obtain ⟨P, S2, Rp, Kc, g1, g2, g3, g4, g5, g6, g7, g8⟩ := ha
    obtain rfl : S2 = S := (nI_eq (by omega) (by omega)).mp (g4.symm.trans hS)
    refine ⟨P, S2 + 1, Rp, Kc, ?_, ?_, g3, by simp [sstr, msend, xsend, xadd, u3], by simp [sstr, msend, xsend, xadd, u3], by omega, ?_, ?_⟩
    · rw [← g1]; simp [sstr, msend, xsend, xadd, u3]
    · rw [← g2]; simp [sstr, msend, xsend, xadd, u3]
    · rw [e72]; omega
    · intro c2 hc2
      have eA : asksU (sstr σ S2 m c kd a b v) lo (m + 1) c2 = asksU σ lo m c2 := by
        show cntN _ m + _ = _
        have e1 : cntN (fun f => decide (lo ≤ f ∧ sstr σ S2 m c kd a b v 84 0 f = 1 ∧ sstr σ S2 m c kd a b v 89 0 f = nI c2)) m = asksU σ lo m c2 := by
          refine cntN_cg (fun f hf => ?_)
          rw [sstr_f rfl (by omega), sstr_f rfl (by omega)]
        rw [e1]
        have e2 : ¬ (lo ≤ m ∧ sstr σ S2 m c kd a b v 84 0 m = 1 ∧ sstr σ S2 m c kd a b v 89 0 m = nI c2) := fun z => n1 (v84.symm.trans z.2.1)
        simp only [decide_eq_true_eq, if_neg e2]
        rfl
      rw [eA, e72, e71, e77, e81]
      exact g8 c2 hc2
theorem kNet_fr {q : Nat} (z1 : kNet q = false) : kFr q = false := by
  cases hq : kFr q with
  | false => rfl
  | true =>
    exfalso
    have : kNet q = true := by
      unfold kFr at hq
      unfold kNet
      simp only [Bool.or_eq_true, Bool.and_eq_true, Nat.ble_eq] at hq ⊢
      omega
    rw [this] at z1
    cases z1
theorem LC_credit (h : Rall σ τ) (c v : Int32) : LC l 130 242 [aI c, aI v] σ τ t := by
  obtain ⟨-, -, -, -, -, -, T, n, m, lo, k, hN⟩ := id h
  obtain ⟨h0, P, S, Rp, Kc, g1, g2, g3, g4, g5, g6, -⟩ := hN.split
  have hm := h0.2.2.2.2.2.2.1
  have hn := h0.2.1
  by_cases hc : 0 ≤ c ∧ c < nI n
  · by_cases hv : 1 ≤ v ∧ v ≤ 9
    · obtain ⟨c, hc1, rfl⟩ := ix_lt (nI_toInt (by omega)) hc
      have hcm : 0 ≤ nI c ∧ nI c ≤ nI n - 1 := (le_pred2 (by omega)).mpr hc
      by_cases hS : S < 200
      · have hC := (h0.2.2.1 c hc1).1
        by_cases h7 : σ 71 0 c = 3
        · have hN2 := hN.strm (a := σ 0 c 0) (b := σ 0 c 1) (v := v) (kd := 5) (Or.inr rfl) hc1 g4 hS (fun _ => by
            obtain ⟨x, x1, e⟩ := ix_le (n := 10) (N := 9) (by decide) (⟨Int32.le_trans (by decide) hv.1, hv.2⟩ : 0 ≤ v ∧ v ≤ 9)
            exact ⟨x, by omega, e⟩)
          have hm2 := hN2.m_le
          have hM := m_credit (l := l) (σ := xsend (u3 σ 3 0 8 (nI (S + 1))) m c 5 (σ 0 c 0) (σ 0 c 1) v) (τ := τ) (t := t) (c := c) (S := S) (m := m) (v := v) (by simp [xsend, xadd, u3, hn.2.1]; exact hcm) (by omega) hv (by simp [xsend, xadd, u3, g5]) hS (by simp [xsend, xadd, u3, h7]) (by simp [xsend, xadd, u3, hm.2]) (by omega)
          have q1 : xsend (u3 σ 3 0 8 (nI (S + 1))) m c 5 (σ 0 c 0) (σ 0 c 1) v 65 0 c = σ 0 c 0 := by rw [hC.1]; simp [xsend, xadd, u3]
          have q2 : xsend (u3 σ 3 0 8 (nI (S + 1))) m c 5 (σ 0 c 0) (σ 0 c 1) v 66 0 c = σ 0 c 1 := by rw [hC.2.1]; simp [xsend, xadd, u3]
          rw [q1, q2] at hM
          refine LC.of (x_credit hn.1 hn.2.2 hc1 hv g4 hS (hC.2.2.2.2.2.2.2.1.trans h7) hm.1 (by omega)) hM ?_
          refine h.net (fun q z1 z2 z3 => ?_) (fun c2 hc2 => ?_) (fun j z => ?_) hN2
          · have d : ∀ c, kNet c = true → q ≠ c := fun c hc e => by rw [e, hc] at z1; cases z1
            exact sstr_k (d 0 rfl) (d 3 rfl) (d 1 rfl) z3 (kNet_fr z1)
          · have e8 := sstr_k (σ := σ) (S := S) (m := m) (c := c) (kd := 5) (a := σ 0 c 0) (b := σ 0 c 1) (v := v) (q := 8) (by decide) (by decide) (by decide) (by decide) rfl
            exact ⟨congrFun (congrFun e8 c2) 0, congrFun (congrFun e8 c2) 1⟩
          · have d1 : j ≠ 54 := fun e => by rw [e] at z; cases z
            have d2 : j ≠ 63 := fun e => by rw [e] at z; cases z
            simp [msend, xsend, xadd, u3, d1, d2]
        · exact LC.of (x_credit_not hn.1 hn.2.2 hc1 hv g4 hS (by rw [hC.2.2.2.2.2.2.2.1]; exact h7)) (m_credit_not (by rw [hn.2.1]; exact hcm) (by omega) hv g5 hS h7) h
      · obtain rfl : S = 200 := by omega
        exact LC.of (x_credit_full hn.1 hn.2.2 hc1 hv g4) (m_credit_full (by rw [hn.2.1]; exact hcm) hv g5) h
    · exact LC.of (x_credit_bad (Or.inr hv)) (m_credit_bad (Or.inr hv)) h
  · exact LC.of (x_credit_bad (Or.inl (by rw [hn.1]; exact hc))) (m_credit_bad (Or.inl (by rw [hn.2.1]; exact fun z => hc ((le_pred2 (by omega)).mp z)))) h
end L10

/-! CASES OF THE LAW: piece -/
section L11
variable {l : Launch} {σ σ2 s : tI} {τ τ2 : tL} {t : Option (Nat × Nat)}
theorem x_piece_bad {c : Int32} (h : ¬ (0 ≤ c ∧ c < σ 3 0 5)) : am_D l 131 [aR 11 0, aI c] σ τ (rX t) cX lX (some (aI (-1))) σ τ (rX t) := by
  refine am_D_of am_o131 am_l131 rfl ?_
  refine am_vc_ok am_k131 [] 100 ?_
  refine am_vS am_k131 am_h131 rfl rfl rfl rfl (x_within) ?_
  refine am_vc_ok am_k131 [] 100 ?_
  refine And.intro (fun h1 => ?_) (fun h1 => ?_)
  · exact am_vI am_k131 am_r131 rfl ⟨rfl, rfl, rfl, rfl, rfl, rfl⟩
  · exact absurd (bI_1.mp h1) h
theorem x_piece_full {c n : Nat} (hn : σ 3 0 5 = nI n) (hn2 : n ≤ 30) (hc : c < n) (hS : σ 3 0 8 = nI 200) : am_D l 131 [aR 11 0, aI (nI c)] σ τ (rX t) cX lX (some (aI (-2))) σ τ (rX t) := by
  refine am_D_of am_o131 am_l131 rfl ?_
  refine am_vc_ok am_k131 [] 100 ?_
  refine am_vS am_k131 am_h131 rfl rfl rfl rfl (x_within) ?_
  refine am_vc_ok am_k131 [] 100 ?_
  refine And.intro (fun g => absurd (by rw [hn]; exact inN hc (by omega)) (bI_0.mp g)) (fun _ => ?_)
  refine And.intro (fun g => absurd g (by rw [hS]; decide)) (fun _ => ?_)
  exact am_vI am_k131 am_r131 rfl ⟨rfl, rfl, rfl, rfl, rfl, rfl⟩
theorem x_piece_not {c n S : Nat} (hn : σ 3 0 5 = nI n) (hn2 : n ≤ 30) (hc : c < n) (hS : σ 3 0 8 = nI S) (hS2 : S < 200) (h7 : ¬ (σ 0 c 7 = 3 ∧ σ 0 c 17 < σ 0 c 16)) : am_D l 131 [aR 11 0, aI (nI c)] σ τ (rX t) cX lX (some (aI (-4))) σ τ (rX t) := by
  refine am_D_of am_o131 am_l131 rfl ?_
  refine am_vc_ok am_k131 [] 100 ?_
  refine am_vS am_k131 am_h131 rfl rfl rfl rfl (x_within) ?_
  refine am_vc_ok am_k131 [] 100 ?_
  refine And.intro (fun g => absurd (by rw [hn]; exact inN hc (by omega)) (bI_0.mp g)) (fun _ => ?_)
  refine And.intro (fun _ => ?_) (fun g => absurd (by rw [hS]; exact nI_lt (b := 200) hS2 (by decide)) g)
  refine And.intro (vp_in_nI (N := 30) (by omega) (by decide)) ?_
  rw [nI_clamp (by omega)]
  refine And.intro (fun g1 => ?_) (fun _ => ?_)
  · refine And.intro (fun g2 => absurd ⟨g1, g2⟩ h7) (fun _ => ?_)
    exact am_vI am_k131 am_r131 rfl ⟨rfl, rfl, rfl, rfl, rfl, rfl⟩
  · exact am_vI am_k131 am_r131 rfl ⟨rfl, rfl, rfl, rfl, rfl, rfl⟩
theorem x_piece {c n S m x : Nat} (hn : σ 3 0 5 = nI n) (hn2 : n ≤ 30) (hc : c < n) (hS : σ 3 0 8 = nI S) (hS2 : S < 200) (h7 : σ 0 c 7 = 3 ∧ σ 0 c 17 < σ 0 c 16) (hx : σ 0 c 17 = nI x) (hm : σ 1 0 0 = nI m) (hm2 : m < 690) : am_D l 131 [aR 11 0, aI (nI c)] σ τ (rX t) cX lX (some (aI (nI m))) (xsend (u3 (u3 σ 3 0 8 (nI (S + 1))) 0 c 17 (nI (x + 1))) m c 4 (σ 0 c 1) (σ 0 c 0) (nI (x + 1))) τ (rX t) := by
  refine am_D_of am_o131 am_l131 rfl ?_
  refine am_vc_ok am_k131 [] 100 ?_
  refine am_vS am_k131 am_h131 rfl rfl rfl rfl (x_within) ?_
  refine am_vc_ok am_k131 [] 100 ?_
  refine And.intro (fun g => absurd (by rw [hn]; exact inN hc (by omega)) (bI_0.mp g)) (fun _ => ?_)
  refine And.intro (fun _ => ?_) (fun g => absurd (by rw [hS]; exact nI_lt (b := 200) hS2 (by decide)) g)
  refine And.intro (vp_in_nI (N := 30) (by omega) (by decide)) ?_
  rw [nI_clamp (by omega)]
  refine And.intro (fun _ => ?_) (fun g => absurd h7.1 g)
  refine And.intro (fun _ => ?_) (fun g => absurd h7.2 g)
  refine am_vc_ok am_k131 [] 100 ?_
  refine am_vO am_k131 am_h131 rfl rfl rfl rfl (x_nsend4 (m := m) (by omega) (by simp [u3, hm]) hm2) ?_
  refine am_vc_ok am_k131 [] 100 ?_
  refine am_vI am_k131 am_r131 rfl ⟨rfl, ?_, rfl, rfl, rfl, rfl⟩
  rw [hS, show nI S + 1 = nI (S + 1) from nI_1 S]
  simp only [u3_jj (show 0 ≠ 17 by decide), u3_jj (show 1 ≠ 17 by decide), u3_eq, u3_k _ _ (show 0 ≠ 3 by decide), hx, show nI x + 1 = nI (x + 1) from nI_1 x]
theorem m_piece_bad {c : Int32} (h : ¬ (0 ≤ c ∧ c ≤ σ 12 0 34 - 1)) : am_D l 243 [aR 12 0, aI c] σ τ (rX t) cX lX (some (aI (-1))) σ τ (rX t) := by
  refine am_D_of am_o243 am_l243 rfl ?_
  refine am_vc_ok am_k243 [] 100 ?_
  refine am_vO am_k243 am_h243 rfl rfl rfl rfl (m_isCall) ?_
  refine am_vc_ok am_k243 [] 100 ?_
  refine And.intro (fun h1 => ?_) (fun h1 => ?_)
  · exact am_vI am_k243 am_r243 rfl ⟨rfl, rfl, rfl, rfl, rfl, rfl⟩
  · exact absurd (bI_1.mp h1) h
theorem m_piece_full {c : Int32} (hc : 0 ≤ c ∧ c ≤ σ 12 0 34 - 1) (hS : σ 12 0 63 = nI 200) : am_D l 243 [aR 12 0, aI c] σ τ (rX t) cX lX (some (aI (-2))) σ τ (rX t) := by
  refine am_D_of am_o243 am_l243 rfl ?_
  refine am_vc_ok am_k243 [] 100 ?_
  refine am_vO am_k243 am_h243 rfl rfl rfl rfl (m_isCall) ?_
  refine am_vc_ok am_k243 [] 100 ?_
  refine And.intro (fun g => absurd hc (bI_0.mp g)) (fun _ => ?_)
  refine And.intro (fun _ => ?_) (fun g => absurd hS g)
  exact am_vI am_k243 am_r243 rfl ⟨rfl, rfl, rfl, rfl, rfl, rfl⟩
theorem m_piece_not {c S : Nat} (hc : 0 ≤ nI c ∧ nI c ≤ σ 12 0 34 - 1) (hc2 : c < 30) (hS : σ 12 0 63 = nI S) (hS2 : S < 200) (h7 : ¬ (σ 71 0 c = 3 ∧ ¬ σ 82 0 c = σ 81 0 c)) : am_D l 243 [aR 12 0, aI (nI c)] σ τ (rX t) cX lX (some (aI (-4))) σ τ (rX t) := by
  refine am_D_of am_o243 am_l243 rfl ?_
  refine am_vc_ok am_k243 [] 100 ?_
  refine am_vO am_k243 am_h243 rfl rfl rfl rfl (m_isCall) ?_
  refine am_vc_ok am_k243 [] 100 ?_
  refine And.intro (fun g => absurd hc (bI_0.mp g)) (fun _ => ?_)
  refine And.intro (fun g => absurd ((nI_eq (b := 200) (by omega) (by decide)).mp (hS.symm.trans g)) (by omega)) (fun _ => ?_)
  refine And.intro (vp_in_nI (N := 30) (by omega) (by decide)) ?_
  rw [nI_clamp (by omega)]
  refine And.intro (fun g1 => ?_) (fun _ => ?_)
  · refine And.intro (vp_in_nI (N := 30) (by omega) (by decide)) ?_
    refine And.intro (vp_in_nI (N := 30) (by omega) (by decide)) ?_
    rw [nI_clamp (by omega)]
    refine And.intro (fun _ => ?_) (fun g2 => absurd ⟨g1, g2⟩ h7)
    exact am_vI am_k243 am_r243 rfl ⟨rfl, rfl, rfl, rfl, rfl, rfl⟩
  · exact am_vI am_k243 am_r243 rfl ⟨rfl, rfl, rfl, rfl, rfl, rfl⟩
theorem m_piece {c S m x : Nat} (hc : 0 ≤ nI c ∧ nI c ≤ σ 12 0 34 - 1) (hc2 : c < 30) (hS : σ 12 0 63 = nI S) (hS2 : S < 200) (h7 : σ 71 0 c = 3 ∧ ¬ σ 82 0 c = σ 81 0 c) (hx : σ 82 0 c = nI x) (hm : σ 12 0 54 = nI m) (hm2 : m < 690) : am_D l 243 [aR 12 0, aI (nI c)] σ τ (rX t) cX lX (some (aI (nI m))) (msend (u3 (u3 σ 12 0 63 (nI (S + 1))) 82 0 c (nI (x + 1))) m 4 (σ 66 0 c) (σ 65 0 c) (nI c) (nI (x + 1))) τ (rX t) := by
  refine am_D_of am_o243 am_l243 rfl ?_
  refine am_vc_ok am_k243 [] 100 ?_
  refine am_vO am_k243 am_h243 rfl rfl rfl rfl (m_isCall) ?_
  refine am_vc_ok am_k243 [] 100 ?_
  refine And.intro (fun g => absurd hc (bI_0.mp g)) (fun _ => ?_)
  refine And.intro (fun g => absurd ((nI_eq (b := 200) (by omega) (by decide)).mp (hS.symm.trans g)) (by omega)) (fun _ => ?_)
  refine And.intro (vp_in_nI (N := 30) (by omega) (by decide)) ?_
  rw [nI_clamp (by omega)]
  refine And.intro (fun _ => ?_) (fun g => absurd h7.1 g)
  refine And.intro (vp_in_nI (N := 30) (by omega) (by decide)) ?_
  refine And.intro (vp_in_nI (N := 30) (by omega) (by decide)) ?_
  rw [nI_clamp (by omega)]
  refine And.intro (fun g => absurd g h7.2) (fun _ => ?_)
  refine And.intro (vp_in_nI (N := 30) (by omega) (by decide)) ?_
  refine And.intro (vp_in_nI (N := 30) (by omega) (by decide)) ?_
  refine And.intro (vp_in_nI (N := 30) (by omega) (by decide)) ?_
  rw [nI_clamp (by omega)]
  refine am_vO am_k243 am_h243 rfl rfl rfl rfl (m_sendBack (m := m) hc2 (by simp [u3, hm]) hm2) ?_
  refine am_vc_ok am_k243 [] 100 ?_
  refine am_vI am_k243 am_r243 rfl ⟨rfl, ?_, rfl, rfl, rfl, rfl⟩
  rw [hS, show nI S + 1 = nI (S + 1) from nI_1 S]
  simp only [u3_eq, u3_k _ _ (show 82 ≠ 12 by decide), hx, show nI x + 1 = nI (x + 1) from nI_1 x]
  rfl
abbrev spc (σ : tI) (c x : Nat) : tI := u3 (u3 σ 0 c 17 (nI (x + 1))) 82 0 c (nI (x + 1))
theorem Rnet0.pc {T n m lo k c x y : Nat} (h : Rnet0 σ T n m lo k) (hc : c < n) (hx : σ 82 0 c = nI x) (hy : σ 81 0 c = nI y) (hxy : x < y) (hy2 : y ≤ 7000) : Rnet0 (spc σ c x) T n m lo k := by
  have e : ∀ q, q ≠ 0 → q ≠ 82 → spc σ c x q = σ q := by
    intro q a1 a2
    unfold spc
    rw [u3_kk _ _ a2, u3_kk _ _ a1]
  have e0 : ∀ c2 j, c2 ≠ c ∨ j ≠ 17 → spc σ c x 0 c2 j = σ 0 c2 j := by
    intro c2 j hj
    unfold spc
    rw [u3_k _ _ (by decide)]
    rcases hj with hj | hj
    · exact u3_i _ _ hj
    · exact u3_j _ _ hj
  have e82 : ∀ c2, c2 ≠ c → spc σ c x 82 0 c2 = σ 82 0 c2 := by
    intro c2 hj
    unfold spc
    rw [u3_j _ _ hj]
    exact u3_k _ _ (by decide)
  have v17 : spc σ c x 0 c 17 = nI (x + 1) := by simp [spc, u3]
  have v82 : spc σ c x 82 0 c = nI (x + 1) := by simp [spc, u3]
  generalize spc σ c x = s at e e0 e82 v17 v82 ⊢
  have d : ∀ q, (Nat.ble 1 q && Nat.ble q 81 || Nat.ble 83 q) = true → s q = σ q := by
    intro q z
    simp only [Bool.or_eq_true, Bool.and_eq_true, Nat.ble_eq] at z
    exact e q (by omega) (by omega)
  obtain ⟨h1, h2, h3, h4, h5, h6, h7⟩ := h
  refine ⟨?_, ?_, ?_, ?_, ?_, ?_, ?_⟩
  · rw [d 3 rfl, d 12 rfl]; exact h1
  · rw [d 3 rfl, d 12 rfl]; exact h2
  · intro c2 hc2
    obtain ⟨g1, g2, g3⟩ := h3 c2 hc2
    have gU : undU s lo m c2 = undU σ lo m c2 := by unfold undU; rw [d 89 rfl]
    rw [gU, e0 c2 11 (Or.inr (by decide))]
    refine ⟨?_, ?_, g3⟩
    · unfold Rcall at g1 ⊢
      have g17 : s 0 c2 17 = s 82 0 c2 := by
        by_cases hcc : c2 = c
        · rw [hcc, v17, v82]
        · rw [e0 c2 17 (Or.inl hcc), e82 c2 hcc]; exact g1.2.2.2.2.2.2.2.2.2.2.2.2.2.2.2.1
      rw [e0 c2 0 (Or.inr (by decide)), e0 c2 1 (Or.inr (by decide)), e0 c2 2 (Or.inr (by decide)), e0 c2 3 (Or.inr (by decide)), e0 c2 4 (Or.inr (by decide)), e0 c2 5 (Or.inr (by decide)), e0 c2 6 (Or.inr (by decide)), e0 c2 7 (Or.inr (by decide)), e0 c2 8 (Or.inr (by decide)), e0 c2 9 (Or.inr (by decide)), e0 c2 10 (Or.inr (by decide)), e0 c2 12 (Or.inr (by decide)), e0 c2 13 (Or.inr (by decide)), e0 c2 14 (Or.inr (by decide)), e0 c2 15 (Or.inr (by decide)), e0 c2 16 (Or.inr (by decide)), e0 c2 18 (Or.inr (by decide)), d 13 rfl, d 65 rfl, d 66 rfl, d 67 rfl, d 68 rfl, d 69 rfl, d 70 rfl, d 71 rfl, d 72 rfl, d 73 rfl, d 74 rfl, d 75 rfl, d 76 rfl, d 77 rfl, d 78 rfl, d 79 rfl, d 80 rfl, d 81 rfl, d 83 rfl]
      obtain ⟨k0, k1, k2, k3, k4, k5, k6, k7, k8, k9, k10, k12, k14, k15, k16, -, k18⟩ := g1
      exact ⟨k0, k1, k2, k3, k4, k5, k6, k7, k8, k9, k10, k12, k14, k15, k16, g17, k18⟩
    · unfold Ocall at g2 ⊢
      rw [d 65 rfl, d 66 rfl, d 67 rfl, d 68 rfl, d 70 rfl, d 71 rfl, d 72 rfl, d 77 rfl, d 78 rfl, d 81 rfl]
      obtain ⟨k1, k2, k3, k4, k5, k6, k7⟩ := g2
      refine ⟨k1, k2, k3, k4, k5, k6, ?_⟩
      by_cases hcc : c2 = c
      · rw [hcc, v82]; exact ⟨x + 1, y, by omega, hy2, rfl, hy⟩
      · rw [e82 c2 hcc]; exact k7
  · intro c2 hc1 hc2
    have g := h4 c2 hc1 hc2
    have hcc : c2 ≠ c := by omega
    unfold Fcall at g ⊢
    rw [e82 c2 hcc, e0 c2 7 (Or.inl hcc), e0 c2 8 (Or.inl hcc), e0 c2 9 (Or.inl hcc), e0 c2 11 (Or.inl hcc), e0 c2 12 (Or.inl hcc), e0 c2 14 (Or.inl hcc), e0 c2 15 (Or.inl hcc), e0 c2 16 (Or.inl hcc), e0 c2 17 (Or.inl hcc), e0 c2 18 (Or.inl hcc), d 13 rfl, d 72 rfl, d 73 rfl, d 77 rfl, d 80 rfl, d 81 rfl, d 83 rfl]
    exact g
  · rw [d 3 rfl, d 71 rfl]; exact h5
  · rw [d 8 rfl, d 62 rfl, d 63 rfl, d 64 rfl, d 66 rfl, d 77 rfl]; exact h6
  · unfold Rframe Oframe at h7 ⊢
    rw [d 1 rfl, d 2 rfl, d 12 rfl, d 14 rfl, d 15 rfl, d 16 rfl, d 17 rfl, d 18 rfl, d 19 rfl, d 20 rfl, d 21 rfl, d 22 rfl, d 23 rfl, d 72 rfl, d 84 rfl, d 85 rfl, d 86 rfl, d 87 rfl, d 88 rfl, d 89 rfl, d 90 rfl, d 91 rfl, d 92 rfl, d 93 rfl]
    exact h7
theorem Rnet.pc {T n m lo k c x y : Nat} (h : Rnet σ T n m lo k) (hc : c < n) (hx : σ 82 0 c = nI x) (hy : σ 81 0 c = nI y) (hxy : x < y) (hy2 : y ≤ 7000) : Rnet (spc σ c x) T n m lo k := by
  obtain ⟨h0, ha⟩ := h.split
  refine Rnet.join (h0.pc hc hx hy hxy hy2) ?_
  have e : ∀ q, q ≠ 0 → q ≠ 82 → spc σ c x q = σ q := by
    intro q a1 a2
    unfold spc
    rw [u3_kk _ _ a2, u3_kk _ _ a1]
  unfold Racc asksU at ha ⊢
  rw [e 3 (by decide) (by decide), e 12 (by decide) (by decide), e 71 (by decide) (by decide), e 72 (by decide) (by decide), e 77 (by decide) (by decide), e 81 (by decide) (by decide), e 84 (by decide) (by decide), e 89 (by decide) (by decide)]
  exact ha
theorem u3_comm {f : tI} {k i j k2 i2 j2 : Nat} {v w : Int32} (h : k ≠ k2) : u3 (u3 f k i j v) k2 i2 j2 w = u3 (u3 f k2 i2 j2 w) k i j v := by
  funext a b c
  by_cases h1 : a = k2
  · have h2 : a ≠ k := fun z => h (z.symm.trans h1)
    rw [u3_k _ v h2, h1]
    by_cases h3 : b = i2
    · by_cases h4 : c = j2
      · rw [h3, h4, u3_eq, u3_eq]
      · rw [u3_j _ _ h4, u3_j _ _ h4, u3_k _ _ (h1 ▸ h2)]
    · rw [u3_i _ _ h3, u3_i _ _ h3, u3_k _ _ (h1 ▸ h2)]
  · rw [u3_k _ w h1]
    by_cases h2 : a = k
    · rw [h2]
      by_cases h3 : b = i
      · by_cases h4 : c = j
        · rw [h3, h4, u3_eq, u3_eq]
        · rw [u3_j _ _ h4, u3_j _ _ h4, u3_k _ _ (h2 ▸ h1)]
      · rw [u3_i _ _ h3, u3_i _ _ h3, u3_k _ _ (h2 ▸ h1)]
    · rw [u3_k _ _ h2, u3_k _ _ h2, u3_k _ _ h1]
theorem spc_eq {S m c x : Nat} {a b : Int32} : msend (u3 (u3 (xsend (u3 (u3 σ 3 0 8 (nI (S + 1))) 0 c 17 (nI (x + 1))) m c 4 a b (nI (x + 1))) 12 0 63 (nI (S + 1))) 82 0 c (nI (x + 1))) m 4 a b (nI c) (nI (x + 1)) = sstr (spc σ c x) S m c 4 a b (nI (x + 1)) := by
  have e : u3 (u3 (xsend (u3 (u3 σ 3 0 8 (nI (S + 1))) 0 c 17 (nI (x + 1))) m c 4 a b (nI (x + 1))) 12 0 63 (nI (S + 1))) 82 0 c (nI (x + 1)) = u3 (xsend (u3 (spc σ c x) 3 0 8 (nI (S + 1))) m c 4 a b (nI (x + 1))) 12 0 63 (nI (S + 1)) := by
    simp only [xsend, xadd, spc]
    rw [u3_comm (show 12 ≠ 82 by decide), u3_comm (show 1 ≠ 82 by decide), u3_comm (show 20 ≠ 82 by decide), u3_comm (show 19 ≠ 82 by decide), u3_comm (show 18 ≠ 82 by decide), u3_comm (show 17 ≠ 82 by decide), u3_comm (show 16 ≠ 82 by decide), u3_comm (show 15 ≠ 82 by decide), u3_comm (show 14 ≠ 82 by decide), u3_comm (k := 0) (k2 := 82) (j := 11) (by decide), u3_comm (k := 3) (k2 := 0) (j2 := 17) (by decide), u3_comm (k := 3) (k2 := 82) (by decide)]
    rfl
  rw [e]
  rfl
theorem LC_piece (h : Rall σ τ) (c : Int32) : LC l 131 243 [aI c] σ τ t := by
  obtain ⟨-, -, -, -, -, -, T, n, m, lo, k, hN⟩ := id h
  obtain ⟨h0, P, S, Rp, Kc, g1, g2, g3, g4, g5, g6, -⟩ := hN.split
  have hm := h0.2.2.2.2.2.2.1
  have hn := h0.2.1
  by_cases hc : 0 ≤ c ∧ c < nI n
  · obtain ⟨c, hc1, rfl⟩ := ix_lt (nI_toInt (by omega)) hc
    have hcm : 0 ≤ nI c ∧ nI c ≤ nI n - 1 := (le_pred2 (by omega)).mpr hc
    by_cases hS : S < 200
    · have hC := (h0.2.2.1 c hc1).1
      obtain ⟨-, -, -, -, -, -, x, y, hxy, hy2, hx, hy⟩ := (h0.2.2.1 c hc1).2.1
      have c7 : σ 0 c 7 = σ 71 0 c := hC.2.2.2.2.2.2.2.1
      have c16 : σ 0 c 16 = nI y := (hC.st (w := 0) (by decide)).trans hy
      have c17 : σ 0 c 17 = nI x := (hC.st (w := 1) (by decide)).trans hx
      by_cases h7 : σ 71 0 c = 3 ∧ x < y
      · have hN2 := (hN.pc hc1 hx hy h7.2 hy2).strm (S := S) (a := σ 0 c 1) (b := σ 0 c 0) (v := nI (x + 1)) (kd := 4) (c := c) (Or.inl rfl) hc1 (by simp [spc, u3, g4]) hS (fun z => absurd z (by decide))
        have hm2 := hN2.m_le
        have hM := m_piece (l := l) (σ := xsend (u3 (u3 σ 3 0 8 (nI (S + 1))) 0 c 17 (nI (x + 1))) m c 4 (σ 0 c 1) (σ 0 c 0) (nI (x + 1))) (τ := τ) (t := t) (c := c) (S := S) (m := m) (x := x) (by simp [xsend, xadd, u3, hn.2.1]; exact hcm) (by omega) (by simp [xsend, xadd, u3, g5]) hS (by simp [xsend, xadd, u3, h7.1, hx, hy]; exact fun z => absurd ((nI_eq (by omega) (by omega)).mp z) (by omega)) (by simp [xsend, xadd, u3, hx]) (by simp [xsend, xadd, u3, hm.2]) (by omega)
        have q1 : xsend (u3 (u3 σ 3 0 8 (nI (S + 1))) 0 c 17 (nI (x + 1))) m c 4 (σ 0 c 1) (σ 0 c 0) (nI (x + 1)) 65 0 c = σ 0 c 0 := by rw [hC.1]; simp [xsend, xadd, u3]
        have q2 : xsend (u3 (u3 σ 3 0 8 (nI (S + 1))) 0 c 17 (nI (x + 1))) m c 4 (σ 0 c 1) (σ 0 c 0) (nI (x + 1)) 66 0 c = σ 0 c 1 := by rw [hC.2.1]; simp [xsend, xadd, u3]
        rw [q1, q2, spc_eq] at hM
        refine LC.of (x_piece hn.1 hn.2.2 hc1 g4 hS ⟨c7.trans h7.1, by rw [c16, c17]; exact nI_lt h7.2 (by omega)⟩ c17 hm.1 (by omega)) hM ?_
        refine h.net (fun q z1 z2 z3 => ?_) (fun c2 hc2 => ?_) (fun j z => ?_) hN2
        · have d : ∀ c, kNet c = true → q ≠ c := fun c hc e => by rw [e, hc] at z1; cases z1
          rw [sstr_k (d 0 rfl) (d 3 rfl) (d 1 rfl) z3 (kNet_fr z1)]
          unfold spc
          rw [u3_kk _ _ (d 82 rfl), u3_kk _ _ (d 0 rfl)]
        · have e8 := sstr_k (σ := spc σ c x) (S := S) (m := m) (c := c) (kd := 4) (a := σ 0 c 1) (b := σ 0 c 0) (v := nI (x + 1)) (q := 8) (by decide) (by decide) (by decide) (by decide) rfl
          exact ⟨congrFun (congrFun e8 c2) 0, congrFun (congrFun e8 c2) 1⟩
        · have d1 : j ≠ 54 := fun e => by rw [e] at z; cases z
          have d2 : j ≠ 63 := fun e => by rw [e] at z; cases z
          simp [sstr, msend, xsend, xadd, spc, u3, d1, d2]
      · refine LC.of (x_piece_not hn.1 hn.2.2 hc1 g4 hS ?_) (m_piece_not (by rw [hn.2.1]; exact hcm) (by omega) g5 hS ?_) h
        · rw [c7, c16, c17]
          exact fun z => h7 ⟨z.1, (nI_ltI (by omega) (by omega)).mp z.2⟩
        · rw [hx, hy]
          exact fun z => h7 ⟨z.1, Nat.lt_of_le_of_ne hxy (fun w => z.2 (by rw [w]))⟩
    · obtain rfl : S = 200 := by omega
      exact LC.of (x_piece_full hn.1 hn.2.2 hc1 g4) (m_piece_full (by rw [hn.2.1]; exact hcm) g5) h
  · exact LC.of (x_piece_bad (by rw [hn.1]; exact hc)) (m_piece_bad (by rw [hn.2.1]; exact fun z => hc ((le_pred2 (by omega)).mp z))) h
end L11

/-! CASES OF THE LAW: cancel -/
section L12
variable {l : Launch} {σ σ2 s : tI} {τ τ2 : tL} {t : Option (Nat × Nat)}
theorem cntN_dec {p q : Nat → Bool} {c : Nat} (hp : p c = true) (hq : q c = false) (h : ∀ x, x ≠ c → p x = q x) : ∀ {n : Nat}, c < n → cntN p n = cntN q n + 1
  | 0, hc => absurd hc (by omega)
  | n + 1, hc => by
    show cntN p n + _ = cntN q n + _ + 1
    by_cases hn : n = c
    · have e : cntN p n = cntN q n := cntN_cg (fun x hx => h x (by omega))
      rw [e, hn, hp, hq]
      simp
    · rw [cntN_dec hp hq h (n := n) (by omega), h n hn]
      omega
theorem sumN_inc {f g : Nat → Nat} {c : Nat} (hc1 : g c = f c + 1) (h : ∀ x, x ≠ c → g x = f x) : ∀ {n : Nat}, sumN g n = sumN f n + (if c < n then 1 else 0)
  | 0 => by simp [sumN]
  | n + 1 => by
    show sumN g n + g n = sumN f n + f n + _
    rw [sumN_inc hc1 h (n := n)]
    by_cases hn : n = c
    · rw [hn, hc1, if_neg (by omega), if_pos (by omega)]; omega
    · rw [h n hn]
      by_cases h2 : c < n
      · rw [if_pos h2, if_pos (by omega)]; omega
      · rw [if_neg h2, if_neg (by omega)]; omega
/-- a frame more of call c -/
abbrev ssnd (σ : tI) (m c kd : Nat) (a b dx dm : Int32) : tI := msend (xsend σ m c (nI kd) a b dx) m (nI kd) a b (nI c) dm
theorem ssnd_k {m c kd q : Nat} {a b dx dm : Int32} (h0 : q ≠ 0) (h1 : q ≠ 1) (h12 : q ≠ 12) (hF : kFr q = false) : ssnd σ m c kd a b dx dm q = σ q := by
  have d : ∀ c, kFr c = true → q ≠ c := fun c hc e => by rw [e, hc] at hF; cases hF
  simp only [ssnd, msend, xsend, xadd]
  rw [u3_kk _ _ h12, u3_kk _ _ (d 90 rfl), u3_kk _ _ (d 89 rfl), u3_kk _ _ (d 88 rfl), u3_kk _ _ (d 87 rfl), u3_kk _ _ (d 86 rfl), u3_kk _ _ (d 85 rfl), u3_kk _ _ (d 84 rfl), u3_kk _ _ h1, u3_kk _ _ (d 20 rfl), u3_kk _ _ (d 19 rfl), u3_kk _ _ (d 18 rfl), u3_kk _ _ (d 17 rfl), u3_kk _ _ (d 16 rfl), u3_kk _ _ (d 15 rfl), u3_kk _ _ (d 14 rfl), u3_kk _ _ h0]
theorem ssnd_f {m c kd q f : Nat} {a b dx dm : Int32} (hF : kFr q = true) (hf : f ≠ m) : ssnd σ m c kd a b dx dm q 0 f = σ q 0 f := by
  have d : ∀ c, kFr c = false → q ≠ c := fun c hc e => by rw [e, hc] at hF; cases hF
  simp [ssnd, msend, xsend, xadd, u3, hf, d 12 rfl, d 1 rfl, d 0 rfl]
theorem Rnet0.snd {T n m lo k c kd : Nat} {a b dx dm : Int32} (h0 : Rnet0 σ T n m lo k) (hkd : 1 ≤ kd ∧ kd ≤ 6) (hc : c < n) (hd1 : kd ≠ 1 → dx = dm) (hd2 : kd = 1 → dm = σ 72 0 c) (hd3 : kd = 3 → ∃ d, 1 ≤ d ∧ d < 9 ∧ dm = nI d) (hd5 : kd = 5 → ∃ d, d ≤ 9 ∧ dm = nI d) : Rnet0 (ssnd σ m c kd a b dx dm) T n (m + 1) lo k := by
  have hn := h0.2.1.2.2
  have v89 : ssnd σ m c kd a b dx dm 89 0 m = nI c := by simp [ssnd, msend, xsend, xadd, u3]
  have v84 : ssnd σ m c kd a b dx dm 84 0 m = nI kd := by simp [ssnd, msend, xsend, xadd, u3]
  have v90 : ssnd σ m c kd a b dx dm 90 0 m = dm := by simp [ssnd, msend, xsend, xadd, u3]
  have v0 : ∀ c2 j, ssnd σ m c kd a b dx dm 0 c2 j = if c2 = c ∧ j = 11 then σ 0 c 11 + 1 else σ 0 c2 j := by
    intro c2 j
    by_cases z1 : c2 = c <;> by_cases z2 : j = 11 <;> simp [ssnd, msend, xsend, xadd, u3, z1, z2]
  refine h0.add (fun q z => ssnd_k (kAdd_d z).1 (kAdd_d z).2.2.1 (kAdd_d z).2.2.2.1 (kAdd_d z).2.2.2.2) (fun c2 j hj => by rw [v0, if_neg (fun z => hj z.2)]) (fun c2 hc2 => ?_) (fun c2 hc2 _ => by rw [v0, if_neg (fun z => by omega)]) ?_ ?_ (fun q f z hf => ssnd_f z hf) ?_ ?_ ?_ ?_
  · rw [v89, v0]
    by_cases hcc : c2 = c
    · rw [if_pos ⟨hcc, rfl⟩, if_pos (by rw [hcc]), hcc]
    · rw [if_neg (fun z => hcc z.1), if_neg (fun z => hcc ((nI_eq (by omega) (by omega)).mp z).symm)]; simp
  · simp [ssnd, msend, xsend, xadd, u3]
  · simp [ssnd, msend, xsend, xadd, u3]
  · have hT := h0.1
    have e1 : ∀ z : nI kd = 1 → False, dx = dm := fun z => hd1 (fun e => z (by rw [e]; rfl))
    simp [Rframe, ssnd, msend, xsend, xadd, u3, hT.1, hT.2.1]
    exact e1
  · exact Or.inr ⟨kd, c, by omega, by omega, hc, v84, v89, fun z => by rw [v90]; exact hd3 z, fun z => by rw [v90]; exact hd5 z⟩
  · simp [ssnd, msend, xsend, xadd, u3]
  · intro c2 h1 h2 hc2
    have e1 : kd = 1 := (nI_eq (b := 1) (by omega) (by decide)).mp (v84.symm.trans h1)
    have e2 : c = c2 := (nI_eq (by omega) (by omega)).mp (v89.symm.trans h2)
    rw [v90, hd2 e1, e2]
theorem asksU_snd {m c kd lo c2 : Nat} {a b dx dm : Int32} (hkd : 2 ≤ kd ∧ kd ≤ 6) : asksU (ssnd σ m c kd a b dx dm) lo (m + 1) c2 = asksU σ lo m c2 := by
  have v84 : ssnd σ m c kd a b dx dm 84 0 m = nI kd := by simp [ssnd, msend, xsend, xadd, u3]
  show cntN _ m + _ = _
  have e1 : cntN (fun f => decide (lo ≤ f ∧ ssnd σ m c kd a b dx dm 84 0 f = 1 ∧ ssnd σ m c kd a b dx dm 89 0 f = nI c2)) m = asksU σ lo m c2 := by
    refine cntN_cg (fun f hf => ?_)
    rw [ssnd_f rfl (by omega), ssnd_f rfl (by omega)]
  rw [e1]
  have e2 : ¬ (lo ≤ m ∧ ssnd σ m c kd a b dx dm 84 0 m = 1 ∧ ssnd σ m c kd a b dx dm 89 0 m = nI c2) := fun z => absurd ((nI_eq (b := 1) (by omega) (by decide)).mp (v84.symm.trans z.2.1)) (by omega)
  simp only [decide_eq_true_eq, if_neg e2]
  rfl
theorem x_nsend6 {m c : Nat} {d : Int32} (hc : c < 30) (hm : σ 1 0 0 = nI m) (hm2 : m < 690) : am_D l 15 [aR 3 0, aI 6, aI (nI c), aI d] σ τ (rX t) cX lX (some (aI (nI m))) (xsend σ m c 6 (σ 0 c 0) (σ 0 c 1) d) τ (rX t) := by
  refine am_D_of am_o15 am_l15 rfl ?_
  refine am_vc_ok am_k15 [] 100 ?_
  refine And.intro (vp_in_nI (N := 30) hc (by decide)) ?_
  rw [nI_clamp (by omega)]
  refine And.intro (fun h => absurd h (by decide)) (fun _ => ?_)
  refine And.intro (fun _ => ?_) (fun h => absurd rfl h)
  refine And.intro (fun h => absurd h (by decide)) (fun _ => ?_)
  refine And.intro (fun h => absurd h (by decide)) (fun _ => ?_)
  refine am_vO am_k15 am_h15 rfl rfl rfl rfl (x_addF (m := m) (by simp [u3, hm]) hm2) ?_
  refine am_vc_ok am_k15 [] 100 ?_
  refine am_vI am_k15 am_r15 rfl ⟨rfl, ?_, rfl, rfl, rfl, rfl⟩
  rw [u3_jj (show 0 ≠ 11 by decide), u3_jj (show 1 ≠ 11 by decide)]
  rfl
abbrev xend (σ : tI) (c w : Nat) (h : Int32) : tI := u3 (u3 (u3 σ 0 c 7 h) 0 c 8 (σ 3 0 4)) 3 0 6 (nI w)
theorem x_end {c w : Nat} {h : Int32} (hc : c < 30) (h7 : σ 0 c 7 = 0) (hw : σ 3 0 6 = nI (w + 1)) : am_D l 17 [aR 3 0, aI (nI c), aI h] σ τ (rX t) cX lX none (xend σ c w h) τ (rX t) := by
  refine am_D_of am_o17 am_l17 rfl ?_
  refine am_vc_ok am_k17 [] 100 ?_
  refine And.intro (vp_in_nI (N := 30) hc (by decide)) ?_
  rw [nI_clamp (by omega)]
  refine And.intro (fun _ => ?_) (fun g => absurd h7 g)
  refine And.intro (vp_in_nI (N := 30) hc (by decide)) ?_
  refine And.intro (vp_in_nI (N := 30) hc (by decide)) ?_
  rw [nI_clamp (by omega)]
  refine am_vV am_k17 am_r17 rfl ⟨rfl, ?_, rfl, rfl, rfl, rfl⟩
  have e : σ 3 0 6 - 1 = nI w := by rw [hw, ← nI_1 w]; simp
  unfold xend
  rw [← e]
  rfl
theorem x_giveUp {c w m : Nat} {h : Int32} (hc : c < 30) (h7 : σ 0 c 7 = 0) (hw : σ 3 0 6 = nI (w + 1)) (hm : σ 1 0 0 = nI m) (hm2 : m < 690) : am_D l 18 [aR 3 0, aI (nI c), aI h] σ τ (rX t) cX lX none (xsend (xend σ c w h) m c 6 (σ 0 c 0) (σ 0 c 1) h) τ (rX t) := by
  refine am_D_of am_o18 am_l18 rfl ?_
  refine am_vc_ok am_k18 [] 100 ?_
  refine am_vO am_k18 am_h18 rfl rfl rfl rfl (x_end (w := w) hc h7 hw) ?_
  refine am_vc_ok am_k18 [] 100 ?_
  refine am_vO am_k18 am_h18 rfl rfl rfl rfl (x_nsend6 (m := m) hc (by simp [xend, u3, hm]) hm2) ?_
  refine am_vc_ok am_k18 [] 100 ?_
  refine am_vV am_k18 am_r18 rfl ⟨rfl, ?_, rfl, rfl, rfl, rfl⟩
  have e0 : xend σ c w h 0 c 0 = σ 0 c 0 := by simp [xend, u3]
  have e1 : xend σ c w h 0 c 1 = σ 0 c 1 := by simp [xend, u3]
  rw [e0, e1]
abbrev mends (σ : tI) (c : Nat) (h : Int32) : tI := u3 (u3 σ 71 0 c h) 75 0 c (σ 12 0 5)
theorem m_ends {c : Nat} {h : Int32} (hc : c < 30) : am_D l 219 [aR 12 0, aI (nI c), aI h] σ τ (rX t) cX lX none (mends σ c h) τ (rX t) := by
  refine am_D_of am_o219 am_l219 rfl ?_
  refine am_vc_ok am_k219 [] 100 ?_
  refine And.intro (vp_in_nI (N := 30) hc (by decide)) ?_
  refine And.intro (vp_in_nI (N := 30) hc (by decide)) ?_
  rw [nI_clamp (by omega)]
  exact am_vV am_k219 am_r219 rfl ⟨rfl, rfl, rfl, rfl, rfl, rfl⟩
theorem x_cancel_bad {c : Int32} (h : ¬ (0 ≤ c ∧ c < σ 3 0 5)) : am_D l 123 [aR 11 0, aI c] σ τ (rX t) cX lX (some (aI (-1))) σ τ (rX t) := by
  refine am_D_of am_o123 am_l123 rfl ?_
  refine am_vc_ok am_k123 [] 100 ?_
  refine am_vS am_k123 am_h123 rfl rfl rfl rfl (x_within) ?_
  refine am_vc_ok am_k123 [] 100 ?_
  refine And.intro (fun h1 => ?_) (fun h1 => ?_)
  · exact am_vI am_k123 am_r123 rfl ⟨rfl, rfl, rfl, rfl, rfl, rfl⟩
  · exact absurd (bI_1.mp h1) h
theorem x_cancel_not {c n : Nat} (hn : σ 3 0 5 = nI n) (hn2 : n ≤ 30) (hc : c < n) (h7 : ¬ σ 0 c 7 = 0) : am_D l 123 [aR 11 0, aI (nI c)] σ τ (rX t) cX lX (some (aI (-4))) σ τ (rX t) := by
  refine am_D_of am_o123 am_l123 rfl ?_
  refine am_vc_ok am_k123 [] 100 ?_
  refine am_vS am_k123 am_h123 rfl rfl rfl rfl (x_within) ?_
  refine am_vc_ok am_k123 [] 100 ?_
  refine And.intro (fun g => absurd (by rw [hn]; exact inN hc (by omega)) (bI_0.mp g)) (fun _ => ?_)
  refine And.intro (vp_in_nI (N := 30) (by omega) (by decide)) ?_
  rw [nI_clamp (by omega)]
  refine And.intro (fun g => absurd g h7) (fun _ => ?_)
  exact am_vI am_k123 am_r123 rfl ⟨rfl, rfl, rfl, rfl, rfl, rfl⟩
theorem x_cancel {c n w m : Nat} (hn : σ 3 0 5 = nI n) (hn2 : n ≤ 30) (hc : c < n) (h7 : σ 0 c 7 = 0) (hw : σ 3 0 6 = nI (w + 1)) (hm : σ 1 0 0 = nI m) (hm2 : m < 690) : am_D l 123 [aR 11 0, aI (nI c)] σ τ (rX t) cX lX (some (aI 1)) (xsend (xend σ c w 5) m c 6 (σ 0 c 0) (σ 0 c 1) 5) τ (rX t) := by
  refine am_D_of am_o123 am_l123 rfl ?_
  refine am_vc_ok am_k123 [] 100 ?_
  refine am_vS am_k123 am_h123 rfl rfl rfl rfl (x_within) ?_
  refine am_vc_ok am_k123 [] 100 ?_
  refine And.intro (fun g => absurd (by rw [hn]; exact inN hc (by omega)) (bI_0.mp g)) (fun _ => ?_)
  refine And.intro (vp_in_nI (N := 30) (by omega) (by decide)) ?_
  rw [nI_clamp (by omega)]
  refine And.intro (fun _ => ?_) (fun g => absurd h7 g)
  refine am_vO am_k123 am_h123 rfl rfl rfl rfl (x_giveUp (w := w) (m := m) (by omega) h7 hw hm hm2) ?_
  refine am_vc_ok am_k123 [] 100 ?_
  exact am_vI am_k123 am_r123 rfl ⟨rfl, rfl, rfl, rfl, rfl, rfl⟩
theorem m_cancel_bad {c : Int32} (h : ¬ (0 ≤ c ∧ c ≤ σ 12 0 34 - 1)) : am_D l 232 [aR 12 0, aI c] σ τ (rX t) cX lX (some (aI (-1))) σ τ (rX t) := by
  refine am_D_of am_o232 am_l232 rfl ?_
  refine am_vc_ok am_k232 [] 100 ?_
  refine am_vO am_k232 am_h232 rfl rfl rfl rfl (m_isCall) ?_
  refine am_vc_ok am_k232 [] 100 ?_
  refine And.intro (fun h1 => ?_) (fun h1 => ?_)
  · exact am_vI am_k232 am_r232 rfl ⟨rfl, rfl, rfl, rfl, rfl, rfl⟩
  · exact absurd (bI_1.mp h1) h
theorem m_cancel_not {c : Nat} (hc : 0 ≤ nI c ∧ nI c ≤ σ 12 0 34 - 1) (hc2 : c < 30) (h7 : ¬ σ 71 0 c = 0) : am_D l 232 [aR 12 0, aI (nI c)] σ τ (rX t) cX lX (some (aI (-4))) σ τ (rX t) := by
  refine am_D_of am_o232 am_l232 rfl ?_
  refine am_vc_ok am_k232 [] 100 ?_
  refine am_vO am_k232 am_h232 rfl rfl rfl rfl (m_isCall) ?_
  refine am_vc_ok am_k232 [] 100 ?_
  refine And.intro (fun g => absurd hc (bI_0.mp g)) (fun _ => ?_)
  refine And.intro (vp_in_nI (N := 30) (by omega) (by decide)) ?_
  rw [nI_clamp (by omega)]
  refine And.intro (fun g => absurd g h7) (fun _ => ?_)
  exact am_vI am_k232 am_r232 rfl ⟨rfl, rfl, rfl, rfl, rfl, rfl⟩
theorem m_cancel {c m : Nat} (hc : 0 ≤ nI c ∧ nI c ≤ σ 12 0 34 - 1) (hc2 : c < 30) (h7 : σ 71 0 c = 0) (hm : σ 12 0 54 = nI m) (hm2 : m < 690) : am_D l 232 [aR 12 0, aI (nI c)] σ τ (rX t) cX lX (some (aI 1)) (msend (mends σ c 5) m 6 (σ 65 0 c) (σ 66 0 c) (nI c) 5) τ (rX t) := by
  refine am_D_of am_o232 am_l232 rfl ?_
  refine am_vc_ok am_k232 [] 100 ?_
  refine am_vO am_k232 am_h232 rfl rfl rfl rfl (m_isCall) ?_
  refine am_vc_ok am_k232 [] 100 ?_
  refine And.intro (fun g => absurd hc (bI_0.mp g)) (fun _ => ?_)
  refine And.intro (vp_in_nI (N := 30) (by omega) (by decide)) ?_
  rw [nI_clamp (by omega)]
  refine And.intro (fun _ => ?_) (fun g => absurd h7 g)
  refine am_vO am_k232 am_h232 rfl rfl rfl rfl (m_ends hc2) ?_
  refine am_vc_ok am_k232 [] 100 ?_
  refine am_vO am_k232 am_h232 rfl rfl rfl rfl (m_sendOut (m := m) hc2 (by simp [mends, u3, hm]) hm2) ?_
  refine am_vc_ok am_k232 [] 100 ?_
  exact am_vI am_k232 am_r232 rfl ⟨rfl, rfl, rfl, rfl, rfl, rfl⟩
/-- call c ends with h -/
abbrev sfin (σ : tI) (c w T h : Nat) : tI := u3 (u3 (u3 (u3 (u3 σ 0 c 7 (nI h)) 0 c 8 (nI T)) 3 0 6 (nI w)) 71 0 c (nI h)) 75 0 c (nI T)
theorem Rnet0.fin {T n m lo k c w hh : Nat} (h : Rnet0 σ T n m lo k) (hc : c < n) (h7 : σ 71 0 c = 0) (hw : σ 3 0 6 = nI (w + 1)) (hw2 : w ≤ 30) (hh1 : 1 ≤ hh) (hh2 : hh < 9) : Rnet0 (sfin σ c w T hh) T n m lo k := by
  have e : ∀ q, q ≠ 0 → q ≠ 3 → q ≠ 71 → q ≠ 75 → sfin σ c w T hh q = σ q := by
    intro q a1 a2 a3 a4
    unfold sfin
    rw [u3_kk _ _ a4, u3_kk _ _ a3, u3_kk _ _ a2, u3_kk _ _ a1, u3_kk _ _ a1]
  have e0 : ∀ c2 j, c2 ≠ c ∨ (j ≠ 7 ∧ j ≠ 8) → sfin σ c w T hh 0 c2 j = σ 0 c2 j := by
    intro c2 j hj
    unfold sfin
    rw [u3_k _ _ (by decide), u3_k _ _ (by decide), u3_k _ _ (by decide)]
    rcases hj with hj | hj
    · rw [u3_i _ _ hj, u3_i _ _ hj]
    · rw [u3_j _ _ hj.2, u3_j _ _ hj.1]
  have e3 : ∀ j, j ≠ 6 → sfin σ c w T hh 3 0 j = σ 3 0 j := by
    intro j hj
    simp [sfin, u3, hj]
  have v6 : sfin σ c w T hh 3 0 6 = nI w := by simp [sfin, u3]
  have v7 : sfin σ c w T hh 0 c 7 = nI hh := by simp [sfin, u3]
  have v8 : sfin σ c w T hh 0 c 8 = nI T := by simp [sfin, u3]
  have v71 : ∀ c2, sfin σ c w T hh 71 0 c2 = if c2 = c then nI hh else σ 71 0 c2 := by
    intro c2
    simp [sfin, u3]
  have v75 : ∀ c2, sfin σ c w T hh 75 0 c2 = if c2 = c then nI T else σ 75 0 c2 := by
    intro c2
    simp [sfin, u3]
  generalize sfin σ c w T hh = s at e e0 e3 v6 v7 v8 v71 v75 ⊢
  have d : ∀ q, (Nat.ble 1 q && Nat.ble q 2 || Nat.ble 4 q && Nat.ble q 70 || Nat.ble 72 q && Nat.ble q 74 || Nat.ble 76 q) = true → s q = σ q := by
    intro q z
    simp only [Bool.or_eq_true, Bool.and_eq_true, Nat.ble_eq] at z
    exact e q (by omega) (by omega) (by omega) (by omega)
  have nh : ¬ nI hh = 0 := fun z => absurd ((nI_eq (b := 0) (by omega) (by decide)).mp z) (by omega)
  obtain ⟨h1, h2, h3, h4, h5, h6, h7'⟩ := h
  refine ⟨?_, ?_, ?_, ?_, ?_, ?_, ?_⟩
  · rw [e3 4 (by decide), d 12 rfl]; exact h1
  · rw [e3 5 (by decide), d 12 rfl]; exact h2
  · intro c2 hc2
    obtain ⟨g1, g2, g3⟩ := h3 c2 hc2
    have gU : undU s lo m c2 = undU σ lo m c2 := by unfold undU; rw [d 89 rfl]
    rw [gU, e0 c2 11 (Or.inr (by decide))]
    refine ⟨?_, ?_, g3⟩
    · unfold Rcall at g1 ⊢
      have g7 : s 0 c2 7 = s 71 0 c2 := by
        rw [v71]
        by_cases hcc : c2 = c
        · rw [if_pos hcc, hcc, v7]
        · rw [if_neg hcc, e0 c2 7 (Or.inl hcc)]; exact g1.2.2.2.2.2.2.2.1
      have g8 : s 0 c2 8 = s 75 0 c2 := by
        rw [v75]
        by_cases hcc : c2 = c
        · rw [if_pos hcc, hcc, v8]
        · rw [if_neg hcc, e0 c2 8 (Or.inl hcc)]; exact g1.2.2.2.2.2.2.2.2.1
      rw [e0 c2 0 (Or.inr (by decide)), e0 c2 1 (Or.inr (by decide)), e0 c2 2 (Or.inr (by decide)), e0 c2 3 (Or.inr (by decide)), e0 c2 4 (Or.inr (by decide)), e0 c2 5 (Or.inr (by decide)), e0 c2 6 (Or.inr (by decide)), e0 c2 9 (Or.inr (by decide)), e0 c2 10 (Or.inr (by decide)), e0 c2 12 (Or.inr (by decide)), e0 c2 13 (Or.inr (by decide)), e0 c2 14 (Or.inr (by decide)), e0 c2 15 (Or.inr (by decide)), e0 c2 16 (Or.inr (by decide)), e0 c2 17 (Or.inr (by decide)), e0 c2 18 (Or.inr (by decide)), d 13 rfl, d 65 rfl, d 66 rfl, d 67 rfl, d 68 rfl, d 69 rfl, d 70 rfl, d 72 rfl, d 73 rfl, d 74 rfl, d 76 rfl, d 77 rfl, d 78 rfl, d 79 rfl, d 80 rfl, d 81 rfl, d 82 rfl, d 83 rfl]
      obtain ⟨k0, k1, k2, k3, k4, k5, k6, -, -, k9⟩ := g1
      exact ⟨k0, k1, k2, k3, k4, k5, k6, g7, g8, k9⟩
    · unfold Ocall at g2 ⊢
      rw [d 65 rfl, d 66 rfl, d 67 rfl, d 68 rfl, d 70 rfl, d 72 rfl, d 77 rfl, d 78 rfl, d 81 rfl, d 82 rfl, v71]
      obtain ⟨k1, k2, k3, k4, k5, k6, k7⟩ := g2
      refine ⟨k1, k2, k3, k4, k5, ?_, k7⟩
      by_cases hcc : c2 = c
      · rw [if_pos hcc]; exact ⟨hh, hh2, rfl⟩
      · rw [if_neg hcc]; exact k6
  · intro c2 hc1 hc2
    have g := h4 c2 hc1 hc2
    have hcc : c2 ≠ c := by omega
    unfold Fcall at g ⊢
    rw [e0 c2 7 (Or.inl hcc), e0 c2 8 (Or.inl hcc), e0 c2 9 (Or.inl hcc), e0 c2 11 (Or.inl hcc), e0 c2 12 (Or.inl hcc), e0 c2 14 (Or.inl hcc), e0 c2 15 (Or.inl hcc), e0 c2 16 (Or.inl hcc), e0 c2 17 (Or.inl hcc), e0 c2 18 (Or.inl hcc), d 13 rfl, d 72 rfl, d 73 rfl, d 77 rfl, d 80 rfl, d 81 rfl, d 82 rfl, d 83 rfl]
    exact g
  · rw [v6]
    have e1 : cntN (fun x => decide (σ 71 0 x = 0)) n = cntN (fun x => decide (s 71 0 x = 0)) n + 1 := cntN_dec (c := c) (by simp [h7]) (by simp [v71, nh]) (fun x hx => by rw [v71, if_neg hx]) hc
    have e2 : w + 1 = cntN (fun x => decide (σ 71 0 x = 0)) n := (nI_eq (by omega) (by have := cntN_le (p := fun x => decide (σ 71 0 x = 0)) (n := n); have := h2.2.2; omega)).mp (hw.symm.trans h5)
    rw [show w = cntN (fun x => decide (s 71 0 x = 0)) n by omega]
  · rw [d 8 rfl, d 62 rfl, d 63 rfl, d 64 rfl, d 66 rfl, d 77 rfl]; exact h6
  · unfold Rframe Oframe at h7' ⊢
    rw [d 1 rfl, d 2 rfl, d 12 rfl, d 14 rfl, d 15 rfl, d 16 rfl, d 17 rfl, d 18 rfl, d 19 rfl, d 20 rfl, d 21 rfl, d 22 rfl, d 23 rfl, d 72 rfl, d 84 rfl, d 85 rfl, d 86 rfl, d 87 rfl, d 88 rfl, d 89 rfl, d 90 rfl, d 91 rfl, d 92 rfl, d 93 rfl]
    exact h7'
theorem xadd_comm {m q i j : Nat} {kd a b at' c d v : Int32} (h1 : q ≠ 1) (hF : kFr q = false) : u3 (xadd σ m kd a b at' c d) q i j v = xadd (u3 σ q i j v) m kd a b at' c d := by
  have e : ∀ c, kFr c = true → c ≠ q := fun c hc e => by rw [← e, hc] at hF; cases hF
  unfold xadd
  rw [u3_comm (Ne.symm h1), u3_comm (e 20 rfl), u3_comm (e 19 rfl), u3_comm (e 18 rfl), u3_comm (e 17 rfl), u3_comm (e 16 rfl), u3_comm (e 15 rfl), u3_comm (e 14 rfl)]
theorem fin_eq {m c w T : Nat} {a b : Int32} (h1 : σ 3 0 4 = nI T) (h2 : σ 12 0 5 = nI T) : mends (xsend (xend σ c w 5) m c 6 a b 5) c 5 = xsend (sfin σ c w T 5) m c 6 a b 5 := by
  have q1 : (xsend (xend σ c w 5) m c 6 a b 5) 12 0 5 = nI T := by simp [xsend, xadd, xend, u3, h2]
  have q2 : xend σ c w 5 = u3 (u3 (u3 σ 0 c 7 (nI 5)) 0 c 8 (nI T)) 3 0 6 (nI w) := by unfold xend; rw [h1]; rfl
  have q3 : mends (xsend (xend σ c w 5) m c 6 a b 5) c 5 = u3 (u3 (xsend (xend σ c w 5) m c 6 a b 5) 71 0 c 5) 75 0 c (nI T) := by unfold mends; rw [q1]
  rw [q3]
  unfold xsend
  rw [xadd_comm (q := 71) (by decide) rfl, xadd_comm (q := 75) (by decide) rfl, u3_comm (k := 0) (k2 := 71) (j := 11) (by decide), u3_comm (k := 0) (k2 := 75) (j := 11) (by decide), q2]
  rfl
theorem Rnet.cancel {T n m lo k c w : Nat} {a b : Int32} (h : Rnet σ T n m lo k) (hc : c < n) (h7 : σ 71 0 c = 0) (hw : σ 3 0 6 = nI (w + 1)) (hw2 : w ≤ 30) : Rnet (ssnd (sfin σ c w T 5) m c 6 a b 5 5) T n (m + 1) lo k := by
  obtain ⟨h0, ha⟩ := h.split
  refine Rnet.join ((h0.fin hc h7 hw hw2 (by decide) (by decide)).snd (by decide) hc (fun _ => rfl) (fun z => absurd z (by decide)) (fun z => absurd z (by decide)) (fun z => absurd z (by decide))) ?_
  obtain ⟨P, S, Rp, Kc, g1, g2, g3, g4, g5, g6, g7, g8⟩ := ha
  have e : ∀ q, q ≠ 0 → q ≠ 1 → q ≠ 3 → q ≠ 12 → q ≠ 71 → q ≠ 75 → kFr q = false → ssnd (sfin σ c w T 5) m c 6 a b 5 5 q = σ q := by
    intro q a1 a2 a3 a4 a5 a6 a7
    rw [ssnd_k a1 a2 a4 a7]
    unfold sfin
    rw [u3_kk _ _ a6, u3_kk _ _ a5, u3_kk _ _ a3, u3_kk _ _ a1, u3_kk _ _ a1]
  have e72 := e 72 (by decide) (by decide) (by decide) (by decide) (by decide) (by decide) rfl
  have e77 := e 77 (by decide) (by decide) (by decide) (by decide) (by decide) (by decide) rfl
  have e81 := e 81 (by decide) (by decide) (by decide) (by decide) (by decide) (by decide) rfl
  have v71 : ∀ c2, ssnd (sfin σ c w T 5) m c 6 a b 5 5 71 0 c2 = if c2 = c then nI 5 else σ 71 0 c2 := by
    intro c2
    rw [ssnd_k (by decide) (by decide) (by decide) rfl]
    simp [sfin, u3]
  have hK : Kc c = 0 := by
    have z := (g8 c hc).2.1
    rw [if_pos h7] at z
    omega
  have hA : ∀ c2, asksU (ssnd (sfin σ c w T 5) m c 6 a b 5 5) lo (m + 1) c2 = asksU σ lo m c2 := by
    intro c2
    rw [asksU_snd (by decide)]
    unfold asksU
    have e84 : sfin σ c w T 5 84 = σ 84 := by
      unfold sfin
      rw [u3_kk _ _ (by decide), u3_kk _ _ (by decide), u3_kk _ _ (by decide), u3_kk _ _ (by decide), u3_kk _ _ (by decide)]
    have e89 : sfin σ c w T 5 89 = σ 89 := by
      unfold sfin
      rw [u3_kk _ _ (by decide), u3_kk _ _ (by decide), u3_kk _ _ (by decide), u3_kk _ _ (by decide), u3_kk _ _ (by decide)]
    rw [e84, e89]
  refine ⟨P, S, Rp, fun x => if x = c then 1 else Kc x, ?_, ?_, g3, ?_, ?_, g6, ?_, ?_⟩
  · rw [← g1]; simp [ssnd, sfin, msend, xsend, xadd, u3]
  · rw [← g2]; simp [ssnd, sfin, msend, xsend, xadd, u3]
  · rw [← g4]; simp [ssnd, sfin, msend, xsend, xadd, u3]
  · rw [← g5]; simp [ssnd, sfin, msend, xsend, xadd, u3]
  · rw [e72, sumN_inc (f := fun x => (σ 72 0 x).toNatClampNeg + 1 + Rp x + Kc x) (c := c) (by simp [hK]) (fun x hx => by simp [hx]), if_pos hc]
    omega
  · intro c2 hc2
    rw [hA, e72, e77, v71, e81]
    refine ⟨(g8 c2 hc2).1, ?_, (g8 c2 hc2).2.2⟩
    show (if c2 = c then 1 else Kc c2) ≤ _
    by_cases hcc : c2 = c
    · simp only [if_pos hcc]; decide
    · simp only [if_neg hcc]; exact (g8 c2 hc2).2.1
theorem LC_cancel (h : Rall σ τ) (c : Int32) : LC l 123 232 [aI c] σ τ t := by
  obtain ⟨-, -, -, -, -, -, T, n, m, lo, k, hN⟩ := id h
  have h0 := hN.split.1
  have hm := h0.2.2.2.2.2.2.1
  have hn := h0.2.1
  have hT := h0.1
  by_cases hc : 0 ≤ c ∧ c < nI n
  · obtain ⟨c, hc1, rfl⟩ := ix_lt (nI_toInt (by omega)) hc
    have hcm : 0 ≤ nI c ∧ nI c ≤ nI n - 1 := (le_pred2 (by omega)).mpr hc
    have hC := (h0.2.2.1 c hc1).1
    have c7 : σ 0 c 7 = σ 71 0 c := hC.2.2.2.2.2.2.2.1
    by_cases h7 : σ 71 0 c = 0
    · obtain ⟨w, hw, hw2⟩ : ∃ w, σ 3 0 6 = nI (w + 1) ∧ w ≤ 30 := by
        refine ⟨cntN (fun x => decide (x ≠ c) && decide (σ 71 0 x = 0)) n, ?_, ?_⟩
        · rw [h0.2.2.2.2.1, cntN_dec (p := fun x => decide (σ 71 0 x = 0)) (q := fun x => decide (x ≠ c) && decide (σ 71 0 x = 0)) (c := c) (by simp [h7]) (by simp) (fun x hx => by simp [hx]) hc1]
        · exact Nat.le_trans cntN_le hn.2.2
      have hN2 := hN.cancel (a := σ 0 c 0) (b := σ 0 c 1) hc1 h7 hw hw2
      have hm2 := hN2.m_le
      have hM := m_cancel (l := l) (σ := xsend (xend σ c w 5) m c 6 (σ 0 c 0) (σ 0 c 1) 5) (τ := τ) (t := t) (c := c) (m := m) (by simp [xsend, xend, xadd, u3, hn.2.1]; exact hcm) (by omega) (by simp [xsend, xend, xadd, u3, h7]) (by simp [xsend, xend, xadd, u3, hm.2]) (by omega)
      have q1 : xsend (xend σ c w 5) m c 6 (σ 0 c 0) (σ 0 c 1) 5 65 0 c = σ 0 c 0 := by rw [hC.1]; simp [xsend, xend, xadd, u3]
      have q2 : xsend (xend σ c w 5) m c 6 (σ 0 c 0) (σ 0 c 1) 5 66 0 c = σ 0 c 1 := by rw [hC.2.1]; simp [xsend, xend, xadd, u3]
      rw [q1, q2, fin_eq hT.1 hT.2.1] at hM
      refine LC.of (x_cancel hn.1 hn.2.2 hc1 (c7.trans h7) hw hm.1 (by omega)) hM ?_
      refine h.net (fun q z1 z2 z3 => ?_) (fun c2 hc2 => ?_) (fun j z => ?_) hN2
      · have d : ∀ c, kNet c = true → q ≠ c := fun c hc e => by rw [e, hc] at z1; cases z1
        refine (ssnd_k (σ := sfin σ c w T 5) (m := m) (c := c) (kd := 6) (a := σ 0 c 0) (b := σ 0 c 1) (dx := 5) (dm := 5) (q := q) (d 0 rfl) (d 1 rfl) z3 (kNet_fr z1)).trans ?_
        unfold sfin
        rw [u3_kk _ _ (d 75 rfl), u3_kk _ _ (d 71 rfl), u3_kk _ _ (d 3 rfl), u3_kk _ _ (d 0 rfl), u3_kk _ _ (d 0 rfl)]
      · have e8 := ssnd_k (σ := sfin σ c w T 5) (m := m) (c := c) (kd := 6) (a := σ 0 c 0) (b := σ 0 c 1) (dx := 5) (dm := 5) (q := 8) (by decide) (by decide) (by decide) rfl
        exact ⟨congrFun (congrFun e8 c2) 0, congrFun (congrFun e8 c2) 1⟩
      · have d1 : j ≠ 54 := fun e => by rw [e] at z; cases z
        simp [ssnd, sfin, msend, xsend, xadd, u3, d1]
    · exact LC.of (x_cancel_not hn.1 hn.2.2 hc1 (by rw [c7]; exact h7)) (m_cancel_not (by rw [hn.2.1]; exact hcm) (by omega) h7) h
  · exact LC.of (x_cancel_bad (by rw [hn.1]; exact hc)) (m_cancel_bad (by rw [hn.2.1]; exact fun z => hc ((le_pred2 (by omega)).mp z))) h
end L12
