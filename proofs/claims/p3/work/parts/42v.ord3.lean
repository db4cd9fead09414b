/-! the model's setOrders -/
section L39
variable {l : Launch} {σ σ2 : tI} {τ τ2 : tL} {t : Option (Nat × Nat)}
theorem u3_tw {f : tI} {k i j : Nat} {v w : Int32} : u3 (u3 f k i j v) k i j w = u3 f k i j w := by
  funext a b c
  unfold u3
  by_cases h1 : a = k
  · by_cases h2 : b = i
    · by_cases h3 : c = j
      · simp [h1, h2, h3]
      · simp [h3]
    · simp [h2]
  · simp [h1]
/-- come[k] while its services are gone through -/
def cmP (σ : tI) (k a : Nat) : Prop := k = 0 ∨ ∃ x, x < a ∧ mb k x = true ∧ σ 60 0 (dl k x) = 1
theorem cmP_s {k a : Nat} : cmP σ k (a + 1) ↔ cmP σ k a ∨ (mb k a = true ∧ σ 60 0 (dl k a) = 1) := by
  constructor
  · rintro (h | ⟨x, hx, h1, h2⟩)
    · exact Or.inl (Or.inl h)
    · by_cases e : x = a
      · rw [e] at h1 h2; exact Or.inr ⟨h1, h2⟩
      · exact Or.inl (Or.inr ⟨x, by omega, h1, h2⟩)
  · rintro ((h | ⟨x, hx, h1, h2⟩) | ⟨h1, h2⟩)
    · exact Or.inl h
    · exact Or.inr ⟨x, by omega, h1, h2⟩
    · exact Or.inr ⟨a, by omega, h1, h2⟩
theorem m_so_i {Q : tQ} {k c : Nat} (hk : k < 64) (h01 : ∀ s, s < k → σ 60 0 s = 0 ∨ σ 60 0 s = 1) (K : am_G l 204 Q 0 0 85 [(3, aI (nI 6)), (2, aI (nI k)), (1, aI (nI c)), (0, aR 12 0)] [] (u3 σ 60 0 k (cI (cmP σ k 6))) τ (rX t) cX lX) : ∀ (d a : Nat) (w : Int32), a + d = 6 → w = cI (cmP σ k a) → am_G l 204 Q 0 0 30 [(3, aI (nI a)), (2, aI (nI k)), (1, aI (nI c)), (0, aR 12 0)] [] (u3 σ 60 0 k w) τ (rX t) cX lX
  | 0, a, w, h, hw => by
    obtain rfl : a = 6 := by omega
    rw [hw]
    refine am_vc_ok am_k204 [30, 85] 100 ?_
    exact And.intro (fun _ => K) (fun h1 => absurd (show (6 : Int32) ≤ nI 6 by decide) h1)
  | d + 1, a, w, h, hw => by
    have ha : a < 6 := by omega
    have q1 : u3 σ 60 0 k w 60 0 k = w := by simp [u3]
    refine am_vc_ok am_k204 [30, 85] 100 ?_
    refine And.intro (fun h1 => absurd h1 (nI_ge (b := 6) (by omega) (by decide))) (fun _ => ?_)
    refine And.intro (vp_in_nI (N := 64) hk (by decide)) ?_
    rw [nI_clamp (n := k) (by omega), q1]
    have fin : ∀ v : Int32, v = cI (cmP σ k (a + 1)) → am_G l 204 Q 0 0 30 [(3, aI (nI a + 1)), (2, aI (nI k)), (1, aI (nI c)), (0, aR 12 0)] [] (u3 (u3 σ 60 0 k w) 60 0 k v) τ (rX t) cX lX := by
      intro v hv
      rw [u3_tw, show nI a + 1 = nI (a + 1) from nI_1 a]
      exact m_so_i hk h01 K d (a + 1) v (by omega) hv
    refine And.intro (fun e => ?_) (fun e => ?_)
    · have e : w = 0 := e
      rw [hw] at e
      have e := cI_0.mp e
      refine am_vS am_k204 am_h204 rfl rfl rfl rfl (m_has) ?_
      refine am_vc_ok am_k204 [30, 85] 100 ?_
      refine And.intro (fun g => ?_) (fun g => ?_)
      · have g := bI_0.mp g
        refine And.intro (⟨vp_in_nI (N := 64) hk (by decide), Or.inl rfl⟩) ?_
        rw [nI_clamp (n := k) (by omega)]
        exact fin 0 (cI_f (fun z => (cmP_s.mp z).elim e (fun y => g ((has_mb k hk a ha).mpr y.1)))).symm
      · have g := (has_mb k hk a ha).mp (bI_1.mp g)
        have hd := dl_lt k hk a ha g
        have q2 : u3 σ 60 0 k w 60 0 (dl k a) = σ 60 0 (dl k a) := by rw [u3_j _ _ (by omega)]
        refine And.intro (by rw [and_dl k hk a ha]; exact vp_in_nI (N := 64) (by omega) (by decide)) ?_
        rw [and_dl k hk a ha, nI_clamp (n := dl k a) (by omega), q2]
        refine And.intro (fun y => ?_) (fun y => ?_)
        · have y : σ 60 0 (dl k a) = 0 := y
          refine And.intro (⟨vp_in_nI (N := 64) hk (by decide), Or.inl rfl⟩) ?_
          rw [nI_clamp (n := k) (by omega)]
          exact fin 0 (cI_f (fun z => (cmP_s.mp z).elim e (fun x => absurd (y.symm.trans x.2) (by decide)))).symm
        · have y : ¬ σ 60 0 (dl k a) = 0 := y
          refine And.intro (⟨vp_in_nI (N := 64) hk (by decide), Or.inr rfl⟩) ?_
          rw [nI_clamp (n := k) (by omega)]
          exact fin 1 (cI_t (cmP_s.mpr (Or.inr ⟨g, (h01 _ (by omega)).resolve_left y⟩))).symm
    · have e : ¬ w = 0 := e
      rw [hw] at e
      have e := cI_n0.mp e
      refine And.intro (⟨vp_in_nI (N := 64) hk (by decide), Or.inr rfl⟩) ?_
      rw [nI_clamp (n := k) (by omega)]
      exact fin 1 (cI_t (cmP_s.mpr (Or.inl e))).symm
/-- sets below n are told -/
def soP (σ σ' : tI) (n : Nat) : Prop := (∀ q, q ≠ 60 → σ' q = σ q) ∧ (∀ s, s < n → σ' 60 0 s = 0 ∨ σ' 60 0 s = 1) ∧ ∀ s, s < n → (σ' 60 0 s = 1 ↔ fsS σ s ∧ (s = 0 ∨ ∃ a, a < 6 ∧ mb s a = true ∧ σ' 60 0 (dl s a) = 1))
theorem soP_s {σ' : tI} {k : Nat} (hk : k < 64) (h : soP σ σ' k) {v : Int32} (hv : v = cI (cmP σ' k 6 ∧ fsS σ k)) : soP σ (u3 σ' 60 0 k v) (k + 1) := by
  obtain ⟨h1, h2, h3⟩ := h
  have e1 : ∀ s, s ≠ k → u3 σ' 60 0 k v 60 0 s = σ' 60 0 s := fun s hs => by rw [u3_j _ _ hs]
  have e2 : u3 σ' 60 0 k v 60 0 k = v := by simp [u3]
  refine ⟨fun q hq => by rw [u3_kk _ _ hq]; exact h1 q hq, fun s hs => ?_, fun s hs => ?_⟩
  · by_cases e : s = k
    · rw [e, e2, hv]; exact cI_01
    · rw [e1 s e]; exact h2 s (by omega)
  · by_cases e : s = k
    · subst e
      have z : cmP σ' s 6 ↔ (s = 0 ∨ ∃ a, a < 6 ∧ mb s a = true ∧ u3 σ' 60 0 s v 60 0 (dl s a) = 1) := by
        unfold cmP
        refine or_congr_right (exists_congr fun a => and_congr_right fun ha => and_congr_right fun hm => ?_)
        rw [e1 _ (by have := dl_lt s hk a ha hm; omega)]
      have y : v = 1 ↔ (cmP σ' s 6 ∧ fsS σ s) := by
        rw [hv]
        exact cI_1
      rw [e2, y, z]
      exact And.comm
    · rw [e1 s e, h3 s (by omega)]
      refine and_congr_right fun _ => or_congr_right (exists_congr fun a => and_congr_right fun ha => and_congr_right fun hm => ?_)
      rw [e1 _ (by have := dl_lt s (by omega) a ha hm; omega)]
theorem soP.k {σ' : tI} {n : Nat} (h : soP σ σ' n) : okW σ' = okW σ ∧ σ' 57 = σ 57 ∧ σ' 58 = σ 58 ∧ σ' 59 = σ 59 ∧ σ' 49 = σ 49 := by
  have h1 := h.1
  exact ⟨okW_k (h1 49 (by decide)) (h1 50 (by decide)) (h1 59 (by decide)), h1 57 (by decide), h1 58 (by decide), h1 59 (by decide), h1 49 (by decide)⟩
theorem m_so_1 {Q : tQ} (hD : DrOK σ) (K : ∀ σ', soP σ σ' 64 → am_G l 204 Q 0 0 127 [(2, aI (nI 64)), (1, aI (nI (chS σ))), (0, aR 12 0)] [] σ' τ (rX t) cX lX) : ∀ (d k : Nat) (σ' : tI), k + d = 64 → soP σ σ' k → am_G l 204 Q 0 0 7 [(2, aI (nI k)), (1, aI (nI (chS σ))), (0, aR 12 0)] [] σ' τ (rX t) cX lX
  | 0, k, σ', h, hP => by
    obtain rfl : k = 64 := by omega
    refine am_vc_ok am_k204 [7, 127] 100 ?_
    exact And.intro (fun _ => K σ' hP) (fun h1 => absurd (show (64 : Int32) ≤ nI 64 by decide) h1)
  | d + 1, k, σ', h, hP => by
    have hk : k < 64 := by omega
    obtain ⟨w1, w2, w3, w4, w5⟩ := hP.k
    have fin : ∀ v w : Int32, v = cI (cmP σ' k 6 ∧ fsS σ k) → am_G l 204 Q 0 0 7 [(2, aI (nI k + 1)), (3, aI (nI 6)), (1, aI (nI (chS σ))), (0, aR 12 0)] [] (u3 (u3 σ' 60 0 k w) 60 0 k v) τ (rX t) cX lX := by
      intro v w hv
      rw [u3_tw, show nI k + 1 = nI (k + 1) from nI_1 k]
      exact am_Gp [0, 2, 3] rfl (m_so_1 hD K d (k + 1) _ (by omega) (soP_s hk hP hv))
    have mid : ∀ w : Int32, w = cI (cmP σ' k 0) → am_G l 204 Q 0 0 30 [(3, aI (nI 0)), (2, aI (nI k)), (1, aI (nI (chS σ))), (0, aR 12 0)] [] (u3 σ' 60 0 k w) τ (rX t) cX lX := by
      intro w hw
      refine m_so_i hk (fun s hs => hP.2.1 s hs) ?_ 6 0 w (by omega) hw
      generalize hz : cI (cmP σ' k 6) = z
      have q1 : u3 σ' 60 0 k z 60 0 k = z := by simp [u3]
      refine am_vc_ok am_k204 [7] 100 ?_
      refine And.intro (vp_in_nI (N := 64) hk (by decide)) ?_
      rw [nI_clamp (n := k) (by omega), q1]
      refine And.intro (fun e => ?_) (fun e => ?_)
      · have e : z = 0 := e
        rw [← hz] at e
        have e := cI_0.mp e
        refine And.intro (⟨vp_in_nI (N := 64) hk (by decide), Or.inl rfl⟩) ?_
        rw [nI_clamp (n := k) (by omega)]
        exact fin 0 z (cI_f (fun y => e y.1)).symm
      · have e : ¬ z = 0 := e
        rw [← hz] at e
        have e := cI_n0.mp e
        have hs0 := sub_0 k hk (chS σ) chS_lt
        refine And.intro (fun g => ?_) (fun g => ?_)
        · have g := hs0.mp g
          have hDr : DrOK (u3 σ' 60 0 k z) := by
            unfold DrOK
            rw [u3_kk _ _ (show 59 ≠ 60 by decide), u3_kk _ _ (show 49 ≠ 60 by decide), w4, w5]
            exact hD
          have hF : fitS (u3 σ' 60 0 k z) k = fitS σ k := by
            unfold fitS
            rw [okW_k (σ := σ') (u3_kk _ _ (by decide)) (u3_kk _ _ (by decide)) (u3_kk _ _ (by decide)), u3_kk _ _ (show 57 ≠ 60 by decide), u3_kk _ _ (show 58 ≠ 60 by decide), w1, w2, w3]
          have hA := m_allFit (l := l) (τ := τ) (t := t) hk hDr
          rw [hF] at hA
          refine am_vO am_k204 am_h204 rfl rfl rfl rfl (hA) ?_
          refine am_vc_ok am_k204 [7] 100 ?_
          refine And.intro (fun y => ?_) (fun y => ?_)
          · have y := cI_0.mp y
            refine And.intro (⟨vp_in_nI (N := 64) hk (by decide), Or.inl rfl⟩) ?_
            rw [nI_clamp (n := k) (by omega)]
            exact fin 0 z (cI_f (fun x => y x.2.2)).symm
          · have y := cI_n0.mp y
            refine And.intro (⟨vp_in_nI (N := 64) hk (by decide), Or.inr rfl⟩) ?_
            rw [nI_clamp (n := k) (by omega)]
            exact fin 1 z (cI_t ⟨e, g, y⟩).symm
        · have g : ¬ _ := fun y => g (hs0.mpr y)
          refine And.intro (⟨vp_in_nI (N := 64) hk (by decide), Or.inl rfl⟩) ?_
          rw [nI_clamp (n := k) (by omega)]
          exact fin 0 z (cI_f (fun x => g x.2.1)).symm
    refine am_vc_ok am_k204 [7, 30, 127] 100 ?_
    refine And.intro (fun h1 => absurd h1 (nI_ge (b := 64) (by omega) (by decide))) (fun _ => ?_)
    refine And.intro (fun e => ?_) (fun e => ?_)
    · have e0 : k = 0 := nI_inj' (by omega) (by decide) (show nI k = nI 0 from e)
      refine And.intro (⟨vp_in_nI (N := 64) hk (by decide), Or.inr rfl⟩) ?_
      rw [nI_clamp (n := k) (by omega)]
      exact mid 1 (cI_t (Or.inl e0)).symm
    · have e0 : ¬ k = 0 := fun z => e (by rw [z]; rfl)
      refine And.intro (⟨vp_in_nI (N := 64) hk (by decide), Or.inl rfl⟩) ?_
      rw [nI_clamp (n := k) (by omega)]
      exact mid 0 (cI_f (fun z => z.elim e0 (fun ⟨x, hx, _⟩ => absurd hx (by omega)))).symm
end L39
