/-! CASES OF THE LAW: stream, frame, mark, queue, kept -/
section L4
variable {l : Launch} {σ σ2 : tI} {τ τ2 : tL} {t : Option (Nat × Nat)}
def sfJ (w : Nat) : Nat := 16 + w
def stK (w : Nat) : Nat := 81 + w
theorem x_streamFact {c w : Nat} (hw : w < 3) : am_D l 2 [aR 0 c, aI (nI w)] σ τ (rX t) cX lX (some (aI (σ 0 c (16 + w)))) σ τ (rX t) := by
  refine am_D_of am_o2 am_l2 rfl ?_
  refine am_vc_ok am_k2 [] 100 ?_
  match w, hw with
  | 0, _ =>
    refine am_sw 28 (by decide +kernel) ?_
    exact am_vI am_k2 am_r2 rfl ⟨rfl, rfl, rfl, rfl, rfl, rfl⟩
  | 1, _ =>
    refine am_sw 33 (by decide +kernel) ?_
    exact am_vI am_k2 am_r2 rfl ⟨rfl, rfl, rfl, rfl, rfl, rfl⟩
  | 2, _ =>
    refine am_sw 38 (by decide +kernel) ?_
    exact am_vI am_k2 am_r2 rfl ⟨rfl, rfl, rfl, rfl, rfl, rfl⟩
theorem m_streamTells {c w : Nat} (hc : c < 30) (hw : w < 3) : am_D l 244 [aR 12 0, aI (nI c), aI (nI w)] σ τ (rX t) cX lX (some (aI (σ (81 + w) 0 c))) σ τ (rX t) := by
  refine am_D_of am_o244 am_l244 rfl ?_
  refine am_vc_ok am_k244 [] 100 ?_
  match w, hw with
  | 0, _ =>
    refine And.intro (fun _ => ?_) (fun h => absurd rfl h)
    refine And.intro (vp_in_nI (N := 30) hc (by decide)) ?_
    rw [nI_clamp (by omega)]
    exact am_vI am_k244 am_r244 rfl ⟨rfl, rfl, rfl, rfl, rfl, rfl⟩
  | 1, _ =>
    refine And.intro (fun h => absurd h (by decide)) (fun _ => ?_)
    refine And.intro (fun _ => ?_) (fun h => absurd rfl h)
    refine And.intro (vp_in_nI (N := 30) hc (by decide)) ?_
    rw [nI_clamp (by omega)]
    exact am_vI am_k244 am_r244 rfl ⟨rfl, rfl, rfl, rfl, rfl, rfl⟩
  | 2, _ =>
    refine And.intro (fun h => absurd h (by decide)) (fun _ => ?_)
    refine And.intro (fun h => absurd h (by decide)) (fun _ => ?_)
    refine And.intro (vp_in_nI (N := 30) hc (by decide)) ?_
    rw [nI_clamp (by omega)]
    exact am_vI am_k244 am_r244 rfl ⟨rfl, rfl, rfl, rfl, rfl, rfl⟩
theorem x_stream_bad {c w : Int32} (h : ¬ (0 ≤ c ∧ c < σ 3 0 5) ∨ ¬ (0 ≤ w ∧ w < 3)) : am_D l 132 [aR 11 0, aI c, aI w] σ τ (rX t) cX lX (some (aI (-1))) σ τ (rX t) := by
  refine am_D_of am_o132 am_l132 rfl ?_
  refine am_vc_ok am_k132 [] 100 ?_
  refine am_vS am_k132 am_h132 rfl rfl rfl rfl (x_within) ?_
  refine am_vc_ok am_k132 [] 100 ?_
  refine And.intro (fun h1 => ?_) (fun h1 => ?_)
  · exact am_vI am_k132 am_r132 rfl ⟨rfl, rfl, rfl, rfl, rfl, rfl⟩
  refine am_vS am_k132 am_h132 rfl rfl rfl rfl (x_within) ?_
  refine am_vc_ok am_k132 [] 100 ?_
  refine And.intro (fun h2 => ?_) (fun h2 => ?_)
  · exact am_vI am_k132 am_r132 rfl ⟨rfl, rfl, rfl, rfl, rfl, rfl⟩
  · rcases h with h | h
    · exact absurd (bI_1.mp h1) h
    · exact absurd (bI_1.mp h2) h
theorem x_stream {c w n : Nat} (hn : σ 3 0 5 = nI n) (hn2 : n ≤ 30) (hc : c < n) (hw : w < 3) : am_D l 132 [aR 11 0, aI (nI c), aI (nI w)] σ τ (rX t) cX lX (some (aI (σ 0 c (16 + w)))) σ τ (rX t) := by
  refine am_D_of am_o132 am_l132 rfl ?_
  refine am_vc_ok am_k132 [] 100 ?_
  refine am_vS am_k132 am_h132 rfl rfl rfl rfl (x_within) ?_
  refine am_vc_ok am_k132 [] 100 ?_
  refine And.intro (fun h1 => ?_) (fun h1 => ?_)
  · exact absurd (by rw [hn]; exact inN hc (by omega)) (bI_0.mp h1)
  refine am_vS am_k132 am_h132 rfl rfl rfl rfl (x_within) ?_
  refine am_vc_ok am_k132 [] 100 ?_
  refine And.intro (fun h2 => ?_) (fun h2 => ?_)
  · exact absurd (inN (n := 3) hw (by omega)) (bI_0.mp h2)
  refine And.intro (vp_in_nI (N := 30) (by omega) (by decide)) ?_
  rw [nI_clamp (n := c) (by omega)]
  refine am_vO am_k132 am_h132 rfl rfl rfl rfl (x_streamFact hw) ?_
  refine am_vc_ok am_k132 [] 100 ?_
  exact am_vI am_k132 am_r132 rfl ⟨rfl, rfl, rfl, rfl, rfl, rfl⟩
theorem m_stream_bad {c w : Int32} (h : ¬ (0 ≤ c ∧ c ≤ σ 12 0 34 - 1) ∨ ¬ (0 ≤ w ∧ w ≤ 2)) : am_D l 245 [aR 12 0, aI c, aI w] σ τ (rX t) cX lX (some (aI (-1))) σ τ (rX t) := by
  refine am_D_of am_o245 am_l245 rfl ?_
  refine am_vc_ok am_k245 [] 100 ?_
  refine am_vO am_k245 am_h245 rfl rfl rfl rfl (m_isCall) ?_
  refine am_vc_ok am_k245 [] 100 ?_
  refine And.intro (fun h1 => ?_) (fun h1 => ?_)
  · exact am_vI am_k245 am_r245 rfl ⟨rfl, rfl, rfl, rfl, rfl, rfl⟩
  refine am_vS am_k245 am_h245 rfl rfl rfl rfl (m_in) ?_
  refine am_vc_ok am_k245 [] 100 ?_
  refine And.intro (fun h2 => ?_) (fun h2 => ?_)
  · exact am_vI am_k245 am_r245 rfl ⟨rfl, rfl, rfl, rfl, rfl, rfl⟩
  · rcases h with h | h
    · exact absurd (bI_1.mp h1) h
    · exact absurd (bI_1.mp h2) h
theorem m_stream {c w n : Nat} (hn : σ 12 0 34 = nI n) (hn2 : n ≤ 30) (hc : c < n) (hw : w < 3) : am_D l 245 [aR 12 0, aI (nI c), aI (nI w)] σ τ (rX t) cX lX (some (aI (σ (81 + w) 0 c))) σ τ (rX t) := by
  refine am_D_of am_o245 am_l245 rfl ?_
  refine am_vc_ok am_k245 [] 100 ?_
  refine am_vO am_k245 am_h245 rfl rfl rfl rfl (m_isCall) ?_
  refine am_vc_ok am_k245 [] 100 ?_
  refine And.intro (fun h1 => ?_) (fun h1 => ?_)
  · exact absurd (by rw [hn]; exact (le_pred2 (by omega)).mpr (inN hc (by omega))) (bI_0.mp h1)
  refine am_vS am_k245 am_h245 rfl rfl rfl rfl (m_in) ?_
  refine am_vc_ok am_k245 [] 100 ?_
  refine And.intro (fun h2 => ?_) (fun h2 => ?_)
  · exact absurd ((leN (n := 3) (N := 3) (by decide) (by decide)).mpr (inN (n := 3) hw (by omega))) (bI_0.mp h2)
  refine am_vO am_k245 am_h245 rfl rfl rfl rfl (m_streamTells (by omega) hw) ?_
  refine am_vc_ok am_k245 [] 100 ?_
  exact am_vI am_k245 am_r245 rfl ⟨rfl, rfl, rfl, rfl, rfl, rfl⟩
theorem Rcall.st {c w : Nat} (h : Rcall σ c) (hw : w < 3) : σ 0 c (16 + w) = σ (81 + w) 0 c := by
  obtain ⟨-, -, -, -, -, -, -, -, -, -, -, -, -, -, h16, h17, h18, -⟩ := h
  rcases (show w = 0 ∨ w = 1 ∨ w = 2 by omega) with rfl | rfl | rfl
  · exact h16
  · exact h17
  · exact h18
theorem LC_stream (h : Rall σ τ) (c w : Int32) : LC l 132 245 [aI c, aI w] σ τ t := by
  have hR := h
  obtain ⟨-, -, -, -, -, -, T, n, m, lo, k, hN⟩ := h
  have hn := hN.2.1
  by_cases hc : 0 ≤ c ∧ c < nI n
  · by_cases hw : 0 ≤ w ∧ w < 3
    · obtain ⟨c, hc1, rfl⟩ := ix_lt (nI_toInt (by omega)) hc
      obtain ⟨w, hw1, rfl⟩ := ix_lt (n := 3) (by decide) hw
      have hm := m_stream (l := l) (τ := τ) (t := t) hn.2.1 hn.2.2 hc1 hw1
      rw [← (hN.2.2.1 c hc1).1.st hw1] at hm
      exact LC.of (x_stream hn.1 hn.2.2 hc1 hw1) hm hR
    · exact LC.of (x_stream_bad (Or.inr hw)) (m_stream_bad (Or.inr (fun z => hw ((leN (n := 3) (N := 3) (by decide) (by decide)).mp z)))) hR
  · exact LC.of (x_stream_bad (Or.inl (by rw [hn.1]; exact hc))) (m_stream_bad (Or.inl (by rw [hn.2.1]; exact fun z => hc ((le_pred2 (by omega)).mp z)))) hR
-- frames
theorem x_ffact {f w : Nat} (hf : f < 690) (hw : w < 5) : am_D l 6 [aR 1 0, aI (nI f), aI (nI w)] σ τ (rX t) cX lX (some (aI (σ (14 + w) 0 f))) σ τ (rX t) := by
  refine am_D_of am_o6 am_l6 rfl ?_
  refine am_vc_ok am_k6 [] 100 ?_
  match w, hw with
  | 0, _ =>
    refine am_sw 32 (by decide +kernel) ?_
    refine And.intro (vp_in_nI (N := 690) hf (by decide)) ?_
    rw [nI_clamp (by omega)]
    exact am_vI am_k6 am_r6 rfl ⟨rfl, rfl, rfl, rfl, rfl, rfl⟩
  | 1, _ =>
    refine am_sw 39 (by decide +kernel) ?_
    refine And.intro (vp_in_nI (N := 690) hf (by decide)) ?_
    rw [nI_clamp (by omega)]
    exact am_vI am_k6 am_r6 rfl ⟨rfl, rfl, rfl, rfl, rfl, rfl⟩
  | 2, _ =>
    refine am_sw 46 (by decide +kernel) ?_
    refine And.intro (vp_in_nI (N := 690) hf (by decide)) ?_
    rw [nI_clamp (by omega)]
    exact am_vI am_k6 am_r6 rfl ⟨rfl, rfl, rfl, rfl, rfl, rfl⟩
  | 3, _ =>
    refine am_sw 53 (by decide +kernel) ?_
    refine And.intro (vp_in_nI (N := 690) hf (by decide)) ?_
    rw [nI_clamp (by omega)]
    exact am_vI am_k6 am_r6 rfl ⟨rfl, rfl, rfl, rfl, rfl, rfl⟩
  | 4, _ =>
    refine am_sw 60 (by decide +kernel) ?_
    refine And.intro (vp_in_nI (N := 690) hf (by decide)) ?_
    rw [nI_clamp (by omega)]
    exact am_vI am_k6 am_r6 rfl ⟨rfl, rfl, rfl, rfl, rfl, rfl⟩
theorem m_frameTells {f w : Nat} (hf : f < 1200) (hw : w < 5) : am_D l 239 [aR 12 0, aI (nI f), aI (nI w)] σ τ (rX t) cX lX (some (aI (σ (84 + w) 0 f))) σ τ (rX t) := by
  refine am_D_of am_o239 am_l239 rfl ?_
  refine am_vc_ok am_k239 [] 100 ?_
  match w, hw with
  | 0, _ =>
    refine And.intro (fun _ => ?_) (fun h => absurd rfl h)
    refine And.intro (vp_in_nI (N := 1200) hf (by decide)) ?_
    rw [nI_clamp (by omega)]
    exact am_vI am_k239 am_r239 rfl ⟨rfl, rfl, rfl, rfl, rfl, rfl⟩
  | 1, _ =>
    refine And.intro (fun h => absurd h (by decide)) (fun _ => ?_)
    refine And.intro (fun _ => ?_) (fun h => absurd rfl h)
    refine And.intro (vp_in_nI (N := 1200) hf (by decide)) ?_
    rw [nI_clamp (by omega)]
    exact am_vI am_k239 am_r239 rfl ⟨rfl, rfl, rfl, rfl, rfl, rfl⟩
  | 2, _ =>
    refine And.intro (fun h => absurd h (by decide)) (fun _ => ?_)
    refine And.intro (fun h => absurd h (by decide)) (fun _ => ?_)
    refine And.intro (fun _ => ?_) (fun h => absurd rfl h)
    refine And.intro (vp_in_nI (N := 1200) hf (by decide)) ?_
    rw [nI_clamp (by omega)]
    exact am_vI am_k239 am_r239 rfl ⟨rfl, rfl, rfl, rfl, rfl, rfl⟩
  | 3, _ =>
    refine And.intro (fun h => absurd h (by decide)) (fun _ => ?_)
    refine And.intro (fun h => absurd h (by decide)) (fun _ => ?_)
    refine And.intro (fun h => absurd h (by decide)) (fun _ => ?_)
    refine And.intro (fun _ => ?_) (fun h => absurd rfl h)
    refine And.intro (vp_in_nI (N := 1200) hf (by decide)) ?_
    rw [nI_clamp (by omega)]
    exact am_vI am_k239 am_r239 rfl ⟨rfl, rfl, rfl, rfl, rfl, rfl⟩
  | 4, _ =>
    refine And.intro (fun h => absurd h (by decide)) (fun _ => ?_)
    refine And.intro (fun h => absurd h (by decide)) (fun _ => ?_)
    refine And.intro (fun h => absurd h (by decide)) (fun _ => ?_)
    refine And.intro (fun h => absurd h (by decide)) (fun _ => ?_)
    refine And.intro (vp_in_nI (N := 1200) hf (by decide)) ?_
    rw [nI_clamp (by omega)]
    exact am_vI am_k239 am_r239 rfl ⟨rfl, rfl, rfl, rfl, rfl, rfl⟩
theorem x_frame_bad {c w : Int32} (h : ¬ (0 ≤ c ∧ c < σ 1 0 0) ∨ ¬ (0 ≤ w ∧ w < 5)) : am_D l 128 [aR 11 0, aI c, aI w] σ τ (rX t) cX lX (some (aI (-1))) σ τ (rX t) := by
  refine am_D_of am_o128 am_l128 rfl ?_
  refine am_vc_ok am_k128 [] 100 ?_
  refine am_vS am_k128 am_h128 rfl rfl rfl rfl (x_within) ?_
  refine am_vc_ok am_k128 [] 100 ?_
  refine And.intro (fun h1 => ?_) (fun h1 => ?_)
  · exact am_vI am_k128 am_r128 rfl ⟨rfl, rfl, rfl, rfl, rfl, rfl⟩
  refine am_vS am_k128 am_h128 rfl rfl rfl rfl (x_within) ?_
  refine am_vc_ok am_k128 [] 100 ?_
  refine And.intro (fun h2 => ?_) (fun h2 => ?_)
  · exact am_vI am_k128 am_r128 rfl ⟨rfl, rfl, rfl, rfl, rfl, rfl⟩
  · rcases h with h | h
    · exact absurd (bI_1.mp h1) h
    · exact absurd (bI_1.mp h2) h
theorem x_frame {f w m : Nat} (hn : σ 1 0 0 = nI m) (hn2 : m ≤ 690) (hf : f < m) (hw : w < 5) : am_D l 128 [aR 11 0, aI (nI f), aI (nI w)] σ τ (rX t) cX lX (some (aI 1)) (u3 σ 11 0 11 (σ (14 + w) 0 f)) τ (rX t) := by
  refine am_D_of am_o128 am_l128 rfl ?_
  refine am_vc_ok am_k128 [] 100 ?_
  refine am_vS am_k128 am_h128 rfl rfl rfl rfl (x_within) ?_
  refine am_vc_ok am_k128 [] 100 ?_
  refine And.intro (fun h1 => ?_) (fun h1 => ?_)
  · exact absurd (by rw [hn]; exact inN hf (by omega)) (bI_0.mp h1)
  refine am_vS am_k128 am_h128 rfl rfl rfl rfl (x_within) ?_
  refine am_vc_ok am_k128 [] 100 ?_
  refine And.intro (fun h2 => ?_) (fun h2 => ?_)
  · exact absurd (inN (n := 5) hw (by omega)) (bI_0.mp h2)
  refine am_vO am_k128 am_h128 rfl rfl rfl rfl (x_ffact (by omega) hw) ?_
  refine am_vc_ok am_k128 [] 100 ?_
  exact am_vI am_k128 am_r128 rfl ⟨rfl, rfl, rfl, rfl, rfl, rfl⟩
theorem m_frame_bad {c w : Int32} (h : ¬ (0 ≤ c ∧ c ≤ σ 12 0 54 - 1) ∨ ¬ (0 ≤ w ∧ w ≤ 4)) : am_D l 240 [aR 12 0, aI c, aI w] σ τ (rX t) cX lX (some (aI (-1))) σ τ (rX t) := by
  refine am_D_of am_o240 am_l240 rfl ?_
  refine am_vc_ok am_k240 [] 100 ?_
  refine am_vS am_k240 am_h240 rfl rfl rfl rfl (m_in) ?_
  refine am_vc_ok am_k240 [] 100 ?_
  refine And.intro (fun h1 => ?_) (fun h1 => ?_)
  · exact am_vI am_k240 am_r240 rfl ⟨rfl, rfl, rfl, rfl, rfl, rfl⟩
  refine am_vS am_k240 am_h240 rfl rfl rfl rfl (m_in) ?_
  refine am_vc_ok am_k240 [] 100 ?_
  refine And.intro (fun h2 => ?_) (fun h2 => ?_)
  · exact am_vI am_k240 am_r240 rfl ⟨rfl, rfl, rfl, rfl, rfl, rfl⟩
  · rcases h with h | h
    · exact absurd (bI_1.mp h1) h
    · exact absurd (bI_1.mp h2) h
theorem m_frame {f w m : Nat} (hn : σ 12 0 54 = nI m) (hn2 : m ≤ 690) (hf : f < m) (hw : w < 5) : am_D l 240 [aR 12 0, aI (nI f), aI (nI w)] σ τ (rX t) cX lX (some (aI 1)) (u3 σ 12 0 2 (σ (84 + w) 0 f)) τ (rX t) := by
  refine am_D_of am_o240 am_l240 rfl ?_
  refine am_vc_ok am_k240 [] 100 ?_
  refine am_vS am_k240 am_h240 rfl rfl rfl rfl (m_in) ?_
  refine am_vc_ok am_k240 [] 100 ?_
  refine And.intro (fun h1 => ?_) (fun h1 => ?_)
  · exact absurd (by rw [hn]; exact (le_pred2 (by omega)).mpr (inN hf (by omega))) (bI_0.mp h1)
  refine am_vS am_k240 am_h240 rfl rfl rfl rfl (m_in) ?_
  refine am_vc_ok am_k240 [] 100 ?_
  refine And.intro (fun h2 => ?_) (fun h2 => ?_)
  · exact absurd ((leN (n := 5) (N := 5) (by decide) (by decide)).mpr (inN (n := 5) hw (by omega))) (bI_0.mp h2)
  refine am_vO am_k240 am_h240 rfl rfl rfl rfl (m_frameTells (by omega) hw) ?_
  refine am_vc_ok am_k240 [] 100 ?_
  refine am_vO am_k240 am_h240 rfl rfl rfl rfl (m_ask) ?_
  refine am_vc_ok am_k240 [] 100 ?_
  exact am_vI am_k240 am_r240 rfl ⟨rfl, rfl, rfl, rfl, rfl, rfl⟩
theorem Rframe.tells {f w : Nat} (h : Rframe σ f) (hw : w < 5) : σ (14 + w) 0 f = σ (84 + w) 0 f := by
  obtain ⟨h0, h1, h2, h3, h4, -⟩ := h
  rcases (show w = 0 ∨ w = 1 ∨ w = 2 ∨ w = 3 ∨ w = 4 by omega) with rfl | rfl | rfl | rfl | rfl
  · exact h0
  · exact h1
  · exact h2
  · exact h3
  · exact h4
theorem LC_frame (h : Rall σ τ) (c w : Int32) : LC l 128 240 [aI c, aI w] σ τ t := by
  have hR := h
  obtain ⟨-, -, -, -, -, -, T, n, m, lo, k, hN⟩ := h
  have hm6 := hN.m_le
  have hf := hN.2.2.2.2.2.2.2.1
  have hm := hN.2.2.2.2.2.2.1
  by_cases hc : 0 ≤ c ∧ c < nI m
  · by_cases hw : 0 ≤ w ∧ w < 5
    · obtain ⟨c, hc1, rfl⟩ := ix_lt (nI_toInt (by omega)) hc
      obtain ⟨w, hw1, rfl⟩ := ix_lt (n := 5) (by decide) hw
      have hx := x_frame (l := l) (τ := τ) (t := t) hm.1 hm6 hc1 hw1
      have hmm := m_frame (l := l) (σ := u3 σ 11 0 11 (σ (14 + w) 0 c)) (τ := τ) (t := t) (by simp [u3, hm.2]) hm6 hc1 hw1
      rw [u3_k _ _ (show 84 + w ≠ 11 by omega), ← (hf c hc1).1.tells hw1] at hmm
      exact LC.of hx hmm hR.ask
    · exact LC.of (x_frame_bad (Or.inr hw)) (m_frame_bad (Or.inr (fun z => hw ((leN (n := 5) (N := 5) (by decide) (by decide)).mp z)))) hR
  · exact LC.of (x_frame_bad (Or.inl (by rw [hm.1]; exact hc))) (m_frame_bad (Or.inl (by rw [hm.2]; exact fun z => hc ((le_pred2 (by omega)).mp z)))) hR
-- counting calls
theorem cntN_le {p : Nat → Bool} : ∀ {n : Nat}, cntN p n ≤ n
  | 0 => Nat.le_refl _
  | n + 1 => by
    have h := cntN_le (p := p) (n := n)
    show cntN p n + _ ≤ n + 1
    split <;> omega
theorem cntN_cg {p q : Nat → Bool} : ∀ {n : Nat}, (∀ c, c < n → p c = q c) → cntN p n = cntN q n
  | 0, _ => rfl
  | n + 1, h => by
    show cntN p n + _ = cntN q n + _
    rw [cntN_cg (n := n) (fun c hc => h c (by omega)), h n (by omega)]
theorem m_placedAt_loop {Q : tQ} {n : Nat} {a b : Int32} (hn : σ 12 0 34 = nI n) (hn2 : n ≤ 30) (K : am_G l 218 Q 0 0 50 [(4, aI (nI n)), (3, aI (nI (cntN (fun c => decide (σ 66 0 c = a ∧ σ 77 0 c = b)) n))), (0, aR 12 0), (1, aI a), (2, aI b)] [] σ τ (rX t) cX lX) : ∀ (d c : Nat), c + d = n → am_G l 218 Q 0 0 5 [(4, aI (nI c)), (3, aI (nI (cntN (fun c => decide (σ 66 0 c = a ∧ σ 77 0 c = b)) c))), (0, aR 12 0), (1, aI a), (2, aI b)] [] σ τ (rX t) cX lX
  | 0, c, h => by
    obtain rfl : c = n := by omega
    refine am_vc_ok am_k218 [5, 50] 100 ?_
    refine And.intro (fun _ => K) (fun h1 => absurd (by rw [hn]; exact Int32.le_refl _) h1)
  | d + 1, c, h => by
    have K2 := m_placedAt_loop hn hn2 K d (c + 1) (by omega)
    rw [← nI_1] at K2
    have hc : c < 30 := by omega
    refine am_vc_ok am_k218 [5, 50] 100 ?_
    refine And.intro (fun h1 => absurd h1 (by rw [hn]; exact nI_ge (by omega) (by omega))) (fun h1 => ?_)
    refine And.intro (vp_in_nI (N := 30) hc (by decide)) ?_
    rw [nI_clamp (by omega)]
    refine And.intro (fun h2 => ?_) (fun h2 => ?_)
    · have h2 : σ 66 0 c = a := h2
      refine And.intro (vp_in_nI (N := 30) hc (by decide)) ?_
      rw [nI_clamp (by omega)]
      refine And.intro (fun h3 => ?_) (fun h3 => ?_)
      · have h3 : σ 77 0 c = b := h3
        have e : nI (cntN (fun c => decide (σ 66 0 c = a ∧ σ 77 0 c = b)) c) + 1 = nI (cntN (fun c => decide (σ 66 0 c = a ∧ σ 77 0 c = b)) (c + 1)) := by
          rw [nI_1]; simp [cntN, h2, h3]
        rw [← e] at K2
        exact K2
      · have h3 : ¬ σ 77 0 c = b := h3
        have e : nI (cntN (fun c => decide (σ 66 0 c = a ∧ σ 77 0 c = b)) c) + 0 = nI (cntN (fun c => decide (σ 66 0 c = a ∧ σ 77 0 c = b)) (c + 1)) := by
          rw [Int32.add_zero]; simp [cntN, h3]
        rw [← e] at K2
        exact K2
    · have h2 : ¬ σ 66 0 c = a := h2
      have e : nI (cntN (fun c => decide (σ 66 0 c = a ∧ σ 77 0 c = b)) c) + 0 = nI (cntN (fun c => decide (σ 66 0 c = a ∧ σ 77 0 c = b)) (c + 1)) := by
        rw [Int32.add_zero]; simp [cntN, h2]
      rw [← e] at K2
      exact K2
theorem m_placedAt {n : Nat} {a b : Int32} (hn : σ 12 0 34 = nI n) (hn2 : n ≤ 30) : am_D l 218 [aR 12 0, aI a, aI b] σ τ (rX t) cX lX (some (aI (nI (cntN (fun c => decide (σ 66 0 c = a ∧ σ 77 0 c = b)) n)))) σ τ (rX t) := by
  refine am_D_of am_o218 am_l218 rfl ?_
  refine am_vc_ok am_k218 [5] 100 ?_
  refine m_placedAt_loop hn hn2 ?_ n 0 (by omega)
  refine am_vc_ok am_k218 [5] 100 ?_
  exact am_vI am_k218 am_r218 rfl ⟨rfl, rfl, rfl, rfl, rfl, rfl⟩
theorem x_queue_bad {a : Int32} (ha : ¬ (0 ≤ a ∧ a < 6)) : am_D l 126 [aR 11 0, aI a] σ τ (rX t) cX lX (some (aI (-1))) σ τ (rX t) := by
  refine am_D_of am_o126 am_l126 rfl ?_
  refine am_vc_ok am_k126 [] 100 ?_
  refine am_vS am_k126 am_h126 rfl rfl rfl rfl (x_within) ?_
  refine am_vc_ok am_k126 [] 100 ?_
  refine And.intro (fun h => ?_) (fun h => ?_)
  · exact am_vI am_k126 am_r126 rfl ⟨rfl, rfl, rfl, rfl, rfl, rfl⟩
  · exact absurd (bI_1.mp h) ha
theorem x_queue {a : Nat} (ha : a < 6) : am_D l 126 [aR 11 0, aI (nI a)] σ τ (rX t) cX lX (some (aI (σ 8 a 5))) (u3 σ 11 0 11 (σ 8 a 6)) τ (rX t) := by
  refine am_D_of am_o126 am_l126 rfl ?_
  refine am_vc_ok am_k126 [] 100 ?_
  refine am_vS am_k126 am_h126 rfl rfl rfl rfl (x_within) ?_
  refine am_vc_ok am_k126 [] 100 ?_
  refine And.intro (fun h => ?_) (fun h => ?_)
  · exact absurd (in6 ha) (bI_0.mp h)
  refine And.intro (vp_in_nI (N := 6) ha (by decide)) ?_
  rw [nI_clamp (by omega)]
  refine And.intro (vp_in_nI (N := 6) ha (by decide)) ?_
  rw [nI_clamp (by omega)]
  refine am_vI am_k126 am_r126 rfl ⟨?_, rfl, rfl, rfl, rfl, rfl⟩
  rw [u3_k _ _ (show 8 ≠ 11 by decide)]
theorem m_queue_bad {a : Int32} (ha : ¬ (0 ≤ a ∧ a ≤ 5)) : am_D l 236 [aR 12 0, aI a] σ τ (rX t) cX lX (some (aI (-1))) σ τ (rX t) := by
  refine am_D_of am_o236 am_l236 rfl ?_
  refine am_vc_ok am_k236 [] 100 ?_
  refine am_vS am_k236 am_h236 rfl rfl rfl rfl (m_isSix) ?_
  refine am_vc_ok am_k236 [] 100 ?_
  refine And.intro (fun h => ?_) (fun h => ?_)
  · exact am_vI am_k236 am_r236 rfl ⟨rfl, rfl, rfl, rfl, rfl, rfl⟩
  · exact absurd (bI_1.mp h) ha
theorem m_queue {a n : Nat} (hn : σ 12 0 34 = nI n) (hn2 : n ≤ 30) (ha : a < 6) : am_D l 236 [aR 12 0, aI (nI a)] σ τ (rX t) cX lX (some (aI (nI (cntN (fun c => decide (σ 66 0 c = nI a ∧ σ 77 0 c = 1)) n)))) (u3 σ 12 0 2 (nI (cntN (fun c => decide (σ 66 0 c = nI a ∧ σ 77 0 c = 2)) n))) τ (rX t) := by
  refine am_D_of am_o236 am_l236 rfl ?_
  refine am_vc_ok am_k236 [] 100 ?_
  refine am_vS am_k236 am_h236 rfl rfl rfl rfl (m_isSix) ?_
  refine am_vc_ok am_k236 [] 100 ?_
  refine And.intro (fun h => ?_) (fun h => ?_)
  · exact absurd (in5 ha) (bI_0.mp h)
  refine am_vO am_k236 am_h236 rfl rfl rfl rfl (m_placedAt hn hn2) ?_
  refine am_vc_ok am_k236 [] 100 ?_
  refine am_vO am_k236 am_h236 rfl rfl rfl rfl (m_placedAt hn hn2) ?_
  refine am_vc_ok am_k236 [] 100 ?_
  refine am_vO am_k236 am_h236 rfl rfl rfl rfl (m_ask) ?_
  refine am_vc_ok am_k236 [] 100 ?_
  exact am_vI am_k236 am_r236 rfl ⟨rfl, rfl, rfl, rfl, rfl, rfl⟩
theorem LC_queue (h : Rall σ τ) (a : Int32) : LC l 126 236 [aI a] σ τ t := by
  have hR := h
  obtain ⟨-, -, -, -, -, -, T, n, m, lo, k, hN⟩ := h
  have hn := hN.2.1
  by_cases ha : 0 ≤ a ∧ a < 6
  · obtain ⟨a, ha1, rfl⟩ := ix_lt (n := 6) (by decide) ha
    obtain ⟨-, -, -, -, -, -, e1, e2⟩ := hN.2.2.2.2.2.1 a ha1
    have hx := x_queue (l := l) (σ := σ) (τ := τ) (t := t) ha1
    have hm := m_queue (l := l) (σ := u3 σ 11 0 11 (σ 8 a 6)) (τ := τ) (t := t) (by simp [u3, hn.2.1]) hn.2.2 ha1
    simp only [u3_k _ _ (show 66 ≠ 11 by decide), u3_k _ _ (show 77 ≠ 11 by decide)] at hm
    rw [← e1, ← e2] at hm
    exact LC.of hx hm hR.ask
  · exact LC.of (x_queue_bad ha) (m_queue_bad (not6 ha)) hR
end L4
