/-! CASES OF THE LAW: the sending of a frame; ping -/
section L9
variable {l : Launch} {σ σ2 s : tI} {τ τ2 : tL} {t : Option (Nat × Nat)}
abbrev xadd (σ : tI) (m : Nat) (kd a b at' c d : Int32) : tI := u3 (u3 (u3 (u3 (u3 (u3 (u3 (u3 σ 14 0 m kd) 15 0 m a) 16 0 m b) 17 0 m at') 18 0 m 0) 19 0 m c) 20 0 m d) 1 0 0 (nI (m + 1))
abbrev msend (σ : tI) (m : Nat) (kd a b c d : Int32) : tI := u3 (u3 (u3 (u3 (u3 (u3 (u3 (u3 σ 84 0 m kd) 85 0 m a) 86 0 m b) 87 0 m (σ 12 0 5)) 88 0 m 0) 89 0 m c) 90 0 m d) 12 0 54 (nI (m + 1))
theorem x_addF {m : Nat} {kd a b at' c d : Int32} (hm : σ 1 0 0 = nI m) (hm2 : m < 690) : am_D l 5 [aR 1 0, aI kd, aI a, aI b, aI at', aI c, aI d] σ τ (rX t) cX lX (some (aI (nI m))) (xadd σ m kd a b at' c d) τ (rX t) := by
  refine am_D_of am_o5 am_l5 rfl ?_
  refine am_vc_ok am_k5 [] 100 ?_
  refine And.intro (fun _ => ?_) (fun h => absurd (by rw [hm]; exact nI_lt (b := 690) hm2 (by decide)) h)
  refine And.intro (by rw [hm]; exact vp_in_nI (N := 690) hm2 (by decide)) ?_
  rw [hm, nI_clamp (by omega)]
  refine And.intro (vp_in_nI (N := 690) hm2 (by decide)) ?_
  rw [nI_clamp (by omega)]
  refine And.intro (vp_in_nI (N := 690) hm2 (by decide)) ?_
  rw [nI_clamp (by omega)]
  refine And.intro (vp_in_nI (N := 690) hm2 (by decide)) ?_
  rw [nI_clamp (by omega)]
  refine And.intro (vp_in_nI (N := 690) hm2 (by decide)) ?_
  rw [nI_clamp (by omega)]
  refine And.intro (vp_in_nI (N := 690) hm2 (by decide)) ?_
  rw [nI_clamp (by omega)]
  refine And.intro (vp_in_nI (N := 690) hm2 (by decide)) ?_
  rw [nI_clamp (by omega)]
  refine am_vI am_k5 am_r5 rfl ⟨rfl, ?_, rfl, rfl, rfl, rfl⟩
  simp only [xadd]
  rw [u3_k _ _ (show 1 ≠ 20 by decide), u3_k _ _ (show 1 ≠ 19 by decide), u3_k _ _ (show 1 ≠ 18 by decide), u3_k _ _ (show 1 ≠ 17 by decide), u3_k _ _ (show 1 ≠ 16 by decide), u3_k _ _ (show 1 ≠ 15 by decide), u3_k _ _ (show 1 ≠ 14 by decide), hm, show nI m + 1 = nI (m + 1) from nI_1 m]
theorem m_send {m : Nat} {kd a b c d : Int32} (hm : σ 12 0 54 = nI m) (hm2 : m < 690) : am_D l 209 [aR 12 0, aI kd, aI a, aI b, aI c, aI d] σ τ (rX t) cX lX (some (aI (nI m))) (msend σ m kd a b c d) τ (rX t) := by
  refine am_D_of am_o209 am_l209 rfl ?_
  refine am_vc_ok am_k209 [] 100 ?_
  refine And.intro (by rw [hm]; exact vp_in_nI (N := 1200) (by omega) (by decide)) ?_
  rw [hm, nI_clamp (by omega)]
  refine And.intro (by rw [u3_k _ _ (show 12 ≠ 84 by decide), hm]; exact vp_in_nI (N := 1200) (by omega) (by decide)) ?_
  simp only [u3_k _ _ (show 12 ≠ 84 by decide), hm]
  rw [nI_clamp (by omega)]
  refine And.intro (by rw [u3_k _ _ (show 12 ≠ 85 by decide), u3_k _ _ (show 12 ≠ 84 by decide), hm]; exact vp_in_nI (N := 1200) (by omega) (by decide)) ?_
  simp only [u3_k _ _ (show 12 ≠ 85 by decide), u3_k _ _ (show 12 ≠ 84 by decide), hm]
  rw [nI_clamp (by omega)]
  refine And.intro (by rw [u3_k _ _ (show 12 ≠ 86 by decide), u3_k _ _ (show 12 ≠ 85 by decide), u3_k _ _ (show 12 ≠ 84 by decide), hm]; exact vp_in_nI (N := 1200) (by omega) (by decide)) ?_
  simp only [u3_k _ _ (show 12 ≠ 86 by decide), u3_k _ _ (show 12 ≠ 85 by decide), u3_k _ _ (show 12 ≠ 84 by decide), hm]
  rw [nI_clamp (by omega)]
  refine And.intro (by rw [u3_k _ _ (show 12 ≠ 87 by decide), u3_k _ _ (show 12 ≠ 86 by decide), u3_k _ _ (show 12 ≠ 85 by decide), u3_k _ _ (show 12 ≠ 84 by decide), hm]; exact vp_in_nI (N := 1200) (by omega) (by decide)) ?_
  simp only [u3_k _ _ (show 12 ≠ 87 by decide), u3_k _ _ (show 12 ≠ 86 by decide), u3_k _ _ (show 12 ≠ 85 by decide), u3_k _ _ (show 12 ≠ 84 by decide), hm]
  rw [nI_clamp (by omega)]
  refine And.intro (by rw [u3_k _ _ (show 12 ≠ 88 by decide), u3_k _ _ (show 12 ≠ 87 by decide), u3_k _ _ (show 12 ≠ 86 by decide), u3_k _ _ (show 12 ≠ 85 by decide), u3_k _ _ (show 12 ≠ 84 by decide), hm]; exact vp_in_nI (N := 1200) (by omega) (by decide)) ?_
  simp only [u3_k _ _ (show 12 ≠ 88 by decide), u3_k _ _ (show 12 ≠ 87 by decide), u3_k _ _ (show 12 ≠ 86 by decide), u3_k _ _ (show 12 ≠ 85 by decide), u3_k _ _ (show 12 ≠ 84 by decide), hm]
  rw [nI_clamp (by omega)]
  refine And.intro (by rw [u3_k _ _ (show 12 ≠ 89 by decide), u3_k _ _ (show 12 ≠ 88 by decide), u3_k _ _ (show 12 ≠ 87 by decide), u3_k _ _ (show 12 ≠ 86 by decide), u3_k _ _ (show 12 ≠ 85 by decide), u3_k _ _ (show 12 ≠ 84 by decide), hm]; exact vp_in_nI (N := 1200) (by omega) (by decide)) ?_
  simp only [u3_k _ _ (show 12 ≠ 89 by decide), u3_k _ _ (show 12 ≠ 88 by decide), u3_k _ _ (show 12 ≠ 87 by decide), u3_k _ _ (show 12 ≠ 86 by decide), u3_k _ _ (show 12 ≠ 85 by decide), u3_k _ _ (show 12 ≠ 84 by decide), hm]
  rw [nI_clamp (by omega)]
  refine am_vI am_k209 am_r209 rfl ⟨?_, ?_, rfl, rfl, rfl, rfl⟩
  · simp [u3, hm]
  · simp only [msend]
    rw [u3_k _ _ (show 12 ≠ 90 by decide), u3_k _ _ (show 12 ≠ 89 by decide), u3_k _ _ (show 12 ≠ 88 by decide), u3_k _ _ (show 12 ≠ 87 by decide), u3_k _ _ (show 12 ≠ 86 by decide), u3_k _ _ (show 12 ≠ 85 by decide), u3_k _ _ (show 12 ≠ 84 by decide), hm, show nI m + 1 = nI (m + 1) from nI_1 m]
theorem m_sendBack {m c : Nat} {kd d : Int32} (hc : c < 30) (hm : σ 12 0 54 = nI m) (hm2 : m < 690) : am_D l 210 [aR 12 0, aI (nI c), aI kd, aI d] σ τ (rX t) cX lX (some (aI (nI m))) (msend σ m kd (σ 66 0 c) (σ 65 0 c) (nI c) d) τ (rX t) := by
  refine am_D_of am_o210 am_l210 rfl ?_
  refine am_vc_ok am_k210 [] 100 ?_
  refine And.intro (vp_in_nI (N := 30) hc (by decide)) ?_
  refine And.intro (vp_in_nI (N := 30) hc (by decide)) ?_
  rw [nI_clamp (by omega)]
  refine am_vO am_k210 am_h210 rfl rfl rfl rfl (m_send hm hm2) ?_
  refine am_vc_ok am_k210 [] 100 ?_
  exact am_vI am_k210 am_r210 rfl ⟨rfl, rfl, rfl, rfl, rfl, rfl⟩
theorem m_sendOut {m c : Nat} {kd d : Int32} (hc : c < 30) (hm : σ 12 0 54 = nI m) (hm2 : m < 690) : am_D l 211 [aR 12 0, aI (nI c), aI kd, aI d] σ τ (rX t) cX lX (some (aI (nI m))) (msend σ m kd (σ 65 0 c) (σ 66 0 c) (nI c) d) τ (rX t) := by
  refine am_D_of am_o211 am_l211 rfl ?_
  refine am_vc_ok am_k211 [] 100 ?_
  refine And.intro (vp_in_nI (N := 30) hc (by decide)) ?_
  refine And.intro (vp_in_nI (N := 30) hc (by decide)) ?_
  rw [nI_clamp (by omega)]
  refine am_vO am_k211 am_h211 rfl rfl rfl rfl (m_send hm hm2) ?_
  refine am_vc_ok am_k211 [] 100 ?_
  exact am_vI am_k211 am_r211 rfl ⟨rfl, rfl, rfl, rfl, rfl, rfl⟩
/-- Rnet without the accounting; the accounting -/
def Rnet0 (σ : tI) (T n m lo k : Nat) : Prop :=
  (σ 3 0 4 = nI T ∧ σ 12 0 5 = nI T ∧ T ≤ 9999) ∧ (σ 3 0 5 = nI n ∧ σ 12 0 34 = nI n ∧ n ≤ 30) ∧ (∀ c, c < n → Rcall σ c ∧ Ocall σ c ∧ σ 0 c 11 = nI (undU σ lo m c)) ∧ (∀ c, n ≤ c → c < 30 → Fcall σ c) ∧
  σ 3 0 6 = nI (cntN (fun c => decide (σ 71 0 c = 0)) n) ∧
  (∀ a, a < 6 → σ 8 a 2 = σ 62 0 a ∧ σ 8 a 3 = σ 63 0 a ∧ σ 8 a 4 = σ 64 0 a ∧ (∃ h, 1 ≤ h ∧ h ≤ 3 ∧ σ 62 0 a = nI h) ∧ (∃ h, h ≤ 9 ∧ σ 63 0 a = nI h) ∧ (∃ h, h ≤ 99 ∧ σ 64 0 a = nI h) ∧
    σ 8 a 5 = nI (cntN (fun c => decide (σ 66 0 c = nI a ∧ σ 77 0 c = 1)) n) ∧ σ 8 a 6 = nI (cntN (fun c => decide (σ 66 0 c = nI a ∧ σ 77 0 c = 2)) n)) ∧
  (σ 1 0 0 = nI m ∧ σ 12 0 54 = nI m) ∧ (∀ f, f < m → Rframe σ f ∧ Oframe σ n f) ∧ σ 1 0 1 = nI (cntN (fun f => decide (σ 88 0 f = 2)) m) ∧
  (σ 1 0 2 = nI lo ∧ lo ≤ m ∧ (∀ f, f < lo → σ 88 0 f = 1 ∨ σ 88 0 f = 2) ∧ ∀ f, lo ≤ f → f < m → σ 88 0 f = 0) ∧
  (∀ f c, lo ≤ f → f < m → σ 84 0 f = 1 → σ 89 0 f = nI c → c < n → σ 90 0 f = σ 72 0 c) ∧
  (σ 2 0 0 = nI k ∧ σ 12 0 64 = nI k ∧ k ≤ 20 ∧ ∀ i, i < k → σ 21 0 i = σ 91 0 i ∧ σ 22 0 i = σ 92 0 i ∧ σ 23 0 i = σ 93 0 i)
def Racc (σ : tI) (n m lo : Nat) : Prop :=
  ∃ P S : Nat, ∃ Rp Kc : Nat → Nat, σ 3 0 7 = nI P ∧ σ 12 0 62 = nI P ∧ P ≤ 100 ∧ σ 3 0 8 = nI S ∧ σ 12 0 63 = nI S ∧ S ≤ 200 ∧ m = P + S + sumN (fun c => (σ 72 0 c).toNatClampNeg + 1 + Rp c + Kc c) n ∧
    ∀ c, c < n → Rp c + (if σ 77 0 c = 0 then 0 else 1) + asksU σ lo m c ≤ (σ 72 0 c).toNatClampNeg + 1 ∧ Kc c ≤ (if σ 71 0 c = 0 then 0 else 1) ∧ (σ 81 0 c).toNatClampNeg ≤ 9 * lo
theorem Rnet.split {T n m lo k : Nat} (h : Rnet σ T n m lo k) : Rnet0 σ T n m lo k ∧ Racc σ n m lo := by
  obtain ⟨h1, h2, h3, h4, h5, h6, h7, h8, h9, h10, h11, h12, h13⟩ := h
  exact ⟨⟨h1, h2, h3, h4, h5, h6, h7, h8, h9, h10, h11, h12⟩, h13⟩
theorem Rnet.join {T n m lo k : Nat} (h : Rnet0 σ T n m lo k) (ha : Racc σ n m lo) : Rnet σ T n m lo k := by
  obtain ⟨h1, h2, h3, h4, h5, h6, h7, h8, h9, h10, h11, h12⟩ := h
  exact ⟨h1, h2, h3, h4, h5, h6, h7, h8, h9, h10, h11, h12, ha⟩
/-- what adding frame m leaves as it was -/
def kAdd : Nat → Bool := fun q => Nat.beq q 2 || Nat.beq q 8 || Nat.beq q 13 || (Nat.ble 21 q && Nat.ble q 23) || (Nat.ble 62 q && Nat.ble q 83) || (Nat.ble 91 q && Nat.ble q 93)
def kFr : Nat → Bool := fun q => (Nat.ble 14 q && Nat.ble q 20) || (Nat.ble 84 q && Nat.ble q 90)
theorem Rnet0.add {T n m lo k : Nat} (h : Rnet0 σ T n m lo k) (E : ∀ q, kAdd q = true → s q = σ q) (E0 : ∀ c j, j ≠ 11 → s 0 c j = σ 0 c j) (E0u : ∀ c, c < n → s 0 c 11 = σ 0 c 11 + (if s 89 0 m = nI c then 1 else 0)) (E0f : ∀ c, n ≤ c → c < 30 → s 0 c 11 = σ 0 c 11) (E1 : s 1 0 0 = nI (m + 1) ∧ s 12 0 54 = nI (m + 1) ∧ s 1 0 1 = σ 1 0 1 ∧ s 1 0 2 = σ 1 0 2) (E3 : s 3 0 4 = σ 3 0 4 ∧ s 3 0 5 = σ 3 0 5 ∧ s 3 0 6 = σ 3 0 6 ∧ s 12 0 5 = σ 12 0 5 ∧ s 12 0 34 = σ 12 0 34 ∧ s 12 0 64 = σ 12 0 64) (EF : ∀ q f, kFr q = true → f ≠ m → s q 0 f = σ q 0 f) (hR : Rframe s m) (hO : Oframe s n m) (h88 : s 88 0 m = 0) (h90 : ∀ c, s 84 0 m = 1 → s 89 0 m = nI c → c < n → s 90 0 m = σ 72 0 c) : Rnet0 s T n (m + 1) lo k := by
  obtain ⟨h1, h2, h3, h4, h5, h6, h7, h8, h9, h10, h11, h12⟩ := h
  have eC : ∀ c, Rcall σ c → Rcall s c := by
    intro c hc
    unfold Rcall at hc ⊢
    rw [E0 c 0 (by decide), E0 c 1 (by decide), E0 c 2 (by decide), E0 c 3 (by decide), E0 c 4 (by decide), E0 c 5 (by decide), E0 c 6 (by decide), E0 c 7 (by decide), E0 c 8 (by decide), E0 c 9 (by decide), E0 c 10 (by decide), E0 c 12 (by decide), E0 c 13 (by decide), E0 c 14 (by decide), E0 c 15 (by decide), E0 c 16 (by decide), E0 c 17 (by decide), E0 c 18 (by decide), E 13 rfl, E 65 rfl, E 66 rfl, E 67 rfl, E 68 rfl, E 69 rfl, E 70 rfl, E 71 rfl, E 72 rfl, E 73 rfl, E 74 rfl, E 75 rfl, E 76 rfl, E 77 rfl, E 78 rfl, E 79 rfl, E 80 rfl, E 81 rfl, E 82 rfl, E 83 rfl]
    exact hc
  have eO : ∀ c, Ocall σ c → Ocall s c := by
    intro c hc
    unfold Ocall at hc ⊢
    rw [E 65 rfl, E 66 rfl, E 67 rfl, E 68 rfl, E 70 rfl, E 71 rfl, E 72 rfl, E 77 rfl, E 78 rfl, E 81 rfl, E 82 rfl]
    exact hc
  have eU : ∀ c, undU s lo (m + 1) c = undU σ lo m c + (if s 89 0 m = nI c then 1 else 0) := by
    intro c
    show cntN _ m + _ = _
    have e1 : cntN (fun f => decide (lo ≤ f ∧ s 89 0 f = nI c)) m = undU σ lo m c := by
      refine cntN_cg (fun f hf => ?_)
      rw [EF 89 f rfl (by omega)]
    rw [e1]
    congr 1
    have hlo := h10.2.1
    by_cases hx : s 89 0 m = nI c
    · simp [hx, hlo]
    · simp [hx]
  refine ⟨?_, ?_, ?_, ?_, ?_, ?_, ⟨E1.1, E1.2.1⟩, ?_, ?_, ?_, ?_, ?_⟩
  · rw [E3.1, E3.2.2.2.1]; exact h1
  · rw [E3.2.1, E3.2.2.2.2.1]; exact h2
  · intro c hc
    obtain ⟨g1, g2, g3⟩ := h3 c hc
    refine ⟨eC c g1, eO c g2, ?_⟩
    rw [eU, E0u c hc, g3]
    split
    · exact nI_1 _
    · simp
  · intro c hc1 hc2
    have g := h4 c hc1 hc2
    unfold Fcall at g ⊢
    rw [E0f c hc1 hc2, E0 c 7 (by decide), E0 c 8 (by decide), E0 c 9 (by decide), E0 c 12 (by decide), E0 c 14 (by decide), E0 c 15 (by decide), E0 c 16 (by decide), E0 c 17 (by decide), E0 c 18 (by decide), E 13 rfl, E 72 rfl, E 73 rfl, E 77 rfl, E 80 rfl, E 81 rfl, E 82 rfl, E 83 rfl]
    exact g
  · rw [E3.2.2.1, E 71 rfl]; exact h5
  · rw [E 8 rfl, E 62 rfl, E 63 rfl, E 64 rfl, E 66 rfl, E 77 rfl]; exact h6
  · intro f hf
    by_cases hfm : f = m
    · rw [hfm]; exact ⟨hR, hO⟩
    · obtain ⟨g1, g2⟩ := h8 f (by omega)
      unfold Rframe at g1 ⊢
      unfold Oframe at g2 ⊢
      rw [EF 14 f rfl hfm, EF 15 f rfl hfm, EF 16 f rfl hfm, EF 17 f rfl hfm, EF 18 f rfl hfm, EF 19 f rfl hfm, EF 20 f rfl hfm, EF 84 f rfl hfm, EF 85 f rfl hfm, EF 86 f rfl hfm, EF 87 f rfl hfm, EF 88 f rfl hfm, EF 89 f rfl hfm, EF 90 f rfl hfm]
      exact ⟨g1, g2⟩
  · rw [E1.2.2.1, h9]
    have e1 : cntN (fun f => decide (s 88 0 f = 2)) (m + 1) = cntN (fun f => decide (σ 88 0 f = 2)) m := by
      show cntN _ m + _ = _
      rw [cntN_cg (q := fun f => decide (σ 88 0 f = 2)) (fun f hf => by rw [EF 88 f rfl (by omega)])]
      simp [h88]
    rw [e1]
  · obtain ⟨g1, g2, g3, g4⟩ := h10
    refine ⟨E1.2.2.2.trans g1, by omega, fun f hf => ?_, fun f hf1 hf2 => ?_⟩
    · rw [EF 88 f rfl (by omega)]; exact g3 f hf
    · by_cases hfm : f = m
      · rw [hfm]; exact h88
      · rw [EF 88 f rfl hfm]; exact g4 f hf1 (by omega)
  · intro f c hf1 hf2 hf3 hf4 hc
    rw [E 72 rfl]
    by_cases hfm : f = m
    · rw [hfm] at hf3 hf4 ⊢; exact h90 c hf3 hf4 hc
    · rw [EF 84 f rfl hfm] at hf3
      rw [EF 89 f rfl hfm] at hf4
      rw [EF 90 f rfl hfm]
      exact h11 f c hf1 (by omega) hf3 hf4 hc
  · rw [E 2 rfl, E3.2.2.2.2.2, E 21 rfl, E 22 rfl, E 23 rfl, E 91 rfl, E 92 rfl, E 93 rfl]; exact h12
theorem x_ping_bad {a b : Int32} (h : ¬ ((0 ≤ a ∧ a < 6) ∧ (0 ≤ b ∧ b < 6) ∧ a ≠ b)) : am_D l 120 [aR 11 0, aI a, aI b] σ τ (rX t) cX lX (some (aI (-1))) σ τ (rX t) := by
  refine am_D_of am_o120 am_l120 rfl ?_
  refine am_vc_ok am_k120 [] 100 ?_
  refine am_vS am_k120 am_h120 rfl rfl rfl rfl (x_isPair) ?_
  refine am_vc_ok am_k120 [] 100 ?_
  refine And.intro (fun h1 => ?_) (fun h1 => ?_)
  · exact am_vI am_k120 am_r120 rfl ⟨rfl, rfl, rfl, rfl, rfl, rfl⟩
  · exact absurd (bI_1.mp h1) h
theorem x_ping_full {a b : Int32} (h : (0 ≤ a ∧ a < 6) ∧ (0 ≤ b ∧ b < 6) ∧ a ≠ b) (hP : σ 3 0 7 = nI 100) : am_D l 120 [aR 11 0, aI a, aI b] σ τ (rX t) cX lX (some (aI (-2))) σ τ (rX t) := by
  refine am_D_of am_o120 am_l120 rfl ?_
  refine am_vc_ok am_k120 [] 100 ?_
  refine am_vS am_k120 am_h120 rfl rfl rfl rfl (x_isPair) ?_
  refine am_vc_ok am_k120 [] 100 ?_
  refine And.intro (fun g => absurd h (bI_0.mp g)) (fun _ => ?_)
  refine And.intro (fun g => absurd g (by rw [hP]; decide)) (fun _ => ?_)
  exact am_vI am_k120 am_r120 rfl ⟨rfl, rfl, rfl, rfl, rfl, rfl⟩
theorem x_ping {P m : Nat} {a b : Int32} (h : (0 ≤ a ∧ a < 6) ∧ (0 ≤ b ∧ b < 6) ∧ a ≠ b) (hP : σ 3 0 7 = nI P) (hP2 : P < 100) (hm : σ 1 0 0 = nI m) (hm2 : m < 690) : am_D l 120 [aR 11 0, aI a, aI b] σ τ (rX t) cX lX (some (aI (nI m))) (xadd (u3 σ 3 0 7 (nI (P + 1))) m 0 a b (σ 3 0 4) (-9) 0) τ (rX t) := by
  refine am_D_of am_o120 am_l120 rfl ?_
  refine am_vc_ok am_k120 [] 100 ?_
  refine am_vS am_k120 am_h120 rfl rfl rfl rfl (x_isPair) ?_
  refine am_vc_ok am_k120 [] 100 ?_
  refine And.intro (fun g => absurd h (bI_0.mp g)) (fun _ => ?_)
  refine And.intro (fun _ => ?_) (fun g => absurd (by rw [hP]; exact nI_lt (b := 100) hP2 (by decide)) g)
  refine am_vc_ok am_k120 [] 100 ?_
  refine am_vO am_k120 am_h120 rfl rfl rfl rfl (x_addF (m := m) (by simp [u3, hm]) hm2) ?_
  refine am_vc_ok am_k120 [] 100 ?_
  refine am_vI am_k120 am_r120 rfl ⟨rfl, ?_, rfl, rfl, rfl, rfl⟩
  rw [hP, show nI P + 1 = nI (P + 1) from nI_1 P]
  rfl
theorem m_ping_bad {a b : Int32} (h : ¬ ((0 ≤ a ∧ a ≤ 5) ∧ (0 ≤ b ∧ b ≤ 5) ∧ a ≠ b)) : am_D l 217 [aR 12 0, aI a, aI b] σ τ (rX t) cX lX (some (aI (-1))) σ τ (rX t) := by
  refine am_D_of am_o217 am_l217 rfl ?_
  refine am_vc_ok am_k217 [] 100 ?_
  refine am_vS am_k217 am_h217 rfl rfl rfl rfl (m_isSix) ?_
  refine am_vc_ok am_k217 [] 100 ?_
  refine And.intro (fun h1 => ?_) (fun h1 => ?_)
  · exact am_vI am_k217 am_r217 rfl ⟨rfl, rfl, rfl, rfl, rfl, rfl⟩
  refine am_vS am_k217 am_h217 rfl rfl rfl rfl (m_isSix) ?_
  refine am_vc_ok am_k217 [] 100 ?_
  refine And.intro (fun h2 => ?_) (fun h2 => ?_)
  · exact am_vI am_k217 am_r217 rfl ⟨rfl, rfl, rfl, rfl, rfl, rfl⟩
  refine And.intro (fun h3 => ?_) (fun h3 => ?_)
  · exact am_vI am_k217 am_r217 rfl ⟨rfl, rfl, rfl, rfl, rfl, rfl⟩
  · exact absurd ⟨bI_1.mp h1, bI_1.mp h2, h3⟩ h
theorem m_ping_full {a b : Int32} (h : (0 ≤ a ∧ a ≤ 5) ∧ (0 ≤ b ∧ b ≤ 5) ∧ a ≠ b) (hP : σ 12 0 62 = nI 100) : am_D l 217 [aR 12 0, aI a, aI b] σ τ (rX t) cX lX (some (aI (-2))) σ τ (rX t) := by
  refine am_D_of am_o217 am_l217 rfl ?_
  refine am_vc_ok am_k217 [] 100 ?_
  refine am_vS am_k217 am_h217 rfl rfl rfl rfl (m_isSix) ?_
  refine am_vc_ok am_k217 [] 100 ?_
  refine And.intro (fun g => absurd h.1 (bI_0.mp g)) (fun _ => ?_)
  refine am_vS am_k217 am_h217 rfl rfl rfl rfl (m_isSix) ?_
  refine am_vc_ok am_k217 [] 100 ?_
  refine And.intro (fun g => absurd h.2.1 (bI_0.mp g)) (fun _ => ?_)
  refine And.intro (fun g => absurd g h.2.2) (fun _ => ?_)
  refine And.intro (fun _ => ?_) (fun g => absurd hP g)
  exact am_vI am_k217 am_r217 rfl ⟨rfl, rfl, rfl, rfl, rfl, rfl⟩
theorem m_ping {P m : Nat} {a b : Int32} (h : (0 ≤ a ∧ a ≤ 5) ∧ (0 ≤ b ∧ b ≤ 5) ∧ a ≠ b) (hP : σ 12 0 62 = nI P) (hP2 : P < 100) (hm : σ 12 0 54 = nI m) (hm2 : m < 690) : am_D l 217 [aR 12 0, aI a, aI b] σ τ (rX t) cX lX (some (aI (nI m))) (msend (u3 σ 12 0 62 (nI (P + 1))) m 0 a b (-9) 0) τ (rX t) := by
  refine am_D_of am_o217 am_l217 rfl ?_
  refine am_vc_ok am_k217 [] 100 ?_
  refine am_vS am_k217 am_h217 rfl rfl rfl rfl (m_isSix) ?_
  refine am_vc_ok am_k217 [] 100 ?_
  refine And.intro (fun g => absurd h.1 (bI_0.mp g)) (fun _ => ?_)
  refine am_vS am_k217 am_h217 rfl rfl rfl rfl (m_isSix) ?_
  refine am_vc_ok am_k217 [] 100 ?_
  refine And.intro (fun g => absurd h.2.1 (bI_0.mp g)) (fun _ => ?_)
  refine And.intro (fun g => absurd g h.2.2) (fun _ => ?_)
  refine And.intro (fun g => absurd ((nI_eq (b := 100) (by omega) (by decide)).mp (hP.symm.trans g)) (by omega)) (fun _ => ?_)
  refine am_vc_ok am_k217 [] 100 ?_
  refine am_vO am_k217 am_h217 rfl rfl rfl rfl (m_send (m := m) (by simp [u3, hm]) hm2) ?_
  refine am_vc_ok am_k217 [] 100 ?_
  refine am_vI am_k217 am_r217 rfl ⟨rfl, ?_, rfl, rfl, rfl, rfl⟩
  rw [hP, show nI P + 1 = nI (P + 1) from nI_1 P]
abbrev sping (σ : tI) (P m : Nat) (a b : Int32) : tI := msend (u3 (xadd (u3 σ 3 0 7 (nI (P + 1))) m 0 a b (σ 3 0 4) (-9) 0) 12 0 62 (nI (P + 1))) m 0 a b (-9) 0
theorem sping_k {P m q : Nat} {a b : Int32} (h3 : q ≠ 3) (h1 : q ≠ 1) (h12 : q ≠ 12) (hF : kFr q = false) : sping σ P m a b q = σ q := by
  have d : ∀ c, kFr c = true → q ≠ c := fun c hc e => by rw [e, hc] at hF; cases hF
  simp only [sping, msend, xadd]
  rw [u3_kk _ _ h12, u3_kk _ _ (d 90 rfl), u3_kk _ _ (d 89 rfl), u3_kk _ _ (d 88 rfl), u3_kk _ _ (d 87 rfl), u3_kk _ _ (d 86 rfl), u3_kk _ _ (d 85 rfl), u3_kk _ _ (d 84 rfl), u3_kk _ _ h12, u3_kk _ _ h1, u3_kk _ _ (d 20 rfl), u3_kk _ _ (d 19 rfl), u3_kk _ _ (d 18 rfl), u3_kk _ _ (d 17 rfl), u3_kk _ _ (d 16 rfl), u3_kk _ _ (d 15 rfl), u3_kk _ _ (d 14 rfl), u3_kk _ _ h3]
theorem sping_f {P m q f : Nat} {a b : Int32} (hF : kFr q = true) (hf : f ≠ m) : sping σ P m a b q 0 f = σ q 0 f := by
  have d : ∀ c, kFr c = false → q ≠ c := fun c hc e => by rw [e, hc] at hF; cases hF
  simp [sping, msend, xadd, u3, hf, d 12 rfl, d 1 rfl, d 3 rfl]
theorem Rnet.ping {T n m lo k P : Nat} {a b : Int32} (h : Rnet σ T n m lo k) (hP : σ 3 0 7 = nI P) (hP2 : P < 100) : Rnet (sping σ P m a b) T n (m + 1) lo k := by
  obtain ⟨h0, ha⟩ := h.split
  have n9 : ∀ c, c < 30 → ¬ (-9 : Int32) = nI c := fun c hc e => absurd (e ▸ (nI_pos' (n := c) (by omega)) : (0 : Int32) ≤ -9) (by decide)
  have kd : ∀ q, kAdd q = true → q ≠ 3 ∧ q ≠ 1 ∧ q ≠ 12 ∧ kFr q = false := by
    intro q z
    have z2 := z
    unfold kAdd at z2
    simp only [Bool.or_eq_true, Bool.and_eq_true, Nat.ble_eq, Nat.beq_eq] at z2
    refine ⟨by omega, by omega, by omega, ?_⟩
    cases hq : kFr q with
    | false => rfl
    | true =>
      exfalso
      unfold kFr at hq
      simp only [Bool.or_eq_true, Bool.and_eq_true, Nat.ble_eq] at hq
      omega
  have v89 : sping σ P m a b 89 0 m = -9 := by simp [sping, msend, xadd, u3]
  have hn := h0.2.1.2.2
  have e72 : sping σ P m a b 72 = σ 72 := sping_k (by decide) (by decide) (by decide) rfl
  have e71 : sping σ P m a b 71 = σ 71 := sping_k (by decide) (by decide) (by decide) rfl
  have e77 : sping σ P m a b 77 = σ 77 := sping_k (by decide) (by decide) (by decide) rfl
  have e81 : sping σ P m a b 81 = σ 81 := sping_k (by decide) (by decide) (by decide) rfl
  refine Rnet.join (h0.add (fun q z => sping_k (kd q z).1 (kd q z).2.1 (kd q z).2.2.1 (kd q z).2.2.2) (fun c j _ => by rw [sping_k (by decide) (by decide) (by decide) rfl]) (fun c hc => by rw [v89, if_neg (n9 c (by omega)), sping_k (by decide) (by decide) (by decide) rfl]; simp) (fun c _ _ => by rw [sping_k (by decide) (by decide) (by decide) rfl]) ?_ ?_ (fun q f z hf => sping_f z hf) ?_ ?_ ?_ ?_) ?_
  · simp [sping, msend, xadd, u3]
  · simp [sping, msend, xadd, u3]
  · have hT := h0.1
    simp [Rframe, sping, msend, xadd, u3, hT.1, hT.2.1]
  · exact Or.inl ⟨by simp [sping, msend, xadd, u3], v89⟩
  · simp [sping, msend, xadd, u3]
  · intro c h1
    exact absurd h1 (by simp [sping, msend, xadd, u3])
  · obtain ⟨P2, S, Rp, Kc, g1, g2, g3, g4, g5, g6, g7, g8⟩ := ha
    obtain rfl : P2 = P := (nI_eq (by omega) (by omega)).mp (g1.symm.trans hP)
    refine ⟨P2 + 1, S, Rp, Kc, by simp [sping, msend, xadd, u3], by simp [sping, msend, xadd, u3], by omega, ?_, ?_, g6, ?_, ?_⟩
    · rw [← g4]; simp [sping, msend, xadd, u3]
    · rw [← g5]; simp [sping, msend, xadd, u3]
    · rw [e72]; omega
    · intro c hc
      have eA : asksU (sping σ P2 m a b) lo (m + 1) c = asksU σ lo m c := by
        show cntN _ m + _ = _
        have e1 : cntN (fun f => decide (lo ≤ f ∧ sping σ P2 m a b 84 0 f = 1 ∧ sping σ P2 m a b 89 0 f = nI c)) m = asksU σ lo m c := by
          refine cntN_cg (fun f hf => ?_)
          rw [sping_f rfl (by omega), sping_f rfl (by omega)]
        rw [e1]
        have e2 : ¬ (lo ≤ m ∧ sping σ P2 m a b 84 0 m = 1 ∧ sping σ P2 m a b 89 0 m = nI c) := fun z => n9 c (by omega) (v89.symm.trans z.2.2)
        simp only [decide_eq_true_eq, if_neg e2]
        rfl
      rw [eA, e72, e71, e77, e81]
      exact g8 c hc
theorem LC_ping (h : Rall σ τ) (a b : Int32) : LC l 120 217 [aI a, aI b] σ τ t := by
  have e6 : ∀ x : Int32, (0 ≤ x ∧ x ≤ 5) ↔ (0 ≤ x ∧ x < 6) := fun x => leN (n := 6) (N := 6) (by decide) (by decide)
  obtain ⟨-, -, -, -, -, -, T, n, m, lo, k, hN⟩ := id h
  obtain ⟨h0, P, S, Rp, Kc, g1, g2, g3, -⟩ := hN.split
  have hm := h0.2.2.2.2.2.2.1
  by_cases hc : (0 ≤ a ∧ a < 6) ∧ (0 ≤ b ∧ b < 6) ∧ a ≠ b
  · have hc2 : (0 ≤ a ∧ a ≤ 5) ∧ (0 ≤ b ∧ b ≤ 5) ∧ a ≠ b := ⟨(e6 a).mpr hc.1, (e6 b).mpr hc.2.1, hc.2.2⟩
    by_cases hP : P < 100
    · have hN2 := hN.ping (a := a) (b := b) g1 hP
      have hm2 := hN2.m_le
      refine LC.of (x_ping hc g1 hP hm.1 (by omega)) (m_ping (P := P) (m := m) hc2 (by simp [xadd, u3, g2]) hP (by simp [xadd, u3, hm.2]) (by omega)) ?_
      refine h.net (fun q z1 z2 z3 => ?_) (fun c hc => ?_) (fun j z => ?_) hN2
      · have d : ∀ c, kNet c = true → q ≠ c := fun c hc e => by rw [e, hc] at z1; cases z1
        refine sping_k (d 3 rfl) (d 1 rfl) z3 ?_
        cases hq : kFr q with
        | false => rfl
        | true =>
          exfalso
          unfold kFr at hq
          unfold kNet at z1
          simp only [Bool.or_eq_true, Bool.and_eq_true, Nat.ble_eq] at hq
          simp only [Bool.or_eq_false_iff, Bool.and_eq_false_iff] at z1
          rcases hq with hq | hq
          · rcases z1.1.2 with z | z
            · exact absurd (Nat.ble_eq.mpr (show 13 ≤ q by omega)) (by rw [z]; decide)
            · exact absurd (Nat.ble_eq.mpr (show q ≤ 23 by omega)) (by rw [z]; decide)
          · rcases z1.2 with z | z
            · exact absurd (Nat.ble_eq.mpr (show 62 ≤ q by omega)) (by rw [z]; decide)
            · exact absurd (Nat.ble_eq.mpr (show q ≤ 93 by omega)) (by rw [z]; decide)
      · have e8 := sping_k (σ := σ) (P := P) (m := m) (a := a) (b := b) (q := 8) (by decide) (by decide) (by decide) rfl
        exact ⟨congrFun (congrFun e8 c) 0, congrFun (congrFun e8 c) 1⟩
      · have d1 : j ≠ 54 := fun e => by rw [e] at z; cases z
        have d2 : j ≠ 62 := fun e => by rw [e] at z; cases z
        simp [msend, xadd, u3, d1, d2]
    · obtain rfl : P = 100 := by omega
      exact LC.of (x_ping_full hc g1) (m_ping_full hc2 g2) h
  · exact LC.of (x_ping_bad hc) (m_ping_bad (fun z => hc ⟨(e6 a).mp z.1, (e6 b).mp z.2.1, z.2.2⟩)) h
end L9