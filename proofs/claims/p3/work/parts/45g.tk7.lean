/-! ticks: work begins -/
section L86
variable {l : Launch} {σ σ2 s s0 s1 A A0 A1 : tI} {τ τ2 : tL} {t : Option (Nat × Nat)} {T n m lo k c b a : Nat}
theorem x_begin_late (hc : c < 30) (hm : s 1 0 0 = nI m) (hm2 : m < 690) (h : s 0 c 6 < s 3 0 4 + s 0 c 3) : am_D l 28 [aR 3 0, aI (nI c)] s τ (rX t) cX lX none (xsend (u3 s 0 c 12 0) m c 3 (s 0 c 1) (s 0 c 0) 6) τ (rX t) := by
  have f0 : (u3 s 0 c 12 0) 0 c 0 = s 0 c 0 := by simp [u3]
  have f1 : (u3 s 0 c 12 0) 0 c 1 = s 0 c 1 := by simp [u3]
  refine am_D_of am_o28 am_l28 rfl ?_
  refine am_vc_ok am_k28 [] 100 ?_
  refine And.intro (vp_in_nI (N := 30) hc (by decide)) ?_
  rw [nI_clamp (n := c) (by omega)]
  refine And.intro (fun z => absurd h (Int32.not_lt.mpr z)) (fun z => ?_)
  refine am_vO am_k28 am_h28 rfl rfl rfl rfl (x_nsend3 (m := m) hc (by simp [u3, hm]) hm2) ?_
  refine am_vc_ok am_k28 [] 100 ?_
  refine am_vV am_k28 am_r28 rfl ⟨rfl, ?_, rfl, rfl, rfl, rfl⟩
  rw [f0, f1]
theorem x_begin_on (hc : c < 30) (hb : b < 6) (h1 : s 0 c 1 = nI b) (h : ¬ s 0 c 6 < s 3 0 4 + s 0 c 3) : am_D l 28 [aR 3 0, aI (nI c)] s τ (rX t) cX lX none (u3 (u3 (u3 s 0 c 12 2) 0 c 13 (s 0 c 3)) 8 b 6 (s 8 b 6 + 1)) τ (rX t) := by
  have f3 : (u3 s 0 c 12 2) 0 c 3 = s 0 c 3 := by simp [u3]
  have f1 : (u3 (u3 s 0 c 12 2) 0 c 13 (s 0 c 3)) 0 c 1 = nI b := by simp [u3, h1]
  refine am_D_of am_o28 am_l28 rfl ?_
  refine am_vc_ok am_k28 [] 100 ?_
  refine And.intro (vp_in_nI (N := 30) hc (by decide)) ?_
  rw [nI_clamp (n := c) (by omega)]
  refine And.intro (fun z => ?_) (fun z => absurd (Int32.not_lt.mp h) z)
  refine And.intro (by rw [f3, f1]; exact vp_in_nI (N := 6) hb (by decide)) ?_
  rw [f3, f1, nI_clamp (n := b) (by omega)]
  exact am_vV am_k28 am_r28 rfl ⟨rfl, rfl, rfl, rfl, rfl, rfl⟩
theorem m_bg_full {Q : tQ} (hn : σ 12 0 34 = nI n) (hn2 : n ≤ 30) (ha : a < 6) (h : σ 62 0 a ≤ nI (dgM σ n a)) (K : Q none σ τ (rX t) cX lX) : am_G l 225 Q 0 0 2 [(2, aI (nI c)), (0, aR 12 0), (1, aI (nI a))] [] σ τ (rX t) cX lX := by
  have pd := m_placedAt (l := l) (τ := τ) (t := t) (σ := σ) (a := nI a) (b := 2) hn hn2
  refine am_vc_ok am_k225 [2] 100 ?_
  refine And.intro (fun _ => ?_) (fun _ => ?_)
  · refine am_vV am_k225 am_r225 rfl K
  refine am_vO am_k225 am_h225 rfl rfl rfl rfl (pd) ?_
  refine am_vc_ok am_k225 [2] 100 ?_
  refine And.intro (vp_in_nI (N := 6) ha (by decide)) ?_
  rw [nI_clamp (n := a) (by omega)]
  refine And.intro (fun _ => ?_) (fun g => absurd h g)
  refine am_vV am_k225 am_r225 rfl K
theorem m_bg_skip {Q : tQ} (hc : c < n) (hn : σ 12 0 34 = nI n) (hn2 : n ≤ 30) (ha : a < 6) (h : ¬ σ 62 0 a ≤ nI (dgM σ n a)) (h2 : ¬ (σ 66 0 c = nI a ∧ σ 77 0 c = 1)) (K : am_G l 225 Q 0 0 2 [(2, aI (nI (c + 1))), (0, aR 12 0), (1, aI (nI a))] [] σ τ (rX t) cX lX) : am_G l 225 Q 0 0 2 [(2, aI (nI c)), (0, aR 12 0), (1, aI (nI a))] [] σ τ (rX t) cX lX := by
  have pd := m_placedAt (l := l) (τ := τ) (t := t) (σ := σ) (a := nI a) (b := 2) hn hn2
  rw [← nI_1] at K
  refine am_vc_ok am_k225 [2] 100 ?_
  refine And.intro (fun g => absurd (show nI n ≤ nI c by rw [← hn]; exact g) (nI_ge (b := n) (by omega) (by omega))) (fun _ => ?_)
  refine am_vO am_k225 am_h225 rfl rfl rfl rfl (pd) ?_
  refine am_vc_ok am_k225 [2] 100 ?_
  refine And.intro (vp_in_nI (N := 6) ha (by decide)) ?_
  rw [nI_clamp (n := a) (by omega)]
  refine And.intro (fun g => absurd g h) (fun _ => ?_)
  refine And.intro (vp_in_nI (N := 30) (show c < 30 by omega) (by decide)) ?_
  rw [nI_clamp (n := c) (by omega)]
  refine And.intro (fun z => ?_) (fun z => K)
  have z : σ 66 0 c = nI a := z
  refine And.intro (vp_in_nI (N := 30) (show c < 30 by omega) (by decide)) ?_
  rw [nI_clamp (n := c) (by omega)]
  exact And.intro (fun y => absurd ⟨z, y⟩ h2) (fun _ => K)
def ltM (A : tI) (c m : Nat) : tI := msend (u3 (u3 A 77 0 c 0) 78 0 c (A 68 0 c)) m 3 (A 66 0 c) (A 65 0 c) (nI c) 6
theorem m_bg_late {Q : tQ} (hc : c < n) (hn : σ 12 0 34 = nI n) (hn2 : n ≤ 30) (ha : a < 6) (h : ¬ σ 62 0 a ≤ nI (dgM σ n a)) (h2 : σ 66 0 c = nI a ∧ σ 77 0 c = 1) (hL : σ 69 0 c < σ 12 0 5 + σ 68 0 c) (hm : σ 12 0 54 = nI m) (hm2 : m < 690) (K : am_G l 225 Q 0 0 2 [(2, aI (nI (c + 1))), (0, aR 12 0), (1, aI (nI a))] [] (ltM σ c m) τ (rX t) cX lX) : am_G l 225 Q 0 0 2 [(2, aI (nI c)), (0, aR 12 0), (1, aI (nI a))] [] σ τ (rX t) cX lX := by
  have pd := m_placedAt (l := l) (τ := τ) (t := t) (σ := σ) (a := nI a) (b := 2) hn hn2
  have tl := m_tooLate (l := l) (τ := τ) (t := t) (σ := σ) (c := c) (by omega)
  rw [bI_t hL] at tl
  rw [← nI_1] at K
  unfold ltM at K
  have f77 : ∀ v : Int32, (u3 (u3 σ 77 0 c 0) 78 0 c v) 77 0 c = 0 := fun v => by simp [u3]
  refine am_vc_ok am_k225 [2] 100 ?_
  refine And.intro (fun g => absurd (show nI n ≤ nI c by rw [← hn]; exact g) (nI_ge (b := n) (by omega) (by omega))) (fun _ => ?_)
  refine am_vO am_k225 am_h225 rfl rfl rfl rfl (pd) ?_
  refine am_vc_ok am_k225 [2] 100 ?_
  refine And.intro (vp_in_nI (N := 6) ha (by decide)) ?_
  rw [nI_clamp (n := a) (by omega)]
  refine And.intro (fun g => absurd g h) (fun _ => ?_)
  refine And.intro (vp_in_nI (N := 30) (show c < 30 by omega) (by decide)) ?_
  rw [nI_clamp (n := c) (by omega)]
  refine And.intro (fun _ => ?_) (fun z => absurd h2.1 z)
  refine And.intro (vp_in_nI (N := 30) (show c < 30 by omega) (by decide)) ?_
  rw [nI_clamp (n := c) (by omega)]
  refine And.intro (fun _ => ?_) (fun z => absurd h2.2 z)
  refine am_vO am_k225 am_h225 rfl rfl rfl rfl (tl) ?_
  refine am_vc_ok am_k225 [2] 100 ?_
  refine And.intro (fun z => absurd z (by decide)) (fun _ => ?_)
  refine And.intro (vp_in_nI (N := 30) (show c < 30 by omega) (by decide)) ?_
  rw [nI_clamp (n := c) (by omega)]
  refine And.intro (vp_in_nI (N := 30) (show c < 30 by omega) (by decide)) ?_
  refine And.intro (vp_in_nI (N := 30) (show c < 30 by omega) (by decide)) ?_
  rw [nI_clamp (n := c) (by omega)]
  refine And.intro (vp_in_nI (N := 30) (show c < 30 by omega) (by decide)) ?_
  rw [nI_clamp (n := c) (by omega)]
  refine And.intro (fun _ => ?_) (fun z => absurd (f77 _) z)
  refine am_vO am_k225 am_h225 rfl rfl rfl rfl (m_sendBack (m := m) (show c < 30 by omega) (by simp [u3, hm]) hm2) ?_
  refine am_vc_ok am_k225 [2] 100 ?_
  exact K
def bgM (A : tI) (c : Nat) : tI := u3 (u3 A 77 0 c 2) 78 0 c (A 68 0 c)
theorem m_bg_on {Q : tQ} (hc : c < n) (hn : σ 12 0 34 = nI n) (hn2 : n ≤ 30) (ha : a < 6) (h : ¬ σ 62 0 a ≤ nI (dgM σ n a)) (h2 : σ 66 0 c = nI a ∧ σ 77 0 c = 1) (hL : ¬ σ 69 0 c < σ 12 0 5 + σ 68 0 c) (K : am_G l 225 Q 0 0 2 [(2, aI (nI (c + 1))), (0, aR 12 0), (1, aI (nI a))] [] (bgM σ c) τ (rX t) cX lX) : am_G l 225 Q 0 0 2 [(2, aI (nI c)), (0, aR 12 0), (1, aI (nI a))] [] σ τ (rX t) cX lX := by
  have pd := m_placedAt (l := l) (τ := τ) (t := t) (σ := σ) (a := nI a) (b := 2) hn hn2
  have tl := m_tooLate (l := l) (τ := τ) (t := t) (σ := σ) (c := c) (by omega)
  rw [bI_f hL] at tl
  rw [← nI_1] at K
  unfold bgM at K
  have f77 : ∀ v : Int32, (u3 (u3 σ 77 0 c 2) 78 0 c v) 77 0 c = 2 := fun v => by simp [u3]
  refine am_vc_ok am_k225 [2] 100 ?_
  refine And.intro (fun g => absurd (show nI n ≤ nI c by rw [← hn]; exact g) (nI_ge (b := n) (by omega) (by omega))) (fun _ => ?_)
  refine am_vO am_k225 am_h225 rfl rfl rfl rfl (pd) ?_
  refine am_vc_ok am_k225 [2] 100 ?_
  refine And.intro (vp_in_nI (N := 6) ha (by decide)) ?_
  rw [nI_clamp (n := a) (by omega)]
  refine And.intro (fun g => absurd g h) (fun _ => ?_)
  refine And.intro (vp_in_nI (N := 30) (show c < 30 by omega) (by decide)) ?_
  rw [nI_clamp (n := c) (by omega)]
  refine And.intro (fun _ => ?_) (fun z => absurd h2.1 z)
  refine And.intro (vp_in_nI (N := 30) (show c < 30 by omega) (by decide)) ?_
  rw [nI_clamp (n := c) (by omega)]
  refine And.intro (fun _ => ?_) (fun z => absurd h2.2 z)
  refine am_vO am_k225 am_h225 rfl rfl rfl rfl (tl) ?_
  refine am_vc_ok am_k225 [2] 100 ?_
  refine And.intro (fun _ => ?_) (fun z => absurd rfl z)
  refine And.intro (vp_in_nI (N := 30) (show c < 30 by omega) (by decide)) ?_
  rw [nI_clamp (n := c) (by omega)]
  refine And.intro (vp_in_nI (N := 30) (show c < 30 by omega) (by decide)) ?_
  refine And.intro (vp_in_nI (N := 30) (show c < 30 by omega) (by decide)) ?_
  rw [nI_clamp (n := c) (by omega)]
  refine And.intro (vp_in_nI (N := 30) (show c < 30 by omega) (by decide)) ?_
  rw [nI_clamp (n := c) (by omega)]
  exact And.intro (fun z => absurd ((f77 _).symm.trans z) (by decide)) (fun _ => K)
theorem mrg_ltM : ltM (mrg s A) c m = mrg s (ltM A c m) := by
  unfold ltM
  rw [← mrg_msend, mrg_m rfl, mrg_m rfl]
  rfl
theorem mrg_bgM : bgM (mrg s A) c = mrg s (bgM A c) := by
  unfold bgM
  rw [mrg_m rfl, mrg_m rfl]
  rfl
theorem mb_end (hR : Rnet (mrg s A) T n m lo k) : MG l 225 2 [(2, aI (nI n)), (0, aR 12 0), (1, aI (nI a))] A none A := by
  intro σ τ t
  refine am_vc_ok am_k225 [2] 100 ?_
  refine And.intro (fun _ => ?_) (fun g => absurd (show A 12 0 34 ≤ nI n by rw [show A 12 0 34 = nI n from hR.split.1.2.1.2.1]; exact Int32.le_refl _) g)
  exact am_vV am_k225 am_r225 rfl ⟨rfl, rfl, rfl, rfl, rfl, rfl⟩
theorem mb_full (hR : Rnet (mrg s A) T n m lo k) (ha : a < 6) (h : A 62 0 a ≤ nI (dgM A n a)) : MG l 225 2 [(2, aI (nI c)), (0, aR 12 0), (1, aI (nI a))] A none A := fun σ τ t => m_bg_full hR.split.1.2.1.2.1 hR.split.1.2.1.2.2 ha h ⟨rfl, rfl, rfl, rfl, rfl, rfl⟩
theorem mb_skip (hR : Rnet (mrg s A) T n m lo k) (hc : c < n) (ha : a < 6) (h : ¬ A 62 0 a ≤ nI (dgM A n a)) (h2 : ¬ (A 66 0 c = nI a ∧ A 77 0 c = 1)) (K : MG l 225 2 [(2, aI (nI (c + 1))), (0, aR 12 0), (1, aI (nI a))] A none A1) : MG l 225 2 [(2, aI (nI c)), (0, aR 12 0), (1, aI (nI a))] A none A1 := fun σ τ t => m_bg_skip hc hR.split.1.2.1.2.1 hR.split.1.2.1.2.2 ha h h2 (K σ τ t)
theorem mb_late (hR : Rnet (mrg s A) T n m lo k) (hc : c < n) (ha : a < 6) (h : ¬ A 62 0 a ≤ nI (dgM A n a)) (h2 : A 66 0 c = nI a ∧ A 77 0 c = 1) (hL : A 69 0 c < A 12 0 5 + A 68 0 c) (hm2 : m < 690) (K : MG l 225 2 [(2, aI (nI (c + 1))), (0, aR 12 0), (1, aI (nI a))] (ltM A c m) none A1) : MG l 225 2 [(2, aI (nI c)), (0, aR 12 0), (1, aI (nI a))] A none A1 := fun σ τ t => m_bg_late hc hR.split.1.2.1.2.1 hR.split.1.2.1.2.2 ha h h2 hL hR.split.1.2.2.2.2.2.2.1.2 hm2 (am_Gs mrg_ltM (K σ τ t))
theorem mb_on (hR : Rnet (mrg s A) T n m lo k) (hc : c < n) (ha : a < 6) (h : ¬ A 62 0 a ≤ nI (dgM A n a)) (h2 : A 66 0 c = nI a ∧ A 77 0 c = 1) (hL : ¬ A 69 0 c < A 12 0 5 + A 68 0 c) (K : MG l 225 2 [(2, aI (nI (c + 1))), (0, aR 12 0), (1, aI (nI a))] (bgM A c) none A1) : MG l 225 2 [(2, aI (nI c)), (0, aR 12 0), (1, aI (nI a))] A none A1 := fun σ τ t => m_bg_on hc hR.split.1.2.1.2.1 hR.split.1.2.1.2.2 ha h h2 hL (am_Gs mrg_bgM (K σ τ t))
theorem mb_rest (hR : Rnet (mrg s A) T n m lo k) (ha : a < 6) : ∀ (d c : Nat), c + d = n → (∀ c2, c ≤ c2 → c2 < n → ¬ (A 66 0 c2 = nI a ∧ A 77 0 c2 = 1)) → MG l 225 2 [(2, aI (nI c)), (0, aR 12 0), (1, aI (nI a))] A none A
  | 0, c, h, _ => by
    obtain rfl : c = n := by omega
    exact mb_end hR
  | d + 1, c, h, hz => by
    by_cases hf : A 62 0 a ≤ nI (dgM A n a)
    · exact mb_full hR ha hf
    · exact mb_skip hR (by omega) ha hf (hz c (Nat.le_refl _) (by omega)) (mb_rest hR ha d (c + 1) (by omega) (fun c2 h1 h2 => hz c2 (by omega) h2))
theorem xm_bgn {Q : tQ} (ha : a < 6) : ∀ (d c : Nat) {s A : tI} {m : Nat}, c + d = n → Rnet (mrg s A) T n m lo k → xF s0 s → mF A0 A → NA A lo m → (∀ s1 A1 m1, MG l 225 2 [(2, aI (nI c)), (0, aR 12 0), (1, aI (nI a))] A none A1 → Rnet (mrg s1 A1) T n m1 lo k → xF s0 s1 → mF A0 A1 → NA A1 lo m1 → Q none s1 τ (rX t) cX lX) → am_G l 27 Q 0 0 9 [(3, aI (nI c)), (2, aR 8 a), (0, aR 3 0), (1, aI (nI a))] [] s τ (rX t) cX lX
  | 0, c, s, A, m, h, hR, hF, hM, hN, hQ => by
    obtain rfl : c = n := by omega
    have h0 := hR.split.1
    have h5 : s 3 0 5 = nI c := h0.2.1.1
    refine am_vc_ok am_k27 [] 100 ?_
    refine And.intro (fun _ => ?_) (fun g => absurd (show s 3 0 5 ≤ nI c by rw [h5]; exact Int32.le_refl _) g)
    refine am_vV am_k27 am_r27 rfl (hQ s A m (mb_end hR) hR hF hM hN)
  | d + 1, c, s, A, m, h, hR, hF, hM, hN, hQ => by
    have h0 := hR.split.1
    have hn := h0.2.1.2.2
    have h5 : s 3 0 5 = nI n := h0.2.1.1
    have h85 : s 8 a 5 = nI (cntN (fun c => decide (A 66 0 c = nI a ∧ A 77 0 c = 1)) n) := (h0.2.2.2.2.2.1 a ha).2.2.2.2.2.2.1
    have h86 : s 8 a 6 = nI (dgM A n a) := (h0.2.2.2.2.2.1 a ha).2.2.2.2.2.2.2
    have h82 : s 8 a 2 = A 62 0 a := (h0.2.2.2.2.2.1 a ha).1
    have hle : cntN (fun c => decide (A 66 0 c = nI a ∧ A 77 0 c = 1)) n ≤ n := cntN_le
    obtain ⟨kR, kO, -⟩ := h0.2.2.1 c (by omega)
    obtain ⟨k0, k1, k2, k3, -, -, k6, -, -, -, -, k12, -, -, -, -, -, -, -⟩ := kR
    have k0 : s 0 c 0 = A 65 0 c := k0
    have k1 : s 0 c 1 = A 66 0 c := k1
    have k3 : s 0 c 3 = A 68 0 c := k3
    have k6 : s 0 c 6 = A 69 0 c := k6
    have k12 : s 0 c 12 = A 77 0 c := k12
    have k4 : s 3 0 4 = A 12 0 5 := h0.1.1.trans h0.1.2.1.symm
    refine am_vc_ok am_k27 [9] 100 ?_
    refine And.intro (fun g => absurd (show nI n ≤ nI c by rw [← h5]; exact g) (nI_ge (b := n) (by omega) (by omega))) (fun _ => ?_)
    refine And.intro (fun g => ?_) (fun g => ?_)
    · have g : s 8 a 5 ≤ 0 := g
      refine am_vV am_k27 am_r27 rfl (hQ s A m ?_ hR hF hM hN)
      refine mb_rest hR ha (d + 1) c h (fun c2 _ h2 e => ?_)
      rw [h85] at g
      have := cntN_none (nI_le0 g (by omega)) c2 h2
      simp [e] at this
    refine And.intro (fun g2 => ?_) (fun g2 => ?_)
    · have g2 : s 8 a 2 ≤ s 8 a 6 := g2
      rw [h82, h86] at g2
      refine am_vV am_k27 am_r27 rfl (hQ s A m (mb_full hR ha g2) hR hF hM hN)
    have g2 : ¬ s 8 a 2 ≤ s 8 a 6 := g2
    rw [h82, h86] at g2
    refine And.intro (vp_in_nI (N := 30) (show c < 30 by omega) (by decide)) ?_
    rw [nI_clamp (n := c) (by omega)]
    have KS : ¬ (A 66 0 c = nI a ∧ A 77 0 c = 1) → am_G l 27 Q 0 0 9 [(3, aI (nI c + 1)), (2, aR 8 a), (0, aR 3 0), (1, aI (nI a))] [] s τ (rX t) cX lX := by
      intro z
      have K := xm_bgn ha d (c + 1) (s := s) (A := A) (by omega) hR hF hM hN (fun s1 A1 m1 q => hQ s1 A1 m1 (mb_skip hR (by omega) ha g2 z q))
      rw [← nI_1] at K
      exact K
    refine And.intro (fun z => ?_) (fun z => ?_)
    rotate_left
    · have z : ¬ s 0 c 1 = nI a := z
      exact KS (fun y => z (k1.trans y.1))
    have z : s 0 c 1 = nI a := z
    refine And.intro (vp_in_nI (N := 30) (show c < 30 by omega) (by decide)) ?_
    rw [nI_clamp (n := c) (by omega)]
    refine And.intro (fun y => ?_) (fun y => ?_)
    rotate_left
    · have y : ¬ s 0 c 12 = 1 := y
      exact KS (fun q => y (k12.trans q.2))
    have y : s 0 c 12 = 1 := y
    have hp : A 77 0 c = 1 := k12.symm.trans y
    have h66 : A 66 0 c = nI a := k1.symm.trans z
    obtain ⟨-, -, ⟨w, hw1, hw2, hw3, -⟩, -⟩ := kO
    have hw3 : A 68 0 c = nI w := hw3
    have e0 : ∀ j, u3 s 8 a 5 (s 8 a 5 - 1) 0 c j = s 0 c j := fun j => rfl
    by_cases hL : A 69 0 c < A 12 0 5 + A 68 0 c
    · have R1 := hR.pl5 (c := c) (b := a) (w := A 68 0 c) (x := s 0 c 1) (y := s 0 c 0) (by omega) h66 ha hp
      have hm2 := R1.m_le
      unfold slt at R1
      rw [← mrg_x (q := 8) rfl, ← mrg_x (q := 0) rfl, ← mrg_m (q := 77) rfl, ← mrg_m (q := 78) rfl, mrg_ssnd] at R1
      have eD : ltM A c m = msend (u3 (u3 A 77 0 c 0) 78 0 c (A 68 0 c)) m 3 (s 0 c 1) (s 0 c 0) (nI c) 6 := by
        unfold ltM
        rw [k1, k0]
      have F1 : xF s0 (xsend (u3 (u3 s 8 a 5 (s 8 a 5 - 1)) 0 c 12 0) m c 3 (s 0 c 1) (s 0 c 0) 6) := by
        repeat (first | exact hF | refine xF.u ?_ rfl)
      have M1 : mF A0 (ltM A c m) := by
        rw [eD]
        repeat (first | exact hM | refine mF.u ?_ rfl)
      have K := xm_bgn ha d (c + 1) (s := xsend (u3 (u3 s 8 a 5 (s 8 a 5 - 1)) 0 c 12 0) m c 3 (s 0 c 1) (s 0 c 0) 6) (A := ltM A c m) (m := m + 1) (by omega) (by rw [eD]; exact R1) F1 M1 (by rw [eD]; exact hN.snd (by decide) rfl) (fun s1 A1 m1 q => hQ s1 A1 m1 (mb_late hR (by omega) ha g2 ⟨h66, hp⟩ hL (by omega) q))
      rw [← nI_1] at K
      refine am_vO am_k27 am_h27 rfl rfl rfl rfl (x_begin_late (s := u3 s 8 a 5 (s 8 a 5 - 1)) (m := m) (show c < 30 by omega) h0.2.2.2.2.2.2.1.1 (by omega) (by rw [e0, e0, k6, k3]; show A 69 0 c < s 3 0 4 + _; rw [k4]; exact hL)) ?_
      refine am_vc_ok am_k27 [9] 100 ?_
      exact K
    · have R1 := hR.pl6 (c := c) (b := a) (g := w) (by omega) h66 ha hw1 hw2 hp
      unfold sbg at R1
      rw [← mrg_x (q := 8) rfl, ← mrg_x (q := 0) rfl, ← mrg_x (q := 0) rfl, ← mrg_x (q := 8) rfl, ← mrg_m (q := 77) rfl, ← mrg_m (q := 78) rfl] at R1
      have eD : bgM A c = u3 (u3 A 77 0 c 2) 78 0 c (nI w) := by
        unfold bgM
        rw [hw3]
      have eX : (u3 (u3 (u3 (u3 s 8 a 5 (s 8 a 5 - 1)) 0 c 12 2) 0 c 13 (nI w)) 8 a 6 (s 8 a 6 + 1)) = (u3 (u3 (u3 (u3 s 8 a 5 (s 8 a 5 - 1)) 0 c 12 2) 0 c 13 ((u3 s 8 a 5 (s 8 a 5 - 1)) 0 c 3)) 8 a 6 ((u3 s 8 a 5 (s 8 a 5 - 1)) 8 a 6 + 1)) := by
        rw [e0, k3, hw3, u3_jj (show 6 ≠ 5 by decide)]
      have F1 : xF s0 (u3 (u3 (u3 (u3 s 8 a 5 (s 8 a 5 - 1)) 0 c 12 2) 0 c 13 (nI w)) 8 a 6 (s 8 a 6 + 1)) := by
        repeat (first | exact hF | refine xF.u ?_ rfl)
      have M1 : mF A0 (bgM A c) := by
        rw [eD]
        repeat (first | exact hM | refine mF.u ?_ rfl)
      have K := xm_bgn ha d (c + 1) (s := u3 (u3 (u3 (u3 s 8 a 5 (s 8 a 5 - 1)) 0 c 12 2) 0 c 13 (nI w)) 8 a 6 (s 8 a 6 + 1)) (A := bgM A c) (m := m) (by omega) (by rw [eD]; exact R1) F1 M1 (by rw [eD]; exact hN.same rfl) (fun s1 A1 m1 q => hQ s1 A1 m1 (mb_on hR (by omega) ha g2 ⟨h66, hp⟩ hL q))
      rw [← nI_1] at K
      refine am_vO am_k27 am_h27 rfl rfl rfl rfl (x_begin_on (s := u3 s 8 a 5 (s 8 a 5 - 1)) (b := a) (show c < 30 by omega) ha z (by rw [e0, e0, k6, k3]; show ¬ A 69 0 c < s 3 0 4 + _; rw [k4]; exact hL)) ?_
      refine am_vc_ok am_k27 [9] 100 ?_
      exact am_Gs eX.symm K
theorem xm_beginWork (ha : a < 6) (hR : Rnet (mrg s A) T n m lo k) (hF : xF s0 s) (hM : mF A0 A) (hN : NA A lo m) : am_T l 27 [aR 3 0, aI (nI a)] s τ t (fun v s1 τ1 t1 => v = none ∧ τ1 = τ ∧ t1 = t ∧ ∃ A1 m1, MD l 225 [aR 12 0, aI (nI a)] A none A1 ∧ Rnet (mrg s1 A1) T n m1 lo k ∧ xF s0 s1 ∧ mF A0 A1 ∧ NA A1 lo m1) := by
  refine am_T_of am_o27 am_l27 rfl ?_
  refine am_vc_ok am_k27 [9] 100 ?_
  refine And.intro (vp_in_nI (N := 6) ha (by decide)) ?_
  rw [nI_clamp (n := a) (by omega)]
  refine xm_bgn ha n 0 (by omega) hR hF hM hN (fun s1 A1 m1 q r f g h => ⟨t, rfl, rfl, rfl, rfl, rfl, rfl, A1, m1, fun σ τ t => ?_, r, f, g, h⟩)
  refine am_D_of am_o225 am_l225 rfl ?_
  refine am_vc_ok am_k225 [2] 100 ?_
  exact q σ τ t
end L86
