/-! ticks: work is done -/
section L85
variable {l : Launch} {σ σ2 s s0 s1 A A0 A1 : tI} {τ τ2 : tL} {t : Option (Nat × Nat)} {T n m lo k c b a : Nat}
/-- no ask among the frames from lo on -/
def NA (A : tI) (lo m : Nat) : Prop := ∀ f, lo ≤ f → f < m → ¬ A 84 0 f = 1
theorem NA.snd {kd x y z d : Int32} (h : NA A lo m) (hk : ¬ kd = 1) (e : A1 84 = A 84) : NA (msend A1 m kd x y z d) lo (m + 1) := by
  intro f h1 h2
  by_cases e2 : f = m
  · subst e2
    simpa [msend, u3] using hk
  · have : msend A1 m kd x y z d 84 0 f = A 84 0 f := by
      rw [← e]
      simp [msend, u3, e2]
    rw [this]
    exact h f h1 (by omega)
theorem NA.same (h : NA A lo m) (e : A1 84 = A 84) : NA A1 lo m := by unfold NA at h ⊢; rw [e]; exact h
def fiX (s : tI) (c b m : Nat) : tI := xsend (u3 (u3 (u3 (u3 s 8 b 6 (s 8 b 6 - 1)) 0 c 12 0) 0 c 14 (s 0 c 14 + (if s 0 c 2 = 2 then 0 else 1))) 0 c 15 (s 3 0 4 + s 8 b 4)) m c 2 (s 0 c 1) (s 0 c 0) 0
theorem x_finish (hc : c < 30) (hb : b < 6) (h1 : s 0 c 1 = nI b) (hm : s 1 0 0 = nI m) (hm2 : m < 690) : am_D l 26 [aR 3 0, aI (nI c)] s τ (rX t) cX lX none (fiX s c b m) τ (rX t) := by
  have f0 : ∀ v w : Int32, (u3 (u3 (u3 (u3 s 8 b 6 (s 8 b 6 - 1)) 0 c 12 0) 0 c 14 v) 0 c 15 w) 0 c 0 = s 0 c 0 := fun v w => by simp [u3]
  have f1 : ∀ v w : Int32, (u3 (u3 (u3 (u3 s 8 b 6 (s 8 b 6 - 1)) 0 c 12 0) 0 c 14 v) 0 c 15 w) 0 c 1 = s 0 c 1 := fun v w => by simp [u3]
  have f2 : (u3 (u3 s 8 b 6 (s 8 b 6 - 1)) 0 c 12 0) 0 c 2 = s 0 c 2 := by simp [u3]
  have f14 : (u3 (u3 s 8 b 6 (s 8 b 6 - 1)) 0 c 12 0) 0 c 14 = s 0 c 14 := by simp [u3]
  have f4 : ∀ v : Int32, (u3 (u3 (u3 s 8 b 6 (s 8 b 6 - 1)) 0 c 12 0) 0 c 14 v) 3 0 4 = s 3 0 4 := fun v => rfl
  have f84 : ∀ v : Int32, (u3 (u3 (u3 s 8 b 6 (s 8 b 6 - 1)) 0 c 12 0) 0 c 14 v) 8 b 4 = s 8 b 4 := fun v => by simp [u3]
  unfold fiX
  refine am_D_of am_o26 am_l26 rfl ?_
  refine am_vc_ok am_k26 [] 100 ?_
  refine And.intro (vp_in_nI (N := 30) hc (by decide)) ?_
  rw [nI_clamp (n := c) (by omega)]
  refine And.intro (by rw [h1]; exact vp_in_nI (N := 6) hb (by decide)) ?_
  rw [h1, nI_clamp (n := b) (by omega)]
  refine And.intro (fun z => ?_) (fun z => ?_)
  · have z : s 0 c 2 = 2 := f2.symm.trans z
    rw [if_pos z]
    refine am_vO am_k26 am_h26 rfl rfl rfl rfl (x_nsend2 (m := m) hc (by simp [u3, hm]) hm2) ?_
    refine am_vc_ok am_k26 [] 100 ?_
    refine am_vV am_k26 am_r26 rfl ⟨rfl, ?_, rfl, rfl, rfl, rfl⟩
    rw [f0, f1, f4, f84, f14, h1]
  · have z : ¬ s 0 c 2 = 2 := fun y => z (f2.trans y)
    rw [if_neg z]
    refine am_vO am_k26 am_h26 rfl rfl rfl rfl (x_nsend2 (m := m) hc (by simp [u3, hm]) hm2) ?_
    refine am_vc_ok am_k26 [] 100 ?_
    refine am_vV am_k26 am_r26 rfl ⟨rfl, ?_, rfl, rfl, rfl, rfl⟩
    rw [f0, f1, f4, f84, f14, h1]
theorem m_dw_skip {Q : tQ} (hc : c < n) (hn : σ 12 0 34 = nI n) (hn2 : n ≤ 30) (h : ¬ (σ 66 0 c = nI a ∧ σ 77 0 c = 2)) (K : am_G l 224 Q 0 0 2 [(2, aI (nI (c + 1))), (0, aR 12 0), (1, aI (nI a))] [] σ τ (rX t) cX lX) : am_G l 224 Q 0 0 2 [(2, aI (nI c)), (0, aR 12 0), (1, aI (nI a))] [] σ τ (rX t) cX lX := by
  rw [← nI_1] at K
  refine am_vc_ok am_k224 [2] 100 ?_
  refine And.intro (fun g => absurd (show nI n ≤ nI c by rw [← hn]; exact g) (nI_ge (b := n) (by omega) (by omega))) (fun _ => ?_)
  refine And.intro (vp_in_nI (N := 30) (show c < 30 by omega) (by decide)) ?_
  rw [nI_clamp (n := c) (by omega)]
  refine And.intro (fun z => ?_) (fun z => K)
  have z : σ 66 0 c = nI a := z
  refine And.intro (vp_in_nI (N := 30) (show c < 30 by omega) (by decide)) ?_
  rw [nI_clamp (n := c) (by omega)]
  exact And.intro (fun y => absurd ⟨z, y⟩ h) (fun _ => K)
theorem m_dw_work {Q : tQ} {g : Nat} (hc : c < n) (hn : σ 12 0 34 = nI n) (hn2 : n ≤ 30) (h : σ 66 0 c = nI a ∧ σ 77 0 c = 2) (hg : σ 78 0 c = nI (g + 1)) (hg1 : 1 ≤ g) (hg2 : g ≤ 9) (K : am_G l 224 Q 0 0 2 [(2, aI (nI (c + 1))), (0, aR 12 0), (1, aI (nI a))] [] (u3 σ 78 0 c (nI g)) τ (rX t) cX lX) : am_G l 224 Q 0 0 2 [(2, aI (nI c)), (0, aR 12 0), (1, aI (nI a))] [] σ τ (rX t) cX lX := by
  rw [← nI_1] at K
  have e1 : σ 78 0 c - 1 = nI g := by rw [hg, nI_pred]
  refine am_vc_ok am_k224 [2] 100 ?_
  refine And.intro (fun g => absurd (show nI n ≤ nI c by rw [← hn]; exact g) (nI_ge (b := n) (by omega) (by omega))) (fun _ => ?_)
  refine And.intro (vp_in_nI (N := 30) (show c < 30 by omega) (by decide)) ?_
  rw [nI_clamp (n := c) (by omega)]
  refine And.intro (fun _ => ?_) (fun z => absurd h.1 z)
  refine And.intro (vp_in_nI (N := 30) (show c < 30 by omega) (by decide)) ?_
  rw [nI_clamp (n := c) (by omega)]
  refine And.intro (fun _ => ?_) (fun z => absurd h.2 z)
  refine And.intro (vp_in_nI (N := 30) (show c < 30 by omega) (by decide)) ?_
  refine And.intro (vp_in_nI (N := 30) (show c < 30 by omega) (by decide)) ?_
  rw [nI_clamp (n := c) (by omega), e1]
  refine And.intro (vp_in_nI (N := 30) (show c < 30 by omega) (by decide)) ?_
  rw [nI_clamp (n := c) (by omega), u3_eq]
  exact And.intro (fun z => absurd ((nI_eq (b := 0) (by omega) (by decide)).mp z) (by omega)) (fun _ => K)
def dnM (A : tI) (c a m : Nat) : tI := msend (u3 (u3 (u3 (u3 A 78 0 c 0) 77 0 c 0) 73 0 c (A 73 0 c + (if A 67 0 c = 2 then 0 else 1))) 79 0 c (A 12 0 5 + A 64 0 a)) m 2 (A 66 0 c) (A 65 0 c) (nI c) 0
theorem m_dw_done {Q : tQ} (hc : c < n) (hn : σ 12 0 34 = nI n) (hn2 : n ≤ 30) (h : σ 66 0 c = nI a ∧ σ 77 0 c = 2) (hg : σ 78 0 c = 1) (ha : a < 6) (hm : σ 12 0 54 = nI m) (hm2 : m < 690) (K : am_G l 224 Q 0 0 2 [(2, aI (nI (c + 1))), (0, aR 12 0), (1, aI (nI a))] [] (dnM σ c a m) τ (rX t) cX lX) : am_G l 224 Q 0 0 2 [(2, aI (nI c)), (0, aR 12 0), (1, aI (nI a))] [] σ τ (rX t) cX lX := by
  rw [← nI_1] at K
  unfold dnM at K
  have e1 : σ 78 0 c - 1 = 0 := by rw [hg]; decide
  have f73 : (u3 (u3 σ 78 0 c 0) 77 0 c 0) 73 0 c = σ 73 0 c := rfl
  refine am_vc_ok am_k224 [2] 100 ?_
  refine And.intro (fun g => absurd (show nI n ≤ nI c by rw [← hn]; exact g) (nI_ge (b := n) (by omega) (by omega))) (fun _ => ?_)
  refine And.intro (vp_in_nI (N := 30) (show c < 30 by omega) (by decide)) ?_
  rw [nI_clamp (n := c) (by omega)]
  refine And.intro (fun _ => ?_) (fun z => absurd h.1 z)
  refine And.intro (vp_in_nI (N := 30) (show c < 30 by omega) (by decide)) ?_
  rw [nI_clamp (n := c) (by omega)]
  refine And.intro (fun _ => ?_) (fun z => absurd h.2 z)
  refine And.intro (vp_in_nI (N := 30) (show c < 30 by omega) (by decide)) ?_
  refine And.intro (vp_in_nI (N := 30) (show c < 30 by omega) (by decide)) ?_
  rw [nI_clamp (n := c) (by omega), e1]
  refine And.intro (vp_in_nI (N := 30) (show c < 30 by omega) (by decide)) ?_
  rw [nI_clamp (n := c) (by omega), u3_eq]
  refine And.intro (fun _ => ?_) (fun z => absurd rfl z)
  refine And.intro (vp_in_nI (N := 30) (show c < 30 by omega) (by decide)) ?_
  rw [nI_clamp (n := c) (by omega)]
  refine And.intro (vp_in_nI (N := 30) (show c < 30 by omega) (by decide)) ?_
  rw [nI_clamp (n := c) (by omega)]
  refine And.intro (vp_in_nI (N := 30) (show c < 30 by omega) (by decide)) ?_
  rw [nI_clamp (n := c) (by omega)]
  refine And.intro (fun z => ?_) (fun z => ?_)
  · have z : σ 67 0 c = 2 := z
    rw [if_pos z] at K
    refine And.intro (vp_in_nI (N := 30) (show c < 30 by omega) (by decide)) ?_
    refine And.intro (vp_in_nI (N := 6) ha (by decide)) ?_
    refine And.intro (vp_in_nI (N := 30) (show c < 30 by omega) (by decide)) ?_
    rw [nI_clamp (n := c) (by omega), nI_clamp (n := a) (by omega)]
    refine am_vO am_k224 am_h224 rfl rfl rfl rfl (m_sendBack (m := m) (show c < 30 by omega) (by simp [u3, hm]) hm2) ?_
    refine am_vc_ok am_k224 [2] 100 ?_
    exact K
  · have z : ¬ σ 67 0 c = 2 := z
    rw [if_neg z] at K
    refine And.intro (vp_in_nI (N := 30) (show c < 30 by omega) (by decide)) ?_
    refine And.intro (vp_in_nI (N := 6) ha (by decide)) ?_
    refine And.intro (vp_in_nI (N := 30) (show c < 30 by omega) (by decide)) ?_
    rw [nI_clamp (n := c) (by omega), nI_clamp (n := a) (by omega)]
    refine am_vO am_k224 am_h224 rfl rfl rfl rfl (m_sendBack (m := m) (show c < 30 by omega) (by simp [u3, hm]) hm2) ?_
    refine am_vc_ok am_k224 [2] 100 ?_
    exact K
theorem mrg_dnM : dnM (mrg s A) c a m = mrg s (dnM A c a m) := by
  unfold dnM
  rw [← mrg_msend, mrg_m rfl, mrg_m rfl, mrg_m rfl, mrg_m rfl]
  rfl
theorem mw_skip (hR : Rnet (mrg s A) T n m lo k) (hc : c < n) (h : ¬ (A 66 0 c = nI a ∧ A 77 0 c = 2)) (K : MG l 224 2 [(2, aI (nI (c + 1))), (0, aR 12 0), (1, aI (nI a))] A none A1) : MG l 224 2 [(2, aI (nI c)), (0, aR 12 0), (1, aI (nI a))] A none A1 := fun σ τ t => m_dw_skip hc hR.split.1.2.1.2.1 hR.split.1.2.1.2.2 h (K σ τ t)
theorem mw_work {g : Nat} (hR : Rnet (mrg s A) T n m lo k) (hc : c < n) (h : A 66 0 c = nI a ∧ A 77 0 c = 2) (hg : A 78 0 c = nI (g + 1)) (hg1 : 1 ≤ g) (hg2 : g ≤ 9) (K : MG l 224 2 [(2, aI (nI (c + 1))), (0, aR 12 0), (1, aI (nI a))] (u3 A 78 0 c (nI g)) none A1) : MG l 224 2 [(2, aI (nI c)), (0, aR 12 0), (1, aI (nI a))] A none A1 := fun σ τ t => m_dw_work hc hR.split.1.2.1.2.1 hR.split.1.2.1.2.2 h hg hg1 hg2 (am_Gs (mrg_m rfl).symm (K σ τ t))
theorem mw_done (hR : Rnet (mrg s A) T n m lo k) (hc : c < n) (h : A 66 0 c = nI a ∧ A 77 0 c = 2) (hg : A 78 0 c = 1) (ha : a < 6) (hm2 : m < 690) (K : MG l 224 2 [(2, aI (nI (c + 1))), (0, aR 12 0), (1, aI (nI a))] (dnM A c a m) none A1) : MG l 224 2 [(2, aI (nI c)), (0, aR 12 0), (1, aI (nI a))] A none A1 := fun σ τ t => m_dw_done hc hR.split.1.2.1.2.1 hR.split.1.2.1.2.2 h hg ha hR.split.1.2.2.2.2.2.2.1.2 hm2 (am_Gs mrg_dnM (K σ τ t))
theorem mw_end (hn : A 12 0 34 = nI n) : MG l 224 2 [(2, aI (nI n)), (0, aR 12 0), (1, aI (nI a))] A none A := by
  intro σ τ t
  refine am_vc_ok am_k224 [2] 100 ?_
  refine And.intro (fun _ => ?_) (fun g => absurd (show A 12 0 34 ≤ nI n by rw [hn]; exact Int32.le_refl _) g)
  exact am_vV am_k224 am_r224 rfl ⟨rfl, rfl, rfl, rfl, rfl, rfl⟩
theorem mw_rest (hR : Rnet (mrg s A) T n m lo k) : ∀ (d c : Nat), c + d = n → (∀ c2, c ≤ c2 → c2 < n → ¬ (A 66 0 c2 = nI a ∧ A 77 0 c2 = 2)) → MG l 224 2 [(2, aI (nI c)), (0, aR 12 0), (1, aI (nI a))] A none A
  | 0, c, h, _ => by
    obtain rfl : c = n := by omega
    exact mw_end hR.split.1.2.1.2.1
  | d + 1, c, h, hz => mw_skip hR (by omega) (hz c (Nat.le_refl _) (by omega)) (mw_rest hR d (c + 1) (by omega) (fun c2 h1 h2 => hz c2 (by omega) h2))
theorem nI_le0 {x : Nat} (h : nI x ≤ 0) (hx : x ≤ 2000) : x = 0 := by
  by_cases e : x = 0
  · exact e
  · exact absurd (show nI x ≤ nI 0 from h) (nI_ge (b := x) (by omega) (by omega))
theorem xm_work {Q : tQ} (ha : a < 6) : ∀ (d c : Nat) {s A : tI} {m : Nat}, c + d = n → Rnet (mrg s A) T n m lo k → xF s0 s → mF A0 A → NA A lo m → (∀ s1 A1 m1, MG l 224 2 [(2, aI (nI c)), (0, aR 12 0), (1, aI (nI a))] A none A1 → Rnet (mrg s1 A1) T n m1 lo k → xF s0 s1 → mF A0 A1 → NA A1 lo m1 → Q none s1 τ (rX t) cX lX) → am_G l 25 Q 0 0 2 [(2, aI (nI c)), (0, aR 3 0), (1, aI (nI a))] [] s τ (rX t) cX lX
  | 0, c, s, A, m, h, hR, hF, hM, hN, hQ => by
    obtain rfl : c = n := by omega
    have h0 := hR.split.1
    have h5 : s 3 0 5 = nI c := h0.2.1.1
    refine am_vc_ok am_k25 [] 100 ?_
    refine And.intro (fun _ => ?_) (fun g => absurd (show s 3 0 5 ≤ nI c by rw [h5]; exact Int32.le_refl _) g)
    refine am_vV am_k25 am_r25 rfl (hQ s A m (mw_end h0.2.1.2.1) hR hF hM hN)
  | d + 1, c, s, A, m, h, hR, hF, hM, hN, hQ => by
    have h0 := hR.split.1
    have hn := h0.2.1.2.2
    have h5 : s 3 0 5 = nI n := h0.2.1.1
    have h6 : s 8 a 6 = nI (cntN (fun c => decide (A 66 0 c = nI a ∧ A 77 0 c = 2)) n) := (h0.2.2.2.2.2.1 a ha).2.2.2.2.2.2.2
    have hle : cntN (fun c => decide (A 66 0 c = nI a ∧ A 77 0 c = 2)) n ≤ n := cntN_le
    obtain ⟨kR, kO, -⟩ := h0.2.2.1 c (by omega)
    obtain ⟨k0, k1, k2, -, -, -, -, -, -, -, -, k12, k14, k15, -, -, -, k13, -⟩ := kR
    have k0 : s 0 c 0 = A 65 0 c := k0
    have k1 : s 0 c 1 = A 66 0 c := k1
    have k2 : s 0 c 2 = A 67 0 c := k2
    have k12 : s 0 c 12 = A 77 0 c := k12
    have k14 : s 0 c 14 = A 73 0 c := k14
    have k4 : s 3 0 4 = A 12 0 5 := h0.1.1.trans h0.1.2.1.symm
    have k84 : s 8 a 4 = A 64 0 a := (h0.2.2.2.2.2.1 a ha).2.2.1
    refine am_vc_ok am_k25 [2] 100 ?_
    refine And.intro (fun g => absurd (show nI n ≤ nI c by rw [← h5]; exact g) (nI_ge (b := n) (by omega) (by omega))) (fun _ => ?_)
    refine And.intro (vp_in_nI (N := 6) ha (by decide)) ?_
    rw [nI_clamp (n := a) (by omega)]
    refine And.intro (fun g => ?_) (fun g => ?_)
    · have g : s 8 a 6 ≤ 0 := g
      refine am_vV am_k25 am_r25 rfl (hQ s A m ?_ hR hF hM hN)
      refine mw_rest hR (d + 1) c h (fun c2 _ h2 e => ?_)
      rw [h6] at g
      have := cntN_none (nI_le0 g (by omega)) c2 h2
      simp [e] at this
    · refine And.intro (vp_in_nI (N := 30) (show c < 30 by omega) (by decide)) ?_
      rw [nI_clamp (n := c) (by omega)]
      have KS : ¬ (A 66 0 c = nI a ∧ A 77 0 c = 2) → am_G l 25 Q 0 0 2 [(2, aI (nI c + 1)), (0, aR 3 0), (1, aI (nI a))] [] s τ (rX t) cX lX := by
        intro z
        have K := xm_work ha d (c + 1) (s := s) (A := A) (by omega) hR hF hM hN (fun s1 A1 m1 q => hQ s1 A1 m1 (mw_skip hR (by omega) z q))
        rw [← nI_1] at K
        exact K
      refine And.intro (fun z => ?_) (fun z => ?_)
      rotate_left
      · have z : ¬ s 0 c 1 = nI a := z
        exact am_Gp [0, 2, 3] rfl (KS (fun y => z (k1.trans y.1)))
      have z : s 0 c 1 = nI a := z
      refine And.intro (fun y => ?_) (fun y => ?_)
      rotate_left
      · have y : ¬ s 0 c 12 = 2 := y
        exact am_Gp [0, 2, 3] rfl (KS (fun q => y (k12.trans q.2)))
      have y : s 0 c 12 = 2 := y
      have hp : A 77 0 c = 2 := k12.symm.trans y
      have h66 : A 66 0 c = nI a := k1.symm.trans z
      have k13 : s 0 c 13 = A 78 0 c := k13 hp
      obtain ⟨-, -, ⟨w, -, -, -, hg⟩, -⟩ := kO
      obtain ⟨g1, hg1, hg2, hg3⟩ := hg hp
      have hg3 : A 78 0 c = nI g1 := hg3
      obtain ⟨g, rfl⟩ : ∃ g, g1 = g + 1 := ⟨g1 - 1, by omega⟩
      have e13 : s 0 c 13 - 1 = nI g := by rw [k13, hg3, nI_pred]
      refine And.intro (fun q => ?_) (fun q => ?_)
      · have q : 0 < nI g := by simpa [u3, e13] using q
        have hg0 : 1 ≤ g := by
          by_cases e : g = 0
          · subst e; exact absurd q (by decide)
          · omega
        have R1 := hR.pl3 (c := c) (g := g) (by omega) hg0 (by omega) hp
        unfold swk at R1
        rw [← mrg_x (q := 0) rfl, ← mrg_m (q := 78) rfl] at R1
        have K := xm_work ha d (c + 1) (s := u3 s 0 c 13 (nI g)) (A := u3 A 78 0 c (nI g)) (by omega) R1 (hF.u rfl) (hM.u rfl) (hN.same rfl) (fun s1 A1 m1 q => hQ s1 A1 m1 (mw_work hR (by omega) ⟨h66, hp⟩ hg3 hg0 (by omega) q))
        rw [← nI_1] at K
        exact am_Gp [0, 2, 3] rfl (am_Gs (by rw [e13]) K)
      · have q : ¬ 0 < nI g := by simpa [u3, e13] using q
        have hg0 : g = 0 := by
          by_cases e : g = 0
          · exact e
          · exact absurd (show nI 0 < nI g from nI_lt (by omega) (by omega)) q
        subst hg0
        have R1 := hR.pl4 (c := c) (b := a) (e := s 0 c 14 + (if s 0 c 2 = 2 then 0 else 1)) (w := s 3 0 4 + s 8 a 4) (x := s 0 c 1) (y := s 0 c 0) (by omega) h66 ha hp
        have hm2 := R1.m_le
        unfold sdn at R1
        rw [← mrg_x (q := 0) rfl, ← mrg_x (q := 8) rfl, ← mrg_x (q := 0) rfl, ← mrg_x (q := 0) rfl, ← mrg_x (q := 0) rfl, ← mrg_m (q := 78) rfl, ← mrg_m (q := 77) rfl, ← mrg_m (q := 73) rfl, ← mrg_m (q := 79) rfl, mrg_ssnd] at R1
        have e0 : ∀ j, j ≠ 13 → u3 s 0 c 13 (nI 0) 0 c j = s 0 c j := fun j hj => by simp [u3, hj]
        have eX : fiX (u3 s 0 c 13 (nI 0)) c a m = xsend (u3 (u3 (u3 (u3 (u3 s 0 c 13 (nI 0)) 8 a 6 (s 8 a 6 - 1)) 0 c 12 0) 0 c 14 (s 0 c 14 + (if s 0 c 2 = 2 then 0 else 1))) 0 c 15 (s 3 0 4 + s 8 a 4)) m c 2 (s 0 c 1) (s 0 c 0) 0 := by
          unfold fiX
          rw [e0 14 (by decide), e0 2 (by decide), e0 1 (by decide), e0 0 (by decide)]
          rfl
        have eD : dnM A c a m = msend (u3 (u3 (u3 (u3 A 78 0 c 0) 77 0 c 0) 73 0 c (s 0 c 14 + (if s 0 c 2 = 2 then 0 else 1))) 79 0 c (s 3 0 4 + s 8 a 4)) m 2 (s 0 c 1) (s 0 c 0) (nI c) 0 := by
          unfold dnM
          rw [k14, k2, k4, k84, k1, k0]
        have F1 : xF s0 (fiX (u3 s 0 c 13 (nI 0)) c a m) := by
          rw [eX]
          repeat (first | exact hF | refine xF.u ?_ rfl)
        have M1 : mF A0 (dnM A c a m) := by
          rw [eD]
          repeat (first | exact hM | refine mF.u ?_ rfl)
        refine am_vO am_k25 am_h25 rfl rfl rfl rfl (x_finish (b := a) (m := m) (show c < 30 by omega) ha (by rw [e13, e0 1 (by decide)]; exact z) (by show s 1 0 0 = nI m; exact h0.2.2.2.2.2.2.1.1) (by omega)) ?_
        refine am_vc_ok am_k25 [2] 100 ?_
        have K := xm_work ha d (c + 1) (s := fiX (u3 s 0 c 13 (nI 0)) c a m) (A := dnM A c a m) (m := m + 1) (by omega) (by rw [eX, eD]; exact R1) F1 M1 (by rw [eD]; exact hN.snd (by decide) rfl) (fun s1 A1 m1 q => hQ s1 A1 m1 (mw_done hR (by omega) ⟨h66, hp⟩ hg3 ha (by omega) q))
        rw [← nI_1] at K
        exact am_Gp [0, 2, 3] rfl (am_Gs (by rw [e13]) K)
theorem xm_finishWork (ha : a < 6) (hR : Rnet (mrg s A) T n m lo k) (hF : xF s0 s) (hM : mF A0 A) (hN : NA A lo m) : am_T l 25 [aR 3 0, aI (nI a)] s τ t (fun v s1 τ1 t1 => v = none ∧ τ1 = τ ∧ t1 = t ∧ ∃ A1 m1, MD l 224 [aR 12 0, aI (nI a)] A none A1 ∧ Rnet (mrg s1 A1) T n m1 lo k ∧ xF s0 s1 ∧ mF A0 A1 ∧ NA A1 lo m1) := by
  refine am_T_of am_o25 am_l25 rfl ?_
  refine am_vc_ok am_k25 [2] 100 ?_
  refine xm_work ha n 0 (by omega) hR hF hM hN (fun s1 A1 m1 q r f g h => ⟨t, rfl, rfl, rfl, rfl, rfl, rfl, A1, m1, fun σ τ t => ?_, r, f, g, h⟩)
  refine am_D_of am_o224 am_l224 rfl ?_
  refine am_vc_ok am_k224 [2] 100 ?_
  exact q σ τ t
end L85
