/-! ticks: frames come -/
section L92
variable {l : Launch} {σ σ2 s s0 s1 sd A A0 A1 A2 : tI} {τ τ2 : tL} {t : Option (Nat × Nat)} {T n m m0 lo k c b f w : Nat} {r : Int32}
theorem x_dl_ping {Q : tQ} (hf : f < m0) (hm : m0 ≤ 690) (h19 : s 19 0 f = -9) (K : ∀ cl, am_G l 21 Q 0 0 62 [(4, aI cl), (3, aI (nI f)), (2, aI (nI m0)), (1, aI r), (0, aR 3 0)] [] s τ (rX t) cX lX) : am_G l 21 Q 0 0 18 [(3, aI (nI f)), (2, aI (nI m0)), (1, aI r), (0, aR 3 0)] [] s τ (rX t) cX lX := by
  refine am_vc_ok am_k21 [18, 62, 144] 100 ?_
  refine And.intro (fun g => absurd g (nI_ge (b := m0) (by omega) (by omega))) (fun _ => ?_)
  refine And.intro (vp_in_nI (N := 690) (show f < 690 by omega) (by decide)) ?_
  rw [nI_clamp (n := f) (by omega), h19]
  refine am_vS am_k21 am_h21 rfl rfl rfl rfl (x_within) ?_
  refine am_vc_ok am_k21 [18, 62, 144] 100 ?_
  exact And.intro (fun _ => K _) (fun g => absurd (bI_1.mp g).1 (by decide))
theorem x_dl_call {Q : tQ} (hf : f < m0) (hm : m0 ≤ 690) (h19 : s 19 0 f = nI c) (hn : s 3 0 5 = nI n) (hn2 : n ≤ 30) (hc : c < n) (K : ∀ cl, am_G l 21 Q 0 0 62 [(4, aI cl), (3, aI (nI f)), (2, aI (nI m0)), (1, aI r), (0, aR 3 0)] [] (u3 s 0 c 11 (s 0 c 11 - 1)) τ (rX t) cX lX) : am_G l 21 Q 0 0 18 [(3, aI (nI f)), (2, aI (nI m0)), (1, aI r), (0, aR 3 0)] [] s τ (rX t) cX lX := by
  refine am_vc_ok am_k21 [18, 62, 144] 100 ?_
  refine And.intro (fun g => absurd g (nI_ge (b := m0) (by omega) (by omega))) (fun _ => ?_)
  refine And.intro (vp_in_nI (N := 690) (show f < 690 by omega) (by decide)) ?_
  rw [nI_clamp (n := f) (by omega), h19]
  refine am_vS am_k21 am_h21 rfl rfl rfl rfl (x_within) ?_
  refine am_vc_ok am_k21 [18, 62, 144] 100 ?_
  refine And.intro (fun g => absurd (by rw [hn]; exact inN hc (by omega)) (bI_0.mp g)) (fun _ => ?_)
  refine And.intro (vp_in_nI (N := 30) (show c < 30 by omega) (by decide)) ?_
  rw [nI_clamp (n := c) (by omega)]
  exact K _
theorem x_dl_b {Q : tQ} {cl : Int32} (hf : f < 690) (hk : sd 2 0 0 = nI k) (hk2 : k ≤ 20) (hB : ¬ bkX sd (lineI (sd 15 0 f) (sd 16 0 f)) (sd 3 0 4) k = 0) (K : am_G l 21 Q 0 0 18 [(3, aI (nI (f + 1))), (2, aI (nI m0)), (1, aI r), (0, aR 3 0)] [] (u3 (u3 sd 18 0 f 2) 1 0 1 (sd 1 0 1 + 1)) τ (rX t) cX lX) : am_G l 21 Q 0 0 62 [(4, aI cl), (3, aI (nI f)), (2, aI (nI m0)), (1, aI r), (0, aR 3 0)] [] sd τ (rX t) cX lX := by
  have ib := x_isBroken (l := l) (s := sd) (τ := τ) (t := t) (a := sd 15 0 f) (b := sd 16 0 f) (T := sd 3 0 4) hk hk2
  rw [bI_t hB] at ib
  rw [← nI_1] at K
  refine am_vc_ok am_k21 [18, 144] 100 ?_
  refine And.intro (vp_in_nI (N := 690) hf (by decide)) ?_
  rw [nI_clamp (n := f) (by omega)]
  refine And.intro (vp_in_nI (N := 690) hf (by decide)) ?_
  rw [nI_clamp (n := f) (by omega)]
  refine am_vO am_k21 am_h21 rfl rfl rfl rfl (ib) ?_
  refine am_vc_ok am_k21 [18, 144] 100 ?_
  refine And.intro (fun g => absurd g (by decide)) (fun _ => ?_)
  refine And.intro (vp_in_nI (N := 690) hf (by decide)) ?_
  rw [nI_clamp (n := f) (by omega)]
  exact am_Gp [0, 2, 3, 4] rfl K
theorem x_dl_t {Q : tQ} {cl : Int32} (hf : f < 690) (hk : sd 2 0 0 = nI k) (hk2 : k ≤ 20) (hB : bkX sd (lineI (sd 15 0 f) (sd 16 0 f)) (sd 3 0 4) k = 0) (hD : am_D l 22 [aR 3 0, aI (nI f)] (u3 sd 18 0 f 1) τ (rX t) cX lX none s1 τ (rX t)) (K : am_G l 21 Q 0 0 18 [(3, aI (nI (f + 1))), (2, aI (nI m0)), (1, aI (r + 1)), (0, aR 3 0)] [] s1 τ (rX t) cX lX) : am_G l 21 Q 0 0 62 [(4, aI cl), (3, aI (nI f)), (2, aI (nI m0)), (1, aI r), (0, aR 3 0)] [] sd τ (rX t) cX lX := by
  have ib := x_isBroken (l := l) (s := sd) (τ := τ) (t := t) (a := sd 15 0 f) (b := sd 16 0 f) (T := sd 3 0 4) hk hk2
  rw [bI_f (fun z => z hB)] at ib
  rw [← nI_1] at K
  refine am_vc_ok am_k21 [18, 144] 100 ?_
  refine And.intro (vp_in_nI (N := 690) hf (by decide)) ?_
  rw [nI_clamp (n := f) (by omega)]
  refine And.intro (vp_in_nI (N := 690) hf (by decide)) ?_
  rw [nI_clamp (n := f) (by omega)]
  refine am_vO am_k21 am_h21 rfl rfl rfl rfl (ib) ?_
  refine am_vc_ok am_k21 [18, 144] 100 ?_
  refine And.intro (fun _ => ?_) (fun g => absurd rfl g)
  refine And.intro (vp_in_nI (N := 690) hf (by decide)) ?_
  rw [nI_clamp (n := f) (by omega)]
  refine am_vO am_k21 am_h21 rfl rfl rfl rfl (hD) ?_
  refine am_vc_ok am_k21 [18, 144] 100 ?_
  exact am_Gp [0, 3, 1, 4] rfl K
variable {x : Option am_V}
theorem ml_skip (hf : f < m0) (hm : m0 ≤ 690) (h : ¬ A 88 0 f = 0) (K : MG l 228 23 [(3, aI (nI (f + 1))), (2, aI (nI m0)), (1, aI r), (0, aR 12 0)] A x A2) : MG l 228 23 [(3, aI (nI f)), (2, aI (nI m0)), (1, aI r), (0, aR 12 0)] A x A2 := by
  intro σ τ t
  have K := K σ τ t
  rw [← nI_1] at K
  refine am_vc_ok am_k228 [23, 90] 100 ?_
  refine And.intro (fun g => absurd g (nI_ge (b := m0) (by omega) (by omega))) (fun _ => ?_)
  refine And.intro (vp_in_nI (N := 1200) (show f < 1200 by omega) (by decide)) ?_
  rw [nI_clamp (n := f) (by omega)]
  exact And.intro (fun g => absurd g h) (fun _ => K)
theorem ml_b (hf : f < m0) (hm : m0 ≤ 690) (h : A 88 0 f = 0) (hk : A 12 0 64 = nI k) (hk2 : k ≤ 20) (hB : ¬ bkM A (lineI (A 85 0 f) (A 86 0 f)) (A 12 0 5) k = 0) (K : MG l 228 23 [(3, aI (nI (f + 1))), (2, aI (nI m0)), (1, aI r), (0, aR 12 0)] (u3 A 88 0 f 2) x A2) : MG l 228 23 [(3, aI (nI f)), (2, aI (nI m0)), (1, aI r), (0, aR 12 0)] A x A2 := by
  intro σ τ t
  have ib := m_isBroken (l := l) (s := mrg σ A) (τ := τ) (t := t) (a := A 85 0 f) (b := A 86 0 f) (k := k) hk hk2
  rw [bI_t (show ¬ bkM (mrg σ A) (lineI (A 85 0 f) (A 86 0 f)) (mrg σ A 12 0 5) k = 0 from hB)] at ib
  have K := K σ τ t
  rw [← nI_1, mrg_m rfl] at K
  refine am_vc_ok am_k228 [23, 90] 100 ?_
  refine And.intro (fun g => absurd g (nI_ge (b := m0) (by omega) (by omega))) (fun _ => ?_)
  refine And.intro (vp_in_nI (N := 1200) (show f < 1200 by omega) (by decide)) ?_
  rw [nI_clamp (n := f) (by omega)]
  refine And.intro (fun _ => ?_) (fun g => absurd h g)
  refine And.intro (vp_in_nI (N := 1200) (show f < 1200 by omega) (by decide)) ?_
  rw [nI_clamp (n := f) (by omega)]
  refine And.intro (vp_in_nI (N := 1200) (show f < 1200 by omega) (by decide)) ?_
  rw [nI_clamp (n := f) (by omega)]
  refine am_vO am_k228 am_h228 rfl rfl rfl rfl (ib) ?_
  refine am_vc_ok am_k228 [23, 90] 100 ?_
  refine And.intro (fun g => absurd g (by decide)) (fun _ => ?_)
  refine And.intro (vp_in_nI (N := 1200) (show f < 1200 by omega) (by decide)) ?_
  rw [nI_clamp (n := f) (by omega)]
  refine And.intro (fun g => absurd g (by decide)) (fun _ => ?_)
  exact am_Gp [0, 2, 3, 4] rfl K
theorem ml_t (hf : f < m0) (hm : m0 ≤ 690) (h : A 88 0 f = 0) (hk : A 12 0 64 = nI k) (hk2 : k ≤ 20) (hB : bkM A (lineI (A 85 0 f) (A 86 0 f)) (A 12 0 5) k = 0) (hD : MD l 223 [aR 12 0, aI (nI f)] (u3 A 88 0 f 1) none A1) (K : MG l 228 23 [(3, aI (nI (f + 1))), (2, aI (nI m0)), (1, aI (r + 1)), (0, aR 12 0)] A1 x A2) : MG l 228 23 [(3, aI (nI f)), (2, aI (nI m0)), (1, aI r), (0, aR 12 0)] A x A2 := by
  intro σ τ t
  have ib := m_isBroken (l := l) (s := mrg σ A) (τ := τ) (t := t) (a := A 85 0 f) (b := A 86 0 f) (k := k) hk hk2
  rw [bI_f (show ¬ ¬ bkM (mrg σ A) (lineI (A 85 0 f) (A 86 0 f)) (mrg σ A 12 0 5) k = 0 from fun z => z hB)] at ib
  have K := K σ τ t
  rw [← nI_1] at K
  have hD := hD σ τ t
  rw [mrg_m rfl] at hD
  refine am_vc_ok am_k228 [23, 90] 100 ?_
  refine And.intro (fun g => absurd g (nI_ge (b := m0) (by omega) (by omega))) (fun _ => ?_)
  refine And.intro (vp_in_nI (N := 1200) (show f < 1200 by omega) (by decide)) ?_
  rw [nI_clamp (n := f) (by omega)]
  refine And.intro (fun _ => ?_) (fun g => absurd h g)
  refine And.intro (vp_in_nI (N := 1200) (show f < 1200 by omega) (by decide)) ?_
  rw [nI_clamp (n := f) (by omega)]
  refine And.intro (vp_in_nI (N := 1200) (show f < 1200 by omega) (by decide)) ?_
  rw [nI_clamp (n := f) (by omega)]
  refine am_vO am_k228 am_h228 rfl rfl rfl rfl (ib) ?_
  refine am_vc_ok am_k228 [23, 90] 100 ?_
  refine And.intro (fun _ => ?_) (fun g => absurd rfl g)
  refine And.intro (vp_in_nI (N := 1200) (show f < 1200 by omega) (by decide)) ?_
  rw [nI_clamp (n := f) (by omega)]
  refine And.intro (fun _ => ?_) (fun g => absurd rfl g)
  refine am_vO am_k228 am_h228 rfl rfl rfl rfl (hD) ?_
  refine am_vc_ok am_k228 [23, 90] 100 ?_
  exact am_Gp [0, 3, 1, 4] rfl K
theorem ml_end (K : MG l 228 90 [(3, aI (nI m0)), (2, aI (nI m0)), (1, aI r), (0, aR 12 0)] A x A2) : MG l 228 23 [(3, aI (nI m0)), (2, aI (nI m0)), (1, aI r), (0, aR 12 0)] A x A2 := by
  intro σ τ t
  have K := K σ τ t
  refine am_vc_ok am_k228 [23, 90] 100 ?_
  exact And.intro (fun _ => K) (fun g => absurd (Int32.le_refl _) g)
theorem ml_pre (hm : m0 ≤ 690) (hlo : lo ≤ m0) (h : ∀ f, f < lo → ¬ A 88 0 f = 0) (K : MG l 228 23 [(3, aI (nI lo)), (2, aI (nI m0)), (1, aI r), (0, aR 12 0)] A x A2) : ∀ (d f : Nat), f + d = lo → MG l 228 23 [(3, aI (nI f)), (2, aI (nI m0)), (1, aI r), (0, aR 12 0)] A x A2
  | 0, f, e => by
    obtain rfl : f = lo := by omega
    exact K
  | d + 1, f, e => ml_skip (by omega) hm (h f (by omega)) (ml_pre hm hlo h K d (f + 1) (by omega))
end L92

/-! ticks: frames come, both sides -/
section L93
variable {l : Launch} {σ σ2 s s0 s1 s2 sd A A0 A1 A2 : tI} {τ τ2 : tL} {t : Option (Nat × Nat)} {T n m m0 lo k c b f w : Nat} {r : Int32}
theorem Gs_mrk {v : Int32} (hR : Rnet (Gs s A f) T n m f k) (hf : f < m) (D1 : ∀ q, q ≠ 0 → sd q = s q) (D2 : ∀ c j, j ≠ 11 → sd 0 c j = s 0 c j) (D3 : ∀ c, c < 30 → sd 0 c 11 = if c < n ∧ A 89 0 f = nI c then s 0 c 11 - 1 else s 0 c 11) (hq : ∀ q, q ≠ 1 → q ≠ 18 → s2 q = sd q) (h18 : ∀ g, g ≠ f → s2 18 0 g = sd 18 0 g) (h18f : s2 18 0 f = v) (hv : v = 1 ∨ v = 2) (h10 : s2 1 0 0 = sd 1 0 0) (h11 : s2 1 0 1 = if v = 2 then sd 1 0 1 + 1 else sd 1 0 1) : Rnet0 (Gs s2 (u3 A 88 0 f v) (f + 1)) T n m (f + 1) k ∧ ∀ c, RaccS (Gs s2 (u3 A 88 0 f v) (f + 1)) n m (f + 1) c (if A 84 0 f = 1 ∧ A 89 0 f = nI c then 1 else 0) := by
  obtain ⟨h0, ha⟩ := hR.split
  have E : ∀ q, q ≠ 0 → q ≠ 1 → q ≠ 18 → q ≠ 88 → Gs s2 (u3 A 88 0 f v) (f + 1) q = Gs s A f q := by
    intro q a0 a1 a2 a3
    unfold Gs mrg
    cases isC q
    · show u3 A 88 0 f v q = A q
      exact u3_kk _ _ a3
    · show u3 s2 1 0 2 _ q = u3 s 1 0 2 _ q
      rw [u3_kk _ _ a1, u3_kk _ _ a1, hq q a1 a2, D1 q a0]
  have e0 : s2 0 = sd 0 := hq 0 (by decide) (by decide)
  have v88 : u3 A 88 0 f v 88 0 f = v := u3_eq _ _ _ _ _
  refine ⟨h0.mrk hf E (fun c j hj => ?_) (fun c hc => ?_) (fun g hg => ⟨?_, ?_⟩) ?_ ?_ ⟨?_, ?_, ?_⟩, fun c => ha.mrk hf E⟩
  · show s2 0 c j = s 0 c j
    rw [e0, D2 c j hj]
  · show s2 0 c 11 = _
    rw [e0]
    exact D3 c hc
  · show s2 18 0 g = s 18 0 g
    rw [h18 g hg, D1 18 (by decide)]
  · show u3 A 88 0 f v 88 0 g = A 88 0 g
    simp [u3, hg]
  · show s2 18 0 f = u3 A 88 0 f v 88 0 f
    rw [h18f, v88]
  · show u3 A 88 0 f v 88 0 f = 1 ∨ u3 A 88 0 f v 88 0 f = 2
    rw [v88]
    exact hv
  · show s2 1 0 0 = s 1 0 0
    rw [h10, D1 1 (by decide)]
  · rfl
  · show s2 1 0 1 = if u3 A 88 0 f v 88 0 f = 2 then s 1 0 1 + 1 else s 1 0 1
    rw [v88, h11, D1 1 (by decide)]
theorem x_dl_sd (hR : Rnet (Gs s A f) T n m f k) (hf : f < m0) (hm0 : m0 ≤ m) (hF : xF s0 s) : ∃ sd : tI, (∀ (Q : tQ) (r : Int32), (∀ cl, am_G l 21 Q 0 0 62 [(4, aI cl), (3, aI (nI f)), (2, aI (nI m0)), (1, aI r), (0, aR 3 0)] [] sd τ (rX t) cX lX) → am_G l 21 Q 0 0 18 [(3, aI (nI f)), (2, aI (nI m0)), (1, aI r), (0, aR 3 0)] [] s τ (rX t) cX lX) ∧ (∀ q, q ≠ 0 → sd q = s q) ∧ (∀ c j, j ≠ 11 → sd 0 c j = s 0 c j) ∧ (∀ c, c < 30 → sd 0 c 11 = if c < n ∧ A 89 0 f = nI c then s 0 c 11 - 1 else s 0 c 11) ∧ xF s0 sd := by
  have hmle := hR.m_le
  have h0 := hR.split.1
  have hn := h0.2.1.2.2
  obtain ⟨fR, fO⟩ := h0.2.2.2.2.2.2.2.1 f (by omega)
  have e19 : s 19 0 f = A 89 0 f := fR.2.2.2.2.2.1
  rcases fO with ⟨g1, g2⟩ | ⟨kd, c, hk1, hk2, hc, g1, g2, g3, g5⟩
  · have g2 : A 89 0 f = -9 := g2
    refine ⟨s, fun Q r K => x_dl_ping hf (by omega) (e19.trans g2) K, fun _ _ => rfl, fun _ _ _ => rfl, fun c hc => ?_, hF⟩
    rw [if_neg]
    intro z
    rw [g2] at z
    have := z.2
    have e : ∀ c, c < 30 → ¬ (-9 : Int32) = nI c := by decide +kernel
    exact e c hc this
  · have g2 : A 89 0 f = nI c := g2
    refine ⟨u3 s 0 c 11 (s 0 c 11 - 1), fun Q r K => x_dl_call hf (by omega) (e19.trans g2) h0.2.1.1 hn hc K, fun q hq => u3_kk _ _ hq, fun c2 j hj => by simp [u3, hj], fun c2 hc2 => ?_, hF.u rfl⟩
    by_cases e : c2 = c
    · subst e
      rw [if_pos ⟨hc, g2⟩, u3_eq]
    · rw [if_neg (fun z => e ((nI_eq (by omega) (by omega)).mp (z.2.symm.trans g2)))]
      simp [u3, e]
theorem xm_dl {Q : tQ} : ∀ (d f : Nat) {s A : tI} {m : Nat} {r : Int32}, f + d = m0 → Rnet (Gs s A f) T n m f k → m0 ≤ m → xF s0 s → mF A0 A → NA A m0 m → (∀ s1 A1 m1 r1, (∀ x A2, MG l 228 90 [(3, aI (nI m0)), (2, aI (nI m0)), (1, aI r1), (0, aR 12 0)] A1 x A2 → MG l 228 23 [(3, aI (nI f)), (2, aI (nI m0)), (1, aI r), (0, aR 12 0)] A x A2) → Rnet (Gs s1 A1 m0) T n m1 m0 k → xF s0 s1 → mF A0 A1 → NA A1 m0 m1 → am_G l 21 Q 0 0 144 [(3, aI (nI m0)), (2, aI (nI m0)), (1, aI r1), (0, aR 3 0)] [] s1 τ (rX t) cX lX) → am_G l 21 Q 0 0 18 [(3, aI (nI f)), (2, aI (nI m0)), (1, aI r), (0, aR 3 0)] [] s τ (rX t) cX lX
  | 0, f, s, A, m, r, h, hR, hm0, hF, hM, hN, hQ => by
    obtain rfl : f = m0 := by omega
    have K := hQ s A m r (fun x A2 q => ml_end q) hR hF hM hN
    refine am_vc_ok am_k21 [18, 144] 100 ?_
    exact And.intro (fun _ => K) (fun g => absurd (Int32.le_refl _) g)
  | d + 1, f, s, A, m, r, h, hR, hm0, hF, hM, hN, hQ => by
    have hmle := hR.m_le
    obtain ⟨h0, ha⟩ := hR.split
    obtain ⟨sd, K62, D1, D2, D3, FD⟩ := x_dl_sd (l := l) (τ := τ) (t := t) (m0 := m0) hR (by omega) hm0 hF
    have h12 := h0.2.2.2.2.2.2.2.2.2.2.2
    have hk : sd 2 0 0 = nI k := by rw [D1 2 (by decide)]; exact h12.1
    have hkA : A 12 0 64 = nI k := h12.2.1
    have hk2 := h12.2.2.1
    obtain ⟨fR, -⟩ := h0.2.2.2.2.2.2.2.1 f (by omega)
    have e15 : s 15 0 f = A 85 0 f := fR.2.1
    have e16 : s 16 0 f = A 86 0 f := fR.2.2.1
    have hK : s 3 0 4 = A 12 0 5 := h0.1.1.trans h0.1.2.1.symm
    have h88 : A 88 0 f = 0 := h0.2.2.2.2.2.2.2.2.2.1.2.2.2 f (Nat.le_refl _) (by omega)
    have hB : bkX sd (lineI (sd 15 0 f) (sd 16 0 f)) (sd 3 0 4) k = bkM A (lineI (A 85 0 f) (A 86 0 f)) (A 12 0 5) k := by
      rw [D1 15 (by decide), D1 16 (by decide), D1 3 (by decide), e15, e16, hK]
      refine cntN_cg (fun i hi => ?_)
      have z := h12.2.2.2 i hi
      have z1 : s 21 0 i = A 91 0 i := z.1
      have z2 : s 22 0 i = A 92 0 i := z.2.1
      have z3 : s 23 0 i = A 93 0 i := z.2.2
      rw [D1 21 (by decide), D1 22 (by decide), D1 23 (by decide), z1, z2, z3]
    by_cases hb : bkM A (lineI (A 85 0 f) (A 86 0 f)) (A 12 0 5) k = 0
    · obtain ⟨R0, Ra⟩ := Gs_mrk (v := 1) (s2 := u3 sd 18 0 f 1) hR (by omega) D1 D2 D3 (fun q _ h2 => u3_kk _ _ h2) (fun g hg => by simp [u3, hg]) (u3_eq _ _ _ _ _) (Or.inl rfl) rfl rfl
      obtain ⟨s1, A1, m1, X1, Y1, R1, F1, M1, N1, L1⟩ := TK.all (l := l) (τ := τ) (t := t) (s0 := s0) (A0 := A0) (m0 := m0) R0 Ra (by omega) (FD.u rfl) (hM.u rfl) (hN.same rfl) (fun c q1 q2 q3 => h0.2.2.2.2.2.2.2.2.2.2.1 f c (Nat.le_refl _) (by omega) q1 q2 q3) (fun c hc => (ha.S0 (c := c)).k81 hc)
      refine K62 Q r (fun cl => x_dl_t (by omega) hk hk2 (hB.trans hb) X1 ?_)
      exact xm_dl d (f + 1) (s := s1) (A := A1) (m := m1) (r := r + 1) (by omega) R1 (by omega) F1 M1 N1 (fun s3 A3 m3 r3 q => hQ s3 A3 m3 r3 (fun x A2 p => ml_t (by omega) (by omega) h88 hkA hk2 hb Y1 (q x A2 p)))
    · obtain ⟨R0, Ra⟩ := Gs_mrk (v := 2) (s2 := u3 (u3 sd 18 0 f 2) 1 0 1 (sd 1 0 1 + 1)) hR (by omega) D1 D2 D3 (fun q h1 h2 => by rw [u3_kk _ _ h1, u3_kk _ _ h2]) (fun g hg => by simp [u3, hg]) (by simp [u3]) (Or.inr rfl) rfl rfl
      refine K62 Q r (fun cl => x_dl_b (by omega) hk hk2 (fun z => hb (hB.symm.trans z)) ?_)
      exact xm_dl d (f + 1) (A := u3 A 88 0 f 2) (m := m) (r := r) (by omega) (Rnet.join R0 (Racc.S (Ra 0))) hm0 ((FD.u rfl).u rfl) (hM.u rfl) (hN.same rfl) (fun s3 A3 m3 r3 q => hQ s3 A3 m3 r3 (fun x A2 p => ml_b (by omega) (by omega) h88 hkA hk2 hb (q x A2 p)))
theorem xm_deliver (hR : Rnet (mrg s A) T n m lo k) (hF : xF s0 s) (hM : mF A0 A) : am_T l 21 [aR 3 0] s τ t (fun v s1 τ1 t1 => τ1 = τ ∧ t1 = t ∧ ∃ r A1 m1, v = some (aI r) ∧ (∀ x A2, MG l 228 90 [(3, aI (nI m)), (2, aI (nI m)), (1, aI r), (0, aR 12 0)] A1 x A2 → MG l 228 23 [(3, aI 0), (2, aI (nI m)), (1, aI 0), (0, aR 12 0)] A x A2) ∧ Rnet (mrg s1 A1) T n m1 m k ∧ xF s0 s1 ∧ mF A0 A1 ∧ NA A1 m m1) := by
  have hmle := hR.m_le
  have h0 := hR.split.1
  have hlo := h0.2.2.2.2.2.2.2.2.2.1
  have e0 : s 1 0 0 = nI m := h0.2.2.2.2.2.2.1.1
  have e2 : s 1 0 2 = nI lo := hlo.1
  have eG : Gs s A lo = mrg s A := by
    unfold Gs
    rw [u3_self e2]
  have K := fun Q => xm_dl (Q := Q) (l := l) (τ := τ) (t := t) (s0 := s0) (A0 := A0) (m0 := m) (T := T) (n := n) (k := k) (m - lo) lo (s := s) (A := A) (m := m) (r := 0) (by omega) (by rw [eG]; exact hR) (Nat.le_refl _) hF hM (fun f h1 h2 => absurd h2 (by omega))
  refine am_T_of am_o21 am_l21 rfl ?_
  refine am_vc_ok am_k21 [18] 100 ?_
  show am_G l 21 _ 0 0 18 [(3, aI (s 1 0 2)), (2, aI (s 1 0 0)), (1, aI 0), (0, aR 3 0)] [] s τ (rX t) cX lX
  rw [e0, e2]
  refine K _ (fun s1 A1 m1 r1 q R1 F1 M1 N1 => ?_)
  refine am_vc_ok am_k21 [] 100 ?_
  refine am_vI am_k21 am_r21 rfl ⟨t, rfl, rfl, rfl, rfl, rfl, r1, A1, m1, rfl, fun x A2 p => ?_, R1, F1.u rfl, M1, N1⟩
  exact ml_pre (by omega) hlo.2.1 (fun f hf => by
    rcases hlo.2.2.1 f hf with e | e <;> (have e : A 88 0 f = _ := e; rw [e]; decide)) (q x A2 p) lo 0 (by omega)
end L93

/-! ticks: one tick, both sides -/
section L94
variable {l : Launch} {σ σ2 s s0 s1 s2 sd A A0 A1 A2 : tI} {τ τ2 : tL} {t : Option (Nat × Nat)} {T n m m0 lo k c b f w a : Nat} {r z : Int32} {x : Option am_V}
theorem mo_work (ha : a < 6) (hD : MD l 224 [aR 12 0, aI (nI a)] A none A1) (K : MG l 228 92 [(3, aI (nI (a + 1))), (2, aI z), (1, aI r), (0, aR 12 0)] A1 x A2) : MG l 228 92 [(3, aI (nI a)), (2, aI z), (1, aI r), (0, aR 12 0)] A x A2 := by
  intro σ τ t
  have K := K σ τ t
  rw [← nI_1] at K
  refine am_vc_ok am_k228 [92, 109] 100 ?_
  refine And.intro (fun h1 => absurd h1 (nI_ge (b := 6) (by omega) (by decide))) (fun _ => ?_)
  refine am_vO am_k228 am_h228 rfl rfl rfl rfl (hD σ τ t) ?_
  refine am_vc_ok am_k228 [92, 109] 100 ?_
  exact K
theorem mo_work6 (K : MG l 228 109 [(3, aI (nI 6)), (2, aI z), (1, aI r), (0, aR 12 0)] A x A2) : MG l 228 92 [(3, aI (nI 6)), (2, aI z), (1, aI r), (0, aR 12 0)] A x A2 := by
  intro σ τ t
  have K := K σ τ t
  refine am_vc_ok am_k228 [92, 109] 100 ?_
  exact And.intro (fun _ => K) (fun h1 => absurd (show (6 : Int32) ≤ nI 6 by decide) h1)
theorem mo_bgn (ha : a < 6) (hD : MD l 225 [aR 12 0, aI (nI a)] A none A1) (K : MG l 228 111 [(3, aI (nI (a + 1))), (2, aI z), (1, aI r), (0, aR 12 0)] A1 x A2) : MG l 228 111 [(3, aI (nI a)), (2, aI z), (1, aI r), (0, aR 12 0)] A x A2 := by
  intro σ τ t
  have K := K σ τ t
  rw [← nI_1] at K
  refine am_vc_ok am_k228 [111, 128] 100 ?_
  refine And.intro (fun h1 => absurd h1 (nI_ge (b := 6) (by omega) (by decide))) (fun _ => ?_)
  refine am_vO am_k228 am_h228 rfl rfl rfl rfl (hD σ τ t) ?_
  refine am_vc_ok am_k228 [111, 128] 100 ?_
  exact K
theorem mo_bgn6 (K : MG l 228 128 [(3, aI (nI 6)), (2, aI z), (1, aI r), (0, aR 12 0)] A x A2) : MG l 228 111 [(3, aI (nI 6)), (2, aI z), (1, aI r), (0, aR 12 0)] A x A2 := by
  intro σ τ t
  have K := K σ τ t
  refine am_vc_ok am_k228 [111, 128] 100 ?_
  exact And.intro (fun _ => K) (fun h1 => absurd (show (6 : Int32) ≤ nI 6 by decide) h1)
theorem mo_90 {y : Int32} (K : MG l 228 92 [(3, aI (nI 0)), (2, aI z), (1, aI r), (0, aR 12 0)] A x A2) : MG l 228 90 [(3, aI y), (2, aI z), (1, aI r), (0, aR 12 0)] A x A2 := by
  intro σ τ t
  have K := K σ τ t
  refine am_vc_ok am_k228 [92] 100 ?_
  exact K
theorem mo_109 {y : Int32} (K : MG l 228 111 [(3, aI (nI 0)), (2, aI z), (1, aI r), (0, aR 12 0)] A x A2) : MG l 228 109 [(3, aI y), (2, aI z), (1, aI r), (0, aR 12 0)] A x A2 := by
  intro σ τ t
  have K := K σ τ t
  refine am_vc_ok am_k228 [111] 100 ?_
  exact K
theorem mo_128 {y : Int32} (K : MG l 228 130 [(3, aI 0), (2, aI z), (1, aI r), (0, aR 12 0)] A x A2) : MG l 228 128 [(3, aI y), (2, aI z), (1, aI r), (0, aR 12 0)] A x A2 := by
  intro σ τ t
  have K := K σ τ t
  refine am_vc_ok am_k228 [130] 100 ?_
  exact K
theorem mo_0 (hD : MD l 227 [aR 12 0] A none A1) (hm : A1 12 0 54 = nI m) (hT : A1 12 0 5 = nI T) (K : MG l 228 23 [(3, aI 0), (2, aI (nI m)), (1, aI 0), (0, aR 12 0)] (u3 A1 12 0 5 (nI (T + 1))) x A2) : MD l 228 [aR 12 0] A x A2 := by
  intro σ τ t
  have K := K σ τ t
  rw [mrg_m rfl] at K
  have e : u3 (mrg σ A1) 12 0 5 (nI (T + 1)) = u3 (mrg σ A1) 12 0 5 (mrg σ A1 12 0 5 + 1) := by
    rw [show mrg σ A1 12 0 5 = nI T from hT, nI_1]
  rw [e, ← hm] at K
  refine am_D_of am_o228 am_l228 rfl ?_
  refine am_vc_ok am_k228 [23] 100 ?_
  refine am_vO am_k228 am_h228 rfl rfl rfl rfl (hD σ τ t) ?_
  refine am_vc_ok am_k228 [23] 100 ?_
  exact K
theorem xm_l1 {Q : tQ} : ∀ (d a : Nat) {s A : tI} {m : Nat}, a + d = 6 → Rnet (mrg s A) T n m lo k → xF s0 s → mF A0 A → NA A lo m → (∀ s1 A1 m1, (∀ x A2, MG l 228 109 [(3, aI (nI 6)), (2, aI z), (1, aI r), (0, aR 12 0)] A1 x A2 → MG l 228 92 [(3, aI (nI a)), (2, aI z), (1, aI r), (0, aR 12 0)] A x A2) → Rnet (mrg s1 A1) T n m1 lo k → xF s0 s1 → mF A0 A1 → NA A1 lo m1 → am_G l 19 Q 0 0 38 [(2, aI (nI 6)), (1, aI r), (0, aR 3 0)] [] s1 τ (rX t) cX lX) → am_G l 19 Q 0 0 21 [(2, aI (nI a)), (1, aI r), (0, aR 3 0)] [] s τ (rX t) cX lX
  | 0, a, s, A, m, h, hR, hF, hM, hN, hQ => by
    obtain rfl : a = 6 := by omega
    have K := hQ s A m (fun x A2 q => mo_work6 q) hR hF hM hN
    refine am_vc_ok am_k19 [21, 38] 100 ?_
    exact And.intro (fun _ => K) (fun h1 => absurd (show (6 : Int32) ≤ nI 6 by decide) h1)
  | d + 1, a, s, A, m, h, hR, hF, hM, hN, hQ => by
    have fin := fun {s1 A1 : tI} {m1 : Nat} => xm_l1 (Q := Q) d (a + 1) (s := s1) (A := A1) (m := m1) (by omega)
    refine am_vc_ok am_k19 [21, 38] 100 ?_
    refine And.intro (fun h1 => absurd h1 (nI_ge (b := 6) (by omega) (by decide))) (fun _ => ?_)
    refine am_vOT am_k19 am_h19 rfl rfl rfl rfl (xm_finishWork (a := a) (by omega) hR hF hM hN) ?_
    intro v s1 τ1 t1 hP
    obtain ⟨e1, e2, e3, A1, m1, q, R1, F1, M1, N1⟩ := hP
    subst e1
    have e2 := e2.symm
    subst e2
    have e3 := e3.symm
    subst e3
    have K := fin (s1 := s1) (A1 := A1) (m1 := m1) R1 F1 M1 N1 (fun s3 A3 m3 p => hQ s3 A3 m3 (fun x A2 y => mo_work (by omega) q (p x A2 y)))
    rw [← nI_1] at K
    refine am_vc_ok am_k19 [21, 38] 100 ?_
    exact K
theorem xm_l2 {Q : tQ} : ∀ (d a : Nat) {s A : tI} {m : Nat}, a + d = 6 → Rnet (mrg s A) T n m lo k → xF s0 s → mF A0 A → NA A lo m → (∀ s1 A1 m1, (∀ x A2, MG l 228 128 [(3, aI (nI 6)), (2, aI z), (1, aI r), (0, aR 12 0)] A1 x A2 → MG l 228 111 [(3, aI (nI a)), (2, aI z), (1, aI r), (0, aR 12 0)] A x A2) → Rnet (mrg s1 A1) T n m1 lo k → xF s0 s1 → mF A0 A1 → NA A1 lo m1 → am_G l 19 Q 0 0 57 [(2, aI (nI 6)), (1, aI r), (0, aR 3 0)] [] s1 τ (rX t) cX lX) → am_G l 19 Q 0 0 40 [(2, aI (nI a)), (1, aI r), (0, aR 3 0)] [] s τ (rX t) cX lX
  | 0, a, s, A, m, h, hR, hF, hM, hN, hQ => by
    obtain rfl : a = 6 := by omega
    have K := hQ s A m (fun x A2 q => mo_bgn6 q) hR hF hM hN
    refine am_vc_ok am_k19 [40, 57] 100 ?_
    exact And.intro (fun _ => K) (fun h1 => absurd (show (6 : Int32) ≤ nI 6 by decide) h1)
  | d + 1, a, s, A, m, h, hR, hF, hM, hN, hQ => by
    have fin := fun {s1 A1 : tI} {m1 : Nat} => xm_l2 (Q := Q) d (a + 1) (s := s1) (A := A1) (m := m1) (by omega)
    refine am_vc_ok am_k19 [40, 57] 100 ?_
    refine And.intro (fun h1 => absurd h1 (nI_ge (b := 6) (by omega) (by decide))) (fun _ => ?_)
    refine am_vOT am_k19 am_h19 rfl rfl rfl rfl (xm_beginWork (a := a) (by omega) hR hF hM hN) ?_
    intro v s1 τ1 t1 hP
    obtain ⟨e1, e2, e3, A1, m1, q, R1, F1, M1, N1⟩ := hP
    subst e1
    have e2 := e2.symm
    subst e2
    have e3 := e3.symm
    subst e3
    have K := fin (s1 := s1) (A1 := A1) (m1 := m1) R1 F1 M1 N1 (fun s3 A3 m3 p => hQ s3 A3 m3 (fun x A2 y => mo_bgn (by omega) q (p x A2 y)))
    rw [← nI_1] at K
    refine am_vc_ok am_k19 [40, 57] 100 ?_
    exact K
theorem xm_pass (hR : Rnet (mrg s A) T n m lo k) (hT : T < 9999) (hF : xF s0 s) (hM : mF A0 A) : am_T l 19 [aR 3 0] s τ t (fun v s1 τ1 t1 => τ1 = τ ∧ t1 = t ∧ ∃ r A1 m1, v = some (aI r) ∧ MD l 228 [aR 12 0] A (some (aI r)) A1 ∧ Rnet (mrg s1 A1) (T + 1) n m1 m k ∧ xF s0 s1 ∧ mF A0 A1) := by
  refine am_T_of am_o19 am_l19 rfl ?_
  refine am_vc_ok am_k19 [21] 100 ?_
  refine am_vOT am_k19 am_h19 rfl rfl rfl rfl (xm_shareOut hR hF hM) ?_
  intro v1 s1 τ1 t1 hP
  obtain ⟨e1, e2, e3, A1, q1, R1, F1, M1⟩ := hP
  subst e1
  have e2 := e2.symm
  subst e2
  have e3 := e3.symm
  subst e3
  have h0 := R1.split.1
  have hT1 : s1 3 0 4 = nI T := h0.1.1
  have R2 := R1.tck hT
  rw [← mrg_x (q := 3) rfl, ← mrg_m (q := 12) rfl] at R2
  have eT : u3 s1 3 0 4 (nI (T + 1)) = u3 s1 3 0 4 (s1 3 0 4 + 1) := by rw [hT1, nI_1]
  rw [eT] at R2
  refine am_vc_ok am_k19 [21] 100 ?_
  refine am_vOT am_k19 am_h19 rfl rfl rfl rfl (xm_deliver R2 (F1.u rfl) (M1.u rfl)) ?_
  intro v2 s2 τ2 t2 hP
  obtain ⟨e2, e3, r, A2, m2, e1, q2, R3, F3, M3, N3⟩ := hP
  subst e1
  have e2 := e2.symm
  subst e2
  have e3 := e3.symm
  subst e3
  refine am_vc_ok am_k19 [21] 100 ?_
  refine xm_l1 (z := nI m) (r := r) 6 0 (by omega) R3 F3 M3 N3 (fun s3 A3 m3 q3 R4 F4 M4 N4 => ?_)
  refine am_vc_ok am_k19 [40] 100 ?_
  refine xm_l2 (z := nI m) (r := r) 6 0 (by omega) R4 F4 M4 N4 (fun s4 A4 m4 q4 R5 F5 M5 N5 => ?_)
  refine am_vc_ok am_k19 [] 100 ?_
  refine am_vOT am_k19 am_h19 rfl rfl rfl rfl (xm_watchCalls (z := nI m) (r := r) R5 F5 M5 N5) ?_
  intro v5 s5 τ5 t5 hP
  obtain ⟨e1, e2, e3, A5, m5, q5, R6, F6, M6⟩ := hP
  subst e1
  have e2 := e2.symm
  subst e2
  have e3 := e3.symm
  subst e3
  refine am_vc_ok am_k19 [] 100 ?_
  refine am_vI am_k19 am_r19 rfl ⟨t, rfl, rfl, rfl, rfl, rfl, r, A5, m5, rfl, ?_, R6, F6, M6⟩
  exact mo_0 q1 h0.2.2.2.2.2.2.1.2 h0.1.2.1 (q2 _ _ (mo_90 (q3 _ _ (mo_109 (q4 _ _ (mo_128 q5))))))
end L94

/-! CASES OF THE LAW: tick, run -/
section L95
variable {l : Launch} {σ σ2 s s0 s1 s2 sd A A0 A1 A2 : tI} {τ τ2 : tL} {t : Option (Nat × Nat)} {T n m m0 lo k c N : Nat} {r z : Int32} {x : Option am_V}
theorem Rall.tk (h : Rall σ τ) (hF : xF σ s1) (hM : mF σ A1) (hR : Rnet (mrg s1 A1) T n m lo k) : Rall (mrg s1 A1) τ := by
  refine h.net (fun q z1 z2 z3 => ?_) (fun a ha => ⟨hF 8 a 0 rfl, hF 8 a 1 rfl⟩) (fun j z => ?_) hR
  · unfold mrg
    cases hq : isC q
    · show A1 q = σ q
      funext i j
      refine hM q i j ?_
      cases ho : okm q j
      · rfl
      · exfalso
        have e : kNet q = true := by
          unfold kNet
          unfold okm at ho
          simp only [Bool.or_eq_true, Bool.and_eq_true, Nat.ble_eq, Nat.beq_eq] at ho ⊢
          omega
        rw [z1] at e
        cases e
    · show s1 q = σ q
      funext i j
      refine hF q i j ?_
      cases ho : okx q j
      · rfl
      · exfalso
        have e : kNet q = true := by
          unfold kNet
          unfold okx at ho
          simp only [Bool.or_eq_true, Bool.and_eq_true, Nat.ble_eq, Nat.beq_eq] at ho ⊢
          omega
        rw [z1] at e
        cases e
  · show A1 12 0 j = σ 12 0 j
    refine hM 12 0 j ?_
    cases ho : okm 12 j
    · rfl
    · exfalso
      have e : jNet j = true := by
        unfold jNet
        unfold okm at ho
        simp only [Bool.or_eq_true, Bool.and_eq_true, Nat.ble_eq, Nat.beq_eq] at ho ⊢
        omega
      rw [z] at e
      cases e
theorem m_tick_on (hT : ¬ s 12 0 5 = 9999) (hD : am_D l 228 [aR 12 0] s τ (rX t) cX lX (some (aI r)) σ2 τ (rX t)) : am_D l 229 [aR 12 0] s τ (rX t) cX lX (some (aI r)) σ2 τ (rX t) := by
  refine am_D_of am_o229 am_l229 rfl ?_
  refine am_vc_ok am_k229 [] 100 ?_
  refine And.intro (fun g => absurd g hT) (fun _ => ?_)
  refine am_vO am_k229 am_h229 rfl rfl rfl rfl (hD) ?_
  refine am_vc_ok am_k229 [] 100 ?_
  exact am_vI am_k229 am_r229 rfl ⟨rfl, rfl, rfl, rfl, rfl, rfl⟩
theorem m_tick_end (hT : s 12 0 5 = 9999) : am_D l 229 [aR 12 0] s τ (rX t) cX lX (some (aI (-4))) s τ (rX t) := by
  refine am_D_of am_o229 am_l229 rfl ?_
  refine am_vc_ok am_k229 [] 100 ?_
  refine And.intro (fun _ => ?_) (fun g => absurd hT g)
  exact am_vI am_k229 am_r229 rfl ⟨rfl, rfl, rfl, rfl, rfl, rfl⟩
theorem x_tick_end (hT : s 3 0 4 = 9999) : am_D l 121 [aR 11 0] s τ (rX t) cX lX (some (aI (-4))) s τ (rX t) := by
  refine am_D_of am_o121 am_l121 rfl ?_
  refine am_vc_ok am_k121 [] 100 ?_
  refine And.intro (fun g => absurd (show s 3 0 4 < 9999 from g) (by rw [hT]; decide)) (fun _ => ?_)
  exact am_vI am_k121 am_r121 rfl ⟨rfl, rfl, rfl, rfl, rfl, rfl⟩
theorem LC_tick (h : Rall σ τ) : LC l 121 229 [] σ τ t := by
  obtain ⟨-, -, -, -, -, -, T, n, m, lo, k, hN⟩ := id h
  have h0 := hN.split.1
  have hT := h0.1
  by_cases e : T = 9999
  · subst e
    exact LC.of (x_tick_end hT.1) (m_tick_end hT.2.1) h
  · have hR : Rnet (mrg σ σ) T n m lo k := by rw [mrg_self]; exact hN
    unfold LC
    refine am_T_of am_o121 am_l121 rfl ?_
    refine am_vc_ok am_k121 [] 100 ?_
    refine And.intro (fun _ => ?_) (fun g => absurd (show σ 3 0 4 < 9999 by rw [hT.1]; exact nI_lt (b := 9999) (by omega) (by decide)) g)
    refine am_vOT am_k121 am_h121 rfl rfl rfl rfl (xm_pass hR (by omega) xF.r mF.r) ?_
    intro v s1 τ1 t1 hP
    obtain ⟨e2, e3, r, A1, m1, e1, q, R1, F1, M1⟩ := hP
    subst e1
    have e2 := e2.symm
    subst e2
    have e3 := e3.symm
    subst e3
    have q := q s1 τ t
    rw [xF_mrg F1] at q
    have q2 := m_tick_on (s := s1) (fun e4 => absurd ((nI_eq (b := 9999) (by omega) (by decide)).mp (show nI T = nI 9999 from (hT.2.1.symm.trans ((F1 12 0 5 rfl).symm.trans e4)))) e) q
    refine am_vc_ok am_k121 [] 100 ?_
    refine am_vI am_k121 am_r121 rfl ⟨t, rfl, rfl, rfl, rfl, ?_⟩
    refine ⟨q2.1, q2.2.mono ?_⟩
    rintro v2 s2 τ2 p c2 n2 ⟨rfl, rfl, rfl, rfl, rfl, rfl⟩
    exact ⟨t, rfl, rfl, rfl, rfl, h.tk F1 M1 R1⟩
theorem mr_step (hi : c < N) (hN : N ≤ 100) (hD : MD l 228 [aR 12 0] A (some (aI r)) A1) (K : MG l 230 31 [(3, aI (nI (c + 1))), (2, aI (z + r)), (0, aR 12 0), (1, aI (nI N))] A1 x A2) : MG l 230 31 [(3, aI (nI c)), (2, aI z), (0, aR 12 0), (1, aI (nI N))] A x A2 := by
  intro σ τ t
  have K := K σ τ t
  rw [← nI_1] at K
  refine am_vc_ok am_k230 [31, 49] 100 ?_
  refine And.intro (fun h1 => absurd h1 (nI_ge (b := N) (by omega) (by omega))) (fun _ => ?_)
  refine am_vO am_k230 am_h230 rfl rfl rfl rfl (hD σ τ t) ?_
  refine am_vc_ok am_k230 [31, 49] 100 ?_
  exact K
theorem mr_end : MG l 230 31 [(3, aI (nI N)), (2, aI z), (0, aR 12 0), (1, aI (nI N))] A (some (aI z)) A := by
  intro σ τ t
  refine am_vc_ok am_k230 [31] 100 ?_
  refine And.intro (fun _ => ?_) (fun h1 => absurd (Int32.le_refl _) h1)
  exact am_vI am_k230 am_r230 rfl ⟨rfl, rfl, rfl, rfl, rfl, rfl⟩
theorem m_run_late (hn : N ≤ 100) (hT : s 12 0 5 = nI T) (hT2 : 9999 < T + N) (hT3 : T ≤ 9999) : am_D l 230 [aR 12 0, aI (nI N)] s τ (rX t) cX lX (some (aI (-4))) s τ (rX t) := by
  refine am_D_of am_o230 am_l230 rfl ?_
  refine am_vc_ok am_k230 [31, 49] 100 ?_
  refine am_vS am_k230 am_h230 rfl rfl rfl rfl (m_in) ?_
  refine am_vc_ok am_k230 [31, 49] 100 ?_
  refine And.intro (fun g => absurd ⟨nI_pos' (n := N) (by omega), nI_le (b := 100) hn (by decide)⟩ (bI_0.mp g)) (fun _ => ?_)
  refine And.intro (fun g => absurd (show nI (T + N) ≤ nI 9999 by rw [← nI_add, ← hT]; exact g) (nI_ge (b := T + N) (by omega) (by omega))) (fun _ => ?_)
  exact am_vI am_k230 am_r230 rfl ⟨rfl, rfl, rfl, rfl, rfl, rfl⟩
theorem m_run_on (hn : N ≤ 100) (hT : s 12 0 5 = nI T) (hT2 : T + N ≤ 9999) (K : MG l 230 31 [(3, aI 0), (2, aI 0), (0, aR 12 0), (1, aI (nI N))] A (some (aI r)) A1) (e : mrg s A = s) : am_D l 230 [aR 12 0, aI (nI N)] s τ (rX t) cX lX (some (aI r)) (mrg s A1) τ (rX t) := by
  have K := K s τ t
  rw [e] at K
  refine am_D_of am_o230 am_l230 rfl ?_
  refine am_vc_ok am_k230 [31, 49] 100 ?_
  refine am_vS am_k230 am_h230 rfl rfl rfl rfl (m_in) ?_
  refine am_vc_ok am_k230 [31, 49] 100 ?_
  refine And.intro (fun g => absurd ⟨nI_pos' (n := N) (by omega), nI_le (b := 100) hn (by decide)⟩ (bI_0.mp g)) (fun _ => ?_)
  refine And.intro (fun _ => ?_) (fun g => absurd (by rw [hT, nI_add]; exact nI_le (b := 9999) hT2 (by decide)) g)
  exact K
theorem x_run_late (hn : N ≤ 100) (hT : s 3 0 4 = nI T) (hT2 : 9999 < T + N) (hT3 : T ≤ 9999) : am_D l 122 [aR 11 0, aI (nI N)] s τ (rX t) cX lX (some (aI (-4))) s τ (rX t) := by
  refine am_D_of am_o122 am_l122 rfl ?_
  refine am_vc_ok am_k122 [34, 55] 100 ?_
  refine And.intro (fun g => absurd (nI_pos' (n := N) (by omega)) (Int32.not_le.mpr g)) (fun _ => ?_)
  refine And.intro (fun _ => ?_) (fun g => absurd (nI_le (b := 100) hn (by decide)) g)
  refine And.intro (fun g => absurd (show nI (T + N) ≤ nI 9999 by rw [← nI_add, ← hT]; exact g) (nI_ge (b := T + N) (by omega) (by omega))) (fun _ => ?_)
  exact am_vI am_k122 am_r122 rfl ⟨rfl, rfl, rfl, rfl, rfl, rfl⟩
theorem xm_run {Q : tQ} (hN : N ≤ 100) : ∀ (d i : Nat) {s A : tI} {T m lo : Nat} {z : Int32}, i + d = N → Rnet (mrg s A) T n m lo k → T + d ≤ 9999 → xF s0 s → mF A0 A → (∀ s1 A1 T1 m1 lo1 z1, MG l 230 31 [(3, aI (nI i)), (2, aI z), (0, aR 12 0), (1, aI (nI N))] A (some (aI z1)) A1 → Rnet (mrg s1 A1) T1 n m1 lo1 k → xF s0 s1 → mF A0 A1 → Q (some (aI z1)) s1 τ (rX t) cX lX) → am_G l 122 Q 0 0 34 [(3, aI (nI i)), (2, aI z), (0, aR 11 0), (1, aI (nI N))] [] s τ (rX t) cX lX
  | 0, i, s, A, T, m, lo, z, h, hR, hT, hF, hM, hQ => by
    obtain rfl : i = N := by omega
    refine am_vc_ok am_k122 [34] 100 ?_
    refine And.intro (fun _ => ?_) (fun h1 => absurd (Int32.le_refl _) h1)
    refine am_vI am_k122 am_r122 rfl (hQ s A T m lo z mr_end hR hF hM)
  | d + 1, i, s, A, T, m, lo, z, h, hR, hT, hF, hM, hQ => by
    have fin := fun {s1 A1 : tI} {m1 : Nat} {r : Int32} => xm_run (Q := Q) hN d (i + 1) (s := s1) (A := A1) (T := T + 1) (m := m1) (lo := m) (z := z + r) (by omega)
    refine am_vc_ok am_k122 [34, 55] 100 ?_
    refine And.intro (fun h1 => absurd h1 (nI_ge (b := N) (by omega) (by omega))) (fun _ => ?_)
    refine am_vOT am_k122 am_h122 rfl rfl rfl rfl (xm_pass hR (by omega) hF hM) ?_
    intro v s1 τ1 t1 hP
    obtain ⟨e2, e3, r, A1, m1, e1, q, R1, F1, M1⟩ := hP
    subst e1
    have e2 := e2.symm
    subst e2
    have e3 := e3.symm
    subst e3
    have K := fin (s1 := s1) (A1 := A1) (m1 := m1) (r := r) R1 (by omega) F1 M1 (fun s3 A3 T3 m3 lo3 z3 p => hQ s3 A3 T3 m3 lo3 z3 (mr_step (by omega) hN q p))
    rw [← nI_1] at K
    refine am_vc_ok am_k122 [34, 55] 100 ?_
    exact K
theorem LC_run (h : Rall σ τ) (v : Int32) : LC l 122 230 [aI v] σ τ t := by
  obtain ⟨-, -, -, -, -, -, T, n, m, lo, k, hN⟩ := id h
  have h0 := hN.split.1
  have hT := h0.1
  by_cases hv : 0 ≤ v ∧ v ≤ 100
  rotate_left
  · exact LC.of (x_run_bad hv) (m_run_bad hv) h
  obtain ⟨N, hN1, rfl⟩ := ix_le (n := 101) (by decide) hv
  by_cases e : T + N ≤ 9999
  rotate_left
  · exact LC.of (x_run_late (by omega) hT.1 (by omega) hT.2.2) (m_run_late (by omega) hT.2.1 (by omega) hT.2.2) h
  have hR : Rnet (mrg σ σ) T n m lo k := by rw [mrg_self]; exact hN
  unfold LC
  refine am_T_of am_o122 am_l122 rfl ?_
  refine am_vc_ok am_k122 [34, 55] 100 ?_
  refine And.intro (fun g => absurd (nI_pos' (n := N) (by omega)) (Int32.not_le.mpr g)) (fun _ => ?_)
  refine And.intro (fun _ => ?_) (fun g => absurd (nI_le (b := 100) (by omega) (by decide)) g)
  refine And.intro (fun _ => ?_) (fun g => absurd (by rw [hT.1, nI_add]; exact nI_le (b := 9999) e (by decide)) g)
  refine xm_run (by omega) N 0 (by omega) hR e xF.r mF.r (fun s1 A1 T1 m1 lo1 z1 q R1 F1 M1 => ⟨t, rfl, rfl, rfl, rfl, ?_⟩)
  have q2 := m_run_on (l := l) (s := s1) (τ := τ) (t := t) (T := T) (by omega) ((F1 12 0 5 rfl).trans hT.2.1) e q (xF_mrg F1)
  refine ⟨q2.1, q2.2.mono ?_⟩
  rintro v2 s2 τ2 p c2 n2 ⟨rfl, rfl, rfl, rfl, rfl, rfl⟩
  exact ⟨t, rfl, rfl, rfl, rfl, h.tk F1 M1 R1⟩
end L95
