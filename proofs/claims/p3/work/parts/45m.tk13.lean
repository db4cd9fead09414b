/-! ticks: frames come -/
section L92
variable {l : Launch} {σ σ2 s s0 s1 sd A A0 A1 A2 : tI} {τ τ2 : tL} {t : Option (Nat × Nat)} {T n m m0 lo k c b f w : Nat} {r : Int32}
theorem x_dl_ping {Q : tQ} (hf : f < m0) (hm : m0 ≤ 690) (h19 : s 19 0 f = -9) (K : ∀ cl, am_G l 21 Q 0 0 62 [(4, aI cl), (3, aI (nI f)), (2, aI (nI m0)), (1, aI r), (0, aR 3 0)] [] s τ (rX t) cX lX) : am_G l 21 Q 0 0 18 [(3, aI (nI f)), (2, aI (nI m0)), (1, aI r), (0, aR 3 0)] [] s τ (rX t) cX lX := by
  refine am_vc_ok am_k21 [18, 62, 144] 100 ?_
  refine And.intro (fun g => absurd g (nI_ge (b := m0) (by omega) (by omega))) (fun _ => ?_)
  refine And.intro (vp_in_nI (N := 690) (show f < 690 by omega) (by decide)) ?_
  rw [nI_clamp (n := f) (by omega), h19]
  refine am_vS am_k21 am_h21 rfl rfl rfl rfl (x_within) ?_
  refine am_vc_ok am_k21 [18, 62, 144] 100 ?_
  exact And.intro (fun _ => K _) (fun g => absurd (bI_1.mp g).1 (by decide))
theorem x_dl_call {Q : tQ} (hf : f < m0) (hm : m0 ≤ 690) (h19 : s 19 0 f = nI c) (hn : s 3 0 5 = nI n) (hn2 : n ≤ 30) (hc : c < n) (K : ∀ cl, am_G l 21 Q 0 0 62 [(4, aI cl), (3, aI (nI f)), (2, aI (nI m0)), (1, aI r), (0, aR 3 0)] [] (u3 s 0 c 11 (s 0 c 11 - 1)) τ (rX t) cX lX) : am_G l 21 Q 0 0 18 [(3, aI (nI f)), (2, aI (nI m0)), (1, aI r), (0, aR 3 0)] [] s τ (rX t) cX lX := by
  refine am_vc_ok am_k21 [18, 62, 144] 100 ?_
  refine And.intro (fun g => absurd g (nI_ge (b := m0) (by omega) (by omega))) (fun _ => ?_)
  refine And.intro (vp_in_nI (N := 690) (show f < 690 by omega) (by decide)) ?_
  rw [nI_clamp (n := f) (by omega), h19]
  refine am_vS am_k21 am_h21 rfl rfl rfl rfl (x_within) ?_
  refine am_vc_ok am_k21 [18, 62, 144] 100 ?_
  refine And.intro (fun g => absurd (by rw [hn]; exact inN hc (by omega)) (bI_0.mp g)) (fun _ => ?_)
  refine And.intro (vp_in_nI (N := 30) (show c < 30 by omega) (by decide)) ?_
  rw [nI_clamp (n := c) (by omega)]
  exact K _
theorem x_dl_b {Q : tQ} {cl : Int32} (hf : f < 690) (hk : sd 2 0 0 = nI k) (hk2 : k ≤ 20) (hB : ¬ bkX sd (lineI (sd 15 0 f) (sd 16 0 f)) (sd 3 0 4) k = 0) (K : am_G l 21 Q 0 0 18 [(3, aI (nI (f + 1))), (2, aI (nI m0)), (1, aI r), (0, aR 3 0)] [] (u3 (u3 sd 18 0 f 2) 1 0 1 (sd 1 0 1 + 1)) τ (rX t) cX lX) : am_G l 21 Q 0 0 62 [(4, aI cl), (3, aI (nI f)), (2, aI (nI m0)), (1, aI r), (0, aR 3 0)] [] sd τ (rX t) cX lX := by
  have ib := x_isBroken (l := l) (s := sd) (τ := τ) (t := t) (a := sd 15 0 f) (b := sd 16 0 f) (T := sd 3 0 4) hk hk2
  rw [bI_t hB] at ib
  rw [← nI_1] at K
  refine am_vc_ok am_k21 [18, 144] 100 ?_
  refine And.intro (vp_in_nI (N := 690) hf (by decide)) ?_
  rw [nI_clamp (n := f) (by omega)]
  refine And.intro (vp_in_nI (N := 690) hf (by decide)) ?_
  rw [nI_clamp (n := f) (by omega)]
  refine am_vO am_k21 am_h21 rfl rfl rfl rfl (ib) ?_
  refine am_vc_ok am_k21 [18, 144] 100 ?_
  refine And.intro (fun g => absurd g (by decide)) (fun _ => ?_)
  refine And.intro (vp_in_nI (N := 690) hf (by decide)) ?_
  rw [nI_clamp (n := f) (by omega)]
  exact am_Gp [0, 2, 3, 4] rfl K
theorem x_dl_t {Q : tQ} {cl : Int32} (hf : f < 690) (hk : sd 2 0 0 = nI k) (hk2 : k ≤ 20) (hB : bkX sd (lineI (sd 15 0 f) (sd 16 0 f)) (sd 3 0 4) k = 0) (hD : am_D l 22 [aR 3 0, aI (nI f)] (u3 sd 18 0 f 1) τ (rX t) cX lX none s1 τ (rX t)) (K : am_G l 21 Q 0 0 18 [(3, aI (nI (f + 1))), (2, aI (nI m0)), (1, aI (r + 1)), (0, aR 3 0)] [] s1 τ (rX t) cX lX) : am_G l 21 Q 0 0 62 [(4, aI cl), (3, aI (nI f)), (2, aI (nI m0)), (1, aI r), (0, aR 3 0)] [] sd τ (rX t) cX lX := by
  have ib := x_isBroken (l := l) (s := sd) (τ := τ) (t := t) (a := sd 15 0 f) (b := sd 16 0 f) (T := sd 3 0 4) hk hk2
  rw [bI_f (fun z => z hB)] at ib
  rw [← nI_1] at K
  refine am_vc_ok am_k21 [18, 144] 100 ?_
  refine And.intro (vp_in_nI (N := 690) hf (by decide)) ?_
  rw [nI_clamp (n := f) (by omega)]
  refine And.intro (vp_in_nI (N := 690) hf (by decide)) ?_
  rw [nI_clamp (n := f) (by omega)]
  refine am_vO am_k21 am_h21 rfl rfl rfl rfl (ib) ?_
  refine am_vc_ok am_k21 [18, 144] 100 ?_
  refine And.intro (fun _ => ?_) (fun g => absurd rfl g)
  refine And.intro (vp_in_nI (N := 690) hf (by decide)) ?_
  rw [nI_clamp (n := f) (by omega)]
  refine am_vO am_k21 am_h21 rfl rfl rfl rfl (hD) ?_
  refine am_vc_ok am_k21 [18, 144] 100 ?_
  exact am_Gp [0, 3, 1, 4] rfl K
variable {x : Option am_V}
theorem ml_skip (hf : f < m0) (hm : m0 ≤ 690) (h : ¬ A 88 0 f = 0) (K : MG l 228 23 [(3, aI (nI (f + 1))), (2, aI (nI m0)), (1, aI r), (0, aR 12 0)] A x A2) : MG l 228 23 [(3, aI (nI f)), (2, aI (nI m0)), (1, aI r), (0, aR 12 0)] A x A2 := by
  intro σ τ t
  have K := K σ τ t
  rw [← nI_1] at K
  refine am_vc_ok am_k228 [23, 90] 100 ?_
  refine And.intro (fun g => absurd g (nI_ge (b := m0) (by omega) (by omega))) (fun _ => ?_)
  refine And.intro (vp_in_nI (N := 1200) (show f < 1200 by omega) (by decide)) ?_
  rw [nI_clamp (n := f) (by omega)]
  exact And.intro (fun g => absurd g h) (fun _ => K)
theorem ml_b (hf : f < m0) (hm : m0 ≤ 690) (h : A 88 0 f = 0) (hk : A 12 0 64 = nI k) (hk2 : k ≤ 20) (hB : ¬ bkM A (lineI (A 85 0 f) (A 86 0 f)) (A 12 0 5) k = 0) (K : MG l 228 23 [(3, aI (nI (f + 1))), (2, aI (nI m0)), (1, aI r), (0, aR 12 0)] (u3 A 88 0 f 2) x A2) : MG l 228 23 [(3, aI (nI f)), (2, aI (nI m0)), (1, aI r), (0, aR 12 0)] A x A2 := by
  intro σ τ t
  have ib := m_isBroken (l := l) (s := mrg σ A) (τ := τ) (t := t) (a := A 85 0 f) (b := A 86 0 f) (k := k) hk hk2
  rw [bI_t (show ¬ bkM (mrg σ A) (lineI (A 85 0 f) (A 86 0 f)) (mrg σ A 12 0 5) k = 0 from hB)] at ib
  have K := K σ τ t
  rw [← nI_1, mrg_m rfl] at K
  refine am_vc_ok am_k228 [23, 90] 100 ?_
  refine And.intro (fun g => absurd g (nI_ge (b := m0) (by omega) (by omega))) (fun _ => ?_)
  refine And.intro (vp_in_nI (N := 1200) (show f < 1200 by omega) (by decide)) ?_
  rw [nI_clamp (n := f) (by omega)]
  refine And.intro (fun _ => ?_) (fun g => absurd h g)
  refine And.intro (vp_in_nI (N := 1200) (show f < 1200 by omega) (by decide)) ?_
  rw [nI_clamp (n := f) (by omega)]
  refine And.intro (vp_in_nI (N := 1200) (show f < 1200 by omega) (by decide)) ?_
  rw [nI_clamp (n := f) (by omega)]
  refine am_vO am_k228 am_h228 rfl rfl rfl rfl (ib) ?_
  refine am_vc_ok am_k228 [23, 90] 100 ?_
  refine And.intro (fun g => absurd g (by decide)) (fun _ => ?_)
  refine And.intro (vp_in_nI (N := 1200) (show f < 1200 by omega) (by decide)) ?_
  rw [nI_clamp (n := f) (by omega)]
  refine And.intro (fun g => absurd g (by decide)) (fun _ => ?_)
  exact am_Gp [0, 2, 3, 4] rfl K
theorem ml_t (hf : f < m0) (hm : m0 ≤ 690) (h : A 88 0 f = 0) (hk : A 12 0 64 = nI k) (hk2 : k ≤ 20) (hB : bkM A (lineI (A 85 0 f) (A 86 0 f)) (A 12 0 5) k = 0) (hD : MD l 223 [aR 12 0, aI (nI f)] (u3 A 88 0 f 1) none A1) (K : MG l 228 23 [(3, aI (nI (f + 1))), (2, aI (nI m0)), (1, aI (r + 1)), (0, aR 12 0)] A1 x A2) : MG l 228 23 [(3, aI (nI f)), (2, aI (nI m0)), (1, aI r), (0, aR 12 0)] A x A2 := by
  intro σ τ t
  have ib := m_isBroken (l := l) (s := mrg σ A) (τ := τ) (t := t) (a := A 85 0 f) (b := A 86 0 f) (k := k) hk hk2
  rw [bI_f (show ¬ ¬ bkM (mrg σ A) (lineI (A 85 0 f) (A 86 0 f)) (mrg σ A 12 0 5) k = 0 from fun z => z hB)] at ib
  have K := K σ τ t
  rw [← nI_1] at K
  have hD := hD σ τ t
  rw [mrg_m rfl] at hD
  refine am_vc_ok am_k228 [23, 90] 100 ?_
  refine And.intro (fun g => absurd g (nI_ge (b := m0) (by omega) (by omega))) (fun _ => ?_)
  refine And.intro (vp_in_nI (N := 1200) (show f < 1200 by omega) (by decide)) ?_
  rw [nI_clamp (n := f) (by omega)]
  refine And.intro (fun _ => ?_) (fun g => absurd h g)
  refine And.intro (vp_in_nI (N := 1200) (show f < 1200 by omega) (by decide)) ?_
  rw [nI_clamp (n := f) (by omega)]
  refine And.intro (vp_in_nI (N := 1200) (show f < 1200 by omega) (by decide)) ?_
  rw [nI_clamp (n := f) (by omega)]
  refine am_vO am_k228 am_h228 rfl rfl rfl rfl (ib) ?_
  refine am_vc_ok am_k228 [23, 90] 100 ?_
  refine And.intro (fun _ => ?_) (fun g => absurd rfl g)
  refine And.intro (vp_in_nI (N := 1200) (show f < 1200 by omega) (by decide)) ?_
  rw [nI_clamp (n := f) (by omega)]
  refine And.intro (fun _ => ?_) (fun g => absurd rfl g)
  refine am_vO am_k228 am_h228 rfl rfl rfl rfl (hD) ?_
  refine am_vc_ok am_k228 [23, 90] 100 ?_
  exact am_Gp [0, 3, 1, 4] rfl K
theorem ml_end (K : MG l 228 90 [(3, aI (nI m0)), (2, aI (nI m0)), (1, aI r), (0, aR 12 0)] A x A2) : MG l 228 23 [(3, aI (nI m0)), (2, aI (nI m0)), (1, aI r), (0, aR 12 0)] A x A2 := by
  intro σ τ t
  have K := K σ τ t
  refine am_vc_ok am_k228 [23, 90] 100 ?_
  exact And.intro (fun _ => K) (fun g => absurd (Int32.le_refl _) g)
theorem ml_pre (hm : m0 ≤ 690) (hlo : lo ≤ m0) (h : ∀ f, f < lo → ¬ A 88 0 f = 0) (K : MG l 228 23 [(3, aI (nI lo)), (2, aI (nI m0)), (1, aI r), (0, aR 12 0)] A x A2) : ∀ (d f : Nat), f + d = lo → MG l 228 23 [(3, aI (nI f)), (2, aI (nI m0)), (1, aI r), (0, aR 12 0)] A x A2
  | 0, f, e => by
    obtain rfl : f = lo := by omega
    exact K
  | d + 1, f, e => ml_skip (by omega) hm (h f (by omega)) (ml_pre hm hlo h K d (f + 1) (by omega))
end L92
