/-! ticks: calls are watched -/
section L87
variable {l : Launch} {σ σ2 s s0 s1 A A0 A1 A2 : tI} {τ τ2 : tL} {t : Option (Nat × Nat)} {T n m lo k c b a w : Nat}
abbrev wsh (x : Int32) : Int32 := (1 : Int32) <<< (x &&& 31)
theorem x_watch_give (hc : c < 30) (h7 : s 0 c 7 = 0) (hw : s 3 0 6 = nI (w + 1)) (hm : s 1 0 0 = nI m) (hm2 : m < 690) (hL : s 0 c 6 < s 3 0 4) : am_D l 30 [aR 3 0, aI (nI c)] s τ (rX t) cX lX none (xsend (xend s c w 6) m c 6 (s 0 c 0) (s 0 c 1) 6) τ (rX t) := by
  refine am_D_of am_o30 am_l30 rfl ?_
  refine am_vc_ok am_k30 [] 100 ?_
  refine And.intro (vp_in_nI (N := 30) hc (by decide)) ?_
  rw [nI_clamp (n := c) (by omega)]
  refine And.intro (fun z => absurd hL (Int32.not_lt.mpr z)) (fun _ => ?_)
  refine am_vO am_k30 am_h30 rfl rfl rfl rfl (x_giveUp (w := w) (m := m) hc h7 hw hm hm2) ?_
  refine am_vc_ok am_k30 [] 100 ?_
  exact am_vV am_k30 am_r30 rfl ⟨rfl, rfl, rfl, rfl, rfl, rfl⟩
theorem x_watch_no (hc : c < 30) (hL : ¬ s 0 c 6 < s 3 0 4) (hW : s 3 0 4 - s 0 c 10 < s 0 c 3 + 4 + wsh (s 0 c 9)) : am_D l 30 [aR 3 0, aI (nI c)] s τ (rX t) cX lX none s τ (rX t) := by
  refine am_D_of am_o30 am_l30 rfl ?_
  refine am_vc_ok am_k30 [] 100 ?_
  refine And.intro (vp_in_nI (N := 30) hc (by decide)) ?_
  rw [nI_clamp (n := c) (by omega)]
  refine And.intro (fun _ => ?_) (fun z => absurd (Int32.not_lt.mp hL) z)
  refine And.intro (fun _ => ?_) (fun z => absurd hW z)
  exact am_vV am_k30 am_r30 rfl ⟨rfl, rfl, rfl, rfl, rfl, rfl⟩
theorem x_watch_end (hc : c < 30) (h7 : s 0 c 7 = 0) (hw : s 3 0 6 = nI (w + 1)) (hL : ¬ s 0 c 6 < s 3 0 4) (hW : ¬ s 3 0 4 - s 0 c 10 < s 0 c 3 + 4 + wsh (s 0 c 9)) (hP : s 0 c 4 ≤ 0) : am_D l 30 [aR 3 0, aI (nI c)] s τ (rX t) cX lX none (xend s c w 7) τ (rX t) := by
  refine am_D_of am_o30 am_l30 rfl ?_
  refine am_vc_ok am_k30 [] 100 ?_
  refine And.intro (vp_in_nI (N := 30) hc (by decide)) ?_
  rw [nI_clamp (n := c) (by omega)]
  refine And.intro (fun _ => ?_) (fun z => absurd (Int32.not_lt.mp hL) z)
  refine And.intro (fun z => absurd z hW) (fun _ => ?_)
  refine And.intro (fun _ => ?_) (fun z => absurd hP z)
  refine am_vO am_k30 am_h30 rfl rfl rfl rfl (x_end (w := w) hc h7 hw) ?_
  refine am_vc_ok am_k30 [] 100 ?_
  exact am_vV am_k30 am_r30 rfl ⟨rfl, rfl, rfl, rfl, rfl, rfl⟩
theorem x_watch_agn (hc : c < 30) (hm : s 1 0 0 = nI m) (hm2 : m < 690) (hL : ¬ s 0 c 6 < s 3 0 4) (hW : ¬ s 3 0 4 - s 0 c 10 < s 0 c 3 + 4 + wsh (s 0 c 9)) (hP : ¬ s 0 c 4 ≤ 0) : am_D l 30 [aR 3 0, aI (nI c)] s τ (rX t) cX lX none (xsend (u3 (u3 (u3 s 0 c 4 (s 0 c 4 - 1)) 0 c 9 (s 0 c 9 + 1)) 0 c 10 (s 3 0 4)) m c 1 (s 0 c 0) (s 0 c 1) 0) τ (rX t) := by
  have f9 : (u3 s 0 c 4 (s 0 c 4 - 1)) 0 c 9 = s 0 c 9 := by simp [u3]
  have f0 : (u3 (u3 s 0 c 4 (s 0 c 4 - 1)) 0 c 9 (s 0 c 9 + 1)) 0 c 0 = s 0 c 0 := by simp [u3]
  have f1 : (u3 (u3 s 0 c 4 (s 0 c 4 - 1)) 0 c 9 (s 0 c 9 + 1)) 0 c 1 = s 0 c 1 := by simp [u3]
  have f4 : (u3 (u3 s 0 c 4 (s 0 c 4 - 1)) 0 c 9 (s 0 c 9 + 1)) 3 0 4 = s 3 0 4 := rfl
  refine am_D_of am_o30 am_l30 rfl ?_
  refine am_vc_ok am_k30 [] 100 ?_
  refine And.intro (vp_in_nI (N := 30) hc (by decide)) ?_
  rw [nI_clamp (n := c) (by omega)]
  refine And.intro (fun _ => ?_) (fun z => absurd (Int32.not_lt.mp hL) z)
  refine And.intro (fun z => absurd z hW) (fun _ => ?_)
  refine And.intro (fun z => absurd z hP) (fun _ => ?_)
  refine am_vO am_k30 am_h30 rfl rfl rfl rfl (x_nask (m := m) hc (by simp [u3, hm]) hm2) ?_
  refine am_vc_ok am_k30 [] 100 ?_
  refine am_vV am_k30 am_r30 rfl ⟨rfl, ?_, rfl, rfl, rfl, rfl⟩
  rw [f9, f0, f1, f4]
theorem m_go_give (hc : c < 30) (hm : σ 12 0 54 = nI m) (hm2 : m < 690) (hL : σ 69 0 c < σ 12 0 5) : am_D l 226 [aR 12 0, aI (nI c)] σ τ (rX t) cX lX none (msend (mends σ c 6) m 6 (σ 65 0 c) (σ 66 0 c) (nI c) 6) τ (rX t) := by
  refine am_D_of am_o226 am_l226 rfl ?_
  refine am_vc_ok am_k226 [] 100 ?_
  refine And.intro (vp_in_nI (N := 30) hc (by decide)) ?_
  rw [nI_clamp (n := c) (by omega)]
  refine And.intro (fun z => absurd hL (Int32.not_lt.mpr z)) (fun _ => ?_)
  refine am_vO am_k226 am_h226 rfl rfl rfl rfl (m_ends hc) ?_
  refine am_vc_ok am_k226 [] 100 ?_
  refine am_vO am_k226 am_h226 rfl rfl rfl rfl (m_sendOut (m := m) hc (by simp [mends, u3, hm]) hm2) ?_
  refine am_vc_ok am_k226 [] 100 ?_
  exact am_vV am_k226 am_r226 rfl ⟨rfl, rfl, rfl, rfl, rfl, rfl⟩
theorem m_go_no (hc : c < 30) (hL : ¬ σ 69 0 c < σ 12 0 5) (hW : σ 12 0 5 - σ 76 0 c < σ 68 0 c + 4 + wsh (σ 72 0 c)) : am_D l 226 [aR 12 0, aI (nI c)] σ τ (rX t) cX lX none σ τ (rX t) := by
  refine am_D_of am_o226 am_l226 rfl ?_
  refine am_vc_ok am_k226 [] 100 ?_
  refine And.intro (vp_in_nI (N := 30) hc (by decide)) ?_
  rw [nI_clamp (n := c) (by omega)]
  refine And.intro (fun _ => ?_) (fun z => absurd (Int32.not_lt.mp hL) z)
  refine And.intro (vp_in_nI (N := 30) hc (by decide)) ?_
  refine And.intro (vp_in_nI (N := 30) hc (by decide)) ?_
  refine And.intro (vp_in_nI (N := 30) hc (by decide)) ?_
  rw [nI_clamp (n := c) (by omega)]
  refine And.intro (fun _ => ?_) (fun z => absurd hW z)
  exact am_vV am_k226 am_r226 rfl ⟨rfl, rfl, rfl, rfl, rfl, rfl⟩
theorem m_go_end (hc : c < 30) (hL : ¬ σ 69 0 c < σ 12 0 5) (hW : ¬ σ 12 0 5 - σ 76 0 c < σ 68 0 c + 4 + wsh (σ 72 0 c)) (hP : σ 70 0 c = 0) : am_D l 226 [aR 12 0, aI (nI c)] σ τ (rX t) cX lX none (mends σ c 7) τ (rX t) := by
  refine am_D_of am_o226 am_l226 rfl ?_
  refine am_vc_ok am_k226 [] 100 ?_
  refine And.intro (vp_in_nI (N := 30) hc (by decide)) ?_
  rw [nI_clamp (n := c) (by omega)]
  refine And.intro (fun _ => ?_) (fun z => absurd (Int32.not_lt.mp hL) z)
  refine And.intro (vp_in_nI (N := 30) hc (by decide)) ?_
  refine And.intro (vp_in_nI (N := 30) hc (by decide)) ?_
  refine And.intro (vp_in_nI (N := 30) hc (by decide)) ?_
  rw [nI_clamp (n := c) (by omega)]
  refine And.intro (fun z => absurd z hW) (fun _ => ?_)
  refine And.intro (vp_in_nI (N := 30) hc (by decide)) ?_
  rw [nI_clamp (n := c) (by omega)]
  refine And.intro (fun _ => ?_) (fun z => absurd hP z)
  refine am_vO am_k226 am_h226 rfl rfl rfl rfl (m_ends hc) ?_
  refine am_vc_ok am_k226 [] 100 ?_
  exact am_vV am_k226 am_r226 rfl ⟨rfl, rfl, rfl, rfl, rfl, rfl⟩
def agM (A : tI) (c m : Nat) : tI := msend (u3 (u3 (u3 A 70 0 c (A 70 0 c - 1)) 72 0 c (A 72 0 c + 1)) 76 0 c (A 12 0 5)) m 1 (A 65 0 c) (A 66 0 c) (nI c) (A 72 0 c + 1)
theorem m_go_agn (hc : c < 30) (hm : σ 12 0 54 = nI m) (hm2 : m < 690) (hL : ¬ σ 69 0 c < σ 12 0 5) (hW : ¬ σ 12 0 5 - σ 76 0 c < σ 68 0 c + 4 + wsh (σ 72 0 c)) (hP : ¬ σ 70 0 c = 0) : am_D l 226 [aR 12 0, aI (nI c)] σ τ (rX t) cX lX none (agM σ c m) τ (rX t) := by
  have f72 : ∀ v w x : Int32, (u3 (u3 (u3 σ 70 0 c v) 72 0 c w) 76 0 c x) 72 0 c = w := fun v w x => by simp [u3]
  unfold agM
  refine am_D_of am_o226 am_l226 rfl ?_
  refine am_vc_ok am_k226 [] 100 ?_
  refine And.intro (vp_in_nI (N := 30) hc (by decide)) ?_
  rw [nI_clamp (n := c) (by omega)]
  refine And.intro (fun _ => ?_) (fun z => absurd (Int32.not_lt.mp hL) z)
  refine And.intro (vp_in_nI (N := 30) hc (by decide)) ?_
  refine And.intro (vp_in_nI (N := 30) hc (by decide)) ?_
  refine And.intro (vp_in_nI (N := 30) hc (by decide)) ?_
  rw [nI_clamp (n := c) (by omega)]
  refine And.intro (fun z => absurd z hW) (fun _ => ?_)
  refine And.intro (vp_in_nI (N := 30) hc (by decide)) ?_
  rw [nI_clamp (n := c) (by omega)]
  refine And.intro (fun z => absurd z hP) (fun _ => ?_)
  refine And.intro (vp_in_nI (N := 30) hc (by decide)) ?_
  refine And.intro (vp_in_nI (N := 30) hc (by decide)) ?_
  rw [nI_clamp (n := c) (by omega)]
  refine And.intro (vp_in_nI (N := 30) hc (by decide)) ?_
  refine And.intro (vp_in_nI (N := 30) hc (by decide)) ?_
  rw [nI_clamp (n := c) (by omega)]
  refine And.intro (vp_in_nI (N := 30) hc (by decide)) ?_
  rw [nI_clamp (n := c) (by omega)]
  refine And.intro (vp_in_nI (N := 30) hc (by decide)) ?_
  rw [nI_clamp (n := c) (by omega), f72]
  refine am_vO am_k226 am_h226 rfl rfl rfl rfl (m_sendOut (m := m) hc (by simp [u3, hm]) hm2) ?_
  refine am_vc_ok am_k226 [] 100 ?_
  exact am_vV am_k226 am_r226 rfl ⟨rfl, rfl, rfl, rfl, rfl, rfl⟩
theorem mrg_mends {h : Int32} : mends (mrg s A) c h = mrg s (mends A c h) := by
  unfold mends
  rw [mrg_m rfl, mrg_m rfl]
  rfl
theorem mrg_agM : agM (mrg s A) c m = mrg s (agM A c m) := by
  unfold agM
  rw [← mrg_msend, mrg_m rfl, mrg_m rfl, mrg_m rfl]
  rfl
variable {z r : Int32}
theorem mg_end (hR : Rnet (mrg s A) T n m lo k) : MG l 228 130 [(3, aI (nI n)), (2, aI z), (1, aI r), (0, aR 12 0)] A (some (aI r)) A := by
  intro σ τ t
  refine am_vc_ok am_k228 [130] 100 ?_
  refine And.intro (fun _ => ?_) (fun g => absurd (show A 12 0 34 ≤ nI n by rw [show A 12 0 34 = nI n from hR.split.1.2.1.2.1]; exact Int32.le_refl _) g)
  exact am_vI am_k228 am_r228 rfl ⟨rfl, rfl, rfl, rfl, rfl, rfl⟩
theorem mg_skip (hR : Rnet (mrg s A) T n m lo k) (hc : c < n) (h : ¬ A 71 0 c = 0) (K : MG l 228 130 [(3, aI (nI (c + 1))), (2, aI z), (1, aI r), (0, aR 12 0)] A (some (aI r)) A1) : MG l 228 130 [(3, aI (nI c)), (2, aI z), (1, aI r), (0, aR 12 0)] A (some (aI r)) A1 := by
  intro σ τ t
  have hn2 := hR.split.1.2.1.2.2
  have hn : A 12 0 34 = nI n := hR.split.1.2.1.2.1
  have K := K σ τ t
  rw [← nI_1] at K
  refine am_vc_ok am_k228 [130] 100 ?_
  refine And.intro (fun g => absurd (show nI n ≤ nI c by rw [← hn]; exact g) (nI_ge (b := n) (by omega) (by omega))) (fun _ => ?_)
  refine And.intro (vp_in_nI (N := 30) (show c < 30 by omega) (by decide)) ?_
  rw [nI_clamp (n := c) (by omega)]
  exact And.intro (fun g => absurd g h) (fun _ => K)
theorem mg_step (hR : Rnet (mrg s A) T n m lo k) (hc : c < n) (h : A 71 0 c = 0) (hD : MD l 226 [aR 12 0, aI (nI c)] A none A2) (K : MG l 228 130 [(3, aI (nI (c + 1))), (2, aI z), (1, aI r), (0, aR 12 0)] A2 (some (aI r)) A1) : MG l 228 130 [(3, aI (nI c)), (2, aI z), (1, aI r), (0, aR 12 0)] A (some (aI r)) A1 := by
  intro σ τ t
  have hn2 := hR.split.1.2.1.2.2
  have hn : A 12 0 34 = nI n := hR.split.1.2.1.2.1
  have K := K σ τ t
  rw [← nI_1] at K
  refine am_vc_ok am_k228 [130] 100 ?_
  refine And.intro (fun g => absurd (show nI n ≤ nI c by rw [← hn]; exact g) (nI_ge (b := n) (by omega) (by omega))) (fun _ => ?_)
  refine And.intro (vp_in_nI (N := 30) (show c < 30 by omega) (by decide)) ?_
  rw [nI_clamp (n := c) (by omega)]
  refine And.intro (fun _ => ?_) (fun g => absurd h g)
  refine am_vO am_k228 am_h228 rfl rfl rfl rfl (hD σ τ t) ?_
  refine am_vc_ok am_k228 [130] 100 ?_
  exact K
theorem mg_rest (hR : Rnet (mrg s A) T n m lo k) : ∀ (d c : Nat), c + d = n → (∀ c2, c ≤ c2 → c2 < n → ¬ A 71 0 c2 = 0) → MG l 228 130 [(3, aI (nI c)), (2, aI z), (1, aI r), (0, aR 12 0)] A (some (aI r)) A
  | 0, c, h, _ => by
    obtain rfl : c = n := by omega
    exact mg_end hR
  | d + 1, c, h, hz => mg_skip hR (by omega) (hz c (Nat.le_refl _) (by omega)) (mg_rest hR d (c + 1) (by omega) (fun c2 h1 h2 => hz c2 (by omega) h2))
/-- no ask of call c or a later one among the frames from lo on -/
def WA (A : tI) (lo m c : Nat) : Prop := ∀ f, lo ≤ f → f < m → A 84 0 f = 1 → ∀ c2, c ≤ c2 → c2 < 30 → ¬ A 89 0 f = nI c2
theorem WA.same (h : WA A lo m c) (e : A1 84 = A 84) (e2 : A1 89 = A 89) : WA A1 lo m (c + 1) := by
  unfold WA at h ⊢
  rw [e, e2]
  exact fun f h1 h2 h3 c2 h4 h5 => h f h1 h2 h3 c2 (by omega) h5
theorem WA.snd {kd x y d : Int32} (h : WA A lo m c) (hc : c < 30) (e : A1 84 = A 84) (e2 : A1 89 = A 89) : WA (msend A1 m kd x y (nI c) d) lo (m + 1) (c + 1) := by
  intro f h1 h2 h3 c2 h4 h5 h6
  by_cases ef : f = m
  · subst ef
    have : nI c = nI c2 := by simpa [msend, u3] using h6
    have := (nI_eq (by omega) (by omega)).mp this
    omega
  · have e84 : msend A1 m kd x y (nI c) d 84 0 f = A 84 0 f := by
      rw [← e]
      simp [msend, u3, ef]
    have e89 : msend A1 m kd x y (nI c) d 89 0 f = A 89 0 f := by
      rw [← e2]
      simp [msend, u3, ef]
    exact h f h1 (by omega) (e84.symm.trans h3) c2 (by omega) h5 (e89.symm.trans h6)
end L87
