/-! CASES OF THE LAW: handOn -/
section L22
variable {l : Launch} {σ σ2 s : tI} {τ τ2 : tL} {t : Option (Nat × Nat)}
abbrev xapp (σ : tI) (r q n1 n2 : Nat) : tI := u3 (cp3 σ 30 r 30 q 0 n1 n2) 6 r 1 (nI (n1 + n2))
theorem x_addAll {r q n1 n2 : Nat} (h1 : σ 6 r 1 = nI n1) (h2 : σ 6 q 1 = nI n2) (hr : lX 30 r = 60) (hq : n2 ≤ lX 30 q) (hs : n1 + n2 ≤ 60) : am_D l 60 [aR 6 r, aR 6 q] σ τ (rX t) cX lX none (xapp σ r q n1 n2) τ (rX t) := by
  have e1 : nI 60 - nI n1 = nI (60 - n1) := nI_sub' (by omega)
  have e2 : ¬ nI (60 - n1) < nI n2 := Int32.not_lt.mpr (nI_le (by omega) (by omega))
  refine am_D_of am_o60 am_l60 rfl ?_
  refine am_vc_ok am_k60 [] 100 ?_
  refine am_vMin am_k60 am_h60 rfl rfl ?_
  rw [h1, h2, hr, e1, if_neg e2]
  refine am_vc_ok am_k60 [] 100 ?_
  refine am_vA am_k60 am_h60 rfl rfl rfl rfl (by decide) (by rw [h1]; exact nI_pos (by omega)) (nI_pos (by omega)) (by rw [nI_clamp (n := n2) (by omega)]; show 0 + n2 ≤ _; omega) (by rw [h1, nI_clamp (n := n2) (by omega), nI_clamp (n := n1) (by omega), hr]; exact hs) ?_
  rw [h1, nI_clamp (n := n2) (by omega), nI_clamp (n := n1) (by omega)]
  refine am_vc_ok am_k60 [] 100 ?_
  refine am_vV am_k60 am_r60 rfl ⟨rfl, ?_, rfl, rfl, rfl, rfl⟩
  have e3 : cp3 σ 30 r 30 q 0 n1 n2 6 r 1 = nI n1 := by simp [cp3, h1]
  show u3 (cp3 σ 30 r 30 q (Int32.toNatClampNeg 0) n1 n2) 6 r 1 (cp3 σ 30 r 30 q (Int32.toNatClampNeg 0) n1 n2 6 r 1 + nI n2) = _
  rw [show Int32.toNatClampNeg 0 = 0 from rfl, e3, nI_add]
theorem x_handOn_far {j n1 n2 : Nat} (hj : j < 6) (h0 : ¬ σ 6 (10 + j) 0 = 0) (h1 : σ 6 (10 + j) 1 = nI n1) (h2 : σ 6 2 1 = nI n2) (hn1 : n1 ≤ 60) (hn2 : n2 ≤ 60) (hs : 60 < n1 + n2) : am_D l 108 [aR 11 0, aI (nI j)] σ τ (rX t) cX lX (some (aI (-3))) (xfind 2 σ) τ (rX t) := by
  refine am_D_of am_o108 am_l108 rfl ?_
  refine am_vc_ok am_k108 [] 100 ?_
  refine am_vS am_k108 am_h108 rfl rfl rfl rfl (x_within) ?_
  refine am_vc_ok am_k108 [] 100 ?_
  refine And.intro (fun g => absurd (in6 hj) (bI_0.mp g)) (fun _ => ?_)
  refine And.intro (vp_in_nI (N := 6) hj (by decide)) ?_
  rw [nI_clamp (n := j) (by omega)]
  refine And.intro (fun g => absurd g h0) (fun _ => ?_)
  refine And.intro (vp_in_nI (N := 6) hj (by decide)) ?_
  rw [nI_clamp (n := j) (by omega)]
  refine And.intro (fun g => absurd (show σ 6 (10 + j) 1 + σ 6 2 1 ≤ 60 from g) (by rw [h1, h2, nI_add]; exact nI_ge (b := n1 + n2) (a := 60) (by omega) (by omega))) (fun _ => ?_)
  refine am_vO am_k108 am_h108 rfl rfl rfl rfl (x_find (w := 2) (by decide)) ?_
  refine am_vc_ok am_k108 [] 100 ?_
  exact am_vI am_k108 am_r108 rfl ⟨rfl, rfl, rfl, rfl, rfl, rfl⟩
theorem x_handOn {j n1 n2 : Nat} (hj : j < 6) (h0 : ¬ σ 6 (10 + j) 0 = 0) (h1 : σ 6 (10 + j) 1 = nI n1) (h2 : σ 6 2 1 = nI n2) (hs : n1 + n2 ≤ 60) : am_D l 108 [aR 11 0, aI (nI j)] σ τ (rX t) cX lX (some (aI (nI (n1 + n2)))) (xapp σ (10 + j) 2 n1 n2) τ (rX t) := by
  have hr : lX 30 (10 + j) = 60 := lX_row (by omega)
  refine am_D_of am_o108 am_l108 rfl ?_
  refine am_vc_ok am_k108 [] 100 ?_
  refine am_vS am_k108 am_h108 rfl rfl rfl rfl (x_within) ?_
  refine am_vc_ok am_k108 [] 100 ?_
  refine And.intro (fun g => absurd (in6 hj) (bI_0.mp g)) (fun _ => ?_)
  refine And.intro (vp_in_nI (N := 6) hj (by decide)) ?_
  rw [nI_clamp (n := j) (by omega)]
  refine And.intro (fun g => absurd g h0) (fun _ => ?_)
  refine And.intro (vp_in_nI (N := 6) hj (by decide)) ?_
  rw [nI_clamp (n := j) (by omega)]
  refine And.intro (fun _ => ?_) (fun g => absurd (show σ 6 (10 + j) 1 + σ 6 2 1 ≤ 60 by rw [h1, h2, nI_add]; exact nI_le (b := 60) hs (by decide)) g)
  refine And.intro (vp_in_nI (N := 6) hj (by decide)) ?_
  rw [nI_clamp (n := j) (by omega)]
  refine am_vO am_k108 am_h108 rfl rfl rfl rfl (x_addAll h1 h2 hr (by rw [lX_row (r := 2) (by omega)]; omega) hs) ?_
  refine am_vc_ok am_k108 [] 100 ?_
  refine And.intro (vp_in_nI (N := 6) hj (by decide)) ?_
  rw [nI_clamp (n := j) (by omega)]
  refine am_vI am_k108 am_r108 rfl ⟨?_, rfl, rfl, rfl, rfl, rfl⟩
  simp [xapp, u3]
theorem m_handOn_far {j n1 n2 : Nat} (hj : j < 6) (h1 : σ 47 0 j = nI n1) (h2 : σ 12 0 24 = nI n2) (hn1 : n1 ≤ 60) (hn2 : n2 ≤ 60) (hs : 60 < n1 + n2) : am_D l 193 [aR 12 0, aI (nI j)] σ τ (rX t) cX lX (some (aI (-3))) (mmeets 2 σ) τ (rX t) := by
  have h0 : ¬ σ 47 0 j < 0 := by rw [h1]; exact nI_pos (by omega)
  refine am_D_of am_o193 am_l193 rfl ?_
  refine am_vc_ok am_k193 [36] 100 ?_
  refine am_vO am_k193 am_h193 rfl rfl rfl rfl (m_askedText hj) ?_
  refine am_vc_ok am_k193 [36] 100 ?_
  simp only [if_neg h0]
  refine And.intro (fun _ => ?_) (fun g => absurd (by decide) g)
  refine And.intro (vp_in_nI (N := 6) hj (by decide)) ?_
  rw [nI_clamp (n := j) (by omega)]
  refine And.intro (fun g => absurd (show σ 47 0 j + σ 12 0 24 ≤ 60 from g) (by rw [h1, h2, nI_add]; exact nI_ge (b := n1 + n2) (a := 60) (by omega) (by omega))) (fun _ => ?_)
  refine am_vO am_k193 am_h193 rfl rfl rfl rfl (m_meets (w := 2) (by decide)) ?_
  refine am_vc_ok am_k193 [36] 100 ?_
  exact am_vI am_k193 am_r193 rfl ⟨rfl, rfl, rfl, rfl, rfl, rfl⟩
abbrev mapp (σ : tI) (j n1 c : Nat) : tI := u3 (cp3 σ 48 0 56 0 0 (60 * j + n1) c) 47 0 j (nI (n1 + c))
theorem mapp_s {j n1 c : Nat} : u3 (u3 (mapp σ j n1 c) 48 0 (60 * j + (n1 + c)) (σ 56 0 c)) 47 0 j (nI (n1 + c) + 1) = mapp σ j n1 (c + 1) := by
  rw [show nI (n1 + c) + 1 = nI (n1 + (c + 1)) from nI_1 (n1 + c)]
  unfold mapp
  rw [u3_comm (show 47 ≠ 48 by decide), u3_twice]
  congr 1
  have e := cp3_1 (σ := σ) (k1 := 48) (o1 := 0) (k0 := 56) (o0 := 0) (sp := 0) (dp := 60 * j + n1) (n := c)
  rw [Nat.zero_add] at e
  rw [← e, Nat.add_assoc]
theorem m_hand_lp {Q : tQ} {j n1 n2 : Nat} {b : Int32} (hj : j < 6) (h2 : σ 12 0 24 = nI n2) (hs : n1 + n2 ≤ 60) (K : am_G l 193 Q 0 0 82 [(3, aI (nI n2)), (2, aI b), (0, aR 12 0), (1, aI (nI j))] [] (mapp σ j n1 n2) τ (rX t) cX lX) : ∀ (d c : Nat), c + d = n2 → am_G l 193 Q 0 0 36 [(3, aI (nI c)), (2, aI b), (0, aR 12 0), (1, aI (nI j))] [] (mapp σ j n1 c) τ (rX t) cX lX
  | 0, c, h => by
    obtain rfl : c = n2 := by omega
    have e1 : mapp σ j n1 c 12 0 24 = nI c := by simp [mapp, cp3, u3, h2]
    refine am_vc_ok am_k193 [36, 82] 100 ?_
    exact And.intro (fun _ => K) (fun g => absurd (by rw [e1]; exact Int32.le_refl _) g)
  | d + 1, c, h => by
    have K2 := m_hand_lp hj h2 hs K d (c + 1) (by omega)
    have e1 : mapp σ j n1 c 12 0 24 = nI n2 := by simp [mapp, cp3, u3, h2]
    have e2 : mapp σ j n1 c 47 0 j = nI (n1 + c) := by simp [mapp, u3]
    have e3 : mapp σ j n1 c 56 0 c = σ 56 0 c := by simp [mapp, cp3, u3]
    have e5 : u3 (mapp σ j n1 c) 48 0 (60 * j + (n1 + c)) (σ 56 0 c) 47 0 j = nI (n1 + c) := by rw [u3_k _ _ (by decide), e2]
    refine am_vc_ok am_k193 [36, 82] 100 ?_
    refine And.intro (fun g => absurd g (by rw [e1]; exact nI_ge (b := n2) (by omega) (by omega))) (fun _ => ?_)
    refine And.intro (vp_in_nI (N := 6) hj (by decide)) ?_
    rw [nI_clamp (n := j) (by omega), e2]
    refine And.intro (vp_in_nI (N := 60) (by omega) (by decide)) ?_
    rw [nI_clamp (n := c) (by omega), e3]
    refine And.intro (by rw [n60]; exact vp_in_nI (N := 360) (by omega) (by decide)) ?_
    rw [n60, nI_clamp (n := 60 * j + (n1 + c)) (by omega)]
    refine And.intro (vp_in_nI (N := 6) hj (by decide)) ?_
    rw [nI_clamp (n := j) (by omega), e5]
    refine And.intro (vp_in_nI (N := 6) hj (by decide)) ?_
    rw [nI_clamp (n := j) (by omega)]
    refine am_Gs mapp_s ?_
    rw [← nI_1] at K2
    exact K2
theorem m_handOn {j n1 n2 : Nat} (hj : j < 6) (h1 : σ 47 0 j = nI n1) (h2 : σ 12 0 24 = nI n2) (hs : n1 + n2 ≤ 60) : am_D l 193 [aR 12 0, aI (nI j)] σ τ (rX t) cX lX (some (aI (nI (n1 + n2)))) (mapp σ j n1 n2) τ (rX t) := by
  have h0 : ¬ σ 47 0 j < 0 := by rw [h1]; exact nI_pos (by omega)
  have hs0 : σ = mapp σ j n1 0 := by
    unfold mapp
    rw [cp3_0, u3_self (by rw [h1]; rfl)]
  refine am_D_of am_o193 am_l193 rfl ?_
  refine am_vc_ok am_k193 [36, 82] 100 ?_
  refine am_vO am_k193 am_h193 rfl rfl rfl rfl (m_askedText hj) ?_
  refine am_vc_ok am_k193 [36, 82] 100 ?_
  simp only [if_neg h0]
  refine And.intro (fun _ => ?_) (fun g => absurd (by decide) g)
  refine And.intro (vp_in_nI (N := 6) hj (by decide)) ?_
  rw [nI_clamp (n := j) (by omega)]
  refine And.intro (fun _ => ?_) (fun g => absurd (show σ 47 0 j + σ 12 0 24 ≤ 60 by rw [h1, h2, nI_add]; exact nI_le (b := 60) hs (by decide)) g)
  refine am_Gs hs0 ?_
  refine m_hand_lp hj h2 hs ?_ n2 0 (by omega)
  refine am_vc_ok am_k193 [] 100 ?_
  refine And.intro (vp_in_nI (N := 6) hj (by decide)) ?_
  rw [nI_clamp (n := j) (by omega)]
  refine am_vI am_k193 am_r193 rfl ⟨?_, rfl, rfl, rfl, rfl, rfl⟩
  simp [mapp, u3]
theorem xapp_k {r q n1 n2 k : Nat} (h1 : k ≠ 6) (h2 : k ≠ 30) : xapp σ r q n1 n2 k = σ k := by
  funext a b
  simp [xapp, cp3, u3, h1, h2]
theorem LC_handOn (h : Rall σ τ) (r : Int32) : LC l 108 193 [aI r] σ τ t := by
  by_cases hr : 0 ≤ r ∧ r < 6
  · obtain ⟨j, hj, rfl⟩ := ix_lt (n := 6) (by decide) hr
    obtain ⟨⟨n1, b1, c1, d1⟩, hB⟩ := h.2.1 j hj
    obtain ⟨e1, e2, e3, n2, b2, c2, d2, g2⟩ := h.2.2.2.1
    rcases d1 with ⟨d1, z1⟩ | ⟨d1, z1, g1⟩
    · exact LC.of (x_handOn_none hj d1) (m_handOn_none hj (by show σ 47 0 j < 0; rw [z1]; decide)) (h.find (by decide))
    have n01 : ¬ σ 6 (10 + j) 0 = 0 := by rw [d1]; decide
    by_cases hs : n1 + n2 ≤ 60
    · have x1 : xapp σ (10 + j) 2 n1 n2 47 0 j = nI n1 := by rw [xapp_k (by decide) (by decide)]; exact z1
      have x2 : xapp σ (10 + j) 2 n1 n2 12 0 24 = nI n2 := by rw [xapp_k (by decide) (by decide)]; exact d2
      refine LC.of (x_handOn hj n01 c1 c2 hs) (m_handOn hj x1 x2 hs) ?_
      have v6 : ∀ a b, mapp (xapp σ (10 + j) 2 n1 n2) j n1 n2 6 a b = if a = 10 + j ∧ b = 1 then nI (n1 + n2) else σ 6 a b := by
        intro a b
        by_cases z1 : a = 10 + j
        · by_cases z2 : b = 1
          · simp [mapp, xapp, cp3, u3, z1, z2]
          · simp [mapp, xapp, cp3, u3, z1, z2]
        · simp [mapp, xapp, cp3, u3, z1]
      have v30 : ∀ a b, mapp (xapp σ (10 + j) 2 n1 n2) j n1 n2 30 a b = if a = 10 + j ∧ (n1 ≤ b ∧ b < n1 + n2) then σ 30 2 (b - n1) else σ 30 a b := by
        intro a b
        by_cases z1 : a = 10 + j
        · by_cases z2 : n1 ≤ b ∧ b < n1 + n2
          · simp [mapp, xapp, cp3, u3, z1, z2]
          · simp [mapp, xapp, cp3, u3, z1, z2]
        · simp [mapp, xapp, cp3, u3, z1]
      have v47 : ∀ b, mapp (xapp σ (10 + j) 2 n1 n2) j n1 n2 47 0 b = if b = j then nI (n1 + n2) else σ 47 0 b := by
        intro b
        by_cases z1 : b = j
        · simp [mapp, xapp, cp3, u3, z1]
        · simp [mapp, xapp, cp3, u3, z1]
      have v48 : ∀ b, mapp (xapp σ (10 + j) 2 n1 n2) j n1 n2 48 0 b = if 60 * j + n1 ≤ b ∧ b < 60 * j + n1 + n2 then σ 56 0 (b - (60 * j + n1)) else σ 48 0 b := by
        intro b
        by_cases z1 : 60 * j + n1 ≤ b ∧ b < 60 * j + n1 + n2
        · simp [mapp, xapp, cp3, u3, z1]
        · simp [mapp, xapp, cp3, u3, z1]
      refine h.mk (fun q _ _ _ _ _ _ z7 z8 z9 z0 => ?_) (fun q hq => ?_) (fun q hq => ?_) (fun q _ _ => ?_) ?_ (fun r hr => ?_) ?_
      · funext a b
        simp [mapp, xapp, cp3, u3, z7, z8, z9, z0]
      · funext b; rw [v6, if_neg (by omega)]
      · funext b; rw [v30, if_neg (by omega)]
      · simp [mapp, xapp, cp3, u3]
      · refine h.1.fr (fun r hr => ?_) (fun r hr => ?_) ?_ ?_
        · funext b; rw [v6, if_neg (by omega)]
        · funext b; rw [v30, if_neg (by omega)]
        · funext a b; simp [mapp, xapp, cp3, u3]
        · funext a b; simp [mapp, xapp, cp3, u3]
      · by_cases e : r = j
        · subst e
          refine ⟨⟨n1 + n2, hs, ?_, Or.inr ⟨?_, ?_, fun q hq => ?_⟩⟩, fun q hq _ hlt => ?_⟩
          · rw [v6, if_pos ⟨rfl, rfl⟩]
          · rw [v6, if_neg (by omega)]; exact d1
          · rw [v47, if_pos rfl]
          · show mapp (xapp σ (10 + r) 2 n1 n2) r n1 n2 30 (10 + r) q = mapp (xapp σ (10 + r) 2 n1 n2) r n1 n2 48 0 (60 * r + q)
            rw [v30, v48]
            by_cases z : n1 ≤ q
            · rw [if_pos ⟨rfl, by omega⟩, if_pos (by omega), (g2 (q - n1) (by omega)).1]
              congr 1
              omega
            · rw [if_neg (by omega), if_neg (by omega)]
              exact g1 q (by omega)
          · rw [v47, if_pos rfl, i_lt, nI_toInt (by omega), nI_toInt (by omega)] at hlt
            rw [v30]
            by_cases z : n1 ≤ q
            · rw [if_pos ⟨rfl, by omega⟩]
              exact (g2 (q - n1) (by omega)).2
            · rw [if_neg (by omega)]
              refine hB q hq ?_ ?_
              · rw [z1]; exact n9_4 (by omega)
              · rw [z1]; exact nI_lt (by omega) (by omega)
        · obtain ⟨⟨m1, y1, y2, y3⟩, y4⟩ := h.2.1 r hr
          refine ⟨⟨m1, y1, ?_, ?_⟩, fun q hq y5 y6 => ?_⟩
          · rw [v6, if_neg (by omega)]; exact y2
          · rcases y3 with ⟨y3, y5⟩ | ⟨y3, y5, y6⟩
            · exact Or.inl ⟨by rw [v6, if_neg (by omega)]; exact y3, by rw [v47, if_neg e]; exact y5⟩
            · refine Or.inr ⟨by rw [v6, if_neg (by omega)]; exact y3, by rw [v47, if_neg e]; exact y5, fun q hq => ?_⟩
              show mapp (xapp σ (10 + j) 2 n1 n2) j n1 n2 30 (10 + r) q = mapp (xapp σ (10 + j) 2 n1 n2) j n1 n2 48 0 (60 * r + q)
              rw [v30, v48, if_neg (by omega), if_neg (by omega)]
              exact y6 q hq
          · rw [v47, if_neg e] at y5 y6
            rw [v30, if_neg (by omega)]
            exact y4 q hq y5 y6
      · refine h.2.2.2.2.2.1.fr ?_ ?_ ?_ ?_ ?_
        · funext a b; simp [mapp, xapp, cp3, u3]
        · funext a b; simp [mapp, xapp, cp3, u3]
        · funext a b; simp [mapp, xapp, cp3, u3]
        · simp [mapp, xapp, cp3, u3]
        · simp [mapp, xapp, cp3, u3]
    · exact LC.of (x_handOn_far hj n01 c1 c2 b1 b2 (by omega)) (m_handOn_far hj (σ := xfind 2 σ) z1 d2 b1 b2 (by omega)) (h.find (by decide))
  · exact LC.of (x_handOn_bad hr) (m_handOn_bad (not6 hr)) h
end L22
