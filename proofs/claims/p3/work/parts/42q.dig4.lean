/-! digest: the model's side -/
section L34
variable {l : Launch} {σ σ2 : tI} {τ τ2 : tL} {t : Option (Nat × Nat)}
def tH (τ : tL) (h : Int64) : tL := u3 τ 12 0 68 h
theorem u3L_twice {f : tL} {k i j : Nat} {v w : Int64} : u3 (u3 f k i j v) k i j w = u3 f k i j w := by
  funext a b c
  unfold u3
  by_cases h1 : a = k
  · by_cases h2 : b = i
    · by_cases h3 : c = j
      · simp [h1, h2, h3]
      · simp [h3]
    · simp [h2]
  · simp [h1]
theorem m_mix {h : Int64} {v : Int32} : am_D l 254 [aR 12 0, aI v] σ (tH τ h) (rX t) cX lX none σ (tH τ (mx h v)) (rX t) := by
  refine am_D_of am_o254 am_l254 rfl ?_
  refine am_vc_ok am_k254 [] 100 ?_
  refine am_vV am_k254 am_r254 rfl ⟨rfl, rfl, ?_, rfl, rfl, rfl⟩
  have e : tH τ h 12 0 68 = h := by simp [tH, u3]
  show u3 (tH τ h) 12 0 68 (31 * tH τ h 12 0 68 + v.toInt64) = _
  rw [e]
  unfold tH
  rw [u3L_twice]
theorem m_sh3 {Q : tQ} {g : Int64} {s i : Nat} (hs : s < 4) (hi : i < 12) (K : am_G l 255 Q 0 0 66 [(3, aI (nI 6)), (2, aI (nI i)), (1, aI (nI s)), (0, aR 12 0)] [] σ (tH τ (mxN g (fun w => σ 50 0 (72 * s + 6 * i + w)) 6)) (rX t) cX lX) : ∀ (d k : Nat) (v : Int64), k + d = 6 → v = mxN g (fun w => σ 50 0 (72 * s + 6 * i + w)) k → am_G l 255 Q 0 0 44 [(3, aI (nI k)), (2, aI (nI i)), (1, aI (nI s)), (0, aR 12 0)] [] σ (tH τ v) (rX t) cX lX
  | 0, k, v, h, hv => by
    obtain rfl : k = 6 := by omega
    rw [hv]
    refine am_vc_ok am_k255 [44, 66] 100 ?_
    exact And.intro (fun _ => K) (fun h1 => absurd (show (5 : Int32) < nI 6 by decide) h1)
  | d + 1, k, v, h, hv => by
    have K2 := m_sh3 hs hi K d (k + 1) (mx v (σ 50 0 (72 * s + 6 * i + k))) (by omega) (by rw [hv]; rfl)
    refine am_vc_ok am_k255 [44, 66] 100 ?_
    refine And.intro (fun h1 => absurd h1 (Int32.not_lt.mpr (nI_le (b := 5) (by omega) (by decide)))) (fun _ => ?_)
    refine am_vO am_k255 am_h255 rfl rfl rfl rfl (m_part hs hi (by omega)) ?_
    refine am_vc_ok am_k255 [44, 66] 100 ?_
    refine am_vO am_k255 am_h255 rfl rfl rfl rfl (m_mix) ?_
    refine am_vc_ok am_k255 [44, 66] 100 ?_
    rw [← nI_1 k] at K2
    exact K2
theorem m_sh2 {Q : tQ} {g : Int64} {s n : Nat} (hs : s < 4) (hn : σ 49 0 s = nI n) (hn2 : n ≤ 12) (K : am_G l 255 Q 0 0 72 [(2, aI (nI n)), (1, aI (nI s)), (0, aR 12 0)] [] σ (tH τ (mxI g (fun k w => σ 50 0 (72 * s + 6 * k + w)) 6 n)) (rX t) cX lX) : ∀ (d k : Nat) (v : Int64), k + d = n → v = mxI g (fun k w => σ 50 0 (72 * s + 6 * k + w)) 6 k → am_G l 255 Q 0 0 32 [(2, aI (nI k)), (1, aI (nI s)), (0, aR 12 0)] [] σ (tH τ v) (rX t) cX lX
  | 0, k, v, h, hv => by
    obtain rfl : k = n := by omega
    rw [hv]
    refine am_vc_ok am_k255 [32, 72] 100 ?_
    refine And.intro (vp_in_nI (N := 4) hs (by decide)) ?_
    rw [nI_clamp (n := s) (by omega), hn]
    exact And.intro (fun _ => K) (fun h1 => absurd (Int32.le_refl _) h1)
  | d + 1, k, v, h, hv => by
    have K2 := m_sh2 hs hn hn2 K d (k + 1) (mxN v (fun w => σ 50 0 (72 * s + 6 * k + w)) 6) (by omega) (by rw [hv]; rfl)
    refine am_vc_ok am_k255 [32, 44, 72] 100 ?_
    refine And.intro (vp_in_nI (N := 4) hs (by decide)) ?_
    rw [nI_clamp (n := s) (by omega), hn]
    refine And.intro (fun h1 => absurd h1 (nI_ge (b := n) (by omega) (by omega))) (fun _ => ?_)
    refine m_sh3 (g := v) hs (by omega) ?_ 6 0 _ (by omega) rfl
    refine am_vc_ok am_k255 [32] 100 ?_
    rw [← nI_1 k] at K2
    exact am_Gp [0, 2, 3] rfl K2
def mSh (σ : tI) (s : Nat) (h : Int64) : Int64 := if σ 49 0 s < 0 then mx h (-1) else mxI (mx h (σ 49 0 s)) (fun k w => σ 50 0 (72 * s + 6 * k + w)) 6 (σ 49 0 s).toNatClampNeg
theorem m_sh1 {Q : tQ} {g : Int64} (hR : ∀ s, s < 4 → σ 49 0 s = -9 ∨ ∃ n, n ≤ 12 ∧ σ 49 0 s = nI n) (K : am_G l 255 Q 0 0 78 [(1, aI (nI 4)), (0, aR 12 0)] [] σ (tH τ (fN g (mSh σ) 4)) (rX t) cX lX) : ∀ (d k : Nat) (v : Int64), k + d = 4 → v = fN g (mSh σ) k → am_G l 255 Q 0 0 2 [(1, aI (nI k)), (0, aR 12 0)] [] σ (tH τ v) (rX t) cX lX
  | 0, k, v, h, hv => by
    obtain rfl : k = 4 := by omega
    rw [hv]
    refine am_vc_ok am_k255 [2, 78] 100 ?_
    exact And.intro (fun _ => K) (fun h1 => absurd (show (4 : Int32) ≤ nI 4 by decide) h1)
  | d + 1, k, v, h, hv => by
    have hk : k < 4 := by omega
    have K2 := m_sh1 hR K d (k + 1) (mSh σ k v) (by omega) (by rw [hv]; rfl)
    rw [← nI_1 k] at K2
    rcases hR k hk with z | ⟨n, hn2, z⟩
    · have e : mSh σ k v = mx v (-1) := by unfold mSh; rw [if_pos (by rw [z]; decide)]
      rw [e] at K2
      refine am_vc_ok am_k255 [2, 78] 100 ?_
      refine And.intro (fun h1 => absurd h1 (nI_ge (b := 4) (by omega) (by decide))) (fun _ => ?_)
      refine And.intro (vp_in_nI (N := 4) hk (by decide)) ?_
      rw [nI_clamp (n := k) (by omega), z]
      refine And.intro (fun g => absurd g (by decide)) (fun _ => ?_)
      refine am_vO am_k255 am_h255 rfl rfl rfl rfl (m_mix) ?_
      refine am_vc_ok am_k255 [2, 78] 100 ?_
      refine And.intro (vp_in_nI (N := 4) hk (by decide)) ?_
      rw [nI_clamp (n := k) (by omega), z]
      refine And.intro (fun _ => ?_) (fun g => absurd (by decide) g)
      exact am_Gp [0, 2] rfl K2
    · have e : mSh σ k v = mxI (mx v (nI n)) (fun i w => σ 50 0 (72 * k + 6 * i + w)) 6 n := by
        unfold mSh
        rw [if_neg (by rw [z]; exact nI_pos (by omega)), z, nI_clamp (by omega)]
      rw [e] at K2
      refine am_vc_ok am_k255 [2, 78] 100 ?_
      refine And.intro (fun h1 => absurd h1 (nI_ge (b := 4) (by omega) (by decide))) (fun _ => ?_)
      refine And.intro (vp_in_nI (N := 4) hk (by decide)) ?_
      rw [nI_clamp (n := k) (by omega), z]
      refine And.intro (fun _ => ?_) (fun g => absurd (nI_pos' (by omega)) g)
      refine And.intro (vp_in_nI (N := 4) hk (by decide)) ?_
      rw [nI_clamp (n := k) (by omega), z]
      refine am_vO am_k255 am_h255 rfl rfl rfl rfl m_mix ?_
      refine am_vc_ok am_k255 [2, 32, 78] 100 ?_
      refine m_sh2 (g := mx v (nI n)) hk z hn2 ?_ n 0 _ (by omega) rfl
      refine am_vc_ok am_k255 [2] 100 ?_
      exact am_Gp [0, 2] rfl K2
theorem m_mixShapes {h0 : Int64} (hR : ∀ s, s < 4 → σ 49 0 s = -9 ∨ ∃ n, n ≤ 12 ∧ σ 49 0 s = nI n) : am_D l 255 [aR 12 0] σ (tH τ h0) (rX t) cX lX none σ (tH τ (fN h0 (mSh σ) 4)) (rX t) := by
  refine am_D_of am_o255 am_l255 rfl ?_
  refine am_vc_ok am_k255 [2] 100 ?_
  refine m_sh1 (g := h0) hR ?_ 4 0 _ (by omega) rfl
  refine am_vc_ok am_k255 [] 100 ?_
  exact am_vV am_k255 am_r255 rfl ⟨rfl, rfl, rfl, rfl, rfl, rfl⟩
theorem m_sv2 {Q : tQ} {g : Int64} {a : Nat} (ha : a < 6) (K : am_G l 256 Q 0 0 87 [(2, aI (nI 6)), (1, aI (nI a)), (0, aR 12 0)] [] σ (tH τ (mxN g (fun b => σ 59 0 (6 * a + b)) 6)) (rX t) cX lX) : ∀ (d k : Nat) (v : Int64), k + d = 6 → v = mxN g (fun b => σ 59 0 (6 * a + b)) k → am_G l 256 Q 0 0 60 [(2, aI (nI k)), (1, aI (nI a)), (0, aR 12 0)] [] σ (tH τ v) (rX t) cX lX
  | 0, k, v, h, hv => by
    obtain rfl : k = 6 := by omega
    rw [hv]
    refine am_vc_ok am_k256 [60, 87] 100 ?_
    exact And.intro (fun _ => K) (fun h1 => absurd (show (6 : Int32) ≤ nI 6 by decide) h1)
  | d + 1, k, v, h, hv => by
    have K2 := m_sv2 ha K d (k + 1) (mx v (σ 59 0 (6 * a + k))) (by omega) (by rw [hv]; rfl)
    refine am_vc_ok am_k256 [60, 87] 100 ?_
    refine And.intro (fun h1 => absurd h1 (nI_ge (b := 6) (by omega) (by decide))) (fun _ => ?_)
    refine And.intro (by rw [n6]; exact vp_in_nI (N := 36) (by omega) (by decide)) ?_
    rw [n6, nI_clamp (n := 6 * a + k) (by omega)]
    refine am_vO am_k256 am_h256 rfl rfl rfl rfl (m_mix) ?_
    refine am_vc_ok am_k256 [60, 87] 100 ?_
    rw [← nI_1 k] at K2
    exact K2
end L34
