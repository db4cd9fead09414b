/-! digest: the model's services, calls, frames -/
section L35
variable {l : Launch} {σ σ2 : tI} {τ τ2 : tL} {t : Option (Nat × Nat)}
def mSv (σ : tI) (n a : Nat) (h : Int64) : Int64 := mxV h (σ 57 0 a) (σ 58 0 a) (σ 62 0 a) (σ 63 0 a) (σ 64 0 a) (fun b => σ 59 0 (6 * a + b)) (nI (cntN (fun c => decide (σ 66 0 c = nI a ∧ σ 77 0 c = 1)) n)) (nI (cntN (fun c => decide (σ 66 0 c = nI a ∧ σ 77 0 c = 2)) n)) (nI (cntN (fun c => decide (σ 66 0 c = nI a ∧ σ 12 0 5 ≤ σ 79 0 c)) n))
theorem m_sv1 {Q : tQ} {g : Int64} {n : Nat} (hn : σ 12 0 34 = nI n) (hn2 : n ≤ 30) (K : am_G l 256 Q 0 0 122 [(1, aI (nI 6)), (0, aR 12 0)] [] σ (tH τ (fN g (mSv σ n) 6)) (rX t) cX lX) : ∀ (d k : Nat) (v : Int64), k + d = 6 → v = fN g (mSv σ n) k → am_G l 256 Q 0 0 2 [(1, aI (nI k)), (0, aR 12 0)] [] σ (tH τ v) (rX t) cX lX
  | 0, k, v, h, hv => by
    obtain rfl : k = 6 := by omega
    rw [hv]
    refine am_vc_ok am_k256 [2, 122] 100 ?_
    exact And.intro (fun _ => K) (fun h1 => absurd (show (6 : Int32) ≤ nI 6 by decide) h1)
  | d + 1, k, v, h, hv => by
    have K2 := m_sv1 hn hn2 K d (k + 1) (mSv σ n k v) (by omega) (by rw [hv]; rfl)
    rw [← nI_1 k] at K2
    unfold mSv mxV at K2
    generalize e1 : mx (mx (mx (mx (mx v (σ 57 0 k)) (σ 58 0 k)) (σ 62 0 k)) (σ 63 0 k)) (σ 64 0 k) = g1 at K2
    generalize e2 : mxN g1 (fun b => σ 59 0 (6 * k + b)) 6 = g2 at K2
    refine am_vc_ok am_k256 [2, 60, 122] 100 ?_
    refine And.intro (fun h1 => absurd h1 (nI_ge (b := 6) (by omega) (by decide))) (fun _ => ?_)
    refine And.intro (vp_in_nI (N := 6) (by omega) (by decide)) ?_
    rw [nI_clamp (n := k) (by omega)]
    refine am_vO am_k256 am_h256 rfl rfl rfl rfl (m_mix) ?_
    refine am_vc_ok am_k256 [2, 60, 122] 100 ?_
    refine And.intro (vp_in_nI (N := 6) (by omega) (by decide)) ?_
    rw [nI_clamp (n := k) (by omega)]
    refine am_vO am_k256 am_h256 rfl rfl rfl rfl (m_mix) ?_
    refine am_vc_ok am_k256 [2, 60, 122] 100 ?_
    refine And.intro (vp_in_nI (N := 6) (by omega) (by decide)) ?_
    rw [nI_clamp (n := k) (by omega)]
    refine am_vO am_k256 am_h256 rfl rfl rfl rfl (m_mix) ?_
    refine am_vc_ok am_k256 [2, 60, 122] 100 ?_
    refine And.intro (vp_in_nI (N := 6) (by omega) (by decide)) ?_
    rw [nI_clamp (n := k) (by omega)]
    refine am_vO am_k256 am_h256 rfl rfl rfl rfl (m_mix) ?_
    refine am_vc_ok am_k256 [2, 60, 122] 100 ?_
    refine And.intro (vp_in_nI (N := 6) (by omega) (by decide)) ?_
    rw [nI_clamp (n := k) (by omega)]
    refine am_vO am_k256 am_h256 rfl rfl rfl rfl (m_mix) ?_
    refine am_vc_ok am_k256 [2, 60, 122] 100 ?_
    rw [e1]
    refine m_sv2 (g := g1) (by omega) ?_ 6 0 _ (by omega) rfl
    rw [e2]
    refine am_vc_ok am_k256 [2] 100 ?_
    refine am_vO am_k256 am_h256 rfl rfl rfl rfl (m_placedAt hn hn2) ?_
    refine am_vc_ok am_k256 [2] 100 ?_
    refine am_vO am_k256 am_h256 rfl rfl rfl rfl (m_mix) ?_
    refine am_vc_ok am_k256 [2] 100 ?_
    refine am_vO am_k256 am_h256 rfl rfl rfl rfl (m_placedAt hn hn2) ?_
    refine am_vc_ok am_k256 [2] 100 ?_
    refine am_vO am_k256 am_h256 rfl rfl rfl rfl (m_mix) ?_
    refine am_vc_ok am_k256 [2] 100 ?_
    refine am_vO am_k256 am_h256 rfl rfl rfl rfl (m_keptAt hn hn2) ?_
    refine am_vc_ok am_k256 [2] 100 ?_
    refine am_vO am_k256 am_h256 rfl rfl rfl rfl (m_mix) ?_
    refine am_vc_ok am_k256 [2] 100 ?_
    exact am_Gp [0, 2] rfl K2
theorem m_mixServices {h0 : Int64} {n : Nat} (hn : σ 12 0 34 = nI n) (hn2 : n ≤ 30) : am_D l 256 [aR 12 0] σ (tH τ h0) (rX t) cX lX none σ (tH τ (fN h0 (mSv σ n) 6)) (rX t) := by
  refine am_D_of am_o256 am_l256 rfl ?_
  refine am_vc_ok am_k256 [2] 100 ?_
  refine m_sv1 (g := h0) hn hn2 ?_ 6 0 _ (by omega) rfl
  refine am_vc_ok am_k256 [] 100 ?_
  exact am_vV am_k256 am_r256 rfl ⟨rfl, rfl, rfl, rfl, rfl, rfl⟩
theorem m_ca1 {Q : tQ} {g : Int64} {c : Nat} (hc : c < 30) (K : am_G l 257 Q 0 0 34 [(2, aI (nI 7)), (1, aI (nI c)), (0, aR 12 0)] [] σ (tH τ (mxN g (fun w => σ (ctK w) 0 c) 7)) (rX t) cX lX) : ∀ (d k : Nat) (v : Int64), k + d = 7 → v = mxN g (fun w => σ (ctK w) 0 c) k → am_G l 257 Q 0 0 12 [(2, aI (nI k)), (1, aI (nI c)), (0, aR 12 0)] [] σ (tH τ v) (rX t) cX lX
  | 0, k, v, h, hv => by
    obtain rfl : k = 7 := by omega
    rw [hv]
    refine am_vc_ok am_k257 [12, 34] 100 ?_
    exact And.intro (fun _ => K) (fun h1 => absurd (show (6 : Int32) < nI 7 by decide) h1)
  | d + 1, k, v, h, hv => by
    have K2 := m_ca1 hc K d (k + 1) (mx v (σ (ctK k) 0 c)) (by omega) (by rw [hv]; rfl)
    refine am_vc_ok am_k257 [12, 34] 100 ?_
    refine And.intro (fun h1 => absurd h1 (Int32.not_lt.mpr (nI_le (b := 6) (by omega) (by decide)))) (fun _ => ?_)
    refine am_vO am_k257 am_h257 rfl rfl rfl rfl (m_callTells hc (by omega)) ?_
    refine am_vc_ok am_k257 [12, 34] 100 ?_
    refine am_vO am_k257 am_h257 rfl rfl rfl rfl (m_mix) ?_
    refine am_vc_ok am_k257 [12, 34] 100 ?_
    rw [← nI_1 k] at K2
    exact K2
theorem m_ca2 {Q : tQ} {g : Int64} {c : Nat} (hc : c < 30) (K : am_G l 257 Q 0 0 61 [(2, aI (nI 4)), (1, aI (nI c)), (0, aR 12 0)] [] σ (tH τ (mxN g (fun w => σ 80 0 (4 * c + w)) 4)) (rX t) cX lX) : ∀ (d k : Nat) (v : Int64), k + d = 4 → v = mxN g (fun w => σ 80 0 (4 * c + w)) k → am_G l 257 Q 0 0 36 [(2, aI (nI k)), (1, aI (nI c)), (0, aR 12 0)] [] σ (tH τ v) (rX t) cX lX
  | 0, k, v, h, hv => by
    obtain rfl : k = 4 := by omega
    rw [hv]
    refine am_vc_ok am_k257 [36, 61] 100 ?_
    exact And.intro (fun _ => K) (fun h1 => absurd (show (3 : Int32) < nI 4 by decide) h1)
  | d + 1, k, v, h, hv => by
    have K2 := m_ca2 hc K d (k + 1) (mx v (σ 80 0 (4 * c + k))) (by omega) (by rw [hv]; rfl)
    refine am_vc_ok am_k257 [36, 61] 100 ?_
    refine And.intro (fun h1 => absurd h1 (Int32.not_lt.mpr (nI_le (b := 3) (by omega) (by decide)))) (fun _ => ?_)
    refine And.intro (by rw [n4]; exact vp_in_nI (N := 120) (by omega) (by decide)) ?_
    rw [n4, nI_clamp (n := 4 * c + k) (by omega)]
    refine am_vO am_k257 am_h257 rfl rfl rfl rfl (m_mix) ?_
    refine am_vc_ok am_k257 [36, 61] 100 ?_
    rw [← nI_1 k] at K2
    exact K2
theorem m_ca3 {Q : tQ} {g : Int64} {c : Nat} (hc : c < 30) (K : am_G l 257 Q 0 0 84 [(2, aI (nI 3)), (1, aI (nI c)), (0, aR 12 0)] [] σ (tH τ (mxN g (fun w => σ (81 + w) 0 c) 3)) (rX t) cX lX) : ∀ (d k : Nat) (v : Int64), k + d = 3 → v = mxN g (fun w => σ (81 + w) 0 c) k → am_G l 257 Q 0 0 63 [(2, aI (nI k)), (1, aI (nI c)), (0, aR 12 0)] [] σ (tH τ v) (rX t) cX lX
  | 0, k, v, h, hv => by
    obtain rfl : k = 3 := by omega
    rw [hv]
    refine am_vc_ok am_k257 [63, 84] 100 ?_
    exact And.intro (fun _ => K) (fun h1 => absurd (show (2 : Int32) < nI 3 by decide) h1)
  | d + 1, k, v, h, hv => by
    have K2 := m_ca3 hc K d (k + 1) (mx v (σ (81 + k) 0 c)) (by omega) (by rw [hv]; rfl)
    refine am_vc_ok am_k257 [63, 84] 100 ?_
    refine And.intro (fun h1 => absurd h1 (Int32.not_lt.mpr (nI_le (b := 2) (by omega) (by decide)))) (fun _ => ?_)
    refine am_vO am_k257 am_h257 rfl rfl rfl rfl (m_streamTells hc (by omega)) ?_
    refine am_vc_ok am_k257 [63, 84] 100 ?_
    refine am_vO am_k257 am_h257 rfl rfl rfl rfl (m_mix) ?_
    refine am_vc_ok am_k257 [63, 84] 100 ?_
    rw [← nI_1 k] at K2
    exact K2
theorem m_fr2 {Q : tQ} {g : Int64} {c : Nat} (hc : c < 1200) (K : am_G l 257 Q 0 0 123 [(2, aI (nI 5)), (1, aI (nI c)), (0, aR 12 0)] [] σ (tH τ (mxN g (fun w => σ (84 + w) 0 c) 5)) (rX t) cX lX) : ∀ (d k : Nat) (v : Int64), k + d = 5 → v = mxN g (fun w => σ (84 + w) 0 c) k → am_G l 257 Q 0 0 102 [(2, aI (nI k)), (1, aI (nI c)), (0, aR 12 0)] [] σ (tH τ v) (rX t) cX lX
  | 0, k, v, h, hv => by
    obtain rfl : k = 5 := by omega
    rw [hv]
    refine am_vc_ok am_k257 [102, 123] 100 ?_
    exact And.intro (fun _ => K) (fun h1 => absurd (show (4 : Int32) < nI 5 by decide) h1)
  | d + 1, k, v, h, hv => by
    have K2 := m_fr2 hc K d (k + 1) (mx v (σ (84 + k) 0 c)) (by omega) (by rw [hv]; rfl)
    refine am_vc_ok am_k257 [102, 123] 100 ?_
    refine And.intro (fun h1 => absurd h1 (Int32.not_lt.mpr (nI_le (b := 4) (by omega) (by decide)))) (fun _ => ?_)
    refine am_vO am_k257 am_h257 rfl rfl rfl rfl (m_frameTells hc (by omega)) ?_
    refine am_vc_ok am_k257 [102, 123] 100 ?_
    refine am_vO am_k257 am_h257 rfl rfl rfl rfl (m_mix) ?_
    refine am_vc_ok am_k257 [102, 123] 100 ?_
    rw [← nI_1 k] at K2
    exact K2
def mCa (σ : tI) (c : Nat) (h : Int64) : Int64 := mxN (mxN (mxN h (fun w => σ (ctK w) 0 c) 7) (fun w => σ 80 0 (4 * c + w)) 4) (fun w => σ (81 + w) 0 c) 3
def mFr (σ : tI) (f : Nat) (h : Int64) : Int64 := mxN h (fun w => σ (84 + w) 0 f) 5
theorem m_ca0 {Q : tQ} {g : Int64} {n : Nat} (hn : σ 12 0 34 = nI n) (hn2 : n ≤ 30) (K : am_G l 257 Q 0 0 90 [(1, aI (nI n)), (0, aR 12 0)] [] σ (tH τ (fN g (mCa σ) n)) (rX t) cX lX) : ∀ (d k : Nat) (v : Int64), k + d = n → v = fN g (mCa σ) k → am_G l 257 Q 0 0 2 [(1, aI (nI k)), (0, aR 12 0)] [] σ (tH τ v) (rX t) cX lX
  | 0, k, v, h, hv => by
    obtain rfl : k = n := by omega
    rw [hv]
    refine am_vc_ok am_k257 [2, 90] 100 ?_
    exact And.intro (fun _ => K) (fun h1 => absurd (by rw [hn]; exact Int32.le_refl _) h1)
  | d + 1, k, v, h, hv => by
    have K2 := m_ca0 hn hn2 K d (k + 1) (mCa σ k v) (by omega) (by rw [hv]; rfl)
    rw [← nI_1 k] at K2
    unfold mCa at K2
    generalize e1 : mxN v (fun w => σ (ctK w) 0 k) 7 = g1 at K2
    generalize e2 : mxN g1 (fun w => σ 80 0 (4 * k + w)) 4 = g2 at K2
    generalize e3 : mxN g2 (fun w => σ (81 + w) 0 k) 3 = g3 at K2
    refine am_vc_ok am_k257 [2, 12, 90] 100 ?_
    refine And.intro (fun h1 => absurd h1 (by rw [hn]; exact nI_ge (b := n) (by omega) (by omega))) (fun _ => ?_)
    refine m_ca1 (g := v) (by omega) ?_ 7 0 _ (by omega) rfl
    rw [e1]
    refine am_vc_ok am_k257 [36] 100 ?_
    refine m_ca2 (g := g1) (by omega) ?_ 4 0 _ (by omega) rfl
    rw [e2]
    refine am_vc_ok am_k257 [63] 100 ?_
    refine m_ca3 (g := g2) (by omega) ?_ 3 0 _ (by omega) rfl
    rw [e3]
    refine am_vc_ok am_k257 [2] 100 ?_
    exact am_Gp [0, 2] rfl K2
theorem m_fr1 {Q : tQ} {g : Int64} {m : Nat} (hm : σ 12 0 54 = nI m) (hm2 : m ≤ 690) (K : am_G l 257 Q 0 0 129 [(1, aI (nI m)), (0, aR 12 0)] [] σ (tH τ (fN g (mFr σ) m)) (rX t) cX lX) : ∀ (d k : Nat) (v : Int64), k + d = m → v = fN g (mFr σ) k → am_G l 257 Q 0 0 92 [(1, aI (nI k)), (0, aR 12 0)] [] σ (tH τ v) (rX t) cX lX
  | 0, k, v, h, hv => by
    obtain rfl : k = m := by omega
    rw [hv]
    refine am_vc_ok am_k257 [92, 129] 100 ?_
    exact And.intro (fun _ => K) (fun h1 => absurd (by rw [hm]; exact Int32.le_refl _) h1)
  | d + 1, k, v, h, hv => by
    have K2 := m_fr1 hm hm2 K d (k + 1) (mFr σ k v) (by omega) (by rw [hv]; rfl)
    rw [← nI_1 k] at K2
    unfold mFr at K2
    refine am_vc_ok am_k257 [92, 102, 129] 100 ?_
    refine And.intro (fun h1 => absurd h1 (by rw [hm]; exact nI_ge (b := m) (by omega) (by omega))) (fun _ => ?_)
    refine m_fr2 (g := v) (by omega) ?_ 5 0 _ (by omega) rfl
    refine am_vc_ok am_k257 [92] 100 ?_
    exact am_Gp [0, 2] rfl K2
theorem m_mixCalls {h0 : Int64} {n m : Nat} (hn : σ 12 0 34 = nI n) (hn2 : n ≤ 30) (hm : σ 12 0 54 = nI m) (hm2 : m ≤ 690) : am_D l 257 [aR 12 0] σ (tH τ h0) (rX t) cX lX none σ (tH τ (fN (fN h0 (mCa σ) n) (mFr σ) m)) (rX t) := by
  generalize e1 : fN h0 (mCa σ) n = g1
  generalize e2 : fN g1 (mFr σ) m = g2
  refine am_D_of am_o257 am_l257 rfl ?_
  refine am_vc_ok am_k257 [2] 100 ?_
  refine m_ca0 (g := h0) hn hn2 ?_ n 0 _ (by omega) rfl
  rw [e1]
  refine am_vc_ok am_k257 [92] 100 ?_
  refine am_Gp (ls2 := [(1, aI (nI 0)), (0, aR 12 0)]) [0, 1] rfl ?_
  refine m_fr1 (g := g1) hm hm2 ?_ m 0 _ (by omega) rfl
  rw [e2]
  refine am_vc_ok am_k257 [] 100 ?_
  exact am_vV am_k257 am_r257 rfl ⟨rfl, rfl, rfl, rfl, rfl, rfl⟩
def mRw (σ : tI) (K1 K2 r : Nat) (h : Int64) : Int64 := if σ K1 0 r < 0 then mx h (-1) else mxN (mx h (σ K1 0 r)) (fun j => σ K2 0 (60 * r + j)) (σ K1 0 r).toNatClampNeg
theorem m_dg6_i {Q : tQ} {g : Int64} {r n : Nat} (hr : r < 6) (hn : σ 44 0 r = nI n) (hn2 : n ≤ 60) (K : am_G l 258 Q 0 0 106 [(2, aI (nI n)), (1, aI (nI r)), (0, aR 12 0)] [] σ (tH τ (mxN g (fun j => σ 45 0 (60 * r + j)) n)) (rX t) cX lX) : ∀ (d k : Nat) (v : Int64), k + d = n → v = mxN g (fun j => σ 45 0 (60 * r + j)) k → am_G l 258 Q 0 0 75 [(2, aI (nI k)), (1, aI (nI r)), (0, aR 12 0)] [] σ (tH τ v) (rX t) cX lX
  | 0, k, v, h, hv => by
    obtain rfl : k = n := by omega
    rw [hv]
    refine am_vc_ok am_k258 [75, 106] 100 ?_
    refine And.intro (vp_in_nI (N := 6) hr (by decide)) ?_
    rw [nI_clamp (n := r) (by omega), hn]
    exact And.intro (fun _ => K) (fun h1 => absurd (Int32.le_refl _) h1)
  | d + 1, k, v, h, hv => by
    have K2 := m_dg6_i hr hn hn2 K d (k + 1) (mx v (σ 45 0 (60 * r + k))) (by omega) (by rw [hv]; rfl)
    refine am_vc_ok am_k258 [75, 106] 100 ?_
    refine And.intro (vp_in_nI (N := 6) hr (by decide)) ?_
    rw [nI_clamp (n := r) (by omega), hn]
    refine And.intro (fun h1 => absurd h1 (nI_ge (b := n) (by omega) (by omega))) (fun _ => ?_)
    refine And.intro (by rw [n60]; exact vp_in_nI (N := 360) (by omega) (by decide)) ?_
    rw [n60, nI_clamp (n := 60 * r + k) (by omega)]
    refine am_vO am_k258 am_h258 rfl rfl rfl rfl (m_mix) ?_
    refine am_vc_ok am_k258 [75, 106] 100 ?_
    rw [← nI_1 k] at K2
    exact K2
theorem m_dg6 {Q : tQ} {g : Int64} (hR : ∀ s, s < 6 → σ 44 0 s = -9 ∨ ∃ n, n ≤ 60 ∧ σ 44 0 s = nI n) (K : am_G l 258 Q 0 0 112 [(1, aI (nI 6)), (0, aR 12 0)] [] σ (tH τ (fN g (mRw σ 44 45) 6)) (rX t) cX lX) : ∀ (d k : Nat) (v : Int64), k + d = 6 → v = fN g (mRw σ 44 45) k → am_G l 258 Q 0 0 44 [(1, aI (nI k)), (0, aR 12 0)] [] σ (tH τ v) (rX t) cX lX
  | 0, k, v, h, hv => by
    obtain rfl : k = 6 := by omega
    rw [hv]
    refine am_vc_ok am_k258 [44, 112] 100 ?_
    exact And.intro (fun _ => K) (fun h1 => absurd (show (6 : Int32) ≤ nI 6 by decide) h1)
  | d + 1, k, v, h, hv => by
    have hk : k < 6 := by omega
    have K2 := m_dg6 hR K d (k + 1) (mRw σ 44 45 k v) (by omega) (by rw [hv]; rfl)
    rw [← nI_1 k] at K2
    rcases hR k hk with z | ⟨n, hn2, z⟩
    · have e : mRw σ 44 45 k v = mx v (-1) := by unfold mRw; rw [if_pos (by rw [z]; decide)]
      rw [e] at K2
      refine am_vc_ok am_k258 [44, 112] 100 ?_
      refine And.intro (fun h1 => absurd h1 (nI_ge (b := 6) (by omega) (by decide))) (fun _ => ?_)
      refine And.intro (vp_in_nI (N := 6) hk (by decide)) ?_
      rw [nI_clamp (n := k) (by omega), z]
      refine And.intro (fun g => absurd g (by decide)) (fun _ => ?_)
      refine am_vO am_k258 am_h258 rfl rfl rfl rfl (m_mix) ?_
      refine am_vc_ok am_k258 [44, 112] 100 ?_
      refine And.intro (vp_in_nI (N := 6) hk (by decide)) ?_
      rw [nI_clamp (n := k) (by omega), z]
      refine And.intro (fun _ => ?_) (fun g => absurd (by decide) g)
      exact am_Gp [0, 2] rfl K2
    · have e : mRw σ 44 45 k v = mxN (mx v (nI n)) (fun j => σ 45 0 (60 * k + j)) n := by
        unfold mRw
        rw [if_neg (by rw [z]; exact nI_pos (by omega)), z, nI_clamp (by omega)]
      rw [e] at K2
      refine am_vc_ok am_k258 [44, 112] 100 ?_
      refine And.intro (fun h1 => absurd h1 (nI_ge (b := 6) (by omega) (by decide))) (fun _ => ?_)
      refine And.intro (vp_in_nI (N := 6) hk (by decide)) ?_
      rw [nI_clamp (n := k) (by omega), z]
      refine And.intro (fun _ => ?_) (fun g => absurd (nI_pos' (by omega)) g)
      refine And.intro (vp_in_nI (N := 6) hk (by decide)) ?_
      rw [nI_clamp (n := k) (by omega), z]
      refine am_vO am_k258 am_h258 rfl rfl rfl rfl m_mix ?_
      refine am_vc_ok am_k258 [44, 75, 112] 100 ?_
      refine m_dg6_i (g := mx v (nI n)) hk z hn2 ?_ n 0 _ (by omega) rfl
      refine am_vc_ok am_k258 [44] 100 ?_
      exact am_Gp [0, 2] rfl K2
theorem m_dg7_i {Q : tQ} {g : Int64} {r n : Nat} (hr : r < 6) (hn : σ 47 0 r = nI n) (hn2 : n ≤ 60) (K : am_G l 258 Q 0 0 176 [(2, aI (nI n)), (1, aI (nI r)), (0, aR 12 0)] [] σ (tH τ (mxN g (fun j => σ 48 0 (60 * r + j)) n)) (rX t) cX lX) : ∀ (d k : Nat) (v : Int64), k + d = n → v = mxN g (fun j => σ 48 0 (60 * r + j)) k → am_G l 258 Q 0 0 145 [(2, aI (nI k)), (1, aI (nI r)), (0, aR 12 0)] [] σ (tH τ v) (rX t) cX lX
  | 0, k, v, h, hv => by
    obtain rfl : k = n := by omega
    rw [hv]
    refine am_vc_ok am_k258 [145, 176] 100 ?_
    refine And.intro (vp_in_nI (N := 6) hr (by decide)) ?_
    rw [nI_clamp (n := r) (by omega), hn]
    exact And.intro (fun _ => K) (fun h1 => absurd (Int32.le_refl _) h1)
  | d + 1, k, v, h, hv => by
    have K2 := m_dg7_i hr hn hn2 K d (k + 1) (mx v (σ 48 0 (60 * r + k))) (by omega) (by rw [hv]; rfl)
    refine am_vc_ok am_k258 [145, 176] 100 ?_
    refine And.intro (vp_in_nI (N := 6) hr (by decide)) ?_
    rw [nI_clamp (n := r) (by omega), hn]
    refine And.intro (fun h1 => absurd h1 (nI_ge (b := n) (by omega) (by omega))) (fun _ => ?_)
    refine And.intro (by rw [n60]; exact vp_in_nI (N := 360) (by omega) (by decide)) ?_
    rw [n60, nI_clamp (n := 60 * r + k) (by omega)]
    refine am_vO am_k258 am_h258 rfl rfl rfl rfl (m_mix) ?_
    refine am_vc_ok am_k258 [145, 176] 100 ?_
    rw [← nI_1 k] at K2
    exact K2
theorem m_dg7 {Q : tQ} {g : Int64} (hR : ∀ s, s < 6 → σ 47 0 s = -9 ∨ ∃ n, n ≤ 60 ∧ σ 47 0 s = nI n) (K : am_G l 258 Q 0 0 182 [(1, aI (nI 6)), (0, aR 12 0)] [] σ (tH τ (fN g (mRw σ 47 48) 6)) (rX t) cX lX) : ∀ (d k : Nat) (v : Int64), k + d = 6 → v = fN g (mRw σ 47 48) k → am_G l 258 Q 0 0 114 [(1, aI (nI k)), (0, aR 12 0)] [] σ (tH τ v) (rX t) cX lX
  | 0, k, v, h, hv => by
    obtain rfl : k = 6 := by omega
    rw [hv]
    refine am_vc_ok am_k258 [114, 182] 100 ?_
    exact And.intro (fun _ => K) (fun h1 => absurd (show (6 : Int32) ≤ nI 6 by decide) h1)
  | d + 1, k, v, h, hv => by
    have hk : k < 6 := by omega
    have K2 := m_dg7 hR K d (k + 1) (mRw σ 47 48 k v) (by omega) (by rw [hv]; rfl)
    rw [← nI_1 k] at K2
    rcases hR k hk with z | ⟨n, hn2, z⟩
    · have e : mRw σ 47 48 k v = mx v (-1) := by unfold mRw; rw [if_pos (by rw [z]; decide)]
      rw [e] at K2
      refine am_vc_ok am_k258 [114, 182] 100 ?_
      refine And.intro (fun h1 => absurd h1 (nI_ge (b := 6) (by omega) (by decide))) (fun _ => ?_)
      refine And.intro (vp_in_nI (N := 6) hk (by decide)) ?_
      rw [nI_clamp (n := k) (by omega), z]
      refine And.intro (fun g => absurd g (by decide)) (fun _ => ?_)
      refine am_vO am_k258 am_h258 rfl rfl rfl rfl (m_mix) ?_
      refine am_vc_ok am_k258 [114, 182] 100 ?_
      refine And.intro (vp_in_nI (N := 6) hk (by decide)) ?_
      rw [nI_clamp (n := k) (by omega), z]
      refine And.intro (fun _ => ?_) (fun g => absurd (by decide) g)
      exact am_Gp [0, 2] rfl K2
    · have e : mRw σ 47 48 k v = mxN (mx v (nI n)) (fun j => σ 48 0 (60 * k + j)) n := by
        unfold mRw
        rw [if_neg (by rw [z]; exact nI_pos (by omega)), z, nI_clamp (by omega)]
      rw [e] at K2
      refine am_vc_ok am_k258 [114, 182] 100 ?_
      refine And.intro (fun h1 => absurd h1 (nI_ge (b := 6) (by omega) (by decide))) (fun _ => ?_)
      refine And.intro (vp_in_nI (N := 6) hk (by decide)) ?_
      rw [nI_clamp (n := k) (by omega), z]
      refine And.intro (fun _ => ?_) (fun g => absurd (nI_pos' (by omega)) g)
      refine And.intro (vp_in_nI (N := 6) hk (by decide)) ?_
      rw [nI_clamp (n := k) (by omega), z]
      refine am_vO am_k258 am_h258 rfl rfl rfl rfl m_mix ?_
      refine am_vc_ok am_k258 [114, 145, 182] 100 ?_
      refine m_dg7_i (g := mx v (nI n)) hk z hn2 ?_ n 0 _ (by omega) rfl
      refine am_vc_ok am_k258 [114] 100 ?_
      exact am_Gp [0, 2] rfl K2
theorem m_dg1 {Q : tQ} {g : Int64} {C : Nat → Int32} (hC : ∀ w τ, w < 9 → am_D l 250 [aR 12 0, aI (nI w)] σ τ (rX t) cX lX (some (aI (C w))) σ τ (rX t)) (K : am_G l 258 Q 0 0 30 [(1, aI (nI 9)), (0, aR 12 0)] [] σ (tH τ (fN g (fun k h => mx h (C k)) 9)) (rX t) cX lX) : ∀ (d k : Nat) (v : Int64), k + d = 9 → v = fN g (fun k h => mx h (C k)) k → am_G l 258 Q 0 0 9 [(1, aI (nI k)), (0, aR 12 0)] [] σ (tH τ v) (rX t) cX lX
  | 0, k, v, h, hv => by
    obtain rfl : k = 9 := by omega
    rw [hv]
    refine am_vc_ok am_k258 [9, 30] 100 ?_
    exact And.intro (fun _ => K) (fun h1 => absurd (show (8 : Int32) < nI 9 by decide) h1)
  | d + 1, k, v, h, hv => by
    have K2 := m_dg1 hC K d (k + 1) ((fun k h => mx h (C k)) k v) (by omega) (by rw [hv]; rfl)
    refine am_vc_ok am_k258 [9, 30] 100 ?_
    refine And.intro (fun h1 => absurd h1 (Int32.not_lt.mpr (nI_le (b := 8) (by omega) (by decide)))) (fun _ => ?_)
    refine am_vO am_k258 am_h258 rfl rfl rfl rfl (hC k _ (by omega)) ?_
    refine am_vc_ok am_k258 [9, 30] 100 ?_
    refine am_vO am_k258 am_h258 rfl rfl rfl rfl (m_mix) ?_
    refine am_vc_ok am_k258 [9, 30] 100 ?_
    rw [← nI_1 k] at K2
    exact K2
/-- the model's digest -/
def mDg (σ : tI) (C : Nat → Int32) (n m : Nat) : Int64 := fN (fN (fN (fN (fN (fN (fN 17 (fun k h => mx h (C k)) 9) (mSh σ) 4) (mSv σ n) 6) (mCa σ) n) (mFr σ) m) (mRw σ 44 45) 6) (mRw σ 47 48) 6
theorem m_digest {C : Nat → Int32} {n m : Nat} (hC : ∀ w τ, w < 9 → am_D l 250 [aR 12 0, aI (nI w)] σ τ (rX t) cX lX (some (aI (C w))) σ τ (rX t)) (hS : ∀ s, s < 4 → σ 49 0 s = -9 ∨ ∃ n, n ≤ 12 ∧ σ 49 0 s = nI n) (hn : σ 12 0 34 = nI n) (hn2 : n ≤ 30) (hm : σ 12 0 54 = nI m) (hm2 : m ≤ 690) (hR : ∀ s, s < 6 → σ 44 0 s = -9 ∨ ∃ n, n ≤ 60 ∧ σ 44 0 s = nI n) (hT : ∀ s, s < 6 → σ 47 0 s = -9 ∨ ∃ n, n ≤ 60 ∧ σ 47 0 s = nI n) : am_D l 258 [aR 12 0] σ τ (rX t) cX lX (some (aL (mDg σ C n m))) σ (tH τ (mDg σ C n m)) (rX t) := by
  unfold mDg
  generalize e1 : fN 17 (fun k h => mx h (C k)) 9 = g1
  generalize e2 : fN g1 (mSh σ) 4 = g2
  generalize e3 : fN g2 (mSv σ n) 6 = g3
  generalize e4 : fN g3 (mCa σ) n = g4
  generalize e5 : fN g4 (mFr σ) m = g5
  generalize e6 : fN g5 (mRw σ 44 45) 6 = g6
  generalize e7 : fN g6 (mRw σ 47 48) 6 = g7
  have z1 := m_mixShapes (l := l) (σ := σ) (τ := τ) (t := t) (h0 := g1) hS
  rw [e2] at z1
  have z2 := m_mixServices (l := l) (σ := σ) (τ := τ) (t := t) (h0 := g2) hn hn2
  rw [e3] at z2
  have z3 := m_mixCalls (l := l) (σ := σ) (τ := τ) (t := t) (h0 := g3) hn hn2 hm hm2
  rw [e4, e5] at z3
  refine am_D_of am_o258 am_l258 rfl ?_
  refine am_vc_ok am_k258 [9] 100 ?_
  refine m_dg1 (g := 17) hC ?_ 9 0 _ (by omega) rfl
  rw [e1]
  refine am_vc_ok am_k258 [44] 100 ?_
  refine am_vO am_k258 am_h258 rfl rfl rfl rfl (z1) ?_
  refine am_vc_ok am_k258 [44] 100 ?_
  refine am_vO am_k258 am_h258 rfl rfl rfl rfl (z2) ?_
  refine am_vc_ok am_k258 [44] 100 ?_
  refine am_vO am_k258 am_h258 rfl rfl rfl rfl (z3) ?_
  refine am_vc_ok am_k258 [44] 100 ?_
  refine am_Gp (ls2 := [(1, aI (nI 0)), (0, aR 12 0)]) [0, 1] rfl ?_
  refine m_dg6 (g := g5) hR ?_ 6 0 _ (by omega) rfl
  rw [e6]
  refine am_vc_ok am_k258 [114] 100 ?_
  refine am_Gp (ls2 := [(1, aI (nI 0)), (0, aR 12 0)]) [0, 1] rfl ?_
  refine m_dg7 (g := g6) hT ?_ 6 0 _ (by omega) rfl
  rw [e7]
  refine am_vc_ok am_k258 [] 100 ?_
  refine am_vL am_k258 am_r258 rfl ⟨?_, rfl, rfl, rfl, rfl, rfl⟩
  simp [tH, u3]
end L35
