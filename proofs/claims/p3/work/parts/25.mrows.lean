/-! ROWS AND TEXTS: the model -/
/-- a stretch of a model's row is v -/
def mfill (σ : tI) (K b n : Nat) (v : Int32) : tI := fun k i j => if k = K ∧ i = 0 ∧ b ≤ j ∧ j < b + n then v else σ k i j
theorem mfill_0 {σ : tI} {K b : Nat} {v : Int32} : σ = mfill σ K b 0 v := by
  funext k i j
  grind [mfill]
theorem mfill_s {σ : tI} {K b n : Nat} {v : Int32} : u3 (mfill σ K b n v) K 0 (b + n) v = mfill σ K b (n + 1) v := by
  funext k i j
  grind (splits := 25) [u3, mfill]
theorem n60 (j k : Nat) : (60 : Int32) * nI j + nI k = nI (60 * j + k) := by
  rw [show (60 : Int32) = nI 60 from rfl, pk_mul, nI_add]
section MR
variable {l : Launch} {σ : tI} {τ : tL} {t : Option (Nat × Nat)}
theorem m_askedRow_bad {r : Int32} (hr : ¬ (0 ≤ r ∧ r ≤ 5)) : am_D l 161 [aR 12 0, aI r] σ τ (rX t) cX lX (some (aI (-1))) σ τ (rX t) := by
  refine am_D_of am_o161 am_l161 rfl ?_
  refine am_vc_ok am_k161 [] 100 ?_
  refine am_vS am_k161 am_h161 rfl rfl rfl rfl (m_isSix) ?_
  refine am_vc_ok am_k161 [] 100 ?_
  refine And.intro (fun h => ?_) (fun h => ?_)
  · exact am_vI am_k161 am_r161 rfl ⟨rfl, rfl, rfl, rfl, rfl, rfl⟩
  · exact absurd (bI_1.mp h) hr
theorem m_askedRow {j : Nat} (hj : j < 6) : am_D l 161 [aR 12 0, aI (nI j)] σ τ (rX t) cX lX (some (aI (if σ 44 0 j < 0 then -3 else 0))) (if σ 44 0 j < 0 then mmeets 1 σ else σ) τ (rX t) := by
  refine am_D_of am_o161 am_l161 rfl ?_
  refine am_vc_ok am_k161 [] 100 ?_
  refine am_vS am_k161 am_h161 rfl rfl rfl rfl (m_isSix) ?_
  refine am_vc_ok am_k161 [] 100 ?_
  refine And.intro (fun h => ?_) (fun h => ?_)
  · exact absurd (in5 hj) (bI_0.mp h)
  refine And.intro (vp_in_nI (N := 6) hj (by decide)) ?_
  rw [nI_clamp (n := j) (by omega)]
  refine And.intro (fun h1 => ?_) (fun h1 => ?_)
  · have h1 : 0 ≤ σ 44 0 j := h1
    simp only [if_neg (Int32.not_lt.mpr h1)]
    exact am_vI am_k161 am_r161 rfl ⟨rfl, rfl, rfl, rfl, rfl, rfl⟩
  · have h1 : ¬ 0 ≤ σ 44 0 j := h1
    simp only [if_pos (Int32.not_le.mp h1)]
    refine am_vO am_k161 am_h161 rfl rfl rfl rfl (m_meets (w := 1) (by decide)) ?_
    refine am_vc_ok am_k161 [] 100 ?_
    exact am_vI am_k161 am_r161 rfl ⟨rfl, rfl, rfl, rfl, rfl, rfl⟩
theorem m_askedText_bad {r : Int32} (hr : ¬ (0 ≤ r ∧ r ≤ 5)) : am_D l 162 [aR 12 0, aI r] σ τ (rX t) cX lX (some (aI (-1))) σ τ (rX t) := by
  refine am_D_of am_o162 am_l162 rfl ?_
  refine am_vc_ok am_k162 [] 100 ?_
  refine am_vS am_k162 am_h162 rfl rfl rfl rfl (m_isSix) ?_
  refine am_vc_ok am_k162 [] 100 ?_
  refine And.intro (fun h => ?_) (fun h => ?_)
  · exact am_vI am_k162 am_r162 rfl ⟨rfl, rfl, rfl, rfl, rfl, rfl⟩
  · exact absurd (bI_1.mp h) hr
theorem m_askedText {j : Nat} (hj : j < 6) : am_D l 162 [aR 12 0, aI (nI j)] σ τ (rX t) cX lX (some (aI (if σ 47 0 j < 0 then -3 else 0))) (if σ 47 0 j < 0 then mmeets 1 σ else σ) τ (rX t) := by
  refine am_D_of am_o162 am_l162 rfl ?_
  refine am_vc_ok am_k162 [] 100 ?_
  refine am_vS am_k162 am_h162 rfl rfl rfl rfl (m_isSix) ?_
  refine am_vc_ok am_k162 [] 100 ?_
  refine And.intro (fun h => ?_) (fun h => ?_)
  · exact absurd (in5 hj) (bI_0.mp h)
  refine And.intro (vp_in_nI (N := 6) hj (by decide)) ?_
  rw [nI_clamp (n := j) (by omega)]
  refine And.intro (fun h1 => ?_) (fun h1 => ?_)
  · have h1 : 0 ≤ σ 47 0 j := h1
    simp only [if_neg (Int32.not_lt.mpr h1)]
    exact am_vI am_k162 am_r162 rfl ⟨rfl, rfl, rfl, rfl, rfl, rfl⟩
  · have h1 : ¬ 0 ≤ σ 47 0 j := h1
    simp only [if_pos (Int32.not_le.mp h1)]
    refine am_vO am_k162 am_h162 rfl rfl rfl rfl (m_meets (w := 1) (by decide)) ?_
    refine am_vc_ok am_k162 [] 100 ?_
    exact am_vI am_k162 am_r162 rfl ⟨rfl, rfl, rfl, rfl, rfl, rfl⟩
theorem m_at_bad {r i : Int32} (hr : ¬ (0 ≤ r ∧ r ≤ 5)) : am_D l 165 [aR 12 0, aI r, aI i] σ τ (rX t) cX lX (some (aI (-1))) σ τ (rX t) := by
  refine am_D_of am_o165 am_l165 rfl ?_
  refine am_vc_ok am_k165 [] 100 ?_
  refine am_vO am_k165 am_h165 rfl rfl rfl rfl (m_askedRow_bad hr) ?_
  refine am_vc_ok am_k165 [] 100 ?_
  refine And.intro (fun h => ?_) (fun h => ?_)
  · exact absurd h (by decide)
  · exact am_vI am_k165 am_r165 rfl ⟨rfl, rfl, rfl, rfl, rfl, rfl⟩
theorem m_at_none {j : Nat} {i : Int32} (hj : j < 6) (hn : σ 44 0 j = -9) : am_D l 165 [aR 12 0, aI (nI j), aI i] σ τ (rX t) cX lX (some (aI (-3))) (mmeets 1 σ) τ (rX t) := by
  have h0 : σ 44 0 j < 0 := by rw [hn]; decide
  refine am_D_of am_o165 am_l165 rfl ?_
  refine am_vc_ok am_k165 [] 100 ?_
  refine am_vO am_k165 am_h165 rfl rfl rfl rfl (m_askedRow hj) ?_
  refine am_vc_ok am_k165 [] 100 ?_
  simp only [if_pos h0]
  refine And.intro (fun h => ?_) (fun h => ?_)
  · exact absurd h (by decide)
  · exact am_vI am_k165 am_r165 rfl ⟨rfl, rfl, rfl, rfl, rfl, rfl⟩
theorem m_at {j n : Nat} {i : Int32} (hj : j < 6) (hn : σ 44 0 j = nI n) (hn2 : n ≤ 60) : am_D l 165 [aR 12 0, aI (nI j), aI i] σ τ (rX t) cX lX (some (aI (if 0 ≤ i ∧ i ≤ nI n - 1 then 1 else -3))) (if 0 ≤ i ∧ i ≤ nI n - 1 then u3 σ 12 0 2 (σ 45 0 (60 * j + i.toNatClampNeg)) else mmeets 2 σ) τ (rX t) := by
  have h0 : ¬ σ 44 0 j < 0 := by rw [hn]; exact nI_pos (by omega)
  refine am_D_of am_o165 am_l165 rfl ?_
  refine am_vc_ok am_k165 [] 100 ?_
  refine am_vO am_k165 am_h165 rfl rfl rfl rfl (m_askedRow hj) ?_
  refine am_vc_ok am_k165 [] 100 ?_
  simp only [if_neg h0]
  refine And.intro (fun h => ?_) (fun h => ?_)
  · refine And.intro (vp_in_nI (N := 6) hj (by decide)) ?_
    rw [nI_clamp (n := j) (by omega)]
    refine am_vS am_k165 am_h165 rfl rfl rfl rfl (m_in) ?_
    refine am_vc_ok am_k165 [] 100 ?_
    rw [hn]
    refine And.intro (fun h2 => ?_) (fun h2 => ?_)
    · simp only [if_neg (bI_0.mp h2)]
      refine am_vO am_k165 am_h165 rfl rfl rfl rfl (m_meets (w := 2) (by decide)) ?_
      refine am_vc_ok am_k165 [] 100 ?_
      exact am_vI am_k165 am_r165 rfl ⟨rfl, rfl, rfl, rfl, rfl, rfl⟩
    · have h2 := bI_1.mp h2
      simp only [if_pos h2]
      have hk : ∃ k, k < n ∧ i = nI k := by
        refine ix_le ?_ h2
        cases n with
        | zero => rfl
        | succ n => rw [nI_pred, nI_toInt (by omega)]; rfl
      obtain ⟨k, hk, rfl⟩ := hk
      refine And.intro (by rw [n60]; exact vp_in_nI (N := 360) (by omega) (by decide)) ?_
      rw [n60, nI_clamp (n := 60 * j + k) (by omega), nI_clamp (n := k) (by omega)]
      refine am_vO am_k165 am_h165 rfl rfl rfl rfl (m_ask) ?_
      refine am_vc_ok am_k165 [] 100 ?_
      exact am_vI am_k165 am_r165 rfl ⟨rfl, rfl, rfl, rfl, rfl, rfl⟩
  · exact absurd (by decide) h
theorem m_lay_bad {r i v : Int32} (hr : ¬ (0 ≤ r ∧ r ≤ 5)) : am_D l 164 [aR 12 0, aI r, aI i, aI v] σ τ (rX t) cX lX (some (aI (-1))) σ τ (rX t) := by
  refine am_D_of am_o164 am_l164 rfl ?_
  refine am_vc_ok am_k164 [] 100 ?_
  refine am_vO am_k164 am_h164 rfl rfl rfl rfl (m_at_bad hr) ?_
  refine am_vc_ok am_k164 [] 100 ?_
  refine And.intro (fun h => ?_) (fun h => ?_)
  · exact absurd h (by decide)
  · exact am_vI am_k164 am_r164 rfl ⟨rfl, rfl, rfl, rfl, rfl, rfl⟩
theorem m_lay_none {j : Nat} {i v : Int32} (hj : j < 6) (hn : σ 44 0 j = -9) : am_D l 164 [aR 12 0, aI (nI j), aI i, aI v] σ τ (rX t) cX lX (some (aI (-3))) (mmeets 1 σ) τ (rX t) := by
  refine am_D_of am_o164 am_l164 rfl ?_
  refine am_vc_ok am_k164 [] 100 ?_
  refine am_vO am_k164 am_h164 rfl rfl rfl rfl (m_at_none hj hn) ?_
  refine am_vc_ok am_k164 [] 100 ?_
  refine And.intro (fun h => ?_) (fun h => ?_)
  · exact absurd h (by decide)
  · exact am_vI am_k164 am_r164 rfl ⟨rfl, rfl, rfl, rfl, rfl, rfl⟩
theorem m_lay {j n : Nat} {i v : Int32} (hj : j < 6) (hn : σ 44 0 j = nI n) (hn2 : n ≤ 60) : am_D l 164 [aR 12 0, aI (nI j), aI i, aI v] σ τ (rX t) cX lX (some (aI (if 0 ≤ i ∧ i ≤ nI n - 1 then 1 else -3))) (if 0 ≤ i ∧ i ≤ nI n - 1 then u3 (u3 σ 12 0 2 (σ 45 0 (60 * j + i.toNatClampNeg))) 45 0 (60 * j + i.toNatClampNeg) v else mmeets 2 σ) τ (rX t) := by
  refine am_D_of am_o164 am_l164 rfl ?_
  refine am_vc_ok am_k164 [] 100 ?_
  refine am_vO am_k164 am_h164 rfl rfl rfl rfl (m_at hj hn hn2) ?_
  refine am_vc_ok am_k164 [] 100 ?_
  by_cases h2 : 0 ≤ i ∧ i ≤ nI n - 1
  · simp only [if_pos h2]
    have hk : ∃ k, k < n ∧ i = nI k := by
      refine ix_le ?_ h2
      cases n with
      | zero => rfl
      | succ n => rw [nI_pred, nI_toInt (by omega)]; rfl
    obtain ⟨k, hk, rfl⟩ := hk
    refine And.intro (fun h => ?_) (fun h => ?_)
    · refine And.intro (by rw [n60]; exact vp_in_nI (N := 360) (by omega) (by decide)) ?_
      rw [n60, nI_clamp (n := 60 * j + k) (by omega), nI_clamp (n := k) (by omega)]
      exact am_vI am_k164 am_r164 rfl ⟨rfl, rfl, rfl, rfl, rfl, rfl⟩
    · exact absurd (by decide) h
  · simp only [if_neg h2]
    refine And.intro (fun h => ?_) (fun h => ?_)
    · exact absurd h (by decide)
    · exact am_vI am_k164 am_r164 rfl ⟨rfl, rfl, rfl, rfl, rfl, rfl⟩
theorem m_tear_bad {r : Int32} (hr : ¬ (0 ≤ r ∧ r ≤ 5)) : am_D l 166 [aR 12 0, aI r] σ τ (rX t) cX lX (some (aI (-1))) σ τ (rX t) := by
  refine am_D_of am_o166 am_l166 rfl ?_
  refine am_vc_ok am_k166 [] 100 ?_
  refine am_vO am_k166 am_h166 rfl rfl rfl rfl (m_askedRow_bad hr) ?_
  refine am_vc_ok am_k166 [] 100 ?_
  refine And.intro (fun h => ?_) (fun h => ?_)
  · exact absurd h (by decide)
  · exact am_vI am_k166 am_r166 rfl ⟨rfl, rfl, rfl, rfl, rfl, rfl⟩
theorem m_tear {j : Nat} (hj : j < 6) : am_D l 166 [aR 12 0, aI (nI j)] σ τ (rX t) cX lX (some (aI (if σ 44 0 j < 0 then -3 else 1))) (if σ 44 0 j < 0 then mmeets 1 σ else u3 σ 44 0 j (-9)) τ (rX t) := by
  refine am_D_of am_o166 am_l166 rfl ?_
  refine am_vc_ok am_k166 [] 100 ?_
  refine am_vO am_k166 am_h166 rfl rfl rfl rfl (m_askedRow hj) ?_
  refine am_vc_ok am_k166 [] 100 ?_
  by_cases h1 : σ 44 0 j < 0
  · simp only [if_pos h1]
    refine And.intro (fun h => ?_) (fun h => ?_)
    · exact absurd h (by decide)
    · exact am_vI am_k166 am_r166 rfl ⟨rfl, rfl, rfl, rfl, rfl, rfl⟩
  · simp only [if_neg h1]
    refine And.intro (fun h => ?_) (fun h => ?_)
    · refine And.intro (vp_in_nI (N := 6) hj (by decide)) ?_
      rw [nI_clamp (n := j) (by omega)]
      exact am_vI am_k166 am_r166 rfl ⟨rfl, rfl, rfl, rfl, rfl, rfl⟩
    · exact absurd (by decide) h
theorem m_row_bad {r n : Int32} (hr : ¬ (0 ≤ r ∧ r ≤ 5) ∨ ¬ n ≤ 60) : am_D l 163 [aR 12 0, aI r, aI n] σ τ (rX t) cX lX (some (aI (-1))) σ τ (rX t) := by
  refine am_D_of am_o163 am_l163 rfl ?_
  refine am_vc_ok am_k163 [] 100 ?_
  refine am_vS am_k163 am_h163 rfl rfl rfl rfl (m_isSix) ?_
  refine am_vc_ok am_k163 [] 100 ?_
  refine And.intro (fun h => ?_) (fun h => ?_)
  · exact am_vI am_k163 am_r163 rfl ⟨rfl, rfl, rfl, rfl, rfl, rfl⟩
  refine And.intro (fun h1 => ?_) (fun h1 => ?_)
  · exact absurd h1 (hr.resolve_left (fun z => z (bI_1.mp h)))
  · exact am_vI am_k163 am_r163 rfl ⟨rfl, rfl, rfl, rfl, rfl, rfl⟩
theorem m_row_neg {r n : Int32} (hr : 0 ≤ r ∧ r ≤ 5) (hn : n < 0) : am_D l 163 [aR 12 0, aI r, aI n] σ τ (rX t) cX lX (some (aI (-3))) (mmeets 5 σ) τ (rX t) := by
  refine am_D_of am_o163 am_l163 rfl ?_
  refine am_vc_ok am_k163 [] 100 ?_
  refine am_vS am_k163 am_h163 rfl rfl rfl rfl (m_isSix) ?_
  refine am_vc_ok am_k163 [] 100 ?_
  refine And.intro (fun h => ?_) (fun h => ?_)
  · exact absurd hr (bI_0.mp h)
  refine And.intro (fun h1 => ?_) (fun h1 => ?_)
  · refine And.intro (fun h2 => ?_) (fun h2 => ?_)
    · exact absurd hn (Int32.not_lt.mpr h2)
    · refine am_vO am_k163 am_h163 rfl rfl rfl rfl (m_meets (w := 5) (by decide)) ?_
      refine am_vc_ok am_k163 [] 100 ?_
      exact am_vI am_k163 am_r163 rfl ⟨rfl, rfl, rfl, rfl, rfl, rfl⟩
  · exact absurd (Int32.le_trans (Int32.le_of_lt hn) (by decide)) h1
theorem m_row_loop {Q : tQ} {j : Nat} {n : Int32} (hj : j < 6) (K : am_G l 163 Q 0 0 58 [(3, aI (nI 60)), (0, aR 12 0), (1, aI (nI j)), (2, aI n)] [] (mfill σ 45 (60 * j) 60 0) τ (rX t) cX lX) : ∀ (d k : Nat), k + d = 60 → am_G l 163 Q 0 0 34 [(3, aI (nI k)), (0, aR 12 0), (1, aI (nI j)), (2, aI n)] [] (mfill σ 45 (60 * j) k 0) τ (rX t) cX lX
  | 0, k, h => by
    obtain rfl : k = 60 := by omega
    refine am_vc_ok am_k163 [34, 58] 100 ?_
    exact And.intro (fun _ => K) (fun h1 => absurd (show (60 : Int32) ≤ nI 60 by decide) h1)
  | d + 1, k, h => by
    refine am_vc_ok am_k163 [34, 58] 100 ?_
    refine And.intro (fun h1 => absurd h1 (nI_ge (b := 60) (by omega) (by decide))) (fun h1 => ?_)
    refine And.intro (by rw [n60]; exact vp_in_nI (N := 360) (by omega) (by decide)) ?_
    rw [n60, nI_clamp (n := 60 * j + k) (by omega)]
    refine am_Gs mfill_s ?_
    have K2 := m_row_loop hj K d (k + 1) (by omega)
    rw [← nI_1] at K2
    exact K2
theorem m_row {j n : Nat} (hj : j < 6) (hn : n ≤ 60) : am_D l 163 [aR 12 0, aI (nI j), aI (nI n)] σ τ (rX t) cX lX (some (aI (nI n))) (mfill (u3 σ 44 0 j (nI n)) 45 (60 * j) 60 0) τ (rX t) := by
  refine am_D_of am_o163 am_l163 rfl ?_
  refine am_vc_ok am_k163 [34] 100 ?_
  refine am_vS am_k163 am_h163 rfl rfl rfl rfl (m_isSix) ?_
  refine am_vc_ok am_k163 [34] 100 ?_
  refine And.intro (fun h => ?_) (fun h => ?_)
  · exact absurd (in5 hj) (bI_0.mp h)
  refine And.intro (fun h1 => ?_) (fun h1 => ?_)
  · refine And.intro (fun h2 => ?_) (fun h2 => ?_)
    · refine And.intro (vp_in_nI (N := 6) hj (by decide)) ?_
      rw [nI_clamp (n := j) (by omega)]
      refine am_Gs (mfill_0 (K := 45) (b := 60 * j) (v := 0)) ?_
      refine m_row_loop hj ?_ 60 0 (by omega)
      refine am_vc_ok am_k163 [34] 100 ?_
      exact am_vI am_k163 am_r163 rfl ⟨rfl, rfl, rfl, rfl, rfl, rfl⟩
    · exact absurd (nI_pos' (by omega)) h2
  · exact absurd (nI_le (b := 60) hn (by decide)) h1
theorem m_beginText_loop {Q : tQ} {j : Nat} {n : Int32} (hj : j < 6) (K : am_G l 168 Q 0 0 34 [(3, aI (nI 60)), (0, aR 12 0), (1, aI (nI j)), (2, aI n)] [] (mfill σ 48 (60 * j) 60 32) τ (rX t) cX lX) : ∀ (d k : Nat), k + d = 60 → am_G l 168 Q 0 0 9 [(3, aI (nI k)), (0, aR 12 0), (1, aI (nI j)), (2, aI n)] [] (mfill σ 48 (60 * j) k 32) τ (rX t) cX lX
  | 0, k, h => by
    obtain rfl : k = 60 := by omega
    refine am_vc_ok am_k168 [9, 34] 100 ?_
    exact And.intro (fun _ => K) (fun h1 => absurd (show (60 : Int32) ≤ nI 60 by decide) h1)
  | d + 1, k, h => by
    refine am_vc_ok am_k168 [9, 34] 100 ?_
    refine And.intro (fun h1 => absurd h1 (nI_ge (b := 60) (by omega) (by decide))) (fun h1 => ?_)
    refine And.intro (by rw [n60]; exact vp_in_nI (N := 360) (by omega) (by decide)) ?_
    rw [n60, nI_clamp (n := 60 * j + k) (by omega)]
    refine am_Gs mfill_s ?_
    have K2 := m_beginText_loop hj K d (k + 1) (by omega)
    rw [← nI_1] at K2
    exact K2
theorem m_beginText {j : Nat} {n : Int32} (hj : j < 6) : am_D l 168 [aR 12 0, aI (nI j), aI n] σ τ (rX t) cX lX none (mfill (u3 σ 47 0 j n) 48 (60 * j) 60 32) τ (rX t) := by
  refine am_D_of am_o168 am_l168 rfl ?_
  refine am_vc_ok am_k168 [9] 100 ?_
  refine And.intro (vp_in_nI (N := 6) hj (by decide)) ?_
  rw [nI_clamp (n := j) (by omega)]
  refine am_Gs (mfill_0 (K := 48) (b := 60 * j) (v := 32)) ?_
  refine m_beginText_loop hj ?_ 60 0 (by omega)
  exact am_vV am_k168 am_r168 rfl ⟨rfl, rfl, rfl, rfl, rfl, rfl⟩
theorem m_text_bad {r n : Int32} (hr : ¬ (0 ≤ r ∧ r ≤ 5) ∨ ¬ n ≤ 60) : am_D l 169 [aR 12 0, aI r, aI n] σ τ (rX t) cX lX (some (aI (-1))) σ τ (rX t) := by
  refine am_D_of am_o169 am_l169 rfl ?_
  refine am_vc_ok am_k169 [] 100 ?_
  refine am_vS am_k169 am_h169 rfl rfl rfl rfl (m_isSix) ?_
  refine am_vc_ok am_k169 [] 100 ?_
  refine And.intro (fun h => ?_) (fun h => ?_)
  · exact am_vI am_k169 am_r169 rfl ⟨rfl, rfl, rfl, rfl, rfl, rfl⟩
  refine And.intro (fun h1 => ?_) (fun h1 => ?_)
  · exact absurd h1 (hr.resolve_left (fun z => z (bI_1.mp h)))
  · exact am_vI am_k169 am_r169 rfl ⟨rfl, rfl, rfl, rfl, rfl, rfl⟩
theorem m_text_neg {r n : Int32} (hr : 0 ≤ r ∧ r ≤ 5) (hn : n < 0) : am_D l 169 [aR 12 0, aI r, aI n] σ τ (rX t) cX lX (some (aI (-3))) (mmeets 5 σ) τ (rX t) := by
  refine am_D_of am_o169 am_l169 rfl ?_
  refine am_vc_ok am_k169 [] 100 ?_
  refine am_vS am_k169 am_h169 rfl rfl rfl rfl (m_isSix) ?_
  refine am_vc_ok am_k169 [] 100 ?_
  refine And.intro (fun h => ?_) (fun h => ?_)
  · exact absurd hr (bI_0.mp h)
  refine And.intro (fun h1 => ?_) (fun h1 => ?_)
  · refine And.intro (fun h2 => ?_) (fun h2 => ?_)
    · exact absurd hn (Int32.not_lt.mpr h2)
    · refine am_vO am_k169 am_h169 rfl rfl rfl rfl (m_meets (w := 5) (by decide)) ?_
      refine am_vc_ok am_k169 [] 100 ?_
      exact am_vI am_k169 am_r169 rfl ⟨rfl, rfl, rfl, rfl, rfl, rfl⟩
  · exact absurd (Int32.le_trans (Int32.le_of_lt hn) (by decide)) h1
theorem m_text {j n : Nat} (hj : j < 6) (hn : n ≤ 60) : am_D l 169 [aR 12 0, aI (nI j), aI (nI n)] σ τ (rX t) cX lX (some (aI (nI n))) (mfill (u3 σ 47 0 j (nI n)) 48 (60 * j) 60 32) τ (rX t) := by
  refine am_D_of am_o169 am_l169 rfl ?_
  refine am_vc_ok am_k169 [] 100 ?_
  refine am_vS am_k169 am_h169 rfl rfl rfl rfl (m_isSix) ?_
  refine am_vc_ok am_k169 [] 100 ?_
  refine And.intro (fun h => ?_) (fun h => ?_)
  · exact absurd (in5 hj) (bI_0.mp h)
  refine And.intro (fun h1 => ?_) (fun h1 => ?_)
  · refine And.intro (fun h2 => ?_) (fun h2 => ?_)
    · refine am_vO am_k169 am_h169 rfl rfl rfl rfl (m_beginText hj) ?_
      refine am_vc_ok am_k169 [] 100 ?_
      exact am_vI am_k169 am_r169 rfl ⟨rfl, rfl, rfl, rfl, rfl, rfl⟩
    · exact absurd (nI_pos' (by omega)) h2
  · exact absurd (nI_le (b := 60) hn (by decide)) h1
theorem m_put_bad {r i v : Int32} (hr : ¬ (0 ≤ r ∧ r ≤ 5)) : am_D l 170 [aR 12 0, aI r, aI i, aI v] σ τ (rX t) cX lX (some (aI (-1))) σ τ (rX t) := by
  refine am_D_of am_o170 am_l170 rfl ?_
  refine am_vc_ok am_k170 [] 100 ?_
  refine am_vO am_k170 am_h170 rfl rfl rfl rfl (m_askedText_bad hr) ?_
  refine am_vc_ok am_k170 [] 100 ?_
  refine And.intro (fun h => ?_) (fun h => ?_)
  · exact absurd h (by decide)
  · exact am_vI am_k170 am_r170 rfl ⟨rfl, rfl, rfl, rfl, rfl, rfl⟩
theorem m_put_none {j : Nat} {i v : Int32} (hj : j < 6) (hn : σ 47 0 j = -9) : am_D l 170 [aR 12 0, aI (nI j), aI i, aI v] σ τ (rX t) cX lX (some (aI (-3))) (mmeets 1 σ) τ (rX t) := by
  have h0 : σ 47 0 j < 0 := by rw [hn]; decide
  refine am_D_of am_o170 am_l170 rfl ?_
  refine am_vc_ok am_k170 [] 100 ?_
  refine am_vO am_k170 am_h170 rfl rfl rfl rfl (m_askedText hj) ?_
  refine am_vc_ok am_k170 [] 100 ?_
  simp only [if_pos h0]
  refine And.intro (fun h => ?_) (fun h => ?_)
  · exact absurd h (by decide)
  · exact am_vI am_k170 am_r170 rfl ⟨rfl, rfl, rfl, rfl, rfl, rfl⟩
theorem m_put {j n : Nat} {i v : Int32} (hj : j < 6) (hn : σ 47 0 j = nI n) (hn2 : n ≤ 60) : am_D l 170 [aR 12 0, aI (nI j), aI i, aI v] σ τ (rX t) cX lX (some (aI (if 0 ≤ i ∧ i ≤ nI n - 1 then σ 48 0 (60 * j + i.toNatClampNeg) + 1000 else -3))) (if 0 ≤ i ∧ i ≤ nI n - 1 then u3 σ 48 0 (60 * j + i.toNatClampNeg) v.toInt8.toInt32 else mmeets 2 σ) τ (rX t) := by
  have h0 : ¬ σ 47 0 j < 0 := by rw [hn]; exact nI_pos (by omega)
  refine am_D_of am_o170 am_l170 rfl ?_
  refine am_vc_ok am_k170 [] 100 ?_
  refine am_vO am_k170 am_h170 rfl rfl rfl rfl (m_askedText hj) ?_
  refine am_vc_ok am_k170 [] 100 ?_
  simp only [if_neg h0]
  refine And.intro (fun h => ?_) (fun h => ?_)
  · refine And.intro (vp_in_nI (N := 6) hj (by decide)) ?_
    rw [nI_clamp (n := j) (by omega)]
    refine am_vS am_k170 am_h170 rfl rfl rfl rfl (m_in) ?_
    refine am_vc_ok am_k170 [] 100 ?_
    rw [hn]
    refine And.intro (fun h2 => ?_) (fun h2 => ?_)
    · simp only [if_neg (bI_0.mp h2)]
      refine am_vO am_k170 am_h170 rfl rfl rfl rfl (m_meets (w := 2) (by decide)) ?_
      refine am_vc_ok am_k170 [] 100 ?_
      exact am_vI am_k170 am_r170 rfl ⟨rfl, rfl, rfl, rfl, rfl, rfl⟩
    · have h2 := bI_1.mp h2
      simp only [if_pos h2]
      have hk : ∃ k, k < n ∧ i = nI k := by
        refine ix_le ?_ h2
        cases n with
        | zero => rfl
        | succ n => rw [nI_pred, nI_toInt (by omega)]; rfl
      obtain ⟨k, hk, rfl⟩ := hk
      refine And.intro (by rw [n60]; exact vp_in_nI (N := 360) (by omega) (by decide)) ?_
      rw [n60, nI_clamp (n := 60 * j + k) (by omega), nI_clamp (n := k) (by omega)]
      refine And.intro (by rw [n60]; exact vp_in_nI (N := 360) (by omega) (by decide)) ?_
      rw [n60, nI_clamp (n := 60 * j + k) (by omega)]
      exact am_vI am_k170 am_r170 rfl ⟨rfl, rfl, rfl, rfl, rfl, rfl⟩
  · exact absurd (by decide) h
theorem m_size_bad {r : Int32} (hr : ¬ (0 ≤ r ∧ r ≤ 5)) : am_D l 171 [aR 12 0, aI r] σ τ (rX t) cX lX (some (aI (-1))) σ τ (rX t) := by
  refine am_D_of am_o171 am_l171 rfl ?_
  refine am_vc_ok am_k171 [] 100 ?_
  refine am_vO am_k171 am_h171 rfl rfl rfl rfl (m_askedText_bad hr) ?_
  refine am_vc_ok am_k171 [] 100 ?_
  refine And.intro (fun h => ?_) (fun h => ?_)
  · exact absurd h (by decide)
  · exact am_vI am_k171 am_r171 rfl ⟨rfl, rfl, rfl, rfl, rfl, rfl⟩
theorem m_size {j : Nat} (hj : j < 6) : am_D l 171 [aR 12 0, aI (nI j)] σ τ (rX t) cX lX (some (aI (if σ 47 0 j < 0 then -3 else σ 47 0 j))) (if σ 47 0 j < 0 then mmeets 1 σ else σ) τ (rX t) := by
  refine am_D_of am_o171 am_l171 rfl ?_
  refine am_vc_ok am_k171 [] 100 ?_
  refine am_vO am_k171 am_h171 rfl rfl rfl rfl (m_askedText hj) ?_
  refine am_vc_ok am_k171 [] 100 ?_
  by_cases h1 : σ 47 0 j < 0
  · simp only [if_pos h1]
    refine And.intro (fun h => ?_) (fun h => ?_)
    · exact absurd h (by decide)
    · exact am_vI am_k171 am_r171 rfl ⟨rfl, rfl, rfl, rfl, rfl, rfl⟩
  · simp only [if_neg h1]
    refine And.intro (fun h => ?_) (fun h => ?_)
    · refine And.intro (vp_in_nI (N := 6) hj (by decide)) ?_
      rw [nI_clamp (n := j) (by omega)]
      exact am_vI am_k171 am_r171 rfl ⟨rfl, rfl, rfl, rfl, rfl, rfl⟩
    · exact absurd (by decide) h
end MR
