/-! CASES OF THE LAW: fields -/
section L23
variable {l : Launch} {σ σ2 s : tI} {τ τ2 : tL} {t : Option (Nat × Nat)}
def hasP (a b : Nat → Int32) (v : Int32) : Nat → Bool := fun k => decide (a k ≤ v ∧ v ≤ b k)
def neeP (a b : Nat → Int32) (v : Int32) (c : Nat → Bool) : Nat → Bool := fun k => decide (a k ≤ v ∧ v ≤ b k) && c k
theorem cntN_1 {p : Nat → Bool} {k : Nat} (h : p k = true) : cntN p (k + 1) = cntN p k + 1 := by
  show cntN p k + _ = _
  rw [if_pos h]
theorem cntN_0 {p : Nat → Bool} {k : Nat} (h : ¬ p k = true) : cntN p (k + 1) = cntN p k := by
  show cntN p k + _ = _
  rw [if_neg h, Nat.add_zero]
theorem nI_z (c : Nat) : nI c = nI c + 0 := (Int32.add_zero _).symm
theorem x_has {i k : Nat} {v : Int32} (hk : k < 12) : am_D l 80 [aR 9 i, aI v, aI (nI k)] σ τ (rX t) cX lX (some (aI (bI (σ 35 i k ≤ v ∧ v ≤ σ 36 i k)))) σ τ (rX t) := by
  refine am_D_of am_o80 am_l80 rfl ?_
  refine am_vc_ok am_k80 [] 100 ?_
  refine And.intro (vp_in_nI (N := 12) hk (by decide)) ?_
  rw [nI_clamp (n := k) (by omega)]
  refine And.intro (fun h1 => ?_) (fun h1 => ?_)
  · have h1 : v < σ 35 i k := h1
    refine am_vZ am_k80 am_r80 rfl (Or.inl rfl) ⟨by rw [bI_f (fun z => absurd h1 (Int32.not_lt.mpr z.1))], rfl, rfl, rfl, rfl, rfl⟩
  have h1 : ¬ v < σ 35 i k := h1
  refine And.intro (vp_in_nI (N := 12) hk (by decide)) ?_
  rw [nI_clamp (n := k) (by omega)]
  refine And.intro (fun h2 => ?_) (fun h2 => ?_)
  · have h2 : σ 36 i k < v := h2
    refine am_vZ am_k80 am_r80 rfl (Or.inl rfl) ⟨by rw [bI_f (fun z => absurd h2 (Int32.not_lt.mpr z.2))], rfl, rfl, rfl, rfl, rfl⟩
  · have h2 : ¬ σ 36 i k < v := h2
    refine am_vZ am_k80 am_r80 rfl (Or.inr rfl) ⟨by rw [bI_t ⟨Int32.not_lt.mp h1, Int32.not_lt.mp h2⟩], rfl, rfl, rfl, rfl, rfl⟩
theorem x_isNeeded {i k : Nat} (hk : k < 12) : am_D l 81 [aR 9 i, aI (nI k)] σ τ (rX t) cX lX (some (aI (bI (σ 37 i k = -9)))) σ τ (rX t) := by
  refine am_D_of am_o81 am_l81 rfl ?_
  refine am_vc_ok am_k81 [] 100 ?_
  refine And.intro (vp_in_nI (N := 12) hk (by decide)) ?_
  rw [nI_clamp (n := k) (by omega)]
  refine And.intro (fun h1 => ?_) (fun h1 => ?_)
  · have h1 : σ 37 i k = -9 := h1
    refine am_vZ am_k81 am_r81 rfl (Or.inr rfl) ⟨by rw [bI_t h1], rfl, rfl, rfl, rfl, rfl⟩
  · have h1 : ¬ σ 37 i k = -9 := h1
    refine am_vZ am_k81 am_r81 rfl (Or.inl rfl) ⟨by rw [bI_f h1], rfl, rfl, rfl, rfl, rfl⟩
theorem x_fieldsOf_lp {Q : tQ} {i n : Nat} {v : Int32} (hn : σ 9 i 1 = nI n) (hn2 : n ≤ 12) (K : am_G l 82 Q 0 0 35 [(3, aI (nI n)), (2, aI (nI (cntN (hasP (σ 35 i) (σ 36 i) v) n))), (0, aR 9 i), (1, aI v)] [] σ τ (rX t) cX lX) : ∀ (d k : Nat), k + d = n → am_G l 82 Q 0 0 4 [(3, aI (nI k)), (2, aI (nI (cntN (hasP (σ 35 i) (σ 36 i) v) k))), (0, aR 9 i), (1, aI v)] [] σ τ (rX t) cX lX
  | 0, k, h => by
    obtain rfl : k = n := by omega
    refine am_vc_ok am_k82 [4, 35] 100 ?_
    exact And.intro (fun _ => K) (fun h1 => absurd (by rw [hn]; exact Int32.le_refl _) h1)
  | d + 1, k, h => by
    have K2 := x_fieldsOf_lp hn hn2 K d (k + 1) (by omega)
    refine am_vc_ok am_k82 [4, 35] 100 ?_
    refine And.intro (fun h1 => absurd h1 (by rw [hn]; exact nI_ge (b := n) (by omega) (by omega))) (fun _ => ?_)
    refine am_vO am_k82 am_h82 rfl rfl rfl rfl (x_has (by omega)) ?_
    refine am_vc_ok am_k82 [4, 35] 100 ?_
    refine And.intro (fun e => ?_) (fun e => ?_)
    · have e := bI_0.mp e
      rw [cntN_0 (by simpa [hasP] using e), nI_z (cntN (hasP (σ 35 i) (σ 36 i) v) k), ← nI_1 k] at K2
      exact K2
    · have e := bI_1.mp e
      rw [cntN_1 (by simpa [hasP] using e), ← nI_1 (cntN (hasP (σ 35 i) (σ 36 i) v) k), ← nI_1 k] at K2
      exact K2
theorem x_fieldsOf {i n : Nat} {v : Int32} (hn : σ 9 i 1 = nI n) (hn2 : n ≤ 12) : am_D l 82 [aR 9 i, aI v] σ τ (rX t) cX lX (some (aI (nI (cntN (hasP (σ 35 i) (σ 36 i) v) n)))) σ τ (rX t) := by
  refine am_D_of am_o82 am_l82 rfl ?_
  refine am_vc_ok am_k82 [4] 100 ?_
  refine x_fieldsOf_lp hn hn2 ?_ n 0 (by omega)
  refine am_vc_ok am_k82 [] 100 ?_
  exact am_vI am_k82 am_r82 rfl ⟨rfl, rfl, rfl, rfl, rfl, rfl⟩
theorem x_neededOf_lp {Q : tQ} {i n : Nat} {v : Int32} (hn : σ 9 i 1 = nI n) (hn2 : n ≤ 12) (K : am_G l 83 Q 0 0 43 [(3, aI (nI n)), (2, aI (nI (cntN (neeP (σ 35 i) (σ 36 i) v (fun k => decide (σ 37 i k = -9))) n))), (0, aR 9 i), (1, aI v)] [] σ τ (rX t) cX lX) : ∀ (d k : Nat), k + d = n → am_G l 83 Q 0 0 4 [(3, aI (nI k)), (2, aI (nI (cntN (neeP (σ 35 i) (σ 36 i) v (fun k => decide (σ 37 i k = -9))) k))), (0, aR 9 i), (1, aI v)] [] σ τ (rX t) cX lX
  | 0, k, h => by
    obtain rfl : k = n := by omega
    refine am_vc_ok am_k83 [4, 43] 100 ?_
    exact And.intro (fun _ => K) (fun h1 => absurd (by rw [hn]; exact Int32.le_refl _) h1)
  | d + 1, k, h => by
    have K2 := x_neededOf_lp hn hn2 K d (k + 1) (by omega)
    refine am_vc_ok am_k83 [4, 43] 100 ?_
    refine And.intro (fun h1 => absurd h1 (by rw [hn]; exact nI_ge (b := n) (by omega) (by omega))) (fun _ => ?_)
    refine am_vO am_k83 am_h83 rfl rfl rfl rfl (x_has (by omega)) ?_
    refine am_vc_ok am_k83 [4, 43] 100 ?_
    refine And.intro (fun e => ?_) (fun e => ?_)
    · have e := bI_0.mp e
      rw [cntN_0 (by simp [neeP]; intro z1 z2; exact absurd ⟨z1, z2⟩ e), nI_z (cntN (neeP (σ 35 i) (σ 36 i) v (fun k => decide (σ 37 i k = -9))) k), ← nI_1 k] at K2
      exact K2
    · have e := bI_1.mp e
      refine am_vO am_k83 am_h83 rfl rfl rfl rfl (x_isNeeded (by omega)) ?_
      refine am_vc_ok am_k83 [4, 43] 100 ?_
      refine And.intro (fun e3 => ?_) (fun e3 => ?_)
      · have e3 := bI_0.mp e3
        rw [cntN_0 (by simp [neeP, e3]), nI_z (cntN (neeP (σ 35 i) (σ 36 i) v (fun k => decide (σ 37 i k = -9))) k), ← nI_1 k] at K2
        exact K2
      · have e3 := bI_1.mp e3
        rw [cntN_1 (by simp [neeP, e, e3]), ← nI_1 (cntN (neeP (σ 35 i) (σ 36 i) v (fun k => decide (σ 37 i k = -9))) k), ← nI_1 k] at K2
        exact K2
theorem x_neededOf {i n : Nat} {v : Int32} (hn : σ 9 i 1 = nI n) (hn2 : n ≤ 12) : am_D l 83 [aR 9 i, aI v] σ τ (rX t) cX lX (some (aI (nI (cntN (neeP (σ 35 i) (σ 36 i) v (fun k => decide (σ 37 i k = -9))) n)))) σ τ (rX t) := by
  refine am_D_of am_o83 am_l83 rfl ?_
  refine am_vc_ok am_k83 [4] 100 ?_
  refine x_neededOf_lp hn hn2 ?_ n 0 (by omega)
  refine am_vc_ok am_k83 [] 100 ?_
  exact am_vI am_k83 am_r83 rfl ⟨rfl, rfl, rfl, rfl, rfl, rfl⟩
theorem x_fields {s n : Nat} {v : Int32} (hs : s < 4) (hv : 0 ≤ v ∧ v < 10) (h0 : ¬ σ 9 (1 + s) 0 = 0) (hn : σ 9 (1 + s) 1 = nI n) (hn2 : n ≤ 12) : am_D l 104 [aR 11 0, aI (nI s), aI v] σ τ (rX t) cX lX (some (aI (nI (cntN (hasP (σ 35 (1 + s)) (σ 36 (1 + s)) v) n)))) (u3 σ 11 0 11 (nI (cntN (neeP (σ 35 (1 + s)) (σ 36 (1 + s)) v (fun k => decide (σ 37 (1 + s) k = -9))) n))) τ (rX t) := by
  refine am_D_of am_o104 am_l104 rfl ?_
  refine am_vc_ok am_k104 [] 100 ?_
  refine am_vS am_k104 am_h104 rfl rfl rfl rfl (x_within) ?_
  refine am_vc_ok am_k104 [] 100 ?_
  refine And.intro (fun g => absurd (in4 hs) (bI_0.mp g)) (fun _ => ?_)
  refine am_vS am_k104 am_h104 rfl rfl rfl rfl (x_within) ?_
  refine am_vc_ok am_k104 [] 100 ?_
  refine And.intro (fun g => absurd hv (bI_0.mp g)) (fun _ => ?_)
  refine And.intro (vp_in_nI (N := 4) hs (by decide)) ?_
  rw [nI_clamp (n := s) (by omega)]
  refine And.intro (fun g => absurd g h0) (fun _ => ?_)
  refine And.intro (vp_in_nI (N := 4) hs (by decide)) ?_
  rw [nI_clamp (n := s) (by omega)]
  refine am_vO am_k104 am_h104 rfl rfl rfl rfl (x_neededOf hn hn2) ?_
  refine am_vc_ok am_k104 [] 100 ?_
  refine And.intro (vp_in_nI (N := 4) hs (by decide)) ?_
  rw [nI_clamp (n := s) (by omega)]
  refine am_vO am_k104 am_h104 rfl rfl rfl rfl (x_fieldsOf (i := 1 + s) (n := n) (by simpa [u3] using hn) hn2) ?_
  refine am_vc_ok am_k104 [] 100 ?_
  exact am_vI am_k104 am_r104 rfl ⟨rfl, rfl, rfl, rfl, rfl, rfl⟩
theorem m_isOf {s i : Nat} {v : Int32} (hs : s < 4) (hi : i < 12) : am_D l 184 [aR 12 0, aI (nI s), aI (nI i), aI v] σ τ (rX t) cX lX (some (aI (bI (σ 50 0 (72 * s + 6 * i + 3) ≤ v ∧ v ≤ σ 50 0 (72 * s + 6 * i + 4))))) σ τ (rX t) := by
  refine am_D_of am_o184 am_l184 rfl ?_
  refine am_vc_ok am_k184 [] 100 ?_
  refine am_vO am_k184 am_h184 rfl rfl rfl rfl (m_part (w := 3) hs hi (by decide)) ?_
  refine am_vc_ok am_k184 [] 100 ?_
  refine And.intro (fun h1 => ?_) (fun h1 => ?_)
  · have h1 : v < σ 50 0 (72 * s + 6 * i + 3) := h1
    refine am_vZ am_k184 am_r184 rfl (Or.inl rfl) ⟨by rw [bI_f (fun z => absurd h1 (Int32.not_lt.mpr z.1))], rfl, rfl, rfl, rfl, rfl⟩
  have h1 : ¬ v < σ 50 0 (72 * s + 6 * i + 3) := h1
  refine am_vO am_k184 am_h184 rfl rfl rfl rfl (m_part (w := 4) hs hi (by decide)) ?_
  refine am_vc_ok am_k184 [] 100 ?_
  refine And.intro (fun h2 => ?_) (fun h2 => ?_)
  · have h2 : σ 50 0 (72 * s + 6 * i + 4) < v := h2
    refine am_vZ am_k184 am_r184 rfl (Or.inl rfl) ⟨by rw [bI_f (fun z => absurd h2 (Int32.not_lt.mpr z.2))], rfl, rfl, rfl, rfl, rfl⟩
  · have h2 : ¬ σ 50 0 (72 * s + 6 * i + 4) < v := h2
    refine am_vZ am_k184 am_r184 rfl (Or.inr rfl) ⟨by rw [bI_t ⟨Int32.not_lt.mp h1, Int32.not_lt.mp h2⟩], rfl, rfl, rfl, rfl, rfl⟩
abbrev mA (σ : tI) (s w : Nat) : Nat → Int32 := fun k => σ 50 0 (72 * s + 6 * k + w)
theorem m_fields_lp {Q : tQ} {s n : Nat} {v b : Int32} (hs : s < 4) (hn : σ 49 0 s = nI n) (hn2 : n ≤ 12) (K : am_G l 186 Q 0 0 100 [(6, aI (nI n)), (5, aI (nI (cntN (neeP (mA σ s 3) (mA σ s 4) v (fun k => decide (mA σ s 5 k < 0))) n))), (4, aI (nI (cntN (hasP (mA σ s 3) (mA σ s 4) v) n))), (3, aI b), (0, aR 12 0), (1, aI (nI s)), (2, aI v)] [] σ τ (rX t) cX lX) : ∀ (d k : Nat), k + d = n → am_G l 186 Q 0 0 30 [(6, aI (nI k)), (5, aI (nI (cntN (neeP (mA σ s 3) (mA σ s 4) v (fun k => decide (mA σ s 5 k < 0))) k))), (4, aI (nI (cntN (hasP (mA σ s 3) (mA σ s 4) v) k))), (3, aI b), (0, aR 12 0), (1, aI (nI s)), (2, aI v)] [] σ τ (rX t) cX lX
  | 0, k, h => by
    obtain rfl : k = n := by omega
    refine am_vc_ok am_k186 [30, 100] 100 ?_
    refine And.intro (vp_in_nI (N := 4) hs (by decide)) ?_
    rw [nI_clamp (n := s) (by omega), hn]
    exact And.intro (fun _ => K) (fun h1 => absurd (Int32.le_refl _) h1)
  | d + 1, k, h => by
    have K2 := m_fields_lp hs hn hn2 K d (k + 1) (by omega)
    refine am_vc_ok am_k186 [30, 100] 100 ?_
    refine And.intro (vp_in_nI (N := 4) hs (by decide)) ?_
    rw [nI_clamp (n := s) (by omega), hn]
    refine And.intro (fun h1 => absurd h1 (nI_ge (b := n) (by omega) (by omega))) (fun _ => ?_)
    refine am_vO am_k186 am_h186 rfl rfl rfl rfl (m_isOf (i := k) hs (by omega)) ?_
    refine am_vc_ok am_k186 [30, 100] 100 ?_
    refine And.intro (fun e => ?_) (fun e => ?_)
    · refine am_vO am_k186 am_h186 rfl rfl rfl rfl (m_isOf (i := k) hs (by omega)) ?_
      refine am_vc_ok am_k186 [30, 100] 100 ?_
      refine And.intro (fun _ => ?_) (fun e2 => absurd e e2)
      have e := bI_0.mp e
      rw [cntN_0 (p := hasP _ _ _) (by simpa [hasP] using e), cntN_0 (p := neeP _ _ _ _) (by simp [neeP]; intro z1 z2; exact absurd ⟨z1, z2⟩ e), nI_z (cntN (hasP (mA σ s 3) (mA σ s 4) v) k), nI_z (cntN (neeP (mA σ s 3) (mA σ s 4) v (fun k => decide (mA σ s 5 k < 0))) k), ← nI_1 k] at K2
      exact K2
    · refine am_vO am_k186 am_h186 rfl rfl rfl rfl (m_isOf (i := k) hs (by omega)) ?_
      refine am_vc_ok am_k186 [30, 100] 100 ?_
      refine And.intro (fun e2 => absurd e2 e) (fun _ => ?_)
      have e := bI_1.mp e
      refine am_vO am_k186 am_h186 rfl rfl rfl rfl (m_part (i := k) (w := 5) hs (by omega) (by decide)) ?_
      refine am_vc_ok am_k186 [30, 100] 100 ?_
      refine And.intro (fun e3 => ?_) (fun e3 => ?_)
      · have e3 : ¬ mA σ s 5 k < 0 := Int32.not_lt.mpr e3
        rw [cntN_1 (p := hasP _ _ _) (by simpa [hasP] using e), cntN_0 (p := neeP _ _ _ _) (by simp [neeP, e3]), ← nI_1 (cntN (hasP (mA σ s 3) (mA σ s 4) v) k), nI_z (cntN (neeP (mA σ s 3) (mA σ s 4) v (fun k => decide (mA σ s 5 k < 0))) k), ← nI_1 k] at K2
        exact K2
      · have e3 : mA σ s 5 k < 0 := Int32.not_le.mp e3
        rw [cntN_1 (p := hasP _ _ _) (by simpa [hasP] using e), cntN_1 (p := neeP _ _ _ _) (by simp [neeP, e, e3]), ← nI_1 (cntN (hasP (mA σ s 3) (mA σ s 4) v) k), ← nI_1 (cntN (neeP (mA σ s 3) (mA σ s 4) v (fun k => decide (mA σ s 5 k < 0))) k), ← nI_1 k] at K2
        exact K2
theorem m_fields {s n : Nat} {v : Int32} (hs : s < 4) (hv : 0 ≤ v ∧ v ≤ 9) (hn : σ 49 0 s = nI n) (hn2 : n ≤ 12) : am_D l 186 [aR 12 0, aI (nI s), aI v] σ τ (rX t) cX lX (some (aI (nI (cntN (hasP (mA σ s 3) (mA σ s 4) v) n)))) (u3 σ 12 0 2 (nI (cntN (neeP (mA σ s 3) (mA σ s 4) v (fun k => decide (mA σ s 5 k < 0))) n))) τ (rX t) := by
  have h0 : ¬ σ 49 0 s < 0 := by rw [hn]; exact nI_pos (by omega)
  refine am_D_of am_o186 am_l186 rfl ?_
  refine am_vc_ok am_k186 [30] 100 ?_
  refine am_vS am_k186 am_h186 rfl rfl rfl rfl (m_isVersion) ?_
  refine am_vc_ok am_k186 [30] 100 ?_
  refine And.intro (fun g => absurd hv (bI_0.mp g)) (fun _ => ?_)
  refine am_vO am_k186 am_h186 rfl rfl rfl rfl (m_askedShape hs) ?_
  refine am_vc_ok am_k186 [30] 100 ?_
  simp only [if_neg h0]
  refine And.intro (fun _ => ?_) (fun g => absurd (by decide) g)
  refine m_fields_lp hs hn hn2 ?_ n 0 (by omega)
  refine am_vc_ok am_k186 [] 100 ?_
  refine am_vO am_k186 am_h186 rfl rfl rfl rfl (m_ask) ?_
  refine am_vc_ok am_k186 [] 100 ?_
  exact am_vI am_k186 am_r186 rfl ⟨rfl, rfl, rfl, rfl, rfl, rfl⟩
theorem LC_fields (h : Rall σ τ) (s v : Int32) : LC l 104 186 [aI s, aI v] σ τ t := by
  have e10 : ∀ x : Int32, (0 ≤ x ∧ x ≤ 9) ↔ (0 ≤ x ∧ x < 10) := fun x => leN (n := 10) (N := 10) (by decide) (by decide)
  by_cases hs : 0 ≤ s ∧ s < 4
  · by_cases hv : 0 ≤ v ∧ v < 10
    · obtain ⟨q, hq, rfl⟩ := ix_lt (n := 4) (by decide) hs
      rcases h.2.2.1 q hq with ⟨z1, z2⟩ | ⟨S, w1, w2, w3, w4, w5, w6, w7⟩
      · exact LC.of (x_fields_none hq hv z1) (m_fields_none hq ((e10 v).mpr hv) (by show σ 49 0 q < 0; rw [z2]; decide)) (h.find (by decide))
      · have hn2 : sN S ≤ 12 := w1.1
        have i1 : ∀ k, k < sN S → σ 35 (1 + q) k = mA σ q 3 k ∧ σ 36 (1 + q) k = mA σ q 4 k ∧ (σ 37 (1 + q) k = -9 ↔ mA σ q 5 k < 0) := by
          intro k hk
          obtain ⟨-, -, -, y4, y5, y6⟩ := w5 k hk
          refine ⟨?_, ?_, ?_⟩
          · rw [y4]; show _ = σ 50 0 (72 * q + 6 * k + 3); rw [w7 k 3 hk (by decide)]; rfl
          · rw [y5]; show _ = σ 50 0 (72 * q + 6 * k + 4); rw [w7 k 4 hk (by decide)]; rfl
          · rw [y6]; show _ ↔ σ 50 0 (72 * q + 6 * k + 5) < 0; rw [w7 k 5 hk (by decide)]
            show pI (sPr S k) = -9 ↔ pI (sPr S k) < 0
            cases hp : sPr S k with
            | none => decide
            | some d =>
              have hd := ((w1.2.1 k hk).2.2.2.2.2.2 d hp).1
              constructor
              · intro z; exact absurd z (n9_4 (by omega))
              · intro z; exact absurd z (nI_pos (by omega))
        have c1 : cntN (hasP (σ 35 (1 + q)) (σ 36 (1 + q)) v) (sN S) = cntN (hasP (mA σ q 3) (mA σ q 4) v) (sN S) := cntN_cg (fun k hk => by unfold hasP; rw [(i1 k hk).1, (i1 k hk).2.1])
        have c2 : cntN (neeP (σ 35 (1 + q)) (σ 36 (1 + q)) v (fun k => decide (σ 37 (1 + q) k = -9))) (sN S) = cntN (neeP (mA σ q 3) (mA σ q 4) v (fun k => decide (mA σ q 5 k < 0))) (sN S) := cntN_cg (fun k hk => by unfold neeP; rw [(i1 k hk).1, (i1 k hk).2.1]; exact congrArg _ (decide_eq_decide.mpr (i1 k hk).2.2))
        have hx := x_fields (l := l) (τ := τ) (t := t) hq hv (by rw [w2]; decide) w3 hn2
        rw [c1, c2] at hx
        exact LC.of hx (m_fields (σ := u3 σ 11 0 11 _) hq ((e10 v).mpr hv) (by simpa [u3] using w4) hn2) h.ask
    · exact LC.of (x_fields_bad (Or.inr hv)) (m_fields_bad (Or.inr (fun z => hv ((e10 v).mp z)))) h
  · exact LC.of (x_fields_bad (Or.inl hs)) (m_fields_bad (Or.inl (not4 hs))) h
end L23
