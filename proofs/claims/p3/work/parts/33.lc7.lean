/-! CASES OF THE LAW: item, breaks -/
section L7
variable {l : Launch} {σ σ2 : tI} {τ τ2 : tL} {t : Option (Nat × Nat)} {ρ : tR} {cn : tN} {ln : tM}
theorem in4 {j : Nat} (hj : j < 4) : ((0 : Int32) ≤ nI j ∧ nI j < 4) := ⟨nI_pos' (by omega), nI_lt (b := 4) hj (by decide)⟩
theorem in3 {j : Nat} (hj : j < 4) : ((0 : Int32) ≤ nI j ∧ nI j ≤ 3) := ⟨nI_pos' (by omega), nI_le (b := 3) (by omega) (by decide)⟩
theorem not4 {r : Int32} (h : ¬ (0 ≤ r ∧ r < 4)) : ¬ (0 ≤ r ∧ r ≤ 3) := by
  intro h2
  obtain ⟨j, hj, rfl⟩ := ix_le (n := 4) (by decide) h2
  exact h (in4 hj)
theorem x_sfact {i k w : Nat} (hk : k < 12) (hw : w < 6) : am_D l 79 [aR 9 i, aI (nI k), aI (nI w)] σ τ (rX t) cX lX (some (aI (σ (32 + w) i k))) σ τ (rX t) := by
  refine am_D_of am_o79 am_l79 rfl ?_
  refine am_vc_ok am_k79 [] 100 ?_
  match w, hw with
  | 0, _ =>
    refine am_sw 36 (by decide +kernel) ?_
    refine And.intro (vp_in_nI (N := 12) hk (by decide)) ?_
    rw [nI_clamp (by omega)]
    exact am_vI am_k79 am_r79 rfl ⟨rfl, rfl, rfl, rfl, rfl, rfl⟩
  | 1, _ =>
    refine am_sw 43 (by decide +kernel) ?_
    refine And.intro (vp_in_nI (N := 12) hk (by decide)) ?_
    rw [nI_clamp (by omega)]
    exact am_vI am_k79 am_r79 rfl ⟨rfl, rfl, rfl, rfl, rfl, rfl⟩
  | 2, _ =>
    refine am_sw 50 (by decide +kernel) ?_
    refine And.intro (vp_in_nI (N := 12) hk (by decide)) ?_
    rw [nI_clamp (by omega)]
    exact am_vI am_k79 am_r79 rfl ⟨rfl, rfl, rfl, rfl, rfl, rfl⟩
  | 3, _ =>
    refine am_sw 57 (by decide +kernel) ?_
    refine And.intro (vp_in_nI (N := 12) hk (by decide)) ?_
    rw [nI_clamp (by omega)]
    exact am_vI am_k79 am_r79 rfl ⟨rfl, rfl, rfl, rfl, rfl, rfl⟩
  | 4, _ =>
    refine am_sw 64 (by decide +kernel) ?_
    refine And.intro (vp_in_nI (N := 12) hk (by decide)) ?_
    rw [nI_clamp (by omega)]
    exact am_vI am_k79 am_r79 rfl ⟨rfl, rfl, rfl, rfl, rfl, rfl⟩
  | 5, _ =>
    refine am_sw 71 (by decide +kernel) ?_
    refine And.intro (vp_in_nI (N := 12) hk (by decide)) ?_
    rw [nI_clamp (by omega)]
    exact am_vI am_k79 am_r79 rfl ⟨rfl, rfl, rfl, rfl, rfl, rfl⟩
theorem x_item_bad {s i w : Int32} (h : ¬ (0 ≤ s ∧ s < 4) ∨ ¬ (0 ≤ w ∧ w < 6)) : am_D l 103 [aR 11 0, aI s, aI i, aI w] σ τ (rX t) cX lX (some (aI (-1))) σ τ (rX t) := by
  refine am_D_of am_o103 am_l103 rfl ?_
  refine am_vc_ok am_k103 [] 100 ?_
  refine am_vS am_k103 am_h103 rfl rfl rfl rfl (x_within) ?_
  refine am_vc_ok am_k103 [] 100 ?_
  refine And.intro (fun h1 => ?_) (fun h1 => ?_)
  · exact am_vI am_k103 am_r103 rfl ⟨rfl, rfl, rfl, rfl, rfl, rfl⟩
  refine am_vS am_k103 am_h103 rfl rfl rfl rfl (x_within) ?_
  refine am_vc_ok am_k103 [] 100 ?_
  refine And.intro (fun h2 => ?_) (fun h2 => ?_)
  · exact am_vI am_k103 am_r103 rfl ⟨rfl, rfl, rfl, rfl, rfl, rfl⟩
  · rcases h with h | h
    · exact absurd (bI_1.mp h1) h
    · exact absurd (bI_1.mp h2) h
theorem x_item_none {s : Nat} {i w : Int32} (hs : s < 4) (hw : 0 ≤ w ∧ w < 6) (h0 : σ 9 (1 + s) 0 = 0) : am_D l 103 [aR 11 0, aI (nI s), aI i, aI w] σ τ (rX t) cX lX (some (aI (-3))) (xfind 1 σ) τ (rX t) := by
  refine am_D_of am_o103 am_l103 rfl ?_
  refine am_vc_ok am_k103 [] 100 ?_
  refine am_vS am_k103 am_h103 rfl rfl rfl rfl (x_within) ?_
  refine am_vc_ok am_k103 [] 100 ?_
  refine And.intro (fun h1 => ?_) (fun h1 => ?_)
  · exact absurd (in4 hs) (bI_0.mp h1)
  refine am_vS am_k103 am_h103 rfl rfl rfl rfl (x_within) ?_
  refine am_vc_ok am_k103 [] 100 ?_
  refine And.intro (fun h2 => ?_) (fun h2 => ?_)
  · exact absurd hw (bI_0.mp h2)
  refine And.intro (vp_in_nI (N := 4) hs (by decide)) ?_
  rw [nI_clamp (by omega)]
  refine And.intro (fun _ => ?_) (fun h => absurd h0 h)
  refine am_vO am_k103 am_h103 rfl rfl rfl rfl (x_find (w := 1) (by decide)) ?_
  refine am_vc_ok am_k103 [] 100 ?_
  exact am_vI am_k103 am_r103 rfl ⟨rfl, rfl, rfl, rfl, rfl, rfl⟩
theorem x_item {s w n : Nat} {i : Int32} (hs : s < 4) (hw : w < 6) (h0 : σ 9 (1 + s) 0 = 1) (hn : σ 9 (1 + s) 1 = nI n) (hn2 : n ≤ 12) : am_D l 103 [aR 11 0, aI (nI s), aI i, aI (nI w)] σ τ (rX t) cX lX (some (aI (if 0 ≤ i ∧ i < nI n then 1 else -3))) (if 0 ≤ i ∧ i < nI n then u3 σ 11 0 11 (σ (32 + w) (1 + s) i.toNatClampNeg) else xfind 2 σ) τ (rX t) := by
  have h01 : ¬ σ 9 (1 + s) 0 = 0 := by rw [h0]; decide
  refine am_D_of am_o103 am_l103 rfl ?_
  refine am_vc_ok am_k103 [] 100 ?_
  refine am_vS am_k103 am_h103 rfl rfl rfl rfl (x_within) ?_
  refine am_vc_ok am_k103 [] 100 ?_
  refine And.intro (fun h1 => ?_) (fun h1 => ?_)
  · exact absurd (in4 hs) (bI_0.mp h1)
  refine am_vS am_k103 am_h103 rfl rfl rfl rfl (x_within) ?_
  refine am_vc_ok am_k103 [] 100 ?_
  refine And.intro (fun h2 => ?_) (fun h2 => ?_)
  · exact absurd (inN (n := 6) hw (by omega)) (bI_0.mp h2)
  refine And.intro (vp_in_nI (N := 4) hs (by decide)) ?_
  rw [nI_clamp (n := s) (by omega)]
  refine And.intro (fun h => absurd h h01) (fun _ => ?_)
  refine And.intro (vp_in_nI (N := 4) hs (by decide)) ?_
  rw [nI_clamp (n := s) (by omega)]
  refine am_vS am_k103 am_h103 rfl rfl rfl rfl (x_within) ?_
  refine am_vc_ok am_k103 [] 100 ?_
  rw [hn]
  refine And.intro (fun h3 => ?_) (fun h3 => ?_)
  · simp only [if_neg (bI_0.mp h3)]
    refine am_vO am_k103 am_h103 rfl rfl rfl rfl (x_find (w := 2) (by decide)) ?_
    refine am_vc_ok am_k103 [] 100 ?_
    exact am_vI am_k103 am_r103 rfl ⟨rfl, rfl, rfl, rfl, rfl, rfl⟩
  · have h3 := bI_1.mp h3
    simp only [if_pos h3]
    obtain ⟨k, hk, rfl⟩ := ix_lt (nI_toInt (by omega)) h3
    refine And.intro (vp_in_nI (N := 4) hs (by decide)) ?_
    rw [nI_clamp (n := s) (by omega), nI_clamp (n := k) (by omega)]
    refine am_vO am_k103 am_h103 rfl rfl rfl rfl (x_sfact (by omega) hw) ?_
    refine am_vc_ok am_k103 [] 100 ?_
    exact am_vI am_k103 am_r103 rfl ⟨rfl, rfl, rfl, rfl, rfl, rfl⟩
theorem m_askedShape_bad {s : Int32} (hs : ¬ (0 ≤ s ∧ s ≤ 3)) : am_D l 173 [aR 12 0, aI s] σ τ (rX t) cX lX (some (aI (-1))) σ τ (rX t) := by
  refine am_D_of am_o173 am_l173 rfl ?_
  refine am_vc_ok am_k173 [] 100 ?_
  refine am_vS am_k173 am_h173 rfl rfl rfl rfl (m_isShape) ?_
  refine am_vc_ok am_k173 [] 100 ?_
  refine And.intro (fun h => ?_) (fun h => ?_)
  · exact am_vI am_k173 am_r173 rfl ⟨rfl, rfl, rfl, rfl, rfl, rfl⟩
  · exact absurd (bI_1.mp h) hs
theorem m_askedShape {s : Nat} (hs : s < 4) : am_D l 173 [aR 12 0, aI (nI s)] σ τ (rX t) cX lX (some (aI (if σ 49 0 s < 0 then -3 else 0))) (if σ 49 0 s < 0 then mmeets 1 σ else σ) τ (rX t) := by
  refine am_D_of am_o173 am_l173 rfl ?_
  refine am_vc_ok am_k173 [] 100 ?_
  refine am_vS am_k173 am_h173 rfl rfl rfl rfl (m_isShape) ?_
  refine am_vc_ok am_k173 [] 100 ?_
  refine And.intro (fun h => ?_) (fun h => ?_)
  · exact absurd (in3 hs) (bI_0.mp h)
  refine And.intro (vp_in_nI (N := 4) hs (by decide)) ?_
  rw [nI_clamp (by omega)]
  refine And.intro (fun h1 => ?_) (fun h1 => ?_)
  · have h1 : 0 ≤ σ 49 0 s := h1
    simp only [if_neg (Int32.not_lt.mpr h1)]
    exact am_vI am_k173 am_r173 rfl ⟨rfl, rfl, rfl, rfl, rfl, rfl⟩
  · have h1 : ¬ 0 ≤ σ 49 0 s := h1
    simp only [if_pos (Int32.not_le.mp h1)]
    refine am_vO am_k173 am_h173 rfl rfl rfl rfl (m_meets (w := 1) (by decide)) ?_
    refine am_vc_ok am_k173 [] 100 ?_
    exact am_vI am_k173 am_r173 rfl ⟨rfl, rfl, rfl, rfl, rfl, rfl⟩
theorem m_item_bad {s i w : Int32} (h : ¬ (0 ≤ s ∧ s ≤ 3) ∨ ¬ (0 ≤ w ∧ w ≤ 5)) : am_D l 182 [aR 12 0, aI s, aI i, aI w] σ τ (rX t) cX lX (some (aI (-1))) σ τ (rX t) := by
  refine am_D_of am_o182 am_l182 rfl ?_
  refine am_vc_ok am_k182 [] 100 ?_
  refine am_vS am_k182 am_h182 rfl rfl rfl rfl (m_in) ?_
  refine am_vc_ok am_k182 [] 100 ?_
  refine And.intro (fun h1 => ?_) (fun h1 => ?_)
  · exact am_vI am_k182 am_r182 rfl ⟨rfl, rfl, rfl, rfl, rfl, rfl⟩
  rcases h with h | h
  · refine am_vO am_k182 am_h182 rfl rfl rfl rfl (m_askedShape_bad h) ?_
    refine am_vc_ok am_k182 [] 100 ?_
    refine And.intro (fun h2 => ?_) (fun h2 => ?_)
    · exact absurd h2 (by decide)
    · exact am_vI am_k182 am_r182 rfl ⟨rfl, rfl, rfl, rfl, rfl, rfl⟩
  · exact absurd (bI_1.mp h1) h
theorem m_item_none {s : Nat} {i w : Int32} (hs : s < 4) (hw : 0 ≤ w ∧ w ≤ 5) (h0 : σ 49 0 s = -9) : am_D l 182 [aR 12 0, aI (nI s), aI i, aI w] σ τ (rX t) cX lX (some (aI (-3))) (mmeets 1 σ) τ (rX t) := by
  have h0 : σ 49 0 s < 0 := by rw [h0]; decide
  refine am_D_of am_o182 am_l182 rfl ?_
  refine am_vc_ok am_k182 [] 100 ?_
  refine am_vS am_k182 am_h182 rfl rfl rfl rfl (m_in) ?_
  refine am_vc_ok am_k182 [] 100 ?_
  refine And.intro (fun h1 => ?_) (fun h1 => ?_)
  · exact absurd hw (bI_0.mp h1)
  refine am_vO am_k182 am_h182 rfl rfl rfl rfl (m_askedShape hs) ?_
  refine am_vc_ok am_k182 [] 100 ?_
  simp only [if_pos h0]
  refine And.intro (fun h2 => ?_) (fun h2 => ?_)
  · exact absurd h2 (by decide)
  · exact am_vI am_k182 am_r182 rfl ⟨rfl, rfl, rfl, rfl, rfl, rfl⟩
theorem m_item {s w n : Nat} {i : Int32} (hs : s < 4) (hw : w < 6) (hn : σ 49 0 s = nI n) (hn2 : n ≤ 12) : am_D l 182 [aR 12 0, aI (nI s), aI i, aI (nI w)] σ τ (rX t) cX lX (some (aI (if 0 ≤ i ∧ i ≤ nI n - 1 then 1 else -3))) (if 0 ≤ i ∧ i ≤ nI n - 1 then u3 σ 12 0 2 (σ 50 0 (72 * s + 6 * i.toNatClampNeg + w)) else mmeets 2 σ) τ (rX t) := by
  have h0 : ¬ σ 49 0 s < 0 := by rw [hn]; exact nI_pos (by omega)
  refine am_D_of am_o182 am_l182 rfl ?_
  refine am_vc_ok am_k182 [] 100 ?_
  refine am_vS am_k182 am_h182 rfl rfl rfl rfl (m_in) ?_
  refine am_vc_ok am_k182 [] 100 ?_
  refine And.intro (fun h1 => ?_) (fun h1 => ?_)
  · exact absurd (in5 hw) (bI_0.mp h1)
  refine am_vO am_k182 am_h182 rfl rfl rfl rfl (m_askedShape hs) ?_
  refine am_vc_ok am_k182 [] 100 ?_
  simp only [if_neg h0]
  refine And.intro (fun _ => ?_) (fun z => absurd (by decide) z)
  refine And.intro (vp_in_nI (N := 4) hs (by decide)) ?_
  rw [nI_clamp (n := s) (by omega)]
  refine am_vS am_k182 am_h182 rfl rfl rfl rfl (m_in) ?_
  refine am_vc_ok am_k182 [] 100 ?_
  rw [hn]
  refine And.intro (fun h3 => ?_) (fun h3 => ?_)
  · simp only [if_neg (bI_0.mp h3)]
    refine am_vO am_k182 am_h182 rfl rfl rfl rfl (m_meets (w := 2) (by decide)) ?_
    refine am_vc_ok am_k182 [] 100 ?_
    exact am_vI am_k182 am_r182 rfl ⟨rfl, rfl, rfl, rfl, rfl, rfl⟩
  · have h3 := bI_1.mp h3
    simp only [if_pos h3]
    obtain ⟨k, hk, rfl⟩ := ix_lt (nI_toInt (by omega)) ((le_pred2 (by omega)).mp h3)
    rw [nI_clamp (n := k) (by omega)]
    refine am_vO am_k182 am_h182 rfl rfl rfl rfl (m_part hs (by omega) hw) ?_
    refine am_vc_ok am_k182 [] 100 ?_
    refine am_vO am_k182 am_h182 rfl rfl rfl rfl (m_ask) ?_
    refine am_vc_ok am_k182 [] 100 ?_
    exact am_vI am_k182 am_r182 rfl ⟨rfl, rfl, rfl, rfl, rfl, rfl⟩
theorem Rshape.item {s k w : Nat} {S : aSh} (h : Rshape σ s S) (hk : k < sN S) (hw : w < 6) : σ (32 + w) (1 + s) k = sF S k w := by
  obtain ⟨-, -, -, -, hx, -, -⟩ := h
  obtain ⟨h0, h1, h2, h3, h4, h5⟩ := hx k hk
  rcases (show w = 0 ∨ w = 1 ∨ w = 2 ∨ w = 3 ∨ w = 4 ∨ w = 5 by omega) with rfl | rfl | rfl | rfl | rfl | rfl
  · exact h0
  · exact h1
  · exact h2
  · exact h3
  · exact h4
  · exact h5
theorem LC_item (h : Rall σ τ) (s i w : Int32) : LC l 103 182 [aI s, aI i, aI w] σ τ t := by
  have e6 : ∀ x : Int32, (0 ≤ x ∧ x ≤ 5) ↔ (0 ≤ x ∧ x < 6) := fun x => leN (n := 6) (N := 6) (by decide) (by decide)
  by_cases hs : 0 ≤ s ∧ s < 4
  · by_cases hw : 0 ≤ w ∧ w < 6
    · obtain ⟨s, hs1, rfl⟩ := ix_lt (n := 4) (by decide) hs
      rcases h.2.2.1 s hs1 with ⟨h0, h9⟩ | ⟨S, hS⟩
      · exact LC.of (x_item_none hs1 hw h0) (m_item_none hs1 ((e6 w).mpr hw) (by simp [u3, h9])) (h.find (by decide))
      · obtain ⟨w, hw1, rfl⟩ := ix_lt (n := 6) (by decide) hw
        have hx := x_item (l := l) (τ := τ) (t := t) (i := i) hs1 hw1 hS.2.1 hS.2.2.1 hS.1.1
        by_cases hi : 0 ≤ i ∧ i < nI (sN S)
        · simp only [if_pos hi] at hx
          have h12 := hS.1.1
          obtain ⟨k, hk, rfl⟩ := ix_lt (nI_toInt (by omega)) hi
          have hm := m_item (l := l) (σ := u3 σ 11 0 11 (σ (32 + w) (1 + s) (nI k).toNatClampNeg)) (τ := τ) (t := t) (i := nI k) hs1 hw1 (by simp [u3, hS.2.2.2.1]) hS.1.1
          simp only [if_pos ((le_pred2 (by omega)).mpr hi)] at hm
          rw [u3_k _ _ (show 50 ≠ 11 by decide), nI_clamp (n := k) (by omega), hS.2.2.2.2.2.2 k w hk hw1, ← hS.item hk hw1] at hm
          rw [nI_clamp (n := k) (by omega)] at hx
          exact LC.of hx hm h.ask
        · simp only [if_neg hi] at hx
          have h12 := hS.1.1
          have hm := m_item (l := l) (σ := xfind 2 σ) (τ := τ) (t := t) (i := i) hs1 hw1 (by simp [u3, hS.2.2.2.1]) hS.1.1
          simp only [if_neg (fun z => hi ((le_pred2 (by omega)).mp z))] at hm
          exact LC.of hx hm (h.find (by decide))
    · exact LC.of (x_item_bad (Or.inr hw)) (m_item_bad (Or.inr (fun z => hw ((e6 w).mp z)))) h
  · exact LC.of (x_item_bad (Or.inl hs)) (m_item_bad (Or.inl (not4 hs))) h
-- breaks
theorem x_lineOf {a b : Nat} (ha : a < 6) (hb : b < 6) : am_D l 12 [aI (nI a), aI (nI b)] σ τ ρ cn ln (some (aI (nI (6 * min a b + max a b)))) σ τ ρ := by
  have e6 : (6 : Int32) = nI 6 := rfl
  refine am_D_of am_o12 am_l12 rfl ?_
  refine am_vc_ok am_k12 [] 100 ?_
  refine am_vMin am_k12 am_h12 rfl rfl ?_
  refine am_vc_ok am_k12 [] 100 ?_
  refine am_vMax am_k12 am_h12 rfl rfl ?_
  refine am_vc_ok am_k12 [] 100 ?_
  refine am_vI am_k12 am_r12 rfl ⟨?_, rfl, rfl, rfl, rfl, rfl⟩
  rcases Nat.lt_or_ge b a with h | h
  · rw [if_pos (nI_lt h (by omega)), if_neg (nI_nlt (by omega) (by omega)), e6, pk_mul, nI_add, Nat.min_eq_right (by omega), Nat.max_eq_left (by omega), Nat.mul_comm]
  · rw [if_neg (nI_nlt h (by omega)), e6, pk_mul]
    rcases Nat.lt_or_ge a b with h2 | h2
    · rw [if_pos (nI_lt h2 (by omega)), nI_add, Nat.min_eq_left (by omega), Nat.max_eq_right (by omega), Nat.mul_comm]
    · obtain rfl : a = b := by omega
      rw [if_neg (nI_nlt (by omega) (by omega)), nI_add, Nat.min_self, Nat.max_self, Nat.mul_comm]
theorem m_line {a b : Nat} (ha : a < 6) (hb : b < 6) : am_D l 213 [aI (nI a), aI (nI b)] σ τ ρ cn ln (some (aI (nI (6 * min a b + max a b)))) σ τ ρ := by
  have e6 : (6 : Int32) = nI 6 := rfl
  refine am_D_of am_o213 am_l213 rfl ?_
  refine am_vc_ok am_k213 [] 100 ?_
  refine And.intro (fun h => ?_) (fun h => ?_)
  · have h := (nI_leI (by omega) (by omega)).mp h
    rw [Nat.min_eq_right h, Nat.max_eq_left h, ← nI_add, ← pk_mul]
    exact am_vI am_k213 am_r213 rfl ⟨rfl, rfl, rfl, rfl, rfl, rfl⟩
  · have h2 : ¬ b ≤ a := fun z => h ((nI_leI (by omega) (by omega)).mpr z)
    rw [Nat.min_eq_left (by omega), Nat.max_eq_right (by omega), ← nI_add, ← pk_mul]
    exact am_vI am_k213 am_r213 rfl ⟨rfl, rfl, rfl, rfl, rfl, rfl⟩
end L7
