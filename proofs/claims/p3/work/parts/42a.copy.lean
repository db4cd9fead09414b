/-! CASES OF THE LAW: copy -/
section L15b
variable {l : Launch} {σ σ2 : tI} {τ τ2 : tL} {t : Option (Nat × Nat)}
theorem nI_sub' {n f : Nat} (h : f ≤ n) : nI n - nI f = nI (n - f) := by
  have e : nI n = nI (n - f) + nI f := by rw [nI_add]; congr 1; omega
  rw [e]
  exact Int32.add_sub_cancel _ _
abbrev cpS (σ : tI) (i j f f2 k : Nat) : tI := mv2 (mv1 (cp3 σ 30 (4 + j) 30 (4 + i) f f2 k) i f k) j f2 k
theorem cpS_k {i j f f2 k a : Nat} (h1 : a ≠ 30) (h2 : a ≠ 45) (h3 : a ≠ 46) : cpS σ i j f f2 k a = σ a := by
  funext b c
  simp [cpS, mv2, mv1, cp3, h1, h2, h3]
theorem cpS_30 {i j f f2 k b c : Nat} : cpS σ i j f f2 k 30 b c = if b = 4 + j then (if f2 ≤ c ∧ c < f2 + k then σ 30 (4 + i) (f + (c - f2)) else σ 30 b c) else σ 30 b c := by
  simp [cpS, mv2, mv1, cp3]
theorem cpS_45 {i j f f2 k c : Nat} : cpS σ i j f f2 k 45 0 c = if 60 * j + f2 ≤ c ∧ c < 60 * j + f2 + k then σ 45 0 (60 * i + f + (c - (60 * j + f2))) else σ 45 0 c := by
  simp only [cpS, mv2, mv1, cp3]
  by_cases h : 60 * j + f2 ≤ c ∧ c < 60 * j + f2 + k
  · simp [h, show c - (60 * j + f2) < k by omega]
  · simp [h]
theorem Rall.cp {i j f f2 k n1 n2 : Nat} (h : Rall σ τ) (hi : i < 6) (hj : j < 6) (hn1 : n1 ≤ 60) (hn2 : n2 ≤ 60) (a1 : σ 6 (4 + j) 0 = 1) (a2 : σ 6 (4 + j) 1 = nI n2) (a3 : σ 44 0 j = nI n2) (g1 : ∀ q, q < n1 → σ 30 (4 + i) q = σ 45 0 (60 * i + q)) (g2 : ∀ q, q < n2 → σ 30 (4 + j) q = σ 45 0 (60 * j + q)) (hf : f + k ≤ n1) (hf2 : f2 + k ≤ n2) : Rall (cpS σ i j f f2 k) τ := by
  have hb : Rall (fun a b c => if a = 46 then cpS σ i j f f2 k a b c else σ a b c) τ := h.c46 (fun q hq => by funext b c; simp [hq])
  refine hb.mk (fun q _ _ _ _ _ h45 _ _ _ h30 => ?_) (fun q hq => ?_) (fun q hq => ?_) (fun q _ _ => ?_) (fun r hr => ?_) ?_ ?_
  · by_cases h46 : q = 46
    · subst h46; funext b c; simp
    · rw [cpS_k h30 h45 h46]; funext b c; simp [h46]
  · rw [cpS_k (by decide) (by decide) (by decide)]; funext c; simp
  · funext c; rw [cpS_30]; simp [show q ≠ 4 + j by omega]
  · rw [cpS_k (by decide) (by decide) (by decide)]; simp
  · rw [cpS_k (a := 6) (by decide) (by decide) (by decide), cpS_k (a := 44) (by decide) (by decide) (by decide)]
    by_cases e : r = j
    · subst e
      refine ⟨n2, hn2, a2, Or.inr ⟨a1, a3, fun q hq => ?_⟩⟩
      show cpS σ i r f f2 k 30 (4 + r) q = cpS σ i r f f2 k 45 0 (60 * r + q)
      rw [cpS_30, cpS_45, if_pos rfl]
      by_cases hq2 : f2 ≤ q ∧ q < f2 + k
      · rw [if_pos hq2, if_pos (by omega), g1 _ (by omega)]
        congr 1
        omega
      · rw [if_neg hq2, if_neg (by omega)]
        exact g2 q hq
    · obtain ⟨n, b1, b2, b3⟩ := h.1 r hr
      refine ⟨n, b1, b2, ?_⟩
      rcases b3 with b3 | ⟨b3, b4, b5⟩
      · exact Or.inl b3
      · refine Or.inr ⟨b3, b4, fun q hq => ?_⟩
        show cpS σ i j f f2 k 30 (4 + r) q = cpS σ i j f f2 k 45 0 (60 * r + q)
        rw [cpS_30, cpS_45, if_neg (by omega), if_neg (by omega)]
        exact b5 q hq
  · refine h.2.1.fr (fun r _ => ?_) (fun r _ => ?_) ?_ ?_
    · rw [cpS_k (by decide) (by decide) (by decide)]
    · funext c; rw [cpS_30, if_neg (by omega)]
    · rw [cpS_k (by decide) (by decide) (by decide)]
    · rw [cpS_k (by decide) (by decide) (by decide)]
  · refine h.2.2.2.2.2.1.fr ?_ ?_ ?_ ?_ ?_
    all_goals rw [cpS_k (by decide) (by decide) (by decide)]
theorem LC_copy (h : Rall σ τ) (r f r2 f2 k : Int32) : LC l 97 167 [aI r, aI f, aI r2, aI f2, aI k] σ τ t := by
  by_cases hr : 0 ≤ r ∧ r < 6
  rotate_left
  · exact LC.of (x_copy_bad (Or.inl hr)) (m_copy_bad (Or.inl (not6 hr))) h
  by_cases hr2 : 0 ≤ r2 ∧ r2 < 6
  rotate_left
  · exact LC.of (x_copy_bad (Or.inr hr2)) (m_copy_bad (Or.inr (not6 hr2))) h
  by_cases hk : k < 0
  · exact LC.of (x_copy_neg hr hr2 hk) (m_copy_neg (le5 hr) (le5 hr2) hk) (h.find (by decide))
  have hk := Int32.not_lt.mp hk
  obtain ⟨i, hi, rfl⟩ := ix_lt (n := 6) (by decide) hr
  obtain ⟨j, hj, rfl⟩ := ix_lt (n := 6) (by decide) hr2
  obtain ⟨n1, b1, c1, d1⟩ := h.1 i hi
  obtain ⟨n2, b2, c2, d2⟩ := h.1 j hj
  rcases d1 with ⟨d1, z1⟩ | ⟨d1, z1, g1⟩
  · exact LC.of (x_copy_none hi hj hk (Or.inl d1)) (m_copy_none hi hj hk (Or.inl (by show σ 44 0 i < 0; rw [z1]; decide))) (h.find (by decide))
  rcases d2 with ⟨d2, z2⟩ | ⟨d2, z2, g2⟩
  · exact LC.of (x_copy_none hi hj hk (Or.inr d2)) (m_copy_none hi hj hk (Or.inr (by show σ 44 0 j < 0; rw [z2]; decide))) (h.find (by decide))
  have n01 : ¬ σ 6 (4 + i) 0 = 0 := by rw [d1]; decide
  have n02 : ¬ σ 6 (4 + j) 0 = 0 := by rw [d2]; decide
  have q1 : ¬ σ 44 0 i < 0 := by rw [z1]; exact nI_pos (by omega)
  have q2 : ¬ σ 44 0 j < 0 := by rw [z2]; exact nI_pos (by omega)
  by_cases s1 : 0 ≤ f ∧ f ≤ nI n1 ∧ k ≤ nI n1 - f
  · by_cases s2 : 0 ≤ f2 ∧ f2 ≤ nI n2 ∧ k ≤ nI n2 - f2
    · have t1 := (span_iff hk b1).mp s1
      have t2 := (span_iff hk b2).mp s2
      have hM : ¬ f < 0 ∧ ¬ f2 < 0 ∧ ¬ 0 < lg_cmp (f.toInt64 + k.toInt64) (σ 44 0 i).toInt64 ∧ lg_cmp (f2.toInt64 + k.toInt64) (σ 44 0 j).toInt64 ≤ 0 := by
        rw [lg_cmp_gt, lg_cmp_le, z1, z2]
        exact ⟨t1.1, t2.1, Int64.not_lt.mpr t1.2, t2.2⟩
      obtain ⟨f', hf', rfl⟩ := ix_le (N := nI n1) (n := n1 + 1) (by rw [nI_toInt (by omega)]; rfl) ⟨s1.1, s1.2.1⟩
      obtain ⟨f2', hf2', rfl⟩ := ix_le (N := nI n2) (n := n2 + 1) (by rw [nI_toInt (by omega)]; rfl) ⟨s2.1, s2.2.1⟩
      have u1 := s1.2.2
      rw [nI_sub' (by omega)] at u1
      obtain ⟨k', hk', rfl⟩ := ix_le (N := nI (n1 - f')) (n := n1 - f' + 1) (by rw [nI_toInt (by omega)]; rfl) ⟨hk, u1⟩
      have u2 := s2.2.2
      rw [nI_sub' (by omega), i_le, nI_toInt (by omega), nI_toInt (by omega)] at u2
      refine LC.of (x_copy hi hj hk n01 n02 (by rw [c1]; exact s1) (by rw [c2]; exact s2) (by omega) (by omega)) (m_copy hi hj hk (σ := cp3 σ 30 (4 + j) 30 (4 + i) f' f2' k') (by simpa [cp3] using q1) (by simpa [cp3] using q2) (by omega) (by omega) (by simpa [cp3] using hM)) ?_
      exact h.cp hi hj b1 b2 d2 c2 z2 g1 g2 (by omega) (by omega)
    · refine LC.of (x_copy_out hi hj hk n01 n02 (Or.inr (by rw [c2]; exact s2))) (m_copy_out hi hj hk q1 q2 ?_) (h.find (by decide))
      show ¬ (¬ f < 0 ∧ ¬ f2 < 0 ∧ ¬ 0 < lg_cmp (f.toInt64 + k.toInt64) (σ 44 0 i).toInt64 ∧ lg_cmp (f2.toInt64 + k.toInt64) (σ 44 0 j).toInt64 ≤ 0)
      rw [lg_cmp_le, z2]
      rintro ⟨-, v2, -, v4⟩
      exact s2 ((span_iff hk b2).mpr ⟨v2, v4⟩)
  · refine LC.of (x_copy_out hi hj hk n01 n02 (Or.inl (by rw [c1]; exact s1))) (m_copy_out hi hj hk q1 q2 ?_) (h.find (by decide))
    show ¬ (¬ f < 0 ∧ ¬ f2 < 0 ∧ ¬ 0 < lg_cmp (f.toInt64 + k.toInt64) (σ 44 0 i).toInt64 ∧ lg_cmp (f2.toInt64 + k.toInt64) (σ 44 0 j).toInt64 ≤ 0)
    rw [lg_cmp_gt, z1]
    rintro ⟨v1, -, v3, -⟩
    exact s1 ((span_iff hk b1).mpr ⟨v1, Int64.not_lt.mp v3⟩)
end L15b
