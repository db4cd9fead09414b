/-! CASES OF THE LAW: row, tear, text, put, size -/
section L2
variable {l : Launch} {σ σ2 : tI} {τ τ2 : tL} {t : Option (Nat × Nat)}
theorem rRow.cg {d d2 p p2 : Nat → Int32} {sz sz2 : Int32} {g g2 : Nat → Int32} (h : rRow d p sz g) (hd : d2 0 = d 0 ∧ d2 1 = d 1) (hp : ∀ q, q < 60 → p2 q = p q) (hs : sz2 = sz) (hg : ∀ q, q < 60 → g2 q = g q) : rRow d2 p2 sz2 g2 := by
  obtain ⟨n, h1, h2, h3⟩ := h
  refine ⟨n, h1, hd.2.trans h2, ?_⟩
  rcases h3 with ⟨a, b⟩ | ⟨a, b, c⟩
  · exact Or.inl ⟨hd.1.trans a, hs.trans b⟩
  · exact Or.inr ⟨hd.1.trans a, hs.trans b, fun j hj => by rw [hp j (by omega), hg j (by omega)]; exact c j hj⟩
theorem Rmisc.same {σ σ2 : tI} {τ : tL} (h : Rmisc σ τ) (h1 : σ2 11 0 10 = σ 11 0 10) (h2 : σ2 11 0 11 = σ 11 0 11) (h42 : σ2 42 = σ 42) (h43 : σ2 43 = σ 43) (h0 : σ2 12 0 0 = σ 12 0 0) (h3 : σ2 12 0 2 = σ 12 0 2) : Rmisc σ2 τ := by
  unfold Rmisc at h ⊢
  rw [h2, h3]
  exact h
theorem cls60 {n : Int32} : (¬ n ≤ 60) ∨ n < 0 ∨ ∃ k, k ≤ 60 ∧ n = nI k := by
  by_cases h1 : n ≤ 60
  · by_cases h2 : n < 0
    · exact Or.inr (Or.inl h2)
    · obtain ⟨k, hk, e⟩ := ix_le (n := 61) (N := 60) (by decide) ⟨Int32.not_lt.mp h2, h1⟩
      exact Or.inr (Or.inr ⟨k, by omega, e⟩)
  · exact Or.inl h1
theorem LC_row (h : Rall σ τ) (r n : Int32) : LC l 93 163 [aI r, aI n] σ τ t := by
  by_cases hr : 0 ≤ r ∧ r < 6
  · rcases cls60 (n := n) with hn | hn | ⟨m, hm, rfl⟩
    · exact LC.of (x_row_bad (Or.inr hn)) (m_row_bad (Or.inr hn)) h
    · exact LC.of (x_row_neg hr hn) (m_row_neg (le5 hr) hn) (h.find (by decide))
    · obtain ⟨j, hj, rfl⟩ := ix_lt (n := 6) (by decide) hr
      refine LC.of (x_row hj hm) (m_row hj hm) ?_
      refine h.mk (fun k a1 a2 a3 a4 a5 a6 a7 a8 a9 a0 => ?_) (fun i hi => ?_) (fun i hi => ?_) (fun j a1 a2 => ?_) (fun q hq => ?_) ?_ (h.2.2.2.2.2.1.same ?_ ?_ ?_ ?_ ?_ ?_)
      · funext b c; simp [mfill, u3, rfill, a5, a6, a9, a0]
      · funext c; simp [mfill, u3, rfill, show i ≠ 4 + j by omega]
      · funext c; simp [mfill, u3, rfill, show i ≠ 4 + j by omega]
      · simp [mfill, u3, rfill]
      · by_cases e : q = j
        · subst e
          refine ⟨m, hm, by simp [mfill, u3, rfill], Or.inr ⟨by simp [mfill, u3, rfill], by simp [mfill, u3, rfill], fun c hc => ?_⟩⟩
          simp [mfill, u3, rfill, hc, show c < 60 by omega]
        · refine (h.1 q hq).cg ⟨by simp [mfill, u3, rfill, e], by simp [mfill, u3, rfill, e]⟩ (fun c hc => by simp [mfill, u3, rfill, e]) (by simp [mfill, u3, rfill, e]) (fun c hc => ?_)
          have e2 : ¬ (60 * j ≤ 60 * q + c ∧ 60 * q + c < 60 * j + 60) := by omega
          simp [mfill, u3, rfill, e2]
      · refine h.2.1.fr (fun r hr => ?_) (fun r hr => ?_) ?_ ?_
        · funext c; simp [mfill, u3, rfill, show 10 + r ≠ 4 + j by omega]
        · funext c; simp [mfill, u3, rfill, show 10 + r ≠ 4 + j by omega]
        · funext b c; simp [mfill, u3, rfill]
        · funext b c; simp [mfill, u3, rfill]
      · simp [mfill, u3, rfill]
      · simp [mfill, u3, rfill]
      · funext b c; simp [mfill, u3, rfill]
      · funext b c; simp [mfill, u3, rfill]
      · simp [mfill, u3, rfill]
      · simp [mfill, u3, rfill]
  · exact LC.of (x_row_bad (Or.inl hr)) (m_row_bad (Or.inl (not6 hr))) h
theorem LC_tear (h : Rall σ τ) (r : Int32) : LC l 96 166 [aI r] σ τ t := by
  by_cases hr : 0 ≤ r ∧ r < 6
  · obtain ⟨j, hj, rfl⟩ := ix_lt (n := 6) (by decide) hr
    obtain ⟨n, hn, hd1, hc⟩ := h.1 j hj
    have hx := x_tear (l := l) (σ := σ) (τ := τ) (t := t) hj
    rcases hc with ⟨h0, hs⟩ | ⟨h0, hs, hp⟩
    · simp only [if_pos h0] at hx
      have hm := m_tear (l := l) (σ := xfind 1 σ) (τ := τ) (t := t) hj
      simp only [if_pos (show (xfind 1 σ) 44 0 j < 0 by simp [u3, hs])] at hm
      exact LC.of hx hm (h.find (by decide))
    · have h01 : ¬ σ 6 (4 + j) 0 = 0 := by rw [h0]; decide
      simp only [if_neg h01] at hx
      have hm := m_tear (l := l) (σ := u3 σ 6 (4 + j) 0 0) (τ := τ) (t := t) hj
      simp only [if_neg (show ¬ (u3 σ 6 (4 + j) 0 0) 44 0 j < 0 by simp only [u3_k _ _ (show 44 ≠ 6 by decide), hs]; exact nI_pos (by omega))] at hm
      refine LC.of hx hm ?_
      refine h.mk (fun k a1 a2 a3 a4 a5 a6 a7 a8 a9 a0 => ?_) (fun i hi => ?_) (fun i hi => ?_) (fun j a1 a2 => ?_) (fun q hq => ?_) ?_ (h.2.2.2.2.2.1.same ?_ ?_ ?_ ?_ ?_ ?_)
      · funext b c; simp [u3, a5, a9]
      · funext c; simp [u3, show i ≠ 4 + j by omega]
      · funext c; simp [u3]
      · simp [u3]
      · by_cases e : q = j
        · subst e
          exact ⟨n, hn, by simpa [u3] using hd1, Or.inl ⟨by simp [u3], by simp [u3]⟩⟩
        · exact (h.1 q hq).cg ⟨by simp [u3, e], by simp [u3]⟩ (fun c hc => by simp [u3]) (by simp [u3, e]) (fun c hc => by simp [u3])
      · refine h.2.1.fr (fun r hr => ?_) (fun r hr => ?_) ?_ ?_
        · funext c; simp [u3, show 10 + r ≠ 4 + j by omega]
        · funext c; simp [u3]
        · funext b c; simp [u3]
        · funext b c; simp [u3]
      · simp [u3]
      · simp [u3]
      · funext b c; simp [u3]
      · funext b c; simp [u3]
      · simp [u3]
      · simp [u3]
  · exact LC.of (x_tear_bad hr) (m_tear_bad (not6 hr)) h
theorem isB_32 : isB 32 := by unfold isB; decide
theorem isB_i2b (v : Int32) : isB v.toInt8.toInt32 := by
  unfold isB
  rw [i_le, i_le, Int8.toInt_toInt32]
  have h1 := Int8.le_toInt v.toInt8
  have h2 := Int8.toInt_lt v.toInt8
  have e1 : (-128 : Int32).toInt = -128 := by decide
  have e2 : (127 : Int32).toInt = 127 := by decide
  omega
theorem LC_text (h : Rall σ τ) (r n : Int32) : LC l 98 169 [aI r, aI n] σ τ t := by
  by_cases hr : 0 ≤ r ∧ r < 6
  · rcases cls60 (n := n) with hn | hn | ⟨m, hm, rfl⟩
    · exact LC.of (x_text_bad (Or.inr hn)) (m_text_bad (Or.inr hn)) h
    · exact LC.of (x_text_neg hr hn) (m_text_neg (le5 hr) hn) (h.find (by decide))
    · obtain ⟨j, hj, rfl⟩ := ix_lt (n := 6) (by decide) hr
      refine LC.of (x_text hj hm) (m_text hj hm) ?_
      refine h.mk (fun k a1 a2 a3 a4 a5 a6 a7 a8 a9 a0 => ?_) (fun i hi => ?_) (fun i hi => ?_) (fun j a1 a2 => ?_) ?_ (fun q hq => ?_) (h.2.2.2.2.2.1.same ?_ ?_ ?_ ?_ ?_ ?_)
      · funext b c; simp [mfill, u3, rfill, a7, a8, a9, a0]
      · funext c; simp [mfill, u3, rfill, show i ≠ 10 + j by omega]
      · funext c; simp [mfill, u3, rfill, show i ≠ 10 + j by omega]
      · simp [mfill, u3, rfill]
      · refine h.1.fr (fun r hr => ?_) (fun r hr => ?_) ?_ ?_
        · funext c; simp [mfill, u3, rfill, show 4 + r ≠ 10 + j by omega]
        · funext c; simp [mfill, u3, rfill, show 4 + r ≠ 10 + j by omega]
        · funext b c; simp [mfill, u3, rfill]
        · funext b c; simp [mfill, u3, rfill]
      · by_cases e : q = j
        · subst e
          refine ⟨⟨m, hm, by simp [mfill, u3, rfill], Or.inr ⟨by simp [mfill, u3, rfill], by simp [mfill, u3, rfill], fun c hc => ?_⟩⟩, fun c hc _ hc2 => ?_⟩
          · simp [mfill, u3, rfill, hc, show c < 60 by omega]
          · have hc3 : c < m := by
              have : nI c < nI m := by simpa [mfill, u3] using hc2
              exact (nI_ltI (by omega) (by omega)).mp this
            have : mfill (u3 (rfill σ (10 + q) m 32) 47 0 q (nI m)) 48 (60 * q) 60 32 30 (10 + q) c = 32 := by simp [mfill, u3, rfill, hc3]
            rw [this]
            exact isB_32
        · refine ⟨(h.2.1 q hq).1.cg ⟨by simp [mfill, u3, rfill, e], by simp [mfill, u3, rfill, e]⟩ (fun c hc => by simp [mfill, u3, rfill, e]) (by simp [mfill, u3, rfill, e]) (fun c hc => ?_), fun c hc h1 h2 => ?_⟩
          · have e2 : ¬ (60 * j ≤ 60 * q + c ∧ 60 * q + c < 60 * j + 60) := by omega
            simp [mfill, u3, rfill, e2]
          · have e3 : mfill (u3 (rfill σ (10 + j) m 32) 47 0 j (nI m)) 48 (60 * j) 60 32 47 0 q = σ 47 0 q := by simp [mfill, u3, rfill, e]
            have e4 : mfill (u3 (rfill σ (10 + j) m 32) 47 0 j (nI m)) 48 (60 * j) 60 32 30 (10 + q) c = σ 30 (10 + q) c := by simp [mfill, u3, rfill, e]
            rw [e3] at h1 h2
            rw [e4]
            exact (h.2.1 q hq).2 c hc h1 h2
      · simp [mfill, u3, rfill]
      · simp [mfill, u3, rfill]
      · funext b c; simp [mfill, u3, rfill]
      · funext b c; simp [mfill, u3, rfill]
      · simp [mfill, u3, rfill]
      · simp [mfill, u3, rfill]
  · exact LC.of (x_text_bad (Or.inl hr)) (m_text_bad (Or.inl (not6 hr))) h
theorem LC_size (h : Rall σ τ) (r : Int32) : LC l 100 171 [aI r] σ τ t := by
  by_cases hr : 0 ≤ r ∧ r < 6
  · obtain ⟨j, hj, rfl⟩ := ix_lt (n := 6) (by decide) hr
    obtain ⟨n, hn, hd1, hc⟩ := (h.2.1 j hj).1
    have hx := x_size (l := l) (σ := σ) (τ := τ) (t := t) hj
    rcases hc with ⟨h0, hs⟩ | ⟨h0, hs, hp⟩
    · simp only [if_pos h0] at hx
      have hm := m_size (l := l) (σ := xfind 1 σ) (τ := τ) (t := t) hj
      have e : (xfind 1 σ) 47 0 j < 0 := by simp [u3, hs]
      simp only [if_pos e] at hm
      exact LC.of hx hm (h.find (by decide))
    · have h01 : ¬ σ 6 (10 + j) 0 = 0 := by rw [h0]; decide
      simp only [if_neg h01] at hx
      have hm := m_size (l := l) (σ := σ) (τ := τ) (t := t) hj
      have e : ¬ σ 47 0 j < 0 := by rw [hs]; exact nI_pos (by omega)
      simp only [if_neg e] at hm
      rw [hs, ← hd1] at hm
      exact LC.of hx hm h
  · exact LC.of (x_size_bad hr) (m_size_bad (not6 hr)) h
theorem LC_put (h : Rall σ τ) (r i v : Int32) : LC l 99 170 [aI r, aI i, aI v] σ τ t := by
  by_cases hr : 0 ≤ r ∧ r < 6
  · obtain ⟨j, hj, rfl⟩ := ix_lt (n := 6) (by decide) hr
    obtain ⟨n, hn, hd1, hc⟩ := (h.2.1 j hj).1
    have hx := x_put (l := l) (τ := τ) (t := t) (i := i) (v := v) hj hd1 hn
    rcases hc with ⟨h0, hs⟩ | ⟨h0, hs, hp⟩
    · simp only [if_pos h0] at hx
      exact LC.of hx (m_put_none hj (by simp [u3, hs])) (h.find (by decide))
    · have h01 : ¬ σ 6 (10 + j) 0 = 0 := by rw [h0]; decide
      simp only [if_neg h01] at hx
      by_cases hi : 0 ≤ i ∧ i < nI n
      · simp only [if_pos hi] at hx
        obtain ⟨k, hk, rfl⟩ := ix_lt (nI_toInt (by omega)) hi
        have hm := m_put (l := l) (σ := u3 σ 30 (10 + j) (nI k).toNatClampNeg v.toInt8.toInt32) (τ := τ) (t := t) (i := nI k) (v := v) hj (by simp [u3, hs]) hn
        simp only [if_pos ((le_pred hn).mpr hi)] at hm
        have hp2 : σ 30 (10 + j) k = σ 48 0 (60 * j + k) := hp k hk
        rw [u3_k _ _ (show 48 ≠ 30 by decide), nI_clamp (n := k) (by omega), ← hp2] at hm
        rw [nI_clamp (n := k) (by omega)] at hx
        refine LC.of hx hm ?_
        refine h.mk (fun k a1 a2 a3 a4 a5 a6 a7 a8 a9 a0 => ?_) (fun i hi => ?_) (fun i hi => ?_) (fun j a1 a2 => ?_) ?_ (fun q hq => ?_) (h.2.2.2.2.2.1.same ?_ ?_ ?_ ?_ ?_ ?_)
        · rw [u3_kk _ _ a8, u3_kk _ _ a0]
        · funext c; simp [u3]
        · funext c; simp [u3, show i ≠ 10 + j by omega]
        · simp [u3]
        · refine h.1.fr (fun r hr => ?_) (fun r hr => ?_) ?_ ?_
          · funext c; simp [u3]
          · funext c; simp [u3, show 4 + r ≠ 10 + j by omega]
          · funext b c; simp [u3]
          · funext b c; simp [u3]
        · by_cases e : q = j
          · subst e
            refine ⟨⟨n, hn, by simpa [u3] using hd1, Or.inr ⟨by simpa [u3] using h0, by simpa [u3] using hs, fun c hc => ?_⟩⟩, fun c hc h1 h2 => ?_⟩
            · by_cases e2 : c = k
              · subst e2; simp [u3]
              · have hp3 : σ 30 (10 + q) c = σ 48 0 (60 * q + c) := hp c hc
                simp [u3, e2, hp3]
            · have e3 : u3 (u3 σ 30 (10 + q) k v.toInt8.toInt32) 48 0 (60 * q + k) v.toInt8.toInt32 47 0 q = σ 47 0 q := by simp [u3]
              rw [e3] at h1 h2
              by_cases e2 : c = k
              · have e4 : u3 (u3 σ 30 (10 + q) k v.toInt8.toInt32) 48 0 (60 * q + k) v.toInt8.toInt32 30 (10 + q) c = v.toInt8.toInt32 := by simp [u3, e2]
                rw [e4]
                exact isB_i2b v
              · have e4 : u3 (u3 σ 30 (10 + q) k v.toInt8.toInt32) 48 0 (60 * q + k) v.toInt8.toInt32 30 (10 + q) c = σ 30 (10 + q) c := by simp [u3, e2]
                rw [e4]
                exact (h.2.1 q hq).2 c hc h1 h2
          · refine ⟨(h.2.1 q hq).1.cg ⟨by simp [u3], by simp [u3]⟩ (fun c hc => by simp [u3, e]) (by simp [u3]) (fun c hc => ?_), fun c hc h1 h2 => ?_⟩
            · simp [u3, show 60 * q + c ≠ 60 * j + k by omega]
            · have e3 : u3 (u3 σ 30 (10 + j) k v.toInt8.toInt32) 48 0 (60 * j + k) v.toInt8.toInt32 47 0 q = σ 47 0 q := by simp [u3]
              have e4 : u3 (u3 σ 30 (10 + j) k v.toInt8.toInt32) 48 0 (60 * j + k) v.toInt8.toInt32 30 (10 + q) c = σ 30 (10 + q) c := by simp [u3, e]
              rw [e3] at h1 h2
              rw [e4]
              exact (h.2.1 q hq).2 c hc h1 h2
        · simp [u3]
        · simp [u3]
        · funext b c; simp [u3]
        · funext b c; simp [u3]
        · simp [u3]
        · simp [u3]
      · simp only [if_neg hi] at hx
        have hm := m_put (l := l) (σ := xfind 2 σ) (τ := τ) (t := t) (i := i) (v := v) hj (by simp [u3, hs]) hn
        simp only [if_neg (fun z => hi ((le_pred hn).mp z))] at hm
        exact LC.of hx hm (h.find (by decide))
  · exact LC.of (x_put_bad hr) (m_put_bad (not6 hr)) h
end L2
