/-! CASES OF THE LAW: rows and texts -/
section L1
variable {l : Launch} {σ σ2 : tI} {τ τ2 : tL} {t : Option (Nat × Nat)}
theorem kNe {K : Nat → Bool} {k a : Nat} (hk : K k = true) (h : K a = false) : k ≠ a := fun e => by rw [e, h] at hk; cases hk
/-- only findings, asked, fractions, rows or texts may have changed -/
theorem Rall.mk {σ σ2 : tI} {τ τ2 : tL} (h : Rall σ τ) (hk : ∀ k, k ≠ 11 → k ≠ 12 → k ≠ 42 → k ≠ 43 → k ≠ 44 → k ≠ 45 → k ≠ 47 → k ≠ 48 → k ≠ 6 → k ≠ 30 → σ2 k = σ k) (h6 : ∀ i, i < 4 → σ2 6 i = σ 6 i) (h30 : ∀ i, i < 4 → σ2 30 i = σ 30 i) (h12 : ∀ j, j ≠ 0 → j ≠ 2 → σ2 12 0 j = σ 12 0 j) (hr : Rrows σ2) (ht : Rtexts σ2) (hm : Rmisc σ2 τ2) : Rall σ2 τ2 := by
  obtain ⟨-, -, h3, h4, h5, -, T, n, m, lo, kk, h7⟩ := h
  have e49 : σ2 49 = σ 49 := hk 49 (by decide) (by decide) (by decide) (by decide) (by decide) (by decide) (by decide) (by decide) (by decide) (by decide)
  have g : ∀ k, k ≠ 11 ∧ k ≠ 12 ∧ k ≠ 42 ∧ k ≠ 43 ∧ k ≠ 44 ∧ k ≠ 45 ∧ k ≠ 47 ∧ k ≠ 48 ∧ k ≠ 6 ∧ k ≠ 30 → σ2 k = σ k := fun k ⟨a1, a2, a3, a4, a5, a6, a7, a8, a9, a0⟩ => hk k a1 a2 a3 a4 a5 a6 a7 a8 a9 a0
  refine ⟨hr, ht, h3.fr (fun k z => g k ⟨kNe z rfl, kNe z rfl, kNe z rfl, kNe z rfl, kNe z rfl, kNe z rfl, kNe z rfl, kNe z rfl, kNe z rfl, kNe z rfl⟩), h4.fr (g 4 (by decide)) (g 55 (by decide)) (g 56 (by decide)) (h6 2 (by decide)) (h30 2 (by decide)) (h12 24 (by decide) (by decide)), h5.fr (fun a ha => by rw [g 8 (by decide)]; exact ⟨rfl, rfl⟩) (g 57 (by decide)) (g 58 (by decide)) (g 31 (by decide)) (g 59 (by decide)) (fun s _ hs => by rw [e49]; exact hs), hm, T, n, m, lo, kk, h7.fr (fun k z => g k ⟨kNe z rfl, kNe z rfl, kNe z rfl, kNe z rfl, kNe z rfl, kNe z rfl, kNe z rfl, kNe z rfl, kNe z rfl, kNe z rfl⟩) (fun j z => h12 j (kNe z rfl) (kNe z rfl)) (fun a j _ _ => by rw [g 8 (by decide)])⟩
theorem Rall.misc {σ σ2 : tI} {τ τ2 : tL} (h : Rall σ τ) (hk : ∀ k, k ≠ 11 → k ≠ 12 → k ≠ 42 → k ≠ 43 → σ2 k = σ k) (h12 : ∀ j, j ≠ 0 → j ≠ 2 → σ2 12 0 j = σ 12 0 j) (hm : Rmisc σ2 τ2) : Rall σ2 τ2 := by
  have e6 := hk 6 (by decide) (by decide) (by decide) (by decide)
  have e30 := hk 30 (by decide) (by decide) (by decide) (by decide)
  have e44 := hk 44 (by decide) (by decide) (by decide) (by decide)
  have e45 := hk 45 (by decide) (by decide) (by decide) (by decide)
  have e47 := hk 47 (by decide) (by decide) (by decide) (by decide)
  have e48 := hk 48 (by decide) (by decide) (by decide) (by decide)
  exact h.mk (fun k a1 a2 a3 a4 _ _ _ _ _ _ => hk k a1 a2 a3 a4) (fun i _ => by rw [e6]) (fun i _ => by rw [e30]) h12 (h.1.fr (fun r _ => by rw [e6]) (fun r _ => by rw [e30]) e44 e45) (h.2.1.fr (fun r _ => by rw [e6]) (fun r _ => by rw [e30]) e47 e48) hm
theorem Rall.find {w w2 : Nat} (_ : w < 6) (h : Rall σ τ) : Rall (mmeets w2 (xfind w σ)) τ := by
  refine h.misc (fun k a1 a2 a3 a4 => ?_) (fun j a1 a2 => ?_) ?_
  · unfold mmeets xfind
    rw [u3_kk _ _ a4, u3_kk _ _ a2, u3_kk _ _ a3, u3_kk _ _ a1]
  · simp [u3, a1]
  · obtain ⟨-, -, -, -, -, ⟨h1, h2, h3, h4, h5⟩, -⟩ := h
    refine ⟨trivial, trivial, ?_, h4, h5⟩
    simp [u3, h3]
theorem Rall.ask {v : Int32} (h : Rall σ τ) : Rall (u3 (u3 σ 11 0 11 v) 12 0 2 v) τ := by
  refine h.misc (fun k a1 a2 a3 a4 => ?_) (fun j a1 a2 => ?_) ?_
  · rw [u3_kk _ _ a2, u3_kk _ _ a1]
  · rw [u3_j _ _ a2, u3_k _ _ (by decide)]
  · obtain ⟨-, -, -, -, -, ⟨h1, h2, h3, h4, h5⟩, -⟩ := h
    refine ⟨trivial, trivial, ?_, h4, h5⟩
    simp [u3]
theorem LC.of {zx zm : Nat} {as : List am_V} {v : am_V} {σ1 : tI} {τ1 : tL} {t1 t2 : Option (Nat × Nat)} (hx : am_D l zx (aR 11 0 :: as) σ τ (rX t) cX lX (some v) σ1 τ1 (rX t1)) (hm : am_D l zm (aR 12 0 :: as) σ1 τ1 (rX t1) cX lX (some v) σ2 τ2 (rX t2)) (hR : Rall σ2 τ2) (hv : am_num zx (some v) = true := by rfl) : LC l zx zm as σ τ t :=
  hx.T ⟨hv, hm.T ⟨rfl, hR⟩⟩
theorem LCn.of {zx zm : Nat} {as : List am_V} {v v2 : am_V} {σ1 : tI} {τ1 : tL} {t1 t2 : Option (Nat × Nat)} (hx : am_D l zx (aR 11 0 :: as) σ τ (rX t) cX lX (some v) σ1 τ1 (rX t1)) (hm : am_D l zm (aR 12 0 :: as) σ1 τ1 (rX t1) cX lX (some v2) σ2 τ2 (rX t2)) (hR : Rall σ2 τ2) (hv : am_num zx (some v) = true := by rfl) (hv2 : am_numM zm (some v2) = true := by rfl) : LCn l zx zm as σ τ t :=
  hx.T ⟨hv, hm.T ⟨hv2, hR⟩⟩
theorem not6 {r : Int32} (h : ¬ (0 ≤ r ∧ r < 6)) : ¬ (0 ≤ r ∧ r ≤ 5) := by
  intro h2
  obtain ⟨j, hj, rfl⟩ := ix_le (n := 6) (by decide) h2
  exact h (in6 hj)
theorem le5 {r : Int32} (h : 0 ≤ r ∧ r < 6) : 0 ≤ r ∧ r ≤ 5 := by
  obtain ⟨j, hj, rfl⟩ := ix_lt (n := 6) (by decide) h
  exact in5 hj
theorem le_pred {i : Int32} {n : Nat} (hn : n ≤ 60) : (0 ≤ i ∧ i ≤ nI n - 1) ↔ (0 ≤ i ∧ i < nI n) := by
  constructor
  · intro h
    have hk : ∃ k, k < n ∧ i = nI k := by
      refine ix_le ?_ h
      cases n with
      | zero => rfl
      | succ n => rw [nI_pred, nI_toInt (by omega)]; rfl
    obtain ⟨k, hk, rfl⟩ := hk
    exact ⟨h.1, nI_lt hk (by omega)⟩
  · intro h
    obtain ⟨k, hk, rfl⟩ := ix_lt (nI_toInt (by omega)) h
    cases n with
    | zero => omega
    | succ n => rw [nI_pred]; exact ⟨h.1, nI_le (by omega) (by omega)⟩
theorem m9 {n : Nat} (h : n ≤ 2000) : nI n ≠ -9 := by
  intro e
  have := congrArg Int32.toInt e
  rw [nI_toInt (by omega)] at this
  have h9 : (-9 : Int32).toInt = -9 := by decide
  omega
theorem LC_at (h : Rall σ τ) (r i : Int32) : LC l 95 165 [aI r, aI i] σ τ t := by
  by_cases hr : 0 ≤ r ∧ r < 6
  · obtain ⟨j, hj, rfl⟩ := ix_lt (n := 6) (by decide) hr
    obtain ⟨n, hn, hd1, hc⟩ := h.1 j hj
    have hx := x_at (l := l) (τ := τ) (t := t) (i := i) hj hd1 hn
    rcases hc with ⟨h0, hs⟩ | ⟨h0, hs, hp⟩
    · simp only [if_pos h0] at hx
      exact LC.of hx (m_at_none hj (by simp [u3, hs])) (h.find (by decide))
    · have h01 : ¬ σ 6 (4 + j) 0 = 0 := by rw [h0]; decide
      simp only [if_neg h01] at hx
      by_cases hi : 0 ≤ i ∧ i < nI n
      · simp only [if_pos hi] at hx
        have hm := m_at (l := l) (σ := u3 σ 11 0 11 (σ 30 (4 + j) i.toNatClampNeg)) (τ := τ) (t := t) (i := i) hj (by simp [u3, hs]) hn
        simp only [if_pos ((le_pred hn).mpr hi)] at hm
        obtain ⟨k, hk, rfl⟩ := ix_lt (nI_toInt (by omega)) hi
        refine LC.of hx hm ?_
        have hp2 : σ 30 (4 + j) k = σ 45 0 (60 * j + k) := hp k hk
        rw [u3_k _ _ (show 45 ≠ 11 by decide), nI_clamp (by omega), ← hp2]
        exact h.ask
      · simp only [if_neg hi] at hx
        have hm := m_at (l := l) (σ := xfind 2 σ) (τ := τ) (t := t) (i := i) hj (by simp [u3, hs]) hn
        simp only [if_neg (fun z => hi ((le_pred hn).mp z))] at hm
        exact LC.of hx hm (h.find (by decide))
  · exact LC.of (x_at_bad hr) (m_at_bad (not6 hr)) h
theorem LC_lay (h : Rall σ τ) (r i v : Int32) : LC l 94 164 [aI r, aI i, aI v] σ τ t := by
  by_cases hr : 0 ≤ r ∧ r < 6
  · obtain ⟨j, hj, rfl⟩ := ix_lt (n := 6) (by decide) hr
    obtain ⟨n, hn, hd1, hc⟩ := h.1 j hj
    have hx := x_lay (l := l) (τ := τ) (t := t) (i := i) (v := v) hj hd1 hn
    rcases hc with ⟨h0, hs⟩ | ⟨h0, hs, hp⟩
    · simp only [if_pos h0] at hx
      exact LC.of hx (m_lay_none hj (by simp [u3, hs])) (h.find (by decide))
    · have h01 : ¬ σ 6 (4 + j) 0 = 0 := by rw [h0]; decide
      simp only [if_neg h01] at hx
      by_cases hi : 0 ≤ i ∧ i < nI n
      · simp only [if_pos hi] at hx
        obtain ⟨k, hk, rfl⟩ := ix_lt (nI_toInt (by omega)) hi
        have hm := m_lay (l := l) (σ := u3 (u3 σ 11 0 11 (σ 30 (4 + j) (nI k).toNatClampNeg)) 30 (4 + j) (nI k).toNatClampNeg v) (τ := τ) (t := t) (i := nI k) (v := v) hj (by simp [u3, hs]) hn
        simp only [if_pos ((le_pred hn).mpr hi)] at hm
        refine LC.of hx hm ?_
        have hp2 : σ 30 (4 + j) k = σ 45 0 (60 * j + k) := hp k hk
        rw [u3_k _ _ (show 45 ≠ 30 by decide), u3_k _ _ (show 45 ≠ 11 by decide), nI_clamp (by omega), ← hp2]
        have h' := h.ask (v := σ 30 (4 + j) k)
        refine h'.mk (fun k a1 a2 a3 a4 a5 a6 a7 a8 a9 a0 => ?_) (fun i hi => ?_) (fun i hi => ?_) (fun j a1 a2 => ?_) ?_ ?_ ?_
        · rw [u3_kk _ _ a6, u3_kk _ _ a2, u3_kk _ _ a0, u3_kk _ _ a1, u3_kk _ _ a2, u3_kk _ _ a1]
        · funext c; simp [u3]
        · funext c; simp [u3, show i ≠ 4 + j by omega]
        · simp [u3]
        · intro r hr
          obtain ⟨n2, g1, g2, g3⟩ := h.1 r hr
          by_cases e : r = j
          · subst e
            refine ⟨n2, g1, by simpa [u3] using g2, ?_⟩
            rcases g3 with ⟨g4, g5⟩ | ⟨g4, g5, g6⟩
            · exact absurd g4 h01
            · refine Or.inr ⟨by simpa [u3] using g4, by simpa [u3] using g5, fun q hq => ?_⟩
              by_cases e2 : q = k
              · subst e2; simp [u3]
              · simp [u3, e2, g6 q hq]
          · refine ⟨n2, g1, by simpa [u3] using g2, ?_⟩
            rcases g3 with ⟨g4, g5⟩ | ⟨g4, g5, g6⟩
            · exact Or.inl ⟨by simpa [u3] using g4, by simpa [u3] using g5⟩
            · refine Or.inr ⟨by simpa [u3] using g4, by simpa [u3] using g5, fun q hq => ?_⟩
              simp [u3, e, show 60 * r + q ≠ 60 * j + k by omega, g6 q hq]
        · refine h.2.1.fr (fun r hr => ?_) (fun r hr => ?_) ?_ ?_
          · funext c; simp [u3]
          · funext c; simp [u3, show 10 + r ≠ 4 + j by omega]
          · funext b c; simp [u3]
          · funext b c; simp [u3]
        · obtain ⟨-, -, -, -, -, ⟨h1, h2, h3, h4, h5⟩, -⟩ := h'
          exact ⟨trivial, trivial, by simp [u3], h4, h5⟩
      · simp only [if_neg hi] at hx
        have hm := m_lay (l := l) (σ := xfind 2 σ) (τ := τ) (t := t) (i := i) (v := v) hj (by simp [u3, hs]) hn
        simp only [if_neg (fun z => hi ((le_pred hn).mp z))] at hm
        exact LC.of hx hm (h.find (by decide))
  · exact LC.of (x_lay_bad hr) (m_lay_bad (not6 hr)) h
end L1
