/-! digest: the case of the law -/
section L36
variable {l : Launch} {σ σ2 : tI} {τ τ2 : tL} {t : Option (Nat × Nat)}
theorem Rall.tau (h : Rall σ τ) (v : Int64) : Rall σ (tH τ v) := by
  obtain ⟨h1, h2, h3, h4, h5, ⟨g1, g2, g3, g4, g5⟩, h7⟩ := h
  refine ⟨h1, h2, h3, h4, h5, ⟨g1, g2, g3, ?_, ?_⟩, h7⟩
  · unfold tH
    simp [u3, g4]
  · unfold tH
    simp [u3, g5]
theorem mxN_cg2 {h : Int64} {f g : Nat → Int32} {n : Nat} (H : ∀ c, c < n → f c = g c) : mxN h f n = mxN h g n := mxN_cg H
theorem eqSh (hs : Rshapes σ) (s : Nat) (v : Int64) (h : s < 4) : xSh σ s v = mSh σ s v := by
  unfold xSh mSh
  rcases hs s h with ⟨z1, z2⟩ | ⟨S, hS⟩
  · rw [if_pos z1, if_pos (by rw [z2]; decide)]
  · have hn := hS.1.1
    rw [if_neg (by rw [hS.2.1]; decide), hS.2.2.2.1, if_neg (nI_pos (by omega)), hS.2.2.1, nI_clamp (by omega)]
    refine mxI_cg (fun k w hk hw => ?_)
    rw [hS.2.2.2.2.2.2 k w hk hw]
    have hI := hS.2.2.2.2.1 k hk
    match w, hw with
    | 0, _ => exact hI.1
    | 1, _ => exact hI.2.1
    | 2, _ => exact hI.2.2.1
    | 3, _ => exact hI.2.2.2.1
    | 4, _ => exact hI.2.2.2.2.1
    | 5, _ => exact hI.2.2.2.2.2
theorem eqRw {d p g : Nat → Int32} {sz : Int32} (h : rRow d p sz g) (v : Int64) : (if d 0 = 0 then mx v (-1) else mxN (mx v (d 1)) p (d 1).toNatClampNeg) = (if sz < 0 then mx v (-1) else mxN (mx v sz) g sz.toNatClampNeg) := by
  obtain ⟨n, hn, h1, ⟨z1, z2⟩ | ⟨z1, z2, z3⟩⟩ := h
  · rw [if_pos z1, if_pos (by rw [z2]; decide)]
  · rw [if_neg (by rw [z1]; decide), z2, if_neg (nI_pos (by omega)), h1, nI_clamp (by omega)]
    exact mxN_cg z3
theorem eqSv {T n m lo k : Nat} (hv : Rserv σ) (hN : Rnet σ T n m lo k) (a : Nat) (v : Int64) (h : a < 6) : xSv σ n a v = mSv σ n a v := by
  unfold xSv mSv
  obtain ⟨⟨x, y, -, -, e1, e2, e3, e4⟩, hd⟩ := hv a h
  obtain ⟨e5, e6, e7, -, -, -, e8, e9⟩ := hN.2.2.2.2.2.1 a h
  rw [e1, e2, e3, e4, e5, e6, e7, e8, e9, hN.kept]
  unfold mxV
  rw [mxN_cg (g := fun b => σ 59 0 (6 * a + b)) (fun b hb => (hd b hb).1)]
theorem eqCa {c : Nat} (h : Rcall σ c) (v : Int64) : xCa σ c v = mCa σ c v := by
  unfold xCa mCa
  rw [mxN_cg (h := v) (g := fun w => σ (ctK w) 0 c) (fun w hw => h.tells hw)]
  rw [mxN_cg (f := σ 13 c) (g := fun w => σ 80 0 (4 * c + w)) (fun w hw => h.2.2.2.2.2.2.2.2.2.2.2.2.2.2.2.2.2.2 w hw)]
  refine mxN_cg (fun w hw => ?_)
  have h16 := h.2.2.2.2.2.2.2.2.2.2.2.2.2.2.1
  have h17 := h.2.2.2.2.2.2.2.2.2.2.2.2.2.2.2.1
  have h18 := h.2.2.2.2.2.2.2.2.2.2.2.2.2.2.2.2.1
  match w, hw with
  | 0, _ => exact h16
  | 1, _ => exact h17
  | 2, _ => exact h18
theorem eqFr {f : Nat} (h : Rframe σ f) (v : Int64) : xFr σ f v = mFr σ f v := mxN_cg (fun _ hw => h.tells hw)
theorem eqDg {T n m lo k : Nat} {C : Nat → Int32} (h : Rall σ τ) (hN : Rnet σ T n m lo k) : xDg σ C n m = mDg σ C n m := by
  unfold xDg mDg
  rw [fN_cg (F := xSh σ) (G := mSh σ) (fun s v hs => eqSh h.2.2.1 s v hs)]
  rw [fN_cg (F := xSv σ n) (G := mSv σ n) (fun s v hs => eqSv h.2.2.2.2.1 hN s v hs)]
  rw [fN_cg (F := xCa σ) (G := mCa σ) (fun s v hs => eqCa (hN.2.2.1 s hs).1 v)]
  rw [fN_cg (F := xFr σ) (G := mFr σ) (fun s v hs => eqFr (hN.2.2.2.2.2.2.2.1 s hs).1 v)]
  rw [fN_cg (F := fun r => xRw σ (4 + r)) (G := mRw σ 44 45) (fun s v hs => eqRw (h.1 s hs) v)]
  rw [fN_cg (F := fun r => xRw σ (10 + r)) (G := mRw σ 47 48) (fun s v hs => eqRw (h.2.1 s hs).1 v)]
theorem rRow.sz {d p g : Nat → Int32} {sz : Int32} (h : rRow d p sz g) : sz = -9 ∨ ∃ n, n ≤ 60 ∧ sz = nI n := by
  obtain ⟨n, hn, -, ⟨-, z⟩ | ⟨-, z, -⟩⟩ := h
  · exact Or.inl z
  · exact Or.inr ⟨n, hn, z⟩
theorem rRow.ln {d p g : Nat → Int32} {sz : Int32} (h : rRow d p sz g) : ∃ n, n ≤ 60 ∧ d 1 = nI n := by
  obtain ⟨n, hn, z, -⟩ := h
  exact ⟨n, hn, z⟩
theorem LC_digest (h : Rall σ τ) : LC l 140 258 [] σ τ t := by
  obtain ⟨hr, ht, hs, -, -, -, T, n, m, lo, k, hN⟩ := id h
  have h0 := hN.split.1
  have hn := h0.2.1
  have hm := h0.2.2.2.2.2.2.1
  have hT := h0.1
  have hC : ∃ C : Nat → Int32, (∀ w, w < 9 → am_D l 147 [aR 11 0, aI (nI w)] σ τ (rX t) cX lX (some (aI (C w))) σ τ (rX t)) ∧ ∀ w τ, w < 9 → am_D l 250 [aR 12 0, aI (nI w)] σ τ (rX t) cX lX (some (aI (C w))) σ τ (rX t) := by
    have mk : ∀ w, ∃ v : Int32, w < 9 → (am_D l 147 [aR 11 0, aI (nI w)] σ τ (rX t) cX lX (some (aI v)) σ τ (rX t)) ∧ ∀ τ, am_D l 250 [aR 12 0, aI (nI w)] σ τ (rX t) cX lX (some (aI v)) σ τ (rX t) := by
      intro w
      by_cases hw : w < 9
      · have mk2 : ∀ {v v2 : Int32}, v2 = v → am_D l 147 [aR 11 0, aI (nI w)] σ τ (rX t) cX lX (some (aI v)) σ τ (rX t) → (∀ τ, am_D l 250 [aR 12 0, aI (nI w)] σ τ (rX t) cX lX (some (aI v2)) σ τ (rX t)) → ∃ v : Int32, w < 9 → (am_D l 147 [aR 11 0, aI (nI w)] σ τ (rX t) cX lX (some (aI v)) σ τ (rX t)) ∧ ∀ τ, am_D l 250 [aR 12 0, aI (nI w)] σ τ (rX t) cX lX (some (aI v)) σ τ (rX t) := by
          intro v v2 e z1 z2
          subst e
          exact ⟨v2, fun _ => ⟨z1, z2⟩⟩
        match w, hw with
        | 0, _ => exact mk2 (hT.2.1.trans hT.1.symm) x_cnt0 (fun _ => m_cnt0)
        | 1, _ => exact mk2 (hn.2.1.trans hn.1.symm) x_cnt1 (fun _ => m_cnt1)
        | 2, _ => exact mk2 h0.2.2.2.2.1.symm x_cnt2 (fun _ => m_cnt2 hn.2.1 hn.2.2)
        | 3, _ => exact mk2 (hm.2.trans hm.1.symm) x_cnt3 (fun _ => m_cnt3)
        | 4, _ => exact mk2 h0.2.2.2.2.2.2.2.2.1.symm x_cnt4 (fun _ => m_cnt4 hm.2 hN.m_le)
        | 5, _ => exact mk2 (h0.2.2.2.2.2.2.2.2.2.2.2.2.1.trans h0.2.2.2.2.2.2.2.2.2.2.2.1.symm) x_cnt5 (fun _ => m_cnt5)
        | 6, _ => exact mk2 (by rw [cntN_cg (fun x hx => decide_eq_decide.mpr (hr x hx).there.symm)]) x_cnt6 (fun _ => m_cnt6)
        | 7, _ => exact mk2 (by rw [cntN_cg (fun x hx => decide_eq_decide.mpr (ht x hx).1.there.symm)]) x_cnt7 (fun _ => m_cnt7)
        | 8, _ =>
          refine mk2 ?_ x_cnt8 (fun _ => m_cnt8)
          rw [cntN_cg (q := fun x => decide (¬ σ 9 (1 + x) 0 = 0)) (fun x hx => decide_eq_decide.mpr ?_)]
          rcases hs x hx with ⟨g1, g2⟩ | ⟨S, hS⟩
          · rw [g1, g2]; decide
          · rw [hS.2.1, hS.2.2.2.1]
            have := hS.1.1
            exact ⟨fun _ => by decide, fun _ => nI_pos (by omega)⟩
      · exact ⟨0, fun g => absurd g hw⟩
    exact ⟨fun w => Classical.choose (mk w), fun w hw => (Classical.choose_spec (mk w) hw).1, fun w τ hw => (Classical.choose_spec (mk w) hw).2 τ⟩
  obtain ⟨C, hC1, hC2⟩ := hC
  have hx := x_digest (l := l) (σ := σ) (τ := τ) (t := t) hC1 hs hn.1 hn.2.2 hm.1 hN.m_le (fun r hr2 => (hr r hr2).ln) (fun r hr2 => (ht r hr2).1.ln)
  have hm2 := m_digest (l := l) (σ := σ) (τ := τ) (t := t) hC2 (fun s hs2 => (hs s hs2).elim (fun z => Or.inl z.2) (fun ⟨S, hS⟩ => Or.inr ⟨sN S, hS.1.1, hS.2.2.2.1⟩)) hn.2.1 hn.2.2 hm.2 hN.m_le (fun r hr2 => (hr r hr2).sz) (fun r hr2 => (ht r hr2).1.sz)
  rw [← eqDg h hN] at hm2
  exact LC.of hx hm2 (h.tau _)
end L36
