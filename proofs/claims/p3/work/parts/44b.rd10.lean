/-! CASES OF THE LAW: read -/
section L73
variable {l : Launch} {σ σ2 : tI} {τ τ2 : tL} {t : Option (Nat × Nat)} {x N p : Nat} {G : Nat → Int32}
theorem Rall.rdno (h : Rall σ τ) {s1 s3 : tI} (hf : rxF σ s1) (hm : rmF s1 s3) : Rall s3 τ := by
  have g : ∀ q, q ≠ 4 ∧ q ≠ 6 ∧ q ≠ 26 ∧ q ≠ 30 ∧ q ≠ 12 ∧ q ≠ 52 ∧ q ≠ 53 ∧ q ≠ 54 → s3 q = σ q := fun q ⟨a1, a2, a3, a4, a5, a6, a7, a8⟩ => (hm.1 q a5 a6 a7 a8).trans (hf.1 q a1 a2 a3 a4)
  refine h.scr (fun q hq => g q ?_) (fun j hj => ?_) (fun i _ h1 h3 => ?_) (fun i _ h1 h3 => ?_) (fun k s hk => ?_) (fun j hj => ?_)
  · refine ⟨?_, ?_, ?_, ?_, ?_, ?_, ?_, ?_⟩ <;> (rintro rfl; exact absurd hq (by decide))
  · rw [hm.1 4 (by decide) (by decide) (by decide) (by decide)]
    exact hf.2.2 j (by omega)
  · rw [hm.1 6 (by decide) (by decide) (by decide) (by decide)]
    exact hf.2.1 6 i (Or.inl rfl) h1 h3
  · rw [hm.1 30 (by decide) (by decide) (by decide) (by decide)]
    exact hf.2.1 30 i (Or.inr rfl) h1 h3
  · rw [g k (by omega)]
  · rw [hm.2 j (by rintro rfl; exact absurd hj (by decide)) (by rintro rfl; exact absurd hj (by decide)) (by rintro rfl; exact absurd hj (by decide)) (by rintro rfl; exact absurd hj (by decide)), hf.1 12 (by decide) (by decide) (by decide) (by decide)]
theorem Rall.rdfnd (h : Rall σ τ) {s1 s3 : tI} {w w2 : Nat} (hf : rxF σ s1) (hm : rmF (xfind w s1) s3) : Rall (mmeets w2 s3) τ := by
  have g : ∀ q, q ≠ 4 ∧ q ≠ 6 ∧ q ≠ 26 ∧ q ≠ 30 ∧ q ≠ 12 ∧ q ≠ 52 ∧ q ≠ 53 ∧ q ≠ 54 ∧ q ≠ 11 ∧ q ≠ 42 ∧ q ≠ 43 → mmeets w2 s3 q = σ q := fun q ⟨a1, a2, a3, a4, a5, a6, a7, a8, a9, b1, b2⟩ => by
    rw [mmeets, u3_kk _ _ b2, u3_kk _ _ a5, hm.1 q a5 a6 a7 a8, xfind, u3_kk _ _ b1, u3_kk _ _ a9, hf.1 q a1 a2 a3 a4]
  have gi : ∀ q i, (q = 6 ∨ q = 30) → i ≠ 1 → i ≠ 3 → mmeets w2 s3 q i = σ q i := fun q i hq h1 h3 => by
    rw [mmeets, u3_kk _ _ (by omega), u3_kk _ _ (by omega), hm.1 q (by omega) (by omega) (by omega) (by omega), xfind, u3_kk _ _ (by omega), u3_kk _ _ (by omega), hf.2.1 q i hq h1 h3]
  have g4 : ∀ j, j < 7 → mmeets w2 s3 4 0 j = σ 4 0 j := fun j hj => by
    rw [mmeets, u3_k _ _ (by decide), u3_k _ _ (by decide), hm.1 4 (by decide) (by decide) (by decide) (by decide), xfind, u3_k _ _ (by decide), u3_k _ _ (by decide), hf.2.2 j hj]
  have g12 : ∀ j, j ≠ 0 → j ≠ 16 → j ≠ 19 → j ≠ 20 → j ≠ 21 → mmeets w2 s3 12 0 j = σ 12 0 j := fun j h0 a b c d => by
    rw [mmeets, u3_k _ _ (by decide), u3_j _ _ h0, hm.2 j a b c d, xfind, u3_k _ _ (by decide), u3_k _ _ (by decide), hf.1 12 (by decide) (by decide) (by decide) (by decide)]
  have g11 : mmeets w2 s3 11 0 11 = σ 11 0 11 := by
    rw [mmeets, u3_k _ _ (by decide), u3_k _ _ (by decide), hm.1 11 (by decide) (by decide) (by decide) (by decide), xfind, u3_k _ _ (by decide), u3_j _ _ (by decide), hf.1 11 (by decide) (by decide) (by decide) (by decide)]
  refine h.gen (h.1.fr (fun r _ => gi 6 _ (Or.inl rfl) (by omega) (by omega)) (fun r _ => gi 30 _ (Or.inr rfl) (by omega) (by omega)) (g 44 (by decide)) (g 45 (by decide))) (h.2.1.fr (fun r _ => gi 6 _ (Or.inl rfl) (by omega) (by omega)) (fun r _ => gi 30 _ (Or.inr rfl) (by omega) (by omega)) (g 47 (by decide)) (g 48 (by decide))) (h.2.2.1.fr (fun k hk => g k ?_)) ?_ ?_ (fun q hq => g q ?_) (fun j hj => g12 j ?_ ?_ ?_ ?_ ?_)
  · simp only [kShapes, Bool.or_eq_true, Bool.and_eq_true, Nat.ble_eq, Nat.beq_eq] at hk
    omega
  · have z := h.2.2.2.1
    unfold Rread at z ⊢
    rw [g4 2 (by decide), g4 3 (by decide), g4 4 (by decide), g 55 (by decide), g 56 (by decide), gi 6 2 (Or.inl rfl) (by decide) (by decide), gi 30 2 (Or.inr rfl) (by decide) (by decide), g12 24 (by decide) (by decide) (by decide) (by decide) (by decide)]
    exact z
  · have z := h.2.2.2.2.2.1
    unfold Rmisc at z ⊢
    rw [g11, g12 2 (by decide) (by decide) (by decide) (by decide) (by decide)]
    exact z
  · simp only [kNet, Bool.or_eq_true, Bool.and_eq_true, Nat.ble_eq] at hq
    omega
  all_goals (rintro rfl; exact absurd hj (by decide))
theorem Rall.rdok (h : Rall σ τ) {s1 s3 : tI} {st : rS} {D : Int32 × wO} {rr : Nat} (hr : rr < 6) (hf : rxF σ s1) (hC : rC s1 st) (h9 : s1 4 0 9 = D.1) (hN : nC s1 D.2) (hn : D.2.1 ≤ 60) (hu : (rUn st).1 ≤ 60) (hB : ∀ j, j < (rUn st).1 → isB ((rUn st).2 j)) (hm : rmF (xbec (kpS s1 (rUn st).1) (4 + rr) 1 D.2.1) s3) (hM : rM s3 st) (hJ : wJ s3 D.2) : Rall (rdE s3 st D rr) τ := by
  generalize hF : rdE s3 st D rr = F
  have k4 : ∀ q, q ≠ 44 → q ≠ 45 → q ≠ 55 → q ≠ 12 → q ≠ 56 → F q = s3 q := fun q a1 a2 a3 a4 a5 => by
    rw [← hF, rdE, cp3_kk a5, u3_kk _ _ a4, u3_kk _ _ a3, u3_kk _ _ a3, u3_kk _ _ a3, cp3_kk a2]
    funext b c
    simp [mfill, u3, a1, a2]
  have kk : ∀ q, q ≠ 4 → q ≠ 6 → q ≠ 30 → kpS s1 (rUn st).1 q = s1 q := fun q a1 a2 a3 => by rw [kpS, xbec_k a2 a3, u3_kk _ _ a1, u3_kk _ _ a1, u3_kk _ _ a1]
  have ki : ∀ q i, (q = 6 ∨ q = 30) → i ≠ 2 → kpS s1 (rUn st).1 q i = s1 q i := fun q i hq hi => by rw [kpS, xbec_i hi, u3_kk _ _ (by omega), u3_kk _ _ (by omega), u3_kk _ _ (by omega)]
  have g : ∀ q, q ≠ 4 ∧ q ≠ 6 ∧ q ≠ 26 ∧ q ≠ 30 ∧ q ≠ 12 ∧ q ≠ 52 ∧ q ≠ 53 ∧ q ≠ 54 ∧ q ≠ 44 ∧ q ≠ 45 ∧ q ≠ 55 ∧ q ≠ 56 → F q = σ q := fun q ⟨a1, a2, a3, a4, a5, a6, a7, a8, a9, b1, b2, b3⟩ => by
    rw [k4 q a9 b1 b2 a5 b3, hm.1 q a5 a6 a7 a8, xbec_k a2 a4, kk q a1 a2 a4, hf.1 q a1 a2 a3 a4]
  have gi : ∀ q i, (q = 6 ∨ q = 30) → i ≠ 1 → i ≠ 2 → i ≠ 3 → i ≠ 4 + rr → F q i = σ q i := fun q i hq h1 h2 h3 h4 => by
    rw [k4 q (by omega) (by omega) (by omega) (by omega) (by omega), hm.1 q (by omega) (by omega) (by omega) (by omega), xbec_i h4, ki q i hq h2, hf.2.1 q i hq h1 h3]
  have f6 : ∀ q, (q = 4 ∨ q = 6 ∨ q = 30) → F q = xbec (kpS s1 (rUn st).1) (4 + rr) 1 D.2.1 q := fun q hq => by
    rw [k4 q (by omega) (by omega) (by omega) (by omega) (by omega), hm.1 q (by omega) (by omega) (by omega) (by omega)]
  have c0 : F 6 (4 + rr) 0 = 1 := by rw [f6 6 (by decide), xbec_0]
  have c1 : F 6 (4 + rr) 1 = nI D.2.1 := by rw [f6 6 (by decide), xbec_1]
  have cp : ∀ j, j < D.2.1 → F 30 (4 + rr) j = D.2.2 j := fun j hj => by
    rw [f6 30 (by decide), xbec_p hj, ki 30 1 (Or.inr rfl) (by decide)]
    exact hN.2 j hj
  have u1 : F 6 2 1 = nI (rUn st).1 := by rw [f6 6 (by decide), xbec_i (show 2 ≠ 4 + rr by omega), kpS, xbec_1]
  have up : ∀ j, j < (rUn st).1 → F 30 2 j = (rUn st).2 j := fun j hj => by
    rw [f6 30 (by decide), xbec_i (show 2 ≠ 4 + rr by omega), kpS, xbec_p hj, u3_k _ _ (by decide), u3_k _ _ (by decide), u3_k _ _ (by decide)]
    exact hC.2.2.2.2 j hj
  have d2 : F 4 0 2 = rRd st := by
    rw [f6 4 (by decide), xbec_k (by decide) (by decide), kpS, xbec_k (by decide) (by decide), u3_j _ _ (by decide), u3_j _ _ (by decide), u3_eq]
    exact hC.1
  have d3 : F 4 0 3 = rKp st := by
    rw [f6 4 (by decide), xbec_k (by decide) (by decide), kpS, xbec_k (by decide) (by decide), u3_j _ _ (by decide), u3_eq]
    exact hC.2.1
  have d4 : F 4 0 4 = D.1 := by
    rw [f6 4 (by decide), xbec_k (by decide) (by decide), kpS, xbec_k (by decide) (by decide), u3_eq]
    exact h9
  have n0 : F 55 0 0 = rRd st := by rw [← hF, rdE, cp3_kk (by decide), u3_k _ _ (by decide), u3_j _ _ (by decide), u3_j _ _ (by decide), u3_eq]
  have n1 : F 55 0 1 = rKp st := by rw [← hF, rdE, cp3_kk (by decide), u3_k _ _ (by decide), u3_j _ _ (by decide), u3_eq]
  have n2 : F 55 0 2 = D.1 := by rw [← hF, rdE, cp3_kk (by decide), u3_k _ _ (by decide), u3_eq]
  have n24 : F 12 0 24 = nI (rUn st).1 := by rw [← hF, rdE, cp3_kk (by decide), u3_eq]
  have g12 : ∀ j, j ≠ 16 → j ≠ 19 → j ≠ 20 → j ≠ 21 → j ≠ 24 → F 12 0 j = σ 12 0 j := fun j a b c d e => by
    have e1 : F 12 0 j = s3 12 0 j := by
      rw [← hF, rdE, cp3_kk (by decide), u3_j _ _ e, u3_k _ _ (by decide), u3_k _ _ (by decide), u3_k _ _ (by decide), cp3_kk (by decide)]
      simp [mfill, u3]
    rw [e1, hm.2 j a b c d, xbec_k (by decide) (by decide), kk 12 (by decide) (by decide) (by decide), hf.1 12 (by decide) (by decide) (by decide) (by decide)]
  have mp56 : ∀ j, j < (rUn st).1 → F 56 0 j = (rUn st).2 j := fun j hj => by
    rw [← hF, rdE, cp3_at hj, u3_k _ _ (by decide), u3_k _ _ (by decide), u3_k _ _ (by decide), u3_k _ _ (by decide), cp3_kk (by decide)]
    have : mfill (u3 s3 44 0 rr (nI D.2.1)) 45 (60 * rr) 60 0 54 0 j = s3 54 0 j := by simp [mfill, u3]
    rw [this]
    exact hM.2.2.2.2 j hj
  have r44 : ∀ q, F 44 0 q = if q = rr then nI D.2.1 else σ 44 0 q := fun q => by
    have e1 : F 44 0 q = if q = rr then nI D.2.1 else s3 44 0 q := by
      rw [← hF, rdE, cp3_kk (by decide), u3_k _ _ (by decide), u3_k _ _ (by decide), u3_k _ _ (by decide), u3_k _ _ (by decide), cp3_kk (by decide)]
      by_cases e : q = rr
      · simp [mfill, u3, e]
      · simp [mfill, u3, e]
    rw [e1, hm.1 44 (by decide) (by decide) (by decide) (by decide), xbec_k (by decide) (by decide), kk 44 (by decide) (by decide) (by decide), hf.1 44 (by decide) (by decide) (by decide) (by decide)]
  have m45 : ∀ j, F 45 0 j = cp3 (mfill (u3 s3 44 0 rr (nI D.2.1)) 45 (60 * rr) 60 0) 45 0 52 0 0 (60 * rr) D.2.1 45 0 j := fun j => by
    rw [← hF, rdE, cp3_kk (by decide), u3_k _ _ (by decide), u3_k _ _ (by decide), u3_k _ _ (by decide), u3_k _ _ (by decide)]
  have mp : ∀ j, j < D.2.1 → F 45 0 (60 * rr + j) = D.2.2 j := fun j hj => by
    rw [m45]
    have e1 : cp3 (mfill (u3 s3 44 0 rr (nI D.2.1)) 45 (60 * rr) 60 0) 45 0 52 0 0 (60 * rr) D.2.1 45 0 (60 * rr + j) = s3 52 0 j := by
      have e2 : 60 * rr + j < 60 * rr + D.2.1 := by omega
      have e3 : 60 * rr + j - 60 * rr = j := by omega
      simp [cp3, mfill, u3, e2, e3]
    rw [e1]
    exact hJ.2 j hj
  have np : ∀ j, (j < 60 * rr ∨ 60 * rr + 60 ≤ j) → F 45 0 j = σ 45 0 j := fun j hj => by
    rw [m45]
    have e1 : cp3 (mfill (u3 s3 44 0 rr (nI D.2.1)) 45 (60 * rr) 60 0) 45 0 52 0 0 (60 * rr) D.2.1 45 0 j = s3 45 0 j := by
      have e2 : ¬ (60 * rr ≤ j ∧ j < 60 * rr + D.2.1) := by omega
      have e3 : ¬ (60 * rr ≤ j ∧ j < 60 * rr + 60) := by omega
      simp [cp3, mfill, u3, e2, e3]
    rw [e1, hm.1 45 (by decide) (by decide) (by decide) (by decide), xbec_k (by decide) (by decide), kk 45 (by decide) (by decide) (by decide), hf.1 45 (by decide) (by decide) (by decide) (by decide)]
  refine h.gen (fun q hq => ?_) (h.2.1.fr (fun r _ => gi 6 _ (Or.inl rfl) (by omega) (by omega) (by omega) (by omega)) (fun r _ => gi 30 _ (Or.inr rfl) (by omega) (by omega) (by omega) (by omega)) (g 47 (by decide)) (g 48 (by decide))) (h.2.2.1.fr (fun k hk => g k ?_)) ⟨d2.trans n0.symm, d3.trans n1.symm, d4.trans n2.symm, (rUn st).1, hu, u1, n24, fun j hj => ⟨(up j hj).trans (mp56 j hj).symm, by rw [up j hj]; exact hB j hj⟩⟩ ?_ (fun q hq => g q ?_) (fun j hj => g12 j ?_ ?_ ?_ ?_ ?_)
  · by_cases eq : q = rr
    · subst eq
      exact ⟨D.2.1, hn, c1, Or.inr ⟨c0, by rw [r44, if_pos rfl], fun j hj => (cp j hj).trans (mp j hj).symm⟩⟩
    · rw [gi 6 (4 + q) (Or.inl rfl) (by omega) (by omega) (by omega) (by omega), gi 30 (4 + q) (Or.inr rfl) (by omega) (by omega) (by omega) (by omega), r44, if_neg eq]
      obtain ⟨n, z1, z2, z3⟩ := h.1 q hq
      refine ⟨n, z1, z2, ?_⟩
      rcases z3 with z3 | ⟨z5, z6, z7⟩
      · exact Or.inl z3
      · exact Or.inr ⟨z5, z6, fun j hj => (z7 j hj).trans (np _ (by omega)).symm⟩
  · simp only [kShapes, Bool.or_eq_true, Bool.and_eq_true, Nat.ble_eq, Nat.beq_eq] at hk
    omega
  · have z := h.2.2.2.2.2.1
    unfold Rmisc at z ⊢
    rw [g 11 (by decide), g12 2 (by decide) (by decide) (by decide) (by decide) (by decide)]
    exact z
  · simp only [kNet, Bool.or_eq_true, Bool.and_eq_true, Nat.ble_eq] at hq
    omega
  all_goals (rintro rfl; exact absurd hj (by decide))
theorem LC_read (h : Rall σ τ) (a b c d : Int32) : LC l 106 191 [aI a, aI b, aI c, aI d] σ τ t := by
  by_cases hc : (0 ≤ a ∧ a < 4) ∧ (0 ≤ b ∧ b < 10) ∧ (0 ≤ c ∧ c < 6) ∧ (0 ≤ d ∧ d < 6)
  · obtain ⟨ha, hb, hc, hd⟩ := hc
    obtain ⟨s, hs, rfl⟩ := ix_lt (n := 4) (by decide) ha
    obtain ⟨v, hv, rfl⟩ := ix_lt (n := 10) (by decide) hb
    obtain ⟨x, hx, rfl⟩ := ix_lt (n := 6) (by decide) hc
    obtain ⟨rr, hr, rfl⟩ := ix_lt (n := 6) (by decide) hd
    rcases h.2.2.1 s hs with ⟨y1, y2⟩ | ⟨S, hS⟩
    · refine LC.of (x_read_no hs hv hx hr (Or.inl y1)) (m_read_no hs hv hx hr (Or.inl ?_)) (h.find (by decide))
      simp [u3, y2]
    obtain ⟨⟨N, hN, hd1, hct⟩, hB⟩ := h.2.1 x hx
    rcases hct with ⟨h0, hz⟩ | ⟨h0, hz, hp⟩
    · refine LC.of (x_read_no hs hv hx hr (Or.inr h0)) (m_read_no hs hv hx hr (Or.inr ?_)) (h.find (by decide))
      simp [u3, hz]
    obtain ⟨w1, w2, w3, w4, w5, w6, w7⟩ := hS
    have hK : K0 σ (10 + x) N (σ 30 (10 + x)) := ⟨hd1, hN, by omega, rfl⟩
    have hB2 : ∀ j, j < N → isB (σ 30 (10 + x) j) := fun j hj => hB j (by omega) (by rw [hz]; exact m9 (by omega)) (by rw [hz]; exact nI_lt hj (by omega))
    refine am_T.mono (x_read hs hv hx hr (by rw [w2]; decide) (by rw [h0]; decide) w1 w3 w5 w6 hK hB2) ?_
    rintro w s2 τ2 t2 ⟨rfl, rfl, hQ⟩
    have mgo : ∀ s2, (∀ q, q = 49 ∨ q = 50 ∨ q = 47 ∨ q = 48 → s2 q = σ q) → am_T l 191 [aR 12 0, aI (nI s), aI (nI v), aI (nI x), aI (nI rr)] s2 τ2 t2 (fun w s3 τ3 t3 => τ3 = τ2 ∧ t3 = t2 ∧ rmQ s2 S v (σ 30 (10 + x)) N rr (rdA S v (σ 30 (10 + x)) N st0 0) w s3) := by
      intro s2 hk
      refine m_read hs hv hr w1 (by rw [hk 49 (by decide)]; exact w4) ?_ ⟨by rw [hk 47 (by decide)]; exact hz, hN, hx, fun j hj => by rw [hk 48 (by decide)]; exact (hp j hj).symm⟩ hB2
      unfold MItems
      rw [hk 50 (by decide)]
      exact w7
    cases e : rdA S v (σ 30 (10 + x)) N st0 0 with
    | inl q =>
      rw [e] at hQ mgo
      obtain ⟨rfl, hf⟩ := hQ
      refine ⟨rfl, am_T.mono (mgo _ (fun q hq => hf.1 q (by omega) (by omega) (by omega) (by omega))) ?_⟩
      rintro w3 s3 τ3 t3 ⟨rfl, rfl, rfl, hf2⟩
      exact ⟨rfl, h.rdno hf hf2⟩
    | inr st =>
      have hin : rIn S v (σ 30 (10 + x)) N st N := rdP_in hB2 (N + 1) 0 st0 st (by omega) (by omega) st0_in e
      rw [e] at hQ mgo
      unfold rrQ at hQ
      unfold rmQ at mgo
      dsimp only at hQ mgo
      generalize hD : dcP S v (σ 30 (10 + x)) N st (sN S) 0 0 o0 = D at *
      by_cases ho : D.2.1 ≤ 60
      · rw [if_pos ho] at hQ
        obtain ⟨rfl, s1, hf, hC, h9, hN1, rfl⟩ := hQ
        refine ⟨rfl, am_T.mono (mgo _ (fun q hq => by rw [xbec_k (by omega) (by omega), kpS, xbec_k (by omega) (by omega), u3_kk _ _ (by omega), u3_kk _ _ (by omega), u3_kk _ _ (by omega), hf.1 q (by omega) (by omega) (by omega) (by omega)])) ?_⟩
        rintro w3 s3 τ3 t3 ⟨rfl, rfl, hQ2⟩
        rw [if_pos ho] at hQ2
        obtain ⟨rfl, s4, hf2, hM2, hJ2, rfl⟩ := hQ2
        exact ⟨rfl, h.rdok hr hf hC h9 hN1 ho (Nat.le_trans hin.2.1 hN) hin.2.2 hf2 hM2 hJ2⟩
      · rw [if_neg ho] at hQ
        obtain ⟨rfl, s1, hf, rfl⟩ := hQ
        refine ⟨rfl, am_T.mono (mgo _ (fun q hq => by rw [xfind, u3_kk _ _ (by omega), u3_kk _ _ (by omega), hf.1 q (by omega) (by omega) (by omega) (by omega)])) ?_⟩
        rintro w3 s3 τ3 t3 ⟨rfl, rfl, hQ2⟩
        rw [if_neg ho] at hQ2
        obtain ⟨rfl, s4, hf2, rfl⟩ := hQ2
        exact ⟨rfl, h.rdfnd hf hf2⟩
  · refine LC.of (x_readB hc) (m_readB ?_) h
    rintro ⟨z1, z2, z3, z4⟩
    obtain ⟨j, hj, rfl⟩ := ix_le (n := 4) (by decide) z1
    obtain ⟨k, hk, rfl⟩ := ix_le (n := 10) (by decide) z2
    obtain ⟨m, hm, rfl⟩ := ix_le (n := 6) (by decide) z3
    obtain ⟨n, hn, rfl⟩ := ix_le (n := 6) (by decide) z4
    exact hc ⟨in4 hj, in10 hk, in6 hm, in6 hn⟩
end L73
