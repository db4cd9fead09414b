/-! CASES OF THE LAW: breaks; the sending of a frame -/
section L8
variable {l : Launch} {σ σ2 : tI} {τ τ2 : tL} {t : Option (Nat × Nat)}
abbrev xbrk (σ : tI) (k : Nat) (g f e : Int32) : tI := u3 (u3 (u3 (u3 σ 21 0 k g) 22 0 k f) 23 0 k e) 2 0 0 (nI (k + 1))
theorem x_breakLine {a b k : Nat} {f e : Int32} (ha : a < 6) (hb : b < 6) (hk : σ 2 0 0 = nI k) (hk2 : k < 20) : am_D l 10 [aR 2 0, aI (nI a), aI (nI b), aI f, aI e] σ τ (rX t) cX lX none (xbrk σ k (nI (6 * min a b + max a b)) f e) τ (rX t) := by
  have q1 : ∀ {v : Int32}, (u3 σ 21 0 k v) 2 0 0 = nI k := by intro v; simp [u3, hk]
  refine am_D_of am_o10 am_l10 rfl ?_
  refine am_vc_ok am_k10 [] 100 ?_
  refine And.intro (fun h => absurd h (by rw [hk]; exact nI_ge (b := 20) hk2 (by decide))) (fun _ => ?_)
  refine am_vS am_k10 am_h10 rfl rfl rfl rfl (x_lineOf ha hb) ?_
  refine am_vc_ok am_k10 [] 100 ?_
  rw [hk]
  refine And.intro (vp_in_nI (N := 20) hk2 (by decide)) ?_
  rw [nI_clamp (by omega)]
  refine And.intro (by rw [q1]; exact vp_in_nI (N := 20) hk2 (by decide)) ?_
  rw [q1, nI_clamp (by omega)]
  refine And.intro (by rw [u3_k _ _ (show 2 ≠ 22 by decide), q1]; exact vp_in_nI (N := 20) hk2 (by decide)) ?_
  rw [u3_k _ _ (show 2 ≠ 22 by decide), q1, nI_clamp (by omega)]
  refine am_vV am_k10 am_r10 rfl ⟨rfl, ?_, rfl, rfl, rfl, rfl⟩
  rw [u3_k _ _ (show 2 ≠ 23 by decide), u3_k _ _ (show 2 ≠ 22 by decide), q1, show nI k + 1 = nI (k + 1) from nI_1 k]
theorem x_breaks_bad {a b f e : Int32} (h : ¬ (((0 ≤ a ∧ a < 6) ∧ (0 ≤ b ∧ b < 6) ∧ a ≠ b) ∧ 0 ≤ f ∧ e ≤ 9999 ∧ f ≤ e)) : am_D l 119 [aR 11 0, aI a, aI b, aI f, aI e] σ τ (rX t) cX lX (some (aI (-1))) σ τ (rX t) := by
  refine am_D_of am_o119 am_l119 rfl ?_
  refine am_vc_ok am_k119 [] 100 ?_
  refine am_vS am_k119 am_h119 rfl rfl rfl rfl (x_isPair) ?_
  refine am_vc_ok am_k119 [] 100 ?_
  refine And.intro (fun h1 => ?_) (fun h1 => ?_)
  · exact am_vI am_k119 am_r119 rfl ⟨rfl, rfl, rfl, rfl, rfl, rfl⟩
  refine And.intro (fun h2 => ?_) (fun h2 => ?_)
  · exact am_vI am_k119 am_r119 rfl ⟨rfl, rfl, rfl, rfl, rfl, rfl⟩
  refine And.intro (fun h3 => ?_) (fun h3 => ?_)
  · exact am_vI am_k119 am_r119 rfl ⟨rfl, rfl, rfl, rfl, rfl, rfl⟩
  refine And.intro (fun h4 => ?_) (fun h4 => ?_)
  · exact absurd ⟨bI_1.mp h1, Int32.not_lt.mp h2, Int32.not_lt.mp h3, h4⟩ h
  · exact am_vI am_k119 am_r119 rfl ⟨rfl, rfl, rfl, rfl, rfl, rfl⟩
theorem x_breaks_full {a b f e : Int32} (h : ((0 ≤ a ∧ a < 6) ∧ (0 ≤ b ∧ b < 6) ∧ a ≠ b) ∧ 0 ≤ f ∧ e ≤ 9999 ∧ f ≤ e) (hk : σ 2 0 0 = nI 20) : am_D l 119 [aR 11 0, aI a, aI b, aI f, aI e] σ τ (rX t) cX lX (some (aI (-2))) σ τ (rX t) := by
  refine am_D_of am_o119 am_l119 rfl ?_
  refine am_vc_ok am_k119 [] 100 ?_
  refine am_vS am_k119 am_h119 rfl rfl rfl rfl (x_isPair) ?_
  refine am_vc_ok am_k119 [] 100 ?_
  refine And.intro (fun g => absurd h.1 (bI_0.mp g)) (fun _ => ?_)
  refine And.intro (fun g => absurd h.2.1 (Int32.not_le.mpr g)) (fun _ => ?_)
  refine And.intro (fun g => absurd h.2.2.1 (Int32.not_le.mpr g)) (fun _ => ?_)
  refine And.intro (fun _ => ?_) (fun g => absurd h.2.2.2 g)
  refine And.intro (fun g => absurd g (by rw [hk]; decide)) (fun _ => ?_)
  exact am_vI am_k119 am_r119 rfl ⟨rfl, rfl, rfl, rfl, rfl, rfl⟩
theorem x_breaks {a b k : Nat} {f e : Int32} (ha : a < 6) (hb : b < 6) (hab : a ≠ b) (h : 0 ≤ f ∧ e ≤ 9999 ∧ f ≤ e) (hk : σ 2 0 0 = nI k) (hk2 : k < 20) : am_D l 119 [aR 11 0, aI (nI a), aI (nI b), aI f, aI e] σ τ (rX t) cX lX (some (aI (nI (k + 1)))) (xbrk σ k (nI (6 * min a b + max a b)) f e) τ (rX t) := by
  have hp : (0 ≤ nI a ∧ nI a < 6) ∧ (0 ≤ nI b ∧ nI b < 6) ∧ nI a ≠ nI b := ⟨in6 ha, in6 hb, fun z => hab ((nI_eq (by omega) (by omega)).mp z)⟩
  refine am_D_of am_o119 am_l119 rfl ?_
  refine am_vc_ok am_k119 [] 100 ?_
  refine am_vS am_k119 am_h119 rfl rfl rfl rfl (x_isPair) ?_
  refine am_vc_ok am_k119 [] 100 ?_
  refine And.intro (fun g => absurd hp (bI_0.mp g)) (fun _ => ?_)
  refine And.intro (fun g => absurd h.1 (Int32.not_le.mpr g)) (fun _ => ?_)
  refine And.intro (fun g => absurd h.2.1 (Int32.not_le.mpr g)) (fun _ => ?_)
  refine And.intro (fun _ => ?_) (fun g => absurd h.2.2 g)
  refine And.intro (fun _ => ?_) (fun g => absurd (by rw [hk]; exact nI_lt (b := 20) hk2 (by decide)) g)
  refine am_vO am_k119 am_h119 rfl rfl rfl rfl (x_breakLine ha hb hk hk2) ?_
  refine am_vc_ok am_k119 [] 100 ?_
  refine am_vI am_k119 am_r119 rfl ⟨?_, rfl, rfl, rfl, rfl, rfl⟩
  simp [xbrk, u3]
abbrev mbrk (σ : tI) (k : Nat) (g f e : Int32) : tI := u3 (u3 (u3 (u3 σ 91 0 k g) 92 0 k f) 93 0 k e) 12 0 64 (nI (k + 1))
theorem m_breaks_bad {a b f e : Int32} (h : ¬ (((0 ≤ a ∧ a ≤ 5) ∧ (0 ≤ b ∧ b ≤ 5) ∧ a ≠ b) ∧ (0 ≤ f ∧ f ≤ 9999) ∧ (0 ≤ e ∧ e ≤ 9999) ∧ f ≤ e)) : am_D l 215 [aR 12 0, aI a, aI b, aI f, aI e] σ τ (rX t) cX lX (some (aI (-1))) σ τ (rX t) := by
  refine am_D_of am_o215 am_l215 rfl ?_
  refine am_vc_ok am_k215 [] 100 ?_
  refine am_vS am_k215 am_h215 rfl rfl rfl rfl (m_isSix) ?_
  refine am_vc_ok am_k215 [] 100 ?_
  refine And.intro (fun h1 => ?_) (fun h1 => ?_)
  · exact am_vI am_k215 am_r215 rfl ⟨rfl, rfl, rfl, rfl, rfl, rfl⟩
  refine am_vS am_k215 am_h215 rfl rfl rfl rfl (m_isSix) ?_
  refine am_vc_ok am_k215 [] 100 ?_
  refine And.intro (fun h2 => ?_) (fun h2 => ?_)
  · exact am_vI am_k215 am_r215 rfl ⟨rfl, rfl, rfl, rfl, rfl, rfl⟩
  refine And.intro (fun h3 => ?_) (fun h3 => ?_)
  · exact am_vI am_k215 am_r215 rfl ⟨rfl, rfl, rfl, rfl, rfl, rfl⟩
  refine am_vS am_k215 am_h215 rfl rfl rfl rfl (m_isTick) ?_
  refine am_vc_ok am_k215 [] 100 ?_
  refine And.intro (fun h4 => ?_) (fun h4 => ?_)
  · exact am_vI am_k215 am_r215 rfl ⟨rfl, rfl, rfl, rfl, rfl, rfl⟩
  refine am_vS am_k215 am_h215 rfl rfl rfl rfl (m_isTick) ?_
  refine am_vc_ok am_k215 [] 100 ?_
  refine And.intro (fun h5 => ?_) (fun h5 => ?_)
  · exact am_vI am_k215 am_r215 rfl ⟨rfl, rfl, rfl, rfl, rfl, rfl⟩
  refine And.intro (fun h6 => ?_) (fun h6 => ?_)
  · exact absurd ⟨⟨bI_1.mp h1, bI_1.mp h2, h3⟩, bI_1.mp h4, bI_1.mp h5, h6⟩ h
  · exact am_vI am_k215 am_r215 rfl ⟨rfl, rfl, rfl, rfl, rfl, rfl⟩
theorem m_breaks_full {a b f e : Int32} (h : ((0 ≤ a ∧ a ≤ 5) ∧ (0 ≤ b ∧ b ≤ 5) ∧ a ≠ b) ∧ (0 ≤ f ∧ f ≤ 9999) ∧ (0 ≤ e ∧ e ≤ 9999) ∧ f ≤ e) (hk : σ 12 0 64 = nI 20) : am_D l 215 [aR 12 0, aI a, aI b, aI f, aI e] σ τ (rX t) cX lX (some (aI (-2))) σ τ (rX t) := by
  refine am_D_of am_o215 am_l215 rfl ?_
  refine am_vc_ok am_k215 [] 100 ?_
  refine am_vS am_k215 am_h215 rfl rfl rfl rfl (m_isSix) ?_
  refine am_vc_ok am_k215 [] 100 ?_
  refine And.intro (fun g => absurd h.1.1 (bI_0.mp g)) (fun _ => ?_)
  refine am_vS am_k215 am_h215 rfl rfl rfl rfl (m_isSix) ?_
  refine am_vc_ok am_k215 [] 100 ?_
  refine And.intro (fun g => absurd h.1.2.1 (bI_0.mp g)) (fun _ => ?_)
  refine And.intro (fun g => absurd g h.1.2.2) (fun _ => ?_)
  refine am_vS am_k215 am_h215 rfl rfl rfl rfl (m_isTick) ?_
  refine am_vc_ok am_k215 [] 100 ?_
  refine And.intro (fun g => absurd h.2.1 (bI_0.mp g)) (fun _ => ?_)
  refine am_vS am_k215 am_h215 rfl rfl rfl rfl (m_isTick) ?_
  refine am_vc_ok am_k215 [] 100 ?_
  refine And.intro (fun g => absurd h.2.2.1 (bI_0.mp g)) (fun _ => ?_)
  refine And.intro (fun _ => ?_) (fun g => absurd h.2.2.2 g)
  refine And.intro (fun _ => ?_) (fun g => absurd hk g)
  exact am_vI am_k215 am_r215 rfl ⟨rfl, rfl, rfl, rfl, rfl, rfl⟩
theorem m_breaks {a b k : Nat} {f e : Int32} (ha : a < 6) (hb : b < 6) (hab : a ≠ b) (h : (0 ≤ f ∧ f ≤ 9999) ∧ (0 ≤ e ∧ e ≤ 9999) ∧ f ≤ e) (hk : σ 12 0 64 = nI k) (hk2 : k < 20) : am_D l 215 [aR 12 0, aI (nI a), aI (nI b), aI f, aI e] σ τ (rX t) cX lX (some (aI (nI (k + 1)))) (mbrk σ k (nI (6 * min a b + max a b)) f e) τ (rX t) := by
  have q1 : ∀ {v : Int32}, (u3 σ 91 0 k v) 12 0 64 = nI k := by intro v; simp [u3, hk]
  refine am_D_of am_o215 am_l215 rfl ?_
  refine am_vc_ok am_k215 [] 100 ?_
  refine am_vS am_k215 am_h215 rfl rfl rfl rfl (m_isSix) ?_
  refine am_vc_ok am_k215 [] 100 ?_
  refine And.intro (fun g => absurd (in5 ha) (bI_0.mp g)) (fun _ => ?_)
  refine am_vS am_k215 am_h215 rfl rfl rfl rfl (m_isSix) ?_
  refine am_vc_ok am_k215 [] 100 ?_
  refine And.intro (fun g => absurd (in5 hb) (bI_0.mp g)) (fun _ => ?_)
  refine And.intro (fun g => absurd ((nI_eq (by omega) (by omega)).mp g) hab) (fun _ => ?_)
  refine am_vS am_k215 am_h215 rfl rfl rfl rfl (m_isTick) ?_
  refine am_vc_ok am_k215 [] 100 ?_
  refine And.intro (fun g => absurd h.1 (bI_0.mp g)) (fun _ => ?_)
  refine am_vS am_k215 am_h215 rfl rfl rfl rfl (m_isTick) ?_
  refine am_vc_ok am_k215 [] 100 ?_
  refine And.intro (fun g => absurd h.2.1 (bI_0.mp g)) (fun _ => ?_)
  refine And.intro (fun _ => ?_) (fun g => absurd h.2.2 g)
  refine And.intro (fun g => absurd ((nI_eq (b := 20) (by omega) (by decide)).mp (hk.symm.trans g)) (by omega)) (fun _ => ?_)
  refine am_vS am_k215 am_h215 rfl rfl rfl rfl (m_line ha hb) ?_
  refine am_vc_ok am_k215 [] 100 ?_
  rw [hk]
  refine And.intro (vp_in_nI (N := 20) hk2 (by decide)) ?_
  rw [nI_clamp (by omega)]
  refine And.intro (by rw [q1]; exact vp_in_nI (N := 20) hk2 (by decide)) ?_
  rw [q1, nI_clamp (by omega)]
  refine And.intro (by rw [u3_k _ _ (show 12 ≠ 92 by decide), q1]; exact vp_in_nI (N := 20) hk2 (by decide)) ?_
  rw [u3_k _ _ (show 12 ≠ 92 by decide), q1, nI_clamp (by omega)]
  refine am_vI am_k215 am_r215 rfl ⟨?_, ?_, rfl, rfl, rfl, rfl⟩
  · simp [u3, hk, nI_1]
  · rw [u3_k _ _ (show 12 ≠ 93 by decide), u3_k _ _ (show 12 ≠ 92 by decide), q1, show nI k + 1 = nI (k + 1) from nI_1 k]
theorem Rnet.brk {T n m lo k : Nat} (h : Rnet σ T n m lo k) (hk : k < 20) (g f e : Int32) : Rnet (mbrk (xbrk σ k g f e) k g f e) T n m lo (k + 1) := by
  have E : ∀ q, q ≠ 2 → q ≠ 21 → q ≠ 22 → q ≠ 23 → q ≠ 91 → q ≠ 92 → q ≠ 93 → q ≠ 12 → mbrk (xbrk σ k g f e) k g f e q = σ q := by
    intro q a1 a2 a3 a4 a5 a6 a7 a8
    unfold mbrk xbrk
    rw [u3_kk _ _ a8, u3_kk _ _ a7, u3_kk _ _ a6, u3_kk _ _ a5, u3_kk _ _ a1, u3_kk _ _ a4, u3_kk _ _ a3, u3_kk _ _ a2]
  have E12 : ∀ j, j ≠ 64 → mbrk (xbrk σ k g f e) k g f e 12 0 j = σ 12 0 j := by
    intro j hj
    simp [mbrk, xbrk, u3, hj]
  have e64 : mbrk (xbrk σ k g f e) k g f e 12 0 64 = nI (k + 1) := by simp [mbrk, xbrk, u3]
  have e2 : mbrk (xbrk σ k g f e) k g f e 2 0 0 = nI (k + 1) := by simp [mbrk, xbrk, u3]
  have eL : ∀ i, i < k + 1 → mbrk (xbrk σ k g f e) k g f e 21 0 i = (if i = k then g else σ 21 0 i) ∧ mbrk (xbrk σ k g f e) k g f e 22 0 i = (if i = k then f else σ 22 0 i) ∧ mbrk (xbrk σ k g f e) k g f e 23 0 i = (if i = k then e else σ 23 0 i) ∧ mbrk (xbrk σ k g f e) k g f e 91 0 i = (if i = k then g else σ 91 0 i) ∧ mbrk (xbrk σ k g f e) k g f e 92 0 i = (if i = k then f else σ 92 0 i) ∧ mbrk (xbrk σ k g f e) k g f e 93 0 i = (if i = k then e else σ 93 0 i) := by
    intro i _
    simp [mbrk, xbrk, u3]
  generalize mbrk (xbrk σ k g f e) k g f e = s at E E12 e64 e2 eL ⊢
  unfold Rnet Rcall Ocall Fcall Rframe Oframe asksU undU at h ⊢
  have d : ∀ q, (Nat.ble q 1 || Nat.beq q 3 || Nat.beq q 8 || (Nat.ble 13 q && Nat.ble q 20) || (Nat.ble 62 q && Nat.ble q 90)) = true → s q = σ q := by
    intro q z
    simp only [Bool.or_eq_true, Bool.and_eq_true, Nat.ble_eq, Nat.beq_eq] at z
    exact E q (by omega) (by omega) (by omega) (by omega) (by omega) (by omega) (by omega) (by omega)
  rw [d 0 rfl, d 1 rfl, d 3 rfl, d 8 rfl, d 13 rfl, d 14 rfl, d 15 rfl, d 16 rfl, d 17 rfl, d 18 rfl, d 19 rfl, d 20 rfl, d 62 rfl, d 63 rfl, d 64 rfl, d 65 rfl, d 66 rfl, d 67 rfl, d 68 rfl, d 69 rfl, d 70 rfl, d 71 rfl, d 72 rfl, d 73 rfl, d 74 rfl, d 75 rfl, d 76 rfl, d 77 rfl, d 78 rfl, d 79 rfl, d 80 rfl, d 81 rfl, d 82 rfl, d 83 rfl, d 84 rfl, d 85 rfl, d 86 rfl, d 87 rfl, d 88 rfl, d 89 rfl, d 90 rfl, E12 5 (by decide), E12 34 (by decide), E12 54 (by decide), E12 62 (by decide), E12 63 (by decide)]
  obtain ⟨h1, h2, h3, h4, h5, h6, h7, h8, h9, h10, h11, ⟨-, -, -, h12⟩, h13⟩ := h
  refine ⟨h1, h2, h3, h4, h5, h6, h7, h8, h9, h10, h11, ⟨e2, e64, by omega, fun i hi => ?_⟩, h13⟩
  obtain ⟨l1, l2, l3, l4, l5, l6⟩ := eL i hi
  rw [l1, l2, l3, l4, l5, l6]
  by_cases hik : i = k
  · simp [hik]
  · simp only [if_neg hik]; exact h12 i (by omega)
theorem brk_iff {f e : Int32} : (0 ≤ f ∧ e ≤ 9999 ∧ f ≤ e) ↔ ((0 ≤ f ∧ f ≤ 9999) ∧ (0 ≤ e ∧ e ≤ 9999) ∧ f ≤ e) :=
  ⟨fun ⟨a, b, c⟩ => ⟨⟨a, Int32.le_trans c b⟩, ⟨Int32.le_trans a c, b⟩, c⟩, fun ⟨⟨a, _⟩, ⟨_, b⟩, c⟩ => ⟨a, b, c⟩⟩
theorem LC_breaks (h : Rall σ τ) (a b f e : Int32) : LC l 119 215 [aI a, aI b, aI f, aI e] σ τ t := by
  have e6 : ∀ x : Int32, (0 ≤ x ∧ x ≤ 5) ↔ (0 ≤ x ∧ x < 6) := fun x => leN (n := 6) (N := 6) (by decide) (by decide)
  obtain ⟨-, -, -, -, -, -, T, n, m, lo, k, hN⟩ := id h
  have hk := hN.2.2.2.2.2.2.2.2.2.2.2.1
  by_cases hc : ((0 ≤ a ∧ a < 6) ∧ (0 ≤ b ∧ b < 6) ∧ a ≠ b) ∧ 0 ≤ f ∧ e ≤ 9999 ∧ f ≤ e
  · have hc2 : ((0 ≤ a ∧ a ≤ 5) ∧ (0 ≤ b ∧ b ≤ 5) ∧ a ≠ b) ∧ (0 ≤ f ∧ f ≤ 9999) ∧ (0 ≤ e ∧ e ≤ 9999) ∧ f ≤ e := ⟨⟨(e6 a).mpr hc.1.1, (e6 b).mpr hc.1.2.1, hc.1.2.2⟩, brk_iff.mp hc.2⟩
    by_cases hk2 : k < 20
    · obtain ⟨⟨ha, hb, hab⟩, hd⟩ := hc
      obtain ⟨a, ha1, rfl⟩ := ix_lt (n := 6) (by decide) ha
      obtain ⟨b, hb1, rfl⟩ := ix_lt (n := 6) (by decide) hb
      refine LC.of (x_breaks ha1 hb1 (fun z => hab (by rw [z])) hd hk.1 hk2) (m_breaks (k := k) ha1 hb1 (fun z => hab (by rw [z])) hc2.2 (by simp [mbrk, xbrk, u3, hk.2.1]) hk2) ?_
      refine h.net (T := T) (n := n) (m := m) (lo := lo) (kk := k + 1) (fun q z1 z2 z3 => ?_) (fun b hb => ?_) (fun j z => ?_) (hN.brk hk2 _ _ _)
      · have d : ∀ c, kNet c = true → q ≠ c := fun c hc e => by rw [e, hc] at z1; cases z1
        unfold mbrk xbrk
        rw [u3_kk _ _ z3, u3_kk _ _ (d 93 rfl), u3_kk _ _ (d 92 rfl), u3_kk _ _ (d 91 rfl), u3_kk _ _ (d 2 rfl), u3_kk _ _ (d 23 rfl), u3_kk _ _ (d 22 rfl), u3_kk _ _ (d 21 rfl)]
      · simp [mbrk, xbrk, u3]
      · have d : j ≠ 64 := fun e => by rw [e] at z; cases z
        simp [mbrk, xbrk, u3, d]
    · obtain rfl : k = 20 := by omega
      exact LC.of (x_breaks_full hc hk.1) (m_breaks_full hc2 hk.2.1) h
  · exact LC.of (x_breaks_bad hc) (m_breaks_bad (fun z => hc ⟨⟨(e6 a).mp z.1.1, (e6 b).mp z.1.2.1, z.1.2.2⟩, brk_iff.mpr z.2⟩)) h
end L8
