/-! CASES OF THE LAW: door -/
section L19
variable {l : Launch} {σ σ2 : tI} {τ τ2 : tL} {t : Option (Nat × Nat)}
theorem x_door_on {a b q : Nat} (ha : a < 6) (hb : b < 6) (hab : nI a ≠ nI b) (hq : q < 4) (h0 : ¬ σ 9 (1 + q) 0 = 0) : am_D l 112 [aR 11 0, aI (nI a), aI (nI b), aI (nI q)] σ τ (rX t) cX lX (some (aI (σ 31 a b))) (u3 σ 31 a b (nI q)) τ (rX t) := by
  refine am_D_of am_o112 am_l112 rfl ?_
  refine am_vc_ok am_k112 [] 100 ?_
  refine am_vS am_k112 am_h112 rfl rfl rfl rfl (x_isPair) ?_
  refine am_vc_ok am_k112 [] 100 ?_
  refine And.intro (fun g => absurd ⟨in6 ha, in6 hb, hab⟩ (bI_0.mp g)) (fun _ => ?_)
  refine And.intro (fun g => absurd g (n9_4 (by omega))) (fun _ => ?_)
  refine am_vS am_k112 am_h112 rfl rfl rfl rfl (x_within) ?_
  refine am_vc_ok am_k112 [] 100 ?_
  refine And.intro (fun g => absurd (in4 hq) (bI_0.mp g)) (fun _ => ?_)
  refine And.intro (fun g => absurd g (n9_4 (by omega))) (fun _ => ?_)
  refine And.intro (vp_in_nI (N := 4) hq (by decide)) ?_
  rw [nI_clamp (n := q) (by omega)]
  refine And.intro (fun g => absurd g h0) (fun _ => ?_)
  refine And.intro (vp_in_nI (N := 6) ha (by decide)) ?_
  rw [nI_clamp (n := a) (by omega)]
  refine And.intro (vp_in_nI (N := 6) hb (by decide)) ?_
  rw [nI_clamp (n := b) (by omega)]
  refine And.intro (vp_in_nI (N := 6) ha (by decide)) ?_
  rw [nI_clamp (n := a) (by omega)]
  refine And.intro (vp_in_nI (N := 6) hb (by decide)) ?_
  rw [nI_clamp (n := b) (by omega)]
  exact am_vI am_k112 am_r112 rfl ⟨rfl, rfl, rfl, rfl, rfl, rfl⟩
theorem m_door_on {a b q : Nat} (ha : a < 6) (hb : b < 6) (hab : nI a ≠ nI b) (hq : q < 4) (h0 : ¬ σ 49 0 q < 0) : am_D l 198 [aR 12 0, aI (nI a), aI (nI b), aI (nI q)] σ τ (rX t) cX lX (some (aI (σ 59 0 (6 * a + b)))) (u3 σ 59 0 (6 * a + b) (nI q)) τ (rX t) := by
  refine am_D_of am_o198 am_l198 rfl ?_
  refine am_vc_ok am_k198 [] 100 ?_
  refine am_vS am_k198 am_h198 rfl rfl rfl rfl (m_isSix) ?_
  refine am_vc_ok am_k198 [] 100 ?_
  refine And.intro (fun g => absurd (in5 ha) (bI_0.mp g)) (fun _ => ?_)
  refine am_vS am_k198 am_h198 rfl rfl rfl rfl (m_isSix) ?_
  refine am_vc_ok am_k198 [] 100 ?_
  refine And.intro (fun g => absurd (in5 hb) (bI_0.mp g)) (fun _ => ?_)
  refine And.intro (fun g => absurd g hab) (fun _ => ?_)
  refine And.intro (fun g => absurd g (n9_4 (by omega))) (fun _ => ?_)
  refine am_vS am_k198 am_h198 rfl rfl rfl rfl (m_isShape) ?_
  refine am_vc_ok am_k198 [] 100 ?_
  refine And.intro (fun g => absurd (in3 hq) (bI_0.mp g)) (fun _ => ?_)
  refine And.intro (fun g => absurd g (n9_4 (by omega))) (fun _ => ?_)
  refine And.intro (vp_in_nI (N := 4) hq (by decide)) ?_
  rw [nI_clamp (n := q) (by omega)]
  refine And.intro (fun _ => ?_) (fun g => absurd (Int32.not_lt.mp h0) g)
  refine And.intro (by rw [n6]; exact vp_in_nI (N := 36) (by omega) (by decide)) ?_
  rw [n6, nI_clamp (n := 6 * a + b) (by omega)]
  refine And.intro (by rw [n6]; exact vp_in_nI (N := 36) (by omega) (by decide)) ?_
  rw [n6, nI_clamp (n := 6 * a + b) (by omega)]
  exact am_vI am_k198 am_r198 rfl ⟨rfl, rfl, rfl, rfl, rfl, rfl⟩
theorem Rall.doors {σ σ2 : tI} {τ : tL} (h : Rall σ τ) (hk : ∀ k, k ≠ 31 → k ≠ 59 → σ2 k = σ k) (hs : Rserv σ2) : Rall σ2 τ := by
  obtain ⟨h1, h2, h3, h4, -, h6, T, n, m, lo, kk, h7⟩ := h
  have g6 := hk 6 (by decide) (by decide)
  have g30 := hk 30 (by decide) (by decide)
  have g12 := hk 12 (by decide) (by decide)
  have g8 := hk 8 (by decide) (by decide)
  exact ⟨h1.fr (fun r _ => by rw [g6]) (fun r _ => by rw [g30]) (hk 44 (by decide) (by decide)) (hk 45 (by decide) (by decide)), h2.fr (fun r _ => by rw [g6]) (fun r _ => by rw [g30]) (hk 47 (by decide) (by decide)) (hk 48 (by decide) (by decide)), h3.fr (fun k z => hk k (kNe z rfl) (kNe z rfl)), h4.fr (hk 4 (by decide) (by decide)) (hk 55 (by decide) (by decide)) (hk 56 (by decide) (by decide)) (by rw [g6]) (by rw [g30]) (by rw [g12]), hs, h6.fr (hk 11 (by decide) (by decide)) (hk 42 (by decide) (by decide)) (hk 43 (by decide) (by decide)) (by rw [g12]) (by rw [g12]), T, n, m, lo, kk, h7.fr (fun k z => hk k (kNe z rfl) (kNe z rfl)) (fun j _ => by rw [g12]) (fun a j _ _ => by rw [g8])⟩
theorem Rshapes.there {s : Nat} (h : Rshapes σ) (hs : s < 4) : (σ 9 (1 + s) 0 = 0 ∧ σ 49 0 s = -9) ∨ (σ 9 (1 + s) 0 = 1 ∧ ∃ n, n ≤ 12 ∧ σ 49 0 s = nI n) := by
  rcases h s hs with h1 | ⟨S, h1, h2, h3, h4, -⟩
  · exact Or.inl h1
  · exact Or.inr ⟨h2, sN S, h1.1, h4⟩
theorem Rserv.set {a b : Nat} {v : Int32} (h : Rserv σ) (ha : a < 6) (hb : b < 6) (hv : v = -9 ∨ ∃ s, s < 4 ∧ v = nI s ∧ σ 49 0 s ≠ -9 ∧ a ≠ b) : Rserv (u3 (u3 σ 31 a b v) 59 0 (6 * a + b) v) := by
  intro c hc
  obtain ⟨g1, g2⟩ := h c hc
  refine ⟨?_, fun d hd => ?_⟩
  · simpa [u3] using g1
  · by_cases e : c = a ∧ d = b
    · obtain ⟨rfl, rfl⟩ := e
      refine ⟨by simp [u3], ?_⟩
      rcases hv with hv | ⟨s, s1, s2, s3, s4⟩
      · exact Or.inl (by simp [u3, hv])
      · exact Or.inr ⟨s, s1, by simp [u3, s2], by simpa [u3] using s3, s4⟩
    · have e1 : u3 (u3 σ 31 a b v) 59 0 (6 * a + b) v 31 c d = σ 31 c d := by
        by_cases e2 : c = a
        · have e3 : d ≠ b := fun z => e ⟨e2, z⟩
          simp [u3, e3]
        · simp [u3, e2]
      have e2 : u3 (u3 σ 31 a b v) 59 0 (6 * a + b) v 59 0 (6 * c + d) = σ 59 0 (6 * c + d) := by
        have e3 : 6 * c + d ≠ 6 * a + b := fun z => e ⟨by omega, by omega⟩
        simp [u3, e3]
      have e3 : ∀ s, u3 (u3 σ 31 a b v) 59 0 (6 * a + b) v 49 0 s = σ 49 0 s := fun s => by simp [u3]
      rw [e1, e2]
      refine ⟨(g2 d hd).1, ?_⟩
      rcases (g2 d hd).2 with z | ⟨s, s1, s2, s3, s4⟩
      · exact Or.inl z
      · exact Or.inr ⟨s, s1, s2, by rw [e3]; exact s3, s4⟩
theorem LC_door (h : Rall σ τ) (a b s : Int32) : LC l 112 198 [aI a, aI b, aI s] σ τ t := by
  by_cases hp : (0 ≤ a ∧ a < 6) ∧ (0 ≤ b ∧ b < 6) ∧ a ≠ b
  · obtain ⟨ha, hb, hab⟩ := hp
    by_cases h9 : s = -9
    · subst h9
      obtain ⟨i, hi, rfl⟩ := ix_lt (n := 6) (by decide) ha
      obtain ⟨j, hj, rfl⟩ := ix_lt (n := 6) (by decide) hb
      have hm := m_door_off (l := l) (σ := u3 σ 31 i j (-9)) (τ := τ) (t := t) hi hj hab
      rw [show u3 σ 31 i j (-9) 59 0 (6 * i + j) = σ 31 i j from (by simp [u3, ((h.2.2.2.2.1 i hi).2 j hj).1])] at hm
      refine LC.of (x_door_off hi hj hab) hm ?_
      refine h.doors (fun k a1 a2 => ?_) (h.2.2.2.2.1.set hi hj (Or.inl rfl))
      rw [u3_kk _ _ a2, u3_kk _ _ a1]
    · by_cases hs : 0 ≤ s ∧ s < 4
      · obtain ⟨q, hq, rfl⟩ := ix_lt (n := 4) (by decide) hs
        rcases h.2.2.1.there hq with ⟨z1, z2⟩ | ⟨z1, n, hn, z2⟩
        · exact LC.of (x_door_none ⟨ha, hb, hab⟩ hq z1) (m_door_none ⟨le5 ha, le5 hb, hab⟩ hq (by show σ 49 0 q < 0; rw [z2]; decide)) (h.find (by decide))
        · obtain ⟨i, hi, rfl⟩ := ix_lt (n := 6) (by decide) ha
          obtain ⟨j, hj, rfl⟩ := ix_lt (n := 6) (by decide) hb
          have hm := m_door_on (l := l) (σ := u3 σ 31 i j (nI q)) (τ := τ) (t := t) hi hj hab hq (by show ¬ σ 49 0 q < 0; rw [z2]; exact nI_pos (by omega))
          rw [show u3 σ 31 i j (nI q) 59 0 (6 * i + j) = σ 31 i j from (by simp [u3, ((h.2.2.2.2.1 i hi).2 j hj).1])] at hm
          refine LC.of (x_door_on hi hj hab hq (by rw [z1]; decide)) hm ?_
          refine h.doors (fun k a1 a2 => ?_) (h.2.2.2.2.1.set hi hj (Or.inr ⟨q, hq, rfl, by rw [z2]; exact n9_4 (by omega), fun z => hab (by rw [z])⟩))
          rw [u3_kk _ _ a2, u3_kk _ _ a1]
      · exact LC.of (x_door_bad (Or.inr ⟨h9, hs⟩)) (m_door_bad (Or.inr ⟨h9, not4 hs⟩)) h
  · have h2 : ¬ ((0 ≤ a ∧ a ≤ 5) ∧ (0 ≤ b ∧ b ≤ 5) ∧ a ≠ b) := by
      rintro ⟨g1, g2, g3⟩
      by_cases k1 : 0 ≤ a ∧ a < 6
      · by_cases k2 : 0 ≤ b ∧ b < 6
        · exact hp ⟨k1, k2, g3⟩
        · exact not6 k2 g2
      · exact not6 k1 g1
    exact LC.of (x_door_bad (Or.inl hp)) (m_door_bad (Or.inl h2)) h
end L19
