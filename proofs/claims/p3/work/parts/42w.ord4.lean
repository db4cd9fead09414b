/-! the model's setOrders: what leads on; order, orderAt, putIn -/
section L40
variable {l : Launch} {σ σ2 : tI} {τ τ2 : tL} {t : Option (Nat × Nat)}
def lsP (σ : tI) (c k a : Nat) : Prop := k = c ∨ ∃ x, x < a ∧ mb k x = false ∧ mb c x = true ∧ σ 61 0 (ad k x) = 1
theorem lsP_s {c k a : Nat} : lsP σ c k (a + 1) ↔ lsP σ c k a ∨ (mb k a = false ∧ mb c a = true ∧ σ 61 0 (ad k a) = 1) := by
  constructor
  · rintro (h | ⟨x, hx, h1, h2⟩)
    · exact Or.inl (Or.inl h)
    · by_cases e : x = a
      · rw [e] at h1 h2; exact Or.inr ⟨h1, h2⟩
      · exact Or.inl (Or.inr ⟨x, by omega, h1, h2⟩)
  · rintro ((h | ⟨x, hx, h1, h2⟩) | ⟨h1, h2⟩)
    · exact Or.inl h
    · exact Or.inr ⟨x, by omega, h1, h2⟩
    · exact Or.inr ⟨a, by omega, h1, h2⟩
theorem m_so_j {Q : tQ} {k c : Nat} (hk : k < 64) (hc : c < 64) (h01 : ∀ s, k < s → s < 64 → σ 61 0 s = 0 ∨ σ 61 0 s = 1) (K : am_G l 204 Q 0 0 213 [(3, aI (nI 6)), (2, aI (nI k)), (1, aI (nI c)), (0, aR 12 0)] [] (u3 σ 61 0 k (cI (lsP σ c k 6))) τ (rX t) cX lX) : ∀ (d a : Nat) (w : Int32), a + d = 6 → w = cI (lsP σ c k a) → am_G l 204 Q 0 0 152 [(3, aI (nI a)), (2, aI (nI k)), (1, aI (nI c)), (0, aR 12 0)] [] (u3 σ 61 0 k w) τ (rX t) cX lX
  | 0, a, w, h, hw => by
    obtain rfl : a = 6 := by omega
    rw [hw]
    refine am_vc_ok am_k204 [152, 213] 100 ?_
    exact And.intro (fun _ => K) (fun h1 => absurd (show (6 : Int32) ≤ nI 6 by decide) h1)
  | d + 1, a, w, h, hw => by
    have ha : a < 6 := by omega
    have q1 : u3 σ 61 0 k w 61 0 k = w := by simp [u3]
    refine am_vc_ok am_k204 [152, 213] 100 ?_
    refine And.intro (fun h1 => absurd h1 (nI_ge (b := 6) (by omega) (by decide))) (fun _ => ?_)
    refine And.intro (vp_in_nI (N := 64) hk (by decide)) ?_
    rw [nI_clamp (n := k) (by omega), q1]
    have fin : ∀ v : Int32, v = cI (lsP σ c k (a + 1)) → am_G l 204 Q 0 0 152 [(3, aI (nI a + 1)), (2, aI (nI k)), (1, aI (nI c)), (0, aR 12 0)] [] (u3 (u3 σ 61 0 k w) 61 0 k v) τ (rX t) cX lX := by
      intro v hv
      rw [u3_tw, show nI a + 1 = nI (a + 1) from nI_1 a]
      exact m_so_j hk hc h01 K d (a + 1) v (by omega) hv
    refine And.intro (fun e => ?_) (fun e => ?_)
    · have e : w = 0 := e
      rw [hw] at e
      have e := cI_0.mp e
      refine am_vS am_k204 am_h204 rfl rfl rfl rfl (m_has) ?_
      refine am_vc_ok am_k204 [152, 213] 100 ?_
      refine And.intro (fun g => ?_) (fun g => ?_)
      · have g : mb k a = false := Bool.eq_false_iff.mpr (fun z => bI_0.mp g ((has_mb k hk a ha).mpr z))
        refine am_vS am_k204 am_h204 rfl rfl rfl rfl (m_has) ?_
        refine am_vc_ok am_k204 [152, 213] 100 ?_
        refine And.intro (fun g2 => ?_) (fun g2 => ?_)
        · have g2 := bI_0.mp g2
          refine And.intro (⟨vp_in_nI (N := 64) hk (by decide), Or.inl rfl⟩) ?_
          rw [nI_clamp (n := k) (by omega)]
          exact fin 0 (cI_f (fun z => (lsP_s.mp z).elim e (fun y => g2 ((has_mb c hc a ha).mpr y.2.1)))).symm
        · have g2 := (has_mb c hc a ha).mp (bI_1.mp g2)
          have hd := ad_gt k hk a ha g
          have hd2 := ad_lt k hk a ha
          have q2 : u3 σ 61 0 k w 61 0 (ad k a) = σ 61 0 (ad k a) := by rw [u3_j _ _ (by omega)]
          refine And.intro (by rw [or_ad k hk a ha]; exact vp_in_nI (N := 64) (by omega) (by decide)) ?_
          rw [or_ad k hk a ha, nI_clamp (n := ad k a) (by omega), q2]
          refine And.intro (fun y => ?_) (fun y => ?_)
          · have y : σ 61 0 (ad k a) = 0 := y
            refine And.intro (⟨vp_in_nI (N := 64) hk (by decide), Or.inl rfl⟩) ?_
            rw [nI_clamp (n := k) (by omega)]
            exact fin 0 (cI_f (fun z => (lsP_s.mp z).elim e (fun x => absurd (y.symm.trans x.2.2) (by decide)))).symm
          · have y : ¬ σ 61 0 (ad k a) = 0 := y
            refine And.intro (⟨vp_in_nI (N := 64) hk (by decide), Or.inr rfl⟩) ?_
            rw [nI_clamp (n := k) (by omega)]
            exact fin 1 (cI_t (lsP_s.mpr (Or.inr ⟨g, g2, (h01 _ hd hd2).resolve_left y⟩))).symm
      · have g := (has_mb k hk a ha).mp (bI_1.mp g)
        refine And.intro (⟨vp_in_nI (N := 64) hk (by decide), Or.inl rfl⟩) ?_
        rw [nI_clamp (n := k) (by omega)]
        exact fin 0 (cI_f (fun z => (lsP_s.mp z).elim e (fun y => absurd (g.symm.trans y.1) (by decide)))).symm
    · have e : ¬ w = 0 := e
      rw [hw] at e
      have e := cI_n0.mp e
      refine And.intro (⟨vp_in_nI (N := 64) hk (by decide), Or.inr rfl⟩) ?_
      rw [nI_clamp (n := k) (by omega)]
      exact fin 1 (cI_t (lsP_s.mpr (Or.inl e))).symm
/-- sets from n on are told -/
def slP (σ σ' : tI) (c n : Nat) : Prop := (∀ q, q ≠ 61 → σ' q = σ q) ∧ (∀ s, n ≤ s → s < 64 → σ' 61 0 s = 0 ∨ σ' 61 0 s = 1) ∧ ∀ s, n ≤ s → s < 64 → (σ' 61 0 s = 1 ↔ σ 60 0 s = 1 ∧ (s = c ∨ ∃ a, a < 6 ∧ mb s a = false ∧ mb c a = true ∧ σ' 61 0 (ad s a) = 1))
theorem slP_s {σ' : tI} {k c : Nat} (hk : k < 64) (h : slP σ σ' c (k + 1)) {v : Int32} (hv : v = cI (lsP σ' c k 6 ∧ σ 60 0 k = 1)) : slP σ (u3 σ' 61 0 k v) c k := by
  obtain ⟨h1, h2, h3⟩ := h
  have e1 : ∀ s, s ≠ k → u3 σ' 61 0 k v 61 0 s = σ' 61 0 s := fun s hs => by rw [u3_j _ _ hs]
  have e2 : u3 σ' 61 0 k v 61 0 k = v := by simp [u3]
  refine ⟨fun q hq => by rw [u3_kk _ _ hq]; exact h1 q hq, fun s hs hs2 => ?_, fun s hs hs2 => ?_⟩
  · by_cases e : s = k
    · rw [e, e2, hv]; exact cI_01
    · rw [e1 s e]; exact h2 s (by omega) hs2
  · by_cases e : s = k
    · subst e
      have z : lsP σ' c s 6 ↔ (s = c ∨ ∃ a, a < 6 ∧ mb s a = false ∧ mb c a = true ∧ u3 σ' 61 0 s v 61 0 (ad s a) = 1) := by
        unfold lsP
        refine or_congr_right (exists_congr fun a => and_congr_right fun ha => and_congr_right fun hm => and_congr_right fun _ => ?_)
        rw [e1 _ (by have := ad_gt s hk a ha hm; omega)]
      have y : v = 1 ↔ (lsP σ' c s 6 ∧ σ 60 0 s = 1) := by
        rw [hv]
        exact cI_1
      rw [e2, y, z]
      exact And.comm
    · rw [e1 s e, h3 s (by omega) hs2]
      refine and_congr_right fun _ => or_congr_right (exists_congr fun a => and_congr_right fun ha => and_congr_right fun hm => and_congr_right fun _ => ?_)
      rw [e1 _ (by have := ad_gt s hs2 a ha hm; omega)]
theorem m_so_2 {Q : tQ} {c : Nat} (hc : c < 64) (h60 : ∀ s, s < 64 → σ 60 0 s = 0 ∨ σ 60 0 s = 1) (K : ∀ σ', slP σ σ' c 0 → am_G l 204 Q 0 0 248 [(2, aI (-1)), (1, aI (nI c)), (0, aR 12 0)] [] σ' τ (rX t) cX lX) : ∀ (d : Nat) (v : Int32) (σ' : tI), d ≤ 64 → v = nI d - 1 → slP σ σ' c d → am_G l 204 Q 0 0 130 [(2, aI v), (1, aI (nI c)), (0, aR 12 0)] [] σ' τ (rX t) cX lX
  | 0, v, σ', h, hv, hP => by
    obtain rfl : v = -1 := hv
    refine am_vc_ok am_k204 [130, 248] 100 ?_
    exact And.intro (fun _ => K σ' hP) (fun h1 => absurd (by decide) h1)
  | k + 1, v, σ', h, hv, hP => by
    have hk : k < 64 := by omega
    obtain rfl : v = nI k := by rw [hv, ← nI_1 k]; simp
    have fin : ∀ v w : Int32, v = cI (lsP σ' c k 6 ∧ σ 60 0 k = 1) → am_G l 204 Q 0 0 130 [(2, aI (nI k + (-1))), (3, aI (nI 6)), (1, aI (nI c)), (0, aR 12 0)] [] (u3 (u3 σ' 61 0 k w) 61 0 k v) τ (rX t) cX lX := by
      intro v w hv
      rw [u3_tw]
      exact am_Gp [0, 2, 3] rfl (m_so_2 hc h60 K k _ _ (by omega) (by rw [Int32.sub_eq_add_neg]) (slP_s hk hP hv))
    have mid : ∀ w : Int32, w = cI (lsP σ' c k 0) → am_G l 204 Q 0 0 152 [(3, aI (nI 0)), (2, aI (nI k)), (1, aI (nI c)), (0, aR 12 0)] [] (u3 σ' 61 0 k w) τ (rX t) cX lX := by
      intro w hw
      refine m_so_j hk hc (fun s hs hs2 => hP.2.1 s hs hs2) ?_ 6 0 w (by omega) hw
      generalize hz : cI (lsP σ' c k 6) = z
      have q1 : u3 σ' 61 0 k z 61 0 k = z := by simp [u3]
      have q2 : u3 σ' 61 0 k z 60 0 k = σ 60 0 k := by rw [u3_k _ _ (by decide), hP.1 60 (by decide)]
      refine am_vc_ok am_k204 [130] 100 ?_
      refine And.intro (vp_in_nI (N := 64) hk (by decide)) ?_
      rw [nI_clamp (n := k) (by omega), q1]
      refine And.intro (fun e => ?_) (fun e => ?_)
      · have e : z = 0 := e
        rw [← hz] at e
        have e := cI_0.mp e
        refine And.intro (⟨vp_in_nI (N := 64) hk (by decide), Or.inl rfl⟩) ?_
        rw [nI_clamp (n := k) (by omega)]
        exact fin 0 z (cI_f (fun y => e y.1)).symm
      · have e : ¬ z = 0 := e
        rw [← hz] at e
        have e := cI_n0.mp e
        refine And.intro (vp_in_nI (N := 64) hk (by decide)) ?_
        rw [nI_clamp (n := k) (by omega), q2]
        refine And.intro (fun y => ?_) (fun y => ?_)
        · have y : σ 60 0 k = 0 := y
          refine And.intro (⟨vp_in_nI (N := 64) hk (by decide), Or.inl rfl⟩) ?_
          rw [nI_clamp (n := k) (by omega)]
          exact fin 0 z (cI_f (fun x => absurd (y.symm.trans x.2) (by decide))).symm
        · have y : ¬ σ 60 0 k = 0 := y
          refine And.intro (⟨vp_in_nI (N := 64) hk (by decide), Or.inr rfl⟩) ?_
          rw [nI_clamp (n := k) (by omega)]
          exact fin 1 z (cI_t ⟨e, (h60 k hk).resolve_left y⟩).symm
    refine am_vc_ok am_k204 [130, 152, 248] 100 ?_
    refine And.intro (fun h1 => absurd h1 (nI_pos (by omega))) (fun _ => ?_)
    refine And.intro (fun e => ?_) (fun e => ?_)
    · have e0 : k = c := nI_inj' (by omega) (by omega) e
      refine And.intro (⟨vp_in_nI (N := 64) hk (by decide), Or.inr rfl⟩) ?_
      rw [nI_clamp (n := k) (by omega)]
      exact mid 1 (cI_t (Or.inl e0)).symm
    · have e0 : ¬ k = c := fun z => e (by rw [z])
      refine And.intro (⟨vp_in_nI (N := 64) hk (by decide), Or.inl rfl⟩) ?_
      rw [nI_clamp (n := k) (by omega)]
      exact mid 0 (cI_f (fun z => z.elim e0 (fun ⟨x, hx, _⟩ => absurd hx (by omega)))).symm
/-- what setOrders leaves -/
def soQ (σ s2 : tI) : Prop := (∀ q, q ≠ 60 → q ≠ 61 → s2 q = σ q) ∧ (∀ s, s < 64 → (s2 60 0 s = 0 ∨ s2 60 0 s = 1) ∧ (s2 61 0 s = 0 ∨ s2 61 0 s = 1)) ∧ CMr (fsS σ) (fun s => s2 60 0 s = 1) ∧ LDr (fun s => s2 60 0 s = 1) (fun s => s2 61 0 s = 1) (chS σ)
theorem m_setOrders (hD : DrOK σ) : am_T l 204 [aR 12 0] σ τ t (fun r s2 τ2 t2 => r = none ∧ τ2 = τ ∧ t2 = t ∧ soQ σ s2) := by
  refine am_T_of am_o204 am_l204 rfl ?_
  refine am_vc_ok am_k204 [7] 100 ?_
  refine am_vO am_k204 am_h204 rfl rfl rfl rfl (m_changed) ?_
  refine am_vc_ok am_k204 [7] 100 ?_
  refine m_so_1 hD ?_ 64 0 σ (by omega) ⟨fun _ _ => rfl, fun s hs => absurd hs (by omega), fun s hs => absurd hs (by omega)⟩
  intro σ1 h1
  refine am_vc_ok am_k204 [130] 100 ?_
  refine m_so_2 (c := chS σ) chS_lt (fun s hs => h1.2.1 s hs) ?_ 64 _ σ1 (by omega) rfl ⟨fun _ _ => rfl, fun s hs hs2 => absurd hs (by omega), fun s hs hs2 => absurd hs (by omega)⟩
  intro σ' h2
  refine am_vc_ok am_k204 [] 100 ?_
  refine am_vV am_k204 am_r204 rfl ⟨t, rfl, rfl, rfl, rfl, rfl, rfl, ?_⟩
  have e60 : σ' 60 = σ1 60 := h2.1 60 (by decide)
  refine ⟨fun q a1 a2 => (h2.1 q a2).trans (h1.1 q a1), fun s hs => ⟨by rw [e60]; exact h1.2.1 s hs, h2.2.1 s (by omega) hs⟩, fun s hs => ?_, fun s hs => ?_⟩
  · show σ' 60 0 s = 1 ↔ _ ∧ (_ ∨ ∃ a, a < 6 ∧ mb s a = true ∧ σ' 60 0 (dl s a) = 1)
    rw [e60]
    exact h1.2.2 s hs
  · show σ' 61 0 s = 1 ↔ σ' 60 0 s = 1 ∧ _
    rw [e60]
    exact h2.2.2 s (by omega) hs
end L40
