/-! the model's orderAt, putIn; the class's barUnless, barSets -/
section L42
variable {l : Launch} {σ σ2 : tI} {τ τ2 : tL} {t : Option (Nat × Nat)}
theorem m_oa_bad {i : Int32} (hi : i < 0) : am_D l 206 [aR 12 0, aI i] σ τ (rX t) cX lX (some (aI (-1))) σ τ (rX t) := by
  refine am_D_of am_o206 am_l206 rfl ?_
  refine am_vc_ok am_k206 [] 100 ?_
  refine And.intro (fun g => absurd hi (Int32.not_lt.mpr g)) (fun _ => ?_)
  exact am_vI am_k206 am_r206 rfl ⟨rfl, rfl, rfl, rfl, rfl, rfl⟩
theorem m_oa_no {i : Int32} (hi : 0 ≤ i) (hD : DrOK σ) (h0 : ¬ fitS σ 0) : am_D l 206 [aR 12 0, aI i] σ τ (rX t) cX lX (some (aI (-4))) σ τ (rX t) := by
  refine am_D_of am_o206 am_l206 rfl ?_
  refine am_vc_ok am_k206 [] 100 ?_
  refine And.intro (fun _ => ?_) (fun g => absurd hi g)
  refine am_vO am_k206 am_h206 rfl rfl rfl rfl (m_allFit (s := 0) (by decide) hD) ?_
  refine am_vc_ok am_k206 [] 100 ?_
  refine And.intro (fun _ => ?_) (fun e => absurd (cI_n0.mp e) h0)
  exact am_vI am_k206 am_r206 rfl ⟨rfl, rfl, rfl, rfl, rfl, rfl⟩
abbrev oaI (s2 : tI) (c : Nat) (i : Int32) : Prop := s2 61 0 0 = 1 ∧ i < nI (pc c)
theorem m_oa {i : Int32} (hi : 0 ≤ i) (hD : DrOK σ) (h0 : fitS σ 0) : am_T l 206 [aR 12 0, aI i] σ τ t (fun r s3 τ2 t2 => τ2 = τ ∧ t2 = t ∧ soQ σ s3 ∧ r = some (aI (if oaI s3 (chS σ) i then nI (nxt (pM (fun s => s3 61 0 s = 1) (chS σ)) (gset (pM (fun s => s3 61 0 s = 1) (chS σ)) i.toNatClampNeg)) else -9))) := by
  refine am_T_of am_o206 am_l206 rfl ?_
  refine am_vc_ok am_k206 [52] 100 ?_
  refine And.intro (fun _ => ?_) (fun g => absurd hi g)
  refine am_vO am_k206 am_h206 rfl rfl rfl rfl (m_allFit (s := 0) (by decide) hD) ?_
  refine am_vc_ok am_k206 [52] 100 ?_
  refine And.intro (fun e => absurd h0 (cI_0.mp e)) (fun _ => ?_)
  refine am_vOT am_k206 am_h206 rfl rfl rfl rfl (m_setOrders hD) ?_
  rintro r s2 τ2 t2 ⟨rfl, rfl, rfl, hQ⟩
  refine am_vc_ok am_k206 [52] 100 ?_
  refine And.intro (vp_in_nI (N := 64) (show 0 < 64 by decide) (by decide)) ?_
  refine And.intro (fun e => ?_) (fun e => ?_)
  · have e : s2 61 0 0 = 0 := e
    refine am_vI am_k206 am_r206 rfl ⟨t2, rfl, rfl, rfl, rfl, rfl, hQ, ?_⟩
    rw [if_neg (fun z => absurd (e.symm.trans z.1) (by decide))]
  · have e : ¬ s2 61 0 0 = 0 := e
    have e1 := ((hQ.2.1 0 (by decide)).2).resolve_left e
    have hch := m_changed (l := l) (σ := s2) (τ := τ2) (t := t2)
    rw [hQ.ch] at hch
    refine am_vO am_k206 am_h206 rfl rfl rfl rfl (hch) ?_
    refine am_vc_ok am_k206 [52] 100 ?_
    refine am_vS am_k206 am_h206 rfl rfl rfl rfl (m_bits chS_lt) ?_
    refine am_vc_ok am_k206 [52] 100 ?_
    refine And.intro (fun g => ?_) (fun g => ?_)
    · have g : i < nI (pc (chS σ)) := g
      have p6 := pc_6 (chS σ) chS_lt
      obtain ⟨j, hj, rfl⟩ := ix_lt (nI_toInt (by omega)) ⟨hi, g⟩
      have hc64 : chS σ < 64 := chS_lt
      have hL := hQ.2.2.2
      refine am_Gp (ls2 := [(4, aI (nI 0)), (3, aI (-9)), (2, aI (nI (gset (pM (fun s => s2 61 0 s = 1) (chS σ)) 0))), (1, aI (nI j)), (0, aR 12 0)]) [0, 1, 2, 4, 3] rfl ?_
      refine m_oa_lp (by omega) hQ.ch (fun s hs => (hQ.2.1 s hs).2) (fun k hk => ?_) ?_ (j + 1) 0 _ (by omega) (fun k' hk => absurd hk (by omega))
      · obtain ⟨g1, g2, g3⟩ := gs_inv hL e1 k (by omega)
        exact ⟨g1, gs_ex hL g1 g2 (by omega)⟩
      · refine ⟨t2, rfl, rfl, rfl, rfl, rfl, hQ, ?_⟩
        rw [if_pos ⟨e1, g⟩, nI_clamp (by omega)]
    · have g : ¬ i < nI (pc (chS σ)) := g
      refine am_vI am_k206 am_r206 rfl ⟨t2, rfl, rfl, rfl, rfl, rfl, hQ, ?_⟩
      rw [if_neg (fun z => g z.2)]
theorem m_putIn_bad {a : Int32} (ha : ¬ (0 ≤ a ∧ a ≤ 5)) : am_D l 207 [aR 12 0, aI a] σ τ (rX t) cX lX (some (aI (-1))) σ τ (rX t) := by
  refine am_D_of am_o207 am_l207 rfl ?_
  refine am_vc_ok am_k207 [] 100 ?_
  refine am_vS am_k207 am_h207 rfl rfl rfl rfl (m_isSix) ?_
  refine am_vc_ok am_k207 [] 100 ?_
  refine And.intro (fun h => ?_) (fun h => ?_)
  · exact am_vI am_k207 am_r207 rfl ⟨rfl, rfl, rfl, rfl, rfl, rfl⟩
  · exact absurd (bI_1.mp h) ha
theorem p2_lt : ∀ a, a < 6 → 2 ^ a < 64 := by decide +kernel
theorem m_putIn_no {a : Nat} (ha : a < 6) (hD : DrOK σ) (h0 : ¬ fitS σ (2 ^ a)) : am_D l 207 [aR 12 0, aI (nI a)] σ τ (rX t) cX lX (some (aI (-4))) σ τ (rX t) := by
  have hA := m_allFit (l := l) (τ := τ) (t := t) (p2_lt a ha) hD
  rw [← shl_2 a ha] at hA
  refine am_D_of am_o207 am_l207 rfl ?_
  refine am_vc_ok am_k207 [] 100 ?_
  refine am_vS am_k207 am_h207 rfl rfl rfl rfl (m_isSix) ?_
  refine am_vc_ok am_k207 [] 100 ?_
  refine And.intro (fun g => absurd (in5 ha) (bI_0.mp g)) (fun _ => ?_)
  refine am_vO am_k207 am_h207 rfl rfl rfl rfl (hA) ?_
  refine am_vc_ok am_k207 [] 100 ?_
  refine And.intro (fun _ => ?_) (fun e => absurd (cI_n0.mp e) h0)
  exact am_vI am_k207 am_r207 rfl ⟨rfl, rfl, rfl, rfl, rfl, rfl⟩
theorem m_putIn {a : Nat} (ha : a < 6) (hD : DrOK σ) (h0 : fitS σ (2 ^ a)) : am_D l 207 [aR 12 0, aI (nI a)] σ τ (rX t) cX lX (some (aI 1)) (u3 σ 57 0 a (σ 58 0 a)) τ (rX t) := by
  have hA := m_allFit (l := l) (τ := τ) (t := t) (p2_lt a ha) hD
  rw [← shl_2 a ha] at hA
  refine am_D_of am_o207 am_l207 rfl ?_
  refine am_vc_ok am_k207 [] 100 ?_
  refine am_vS am_k207 am_h207 rfl rfl rfl rfl (m_isSix) ?_
  refine am_vc_ok am_k207 [] 100 ?_
  refine And.intro (fun g => absurd (in5 ha) (bI_0.mp g)) (fun _ => ?_)
  refine am_vO am_k207 am_h207 rfl rfl rfl rfl (hA) ?_
  refine am_vc_ok am_k207 [] 100 ?_
  refine And.intro (fun e => absurd h0 (cI_0.mp e)) (fun _ => ?_)
  refine And.intro (vp_in_nI (N := 6) ha (by decide)) ?_
  rw [nI_clamp (n := a) (by omega)]
  refine And.intro (vp_in_nI (N := 6) ha (by decide)) ?_
  rw [nI_clamp (n := a) (by omega)]
  exact am_vI am_k207 am_r207 rfl ⟨rfl, rfl, rfl, rfl, rfl, rfl⟩
/-- allFit of the class is A, and nothing else has changed -/
def afP (σ σ' : tI) (A : Nat → Prop) : Prop := (∀ q, q ≠ 27 → σ' q = σ q) ∧ ∀ s, s < 64 → σ' 27 0 s = cI (A s)
theorem afP.cg {σ' : tI} {A B : Nat → Prop} (h : afP σ σ' A) (hAB : ∀ s, s < 64 → (A s ↔ B s)) : afP σ σ' B := ⟨h.1, fun s hs => (h.2 s hs).trans (cI_cg (hAB s hs))⟩
theorem afP.set {σ' : tI} {A B : Nat → Prop} {k : Nat} {v : Int32} (h : afP σ σ' A) (hk : v = cI (B k)) (hAB : ∀ s, s < 64 → s ≠ k → (A s ↔ B s)) : afP σ (u3 σ' 27 0 k v) B := by
  refine ⟨fun q hq => by rw [u3_kk _ _ hq]; exact h.1 q hq, fun s hs => ?_⟩
  by_cases e : s = k
  · rw [e, u3_eq]; exact hk
  · rw [u3_j _ _ e, h.2 s hs]; exact cI_cg (hAB s hs e)
theorem x_barU_lp {Q : tQ} {A : Nat → Prop} {bo p f a b : Int32} (K : ∀ σ', afP σ σ' (fun s => A s ∧ ¬ nI s &&& bo = p) → am_G l 48 Q 0 0 62 [(6, aI (nI 64)), (5, aI bo), (0, aR 5 0), (1, aI f), (2, aI a), (3, aI b), (4, aI p)] [] σ' τ (rX t) cX lX) : ∀ (d k : Nat) (σ' : tI), k + d = 64 → afP σ σ' (fun s => A s ∧ (s < k → ¬ nI s &&& bo = p)) → am_G l 48 Q 0 0 17 [(6, aI (nI k)), (5, aI bo), (0, aR 5 0), (1, aI f), (2, aI a), (3, aI b), (4, aI p)] [] σ' τ (rX t) cX lX
  | 0, k, σ', h, hP => by
    obtain rfl : k = 64 := by omega
    refine am_vc_ok am_k48 [17, 62] 100 ?_
    exact And.intro (fun _ => K σ' (hP.cg fun s hs => and_congr_right fun _ => ⟨fun z => z hs, fun z _ => z⟩)) (fun h1 => absurd (show (64 : Int32) ≤ nI 64 by decide) h1)
  | d + 1, k, σ', h, hP => by
    have hk : k < 64 := by omega
    have hv : σ' 27 0 k = cI (A k) := (hP.2 k hk).trans (cI_cg ⟨fun z => z.1, fun z => ⟨z, fun y => absurd y (by omega)⟩⟩)
    have fin : ∀ v : Int32, v = cI (A k ∧ ¬ nI k &&& bo = p) → am_G l 48 Q 0 0 17 [(6, aI (nI k + 1)), (5, aI bo), (0, aR 5 0), (1, aI f), (2, aI a), (3, aI b), (4, aI p)] [] (u3 σ' 27 0 k v) τ (rX t) cX lX := by
      intro v hv
      rw [show nI k + 1 = nI (k + 1) from nI_1 k]
      refine x_barU_lp K d (k + 1) _ (by omega) (hP.set (hv.trans (cI_cg (and_congr_right fun _ => ⟨fun z _ => z, fun z => z (by omega)⟩))) (fun s hs e => and_congr_right fun _ => ⟨fun z y => z (by omega), fun z y => z (by omega)⟩))
    refine am_vc_ok am_k48 [17, 62] 100 ?_
    refine And.intro (fun h1 => absurd h1 (nI_ge (b := 64) (by omega) (by decide))) (fun _ => ?_)
    refine And.intro (vp_in_nI (N := 64) hk (by decide)) ?_
    rw [nI_clamp (n := k) (by omega), hv]
    refine And.intro (fun e => ?_) (fun e => ?_)
    · have e := cI_0.mp e
      refine And.intro (⟨vp_in_nI (N := 64) hk (by decide), Or.inl rfl⟩) ?_
      rw [nI_clamp (n := k) (by omega)]
      exact fin 0 (cI_f (fun z => e z.1)).symm
    · have e := cI_n0.mp e
      refine And.intro (fun g => ?_) (fun g => ?_)
      · have g : nI k &&& bo = p := g
        refine And.intro (⟨vp_in_nI (N := 64) hk (by decide), Or.inl rfl⟩) ?_
        rw [nI_clamp (n := k) (by omega)]
        exact fin 0 (cI_f (fun z => z.2 g)).symm
      · have g : ¬ nI k &&& bo = p := g
        refine And.intro (⟨vp_in_nI (N := 64) hk (by decide), Or.inr rfl⟩) ?_
        rw [nI_clamp (n := k) (by omega)]
        exact fin 1 (cI_t ⟨e, g⟩).symm
theorem x_barU {A : Nat → Prop} {F : Prop} [Decidable F] {p : Int32} {a b : Nat} (hA : ∀ s, s < 64 → σ 27 0 s = cI (A s)) : am_T l 48 [aR 5 0, aI (bI F), aI (nI a), aI (nI b), aI p] σ τ t (fun r s2 τ2 t2 => r = none ∧ τ2 = τ ∧ t2 = t ∧ afP σ s2 (fun s => A s ∧ (F ∨ ¬ nI s &&& (((1 : Int32) <<< (nI a &&& 31)) ||| ((1 : Int32) <<< (nI b &&& 31))) = p))) := by
  refine am_T_of am_o48 am_l48 rfl ?_
  refine am_vc_ok am_k48 [17] 100 ?_
  refine And.intro (fun e => ?_) (fun e => ?_)
  · have e := bI_0.mp e
    refine am_Gp (ls2 := [(6, aI (nI 0)), (5, aI (((1 : Int32) <<< (nI a &&& 31)) ||| ((1 : Int32) <<< (nI b &&& 31)))), (0, aR 5 0), (1, aI (bI F)), (2, aI (nI a)), (3, aI (nI b)), (4, aI p)]) [0, 1, 2, 3, 4, 5, 6] rfl ?_
    refine x_barU_lp (A := A) ?_ 64 0 σ (by omega) ⟨fun _ _ => rfl, fun s hs => (hA s hs).trans (cI_cg ⟨fun z => ⟨z, fun y => absurd y (by omega)⟩, fun z => z.1⟩)⟩
    intro σ' hP
    refine am_vc_ok am_k48 [] 100 ?_
    refine am_vV am_k48 am_r48 rfl ⟨t, rfl, rfl, rfl, rfl, rfl, rfl, hP.cg fun s hs => and_congr_right fun _ => ⟨Or.inr, fun z => z.resolve_left e⟩⟩
  · have e := bI_1.mp e
    refine am_vV am_k48 am_r48 rfl ⟨t, rfl, rfl, rfl, rfl, rfl, rfl, fun _ _ => rfl, fun s hs => (hA s hs).trans (cI_cg ⟨fun z => ⟨z, Or.inl e⟩, fun z => z.1⟩)⟩
end L42
