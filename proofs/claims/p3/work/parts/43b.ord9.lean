/-! the class's search -/
section L45
variable {l : Launch} {σ σ2 : tI} {τ τ2 : tL} {t : Option (Nat × Nat)}
def mrP (σ : tI) (k a : Nat) : Prop := ∃ x, x < a ∧ mb k x = true ∧ σ 28 0 (dl k x) = 1
theorem mrP_s {k a : Nat} : mrP σ k (a + 1) ↔ mrP σ k a ∨ (mb k a = true ∧ σ 28 0 (dl k a) = 1) := by
  constructor
  · rintro ⟨x, hx, h1, h2⟩
    by_cases e : x = a
    · rw [e] at h1 h2; exact Or.inr ⟨h1, h2⟩
    · exact Or.inl ⟨x, by omega, h1, h2⟩
  · rintro (⟨x, hx, h1, h2⟩ | ⟨h1, h2⟩)
    · exact ⟨x, by omega, h1, h2⟩
    · exact ⟨a, by omega, h1, h2⟩
theorem x_mr_i {Q : tQ} {k : Nat} (hk : k < 64) (h01 : ∀ s, s < k → σ 28 0 s = 0 ∨ σ 28 0 s = 1) (K : am_G l 52 Q 0 0 69 [(3, aI (nI 6)), (2, aI (cI (mrP σ k 6))), (1, aI (nI k)), (0, aR 5 0)] [] σ τ (rX t) cX lX) : ∀ (d a : Nat) (w : Int32), a + d = 6 → w = cI (mrP σ k a) → am_G l 52 Q 0 0 24 [(3, aI (nI a)), (2, aI w), (1, aI (nI k)), (0, aR 5 0)] [] σ τ (rX t) cX lX
  | 0, a, w, h, hw => by
    obtain rfl : a = 6 := by omega
    rw [hw]
    refine am_vc_ok am_k52 [24, 69] 100 ?_
    exact And.intro (fun _ => K) (fun h1 => absurd (show (6 : Int32) ≤ nI 6 by decide) h1)
  | d + 1, a, w, h, hw => by
    have ha : a < 6 := by omega
    have fin : ∀ v : Int32, v = cI (mrP σ k (a + 1)) → am_G l 52 Q 0 0 24 [(3, aI (nI a + 1)), (2, aI v), (1, aI (nI k)), (0, aR 5 0)] [] σ τ (rX t) cX lX := by
      intro v hv
      rw [show nI a + 1 = nI (a + 1) from nI_1 a]
      exact x_mr_i hk h01 K d (a + 1) v (by omega) hv
    refine am_vc_ok am_k52 [24, 69] 100 ?_
    refine And.intro (fun h1 => absurd h1 (nI_ge (b := 6) (by omega) (by decide))) (fun _ => ?_)
    refine And.intro (fun e => ?_) (fun e => ?_)
    · have e : w = 0 := e
      rw [hw] at e
      have e := cI_0.mp e
      refine And.intro (fun g => ?_) (fun g => ?_)
      · have g := (x_mb k hk a ha).mp g
        exact am_Gp [0, 1, 2, 3] rfl (fin 0 (cI_f (fun z => (mrP_s.mp z).elim e (fun y => absurd (g.symm.trans y.1) (by decide)))).symm)
      · have g : mb k a = true := by
          cases hg : mb k a with
          | true => rfl
          | false => exact absurd ((x_mb k hk a ha).mpr hg) g
        have hd := dl_lt k hk a ha g
        refine And.intro (by rw [and_dl k hk a ha]; exact vp_in_nI (N := 64) (by omega) (by decide)) ?_
        rw [and_dl k hk a ha, nI_clamp (n := dl k a) (by omega)]
        refine And.intro (fun y => ?_) (fun y => ?_)
        · have y : σ 28 0 (dl k a) = 0 := y
          exact am_Gp [0, 1, 2, 3] rfl (fin 0 (cI_f (fun z => (mrP_s.mp z).elim e (fun x => absurd (y.symm.trans x.2) (by decide)))).symm)
        · have y : ¬ σ 28 0 (dl k a) = 0 := y
          exact am_Gp [0, 1, 2, 3] rfl (fin 1 (cI_t (mrP_s.mpr (Or.inr ⟨g, (h01 _ (by omega)).resolve_left y⟩))).symm)
    · have e : ¬ w = 0 := e
      rw [hw] at e
      have e := cI_n0.mp e
      exact am_Gp [0, 1, 2, 3] rfl (fin 1 (cI_t (mrP_s.mpr (Or.inl e))).symm)
/-- sets below n are told -/
def roP (F : Nat → Prop) (σ σ' : tI) (n : Nat) : Prop := (∀ q, q ≠ 28 → σ' q = σ q) ∧ (∀ s, s < n → σ' 28 0 s = 0 ∨ σ' 28 0 s = 1) ∧ ∀ s, s < n → (σ' 28 0 s = 1 ↔ F s ∧ (s = 0 ∨ ∃ a, a < 6 ∧ mb s a = true ∧ σ' 28 0 (dl s a) = 1))
theorem roP_s {F : Nat → Prop} {σ' : tI} {k : Nat} (hk : k < 64) (h : roP F σ σ' k) {v : Int32} (hv : v = cI ((k = 0 ∨ mrP σ' k 6) ∧ F k)) : roP F σ (u3 σ' 28 0 k v) (k + 1) := by
  obtain ⟨h1, h2, h3⟩ := h
  have e1 : ∀ s, s ≠ k → u3 σ' 28 0 k v 28 0 s = σ' 28 0 s := fun s hs => by rw [u3_j _ _ hs]
  have e2 : u3 σ' 28 0 k v 28 0 k = v := by simp [u3]
  refine ⟨fun q hq => by rw [u3_kk _ _ hq]; exact h1 q hq, fun s hs => ?_, fun s hs => ?_⟩
  · by_cases e : s = k
    · rw [e, e2, hv]; exact cI_01
    · rw [e1 s e]; exact h2 s (by omega)
  · by_cases e : s = k
    · subst e
      have z : mrP σ' s 6 ↔ (∃ a, a < 6 ∧ mb s a = true ∧ u3 σ' 28 0 s v 28 0 (dl s a) = 1) := by
        unfold mrP
        refine exists_congr fun a => and_congr_right fun ha => and_congr_right fun hm => ?_
        rw [e1 _ (by have := dl_lt s hk a ha hm; omega)]
      have y : v = 1 ↔ ((s = 0 ∨ mrP σ' s 6) ∧ F s) := by
        rw [hv]
        exact cI_1
      rw [e2, y, z]
      exact And.comm
    · rw [e1 s e, h3 s (by omega)]
      refine and_congr_right fun _ => or_congr_right (exists_congr fun a => and_congr_right fun ha => and_congr_right fun hm => ?_)
      rw [e1 _ (by have := dl_lt s (by omega) a ha hm; omega)]
theorem x_mr_o {Q : tQ} {F : Nat → Prop} (hF : ∀ s, s < 64 → σ 27 0 s = cI (F s)) (K : ∀ σ', roP F σ σ' 64 → am_G l 52 Q 0 0 99 [(1, aI (nI 64)), (0, aR 5 0)] [] σ' τ (rX t) cX lX) : ∀ (d k : Nat) (σ' : tI), k + d = 64 → 1 ≤ k → roP F σ σ' k → am_G l 52 Q 0 0 14 [(1, aI (nI k)), (0, aR 5 0)] [] σ' τ (rX t) cX lX
  | 0, k, σ', h, h1, hP => by
    obtain rfl : k = 64 := by omega
    refine am_vc_ok am_k52 [14, 99] 100 ?_
    exact And.intro (fun _ => K σ' hP) (fun h1 => absurd (show (64 : Int32) ≤ nI 64 by decide) h1)
  | d + 1, k, σ', h, h1, hP => by
    have hk : k < 64 := by omega
    have q27 : σ' 27 0 k = cI (F k) := by rw [hP.1 27 (by decide)]; exact hF k hk
    have fin : ∀ v : Int32, v = cI (mrP σ' k 6 ∧ F k) → am_G l 52 Q 0 0 14 [(1, aI (nI k + 1)), (0, aR 5 0)] [] (u3 σ' 28 0 k v) τ (rX t) cX lX := by
      intro v hv
      rw [show nI k + 1 = nI (k + 1) from nI_1 k]
      exact x_mr_o hF K d (k + 1) _ (by omega) (by omega) (roP_s hk hP (hv.trans (cI_cg (and_congr_left fun _ => ⟨Or.inr, fun z => z.resolve_left (by omega)⟩))))
    refine am_vc_ok am_k52 [14, 24, 99] 100 ?_
    refine And.intro (fun h1 => absurd h1 (nI_ge (b := 64) (by omega) (by decide))) (fun _ => ?_)
    refine am_Gp (ls2 := [(3, aI (nI 0)), (2, aI 0), (1, aI (nI k)), (0, aR 5 0)]) [0, 1, 2, 3] rfl ?_
    refine x_mr_i hk (fun s hs => hP.2.1 s hs) ?_ 6 0 0 (by omega) (cI_f (fun ⟨x, hx, _⟩ => absurd hx (by omega))).symm
    refine am_vc_ok am_k52 [14] 100 ?_
    refine And.intro (fun e => ?_) (fun e => ?_)
    · have e := cI_0.mp e
      refine And.intro (⟨vp_in_nI (N := 64) hk (by decide), Or.inl rfl⟩) ?_
      rw [nI_clamp (n := k) (by omega)]
      exact am_Gp [0, 3] rfl (fin 0 (cI_f (fun z => e z.1)).symm)
    · have e := cI_n0.mp e
      refine And.intro (vp_in_nI (N := 64) hk (by decide)) ?_
      rw [nI_clamp (n := k) (by omega), q27]
      refine And.intro (fun g => ?_) (fun g => ?_)
      · have g := cI_0.mp g
        refine And.intro (⟨vp_in_nI (N := 64) hk (by decide), Or.inl rfl⟩) ?_
        rw [nI_clamp (n := k) (by omega)]
        exact am_Gp [0, 3] rfl (fin 0 (cI_f (fun z => g z.2)).symm)
      · have g := cI_n0.mp g
        refine And.intro (⟨vp_in_nI (N := 64) hk (by decide), Or.inr rfl⟩) ?_
        rw [nI_clamp (n := k) (by omega)]
        exact am_Gp [0, 3] rfl (fin 1 (cI_t ⟨e, g⟩).symm)
theorem x_markReached {F : Nat → Prop} (hF : ∀ s, s < 64 → σ 27 0 s = cI (F s)) : am_T l 52 [aR 5 0] σ τ t (fun r s2 τ2 t2 => r = none ∧ τ2 = τ ∧ t2 = t ∧ roP F σ s2 64) := by
  have e0 : σ 27 0 (Int32.toNatClampNeg 0) = cI (F 0) := hF 0 (by decide)
  refine am_T_of am_o52 am_l52 rfl ?_
  refine am_vc_ok am_k52 [14] 100 ?_
  refine And.intro (vp_in_nI (N := 64) (show 0 < 64 by decide) (by decide)) ?_
  rw [e0]
  refine And.intro (⟨vp_in_nI (N := 64) (show 0 < 64 by decide) (by decide), cI_01⟩) ?_
  refine am_Gp (ls2 := [(1, aI (nI 1)), (0, aR 5 0)]) [0, 1] rfl ?_
  refine x_mr_o hF ?_ 63 1 _ (by omega) (by omega) (roP_s (k := 0) (by decide) ⟨fun _ _ => rfl, fun s hs => absurd hs (by omega), fun s hs => absurd hs (by omega)⟩ (cI_cg ⟨fun z => ⟨Or.inl rfl, z⟩, fun z => z.2⟩))
  intro σ' hP
  refine am_vc_ok am_k52 [] 100 ?_
  exact am_vV am_k52 am_r52 rfl ⟨t, rfl, rfl, rfl, rfl, rfl, rfl, hP⟩
def bcI (i : Int32) : Int32 :=
  let u (x : Int32) (y : Int32) : Int32 := (x.toUInt32 >>> (y.toUInt32 &&& Int32.toUInt32 31)).toInt32
  let i1 := i - (u i 1 &&& 1431655765)
  let i2 := (i1 &&& 858993459) + (u i1 2 &&& 858993459)
  let i3 := (i2 + u i2 4) &&& 252645135
  let i4 := i3 + u i3 8
  let i5 := i4 + u i4 16
  i5 &&& 63
theorem bcI_pc : ∀ s, s < 64 → bcI (nI s) = nI (pc s) := by decide +kernel
theorem x_bitCount {s : Nat} (hs : s < 64) : am_D l 259 [aI (nI s)] σ τ (rX t) cX lX (some (aI (nI (pc s)))) σ τ (rX t) := by
  rw [← bcI_pc s hs]
  refine am_D_of am_o259 am_l259 rfl ?_
  refine am_vc_ok am_k259 [] 100 ?_
  exact am_vI am_k259 am_r259 rfl ⟨rfl, rfl, rfl, rfl, rfl, rfl⟩
theorem x_mo_lp {Q : tQ} (h01 : ∀ s, s < 64 → σ 28 0 s = 0 ∨ σ 28 0 s = 1) (K : am_G l 53 Q 0 0 38 [(2, aI (nI 64)), (1, aI (nI (bst (fun s => σ 28 0 s = 1) 64))), (0, aR 5 0)] [] σ τ (rX t) cX lX) : ∀ (d k : Nat) (v : Int32), k + d = 64 → v = nI (bst (fun s => σ 28 0 s = 1) k) → am_G l 53 Q 0 0 4 [(2, aI (nI k)), (1, aI v), (0, aR 5 0)] [] σ τ (rX t) cX lX
  | 0, k, v, h, hv => by
    obtain rfl : k = 64 := by omega
    rw [hv]
    refine am_vc_ok am_k53 [4, 38] 100 ?_
    exact And.intro (fun _ => K) (fun h1 => absurd (show (64 : Int32) ≤ nI 64 by decide) h1)
  | d + 1, k, v, h, hv => by
    have hk : k < 64 := by omega
    have hb : bst (fun s => σ 28 0 s = 1) k < 64 := bst_lt (by omega)
    have p1 := pc_6 k hk
    have p2 := pc_6 _ hb
    have fin : ∀ v : Int32, v = nI (bst (fun s => σ 28 0 s = 1) (k + 1)) → am_G l 53 Q 0 0 4 [(2, aI (nI k + 1)), (1, aI v), (0, aR 5 0)] [] σ τ (rX t) cX lX := by
      intro v hv
      rw [show nI k + 1 = nI (k + 1) from nI_1 k]
      exact x_mo_lp h01 K d (k + 1) v (by omega) hv
    rw [hv]
    refine am_vc_ok am_k53 [4, 38] 100 ?_
    refine And.intro (fun h1 => absurd h1 (nI_ge (b := 64) (by omega) (by decide))) (fun _ => ?_)
    refine And.intro (vp_in_nI (N := 64) hk (by decide)) ?_
    rw [nI_clamp (n := k) (by omega)]
    refine And.intro (fun e => ?_) (fun e => ?_)
    · have e : σ 28 0 k = 0 := e
      exact am_Gp [0, 1, 2] rfl (fin _ (by rw [bst, if_neg (fun z => absurd (e.symm.trans z.1) (by decide))]))
    · have e : ¬ σ 28 0 k = 0 := e
      refine am_vS am_k53 am_h53 rfl rfl rfl rfl (x_bitCount hk) ?_
      refine am_vc_ok am_k53 [4, 38] 100 ?_
      refine am_vS am_k53 am_h53 rfl rfl rfl rfl (x_bitCount hb) ?_
      refine am_vc_ok am_k53 [4, 38] 100 ?_
      refine And.intro (fun g => ?_) (fun g => ?_)
      · have g : ¬ pc (bst (fun s => σ 28 0 s = 1) k) < pc k := fun z => absurd g (Int32.not_le.mpr (nI_lt z (by omega)))
        exact am_Gp [0, 1, 2] rfl (fin _ (by rw [bst, if_neg (fun z => g z.2)]))
      · have g : pc (bst (fun s => σ 28 0 s = 1) k) < pc k := (nI_ltI (by omega) (by omega)).mp (Int32.not_le.mp g)
        exact am_Gp [0, 1, 2] rfl (fin _ (by rw [bst, if_pos ⟨(h01 k hk).resolve_left e, g⟩]))
theorem x_mostReached (h01 : ∀ s, s < 64 → σ 28 0 s = 0 ∨ σ 28 0 s = 1) : am_D l 53 [aR 5 0] σ τ (rX t) cX lX (some (aI (nI (bst (fun s => σ 28 0 s = 1) 64)))) σ τ (rX t) := by
  refine am_D_of am_o53 am_l53 rfl ?_
  refine am_vc_ok am_k53 [4] 100 ?_
  refine am_Gp (ls2 := [(2, aI (nI 1)), (1, aI (nI 0)), (0, aR 5 0)]) [0, 1, 2] rfl ?_
  refine x_mo_lp h01 ?_ 63 1 _ (by omega) (by rw [bst_1])
  refine am_vc_ok am_k53 [] 100 ?_
  exact am_vI am_k53 am_r53 rfl ⟨rfl, rfl, rfl, rfl, rfl, rfl⟩
theorem x_ff_lp {Q : tQ} {F : Nat → Prop} {s : Nat} (hs : s < 64) (hF : ∀ s, s < 64 → σ 27 0 s = cI (F s)) (hQ : Q (some (aI (nI (nxt (pX F) s)))) σ τ (rX t) cX lX) : ∀ (d a : Nat), a + d = 6 → (∃ x, a ≤ x ∧ x < a + d ∧ pX F s x) → nxtN (pX F s) d a = nxt (pX F) s → am_G l 55 Q 0 0 2 [(2, aI (nI a)), (0, aR 5 0), (1, aI (nI s))] [] σ τ (rX t) cX lX
  | 0, a, h, ⟨x, h1, h2, _⟩, _ => absurd h2 (by omega)
  | d + 1, a, h, hx, he => by
    have ha : a < 6 := by omega
    have no : ¬ pX F s a → am_G l 55 Q 0 0 2 [(2, aI (nI a + 1)), (0, aR 5 0), (1, aI (nI s))] [] σ τ (rX t) cX lX := by
      intro hn
      rw [show nI a + 1 = nI (a + 1) from nI_1 a]
      obtain ⟨x, h1, h2, h3⟩ := hx
      exact x_ff_lp hs hF hQ d (a + 1) (by omega) ⟨x, by
        by_cases e : x = a
        · rw [e] at h3; exact absurd h3 hn
        · omega, by omega, h3⟩ (by rw [← he, nxtN_n hn])
    refine am_vc_ok am_k55 [2] 100 ?_
    refine And.intro (fun h1 => absurd h1 (nI_ge (b := 6) (by omega) (by decide))) (fun _ => ?_)
    refine And.intro (fun g => ?_) (fun g => ?_)
    · have g := (x_mb s hs a ha).mp g
      refine And.intro (by rw [or_ad s hs a ha]; exact vp_in_nI (N := 64) (ad_lt s hs a ha) (by decide)) ?_
      rw [or_ad s hs a ha, nI_clamp (n := ad s a) (by have := ad_lt s hs a ha; omega), hF _ (ad_lt s hs a ha)]
      refine And.intro (fun y => ?_) (fun y => ?_)
      · have y := cI_0.mp y
        exact no (fun z => y z.2)
      · have y := cI_n0.mp y
        have hp : pX F s a := ⟨g, y⟩
        rw [← he, nxtN_y hp] at hQ
        exact am_vI am_k55 am_r55 rfl hQ
    · have g : ¬ mb s a = false := fun z => g ((x_mb s hs a ha).mpr z)
      exact no (fun z => g z.1)
theorem x_firstFits {F : Nat → Prop} {s : Nat} (hs : s < 64) (hF : ∀ s, s < 64 → σ 27 0 s = cI (F s)) (hx : ∃ a, 0 ≤ a ∧ a < 0 + 6 ∧ pX F s a) : am_D l 55 [aR 5 0, aI (nI s)] σ τ (rX t) cX lX (some (aI (nI (nxt (pX F) s)))) σ τ (rX t) := by
  refine am_D_of am_o55 am_l55 rfl ?_
  refine am_vc_ok am_k55 [2] 100 ?_
  exact x_ff_lp hs hF ⟨rfl, rfl, rfl, rfl, rfl, rfl⟩ 6 0 (by omega) hx rfl
end L45
