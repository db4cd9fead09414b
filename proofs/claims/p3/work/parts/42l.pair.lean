/-! pairs that fit: both sides -/
section L29
variable {l : Launch} {σ σ2 : tI} {τ τ2 : tL} {t : Option (Nat × Nat)}
abbrev fitP (σ : tI) (s n : Nat) (x y : Int32) : Prop := fstI (badA σ s n x y) 16 0 = -9 ∧ fstI (badA σ s n y x) 16 0 = -9
abbrev okP (σ : tI) (d x y : Int32) : Prop := d = -9 ∨ fitP σ d.toNatClampNeg (σ 49 0 d.toNatClampNeg).toNatClampNeg x y
abbrev verI (σ : tI) (set : Int32) (a : Nat) : Int32 := if (set >>> (nI a &&& 31)) &&& 1 = 1 then σ 58 0 a else σ 57 0 a
theorem okP_n {s n : Nat} {x y : Int32} (hs : s < 4) (hn : σ 49 0 s = nI n) (hn2 : n ≤ 12) : okP σ (nI s) x y ↔ fitP σ s n x y := by
  unfold okP
  rw [nI_clamp (n := s) (by omega), hn, nI_clamp (n := n) (by omega)]
  exact ⟨fun h => h.elim (fun z => absurd z (n9_4 (by omega))) id, Or.inr⟩
theorem div6 : ∀ k, k < 36 → nI k / 6 = nI (k / 6) ∧ nI k - nI k / 6 * 6 = nI (k % 6) := by decide +kernel
theorem m_versionIn {a : Nat} {set : Int32} (ha : a < 6) : am_D l 199 [aR 12 0, aI (nI a), aI set] σ τ (rX t) cX lX (some (aI (verI σ set a))) σ τ (rX t) := by
  refine am_D_of am_o199 am_l199 rfl ?_
  refine am_vc_ok am_k199 [] 100 ?_
  refine am_vS am_k199 am_h199 rfl rfl rfl rfl (m_has) ?_
  refine am_vc_ok am_k199 [] 100 ?_
  refine And.intro (fun e => ?_) (fun e => ?_)
  · have e := bI_0.mp e
    refine And.intro (vp_in_nI (N := 6) ha (by decide)) ?_
    rw [nI_clamp (n := a) (by omega)]
    refine am_vI am_k199 am_r199 rfl ⟨by unfold verI; rw [if_neg e], rfl, rfl, rfl, rfl, rfl⟩
  · have e := bI_1.mp e
    refine And.intro (vp_in_nI (N := 6) ha (by decide)) ?_
    rw [nI_clamp (n := a) (by omega)]
    refine am_vI am_k199 am_r199 rfl ⟨by unfold verI; rw [if_pos e], rfl, rfl, rfl, rfl, rfl⟩
theorem m_isPair {k : Nat} {set : Int32} (hk : k < 36) (hd : σ 59 0 k = -9 ∨ ∃ s n, s < 4 ∧ σ 59 0 k = nI s ∧ σ 49 0 s = nI n ∧ n ≤ 12) : am_D l 200 [aR 12 0, aI (nI k), aI set] σ τ (rX t) cX lX (some (aI (bI (okP σ (σ 59 0 k) (verI σ set (k / 6)) (verI σ set (k % 6)))))) σ τ (rX t) := by
  rcases hd with hd | ⟨s, n, hs, hd, hn, hn2⟩
  · rw [bI_t (Or.inl hd)]
    refine am_D_of am_o200 am_l200 rfl ?_
    refine am_vc_ok am_k200 [] 100 ?_
    refine And.intro (vp_in_nI (N := 36) hk (by decide)) ?_
    rw [nI_clamp (n := k) (by omega), hd]
    refine And.intro (by decide) ?_
    rw [(div6 k hk).1]
    refine am_vO am_k200 am_h200 rfl rfl rfl rfl (m_versionIn (a := k / 6) (by omega)) ?_
    refine am_vc_ok am_k200 [] 100 ?_
    refine And.intro (by decide) ?_
    rw [(div6 k hk).2]
    refine am_vO am_k200 am_h200 rfl rfl rfl rfl (m_versionIn (a := k % 6) (by omega)) ?_
    refine am_vc_ok am_k200 [] 100 ?_
    refine And.intro (fun _ => ?_) (fun g => absurd rfl g)
    exact am_vZ am_k200 am_r200 rfl (Or.inr rfl) ⟨rfl, rfl, rfl, rfl, rfl, rfl⟩
  · have e9 : ¬ nI s = -9 := n9_4 (by omega)
    have hiff := okP_n (σ := σ) (x := verI σ set (k / 6)) (y := verI σ set (k % 6)) hs hn hn2
    rw [hd]
    refine am_D_of am_o200 am_l200 rfl ?_
    refine am_vc_ok am_k200 [] 100 ?_
    refine And.intro (vp_in_nI (N := 36) hk (by decide)) ?_
    rw [nI_clamp (n := k) (by omega), hd]
    refine And.intro (by decide) ?_
    rw [(div6 k hk).1]
    refine am_vO am_k200 am_h200 rfl rfl rfl rfl (m_versionIn (a := k / 6) (by omega)) ?_
    refine am_vc_ok am_k200 [] 100 ?_
    refine And.intro (by decide) ?_
    rw [(div6 k hk).2]
    refine am_vO am_k200 am_h200 rfl rfl rfl rfl (m_versionIn (a := k % 6) (by omega)) ?_
    refine am_vc_ok am_k200 [] 100 ?_
    refine And.intro (fun g => absurd g e9) (fun _ => ?_)
    refine am_vO am_k200 am_h200 rfl rfl rfl rfl (m_unlikeName hs hn hn2) ?_
    refine am_vc_ok am_k200 [] 100 ?_
    refine And.intro (fun y => ?_) (fun y => ?_)
    · have y : fstI (badA σ s n (verI σ set (k / 6)) (verI σ set (k % 6))) 16 0 = -9 := y
      refine am_vO am_k200 am_h200 rfl rfl rfl rfl (m_unlikeName hs hn hn2) ?_
      refine am_vc_ok am_k200 [] 100 ?_
      refine And.intro (fun z => ?_) (fun z => ?_)
      · have z : fstI (badA σ s n (verI σ set (k % 6)) (verI σ set (k / 6))) 16 0 = -9 := z
        refine am_vZ am_k200 am_r200 rfl (Or.inr rfl) ⟨by rw [bI_t (hiff.mpr ⟨y, z⟩)], rfl, rfl, rfl, rfl, rfl⟩
      · have z : ¬ fstI (badA σ s n (verI σ set (k % 6)) (verI σ set (k / 6))) 16 0 = -9 := z
        refine am_vZ am_k200 am_r200 rfl (Or.inl rfl) ⟨by rw [bI_f (fun q => z (hiff.mp q).2)], rfl, rfl, rfl, rfl, rfl⟩
    · have y : ¬ fstI (badA σ s n (verI σ set (k / 6)) (verI σ set (k % 6))) 16 0 = -9 := y
      refine am_vZ am_k200 am_r200 rfl (Or.inl rfl) ⟨by rw [bI_f (fun q => y (hiff.mp q).1)], rfl, rfl, rfl, rfl, rfl⟩
theorem x_bothFit {s x y : Nat} {S : aSh} (hS : Rshape σ s S) (hx : x < 10) (hy : y < 10) : am_T l 86 [aR 9 (1 + s), aI (nI x), aI (nI y)] σ τ t (fun r s2 τ2 t2 => r = some (aI (bI (fitP σ s (sN S) (nI x) (nI y)))) ∧ s2 = σ ∧ τ2 = τ ∧ t2 = t) := by
  obtain ⟨w1, w2, w3, w4, w5, -⟩ := id hS
  have hX : ∀ k, k < sN S → ∃ b, b < 16 ∧ σ 32 (1 + s) k = nI b := fun k hk => ⟨sNm S k, (w1.2.1 k hk).1, (w5 k hk).1⟩
  have e1 : fstI (nmB (ulV σ (1 + s) (nI x) (nI y) (sN S)) (σ 32 (1 + s)) (sN S)) 16 0 = fstI (badA σ s (sN S) (nI x) (nI y)) 16 0 := fstI_cg 16 0 (fun b _ hb => hS.bad hx hy (by omega))
  have e2 : fstI (nmB (ulV σ (1 + s) (nI y) (nI x) (sN S)) (σ 32 (1 + s)) (sN S)) 16 0 = fstI (badA σ s (sN S) (nI y) (nI x)) 16 0 := fstI_cg 16 0 (fun b _ hb => hS.bad hy hx (by omega))
  refine am_T_of am_o86 am_l86 rfl ?_
  refine am_vc_ok am_k86 [] 100 ?_
  refine am_vOT am_k86 am_h86 rfl rfl rfl rfl (x_unlikeNames (i := 1 + s) (w := x) (v := y) hx w3 w1.1 hX (fun b hb => hS.idx hx hb)) ?_
  rintro r s2 τ2 t2 ⟨⟨acc, rfl, hJ⟩, rfl, rfl, rfl⟩
  have j1 := hJ.z0 hX
  rw [e1] at j1
  refine am_vc_ok am_k86 [] 100 ?_
  refine And.intro (fun g => ?_) (fun g => ?_)
  · have g : acc = 0 := g
    refine am_vOT am_k86 am_h86 rfl rfl rfl rfl (x_unlikeNames (i := 1 + s) (w := y) (v := x) hy w3 w1.1 hX (fun b hb => hS.idx hy hb)) ?_
    rintro r s2 τ2 t2 ⟨⟨acc2, rfl, hJ2⟩, rfl, rfl, rfl⟩
    have j2 := hJ2.z0 hX
    rw [e2] at j2
    refine am_vc_ok am_k86 [] 100 ?_
    refine And.intro (fun g2 => ?_) (fun g2 => ?_)
    · have g2 : acc2 = 0 := g2
      refine am_vZ am_k86 am_r86 rfl (Or.inr rfl) ⟨_, rfl, rfl, rfl, by rw [bI_t ⟨j1.mp g, j2.mp g2⟩], rfl, rfl, rfl⟩
    · have g2 : ¬ acc2 = 0 := g2
      refine am_vZ am_k86 am_r86 rfl (Or.inl rfl) ⟨_, rfl, rfl, rfl, by rw [bI_f (fun q => g2 (j2.mpr q.2))], rfl, rfl, rfl⟩
  · have g : ¬ acc = 0 := g
    refine am_vZ am_k86 am_r86 rfl (Or.inl rfl) ⟨_, rfl, rfl, rfl, by rw [bI_f (fun q => g (j1.mpr q.1))], rfl, rfl, rfl⟩
end L29
