/-! the class's survey -/
section L44
variable {l : Launch} {σ σ2 : tI} {τ τ2 : tL} {t : Option (Nat × Nat)}
theorem ftN_s {s k : Nat} : ftN σ s (k + 1) ↔ ftN σ s k ∧ okW σ k (vv (σ 57 0) (σ 58 0) s (k / 6)) (vv (σ 57 0) (σ 58 0) s (k % 6)) := by
  constructor
  · intro z
    exact ⟨fun j hj => z j (by omega), z k (by omega)⟩
  · rintro ⟨z1, z2⟩ j hj
    by_cases e : j = k
    · rw [e]; exact z2
    · exact z1 j (by omega)
theorem x_sv1 {Q : tQ} (hR : Rserv σ) (K : am_G l 46 Q 0 0 50 [(3, aI (nI 6)), (0, aR 5 0), (1, aR 24 0), (2, aR 41 0)] [] (u3 σ 5 0 2 (nI (chS σ))) τ (rX t) cX lX) : ∀ (d k : Nat) (v : Int32), k + d = 6 → v = nI (chN (σ 57 0) (σ 58 0) k) → am_G l 46 Q 0 0 7 [(3, aI (nI k)), (0, aR 5 0), (1, aR 24 0), (2, aR 41 0)] [] (u3 σ 5 0 2 v) τ (rX t) cX lX
  | 0, k, v, h, hv => by
    obtain rfl : k = 6 := by omega
    rw [hv]
    refine am_vc_ok am_k46 [7, 50] 100 ?_
    exact And.intro (fun _ => K) (fun h1 => absurd (show (6 : Int32) ≤ nI 6 by decide) h1)
  | d + 1, k, v, h, hv => by
    have hk : k < 6 := by omega
    obtain ⟨⟨v0, w0, -, -, n1, n2, n3, n4⟩, -⟩ := hR k hk
    have q0 : u3 σ 5 0 2 v 8 k 0 = σ 57 0 k := by rw [u3_k _ _ (by decide), n1, n2]
    have q1 : u3 σ 5 0 2 v 8 k 1 = σ 58 0 k := by rw [u3_k _ _ (by decide), n3, n4]
    have fin : ∀ w : Int32, w = nI (chN (σ 57 0) (σ 58 0) (k + 1)) → am_G l 46 Q 0 0 7 [(3, aI (nI k + 1)), (0, aR 5 0), (1, aR 24 0), (2, aR 41 0)] [] (u3 (u3 σ 5 0 2 v) 5 0 2 w) τ (rX t) cX lX := by
      intro w hw
      rw [u3_tw, show nI k + 1 = nI (k + 1) from nI_1 k]
      exact x_sv1 hR K d (k + 1) w (by omega) hw
    refine am_vc_ok am_k46 [7, 50] 100 ?_
    refine And.intro (fun h1 => absurd h1 (nI_ge (b := 6) (by omega) (by decide))) (fun _ => ?_)
    refine And.intro (vp_in_nI (N := 6) hk (by decide)) ?_
    refine And.intro (vp_in_nI (N := 6) hk (by decide)) ?_
    rw [nI_clamp (n := k) (by omega), u3_eq, q0]
    refine And.intro (fun e => ?_) (fun e => ?_)
    · have e : σ 57 0 k = σ 58 0 k := Eq.trans e q1
      exact fin (v ||| 0) (by rw [chN, if_pos e, hv]; simp)
    · have e : ¬ σ 57 0 k = σ 58 0 k := fun z => e (z.trans q1.symm)
      exact fin (v ||| ((1 : Int32) <<< (nI k &&& 31))) (by rw [chN, if_neg e, hv, or_ad _ (chN_lt (by omega)) k hk])
theorem x_sv2 {Q : tQ} {c : Nat} (hc : c < 64) (h5 : σ 5 0 2 = nI c) (K : ∀ σ', afP σ σ' (fun s => sub s c) → am_G l 46 Q 0 0 86 [(3, aI (nI 64)), (0, aR 5 0), (1, aR 24 0), (2, aR 41 0)] [] σ' τ (rX t) cX lX) : ∀ (d k : Nat) (σ' : tI), k + d = 64 → (∀ q, q ≠ 27 → σ' q = σ q) → (∀ s, s < k → σ' 27 0 s = cI (sub s c)) → am_G l 46 Q 0 0 52 [(3, aI (nI k)), (0, aR 5 0), (1, aR 24 0), (2, aR 41 0)] [] σ' τ (rX t) cX lX
  | 0, k, σ', h, h1, h2 => by
    obtain rfl : k = 64 := by omega
    refine am_vc_ok am_k46 [52, 86] 100 ?_
    exact And.intro (fun _ => K σ' ⟨h1, h2⟩) (fun h1 => absurd (show (64 : Int32) ≤ nI 64 by decide) h1)
  | d + 1, k, σ', h, h1, h2 => by
    have hk : k < 64 := by omega
    have q0 : σ' 5 0 2 = nI c := by rw [h1 5 (by decide), h5]
    have hs0 : (nI k &&& (σ' 5 0 2 ^^^ (-1)) = 0) ↔ sub k c := by
      rw [q0]
      exact sub_0 k hk c hc
    have fin : ∀ w : Int32, w = cI (sub k c) → am_G l 46 Q 0 0 52 [(3, aI (nI k + 1)), (0, aR 5 0), (1, aR 24 0), (2, aR 41 0)] [] (u3 σ' 27 0 k w) τ (rX t) cX lX := by
      intro w hw
      rw [show nI k + 1 = nI (k + 1) from nI_1 k]
      refine x_sv2 hc h5 K d (k + 1) _ (by omega) (fun q hq => by rw [u3_kk _ _ hq]; exact h1 q hq) (fun s hs => ?_)
      by_cases e : s = k
      · rw [e, u3_eq]; exact hw
      · rw [u3_j _ _ e]; exact h2 s (by omega)
    refine am_vc_ok am_k46 [52, 86] 100 ?_
    refine And.intro (fun h1 => absurd h1 (nI_ge (b := 64) (by omega) (by decide))) (fun _ => ?_)
    refine And.intro (fun e => ?_) (fun e => ?_)
    · have e := hs0.mp e
      refine And.intro (⟨vp_in_nI (N := 64) hk (by decide), Or.inr rfl⟩) ?_
      rw [nI_clamp (n := k) (by omega)]
      exact fin 1 (cI_t e).symm
    · have e : ¬ sub k c := fun z => e (hs0.mpr z)
      refine And.intro (⟨vp_in_nI (N := 64) hk (by decide), Or.inl rfl⟩) ?_
      rw [nI_clamp (n := k) (by omega)]
      exact fin 0 (cI_f e).symm
theorem x_sv3 {Q : tQ} (hR : Rserv σ) (hSh : Rshapes σ) {a : Nat} (ha : a < 6) (K : ∀ σ', afP σ σ' (fun s => sub s (chS σ) ∧ ftN σ s (6 * a + 6)) → am_G l 46 Q 0 0 142 [(4, aI (nI 6)), (3, aI (nI a)), (0, aR 5 0), (1, aR 24 0), (2, aR 41 0)] [] σ' τ (rX t) cX lX) : ∀ (d b : Nat) (σ' : tI), b + d = 6 → afP σ σ' (fun s => sub s (chS σ) ∧ ftN σ s (6 * a + b)) → am_G l 46 Q 0 0 97 [(4, aI (nI b)), (3, aI (nI a)), (0, aR 5 0), (1, aR 24 0), (2, aR 41 0)] [] σ' τ (rX t) cX lX
  | 0, b, σ', h, hP => by
    obtain rfl : b = 6 := by omega
    refine am_vc_ok am_k46 [97, 142] 100 ?_
    exact And.intro (fun _ => K σ' hP) (fun h1 => absurd (show (6 : Int32) ≤ nI 6 by decide) h1)
  | d + 1, b, σ', h, hP => by
    have hb : b < 6 := by omega
    have fin : ∀ s2, afP σ s2 (fun s => sub s (chS σ) ∧ ftN σ s (6 * a + b + 1)) → am_G l 46 Q 0 0 97 [(4, aI (nI b + 1)), (3, aI (nI a)), (0, aR 5 0), (1, aR 24 0), (2, aR 41 0)] [] s2 τ (rX t) cX lX := by
      intro s2 h2
      rw [show nI b + 1 = nI (b + 1) from nI_1 b]
      exact x_sv3 hR hSh ha K d (b + 1) s2 (by omega) h2
    obtain ⟨⟨x0, x1, hx0, hx1, n1, n2, n3, n4⟩, g2⟩ := hR a ha
    obtain ⟨⟨y0, y1, hy0, hy1, m1, m2, m3, m4⟩, -⟩ := hR b hb
    obtain ⟨g3, g4⟩ := g2 b hb
    have q1 : (6 * a + b) / 6 = a := by omega
    have q2 : (6 * a + b) % 6 = b := by omega
    have w31 : σ' 31 = σ 31 := hP.1 31 (by decide)
    have w8 : σ' 8 = σ 8 := hP.1 8 (by decide)
    refine am_vc_ok am_k46 [97, 142] 100 ?_
    refine And.intro (fun h1 => absurd h1 (nI_ge (b := 6) (by omega) (by decide))) (fun _ => ?_)
    refine And.intro (vp_in_nI (N := 6) ha (by decide)) ?_
    rw [nI_clamp (n := a) (by omega)]
    refine And.intro (vp_in_nI (N := 6) hb (by decide)) ?_
    rw [nI_clamp (n := b) (by omega), w31]
    rcases g4 with g4 | ⟨s, hs, g4, g5, hab⟩
    · rw [g4]
      refine am_vS am_k46 am_h46 rfl rfl rfl rfl (x_within) ?_
      refine am_vc_ok am_k46 [97, 142] 100 ?_
      refine And.intro (fun _ => ?_) (fun e => absurd (bI_1.mp e) (by decide))
      refine am_Gp [0, 2, 3, 4, 5] rfl (fin σ' (hP.cg fun s _ => and_congr_right fun _ => ?_))
      rw [ftN_s]
      exact ⟨fun z => ⟨z, Or.inl (by rw [← g3, g4])⟩, fun z => z.1⟩
    · rcases hSh s hs with ⟨-, z⟩ | ⟨S, hS⟩
      · exact absurd z g5
      have hw4 : σ 49 0 s = nI (sN S) := hS.2.2.2.1
      rw [g4]
      refine am_vS am_k46 am_h46 rfl rfl rfl rfl (x_within) ?_
      refine am_vc_ok am_k46 [97, 142] 100 ?_
      refine And.intro (fun e => absurd (in4 hs) (bI_0.mp e)) (fun _ => ?_)
      refine And.intro (vp_in_nI (N := 4) hs (by decide)) ?_
      rw [nI_clamp (n := s) (by omega)]
      refine am_vOT am_k46 am_h46 rfl rfl rfl rfl (x_barSets (x0 := x0) (x1 := x1) (y0 := y0) (y1 := y1) hP.2 (hS.fr (fun k hk => hP.1 k (kNe hk rfl))) ha hb hab hx0 hx1 hy0 hy1 (by rw [w8]; exact n1) (by rw [w8]; exact n3) (by rw [w8]; exact m1) (by rw [w8]; exact m3)) ?_
      rintro r s2 τ2 t2 ⟨rfl, rfl, rfl, hP2⟩
      refine am_vc_ok am_k46 [97, 142] 100 ?_
      refine am_Gp [0, 2, 3, 4, 5] rfl (fin s2 ((hP.tr hP2).cg fun z hz => ?_))
      have hiff := okP_n (σ := σ) (x := vv (σ 57 0) (σ 58 0) z a) (y := vv (σ 57 0) (σ 58 0) z b) hs hw4 hS.1.1
      have e : fitP σ' s (sN S) = fitP σ s (sN S) := by funext x y; exact fitP_k (hP.1 50 (by decide)) (hP.1 49 (by decide))
      rw [ftN_s, q1, q2, e, ← n2, ← n4, ← m2, ← m4, and_assoc]
      refine and_congr_right fun _ => and_congr_right fun _ => ?_
      show _ ↔ okP σ (σ 59 0 (6 * a + b)) _ _
      rw [← g3, g4]
      exact hiff.symm
theorem x_sv4 {Q : tQ} (hR : Rserv σ) (hSh : Rshapes σ) (K : ∀ σ', afP σ σ' (fun s => sub s (chS σ) ∧ ftN σ s 36) → am_G l 46 Q 0 0 148 [(3, aI (nI 6)), (0, aR 5 0), (1, aR 24 0), (2, aR 41 0)] [] σ' τ (rX t) cX lX) : ∀ (d a : Nat) (σ' : tI), a + d = 6 → afP σ σ' (fun s => sub s (chS σ) ∧ ftN σ s (6 * a)) → am_G l 46 Q 0 0 88 [(3, aI (nI a)), (0, aR 5 0), (1, aR 24 0), (2, aR 41 0)] [] σ' τ (rX t) cX lX
  | 0, a, σ', h, hP => by
    obtain rfl : a = 6 := by omega
    refine am_vc_ok am_k46 [88, 148] 100 ?_
    exact And.intro (fun _ => K σ' hP) (fun h1 => absurd (show (6 : Int32) ≤ nI 6 by decide) h1)
  | d + 1, a, σ', h, hP => by
    refine am_vc_ok am_k46 [88, 97, 148] 100 ?_
    refine And.intro (fun h1 => absurd h1 (nI_ge (b := 6) (by omega) (by decide))) (fun _ => ?_)
    refine x_sv3 hR hSh (by omega) ?_ 6 0 σ' (by omega) hP
    intro s2 h2
    refine am_vc_ok am_k46 [88] 100 ?_
    rw [show 6 * a + 6 = 6 * (a + 1) by omega] at h2
    have K2 := x_sv4 hR hSh K d (a + 1) s2 (by omega) h2
    rw [← nI_1 a] at K2
    exact am_Gp [0, 2, 3, 4] rfl K2
/-- what survey leaves -/
def svP (σ s2 : tI) : Prop := (∀ q, q ≠ 5 → q ≠ 27 → s2 q = σ q) ∧ s2 5 0 2 = nI (chS σ) ∧ ∀ s, s < 64 → s2 27 0 s = cI (fsS σ s)
theorem Rserv.k5 {v : Int32} (h : Rserv σ) : Rserv (u3 σ 5 0 2 v) := h.fr (fun a _ => by rw [u3_kk _ _ (show 8 ≠ 5 by decide)]; exact ⟨rfl, rfl⟩) (u3_kk _ _ (by decide)) (u3_kk _ _ (by decide)) (u3_kk _ _ (by decide)) (u3_kk _ _ (by decide)) (fun s _ hs => by rw [u3_kk _ _ (show 49 ≠ 5 by decide)]; exact hs)
theorem x_survey (hR : Rserv σ) (hSh : Rshapes σ) : am_T l 46 [aR 5 0, aR 24 0, aR 41 0] σ τ t (fun r s2 τ2 t2 => r = none ∧ τ2 = τ ∧ t2 = t ∧ svP σ s2) := by
  refine am_T_of am_o46 am_l46 rfl ?_
  refine am_vc_ok am_k46 [7] 100 ?_
  refine x_sv1 hR ?_ 6 0 _ (by omega) rfl
  refine am_vc_ok am_k46 [52] 100 ?_
  have e57 : u3 σ 5 0 2 (nI (chS σ)) 57 = σ 57 := u3_kk _ _ (by decide)
  have e58 : u3 σ 5 0 2 (nI (chS σ)) 58 = σ 58 := u3_kk _ _ (by decide)
  have eW : okW (u3 σ 5 0 2 (nI (chS σ))) = okW σ := okW_k (u3_kk _ _ (by decide)) (u3_kk _ _ (by decide)) (u3_kk _ _ (by decide))
  have ec : chS (u3 σ 5 0 2 (nI (chS σ))) = chS σ := by
    unfold chS
    rw [e57, e58]
  have hR2 := hR.k5 (v := nI (chS σ))
  have hS2 : Rshapes (u3 σ 5 0 2 (nI (chS σ))) := hSh.fr (fun k hk => u3_kk _ _ (kNe hk rfl))
  refine x_sv2 (c := chS σ) chS_lt (u3_eq _ _ _ _ _) ?_ 64 0 _ (by omega) (fun _ _ => rfl) (fun s hs => absurd hs (by omega))
  intro σ1 h1
  refine am_vc_ok am_k46 [88] 100 ?_
  refine x_sv4 hR2 hS2 ?_ 6 0 σ1 (by omega) (h1.cg fun s _ => by rw [ec]; exact ⟨fun z => ⟨z, fun k hk => absurd hk (by omega)⟩, fun z => z.1⟩)
  intro σ' h2
  refine am_vc_ok am_k46 [] 100 ?_
  refine am_vV am_k46 am_r46 rfl ⟨t, rfl, rfl, rfl, rfl, rfl, rfl, fun q a1 a2 => by rw [h2.1 q a2, u3_kk _ _ a1], by rw [h2.1 5 (by decide), u3_eq], fun s hs => ?_⟩
  rw [h2.2 s hs]
  refine cI_cg ?_
  unfold ftN
  rw [ec, e57, e58, eW]
  exact Iff.rfl
theorem x_fitsNow {v : Int32} (hv : σ 27 0 0 = v) (h01 : v = 0 ∨ v = 1) : am_D l 49 [aR 5 0] σ τ (rX t) cX lX (some (aI v)) σ τ (rX t) := by
  refine am_D_of am_o49 am_l49 rfl ?_
  refine am_vc_ok am_k49 [] 100 ?_
  refine And.intro (vp_in_nI (N := 64) (show 0 < 64 by decide) (by decide)) ?_
  have e : σ 27 0 (Int32.toNatClampNeg 0) = v := hv
  rw [e]
  exact am_vZ am_k49 am_r49 rfl h01 ⟨rfl, rfl, rfl, rfl, rfl, rfl⟩
theorem sh_and : ∀ a, a < 6 → ∀ c, c < 64 → ((1 : Int32) <<< (nI a &&& 31)) &&& nI c = nI (bif mb c a then 2 ^ a else 0) := by decide +kernel
theorem x_fitsWith {a c : Nat} {v : Int32} (ha : a < 6) (hc : c < 64) (h5 : σ 5 0 2 = nI c) (hv : σ 27 0 (bif mb c a then 2 ^ a else 0) = v) (h01 : v = 0 ∨ v = 1) : am_D l 50 [aR 5 0, aI (nI a)] σ τ (rX t) cX lX (some (aI v)) σ τ (rX t) := by
  have hl : (bif mb c a then 2 ^ a else 0) < 64 := by
    cases mb c a
    · show 0 < 64; decide
    · exact p2_lt a ha
  refine am_D_of am_o50 am_l50 rfl ?_
  refine am_vc_ok am_k50 [] 100 ?_
  refine And.intro (by rw [h5, sh_and a ha c hc]; exact vp_in_nI (N := 64) hl (by decide)) ?_
  rw [h5, sh_and a ha c hc, nI_clamp (by omega), hv]
  exact am_vZ am_k50 am_r50 rfl h01 ⟨rfl, rfl, rfl, rfl, rfl, rfl⟩
end L44
