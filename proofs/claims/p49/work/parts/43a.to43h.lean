/-! the class's survey -/
section L44
variable {l : Launch} {σ σ2 : tI} {τ τ2 : tL} {t : Option (Nat × Nat)}
theorem ftN_s {s k : Nat} : ftN σ s (k + 1) ↔ ftN σ s k ∧ okW σ k (vv (σ 57 0) (σ 58 0) s (k / 6)) (vv (σ 57 0) (σ 58 0) s (k % 6)) := by
  constructor
  · intro z
    exact ⟨fun j hj => z j (by omega), z k (by omega)⟩
  · rintro ⟨z1, z2⟩ j hj
    by_cases e : j = k
    · rw [e]; exact z2
    · exact z1 j (by omega)
theorem x_sv1 {Q : tQ} (hR : Rserv σ) (K : am_G l 46 Q 0 0 50 [(3, aI (nI 6)), (0, aR 5 0), (1, aR 24 0), (2, aR 41 0)] [] (u3 σ 5 0 2 (nI (chS σ))) τ (rX t) cX lX) : ∀ (d k : Nat) (v : Int32), k + d = 6 → v = nI (chN (σ 57 0) (σ 58 0) k) → am_G l 46 Q 0 0 7 [(3, aI (nI k)), (0, aR 5 0), (1, aR 24 0), (2, aR 41 0)] [] (u3 σ 5 0 2 v) τ (rX t) cX lX
  | 0, k, v, h, hv => by
    obtain rfl : k = 6 := by omega
    rw [hv]
    refine am_vc_ok am_k46 [7, 50] 100 ?_
    exact And.intro (fun _ => K) (fun h1 => absurd (show (6 : Int32) ≤ nI 6 by decide) h1)
  | d + 1, k, v, h, hv => by
    have hk : k < 6 := by omega
    obtain ⟨⟨v0, w0, -, -, n1, n2, n3, n4⟩, -⟩ := hR k hk
    have q0 : u3 σ 5 0 2 v 8 k 0 = σ 57 0 k := by rw [u3_k _ _ (by decide), n1, n2]
    have q1 : u3 σ 5 0 2 v 8 k 1 = σ 58 0 k := by rw [u3_k _ _ (by decide), n3, n4]
    have fin : ∀ w : Int32, w = nI (chN (σ 57 0) (σ 58 0) (k + 1)) → am_G l 46 Q 0 0 7 [(3, aI (nI k + 1)), (0, aR 5 0), (1, aR 24 0), (2, aR 41 0)] [] (u3 (u3 σ 5 0 2 v) 5 0 2 w) τ (rX t) cX lX := by
      intro w hw
      rw [u3_tw, show nI k + 1 = nI (k + 1) from nI_1 k]
      exact x_sv1 hR K d (k + 1) w (by omega) hw
    refine am_vc_ok am_k46 [7, 50] 100 ?_
    refine And.intro (fun h1 => absurd h1 (nI_ge (b := 6) (by omega) (by decide))) (fun _ => ?_)
    refine And.intro (vp_in_nI (N := 6) hk (by decide)) ?_
    refine And.intro (vp_in_nI (N := 6) hk (by decide)) ?_
    rw [nI_clamp (n := k) (by omega), u3_eq, q0]
    refine And.intro (fun e => ?_) (fun e => ?_)
    · have e : σ 57 0 k = σ 58 0 k := Eq.trans e q1
      exact fin (v ||| 0) (by rw [chN, if_pos e, hv]; simp)
    · have e : ¬ σ 57 0 k = σ 58 0 k := fun z => e (z.trans q1.symm)
      exact fin (v ||| ((1 : Int32) <<< (nI k &&& 31))) (by rw [chN, if_neg e, hv, or_ad _ (chN_lt (by omega)) k hk])
theorem x_sv2 {Q : tQ} {c : Nat} (hc : c < 64) (h5 : σ 5 0 2 = nI c) (K : ∀ σ', afP σ σ' (fun s => sub s c) → am_G l 46 Q 0 0 86 [(3, aI (nI 64)), (0, aR 5 0), (1, aR 24 0), (2, aR 41 0)] [] σ' τ (rX t) cX lX) : ∀ (d k : Nat) (σ' : tI), k + d = 64 → (∀ q, q ≠ 27 → σ' q = σ q) → (∀ s, s < k → σ' 27 0 s = cI (sub s c)) → am_G l 46 Q 0 0 52 [(3, aI (nI k)), (0, aR 5 0), (1, aR 24 0), (2, aR 41 0)] [] σ' τ (rX t) cX lX
  | 0, k, σ', h, h1, h2 => by
    obtain rfl : k = 64 := by omega
    refine am_vc_ok am_k46 [52, 86] 100 ?_
    exact And.intro (fun _ => K σ' ⟨h1, h2⟩) (fun h1 => absurd (show (64 : Int32) ≤ nI 64 by decide) h1)
  | d + 1, k, σ', h, h1, h2 => by
    have hk : k < 64 := by omega
    have q0 : σ' 5 0 2 = nI c := by rw [h1 5 (by decide), h5]
    have hs0 : (nI k &&& (σ' 5 0 2 ^^^ (-1)) = 0) ↔ sub k c := by
      rw [q0]
      exact sub_0 k hk c hc
    have fin : ∀ w : Int32, w = cI (sub k c) → am_G l 46 Q 0 0 52 [(3, aI (nI k + 1)), (0, aR 5 0), (1, aR 24 0), (2, aR 41 0)] [] (u3 σ' 27 0 k w) τ (rX t) cX lX := by
      intro w hw
      rw [show nI k + 1 = nI (k + 1) from nI_1 k]
      refine x_sv2 hc h5 K d (k + 1) _ (by omega) (fun q hq => by rw [u3_kk _ _ hq]; exact h1 q hq) (fun s hs => ?_)
      by_cases e : s = k
      · rw [e, u3_eq]; exact hw
      · rw [u3_j _ _ e]; exact h2 s (by omega)
    refine am_vc_ok am_k46 [52, 86] 100 ?_
    refine And.intro (fun h1 => absurd h1 (nI_ge (b := 64) (by omega) (by decide))) (fun _ => ?_)
    refine And.intro (fun e => ?_) (fun e => ?_)
    · have e := hs0.mp e
      refine And.intro (⟨vp_in_nI (N := 64) hk (by decide), Or.inr rfl⟩) ?_
      rw [nI_clamp (n := k) (by omega)]
      exact fin 1 (cI_t e).symm
    · have e : ¬ sub k c := fun z => e (hs0.mpr z)
      refine And.intro (⟨vp_in_nI (N := 64) hk (by decide), Or.inl rfl⟩) ?_
      rw [nI_clamp (n := k) (by omega)]
      exact fin 0 (cI_f e).symm
theorem x_sv3 {Q : tQ} (hR : Rserv σ) (hSh : Rshapes σ) {a : Nat} (ha : a < 6) (K : ∀ σ', afP σ σ' (fun s => sub s (chS σ) ∧ ftN σ s (6 * a + 6)) → am_G l 46 Q 0 0 142 [(4, aI (nI 6)), (3, aI (nI a)), (0, aR 5 0), (1, aR 24 0), (2, aR 41 0)] [] σ' τ (rX t) cX lX) : ∀ (d b : Nat) (σ' : tI), b + d = 6 → afP σ σ' (fun s => sub s (chS σ) ∧ ftN σ s (6 * a + b)) → am_G l 46 Q 0 0 97 [(4, aI (nI b)), (3, aI (nI a)), (0, aR 5 0), (1, aR 24 0), (2, aR 41 0)] [] σ' τ (rX t) cX lX
  | 0, b, σ', h, hP => by
    obtain rfl : b = 6 := by omega
    refine am_vc_ok am_k46 [97, 142] 100 ?_
    exact And.intro (fun _ => K σ' hP) (fun h1 => absurd (show (6 : Int32) ≤ nI 6 by decide) h1)
  | d + 1, b, σ', h, hP => by
    have hb : b < 6 := by omega
    have fin : ∀ s2, afP σ s2 (fun s => sub s (chS σ) ∧ ftN σ s (6 * a + b + 1)) → am_G l 46 Q 0 0 97 [(4, aI (nI b + 1)), (3, aI (nI a)), (0, aR 5 0), (1, aR 24 0), (2, aR 41 0)] [] s2 τ (rX t) cX lX := by
      intro s2 h2
      rw [show nI b + 1 = nI (b + 1) from nI_1 b]
      exact x_sv3 hR hSh ha K d (b + 1) s2 (by omega) h2
    obtain ⟨⟨x0, x1, hx0, hx1, n1, n2, n3, n4⟩, g2⟩ := hR a ha
    obtain ⟨⟨y0, y1, hy0, hy1, m1, m2, m3, m4⟩, -⟩ := hR b hb
    obtain ⟨g3, g4⟩ := g2 b hb
    have q1 : (6 * a + b) / 6 = a := by omega
    have q2 : (6 * a + b) % 6 = b := by omega
    have w31 : σ' 31 = σ 31 := hP.1 31 (by decide)
    have w8 : σ' 8 = σ 8 := hP.1 8 (by decide)
    refine am_vc_ok am_k46 [97, 142] 100 ?_
    refine And.intro (fun h1 => absurd h1 (nI_ge (b := 6) (by omega) (by decide))) (fun _ => ?_)
    refine And.intro (vp_in_nI (N := 6) ha (by decide)) ?_
    rw [nI_clamp (n := a) (by omega)]
    refine And.intro (vp_in_nI (N := 6) hb (by decide)) ?_
    rw [nI_clamp (n := b) (by omega), w31]
    rcases g4 with g4 | ⟨s, hs, g4, g5, hab⟩
    · rw [g4]
      refine am_vS am_k46 am_h46 rfl rfl rfl rfl (x_within) ?_
      refine am_vc_ok am_k46 [97, 142] 100 ?_
      refine And.intro (fun _ => ?_) (fun e => absurd (bI_1.mp e) (by decide))
      refine am_Gp [0, 2, 3, 4, 5] rfl (fin σ' (hP.cg fun s _ => and_congr_right fun _ => ?_))
      rw [ftN_s]
      exact ⟨fun z => ⟨z, Or.inl (by rw [← g3, g4])⟩, fun z => z.1⟩
    · rcases hSh s hs with ⟨-, z⟩ | ⟨S, hS⟩
      · exact absurd z g5
      have hw4 : σ 49 0 s = nI (sN S) := hS.2.2.2.1
      rw [g4]
      refine am_vS am_k46 am_h46 rfl rfl rfl rfl (x_within) ?_
      refine am_vc_ok am_k46 [97, 142] 100 ?_
      refine And.intro (fun e => absurd (in4 hs) (bI_0.mp e)) (fun _ => ?_)
      refine And.intro (vp_in_nI (N := 4) hs (by decide)) ?_
      rw [nI_clamp (n := s) (by omega)]
      refine am_vOT am_k46 am_h46 rfl rfl rfl rfl (x_barSets (x0 := x0) (x1 := x1) (y0 := y0) (y1 := y1) hP.2 (hS.fr (fun k hk => hP.1 k (kNe hk rfl))) ha hb hab hx0 hx1 hy0 hy1 (by rw [w8]; exact n1) (by rw [w8]; exact n3) (by rw [w8]; exact m1) (by rw [w8]; exact m3)) ?_
      rintro r s2 τ2 t2 ⟨rfl, rfl, rfl, hP2⟩
      refine am_vc_ok am_k46 [97, 142] 100 ?_
      refine am_Gp [0, 2, 3, 4, 5] rfl (fin s2 ((hP.tr hP2).cg fun z hz => ?_))
      have hiff := okP_n (σ := σ) (x := vv (σ 57 0) (σ 58 0) z a) (y := vv (σ 57 0) (σ 58 0) z b) hs hw4 hS.1.1
      have e : fitP σ' s (sN S) = fitP σ s (sN S) := by funext x y; exact fitP_k (hP.1 50 (by decide)) (hP.1 49 (by decide))
      rw [ftN_s, q1, q2, e, ← n2, ← n4, ← m2, ← m4, and_assoc]
      refine and_congr_right fun _ => and_congr_right fun _ => ?_
      show _ ↔ okP σ (σ 59 0 (6 * a + b)) _ _
      rw [← g3, g4]
      exact hiff.symm
theorem x_sv4 {Q : tQ} (hR : Rserv σ) (hSh : Rshapes σ) (K : ∀ σ', afP σ σ' (fun s => sub s (chS σ) ∧ ftN σ s 36) → am_G l 46 Q 0 0 148 [(3, aI (nI 6)), (0, aR 5 0), (1, aR 24 0), (2, aR 41 0)] [] σ' τ (rX t) cX lX) : ∀ (d a : Nat) (σ' : tI), a + d = 6 → afP σ σ' (fun s => sub s (chS σ) ∧ ftN σ s (6 * a)) → am_G l 46 Q 0 0 88 [(3, aI (nI a)), (0, aR 5 0), (1, aR 24 0), (2, aR 41 0)] [] σ' τ (rX t) cX lX
  | 0, a, σ', h, hP => by
    obtain rfl : a = 6 := by omega
    refine am_vc_ok am_k46 [88, 148] 100 ?_
    exact And.intro (fun _ => K σ' hP) (fun h1 => absurd (show (6 : Int32) ≤ nI 6 by decide) h1)
  | d + 1, a, σ', h, hP => by
    refine am_vc_ok am_k46 [88, 97, 148] 100 ?_
    refine And.intro (fun h1 => absurd h1 (nI_ge (b := 6) (by omega) (by decide))) (fun _ => ?_)
    refine x_sv3 hR hSh (by omega) ?_ 6 0 σ' (by omega) hP
    intro s2 h2
    refine am_vc_ok am_k46 [88] 100 ?_
    rw [show 6 * a + 6 = 6 * (a + 1) by omega] at h2
    have K2 := x_sv4 hR hSh K d (a + 1) s2 (by omega) h2
    rw [← nI_1 a] at K2
    exact am_Gp [0, 2, 3, 4] rfl K2
/-- what survey leaves -/
def svP (σ s2 : tI) : Prop := (∀ q, q ≠ 5 → q ≠ 27 → s2 q = σ q) ∧ s2 5 0 2 = nI (chS σ) ∧ ∀ s, s < 64 → s2 27 0 s = cI (fsS σ s)
theorem Rserv.k5 {v : Int32} (h : Rserv σ) : Rserv (u3 σ 5 0 2 v) := h.fr (fun a _ => by rw [u3_kk _ _ (show 8 ≠ 5 by decide)]; exact ⟨rfl, rfl⟩) (u3_kk _ _ (by decide)) (u3_kk _ _ (by decide)) (u3_kk _ _ (by decide)) (u3_kk _ _ (by decide)) (fun s _ hs => by rw [u3_kk _ _ (show 49 ≠ 5 by decide)]; exact hs)
theorem x_survey (hR : Rserv σ) (hSh : Rshapes σ) : am_T l 46 [aR 5 0, aR 24 0, aR 41 0] σ τ t (fun r s2 τ2 t2 => r = none ∧ τ2 = τ ∧ t2 = t ∧ svP σ s2) := by
  refine am_T_of am_o46 am_l46 rfl ?_
  refine am_vc_ok am_k46 [7] 100 ?_
  refine x_sv1 hR ?_ 6 0 _ (by omega) rfl
  refine am_vc_ok am_k46 [52] 100 ?_
  have e57 : u3 σ 5 0 2 (nI (chS σ)) 57 = σ 57 := u3_kk _ _ (by decide)
  have e58 : u3 σ 5 0 2 (nI (chS σ)) 58 = σ 58 := u3_kk _ _ (by decide)
  have eW : okW (u3 σ 5 0 2 (nI (chS σ))) = okW σ := okW_k (u3_kk _ _ (by decide)) (u3_kk _ _ (by decide)) (u3_kk _ _ (by decide))
  have ec : chS (u3 σ 5 0 2 (nI (chS σ))) = chS σ := by
    unfold chS
    rw [e57, e58]
  have hR2 := hR.k5 (v := nI (chS σ))
  have hS2 : Rshapes (u3 σ 5 0 2 (nI (chS σ))) := hSh.fr (fun k hk => u3_kk _ _ (kNe hk rfl))
  refine x_sv2 (c := chS σ) chS_lt (u3_eq _ _ _ _ _) ?_ 64 0 _ (by omega) (fun _ _ => rfl) (fun s hs => absurd hs (by omega))
  intro σ1 h1
  refine am_vc_ok am_k46 [88] 100 ?_
  refine x_sv4 hR2 hS2 ?_ 6 0 σ1 (by omega) (h1.cg fun s _ => by rw [ec]; exact ⟨fun z => ⟨z, fun k hk => absurd hk (by omega)⟩, fun z => z.1⟩)
  intro σ' h2
  refine am_vc_ok am_k46 [] 100 ?_
  refine am_vV am_k46 am_r46 rfl ⟨t, rfl, rfl, rfl, rfl, rfl, rfl, fun q a1 a2 => by rw [h2.1 q a2, u3_kk _ _ a1], by rw [h2.1 5 (by decide), u3_eq], fun s hs => ?_⟩
  rw [h2.2 s hs]
  refine cI_cg ?_
  unfold ftN
  rw [ec, e57, e58, eW]
  exact Iff.rfl
theorem x_fitsNow {v : Int32} (hv : σ 27 0 0 = v) (h01 : v = 0 ∨ v = 1) : am_D l 49 [aR 5 0] σ τ (rX t) cX lX (some (aI v)) σ τ (rX t) := by
  refine am_D_of am_o49 am_l49 rfl ?_
  refine am_vc_ok am_k49 [] 100 ?_
  refine And.intro (vp_in_nI (N := 64) (show 0 < 64 by decide) (by decide)) ?_
  have e : σ 27 0 (Int32.toNatClampNeg 0) = v := hv
  rw [e]
  exact am_vZ am_k49 am_r49 rfl h01 ⟨rfl, rfl, rfl, rfl, rfl, rfl⟩
theorem sh_and : ∀ a, a < 6 → ∀ c, c < 64 → ((1 : Int32) <<< (nI a &&& 31)) &&& nI c = nI (bif mb c a then 2 ^ a else 0) := by decide +kernel
theorem x_fitsWith {a c : Nat} {v : Int32} (ha : a < 6) (hc : c < 64) (h5 : σ 5 0 2 = nI c) (hv : σ 27 0 (bif mb c a then 2 ^ a else 0) = v) (h01 : v = 0 ∨ v = 1) : am_D l 50 [aR 5 0, aI (nI a)] σ τ (rX t) cX lX (some (aI v)) σ τ (rX t) := by
  have hl : (bif mb c a then 2 ^ a else 0) < 64 := by
    cases mb c a
    · show 0 < 64; decide
    · exact p2_lt a ha
  refine am_D_of am_o50 am_l50 rfl ?_
  refine am_vc_ok am_k50 [] 100 ?_
  refine And.intro (by rw [h5, sh_and a ha c hc]; exact vp_in_nI (N := 64) hl (by decide)) ?_
  rw [h5, sh_and a ha c hc, nI_clamp (by omega), hv]
  exact am_vZ am_k50 am_r50 rfl h01 ⟨rfl, rfl, rfl, rfl, rfl, rfl⟩
end L44

/-! the class's search -/
section L45
variable {l : Launch} {σ σ2 : tI} {τ τ2 : tL} {t : Option (Nat × Nat)}
def mrP (σ : tI) (k a : Nat) : Prop := ∃ x, x < a ∧ mb k x = true ∧ σ 28 0 (dl k x) = 1
theorem mrP_s {k a : Nat} : mrP σ k (a + 1) ↔ mrP σ k a ∨ (mb k a = true ∧ σ 28 0 (dl k a) = 1) := by
  constructor
  · rintro ⟨x, hx, h1, h2⟩
    by_cases e : x = a
    · rw [e] at h1 h2; exact Or.inr ⟨h1, h2⟩
    · exact Or.inl ⟨x, by omega, h1, h2⟩
  · rintro (⟨x, hx, h1, h2⟩ | ⟨h1, h2⟩)
    · exact ⟨x, by omega, h1, h2⟩
    · exact ⟨a, by omega, h1, h2⟩
theorem x_mr_i {Q : tQ} {k : Nat} (hk : k < 64) (h01 : ∀ s, s < k → σ 28 0 s = 0 ∨ σ 28 0 s = 1) (K : am_G l 52 Q 0 0 69 [(3, aI (nI 6)), (2, aI (cI (mrP σ k 6))), (1, aI (nI k)), (0, aR 5 0)] [] σ τ (rX t) cX lX) : ∀ (d a : Nat) (w : Int32), a + d = 6 → w = cI (mrP σ k a) → am_G l 52 Q 0 0 24 [(3, aI (nI a)), (2, aI w), (1, aI (nI k)), (0, aR 5 0)] [] σ τ (rX t) cX lX
  | 0, a, w, h, hw => by
    obtain rfl : a = 6 := by omega
    rw [hw]
    refine am_vc_ok am_k52 [24, 69] 100 ?_
    exact And.intro (fun _ => K) (fun h1 => absurd (show (6 : Int32) ≤ nI 6 by decide) h1)
  | d + 1, a, w, h, hw => by
    have ha : a < 6 := by omega
    have fin : ∀ v : Int32, v = cI (mrP σ k (a + 1)) → am_G l 52 Q 0 0 24 [(3, aI (nI a + 1)), (2, aI v), (1, aI (nI k)), (0, aR 5 0)] [] σ τ (rX t) cX lX := by
      intro v hv
      rw [show nI a + 1 = nI (a + 1) from nI_1 a]
      exact x_mr_i hk h01 K d (a + 1) v (by omega) hv
    refine am_vc_ok am_k52 [24, 69] 100 ?_
    refine And.intro (fun h1 => absurd h1 (nI_ge (b := 6) (by omega) (by decide))) (fun _ => ?_)
    refine And.intro (fun e => ?_) (fun e => ?_)
    · have e : w = 0 := e
      rw [hw] at e
      have e := cI_0.mp e
      refine And.intro (fun g => ?_) (fun g => ?_)
      · have g := (x_mb k hk a ha).mp g
        exact am_Gp [0, 1, 2, 3] rfl (fin 0 (cI_f (fun z => (mrP_s.mp z).elim e (fun y => absurd (g.symm.trans y.1) (by decide)))).symm)
      · have g : mb k a = true := by
          cases hg : mb k a with
          | true => rfl
          | false => exact absurd ((x_mb k hk a ha).mpr hg) g
        have hd := dl_lt k hk a ha g
        refine And.intro (by rw [and_dl k hk a ha]; exact vp_in_nI (N := 64) (by omega) (by decide)) ?_
        rw [and_dl k hk a ha, nI_clamp (n := dl k a) (by omega)]
        refine And.intro (fun y => ?_) (fun y => ?_)
        · have y : σ 28 0 (dl k a) = 0 := y
          exact am_Gp [0, 1, 2, 3] rfl (fin 0 (cI_f (fun z => (mrP_s.mp z).elim e (fun x => absurd (y.symm.trans x.2) (by decide)))).symm)
        · have y : ¬ σ 28 0 (dl k a) = 0 := y
          exact am_Gp [0, 1, 2, 3] rfl (fin 1 (cI_t (mrP_s.mpr (Or.inr ⟨g, (h01 _ (by omega)).resolve_left y⟩))).symm)
    · have e : ¬ w = 0 := e
      rw [hw] at e
      have e := cI_n0.mp e
      exact am_Gp [0, 1, 2, 3] rfl (fin 1 (cI_t (mrP_s.mpr (Or.inl e))).symm)
/-- sets below n are told -/
def roP (F : Nat → Prop) (σ σ' : tI) (n : Nat) : Prop := (∀ q, q ≠ 28 → σ' q = σ q) ∧ (∀ s, s < n → σ' 28 0 s = 0 ∨ σ' 28 0 s = 1) ∧ ∀ s, s < n → (σ' 28 0 s = 1 ↔ F s ∧ (s = 0 ∨ ∃ a, a < 6 ∧ mb s a = true ∧ σ' 28 0 (dl s a) = 1))
theorem roP_s {F : Nat → Prop} {σ' : tI} {k : Nat} (hk : k < 64) (h : roP F σ σ' k) {v : Int32} (hv : v = cI ((k = 0 ∨ mrP σ' k 6) ∧ F k)) : roP F σ (u3 σ' 28 0 k v) (k + 1) := by
  obtain ⟨h1, h2, h3⟩ := h
  have e1 : ∀ s, s ≠ k → u3 σ' 28 0 k v 28 0 s = σ' 28 0 s := fun s hs => by rw [u3_j _ _ hs]
  have e2 : u3 σ' 28 0 k v 28 0 k = v := by simp [u3]
  refine ⟨fun q hq => by rw [u3_kk _ _ hq]; exact h1 q hq, fun s hs => ?_, fun s hs => ?_⟩
  · by_cases e : s = k
    · rw [e, e2, hv]; exact cI_01
    · rw [e1 s e]; exact h2 s (by omega)
  · by_cases e : s = k
    · subst e
      have z : mrP σ' s 6 ↔ (∃ a, a < 6 ∧ mb s a = true ∧ u3 σ' 28 0 s v 28 0 (dl s a) = 1) := by
        unfold mrP
        refine exists_congr fun a => and_congr_right fun ha => and_congr_right fun hm => ?_
        rw [e1 _ (by have := dl_lt s hk a ha hm; omega)]
      have y : v = 1 ↔ ((s = 0 ∨ mrP σ' s 6) ∧ F s) := by
        rw [hv]
        exact cI_1
      rw [e2, y, z]
      exact And.comm
    · rw [e1 s e, h3 s (by omega)]
      refine and_congr_right fun _ => or_congr_right (exists_congr fun a => and_congr_right fun ha => and_congr_right fun hm => ?_)
      rw [e1 _ (by have := dl_lt s (by omega) a ha hm; omega)]
theorem x_mr_o {Q : tQ} {F : Nat → Prop} (hF : ∀ s, s < 64 → σ 27 0 s = cI (F s)) (K : ∀ σ', roP F σ σ' 64 → am_G l 52 Q 0 0 99 [(1, aI (nI 64)), (0, aR 5 0)] [] σ' τ (rX t) cX lX) : ∀ (d k : Nat) (σ' : tI), k + d = 64 → 1 ≤ k → roP F σ σ' k → am_G l 52 Q 0 0 14 [(1, aI (nI k)), (0, aR 5 0)] [] σ' τ (rX t) cX lX
  | 0, k, σ', h, h1, hP => by
    obtain rfl : k = 64 := by omega
    refine am_vc_ok am_k52 [14, 99] 100 ?_
    exact And.intro (fun _ => K σ' hP) (fun h1 => absurd (show (64 : Int32) ≤ nI 64 by decide) h1)
  | d + 1, k, σ', h, h1, hP => by
    have hk : k < 64 := by omega
    have q27 : σ' 27 0 k = cI (F k) := by rw [hP.1 27 (by decide)]; exact hF k hk
    have fin : ∀ v : Int32, v = cI (mrP σ' k 6 ∧ F k) → am_G l 52 Q 0 0 14 [(1, aI (nI k + 1)), (0, aR 5 0)] [] (u3 σ' 28 0 k v) τ (rX t) cX lX := by
      intro v hv
      rw [show nI k + 1 = nI (k + 1) from nI_1 k]
      exact x_mr_o hF K d (k + 1) _ (by omega) (by omega) (roP_s hk hP (hv.trans (cI_cg (and_congr_left fun _ => ⟨Or.inr, fun z => z.resolve_left (by omega)⟩))))
    refine am_vc_ok am_k52 [14, 24, 99] 100 ?_
    refine And.intro (fun h1 => absurd h1 (nI_ge (b := 64) (by omega) (by decide))) (fun _ => ?_)
    refine am_Gp (ls2 := [(3, aI (nI 0)), (2, aI 0), (1, aI (nI k)), (0, aR 5 0)]) [0, 1, 2, 3] rfl ?_
    refine x_mr_i hk (fun s hs => hP.2.1 s hs) ?_ 6 0 0 (by omega) (cI_f (fun ⟨x, hx, _⟩ => absurd hx (by omega))).symm
    refine am_vc_ok am_k52 [14] 100 ?_
    refine And.intro (fun e => ?_) (fun e => ?_)
    · have e := cI_0.mp e
      refine And.intro (⟨vp_in_nI (N := 64) hk (by decide), Or.inl rfl⟩) ?_
      rw [nI_clamp (n := k) (by omega)]
      exact am_Gp [0, 3] rfl (fin 0 (cI_f (fun z => e z.1)).symm)
    · have e := cI_n0.mp e
      refine And.intro (vp_in_nI (N := 64) hk (by decide)) ?_
      rw [nI_clamp (n := k) (by omega), q27]
      refine And.intro (fun g => ?_) (fun g => ?_)
      · have g := cI_0.mp g
        refine And.intro (⟨vp_in_nI (N := 64) hk (by decide), Or.inl rfl⟩) ?_
        rw [nI_clamp (n := k) (by omega)]
        exact am_Gp [0, 3] rfl (fin 0 (cI_f (fun z => g z.2)).symm)
      · have g := cI_n0.mp g
        refine And.intro (⟨vp_in_nI (N := 64) hk (by decide), Or.inr rfl⟩) ?_
        rw [nI_clamp (n := k) (by omega)]
        exact am_Gp [0, 3] rfl (fin 1 (cI_t ⟨e, g⟩).symm)
theorem x_markReached {F : Nat → Prop} (hF : ∀ s, s < 64 → σ 27 0 s = cI (F s)) : am_T l 52 [aR 5 0] σ τ t (fun r s2 τ2 t2 => r = none ∧ τ2 = τ ∧ t2 = t ∧ roP F σ s2 64) := by
  have e0 : σ 27 0 (Int32.toNatClampNeg 0) = cI (F 0) := hF 0 (by decide)
  refine am_T_of am_o52 am_l52 rfl ?_
  refine am_vc_ok am_k52 [14] 100 ?_
  refine And.intro (vp_in_nI (N := 64) (show 0 < 64 by decide) (by decide)) ?_
  rw [e0]
  refine And.intro (⟨vp_in_nI (N := 64) (show 0 < 64 by decide) (by decide), cI_01⟩) ?_
  refine am_Gp (ls2 := [(1, aI (nI 1)), (0, aR 5 0)]) [0, 1] rfl ?_
  refine x_mr_o hF ?_ 63 1 _ (by omega) (by omega) (roP_s (k := 0) (by decide) ⟨fun _ _ => rfl, fun s hs => absurd hs (by omega), fun s hs => absurd hs (by omega)⟩ (cI_cg ⟨fun z => ⟨Or.inl rfl, z⟩, fun z => z.2⟩))
  intro σ' hP
  refine am_vc_ok am_k52 [] 100 ?_
  exact am_vV am_k52 am_r52 rfl ⟨t, rfl, rfl, rfl, rfl, rfl, rfl, hP⟩
def bcI (i : Int32) : Int32 :=
  let u (x : Int32) (y : Int32) : Int32 := (x.toUInt32 >>> (y.toUInt32 &&& Int32.toUInt32 31)).toInt32
  let i1 := i - (u i 1 &&& 1431655765)
  let i2 := (i1 &&& 858993459) + (u i1 2 &&& 858993459)
  let i3 := (i2 + u i2 4) &&& 252645135
  let i4 := i3 + u i3 8
  let i5 := i4 + u i4 16
  i5 &&& 63
theorem bcI_pc : ∀ s, s < 64 → bcI (nI s) = nI (pc s) := by decide +kernel
theorem x_bitCount {s : Nat} (hs : s < 64) : am_D l 259 [aI (nI s)] σ τ (rX t) cX lX (some (aI (nI (pc s)))) σ τ (rX t) := by
  rw [← bcI_pc s hs]
  refine am_D_of am_o259 am_l259 rfl ?_
  refine am_vc_ok am_k259 [] 100 ?_
  exact am_vI am_k259 am_r259 rfl ⟨rfl, rfl, rfl, rfl, rfl, rfl⟩
theorem x_mo_lp {Q : tQ} (h01 : ∀ s, s < 64 → σ 28 0 s = 0 ∨ σ 28 0 s = 1) (K : am_G l 53 Q 0 0 38 [(2, aI (nI 64)), (1, aI (nI (bst (fun s => σ 28 0 s = 1) 64))), (0, aR 5 0)] [] σ τ (rX t) cX lX) : ∀ (d k : Nat) (v : Int32), k + d = 64 → v = nI (bst (fun s => σ 28 0 s = 1) k) → am_G l 53 Q 0 0 4 [(2, aI (nI k)), (1, aI v), (0, aR 5 0)] [] σ τ (rX t) cX lX
  | 0, k, v, h, hv => by
    obtain rfl : k = 64 := by omega
    rw [hv]
    refine am_vc_ok am_k53 [4, 38] 100 ?_
    exact And.intro (fun _ => K) (fun h1 => absurd (show (64 : Int32) ≤ nI 64 by decide) h1)
  | d + 1, k, v, h, hv => by
    have hk : k < 64 := by omega
    have hb : bst (fun s => σ 28 0 s = 1) k < 64 := bst_lt (by omega)
    have p1 := pc_6 k hk
    have p2 := pc_6 _ hb
    have fin : ∀ v : Int32, v = nI (bst (fun s => σ 28 0 s = 1) (k + 1)) → am_G l 53 Q 0 0 4 [(2, aI (nI k + 1)), (1, aI v), (0, aR 5 0)] [] σ τ (rX t) cX lX := by
      intro v hv
      rw [show nI k + 1 = nI (k + 1) from nI_1 k]
      exact x_mo_lp h01 K d (k + 1) v (by omega) hv
    rw [hv]
    refine am_vc_ok am_k53 [4, 38] 100 ?_
    refine And.intro (fun h1 => absurd h1 (nI_ge (b := 64) (by omega) (by decide))) (fun _ => ?_)
    refine And.intro (vp_in_nI (N := 64) hk (by decide)) ?_
    rw [nI_clamp (n := k) (by omega)]
    refine And.intro (fun e => ?_) (fun e => ?_)
    · have e : σ 28 0 k = 0 := e
      exact am_Gp [0, 1, 2] rfl (fin _ (by rw [bst, if_neg (fun z => absurd (e.symm.trans z.1) (by decide))]))
    · have e : ¬ σ 28 0 k = 0 := e
      refine am_vS am_k53 am_h53 rfl rfl rfl rfl (x_bitCount hk) ?_
      refine am_vc_ok am_k53 [4, 38] 100 ?_
      refine am_vS am_k53 am_h53 rfl rfl rfl rfl (x_bitCount hb) ?_
      refine am_vc_ok am_k53 [4, 38] 100 ?_
      refine And.intro (fun g => ?_) (fun g => ?_)
      · have g : ¬ pc (bst (fun s => σ 28 0 s = 1) k) < pc k := fun z => absurd g (Int32.not_le.mpr (nI_lt z (by omega)))
        exact am_Gp [0, 1, 2] rfl (fin _ (by rw [bst, if_neg (fun z => g z.2)]))
      · have g : pc (bst (fun s => σ 28 0 s = 1) k) < pc k := (nI_ltI (by omega) (by omega)).mp (Int32.not_le.mp g)
        exact am_Gp [0, 1, 2] rfl (fin _ (by rw [bst, if_pos ⟨(h01 k hk).resolve_left e, g⟩]))
theorem x_mostReached (h01 : ∀ s, s < 64 → σ 28 0 s = 0 ∨ σ 28 0 s = 1) : am_D l 53 [aR 5 0] σ τ (rX t) cX lX (some (aI (nI (bst (fun s => σ 28 0 s = 1) 64)))) σ τ (rX t) := by
  refine am_D_of am_o53 am_l53 rfl ?_
  refine am_vc_ok am_k53 [4] 100 ?_
  refine am_Gp (ls2 := [(2, aI (nI 1)), (1, aI (nI 0)), (0, aR 5 0)]) [0, 1, 2] rfl ?_
  refine x_mo_lp h01 ?_ 63 1 _ (by omega) (by rw [bst_1])
  refine am_vc_ok am_k53 [] 100 ?_
  exact am_vI am_k53 am_r53 rfl ⟨rfl, rfl, rfl, rfl, rfl, rfl⟩
theorem x_ff_lp {Q : tQ} {F : Nat → Prop} {s : Nat} (hs : s < 64) (hF : ∀ s, s < 64 → σ 27 0 s = cI (F s)) (hQ : Q (some (aI (nI (nxt (pX F) s)))) σ τ (rX t) cX lX) : ∀ (d a : Nat), a + d = 6 → (∃ x, a ≤ x ∧ x < a + d ∧ pX F s x) → nxtN (pX F s) d a = nxt (pX F) s → am_G l 55 Q 0 0 2 [(2, aI (nI a)), (0, aR 5 0), (1, aI (nI s))] [] σ τ (rX t) cX lX
  | 0, a, h, ⟨x, h1, h2, _⟩, _ => absurd h2 (by omega)
  | d + 1, a, h, hx, he => by
    have ha : a < 6 := by omega
    have no : ¬ pX F s a → am_G l 55 Q 0 0 2 [(2, aI (nI a + 1)), (0, aR 5 0), (1, aI (nI s))] [] σ τ (rX t) cX lX := by
      intro hn
      rw [show nI a + 1 = nI (a + 1) from nI_1 a]
      obtain ⟨x, h1, h2, h3⟩ := hx
      exact x_ff_lp hs hF hQ d (a + 1) (by omega) ⟨x, by
        by_cases e : x = a
        · rw [e] at h3; exact absurd h3 hn
        · omega, by omega, h3⟩ (by rw [← he, nxtN_n hn])
    refine am_vc_ok am_k55 [2] 100 ?_
    refine And.intro (fun h1 => absurd h1 (nI_ge (b := 6) (by omega) (by decide))) (fun _ => ?_)
    refine And.intro (fun g => ?_) (fun g => ?_)
    · have g := (x_mb s hs a ha).mp g
      refine And.intro (by rw [or_ad s hs a ha]; exact vp_in_nI (N := 64) (ad_lt s hs a ha) (by decide)) ?_
      rw [or_ad s hs a ha, nI_clamp (n := ad s a) (by have := ad_lt s hs a ha; omega), hF _ (ad_lt s hs a ha)]
      refine And.intro (fun y => ?_) (fun y => ?_)
      · have y := cI_0.mp y
        exact no (fun z => y z.2)
      · have y := cI_n0.mp y
        have hp : pX F s a := ⟨g, y⟩
        rw [← he, nxtN_y hp] at hQ
        exact am_vI am_k55 am_r55 rfl hQ
    · have g : ¬ mb s a = false := fun z => g ((x_mb s hs a ha).mpr z)
      exact no (fun z => g z.1)
theorem x_firstFits {F : Nat → Prop} {s : Nat} (hs : s < 64) (hF : ∀ s, s < 64 → σ 27 0 s = cI (F s)) (hx : ∃ a, 0 ≤ a ∧ a < 0 + 6 ∧ pX F s a) : am_D l 55 [aR 5 0, aI (nI s)] σ τ (rX t) cX lX (some (aI (nI (nxt (pX F) s)))) σ τ (rX t) := by
  refine am_D_of am_o55 am_l55 rfl ?_
  refine am_vc_ok am_k55 [2] 100 ?_
  exact x_ff_lp hs hF ⟨rfl, rfl, rfl, rfl, rfl, rfl⟩ 6 0 (by omega) hx rfl
end L45

/-! the class's layOutSteps, search; order, orderAt, putIn -/
section L46
variable {l : Launch} {σ σ2 : tI} {τ τ2 : tL} {t : Option (Nat × Nat)}
/-- what leads on to c, by so many steps -/
def ldN (r : Nat → Prop) (c : Nat) : Nat → Nat → Prop
  | 0, _ => False
  | n + 1, s => r s ∧ (s = c ∨ ∃ a, a < 6 ∧ mb s a = false ∧ mb c a = true ∧ ldN r c n (ad s a))
theorem ldN_st {r : Nat → Prop} {c : Nat} : ∀ (n m s : Nat), s < 64 → 64 ≤ s + n → 64 ≤ s + m → (ldN r c n s ↔ ldN r c m s)
  | 0, _, s, hs, h, _ => absurd h (by omega)
  | n + 1, 0, s, hs, _, h => absurd h (by omega)
  | n + 1, m + 1, s, hs, h1, h2 => by
    unfold ldN
    refine and_congr_right fun _ => or_congr_right (exists_congr fun a => and_congr_right fun ha => and_congr_right fun hm => and_congr_right fun _ => ?_)
    have := ad_gt s hs a ha hm
    exact ldN_st n m (ad s a) (ad_lt s hs a ha) (by omega) (by omega)
theorem ldN_ok {r : Nat → Prop} {c : Nat} : LDr r (ldN r c 64) c := by
  intro s hs
  show ldN r c 64 s ↔ _
  rw [ldN]
  refine and_congr_right fun _ => or_congr_right (exists_congr fun a => and_congr_right fun ha => and_congr_right fun hm => and_congr_right fun _ => ?_)
  have := ad_gt s hs a ha hm
  exact ldN_st 63 64 (ad s a) (ad_lt s hs a ha) (by omega) (by omega)
theorem x_ls_lp {Q : tQ} {F : Nat → Prop} {c n : Nat} (hn : n ≤ 6) (hc : c < 64) (hF : ∀ s, s < 64 → σ 27 0 s = cI (F s)) (h5 : σ 5 0 2 = nI c) (hG : ∀ k, k ≤ n → gset (pX F) k < 64 ∧ (k < n → ∃ a, 0 ≤ a ∧ a < 0 + 6 ∧ pX F (gset (pX F) k) a) ∧ (gset (pX F) k = c ↔ k = n)) (K : ∀ σ', (∀ q, q ≠ 5 → q ≠ 29 → σ' q = σ q) → (∀ j, j ≠ 4 → σ' 5 0 j = σ 5 0 j) → σ' 5 0 4 = nI n → (∀ j, j < n → σ' 29 0 j = nI (nxt (pX F) (gset (pX F) j))) → Q none σ' τ (rX t) cX lX) : ∀ (d k : Nat) (σ' : tI) (L : am_ls), k + d = n → (∀ q, q ≠ 5 → q ≠ 29 → σ' q = σ q) → (∀ j, j ≠ 4 → σ' 5 0 j = σ 5 0 j) → σ' 5 0 4 = nI k → (∀ j, j < k → σ' 29 0 j = nI (nxt (pX F) (gset (pX F) j))) → am_G l 54 Q 0 0 9 [(2, aI (nI k)), (1, aI (nI (gset (pX F) k))), (0, aR 5 0)] [] σ' τ (rX t) cX lX
  | 0, k, σ', L, h, h1, h2, h3, h4 => by
    obtain rfl : k = n := by omega
    obtain ⟨g1, -, g3⟩ := hG k (Nat.le_refl _)
    have hq : Q none σ' τ (rX t) cX lX := K σ' h1 h2 h3 h4
    have e5 : σ' 5 0 2 = nI c := (h2 2 (by decide)).trans h5
    rw [g3.mpr rfl]
    refine am_vc_ok am_k54 [9] 100 ?_
    refine And.intro (fun _ => ?_) (fun _ => ?_)
    · exact am_vV am_k54 am_r54 rfl hq
    · refine And.intro (fun _ => ?_) (fun e => absurd e5.symm e)
      exact am_vV am_k54 am_r54 rfl hq
  | d + 1, k, σ', L, h, h1, h2, h3, h4 => by
    have hk : k < 6 := by omega
    obtain ⟨g1, g2, g3⟩ := hG k (by omega)
    have g2 := g2 (by omega)
    have hnx := (nxtN_ok 6 0 g2).2
    rw [Nat.zero_add] at hnx
    have e5 : σ' 5 0 2 = nI c := (h2 2 (by decide)).trans h5
    have e27 : σ' 27 = σ 27 := h1 27 (by decide) (by decide)
    refine am_vc_ok am_k54 [9] 100 ?_
    refine And.intro (fun h1 => absurd h1 (nI_ge (b := 6) (by omega) (by decide))) (fun _ => ?_)
    refine And.intro (fun e => absurd (g3.mp (nI_inj' (by omega) (by omega) (Eq.trans e e5))) (by omega)) (fun _ => ?_)
    refine am_vO am_k54 am_h54 rfl rfl rfl rfl (x_firstFits g1 (by rw [e27]; exact hF) g2) ?_
    refine am_vc_ok am_k54 [9] 100 ?_
    refine And.intro (fun e => absurd e (n9_4 (Nat.lt_trans hnx (by decide)))) (fun _ => ?_)
    refine And.intro (by rw [h3]; exact vp_in_nI (N := 6) hk (by decide)) ?_
    rw [h3, nI_clamp (n := k) (by omega)]
    have K2 := x_ls_lp hn hc hF h5 hG K d (k + 1) (u3 (u3 σ' 29 0 k (nI (nxt (pX F) (gset (pX F) k)))) 5 0 4 (nI k + 1)) [] (by omega) (fun q a1 a2 => by rw [u3_kk _ _ a1, u3_kk _ _ a2]; exact h1 q a1 a2) (fun j hj => by rw [u3_j _ _ hj, u3_k _ _ (by decide)]; exact h2 j hj) (by rw [u3_eq, nI_1]) (fun j hj => by
      rw [u3_k _ _ (by decide)]
      by_cases e : j = k
      · rw [e, u3_eq]
      · rw [u3_j _ _ e]; exact h4 j (by omega))
    rw [show gset (pX F) (k + 1) = ad (gset (pX F) k) (nxt (pX F) (gset (pX F) k)) from rfl, ← or_ad _ g1 _ hnx, ← nI_1 k] at K2
    exact am_Gs (by rw [u3_k _ _ (show 5 ≠ 29 by decide), h3]) (am_Gp [0, 1, 3] rfl K2)
theorem x_layOut {F : Nat → Prop} {c n : Nat} (hn : n ≤ 6) (hc : c < 64) (hF : ∀ s, s < 64 → σ 27 0 s = cI (F s)) (h5 : σ 5 0 2 = nI c) (hG : ∀ k, k ≤ n → gset (pX F) k < 64 ∧ (k < n → ∃ a, 0 ≤ a ∧ a < 0 + 6 ∧ pX F (gset (pX F) k) a) ∧ (gset (pX F) k = c ↔ k = n)) : am_T l 54 [aR 5 0] σ τ t (fun r s2 τ2 t2 => r = none ∧ τ2 = τ ∧ t2 = t ∧ (∀ q, q ≠ 5 → q ≠ 29 → s2 q = σ q) ∧ (∀ j, j ≠ 4 → s2 5 0 j = σ 5 0 j) ∧ s2 5 0 4 = nI n ∧ (∀ j, j < n → s2 29 0 j = nI (nxt (pX F) (gset (pX F) j)))) := by
  refine am_T_of am_o54 am_l54 rfl ?_
  refine am_vc_ok am_k54 [9] 100 ?_
  refine am_Gp (ls2 := [(2, aI (nI 0)), (1, aI (nI (gset (pX F) 0))), (0, aR 5 0)]) [0, 1, 2] rfl ?_
  refine x_ls_lp (σ := σ) hn hc hF h5 hG ?_ n 0 _ [] (by omega) (fun q a1 a2 => by rw [u3_kk _ _ a1]) (fun j hj => by rw [u3_j _ _ hj]) (by rw [u3_eq]; rfl) (fun j hj => absurd hj (by omega))
  intro σ' h1 h2 h3 h4
  exact ⟨t, rfl, rfl, rfl, rfl, rfl, rfl, h1, h2, h3, h4⟩
/-- what search leaves -/
def seP (F : Nat → Prop) (c : Nat) (σ s2 : tI) : Prop := (∀ q, q ≠ 5 → q ≠ 28 → q ≠ 29 → s2 q = σ q) ∧ ∃ r : Nat → Prop, CMr F r ∧ s2 5 0 3 = nI (bst r 64) ∧ (¬ r c → s2 5 0 4 = -9) ∧ (r c → s2 5 0 4 = nI (pc c) ∧ ∀ j, j < pc c → s2 29 0 j = nI (nxt (pX F) (gset (pX F) j)))
theorem x_search {W : Nat → Int32 → Int32 → Prop} {V0 V1 : Nat → Int32} {c : Nat} (hc : c < 64) (hF : ∀ s, s < 64 → σ 27 0 s = cI (FS W V0 V1 c s)) (h5 : σ 5 0 2 = nI c) : am_T l 51 [aR 5 0] σ τ t (fun r s2 τ2 t2 => r = none ∧ τ2 = τ ∧ t2 = t ∧ seP (FS W V0 V1 c) c σ s2) := by
  refine am_T_of am_o51 am_l51 rfl ?_
  refine am_vc_ok am_k51 [] 100 ?_
  refine am_vOT am_k51 am_h51 rfl rfl rfl rfl (x_markReached hF) ?_
  rintro r s1 τ2 t2 ⟨rfl, rfl, rfl, hP⟩
  have hr : CMr (FS W V0 V1 c) (fun s => s1 28 0 s = 1) := fun s hs => hP.2.2 s hs
  have hs1 : ∀ q, q ≠ 28 → s1 q = σ q := hP.1
  refine am_vc_ok am_k51 [] 100 ?_
  refine am_vO am_k51 am_h51 rfl rfl rfl rfl (x_mostReached (fun s hs => hP.2.1 s hs)) ?_
  refine am_vc_ok am_k51 [] 100 ?_
  have e5 : s1 5 0 2 = nI c := by rw [hs1 5 (by decide), h5]
  refine And.intro (by rw [u3_j _ _ (show 2 ≠ 4 by decide), u3_j _ _ (show 2 ≠ 3 by decide), e5]; exact vp_in_nI (N := 64) hc (by decide)) ?_
  rw [u3_j _ _ (show 2 ≠ 4 by decide), u3_j _ _ (show 2 ≠ 3 by decide), e5, nI_clamp (n := c) (by omega), u3_k _ _ (show 28 ≠ 5 by decide), u3_k _ _ (show 28 ≠ 5 by decide)]
  refine And.intro (fun e => ?_) (fun e => ?_)
  · have e : s1 28 0 c = 0 := e
    refine am_vV am_k51 am_r51 rfl ⟨t2, rfl, rfl, rfl, rfl, rfl, rfl, fun q a1 a2 a3 => ?_, fun s => s1 28 0 s = 1, hr, ?_, fun _ => u3_eq _ _ _ _ _, fun z => absurd (e.symm.trans z) (by decide)⟩
    · rw [u3_kk _ _ a1, u3_kk _ _ a1]; exact hs1 q a2
    · rw [u3_j _ _ (by decide), u3_eq]
  · have e : ¬ s1 28 0 c = 0 := e
    have e1 : s1 28 0 c = 1 := (hP.2.1 c hc).resolve_left e
    have hL := ldN_ok (r := fun s => s1 28 0 s = 1) (c := c)
    have hl0 : ldN (fun s => s1 28 0 s = 1) c 64 0 := (hL.zero hr hc (fun s hf => hf.1)).mpr e1
    have hG : ∀ k, k ≤ pc c → gset (pX (FS W V0 V1 c)) k < 64 ∧ (k < pc c → ∃ a, 0 ≤ a ∧ a < 0 + 6 ∧ pX (FS W V0 V1 c) (gset (pX (FS W V0 V1 c)) k) a) ∧ (gset (pX (FS W V0 V1 c)) k = c ↔ k = pc c) := by
      intro k hk
      obtain ⟨i1, i2, i3⟩ := gs_inv hL hl0 k hk
      rw [gs_eq hr hL hc hl0 k hk]
      refine ⟨i1, fun hk2 => ?_, fun z => ?_, fun z => ?_⟩
      · obtain ⟨a, b1, b2, b3, b4, b5⟩ := gs_ex hL i1 i2 (by omega)
        exact ⟨a, b1, b2, b3, (hL.fit hr hc i1 (by omega) b3 i2).mpr ⟨b4, b5⟩⟩
      · rw [z] at i3; exact i3.symm
      · rw [z]; exact gs_end hr hL hc hl0
    refine am_vOT am_k51 am_h51 rfl rfl rfl rfl (x_layOut (F := FS W V0 V1 c) (pc_6 c hc) hc (fun s hs => by rw [u3_k _ _ (show 27 ≠ 5 by decide), u3_k _ _ (show 27 ≠ 5 by decide), hs1 27 (by decide)]; exact hF s hs) (by rw [u3_j _ _ (show 2 ≠ 4 by decide), u3_j _ _ (show 2 ≠ 3 by decide)]; exact e5) hG) ?_
    rintro r s3 τ2 t2 ⟨rfl, rfl, rfl, b1, b2, b3, b4⟩
    refine am_vc_ok am_k51 [] 100 ?_
    refine am_vV am_k51 am_r51 rfl ⟨t2, rfl, rfl, rfl, rfl, rfl, rfl, fun q a1 a2 a3 => ?_, fun s => s1 28 0 s = 1, hr, ?_, fun z => absurd e1 z, fun _ => ⟨b3, b4⟩⟩
    · rw [b1 q a1 a3, u3_kk _ _ a1, u3_kk _ _ a1]; exact hs1 q a2
    · rw [b2 3 (by decide), u3_j _ _ (by decide), u3_eq]
/-- kinds that the relation does not look at, or only in part -/
def scK : Nat → Bool := fun q => Nat.beq q 4 || Nat.beq q 5 || Nat.beq q 6 || Nat.beq q 7 || Nat.beq q 9 || Nat.beq q 10 || Nat.beq q 12 || (Nat.ble 26 q && Nat.ble q 30) || (Nat.ble 32 q && Nat.ble q 38) || Nat.beq q 46 || (Nat.ble 51 q && Nat.ble q 54) || Nat.beq q 60 || Nat.beq q 61
def scj : Nat → Bool := fun j => Nat.beq j 13 || Nat.beq j 15 || Nat.beq j 16 || Nat.beq j 19 || Nat.beq j 20 || Nat.beq j 21
theorem Rshapes.fr2 (h : Rshapes σ) (hk : ∀ k s, k = 9 ∨ (32 ≤ k ∧ k ≤ 38) → σ2 k (1 + s) = σ k (1 + s)) (h49 : σ2 49 = σ 49) (h50 : σ2 50 = σ 50) : Rshapes σ2 := by
  intro s hs
  have h1 := h s hs
  unfold Rshape XItems XIndex MItems at h1 ⊢
  rw [hk 9 s (by decide), hk 32 s (by decide), hk 33 s (by decide), hk 34 s (by decide), hk 35 s (by decide), hk 36 s (by decide), hk 37 s (by decide), hk 38 s (by decide), h49, h50]
  exact h1
/-- only scratch has changed -/
theorem Rall.scr (h : Rall σ τ) (hk : ∀ q, scK q = false → σ2 q = σ q) (h4 : ∀ j, j < 5 → σ2 4 0 j = σ 4 0 j) (h6 : ∀ i, i ≠ 0 → i ≠ 1 → i ≠ 3 → σ2 6 i = σ 6 i) (h30 : ∀ i, i ≠ 0 → i ≠ 1 → i ≠ 3 → σ2 30 i = σ 30 i) (hs : ∀ k s, k = 9 ∨ (32 ≤ k ∧ k ≤ 38) → σ2 k (1 + s) = σ k (1 + s)) (h12 : ∀ j, scj j = false → σ2 12 0 j = σ 12 0 j) : Rall σ2 τ := by
  obtain ⟨z1, z2, z3, z4, z5, z6, T, n, m, lo, kk, z7⟩ := h
  refine ⟨z1.fr (fun r _ => h6 _ (by omega) (by omega) (by omega)) (fun r _ => h30 _ (by omega) (by omega) (by omega)) (hk 44 rfl) (hk 45 rfl), z2.fr (fun r _ => h6 _ (by omega) (by omega) (by omega)) (fun r _ => h30 _ (by omega) (by omega) (by omega)) (hk 47 rfl) (hk 48 rfl), z3.fr2 hs (hk 49 rfl) (hk 50 rfl), ?_, z5.fr (fun a _ => by rw [hk 8 rfl]; exact ⟨rfl, rfl⟩) (hk 57 rfl) (hk 58 rfl) (hk 31 rfl) (hk 59 rfl) (fun s _ z => by rw [hk 49 rfl]; exact z), ?_, T, n, m, lo, kk, z7.fr (fun k z => hk k ?_) (fun j z => h12 j ?_) (fun a j _ _ => by rw [hk 8 rfl])⟩
  · unfold Rread at z4 ⊢
    rw [h4 2 (by decide), h4 3 (by decide), h4 4 (by decide), hk 55 rfl, hk 56 rfl, h6 2 (by decide) (by decide) (by decide), h30 2 (by decide) (by decide) (by decide), h12 24 rfl]
    exact z4
  · unfold Rmisc at z6 ⊢
    rw [hk 11 rfl, h12 2 rfl]
    exact z6
  · cases hc : scK k with
    | false => rfl
    | true =>
      exfalso
      simp only [scK, kNet, Bool.or_eq_true, Bool.and_eq_true, Nat.beq_eq, Nat.ble_eq] at hc z
      omega
  · cases hc : scj j with
    | false => rfl
    | true =>
      exfalso
      simp only [scj, jNet, Bool.or_eq_true, Nat.beq_eq] at hc z
      omega
/-- what finds orders is none of the relation's -/
theorem Rall.ord (h : Rall σ τ) (hk : ∀ q, q ≠ 5 → q ≠ 27 → q ≠ 28 → q ≠ 29 → q ≠ 60 → q ≠ 61 → σ2 q = σ q) : Rall σ2 τ := by
  have g : ∀ q, q ≠ 5 ∧ q ≠ 27 ∧ q ≠ 28 ∧ q ≠ 29 ∧ q ≠ 60 ∧ q ≠ 61 → σ2 q = σ q := fun q ⟨a1, a2, a3, a4, a5, a6⟩ => hk q a1 a2 a3 a4 a5 a6
  refine h.scr (fun q hq => g q ⟨?_, ?_, ?_, ?_, ?_, ?_⟩) (fun j _ => by rw [g 4 (by decide)]) (fun i _ _ _ => by rw [g 6 (by decide)]) (fun i _ _ _ => by rw [g 30 (by decide)]) (fun k s hks => by rw [g k (by omega)]) (fun j _ => by rw [g 12 (by decide)])
  all_goals (rintro rfl; exact absurd hq (by decide))
theorem u3_cg {f g : tI} {k i j q : Nat} {v : Int32} (h : f q = g q) : u3 f k i j v q = u3 g k i j v q := by
  funext b c
  unfold u3
  rw [h]
theorem fs_k {f : tI} (h : ∀ q, q = 49 ∨ q = 50 ∨ q = 57 ∨ q = 58 ∨ q = 59 → f q = σ q) : fsS f = fsS σ ∧ fitS f = fitS σ ∧ chS f = chS σ := by
  have e : okW f = okW σ := okW_k (h 49 (by decide)) (h 50 (by decide)) (h 59 (by decide))
  have e7 := h 57 (by decide)
  have e8 := h 58 (by decide)
  refine ⟨?_, ?_, ?_⟩
  · funext s; unfold fsS chS; rw [e, e7, e8]
  · funext s; unfold fitS; rw [e, e7, e8]
  · unfold chS; rw [e7, e8]
theorem sub0 {c : Nat} : sub 0 c := fun x hx h => by
  have z : ∀ x, x < 6 → mb 0 x = false := by decide +kernel
  rw [z x hx] at h
  cases h
theorem fs0 : fsS σ 0 ↔ fitS σ 0 := ⟨fun h => h.2, fun h => ⟨sub0, h⟩⟩
theorem DrOK.k {f : tI} (h : DrOK σ) (h49 : f 49 = σ 49) (h59 : f 59 = σ 59) : DrOK f := by
  unfold DrOK
  rw [h49, h59]
  exact h
theorem svP.se {s1 s2 : tI} (h : svP σ s1) (h2 : seP (fsS σ) (chS σ) s1 s2) : ∀ q, q ≠ 5 → q ≠ 27 → q ≠ 28 → q ≠ 29 → s2 q = σ q := fun q a1 a2 a3 a4 => (h2.1 q a1 a3 a4).trans (h.1 q a1 a2)
theorem x_order_no (hR : Rserv σ) (hSh : Rshapes σ) (h0 : ¬ fitS σ 0) : am_T l 114 [aR 11 0] σ τ t (fun r s2 τ2 t2 => r = some (aI (-4)) ∧ τ2 = τ ∧ t2 = t ∧ ∀ q, q ≠ 5 → q ≠ 27 → s2 q = σ q) := by
  refine am_T_of am_o114 am_l114 rfl ?_
  refine am_vc_ok am_k114 [] 100 ?_
  refine am_vOT am_k114 am_h114 rfl rfl rfl rfl (x_survey hR hSh) ?_
  rintro r s1 τ2 t2 ⟨rfl, rfl, rfl, hV⟩
  refine am_vc_ok am_k114 [] 100 ?_
  refine am_vO am_k114 am_h114 rfl rfl rfl rfl (x_fitsNow (hV.2.2 0 (by decide)) cI_01) ?_
  refine am_vc_ok am_k114 [] 100 ?_
  refine And.intro (fun _ => ?_) (fun e => absurd (fs0.mp (cI_n0.mp e)) h0)
  exact am_vI am_k114 am_r114 rfl ⟨t2, rfl, rfl, rfl, rfl, rfl, rfl, hV.1⟩
theorem x_order (hR : Rserv σ) (hSh : Rshapes σ) (h0 : fitS σ 0) : am_T l 114 [aR 11 0] σ τ t (fun r s3 τ2 t2 => τ2 = τ ∧ t2 = t ∧ ∃ s1 s2, svP σ s1 ∧ seP (fsS σ) (chS σ) s1 s2 ∧ s3 = u3 s2 11 0 11 (s2 5 0 3) ∧ r = some (aI (s2 5 0 4))) := by
  refine am_T_of am_o114 am_l114 rfl ?_
  refine am_vc_ok am_k114 [] 100 ?_
  refine am_vOT am_k114 am_h114 rfl rfl rfl rfl (x_survey hR hSh) ?_
  rintro r s1 τ2 t2 ⟨rfl, rfl, rfl, hV⟩
  refine am_vc_ok am_k114 [] 100 ?_
  refine am_vO am_k114 am_h114 rfl rfl rfl rfl (x_fitsNow (hV.2.2 0 (by decide)) cI_01) ?_
  refine am_vc_ok am_k114 [] 100 ?_
  refine And.intro (fun e => absurd (fs0.mpr h0) (cI_0.mp e)) (fun _ => ?_)
  refine am_vOT am_k114 am_h114 rfl rfl rfl rfl (x_search chS_lt hV.2.2 hV.2.1) ?_
  rintro r s2 τ2 t2 ⟨rfl, rfl, rfl, hE⟩
  refine am_vc_ok am_k114 [] 100 ?_
  exact am_vI am_k114 am_r114 rfl ⟨t2, rfl, rfl, rfl, rfl, rfl, s1, s2, hV, hE, rfl, rfl⟩
theorem x_oa_bad {i : Int32} (hi : i < 0) : am_D l 115 [aR 11 0, aI i] σ τ (rX t) cX lX (some (aI (-1))) σ τ (rX t) := by
  refine am_D_of am_o115 am_l115 rfl ?_
  refine am_vc_ok am_k115 [] 100 ?_
  refine And.intro (fun g => absurd hi (Int32.not_lt.mpr g)) (fun _ => ?_)
  exact am_vI am_k115 am_r115 rfl ⟨rfl, rfl, rfl, rfl, rfl, rfl⟩
theorem x_oa_no {i : Int32} (hi : 0 ≤ i) (hR : Rserv σ) (hSh : Rshapes σ) (h0 : ¬ fitS σ 0) : am_T l 115 [aR 11 0, aI i] σ τ t (fun r s2 τ2 t2 => r = some (aI (-4)) ∧ τ2 = τ ∧ t2 = t ∧ ∀ q, q ≠ 5 → q ≠ 27 → s2 q = σ q) := by
  refine am_T_of am_o115 am_l115 rfl ?_
  refine am_vc_ok am_k115 [] 100 ?_
  refine And.intro (fun _ => ?_) (fun g => absurd hi g)
  refine am_vOT am_k115 am_h115 rfl rfl rfl rfl (x_survey hR hSh) ?_
  rintro r s1 τ2 t2 ⟨rfl, rfl, rfl, hV⟩
  refine am_vc_ok am_k115 [] 100 ?_
  refine am_vO am_k115 am_h115 rfl rfl rfl rfl (x_fitsNow (hV.2.2 0 (by decide)) cI_01) ?_
  refine am_vc_ok am_k115 [] 100 ?_
  refine And.intro (fun _ => ?_) (fun e => absurd (fs0.mp (cI_n0.mp e)) h0)
  exact am_vI am_k115 am_r115 rfl ⟨t2, rfl, rfl, rfl, rfl, rfl, rfl, hV.1⟩
theorem x_oa {i : Int32} (hi : 0 ≤ i) (hR : Rserv σ) (hSh : Rshapes σ) (h0 : fitS σ 0) : am_T l 115 [aR 11 0, aI i] σ τ t (fun r s2 τ2 t2 => τ2 = τ ∧ t2 = t ∧ ∃ s1, svP σ s1 ∧ seP (fsS σ) (chS σ) s1 s2 ∧ r = some (aI (if i < s2 5 0 4 then s2 29 0 i.toNatClampNeg else -9))) := by
  refine am_T_of am_o115 am_l115 rfl ?_
  refine am_vc_ok am_k115 [] 100 ?_
  refine And.intro (fun _ => ?_) (fun g => absurd hi g)
  refine am_vOT am_k115 am_h115 rfl rfl rfl rfl (x_survey hR hSh) ?_
  rintro r s1 τ2 t2 ⟨rfl, rfl, rfl, hV⟩
  refine am_vc_ok am_k115 [] 100 ?_
  refine am_vO am_k115 am_h115 rfl rfl rfl rfl (x_fitsNow (hV.2.2 0 (by decide)) cI_01) ?_
  refine am_vc_ok am_k115 [] 100 ?_
  refine And.intro (fun e => absurd (fs0.mpr h0) (cI_0.mp e)) (fun _ => ?_)
  refine am_vOT am_k115 am_h115 rfl rfl rfl rfl (x_search chS_lt hV.2.2 hV.2.1) ?_
  rintro r s2 τ2 t2 ⟨rfl, rfl, rfl, hE⟩
  refine am_vc_ok am_k115 [] 100 ?_
  refine am_vS am_k115 am_h115 rfl rfl rfl rfl (x_within) ?_
  refine am_vc_ok am_k115 [] 100 ?_
  refine And.intro (fun e => ?_) (fun e => ?_)
  · have e := bI_0.mp e
    refine am_vI am_k115 am_r115 rfl ⟨t2, rfl, rfl, rfl, rfl, rfl, s1, hV, hE, ?_⟩
    rw [if_neg (fun z => e ⟨hi, z⟩)]
  · have e := bI_1.mp e
    obtain ⟨-, rr, -, -, hno, hyes⟩ := id hE
    by_cases hr : rr (chS σ)
    · have p6 := pc_6 (chS σ) chS_lt
      have e2 := e
      rw [(hyes hr).1] at e2
      obtain ⟨j, hj, rfl⟩ := ix_lt (nI_toInt (by omega)) e2
      refine And.intro (vp_in_nI (N := 6) (by omega) (by decide)) ?_
      refine am_vI am_k115 am_r115 rfl ⟨t2, rfl, rfl, rfl, rfl, rfl, s1, hV, hE, ?_⟩
      rw [if_pos e.2]
    · rw [hno hr] at e
      exact absurd (Int32.lt_of_le_of_lt e.1 e.2) (by decide)
theorem x_putIn_bad {a : Int32} (ha : ¬ (0 ≤ a ∧ a < 6)) : am_D l 116 [aR 11 0, aI a] σ τ (rX t) cX lX (some (aI (-1))) σ τ (rX t) := by
  refine am_D_of am_o116 am_l116 rfl ?_
  refine am_vc_ok am_k116 [] 100 ?_
  refine am_vS am_k116 am_h116 rfl rfl rfl rfl (x_within) ?_
  refine am_vc_ok am_k116 [] 100 ?_
  refine And.intro (fun h => ?_) (fun h => ?_)
  · exact am_vI am_k116 am_r116 rfl ⟨rfl, rfl, rfl, rfl, rfl, rfl⟩
  · exact absurd (bI_1.mp h) ha
theorem fit_2 {a : Nat} (ha : a < 6) : fsS σ (bif mb (chS σ) a then 2 ^ a else 0) ↔ fitS σ (2 ^ a) := by
  have hm := chN_mb (V0 := σ 57 0) (V1 := σ 58 0) (n := 6) (by omega) a ha
  cases hc : mb (chS σ) a with
  | true =>
    show fsS σ (2 ^ a) ↔ _
    refine ⟨fun h => h.2, fun h => ⟨fun x hx hx2 => ?_, h⟩⟩
    rw [p2_mb a ha x hx] at hx2
    rw [Nat.eq_of_beq_eq_true hx2]
    exact hc
  | false =>
    show fsS σ 0 ↔ _
    have e : σ 57 0 a = σ 58 0 a := Decidable.not_not.mp (fun z => by
      have := hm.mpr z
      rw [hc] at this
      cases this)
    have z0 : ∀ x, x < 6 → mb 0 x = false := by decide +kernel
    have hv : ∀ x, x < 6 → vv (σ 57 0) (σ 58 0) (2 ^ a) x = vv (σ 57 0) (σ 58 0) 0 x := by
      intro x hx
      unfold vv
      rw [z0 x hx, p2_mb a ha x hx]
      cases hb : Nat.beq x a with
      | false => rfl
      | true => rw [Nat.eq_of_beq_eq_true hb]; exact e.symm
    rw [fs0]
    refine forall_congr' fun k => imp_congr_right fun hk => ?_
    rw [hv _ (by omega), hv _ (by omega)]
theorem x_putIn_no {a : Nat} (ha : a < 6) (hR : Rserv σ) (hSh : Rshapes σ) (h0 : ¬ fitS σ (2 ^ a)) : am_T l 116 [aR 11 0, aI (nI a)] σ τ t (fun r s2 τ2 t2 => r = some (aI (-4)) ∧ τ2 = τ ∧ t2 = t ∧ ∀ q, q ≠ 5 → q ≠ 27 → s2 q = σ q) := by
  have hl : (bif mb (chS σ) a then 2 ^ a else 0) < 64 := by
    cases mb (chS σ) a
    · show 0 < 64; decide
    · exact p2_lt a ha
  refine am_T_of am_o116 am_l116 rfl ?_
  refine am_vc_ok am_k116 [] 100 ?_
  refine am_vS am_k116 am_h116 rfl rfl rfl rfl (x_within) ?_
  refine am_vc_ok am_k116 [] 100 ?_
  refine And.intro (fun e => absurd (in6 ha) (bI_0.mp e)) (fun _ => ?_)
  refine am_vOT am_k116 am_h116 rfl rfl rfl rfl (x_survey hR hSh) ?_
  rintro r s1 τ2 t2 ⟨rfl, rfl, rfl, hV⟩
  refine am_vc_ok am_k116 [] 100 ?_
  refine am_vO am_k116 am_h116 rfl rfl rfl rfl (x_fitsWith ha chS_lt hV.2.1 (hV.2.2 _ hl) cI_01) ?_
  refine am_vc_ok am_k116 [] 100 ?_
  refine And.intro (fun _ => ?_) (fun e => absurd ((fit_2 ha).mp (cI_n0.mp e)) h0)
  exact am_vI am_k116 am_r116 rfl ⟨t2, rfl, rfl, rfl, rfl, rfl, rfl, hV.1⟩
theorem x_putIn {a : Nat} (ha : a < 6) (hR : Rserv σ) (hSh : Rshapes σ) (h0 : fitS σ (2 ^ a)) : am_T l 116 [aR 11 0, aI (nI a)] σ τ t (fun r s2 τ2 t2 => r = some (aI 1) ∧ τ2 = τ ∧ t2 = t ∧ ∃ s1, (∀ q, q ≠ 5 → q ≠ 27 → s1 q = σ q) ∧ s2 = u3 s1 8 a 0 (σ 8 a 1)) := by
  have hl : (bif mb (chS σ) a then 2 ^ a else 0) < 64 := by
    cases mb (chS σ) a
    · show 0 < 64; decide
    · exact p2_lt a ha
  refine am_T_of am_o116 am_l116 rfl ?_
  refine am_vc_ok am_k116 [] 100 ?_
  refine am_vS am_k116 am_h116 rfl rfl rfl rfl (x_within) ?_
  refine am_vc_ok am_k116 [] 100 ?_
  refine And.intro (fun e => absurd (in6 ha) (bI_0.mp e)) (fun _ => ?_)
  refine am_vOT am_k116 am_h116 rfl rfl rfl rfl (x_survey hR hSh) ?_
  rintro r s1 τ2 t2 ⟨rfl, rfl, rfl, hV⟩
  refine am_vc_ok am_k116 [] 100 ?_
  refine am_vO am_k116 am_h116 rfl rfl rfl rfl (x_fitsWith ha chS_lt hV.2.1 (hV.2.2 _ hl) cI_01) ?_
  refine am_vc_ok am_k116 [] 100 ?_
  refine And.intro (fun e => absurd ((fit_2 ha).mpr h0) (cI_0.mp e)) (fun _ => ?_)
  refine And.intro (vp_in_nI (N := 6) ha (by decide)) ?_
  refine And.intro (vp_in_nI (N := 6) ha (by decide)) ?_
  rw [nI_clamp (n := a) (by omega)]
  refine am_vI am_k116 am_r116 rfl ⟨t2, rfl, rfl, rfl, rfl, rfl, rfl, s1, hV.1, ?_⟩
  rw [hV.1 8 (by decide) (by decide)]
end L46
/-! CASES OF THE LAW: order, orderAt, putIn -/
section L47
variable {l : Launch} {σ σ2 : tI} {τ τ2 : tL} {t : Option (Nat × Nat)}
theorem LC_order (h : Rall σ τ) : LC l 114 205 [] σ τ t := by
  have hR := h.2.2.2.2.1
  have hSh := h.2.2.1
  by_cases h0 : fitS σ 0
  · refine am_T.mono (x_order hR hSh h0) ?_
    rintro r s3 τ2 t2 ⟨rfl, rfl, s1, s2, hV, hE, rfl, rfl⟩
    refine ⟨rfl, ?_⟩
    have hq := hV.se hE
    have hq3 : ∀ q, q ≠ 5 → q ≠ 27 → q ≠ 28 → q ≠ 29 → q ≠ 11 → u3 s2 11 0 11 (s2 5 0 3) q = σ q := fun q a1 a2 a3 a4 a5 => by rw [u3_kk _ _ a5]; exact hq q a1 a2 a3 a4
    obtain ⟨f1, f2, f3⟩ := fs_k (σ := σ) (f := u3 s2 11 0 11 (s2 5 0 3)) (fun q hq => hq3 q (by omega) (by omega) (by omega) (by omega) (by omega))
    refine am_T.mono (m_order (h.dr.k (hq3 49 (by decide) (by decide) (by decide) (by decide) (by decide)) (hq3 59 (by decide) (by decide) (by decide) (by decide) (by decide))) (by rw [f2]; exact h0)) ?_
    rintro r s4 τ2 t2 ⟨rfl, rfl, s5, hQ, rfl, rfl⟩
    obtain ⟨hQ1, hQ2, hQ3, hQ4⟩ := hQ
    rw [f1] at hQ3
    rw [f3] at hQ4
    obtain ⟨-, rr, hr1, hr2, hr3, hr4⟩ := hE
    have hu : ∀ s, s < 64 → (rr s ↔ s5 60 0 s = 1) := fun s hs => hr1.u hQ3 64 s hs hs
    have hb : bst rr 64 = bst (fun s => s5 60 0 s = 1) 64 := bst_cg hu
    have hz := hQ4.zero hQ3 chS_lt (fun s hf => hf.1)
    constructor
    · rw [f3]
      by_cases hr : rr (chS σ)
      · rw [if_pos (hz.mpr ((hu _ chS_lt).mp hr)), (hr4 hr).1]
      · rw [if_neg (fun z => hr ((hu _ chS_lt).mpr (hz.mp z))), hr3 hr]
    · rw [← hb, ← hr2]
      refine (h.ask (v := s2 5 0 3)).ord (fun q a1 a2 a3 a4 a5 a6 => u3_cg ((hQ1 q a5 a6).trans (u3_cg (hq q a1 a2 a3 a4))))
  · refine am_T.mono (x_order_no hR hSh h0) ?_
    rintro r s2 τ2 t2 ⟨rfl, rfl, rfl, hq⟩
    refine ⟨rfl, ?_⟩
    obtain ⟨f1, f2, f3⟩ := fs_k (σ := σ) (f := s2) (fun q hz => hq q (by omega) (by omega))
    exact (m_order_no (h.dr.k (hq 49 (by decide) (by decide)) (hq 59 (by decide) (by decide))) (by rw [f2]; exact h0)).T ⟨rfl, h.ord (fun q a1 a2 _ _ _ _ => hq q a1 a2)⟩
theorem LC_orderAt (h : Rall σ τ) (i : Int32) : LC l 115 206 [aI i] σ τ t := by
  have hR := h.2.2.2.2.1
  have hSh := h.2.2.1
  by_cases hi : i < 0
  · exact LC.of (x_oa_bad hi) (m_oa_bad hi) h
  have hi : 0 ≤ i := Int32.not_lt.mp hi
  by_cases h0 : fitS σ 0
  · refine am_T.mono (x_oa hi hR hSh h0) ?_
    rintro r s2 τ2 t2 ⟨rfl, rfl, s1, hV, hE, rfl⟩
    refine ⟨rfl, ?_⟩
    have hq := hV.se hE
    obtain ⟨f1, f2, f3⟩ := fs_k (σ := σ) (f := s2) (fun q hz => hq q (by omega) (by omega) (by omega) (by omega))
    refine am_T.mono (m_oa hi (h.dr.k (hq 49 (by decide) (by decide) (by decide) (by decide)) (hq 59 (by decide) (by decide) (by decide) (by decide))) (by rw [f2]; exact h0)) ?_
    rintro r s5 τ2 t2 ⟨rfl, rfl, hQ, rfl⟩
    obtain ⟨hQ1, hQ2, hQ3, hQ4⟩ := hQ
    rw [f1] at hQ3
    rw [f3] at hQ4
    obtain ⟨-, rr, hr1, hr2, hr3, hr4⟩ := hE
    have hu : ∀ s, s < 64 → (rr s ↔ s5 60 0 s = 1) := fun s hs => hr1.u hQ3 64 s hs hs
    have hz := hQ4.zero hQ3 chS_lt (fun s hf => hf.1)
    constructor
    · rw [f3]
      by_cases hr : rr (chS σ)
      · have hl0 : s5 61 0 0 = 1 := hz.mpr ((hu _ chS_lt).mp hr)
        obtain ⟨b1, b2⟩ := hr4 hr
        rw [b1]
        by_cases hj : i < nI (pc (chS σ))
        · have p6 := pc_6 (chS σ) chS_lt
          rw [if_pos hj, if_pos ⟨hl0, hj⟩]
          obtain ⟨j, hj2, rfl⟩ := ix_lt (nI_toInt (by omega)) ⟨hi, hj⟩
          rw [nI_clamp (by omega), b2 j hj2, gs_nx hQ3 hQ4 chS_lt hl0 hj2]
        · rw [if_neg hj, if_neg (fun z => hj z.2)]
      · have hl0 : ¬ s5 61 0 0 = 1 := fun z => hr ((hu _ chS_lt).mpr (hz.mp z))
        rw [if_neg (fun z => hl0 z.1), hr3 hr, if_neg (fun z => absurd (Int32.lt_of_le_of_lt hi z) (by decide))]
    · exact h.ord (fun q a1 a2 a3 a4 a5 a6 => (hQ1 q a5 a6).trans (hq q a1 a2 a3 a4))
  · refine am_T.mono (x_oa_no hi hR hSh h0) ?_
    rintro r s2 τ2 t2 ⟨rfl, rfl, rfl, hq⟩
    refine ⟨rfl, ?_⟩
    obtain ⟨f1, f2, f3⟩ := fs_k (σ := σ) (f := s2) (fun q hz => hq q (by omega) (by omega))
    exact (m_oa_no hi (h.dr.k (hq 49 (by decide) (by decide)) (hq 59 (by decide) (by decide))) (by rw [f2]; exact h0)).T ⟨rfl, h.ord (fun q a1 a2 _ _ _ _ => hq q a1 a2)⟩
theorem LC_putIn (h : Rall σ τ) (a : Int32) : LC l 116 207 [aI a] σ τ t := by
  have hR := h.2.2.2.2.1
  have hSh := h.2.2.1
  by_cases ha : 0 ≤ a ∧ a < 6
  · obtain ⟨a, ha1, rfl⟩ := ix_lt (n := 6) (by decide) ha
    by_cases h0 : fitS σ (2 ^ a)
    · refine am_T.mono (x_putIn ha1 hR hSh h0) ?_
      rintro r s2 τ2 t2 ⟨rfl, rfl, rfl, s1, hq, rfl⟩
      refine ⟨rfl, ?_⟩
      have hq3 : ∀ q, q ≠ 5 → q ≠ 27 → q ≠ 8 → u3 s1 8 a 0 (σ 8 a 1) q = σ q := fun q a1 a2 a5 => by rw [u3_kk _ _ a5]; exact hq q a1 a2
      obtain ⟨f1, f2, f3⟩ := fs_k (σ := σ) (f := u3 s1 8 a 0 (σ 8 a 1)) (fun q hz => hq3 q (by omega) (by omega) (by omega))
      refine (m_putIn ha1 (h.dr.k (hq3 49 (by decide) (by decide) (by decide)) (hq3 59 (by decide) (by decide) (by decide))) (by rw [f2]; exact h0)).T ⟨rfl, ?_⟩
      rw [hq3 58 (by decide) (by decide) (by decide)]
      have h2 : Rall (u3 (u3 σ 8 a 0 (σ 8 a 1)) 57 0 a (σ 58 0 a)) τ2 := by
        refine h.vers (fun k a1 a2 a3 => ?_) (fun b j hj => ?_) (fun b hb => ?_)
        · rw [u3_kk _ _ a2, u3_kk _ _ a1]
        · simp [u3, show j ≠ 0 by omega]
        · obtain ⟨g1, g2⟩ := hR b hb
          refine ⟨?_, fun c hc => by simpa [u3] using g2 c hc⟩
          obtain ⟨x, y, x1, y1, q1, q2, q3, q4⟩ := g1
          by_cases e : b = a
          · subst e
            exact ⟨y, y, y1, y1, by simpa [u3] using q3, by simpa [u3] using q4, by simpa [u3] using q3, by simpa [u3] using q4⟩
          · exact ⟨x, y, x1, y1, by simpa [u3, e] using q1, by simpa [u3, e] using q2, by simpa [u3, e] using q3, by simpa [u3, e] using q4⟩
      exact h2.ord (fun q a1 a2 a3 a4 a5 a6 => u3_cg (u3_cg (hq q a1 a2)))
    · refine am_T.mono (x_putIn_no ha1 hR hSh h0) ?_
      rintro r s2 τ2 t2 ⟨rfl, rfl, rfl, hq⟩
      refine ⟨rfl, ?_⟩
      obtain ⟨f1, f2, f3⟩ := fs_k (σ := σ) (f := s2) (fun q hz => hq q (by omega) (by omega))
      exact (m_putIn_no ha1 (h.dr.k (hq 49 (by decide) (by decide)) (hq 59 (by decide) (by decide))) (by rw [f2]; exact h0)).T ⟨rfl, h.ord (fun q a1 a2 _ _ _ _ => hq q a1 a2)⟩
  · exact LC.of (x_putIn_bad ha) (m_putIn_bad (not6 ha)) h
end L47

/-! the language of shapes: one pure reader (nothing of the machine here) -/
section L48
def fgO (v : Int32) : Option Nat := if 48 ≤ v ∧ v ≤ 57 then some (v.toNatClampNeg - 48) else none
def soO (v : Int32) : Option Nat := if v = 66 then some 0 else if v = 83 then some 1 else if v = 82 then some 2 else if v = 67 then some 3 else none
def mkO (v : Int32) : Option Nat := if v = 43 then some 0 else if v = 45 then some 1 else if v = 61 then some 2 else none
def nmO (v : Int32) : Option Nat := if 97 ≤ v ∧ v ≤ 112 then some (v.toNatClampNeg - 97) else none
theorem fgO_s {v : Int32} {d : Nat} (h : fgO v = some d) : d ≤ 9 ∧ v = nI (d + 48) := by
  unfold fgO at h
  split at h
  · rename_i hv
    obtain ⟨j, hj, rfl⟩ := ix_le (k := v) (N := 57) (n := 58) (by decide) ⟨Int32.le_trans (by decide) hv.1, hv.2⟩
    have h1 := hv.1
    rw [show (48 : Int32) = nI 48 from rfl, nI_leI (by decide) (by omega)] at h1
    rw [nI_clamp (by omega)] at h
    cases h
    exact ⟨by omega, by rw [show j - 48 + 48 = j by omega]⟩
  · cases h
theorem fgO_n {v : Int32} (h : fgO v = none) : ¬ (48 ≤ v ∧ v ≤ 57) := by
  unfold fgO at h
  split at h
  · cases h
  · assumption
theorem fgO_r {v : Int32} {d : Nat} (h : fgO v = some d) : 48 ≤ v ∧ v ≤ 57 := by
  unfold fgO at h
  split at h
  · assumption
  · cases h
theorem nmO_s {v : Int32} {d : Nat} (h : nmO v = some d) : d < 16 ∧ v = nI (d + 97) := by
  unfold nmO at h
  split at h
  · rename_i hv
    obtain ⟨j, hj, rfl⟩ := ix_le (k := v) (N := 112) (n := 113) (by decide) ⟨Int32.le_trans (by decide) hv.1, hv.2⟩
    have h1 := hv.1
    rw [show (97 : Int32) = nI 97 from rfl, nI_leI (by decide) (by omega)] at h1
    rw [nI_clamp (by omega)] at h
    cases h
    exact ⟨by omega, by rw [show j - 97 + 97 = j by omega]⟩
  · cases h
theorem nmO_n {v : Int32} (h : nmO v = none) : ¬ (97 ≤ v ∧ v ≤ 112) := by
  unfold nmO at h
  split at h
  · cases h
  · assumption
theorem fgO9 : fgO (-9) = none := by decide
theorem mkO9 : mkO (-9) = none := by decide
theorem soO9 : soO (-9) = none := by decide
theorem nmO9 : nmO (-9) = none := by decide
theorem soO_s {v : Int32} {d : Nat} (h : soO v = some d) : d < 4 ∧ ((d = 0 ∧ v = 66) ∨ (d = 1 ∧ v = 83) ∨ (d = 2 ∧ v = 82) ∨ (d = 3 ∧ v = 67)) := by
  unfold soO at h
  split at h
  · cases h; exact ⟨by decide, Or.inl ⟨rfl, by assumption⟩⟩
  split at h
  · cases h; exact ⟨by decide, Or.inr (Or.inl ⟨rfl, by assumption⟩)⟩
  split at h
  · cases h; exact ⟨by decide, Or.inr (Or.inr (Or.inl ⟨rfl, by assumption⟩))⟩
  split at h
  · cases h; exact ⟨by decide, Or.inr (Or.inr (Or.inr ⟨rfl, by assumption⟩))⟩
  · cases h
theorem soO_n {v : Int32} (h : soO v = none) : ¬ v = 66 ∧ ¬ v = 83 ∧ ¬ v = 82 ∧ ¬ v = 67 := by
  unfold soO at h
  split at h
  · cases h
  split at h
  · cases h
  split at h
  · cases h
  split at h
  · cases h
  · refine ⟨?_, ?_, ?_, ?_⟩ <;> assumption
theorem mkO_s {v : Int32} {d : Nat} (h : mkO v = some d) : d < 3 ∧ ((d = 0 ∧ v = 43) ∨ (d = 1 ∧ v = 45) ∨ (d = 2 ∧ v = 61)) := by
  unfold mkO at h
  split at h
  · cases h; exact ⟨by decide, Or.inl ⟨rfl, by assumption⟩⟩
  split at h
  · cases h; exact ⟨by decide, Or.inr (Or.inl ⟨rfl, by assumption⟩)⟩
  split at h
  · cases h; exact ⟨by decide, Or.inr (Or.inr ⟨rfl, by assumption⟩)⟩
  · cases h
theorem mkO_n {v : Int32} (h : mkO v = none) : ¬ v = 43 ∧ ¬ v = 45 ∧ ¬ v = 61 := by
  unfold mkO at h
  split at h
  · cases h
  split at h
  · cases h
  split at h
  · cases h
  · refine ⟨?_, ?_, ?_⟩ <;> assumption
/-- so many figures at most, from p on -/
def tkF (sg : Nat → Int32) : Nat → Nat → Nat → Nat × Nat
  | 0, a, p => (a, p)
  | k + 1, a, p => match fgO (sg p) with
    | none => (a, p)
    | some d => tkF sg k (10 * a + d) (p + 1)
theorem tkF_n {sg : Nat → Int32} {k a p : Nat} (h : fgO (sg p) = none) : tkF sg k a p = (a, p) := by
  cases k with
  | zero => rfl
  | succ k => unfold tkF; rw [h]
theorem tkF_y {sg : Nat → Int32} {k a p d : Nat} (h : fgO (sg p) = some d) : tkF sg (k + 1) a p = tkF sg k (10 * a + d) (p + 1) := by rw [tkF, h]
theorem tkF_le {sg : Nat → Int32} : ∀ (k a p b : Nat), a < b → (tkF sg k a p).1 < b * 10 ^ k
  | 0, a, p, b, h => by simpa [tkF] using h
  | k + 1, a, p, b, h => by
    cases e : fgO (sg p) with
    | none =>
      rw [tkF_n e]
      exact Nat.lt_of_lt_of_le h (Nat.le_mul_of_pos_right b (Nat.pow_pos (by decide)))
    | some d =>
      rw [tkF_y e]
      have hd := (fgO_s e).1
      have := tkF_le (sg := sg) k (10 * a + d) (p + 1) (b * 10) (by omega)
      rw [Nat.pow_succ, Nat.mul_comm (10 ^ k) 10, ← Nat.mul_assoc]
      exact this
theorem tkF_p {sg : Nat → Int32} : ∀ (k a p : Nat), p ≤ (tkF sg k a p).2
  | 0, _, p => Nat.le_refl p
  | k + 1, a, p => by
    cases e : fgO (sg p) with
    | none => rw [tkF_n e]; exact Nat.le_refl _
    | some d =>
      rw [tkF_y e]
      have := tkF_p (sg := sg) k (10 * a + d) (p + 1)
      omega
theorem tkF_N {sg : Nat → Int32} {N : Nat} (hN : ∀ p, N ≤ p → sg p = -9) : ∀ (k a p : Nat), p ≤ N → (tkF sg k a p).2 ≤ N
  | 0, _, p, h => h
  | k + 1, a, p, h => by
    cases e : fgO (sg p) with
    | none => rw [tkF_n e]; exact h
    | some d =>
      rw [tkF_y e]
      refine tkF_N hN k _ _ ?_
      by_cases hp : N ≤ p
      · rw [hN p hp, fgO9] at e
        cases e
      · omega
abbrev aM : Type := Nat × Nat × Option Nat
def umM (it : aM) (m v : Nat) : aM := if m = 0 then (v, it.2) else if m = 1 then (it.1, v, it.2.2) else (it.1, it.2.1, some v)
abbrev nFig (m : Nat) : Nat := if m = 2 then 3 else 1
/-- the marks of an item -/
def mkP (sg : Nat → Int32) (so : Nat) : Nat → Nat → aM → Nat → Nat ⊕ (aM × Nat)
  | 0, _, _, p => .inl p
  | d + 1, told, it, p => match mkO (sg p) with
    | none => .inr (it, p)
    | some m => if mb told m = true ∨ (m = 2 ∧ so = 2) then .inl p else match fgO (sg (p + 1)) with
      | none => .inl (p + 1)
      | some _ => mkP sg so d (ad told m) (umM it m (tkF sg (nFig m) 0 (p + 1)).1) (tkF sg (nFig m) 0 (p + 1)).2
abbrev aIt : Type := Nat × Nat × Nat × aM
def pshF {α : Type} (f : Nat → α) (n : Nat) (v : α) : Nat → α := fun k => if k = n then v else f k
/-- an item more -/
def psh (S : aSh) (i : aIt) : aSh := (sN S + 1, pshF (sNm S) (sN S) i.1, pshF (sSo S) (sN S) i.2.1, pshF (sCh S) (sN S) i.2.2.1, pshF (sSi S) (sN S) i.2.2.2.1, pshF (sTi S) (sN S) i.2.2.2.2.1, pshF (sPr S) (sN S) i.2.2.2.2.2)
/-- an item may stand behind S -/
def itOK (S : aSh) (i : aIt) : Prop := i.2.2.2.1 ≤ i.2.2.2.2.1 ∧ (∀ d, i.2.2.2.2.2 = some d → (i.2.1 = 0 → d ≤ 255) ∧ (i.2.1 = 3 → d < i.2.2.1)) ∧ ∀ k, k < sN S → sNm S k = i.1 → sTi S k < i.2.2.2.1 ∨ i.2.2.2.2.1 < sSi S k
/-- an item's marks, and whether it stands -/
noncomputable def itE (sg : Nat → Int32) (S : aSh) (nm so ch q0 : Nat) : Nat ⊕ (aIt × Nat) := match mkP sg so 4 0 (0, 9, none) q0 with
  | .inl q => .inl q
  | .inr (it, q) => @ite _ (itOK S (nm, so, ch, it)) (Classical.propDecidable _) (.inr ((nm, so, ch, it), q)) (.inl q)
/-- an item from p on: what comes of it -/
noncomputable def itP (sg : Nat → Int32) (S : aSh) (p : Nat) : Nat ⊕ (aIt × Nat) := match nmO (sg p) with
  | none => .inl p
  | some nm => if sN S = 12 then .inl p else match soO (sg (p + 1)) with
    | none => .inl (p + 1)
    | some so => match (if so = 3 then fgO (sg (p + 2)) else some 1) with
      | none => .inl (p + 2)
      | some c => if c = 0 then .inl (p + 2) else itE sg S nm so (if so = 3 then c else 0) (if so = 3 then p + 3 else p + 2)
/-- the whole from p on -/
noncomputable def pP (sg : Nat → Int32) (N : Nat) : Nat → aSh → Nat → Nat ⊕ aSh
  | 0, S, _ => .inr S
  | n + 1, S, p => if N ≤ p then .inr S else if sg p = 32 then pP sg N n S (p + 1) else match itP sg S p with
    | .inl q => .inl q
    | .inr (i, q) => pP sg N n (psh S i) q
theorem mkP_p {sg : Nat → Int32} {so : Nat} : ∀ (d told : Nat) (it it2 : aM) (p q : Nat), mkP sg so d told it p = .inr (it2, q) → p ≤ q
  | 0, _, _, _, p, q, h => by cases h
  | d + 1, told, it, it2, p, q, h => by
    unfold mkP at h
    split at h
    · cases h; exact Nat.le_refl _
    · rename_i m e
      split at h
      · cases h
      · split at h
        · cases h
        · have h1 := mkP_p d _ _ _ _ _ h
          have h2 := tkF_p (sg := sg) (nFig m) 0 (p + 1)
          omega
theorem itP_p {sg : Nat → Int32} {S : aSh} {p q : Nat} {i : aIt} (h : itP sg S p = .inr (i, q)) : p + 2 ≤ q := by
  unfold itP at h
  split at h
  · cases h
  rename_i nm e1
  split at h
  · cases h
  split at h
  · cases h
  rename_i so e3
  split at h
  · cases h
  rename_i c e4
  split at h
  · cases h
  unfold itE at h
  split at h
  · cases h
  · rename_i it q2 e
    by_cases hok : itOK S (nm, so, (if so = 3 then c else 0), it)
    · rw [if_pos hok] at h
      cases h
      have := mkP_p _ _ _ _ _ _ e
      split at this <;> omega
    · rw [if_neg hok] at h
      cases h
theorem pP_st {sg : Nat → Int32} {N : Nat} : ∀ (n m : Nat) (S : aSh) (p : Nat), N < p + n → N < p + m → pP sg N n S p = pP sg N m S p
  | 0, 0, _, _, _, _ => rfl
  | 0, m + 1, S, p, h, _ => by
    unfold pP
    rw [if_pos (by omega)]
  | n + 1, 0, S, p, _, h => by
    unfold pP
    rw [if_pos (by omega)]
  | n + 1, m + 1, S, p, h1, h2 => by
    unfold pP
    split
    · rfl
    split
    · exact pP_st n m S (p + 1) (by omega) (by omega)
    · split
      · rfl
      · rename_i e
        have := itP_p e
        exact pP_st n m _ _ (by omega) (by omega)
/-- without a count of steps -/
noncomputable def pA (sg : Nat → Int32) (N : Nat) (S : aSh) (p : Nat) : Nat ⊕ aSh := pP sg N (N + 1) S p
theorem pA_end {sg : Nat → Int32} {N p : Nat} {S : aSh} (h : N ≤ p) : pA sg N S p = .inr S := by
  unfold pA pP
  rw [if_pos h]
theorem pA_bl {sg : Nat → Int32} {N p : Nat} {S : aSh} (h : p < N) (hb : sg p = 32) : pA sg N S p = pA sg N S (p + 1) := by
  show pP sg N (N + 1) S p = pP sg N (N + 1) S (p + 1)
  rw [pP, if_neg (by omega), if_pos hb]
  exact pP_st _ _ _ _ (by omega) (by omega)
theorem pA_no {sg : Nat → Int32} {N p q : Nat} {S : aSh} (h : p < N) (hb : ¬ sg p = 32) (hi : itP sg S p = .inl q) : pA sg N S p = .inl q := by
  show pP sg N (N + 1) S p = .inl q
  rw [pP, if_neg (by omega), if_neg hb, hi]
theorem pA_it {sg : Nat → Int32} {N p q : Nat} {S : aSh} {i : aIt} (h : p < N) (hb : ¬ sg p = 32) (hi : itP sg S p = .inr (i, q)) : pA sg N S p = pA sg N (psh S i) q := by
  show pP sg N (N + 1) S p = pP sg N (N + 1) (psh S i) q
  rw [pP, if_neg (by omega), if_neg hb, hi]
  have := itP_p hi
  exact pP_st _ _ _ _ (by omega) (by omega)
end L48

/-! the class's Scan: signs, figures, marks -/
section L49
variable {l : Launch} {σ σ2 : tI} {τ τ2 : tL} {t : Option (Nat × Nat)} {r N p : Nat} {G : Nat → Int32}
/-- a text as the reader sees it -/
def sgN (G : Nat → Int32) (N p : Nat) : Int32 := if p < N then G p else -9
abbrev sgX (G : Nat → Int32) (N p : Nat) : Int32 := if p < N then G p else -1000
theorem sg_f {α : Type} (f : Int32 → Option α) (h : f (-1000) = f (-9)) : f (sgX G N p) = f (sgN G N p) := by
  unfold sgX sgN
  split
  · rfl
  · exact h
theorem sgN_N : ∀ p, N ≤ p → sgN G N p = -9 := fun p h => by unfold sgN; rw [if_neg (by omega)]
/-- the text that is scanned -/
def K0 (σ : tI) (r N : Nat) (G : Nat → Int32) : Prop := σ 6 r 1 = nI N ∧ N ≤ 60 ∧ 2 ≤ r ∧ σ 30 r = G
theorem K0.fr (h : K0 σ r N G) (h6 : σ2 6 = σ 6) (h30 : σ2 30 = σ 30) : K0 σ2 r N G := by
  unfold K0 at h ⊢
  rw [h6, h30]
  exact h
theorem x_sign (h : K0 σ r N G) (hp : σ 7 0 2 = nI p) (hp2 : p < 1000) : am_D l 65 [aR 7 0] σ τ (rX (some (6, r))) cX lX (some (aI (sgX G N p))) σ τ (rX (some (6, r))) := by
  obtain ⟨h1, h2, h3, rfl⟩ := h
  refine am_D_of am_o65 am_l65 rfl ?_
  refine am_vc_ok am_k65 [] 100 ?_
  refine And.intro (fun e => ?_) (fun e => ?_)
  · have e : σ 6 r 1 ≤ σ 7 0 2 := e
    rw [hp, h1] at e
    have e : ¬ p < N := fun z => absurd e (nI_ge z (by omega))
    refine am_vI am_k65 am_r65 rfl ⟨by unfold sgX; rw [if_neg e], rfl, rfl, rfl, rfl, rfl⟩
  · have e : ¬ σ 6 r 1 ≤ σ 7 0 2 := e
    rw [hp, h1] at e
    have e : p < N := (nI_ltI (by omega) (by omega)).mp (Int32.not_le.mp e)
    refine And.intro (by rw [hp, lX_row h3]; exact vp_in_nI (by omega) (by decide)) ?_
    rw [hp, nI_clamp (by omega)]
    refine am_vI am_k65 am_r65 rfl ⟨by unfold sgX; rw [if_pos e], rfl, rfl, rfl, rfl, rfl⟩
theorem pI_n : pI none = -9 := rfl
theorem pI_s {d : Nat} : pI (some d) = nI d := rfl
theorem x_figure (h : K0 σ r N G) (hp : σ 7 0 2 = nI p) (hp2 : p < 1000) : am_D l 66 [aR 7 0] σ τ (rX (some (6, r))) cX lX (some (aI (pI (fgO (sgN G N p))))) σ τ (rX (some (6, r))) := by
  rw [← sg_f fgO (by decide)]
  refine am_D_of am_o66 am_l66 rfl ?_
  refine am_vc_ok am_k66 [] 100 ?_
  refine am_vO am_k66 am_h66 rfl rfl rfl rfl (x_sign h hp hp2) ?_
  refine am_vc_ok am_k66 [] 100 ?_
  cases e : fgO (sgX G N p) with
  | none =>
    have hn := fgO_n e
    refine And.intro (fun _ => ?_) (fun g => ?_)
    · exact am_vI am_k66 am_r66 rfl ⟨rfl, rfl, rfl, rfl, rfl, rfl⟩
    · refine And.intro (fun _ => ?_) (fun g2 => absurd ⟨Int32.not_lt.mp g, Int32.not_lt.mp g2⟩ hn)
      exact am_vI am_k66 am_r66 rfl ⟨rfl, rfl, rfl, rfl, rfl, rfl⟩
  | some d =>
    have hr := fgO_r e
    obtain ⟨hd, hv⟩ := fgO_s e
    refine And.intro (fun g => absurd hr.1 (Int32.not_le.mpr g)) (fun g => ?_)
    refine And.intro (fun g2 => absurd hr.2 (Int32.not_le.mpr g2)) (fun g2 => ?_)
    refine am_vI am_k66 am_r66 rfl ⟨?_, rfl, rfl, rfl, rfl, rfl⟩
    rw [hv, show (48 : Int32) = nI 48 from rfl, nI_sub' (by omega), show d + 48 - 48 = d by omega, pI_s]
theorem x_sortOf {v : Int32} {ρ : tR} {cn : tN} {ln : tM} : am_D l 71 [aI v] σ τ ρ cn ln (some (aI (pI (soO v)))) σ τ ρ := by
  refine am_D_of am_o71 am_l71 rfl ?_
  refine am_vc_ok am_k71 [] 100 ?_
  cases e : soO v with
  | none =>
    obtain ⟨h1, h2, h3, h4⟩ := soO_n e
    refine ⟨⟨fun z => absurd z h1, fun z => absurd z h4, fun z => absurd z h3, fun z => absurd z h2, trivial⟩, fun _ _ _ _ => ?_⟩
    exact am_vI am_k71 am_r71 rfl ⟨rfl, rfl, rfl, rfl, rfl, rfl⟩
  | some d =>
    obtain ⟨-, ⟨rfl, rfl⟩ | ⟨rfl, rfl⟩ | ⟨rfl, rfl⟩ | ⟨rfl, rfl⟩⟩ := soO_s e
    · refine am_sw 44 (by decide +kernel) ?_
      exact am_vI am_k71 am_r71 rfl ⟨rfl, rfl, rfl, rfl, rfl, rfl⟩
    · refine am_sw 46 (by decide +kernel) ?_
      exact am_vI am_k71 am_r71 rfl ⟨rfl, rfl, rfl, rfl, rfl, rfl⟩
    · refine am_sw 48 (by decide +kernel) ?_
      exact am_vI am_k71 am_r71 rfl ⟨rfl, rfl, rfl, rfl, rfl, rfl⟩
    · refine am_sw 50 (by decide +kernel) ?_
      exact am_vI am_k71 am_r71 rfl ⟨rfl, rfl, rfl, rfl, rfl, rfl⟩
theorem x_markOf {v : Int32} {ρ : tR} {cn : tN} {ln : tM} : am_D l 72 [aI v] σ τ ρ cn ln (some (aI (pI (mkO v)))) σ τ ρ := by
  refine am_D_of am_o72 am_l72 rfl ?_
  refine am_vc_ok am_k72 [] 100 ?_
  cases e : mkO v with
  | none =>
    obtain ⟨h1, h2, h3⟩ := mkO_n e
    refine ⟨⟨fun z => absurd z h1, fun z => absurd z h2, fun z => absurd z h3, trivial⟩, fun _ _ _ => ?_⟩
    exact am_vI am_k72 am_r72 rfl ⟨rfl, rfl, rfl, rfl, rfl, rfl⟩
  | some d =>
    obtain ⟨-, ⟨rfl, rfl⟩ | ⟨rfl, rfl⟩ | ⟨rfl, rfl⟩⟩ := mkO_s e
    · refine am_sw 36 (by decide +kernel) ?_
      exact am_vI am_k72 am_r72 rfl ⟨rfl, rfl, rfl, rfl, rfl, rfl⟩
    · refine am_sw 38 (by decide +kernel) ?_
      exact am_vI am_k72 am_r72 rfl ⟨rfl, rfl, rfl, rfl, rfl, rfl⟩
    · refine am_sw 40 (by decide +kernel) ?_
      exact am_vI am_k72 am_r72 rfl ⟨rfl, rfl, rfl, rfl, rfl, rfl⟩
/-- blanks are skipped -/
def skN (sg : Nat → Int32) : Nat → Nat → Nat
  | 0, p => p
  | n + 1, p => if sg p = 32 then skN sg n (p + 1) else p
theorem skN_ok {S : aSh} {sg : Nat → Int32} (hN : ∀ p, N ≤ p → sg p = -9) : ∀ (n p : Nat), N ≤ p + n → p ≤ N → p ≤ skN sg n p ∧ skN sg n p ≤ N ∧ ¬ sg (skN sg n p) = 32 ∧ pA sg N S p = pA sg N S (skN sg n p)
  | 0, p, h, h2 => by
    refine ⟨Nat.le_refl _, h2, ?_, rfl⟩
    show ¬ sg p = 32
    rw [hN p (by omega)]
    decide
  | n + 1, p, h, h2 => by
    by_cases e : sg p = 32
    · have hp : p < N := by
        apply Nat.lt_of_not_le
        intro z
        rw [hN p z] at e
        exact absurd e (by decide)
      obtain ⟨g1, g2, g3, g4⟩ := skN_ok (S := S) hN n (p + 1) (by omega) (by omega)
      rw [skN, if_pos e]
      exact ⟨by omega, g2, g3, (pA_bl hp e).trans g4⟩
    · rw [skN, if_neg e]
      exact ⟨Nat.le_refl _, h2, e, rfl⟩
theorem sgX_32 : sgX G N p = 32 ↔ sgN G N p = 32 := by
  unfold sgX sgN
  split
  · exact Iff.rfl
  · exact ⟨fun z => absurd z (by decide), fun z => absurd z (by decide)⟩
theorem x_sk_lp {Q : tQ} (h : K0 σ r N G) {R : Nat} (hQ : Q none (u3 σ 7 0 2 (nI R)) τ (rX (some (6, r))) cX lX) : ∀ (d k p : Nat), k + d = 60 → p ≤ N → skN (sgN G N) d p = R → am_G l 67 Q 0 0 2 [(1, aI (nI k)), (0, aR 7 0)] [] (u3 σ 7 0 2 (nI p)) τ (rX (some (6, r))) cX lX
  | 0, k, p, hk, hp, hR => by
    obtain rfl : k = 60 := by omega
    obtain rfl : p = R := hR
    refine am_vc_ok am_k67 [2] 100 ?_
    refine And.intro (fun _ => ?_) (fun h1 => absurd (show (60 : Int32) ≤ nI 60 by decide) h1)
    exact am_vV am_k67 am_r67 rfl hQ
  | d + 1, k, p, hk, hp, hR => by
    have hN := h.2.1
    refine am_vc_ok am_k67 [2] 100 ?_
    refine And.intro (fun h1 => absurd h1 (nI_ge (b := 60) (by omega) (by decide))) (fun _ => ?_)
    refine am_vO am_k67 am_h67 rfl rfl rfl rfl (x_sign (p := p) (h.fr (u3_kk _ _ (by decide)) (u3_kk _ _ (by decide))) (u3_eq _ _ _ _ _) (by omega)) ?_
    refine am_vc_ok am_k67 [2] 100 ?_
    refine And.intro (fun e => ?_) (fun e => ?_)
    · have e := sgX_32.mp e
      rw [skN, if_pos e] at hR
      have hp1 : p < N := by
        apply Nat.lt_of_not_le
        intro z
        rw [sgN_N p z] at e
        exact absurd e (by decide)
      have K2 := x_sk_lp h hQ d (k + 1) (p + 1) (by omega) (by omega) hR
      rw [← nI_1 k] at K2
      exact am_Gs (by rw [u3_eq, u3_tw, nI_1]) (am_Gp [0, 1] rfl K2)
    · have e : ¬ sgN G N p = 32 := fun z => e (sgX_32.mpr z)
      rw [skN, if_neg e] at hR
      subst hR
      exact am_vV am_k67 am_r67 rfl hQ
theorem x_skip (h : K0 σ r N G) (hp : σ 7 0 2 = nI p) (hp2 : p ≤ N) : am_D l 67 [aR 7 0] σ τ (rX (some (6, r))) cX lX none (u3 σ 7 0 2 (nI (skN (sgN G N) 60 p))) τ (rX (some (6, r))) := by
  refine am_D_of am_o67 am_l67 rfl ?_
  refine am_vc_ok am_k67 [2] 100 ?_
  refine am_Gs (u3_self hp).symm ?_
  refine x_sk_lp (σ := σ) h ?_ 60 0 p (by omega) hp2 rfl
  exact ⟨rfl, rfl, rfl, rfl, rfl, rfl⟩
theorem x_tk_lp {Q : tQ} (h : K0 σ r N G) {R : Nat × Nat} {most m : Nat} (hmost : most ≤ 3) (K : ∀ k : Int32, am_G l 70 Q 0 0 57 [(4, aI k), (3, aI (nI R.1)), (2, aI (nI most)), (0, aR 7 0), (1, aI (nI m))] [] (u3 σ 7 0 2 (nI R.2)) τ (rX (some (6, r))) cX lX) : ∀ (d k a p : Nat), k + d = most → p ≤ N → tkF (sgN G N) d a p = R → am_G l 70 Q 0 0 16 [(4, aI (nI k)), (3, aI (nI a)), (2, aI (nI most)), (0, aR 7 0), (1, aI (nI m))] [] (u3 σ 7 0 2 (nI p)) τ (rX (some (6, r))) cX lX
  | 0, k, a, p, hk, hp, hR => by
    obtain rfl : k = most := by omega
    subst hR
    refine am_vc_ok am_k70 [16, 57] 100 ?_
    exact And.intro (fun _ => K _) (fun h1 => absurd (nI_le (Nat.le_refl _) (by omega)) h1)
  | d + 1, k, a, p, hk, hp, hR => by
    have hN := h.2.1
    have hf := x_figure (l := l) (τ := τ) (p := p) (h.fr (σ2 := u3 σ 7 0 2 (nI p)) (u3_kk _ _ (by decide)) (u3_kk _ _ (by decide))) (u3_eq _ _ _ _ _) (by omega)
    refine am_vc_ok am_k70 [16, 57] 100 ?_
    refine And.intro (fun h1 => absurd h1 (nI_ge (by omega) (by omega))) (fun _ => ?_)
    refine am_vO am_k70 am_h70 rfl rfl rfl rfl (hf) ?_
    refine am_vc_ok am_k70 [16, 57] 100 ?_
    cases e : fgO (sgN G N p) with
    | none =>
      rw [tkF_n e] at hR
      subst hR
      refine And.intro (fun _ => K _) (fun g => absurd rfl g)
    | some x =>
      have hx := (fgO_s e).1
      rw [tkF_y e] at hR
      rw [e] at hf
      have hp1 : p < N := by
        apply Nat.lt_of_not_le
        intro z
        rw [sgN_N p z, fgO9] at e
        cases e
      refine And.intro (fun g => absurd g (n9_4 (by omega))) (fun _ => ?_)
      refine am_vO am_k70 am_h70 rfl rfl rfl rfl (hf) ?_
      refine am_vc_ok am_k70 [16, 57] 100 ?_
      have K2 := x_tk_lp h hmost K d (k + 1) (10 * a + x) (p + 1) (by omega) (by omega) hR
      rw [← nI_1 k, show nI (10 * a + x) = nI a * 10 + pI (some x) by rw [pI_s, show (10 : Int32) = nI 10 from rfl, pk_mul, nI_add, Nat.mul_comm a 10]] at K2
      exact am_Gs (by rw [u3_eq, u3_tw, nI_1]) (am_Gp [0, 1, 2, 3, 4] rfl K2)
theorem x_takeF {m c : Nat} (hm : m < 3) (h : K0 σ r N G) (hp : σ 7 0 2 = nI p) (hp2 : p ≤ N) (hc : σ 9 0 1 = nI c) (hc2 : c < 12) : am_D l 70 [aR 7 0, aI (nI m)] σ τ (rX (some (6, r))) cX lX none (u3 (u3 σ 7 0 2 (nI (tkF (sgN G N) (nFig m) 0 p).2)) (35 + m) 0 c (nI (tkF (sgN G N) (nFig m) 0 p).1)) τ (rX (some (6, r))) := by
  have e9 : ∀ v, u3 σ 7 0 2 v 9 0 1 = nI c := fun v => by rw [u3_k _ _ (by decide)]; exact hc
  obtain rfl | rfl | rfl : m = 0 ∨ m = 1 ∨ m = 2 := by omega
  · refine am_D_of am_o70 am_l70 rfl ?_
    refine am_vc_ok am_k70 [16] 100 ?_
    refine And.intro (fun g => absurd g (by decide)) (fun _ => ?_)
    refine am_Gs (u3_self hp).symm ?_
    refine am_Gp (ls2 := [(4, aI (nI 0)), (3, aI (nI 0)), (2, aI (nI 1)), (0, aR 7 0), (1, aI (nI 0))]) [0, 1, 2, 3, 4] rfl ?_
    refine x_tk_lp (σ := σ) h (by decide) (fun k => ?_) 1 0 0 p (by omega) hp2 rfl
    refine am_vc_ok am_k70 [] 100 ?_
    refine And.intro (fun _ => ?_) (fun g => absurd nI_0 g)
    refine And.intro (by rw [e9]; exact vp_in_nI (N := 12) hc2 (by decide)) ?_
    rw [e9, nI_clamp (n := c) (by omega)]
    exact am_vV am_k70 am_r70 rfl ⟨rfl, rfl, rfl, rfl, rfl, rfl⟩
  · refine am_D_of am_o70 am_l70 rfl ?_
    refine am_vc_ok am_k70 [16] 100 ?_
    refine And.intro (fun g => absurd g (by decide)) (fun _ => ?_)
    refine am_Gs (u3_self hp).symm ?_
    refine am_Gp (ls2 := [(4, aI (nI 0)), (3, aI (nI 0)), (2, aI (nI 1)), (0, aR 7 0), (1, aI (nI 1))]) [0, 1, 2, 3, 4] rfl ?_
    refine x_tk_lp (σ := σ) h (by decide) (fun k => ?_) 1 0 0 p (by omega) hp2 rfl
    refine am_vc_ok am_k70 [] 100 ?_
    refine And.intro (fun g => absurd g (by decide)) (fun _ => ?_)
    refine And.intro (fun _ => ?_) (fun g => absurd rfl g)
    refine And.intro (by rw [e9]; exact vp_in_nI (N := 12) hc2 (by decide)) ?_
    rw [e9, nI_clamp (n := c) (by omega)]
    exact am_vV am_k70 am_r70 rfl ⟨rfl, rfl, rfl, rfl, rfl, rfl⟩
  · refine am_D_of am_o70 am_l70 rfl ?_
    refine am_vc_ok am_k70 [16] 100 ?_
    refine And.intro (fun _ => ?_) (fun g => absurd rfl g)
    refine am_Gs (u3_self hp).symm ?_
    refine am_Gp (ls2 := [(4, aI (nI 0)), (3, aI (nI 0)), (2, aI (nI 3)), (0, aR 7 0), (1, aI (nI 2))]) [0, 1, 2, 3, 4] rfl ?_
    refine x_tk_lp (σ := σ) h (by decide) (fun k => ?_) 3 0 0 p (by omega) hp2 rfl
    refine am_vc_ok am_k70 [] 100 ?_
    refine And.intro (fun g => absurd g (by decide)) (fun _ => ?_)
    refine And.intro (fun g => absurd g (by decide)) (fun _ => ?_)
    refine And.intro (by rw [e9]; exact vp_in_nI (N := 12) hc2 (by decide)) ?_
    rw [e9, nI_clamp (n := c) (by omega)]
    exact am_vV am_k70 am_r70 rfl ⟨rfl, rfl, rfl, rfl, rfl, rfl⟩
/-- only the marks of item c and the place have changed -/
def mkf (σ s : tI) (c : Nat) : Prop := (∀ q, q ≠ 7 → q ≠ 35 → q ≠ 36 → q ≠ 37 → s q = σ q) ∧ ∀ q i j, (i ≠ 0 ∨ j ≠ c) → 35 ≤ q → q ≤ 37 → s q i j = σ q i j
def mkI (s : tI) (c : Nat) (it : aM) : Prop := s 35 0 c = nI it.1 ∧ s 36 0 c = nI it.2.1 ∧ s 37 0 c = pI it.2.2
def mkQ (σ : tI) (c : Nat) (R : Nat ⊕ (aM × Nat)) (v : Option am_V) (s : tI) : Prop := mkf σ s c ∧ match R with
  | .inl q => v = some (aI (nI q))
  | .inr (it, q) => v = some (aI (-9)) ∧ s 7 0 2 = nI q ∧ mkI s c it
theorem mkf.pl {s : tI} {c : Nat} {v : Int32} (h : mkf σ s c) : mkf σ (u3 s 7 0 2 v) c :=
  ⟨fun q a1 a2 a3 a4 => by rw [u3_kk _ _ a1]; exact h.1 q a1 a2 a3 a4, fun q i j h1 h2 h3 => by rw [u3_k _ _ (by omega)]; exact h.2 q i j h1 h2 h3⟩
theorem mkf.um {s : tI} {c m v : Nat} (hm : m < 3) (h : mkf σ s c) : mkf σ (u3 s (35 + m) 0 c (nI v)) c := by
  refine ⟨fun q a1 a2 a3 a4 => by rw [u3_kk _ _ (by omega)]; exact h.1 q a1 a2 a3 a4, fun q i j h1 h2 h3 => ?_⟩
  rcases h1 with h1 | h1
  · rw [u3_i _ _ h1]; exact h.2 q i j (Or.inl h1) h2 h3
  · rw [u3_j _ _ h1]; exact h.2 q i j (Or.inr h1) h2 h3
theorem mkI.pl {s : tI} {c : Nat} {it : aM} {v : Int32} (h : mkI s c it) : mkI (u3 s 7 0 2 v) c it := by
  unfold mkI at h ⊢
  rw [u3_k _ _ (by decide), u3_k _ _ (by decide), u3_k _ _ (by decide)]
  exact h
theorem mkI.um {s : tI} {c m v : Nat} {it : aM} (hm : m < 3) (h : mkI s c it) : mkI (u3 s (35 + m) 0 c (nI v)) c (umM it m v) := by
  obtain ⟨h1, h2, h3⟩ := h
  obtain rfl | rfl | rfl : m = 0 ∨ m = 1 ∨ m = 2 := by omega
  · exact ⟨u3_eq _ _ _ _ _, by rw [u3_k _ _ (by decide)]; exact h2, by rw [u3_k _ _ (by decide)]; exact h3⟩
  · exact ⟨by rw [u3_k _ _ (by decide)]; exact h1, u3_eq _ _ _ _ _, by rw [u3_k _ _ (by decide)]; exact h3⟩
  · exact ⟨by rw [u3_k _ _ (by decide)]; exact h1, by rw [u3_k _ _ (by decide)]; exact h2, u3_eq _ _ _ _ _⟩
theorem pc_8 : ∀ s, s < 8 → pc s ≤ 3 := by decide +kernel
theorem ad_8 : ∀ s, s < 8 → ∀ m, m < 3 → ad s m < 8 := by decide +kernel
theorem x_mk_lp {Q : tQ} {c so : Nat} (hso : so < 4) (h : K0 σ r N G) (hc : σ 9 0 1 = nI c) (hc2 : c < 12) {R : Nat ⊕ (aM × Nat)} (hQ : ∀ v s, mkQ σ c R v s → Q v s τ (rX (some (6, r))) cX lX) : ∀ (d told p : Nat) (it : aM) (s : tI), d + pc told = 4 → told < 8 → p ≤ N → mkP (sgN G N) so d told it p = R → mkf σ s c → s 7 0 2 = nI p → mkI s c it → am_G l 69 Q 0 0 4 [(3, aI (nI (pc told))), (2, aI (nI told)), (0, aR 7 0), (1, aI (nI so))] [] s τ (rX (some (6, r))) cX lX
  | 0, told, p, it, s, hd, ht, hp, hR, hf, h7, hI => by
    have := pc_8 told ht
    omega
  | d + 1, told, p, it, s, hd, ht, hp, hR, hf, h7, hI => by
    have hN := h.2.1
    have hK : K0 s r N G := h.fr (hf.1 6 (by decide) (by decide) (by decide) (by decide)) (hf.1 30 (by decide) (by decide) (by decide) (by decide))
    have hp3 := pc_8 told ht
    refine am_vc_ok am_k69 [4, 53] 100 ?_
    refine And.intro (fun h1 => absurd h1 (Int32.not_lt.mpr (nI_le (b := 3) hp3 (by decide)))) (fun _ => ?_)
    refine am_vO am_k69 am_h69 rfl rfl rfl rfl (x_sign hK h7 (by omega)) ?_
    refine am_vc_ok am_k69 [4, 53] 100 ?_
    have hmk := x_markOf (l := l) (σ := s) (τ := τ) (v := sgX G N p) (ρ := rX (some (6, r))) (cn := cX) (ln := lX)
    rw [sg_f mkO (by decide)] at hmk
    refine am_vS am_k69 am_h69 rfl rfl rfl rfl (hmk) ?_
    refine am_vc_ok am_k69 [4, 53] 100 ?_
    unfold mkP at hR
    cases e : mkO (sgN G N p) with
    | none =>
      rw [e] at hR
      refine And.intro (fun _ => ?_) (fun g => absurd rfl g)
      refine am_vI am_k69 am_r69 rfl (hQ _ _ ⟨hf, ?_⟩)
      rw [← hR]
      exact ⟨rfl, h7, hI⟩
    | some m =>
      have hm := (mkO_s e).1
      rw [e] at hR
      refine And.intro (fun g => absurd g (n9_4 (by omega))) (fun _ => ?_)
      have xb := x_mb told (by omega) m (by omega)
      refine And.intro (fun g => ?_) (fun g => ?_)
      · have g := xb.mp g
        have hg : ¬ mb told m = true := by rw [g]; decide
        have go : ¬ (m = 2 ∧ so = 2) → am_G l 69 Q 0 0 53 [(4, aI (pI (some m))), (3, aI (nI (pc told))), (2, aI (nI told)), (0, aR 7 0), (1, aI (nI so))] [] s τ (rX (some (6, r))) cX lX := by
          intro hn
          have hR := hR
          simp only [if_neg (fun z : mb told m = true ∨ (m = 2 ∧ so = 2) => z.elim hg hn)] at hR
          have hp1 : p < N := by
            apply Nat.lt_of_not_le
            intro z
            rw [sgN_N p z, mkO9] at e
            cases e
          refine am_vc_ok am_k69 [4] 100 ?_
          have hK2 : K0 (u3 s 7 0 2 (s 7 0 2 + 1)) r N G := hK.fr (u3_kk _ _ (by decide)) (u3_kk _ _ (by decide))
          have e7 : u3 s 7 0 2 (s 7 0 2 + 1) 7 0 2 = nI (p + 1) := by rw [u3_eq, h7, nI_1]
          refine am_vO am_k69 am_h69 rfl rfl rfl rfl (x_figure hK2 e7 (by omega)) ?_
          refine am_vc_ok am_k69 [4] 100 ?_
          cases e2 : fgO (sgN G N (p + 1)) with
          | none =>
            rw [e2] at hR
            refine And.intro (fun _ => ?_) (fun g => absurd rfl g)
            refine am_vI am_k69 am_r69 rfl (hQ _ _ ⟨hf.pl, ?_⟩)
            rw [← hR]
            exact congrArg (fun x => some (aI x)) e7
          | some x =>
            rw [e2] at hR
            have hx := (fgO_s e2).1
            refine And.intro (fun g => absurd g (n9_4 (by omega))) (fun _ => ?_)
            refine am_vO am_k69 am_h69 rfl rfl rfl rfl (x_takeF hm hK2 e7 (by omega) (by rw [u3_k _ _ (by decide), hf.1 9 (by decide) (by decide) (by decide) (by decide)]; exact hc) hc2) ?_
            refine am_vc_ok am_k69 [4] 100 ?_
            have K2 := x_mk_lp hso h hc hc2 hQ d (ad told m) (tkF (sgN G N) (nFig m) 0 (p + 1)).2 (umM it m (tkF (sgN G N) (nFig m) 0 (p + 1)).1) (u3 (u3 s 7 0 2 (nI (tkF (sgN G N) (nFig m) 0 (p + 1)).2)) (35 + m) 0 c (nI (tkF (sgN G N) (nFig m) 0 (p + 1)).1)) (by rw [pc_ad told (by omega) m (by omega) g]; omega) (ad_8 told ht m hm) (tkF_N sgN_N _ _ _ (by omega)) hR (hf.pl.um hm) (by rw [u3_k _ _ (by omega), u3_eq]) (hI.pl.um hm)
            rw [pc_ad told (by omega) m (by omega) g, ← nI_1 (pc told), ← or_ad told (by omega) m (by omega)] at K2
            exact am_Gs (by rw [u3_tw]) (am_Gp [0, 1, 3, 4] rfl K2)
        refine And.intro (fun e2 => ?_) (fun e2 => ?_)
        · have e2 : m = 2 := nI_inj' (by omega) (by decide) (show nI m = nI 2 from e2)
          refine And.intro (fun e3 => ?_) (fun e3 => ?_)
          · have e3 : so = 2 := nI_inj' (by omega) (by decide) (show nI so = nI 2 from e3)
            simp only [if_pos (Or.inr ⟨e2, e3⟩ : mb told m = true ∨ (m = 2 ∧ so = 2))] at hR
            refine am_vI am_k69 am_r69 rfl (hQ _ _ ⟨hf, ?_⟩)
            rw [← hR]
            exact congrArg (fun x => some (aI x)) h7
          · exact (go (fun z => e3 (by rw [z.2]; rfl)))
        · exact (go (fun z => e2 (by rw [z.1]; rfl)))
      · have g : mb told m = true := by
          cases hg : mb told m with
          | true => rfl
          | false => exact absurd (xb.mpr hg) g
        simp only [if_pos (Or.inl g : mb told m = true ∨ (m = 2 ∧ so = 2))] at hR
        refine am_vI am_k69 am_r69 rfl (hQ _ _ ⟨hf, ?_⟩)
        rw [← hR]
        exact congrArg (fun x => some (aI x)) h7
theorem x_marks {c so : Nat} (hso : so < 4) (h : K0 σ r N G) (hp : σ 7 0 2 = nI p) (hp2 : p ≤ N) (hc : σ 9 0 1 = nI c) (hc2 : c < 12) (hI : mkI σ c (0, 9, none)) : am_T l 69 [aR 7 0, aI (nI so)] σ τ (some (6, r)) (fun v s τ2 t2 => τ2 = τ ∧ t2 = some (6, r) ∧ mkQ σ c (mkP (sgN G N) so 4 0 (0, 9, none) p) v s) := by
  refine am_T_of am_o69 am_l69 rfl ?_
  refine am_vc_ok am_k69 [4] 100 ?_
  refine am_Gp (ls2 := [(3, aI (nI (pc 0))), (2, aI (nI 0)), (0, aR 7 0), (1, aI (nI so))]) [0, 1, 2, 3] rfl ?_
  refine x_mk_lp hso h hc hc2 ?_ 4 0 p (0, 9, none) σ (by decide) (by decide) hp2 rfl ⟨fun _ _ _ _ _ => rfl, fun _ _ _ _ _ _ => rfl⟩ hp hI
  intro v s hs
  exact ⟨_, rfl, rfl, rfl, rfl, rfl, hs⟩
end L49

/-! the class's Scan: items, the whole -/
section L50
variable {l : Launch} {σ σ2 : tI} {τ τ2 : tL} {t : Option (Nat × Nat)} {r N p : Nat} {G : Nat → Int32}
theorem x_begin {c : Nat} {nm so ch : Int32} (hc : σ 9 0 1 = nI c) (hc2 : c < 12) : am_D l 77 [aR 9 0, aI nm, aI so, aI ch] σ τ (rX t) cX lX none (u3 (u3 (u3 (u3 (u3 (u3 σ 32 0 c nm) 33 0 c so) 34 0 c ch) 35 0 c 0) 36 0 c 9) 37 0 c (-9)) τ (rX t) := by
  have b : vp_in (nI c) 12 := vp_in_nI hc2 (by decide)
  have e : (σ 9 0 1).toNatClampNeg = c := by rw [hc, nI_clamp (by omega)]
  refine am_D_of am_o77 am_l77 rfl ?_
  refine am_vc_ok am_k77 [] 100 ?_
  refine And.intro (by rw [hc]; exact b) ?_
  rw [e]
  refine And.intro (by rw [u3_k _ _ (by decide), hc]; exact b) ?_
  rw [u3_k (a := 9) (b := 0) (c := 1) _ _ (by decide), e]
  refine And.intro (by rw [u3_k _ _ (by decide), u3_k _ _ (by decide), hc]; exact b) ?_
  rw [u3_k (a := 9) (b := 0) (c := 1) _ _ (by decide), u3_k (a := 9) (b := 0) (c := 1) _ _ (by decide), e]
  refine And.intro (by rw [u3_k _ _ (by decide), u3_k _ _ (by decide), u3_k _ _ (by decide), hc]; exact b) ?_
  rw [u3_k (a := 9) (b := 0) (c := 1) _ _ (by decide), u3_k (a := 9) (b := 0) (c := 1) _ _ (by decide), u3_k (a := 9) (b := 0) (c := 1) _ _ (by decide), e]
  refine And.intro (by rw [u3_k _ _ (by decide), u3_k _ _ (by decide), u3_k _ _ (by decide), u3_k _ _ (by decide), hc]; exact b) ?_
  rw [u3_k (a := 9) (b := 0) (c := 1) _ _ (by decide), u3_k (a := 9) (b := 0) (c := 1) _ _ (by decide), u3_k (a := 9) (b := 0) (c := 1) _ _ (by decide), u3_k (a := 9) (b := 0) (c := 1) _ _ (by decide), e]
  refine And.intro (by rw [u3_k _ _ (by decide), u3_k _ _ (by decide), u3_k _ _ (by decide), u3_k _ _ (by decide), u3_k _ _ (by decide), hc]; exact b) ?_
  rw [u3_k (a := 9) (b := 0) (c := 1) _ _ (by decide), u3_k (a := 9) (b := 0) (c := 1) _ _ (by decide), u3_k (a := 9) (b := 0) (c := 1) _ _ (by decide), u3_k (a := 9) (b := 0) (c := 1) _ _ (by decide), u3_k (a := 9) (b := 0) (c := 1) _ _ (by decide), e]
  exact am_vV am_k77 am_r77 rfl ⟨rfl, rfl, rfl, rfl, rfl, rfl⟩
/-- item c of the draft -/
def itI (σ : tI) (c : Nat) (i : aIt) : Prop := σ 32 0 c = nI i.1 ∧ σ 33 0 c = nI i.2.1 ∧ σ 34 0 c = nI i.2.2.1 ∧ mkI σ c i.2.2.2
/-- numbers of an item -/
def itB (i : aIt) : Prop := i.1 < 16 ∧ i.2.1 < 4 ∧ i.2.2.1 ≤ 9 ∧ i.2.2.2.1 ≤ 9 ∧ i.2.2.2.2.1 ≤ 9 ∧ ∀ d, i.2.2.2.2.2 = some d → d ≤ 999
def itA (S : aSh) (i : aIt) (n : Nat) : Prop := ∀ k, k < n → sNm S k = i.1 → sTi S k < i.2.2.2.1 ∨ i.2.2.2.2.1 < sSi S k
theorem itA_s {S : aSh} {i : aIt} {n : Nat} : itA S i (n + 1) ↔ itA S i n ∧ (sNm S n = i.1 → sTi S n < i.2.2.2.1 ∨ i.2.2.2.2.1 < sSi S n) := by
  constructor
  · intro h
    exact ⟨fun k hk => h k (by omega), h n (by omega)⟩
  · rintro ⟨h1, h2⟩ k hk
    by_cases e : k = n
    · rw [e]; exact h2
    · exact h1 k (by omega)
theorem x_ls_lp2 {Q : tQ} {S : aSh} {i : aIt} {c : Nat} (hc : sN S = c) (hc2 : c < 12) (h9 : σ 9 0 1 = nI c) (hX : XItems σ 0 S) (hS : ShOK S) (hi : itI σ c i) (hb : itB i) (K : ∀ v : Int32, v = cI (itA S i c) → Q (some (aI v)) σ τ (rX t) cX lX) : ∀ (d k : Nat), k + d = c → itA S i k → am_G l 78 Q 0 0 72 [(2, aI (nI k)), (1, aI (nI c)), (0, aR 9 0)] [] σ τ (rX t) cX lX
  | 0, k, h, hA => by
    obtain rfl : k = c := by omega
    refine am_vc_ok am_k78 [72] 100 ?_
    refine And.intro (fun _ => ?_) (fun h1 => absurd (by rw [h9]; exact nI_le (Nat.le_refl _) (by omega)) h1)
    exact am_vZ am_k78 am_r78 rfl (Or.inr rfl) (K 1 (cI_t hA).symm)
  | d + 1, k, h, hA => by
    have hk : k < c := by omega
    have bk : vp_in (nI k) 12 := vp_in_nI (by omega) (by decide)
    have bc : vp_in (nI c) 12 := vp_in_nI (by omega) (by decide)
    have ek : (nI k).toNatClampNeg = k := nI_clamp (by omega)
    have ec : (nI c).toNatClampNeg = c := nI_clamp (by omega)
    obtain ⟨x1, x2, x3, x4, x5, x6⟩ := hX k (by omega)
    obtain ⟨y1, y2, y3, y4, y5, y6⟩ := hi
    obtain ⟨b1, b2, b3, b4, b5, b6⟩ := hb
    obtain ⟨s1, s2, s3, s4, s5, s6, s7⟩ := hS.2.1 k (by omega)
    have go : itA S i (k + 1) → am_G l 78 Q 0 0 72 [(2, aI (nI k + 1)), (1, aI (nI c)), (0, aR 9 0)] [] σ τ (rX t) cX lX := by
      intro hA2
      rw [show nI k + 1 = nI (k + 1) from nI_1 k]
      exact x_ls_lp2 hc hc2 h9 hX hS ⟨y1, y2, y3, y4, y5, y6⟩ ⟨b1, b2, b3, b4, b5, b6⟩ K d (k + 1) (by omega) hA2
    refine am_vc_ok am_k78 [72] 100 ?_
    refine And.intro (fun h1 => absurd h1 (by rw [h9]; exact nI_ge hk (by omega))) (fun _ => ?_)
    refine And.intro (bk) ?_
    rw [ek]
    refine And.intro (bc) ?_
    rw [ec]
    refine And.intro (fun e => ?_) (fun e => ?_)
    · have e : sNm S k = i.1 := by
        have e : σ 32 0 k = σ 32 0 c := e
        rw [x1, y1] at e
        exact nI_inj' (by omega) (by omega) e
      refine And.intro (bk) ?_
      rw [ek]
      refine And.intro (bc) ?_
      rw [ec]
      refine And.intro (fun g => ?_) (fun g => ?_)
      · have g : σ 36 0 c < σ 35 0 k := g
        rw [x4, y5, nI_ltI (by omega) (by omega)] at g
        exact go (itA_s.mpr ⟨hA, fun _ => Or.inr g⟩)
      · have g : ¬ σ 36 0 c < σ 35 0 k := g
        rw [x4, y5, nI_ltI (by omega) (by omega)] at g
        refine And.intro (bc) ?_
        rw [ec]
        refine And.intro (bk) ?_
        rw [ek]
        refine And.intro (fun g2 => ?_) (fun g2 => ?_)
        · have g2 : σ 36 0 k < σ 35 0 c := g2
          rw [x5, y4, nI_ltI (by omega) (by omega)] at g2
          exact go (itA_s.mpr ⟨hA, fun _ => Or.inl g2⟩)
        · have g2 : ¬ σ 36 0 k < σ 35 0 c := g2
          rw [x5, y4, nI_ltI (by omega) (by omega)] at g2
          refine am_vZ am_k78 am_r78 rfl (Or.inl rfl) (K 0 (cI_f (fun z => ?_)).symm)
          rcases z k hk e with z | z
          · exact g2 z
          · exact g z
    · have e : ¬ sNm S k = i.1 := fun z => e (by
        show σ 32 0 k = σ 32 0 c
        rw [x1, y1, z])
      exact go (itA_s.mpr ⟨hA, fun z => absurd z e⟩)
theorem x_last {S : aSh} {i : aIt} {c : Nat} (hc : sN S = c) (hc2 : c < 12) (h9 : σ 9 0 1 = nI c) (hX : XItems σ 0 S) (hS : ShOK S) (hi : itI σ c i) (hb : itB i) : am_D l 78 [aR 9 0] σ τ (rX t) cX lX (some (aI (cI (itOK S i)))) σ τ (rX t) := by
  have bc : vp_in (nI c) 12 := vp_in_nI (by omega) (by decide)
  have ec : (nI c).toNatClampNeg = c := nI_clamp (by omega)
  have hi' := hi
  have hb' := hb
  obtain ⟨y1, y2, y3, y4, y5, y6⟩ := hi
  obtain ⟨b1, b2, b3, b4, b5, b6⟩ := hb
  have eA : itOK S i ↔ (i.2.2.2.1 ≤ i.2.2.2.2.1 ∧ (∀ d, i.2.2.2.2.2 = some d → (i.2.1 = 0 → d ≤ 255) ∧ (i.2.1 = 3 → d < i.2.2.1)) ∧ itA S i c) := by
    unfold itOK itA
    rw [hc]
  have hp : ∀ d, i.2.2.2.2.2 = some d → σ 37 0 c = nI d := fun d hd => by
    have z := y6
    rw [hd] at z
    exact z
  have hpn : i.2.2.2.2.2 = none → σ 37 0 c = -9 := fun hd => by
    have z := y6
    rw [hd] at z
    exact z
  refine am_D_of am_o78 am_l78 rfl ?_
  refine am_vc_ok am_k78 [72] 100 ?_
  refine And.intro (by rw [h9]; exact bc) ?_
  rw [h9, ec]
  refine And.intro (bc) ?_
  rw [ec]
  refine And.intro (fun e => ?_) (fun e => ?_)
  · have e : σ 35 0 c ≤ σ 36 0 c := e
    rw [y4, y5, nI_leI (by omega) (by omega)] at e
    have fin : (∀ d, i.2.2.2.2.2 = some d → (i.2.1 = 0 → d ≤ 255) ∧ (i.2.1 = 3 → d < i.2.2.1)) → am_G l 78 (fun v s t2 p2 c2 n2 => v = some (aI (cI (itOK S i))) ∧ s = σ ∧ t2 = τ ∧ p2 = rX t ∧ c2 = cX ∧ n2 = lX) 0 0 72 [(2, aI (nI 0)), (1, aI (nI c)), (0, aR 9 0)] [] σ τ (rX t) cX lX := by
      intro hd
      refine x_ls_lp2 hc hc2 h9 hX hS hi' hb' (fun v hv => ⟨?_, rfl, rfl, rfl, rfl, rfl⟩) c 0 (by omega) (fun k hk => absurd hk (by omega))
      rw [hv, eA]
      exact congrArg (fun x => some (aI x)) (cI_cg ⟨fun z => ⟨e, hd, z⟩, fun z => z.2.2⟩)
    refine And.intro (bc) ?_
    rw [ec]
    refine And.intro (fun g => ?_) (fun g => ?_)
    · have g : σ 33 0 c = 0 := g
      rw [y2] at g
      have g : i.2.1 = 0 := nI_inj' (by omega) (by decide) (show nI i.2.1 = nI 0 from g)
      refine And.intro (bc) ?_
      rw [ec]
      refine And.intro (fun g2 => ?_) (fun g2 => ?_)
      · have g2 : 255 < σ 37 0 c := g2
        refine am_vZ am_k78 am_r78 rfl (Or.inl rfl) ⟨?_, rfl, rfl, rfl, rfl, rfl⟩
        refine congrArg (fun x => some (aI x)) (cI_f (fun z => ?_)).symm
        cases hd : i.2.2.2.2.2 with
        | none => rw [hpn hd] at g2; exact absurd g2 (by decide)
        | some d =>
          have h1 := ((eA.mp z).2.1 d hd).1 g
          have h2 := b6 d hd
          rw [hp d hd, show (255 : Int32) = nI 255 from rfl, nI_ltI (by decide) (by omega)] at g2
          omega
      · have g2 : ¬ 255 < σ 37 0 c := g2
        refine And.intro (bc) ?_
        rw [ec]
        refine And.intro (fun g3 => ?_) (fun g3 => ?_)
        · have g3 : σ 33 0 c = 3 := g3
          rw [y2, g] at g3
          exact absurd g3 (by decide)
        · refine am_Gp [0, 1, 2] rfl (fin (fun d hd => ⟨fun _ => ?_, fun z => by omega⟩))
          have h2 := b6 d hd
          rw [hp d hd, show (255 : Int32) = nI 255 from rfl, nI_ltI (by decide) (by omega)] at g2
          omega
    · have g : ¬ σ 33 0 c = 0 := g
      rw [y2] at g
      have g : ¬ i.2.1 = 0 := fun z => g (by rw [z]; rfl)
      refine And.intro (bc) ?_
      rw [ec]
      refine And.intro (fun g3 => ?_) (fun g3 => ?_)
      · have g3 : σ 33 0 c = 3 := g3
        rw [y2] at g3
        have g3 : i.2.1 = 3 := nI_inj' (by omega) (by decide) (show nI i.2.1 = nI 3 from g3)
        refine And.intro (bc) ?_
        rw [ec]
        refine And.intro (bc) ?_
        rw [ec]
        refine And.intro (fun g4 => ?_) (fun g4 => ?_)
        · have g4 : σ 37 0 c < σ 34 0 c := g4
          refine am_Gp [0, 1, 2] rfl (fin (fun d hd => ⟨fun z => absurd z g, fun _ => ?_⟩))
          have h2 := b6 d hd
          rw [hp d hd, y3, nI_ltI (by omega) (by omega)] at g4
          exact g4
        · have g4 : ¬ σ 37 0 c < σ 34 0 c := g4
          refine am_vZ am_k78 am_r78 rfl (Or.inl rfl) ⟨?_, rfl, rfl, rfl, rfl, rfl⟩
          refine congrArg (fun x => some (aI x)) (cI_f (fun z => ?_)).symm
          cases hd : i.2.2.2.2.2 with
          | none => rw [hpn hd, y3] at g4; exact absurd (Int32.lt_of_lt_of_le (show (-9 : Int32) < 0 by decide) (nI_pos' (by omega))) g4
          | some d =>
            have h1 := ((eA.mp z).2.1 d hd).2 g3
            have h2 := b6 d hd
            rw [hp d hd, y3, nI_ltI (by omega) (by omega)] at g4
            omega
      · have g3 : ¬ σ 33 0 c = 3 := g3
        rw [y2] at g3
        have g3 : ¬ i.2.1 = 3 := fun z => g3 (by rw [z]; rfl)
        exact am_Gp [0, 1, 2] rfl (fin (fun d hd => ⟨fun z => absurd z g, fun z => absurd z g3⟩))
  · have e : ¬ σ 35 0 c ≤ σ 36 0 c := e
    rw [y4, y5, nI_leI (by omega) (by omega)] at e
    refine am_vZ am_k78 am_r78 rfl (Or.inl rfl) ⟨?_, rfl, rfl, rfl, rfl, rfl⟩
    exact congrArg (fun x => some (aI x)) (cI_f (fun z => e (eA.mp z).1)).symm
end L50

/-! the class's Scan: an item, the whole text -/
section L51
variable {l : Launch} {σ σ2 : tI} {τ τ2 : tL} {t : Option (Nat × Nat)} {r N p : Nat} {G : Nat → Int32}
theorem am_wl_cg {ca : Nat → ClassId} {ad : tM} {ρ ρ2 : tR} {ln : tM} {L : List (Nat × Nat)} (h : ∀ q ∈ L, ρ q.1 q.2 = ρ2 q.1 q.2) : am_wl ca ad σ τ ρ ln L = am_wl ca ad σ τ ρ2 ln L := by
  unfold am_wl
  refine List.map_congr_left fun q hq => ?_
  unfold am_ce am_fv
  rw [h q hq]
/-- references of objects that are not there may be anything -/
theorem am_Gr {y : Nat} {Q : tQ} {u w pc : Nat} {ls : am_ls} {st : List am_V} {ρ ρ2 : tR} {cn : tN} {ln : tM} (h : ∀ k i j, i < cn k → ρ k i j = ρ2 k i j) (K : am_G l y Q u w pc ls st σ τ ρ2 cn ln) : am_G l y Q u w pc ls st σ τ ρ cn ln := by
  intro p e s m args below meth cc D ca ad0 L0 A ad L H locs lsA hX hL hY hS hl hVl hV
  obtain ⟨y1, y2, y3, y4⟩ := hY
  have e : am_wl ca ad σ τ ρ ln L = am_wl ca ad σ τ ρ2 ln L := am_wl_cg (fun q hq => funext fun j => h q.1 q.2 j ((y1 q).mp hq))
  rw [e] at y3 y4
  exact K p _ s m args below meth cc D ca ad0 L0 A ad L H locs lsA hX hL ⟨y1, fun k i j q h1 h2 h3 => y2 k i j q h1 h2 ((h k i j h1).trans h3), y3, y4⟩ hS hl hVl hV
theorem rX_ne {v : Option (Nat × Nat)} {k i j : Nat} (h : k ≠ 7) : rX t k i j = rX v k i j := by
  have hb : Nat.beq k 7 = false := by cases hh : Nat.beq k 7 with | false => rfl | true => exact absurd (am_beq hh) h
  unfold rX
  simp only [hb, cond_false]
theorem rX_7 {v : Option (Nat × Nat)} : ∀ {j : Nat}, j ≠ 1 → rX t 7 0 j = rX v 7 0 j
  | 0, _ => rfl
  | 1, h => absurd rfl h
  | _ + 2, _ => rfl
theorem rX_set {v : Option (Nat × Nat)} : ∀ k i j, i < cX k → u3 (rX t) 7 0 1 v k i j = rX v k i j := by
  intro k i j hi
  by_cases hk : k = 7
  · subst hk
    have h1 : cX 7 = 1 := rfl
    obtain rfl : i = 0 := by omega
    by_cases hj : j = 1
    · subst hj
      rw [u3_eq]
      rfl
    · rw [u3_j _ _ hj]
      exact rX_7 hj
  · rw [u3_k _ _ hk]
    exact rX_ne hk
/-- only the scan's own cells have changed -/
def scP (σ s : tI) : Prop := (∀ q, q ≠ 7 → q ≠ 9 → ¬ (32 ≤ q ∧ q ≤ 37) → s q = σ q) ∧ ∀ q i, q ≠ 7 → i ≠ 0 → s q i = σ q i
theorem scP.refl : scP σ σ := ⟨fun _ _ _ _ => rfl, fun _ _ _ _ => rfl⟩
theorem scP.tr {s s2 : tI} (h : scP σ s) (h2 : scP s s2) : scP σ s2 := ⟨fun q a b c => (h2.1 q a b c).trans (h.1 q a b c), fun q i a b => (h2.2 q i a b).trans (h.2 q i a b)⟩
theorem scP.u {s : tI} {q j : Nat} {v : Int32} (h : scP σ s) (hq : q = 7 ∨ q = 9 ∨ (32 ≤ q ∧ q ≤ 37)) : scP σ (u3 s q 0 j v) := by
  refine ⟨fun k a b c => by rw [u3_kk _ _ (by omega)]; exact h.1 k a b c, fun k i a b => ?_⟩
  rw [← h.2 k i a b]
  funext x
  rw [u3_i _ _ b]
theorem mkf.sc {s : tI} {c : Nat} (h : mkf σ s c) : scP σ s := by
  refine ⟨fun q a b c => h.1 q a (by omega) (by omega) (by omega), fun q i a b => ?_⟩
  by_cases hq : 35 ≤ q ∧ q ≤ 37
  · funext x
    exact h.2 q i x (Or.inl b) hq.1 hq.2
  · rw [h.1 q a (by omega) (by omega) (by omega)]
theorem mkP_b {sg : Nat → Int32} {so N : Nat} (hN : ∀ p, N ≤ p → sg p = -9) : ∀ (d told : Nat) (it it2 : aM) (p q : Nat), p ≤ N → mkP sg so d told it p = .inr (it2, q) → (it.1 ≤ 9 ∧ it.2.1 ≤ 9 ∧ ∀ x, it.2.2 = some x → x ≤ 999 ∧ so ≠ 2) → q ≤ N ∧ it2.1 ≤ 9 ∧ it2.2.1 ≤ 9 ∧ ∀ x, it2.2.2 = some x → x ≤ 999 ∧ so ≠ 2
  | 0, _, _, _, p, q, _, h, _ => by cases h
  | d + 1, told, it, it2, p, q, hp, h, hb => by
    unfold mkP at h
    split at h
    · cases h; exact ⟨hp, hb⟩
    · rename_i m e
      split at h
      · cases h
      · rename_i hn
        split at h
        · cases h
        · have hm := (mkO_s e).1
          have hp1 : p < N := by
            apply Nat.lt_of_not_le
            intro z
            rw [hN p z, mkO9] at e
            cases e
          refine mkP_b hN d _ _ _ _ _ (tkF_N hN _ _ _ (by omega)) h ?_
          obtain rfl | rfl | rfl : m = 0 ∨ m = 1 ∨ m = 2 := by omega
          · have := tkF_le (sg := sg) 1 0 (p + 1) 1 (by decide)
            exact ⟨by show (tkF sg 1 0 (p + 1)).1 ≤ 9; omega, hb.2.1, hb.2.2⟩
          · have := tkF_le (sg := sg) 1 0 (p + 1) 1 (by decide)
            exact ⟨hb.1, by show (tkF sg 1 0 (p + 1)).1 ≤ 9; omega, hb.2.2⟩
          · have := tkF_le (sg := sg) 3 0 (p + 1) 1 (by decide)
            refine ⟨hb.1, hb.2.1, fun x hx => ?_⟩
            have hx : (tkF sg 3 0 (p + 1)).1 = x := Option.some.inj hx
            exact ⟨by omega, fun z => hn (Or.inr ⟨rfl, z⟩)⟩
theorem mkP_f {sg : Nat → Int32} {so N : Nat} (hN : ∀ p, N ≤ p → sg p = -9) : ∀ (d told : Nat) (it : aM) (p q : Nat), p ≤ N → mkP sg so d told it p = .inl q → q ≤ N
  | 0, _, _, p, q, hp, h => by cases h; exact hp
  | d + 1, told, it, p, q, hp, h => by
    unfold mkP at h
    split at h
    · cases h
    · rename_i m e
      have hp1 : p < N := by
        apply Nat.lt_of_not_le
        intro z
        rw [hN p z, mkO9] at e
        cases e
      split at h
      · cases h; exact hp
      · split at h
        · cases h; omega
        · exact mkP_f hN d _ _ _ _ (tkF_N hN _ _ _ (by omega)) h
/-- what the reader takes is a good item -/
theorem itP_b {sg : Nat → Int32} {S : aSh} {N p q : Nat} {i : aIt} (hN : ∀ p, N ≤ p → sg p = -9) (h : itP sg S p = .inr (i, q)) : q ≤ N ∧ sN S ≠ 12 ∧ itB i ∧ (i.2.1 = 3 → 1 ≤ i.2.2.1) ∧ (i.2.1 ≠ 3 → i.2.2.1 = 0) ∧ (∀ d, i.2.2.2.2.2 = some d → i.2.1 ≠ 2) ∧ itOK S i := by
  unfold itP at h
  split at h
  · cases h
  rename_i nm e1
  split at h
  · cases h
  rename_i e2
  split at h
  · cases h
  rename_i so e3
  split at h
  · cases h
  rename_i c e4
  split at h
  · cases h
  rename_i e5
  unfold itE at h
  split at h
  · cases h
  · rename_i it q2 e6
    by_cases hok : itOK S (nm, so, (if so = 3 then c else 0), it)
    · rw [if_pos hok] at h
      cases h
      have n1 := nmO_s e1
      have n3 := soO_s e3
      have l1 : p + 1 < N := by
        apply Nat.lt_of_not_le
        intro z
        rw [hN _ z, soO9] at e3
        cases e3
      have l2 : (if so = 3 then p + 3 else p + 2) ≤ N ∧ (so = 3 → 1 ≤ c ∧ c ≤ 9) := by
        by_cases h3 : so = 3
        · rw [if_pos h3] at e4 ⊢
          have l3 : p + 2 < N := by
            apply Nat.lt_of_not_le
            intro z
            rw [hN _ z, fgO9] at e4
            cases e4
          have := (fgO_s e4).1
          exact ⟨by omega, fun _ => ⟨by omega, this⟩⟩
        · rw [if_neg h3]
          exact ⟨by omega, fun z => absurd z h3⟩
      obtain ⟨g1, g2, g3, g4⟩ := mkP_b hN 4 0 (0, 9, none) it _ q l2.1 e6 ⟨by decide, by decide, fun x hx => by cases hx⟩
      refine ⟨g1, e2, ⟨n1.1, n3.1, ?_, g2, g3, fun d hd => (g4 d hd).1⟩, fun z => ?_, fun z => ?_, fun d hd => (g4 d hd).2, hok⟩
      · show (if so = 3 then c else 0) ≤ 9
        split
        · exact (l2.2 (by assumption)).2
        · omega
      · show 1 ≤ (if so = 3 then c else 0)
        have z : so = 3 := z
        rw [if_pos z]
        exact (l2.2 z).1
      · show (if so = 3 then c else 0) = 0
        have z : so ≠ 3 := z
        rw [if_neg z]
    · rw [if_neg hok] at h
      cases h
theorem psh_lt {S : aSh} {i : aIt} {k : Nat} (h : k < sN S) : sNm (psh S i) k = sNm S k ∧ sSo (psh S i) k = sSo S k ∧ sCh (psh S i) k = sCh S k ∧ sSi (psh S i) k = sSi S k ∧ sTi (psh S i) k = sTi S k ∧ sPr (psh S i) k = sPr S k := by
  have e : ¬ k = sN S := by omega
  exact ⟨if_neg e, if_neg e, if_neg e, if_neg e, if_neg e, if_neg e⟩
theorem psh_eq {S : aSh} {i : aIt} : sNm (psh S i) (sN S) = i.1 ∧ sSo (psh S i) (sN S) = i.2.1 ∧ sCh (psh S i) (sN S) = i.2.2.1 ∧ sSi (psh S i) (sN S) = i.2.2.2.1 ∧ sTi (psh S i) (sN S) = i.2.2.2.2.1 ∧ sPr (psh S i) (sN S) = i.2.2.2.2.2 :=
  ⟨if_pos rfl, if_pos rfl, if_pos rfl, if_pos rfl, if_pos rfl, if_pos rfl⟩
theorem psh_ok {S : aSh} {i : aIt} (hS : ShOK S) (h2 : sN S ≠ 12) (h3 : itB i) (h4 : i.2.1 = 3 → 1 ≤ i.2.2.1) (h5 : i.2.1 ≠ 3 → i.2.2.1 = 0) (h6 : ∀ d, i.2.2.2.2.2 = some d → i.2.1 ≠ 2) (h7 : itOK S i) : ShOK (psh S i) := by
  obtain ⟨w1, w2, w3⟩ := hS
  obtain ⟨b1, b2, b3, b4, b5, b6⟩ := h3
  have en : sN (psh S i) = sN S + 1 := rfl
  refine ⟨by omega, fun k hk => ?_, fun k1 k2 hk1 hk2 hne => ?_⟩
  · by_cases e : k = sN S
    · subst e
      obtain ⟨p1, p2, p3, p4, p5, p6⟩ := psh_eq (S := S) (i := i)
      rw [p1, p2, p3, p4, p5, p6]
      exact ⟨b1, b2, fun z => ⟨h4 z, b3⟩, h5, h7.1, b5, fun d hd => ⟨b6 d hd, h6 d hd, (h7.2.1 d hd).1, (h7.2.1 d hd).2⟩⟩
    · obtain ⟨p1, p2, p3, p4, p5, p6⟩ := psh_lt (S := S) (i := i) (k := k) (by omega)
      rw [p1, p2, p3, p4, p5, p6]
      exact w2 k (by omega)
  · obtain ⟨q1, q2, q3, q4, q5, q6⟩ := psh_eq (S := S) (i := i)
    by_cases e1 : k1 = sN S
    · subst e1
      obtain ⟨p1, p2, p3, p4, p5, p6⟩ := psh_lt (S := S) (i := i) (k := k2) (by omega)
      rw [q1, p1, q5, q4, p5, p4]
      intro z
      exact (h7.2.2 k2 (by omega) z.symm).elim Or.inr Or.inl
    · obtain ⟨p1, p2, p3, p4, p5, p6⟩ := psh_lt (S := S) (i := i) (k := k1) (by omega)
      by_cases e2 : k2 = sN S
      · subst e2
        rw [q1, p1, q5, q4, p5, p4]
        intro z
        exact h7.2.2 k1 (by omega) z
      · obtain ⟨o1, o2, o3, o4, o5, o6⟩ := psh_lt (S := S) (i := i) (k := k2) (by omega)
        rw [p1, o1, p5, o4, o5, p4]
        exact w3 k1 k2 (by omega) (by omega) hne
theorem XItems.fr {s : tI} {S : aSh} {i c : Nat} (h : XItems σ i S) (hc : sN S ≤ c) (hs : ∀ q k, 32 ≤ q → q ≤ 37 → k < c → s q i k = σ q i k) : XItems s i S := by
  intro k hk
  rw [hs 32 k (by decide) (by decide) (by omega), hs 33 k (by decide) (by decide) (by omega), hs 34 k (by decide) (by decide) (by omega), hs 35 k (by decide) (by decide) (by omega), hs 36 k (by decide) (by decide) (by omega), hs 37 k (by decide) (by decide) (by omega)]
  exact h k hk
theorem XItems.psh {S : aSh} {i : aIt} (h : XItems σ 0 S) (hi : itI σ (sN S) i) : XItems σ 0 (psh S i) := by
  intro k hk
  have hk : k < sN S + 1 := hk
  by_cases e : k = sN S
  · subst e
    obtain ⟨p1, p2, p3, p4, p5, p6⟩ := psh_eq (S := S) (i := i)
    rw [p1, p2, p3, p4, p5, p6]
    exact ⟨hi.1, hi.2.1, hi.2.2.1, hi.2.2.2.1, hi.2.2.2.2.1, hi.2.2.2.2.2⟩
  · obtain ⟨p1, p2, p3, p4, p5, p6⟩ := psh_lt (S := S) (i := i) (k := k) (by omega)
    rw [p1, p2, p3, p4, p5, p6]
    exact h k (by omega)
def itQ (σ : tI) (S : aSh) (R : Nat ⊕ (aIt × Nat)) (v : Option am_V) (s : tI) : Prop := scP σ s ∧ match R with
  | .inl q => v = some (aI (nI q))
  | .inr (i, q) => v = some (aI (-9)) ∧ s 7 0 2 = nI q ∧ s 9 0 1 = nI (sN S + 1) ∧ XItems s 0 (psh S i)
theorem x_si2 {Q : tQ} {s : tI} {S : aSh} {nm so ch q0 : Nat} {R : Nat ⊕ (aIt × Nat)} (h : K0 σ r N G) (hsc : scP σ s) (hq0 : q0 ≤ N) (h7 : s 7 0 2 = nI q0) (h9 : s 9 0 1 = nI (sN S)) (hS : ShOK S) (hc2 : sN S < 12) (hX : XItems s 0 S) (hnm : nm < 16) (hso : so < 4) (hch : ch ≤ 9) (hR : itE (sgN G N) S nm so ch q0 = R) (hQ : ∀ v s, itQ σ S R v s → Q v s τ (rX (some (6, r))) cX lX) : am_G l 68 Q 0 0 104 [(3, aI (nI ch)), (2, aI (nI so)), (1, aI (nI nm)), (0, aR 7 0)] [] s τ (rX (some (6, r))) cX lX := by
  have hN := h.2.1
  have hK : K0 s r N G := h.fr (hsc.1 6 (by decide) (by decide) (by decide)) (hsc.1 30 (by decide) (by decide) (by decide))
  refine am_vc_ok am_k68 [] 100 ?_
  refine am_vO am_k68 am_h68 rfl rfl rfl rfl (x_begin h9 hc2) ?_
  refine am_vc_ok am_k68 [] 100 ?_
  generalize hs1 : u3 (u3 (u3 (u3 (u3 (u3 s 32 0 (sN S) (nI nm)) 33 0 (sN S) (nI so)) 34 0 (sN S) (nI ch)) 35 0 (sN S) 0) 36 0 (sN S) 9) 37 0 (sN S) (-9) = s1
  have g1 : ∀ q, q ≠ 32 → q ≠ 33 → q ≠ 34 → q ≠ 35 → q ≠ 36 → q ≠ 37 → s1 q = s q := fun q a1 a2 a3 a4 a5 a6 => by rw [← hs1, u3_kk _ _ a6, u3_kk _ _ a5, u3_kk _ _ a4, u3_kk _ _ a3, u3_kk _ _ a2, u3_kk _ _ a1]
  have g9 := g1 9 (by decide) (by decide) (by decide) (by decide) (by decide) (by decide)
  have hsc1 : scP σ s1 := by
    rw [← hs1]
    exact (((((hsc.u (by decide)).u (by decide)).u (by decide)).u (by decide)).u (by decide)).u (by decide)
  have gX : XItems s1 0 S := hX.fr (Nat.le_refl _) (fun q k a b hk => by
    have e : k ≠ sN S := by omega
    rw [← hs1, u3_j _ _ e, u3_j _ _ e, u3_j _ _ e, u3_j _ _ e, u3_j _ _ e, u3_j _ _ e])
  have gI : itI s1 (sN S) (nm, so, ch, 0, 9, none) := by
    rw [← hs1]
    refine ⟨?_, ?_, ?_, ?_, ?_, ?_⟩
    · simp [u3]
    · simp [u3]
    · simp [u3]
    · show _ = nI 0; simp [u3]; rfl
    · show _ = nI 9; simp [u3]; rfl
    · show _ = pI none; simp [u3]; rfl
  have hK1 : K0 s1 r N G := hK.fr (g1 6 (by decide) (by decide) (by decide) (by decide) (by decide) (by decide)) (g1 30 (by decide) (by decide) (by decide) (by decide) (by decide) (by decide))
  refine am_vOT am_k68 am_h68 rfl rfl rfl rfl (x_marks hso hK1 (by rw [g1 7 (by decide) (by decide) (by decide) (by decide) (by decide) (by decide)]; exact h7) hq0 (by rw [g9]; exact h9) hc2 gI.2.2.2) ?_
  rintro v s2 τ2 t2 ⟨rfl, rfl, hM⟩
  obtain ⟨hf, hM⟩ := hM
  have hsc2 : scP σ s2 := hsc1.tr hf.sc
  have f9 : s2 9 0 1 = nI (sN S) := by rw [hf.1 9 (by decide) (by decide) (by decide) (by decide), g9]; exact h9
  unfold itE at hR
  cases e : mkP (sgN G N) so 4 0 (0, 9, none) q0 with
  | inl q =>
    rw [e] at hM hR
    have hM : v = some (aI (nI q)) := hM
    subst hM
    have hq : q < 1000 := by
      have := mkP_f (sg := sgN G N) (so := so) sgN_N 4 0 (0, 9, none) q0 q hq0 e
      omega
    refine am_vc_ok am_k68 [] 100 ?_
    refine And.intro (fun z => absurd z (n9_4 hq)) (fun _ => ?_)
    refine am_vI am_k68 am_r68 rfl (hQ _ _ ⟨hsc2, ?_⟩)
    rw [← hR]
  | inr iq =>
    obtain ⟨it, q⟩ := iq
    rw [e] at hM hR
    obtain ⟨rfl, f7, fI⟩ := hM
    obtain ⟨b1, b2, b3, b4⟩ := mkP_b sgN_N 4 0 (0, 9, none) it q0 q hq0 e ⟨by decide, by decide, fun x hx => by cases hx⟩
    have hI2 : itI s2 (sN S) (nm, so, ch, it) := ⟨by rw [hf.1 32 (by decide) (by decide) (by decide) (by decide)]; exact gI.1, by rw [hf.1 33 (by decide) (by decide) (by decide) (by decide)]; exact gI.2.1, by rw [hf.1 34 (by decide) (by decide) (by decide) (by decide)]; exact gI.2.2.1, fI⟩
    have hX2 : XItems s2 0 S := gX.fr (Nat.le_refl _) (fun q k a b hk => by
      by_cases hq : 35 ≤ q
      · exact hf.2 q 0 k (Or.inr (by omega)) hq b
      · rw [hf.1 q (by omega) (by omega) (by omega) (by omega)])
    refine am_vc_ok am_k68 [] 100 ?_
    refine And.intro (fun _ => ?_) (fun z => absurd rfl z)
    refine am_vO am_k68 am_h68 rfl rfl rfl rfl (x_last (S := S) (i := (nm, so, ch, it)) rfl hc2 f9 hX2 hS hI2 ⟨hnm, hso, hch, b2, b3, fun d hd => (b4 d hd).1⟩) ?_
    refine am_vc_ok am_k68 [] 100 ?_
    by_cases hok : itOK S (nm, so, ch, it)
    · rw [cI_t hok]
      refine And.intro (fun z => absurd z (by decide)) (fun _ => ?_)
      refine am_vI am_k68 am_r68 rfl (hQ _ _ ⟨hsc2.u (by decide), ?_⟩)
      have hR : (Sum.inr ((nm, so, ch, it), q) : Nat ⊕ (aIt × Nat)) = R := by
        rw [← hR]
        exact (if_pos hok).symm
      rw [← hR]
      exact ⟨rfl, by rw [u3_k _ _ (by decide)]; exact f7, by rw [u3_eq, f9, nI_1], (hX2.psh hI2).fr (Nat.le_refl _) (fun q k a b _ => by rw [u3_k _ _ (by omega)])⟩
    · rw [cI_f hok]
      refine And.intro (fun _ => ?_) (fun z => absurd rfl z)
      refine am_vI am_k68 am_r68 rfl (hQ _ _ ⟨hsc2, ?_⟩)
      have hR : (Sum.inl q : Nat ⊕ (aIt × Nat)) = R := by
        rw [← hR]
        exact (if_neg hok).symm
      rw [← hR]
      exact congrArg (fun x => some (aI x)) f7
end L51

/-! the class's scanItem, faultOf -/
section L52
variable {l : Launch} {σ σ2 : tI} {τ τ2 : tL} {t : Option (Nat × Nat)} {r N p : Nat} {G : Nat → Int32}
theorem sub97 {v : Int32} (h1 : -1000 ≤ v) (h2 : v ≤ 127) : (0 ≤ v - 97 ∧ v - 97 < 16) ↔ (97 ≤ v ∧ v ≤ 112) := by
  have e1 : (-1000 : Int32).toInt = -1000 := by decide
  have e2 : (127 : Int32).toInt = 127 := by decide
  have e3 : (97 : Int32).toInt = 97 := by decide
  have e4 : (112 : Int32).toInt = 112 := by decide
  have e5 : (16 : Int32).toInt = 16 := by decide
  rw [i_le, e1] at h1
  rw [i_le, e2] at h2
  have e : (v - 97).toInt = v.toInt - 97 := by
    rw [Int32.toInt_sub, e3]
    exact Int.bmod_eq_of_le (by omega) (by omega)
  rw [i_le, i_lt, i_le, i_le, e, e3, e4, e5, Int32.toInt_zero]
  omega
theorem sgX_b (hB : ∀ j, j < N → isB (G j)) : -1000 ≤ sgX G N p ∧ sgX G N p ≤ 127 := by
  unfold sgX
  split
  · have := hB p (by assumption)
    exact ⟨Int32.le_trans (by decide) this.1, this.2⟩
  · decide
theorem some_lt {f : Int32 → Option Nat} {x : Nat} (h9 : f (-9) = none) (e : f (sgN G N p) = some x) : p < N := by
  apply Nat.lt_of_not_le
  intro z
  rw [sgN_N p z, h9] at e
  cases e
theorem x_scanItem {S : aSh} (h : K0 σ r N G) (hB : ∀ j, j < N → isB (G j)) (hp : σ 7 0 2 = nI p) (hp2 : p ≤ N) (h9 : σ 9 0 1 = nI (sN S)) (hS : ShOK S) (hX : XItems σ 0 S) : am_T l 68 [aR 7 0] σ τ (some (6, r)) (fun v s τ2 t2 => τ2 = τ ∧ t2 = some (6, r) ∧ itQ σ S (itP (sgN G N) S p) v s) := by
  have hN := h.2.1
  have s12 := hS.1
  generalize hR : itP (sgN G N) S p = R
  unfold itP at hR
  refine am_T_of am_o68 am_l68 rfl ?_
  refine am_vc_ok am_k68 [104] 100 ?_
  refine am_vO am_k68 am_h68 rfl rfl rfl rfl (x_sign h hp (by omega)) ?_
  refine am_vc_ok am_k68 [104] 100 ?_
  refine am_vS am_k68 am_h68 rfl rfl rfl rfl (x_within) ?_
  refine am_vc_ok am_k68 [104] 100 ?_
  have hv := sgX_b (p := p) hB
  have hw := sub97 hv.1 hv.2
  have e97 : nmO (sgX G N p) = nmO (sgN G N p) := sg_f nmO (by decide)
  have ret0 : ∀ (q : Nat) (v : Int32), v = nI q → Sum.inl q = R → xQ (fun v s τ2 t2 => τ2 = τ ∧ t2 = some (6, r) ∧ itQ σ S R v s) (some (aI v)) σ τ (rX (some (6, r))) cX lX := by
    rintro q v rfl rfl
    exact ⟨_, rfl, rfl, rfl, rfl, rfl, scP.refl, rfl⟩
  cases e1 : nmO (sgN G N p) with
  | none =>
    rw [e1] at hR e97
    have hn := nmO_n e97
    refine And.intro (fun _ => ?_) (fun g => absurd (hw.mp (bI_1.mp g)) hn)
    exact am_vI am_k68 am_r68 rfl (ret0 p _ hp hR)
  | some nm =>
    rw [e1] at hR e97
    obtain ⟨hnm, hsg⟩ := nmO_s e97
    have hsub : sgX G N p - 97 = nI nm := by
      rw [hsg, show (97 : Int32) = nI 97 from rfl, nI_sub' (by omega), show nm + 97 - 97 = nm by omega]
    have hpN : p < N := some_lt (f := nmO) (by decide) e1
    rw [hsub]
    refine And.intro (fun g => absurd ⟨nI_pos' (by omega), nI_lt (b := 16) hnm (by decide)⟩ (bI_0.mp g)) (fun _ => ?_)
    refine And.intro (fun g => ?_) (fun g => ?_)
    · have g : σ 9 0 1 < 12 := g
      rw [h9, show (12 : Int32) = nI 12 from rfl, nI_ltI (by omega) (by decide)] at g
      simp only [if_neg (show ¬ sN S = 12 by omega)] at hR
      have e7 : σ 7 0 2 + 1 = nI (p + 1) := by rw [hp, nI_1]
      have hK1 : K0 (u3 σ 7 0 2 (σ 7 0 2 + 1)) r N G := h.fr (u3_kk _ _ (by decide)) (u3_kk _ _ (by decide))
      have f7 : u3 σ 7 0 2 (σ 7 0 2 + 1) 7 0 2 = nI (p + 1) := by rw [u3_eq]; exact e7
      have hso0 := x_sortOf (l := l) (σ := u3 σ 7 0 2 (σ 7 0 2 + 1)) (τ := τ) (v := sgX G N (p + 1)) (ρ := rX (some (6, r))) (cn := cX) (ln := lX)
      rw [sg_f soO (by decide)] at hso0
      have ret1 : ∀ (q : Nat) (w v : Int32), v = nI q → Sum.inl q = R → xQ (fun v s τ2 t2 => τ2 = τ ∧ t2 = some (6, r) ∧ itQ σ S R v s) (some (aI v)) (u3 σ 7 0 2 w) τ (rX (some (6, r))) cX lX := by
        rintro q w v rfl rfl
        exact ⟨_, rfl, rfl, rfl, rfl, rfl, scP.refl.u (by decide), rfl⟩
      refine am_vO am_k68 am_h68 rfl rfl rfl rfl (x_sign hK1 f7 (by omega)) ?_
      refine am_vc_ok am_k68 [104] 100 ?_
      refine am_vS am_k68 am_h68 rfl rfl rfl rfl (hso0) ?_
      refine am_vc_ok am_k68 [104] 100 ?_
      cases e2 : soO (sgN G N (p + 1)) with
      | none =>
        rw [e2] at hR
        refine And.intro (fun _ => ?_) (fun z => absurd rfl z)
        exact am_vI am_k68 am_r68 rfl (ret1 (p + 1) _ _ f7 hR)
      | some so =>
        rw [e2] at hR
        obtain ⟨hso, hso2⟩ := soO_s e2
        have hpN1 : p + 1 < N := some_lt (f := soO) (by decide) e2
        refine And.intro (fun z => absurd z (n9_4 (by omega))) (fun _ => ?_)
        have f72 : u3 (u3 σ 7 0 2 (σ 7 0 2 + 1)) 7 0 2 (u3 σ 7 0 2 (σ 7 0 2 + 1) 7 0 2 + 1) 7 0 2 = nI (p + 2) := by rw [u3_eq, f7, nI_1]
        have hu : u3 (u3 σ 7 0 2 (σ 7 0 2 + 1)) 7 0 2 (u3 σ 7 0 2 (σ 7 0 2 + 1) 7 0 2 + 1) = u3 σ 7 0 2 (nI (p + 2)) := by rw [f7, u3_tw, nI_1]
        have hK2 : K0 (u3 (u3 σ 7 0 2 (σ 7 0 2 + 1)) 7 0 2 (u3 σ 7 0 2 (σ 7 0 2 + 1) 7 0 2 + 1)) r N G := hK1.fr (u3_kk _ _ (by decide)) (u3_kk _ _ (by decide))
        have hX2 : ∀ w, XItems (u3 σ 7 0 2 w) 0 S := fun w => hX.fr (Nat.le_refl _) (fun q k a b _ => by rw [u3_k _ _ (by omega)])
        have h92 : ∀ w, u3 σ 7 0 2 w 9 0 1 = nI (sN S) := fun w => by rw [u3_k _ _ (by decide)]; exact h9
        refine And.intro (fun z => ?_) (fun z => ?_)
        · have z : so = 3 := nI_inj' (by omega) (by decide) (show nI so = nI 3 from z)
          simp only [if_pos z] at hR
          refine am_vO am_k68 am_h68 rfl rfl rfl rfl (x_figure hK2 f72 (by omega)) ?_
          refine am_vc_ok am_k68 [104] 100 ?_
          cases e3 : fgO (sgN G N (p + 2)) with
          | none =>
            rw [e3] at hR
            refine And.intro (fun y => absurd y (by decide)) (fun _ => ?_)
            refine am_vI am_k68 am_r68 rfl ?_
            rw [hu]
            exact ret1 (p + 2) _ _ (u3_eq _ _ _ _ _) hR
          | some c =>
            rw [e3] at hR
            have hc9 := (fgO_s e3).1
            have hpN2 : p + 2 < N := some_lt (f := fgO) (by decide) e3
            refine And.intro (fun y => ?_) (fun y => ?_)
            · have y : 0 < nI c := y
              have hc0 : ¬ c = 0 := by
                rintro rfl
                exact absurd y (by decide)
              simp only [if_neg hc0] at hR
              refine am_Gs (σ2 := u3 σ 7 0 2 (nI (p + 3))) (by rw [hu, u3_eq, u3_tw, nI_1]) ?_
              refine am_Gp [0, 1, 2, 3] rfl (x_si2 (s := u3 σ 7 0 2 (nI (p + 3))) (ch := c) h (scP.refl.u (by decide)) (by omega) (u3_eq _ _ _ _ _) (h92 _) hS (by omega) (hX2 _) hnm hso hc9 hR ?_)
              intro v s hs
              exact ⟨_, rfl, rfl, rfl, rfl, rfl, hs⟩
            · have y : ¬ 0 < nI c := y
              have hc0 : c = 0 := by
                apply Decidable.byContradiction
                intro hn
                exact y (nI_lt (a := 0) (by omega) (by omega))
              simp only [if_pos hc0] at hR
              refine am_vI am_k68 am_r68 rfl ?_
              rw [hu]
              exact ret1 (p + 2) _ _ (u3_eq _ _ _ _ _) hR
        · have z : ¬ so = 3 := fun y => z (by rw [y]; rfl)
          simp only [if_neg z, if_neg (show ¬ 1 = 0 by decide)] at hR
          refine am_Gs (σ2 := u3 σ 7 0 2 (nI (p + 2))) hu ?_
          refine am_Gp [0, 1, 2, 3] rfl (x_si2 (s := u3 σ 7 0 2 (nI (p + 2))) (ch := 0) h (scP.refl.u (by decide)) (by omega) (u3_eq _ _ _ _ _) (h92 _) hS (by omega) (hX2 _) hnm hso (by omega) hR ?_)
          intro v s hs
          exact ⟨_, rfl, rfl, rfl, rfl, rfl, hs⟩
    · have g : ¬ σ 9 0 1 < 12 := g
      rw [h9, show (12 : Int32) = nI 12 from rfl, nI_ltI (by omega) (by decide)] at g
      simp only [if_pos (show sN S = 12 by omega)] at hR
      exact am_vI am_k68 am_r68 rfl (ret0 p _ hp hR)
def faQ (σ : tI) (R : Nat ⊕ aSh) (v : Option am_V) (s : tI) : Prop := scP σ s ∧ match R with
  | .inl q => v = some (aI (nI q))
  | .inr S => v = some (aI (-9)) ∧ s 9 0 1 = nI (sN S) ∧ XItems s 0 S ∧ ShOK S
theorem itP_f {sg : Nat → Int32} {S : aSh} {N p q : Nat} (hN : ∀ p, N ≤ p → sg p = -9) (hp : p ≤ N) (h : itP sg S p = .inl q) : q ≤ N := by
  unfold itP at h
  split at h
  · cases h; exact hp
  rename_i nm e1
  have l0 : p < N := by
    apply Nat.lt_of_not_le
    intro z
    rw [hN _ z, nmO9] at e1
    cases e1
  split at h
  · cases h; exact hp
  split at h
  · cases h; omega
  rename_i so e3
  have l1 : p + 1 < N := by
    apply Nat.lt_of_not_le
    intro z
    rw [hN _ z, soO9] at e3
    cases e3
  split at h
  · cases h; omega
  rename_i c e4
  split at h
  · cases h; omega
  rename_i e5
  have l2 : (if so = 3 then p + 3 else p + 2) ≤ N := by
    by_cases h3 : so = 3
    · rw [if_pos h3] at e4 ⊢
      have l3 : p + 2 < N := by
        apply Nat.lt_of_not_le
        intro z
        rw [hN _ z, fgO9] at e4
        cases e4
      omega
    · rw [if_neg h3]
      omega
  unfold itE at h
  split at h
  · rename_i e6
    cases h
    exact mkP_f hN _ _ _ _ _ l2 e6
  · rename_i it q2 e6
    have := (mkP_b hN 4 0 (0, 9, none) it _ q2 l2 e6 ⟨by decide, by decide, fun x hx => by cases hx⟩).1
    by_cases hok : itOK S (nm, so, (if so = 3 then c else 0), it)
    · rw [if_pos hok] at h
      cases h
    · rw [if_neg hok] at h
      cases h
      exact this
theorem pP_f {sg : Nat → Int32} {N : Nat} (hN : ∀ p, N ≤ p → sg p = -9) : ∀ (n : Nat) (S : aSh) (p q : Nat), p ≤ N → pP sg N n S p = .inl q → q ≤ N
  | 0, S, p, q, _, h => by cases h
  | n + 1, S, p, q, hp, h => by
    unfold pP at h
    split at h
    · cases h
    split at h
    · exact pP_f hN n S (p + 1) q (by omega) h
    · split at h
      · rename_i e
        cases h
        exact itP_f hN hp e
      · rename_i e
        exact pP_f hN n _ _ q (itP_b hN e).1 h
theorem pA_f {sg : Nat → Int32} {N p q : Nat} {S : aSh} (hN : ∀ p, N ≤ p → sg p = -9) (hp : p ≤ N) (h : pA sg N S p = .inl q) : q ≤ N := pP_f hN _ S p q hp h
theorem x_fa_lp {Q : tQ} {R : Nat ⊕ aSh} (h : K0 σ r N G) (hB : ∀ j, j < N → isB (G j)) (hQ : ∀ v s, faQ σ R v s → Q v s τ (rX (some (6, r))) cX lX) : ∀ (d k p : Nat) (S : aSh) (s : tI), N < p + d → k ≤ p → p ≤ N → pA (sgN G N) N S p = R → scP σ s → s 7 0 2 = nI p → s 9 0 1 = nI (sN S) → XItems s 0 S → ShOK S → am_G l 64 Q 0 0 20 [(2, aI (nI k)), (0, aR 7 0), (1, aR 6 r)] [] s τ (rX (some (6, r))) cX lX
  | 0, k, p, S, s, hd, hk, hp, hR, hsc, h7, h9, hX, hS => absurd hd (by omega)
  | d + 1, k, p, S, s, hd, hk, hp, hR, hsc, h7, h9, hX, hS => by
    have hN := h.2.1
    have hK : K0 s r N G := h.fr (hsc.1 6 (by decide) (by decide) (by decide)) (hsc.1 30 (by decide) (by decide) (by decide))
    obtain ⟨k1, k2, k3, k4⟩ := skN_ok (S := S) (sgN_N (G := G) (N := N)) 60 p (by omega) hp
    have fin : ∀ x S2 s2, N < x + d → k + 1 ≤ x → x ≤ N → pA (sgN G N) N S2 x = R → scP σ s2 → s2 7 0 2 = nI x → s2 9 0 1 = nI (sN S2) → XItems s2 0 S2 → ShOK S2 → am_G l 64 Q 0 0 20 [(2, aI (nI k + 1)), (0, aR 7 0), (1, aR 6 r)] [] s2 τ (rX (some (6, r))) cX lX := by
      intro x S2 s2 a1 a2 a3 a4 a5 a6 a7 a8 a9
      rw [show nI k + 1 = nI (k + 1) from nI_1 k]
      exact x_fa_lp h hB hQ d (k + 1) x S2 s2 a1 a2 a3 a4 a5 a6 a7 a8 a9
    generalize hq : skN (sgN G N) 60 p = q at k1 k2 k3 k4
    rw [k4] at hR
    refine am_vc_ok am_k64 [20] 100 ?_
    refine And.intro (fun h1 => absurd h1 (Int32.not_lt.mpr (nI_le (b := 60) (by omega) (by decide)))) (fun _ => ?_)
    refine am_vO am_k64 am_h64 rfl rfl rfl rfl (x_skip hK h7 hp) ?_
    refine am_vc_ok am_k64 [20] 100 ?_
    rw [hq]
    have hK1 : K0 (u3 s 7 0 2 (nI q)) r N G := hK.fr (u3_kk _ _ (by decide)) (u3_kk _ _ (by decide))
    have hX1 : XItems (u3 s 7 0 2 (nI q)) 0 S := hX.fr (Nat.le_refl _) (fun q k a b _ => by rw [u3_k _ _ (by omega)])
    have h91 : u3 s 7 0 2 (nI q) 9 0 1 = nI (sN S) := by rw [u3_k _ _ (by decide)]; exact h9
    refine am_vO am_k64 am_h64 rfl rfl rfl rfl (x_sign hK1 (u3_eq _ _ _ _ _) (by omega)) ?_
    refine am_vc_ok am_k64 [20] 100 ?_
    by_cases hqN : q < N
    · have e : ¬ sgX G N q = -1000 := by
        unfold sgX
        rw [if_pos hqN]
        intro z
        have := (hB q hqN).1
        rw [z] at this
        exact absurd this (by decide)
      refine And.intro (fun z => absurd z e) (fun _ => ?_)
      refine am_vOT am_k64 am_h64 rfl rfl rfl rfl (x_scanItem hK1 hB (u3_eq _ _ _ _ _) k2 h91 hS hX1) ?_
      rintro v s2 τ2 t2 ⟨rfl, rfl, hI⟩
      obtain ⟨hs2, hI⟩ := hI
      have hsc2 : scP σ s2 := (hsc.u (by decide)).tr hs2
      cases e2 : itP (sgN G N) S q with
      | inl x =>
        rw [e2] at hI
        have hI : v = some (aI (nI x)) := hI
        subst hI
        have hx := itP_f sgN_N k2 e2
        rw [pA_no hqN k3 e2] at hR
        refine am_vc_ok am_k64 [20] 100 ?_
        refine And.intro (fun z => absurd z (n9_4 (by omega))) (fun _ => ?_)
        refine am_vI am_k64 am_r64 rfl (hQ _ _ ⟨hsc2, ?_⟩)
        rw [← hR]
      | inr ix =>
        obtain ⟨i, x⟩ := ix
        rw [e2] at hI
        obtain ⟨rfl, j1, j2, j3⟩ := hI
        rw [pA_it hqN k3 e2] at hR
        obtain ⟨b1, b2, b3, b4, b5, b6, b7⟩ := itP_b sgN_N e2
        have hx := itP_p e2
        have K2 := fin x (psh S i) s2 (by omega) (by omega) b1 hR hsc2 j1 j2 j3 (psh_ok hS b2 b3 b4 b5 b6 b7)
        refine am_vc_ok am_k64 [20] 100 ?_
        refine And.intro (fun _ => ?_) (fun z => absurd rfl z)
        exact am_Gp [0, 2, 3] rfl K2
    · have e : sgX G N q = -1000 := if_neg hqN
      refine And.intro (fun _ => ?_) (fun z => absurd e z)
      rw [pA_end (by omega)] at hR
      refine am_vI am_k64 am_r64 rfl (hQ _ _ ⟨hsc.u (by decide), ?_⟩)
      rw [← hR]
      exact ⟨rfl, h91, hX1, hS⟩
def S0 : aSh := (0, fun _ => 0, fun _ => 0, fun _ => 0, fun _ => 0, fun _ => 0, fun _ => none)
theorem S0_ok : ShOK S0 := ⟨by decide, fun k hk => absurd hk (Nat.not_lt_zero k), fun k _ hk => absurd hk (Nat.not_lt_zero k)⟩
theorem x_faultOf (h : K0 σ r N G) (hB : ∀ j, j < N → isB (G j)) : am_T l 64 [aR 7 0, aR 6 r] σ τ t (fun v s τ2 t2 => τ2 = τ ∧ t2 = some (6, r) ∧ faQ σ (pA (sgN G N) N S0 0) v s) := by
  refine am_T_of am_o64 am_l64 rfl ?_
  refine am_vc_ok am_k64 [20] 100 ?_
  refine am_Gr rX_set ?_
  have hK1 : K0 (u3 (u3 σ 7 0 2 0) 9 0 1 0) r N G := h.fr (by rw [u3_kk _ _ (by decide), u3_kk _ _ (by decide)]) (by rw [u3_kk _ _ (by decide), u3_kk _ _ (by decide)])
  refine x_fa_lp (σ := σ) h hB ?_ (N + 1) 0 0 S0 _ (by omega) (by omega) (by omega) rfl ((scP.refl.u (by decide)).u (by decide)) (by rw [u3_k _ _ (by decide), u3_eq]; rfl) (u3_eq _ _ _ _ _) (fun k hk => absurd hk (Nat.not_lt_zero k)) S0_ok
  intro v s hs
  exact ⟨_, rfl, rfl, rfl, rfl, rfl, hs⟩
end L52
