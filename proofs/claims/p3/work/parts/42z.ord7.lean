/-! the class's barSets, survey -/
section L43
variable {l : Launch} {σ σ2 : tI} {τ τ2 : tL} {t : Option (Nat × Nat)}
theorem Rshape.fr {σ2 : tI} {s : Nat} {S : aSh} (h : Rshape σ s S) (hk : ∀ k, kShapes k = true → σ2 k = σ k) : Rshape σ2 s S := by
  unfold Rshape XItems XIndex MItems at h ⊢
  rw [hk 9 rfl, hk 32 rfl, hk 33 rfl, hk 34 rfl, hk 35 rfl, hk 36 rfl, hk 37 rfl, hk 38 rfl, hk 49 rfl, hk 50 rfl]
  exact h
theorem fitP_k {f : tI} {s n : Nat} {x y : Int32} (h50 : f 50 = σ 50) (h49 : f 49 = σ 49) : fitP f s n x y = fitP σ s n x y := by
  unfold fitP badA nmd mA
  rw [h50]
abbrev sh1 (a : Nat) : Int32 := (1 : Int32) <<< (nI a &&& 31)
theorem bits41 : ∀ s, s < 64 → ∀ a, a < 6 → ∀ b, b < 6 → (nI s &&& (sh1 a ||| sh1 b) = 0 ↔ (mb s a = false ∧ mb s b = false)) := by decide +kernel
theorem bits42 : ∀ s, s < 64 → ∀ a, a < 6 → ∀ b, b < 6 → (a = b ∨ (nI s &&& (sh1 a ||| sh1 b) = sh1 a ↔ (mb s a = true ∧ mb s b = false))) := by decide +kernel
theorem bits43 : ∀ s, s < 64 → ∀ a, a < 6 → ∀ b, b < 6 → (a = b ∨ (nI s &&& (sh1 a ||| sh1 b) = sh1 b ↔ (mb s a = false ∧ mb s b = true))) := by decide +kernel
theorem bits44 : ∀ s, s < 64 → ∀ a, a < 6 → ∀ b, b < 6 → (nI s &&& (sh1 a ||| sh1 b) = sh1 a ||| sh1 b ↔ (mb s a = true ∧ mb s b = true)) := by decide +kernel
theorem four {G : Int32 → Int32 → Prop} {s a b : Nat} {x0 x1 y0 y1 : Int32} (hs : s < 64) (ha : a < 6) (hb : b < 6) (hab : a ≠ b) : ((G x0 y0 ∨ ¬ nI s &&& (sh1 a ||| sh1 b) = 0) ∧ (G x1 y0 ∨ ¬ nI s &&& (sh1 a ||| sh1 b) = sh1 a) ∧ (G x0 y1 ∨ ¬ nI s &&& (sh1 a ||| sh1 b) = sh1 b) ∧ (G x1 y1 ∨ ¬ nI s &&& (sh1 a ||| sh1 b) = sh1 a ||| sh1 b)) ↔ G (bif mb s a then x1 else x0) (bif mb s b then y1 else y0) := by
  have h1 := bits41 s hs a ha b hb
  have h2 := (bits42 s hs a ha b hb).resolve_left hab
  have h3 := (bits43 s hs a ha b hb).resolve_left hab
  have h4 := bits44 s hs a ha b hb
  rw [h1, h2, h3, h4]
  cases mb s a <;> cases mb s b <;> simp
theorem x_bf {σ' : tI} {A : Nat → Prop} {s x y : Nat} {S : aSh} (hP : afP σ σ' A) (hS : Rshape σ s S) (hx : x < 10) (hy : y < 10) : am_T l 86 [aR 9 (1 + s), aI (nI x), aI (nI y)] σ' τ t (fun r s2 τ2 t2 => r = some (aI (bI (fitP σ s (sN S) (nI x) (nI y)))) ∧ s2 = σ' ∧ τ2 = τ ∧ t2 = t) := by
  have h := x_bothFit (l := l) (τ := τ) (t := t) (hS.fr (σ2 := σ') (fun k hk => hP.1 k (kNe hk rfl))) hx hy
  refine am_T.mono h ?_
  rintro r s2 τ2 t2 ⟨rfl, rfl, rfl, rfl⟩
  refine ⟨?_, rfl, rfl, rfl⟩
  have e : fitP s2 s (sN S) (nI x) (nI y) = fitP σ s (sN S) (nI x) (nI y) := fitP_k (hP.1 50 (by decide)) (hP.1 49 (by decide))
  simp only [e]
theorem afP.tr {σ1 σ3 : tI} {A B : Nat → Prop} (h1 : afP σ σ1 A) (h2 : afP σ1 σ3 B) : afP σ σ3 B := ⟨fun q hq => (h2.1 q hq).trans (h1.1 q hq), h2.2⟩
theorem x_barSets {A : Nat → Prop} {s a b x0 x1 y0 y1 : Nat} {S : aSh} (hA : ∀ s, s < 64 → σ 27 0 s = cI (A s)) (hS : Rshape σ s S) (ha : a < 6) (hb : b < 6) (hab : a ≠ b) (hx0 : x0 < 10) (hx1 : x1 < 10) (hy0 : y0 < 10) (hy1 : y1 < 10) (e1 : σ 8 a 0 = nI x0) (e2 : σ 8 a 1 = nI x1) (e3 : σ 8 b 0 = nI y0) (e4 : σ 8 b 1 = nI y1) : am_T l 47 [aR 5 0, aR 9 (1 + s), aR 24 0, aI (nI a), aI (nI b)] σ τ t (fun r s2 τ2 t2 => r = none ∧ τ2 = τ ∧ t2 = t ∧ afP σ s2 (fun z => A z ∧ fitP σ s (sN S) (bif mb z a then nI x1 else nI x0) (bif mb z b then nI y1 else nI y0))) := by
  have h0 : afP σ σ A := ⟨fun _ _ => rfl, hA⟩
  have f1 := x_bf (l := l) (τ := τ) (t := t) h0 hS hx0 hy0
  rw [← e1, ← e3] at f1
  refine am_T_of am_o47 am_l47 rfl ?_
  refine am_vc_ok am_k47 [] 100 ?_
  refine And.intro (vp_in_nI (N := 6) ha (by decide)) ?_
  refine And.intro (vp_in_nI (N := 6) hb (by decide)) ?_
  rw [nI_clamp (n := a) (by omega), nI_clamp (n := b) (by omega)]
  refine am_vOT am_k47 am_h47 rfl rfl rfl rfl (f1) ?_
  rintro r s2 τ2 t2 ⟨rfl, rfl, rfl, rfl⟩
  refine am_vc_ok am_k47 [] 100 ?_
  refine am_vOT am_k47 am_h47 rfl rfl rfl rfl (x_barU (A := A) hA) ?_
  rintro r s1 τ2 t2 ⟨rfl, rfl, rfl, hP1⟩
  have h1 := h0.tr hP1
  have f2 := x_bf (l := l) (τ := τ2) (t := t2) h1 hS hx1 hy0
  rw [← e2, ← e3, ← h1.1 8 (by decide)] at f2
  refine am_vc_ok am_k47 [] 100 ?_
  refine am_vOT am_k47 am_h47 rfl rfl rfl rfl (f2) ?_
  rintro r s3 τ2 t2 ⟨rfl, rfl, rfl, rfl⟩
  refine am_vc_ok am_k47 [] 100 ?_
  refine am_vOT am_k47 am_h47 rfl rfl rfl rfl (x_barU hP1.2) ?_
  rintro r s4 τ2 t2 ⟨rfl, rfl, rfl, hP2⟩
  have h2 := h1.tr hP2
  have f3 := x_bf (l := l) (τ := τ2) (t := t2) h2 hS hx0 hy1
  rw [← e1, ← e4, ← h2.1 8 (by decide)] at f3
  refine am_vc_ok am_k47 [] 100 ?_
  refine am_vOT am_k47 am_h47 rfl rfl rfl rfl (f3) ?_
  rintro r s5 τ2 t2 ⟨rfl, rfl, rfl, rfl⟩
  refine am_vc_ok am_k47 [] 100 ?_
  refine am_vOT am_k47 am_h47 rfl rfl rfl rfl (x_barU hP2.2) ?_
  rintro r s6 τ2 t2 ⟨rfl, rfl, rfl, hP3⟩
  have h3 := h2.tr hP3
  have f4 := x_bf (l := l) (τ := τ2) (t := t2) h3 hS hx1 hy1
  rw [← e2, ← e4, ← h3.1 8 (by decide)] at f4
  refine am_vc_ok am_k47 [] 100 ?_
  refine am_vOT am_k47 am_h47 rfl rfl rfl rfl (f4) ?_
  rintro r s7 τ2 t2 ⟨rfl, rfl, rfl, rfl⟩
  refine am_vc_ok am_k47 [] 100 ?_
  refine am_vOT am_k47 am_h47 rfl rfl rfl rfl (x_barU hP3.2) ?_
  rintro r s8 τ2 t2 ⟨rfl, rfl, rfl, hP4⟩
  have h4 := h3.tr hP4
  refine am_vc_ok am_k47 [] 100 ?_
  refine am_vV am_k47 am_r47 rfl ⟨t2, rfl, rfl, rfl, rfl, rfl, rfl, h4.cg fun z hz => ?_⟩
  rw [h1.1 8 (by decide), h2.1 8 (by decide), h3.1 8 (by decide), e1, e2, e3, e4, ← four (G := fitP s2 s (sN S)) (x0 := nI x0) (x1 := nI x1) (y0 := nI y0) (y1 := nI y1) hz ha hb hab]
  simp only [and_assoc]
end L43
