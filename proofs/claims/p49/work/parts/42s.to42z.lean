/-! digest: the case of the law -/
section L36
variable {l : Launch} {σ σ2 : tI} {τ τ2 : tL} {t : Option (Nat × Nat)}
theorem Rall.tau (h : Rall σ τ) (v : Int64) : Rall σ (tH τ v) := by
  obtain ⟨h1, h2, h3, h4, h5, ⟨g1, g2, g3, g4, g5⟩, h7⟩ := h
  refine ⟨h1, h2, h3, h4, h5, ⟨g1, g2, g3, ?_, ?_⟩, h7⟩
  · unfold tH
    simp [u3, g4]
  · unfold tH
    simp [u3, g5]
theorem mxN_cg2 {h : Int64} {f g : Nat → Int32} {n : Nat} (H : ∀ c, c < n → f c = g c) : mxN h f n = mxN h g n := mxN_cg H
theorem eqSh (hs : Rshapes σ) (s : Nat) (v : Int64) (h : s < 4) : xSh σ s v = mSh σ s v := by
  unfold xSh mSh
  rcases hs s h with ⟨z1, z2⟩ | ⟨S, hS⟩
  · rw [if_pos z1, if_pos (by rw [z2]; decide)]
  · have hn := hS.1.1
    rw [if_neg (by rw [hS.2.1]; decide), hS.2.2.2.1, if_neg (nI_pos (by omega)), hS.2.2.1, nI_clamp (by omega)]
    refine mxI_cg (fun k w hk hw => ?_)
    rw [hS.2.2.2.2.2.2 k w hk hw]
    have hI := hS.2.2.2.2.1 k hk
    match w, hw with
    | 0, _ => exact hI.1
    | 1, _ => exact hI.2.1
    | 2, _ => exact hI.2.2.1
    | 3, _ => exact hI.2.2.2.1
    | 4, _ => exact hI.2.2.2.2.1
    | 5, _ => exact hI.2.2.2.2.2
theorem eqRw {d p g : Nat → Int32} {sz : Int32} (h : rRow d p sz g) (v : Int64) : (if d 0 = 0 then mx v (-1) else mxN (mx v (d 1)) p (d 1).toNatClampNeg) = (if sz < 0 then mx v (-1) else mxN (mx v sz) g sz.toNatClampNeg) := by
  obtain ⟨n, hn, h1, ⟨z1, z2⟩ | ⟨z1, z2, z3⟩⟩ := h
  · rw [if_pos z1, if_pos (by rw [z2]; decide)]
  · rw [if_neg (by rw [z1]; decide), z2, if_neg (nI_pos (by omega)), h1, nI_clamp (by omega)]
    exact mxN_cg z3
theorem eqSv {T n m lo k : Nat} (hv : Rserv σ) (hN : Rnet σ T n m lo k) (a : Nat) (v : Int64) (h : a < 6) : xSv σ n a v = mSv σ n a v := by
  unfold xSv mSv
  obtain ⟨⟨x, y, -, -, e1, e2, e3, e4⟩, hd⟩ := hv a h
  obtain ⟨e5, e6, e7, -, -, -, e8, e9⟩ := hN.2.2.2.2.2.1 a h
  rw [e1, e2, e3, e4, e5, e6, e7, e8, e9, hN.kept]
  unfold mxV
  rw [mxN_cg (g := fun b => σ 59 0 (6 * a + b)) (fun b hb => (hd b hb).1)]
theorem eqCa {c : Nat} (h : Rcall σ c) (v : Int64) : xCa σ c v = mCa σ c v := by
  unfold xCa mCa
  rw [mxN_cg (h := v) (g := fun w => σ (ctK w) 0 c) (fun w hw => h.tells hw)]
  rw [mxN_cg (f := σ 13 c) (g := fun w => σ 80 0 (4 * c + w)) (fun w hw => h.2.2.2.2.2.2.2.2.2.2.2.2.2.2.2.2.2.2 w hw)]
  refine mxN_cg (fun w hw => ?_)
  have h16 := h.2.2.2.2.2.2.2.2.2.2.2.2.2.2.1
  have h17 := h.2.2.2.2.2.2.2.2.2.2.2.2.2.2.2.1
  have h18 := h.2.2.2.2.2.2.2.2.2.2.2.2.2.2.2.2.1
  match w, hw with
  | 0, _ => exact h16
  | 1, _ => exact h17
  | 2, _ => exact h18
theorem eqFr {f : Nat} (h : Rframe σ f) (v : Int64) : xFr σ f v = mFr σ f v := mxN_cg (fun _ hw => h.tells hw)
theorem eqDg {T n m lo k : Nat} {C : Nat → Int32} (h : Rall σ τ) (hN : Rnet σ T n m lo k) : xDg σ C n m = mDg σ C n m := by
  unfold xDg mDg
  rw [fN_cg (F := xSh σ) (G := mSh σ) (fun s v hs => eqSh h.2.2.1 s v hs)]
  rw [fN_cg (F := xSv σ n) (G := mSv σ n) (fun s v hs => eqSv h.2.2.2.2.1 hN s v hs)]
  rw [fN_cg (F := xCa σ) (G := mCa σ) (fun s v hs => eqCa (hN.2.2.1 s hs).1 v)]
  rw [fN_cg (F := xFr σ) (G := mFr σ) (fun s v hs => eqFr (hN.2.2.2.2.2.2.2.1 s hs).1 v)]
  rw [fN_cg (F := fun r => xRw σ (4 + r)) (G := mRw σ 44 45) (fun s v hs => eqRw (h.1 s hs) v)]
  rw [fN_cg (F := fun r => xRw σ (10 + r)) (G := mRw σ 47 48) (fun s v hs => eqRw (h.2.1 s hs).1 v)]
theorem rRow.sz {d p g : Nat → Int32} {sz : Int32} (h : rRow d p sz g) : sz = -9 ∨ ∃ n, n ≤ 60 ∧ sz = nI n := by
  obtain ⟨n, hn, -, ⟨-, z⟩ | ⟨-, z, -⟩⟩ := h
  · exact Or.inl z
  · exact Or.inr ⟨n, hn, z⟩
theorem rRow.ln {d p g : Nat → Int32} {sz : Int32} (h : rRow d p sz g) : ∃ n, n ≤ 60 ∧ d 1 = nI n := by
  obtain ⟨n, hn, z, -⟩ := h
  exact ⟨n, hn, z⟩
theorem LC_digest (h : Rall σ τ) : LC l 140 258 [] σ τ t := by
  obtain ⟨hr, ht, hs, -, -, -, T, n, m, lo, k, hN⟩ := id h
  have h0 := hN.split.1
  have hn := h0.2.1
  have hm := h0.2.2.2.2.2.2.1
  have hT := h0.1
  have hC : ∃ C : Nat → Int32, (∀ w, w < 9 → am_D l 147 [aR 11 0, aI (nI w)] σ τ (rX t) cX lX (some (aI (C w))) σ τ (rX t)) ∧ ∀ w τ, w < 9 → am_D l 250 [aR 12 0, aI (nI w)] σ τ (rX t) cX lX (some (aI (C w))) σ τ (rX t) := by
    have mk : ∀ w, ∃ v : Int32, w < 9 → (am_D l 147 [aR 11 0, aI (nI w)] σ τ (rX t) cX lX (some (aI v)) σ τ (rX t)) ∧ ∀ τ, am_D l 250 [aR 12 0, aI (nI w)] σ τ (rX t) cX lX (some (aI v)) σ τ (rX t) := by
      intro w
      by_cases hw : w < 9
      · have mk2 : ∀ {v v2 : Int32}, v2 = v → am_D l 147 [aR 11 0, aI (nI w)] σ τ (rX t) cX lX (some (aI v)) σ τ (rX t) → (∀ τ, am_D l 250 [aR 12 0, aI (nI w)] σ τ (rX t) cX lX (some (aI v2)) σ τ (rX t)) → ∃ v : Int32, w < 9 → (am_D l 147 [aR 11 0, aI (nI w)] σ τ (rX t) cX lX (some (aI v)) σ τ (rX t)) ∧ ∀ τ, am_D l 250 [aR 12 0, aI (nI w)] σ τ (rX t) cX lX (some (aI v)) σ τ (rX t) := by
          intro v v2 e z1 z2
          subst e
          exact ⟨v2, fun _ => ⟨z1, z2⟩⟩
        match w, hw with
        | 0, _ => exact mk2 (hT.2.1.trans hT.1.symm) x_cnt0 (fun _ => m_cnt0)
        | 1, _ => exact mk2 (hn.2.1.trans hn.1.symm) x_cnt1 (fun _ => m_cnt1)
        | 2, _ => exact mk2 h0.2.2.2.2.1.symm x_cnt2 (fun _ => m_cnt2 hn.2.1 hn.2.2)
        | 3, _ => exact mk2 (hm.2.trans hm.1.symm) x_cnt3 (fun _ => m_cnt3)
        | 4, _ => exact mk2 h0.2.2.2.2.2.2.2.2.1.symm x_cnt4 (fun _ => m_cnt4 hm.2 hN.m_le)
        | 5, _ => exact mk2 (h0.2.2.2.2.2.2.2.2.2.2.2.2.1.trans h0.2.2.2.2.2.2.2.2.2.2.2.1.symm) x_cnt5 (fun _ => m_cnt5)
        | 6, _ => exact mk2 (by rw [cntN_cg (fun x hx => decide_eq_decide.mpr (hr x hx).there.symm)]) x_cnt6 (fun _ => m_cnt6)
        | 7, _ => exact mk2 (by rw [cntN_cg (fun x hx => decide_eq_decide.mpr (ht x hx).1.there.symm)]) x_cnt7 (fun _ => m_cnt7)
        | 8, _ =>
          refine mk2 ?_ x_cnt8 (fun _ => m_cnt8)
          rw [cntN_cg (q := fun x => decide (¬ σ 9 (1 + x) 0 = 0)) (fun x hx => decide_eq_decide.mpr ?_)]
          rcases hs x hx with ⟨g1, g2⟩ | ⟨S, hS⟩
          · rw [g1, g2]; decide
          · rw [hS.2.1, hS.2.2.2.1]
            have := hS.1.1
            exact ⟨fun _ => by decide, fun _ => nI_pos (by omega)⟩
      · exact ⟨0, fun g => absurd g hw⟩
    exact ⟨fun w => Classical.choose (mk w), fun w hw => (Classical.choose_spec (mk w) hw).1, fun w τ hw => (Classical.choose_spec (mk w) hw).2 τ⟩
  obtain ⟨C, hC1, hC2⟩ := hC
  have hx := x_digest (l := l) (σ := σ) (τ := τ) (t := t) hC1 hs hn.1 hn.2.2 hm.1 hN.m_le (fun r hr2 => (hr r hr2).ln) (fun r hr2 => (ht r hr2).1.ln)
  have hm2 := m_digest (l := l) (σ := σ) (τ := τ) (t := t) hC2 (fun s hs2 => (hs s hs2).elim (fun z => Or.inl z.2) (fun ⟨S, hS⟩ => Or.inr ⟨sN S, hS.1.1, hS.2.2.2.1⟩)) hn.2.1 hn.2.2 hm.2 hN.m_le (fun r hr2 => (hr r hr2).sz) (fun r hr2 => (ht r hr2).1.sz)
  rw [← eqDg h hN] at hm2
  exact LC.of hx hm2 (h.tau _)
end L36

/-! sets of services as bits; orders in which they are put to new versions (nothing of the machine here) -/
section L37
abbrev mb (s a : Nat) : Bool := Nat.testBit s a
def ad (s a : Nat) : Nat := s ||| 2 ^ a
def dl (s a : Nat) : Nat := bif mb s a then s - 2 ^ a else s
def pc (s : Nat) : Nat := (mb s 0).toNat + (mb s 1).toNat + (mb s 2).toNat + (mb s 3).toNat + (mb s 4).toNat + (mb s 5).toNat
theorem ad_lt : ∀ s, s < 64 → ∀ a, a < 6 → ad s a < 64 := by decide +kernel
theorem ad_mb : ∀ s, s < 64 → ∀ a, a < 6 → ∀ x, x < 6 → mb (ad s a) x = (mb s x || Nat.beq x a) := by decide +kernel
theorem dl_lt : ∀ s, s < 64 → ∀ a, a < 6 → mb s a = true → dl s a < s := by decide +kernel
theorem dl_mb : ∀ s, s < 64 → ∀ a, a < 6 → ∀ x, x < 6 → mb (dl s a) x = (mb s x && !Nat.beq x a) := by decide +kernel
theorem ad_dl : ∀ s, s < 64 → ∀ a, a < 6 → mb s a = true → ad (dl s a) a = s := by decide +kernel
theorem dl_ad : ∀ s, s < 64 → ∀ a, a < 6 → mb s a = false → dl (ad s a) a = s := by decide +kernel
theorem ad_gt : ∀ s, s < 64 → ∀ a, a < 6 → mb s a = false → s < ad s a := by decide +kernel
theorem pc_ad : ∀ s, s < 64 → ∀ a, a < 6 → mb s a = false → pc (ad s a) = pc s + 1 := by decide +kernel
theorem pc_6 : ∀ s, s < 64 → pc s ≤ 6 := by decide +kernel
theorem pc_63 : ∀ s, s < 64 → pc s = 6 → s = 63 := by decide +kernel
theorem mb_63 : ∀ s, s < 64 → (∀ x, x < 6 → mb 63 x = true → mb s x = true) → s = 63 := by decide +kernel
theorem mb_ext : ∀ s, s < 64 → ∀ t, t < 64 → (∀ x, x < 6 → mb s x = mb t x) → s = t := by decide +kernel
theorem dl_l64 {s a : Nat} (h : s < 64) : dl s a < 64 := by
  unfold dl
  cases mb s a
  · exact h
  · exact Nat.lt_of_le_of_lt (Nat.sub_le _ _) h
theorem ad_self {s a : Nat} (hs : s < 64) (ha : a < 6) : mb (ad s a) a = true := by rw [ad_mb s hs a ha a ha]; simp
theorem ad_ne {s a x : Nat} (hs : s < 64) (ha : a < 6) (hx : x < 6) (h : x ≠ a) : mb (ad s a) x = mb s x := by
  rw [ad_mb s hs a ha x hx]
  have e : Nat.beq x a = false := by cases hh : Nat.beq x a with | false => rfl | true => exact absurd (Nat.eq_of_beq_eq_true hh) h
  rw [e, Bool.or_false]
theorem ad_comm {s a b : Nat} (hs : s < 64) (ha : a < 6) (hb : b < 6) : ad (ad s a) b = ad (ad s b) a := by
  refine mb_ext _ (ad_lt _ (ad_lt s hs a ha) b hb) _ (ad_lt _ (ad_lt s hs b hb) a ha) (fun x hx => ?_)
  rw [ad_mb _ (ad_lt s hs a ha) b hb x hx, ad_mb _ (ad_lt s hs b hb) a ha x hx, ad_mb s hs a ha x hx, ad_mb s hs b hb x hx, Bool.or_assoc, Bool.or_assoc, Bool.or_comm (Nat.beq x a)]
/-- the version of a in set s -/
def vv (V0 V1 : Nat → Int32) (s a : Nat) : Int32 := bif mb s a then V1 a else V0 a
/-- all pairs fit in set s -/
def FT (W : Nat → Int32 → Int32 → Prop) (V0 V1 : Nat → Int32) (s : Nat) : Prop := ∀ k, k < 36 → W k (vv V0 V1 s (k / 6)) (vv V0 V1 s (k % 6))
def sub (s c : Nat) : Prop := ∀ x, x < 6 → mb s x = true → mb c x = true
variable {W : Nat → Int32 → Int32 → Prop} {V0 V1 : Nat → Int32}
theorem FT.ex {S S0 a c : Nat} (hS : S < 64) (hS0 : S0 < 64) (ha : a < 6) (h0 : sub S0 S) (hc : sub S c) (hca : mb c a = true) (f1 : FT W V0 V1 S) (f2 : FT W V0 V1 (ad S0 a)) (f3 : FT W V0 V1 c) : FT W V0 V1 (ad S a) := by
  intro k hk
  have v1 : ∀ x, x < 6 → x ≠ a → vv V0 V1 (ad S a) x = vv V0 V1 S x := fun x hx h => by unfold vv; rw [ad_ne hS ha hx h]
  have va : ∀ s, mb s a = true → vv V0 V1 s a = V1 a := fun s h => by unfold vv; rw [h]; rfl
  have v2 : ∀ x, x < 6 → mb S x = true → vv V0 V1 (ad S a) x = vv V0 V1 c x := fun x hx h => by
    unfold vv
    rw [hc x hx h, ad_mb S hS a ha x hx, h]
    rfl
  have v3 : ∀ x, x < 6 → x ≠ a → ¬ mb S x = true → vv V0 V1 (ad S a) x = vv V0 V1 (ad S0 a) x := fun x hx h h2 => by
    unfold vv
    rw [ad_ne hS ha hx h, ad_ne hS0 ha hx h]
    have e1 : mb S x = false := Bool.eq_false_iff.mpr h2
    have e2 : mb S0 x = false := Bool.eq_false_iff.mpr (fun z => h2 (h0 x hx z))
    rw [e1, e2]
  have va2 : vv V0 V1 (ad S a) a = vv V0 V1 c a := (va _ (ad_self hS ha)).trans (va _ hca).symm
  have va3 : vv V0 V1 (ad S a) a = vv V0 V1 (ad S0 a) a := (va _ (ad_self hS ha)).trans (va _ (ad_self hS0 ha)).symm
  have hx : k / 6 < 6 := by omega
  have hy : k % 6 < 6 := by omega
  by_cases ex : k / 6 = a
  · by_cases ey : k % 6 = a
    · rw [ex, ey, va2]
      have z := f3 k hk
      rw [ex, ey] at z
      exact z
    · by_cases m : mb S (k % 6) = true
      · rw [ex, v2 _ hy m, va2]
        have z := f3 k hk
        rw [ex] at z
        exact z
      · rw [ex, v3 _ hy ey m, va3]
        have z := f2 k hk
        rw [ex] at z
        exact z
  · by_cases ey : k % 6 = a
    · by_cases m : mb S (k / 6) = true
      · rw [ey, v2 _ hx m, va2]
        have z := f3 k hk
        rw [ey] at z
        exact z
      · rw [ey, v3 _ hx ex m, va3]
        have z := f2 k hk
        rw [ey] at z
        exact z
    · rw [v1 _ hx ex, v1 _ hy ey]
      exact f1 k hk
def FS (W : Nat → Int32 → Int32 → Prop) (V0 V1 : Nat → Int32) (c s : Nat) : Prop := sub s c ∧ FT W V0 V1 s
/-- sets that are come to from none -/
def CMr (F r : Nat → Prop) : Prop := ∀ s, s < 64 → (r s ↔ F s ∧ (s = 0 ∨ ∃ a, a < 6 ∧ mb s a = true ∧ r (dl s a)))
/-- of these, those that lead on to c -/
def LDr (r ld : Nat → Prop) (c : Nat) : Prop := ∀ s, s < 64 → (ld s ↔ r s ∧ (s = c ∨ ∃ a, a < 6 ∧ mb s a = false ∧ mb c a = true ∧ ld (ad s a)))
theorem CMr.u {F r r2 : Nat → Prop} (h : CMr F r) (h2 : CMr F r2) : ∀ n s, s < n → s < 64 → (r s ↔ r2 s)
  | 0, s, hn, _ => absurd hn (by omega)
  | n + 1, s, hn, hs => by
    rw [h s hs, h2 s hs]
    refine and_congr_right (fun _ => or_congr_right (exists_congr fun a => and_congr_right fun ha => and_congr_right fun hm => ?_))
    have := dl_lt s hs a ha hm
    exact CMr.u h h2 n (dl s a) (by omega) (by omega)
variable {F r ld : Nat → Prop} {c : Nat}
theorem LDr.down (h : CMr F r) (hL : LDr r ld c) (hF : ∀ s, F s → sub s c) : ∀ n s, s < n → s < 64 → ld s → ld 0
  | 0, s, hn, _, _ => absurd hn (by omega)
  | n + 1, s, hn, hs, hl => by
    by_cases h0 : s = 0
    · rw [← h0]; exact hl
    · have hr := ((hL s hs).mp hl).1
      obtain ⟨hf, hz | ⟨a, ha, hm, hr2⟩⟩ := (h s hs).mp hr
      · exact absurd hz h0
      · have hlt := dl_lt s hs a ha hm
        refine LDr.down h hL hF n (dl s a) (by omega) (by omega) ?_
        refine (hL _ (by omega)).mpr ⟨hr2, Or.inr ⟨a, ha, ?_, hF s hf a ha hm, ?_⟩⟩
        · rw [dl_mb s hs a ha a ha]; simp
        · rw [ad_dl s hs a ha hm]; exact hl
theorem LDr.up (hL : LDr r ld c) : ∀ n s, 64 ≤ s + n → s < 64 → ld s → r c
  | 0, s, hn, hs, _ => absurd hn (by omega)
  | n + 1, s, hn, hs, hl => by
    obtain ⟨h1, h2 | ⟨a, ha, hm, -, h3⟩⟩ := (hL s hs).mp hl
    · rw [← h2]; exact h1
    · have := ad_gt s hs a ha hm
      exact LDr.up hL n (ad s a) (by omega) (ad_lt s hs a ha) h3
theorem LDr.zero (h : CMr F r) (hL : LDr r ld c) (hc : c < 64) (hF : ∀ s, F s → sub s c) : ld 0 ↔ r c := by
  constructor
  · exact hL.up 64 0 (by omega) (by omega)
  · intro hr
    exact hL.down h hF 64 c (by omega) hc ((hL c hc).mpr ⟨hr, Or.inl rfl⟩)
theorem CMr.plus (h : CMr F r) {s a : Nat} (hs : s < 64) (ha : a < 6) (hm : mb s a = false) (hr : r s) (hf : F (ad s a)) : r (ad s a) := by
  refine (h _ (ad_lt s hs a ha)).mpr ⟨hf, Or.inr ⟨a, ha, ad_self hs ha, ?_⟩⟩
  rw [dl_ad s hs a ha hm]
  exact hr
/-- the exchange: what fits now may be put in first -/
theorem LDr.ex {S0 a : Nat} (h : CMr (FS W V0 V1 c) r) (hL : LDr r ld c) (hc : c < 64) (hS0 : S0 < 64) (ha : a < 6) (hf : FS W V0 V1 c (ad S0 a)) (hrc : r c) : ∀ n S, 64 ≤ S + n → S < 64 → sub S0 S → mb S a = false → ld S → r (ad S a) → ld (ad S a)
  | 0, S, hn, hS, _, _, _, _ => absurd hn (by omega)
  | n + 1, S, hn, hS, hsub, hm, hl, hr => by
    have hca : mb c a = true := hf.1 a ha (ad_self hS0 ha)
    obtain ⟨h1, h2 | ⟨b, hb, hmb, hcb, h3⟩⟩ := (hL S hS).mp hl
    · rw [← h2, hm] at hca
      cases hca
    · by_cases hab : b = a
      · rw [← hab]; exact h3
      · have hS2 := ad_lt S hS b hb
        have hlt := ad_gt S hS b hb hmb
        have hm2 : mb (ad S b) a = false := by rw [ad_ne hS hb ha (fun z => hab z.symm)]; exact hm
        have hrb := ((hL _ hS2).mp h3).1
        have hfb := ((h _ hS2).mp hrb).1
        have hsub2 : sub S0 (ad S b) := fun x hx z => by
          rw [ad_mb S hS b hb x hx, hsub x hx z]
          rfl
        have hfx : FT W V0 V1 (ad (ad S b) a) := FT.ex hS2 hS0 ha hsub2 hfb.1 hca hfb.2 hf.2 ((h c hc).mp hrc).1.2
        have hsx : sub (ad (ad S b) a) c := fun x hx z => by
          by_cases hxa : x = a
          · rw [hxa]; exact hca
          · rw [ad_ne hS2 ha hx hxa] at z
            exact hfb.1 x hx z
        have hr2 : r (ad (ad S b) a) := by
          have e := ad_comm hS hb ha
          have hm3 : mb (ad S a) b = false := by rw [ad_ne hS ha hb hab]; exact hmb
          rw [e]
          refine h.plus (ad_lt S hS a ha) hb hm3 hr ?_
          rw [← e]
          exact ⟨hsx, hfx⟩
        have hl2 := LDr.ex h hL hc hS0 ha hf hrc n (ad S b) (by omega) hS2 hsub2 hm2 h3 hr2
        refine (hL _ (ad_lt S hS a ha)).mpr ⟨hr, Or.inr ⟨b, hb, ?_, hcb, ?_⟩⟩
        · rw [ad_ne hS ha hb hab]; exact hmb
        · rw [ad_comm hS ha hb]; exact hl2
/-- what leads on is just what fits -/
theorem LDr.fit {S a : Nat} (h : CMr (FS W V0 V1 c) r) (hL : LDr r ld c) (hc : c < 64) (hS : S < 64) (ha : a < 6) (hm : mb S a = false) (hl : ld S) : FS W V0 V1 c (ad S a) ↔ (mb c a = true ∧ ld (ad S a)) := by
  constructor
  · intro hf
    have hr := ((hL S hS).mp hl).1
    exact ⟨hf.1 a ha (ad_self hS ha), hL.ex h hc hS ha hf (hL.up 64 S (by omega) hS hl) 64 S (by omega) hS (fun _ _ z => z) hm hl (h.plus hS ha hm hr hf)⟩
  · rintro ⟨-, hl2⟩
    exact ((h _ (ad_lt S hS a ha)).mp ((hL _ (ad_lt S hS a ha)).mp hl2).1).1
end L37

/-! sets of services: the machine's numbers; the model's changed, bits, allFit -/
section L38
variable {l : Launch} {σ σ2 : tI} {τ τ2 : tL} {t : Option (Nat × Nat)}
noncomputable def cI (p : Prop) : Int32 := @bI p (Classical.propDecidable p)
theorem cI_0 {p : Prop} : cI p = 0 ↔ ¬ p := @bI_0 p (Classical.propDecidable p)
theorem cI_n0 {p : Prop} : ¬ cI p = 0 ↔ p := @bI_1 p (Classical.propDecidable p)
theorem cI_t {p : Prop} (h : p) : cI p = 1 := @bI_t p (Classical.propDecidable p) h
theorem cI_f {p : Prop} (h : ¬ p) : cI p = 0 := @bI_f p (Classical.propDecidable p) h
theorem cI_1 {p : Prop} : cI p = 1 ↔ p := by
  constructor
  · intro h
    by_cases hp : p
    · exact hp
    · rw [cI_f hp] at h
      exact absurd h (by decide)
  · exact cI_t
theorem cI_01 {p : Prop} : cI p = 0 ∨ cI p = 1 := @bI_01 p (Classical.propDecidable p)
theorem cI_cg {p q : Prop} (h : p ↔ q) : cI p = cI q := by rw [propext h]
theorem has_mb : ∀ s, s < 64 → ∀ a, a < 6 → (((nI s >>> (nI a &&& 31)) &&& 1 = 1) ↔ mb s a = true) := by decide +kernel
theorem x_mb : ∀ s, s < 64 → ∀ a, a < 6 → ((nI s &&& ((1 : Int32) <<< (nI a &&& 31)) = 0) ↔ mb s a = false) := by decide +kernel
theorem or_ad : ∀ s, s < 64 → ∀ a, a < 6 → nI s ||| ((1 : Int32) <<< (nI a &&& 31)) = nI (ad s a) := by decide +kernel
theorem and_dl : ∀ s, s < 64 → ∀ a, a < 6 → nI s &&& (((1 : Int32) <<< (nI a &&& 31)) ^^^ (-1)) = nI (dl s a) := by decide +kernel
theorem sub_0 : ∀ s, s < 64 → ∀ c, c < 64 → ((nI s &&& (nI c ^^^ (-1)) = 0) ↔ ∀ x, x < 6 → mb s x = true → mb c x = true) := by decide +kernel
theorem shl_2 : ∀ a, a < 6 → (1 : Int32) <<< (nI a &&& 31) = nI (2 ^ a) := by decide +kernel
theorem p2_mb : ∀ a, a < 6 → ∀ x, x < 6 → mb (2 ^ a) x = Nat.beq x a := by decide +kernel
theorem p2_ad : ∀ a, a < 6 → ad 0 a = 2 ^ a := by decide +kernel
/-- the services that change -/
def chN (V0 V1 : Nat → Int32) : Nat → Nat
  | 0 => 0
  | a + 1 => if V0 a = V1 a then chN V0 V1 a else ad (chN V0 V1 a) a
theorem chN_lt {V0 V1 : Nat → Int32} : ∀ {n : Nat}, n ≤ 6 → chN V0 V1 n < 64
  | 0, _ => by show 0 < 64; decide
  | n + 1, h => by
    unfold chN
    split
    · exact chN_lt (by omega)
    · exact ad_lt _ (chN_lt (by omega)) n (by omega)
theorem chN_hi {V0 V1 : Nat → Int32} : ∀ {n : Nat}, n ≤ 6 → ∀ x, x < 6 → n ≤ x → mb (chN V0 V1 n) x = false
  | 0, _, x, _, _ => by
    have h : ∀ x, x < 6 → mb 0 x = false := by decide +kernel
    exact h x (by omega)
  | n + 1, h, x, hx, hnx => by
    unfold chN
    split
    · exact chN_hi (by omega) x hx (by omega)
    · rw [ad_ne (chN_lt (by omega)) (by omega) hx (by omega)]
      exact chN_hi (by omega) x hx (by omega)
theorem chN_mb {V0 V1 : Nat → Int32} : ∀ {n : Nat}, n ≤ 6 → ∀ x, x < n → (mb (chN V0 V1 n) x = true ↔ V0 x ≠ V1 x)
  | 0, _, x, h => absurd h (by omega)
  | n + 1, h, x, hx => by
    by_cases hxn : x = n
    · subst hxn
      unfold chN
      split
      · rename_i e
        rw [chN_hi (by omega) x (by omega) (by omega)]
        exact ⟨fun z => absurd z (by decide), fun z => absurd e z⟩
      · rename_i e
        rw [ad_self (chN_lt (by omega)) (by omega)]
        exact ⟨fun _ => e, fun _ => rfl⟩
    · unfold chN
      split
      · exact chN_mb (by omega) x (by omega)
      · rw [ad_ne (chN_lt (by omega)) (by omega) (by omega) hxn]
        exact chN_mb (by omega) x (by omega)
abbrev okW (σ : tI) : Nat → Int32 → Int32 → Prop := fun k x y => okP σ (σ 59 0 k) x y
abbrev chS (σ : tI) : Nat := chN (σ 57 0) (σ 58 0) 6
abbrev fitS (σ : tI) (s : Nat) : Prop := FT (okW σ) (σ 57 0) (σ 58 0) s
abbrev fsS (σ : tI) (s : Nat) : Prop := FS (okW σ) (σ 57 0) (σ 58 0) (chS σ) s
theorem chS_lt : chS σ < 64 := chN_lt (by omega)
theorem okW_k {f : tI} (h49 : f 49 = σ 49) (h50 : f 50 = σ 50) (h59 : f 59 = σ 59) : okW f = okW σ := by
  unfold okW okP fitP badA nmd mA
  rw [h49, h50, h59]
theorem verI_vv {s a : Nat} (hs : s < 64) (ha : a < 6) : verI σ (nI s) a = vv (σ 57 0) (σ 58 0) s a := by
  unfold verI vv
  by_cases h : mb s a = true
  · rw [if_pos ((has_mb s hs a ha).mpr h), h]
    rfl
  · rw [if_neg (fun z => h ((has_mb s hs a ha).mp z)), Bool.eq_false_iff.mpr h]
    rfl
theorem m_changed_lp {Q : tQ} (K : am_G l 203 Q 0 0 41 [(2, aI (nI 6)), (1, aI (nI (chS σ))), (0, aR 12 0)] [] σ τ (rX t) cX lX) : ∀ (d k : Nat) (v : Int32), k + d = 6 → v = nI (chN (σ 57 0) (σ 58 0) k) → am_G l 203 Q 0 0 4 [(2, aI (nI k)), (1, aI v), (0, aR 12 0)] [] σ τ (rX t) cX lX
  | 0, k, v, h, hv => by
    obtain rfl : k = 6 := by omega
    rw [hv]
    refine am_vc_ok am_k203 [4, 41] 100 ?_
    exact And.intro (fun _ => K) (fun h1 => absurd (show (6 : Int32) ≤ nI 6 by decide) h1)
  | d + 1, k, v, h, hv => by
    have hk : k < 6 := by omega
    refine am_vc_ok am_k203 [4, 41] 100 ?_
    refine And.intro (fun h1 => absurd h1 (nI_ge (b := 6) (by omega) (by decide))) (fun _ => ?_)
    refine And.intro (vp_in_nI (N := 6) hk (by decide)) ?_
    rw [nI_clamp (n := k) (by omega)]
    refine And.intro (vp_in_nI (N := 6) hk (by decide)) ?_
    rw [nI_clamp (n := k) (by omega)]
    refine And.intro (fun e => ?_) (fun e => ?_)
    · have e : σ 57 0 k = σ 58 0 k := e
      have K2 := m_changed_lp K d (k + 1) (v ||| 0) (by omega) (by rw [chN, if_pos e, hv]; simp)
      rw [← nI_1 k] at K2
      exact am_Gp [0, 1, 2] rfl K2
    · have e : ¬ σ 57 0 k = σ 58 0 k := e
      have K2 := m_changed_lp K d (k + 1) (v ||| ((1 : Int32) <<< (nI k &&& 31))) (by omega) (by rw [chN, if_neg e, hv, or_ad _ (chN_lt (by omega)) k hk])
      rw [← nI_1 k] at K2
      exact am_Gp [0, 1, 2] rfl K2
theorem m_changed : am_D l 203 [aR 12 0] σ τ (rX t) cX lX (some (aI (nI (chS σ)))) σ τ (rX t) := by
  refine am_D_of am_o203 am_l203 rfl ?_
  refine am_vc_ok am_k203 [4] 100 ?_
  refine am_Gp (ls2 := [(2, aI (nI 0)), (1, aI (nI 0)), (0, aR 12 0)]) [0, 1, 2] rfl ?_
  refine m_changed_lp ?_ 6 0 _ (by omega) rfl
  refine am_vc_ok am_k203 [] 100 ?_
  exact am_vI am_k203 am_r203 rfl ⟨rfl, rfl, rfl, rfl, rfl, rfl⟩
def bsI (s : Int32) : Nat → Int32
  | 0 => 0
  | k + 1 => bsI s k + ((s >>> (nI k &&& 31)) &&& 1)
theorem bsI_pc : ∀ s, s < 64 → bsI (nI s) 16 = nI (pc s) := by decide +kernel
theorem m_bits_lp {Q : tQ} {s : Int32} {ρ : tR} {cn : tN} {ln : tM} (K : am_G l 159 Q 0 0 24 [(2, aI (nI 16)), (1, aI (bsI s 16)), (0, aI s)] [] σ τ ρ cn ln) : ∀ (d k : Nat), k + d = 16 → am_G l 159 Q 0 0 4 [(2, aI (nI k)), (1, aI (bsI s k)), (0, aI s)] [] σ τ ρ cn ln
  | 0, k, h => by
    obtain rfl : k = 16 := by omega
    refine am_vc_ok am_k159 [4, 24] 100 ?_
    exact And.intro (fun _ => K) (fun h1 => absurd (show (16 : Int32) ≤ nI 16 by decide) h1)
  | d + 1, k, h => by
    have K2 := m_bits_lp K d (k + 1) (by omega)
    refine am_vc_ok am_k159 [4, 24] 100 ?_
    refine And.intro (fun h1 => absurd h1 (nI_ge (b := 16) (by omega) (by decide))) (fun _ => ?_)
    rw [← nI_1 k] at K2
    exact am_Gp [0, 1, 2] rfl K2
theorem m_bits {s : Nat} (hs : s < 64) : am_D l 159 [aI (nI s)] σ τ (rX t) cX lX (some (aI (nI (pc s)))) σ τ (rX t) := by
  rw [← bsI_pc s hs]
  refine am_D_of am_o159 am_l159 rfl ?_
  refine am_vc_ok am_k159 [4] 100 ?_
  refine am_Gp (ls2 := [(2, aI (nI 0)), (1, aI 0), (0, aI (nI s))]) [0, 1, 2] rfl ?_
  refine m_bits_lp ?_ 16 0 (by omega)
  refine am_vc_ok am_k159 [] 100 ?_
  exact am_vI am_k159 am_r159 rfl ⟨rfl, rfl, rfl, rfl, rfl, rfl⟩
def ftN (σ : tI) (s n : Nat) : Prop := ∀ k, k < n → okW σ k (vv (σ 57 0) (σ 58 0) s (k / 6)) (vv (σ 57 0) (σ 58 0) s (k % 6))
theorem m_allFit_lp {Q : tQ} {s : Nat} (hs : s < 64) (hD : DrOK σ) (K : am_G l 201 Q 0 0 35 [(3, aI (nI 36)), (2, aI (cI (fitS σ s))), (0, aR 12 0), (1, aI (nI s))] [] σ τ (rX t) cX lX) : ∀ (d k : Nat) (v : Int32), k + d = 36 → v = cI (ftN σ s k) → am_G l 201 Q 0 0 4 [(3, aI (nI k)), (2, aI v), (0, aR 12 0), (1, aI (nI s))] [] σ τ (rX t) cX lX
  | 0, k, v, h, hv => by
    obtain rfl : k = 36 := by omega
    rw [hv]
    refine am_vc_ok am_k201 [4, 35] 100 ?_
    exact And.intro (fun _ => K) (fun h1 => absurd (show (36 : Int32) ≤ nI 36 by decide) h1)
  | d + 1, k, v, h, hv => by
    have hk : k < 36 := by omega
    have hst : ftN σ s (k + 1) ↔ ftN σ s k ∧ okW σ k (vv (σ 57 0) (σ 58 0) s (k / 6)) (vv (σ 57 0) (σ 58 0) s (k % 6)) := by
      constructor
      · intro z
        exact ⟨fun j hj => z j (by omega), z k (by omega)⟩
      · rintro ⟨z1, z2⟩ j hj
        by_cases e : j = k
        · rw [e]; exact z2
        · exact z1 j (by omega)
    refine am_vc_ok am_k201 [4, 35] 100 ?_
    refine And.intro (fun h1 => absurd h1 (nI_ge (b := 36) (by omega) (by decide))) (fun _ => ?_)
    rw [hv]
    refine And.intro (fun e => ?_) (fun e => ?_)
    · have e := cI_0.mp e
      have K2 := m_allFit_lp hs hD K d (k + 1) 0 (by omega) (cI_f (fun z => e (hst.mp z).1)).symm
      rw [← nI_1 k] at K2
      exact am_Gp [0, 1, 2, 3] rfl K2
    · have e := cI_n0.mp e
      refine am_vO am_k201 am_h201 rfl rfl rfl rfl (m_isPair (set := nI s) hk (hD k hk)) ?_
      refine am_vc_ok am_k201 [4, 35] 100 ?_
      rw [verI_vv hs (by omega), verI_vv hs (by omega)]
      refine And.intro (fun g => ?_) (fun g => ?_)
      · have g := bI_0.mp g
        have K2 := m_allFit_lp hs hD K d (k + 1) 0 (by omega) (cI_f (fun z => g (hst.mp z).2)).symm
        rw [← nI_1 k] at K2
        exact am_Gp [0, 1, 2, 3] rfl K2
      · have g := bI_1.mp g
        have K2 := m_allFit_lp hs hD K d (k + 1) 1 (by omega) (cI_t (hst.mpr ⟨e, g⟩)).symm
        rw [← nI_1 k] at K2
        exact am_Gp [0, 1, 2, 3] rfl K2
theorem m_allFit {s : Nat} (hs : s < 64) (hD : DrOK σ) : am_D l 201 [aR 12 0, aI (nI s)] σ τ (rX t) cX lX (some (aI (cI (fitS σ s)))) σ τ (rX t) := by
  refine am_D_of am_o201 am_l201 rfl ?_
  refine am_vc_ok am_k201 [4] 100 ?_
  refine am_Gp (ls2 := [(3, aI (nI 0)), (2, aI 1), (0, aR 12 0), (1, aI (nI s))]) [0, 1, 2, 3] rfl ?_
  refine m_allFit_lp hs hD ?_ 36 0 _ (by omega) (cI_t (fun j hj => absurd hj (by omega))).symm
  refine am_vc_ok am_k201 [] 100 ?_
  refine am_vZ am_k201 am_r201 rfl cI_01 ⟨rfl, rfl, rfl, rfl, rfl, rfl⟩
end L38

/-! the model's setOrders -/
section L39
variable {l : Launch} {σ σ2 : tI} {τ τ2 : tL} {t : Option (Nat × Nat)}
theorem u3_tw {f : tI} {k i j : Nat} {v w : Int32} : u3 (u3 f k i j v) k i j w = u3 f k i j w := by
  funext a b c
  unfold u3
  by_cases h1 : a = k
  · by_cases h2 : b = i
    · by_cases h3 : c = j
      · simp [h1, h2, h3]
      · simp [h3]
    · simp [h2]
  · simp [h1]
/-- come[k] while its services are gone through -/
def cmP (σ : tI) (k a : Nat) : Prop := k = 0 ∨ ∃ x, x < a ∧ mb k x = true ∧ σ 60 0 (dl k x) = 1
theorem cmP_s {k a : Nat} : cmP σ k (a + 1) ↔ cmP σ k a ∨ (mb k a = true ∧ σ 60 0 (dl k a) = 1) := by
  constructor
  · rintro (h | ⟨x, hx, h1, h2⟩)
    · exact Or.inl (Or.inl h)
    · by_cases e : x = a
      · rw [e] at h1 h2; exact Or.inr ⟨h1, h2⟩
      · exact Or.inl (Or.inr ⟨x, by omega, h1, h2⟩)
  · rintro ((h | ⟨x, hx, h1, h2⟩) | ⟨h1, h2⟩)
    · exact Or.inl h
    · exact Or.inr ⟨x, by omega, h1, h2⟩
    · exact Or.inr ⟨a, by omega, h1, h2⟩
theorem m_so_i {Q : tQ} {k c : Nat} (hk : k < 64) (h01 : ∀ s, s < k → σ 60 0 s = 0 ∨ σ 60 0 s = 1) (K : am_G l 204 Q 0 0 85 [(3, aI (nI 6)), (2, aI (nI k)), (1, aI (nI c)), (0, aR 12 0)] [] (u3 σ 60 0 k (cI (cmP σ k 6))) τ (rX t) cX lX) : ∀ (d a : Nat) (w : Int32), a + d = 6 → w = cI (cmP σ k a) → am_G l 204 Q 0 0 30 [(3, aI (nI a)), (2, aI (nI k)), (1, aI (nI c)), (0, aR 12 0)] [] (u3 σ 60 0 k w) τ (rX t) cX lX
  | 0, a, w, h, hw => by
    obtain rfl : a = 6 := by omega
    rw [hw]
    refine am_vc_ok am_k204 [30, 85] 100 ?_
    exact And.intro (fun _ => K) (fun h1 => absurd (show (6 : Int32) ≤ nI 6 by decide) h1)
  | d + 1, a, w, h, hw => by
    have ha : a < 6 := by omega
    have q1 : u3 σ 60 0 k w 60 0 k = w := by simp [u3]
    refine am_vc_ok am_k204 [30, 85] 100 ?_
    refine And.intro (fun h1 => absurd h1 (nI_ge (b := 6) (by omega) (by decide))) (fun _ => ?_)
    refine And.intro (vp_in_nI (N := 64) hk (by decide)) ?_
    rw [nI_clamp (n := k) (by omega), q1]
    have fin : ∀ v : Int32, v = cI (cmP σ k (a + 1)) → am_G l 204 Q 0 0 30 [(3, aI (nI a + 1)), (2, aI (nI k)), (1, aI (nI c)), (0, aR 12 0)] [] (u3 (u3 σ 60 0 k w) 60 0 k v) τ (rX t) cX lX := by
      intro v hv
      rw [u3_tw, show nI a + 1 = nI (a + 1) from nI_1 a]
      exact m_so_i hk h01 K d (a + 1) v (by omega) hv
    refine And.intro (fun e => ?_) (fun e => ?_)
    · have e : w = 0 := e
      rw [hw] at e
      have e := cI_0.mp e
      refine am_vS am_k204 am_h204 rfl rfl rfl rfl (m_has) ?_
      refine am_vc_ok am_k204 [30, 85] 100 ?_
      refine And.intro (fun g => ?_) (fun g => ?_)
      · have g := bI_0.mp g
        refine And.intro (⟨vp_in_nI (N := 64) hk (by decide), Or.inl rfl⟩) ?_
        rw [nI_clamp (n := k) (by omega)]
        exact fin 0 (cI_f (fun z => (cmP_s.mp z).elim e (fun y => g ((has_mb k hk a ha).mpr y.1)))).symm
      · have g := (has_mb k hk a ha).mp (bI_1.mp g)
        have hd := dl_lt k hk a ha g
        have q2 : u3 σ 60 0 k w 60 0 (dl k a) = σ 60 0 (dl k a) := by rw [u3_j _ _ (by omega)]
        refine And.intro (by rw [and_dl k hk a ha]; exact vp_in_nI (N := 64) (by omega) (by decide)) ?_
        rw [and_dl k hk a ha, nI_clamp (n := dl k a) (by omega), q2]
        refine And.intro (fun y => ?_) (fun y => ?_)
        · have y : σ 60 0 (dl k a) = 0 := y
          refine And.intro (⟨vp_in_nI (N := 64) hk (by decide), Or.inl rfl⟩) ?_
          rw [nI_clamp (n := k) (by omega)]
          exact fin 0 (cI_f (fun z => (cmP_s.mp z).elim e (fun x => absurd (y.symm.trans x.2) (by decide)))).symm
        · have y : ¬ σ 60 0 (dl k a) = 0 := y
          refine And.intro (⟨vp_in_nI (N := 64) hk (by decide), Or.inr rfl⟩) ?_
          rw [nI_clamp (n := k) (by omega)]
          exact fin 1 (cI_t (cmP_s.mpr (Or.inr ⟨g, (h01 _ (by omega)).resolve_left y⟩))).symm
    · have e : ¬ w = 0 := e
      rw [hw] at e
      have e := cI_n0.mp e
      refine And.intro (⟨vp_in_nI (N := 64) hk (by decide), Or.inr rfl⟩) ?_
      rw [nI_clamp (n := k) (by omega)]
      exact fin 1 (cI_t (cmP_s.mpr (Or.inl e))).symm
/-- sets below n are told -/
def soP (σ σ' : tI) (n : Nat) : Prop := (∀ q, q ≠ 60 → σ' q = σ q) ∧ (∀ s, s < n → σ' 60 0 s = 0 ∨ σ' 60 0 s = 1) ∧ ∀ s, s < n → (σ' 60 0 s = 1 ↔ fsS σ s ∧ (s = 0 ∨ ∃ a, a < 6 ∧ mb s a = true ∧ σ' 60 0 (dl s a) = 1))
theorem soP_s {σ' : tI} {k : Nat} (hk : k < 64) (h : soP σ σ' k) {v : Int32} (hv : v = cI (cmP σ' k 6 ∧ fsS σ k)) : soP σ (u3 σ' 60 0 k v) (k + 1) := by
  obtain ⟨h1, h2, h3⟩ := h
  have e1 : ∀ s, s ≠ k → u3 σ' 60 0 k v 60 0 s = σ' 60 0 s := fun s hs => by rw [u3_j _ _ hs]
  have e2 : u3 σ' 60 0 k v 60 0 k = v := by simp [u3]
  refine ⟨fun q hq => by rw [u3_kk _ _ hq]; exact h1 q hq, fun s hs => ?_, fun s hs => ?_⟩
  · by_cases e : s = k
    · rw [e, e2, hv]; exact cI_01
    · rw [e1 s e]; exact h2 s (by omega)
  · by_cases e : s = k
    · subst e
      have z : cmP σ' s 6 ↔ (s = 0 ∨ ∃ a, a < 6 ∧ mb s a = true ∧ u3 σ' 60 0 s v 60 0 (dl s a) = 1) := by
        unfold cmP
        refine or_congr_right (exists_congr fun a => and_congr_right fun ha => and_congr_right fun hm => ?_)
        rw [e1 _ (by have := dl_lt s hk a ha hm; omega)]
      have y : v = 1 ↔ (cmP σ' s 6 ∧ fsS σ s) := by
        rw [hv]
        exact cI_1
      rw [e2, y, z]
      exact And.comm
    · rw [e1 s e, h3 s (by omega)]
      refine and_congr_right fun _ => or_congr_right (exists_congr fun a => and_congr_right fun ha => and_congr_right fun hm => ?_)
      rw [e1 _ (by have := dl_lt s (by omega) a ha hm; omega)]
theorem soP.k {σ' : tI} {n : Nat} (h : soP σ σ' n) : okW σ' = okW σ ∧ σ' 57 = σ 57 ∧ σ' 58 = σ 58 ∧ σ' 59 = σ 59 ∧ σ' 49 = σ 49 := by
  have h1 := h.1
  exact ⟨okW_k (h1 49 (by decide)) (h1 50 (by decide)) (h1 59 (by decide)), h1 57 (by decide), h1 58 (by decide), h1 59 (by decide), h1 49 (by decide)⟩
theorem m_so_1 {Q : tQ} (hD : DrOK σ) (K : ∀ σ', soP σ σ' 64 → am_G l 204 Q 0 0 127 [(2, aI (nI 64)), (1, aI (nI (chS σ))), (0, aR 12 0)] [] σ' τ (rX t) cX lX) : ∀ (d k : Nat) (σ' : tI), k + d = 64 → soP σ σ' k → am_G l 204 Q 0 0 7 [(2, aI (nI k)), (1, aI (nI (chS σ))), (0, aR 12 0)] [] σ' τ (rX t) cX lX
  | 0, k, σ', h, hP => by
    obtain rfl : k = 64 := by omega
    refine am_vc_ok am_k204 [7, 127] 100 ?_
    exact And.intro (fun _ => K σ' hP) (fun h1 => absurd (show (64 : Int32) ≤ nI 64 by decide) h1)
  | d + 1, k, σ', h, hP => by
    have hk : k < 64 := by omega
    obtain ⟨w1, w2, w3, w4, w5⟩ := hP.k
    have fin : ∀ v w : Int32, v = cI (cmP σ' k 6 ∧ fsS σ k) → am_G l 204 Q 0 0 7 [(2, aI (nI k + 1)), (3, aI (nI 6)), (1, aI (nI (chS σ))), (0, aR 12 0)] [] (u3 (u3 σ' 60 0 k w) 60 0 k v) τ (rX t) cX lX := by
      intro v w hv
      rw [u3_tw, show nI k + 1 = nI (k + 1) from nI_1 k]
      exact am_Gp [0, 2, 3] rfl (m_so_1 hD K d (k + 1) _ (by omega) (soP_s hk hP hv))
    have mid : ∀ w : Int32, w = cI (cmP σ' k 0) → am_G l 204 Q 0 0 30 [(3, aI (nI 0)), (2, aI (nI k)), (1, aI (nI (chS σ))), (0, aR 12 0)] [] (u3 σ' 60 0 k w) τ (rX t) cX lX := by
      intro w hw
      refine m_so_i hk (fun s hs => hP.2.1 s hs) ?_ 6 0 w (by omega) hw
      generalize hz : cI (cmP σ' k 6) = z
      have q1 : u3 σ' 60 0 k z 60 0 k = z := by simp [u3]
      refine am_vc_ok am_k204 [7] 100 ?_
      refine And.intro (vp_in_nI (N := 64) hk (by decide)) ?_
      rw [nI_clamp (n := k) (by omega), q1]
      refine And.intro (fun e => ?_) (fun e => ?_)
      · have e : z = 0 := e
        rw [← hz] at e
        have e := cI_0.mp e
        refine And.intro (⟨vp_in_nI (N := 64) hk (by decide), Or.inl rfl⟩) ?_
        rw [nI_clamp (n := k) (by omega)]
        exact fin 0 z (cI_f (fun y => e y.1)).symm
      · have e : ¬ z = 0 := e
        rw [← hz] at e
        have e := cI_n0.mp e
        have hs0 := sub_0 k hk (chS σ) chS_lt
        refine And.intro (fun g => ?_) (fun g => ?_)
        · have g := hs0.mp g
          have hDr : DrOK (u3 σ' 60 0 k z) := by
            unfold DrOK
            rw [u3_kk _ _ (show 59 ≠ 60 by decide), u3_kk _ _ (show 49 ≠ 60 by decide), w4, w5]
            exact hD
          have hF : fitS (u3 σ' 60 0 k z) k = fitS σ k := by
            unfold fitS
            rw [okW_k (σ := σ') (u3_kk _ _ (by decide)) (u3_kk _ _ (by decide)) (u3_kk _ _ (by decide)), u3_kk _ _ (show 57 ≠ 60 by decide), u3_kk _ _ (show 58 ≠ 60 by decide), w1, w2, w3]
          have hA := m_allFit (l := l) (τ := τ) (t := t) hk hDr
          rw [hF] at hA
          refine am_vO am_k204 am_h204 rfl rfl rfl rfl (hA) ?_
          refine am_vc_ok am_k204 [7] 100 ?_
          refine And.intro (fun y => ?_) (fun y => ?_)
          · have y := cI_0.mp y
            refine And.intro (⟨vp_in_nI (N := 64) hk (by decide), Or.inl rfl⟩) ?_
            rw [nI_clamp (n := k) (by omega)]
            exact fin 0 z (cI_f (fun x => y x.2.2)).symm
          · have y := cI_n0.mp y
            refine And.intro (⟨vp_in_nI (N := 64) hk (by decide), Or.inr rfl⟩) ?_
            rw [nI_clamp (n := k) (by omega)]
            exact fin 1 z (cI_t ⟨e, g, y⟩).symm
        · have g : ¬ _ := fun y => g (hs0.mpr y)
          refine And.intro (⟨vp_in_nI (N := 64) hk (by decide), Or.inl rfl⟩) ?_
          rw [nI_clamp (n := k) (by omega)]
          exact fin 0 z (cI_f (fun x => g x.2.1)).symm
    refine am_vc_ok am_k204 [7, 30, 127] 100 ?_
    refine And.intro (fun h1 => absurd h1 (nI_ge (b := 64) (by omega) (by decide))) (fun _ => ?_)
    refine And.intro (fun e => ?_) (fun e => ?_)
    · have e0 : k = 0 := nI_inj' (by omega) (by decide) (show nI k = nI 0 from e)
      refine And.intro (⟨vp_in_nI (N := 64) hk (by decide), Or.inr rfl⟩) ?_
      rw [nI_clamp (n := k) (by omega)]
      exact mid 1 (cI_t (Or.inl e0)).symm
    · have e0 : ¬ k = 0 := fun z => e (by rw [z]; rfl)
      refine And.intro (⟨vp_in_nI (N := 64) hk (by decide), Or.inl rfl⟩) ?_
      rw [nI_clamp (n := k) (by omega)]
      exact mid 0 (cI_f (fun z => z.elim e0 (fun ⟨x, hx, _⟩ => absurd hx (by omega)))).symm
end L39

/-! the model's setOrders: what leads on; order, orderAt, putIn -/
section L40
variable {l : Launch} {σ σ2 : tI} {τ τ2 : tL} {t : Option (Nat × Nat)}
def lsP (σ : tI) (c k a : Nat) : Prop := k = c ∨ ∃ x, x < a ∧ mb k x = false ∧ mb c x = true ∧ σ 61 0 (ad k x) = 1
theorem lsP_s {c k a : Nat} : lsP σ c k (a + 1) ↔ lsP σ c k a ∨ (mb k a = false ∧ mb c a = true ∧ σ 61 0 (ad k a) = 1) := by
  constructor
  · rintro (h | ⟨x, hx, h1, h2⟩)
    · exact Or.inl (Or.inl h)
    · by_cases e : x = a
      · rw [e] at h1 h2; exact Or.inr ⟨h1, h2⟩
      · exact Or.inl (Or.inr ⟨x, by omega, h1, h2⟩)
  · rintro ((h | ⟨x, hx, h1, h2⟩) | ⟨h1, h2⟩)
    · exact Or.inl h
    · exact Or.inr ⟨x, by omega, h1, h2⟩
    · exact Or.inr ⟨a, by omega, h1, h2⟩
theorem m_so_j {Q : tQ} {k c : Nat} (hk : k < 64) (hc : c < 64) (h01 : ∀ s, k < s → s < 64 → σ 61 0 s = 0 ∨ σ 61 0 s = 1) (K : am_G l 204 Q 0 0 213 [(3, aI (nI 6)), (2, aI (nI k)), (1, aI (nI c)), (0, aR 12 0)] [] (u3 σ 61 0 k (cI (lsP σ c k 6))) τ (rX t) cX lX) : ∀ (d a : Nat) (w : Int32), a + d = 6 → w = cI (lsP σ c k a) → am_G l 204 Q 0 0 152 [(3, aI (nI a)), (2, aI (nI k)), (1, aI (nI c)), (0, aR 12 0)] [] (u3 σ 61 0 k w) τ (rX t) cX lX
  | 0, a, w, h, hw => by
    obtain rfl : a = 6 := by omega
    rw [hw]
    refine am_vc_ok am_k204 [152, 213] 100 ?_
    exact And.intro (fun _ => K) (fun h1 => absurd (show (6 : Int32) ≤ nI 6 by decide) h1)
  | d + 1, a, w, h, hw => by
    have ha : a < 6 := by omega
    have q1 : u3 σ 61 0 k w 61 0 k = w := by simp [u3]
    refine am_vc_ok am_k204 [152, 213] 100 ?_
    refine And.intro (fun h1 => absurd h1 (nI_ge (b := 6) (by omega) (by decide))) (fun _ => ?_)
    refine And.intro (vp_in_nI (N := 64) hk (by decide)) ?_
    rw [nI_clamp (n := k) (by omega), q1]
    have fin : ∀ v : Int32, v = cI (lsP σ c k (a + 1)) → am_G l 204 Q 0 0 152 [(3, aI (nI a + 1)), (2, aI (nI k)), (1, aI (nI c)), (0, aR 12 0)] [] (u3 (u3 σ 61 0 k w) 61 0 k v) τ (rX t) cX lX := by
      intro v hv
      rw [u3_tw, show nI a + 1 = nI (a + 1) from nI_1 a]
      exact m_so_j hk hc h01 K d (a + 1) v (by omega) hv
    refine And.intro (fun e => ?_) (fun e => ?_)
    · have e : w = 0 := e
      rw [hw] at e
      have e := cI_0.mp e
      refine am_vS am_k204 am_h204 rfl rfl rfl rfl (m_has) ?_
      refine am_vc_ok am_k204 [152, 213] 100 ?_
      refine And.intro (fun g => ?_) (fun g => ?_)
      · have g : mb k a = false := Bool.eq_false_iff.mpr (fun z => bI_0.mp g ((has_mb k hk a ha).mpr z))
        refine am_vS am_k204 am_h204 rfl rfl rfl rfl (m_has) ?_
        refine am_vc_ok am_k204 [152, 213] 100 ?_
        refine And.intro (fun g2 => ?_) (fun g2 => ?_)
        · have g2 := bI_0.mp g2
          refine And.intro (⟨vp_in_nI (N := 64) hk (by decide), Or.inl rfl⟩) ?_
          rw [nI_clamp (n := k) (by omega)]
          exact fin 0 (cI_f (fun z => (lsP_s.mp z).elim e (fun y => g2 ((has_mb c hc a ha).mpr y.2.1)))).symm
        · have g2 := (has_mb c hc a ha).mp (bI_1.mp g2)
          have hd := ad_gt k hk a ha g
          have hd2 := ad_lt k hk a ha
          have q2 : u3 σ 61 0 k w 61 0 (ad k a) = σ 61 0 (ad k a) := by rw [u3_j _ _ (by omega)]
          refine And.intro (by rw [or_ad k hk a ha]; exact vp_in_nI (N := 64) (by omega) (by decide)) ?_
          rw [or_ad k hk a ha, nI_clamp (n := ad k a) (by omega), q2]
          refine And.intro (fun y => ?_) (fun y => ?_)
          · have y : σ 61 0 (ad k a) = 0 := y
            refine And.intro (⟨vp_in_nI (N := 64) hk (by decide), Or.inl rfl⟩) ?_
            rw [nI_clamp (n := k) (by omega)]
            exact fin 0 (cI_f (fun z => (lsP_s.mp z).elim e (fun x => absurd (y.symm.trans x.2.2) (by decide)))).symm
          · have y : ¬ σ 61 0 (ad k a) = 0 := y
            refine And.intro (⟨vp_in_nI (N := 64) hk (by decide), Or.inr rfl⟩) ?_
            rw [nI_clamp (n := k) (by omega)]
            exact fin 1 (cI_t (lsP_s.mpr (Or.inr ⟨g, g2, (h01 _ hd hd2).resolve_left y⟩))).symm
      · have g := (has_mb k hk a ha).mp (bI_1.mp g)
        refine And.intro (⟨vp_in_nI (N := 64) hk (by decide), Or.inl rfl⟩) ?_
        rw [nI_clamp (n := k) (by omega)]
        exact fin 0 (cI_f (fun z => (lsP_s.mp z).elim e (fun y => absurd (g.symm.trans y.1) (by decide)))).symm
    · have e : ¬ w = 0 := e
      rw [hw] at e
      have e := cI_n0.mp e
      refine And.intro (⟨vp_in_nI (N := 64) hk (by decide), Or.inr rfl⟩) ?_
      rw [nI_clamp (n := k) (by omega)]
      exact fin 1 (cI_t (lsP_s.mpr (Or.inl e))).symm
/-- sets from n on are told -/
def slP (σ σ' : tI) (c n : Nat) : Prop := (∀ q, q ≠ 61 → σ' q = σ q) ∧ (∀ s, n ≤ s → s < 64 → σ' 61 0 s = 0 ∨ σ' 61 0 s = 1) ∧ ∀ s, n ≤ s → s < 64 → (σ' 61 0 s = 1 ↔ σ 60 0 s = 1 ∧ (s = c ∨ ∃ a, a < 6 ∧ mb s a = false ∧ mb c a = true ∧ σ' 61 0 (ad s a) = 1))
theorem slP_s {σ' : tI} {k c : Nat} (hk : k < 64) (h : slP σ σ' c (k + 1)) {v : Int32} (hv : v = cI (lsP σ' c k 6 ∧ σ 60 0 k = 1)) : slP σ (u3 σ' 61 0 k v) c k := by
  obtain ⟨h1, h2, h3⟩ := h
  have e1 : ∀ s, s ≠ k → u3 σ' 61 0 k v 61 0 s = σ' 61 0 s := fun s hs => by rw [u3_j _ _ hs]
  have e2 : u3 σ' 61 0 k v 61 0 k = v := by simp [u3]
  refine ⟨fun q hq => by rw [u3_kk _ _ hq]; exact h1 q hq, fun s hs hs2 => ?_, fun s hs hs2 => ?_⟩
  · by_cases e : s = k
    · rw [e, e2, hv]; exact cI_01
    · rw [e1 s e]; exact h2 s (by omega) hs2
  · by_cases e : s = k
    · subst e
      have z : lsP σ' c s 6 ↔ (s = c ∨ ∃ a, a < 6 ∧ mb s a = false ∧ mb c a = true ∧ u3 σ' 61 0 s v 61 0 (ad s a) = 1) := by
        unfold lsP
        refine or_congr_right (exists_congr fun a => and_congr_right fun ha => and_congr_right fun hm => and_congr_right fun _ => ?_)
        rw [e1 _ (by have := ad_gt s hk a ha hm; omega)]
      have y : v = 1 ↔ (lsP σ' c s 6 ∧ σ 60 0 s = 1) := by
        rw [hv]
        exact cI_1
      rw [e2, y, z]
      exact And.comm
    · rw [e1 s e, h3 s (by omega) hs2]
      refine and_congr_right fun _ => or_congr_right (exists_congr fun a => and_congr_right fun ha => and_congr_right fun hm => and_congr_right fun _ => ?_)
      rw [e1 _ (by have := ad_gt s hs2 a ha hm; omega)]
theorem m_so_2 {Q : tQ} {c : Nat} (hc : c < 64) (h60 : ∀ s, s < 64 → σ 60 0 s = 0 ∨ σ 60 0 s = 1) (K : ∀ σ', slP σ σ' c 0 → am_G l 204 Q 0 0 248 [(2, aI (-1)), (1, aI (nI c)), (0, aR 12 0)] [] σ' τ (rX t) cX lX) : ∀ (d : Nat) (v : Int32) (σ' : tI), d ≤ 64 → v = nI d - 1 → slP σ σ' c d → am_G l 204 Q 0 0 130 [(2, aI v), (1, aI (nI c)), (0, aR 12 0)] [] σ' τ (rX t) cX lX
  | 0, v, σ', h, hv, hP => by
    obtain rfl : v = -1 := hv
    refine am_vc_ok am_k204 [130, 248] 100 ?_
    exact And.intro (fun _ => K σ' hP) (fun h1 => absurd (by decide) h1)
  | k + 1, v, σ', h, hv, hP => by
    have hk : k < 64 := by omega
    obtain rfl : v = nI k := by rw [hv, ← nI_1 k]; simp
    have fin : ∀ v w : Int32, v = cI (lsP σ' c k 6 ∧ σ 60 0 k = 1) → am_G l 204 Q 0 0 130 [(2, aI (nI k + (-1))), (3, aI (nI 6)), (1, aI (nI c)), (0, aR 12 0)] [] (u3 (u3 σ' 61 0 k w) 61 0 k v) τ (rX t) cX lX := by
      intro v w hv
      rw [u3_tw]
      exact am_Gp [0, 2, 3] rfl (m_so_2 hc h60 K k _ _ (by omega) (by rw [Int32.sub_eq_add_neg]) (slP_s hk hP hv))
    have mid : ∀ w : Int32, w = cI (lsP σ' c k 0) → am_G l 204 Q 0 0 152 [(3, aI (nI 0)), (2, aI (nI k)), (1, aI (nI c)), (0, aR 12 0)] [] (u3 σ' 61 0 k w) τ (rX t) cX lX := by
      intro w hw
      refine m_so_j hk hc (fun s hs hs2 => hP.2.1 s hs hs2) ?_ 6 0 w (by omega) hw
      generalize hz : cI (lsP σ' c k 6) = z
      have q1 : u3 σ' 61 0 k z 61 0 k = z := by simp [u3]
      have q2 : u3 σ' 61 0 k z 60 0 k = σ 60 0 k := by rw [u3_k _ _ (by decide), hP.1 60 (by decide)]
      refine am_vc_ok am_k204 [130] 100 ?_
      refine And.intro (vp_in_nI (N := 64) hk (by decide)) ?_
      rw [nI_clamp (n := k) (by omega), q1]
      refine And.intro (fun e => ?_) (fun e => ?_)
      · have e : z = 0 := e
        rw [← hz] at e
        have e := cI_0.mp e
        refine And.intro (⟨vp_in_nI (N := 64) hk (by decide), Or.inl rfl⟩) ?_
        rw [nI_clamp (n := k) (by omega)]
        exact fin 0 z (cI_f (fun y => e y.1)).symm
      · have e : ¬ z = 0 := e
        rw [← hz] at e
        have e := cI_n0.mp e
        refine And.intro (vp_in_nI (N := 64) hk (by decide)) ?_
        rw [nI_clamp (n := k) (by omega), q2]
        refine And.intro (fun y => ?_) (fun y => ?_)
        · have y : σ 60 0 k = 0 := y
          refine And.intro (⟨vp_in_nI (N := 64) hk (by decide), Or.inl rfl⟩) ?_
          rw [nI_clamp (n := k) (by omega)]
          exact fin 0 z (cI_f (fun x => absurd (y.symm.trans x.2) (by decide))).symm
        · have y : ¬ σ 60 0 k = 0 := y
          refine And.intro (⟨vp_in_nI (N := 64) hk (by decide), Or.inr rfl⟩) ?_
          rw [nI_clamp (n := k) (by omega)]
          exact fin 1 z (cI_t ⟨e, (h60 k hk).resolve_left y⟩).symm
    refine am_vc_ok am_k204 [130, 152, 248] 100 ?_
    refine And.intro (fun h1 => absurd h1 (nI_pos (by omega))) (fun _ => ?_)
    refine And.intro (fun e => ?_) (fun e => ?_)
    · have e0 : k = c := nI_inj' (by omega) (by omega) e
      refine And.intro (⟨vp_in_nI (N := 64) hk (by decide), Or.inr rfl⟩) ?_
      rw [nI_clamp (n := k) (by omega)]
      exact mid 1 (cI_t (Or.inl e0)).symm
    · have e0 : ¬ k = c := fun z => e (by rw [z])
      refine And.intro (⟨vp_in_nI (N := 64) hk (by decide), Or.inl rfl⟩) ?_
      rw [nI_clamp (n := k) (by omega)]
      exact mid 0 (cI_f (fun z => z.elim e0 (fun ⟨x, hx, _⟩ => absurd hx (by omega)))).symm
/-- what setOrders leaves -/
def soQ (σ s2 : tI) : Prop := (∀ q, q ≠ 60 → q ≠ 61 → s2 q = σ q) ∧ (∀ s, s < 64 → (s2 60 0 s = 0 ∨ s2 60 0 s = 1) ∧ (s2 61 0 s = 0 ∨ s2 61 0 s = 1)) ∧ CMr (fsS σ) (fun s => s2 60 0 s = 1) ∧ LDr (fun s => s2 60 0 s = 1) (fun s => s2 61 0 s = 1) (chS σ)
theorem m_setOrders (hD : DrOK σ) : am_T l 204 [aR 12 0] σ τ t (fun r s2 τ2 t2 => r = none ∧ τ2 = τ ∧ t2 = t ∧ soQ σ s2) := by
  refine am_T_of am_o204 am_l204 rfl ?_
  refine am_vc_ok am_k204 [7] 100 ?_
  refine am_vO am_k204 am_h204 rfl rfl rfl rfl (m_changed) ?_
  refine am_vc_ok am_k204 [7] 100 ?_
  refine m_so_1 hD ?_ 64 0 σ (by omega) ⟨fun _ _ => rfl, fun s hs => absurd hs (by omega), fun s hs => absurd hs (by omega)⟩
  intro σ1 h1
  refine am_vc_ok am_k204 [130] 100 ?_
  refine m_so_2 (c := chS σ) chS_lt (fun s hs => h1.2.1 s hs) ?_ 64 _ σ1 (by omega) rfl ⟨fun _ _ => rfl, fun s hs hs2 => absurd hs (by omega), fun s hs hs2 => absurd hs (by omega)⟩
  intro σ' h2
  refine am_vc_ok am_k204 [] 100 ?_
  refine am_vV am_k204 am_r204 rfl ⟨t, rfl, rfl, rfl, rfl, rfl, rfl, ?_⟩
  have e60 : σ' 60 = σ1 60 := h2.1 60 (by decide)
  refine ⟨fun q a1 a2 => (h2.1 q a2).trans (h1.1 q a1), fun s hs => ⟨by rw [e60]; exact h1.2.1 s hs, h2.2.1 s (by omega) hs⟩, fun s hs => ?_, fun s hs => ?_⟩
  · show σ' 60 0 s = 1 ↔ _ ∧ (_ ∨ ∃ a, a < 6 ∧ mb s a = true ∧ σ' 60 0 (dl s a) = 1)
    rw [e60]
    exact h1.2.2 s hs
  · show σ' 61 0 s = 1 ↔ σ' 60 0 s = 1 ∧ _
    rw [e60]
    exact h2.2.2 s (by omega) hs
end L40

/-! the order that is taken; the model's order, orderAt, putIn -/
section L41
variable {l : Launch} {σ σ2 : tI} {τ τ2 : tL} {t : Option (Nat × Nat)}
noncomputable def nxtN (p : Nat → Prop) : Nat → Nat → Nat
  | 0, a => a
  | d + 1, a => @ite Nat (p a) (Classical.propDecidable (p a)) a (nxtN p d (a + 1))
noncomputable abbrev nxt (P : Nat → Nat → Prop) (s : Nat) : Nat := nxtN (P s) 6 0
noncomputable def gset (P : Nat → Nat → Prop) : Nat → Nat
  | 0 => 0
  | k + 1 => ad (gset P k) (nxt P (gset P k))
theorem nxtN_y {p : Nat → Prop} {d a : Nat} (h : p a) : nxtN p (d + 1) a = a := by unfold nxtN; rw [if_pos h]
theorem nxtN_n {p : Nat → Prop} {d a : Nat} (h : ¬ p a) : nxtN p (d + 1) a = nxtN p d (a + 1) := by rw [nxtN, if_neg h]
theorem nxtN_ok {p : Nat → Prop} : ∀ (d a : Nat), (∃ x, a ≤ x ∧ x < a + d ∧ p x) → p (nxtN p d a) ∧ nxtN p d a < a + d
  | 0, a, ⟨x, h1, h2, _⟩ => absurd h2 (by omega)
  | d + 1, a, ⟨x, h1, h2, h3⟩ => by
    by_cases h : p a
    · rw [nxtN_y h]; exact ⟨h, by omega⟩
    · rw [nxtN_n h]
      have z := nxtN_ok d (a + 1) ⟨x, by
        by_cases e : x = a
        · rw [e] at h3; exact absurd h3 h
        · omega, by omega, h3⟩
      exact ⟨z.1, by omega⟩
theorem nxtN_cg {p q : Nat → Prop} : ∀ (d a : Nat), (∀ x, a ≤ x → x < a + d → (p x ↔ q x)) → nxtN p d a = nxtN q d a
  | 0, _, _ => rfl
  | d + 1, a, h => by
    by_cases e : p a
    · rw [nxtN_y e, nxtN_y ((h a (by omega) (by omega)).mp e)]
    · rw [nxtN_n e, nxtN_n (fun z => e ((h a (by omega) (by omega)).mpr z))]
      exact nxtN_cg d (a + 1) (fun x h1 h2 => h x (by omega) (by omega))
theorem pc_mono : ∀ s, s < 64 → ∀ c, c < 64 → (∀ x, x < 6 → mb s x = true → mb c x = true) → pc s ≤ pc c := by decide +kernel
/-- by what leads on; by what fits -/
abbrev pM (ld : Nat → Prop) (c : Nat) : Nat → Nat → Prop := fun s a => mb s a = false ∧ mb c a = true ∧ ld (ad s a)
abbrev pX (F : Nat → Prop) : Nat → Nat → Prop := fun s a => mb s a = false ∧ F (ad s a)
section P
variable {W : Nat → Int32 → Int32 → Prop} {V0 V1 : Nat → Int32} {r ld : Nat → Prop} {c : Nat}
theorem gs_ex {s : Nat} (hL : LDr r ld c) (hs : s < 64) (hl : ld s) (hn : pc s < pc c) : ∃ a, 0 ≤ a ∧ a < 0 + 6 ∧ pM ld c s a := by
  obtain ⟨-, h2 | ⟨a, ha, h3, h4, h5⟩⟩ := (hL s hs).mp hl
  · rw [h2] at hn
    exact absurd hn (Nat.lt_irrefl _)
  · exact ⟨a, by omega, by omega, h3, h4, h5⟩
theorem gs_inv (hL : LDr r ld c) (h0 : ld 0) : ∀ k, k ≤ pc c → gset (pM ld c) k < 64 ∧ ld (gset (pM ld c) k) ∧ pc (gset (pM ld c) k) = k
  | 0, _ => ⟨by show 0 < 64; decide, h0, by show pc 0 = 0; decide⟩
  | k + 1, h => by
    obtain ⟨h1, h2, h3⟩ := gs_inv hL h0 k (by omega)
    have hx := gs_ex hL h1 h2 (by omega)
    obtain ⟨⟨g1, g2, g3⟩, g4⟩ := nxtN_ok 6 0 hx
    exact ⟨ad_lt _ h1 _ (by omega), g3, by show pc (ad _ _) = _; rw [pc_ad _ h1 _ (by omega) g1, h3]⟩
theorem gs_end (h : CMr (FS W V0 V1 c) r) (hL : LDr r ld c) (hc : c < 64) (h0 : ld 0) : gset (pM ld c) (pc c) = c := by
  obtain ⟨h1, h2, h3⟩ := gs_inv hL h0 (pc c) (Nat.le_refl _)
  obtain ⟨-, h4 | ⟨a, ha, g1, g2, g3⟩⟩ := (hL _ h1).mp h2
  · exact h4
  · have hr := ((hL _ (ad_lt _ h1 a ha)).mp g3).1
    have hs := ((h _ (ad_lt _ h1 a ha)).mp hr).1.1
    have hp := pc_mono _ (ad_lt _ h1 a ha) c hc hs
    rw [pc_ad _ h1 a ha g1] at hp
    omega
theorem gs_eq (h : CMr (FS W V0 V1 c) r) (hL : LDr r ld c) (hc : c < 64) (h0 : ld 0) : ∀ k, k ≤ pc c → gset (pX (FS W V0 V1 c)) k = gset (pM ld c) k
  | 0, _ => rfl
  | k + 1, hk => by
    have ih := gs_eq h hL hc h0 k (by omega)
    obtain ⟨h1, h2, h3⟩ := gs_inv hL h0 k (by omega)
    show ad _ _ = ad _ _
    rw [ih]
    congr 1
    refine nxtN_cg 6 0 (fun x _ hx => ?_)
    exact and_congr_right fun hm => hL.fit h hc h1 (by omega) hm h2
theorem gs_nx (h : CMr (FS W V0 V1 c) r) (hL : LDr r ld c) (hc : c < 64) (h0 : ld 0) {k : Nat} (hk : k < pc c) : nxt (pX (FS W V0 V1 c)) (gset (pX (FS W V0 V1 c)) k) = nxt (pM ld c) (gset (pM ld c) k) := by
  obtain ⟨h1, h2, h3⟩ := gs_inv hL h0 k (by omega)
  rw [gs_eq h hL hc h0 k (by omega)]
  refine nxtN_cg 6 0 (fun x _ hx => ?_)
  exact and_congr_right fun hm => hL.fit h hc h1 (by omega) hm h2
end P
noncomputable def bst (r : Nat → Prop) : Nat → Nat
  | 0 => 0
  | k + 1 => @ite Nat (r k ∧ pc (bst r k) < pc k) (Classical.propDecidable _) k (bst r k)
theorem bst_lt {r : Nat → Prop} : ∀ {k : Nat}, k ≤ 64 → bst r k < 64
  | 0, _ => by show 0 < 64; decide
  | k + 1, h => by
    unfold bst
    split
    · omega
    · exact bst_lt (by omega)
theorem bst_1 {r : Nat → Prop} : bst r 1 = 0 := by
  unfold bst
  split
  · rfl
  · rfl
theorem bst_cg {r r2 : Nat → Prop} : ∀ {k : Nat}, (∀ s, s < k → (r s ↔ r2 s)) → bst r k = bst r2 k
  | 0, _ => rfl
  | k + 1, h => by
    unfold bst
    rw [bst_cg (r := r) (r2 := r2) (k := k) (fun s hs => h s (by omega)), propext (h k (by omega))]
theorem m_or_lp {Q : tQ} (h01 : ∀ s, s < 64 → σ 60 0 s = 0 ∨ σ 60 0 s = 1) (K : am_G l 205 Q 0 0 57 [(2, aI (nI 64)), (1, aI (nI (bst (fun s => σ 60 0 s = 1) 64))), (0, aR 12 0)] [] σ τ (rX t) cX lX) : ∀ (d k : Nat) (v : Int32), k + d = 64 → v = nI (bst (fun s => σ 60 0 s = 1) k) → am_G l 205 Q 0 0 19 [(2, aI (nI k)), (1, aI v), (0, aR 12 0)] [] σ τ (rX t) cX lX
  | 0, k, v, h, hv => by
    obtain rfl : k = 64 := by omega
    rw [hv]
    refine am_vc_ok am_k205 [19, 57] 100 ?_
    exact And.intro (fun _ => K) (fun h1 => absurd (show (64 : Int32) ≤ nI 64 by decide) h1)
  | d + 1, k, v, h, hv => by
    have hk : k < 64 := by omega
    have hb : bst (fun s => σ 60 0 s = 1) k < 64 := bst_lt (by omega)
    have p1 := pc_6 k hk
    have p2 := pc_6 _ hb
    have fin : ∀ v : Int32, v = nI (bst (fun s => σ 60 0 s = 1) (k + 1)) → am_G l 205 Q 0 0 19 [(2, aI (nI k + 1)), (1, aI v), (0, aR 12 0)] [] σ τ (rX t) cX lX := by
      intro v hv
      rw [show nI k + 1 = nI (k + 1) from nI_1 k]
      exact m_or_lp h01 K d (k + 1) v (by omega) hv
    rw [hv]
    refine am_vc_ok am_k205 [19, 57] 100 ?_
    refine And.intro (fun h1 => absurd h1 (nI_ge (b := 64) (by omega) (by decide))) (fun _ => ?_)
    refine And.intro (vp_in_nI (N := 64) hk (by decide)) ?_
    rw [nI_clamp (n := k) (by omega)]
    refine And.intro (fun e => ?_) (fun e => ?_)
    · have e : σ 60 0 k = 0 := e
      exact am_Gp [0, 1, 2] rfl (fin _ (by rw [bst, if_neg (fun z => absurd (e.symm.trans z.1) (by decide))]))
    · have e : ¬ σ 60 0 k = 0 := e
      refine am_vS am_k205 am_h205 rfl rfl rfl rfl (m_bits hk) ?_
      refine am_vc_ok am_k205 [19, 57] 100 ?_
      refine am_vS am_k205 am_h205 rfl rfl rfl rfl (m_bits hb) ?_
      refine am_vc_ok am_k205 [19, 57] 100 ?_
      refine And.intro (fun g => ?_) (fun g => ?_)
      · have g : ¬ pc (bst (fun s => σ 60 0 s = 1) k) < pc k := fun z => absurd g (Int32.not_le.mpr (nI_lt z (by omega)))
        exact am_Gp [0, 1, 2] rfl (fin _ (by rw [bst, if_neg (fun z => g z.2)]))
      · have g : pc (bst (fun s => σ 60 0 s = 1) k) < pc k := (nI_ltI (by omega) (by omega)).mp (Int32.not_le.mp g)
        exact am_Gp [0, 1, 2] rfl (fin _ (by rw [bst, if_pos ⟨(h01 k hk).resolve_left e, g⟩]))
theorem soQ.ch {s2 : tI} (h : soQ σ s2) : chS s2 = chS σ := by
  unfold chS
  rw [h.1 57 (by decide) (by decide), h.1 58 (by decide) (by decide)]
theorem m_order_no (hD : DrOK σ) (h0 : ¬ fitS σ 0) : am_D l 205 [aR 12 0] σ τ (rX t) cX lX (some (aI (-4))) σ τ (rX t) := by
  refine am_D_of am_o205 am_l205 rfl ?_
  refine am_vc_ok am_k205 [] 100 ?_
  refine am_vO am_k205 am_h205 rfl rfl rfl rfl (m_allFit (s := 0) (by decide) hD) ?_
  refine am_vc_ok am_k205 [] 100 ?_
  refine And.intro (fun _ => ?_) (fun e => absurd (cI_n0.mp e) h0)
  exact am_vI am_k205 am_r205 rfl ⟨rfl, rfl, rfl, rfl, rfl, rfl⟩
theorem m_order (hD : DrOK σ) (h0 : fitS σ 0) : am_T l 205 [aR 12 0] σ τ t (fun r s3 τ2 t2 => τ2 = τ ∧ t2 = t ∧ ∃ s2, soQ σ s2 ∧ s3 = u3 s2 12 0 2 (nI (bst (fun s => s2 60 0 s = 1) 64)) ∧ r = some (aI (if s2 61 0 0 = 1 then nI (pc (chS σ)) else -9))) := by
  refine am_T_of am_o205 am_l205 rfl ?_
  refine am_vc_ok am_k205 [19] 100 ?_
  refine am_vO am_k205 am_h205 rfl rfl rfl rfl (m_allFit (s := 0) (by decide) hD) ?_
  refine am_vc_ok am_k205 [19] 100 ?_
  refine And.intro (fun e => absurd h0 (cI_0.mp e)) (fun _ => ?_)
  refine am_vOT am_k205 am_h205 rfl rfl rfl rfl (m_setOrders hD) ?_
  rintro r s2 τ2 t2 ⟨rfl, rfl, rfl, hQ⟩
  refine am_vc_ok am_k205 [19] 100 ?_
  refine am_Gp (ls2 := [(2, aI (nI 1)), (1, aI (nI 0)), (0, aR 12 0)]) [0, 1, 2] rfl ?_
  refine m_or_lp (fun s hs => (hQ.2.1 s hs).1) ?_ 63 1 _ (by omega) (by rw [bst_1])
  refine am_vc_ok am_k205 [] 100 ?_
  refine And.intro (vp_in_nI (N := 64) (show 0 < 64 by decide) (by decide)) ?_
  refine And.intro (fun e => ?_) (fun e => ?_)
  · have e : s2 61 0 0 = 0 := e
    refine am_vO am_k205 am_h205 rfl rfl rfl rfl (m_ask) ?_
    refine am_vc_ok am_k205 [] 100 ?_
    refine am_vI am_k205 am_r205 rfl ⟨t2, rfl, rfl, rfl, rfl, rfl, s2, hQ, rfl, ?_⟩
    rw [if_neg (by rw [e]; decide)]
  · have e : ¬ s2 61 0 0 = 0 := e
    have hch := m_changed (l := l) (σ := s2) (τ := τ2) (t := t2)
    rw [hQ.ch] at hch
    refine am_vO am_k205 am_h205 rfl rfl rfl rfl (hch) ?_
    refine am_vc_ok am_k205 [] 100 ?_
    refine am_vS am_k205 am_h205 rfl rfl rfl rfl (m_bits chS_lt) ?_
    refine am_vc_ok am_k205 [] 100 ?_
    refine am_vO am_k205 am_h205 rfl rfl rfl rfl (m_ask) ?_
    refine am_vc_ok am_k205 [] 100 ?_
    refine am_vI am_k205 am_r205 rfl ⟨t2, rfl, rfl, rfl, rfl, rfl, s2, hQ, rfl, ?_⟩
    rw [if_pos (((hQ.2.1 0 (by decide)).2).resolve_left e)]
theorem m_oa_in {Q : tQ} {s c k : Nat} {j : Int32} (hs : s < 64) (hc : chS σ = c) (h01 : ∀ s, s < 64 → σ 61 0 s = 0 ∨ σ 61 0 s = 1) (K : am_G l 206 Q 0 0 98 [(3, aI (nI (nxt (pM (fun s => σ 61 0 s = 1) c) s))), (2, aI (nI s)), (4, aI (nI k)), (1, aI j), (0, aR 12 0)] [] σ τ (rX t) cX lX) : ∀ (d a : Nat), a + d = 6 → (∃ x, a ≤ x ∧ x < a + d ∧ pM (fun s => σ 61 0 s = 1) c s x) → nxtN (pM (fun s => σ 61 0 s = 1) c s) d a = nxt (pM (fun s => σ 61 0 s = 1) c) s → am_G l 206 Q 0 0 60 [(3, aI (nI a)), (2, aI (nI s)), (4, aI (nI k)), (1, aI j), (0, aR 12 0)] [] σ τ (rX t) cX lX
  | 0, a, h, ⟨x, h1, h2, _⟩, _ => absurd h2 (by omega)
  | d + 1, a, h, hx, he => by
    have ha : a < 6 := by omega
    have hc64 : c < 64 := by rw [← hc]; exact chS_lt
    have no : ¬ pM (fun s => σ 61 0 s = 1) c s a → am_G l 206 Q 0 0 60 [(3, aI (nI a + 1)), (2, aI (nI s)), (4, aI (nI k)), (1, aI j), (0, aR 12 0)] [] σ τ (rX t) cX lX := by
      intro hn
      rw [show nI a + 1 = nI (a + 1) from nI_1 a]
      obtain ⟨x, h1, h2, h3⟩ := hx
      exact m_oa_in hs hc h01 K d (a + 1) (by omega) ⟨x, by
        by_cases e : x = a
        · rw [e] at h3; exact absurd h3 hn
        · omega, by omega, h3⟩ (by rw [← he, nxtN_n hn])
    refine am_vc_ok am_k206 [60, 98] 100 ?_
    refine am_vS am_k206 am_h206 rfl rfl rfl rfl (m_has) ?_
    refine am_vc_ok am_k206 [60, 98] 100 ?_
    refine And.intro (fun g => ?_) (fun g => ?_)
    · have g : mb s a = false := Bool.eq_false_iff.mpr (fun z => bI_0.mp g ((has_mb s hs a ha).mpr z))
      have hch := m_changed (l := l) (σ := σ) (τ := τ) (t := t)
      rw [hc] at hch
      refine am_vO am_k206 am_h206 rfl rfl rfl rfl (hch) ?_
      refine am_vc_ok am_k206 [60, 98] 100 ?_
      refine am_vS am_k206 am_h206 rfl rfl rfl rfl (m_has) ?_
      refine am_vc_ok am_k206 [60, 98] 100 ?_
      refine And.intro (fun g2 => ?_) (fun g2 => ?_)
      · have g2 := bI_0.mp g2
        exact no (fun z => g2 ((has_mb c hc64 a ha).mpr z.2.1))
      · have g2 := (has_mb c hc64 a ha).mp (bI_1.mp g2)
        refine And.intro (by rw [or_ad s hs a ha]; exact vp_in_nI (N := 64) (ad_lt s hs a ha) (by decide)) ?_
        rw [or_ad s hs a ha, nI_clamp (n := ad s a) (by have := ad_lt s hs a ha; omega)]
        refine And.intro (fun y => ?_) (fun y => ?_)
        · have y : σ 61 0 (ad s a) = 0 := y
          exact no (fun z => absurd (y.symm.trans z.2.2) (by decide))
        · have y : ¬ σ 61 0 (ad s a) = 0 := y
          have hp : pM (fun s => σ 61 0 s = 1) c s a := ⟨g, g2, (h01 _ (ad_lt s hs a ha)).resolve_left y⟩
          rw [← he, nxtN_y hp] at K
          exact K
    · have g := (has_mb s hs a ha).mp (bI_1.mp g)
      exact no (fun z => absurd (g.symm.trans z.1) (by decide))
theorem m_oa_lp {Q : tQ} {c j : Nat} (hj : j < 6) (hc : chS σ = c) (h01 : ∀ s, s < 64 → σ 61 0 s = 0 ∨ σ 61 0 s = 1) (hG : ∀ k, k ≤ j → gset (pM (fun s => σ 61 0 s = 1) c) k < 64 ∧ ∃ a, 0 ≤ a ∧ a < 0 + 6 ∧ pM (fun s => σ 61 0 s = 1) c (gset (pM (fun s => σ 61 0 s = 1) c) k) a) (hQ : Q (some (aI (nI (nxt (pM (fun s => σ 61 0 s = 1) c) (gset (pM (fun s => σ 61 0 s = 1) c) j))))) σ τ (rX t) cX lX) : ∀ (d k : Nat) (v : Int32), k + d = j + 1 → (∀ k', k = k' + 1 → v = nI (nxt (pM (fun s => σ 61 0 s = 1) c) (gset (pM (fun s => σ 61 0 s = 1) c) k'))) → am_G l 206 Q 0 0 52 [(4, aI (nI k)), (3, aI v), (2, aI (nI (gset (pM (fun s => σ 61 0 s = 1) c) k))), (1, aI (nI j)), (0, aR 12 0)] [] σ τ (rX t) cX lX
  | 0, k, v, h, hv => by
    obtain rfl : k = j + 1 := by omega
    rw [hv j rfl]
    refine am_vc_ok am_k206 [52] 100 ?_
    refine And.intro (fun _ => ?_) (fun h1 => absurd (nI_lt (by omega) (by omega)) h1)
    exact am_vI am_k206 am_r206 rfl hQ
  | d + 1, k, v, h, hv => by
    obtain ⟨g1, g2⟩ := hG k (by omega)
    have K2 := m_oa_lp hj hc h01 hG hQ d (k + 1) (nI (nxt (pM (fun s => σ 61 0 s = 1) c) (gset (pM (fun s => σ 61 0 s = 1) c) k))) (by omega) (fun k' e => by rw [show k' = k by omega])
    refine am_vc_ok am_k206 [52, 60] 100 ?_
    refine And.intro (fun h1 => absurd h1 (Int32.not_lt.mpr (nI_le (b := j) (by omega) (by omega)))) (fun _ => ?_)
    refine am_Gp (ls2 := [(3, aI (nI 0)), (2, aI (nI (gset (pM (fun s => σ 61 0 s = 1) c) k))), (4, aI (nI k)), (1, aI (nI j)), (0, aR 12 0)]) [0, 2, 1, 3, 4] rfl ?_
    have hn := (nxtN_ok 6 0 g2).2
    rw [Nat.zero_add] at hn
    refine m_oa_in g1 hc h01 ?_ 6 0 (by omega) g2 rfl
    rw [show gset (pM (fun s => σ 61 0 s = 1) c) (k + 1) = ad (gset (pM (fun s => σ 61 0 s = 1) c) k) (nxt (pM (fun s => σ 61 0 s = 1) c) (gset (pM (fun s => σ 61 0 s = 1) c) k)) from rfl, ← or_ad _ g1 _ hn, ← nI_1 k] at K2
    refine am_vc_ok am_k206 [52] 100 ?_
    exact am_Gp [0, 2, 1, 3, 4] rfl K2
end L41

/-! the model's orderAt, putIn; the class's barUnless, barSets -/
section L42
variable {l : Launch} {σ σ2 : tI} {τ τ2 : tL} {t : Option (Nat × Nat)}
theorem m_oa_bad {i : Int32} (hi : i < 0) : am_D l 206 [aR 12 0, aI i] σ τ (rX t) cX lX (some (aI (-1))) σ τ (rX t) := by
  refine am_D_of am_o206 am_l206 rfl ?_
  refine am_vc_ok am_k206 [] 100 ?_
  refine And.intro (fun g => absurd hi (Int32.not_lt.mpr g)) (fun _ => ?_)
  exact am_vI am_k206 am_r206 rfl ⟨rfl, rfl, rfl, rfl, rfl, rfl⟩
theorem m_oa_no {i : Int32} (hi : 0 ≤ i) (hD : DrOK σ) (h0 : ¬ fitS σ 0) : am_D l 206 [aR 12 0, aI i] σ τ (rX t) cX lX (some (aI (-4))) σ τ (rX t) := by
  refine am_D_of am_o206 am_l206 rfl ?_
  refine am_vc_ok am_k206 [] 100 ?_
  refine And.intro (fun _ => ?_) (fun g => absurd hi g)
  refine am_vO am_k206 am_h206 rfl rfl rfl rfl (m_allFit (s := 0) (by decide) hD) ?_
  refine am_vc_ok am_k206 [] 100 ?_
  refine And.intro (fun _ => ?_) (fun e => absurd (cI_n0.mp e) h0)
  exact am_vI am_k206 am_r206 rfl ⟨rfl, rfl, rfl, rfl, rfl, rfl⟩
abbrev oaI (s2 : tI) (c : Nat) (i : Int32) : Prop := s2 61 0 0 = 1 ∧ i < nI (pc c)
theorem m_oa {i : Int32} (hi : 0 ≤ i) (hD : DrOK σ) (h0 : fitS σ 0) : am_T l 206 [aR 12 0, aI i] σ τ t (fun r s3 τ2 t2 => τ2 = τ ∧ t2 = t ∧ soQ σ s3 ∧ r = some (aI (if oaI s3 (chS σ) i then nI (nxt (pM (fun s => s3 61 0 s = 1) (chS σ)) (gset (pM (fun s => s3 61 0 s = 1) (chS σ)) i.toNatClampNeg)) else -9))) := by
  refine am_T_of am_o206 am_l206 rfl ?_
  refine am_vc_ok am_k206 [52] 100 ?_
  refine And.intro (fun _ => ?_) (fun g => absurd hi g)
  refine am_vO am_k206 am_h206 rfl rfl rfl rfl (m_allFit (s := 0) (by decide) hD) ?_
  refine am_vc_ok am_k206 [52] 100 ?_
  refine And.intro (fun e => absurd h0 (cI_0.mp e)) (fun _ => ?_)
  refine am_vOT am_k206 am_h206 rfl rfl rfl rfl (m_setOrders hD) ?_
  rintro r s2 τ2 t2 ⟨rfl, rfl, rfl, hQ⟩
  refine am_vc_ok am_k206 [52] 100 ?_
  refine And.intro (vp_in_nI (N := 64) (show 0 < 64 by decide) (by decide)) ?_
  refine And.intro (fun e => ?_) (fun e => ?_)
  · have e : s2 61 0 0 = 0 := e
    refine am_vI am_k206 am_r206 rfl ⟨t2, rfl, rfl, rfl, rfl, rfl, hQ, ?_⟩
    rw [if_neg (fun z => absurd (e.symm.trans z.1) (by decide))]
  · have e : ¬ s2 61 0 0 = 0 := e
    have e1 := ((hQ.2.1 0 (by decide)).2).resolve_left e
    have hch := m_changed (l := l) (σ := s2) (τ := τ2) (t := t2)
    rw [hQ.ch] at hch
    refine am_vO am_k206 am_h206 rfl rfl rfl rfl (hch) ?_
    refine am_vc_ok am_k206 [52] 100 ?_
    refine am_vS am_k206 am_h206 rfl rfl rfl rfl (m_bits chS_lt) ?_
    refine am_vc_ok am_k206 [52] 100 ?_
    refine And.intro (fun g => ?_) (fun g => ?_)
    · have g : i < nI (pc (chS σ)) := g
      have p6 := pc_6 (chS σ) chS_lt
      obtain ⟨j, hj, rfl⟩ := ix_lt (nI_toInt (by omega)) ⟨hi, g⟩
      have hc64 : chS σ < 64 := chS_lt
      have hL := hQ.2.2.2
      refine am_Gp (ls2 := [(4, aI (nI 0)), (3, aI (-9)), (2, aI (nI (gset (pM (fun s => s2 61 0 s = 1) (chS σ)) 0))), (1, aI (nI j)), (0, aR 12 0)]) [0, 1, 2, 4, 3] rfl ?_
      refine m_oa_lp (by omega) hQ.ch (fun s hs => (hQ.2.1 s hs).2) (fun k hk => ?_) ?_ (j + 1) 0 _ (by omega) (fun k' hk => absurd hk (by omega))
      · obtain ⟨g1, g2, g3⟩ := gs_inv hL e1 k (by omega)
        exact ⟨g1, gs_ex hL g1 g2 (by omega)⟩
      · refine ⟨t2, rfl, rfl, rfl, rfl, rfl, hQ, ?_⟩
        rw [if_pos ⟨e1, g⟩, nI_clamp (by omega)]
    · have g : ¬ i < nI (pc (chS σ)) := g
      refine am_vI am_k206 am_r206 rfl ⟨t2, rfl, rfl, rfl, rfl, rfl, hQ, ?_⟩
      rw [if_neg (fun z => g z.2)]
theorem m_putIn_bad {a : Int32} (ha : ¬ (0 ≤ a ∧ a ≤ 5)) : am_D l 207 [aR 12 0, aI a] σ τ (rX t) cX lX (some (aI (-1))) σ τ (rX t) := by
  refine am_D_of am_o207 am_l207 rfl ?_
  refine am_vc_ok am_k207 [] 100 ?_
  refine am_vS am_k207 am_h207 rfl rfl rfl rfl (m_isSix) ?_
  refine am_vc_ok am_k207 [] 100 ?_
  refine And.intro (fun h => ?_) (fun h => ?_)
  · exact am_vI am_k207 am_r207 rfl ⟨rfl, rfl, rfl, rfl, rfl, rfl⟩
  · exact absurd (bI_1.mp h) ha
theorem p2_lt : ∀ a, a < 6 → 2 ^ a < 64 := by decide +kernel
theorem m_putIn_no {a : Nat} (ha : a < 6) (hD : DrOK σ) (h0 : ¬ fitS σ (2 ^ a)) : am_D l 207 [aR 12 0, aI (nI a)] σ τ (rX t) cX lX (some (aI (-4))) σ τ (rX t) := by
  have hA := m_allFit (l := l) (τ := τ) (t := t) (p2_lt a ha) hD
  rw [← shl_2 a ha] at hA
  refine am_D_of am_o207 am_l207 rfl ?_
  refine am_vc_ok am_k207 [] 100 ?_
  refine am_vS am_k207 am_h207 rfl rfl rfl rfl (m_isSix) ?_
  refine am_vc_ok am_k207 [] 100 ?_
  refine And.intro (fun g => absurd (in5 ha) (bI_0.mp g)) (fun _ => ?_)
  refine am_vO am_k207 am_h207 rfl rfl rfl rfl (hA) ?_
  refine am_vc_ok am_k207 [] 100 ?_
  refine And.intro (fun _ => ?_) (fun e => absurd (cI_n0.mp e) h0)
  exact am_vI am_k207 am_r207 rfl ⟨rfl, rfl, rfl, rfl, rfl, rfl⟩
theorem m_putIn {a : Nat} (ha : a < 6) (hD : DrOK σ) (h0 : fitS σ (2 ^ a)) : am_D l 207 [aR 12 0, aI (nI a)] σ τ (rX t) cX lX (some (aI 1)) (u3 σ 57 0 a (σ 58 0 a)) τ (rX t) := by
  have hA := m_allFit (l := l) (τ := τ) (t := t) (p2_lt a ha) hD
  rw [← shl_2 a ha] at hA
  refine am_D_of am_o207 am_l207 rfl ?_
  refine am_vc_ok am_k207 [] 100 ?_
  refine am_vS am_k207 am_h207 rfl rfl rfl rfl (m_isSix) ?_
  refine am_vc_ok am_k207 [] 100 ?_
  refine And.intro (fun g => absurd (in5 ha) (bI_0.mp g)) (fun _ => ?_)
  refine am_vO am_k207 am_h207 rfl rfl rfl rfl (hA) ?_
  refine am_vc_ok am_k207 [] 100 ?_
  refine And.intro (fun e => absurd h0 (cI_0.mp e)) (fun _ => ?_)
  refine And.intro (vp_in_nI (N := 6) ha (by decide)) ?_
  rw [nI_clamp (n := a) (by omega)]
  refine And.intro (vp_in_nI (N := 6) ha (by decide)) ?_
  rw [nI_clamp (n := a) (by omega)]
  exact am_vI am_k207 am_r207 rfl ⟨rfl, rfl, rfl, rfl, rfl, rfl⟩
/-- allFit of the class is A, and nothing else has changed -/
def afP (σ σ' : tI) (A : Nat → Prop) : Prop := (∀ q, q ≠ 27 → σ' q = σ q) ∧ ∀ s, s < 64 → σ' 27 0 s = cI (A s)
theorem afP.cg {σ' : tI} {A B : Nat → Prop} (h : afP σ σ' A) (hAB : ∀ s, s < 64 → (A s ↔ B s)) : afP σ σ' B := ⟨h.1, fun s hs => (h.2 s hs).trans (cI_cg (hAB s hs))⟩
theorem afP.set {σ' : tI} {A B : Nat → Prop} {k : Nat} {v : Int32} (h : afP σ σ' A) (hk : v = cI (B k)) (hAB : ∀ s, s < 64 → s ≠ k → (A s ↔ B s)) : afP σ (u3 σ' 27 0 k v) B := by
  refine ⟨fun q hq => by rw [u3_kk _ _ hq]; exact h.1 q hq, fun s hs => ?_⟩
  by_cases e : s = k
  · rw [e, u3_eq]; exact hk
  · rw [u3_j _ _ e, h.2 s hs]; exact cI_cg (hAB s hs e)
theorem x_barU_lp {Q : tQ} {A : Nat → Prop} {bo p f a b : Int32} (K : ∀ σ', afP σ σ' (fun s => A s ∧ ¬ nI s &&& bo = p) → am_G l 48 Q 0 0 62 [(6, aI (nI 64)), (5, aI bo), (0, aR 5 0), (1, aI f), (2, aI a), (3, aI b), (4, aI p)] [] σ' τ (rX t) cX lX) : ∀ (d k : Nat) (σ' : tI), k + d = 64 → afP σ σ' (fun s => A s ∧ (s < k → ¬ nI s &&& bo = p)) → am_G l 48 Q 0 0 17 [(6, aI (nI k)), (5, aI bo), (0, aR 5 0), (1, aI f), (2, aI a), (3, aI b), (4, aI p)] [] σ' τ (rX t) cX lX
  | 0, k, σ', h, hP => by
    obtain rfl : k = 64 := by omega
    refine am_vc_ok am_k48 [17, 62] 100 ?_
    exact And.intro (fun _ => K σ' (hP.cg fun s hs => and_congr_right fun _ => ⟨fun z => z hs, fun z _ => z⟩)) (fun h1 => absurd (show (64 : Int32) ≤ nI 64 by decide) h1)
  | d + 1, k, σ', h, hP => by
    have hk : k < 64 := by omega
    have hv : σ' 27 0 k = cI (A k) := (hP.2 k hk).trans (cI_cg ⟨fun z => z.1, fun z => ⟨z, fun y => absurd y (by omega)⟩⟩)
    have fin : ∀ v : Int32, v = cI (A k ∧ ¬ nI k &&& bo = p) → am_G l 48 Q 0 0 17 [(6, aI (nI k + 1)), (5, aI bo), (0, aR 5 0), (1, aI f), (2, aI a), (3, aI b), (4, aI p)] [] (u3 σ' 27 0 k v) τ (rX t) cX lX := by
      intro v hv
      rw [show nI k + 1 = nI (k + 1) from nI_1 k]
      refine x_barU_lp K d (k + 1) _ (by omega) (hP.set (hv.trans (cI_cg (and_congr_right fun _ => ⟨fun z _ => z, fun z => z (by omega)⟩))) (fun s hs e => and_congr_right fun _ => ⟨fun z y => z (by omega), fun z y => z (by omega)⟩))
    refine am_vc_ok am_k48 [17, 62] 100 ?_
    refine And.intro (fun h1 => absurd h1 (nI_ge (b := 64) (by omega) (by decide))) (fun _ => ?_)
    refine And.intro (vp_in_nI (N := 64) hk (by decide)) ?_
    rw [nI_clamp (n := k) (by omega), hv]
    refine And.intro (fun e => ?_) (fun e => ?_)
    · have e := cI_0.mp e
      refine And.intro (⟨vp_in_nI (N := 64) hk (by decide), Or.inl rfl⟩) ?_
      rw [nI_clamp (n := k) (by omega)]
      exact fin 0 (cI_f (fun z => e z.1)).symm
    · have e := cI_n0.mp e
      refine And.intro (fun g => ?_) (fun g => ?_)
      · have g : nI k &&& bo = p := g
        refine And.intro (⟨vp_in_nI (N := 64) hk (by decide), Or.inl rfl⟩) ?_
        rw [nI_clamp (n := k) (by omega)]
        exact fin 0 (cI_f (fun z => z.2 g)).symm
      · have g : ¬ nI k &&& bo = p := g
        refine And.intro (⟨vp_in_nI (N := 64) hk (by decide), Or.inr rfl⟩) ?_
        rw [nI_clamp (n := k) (by omega)]
        exact fin 1 (cI_t ⟨e, g⟩).symm
theorem x_barU {A : Nat → Prop} {F : Prop} [Decidable F] {p : Int32} {a b : Nat} (hA : ∀ s, s < 64 → σ 27 0 s = cI (A s)) : am_T l 48 [aR 5 0, aI (bI F), aI (nI a), aI (nI b), aI p] σ τ t (fun r s2 τ2 t2 => r = none ∧ τ2 = τ ∧ t2 = t ∧ afP σ s2 (fun s => A s ∧ (F ∨ ¬ nI s &&& (((1 : Int32) <<< (nI a &&& 31)) ||| ((1 : Int32) <<< (nI b &&& 31))) = p))) := by
  refine am_T_of am_o48 am_l48 rfl ?_
  refine am_vc_ok am_k48 [17] 100 ?_
  refine And.intro (fun e => ?_) (fun e => ?_)
  · have e := bI_0.mp e
    refine am_Gp (ls2 := [(6, aI (nI 0)), (5, aI (((1 : Int32) <<< (nI a &&& 31)) ||| ((1 : Int32) <<< (nI b &&& 31)))), (0, aR 5 0), (1, aI (bI F)), (2, aI (nI a)), (3, aI (nI b)), (4, aI p)]) [0, 1, 2, 3, 4, 5, 6] rfl ?_
    refine x_barU_lp (A := A) ?_ 64 0 σ (by omega) ⟨fun _ _ => rfl, fun s hs => (hA s hs).trans (cI_cg ⟨fun z => ⟨z, fun y => absurd y (by omega)⟩, fun z => z.1⟩)⟩
    intro σ' hP
    refine am_vc_ok am_k48 [] 100 ?_
    refine am_vV am_k48 am_r48 rfl ⟨t, rfl, rfl, rfl, rfl, rfl, rfl, hP.cg fun s hs => and_congr_right fun _ => ⟨Or.inr, fun z => z.resolve_left e⟩⟩
  · have e := bI_1.mp e
    refine am_vV am_k48 am_r48 rfl ⟨t, rfl, rfl, rfl, rfl, rfl, rfl, fun _ _ => rfl, fun s hs => (hA s hs).trans (cI_cg ⟨fun z => ⟨z, Or.inl e⟩, fun z => z.1⟩)⟩
end L42

/-! the class's barSets, survey -/
section L43
variable {l : Launch} {σ σ2 : tI} {τ τ2 : tL} {t : Option (Nat × Nat)}
theorem Rshape.fr {σ2 : tI} {s : Nat} {S : aSh} (h : Rshape σ s S) (hk : ∀ k, kShapes k = true → σ2 k = σ k) : Rshape σ2 s S := by
  unfold Rshape XItems XIndex MItems at h ⊢
  rw [hk 9 rfl, hk 32 rfl, hk 33 rfl, hk 34 rfl, hk 35 rfl, hk 36 rfl, hk 37 rfl, hk 38 rfl, hk 49 rfl, hk 50 rfl]
  exact h
theorem fitP_k {f : tI} {s n : Nat} {x y : Int32} (h50 : f 50 = σ 50) (h49 : f 49 = σ 49) : fitP f s n x y = fitP σ s n x y := by
  unfold fitP badA nmd mA
  rw [h50]
abbrev sh1 (a : Nat) : Int32 := (1 : Int32) <<< (nI a &&& 31)
theorem bits41 : ∀ s, s < 64 → ∀ a, a < 6 → ∀ b, b < 6 → (nI s &&& (sh1 a ||| sh1 b) = 0 ↔ (mb s a = false ∧ mb s b = false)) := by decide +kernel
theorem bits42 : ∀ s, s < 64 → ∀ a, a < 6 → ∀ b, b < 6 → (a = b ∨ (nI s &&& (sh1 a ||| sh1 b) = sh1 a ↔ (mb s a = true ∧ mb s b = false))) := by decide +kernel
theorem bits43 : ∀ s, s < 64 → ∀ a, a < 6 → ∀ b, b < 6 → (a = b ∨ (nI s &&& (sh1 a ||| sh1 b) = sh1 b ↔ (mb s a = false ∧ mb s b = true))) := by decide +kernel
theorem bits44 : ∀ s, s < 64 → ∀ a, a < 6 → ∀ b, b < 6 → (nI s &&& (sh1 a ||| sh1 b) = sh1 a ||| sh1 b ↔ (mb s a = true ∧ mb s b = true)) := by decide +kernel
theorem four {G : Int32 → Int32 → Prop} {s a b : Nat} {x0 x1 y0 y1 : Int32} (hs : s < 64) (ha : a < 6) (hb : b < 6) (hab : a ≠ b) : ((G x0 y0 ∨ ¬ nI s &&& (sh1 a ||| sh1 b) = 0) ∧ (G x1 y0 ∨ ¬ nI s &&& (sh1 a ||| sh1 b) = sh1 a) ∧ (G x0 y1 ∨ ¬ nI s &&& (sh1 a ||| sh1 b) = sh1 b) ∧ (G x1 y1 ∨ ¬ nI s &&& (sh1 a ||| sh1 b) = sh1 a ||| sh1 b)) ↔ G (bif mb s a then x1 else x0) (bif mb s b then y1 else y0) := by
  have h1 := bits41 s hs a ha b hb
  have h2 := (bits42 s hs a ha b hb).resolve_left hab
  have h3 := (bits43 s hs a ha b hb).resolve_left hab
  have h4 := bits44 s hs a ha b hb
  rw [h1, h2, h3, h4]
  cases mb s a <;> cases mb s b <;> simp
theorem x_bf {σ' : tI} {A : Nat → Prop} {s x y : Nat} {S : aSh} (hP : afP σ σ' A) (hS : Rshape σ s S) (hx : x < 10) (hy : y < 10) : am_T l 86 [aR 9 (1 + s), aI (nI x), aI (nI y)] σ' τ t (fun r s2 τ2 t2 => r = some (aI (bI (fitP σ s (sN S) (nI x) (nI y)))) ∧ s2 = σ' ∧ τ2 = τ ∧ t2 = t) := by
  have h := x_bothFit (l := l) (τ := τ) (t := t) (hS.fr (σ2 := σ') (fun k hk => hP.1 k (kNe hk rfl))) hx hy
  refine am_T.mono h ?_
  rintro r s2 τ2 t2 ⟨rfl, rfl, rfl, rfl⟩
  refine ⟨?_, rfl, rfl, rfl⟩
  have e : fitP s2 s (sN S) (nI x) (nI y) = fitP σ s (sN S) (nI x) (nI y) := fitP_k (hP.1 50 (by decide)) (hP.1 49 (by decide))
  simp only [e]
theorem afP.tr {σ1 σ3 : tI} {A B : Nat → Prop} (h1 : afP σ σ1 A) (h2 : afP σ1 σ3 B) : afP σ σ3 B := ⟨fun q hq => (h2.1 q hq).trans (h1.1 q hq), h2.2⟩
theorem x_barSets {A : Nat → Prop} {s a b x0 x1 y0 y1 : Nat} {S : aSh} (hA : ∀ s, s < 64 → σ 27 0 s = cI (A s)) (hS : Rshape σ s S) (ha : a < 6) (hb : b < 6) (hab : a ≠ b) (hx0 : x0 < 10) (hx1 : x1 < 10) (hy0 : y0 < 10) (hy1 : y1 < 10) (e1 : σ 8 a 0 = nI x0) (e2 : σ 8 a 1 = nI x1) (e3 : σ 8 b 0 = nI y0) (e4 : σ 8 b 1 = nI y1) : am_T l 47 [aR 5 0, aR 9 (1 + s), aR 24 0, aI (nI a), aI (nI b)] σ τ t (fun r s2 τ2 t2 => r = none ∧ τ2 = τ ∧ t2 = t ∧ afP σ s2 (fun z => A z ∧ fitP σ s (sN S) (bif mb z a then nI x1 else nI x0) (bif mb z b then nI y1 else nI y0))) := by
  have h0 : afP σ σ A := ⟨fun _ _ => rfl, hA⟩
  have f1 := x_bf (l := l) (τ := τ) (t := t) h0 hS hx0 hy0
  rw [← e1, ← e3] at f1
  refine am_T_of am_o47 am_l47 rfl ?_
  refine am_vc_ok am_k47 [] 100 ?_
  refine And.intro (vp_in_nI (N := 6) ha (by decide)) ?_
  refine And.intro (vp_in_nI (N := 6) hb (by decide)) ?_
  rw [nI_clamp (n := a) (by omega), nI_clamp (n := b) (by omega)]
  refine am_vOT am_k47 am_h47 rfl rfl rfl rfl (f1) ?_
  rintro r s2 τ2 t2 ⟨rfl, rfl, rfl, rfl⟩
  refine am_vc_ok am_k47 [] 100 ?_
  refine am_vOT am_k47 am_h47 rfl rfl rfl rfl (x_barU (A := A) hA) ?_
  rintro r s1 τ2 t2 ⟨rfl, rfl, rfl, hP1⟩
  have h1 := h0.tr hP1
  have f2 := x_bf (l := l) (τ := τ2) (t := t2) h1 hS hx1 hy0
  rw [← e2, ← e3, ← h1.1 8 (by decide)] at f2
  refine am_vc_ok am_k47 [] 100 ?_
  refine am_vOT am_k47 am_h47 rfl rfl rfl rfl (f2) ?_
  rintro r s3 τ2 t2 ⟨rfl, rfl, rfl, rfl⟩
  refine am_vc_ok am_k47 [] 100 ?_
  refine am_vOT am_k47 am_h47 rfl rfl rfl rfl (x_barU hP1.2) ?_
  rintro r s4 τ2 t2 ⟨rfl, rfl, rfl, hP2⟩
  have h2 := h1.tr hP2
  have f3 := x_bf (l := l) (τ := τ2) (t := t2) h2 hS hx0 hy1
  rw [← e1, ← e4, ← h2.1 8 (by decide)] at f3
  refine am_vc_ok am_k47 [] 100 ?_
  refine am_vOT am_k47 am_h47 rfl rfl rfl rfl (f3) ?_
  rintro r s5 τ2 t2 ⟨rfl, rfl, rfl, rfl⟩
  refine am_vc_ok am_k47 [] 100 ?_
  refine am_vOT am_k47 am_h47 rfl rfl rfl rfl (x_barU hP2.2) ?_
  rintro r s6 τ2 t2 ⟨rfl, rfl, rfl, hP3⟩
  have h3 := h2.tr hP3
  have f4 := x_bf (l := l) (τ := τ2) (t := t2) h3 hS hx1 hy1
  rw [← e2, ← e4, ← h3.1 8 (by decide)] at f4
  refine am_vc_ok am_k47 [] 100 ?_
  refine am_vOT am_k47 am_h47 rfl rfl rfl rfl (f4) ?_
  rintro r s7 τ2 t2 ⟨rfl, rfl, rfl, rfl⟩
  refine am_vc_ok am_k47 [] 100 ?_
  refine am_vOT am_k47 am_h47 rfl rfl rfl rfl (x_barU hP3.2) ?_
  rintro r s8 τ2 t2 ⟨rfl, rfl, rfl, hP4⟩
  have h4 := h3.tr hP4
  refine am_vc_ok am_k47 [] 100 ?_
  refine am_vV am_k47 am_r47 rfl ⟨t2, rfl, rfl, rfl, rfl, rfl, rfl, h4.cg fun z hz => ?_⟩
  rw [h1.1 8 (by decide), h2.1 8 (by decide), h3.1 8 (by decide), e1, e2, e3, e4, ← four (G := fitP s2 s (sN S)) (x0 := nI x0) (x1 := nI x1) (y0 := nI y0) (y1 := nI y1) hz ha hb hab]
  simp only [and_assoc]
end L43
