/-! sets of services as bits; orders in which they are put to new versions (nothing of the machine here) -/
section L37
abbrev mb (s a : Nat) : Bool := Nat.testBit s a
def ad (s a : Nat) : Nat := s ||| 2 ^ a
def dl (s a : Nat) : Nat := bif mb s a then s - 2 ^ a else s
def pc (s : Nat) : Nat := (mb s 0).toNat + (mb s 1).toNat + (mb s 2).toNat + (mb s 3).toNat + (mb s 4).toNat + (mb s 5).toNat
theorem ad_lt : ∀ s, s < 64 → ∀ a, a < 6 → ad s a < 64 := by decide +kernel
theorem ad_mb : ∀ s, s < 64 → ∀ a, a < 6 → ∀ x, x < 6 → mb (ad s a) x = (mb s x || Nat.beq x a) := by decide +kernel
theorem dl_lt : ∀ s, s < 64 → ∀ a, a < 6 → mb s a = true → dl s a < s := by decide +kernel
theorem dl_mb : ∀ s, s < 64 → ∀ a, a < 6 → ∀ x, x < 6 → mb (dl s a) x = (mb s x && !Nat.beq x a) := by decide +kernel
theorem ad_dl : ∀ s, s < 64 → ∀ a, a < 6 → mb s a = true → ad (dl s a) a = s := by decide +kernel
theorem dl_ad : ∀ s, s < 64 → ∀ a, a < 6 → mb s a = false → dl (ad s a) a = s := by decide +kernel
theorem ad_gt : ∀ s, s < 64 → ∀ a, a < 6 → mb s a = false → s < ad s a := by decide +kernel
theorem pc_ad : ∀ s, s < 64 → ∀ a, a < 6 → mb s a = false → pc (ad s a) = pc s + 1 := by decide +kernel
theorem pc_6 : ∀ s, s < 64 → pc s ≤ 6 := by decide +kernel
theorem pc_63 : ∀ s, s < 64 → pc s = 6 → s = 63 := by decide +kernel
theorem mb_63 : ∀ s, s < 64 → (∀ x, x < 6 → mb 63 x = true → mb s x = true) → s = 63 := by decide +kernel
theorem mb_ext : ∀ s, s < 64 → ∀ t, t < 64 → (∀ x, x < 6 → mb s x = mb t x) → s = t := by decide +kernel
theorem dl_l64 {s a : Nat} (h : s < 64) : dl s a < 64 := by
  unfold dl
  cases mb s a
  · exact h
  · exact Nat.lt_of_le_of_lt (Nat.sub_le _ _) h
theorem ad_self {s a : Nat} (hs : s < 64) (ha : a < 6) : mb (ad s a) a = true := by rw [ad_mb s hs a ha a ha]; simp
theorem ad_ne {s a x : Nat} (hs : s < 64) (ha : a < 6) (hx : x < 6) (h : x ≠ a) : mb (ad s a) x = mb s x := by
  rw [ad_mb s hs a ha x hx]
  have e : Nat.beq x a = false := by cases hh : Nat.beq x a with | false => rfl | true => exact absurd (Nat.eq_of_beq_eq_true hh) h
  rw [e, Bool.or_false]
theorem ad_comm {s a b : Nat} (hs : s < 64) (ha : a < 6) (hb : b < 6) : ad (ad s a) b = ad (ad s b) a := by
  refine mb_ext _ (ad_lt _ (ad_lt s hs a ha) b hb) _ (ad_lt _ (ad_lt s hs b hb) a ha) (fun x hx => ?_)
  rw [ad_mb _ (ad_lt s hs a ha) b hb x hx, ad_mb _ (ad_lt s hs b hb) a ha x hx, ad_mb s hs a ha x hx, ad_mb s hs b hb x hx, Bool.or_assoc, Bool.or_assoc, Bool.or_comm (Nat.beq x a)]
/-- the version of a in set s -/
def vv (V0 V1 : Nat → Int32) (s a : Nat) : Int32 := bif mb s a then V1 a else V0 a
/-- all pairs fit in set s -/
def FT (W : Nat → Int32 → Int32 → Prop) (V0 V1 : Nat → Int32) (s : Nat) : Prop := ∀ k, k < 36 → W k (vv V0 V1 s (k / 6)) (vv V0 V1 s (k % 6))
def sub (s c : Nat) : Prop := ∀ x, x < 6 → mb s x = true → mb c x = true
variable {W : Nat → Int32 → Int32 → Prop} {V0 V1 : Nat → Int32}
theorem FT.ex {S S0 a c : Nat} (hS : S < 64) (hS0 : S0 < 64) (ha : a < 6) (h0 : sub S0 S) (hc : sub S c) (hca : mb c a = true) (f1 : FT W V0 V1 S) (f2 : FT W V0 V1 (ad S0 a)) (f3 : FT W V0 V1 c) : FT W V0 V1 (ad S a) := by
  intro k hk
  have v1 : ∀ x, x < 6 → x ≠ a → vv V0 V1 (ad S a) x = vv V0 V1 S x := fun x hx h => by unfold vv; rw [ad_ne hS ha hx h]
  have va : ∀ s, mb s a = true → vv V0 V1 s a = V1 a := fun s h => by unfold vv; rw [h]; rfl
  have v2 : ∀ x, x < 6 → mb S x = true → vv V0 V1 (ad S a) x = vv V0 V1 c x := fun x hx h => by
    unfold vv
    rw [hc x hx h, ad_mb S hS a ha x hx, h]
    rfl
  have v3 : ∀ x, x < 6 → x ≠ a → ¬ mb S x = true → vv V0 V1 (ad S a) x = vv V0 V1 (ad S0 a) x := fun x hx h h2 => by
    unfold vv
    rw [ad_ne hS ha hx h, ad_ne hS0 ha hx h]
    have e1 : mb S x = false := Bool.eq_false_iff.mpr h2
    have e2 : mb S0 x = false := Bool.eq_false_iff.mpr (fun z => h2 (h0 x hx z))
    rw [e1, e2]
  have va2 : vv V0 V1 (ad S a) a = vv V0 V1 c a := (va _ (ad_self hS ha)).trans (va _ hca).symm
  have va3 : vv V0 V1 (ad S a) a = vv V0 V1 (ad S0 a) a := (va _ (ad_self hS ha)).trans (va _ (ad_self hS0 ha)).symm
  have hx : k / 6 < 6 := by omega
  have hy : k % 6 < 6 := by omega
  by_cases ex : k / 6 = a
  · by_cases ey : k % 6 = a
    · rw [ex, ey, va2]
      have z := f3 k hk
      rw [ex, ey] at z
      exact z
    · by_cases m : mb S (k % 6) = true
      · rw [ex, v2 _ hy m, va2]
        have z := f3 k hk
        rw [ex] at z
        exact z
      · rw [ex, v3 _ hy ey m, va3]
        have z := f2 k hk
        rw [ex] at z
        exact z
  · by_cases ey : k % 6 = a
    · by_cases m : mb S (k / 6) = true
      · rw [ey, v2 _ hx m, va2]
        have z := f3 k hk
        rw [ey] at z
        exact z
      · rw [ey, v3 _ hx ex m, va3]
        have z := f2 k hk
        rw [ey] at z
        exact z
    · rw [v1 _ hx ex, v1 _ hy ey]
      exact f1 k hk
def FS (W : Nat → Int32 → Int32 → Prop) (V0 V1 : Nat → Int32) (c s : Nat) : Prop := sub s c ∧ FT W V0 V1 s
/-- sets that are come to from none -/
def CMr (F r : Nat → Prop) : Prop := ∀ s, s < 64 → (r s ↔ F s ∧ (s = 0 ∨ ∃ a, a < 6 ∧ mb s a = true ∧ r (dl s a)))
/-- of these, those that lead on to c -/
def LDr (r ld : Nat → Prop) (c : Nat) : Prop := ∀ s, s < 64 → (ld s ↔ r s ∧ (s = c ∨ ∃ a, a < 6 ∧ mb s a = false ∧ mb c a = true ∧ ld (ad s a)))
theorem CMr.u {F r r2 : Nat → Prop} (h : CMr F r) (h2 : CMr F r2) : ∀ n s, s < n → s < 64 → (r s ↔ r2 s)
  | 0, s, hn, _ => absurd hn (by omega)
  | n + 1, s, hn, hs => by
    rw [h s hs, h2 s hs]
    refine and_congr_right (fun _ => or_congr_right (exists_congr fun a => and_congr_right fun ha => and_congr_right fun hm => ?_))
    have := dl_lt s hs a ha hm
    exact CMr.u h h2 n (dl s a) (by omega) (by omega)
variable {F r ld : Nat → Prop} {c : Nat}
theorem LDr.down (h : CMr F r) (hL : LDr r ld c) (hF : ∀ s, F s → sub s c) : ∀ n s, s < n → s < 64 → ld s → ld 0
  | 0, s, hn, _, _ => absurd hn (by omega)
  | n + 1, s, hn, hs, hl => by
    by_cases h0 : s = 0
    · rw [← h0]; exact hl
    · have hr := ((hL s hs).mp hl).1
      obtain ⟨hf, hz | ⟨a, ha, hm, hr2⟩⟩ := (h s hs).mp hr
      · exact absurd hz h0
      · have hlt := dl_lt s hs a ha hm
        refine LDr.down h hL hF n (dl s a) (by omega) (by omega) ?_
        refine (hL _ (by omega)).mpr ⟨hr2, Or.inr ⟨a, ha, ?_, hF s hf a ha hm, ?_⟩⟩
        · rw [dl_mb s hs a ha a ha]; simp
        · rw [ad_dl s hs a ha hm]; exact hl
theorem LDr.up (hL : LDr r ld c) : ∀ n s, 64 ≤ s + n → s < 64 → ld s → r c
  | 0, s, hn, hs, _ => absurd hn (by omega)
  | n + 1, s, hn, hs, hl => by
    obtain ⟨h1, h2 | ⟨a, ha, hm, -, h3⟩⟩ := (hL s hs).mp hl
    · rw [← h2]; exact h1
    · have := ad_gt s hs a ha hm
      exact LDr.up hL n (ad s a) (by omega) (ad_lt s hs a ha) h3
theorem LDr.zero (h : CMr F r) (hL : LDr r ld c) (hc : c < 64) (hF : ∀ s, F s → sub s c) : ld 0 ↔ r c := by
  constructor
  · exact hL.up 64 0 (by omega) (by omega)
  · intro hr
    exact hL.down h hF 64 c (by omega) hc ((hL c hc).mpr ⟨hr, Or.inl rfl⟩)
theorem CMr.plus (h : CMr F r) {s a : Nat} (hs : s < 64) (ha : a < 6) (hm : mb s a = false) (hr : r s) (hf : F (ad s a)) : r (ad s a) := by
  refine (h _ (ad_lt s hs a ha)).mpr ⟨hf, Or.inr ⟨a, ha, ad_self hs ha, ?_⟩⟩
  rw [dl_ad s hs a ha hm]
  exact hr
/-- the exchange: what fits now may be put in first -/
theorem LDr.ex {S0 a : Nat} (h : CMr (FS W V0 V1 c) r) (hL : LDr r ld c) (hc : c < 64) (hS0 : S0 < 64) (ha : a < 6) (hf : FS W V0 V1 c (ad S0 a)) (hrc : r c) : ∀ n S, 64 ≤ S + n → S < 64 → sub S0 S → mb S a = false → ld S → r (ad S a) → ld (ad S a)
  | 0, S, hn, hS, _, _, _, _ => absurd hn (by omega)
  | n + 1, S, hn, hS, hsub, hm, hl, hr => by
    have hca : mb c a = true := hf.1 a ha (ad_self hS0 ha)
    obtain ⟨h1, h2 | ⟨b, hb, hmb, hcb, h3⟩⟩ := (hL S hS).mp hl
    · rw [← h2, hm] at hca
      cases hca
    · by_cases hab : b = a
      · rw [← hab]; exact h3
      · have hS2 := ad_lt S hS b hb
        have hlt := ad_gt S hS b hb hmb
        have hm2 : mb (ad S b) a = false := by rw [ad_ne hS hb ha (fun z => hab z.symm)]; exact hm
        have hrb := ((hL _ hS2).mp h3).1
        have hfb := ((h _ hS2).mp hrb).1
        have hsub2 : sub S0 (ad S b) := fun x hx z => by
          rw [ad_mb S hS b hb x hx, hsub x hx z]
          rfl
        have hfx : FT W V0 V1 (ad (ad S b) a) := FT.ex hS2 hS0 ha hsub2 hfb.1 hca hfb.2 hf.2 ((h c hc).mp hrc).1.2
        have hsx : sub (ad (ad S b) a) c := fun x hx z => by
          by_cases hxa : x = a
          · rw [hxa]; exact hca
          · rw [ad_ne hS2 ha hx hxa] at z
            exact hfb.1 x hx z
        have hr2 : r (ad (ad S b) a) := by
          have e := ad_comm hS hb ha
          have hm3 : mb (ad S a) b = false := by rw [ad_ne hS ha hb hab]; exact hmb
          rw [e]
          refine h.plus (ad_lt S hS a ha) hb hm3 hr ?_
          rw [← e]
          exact ⟨hsx, hfx⟩
        have hl2 := LDr.ex h hL hc hS0 ha hf hrc n (ad S b) (by omega) hS2 hsub2 hm2 h3 hr2
        refine (hL _ (ad_lt S hS a ha)).mpr ⟨hr, Or.inr ⟨b, hb, ?_, hcb, ?_⟩⟩
        · rw [ad_ne hS ha hb hab]; exact hmb
        · rw [ad_comm hS ha hb]; exact hl2
/-- what leads on is just what fits -/
theorem LDr.fit {S a : Nat} (h : CMr (FS W V0 V1 c) r) (hL : LDr r ld c) (hc : c < 64) (hS : S < 64) (ha : a < 6) (hm : mb S a = false) (hl : ld S) : FS W V0 V1 c (ad S a) ↔ (mb c a = true ∧ ld (ad S a)) := by
  constructor
  · intro hf
    have hr := ((hL S hS).mp hl).1
    exact ⟨hf.1 a ha (ad_self hS ha), hL.ex h hc hS ha hf (hL.up 64 S (by omega) hS hl) 64 S (by omega) hS (fun _ _ z => z) hm hl (h.plus hS ha hm hr hf)⟩
  · rintro ⟨-, hl2⟩
    exact ((h _ (ad_lt S hS a ha)).mp ((hL _ (ad_lt S hS a ha)).mp hl2).1).1
end L37
