/-! ticks: broken lines -/
section L89
variable {l : Launch} {σ σ2 s s0 s1 A A0 A1 A2 : tI} {τ τ2 : tL} {t : Option (Nat × Nat)} {T n m lo k c : Nat}
theorem cntN_up {p : Nat → Bool} {n : Nat} : cntN p n ≤ cntN p (n + 1) := Nat.le_add_right _ _
def lineI (a b : Int32) : Int32 := if b ≤ a then 6 * b + a else 6 * a + b
theorem x_lineI {a b : Int32} : am_D l 12 [aI a, aI b] s τ (rX t) cX lX (some (aI (lineI a b))) s τ (rX t) := by
  refine am_D_of am_o12 am_l12 rfl ?_
  refine am_vc_ok am_k12 [] 100 ?_
  refine am_vMin am_k12 am_h12 rfl rfl ?_
  refine am_vc_ok am_k12 [] 100 ?_
  refine am_vMax am_k12 am_h12 rfl rfl ?_
  refine am_vc_ok am_k12 [] 100 ?_
  refine am_vI am_k12 am_r12 rfl ⟨?_, rfl, rfl, rfl, rfl, rfl⟩
  unfold lineI
  by_cases h : b ≤ a
  · rw [if_pos h]
    by_cases h2 : b < a
    · rw [if_pos h2, if_neg (fun z => Int32.lt_irrefl (Int32.lt_trans z h2)), Int32.mul_comm]
    · have e : a = b := Int32.le_antisymm (Int32.not_lt.mp h2) h
      subst e
      rw [if_neg h2, Int32.mul_comm]
  · have h3 : a < b := Int32.not_le.mp h
    rw [if_neg h, if_neg (fun z => Int32.lt_irrefl (Int32.lt_trans z h3)), if_pos h3, Int32.mul_comm]
theorem m_lineI {a b : Int32} : am_D l 213 [aI a, aI b] s τ (rX t) cX lX (some (aI (lineI a b))) s τ (rX t) := by
  unfold lineI
  refine am_D_of am_o213 am_l213 rfl ?_
  refine am_vc_ok am_k213 [] 100 ?_
  refine And.intro (fun h => ?_) (fun h => ?_)
  · have h : b ≤ a := h
    rw [if_pos h]
    exact am_vI am_k213 am_r213 rfl ⟨rfl, rfl, rfl, rfl, rfl, rfl⟩
  · have h : ¬ b ≤ a := h
    rw [if_neg h]
    exact am_vI am_k213 am_r213 rfl ⟨rfl, rfl, rfl, rfl, rfl, rfl⟩
/-- breaks that cut line g at tick T: class, model -/
abbrev bkX (s : tI) (g T : Int32) (k : Nat) : Nat := cntN (fun i => decide (s 21 0 i = g ∧ s 22 0 i ≤ T ∧ T ≤ s 23 0 i)) k
abbrev bkM (s : tI) (g T : Int32) (k : Nat) : Nat := cntN (fun i => decide (s 91 0 i = g ∧ s 92 0 i ≤ T ∧ T ≤ s 93 0 i)) k
theorem x_brk_loop {Q : tQ} {g T a b : Int32} (hk : s 2 0 0 = nI k) (hk2 : k ≤ 20) (K1 : ¬ bkX s g T k = 0 → Q (some (aI 1)) s τ (rX t) cX lX) (K0 : bkX s g T k = 0 → Q (some (aI 0)) s τ (rX t) cX lX) : ∀ (d i : Nat), i + d = k → bkX s g T i = 0 → am_G l 11 Q 0 0 10 [(5, aI (nI i)), (4, aI g), (0, aR 2 0), (1, aI a), (2, aI b), (3, aI T)] [] s τ (rX t) cX lX
  | 0, i, h, h0 => by
    obtain rfl : i = k := by omega
    refine am_vc_ok am_k11 [] 100 ?_
    refine And.intro (fun _ => ?_) (fun g => absurd (by rw [hk]; exact Int32.le_refl _) g)
    refine am_vZ am_k11 am_r11 rfl (Or.inl rfl) (K0 h0)
  | d + 1, i, h, h0 => by
    have KN : ¬ (s 21 0 i = g ∧ s 22 0 i ≤ T ∧ T ≤ s 23 0 i) → am_G l 11 Q 0 0 10 [(5, aI (nI i + 1)), (4, aI g), (0, aR 2 0), (1, aI a), (2, aI b), (3, aI T)] [] s τ (rX t) cX lX := by
      intro z
      have K := x_brk_loop (a := a) (b := b) hk hk2 K1 K0 d (i + 1) (by omega) (by unfold bkX; rw [cntN_0 (by simpa using z)]; exact h0)
      rw [← nI_1] at K
      exact K
    refine am_vc_ok am_k11 [10] 100 ?_
    refine And.intro (fun g => absurd (show nI k ≤ nI i by rw [← hk]; exact g) (nI_ge (b := k) (by omega) (by omega))) (fun _ => ?_)
    refine And.intro (vp_in_nI (N := 20) (show i < 20 by omega) (by decide)) ?_
    rw [nI_clamp (n := i) (by omega)]
    refine And.intro (fun z1 => ?_) (fun z1 => KN (fun z => z1 z.1))
    refine And.intro (vp_in_nI (N := 20) (show i < 20 by omega) (by decide)) ?_
    rw [nI_clamp (n := i) (by omega)]
    refine And.intro (fun z2 => KN (fun z => absurd z.2.1 (Int32.not_le.mpr z2))) (fun z2 => ?_)
    refine And.intro (vp_in_nI (N := 20) (show i < 20 by omega) (by decide)) ?_
    rw [nI_clamp (n := i) (by omega)]
    refine And.intro (fun z3 => KN (fun z => absurd z.2.2 (Int32.not_le.mpr z3))) (fun z3 => ?_)
    have z1 : s 21 0 i = g := z1
    have z2 : s 22 0 i ≤ T := Int32.not_lt.mp z2
    have z3 : T ≤ s 23 0 i := Int32.not_lt.mp z3
    refine am_vZ am_k11 am_r11 rfl (Or.inr rfl) (K1 (fun e => ?_))
    have := cntN_none e i (by omega)
    simp [z1, z2, z3] at this
theorem x_isBroken {a b T : Int32} (hk : s 2 0 0 = nI k) (hk2 : k ≤ 20) : am_D l 11 [aR 2 0, aI a, aI b, aI T] s τ (rX t) cX lX (some (aI (bI (¬ bkX s (lineI a b) T k = 0)))) s τ (rX t) := by
  refine am_D_of am_o11 am_l11 rfl ?_
  refine am_vc_ok am_k11 [10] 100 ?_
  refine am_vS am_k11 am_h11 rfl rfl rfl rfl (x_lineI) ?_
  refine am_vc_ok am_k11 [10] 100 ?_
  refine x_brk_loop hk hk2 (fun h => ?_) (fun h => ?_) k 0 (by omega) rfl
  · exact ⟨by rw [bI_t h], rfl, rfl, rfl, rfl, rfl⟩
  · exact ⟨by rw [bI_f (fun z => z h)], rfl, rfl, rfl, rfl, rfl⟩
theorem m_brk_loop {Q : tQ} {a b : Int32} (hk : s 12 0 64 = nI k) (hk2 : k ≤ 20) (K : am_G l 216 Q 0 0 69 [(4, aI (nI k)), (3, aI (if bkM s (lineI a b) (s 12 0 5) k = 0 then 0 else 1)), (0, aR 12 0), (1, aI a), (2, aI b)] [] s τ (rX t) cX lX) : ∀ (d i : Nat), i + d = k → am_G l 216 Q 0 0 5 [(4, aI (nI i)), (3, aI (if bkM s (lineI a b) (s 12 0 5) i = 0 then 0 else 1)), (0, aR 12 0), (1, aI a), (2, aI b)] [] s τ (rX t) cX lX
  | 0, i, h => by
    obtain rfl : i = k := by omega
    refine am_vc_ok am_k216 [5, 69] 100 ?_
    exact And.intro (fun _ => K) (fun g => absurd (by rw [hk]; exact Int32.le_refl _) g)
  | d + 1, i, h => by
    have K2 := m_brk_loop hk hk2 K d (i + 1) (by omega)
    rw [← nI_1] at K2
    refine am_vc_ok am_k216 [5, 69] 100 ?_
    refine And.intro (fun g => absurd (show nI k ≤ nI i by rw [← hk]; exact g) (nI_ge (b := k) (by omega) (by omega))) (fun _ => ?_)
    by_cases y : bkM s (lineI a b) (s 12 0 5) i = 0
    · have KN : ¬ (s 91 0 i = lineI a b ∧ s 92 0 i ≤ s 12 0 5 ∧ s 12 0 5 ≤ s 93 0 i) → am_G l 216 Q 0 0 5 [(4, aI (nI i + 1)), (3, aI 0), (0, aR 12 0), (1, aI a), (2, aI b)] [] s τ (rX t) cX lX := by
        intro z
        rw [if_pos (show bkM s (lineI a b) (s 12 0 5) (i + 1) = 0 by unfold bkM; rw [cntN_0 (by simpa using z)]; exact y)] at K2
        exact K2
      rw [if_pos y]
      refine And.intro (fun _ => ?_) (fun g => absurd rfl g)
      refine And.intro (vp_in_nI (N := 20) (show i < 20 by omega) (by decide)) ?_
      rw [nI_clamp (n := i) (by omega)]
      refine am_vS am_k216 am_h216 rfl rfl rfl rfl (m_lineI) ?_
      refine am_vc_ok am_k216 [5, 69] 100 ?_
      refine And.intro (fun z1 => ?_) (fun z1 => KN (fun z => z1 z.1))
      have z1 : s 91 0 i = lineI a b := z1
      refine And.intro (vp_in_nI (N := 20) (show i < 20 by omega) (by decide)) ?_
      rw [nI_clamp (n := i) (by omega)]
      refine And.intro (vp_in_nI (N := 20) (show i < 20 by omega) (by decide)) ?_
      rw [nI_clamp (n := i) (by omega)]
      refine am_vS am_k216 am_h216 rfl rfl rfl rfl (m_in) ?_
      refine am_vc_ok am_k216 [5, 69] 100 ?_
      refine And.intro (fun z2 => KN (fun z => (bI_0.mp z2) z.2)) (fun z2 => ?_)
      have z2 := bI_1.mp z2
      rw [if_neg (show ¬ bkM s (lineI a b) (s 12 0 5) (i + 1) = 0 by unfold bkM; rw [cntN_1 (by simpa using ⟨z1, z2⟩)]; omega)] at K2
      exact K2
    · rw [if_neg y]
      refine And.intro (fun g => absurd g (by decide)) (fun _ => ?_)
      rw [if_neg (show ¬ bkM s (lineI a b) (s 12 0 5) (i + 1) = 0 from fun z => y (Nat.le_zero.mp (Nat.le_trans (cntN_up (p := fun i => decide (s 91 0 i = lineI a b ∧ s 92 0 i ≤ s 12 0 5 ∧ s 12 0 5 ≤ s 93 0 i))) (Nat.le_of_eq z))))] at K2
      exact K2
theorem m_isBroken {a b : Int32} (hk : s 12 0 64 = nI k) (hk2 : k ≤ 20) : am_D l 216 [aR 12 0, aI a, aI b] s τ (rX t) cX lX (some (aI (bI (¬ bkM s (lineI a b) (s 12 0 5) k = 0)))) s τ (rX t) := by
  refine am_D_of am_o216 am_l216 rfl ?_
  refine am_vc_ok am_k216 [5, 69] 100 ?_
  refine m_brk_loop hk hk2 ?_ k 0 (by omega)
  refine am_vc_ok am_k216 [] 100 ?_
  by_cases y : bkM s (lineI a b) (s 12 0 5) k = 0
  · rw [if_pos y, bI_f (fun z => z y)]
    exact am_vZ am_k216 am_r216 rfl (Or.inl rfl) ⟨rfl, rfl, rfl, rfl, rfl, rfl⟩
  · rw [if_neg y, bI_t y]
    exact am_vZ am_k216 am_r216 rfl (Or.inr rfl) ⟨rfl, rfl, rfl, rfl, rfl, rfl⟩
end L89
