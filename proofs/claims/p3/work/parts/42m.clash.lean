/-! CASES OF THE LAW: clash -/
section L30a
variable {l : Launch} {y : Nat} {Q : tQ} {u w pc : Nat} {ls ls2 : am_ls} {st : List am_V} {σ : tI} {τ : tL} {ρ : tR} {cn : tN} {ln : tM}
theorem am_Vl_mem : ∀ {ls : am_ls}, am_Vl cn ls ↔ ∀ q ∈ ls, am_VO cn q.2
  | [] => ⟨fun _ q hq => absurd hq List.not_mem_nil, fun _ => trivial⟩
  | p :: r => by
    constructor
    · intro h q hq
      rcases List.mem_cons.mp hq with rfl | hq
      · exact h.1
      · exact am_Vl_mem.mp h.2 q hq
    · intro h
      exact ⟨h p List.mem_cons_self, am_Vl_mem.mpr (fun q hq => h q (List.mem_cons_of_mem _ hq))⟩
/-- fewer locals, in another order -/
theorem am_Gp (is : List Nat) (h : is.filterMap (fun i => ls[i]?) = ls2) (K : am_G l y Q u w pc ls2 st σ τ ρ cn ln) : am_G l y Q u w pc ls st σ τ ρ cn ln := by
  have hm : ∀ q ∈ ls2, q ∈ ls := by
    intro q hq
    rw [← h] at hq
    obtain ⟨i, -, hi⟩ := List.mem_filterMap.mp hq
    exact List.mem_of_getElem? hi
  intro p e s m args below meth cc D ca ad0 L0 A ad L H locs lsA hX hL hY hS hl hVl hV
  refine K p e s m args below meth cc D ca ad0 L0 A ad L H locs lsA hX hL hY hS ⟨hl.1, hl.2.1, fun q hq => ?_⟩ (am_Vl_mem.mpr fun q hq => am_Vl_mem.mp hVl q (hm q hq)) hV
  obtain ⟨q0, h1, rfl⟩ := List.mem_map.mp hq
  exact hl.2.2 _ (List.mem_map.mpr ⟨q0, hm q0 h1, rfl⟩)
end L30a
section L30
variable {l : Launch} {σ σ2 : tI} {τ τ2 : tL} {t : Option (Nat × Nat)}
/-- the first k below n with p -/
def firstM (p : Nat → Bool) : Nat → Int32
  | 0 => -9
  | n + 1 => if p n = true ∧ cntN p n = 0 then nI n else firstM p n
theorem firstM_y {p : Nat → Bool} {k : Nat} (h : p k = true) (h2 : cntN p k = 0) : firstM p (k + 1) = nI k := by rw [firstM, if_pos ⟨h, h2⟩]
theorem firstM_n {p : Nat → Bool} {k : Nat} (h : ¬ p k = true ∨ ¬ cntN p k = 0) : firstM p (k + 1) = firstM p k := by
  rw [firstM, if_neg]
  rintro ⟨h1, h2⟩
  rcases h with h | h
  · exact h h1
  · exact h h2
def clP (σ : tI) : Nat → Bool := fun k => !decide (okP σ (σ 59 0 k) (σ 57 0 (k / 6)) (σ 57 0 (k % 6)))
def DrOK (σ : tI) : Prop := ∀ k, k < 36 → σ 59 0 k = -9 ∨ ∃ s n, s < 4 ∧ σ 59 0 k = nI s ∧ σ 49 0 s = nI n ∧ n ≤ 12
theorem verI_0 {a : Nat} (ha : a < 6) : verI σ 0 a = σ 57 0 a := by
  have h : ∀ a, a < 6 → ¬ ((0 : Int32) >>> (nI a &&& 31)) &&& 1 = 1 := by decide +kernel
  unfold verI
  rw [if_neg (h a ha)]
theorem cnt0 {c : Nat} (h : c ≤ 36) : nI c = 0 ↔ c = 0 := by
  constructor
  · intro e
    exact nI_inj' (by omega) (by decide) (show nI c = nI 0 from e)
  · rintro rfl; rfl
theorem m_clash_lp {Q : tQ} (hD : DrOK σ) (K : am_G l 202 Q 0 0 41 [(3, aI (nI 36)), (2, aI (firstM (clP σ) 36)), (1, aI (nI (cntN (clP σ) 36))), (0, aR 12 0)] [] σ τ (rX t) cX lX) : ∀ (d k : Nat), k + d = 36 → am_G l 202 Q 0 0 7 [(3, aI (nI k)), (2, aI (firstM (clP σ) k)), (1, aI (nI (cntN (clP σ) k))), (0, aR 12 0)] [] σ τ (rX t) cX lX
  | 0, k, h => by
    obtain rfl : k = 36 := by omega
    refine am_vc_ok am_k202 [7, 41] 100 ?_
    exact And.intro (fun _ => K) (fun h1 => absurd (show (36 : Int32) ≤ nI 36 by decide) h1)
  | d + 1, k, h => by
    have K2 := m_clash_lp hD K d (k + 1) (by omega)
    have hc : cntN (clP σ) k ≤ k := cntN_le
    refine am_vc_ok am_k202 [7, 41] 100 ?_
    refine And.intro (fun h1 => absurd h1 (nI_ge (b := 36) (by omega) (by decide))) (fun _ => ?_)
    refine am_vO am_k202 am_h202 rfl rfl rfl rfl (m_isPair (set := 0) (by omega) (hD k (by omega))) ?_
    refine am_vc_ok am_k202 [7, 41] 100 ?_
    refine And.intro (fun e => ?_) (fun e => ?_)
    · have e := bI_0.mp e
      rw [verI_0 (by omega), verI_0 (by omega)] at e
      have hp : clP σ k = true := by unfold clP; rw [decide_eq_false e]; rfl
      refine And.intro (fun z => ?_) (fun z => ?_)
      · have z := (cnt0 (by omega)).mp z
        rw [firstM_y hp z, cntN_1 hp, ← nI_1 (cntN (clP σ) k), ← nI_1 k] at K2
        exact am_Gp [0, 2, 1, 3] rfl K2
      · have z : ¬ cntN (clP σ) k = 0 := fun q => z ((cnt0 (by omega)).mpr q)
        rw [firstM_n (Or.inr z), cntN_1 hp, ← nI_1 (cntN (clP σ) k), ← nI_1 k] at K2
        exact am_Gp [0, 2, 1, 3] rfl K2
    · have e := bI_1.mp e
      rw [verI_0 (by omega), verI_0 (by omega)] at e
      have hp : ¬ clP σ k = true := by unfold clP; rw [decide_eq_true e]; decide
      rw [firstM_n (Or.inl hp), cntN_0 hp, ← nI_1 k] at K2
      exact K2
theorem m_clash (hD : DrOK σ) : am_D l 202 [aR 12 0] σ τ (rX t) cX lX (some (aI (nI (cntN (clP σ) 36)))) (u3 σ 12 0 2 (firstM (clP σ) 36)) τ (rX t) := by
  refine am_D_of am_o202 am_l202 rfl ?_
  refine am_vc_ok am_k202 [7] 100 ?_
  refine m_clash_lp hD ?_ 36 0 (by omega)
  refine am_vc_ok am_k202 [] 100 ?_
  refine am_vO am_k202 am_h202 rfl rfl rfl rfl (m_ask) ?_
  refine am_vc_ok am_k202 [] 100 ?_
  exact am_vI am_k202 am_r202 rfl ⟨rfl, rfl, rfl, rfl, rfl, rfl⟩
def clQ (σ : tI) (τ : tL) (t : Option (Nat × Nat)) : xP := fun r s2 τ2 t2 => r = some (aI (nI (cntN (clP σ) 36))) ∧ s2 = u3 σ 11 0 11 (firstM (clP σ) 36) ∧ τ2 = τ ∧ t2 = t
theorem x_clash_in (hR : Rserv σ) (hSh : Rshapes σ) {a : Nat} (ha : a < 6) (K : am_G l 113 (xQ (clQ σ τ t)) 0 0 103 [(4, aI (nI 6)), (3, aI (nI a)), (2, aI (nI (cntN (clP σ) (6 * a + 6)))), (1, aI (firstM (clP σ) (6 * a + 6))), (0, aR 11 0)] [] σ τ (rX t) cX lX) : ∀ (d b : Nat), b + d = 6 → am_G l 113 (xQ (clQ σ τ t)) 0 0 16 [(4, aI (nI b)), (3, aI (nI a)), (2, aI (nI (cntN (clP σ) (6 * a + b)))), (1, aI (firstM (clP σ) (6 * a + b))), (0, aR 11 0)] [] σ τ (rX t) cX lX
  | 0, b, h => by
    obtain rfl : b = 6 := by omega
    refine am_vc_ok am_k113 [16, 103] 100 ?_
    exact And.intro (fun _ => K) (fun h1 => absurd (show (6 : Int32) ≤ nI 6 by decide) h1)
  | d + 1, b, h => by
    have K2 := x_clash_in hR hSh ha K d (b + 1) (by omega)
    have hb : b < 6 := by omega
    have hc : cntN (clP σ) (6 * a + b) ≤ 6 * a + b := cntN_le
    have ek : 6 * a + (b + 1) = (6 * a + b) + 1 := by omega
    rw [ek] at K2
    obtain ⟨⟨x, _, hx, -, n1, n2, -, -⟩, g2⟩ := hR a ha
    obtain ⟨⟨y, _, hy, -, n3, n4, -, -⟩, -⟩ := hR b hb
    obtain ⟨g3, g4⟩ := g2 b hb
    have q1 : (6 * a + b) / 6 = a := by omega
    have q2 : (6 * a + b) % 6 = b := by omega
    have e6 : nI a * 6 + nI b = nI (6 * a + b) := by
      rw [show (6 : Int32) = nI 6 from rfl, pk_mul, nI_add, Nat.mul_comm]
    refine am_vc_ok am_k113 [16, 103] 100 ?_
    refine And.intro (fun h1 => absurd h1 (nI_ge (b := 6) (by omega) (by decide))) (fun _ => ?_)
    refine And.intro (vp_in_nI (N := 6) ha (by decide)) ?_
    rw [nI_clamp (n := a) (by omega)]
    refine And.intro (vp_in_nI (N := 6) hb (by decide)) ?_
    rw [nI_clamp (n := b) (by omega)]
    rcases g4 with g4 | ⟨s, hs, g4, g5, -⟩
    · have hp : ¬ clP σ (6 * a + b) = true := by
        unfold clP
        rw [decide_eq_true (Or.inl (by rw [← g3, g4]))]
        decide
      rw [g4]
      refine am_vS am_k113 am_h113 rfl rfl rfl rfl (x_within) ?_
      refine am_vc_ok am_k113 [16, 103] 100 ?_
      refine And.intro (fun _ => ?_) (fun e => absurd (bI_1.mp e) (by decide))
      rw [firstM_n (Or.inl hp), cntN_0 hp, ← nI_1 b] at K2
      exact am_Gp [0, 2, 3, 4, 5] rfl K2
    · rcases hSh s hs with ⟨-, z⟩ | ⟨S, hS⟩
      · exact absurd z g5
      have hw4 : σ 49 0 s = nI (sN S) := hS.2.2.2.1
      have hiff := okP_n (σ := σ) (x := nI x) (y := nI y) hs hw4 hS.1.1
      have hcl : clP σ (6 * a + b) = !decide (okP σ (nI s) (nI x) (nI y)) := by
        unfold clP
        rw [q1, q2, ← g3, g4, n2, n4]
      rw [g4]
      refine am_vS am_k113 am_h113 rfl rfl rfl rfl (x_within) ?_
      refine am_vc_ok am_k113 [16, 103] 100 ?_
      refine And.intro (fun e => absurd (in4 hs) (bI_0.mp e)) (fun _ => ?_)
      refine And.intro (vp_in_nI (N := 4) hs (by decide)) ?_
      refine And.intro (vp_in_nI (N := 6) ha (by decide)) ?_
      refine And.intro (vp_in_nI (N := 6) hb (by decide)) ?_
      rw [nI_clamp (n := s) (by omega), nI_clamp (n := a) (by omega), nI_clamp (n := b) (by omega), n1]
      have hbf := x_bothFit (l := l) (τ := τ) (t := t) hS hx hy
      rw [← n3] at hbf
      refine am_vOT am_k113 am_h113 rfl rfl rfl rfl (hbf) ?_
      rintro r s2 τ2 t2 ⟨rfl, rfl, rfl, rfl⟩
      refine am_vc_ok am_k113 [16, 103] 100 ?_
      refine And.intro (fun e => ?_) (fun e => ?_)
      · have e := bI_0.mp e
        rw [n3] at e
        have hp : clP s2 (6 * a + b) = true := by rw [hcl, decide_eq_false (fun q => e (hiff.mp q))]; rfl
        refine And.intro (fun z => ?_) (fun z => ?_)
        · have z := (cnt0 (by omega)).mp z
          rw [firstM_y hp z, cntN_1 hp, ← nI_1 (cntN (clP s2) (6 * a + b)), ← nI_1 b, ← e6] at K2
          exact am_Gp [0, 4, 1, 2, 5] rfl K2
        · have z : ¬ cntN (clP s2) (6 * a + b) = 0 := fun q => z ((cnt0 (by omega)).mpr q)
          rw [firstM_n (Or.inr z), cntN_1 hp, ← nI_1 (cntN (clP s2) (6 * a + b)), ← nI_1 b] at K2
          exact am_Gp [0, 4, 1, 2, 5] rfl K2
      · have e := bI_1.mp e
        rw [n3] at e
        have hp : ¬ clP s2 (6 * a + b) = true := by rw [hcl, decide_eq_true (hiff.mpr e)]; decide
        rw [firstM_n (Or.inl hp), cntN_0 hp, ← nI_1 b] at K2
        exact am_Gp [0, 2, 3, 4, 5] rfl K2
theorem x_clash_out (hR : Rserv σ) (hSh : Rshapes σ) (K : am_G l 113 (xQ (clQ σ τ t)) 0 0 109 [(3, aI (nI 6)), (2, aI (nI (cntN (clP σ) 36))), (1, aI (firstM (clP σ) 36)), (0, aR 11 0)] [] σ τ (rX t) cX lX) : ∀ (d a : Nat), a + d = 6 → am_G l 113 (xQ (clQ σ τ t)) 0 0 7 [(3, aI (nI a)), (2, aI (nI (cntN (clP σ) (6 * a)))), (1, aI (firstM (clP σ) (6 * a))), (0, aR 11 0)] [] σ τ (rX t) cX lX
  | 0, a, h => by
    obtain rfl : a = 6 := by omega
    refine am_vc_ok am_k113 [7, 109] 100 ?_
    exact And.intro (fun _ => K) (fun h1 => absurd (show (6 : Int32) ≤ nI 6 by decide) h1)
  | d + 1, a, h => by
    have K2 := x_clash_out hR hSh K d (a + 1) (by omega)
    rw [show 6 * (a + 1) = 6 * a + 6 by omega] at K2
    refine am_vc_ok am_k113 [7, 16, 109] 100 ?_
    refine And.intro (fun h1 => absurd h1 (nI_ge (b := 6) (by omega) (by decide))) (fun _ => ?_)
    refine x_clash_in hR hSh (by omega) ?_ 6 0 (by omega)
    refine am_vc_ok am_k113 [7] 100 ?_
    rw [← nI_1 a] at K2
    exact am_Gp [0, 2, 3, 4] rfl K2
theorem x_clash (hR : Rserv σ) (hSh : Rshapes σ) : am_T l 113 [aR 11 0] σ τ t (clQ σ τ t) := by
  refine am_T_of am_o113 am_l113 rfl ?_
  refine am_vc_ok am_k113 [7] 100 ?_
  refine x_clash_out hR hSh ?_ 6 0 (by omega)
  refine am_vc_ok am_k113 [] 100 ?_
  exact am_vI am_k113 am_r113 rfl ⟨t, rfl, rfl, rfl, rfl, rfl, rfl, rfl⟩
theorem Rall.dr (h : Rall σ τ) : DrOK σ := by
  intro k hk
  have hR := (h.2.2.2.2.1 (k / 6) (by omega)).2 (k % 6) (by omega)
  rw [show 6 * (k / 6) + k % 6 = k by omega] at hR
  rcases hR.2 with z | ⟨s, hs, z1, z2, -⟩
  · exact Or.inl (hR.1.symm.trans z)
  · rcases h.2.2.1.there hs with ⟨-, y⟩ | ⟨-, n, hn, y⟩
    · exact absurd y z2
    · exact Or.inr ⟨s, n, hs, hR.1.symm.trans z1, y, hn⟩
theorem badM_cg {so so2 ch ch2 pr pr2 : Nat → Int32} {a b : Option Nat} (h1 : so2 = so) (h2 : ch2 = ch) (h3 : pr2 = pr) : badM so ch pr a b = badM so2 ch2 pr2 a b := by rw [h1, h2, h3]
theorem clP_k {f : tI} (h49 : f 49 = σ 49) (h50 : f 50 = σ 50) (h57 : f 57 = σ 57) (h59 : f 59 = σ 59) : clP f = clP σ := by
  unfold clP okP fitP badA nmd mA
  rw [h49, h50, h57, h59]
theorem LC_clash (h : Rall σ τ) : LC l 113 202 [] σ τ t := by
  refine am_T.mono (x_clash h.2.2.2.2.1 h.2.2.1) ?_
  rintro r s2 τ2 t2 ⟨rfl, rfl, rfl, rfl⟩
  have e : clP (u3 σ 11 0 11 (firstM (clP σ) 36)) = clP σ := clP_k (u3_kk _ _ (by decide)) (u3_kk _ _ (by decide)) (u3_kk _ _ (by decide)) (u3_kk _ _ (by decide))
  have hD : DrOK (u3 σ 11 0 11 (firstM (clP σ) 36)) := by
    unfold DrOK
    rw [u3_kk _ _ (show 59 ≠ 11 by decide), u3_kk _ _ (show 49 ≠ 11 by decide)]
    exact h.dr
  have hm := m_clash (l := l) (τ := τ2) (t := t2) hD
  rw [e] at hm
  exact ⟨rfl, hm.T ⟨rfl, h.ask⟩⟩
end L30
