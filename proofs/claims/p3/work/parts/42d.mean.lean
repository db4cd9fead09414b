/-! CASES OF THE LAW: mean -/
section L21
variable {l : Launch} {σ σ2 s : tI} {τ τ2 : tL} {t : Option (Nat × Nat)} {ρ : tR} {cn : tN} {ln : tM}
/-- the sum of ticks of those that are answered -/
def sumA (h e o : Nat → Int32) : Nat → Int64
  | 0 => 0
  | n + 1 => sumA h e o n + (if h n = 3 then (e n - o n).toInt64 else 0)
def ansP (h : Nat → Int32) : Nat → Bool := fun c => decide (h c = 3)
/-- Euclid's steps -/
def gcdF : Nat → Int64 → Int64 → Int64
  | 0, x, _ => x
  | d + 1, x, y => if y = 0 then x else gcdF d y (x - x / y * y)
theorem i64_rm (x y : Int64) : (x - (x / y) * y).toInt = x.toInt.tmod y.toInt := by
  have h1 := Int64.le_toInt x
  have h2 := Int64.toInt_lt x
  have h3 : (x.toInt.tmod y.toInt).natAbs ≤ x.toInt.natAbs := by
    rw [Int.natAbs_tmod]
    exact Nat.mod_le _ _
  rw [Int64.toInt_sub, Int64.toInt_mul, Int64.toInt_div, Int.bmod_mul_bmod, Int.sub_bmod_bmod, Int.mul_comm, ← Int.tmod_def]
  by_cases h4 : 0 ≤ x.toInt
  · exact Int.bmod_eq_of_le (by omega) (by omega)
  · have h5 : 0 ≤ (-x.toInt).tmod y.toInt := Int.tmod_nonneg _ (by omega)
    rw [Int.neg_tmod] at h5
    exact Int.bmod_eq_of_le (by omega) (by omega)
theorem rem_lt {x y : Int64} (h : ¬ y = 0) : (x - x / y * y).toInt.natAbs < y.toInt.natAbs := by
  rw [i64_rm, Int.natAbs_tmod]
  refine Nat.mod_lt _ (Nat.pos_of_ne_zero fun e => h ?_)
  apply Int64.toInt_inj.mp
  rw [Int.natAbs_eq_zero.mp e]
  rfl
theorem gcd_ne : ∀ (d : Nat) {x y : Int64}, ¬ x = 0 → ¬ gcdF d x y = 0
  | 0, x, y, h => h
  | d + 1, x, y, h => by
    unfold gcdF
    by_cases e : y = 0
    · rw [if_pos e]; exact h
    · rw [if_neg e]; exact gcd_ne d e
theorem z64 {y : Int64} (h : y.toInt.natAbs ≤ 0) : y = 0 := by
  have e : y.toInt = 0 := by omega
  apply Int64.toInt_inj.mp
  rw [e]
  rfl
theorem x_gcd_lp {Q : tQ} {a b g : Int64} (K : ∀ k r, am_G l 146 Q 0 0 44 [(8, aI (nI k)), (6, aL 0), (4, aL g), (9, aL r), (0, aL a), (2, aL b)] [] σ τ ρ cn ln) : ∀ (d k : Nat) (x y r : Int64), y.toInt.natAbs ≤ d → k + d < 100 → gcdF d x y = g → am_G l 146 Q 0 0 9 [(8, aI (nI k)), (6, aL y), (4, aL x), (9, aL r), (0, aL a), (2, aL b)] [] σ τ ρ cn ln
  | 0, k, x, y, r, hy, hk, hg => by
    obtain rfl := z64 hy
    obtain rfl : x = g := hg
    refine am_vc_ok am_k146 [9, 44] 100 ?_
    refine And.intro (fun h1 => absurd h1 (nI_ge (b := 100) (by omega) (by decide))) (fun _ => ?_)
    exact And.intro (fun _ => K k r) (fun h1 => absurd (by decide) h1)
  | d + 1, k, x, y, r, hy, hk, hg => by
    by_cases e : y = 0
    · subst e
      have hg : x = g := by unfold gcdF at hg; rw [if_pos rfl] at hg; exact hg
      subst hg
      refine am_vc_ok am_k146 [9, 44] 100 ?_
      refine And.intro (fun h1 => absurd h1 (nI_ge (b := 100) (by omega) (by decide))) (fun _ => ?_)
      exact And.intro (fun _ => K k r) (fun h1 => absurd (by decide) h1)
    · have hg : gcdF d y (x - x / y * y) = g := by unfold gcdF at hg; rw [if_neg e] at hg; exact hg
      have hlt := rem_lt (x := x) e
      have K2 := x_gcd_lp K d (k + 1) y (x - x / y * y) (x - x / y * y) (by omega) (by omega) hg
      refine am_vc_ok am_k146 [9, 44] 100 ?_
      refine And.intro (fun h1 => absurd h1 (nI_ge (b := 100) (by omega) (by decide))) (fun _ => ?_)
      refine And.intro (fun h1 => absurd ((lg_cmp_eq y 0).mp h1) e) (fun _ => ?_)
      refine And.intro (e) ?_
      rw [← nI_1] at K2
      exact K2
theorem x_gcd {a b : Int64} (hb : ¬ b = 0) (hb2 : b.toInt.natAbs ≤ 30) : am_D l 146 [aL a, aL b] σ τ ρ cn ln (some (aL (gcdF 30 b (a - a / b * b)))) σ τ ρ := by
  have hlt := rem_lt (x := a) hb
  have hne : ¬ gcdF 30 b (a - a / b * b) = 0 := gcd_ne 30 hb
  refine am_D_of am_o146 am_l146 rfl ?_
  refine am_vc_ok am_k146 [9] 100 ?_
  refine am_vc_ok am_k146 [9] 100 ?_
  refine And.intro (fun h1 => absurd h1 (by decide)) (fun _ => ?_)
  refine And.intro (fun h1 => absurd ((lg_cmp_eq b 0).mp h1) hb) (fun _ => ?_)
  refine And.intro (hb) ?_
  refine x_gcd_lp (g := gcdF 30 b (a - a / b * b)) (fun k r => ?_) 30 1 b _ _ (by omega) (by omega) rfl
  refine am_vc_ok am_k146 [] 100 ?_
  refine And.intro (fun h1 => absurd ((lg_cmp_eq _ 0).mp h1) hne) (fun _ => ?_)
  exact am_vL am_k146 am_r146 rfl ⟨rfl, rfl, rfl, rfl, rfl, rfl⟩
theorem x_ansC_lp {Q : tQ} {n : Nat} (hn : σ 3 0 5 = nI n) (hn2 : n ≤ 30) (K : am_G l 33 Q 0 0 39 [(2, aI (nI n)), (1, aI (nI (cntN (ansP fun c => σ 0 c 7) n))), (0, aR 3 0)] [] σ τ (rX t) cX lX) : ∀ (d k : Nat), k + d = n → am_G l 33 Q 0 0 4 [(2, aI (nI k)), (1, aI (nI (cntN (ansP fun c => σ 0 c 7) k))), (0, aR 3 0)] [] σ τ (rX t) cX lX
  | 0, k, h => by
    obtain rfl : k = n := by omega
    refine am_vc_ok am_k33 [4, 39] 100 ?_
    exact And.intro (fun _ => K) (fun h1 => absurd (by rw [hn]; exact Int32.le_refl _) h1)
  | d + 1, k, h => by
    have K2 := x_ansC_lp hn hn2 K d (k + 1) (by omega)
    have e2 : cntN (ansP fun c => σ 0 c 7) (k + 1) = cntN (ansP fun c => σ 0 c 7) k + (if ansP (fun c => σ 0 c 7) k = true then 1 else 0) := rfl
    refine am_vc_ok am_k33 [4, 39] 100 ?_
    refine And.intro (fun h1 => absurd h1 (by rw [hn]; exact nI_ge (b := n) (by omega) (by omega))) (fun _ => ?_)
    refine And.intro (vp_in_nI (N := 30) (by omega) (by decide)) ?_
    rw [nI_clamp (n := k) (by omega)]
    refine And.intro (fun e => ?_) (fun e => ?_)
    · have e : σ 0 k 7 = 3 := e
      rw [e2, if_pos (by simp [ansP, e]), ← nI_1 (cntN (ansP fun c => σ 0 c 7) k), ← nI_1 k] at K2
      exact K2
    · have e : ¬ σ 0 k 7 = 3 := e
      have e3 : cntN (ansP fun c => σ 0 c 7) (k + 1) = cntN (ansP fun c => σ 0 c 7) k := by rw [e2, if_neg (by simp [ansP, e]), Nat.add_zero]
      have e4 : nI (cntN (ansP fun c => σ 0 c 7) k) = nI (cntN (ansP fun c => σ 0 c 7) k) + 0 := (Int32.add_zero _).symm
      rw [e3, e4, ← nI_1 k] at K2
      exact K2
theorem x_ansC {n : Nat} (hn : σ 3 0 5 = nI n) (hn2 : n ≤ 30) : am_D l 33 [aR 3 0] σ τ (rX t) cX lX (some (aI (nI (cntN (ansP fun c => σ 0 c 7) n)))) σ τ (rX t) := by
  refine am_D_of am_o33 am_l33 rfl ?_
  refine am_vc_ok am_k33 [4] 100 ?_
  refine x_ansC_lp hn hn2 ?_ n 0 (by omega)
  refine am_vc_ok am_k33 [] 100 ?_
  exact am_vI am_k33 am_r33 rfl ⟨rfl, rfl, rfl, rfl, rfl, rfl⟩
theorem x_ansT_lp {Q : tQ} {n : Nat} (hn : σ 3 0 5 = nI n) (hn2 : n ≤ 30) (K : am_G l 34 Q 0 0 58 [(3, aI (nI n)), (1, aL (sumA (fun c => σ 0 c 7) (fun c => σ 0 c 8) (fun c => σ 0 c 5) n)), (0, aR 3 0)] [] σ τ (rX t) cX lX) : ∀ (d k : Nat), k + d = n → am_G l 34 Q 0 0 4 [(3, aI (nI k)), (1, aL (sumA (fun c => σ 0 c 7) (fun c => σ 0 c 8) (fun c => σ 0 c 5) k)), (0, aR 3 0)] [] σ τ (rX t) cX lX
  | 0, k, h => by
    obtain rfl : k = n := by omega
    refine am_vc_ok am_k34 [4, 58] 100 ?_
    exact And.intro (fun _ => K) (fun h1 => absurd (by rw [hn]; exact Int32.le_refl _) h1)
  | d + 1, k, h => by
    have K2 := x_ansT_lp hn hn2 K d (k + 1) (by omega)
    have e2 : sumA (fun c => σ 0 c 7) (fun c => σ 0 c 8) (fun c => σ 0 c 5) (k + 1) = sumA (fun c => σ 0 c 7) (fun c => σ 0 c 8) (fun c => σ 0 c 5) k + (if σ 0 k 7 = 3 then (σ 0 k 8 - σ 0 k 5).toInt64 else 0) := rfl
    refine am_vc_ok am_k34 [4, 58] 100 ?_
    refine And.intro (fun h1 => absurd h1 (by rw [hn]; exact nI_ge (b := n) (by omega) (by omega))) (fun _ => ?_)
    refine And.intro (vp_in_nI (N := 30) (by omega) (by decide)) ?_
    rw [nI_clamp (n := k) (by omega)]
    refine And.intro (fun e => ?_) (fun e => ?_)
    · have e : σ 0 k 7 = 3 := e
      refine And.intro (vp_in_nI (N := 30) (by omega) (by decide)) ?_
      refine And.intro (vp_in_nI (N := 30) (by omega) (by decide)) ?_
      rw [nI_clamp (n := k) (by omega)]
      rw [e2, if_pos e, ← nI_1 k] at K2
      exact K2
    · have e : ¬ σ 0 k 7 = 3 := e
      rw [e2, if_neg e, ← nI_1 k] at K2
      exact K2
theorem x_ansT {n : Nat} (hn : σ 3 0 5 = nI n) (hn2 : n ≤ 30) : am_D l 34 [aR 3 0] σ τ (rX t) cX lX (some (aL (sumA (fun c => σ 0 c 7) (fun c => σ 0 c 8) (fun c => σ 0 c 5) n))) σ τ (rX t) := by
  refine am_D_of am_o34 am_l34 rfl ?_
  refine am_vc_ok am_k34 [4] 100 ?_
  refine x_ansT_lp hn hn2 ?_ n 0 (by omega)
  refine am_vc_ok am_k34 [] 100 ?_
  exact am_vL am_k34 am_r34 rfl ⟨rfl, rfl, rfl, rfl, rfl, rfl⟩
theorem x_mean0 {n : Nat} (hn : σ 3 0 5 = nI n) (hn2 : n ≤ 30) (h0 : cntN (ansP fun c => σ 0 c 7) n = 0) : am_D l 133 [aR 11 0] σ τ (rX t) cX lX (some (aI (-3))) (xfind 4 σ) τ (rX t) := by
  refine am_D_of am_o133 am_l133 rfl ?_
  refine am_vc_ok am_k133 [] 100 ?_
  refine am_vO am_k133 am_h133 rfl rfl rfl rfl (x_ansC hn hn2) ?_
  refine am_vc_ok am_k133 [] 100 ?_
  rw [h0]
  refine And.intro (fun _ => ?_) (fun g => absurd rfl g)
  refine am_vO am_k133 am_h133 rfl rfl rfl rfl (x_find (w := 4) (by decide)) ?_
  refine am_vc_ok am_k133 [] 100 ?_
  exact am_vI am_k133 am_r133 rfl ⟨rfl, rfl, rfl, rfl, rfl, rfl⟩
abbrev t2s (τ : tL) (k a b : Nat) (v w : Int64) : tL := u3 (u3 τ k 0 a v) k 0 b w
theorem cl64 {c : Nat} (h1 : 1 ≤ c) (h2 : c ≤ 30) : ¬ (nI c).toInt64 = 0 ∧ (nI c).toInt64.toInt.natAbs ≤ 30 := by
  have e : (nI c).toInt64.toInt = c := by rw [Int32.toInt_toInt64, nI_toInt (by omega)]
  refine ⟨fun z => ?_, by omega⟩
  rw [z] at e
  have e2 : (0 : Int64).toInt = 0 := rfl
  omega
theorem x_mean {n c : Nat} (hn : σ 3 0 5 = nI n) (hn2 : n ≤ 30) (hc : cntN (ansP fun c => σ 0 c 7) n = c) (h1 : 1 ≤ c) (h2 : c ≤ 30) {S g : Int64} (hS : sumA (fun c => σ 0 c 7) (fun c => σ 0 c 8) (fun c => σ 0 c 5) n = S) (hg : gcdF 30 (nI c).toInt64 (S - S / (nI c).toInt64 * (nI c).toInt64) = g) : am_D l 133 [aR 11 0] σ τ (rX t) cX lX (some (aI (nI c))) σ (t2s τ 11 12 13 (S / g) ((nI c).toInt64 / g)) (rX t) := by
  obtain ⟨c1, c2⟩ := cl64 h1 h2
  have hne : ¬ g = 0 := by rw [← hg]; exact gcd_ne 30 c1
  refine am_D_of am_o133 am_l133 rfl ?_
  refine am_vc_ok am_k133 [] 100 ?_
  refine am_vO am_k133 am_h133 rfl rfl rfl rfl (x_ansC hn hn2) ?_
  refine am_vc_ok am_k133 [] 100 ?_
  rw [hc]
  refine And.intro (fun z => absurd z (fun z => c1 (by rw [z]; rfl))) (fun _ => ?_)
  refine am_vO am_k133 am_h133 rfl rfl rfl rfl (x_ansT hn hn2) ?_
  refine am_vc_ok am_k133 [] 100 ?_
  rw [hS]
  refine am_vS am_k133 am_h133 rfl rfl rfl rfl (x_gcd c1 c2) ?_
  refine am_vc_ok am_k133 [] 100 ?_
  rw [hg]
  refine And.intro (hne) ?_
  refine And.intro (hne) ?_
  exact am_vI am_k133 am_r133 rfl ⟨rfl, rfl, rfl, rfl, rfl, rfl⟩
theorem m_mean_lp {Q : tQ} {n : Nat} (hn : σ 12 0 34 = nI n) (hn2 : n ≤ 30) (K : am_G l 246 Q 0 0 55 [(4, aI (nI n)), (2, aL (sumA (fun c => σ 71 0 c) (fun c => σ 75 0 c) (fun c => σ 74 0 c) n)), (1, aI (nI (cntN (ansP fun c => σ 71 0 c) n))), (0, aR 12 0)] [] σ τ (rX t) cX lX) : ∀ (d k : Nat), k + d = n → am_G l 246 Q 0 0 7 [(4, aI (nI k)), (2, aL (sumA (fun c => σ 71 0 c) (fun c => σ 75 0 c) (fun c => σ 74 0 c) k)), (1, aI (nI (cntN (ansP fun c => σ 71 0 c) k))), (0, aR 12 0)] [] σ τ (rX t) cX lX
  | 0, k, h => by
    obtain rfl : k = n := by omega
    refine am_vc_ok am_k246 [7, 55] 100 ?_
    exact And.intro (fun _ => K) (fun h1 => absurd (by rw [hn]; exact Int32.le_refl _) h1)
  | d + 1, k, h => by
    have K2 := m_mean_lp hn hn2 K d (k + 1) (by omega)
    have e2 : cntN (ansP fun c => σ 71 0 c) (k + 1) = cntN (ansP fun c => σ 71 0 c) k + (if ansP (fun c => σ 71 0 c) k = true then 1 else 0) := rfl
    have e5 : sumA (fun c => σ 71 0 c) (fun c => σ 75 0 c) (fun c => σ 74 0 c) (k + 1) = sumA (fun c => σ 71 0 c) (fun c => σ 75 0 c) (fun c => σ 74 0 c) k + (if σ 71 0 k = 3 then (σ 75 0 k - σ 74 0 k).toInt64 else 0) := rfl
    refine am_vc_ok am_k246 [7, 55] 100 ?_
    refine And.intro (fun h1 => absurd h1 (by rw [hn]; exact nI_ge (b := n) (by omega) (by omega))) (fun _ => ?_)
    refine And.intro (vp_in_nI (N := 30) (by omega) (by decide)) ?_
    rw [nI_clamp (n := k) (by omega)]
    refine And.intro (fun e => ?_) (fun e => ?_)
    · have e : σ 71 0 k = 3 := e
      refine And.intro (vp_in_nI (N := 30) (by omega) (by decide)) ?_
      refine And.intro (vp_in_nI (N := 30) (by omega) (by decide)) ?_
      rw [nI_clamp (n := k) (by omega)]
      rw [e2, if_pos (by simp [ansP, e]), e5, if_pos e, ← nI_1 (cntN (ansP fun c => σ 71 0 c) k), ← nI_1 k] at K2
      exact K2
    · have e : ¬ σ 71 0 k = 3 := e
      have e3 : cntN (ansP fun c => σ 71 0 c) (k + 1) = cntN (ansP fun c => σ 71 0 c) k := by rw [e2, if_neg (by simp [ansP, e]), Nat.add_zero]
      have e6 : sumA (fun c => σ 71 0 c) (fun c => σ 75 0 c) (fun c => σ 74 0 c) (k + 1) = sumA (fun c => σ 71 0 c) (fun c => σ 75 0 c) (fun c => σ 74 0 c) k := by rw [e5, if_neg e]; exact Int64.add_zero _
      rw [e3, e6, ← nI_1 k] at K2
      exact K2
theorem m_gcd_lp {Q : tQ} {S g : Int64} {c : Int32} (K : ∀ r, am_G l 246 Q 0 0 97 [(6, aL 0), (4, aL g), (8, aL r), (2, aL S), (1, aI c), (0, aR 12 0)] [] σ τ ρ cn ln) : ∀ (d : Nat) (x y r : Int64), y.toInt.natAbs ≤ d → gcdF d x y = g → am_G l 246 Q 0 0 72 [(6, aL y), (4, aL x), (8, aL r), (2, aL S), (1, aI c), (0, aR 12 0)] [] σ τ ρ cn ln
  | 0, x, y, r, hy, hg => by
    obtain rfl := z64 hy
    obtain rfl : x = g := hg
    refine am_vc_ok am_k246 [72, 97] 100 ?_
    exact And.intro (fun _ => K r) (fun h1 => absurd (by decide) h1)
  | d + 1, x, y, r, hy, hg => by
    by_cases e : y = 0
    · subst e
      have hg : x = g := by unfold gcdF at hg; rw [if_pos rfl] at hg; exact hg
      subst hg
      refine am_vc_ok am_k246 [72, 97] 100 ?_
      exact And.intro (fun _ => K r) (fun h1 => absurd (by decide) h1)
    · have hg : gcdF d y (x - x / y * y) = g := by unfold gcdF at hg; rw [if_neg e] at hg; exact hg
      have hlt := rem_lt (x := x) e
      have K2 := m_gcd_lp K d y (x - x / y * y) (x - x / y * y) (by omega) hg
      refine am_vc_ok am_k246 [72, 97] 100 ?_
      refine And.intro (fun h1 => absurd ((lg_cmp_eq y 0).mp h1) e) (fun _ => ?_)
      refine And.intro (e) ?_
      exact K2
theorem m_mean0 {n : Nat} (hn : σ 12 0 34 = nI n) (hn2 : n ≤ 30) (h0 : cntN (ansP fun c => σ 71 0 c) n = 0) : am_D l 246 [aR 12 0] σ τ (rX t) cX lX (some (aI (-3))) (mmeets 4 σ) τ (rX t) := by
  refine am_D_of am_o246 am_l246 rfl ?_
  refine am_vc_ok am_k246 [7] 100 ?_
  refine m_mean_lp hn hn2 ?_ n 0 (by omega)
  refine am_vc_ok am_k246 [72] 100 ?_
  rw [h0]
  refine And.intro (fun _ => ?_) (fun g => absurd rfl g)
  refine am_vO am_k246 am_h246 rfl rfl rfl rfl (m_meets (w := 4) (by decide)) ?_
  refine am_vc_ok am_k246 [72] 100 ?_
  exact am_vI am_k246 am_r246 rfl ⟨rfl, rfl, rfl, rfl, rfl, rfl⟩
theorem m_mean {n c : Nat} (hn : σ 12 0 34 = nI n) (hn2 : n ≤ 30) (hc : cntN (ansP fun c => σ 71 0 c) n = c) (h1 : 1 ≤ c) (h2 : c ≤ 30) {S g : Int64} (hS : sumA (fun c => σ 71 0 c) (fun c => σ 75 0 c) (fun c => σ 74 0 c) n = S) (hg : gcdF 30 (nI c).toInt64 (S - S / (nI c).toInt64 * (nI c).toInt64) = g) : am_D l 246 [aR 12 0] σ τ (rX t) cX lX (some (aI (nI c))) σ (t2s τ 12 3 4 (S / g) ((nI c).toInt64 / g)) (rX t) := by
  obtain ⟨c1, c2⟩ := cl64 h1 h2
  have hne : ¬ g = 0 := by rw [← hg]; exact gcd_ne 30 c1
  have hlt := rem_lt (x := S) c1
  refine am_D_of am_o246 am_l246 rfl ?_
  refine am_vc_ok am_k246 [7] 100 ?_
  refine m_mean_lp hn hn2 ?_ n 0 (by omega)
  rw [hc, hS]
  refine am_vc_ok am_k246 [72] 100 ?_
  refine And.intro (fun z => absurd z (fun z => c1 (by rw [z]; rfl))) (fun _ => ?_)
  refine am_vc_ok am_k246 [72] 100 ?_
  refine And.intro (fun h1 => absurd ((lg_cmp_eq _ 0).mp h1) c1) (fun _ => ?_)
  refine And.intro (c1) ?_
  refine m_gcd_lp (g := g) (fun r => ?_) 30 _ _ _ (by omega) hg
  refine am_vc_ok am_k246 [] 100 ?_
  refine And.intro (hne) ?_
  refine And.intro (hne) ?_
  exact am_vI am_k246 am_r246 rfl ⟨rfl, rfl, rfl, rfl, rfl, rfl⟩
theorem sumA_cg {h e o h2 e2 o2 : Nat → Int32} : ∀ {n : Nat}, (∀ c, c < n → h c = h2 c ∧ e c = e2 c ∧ o c = o2 c) → sumA h e o n = sumA h2 e2 o2 n
  | 0, _ => rfl
  | n + 1, H => by
    unfold sumA
    obtain ⟨a1, a2, a3⟩ := H n (by omega)
    rw [sumA_cg (fun c hc => H c (by omega)), a1, a2, a3]
theorem LC_mean (h : Rall σ τ) : LC l 133 246 [] σ τ t := by
  obtain ⟨r1, r2, r3, r4, r5, ⟨m1, m2, m3, m4, m5⟩, T, n, m, lo, k, hN⟩ := id h
  have h0 := hN.split.1
  have hn := h0.2.1
  have hC : ∀ c, c < n → σ 0 c 7 = σ 71 0 c ∧ σ 0 c 8 = σ 75 0 c ∧ σ 0 c 5 = σ 74 0 c := by
    intro c hc
    have q := (h0.2.2.1 c hc).1
    exact ⟨q.2.2.2.2.2.2.2.1, q.2.2.2.2.2.2.2.2.1, q.2.2.2.2.2.1⟩
  have e1 : cntN (ansP fun c => σ 0 c 7) n = cntN (ansP fun c => σ 71 0 c) n := cntN_cg (fun c hc => by simp [ansP, (hC c hc).1])
  have e2 : sumA (fun c => σ 0 c 7) (fun c => σ 0 c 8) (fun c => σ 0 c 5) n = sumA (fun c => σ 71 0 c) (fun c => σ 75 0 c) (fun c => σ 74 0 c) n := sumA_cg hC
  by_cases hz : cntN (ansP fun c => σ 71 0 c) n = 0
  · exact LC.of (x_mean0 hn.1 hn.2.2 (e1.trans hz)) (m_mean0 (σ := xfind 4 σ) hn.2.1 hn.2.2 hz) (h.find (by decide))
  · have hle : cntN (ansP fun c => σ 71 0 c) n ≤ n := cntN_le
    have hn30 := hn.2.2
    refine LC.of (x_mean hn.1 hn.2.2 e1 (by omega) (by omega) e2 rfl) (m_mean hn.2.1 hn.2.2 rfl (by omega) (by omega) rfl rfl) ?_
    refine ⟨r1, r2, r3, r4, r5, ⟨trivial, trivial, m3, ?_, ?_⟩, T, n, m, lo, k, hN⟩
    · simp [u3]
    · simp [u3]
end L21
