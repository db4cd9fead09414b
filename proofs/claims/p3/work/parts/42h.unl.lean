/-! unlikeNames: the names as bits -/
section L25
variable {l : Launch} {σ σ2 s : tI} {τ τ2 : tL} {t : Option (Nat × Nat)}
abbrev bt (a : Nat) : Int32 := (1 : Int32) <<< (nI a &&& 31)
theorem bt_all : ((List.range 16).all fun a => (List.range 16).all fun b => decide (bt b &&& bt a = if b = a then bt a else 0) && decide (¬ bt a = 0)) = true := by decide +kernel
theorem bt_and {a b : Nat} (ha : a < 16) (hb : b < 16) : bt b &&& bt a = if b = a then bt a else 0 := by
  have h := List.all_eq_true.mp (List.all_eq_true.mp bt_all a (List.mem_range.mpr ha)) b (List.mem_range.mpr hb)
  rw [Bool.and_eq_true] at h
  exact of_decide_eq_true h.1
theorem bt_ne {a : Nat} (ha : a < 16) : ¬ bt a = 0 := by
  have h := List.all_eq_true.mp (List.all_eq_true.mp bt_all a (List.mem_range.mpr ha)) a (List.mem_range.mpr ha)
  rw [Bool.and_eq_true] at h
  exact of_decide_eq_true h.2
theorem or_and3 (x y z : Int32) : (x ||| y) &&& z = (x &&& z) ||| (y &&& z) := Int32.toBitVec_inj.1 BitVec.and_or_distrib_right
/-- the bits of acc are the names of those below k that have u -/
def JB (u : Nat → Bool) (nm : Nat → Int32) (acc : Int32) (k : Nat) : Prop := (acc = 0 ↔ ∀ q, q < k → u q = false) ∧ ∀ a, a < 16 → (acc &&& bt a = 0 ↔ ∀ q, q < k → u q = true → ¬ nm q = nI a)
theorem JB.z {u : Nat → Bool} {nm : Nat → Int32} : JB u nm 0 0 := ⟨⟨fun _ q hq => absurd hq (by omega), fun _ => rfl⟩, fun a _ => ⟨fun _ q hq => absurd hq (by omega), fun _ => Int32.zero_and⟩⟩
theorem JB.n0 {u : Nat → Bool} {nm : Nat → Int32} {acc : Int32} {k : Nat} (h : JB u nm acc k) (hu : u k = false) : JB u nm acc (k + 1) := by
  have hq : ∀ q, q < k + 1 → q < k ∨ q = k := fun q h => by omega
  refine ⟨h.1.trans ⟨fun g q z => ?_, fun g q z => g q (by omega)⟩, fun a ha => (h.2 a ha).trans ⟨fun g q z zu => ?_, fun g q z => g q (by omega)⟩⟩
  · rcases hq q z with z | rfl
    · exact g q z
    · exact hu
  · rcases hq q z with z | rfl
    · exact g q z zu
    · rw [hu] at zu; cases zu
theorem JB.n {u : Nat → Bool} {nm : Nat → Int32} {acc : Int32} {k : Nat} (h : JB u nm acc k) (hu : u k = false) : JB u nm (acc ||| 0) (k + 1) := by
  rw [Int32.or_zero]
  exact h.n0 hu
theorem JB.y {u : Nat → Bool} {nm : Nat → Int32} {acc : Int32} {k b : Nat} (h : JB u nm acc k) (hb : b < 16) (hn : nm k = nI b) (hu : u k = true) : JB u nm (acc ||| bt b) (k + 1) := by
  refine ⟨⟨fun z => absurd (Int32.or_eq_zero_iff.mp z).2 (bt_ne hb), fun g => ?_⟩, fun a ha => ?_⟩
  · have := g k (by omega)
    rw [hu] at this
    cases this
  · rw [or_and3, Int32.or_eq_zero_iff, bt_and ha hb, h.2 a ha]
    constructor
    · rintro ⟨g1, g2⟩ q hq zu
      by_cases e : q = k
      · subst e
        rw [hn]
        intro e2
        have e3 := nI_inj' (by omega) (by omega) e2
        rw [if_pos e3] at g2
        exact bt_ne ha g2
      · exact g1 q (by omega) zu
    · intro g
      refine ⟨fun q hq zu => g q (by omega) zu, ?_⟩
      have e : ¬ b = a := fun e => g k (by omega) hu (by rw [hn, e])
      rw [if_neg e]
def ulX (σ : tI) (i : Nat) (w : Int32) (n k : Nat) : Bool := match likeO (σ 33 i) (σ 33 i k) (lastM (inP (σ 35 i) (σ 36 i) (σ 32 i) w (σ 32 i k)) n) with
  | none => decide (σ 37 i k = -9)
  | some q => decide (σ 34 i k < σ 34 i q)
def ulV (σ : tI) (i : Nat) (w v : Int32) (n : Nat) : Nat → Bool := fun k => hasP (σ 35 i) (σ 36 i) v k && ulX σ i w n k
def unP (σ : tI) (τ : tL) (t : Option (Nat × Nat)) (i n w v : Nat) : xP := fun r s τ2 t2 => (∃ acc, r = some (aI acc) ∧ JB (ulV σ i (nI w) (nI v) n) (σ 32 i) acc n) ∧ s = σ ∧ τ2 = τ ∧ t2 = t
set_option maxHeartbeats 4000000 in
theorem x_unl_lpB {i n w v : Nat} (hw : w < 10) (hn : σ 9 i 1 = nI n) (hn2 : n ≤ 12) (hX : ∀ k, k < n → ∃ b, b < 16 ∧ σ 32 i k = nI b) (hI : ∀ b, b < 16 → σ 38 i (16 * w + b) = pI (lastM (inP (σ 35 i) (σ 36 i) (σ 32 i) (nI w) (nI b)) n)) : ∀ (d k : Nat) (acc m5 m6 : Int32), k + d = n → JB (ulV σ i (nI w) (nI v) n) (σ 32 i) acc k → am_G l 85 (xQ (unP σ τ t i n w v)) 0 0 5 [(4, aI (nI k)), (3, aI acc), (6, aI m6), (5, aI m5), (0, aR 9 i), (1, aI (nI w)), (2, aI (nI v))] [] σ τ (rX t) cX lX
  | 0, k, acc, m5, m6, h, hJ => by
    obtain rfl : k = n := by omega
    refine am_vc_ok am_k85 [] 100 ?_
    refine And.intro (fun _ => ?_) (fun h1 => absurd (by rw [hn]; exact Int32.le_refl _) h1)
    refine am_vI am_k85 am_r85 rfl ⟨t, rfl, rfl, rfl, ⟨acc, rfl, hJ⟩, rfl, rfl, rfl⟩
  | d + 1, k, acc, m5, m6, h, hJ => by
    refine am_vc_ok am_k85 [5] 100 ?_
    refine And.intro (fun h1 => absurd h1 (by rw [hn]; exact nI_ge (b := n) (by omega) (by omega))) (fun _ => ?_)
    refine am_vO am_k85 am_h85 rfl rfl rfl rfl (x_has (by omega)) ?_
    refine am_vc_ok am_k85 [5] 100 ?_
    refine And.intro (fun e => ?_) (fun e => ?_)
    · have e := bI_0.mp e
      have K2 := x_unl_lpB hw hn hn2 hX hI d (k + 1) acc m5 m6 (by omega) (JB.n0 hJ (by simp [ulV, hasP]; intro z1 z2; exact absurd ⟨z1, z2⟩ e))
      rw [← nI_1 k] at K2
      exact K2
    · have e := bI_1.mp e
      obtain ⟨b, hb, eb⟩ := hX k (by omega)
      have ho2 : ∀ q, lastM (inP (σ 35 i) (σ 36 i) (σ 32 i) (nI w) (nI b)) n = some q → q < 12 := fun q hq => by have := (lastM_some hq).1; omega
      refine And.intro (vp_in_nI (N := 12) (by omega) (by decide)) ?_
      refine And.intro (vp_in_nI (N := 12) (by omega) (by decide)) ?_
      rw [nI_clamp (n := k) (by omega), eb]
      refine am_vO am_k85 am_h85 rfl rfl rfl rfl (x_itemLike (n := n) (v := w) (a := b) (so := σ 33 i k) hw hb (hI b hb) ho2) ?_
      refine am_vc_ok am_k85 [5] 100 ?_
      cases hl : likeO (σ 33 i) (σ 33 i k) (lastM (inP (σ 35 i) (σ 36 i) (σ 32 i) (nI w) (nI b)) n) with
      | none =>
        have hu : ulX σ i (nI w) n k = decide (σ 37 i k = -9) := by unfold ulX; rw [eb, hl]
        refine And.intro (fun _ => ?_) (fun g => absurd rfl g)
        refine am_vO am_k85 am_h85 rfl rfl rfl rfl (x_isNeeded (by omega)) ?_
        refine am_vc_ok am_k85 [5] 100 ?_
        refine And.intro (fun z => ?_) (fun z => ?_)
        · have z := bI_0.mp z
          have K2 := x_unl_lpB hw hn hn2 hX hI d (k + 1) (acc ||| 0) (-9) (bI (σ 37 i k = -9)) (by omega) (JB.n hJ (by simp [ulV, hu, z]))
          rw [← nI_1 k] at K2
          exact K2
        · have z := bI_1.mp z
          refine And.intro (vp_in_nI (N := 12) (by omega) (by decide)) ?_
          rw [nI_clamp (n := k) (by omega), eb]
          have K2 := x_unl_lpB hw hn hn2 hX hI d (k + 1) (acc ||| bt b) (-9) (bI (σ 37 i k = -9)) (by omega) (JB.y hJ hb eb (by simp [ulV, hasP, hu, z, e]))
          rw [← nI_1 k] at K2
          exact K2
      | some q =>
        have hu : ulX σ i (nI w) n k = decide (σ 34 i k < σ 34 i q) := by unfold ulX; rw [eb, hl]
        have hq : q < 12 := by
          unfold likeO at hl
          split at hl
          · cases hl
          · rename_i k2 hk2
            split at hl
            · cases hl; exact ho2 q hk2
            · cases hl
        refine And.intro (fun g => absurd g (n9_4 (by omega))) (fun _ => ?_)
        refine And.intro (vp_in_nI (N := 12) hq (by decide)) ?_
        refine And.intro (vp_in_nI (N := 12) (by omega) (by decide)) ?_
        rw [show pI (some q) = nI q from rfl, nI_clamp (n := q) (by omega), nI_clamp (n := k) (by omega)]
        refine And.intro (fun z => ?_) (fun z => ?_)
        · have z : ¬ σ 34 i k < σ 34 i q := Int32.not_lt.mpr z
          refine And.intro (fun _ => ?_) (fun g => absurd rfl g)
          have K2 := x_unl_lpB hw hn hn2 hX hI d (k + 1) (acc ||| 0) (nI q) 0 (by omega) (JB.n hJ (by simp [ulV, hu, z]))
          rw [← nI_1 k] at K2
          exact K2
        · have z : σ 34 i k < σ 34 i q := Int32.not_le.mp z
          refine And.intro (fun g => absurd g (by decide)) (fun _ => ?_)
          refine And.intro (vp_in_nI (N := 12) (by omega) (by decide)) ?_
          rw [nI_clamp (n := k) (by omega), eb]
          have K2 := x_unl_lpB hw hn hn2 hX hI d (k + 1) (acc ||| bt b) (nI q) 1 (by omega) (JB.y hJ hb eb (by simp [ulV, hasP, hu, z, e]))
          rw [← nI_1 k] at K2
          exact K2
set_option maxHeartbeats 4000000 in
theorem x_unl_lpA {i n w v : Nat} (hw : w < 10) (hn : σ 9 i 1 = nI n) (hn2 : n ≤ 12) (hX : ∀ k, k < n → ∃ b, b < 16 ∧ σ 32 i k = nI b) (hI : ∀ b, b < 16 → σ 38 i (16 * w + b) = pI (lastM (inP (σ 35 i) (σ 36 i) (σ 32 i) (nI w) (nI b)) n)) : ∀ (d k : Nat) (acc : Int32), k + d = n → JB (ulV σ i (nI w) (nI v) n) (σ 32 i) acc k → am_G l 85 (xQ (unP σ τ t i n w v)) 0 0 5 [(4, aI (nI k)), (3, aI acc), (0, aR 9 i), (1, aI (nI w)), (2, aI (nI v))] [] σ τ (rX t) cX lX
  | 0, k, acc, h, hJ => by
    obtain rfl : k = n := by omega
    refine am_vc_ok am_k85 [] 100 ?_
    refine And.intro (fun _ => ?_) (fun h1 => absurd (by rw [hn]; exact Int32.le_refl _) h1)
    refine am_vI am_k85 am_r85 rfl ⟨t, rfl, rfl, rfl, ⟨acc, rfl, hJ⟩, rfl, rfl, rfl⟩
  | d + 1, k, acc, h, hJ => by
    refine am_vc_ok am_k85 [5] 100 ?_
    refine And.intro (fun h1 => absurd h1 (by rw [hn]; exact nI_ge (b := n) (by omega) (by omega))) (fun _ => ?_)
    refine am_vO am_k85 am_h85 rfl rfl rfl rfl (x_has (by omega)) ?_
    refine am_vc_ok am_k85 [5] 100 ?_
    refine And.intro (fun e => ?_) (fun e => ?_)
    · have e := bI_0.mp e
      have K2 := x_unl_lpA hw hn hn2 hX hI d (k + 1) acc (by omega) (JB.n0 hJ (by simp [ulV, hasP]; intro z1 z2; exact absurd ⟨z1, z2⟩ e))
      rw [← nI_1 k] at K2
      exact K2
    · have e := bI_1.mp e
      obtain ⟨b, hb, eb⟩ := hX k (by omega)
      have ho2 : ∀ q, lastM (inP (σ 35 i) (σ 36 i) (σ 32 i) (nI w) (nI b)) n = some q → q < 12 := fun q hq => by have := (lastM_some hq).1; omega
      refine And.intro (vp_in_nI (N := 12) (by omega) (by decide)) ?_
      refine And.intro (vp_in_nI (N := 12) (by omega) (by decide)) ?_
      rw [nI_clamp (n := k) (by omega), eb]
      refine am_vO am_k85 am_h85 rfl rfl rfl rfl (x_itemLike (n := n) (v := w) (a := b) (so := σ 33 i k) hw hb (hI b hb) ho2) ?_
      refine am_vc_ok am_k85 [5] 100 ?_
      cases hl : likeO (σ 33 i) (σ 33 i k) (lastM (inP (σ 35 i) (σ 36 i) (σ 32 i) (nI w) (nI b)) n) with
      | none =>
        have hu : ulX σ i (nI w) n k = decide (σ 37 i k = -9) := by unfold ulX; rw [eb, hl]
        refine And.intro (fun _ => ?_) (fun g => absurd rfl g)
        refine am_vO am_k85 am_h85 rfl rfl rfl rfl (x_isNeeded (by omega)) ?_
        refine am_vc_ok am_k85 [5] 100 ?_
        refine And.intro (fun z => ?_) (fun z => ?_)
        · have z := bI_0.mp z
          have K2 := x_unl_lpB (l := l) (τ := τ) (t := t) hw hn hn2 hX hI d (k + 1) (acc ||| 0) (-9) (bI (σ 37 i k = -9)) (by omega) (JB.n hJ (by simp [ulV, hu, z]))
          rw [← nI_1 k] at K2
          exact K2
        · have z := bI_1.mp z
          refine And.intro (vp_in_nI (N := 12) (by omega) (by decide)) ?_
          rw [nI_clamp (n := k) (by omega), eb]
          have K2 := x_unl_lpB (l := l) (τ := τ) (t := t) hw hn hn2 hX hI d (k + 1) (acc ||| bt b) (-9) (bI (σ 37 i k = -9)) (by omega) (JB.y hJ hb eb (by simp [ulV, hasP, hu, z, e]))
          rw [← nI_1 k] at K2
          exact K2
      | some q =>
        have hu : ulX σ i (nI w) n k = decide (σ 34 i k < σ 34 i q) := by unfold ulX; rw [eb, hl]
        have hq : q < 12 := by
          unfold likeO at hl
          split at hl
          · cases hl
          · rename_i k2 hk2
            split at hl
            · cases hl; exact ho2 q hk2
            · cases hl
        refine And.intro (fun g => absurd g (n9_4 (by omega))) (fun _ => ?_)
        refine And.intro (vp_in_nI (N := 12) hq (by decide)) ?_
        refine And.intro (vp_in_nI (N := 12) (by omega) (by decide)) ?_
        rw [show pI (some q) = nI q from rfl, nI_clamp (n := q) (by omega), nI_clamp (n := k) (by omega)]
        refine And.intro (fun z => ?_) (fun z => ?_)
        · have z : ¬ σ 34 i k < σ 34 i q := Int32.not_lt.mpr z
          refine And.intro (fun _ => ?_) (fun g => absurd rfl g)
          have K2 := x_unl_lpB (l := l) (τ := τ) (t := t) hw hn hn2 hX hI d (k + 1) (acc ||| 0) (nI q) 0 (by omega) (JB.n hJ (by simp [ulV, hu, z]))
          rw [← nI_1 k] at K2
          exact K2
        · have z : σ 34 i k < σ 34 i q := Int32.not_le.mp z
          refine And.intro (fun g => absurd g (by decide)) (fun _ => ?_)
          refine And.intro (vp_in_nI (N := 12) (by omega) (by decide)) ?_
          rw [nI_clamp (n := k) (by omega), eb]
          have K2 := x_unl_lpB (l := l) (τ := τ) (t := t) hw hn hn2 hX hI d (k + 1) (acc ||| bt b) (nI q) 1 (by omega) (JB.y hJ hb eb (by simp [ulV, hasP, hu, z, e]))
          rw [← nI_1 k] at K2
          exact K2
theorem x_unlikeNames {i n w v : Nat} (hw : w < 10) (hn : σ 9 i 1 = nI n) (hn2 : n ≤ 12) (hX : ∀ k, k < n → ∃ b, b < 16 ∧ σ 32 i k = nI b) (hI : ∀ b, b < 16 → σ 38 i (16 * w + b) = pI (lastM (inP (σ 35 i) (σ 36 i) (σ 32 i) (nI w) (nI b)) n)) : am_T l 85 [aR 9 i, aI (nI w), aI (nI v)] σ τ t (unP σ τ t i n w v) := by
  refine am_T_of am_o85 am_l85 rfl ?_
  refine am_vc_ok am_k85 [5] 100 ?_
  exact x_unl_lpA hw hn hn2 hX hI n 0 0 (by omega) JB.z
end L25
