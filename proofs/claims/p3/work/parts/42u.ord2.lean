/-! sets of services: the machine's numbers; the model's changed, bits, allFit -/
section L38
variable {l : Launch} {σ σ2 : tI} {τ τ2 : tL} {t : Option (Nat × Nat)}
noncomputable def cI (p : Prop) : Int32 := @bI p (Classical.propDecidable p)
theorem cI_0 {p : Prop} : cI p = 0 ↔ ¬ p := @bI_0 p (Classical.propDecidable p)
theorem cI_n0 {p : Prop} : ¬ cI p = 0 ↔ p := @bI_1 p (Classical.propDecidable p)
theorem cI_t {p : Prop} (h : p) : cI p = 1 := @bI_t p (Classical.propDecidable p) h
theorem cI_f {p : Prop} (h : ¬ p) : cI p = 0 := @bI_f p (Classical.propDecidable p) h
theorem cI_1 {p : Prop} : cI p = 1 ↔ p := by
  constructor
  · intro h
    by_cases hp : p
    · exact hp
    · rw [cI_f hp] at h
      exact absurd h (by decide)
  · exact cI_t
theorem cI_01 {p : Prop} : cI p = 0 ∨ cI p = 1 := @bI_01 p (Classical.propDecidable p)
theorem cI_cg {p q : Prop} (h : p ↔ q) : cI p = cI q := by rw [propext h]
theorem has_mb : ∀ s, s < 64 → ∀ a, a < 6 → (((nI s >>> (nI a &&& 31)) &&& 1 = 1) ↔ mb s a = true) := by decide +kernel
theorem x_mb : ∀ s, s < 64 → ∀ a, a < 6 → ((nI s &&& ((1 : Int32) <<< (nI a &&& 31)) = 0) ↔ mb s a = false) := by decide +kernel
theorem or_ad : ∀ s, s < 64 → ∀ a, a < 6 → nI s ||| ((1 : Int32) <<< (nI a &&& 31)) = nI (ad s a) := by decide +kernel
theorem and_dl : ∀ s, s < 64 → ∀ a, a < 6 → nI s &&& (((1 : Int32) <<< (nI a &&& 31)) ^^^ (-1)) = nI (dl s a) := by decide +kernel
theorem sub_0 : ∀ s, s < 64 → ∀ c, c < 64 → ((nI s &&& (nI c ^^^ (-1)) = 0) ↔ ∀ x, x < 6 → mb s x = true → mb c x = true) := by decide +kernel
theorem shl_2 : ∀ a, a < 6 → (1 : Int32) <<< (nI a &&& 31) = nI (2 ^ a) := by decide +kernel
theorem p2_mb : ∀ a, a < 6 → ∀ x, x < 6 → mb (2 ^ a) x = Nat.beq x a := by decide +kernel
theorem p2_ad : ∀ a, a < 6 → ad 0 a = 2 ^ a := by decide +kernel
/-- the services that change -/
def chN (V0 V1 : Nat → Int32) : Nat → Nat
  | 0 => 0
  | a + 1 => if V0 a = V1 a then chN V0 V1 a else ad (chN V0 V1 a) a
theorem chN_lt {V0 V1 : Nat → Int32} : ∀ {n : Nat}, n ≤ 6 → chN V0 V1 n < 64
  | 0, _ => by show 0 < 64; decide
  | n + 1, h => by
    unfold chN
    split
    · exact chN_lt (by omega)
    · exact ad_lt _ (chN_lt (by omega)) n (by omega)
theorem chN_hi {V0 V1 : Nat → Int32} : ∀ {n : Nat}, n ≤ 6 → ∀ x, x < 6 → n ≤ x → mb (chN V0 V1 n) x = false
  | 0, _, x, _, _ => by
    have h : ∀ x, x < 6 → mb 0 x = false := by decide +kernel
    exact h x (by omega)
  | n + 1, h, x, hx, hnx => by
    unfold chN
    split
    · exact chN_hi (by omega) x hx (by omega)
    · rw [ad_ne (chN_lt (by omega)) (by omega) hx (by omega)]
      exact chN_hi (by omega) x hx (by omega)
theorem chN_mb {V0 V1 : Nat → Int32} : ∀ {n : Nat}, n ≤ 6 → ∀ x, x < n → (mb (chN V0 V1 n) x = true ↔ V0 x ≠ V1 x)
  | 0, _, x, h => absurd h (by omega)
  | n + 1, h, x, hx => by
    by_cases hxn : x = n
    · subst hxn
      unfold chN
      split
      · rename_i e
        rw [chN_hi (by omega) x (by omega) (by omega)]
        exact ⟨fun z => absurd z (by decide), fun z => absurd e z⟩
      · rename_i e
        rw [ad_self (chN_lt (by omega)) (by omega)]
        exact ⟨fun _ => e, fun _ => rfl⟩
    · unfold chN
      split
      · exact chN_mb (by omega) x (by omega)
      · rw [ad_ne (chN_lt (by omega)) (by omega) (by omega) hxn]
        exact chN_mb (by omega) x (by omega)
abbrev okW (σ : tI) : Nat → Int32 → Int32 → Prop := fun k x y => okP σ (σ 59 0 k) x y
abbrev chS (σ : tI) : Nat := chN (σ 57 0) (σ 58 0) 6
abbrev fitS (σ : tI) (s : Nat) : Prop := FT (okW σ) (σ 57 0) (σ 58 0) s
abbrev fsS (σ : tI) (s : Nat) : Prop := FS (okW σ) (σ 57 0) (σ 58 0) (chS σ) s
theorem chS_lt : chS σ < 64 := chN_lt (by omega)
theorem okW_k {f : tI} (h49 : f 49 = σ 49) (h50 : f 50 = σ 50) (h59 : f 59 = σ 59) : okW f = okW σ := by
  unfold okW okP fitP badA nmd mA
  rw [h49, h50, h59]
theorem verI_vv {s a : Nat} (hs : s < 64) (ha : a < 6) : verI σ (nI s) a = vv (σ 57 0) (σ 58 0) s a := by
  unfold verI vv
  by_cases h : mb s a = true
  · rw [if_pos ((has_mb s hs a ha).mpr h), h]
    rfl
  · rw [if_neg (fun z => h ((has_mb s hs a ha).mp z)), Bool.eq_false_iff.mpr h]
    rfl
theorem m_changed_lp {Q : tQ} (K : am_G l 203 Q 0 0 41 [(2, aI (nI 6)), (1, aI (nI (chS σ))), (0, aR 12 0)] [] σ τ (rX t) cX lX) : ∀ (d k : Nat) (v : Int32), k + d = 6 → v = nI (chN (σ 57 0) (σ 58 0) k) → am_G l 203 Q 0 0 4 [(2, aI (nI k)), (1, aI v), (0, aR 12 0)] [] σ τ (rX t) cX lX
  | 0, k, v, h, hv => by
    obtain rfl : k = 6 := by omega
    rw [hv]
    refine am_vc_ok am_k203 [4, 41] 100 ?_
    exact And.intro (fun _ => K) (fun h1 => absurd (show (6 : Int32) ≤ nI 6 by decide) h1)
  | d + 1, k, v, h, hv => by
    have hk : k < 6 := by omega
    refine am_vc_ok am_k203 [4, 41] 100 ?_
    refine And.intro (fun h1 => absurd h1 (nI_ge (b := 6) (by omega) (by decide))) (fun _ => ?_)
    refine And.intro (vp_in_nI (N := 6) hk (by decide)) ?_
    rw [nI_clamp (n := k) (by omega)]
    refine And.intro (vp_in_nI (N := 6) hk (by decide)) ?_
    rw [nI_clamp (n := k) (by omega)]
    refine And.intro (fun e => ?_) (fun e => ?_)
    · have e : σ 57 0 k = σ 58 0 k := e
      have K2 := m_changed_lp K d (k + 1) (v ||| 0) (by omega) (by rw [chN, if_pos e, hv]; simp)
      rw [← nI_1 k] at K2
      exact am_Gp [0, 1, 2] rfl K2
    · have e : ¬ σ 57 0 k = σ 58 0 k := e
      have K2 := m_changed_lp K d (k + 1) (v ||| ((1 : Int32) <<< (nI k &&& 31))) (by omega) (by rw [chN, if_neg e, hv, or_ad _ (chN_lt (by omega)) k hk])
      rw [← nI_1 k] at K2
      exact am_Gp [0, 1, 2] rfl K2
theorem m_changed : am_D l 203 [aR 12 0] σ τ (rX t) cX lX (some (aI (nI (chS σ)))) σ τ (rX t) := by
  refine am_D_of am_o203 am_l203 rfl ?_
  refine am_vc_ok am_k203 [4] 100 ?_
  refine am_Gp (ls2 := [(2, aI (nI 0)), (1, aI (nI 0)), (0, aR 12 0)]) [0, 1, 2] rfl ?_
  refine m_changed_lp ?_ 6 0 _ (by omega) rfl
  refine am_vc_ok am_k203 [] 100 ?_
  exact am_vI am_k203 am_r203 rfl ⟨rfl, rfl, rfl, rfl, rfl, rfl⟩
def bsI (s : Int32) : Nat → Int32
  | 0 => 0
  | k + 1 => bsI s k + ((s >>> (nI k &&& 31)) &&& 1)
theorem bsI_pc : ∀ s, s < 64 → bsI (nI s) 16 = nI (pc s) := by decide +kernel
theorem m_bits_lp {Q : tQ} {s : Int32} {ρ : tR} {cn : tN} {ln : tM} (K : am_G l 159 Q 0 0 24 [(2, aI (nI 16)), (1, aI (bsI s 16)), (0, aI s)] [] σ τ ρ cn ln) : ∀ (d k : Nat), k + d = 16 → am_G l 159 Q 0 0 4 [(2, aI (nI k)), (1, aI (bsI s k)), (0, aI s)] [] σ τ ρ cn ln
  | 0, k, h => by
    obtain rfl : k = 16 := by omega
    refine am_vc_ok am_k159 [4, 24] 100 ?_
    exact And.intro (fun _ => K) (fun h1 => absurd (show (16 : Int32) ≤ nI 16 by decide) h1)
  | d + 1, k, h => by
    have K2 := m_bits_lp K d (k + 1) (by omega)
    refine am_vc_ok am_k159 [4, 24] 100 ?_
    refine And.intro (fun h1 => absurd h1 (nI_ge (b := 16) (by omega) (by decide))) (fun _ => ?_)
    rw [← nI_1 k] at K2
    exact am_Gp [0, 1, 2] rfl K2
theorem m_bits {s : Nat} (hs : s < 64) : am_D l 159 [aI (nI s)] σ τ (rX t) cX lX (some (aI (nI (pc s)))) σ τ (rX t) := by
  rw [← bsI_pc s hs]
  refine am_D_of am_o159 am_l159 rfl ?_
  refine am_vc_ok am_k159 [4] 100 ?_
  refine am_Gp (ls2 := [(2, aI (nI 0)), (1, aI 0), (0, aI (nI s))]) [0, 1, 2] rfl ?_
  refine m_bits_lp ?_ 16 0 (by omega)
  refine am_vc_ok am_k159 [] 100 ?_
  exact am_vI am_k159 am_r159 rfl ⟨rfl, rfl, rfl, rfl, rfl, rfl⟩
def ftN (σ : tI) (s n : Nat) : Prop := ∀ k, k < n → okW σ k (vv (σ 57 0) (σ 58 0) s (k / 6)) (vv (σ 57 0) (σ 58 0) s (k % 6))
theorem m_allFit_lp {Q : tQ} {s : Nat} (hs : s < 64) (hD : DrOK σ) (K : am_G l 201 Q 0 0 35 [(3, aI (nI 36)), (2, aI (cI (fitS σ s))), (0, aR 12 0), (1, aI (nI s))] [] σ τ (rX t) cX lX) : ∀ (d k : Nat) (v : Int32), k + d = 36 → v = cI (ftN σ s k) → am_G l 201 Q 0 0 4 [(3, aI (nI k)), (2, aI v), (0, aR 12 0), (1, aI (nI s))] [] σ τ (rX t) cX lX
  | 0, k, v, h, hv => by
    obtain rfl : k = 36 := by omega
    rw [hv]
    refine am_vc_ok am_k201 [4, 35] 100 ?_
    exact And.intro (fun _ => K) (fun h1 => absurd (show (36 : Int32) ≤ nI 36 by decide) h1)
  | d + 1, k, v, h, hv => by
    have hk : k < 36 := by omega
    have hst : ftN σ s (k + 1) ↔ ftN σ s k ∧ okW σ k (vv (σ 57 0) (σ 58 0) s (k / 6)) (vv (σ 57 0) (σ 58 0) s (k % 6)) := by
      constructor
      · intro z
        exact ⟨fun j hj => z j (by omega), z k (by omega)⟩
      · rintro ⟨z1, z2⟩ j hj
        by_cases e : j = k
        · rw [e]; exact z2
        · exact z1 j (by omega)
    refine am_vc_ok am_k201 [4, 35] 100 ?_
    refine And.intro (fun h1 => absurd h1 (nI_ge (b := 36) (by omega) (by decide))) (fun _ => ?_)
    rw [hv]
    refine And.intro (fun e => ?_) (fun e => ?_)
    · have e := cI_0.mp e
      have K2 := m_allFit_lp hs hD K d (k + 1) 0 (by omega) (cI_f (fun z => e (hst.mp z).1)).symm
      rw [← nI_1 k] at K2
      exact am_Gp [0, 1, 2, 3] rfl K2
    · have e := cI_n0.mp e
      refine am_vO am_k201 am_h201 rfl rfl rfl rfl (m_isPair (set := nI s) hk (hD k hk)) ?_
      refine am_vc_ok am_k201 [4, 35] 100 ?_
      rw [verI_vv hs (by omega), verI_vv hs (by omega)]
      refine And.intro (fun g => ?_) (fun g => ?_)
      · have g := bI_0.mp g
        have K2 := m_allFit_lp hs hD K d (k + 1) 0 (by omega) (cI_f (fun z => g (hst.mp z).2)).symm
        rw [← nI_1 k] at K2
        exact am_Gp [0, 1, 2, 3] rfl K2
      · have g := bI_1.mp g
        have K2 := m_allFit_lp hs hD K d (k + 1) 1 (by omega) (cI_t (hst.mpr ⟨e, g⟩)).symm
        rw [← nI_1 k] at K2
        exact am_Gp [0, 1, 2, 3] rfl K2
theorem m_allFit {s : Nat} (hs : s < 64) (hD : DrOK σ) : am_D l 201 [aR 12 0, aI (nI s)] σ τ (rX t) cX lX (some (aI (cI (fitS σ s)))) σ τ (rX t) := by
  refine am_D_of am_o201 am_l201 rfl ?_
  refine am_vc_ok am_k201 [4] 100 ?_
  refine am_Gp (ls2 := [(3, aI (nI 0)), (2, aI 1), (0, aR 12 0), (1, aI (nI s))]) [0, 1, 2, 3] rfl ?_
  refine m_allFit_lp hs hD ?_ 36 0 _ (by omega) (cI_t (fun j hj => absurd hj (by omega))).symm
  refine am_vc_ok am_k201 [] 100 ?_
  refine am_vZ am_k201 am_r201 rfl cI_01 ⟨rfl, rfl, rfl, rfl, rfl, rfl⟩
end L38
