/-! door, call, and ticks of an empty net, both sides -/
section L17
variable {l : Launch} {σ σ2 s : tI} {τ τ2 : tL} {t : Option (Nat × Nat)}
theorem u3_self {f : tI} {k i j : Nat} {v : Int32} (h : f k i j = v) : u3 f k i j v = f := by
  funext a b c
  unfold u3
  by_cases h1 : a = k
  · by_cases h2 : b = i
    · by_cases h3 : c = j
      · subst h1 h2 h3; simp [h]
      · simp [h3]
    · simp [h2]
  · simp [h1]
theorem u3_twice {f : tI} {k i j : Nat} {v w : Int32} : u3 (u3 f k i j v) k i j w = u3 f k i j w := by
  funext a b c
  unfold u3
  by_cases h1 : a = k
  · by_cases h2 : b = i
    · by_cases h3 : c = j
      · simp [h1, h2, h3]
      · simp [h3]
    · simp [h2]
  · simp [h1]
theorem n9_4 {q : Nat} (h : q < 1000) : ¬ nI q = -9 := by
  intro e
  have e2 := congrArg Int32.toInt e
  rw [nI_toInt (by omega)] at e2
  have e3 : (-9 : Int32).toInt = -9 := by decide
  omega
theorem x_door_bad {a b s : Int32} (h : ¬ ((0 ≤ a ∧ a < 6) ∧ (0 ≤ b ∧ b < 6) ∧ a ≠ b) ∨ (¬ s = -9 ∧ ¬ (0 ≤ s ∧ s < 4))) : am_D l 112 [aR 11 0, aI a, aI b, aI s] σ τ (rX t) cX lX (some (aI (-1))) σ τ (rX t) := by
  refine am_D_of am_o112 am_l112 rfl ?_
  refine am_vc_ok am_k112 [] 100 ?_
  refine am_vS am_k112 am_h112 rfl rfl rfl rfl (x_isPair) ?_
  refine am_vc_ok am_k112 [] 100 ?_
  refine And.intro (fun h1 => ?_) (fun h1 => ?_)
  · exact am_vI am_k112 am_r112 rfl ⟨rfl, rfl, rfl, rfl, rfl, rfl⟩
  refine And.intro (fun h2 => ?_) (fun h2 => ?_)
  · rcases h with h | h
    · exact absurd (bI_1.mp h1) h
    · exact absurd h2 h.1
  refine am_vS am_k112 am_h112 rfl rfl rfl rfl (x_within) ?_
  refine am_vc_ok am_k112 [] 100 ?_
  refine And.intro (fun h3 => ?_) (fun h3 => ?_)
  · exact am_vI am_k112 am_r112 rfl ⟨rfl, rfl, rfl, rfl, rfl, rfl⟩
  · rcases h with h | h
    · exact absurd (bI_1.mp h1) h
    · exact absurd (bI_1.mp h3) h.2
theorem x_door_none {a b : Int32} {q : Nat} (hp : (0 ≤ a ∧ a < 6) ∧ (0 ≤ b ∧ b < 6) ∧ a ≠ b) (hq : q < 4) (h0 : σ 9 (1 + q) 0 = 0) : am_D l 112 [aR 11 0, aI a, aI b, aI (nI q)] σ τ (rX t) cX lX (some (aI (-3))) (xfind 1 σ) τ (rX t) := by
  refine am_D_of am_o112 am_l112 rfl ?_
  refine am_vc_ok am_k112 [] 100 ?_
  refine am_vS am_k112 am_h112 rfl rfl rfl rfl (x_isPair) ?_
  refine am_vc_ok am_k112 [] 100 ?_
  refine And.intro (fun g => absurd hp (bI_0.mp g)) (fun _ => ?_)
  refine And.intro (fun g => absurd g (n9_4 (by omega))) (fun _ => ?_)
  refine am_vS am_k112 am_h112 rfl rfl rfl rfl (x_within) ?_
  refine am_vc_ok am_k112 [] 100 ?_
  refine And.intro (fun g => absurd (in4 hq) (bI_0.mp g)) (fun _ => ?_)
  refine And.intro (fun g => absurd g (n9_4 (by omega))) (fun _ => ?_)
  refine And.intro (vp_in_nI (N := 4) hq (by decide)) ?_
  rw [nI_clamp (n := q) (by omega)]
  refine And.intro (fun _ => ?_) (fun g => absurd h0 g)
  refine am_vO am_k112 am_h112 rfl rfl rfl rfl (x_find (w := 1) (by decide)) ?_
  refine am_vc_ok am_k112 [] 100 ?_
  exact am_vI am_k112 am_r112 rfl ⟨rfl, rfl, rfl, rfl, rfl, rfl⟩
theorem x_door_off {a b : Nat} (ha : a < 6) (hb : b < 6) (hab : nI a ≠ nI b) : am_D l 112 [aR 11 0, aI (nI a), aI (nI b), aI (-9)] σ τ (rX t) cX lX (some (aI (σ 31 a b))) (u3 σ 31 a b (-9)) τ (rX t) := by
  refine am_D_of am_o112 am_l112 rfl ?_
  refine am_vc_ok am_k112 [] 100 ?_
  refine am_vS am_k112 am_h112 rfl rfl rfl rfl (x_isPair) ?_
  refine am_vc_ok am_k112 [] 100 ?_
  refine And.intro (fun g => absurd ⟨in6 ha, in6 hb, hab⟩ (bI_0.mp g)) (fun _ => ?_)
  refine And.intro (fun _ => ?_) (fun g => absurd rfl g)
  refine And.intro (fun _ => ?_) (fun g => absurd rfl g)
  refine And.intro (vp_in_nI (N := 6) ha (by decide)) ?_
  rw [nI_clamp (n := a) (by omega)]
  refine And.intro (vp_in_nI (N := 6) hb (by decide)) ?_
  rw [nI_clamp (n := b) (by omega)]
  refine And.intro (vp_in_nI (N := 6) ha (by decide)) ?_
  rw [nI_clamp (n := a) (by omega)]
  refine And.intro (vp_in_nI (N := 6) hb (by decide)) ?_
  rw [nI_clamp (n := b) (by omega)]
  exact am_vI am_k112 am_r112 rfl ⟨rfl, rfl, rfl, rfl, rfl, rfl⟩
theorem m_door_bad {a b s : Int32} (h : ¬ ((0 ≤ a ∧ a ≤ 5) ∧ (0 ≤ b ∧ b ≤ 5) ∧ a ≠ b) ∨ (¬ s = -9 ∧ ¬ (0 ≤ s ∧ s ≤ 3))) : am_D l 198 [aR 12 0, aI a, aI b, aI s] σ τ (rX t) cX lX (some (aI (-1))) σ τ (rX t) := by
  refine am_D_of am_o198 am_l198 rfl ?_
  refine am_vc_ok am_k198 [] 100 ?_
  refine am_vS am_k198 am_h198 rfl rfl rfl rfl (m_isSix) ?_
  refine am_vc_ok am_k198 [] 100 ?_
  refine And.intro (fun h1 => ?_) (fun h1 => ?_)
  · exact am_vI am_k198 am_r198 rfl ⟨rfl, rfl, rfl, rfl, rfl, rfl⟩
  refine am_vS am_k198 am_h198 rfl rfl rfl rfl (m_isSix) ?_
  refine am_vc_ok am_k198 [] 100 ?_
  refine And.intro (fun h2 => ?_) (fun h2 => ?_)
  · exact am_vI am_k198 am_r198 rfl ⟨rfl, rfl, rfl, rfl, rfl, rfl⟩
  refine And.intro (fun h3 => ?_) (fun h3 => ?_)
  · exact am_vI am_k198 am_r198 rfl ⟨rfl, rfl, rfl, rfl, rfl, rfl⟩
  refine And.intro (fun h4 => ?_) (fun h4 => ?_)
  · rcases h with h | h
    · exact absurd ⟨bI_1.mp h1, bI_1.mp h2, h3⟩ h
    · exact absurd h4 h.1
  refine am_vS am_k198 am_h198 rfl rfl rfl rfl (m_isShape) ?_
  refine am_vc_ok am_k198 [] 100 ?_
  refine And.intro (fun h5 => ?_) (fun h5 => ?_)
  · exact am_vI am_k198 am_r198 rfl ⟨rfl, rfl, rfl, rfl, rfl, rfl⟩
  · rcases h with h | h
    · exact absurd ⟨bI_1.mp h1, bI_1.mp h2, h3⟩ h
    · exact absurd (bI_1.mp h5) h.2
theorem m_door_none {a b : Int32} {q : Nat} (hp : (0 ≤ a ∧ a ≤ 5) ∧ (0 ≤ b ∧ b ≤ 5) ∧ a ≠ b) (hq : q < 4) (h0 : σ 49 0 q < 0) : am_D l 198 [aR 12 0, aI a, aI b, aI (nI q)] σ τ (rX t) cX lX (some (aI (-3))) (mmeets 1 σ) τ (rX t) := by
  refine am_D_of am_o198 am_l198 rfl ?_
  refine am_vc_ok am_k198 [] 100 ?_
  refine am_vS am_k198 am_h198 rfl rfl rfl rfl (m_isSix) ?_
  refine am_vc_ok am_k198 [] 100 ?_
  refine And.intro (fun g => absurd hp.1 (bI_0.mp g)) (fun _ => ?_)
  refine am_vS am_k198 am_h198 rfl rfl rfl rfl (m_isSix) ?_
  refine am_vc_ok am_k198 [] 100 ?_
  refine And.intro (fun g => absurd hp.2.1 (bI_0.mp g)) (fun _ => ?_)
  refine And.intro (fun g => absurd g hp.2.2) (fun _ => ?_)
  refine And.intro (fun g => absurd g (n9_4 (by omega))) (fun _ => ?_)
  refine am_vS am_k198 am_h198 rfl rfl rfl rfl (m_isShape) ?_
  refine am_vc_ok am_k198 [] 100 ?_
  refine And.intro (fun g => absurd (in3 hq) (bI_0.mp g)) (fun _ => ?_)
  refine And.intro (fun g => absurd g (n9_4 (by omega))) (fun _ => ?_)
  refine And.intro (vp_in_nI (N := 4) hq (by decide)) ?_
  rw [nI_clamp (n := q) (by omega)]
  refine And.intro (fun g => absurd h0 (Int32.not_lt.mpr g)) (fun _ => ?_)
  refine am_vO am_k198 am_h198 rfl rfl rfl rfl (m_meets (w := 1) (by decide)) ?_
  refine am_vc_ok am_k198 [] 100 ?_
  exact am_vI am_k198 am_r198 rfl ⟨rfl, rfl, rfl, rfl, rfl, rfl⟩
theorem n6 (a b : Nat) : (6 : Int32) * nI a + nI b = nI (6 * a + b) := by
  rw [show (6 : Int32) = nI 6 from rfl, show nI 6 * nI a = nI (6 * a) from (Int32.ofNat_mul 6 a).symm, nI_add]
theorem m_door_off {a b : Nat} (ha : a < 6) (hb : b < 6) (hab : nI a ≠ nI b) : am_D l 198 [aR 12 0, aI (nI a), aI (nI b), aI (-9)] σ τ (rX t) cX lX (some (aI (σ 59 0 (6 * a + b)))) (u3 σ 59 0 (6 * a + b) (-9)) τ (rX t) := by
  refine am_D_of am_o198 am_l198 rfl ?_
  refine am_vc_ok am_k198 [] 100 ?_
  refine am_vS am_k198 am_h198 rfl rfl rfl rfl (m_isSix) ?_
  refine am_vc_ok am_k198 [] 100 ?_
  refine And.intro (fun g => absurd (in5 ha) (bI_0.mp g)) (fun _ => ?_)
  refine am_vS am_k198 am_h198 rfl rfl rfl rfl (m_isSix) ?_
  refine am_vc_ok am_k198 [] 100 ?_
  refine And.intro (fun g => absurd (in5 hb) (bI_0.mp g)) (fun _ => ?_)
  refine And.intro (fun g => absurd g hab) (fun _ => ?_)
  refine And.intro (fun _ => ?_) (fun g => absurd rfl g)
  refine And.intro (fun _ => ?_) (fun g => absurd rfl g)
  refine And.intro (by rw [n6]; exact vp_in_nI (N := 36) (by omega) (by decide)) ?_
  rw [n6, nI_clamp (n := 6 * a + b) (by omega)]
  refine And.intro (by rw [n6]; exact vp_in_nI (N := 36) (by omega) (by decide)) ?_
  rw [n6, nI_clamp (n := 6 * a + b) (by omega)]
  exact am_vI am_k198 am_r198 rfl ⟨rfl, rfl, rfl, rfl, rfl, rfl⟩
-- a call is told
theorem x_nsend1 {m c : Nat} {d : Int32} (hc : c < 30) (hm : σ 1 0 0 = nI m) (hm2 : m < 690) : am_D l 15 [aR 3 0, aI 1, aI (nI c), aI d] σ τ (rX t) cX lX (some (aI (nI m))) (xsend σ m c 1 (σ 0 c 0) (σ 0 c 1) d) τ (rX t) := by
  refine am_D_of am_o15 am_l15 rfl ?_
  refine am_vc_ok am_k15 [] 100 ?_
  refine And.intro (vp_in_nI (N := 30) hc (by decide)) ?_
  rw [nI_clamp (by omega)]
  refine And.intro (fun _ => ?_) (fun h => absurd rfl h)
  refine And.intro (fun h => absurd h (by decide)) (fun _ => ?_)
  refine And.intro (fun h => absurd h (by decide)) (fun _ => ?_)
  refine am_vO am_k15 am_h15 rfl rfl rfl rfl (x_addF (m := m) (by simp [u3, hm]) hm2) ?_
  refine am_vc_ok am_k15 [] 100 ?_
  refine am_vI am_k15 am_r15 rfl ⟨rfl, ?_, rfl, rfl, rfl, rfl⟩
  rw [u3_jj (show 0 ≠ 11 by decide), u3_jj (show 1 ≠ 11 by decide)]
  rfl
theorem x_nask {m c : Nat} (hc : c < 30) (hm : σ 1 0 0 = nI m) (hm2 : m < 690) : am_D l 16 [aR 3 0, aI (nI c)] σ τ (rX t) cX lX none (xsend (u3 σ 0 c 10 (σ 3 0 4)) m c 1 (σ 0 c 0) (σ 0 c 1) 0) τ (rX t) := by
  refine am_D_of am_o16 am_l16 rfl ?_
  refine am_vc_ok am_k16 [] 100 ?_
  refine And.intro (vp_in_nI (N := 30) hc (by decide)) ?_
  rw [nI_clamp (n := c) (by omega)]
  refine am_vO am_k16 am_h16 rfl rfl rfl rfl (x_nsend1 (m := m) hc (by simp [u3, hm]) hm2) ?_
  refine am_vc_ok am_k16 [] 100 ?_
  refine am_vV am_k16 am_r16 rfl ⟨rfl, ?_, rfl, rfl, rfl, rfl⟩
  rw [u3_jj (show 0 ≠ 10 by decide), u3_jj (show 1 ≠ 10 by decide)]
def xop (σ : tI) (n : Nat) (a b s w h p : Int32) : tI := u3 (u3 (u3 (u3 (u3 (u3 (u3 (u3 (u3 σ 0 n 0 a) 0 n 1 b) 0 n 2 s) 0 n 3 w) 0 n 4 p) 0 n 5 (σ 3 0 4)) 0 n 6 (σ 3 0 4 + h)) 3 0 5 (σ 3 0 5 + 1)) 3 0 6 (σ 3 0 6 + 1)
def xopen (σ : tI) (n m : Nat) (a b s w h p : Int32) : tI := xsend (u3 (xop σ n a b s w h p) 0 n 10 ((xop σ n a b s w h p) 3 0 4)) m n 1 ((xop σ n a b s w h p) 0 n 0) ((xop σ n a b s w h p) 0 n 1) 0
theorem x_open {n m : Nat} {a b s w h p : Int32} (hn : σ 3 0 5 = nI n) (hn2 : n < 30) (hm : σ 1 0 0 = nI m) (hm2 : m < 690) : am_D l 14 [aR 3 0, aI a, aI b, aI s, aI w, aI h, aI p] σ τ (rX t) cX lX (some (aI (nI n))) (xopen σ n m a b s w h p) τ (rX t) := by
  refine am_D_of am_o14 am_l14 rfl ?_
  refine am_vc_ok am_k14 [] 100 ?_
  refine And.intro (by rw [hn]; exact vp_in_nI (N := 30) hn2 (by decide)) ?_
  rw [hn, nI_clamp (n := n) (by omega)]
  refine am_vO am_k14 am_h14 rfl rfl rfl rfl (x_nask (m := m) hn2 (by simp [u3, hm]) hm2) ?_
  refine am_vc_ok am_k14 [] 100 ?_
  exact am_vI am_k14 am_r14 rfl ⟨rfl, rfl, rfl, rfl, rfl, rfl⟩
theorem x_call_bad {a b s w h p : Int32} (hb : ¬ (((0 ≤ a ∧ a < 6) ∧ (0 ≤ b ∧ b < 6) ∧ a ≠ b) ∧ (0 ≤ s ∧ s < 3) ∧ (1 ≤ w ∧ w ≤ 9) ∧ (1 ≤ h ∧ h ≤ 99) ∧ (0 ≤ p ∧ p ≤ 5))) : am_D l 118 [aR 11 0, aI a, aI b, aI s, aI w, aI h, aI p] σ τ (rX t) cX lX (some (aI (-1))) σ τ (rX t) := by
  refine am_D_of am_o118 am_l118 rfl ?_
  refine am_vc_ok am_k118 [] 100 ?_
  refine am_vS am_k118 am_h118 rfl rfl rfl rfl (x_isPair) ?_
  refine am_vc_ok am_k118 [] 100 ?_
  refine And.intro (fun h1 => ?_) (fun h1 => ?_)
  · exact am_vI am_k118 am_r118 rfl ⟨rfl, rfl, rfl, rfl, rfl, rfl⟩
  refine am_vS am_k118 am_h118 rfl rfl rfl rfl (x_within) ?_
  refine am_vc_ok am_k118 [] 100 ?_
  refine And.intro (fun h2 => ?_) (fun h2 => ?_)
  · exact am_vI am_k118 am_r118 rfl ⟨rfl, rfl, rfl, rfl, rfl, rfl⟩
  refine And.intro (fun h3 => ?_) (fun h3 => ?_)
  · exact am_vI am_k118 am_r118 rfl ⟨rfl, rfl, rfl, rfl, rfl, rfl⟩
  refine And.intro (fun h4 => ?_) (fun h4 => ?_)
  · refine And.intro (fun h5 => ?_) (fun h5 => ?_)
    · exact am_vI am_k118 am_r118 rfl ⟨rfl, rfl, rfl, rfl, rfl, rfl⟩
    refine And.intro (fun h6 => ?_) (fun h6 => ?_)
    · exact am_vI am_k118 am_r118 rfl ⟨rfl, rfl, rfl, rfl, rfl, rfl⟩
    refine And.intro (fun h7 => ?_) (fun h7 => ?_)
    · exact am_vI am_k118 am_r118 rfl ⟨rfl, rfl, rfl, rfl, rfl, rfl⟩
    refine And.intro (fun h8 => ?_) (fun h8 => ?_)
    · exact absurd ⟨bI_1.mp h1, bI_1.mp h2, ⟨Int32.not_lt.mp h3, h4⟩, ⟨Int32.not_lt.mp h5, Int32.not_lt.mp h6⟩, Int32.not_lt.mp h7, h8⟩ hb
    · exact am_vI am_k118 am_r118 rfl ⟨rfl, rfl, rfl, rfl, rfl, rfl⟩
  · exact am_vI am_k118 am_r118 rfl ⟨rfl, rfl, rfl, rfl, rfl, rfl⟩
theorem x_call {n m : Nat} {a b s w h p : Int32} (hb : ((0 ≤ a ∧ a < 6) ∧ (0 ≤ b ∧ b < 6) ∧ a ≠ b) ∧ (0 ≤ s ∧ s < 3) ∧ (1 ≤ w ∧ w ≤ 9) ∧ (1 ≤ h ∧ h ≤ 99) ∧ (0 ≤ p ∧ p ≤ 5)) (hn : σ 3 0 5 = nI n) (hn2 : n < 30) (hT : σ 3 0 4 + h ≤ 9999) (hm : σ 1 0 0 = nI m) (hm2 : m < 690) : am_D l 118 [aR 11 0, aI a, aI b, aI s, aI w, aI h, aI p] σ τ (rX t) cX lX (some (aI (nI n))) (xopen σ n m a b s w h p) τ (rX t) := by
  obtain ⟨b1, b2, b3, b4, b5⟩ := hb
  refine am_D_of am_o118 am_l118 rfl ?_
  refine am_vc_ok am_k118 [] 100 ?_
  refine am_vS am_k118 am_h118 rfl rfl rfl rfl (x_isPair) ?_
  refine am_vc_ok am_k118 [] 100 ?_
  refine And.intro (fun g => absurd b1 (bI_0.mp g)) (fun _ => ?_)
  refine am_vS am_k118 am_h118 rfl rfl rfl rfl (x_within) ?_
  refine am_vc_ok am_k118 [] 100 ?_
  refine And.intro (fun g => absurd b2 (bI_0.mp g)) (fun _ => ?_)
  refine And.intro (fun g => absurd b3.1 (Int32.not_le.mpr g)) (fun _ => ?_)
  refine And.intro (fun _ => ?_) (fun g => absurd b3.2 g)
  refine And.intro (fun g => absurd b4.1 (Int32.not_le.mpr g)) (fun _ => ?_)
  refine And.intro (fun g => absurd b4.2 (Int32.not_le.mpr g)) (fun _ => ?_)
  refine And.intro (fun g => absurd b5.1 (Int32.not_le.mpr g)) (fun _ => ?_)
  refine And.intro (fun _ => ?_) (fun g => absurd b5.2 g)
  refine And.intro (fun _ => ?_) (fun g => absurd (by rw [hn]; exact nI_lt (b := 30) hn2 (by decide)) g)
  refine And.intro (fun _ => ?_) (fun g => absurd hT g)
  refine am_vO am_k118 am_h118 rfl rfl rfl rfl (x_open hn hn2 hm hm2) ?_
  refine am_vc_ok am_k118 [] 100 ?_
  exact am_vI am_k118 am_r118 rfl ⟨rfl, rfl, rfl, rfl, rfl, rfl⟩
def mop (σ : tI) (n : Nat) (a b s w h p : Int32) : tI := u3 (u3 (u3 (u3 (u3 (u3 (u3 (u3 (u3 (u3 (u3 (u3 σ 12 0 34 (σ 12 0 34 + 1)) 65 0 n a) 66 0 n b) 67 0 n s) 68 0 n w) 69 0 n (σ 12 0 5 + h)) 70 0 n p) 71 0 n 0) 74 0 n (σ 12 0 5)) 75 0 n (-9)) 79 0 n (-9)) 76 0 n (σ 12 0 5)
def mopen (σ : tI) (n m : Nat) (a b s w h p : Int32) : tI := msend (mop σ n a b s w h p) m 1 ((mop σ n a b s w h p) 65 0 n) ((mop σ n a b s w h p) 66 0 n) (nI n) 0
theorem m_call_bad {a b s w h p : Int32} (hb : ¬ (((0 ≤ a ∧ a ≤ 5) ∧ (0 ≤ b ∧ b ≤ 5) ∧ a ≠ b) ∧ (0 ≤ s ∧ s ≤ 2) ∧ (1 ≤ w ∧ w ≤ 9) ∧ (1 ≤ h ∧ h ≤ 99) ∧ (0 ≤ p ∧ p ≤ 5))) : am_D l 212 [aR 12 0, aI a, aI b, aI s, aI w, aI h, aI p] σ τ (rX t) cX lX (some (aI (-1))) σ τ (rX t) := by
  refine am_D_of am_o212 am_l212 rfl ?_
  refine am_vc_ok am_k212 [] 100 ?_
  refine am_vS am_k212 am_h212 rfl rfl rfl rfl (m_isSix) ?_
  refine am_vc_ok am_k212 [] 100 ?_
  refine And.intro (fun h1 => ?_) (fun h1 => ?_)
  · exact am_vI am_k212 am_r212 rfl ⟨rfl, rfl, rfl, rfl, rfl, rfl⟩
  refine am_vS am_k212 am_h212 rfl rfl rfl rfl (m_isSix) ?_
  refine am_vc_ok am_k212 [] 100 ?_
  refine And.intro (fun h2 => ?_) (fun h2 => ?_)
  · exact am_vI am_k212 am_r212 rfl ⟨rfl, rfl, rfl, rfl, rfl, rfl⟩
  refine And.intro (fun h3 => ?_) (fun h3 => ?_)
  · exact am_vI am_k212 am_r212 rfl ⟨rfl, rfl, rfl, rfl, rfl, rfl⟩
  refine am_vS am_k212 am_h212 rfl rfl rfl rfl (m_in) ?_
  refine am_vc_ok am_k212 [] 100 ?_
  refine And.intro (fun h4 => ?_) (fun h4 => ?_)
  · exact am_vI am_k212 am_r212 rfl ⟨rfl, rfl, rfl, rfl, rfl, rfl⟩
  refine am_vS am_k212 am_h212 rfl rfl rfl rfl (m_in) ?_
  refine am_vc_ok am_k212 [] 100 ?_
  refine And.intro (fun h5 => ?_) (fun h5 => ?_)
  · exact am_vI am_k212 am_r212 rfl ⟨rfl, rfl, rfl, rfl, rfl, rfl⟩
  refine am_vS am_k212 am_h212 rfl rfl rfl rfl (m_in) ?_
  refine am_vc_ok am_k212 [] 100 ?_
  refine And.intro (fun h6 => ?_) (fun h6 => ?_)
  · exact am_vI am_k212 am_r212 rfl ⟨rfl, rfl, rfl, rfl, rfl, rfl⟩
  refine am_vS am_k212 am_h212 rfl rfl rfl rfl (m_in) ?_
  refine am_vc_ok am_k212 [] 100 ?_
  refine And.intro (fun h7 => ?_) (fun h7 => ?_)
  · exact am_vI am_k212 am_r212 rfl ⟨rfl, rfl, rfl, rfl, rfl, rfl⟩
  · exact absurd ⟨⟨bI_1.mp h1, bI_1.mp h2, h3⟩, bI_1.mp h4, bI_1.mp h5, bI_1.mp h6, bI_1.mp h7⟩ hb
theorem m_call {n m : Nat} {a b s w h p : Int32} (hb : ((0 ≤ a ∧ a ≤ 5) ∧ (0 ≤ b ∧ b ≤ 5) ∧ a ≠ b) ∧ (0 ≤ s ∧ s ≤ 2) ∧ (1 ≤ w ∧ w ≤ 9) ∧ (1 ≤ h ∧ h ≤ 99) ∧ (0 ≤ p ∧ p ≤ 5)) (hn : σ 12 0 34 = nI n) (hn2 : n < 30) (hT : σ 12 0 5 + h ≤ 9999) (hm : σ 12 0 54 = nI m) (hm2 : m < 690) : am_D l 212 [aR 12 0, aI a, aI b, aI s, aI w, aI h, aI p] σ τ (rX t) cX lX (some (aI (nI n))) (mopen σ n m a b s w h p) τ (rX t) := by
  obtain ⟨b1, b2, b3, b4, b5⟩ := hb
  refine am_D_of am_o212 am_l212 rfl ?_
  refine am_vc_ok am_k212 [] 100 ?_
  refine am_vS am_k212 am_h212 rfl rfl rfl rfl (m_isSix) ?_
  refine am_vc_ok am_k212 [] 100 ?_
  refine And.intro (fun g => absurd b1.1 (bI_0.mp g)) (fun _ => ?_)
  refine am_vS am_k212 am_h212 rfl rfl rfl rfl (m_isSix) ?_
  refine am_vc_ok am_k212 [] 100 ?_
  refine And.intro (fun g => absurd b1.2.1 (bI_0.mp g)) (fun _ => ?_)
  refine And.intro (fun g => absurd g b1.2.2) (fun _ => ?_)
  refine am_vS am_k212 am_h212 rfl rfl rfl rfl (m_in) ?_
  refine am_vc_ok am_k212 [] 100 ?_
  refine And.intro (fun g => absurd b2 (bI_0.mp g)) (fun _ => ?_)
  refine am_vS am_k212 am_h212 rfl rfl rfl rfl (m_in) ?_
  refine am_vc_ok am_k212 [] 100 ?_
  refine And.intro (fun g => absurd b3 (bI_0.mp g)) (fun _ => ?_)
  refine am_vS am_k212 am_h212 rfl rfl rfl rfl (m_in) ?_
  refine am_vc_ok am_k212 [] 100 ?_
  refine And.intro (fun g => absurd b4 (bI_0.mp g)) (fun _ => ?_)
  refine am_vS am_k212 am_h212 rfl rfl rfl rfl (m_in) ?_
  refine am_vc_ok am_k212 [] 100 ?_
  refine And.intro (fun g => absurd b5 (bI_0.mp g)) (fun _ => ?_)
  refine And.intro (fun g => absurd g (by rw [hn]; intro e; have e2 := congrArg Int32.toInt e; rw [nI_toInt (by omega)] at e2; have e3 : (30 : Int32).toInt = 30 := by decide
                                          omega)) (fun _ => ?_)
  refine And.intro (fun _ => ?_) (fun g => absurd hT g)
  refine And.intro (by rw [hn]; exact vp_in_nI (N := 30) hn2 (by decide)) ?_
  rw [hn, nI_clamp (n := n) (by omega)]
  refine And.intro (vp_in_nI (N := 30) hn2 (by decide)) ?_
  rw [nI_clamp (n := n) (by omega)]
  refine And.intro (vp_in_nI (N := 30) hn2 (by decide)) ?_
  rw [nI_clamp (n := n) (by omega)]
  refine And.intro (vp_in_nI (N := 30) hn2 (by decide)) ?_
  rw [nI_clamp (n := n) (by omega)]
  refine And.intro (vp_in_nI (N := 30) hn2 (by decide)) ?_
  rw [nI_clamp (n := n) (by omega)]
  refine And.intro (vp_in_nI (N := 30) hn2 (by decide)) ?_
  rw [nI_clamp (n := n) (by omega)]
  refine And.intro (vp_in_nI (N := 30) hn2 (by decide)) ?_
  rw [nI_clamp (n := n) (by omega)]
  refine And.intro (vp_in_nI (N := 30) hn2 (by decide)) ?_
  rw [nI_clamp (n := n) (by omega)]
  refine And.intro (vp_in_nI (N := 30) hn2 (by decide)) ?_
  rw [nI_clamp (n := n) (by omega)]
  refine And.intro (vp_in_nI (N := 30) hn2 (by decide)) ?_
  rw [nI_clamp (n := n) (by omega)]
  refine And.intro (vp_in_nI (N := 30) hn2 (by decide)) ?_
  rw [nI_clamp (n := n) (by omega)]
  refine am_vO am_k212 am_h212 rfl rfl rfl rfl (m_sendOut (m := m) hn2 (by simp [u3, hm]) hm2) ?_
  refine am_vc_ok am_k212 [] 100 ?_
  refine am_vI am_k212 am_r212 rfl ⟨rfl, ?_, rfl, rfl, rfl, rfl⟩
  simp only [mopen, mop, hn]
  rfl
-- ticks of an empty net
theorem x_share0 (hn : σ 3 0 5 = 0) : am_D l 20 [aR 3 0] σ τ (rX t) cX lX none σ τ (rX t) := by
  refine am_D_of am_o20 am_l20 rfl ?_
  refine am_vc_ok am_k20 [] 100 ?_
  refine And.intro (fun _ => ?_) (fun g => absurd (by rw [hn]; decide) g)
  exact am_vV am_k20 am_r20 rfl ⟨rfl, rfl, rfl, rfl, rfl, rfl⟩
theorem x_deliver0 (h : σ 1 0 2 = σ 1 0 0) : am_D l 21 [aR 3 0] σ τ (rX t) cX lX (some (aI 0)) (u3 σ 1 0 2 (σ 1 0 0)) τ (rX t) := by
  refine am_D_of am_o21 am_l21 rfl ?_
  refine am_vc_ok am_k21 [] 100 ?_
  refine And.intro (fun _ => ?_) (fun g => absurd (by rw [h]; exact Int32.le_refl _) g)
  exact am_vI am_k21 am_r21 rfl ⟨rfl, rfl, rfl, rfl, rfl, rfl⟩
theorem x_finish0 {a : Int32} (hn : σ 3 0 5 = 0) : am_D l 25 [aR 3 0, aI a] σ τ (rX t) cX lX none σ τ (rX t) := by
  refine am_D_of am_o25 am_l25 rfl ?_
  refine am_vc_ok am_k25 [] 100 ?_
  refine And.intro (fun _ => ?_) (fun g => absurd (by rw [hn]; decide) g)
  exact am_vV am_k25 am_r25 rfl ⟨rfl, rfl, rfl, rfl, rfl, rfl⟩
theorem x_begin0 {a : Int32} (ha : vp_in a 6) (hn : σ 3 0 5 = 0) : am_D l 27 [aR 3 0, aI a] σ τ (rX t) cX lX none σ τ (rX t) := by
  refine am_D_of am_o27 am_l27 rfl ?_
  refine am_vc_ok am_k27 [] 100 ?_
  refine And.intro (ha) ?_
  refine And.intro (fun _ => ?_) (fun g => absurd (by rw [hn]; decide) g)
  exact am_vV am_k27 am_r27 rfl ⟨rfl, rfl, rfl, rfl, rfl, rfl⟩
theorem x_watch0 (hn : σ 3 0 5 = 0) : am_D l 29 [aR 3 0] σ τ (rX t) cX lX none σ τ (rX t) := by
  refine am_D_of am_o29 am_l29 rfl ?_
  refine am_vc_ok am_k29 [] 100 ?_
  refine And.intro (fun _ => ?_) (fun g => absurd (by rw [hn]; decide) g)
  exact am_vV am_k29 am_r29 rfl ⟨rfl, rfl, rfl, rfl, rfl, rfl⟩
theorem x_pass0 (hn : σ 3 0 5 = 0) (h : σ 1 0 2 = σ 1 0 0) : am_D l 19 [aR 3 0] σ τ (rX t) cX lX (some (aI 0)) (u3 (u3 σ 3 0 4 (σ 3 0 4 + 1)) 1 0 2 (σ 1 0 0)) τ (rX t) := by
  refine am_D_of am_o19 am_l19 rfl ?_
  refine am_vc_ok am_k19 [] 100 ?_
  refine am_vO am_k19 am_h19 rfl rfl rfl rfl (x_share0 hn) ?_
  refine am_vc_ok am_k19 [] 100 ?_
  refine am_vO am_k19 am_h19 rfl rfl rfl rfl (x_deliver0 (by simp [u3, h])) ?_
  refine am_vc_ok am_k19 [] 100 ?_
  refine And.intro (fun g => absurd g (by decide)) (fun _ => ?_)
  refine am_vO am_k19 am_h19 rfl rfl rfl rfl (x_finish0 (by simp [u3, hn])) ?_
  refine am_vc_ok am_k19 [] 100 ?_
  refine And.intro (fun g => absurd g (by decide)) (fun _ => ?_)
  refine am_vO am_k19 am_h19 rfl rfl rfl rfl (x_finish0 (by simp [u3, hn])) ?_
  refine am_vc_ok am_k19 [] 100 ?_
  refine And.intro (fun g => absurd g (by decide)) (fun _ => ?_)
  refine am_vO am_k19 am_h19 rfl rfl rfl rfl (x_finish0 (by simp [u3, hn])) ?_
  refine am_vc_ok am_k19 [] 100 ?_
  refine And.intro (fun g => absurd g (by decide)) (fun _ => ?_)
  refine am_vO am_k19 am_h19 rfl rfl rfl rfl (x_finish0 (by simp [u3, hn])) ?_
  refine am_vc_ok am_k19 [] 100 ?_
  refine And.intro (fun g => absurd g (by decide)) (fun _ => ?_)
  refine am_vO am_k19 am_h19 rfl rfl rfl rfl (x_finish0 (by simp [u3, hn])) ?_
  refine am_vc_ok am_k19 [] 100 ?_
  refine And.intro (fun g => absurd g (by decide)) (fun _ => ?_)
  refine am_vO am_k19 am_h19 rfl rfl rfl rfl (x_finish0 (by simp [u3, hn])) ?_
  refine am_vc_ok am_k19 [] 100 ?_
  refine And.intro (fun _ => ?_) (fun g => absurd (by decide) g)
  refine And.intro (fun g => absurd g (by decide)) (fun _ => ?_)
  refine am_vO am_k19 am_h19 rfl rfl rfl rfl (x_begin0 (by unfold vp_in; decide) (by simp [u3, hn])) ?_
  refine am_vc_ok am_k19 [] 100 ?_
  refine And.intro (fun g => absurd g (by decide)) (fun _ => ?_)
  refine am_vO am_k19 am_h19 rfl rfl rfl rfl (x_begin0 (by unfold vp_in; decide) (by simp [u3, hn])) ?_
  refine am_vc_ok am_k19 [] 100 ?_
  refine And.intro (fun g => absurd g (by decide)) (fun _ => ?_)
  refine am_vO am_k19 am_h19 rfl rfl rfl rfl (x_begin0 (by unfold vp_in; decide) (by simp [u3, hn])) ?_
  refine am_vc_ok am_k19 [] 100 ?_
  refine And.intro (fun g => absurd g (by decide)) (fun _ => ?_)
  refine am_vO am_k19 am_h19 rfl rfl rfl rfl (x_begin0 (by unfold vp_in; decide) (by simp [u3, hn])) ?_
  refine am_vc_ok am_k19 [] 100 ?_
  refine And.intro (fun g => absurd g (by decide)) (fun _ => ?_)
  refine am_vO am_k19 am_h19 rfl rfl rfl rfl (x_begin0 (by unfold vp_in; decide) (by simp [u3, hn])) ?_
  refine am_vc_ok am_k19 [] 100 ?_
  refine And.intro (fun g => absurd g (by decide)) (fun _ => ?_)
  refine am_vO am_k19 am_h19 rfl rfl rfl rfl (x_begin0 (by unfold vp_in; decide) (by simp [u3, hn])) ?_
  refine am_vc_ok am_k19 [] 100 ?_
  refine And.intro (fun _ => ?_) (fun g => absurd (by decide) g)
  refine am_vO am_k19 am_h19 rfl rfl rfl rfl (x_watch0 (by simp [u3, hn])) ?_
  refine am_vc_ok am_k19 [] 100 ?_
  exact am_vI am_k19 am_r19 rfl ⟨rfl, rfl, rfl, rfl, rfl, rfl⟩
theorem x_pass1 {T : Nat} (hT : σ 3 0 4 = nI T) (hn : σ 3 0 5 = 0) (h : σ 1 0 2 = σ 1 0 0) : am_D l 19 [aR 3 0] σ τ (rX t) cX lX (some (aI 0)) (u3 σ 3 0 4 (nI (T + 1))) τ (rX t) := by
  have h1 := x_pass0 (l := l) (τ := τ) (t := t) hn h
  rw [u3_self (f := u3 σ 3 0 4 (σ 3 0 4 + 1)) (k := 1) (i := 0) (j := 2) (by simp [u3, h]), hT, nI_1 T] at h1
  exact h1
theorem x_run_loop {Q : tQ} {T n : Nat} (hn5 : σ 3 0 5 = 0) (h1 : σ 1 0 2 = σ 1 0 0) (hn : n ≤ 100) (K : am_G l 122 Q 0 0 55 [(3, aI (nI n)), (2, aI 0), (0, aR 11 0), (1, aI (nI n))] [] (u3 σ 3 0 4 (nI (T + n))) τ (rX t) cX lX) : ∀ (d k : Nat), k + d = n → am_G l 122 Q 0 0 34 [(3, aI (nI k)), (2, aI 0), (0, aR 11 0), (1, aI (nI n))] [] (u3 σ 3 0 4 (nI (T + k))) τ (rX t) cX lX
  | 0, k, h => by
    obtain rfl : k = n := by omega
    refine am_vc_ok am_k122 [34, 55] 100 ?_
    exact And.intro (fun _ => K) (fun h1 => absurd (Int32.le_refl _) h1)
  | d + 1, k, h => by
    refine am_vc_ok am_k122 [34, 55] 100 ?_
    refine And.intro (fun h1 => absurd h1 (nI_ge (b := n) (by omega) (by omega))) (fun _ => ?_)
    refine am_vO am_k122 am_h122 rfl rfl rfl rfl (x_pass1 (T := T + k) (by simp [u3]) (by simp [u3, hn5]) (by simp [u3, h1])) ?_
    refine am_vc_ok am_k122 [34, 55] 100 ?_
    have K2 := x_run_loop hn5 h1 hn K d (k + 1) (by omega)
    rw [← nI_1] at K2
    rw [u3_twice]
    exact K2
theorem x_run_bad {n : Int32} (h : ¬ (0 ≤ n ∧ n ≤ 100)) : am_D l 122 [aR 11 0, aI n] σ τ (rX t) cX lX (some (aI (-1))) σ τ (rX t) := by
  refine am_D_of am_o122 am_l122 rfl ?_
  refine am_vc_ok am_k122 [34] 100 ?_
  refine And.intro (fun h1 => ?_) (fun h1 => ?_)
  · exact am_vI am_k122 am_r122 rfl ⟨rfl, rfl, rfl, rfl, rfl, rfl⟩
  refine And.intro (fun h2 => ?_) (fun h2 => ?_)
  · exact absurd ⟨Int32.not_lt.mp h1, h2⟩ h
  · exact am_vI am_k122 am_r122 rfl ⟨rfl, rfl, rfl, rfl, rfl, rfl⟩
theorem x_run0 {T n : Nat} (hT : σ 3 0 4 = nI T) (hT2 : T + n ≤ 9999) (hn5 : σ 3 0 5 = 0) (h1 : σ 1 0 2 = σ 1 0 0) (hn : n ≤ 100) : am_D l 122 [aR 11 0, aI (nI n)] σ τ (rX t) cX lX (some (aI 0)) (u3 σ 3 0 4 (nI (T + n))) τ (rX t) := by
  have hs : σ = u3 σ 3 0 4 (nI (T + 0)) := (u3_self hT).symm
  refine am_D_of am_o122 am_l122 rfl ?_
  refine am_vc_ok am_k122 [34, 55] 100 ?_
  refine And.intro (fun g => absurd (nI_pos' (n := n) (by omega)) (Int32.not_le.mpr g)) (fun _ => ?_)
  refine And.intro (fun _ => ?_) (fun g => absurd (nI_le (b := 100) hn (by decide)) g)
  refine And.intro (fun _ => ?_) (fun g => absurd (by rw [hT, nI_add]; exact nI_le (b := 9999) hT2 (by decide)) g)
  refine am_Gs hs ?_
  refine x_run_loop hn5 h1 hn ?_ n 0 (by omega)
  refine am_vc_ok am_k122 [34, 55] 100 ?_
  exact am_vI am_k122 am_r122 rfl ⟨rfl, rfl, rfl, rfl, rfl, rfl⟩
end L17
