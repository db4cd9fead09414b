/-! CASES OF THE LAW: the class's send; credit -/
section L10
variable {l : Launch} {σ σ2 s : tI} {τ τ2 : tL} {t : Option (Nat × Nat)}
abbrev xsend (σ : tI) (m c : Nat) (kd a b d : Int32) : tI := xadd (u3 σ 0 c 11 (σ 0 c 11 + 1)) m kd a b (σ 3 0 4) (nI c) d
theorem u3_jj {f : tI} {k i j b : Nat} {v : Int32} (h : b ≠ j) : u3 f k i j v k i b = f k i b := by simp [u3, h]
theorem x_nsend5 {m c : Nat} {d : Int32} (hc : c < 30) (hm : σ 1 0 0 = nI m) (hm2 : m < 690) : am_D l 15 [aR 3 0, aI 5, aI (nI c), aI d] σ τ (rX t) cX lX (some (aI (nI m))) (xsend σ m c 5 (σ 0 c 0) (σ 0 c 1) d) τ (rX t) := by
  refine am_D_of am_o15 am_l15 rfl ?_
  refine am_vc_ok am_k15 [] 100 ?_
  refine And.intro (vp_in_nI (N := 30) hc (by decide)) ?_
  rw [nI_clamp (by omega)]
  refine And.intro (fun h => absurd h (by decide)) (fun _ => ?_)
  refine And.intro (fun h => absurd h (by decide)) (fun _ => ?_)
  refine And.intro (fun _ => ?_) (fun h => absurd rfl h)
  refine And.intro (fun h => absurd h (by decide)) (fun _ => ?_)
  refine And.intro (fun h => absurd h (by decide)) (fun _ => ?_)
  refine am_vO am_k15 am_h15 rfl rfl rfl rfl (x_addF (m := m) (by simp [u3, hm]) hm2) ?_
  refine am_vc_ok am_k15 [] 100 ?_
  refine am_vI am_k15 am_r15 rfl ⟨rfl, ?_, rfl, rfl, rfl, rfl⟩
  rw [u3_jj (show 0 ≠ 11 by decide), u3_jj (show 1 ≠ 11 by decide)]
  rfl
theorem x_nsend4 {m c : Nat} {d : Int32} (hc : c < 30) (hm : σ 1 0 0 = nI m) (hm2 : m < 690) : am_D l 15 [aR 3 0, aI 4, aI (nI c), aI d] σ τ (rX t) cX lX (some (aI (nI m))) (xsend σ m c 4 (σ 0 c 1) (σ 0 c 0) d) τ (rX t) := by
  refine am_D_of am_o15 am_l15 rfl ?_
  refine am_vc_ok am_k15 [] 100 ?_
  refine And.intro (vp_in_nI (N := 30) hc (by decide)) ?_
  rw [nI_clamp (by omega)]
  refine And.intro (fun h => absurd h (by decide)) (fun _ => ?_)
  refine And.intro (fun h => absurd h (by decide)) (fun _ => ?_)
  refine And.intro (fun h => absurd h (by decide)) (fun _ => ?_)
  refine And.intro (fun _ => ?_) (fun h => absurd rfl h)
  refine And.intro (fun _ => ?_) (fun h => absurd rfl h)
  refine am_vO am_k15 am_h15 rfl rfl rfl rfl (x_addF (m := m) (by simp [u3, hm]) hm2) ?_
  refine am_vc_ok am_k15 [] 100 ?_
  refine am_vI am_k15 am_r15 rfl ⟨rfl, ?_, rfl, rfl, rfl, rfl⟩
  rw [u3_jj (show 0 ≠ 11 by decide), u3_jj (show 1 ≠ 11 by decide)]
  rfl
theorem x_credit_bad {c v : Int32} (h : ¬ (0 ≤ c ∧ c < σ 3 0 5) ∨ ¬ (1 ≤ v ∧ v ≤ 9)) : am_D l 130 [aR 11 0, aI c, aI v] σ τ (rX t) cX lX (some (aI (-1))) σ τ (rX t) := by
  refine am_D_of am_o130 am_l130 rfl ?_
  refine am_vc_ok am_k130 [] 100 ?_
  refine am_vS am_k130 am_h130 rfl rfl rfl rfl (x_within) ?_
  refine am_vc_ok am_k130 [] 100 ?_
  refine And.intro (fun h1 => ?_) (fun h1 => ?_)
  · exact am_vI am_k130 am_r130 rfl ⟨rfl, rfl, rfl, rfl, rfl, rfl⟩
  refine And.intro (fun h2 => ?_) (fun h2 => ?_)
  · exact am_vI am_k130 am_r130 rfl ⟨rfl, rfl, rfl, rfl, rfl, rfl⟩
  refine And.intro (fun h3 => ?_) (fun h3 => ?_)
  · rcases h with h | h
    · exact absurd (bI_1.mp h1) h
    · exact absurd ⟨Int32.not_lt.mp h2, h3⟩ h
  · exact am_vI am_k130 am_r130 rfl ⟨rfl, rfl, rfl, rfl, rfl, rfl⟩
theorem x_credit_full {c n : Nat} {v : Int32} (hn : σ 3 0 5 = nI n) (hn2 : n ≤ 30) (hc : c < n) (hv : 1 ≤ v ∧ v ≤ 9) (hS : σ 3 0 8 = nI 200) : am_D l 130 [aR 11 0, aI (nI c), aI v] σ τ (rX t) cX lX (some (aI (-2))) σ τ (rX t) := by
  refine am_D_of am_o130 am_l130 rfl ?_
  refine am_vc_ok am_k130 [] 100 ?_
  refine am_vS am_k130 am_h130 rfl rfl rfl rfl (x_within) ?_
  refine am_vc_ok am_k130 [] 100 ?_
  refine And.intro (fun g => absurd (by rw [hn]; exact inN hc (by omega)) (bI_0.mp g)) (fun _ => ?_)
  refine And.intro (fun g => absurd hv.1 (Int32.not_le.mpr g)) (fun _ => ?_)
  refine And.intro (fun _ => ?_) (fun g => absurd hv.2 g)
  refine And.intro (fun g => absurd g (by rw [hS]; decide)) (fun _ => ?_)
  exact am_vI am_k130 am_r130 rfl ⟨rfl, rfl, rfl, rfl, rfl, rfl⟩
theorem x_credit_not {c n S : Nat} {v : Int32} (hn : σ 3 0 5 = nI n) (hn2 : n ≤ 30) (hc : c < n) (hv : 1 ≤ v ∧ v ≤ 9) (hS : σ 3 0 8 = nI S) (hS2 : S < 200) (h7 : ¬ σ 0 c 7 = 3) : am_D l 130 [aR 11 0, aI (nI c), aI v] σ τ (rX t) cX lX (some (aI (-4))) σ τ (rX t) := by
  refine am_D_of am_o130 am_l130 rfl ?_
  refine am_vc_ok am_k130 [] 100 ?_
  refine am_vS am_k130 am_h130 rfl rfl rfl rfl (x_within) ?_
  refine am_vc_ok am_k130 [] 100 ?_
  refine And.intro (fun g => absurd (by rw [hn]; exact inN hc (by omega)) (bI_0.mp g)) (fun _ => ?_)
  refine And.intro (fun g => absurd hv.1 (Int32.not_le.mpr g)) (fun _ => ?_)
  refine And.intro (fun _ => ?_) (fun g => absurd hv.2 g)
  refine And.intro (fun _ => ?_) (fun g => absurd (by rw [hS]; exact nI_lt (b := 200) hS2 (by decide)) g)
  refine And.intro (vp_in_nI (N := 30) (by omega) (by decide)) ?_
  rw [nI_clamp (by omega)]
  refine And.intro (fun g => absurd g h7) (fun _ => ?_)
  exact am_vI am_k130 am_r130 rfl ⟨rfl, rfl, rfl, rfl, rfl, rfl⟩
theorem x_credit {c n S m : Nat} {v : Int32} (hn : σ 3 0 5 = nI n) (hn2 : n ≤ 30) (hc : c < n) (hv : 1 ≤ v ∧ v ≤ 9) (hS : σ 3 0 8 = nI S) (hS2 : S < 200) (h7 : σ 0 c 7 = 3) (hm : σ 1 0 0 = nI m) (hm2 : m < 690) : am_D l 130 [aR 11 0, aI (nI c), aI v] σ τ (rX t) cX lX (some (aI (nI m))) (xsend (u3 σ 3 0 8 (nI (S + 1))) m c 5 (σ 0 c 0) (σ 0 c 1) v) τ (rX t) := by
  refine am_D_of am_o130 am_l130 rfl ?_
  refine am_vc_ok am_k130 [] 100 ?_
  refine am_vS am_k130 am_h130 rfl rfl rfl rfl (x_within) ?_
  refine am_vc_ok am_k130 [] 100 ?_
  refine And.intro (fun g => absurd (by rw [hn]; exact inN hc (by omega)) (bI_0.mp g)) (fun _ => ?_)
  refine And.intro (fun g => absurd hv.1 (Int32.not_le.mpr g)) (fun _ => ?_)
  refine And.intro (fun _ => ?_) (fun g => absurd hv.2 g)
  refine And.intro (fun _ => ?_) (fun g => absurd (by rw [hS]; exact nI_lt (b := 200) hS2 (by decide)) g)
  refine And.intro (vp_in_nI (N := 30) (by omega) (by decide)) ?_
  rw [nI_clamp (by omega)]
  refine And.intro (fun _ => ?_) (fun g => absurd h7 g)
  refine am_vc_ok am_k130 [] 100 ?_
  refine am_vO am_k130 am_h130 rfl rfl rfl rfl (x_nsend5 (m := m) (by omega) (by simp [u3, hm]) hm2) ?_
  refine am_vc_ok am_k130 [] 100 ?_
  refine am_vI am_k130 am_r130 rfl ⟨rfl, ?_, rfl, rfl, rfl, rfl⟩
  rw [hS, show nI S + 1 = nI (S + 1) from nI_1 S]
  rfl
theorem m_credit_bad {c v : Int32} (h : ¬ (0 ≤ c ∧ c ≤ σ 12 0 34 - 1) ∨ ¬ (1 ≤ v ∧ v ≤ 9)) : am_D l 242 [aR 12 0, aI c, aI v] σ τ (rX t) cX lX (some (aI (-1))) σ τ (rX t) := by
  refine am_D_of am_o242 am_l242 rfl ?_
  refine am_vc_ok am_k242 [] 100 ?_
  refine am_vO am_k242 am_h242 rfl rfl rfl rfl (m_isCall) ?_
  refine am_vc_ok am_k242 [] 100 ?_
  refine And.intro (fun h1 => ?_) (fun h1 => ?_)
  · exact am_vI am_k242 am_r242 rfl ⟨rfl, rfl, rfl, rfl, rfl, rfl⟩
  refine am_vS am_k242 am_h242 rfl rfl rfl rfl (m_in) ?_
  refine am_vc_ok am_k242 [] 100 ?_
  refine And.intro (fun h2 => ?_) (fun h2 => ?_)
  · exact am_vI am_k242 am_r242 rfl ⟨rfl, rfl, rfl, rfl, rfl, rfl⟩
  · rcases h with h | h
    · exact absurd (bI_1.mp h1) h
    · exact absurd (bI_1.mp h2) h
theorem m_credit_full {c : Int32} {v : Int32} (hc : 0 ≤ c ∧ c ≤ σ 12 0 34 - 1) (hv : 1 ≤ v ∧ v ≤ 9) (hS : σ 12 0 63 = nI 200) : am_D l 242 [aR 12 0, aI c, aI v] σ τ (rX t) cX lX (some (aI (-2))) σ τ (rX t) := by
  refine am_D_of am_o242 am_l242 rfl ?_
  refine am_vc_ok am_k242 [] 100 ?_
  refine am_vO am_k242 am_h242 rfl rfl rfl rfl (m_isCall) ?_
  refine am_vc_ok am_k242 [] 100 ?_
  refine And.intro (fun g => absurd hc (bI_0.mp g)) (fun _ => ?_)
  refine am_vS am_k242 am_h242 rfl rfl rfl rfl (m_in) ?_
  refine am_vc_ok am_k242 [] 100 ?_
  refine And.intro (fun g => absurd hv (bI_0.mp g)) (fun _ => ?_)
  refine And.intro (fun _ => ?_) (fun g => absurd hS g)
  exact am_vI am_k242 am_r242 rfl ⟨rfl, rfl, rfl, rfl, rfl, rfl⟩
theorem m_credit_not {c S : Nat} {v : Int32} (hc : 0 ≤ nI c ∧ nI c ≤ σ 12 0 34 - 1) (hc2 : c < 30) (hv : 1 ≤ v ∧ v ≤ 9) (hS : σ 12 0 63 = nI S) (hS2 : S < 200) (h7 : ¬ σ 71 0 c = 3) : am_D l 242 [aR 12 0, aI (nI c), aI v] σ τ (rX t) cX lX (some (aI (-4))) σ τ (rX t) := by
  refine am_D_of am_o242 am_l242 rfl ?_
  refine am_vc_ok am_k242 [] 100 ?_
  refine am_vO am_k242 am_h242 rfl rfl rfl rfl (m_isCall) ?_
  refine am_vc_ok am_k242 [] 100 ?_
  refine And.intro (fun g => absurd hc (bI_0.mp g)) (fun _ => ?_)
  refine am_vS am_k242 am_h242 rfl rfl rfl rfl (m_in) ?_
  refine am_vc_ok am_k242 [] 100 ?_
  refine And.intro (fun g => absurd hv (bI_0.mp g)) (fun _ => ?_)
  refine And.intro (fun g => absurd ((nI_eq (b := 200) (by omega) (by decide)).mp (hS.symm.trans g)) (by omega)) (fun _ => ?_)
  refine And.intro (vp_in_nI (N := 30) (by omega) (by decide)) ?_
  rw [nI_clamp (by omega)]
  refine And.intro (fun g => absurd g h7) (fun _ => ?_)
  exact am_vI am_k242 am_r242 rfl ⟨rfl, rfl, rfl, rfl, rfl, rfl⟩
theorem m_credit {c S m : Nat} {v : Int32} (hc : 0 ≤ nI c ∧ nI c ≤ σ 12 0 34 - 1) (hc2 : c < 30) (hv : 1 ≤ v ∧ v ≤ 9) (hS : σ 12 0 63 = nI S) (hS2 : S < 200) (h7 : σ 71 0 c = 3) (hm : σ 12 0 54 = nI m) (hm2 : m < 690) : am_D l 242 [aR 12 0, aI (nI c), aI v] σ τ (rX t) cX lX (some (aI (nI m))) (msend (u3 σ 12 0 63 (nI (S + 1))) m 5 (σ 65 0 c) (σ 66 0 c) (nI c) v) τ (rX t) := by
  refine am_D_of am_o242 am_l242 rfl ?_
  refine am_vc_ok am_k242 [] 100 ?_
  refine am_vO am_k242 am_h242 rfl rfl rfl rfl (m_isCall) ?_
  refine am_vc_ok am_k242 [] 100 ?_
  refine And.intro (fun g => absurd hc (bI_0.mp g)) (fun _ => ?_)
  refine am_vS am_k242 am_h242 rfl rfl rfl rfl (m_in) ?_
  refine am_vc_ok am_k242 [] 100 ?_
  refine And.intro (fun g => absurd hv (bI_0.mp g)) (fun _ => ?_)
  refine And.intro (fun g => absurd ((nI_eq (b := 200) (by omega) (by decide)).mp (hS.symm.trans g)) (by omega)) (fun _ => ?_)
  refine And.intro (vp_in_nI (N := 30) (by omega) (by decide)) ?_
  rw [nI_clamp (by omega)]
  refine And.intro (fun _ => ?_) (fun g => absurd h7 g)
  refine am_vc_ok am_k242 [] 100 ?_
  refine am_vO am_k242 am_h242 rfl rfl rfl rfl (m_sendOut (m := m) hc2 (by simp [u3, hm]) hm2) ?_
  refine am_vc_ok am_k242 [] 100 ?_
  refine am_vI am_k242 am_r242 rfl ⟨rfl, ?_, rfl, rfl, rfl, rfl⟩
  rw [hS, show nI S + 1 = nI (S + 1) from nI_1 S]
  rfl
abbrev sstr (σ : tI) (S m c kd : Nat) (a b v : Int32) : tI := msend (u3 (xsend (u3 σ 3 0 8 (nI (S + 1))) m c (nI kd) a b v) 12 0 63 (nI (S + 1))) m (nI kd) a b (nI c) v
theorem sstr_k {S m c kd q : Nat} {a b v : Int32} (h0 : q ≠ 0) (h3 : q ≠ 3) (h1 : q ≠ 1) (h12 : q ≠ 12) (hF : kFr q = false) : sstr σ S m c kd a b v q = σ q := by
  have d : ∀ c, kFr c = true → q ≠ c := fun c hc e => by rw [e, hc] at hF; cases hF
  simp only [sstr, msend, xsend, xadd]
  rw [u3_kk _ _ h12, u3_kk _ _ (d 90 rfl), u3_kk _ _ (d 89 rfl), u3_kk _ _ (d 88 rfl), u3_kk _ _ (d 87 rfl), u3_kk _ _ (d 86 rfl), u3_kk _ _ (d 85 rfl), u3_kk _ _ (d 84 rfl), u3_kk _ _ h12, u3_kk _ _ h1, u3_kk _ _ (d 20 rfl), u3_kk _ _ (d 19 rfl), u3_kk _ _ (d 18 rfl), u3_kk _ _ (d 17 rfl), u3_kk _ _ (d 16 rfl), u3_kk _ _ (d 15 rfl), u3_kk _ _ (d 14 rfl), u3_kk _ _ h0, u3_kk _ _ h3]
theorem sstr_f {S m c kd q f : Nat} {a b v : Int32} (hF : kFr q = true) (hf : f ≠ m) : sstr σ S m c kd a b v q 0 f = σ q 0 f := by
  have d : ∀ c, kFr c = false → q ≠ c := fun c hc e => by rw [e, hc] at hF; cases hF
  simp [sstr, msend, xsend, xadd, u3, hf, d 12 rfl, d 1 rfl, d 3 rfl, d 0 rfl]
theorem kAdd_d {q : Nat} (z : kAdd q = true) : q ≠ 0 ∧ q ≠ 3 ∧ q ≠ 1 ∧ q ≠ 12 ∧ kFr q = false := by
  have z2 := z
  unfold kAdd at z2
  simp only [Bool.or_eq_true, Bool.and_eq_true, Nat.ble_eq, Nat.beq_eq] at z2
  refine ⟨by omega, by omega, by omega, by omega, ?_⟩
  cases hq : kFr q with
  | false => rfl
  | true =>
    exfalso
    unfold kFr at hq
    simp only [Bool.or_eq_true, Bool.and_eq_true, Nat.ble_eq] at hq
    omega
theorem Rnet.strm {T n m lo k S c kd : Nat} {a b v : Int32} (h : Rnet σ T n m lo k) (hkd : kd = 4 ∨ kd = 5) (hc : c < n) (hS : σ 3 0 8 = nI S) (hS2 : S < 200) (hv : kd = 5 → ∃ d, d ≤ 9 ∧ v = nI d) : Rnet (sstr σ S m c kd a b v) T n (m + 1) lo k := by
  obtain ⟨h0, ha⟩ := h.split
  have hn := h0.2.1.2.2
  have v89 : sstr σ S m c kd a b v 89 0 m = nI c := by simp [sstr, msend, xsend, xadd, u3]
  have v84 : sstr σ S m c kd a b v 84 0 m = nI kd := by simp [sstr, msend, xsend, xadd, u3]
  have v90 : sstr σ S m c kd a b v 90 0 m = v := by simp [sstr, msend, xsend, xadd, u3]
  have n1 : ¬ nI kd = 1 := by rcases hkd with rfl | rfl <;> decide
  have e72 : sstr σ S m c kd a b v 72 = σ 72 := sstr_k (by decide) (by decide) (by decide) (by decide) rfl
  have e71 : sstr σ S m c kd a b v 71 = σ 71 := sstr_k (by decide) (by decide) (by decide) (by decide) rfl
  have e77 : sstr σ S m c kd a b v 77 = σ 77 := sstr_k (by decide) (by decide) (by decide) (by decide) rfl
  have e81 : sstr σ S m c kd a b v 81 = σ 81 := sstr_k (by decide) (by decide) (by decide) (by decide) rfl
  have v0 : ∀ c2 j, sstr σ S m c kd a b v 0 c2 j = if c2 = c ∧ j = 11 then σ 0 c 11 + 1 else σ 0 c2 j := by
    intro c2 j
    by_cases z1 : c2 = c <;> by_cases z2 : j = 11 <;> simp [sstr, msend, xsend, xadd, u3, z1, z2]
  refine Rnet.join (h0.add (fun q z => sstr_k (kAdd_d z).1 (kAdd_d z).2.1 (kAdd_d z).2.2.1 (kAdd_d z).2.2.2.1 (kAdd_d z).2.2.2.2) (fun c2 j hj => by rw [v0, if_neg (fun z => hj z.2)]) (fun c2 hc2 => ?_) (fun c2 hc2 _ => by rw [v0, if_neg (fun z => by omega)]) ?_ ?_ (fun q f z hf => sstr_f z hf) ?_ ?_ ?_ ?_) ?_
  · rw [v89, v0]
    by_cases hcc : c2 = c
    · rw [if_pos ⟨hcc, rfl⟩, if_pos (by rw [hcc]), hcc]
    · rw [if_neg (fun z => hcc z.1), if_neg (fun z => hcc ((nI_eq (by omega) (by omega)).mp z).symm)]; simp
  · simp [sstr, msend, xsend, xadd, u3]
  · simp [sstr, msend, xsend, xadd, u3]
  · have hT := h0.1
    simp [Rframe, sstr, msend, xsend, xadd, u3, hT.1, hT.2.1]
  · exact Or.inr ⟨kd, c, by omega, by omega, hc, v84, v89, fun z => by omega, fun z => by rw [v90]; exact hv z⟩
  · simp [sstr, msend, xsend, xadd, u3]
  · intro c2 h1
    exact absurd (v84.symm.trans h1) n1
  · obtain ⟨P, S2, Rp, Kc, g1, g2, g3, g4, g5, g6, g7, g8⟩ := ha
    obtain rfl : S2 = S := (nI_eq (by omega) (by omega)).mp (g4.symm.trans hS)
    refine ⟨P, S2 + 1, Rp, Kc, ?_, ?_, g3, by simp [sstr, msend, xsend, xadd, u3], by simp [sstr, msend, xsend, xadd, u3], by omega, ?_, ?_⟩
    · rw [← g1]; simp [sstr, msend, xsend, xadd, u3]
    · rw [← g2]; simp [sstr, msend, xsend, xadd, u3]
    · rw [e72]; omega
    · intro c2 hc2
      have eA : asksU (sstr σ S2 m c kd a b v) lo (m + 1) c2 = asksU σ lo m c2 := by
        show cntN _ m + _ = _
        have e1 : cntN (fun f => decide (lo ≤ f ∧ sstr σ S2 m c kd a b v 84 0 f = 1 ∧ sstr σ S2 m c kd a b v 89 0 f = nI c2)) m = asksU σ lo m c2 := by
          refine cntN_cg (fun f hf => ?_)
          rw [sstr_f rfl (by omega), sstr_f rfl (by omega)]
        rw [e1]
        have e2 : ¬ (lo ≤ m ∧ sstr σ S2 m c kd a b v 84 0 m = 1 ∧ sstr σ S2 m c kd a b v 89 0 m = nI c2) := fun z => n1 (v84.symm.trans z.2.1)
        simp only [decide_eq_true_eq, if_neg e2]
        rfl
      rw [eA, e72, e71, e77, e81]
      exact g8 c2 hc2
theorem kNet_fr {q : Nat} (z1 : kNet q = false) : kFr q = false := by
  cases hq : kFr q with
  | false => rfl
  | true =>
    exfalso
    have : kNet q = true := by
      unfold kFr at hq
      unfold kNet
      simp only [Bool.or_eq_true, Bool.and_eq_true, Nat.ble_eq] at hq ⊢
      omega
    rw [this] at z1
    cases z1
theorem LC_credit (h : Rall σ τ) (c v : Int32) : LC l 130 242 [aI c, aI v] σ τ t := by
  obtain ⟨-, -, -, -, -, -, T, n, m, lo, k, hN⟩ := id h
  obtain ⟨h0, P, S, Rp, Kc, g1, g2, g3, g4, g5, g6, -⟩ := hN.split
  have hm := h0.2.2.2.2.2.2.1
  have hn := h0.2.1
  by_cases hc : 0 ≤ c ∧ c < nI n
  · by_cases hv : 1 ≤ v ∧ v ≤ 9
    · obtain ⟨c, hc1, rfl⟩ := ix_lt (nI_toInt (by omega)) hc
      have hcm : 0 ≤ nI c ∧ nI c ≤ nI n - 1 := (le_pred2 (by omega)).mpr hc
      by_cases hS : S < 200
      · have hC := (h0.2.2.1 c hc1).1
        by_cases h7 : σ 71 0 c = 3
        · have hN2 := hN.strm (a := σ 0 c 0) (b := σ 0 c 1) (v := v) (kd := 5) (Or.inr rfl) hc1 g4 hS (fun _ => by
            obtain ⟨x, x1, e⟩ := ix_le (n := 10) (N := 9) (by decide) (⟨Int32.le_trans (by decide) hv.1, hv.2⟩ : 0 ≤ v ∧ v ≤ 9)
            exact ⟨x, by omega, e⟩)
          have hm2 := hN2.m_le
          have hM := m_credit (l := l) (σ := xsend (u3 σ 3 0 8 (nI (S + 1))) m c 5 (σ 0 c 0) (σ 0 c 1) v) (τ := τ) (t := t) (c := c) (S := S) (m := m) (v := v) (by simp [xsend, xadd, u3, hn.2.1]; exact hcm) (by omega) hv (by simp [xsend, xadd, u3, g5]) hS (by simp [xsend, xadd, u3, h7]) (by simp [xsend, xadd, u3, hm.2]) (by omega)
          have q1 : xsend (u3 σ 3 0 8 (nI (S + 1))) m c 5 (σ 0 c 0) (σ 0 c 1) v 65 0 c = σ 0 c 0 := by rw [hC.1]; simp [xsend, xadd, u3]
          have q2 : xsend (u3 σ 3 0 8 (nI (S + 1))) m c 5 (σ 0 c 0) (σ 0 c 1) v 66 0 c = σ 0 c 1 := by rw [hC.2.1]; simp [xsend, xadd, u3]
          rw [q1, q2] at hM
          refine LC.of (x_credit hn.1 hn.2.2 hc1 hv g4 hS (hC.2.2.2.2.2.2.2.1.trans h7) hm.1 (by omega)) hM ?_
          refine h.net (fun q z1 z2 z3 => ?_) (fun c2 hc2 => ?_) (fun j z => ?_) hN2
          · have d : ∀ c, kNet c = true → q ≠ c := fun c hc e => by rw [e, hc] at z1; cases z1
            exact sstr_k (d 0 rfl) (d 3 rfl) (d 1 rfl) z3 (kNet_fr z1)
          · have e8 := sstr_k (σ := σ) (S := S) (m := m) (c := c) (kd := 5) (a := σ 0 c 0) (b := σ 0 c 1) (v := v) (q := 8) (by decide) (by decide) (by decide) (by decide) rfl
            exact ⟨congrFun (congrFun e8 c2) 0, congrFun (congrFun e8 c2) 1⟩
          · have d1 : j ≠ 54 := fun e => by rw [e] at z; cases z
            have d2 : j ≠ 63 := fun e => by rw [e] at z; cases z
            simp [msend, xsend, xadd, u3, d1, d2]
        · exact LC.of (x_credit_not hn.1 hn.2.2 hc1 hv g4 hS (by rw [hC.2.2.2.2.2.2.2.1]; exact h7)) (m_credit_not (by rw [hn.2.1]; exact hcm) (by omega) hv g5 hS h7) h
      · obtain rfl : S = 200 := by omega
        exact LC.of (x_credit_full hn.1 hn.2.2 hc1 hv g4) (m_credit_full (by rw [hn.2.1]; exact hcm) hv g5) h
    · exact LC.of (x_credit_bad (Or.inr hv)) (m_credit_bad (Or.inr hv)) h
  · exact LC.of (x_credit_bad (Or.inl (by rw [hn.1]; exact hc))) (m_credit_bad (Or.inl (by rw [hn.2.1]; exact fun z => hc ((le_pred2 (by omega)).mp z)))) h
end L10
