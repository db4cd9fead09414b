/-! CASES OF THE LAW: cancel -/
section L12
variable {l : Launch} {σ σ2 s : tI} {τ τ2 : tL} {t : Option (Nat × Nat)}
theorem cntN_dec {p q : Nat → Bool} {c : Nat} (hp : p c = true) (hq : q c = false) (h : ∀ x, x ≠ c → p x = q x) : ∀ {n : Nat}, c < n → cntN p n = cntN q n + 1
  | 0, hc => absurd hc (by omega)
  | n + 1, hc => by
    show cntN p n + _ = cntN q n + _ + 1
    by_cases hn : n = c
    · have e : cntN p n = cntN q n := cntN_cg (fun x hx => h x (by omega))
      rw [e, hn, hp, hq]
      simp
    · rw [cntN_dec hp hq h (n := n) (by omega), h n hn]
      omega
theorem sumN_inc {f g : Nat → Nat} {c : Nat} (hc1 : g c = f c + 1) (h : ∀ x, x ≠ c → g x = f x) : ∀ {n : Nat}, sumN g n = sumN f n + (if c < n then 1 else 0)
  | 0 => by simp [sumN]
  | n + 1 => by
    show sumN g n + g n = sumN f n + f n + _
    rw [sumN_inc hc1 h (n := n)]
    by_cases hn : n = c
    · rw [hn, hc1, if_neg (by omega), if_pos (by omega)]; omega
    · rw [h n hn]
      by_cases h2 : c < n
      · rw [if_pos h2, if_pos (by omega)]; omega
      · rw [if_neg h2, if_neg (by omega)]; omega
/-- a frame more of call c -/
abbrev ssnd (σ : tI) (m c kd : Nat) (a b dx dm : Int32) : tI := msend (xsend σ m c (nI kd) a b dx) m (nI kd) a b (nI c) dm
theorem ssnd_k {m c kd q : Nat} {a b dx dm : Int32} (h0 : q ≠ 0) (h1 : q ≠ 1) (h12 : q ≠ 12) (hF : kFr q = false) : ssnd σ m c kd a b dx dm q = σ q := by
  have d : ∀ c, kFr c = true → q ≠ c := fun c hc e => by rw [e, hc] at hF; cases hF
  simp only [ssnd, msend, xsend, xadd]
  rw [u3_kk _ _ h12, u3_kk _ _ (d 90 rfl), u3_kk _ _ (d 89 rfl), u3_kk _ _ (d 88 rfl), u3_kk _ _ (d 87 rfl), u3_kk _ _ (d 86 rfl), u3_kk _ _ (d 85 rfl), u3_kk _ _ (d 84 rfl), u3_kk _ _ h1, u3_kk _ _ (d 20 rfl), u3_kk _ _ (d 19 rfl), u3_kk _ _ (d 18 rfl), u3_kk _ _ (d 17 rfl), u3_kk _ _ (d 16 rfl), u3_kk _ _ (d 15 rfl), u3_kk _ _ (d 14 rfl), u3_kk _ _ h0]
theorem ssnd_f {m c kd q f : Nat} {a b dx dm : Int32} (hF : kFr q = true) (hf : f ≠ m) : ssnd σ m c kd a b dx dm q 0 f = σ q 0 f := by
  have d : ∀ c, kFr c = false → q ≠ c := fun c hc e => by rw [e, hc] at hF; cases hF
  simp [ssnd, msend, xsend, xadd, u3, hf, d 12 rfl, d 1 rfl, d 0 rfl]
theorem Rnet0.snd {T n m lo k c kd : Nat} {a b dx dm : Int32} (h0 : Rnet0 σ T n m lo k) (hkd : 1 ≤ kd ∧ kd ≤ 6) (hc : c < n) (hd1 : kd ≠ 1 → dx = dm) (hd2 : kd = 1 → dm = σ 72 0 c) (hd3 : kd = 3 → ∃ d, 1 ≤ d ∧ d < 9 ∧ dm = nI d) (hd5 : kd = 5 → ∃ d, d ≤ 9 ∧ dm = nI d) : Rnet0 (ssnd σ m c kd a b dx dm) T n (m + 1) lo k := by
  have hn := h0.2.1.2.2
  have v89 : ssnd σ m c kd a b dx dm 89 0 m = nI c := by simp [ssnd, msend, xsend, xadd, u3]
  have v84 : ssnd σ m c kd a b dx dm 84 0 m = nI kd := by simp [ssnd, msend, xsend, xadd, u3]
  have v90 : ssnd σ m c kd a b dx dm 90 0 m = dm := by simp [ssnd, msend, xsend, xadd, u3]
  have v0 : ∀ c2 j, ssnd σ m c kd a b dx dm 0 c2 j = if c2 = c ∧ j = 11 then σ 0 c 11 + 1 else σ 0 c2 j := by
    intro c2 j
    by_cases z1 : c2 = c <;> by_cases z2 : j = 11 <;> simp [ssnd, msend, xsend, xadd, u3, z1, z2]
  refine h0.add (fun q z => ssnd_k (kAdd_d z).1 (kAdd_d z).2.2.1 (kAdd_d z).2.2.2.1 (kAdd_d z).2.2.2.2) (fun c2 j hj => by rw [v0, if_neg (fun z => hj z.2)]) (fun c2 hc2 => ?_) (fun c2 hc2 _ => by rw [v0, if_neg (fun z => by omega)]) ?_ ?_ (fun q f z hf => ssnd_f z hf) ?_ ?_ ?_ ?_
  · rw [v89, v0]
    by_cases hcc : c2 = c
    · rw [if_pos ⟨hcc, rfl⟩, if_pos (by rw [hcc]), hcc]
    · rw [if_neg (fun z => hcc z.1), if_neg (fun z => hcc ((nI_eq (by omega) (by omega)).mp z).symm)]; simp
  · simp [ssnd, msend, xsend, xadd, u3]
  · simp [ssnd, msend, xsend, xadd, u3]
  · have hT := h0.1
    have e1 : ∀ z : nI kd = 1 → False, dx = dm := fun z => hd1 (fun e => z (by rw [e]; rfl))
    simp [Rframe, ssnd, msend, xsend, xadd, u3, hT.1, hT.2.1]
    exact e1
  · exact Or.inr ⟨kd, c, by omega, by omega, hc, v84, v89, fun z => by rw [v90]; exact hd3 z, fun z => by rw [v90]; exact hd5 z⟩
  · simp [ssnd, msend, xsend, xadd, u3]
  · intro c2 h1 h2 hc2
    have e1 : kd = 1 := (nI_eq (b := 1) (by omega) (by decide)).mp (v84.symm.trans h1)
    have e2 : c = c2 := (nI_eq (by omega) (by omega)).mp (v89.symm.trans h2)
    rw [v90, hd2 e1, e2]
theorem asksU_snd {m c kd lo c2 : Nat} {a b dx dm : Int32} (hkd : 2 ≤ kd ∧ kd ≤ 6) : asksU (ssnd σ m c kd a b dx dm) lo (m + 1) c2 = asksU σ lo m c2 := by
  have v84 : ssnd σ m c kd a b dx dm 84 0 m = nI kd := by simp [ssnd, msend, xsend, xadd, u3]
  show cntN _ m + _ = _
  have e1 : cntN (fun f => decide (lo ≤ f ∧ ssnd σ m c kd a b dx dm 84 0 f = 1 ∧ ssnd σ m c kd a b dx dm 89 0 f = nI c2)) m = asksU σ lo m c2 := by
    refine cntN_cg (fun f hf => ?_)
    rw [ssnd_f rfl (by omega), ssnd_f rfl (by omega)]
  rw [e1]
  have e2 : ¬ (lo ≤ m ∧ ssnd σ m c kd a b dx dm 84 0 m = 1 ∧ ssnd σ m c kd a b dx dm 89 0 m = nI c2) := fun z => absurd ((nI_eq (b := 1) (by omega) (by decide)).mp (v84.symm.trans z.2.1)) (by omega)
  simp only [decide_eq_true_eq, if_neg e2]
  rfl
theorem x_nsend6 {m c : Nat} {d : Int32} (hc : c < 30) (hm : σ 1 0 0 = nI m) (hm2 : m < 690) : am_D l 15 [aR 3 0, aI 6, aI (nI c), aI d] σ τ (rX t) cX lX (some (aI (nI m))) (xsend σ m c 6 (σ 0 c 0) (σ 0 c 1) d) τ (rX t) := by
  refine am_D_of am_o15 am_l15 rfl ?_
  refine am_vc_ok am_k15 [] 100 ?_
  refine And.intro (vp_in_nI (N := 30) hc (by decide)) ?_
  rw [nI_clamp (by omega)]
  refine And.intro (fun h => absurd h (by decide)) (fun _ => ?_)
  refine And.intro (fun _ => ?_) (fun h => absurd rfl h)
  refine And.intro (fun h => absurd h (by decide)) (fun _ => ?_)
  refine And.intro (fun h => absurd h (by decide)) (fun _ => ?_)
  refine am_vO am_k15 am_h15 rfl rfl rfl rfl (x_addF (m := m) (by simp [u3, hm]) hm2) ?_
  refine am_vc_ok am_k15 [] 100 ?_
  refine am_vI am_k15 am_r15 rfl ⟨rfl, ?_, rfl, rfl, rfl, rfl⟩
  rw [u3_jj (show 0 ≠ 11 by decide), u3_jj (show 1 ≠ 11 by decide)]
  rfl
abbrev xend (σ : tI) (c w : Nat) (h : Int32) : tI := u3 (u3 (u3 σ 0 c 7 h) 0 c 8 (σ 3 0 4)) 3 0 6 (nI w)
theorem x_end {c w : Nat} {h : Int32} (hc : c < 30) (h7 : σ 0 c 7 = 0) (hw : σ 3 0 6 = nI (w + 1)) : am_D l 17 [aR 3 0, aI (nI c), aI h] σ τ (rX t) cX lX none (xend σ c w h) τ (rX t) := by
  refine am_D_of am_o17 am_l17 rfl ?_
  refine am_vc_ok am_k17 [] 100 ?_
  refine And.intro (vp_in_nI (N := 30) hc (by decide)) ?_
  rw [nI_clamp (by omega)]
  refine And.intro (fun _ => ?_) (fun g => absurd h7 g)
  refine And.intro (vp_in_nI (N := 30) hc (by decide)) ?_
  refine And.intro (vp_in_nI (N := 30) hc (by decide)) ?_
  rw [nI_clamp (by omega)]
  refine am_vV am_k17 am_r17 rfl ⟨rfl, ?_, rfl, rfl, rfl, rfl⟩
  have e : σ 3 0 6 - 1 = nI w := by rw [hw, ← nI_1 w]; simp
  unfold xend
  rw [← e]
  rfl
theorem x_giveUp {c w m : Nat} {h : Int32} (hc : c < 30) (h7 : σ 0 c 7 = 0) (hw : σ 3 0 6 = nI (w + 1)) (hm : σ 1 0 0 = nI m) (hm2 : m < 690) : am_D l 18 [aR 3 0, aI (nI c), aI h] σ τ (rX t) cX lX none (xsend (xend σ c w h) m c 6 (σ 0 c 0) (σ 0 c 1) h) τ (rX t) := by
  refine am_D_of am_o18 am_l18 rfl ?_
  refine am_vc_ok am_k18 [] 100 ?_
  refine am_vO am_k18 am_h18 rfl rfl rfl rfl (x_end (w := w) hc h7 hw) ?_
  refine am_vc_ok am_k18 [] 100 ?_
  refine am_vO am_k18 am_h18 rfl rfl rfl rfl (x_nsend6 (m := m) hc (by simp [xend, u3, hm]) hm2) ?_
  refine am_vc_ok am_k18 [] 100 ?_
  refine am_vV am_k18 am_r18 rfl ⟨rfl, ?_, rfl, rfl, rfl, rfl⟩
  have e0 : xend σ c w h 0 c 0 = σ 0 c 0 := by simp [xend, u3]
  have e1 : xend σ c w h 0 c 1 = σ 0 c 1 := by simp [xend, u3]
  rw [e0, e1]
abbrev mends (σ : tI) (c : Nat) (h : Int32) : tI := u3 (u3 σ 71 0 c h) 75 0 c (σ 12 0 5)
theorem m_ends {c : Nat} {h : Int32} (hc : c < 30) : am_D l 219 [aR 12 0, aI (nI c), aI h] σ τ (rX t) cX lX none (mends σ c h) τ (rX t) := by
  refine am_D_of am_o219 am_l219 rfl ?_
  refine am_vc_ok am_k219 [] 100 ?_
  refine And.intro (vp_in_nI (N := 30) hc (by decide)) ?_
  refine And.intro (vp_in_nI (N := 30) hc (by decide)) ?_
  rw [nI_clamp (by omega)]
  exact am_vV am_k219 am_r219 rfl ⟨rfl, rfl, rfl, rfl, rfl, rfl⟩
theorem x_cancel_bad {c : Int32} (h : ¬ (0 ≤ c ∧ c < σ 3 0 5)) : am_D l 123 [aR 11 0, aI c] σ τ (rX t) cX lX (some (aI (-1))) σ τ (rX t) := by
  refine am_D_of am_o123 am_l123 rfl ?_
  refine am_vc_ok am_k123 [] 100 ?_
  refine am_vS am_k123 am_h123 rfl rfl rfl rfl (x_within) ?_
  refine am_vc_ok am_k123 [] 100 ?_
  refine And.intro (fun h1 => ?_) (fun h1 => ?_)
  · exact am_vI am_k123 am_r123 rfl ⟨rfl, rfl, rfl, rfl, rfl, rfl⟩
  · exact absurd (bI_1.mp h1) h
theorem x_cancel_not {c n : Nat} (hn : σ 3 0 5 = nI n) (hn2 : n ≤ 30) (hc : c < n) (h7 : ¬ σ 0 c 7 = 0) : am_D l 123 [aR 11 0, aI (nI c)] σ τ (rX t) cX lX (some (aI (-4))) σ τ (rX t) := by
  refine am_D_of am_o123 am_l123 rfl ?_
  refine am_vc_ok am_k123 [] 100 ?_
  refine am_vS am_k123 am_h123 rfl rfl rfl rfl (x_within) ?_
  refine am_vc_ok am_k123 [] 100 ?_
  refine And.intro (fun g => absurd (by rw [hn]; exact inN hc (by omega)) (bI_0.mp g)) (fun _ => ?_)
  refine And.intro (vp_in_nI (N := 30) (by omega) (by decide)) ?_
  rw [nI_clamp (by omega)]
  refine And.intro (fun g => absurd g h7) (fun _ => ?_)
  exact am_vI am_k123 am_r123 rfl ⟨rfl, rfl, rfl, rfl, rfl, rfl⟩
theorem x_cancel {c n w m : Nat} (hn : σ 3 0 5 = nI n) (hn2 : n ≤ 30) (hc : c < n) (h7 : σ 0 c 7 = 0) (hw : σ 3 0 6 = nI (w + 1)) (hm : σ 1 0 0 = nI m) (hm2 : m < 690) : am_D l 123 [aR 11 0, aI (nI c)] σ τ (rX t) cX lX (some (aI 1)) (xsend (xend σ c w 5) m c 6 (σ 0 c 0) (σ 0 c 1) 5) τ (rX t) := by
  refine am_D_of am_o123 am_l123 rfl ?_
  refine am_vc_ok am_k123 [] 100 ?_
  refine am_vS am_k123 am_h123 rfl rfl rfl rfl (x_within) ?_
  refine am_vc_ok am_k123 [] 100 ?_
  refine And.intro (fun g => absurd (by rw [hn]; exact inN hc (by omega)) (bI_0.mp g)) (fun _ => ?_)
  refine And.intro (vp_in_nI (N := 30) (by omega) (by decide)) ?_
  rw [nI_clamp (by omega)]
  refine And.intro (fun _ => ?_) (fun g => absurd h7 g)
  refine am_vO am_k123 am_h123 rfl rfl rfl rfl (x_giveUp (w := w) (m := m) (by omega) h7 hw hm hm2) ?_
  refine am_vc_ok am_k123 [] 100 ?_
  exact am_vI am_k123 am_r123 rfl ⟨rfl, rfl, rfl, rfl, rfl, rfl⟩
theorem m_cancel_bad {c : Int32} (h : ¬ (0 ≤ c ∧ c ≤ σ 12 0 34 - 1)) : am_D l 232 [aR 12 0, aI c] σ τ (rX t) cX lX (some (aI (-1))) σ τ (rX t) := by
  refine am_D_of am_o232 am_l232 rfl ?_
  refine am_vc_ok am_k232 [] 100 ?_
  refine am_vO am_k232 am_h232 rfl rfl rfl rfl (m_isCall) ?_
  refine am_vc_ok am_k232 [] 100 ?_
  refine And.intro (fun h1 => ?_) (fun h1 => ?_)
  · exact am_vI am_k232 am_r232 rfl ⟨rfl, rfl, rfl, rfl, rfl, rfl⟩
  · exact absurd (bI_1.mp h1) h
theorem m_cancel_not {c : Nat} (hc : 0 ≤ nI c ∧ nI c ≤ σ 12 0 34 - 1) (hc2 : c < 30) (h7 : ¬ σ 71 0 c = 0) : am_D l 232 [aR 12 0, aI (nI c)] σ τ (rX t) cX lX (some (aI (-4))) σ τ (rX t) := by
  refine am_D_of am_o232 am_l232 rfl ?_
  refine am_vc_ok am_k232 [] 100 ?_
  refine am_vO am_k232 am_h232 rfl rfl rfl rfl (m_isCall) ?_
  refine am_vc_ok am_k232 [] 100 ?_
  refine And.intro (fun g => absurd hc (bI_0.mp g)) (fun _ => ?_)
  refine And.intro (vp_in_nI (N := 30) (by omega) (by decide)) ?_
  rw [nI_clamp (by omega)]
  refine And.intro (fun g => absurd g h7) (fun _ => ?_)
  exact am_vI am_k232 am_r232 rfl ⟨rfl, rfl, rfl, rfl, rfl, rfl⟩
theorem m_cancel {c m : Nat} (hc : 0 ≤ nI c ∧ nI c ≤ σ 12 0 34 - 1) (hc2 : c < 30) (h7 : σ 71 0 c = 0) (hm : σ 12 0 54 = nI m) (hm2 : m < 690) : am_D l 232 [aR 12 0, aI (nI c)] σ τ (rX t) cX lX (some (aI 1)) (msend (mends σ c 5) m 6 (σ 65 0 c) (σ 66 0 c) (nI c) 5) τ (rX t) := by
  refine am_D_of am_o232 am_l232 rfl ?_
  refine am_vc_ok am_k232 [] 100 ?_
  refine am_vO am_k232 am_h232 rfl rfl rfl rfl (m_isCall) ?_
  refine am_vc_ok am_k232 [] 100 ?_
  refine And.intro (fun g => absurd hc (bI_0.mp g)) (fun _ => ?_)
  refine And.intro (vp_in_nI (N := 30) (by omega) (by decide)) ?_
  rw [nI_clamp (by omega)]
  refine And.intro (fun _ => ?_) (fun g => absurd h7 g)
  refine am_vO am_k232 am_h232 rfl rfl rfl rfl (m_ends hc2) ?_
  refine am_vc_ok am_k232 [] 100 ?_
  refine am_vO am_k232 am_h232 rfl rfl rfl rfl (m_sendOut (m := m) hc2 (by simp [mends, u3, hm]) hm2) ?_
  refine am_vc_ok am_k232 [] 100 ?_
  exact am_vI am_k232 am_r232 rfl ⟨rfl, rfl, rfl, rfl, rfl, rfl⟩
/-- call c ends with h -/
abbrev sfin (σ : tI) (c w T h : Nat) : tI := u3 (u3 (u3 (u3 (u3 σ 0 c 7 (nI h)) 0 c 8 (nI T)) 3 0 6 (nI w)) 71 0 c (nI h)) 75 0 c (nI T)
theorem Rnet0.fin {T n m lo k c w hh : Nat} (h : Rnet0 σ T n m lo k) (hc : c < n) (h7 : σ 71 0 c = 0) (hw : σ 3 0 6 = nI (w + 1)) (hw2 : w ≤ 30) (hh1 : 1 ≤ hh) (hh2 : hh < 9) : Rnet0 (sfin σ c w T hh) T n m lo k := by
  have e : ∀ q, q ≠ 0 → q ≠ 3 → q ≠ 71 → q ≠ 75 → sfin σ c w T hh q = σ q := by
    intro q a1 a2 a3 a4
    unfold sfin
    rw [u3_kk _ _ a4, u3_kk _ _ a3, u3_kk _ _ a2, u3_kk _ _ a1, u3_kk _ _ a1]
  have e0 : ∀ c2 j, c2 ≠ c ∨ (j ≠ 7 ∧ j ≠ 8) → sfin σ c w T hh 0 c2 j = σ 0 c2 j := by
    intro c2 j hj
    unfold sfin
    rw [u3_k _ _ (by decide), u3_k _ _ (by decide), u3_k _ _ (by decide)]
    rcases hj with hj | hj
    · rw [u3_i _ _ hj, u3_i _ _ hj]
    · rw [u3_j _ _ hj.2, u3_j _ _ hj.1]
  have e3 : ∀ j, j ≠ 6 → sfin σ c w T hh 3 0 j = σ 3 0 j := by
    intro j hj
    simp [sfin, u3, hj]
  have v6 : sfin σ c w T hh 3 0 6 = nI w := by simp [sfin, u3]
  have v7 : sfin σ c w T hh 0 c 7 = nI hh := by simp [sfin, u3]
  have v8 : sfin σ c w T hh 0 c 8 = nI T := by simp [sfin, u3]
  have v71 : ∀ c2, sfin σ c w T hh 71 0 c2 = if c2 = c then nI hh else σ 71 0 c2 := by
    intro c2
    simp [sfin, u3]
  have v75 : ∀ c2, sfin σ c w T hh 75 0 c2 = if c2 = c then nI T else σ 75 0 c2 := by
    intro c2
    simp [sfin, u3]
  generalize sfin σ c w T hh = s at e e0 e3 v6 v7 v8 v71 v75 ⊢
  have d : ∀ q, (Nat.ble 1 q && Nat.ble q 2 || Nat.ble 4 q && Nat.ble q 70 || Nat.ble 72 q && Nat.ble q 74 || Nat.ble 76 q) = true → s q = σ q := by
    intro q z
    simp only [Bool.or_eq_true, Bool.and_eq_true, Nat.ble_eq] at z
    exact e q (by omega) (by omega) (by omega) (by omega)
  have nh : ¬ nI hh = 0 := fun z => absurd ((nI_eq (b := 0) (by omega) (by decide)).mp z) (by omega)
  obtain ⟨h1, h2, h3, h4, h5, h6, h7'⟩ := h
  refine ⟨?_, ?_, ?_, ?_, ?_, ?_, ?_⟩
  · rw [e3 4 (by decide), d 12 rfl]; exact h1
  · rw [e3 5 (by decide), d 12 rfl]; exact h2
  · intro c2 hc2
    obtain ⟨g1, g2, g3⟩ := h3 c2 hc2
    have gU : undU s lo m c2 = undU σ lo m c2 := by unfold undU; rw [d 89 rfl]
    rw [gU, e0 c2 11 (Or.inr (by decide))]
    refine ⟨?_, ?_, g3⟩
    · unfold Rcall at g1 ⊢
      have g7 : s 0 c2 7 = s 71 0 c2 := by
        rw [v71]
        by_cases hcc : c2 = c
        · rw [if_pos hcc, hcc, v7]
        · rw [if_neg hcc, e0 c2 7 (Or.inl hcc)]; exact g1.2.2.2.2.2.2.2.1
      have g8 : s 0 c2 8 = s 75 0 c2 := by
        rw [v75]
        by_cases hcc : c2 = c
        · rw [if_pos hcc, hcc, v8]
        · rw [if_neg hcc, e0 c2 8 (Or.inl hcc)]; exact g1.2.2.2.2.2.2.2.2.1
      rw [e0 c2 0 (Or.inr (by decide)), e0 c2 1 (Or.inr (by decide)), e0 c2 2 (Or.inr (by decide)), e0 c2 3 (Or.inr (by decide)), e0 c2 4 (Or.inr (by decide)), e0 c2 5 (Or.inr (by decide)), e0 c2 6 (Or.inr (by decide)), e0 c2 9 (Or.inr (by decide)), e0 c2 10 (Or.inr (by decide)), e0 c2 12 (Or.inr (by decide)), e0 c2 13 (Or.inr (by decide)), e0 c2 14 (Or.inr (by decide)), e0 c2 15 (Or.inr (by decide)), e0 c2 16 (Or.inr (by decide)), e0 c2 17 (Or.inr (by decide)), e0 c2 18 (Or.inr (by decide)), d 13 rfl, d 65 rfl, d 66 rfl, d 67 rfl, d 68 rfl, d 69 rfl, d 70 rfl, d 72 rfl, d 73 rfl, d 74 rfl, d 76 rfl, d 77 rfl, d 78 rfl, d 79 rfl, d 80 rfl, d 81 rfl, d 82 rfl, d 83 rfl]
      obtain ⟨k0, k1, k2, k3, k4, k5, k6, -, -, k9⟩ := g1
      exact ⟨k0, k1, k2, k3, k4, k5, k6, g7, g8, k9⟩
    · unfold Ocall at g2 ⊢
      rw [d 65 rfl, d 66 rfl, d 67 rfl, d 68 rfl, d 70 rfl, d 72 rfl, d 77 rfl, d 78 rfl, d 81 rfl, d 82 rfl, v71]
      obtain ⟨k1, k2, k3, k4, k5, k6, k7⟩ := g2
      refine ⟨k1, k2, k3, k4, k5, ?_, k7⟩
      by_cases hcc : c2 = c
      · rw [if_pos hcc]; exact ⟨hh, hh2, rfl⟩
      · rw [if_neg hcc]; exact k6
  · intro c2 hc1 hc2
    have g := h4 c2 hc1 hc2
    have hcc : c2 ≠ c := by omega
    unfold Fcall at g ⊢
    rw [e0 c2 7 (Or.inl hcc), e0 c2 8 (Or.inl hcc), e0 c2 9 (Or.inl hcc), e0 c2 11 (Or.inl hcc), e0 c2 12 (Or.inl hcc), e0 c2 14 (Or.inl hcc), e0 c2 15 (Or.inl hcc), e0 c2 16 (Or.inl hcc), e0 c2 17 (Or.inl hcc), e0 c2 18 (Or.inl hcc), d 13 rfl, d 72 rfl, d 73 rfl, d 77 rfl, d 80 rfl, d 81 rfl, d 82 rfl, d 83 rfl]
    exact g
  · rw [v6]
    have e1 : cntN (fun x => decide (σ 71 0 x = 0)) n = cntN (fun x => decide (s 71 0 x = 0)) n + 1 := cntN_dec (c := c) (by simp [h7]) (by simp [v71, nh]) (fun x hx => by rw [v71, if_neg hx]) hc
    have e2 : w + 1 = cntN (fun x => decide (σ 71 0 x = 0)) n := (nI_eq (by omega) (by have := cntN_le (p := fun x => decide (σ 71 0 x = 0)) (n := n); have := h2.2.2; omega)).mp (hw.symm.trans h5)
    rw [show w = cntN (fun x => decide (s 71 0 x = 0)) n by omega]
  · rw [d 8 rfl, d 62 rfl, d 63 rfl, d 64 rfl, d 66 rfl, d 77 rfl]; exact h6
  · unfold Rframe Oframe at h7' ⊢
    rw [d 1 rfl, d 2 rfl, d 12 rfl, d 14 rfl, d 15 rfl, d 16 rfl, d 17 rfl, d 18 rfl, d 19 rfl, d 20 rfl, d 21 rfl, d 22 rfl, d 23 rfl, d 72 rfl, d 84 rfl, d 85 rfl, d 86 rfl, d 87 rfl, d 88 rfl, d 89 rfl, d 90 rfl, d 91 rfl, d 92 rfl, d 93 rfl]
    exact h7'
theorem xadd_comm {m q i j : Nat} {kd a b at' c d v : Int32} (h1 : q ≠ 1) (hF : kFr q = false) : u3 (xadd σ m kd a b at' c d) q i j v = xadd (u3 σ q i j v) m kd a b at' c d := by
  have e : ∀ c, kFr c = true → c ≠ q := fun c hc e => by rw [← e, hc] at hF; cases hF
  unfold xadd
  rw [u3_comm (Ne.symm h1), u3_comm (e 20 rfl), u3_comm (e 19 rfl), u3_comm (e 18 rfl), u3_comm (e 17 rfl), u3_comm (e 16 rfl), u3_comm (e 15 rfl), u3_comm (e 14 rfl)]
theorem fin_eq {m c w T : Nat} {a b : Int32} (h1 : σ 3 0 4 = nI T) (h2 : σ 12 0 5 = nI T) : mends (xsend (xend σ c w 5) m c 6 a b 5) c 5 = xsend (sfin σ c w T 5) m c 6 a b 5 := by
  have q1 : (xsend (xend σ c w 5) m c 6 a b 5) 12 0 5 = nI T := by simp [xsend, xadd, xend, u3, h2]
  have q2 : xend σ c w 5 = u3 (u3 (u3 σ 0 c 7 (nI 5)) 0 c 8 (nI T)) 3 0 6 (nI w) := by unfold xend; rw [h1]; rfl
  have q3 : mends (xsend (xend σ c w 5) m c 6 a b 5) c 5 = u3 (u3 (xsend (xend σ c w 5) m c 6 a b 5) 71 0 c 5) 75 0 c (nI T) := by unfold mends; rw [q1]
  rw [q3]
  unfold xsend
  rw [xadd_comm (q := 71) (by decide) rfl, xadd_comm (q := 75) (by decide) rfl, u3_comm (k := 0) (k2 := 71) (j := 11) (by decide), u3_comm (k := 0) (k2 := 75) (j := 11) (by decide), q2]
  rfl
theorem Rnet.cancel {T n m lo k c w : Nat} {a b : Int32} (h : Rnet σ T n m lo k) (hc : c < n) (h7 : σ 71 0 c = 0) (hw : σ 3 0 6 = nI (w + 1)) (hw2 : w ≤ 30) : Rnet (ssnd (sfin σ c w T 5) m c 6 a b 5 5) T n (m + 1) lo k := by
  obtain ⟨h0, ha⟩ := h.split
  refine Rnet.join ((h0.fin hc h7 hw hw2 (by decide) (by decide)).snd (by decide) hc (fun _ => rfl) (fun z => absurd z (by decide)) (fun z => absurd z (by decide)) (fun z => absurd z (by decide))) ?_
  obtain ⟨P, S, Rp, Kc, g1, g2, g3, g4, g5, g6, g7, g8⟩ := ha
  have e : ∀ q, q ≠ 0 → q ≠ 1 → q ≠ 3 → q ≠ 12 → q ≠ 71 → q ≠ 75 → kFr q = false → ssnd (sfin σ c w T 5) m c 6 a b 5 5 q = σ q := by
    intro q a1 a2 a3 a4 a5 a6 a7
    rw [ssnd_k a1 a2 a4 a7]
    unfold sfin
    rw [u3_kk _ _ a6, u3_kk _ _ a5, u3_kk _ _ a3, u3_kk _ _ a1, u3_kk _ _ a1]
  have e72 := e 72 (by decide) (by decide) (by decide) (by decide) (by decide) (by decide) rfl
  have e77 := e 77 (by decide) (by decide) (by decide) (by decide) (by decide) (by decide) rfl
  have e81 := e 81 (by decide) (by decide) (by decide) (by decide) (by decide) (by decide) rfl
  have v71 : ∀ c2, ssnd (sfin σ c w T 5) m c 6 a b 5 5 71 0 c2 = if c2 = c then nI 5 else σ 71 0 c2 := by
    intro c2
    rw [ssnd_k (by decide) (by decide) (by decide) rfl]
    simp [sfin, u3]
  have hK : Kc c = 0 := by
    have z := (g8 c hc).2.1
    rw [if_pos h7] at z
    omega
  have hA : ∀ c2, asksU (ssnd (sfin σ c w T 5) m c 6 a b 5 5) lo (m + 1) c2 = asksU σ lo m c2 := by
    intro c2
    rw [asksU_snd (by decide)]
    unfold asksU
    have e84 : sfin σ c w T 5 84 = σ 84 := by
      unfold sfin
      rw [u3_kk _ _ (by decide), u3_kk _ _ (by decide), u3_kk _ _ (by decide), u3_kk _ _ (by decide), u3_kk _ _ (by decide)]
    have e89 : sfin σ c w T 5 89 = σ 89 := by
      unfold sfin
      rw [u3_kk _ _ (by decide), u3_kk _ _ (by decide), u3_kk _ _ (by decide), u3_kk _ _ (by decide), u3_kk _ _ (by decide)]
    rw [e84, e89]
  refine ⟨P, S, Rp, fun x => if x = c then 1 else Kc x, ?_, ?_, g3, ?_, ?_, g6, ?_, ?_⟩
  · rw [← g1]; simp [ssnd, sfin, msend, xsend, xadd, u3]
  · rw [← g2]; simp [ssnd, sfin, msend, xsend, xadd, u3]
  · rw [← g4]; simp [ssnd, sfin, msend, xsend, xadd, u3]
  · rw [← g5]; simp [ssnd, sfin, msend, xsend, xadd, u3]
  · rw [e72, sumN_inc (f := fun x => (σ 72 0 x).toNatClampNeg + 1 + Rp x + Kc x) (c := c) (by simp [hK]) (fun x hx => by simp [hx]), if_pos hc]
    omega
  · intro c2 hc2
    rw [hA, e72, e77, v71, e81]
    refine ⟨(g8 c2 hc2).1, ?_, (g8 c2 hc2).2.2⟩
    show (if c2 = c then 1 else Kc c2) ≤ _
    by_cases hcc : c2 = c
    · simp only [if_pos hcc]; decide
    · simp only [if_neg hcc]; exact (g8 c2 hc2).2.1
theorem LC_cancel (h : Rall σ τ) (c : Int32) : LC l 123 232 [aI c] σ τ t := by
  obtain ⟨-, -, -, -, -, -, T, n, m, lo, k, hN⟩ := id h
  have h0 := hN.split.1
  have hm := h0.2.2.2.2.2.2.1
  have hn := h0.2.1
  have hT := h0.1
  by_cases hc : 0 ≤ c ∧ c < nI n
  · obtain ⟨c, hc1, rfl⟩ := ix_lt (nI_toInt (by omega)) hc
    have hcm : 0 ≤ nI c ∧ nI c ≤ nI n - 1 := (le_pred2 (by omega)).mpr hc
    have hC := (h0.2.2.1 c hc1).1
    have c7 : σ 0 c 7 = σ 71 0 c := hC.2.2.2.2.2.2.2.1
    by_cases h7 : σ 71 0 c = 0
    · obtain ⟨w, hw, hw2⟩ : ∃ w, σ 3 0 6 = nI (w + 1) ∧ w ≤ 30 := by
        refine ⟨cntN (fun x => decide (x ≠ c) && decide (σ 71 0 x = 0)) n, ?_, ?_⟩
        · rw [h0.2.2.2.2.1, cntN_dec (p := fun x => decide (σ 71 0 x = 0)) (q := fun x => decide (x ≠ c) && decide (σ 71 0 x = 0)) (c := c) (by simp [h7]) (by simp) (fun x hx => by simp [hx]) hc1]
        · exact Nat.le_trans cntN_le hn.2.2
      have hN2 := hN.cancel (a := σ 0 c 0) (b := σ 0 c 1) hc1 h7 hw hw2
      have hm2 := hN2.m_le
      have hM := m_cancel (l := l) (σ := xsend (xend σ c w 5) m c 6 (σ 0 c 0) (σ 0 c 1) 5) (τ := τ) (t := t) (c := c) (m := m) (by simp [xsend, xend, xadd, u3, hn.2.1]; exact hcm) (by omega) (by simp [xsend, xend, xadd, u3, h7]) (by simp [xsend, xend, xadd, u3, hm.2]) (by omega)
      have q1 : xsend (xend σ c w 5) m c 6 (σ 0 c 0) (σ 0 c 1) 5 65 0 c = σ 0 c 0 := by rw [hC.1]; simp [xsend, xend, xadd, u3]
      have q2 : xsend (xend σ c w 5) m c 6 (σ 0 c 0) (σ 0 c 1) 5 66 0 c = σ 0 c 1 := by rw [hC.2.1]; simp [xsend, xend, xadd, u3]
      rw [q1, q2, fin_eq hT.1 hT.2.1] at hM
      refine LC.of (x_cancel hn.1 hn.2.2 hc1 (c7.trans h7) hw hm.1 (by omega)) hM ?_
      refine h.net (fun q z1 z2 z3 => ?_) (fun c2 hc2 => ?_) (fun j z => ?_) hN2
      · have d : ∀ c, kNet c = true → q ≠ c := fun c hc e => by rw [e, hc] at z1; cases z1
        refine (ssnd_k (σ := sfin σ c w T 5) (m := m) (c := c) (kd := 6) (a := σ 0 c 0) (b := σ 0 c 1) (dx := 5) (dm := 5) (q := q) (d 0 rfl) (d 1 rfl) z3 (kNet_fr z1)).trans ?_
        unfold sfin
        rw [u3_kk _ _ (d 75 rfl), u3_kk _ _ (d 71 rfl), u3_kk _ _ (d 3 rfl), u3_kk _ _ (d 0 rfl), u3_kk _ _ (d 0 rfl)]
      · have e8 := ssnd_k (σ := sfin σ c w T 5) (m := m) (c := c) (kd := 6) (a := σ 0 c 0) (b := σ 0 c 1) (dx := 5) (dm := 5) (q := 8) (by decide) (by decide) (by decide) rfl
        exact ⟨congrFun (congrFun e8 c2) 0, congrFun (congrFun e8 c2) 1⟩
      · have d1 : j ≠ 54 := fun e => by rw [e] at z; cases z
        simp [ssnd, sfin, msend, xsend, xadd, u3, d1]
    · exact LC.of (x_cancel_not hn.1 hn.2.2 hc1 (by rw [c7]; exact h7)) (m_cancel_not (by rw [hn.2.1]; exact hcm) (by omega) h7) h
  · exact LC.of (x_cancel_bad (by rw [hn.1]; exact hc)) (m_cancel_bad (by rw [hn.2.1]; exact fun z => hc ((le_pred2 (by omega)).mp z))) h
end L12
