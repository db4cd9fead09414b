/-! ticks: a frame is taken, both sides -/
section L91
variable {l : Launch} {σ σ2 s s0 s1 A A0 A1 A2 : tI} {τ τ2 : tL} {t : Option (Nat × Nat)} {T n m m0 lo k c b f w : Nat}
theorem u3_cm {g : tI} {q i j q2 i2 j2 : Nat} {v w : Int32} (h : ¬ (q = q2 ∧ i = i2 ∧ j = j2)) : u3 (u3 g q i j v) q2 i2 j2 w = u3 (u3 g q2 i2 j2 w) q i j v := by
  funext a b d
  by_cases h1 : a = q ∧ b = i ∧ d = j
  · obtain ⟨rfl, rfl, rfl⟩ := h1
    rw [u3_at h, u3_eq, u3_eq]
  · rw [u3_at (f := u3 g q2 i2 j2 w) h1]
    by_cases h2 : a = q2 ∧ b = i2 ∧ d = j2
    · obtain ⟨rfl, rfl, rfl⟩ := h2
      rw [u3_eq, u3_eq]
    · rw [u3_at h2, u3_at h1, u3_at h2]
/-- the state of the relation while frames come: lo is the next one -/
def Gs (s A : tI) (lo : Nat) : tI := mrg (u3 s 1 0 2 (nI lo)) A
theorem Gs_x {q i j : Nat} {v : Int32} (h : isC q = true) (h2 : ¬ (1 = q ∧ 0 = i ∧ 2 = j)) : u3 (Gs s A lo) q i j v = Gs (u3 s q i j v) A lo := by
  unfold Gs
  rw [← mrg_x h, u3_cm h2]
theorem Gs_m {q i j : Nat} {v : Int32} (h : isC q = false) : u3 (Gs s A lo) q i j v = Gs s (u3 A q i j v) lo := by
  unfold Gs
  rw [← mrg_m h]
theorem Gs_xsend {kd a b d : Int32} : xsend (Gs s A lo) m c kd a b d = Gs (xsend s m c kd a b d) A lo := by
  simp only [xsend, xadd]
  rw [Gs_x rfl (by simp), Gs_x rfl (by simp), Gs_x rfl (by simp), Gs_x rfl (by simp), Gs_x rfl (by simp), Gs_x rfl (by simp), Gs_x rfl (by simp), Gs_x rfl (by simp), Gs_x rfl (by simp)]
  rfl
theorem Gs_msend {kd a b c d : Int32} : msend (Gs s A lo) m kd a b c d = Gs s (msend A m kd a b c d) lo := by
  unfold Gs
  rw [mrg_msend]
theorem Gs_ssnd {kd : Nat} {a b dx dm : Int32} : ssnd (Gs s A lo) m c kd a b dx dm = Gs (xsend s m c (nI kd) a b dx) (msend A m (nI kd) a b (nI c) dm) lo := by
  unfold ssnd
  rw [Gs_xsend, Gs_msend]
/-- a piece came; credit came -/
abbrev spp (σ : tI) (c : Nat) : tI := u3 (u3 σ 0 c 18 (σ 0 c 18 + 1)) 83 0 c (σ 83 0 c + 1)
theorem Rnet0.ppc (h0 : Rnet0 σ T n m lo k) (ha : RaccS σ n m lo c 0) (hc : c < n) : Rnet (spp σ c) T n m lo k := by
  obtain ⟨kR, kO, kU⟩ := h0.2.2.1 c hc
  have E : ccF σ (spp σ c) c := by
    refine ⟨fun q hq => ?_, fun c2 h2 => ⟨?_, ?_⟩, fun q c2 h1 h1b h1c h2 => ?_, fun c2 y h2 hy => ?_, fun y hy => ?_, fun a y hy5 hy6 => ?_, ?_⟩
    · have z := ccK_ne hq
      funext i y
      simp [u3, z]
    · funext y; simp [u3, h2]
    · funext y; simp [u3, h2]
    · have z : q ≠ 0 ∧ q ≠ 3 ∧ q ≠ 8 ∧ q ≠ 13 ∧ q ≠ 80 := by omega
      simp [u3, h2, z]
    · simp [u3, h2]
    · simp [u3, hy]
    · simp [u3, hy5, hy6]
    · simp [u3]
  refine Rnet.join (h0.cc hc E ?_ ?_ ?_ ?_ ?_) (Racc.S (x := 0) (ha.cc E (by simp [u3]) (by simp [u3]) (by simp [u3]) (by simpa [u3] using ha.k81 hc)))
  · unfold Rcall at kR ⊢
    obtain ⟨a0, a1, a2, a3, a4, a5, a6, a7, a8, a9, b0, b1, b2, b3, b4, b5, b6, b7, b8⟩ := kR
    refine ⟨?_, ?_, ?_, ?_, ?_, ?_, ?_, ?_, ?_, ?_, ?_, ?_, ?_, ?_, ?_, ?_, ?_, ?_, ?_⟩
    all_goals (first | (simp [u3]; done) | (simp [u3]; assumption) | skip)
  · simpa [Ocall, u3] using kO
  · simpa [u3] using h0.2.2.2.2.1
  · intro a ha
    exact (h0.2.2.2.2.2.1 a ha).2.2.2.2.2.2
  · intro f _ _ _ _
    simp [u3]
abbrev scr (σ : tI) (c y : Nat) : tI := u3 (u3 σ 0 c 16 (nI y)) 81 0 c (nI y)
theorem Rnet0.crc {y y0 : Nat} (h0 : Rnet0 σ T n m lo k) (ha : RaccS σ n m lo c 0) (hc : c < n) (hy0 : σ 81 0 c = nI y0) (hy : y0 ≤ y) (hy2 : y ≤ 9 * lo) (hy3 : y ≤ 7000) : Rnet (scr σ c y) T n m lo k := by
  obtain ⟨kR, kO, kU⟩ := h0.2.2.1 c hc
  have E : ccF σ (scr σ c y) c := by
    refine ⟨fun q hq => ?_, fun c2 h2 => ⟨?_, ?_⟩, fun q c2 h1 h1b h1c h2 => ?_, fun c2 y h2 hy => ?_, fun y hy => ?_, fun a y hy5 hy6 => ?_, ?_⟩
    · have z := ccK_ne hq
      funext i y
      simp [u3, z]
    · funext y; simp [u3, h2]
    · funext y; simp [u3, h2]
    · have z : q ≠ 0 ∧ q ≠ 3 ∧ q ≠ 8 ∧ q ≠ 13 ∧ q ≠ 80 := by omega
      simp [u3, h2, z]
    · simp [u3, h2]
    · simp [u3, hy]
    · simp [u3, hy5, hy6]
    · simp [u3]
  refine Rnet.join (h0.cc hc E ?_ ?_ ?_ ?_ ?_) (Racc.S (x := 0) (ha.cc E (by simp [u3]) (by simp [u3]) (by simp [u3]) ?_))
  · unfold Rcall at kR ⊢
    obtain ⟨a0, a1, a2, a3, a4, a5, a6, a7, a8, a9, b0, b1, b2, b3, b4, b5, b6, b7, b8⟩ := kR
    refine ⟨?_, ?_, ?_, ?_, ?_, ?_, ?_, ?_, ?_, ?_, ?_, ?_, ?_, ?_, ?_, ?_, ?_, ?_, ?_⟩
    all_goals (first | (simp [u3]; done) | (simp [u3]; assumption) | skip)
  · obtain ⟨k1, k2, k3, k4, k5, k6, x, y1, k7, k8, k9, k10⟩ := kO
    have e : y1 = y0 := (nI_eq (by omega) (by omega)).mp (k10.symm.trans hy0)
    exact ⟨by simpa [u3] using k1, by simpa [u3] using k2, by simpa [u3] using k3, by simpa [u3] using k4, by simpa [u3] using k5, by simpa [u3] using k6, x, y, by omega, hy3, by simpa [u3] using k9, by simp [u3]⟩
  · simpa [u3] using h0.2.2.2.2.1
  · intro a ha
    exact (h0.2.2.2.2.2.1 a ha).2.2.2.2.2.2
  · intro f _ _ _ _
    simp [u3]
  · have e : scr σ c y 81 0 c = nI y := by simp [scr, u3]
    rw [e, nI_clamp (by omega)]
    exact hy2
/-- frame f is taken on both sides -/
noncomputable def TK (l : Launch) (s0 A0 s : tI) (τ : tL) (t : Option (Nat × Nat)) (A : tI) (f T n m m0 k : Nat) : Prop := ∃ s1 A1 m1, am_D l 22 [aR 3 0, aI (nI f)] s τ (rX t) cX lX none s1 τ (rX t) ∧ MD l 223 [aR 12 0, aI (nI f)] A none A1 ∧ Rnet (Gs s1 A1 (f + 1)) T n m1 (f + 1) k ∧ xF s0 s1 ∧ mF A0 A1 ∧ NA A1 m0 m1 ∧ m ≤ m1
theorem TK.end {x : Nat} {h : Nat} (h0 : Rnet0 (Gs s A (f + 1)) T n m (f + 1) k) (ha : RaccS (Gs s A (f + 1)) n m (f + 1) c x) (hc : c < n) (hh1 : 1 ≤ h) (hh2 : h < 9) (hF : xF s0 s) (hM : mF A0 A) (hN : NA A m0 m) (hX : ∀ s1, am_D l 17 [aR 3 0, aI (nI c), aI (nI h)] s τ (rX t) cX lX none s1 τ (rX t) → am_D l 22 [aR 3 0, aI (nI f)] s τ (rX t) cX lX none s1 τ (rX t)) (hY0 : ¬ A 71 0 c = 0 → MD l 223 [aR 12 0, aI (nI f)] A none A) (hY1 : A 71 0 c = 0 → MD l 223 [aR 12 0, aI (nI f)] A none (mends A c (nI h))) : TK l s0 A0 s τ t A f T n m m0 k := by
  have hR := Rnet.join h0 (Racc.S ha)
  have hn := h0.2.1.2.2
  have k7 : s 0 c 7 = A 71 0 c := (h0.2.2.1 c hc).1.2.2.2.2.2.2.2.1
  have hT : s 3 0 4 = nI T := h0.1.1
  have hTA : A 12 0 5 = nI T := h0.1.2.1
  by_cases q : A 71 0 c = 0
  · obtain ⟨w, hw2, hw⟩ := hR.opw hc q
    have hw : s 3 0 6 = nI (w + 1) := hw
    have R1 := hR.fin (hh := h) hc q hw hw2 hh1 hh2
    unfold sfin at R1
    rw [Gs_x rfl (by simp), Gs_x rfl (by simp), Gs_x rfl (by simp), Gs_m rfl, Gs_m rfl] at R1
    have eX : xend s c w (nI h) = u3 (u3 (u3 s 0 c 7 (nI h)) 0 c 8 (nI T)) 3 0 6 (nI w) := by
      unfold xend
      rw [hT]
    have eD : mends A c (nI h) = u3 (u3 A 71 0 c (nI h)) 75 0 c (nI T) := by
      unfold mends
      rw [hTA]
    have F1 : xF s0 (xend s c w (nI h)) := by
      repeat (first | exact hF | refine xF.u ?_ rfl)
    have M1 : mF A0 (mends A c (nI h)) := by
      repeat (first | exact hM | refine mF.u ?_ rfl)
    exact ⟨_, _, m, hX _ (x_end (w := w) (by omega) (k7.trans q) hw), hY1 q, by rw [eX, eD]; exact R1, F1, M1, hN.same rfl, Nat.le_refl _⟩
  · exact ⟨s, A, m, hX _ (x_end_not (by omega) (fun e => q (k7.symm.trans e))), hY0 q, hR, hF, hM, hN, Nat.le_refl _⟩
theorem TK.ask (h0 : Rnet0 (Gs s A (f + 1)) T n m (f + 1) k) (ha : RaccS (Gs s A (f + 1)) n m (f + 1) c 1) (hc : c < n) (hf : f < m) (hF : xF s0 s) (hM : mF A0 A) (hN : NA A m0 m) (h19 : s 19 0 f = nI c) (h84 : A 84 0 f = 1) (h90 : A 90 0 f = A 72 0 c) : TK l s0 A0 s τ t A f T n m m0 k := by
  have hR := Rnet.join h0 (Racc.S ha)
  have hmle := hR.m_le
  have hn := h0.2.1.2.2
  obtain ⟨kR, kO, -⟩ := h0.2.2.1 c hc
  obtain ⟨k0, k1, k2, k3, -, -, k6, -, -, k9, -, k12, -, k15, -, -, -, -, -⟩ := kR
  have k0 : s 0 c 0 = A 65 0 c := k0
  have k1 : s 0 c 1 = A 66 0 c := k1
  have k2 : s 0 c 2 = A 67 0 c := k2
  have k3 : s 0 c 3 = A 68 0 c := k3
  have k6 : s 0 c 6 = A 69 0 c := k6
  have k9 : s 0 c 9 = A 72 0 c := k9
  have k12 : s 0 c 12 = A 77 0 c := k12
  have k15 : s 0 c 15 = A 79 0 c := k15
  have hK : s 3 0 4 = A 12 0 5 := h0.1.1.trans h0.1.2.1.symm
  obtain ⟨-, b, -, hb, -, -, h66⟩ := kO.1
  have h66 : A 66 0 c = nI b := h66
  have g8 := h0.2.2.2.2.2.1 b hb
  have q2 : s 8 b 2 = A 62 0 b := g8.1
  have q3 : s 8 b 3 = A 63 0 b := g8.2.1
  have q5 : s 8 b 5 = nI (wtM A n b) := g8.2.2.2.2.2.2.1
  have q6 : s 8 b 6 = nI (dgM A n b) := g8.2.2.2.2.2.2.2
  have hm : s 1 0 0 = nI m := h0.2.2.2.2.2.2.1.1
  have hmA : A 12 0 54 = nI m := h0.2.2.2.2.2.2.1.2
  have h89 : A 89 0 f = nI c := ((h0.2.2.2.2.2.2.2.1 f hf).1.2.2.2.2.2.1).symm.trans h19
  have h14 : s 14 0 f = 1 := ((h0.2.2.2.2.2.2.2.1 f hf).1.1).trans h84
  have ans : ∀ (kd : Nat) (d : Int32), (2 ≤ kd ∧ kd ≤ 6) → kd ≠ 5 → (kd = 3 → ∃ e, 1 ≤ e ∧ e < 9 ∧ d = nI e) → Rnet (Gs (xsend s m c (nI kd) (A 66 0 c) (A 65 0 c) d) (msend A m (nI kd) (A 66 0 c) (A 65 0 c) (nI c) d) (f + 1)) T n (m + 1) (f + 1) k := by
    intro kd d h1 h2 h3
    rw [← Gs_ssnd]
    exact Rnet.join (h0.snd (by omega) hc (fun _ => rfl) (fun z => absurd z (by omega)) h3 (fun z => absurd z h2)) (Racc.S (x := 0) (ha.ans hc h1))
  have hm2 : m < 690 := by
    have := (ans 2 0 (by decide) (by decide) (fun z => absurd z (by decide))).m_le
    omega
  have xfs : ∀ kd a b d : Int32, xF s0 (xsend s m c kd a b d) := by
    intro kd a b d
    repeat (first | exact hF | refine xF.u ?_ rfl)
  have mfs : ∀ kd a b d : Int32, mF A0 (msend A m kd a b (nI c) d) := by
    intro kd a b d
    repeat (first | exact hM | refine mF.u ?_ rfl)
  have tM : ∀ σ : tI, taM (mrg σ A) c b m n (A 90 0 f) = if ¬ A 77 0 c = 0 then mrg σ A else if A 12 0 5 ≤ A 79 0 c then msend (mrg σ A) m 2 (A 66 0 c) (A 65 0 c) (nI c) 0 else if A 67 0 c = 1 ∧ 0 < A 90 0 f then msend (mrg σ A) m 3 (A 66 0 c) (A 65 0 c) (nI c) 8 else if A 69 0 c < A 12 0 5 + A 68 0 c then msend (mrg σ A) m 3 (A 66 0 c) (A 65 0 c) (nI c) 6 else if A 62 0 b ≤ nI (wtM A n b) + nI (dgM A n b) ∧ A 63 0 b ≤ nI (wtM A n b) then msend (mrg σ A) m 3 (A 66 0 c) (A 65 0 c) (nI c) 4 else u3 (mrg σ A) 77 0 c 1 := fun σ => rfl
  have tX : taX s c b m = if ¬ A 77 0 c = 0 then s else if A 12 0 5 ≤ A 79 0 c then xsend s m c 2 (A 66 0 c) (A 65 0 c) 0 else if A 67 0 c = 1 ∧ 0 < A 90 0 f then xsend s m c 3 (A 66 0 c) (A 65 0 c) 8 else if A 69 0 c < A 12 0 5 + A 68 0 c then xsend s m c 3 (A 66 0 c) (A 65 0 c) 6 else if A 62 0 b ≤ nI (wtM A n b) + nI (dgM A n b) ∧ A 63 0 b ≤ nI (wtM A n b) then xsend s m c 3 (A 66 0 c) (A 65 0 c) 4 else u3 (u3 s 0 c 12 1) 8 b 5 (s 8 b 5 + 1) := by
    unfold taX
    rw [k12, k15, hK, k2, k9, ← h90, k6, k3, q2, q6, q5, q3, Int32.add_comm (nI (dgM A n b)), k1, k0]
  have fin : ∀ (s1 A1 : tI) (m1 : Nat), taX s c b m = s1 → (∀ σ, taM (mrg σ A) c b m n (A 90 0 f) = mrg σ A1) → Rnet (Gs s1 A1 (f + 1)) T n m1 (f + 1) k → xF s0 s1 → mF A0 A1 → NA A1 m0 m1 → m ≤ m1 → TK l s0 A0 s τ t A f T n m m0 k := by
    intro s1 A1 m1 e1 e2 r1 r2 r3 r4 r5
    refine ⟨s1, A1, m1, x_take_1 (show f < 690 by omega) h19 h0.2.1.1 hn hc h14 ?_, fun σ τ t => m_tf_1 (show f < 1200 by omega) h89 h84 ?_, r1, r2, r3, r4, r5⟩
    · rw [← e1]
      exact x_takeAsk (by omega) hb (k1.trans h66) hm hm2
    · have := m_takeAsk (l := l) (τ := τ) (t := t) (σ := mrg σ A) (c := c) (b := b) (m := m) (n := n) (wh := A 90 0 f) (by omega) hb h66 hmA hm2 h0.2.1.2.1 hn
      rw [e2 σ] at this
      exact this
  by_cases z1 : A 77 0 c = 0
  rotate_left
  · exact fin s A m (by rw [tX, if_pos z1]) (fun σ => by rw [tM, if_pos z1]) hR hF hM hN (Nat.le_refl _)
  rw [if_neg (fun y => y z1)] at tX
  by_cases z2 : A 12 0 5 ≤ A 79 0 c
  · exact fin _ (msend A m 2 (A 66 0 c) (A 65 0 c) (nI c) 0) (m + 1) (by rw [tX, if_pos z2]; rfl) (fun σ => by rw [tM, if_neg (fun y => y z1), if_pos z2, mrg_msend]) (ans 2 0 (by decide) (by decide) (fun z => absurd z (by decide))) (xfs _ _ _ _) (mfs _ _ _ _) (hN.snd (by decide) rfl) (by omega)
  rw [if_neg z2] at tX
  by_cases z3 : A 67 0 c = 1 ∧ 0 < A 90 0 f
  · exact fin _ (msend A m 3 (A 66 0 c) (A 65 0 c) (nI c) 8) (m + 1) (by rw [tX, if_pos z3]; rfl) (fun σ => by rw [tM, if_neg (fun y => y z1), if_neg z2, if_pos z3, mrg_msend]) (ans 3 8 (by decide) (by decide) (fun _ => ⟨8, by decide, by decide, rfl⟩)) (xfs _ _ _ _) (mfs _ _ _ _) (hN.snd (by decide) rfl) (by omega)
  rw [if_neg z3] at tX
  by_cases z4 : A 69 0 c < A 12 0 5 + A 68 0 c
  · exact fin _ (msend A m 3 (A 66 0 c) (A 65 0 c) (nI c) 6) (m + 1) (by rw [tX, if_pos z4]; rfl) (fun σ => by rw [tM, if_neg (fun y => y z1), if_neg z2, if_neg z3, if_pos z4, mrg_msend]) (ans 3 6 (by decide) (by decide) (fun _ => ⟨6, by decide, by decide, rfl⟩)) (xfs _ _ _ _) (mfs _ _ _ _) (hN.snd (by decide) rfl) (by omega)
  rw [if_neg z4] at tX
  by_cases z5 : A 62 0 b ≤ nI (wtM A n b) + nI (dgM A n b) ∧ A 63 0 b ≤ nI (wtM A n b)
  · exact fin _ (msend A m 3 (A 66 0 c) (A 65 0 c) (nI c) 4) (m + 1) (by rw [tX, if_pos z5]; rfl) (fun σ => by rw [tM, if_neg (fun y => y z1), if_neg z2, if_neg z3, if_neg z4, if_pos z5, mrg_msend]) (ans 3 4 (by decide) (by decide) (fun _ => ⟨4, by decide, by decide, rfl⟩)) (xfs _ _ _ _) (mfs _ _ _ _) (hN.snd (by decide) rfl) (by omega)
  rw [if_neg z5] at tX
  have R1 := h0.pl1 ha hc h66 hb z1
  unfold spl at R1
  rw [Gs_x rfl (by simp), Gs_x rfl (by simp), Gs_m rfl] at R1
  exact fin _ (u3 A 77 0 c 1) m tX (fun σ => by rw [tM, if_neg (fun y => y z1), if_neg z2, if_neg z3, if_neg z4, if_neg z5, mrg_m rfl]) R1 ((hF.u rfl).u rfl) (hM.u rfl) (hN.same rfl) (Nat.le_refl _)
theorem TK.all (h0 : Rnet0 (Gs s A (f + 1)) T n m (f + 1) k) (ha : ∀ c, RaccS (Gs s A (f + 1)) n m (f + 1) c (if A 84 0 f = 1 ∧ A 89 0 f = nI c then 1 else 0)) (hf : f < m) (hF : xF s0 s) (hM : mF A0 A) (hN : NA A m0 m) (h90 : ∀ c, A 84 0 f = 1 → A 89 0 f = nI c → c < n → A 90 0 f = A 72 0 c) (h81 : ∀ c, c < n → (A 81 0 c).toNatClampNeg ≤ 9 * f) : TK l s0 A0 s τ t A f T n m m0 k := by
  have hR := Rnet.join h0 (Racc.S (ha 0))
  have hmle := hR.m_le
  have hn := h0.2.1.2.2
  obtain ⟨fR, fO⟩ := h0.2.2.2.2.2.2.2.1 f hf
  have e14 : s 14 0 f = A 84 0 f := fR.1
  have e19 : s 19 0 f = A 89 0 f := fR.2.2.2.2.2.1
  have e20 : ¬ A 84 0 f = 1 → s 20 0 f = A 90 0 f := fR.2.2.2.2.2.2
  rcases fO with ⟨g1, g2⟩ | ⟨kd, c, hk1, hk2, hc, g1, g2, g3, g5⟩
  · exact ⟨s, A, m, x_take_ping (show f < 690 by omega) (e19.trans g2), fun σ τ t => m_tf_ping (show f < 1200 by omega) g1, hR, hF, hM, hN, Nat.le_refl _⟩
  have g1 : A 84 0 f = nI kd := g1
  have g2 : A 89 0 f = nI c := g2
  have h19 := e19.trans g2
  have hac := ha c
  have kR := (h0.2.2.1 c hc).1
  have kO := (h0.2.2.1 c hc).2.1
  have n1 : kd ≠ 1 → ¬ A 84 0 f = 1 := fun h z => h ((nI_eq (b := 1) (by omega) (by decide)).mp (g1.symm.trans z))
  have hac0 : kd ≠ 1 → RaccS (Gs s A (f + 1)) n m (f + 1) c 0 := fun h => by
    rw [if_neg (fun z => n1 h z.1)] at hac
    exact hac
  match kd, hk1, hk2 with
  | 1, _, _ =>
    have q : A 84 0 f = 1 := g1
    rw [if_pos ⟨q, g2⟩] at hac
    exact TK.ask h0 hac hc hf hF hM hN h19 q (h90 c q g2 hc)
  | 2, _, _ =>
    have q : A 84 0 f = 2 := g1
    exact TK.end (h := 3) h0 (hac0 (by decide)) hc (by decide) (by decide) hF hM hN (fun s1 hD => x_take_2 (show f < 690 by omega) h19 h0.2.1.1 hn hc (e14.trans q) hD) (fun h7 σ τ t => m_tf_2n (Or.inl rfl) (show f < 1200 by omega) (by omega) g2 q h7) (fun h7 σ τ t => by rw [← mrg_mends]; exact m_tf_2 (show f < 1200 by omega) (by omega) g2 q h7)
  | 3, _, _ =>
    have q : A 84 0 f = 3 := g1
    obtain ⟨d, hd1, hd2, hd⟩ := g3 rfl
    have hd : A 90 0 f = nI d := hd
    have e := (e20 (n1 (by decide))).trans hd
    exact TK.end (h := d) h0 (hac0 (by decide)) hc hd1 hd2 hF hM hN (fun s1 hD => x_take_3 (show f < 690 by omega) h19 h0.2.1.1 hn hc (e14.trans q) (by rw [e]; exact hD)) (fun h7 σ τ t => m_tf_2n (Or.inr rfl) (show f < 1200 by omega) (by omega) g2 q h7) (fun h7 σ τ t => by rw [← mrg_mends, ← hd]; exact m_tf_3 (show f < 1200 by omega) (by omega) g2 q h7)
  | 4, _, _ =>
    have q : A 84 0 f = 4 := g1
    have R1 := h0.ppc (hac0 (by decide)) hc
    unfold spp at R1
    rw [Gs_x rfl (by simp), Gs_m rfl] at R1
    exact ⟨_, _, m, x_take_4 (show f < 690 by omega) h19 h0.2.1.1 hn hc (e14.trans q), fun σ τ t => by rw [mrg_m rfl]; exact m_tf_4 (show f < 1200 by omega) (by omega) g2 q, R1, hF.u rfl, hM.u rfl, hN.same rfl, Nat.le_refl _⟩
  | 5, _, _ =>
    have q : A 84 0 f = 5 := g1
    obtain ⟨d, hd1, hd⟩ := g5 rfl
    have hd : A 90 0 f = nI d := hd
    have e := (e20 (n1 (by decide))).trans hd
    obtain ⟨-, -, -, -, -, -, x, y, hxy, hy2, hx, hy⟩ := kO
    have hy : A 81 0 c = nI y := hy
    have k16 : s 0 c 16 = A 81 0 c := kR.2.2.2.2.2.2.2.2.2.2.2.2.2.2.1
    have h9 := h81 c hc
    rw [hy, nI_clamp (by omega)] at h9
    have R1 := h0.crc (y := y + d) (y0 := y) (hac0 (by decide)) hc hy (by omega) (by omega) (by omega)
    unfold scr at R1
    rw [Gs_x rfl (by simp), Gs_m rfl] at R1
    refine ⟨u3 s 0 c 16 (nI (y + d)), u3 A 81 0 c (nI (y + d)), m, ?_, fun σ τ t => ?_, R1, hF.u rfl, hM.u rfl, hN.same rfl, Nat.le_refl _⟩
    · have := x_take_5 (l := l) (τ := τ) (t := t) (show f < 690 by omega) h19 h0.2.1.1 hn hc (e14.trans q)
      rw [k16, hy, e, nI_add] at this
      exact this
    · have := m_tf_5 (l := l) (σ := mrg σ A) (τ := τ) (t := t) (show f < 1200 by omega) (show c < 30 by omega) g2 q
      rw [show mrg σ A 81 0 c + mrg σ A 90 0 f = nI (y + d) by show A 81 0 c + A 90 0 f = _; rw [hy, hd, nI_add], ← mrg_m rfl] at this
      exact this
  | 6, _, _ =>
    have q : A 84 0 f = 6 := g1
    obtain ⟨-, b, -, hb, -, -, h66⟩ := kO.1
    have h66 : A 66 0 c = nI b := h66
    have k1 : s 0 c 1 = A 66 0 c := kR.2.1
    have k12 : s 0 c 12 = A 77 0 c := kR.2.2.2.2.2.2.2.2.2.2.2.1
    by_cases z : A 77 0 c = 1
    · have R1 := h0.pl2 (hac0 (by decide)) hc h66 hb z
      unfold sun at R1
      rw [Gs_x rfl (by simp), Gs_x rfl (by simp), Gs_m rfl] at R1
      exact ⟨_, _, m, x_take_6 (show f < 690 by omega) h19 h0.2.1.1 hn hc (e14.trans q) (x_tc_on (by omega) hb (k1.trans h66) (k12.trans z)), fun σ τ t => by rw [mrg_m rfl]; exact m_tf_6 (show f < 1200 by omega) (by omega) g2 q (if_pos z).symm, R1, (hF.u rfl).u rfl, hM.u rfl, hN.same rfl, Nat.le_refl _⟩
    · refine ⟨s, A, m, x_take_6 (show f < 690 by omega) h19 h0.2.1.1 hn hc (e14.trans q) (x_tc_not (by omega) (fun e => z (k12.symm.trans e))), fun σ τ t => ?_, hR, hF, hM, hN, Nat.le_refl _⟩
      have := m_tf_6 (l := l) (σ := mrg σ A) (τ := τ) (t := t) (v := A 77 0 c) (show f < 1200 by omega) (show c < 30 by omega) g2 q (if_neg z).symm
      rw [u3_self (show mrg σ A 77 0 c = A 77 0 c from rfl)] at this
      exact this
end L91
