/-! ticks: frames come, both sides -/
section L93
variable {l : Launch} {σ σ2 s s0 s1 s2 sd A A0 A1 A2 : tI} {τ τ2 : tL} {t : Option (Nat × Nat)} {T n m m0 lo k c b f w : Nat} {r : Int32}
theorem Gs_mrk {v : Int32} (hR : Rnet (Gs s A f) T n m f k) (hf : f < m) (D1 : ∀ q, q ≠ 0 → sd q = s q) (D2 : ∀ c j, j ≠ 11 → sd 0 c j = s 0 c j) (D3 : ∀ c, c < 30 → sd 0 c 11 = if c < n ∧ A 89 0 f = nI c then s 0 c 11 - 1 else s 0 c 11) (hq : ∀ q, q ≠ 1 → q ≠ 18 → s2 q = sd q) (h18 : ∀ g, g ≠ f → s2 18 0 g = sd 18 0 g) (h18f : s2 18 0 f = v) (hv : v = 1 ∨ v = 2) (h10 : s2 1 0 0 = sd 1 0 0) (h11 : s2 1 0 1 = if v = 2 then sd 1 0 1 + 1 else sd 1 0 1) : Rnet0 (Gs s2 (u3 A 88 0 f v) (f + 1)) T n m (f + 1) k ∧ ∀ c, RaccS (Gs s2 (u3 A 88 0 f v) (f + 1)) n m (f + 1) c (if A 84 0 f = 1 ∧ A 89 0 f = nI c then 1 else 0) := by
  obtain ⟨h0, ha⟩ := hR.split
  have E : ∀ q, q ≠ 0 → q ≠ 1 → q ≠ 18 → q ≠ 88 → Gs s2 (u3 A 88 0 f v) (f + 1) q = Gs s A f q := by
    intro q a0 a1 a2 a3
    unfold Gs mrg
    cases isC q
    · show u3 A 88 0 f v q = A q
      exact u3_kk _ _ a3
    · show u3 s2 1 0 2 _ q = u3 s 1 0 2 _ q
      rw [u3_kk _ _ a1, u3_kk _ _ a1, hq q a1 a2, D1 q a0]
  have e0 : s2 0 = sd 0 := hq 0 (by decide) (by decide)
  have v88 : u3 A 88 0 f v 88 0 f = v := u3_eq _ _ _ _ _
  refine ⟨h0.mrk hf E (fun c j hj => ?_) (fun c hc => ?_) (fun g hg => ⟨?_, ?_⟩) ?_ ?_ ⟨?_, ?_, ?_⟩, fun c => ha.mrk hf E⟩
  · show s2 0 c j = s 0 c j
    rw [e0, D2 c j hj]
  · show s2 0 c 11 = _
    rw [e0]
    exact D3 c hc
  · show s2 18 0 g = s 18 0 g
    rw [h18 g hg, D1 18 (by decide)]
  · show u3 A 88 0 f v 88 0 g = A 88 0 g
    simp [u3, hg]
  · show s2 18 0 f = u3 A 88 0 f v 88 0 f
    rw [h18f, v88]
  · show u3 A 88 0 f v 88 0 f = 1 ∨ u3 A 88 0 f v 88 0 f = 2
    rw [v88]
    exact hv
  · show s2 1 0 0 = s 1 0 0
    rw [h10, D1 1 (by decide)]
  · rfl
  · show s2 1 0 1 = if u3 A 88 0 f v 88 0 f = 2 then s 1 0 1 + 1 else s 1 0 1
    rw [v88, h11, D1 1 (by decide)]
theorem x_dl_sd (hR : Rnet (Gs s A f) T n m f k) (hf : f < m0) (hm0 : m0 ≤ m) (hF : xF s0 s) : ∃ sd : tI, (∀ (Q : tQ) (r : Int32), (∀ cl, am_G l 21 Q 0 0 62 [(4, aI cl), (3, aI (nI f)), (2, aI (nI m0)), (1, aI r), (0, aR 3 0)] [] sd τ (rX t) cX lX) → am_G l 21 Q 0 0 18 [(3, aI (nI f)), (2, aI (nI m0)), (1, aI r), (0, aR 3 0)] [] s τ (rX t) cX lX) ∧ (∀ q, q ≠ 0 → sd q = s q) ∧ (∀ c j, j ≠ 11 → sd 0 c j = s 0 c j) ∧ (∀ c, c < 30 → sd 0 c 11 = if c < n ∧ A 89 0 f = nI c then s 0 c 11 - 1 else s 0 c 11) ∧ xF s0 sd := by
  have hmle := hR.m_le
  have h0 := hR.split.1
  have hn := h0.2.1.2.2
  obtain ⟨fR, fO⟩ := h0.2.2.2.2.2.2.2.1 f (by omega)
  have e19 : s 19 0 f = A 89 0 f := fR.2.2.2.2.2.1
  rcases fO with ⟨g1, g2⟩ | ⟨kd, c, hk1, hk2, hc, g1, g2, g3, g5⟩
  · have g2 : A 89 0 f = -9 := g2
    refine ⟨s, fun Q r K => x_dl_ping hf (by omega) (e19.trans g2) K, fun _ _ => rfl, fun _ _ _ => rfl, fun c hc => ?_, hF⟩
    rw [if_neg]
    intro z
    rw [g2] at z
    have := z.2
    have e : ∀ c, c < 30 → ¬ (-9 : Int32) = nI c := by decide +kernel
    exact e c hc this
  · have g2 : A 89 0 f = nI c := g2
    refine ⟨u3 s 0 c 11 (s 0 c 11 - 1), fun Q r K => x_dl_call hf (by omega) (e19.trans g2) h0.2.1.1 hn hc K, fun q hq => u3_kk _ _ hq, fun c2 j hj => by simp [u3, hj], fun c2 hc2 => ?_, hF.u rfl⟩
    by_cases e : c2 = c
    · subst e
      rw [if_pos ⟨hc, g2⟩, u3_eq]
    · rw [if_neg (fun z => e ((nI_eq (by omega) (by omega)).mp (z.2.symm.trans g2)))]
      simp [u3, e]
theorem xm_dl {Q : tQ} : ∀ (d f : Nat) {s A : tI} {m : Nat} {r : Int32}, f + d = m0 → Rnet (Gs s A f) T n m f k → m0 ≤ m → xF s0 s → mF A0 A → NA A m0 m → (∀ s1 A1 m1 r1, (∀ x A2, MG l 228 90 [(3, aI (nI m0)), (2, aI (nI m0)), (1, aI r1), (0, aR 12 0)] A1 x A2 → MG l 228 23 [(3, aI (nI f)), (2, aI (nI m0)), (1, aI r), (0, aR 12 0)] A x A2) → Rnet (Gs s1 A1 m0) T n m1 m0 k → xF s0 s1 → mF A0 A1 → NA A1 m0 m1 → am_G l 21 Q 0 0 144 [(3, aI (nI m0)), (2, aI (nI m0)), (1, aI r1), (0, aR 3 0)] [] s1 τ (rX t) cX lX) → am_G l 21 Q 0 0 18 [(3, aI (nI f)), (2, aI (nI m0)), (1, aI r), (0, aR 3 0)] [] s τ (rX t) cX lX
  | 0, f, s, A, m, r, h, hR, hm0, hF, hM, hN, hQ => by
    obtain rfl : f = m0 := by omega
    have K := hQ s A m r (fun x A2 q => ml_end q) hR hF hM hN
    refine am_vc_ok am_k21 [18, 144] 100 ?_
    exact And.intro (fun _ => K) (fun g => absurd (Int32.le_refl _) g)
  | d + 1, f, s, A, m, r, h, hR, hm0, hF, hM, hN, hQ => by
    have hmle := hR.m_le
    obtain ⟨h0, ha⟩ := hR.split
    obtain ⟨sd, K62, D1, D2, D3, FD⟩ := x_dl_sd (l := l) (τ := τ) (t := t) (m0 := m0) hR (by omega) hm0 hF
    have h12 := h0.2.2.2.2.2.2.2.2.2.2.2
    have hk : sd 2 0 0 = nI k := by rw [D1 2 (by decide)]; exact h12.1
    have hkA : A 12 0 64 = nI k := h12.2.1
    have hk2 := h12.2.2.1
    obtain ⟨fR, -⟩ := h0.2.2.2.2.2.2.2.1 f (by omega)
    have e15 : s 15 0 f = A 85 0 f := fR.2.1
    have e16 : s 16 0 f = A 86 0 f := fR.2.2.1
    have hK : s 3 0 4 = A 12 0 5 := h0.1.1.trans h0.1.2.1.symm
    have h88 : A 88 0 f = 0 := h0.2.2.2.2.2.2.2.2.2.1.2.2.2 f (Nat.le_refl _) (by omega)
    have hB : bkX sd (lineI (sd 15 0 f) (sd 16 0 f)) (sd 3 0 4) k = bkM A (lineI (A 85 0 f) (A 86 0 f)) (A 12 0 5) k := by
      rw [D1 15 (by decide), D1 16 (by decide), D1 3 (by decide), e15, e16, hK]
      refine cntN_cg (fun i hi => ?_)
      have z := h12.2.2.2 i hi
      have z1 : s 21 0 i = A 91 0 i := z.1
      have z2 : s 22 0 i = A 92 0 i := z.2.1
      have z3 : s 23 0 i = A 93 0 i := z.2.2
      rw [D1 21 (by decide), D1 22 (by decide), D1 23 (by decide), z1, z2, z3]
    by_cases hb : bkM A (lineI (A 85 0 f) (A 86 0 f)) (A 12 0 5) k = 0
    · obtain ⟨R0, Ra⟩ := Gs_mrk (v := 1) (s2 := u3 sd 18 0 f 1) hR (by omega) D1 D2 D3 (fun q _ h2 => u3_kk _ _ h2) (fun g hg => by simp [u3, hg]) (u3_eq _ _ _ _ _) (Or.inl rfl) rfl rfl
      obtain ⟨s1, A1, m1, X1, Y1, R1, F1, M1, N1, L1⟩ := TK.all (l := l) (τ := τ) (t := t) (s0 := s0) (A0 := A0) (m0 := m0) R0 Ra (by omega) (FD.u rfl) (hM.u rfl) (hN.same rfl) (fun c q1 q2 q3 => h0.2.2.2.2.2.2.2.2.2.2.1 f c (Nat.le_refl _) (by omega) q1 q2 q3) (fun c hc => (ha.S0 (c := c)).k81 hc)
      refine K62 Q r (fun cl => x_dl_t (by omega) hk hk2 (hB.trans hb) X1 ?_)
      exact xm_dl d (f + 1) (s := s1) (A := A1) (m := m1) (r := r + 1) (by omega) R1 (by omega) F1 M1 N1 (fun s3 A3 m3 r3 q => hQ s3 A3 m3 r3 (fun x A2 p => ml_t (by omega) (by omega) h88 hkA hk2 hb Y1 (q x A2 p)))
    · obtain ⟨R0, Ra⟩ := Gs_mrk (v := 2) (s2 := u3 (u3 sd 18 0 f 2) 1 0 1 (sd 1 0 1 + 1)) hR (by omega) D1 D2 D3 (fun q h1 h2 => by rw [u3_kk _ _ h1, u3_kk _ _ h2]) (fun g hg => by simp [u3, hg]) (by simp [u3]) (Or.inr rfl) rfl rfl
      refine K62 Q r (fun cl => x_dl_b (by omega) hk hk2 (fun z => hb (hB.symm.trans z)) ?_)
      exact xm_dl d (f + 1) (A := u3 A 88 0 f 2) (m := m) (r := r) (by omega) (Rnet.join R0 (Racc.S (Ra 0))) hm0 ((FD.u rfl).u rfl) (hM.u rfl) (hN.same rfl) (fun s3 A3 m3 r3 q => hQ s3 A3 m3 r3 (fun x A2 p => ml_b (by omega) (by omega) h88 hkA hk2 hb (q x A2 p)))
theorem xm_deliver (hR : Rnet (mrg s A) T n m lo k) (hF : xF s0 s) (hM : mF A0 A) : am_T l 21 [aR 3 0] s τ t (fun v s1 τ1 t1 => τ1 = τ ∧ t1 = t ∧ ∃ r A1 m1, v = some (aI r) ∧ (∀ x A2, MG l 228 90 [(3, aI (nI m)), (2, aI (nI m)), (1, aI r), (0, aR 12 0)] A1 x A2 → MG l 228 23 [(3, aI 0), (2, aI (nI m)), (1, aI 0), (0, aR 12 0)] A x A2) ∧ Rnet (mrg s1 A1) T n m1 m k ∧ xF s0 s1 ∧ mF A0 A1 ∧ NA A1 m m1) := by
  have hmle := hR.m_le
  have h0 := hR.split.1
  have hlo := h0.2.2.2.2.2.2.2.2.2.1
  have e0 : s 1 0 0 = nI m := h0.2.2.2.2.2.2.1.1
  have e2 : s 1 0 2 = nI lo := hlo.1
  have eG : Gs s A lo = mrg s A := by
    unfold Gs
    rw [u3_self e2]
  have K := fun Q => xm_dl (Q := Q) (l := l) (τ := τ) (t := t) (s0 := s0) (A0 := A0) (m0 := m) (T := T) (n := n) (k := k) (m - lo) lo (s := s) (A := A) (m := m) (r := 0) (by omega) (by rw [eG]; exact hR) (Nat.le_refl _) hF hM (fun f h1 h2 => absurd h2 (by omega))
  refine am_T_of am_o21 am_l21 rfl ?_
  refine am_vc_ok am_k21 [18] 100 ?_
  show am_G l 21 _ 0 0 18 [(3, aI (s 1 0 2)), (2, aI (s 1 0 0)), (1, aI 0), (0, aR 3 0)] [] s τ (rX t) cX lX
  rw [e0, e2]
  refine K _ (fun s1 A1 m1 r1 q R1 F1 M1 N1 => ?_)
  refine am_vc_ok am_k21 [] 100 ?_
  refine am_vI am_k21 am_r21 rfl ⟨t, rfl, rfl, rfl, rfl, rfl, r1, A1, m1, rfl, fun x A2 p => ?_, R1, F1.u rfl, M1, N1⟩
  exact ml_pre (by omega) hlo.2.1 (fun f hf => by
    rcases hlo.2.2.1 f hf with e | e <;> (have e : A 88 0 f = _ := e; rw [e]; decide)) (q x A2 p) lo 0 (by omega)
end L93
