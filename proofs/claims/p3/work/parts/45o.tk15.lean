/-! ticks: one tick, both sides -/
section L94
variable {l : Launch} {σ σ2 s s0 s1 s2 sd A A0 A1 A2 : tI} {τ τ2 : tL} {t : Option (Nat × Nat)} {T n m m0 lo k c b f w a : Nat} {r z : Int32} {x : Option am_V}
theorem mo_work (ha : a < 6) (hD : MD l 224 [aR 12 0, aI (nI a)] A none A1) (K : MG l 228 92 [(3, aI (nI (a + 1))), (2, aI z), (1, aI r), (0, aR 12 0)] A1 x A2) : MG l 228 92 [(3, aI (nI a)), (2, aI z), (1, aI r), (0, aR 12 0)] A x A2 := by
  intro σ τ t
  have K := K σ τ t
  rw [← nI_1] at K
  refine am_vc_ok am_k228 [92, 109] 100 ?_
  refine And.intro (fun h1 => absurd h1 (nI_ge (b := 6) (by omega) (by decide))) (fun _ => ?_)
  refine am_vO am_k228 am_h228 rfl rfl rfl rfl (hD σ τ t) ?_
  refine am_vc_ok am_k228 [92, 109] 100 ?_
  exact K
theorem mo_work6 (K : MG l 228 109 [(3, aI (nI 6)), (2, aI z), (1, aI r), (0, aR 12 0)] A x A2) : MG l 228 92 [(3, aI (nI 6)), (2, aI z), (1, aI r), (0, aR 12 0)] A x A2 := by
  intro σ τ t
  have K := K σ τ t
  refine am_vc_ok am_k228 [92, 109] 100 ?_
  exact And.intro (fun _ => K) (fun h1 => absurd (show (6 : Int32) ≤ nI 6 by decide) h1)
theorem mo_bgn (ha : a < 6) (hD : MD l 225 [aR 12 0, aI (nI a)] A none A1) (K : MG l 228 111 [(3, aI (nI (a + 1))), (2, aI z), (1, aI r), (0, aR 12 0)] A1 x A2) : MG l 228 111 [(3, aI (nI a)), (2, aI z), (1, aI r), (0, aR 12 0)] A x A2 := by
  intro σ τ t
  have K := K σ τ t
  rw [← nI_1] at K
  refine am_vc_ok am_k228 [111, 128] 100 ?_
  refine And.intro (fun h1 => absurd h1 (nI_ge (b := 6) (by omega) (by decide))) (fun _ => ?_)
  refine am_vO am_k228 am_h228 rfl rfl rfl rfl (hD σ τ t) ?_
  refine am_vc_ok am_k228 [111, 128] 100 ?_
  exact K
theorem mo_bgn6 (K : MG l 228 128 [(3, aI (nI 6)), (2, aI z), (1, aI r), (0, aR 12 0)] A x A2) : MG l 228 111 [(3, aI (nI 6)), (2, aI z), (1, aI r), (0, aR 12 0)] A x A2 := by
  intro σ τ t
  have K := K σ τ t
  refine am_vc_ok am_k228 [111, 128] 100 ?_
  exact And.intro (fun _ => K) (fun h1 => absurd (show (6 : Int32) ≤ nI 6 by decide) h1)
theorem mo_90 {y : Int32} (K : MG l 228 92 [(3, aI (nI 0)), (2, aI z), (1, aI r), (0, aR 12 0)] A x A2) : MG l 228 90 [(3, aI y), (2, aI z), (1, aI r), (0, aR 12 0)] A x A2 := by
  intro σ τ t
  have K := K σ τ t
  refine am_vc_ok am_k228 [92] 100 ?_
  exact K
theorem mo_109 {y : Int32} (K : MG l 228 111 [(3, aI (nI 0)), (2, aI z), (1, aI r), (0, aR 12 0)] A x A2) : MG l 228 109 [(3, aI y), (2, aI z), (1, aI r), (0, aR 12 0)] A x A2 := by
  intro σ τ t
  have K := K σ τ t
  refine am_vc_ok am_k228 [111] 100 ?_
  exact K
theorem mo_128 {y : Int32} (K : MG l 228 130 [(3, aI 0), (2, aI z), (1, aI r), (0, aR 12 0)] A x A2) : MG l 228 128 [(3, aI y), (2, aI z), (1, aI r), (0, aR 12 0)] A x A2 := by
  intro σ τ t
  have K := K σ τ t
  refine am_vc_ok am_k228 [130] 100 ?_
  exact K
theorem mo_0 (hD : MD l 227 [aR 12 0] A none A1) (hm : A1 12 0 54 = nI m) (hT : A1 12 0 5 = nI T) (K : MG l 228 23 [(3, aI 0), (2, aI (nI m)), (1, aI 0), (0, aR 12 0)] (u3 A1 12 0 5 (nI (T + 1))) x A2) : MD l 228 [aR 12 0] A x A2 := by
  intro σ τ t
  have K := K σ τ t
  rw [mrg_m rfl] at K
  have e : u3 (mrg σ A1) 12 0 5 (nI (T + 1)) = u3 (mrg σ A1) 12 0 5 (mrg σ A1 12 0 5 + 1) := by
    rw [show mrg σ A1 12 0 5 = nI T from hT, nI_1]
  rw [e, ← hm] at K
  refine am_D_of am_o228 am_l228 rfl ?_
  refine am_vc_ok am_k228 [23] 100 ?_
  refine am_vO am_k228 am_h228 rfl rfl rfl rfl (hD σ τ t) ?_
  refine am_vc_ok am_k228 [23] 100 ?_
  exact K
theorem xm_l1 {Q : tQ} : ∀ (d a : Nat) {s A : tI} {m : Nat}, a + d = 6 → Rnet (mrg s A) T n m lo k → xF s0 s → mF A0 A → NA A lo m → (∀ s1 A1 m1, (∀ x A2, MG l 228 109 [(3, aI (nI 6)), (2, aI z), (1, aI r), (0, aR 12 0)] A1 x A2 → MG l 228 92 [(3, aI (nI a)), (2, aI z), (1, aI r), (0, aR 12 0)] A x A2) → Rnet (mrg s1 A1) T n m1 lo k → xF s0 s1 → mF A0 A1 → NA A1 lo m1 → am_G l 19 Q 0 0 38 [(2, aI (nI 6)), (1, aI r), (0, aR 3 0)] [] s1 τ (rX t) cX lX) → am_G l 19 Q 0 0 21 [(2, aI (nI a)), (1, aI r), (0, aR 3 0)] [] s τ (rX t) cX lX
  | 0, a, s, A, m, h, hR, hF, hM, hN, hQ => by
    obtain rfl : a = 6 := by omega
    have K := hQ s A m (fun x A2 q => mo_work6 q) hR hF hM hN
    refine am_vc_ok am_k19 [21, 38] 100 ?_
    exact And.intro (fun _ => K) (fun h1 => absurd (show (6 : Int32) ≤ nI 6 by decide) h1)
  | d + 1, a, s, A, m, h, hR, hF, hM, hN, hQ => by
    have fin := fun {s1 A1 : tI} {m1 : Nat} => xm_l1 (Q := Q) d (a + 1) (s := s1) (A := A1) (m := m1) (by omega)
    refine am_vc_ok am_k19 [21, 38] 100 ?_
    refine And.intro (fun h1 => absurd h1 (nI_ge (b := 6) (by omega) (by decide))) (fun _ => ?_)
    refine am_vOT am_k19 am_h19 rfl rfl rfl rfl (xm_finishWork (a := a) (by omega) hR hF hM hN) ?_
    intro v s1 τ1 t1 hP
    obtain ⟨e1, e2, e3, A1, m1, q, R1, F1, M1, N1⟩ := hP
    subst e1
    have e2 := e2.symm
    subst e2
    have e3 := e3.symm
    subst e3
    have K := fin (s1 := s1) (A1 := A1) (m1 := m1) R1 F1 M1 N1 (fun s3 A3 m3 p => hQ s3 A3 m3 (fun x A2 y => mo_work (by omega) q (p x A2 y)))
    rw [← nI_1] at K
    refine am_vc_ok am_k19 [21, 38] 100 ?_
    exact K
theorem xm_l2 {Q : tQ} : ∀ (d a : Nat) {s A : tI} {m : Nat}, a + d = 6 → Rnet (mrg s A) T n m lo k → xF s0 s → mF A0 A → NA A lo m → (∀ s1 A1 m1, (∀ x A2, MG l 228 128 [(3, aI (nI 6)), (2, aI z), (1, aI r), (0, aR 12 0)] A1 x A2 → MG l 228 111 [(3, aI (nI a)), (2, aI z), (1, aI r), (0, aR 12 0)] A x A2) → Rnet (mrg s1 A1) T n m1 lo k → xF s0 s1 → mF A0 A1 → NA A1 lo m1 → am_G l 19 Q 0 0 57 [(2, aI (nI 6)), (1, aI r), (0, aR 3 0)] [] s1 τ (rX t) cX lX) → am_G l 19 Q 0 0 40 [(2, aI (nI a)), (1, aI r), (0, aR 3 0)] [] s τ (rX t) cX lX
  | 0, a, s, A, m, h, hR, hF, hM, hN, hQ => by
    obtain rfl : a = 6 := by omega
    have K := hQ s A m (fun x A2 q => mo_bgn6 q) hR hF hM hN
    refine am_vc_ok am_k19 [40, 57] 100 ?_
    exact And.intro (fun _ => K) (fun h1 => absurd (show (6 : Int32) ≤ nI 6 by decide) h1)
  | d + 1, a, s, A, m, h, hR, hF, hM, hN, hQ => by
    have fin := fun {s1 A1 : tI} {m1 : Nat} => xm_l2 (Q := Q) d (a + 1) (s := s1) (A := A1) (m := m1) (by omega)
    refine am_vc_ok am_k19 [40, 57] 100 ?_
    refine And.intro (fun h1 => absurd h1 (nI_ge (b := 6) (by omega) (by decide))) (fun _ => ?_)
    refine am_vOT am_k19 am_h19 rfl rfl rfl rfl (xm_beginWork (a := a) (by omega) hR hF hM hN) ?_
    intro v s1 τ1 t1 hP
    obtain ⟨e1, e2, e3, A1, m1, q, R1, F1, M1, N1⟩ := hP
    subst e1
    have e2 := e2.symm
    subst e2
    have e3 := e3.symm
    subst e3
    have K := fin (s1 := s1) (A1 := A1) (m1 := m1) R1 F1 M1 N1 (fun s3 A3 m3 p => hQ s3 A3 m3 (fun x A2 y => mo_bgn (by omega) q (p x A2 y)))
    rw [← nI_1] at K
    refine am_vc_ok am_k19 [40, 57] 100 ?_
    exact K
theorem xm_pass (hR : Rnet (mrg s A) T n m lo k) (hT : T < 9999) (hF : xF s0 s) (hM : mF A0 A) : am_T l 19 [aR 3 0] s τ t (fun v s1 τ1 t1 => τ1 = τ ∧ t1 = t ∧ ∃ r A1 m1, v = some (aI r) ∧ MD l 228 [aR 12 0] A (some (aI r)) A1 ∧ Rnet (mrg s1 A1) (T + 1) n m1 m k ∧ xF s0 s1 ∧ mF A0 A1) := by
  refine am_T_of am_o19 am_l19 rfl ?_
  refine am_vc_ok am_k19 [21] 100 ?_
  refine am_vOT am_k19 am_h19 rfl rfl rfl rfl (xm_shareOut hR hF hM) ?_
  intro v1 s1 τ1 t1 hP
  obtain ⟨e1, e2, e3, A1, q1, R1, F1, M1⟩ := hP
  subst e1
  have e2 := e2.symm
  subst e2
  have e3 := e3.symm
  subst e3
  have h0 := R1.split.1
  have hT1 : s1 3 0 4 = nI T := h0.1.1
  have R2 := R1.tck hT
  rw [← mrg_x (q := 3) rfl, ← mrg_m (q := 12) rfl] at R2
  have eT : u3 s1 3 0 4 (nI (T + 1)) = u3 s1 3 0 4 (s1 3 0 4 + 1) := by rw [hT1, nI_1]
  rw [eT] at R2
  refine am_vc_ok am_k19 [21] 100 ?_
  refine am_vOT am_k19 am_h19 rfl rfl rfl rfl (xm_deliver R2 (F1.u rfl) (M1.u rfl)) ?_
  intro v2 s2 τ2 t2 hP
  obtain ⟨e2, e3, r, A2, m2, e1, q2, R3, F3, M3, N3⟩ := hP
  subst e1
  have e2 := e2.symm
  subst e2
  have e3 := e3.symm
  subst e3
  refine am_vc_ok am_k19 [21] 100 ?_
  refine xm_l1 (z := nI m) (r := r) 6 0 (by omega) R3 F3 M3 N3 (fun s3 A3 m3 q3 R4 F4 M4 N4 => ?_)
  refine am_vc_ok am_k19 [40] 100 ?_
  refine xm_l2 (z := nI m) (r := r) 6 0 (by omega) R4 F4 M4 N4 (fun s4 A4 m4 q4 R5 F5 M5 N5 => ?_)
  refine am_vc_ok am_k19 [] 100 ?_
  refine am_vOT am_k19 am_h19 rfl rfl rfl rfl (xm_watchCalls (z := nI m) (r := r) R5 F5 M5 N5) ?_
  intro v5 s5 τ5 t5 hP
  obtain ⟨e1, e2, e3, A5, m5, q5, R6, F6, M6⟩ := hP
  subst e1
  have e2 := e2.symm
  subst e2
  have e3 := e3.symm
  subst e3
  refine am_vc_ok am_k19 [] 100 ?_
  refine am_vI am_k19 am_r19 rfl ⟨t, rfl, rfl, rfl, rfl, rfl, r, A5, m5, rfl, ?_, R6, F6, M6⟩
  exact mo_0 q1 h0.2.2.2.2.2.2.1.2 h0.1.2.1 (q2 _ _ (mo_90 (q3 _ _ (mo_109 (q4 _ _ (mo_128 q5))))))
end L94
