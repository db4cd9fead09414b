/-! CASES OF THE LAW: tick, run -/
section L95
variable {l : Launch} {σ σ2 s s0 s1 s2 sd A A0 A1 A2 : tI} {τ τ2 : tL} {t : Option (Nat × Nat)} {T n m m0 lo k c N : Nat} {r z : Int32} {x : Option am_V}
theorem Rall.tk (h : Rall σ τ) (hF : xF σ s1) (hM : mF σ A1) (hR : Rnet (mrg s1 A1) T n m lo k) : Rall (mrg s1 A1) τ := by
  refine h.net (fun q z1 z2 z3 => ?_) (fun a ha => ⟨hF 8 a 0 rfl, hF 8 a 1 rfl⟩) (fun j z => ?_) hR
  · unfold mrg
    cases hq : isC q
    · show A1 q = σ q
      funext i j
      refine hM q i j ?_
      cases ho : okm q j
      · rfl
      · exfalso
        have e : kNet q = true := by
          unfold kNet
          unfold okm at ho
          simp only [Bool.or_eq_true, Bool.and_eq_true, Nat.ble_eq, Nat.beq_eq] at ho ⊢
          omega
        rw [z1] at e
        cases e
    · show s1 q = σ q
      funext i j
      refine hF q i j ?_
      cases ho : okx q j
      · rfl
      · exfalso
        have e : kNet q = true := by
          unfold kNet
          unfold okx at ho
          simp only [Bool.or_eq_true, Bool.and_eq_true, Nat.ble_eq, Nat.beq_eq] at ho ⊢
          omega
        rw [z1] at e
        cases e
  · show A1 12 0 j = σ 12 0 j
    refine hM 12 0 j ?_
    cases ho : okm 12 j
    · rfl
    · exfalso
      have e : jNet j = true := by
        unfold jNet
        unfold okm at ho
        simp only [Bool.or_eq_true, Bool.and_eq_true, Nat.ble_eq, Nat.beq_eq] at ho ⊢
        omega
      rw [z] at e
      cases e
theorem m_tick_on (hT : ¬ s 12 0 5 = 9999) (hD : am_D l 228 [aR 12 0] s τ (rX t) cX lX (some (aI r)) σ2 τ (rX t)) : am_D l 229 [aR 12 0] s τ (rX t) cX lX (some (aI r)) σ2 τ (rX t) := by
  refine am_D_of am_o229 am_l229 rfl ?_
  refine am_vc_ok am_k229 [] 100 ?_
  refine And.intro (fun g => absurd g hT) (fun _ => ?_)
  refine am_vO am_k229 am_h229 rfl rfl rfl rfl (hD) ?_
  refine am_vc_ok am_k229 [] 100 ?_
  exact am_vI am_k229 am_r229 rfl ⟨rfl, rfl, rfl, rfl, rfl, rfl⟩
theorem m_tick_end (hT : s 12 0 5 = 9999) : am_D l 229 [aR 12 0] s τ (rX t) cX lX (some (aI (-4))) s τ (rX t) := by
  refine am_D_of am_o229 am_l229 rfl ?_
  refine am_vc_ok am_k229 [] 100 ?_
  refine And.intro (fun _ => ?_) (fun g => absurd hT g)
  exact am_vI am_k229 am_r229 rfl ⟨rfl, rfl, rfl, rfl, rfl, rfl⟩
theorem x_tick_end (hT : s 3 0 4 = 9999) : am_D l 121 [aR 11 0] s τ (rX t) cX lX (some (aI (-4))) s τ (rX t) := by
  refine am_D_of am_o121 am_l121 rfl ?_
  refine am_vc_ok am_k121 [] 100 ?_
  refine And.intro (fun g => absurd (show s 3 0 4 < 9999 from g) (by rw [hT]; decide)) (fun _ => ?_)
  exact am_vI am_k121 am_r121 rfl ⟨rfl, rfl, rfl, rfl, rfl, rfl⟩
theorem LC_tick (h : Rall σ τ) : LC l 121 229 [] σ τ t := by
  obtain ⟨-, -, -, -, -, -, T, n, m, lo, k, hN⟩ := id h
  have h0 := hN.split.1
  have hT := h0.1
  by_cases e : T = 9999
  · subst e
    exact LC.of (x_tick_end hT.1) (m_tick_end hT.2.1) h
  · have hR : Rnet (mrg σ σ) T n m lo k := by rw [mrg_self]; exact hN
    unfold LC
    refine am_T_of am_o121 am_l121 rfl ?_
    refine am_vc_ok am_k121 [] 100 ?_
    refine And.intro (fun _ => ?_) (fun g => absurd (show σ 3 0 4 < 9999 by rw [hT.1]; exact nI_lt (b := 9999) (by omega) (by decide)) g)
    refine am_vOT am_k121 am_h121 rfl rfl rfl rfl (xm_pass hR (by omega) xF.r mF.r) ?_
    intro v s1 τ1 t1 hP
    obtain ⟨e2, e3, r, A1, m1, e1, q, R1, F1, M1⟩ := hP
    subst e1
    have e2 := e2.symm
    subst e2
    have e3 := e3.symm
    subst e3
    have q := q s1 τ t
    rw [xF_mrg F1] at q
    have q2 := m_tick_on (s := s1) (fun e4 => absurd ((nI_eq (b := 9999) (by omega) (by decide)).mp (show nI T = nI 9999 from (hT.2.1.symm.trans ((F1 12 0 5 rfl).symm.trans e4)))) e) q
    refine am_vc_ok am_k121 [] 100 ?_
    refine am_vI am_k121 am_r121 rfl ⟨t, rfl, rfl, rfl, rfl, ?_⟩
    refine ⟨q2.1, q2.2.mono ?_⟩
    rintro v2 s2 τ2 p c2 n2 ⟨rfl, rfl, rfl, rfl, rfl, rfl⟩
    exact ⟨t, rfl, rfl, rfl, rfl, h.tk F1 M1 R1⟩
theorem mr_step (hi : c < N) (hN : N ≤ 100) (hD : MD l 228 [aR 12 0] A (some (aI r)) A1) (K : MG l 230 31 [(3, aI (nI (c + 1))), (2, aI (z + r)), (0, aR 12 0), (1, aI (nI N))] A1 x A2) : MG l 230 31 [(3, aI (nI c)), (2, aI z), (0, aR 12 0), (1, aI (nI N))] A x A2 := by
  intro σ τ t
  have K := K σ τ t
  rw [← nI_1] at K
  refine am_vc_ok am_k230 [31, 49] 100 ?_
  refine And.intro (fun h1 => absurd h1 (nI_ge (b := N) (by omega) (by omega))) (fun _ => ?_)
  refine am_vO am_k230 am_h230 rfl rfl rfl rfl (hD σ τ t) ?_
  refine am_vc_ok am_k230 [31, 49] 100 ?_
  exact K
theorem mr_end : MG l 230 31 [(3, aI (nI N)), (2, aI z), (0, aR 12 0), (1, aI (nI N))] A (some (aI z)) A := by
  intro σ τ t
  refine am_vc_ok am_k230 [31] 100 ?_
  refine And.intro (fun _ => ?_) (fun h1 => absurd (Int32.le_refl _) h1)
  exact am_vI am_k230 am_r230 rfl ⟨rfl, rfl, rfl, rfl, rfl, rfl⟩
theorem m_run_late (hn : N ≤ 100) (hT : s 12 0 5 = nI T) (hT2 : 9999 < T + N) (hT3 : T ≤ 9999) : am_D l 230 [aR 12 0, aI (nI N)] s τ (rX t) cX lX (some (aI (-4))) s τ (rX t) := by
  refine am_D_of am_o230 am_l230 rfl ?_
  refine am_vc_ok am_k230 [31, 49] 100 ?_
  refine am_vS am_k230 am_h230 rfl rfl rfl rfl (m_in) ?_
  refine am_vc_ok am_k230 [31, 49] 100 ?_
  refine And.intro (fun g => absurd ⟨nI_pos' (n := N) (by omega), nI_le (b := 100) hn (by decide)⟩ (bI_0.mp g)) (fun _ => ?_)
  refine And.intro (fun g => absurd (show nI (T + N) ≤ nI 9999 by rw [← nI_add, ← hT]; exact g) (nI_ge (b := T + N) (by omega) (by omega))) (fun _ => ?_)
  exact am_vI am_k230 am_r230 rfl ⟨rfl, rfl, rfl, rfl, rfl, rfl⟩
theorem m_run_on (hn : N ≤ 100) (hT : s 12 0 5 = nI T) (hT2 : T + N ≤ 9999) (K : MG l 230 31 [(3, aI 0), (2, aI 0), (0, aR 12 0), (1, aI (nI N))] A (some (aI r)) A1) (e : mrg s A = s) : am_D l 230 [aR 12 0, aI (nI N)] s τ (rX t) cX lX (some (aI r)) (mrg s A1) τ (rX t) := by
  have K := K s τ t
  rw [e] at K
  refine am_D_of am_o230 am_l230 rfl ?_
  refine am_vc_ok am_k230 [31, 49] 100 ?_
  refine am_vS am_k230 am_h230 rfl rfl rfl rfl (m_in) ?_
  refine am_vc_ok am_k230 [31, 49] 100 ?_
  refine And.intro (fun g => absurd ⟨nI_pos' (n := N) (by omega), nI_le (b := 100) hn (by decide)⟩ (bI_0.mp g)) (fun _ => ?_)
  refine And.intro (fun _ => ?_) (fun g => absurd (by rw [hT, nI_add]; exact nI_le (b := 9999) hT2 (by decide)) g)
  exact K
theorem x_run_late (hn : N ≤ 100) (hT : s 3 0 4 = nI T) (hT2 : 9999 < T + N) (hT3 : T ≤ 9999) : am_D l 122 [aR 11 0, aI (nI N)] s τ (rX t) cX lX (some (aI (-4))) s τ (rX t) := by
  refine am_D_of am_o122 am_l122 rfl ?_
  refine am_vc_ok am_k122 [34, 55] 100 ?_
  refine And.intro (fun g => absurd (nI_pos' (n := N) (by omega)) (Int32.not_le.mpr g)) (fun _ => ?_)
  refine And.intro (fun _ => ?_) (fun g => absurd (nI_le (b := 100) hn (by decide)) g)
  refine And.intro (fun g => absurd (show nI (T + N) ≤ nI 9999 by rw [← nI_add, ← hT]; exact g) (nI_ge (b := T + N) (by omega) (by omega))) (fun _ => ?_)
  exact am_vI am_k122 am_r122 rfl ⟨rfl, rfl, rfl, rfl, rfl, rfl⟩
theorem xm_run {Q : tQ} (hN : N ≤ 100) : ∀ (d i : Nat) {s A : tI} {T m lo : Nat} {z : Int32}, i + d = N → Rnet (mrg s A) T n m lo k → T + d ≤ 9999 → xF s0 s → mF A0 A → (∀ s1 A1 T1 m1 lo1 z1, MG l 230 31 [(3, aI (nI i)), (2, aI z), (0, aR 12 0), (1, aI (nI N))] A (some (aI z1)) A1 → Rnet (mrg s1 A1) T1 n m1 lo1 k → xF s0 s1 → mF A0 A1 → Q (some (aI z1)) s1 τ (rX t) cX lX) → am_G l 122 Q 0 0 34 [(3, aI (nI i)), (2, aI z), (0, aR 11 0), (1, aI (nI N))] [] s τ (rX t) cX lX
  | 0, i, s, A, T, m, lo, z, h, hR, hT, hF, hM, hQ => by
    obtain rfl : i = N := by omega
    refine am_vc_ok am_k122 [34] 100 ?_
    refine And.intro (fun _ => ?_) (fun h1 => absurd (Int32.le_refl _) h1)
    refine am_vI am_k122 am_r122 rfl (hQ s A T m lo z mr_end hR hF hM)
  | d + 1, i, s, A, T, m, lo, z, h, hR, hT, hF, hM, hQ => by
    have fin := fun {s1 A1 : tI} {m1 : Nat} {r : Int32} => xm_run (Q := Q) hN d (i + 1) (s := s1) (A := A1) (T := T + 1) (m := m1) (lo := m) (z := z + r) (by omega)
    refine am_vc_ok am_k122 [34, 55] 100 ?_
    refine And.intro (fun h1 => absurd h1 (nI_ge (b := N) (by omega) (by omega))) (fun _ => ?_)
    refine am_vOT am_k122 am_h122 rfl rfl rfl rfl (xm_pass hR (by omega) hF hM) ?_
    intro v s1 τ1 t1 hP
    obtain ⟨e2, e3, r, A1, m1, e1, q, R1, F1, M1⟩ := hP
    subst e1
    have e2 := e2.symm
    subst e2
    have e3 := e3.symm
    subst e3
    have K := fin (s1 := s1) (A1 := A1) (m1 := m1) (r := r) R1 (by omega) F1 M1 (fun s3 A3 T3 m3 lo3 z3 p => hQ s3 A3 T3 m3 lo3 z3 (mr_step (by omega) hN q p))
    rw [← nI_1] at K
    refine am_vc_ok am_k122 [34, 55] 100 ?_
    exact K
theorem LC_run (h : Rall σ τ) (v : Int32) : LC l 122 230 [aI v] σ τ t := by
  obtain ⟨-, -, -, -, -, -, T, n, m, lo, k, hN⟩ := id h
  have h0 := hN.split.1
  have hT := h0.1
  by_cases hv : 0 ≤ v ∧ v ≤ 100
  rotate_left
  · exact LC.of (x_run_bad hv) (m_run_bad hv) h
  obtain ⟨N, hN1, rfl⟩ := ix_le (n := 101) (by decide) hv
  by_cases e : T + N ≤ 9999
  rotate_left
  · exact LC.of (x_run_late (by omega) hT.1 (by omega) hT.2.2) (m_run_late (by omega) hT.2.1 (by omega) hT.2.2) h
  have hR : Rnet (mrg σ σ) T n m lo k := by rw [mrg_self]; exact hN
  unfold LC
  refine am_T_of am_o122 am_l122 rfl ?_
  refine am_vc_ok am_k122 [34, 55] 100 ?_
  refine And.intro (fun g => absurd (nI_pos' (n := N) (by omega)) (Int32.not_le.mpr g)) (fun _ => ?_)
  refine And.intro (fun _ => ?_) (fun g => absurd (nI_le (b := 100) (by omega) (by decide)) g)
  refine And.intro (fun _ => ?_) (fun g => absurd (by rw [hT.1, nI_add]; exact nI_le (b := 9999) e (by decide)) g)
  refine xm_run (by omega) N 0 (by omega) hR e xF.r mF.r (fun s1 A1 T1 m1 lo1 z1 q R1 F1 M1 => ⟨t, rfl, rfl, rfl, rfl, ?_⟩)
  have q2 := m_run_on (l := l) (s := s1) (τ := τ) (t := t) (T := T) (by omega) ((F1 12 0 5 rfl).trans hT.2.1) e q (xF_mrg F1)
  refine ⟨q2.1, q2.2.mono ?_⟩
  rintro v2 s2 τ2 p c2 n2 ⟨rfl, rfl, rfl, rfl, rfl, rfl⟩
  exact ⟨t, rfl, rfl, rfl, rfl, h.tk F1 M1 R1⟩
end L95
