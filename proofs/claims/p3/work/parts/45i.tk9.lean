/-! ticks: calls are watched, both sides -/
section L88
variable {l : Launch} {σ σ2 s s0 s1 A A0 A1 A2 : tI} {τ τ2 : tL} {t : Option (Nat × Nat)} {T n m lo k c b a w : Nat} {z r : Int32}
theorem Rnet.fin {hh : Nat} (h : Rnet σ T n m lo k) (hc : c < n) (h7 : σ 71 0 c = 0) (hw : σ 3 0 6 = nI (w + 1)) (hw2 : w ≤ 30) (hh1 : 1 ≤ hh) (hh2 : hh < 9) : Rnet (sfin σ c w T hh) T n m lo k := by
  obtain ⟨h0, ha⟩ := h.split
  have ha : RaccS σ n m lo c 0 := ha.S0
  exact Rnet.join (h0.fin hc h7 hw hw2 hh1 hh2) (Racc.S (x := 0) (ha.fin hh1 hh2 h7 (ha.k81 hc)))
theorem Rnet.opw (h : Rnet σ T n m lo k) (hc : c < n) (h7 : σ 71 0 c = 0) : ∃ w, w ≤ 30 ∧ σ 3 0 6 = nI (w + 1) := by
  have h0 := h.split.1
  have hn := h0.2.1.2.2
  have h6 := h0.2.2.2.2.1
  have hle : cntN (fun c => decide (σ 71 0 c = 0)) n ≤ n := cntN_le
  by_cases e : cntN (fun c => decide (σ 71 0 c = 0)) n = 0
  · have := cntN_none e c hc
    simp [h7] at this
  · exact ⟨cntN (fun c => decide (σ 71 0 c = 0)) n - 1, by omega, by rw [h6]; congr 1; omega⟩
theorem xm_wat {Q : tQ} : ∀ (d c : Nat) {s A : tI} {m : Nat}, c + d = n → Rnet (mrg s A) T n m lo k → xF s0 s → mF A0 A → WA A lo m c → (∀ s1 A1 m1, MG l 228 130 [(3, aI (nI c)), (2, aI z), (1, aI r), (0, aR 12 0)] A (some (aI r)) A1 → Rnet (mrg s1 A1) T n m1 lo k → xF s0 s1 → mF A0 A1 → Q none s1 τ (rX t) cX lX) → am_G l 29 Q 0 0 2 [(1, aI (nI c)), (0, aR 3 0)] [] s τ (rX t) cX lX
  | 0, c, s, A, m, h, hR, hF, hM, hN, hQ => by
    obtain rfl : c = n := by omega
    have h0 := hR.split.1
    have h5 : s 3 0 5 = nI c := h0.2.1.1
    refine am_vc_ok am_k29 [] 100 ?_
    refine And.intro (fun _ => ?_) (fun g => absurd (show s 3 0 5 ≤ nI c by rw [h5]; exact Int32.le_refl _) g)
    refine am_vV am_k29 am_r29 rfl (hQ s A m (mg_end hR) hR hF hM)
  | d + 1, c, s, A, m, h, hR, hF, hM, hN, hQ => by
    have h0 := hR.split.1
    have hn := h0.2.1.2.2
    have h5 : s 3 0 5 = nI n := h0.2.1.1
    have h6 : s 3 0 6 = nI (cntN (fun c => decide (A 71 0 c = 0)) n) := h0.2.2.2.2.1
    have hle : cntN (fun c => decide (A 71 0 c = 0)) n ≤ n := cntN_le
    have hm : s 1 0 0 = nI m := h0.2.2.2.2.2.2.1.1
    have hmA : A 12 0 54 = nI m := h0.2.2.2.2.2.2.1.2
    obtain ⟨kR, kO, -⟩ := h0.2.2.1 c (by omega)
    obtain ⟨k0, k1, k2, k3, k4, -, k6, k7, -, k9, k10, -, -, -, -, -, -, -, -⟩ := kR
    have k0 : s 0 c 0 = A 65 0 c := k0
    have k1 : s 0 c 1 = A 66 0 c := k1
    have k3 : s 0 c 3 = A 68 0 c := k3
    have k4 : s 0 c 4 = A 70 0 c := k4
    have k6 : s 0 c 6 = A 69 0 c := k6
    have k7 : s 0 c 7 = A 71 0 c := k7
    have k9 : s 0 c 9 = A 72 0 c := k9
    have k10 : s 0 c 10 = A 76 0 c := k10
    have hT : s 3 0 4 = nI T := h0.1.1
    have hTA : A 12 0 5 = nI T := h0.1.2.1
    have hK : s 3 0 4 = A 12 0 5 := hT.trans hTA.symm
    obtain ⟨x, y, hxy, hx, hy⟩ := kO.2.2.2.1
    have hx : A 72 0 c = nI x := hx
    have hy : A 70 0 c = nI y := hy
    refine am_vc_ok am_k29 [2] 100 ?_
    refine And.intro (fun g => absurd (show nI n ≤ nI c by rw [← h5]; exact g) (nI_ge (b := n) (by omega) (by omega))) (fun _ => ?_)
    refine And.intro (fun g => ?_) (fun g => ?_)
    · have g : s 3 0 6 ≤ 0 := g
      refine am_vV am_k29 am_r29 rfl (hQ s A m ?_ hR hF hM)
      refine mg_rest hR (d + 1) c h (fun c2 _ h2 e => ?_)
      rw [h6] at g
      have := cntN_none (nI_le0 g (by omega)) c2 h2
      simp [e] at this
    refine And.intro (vp_in_nI (N := 30) (show c < 30 by omega) (by decide)) ?_
    rw [nI_clamp (n := c) (by omega)]
    refine And.intro (fun q => ?_) (fun q => ?_)
    rotate_left
    · have q : ¬ s 0 c 7 = 0 := q
      have K := xm_wat d (c + 1) (s := s) (A := A) (by omega) hR hF hM (hN.same rfl rfl) (fun s1 A1 m1 p => hQ s1 A1 m1 (mg_skip hR (by omega) (fun e => q (k7.trans e)) p))
      rw [← nI_1] at K
      exact K
    have q : s 0 c 7 = 0 := q
    have h7 : A 71 0 c = 0 := k7.symm.trans q
    obtain ⟨w, hw2, hw⟩ := hR.opw (c := c) (by omega) h7
    have hw : s 3 0 6 = nI (w + 1) := hw
    by_cases hL : s 0 c 6 < s 3 0 4
    · have R1 := hR.give (c := c) (w := w) (hh := 6) (a := s 0 c 0) (b := s 0 c 1) (by omega) h7 hw hw2 (by decide) (by decide)
      have hm2 := R1.m_le
      unfold sfin at R1
      rw [← mrg_x (q := 0) rfl, ← mrg_x (q := 0) rfl, ← mrg_x (q := 3) rfl, ← mrg_m (q := 71) rfl, ← mrg_m (q := 75) rfl, mrg_ssnd] at R1
      have eX : xsend (xend s c w 6) m c 6 (s 0 c 0) (s 0 c 1) 6 = xsend (u3 (u3 (u3 s 0 c 7 (nI 6)) 0 c 8 (nI T)) 3 0 6 (nI w)) m c (nI 6) (s 0 c 0) (s 0 c 1) (nI 6) := by
        unfold xend
        rw [hT]
        rfl
      have eD : msend (mends A c 6) m 6 (A 65 0 c) (A 66 0 c) (nI c) 6 = msend (u3 (u3 A 71 0 c (nI 6)) 75 0 c (nI T)) m (nI 6) (s 0 c 0) (s 0 c 1) (nI c) (nI 6) := by
        unfold mends
        rw [hTA, k0, k1]
        rfl
      have F1 : xF s0 (xsend (xend s c w 6) m c 6 (s 0 c 0) (s 0 c 1) 6) := by
        repeat (first | exact hF | refine xF.u ?_ rfl)
      have M1 : mF A0 (msend (mends A c 6) m 6 (A 65 0 c) (A 66 0 c) (nI c) 6) := by
        repeat (first | exact hM | refine mF.u ?_ rfl)
      have D1 : MD l 226 [aR 12 0, aI (nI c)] A none (msend (mends A c 6) m 6 (A 65 0 c) (A 66 0 c) (nI c) 6) := by
        intro σ τ t
        rw [← mrg_msend, ← mrg_mends]
        exact m_go_give (show c < 30 by omega) hmA (by omega) (show A 69 0 c < A 12 0 5 by rw [← k6, ← hK]; exact hL)
      have K := xm_wat d (c + 1) (s := xsend (xend s c w 6) m c 6 (s 0 c 0) (s 0 c 1) 6) (A := msend (mends A c 6) m 6 (A 65 0 c) (A 66 0 c) (nI c) 6) (m := m + 1) (by omega) (by rw [eX, eD]; exact R1) F1 M1 (hN.snd (by omega) rfl rfl) (fun s1 A1 m1 p => hQ s1 A1 m1 (mg_step hR (by omega) h7 D1 p))
      rw [← nI_1] at K
      refine am_vO am_k29 am_h29 rfl rfl rfl rfl (x_watch_give (w := w) (m := m) (show c < 30 by omega) q hw hm (by omega) hL) ?_
      refine am_vc_ok am_k29 [2] 100 ?_
      exact K
    have hL2 : ¬ A 69 0 c < A 12 0 5 := by rw [← k6, ← hK]; exact hL
    by_cases hW : s 3 0 4 - s 0 c 10 < s 0 c 3 + 4 + wsh (s 0 c 9)
    · have hW2 : A 12 0 5 - A 76 0 c < A 68 0 c + 4 + wsh (A 72 0 c) := by rw [← hK, ← k10, ← k3, ← k9]; exact hW
      have D1 : MD l 226 [aR 12 0, aI (nI c)] A none A := fun σ τ t => m_go_no (show c < 30 by omega) hL2 hW2
      have K := xm_wat d (c + 1) (s := s) (A := A) (by omega) hR hF hM (hN.same rfl rfl) (fun s1 A1 m1 p => hQ s1 A1 m1 (mg_step hR (by omega) h7 D1 p))
      rw [← nI_1] at K
      refine am_vO am_k29 am_h29 rfl rfl rfl rfl (x_watch_no (show c < 30 by omega) hL hW) ?_
      refine am_vc_ok am_k29 [2] 100 ?_
      exact K
    have hW2 : ¬ A 12 0 5 - A 76 0 c < A 68 0 c + 4 + wsh (A 72 0 c) := by rw [← hK, ← k10, ← k3, ← k9]; exact hW
    cases y with
    | zero =>
      have hP2 : A 70 0 c = 0 := hy
      have hP : s 0 c 4 ≤ 0 := by rw [k4, hP2]; decide
      have R1 := hR.fin (c := c) (w := w) (hh := 7) (by omega) h7 hw hw2 (by decide) (by decide)
      unfold sfin at R1
      rw [← mrg_x (q := 0) rfl, ← mrg_x (q := 0) rfl, ← mrg_x (q := 3) rfl, ← mrg_m (q := 71) rfl, ← mrg_m (q := 75) rfl] at R1
      have eX : xend s c w 7 = u3 (u3 (u3 s 0 c 7 (nI 7)) 0 c 8 (nI T)) 3 0 6 (nI w) := by
        unfold xend
        rw [hT]
        rfl
      have eD : mends A c 7 = u3 (u3 A 71 0 c (nI 7)) 75 0 c (nI T) := by
        unfold mends
        rw [hTA]
        rfl
      have F1 : xF s0 (xend s c w 7) := by
        repeat (first | exact hF | refine xF.u ?_ rfl)
      have M1 : mF A0 (mends A c 7) := by
        repeat (first | exact hM | refine mF.u ?_ rfl)
      have D1 : MD l 226 [aR 12 0, aI (nI c)] A none (mends A c 7) := by
        intro σ τ t
        rw [← mrg_mends]
        exact m_go_end (show c < 30 by omega) hL2 hW2 hP2
      have K := xm_wat d (c + 1) (s := xend s c w 7) (A := mends A c 7) (m := m) (by omega) (by rw [eX, eD]; exact R1) F1 M1 (hN.same rfl rfl) (fun s1 A1 m1 p => hQ s1 A1 m1 (mg_step hR (by omega) h7 D1 p))
      rw [← nI_1] at K
      refine am_vO am_k29 am_h29 rfl rfl rfl rfl (x_watch_end (w := w) (show c < 30 by omega) q hw hL hW hP) ?_
      refine am_vc_ok am_k29 [2] 100 ?_
      exact K
    | succ y =>
      have hP2 : ¬ A 70 0 c = 0 := fun e => absurd ((nI_eq (b := 0) (by omega) (by decide)).mp (hy.symm.trans e)) (by omega)
      have hP : ¬ s 0 c 4 ≤ 0 := fun e => by
        rw [k4, hy] at e
        exact absurd (nI_le0 e (by omega)) (by omega)
      have R1 := hR.agn (c := c) (x := x) (y := y) (a := s 0 c 0) (b := s 0 c 1) (by omega) hx hy hxy (fun f h1 h2 h3 => hN f h1 h2 h3 c (Nat.le_refl _) (by omega))
      have hm2 := R1.m_le
      unfold sagn at R1
      rw [← mrg_x (q := 0) rfl, ← mrg_x (q := 0) rfl, ← mrg_x (q := 0) rfl, ← mrg_m (q := 70) rfl, ← mrg_m (q := 72) rfl, ← mrg_m (q := 76) rfl, mrg_ssnd] at R1
      have eX : xsend (u3 (u3 (u3 s 0 c 4 (s 0 c 4 - 1)) 0 c 9 (s 0 c 9 + 1)) 0 c 10 (s 3 0 4)) m c 1 (s 0 c 0) (s 0 c 1) 0 = xsend (u3 (u3 (u3 s 0 c 4 (nI y)) 0 c 9 (nI (x + 1))) 0 c 10 (nI T)) m c (nI 1) (s 0 c 0) (s 0 c 1) 0 := by
        rw [hT, k4, hy, nI_pred, k9, hx, nI_1]
        rfl
      have eD : agM A c m = msend (u3 (u3 (u3 A 70 0 c (nI y)) 72 0 c (nI (x + 1))) 76 0 c (nI T)) m (nI 1) (s 0 c 0) (s 0 c 1) (nI c) (nI (x + 1)) := by
        unfold agM
        rw [hTA, hy, nI_pred, hx, nI_1, k0, k1]
        rfl
      have F1 : xF s0 (xsend (u3 (u3 (u3 s 0 c 4 (s 0 c 4 - 1)) 0 c 9 (s 0 c 9 + 1)) 0 c 10 (s 3 0 4)) m c 1 (s 0 c 0) (s 0 c 1) 0) := by
        repeat (first | exact hF | refine xF.u ?_ rfl)
      have M1 : mF A0 (agM A c m) := by
        rw [eD]
        repeat (first | exact hM | refine mF.u ?_ rfl)
      have D1 : MD l 226 [aR 12 0, aI (nI c)] A none (agM A c m) := by
        intro σ τ t
        rw [← mrg_agM]
        exact m_go_agn (show c < 30 by omega) hmA (by omega) hL2 hW2 hP2
      have K := xm_wat d (c + 1) (s := xsend (u3 (u3 (u3 s 0 c 4 (s 0 c 4 - 1)) 0 c 9 (s 0 c 9 + 1)) 0 c 10 (s 3 0 4)) m c 1 (s 0 c 0) (s 0 c 1) 0) (A := agM A c m) (m := m + 1) (by omega) (by rw [eX, eD]; exact R1) F1 M1 (by rw [eD]; exact hN.snd (by omega) rfl rfl) (fun s1 A1 m1 p => hQ s1 A1 m1 (mg_step hR (by omega) h7 D1 p))
      rw [← nI_1] at K
      refine am_vO am_k29 am_h29 rfl rfl rfl rfl (x_watch_agn (m := m) (show c < 30 by omega) hm (by omega) hL hW hP) ?_
      refine am_vc_ok am_k29 [2] 100 ?_
      exact K
theorem xm_watchCalls (hR : Rnet (mrg s A) T n m lo k) (hF : xF s0 s) (hM : mF A0 A) (hN : NA A lo m) : am_T l 29 [aR 3 0] s τ t (fun v s1 τ1 t1 => v = none ∧ τ1 = τ ∧ t1 = t ∧ ∃ A1 m1, MG l 228 130 [(3, aI 0), (2, aI z), (1, aI r), (0, aR 12 0)] A (some (aI r)) A1 ∧ Rnet (mrg s1 A1) T n m1 lo k ∧ xF s0 s1 ∧ mF A0 A1) := by
  refine am_T_of am_o29 am_l29 rfl ?_
  refine am_vc_ok am_k29 [2] 100 ?_
  exact xm_wat n 0 (by omega) hR hF hM (fun f h1 h2 h3 => absurd h3 (hN f h1 h2)) (fun s1 A1 m1 q r f g => ⟨t, rfl, rfl, rfl, rfl, rfl, rfl, A1, m1, q, r, f, g⟩)
end L88
