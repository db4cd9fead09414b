/-! the class's scanItem, faultOf -/
section L52
variable {l : Launch} {σ σ2 : tI} {τ τ2 : tL} {t : Option (Nat × Nat)} {r N p : Nat} {G : Nat → Int32}
theorem sub97 {v : Int32} (h1 : -1000 ≤ v) (h2 : v ≤ 127) : (0 ≤ v - 97 ∧ v - 97 < 16) ↔ (97 ≤ v ∧ v ≤ 112) := by
  have e1 : (-1000 : Int32).toInt = -1000 := by decide
  have e2 : (127 : Int32).toInt = 127 := by decide
  have e3 : (97 : Int32).toInt = 97 := by decide
  have e4 : (112 : Int32).toInt = 112 := by decide
  have e5 : (16 : Int32).toInt = 16 := by decide
  rw [i_le, e1] at h1
  rw [i_le, e2] at h2
  have e : (v - 97).toInt = v.toInt - 97 := by
    rw [Int32.toInt_sub, e3]
    exact Int.bmod_eq_of_le (by omega) (by omega)
  rw [i_le, i_lt, i_le, i_le, e, e3, e4, e5, Int32.toInt_zero]
  omega
theorem sgX_b (hB : ∀ j, j < N → isB (G j)) : -1000 ≤ sgX G N p ∧ sgX G N p ≤ 127 := by
  unfold sgX
  split
  · have := hB p (by assumption)
    exact ⟨Int32.le_trans (by decide) this.1, this.2⟩
  · decide
theorem some_lt {f : Int32 → Option Nat} {x : Nat} (h9 : f (-9) = none) (e : f (sgN G N p) = some x) : p < N := by
  apply Nat.lt_of_not_le
  intro z
  rw [sgN_N p z, h9] at e
  cases e
theorem x_scanItem {S : aSh} (h : K0 σ r N G) (hB : ∀ j, j < N → isB (G j)) (hp : σ 7 0 2 = nI p) (hp2 : p ≤ N) (h9 : σ 9 0 1 = nI (sN S)) (hS : ShOK S) (hX : XItems σ 0 S) : am_T l 68 [aR 7 0] σ τ (some (6, r)) (fun v s τ2 t2 => τ2 = τ ∧ t2 = some (6, r) ∧ itQ σ S (itP (sgN G N) S p) v s) := by
  have hN := h.2.1
  have s12 := hS.1
  generalize hR : itP (sgN G N) S p = R
  unfold itP at hR
  refine am_T_of am_o68 am_l68 rfl ?_
  refine am_vc_ok am_k68 [104] 100 ?_
  refine am_vO am_k68 am_h68 rfl rfl rfl rfl (x_sign h hp (by omega)) ?_
  refine am_vc_ok am_k68 [104] 100 ?_
  refine am_vS am_k68 am_h68 rfl rfl rfl rfl (x_within) ?_
  refine am_vc_ok am_k68 [104] 100 ?_
  have hv := sgX_b (p := p) hB
  have hw := sub97 hv.1 hv.2
  have e97 : nmO (sgX G N p) = nmO (sgN G N p) := sg_f nmO (by decide)
  have ret0 : ∀ (q : Nat) (v : Int32), v = nI q → Sum.inl q = R → xQ (fun v s τ2 t2 => τ2 = τ ∧ t2 = some (6, r) ∧ itQ σ S R v s) (some (aI v)) σ τ (rX (some (6, r))) cX lX := by
    rintro q v rfl rfl
    exact ⟨_, rfl, rfl, rfl, rfl, rfl, scP.refl, rfl⟩
  cases e1 : nmO (sgN G N p) with
  | none =>
    rw [e1] at hR e97
    have hn := nmO_n e97
    refine And.intro (fun _ => ?_) (fun g => absurd (hw.mp (bI_1.mp g)) hn)
    exact am_vI am_k68 am_r68 rfl (ret0 p _ hp hR)
  | some nm =>
    rw [e1] at hR e97
    obtain ⟨hnm, hsg⟩ := nmO_s e97
    have hsub : sgX G N p - 97 = nI nm := by
      rw [hsg, show (97 : Int32) = nI 97 from rfl, nI_sub' (by omega), show nm + 97 - 97 = nm by omega]
    have hpN : p < N := some_lt (f := nmO) (by decide) e1
    rw [hsub]
    refine And.intro (fun g => absurd ⟨nI_pos' (by omega), nI_lt (b := 16) hnm (by decide)⟩ (bI_0.mp g)) (fun _ => ?_)
    refine And.intro (fun g => ?_) (fun g => ?_)
    · have g : σ 9 0 1 < 12 := g
      rw [h9, show (12 : Int32) = nI 12 from rfl, nI_ltI (by omega) (by decide)] at g
      simp only [if_neg (show ¬ sN S = 12 by omega)] at hR
      have e7 : σ 7 0 2 + 1 = nI (p + 1) := by rw [hp, nI_1]
      have hK1 : K0 (u3 σ 7 0 2 (σ 7 0 2 + 1)) r N G := h.fr (u3_kk _ _ (by decide)) (u3_kk _ _ (by decide))
      have f7 : u3 σ 7 0 2 (σ 7 0 2 + 1) 7 0 2 = nI (p + 1) := by rw [u3_eq]; exact e7
      have hso0 := x_sortOf (l := l) (σ := u3 σ 7 0 2 (σ 7 0 2 + 1)) (τ := τ) (v := sgX G N (p + 1)) (ρ := rX (some (6, r))) (cn := cX) (ln := lX)
      rw [sg_f soO (by decide)] at hso0
      have ret1 : ∀ (q : Nat) (w v : Int32), v = nI q → Sum.inl q = R → xQ (fun v s τ2 t2 => τ2 = τ ∧ t2 = some (6, r) ∧ itQ σ S R v s) (some (aI v)) (u3 σ 7 0 2 w) τ (rX (some (6, r))) cX lX := by
        rintro q w v rfl rfl
        exact ⟨_, rfl, rfl, rfl, rfl, rfl, scP.refl.u (by decide), rfl⟩
      refine am_vO am_k68 am_h68 rfl rfl rfl rfl (x_sign hK1 f7 (by omega)) ?_
      refine am_vc_ok am_k68 [104] 100 ?_
      refine am_vS am_k68 am_h68 rfl rfl rfl rfl (hso0) ?_
      refine am_vc_ok am_k68 [104] 100 ?_
      cases e2 : soO (sgN G N (p + 1)) with
      | none =>
        rw [e2] at hR
        refine And.intro (fun _ => ?_) (fun z => absurd rfl z)
        exact am_vI am_k68 am_r68 rfl (ret1 (p + 1) _ _ f7 hR)
      | some so =>
        rw [e2] at hR
        obtain ⟨hso, hso2⟩ := soO_s e2
        have hpN1 : p + 1 < N := some_lt (f := soO) (by decide) e2
        refine And.intro (fun z => absurd z (n9_4 (by omega))) (fun _ => ?_)
        have f72 : u3 (u3 σ 7 0 2 (σ 7 0 2 + 1)) 7 0 2 (u3 σ 7 0 2 (σ 7 0 2 + 1) 7 0 2 + 1) 7 0 2 = nI (p + 2) := by rw [u3_eq, f7, nI_1]
        have hu : u3 (u3 σ 7 0 2 (σ 7 0 2 + 1)) 7 0 2 (u3 σ 7 0 2 (σ 7 0 2 + 1) 7 0 2 + 1) = u3 σ 7 0 2 (nI (p + 2)) := by rw [f7, u3_tw, nI_1]
        have hK2 : K0 (u3 (u3 σ 7 0 2 (σ 7 0 2 + 1)) 7 0 2 (u3 σ 7 0 2 (σ 7 0 2 + 1) 7 0 2 + 1)) r N G := hK1.fr (u3_kk _ _ (by decide)) (u3_kk _ _ (by decide))
        have hX2 : ∀ w, XItems (u3 σ 7 0 2 w) 0 S := fun w => hX.fr (Nat.le_refl _) (fun q k a b _ => by rw [u3_k _ _ (by omega)])
        have h92 : ∀ w, u3 σ 7 0 2 w 9 0 1 = nI (sN S) := fun w => by rw [u3_k _ _ (by decide)]; exact h9
        refine And.intro (fun z => ?_) (fun z => ?_)
        · have z : so = 3 := nI_inj' (by omega) (by decide) (show nI so = nI 3 from z)
          simp only [if_pos z] at hR
          refine am_vO am_k68 am_h68 rfl rfl rfl rfl (x_figure hK2 f72 (by omega)) ?_
          refine am_vc_ok am_k68 [104] 100 ?_
          cases e3 : fgO (sgN G N (p + 2)) with
          | none =>
            rw [e3] at hR
            refine And.intro (fun y => absurd y (by decide)) (fun _ => ?_)
            refine am_vI am_k68 am_r68 rfl ?_
            rw [hu]
            exact ret1 (p + 2) _ _ (u3_eq _ _ _ _ _) hR
          | some c =>
            rw [e3] at hR
            have hc9 := (fgO_s e3).1
            have hpN2 : p + 2 < N := some_lt (f := fgO) (by decide) e3
            refine And.intro (fun y => ?_) (fun y => ?_)
            · have y : 0 < nI c := y
              have hc0 : ¬ c = 0 := by
                rintro rfl
                exact absurd y (by decide)
              simp only [if_neg hc0] at hR
              refine am_Gs (σ2 := u3 σ 7 0 2 (nI (p + 3))) (by rw [hu, u3_eq, u3_tw, nI_1]) ?_
              refine am_Gp [0, 1, 2, 3] rfl (x_si2 (s := u3 σ 7 0 2 (nI (p + 3))) (ch := c) h (scP.refl.u (by decide)) (by omega) (u3_eq _ _ _ _ _) (h92 _) hS (by omega) (hX2 _) hnm hso hc9 hR ?_)
              intro v s hs
              exact ⟨_, rfl, rfl, rfl, rfl, rfl, hs⟩
            · have y : ¬ 0 < nI c := y
              have hc0 : c = 0 := by
                apply Decidable.byContradiction
                intro hn
                exact y (nI_lt (a := 0) (by omega) (by omega))
              simp only [if_pos hc0] at hR
              refine am_vI am_k68 am_r68 rfl ?_
              rw [hu]
              exact ret1 (p + 2) _ _ (u3_eq _ _ _ _ _) hR
        · have z : ¬ so = 3 := fun y => z (by rw [y]; rfl)
          simp only [if_neg z, if_neg (show ¬ 1 = 0 by decide)] at hR
          refine am_Gs (σ2 := u3 σ 7 0 2 (nI (p + 2))) hu ?_
          refine am_Gp [0, 1, 2, 3] rfl (x_si2 (s := u3 σ 7 0 2 (nI (p + 2))) (ch := 0) h (scP.refl.u (by decide)) (by omega) (u3_eq _ _ _ _ _) (h92 _) hS (by omega) (hX2 _) hnm hso (by omega) hR ?_)
          intro v s hs
          exact ⟨_, rfl, rfl, rfl, rfl, rfl, hs⟩
    · have g : ¬ σ 9 0 1 < 12 := g
      rw [h9, show (12 : Int32) = nI 12 from rfl, nI_ltI (by omega) (by decide)] at g
      simp only [if_pos (show sN S = 12 by omega)] at hR
      exact am_vI am_k68 am_r68 rfl (ret0 p _ hp hR)
def faQ (σ : tI) (R : Nat ⊕ aSh) (v : Option am_V) (s : tI) : Prop := scP σ s ∧ match R with
  | .inl q => v = some (aI (nI q))
  | .inr S => v = some (aI (-9)) ∧ s 9 0 1 = nI (sN S) ∧ XItems s 0 S ∧ ShOK S
theorem itP_f {sg : Nat → Int32} {S : aSh} {N p q : Nat} (hN : ∀ p, N ≤ p → sg p = -9) (hp : p ≤ N) (h : itP sg S p = .inl q) : q ≤ N := by
  unfold itP at h
  split at h
  · cases h; exact hp
  rename_i nm e1
  have l0 : p < N := by
    apply Nat.lt_of_not_le
    intro z
    rw [hN _ z, nmO9] at e1
    cases e1
  split at h
  · cases h; exact hp
  split at h
  · cases h; omega
  rename_i so e3
  have l1 : p + 1 < N := by
    apply Nat.lt_of_not_le
    intro z
    rw [hN _ z, soO9] at e3
    cases e3
  split at h
  · cases h; omega
  rename_i c e4
  split at h
  · cases h; omega
  rename_i e5
  have l2 : (if so = 3 then p + 3 else p + 2) ≤ N := by
    by_cases h3 : so = 3
    · rw [if_pos h3] at e4 ⊢
      have l3 : p + 2 < N := by
        apply Nat.lt_of_not_le
        intro z
        rw [hN _ z, fgO9] at e4
        cases e4
      omega
    · rw [if_neg h3]
      omega
  unfold itE at h
  split at h
  · rename_i e6
    cases h
    exact mkP_f hN _ _ _ _ _ l2 e6
  · rename_i it q2 e6
    have := (mkP_b hN 4 0 (0, 9, none) it _ q2 l2 e6 ⟨by decide, by decide, fun x hx => by cases hx⟩).1
    by_cases hok : itOK S (nm, so, (if so = 3 then c else 0), it)
    · rw [if_pos hok] at h
      cases h
    · rw [if_neg hok] at h
      cases h
      exact this
theorem pP_f {sg : Nat → Int32} {N : Nat} (hN : ∀ p, N ≤ p → sg p = -9) : ∀ (n : Nat) (S : aSh) (p q : Nat), p ≤ N → pP sg N n S p = .inl q → q ≤ N
  | 0, S, p, q, _, h => by cases h
  | n + 1, S, p, q, hp, h => by
    unfold pP at h
    split at h
    · cases h
    split at h
    · exact pP_f hN n S (p + 1) q (by omega) h
    · split at h
      · rename_i e
        cases h
        exact itP_f hN hp e
      · rename_i e
        exact pP_f hN n _ _ q (itP_b hN e).1 h
theorem pA_f {sg : Nat → Int32} {N p q : Nat} {S : aSh} (hN : ∀ p, N ≤ p → sg p = -9) (hp : p ≤ N) (h : pA sg N S p = .inl q) : q ≤ N := pP_f hN _ S p q hp h
theorem x_fa_lp {Q : tQ} {R : Nat ⊕ aSh} (h : K0 σ r N G) (hB : ∀ j, j < N → isB (G j)) (hQ : ∀ v s, faQ σ R v s → Q v s τ (rX (some (6, r))) cX lX) : ∀ (d k p : Nat) (S : aSh) (s : tI), N < p + d → k ≤ p → p ≤ N → pA (sgN G N) N S p = R → scP σ s → s 7 0 2 = nI p → s 9 0 1 = nI (sN S) → XItems s 0 S → ShOK S → am_G l 64 Q 0 0 20 [(2, aI (nI k)), (0, aR 7 0), (1, aR 6 r)] [] s τ (rX (some (6, r))) cX lX
  | 0, k, p, S, s, hd, hk, hp, hR, hsc, h7, h9, hX, hS => absurd hd (by omega)
  | d + 1, k, p, S, s, hd, hk, hp, hR, hsc, h7, h9, hX, hS => by
    have hN := h.2.1
    have hK : K0 s r N G := h.fr (hsc.1 6 (by decide) (by decide) (by decide)) (hsc.1 30 (by decide) (by decide) (by decide))
    obtain ⟨k1, k2, k3, k4⟩ := skN_ok (S := S) (sgN_N (G := G) (N := N)) 60 p (by omega) hp
    have fin : ∀ x S2 s2, N < x + d → k + 1 ≤ x → x ≤ N → pA (sgN G N) N S2 x = R → scP σ s2 → s2 7 0 2 = nI x → s2 9 0 1 = nI (sN S2) → XItems s2 0 S2 → ShOK S2 → am_G l 64 Q 0 0 20 [(2, aI (nI k + 1)), (0, aR 7 0), (1, aR 6 r)] [] s2 τ (rX (some (6, r))) cX lX := by
      intro x S2 s2 a1 a2 a3 a4 a5 a6 a7 a8 a9
      rw [show nI k + 1 = nI (k + 1) from nI_1 k]
      exact x_fa_lp h hB hQ d (k + 1) x S2 s2 a1 a2 a3 a4 a5 a6 a7 a8 a9
    generalize hq : skN (sgN G N) 60 p = q at k1 k2 k3 k4
    rw [k4] at hR
    refine am_vc_ok am_k64 [20] 100 ?_
    refine And.intro (fun h1 => absurd h1 (Int32.not_lt.mpr (nI_le (b := 60) (by omega) (by decide)))) (fun _ => ?_)
    refine am_vO am_k64 am_h64 rfl rfl rfl rfl (x_skip hK h7 hp) ?_
    refine am_vc_ok am_k64 [20] 100 ?_
    rw [hq]
    have hK1 : K0 (u3 s 7 0 2 (nI q)) r N G := hK.fr (u3_kk _ _ (by decide)) (u3_kk _ _ (by decide))
    have hX1 : XItems (u3 s 7 0 2 (nI q)) 0 S := hX.fr (Nat.le_refl _) (fun q k a b _ => by rw [u3_k _ _ (by omega)])
    have h91 : u3 s 7 0 2 (nI q) 9 0 1 = nI (sN S) := by rw [u3_k _ _ (by decide)]; exact h9
    refine am_vO am_k64 am_h64 rfl rfl rfl rfl (x_sign hK1 (u3_eq _ _ _ _ _) (by omega)) ?_
    refine am_vc_ok am_k64 [20] 100 ?_
    by_cases hqN : q < N
    · have e : ¬ sgX G N q = -1000 := by
        unfold sgX
        rw [if_pos hqN]
        intro z
        have := (hB q hqN).1
        rw [z] at this
        exact absurd this (by decide)
      refine And.intro (fun z => absurd z e) (fun _ => ?_)
      refine am_vOT am_k64 am_h64 rfl rfl rfl rfl (x_scanItem hK1 hB (u3_eq _ _ _ _ _) k2 h91 hS hX1) ?_
      rintro v s2 τ2 t2 ⟨rfl, rfl, hI⟩
      obtain ⟨hs2, hI⟩ := hI
      have hsc2 : scP σ s2 := (hsc.u (by decide)).tr hs2
      cases e2 : itP (sgN G N) S q with
      | inl x =>
        rw [e2] at hI
        have hI : v = some (aI (nI x)) := hI
        subst hI
        have hx := itP_f sgN_N k2 e2
        rw [pA_no hqN k3 e2] at hR
        refine am_vc_ok am_k64 [20] 100 ?_
        refine And.intro (fun z => absurd z (n9_4 (by omega))) (fun _ => ?_)
        refine am_vI am_k64 am_r64 rfl (hQ _ _ ⟨hsc2, ?_⟩)
        rw [← hR]
      | inr ix =>
        obtain ⟨i, x⟩ := ix
        rw [e2] at hI
        obtain ⟨rfl, j1, j2, j3⟩ := hI
        rw [pA_it hqN k3 e2] at hR
        obtain ⟨b1, b2, b3, b4, b5, b6, b7⟩ := itP_b sgN_N e2
        have hx := itP_p e2
        have K2 := fin x (psh S i) s2 (by omega) (by omega) b1 hR hsc2 j1 j2 j3 (psh_ok hS b2 b3 b4 b5 b6 b7)
        refine am_vc_ok am_k64 [20] 100 ?_
        refine And.intro (fun _ => ?_) (fun z => absurd rfl z)
        exact am_Gp [0, 2, 3] rfl K2
    · have e : sgX G N q = -1000 := if_neg hqN
      refine And.intro (fun _ => ?_) (fun z => absurd e z)
      rw [pA_end (by omega)] at hR
      refine am_vI am_k64 am_r64 rfl (hQ _ _ ⟨hsc.u (by decide), ?_⟩)
      rw [← hR]
      exact ⟨rfl, h91, hX1, hS⟩
def S0 : aSh := (0, fun _ => 0, fun _ => 0, fun _ => 0, fun _ => 0, fun _ => 0, fun _ => none)
theorem S0_ok : ShOK S0 := ⟨by decide, fun k hk => absurd hk (Nat.not_lt_zero k), fun k _ hk => absurd hk (Nat.not_lt_zero k)⟩
theorem x_faultOf (h : K0 σ r N G) (hB : ∀ j, j < N → isB (G j)) : am_T l 64 [aR 7 0, aR 6 r] σ τ t (fun v s τ2 t2 => τ2 = τ ∧ t2 = some (6, r) ∧ faQ σ (pA (sgN G N) N S0 0) v s) := by
  refine am_T_of am_o64 am_l64 rfl ?_
  refine am_vc_ok am_k64 [20] 100 ?_
  refine am_Gr rX_set ?_
  have hK1 : K0 (u3 (u3 σ 7 0 2 0) 9 0 1 0) r N G := h.fr (by rw [u3_kk _ _ (by decide), u3_kk _ _ (by decide)]) (by rw [u3_kk _ _ (by decide), u3_kk _ _ (by decide)])
  refine x_fa_lp (σ := σ) h hB ?_ (N + 1) 0 0 S0 _ (by omega) (by omega) (by omega) rfl ((scP.refl.u (by decide)).u (by decide)) (by rw [u3_k _ _ (by decide), u3_eq]; rfl) (u3_eq _ _ _ _ _) (fun k hk => absurd hk (Nat.not_lt_zero k)) S0_ok
  intro v s hs
  exact ⟨_, rfl, rfl, rfl, rfl, rfl, hs⟩
end L52
