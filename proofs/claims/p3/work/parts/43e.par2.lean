/-! the class's Scan: signs, figures, marks -/
section L49
variable {l : Launch} {σ σ2 : tI} {τ τ2 : tL} {t : Option (Nat × Nat)} {r N p : Nat} {G : Nat → Int32}
/-- a text as the reader sees it -/
def sgN (G : Nat → Int32) (N p : Nat) : Int32 := if p < N then G p else -9
abbrev sgX (G : Nat → Int32) (N p : Nat) : Int32 := if p < N then G p else -1000
theorem sg_f {α : Type} (f : Int32 → Option α) (h : f (-1000) = f (-9)) : f (sgX G N p) = f (sgN G N p) := by
  unfold sgX sgN
  split
  · rfl
  · exact h
theorem sgN_N : ∀ p, N ≤ p → sgN G N p = -9 := fun p h => by unfold sgN; rw [if_neg (by omega)]
/-- the text that is scanned -/
def K0 (σ : tI) (r N : Nat) (G : Nat → Int32) : Prop := σ 6 r 1 = nI N ∧ N ≤ 60 ∧ 2 ≤ r ∧ σ 30 r = G
theorem K0.fr (h : K0 σ r N G) (h6 : σ2 6 = σ 6) (h30 : σ2 30 = σ 30) : K0 σ2 r N G := by
  unfold K0 at h ⊢
  rw [h6, h30]
  exact h
theorem x_sign (h : K0 σ r N G) (hp : σ 7 0 2 = nI p) (hp2 : p < 1000) : am_D l 65 [aR 7 0] σ τ (rX (some (6, r))) cX lX (some (aI (sgX G N p))) σ τ (rX (some (6, r))) := by
  obtain ⟨h1, h2, h3, rfl⟩ := h
  refine am_D_of am_o65 am_l65 rfl ?_
  refine am_vc_ok am_k65 [] 100 ?_
  refine And.intro (fun e => ?_) (fun e => ?_)
  · have e : σ 6 r 1 ≤ σ 7 0 2 := e
    rw [hp, h1] at e
    have e : ¬ p < N := fun z => absurd e (nI_ge z (by omega))
    refine am_vI am_k65 am_r65 rfl ⟨by unfold sgX; rw [if_neg e], rfl, rfl, rfl, rfl, rfl⟩
  · have e : ¬ σ 6 r 1 ≤ σ 7 0 2 := e
    rw [hp, h1] at e
    have e : p < N := (nI_ltI (by omega) (by omega)).mp (Int32.not_le.mp e)
    refine And.intro (by rw [hp, lX_row h3]; exact vp_in_nI (by omega) (by decide)) ?_
    rw [hp, nI_clamp (by omega)]
    refine am_vI am_k65 am_r65 rfl ⟨by unfold sgX; rw [if_pos e], rfl, rfl, rfl, rfl, rfl⟩
theorem pI_n : pI none = -9 := rfl
theorem pI_s {d : Nat} : pI (some d) = nI d := rfl
theorem x_figure (h : K0 σ r N G) (hp : σ 7 0 2 = nI p) (hp2 : p < 1000) : am_D l 66 [aR 7 0] σ τ (rX (some (6, r))) cX lX (some (aI (pI (fgO (sgN G N p))))) σ τ (rX (some (6, r))) := by
  rw [← sg_f fgO (by decide)]
  refine am_D_of am_o66 am_l66 rfl ?_
  refine am_vc_ok am_k66 [] 100 ?_
  refine am_vO am_k66 am_h66 rfl rfl rfl rfl (x_sign h hp hp2) ?_
  refine am_vc_ok am_k66 [] 100 ?_
  cases e : fgO (sgX G N p) with
  | none =>
    have hn := fgO_n e
    refine And.intro (fun _ => ?_) (fun g => ?_)
    · exact am_vI am_k66 am_r66 rfl ⟨rfl, rfl, rfl, rfl, rfl, rfl⟩
    · refine And.intro (fun _ => ?_) (fun g2 => absurd ⟨Int32.not_lt.mp g, Int32.not_lt.mp g2⟩ hn)
      exact am_vI am_k66 am_r66 rfl ⟨rfl, rfl, rfl, rfl, rfl, rfl⟩
  | some d =>
    have hr := fgO_r e
    obtain ⟨hd, hv⟩ := fgO_s e
    refine And.intro (fun g => absurd hr.1 (Int32.not_le.mpr g)) (fun g => ?_)
    refine And.intro (fun g2 => absurd hr.2 (Int32.not_le.mpr g2)) (fun g2 => ?_)
    refine am_vI am_k66 am_r66 rfl ⟨?_, rfl, rfl, rfl, rfl, rfl⟩
    rw [hv, show (48 : Int32) = nI 48 from rfl, nI_sub' (by omega), show d + 48 - 48 = d by omega, pI_s]
theorem x_sortOf {v : Int32} {ρ : tR} {cn : tN} {ln : tM} : am_D l 71 [aI v] σ τ ρ cn ln (some (aI (pI (soO v)))) σ τ ρ := by
  refine am_D_of am_o71 am_l71 rfl ?_
  refine am_vc_ok am_k71 [] 100 ?_
  cases e : soO v with
  | none =>
    obtain ⟨h1, h2, h3, h4⟩ := soO_n e
    refine ⟨⟨fun z => absurd z h1, fun z => absurd z h4, fun z => absurd z h3, fun z => absurd z h2, trivial⟩, fun _ _ _ _ => ?_⟩
    exact am_vI am_k71 am_r71 rfl ⟨rfl, rfl, rfl, rfl, rfl, rfl⟩
  | some d =>
    obtain ⟨-, ⟨rfl, rfl⟩ | ⟨rfl, rfl⟩ | ⟨rfl, rfl⟩ | ⟨rfl, rfl⟩⟩ := soO_s e
    · refine am_sw 44 (by decide +kernel) ?_
      exact am_vI am_k71 am_r71 rfl ⟨rfl, rfl, rfl, rfl, rfl, rfl⟩
    · refine am_sw 46 (by decide +kernel) ?_
      exact am_vI am_k71 am_r71 rfl ⟨rfl, rfl, rfl, rfl, rfl, rfl⟩
    · refine am_sw 48 (by decide +kernel) ?_
      exact am_vI am_k71 am_r71 rfl ⟨rfl, rfl, rfl, rfl, rfl, rfl⟩
    · refine am_sw 50 (by decide +kernel) ?_
      exact am_vI am_k71 am_r71 rfl ⟨rfl, rfl, rfl, rfl, rfl, rfl⟩
theorem x_markOf {v : Int32} {ρ : tR} {cn : tN} {ln : tM} : am_D l 72 [aI v] σ τ ρ cn ln (some (aI (pI (mkO v)))) σ τ ρ := by
  refine am_D_of am_o72 am_l72 rfl ?_
  refine am_vc_ok am_k72 [] 100 ?_
  cases e : mkO v with
  | none =>
    obtain ⟨h1, h2, h3⟩ := mkO_n e
    refine ⟨⟨fun z => absurd z h1, fun z => absurd z h2, fun z => absurd z h3, trivial⟩, fun _ _ _ => ?_⟩
    exact am_vI am_k72 am_r72 rfl ⟨rfl, rfl, rfl, rfl, rfl, rfl⟩
  | some d =>
    obtain ⟨-, ⟨rfl, rfl⟩ | ⟨rfl, rfl⟩ | ⟨rfl, rfl⟩⟩ := mkO_s e
    · refine am_sw 36 (by decide +kernel) ?_
      exact am_vI am_k72 am_r72 rfl ⟨rfl, rfl, rfl, rfl, rfl, rfl⟩
    · refine am_sw 38 (by decide +kernel) ?_
      exact am_vI am_k72 am_r72 rfl ⟨rfl, rfl, rfl, rfl, rfl, rfl⟩
    · refine am_sw 40 (by decide +kernel) ?_
      exact am_vI am_k72 am_r72 rfl ⟨rfl, rfl, rfl, rfl, rfl, rfl⟩
/-- blanks are skipped -/
def skN (sg : Nat → Int32) : Nat → Nat → Nat
  | 0, p => p
  | n + 1, p => if sg p = 32 then skN sg n (p + 1) else p
theorem skN_ok {S : aSh} {sg : Nat → Int32} (hN : ∀ p, N ≤ p → sg p = -9) : ∀ (n p : Nat), N ≤ p + n → p ≤ N → p ≤ skN sg n p ∧ skN sg n p ≤ N ∧ ¬ sg (skN sg n p) = 32 ∧ pA sg N S p = pA sg N S (skN sg n p)
  | 0, p, h, h2 => by
    refine ⟨Nat.le_refl _, h2, ?_, rfl⟩
    show ¬ sg p = 32
    rw [hN p (by omega)]
    decide
  | n + 1, p, h, h2 => by
    by_cases e : sg p = 32
    · have hp : p < N := by
        apply Nat.lt_of_not_le
        intro z
        rw [hN p z] at e
        exact absurd e (by decide)
      obtain ⟨g1, g2, g3, g4⟩ := skN_ok (S := S) hN n (p + 1) (by omega) (by omega)
      rw [skN, if_pos e]
      exact ⟨by omega, g2, g3, (pA_bl hp e).trans g4⟩
    · rw [skN, if_neg e]
      exact ⟨Nat.le_refl _, h2, e, rfl⟩
theorem sgX_32 : sgX G N p = 32 ↔ sgN G N p = 32 := by
  unfold sgX sgN
  split
  · exact Iff.rfl
  · exact ⟨fun z => absurd z (by decide), fun z => absurd z (by decide)⟩
theorem x_sk_lp {Q : tQ} (h : K0 σ r N G) {R : Nat} (hQ : Q none (u3 σ 7 0 2 (nI R)) τ (rX (some (6, r))) cX lX) : ∀ (d k p : Nat), k + d = 60 → p ≤ N → skN (sgN G N) d p = R → am_G l 67 Q 0 0 2 [(1, aI (nI k)), (0, aR 7 0)] [] (u3 σ 7 0 2 (nI p)) τ (rX (some (6, r))) cX lX
  | 0, k, p, hk, hp, hR => by
    obtain rfl : k = 60 := by omega
    obtain rfl : p = R := hR
    refine am_vc_ok am_k67 [2] 100 ?_
    refine And.intro (fun _ => ?_) (fun h1 => absurd (show (60 : Int32) ≤ nI 60 by decide) h1)
    exact am_vV am_k67 am_r67 rfl hQ
  | d + 1, k, p, hk, hp, hR => by
    have hN := h.2.1
    refine am_vc_ok am_k67 [2] 100 ?_
    refine And.intro (fun h1 => absurd h1 (nI_ge (b := 60) (by omega) (by decide))) (fun _ => ?_)
    refine am_vO am_k67 am_h67 rfl rfl rfl rfl (x_sign (p := p) (h.fr (u3_kk _ _ (by decide)) (u3_kk _ _ (by decide))) (u3_eq _ _ _ _ _) (by omega)) ?_
    refine am_vc_ok am_k67 [2] 100 ?_
    refine And.intro (fun e => ?_) (fun e => ?_)
    · have e := sgX_32.mp e
      rw [skN, if_pos e] at hR
      have hp1 : p < N := by
        apply Nat.lt_of_not_le
        intro z
        rw [sgN_N p z] at e
        exact absurd e (by decide)
      have K2 := x_sk_lp h hQ d (k + 1) (p + 1) (by omega) (by omega) hR
      rw [← nI_1 k] at K2
      exact am_Gs (by rw [u3_eq, u3_tw, nI_1]) (am_Gp [0, 1] rfl K2)
    · have e : ¬ sgN G N p = 32 := fun z => e (sgX_32.mpr z)
      rw [skN, if_neg e] at hR
      subst hR
      exact am_vV am_k67 am_r67 rfl hQ
theorem x_skip (h : K0 σ r N G) (hp : σ 7 0 2 = nI p) (hp2 : p ≤ N) : am_D l 67 [aR 7 0] σ τ (rX (some (6, r))) cX lX none (u3 σ 7 0 2 (nI (skN (sgN G N) 60 p))) τ (rX (some (6, r))) := by
  refine am_D_of am_o67 am_l67 rfl ?_
  refine am_vc_ok am_k67 [2] 100 ?_
  refine am_Gs (u3_self hp).symm ?_
  refine x_sk_lp (σ := σ) h ?_ 60 0 p (by omega) hp2 rfl
  exact ⟨rfl, rfl, rfl, rfl, rfl, rfl⟩
theorem x_tk_lp {Q : tQ} (h : K0 σ r N G) {R : Nat × Nat} {most m : Nat} (hmost : most ≤ 3) (K : ∀ k : Int32, am_G l 70 Q 0 0 57 [(4, aI k), (3, aI (nI R.1)), (2, aI (nI most)), (0, aR 7 0), (1, aI (nI m))] [] (u3 σ 7 0 2 (nI R.2)) τ (rX (some (6, r))) cX lX) : ∀ (d k a p : Nat), k + d = most → p ≤ N → tkF (sgN G N) d a p = R → am_G l 70 Q 0 0 16 [(4, aI (nI k)), (3, aI (nI a)), (2, aI (nI most)), (0, aR 7 0), (1, aI (nI m))] [] (u3 σ 7 0 2 (nI p)) τ (rX (some (6, r))) cX lX
  | 0, k, a, p, hk, hp, hR => by
    obtain rfl : k = most := by omega
    subst hR
    refine am_vc_ok am_k70 [16, 57] 100 ?_
    exact And.intro (fun _ => K _) (fun h1 => absurd (nI_le (Nat.le_refl _) (by omega)) h1)
  | d + 1, k, a, p, hk, hp, hR => by
    have hN := h.2.1
    have hf := x_figure (l := l) (τ := τ) (p := p) (h.fr (σ2 := u3 σ 7 0 2 (nI p)) (u3_kk _ _ (by decide)) (u3_kk _ _ (by decide))) (u3_eq _ _ _ _ _) (by omega)
    refine am_vc_ok am_k70 [16, 57] 100 ?_
    refine And.intro (fun h1 => absurd h1 (nI_ge (by omega) (by omega))) (fun _ => ?_)
    refine am_vO am_k70 am_h70 rfl rfl rfl rfl (hf) ?_
    refine am_vc_ok am_k70 [16, 57] 100 ?_
    cases e : fgO (sgN G N p) with
    | none =>
      rw [tkF_n e] at hR
      subst hR
      refine And.intro (fun _ => K _) (fun g => absurd rfl g)
    | some x =>
      have hx := (fgO_s e).1
      rw [tkF_y e] at hR
      rw [e] at hf
      have hp1 : p < N := by
        apply Nat.lt_of_not_le
        intro z
        rw [sgN_N p z, fgO9] at e
        cases e
      refine And.intro (fun g => absurd g (n9_4 (by omega))) (fun _ => ?_)
      refine am_vO am_k70 am_h70 rfl rfl rfl rfl (hf) ?_
      refine am_vc_ok am_k70 [16, 57] 100 ?_
      have K2 := x_tk_lp h hmost K d (k + 1) (10 * a + x) (p + 1) (by omega) (by omega) hR
      rw [← nI_1 k, show nI (10 * a + x) = nI a * 10 + pI (some x) by rw [pI_s, show (10 : Int32) = nI 10 from rfl, pk_mul, nI_add, Nat.mul_comm a 10]] at K2
      exact am_Gs (by rw [u3_eq, u3_tw, nI_1]) (am_Gp [0, 1, 2, 3, 4] rfl K2)
theorem x_takeF {m c : Nat} (hm : m < 3) (h : K0 σ r N G) (hp : σ 7 0 2 = nI p) (hp2 : p ≤ N) (hc : σ 9 0 1 = nI c) (hc2 : c < 12) : am_D l 70 [aR 7 0, aI (nI m)] σ τ (rX (some (6, r))) cX lX none (u3 (u3 σ 7 0 2 (nI (tkF (sgN G N) (nFig m) 0 p).2)) (35 + m) 0 c (nI (tkF (sgN G N) (nFig m) 0 p).1)) τ (rX (some (6, r))) := by
  have e9 : ∀ v, u3 σ 7 0 2 v 9 0 1 = nI c := fun v => by rw [u3_k _ _ (by decide)]; exact hc
  obtain rfl | rfl | rfl : m = 0 ∨ m = 1 ∨ m = 2 := by omega
  · refine am_D_of am_o70 am_l70 rfl ?_
    refine am_vc_ok am_k70 [16] 100 ?_
    refine And.intro (fun g => absurd g (by decide)) (fun _ => ?_)
    refine am_Gs (u3_self hp).symm ?_
    refine am_Gp (ls2 := [(4, aI (nI 0)), (3, aI (nI 0)), (2, aI (nI 1)), (0, aR 7 0), (1, aI (nI 0))]) [0, 1, 2, 3, 4] rfl ?_
    refine x_tk_lp (σ := σ) h (by decide) (fun k => ?_) 1 0 0 p (by omega) hp2 rfl
    refine am_vc_ok am_k70 [] 100 ?_
    refine And.intro (fun _ => ?_) (fun g => absurd nI_0 g)
    refine And.intro (by rw [e9]; exact vp_in_nI (N := 12) hc2 (by decide)) ?_
    rw [e9, nI_clamp (n := c) (by omega)]
    exact am_vV am_k70 am_r70 rfl ⟨rfl, rfl, rfl, rfl, rfl, rfl⟩
  · refine am_D_of am_o70 am_l70 rfl ?_
    refine am_vc_ok am_k70 [16] 100 ?_
    refine And.intro (fun g => absurd g (by decide)) (fun _ => ?_)
    refine am_Gs (u3_self hp).symm ?_
    refine am_Gp (ls2 := [(4, aI (nI 0)), (3, aI (nI 0)), (2, aI (nI 1)), (0, aR 7 0), (1, aI (nI 1))]) [0, 1, 2, 3, 4] rfl ?_
    refine x_tk_lp (σ := σ) h (by decide) (fun k => ?_) 1 0 0 p (by omega) hp2 rfl
    refine am_vc_ok am_k70 [] 100 ?_
    refine And.intro (fun g => absurd g (by decide)) (fun _ => ?_)
    refine And.intro (fun _ => ?_) (fun g => absurd rfl g)
    refine And.intro (by rw [e9]; exact vp_in_nI (N := 12) hc2 (by decide)) ?_
    rw [e9, nI_clamp (n := c) (by omega)]
    exact am_vV am_k70 am_r70 rfl ⟨rfl, rfl, rfl, rfl, rfl, rfl⟩
  · refine am_D_of am_o70 am_l70 rfl ?_
    refine am_vc_ok am_k70 [16] 100 ?_
    refine And.intro (fun _ => ?_) (fun g => absurd rfl g)
    refine am_Gs (u3_self hp).symm ?_
    refine am_Gp (ls2 := [(4, aI (nI 0)), (3, aI (nI 0)), (2, aI (nI 3)), (0, aR 7 0), (1, aI (nI 2))]) [0, 1, 2, 3, 4] rfl ?_
    refine x_tk_lp (σ := σ) h (by decide) (fun k => ?_) 3 0 0 p (by omega) hp2 rfl
    refine am_vc_ok am_k70 [] 100 ?_
    refine And.intro (fun g => absurd g (by decide)) (fun _ => ?_)
    refine And.intro (fun g => absurd g (by decide)) (fun _ => ?_)
    refine And.intro (by rw [e9]; exact vp_in_nI (N := 12) hc2 (by decide)) ?_
    rw [e9, nI_clamp (n := c) (by omega)]
    exact am_vV am_k70 am_r70 rfl ⟨rfl, rfl, rfl, rfl, rfl, rfl⟩
/-- only the marks of item c and the place have changed -/
def mkf (σ s : tI) (c : Nat) : Prop := (∀ q, q ≠ 7 → q ≠ 35 → q ≠ 36 → q ≠ 37 → s q = σ q) ∧ ∀ q i j, (i ≠ 0 ∨ j ≠ c) → 35 ≤ q → q ≤ 37 → s q i j = σ q i j
def mkI (s : tI) (c : Nat) (it : aM) : Prop := s 35 0 c = nI it.1 ∧ s 36 0 c = nI it.2.1 ∧ s 37 0 c = pI it.2.2
def mkQ (σ : tI) (c : Nat) (R : Nat ⊕ (aM × Nat)) (v : Option am_V) (s : tI) : Prop := mkf σ s c ∧ match R with
  | .inl q => v = some (aI (nI q))
  | .inr (it, q) => v = some (aI (-9)) ∧ s 7 0 2 = nI q ∧ mkI s c it
theorem mkf.pl {s : tI} {c : Nat} {v : Int32} (h : mkf σ s c) : mkf σ (u3 s 7 0 2 v) c :=
  ⟨fun q a1 a2 a3 a4 => by rw [u3_kk _ _ a1]; exact h.1 q a1 a2 a3 a4, fun q i j h1 h2 h3 => by rw [u3_k _ _ (by omega)]; exact h.2 q i j h1 h2 h3⟩
theorem mkf.um {s : tI} {c m v : Nat} (hm : m < 3) (h : mkf σ s c) : mkf σ (u3 s (35 + m) 0 c (nI v)) c := by
  refine ⟨fun q a1 a2 a3 a4 => by rw [u3_kk _ _ (by omega)]; exact h.1 q a1 a2 a3 a4, fun q i j h1 h2 h3 => ?_⟩
  rcases h1 with h1 | h1
  · rw [u3_i _ _ h1]; exact h.2 q i j (Or.inl h1) h2 h3
  · rw [u3_j _ _ h1]; exact h.2 q i j (Or.inr h1) h2 h3
theorem mkI.pl {s : tI} {c : Nat} {it : aM} {v : Int32} (h : mkI s c it) : mkI (u3 s 7 0 2 v) c it := by
  unfold mkI at h ⊢
  rw [u3_k _ _ (by decide), u3_k _ _ (by decide), u3_k _ _ (by decide)]
  exact h
theorem mkI.um {s : tI} {c m v : Nat} {it : aM} (hm : m < 3) (h : mkI s c it) : mkI (u3 s (35 + m) 0 c (nI v)) c (umM it m v) := by
  obtain ⟨h1, h2, h3⟩ := h
  obtain rfl | rfl | rfl : m = 0 ∨ m = 1 ∨ m = 2 := by omega
  · exact ⟨u3_eq _ _ _ _ _, by rw [u3_k _ _ (by decide)]; exact h2, by rw [u3_k _ _ (by decide)]; exact h3⟩
  · exact ⟨by rw [u3_k _ _ (by decide)]; exact h1, u3_eq _ _ _ _ _, by rw [u3_k _ _ (by decide)]; exact h3⟩
  · exact ⟨by rw [u3_k _ _ (by decide)]; exact h1, by rw [u3_k _ _ (by decide)]; exact h2, u3_eq _ _ _ _ _⟩
theorem pc_8 : ∀ s, s < 8 → pc s ≤ 3 := by decide +kernel
theorem ad_8 : ∀ s, s < 8 → ∀ m, m < 3 → ad s m < 8 := by decide +kernel
theorem x_mk_lp {Q : tQ} {c so : Nat} (hso : so < 4) (h : K0 σ r N G) (hc : σ 9 0 1 = nI c) (hc2 : c < 12) {R : Nat ⊕ (aM × Nat)} (hQ : ∀ v s, mkQ σ c R v s → Q v s τ (rX (some (6, r))) cX lX) : ∀ (d told p : Nat) (it : aM) (s : tI), d + pc told = 4 → told < 8 → p ≤ N → mkP (sgN G N) so d told it p = R → mkf σ s c → s 7 0 2 = nI p → mkI s c it → am_G l 69 Q 0 0 4 [(3, aI (nI (pc told))), (2, aI (nI told)), (0, aR 7 0), (1, aI (nI so))] [] s τ (rX (some (6, r))) cX lX
  | 0, told, p, it, s, hd, ht, hp, hR, hf, h7, hI => by
    have := pc_8 told ht
    omega
  | d + 1, told, p, it, s, hd, ht, hp, hR, hf, h7, hI => by
    have hN := h.2.1
    have hK : K0 s r N G := h.fr (hf.1 6 (by decide) (by decide) (by decide) (by decide)) (hf.1 30 (by decide) (by decide) (by decide) (by decide))
    have hp3 := pc_8 told ht
    refine am_vc_ok am_k69 [4, 53] 100 ?_
    refine And.intro (fun h1 => absurd h1 (Int32.not_lt.mpr (nI_le (b := 3) hp3 (by decide)))) (fun _ => ?_)
    refine am_vO am_k69 am_h69 rfl rfl rfl rfl (x_sign hK h7 (by omega)) ?_
    refine am_vc_ok am_k69 [4, 53] 100 ?_
    have hmk := x_markOf (l := l) (σ := s) (τ := τ) (v := sgX G N p) (ρ := rX (some (6, r))) (cn := cX) (ln := lX)
    rw [sg_f mkO (by decide)] at hmk
    refine am_vS am_k69 am_h69 rfl rfl rfl rfl (hmk) ?_
    refine am_vc_ok am_k69 [4, 53] 100 ?_
    unfold mkP at hR
    cases e : mkO (sgN G N p) with
    | none =>
      rw [e] at hR
      refine And.intro (fun _ => ?_) (fun g => absurd rfl g)
      refine am_vI am_k69 am_r69 rfl (hQ _ _ ⟨hf, ?_⟩)
      rw [← hR]
      exact ⟨rfl, h7, hI⟩
    | some m =>
      have hm := (mkO_s e).1
      rw [e] at hR
      refine And.intro (fun g => absurd g (n9_4 (by omega))) (fun _ => ?_)
      have xb := x_mb told (by omega) m (by omega)
      refine And.intro (fun g => ?_) (fun g => ?_)
      · have g := xb.mp g
        have hg : ¬ mb told m = true := by rw [g]; decide
        have go : ¬ (m = 2 ∧ so = 2) → am_G l 69 Q 0 0 53 [(4, aI (pI (some m))), (3, aI (nI (pc told))), (2, aI (nI told)), (0, aR 7 0), (1, aI (nI so))] [] s τ (rX (some (6, r))) cX lX := by
          intro hn
          have hR := hR
          simp only [if_neg (fun z : mb told m = true ∨ (m = 2 ∧ so = 2) => z.elim hg hn)] at hR
          have hp1 : p < N := by
            apply Nat.lt_of_not_le
            intro z
            rw [sgN_N p z, mkO9] at e
            cases e
          refine am_vc_ok am_k69 [4] 100 ?_
          have hK2 : K0 (u3 s 7 0 2 (s 7 0 2 + 1)) r N G := hK.fr (u3_kk _ _ (by decide)) (u3_kk _ _ (by decide))
          have e7 : u3 s 7 0 2 (s 7 0 2 + 1) 7 0 2 = nI (p + 1) := by rw [u3_eq, h7, nI_1]
          refine am_vO am_k69 am_h69 rfl rfl rfl rfl (x_figure hK2 e7 (by omega)) ?_
          refine am_vc_ok am_k69 [4] 100 ?_
          cases e2 : fgO (sgN G N (p + 1)) with
          | none =>
            rw [e2] at hR
            refine And.intro (fun _ => ?_) (fun g => absurd rfl g)
            refine am_vI am_k69 am_r69 rfl (hQ _ _ ⟨hf.pl, ?_⟩)
            rw [← hR]
            exact congrArg (fun x => some (aI x)) e7
          | some x =>
            rw [e2] at hR
            have hx := (fgO_s e2).1
            refine And.intro (fun g => absurd g (n9_4 (by omega))) (fun _ => ?_)
            refine am_vO am_k69 am_h69 rfl rfl rfl rfl (x_takeF hm hK2 e7 (by omega) (by rw [u3_k _ _ (by decide), hf.1 9 (by decide) (by decide) (by decide) (by decide)]; exact hc) hc2) ?_
            refine am_vc_ok am_k69 [4] 100 ?_
            have K2 := x_mk_lp hso h hc hc2 hQ d (ad told m) (tkF (sgN G N) (nFig m) 0 (p + 1)).2 (umM it m (tkF (sgN G N) (nFig m) 0 (p + 1)).1) (u3 (u3 s 7 0 2 (nI (tkF (sgN G N) (nFig m) 0 (p + 1)).2)) (35 + m) 0 c (nI (tkF (sgN G N) (nFig m) 0 (p + 1)).1)) (by rw [pc_ad told (by omega) m (by omega) g]; omega) (ad_8 told ht m hm) (tkF_N sgN_N _ _ _ (by omega)) hR (hf.pl.um hm) (by rw [u3_k _ _ (by omega), u3_eq]) (hI.pl.um hm)
            rw [pc_ad told (by omega) m (by omega) g, ← nI_1 (pc told), ← or_ad told (by omega) m (by omega)] at K2
            exact am_Gs (by rw [u3_tw]) (am_Gp [0, 1, 3, 4] rfl K2)
        refine And.intro (fun e2 => ?_) (fun e2 => ?_)
        · have e2 : m = 2 := nI_inj' (by omega) (by decide) (show nI m = nI 2 from e2)
          refine And.intro (fun e3 => ?_) (fun e3 => ?_)
          · have e3 : so = 2 := nI_inj' (by omega) (by decide) (show nI so = nI 2 from e3)
            simp only [if_pos (Or.inr ⟨e2, e3⟩ : mb told m = true ∨ (m = 2 ∧ so = 2))] at hR
            refine am_vI am_k69 am_r69 rfl (hQ _ _ ⟨hf, ?_⟩)
            rw [← hR]
            exact congrArg (fun x => some (aI x)) h7
          · exact (go (fun z => e3 (by rw [z.2]; rfl)))
        · exact (go (fun z => e2 (by rw [z.1]; rfl)))
      · have g : mb told m = true := by
          cases hg : mb told m with
          | true => rfl
          | false => exact absurd (xb.mpr hg) g
        simp only [if_pos (Or.inl g : mb told m = true ∨ (m = 2 ∧ so = 2))] at hR
        refine am_vI am_k69 am_r69 rfl (hQ _ _ ⟨hf, ?_⟩)
        rw [← hR]
        exact congrArg (fun x => some (aI x)) h7
theorem x_marks {c so : Nat} (hso : so < 4) (h : K0 σ r N G) (hp : σ 7 0 2 = nI p) (hp2 : p ≤ N) (hc : σ 9 0 1 = nI c) (hc2 : c < 12) (hI : mkI σ c (0, 9, none)) : am_T l 69 [aR 7 0, aI (nI so)] σ τ (some (6, r)) (fun v s τ2 t2 => τ2 = τ ∧ t2 = some (6, r) ∧ mkQ σ c (mkP (sgN G N) so 4 0 (0, 9, none) p) v s) := by
  refine am_T_of am_o69 am_l69 rfl ?_
  refine am_vc_ok am_k69 [4] 100 ?_
  refine am_Gp (ls2 := [(3, aI (nI (pc 0))), (2, aI (nI 0)), (0, aR 7 0), (1, aI (nI so))]) [0, 1, 2, 3] rfl ?_
  refine x_mk_lp hso h hc hc2 ?_ 4 0 p (0, 9, none) σ (by decide) (by decide) hp2 rfl ⟨fun _ _ _ _ _ => rfl, fun _ _ _ _ _ _ => rfl⟩ hp hI
  intro v s hs
  exact ⟨_, rfl, rfl, rfl, rfl, rfl, hs⟩
end L49
