/-! the model's reader: signs, figures, marks -/
section L53
variable {l : Launch} {σ σ2 : tI} {τ τ2 : tL} {t : Option (Nat × Nat)} {x N p : Nat} {G : Nat → Int32}
/-- the text that is read -/
def M0 (σ : tI) (x N : Nat) (G : Nat → Int32) : Prop := σ 47 0 x = nI N ∧ N ≤ 60 ∧ x < 6 ∧ ∀ j, j < N → σ 48 0 (60 * x + j) = G j
theorem M0.fr (h : M0 σ x N G) (h6 : σ2 47 = σ 47) (h30 : σ2 48 = σ 48) : M0 σ2 x N G := by
  unfold M0 at h ⊢
  rw [h6, h30]
  exact h
theorem m_here (h : M0 σ x N G) (hp : σ 12 0 15 = nI p) (hp2 : p < 1000) : am_D l 174 [aR 12 0, aI (nI x)] σ τ (rX t) cX lX (some (aI (sgN G N p))) σ τ (rX t) := by
  obtain ⟨h1, h2, h3, h4⟩ := h
  have ei : 60 * nI x + σ 12 0 15 = nI (60 * x + p) := by rw [hp, show (60 : Int32) = nI 60 from rfl, pk_mul, nI_add]
  refine am_D_of am_o174 am_l174 rfl ?_
  refine am_vc_ok am_k174 [] 100 ?_
  refine And.intro (vp_in_nI (N := 6) h3 (by decide)) ?_
  rw [nI_clamp (n := x) (by omega), h1, hp]
  refine And.intro (fun e => ?_) (fun e => ?_)
  · have e : ¬ p < N := fun z => absurd e (nI_ge z (by omega))
    refine am_vI am_k174 am_r174 rfl ⟨by unfold sgN; rw [if_neg e], rfl, rfl, rfl, rfl, rfl⟩
  · have e : p < N := (nI_ltI (by omega) (by omega)).mp (Int32.not_le.mp e)
    refine And.intro (by rw [ei]; exact vp_in_nI (N := 360) (by omega) (by decide)) ?_
    rw [ei, nI_clamp (by omega), h4 p e]
    refine am_vI am_k174 am_r174 rfl ⟨by unfold sgN; rw [if_pos e], rfl, rfl, rfl, rfl, rfl⟩
theorem m_isFigure (h : M0 σ x N G) (hp : σ 12 0 15 = nI p) (hp2 : p < 1000) : am_D l 175 [aR 12 0, aI (nI x)] σ τ (rX t) cX lX (some (aI (bI (48 ≤ sgN G N p ∧ sgN G N p ≤ 57)))) σ τ (rX t) := by
  refine am_D_of am_o175 am_l175 rfl ?_
  refine am_vc_ok am_k175 [] 100 ?_
  refine am_vO am_k175 am_h175 rfl rfl rfl rfl (m_here h hp hp2) ?_
  refine am_vc_ok am_k175 [] 100 ?_
  refine am_vS am_k175 am_h175 rfl rfl rfl rfl (m_in) ?_
  refine am_vc_ok am_k175 [] 100 ?_
  exact am_vZ am_k175 am_r175 rfl bI_01 ⟨rfl, rfl, rfl, rfl, rfl, rfl⟩
theorem m_tk_lp {Q : tQ} {R : Nat × Nat} {m c : Nat} {w so : Int32} (hm : m < 3) (h : M0 σ x N G) (K : ∀ k : Int32, am_G l 176 Q 0 0 351 [(7, aI k), (6, aI (nI R.1)), (5, aI (nI m)), (4, aI w), (3, aI so), (0, aR 12 0), (1, aI (nI x)), (2, aI (nI c))] [] (u3 σ 12 0 15 (nI R.2)) τ (rX t) cX lX) : ∀ (d k a p : Nat), k + d = nFig m → p ≤ N → tkF (sgN G N) d a p = R → am_G l 176 Q 0 0 295 [(7, aI (nI k)), (6, aI (nI a)), (5, aI (nI m)), (4, aI w), (3, aI so), (0, aR 12 0), (1, aI (nI x)), (2, aI (nI c))] [] (u3 σ 12 0 15 (nI p)) τ (rX t) cX lX
  | 0, k, a, p, hk, hp, hR => by
    subst hR
    refine am_vc_ok am_k176 [295, 351] 100 ?_
    refine And.intro (fun e => ?_) (fun e => ?_)
    · have e : m = 2 := nI_inj' (by omega) (by decide) (show nI m = nI 2 from e)
      rw [nFig, if_pos e] at hk
      obtain rfl : k = 3 := by omega
      exact And.intro (fun _ => K _) (fun h1 => absurd (show (3 : Int32) ≤ nI 3 by decide) h1)
    · have e : ¬ m = 2 := fun z => e (by rw [z]; rfl)
      rw [nFig, if_neg e] at hk
      obtain rfl : k = 1 := by omega
      exact And.intro (fun _ => K _) (fun h1 => absurd (show (1 : Int32) ≤ nI 1 by decide) h1)
  | d + 1, k, a, p, hk, hp, hR => by
    have hN := h.2.1
    have h2 : M0 (u3 σ 12 0 15 (nI p)) x N G := h.fr (u3_kk _ _ (by decide)) (u3_kk _ _ (by decide))
    have go : am_G l 176 Q 0 0 311 [(7, aI (nI k)), (6, aI (nI a)), (5, aI (nI m)), (4, aI w), (3, aI so), (0, aR 12 0), (1, aI (nI x)), (2, aI (nI c))] [] (u3 σ 12 0 15 (nI p)) τ (rX t) cX lX := by
      refine am_vc_ok am_k176 [295, 351] 100 ?_
      refine am_vO am_k176 am_h176 rfl rfl rfl rfl (m_isFigure h2 (u3_eq _ _ _ _ _) (by omega)) ?_
      refine am_vc_ok am_k176 [295, 351] 100 ?_
      cases e : fgO (sgN G N p) with
      | none =>
        rw [tkF_n e] at hR
        subst hR
        exact And.intro (fun _ => K _) (fun g => absurd (bI_1.mp g) (fgO_n e))
      | some y =>
        obtain ⟨hy, hs⟩ := fgO_s e
        rw [tkF_y e] at hR
        have hp1 : p < N := some_lt (f := fgO) fgO9 e
        refine And.intro (fun g => absurd (fgO_r e) (bI_0.mp g)) (fun _ => ?_)
        refine am_vO am_k176 am_h176 rfl rfl rfl rfl (m_here h2 (u3_eq _ _ _ _ _) (by omega)) ?_
        refine am_vc_ok am_k176 [295, 351] 100 ?_
        have K2 := m_tk_lp hm h K d (k + 1) (10 * a + y) (p + 1) (by omega) (by omega) hR
        have ev : (10 : Int32) * nI a + sgN G N p - 48 = nI (10 * a + y) := by
          rw [hs, show (10 : Int32) = nI 10 from rfl, show (48 : Int32) = nI 48 from rfl, pk_mul, nI_add, nI_sub' (by omega), show 10 * a + (y + 48) - 48 = 10 * a + y by omega]
        rw [← nI_1 k, ← ev] at K2
        exact am_Gs (by rw [u3_eq, u3_tw, nI_1]) (am_Gp [0, 1, 2, 3, 4, 5, 6, 7] rfl K2)
    refine am_vc_ok am_k176 [295, 311, 351] 100 ?_
    refine And.intro (fun e => ?_) (fun e => ?_)
    · have e : m = 2 := nI_inj' (by omega) (by decide) (show nI m = nI 2 from e)
      rw [nFig, if_pos e] at hk
      exact And.intro (fun g => absurd g (nI_ge (b := 3) (by omega) (by decide))) (fun _ => go)
    · have e : ¬ m = 2 := fun z => e (by rw [z]; rfl)
      rw [nFig, if_neg e] at hk
      exact And.intro (fun g => absurd g (nI_ge (b := 1) (by omega) (by decide))) (fun _ => go)
/-- only the marks of item c and the place have changed -/
def mmf (σ s : tI) (c : Nat) : Prop := (∀ q, q ≠ 12 → q ≠ 51 → s q = σ q) ∧ (∀ j, j ≠ 15 → s 12 0 j = σ 12 0 j) ∧ ∀ j, (j < 6 * c + 3 ∨ 6 * c + 5 < j) → s 51 0 j = σ 51 0 j
def mmI (s : tI) (c : Nat) (it : aM) : Prop := s 51 0 (6 * c + 3) = nI it.1 ∧ s 51 0 (6 * c + 4) = nI it.2.1 ∧ s 51 0 (6 * c + 5) = pI it.2.2
theorem mmf.pl {s : tI} {c : Nat} {v : Int32} (h : mmf σ s c) : mmf σ (u3 s 12 0 15 v) c :=
  ⟨fun q a1 a2 => by rw [u3_kk _ _ a1]; exact h.1 q a1 a2, fun j hj => by rw [u3_j _ _ hj]; exact h.2.1 j hj, fun j hj => by rw [u3_k _ _ (by decide)]; exact h.2.2 j hj⟩
theorem mmf.um {s : tI} {c m v : Nat} (hm : m < 3) (h : mmf σ s c) : mmf σ (u3 s 51 0 (6 * c + 3 + m) (nI v)) c :=
  ⟨fun q a1 a2 => by rw [u3_kk _ _ a2]; exact h.1 q a1 a2, fun j hj => by rw [u3_k _ _ (by decide)]; exact h.2.1 j hj, fun j hj => by rw [u3_j _ _ (by omega)]; exact h.2.2 j hj⟩
theorem mmI.pl {s : tI} {c : Nat} {it : aM} {v : Int32} (h : mmI s c it) : mmI (u3 s 12 0 15 v) c it := by
  unfold mmI at h ⊢
  rw [u3_k _ _ (by decide), u3_k _ _ (by decide), u3_k _ _ (by decide)]
  exact h
theorem mmI.um {s : tI} {c m v : Nat} {it : aM} (hm : m < 3) (h : mmI s c it) : mmI (u3 s 51 0 (6 * c + 3 + m) (nI v)) c (umM it m v) := by
  obtain ⟨h1, h2, h3⟩ := h
  obtain rfl | rfl | rfl : m = 0 ∨ m = 1 ∨ m = 2 := by omega
  · exact ⟨u3_eq _ _ _ _ _, by rw [u3_j _ _ (by omega)]; exact h2, by rw [u3_j _ _ (by omega)]; exact h3⟩
  · exact ⟨by rw [u3_j _ _ (by omega)]; exact h1, u3_eq _ _ _ _ _, by rw [u3_j _ _ (by omega)]; exact h3⟩
  · exact ⟨by rw [u3_j _ _ (by omega)]; exact h1, by rw [u3_j _ _ (by omega)]; exact h2, u3_eq _ _ _ _ _⟩
/-- which mark it is -/
theorem m_which {Q : tQ} {s : tI} {m c : Nat} {w so : Int32} (h : M0 s x N G) (h15 : s 12 0 15 = nI p) (hp2 : p < 1000) (e : mkO (sgN G N p) = some m) (K : am_G l 176 Q 0 0 237 [(5, aI (nI m)), (4, aI w), (3, aI so), (0, aR 12 0), (1, aI (nI x)), (2, aI (nI c))] [] s τ (rX t) cX lX) : am_G l 176 Q 0 0 176 [(4, aI w), (3, aI so), (0, aR 12 0), (1, aI (nI x)), (2, aI (nI c))] [] s τ (rX t) cX lX := by
  have hh := m_here (l := l) (τ := τ) (t := t) h h15 hp2
  obtain ⟨-, ⟨rfl, e2⟩ | ⟨rfl, e2⟩ | ⟨rfl, e2⟩⟩ := mkO_s e
  · rw [e2] at hh
    refine am_vc_ok am_k176 [237] 100 ?_
    refine am_vO am_k176 am_h176 rfl rfl rfl rfl (hh) ?_
    refine am_vc_ok am_k176 [237] 100 ?_
    refine And.intro (fun _ => ?_) (fun z => absurd rfl z)
    refine am_vO am_k176 am_h176 rfl rfl rfl rfl (hh) ?_
    refine am_vc_ok am_k176 [237] 100 ?_
    refine And.intro (fun _ => ?_) (fun z => absurd rfl z)
    exact K
  · rw [e2] at hh
    refine am_vc_ok am_k176 [237] 100 ?_
    refine am_vO am_k176 am_h176 rfl rfl rfl rfl (hh) ?_
    refine am_vc_ok am_k176 [237] 100 ?_
    refine And.intro (fun z => absurd z (by decide)) (fun _ => ?_)
    refine am_vO am_k176 am_h176 rfl rfl rfl rfl (hh) ?_
    refine am_vc_ok am_k176 [237] 100 ?_
    refine And.intro (fun _ => ?_) (fun z => absurd rfl z)
    refine am_vO am_k176 am_h176 rfl rfl rfl rfl (hh) ?_
    refine am_vc_ok am_k176 [237] 100 ?_
    refine And.intro (fun z => absurd z (by decide)) (fun _ => ?_)
    refine am_vO am_k176 am_h176 rfl rfl rfl rfl (hh) ?_
    refine am_vc_ok am_k176 [237] 100 ?_
    refine And.intro (fun _ => ?_) (fun z => absurd rfl z)
    exact K
  · rw [e2] at hh
    refine am_vc_ok am_k176 [237] 100 ?_
    refine am_vO am_k176 am_h176 rfl rfl rfl rfl (hh) ?_
    refine am_vc_ok am_k176 [237] 100 ?_
    refine And.intro (fun z => absurd z (by decide)) (fun _ => ?_)
    refine am_vO am_k176 am_h176 rfl rfl rfl rfl (hh) ?_
    refine am_vc_ok am_k176 [237] 100 ?_
    refine And.intro (fun z => absurd z (by decide)) (fun _ => ?_)
    refine am_vO am_k176 am_h176 rfl rfl rfl rfl (hh) ?_
    refine am_vc_ok am_k176 [237] 100 ?_
    refine And.intro (fun _ => ?_) (fun z => absurd rfl z)
    refine am_vO am_k176 am_h176 rfl rfl rfl rfl (hh) ?_
    refine am_vc_ok am_k176 [237] 100 ?_
    refine And.intro (fun z => absurd z (by decide)) (fun _ => ?_)
    refine am_vO am_k176 am_h176 rfl rfl rfl rfl (hh) ?_
    refine am_vc_ok am_k176 [237] 100 ?_
    refine And.intro (fun z => absurd z (by decide)) (fun _ => ?_)
    exact K
theorem m_mk_lp {Q : tQ} {c so : Nat} (hso : so < 4) (h : M0 σ x N G) (hc2 : c < 12) {R : Nat ⊕ (aM × Nat)} (hF : ∀ q s, R = .inl q → mmf σ s c → s 12 0 15 = nI q → Q (some (aI 0)) s τ (rX t) cX lX) (hK : ∀ it q s, R = .inr (it, q) → mmf σ s c → s 12 0 15 = nI q → mmI s c it → am_G l 176 Q 0 0 367 [(3, aI (nI so)), (0, aR 12 0), (1, aI (nI x)), (2, aI (nI (6 * c)))] [] s τ (rX t) cX lX) : ∀ (d told p : Nat) (it : aM) (s : tI), d + pc told = 4 → told < 8 → p ≤ N → mkP (sgN G N) so d told it p = R → mmf σ s c → s 12 0 15 = nI p → mmI s c it → am_G l 176 Q 0 0 176 [(4, aI (nI told)), (3, aI (nI so)), (0, aR 12 0), (1, aI (nI x)), (2, aI (nI (6 * c)))] [] s τ (rX t) cX lX
  | 0, told, p, it, s, hd, ht, hp, hR, hf, h15, hI => by
    have := pc_8 told ht
    omega
  | d + 1, told, p, it, s, hd, ht, hp, hR, hf, h15, hI => by
    have hN := h.2.1
    have hM : M0 s x N G := h.fr (hf.1 47 (by decide) (by decide)) (hf.1 48 (by decide) (by decide))
    have hp3 := pc_8 told ht
    unfold mkP at hR
    cases e : mkO (sgN G N p) with
    | none =>
      rw [e] at hR
      obtain ⟨n1, n2, n3⟩ := mkO_n e
      have hh := m_here (l := l) (τ := τ) (t := t) hM h15 (by omega)
      refine am_vc_ok am_k176 [367] 100 ?_
      refine am_vO am_k176 am_h176 rfl rfl rfl rfl (hh) ?_
      refine am_vc_ok am_k176 [367] 100 ?_
      refine And.intro (fun z => absurd z n1) (fun _ => ?_)
      refine am_vO am_k176 am_h176 rfl rfl rfl rfl (hh) ?_
      refine am_vc_ok am_k176 [367] 100 ?_
      refine And.intro (fun z => absurd z n2) (fun _ => ?_)
      refine am_vO am_k176 am_h176 rfl rfl rfl rfl (hh) ?_
      refine am_vc_ok am_k176 [367] 100 ?_
      refine And.intro (fun z => absurd z n3) (fun _ => ?_)
      exact am_Gp [1, 2, 3, 4] rfl (hK it p s hR.symm hf h15 hI)
    | some m =>
      have hm := (mkO_s e).1
      have hp1 : p < N := some_lt (f := mkO) mkO9 e
      rw [e] at hR
      refine m_which hM h15 (by omega) e ?_
      have hb := has_mb told (by omega) m (by omega)
      refine am_vc_ok am_k176 [176, 260] 100 ?_
      refine am_vS am_k176 am_h176 rfl rfl rfl rfl (m_has) ?_
      refine am_vc_ok am_k176 [176, 260] 100 ?_
      refine And.intro (fun g => ?_) (fun g => ?_)
      · have hg : ¬ mb told m = true := fun z => bI_0.mp g (hb.mpr z)
        have go : ¬ (m = 2 ∧ so = 2) → am_G l 176 Q 0 0 260 [(5, aI (nI m)), (4, aI (nI told)), (3, aI (nI so)), (0, aR 12 0), (1, aI (nI x)), (2, aI (nI (6 * c)))] [] s τ (rX t) cX lX := by
          intro hn
          have hR := hR
          simp only [if_neg (fun z : mb told m = true ∨ (m = 2 ∧ so = 2) => z.elim hg hn)] at hR
          have hM2 : M0 (u3 s 12 0 15 (s 12 0 15 + 1)) x N G := hM.fr (u3_kk _ _ (by decide)) (u3_kk _ _ (by decide))
          have e15 : u3 s 12 0 15 (s 12 0 15 + 1) 12 0 15 = nI (p + 1) := by rw [u3_eq, h15, nI_1]
          refine am_vc_ok am_k176 [176, 295] 100 ?_
          refine am_vO am_k176 am_h176 rfl rfl rfl rfl (m_isFigure hM2 e15 (by omega)) ?_
          refine am_vc_ok am_k176 [176, 295] 100 ?_
          cases e2 : fgO (sgN G N (p + 1)) with
          | none =>
            rw [e2] at hR
            refine And.intro (fun _ => ?_) (fun z => absurd (bI_1.mp z) (fgO_n e2))
            exact am_vZ am_k176 am_r176 rfl (Or.inl rfl) (hF (p + 1) _ hR.symm hf.pl e15)
          | some y =>
            rw [e2] at hR
            refine And.intro (fun z => absurd (fgO_r e2) (bI_0.mp z)) (fun _ => ?_)
            generalize hT : tkF (sgN G N) (nFig m) 0 (p + 1) = T at hR
            have hTN : T.2 ≤ N := by rw [← hT]; exact tkF_N sgN_N _ _ _ (by omega)
            have ei : nI (6 * c) + 3 + nI m = nI (6 * c + 3 + m) := by rw [show (3 : Int32) = nI 3 from rfl, nI_add, nI_add]
            refine am_Gs (σ2 := u3 (u3 s 12 0 15 (s 12 0 15 + 1)) 12 0 15 (nI (p + 1))) (by rw [u3_tw, h15, nI_1]) ?_
            refine am_Gp (ls2 := [(7, aI (nI 0)), (6, aI (nI 0)), (5, aI (nI m)), (4, aI (nI told ||| ((1 : Int32) <<< (nI m &&& 31)))), (3, aI (nI so)), (0, aR 12 0), (1, aI (nI x)), (2, aI (nI (6 * c)))]) [0, 1, 3, 2, 4, 5, 6, 7] rfl ?_
            refine m_tk_lp (R := T) hm hM2 (fun k => ?_) (nFig m) 0 0 (p + 1) (by omega) (by omega) hT
            have K2 := m_mk_lp hso h hc2 hF hK d (ad told m) T.2 (umM it m T.1) (u3 (u3 s 12 0 15 (nI T.2)) 51 0 (6 * c + 3 + m) (nI T.1)) (by rw [pc_ad told (by omega) m (by omega) (Bool.eq_false_iff.mpr hg)]; omega) (ad_8 told ht m hm) hTN hR (hf.pl.um hm) (by rw [u3_k _ _ (by decide), u3_eq]) (hI.pl.um hm)
            rw [← or_ad told (by omega) m (by omega)] at K2
            refine am_vc_ok am_k176 [176] 100 ?_
            refine And.intro (by rw [ei]; exact vp_in_nI (N := 72) (by omega) (by decide)) ?_
            rw [ei, nI_clamp (by omega)]
            exact am_Gs (by rw [u3_tw]) (am_Gp [3, 4, 5, 6, 7] rfl K2)
        refine And.intro (fun e2 => ?_) (fun e2 => ?_)
        · have e2 : m = 2 := nI_inj' (by omega) (by decide) (show nI m = nI 2 from e2)
          refine And.intro (fun e3 => ?_) (fun e3 => ?_)
          · have e3 : so = 2 := nI_inj' (by omega) (by decide) (show nI so = nI 2 from e3)
            simp only [if_pos (Or.inr ⟨e2, e3⟩ : mb told m = true ∨ (m = 2 ∧ so = 2))] at hR
            exact am_vZ am_k176 am_r176 rfl (Or.inl rfl) (hF p _ hR.symm hf h15)
          · exact go (fun z => e3 (by rw [z.2]; rfl))
        · exact go (fun z => e2 (by rw [z.1]; rfl))
      · have g := hb.mp (bI_1.mp g)
        simp only [if_pos (Or.inl g : mb told m = true ∨ (m = 2 ∧ so = 2))] at hR
        exact am_vZ am_k176 am_r176 rfl (Or.inl rfl) (hF p _ hR.symm hf h15)
end L53
