/-! the model's reader: signs, figures, marks -/
section L53
variable {l : Launch} {σ σ2 : tI} {τ τ2 : tL} {t : Option (Nat × Nat)} {x N p : Nat} {G : Nat → Int32}
/-- the text that is read -/
def M0 (σ : tI) (x N : Nat) (G : Nat → Int32) : Prop := σ 47 0 x = nI N ∧ N ≤ 60 ∧ x < 6 ∧ ∀ j, j < N → σ 48 0 (60 * x + j) = G j
theorem M0.fr (h : M0 σ x N G) (h6 : σ2 47 = σ 47) (h30 : σ2 48 = σ 48) : M0 σ2 x N G := by
  unfold M0 at h ⊢
  rw [h6, h30]
  exact h
theorem m_here (h : M0 σ x N G) (hp : σ 12 0 15 = nI p) (hp2 : p < 1000) : am_D l 174 [aR 12 0, aI (nI x)] σ τ (rX t) cX lX (some (aI (sgN G N p))) σ τ (rX t) := by
  obtain ⟨h1, h2, h3, h4⟩ := h
  have ei : 60 * nI x + σ 12 0 15 = nI (60 * x + p) := by rw [hp, show (60 : Int32) = nI 60 from rfl, pk_mul, nI_add]
  refine am_D_of am_o174 am_l174 rfl ?_
  refine am_vc_ok am_k174 [] 100 ?_
  refine And.intro (vp_in_nI (N := 6) h3 (by decide)) ?_
  rw [nI_clamp (n := x) (by omega), h1, hp]
  refine And.intro (fun e => ?_) (fun e => ?_)
  · have e : ¬ p < N := fun z => absurd e (nI_ge z (by omega))
    refine am_vI am_k174 am_r174 rfl ⟨by unfold sgN; rw [if_neg e], rfl, rfl, rfl, rfl, rfl⟩
  · have e : p < N := (nI_ltI (by omega) (by omega)).mp (Int32.not_le.mp e)
    refine And.intro (by rw [ei]; exact vp_in_nI (N := 360) (by omega) (by decide)) ?_
    rw [ei, nI_clamp (by omega), h4 p e]
    refine am_vI am_k174 am_r174 rfl ⟨by unfold sgN; rw [if_pos e], rfl, rfl, rfl, rfl, rfl⟩
theorem m_isFigure (h : M0 σ x N G) (hp : σ 12 0 15 = nI p) (hp2 : p < 1000) : am_D l 175 [aR 12 0, aI (nI x)] σ τ (rX t) cX lX (some (aI (bI (48 ≤ sgN G N p ∧ sgN G N p ≤ 57)))) σ τ (rX t) := by
  refine am_D_of am_o175 am_l175 rfl ?_
  refine am_vc_ok am_k175 [] 100 ?_
  refine am_vO am_k175 am_h175 rfl rfl rfl rfl (m_here h hp hp2) ?_
  refine am_vc_ok am_k175 [] 100 ?_
  refine am_vS am_k175 am_h175 rfl rfl rfl rfl (m_in) ?_
  refine am_vc_ok am_k175 [] 100 ?_
  exact am_vZ am_k175 am_r175 rfl bI_01 ⟨rfl, rfl, rfl, rfl, rfl, rfl⟩
theorem m_tk_lp {Q : tQ} {R : Nat × Nat} {m c : Nat} {w so : Int32} (hm : m < 3) (h : M0 σ x N G) (K : ∀ k : Int32, am_G l 176 Q 0 0 351 [(7, aI k), (6, aI (nI R.1)), (5, aI (nI m)), (4, aI w), (3, aI so), (0, aR 12 0), (1, aI (nI x)), (2, aI (nI c))] [] (u3 σ 12 0 15 (nI R.2)) τ (rX t) cX lX) : ∀ (d k a p : Nat), k + d = nFig m → p ≤ N → tkF (sgN G N) d a p = R → am_G l 176 Q 0 0 295 [(7, aI (nI k)), (6, aI (nI a)), (5, aI (nI m)), (4, aI w), (3, aI so), (0, aR 12 0), (1, aI (nI x)), (2, aI (nI c))] [] (u3 σ 12 0 15 (nI p)) τ (rX t) cX lX
  | 0, k, a, p, hk, hp, hR => by
    subst hR
    refine am_vc_ok am_k176 [295, 351] 100 ?_
    refine And.intro (fun e => ?_) (fun e => ?_)
    · have e : m = 2 := nI_inj' (by omega) (by decide) (show nI m = nI 2 from e)
      rw [nFig, if_pos e] at hk
      obtain rfl : k = 3 := by omega
      exact And.intro (fun _ => K _) (fun h1 => absurd (show (3 : Int32) ≤ nI 3 by decide) h1)
    · have e : ¬ m = 2 := fun z => e (by rw [z]; rfl)
      rw [nFig, if_neg e] at hk
      obtain rfl : k = 1 := by omega
      exact And.intro (fun _ => K _) (fun h1 => absurd (show (1 : Int32) ≤ nI 1 by decide) h1)
  | d + 1, k, a, p, hk, hp, hR => by
    have hN := h.2.1
    have h2 : M0 (u3 σ 12 0 15 (nI p)) x N G := h.fr (u3_kk _ _ (by decide)) (u3_kk _ _ (by decide))
    have go : am_G l 176 Q 0 0 311 [(7, aI (nI k)), (6, aI (nI a)), (5, aI (nI m)), (4, aI w), (3, aI so), (0, aR 12 0), (1, aI (nI x)), (2, aI (nI c))] [] (u3 σ 12 0 15 (nI p)) τ (rX t) cX lX := by
      refine am_vc_ok am_k176 [295, 351] 100 ?_
      refine am_vO am_k176 am_h176 rfl rfl rfl rfl (m_isFigure h2 (u3_eq _ _ _ _ _) (by omega)) ?_
      refine am_vc_ok am_k176 [295, 351] 100 ?_
      cases e : fgO (sgN G N p) with
      | none =>
        rw [tkF_n e] at hR
        subst hR
        exact And.intro (fun _ => K _) (fun g => absurd (bI_1.mp g) (fgO_n e))
      | some y =>
        obtain ⟨hy, hs⟩ := fgO_s e
        rw [tkF_y e] at hR
        have hp1 : p < N := some_lt (f := fgO) fgO9 e
        refine And.intro (fun g => absurd (fgO_r e) (bI_0.mp g)) (fun _ => ?_)
        refine am_vO am_k176 am_h176 rfl rfl rfl rfl (m_here h2 (u3_eq _ _ _ _ _) (by omega)) ?_
        refine am_vc_ok am_k176 [295, 351] 100 ?_
        have K2 := m_tk_lp hm h K d (k + 1) (10 * a + y) (p + 1) (by omega) (by omega) hR
        have ev : (10 : Int32) * nI a + sgN G N p - 48 = nI (10 * a + y) := by
          rw [hs, show (10 : Int32) = nI 10 from rfl, show (48 : Int32) = nI 48 from rfl, pk_mul, nI_add, nI_sub' (by omega), show 10 * a + (y + 48) - 48 = 10 * a + y by omega]
        rw [← nI_1 k, ← ev] at K2
        exact am_Gs (by rw [u3_eq, u3_tw, nI_1]) (am_Gp [0, 1, 2, 3, 4, 5, 6, 7] rfl K2)
    refine am_vc_ok am_k176 [295, 311, 351] 100 ?_
    refine And.intro (fun e => ?_) (fun e => ?_)
    · have e : m = 2 := nI_inj' (by omega) (by decide) (show nI m = nI 2 from e)
      rw [nFig, if_pos e] at hk
      exact And.intro (fun g => absurd g (nI_ge (b := 3) (by omega) (by decide))) (fun _ => go)
    · have e : ¬ m = 2 := fun z => e (by rw [z]; rfl)
      rw [nFig, if_neg e] at hk
      exact And.intro (fun g => absurd g (nI_ge (b := 1) (by omega) (by decide))) (fun _ => go)
/-- only the marks of item c and the place have changed -/
def mmf (σ s : tI) (c : Nat) : Prop := (∀ q, q ≠ 12 → q ≠ 51 → s q = σ q) ∧ (∀ j, j ≠ 15 → s 12 0 j = σ 12 0 j) ∧ ∀ j, (j < 6 * c + 3 ∨ 6 * c + 5 < j) → s 51 0 j = σ 51 0 j
def mmI (s : tI) (c : Nat) (it : aM) : Prop := s 51 0 (6 * c + 3) = nI it.1 ∧ s 51 0 (6 * c + 4) = nI it.2.1 ∧ s 51 0 (6 * c + 5) = pI it.2.2
theorem mmf.pl {s : tI} {c : Nat} {v : Int32} (h : mmf σ s c) : mmf σ (u3 s 12 0 15 v) c :=
  ⟨fun q a1 a2 => by rw [u3_kk _ _ a1]; exact h.1 q a1 a2, fun j hj => by rw [u3_j _ _ hj]; exact h.2.1 j hj, fun j hj => by rw [u3_k _ _ (by decide)]; exact h.2.2 j hj⟩
theorem mmf.um {s : tI} {c m v : Nat} (hm : m < 3) (h : mmf σ s c) : mmf σ (u3 s 51 0 (6 * c + 3 + m) (nI v)) c :=
  ⟨fun q a1 a2 => by rw [u3_kk _ _ a2]; exact h.1 q a1 a2, fun j hj => by rw [u3_k _ _ (by decide)]; exact h.2.1 j hj, fun j hj => by rw [u3_j _ _ (by omega)]; exact h.2.2 j hj⟩
theorem mmI.pl {s : tI} {c : Nat} {it : aM} {v : Int32} (h : mmI s c it) : mmI (u3 s 12 0 15 v) c it := by
  unfold mmI at h ⊢
  rw [u3_k _ _ (by decide), u3_k _ _ (by decide), u3_k _ _ (by decide)]
  exact h
theorem mmI.um {s : tI} {c m v : Nat} {it : aM} (hm : m < 3) (h : mmI s c it) : mmI (u3 s 51 0 (6 * c + 3 + m) (nI v)) c (umM it m v) := by
  obtain ⟨h1, h2, h3⟩ := h
  obtain rfl | rfl | rfl : m = 0 ∨ m = 1 ∨ m = 2 := by omega
  · exact ⟨u3_eq _ _ _ _ _, by rw [u3_j _ _ (by omega)]; exact h2, by rw [u3_j _ _ (by omega)]; exact h3⟩
  · exact ⟨by rw [u3_j _ _ (by omega)]; exact h1, u3_eq _ _ _ _ _, by rw [u3_j _ _ (by omega)]; exact h3⟩
  · exact ⟨by rw [u3_j _ _ (by omega)]; exact h1, by rw [u3_j _ _ (by omega)]; exact h2, u3_eq _ _ _ _ _⟩
/-- which mark it is -/
theorem m_which {Q : tQ} {s : tI} {m c : Nat} {w so : Int32} (h : M0 s x N G) (h15 : s 12 0 15 = nI p) (hp2 : p < 1000) (e : mkO (sgN G N p) = some m) (K : am_G l 176 Q 0 0 237 [(5, aI (nI m)), (4, aI w), (3, aI so), (0, aR 12 0), (1, aI (nI x)), (2, aI (nI c))] [] s τ (rX t) cX lX) : am_G l 176 Q 0 0 176 [(4, aI w), (3, aI so), (0, aR 12 0), (1, aI (nI x)), (2, aI (nI c))] [] s τ (rX t) cX lX := by
  have hh := m_here (l := l) (τ := τ) (t := t) h h15 hp2
  obtain ⟨-, ⟨rfl, e2⟩ | ⟨rfl, e2⟩ | ⟨rfl, e2⟩⟩ := mkO_s e
  · rw [e2] at hh
    refine am_vc_ok am_k176 [237] 100 ?_
    refine am_vO am_k176 am_h176 rfl rfl rfl rfl (hh) ?_
    refine am_vc_ok am_k176 [237] 100 ?_
    refine And.intro (fun _ => ?_) (fun z => absurd rfl z)
    refine am_vO am_k176 am_h176 rfl rfl rfl rfl (hh) ?_
    refine am_vc_ok am_k176 [237] 100 ?_
    refine And.intro (fun _ => ?_) (fun z => absurd rfl z)
    exact K
  · rw [e2] at hh
    refine am_vc_ok am_k176 [237] 100 ?_
    refine am_vO am_k176 am_h176 rfl rfl rfl rfl (hh) ?_
    refine am_vc_ok am_k176 [237] 100 ?_
    refine And.intro (fun z => absurd z (by decide)) (fun _ => ?_)
    refine am_vO am_k176 am_h176 rfl rfl rfl rfl (hh) ?_
    refine am_vc_ok am_k176 [237] 100 ?_
    refine And.intro (fun _ => ?_) (fun z => absurd rfl z)
    refine am_vO am_k176 am_h176 rfl rfl rfl rfl (hh) ?_
    refine am_vc_ok am_k176 [237] 100 ?_
    refine And.intro (fun z => absurd z (by decide)) (fun _ => ?_)
    refine am_vO am_k176 am_h176 rfl rfl rfl rfl (hh) ?_
    refine am_vc_ok am_k176 [237] 100 ?_
    refine And.intro (fun _ => ?_) (fun z => absurd rfl z)
    exact K
  · rw [e2] at hh
    refine am_vc_ok am_k176 [237] 100 ?_
    refine am_vO am_k176 am_h176 rfl rfl rfl rfl (hh) ?_
    refine am_vc_ok am_k176 [237] 100 ?_
    refine And.intro (fun z => absurd z (by decide)) (fun _ => ?_)
    refine am_vO am_k176 am_h176 rfl rfl rfl rfl (hh) ?_
    refine am_vc_ok am_k176 [237] 100 ?_
    refine And.intro (fun z => absurd z (by decide)) (fun _ => ?_)
    refine am_vO am_k176 am_h176 rfl rfl rfl rfl (hh) ?_
    refine am_vc_ok am_k176 [237] 100 ?_
    refine And.intro (fun _ => ?_) (fun z => absurd rfl z)
    refine am_vO am_k176 am_h176 rfl rfl rfl rfl (hh) ?_
    refine am_vc_ok am_k176 [237] 100 ?_
    refine And.intro (fun z => absurd z (by decide)) (fun _ => ?_)
    refine am_vO am_k176 am_h176 rfl rfl rfl rfl (hh) ?_
    refine am_vc_ok am_k176 [237] 100 ?_
    refine And.intro (fun z => absurd z (by decide)) (fun _ => ?_)
    exact K
theorem m_mk_lp {Q : tQ} {c so : Nat} (hso : so < 4) (h : M0 σ x N G) (hc2 : c < 12) {R : Nat ⊕ (aM × Nat)} (hF : ∀ q s, R = .inl q → mmf σ s c → s 12 0 15 = nI q → Q (some (aI 0)) s τ (rX t) cX lX) (hK : ∀ it q s, R = .inr (it, q) → mmf σ s c → s 12 0 15 = nI q → mmI s c it → am_G l 176 Q 0 0 367 [(3, aI (nI so)), (0, aR 12 0), (1, aI (nI x)), (2, aI (nI (6 * c)))] [] s τ (rX t) cX lX) : ∀ (d told p : Nat) (it : aM) (s : tI), d + pc told = 4 → told < 8 → p ≤ N → mkP (sgN G N) so d told it p = R → mmf σ s c → s 12 0 15 = nI p → mmI s c it → am_G l 176 Q 0 0 176 [(4, aI (nI told)), (3, aI (nI so)), (0, aR 12 0), (1, aI (nI x)), (2, aI (nI (6 * c)))] [] s τ (rX t) cX lX
  | 0, told, p, it, s, hd, ht, hp, hR, hf, h15, hI => by
    have := pc_8 told ht
    omega
  | d + 1, told, p, it, s, hd, ht, hp, hR, hf, h15, hI => by
    have hN := h.2.1
    have hM : M0 s x N G := h.fr (hf.1 47 (by decide) (by decide)) (hf.1 48 (by decide) (by decide))
    have hp3 := pc_8 told ht
    unfold mkP at hR
    cases e : mkO (sgN G N p) with
    | none =>
      rw [e] at hR
      obtain ⟨n1, n2, n3⟩ := mkO_n e
      have hh := m_here (l := l) (τ := τ) (t := t) hM h15 (by omega)
      refine am_vc_ok am_k176 [367] 100 ?_
      refine am_vO am_k176 am_h176 rfl rfl rfl rfl (hh) ?_
      refine am_vc_ok am_k176 [367] 100 ?_
      refine And.intro (fun z => absurd z n1) (fun _ => ?_)
      refine am_vO am_k176 am_h176 rfl rfl rfl rfl (hh) ?_
      refine am_vc_ok am_k176 [367] 100 ?_
      refine And.intro (fun z => absurd z n2) (fun _ => ?_)
      refine am_vO am_k176 am_h176 rfl rfl rfl rfl (hh) ?_
      refine am_vc_ok am_k176 [367] 100 ?_
      refine And.intro (fun z => absurd z n3) (fun _ => ?_)
      exact am_Gp [1, 2, 3, 4] rfl (hK it p s hR.symm hf h15 hI)
    | some m =>
      have hm := (mkO_s e).1
      have hp1 : p < N := some_lt (f := mkO) mkO9 e
      rw [e] at hR
      refine m_which hM h15 (by omega) e ?_
      have hb := has_mb told (by omega) m (by omega)
      refine am_vc_ok am_k176 [176, 260] 100 ?_
      refine am_vS am_k176 am_h176 rfl rfl rfl rfl (m_has) ?_
      refine am_vc_ok am_k176 [176, 260] 100 ?_
      refine And.intro (fun g => ?_) (fun g => ?_)
      · have hg : ¬ mb told m = true := fun z => bI_0.mp g (hb.mpr z)
        have go : ¬ (m = 2 ∧ so = 2) → am_G l 176 Q 0 0 260 [(5, aI (nI m)), (4, aI (nI told)), (3, aI (nI so)), (0, aR 12 0), (1, aI (nI x)), (2, aI (nI (6 * c)))] [] s τ (rX t) cX lX := by
          intro hn
          have hR := hR
          simp only [if_neg (fun z : mb told m = true ∨ (m = 2 ∧ so = 2) => z.elim hg hn)] at hR
          have hM2 : M0 (u3 s 12 0 15 (s 12 0 15 + 1)) x N G := hM.fr (u3_kk _ _ (by decide)) (u3_kk _ _ (by decide))
          have e15 : u3 s 12 0 15 (s 12 0 15 + 1) 12 0 15 = nI (p + 1) := by rw [u3_eq, h15, nI_1]
          refine am_vc_ok am_k176 [176, 295] 100 ?_
          refine am_vO am_k176 am_h176 rfl rfl rfl rfl (m_isFigure hM2 e15 (by omega)) ?_
          refine am_vc_ok am_k176 [176, 295] 100 ?_
          cases e2 : fgO (sgN G N (p + 1)) with
          | none =>
            rw [e2] at hR
            refine And.intro (fun _ => ?_) (fun z => absurd (bI_1.mp z) (fgO_n e2))
            exact am_vZ am_k176 am_r176 rfl (Or.inl rfl) (hF (p + 1) _ hR.symm hf.pl e15)
          | some y =>
            rw [e2] at hR
            refine And.intro (fun z => absurd (fgO_r e2) (bI_0.mp z)) (fun _ => ?_)
            generalize hT : tkF (sgN G N) (nFig m) 0 (p + 1) = T at hR
            have hTN : T.2 ≤ N := by rw [← hT]; exact tkF_N sgN_N _ _ _ (by omega)
            have ei : nI (6 * c) + 3 + nI m = nI (6 * c + 3 + m) := by rw [show (3 : Int32) = nI 3 from rfl, nI_add, nI_add]
            refine am_Gs (σ2 := u3 (u3 s 12 0 15 (s 12 0 15 + 1)) 12 0 15 (nI (p + 1))) (by rw [u3_tw, h15, nI_1]) ?_
            refine am_Gp (ls2 := [(7, aI (nI 0)), (6, aI (nI 0)), (5, aI (nI m)), (4, aI (nI told ||| ((1 : Int32) <<< (nI m &&& 31)))), (3, aI (nI so)), (0, aR 12 0), (1, aI (nI x)), (2, aI (nI (6 * c)))]) [0, 1, 3, 2, 4, 5, 6, 7] rfl ?_
            refine m_tk_lp (R := T) hm hM2 (fun k => ?_) (nFig m) 0 0 (p + 1) (by omega) (by omega) hT
            have K2 := m_mk_lp hso h hc2 hF hK d (ad told m) T.2 (umM it m T.1) (u3 (u3 s 12 0 15 (nI T.2)) 51 0 (6 * c + 3 + m) (nI T.1)) (by rw [pc_ad told (by omega) m (by omega) (Bool.eq_false_iff.mpr hg)]; omega) (ad_8 told ht m hm) hTN hR (hf.pl.um hm) (by rw [u3_k _ _ (by decide), u3_eq]) (hI.pl.um hm)
            rw [← or_ad told (by omega) m (by omega)] at K2
            refine am_vc_ok am_k176 [176] 100 ?_
            refine And.intro (by rw [ei]; exact vp_in_nI (N := 72) (by omega) (by decide)) ?_
            rw [ei, nI_clamp (by omega)]
            exact am_Gs (by rw [u3_tw]) (am_Gp [3, 4, 5, 6, 7] rfl K2)
        refine And.intro (fun e2 => ?_) (fun e2 => ?_)
        · have e2 : m = 2 := nI_inj' (by omega) (by decide) (show nI m = nI 2 from e2)
          refine And.intro (fun e3 => ?_) (fun e3 => ?_)
          · have e3 : so = 2 := nI_inj' (by omega) (by decide) (show nI so = nI 2 from e3)
            simp only [if_pos (Or.inr ⟨e2, e3⟩ : mb told m = true ∨ (m = 2 ∧ so = 2))] at hR
            exact am_vZ am_k176 am_r176 rfl (Or.inl rfl) (hF p _ hR.symm hf h15)
          · exact go (fun z => e3 (by rw [z.2]; rfl))
        · exact go (fun z => e2 (by rw [z.1]; rfl))
      · have g := hb.mp (bI_1.mp g)
        simp only [if_pos (Or.inl g : mb told m = true ∨ (m = 2 ∧ so = 2))] at hR
        exact am_vZ am_k176 am_r176 rfl (Or.inl rfl) (hF p _ hR.symm hf h15)
end L53

/-! the model's isItem, readsItem, reads -/
section L54
variable {l : Launch} {σ σ2 : tI} {τ τ2 : tL} {t : Option (Nat × Nat)} {x N p : Nat} {G : Nat → Int32}
/-- items that are read -/
def RP (σ : tI) (S : aSh) : Prop := ∀ k w, k < sN S → w < 6 → σ 51 0 (6 * k + w) = sF S k w
def rpI (σ : tI) (c : Nat) (i : aIt) : Prop := σ 51 0 (6 * c) = nI i.1 ∧ σ 51 0 (6 * c + 1) = nI i.2.1 ∧ σ 51 0 (6 * c + 2) = nI i.2.2.1 ∧ mmI σ c i.2.2.2
theorem i72 {c w : Nat} (hc : c < 12) (hw : w < 6) : vp_in (nI (6 * c) + nI w) 72 := by
  rw [nI_add]
  exact vp_in_nI (by omega) (by decide)
theorem c72 {c w : Nat} (hc : c < 12) (hw : w < 6) : (nI (6 * c) + nI w).toNatClampNeg = 6 * c + w := by
  rw [nI_add, nI_clamp (by omega)]
theorem m_ii_lp {Q : tQ} {S : aSh} {i : aIt} {c : Nat} {B : Prop} {g0 s0 : Int32} (hc : sN S = c) (hc2 : c < 12) (hX : RP σ S) (hS : ShOK S) (hi : rpI σ c i) (hb : itB i) (K : ∀ v : Int32, v = cI (B ∧ itA S i c) → Q (some (aI v)) σ τ (rX t) cX lX) : ∀ (d k : Nat) (v : Int32), k + d = c → v = cI (B ∧ itA S i k) → am_G l 177 Q 0 0 84 [(5, aI (nI (6 * k))), (4, aI v), (3, aI g0), (2, aI s0), (0, aR 12 0), (1, aI (nI (6 * c)))] [] σ τ (rX t) cX lX
  | 0, k, v, h, hv => by
    obtain rfl : k = c := by omega
    refine am_vc_ok am_k177 [84] 100 ?_
    refine And.intro (fun _ => ?_) (fun h1 => absurd (nI_le (Nat.le_refl _) (by omega)) h1)
    refine am_vZ am_k177 am_r177 rfl ?_ (K v hv)
    rw [hv]
    exact cI_01
  | d + 1, k, v, h, hv => by
    have hk : k < c := by omega
    have x1 : σ 51 0 (6 * k) = nI (sNm S k) := hX k 0 (by omega) (by decide)
    have x4 : σ 51 0 (6 * k + 3) = nI (sSi S k) := hX k 3 (by omega) (by decide)
    have x5 : σ 51 0 (6 * k + 4) = nI (sTi S k) := hX k 4 (by omega) (by decide)
    obtain ⟨y1, y2, y3, y4, y5, y6⟩ := id hi
    obtain ⟨b1, b2, b3, b4, b5, b6⟩ := id hb
    obtain ⟨s1, s2, s3, s4, s5, s6, s7⟩ := hS.2.1 k (by omega)
    have fin : ∀ (w a : Int32), w = cI (B ∧ itA S i (k + 1)) → am_G l 177 Q 0 0 84 [(5, aI (nI (6 * k) + 6)), (4, aI w), (6, aI a), (3, aI g0), (2, aI s0), (0, aR 12 0), (1, aI (nI (6 * c)))] [] σ τ (rX t) cX lX := by
      intro w a hw
      rw [show nI (6 * k) + 6 = nI (6 * (k + 1)) by rw [show (6 : Int32) = nI 6 from rfl, nI_add]; rfl]
      exact am_Gp [0, 1, 3, 4, 5, 6] rfl (m_ii_lp hc hc2 hX hS hi hb K d (k + 1) w (by omega) hw)
    have hap : ∀ a : Prop, (a ↔ (sTi S k < i.2.2.2.1 ∨ i.2.2.2.2.1 < sSi S k)) → am_G l 177 Q 0 0 137 [(6, aI (cI a)), (5, aI (nI (6 * k))), (4, aI v), (3, aI g0), (2, aI s0), (0, aR 12 0), (1, aI (nI (6 * c)))] [] σ τ (rX t) cX lX := by
      intro a ha
      refine am_vc_ok am_k177 [84] 100 ?_
      rw [hv]
      refine And.intro (fun e => ?_) (fun e => ?_)
      · have e := cI_0.mp e
        exact fin 0 _ (cI_f (fun z => e ⟨z.1, (itA_s.mp z.2).1⟩)).symm
      · have e := cI_n0.mp e
        refine And.intro (vp_in_nI (N := 72) (by omega) (by decide)) ?_
        rw [nI_clamp (n := 6 * k) (by omega), x1]
        refine And.intro (vp_in_nI (N := 72) (by omega) (by decide)) ?_
        rw [nI_clamp (n := 6 * c) (by omega), y1]
        refine And.intro (fun g => ?_) (fun g => ?_)
        · have g : sNm S k = i.1 := nI_inj' (by omega) (by omega) g
          refine And.intro (fun f => ?_) (fun f => ?_)
          · have f := cI_0.mp f
            exact fin 0 _ (cI_f (fun z => f (ha.mpr ((itA_s.mp z.2).2 g)))).symm
          · have f := cI_n0.mp f
            exact fin 1 _ (cI_t ⟨e.1, itA_s.mpr ⟨e.2, fun _ => ha.mp f⟩⟩).symm
        · have g : ¬ sNm S k = i.1 := fun z => g (by rw [z])
          exact fin 1 _ (cI_t ⟨e.1, itA_s.mpr ⟨e.2, fun z => absurd z g⟩⟩).symm
    refine am_vc_ok am_k177 [84, 137] 100 ?_
    refine And.intro (fun h1 => absurd h1 (nI_ge (by omega) (by omega))) (fun _ => ?_)
    refine And.intro (i72 (w := 4) (by omega) (by decide)) ?_
    rw [show nI (6 * k) + 4 = nI (6 * k) + nI 4 from rfl, c72 (by omega) (by decide), x5]
    refine And.intro (i72 (w := 3) (by omega) (by decide)) ?_
    rw [show nI (6 * c) + 3 = nI (6 * c) + nI 3 from rfl, c72 (by omega) (by decide), y4]
    refine And.intro (fun g => ?_) (fun g => ?_)
    · have g : sTi S k < i.2.2.2.1 := (nI_ltI (by omega) (by omega)).mp g
      have K2 := hap True ⟨fun _ => Or.inl g, fun _ => trivial⟩
      rw [cI_t trivial] at K2
      exact K2
    · have g : ¬ sTi S k < i.2.2.2.1 := fun z => g ((nI_ltI (by omega) (by omega)).mpr z)
      refine And.intro (i72 (w := 4) (by omega) (by decide)) ?_
      rw [show nI (6 * c) + 4 = nI (6 * c) + nI 4 from rfl, c72 (by omega) (by decide), y5]
      refine And.intro (i72 (w := 3) (by omega) (by decide)) ?_
      rw [show nI (6 * k) + 3 = nI (6 * k) + nI 3 from rfl, c72 (by omega) (by decide), x4]
      refine And.intro (fun f => ?_) (fun f => ?_)
      · have f : ¬ i.2.2.2.2.1 < sSi S k := fun z => absurd f (nI_ge z (by omega))
        have K2 := hap False ⟨fun z => z.elim, fun z => z.elim g f⟩
        rw [cI_f (fun z => z)] at K2
        exact K2
      · have f : i.2.2.2.2.1 < sSi S k := (nI_ltI (by omega) (by omega)).mp (Int32.not_le.mp f)
        have K2 := hap True ⟨fun _ => Or.inr f, fun _ => trivial⟩
        rw [cI_t trivial] at K2
        exact K2
theorem m_isItem {S : aSh} {i : aIt} {c : Nat} (hc : sN S = c) (hc2 : c < 12) (hX : RP σ S) (hS : ShOK S) (hi : rpI σ c i) (hb : itB i) (h2 : ∀ d, i.2.2.2.2.2 = some d → i.2.1 ≠ 2) : am_D l 177 [aR 12 0, aI (nI (6 * c))] σ τ (rX t) cX lX (some (aI (cI (itOK S i)))) σ τ (rX t) := by
  obtain ⟨y1, y2, y3, y4, y5, y6⟩ := id hi
  obtain ⟨b1, b2, b3, b4, b5, b6⟩ := id hb
  have eA : itOK S i ↔ ((i.2.2.2.1 ≤ i.2.2.2.2.1 ∧ (∀ d, i.2.2.2.2.2 = some d → (i.2.1 = 0 → d ≤ 255) ∧ (i.2.1 = 3 → d < i.2.2.1))) ∧ itA S i c) := by
    unfold itOK itA
    rw [hc, and_assoc]
  have fin : ∀ B : Prop, (B ↔ (i.2.2.2.1 ≤ i.2.2.2.2.1 ∧ (∀ d, i.2.2.2.2.2 = some d → (i.2.1 = 0 → d ≤ 255) ∧ (i.2.1 = 3 → d < i.2.2.1)))) → am_G l 177 (fun v s t2 p2 c2 n2 => v = some (aI (cI (itOK S i))) ∧ s = σ ∧ t2 = τ ∧ p2 = rX t ∧ c2 = cX ∧ n2 = lX) 0 0 79 [(3, aI (pI i.2.2.2.2.2)), (2, aI (nI i.2.1)), (0, aR 12 0), (1, aI (nI (6 * c)))] [aI (cI B)] σ τ (rX t) cX lX := by
    intro B hB
    refine am_vc_ok am_k177 [84] 100 ?_
    refine am_Gp (ls2 := [(5, aI (nI (6 * 0))), (4, aI (cI B)), (3, aI (pI i.2.2.2.2.2)), (2, aI (nI i.2.1)), (0, aR 12 0), (1, aI (nI (6 * c)))]) [0, 1, 2, 3, 4, 5] rfl ?_
    refine m_ii_lp (B := B) hc hc2 hX hS hi hb (fun v hv => ⟨?_, rfl, rfl, rfl, rfl, rfl⟩) c 0 _ (by omega) (cI_cg ⟨fun z => ⟨z, fun k hk => absurd hk (by omega)⟩, fun z => z.1⟩)
    rw [hv]
    exact congrArg (fun x => some (aI x)) (cI_cg (by rw [eA, hB]))
  have yes : (i.2.2.2.1 ≤ i.2.2.2.2.1 ∧ (∀ d, i.2.2.2.2.2 = some d → (i.2.1 = 0 → d ≤ 255) ∧ (i.2.1 = 3 → d < i.2.2.1))) → am_G l 177 (fun v s t2 p2 c2 n2 => v = some (aI (cI (itOK S i))) ∧ s = σ ∧ t2 = τ ∧ p2 = rX t ∧ c2 = cX ∧ n2 = lX) 0 0 79 [(3, aI (pI i.2.2.2.2.2)), (2, aI (nI i.2.1)), (0, aR 12 0), (1, aI (nI (6 * c)))] [aI 1] σ τ (rX t) cX lX := by
    intro z
    have := fin True ⟨fun _ => z, fun _ => trivial⟩
    rw [cI_t trivial] at this
    exact this
  have no : ¬ (i.2.2.2.1 ≤ i.2.2.2.2.1 ∧ (∀ d, i.2.2.2.2.2 = some d → (i.2.1 = 0 → d ≤ 255) ∧ (i.2.1 = 3 → d < i.2.2.1))) → am_G l 177 (fun v s t2 p2 c2 n2 => v = some (aI (cI (itOK S i))) ∧ s = σ ∧ t2 = τ ∧ p2 = rX t ∧ c2 = cX ∧ n2 = lX) 0 0 79 [(3, aI (pI i.2.2.2.2.2)), (2, aI (nI i.2.1)), (0, aR 12 0), (1, aI (nI (6 * c)))] [aI 0] σ τ (rX t) cX lX := by
    intro z
    have := fin False ⟨fun z => z.elim, z⟩
    rw [cI_f (fun z => z)] at this
    exact this
  refine am_D_of am_o177 am_l177 rfl ?_
  refine am_vc_ok am_k177 [79] 100 ?_
  refine And.intro (i72 (w := 1) (by omega) (by decide)) ?_
  rw [show nI (6 * c) + 1 = nI (6 * c) + nI 1 from rfl, c72 (by omega) (by decide), y2]
  refine And.intro (i72 (w := 5) (by omega) (by decide)) ?_
  rw [show nI (6 * c) + 5 = nI (6 * c) + nI 5 from rfl, c72 (by omega) (by decide), y6]
  refine And.intro (i72 (w := 3) (by omega) (by decide)) ?_
  rw [show nI (6 * c) + 3 = nI (6 * c) + nI 3 from rfl, c72 (by omega) (by decide), y4]
  refine And.intro (i72 (w := 4) (by omega) (by decide)) ?_
  rw [show nI (6 * c) + 4 = nI (6 * c) + nI 4 from rfl, c72 (by omega) (by decide), y5]
  refine And.intro (fun e => ?_) (fun e => ?_)
  · have e : i.2.2.2.2.1 < i.2.2.2.1 := (nI_ltI (by omega) (by omega)).mp e
    exact no (fun z => by omega)
  have e : i.2.2.2.1 ≤ i.2.2.2.2.1 := (nI_leI (by omega) (by omega)).mp (Int32.not_lt.mp e)
  cases hd : i.2.2.2.2.2 with
  | none =>
    rw [hd] at yes
    refine And.intro (fun _ => ?_) (fun z => absurd (by decide) z)
    exact yes ⟨e, fun d z => by cases z⟩
  | some d =>
    rw [hd] at yes no
    have hd9 := b6 d hd
    refine And.intro (fun z => absurd z (nI_pos (by omega))) (fun _ => ?_)
    refine And.intro (fun z => ?_) (fun z => ?_)
    · have z : i.2.1 = 1 := nI_inj' (by omega) (by decide) (show nI i.2.1 = nI 1 from z)
      exact yes ⟨e, fun d _ => ⟨fun y => by omega, fun y => by omega⟩⟩
    have z1 : ¬ i.2.1 = 1 := fun y => z (by rw [y]; rfl)
    have z2 := h2 d hd
    refine And.intro (fun z => ?_) (fun z => ?_)
    · have z : i.2.1 = 0 := nI_inj' (by omega) (by decide) (show nI i.2.1 = nI 0 from z)
      refine And.intro (fun g => ?_) (fun g => ?_)
      · have g : d ≤ 255 := (nI_leI (b := 255) (by omega) (by decide)).mp g
        exact yes ⟨e, fun d2 h => by cases h; exact ⟨fun _ => g, fun y => by omega⟩⟩
      · have g : ¬ d ≤ 255 := fun y => g (nI_le (b := 255) y (by decide))
        refine And.intro (fun y => ?_) (fun y => ?_)
        · have y : i.2.1 = 3 := nI_inj' (by omega) (by decide) (show nI i.2.1 = nI 3 from y)
          omega
        · exact no (fun y => g ((y.2 d rfl).1 z))
    · have z : ¬ i.2.1 = 0 := fun y => z (by rw [y]; rfl)
      refine And.intro (fun y => ?_) (fun y => ?_)
      · have y : i.2.1 = 3 := nI_inj' (by omega) (by decide) (show nI i.2.1 = nI 3 from y)
        refine And.intro (i72 (w := 2) (by omega) (by decide)) ?_
        rw [show nI (6 * c) + 2 = nI (6 * c) + nI 2 from rfl, c72 (by omega) (by decide), y3]
        refine And.intro (fun g => ?_) (fun g => ?_)
        · have g : ¬ d < i.2.2.1 := fun q => absurd g (nI_ge q (by omega))
          exact no (fun q => g ((q.2 d rfl).2 y))
        · have g : d < i.2.2.1 := (nI_ltI (by omega) (by omega)).mp (Int32.not_le.mp g)
          exact yes ⟨e, fun d2 h => by cases h; exact ⟨fun q => absurd q z, fun _ => g⟩⟩
      · have y : ¬ i.2.1 = 3 := fun q => y (by rw [q]; rfl)
        omega
end L54

/-! the model's readsItem, reads -/
section L55
variable {l : Launch} {σ σ2 : tI} {τ τ2 : tL} {t : Option (Nat × Nat)} {x N p : Nat} {G : Nat → Int32}
def mrf (σ s : tI) (c : Nat) : Prop := (∀ q, q ≠ 12 → q ≠ 51 → s q = σ q) ∧ (∀ j, j ≠ 15 → s 12 0 j = σ 12 0 j) ∧ ∀ j, (j ≤ 6 * c ∨ 6 * c + 5 < j) → s 51 0 j = σ 51 0 j
theorem mrf.refl {c : Nat} : mrf σ σ c := ⟨fun _ _ _ => rfl, fun _ _ => rfl, fun _ _ => rfl⟩
theorem mrf.pl {s : tI} {c : Nat} {v : Int32} (h : mrf σ s c) : mrf σ (u3 s 12 0 15 v) c :=
  ⟨fun q a1 a2 => by rw [u3_kk _ _ a1]; exact h.1 q a1 a2, fun j hj => by rw [u3_j _ _ hj]; exact h.2.1 j hj, fun j hj => by rw [u3_k _ _ (by decide)]; exact h.2.2 j hj⟩
theorem mrf.u {s : tI} {c j : Nat} {v : Int32} (h : mrf σ s c) (hj : 6 * c < j ∧ j ≤ 6 * c + 5) : mrf σ (u3 s 51 0 j v) c :=
  ⟨fun q a1 a2 => by rw [u3_kk _ _ a2]; exact h.1 q a1 a2, fun j hj => by rw [u3_k _ _ (by decide)]; exact h.2.1 j hj, fun k hk => by rw [u3_j _ _ (by omega)]; exact h.2.2 k hk⟩
theorem mrf.mm {s s2 : tI} {c : Nat} (h : mrf σ s c) (h2 : mmf s s2 c) : mrf σ s2 c :=
  ⟨fun q a1 a2 => (h2.1 q a1 a2).trans (h.1 q a1 a2), fun j hj => (h2.2.1 j hj).trans (h.2.1 j hj), fun j hj => (h2.2.2 j (by omega)).trans (h.2.2 j hj)⟩
theorem RP.fr {s : tI} {S : aSh} {c : Nat} (h : RP σ S) (hc : sN S ≤ c) (hs : ∀ j, j < 6 * c → s 51 0 j = σ 51 0 j) : RP s S := by
  intro k w hk hw
  rw [hs _ (by omega)]
  exact h k w hk hw
def rdQ (σ : tI) (c : Nat) (R : Nat ⊕ (aIt × Nat)) (v : Option am_V) (s : tI) : Prop := mrf σ s c ∧ match R with
  | .inl q => v = some (aI 0) ∧ s 12 0 15 = nI q
  | .inr (i, q) => v = some (aI 1) ∧ s 12 0 15 = nI q ∧ rpI s c i
theorem m_sort {Q : tQ} {c : Nat} (h : M0 σ x N G) (h15 : σ 12 0 15 = nI p) (hp2 : p < 1000) (K : am_G l 176 Q 0 0 58 [(0, aR 12 0), (1, aI (nI x)), (2, aI (nI (6 * c)))] [aI (pI (soO (sgN G N p)))] σ τ (rX t) cX lX) : am_G l 176 Q 0 0 0 [(0, aR 12 0), (1, aI (nI x)), (2, aI (nI (6 * c)))] [] σ τ (rX t) cX lX := by
  have hh := m_here (l := l) (τ := τ) (t := t) h h15 hp2
  cases e : soO (sgN G N p) with
  | none =>
    rw [e] at K
    obtain ⟨n1, n2, n3, n4⟩ := soO_n e
    refine am_vc_ok am_k176 [58] 100 ?_
    refine am_vO am_k176 am_h176 rfl rfl rfl rfl (hh) ?_
    refine am_vc_ok am_k176 [58] 100 ?_
    refine And.intro (fun z => absurd z n1) (fun _ => ?_)
    refine am_vO am_k176 am_h176 rfl rfl rfl rfl (hh) ?_
    refine am_vc_ok am_k176 [58] 100 ?_
    refine And.intro (fun z => absurd z n2) (fun _ => ?_)
    refine am_vO am_k176 am_h176 rfl rfl rfl rfl (hh) ?_
    refine am_vc_ok am_k176 [58] 100 ?_
    refine And.intro (fun z => absurd z n3) (fun _ => ?_)
    refine am_vO am_k176 am_h176 rfl rfl rfl rfl (hh) ?_
    refine am_vc_ok am_k176 [58] 100 ?_
    refine And.intro (fun z => absurd z n4) (fun _ => ?_)
    exact K
  | some so =>
    rw [e] at K
    obtain ⟨-, ⟨rfl, e2⟩ | ⟨rfl, e2⟩ | ⟨rfl, e2⟩ | ⟨rfl, e2⟩⟩ := soO_s e
    · rw [e2] at hh
      refine am_vc_ok am_k176 [58] 100 ?_
      refine am_vO am_k176 am_h176 rfl rfl rfl rfl (hh) ?_
      refine am_vc_ok am_k176 [58] 100 ?_
      refine And.intro (fun _ => ?_) (fun z => absurd rfl z)
      exact K
    · rw [e2] at hh
      refine am_vc_ok am_k176 [58] 100 ?_
      refine am_vO am_k176 am_h176 rfl rfl rfl rfl (hh) ?_
      refine am_vc_ok am_k176 [58] 100 ?_
      refine And.intro (fun z => absurd z (by decide)) (fun _ => ?_)
      refine am_vO am_k176 am_h176 rfl rfl rfl rfl (hh) ?_
      refine am_vc_ok am_k176 [58] 100 ?_
      refine And.intro (fun _ => ?_) (fun z => absurd rfl z)
      exact K
    · rw [e2] at hh
      refine am_vc_ok am_k176 [58] 100 ?_
      refine am_vO am_k176 am_h176 rfl rfl rfl rfl (hh) ?_
      refine am_vc_ok am_k176 [58] 100 ?_
      refine And.intro (fun z => absurd z (by decide)) (fun _ => ?_)
      refine am_vO am_k176 am_h176 rfl rfl rfl rfl (hh) ?_
      refine am_vc_ok am_k176 [58] 100 ?_
      refine And.intro (fun z => absurd z (by decide)) (fun _ => ?_)
      refine am_vO am_k176 am_h176 rfl rfl rfl rfl (hh) ?_
      refine am_vc_ok am_k176 [58] 100 ?_
      refine And.intro (fun _ => ?_) (fun z => absurd rfl z)
      exact K
    · rw [e2] at hh
      refine am_vc_ok am_k176 [58] 100 ?_
      refine am_vO am_k176 am_h176 rfl rfl rfl rfl (hh) ?_
      refine am_vc_ok am_k176 [58] 100 ?_
      refine And.intro (fun z => absurd z (by decide)) (fun _ => ?_)
      refine am_vO am_k176 am_h176 rfl rfl rfl rfl (hh) ?_
      refine am_vc_ok am_k176 [58] 100 ?_
      refine And.intro (fun z => absurd z (by decide)) (fun _ => ?_)
      refine am_vO am_k176 am_h176 rfl rfl rfl rfl (hh) ?_
      refine am_vc_ok am_k176 [58] 100 ?_
      refine And.intro (fun z => absurd z (by decide)) (fun _ => ?_)
      refine am_vO am_k176 am_h176 rfl rfl rfl rfl (hh) ?_
      refine am_vc_ok am_k176 [58] 100 ?_
      refine And.intro (fun _ => ?_) (fun z => absurd rfl z)
      exact K
theorem m_ri2 {Q : tQ} {s : tI} {S : aSh} {nm so ch q0 c : Nat} {R : Nat ⊕ (aIt × Nat)} (h : M0 σ x N G) (hc : sN S = c) (hc2 : c < 12) (hf : mrf σ s c) (hq0 : q0 ≤ N) (h15 : s 12 0 15 = nI q0) (hS : ShOK S) (hX : RP σ S) (hI : rpI s c (nm, so, ch, 0, 9, none)) (hnm : nm < 16) (hso : so < 4) (hch : ch ≤ 9) (hR : itE (sgN G N) S nm so ch q0 = R) (hQ : ∀ v s, rdQ σ c R v s → Q v s τ (rX t) cX lX) : am_G l 176 Q 0 0 173 [(3, aI (nI so)), (0, aR 12 0), (1, aI (nI x)), (2, aI (nI (6 * c)))] [] s τ (rX t) cX lX := by
  have hM : M0 s x N G := h.fr (hf.1 47 (by decide) (by decide)) (hf.1 48 (by decide) (by decide))
  unfold itE at hR
  refine am_vc_ok am_k176 [176] 100 ?_
  refine am_Gp (ls2 := [(4, aI (nI 0)), (3, aI (nI so)), (0, aR 12 0), (1, aI (nI x)), (2, aI (nI (6 * c)))]) [0, 1, 2, 3, 4] rfl ?_
  refine m_mk_lp (σ := s) (R := mkP (sgN G N) so 4 0 (0, 9, none) q0) hso hM hc2 ?_ ?_ 4 0 q0 (0, 9, none) s (by decide) (by decide) hq0 rfl ⟨fun _ _ _ => rfl, fun _ _ => rfl, fun _ _ => rfl⟩ h15 hI.2.2.2
  · intro q s2 e hf2 h2
    rw [e] at hR
    refine hQ _ _ ⟨hf.mm hf2, ?_⟩
    rw [← hR]
    exact ⟨rfl, h2⟩
  · intro it q s2 e hf2 h2 hI2
    rw [e] at hR
    obtain ⟨b1, b2, b3, b4⟩ := mkP_b sgN_N 4 0 (0, 9, none) it q0 q hq0 e ⟨by decide, by decide, fun x hx => by cases hx⟩
    have hf3 := hf.mm hf2
    have hX2 : RP s2 S := hX.fr (c := c) (by omega) (fun j hj => hf3.2.2 j (Or.inl (by omega)))
    have hI3 : rpI s2 c (nm, so, ch, it) := ⟨by rw [hf2.2.2 _ (by omega)]; exact hI.1, by rw [hf2.2.2 _ (by omega)]; exact hI.2.1, by rw [hf2.2.2 _ (by omega)]; exact hI.2.2.1, hI2⟩
    refine am_vc_ok am_k176 [] 100 ?_
    refine am_vO am_k176 am_h176 rfl rfl rfl rfl (m_isItem (S := S) (i := (nm, so, ch, it)) hc hc2 hX2 hS hI3 ⟨hnm, hso, hch, b2, b3, fun d hd => (b4 d hd).1⟩ (fun d hd => (b4 d hd).2)) ?_
    refine am_vc_ok am_k176 [] 100 ?_
    refine am_vZ am_k176 am_r176 rfl cI_01 (hQ _ _ ⟨hf3, ?_⟩)
    by_cases hok : itOK S (nm, so, ch, it)
    · have hR : (Sum.inr ((nm, so, ch, it), q) : Nat ⊕ (aIt × Nat)) = R := by
        rw [← hR]
        exact (if_pos hok).symm
      rw [← hR]
      exact ⟨congrArg (fun x => some (aI x)) (cI_t hok), h2, hI3⟩
    · have hR : (Sum.inl q : Nat ⊕ (aIt × Nat)) = R := by
        rw [← hR]
        exact (if_neg hok).symm
      rw [← hR]
      exact ⟨congrArg (fun x => some (aI x)) (cI_f hok), h2⟩
theorem m_readsItem {S : aSh} {nm c : Nat} (h : M0 σ x N G) (hc : sN S = c) (hc2 : c < 12) (hp : p < N) (h15 : σ 12 0 15 = nI (p + 1)) (hS : ShOK S) (hX : RP σ S) (hnm : nmO (sgN G N p) = some nm) (h0 : σ 51 0 (6 * c) = nI nm) : am_T l 176 [aR 12 0, aI (nI x), aI (nI (6 * c))] σ τ t (fun v s τ2 t2 => τ2 = τ ∧ t2 = t ∧ rdQ σ c (itP (sgN G N) S p) v s) := by
  have hN := h.2.1
  have hnm2 := (nmO_s hnm).1
  generalize hR : itP (sgN G N) S p = R
  unfold itP at hR
  rw [hnm] at hR
  simp only [if_neg (show ¬ sN S = 12 by omega)] at hR
  refine am_T_of am_o176 am_l176 rfl ?_
  refine m_sort (p := p + 1) h h15 (by omega) ?_
  have hQ : ∀ v s, rdQ σ c R v s → xQ (fun v s τ2 t2 => τ2 = τ ∧ t2 = t ∧ rdQ σ c R v s) v s τ (rX t) cX lX := fun v s hs => ⟨_, rfl, rfl, rfl, rfl, rfl, hs⟩
  cases e2 : soO (sgN G N (p + 1)) with
  | none =>
    rw [e2] at hR
    refine am_vc_ok am_k176 [173] 100 ?_
    refine And.intro (fun z => absurd z (by decide)) (fun _ => ?_)
    refine am_vZ am_k176 am_r176 rfl (Or.inl rfl) (hQ _ _ ⟨mrf.refl, ?_⟩)
    rw [← hR]
    exact ⟨rfl, h15⟩
  | some so =>
    rw [e2] at hR
    obtain ⟨hso, -⟩ := soO_s e2
    have hpN1 : p + 1 < N := some_lt (f := soO) soO9 e2
    refine am_vc_ok am_k176 [173] 100 ?_
    refine And.intro (fun _ => ?_) (fun z => absurd (nI_pos' (by omega)) z)
    refine And.intro (i72 (w := 1) (by omega) (by decide)) ?_
    rw [show nI (6 * c) + 1 = nI (6 * c) + nI 1 from rfl, c72 (by omega) (by decide)]
    refine And.intro (i72 (w := 2) (by omega) (by decide)) ?_
    rw [show nI (6 * c) + 2 = nI (6 * c) + nI 2 from rfl, c72 (by omega) (by decide)]
    refine And.intro (i72 (w := 3) (by omega) (by decide)) ?_
    rw [show nI (6 * c) + 3 = nI (6 * c) + nI 3 from rfl, c72 (by omega) (by decide)]
    refine And.intro (i72 (w := 4) (by omega) (by decide)) ?_
    rw [show nI (6 * c) + 4 = nI (6 * c) + nI 4 from rfl, c72 (by omega) (by decide)]
    refine And.intro (i72 (w := 5) (by omega) (by decide)) ?_
    rw [show nI (6 * c) + 5 = nI (6 * c) + nI 5 from rfl, c72 (by omega) (by decide)]
    generalize hs1 : u3 (u3 (u3 (u3 (u3 (u3 σ 12 0 15 (σ 12 0 15 + 1)) 51 0 (6 * c + 1) (pI (some so))) 51 0 (6 * c + 2) 0) 51 0 (6 * c + 3) 0) 51 0 (6 * c + 4) 9) 51 0 (6 * c + 5) (-9) = s1
    have hf : mrf σ s1 c := by
      rw [← hs1]
      exact ((((mrf.refl.pl.u (by omega)).u (by omega)).u (by omega)).u (by omega)).u (by omega)
    have f15 : s1 12 0 15 = nI (p + 2) := by
      rw [← hs1, u3_k _ _ (by decide), u3_k _ _ (by decide), u3_k _ _ (by decide), u3_k _ _ (by decide), u3_k _ _ (by decide), u3_eq, h15, nI_1]
    have hI : rpI s1 c (nm, so, 0, 0, 9, none) := by
      refine ⟨(hf.2.2 _ (Or.inl (Nat.le_refl _))).trans h0, ?_, ?_, ?_, ?_, ?_⟩
      · show _ = nI so; rw [← hs1]; simp [u3, pI]
      · show _ = nI 0; rw [← hs1]; simp [u3]; rfl
      · show _ = nI 0; rw [← hs1]; simp [u3]; rfl
      · show _ = nI 9; rw [← hs1]; simp [u3]; rfl
      · show _ = pI none; rw [← hs1]; simp [u3]; rfl
    have hM1 : M0 s1 x N G := h.fr (hf.1 47 (by decide) (by decide)) (hf.1 48 (by decide) (by decide))
    refine And.intro (fun z => ?_) (fun z => ?_)
    · have z : so = 3 := nI_inj' (by omega) (by decide) (show nI so = nI 3 from z)
      simp only [if_pos z] at hR
      refine am_vO am_k176 am_h176 rfl rfl rfl rfl (m_isFigure hM1 f15 (by omega)) ?_
      refine am_vc_ok am_k176 [173] 100 ?_
      cases e3 : fgO (sgN G N (p + 2)) with
      | none =>
        rw [e3] at hR
        refine And.intro (fun _ => ?_) (fun g => absurd (bI_1.mp g) (fgO_n e3))
        refine am_vZ am_k176 am_r176 rfl (Or.inl rfl) (hQ _ _ ⟨hf, ?_⟩)
        rw [← hR]
        exact ⟨rfl, f15⟩
      | some ch =>
        rw [e3] at hR
        obtain ⟨hc9, hv⟩ := fgO_s e3
        have hpN2 : p + 2 < N := some_lt (f := fgO) fgO9 e3
        refine And.intro (fun g => absurd (fgO_r e3) (bI_0.mp g)) (fun _ => ?_)
        have hh := m_here (l := l) (τ := τ) (t := t) hM1 f15 (by omega)
        rw [hv] at hh
        refine am_vO am_k176 am_h176 rfl rfl rfl rfl (hh) ?_
        refine am_vc_ok am_k176 [173] 100 ?_
        refine And.intro (fun g => ?_) (fun g => ?_)
        · have g : ch = 0 := by
            have := nI_inj' (by omega) (by decide) (show nI (ch + 48) = nI 48 from g)
            omega
          simp only [if_pos g] at hR
          refine am_vZ am_k176 am_r176 rfl (Or.inl rfl) (hQ _ _ ⟨hf, ?_⟩)
          rw [← hR]
          exact ⟨rfl, f15⟩
        · have g : ¬ ch = 0 := fun y => g (by rw [y]; rfl)
          simp only [if_neg g] at hR
          refine am_vO am_k176 am_h176 rfl rfl rfl rfl (hh) ?_
          refine am_vc_ok am_k176 [173] 100 ?_
          refine And.intro (i72 (w := 2) (by omega) (by decide)) ?_
          rw [show nI (6 * c) + 2 = nI (6 * c) + nI 2 from rfl, c72 (by omega) (by decide), show nI (ch + 48) - 48 = nI ch by rw [show (48 : Int32) = nI 48 from rfl, nI_sub' (by omega), show ch + 48 - 48 = ch by omega]]
          have hf2 : mrf σ (u3 (u3 s1 51 0 (6 * c + 2) (nI ch)) 12 0 15 (nI (p + 3))) c := (hf.u (by omega)).pl
          refine am_Gs (σ2 := u3 (u3 s1 51 0 (6 * c + 2) (nI ch)) 12 0 15 (nI (p + 3))) (by rw [u3_k (a := 12) (b := 0) (c := 15) _ _ (by decide), f15, nI_1]) ?_
          refine am_Gp [0, 1, 2, 3] rfl (m_ri2 (ch := ch) h hc hc2 hf2 (by omega) (u3_eq _ _ _ _ _) hS hX ?_ hnm2 hso hc9 hR hQ)
          refine ⟨?_, ?_, ?_, ?_, ?_, ?_⟩
          · rw [u3_k _ _ (by decide), u3_j _ _ (by omega)]; exact hI.1
          · rw [u3_k _ _ (by decide), u3_j _ _ (by omega)]; exact hI.2.1
          · rw [u3_k _ _ (by decide), u3_eq]
          · rw [u3_k _ _ (by decide), u3_j _ _ (by omega)]; exact hI.2.2.2.1
          · rw [u3_k _ _ (by decide), u3_j _ _ (by omega)]; exact hI.2.2.2.2.1
          · rw [u3_k _ _ (by decide), u3_j _ _ (by omega)]; exact hI.2.2.2.2.2
    · have z : ¬ so = 3 := fun y => z (by rw [y]; rfl)
      simp only [if_neg z, if_neg (show ¬ 1 = 0 by decide)] at hR
      exact am_Gp [0, 1, 2, 3] rfl (m_ri2 (ch := 0) h hc hc2 hf (by omega) f15 hS hX hI hnm2 hso (by omega) hR hQ)
/-- only the reader's own cells have changed -/
def rdF (σ s : tI) : Prop := (∀ q, q ≠ 12 → q ≠ 51 → s q = σ q) ∧ ∀ j, j ≠ 13 → j ≠ 15 → s 12 0 j = σ 12 0 j
def rsQ (σ : tI) (R : Nat ⊕ aSh) (v : Option am_V) (s : tI) : Prop := rdF σ s ∧ match R with
  | .inl q => v = some (aI (nI q))
  | .inr S => v = some (aI (-9)) ∧ s 12 0 13 = nI (sN S) ∧ RP s S ∧ ShOK S
theorem rdF.u {s : tI} {j : Nat} {v : Int32} (h : rdF σ s) (hj : j = 13 ∨ j = 15) : rdF σ (u3 s 12 0 j v) :=
  ⟨fun q a1 a2 => by rw [u3_kk _ _ a1]; exact h.1 q a1 a2, fun k a1 a2 => by rw [u3_j _ _ (by omega)]; exact h.2 k a1 a2⟩
theorem rdF.w {s : tI} {j : Nat} {v : Int32} (h : rdF σ s) : rdF σ (u3 s 51 0 j v) :=
  ⟨fun q a1 a2 => by rw [u3_kk _ _ a2]; exact h.1 q a1 a2, fun k a1 a2 => by rw [u3_k _ _ (by decide)]; exact h.2 k a1 a2⟩
theorem rdF.m {s s2 : tI} {c : Nat} (h : rdF σ s) (h2 : mrf s s2 c) : rdF σ s2 :=
  ⟨fun q a1 a2 => (h2.1 q a1 a2).trans (h.1 q a1 a2), fun k a1 a2 => (h2.2.1 k a2).trans (h.2 k a1 a2)⟩
theorem RP.psh {S : aSh} {i : aIt} (h : RP σ S) (hi : rpI σ (sN S) i) : RP σ (psh S i) := by
  intro k w hk hw
  have hk : k < sN S + 1 := hk
  by_cases e : k = sN S
  · subst e
    obtain ⟨p1, p2, p3, p4, p5, p6⟩ := psh_eq (S := S) (i := i)
    unfold sF
    rw [p1, p2, p3, p4, p5, p6]
    obtain ⟨y1, y2, y3, y4, y5, y6⟩ := hi
    obtain rfl | rfl | rfl | rfl | rfl | rfl : w = 0 ∨ w = 1 ∨ w = 2 ∨ w = 3 ∨ w = 4 ∨ w = 5 := by omega
    · exact y1
    · exact y2
    · exact y3
    · exact y4
    · exact y5
    · exact y6
  · obtain ⟨p1, p2, p3, p4, p5, p6⟩ := psh_lt (S := S) (i := i) (k := k) (by omega)
    unfold sF
    rw [p1, p2, p3, p4, p5, p6]
    exact h k w (by omega) hw
theorem m_rd_lp {Q : tQ} {R : Nat ⊕ aSh} (h : M0 σ x N G) (hQ : ∀ v s, rsQ σ R v s → Q v s τ (rX t) cX lX) : ∀ (d p : Nat) (S : aSh) (s : tI), N < p + d → p ≤ N → pA (sgN G N) N S p = R → rdF σ s → s 12 0 15 = nI p → s 12 0 13 = nI (sN S) → RP s S → ShOK S → am_G l 178 Q 0 0 10 [(0, aR 12 0), (1, aI (nI x))] [] s τ (rX t) cX lX
  | 0, p, S, s, hd, hp, hR, hsc, h15, h13, hX, hS => absurd hd (by omega)
  | d + 1, p, S, s, hd, hp, hR, hsc, h15, h13, hX, hS => by
    have hN := h.2.1
    have hM : M0 s x N G := h.fr (hsc.1 47 (by decide) (by decide)) (hsc.1 48 (by decide) (by decide))
    have s12 := hS.1
    have fin := fun p S s => m_rd_lp h hQ d p S s
    have hh := m_here (l := l) (τ := τ) (t := t) hM h15 (by omega)
    refine am_vc_ok am_k178 [10] 100 ?_
    refine And.intro (vp_in_nI (N := 6) h.2.2.1 (by decide)) ?_
    rw [nI_clamp (n := x) (by have := h.2.2.1; omega), hM.1, h15]
    refine And.intro (fun e => ?_) (fun e => ?_)
    · have e : ¬ p < N := fun z => absurd e (nI_ge z (by omega))
      rw [pA_end (by omega)] at hR
      refine am_vI am_k178 am_r178 rfl (hQ _ _ ⟨hsc, ?_⟩)
      rw [← hR]
      exact ⟨rfl, h13, hX, hS⟩
    have e : p < N := (nI_ltI (by omega) (by omega)).mp (Int32.not_le.mp e)
    refine am_vO am_k178 am_h178 rfl rfl rfl rfl (hh) ?_
    refine am_vc_ok am_k178 [10] 100 ?_
    refine And.intro (fun g => ?_) (fun g => ?_)
    · have g : sgN G N p = 32 := g
      rw [pA_bl e g] at hR
      have K2 := fin (p + 1) S (u3 s 12 0 15 (s 12 0 15 + 1)) (by omega) (by omega) hR (hsc.u (Or.inr rfl)) (by rw [u3_eq, h15, nI_1]) (by rw [u3_j _ _ (by decide)]; exact h13) (hX.fr (Nat.le_refl _) (fun j _ => by rw [u3_k _ _ (by decide)])) hS
      exact K2
    have g : ¬ sgN G N p = 32 := g
    refine am_vO am_k178 am_h178 rfl rfl rfl rfl (hh) ?_
    refine am_vc_ok am_k178 [10] 100 ?_
    refine am_vS am_k178 am_h178 rfl rfl rfl rfl (m_in) ?_
    refine am_vc_ok am_k178 [10] 100 ?_
    have ret : itP (sgN G N) S p = .inl p → Q (some (aI (s 12 0 15))) s τ (rX t) cX lX := by
      intro hi
      rw [pA_no e g hi] at hR
      refine hQ _ _ ⟨hsc, ?_⟩
      rw [← hR]
      exact congrArg (fun x => some (aI x)) h15
    cases e1 : nmO (sgN G N p) with
    | none =>
      refine And.intro (fun _ => ?_) (fun z => absurd (bI_1.mp z) (nmO_n e1))
      refine am_vI am_k178 am_r178 rfl (ret ?_)
      unfold itP
      rw [e1]
    | some nm =>
      obtain ⟨hnm, hsg⟩ := nmO_s e1
      refine And.intro (fun z => absurd (show 97 ≤ sgN G N p ∧ sgN G N p ≤ 112 from ?_) (bI_0.mp z)) (fun _ => ?_)
      · rw [hsg]
        exact ⟨nI_le (a := 97) (by omega) (by omega), nI_le (b := 112) (by omega) (by decide)⟩
      refine And.intro (fun z => ?_) (fun z => ?_)
      · have z : s 12 0 13 = 12 := z
        rw [h13] at z
        have z : sN S = 12 := nI_inj' (by omega) (by decide) (show nI (sN S) = nI 12 from z)
        refine am_vI am_k178 am_r178 rfl (ret ?_)
        unfold itP
        rw [e1]
        exact if_pos z
      · have z : ¬ sN S = 12 := fun y => z (by
          show s 12 0 13 = 12
          rw [h13, y]
          rfl)
        have e6 : 6 * s 12 0 13 = nI (6 * sN S) := by rw [h13, show (6 : Int32) = nI 6 from rfl, pk_mul]
        have hsub : nI (nm + 97) - 97 = nI nm := by rw [show (97 : Int32) = nI 97 from rfl, nI_sub' (by omega), show nm + 97 - 97 = nm by omega]
        rw [hsg] at hh
        refine am_vO am_k178 am_h178 rfl rfl rfl rfl (hh) ?_
        refine am_vc_ok am_k178 [10] 100 ?_
        refine And.intro (by rw [e6]; exact vp_in_nI (N := 72) (by omega) (by decide)) ?_
        rw [e6, nI_clamp (by omega), hsub]
        generalize hs1 : u3 s 51 0 (6 * sN S) (nI nm) = s1
        have f15 : s1 12 0 15 = nI p := by rw [← hs1, u3_k _ _ (by decide)]; exact h15
        have f13 : s1 12 0 13 = nI (sN S) := by rw [← hs1, u3_k _ _ (by decide)]; exact h13
        have hsc1 : rdF σ s1 := by rw [← hs1]; exact hsc.w
        have hX1 : RP s1 S := hX.fr (Nat.le_refl _) (fun j hj => by rw [← hs1, u3_j _ _ (by omega)])
        have f0 : s1 51 0 (6 * sN S) = nI nm := by rw [← hs1, u3_eq]
        have hM2 : M0 (u3 s1 12 0 15 (s1 12 0 15 + 1)) x N G := h.fr (by rw [u3_kk _ _ (by decide)]; exact hsc1.1 47 (by decide) (by decide)) (by rw [u3_kk _ _ (by decide)]; exact hsc1.1 48 (by decide) (by decide))
        have hrd := m_readsItem (l := l) (τ := τ) (t := t) (S := S) hM2 rfl (by omega) e (by rw [u3_eq, f15, nI_1]) hS (hX1.fr (Nat.le_refl _) (fun j _ => by rw [u3_k _ _ (by decide)])) e1 (by rw [u3_k _ _ (by decide)]; exact f0)
        have e6b : 6 * u3 s1 12 0 15 (s1 12 0 15 + 1) 12 0 13 = nI (6 * sN S) := by rw [u3_j _ _ (by decide), f13, show (6 : Int32) = nI 6 from rfl, pk_mul]
        rw [← e6b] at hrd
        refine am_vOT am_k178 am_h178 rfl rfl rfl rfl (hrd) ?_
        rintro v s2 τ2 t2 ⟨rfl, rfl, hf2, hI⟩
        have hsc2 : rdF σ s2 := (hsc1.u (Or.inr rfl)).m hf2
        cases e2 : itP (sgN G N) S p with
        | inl q =>
          rw [e2] at hI
          obtain ⟨rfl, j1⟩ := hI
          rw [pA_no e g e2] at hR
          refine am_vc_ok am_k178 [10] 100 ?_
          refine And.intro (fun _ => ?_) (fun y => absurd rfl y)
          refine am_vI am_k178 am_r178 rfl (hQ _ _ ⟨hsc2, ?_⟩)
          rw [← hR]
          exact congrArg (fun x => some (aI x)) j1
        | inr iq =>
          obtain ⟨i, q⟩ := iq
          rw [e2] at hI
          obtain ⟨rfl, j1, j2⟩ := hI
          rw [pA_it e g e2] at hR
          obtain ⟨b1, b2, b3, b4, b5, b6, b7⟩ := itP_b sgN_N e2
          have hx := itP_p e2
          have i13 : s2 12 0 13 = nI (sN S) := by rw [hf2.2.1 13 (by decide), u3_j _ _ (by decide)]; exact f13
          have hX2 : RP s2 S := hX1.fr (Nat.le_refl _) (fun j hj => by rw [hf2.2.2 j (Or.inl (by omega)), u3_k _ _ (by decide)])
          have K2 := fin q (psh S i) (u3 s2 12 0 13 (s2 12 0 13 + 1)) (by omega) b1 hR (hsc2.u (Or.inl rfl)) (by rw [u3_j _ _ (by decide)]; exact j1) (by rw [u3_eq, i13, nI_1]; rfl) ((hX2.psh j2).fr (c := 12) (by have : sN (psh S i) = sN S + 1 := rfl; omega) (fun j _ => by rw [u3_k _ _ (by decide)])) (psh_ok hS b2 b3 b4 b5 b6 b7)
          refine am_vc_ok am_k178 [10] 100 ?_
          refine And.intro (fun y => absurd y (by decide)) (fun _ => ?_)
          exact K2
theorem m_reads (h : M0 σ x N G) : am_T l 178 [aR 12 0, aI (nI x)] σ τ t (fun v s τ2 t2 => τ2 = τ ∧ t2 = t ∧ rsQ σ (pA (sgN G N) N S0 0) v s) := by
  refine am_T_of am_o178 am_l178 rfl ?_
  refine am_vc_ok am_k178 [10] 100 ?_
  refine m_rd_lp (σ := σ) h ?_ (N + 1) 0 S0 _ (by omega) (by omega) rfl (rdF.u (j := 13) (rdF.u (j := 15) ⟨fun _ _ _ => rfl, fun _ _ _ => rfl⟩ (Or.inr rfl)) (Or.inl rfl)) (by rw [u3_j _ _ (by decide), u3_eq]; rfl) (u3_eq _ _ _ _ _) (fun k w hk => absurd hk (Nat.not_lt_zero k)) S0_ok
  intro v s hs
  exact ⟨_, rfl, rfl, rfl, rfl, rfl, hs⟩
end L55

/-! the class's indexNames, become -/
section L56
variable {l : Launch} {σ σ2 : tI} {τ τ2 : tL} {t : Option (Nat × Nat)}
def ixf (σ s : tI) (i : Nat) : Prop := (∀ q, q ≠ 38 → s q = σ q) ∧ ∀ j, j ≠ i → s 38 j = σ 38 j
theorem ixf.u {s : tI} {i j : Nat} {v : Int32} (h : ixf σ s i) : ixf σ (u3 s 38 i j v) i :=
  ⟨fun q hq => by rw [u3_kk _ _ hq]; exact h.1 q hq, fun k hk => by rw [u3_ii _ _ hk]; exact h.2 k hk⟩
/-- the index, of those items and versions that have come -/
def ixP (S : aSh) (s : tI) (i : Nat) (P : Nat → Nat → Prop) : Prop := ∀ v a, v < 10 → a < 16 → (∀ k, P k v → k < sN S → sNm S k = a → sSi S k ≤ v → v ≤ sTi S k → s 38 i (16 * v + a) = nI k) ∧ ((∀ k, P k v → k < sN S → ¬ (sNm S k = a ∧ sSi S k ≤ v ∧ v ≤ sTi S k)) → s 38 i (16 * v + a) = -9)
theorem ixP.cg {S : aSh} {s : tI} {i : Nat} {P P2 : Nat → Nat → Prop} (h : ixP S s i P) (hP : ∀ k v, k < sN S → sSi S k ≤ v → v ≤ sTi S k → (P k v ↔ P2 k v)) : ixP S s i P2 := by
  intro v a hv ha
  obtain ⟨h1, h2⟩ := h v a hv ha
  refine ⟨fun k hp hk e1 e2 e3 => h1 k ((hP k v hk e2 e3).mpr hp) hk e1 e2 e3, fun hn => h2 (fun k hp hk hh => hn k ((hP k v hk hh.2.1 hh.2.2).mp hp) hk hh)⟩
theorem ixP.st {S : aSh} {s : tI} {i k w : Nat} (hS : ShOK S) (hk : k < sN S) (hw : sSi S k ≤ w) (hw2 : w ≤ sTi S k) (h : ixP S s i (fun q v => q < k ∨ (q = k ∧ v < w))) : ixP S (u3 s 38 i (16 * w + sNm S k) (nI k)) i (fun q v => q < k ∨ (q = k ∧ v < w + 1)) := by
  have hb := (hS.2.1 k hk).1
  intro v a hv ha
  obtain ⟨h1, h2⟩ := h v a hv ha
  by_cases e : v = w ∧ a = sNm S k
  · obtain ⟨rfl, rfl⟩ := e
    rw [u3_eq]
    refine ⟨fun q hp hq e1 e2 e3 => ?_, fun hn => absurd ⟨rfl, hw, hw2⟩ (hn k (Or.inr ⟨rfl, by omega⟩) hk)⟩
    by_cases eq : q = k
    · rw [eq]
    · have := hS.2.2 q k hq hk eq e1
      omega
  · rw [u3_j _ _ (by omega)]
    refine ⟨fun q hp hq e1 e2 e3 => ?_, fun hn => ?_⟩
    · refine h1 q ?_ hq e1 e2 e3
      rcases hp with hp | ⟨hp, hp2⟩
      · exact Or.inl hp
      · refine Or.inr ⟨hp, ?_⟩
        by_cases hvw : v = w
        · exact absurd ⟨hvw, by rw [← e1, hp]⟩ e
        · omega
    · refine h2 (fun q hp hq hh => hn q ?_ hq hh)
      rcases hp with hp | ⟨hp, hp2⟩
      · exact Or.inl hp
      · exact Or.inr ⟨hp, by omega⟩
theorem x_ix1 {Q : tQ} {i : Nat} (K : ∀ s, ixf σ s i → (∀ j, j < 160 → s 38 i j = -9) → am_G l 76 Q 0 0 23 [(1, aI (nI 160)), (0, aR 9 i)] [] s τ (rX t) cX lX) : ∀ (d k : Nat) (s : tI), k + d = 160 → ixf σ s i → (∀ j, j < k → s 38 i j = -9) → am_G l 76 Q 0 0 2 [(1, aI (nI k)), (0, aR 9 i)] [] s τ (rX t) cX lX
  | 0, k, s, h, hf, hz => by
    obtain rfl : k = 160 := by omega
    refine am_vc_ok am_k76 [2, 23] 100 ?_
    exact And.intro (fun _ => K s hf hz) (fun h1 => absurd (show (160 : Int32) ≤ nI 160 by decide) h1)
  | d + 1, k, s, h, hf, hz => by
    have K2 := x_ix1 K d (k + 1) (u3 s 38 i k (-9)) (by omega) hf.u (fun j hj => by
      by_cases e : j = k
      · rw [e, u3_eq]
      · rw [u3_j _ _ e]; exact hz j (by omega))
    refine am_vc_ok am_k76 [2, 23] 100 ?_
    refine And.intro (fun h1 => absurd h1 (nI_ge (b := 160) (by omega) (by decide))) (fun _ => ?_)
    refine And.intro (vp_in_nI (N := 160) (by omega) (by decide)) ?_
    rw [nI_clamp (n := k) (by omega)]
    rw [← nI_1 k] at K2
    exact K2
theorem x_ix2 {Q : tQ} {i k : Nat} {S : aSh} (hS : ShOK S) (hk : k < sN S) (hX : XItems σ i S) (K : ∀ s w, ixf σ s i → ixP S s i (fun q v => q < k ∨ (q = k ∧ v < sTi S k + 1)) → am_G l 76 Q 0 0 73 [(2, aI w), (1, aI (nI k)), (0, aR 9 i)] [] s τ (rX t) cX lX) : ∀ (d w : Nat) (s : tI), w + d = sTi S k + 1 → sSi S k ≤ w → ixf σ s i → ixP S s i (fun q v => q < k ∨ (q = k ∧ v < w)) → am_G l 76 Q 0 0 40 [(2, aI (nI w)), (1, aI (nI k)), (0, aR 9 i)] [] s τ (rX t) cX lX
  | 0, w, s, h, hw, hf, hz => by
    obtain rfl : w = sTi S k + 1 := by omega
    have s12 := hS.1
    have b9 := (hS.2.1 k hk).2.2.2.2.2.1
    have e36 : s 36 i k = nI (sTi S k) := by rw [hf.1 36 (by decide)]; exact (hX k hk).2.2.2.2.1
    refine am_vc_ok am_k76 [40, 73] 100 ?_
    refine And.intro (vp_in_nI (N := 12) (by omega) (by decide)) ?_
    rw [nI_clamp (n := k) (by omega), e36]
    exact And.intro (fun _ => K s _ hf hz) (fun h1 => absurd (nI_lt (by omega) (by omega)) h1)
  | d + 1, w, s, h, hw, hf, hz => by
    have s12 := hS.1
    have b9 := (hS.2.1 k hk).2.2.2.2.2.1
    have b1 := (hS.2.1 k hk).1
    have e36 : s 36 i k = nI (sTi S k) := by rw [hf.1 36 (by decide)]; exact (hX k hk).2.2.2.2.1
    have e32 : s 32 i k = nI (sNm S k) := by rw [hf.1 32 (by decide)]; exact (hX k hk).1
    have ei : nI w * 16 + nI (sNm S k) = nI (16 * w + sNm S k) := by rw [show (16 : Int32) = nI 16 from rfl, pk_mul, nI_add, Nat.mul_comm]
    have K2 := x_ix2 hS hk hX K d (w + 1) (u3 s 38 i (16 * w + sNm S k) (nI k)) (by omega) (by omega) hf.u (hz.st hS hk hw (by omega))
    refine am_vc_ok am_k76 [40, 73] 100 ?_
    refine And.intro (vp_in_nI (N := 12) (by omega) (by decide)) ?_
    rw [nI_clamp (n := k) (by omega), e36]
    refine And.intro (fun h1 => absurd h1 (Int32.not_lt.mpr (nI_le (by omega) (by omega)))) (fun _ => ?_)
    refine And.intro (vp_in_nI (N := 12) (by omega) (by decide)) ?_
    rw [nI_clamp (n := k) (by omega), e32]
    refine And.intro (by rw [ei]; exact vp_in_nI (N := 160) (by omega) (by decide)) ?_
    rw [ei, nI_clamp (n := 16 * w + sNm S k) (by omega)]
    rw [← nI_1 w] at K2
    exact K2
theorem x_ix3 {Q : tQ} {i : Nat} {S : aSh} (hS : ShOK S) (h9 : σ 9 i 1 = nI (sN S)) (hX : XItems σ i S) (K : ∀ s, ixf σ s i → ixP S s i (fun q _ => q < sN S) → Q none s τ (rX t) cX lX) : ∀ (d k : Nat) (s : tI), k + d = sN S → ixf σ s i → ixP S s i (fun q _ => q < k) → am_G l 76 Q 0 0 25 [(1, aI (nI k)), (0, aR 9 i)] [] s τ (rX t) cX lX
  | 0, k, s, h, hf, hz => by
    obtain rfl : k = sN S := by omega
    have s12 := hS.1
    have e9 : s 9 i 1 = nI (sN S) := by rw [hf.1 9 (by decide)]; exact h9
    refine am_vc_ok am_k76 [25] 100 ?_
    refine And.intro (fun _ => ?_) (fun h1 => absurd (by rw [e9]; exact nI_le (Nat.le_refl _) (by omega)) h1)
    exact am_vV am_k76 am_r76 rfl (K s hf hz)
  | d + 1, k, s, h, hf, hz => by
    have hk : k < sN S := by omega
    have s12 := hS.1
    have e9 : s 9 i 1 = nI (sN S) := by rw [hf.1 9 (by decide)]; exact h9
    obtain ⟨-, -, -, -, b5, b6, -⟩ := hS.2.1 k hk
    have e35 : s 35 i k = nI (sSi S k) := by rw [hf.1 35 (by decide)]; exact (hX k hk).2.2.2.1
    refine am_vc_ok am_k76 [25, 40] 100 ?_
    refine And.intro (fun h1 => absurd h1 (by rw [e9]; exact nI_ge hk (by omega))) (fun _ => ?_)
    refine And.intro (vp_in_nI (N := 12) (by omega) (by decide)) ?_
    rw [nI_clamp (n := k) (by omega), e35]
    refine x_ix2 hS hk hX ?_ (sTi S k + 1 - sSi S k) (sSi S k) s (by omega) (Nat.le_refl _) hf (hz.cg fun q v _ h1 _ => ⟨Or.inl, fun z => z.elim id (fun z => by obtain ⟨rfl, z⟩ := z; omega)⟩)
    intro s2 w hf2 hz2
    have K2 := x_ix3 hS h9 hX K d (k + 1) s2 (by omega) hf2 (hz2.cg fun q v hq h1 h2 => ⟨fun z => by omega, fun z => by
      by_cases e : q = k
      · subst e; exact Or.inr ⟨rfl, by omega⟩
      · exact Or.inl (by omega)⟩)
    refine am_vc_ok am_k76 [25] 100 ?_
    rw [← nI_1 k] at K2
    exact am_Gp [0, 2] rfl K2
theorem x_index {i : Nat} {S : aSh} (hS : ShOK S) (h9 : σ 9 i 1 = nI (sN S)) (hX : XItems σ i S) : am_T l 76 [aR 9 i] σ τ t (fun r s τ2 t2 => r = none ∧ τ2 = τ ∧ t2 = t ∧ ixf σ s i ∧ XIndex s i S) := by
  refine am_T_of am_o76 am_l76 rfl ?_
  refine am_vc_ok am_k76 [2] 100 ?_
  refine x_ix1 ?_ 160 0 σ (by omega) ⟨fun _ _ => rfl, fun _ _ => rfl⟩ (fun j hj => absurd hj (by omega))
  intro s hf hz
  refine am_vc_ok am_k76 [25] 100 ?_
  refine x_ix3 hS h9 hX ?_ (sN S) 0 s (by omega) hf (fun v a hv ha => ⟨fun k hk => absurd hk (by omega), fun _ => hz _ (by omega)⟩)
  intro s2 hf2 hz2
  refine ⟨t, rfl, rfl, rfl, rfl, rfl, rfl, hf2, fun v a hv ha => ?_⟩
  obtain ⟨h1, h2⟩ := hz2 v a hv ha
  exact ⟨fun k hk => h1 k hk hk, fun hn => h2 (fun k _ hk => hn k hk)⟩
theorem cp3_kk {k1 o1 k0 o0 sp dp n a : Nat} (h : a ≠ k1) : cp3 σ k1 o1 k0 o0 sp dp n a = σ a := by
  funext b c
  simp [cp3, h]
theorem cp3_ii {k1 o1 k0 o0 sp dp n a b : Nat} (h : b ≠ o1) : cp3 σ k1 o1 k0 o0 sp dp n a b = σ a b := by
  funext c
  simp [cp3, h]
theorem cp3_at {k1 o1 k0 o0 n c : Nat} (h : c < n) : cp3 σ k1 o1 k0 o0 0 0 n k1 o1 c = σ k0 o0 c := by
  simp [cp3, h]
/-- shape i is another one -/
def bcf (σ s : tI) (i : Nat) : Prop := (∀ q, q ≠ 9 → ¬ (32 ≤ q ∧ q ≤ 38) → s q = σ q) ∧ ∀ q j, j ≠ i → s q j = σ q j
theorem x_become {i : Nat} {S : aSh} (hi : i ≠ 0) (hS : ShOK S) (h9 : σ 9 0 1 = nI (sN S)) (hX : XItems σ 0 S) : am_T l 75 [aR 9 i, aR 9 0] σ τ t (fun r s τ2 t2 => r = none ∧ τ2 = τ ∧ t2 = t ∧ bcf σ s i ∧ s 9 i 0 = 1 ∧ s 9 i 1 = nI (sN S) ∧ XItems s i S ∧ XIndex s i S) := by
  have s12 := hS.1
  have hi2 : 0 ≠ i := fun z => hi z.symm
  refine am_T_of am_o75 am_l75 rfl ?_
  refine am_vc_ok am_k75 [] 100 ?_
  refine And.intro (Or.inr rfl) ?_
  refine am_vA am_k75 am_h75 rfl rfl rfl rfl (by decide) (by decide) (by decide) (by decide) ?_ ?_
  · show (12 : Nat) ≤ 12; decide
  refine am_vc_ok am_k75 [] 100 ?_
  refine am_vA am_k75 am_h75 rfl rfl rfl rfl (by decide) (by decide) (by decide) (by decide) ?_ ?_
  · show (12 : Nat) ≤ 12; decide
  refine am_vc_ok am_k75 [] 100 ?_
  refine am_vA am_k75 am_h75 rfl rfl rfl rfl (by decide) (by decide) (by decide) (by decide) ?_ ?_
  · show (12 : Nat) ≤ 12; decide
  refine am_vc_ok am_k75 [] 100 ?_
  refine am_vA am_k75 am_h75 rfl rfl rfl rfl (by decide) (by decide) (by decide) (by decide) ?_ ?_
  · show (12 : Nat) ≤ 12; decide
  refine am_vc_ok am_k75 [] 100 ?_
  refine am_vA am_k75 am_h75 rfl rfl rfl rfl (by decide) (by decide) (by decide) (by decide) ?_ ?_
  · show (12 : Nat) ≤ 12; decide
  refine am_vc_ok am_k75 [] 100 ?_
  refine am_vA am_k75 am_h75 rfl rfl rfl rfl (by decide) (by decide) (by decide) (by decide) ?_ ?_
  · show (12 : Nat) ≤ 12; decide
  rw [show Int32.toNatClampNeg 0 = 0 from rfl, show Int32.toNatClampNeg 12 = 12 from rfl]
  generalize hs0 : u3 (u3 σ 9 i 0 1) 9 i 1 (u3 σ 9 i 0 1 9 0 1) = s0
  generalize hs1 : cp3 (cp3 (cp3 (cp3 (cp3 (cp3 s0 32 i 32 0 0 0 12) 33 i 33 0 0 0 12) 34 i 34 0 0 0 12) 35 i 35 0 0 0 12) 36 i 36 0 0 0 12) 37 i 37 0 0 0 12 = s1
  have f0 : ∀ q, q ≠ 9 → s0 q = σ q := fun q hq => by rw [← hs0, u3_kk _ _ hq, u3_kk _ _ hq]
  have f0i : ∀ q j, j ≠ i → s0 q j = σ q j := fun q j hj => by rw [← hs0]; funext c; rw [u3_i _ _ hj, u3_i _ _ hj]
  have g1 : ∀ q, q ≠ 32 → q ≠ 33 → q ≠ 34 → q ≠ 35 → q ≠ 36 → q ≠ 37 → s1 q = s0 q := fun q a1 a2 a3 a4 a5 a6 => by rw [← hs1, cp3_kk a6, cp3_kk a5, cp3_kk a4, cp3_kk a3, cp3_kk a2, cp3_kk a1]
  have g1i : ∀ q j, j ≠ i → s1 q j = σ q j := fun q j hj => by rw [← hs1, cp3_ii hj, cp3_ii hj, cp3_ii hj, cp3_ii hj, cp3_ii hj, cp3_ii hj]; exact f0i q j hj
  have e9 : s1 9 = s0 9 := g1 9 (by decide) (by decide) (by decide) (by decide) (by decide) (by decide)
  have h90 : s1 9 i 0 = 1 := by rw [e9, ← hs0, u3_j _ _ (by decide), u3_eq]
  have h91 : s1 9 i 1 = nI (sN S) := by rw [e9, ← hs0, u3_eq, u3_i _ _ hi2]; exact h9
  have hX1 : XItems s1 i S := by
    intro k hk
    have h12 : k < 12 := by omega
    have z := hX k hk
    rw [← f0i 32 0 hi2, ← f0i 33 0 hi2, ← f0i 34 0 hi2, ← f0i 35 0 hi2, ← f0i 36 0 hi2, ← f0i 37 0 hi2] at z
    rw [← hs1]
    refine ⟨?_, ?_, ?_, ?_, ?_, ?_⟩
    · rw [cp3_kk (by decide), cp3_kk (by decide), cp3_kk (by decide), cp3_kk (by decide), cp3_kk (by decide), cp3_at h12]; exact z.1
    · rw [cp3_kk (by decide), cp3_kk (by decide), cp3_kk (by decide), cp3_kk (by decide), cp3_at h12, cp3_kk (by decide)]; exact z.2.1
    · rw [cp3_kk (by decide), cp3_kk (by decide), cp3_kk (by decide), cp3_at h12, cp3_kk (by decide), cp3_kk (by decide)]; exact z.2.2.1
    · rw [cp3_kk (by decide), cp3_kk (by decide), cp3_at h12, cp3_kk (by decide), cp3_kk (by decide), cp3_kk (by decide)]; exact z.2.2.2.1
    · rw [cp3_kk (by decide), cp3_at h12, cp3_kk (by decide), cp3_kk (by decide), cp3_kk (by decide), cp3_kk (by decide)]; exact z.2.2.2.2.1
    · rw [cp3_at h12, cp3_kk (by decide), cp3_kk (by decide), cp3_kk (by decide), cp3_kk (by decide), cp3_kk (by decide)]; exact z.2.2.2.2.2
  refine am_vc_ok am_k75 [] 100 ?_
  refine am_vOT am_k75 am_h75 rfl rfl rfl rfl (x_index hS h91 hX1) ?_
  rintro r s2 τ2 t2 ⟨rfl, rfl, rfl, hf, hI⟩
  refine am_vc_ok am_k75 [] 100 ?_
  refine am_vV am_k75 am_r75 rfl ⟨t2, rfl, rfl, rfl, rfl, rfl, rfl, ⟨fun q a1 a2 => ?_, fun q j hj => ?_⟩, ?_, ?_, ?_, hI⟩
  · rw [hf.1 q (by omega), g1 q (by omega) (by omega) (by omega) (by omega) (by omega) (by omega), f0 q a1]
  · by_cases e : q = 38
    · subst e
      rw [hf.2 j hj]
      exact g1i 38 j hj
    · rw [hf.1 q e]
      exact g1i q j hj
  · rw [hf.1 9 (by decide)]; exact h90
  · rw [hf.1 9 (by decide)]; exact h91
  · exact hX1.fr (Nat.le_refl _) (fun q k a b _ => by rw [hf.1 q (by omega)])
end L56

/-! CASES OF THE LAW: fault, shape -/
section L57
variable {l : Launch} {σ σ2 : tI} {τ τ2 : tL} {t : Option (Nat × Nat)} {x N p : Nat} {G : Nat → Int32}
theorem x_faultB {r : Int32} (hr : ¬ (0 ≤ r ∧ r < 6)) : am_D l 101 [aR 11 0, aI r] σ τ (rX t) cX lX (some (aI (-1))) σ τ (rX t) := by
  refine am_D_of am_o101 am_l101 rfl ?_
  refine am_vc_ok am_k101 [] 100 ?_
  refine am_vS am_k101 am_h101 rfl rfl rfl rfl (x_within) ?_
  refine am_vc_ok am_k101 [] 100 ?_
  refine And.intro (fun h => ?_) (fun h => ?_)
  · exact am_vI am_k101 am_r101 rfl ⟨rfl, rfl, rfl, rfl, rfl, rfl⟩
  · exact absurd (bI_1.mp h) hr
theorem x_fault_no (hx : x < 6) (h0 : σ 6 (10 + x) 0 = 0) : am_D l 101 [aR 11 0, aI (nI x)] σ τ (rX t) cX lX (some (aI (-3))) (xfind 1 σ) τ (rX t) := by
  refine am_D_of am_o101 am_l101 rfl ?_
  refine am_vc_ok am_k101 [] 100 ?_
  refine am_vS am_k101 am_h101 rfl rfl rfl rfl (x_within) ?_
  refine am_vc_ok am_k101 [] 100 ?_
  refine And.intro (fun g => absurd (in6 hx) (bI_0.mp g)) (fun _ => ?_)
  refine And.intro (vp_in_nI (N := 6) hx (by decide)) ?_
  rw [nI_clamp (n := x) (by omega)]
  refine And.intro (fun _ => ?_) (fun g => absurd h0 g)
  refine am_vO am_k101 am_h101 rfl rfl rfl rfl (x_find (w := 1) (by decide)) ?_
  refine am_vc_ok am_k101 [] 100 ?_
  exact am_vI am_k101 am_r101 rfl ⟨rfl, rfl, rfl, rfl, rfl, rfl⟩
theorem x_fault (hx : x < 6) (h0 : ¬ σ 6 (10 + x) 0 = 0) (h : K0 σ (10 + x) N G) (hB : ∀ j, j < N → isB (G j)) : am_T l 101 [aR 11 0, aI (nI x)] σ τ t (fun v s τ2 t2 => τ2 = τ ∧ t2 = some (6, 10 + x) ∧ faQ σ (pA (sgN G N) N S0 0) v s) := by
  refine am_T_of am_o101 am_l101 rfl ?_
  refine am_vc_ok am_k101 [] 100 ?_
  refine am_vS am_k101 am_h101 rfl rfl rfl rfl (x_within) ?_
  refine am_vc_ok am_k101 [] 100 ?_
  refine And.intro (fun g => absurd (in6 hx) (bI_0.mp g)) (fun _ => ?_)
  refine And.intro (vp_in_nI (N := 6) hx (by decide)) ?_
  rw [nI_clamp (n := x) (by omega)]
  refine And.intro (fun g => absurd g h0) (fun _ => ?_)
  refine And.intro (vp_in_nI (N := 6) hx (by decide)) ?_
  rw [nI_clamp (n := x) (by omega)]
  refine am_vOT am_k101 am_h101 rfl rfl rfl rfl (x_faultOf h hB) ?_
  rintro v s τ2 t2 ⟨rfl, rfl, hQ⟩
  obtain ⟨w, rfl⟩ : ∃ w : Int32, v = some (aI w) := by
    have := hQ.2
    cases e : pA (sgN G N) N S0 0 with
    | inl q => rw [e] at this; exact ⟨_, this⟩
    | inr S => rw [e] at this; exact ⟨_, this.1⟩
  refine am_vc_ok am_k101 [] 100 ?_
  exact am_vI am_k101 am_r101 rfl ⟨_, rfl, rfl, rfl, rfl, rfl, hQ⟩
theorem x_shapeB {s r : Int32} (hr : ¬ ((0 ≤ s ∧ s < 4) ∧ (0 ≤ r ∧ r < 6))) : am_D l 102 [aR 11 0, aI s, aI r] σ τ (rX t) cX lX (some (aI (-1))) σ τ (rX t) := by
  refine am_D_of am_o102 am_l102 rfl ?_
  refine am_vc_ok am_k102 [] 100 ?_
  refine am_vS am_k102 am_h102 rfl rfl rfl rfl (x_within) ?_
  refine am_vc_ok am_k102 [] 100 ?_
  refine And.intro (fun h => ?_) (fun h => ?_)
  · exact am_vI am_k102 am_r102 rfl ⟨rfl, rfl, rfl, rfl, rfl, rfl⟩
  · refine am_vS am_k102 am_h102 rfl rfl rfl rfl (x_within) ?_
    refine am_vc_ok am_k102 [] 100 ?_
    refine And.intro (fun g => ?_) (fun g => ?_)
    · exact am_vI am_k102 am_r102 rfl ⟨rfl, rfl, rfl, rfl, rfl, rfl⟩
    · exact absurd ⟨bI_1.mp h, bI_1.mp g⟩ hr
theorem x_shape_no {s : Nat} (hs : s < 4) (hx : x < 6) (h0 : σ 6 (10 + x) 0 = 0) : am_D l 102 [aR 11 0, aI (nI s), aI (nI x)] σ τ (rX t) cX lX (some (aI (-3))) (xfind 1 σ) τ (rX t) := by
  refine am_D_of am_o102 am_l102 rfl ?_
  refine am_vc_ok am_k102 [] 100 ?_
  refine am_vS am_k102 am_h102 rfl rfl rfl rfl (x_within) ?_
  refine am_vc_ok am_k102 [] 100 ?_
  refine And.intro (fun g => absurd (in4 hs) (bI_0.mp g)) (fun _ => ?_)
  refine am_vS am_k102 am_h102 rfl rfl rfl rfl (x_within) ?_
  refine am_vc_ok am_k102 [] 100 ?_
  refine And.intro (fun g => absurd (in6 hx) (bI_0.mp g)) (fun _ => ?_)
  refine And.intro (vp_in_nI (N := 6) hx (by decide)) ?_
  rw [nI_clamp (n := x) (by omega)]
  refine And.intro (fun _ => ?_) (fun g => absurd h0 g)
  refine am_vO am_k102 am_h102 rfl rfl rfl rfl (x_find (w := 1) (by decide)) ?_
  refine am_vc_ok am_k102 [] 100 ?_
  exact am_vI am_k102 am_r102 rfl ⟨rfl, rfl, rfl, rfl, rfl, rfl⟩
/-- what shape leaves in the class -/
def shQ (σ : tI) (i : Nat) (R : Nat ⊕ aSh) (v : Option am_V) (s2 : tI) : Prop := match R with
  | .inl _ => v = some (aI (-4)) ∧ scP σ s2
  | .inr S => v = some (aI (nI (sN S))) ∧ ShOK S ∧ (∃ s1, scP σ s1 ∧ bcf s1 s2 i) ∧ s2 9 i 0 = 1 ∧ s2 9 i 1 = nI (sN S) ∧ XItems s2 i S ∧ XIndex s2 i S
theorem x_shape {s : Nat} (hs : s < 4) (hx : x < 6) (h0 : ¬ σ 6 (10 + x) 0 = 0) (h : K0 σ (10 + x) N G) (hB : ∀ j, j < N → isB (G j)) : am_T l 102 [aR 11 0, aI (nI s), aI (nI x)] σ τ t (fun v s2 τ2 t2 => τ2 = τ ∧ t2 = some (6, 10 + x) ∧ shQ σ (1 + s) (pA (sgN G N) N S0 0) v s2) := by
  refine am_T_of am_o102 am_l102 rfl ?_
  refine am_vc_ok am_k102 [] 100 ?_
  refine am_vS am_k102 am_h102 rfl rfl rfl rfl (x_within) ?_
  refine am_vc_ok am_k102 [] 100 ?_
  refine And.intro (fun g => absurd (in4 hs) (bI_0.mp g)) (fun _ => ?_)
  refine am_vS am_k102 am_h102 rfl rfl rfl rfl (x_within) ?_
  refine am_vc_ok am_k102 [] 100 ?_
  refine And.intro (fun g => absurd (in6 hx) (bI_0.mp g)) (fun _ => ?_)
  refine And.intro (vp_in_nI (N := 6) hx (by decide)) ?_
  rw [nI_clamp (n := x) (by omega)]
  refine And.intro (fun g => absurd g h0) (fun _ => ?_)
  refine And.intro (vp_in_nI (N := 6) hx (by decide)) ?_
  rw [nI_clamp (n := x) (by omega)]
  refine am_vOT am_k102 am_h102 rfl rfl rfl rfl (x_faultOf h hB) ?_
  rintro v s1 τ2 t2 ⟨rfl, rfl, hsc, hQ⟩
  cases e : pA (sgN G N) N S0 0 with
  | inl q =>
    rw [e] at hQ
    have hQ : v = some (aI (nI q)) := hQ
    subst hQ
    have hq : q < 1000 := by
      have := pA_f (sg := sgN G N) (N := N) sgN_N (p := 0) (by omega) e
      have := h.2.1
      omega
    refine am_vc_ok am_k102 [] 100 ?_
    refine And.intro (fun z => absurd z (n9_4 hq)) (fun _ => ?_)
    exact am_vI am_k102 am_r102 rfl ⟨_, rfl, rfl, rfl, rfl, rfl, rfl, hsc⟩
  | inr S =>
    rw [e] at hQ
    obtain ⟨rfl, j1, j2, j3⟩ := hQ
    refine am_vc_ok am_k102 [] 100 ?_
    refine And.intro (fun _ => ?_) (fun z => absurd rfl z)
    refine And.intro (vp_in_nI (N := 4) hs (by decide)) ?_
    rw [nI_clamp (n := s) (by omega)]
    refine am_vOT am_k102 am_h102 rfl rfl rfl rfl (x_become (i := 1 + s) (by omega) j3 j1 j2) ?_
    rintro v s2 τ2 t2 ⟨rfl, rfl, rfl, hb, i1, i2, i3, i4⟩
    refine am_vc_ok am_k102 [] 100 ?_
    refine And.intro (vp_in_nI (N := 4) hs (by decide)) ?_
    rw [nI_clamp (n := s) (by omega)]
    refine am_vI am_k102 am_r102 rfl ⟨_, rfl, rfl, rfl, rfl, rfl, ?_, j3, ⟨s1, hsc, hb⟩, i1, i2, i3, i4⟩
    exact congrArg (fun x => some (aI x)) i2
theorem m_faultB {r : Int32} (hr : ¬ (0 ≤ r ∧ r ≤ 5)) : am_D l 179 [aR 12 0, aI r] σ τ (rX t) cX lX (some (aI (-1))) σ τ (rX t) := by
  refine am_D_of am_o179 am_l179 rfl ?_
  refine am_vc_ok am_k179 [] 100 ?_
  refine am_vO am_k179 am_h179 rfl rfl rfl rfl (m_askedText_bad hr) ?_
  refine am_vc_ok am_k179 [] 100 ?_
  refine And.intro (fun g => absurd g (by decide)) (fun _ => ?_)
  exact am_vI am_k179 am_r179 rfl ⟨rfl, rfl, rfl, rfl, rfl, rfl⟩
theorem m_fault_no (hx : x < 6) (h0 : σ 47 0 x < 0) : am_D l 179 [aR 12 0, aI (nI x)] σ τ (rX t) cX lX (some (aI (-3))) (mmeets 1 σ) τ (rX t) := by
  refine am_D_of am_o179 am_l179 rfl ?_
  refine am_vc_ok am_k179 [] 100 ?_
  refine am_vO am_k179 am_h179 rfl rfl rfl rfl (m_askedText hx) ?_
  refine am_vc_ok am_k179 [] 100 ?_
  simp only [if_pos h0]
  refine And.intro (fun g => absurd g (by decide)) (fun _ => ?_)
  exact am_vI am_k179 am_r179 rfl ⟨rfl, rfl, rfl, rfl, rfl, rfl⟩
theorem m_fault (h : M0 σ x N G) : am_T l 179 [aR 12 0, aI (nI x)] σ τ t (fun v s τ2 t2 => τ2 = τ ∧ t2 = t ∧ rsQ σ (pA (sgN G N) N S0 0) v s) := by
  have hx := h.2.2.1
  have h0 : ¬ σ 47 0 x < 0 := by rw [h.1]; exact nI_pos (by have := h.2.1; omega)
  refine am_T_of am_o179 am_l179 rfl ?_
  refine am_vc_ok am_k179 [] 100 ?_
  refine am_vO am_k179 am_h179 rfl rfl rfl rfl (m_askedText hx) ?_
  refine am_vc_ok am_k179 [] 100 ?_
  simp only [if_neg h0]
  refine And.intro (fun _ => ?_) (fun g => absurd (by decide) g)
  refine am_vOT am_k179 am_h179 rfl rfl rfl rfl (m_reads h) ?_
  rintro v s τ2 t2 ⟨rfl, rfl, hQ⟩
  obtain ⟨w, rfl⟩ : ∃ w : Int32, v = some (aI w) := by
    have := hQ.2
    cases e : pA (sgN G N) N S0 0 with
    | inl q => rw [e] at this; exact ⟨_, this⟩
    | inr S => rw [e] at this; exact ⟨_, this.1⟩
  refine am_vc_ok am_k179 [] 100 ?_
  exact am_vI am_k179 am_r179 rfl ⟨_, rfl, rfl, rfl, rfl, rfl, hQ⟩
theorem m_shapeB {s r : Int32} (hr : ¬ ((0 ≤ s ∧ s ≤ 3) ∧ (0 ≤ r ∧ r ≤ 5))) : am_D l 180 [aR 12 0, aI s, aI r] σ τ (rX t) cX lX (some (aI (-1))) σ τ (rX t) := by
  refine am_D_of am_o180 am_l180 rfl ?_
  refine am_vc_ok am_k180 [] 100 ?_
  refine am_vS am_k180 am_h180 rfl rfl rfl rfl (m_isShape) ?_
  refine am_vc_ok am_k180 [] 100 ?_
  refine And.intro (fun h => ?_) (fun h => ?_)
  · exact am_vI am_k180 am_r180 rfl ⟨rfl, rfl, rfl, rfl, rfl, rfl⟩
  · refine am_vS am_k180 am_h180 rfl rfl rfl rfl (m_isSix) ?_
    refine am_vc_ok am_k180 [] 100 ?_
    refine And.intro (fun g => ?_) (fun g => ?_)
    · exact am_vI am_k180 am_r180 rfl ⟨rfl, rfl, rfl, rfl, rfl, rfl⟩
    · exact absurd ⟨bI_1.mp h, bI_1.mp g⟩ hr
theorem m_shape_no {s : Nat} (hs : s < 4) (hx : x < 6) (h0 : σ 47 0 x < 0) : am_D l 180 [aR 12 0, aI (nI s), aI (nI x)] σ τ (rX t) cX lX (some (aI (-3))) (mmeets 1 σ) τ (rX t) := by
  refine am_D_of am_o180 am_l180 rfl ?_
  refine am_vc_ok am_k180 [] 100 ?_
  refine am_vS am_k180 am_h180 rfl rfl rfl rfl (m_isShape) ?_
  refine am_vc_ok am_k180 [] 100 ?_
  refine And.intro (fun g => absurd (in3 hs) (bI_0.mp g)) (fun _ => ?_)
  refine am_vS am_k180 am_h180 rfl rfl rfl rfl (m_isSix) ?_
  refine am_vc_ok am_k180 [] 100 ?_
  refine And.intro (fun g => absurd (in5 hx) (bI_0.mp g)) (fun _ => ?_)
  refine And.intro (vp_in_nI (N := 6) hx (by decide)) ?_
  rw [nI_clamp (n := x) (by omega)]
  refine And.intro (fun g => absurd h0 (Int32.not_lt.mpr g)) (fun _ => ?_)
  refine am_vO am_k180 am_h180 rfl rfl rfl rfl (m_meets (w := 1) (by decide)) ?_
  refine am_vc_ok am_k180 [] 100 ?_
  exact am_vI am_k180 am_r180 rfl ⟨rfl, rfl, rfl, rfl, rfl, rfl⟩
theorem m_sh_lp {Q : tQ} {s : Nat} (hs : s < 4) {xx : Int32} (K : am_G l 180 Q 0 0 85 [(3, aI (nI 72)), (0, aR 12 0), (1, aI (nI s)), (2, aI xx)] [] (cp3 σ 50 0 51 0 0 (72 * s) 72) τ (rX t) cX lX) : ∀ (d k : Nat), k + d = 72 → am_G l 180 Q 0 0 56 [(3, aI (nI k)), (0, aR 12 0), (1, aI (nI s)), (2, aI xx)] [] (cp3 σ 50 0 51 0 0 (72 * s) k) τ (rX t) cX lX
  | 0, k, h => by
    obtain rfl : k = 72 := by omega
    refine am_vc_ok am_k180 [56, 85] 100 ?_
    exact And.intro (fun _ => K) (fun h1 => absurd (show (72 : Int32) ≤ nI 72 by decide) h1)
  | d + 1, k, h => by
    have K2 := m_sh_lp hs K d (k + 1) (by omega)
    have ei : 72 * nI s + nI k = nI (72 * s + k) := by rw [show (72 : Int32) = nI 72 from rfl, pk_mul, nI_add]
    have e := cp3_1 (σ := σ) (k1 := 50) (o1 := 0) (k0 := 51) (o0 := 0) (sp := 0) (dp := 72 * s) (n := k)
    rw [Nat.zero_add] at e
    have e2 : cp3 σ 50 0 51 0 0 (72 * s) k 51 0 k = σ 51 0 k := by rw [cp3_kk (by decide)]
    refine am_vc_ok am_k180 [56, 85] 100 ?_
    refine And.intro (fun h1 => absurd h1 (nI_ge (b := 72) (by omega) (by decide))) (fun _ => ?_)
    refine And.intro (vp_in_nI (N := 72) (by omega) (by decide)) ?_
    rw [nI_clamp (n := k) (by omega), e2]
    refine And.intro (by rw [ei]; exact vp_in_nI (N := 288) (by omega) (by decide)) ?_
    rw [ei, nI_clamp (n := 72 * s + k) (by omega), e]
    rw [← nI_1 k] at K2
    exact K2
/-- what shape leaves in the model -/
def mhQ (σ : tI) (s : Nat) (R : Nat ⊕ aSh) (v : Option am_V) (s2 : tI) : Prop := match R with
  | .inl _ => v = some (aI (-4)) ∧ rdF σ s2
  | .inr S => v = some (aI (nI (sN S))) ∧ ∃ s1, rdF σ s1 ∧ RP s1 S ∧ s2 = cp3 (u3 s1 49 0 s (nI (sN S))) 50 0 51 0 0 (72 * s) 72
theorem m_shape {s : Nat} (hs : s < 4) (h : M0 σ x N G) : am_T l 180 [aR 12 0, aI (nI s), aI (nI x)] σ τ t (fun v s2 τ2 t2 => τ2 = τ ∧ t2 = t ∧ mhQ σ s (pA (sgN G N) N S0 0) v s2) := by
  have hx := h.2.2.1
  have h0 : ¬ σ 47 0 x < 0 := by rw [h.1]; exact nI_pos (by have := h.2.1; omega)
  refine am_T_of am_o180 am_l180 rfl ?_
  refine am_vc_ok am_k180 [56] 100 ?_
  refine am_vS am_k180 am_h180 rfl rfl rfl rfl (m_isShape) ?_
  refine am_vc_ok am_k180 [56] 100 ?_
  refine And.intro (fun g => absurd (in3 hs) (bI_0.mp g)) (fun _ => ?_)
  refine am_vS am_k180 am_h180 rfl rfl rfl rfl (m_isSix) ?_
  refine am_vc_ok am_k180 [56] 100 ?_
  refine And.intro (fun g => absurd (in5 hx) (bI_0.mp g)) (fun _ => ?_)
  refine And.intro (vp_in_nI (N := 6) hx (by decide)) ?_
  rw [nI_clamp (n := x) (by omega)]
  refine And.intro (fun _ => ?_) (fun g => absurd (Int32.not_lt.mp h0) g)
  refine am_vOT am_k180 am_h180 rfl rfl rfl rfl (m_reads h) ?_
  rintro v s1 τ2 t2 ⟨rfl, rfl, hsc, hQ⟩
  cases e : pA (sgN G N) N S0 0 with
  | inl q =>
    rw [e] at hQ
    have hQ : v = some (aI (nI q)) := hQ
    subst hQ
    have hq : q < 1000 := by
      have := pA_f (sg := sgN G N) (N := N) sgN_N (p := 0) (by omega) e
      have := h.2.1
      omega
    refine am_vc_ok am_k180 [56] 100 ?_
    refine And.intro (fun z => absurd z (n9_4 hq)) (fun _ => ?_)
    exact am_vI am_k180 am_r180 rfl ⟨_, rfl, rfl, rfl, rfl, rfl, rfl, hsc⟩
  | inr S =>
    rw [e] at hQ
    obtain ⟨rfl, j1, j2, j3⟩ := hQ
    refine am_vc_ok am_k180 [56] 100 ?_
    refine And.intro (fun _ => ?_) (fun z => absurd rfl z)
    refine And.intro (vp_in_nI (N := 4) hs (by decide)) ?_
    rw [nI_clamp (n := s) (by omega), j1]
    refine am_Gs (σ2 := cp3 (u3 s1 49 0 s (nI (sN S))) 50 0 51 0 0 (72 * s) 0) cp3_0.symm ?_
    refine am_Gp (ls2 := [(3, aI (nI 0)), (0, aR 12 0), (1, aI (nI s)), (2, aI (nI x))]) [0, 1, 2, 3] rfl ?_
    refine m_sh_lp hs ?_ 72 0 (by omega)
    refine am_vc_ok am_k180 [] 100 ?_
    refine am_vI am_k180 am_r180 rfl ⟨_, rfl, rfl, rfl, rfl, rfl, ?_, s1, hsc, j2, rfl⟩
    refine congrArg (fun x => some (aI x)) ?_
    rw [cp3_kk (by decide), u3_k _ _ (by decide)]
    exact j1
theorem Rall.scan (h : Rall σ τ) {s s2 : tI} (hs : scP σ s) (hr : rdF s s2) : Rall s2 τ := by
  have g : ∀ q, q ≠ 7 ∧ q ≠ 9 ∧ ¬ (32 ≤ q ∧ q ≤ 37) ∧ q ≠ 12 ∧ q ≠ 51 → s2 q = σ q := fun q ⟨a1, a2, a3, a4, a5⟩ => (hr.1 q a4 a5).trans (hs.1 q a1 a2 a3)
  refine h.scr (fun q hq => g q ?_) (fun j _ => by rw [g 4 (by decide)]) (fun i _ _ _ => by rw [g 6 (by decide)]) (fun i _ _ _ => by rw [g 30 (by decide)]) (fun k s hk => ?_) (fun j hj => ?_)
  · refine ⟨?_, ?_, ?_, ?_, ?_⟩
    · rintro rfl; exact absurd hq (by decide)
    · rintro rfl; exact absurd hq (by decide)
    · intro z
      have : ∀ q, q < 38 → 32 ≤ q → scK q = true := by decide
      rw [this q (by omega) z.1] at hq
      cases hq
    · rintro rfl; exact absurd hq (by decide)
    · rintro rfl; exact absurd hq (by decide)
  · rw [hr.1 k (by omega) (by omega)]
    exact hs.2 k (1 + s) (by omega) (by omega)
  · rw [hr.2 j (by rintro rfl; exact absurd hj (by decide)) (by rintro rfl; exact absurd hj (by decide)), hs.1 12 (by decide) (by decide) (by decide)]
theorem LC_fault (h : Rall σ τ) (r : Int32) : LC l 101 179 [aI r] σ τ t := by
  by_cases hr : 0 ≤ r ∧ r < 6
  · obtain ⟨x, hx, rfl⟩ := ix_lt (n := 6) (by decide) hr
    obtain ⟨⟨n, hn, hd1, hc⟩, hB⟩ := h.2.1 x hx
    rcases hc with ⟨h0, hs⟩ | ⟨h0, hs, hp⟩
    · refine LC.of (x_fault_no hx h0) (m_fault_no hx ?_) (h.find (by decide))
      simp [u3, hs]
    · have h01 : ¬ σ 6 (10 + x) 0 = 0 := by rw [h0]; decide
      have hK : K0 σ (10 + x) n (σ 30 (10 + x)) := ⟨hd1, hn, by omega, rfl⟩
      have hB2 : ∀ j, j < n → isB (σ 30 (10 + x) j) := fun j hj => hB j (by omega) (by rw [hs]; exact m9 (by omega)) (by rw [hs]; exact nI_lt hj (by omega))
      refine am_T.mono (x_fault hx h01 hK hB2) ?_
      rintro v s τ2 t2 ⟨rfl, rfl, hsc, hQ⟩
      have hM : M0 s x n (σ 30 (10 + x)) := ⟨by rw [hsc.1 47 (by decide) (by decide) (by decide)]; exact hs, hn, hx, fun j hj => by rw [hsc.1 48 (by decide) (by decide) (by decide)]; exact (hp j hj).symm⟩
      refine ⟨?_, am_T.mono (m_fault hM) ?_⟩
      · cases e : pA (sgN (σ 30 (10 + x)) n) n S0 0 with
        | inl q => rw [e] at hQ; rw [show v = some (aI (nI q)) from hQ]; rfl
        | inr S => rw [e] at hQ; rw [hQ.1]; rfl
      · rintro v2 s2 τ3 t3 ⟨rfl, rfl, hrd, hQ2⟩
        refine ⟨?_, h.scan hsc hrd⟩
        cases e : pA (sgN (σ 30 (10 + x)) n) n S0 0 with
        | inl q => rw [e] at hQ hQ2; exact (show v2 = some (aI (nI q)) from hQ2).trans (show v = some (aI (nI q)) from hQ).symm
        | inr S => rw [e] at hQ hQ2; exact hQ2.1.trans hQ.1.symm
  · exact LC.of (x_faultB hr) (m_faultB (not6 hr)) h
theorem Rshape.fr3 {s2 : tI} {s : Nat} {S : aSh} (h : Rshape σ s S) (h9 : ∀ k, k = 9 ∨ (32 ≤ k ∧ k ≤ 38) → s2 k (1 + s) = σ k (1 + s)) (h49 : s2 49 0 s = σ 49 0 s) (h50 : ∀ j, j < 72 → s2 50 0 (72 * s + j) = σ 50 0 (72 * s + j)) : Rshape s2 s S := by
  have s12 := h.1.1
  unfold Rshape XItems XIndex at h ⊢
  rw [h9 9 (by decide), h9 32 (by decide), h9 33 (by decide), h9 34 (by decide), h9 35 (by decide), h9 36 (by decide), h9 37 (by decide), h9 38 (by decide), h49]
  obtain ⟨a1, a2, a3, a4, a5, a6, a7⟩ := h
  refine ⟨a1, a2, a3, a4, a5, a6, fun k w hk hw => ?_⟩
  rw [show 72 * s + 6 * k + w = 72 * s + (6 * k + w) by omega, h50 _ (by omega), show 72 * s + (6 * k + w) = 72 * s + 6 * k + w by omega]
  exact a7 k w hk hw
/-- a shape is another one -/
theorem Rall.shp (h : Rall σ τ) {s s1 s2 s3 s4 : tI} {i : Nat} {S : aSh} (hi : i < 4) (hs : scP σ s1) (hb : bcf s1 s2 (1 + i)) (hr : rdF s2 s3) (e : s4 = cp3 (u3 s3 49 0 i (nI (sN S))) 50 0 51 0 0 (72 * i) 72) (hS : ShOK S) (c0 : s2 9 (1 + i) 0 = 1) (c1 : s2 9 (1 + i) 1 = nI (sN S)) (c2 : XItems s2 (1 + i) S) (c3 : XIndex s2 (1 + i) S) (c4 : RP s3 S) : Rall s4 τ := by
  have s12 := hS.1
  have k4 : ∀ q, q ≠ 49 → q ≠ 50 → s4 q = s3 q := fun q a1 a2 => by rw [e, cp3_kk a2, u3_kk _ _ a1]
  have g : ∀ q, q ≠ 7 ∧ q ≠ 9 ∧ ¬ (32 ≤ q ∧ q ≤ 38) ∧ q ≠ 12 ∧ q ≠ 51 ∧ q ≠ 49 ∧ q ≠ 50 → s4 q = σ q := fun q ⟨a1, a2, a3, a4, a5, a6, a7⟩ => by
    rw [k4 q a6 a7, hr.1 q a4 a5, hb.1 q a2 a3, hs.1 q a1 a2 (by omega)]
  have gi : ∀ q, (q = 9 ∨ (32 ≤ q ∧ q ≤ 38)) → s4 q = s2 q := fun q hq => by rw [k4 q (by omega) (by omega), hr.1 q (by omega) (by omega)]
  have gj : ∀ q j, (q = 9 ∨ (32 ≤ q ∧ q ≤ 38)) → j ≠ 0 → j ≠ 1 + i → s4 q j = σ q j := fun q j hq h1 h2 => by
    rw [gi q hq, hb.2 q j h2]
    exact hs.2 q j (by omega) h1
  have e49 : s4 49 0 i = nI (sN S) := by rw [e, cp3_kk (by decide), u3_eq]
  have f49 : ∀ j, j ≠ i → s4 49 0 j = σ 49 0 j := fun j hj => by rw [e, cp3_kk (by decide), u3_j _ _ hj, hr.1 49 (by decide) (by decide), hb.1 49 (by decide) (by decide), hs.1 49 (by decide) (by decide) (by decide)]
  have e50 : ∀ j, j < 72 → s4 50 0 (72 * i + j) = s3 51 0 j := fun j hj => by
    rw [e]
    show (if 72 * i ≤ 72 * i + j ∧ 72 * i + j < 72 * i + 72 then u3 s3 49 0 i (nI (sN S)) 51 0 (0 + (72 * i + j - 72 * i)) else _) = _
    rw [if_pos (by omega), u3_k _ _ (by decide), show 0 + (72 * i + j - 72 * i) = j by omega]
  have f50 : ∀ j, (j < 72 * i ∨ 72 * i + 72 ≤ j) → s4 50 0 j = σ 50 0 j := fun j hj => by
    rw [e]
    show (if 72 * i ≤ j ∧ j < 72 * i + 72 then _ else u3 s3 49 0 i (nI (sN S)) 50 0 j) = _
    rw [if_neg (by omega), u3_k _ _ (by decide), hr.1 50 (by decide) (by decide), hb.1 50 (by decide) (by decide), hs.1 50 (by decide) (by decide) (by decide)]
  have g12 : ∀ j, scj j = false → s4 12 0 j = σ 12 0 j := fun j hj => by
    rw [k4 12 (by decide) (by decide), hr.2 j (by rintro rfl; exact absurd hj (by decide)) (by rintro rfl; exact absurd hj (by decide)), hb.1 12 (by decide) (by decide), hs.1 12 (by decide) (by decide) (by decide)]
  obtain ⟨z1, z2, z3, z4, z5, z6, T, n, m, lo, kk, z7⟩ := h
  refine ⟨z1.fr (fun r _ => by rw [g 6 (by decide)]) (fun r _ => by rw [g 30 (by decide)]) (g 44 (by decide)) (g 45 (by decide)), z2.fr (fun r _ => by rw [g 6 (by decide)]) (fun r _ => by rw [g 30 (by decide)]) (g 47 (by decide)) (g 48 (by decide)), fun s' hs' => ?_, z4.fr (g 4 (by decide)) (g 55 (by decide)) (g 56 (by decide)) (by rw [g 6 (by decide)]) (by rw [g 30 (by decide)]) (g12 24 rfl), z5.fr (fun a _ => by rw [g 8 (by decide)]; exact ⟨rfl, rfl⟩) (g 57 (by decide)) (g 58 (by decide)) (g 31 (by decide)) (g 59 (by decide)) (fun s' _ z => ?_), ?_, T, n, m, lo, kk, z7.fr (fun k z => g k ?_) (fun j z => g12 j ?_) (fun a j _ _ => by rw [g 8 (by decide)])⟩
  · by_cases es : s' = i
    · subst es
      refine Or.inr ⟨S, hS, ?_, ?_, e49, ?_, ?_, fun k w hk hw => ?_⟩
      · rw [gi 9 (by decide)]; exact c0
      · rw [gi 9 (by decide)]; exact c1
      · unfold XItems; rw [gi 32 (by decide), gi 33 (by decide), gi 34 (by decide), gi 35 (by decide), gi 36 (by decide), gi 37 (by decide)]; exact c2
      · unfold XIndex; rw [gi 38 (by decide)]; exact c3
      · rw [show 72 * s' + 6 * k + w = 72 * s' + (6 * k + w) by omega, e50 _ (by omega)]
        exact c4 k w hk hw
    · rcases z3 s' hs' with ⟨y1, y2⟩ | ⟨S', hS'⟩
      · exact Or.inl ⟨by rw [gj 9 (1 + s') (by decide) (by omega) (by omega)]; exact y1, by rw [f49 s' es]; exact y2⟩
      · exact Or.inr ⟨S', hS'.fr3 (fun k hk => gj k (1 + s') hk (by omega) (by omega)) (f49 s' es) (fun j hj => f50 _ (by omega))⟩
  · by_cases es : s' = i
    · subst es
      rw [e49]
      exact m9 (by omega)
    · rw [f49 s' es]; exact z
  · unfold Rmisc at z6 ⊢
    rw [g 11 (by decide), g12 2 rfl]
    exact z6
  · simp only [kNet, Bool.or_eq_true, Bool.and_eq_true, Nat.ble_eq] at z
    omega
  · cases hc : scj j with
    | false => rfl
    | true =>
      exfalso
      simp only [scj, jNet, Bool.or_eq_true, Nat.beq_eq] at hc z
      omega
theorem LC_shape (h : Rall σ τ) (s r : Int32) : LC l 102 180 [aI s, aI r] σ τ t := by
  by_cases hc : (0 ≤ s ∧ s < 4) ∧ (0 ≤ r ∧ r < 6)
  · obtain ⟨hs, hr⟩ := hc
    obtain ⟨i, hi, rfl⟩ := ix_lt (n := 4) (by decide) hs
    obtain ⟨x, hx, rfl⟩ := ix_lt (n := 6) (by decide) hr
    obtain ⟨⟨n, hn, hd1, hc⟩, hB⟩ := h.2.1 x hx
    rcases hc with ⟨h0, hs⟩ | ⟨h0, hs, hp⟩
    · refine LC.of (x_shape_no hi hx h0) (m_shape_no hi hx ?_) (h.find (by decide))
      simp [u3, hs]
    · have h01 : ¬ σ 6 (10 + x) 0 = 0 := by rw [h0]; decide
      have hK : K0 σ (10 + x) n (σ 30 (10 + x)) := ⟨hd1, hn, by omega, rfl⟩
      have hB2 : ∀ j, j < n → isB (σ 30 (10 + x) j) := fun j hj => hB j (by omega) (by rw [hs]; exact m9 (by omega)) (by rw [hs]; exact nI_lt hj (by omega))
      refine am_T.mono (x_shape hi hx h01 hK hB2) ?_
      rintro v s2 τ2 t2 ⟨rfl, rfl, hQ⟩
      cases e : pA (sgN (σ 30 (10 + x)) n) n S0 0 with
      | inl q =>
        rw [e] at hQ
        obtain ⟨rfl, hsc⟩ := hQ
        have hM : M0 s2 x n (σ 30 (10 + x)) := ⟨by rw [hsc.1 47 (by decide) (by decide) (by decide)]; exact hs, hn, hx, fun j hj => by rw [hsc.1 48 (by decide) (by decide) (by decide)]; exact (hp j hj).symm⟩
        refine ⟨rfl, am_T.mono (m_shape hi hM) ?_⟩
        rintro v2 s3 τ3 t3 ⟨rfl, rfl, hQ2⟩
        rw [e] at hQ2
        exact ⟨hQ2.1, h.scan hsc hQ2.2⟩
      | inr S =>
        rw [e] at hQ
        obtain ⟨rfl, hS, ⟨s1, hsc, hb⟩, c0, c1, c2, c3⟩ := hQ
        have hM : M0 s2 x n (σ 30 (10 + x)) := ⟨by rw [hb.1 47 (by decide) (by decide), hsc.1 47 (by decide) (by decide) (by decide)]; exact hs, hn, hx, fun j hj => by rw [hb.1 48 (by decide) (by decide), hsc.1 48 (by decide) (by decide) (by decide)]; exact (hp j hj).symm⟩
        refine ⟨rfl, am_T.mono (m_shape hi hM) ?_⟩
        rintro v2 s4 τ3 t3 ⟨rfl, rfl, hQ2⟩
        rw [e] at hQ2
        obtain ⟨rfl, s3, hrd, hRP, e4⟩ := hQ2
        exact ⟨rfl, h.shp (s := σ) hi hsc hb hrd e4 hS c0 c1 c2 c3 hRP⟩
  · refine LC.of (x_shapeB hc) (m_shapeB ?_) h
    rintro ⟨z1, z2⟩
    obtain ⟨j, hj, rfl⟩ := ix_le (n := 4) (by decide) z1
    obtain ⟨k, hk, rfl⟩ := ix_le (n := 6) (by decide) z2
    exact hc ⟨in4 hj, in6 hk⟩
end L57

/-! writing: one pure writer; the class's Writing -/
section L58
abbrev i2b (v : Int32) : Int32 := v.toInt8.toInt32
abbrev wO : Type := Nat × (Nat → Int32)
def wps (o : wO) (v : Int32) : wO := (o.1 + 1, pshF o.2 o.1 v)
def hiI (S : aSh) (i : Nat) : Int32 := if sSo S i = 0 then 255 else if sSo S i = 1 then 65535 else if sSo S i = 2 then 9 else nI (sCh S i) - 1
def wrM (g : Nat → Int32) (M : Nat) : Nat → Nat → wO → Option (Nat × wO)
  | 0, nx, o => some (nx, o)
  | k + 1, nx, o => if nx < M ∧ 0 ≤ g nx ∧ g nx ≤ 255 then wrM g M k (nx + 1) (wps o (i2b (g nx))) else none
/-- what stands ahead of a row's own bytes -/
def wrH (S : aSh) (i : Nat) (x : Int32) (o : wO) : wO := wps (if sSo S i = 1 then wps (wps o (nI (16 * sSo S i + sNm S i))) (i2b (x >>> 8)) else wps o (nI (16 * sSo S i + sNm S i))) (i2b x)
def wrF (S : aSh) (g : Nat → Int32) (M i nx : Nat) (o : wO) : Option (Nat × wO) := if nx < M ∧ 0 ≤ g nx ∧ g nx ≤ hiI S i then (if sSo S i = 2 then wrM g M (g nx).toNatClampNeg (nx + 1) (wrH S i (g nx) o) else some (nx + 1, wrH S i (g nx) o)) else none
def wrP (S : aSh) (v : Nat) (g : Nat → Int32) (M : Nat) : Nat → Nat → Nat → wO → Option wO
  | 0, _, nx, o => if nx = M then some o else none
  | d + 1, i, nx, o => if sSi S i ≤ v ∧ v ≤ sTi S i then (match wrF S g M i nx o with
    | none => none
    | some p => wrP S v g M d (i + 1) p.1 p.2) else wrP S v g M d (i + 1) nx o
theorem wrM_len {g : Nat → Int32} {M : Nat} : ∀ (k nx nx2 : Nat) (o o2 : wO), nx ≤ M → wrM g M k nx o = some (nx2, o2) → nx2 = nx + k ∧ o2.1 = o.1 + k ∧ nx2 ≤ M
  | 0, nx, nx2, o, o2, h, e => by cases e; exact ⟨rfl, rfl, h⟩
  | k + 1, nx, nx2, o, o2, h, e => by
    unfold wrM at e
    split at e
    · rename_i hc
      obtain ⟨h1, h2, h3⟩ := wrM_len k (nx + 1) nx2 _ o2 (by omega) e
      exact ⟨by omega, by rw [h2]; show o.1 + 1 + k = _; omega, h3⟩
    · cases e
theorem wrM_no {g : Nat → Int32} {M : Nat} : ∀ (k nx : Nat) (o : wO), nx ≤ M → M < nx + k → wrM g M k nx o = none
  | 0, nx, o, h, h2 => by omega
  | k + 1, nx, o, h, h2 => by
    unfold wrM
    split
    · rename_i hc
      exact wrM_no k (nx + 1) _ (by omega) (by omega)
    · rfl
theorem wrH_len {S : aSh} {i : Nat} {x : Int32} {o : wO} : (wrH S i x o).1 ≤ o.1 + 3 ∧ (sSo S i = 2 → (wrH S i x o).1 = o.1 + 2) := by
  unfold wrH
  split
  · exact ⟨Nat.le_refl _, fun z => by omega⟩
  · exact ⟨by show o.1 + 1 + 1 ≤ _; omega, fun _ => rfl⟩
theorem hi9 {S : aSh} {i : Nat} {x : Int32} (h2 : sSo S i = 2) (h : 0 ≤ x ∧ x ≤ hiI S i) : ∃ k, k ≤ 9 ∧ x = nI k := by
  unfold hiI at h
  rw [if_neg (by omega), if_neg (by omega), if_pos h2] at h
  obtain ⟨k, hk, rfl⟩ := ix_le (n := 10) (by decide) h
  exact ⟨k, by omega, rfl⟩
theorem wrF_len {S : aSh} {g : Nat → Int32} {M i nx nx2 : Nat} {o o2 : wO} (e : wrF S g M i nx o = some (nx2, o2)) : o2.1 ≤ o.1 + 11 ∧ nx2 ≤ M := by
  unfold wrF at e
  split at e
  · rename_i hc
    have hl := wrH_len (S := S) (i := i) (x := g nx) (o := o)
    split at e
    · rename_i h2
      obtain ⟨k, hk, hk2⟩ := hi9 h2 hc.2
      rw [hk2, nI_clamp (by omega)] at e
      obtain ⟨-, e2, e3⟩ := wrM_len _ _ _ _ _ (by omega) e
      have := hl.2 h2
      rw [hk2] at this
      exact ⟨by rw [e2, this]; omega, e3⟩
    · cases e
      exact ⟨by have := hl.1; omega, by omega⟩
  · cases e
end L58
section L59
variable {l : Launch} {σ σ2 : tI} {τ τ2 : tL} {t : Option (Nat × Nat)}
/-- only what is written with has changed -/
def wxF (σ s : tI) : Prop := (∀ q, q ≠ 6 → q ≠ 10 → q ≠ 30 → s q = σ q) ∧ ∀ q i, q ≠ 10 → i ≠ 0 → s q i = σ q i
theorem wxF.refl : wxF σ σ := ⟨fun _ _ _ _ => rfl, fun _ _ _ _ => rfl⟩
theorem wxF.tr {s s2 : tI} (h : wxF σ s) (h2 : wxF s s2) : wxF σ s2 := ⟨fun q a b c => (h2.1 q a b c).trans (h.1 q a b c), fun q i a b => (h2.2 q i a b).trans (h.2 q i a b)⟩
theorem wxF.u {s : tI} {q j : Nat} {v : Int32} (h : wxF σ s) (hq : q = 6 ∨ q = 10 ∨ q = 30) : wxF σ (u3 s q 0 j v) := by
  refine ⟨fun k a b c => by rw [u3_kk _ _ (by omega)]; exact h.1 k a b c, fun k i a b => ?_⟩
  rw [← h.2 k i a b]
  funext x
  rw [u3_i _ _ b]
def wI (s : tI) (nx : Nat) (o : wO) : Prop := s 10 0 1 = nI nx ∧ s 6 0 1 = nI o.1 ∧ ∀ j, j < o.1 → s 30 0 j = o.2 j
theorem wI.ps {s : tI} {nx : Nat} {o : wO} {v : Int32} (h : wI s nx o) : wI (u3 (u3 s 30 0 o.1 v) 6 0 1 (nI (o.1 + 1))) nx (wps o v) := by
  obtain ⟨h1, h2, h3⟩ := h
  refine ⟨by rw [u3_k _ _ (by decide), u3_k _ _ (by decide)]; exact h1, u3_eq _ _ _ _ _, fun j hj => ?_⟩
  have hj : j < o.1 + 1 := hj
  rw [u3_k _ _ (by decide)]
  show _ = pshF o.2 o.1 v j
  unfold pshF
  by_cases e : j = o.1
  · rw [if_pos e, e, u3_eq]
  · rw [if_neg e, u3_j _ _ e]
    exact h3 j (by omega)
theorem wI.nx {s : tI} {nx : Nat} {o : wO} (h : wI s nx o) : wI (u3 s 10 0 1 (s 10 0 1 + 1)) (nx + 1) o :=
  ⟨by rw [u3_eq, h.1, nI_1], by rw [u3_k _ _ (by decide)]; exact h.2.1, fun j hj => by rw [u3_k _ _ (by decide)]; exact h.2.2 j hj⟩
/-- Row.add of the bytes -/
theorem x_wadd {s : tI} {nx : Nat} {o : wO} {v : Int32} (h : wI s nx o) (ho : o.1 < 132) : am_D l 59 [aR 6 0, aI v] s τ (rX t) cX lX none (u3 (u3 s 30 0 o.1 v) 6 0 1 (nI (o.1 + 1))) τ (rX t) := x_add h.2.1 (show o.1 < 132 from ho) (by decide)
/-- the row that is written -/
def W0 (σ : tI) (r M : Nat) (g : Nat → Int32) : Prop := σ 6 r 1 = nI M ∧ M ≤ 60 ∧ 2 ≤ r ∧ σ 30 r = g
theorem W0.fr {s : tI} {r M : Nat} {g : Nat → Int32} (h : W0 σ r M g) (hs : wxF σ s) : W0 s r M g := by
  obtain ⟨h1, h2, h3, h4⟩ := h
  exact ⟨by rw [hs.2 6 r (by decide) (by omega)]; exact h1, h2, h3, by rw [hs.2 30 r (by decide) (by omega)]; exact h4⟩
def wmQ (σ : tI) (R : Option (Nat × wO)) (v : Option am_V) (s : tI) : Prop := wxF σ s ∧ match R with
  | none => v = some (aI 3) ∨ v = some (aI 5)
  | some p => v = some (aI (-9)) ∧ wI s p.1 p.2
variable {r M : Nat} {g : Nat → Int32}
theorem x_wm_lp {Q : tQ} {m : Nat} (hm : m ≤ 9) (h : W0 σ r M g) {R : Option (Nat × wO)} (hQ : ∀ v s, wmQ σ R v s → Q v s τ (rX t) cX lX) : ∀ (d k nx : Nat) (o : wO) (s : tI), k + d = m → nx + d ≤ M → o.1 + d ≤ 132 → wrM g M d nx o = R → wxF σ s → wI s nx o → am_G l 90 Q 0 0 17 [(3, aI (nI k)), (0, aR 10 0), (1, aI (nI m)), (2, aR 6 r)] [] s τ (rX t) cX lX
  | 0, k, nx, o, s, hk, h1, h2, hR, hf, hI => by
    obtain rfl : k = m := by omega
    refine am_vc_ok am_k90 [17] 100 ?_
    refine And.intro (fun _ => ?_) (fun z => absurd (nI_le (Nat.le_refl _) (by omega)) z)
    refine am_vI am_k90 am_r90 rfl (hQ _ _ ⟨hf, ?_⟩)
    rw [← hR]
    exact ⟨rfl, hI⟩
  | d + 1, k, nx, o, s, hk, h1, h2, hR, hf, hI => by
    have hW := h.fr hf
    have hM := h.2.1
    have e10 := hI.1
    have no : ¬ (0 ≤ g nx ∧ g nx ≤ 255) → R = none := by
      intro z
      rw [← hR]
      unfold wrM
      exact if_neg (fun y => z y.2)
    have K2 : 0 ≤ g nx ∧ g nx ≤ 255 → am_G l 90 Q 0 0 17 [(3, aI (nI k + 1)), (0, aR 10 0), (1, aI (nI m)), (2, aR 6 r)] [] (u3 (u3 (u3 s 10 0 1 (s 10 0 1 + 1)) 30 0 o.1 (i2b (g nx))) 6 0 1 (nI (o.1 + 1))) τ (rX t) cX lX := by
      intro z
      rw [show nI k + 1 = nI (k + 1) from nI_1 k]
      refine x_wm_lp hm h hQ d (k + 1) (nx + 1) (wps o (i2b (g nx))) _ (by omega) (by omega) (by show o.1 + 1 + d ≤ 132; omega) ?_ ?_ hI.nx.ps
      · rw [← hR, wrM, if_pos ⟨by omega, z⟩]
      · exact ((hf.u (by decide)).u (by decide)).u (by decide)
    refine am_vc_ok am_k90 [17] 100 ?_
    refine And.intro (fun z => absurd z (nI_ge (by omega) (by omega))) (fun _ => ?_)
    refine And.intro (by rw [e10, lX_row h.2.2.1]; exact vp_in_nI (by omega) (by decide)) ?_
    rw [e10, nI_clamp (n := nx) (by omega), hW.2.2.2]
    have bad : ¬ (0 ≤ g nx ∧ g nx ≤ 255) → Q (some (aI 3)) (u3 s 10 0 1 (s 10 0 1 + 1)) τ (rX t) cX lX := by
      intro z
      refine hQ _ _ ⟨hf.u (by decide), ?_⟩
      rw [no z]
      exact Or.inl rfl
    refine And.intro (fun z => ?_) (fun z => ?_)
    · have z : g nx < 0 := z
      exact am_vI am_k90 am_r90 rfl (bad (fun y => absurd y.1 (Int32.not_le.mpr z)))
    · have z : 0 ≤ g nx := Int32.not_lt.mp z
      refine And.intro (fun y => ?_) (fun y => ?_)
      · have y : g nx ≤ 255 := y
        refine am_vO am_k90 am_h90 rfl rfl rfl rfl (x_wadd hI.nx (by omega)) ?_
        refine am_vc_ok am_k90 [17] 100 ?_
        exact am_Gp [0, 2, 3, 4] rfl (K2 ⟨z, y⟩)
      · have y : ¬ g nx ≤ 255 := y
        exact am_vI am_k90 am_r90 rfl (bad (fun q => y q.2))
theorem x_many {m nx : Nat} {o : wO} (hm : m ≤ 9) (h : W0 σ r M g) (hnx : nx ≤ M) (ho : o.1 + m ≤ 132) (hI : wI σ nx o) : am_T l 90 [aR 10 0, aI (nI m), aR 6 r] σ τ t (fun v s τ2 t2 => τ2 = τ ∧ t2 = t ∧ wmQ σ (wrM g M m nx o) v s) := by
  have hM := h.2.1
  have e : σ 10 0 1 + nI m = nI (nx + m) := by rw [hI.1, nI_add]
  refine am_T_of am_o90 am_l90 rfl ?_
  refine am_vc_ok am_k90 [17] 100 ?_
  refine And.intro (fun z => ?_) (fun z => ?_)
  · have z : σ 10 0 1 + nI m ≤ σ 6 r 1 := z
    rw [e, h.1, nI_leI (by omega) (by omega)] at z
    refine am_Gp (ls2 := [(3, aI (nI 0)), (0, aR 10 0), (1, aI (nI m)), (2, aR 6 r)]) [0, 1, 2, 3] rfl ?_
    refine x_wm_lp hm h ?_ m 0 nx o σ (by omega) z ho rfl wxF.refl hI
    intro v s hs
    exact ⟨_, rfl, rfl, rfl, rfl, rfl, hs⟩
  · have z : ¬ σ 10 0 1 + nI m ≤ σ 6 r 1 := z
    rw [e, h.1, nI_leI (by omega) (by omega)] at z
    refine am_vI am_k90 am_r90 rfl ⟨_, rfl, rfl, rfl, rfl, rfl, wxF.refl, ?_⟩
    rw [wrM_no m nx o hnx (by omega)]
    exact Or.inr rfl
theorem x_highest {i k : Nat} {S : aSh} (hS : ShOK S) (hk : k < sN S) (hX : XItems σ i S) : am_D l 91 [aR 9 i, aI (nI k)] σ τ (rX t) cX lX (some (aI (hiI S k))) σ τ (rX t) := by
  have s12 := hS.1
  obtain ⟨b1, b2, b3, b4, -⟩ := hS.2.1 k hk
  obtain ⟨x1, x2, x3, -⟩ := hX k hk
  refine am_D_of am_o91 am_l91 rfl ?_
  refine am_vc_ok am_k91 [] 100 ?_
  refine And.intro (vp_in_nI (N := 12) (by omega) (by decide)) ?_
  rw [nI_clamp (n := k) (by omega), x2]
  unfold hiI
  generalize sSo S k = so at *
  obtain rfl | rfl | rfl | rfl : so = 0 ∨ so = 1 ∨ so = 2 ∨ so = 3 := by omega
  · refine am_sw 32 (by decide +kernel) ?_
    exact am_vI am_k91 am_r91 rfl ⟨rfl, rfl, rfl, rfl, rfl, rfl⟩
  · refine am_sw 36 (by decide +kernel) ?_
    exact am_vI am_k91 am_r91 rfl ⟨rfl, rfl, rfl, rfl, rfl, rfl⟩
  · refine am_sw 39 (by decide +kernel) ?_
    exact am_vI am_k91 am_r91 rfl ⟨rfl, rfl, rfl, rfl, rfl, rfl⟩
  · refine am_sw 42 (by decide +kernel) ?_
    refine And.intro (vp_in_nI (N := 12) (by omega) (by decide)) ?_
    rw [nI_clamp (n := k) (by omega), x3]
    exact am_vI am_k91 am_r91 rfl ⟨rfl, rfl, rfl, rfl, rfl, rfl⟩
theorem x_field {i k nx : Nat} {o : wO} {S : aSh} (hi : i < 5) (hS : ShOK S) (hk : k < sN S) (hX : XItems σ i S) (h : W0 σ r M g) (hnx : nx ≤ M) (ho : o.1 + 11 ≤ 132) (hI : wI σ nx o) : am_T l 89 [aR 10 0, aR 9 i, aI (nI k), aR 6 r] σ τ t (fun v s τ2 t2 => τ2 = τ ∧ t2 = t ∧ wmQ σ (wrF S g M k nx o) v s) := by
  have s12 := hS.1
  have hM := h.2.1
  obtain ⟨b1, b2, b3, b4, -⟩ := hS.2.1 k hk
  obtain ⟨x1, x2, x3, -⟩ := hX k hk
  have bk : vp_in (nI k) 12 := vp_in_nI (by omega) (by decide)
  have ek : (nI k).toNatClampNeg = k := nI_clamp (by omega)
  have hQ : ∀ v s, wmQ σ (wrF S g M k nx o) v s → xQ (fun v s τ2 t2 => τ2 = τ ∧ t2 = t ∧ wmQ σ (wrF S g M k nx o) v s) v s τ (rX t) cX lX := fun v s hs => ⟨_, rfl, rfl, rfl, rfl, rfl, hs⟩
  have bad : ∀ (w : Int32) s, (w = 3 ∨ w = 5) → wxF σ s → ¬ (nx < M ∧ 0 ≤ g nx ∧ g nx ≤ hiI S k) → wmQ σ (wrF S g M k nx o) (some (aI w)) s := by
    intro w s hw hs hn
    refine ⟨hs, ?_⟩
    unfold wrF
    rw [if_neg hn]
    rcases hw with rfl | rfl
    · exact Or.inl rfl
    · exact Or.inr rfl
  refine am_T_of am_o89 am_l89 rfl ?_
  refine am_vc_ok am_k89 [107] 100 ?_
  refine And.intro (fun z => ?_) (fun z => ?_)
  · have z : σ 10 0 1 < σ 6 r 1 := z
    rw [hI.1, h.1, nI_ltI (by omega) (by omega)] at z
    refine And.intro (by rw [hI.1, lX_row h.2.2.1]; exact vp_in_nI (by omega) (by decide)) ?_
    rw [hI.1, nI_clamp (n := nx) (by omega), h.2.2.2]
    have hf1 : wxF σ (u3 σ 10 0 1 (σ 10 0 1 + 1)) := wxF.refl.u (by decide)
    have hX1 : XItems (u3 σ 10 0 1 (σ 10 0 1 + 1)) i S := hX.fr (Nat.le_refl _) (fun q k a b _ => by rw [u3_k _ _ (by omega)])
    have hI1 := hI.nx
    refine And.intro (fun y => ?_) (fun y => ?_)
    · have y : g nx < 0 := y
      exact am_vI am_k89 am_r89 rfl (hQ _ _ (bad 3 _ (Or.inl rfl) hf1 (fun q => absurd q.2.1 (Int32.not_le.mpr y))))
    have y : 0 ≤ g nx := Int32.not_lt.mp y
    refine am_vS am_k89 am_h89 rfl rfl rfl rfl (x_highest hS hk hX1) ?_
    refine am_vc_ok am_k89 [107] 100 ?_
    refine And.intro (fun w => ?_) (fun w => ?_)
    · have w : g nx ≤ hiI S k := w
      have hok : nx < M ∧ 0 ≤ g nx ∧ g nx ≤ hiI S k := ⟨z, y, w⟩
      generalize hs1 : u3 σ 10 0 1 (σ 10 0 1 + 1) = s1 at *
      have ehd : nI (sSo S k) * 16 + nI (sNm S k) = nI (16 * sSo S k + sNm S k) := by rw [show (16 : Int32) = nI 16 from rfl, pk_mul, nI_add, Nat.mul_comm]
      have hl := wrH_len (S := S) (i := k) (x := g nx) (o := o)
      have fin : ∀ s2, wxF σ s2 → wI s2 (nx + 1) (wrH S k (g nx) o) → am_G l 89 (xQ (fun v s τ2 t2 => τ2 = τ ∧ t2 = t ∧ wmQ σ (wrF S g M k nx o) v s)) 0 0 107 [(4, aI (g nx)), (0, aR 10 0), (1, aR 9 i), (2, aI (nI k)), (3, aR 6 r)] [] s2 τ (rX t) cX lX := by
        intro s2 hf2 hI2
        have x22 : s2 33 i k = nI (sSo S k) := by rw [hf2.1 33 (by decide) (by decide) (by decide)]; exact x2
        refine am_vc_ok am_k89 [] 100 ?_
        refine And.intro (bk) ?_
        rw [ek, x22]
        refine And.intro (fun q => ?_) (fun q => ?_)
        · have q : sSo S k = 2 := nI_inj' (by omega) (by decide) (show nI (sSo S k) = nI 2 from q)
          obtain ⟨mm, hmm, hmm2⟩ := hi9 q ⟨y, w⟩
          have e : wrF S g M k nx o = wrM g M mm (nx + 1) (wrH S k (g nx) o) := by
            unfold wrF
            rw [if_pos hok, if_pos q, hmm2, nI_clamp (by omega)]
          have hmany := x_many (l := l) (τ := τ) (t := t) (σ := s2) hmm (h.fr hf2) (nx := nx + 1) (by omega) (by rw [hl.2 q]; omega) hI2
          rw [← hmm2] at hmany
          refine am_vOT am_k89 am_h89 rfl rfl rfl rfl (hmany) ?_
          rintro v s3 τ3 t3 ⟨rfl, rfl, hf3, h3⟩
          obtain ⟨vv, rfl⟩ : ∃ vv : Int32, v = some (aI vv) := by
            cases e3 : wrM g M mm (nx + 1) (wrH S k (g nx) o) with
            | none => rw [e3] at h3; exact h3.elim (fun q => ⟨_, q⟩) (fun q => ⟨_, q⟩)
            | some p => rw [e3] at h3; exact ⟨_, h3.1⟩
          refine am_vc_ok am_k89 [] 100 ?_
          refine am_vI am_k89 am_r89 rfl (hQ _ _ ⟨hf2.tr hf3, ?_⟩)
          rw [e]
          exact h3
        · have q : ¬ sSo S k = 2 := fun p => q (by rw [p]; rfl)
          refine am_vI am_k89 am_r89 rfl (hQ _ _ ⟨hf2, ?_⟩)
          have e : wrF S g M k nx o = some (nx + 1, wrH S k (g nx) o) := by
            unfold wrF
            rw [if_pos hok, if_neg q]
          rw [e]
          exact ⟨rfl, hI2⟩
      have y2 : s1 33 i k = nI (sSo S k) := by rw [hf1.1 33 (by decide) (by decide) (by decide)]; exact x2
      have y1 : s1 32 i k = nI (sNm S k) := by rw [hf1.1 32 (by decide) (by decide) (by decide)]; exact x1
      refine And.intro (bk) ?_
      rw [ek, y2]
      refine And.intro (bk) ?_
      rw [ek, y1]
      have hadd := x_wadd (l := l) (τ := τ) (t := t) (v := nI (16 * sSo S k + sNm S k)) hI1 (by omega)
      rw [← ehd] at hadd
      refine am_vO am_k89 am_h89 rfl rfl rfl rfl (hadd) ?_
      refine am_vc_ok am_k89 [107] 100 ?_
      rw [ehd]
      have hI2 := hI1.ps (v := nI (16 * sSo S k + sNm S k))
      have hf2 : wxF σ (u3 (u3 s1 30 0 o.1 (nI (16 * sSo S k + sNm S k))) 6 0 1 (nI (o.1 + 1))) := (hf1.u (by decide)).u (by decide)
      generalize hs2 : u3 (u3 s1 30 0 o.1 (nI (16 * sSo S k + sNm S k))) 6 0 1 (nI (o.1 + 1)) = s2 at *
      have z2 : s2 33 i k = nI (sSo S k) := by rw [hf2.1 33 (by decide) (by decide) (by decide)]; exact x2
      refine And.intro (bk) ?_
      rw [ek, z2]
      refine And.intro (fun q => ?_) (fun q => ?_)
      · have q : sSo S k = 1 := nI_inj' (by omega) (by decide) (show nI (sSo S k) = nI 1 from q)
        refine am_vO am_k89 am_h89 rfl rfl rfl rfl (x_wadd hI2 (show o.1 + 1 < 132 by omega)) ?_
        refine am_vc_ok am_k89 [107] 100 ?_
        have hI3 := hI2.ps (v := i2b (g nx >>> 8))
        refine am_vO am_k89 am_h89 rfl rfl rfl rfl (x_wadd hI3 (show o.1 + 1 + 1 < 132 by omega)) ?_
        refine fin _ ?_ ?_
        · exact (((hf2.u (by decide)).u (by decide)).u (by decide)).u (by decide)
        have e : wrH S k (g nx) o = wps (wps (wps o (nI (16 * sSo S k + sNm S k))) (i2b (g nx >>> 8))) (i2b (g nx)) := by
          unfold wrH
          rw [if_pos q]
        rw [e]
        exact hI3.ps
      · have q : ¬ sSo S k = 1 := fun p => q (by rw [p]; rfl)
        refine am_vO am_k89 am_h89 rfl rfl rfl rfl (x_wadd hI2 (show o.1 + 1 < 132 by omega)) ?_
        refine fin _ ?_ ?_
        · exact (hf2.u (by decide)).u (by decide)
        have e : wrH S k (g nx) o = wps (wps o (nI (16 * sSo S k + sNm S k))) (i2b (g nx)) := by
          unfold wrH
          rw [if_neg q]
        rw [e]
        exact hI2.ps
    · have w : ¬ g nx ≤ hiI S k := w
      exact am_vI am_k89 am_r89 rfl (hQ _ _ (bad 3 _ (Or.inl rfl) hf1 (fun q => w q.2.2)))
  · have z : ¬ σ 10 0 1 < σ 6 r 1 := z
    rw [hI.1, h.1, nI_ltI (by omega) (by omega)] at z
    exact am_vI am_k89 am_r89 rfl (hQ _ _ (bad 5 _ (Or.inr rfl) wxF.refl (fun q => z q.1)))
end L59

/-! the class's encode, write -/
section L60
variable {l : Launch} {σ σ2 : tI} {τ τ2 : tL} {t : Option (Nat × Nat)} {r M : Nat} {g : Nat → Int32}
def weQ (σ : tI) (R : Option wO) (v : Option am_V) (s : tI) : Prop := wxF σ s ∧ match R with
  | none => v = some (aI 3) ∨ v = some (aI 5)
  | some o => v = some (aI (-9)) ∧ s 6 0 1 = nI o.1 ∧ (∀ j, j < o.1 → s 30 0 j = o.2 j) ∧ o.1 ≤ 132
theorem x_en_lp {Q : tQ} {i vv : Nat} {S : aSh} (hi : i < 5) (hv : vv < 10) (hS : ShOK S) (h9 : σ 9 i 1 = nI (sN S)) (hX : XItems σ i S) (h : W0 σ r M g) {R : Option wO} (hQ : ∀ v s, weQ σ R v s → Q v s τ (rX t) cX lX) : ∀ (d k nx : Nat) (o : wO) (s : tI), k + d = sN S → nx ≤ M → o.1 ≤ 11 * k → wrP S vv g M d k nx o = R → wxF σ s → wI s nx o → am_G l 88 Q 0 0 16 [(4, aI (nI k)), (0, aR 10 0), (1, aR 9 i), (2, aI (nI vv)), (3, aR 6 r)] [] s τ (rX t) cX lX
  | 0, k, nx, o, s, hk, h1, h2, hR, hf, hI => by
    have s12 := hS.1
    have hM := h.2.1
    have e9 : s 9 i 1 = nI (sN S) := by rw [hf.1 9 (by decide) (by decide) (by decide)]; exact h9
    have e6 : s 6 r 1 = nI M := (h.fr hf).1
    obtain rfl : k = sN S := by omega
    refine am_vc_ok am_k88 [16] 100 ?_
    refine And.intro (fun _ => ?_) (fun z => absurd (by rw [e9]; exact nI_le (Nat.le_refl _) (by omega)) z)
    refine And.intro (fun z => ?_) (fun z => ?_)
    · have z : s 10 0 1 = s 6 r 1 := z
      rw [hI.1, e6] at z
      have z : nx = M := nI_inj' (by omega) (by omega) z
      rw [wrP, if_pos z] at hR
      refine am_vI am_k88 am_r88 rfl (hQ _ _ ⟨hf, ?_⟩)
      rw [← hR]
      exact ⟨rfl, hI.2.1, hI.2.2, by omega⟩
    · have z : ¬ nx = M := fun y => z (by
        show s 10 0 1 = s 6 r 1
        rw [hI.1, e6, y])
      rw [wrP, if_neg z] at hR
      refine am_vI am_k88 am_r88 rfl (hQ _ _ ⟨hf, ?_⟩)
      rw [← hR]
      exact Or.inr rfl
  | d + 1, k, nx, o, s, hk, h1, h2, hR, hf, hI => by
    have s12 := hS.1
    have hM := h.2.1
    have e9 : s 9 i 1 = nI (sN S) := by rw [hf.1 9 (by decide) (by decide) (by decide)]; exact h9
    have hXs : XItems s i S := hX.fr (Nat.le_refl _) (fun q k a b _ => by rw [hf.1 q (by omega) (by omega) (by omega)])
    obtain ⟨x1, x2, x3, x4, x5, x6⟩ := hXs k (by omega)
    obtain ⟨b1, b2, b3, b4, b5, b6, -⟩ := hS.2.1 k (by omega)
    have fin := fun nx o s => x_en_lp hi hv hS h9 hX h hQ d (k + 1) nx o s (by omega)
    have hiff : (s 35 i k ≤ nI vv ∧ nI vv ≤ s 36 i k) ↔ (sSi S k ≤ vv ∧ vv ≤ sTi S k) := by
      rw [x4, x5, nI_leI (by omega) (by omega), nI_leI (by omega) (by omega)]
    unfold wrP at hR
    refine am_vc_ok am_k88 [16] 100 ?_
    refine And.intro (fun z => absurd z (by rw [e9]; exact nI_ge (by omega) (by omega))) (fun _ => ?_)
    refine am_vO am_k88 am_h88 rfl rfl rfl rfl (x_has (by omega)) ?_
    refine am_vc_ok am_k88 [16] 100 ?_
    refine And.intro (fun z => ?_) (fun z => ?_)
    · have z : ¬ (sSi S k ≤ vv ∧ vv ≤ sTi S k) := fun y => bI_0.mp z (hiff.mpr y)
      rw [if_neg z] at hR
      have K2 := fin nx o s h1 (by omega) hR hf hI
      rw [← nI_1 k] at K2
      exact K2
    · have z := hiff.mp (bI_1.mp z)
      rw [if_pos z] at hR
      refine am_vOT am_k88 am_h88 rfl rfl rfl rfl (x_field (o := o) hi hS (show k < sN S by omega) hXs (h.fr hf) h1 (by omega) hI) ?_
      rintro v s2 τ2 t2 ⟨rfl, rfl, hf2, h3⟩
      have hf3 := hf.tr hf2
      cases e : wrF S g M k nx o with
      | none =>
        rw [e] at h3 hR
        rcases h3 with rfl | rfl
        · refine am_vc_ok am_k88 [16] 100 ?_
          refine And.intro (fun y => absurd y (by decide)) (fun _ => ?_)
          refine am_vI am_k88 am_r88 rfl (hQ _ _ ⟨hf3, ?_⟩)
          rw [← hR]
          exact Or.inl rfl
        · refine am_vc_ok am_k88 [16] 100 ?_
          refine And.intro (fun y => absurd y (by decide)) (fun _ => ?_)
          refine am_vI am_k88 am_r88 rfl (hQ _ _ ⟨hf3, ?_⟩)
          rw [← hR]
          exact Or.inr rfl
      | some p =>
        obtain ⟨nx2, o2⟩ := p
        rw [e] at h3 hR
        obtain ⟨rfl, hI2⟩ := h3
        have hl := wrF_len e
        have K2 := fin nx2 o2 s2 hl.2 (by omega) hR hf3 hI2
        refine am_vc_ok am_k88 [16] 100 ?_
        refine And.intro (fun _ => ?_) (fun y => absurd rfl y)
        rw [← nI_1 k] at K2
        exact am_Gp [0, 2, 3, 4, 5] rfl K2
def o0 : wO := (0, fun _ => 0)
theorem x_encode {i vv : Nat} {S : aSh} (hi : i < 5) (hv : vv < 10) (hS : ShOK S) (h9 : σ 9 i 1 = nI (sN S)) (hX : XItems σ i S) (h : W0 σ r M g) : am_T l 88 [aR 10 0, aR 9 i, aI (nI vv), aR 6 r] σ τ t (fun v s τ2 t2 => τ2 = τ ∧ t2 = t ∧ weQ σ (wrP S vv g M (sN S) 0 0 o0) v s) := by
  refine am_T_of am_o88 am_l88 rfl ?_
  refine am_vc_ok am_k88 [16] 100 ?_
  refine x_en_lp (σ := σ) hi hv hS h9 hX h ?_ (sN S) 0 0 o0 _ (by omega) (by omega) (by decide) rfl ((wxF.refl.u (by decide)).u (by decide)) ⟨u3_eq _ _ _ _ _, by rw [u3_k _ _ (by decide), u3_eq]; rfl, fun j hj => absurd hj (Nat.not_lt_zero j)⟩
  intro v s hs
  exact ⟨_, rfl, rfl, rfl, rfl, rfl, hs⟩
abbrev xbec (σ : tI) (r q n : Nat) : tI := xapp (u3 (u3 σ 6 r 0 1) 6 r 1 0) r q 0 n
theorem x_rbecome {r q n : Nat} (hrq : q ≠ r) (h2 : σ 6 q 1 = nI n) (hr : lX 30 r = 60) (hq : n ≤ lX 30 q) (hs : n ≤ 60) : am_D l 58 [aR 6 r, aR 6 q] σ τ (rX t) cX lX none (xbec σ r q n) τ (rX t) := by
  refine am_D_of am_o58 am_l58 rfl ?_
  refine am_vc_ok am_k58 [] 100 ?_
  refine And.intro (Or.inr rfl) ?_
  refine am_vO am_k58 am_h58 rfl rfl rfl rfl (x_addAll (n1 := 0) (n2 := n) (u3_eq _ _ _ _ _) (by rw [u3_i _ _ hrq, u3_i _ _ hrq]; exact h2) hr hq (by omega)) ?_
  refine am_vc_ok am_k58 [] 100 ?_
  exact am_vV am_k58 am_r58 rfl ⟨rfl, rfl, rfl, rfl, rfl, rfl⟩
/-- what write leaves in the class -/
def wwQ (σ : tI) (x : Nat) (R : Option wO) (v : Option am_V) (s : tI) : Prop := match R with
  | none => v = some (aI (-3)) ∧ ∃ s1 w, w < 6 ∧ wxF σ s1 ∧ s = xfind w s1
  | some o => if o.1 ≤ 60 then v = some (aI (nI o.1)) ∧ ∃ s1, wxF σ s1 ∧ (∀ j, j < o.1 → s1 30 0 j = o.2 j) ∧ s = xbec s1 (10 + x) 0 o.1 else v = some (aI (-3)) ∧ ∃ s1 w, w < 6 ∧ wxF σ s1 ∧ s = xfind w s1
theorem x_writeB {a b c d : Int32} (h : ¬ ((0 ≤ a ∧ a < 4) ∧ (0 ≤ b ∧ b < 10) ∧ (0 ≤ c ∧ c < 6) ∧ (0 ≤ d ∧ d < 6))) : am_D l 105 [aR 11 0, aI a, aI b, aI c, aI d] σ τ (rX t) cX lX (some (aI (-1))) σ τ (rX t) := by
  refine am_D_of am_o105 am_l105 rfl ?_
  refine am_vc_ok am_k105 [] 100 ?_
  refine am_vS am_k105 am_h105 rfl rfl rfl rfl (x_within) ?_
  refine am_vc_ok am_k105 [] 100 ?_
  refine And.intro (fun h1 => ?_) (fun h1 => ?_)
  · exact am_vI am_k105 am_r105 rfl ⟨rfl, rfl, rfl, rfl, rfl, rfl⟩
  refine am_vS am_k105 am_h105 rfl rfl rfl rfl (x_within) ?_
  refine am_vc_ok am_k105 [] 100 ?_
  refine And.intro (fun h2 => ?_) (fun h2 => ?_)
  · exact am_vI am_k105 am_r105 rfl ⟨rfl, rfl, rfl, rfl, rfl, rfl⟩
  refine am_vS am_k105 am_h105 rfl rfl rfl rfl (x_within) ?_
  refine am_vc_ok am_k105 [] 100 ?_
  refine And.intro (fun h3 => ?_) (fun h3 => ?_)
  · exact am_vI am_k105 am_r105 rfl ⟨rfl, rfl, rfl, rfl, rfl, rfl⟩
  refine am_vS am_k105 am_h105 rfl rfl rfl rfl (x_within) ?_
  refine am_vc_ok am_k105 [] 100 ?_
  refine And.intro (fun h4 => ?_) (fun h4 => ?_)
  · exact am_vI am_k105 am_r105 rfl ⟨rfl, rfl, rfl, rfl, rfl, rfl⟩
  · exact absurd ⟨bI_1.mp h1, bI_1.mp h2, bI_1.mp h3, bI_1.mp h4⟩ h
theorem x_write_no {s v rr x : Nat} (hs : s < 4) (hv : v < 10) (hr : rr < 6) (hx : x < 6) (h0 : σ 9 (1 + s) 0 = 0 ∨ σ 6 (4 + rr) 0 = 0) : am_D l 105 [aR 11 0, aI (nI s), aI (nI v), aI (nI rr), aI (nI x)] σ τ (rX t) cX lX (some (aI (-3))) (xfind 1 σ) τ (rX t) := by
  refine am_D_of am_o105 am_l105 rfl ?_
  refine am_vc_ok am_k105 [] 100 ?_
  refine am_vS am_k105 am_h105 rfl rfl rfl rfl (x_within) ?_
  refine am_vc_ok am_k105 [] 100 ?_
  refine And.intro (fun g => absurd (in4 hs) (bI_0.mp g)) (fun _ => ?_)
  refine am_vS am_k105 am_h105 rfl rfl rfl rfl (x_within) ?_
  refine am_vc_ok am_k105 [] 100 ?_
  refine And.intro (fun g => absurd (in10 hv) (bI_0.mp g)) (fun _ => ?_)
  refine am_vS am_k105 am_h105 rfl rfl rfl rfl (x_within) ?_
  refine am_vc_ok am_k105 [] 100 ?_
  refine And.intro (fun g => absurd (in6 hr) (bI_0.mp g)) (fun _ => ?_)
  refine am_vS am_k105 am_h105 rfl rfl rfl rfl (x_within) ?_
  refine am_vc_ok am_k105 [] 100 ?_
  refine And.intro (fun g => absurd (in6 hx) (bI_0.mp g)) (fun _ => ?_)
  refine And.intro (vp_in_nI (N := 4) hs (by decide)) ?_
  rw [nI_clamp (n := s) (by omega)]
  refine And.intro (fun z => ?_) (fun z => ?_)
  · refine am_vO am_k105 am_h105 rfl rfl rfl rfl (x_find (w := 1) (by decide)) ?_
    refine am_vc_ok am_k105 [] 100 ?_
    exact am_vI am_k105 am_r105 rfl ⟨rfl, rfl, rfl, rfl, rfl, rfl⟩
  · refine And.intro (vp_in_nI (N := 6) hr (by decide)) ?_
    rw [nI_clamp (n := rr) (by omega)]
    refine And.intro (fun y => ?_) (fun y => absurd (h0.resolve_left z) y)
    refine am_vO am_k105 am_h105 rfl rfl rfl rfl (x_find (w := 1) (by decide)) ?_
    refine am_vc_ok am_k105 [] 100 ?_
    exact am_vI am_k105 am_r105 rfl ⟨rfl, rfl, rfl, rfl, rfl, rfl⟩
theorem x_write {s v rr x : Nat} {S : aSh} (hs : s < 4) (hv : v < 10) (hr : rr < 6) (hx : x < 6) (h0 : ¬ σ 9 (1 + s) 0 = 0) (h01 : ¬ σ 6 (4 + rr) 0 = 0) (hS : ShOK S) (h9 : σ 9 (1 + s) 1 = nI (sN S)) (hX : XItems σ (1 + s) S) (h : W0 σ (4 + rr) M g) : am_T l 105 [aR 11 0, aI (nI s), aI (nI v), aI (nI rr), aI (nI x)] σ τ t (fun w s2 τ2 t2 => τ2 = τ ∧ t2 = t ∧ wwQ σ x (wrP S v g M (sN S) 0 0 o0) w s2) := by
  refine am_T_of am_o105 am_l105 rfl ?_
  refine am_vc_ok am_k105 [] 100 ?_
  refine am_vS am_k105 am_h105 rfl rfl rfl rfl (x_within) ?_
  refine am_vc_ok am_k105 [] 100 ?_
  refine And.intro (fun g => absurd (in4 hs) (bI_0.mp g)) (fun _ => ?_)
  refine am_vS am_k105 am_h105 rfl rfl rfl rfl (x_within) ?_
  refine am_vc_ok am_k105 [] 100 ?_
  refine And.intro (fun g => absurd (in10 hv) (bI_0.mp g)) (fun _ => ?_)
  refine am_vS am_k105 am_h105 rfl rfl rfl rfl (x_within) ?_
  refine am_vc_ok am_k105 [] 100 ?_
  refine And.intro (fun g => absurd (in6 hr) (bI_0.mp g)) (fun _ => ?_)
  refine am_vS am_k105 am_h105 rfl rfl rfl rfl (x_within) ?_
  refine am_vc_ok am_k105 [] 100 ?_
  refine And.intro (fun g => absurd (in6 hx) (bI_0.mp g)) (fun _ => ?_)
  refine And.intro (vp_in_nI (N := 4) hs (by decide)) ?_
  rw [nI_clamp (n := s) (by omega)]
  refine And.intro (fun y => absurd y h0) (fun _ => ?_)
  refine And.intro (vp_in_nI (N := 6) hr (by decide)) ?_
  rw [nI_clamp (n := rr) (by omega)]
  refine And.intro (fun y => absurd y h01) (fun _ => ?_)
  refine And.intro (vp_in_nI (N := 4) hs (by decide)) ?_
  rw [nI_clamp (n := s) (by omega)]
  refine And.intro (vp_in_nI (N := 6) hr (by decide)) ?_
  rw [nI_clamp (n := rr) (by omega)]
  refine am_vOT am_k105 am_h105 rfl rfl rfl rfl (x_encode (by omega) hv hS h9 hX h) ?_
  rintro w s1 τ2 t2 ⟨rfl, rfl, hf, hQ⟩
  cases e : wrP S v g M (sN S) 0 0 o0 with
  | none =>
    rw [e] at hQ
    rcases hQ with rfl | rfl
    · refine am_vc_ok am_k105 [] 100 ?_
      refine And.intro (fun y => absurd y (by decide)) (fun _ => ?_)
      refine am_vO am_k105 am_h105 rfl rfl rfl rfl (x_find (w := 3) (by decide)) ?_
      refine am_vc_ok am_k105 [] 100 ?_
      exact am_vI am_k105 am_r105 rfl ⟨_, rfl, rfl, rfl, rfl, rfl, rfl, s1, 3, by decide, hf, rfl⟩
    · refine am_vc_ok am_k105 [] 100 ?_
      refine And.intro (fun y => absurd y (by decide)) (fun _ => ?_)
      refine am_vO am_k105 am_h105 rfl rfl rfl rfl (x_find (w := 5) (by decide)) ?_
      refine am_vc_ok am_k105 [] 100 ?_
      exact am_vI am_k105 am_r105 rfl ⟨_, rfl, rfl, rfl, rfl, rfl, rfl, s1, 5, by decide, hf, rfl⟩
  | some o =>
    rw [e] at hQ
    obtain ⟨rfl, j1, j2, j3⟩ := hQ
    have hx2 : 0 ≠ 10 + x := by omega
    refine am_vc_ok am_k105 [] 100 ?_
    refine And.intro (fun _ => ?_) (fun y => absurd rfl y)
    refine And.intro (fun y => ?_) (fun y => ?_)
    · have y : s1 6 0 1 ≤ 60 := y
      rw [j1, show (60 : Int32) = nI 60 from rfl, nI_leI (by omega) (by decide)] at y
      refine And.intro (vp_in_nI (N := 6) hx (by decide)) ?_
      rw [nI_clamp (n := x) (by omega)]
      refine am_vO am_k105 am_h105 rfl rfl rfl rfl (x_rbecome hx2 j1 (lX_row (by omega)) (show o.1 ≤ 132 from j3) y) ?_
      refine am_vc_ok am_k105 [] 100 ?_
      refine And.intro (vp_in_nI (N := 6) hx (by decide)) ?_
      rw [nI_clamp (n := x) (by omega)]
      refine am_vI am_k105 am_r105 rfl ⟨_, rfl, rfl, rfl, rfl, rfl, ?_⟩
      show (if o.1 ≤ 60 then _ else _)
      rw [if_pos y]
      refine ⟨?_, s1, hf, j2, rfl⟩
      refine congrArg (fun x => some (aI x)) ?_
      rw [xbec, xapp, u3_eq, Nat.zero_add]
    · have y : ¬ s1 6 0 1 ≤ 60 := y
      rw [j1, show (60 : Int32) = nI 60 from rfl, nI_leI (by omega) (by decide)] at y
      refine am_vO am_k105 am_h105 rfl rfl rfl rfl (x_find (w := 2) (by decide)) ?_
      refine am_vc_ok am_k105 [] 100 ?_
      refine am_vI am_k105 am_r105 rfl ⟨_, rfl, rfl, rfl, rfl, rfl, ?_⟩
      show (if o.1 ≤ 60 then _ else _)
      rw [if_neg y]
      exact ⟨rfl, s1, 2, by decide, hf, rfl⟩
end L60

/-! the model's write -/
section L61
variable {l : Launch} {σ σ2 : tI} {τ τ2 : tL} {t : Option (Nat × Nat)} {r M : Nat} {g : Nat → Int32}
def wmF (σ s : tI) : Prop := (∀ q, q ≠ 12 → q ≠ 52 → s q = σ q) ∧ ∀ j, j ≠ 16 → s 12 0 j = σ 12 0 j
theorem wmF.refl : wmF σ σ := ⟨fun _ _ _ => rfl, fun _ _ => rfl⟩
theorem wmF.tr {s s2 : tI} (h : wmF σ s) (h2 : wmF s s2) : wmF σ s2 := ⟨fun q a b => (h2.1 q a b).trans (h.1 q a b), fun j a => (h2.2 j a).trans (h.2 j a)⟩
theorem wmF.o {s : tI} {j : Nat} {v : Int32} (h : wmF σ s) : wmF σ (u3 s 52 0 j v) := ⟨fun q a b => by rw [u3_kk _ _ b]; exact h.1 q a b, fun j a => by rw [u3_k _ _ (by decide)]; exact h.2 j a⟩
theorem wmF.n {s : tI} {v : Int32} (h : wmF σ s) : wmF σ (u3 s 12 0 16 v) := ⟨fun q a b => by rw [u3_kk _ _ a]; exact h.1 q a b, fun j a => by rw [u3_j _ _ a]; exact h.2 j a⟩
def wJ (s : tI) (o : wO) : Prop := s 12 0 16 = nI o.1 ∧ ∀ j, j < o.1 → s 52 0 j = o.2 j
abbrev wou (s : tI) (o : wO) (v : Int32) : tI := u3 (u3 s 52 0 o.1 v) 12 0 16 (nI (o.1 + 1))
theorem wJ.ps {s : tI} {o : wO} {v : Int32} (h : wJ s o) : wJ (wou s o v) (wps o v) := by
  refine ⟨u3_eq _ _ _ _ _, fun j hj => ?_⟩
  have hj : j < o.1 + 1 := hj
  show u3 (u3 s 52 0 o.1 v) 12 0 16 (nI (o.1 + 1)) 52 0 j = pshF o.2 o.1 v j
  rw [u3_k _ _ (by decide)]
  unfold pshF
  by_cases e : j = o.1
  · rw [if_pos e, e, u3_eq]
  · rw [if_neg e, u3_j _ _ e]
    exact h.2 j (by omega)
theorem m_out {s : tI} {o : wO} {v : Int32} (h : wJ s o) (ho : o.1 < 400) : am_D l 187 [aR 12 0, aI v] s τ (rX t) cX lX none (wou s o (i2b v)) τ (rX t) := by
  refine am_D_of am_o187 am_l187 rfl ?_
  refine am_vc_ok am_k187 [] 100 ?_
  refine And.intro (by rw [h.1]; exact vp_in_nI (N := 400) ho (by decide)) ?_
  rw [h.1, nI_clamp (n := o.1) (by omega)]
  refine am_vV am_k187 am_r187 rfl ⟨rfl, ?_, rfl, rfl, rfl, rfl⟩
  rw [u3_k _ _ (show 12 ≠ 52 by decide), h.1, nI_1]
/-- the row that is written -/
def V0 (σ : tI) (r M : Nat) (g : Nat → Int32) : Prop := σ 44 0 r = nI M ∧ M ≤ 60 ∧ r < 6 ∧ ∀ j, j < M → σ 45 0 (60 * r + j) = g j
theorem V0.fr {s : tI} (h : V0 σ r M g) (hs : wmF σ s) : V0 s r M g := by
  unfold V0 at h ⊢
  rw [hs.1 44 (by decide) (by decide), hs.1 45 (by decide) (by decide)]
  exact h
theorem i60 (r p : Nat) : 60 * nI r + nI p = nI (60 * r + p) := by rw [show (60 : Int32) = nI 60 from rfl, pk_mul, nI_add]
theorem i2b_64 : ∀ k, k < 64 → i2b (nI k) = nI k := by decide +kernel
theorem m_wm_lp {Q : tQ} {sh vv x i m : Nat} {R : Option (Nat × wO)} (hm : m ≤ 9) (h : V0 σ r M g) (hN : ∀ w s, w < 6 → R = none → wmF σ s → Q (some (aI (-3))) (mmeets w s) τ (rX t) cX lX) (K : ∀ nx o s, R = some (nx, o) → wmF σ s → wJ s o → am_G l 188 Q 0 0 318 [(9, aI (nI m)), (5, aI (nI nx)), (8, aI (nI m)), (7, aI (nI 2)), (6, aI (nI i)), (0, aR 12 0), (1, aI (nI sh)), (2, aI (nI vv)), (3, aI (nI r)), (4, aI (nI x))] [] s τ (rX t) cX lX) : ∀ (d k nx : Nat) (o : wO) (s : tI), k + d = m → nx ≤ M → o.1 + d ≤ 132 → wrM g M d nx o = R → wmF σ s → wJ s o → am_G l 188 Q 0 0 235 [(9, aI (nI k)), (5, aI (nI nx)), (8, aI (nI m)), (7, aI (nI 2)), (6, aI (nI i)), (0, aR 12 0), (1, aI (nI sh)), (2, aI (nI vv)), (3, aI (nI r)), (4, aI (nI x))] [] s τ (rX t) cX lX
  | 0, k, nx, o, s, hk, h1, h2, hR, hf, hJ => by
    obtain rfl : k = m := by omega
    refine am_vc_ok am_k188 [235, 318] 100 ?_
    exact And.intro (fun _ => K nx o s hR.symm hf hJ) (fun z => absurd (nI_le (Nat.le_refl _) (by omega)) z)
  | d + 1, k, nx, o, s, hk, h1, h2, hR, hf, hJ => by
    have hV := h.fr hf
    have hM := h.2.1
    have hr := h.2.2.1
    have fin := fun nx o s => m_wm_lp hm h hN K d (k + 1) nx o s (by omega)
    unfold wrM at hR
    refine am_vc_ok am_k188 [235, 318] 100 ?_
    refine And.intro (fun z => absurd z (nI_ge (by omega) (by omega))) (fun _ => ?_)
    refine And.intro (fun _ => ?_) (fun z => absurd rfl z)
    refine And.intro (vp_in_nI (N := 6) hr (by decide)) ?_
    rw [nI_clamp (n := r) (by omega), hV.1]
    refine And.intro (fun z => ?_) (fun z => ?_)
    · have z : nx = M := nI_inj' (by omega) (by omega) z
      rw [if_neg (fun y => absurd y.1 (by omega))] at hR
      refine am_vO am_k188 am_h188 rfl rfl rfl rfl (m_meets (w := 5) (by decide)) ?_
      refine am_vc_ok am_k188 [235, 318] 100 ?_
      exact am_vI am_k188 am_r188 rfl (hN 5 s (by decide) hR.symm hf)
    · have z : nx < M := by
        have : ¬ nx = M := fun y => z (by rw [y])
        omega
      have eg : s 45 0 (60 * r + nx) = g nx := hV.2.2.2 nx z
      refine And.intro (by rw [i60]; exact vp_in_nI (N := 360) (by omega) (by decide)) ?_
      rw [i60, nI_clamp (n := 60 * r + nx) (by omega), eg]
      refine am_vS am_k188 am_h188 rfl rfl rfl rfl (m_in) ?_
      refine am_vc_ok am_k188 [235, 318] 100 ?_
      refine And.intro (fun y => ?_) (fun y => ?_)
      · have y := bI_0.mp y
        rw [if_neg (fun q => y q.2)] at hR
        refine am_vO am_k188 am_h188 rfl rfl rfl rfl (m_meets (w := 3) (by decide)) ?_
        refine am_vc_ok am_k188 [235, 318] 100 ?_
        exact am_vI am_k188 am_r188 rfl (hN 3 s (by decide) hR.symm hf)
      · have y := bI_1.mp y
        rw [if_pos ⟨z, y⟩] at hR
        refine And.intro (by rw [i60]; exact vp_in_nI (N := 360) (by omega) (by decide)) ?_
        rw [i60, nI_clamp (n := 60 * r + nx) (by omega), eg]
        refine am_vO am_k188 am_h188 rfl rfl rfl rfl (m_out hJ (by omega)) ?_
        refine am_vc_ok am_k188 [235, 318] 100 ?_
        have K2 := fin (nx + 1) (wps o (i2b (g nx))) (wou s o (i2b (g nx))) (by omega) (by show o.1 + 1 + d ≤ 132; omega) hR hf.o.n hJ.ps
        rw [← nI_1 k, ← nI_1 nx] at K2
        exact am_Gp [0, 1, 2, 3, 4, 5, 6, 7, 8, 9] rfl K2
/-- one field -/
theorem m_wf {Q : tQ} {S : aSh} {sh vv x i nx : Nat} {o : wO} {s : tI} {R : Option (Nat × wO)} (hsh : sh < 4) (hS : ShOK S) (hi : i < sN S) (hX : MItems σ sh S) (h : V0 σ r M g) (hnx : nx ≤ M) (ho : o.1 + 11 ≤ 132) (hR : wrF S g M i nx o = R) (hf : wmF σ s) (hJ : wJ s o) (hN : ∀ w s, w < 6 → R = none → wmF σ s → Q (some (aI (-3))) (mmeets w s) τ (rX t) cX lX) (K : ∀ a b c nx o s, R = some (nx, o) → wmF σ s → wJ s o → am_G l 188 Q 0 0 318 [(9, aI a), (5, aI (nI nx)), (8, aI b), (7, aI c), (6, aI (nI i)), (0, aR 12 0), (1, aI (nI sh)), (2, aI (nI vv)), (3, aI (nI r)), (4, aI (nI x))] [] s τ (rX t) cX lX) : am_G l 188 Q 0 0 91 [(6, aI (nI i)), (5, aI (nI nx)), (0, aR 12 0), (1, aI (nI sh)), (2, aI (nI vv)), (3, aI (nI r)), (4, aI (nI x))] [] s τ (rX t) cX lX := by
  have s12 := hS.1
  have hM := h.2.1
  have hr := h.2.2.1
  have hV := h.fr hf
  obtain ⟨b1, b2, b3, b4, -⟩ := hS.2.1 i hi
  have hX2 : ∀ s2, wmF σ s2 → ∀ w, w < 6 → s2 50 0 (72 * sh + 6 * i + w) = sF S i w := fun s2 hs2 w hw => by rw [hs2.1 50 (by decide) (by decide)]; exact hX i w hi hw
  have p1 := m_part (l := l) (τ := τ) (t := t) (σ := s) (w := 1) hsh (show i < 12 by omega) (by decide)
  have p2 := m_part (l := l) (τ := τ) (t := t) (σ := s) (w := 2) hsh (show i < 12 by omega) (by decide)
  have p0 := m_part (l := l) (τ := τ) (t := t) (σ := s) (w := 0) hsh (show i < 12 by omega) (by decide)
  rw [hX2 s hf 1 (by decide), show sF S i 1 = nI (sSo S i) from rfl] at p1
  rw [hX2 s hf 2 (by decide), show sF S i 2 = nI (sCh S i) from rfl] at p2
  rw [hX2 s hf 0 (by decide), show sF S i 0 = nI (sNm S i) from rfl] at p0
  unfold wrF at hR
  refine am_vc_ok am_k188 [181, 235] 100 ?_
  refine am_vO am_k188 am_h188 rfl rfl rfl rfl (p1) ?_
  refine am_vc_ok am_k188 [181, 235] 100 ?_
  refine And.intro (vp_in_nI (N := 6) hr (by decide)) ?_
  rw [nI_clamp (n := r) (by omega), hV.1]
  refine And.intro (fun z => ?_) (fun z => ?_)
  · have z : nx = M := nI_inj' (by omega) (by omega) z
    rw [if_neg (fun y => absurd y.1 (by omega))] at hR
    refine am_vO am_k188 am_h188 rfl rfl rfl rfl (m_meets (w := 5) (by decide)) ?_
    refine am_vc_ok am_k188 [181, 235] 100 ?_
    exact am_vI am_k188 am_r188 rfl (hN 5 s (by decide) hR.symm hf)
  have z : nx < M := by
    have : ¬ nx = M := fun y => z (by rw [y])
    omega
  have eg : s 45 0 (60 * r + nx) = g nx := hV.2.2.2 nx z
  refine And.intro (by rw [i60]; exact vp_in_nI (N := 360) (by omega) (by decide)) ?_
  rw [i60, nI_clamp (n := 60 * r + nx) (by omega), eg]
  have go : ∀ hi : Int32, hi = hiI S i → am_G l 188 Q 0 0 181 [(5, aI (nI nx + 1)), (8, aI (g nx)), (7, aI (nI (sSo S i))), (6, aI (nI i)), (0, aR 12 0), (1, aI (nI sh)), (2, aI (nI vv)), (3, aI (nI r)), (4, aI (nI x))] [aI hi, aI 0, aI (g nx)] s τ (rX t) cX lX := by
    rintro _ rfl
    refine am_vc_ok am_k188 [235] 100 ?_
    refine am_vS am_k188 am_h188 rfl rfl rfl rfl (m_in) ?_
    refine am_vc_ok am_k188 [235] 100 ?_
    refine And.intro (fun y => ?_) (fun y => ?_)
    · have y := bI_0.mp y
      rw [if_neg (fun q => y q.2)] at hR
      refine am_vO am_k188 am_h188 rfl rfl rfl rfl (m_meets (w := 3) (by decide)) ?_
      refine am_vc_ok am_k188 [235] 100 ?_
      exact am_vI am_k188 am_r188 rfl (hN 3 s (by decide) hR.symm hf)
    have y := bI_1.mp y
    rw [if_pos ⟨z, y⟩] at hR
    have hl := wrH_len (S := S) (i := i) (x := g nx) (o := o)
    have ehd : 16 * nI (sSo S i) + nI (sNm S i) = nI (16 * sSo S i + sNm S i) := by rw [show (16 : Int32) = nI 16 from rfl, pk_mul, nI_add]
    have fin : ∀ s2, wmF σ s2 → wJ s2 (wrH S i (g nx) o) → am_G l 188 Q 0 0 235 [(9, aI (nI 0)), (5, aI (nI (nx + 1))), (8, aI (g nx)), (7, aI (nI (sSo S i))), (6, aI (nI i)), (0, aR 12 0), (1, aI (nI sh)), (2, aI (nI vv)), (3, aI (nI r)), (4, aI (nI x))] [] s2 τ (rX t) cX lX := by
      intro s2 hf2 hJ2
      by_cases h2 : sSo S i = 2
      · rw [if_pos h2] at hR
        obtain ⟨mm, hmm, hmm2⟩ := hi9 h2 y
        rw [hmm2] at hR hJ2 ⊢
        rw [nI_clamp (by omega)] at hR
        rw [h2]
        have hl2 := hl.2 h2
        rw [hmm2] at hl2
        refine m_wm_lp hmm h hN (fun nx o s e1 e2 e3 => K _ _ _ nx o s e1 e2 e3) mm 0 (nx + 1) _ s2 (by omega) (by omega) (by rw [hl2]; omega) hR hf2 hJ2
      · rw [if_neg h2] at hR
        have K2 := K (nI 0) (g nx) (nI (sSo S i)) (nx + 1) _ s2 hR.symm hf2 hJ2
        refine am_vc_ok am_k188 [318] 100 ?_
        refine And.intro (fun _ => K2) (fun _ => ?_)
        refine And.intro (fun q => ?_) (fun _ => K2)
        exact absurd (nI_inj' (by omega) (by decide) (show nI (sSo S i) = nI 2 from q)) h2
    refine am_vO am_k188 am_h188 rfl rfl rfl rfl (p0) ?_
    refine am_vc_ok am_k188 [235] 100 ?_
    have hout := m_out (l := l) (τ := τ) (t := t) (v := nI (16 * sSo S i + sNm S i)) hJ (by omega)
    rw [← ehd] at hout
    refine am_vO am_k188 am_h188 rfl rfl rfl rfl (hout) ?_
    refine am_vc_ok am_k188 [235] 100 ?_
    rw [ehd, i2b_64 _ (by omega)]
    have hJ1 := hJ.ps (v := nI (16 * sSo S i + sNm S i))
    have hf1 : wmF σ (wou s o (nI (16 * sSo S i + sNm S i))) := hf.o.n
    generalize hs1 : wou s o (nI (16 * sSo S i + sNm S i)) = s1 at *
    refine And.intro (fun q => ?_) (fun q => ?_)
    · have q : sSo S i = 1 := nI_inj' (by omega) (by decide) (show nI (sSo S i) = nI 1 from q)
      refine am_vO am_k188 am_h188 rfl rfl rfl rfl (m_out hJ1 (show o.1 + 1 < 400 by omega)) ?_
      refine am_vc_ok am_k188 [235] 100 ?_
      have hJ2 := hJ1.ps (v := i2b (g nx >>> 8))
      refine am_vO am_k188 am_h188 rfl rfl rfl rfl (m_out hJ2 (show o.1 + 1 + 1 < 400 by omega)) ?_
      refine am_vc_ok am_k188 [235] 100 ?_
      have K2 := fin _ hf1.o.n.o.n (by
        have e : wrH S i (g nx) o = wps (wps (wps o (nI (16 * sSo S i + sNm S i))) (i2b (g nx >>> 8))) (i2b (g nx)) := by
          unfold wrH
          rw [if_pos q]
        rw [e]
        exact hJ2.ps)
      rw [← nI_1 nx] at K2
      exact am_Gp [0, 1, 2, 3, 4, 5, 6, 7, 8, 9] rfl K2
    · have q : ¬ sSo S i = 1 := fun p => q (by rw [p]; rfl)
      refine am_vO am_k188 am_h188 rfl rfl rfl rfl (m_out hJ1 (show o.1 + 1 < 400 by omega)) ?_
      refine am_vc_ok am_k188 [235] 100 ?_
      have K2 := fin _ hf1.o.n (by
        have e : wrH S i (g nx) o = wps (wps o (nI (16 * sSo S i + sNm S i))) (i2b (g nx)) := by
          unfold wrH
          rw [if_neg q]
        rw [e]
        exact hJ1.ps)
      rw [← nI_1 nx] at K2
      exact am_Gp [0, 1, 2, 3, 4, 5, 6, 7, 8, 9] rfl K2
  unfold hiI at go
  refine And.intro (fun q => ?_) (fun q => ?_)
  · have q : sSo S i = 0 := nI_inj' (by omega) (by decide) (show nI (sSo S i) = nI 0 from q)
    exact go _ (by rw [if_pos q])
  have q0 : ¬ sSo S i = 0 := fun p => q (by rw [p]; rfl)
  refine And.intro (fun q => ?_) (fun q => ?_)
  · have q : sSo S i = 1 := nI_inj' (by omega) (by decide) (show nI (sSo S i) = nI 1 from q)
    exact go _ (by rw [if_neg q0, if_pos q])
  have q1 : ¬ sSo S i = 1 := fun p => q (by rw [p]; rfl)
  refine And.intro (fun q => ?_) (fun q => ?_)
  · have q : sSo S i = 2 := nI_inj' (by omega) (by decide) (show nI (sSo S i) = nI 2 from q)
    exact go _ (by rw [if_neg q0, if_neg q1, if_pos q])
  have q2 : ¬ sSo S i = 2 := fun p => q (by rw [p]; rfl)
  refine am_vO am_k188 am_h188 rfl rfl rfl rfl (p2) ?_
  refine am_vc_ok am_k188 [181, 235] 100 ?_
  exact go _ (by rw [if_neg q0, if_neg q1, if_neg q2])
end L61
