/-! the model's readsItem, reads -/
section L55
variable {l : Launch} {σ σ2 : tI} {τ τ2 : tL} {t : Option (Nat × Nat)} {x N p : Nat} {G : Nat → Int32}
def mrf (σ s : tI) (c : Nat) : Prop := (∀ q, q ≠ 12 → q ≠ 51 → s q = σ q) ∧ (∀ j, j ≠ 15 → s 12 0 j = σ 12 0 j) ∧ ∀ j, (j ≤ 6 * c ∨ 6 * c + 5 < j) → s 51 0 j = σ 51 0 j
theorem mrf.refl {c : Nat} : mrf σ σ c := ⟨fun _ _ _ => rfl, fun _ _ => rfl, fun _ _ => rfl⟩
theorem mrf.pl {s : tI} {c : Nat} {v : Int32} (h : mrf σ s c) : mrf σ (u3 s 12 0 15 v) c :=
  ⟨fun q a1 a2 => by rw [u3_kk _ _ a1]; exact h.1 q a1 a2, fun j hj => by rw [u3_j _ _ hj]; exact h.2.1 j hj, fun j hj => by rw [u3_k _ _ (by decide)]; exact h.2.2 j hj⟩
theorem mrf.u {s : tI} {c j : Nat} {v : Int32} (h : mrf σ s c) (hj : 6 * c < j ∧ j ≤ 6 * c + 5) : mrf σ (u3 s 51 0 j v) c :=
  ⟨fun q a1 a2 => by rw [u3_kk _ _ a2]; exact h.1 q a1 a2, fun j hj => by rw [u3_k _ _ (by decide)]; exact h.2.1 j hj, fun k hk => by rw [u3_j _ _ (by omega)]; exact h.2.2 k hk⟩
theorem mrf.mm {s s2 : tI} {c : Nat} (h : mrf σ s c) (h2 : mmf s s2 c) : mrf σ s2 c :=
  ⟨fun q a1 a2 => (h2.1 q a1 a2).trans (h.1 q a1 a2), fun j hj => (h2.2.1 j hj).trans (h.2.1 j hj), fun j hj => (h2.2.2 j (by omega)).trans (h.2.2 j hj)⟩
theorem RP.fr {s : tI} {S : aSh} {c : Nat} (h : RP σ S) (hc : sN S ≤ c) (hs : ∀ j, j < 6 * c → s 51 0 j = σ 51 0 j) : RP s S := by
  intro k w hk hw
  rw [hs _ (by omega)]
  exact h k w hk hw
def rdQ (σ : tI) (c : Nat) (R : Nat ⊕ (aIt × Nat)) (v : Option am_V) (s : tI) : Prop := mrf σ s c ∧ match R with
  | .inl q => v = some (aI 0) ∧ s 12 0 15 = nI q
  | .inr (i, q) => v = some (aI 1) ∧ s 12 0 15 = nI q ∧ rpI s c i
theorem m_sort {Q : tQ} {c : Nat} (h : M0 σ x N G) (h15 : σ 12 0 15 = nI p) (hp2 : p < 1000) (K : am_G l 176 Q 0 0 58 [(0, aR 12 0), (1, aI (nI x)), (2, aI (nI (6 * c)))] [aI (pI (soO (sgN G N p)))] σ τ (rX t) cX lX) : am_G l 176 Q 0 0 0 [(0, aR 12 0), (1, aI (nI x)), (2, aI (nI (6 * c)))] [] σ τ (rX t) cX lX := by
  have hh := m_here (l := l) (τ := τ) (t := t) h h15 hp2
  cases e : soO (sgN G N p) with
  | none =>
    rw [e] at K
    obtain ⟨n1, n2, n3, n4⟩ := soO_n e
    refine am_vc_ok am_k176 [58] 100 ?_
    refine am_vO am_k176 am_h176 rfl rfl rfl rfl (hh) ?_
    refine am_vc_ok am_k176 [58] 100 ?_
    refine And.intro (fun z => absurd z n1) (fun _ => ?_)
    refine am_vO am_k176 am_h176 rfl rfl rfl rfl (hh) ?_
    refine am_vc_ok am_k176 [58] 100 ?_
    refine And.intro (fun z => absurd z n2) (fun _ => ?_)
    refine am_vO am_k176 am_h176 rfl rfl rfl rfl (hh) ?_
    refine am_vc_ok am_k176 [58] 100 ?_
    refine And.intro (fun z => absurd z n3) (fun _ => ?_)
    refine am_vO am_k176 am_h176 rfl rfl rfl rfl (hh) ?_
    refine am_vc_ok am_k176 [58] 100 ?_
    refine And.intro (fun z => absurd z n4) (fun _ => ?_)
    exact K
  | some so =>
    rw [e] at K
    obtain ⟨-, ⟨rfl, e2⟩ | ⟨rfl, e2⟩ | ⟨rfl, e2⟩ | ⟨rfl, e2⟩⟩ := soO_s e
    · rw [e2] at hh
      refine am_vc_ok am_k176 [58] 100 ?_
      refine am_vO am_k176 am_h176 rfl rfl rfl rfl (hh) ?_
      refine am_vc_ok am_k176 [58] 100 ?_
      refine And.intro (fun _ => ?_) (fun z => absurd rfl z)
      exact K
    · rw [e2] at hh
      refine am_vc_ok am_k176 [58] 100 ?_
      refine am_vO am_k176 am_h176 rfl rfl rfl rfl (hh) ?_
      refine am_vc_ok am_k176 [58] 100 ?_
      refine And.intro (fun z => absurd z (by decide)) (fun _ => ?_)
      refine am_vO am_k176 am_h176 rfl rfl rfl rfl (hh) ?_
      refine am_vc_ok am_k176 [58] 100 ?_
      refine And.intro (fun _ => ?_) (fun z => absurd rfl z)
      exact K
    · rw [e2] at hh
      refine am_vc_ok am_k176 [58] 100 ?_
      refine am_vO am_k176 am_h176 rfl rfl rfl rfl (hh) ?_
      refine am_vc_ok am_k176 [58] 100 ?_
      refine And.intro (fun z => absurd z (by decide)) (fun _ => ?_)
      refine am_vO am_k176 am_h176 rfl rfl rfl rfl (hh) ?_
      refine am_vc_ok am_k176 [58] 100 ?_
      refine And.intro (fun z => absurd z (by decide)) (fun _ => ?_)
      refine am_vO am_k176 am_h176 rfl rfl rfl rfl (hh) ?_
      refine am_vc_ok am_k176 [58] 100 ?_
      refine And.intro (fun _ => ?_) (fun z => absurd rfl z)
      exact K
    · rw [e2] at hh
      refine am_vc_ok am_k176 [58] 100 ?_
      refine am_vO am_k176 am_h176 rfl rfl rfl rfl (hh) ?_
      refine am_vc_ok am_k176 [58] 100 ?_
      refine And.intro (fun z => absurd z (by decide)) (fun _ => ?_)
      refine am_vO am_k176 am_h176 rfl rfl rfl rfl (hh) ?_
      refine am_vc_ok am_k176 [58] 100 ?_
      refine And.intro (fun z => absurd z (by decide)) (fun _ => ?_)
      refine am_vO am_k176 am_h176 rfl rfl rfl rfl (hh) ?_
      refine am_vc_ok am_k176 [58] 100 ?_
      refine And.intro (fun z => absurd z (by decide)) (fun _ => ?_)
      refine am_vO am_k176 am_h176 rfl rfl rfl rfl (hh) ?_
      refine am_vc_ok am_k176 [58] 100 ?_
      refine And.intro (fun _ => ?_) (fun z => absurd rfl z)
      exact K
theorem m_ri2 {Q : tQ} {s : tI} {S : aSh} {nm so ch q0 c : Nat} {R : Nat ⊕ (aIt × Nat)} (h : M0 σ x N G) (hc : sN S = c) (hc2 : c < 12) (hf : mrf σ s c) (hq0 : q0 ≤ N) (h15 : s 12 0 15 = nI q0) (hS : ShOK S) (hX : RP σ S) (hI : rpI s c (nm, so, ch, 0, 9, none)) (hnm : nm < 16) (hso : so < 4) (hch : ch ≤ 9) (hR : itE (sgN G N) S nm so ch q0 = R) (hQ : ∀ v s, rdQ σ c R v s → Q v s τ (rX t) cX lX) : am_G l 176 Q 0 0 173 [(3, aI (nI so)), (0, aR 12 0), (1, aI (nI x)), (2, aI (nI (6 * c)))] [] s τ (rX t) cX lX := by
  have hM : M0 s x N G := h.fr (hf.1 47 (by decide) (by decide)) (hf.1 48 (by decide) (by decide))
  unfold itE at hR
  refine am_vc_ok am_k176 [176] 100 ?_
  refine am_Gp (ls2 := [(4, aI (nI 0)), (3, aI (nI so)), (0, aR 12 0), (1, aI (nI x)), (2, aI (nI (6 * c)))]) [0, 1, 2, 3, 4] rfl ?_
  refine m_mk_lp (σ := s) (R := mkP (sgN G N) so 4 0 (0, 9, none) q0) hso hM hc2 ?_ ?_ 4 0 q0 (0, 9, none) s (by decide) (by decide) hq0 rfl ⟨fun _ _ _ => rfl, fun _ _ => rfl, fun _ _ => rfl⟩ h15 hI.2.2.2
  · intro q s2 e hf2 h2
    rw [e] at hR
    refine hQ _ _ ⟨hf.mm hf2, ?_⟩
    rw [← hR]
    exact ⟨rfl, h2⟩
  · intro it q s2 e hf2 h2 hI2
    rw [e] at hR
    obtain ⟨b1, b2, b3, b4⟩ := mkP_b sgN_N 4 0 (0, 9, none) it q0 q hq0 e ⟨by decide, by decide, fun x hx => by cases hx⟩
    have hf3 := hf.mm hf2
    have hX2 : RP s2 S := hX.fr (c := c) (by omega) (fun j hj => hf3.2.2 j (Or.inl (by omega)))
    have hI3 : rpI s2 c (nm, so, ch, it) := ⟨by rw [hf2.2.2 _ (by omega)]; exact hI.1, by rw [hf2.2.2 _ (by omega)]; exact hI.2.1, by rw [hf2.2.2 _ (by omega)]; exact hI.2.2.1, hI2⟩
    refine am_vc_ok am_k176 [] 100 ?_
    refine am_vO am_k176 am_h176 rfl rfl rfl rfl (m_isItem (S := S) (i := (nm, so, ch, it)) hc hc2 hX2 hS hI3 ⟨hnm, hso, hch, b2, b3, fun d hd => (b4 d hd).1⟩ (fun d hd => (b4 d hd).2)) ?_
    refine am_vc_ok am_k176 [] 100 ?_
    refine am_vZ am_k176 am_r176 rfl cI_01 (hQ _ _ ⟨hf3, ?_⟩)
    by_cases hok : itOK S (nm, so, ch, it)
    · have hR : (Sum.inr ((nm, so, ch, it), q) : Nat ⊕ (aIt × Nat)) = R := by
        rw [← hR]
        exact (if_pos hok).symm
      rw [← hR]
      exact ⟨congrArg (fun x => some (aI x)) (cI_t hok), h2, hI3⟩
    · have hR : (Sum.inl q : Nat ⊕ (aIt × Nat)) = R := by
        rw [← hR]
        exact (if_neg hok).symm
      rw [← hR]
      exact ⟨congrArg (fun x => some (aI x)) (cI_f hok), h2⟩
theorem m_readsItem {S : aSh} {nm c : Nat} (h : M0 σ x N G) (hc : sN S = c) (hc2 : c < 12) (hp : p < N) (h15 : σ 12 0 15 = nI (p + 1)) (hS : ShOK S) (hX : RP σ S) (hnm : nmO (sgN G N p) = some nm) (h0 : σ 51 0 (6 * c) = nI nm) : am_T l 176 [aR 12 0, aI (nI x), aI (nI (6 * c))] σ τ t (fun v s τ2 t2 => τ2 = τ ∧ t2 = t ∧ rdQ σ c (itP (sgN G N) S p) v s) := by
  have hN := h.2.1
  have hnm2 := (nmO_s hnm).1
  generalize hR : itP (sgN G N) S p = R
  unfold itP at hR
  rw [hnm] at hR
  simp only [if_neg (show ¬ sN S = 12 by omega)] at hR
  refine am_T_of am_o176 am_l176 rfl ?_
  refine m_sort (p := p + 1) h h15 (by omega) ?_
  have hQ : ∀ v s, rdQ σ c R v s → xQ (fun v s τ2 t2 => τ2 = τ ∧ t2 = t ∧ rdQ σ c R v s) v s τ (rX t) cX lX := fun v s hs => ⟨_, rfl, rfl, rfl, rfl, rfl, hs⟩
  cases e2 : soO (sgN G N (p + 1)) with
  | none =>
    rw [e2] at hR
    refine am_vc_ok am_k176 [173] 100 ?_
    refine And.intro (fun z => absurd z (by decide)) (fun _ => ?_)
    refine am_vZ am_k176 am_r176 rfl (Or.inl rfl) (hQ _ _ ⟨mrf.refl, ?_⟩)
    rw [← hR]
    exact ⟨rfl, h15⟩
  | some so =>
    rw [e2] at hR
    obtain ⟨hso, -⟩ := soO_s e2
    have hpN1 : p + 1 < N := some_lt (f := soO) soO9 e2
    refine am_vc_ok am_k176 [173] 100 ?_
    refine And.intro (fun _ => ?_) (fun z => absurd (nI_pos' (by omega)) z)
    refine And.intro (i72 (w := 1) (by omega) (by decide)) ?_
    rw [show nI (6 * c) + 1 = nI (6 * c) + nI 1 from rfl, c72 (by omega) (by decide)]
    refine And.intro (i72 (w := 2) (by omega) (by decide)) ?_
    rw [show nI (6 * c) + 2 = nI (6 * c) + nI 2 from rfl, c72 (by omega) (by decide)]
    refine And.intro (i72 (w := 3) (by omega) (by decide)) ?_
    rw [show nI (6 * c) + 3 = nI (6 * c) + nI 3 from rfl, c72 (by omega) (by decide)]
    refine And.intro (i72 (w := 4) (by omega) (by decide)) ?_
    rw [show nI (6 * c) + 4 = nI (6 * c) + nI 4 from rfl, c72 (by omega) (by decide)]
    refine And.intro (i72 (w := 5) (by omega) (by decide)) ?_
    rw [show nI (6 * c) + 5 = nI (6 * c) + nI 5 from rfl, c72 (by omega) (by decide)]
    generalize hs1 : u3 (u3 (u3 (u3 (u3 (u3 σ 12 0 15 (σ 12 0 15 + 1)) 51 0 (6 * c + 1) (pI (some so))) 51 0 (6 * c + 2) 0) 51 0 (6 * c + 3) 0) 51 0 (6 * c + 4) 9) 51 0 (6 * c + 5) (-9) = s1
    have hf : mrf σ s1 c := by
      rw [← hs1]
      exact ((((mrf.refl.pl.u (by omega)).u (by omega)).u (by omega)).u (by omega)).u (by omega)
    have f15 : s1 12 0 15 = nI (p + 2) := by
      rw [← hs1, u3_k _ _ (by decide), u3_k _ _ (by decide), u3_k _ _ (by decide), u3_k _ _ (by decide), u3_k _ _ (by decide), u3_eq, h15, nI_1]
    have hI : rpI s1 c (nm, so, 0, 0, 9, none) := by
      refine ⟨(hf.2.2 _ (Or.inl (Nat.le_refl _))).trans h0, ?_, ?_, ?_, ?_, ?_⟩
      · show _ = nI so; rw [← hs1]; simp [u3, pI]
      · show _ = nI 0; rw [← hs1]; simp [u3]; rfl
      · show _ = nI 0; rw [← hs1]; simp [u3]; rfl
      · show _ = nI 9; rw [← hs1]; simp [u3]; rfl
      · show _ = pI none; rw [← hs1]; simp [u3]; rfl
    have hM1 : M0 s1 x N G := h.fr (hf.1 47 (by decide) (by decide)) (hf.1 48 (by decide) (by decide))
    refine And.intro (fun z => ?_) (fun z => ?_)
    · have z : so = 3 := nI_inj' (by omega) (by decide) (show nI so = nI 3 from z)
      simp only [if_pos z] at hR
      refine am_vO am_k176 am_h176 rfl rfl rfl rfl (m_isFigure hM1 f15 (by omega)) ?_
      refine am_vc_ok am_k176 [173] 100 ?_
      cases e3 : fgO (sgN G N (p + 2)) with
      | none =>
        rw [e3] at hR
        refine And.intro (fun _ => ?_) (fun g => absurd (bI_1.mp g) (fgO_n e3))
        refine am_vZ am_k176 am_r176 rfl (Or.inl rfl) (hQ _ _ ⟨hf, ?_⟩)
        rw [← hR]
        exact ⟨rfl, f15⟩
      | some ch =>
        rw [e3] at hR
        obtain ⟨hc9, hv⟩ := fgO_s e3
        have hpN2 : p + 2 < N := some_lt (f := fgO) fgO9 e3
        refine And.intro (fun g => absurd (fgO_r e3) (bI_0.mp g)) (fun _ => ?_)
        have hh := m_here (l := l) (τ := τ) (t := t) hM1 f15 (by omega)
        rw [hv] at hh
        refine am_vO am_k176 am_h176 rfl rfl rfl rfl (hh) ?_
        refine am_vc_ok am_k176 [173] 100 ?_
        refine And.intro (fun g => ?_) (fun g => ?_)
        · have g : ch = 0 := by
            have := nI_inj' (by omega) (by decide) (show nI (ch + 48) = nI 48 from g)
            omega
          simp only [if_pos g] at hR
          refine am_vZ am_k176 am_r176 rfl (Or.inl rfl) (hQ _ _ ⟨hf, ?_⟩)
          rw [← hR]
          exact ⟨rfl, f15⟩
        · have g : ¬ ch = 0 := fun y => g (by rw [y]; rfl)
          simp only [if_neg g] at hR
          refine am_vO am_k176 am_h176 rfl rfl rfl rfl (hh) ?_
          refine am_vc_ok am_k176 [173] 100 ?_
          refine And.intro (i72 (w := 2) (by omega) (by decide)) ?_
          rw [show nI (6 * c) + 2 = nI (6 * c) + nI 2 from rfl, c72 (by omega) (by decide), show nI (ch + 48) - 48 = nI ch by rw [show (48 : Int32) = nI 48 from rfl, nI_sub' (by omega), show ch + 48 - 48 = ch by omega]]
          have hf2 : mrf σ (u3 (u3 s1 51 0 (6 * c + 2) (nI ch)) 12 0 15 (nI (p + 3))) c := (hf.u (by omega)).pl
          refine am_Gs (σ2 := u3 (u3 s1 51 0 (6 * c + 2) (nI ch)) 12 0 15 (nI (p + 3))) (by rw [u3_k (a := 12) (b := 0) (c := 15) _ _ (by decide), f15, nI_1]) ?_
          refine am_Gp [0, 1, 2, 3] rfl (m_ri2 (ch := ch) h hc hc2 hf2 (by omega) (u3_eq _ _ _ _ _) hS hX ?_ hnm2 hso hc9 hR hQ)
          refine ⟨?_, ?_, ?_, ?_, ?_, ?_⟩
          · rw [u3_k _ _ (by decide), u3_j _ _ (by omega)]; exact hI.1
          · rw [u3_k _ _ (by decide), u3_j _ _ (by omega)]; exact hI.2.1
          · rw [u3_k _ _ (by decide), u3_eq]
          · rw [u3_k _ _ (by decide), u3_j _ _ (by omega)]; exact hI.2.2.2.1
          · rw [u3_k _ _ (by decide), u3_j _ _ (by omega)]; exact hI.2.2.2.2.1
          · rw [u3_k _ _ (by decide), u3_j _ _ (by omega)]; exact hI.2.2.2.2.2
    · have z : ¬ so = 3 := fun y => z (by rw [y]; rfl)
      simp only [if_neg z, if_neg (show ¬ 1 = 0 by decide)] at hR
      exact am_Gp [0, 1, 2, 3] rfl (m_ri2 (ch := 0) h hc hc2 hf (by omega) f15 hS hX hI hnm2 hso (by omega) hR hQ)
/-- only the reader's own cells have changed -/
def rdF (σ s : tI) : Prop := (∀ q, q ≠ 12 → q ≠ 51 → s q = σ q) ∧ ∀ j, j ≠ 13 → j ≠ 15 → s 12 0 j = σ 12 0 j
def rsQ (σ : tI) (R : Nat ⊕ aSh) (v : Option am_V) (s : tI) : Prop := rdF σ s ∧ match R with
  | .inl q => v = some (aI (nI q))
  | .inr S => v = some (aI (-9)) ∧ s 12 0 13 = nI (sN S) ∧ RP s S ∧ ShOK S
theorem rdF.u {s : tI} {j : Nat} {v : Int32} (h : rdF σ s) (hj : j = 13 ∨ j = 15) : rdF σ (u3 s 12 0 j v) :=
  ⟨fun q a1 a2 => by rw [u3_kk _ _ a1]; exact h.1 q a1 a2, fun k a1 a2 => by rw [u3_j _ _ (by omega)]; exact h.2 k a1 a2⟩
theorem rdF.w {s : tI} {j : Nat} {v : Int32} (h : rdF σ s) : rdF σ (u3 s 51 0 j v) :=
  ⟨fun q a1 a2 => by rw [u3_kk _ _ a2]; exact h.1 q a1 a2, fun k a1 a2 => by rw [u3_k _ _ (by decide)]; exact h.2 k a1 a2⟩
theorem rdF.m {s s2 : tI} {c : Nat} (h : rdF σ s) (h2 : mrf s s2 c) : rdF σ s2 :=
  ⟨fun q a1 a2 => (h2.1 q a1 a2).trans (h.1 q a1 a2), fun k a1 a2 => (h2.2.1 k a2).trans (h.2 k a1 a2)⟩
theorem RP.psh {S : aSh} {i : aIt} (h : RP σ S) (hi : rpI σ (sN S) i) : RP σ (psh S i) := by
  intro k w hk hw
  have hk : k < sN S + 1 := hk
  by_cases e : k = sN S
  · subst e
    obtain ⟨p1, p2, p3, p4, p5, p6⟩ := psh_eq (S := S) (i := i)
    unfold sF
    rw [p1, p2, p3, p4, p5, p6]
    obtain ⟨y1, y2, y3, y4, y5, y6⟩ := hi
    obtain rfl | rfl | rfl | rfl | rfl | rfl : w = 0 ∨ w = 1 ∨ w = 2 ∨ w = 3 ∨ w = 4 ∨ w = 5 := by omega
    · exact y1
    · exact y2
    · exact y3
    · exact y4
    · exact y5
    · exact y6
  · obtain ⟨p1, p2, p3, p4, p5, p6⟩ := psh_lt (S := S) (i := i) (k := k) (by omega)
    unfold sF
    rw [p1, p2, p3, p4, p5, p6]
    exact h k w (by omega) hw
theorem m_rd_lp {Q : tQ} {R : Nat ⊕ aSh} (h : M0 σ x N G) (hQ : ∀ v s, rsQ σ R v s → Q v s τ (rX t) cX lX) : ∀ (d p : Nat) (S : aSh) (s : tI), N < p + d → p ≤ N → pA (sgN G N) N S p = R → rdF σ s → s 12 0 15 = nI p → s 12 0 13 = nI (sN S) → RP s S → ShOK S → am_G l 178 Q 0 0 10 [(0, aR 12 0), (1, aI (nI x))] [] s τ (rX t) cX lX
  | 0, p, S, s, hd, hp, hR, hsc, h15, h13, hX, hS => absurd hd (by omega)
  | d + 1, p, S, s, hd, hp, hR, hsc, h15, h13, hX, hS => by
    have hN := h.2.1
    have hM : M0 s x N G := h.fr (hsc.1 47 (by decide) (by decide)) (hsc.1 48 (by decide) (by decide))
    have s12 := hS.1
    have fin := fun p S s => m_rd_lp h hQ d p S s
    have hh := m_here (l := l) (τ := τ) (t := t) hM h15 (by omega)
    refine am_vc_ok am_k178 [10] 100 ?_
    refine And.intro (vp_in_nI (N := 6) h.2.2.1 (by decide)) ?_
    rw [nI_clamp (n := x) (by have := h.2.2.1; omega), hM.1, h15]
    refine And.intro (fun e => ?_) (fun e => ?_)
    · have e : ¬ p < N := fun z => absurd e (nI_ge z (by omega))
      rw [pA_end (by omega)] at hR
      refine am_vI am_k178 am_r178 rfl (hQ _ _ ⟨hsc, ?_⟩)
      rw [← hR]
      exact ⟨rfl, h13, hX, hS⟩
    have e : p < N := (nI_ltI (by omega) (by omega)).mp (Int32.not_le.mp e)
    refine am_vO am_k178 am_h178 rfl rfl rfl rfl (hh) ?_
    refine am_vc_ok am_k178 [10] 100 ?_
    refine And.intro (fun g => ?_) (fun g => ?_)
    · have g : sgN G N p = 32 := g
      rw [pA_bl e g] at hR
      have K2 := fin (p + 1) S (u3 s 12 0 15 (s 12 0 15 + 1)) (by omega) (by omega) hR (hsc.u (Or.inr rfl)) (by rw [u3_eq, h15, nI_1]) (by rw [u3_j _ _ (by decide)]; exact h13) (hX.fr (Nat.le_refl _) (fun j _ => by rw [u3_k _ _ (by decide)])) hS
      exact K2
    have g : ¬ sgN G N p = 32 := g
    refine am_vO am_k178 am_h178 rfl rfl rfl rfl (hh) ?_
    refine am_vc_ok am_k178 [10] 100 ?_
    refine am_vS am_k178 am_h178 rfl rfl rfl rfl (m_in) ?_
    refine am_vc_ok am_k178 [10] 100 ?_
    have ret : itP (sgN G N) S p = .inl p → Q (some (aI (s 12 0 15))) s τ (rX t) cX lX := by
      intro hi
      rw [pA_no e g hi] at hR
      refine hQ _ _ ⟨hsc, ?_⟩
      rw [← hR]
      exact congrArg (fun x => some (aI x)) h15
    cases e1 : nmO (sgN G N p) with
    | none =>
      refine And.intro (fun _ => ?_) (fun z => absurd (bI_1.mp z) (nmO_n e1))
      refine am_vI am_k178 am_r178 rfl (ret ?_)
      unfold itP
      rw [e1]
    | some nm =>
      obtain ⟨hnm, hsg⟩ := nmO_s e1
      refine And.intro (fun z => absurd (show 97 ≤ sgN G N p ∧ sgN G N p ≤ 112 from ?_) (bI_0.mp z)) (fun _ => ?_)
      · rw [hsg]
        exact ⟨nI_le (a := 97) (by omega) (by omega), nI_le (b := 112) (by omega) (by decide)⟩
      refine And.intro (fun z => ?_) (fun z => ?_)
      · have z : s 12 0 13 = 12 := z
        rw [h13] at z
        have z : sN S = 12 := nI_inj' (by omega) (by decide) (show nI (sN S) = nI 12 from z)
        refine am_vI am_k178 am_r178 rfl (ret ?_)
        unfold itP
        rw [e1]
        exact if_pos z
      · have z : ¬ sN S = 12 := fun y => z (by
          show s 12 0 13 = 12
          rw [h13, y]
          rfl)
        have e6 : 6 * s 12 0 13 = nI (6 * sN S) := by rw [h13, show (6 : Int32) = nI 6 from rfl, pk_mul]
        have hsub : nI (nm + 97) - 97 = nI nm := by rw [show (97 : Int32) = nI 97 from rfl, nI_sub' (by omega), show nm + 97 - 97 = nm by omega]
        rw [hsg] at hh
        refine am_vO am_k178 am_h178 rfl rfl rfl rfl (hh) ?_
        refine am_vc_ok am_k178 [10] 100 ?_
        refine And.intro (by rw [e6]; exact vp_in_nI (N := 72) (by omega) (by decide)) ?_
        rw [e6, nI_clamp (by omega), hsub]
        generalize hs1 : u3 s 51 0 (6 * sN S) (nI nm) = s1
        have f15 : s1 12 0 15 = nI p := by rw [← hs1, u3_k _ _ (by decide)]; exact h15
        have f13 : s1 12 0 13 = nI (sN S) := by rw [← hs1, u3_k _ _ (by decide)]; exact h13
        have hsc1 : rdF σ s1 := by rw [← hs1]; exact hsc.w
        have hX1 : RP s1 S := hX.fr (Nat.le_refl _) (fun j hj => by rw [← hs1, u3_j _ _ (by omega)])
        have f0 : s1 51 0 (6 * sN S) = nI nm := by rw [← hs1, u3_eq]
        have hM2 : M0 (u3 s1 12 0 15 (s1 12 0 15 + 1)) x N G := h.fr (by rw [u3_kk _ _ (by decide)]; exact hsc1.1 47 (by decide) (by decide)) (by rw [u3_kk _ _ (by decide)]; exact hsc1.1 48 (by decide) (by decide))
        have hrd := m_readsItem (l := l) (τ := τ) (t := t) (S := S) hM2 rfl (by omega) e (by rw [u3_eq, f15, nI_1]) hS (hX1.fr (Nat.le_refl _) (fun j _ => by rw [u3_k _ _ (by decide)])) e1 (by rw [u3_k _ _ (by decide)]; exact f0)
        have e6b : 6 * u3 s1 12 0 15 (s1 12 0 15 + 1) 12 0 13 = nI (6 * sN S) := by rw [u3_j _ _ (by decide), f13, show (6 : Int32) = nI 6 from rfl, pk_mul]
        rw [← e6b] at hrd
        refine am_vOT am_k178 am_h178 rfl rfl rfl rfl (hrd) ?_
        rintro v s2 τ2 t2 ⟨rfl, rfl, hf2, hI⟩
        have hsc2 : rdF σ s2 := (hsc1.u (Or.inr rfl)).m hf2
        cases e2 : itP (sgN G N) S p with
        | inl q =>
          rw [e2] at hI
          obtain ⟨rfl, j1⟩ := hI
          rw [pA_no e g e2] at hR
          refine am_vc_ok am_k178 [10] 100 ?_
          refine And.intro (fun _ => ?_) (fun y => absurd rfl y)
          refine am_vI am_k178 am_r178 rfl (hQ _ _ ⟨hsc2, ?_⟩)
          rw [← hR]
          exact congrArg (fun x => some (aI x)) j1
        | inr iq =>
          obtain ⟨i, q⟩ := iq
          rw [e2] at hI
          obtain ⟨rfl, j1, j2⟩ := hI
          rw [pA_it e g e2] at hR
          obtain ⟨b1, b2, b3, b4, b5, b6, b7⟩ := itP_b sgN_N e2
          have hx := itP_p e2
          have i13 : s2 12 0 13 = nI (sN S) := by rw [hf2.2.1 13 (by decide), u3_j _ _ (by decide)]; exact f13
          have hX2 : RP s2 S := hX1.fr (Nat.le_refl _) (fun j hj => by rw [hf2.2.2 j (Or.inl (by omega)), u3_k _ _ (by decide)])
          have K2 := fin q (psh S i) (u3 s2 12 0 13 (s2 12 0 13 + 1)) (by omega) b1 hR (hsc2.u (Or.inl rfl)) (by rw [u3_j _ _ (by decide)]; exact j1) (by rw [u3_eq, i13, nI_1]; rfl) ((hX2.psh j2).fr (c := 12) (by have : sN (psh S i) = sN S + 1 := rfl; omega) (fun j _ => by rw [u3_k _ _ (by decide)])) (psh_ok hS b2 b3 b4 b5 b6 b7)
          refine am_vc_ok am_k178 [10] 100 ?_
          refine And.intro (fun y => absurd y (by decide)) (fun _ => ?_)
          exact K2
theorem m_reads (h : M0 σ x N G) : am_T l 178 [aR 12 0, aI (nI x)] σ τ t (fun v s τ2 t2 => τ2 = τ ∧ t2 = t ∧ rsQ σ (pA (sgN G N) N S0 0) v s) := by
  refine am_T_of am_o178 am_l178 rfl ?_
  refine am_vc_ok am_k178 [10] 100 ?_
  refine m_rd_lp (σ := σ) h ?_ (N + 1) 0 S0 _ (by omega) (by omega) rfl (rdF.u (j := 13) (rdF.u (j := 15) ⟨fun _ _ _ => rfl, fun _ _ _ => rfl⟩ (Or.inr rfl)) (Or.inl rfl)) (by rw [u3_j _ _ (by decide), u3_eq]; rfl) (u3_eq _ _ _ _ _) (fun k w hk => absurd hk (Nat.not_lt_zero k)) S0_ok
  intro v s hs
  exact ⟨_, rfl, rfl, rfl, rfl, rfl, hs⟩
end L55
