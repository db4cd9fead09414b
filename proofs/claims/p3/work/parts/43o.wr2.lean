/-! the class's encode, write -/
section L60
variable {l : Launch} {σ σ2 : tI} {τ τ2 : tL} {t : Option (Nat × Nat)} {r M : Nat} {g : Nat → Int32}
def weQ (σ : tI) (R : Option wO) (v : Option am_V) (s : tI) : Prop := wxF σ s ∧ match R with
  | none => v = some (aI 3) ∨ v = some (aI 5)
  | some o => v = some (aI (-9)) ∧ s 6 0 1 = nI o.1 ∧ (∀ j, j < o.1 → s 30 0 j = o.2 j) ∧ o.1 ≤ 132
theorem x_en_lp {Q : tQ} {i vv : Nat} {S : aSh} (hi : i < 5) (hv : vv < 10) (hS : ShOK S) (h9 : σ 9 i 1 = nI (sN S)) (hX : XItems σ i S) (h : W0 σ r M g) {R : Option wO} (hQ : ∀ v s, weQ σ R v s → Q v s τ (rX t) cX lX) : ∀ (d k nx : Nat) (o : wO) (s : tI), k + d = sN S → nx ≤ M → o.1 ≤ 11 * k → wrP S vv g M d k nx o = R → wxF σ s → wI s nx o → am_G l 88 Q 0 0 16 [(4, aI (nI k)), (0, aR 10 0), (1, aR 9 i), (2, aI (nI vv)), (3, aR 6 r)] [] s τ (rX t) cX lX
  | 0, k, nx, o, s, hk, h1, h2, hR, hf, hI => by
    have s12 := hS.1
    have hM := h.2.1
    have e9 : s 9 i 1 = nI (sN S) := by rw [hf.1 9 (by decide) (by decide) (by decide)]; exact h9
    have e6 : s 6 r 1 = nI M := (h.fr hf).1
    obtain rfl : k = sN S := by omega
    refine am_vc_ok am_k88 [16] 100 ?_
    refine And.intro (fun _ => ?_) (fun z => absurd (by rw [e9]; exact nI_le (Nat.le_refl _) (by omega)) z)
    refine And.intro (fun z => ?_) (fun z => ?_)
    · have z : s 10 0 1 = s 6 r 1 := z
      rw [hI.1, e6] at z
      have z : nx = M := nI_inj' (by omega) (by omega) z
      rw [wrP, if_pos z] at hR
      refine am_vI am_k88 am_r88 rfl (hQ _ _ ⟨hf, ?_⟩)
      rw [← hR]
      exact ⟨rfl, hI.2.1, hI.2.2, by omega⟩
    · have z : ¬ nx = M := fun y => z (by
        show s 10 0 1 = s 6 r 1
        rw [hI.1, e6, y])
      rw [wrP, if_neg z] at hR
      refine am_vI am_k88 am_r88 rfl (hQ _ _ ⟨hf, ?_⟩)
      rw [← hR]
      exact Or.inr rfl
  | d + 1, k, nx, o, s, hk, h1, h2, hR, hf, hI => by
    have s12 := hS.1
    have hM := h.2.1
    have e9 : s 9 i 1 = nI (sN S) := by rw [hf.1 9 (by decide) (by decide) (by decide)]; exact h9
    have hXs : XItems s i S := hX.fr (Nat.le_refl _) (fun q k a b _ => by rw [hf.1 q (by omega) (by omega) (by omega)])
    obtain ⟨x1, x2, x3, x4, x5, x6⟩ := hXs k (by omega)
    obtain ⟨b1, b2, b3, b4, b5, b6, -⟩ := hS.2.1 k (by omega)
    have fin := fun nx o s => x_en_lp hi hv hS h9 hX h hQ d (k + 1) nx o s (by omega)
    have hiff : (s 35 i k ≤ nI vv ∧ nI vv ≤ s 36 i k) ↔ (sSi S k ≤ vv ∧ vv ≤ sTi S k) := by
      rw [x4, x5, nI_leI (by omega) (by omega), nI_leI (by omega) (by omega)]
    unfold wrP at hR
    refine am_vc_ok am_k88 [16] 100 ?_
    refine And.intro (fun z => absurd z (by rw [e9]; exact nI_ge (by omega) (by omega))) (fun _ => ?_)
    refine am_vO am_k88 am_h88 rfl rfl rfl rfl (x_has (by omega)) ?_
    refine am_vc_ok am_k88 [16] 100 ?_
    refine And.intro (fun z => ?_) (fun z => ?_)
    · have z : ¬ (sSi S k ≤ vv ∧ vv ≤ sTi S k) := fun y => bI_0.mp z (hiff.mpr y)
      rw [if_neg z] at hR
      have K2 := fin nx o s h1 (by omega) hR hf hI
      rw [← nI_1 k] at K2
      exact K2
    · have z := hiff.mp (bI_1.mp z)
      rw [if_pos z] at hR
      refine am_vOT am_k88 am_h88 rfl rfl rfl rfl (x_field (o := o) hi hS (show k < sN S by omega) hXs (h.fr hf) h1 (by omega) hI) ?_
      rintro v s2 τ2 t2 ⟨rfl, rfl, hf2, h3⟩
      have hf3 := hf.tr hf2
      cases e : wrF S g M k nx o with
      | none =>
        rw [e] at h3 hR
        rcases h3 with rfl | rfl
        · refine am_vc_ok am_k88 [16] 100 ?_
          refine And.intro (fun y => absurd y (by decide)) (fun _ => ?_)
          refine am_vI am_k88 am_r88 rfl (hQ _ _ ⟨hf3, ?_⟩)
          rw [← hR]
          exact Or.inl rfl
        · refine am_vc_ok am_k88 [16] 100 ?_
          refine And.intro (fun y => absurd y (by decide)) (fun _ => ?_)
          refine am_vI am_k88 am_r88 rfl (hQ _ _ ⟨hf3, ?_⟩)
          rw [← hR]
          exact Or.inr rfl
      | some p =>
        obtain ⟨nx2, o2⟩ := p
        rw [e] at h3 hR
        obtain ⟨rfl, hI2⟩ := h3
        have hl := wrF_len e
        have K2 := fin nx2 o2 s2 hl.2 (by omega) hR hf3 hI2
        refine am_vc_ok am_k88 [16] 100 ?_
        refine And.intro (fun _ => ?_) (fun y => absurd rfl y)
        rw [← nI_1 k] at K2
        exact am_Gp [0, 2, 3, 4, 5] rfl K2
def o0 : wO := (0, fun _ => 0)
theorem x_encode {i vv : Nat} {S : aSh} (hi : i < 5) (hv : vv < 10) (hS : ShOK S) (h9 : σ 9 i 1 = nI (sN S)) (hX : XItems σ i S) (h : W0 σ r M g) : am_T l 88 [aR 10 0, aR 9 i, aI (nI vv), aR 6 r] σ τ t (fun v s τ2 t2 => τ2 = τ ∧ t2 = t ∧ weQ σ (wrP S vv g M (sN S) 0 0 o0) v s) := by
  refine am_T_of am_o88 am_l88 rfl ?_
  refine am_vc_ok am_k88 [16] 100 ?_
  refine x_en_lp (σ := σ) hi hv hS h9 hX h ?_ (sN S) 0 0 o0 _ (by omega) (by omega) (by decide) rfl ((wxF.refl.u (by decide)).u (by decide)) ⟨u3_eq _ _ _ _ _, by rw [u3_k _ _ (by decide), u3_eq]; rfl, fun j hj => absurd hj (Nat.not_lt_zero j)⟩
  intro v s hs
  exact ⟨_, rfl, rfl, rfl, rfl, rfl, hs⟩
abbrev xbec (σ : tI) (r q n : Nat) : tI := xapp (u3 (u3 σ 6 r 0 1) 6 r 1 0) r q 0 n
theorem x_rbecome {r q n : Nat} (hrq : q ≠ r) (h2 : σ 6 q 1 = nI n) (hr : lX 30 r = 60) (hq : n ≤ lX 30 q) (hs : n ≤ 60) : am_D l 58 [aR 6 r, aR 6 q] σ τ (rX t) cX lX none (xbec σ r q n) τ (rX t) := by
  refine am_D_of am_o58 am_l58 rfl ?_
  refine am_vc_ok am_k58 [] 100 ?_
  refine And.intro (Or.inr rfl) ?_
  refine am_vO am_k58 am_h58 rfl rfl rfl rfl (x_addAll (n1 := 0) (n2 := n) (u3_eq _ _ _ _ _) (by rw [u3_i _ _ hrq, u3_i _ _ hrq]; exact h2) hr hq (by omega)) ?_
  refine am_vc_ok am_k58 [] 100 ?_
  exact am_vV am_k58 am_r58 rfl ⟨rfl, rfl, rfl, rfl, rfl, rfl⟩
/-- what write leaves in the class -/
def wwQ (σ : tI) (x : Nat) (R : Option wO) (v : Option am_V) (s : tI) : Prop := match R with
  | none => v = some (aI (-3)) ∧ ∃ s1 w, w < 6 ∧ wxF σ s1 ∧ s = xfind w s1
  | some o => if o.1 ≤ 60 then v = some (aI (nI o.1)) ∧ ∃ s1, wxF σ s1 ∧ (∀ j, j < o.1 → s1 30 0 j = o.2 j) ∧ s = xbec s1 (10 + x) 0 o.1 else v = some (aI (-3)) ∧ ∃ s1 w, w < 6 ∧ wxF σ s1 ∧ s = xfind w s1
theorem x_writeB {a b c d : Int32} (h : ¬ ((0 ≤ a ∧ a < 4) ∧ (0 ≤ b ∧ b < 10) ∧ (0 ≤ c ∧ c < 6) ∧ (0 ≤ d ∧ d < 6))) : am_D l 105 [aR 11 0, aI a, aI b, aI c, aI d] σ τ (rX t) cX lX (some (aI (-1))) σ τ (rX t) := by
  refine am_D_of am_o105 am_l105 rfl ?_
  refine am_vc_ok am_k105 [] 100 ?_
  refine am_vS am_k105 am_h105 rfl rfl rfl rfl (x_within) ?_
  refine am_vc_ok am_k105 [] 100 ?_
  refine And.intro (fun h1 => ?_) (fun h1 => ?_)
  · exact am_vI am_k105 am_r105 rfl ⟨rfl, rfl, rfl, rfl, rfl, rfl⟩
  refine am_vS am_k105 am_h105 rfl rfl rfl rfl (x_within) ?_
  refine am_vc_ok am_k105 [] 100 ?_
  refine And.intro (fun h2 => ?_) (fun h2 => ?_)
  · exact am_vI am_k105 am_r105 rfl ⟨rfl, rfl, rfl, rfl, rfl, rfl⟩
  refine am_vS am_k105 am_h105 rfl rfl rfl rfl (x_within) ?_
  refine am_vc_ok am_k105 [] 100 ?_
  refine And.intro (fun h3 => ?_) (fun h3 => ?_)
  · exact am_vI am_k105 am_r105 rfl ⟨rfl, rfl, rfl, rfl, rfl, rfl⟩
  refine am_vS am_k105 am_h105 rfl rfl rfl rfl (x_within) ?_
  refine am_vc_ok am_k105 [] 100 ?_
  refine And.intro (fun h4 => ?_) (fun h4 => ?_)
  · exact am_vI am_k105 am_r105 rfl ⟨rfl, rfl, rfl, rfl, rfl, rfl⟩
  · exact absurd ⟨bI_1.mp h1, bI_1.mp h2, bI_1.mp h3, bI_1.mp h4⟩ h
theorem x_write_no {s v rr x : Nat} (hs : s < 4) (hv : v < 10) (hr : rr < 6) (hx : x < 6) (h0 : σ 9 (1 + s) 0 = 0 ∨ σ 6 (4 + rr) 0 = 0) : am_D l 105 [aR 11 0, aI (nI s), aI (nI v), aI (nI rr), aI (nI x)] σ τ (rX t) cX lX (some (aI (-3))) (xfind 1 σ) τ (rX t) := by
  refine am_D_of am_o105 am_l105 rfl ?_
  refine am_vc_ok am_k105 [] 100 ?_
  refine am_vS am_k105 am_h105 rfl rfl rfl rfl (x_within) ?_
  refine am_vc_ok am_k105 [] 100 ?_
  refine And.intro (fun g => absurd (in4 hs) (bI_0.mp g)) (fun _ => ?_)
  refine am_vS am_k105 am_h105 rfl rfl rfl rfl (x_within) ?_
  refine am_vc_ok am_k105 [] 100 ?_
  refine And.intro (fun g => absurd (in10 hv) (bI_0.mp g)) (fun _ => ?_)
  refine am_vS am_k105 am_h105 rfl rfl rfl rfl (x_within) ?_
  refine am_vc_ok am_k105 [] 100 ?_
  refine And.intro (fun g => absurd (in6 hr) (bI_0.mp g)) (fun _ => ?_)
  refine am_vS am_k105 am_h105 rfl rfl rfl rfl (x_within) ?_
  refine am_vc_ok am_k105 [] 100 ?_
  refine And.intro (fun g => absurd (in6 hx) (bI_0.mp g)) (fun _ => ?_)
  refine And.intro (vp_in_nI (N := 4) hs (by decide)) ?_
  rw [nI_clamp (n := s) (by omega)]
  refine And.intro (fun z => ?_) (fun z => ?_)
  · refine am_vO am_k105 am_h105 rfl rfl rfl rfl (x_find (w := 1) (by decide)) ?_
    refine am_vc_ok am_k105 [] 100 ?_
    exact am_vI am_k105 am_r105 rfl ⟨rfl, rfl, rfl, rfl, rfl, rfl⟩
  · refine And.intro (vp_in_nI (N := 6) hr (by decide)) ?_
    rw [nI_clamp (n := rr) (by omega)]
    refine And.intro (fun y => ?_) (fun y => absurd (h0.resolve_left z) y)
    refine am_vO am_k105 am_h105 rfl rfl rfl rfl (x_find (w := 1) (by decide)) ?_
    refine am_vc_ok am_k105 [] 100 ?_
    exact am_vI am_k105 am_r105 rfl ⟨rfl, rfl, rfl, rfl, rfl, rfl⟩
theorem x_write {s v rr x : Nat} {S : aSh} (hs : s < 4) (hv : v < 10) (hr : rr < 6) (hx : x < 6) (h0 : ¬ σ 9 (1 + s) 0 = 0) (h01 : ¬ σ 6 (4 + rr) 0 = 0) (hS : ShOK S) (h9 : σ 9 (1 + s) 1 = nI (sN S)) (hX : XItems σ (1 + s) S) (h : W0 σ (4 + rr) M g) : am_T l 105 [aR 11 0, aI (nI s), aI (nI v), aI (nI rr), aI (nI x)] σ τ t (fun w s2 τ2 t2 => τ2 = τ ∧ t2 = t ∧ wwQ σ x (wrP S v g M (sN S) 0 0 o0) w s2) := by
  refine am_T_of am_o105 am_l105 rfl ?_
  refine am_vc_ok am_k105 [] 100 ?_
  refine am_vS am_k105 am_h105 rfl rfl rfl rfl (x_within) ?_
  refine am_vc_ok am_k105 [] 100 ?_
  refine And.intro (fun g => absurd (in4 hs) (bI_0.mp g)) (fun _ => ?_)
  refine am_vS am_k105 am_h105 rfl rfl rfl rfl (x_within) ?_
  refine am_vc_ok am_k105 [] 100 ?_
  refine And.intro (fun g => absurd (in10 hv) (bI_0.mp g)) (fun _ => ?_)
  refine am_vS am_k105 am_h105 rfl rfl rfl rfl (x_within) ?_
  refine am_vc_ok am_k105 [] 100 ?_
  refine And.intro (fun g => absurd (in6 hr) (bI_0.mp g)) (fun _ => ?_)
  refine am_vS am_k105 am_h105 rfl rfl rfl rfl (x_within) ?_
  refine am_vc_ok am_k105 [] 100 ?_
  refine And.intro (fun g => absurd (in6 hx) (bI_0.mp g)) (fun _ => ?_)
  refine And.intro (vp_in_nI (N := 4) hs (by decide)) ?_
  rw [nI_clamp (n := s) (by omega)]
  refine And.intro (fun y => absurd y h0) (fun _ => ?_)
  refine And.intro (vp_in_nI (N := 6) hr (by decide)) ?_
  rw [nI_clamp (n := rr) (by omega)]
  refine And.intro (fun y => absurd y h01) (fun _ => ?_)
  refine And.intro (vp_in_nI (N := 4) hs (by decide)) ?_
  rw [nI_clamp (n := s) (by omega)]
  refine And.intro (vp_in_nI (N := 6) hr (by decide)) ?_
  rw [nI_clamp (n := rr) (by omega)]
  refine am_vOT am_k105 am_h105 rfl rfl rfl rfl (x_encode (by omega) hv hS h9 hX h) ?_
  rintro w s1 τ2 t2 ⟨rfl, rfl, hf, hQ⟩
  cases e : wrP S v g M (sN S) 0 0 o0 with
  | none =>
    rw [e] at hQ
    rcases hQ with rfl | rfl
    · refine am_vc_ok am_k105 [] 100 ?_
      refine And.intro (fun y => absurd y (by decide)) (fun _ => ?_)
      refine am_vO am_k105 am_h105 rfl rfl rfl rfl (x_find (w := 3) (by decide)) ?_
      refine am_vc_ok am_k105 [] 100 ?_
      exact am_vI am_k105 am_r105 rfl ⟨_, rfl, rfl, rfl, rfl, rfl, rfl, s1, 3, by decide, hf, rfl⟩
    · refine am_vc_ok am_k105 [] 100 ?_
      refine And.intro (fun y => absurd y (by decide)) (fun _ => ?_)
      refine am_vO am_k105 am_h105 rfl rfl rfl rfl (x_find (w := 5) (by decide)) ?_
      refine am_vc_ok am_k105 [] 100 ?_
      exact am_vI am_k105 am_r105 rfl ⟨_, rfl, rfl, rfl, rfl, rfl, rfl, s1, 5, by decide, hf, rfl⟩
  | some o =>
    rw [e] at hQ
    obtain ⟨rfl, j1, j2, j3⟩ := hQ
    have hx2 : 0 ≠ 10 + x := by omega
    refine am_vc_ok am_k105 [] 100 ?_
    refine And.intro (fun _ => ?_) (fun y => absurd rfl y)
    refine And.intro (fun y => ?_) (fun y => ?_)
    · have y : s1 6 0 1 ≤ 60 := y
      rw [j1, show (60 : Int32) = nI 60 from rfl, nI_leI (by omega) (by decide)] at y
      refine And.intro (vp_in_nI (N := 6) hx (by decide)) ?_
      rw [nI_clamp (n := x) (by omega)]
      refine am_vO am_k105 am_h105 rfl rfl rfl rfl (x_rbecome hx2 j1 (lX_row (by omega)) (show o.1 ≤ 132 from j3) y) ?_
      refine am_vc_ok am_k105 [] 100 ?_
      refine And.intro (vp_in_nI (N := 6) hx (by decide)) ?_
      rw [nI_clamp (n := x) (by omega)]
      refine am_vI am_k105 am_r105 rfl ⟨_, rfl, rfl, rfl, rfl, rfl, ?_⟩
      show (if o.1 ≤ 60 then _ else _)
      rw [if_pos y]
      refine ⟨?_, s1, hf, j2, rfl⟩
      refine congrArg (fun x => some (aI x)) ?_
      rw [xbec, xapp, u3_eq, Nat.zero_add]
    · have y : ¬ s1 6 0 1 ≤ 60 := y
      rw [j1, show (60 : Int32) = nI 60 from rfl, nI_leI (by omega) (by decide)] at y
      refine am_vO am_k105 am_h105 rfl rfl rfl rfl (x_find (w := 2) (by decide)) ?_
      refine am_vc_ok am_k105 [] 100 ?_
      refine am_vI am_k105 am_r105 rfl ⟨_, rfl, rfl, rfl, rfl, rfl, ?_⟩
      show (if o.1 ≤ 60 then _ else _)
      rw [if_neg y]
      exact ⟨rfl, s1, 2, by decide, hf, rfl⟩
end L60
