/-! CASES OF THE LAW: write -/
section L62
variable {l : Launch} {σ σ2 : tI} {τ τ2 : tL} {t : Option (Nat × Nat)} {r M : Nat} {g : Nat → Int32}
theorem m_wr_lp {Q : tQ} {S : aSh} {sh vv x : Nat} {R : Option wO} (hsh : sh < 4) (hv : vv < 10) (hS : ShOK S) (h49 : σ 49 0 sh = nI (sN S)) (hX : MItems σ sh S) (h : V0 σ r M g) (hN : ∀ w s, w < 6 → R = none → wmF σ s → Q (some (aI (-3))) (mmeets w s) τ (rX t) cX lX) (K : ∀ nx o s, R = some o → o.1 ≤ 132 → wmF σ s → wJ s o → am_G l 188 Q 0 0 341 [(6, aI (nI (sN S))), (5, aI nx), (0, aR 12 0), (1, aI (nI sh)), (2, aI (nI vv)), (3, aI (nI r)), (4, aI (nI x))] [] s τ (rX t) cX lX) : ∀ (d i nx : Nat) (o : wO) (s : tI), i + d = sN S → nx ≤ M → o.1 ≤ 11 * i → wrP S vv g M d i nx o = R → wmF σ s → wJ s o → am_G l 188 Q 0 0 66 [(6, aI (nI i)), (5, aI (nI nx)), (0, aR 12 0), (1, aI (nI sh)), (2, aI (nI vv)), (3, aI (nI r)), (4, aI (nI x))] [] s τ (rX t) cX lX
  | 0, i, nx, o, s, hi, h1, h2, hR, hf, hJ => by
    have s12 := hS.1
    have hM := h.2.1
    have hr := h.2.2.1
    have hV := h.fr hf
    have e49 : s 49 0 sh = nI (sN S) := by rw [hf.1 49 (by decide) (by decide)]; exact h49
    obtain rfl : i = sN S := by omega
    unfold wrP at hR
    refine am_vc_ok am_k188 [66, 91, 341] 100 ?_
    refine And.intro (vp_in_nI (N := 4) hsh (by decide)) ?_
    rw [nI_clamp (n := sh) (by omega), e49]
    refine And.intro (fun _ => ?_) (fun z => absurd (nI_le (Nat.le_refl _) (by omega)) z)
    refine And.intro (vp_in_nI (N := 6) hr (by decide)) ?_
    rw [nI_clamp (n := r) (by omega), hV.1]
    refine And.intro (fun z => ?_) (fun z => ?_)
    · have z : nx = M := by
        have := (nI_leI (by omega) (by omega)).mp z
        omega
      rw [if_pos z] at hR
      exact K _ o s hR.symm (by omega) hf hJ
    · have z : ¬ nx = M := fun y => z (nI_le (by omega) (by omega))
      rw [if_neg z] at hR
      refine am_vO am_k188 am_h188 rfl rfl rfl rfl (m_meets (w := 5) (by decide)) ?_
      refine am_vc_ok am_k188 [66, 91, 341] 100 ?_
      exact am_vI am_k188 am_r188 rfl (hN 5 s (by decide) hR.symm hf)
  | d + 1, i, nx, o, s, hi, h1, h2, hR, hf, hJ => by
    have s12 := hS.1
    have e49 : s 49 0 sh = nI (sN S) := by rw [hf.1 49 (by decide) (by decide)]; exact h49
    obtain ⟨b1, b2, b3, b4, b5, b6, -⟩ := hS.2.1 i (by omega)
    have fin := fun nx o s => m_wr_lp hsh hv hS h49 hX h hN K d (i + 1) nx o s (by omega)
    have x4 : s 50 0 (72 * sh + 6 * i + 3) = nI (sSi S i) := by rw [hf.1 50 (by decide) (by decide)]; exact hX i 3 (by omega) (by decide)
    have x5 : s 50 0 (72 * sh + 6 * i + 4) = nI (sTi S i) := by rw [hf.1 50 (by decide) (by decide)]; exact hX i 4 (by omega) (by decide)
    have hiff : (s 50 0 (72 * sh + 6 * i + 3) ≤ nI vv ∧ nI vv ≤ s 50 0 (72 * sh + 6 * i + 4)) ↔ (sSi S i ≤ vv ∧ vv ≤ sTi S i) := by
      rw [x4, x5, nI_leI (by omega) (by omega), nI_leI (by omega) (by omega)]
    unfold wrP at hR
    refine am_vc_ok am_k188 [66, 91, 341] 100 ?_
    refine And.intro (vp_in_nI (N := 4) hsh (by decide)) ?_
    rw [nI_clamp (n := sh) (by omega), e49]
    refine And.intro (fun z => absurd z (nI_ge (by omega) (by omega))) (fun _ => ?_)
    refine am_vO am_k188 am_h188 rfl rfl rfl rfl (m_isOf hsh (show i < 12 by omega)) ?_
    refine am_vc_ok am_k188 [66, 91, 341] 100 ?_
    refine And.intro (fun z => ?_) (fun z => ?_)
    · have z : ¬ (sSi S i ≤ vv ∧ vv ≤ sTi S i) := fun y => bI_0.mp z (hiff.mpr y)
      rw [if_neg z] at hR
      have K2 := fin nx o s h1 (by omega) hR hf hJ
      rw [← nI_1 i] at K2
      exact K2
    · have z := hiff.mp (bI_1.mp z)
      rw [if_pos z] at hR
      refine m_wf hsh hS (show i < sN S by omega) hX h h1 (by omega) rfl hf hJ ?_ ?_
      · intro w s2 hw e hf2
        rw [e] at hR
        exact hN w s2 hw hR.symm hf2
      · intro a b c nx2 o2 s2 e hf2 hJ2
        rw [e] at hR
        have hl := wrF_len e
        have K2 := fin nx2 o2 s2 hl.2 (by omega) hR hf2 hJ2
        refine am_vc_ok am_k188 [66] 100 ?_
        rw [← nI_1 i] at K2
        exact am_Gp [0, 2, 5, 6, 7, 8, 9] rfl K2
theorem m_wc_lp {Q : tQ} {x n : Nat} {a b c d : Int32} (hx : x < 6) (hn : n ≤ 60) (h16 : σ 12 0 16 = nI n) (K : am_G l 188 Q 0 0 404 [(6, aI (nI n)), (5, aI a), (0, aR 12 0), (1, aI b), (2, aI c), (3, aI d), (4, aI (nI x))] [] (cp3 σ 48 0 52 0 0 (60 * x) n) τ (rX t) cX lX) : ∀ (e k : Nat), k + e = n → am_G l 188 Q 0 0 369 [(6, aI (nI k)), (5, aI a), (0, aR 12 0), (1, aI b), (2, aI c), (3, aI d), (4, aI (nI x))] [] (cp3 σ 48 0 52 0 0 (60 * x) k) τ (rX t) cX lX
  | 0, k, h => by
    obtain rfl : k = n := by omega
    have e16 : cp3 σ 48 0 52 0 0 (60 * x) k 12 0 16 = nI k := by rw [cp3_kk (by decide)]; exact h16
    refine am_vc_ok am_k188 [369, 404] 100 ?_
    refine And.intro (fun _ => K) (fun h1 => absurd (by rw [e16]; exact nI_le (Nat.le_refl _) (by omega)) h1)
  | e + 1, k, h => by
    have K2 := m_wc_lp hx hn h16 K e (k + 1) (by omega)
    have e16 : cp3 σ 48 0 52 0 0 (60 * x) k 12 0 16 = nI n := by rw [cp3_kk (by decide)]; exact h16
    have e1 := cp3_1 (σ := σ) (k1 := 48) (o1 := 0) (k0 := 52) (o0 := 0) (sp := 0) (dp := 60 * x) (n := k)
    rw [Nat.zero_add] at e1
    have e2 : cp3 σ 48 0 52 0 0 (60 * x) k 52 0 k = σ 52 0 k := by rw [cp3_kk (by decide)]
    refine am_vc_ok am_k188 [369, 404] 100 ?_
    refine And.intro (fun h1 => absurd h1 (by rw [e16]; exact nI_ge (by omega) (by omega))) (fun _ => ?_)
    refine And.intro (vp_in_nI (N := 400) (by omega) (by decide)) ?_
    rw [nI_clamp (n := k) (by omega), e2]
    refine And.intro (by rw [i60]; exact vp_in_nI (N := 360) (by omega) (by decide)) ?_
    rw [i60, nI_clamp (n := 60 * x + k) (by omega), e1]
    rw [← nI_1 k] at K2
    exact K2
/-- what write leaves in the model -/
def mwQ (σ : tI) (x : Nat) (R : Option wO) (v : Option am_V) (s : tI) : Prop := match R with
  | none => v = some (aI (-3)) ∧ ∃ s1 w, w < 6 ∧ wmF σ s1 ∧ s = mmeets w s1
  | some o => if o.1 ≤ 60 then v = some (aI (nI o.1)) ∧ ∃ s1, wmF σ s1 ∧ (∀ j, j < o.1 → s1 52 0 j = o.2 j) ∧ s = cp3 (mfill (u3 s1 47 0 x (nI o.1)) 48 (60 * x) 60 32) 48 0 52 0 0 (60 * x) o.1 else v = some (aI (-3)) ∧ ∃ s1 w, w < 6 ∧ wmF σ s1 ∧ s = mmeets w s1
theorem m_writeB {a b c d : Int32} (h : ¬ ((0 ≤ a ∧ a ≤ 3) ∧ (0 ≤ b ∧ b ≤ 9) ∧ (0 ≤ c ∧ c ≤ 5) ∧ (0 ≤ d ∧ d ≤ 5))) : am_D l 188 [aR 12 0, aI a, aI b, aI c, aI d] σ τ (rX t) cX lX (some (aI (-1))) σ τ (rX t) := by
  refine am_D_of am_o188 am_l188 rfl ?_
  refine am_vc_ok am_k188 [] 100 ?_
  refine am_vS am_k188 am_h188 rfl rfl rfl rfl (m_isShape) ?_
  refine am_vc_ok am_k188 [] 100 ?_
  refine And.intro (fun h1 => ?_) (fun h1 => ?_)
  · exact am_vI am_k188 am_r188 rfl ⟨rfl, rfl, rfl, rfl, rfl, rfl⟩
  refine am_vS am_k188 am_h188 rfl rfl rfl rfl (m_isVersion) ?_
  refine am_vc_ok am_k188 [] 100 ?_
  refine And.intro (fun h2 => ?_) (fun h2 => ?_)
  · exact am_vI am_k188 am_r188 rfl ⟨rfl, rfl, rfl, rfl, rfl, rfl⟩
  refine am_vS am_k188 am_h188 rfl rfl rfl rfl (m_isSix) ?_
  refine am_vc_ok am_k188 [] 100 ?_
  refine And.intro (fun h3 => ?_) (fun h3 => ?_)
  · exact am_vI am_k188 am_r188 rfl ⟨rfl, rfl, rfl, rfl, rfl, rfl⟩
  refine am_vS am_k188 am_h188 rfl rfl rfl rfl (m_isSix) ?_
  refine am_vc_ok am_k188 [] 100 ?_
  refine And.intro (fun h4 => ?_) (fun h4 => ?_)
  · exact am_vI am_k188 am_r188 rfl ⟨rfl, rfl, rfl, rfl, rfl, rfl⟩
  · exact absurd ⟨bI_1.mp h1, bI_1.mp h2, bI_1.mp h3, bI_1.mp h4⟩ h
theorem in9 {j : Nat} (hj : j < 10) : ((0 : Int32) ≤ nI j ∧ nI j ≤ 9) := ⟨nI_pos' (by omega), nI_le (b := 9) (by omega) (by decide)⟩
theorem m_write_no {s v rr x : Nat} (hs : s < 4) (hv : v < 10) (hr : rr < 6) (hx : x < 6) (h0 : σ 49 0 s < 0 ∨ σ 44 0 rr < 0) : am_D l 188 [aR 12 0, aI (nI s), aI (nI v), aI (nI rr), aI (nI x)] σ τ (rX t) cX lX (some (aI (-3))) (mmeets 1 σ) τ (rX t) := by
  refine am_D_of am_o188 am_l188 rfl ?_
  refine am_vc_ok am_k188 [] 100 ?_
  refine am_vS am_k188 am_h188 rfl rfl rfl rfl (m_isShape) ?_
  refine am_vc_ok am_k188 [] 100 ?_
  refine And.intro (fun g => absurd (in3 hs) (bI_0.mp g)) (fun _ => ?_)
  refine am_vS am_k188 am_h188 rfl rfl rfl rfl (m_isVersion) ?_
  refine am_vc_ok am_k188 [] 100 ?_
  refine And.intro (fun g => absurd (in9 hv) (bI_0.mp g)) (fun _ => ?_)
  refine am_vS am_k188 am_h188 rfl rfl rfl rfl (m_isSix) ?_
  refine am_vc_ok am_k188 [] 100 ?_
  refine And.intro (fun g => absurd (in5 hr) (bI_0.mp g)) (fun _ => ?_)
  refine am_vS am_k188 am_h188 rfl rfl rfl rfl (m_isSix) ?_
  refine am_vc_ok am_k188 [] 100 ?_
  refine And.intro (fun g => absurd (in5 hx) (bI_0.mp g)) (fun _ => ?_)
  refine And.intro (vp_in_nI (N := 4) hs (by decide)) ?_
  rw [nI_clamp (n := s) (by omega)]
  refine And.intro (fun z => ?_) (fun z => ?_)
  · refine am_vO am_k188 am_h188 rfl rfl rfl rfl (m_meets (w := 1) (by decide)) ?_
    refine am_vc_ok am_k188 [] 100 ?_
    exact am_vI am_k188 am_r188 rfl ⟨rfl, rfl, rfl, rfl, rfl, rfl⟩
  · refine And.intro (vp_in_nI (N := 6) hr (by decide)) ?_
    rw [nI_clamp (n := rr) (by omega)]
    refine And.intro (fun y => absurd (h0.resolve_left z) (Int32.not_lt.mpr y)) (fun y => ?_)
    refine am_vO am_k188 am_h188 rfl rfl rfl rfl (m_meets (w := 1) (by decide)) ?_
    refine am_vc_ok am_k188 [] 100 ?_
    exact am_vI am_k188 am_r188 rfl ⟨rfl, rfl, rfl, rfl, rfl, rfl⟩
theorem m_write {s v x : Nat} {S : aSh} (hs : s < 4) (hv : v < 10) (hx : x < 6) (hS : ShOK S) (h49 : σ 49 0 s = nI (sN S)) (hX : MItems σ s S) (h : V0 σ r M g) : am_T l 188 [aR 12 0, aI (nI s), aI (nI v), aI (nI r), aI (nI x)] σ τ t (fun w s2 τ2 t2 => τ2 = τ ∧ t2 = t ∧ mwQ σ x (wrP S v g M (sN S) 0 0 o0) w s2) := by
  have s12 := hS.1
  have hM := h.2.1
  have hr := h.2.2.1
  have h0 : ¬ σ 49 0 s < 0 := by rw [h49]; exact nI_pos (by omega)
  have h01 : ¬ σ 44 0 r < 0 := by rw [h.1]; exact nI_pos (by omega)
  refine am_T_of am_o188 am_l188 rfl ?_
  refine am_vc_ok am_k188 [66] 100 ?_
  refine am_vS am_k188 am_h188 rfl rfl rfl rfl (m_isShape) ?_
  refine am_vc_ok am_k188 [66] 100 ?_
  refine And.intro (fun g => absurd (in3 hs) (bI_0.mp g)) (fun _ => ?_)
  refine am_vS am_k188 am_h188 rfl rfl rfl rfl (m_isVersion) ?_
  refine am_vc_ok am_k188 [66] 100 ?_
  refine And.intro (fun g => absurd (in9 hv) (bI_0.mp g)) (fun _ => ?_)
  refine am_vS am_k188 am_h188 rfl rfl rfl rfl (m_isSix) ?_
  refine am_vc_ok am_k188 [66] 100 ?_
  refine And.intro (fun g => absurd (in5 hr) (bI_0.mp g)) (fun _ => ?_)
  refine am_vS am_k188 am_h188 rfl rfl rfl rfl (m_isSix) ?_
  refine am_vc_ok am_k188 [66] 100 ?_
  refine And.intro (fun g => absurd (in5 hx) (bI_0.mp g)) (fun _ => ?_)
  refine And.intro (vp_in_nI (N := 4) hs (by decide)) ?_
  rw [nI_clamp (n := s) (by omega)]
  refine And.intro (fun y => absurd y h0) (fun _ => ?_)
  refine And.intro (vp_in_nI (N := 6) hr (by decide)) ?_
  rw [nI_clamp (n := r) (by omega)]
  refine And.intro (fun _ => ?_) (fun y => absurd (Int32.not_lt.mp h01) y)
  refine am_Gp (ls2 := [(6, aI (nI 0)), (5, aI (nI 0)), (0, aR 12 0), (1, aI (nI s)), (2, aI (nI v)), (3, aI (nI r)), (4, aI (nI x))]) [0, 1, 2, 3, 4, 5, 6] rfl ?_
  refine m_wr_lp (σ := σ) hs hv hS h49 hX h ?_ ?_ (sN S) 0 0 o0 _ (by omega) (by omega) (by decide) rfl wmF.refl.n ⟨u3_eq _ _ _ _ _, fun j hj => absurd hj (Nat.not_lt_zero j)⟩
  · intro w s1 hw e hf
    refine ⟨_, rfl, rfl, rfl, rfl, rfl, ?_⟩
    rw [e]
    exact ⟨rfl, s1, w, hw, hf, rfl⟩
  · intro nx o s1 e ho hf hJ
    rw [e]
    refine am_vc_ok am_k188 [369] 100 ?_
    refine And.intro (fun y => ?_) (fun y => ?_)
    · have y : s1 12 0 16 ≤ 60 := y
      rw [hJ.1, show (60 : Int32) = nI 60 from rfl, nI_leI (by omega) (by decide)] at y
      have hb := m_beginText (l := l) (σ := s1) (τ := τ) (t := t) (n := s1 12 0 16) hx
      refine am_vO am_k188 am_h188 rfl rfl rfl rfl (hb) ?_
      refine am_vc_ok am_k188 [369] 100 ?_
      rw [hJ.1]
      generalize hs2 : mfill (u3 s1 47 0 x (nI o.1)) 48 (60 * x) 60 32 = s2
      have e2 : ∀ q, q ≠ 47 → q ≠ 48 → s2 q = s1 q := fun q a1 a2 => by
        rw [← hs2]
        funext b c
        simp [mfill, u3, a1, a2]
      have f16 : s2 12 0 16 = nI o.1 := by rw [e2 12 (by decide) (by decide)]; exact hJ.1
      refine am_Gs (σ2 := cp3 s2 48 0 52 0 0 (60 * x) 0) cp3_0.symm ?_
      refine am_Gp (ls2 := [(6, aI (nI 0)), (5, aI nx), (0, aR 12 0), (1, aI (nI s)), (2, aI (nI v)), (3, aI (nI r)), (4, aI (nI x))]) [0, 1, 2, 3, 4, 5, 6] rfl ?_
      refine m_wc_lp hx y f16 ?_ o.1 0 (by omega)
      refine am_vc_ok am_k188 [] 100 ?_
      refine am_vI am_k188 am_r188 rfl ⟨_, rfl, rfl, rfl, rfl, rfl, ?_⟩
      show (if o.1 ≤ 60 then _ else _)
      rw [if_pos y]
      refine ⟨?_, s1, hf, hJ.2, by rw [hs2]⟩
      refine congrArg (fun x => some (aI x)) ?_
      rw [cp3_kk (by decide)]
      exact f16
    · have y : ¬ s1 12 0 16 ≤ 60 := y
      rw [hJ.1, show (60 : Int32) = nI 60 from rfl, nI_leI (by omega) (by decide)] at y
      refine am_vO am_k188 am_h188 rfl rfl rfl rfl (m_meets (w := 2) (by decide)) ?_
      refine am_vc_ok am_k188 [] 100 ?_
      refine am_vI am_k188 am_r188 rfl ⟨_, rfl, rfl, rfl, rfl, rfl, ?_⟩
      show (if o.1 ≤ 60 then _ else _)
      rw [if_neg y]
      exact ⟨rfl, s1, 2, by decide, hf, rfl⟩
end L62
