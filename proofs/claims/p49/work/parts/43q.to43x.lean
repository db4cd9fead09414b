/-! CASES OF THE LAW: write -/
section L62
variable {l : Launch} {σ σ2 : tI} {τ τ2 : tL} {t : Option (Nat × Nat)} {r M : Nat} {g : Nat → Int32}
theorem m_wr_lp {Q : tQ} {S : aSh} {sh vv x : Nat} {R : Option wO} (hsh : sh < 4) (hv : vv < 10) (hS : ShOK S) (h49 : σ 49 0 sh = nI (sN S)) (hX : MItems σ sh S) (h : V0 σ r M g) (hN : ∀ w s, w < 6 → R = none → wmF σ s → Q (some (aI (-3))) (mmeets w s) τ (rX t) cX lX) (K : ∀ nx o s, R = some o → o.1 ≤ 132 → wmF σ s → wJ s o → am_G l 188 Q 0 0 341 [(6, aI (nI (sN S))), (5, aI nx), (0, aR 12 0), (1, aI (nI sh)), (2, aI (nI vv)), (3, aI (nI r)), (4, aI (nI x))] [] s τ (rX t) cX lX) : ∀ (d i nx : Nat) (o : wO) (s : tI), i + d = sN S → nx ≤ M → o.1 ≤ 11 * i → wrP S vv g M d i nx o = R → wmF σ s → wJ s o → am_G l 188 Q 0 0 66 [(6, aI (nI i)), (5, aI (nI nx)), (0, aR 12 0), (1, aI (nI sh)), (2, aI (nI vv)), (3, aI (nI r)), (4, aI (nI x))] [] s τ (rX t) cX lX
  | 0, i, nx, o, s, hi, h1, h2, hR, hf, hJ => by
    have s12 := hS.1
    have hM := h.2.1
    have hr := h.2.2.1
    have hV := h.fr hf
    have e49 : s 49 0 sh = nI (sN S) := by rw [hf.1 49 (by decide) (by decide)]; exact h49
    obtain rfl : i = sN S := by omega
    unfold wrP at hR
    refine am_vc_ok am_k188 [66, 91, 341] 100 ?_
    refine And.intro (vp_in_nI (N := 4) hsh (by decide)) ?_
    rw [nI_clamp (n := sh) (by omega), e49]
    refine And.intro (fun _ => ?_) (fun z => absurd (nI_le (Nat.le_refl _) (by omega)) z)
    refine And.intro (vp_in_nI (N := 6) hr (by decide)) ?_
    rw [nI_clamp (n := r) (by omega), hV.1]
    refine And.intro (fun z => ?_) (fun z => ?_)
    · have z : nx = M := by
        have := (nI_leI (by omega) (by omega)).mp z
        omega
      rw [if_pos z] at hR
      exact K _ o s hR.symm (by omega) hf hJ
    · have z : ¬ nx = M := fun y => z (nI_le (by omega) (by omega))
      rw [if_neg z] at hR
      refine am_vO am_k188 am_h188 rfl rfl rfl rfl (m_meets (w := 5) (by decide)) ?_
      refine am_vc_ok am_k188 [66, 91, 341] 100 ?_
      exact am_vI am_k188 am_r188 rfl (hN 5 s (by decide) hR.symm hf)
  | d + 1, i, nx, o, s, hi, h1, h2, hR, hf, hJ => by
    have s12 := hS.1
    have e49 : s 49 0 sh = nI (sN S) := by rw [hf.1 49 (by decide) (by decide)]; exact h49
    obtain ⟨b1, b2, b3, b4, b5, b6, -⟩ := hS.2.1 i (by omega)
    have fin := fun nx o s => m_wr_lp hsh hv hS h49 hX h hN K d (i + 1) nx o s (by omega)
    have x4 : s 50 0 (72 * sh + 6 * i + 3) = nI (sSi S i) := by rw [hf.1 50 (by decide) (by decide)]; exact hX i 3 (by omega) (by decide)
    have x5 : s 50 0 (72 * sh + 6 * i + 4) = nI (sTi S i) := by rw [hf.1 50 (by decide) (by decide)]; exact hX i 4 (by omega) (by decide)
    have hiff : (s 50 0 (72 * sh + 6 * i + 3) ≤ nI vv ∧ nI vv ≤ s 50 0 (72 * sh + 6 * i + 4)) ↔ (sSi S i ≤ vv ∧ vv ≤ sTi S i) := by
      rw [x4, x5, nI_leI (by omega) (by omega), nI_leI (by omega) (by omega)]
    unfold wrP at hR
    refine am_vc_ok am_k188 [66, 91, 341] 100 ?_
    refine And.intro (vp_in_nI (N := 4) hsh (by decide)) ?_
    rw [nI_clamp (n := sh) (by omega), e49]
    refine And.intro (fun z => absurd z (nI_ge (by omega) (by omega))) (fun _ => ?_)
    refine am_vO am_k188 am_h188 rfl rfl rfl rfl (m_isOf hsh (show i < 12 by omega)) ?_
    refine am_vc_ok am_k188 [66, 91, 341] 100 ?_
    refine And.intro (fun z => ?_) (fun z => ?_)
    · have z : ¬ (sSi S i ≤ vv ∧ vv ≤ sTi S i) := fun y => bI_0.mp z (hiff.mpr y)
      rw [if_neg z] at hR
      have K2 := fin nx o s h1 (by omega) hR hf hJ
      rw [← nI_1 i] at K2
      exact K2
    · have z := hiff.mp (bI_1.mp z)
      rw [if_pos z] at hR
      refine m_wf hsh hS (show i < sN S by omega) hX h h1 (by omega) rfl hf hJ ?_ ?_
      · intro w s2 hw e hf2
        rw [e] at hR
        exact hN w s2 hw hR.symm hf2
      · intro a b c nx2 o2 s2 e hf2 hJ2
        rw [e] at hR
        have hl := wrF_len e
        have K2 := fin nx2 o2 s2 hl.2 (by omega) hR hf2 hJ2
        refine am_vc_ok am_k188 [66] 100 ?_
        rw [← nI_1 i] at K2
        exact am_Gp [0, 2, 5, 6, 7, 8, 9] rfl K2
theorem m_wc_lp {Q : tQ} {x n : Nat} {a b c d : Int32} (hx : x < 6) (hn : n ≤ 60) (h16 : σ 12 0 16 = nI n) (K : am_G l 188 Q 0 0 404 [(6, aI (nI n)), (5, aI a), (0, aR 12 0), (1, aI b), (2, aI c), (3, aI d), (4, aI (nI x))] [] (cp3 σ 48 0 52 0 0 (60 * x) n) τ (rX t) cX lX) : ∀ (e k : Nat), k + e = n → am_G l 188 Q 0 0 369 [(6, aI (nI k)), (5, aI a), (0, aR 12 0), (1, aI b), (2, aI c), (3, aI d), (4, aI (nI x))] [] (cp3 σ 48 0 52 0 0 (60 * x) k) τ (rX t) cX lX
  | 0, k, h => by
    obtain rfl : k = n := by omega
    have e16 : cp3 σ 48 0 52 0 0 (60 * x) k 12 0 16 = nI k := by rw [cp3_kk (by decide)]; exact h16
    refine am_vc_ok am_k188 [369, 404] 100 ?_
    refine And.intro (fun _ => K) (fun h1 => absurd (by rw [e16]; exact nI_le (Nat.le_refl _) (by omega)) h1)
  | e + 1, k, h => by
    have K2 := m_wc_lp hx hn h16 K e (k + 1) (by omega)
    have e16 : cp3 σ 48 0 52 0 0 (60 * x) k 12 0 16 = nI n := by rw [cp3_kk (by decide)]; exact h16
    have e1 := cp3_1 (σ := σ) (k1 := 48) (o1 := 0) (k0 := 52) (o0 := 0) (sp := 0) (dp := 60 * x) (n := k)
    rw [Nat.zero_add] at e1
    have e2 : cp3 σ 48 0 52 0 0 (60 * x) k 52 0 k = σ 52 0 k := by rw [cp3_kk (by decide)]
    refine am_vc_ok am_k188 [369, 404] 100 ?_
    refine And.intro (fun h1 => absurd h1 (by rw [e16]; exact nI_ge (by omega) (by omega))) (fun _ => ?_)
    refine And.intro (vp_in_nI (N := 400) (by omega) (by decide)) ?_
    rw [nI_clamp (n := k) (by omega), e2]
    refine And.intro (by rw [i60]; exact vp_in_nI (N := 360) (by omega) (by decide)) ?_
    rw [i60, nI_clamp (n := 60 * x + k) (by omega), e1]
    rw [← nI_1 k] at K2
    exact K2
/-- what write leaves in the model -/
def mwQ (σ : tI) (x : Nat) (R : Option wO) (v : Option am_V) (s : tI) : Prop := match R with
  | none => v = some (aI (-3)) ∧ ∃ s1 w, w < 6 ∧ wmF σ s1 ∧ s = mmeets w s1
  | some o => if o.1 ≤ 60 then v = some (aI (nI o.1)) ∧ ∃ s1, wmF σ s1 ∧ (∀ j, j < o.1 → s1 52 0 j = o.2 j) ∧ s = cp3 (mfill (u3 s1 47 0 x (nI o.1)) 48 (60 * x) 60 32) 48 0 52 0 0 (60 * x) o.1 else v = some (aI (-3)) ∧ ∃ s1 w, w < 6 ∧ wmF σ s1 ∧ s = mmeets w s1
theorem m_writeB {a b c d : Int32} (h : ¬ ((0 ≤ a ∧ a ≤ 3) ∧ (0 ≤ b ∧ b ≤ 9) ∧ (0 ≤ c ∧ c ≤ 5) ∧ (0 ≤ d ∧ d ≤ 5))) : am_D l 188 [aR 12 0, aI a, aI b, aI c, aI d] σ τ (rX t) cX lX (some (aI (-1))) σ τ (rX t) := by
  refine am_D_of am_o188 am_l188 rfl ?_
  refine am_vc_ok am_k188 [] 100 ?_
  refine am_vS am_k188 am_h188 rfl rfl rfl rfl (m_isShape) ?_
  refine am_vc_ok am_k188 [] 100 ?_
  refine And.intro (fun h1 => ?_) (fun h1 => ?_)
  · exact am_vI am_k188 am_r188 rfl ⟨rfl, rfl, rfl, rfl, rfl, rfl⟩
  refine am_vS am_k188 am_h188 rfl rfl rfl rfl (m_isVersion) ?_
  refine am_vc_ok am_k188 [] 100 ?_
  refine And.intro (fun h2 => ?_) (fun h2 => ?_)
  · exact am_vI am_k188 am_r188 rfl ⟨rfl, rfl, rfl, rfl, rfl, rfl⟩
  refine am_vS am_k188 am_h188 rfl rfl rfl rfl (m_isSix) ?_
  refine am_vc_ok am_k188 [] 100 ?_
  refine And.intro (fun h3 => ?_) (fun h3 => ?_)
  · exact am_vI am_k188 am_r188 rfl ⟨rfl, rfl, rfl, rfl, rfl, rfl⟩
  refine am_vS am_k188 am_h188 rfl rfl rfl rfl (m_isSix) ?_
  refine am_vc_ok am_k188 [] 100 ?_
  refine And.intro (fun h4 => ?_) (fun h4 => ?_)
  · exact am_vI am_k188 am_r188 rfl ⟨rfl, rfl, rfl, rfl, rfl, rfl⟩
  · exact absurd ⟨bI_1.mp h1, bI_1.mp h2, bI_1.mp h3, bI_1.mp h4⟩ h
theorem in9 {j : Nat} (hj : j < 10) : ((0 : Int32) ≤ nI j ∧ nI j ≤ 9) := ⟨nI_pos' (by omega), nI_le (b := 9) (by omega) (by decide)⟩
theorem m_write_no {s v rr x : Nat} (hs : s < 4) (hv : v < 10) (hr : rr < 6) (hx : x < 6) (h0 : σ 49 0 s < 0 ∨ σ 44 0 rr < 0) : am_D l 188 [aR 12 0, aI (nI s), aI (nI v), aI (nI rr), aI (nI x)] σ τ (rX t) cX lX (some (aI (-3))) (mmeets 1 σ) τ (rX t) := by
  refine am_D_of am_o188 am_l188 rfl ?_
  refine am_vc_ok am_k188 [] 100 ?_
  refine am_vS am_k188 am_h188 rfl rfl rfl rfl (m_isShape) ?_
  refine am_vc_ok am_k188 [] 100 ?_
  refine And.intro (fun g => absurd (in3 hs) (bI_0.mp g)) (fun _ => ?_)
  refine am_vS am_k188 am_h188 rfl rfl rfl rfl (m_isVersion) ?_
  refine am_vc_ok am_k188 [] 100 ?_
  refine And.intro (fun g => absurd (in9 hv) (bI_0.mp g)) (fun _ => ?_)
  refine am_vS am_k188 am_h188 rfl rfl rfl rfl (m_isSix) ?_
  refine am_vc_ok am_k188 [] 100 ?_
  refine And.intro (fun g => absurd (in5 hr) (bI_0.mp g)) (fun _ => ?_)
  refine am_vS am_k188 am_h188 rfl rfl rfl rfl (m_isSix) ?_
  refine am_vc_ok am_k188 [] 100 ?_
  refine And.intro (fun g => absurd (in5 hx) (bI_0.mp g)) (fun _ => ?_)
  refine And.intro (vp_in_nI (N := 4) hs (by decide)) ?_
  rw [nI_clamp (n := s) (by omega)]
  refine And.intro (fun z => ?_) (fun z => ?_)
  · refine am_vO am_k188 am_h188 rfl rfl rfl rfl (m_meets (w := 1) (by decide)) ?_
    refine am_vc_ok am_k188 [] 100 ?_
    exact am_vI am_k188 am_r188 rfl ⟨rfl, rfl, rfl, rfl, rfl, rfl⟩
  · refine And.intro (vp_in_nI (N := 6) hr (by decide)) ?_
    rw [nI_clamp (n := rr) (by omega)]
    refine And.intro (fun y => absurd (h0.resolve_left z) (Int32.not_lt.mpr y)) (fun y => ?_)
    refine am_vO am_k188 am_h188 rfl rfl rfl rfl (m_meets (w := 1) (by decide)) ?_
    refine am_vc_ok am_k188 [] 100 ?_
    exact am_vI am_k188 am_r188 rfl ⟨rfl, rfl, rfl, rfl, rfl, rfl⟩
theorem m_write {s v x : Nat} {S : aSh} (hs : s < 4) (hv : v < 10) (hx : x < 6) (hS : ShOK S) (h49 : σ 49 0 s = nI (sN S)) (hX : MItems σ s S) (h : V0 σ r M g) : am_T l 188 [aR 12 0, aI (nI s), aI (nI v), aI (nI r), aI (nI x)] σ τ t (fun w s2 τ2 t2 => τ2 = τ ∧ t2 = t ∧ mwQ σ x (wrP S v g M (sN S) 0 0 o0) w s2) := by
  have s12 := hS.1
  have hM := h.2.1
  have hr := h.2.2.1
  have h0 : ¬ σ 49 0 s < 0 := by rw [h49]; exact nI_pos (by omega)
  have h01 : ¬ σ 44 0 r < 0 := by rw [h.1]; exact nI_pos (by omega)
  refine am_T_of am_o188 am_l188 rfl ?_
  refine am_vc_ok am_k188 [66] 100 ?_
  refine am_vS am_k188 am_h188 rfl rfl rfl rfl (m_isShape) ?_
  refine am_vc_ok am_k188 [66] 100 ?_
  refine And.intro (fun g => absurd (in3 hs) (bI_0.mp g)) (fun _ => ?_)
  refine am_vS am_k188 am_h188 rfl rfl rfl rfl (m_isVersion) ?_
  refine am_vc_ok am_k188 [66] 100 ?_
  refine And.intro (fun g => absurd (in9 hv) (bI_0.mp g)) (fun _ => ?_)
  refine am_vS am_k188 am_h188 rfl rfl rfl rfl (m_isSix) ?_
  refine am_vc_ok am_k188 [66] 100 ?_
  refine And.intro (fun g => absurd (in5 hr) (bI_0.mp g)) (fun _ => ?_)
  refine am_vS am_k188 am_h188 rfl rfl rfl rfl (m_isSix) ?_
  refine am_vc_ok am_k188 [66] 100 ?_
  refine And.intro (fun g => absurd (in5 hx) (bI_0.mp g)) (fun _ => ?_)
  refine And.intro (vp_in_nI (N := 4) hs (by decide)) ?_
  rw [nI_clamp (n := s) (by omega)]
  refine And.intro (fun y => absurd y h0) (fun _ => ?_)
  refine And.intro (vp_in_nI (N := 6) hr (by decide)) ?_
  rw [nI_clamp (n := r) (by omega)]
  refine And.intro (fun _ => ?_) (fun y => absurd (Int32.not_lt.mp h01) y)
  refine am_Gp (ls2 := [(6, aI (nI 0)), (5, aI (nI 0)), (0, aR 12 0), (1, aI (nI s)), (2, aI (nI v)), (3, aI (nI r)), (4, aI (nI x))]) [0, 1, 2, 3, 4, 5, 6] rfl ?_
  refine m_wr_lp (σ := σ) hs hv hS h49 hX h ?_ ?_ (sN S) 0 0 o0 _ (by omega) (by omega) (by decide) rfl wmF.refl.n ⟨u3_eq _ _ _ _ _, fun j hj => absurd hj (Nat.not_lt_zero j)⟩
  · intro w s1 hw e hf
    refine ⟨_, rfl, rfl, rfl, rfl, rfl, ?_⟩
    rw [e]
    exact ⟨rfl, s1, w, hw, hf, rfl⟩
  · intro nx o s1 e ho hf hJ
    rw [e]
    refine am_vc_ok am_k188 [369] 100 ?_
    refine And.intro (fun y => ?_) (fun y => ?_)
    · have y : s1 12 0 16 ≤ 60 := y
      rw [hJ.1, show (60 : Int32) = nI 60 from rfl, nI_leI (by omega) (by decide)] at y
      have hb := m_beginText (l := l) (σ := s1) (τ := τ) (t := t) (n := s1 12 0 16) hx
      refine am_vO am_k188 am_h188 rfl rfl rfl rfl (hb) ?_
      refine am_vc_ok am_k188 [369] 100 ?_
      rw [hJ.1]
      generalize hs2 : mfill (u3 s1 47 0 x (nI o.1)) 48 (60 * x) 60 32 = s2
      have e2 : ∀ q, q ≠ 47 → q ≠ 48 → s2 q = s1 q := fun q a1 a2 => by
        rw [← hs2]
        funext b c
        simp [mfill, u3, a1, a2]
      have f16 : s2 12 0 16 = nI o.1 := by rw [e2 12 (by decide) (by decide)]; exact hJ.1
      refine am_Gs (σ2 := cp3 s2 48 0 52 0 0 (60 * x) 0) cp3_0.symm ?_
      refine am_Gp (ls2 := [(6, aI (nI 0)), (5, aI nx), (0, aR 12 0), (1, aI (nI s)), (2, aI (nI v)), (3, aI (nI r)), (4, aI (nI x))]) [0, 1, 2, 3, 4, 5, 6] rfl ?_
      refine m_wc_lp hx y f16 ?_ o.1 0 (by omega)
      refine am_vc_ok am_k188 [] 100 ?_
      refine am_vI am_k188 am_r188 rfl ⟨_, rfl, rfl, rfl, rfl, rfl, ?_⟩
      show (if o.1 ≤ 60 then _ else _)
      rw [if_pos y]
      refine ⟨?_, s1, hf, hJ.2, by rw [hs2]⟩
      refine congrArg (fun x => some (aI x)) ?_
      rw [cp3_kk (by decide)]
      exact f16
    · have y : ¬ s1 12 0 16 ≤ 60 := y
      rw [hJ.1, show (60 : Int32) = nI 60 from rfl, nI_leI (by omega) (by decide)] at y
      refine am_vO am_k188 am_h188 rfl rfl rfl rfl (m_meets (w := 2) (by decide)) ?_
      refine am_vc_ok am_k188 [] 100 ?_
      refine am_vI am_k188 am_r188 rfl ⟨_, rfl, rfl, rfl, rfl, rfl, ?_⟩
      show (if o.1 ≤ 60 then _ else _)
      rw [if_neg y]
      exact ⟨rfl, s1, 2, by decide, hf, rfl⟩
end L62

/-! CASES OF THE LAW: write -/
section L63
variable {l : Launch} {σ σ2 : tI} {τ τ2 : tL} {t : Option (Nat × Nat)} {r M : Nat} {g : Nat → Int32}
theorem Rall.gen (h : Rall σ τ) (hr : Rrows σ2) (ht : Rtexts σ2) (hsh : Rshapes σ2) (hrd : Rread σ2) (hm : Rmisc σ2 τ) (hk : ∀ q, (kNet q = true ∨ q = 8 ∨ q = 31 ∨ q = 49 ∨ q = 57 ∨ q = 58 ∨ q = 59) → σ2 q = σ q) (h12 : ∀ j, jNet j = true → σ2 12 0 j = σ 12 0 j) : Rall σ2 τ := by
  obtain ⟨-, -, -, -, z5, -, T, n, m, lo, kk, z7⟩ := h
  exact ⟨hr, ht, hsh, hrd, z5.fr (fun a _ => by rw [hk 8 (by decide)]; exact ⟨rfl, rfl⟩) (hk 57 (by decide)) (hk 58 (by decide)) (hk 31 (by decide)) (hk 59 (by decide)) (fun s' _ z => by rw [hk 49 (by decide)]; exact z), hm, T, n, m, lo, kk, z7.fr (fun k z => hk k (Or.inl z)) h12 (fun a j _ _ => by rw [hk 8 (by decide)])⟩
def wOB (o : wO) : Prop := ∀ j, j < o.1 → isB (o.2 j)
theorem wOB.ps {o : wO} {v : Int32} (h : wOB o) (hv : isB v) : wOB (wps o v) := by
  intro j hj
  have hj : j < o.1 + 1 := hj
  show isB (pshF o.2 o.1 v j)
  unfold pshF
  split
  · exact hv
  · exact h j (by omega)
theorem isB_64 {k : Nat} (h : k < 64) : isB (nI k) := by
  rw [← i2b_64 k h]
  exact isB_i2b _
theorem wrM_B {g : Nat → Int32} {M : Nat} : ∀ (k nx nx2 : Nat) (o o2 : wO), wOB o → wrM g M k nx o = some (nx2, o2) → wOB o2
  | 0, nx, nx2, o, o2, h, e => by cases e; exact h
  | k + 1, nx, nx2, o, o2, h, e => by
    unfold wrM at e
    split at e
    · exact wrM_B k (nx + 1) nx2 _ o2 (h.ps (isB_i2b _)) e
    · cases e
theorem wrH_B {S : aSh} {i : Nat} {x : Int32} {o : wO} (hS : ShOK S) (hi : i < sN S) (h : wOB o) : wOB (wrH S i x o) := by
  obtain ⟨b1, b2, -⟩ := hS.2.1 i hi
  unfold wrH
  split
  · exact ((h.ps (isB_64 (by omega))).ps (isB_i2b _)).ps (isB_i2b _)
  · exact (h.ps (isB_64 (by omega))).ps (isB_i2b _)
theorem wrF_B {S : aSh} {g : Nat → Int32} {M i nx nx2 : Nat} {o o2 : wO} (hS : ShOK S) (hi : i < sN S) (h : wOB o) (e : wrF S g M i nx o = some (nx2, o2)) : wOB o2 := by
  unfold wrF at e
  split at e
  · split at e
    · exact wrM_B _ _ _ _ _ (wrH_B hS hi h) e
    · cases e
      exact wrH_B hS hi h
  · cases e
theorem wrP_B {S : aSh} {v M : Nat} {g : Nat → Int32} (hS : ShOK S) : ∀ (d i nx : Nat) (o o2 : wO), i + d = sN S → wOB o → wrP S v g M d i nx o = some o2 → wOB o2
  | 0, i, nx, o, o2, _, h, e => by
    unfold wrP at e
    split at e
    · cases e; exact h
    · cases e
  | d + 1, i, nx, o, o2, hd, h, e => by
    unfold wrP at e
    split at e
    · cases e3 : wrF S g M i nx o with
      | none => rw [e3] at e; cases e
      | some p =>
        obtain ⟨nx3, o3⟩ := p
        rw [e3] at e
        exact wrP_B hS d (i + 1) nx3 o3 o2 (by omega) (wrF_B hS (by omega) h e3) e
    · exact wrP_B hS d (i + 1) nx o o2 (by omega) h e
/-- facts of become -/
theorem xbec_k {s : tI} {r q n k : Nat} (h6 : k ≠ 6) (h30 : k ≠ 30) : xbec s r q n k = s k := by
  rw [xbec, xapp, u3_kk _ _ h6, cp3_kk h30, u3_kk _ _ h6, u3_kk _ _ h6]
theorem xbec_i {s : tI} {r q n k i : Nat} (hi : i ≠ r) : xbec s r q n k i = s k i := by
  funext c
  rw [xbec, xapp, u3_i _ _ hi, cp3_ii hi, u3_i _ _ hi, u3_i _ _ hi]
theorem xbec_0 {s : tI} {r q n : Nat} : xbec s r q n 6 r 0 = 1 := by
  rw [xbec, xapp, u3_j _ _ (by decide), cp3_kk (by decide), u3_j _ _ (by decide), u3_eq]
theorem xbec_1 {s : tI} {r q n : Nat} : xbec s r q n 6 r 1 = nI n := by
  rw [xbec, xapp, u3_eq, Nat.zero_add]
theorem xbec_p {s : tI} {r q n j : Nat} (hj : j < n) : xbec s r q n 30 r j = s 30 q j := by
  rw [xbec, xapp, u3_k _ _ (by decide), cp3_at hj, u3_k _ _ (by decide), u3_k _ _ (by decide)]
/-- a refusal with a finding, whatever was used meanwhile -/
theorem Rall.fnd (h : Rall σ τ) {s1 s3 : tI} {w w2 : Nat} (hf : wxF σ s1) (hm : wmF (xfind w s1) s3) : Rall (mmeets w2 s3) τ := by
  have g : ∀ q, q ≠ 6 ∧ q ≠ 10 ∧ q ≠ 30 ∧ q ≠ 12 ∧ q ≠ 52 ∧ q ≠ 11 ∧ q ≠ 42 ∧ q ≠ 43 → mmeets w2 s3 q = σ q := fun q ⟨a1, a2, a3, a4, a5, a6, a7, a8⟩ => by
    rw [mmeets, u3_kk _ _ a8, u3_kk _ _ a4, hm.1 q a4 a5, xfind, u3_kk _ _ a7, u3_kk _ _ a6, hf.1 q a1 a2 a3]
  have gi : ∀ q i, (q = 6 ∨ q = 30) → i ≠ 0 → mmeets w2 s3 q i = σ q i := fun q i hq hi => by
    rw [mmeets, u3_kk _ _ (by omega), u3_kk _ _ (by omega), hm.1 q (by omega) (by omega), xfind, u3_kk _ _ (by omega), u3_kk _ _ (by omega), hf.2 q i (by omega) hi]
  have g12 : ∀ j, j ≠ 0 → j ≠ 16 → mmeets w2 s3 12 0 j = σ 12 0 j := fun j h0 h16 => by
    rw [mmeets, u3_k _ _ (by decide), u3_j _ _ h0, hm.2 j h16, xfind, u3_k _ _ (by decide), u3_k _ _ (by decide), hf.1 12 (by decide) (by decide) (by decide)]
  have g11 : mmeets w2 s3 11 0 11 = σ 11 0 11 := by
    rw [mmeets, u3_k _ _ (by decide), u3_k _ _ (by decide), hm.1 11 (by decide) (by decide), xfind, u3_k _ _ (by decide), u3_j _ _ (by decide), hf.1 11 (by decide) (by decide) (by decide)]
  refine h.gen (h.1.fr (fun r _ => gi 6 _ (Or.inl rfl) (by omega)) (fun r _ => gi 30 _ (Or.inr rfl) (by omega)) (g 44 (by decide)) (g 45 (by decide))) (h.2.1.fr (fun r _ => gi 6 _ (Or.inl rfl) (by omega)) (fun r _ => gi 30 _ (Or.inr rfl) (by omega)) (g 47 (by decide)) (g 48 (by decide))) (h.2.2.1.fr (fun k hk => g k ?_)) (h.2.2.2.1.fr (g 4 (by decide)) (g 55 (by decide)) (g 56 (by decide)) (gi 6 2 (Or.inl rfl) (by decide)) (gi 30 2 (Or.inr rfl) (by decide)) (g12 24 (by decide) (by decide))) ?_ (fun q hq => g q ?_) (fun j hj => g12 j ?_ ?_)
  · simp only [kShapes, Bool.or_eq_true, Bool.and_eq_true, Nat.ble_eq, Nat.beq_eq] at hk
    omega
  · have z := h.2.2.2.2.2.1
    unfold Rmisc at z ⊢
    rw [g11, g12 2 (by decide) (by decide)]
    exact z
  · simp only [kNet, Bool.or_eq_true, Bool.and_eq_true, Nat.ble_eq] at hq
    omega
  · rintro rfl; exact absurd hj (by decide)
  · rintro rfl; exact absurd hj (by decide)
theorem LC_write (h : Rall σ τ) (a b c d : Int32) : LC l 105 188 [aI a, aI b, aI c, aI d] σ τ t := by
  by_cases hc : (0 ≤ a ∧ a < 4) ∧ (0 ≤ b ∧ b < 10) ∧ (0 ≤ c ∧ c < 6) ∧ (0 ≤ d ∧ d < 6)
  · obtain ⟨ha, hb, hc, hd⟩ := hc
    obtain ⟨s, hs, rfl⟩ := ix_lt (n := 4) (by decide) ha
    obtain ⟨v, hv, rfl⟩ := ix_lt (n := 10) (by decide) hb
    obtain ⟨rr, hr, rfl⟩ := ix_lt (n := 6) (by decide) hc
    obtain ⟨x, hx, rfl⟩ := ix_lt (n := 6) (by decide) hd
    rcases h.2.2.1 s hs with ⟨y1, y2⟩ | ⟨S, hS⟩
    · refine LC.of (x_write_no hs hv hr hx (Or.inl y1)) (m_write_no hs hv hr hx (Or.inl ?_)) (h.find (by decide))
      simp [u3, y2]
    obtain ⟨M, hM, hd1, hcr⟩ := h.1 rr hr
    rcases hcr with ⟨h0, hz⟩ | ⟨h0, hz, hp⟩
    · refine LC.of (x_write_no hs hv hr hx (Or.inr h0)) (m_write_no hs hv hr hx (Or.inr ?_)) (h.find (by decide))
      simp [u3, hz]
    obtain ⟨w1, w2, w3, w4, w5, w6, w7⟩ := hS
    have hW : W0 σ (4 + rr) M (σ 30 (4 + rr)) := ⟨hd1, hM, by omega, rfl⟩
    refine am_T.mono (x_write hs hv hr hx (by rw [w2]; decide) (by rw [h0]; decide) w1 w3 w5 hW) ?_
    rintro w s2 τ2 t2 ⟨rfl, rfl, hQ⟩
    have mgo : ∀ s2, (∀ q, q = 49 ∨ q = 50 ∨ q = 44 ∨ q = 45 → s2 q = σ q) → am_T l 188 [aR 12 0, aI (nI s), aI (nI v), aI (nI rr), aI (nI x)] s2 τ2 t2 (fun w s3 τ3 t3 => τ3 = τ2 ∧ t3 = t2 ∧ mwQ s2 x (wrP S v (σ 30 (4 + rr)) M (sN S) 0 0 o0) w s3) := by
      intro s2 hk
      refine m_write hs hv hx w1 (by rw [hk 49 (by decide)]; exact w4) ?_ ⟨by rw [hk 44 (by decide)]; exact hz, hM, hr, fun j hj => by rw [hk 45 (by decide)]; exact (hp j hj).symm⟩
      unfold MItems
      rw [hk 50 (by decide)]
      exact w7
    cases e : wrP S v (σ 30 (4 + rr)) M (sN S) 0 0 o0 with
    | none =>
      rw [e] at hQ mgo
      obtain ⟨rfl, s1, wf, hwf, hf, rfl⟩ := hQ
      refine ⟨rfl, am_T.mono (mgo _ (fun q hq => by rw [xfind, u3_kk _ _ (by omega), u3_kk _ _ (by omega), hf.1 q (by omega) (by omega) (by omega)])) ?_⟩
      rintro w3 s3 τ3 t3 ⟨rfl, rfl, rfl, s4, wf2, hwf2, hf2, rfl⟩
      exact ⟨rfl, h.fnd hf hf2⟩
    | some o =>
      rw [e] at hQ mgo
      by_cases ho : o.1 ≤ 60
      · unfold wwQ at hQ
        simp only [if_pos ho] at hQ
        obtain ⟨rfl, s1, hf, hb1, rfl⟩ := hQ
        refine ⟨rfl, am_T.mono (mgo _ (fun q hq => by rw [xbec_k (by omega) (by omega), hf.1 q (by omega) (by omega) (by omega)])) ?_⟩
        rintro w3 s3 τ3 t3 ⟨rfl, rfl, hQ2⟩
        unfold mwQ at hQ2
        simp only [if_pos ho] at hQ2
        obtain ⟨rfl, s4, hf2, hb2, rfl⟩ := hQ2
        refine ⟨rfl, ?_⟩
        have hOB : wOB o := wrP_B w1 _ _ _ _ _ (by omega) (fun j hj => absurd hj (Nat.not_lt_zero j)) e
        generalize hF : cp3 (mfill (u3 s4 47 0 x (nI o.1)) 48 (60 * x) 60 32) 48 0 52 0 0 (60 * x) o.1 = F
        have k4 : ∀ q, q ≠ 47 → q ≠ 48 → F q = s4 q := fun q a1 a2 => by
          rw [← hF, cp3_kk a2]
          funext b c
          simp [mfill, u3, a1, a2]
        have g : ∀ q, q ≠ 6 ∧ q ≠ 10 ∧ q ≠ 30 ∧ q ≠ 12 ∧ q ≠ 52 ∧ q ≠ 47 ∧ q ≠ 48 → F q = σ q := fun q ⟨a1, a2, a3, a4, a5, a6, a7⟩ => by
          rw [k4 q a6 a7, hf2.1 q a4 a5, xbec_k a1 a3, hf.1 q a1 a2 a3]
        have gi : ∀ q i, (q = 6 ∨ q = 30) → i ≠ 0 → i ≠ 10 + x → F q i = σ q i := fun q i hq hi hi2 => by
          rw [k4 q (by omega) (by omega), hf2.1 q (by omega) (by omega), xbec_i hi2, hf.2 q i (by omega) hi]
        have g12 : ∀ j, j ≠ 16 → F 12 0 j = σ 12 0 j := fun j h16 => by
          rw [k4 12 (by decide) (by decide), hf2.2 j h16, xbec_k (by decide) (by decide), hf.1 12 (by decide) (by decide) (by decide)]
        have c0 : F 6 (10 + x) 0 = 1 := by rw [k4 6 (by decide) (by decide), hf2.1 6 (by decide) (by decide), xbec_0]
        have c1 : F 6 (10 + x) 1 = nI o.1 := by rw [k4 6 (by decide) (by decide), hf2.1 6 (by decide) (by decide), xbec_1]
        have cp : ∀ j, j < o.1 → F 30 (10 + x) j = o.2 j := fun j hj => by
          rw [k4 30 (by decide) (by decide), hf2.1 30 (by decide) (by decide), xbec_p hj]
          exact hb1 j hj
        have m47 : F 47 0 x = nI o.1 := by rw [← hF, cp3_kk (by decide)]; simp [mfill, u3]
        have n47 : ∀ q, q ≠ x → F 47 0 q = σ 47 0 q := fun q hq => by
          rw [← hF, cp3_kk (by decide)]
          have : mfill (u3 s4 47 0 x (nI o.1)) 48 (60 * x) 60 32 47 0 q = s4 47 0 q := by simp [mfill, u3, hq]
          rw [this, hf2.1 47 (by decide) (by decide), xbec_k (by decide) (by decide), hf.1 47 (by decide) (by decide) (by decide)]
        have mp : ∀ j, j < o.1 → F 48 0 (60 * x + j) = o.2 j := fun j hj => by
          rw [← hF]
          have e1 : cp3 (mfill (u3 s4 47 0 x (nI o.1)) 48 (60 * x) 60 32) 48 0 52 0 0 (60 * x) o.1 48 0 (60 * x + j) = s4 52 0 j := by
            have e2 : 60 * x + j < 60 * x + o.1 := by omega
            have e3 : 60 * x + j - 60 * x = j := by omega
            simp [cp3, mfill, u3, e2, e3]
          rw [e1]
          exact hb2 j hj
        have np : ∀ j, (j < 60 * x ∨ 60 * x + 60 ≤ j) → F 48 0 j = σ 48 0 j := fun j hj => by
          rw [← hF]
          have e1 : cp3 (mfill (u3 s4 47 0 x (nI o.1)) 48 (60 * x) 60 32) 48 0 52 0 0 (60 * x) o.1 48 0 j = s4 48 0 j := by
            have e2 : ¬ (60 * x ≤ j ∧ j < 60 * x + o.1) := by omega
            have e3 : ¬ (60 * x ≤ j ∧ j < 60 * x + 60) := by omega
            simp [cp3, mfill, u3, e2, e3]
          rw [e1, hf2.1 48 (by decide) (by decide), xbec_k (by decide) (by decide), hf.1 48 (by decide) (by decide) (by decide)]
        refine h.gen (h.1.fr (fun r _ => gi 6 _ (Or.inl rfl) (by omega) (by omega)) (fun r _ => gi 30 _ (Or.inr rfl) (by omega) (by omega)) (g 44 (by decide)) (g 45 (by decide))) (fun q hq => ?_) (h.2.2.1.fr (fun k hk => g k ?_)) (h.2.2.2.1.fr (g 4 (by decide)) (g 55 (by decide)) (g 56 (by decide)) (gi 6 2 (Or.inl rfl) (by decide) (by omega)) (gi 30 2 (Or.inr rfl) (by decide) (by omega)) (g12 24 (by decide))) ?_ (fun q hq => g q ?_) (fun j hj => g12 j ?_)
        · by_cases eq : q = x
          · subst eq
            refine ⟨⟨o.1, ho, c1, Or.inr ⟨c0, m47, fun j hj => (cp j hj).trans (mp j hj).symm⟩⟩, fun j hj _ hj2 => ?_⟩
            rw [m47, nI_ltI (by omega) (by omega)] at hj2
            rw [cp j hj2]
            exact hOB j hj2
          · rw [gi 6 (10 + q) (Or.inl rfl) (by omega) (by omega), gi 30 (10 + q) (Or.inr rfl) (by omega) (by omega), n47 q eq]
            obtain ⟨⟨n, z1, z2, z3⟩, z4⟩ := h.2.1 q hq
            refine ⟨⟨n, z1, z2, ?_⟩, z4⟩
            rcases z3 with z3 | ⟨z5, z6, z7⟩
            · exact Or.inl z3
            · exact Or.inr ⟨z5, z6, fun j hj => (z7 j hj).trans (np _ (by omega)).symm⟩
        · simp only [kShapes, Bool.or_eq_true, Bool.and_eq_true, Nat.ble_eq, Nat.beq_eq] at hk
          omega
        · have z := h.2.2.2.2.2.1
          unfold Rmisc at z ⊢
          rw [g 11 (by decide), g12 2 (by decide)]
          exact z
        · simp only [kNet, Bool.or_eq_true, Bool.and_eq_true, Nat.ble_eq] at hq
          omega
        · rintro rfl; exact absurd hj (by decide)
      · unfold wwQ at hQ
        simp only [if_neg ho] at hQ
        obtain ⟨rfl, s1, wf, hwf, hf, rfl⟩ := hQ
        refine ⟨rfl, am_T.mono (mgo _ (fun q hq => by rw [xfind, u3_kk _ _ (by omega), u3_kk _ _ (by omega), hf.1 q (by omega) (by omega) (by omega)])) ?_⟩
        rintro w3 s3 τ3 t3 ⟨rfl, rfl, hQ2⟩
        unfold mwQ at hQ2
        simp only [if_neg ho] at hQ2
        obtain ⟨rfl, s4, wf2, hwf2, hf2, rfl⟩ := hQ2
        exact ⟨rfl, h.fnd hf hf2⟩
  · refine LC.of (x_writeB hc) (m_writeB ?_) h
    rintro ⟨z1, z2, z3, z4⟩
    obtain ⟨j, hj, rfl⟩ := ix_le (n := 4) (by decide) z1
    obtain ⟨k, hk, rfl⟩ := ix_le (n := 10) (by decide) z2
    obtain ⟨m, hm, rfl⟩ := ix_le (n := 6) (by decide) z3
    obtain ⟨n, hn, rfl⟩ := ix_le (n := 6) (by decide) z4
    exact hc ⟨in4 hj, in10 hk, in6 hm, in6 hn⟩
end L63

/-! reading: bits, bytes, one pure reader -/
section L64
/-- the bit of name a -/
def bb (x : Int32) (a : Nat) : Bool := x.toBitVec.getLsbD a
theorem sh_n : ∀ a, a < 16 → ((nI a &&& 31).toBitVec.smod 32).toNat = a := by decide +kernel
theorem bt_bv : ∀ a, a < 16 → (bt a).toBitVec = BitVec.twoPow 32 a := by decide +kernel
theorem bb_x {x : Int32} {a : Nat} (ha : a < 16) : x &&& bt a = 0 ↔ bb x a = false := by
  unfold bb
  rw [← Int32.toBitVec_inj, Int32.toBitVec_and, bt_bv a ha, BitVec.and_twoPow]
  cases h : x.toBitVec.getLsbD a with
  | false => exact ⟨fun _ => rfl, fun _ => rfl⟩
  | true =>
    refine ⟨fun e => ?_, fun e => by cases e⟩
    have e2 : bt a = 0 := by
      rw [← Int32.toBitVec_inj, bt_bv a ha]
      exact e
    exact absurd e2 (bt_ne ha)
theorem bb_m {x : Int32} {a : Nat} (ha : a < 16) : (x >>> (nI a &&& 31)) &&& 1 = 1 ↔ bb x a = true := by
  unfold bb
  rw [← Int32.toBitVec_inj, Int32.toBitVec_and, Int32.toBitVec_shiftRight]
  show (x.toBitVec.sshiftRight ((nI a &&& 31).toBitVec.smod 32).toNat) &&& 1#32 = 1#32 ↔ _
  rw [sh_n a ha, BitVec.and_one_eq_setWidth_ofBool_getLsbD, BitVec.getLsbD_sshiftRight]
  have h1 : a + 0 < 32 := by omega
  simp only [h1, if_true]
  cases x.toBitVec.getLsbD (a + 0) <;> simp
theorem bb_or {x : Int32} {a b : Nat} (ha : a < 16) (hb : b < 16) : bb (x ||| bt b) a = (bb x a || decide (a = b)) := by
  unfold bb
  rw [Int32.toBitVec_or, BitVec.getLsbD_or, bt_bv b hb, BitVec.getLsbD_twoPow]
  have h1 : (decide (b < 32)) = true := by simp; omega
  rw [h1, Bool.true_and]
  by_cases e : a = b
  · simp [e]
  · have e2 : ¬ b = a := fun z => e z.symm
    simp [e, e2]
theorem bb_or2 {x y : Int32} {a : Nat} : bb (x ||| y) a = (bb x a || bb y a) := by
  unfold bb
  rw [Int32.toBitVec_or, BitVec.getLsbD_or]
theorem bb_0 {a : Nat} : bb 0 a = false := by
  unfold bb
  exact BitVec.getLsbD_zero
/-- a byte without its sign -/
def ub (x : Int32) : Nat := (x &&& 255).toNatClampNeg
theorem ub_all : ∀ k, k < 256 → (nI k - 128) &&& 255 = nI (ub (nI k - 128)) ∧ ub (nI k - 128) < 256 ∧ ((¬ (nI k - 128 < 0) ∧ nI k - 128 < 64) ↔ ub (nI k - 128) < 64) ∧ (ub (nI k - 128) < 64 → nI k - 128 = nI (ub (nI k - 128))) := by decide +kernel
theorem isB_k {x : Int32} (h : isB x) : ∃ k, k < 256 ∧ x = nI k - 128 := by
  obtain ⟨h1, h2⟩ := h
  rw [i_le] at h1 h2
  have e1 : (-128 : Int32).toInt = -128 := by decide
  have e2 : (127 : Int32).toInt = 127 := by decide
  have e3 : (128 : Int32).toInt = 128 := by decide
  rw [e1] at h1
  rw [e2] at h2
  refine ⟨(x.toInt + 128).toNat, by omega, ?_⟩
  apply Int32.toInt_inj.mp
  rw [Int32.toInt_sub, nI_toInt (by omega), e3, Int.bmod_eq_of_le (by omega) (by omega)]
  omega
theorem ub_ok {x : Int32} (h : isB x) : x &&& 255 = nI (ub x) ∧ ub x < 256 ∧ ((¬ (x < 0) ∧ x < 64) ↔ ub x < 64) ∧ (ub x < 64 → x = nI (ub x)) := by
  obtain ⟨k, hk, rfl⟩ := isB_k h
  exact ub_all k hk
theorem d16 : ∀ k, k < 256 → nI k / 16 = nI (k / 16) ∧ nI k - nI k / 16 * 16 = nI (k % 16) := by decide +kernel
end L64

/-! one pure reader -/
section L65
/-- bytes of a text; behind its end 0 -/
def ut (G : Nat → Int32) (N p : Nat) : Nat := if p < N then ub (G p) else 0
/-- the item of a version with a name -/
def itO (S : aSh) (v a : Nat) : Option Nat := lastM (fun k => decide (sNm S k = a ∧ sSi S k ≤ v ∧ v ≤ sTi S k)) (sN S)
def lkO (S : aSh) (v a so : Nat) : Option Nat := match itO S v a with
  | none => none
  | some k => if sSo S k = so then some k else none
theorem itO_s {S : aSh} {v a k : Nat} (h : itO S v a = some k) : k < sN S ∧ sNm S k = a ∧ sSi S k ≤ v ∧ v ≤ sTi S k := by
  obtain ⟨h1, h2⟩ := lastM_some h
  exact ⟨h1, of_decide_eq_true h2⟩
theorem itO_u {S : aSh} {v k : Nat} (hS : ShOK S) (hk : k < sN S) (h1 : sSi S k ≤ v) (h2 : v ≤ sTi S k) : itO S v (sNm S k) = some k := by
  cases e : itO S v (sNm S k) with
  | none => exact absurd (decide_eq_true ⟨rfl, h1, h2⟩) (lastM_none e k hk)
  | some q =>
    obtain ⟨g1, g2, g3, g4⟩ := itO_s e
    by_cases eq : q = k
    · rw [eq]
    · have := hS.2.2 q k g1 hk eq g2
      omega
theorem lkO_s {S : aSh} {v a so k : Nat} (h : lkO S v a so = some k) : itO S v a = some k ∧ sSo S k = so := by
  unfold lkO at h
  split at h
  · cases h
  · split at h
    · rename_i h2
      cases h
      exact ⟨by assumption, h2⟩
    · cases h
abbrev rS : Type := Int32 × Int32 × (Nat → Nat) × wO
abbrev rRd (s : rS) : Int32 := s.1
abbrev rKp (s : rS) : Int32 := s.2.1
abbrev rVp (s : rS) : Nat → Nat := s.2.2.1
abbrev rUn (s : rS) : wO := s.2.2.2
/-- bytes p .. are kept -/
def kpN (G : Nat → Int32) : Nat → Nat → wO → wO
  | 0, _, o => o
  | d + 1, p, o => kpN G d (p + 1) (wps o (G p))
theorem kpN_len {G : Nat → Int32} : ∀ (d p : Nat) (o : wO), (kpN G d p o).1 = o.1 + d
  | 0, _, o => rfl
  | d + 1, p, o => by
    rw [kpN, kpN_len d (p + 1) (wps o (G p))]
    show o.1 + 1 + d = _
    omega
def wdN (so u : Nat) : Nat := if so = 1 then 3 else if so = 2 then 2 + u else 2
/-- a number that is none -/
def bdC (S : aSh) (so : Nat) (k : Option Nat) (u : Nat) : Prop := (so = 2 ∧ 9 < u) ∨ (so = 3 ∧ ∃ q, k = some q ∧ sCh S q ≤ u)
def tkR (G : Nat → Int32) (st : rS) (k : Option Nat) (a p e : Nat) : rS := match k with
  | some _ => (rRd st ||| bt a, rKp st, pshF (rVp st) a (p + 1), rUn st)
  | none => (rRd st, rKp st ||| bt a, rVp st, kpN G (e - p) p (rUn st))
/-- a field from p on -/
noncomputable def fdR (S : aSh) (v : Nat) (G : Nat → Int32) (N : Nat) (st : rS) (p : Nat) : Nat ⊕ (rS × Nat) :=
  if ¬ ut G N p < 64 ∨ bb (rRd st ||| rKp st) (ut G N p % 16) = true then .inl p else
  @ite _ (bdC S (ut G N p / 16) (lkO S v (ut G N p % 16) (ut G N p / 16)) (ut G N (p + 1))) (Classical.propDecidable _) (.inl (p + 1)) (
  if N < p + wdN (ut G N p / 16) (ut G N (p + 1)) then .inl N else .inr (tkR G st (lkO S v (ut G N p % 16) (ut G N p / 16)) (ut G N p % 16) p (p + wdN (ut G N p / 16) (ut G N (p + 1))), p + wdN (ut G N p / 16) (ut G N (p + 1))))
/-- a needed field did not come -/
def lkN (S : aSh) (v : Nat) (rd : Int32) (n : Nat) : Prop := ∃ i, i < n ∧ (sSi S i ≤ v ∧ v ≤ sTi S i) ∧ sPr S i = none ∧ bb rd (sNm S i) = false
theorem lkN_s {S : aSh} {v n : Nat} {rd : Int32} : lkN S v rd (n + 1) ↔ lkN S v rd n ∨ ((sSi S n ≤ v ∧ v ≤ sTi S n) ∧ sPr S n = none ∧ bb rd (sNm S n) = false) := by
  constructor
  · rintro ⟨i, hi, h⟩
    by_cases e : i = n
    · rw [e] at h; exact Or.inr h
    · exact Or.inl ⟨i, by omega, h⟩
  · rintro (⟨i, hi, h⟩ | h)
    · exact ⟨i, by omega, h⟩
    · exact ⟨n, by omega, h⟩
noncomputable def rdP (S : aSh) (v : Nat) (G : Nat → Int32) (N : Nat) : Nat → rS → Nat → Nat ⊕ rS
  | 0, st, _ => .inr st
  | d + 1, st, p => if N ≤ p then @ite _ (lkN S v (rRd st) (sN S)) (Classical.propDecidable _) (.inl N) (.inr st) else match fdR S v G N st p with
    | .inl q => .inl q
    | .inr (st2, q) => rdP S v G N d st2 q
theorem wdN_2 {so u : Nat} : 2 ≤ wdN so u := by
  unfold wdN
  split
  · omega
  · split <;> omega
theorem fdR_p {S : aSh} {v N p q : Nat} {G : Nat → Int32} {st st2 : rS} (h : fdR S v G N st p = .inr (st2, q)) : ¬ (¬ ut G N p < 64 ∨ bb (rRd st ||| rKp st) (ut G N p % 16) = true) ∧ ¬ bdC S (ut G N p / 16) (lkO S v (ut G N p % 16) (ut G N p / 16)) (ut G N (p + 1)) ∧ q = p + wdN (ut G N p / 16) (ut G N (p + 1)) ∧ q ≤ N ∧ st2 = tkR G st (lkO S v (ut G N p % 16) (ut G N p / 16)) (ut G N p % 16) p q := by
  unfold fdR at h
  by_cases h1 : ¬ ut G N p < 64 ∨ bb (rRd st ||| rKp st) (ut G N p % 16) = true
  · rw [if_pos h1] at h; cases h
  rw [if_neg h1] at h
  by_cases h2 : bdC S (ut G N p / 16) (lkO S v (ut G N p % 16) (ut G N p / 16)) (ut G N (p + 1))
  · rw [if_pos h2] at h; cases h
  rw [if_neg h2] at h
  by_cases h3 : N < p + wdN (ut G N p / 16) (ut G N (p + 1))
  · rw [if_pos h3] at h; cases h
  rw [if_neg h3] at h
  cases h
  exact ⟨h1, h2, rfl, by omega, rfl⟩
theorem fdR_f {S : aSh} {v N p q : Nat} {G : Nat → Int32} {st : rS} (hp : p < N) (h : fdR S v G N st p = .inl q) : q ≤ N := by
  unfold fdR at h
  by_cases h1 : ¬ ut G N p < 64 ∨ bb (rRd st ||| rKp st) (ut G N p % 16) = true
  · rw [if_pos h1] at h; cases h; omega
  rw [if_neg h1] at h
  by_cases h2 : bdC S (ut G N p / 16) (lkO S v (ut G N p % 16) (ut G N p / 16)) (ut G N (p + 1))
  · rw [if_pos h2] at h; cases h; omega
  rw [if_neg h2] at h
  by_cases h3 : N < p + wdN (ut G N p / 16) (ut G N (p + 1))
  · rw [if_pos h3] at h; cases h; exact Nat.le_refl _
  rw [if_neg h3] at h
  cases h
theorem rdP_st {S : aSh} {v N : Nat} {G : Nat → Int32} : ∀ (n m : Nat) (st : rS) (p : Nat), N < p + n → N < p + m → 1 ≤ n → 1 ≤ m → rdP S v G N n st p = rdP S v G N m st p
  | 0, _, _, _, _, _, h, _ => absurd h (by omega)
  | _, 0, _, _, _, _, _, h => absurd h (by omega)
  | n + 1, m + 1, st, p, h1, h2, _, _ => by
    unfold rdP
    split
    · rfl
    · split
      · rfl
      · rename_i e
        have := fdR_p e
        have w := wdN_2 (so := ut G N p / 16) (u := ut G N (p + 1))
        exact rdP_st n m _ _ (by omega) (by omega) (by omega) (by omega)
noncomputable def rdA (S : aSh) (v : Nat) (G : Nat → Int32) (N : Nat) (st : rS) (p : Nat) : Nat ⊕ rS := rdP S v G N (N + 1) st p
theorem rdA_end {S : aSh} {v N p : Nat} {G : Nat → Int32} {st : rS} (h : N ≤ p) : (lkN S v (rRd st) (sN S) → rdA S v G N st p = .inl N) ∧ (¬ lkN S v (rRd st) (sN S) → rdA S v G N st p = .inr st) := by
  unfold rdA rdP
  rw [if_pos h]
  exact ⟨fun z => if_pos z, fun z => if_neg z⟩
theorem rdA_no {S : aSh} {v N p q : Nat} {G : Nat → Int32} {st : rS} (h : p < N) (e : fdR S v G N st p = .inl q) : rdA S v G N st p = .inl q := by
  unfold rdA rdP
  rw [if_neg (by omega), e]
theorem rdA_st {S : aSh} {v N p q : Nat} {G : Nat → Int32} {st st2 : rS} (h : p < N) (e : fdR S v G N st p = .inr (st2, q)) : rdA S v G N st p = rdA S v G N st2 q := by
  show rdP S v G N (N + 1) st p = rdP S v G N (N + 1) st2 q
  rw [rdP, if_neg (by omega), e]
  have := fdR_p e
  have w := wdN_2 (so := ut G N p / 16) (u := ut G N (p + 1))
  exact rdP_st _ _ _ _ (by omega) (by omega) (by omega) (by omega)
/-- what has come stands in the text -/
def rIn (S : aSh) (v : Nat) (G : Nat → Int32) (N : Nat) (st : rS) (p : Nat) : Prop := (∀ a, a < 16 → bb (rRd st) a = true → ∃ k, itO S v a = some k ∧ 1 ≤ rVp st a ∧ rVp st a < N ∧ (sSo S k = 1 → rVp st a + 1 < N) ∧ (sSo S k = 2 → ut G N (rVp st a) ≤ 9 ∧ rVp st a + ut G N (rVp st a) < N)) ∧ (rUn st).1 ≤ p ∧ ∀ j, j < (rUn st).1 → isB ((rUn st).2 j)
theorem kpN_B {G : Nat → Int32} {N : Nat} (hB : ∀ j, j < N → isB (G j)) : ∀ (d p : Nat) (o : wO), p + d ≤ N → wOB o → wOB (kpN G d p o)
  | 0, _, o, _, h => h
  | d + 1, p, o, hp, h => kpN_B hB d (p + 1) _ (by omega) (h.ps (hB p (by omega)))
theorem rIn.st {S : aSh} {v N p q : Nat} {G : Nat → Int32} {st st2 : rS} (hB : ∀ j, j < N → isB (G j)) (h : rIn S v G N st p) (hp : p < N) (e : fdR S v G N st p = .inr (st2, q)) : rIn S v G N st2 q := by
  obtain ⟨h1, h2, h3, h4, rfl⟩ := fdR_p e
  have w := wdN_2 (so := ut G N p / 16) (u := ut G N (p + 1))
  obtain ⟨g1, g2, g3⟩ := h
  have ha16 : ut G N p % 16 < 16 := Nat.mod_lt _ (by decide)
  cases ek : lkO S v (ut G N p % 16) (ut G N p / 16) with
  | none =>
    refine ⟨fun a ha hb => g1 a ha hb, ?_, ?_⟩
    · show (kpN G (q - p) p (rUn st)).1 ≤ q
      rw [kpN_len]
      omega
    · exact kpN_B hB (q - p) p _ (by omega) g3
  | some k =>
    obtain ⟨e1, e2⟩ := lkO_s ek
    refine ⟨fun a ha hb => ?_, by show (rUn st).1 ≤ q; omega, g3⟩
    have hb : bb (rRd st ||| bt (ut G N p % 16)) a = true := hb
    show ∃ k, itO S v a = some k ∧ 1 ≤ pshF (rVp st) (ut G N p % 16) (p + 1) a ∧ pshF (rVp st) (ut G N p % 16) (p + 1) a < N ∧ (sSo S k = 1 → pshF (rVp st) (ut G N p % 16) (p + 1) a + 1 < N) ∧ (sSo S k = 2 → ut G N (pshF (rVp st) (ut G N p % 16) (p + 1) a) ≤ 9 ∧ pshF (rVp st) (ut G N p % 16) (p + 1) a + ut G N (pshF (rVp st) (ut G N p % 16) (p + 1) a) < N)
    by_cases ea : a = ut G N p % 16
    · rw [show pshF (rVp st) (ut G N p % 16) (p + 1) a = p + 1 from if_pos ea, ea]
      refine ⟨k, e1, by omega, by omega, fun z => ?_, fun z => ?_⟩
      · rw [e2] at z
        unfold wdN at h3
        rw [if_pos z] at h3
        omega
      · rw [e2] at z
        unfold wdN at h3
        rw [if_neg (by omega), if_pos z] at h3
        exact ⟨Nat.le_of_not_lt (fun y => h2 (Or.inl ⟨z, y⟩)), by omega⟩
    · rw [show pshF (rVp st) (ut G N p % 16) (p + 1) a = rVp st a from if_neg ea]
      refine g1 a ha ?_
      rw [bb_or ha ha16, decide_eq_false ea, Bool.or_false] at hb
      exact hb
theorem rdP_in {S : aSh} {v N : Nat} {G : Nat → Int32} (hB : ∀ j, j < N → isB (G j)) : ∀ (d p : Nat) (st st2 : rS), N < p + d → p ≤ N → rIn S v G N st p → rdP S v G N d st p = .inr st2 → rIn S v G N st2 N
  | 0, p, st, st2, h, hp, hI, e => absurd h (by omega)
  | d + 1, p, st, st2, h, hp, hI, e => by
    unfold rdP at e
    split at e
    · by_cases hl : lkN S v (rRd st) (sN S)
      · rw [if_pos hl] at e; cases e
      · rw [if_neg hl] at e
        cases e
        exact ⟨hI.1, Nat.le_trans hI.2.1 hp, hI.2.2⟩
    · split at e
      · cases e
      · rename_i e2
        have := fdR_p e2
        have w := wdN_2 (so := ut G N p / 16) (u := ut G N (p + 1))
        exact rdP_in hB d _ _ _ (by omega) (by omega) (hI.st hB (by omega) e2) e
theorem rdP_f {S : aSh} {v N : Nat} {G : Nat → Int32} : ∀ (d p q : Nat) (st : rS), rdP S v G N d st p = .inl q → q ≤ N
  | 0, p, q, st, e => by cases e
  | d + 1, p, q, st, e => by
    unfold rdP at e
    split at e
    · by_cases hl : lkN S v (rRd st) (sN S)
      · rw [if_pos hl] at e; cases e; exact Nat.le_refl _
      · rw [if_neg hl] at e; cases e
    · split at e
      · rename_i e2
        cases e
        exact fdR_f (by omega) e2
      · exact rdP_f d _ q _ e
def st0 : rS := (0, 0, fun _ => 0, o0)
theorem st0_in {S : aSh} {v N : Nat} {G : Nat → Int32} : rIn S v G N st0 0 := ⟨(fun a _ h => by
  rw [show rRd st0 = 0 from rfl, bb_0] at h
  cases h), Nat.le_refl _, fun j hj => absurd hj (Nat.not_lt_zero j)⟩
/-- a field's values -/
def vlM (G : Nat → Int32) (N p : Nat) : Nat → Nat → wO → wO
  | 0, _, o => o
  | d + 1, k, o => vlM G N p d (k + 1) (wps o (nI (ut G N (p + k))))
theorem vlM_len {G : Nat → Int32} {N p : Nat} : ∀ (d k : Nat) (o : wO), (vlM G N p d k o).1 = o.1 + d
  | 0, _, o => rfl
  | d + 1, k, o => by
    rw [vlM, vlM_len d (k + 1)]
    show o.1 + 1 + d = _
    omega
def vlF (G : Nat → Int32) (N so p : Nat) (o : wO) : wO := vlM G N p (if so = 2 then ut G N p else 0) 1 (wps o (nI (if so = 1 then 256 * ut G N p + ut G N (p + 1) else ut G N p)))
def dcP (S : aSh) (v : Nat) (G : Nat → Int32) (N : Nat) (st : rS) : Nat → Nat → Int32 → wO → Int32 × wO
  | 0, _, df, o => (df, o)
  | d + 1, i, df, o => if sSi S i ≤ v ∧ v ≤ sTi S i then (if bb (rRd st) (sNm S i) = true then dcP S v G N st d (i + 1) df (vlF G N (sSo S i) (rVp st (sNm S i)) o) else dcP S v G N st d (i + 1) (df ||| bt (sNm S i)) (wps o (pI (sPr S i)))) else dcP S v G N st d (i + 1) df o
end L65

/-! the class's Reading: fields -/
section L66
variable {l : Launch} {σ σ2 : tI} {τ τ2 : tL} {t : Option (Nat × Nat)} {r N p : Nat} {G : Nat → Int32}
theorem x_un {q : Nat} (h : K0 σ r N G) (hB : ∀ j, j < N → isB (G j)) (hq : q < 1000) : am_D l 62 [aR 6 r, aI (nI q)] σ τ (rX t) cX lX (some (aI (nI (ut G N q)))) σ τ (rX t) := by
  obtain ⟨h1, h2, h3, rfl⟩ := h
  have hx := x_unsignedAt (l := l) (τ := τ) (t := t) (i := nI q) h1 (by rw [lX_row h3]; exact h2) (by rw [lX_row h3]; decide)
  have e : (if 0 ≤ nI q ∧ nI q < nI N then σ 30 r (nI q).toNatClampNeg &&& 255 else 0) = nI (ut (σ 30 r) N q) := by
    unfold ut
    by_cases hqN : q < N
    · rw [if_pos hqN, if_pos ⟨nI_pos' (by omega), nI_lt hqN (by omega)⟩, nI_clamp (by omega)]
      exact (ub_ok (hB q hqN)).1
    · rw [if_neg hqN, if_neg (fun z => hqN ((nI_ltI (by omega) (by omega)).mp z.2))]
      rfl
  rw [e] at hx
  exact hx
theorem ut_lt {q : Nat} (hB : ∀ j, j < N → isB (G j)) : ut G N q < 256 := by
  unfold ut
  split
  · exact (ub_ok (hB q (by assumption))).2.1
  · omega
theorem x_width {so : Nat} (h : K0 σ r N G) (hB : ∀ j, j < N → isB (G j)) (hp : p < 900) (hso : so < 4) : am_D l 39 [aR 6 r, aI (nI p), aI (nI so)] σ τ (rX t) cX lX (some (aI (nI (wdN so (ut G N (p + 1)))))) σ τ (rX t) := by
  have hu := x_un (l := l) (τ := τ) (t := t) (q := p + 1) h hB (by omega)
  rw [← nI_1 p] at hu
  unfold wdN
  refine am_D_of am_o39 am_l39 rfl ?_
  refine am_vc_ok am_k39 [] 100 ?_
  refine And.intro (fun z => ?_) (fun z => ?_)
  · have z : so = 1 := nI_inj' (by omega) (by decide) (show nI so = nI 1 from z)
    rw [if_pos z]
    exact am_vI am_k39 am_r39 rfl ⟨rfl, rfl, rfl, rfl, rfl, rfl⟩
  · have z1 : ¬ so = 1 := fun y => z (by rw [y]; rfl)
    rw [if_neg z1]
    refine And.intro (fun z => ?_) (fun z => ?_)
    · have z : so = 2 := nI_inj' (by omega) (by decide) (show nI so = nI 2 from z)
      rw [if_pos z]
      refine am_vO am_k39 am_h39 rfl rfl rfl rfl (hu) ?_
      refine am_vc_ok am_k39 [] 100 ?_
      refine am_vI am_k39 am_r39 rfl ⟨?_, rfl, rfl, rfl, rfl, rfl⟩
      exact congrArg (fun x => some (aI x)) (nI_add 2 _)
    · have z2 : ¬ so = 2 := fun y => z (by rw [y]; rfl)
      rw [if_neg z2]
      exact am_vI am_k39 am_r39 rfl ⟨rfl, rfl, rfl, rfl, rfl, rfl⟩
def chI (S : aSh) (so : Nat) (k : Option Nat) : Int32 := if so = 2 then 10 else if so = 3 then (match k with
  | some q => nI (sCh S q)
  | none => 256) else 256
theorem chI_bd {S : aSh} {so u : Nat} {k : Option Nat} (hS : ShOK S) (hk : ∀ q, k = some q → q < sN S ∧ sSo S q = so) (hu : u < 256) : chI S so k ≤ nI u ↔ bdC S so k u := by
  unfold chI bdC
  by_cases h2 : so = 2
  · rw [if_pos h2, show (10 : Int32) = nI 10 from rfl, nI_leI (by decide) (by omega)]
    constructor
    · intro z; exact Or.inl ⟨h2, by omega⟩
    · rintro (z | z)
      · omega
      · omega
  · rw [if_neg h2]
    have n256 : ¬ (256 : Int32) ≤ nI u := by
      rw [show (256 : Int32) = nI 256 from rfl, nI_leI (by decide) (by omega)]
      omega
    by_cases h3 : so = 3
    · rw [if_pos h3]
      cases k with
      | none =>
        refine ⟨fun z => absurd z n256, ?_⟩
        rintro (z | ⟨-, q, hq, -⟩)
        · exact absurd z.1 h2
        · cases hq
      | some q =>
        obtain ⟨q1, q2⟩ := hk q rfl
        have b := (hS.2.1 q q1).2.2.1 (by omega)
        show nI (sCh S q) ≤ nI u ↔ _
        rw [nI_leI (by omega) (by omega)]
        constructor
        · intro z; exact Or.inr ⟨h3, q, rfl, z⟩
        · rintro (z | ⟨-, q2, hq, z⟩)
          · exact absurd z.1 h2
          · cases hq; exact z
    · rw [if_neg h3]
      refine ⟨fun z => absurd z n256, ?_⟩
      rintro (z | z)
      · exact absurd z.1 h2
      · exact absurd z.1 h3
theorem x_choices {i so : Nat} {k : Option Nat} {S : aSh} (hS : ShOK S) (hX : XItems σ i S) (hk : ∀ q, k = some q → q < sN S) (hso : so < 4) : am_D l 37 [aR 9 i, aI (pI k), aI (nI so)] σ τ (rX t) cX lX (some (aI (chI S so k))) σ τ (rX t) := by
  have s12 := hS.1
  unfold chI
  refine am_D_of am_o37 am_l37 rfl ?_
  refine am_vc_ok am_k37 [] 100 ?_
  refine And.intro (fun z => ?_) (fun z => ?_)
  · have z : so = 2 := nI_inj' (by omega) (by decide) (show nI so = nI 2 from z)
    rw [if_pos z]
    exact am_vI am_k37 am_r37 rfl ⟨rfl, rfl, rfl, rfl, rfl, rfl⟩
  · have z2 : ¬ so = 2 := fun y => z (by rw [y]; rfl)
    rw [if_neg z2]
    refine And.intro (fun z => ?_) (fun z => ?_)
    · have z : so = 3 := nI_inj' (by omega) (by decide) (show nI so = nI 3 from z)
      rw [if_pos z]
      cases k with
      | none =>
        refine And.intro (fun _ => ?_) (fun y => absurd rfl y)
        exact am_vI am_k37 am_r37 rfl ⟨rfl, rfl, rfl, rfl, rfl, rfl⟩
      | some q =>
        have hq := hk q rfl
        refine And.intro (fun y => absurd y (n9_4 (by omega))) (fun _ => ?_)
        refine And.intro (vp_in_nI (N := 12) (by omega) (by decide)) ?_
        rw [show pI (some q) = nI q from rfl, nI_clamp (n := q) (by omega), (hX q hq).2.2.1]
        exact am_vI am_k37 am_r37 rfl ⟨rfl, rfl, rfl, rfl, rfl, rfl⟩
    · have z3 : ¬ so = 3 := fun y => z (by rw [y]; rfl)
      rw [if_neg z3]
      exact am_vI am_k37 am_r37 rfl ⟨rfl, rfl, rfl, rfl, rfl, rfl⟩
theorem x_wrongIn {so : Nat} {c : Int32} (h : K0 σ r N G) (hB : ∀ j, j < N → isB (G j)) (hp : p < 900) (hso : so < 4) : am_D l 38 [aR 6 r, aI (nI p), aI (nI so), aI c] σ τ (rX t) cX lX (some (aI (if c ≤ nI (ut G N (p + 1)) then nI (p + 1) else if N < p + wdN so (ut G N (p + 1)) then nI N else -9))) σ τ (rX t) := by
  have hN := h.2.1
  have hu := x_un (l := l) (τ := τ) (t := t) (q := p + 1) h hB (by omega)
  rw [← nI_1 p] at hu
  have h256 := ut_lt (q := p + 1) hB
  have hw : wdN so (ut G N (p + 1)) < 300 := by
    unfold wdN
    split
    · omega
    · split <;> omega
  refine am_D_of am_o38 am_l38 rfl ?_
  refine am_vc_ok am_k38 [] 100 ?_
  refine am_vO am_k38 am_h38 rfl rfl rfl rfl (hu) ?_
  refine am_vc_ok am_k38 [] 100 ?_
  refine And.intro (fun z => ?_) (fun z => ?_)
  · have z : nI (ut G N (p + 1)) < c := z
    rw [if_neg (Int32.not_le.mpr z)]
    refine am_vS am_k38 am_h38 rfl rfl rfl rfl (x_width h hB hp hso) ?_
    refine am_vc_ok am_k38 [] 100 ?_
    refine And.intro (fun y => ?_) (fun y => ?_)
    · have y : nI p + nI (wdN so (ut G N (p + 1))) ≤ σ 6 r 1 := y
      rw [nI_add, h.1, nI_leI (by omega) (by omega)] at y
      rw [if_neg (by omega)]
      exact am_vI am_k38 am_r38 rfl ⟨rfl, rfl, rfl, rfl, rfl, rfl⟩
    · have y : ¬ nI p + nI (wdN so (ut G N (p + 1))) ≤ σ 6 r 1 := y
      rw [nI_add, h.1, nI_leI (by omega) (by omega)] at y
      rw [if_pos (by omega)]
      refine am_vI am_k38 am_r38 rfl ⟨congrArg (fun x => some (aI x)) h.1, rfl, rfl, rfl, rfl, rfl⟩
  · have z : ¬ nI (ut G N (p + 1)) < c := z
    rw [if_pos (Int32.not_lt.mp z)]
    refine am_vI am_k38 am_r38 rfl ⟨congrArg (fun x => some (aI x)) (nI_1 p), rfl, rfl, rfl, rfl, rfl⟩
/-- only what is read with has changed -/
def rxF (σ s : tI) : Prop := (∀ q, q ≠ 4 → q ≠ 6 → q ≠ 26 → q ≠ 30 → s q = σ q) ∧ (∀ q i, (q = 6 ∨ q = 30) → i ≠ 1 → i ≠ 3 → s q i = σ q i) ∧ ∀ j, j < 7 → s 4 0 j = σ 4 0 j
theorem rxF.refl : rxF σ σ := ⟨fun _ _ _ _ _ => rfl, fun _ _ _ _ _ => rfl, fun _ _ => rfl⟩
theorem rxF.tr {s s2 : tI} (h : rxF σ s) (h2 : rxF s s2) : rxF σ s2 := ⟨fun q a b c d => (h2.1 q a b c d).trans (h.1 q a b c d), fun q i a b c => (h2.2.1 q i a b c).trans (h.2.1 q i a b c), fun j a => (h2.2.2 j a).trans (h.2.2 j a)⟩
theorem rxF.u4 {s : tI} {j : Nat} {v : Int32} (h : rxF σ s) (hj : 7 ≤ j) : rxF σ (u3 s 4 0 j v) := ⟨fun q a b c d => by rw [u3_kk _ _ a]; exact h.1 q a b c d, fun q i a b c => by rw [u3_kk _ _ (by omega)]; exact h.2.1 q i a b c, fun k hk => by rw [u3_j _ _ (by omega)]; exact h.2.2 k hk⟩
theorem rxF.u26 {s : tI} {j : Nat} {v : Int32} (h : rxF σ s) : rxF σ (u3 s 26 0 j v) := ⟨fun q a b c d => by rw [u3_kk _ _ c]; exact h.1 q a b c d, fun q i a b c => by rw [u3_kk _ _ (by omega)]; exact h.2.1 q i a b c, fun k hk => by rw [u3_k _ _ (by decide)]; exact h.2.2 k hk⟩
theorem rxF.u6 {s : tI} {q i j : Nat} {v : Int32} (h : rxF σ s) (hq : q = 6 ∨ q = 30) (hi : i = 1 ∨ i = 3) : rxF σ (u3 s q i j v) := by
  refine ⟨fun k a b c d => by rw [u3_kk _ _ (by omega)]; exact h.1 k a b c d, fun k m a b c => ?_, fun k hk => by rw [u3_k _ _ (by omega)]; exact h.2.2 k hk⟩
  rw [← h.2.1 k m a b c]
  funext x
  rw [u3_i _ _ (by omega)]
def rC (s : tI) (st : rS) : Prop := s 4 0 7 = rRd st ∧ s 4 0 8 = rKp st ∧ (∀ a, a < 16 → bb (rRd st) a = true → s 26 0 a = nI (rVp st a)) ∧ s 6 3 1 = nI (rUn st).1 ∧ ∀ j, j < (rUn st).1 → s 30 3 j = (rUn st).2 j
theorem K0.rx {s : tI} (h : K0 σ r N G) (hr : 4 ≤ r) (hs : rxF σ s) : K0 s r N G := by
  obtain ⟨h1, h2, h3, h4⟩ := h
  exact ⟨by rw [hs.2.1 6 r (Or.inl rfl) (by omega) (by omega)]; exact h1, h2, h3, by rw [hs.2.1 30 r (Or.inr rfl) (by omega) (by omega)]; exact h4⟩
theorem x_tk2 {Q : tQ} {e a : Nat} {st : rS} (h : K0 σ r N G) (hr : 4 ≤ r) (he : e ≤ N) {O : wO} (hQ : ∀ s, rxF σ s → rC s (rRd st, rKp st, rVp st, O) → Q none s τ (rX t) cX lX) : ∀ (d p : Nat) (o : wO) (s : tI), p + d = e → o.1 ≤ p → kpN G d p o = O → rxF σ s → rC s (rRd st, rKp st, rVp st, o) → am_G l 40 Q 0 0 45 [(6, aI (nI p)), (3, aI (nI e)), (0, aR 4 0), (1, aR 6 r)] [] s τ (rX t) cX lX
  | 0, p, o, s, hp, ho, hO, hf, hC => by
    have hN := h.2.1
    obtain rfl : p = e := by omega
    subst hO
    refine am_vc_ok am_k40 [45] 100 ?_
    refine And.intro (fun _ => ?_) (fun z => absurd (nI_le (Nat.le_refl _) (by omega)) z)
    exact am_vV am_k40 am_r40 rfl (hQ s hf hC)
  | d + 1, p, o, s, hp, ho, hO, hf, hC => by
    have hN := h.2.1
    have hK := h.rx hr hf
    have c4 : s 6 3 1 = nI o.1 := hC.2.2.2.1
    have c5 : ∀ j, j < o.1 → s 30 3 j = o.2 j := hC.2.2.2.2
    have K2 := x_tk2 (st := st) (a := a) h hr he hQ d (p + 1) (wps o (G p)) (u3 (u3 s 30 3 o.1 (G p)) 6 3 1 (nI (o.1 + 1))) (by omega) (by show o.1 + 1 ≤ p + 1; omega) hO ((hf.u6 (Or.inr rfl) (Or.inr rfl)).u6 (Or.inl rfl) (Or.inr rfl)) ⟨by rw [u3_k _ _ (by decide), u3_k _ _ (by decide)]; exact hC.1, by rw [u3_k _ _ (by decide), u3_k _ _ (by decide)]; exact hC.2.1, fun a ha hb => by rw [u3_k _ _ (by decide), u3_k _ _ (by decide)]; exact hC.2.2.1 a ha hb, u3_eq _ _ _ _ _, fun j hj => by
      have hj : j < o.1 + 1 := hj
      rw [u3_k _ _ (by decide)]
      show _ = pshF o.2 o.1 (G p) j
      unfold pshF
      by_cases e : j = o.1
      · rw [if_pos e, e, u3_eq]
      · rw [if_neg e, u3_j _ _ e]
        exact c5 j (by omega)⟩
    refine am_vc_ok am_k40 [45] 100 ?_
    refine And.intro (fun z => absurd z (nI_ge (by omega) (by omega))) (fun _ => ?_)
    refine And.intro (by rw [lX_row hK.2.2.1]; exact vp_in_nI (by omega) (by decide)) ?_
    rw [nI_clamp (n := p) (by omega), hK.2.2.2]
    refine am_vO am_k40 am_h40 rfl rfl rfl rfl (x_add (r := 3) c4 (show o.1 < 60 by omega) (by decide)) ?_
    refine am_vc_ok am_k40 [45] 100 ?_
    rw [← nI_1 p] at K2
    exact K2
theorem x_take {e a : Nat} {k : Option Nat} {st : rS} (h : K0 σ r N G) (hr : 4 ≤ r) (hpe : p ≤ e) (he : e ≤ N) (ha : a < 16) (hu : (rUn st).1 ≤ p) (hC : rC σ st) {kv : Int32} (hkv : kv = if k = none then 0 else 1) : am_T l 40 [aR 4 0, aR 6 r, aI (nI p), aI (nI e), aI (nI a), aI kv] σ τ t (fun v s τ2 t2 => v = none ∧ τ2 = τ ∧ t2 = t ∧ rxF σ s ∧ rC s (tkR G st k a p e)) := by
  have hN := h.2.1
  cases k with
  | some q =>
    rw [if_neg (by simp)] at hkv
    subst hkv
    refine am_T_of am_o40 am_l40 rfl ?_
    refine am_vc_ok am_k40 [] 100 ?_
    refine And.intro (fun z => absurd z (by decide)) (fun _ => ?_)
    refine And.intro (vp_in_nI (N := 16) ha (by decide)) ?_
    rw [nI_clamp (n := a) (by omega)]
    refine am_vV am_k40 am_r40 rfl ⟨_, rfl, rfl, rfl, rfl, rfl, rfl, (rxF.refl.u4 (by decide)).u26, ?_⟩
    refine ⟨by rw [u3_k _ _ (by decide), u3_eq, hC.1]; rfl, by rw [u3_k _ _ (by decide), u3_j _ _ (by decide)]; exact hC.2.1, fun b hb h1 => ?_, by rw [u3_k _ _ (by decide), u3_k _ _ (by decide)]; exact hC.2.2.2.1, fun j hj => by rw [u3_k _ _ (by decide), u3_k _ _ (by decide)]; exact hC.2.2.2.2 j hj⟩
    show _ = nI (pshF (rVp st) a (p + 1) b)
    unfold pshF
    by_cases e : b = a
    · rw [if_pos e, e, u3_eq, nI_1]
    · rw [if_neg e, u3_j _ _ e, u3_k _ _ (by decide)]
      refine hC.2.2.1 b hb ?_
      have h1 : bb (rRd st ||| bt a) b = true := h1
      rw [bb_or hb ha, decide_eq_false e, Bool.or_false] at h1
      exact h1
  | none =>
    rw [if_pos rfl] at hkv
    subst hkv
    refine am_T_of am_o40 am_l40 rfl ?_
    refine am_vc_ok am_k40 [45] 100 ?_
    refine And.intro (fun _ => ?_) (fun z => absurd rfl z)
    refine am_Gp (ls2 := [(6, aI (nI p)), (3, aI (nI e)), (0, aR 4 0), (1, aR 6 r)]) [0, 4, 1, 2] rfl ?_
    refine x_tk2 (σ := σ) (a := a) (st := (rRd st, rKp st ||| bt a, rVp st, rUn st)) h hr he (O := kpN G (e - p) p (rUn st)) ?_ (e - p) p (rUn st) _ (by omega) hu rfl (rxF.refl.u4 (by decide)) ⟨by rw [u3_j _ _ (by decide)]; exact hC.1, by rw [u3_eq, hC.2.1], fun b hb h1 => by rw [u3_k _ _ (by decide)]; exact hC.2.2.1 b hb h1, by rw [u3_k _ _ (by decide)]; exact hC.2.2.2.1, fun j hj => by rw [u3_k _ _ (by decide)]; exact hC.2.2.2.2 j hj⟩
    intro s hf hC2
    exact ⟨_, rfl, rfl, rfl, rfl, rfl, rfl, hf, hC2⟩
end L66

/-! the class's wrongPlace -/
section L67
variable {l : Launch} {σ σ2 : tI} {τ τ2 : tL} {t : Option (Nat × Nat)} {r N p : Nat} {G : Nat → Int32}
theorem XIndex.o {i v a : Nat} {S : aSh} (h : XIndex σ i S) (hv : v < 10) (ha : a < 16) : σ 38 i (16 * v + a) = pI (itO S v a) := by
  obtain ⟨g1, g2⟩ := h v a hv ha
  cases e : itO S v a with
  | none =>
    refine g2 (fun k hk z => ?_)
    have := lastM_none e k hk
    exact this (decide_eq_true z)
  | some k =>
    obtain ⟨q1, q2, q3, q4⟩ := itO_s e
    exact g1 k q1 q2 q3 q4
theorem x_like {i v a so : Nat} {S : aSh} (hS : ShOK S) (hX : XItems σ i S) (hI : XIndex σ i S) (hv : v < 10) (ha : a < 16) (hso : so < 4) : am_D l 84 [aR 9 i, aI (nI v), aI (nI a), aI (nI so)] σ τ (rX t) cX lX (some (aI (pI (lkO S v a so)))) σ τ (rX t) := by
  have s12 := hS.1
  have h := x_itemLike (l := l) (σ := σ) (τ := τ) (t := t) (i := i) (n := 0) (so := nI so) hv ha (hI.o hv ha) (fun k hk => by have := (itO_s hk).1; omega)
  have e : likeO (σ 33 i) (nI so) (itO S v a) = lkO S v a so := by
    unfold likeO lkO
    cases e : itO S v a with
    | none => rfl
    | some k =>
      have hk := (itO_s e).1
      have b2 := (hS.2.1 k hk).2.1
      show (if σ 33 i k = nI so then some k else none) = (if sSo S k = so then some k else none)
      rw [(hX k hk).2.1]
      by_cases e2 : sSo S k = so
      · rw [if_pos e2, if_pos (by rw [e2])]
      · rw [if_neg e2, if_neg (fun z => e2 (nI_inj' (by omega) (by omega) z))]
  rw [e] at h
  exact h
theorem x_lk_lp {Q : tQ} {i v : Nat} {rd : Int32} {S : aSh} (hS : ShOK S) (h9 : σ 9 i 1 = nI (sN S)) (hX : XItems σ i S) (hv : v < 10) (h7 : σ 4 0 7 = rd) (K : ∀ w : Int32, w = cI (lkN S v rd (sN S)) → Q (some (aI w)) σ τ (rX t) cX lX) : ∀ (d k : Nat), k + d = sN S → ¬ lkN S v rd k → am_G l 41 Q 0 0 2 [(3, aI (nI k)), (0, aR 4 0), (1, aR 9 i), (2, aI (nI v))] [] σ τ (rX t) cX lX
  | 0, k, hk, hn => by
    have s12 := hS.1
    obtain rfl : k = sN S := by omega
    refine am_vc_ok am_k41 [2] 100 ?_
    refine And.intro (fun _ => ?_) (fun z => absurd (by rw [h9]; exact nI_le (Nat.le_refl _) (by omega)) z)
    exact am_vZ am_k41 am_r41 rfl (Or.inl rfl) (K 0 (cI_f hn).symm)
  | d + 1, k, hk, hn => by
    have s12 := hS.1
    have hk2 : k < sN S := by omega
    obtain ⟨x1, x2, x3, x4, x5, x6⟩ := hX k hk2
    obtain ⟨b1, b2, b3, b4, b5, b6, b7⟩ := hS.2.1 k hk2
    have hiff : (σ 35 i k ≤ nI v ∧ nI v ≤ σ 36 i k) ↔ (sSi S k ≤ v ∧ v ≤ sTi S k) := by
      rw [x4, x5, nI_leI (by omega) (by omega), nI_leI (by omega) (by omega)]
    have hpr : σ 37 i k = -9 ↔ sPr S k = none := by
      rw [x6]
      cases e : sPr S k with
      | none => exact ⟨fun _ => rfl, fun _ => rfl⟩
      | some d => exact ⟨fun z => absurd z (n9_4 (by have := (b7 d e).1; omega)), fun z => by cases z⟩
    have go : ¬ ((sSi S k ≤ v ∧ v ≤ sTi S k) ∧ sPr S k = none ∧ bb rd (sNm S k) = false) → am_G l 41 Q 0 0 2 [(3, aI (nI k + 1)), (0, aR 4 0), (1, aR 9 i), (2, aI (nI v))] [] σ τ (rX t) cX lX := by
      intro hz
      rw [show nI k + 1 = nI (k + 1) from nI_1 k]
      exact x_lk_lp hS h9 hX hv h7 K d (k + 1) (by omega) (fun z => (lkN_s.mp z).elim hn hz)
    refine am_vc_ok am_k41 [2] 100 ?_
    refine And.intro (fun z => absurd z (by rw [h9]; exact nI_ge hk2 (by omega))) (fun _ => ?_)
    refine am_vO am_k41 am_h41 rfl rfl rfl rfl (x_has (by omega)) ?_
    refine am_vc_ok am_k41 [2] 100 ?_
    refine And.intro (fun z => ?_) (fun z => ?_)
    · exact go (fun y => bI_0.mp z (hiff.mpr y.1))
    have z1 := hiff.mp (bI_1.mp z)
    refine am_vO am_k41 am_h41 rfl rfl rfl rfl (x_isNeeded (by omega)) ?_
    refine am_vc_ok am_k41 [2] 100 ?_
    refine And.intro (fun z => ?_) (fun z => ?_)
    · exact go (fun y => bI_0.mp z (hpr.mpr y.2.1))
    have z2 := hpr.mp (bI_1.mp z)
    refine And.intro (vp_in_nI (N := 12) (by omega) (by decide)) ?_
    rw [nI_clamp (n := k) (by omega), x1, h7]
    refine And.intro (fun z => ?_) (fun z => ?_)
    · have z := (bb_x b1).mp z
      exact am_vZ am_k41 am_r41 rfl (Or.inr rfl) (K 1 (cI_t ⟨k, hk2, z1, z2, z⟩).symm)
    · exact go (fun y => z ((bb_x b1).mpr y.2.2))
theorem x_lacks {i v : Nat} {rd : Int32} {S : aSh} (hS : ShOK S) (h9 : σ 9 i 1 = nI (sN S)) (hX : XItems σ i S) (hv : v < 10) (h7 : σ 4 0 7 = rd) : am_D l 41 [aR 4 0, aR 9 i, aI (nI v)] σ τ (rX t) cX lX (some (aI (cI (lkN S v rd (sN S))))) σ τ (rX t) := by
  refine am_D_of am_o41 am_l41 rfl ?_
  refine am_vc_ok am_k41 [2] 100 ?_
  refine x_lk_lp hS h9 hX hv h7 (fun w hw => ⟨by rw [hw], rfl, rfl, rfl, rfl, rfl⟩) (sN S) 0 (by omega) ?_
  rintro ⟨q, hq, -⟩
  omega
def rwQ (σ : tI) (R : Nat ⊕ rS) (v : Option am_V) (s : tI) : Prop := rxF σ s ∧ match R with
  | .inl q => v = some (aI (nI q))
  | .inr st => v = some (aI (-9)) ∧ rC s st
theorem x_wp_lp {Q : tQ} {i v : Nat} {S : aSh} {R : Nat ⊕ rS} (hv : v < 10) (hS : ShOK S) (h9 : σ 9 i 1 = nI (sN S)) (hX : XItems σ i S) (hI : XIndex σ i S) (hr : 4 ≤ r) (h : K0 σ r N G) (hB : ∀ j, j < N → isB (G j)) (hQ : ∀ w s, rwQ σ R w s → Q w s τ (rX t) cX lX) : ∀ (d k p : Nat) (st : rS) (s : tI), N < p + d → 1 ≤ d → k ≤ p → p ≤ N → rdA S v G N st p = R → rIn S v G N st p → rxF σ s → rC s st → am_G l 36 Q 0 0 24 [(5, aI (nI k)), (4, aI (nI p)), (0, aR 4 0), (1, aR 9 i), (2, aI (nI v)), (3, aR 6 r)] [] s τ (rX t) cX lX
  | 0, k, p, st, s, hd, h1, hk, hp, hR, hin, hf, hC => absurd h1 (by omega)
  | d + 1, k, p, st, s, hd, h1, hk, hp, hR, hin, hf, hC => by
    have hN := h.2.1
    have hK := h.rx hr hf
    have e9 : s 9 i 1 = nI (sN S) := by rw [hf.1 9 (by decide) (by decide) (by decide) (by decide)]; exact h9
    have hXs : XItems s i S := hX.fr (Nat.le_refl _) (fun q k a b _ => by rw [hf.1 q (by omega) (by omega) (by omega) (by omega)])
    have hIs : XIndex s i S := by
      unfold XIndex
      rw [hf.1 38 (by decide) (by decide) (by decide) (by decide)]
      exact hI
    have fin := fun (hd2 : 1 ≤ d) k p st s a b c => x_wp_lp hv hS h9 hX hI hr h hB hQ d k p st s a hd2 b c
    by_cases hpN : N ≤ p
    · have hend := rdA_end (S := S) (v := v) (G := G) (st := st) hpN
      have done : am_G l 36 Q 0 0 183 [(5, aI (nI k)), (4, aI (nI p)), (0, aR 4 0), (1, aR 9 i), (2, aI (nI v)), (3, aR 6 r)] [] s τ (rX t) cX lX := by
        refine am_vc_ok am_k36 [] 100 ?_
        refine am_vO am_k36 am_h36 rfl rfl rfl rfl (x_lacks hS e9 hXs hv hC.1) ?_
        refine am_vc_ok am_k36 [] 100 ?_
        refine And.intro (fun z => ?_) (fun z => ?_)
        · have z := cI_0.mp z
          rw [hend.2 z] at hR
          refine am_vI am_k36 am_r36 rfl (hQ _ _ ⟨hf, ?_⟩)
          rw [← hR]
          exact ⟨rfl, hC⟩
        · have z := cI_n0.mp z
          rw [hend.1 z] at hR
          refine am_vI am_k36 am_r36 rfl (hQ _ _ ⟨hf, ?_⟩)
          rw [← hR]
          exact congrArg (fun x => some (aI x)) hK.1
      refine am_vc_ok am_k36 [24, 183] 100 ?_
      refine And.intro (fun _ => done) (fun _ => ?_)
      refine And.intro (fun _ => done) (fun z => absurd (by rw [hK.1]; exact nI_le hpN (by omega)) z)
    have hpN : p < N := by omega
    obtain ⟨u1, u2, u3', u4⟩ := ub_ok (hB p hpN)
    have eut : ut G N p = ub (G p) := if_pos hpN
    refine am_vc_ok am_k36 [24] 100 ?_
    refine And.intro (fun z => absurd z (nI_ge (b := 60) (by omega) (by decide))) (fun _ => ?_)
    refine And.intro (fun z => absurd z (by rw [hK.1]; exact nI_ge hpN (by omega))) (fun _ => ?_)
    refine And.intro (by rw [lX_row hK.2.2.1]; exact vp_in_nI (by omega) (by decide)) ?_
    rw [nI_clamp (n := p) (by omega), hK.2.2.2]
    have ret : ∀ q, fdR S v G N st p = .inl q → ∀ s2, rxF σ s2 → Q (some (aI (nI q))) s2 τ (rX t) cX lX := by
      intro q e s2 hs2
      rw [rdA_no hpN e] at hR
      refine hQ _ _ ⟨hs2, ?_⟩
      rw [← hR]
    have bad1 : ¬ ut G N p < 64 → Q (some (aI (nI p))) s τ (rX t) cX lX := fun z => ret p (by unfold fdR; rw [if_pos (Or.inl z)]) s hf
    refine And.intro (fun z => ?_) (fun z => ?_)
    · exact am_vI am_k36 am_r36 rfl (bad1 (fun y => by rw [eut] at y; exact (u3'.mpr y).1 z))
    refine And.intro (fun z2 => ?_) (fun z2 => ?_)
    rotate_left
    · exact am_vI am_k36 am_r36 rfl (bad1 (fun y => by rw [eut] at y; exact z2 (u3'.mpr y).2))
    have h64 : ub (G p) < 64 := u3'.mp ⟨z, z2⟩
    rw [u4 h64]
    rw [eut.symm] at h64 ⊢
    generalize hh : ut G N p = hd0 at *
    have ha : hd0 % 16 < 16 := Nat.mod_lt _ (by decide)
    have hso : hd0 / 16 < 4 := by omega
    obtain ⟨q1, q2⟩ := d16 hd0 (by omega)
    refine And.intro (by decide) ?_
    rw [q1]
    refine And.intro (by decide) ?_
    rw [q2]
    have hbx : ((s 4 0 7 ||| s 4 0 8) &&& bt (hd0 % 16) = 0) ↔ bb (rRd st ||| rKp st) (hd0 % 16) = false := by
      rw [hC.1, hC.2.1]
      exact bb_x ha
    refine And.intro (fun y => ?_) (fun y => ?_)
    rotate_left
    · have y : bb (rRd st ||| rKp st) (hd0 % 16) = true := by
        cases hb : bb (rRd st ||| rKp st) (hd0 % 16) with
        | true => rfl
        | false => exact absurd (hbx.mpr hb) y
      exact am_vI am_k36 am_r36 rfl (ret p (by unfold fdR; rw [hh, if_pos (Or.inr y)]) s hf)
    have y := hbx.mp y
    have hok1 : ¬ (¬ hd0 < 64 ∨ bb (rRd st ||| rKp st) (hd0 % 16) = true) := by
      rintro (q | q)
      · exact q h64
      · rw [y] at q; cases q
    refine am_vO am_k36 am_h36 rfl rfl rfl rfl (x_like hS hXs hIs hv ha hso) ?_
    refine am_vc_ok am_k36 [24] 100 ?_
    generalize hk0 : lkO S v (hd0 % 16) (hd0 / 16) = ko at *
    have hko : ∀ q, ko = some q → q < sN S ∧ sSo S q = hd0 / 16 := fun q hq => by
      rw [hq] at hk0
      obtain ⟨w1, w2⟩ := lkO_s hk0
      exact ⟨(itO_s w1).1, w2⟩
    refine am_vS am_k36 am_h36 rfl rfl rfl rfl (x_choices hS hXs (fun q hq => (hko q hq).1) hso) ?_
    refine am_vc_ok am_k36 [24] 100 ?_
    refine am_vS am_k36 am_h36 rfl rfl rfl rfl (x_wrongIn hK hB (by omega) hso) ?_
    refine am_vc_ok am_k36 [24] 100 ?_
    have hu := ut_lt (G := G) (N := N) (q := p + 1) hB
    have hbd := chI_bd (u := ut G N (p + 1)) hS hko hu
    by_cases c1 : bdC S (hd0 / 16) ko (ut G N (p + 1))
    · rw [if_pos (hbd.mpr c1)]
      refine And.intro (fun w => absurd w (n9_4 (by omega))) (fun _ => ?_)
      refine am_vI am_k36 am_r36 rfl (ret (p + 1) ?_ s hf)
      unfold fdR
      rw [hh, if_neg hok1, hk0, if_pos c1]
    rw [if_neg (fun w => c1 (hbd.mp w))]
    by_cases c2 : N < p + wdN (hd0 / 16) (ut G N (p + 1))
    · rw [if_pos c2]
      refine And.intro (fun w => absurd w (n9_4 (by omega))) (fun _ => ?_)
      refine am_vI am_k36 am_r36 rfl (ret N ?_ s hf)
      unfold fdR
      rw [hh, if_neg hok1, hk0, if_neg c1, if_pos c2]
    rw [if_neg c2]
    refine And.intro (fun _ => ?_) (fun w => absurd rfl w)
    have efd : fdR S v G N st p = .inr (tkR G st ko (hd0 % 16) p (p + wdN (hd0 / 16) (ut G N (p + 1))), p + wdN (hd0 / 16) (ut G N (p + 1))) := by
      unfold fdR
      rw [hh, if_neg hok1, hk0, if_neg c1, if_neg c2]
    rw [rdA_st hpN efd] at hR
    have hin2 := hin.st hB hpN efd
    have w2 := wdN_2 (so := hd0 / 16) (u := ut G N (p + 1))
    generalize he : p + wdN (hd0 / 16) (ut G N (p + 1)) = e at *
    refine am_vS am_k36 am_h36 rfl rfl rfl rfl (x_width hK hB (by omega) hso) ?_
    have eadd : nI p + nI (wdN (hd0 / 16) (ut G N (p + 1))) = nI e := by rw [nI_add, he]
    have fin2 : ∀ (kv : Int32), kv = (if ko = none then 0 else 1) → am_G l 36 Q 0 0 170 [(11, aI (nI p + nI (wdN (hd0 / 16) (ut G N (p + 1))))), (10, aI (-9)), (9, aI (pI ko)), (8, aI (nI (hd0 % 16))), (7, aI (nI (hd0 / 16))), (6, aI (nI hd0)), (5, aI (nI k)), (4, aI (nI p)), (0, aR 4 0), (1, aR 9 i), (2, aI (nI v)), (3, aR 6 r)] [aI kv, aI (nI (hd0 % 16)), aI (nI p + nI (wdN (hd0 / 16) (ut G N (p + 1)))), aI (nI p), aR 6 r, aR 4 0] s τ (rX t) cX lX := by
      intro kv hkv
      rw [eadd]
      refine am_vc_ok am_k36 [24] 100 ?_
      refine am_vOT am_k36 am_h36 rfl rfl rfl rfl (x_take (k := ko) (kv := kv) hK hr (by omega) (by omega) ha hin.2.1 hC hkv) ?_
      rintro w s2 τ2 t2 ⟨rfl, rfl, rfl, hf2, hC2⟩
      have K2 := fin (by omega) (k + 1) e (tkR G st ko (hd0 % 16) p e) s2 (by omega) (by omega) (by omega) hR hin2 (hf.tr hf2) hC2
      refine am_vc_ok am_k36 [24] 100 ?_
      rw [← nI_1 k] at K2
      exact am_Gp [0, 1, 8, 9, 10, 11] rfl K2
    refine am_vc_ok am_k36 [170] 100 ?_
    cases ko with
    | none =>
      refine And.intro (fun _ => ?_) (fun w => absurd rfl w)
      exact fin2 0 rfl
    | some q =>
      have := (hko q rfl).1
      have := hS.1
      refine And.intro (fun w => absurd w (n9_4 (by omega))) (fun _ => ?_)
      exact fin2 1 rfl
theorem x_wrongPlace {i v : Nat} {S : aSh} (hv : v < 10) (hS : ShOK S) (h9 : σ 9 i 1 = nI (sN S)) (hX : XItems σ i S) (hI : XIndex σ i S) (hr : 4 ≤ r) (h : K0 σ r N G) (hB : ∀ j, j < N → isB (G j)) : am_T l 36 [aR 4 0, aR 9 i, aI (nI v), aR 6 r] σ τ t (fun w s τ2 t2 => τ2 = τ ∧ t2 = t ∧ rwQ σ (rdA S v G N st0 0) w s) := by
  refine am_T_of am_o36 am_l36 rfl ?_
  refine am_vc_ok am_k36 [24] 100 ?_
  refine am_Gp (ls2 := [(5, aI (nI 0)), (4, aI (nI 0)), (0, aR 4 0), (1, aR 9 i), (2, aI (nI v)), (3, aR 6 r)]) [0, 1, 2, 3, 4, 5] rfl ?_
  refine x_wp_lp (σ := σ) hv hS h9 hX hI hr h hB ?_ (N + 1) 0 0 st0 _ (by omega) (by omega) (by omega) (by omega) rfl st0_in (((rxF.refl.u6 (Or.inl rfl) (Or.inr rfl)).u4 (by decide)).u4 (by decide)) ⟨by rw [u3_j _ _ (by decide), u3_eq]; rfl, by rw [u3_eq]; rfl, (fun a _ hb => by
    rw [show rRd st0 = 0 from rfl, bb_0] at hb
    cases hb), by rw [u3_k _ _ (by decide), u3_k _ _ (by decide), u3_eq]; rfl, fun j hj => absurd hj (Nat.not_lt_zero j)⟩
  intro w s hs
  exact ⟨_, rfl, rfl, rfl, rfl, rfl, hs⟩
end L67

/-! the class's decode, keep, read -/
section L68
variable {l : Launch} {σ σ2 : tI} {τ τ2 : tL} {t : Option (Nat × Nat)} {r N p : Nat} {G : Nat → Int32}
def dxF (σ s : tI) : Prop := (∀ q, q ≠ 4 → q ≠ 6 → q ≠ 30 → s q = σ q) ∧ (∀ q i, (q = 6 ∨ q = 30) → i ≠ 1 → s q i = σ q i) ∧ ∀ j, j ≠ 9 → s 4 0 j = σ 4 0 j
theorem dxF.refl : dxF σ σ := ⟨fun _ _ _ _ => rfl, fun _ _ _ _ => rfl, fun _ _ => rfl⟩
theorem dxF.tr {s s2 : tI} (h : dxF σ s) (h2 : dxF s s2) : dxF σ s2 := ⟨fun q a b c => (h2.1 q a b c).trans (h.1 q a b c), fun q i a b => (h2.2.1 q i a b).trans (h.2.1 q i a b), fun j a => (h2.2.2 j a).trans (h.2.2 j a)⟩
theorem dxF.u9 {s : tI} {v : Int32} (h : dxF σ s) : dxF σ (u3 s 4 0 9 v) := ⟨fun q a b c => by rw [u3_kk _ _ a]; exact h.1 q a b c, fun q i a b => by rw [u3_kk _ _ (by omega)]; exact h.2.1 q i a b, fun k hk => by rw [u3_j _ _ hk]; exact h.2.2 k hk⟩
theorem dxF.u6 {s : tI} {q j : Nat} {v : Int32} (h : dxF σ s) (hq : q = 6 ∨ q = 30) : dxF σ (u3 s q 1 j v) := by
  refine ⟨fun k a b c => by rw [u3_kk _ _ (by omega)]; exact h.1 k a b c, fun k m a b => ?_, fun k hk => by rw [u3_k _ _ (by omega)]; exact h.2.2 k hk⟩
  rw [← h.2.1 k m a b]
  funext x
  rw [u3_i _ _ b]
theorem dxF.rx {s : tI} (h : dxF σ s) : rxF σ s := ⟨fun q a b c d => h.1 q a b d, fun q i a b c => h.2.1 q i a b, fun j hj => h.2.2 j (by omega)⟩
theorem rC.dx {s : tI} {st : rS} (h : rC σ st) (hs : dxF σ s) : rC s st := by
  obtain ⟨h1, h2, h3, h4, h5⟩ := h
  refine ⟨by rw [hs.2.2 7 (by decide)]; exact h1, by rw [hs.2.2 8 (by decide)]; exact h2, fun a ha hb => by rw [hs.1 26 (by decide) (by decide) (by decide)]; exact h3 a ha hb, by rw [hs.2.1 6 3 (Or.inl rfl) (by decide)]; exact h4, fun j hj => by rw [hs.2.1 30 3 (Or.inr rfl) (by decide)]; exact h5 j hj⟩
def nC (s : tI) (o : wO) : Prop := s 6 1 1 = nI o.1 ∧ ∀ j, j < o.1 → s 30 1 j = o.2 j
abbrev nAd (s : tI) (o : wO) (v : Int32) : tI := u3 (u3 s 30 1 o.1 v) 6 1 1 (nI (o.1 + 1))
theorem nC.ps {s : tI} {o : wO} {v : Int32} (h : nC s o) : nC (nAd s o v) (wps o v) := by
  refine ⟨u3_eq _ _ _ _ _, fun j hj => ?_⟩
  have hj : j < o.1 + 1 := hj
  show u3 (u3 s 30 1 o.1 v) 6 1 1 (nI (o.1 + 1)) 30 1 j = pshF o.2 o.1 v j
  rw [u3_k _ _ (by decide)]
  unfold pshF
  by_cases e : j = o.1
  · rw [if_pos e, e, u3_eq]
  · rw [if_neg e, u3_j _ _ e]
    exact h.2 j (by omega)
theorem dxF.ad {s : tI} {o : wO} {v : Int32} (h : dxF σ s) : dxF σ (nAd s o v) := (h.u6 (Or.inr rfl)).u6 (Or.inl rfl)
theorem x_nadd {s : tI} {o : wO} {v : Int32} (h : nC s o) (ho : o.1 < 120) : am_D l 59 [aR 6 1, aI v] s τ (rX t) cX lX none (nAd s o v) τ (rX t) := x_add (r := 1) h.1 (show o.1 < 120 from ho) (by decide)
theorem K0.dx {s : tI} (h : K0 σ r N G) (hr : 4 ≤ r) (hs : dxF σ s) : K0 s r N G := h.rx hr hs.rx
theorem x_df_lp {Q : tQ} {m so : Nat} {w : Int32} (hm : m ≤ 9) (hp : p < 900) (hr : 4 ≤ r) (h : K0 σ r N G) (hB : ∀ j, j < N → isB (G j)) {O : wO} (hQ : ∀ s, dxF σ s → s 4 0 9 = σ 4 0 9 → nC s O → Q none s τ (rX t) cX lX) : ∀ (d k : Nat) (o : wO) (s : tI), k + d = m + 1 → o.1 + d ≤ 120 → vlM G N p d k o = O → dxF σ s → s 4 0 9 = σ 4 0 9 → nC s o → am_G l 43 Q 0 0 54 [(6, aI (nI k)), (5, aI (nI m)), (4, aI w), (0, aR 4 0), (1, aI (nI so)), (2, aI (nI p)), (3, aR 6 r)] [] s τ (rX t) cX lX
  | 0, k, o, s, hk, ho, hO, hf, h9, hC => by
    obtain rfl : k = m + 1 := by omega
    subst hO
    refine am_vc_ok am_k43 [54] 100 ?_
    refine And.intro (fun _ => ?_) (fun z => absurd (nI_lt (by omega) (by omega)) z)
    exact am_vV am_k43 am_r43 rfl (hQ s hf h9 hC)
  | d + 1, k, o, s, hk, ho, hO, hf, h9, hC => by
    have K2 := x_df_lp (so := so) (w := w) hm hp hr h hB hQ d (k + 1) (wps o (nI (ut G N (p + k)))) (nAd s o (nI (ut G N (p + k)))) (by omega) (by show o.1 + 1 + d ≤ 120; omega) hO hf.ad (by rw [nAd, u3_k _ _ (by decide), u3_k _ _ (by decide)]; exact h9) hC.ps
    have hu := x_un (l := l) (τ := τ) (t := t) (q := p + k) (h.dx hr hf) hB (by omega)
    rw [← nI_add] at hu
    refine am_vc_ok am_k43 [54] 100 ?_
    refine And.intro (fun z => absurd z (Int32.not_lt.mpr (nI_le (by omega) (by omega)))) (fun _ => ?_)
    refine am_vO am_k43 am_h43 rfl rfl rfl rfl (hu) ?_
    refine am_vc_ok am_k43 [54] 100 ?_
    refine am_vO am_k43 am_h43 rfl rfl rfl rfl (x_nadd hC (by omega)) ?_
    refine am_vc_ok am_k43 [54] 100 ?_
    rw [← nI_1 k] at K2
    exact K2
theorem x_dField {so : Nat} {o : wO} (hso : so < 4) (hp : p < 900) (hr : 4 ≤ r) (h : K0 σ r N G) (hB : ∀ j, j < N → isB (G j)) (h2 : so = 2 → ut G N p ≤ 9) (ho : o.1 + 10 ≤ 120) (hC : nC σ o) : am_T l 43 [aR 4 0, aI (nI so), aI (nI p), aR 6 r] σ τ t (fun v s τ2 t2 => v = none ∧ τ2 = τ ∧ t2 = t ∧ dxF σ s ∧ s 4 0 9 = σ 4 0 9 ∧ nC s (vlF G N so p o)) := by
  have hu0 := x_un (l := l) (τ := τ) (t := t) (q := p) h hB (by omega)
  have hu1 := x_un (l := l) (τ := τ) (t := t) (q := p + 1) h hB (by omega)
  rw [← nI_1 p] at hu1
  have go : ∀ val : Int32, val = nI (if so = 1 then 256 * ut G N p + ut G N (p + 1) else ut G N p) → am_G l 43 (xQ (fun v s τ2 t2 => v = none ∧ τ2 = τ ∧ t2 = t ∧ dxF σ s ∧ s 4 0 9 = σ 4 0 9 ∧ nC s (vlF G N so p o))) 0 0 35 [(4, aI (nI (ut G N p))), (0, aR 4 0), (1, aI (nI so)), (2, aI (nI p)), (3, aR 6 r)] [aI val, aR 6 1] σ τ (rX t) cX lX := by
    rintro _ rfl
    generalize hval : nI (if so = 1 then 256 * ut G N p + ut G N (p + 1) else ut G N p) = val
    have hQ : ∀ s, dxF σ s → s 4 0 9 = σ 4 0 9 → nC s (vlF G N so p o) → xQ (fun v s τ2 t2 => v = none ∧ τ2 = τ ∧ t2 = t ∧ dxF σ s ∧ s 4 0 9 = σ 4 0 9 ∧ nC s (vlF G N so p o)) none s τ (rX t) cX lX := fun s a b c => ⟨_, rfl, rfl, rfl, rfl, rfl, rfl, a, b, c⟩
    have c9 : nAd σ o val 4 0 9 = σ 4 0 9 := by rw [nAd, u3_k _ _ (by decide), u3_k _ _ (by decide)]
    refine am_vc_ok am_k43 [54] 100 ?_
    refine am_vO am_k43 am_h43 rfl rfl rfl rfl (x_nadd hC (by omega)) ?_
    refine am_vc_ok am_k43 [54] 100 ?_
    refine And.intro (fun z => ?_) (fun z => ?_)
    · have z : so = 2 := nI_inj' (by omega) (by decide) (show nI so = nI 2 from z)
      have h9 := h2 z
      refine am_Gp (ls2 := [(6, aI (nI 1)), (5, aI (nI (ut G N p))), (4, aI (nI (ut G N p))), (0, aR 4 0), (1, aI (nI so)), (2, aI (nI p)), (3, aR 6 r)]) [0, 1, 2, 3, 4, 5, 6] rfl ?_
      refine x_df_lp (σ := σ) h9 hp hr h hB hQ (ut G N p) 1 (wps o val) (nAd σ o val) (by omega) (by show o.1 + 1 + ut G N p ≤ 120; omega) ?_ dxF.refl.ad c9 hC.ps
      unfold vlF
      rw [if_pos z, hval]
    · have z : ¬ so = 2 := fun y => z (by rw [y]; rfl)
      refine am_Gp (ls2 := [(6, aI (nI 1)), (5, aI (nI 0)), (4, aI (nI (ut G N p))), (0, aR 4 0), (1, aI (nI so)), (2, aI (nI p)), (3, aR 6 r)]) [0, 1, 2, 3, 4, 5, 6] rfl ?_
      refine x_df_lp (σ := σ) (by decide) hp hr h hB hQ 0 1 (wps o val) (nAd σ o val) (by omega) (by show o.1 + 1 + 0 ≤ 120; omega) ?_ dxF.refl.ad c9 hC.ps
      unfold vlF
      rw [if_neg z, hval]
  refine am_T_of am_o43 am_l43 rfl ?_
  refine am_vc_ok am_k43 [35] 100 ?_
  refine am_vO am_k43 am_h43 rfl rfl rfl rfl (hu0) ?_
  refine am_vc_ok am_k43 [35] 100 ?_
  refine And.intro (fun z => ?_) (fun z => ?_)
  · have z : so = 1 := nI_inj' (by omega) (by decide) (show nI so = nI 1 from z)
    refine am_vO am_k43 am_h43 rfl rfl rfl rfl (hu1) ?_
    refine am_vc_ok am_k43 [35] 100 ?_
    refine go _ ?_
    rw [if_pos z, show (256 : Int32) = nI 256 from rfl, pk_mul, nI_add, Nat.mul_comm]
  · have z : ¬ so = 1 := fun y => z (by rw [y]; rfl)
    exact go _ (by rw [if_neg z])
theorem vlF_len {so : Nat} {o : wO} (h2 : so = 2 → ut G N p ≤ 9) : (vlF G N so p o).1 ≤ o.1 + 10 := by
  unfold vlF
  rw [vlM_len]
  show o.1 + 1 + _ ≤ _
  split
  · have := h2 (by assumption)
    omega
  · omega
/-- what an item that was read has in the text -/
theorem rIn.it {S : aSh} {v k : Nat} {st : rS} (hS : ShOK S) (h : rIn S v G N st N) (hk : k < sN S) (hc : sSi S k ≤ v ∧ v ≤ sTi S k) (hb : bb (rRd st) (sNm S k) = true) : rVp st (sNm S k) < N ∧ (sSo S k = 1 → rVp st (sNm S k) + 1 < N) ∧ (sSo S k = 2 → ut G N (rVp st (sNm S k)) ≤ 9 ∧ rVp st (sNm S k) + ut G N (rVp st (sNm S k)) < N) := by
  obtain ⟨q, h1, -, h3, h4, h5⟩ := h.1 (sNm S k) (hS.2.1 k hk).1 hb
  rw [itO_u hS hk hc.1 hc.2] at h1
  cases h1
  exact ⟨h3, h4, h5⟩
theorem x_dc_lp {Q : tQ} {ii v : Nat} {S : aSh} {st : rS} {R : Int32 × wO} (hv : v < 10) (hS : ShOK S) (h9 : σ 9 ii 1 = nI (sN S)) (hX : XItems σ ii S) (hr : 4 ≤ r) (h : K0 σ r N G) (hB : ∀ j, j < N → isB (G j)) (hin : rIn S v G N st N) (hrC : rC σ st) (hQ : ∀ s, dxF σ s → s 4 0 9 = R.1 → nC s R.2 → R.2.1 ≤ 120 → Q none s τ (rX t) cX lX) : ∀ (d i : Nat) (df : Int32) (o : wO) (s : tI), i + d = sN S → o.1 ≤ 10 * i → dcP S v G N st d i df o = R → dxF σ s → s 4 0 9 = df → nC s o → am_G l 42 Q 0 0 16 [(4, aI (nI i)), (0, aR 4 0), (1, aR 9 ii), (2, aI (nI v)), (3, aR 6 r)] [] s τ (rX t) cX lX
  | 0, i, df, o, s, hi, ho, hR, hf, hd, hC => by
    have s12 := hS.1
    have e9 : s 9 ii 1 = nI (sN S) := by rw [hf.1 9 (by decide) (by decide) (by decide)]; exact h9
    obtain rfl : i = sN S := by omega
    subst hR
    refine am_vc_ok am_k42 [16] 100 ?_
    refine And.intro (fun _ => ?_) (fun z => absurd (by rw [e9]; exact nI_le (Nat.le_refl _) (by omega)) z)
    exact am_vV am_k42 am_r42 rfl (hQ s hf hd hC (by show o.1 ≤ 120; omega))
  | d + 1, i, df, o, s, hi, ho, hR, hf, hd, hC => by
    have s12 := hS.1
    have hN := h.2.1
    have e9 : s 9 ii 1 = nI (sN S) := by rw [hf.1 9 (by decide) (by decide) (by decide)]; exact h9
    have hXs : XItems s ii S := hX.fr (Nat.le_refl _) (fun q k a b _ => by rw [hf.1 q (by omega) (by omega) (by omega)])
    have hi2 : i < sN S := by omega
    obtain ⟨x1, x2, x3, x4, x5, x6⟩ := hXs i hi2
    obtain ⟨b1, b2, b3, b4, b5, b6, b7⟩ := hS.2.1 i hi2
    have hCs := hrC.dx hf
    have hiff : (s 35 ii i ≤ nI v ∧ nI v ≤ s 36 ii i) ↔ (sSi S i ≤ v ∧ v ≤ sTi S i) := by
      rw [x4, x5, nI_leI (by omega) (by omega), nI_leI (by omega) (by omega)]
    have bi : vp_in (nI i) 12 := vp_in_nI (by omega) (by decide)
    have ei : (nI i).toNatClampNeg = i := nI_clamp (by omega)
    have fin := fun df o s => x_dc_lp hv hS h9 hX hr h hB hin hrC hQ d (i + 1) df o s (by omega)
    unfold dcP at hR
    refine am_vc_ok am_k42 [16] 100 ?_
    refine And.intro (fun z => absurd z (by rw [e9]; exact nI_ge hi2 (by omega))) (fun _ => ?_)
    refine am_vO am_k42 am_h42 rfl rfl rfl rfl (x_has (by omega)) ?_
    refine am_vc_ok am_k42 [16] 100 ?_
    refine And.intro (fun z => ?_) (fun z => ?_)
    · have z : ¬ (sSi S i ≤ v ∧ v ≤ sTi S i) := fun y => bI_0.mp z (hiff.mpr y)
      rw [if_neg z] at hR
      have K2 := fin df o s (by omega) hR hf hd hC
      rw [← nI_1 i] at K2
      exact K2
    have z := hiff.mp (bI_1.mp z)
    rw [if_pos z] at hR
    refine And.intro (bi) ?_
    rw [ei, x1, hCs.1]
    refine And.intro (fun y => ?_) (fun y => ?_)
    · have y := (bb_x b1).mp y
      rw [if_neg (by rw [y]; decide)] at hR
      refine And.intro (bi) ?_
      rw [ei, x1, hd]
      refine And.intro (bi) ?_
      rw [ei, u3_k (a := 37) _ _ (by decide), x6]
      have hC2 : nC (u3 s 4 0 9 (df ||| bt (sNm S i))) o := ⟨by rw [u3_k _ _ (by decide)]; exact hC.1, fun j hj => by rw [u3_k _ _ (by decide)]; exact hC.2 j hj⟩
      refine am_vO am_k42 am_h42 rfl rfl rfl rfl (x_nadd hC2 (by omega)) ?_
      refine am_vc_ok am_k42 [16] 100 ?_
      have K2 := fin (df ||| bt (sNm S i)) (wps o (pI (sPr S i))) (nAd (u3 s 4 0 9 (df ||| bt (sNm S i))) o (pI (sPr S i))) (by show o.1 + 1 ≤ _; omega) hR hf.u9.ad (by rw [nAd, u3_k _ _ (by decide), u3_k _ _ (by decide), u3_eq]) hC2.ps
      rw [← nI_1 i] at K2
      exact K2
    · have y : bb (rRd st) (sNm S i) = true := by
        cases hb : bb (rRd st) (sNm S i) with
        | true => rfl
        | false => exact absurd ((bb_x b1).mpr hb) y
      rw [if_pos y] at hR
      obtain ⟨g1, g2, g3⟩ := hin.it hS hi2 z y
      have e26 : s 26 0 (sNm S i) = nI (rVp st (sNm S i)) := hCs.2.2.1 (sNm S i) b1 y
      refine And.intro (bi) ?_
      rw [ei, x2]
      refine And.intro (bi) ?_
      rw [ei, x1]
      refine And.intro (vp_in_nI (N := 16) b1 (by decide)) ?_
      rw [nI_clamp (n := sNm S i) (by omega), e26]
      refine am_vOT am_k42 am_h42 rfl rfl rfl rfl (x_dField (o := o) b2 (by omega) hr (h.dx hr hf) hB (fun q => (g3 q).1) (by omega) hC) ?_
      rintro w s2 τ2 t2 ⟨rfl, rfl, rfl, hf2, hd2, hC2⟩
      have hl := vlF_len (o := o) (p := rVp st (sNm S i)) (G := G) (N := N) (so := sSo S i) (fun q => (g3 q).1)
      have K2 := fin df (vlF G N (sSo S i) (rVp st (sNm S i)) o) s2 (by omega) hR (hf.tr hf2) (by rw [hd2]; exact hd) hC2
      refine am_vc_ok am_k42 [16] 100 ?_
      rw [← nI_1 i] at K2
      exact K2
theorem x_decode {ii v : Nat} {S : aSh} {st : rS} (hv : v < 10) (hS : ShOK S) (h9 : σ 9 ii 1 = nI (sN S)) (hX : XItems σ ii S) (hr : 4 ≤ r) (h : K0 σ r N G) (hB : ∀ j, j < N → isB (G j)) (hin : rIn S v G N st N) (hrC : rC σ st) : am_T l 42 [aR 4 0, aR 9 ii, aI (nI v), aR 6 r] σ τ t (fun w s τ2 t2 => w = none ∧ τ2 = τ ∧ t2 = t ∧ dxF σ s ∧ s 4 0 9 = (dcP S v G N st (sN S) 0 0 o0).1 ∧ nC s (dcP S v G N st (sN S) 0 0 o0).2 ∧ (dcP S v G N st (sN S) 0 0 o0).2.1 ≤ 120) := by
  refine am_T_of am_o42 am_l42 rfl ?_
  refine am_vc_ok am_k42 [16] 100 ?_
  refine x_dc_lp (σ := σ) hv hS h9 hX hr h hB hin hrC ?_ (sN S) 0 0 o0 _ (by omega) (by decide) rfl (dxF.refl.u6 (Or.inl rfl)).u9 (u3_eq _ _ _ _ _) ⟨by rw [u3_k _ _ (by decide), u3_eq]; rfl, fun j hj => absurd hj (Nat.not_lt_zero j)⟩
  intro s a b c d
  exact ⟨_, rfl, rfl, rfl, rfl, rfl, rfl, a, b, c, d⟩
abbrev kpS (σ : tI) (n : Nat) : tI := xbec (u3 (u3 (u3 σ 4 0 2 (σ 4 0 7)) 4 0 3 (σ 4 0 8)) 4 0 4 (σ 4 0 9)) 2 3 n
theorem x_keep {n : Nat} (h3 : σ 6 3 1 = nI n) (hn : n ≤ 60) : am_D l 44 [aR 4 0] σ τ (rX t) cX lX none (kpS σ n) τ (rX t) := by
  refine am_D_of am_o44 am_l44 rfl ?_
  refine am_vc_ok am_k44 [] 100 ?_
  refine am_vO am_k44 am_h44 rfl rfl rfl rfl (x_rbecome (r := 2) (q := 3) (n := n) (by decide) (by rw [u3_k _ _ (by decide), u3_k _ _ (by decide), u3_k _ _ (by decide)]; exact h3) rfl (show n ≤ 60 from hn) hn) ?_
  refine am_vc_ok am_k44 [] 100 ?_
  exact am_vV am_k44 am_r44 rfl ⟨rfl, rfl, rfl, rfl, rfl, rfl⟩
/-- what read leaves in the class -/
def rrQ (σ : tI) (S : aSh) (v : Nat) (G : Nat → Int32) (N rr : Nat) (R : Nat ⊕ rS) (w : Option am_V) (s : tI) : Prop := match R with
  | .inl q => w = some (aI (nI q)) ∧ rxF σ s
  | .inr st => if (dcP S v G N st (sN S) 0 0 o0).2.1 ≤ 60 then w = some (aI (-9)) ∧ ∃ s1, rxF σ s1 ∧ rC s1 st ∧ s1 4 0 9 = (dcP S v G N st (sN S) 0 0 o0).1 ∧ nC s1 (dcP S v G N st (sN S) 0 0 o0).2 ∧ s = xbec (kpS s1 (rUn st).1) (4 + rr) 1 (dcP S v G N st (sN S) 0 0 o0).2.1 else w = some (aI (-3)) ∧ ∃ s1, rxF σ s1 ∧ s = xfind 2 s1
theorem x_readB {a b c d : Int32} (h : ¬ ((0 ≤ a ∧ a < 4) ∧ (0 ≤ b ∧ b < 10) ∧ (0 ≤ c ∧ c < 6) ∧ (0 ≤ d ∧ d < 6))) : am_D l 106 [aR 11 0, aI a, aI b, aI c, aI d] σ τ (rX t) cX lX (some (aI (-1))) σ τ (rX t) := by
  refine am_D_of am_o106 am_l106 rfl ?_
  refine am_vc_ok am_k106 [] 100 ?_
  refine am_vS am_k106 am_h106 rfl rfl rfl rfl (x_within) ?_
  refine am_vc_ok am_k106 [] 100 ?_
  refine And.intro (fun h1 => ?_) (fun h1 => ?_)
  · exact am_vI am_k106 am_r106 rfl ⟨rfl, rfl, rfl, rfl, rfl, rfl⟩
  refine am_vS am_k106 am_h106 rfl rfl rfl rfl (x_within) ?_
  refine am_vc_ok am_k106 [] 100 ?_
  refine And.intro (fun h2 => ?_) (fun h2 => ?_)
  · exact am_vI am_k106 am_r106 rfl ⟨rfl, rfl, rfl, rfl, rfl, rfl⟩
  refine am_vS am_k106 am_h106 rfl rfl rfl rfl (x_within) ?_
  refine am_vc_ok am_k106 [] 100 ?_
  refine And.intro (fun h3 => ?_) (fun h3 => ?_)
  · exact am_vI am_k106 am_r106 rfl ⟨rfl, rfl, rfl, rfl, rfl, rfl⟩
  refine am_vS am_k106 am_h106 rfl rfl rfl rfl (x_within) ?_
  refine am_vc_ok am_k106 [] 100 ?_
  refine And.intro (fun h4 => ?_) (fun h4 => ?_)
  · exact am_vI am_k106 am_r106 rfl ⟨rfl, rfl, rfl, rfl, rfl, rfl⟩
  · exact absurd ⟨bI_1.mp h1, bI_1.mp h2, bI_1.mp h3, bI_1.mp h4⟩ h
theorem x_read_no {s v x rr : Nat} (hs : s < 4) (hv : v < 10) (hx : x < 6) (hr : rr < 6) (h0 : σ 9 (1 + s) 0 = 0 ∨ σ 6 (10 + x) 0 = 0) : am_D l 106 [aR 11 0, aI (nI s), aI (nI v), aI (nI x), aI (nI rr)] σ τ (rX t) cX lX (some (aI (-3))) (xfind 1 σ) τ (rX t) := by
  refine am_D_of am_o106 am_l106 rfl ?_
  refine am_vc_ok am_k106 [] 100 ?_
  refine am_vS am_k106 am_h106 rfl rfl rfl rfl (x_within) ?_
  refine am_vc_ok am_k106 [] 100 ?_
  refine And.intro (fun g => absurd (in4 hs) (bI_0.mp g)) (fun _ => ?_)
  refine am_vS am_k106 am_h106 rfl rfl rfl rfl (x_within) ?_
  refine am_vc_ok am_k106 [] 100 ?_
  refine And.intro (fun g => absurd (in10 hv) (bI_0.mp g)) (fun _ => ?_)
  refine am_vS am_k106 am_h106 rfl rfl rfl rfl (x_within) ?_
  refine am_vc_ok am_k106 [] 100 ?_
  refine And.intro (fun g => absurd (in6 hx) (bI_0.mp g)) (fun _ => ?_)
  refine am_vS am_k106 am_h106 rfl rfl rfl rfl (x_within) ?_
  refine am_vc_ok am_k106 [] 100 ?_
  refine And.intro (fun g => absurd (in6 hr) (bI_0.mp g)) (fun _ => ?_)
  refine And.intro (vp_in_nI (N := 4) hs (by decide)) ?_
  rw [nI_clamp (n := s) (by omega)]
  refine And.intro (fun z => ?_) (fun z => ?_)
  · refine am_vO am_k106 am_h106 rfl rfl rfl rfl (x_find (w := 1) (by decide)) ?_
    refine am_vc_ok am_k106 [] 100 ?_
    exact am_vI am_k106 am_r106 rfl ⟨rfl, rfl, rfl, rfl, rfl, rfl⟩
  · refine And.intro (vp_in_nI (N := 6) hx (by decide)) ?_
    rw [nI_clamp (n := x) (by omega)]
    refine And.intro (fun y => ?_) (fun y => absurd (h0.resolve_left z) y)
    refine am_vO am_k106 am_h106 rfl rfl rfl rfl (x_find (w := 1) (by decide)) ?_
    refine am_vc_ok am_k106 [] 100 ?_
    exact am_vI am_k106 am_r106 rfl ⟨rfl, rfl, rfl, rfl, rfl, rfl⟩
theorem x_read {s v x rr : Nat} {S : aSh} (hs : s < 4) (hv : v < 10) (hx : x < 6) (hr : rr < 6) (h0 : ¬ σ 9 (1 + s) 0 = 0) (h01 : ¬ σ 6 (10 + x) 0 = 0) (hS : ShOK S) (h9 : σ 9 (1 + s) 1 = nI (sN S)) (hX : XItems σ (1 + s) S) (hI : XIndex σ (1 + s) S) (h : K0 σ (10 + x) N G) (hB : ∀ j, j < N → isB (G j)) : am_T l 106 [aR 11 0, aI (nI s), aI (nI v), aI (nI x), aI (nI rr)] σ τ t (fun w s2 τ2 t2 => τ2 = τ ∧ t2 = t ∧ rrQ σ S v G N rr (rdA S v G N st0 0) w s2) := by
  have hN := h.2.1
  refine am_T_of am_o106 am_l106 rfl ?_
  refine am_vc_ok am_k106 [] 100 ?_
  refine am_vS am_k106 am_h106 rfl rfl rfl rfl (x_within) ?_
  refine am_vc_ok am_k106 [] 100 ?_
  refine And.intro (fun g => absurd (in4 hs) (bI_0.mp g)) (fun _ => ?_)
  refine am_vS am_k106 am_h106 rfl rfl rfl rfl (x_within) ?_
  refine am_vc_ok am_k106 [] 100 ?_
  refine And.intro (fun g => absurd (in10 hv) (bI_0.mp g)) (fun _ => ?_)
  refine am_vS am_k106 am_h106 rfl rfl rfl rfl (x_within) ?_
  refine am_vc_ok am_k106 [] 100 ?_
  refine And.intro (fun g => absurd (in6 hx) (bI_0.mp g)) (fun _ => ?_)
  refine am_vS am_k106 am_h106 rfl rfl rfl rfl (x_within) ?_
  refine am_vc_ok am_k106 [] 100 ?_
  refine And.intro (fun g => absurd (in6 hr) (bI_0.mp g)) (fun _ => ?_)
  refine And.intro (vp_in_nI (N := 4) hs (by decide)) ?_
  rw [nI_clamp (n := s) (by omega)]
  refine And.intro (fun y => absurd y h0) (fun _ => ?_)
  refine And.intro (vp_in_nI (N := 6) hx (by decide)) ?_
  rw [nI_clamp (n := x) (by omega)]
  refine And.intro (fun y => absurd y h01) (fun _ => ?_)
  refine And.intro (vp_in_nI (N := 4) hs (by decide)) ?_
  rw [nI_clamp (n := s) (by omega)]
  refine And.intro (vp_in_nI (N := 6) hx (by decide)) ?_
  rw [nI_clamp (n := x) (by omega)]
  refine am_vOT am_k106 am_h106 rfl rfl rfl rfl (x_wrongPlace hv hS h9 hX hI (by omega) h hB) ?_
  rintro w s1 τ2 t2 ⟨rfl, rfl, hf, hQ⟩
  cases e : rdA S v G N st0 0 with
  | inl q =>
    rw [e] at hQ
    have hQ : w = some (aI (nI q)) := hQ
    subst hQ
    have hq : q ≤ N := rdP_f _ _ _ _ e
    refine am_vc_ok am_k106 [] 100 ?_
    refine And.intro (fun y => absurd y (n9_4 (by omega))) (fun _ => ?_)
    exact am_vI am_k106 am_r106 rfl ⟨_, rfl, rfl, rfl, rfl, rfl, rfl, hf⟩
  | inr st =>
    rw [e] at hQ
    obtain ⟨rfl, hC⟩ := hQ
    have hin : rIn S v G N st N := rdP_in hB (N + 1) 0 st0 st (by omega) (by omega) st0_in e
    refine am_vc_ok am_k106 [] 100 ?_
    refine And.intro (fun _ => ?_) (fun y => absurd rfl y)
    refine And.intro (vp_in_nI (N := 4) hs (by decide)) ?_
    rw [nI_clamp (n := s) (by omega)]
    refine And.intro (vp_in_nI (N := 6) hx (by decide)) ?_
    rw [nI_clamp (n := x) (by omega)]
    refine am_vOT am_k106 am_h106 rfl rfl rfl rfl (x_decode (ii := 1 + s) hv hS (by rw [hf.1 9 (by decide) (by decide) (by decide) (by decide)]; exact h9) (hX.fr (Nat.le_refl _) (fun q k a b _ => by rw [hf.1 q (by omega) (by omega) (by omega) (by omega)])) (by omega) (h.rx (by omega) hf) hB hin hC) ?_
    rintro w s2 τ2 t2 ⟨rfl, rfl, rfl, hf2, hd2, hC2, ho2⟩
    have hCs := hC.dx hf2
    refine am_vc_ok am_k106 [] 100 ?_
    refine And.intro (fun y => ?_) (fun y => ?_)
    · have y : s2 6 1 1 ≤ 60 := y
      rw [hC2.1, show (60 : Int32) = nI 60 from rfl, nI_leI (by omega) (by decide)] at y
      have hu : (rUn st).1 ≤ 60 := Nat.le_trans hin.2.1 hN
      refine am_vO am_k106 am_h106 rfl rfl rfl rfl (x_keep hCs.2.2.2.1 hu) ?_
      refine am_vc_ok am_k106 [] 100 ?_
      have e61 : kpS s2 (rUn st).1 6 1 1 = nI (dcP S v G N st (sN S) 0 0 o0).2.1 := by
        rw [kpS, xbec_i (by decide), u3_k _ _ (by decide), u3_k _ _ (by decide), u3_k _ _ (by decide)]
        exact hC2.1
      refine And.intro (vp_in_nI (N := 6) hr (by decide)) ?_
      rw [nI_clamp (n := rr) (by omega)]
      refine am_vO am_k106 am_h106 rfl rfl rfl rfl (x_rbecome (r := 4 + rr) (q := 1) (by omega) e61 (lX_row (by omega)) (show _ ≤ 120 from ho2) y) ?_
      refine am_vc_ok am_k106 [] 100 ?_
      refine am_vI am_k106 am_r106 rfl ⟨_, rfl, rfl, rfl, rfl, rfl, ?_⟩
      show (if (dcP S v G N st (sN S) 0 0 o0).2.1 ≤ 60 then _ else _)
      rw [if_pos y]
      exact ⟨rfl, s2, hf.tr hf2.rx, hCs, hd2, hC2, rfl⟩
    · have y : ¬ s2 6 1 1 ≤ 60 := y
      rw [hC2.1, show (60 : Int32) = nI 60 from rfl, nI_leI (by omega) (by decide)] at y
      refine am_vO am_k106 am_h106 rfl rfl rfl rfl (x_find (w := 2) (by decide)) ?_
      refine am_vc_ok am_k106 [] 100 ?_
      refine am_vI am_k106 am_r106 rfl ⟨_, rfl, rfl, rfl, rfl, rfl, ?_⟩
      show (if (dcP S v G N st (sN S) 0 0 o0).2.1 ≤ 60 then _ else _)
      rw [if_neg y]
      exact ⟨rfl, s2, hf.tr hf2.rx, rfl⟩
end L68

/-! the model's goThrough -/
section L69
variable {l : Launch} {σ σ2 : tI} {τ τ2 : tL} {t : Option (Nat × Nat)} {x N p : Nat} {G : Nat → Int32}
def rmF (σ s : tI) : Prop := (∀ q, q ≠ 12 → q ≠ 52 → q ≠ 53 → q ≠ 54 → s q = σ q) ∧ ∀ j, j ≠ 16 → j ≠ 19 → j ≠ 20 → j ≠ 21 → s 12 0 j = σ 12 0 j
theorem rmF.refl : rmF σ σ := ⟨fun _ _ _ _ _ => rfl, fun _ _ _ _ _ => rfl⟩
theorem rmF.tr {s s2 : tI} (h : rmF σ s) (h2 : rmF s s2) : rmF σ s2 := ⟨fun q a b c d => (h2.1 q a b c d).trans (h.1 q a b c d), fun j a b c d => (h2.2 j a b c d).trans (h.2 j a b c d)⟩
theorem rmF.u {s : tI} {q j : Nat} {v : Int32} (h : rmF σ s) (hq : q = 52 ∨ q = 53 ∨ q = 54) : rmF σ (u3 s q 0 j v) := ⟨fun k a b c d => by rw [u3_kk _ _ (by omega)]; exact h.1 k a b c d, fun k a b c d => by rw [u3_k _ _ (by omega)]; exact h.2 k a b c d⟩
theorem rmF.w {s : tI} {j : Nat} {v : Int32} (h : rmF σ s) (hj : j = 16 ∨ j = 19 ∨ j = 20 ∨ j = 21) : rmF σ (u3 s 12 0 j v) := ⟨fun k a b c d => by rw [u3_kk _ _ a]; exact h.1 k a b c d, fun k a b c d => by rw [u3_j _ _ (by omega)]; exact h.2 k a b c d⟩
def rM (s : tI) (st : rS) : Prop := s 12 0 19 = rRd st ∧ s 12 0 20 = rKp st ∧ (∀ a, a < 16 → bb (rRd st) a = true → s 53 0 a = nI (rVp st a)) ∧ s 12 0 21 = nI (rUn st).1 ∧ ∀ j, j < (rUn st).1 → s 54 0 j = (rUn st).2 j
theorem M0.rm {s : tI} (h : M0 σ x N G) (hs : rmF σ s) : M0 s x N G := h.fr (hs.1 47 (by decide) (by decide) (by decide) (by decide)) (hs.1 48 (by decide) (by decide) (by decide) (by decide))
theorem m_byteAt {q : Nat} (h : M0 σ x N G) (hB : ∀ j, j < N → isB (G j)) (hq : q < N) : am_D l 189 [aR 12 0, aI (nI x), aI (nI q)] σ τ (rX t) cX lX (some (aI (nI (ut G N q)))) σ τ (rX t) := by
  have hN := h.2.1
  have hx := h.2.2.1
  refine am_D_of am_o189 am_l189 rfl ?_
  refine am_vc_ok am_k189 [] 100 ?_
  refine And.intro (by rw [i60]; exact vp_in_nI (N := 360) (by omega) (by decide)) ?_
  rw [i60, nI_clamp (n := 60 * x + q) (by omega), h.2.2.2 q hq]
  refine am_vI am_k189 am_r189 rfl ⟨?_, rfl, rfl, rfl, rfl, rfl⟩
  refine congrArg (fun x => some (aI x)) ?_
  rw [ut, if_pos hq]
  exact (ub_ok (hB q hq)).1
theorem m_itO {sh v a : Nat} {S : aSh} (hsh : sh < 4) (hS : ShOK S) (h49 : σ 49 0 sh = nI (sN S)) (hX : MItems σ sh S) (hv : v < 10) (ha : a < 16) : am_D l 185 [aR 12 0, aI (nI sh), aI (nI v), aI (nI a)] σ τ (rX t) cX lX (some (aI (pI (itO S v a)))) σ τ (rX t) := by
  have h := m_named (l := l) (τ := τ) (t := t) (v := nI v) (a := nI a) hsh h49 hS.1
  have e : lastM (inP (mA σ sh 3) (mA σ sh 4) (mA σ sh 0) (nI v) (nI a)) (sN S) = itO S v a := by
    refine lastM_cg (fun k hk => ?_)
    obtain ⟨b1, b2, b3, b4, b5, b6, b7⟩ := hS.2.1 k hk
    unfold inP
    rw [show mA σ sh 3 k = nI (sSi S k) from hX k 3 hk (by decide), show mA σ sh 4 k = nI (sTi S k) from hX k 4 hk (by decide), show mA σ sh 0 k = nI (sNm S k) from hX k 0 hk (by decide)]
    refine decide_eq_decide.mpr ?_
    rw [nI_leI (by omega) (by omega), nI_leI (by omega) (by omega), nI_eq (by omega) (by omega)]
    exact ⟨fun z => ⟨z.2, z.1⟩, fun z => ⟨z.2, z.1⟩⟩
  rw [e] at h
  exact h
theorem m_kp_lp {Q : tQ} {e a sh v : Nat} {l11 l10 l9 l8 l7 l6 : Int32} {st : rS} (h11 : l11 = 0) (h : M0 σ x N G) (he : e ≤ N) {O : wO} (K : ∀ s q, rmF σ s → rM s (rRd st, rKp st, rVp st, O) → am_G l 190 Q 0 0 336 [(13, aI q), (12, aI (nI e)), (11, aI l11), (10, aI l10), (9, aI l9), (8, aI l8), (7, aI l7), (6, aI l6), (4, aI (nI a)), (5, aI (nI N)), (0, aR 12 0), (1, aI (nI sh)), (2, aI (nI v)), (3, aI (nI x))] [] s τ (rX t) cX lX) : ∀ (d q : Nat) (o : wO) (s : tI), q + d = e → o.1 ≤ q → kpN G d q o = O → rmF σ s → rM s (rRd st, rKp st, rVp st, o) → am_G l 190 Q 0 0 287 [(13, aI (nI q)), (12, aI (nI e)), (11, aI l11), (10, aI l10), (9, aI l9), (8, aI l8), (7, aI l7), (6, aI l6), (4, aI (nI a)), (5, aI (nI N)), (0, aR 12 0), (1, aI (nI sh)), (2, aI (nI v)), (3, aI (nI x))] [] s τ (rX t) cX lX
  | 0, q, o, s, hq, ho, hO, hf, hC => by
    have hN := h.2.1
    obtain rfl : q = e := by omega
    subst hO
    refine am_vc_ok am_k190 [287, 336] 100 ?_
    exact And.intro (fun _ => K s _ hf hC) (fun z => absurd (nI_le (Nat.le_refl _) (by omega)) z)
  | d + 1, q, o, s, hq, ho, hO, hf, hC => by
    have hN := h.2.1
    have hx := h.2.2.1
    have hM := h.rm hf
    have c4 : s 12 0 21 = nI o.1 := hC.2.2.2.1
    have c5 : ∀ j, j < o.1 → s 54 0 j = o.2 j := hC.2.2.2.2
    have K2 := m_kp_lp (st := st) h11 h he K d (q + 1) (wps o (G q)) (u3 (u3 s 54 0 o.1 (G q)) 12 0 21 (nI (o.1 + 1))) (by omega) (by show o.1 + 1 ≤ q + 1; omega) hO ((hf.u (by decide)).w (by decide)) ⟨by rw [u3_j _ _ (by decide), u3_k _ _ (by decide)]; exact hC.1, by rw [u3_j _ _ (by decide), u3_k _ _ (by decide)]; exact hC.2.1, fun a ha hb => by rw [u3_k _ _ (by decide), u3_k _ _ (by decide)]; exact hC.2.2.1 a ha hb, u3_eq _ _ _ _ _, fun j hj => by
      have hj : j < o.1 + 1 := hj
      rw [u3_k _ _ (by decide)]
      show _ = pshF o.2 o.1 (G q) j
      unfold pshF
      by_cases e : j = o.1
      · rw [if_pos e, e, u3_eq]
      · rw [if_neg e, u3_j _ _ e]
        exact c5 j (by omega)⟩
    refine am_vc_ok am_k190 [287, 336] 100 ?_
    refine And.intro (fun z => absurd z (nI_ge (by omega) (by omega))) (fun _ => ?_)
    refine And.intro (fun _ => ?_) (fun z => absurd h11 z)
    refine And.intro (by rw [i60]; exact vp_in_nI (N := 360) (by omega) (by decide)) ?_
    rw [i60, nI_clamp (n := 60 * x + q) (by omega), hM.2.2.2 q (by omega), c4]
    refine And.intro (vp_in_nI (N := 60) (by omega) (by decide)) ?_
    rw [nI_clamp (n := o.1) (by omega)]
    rw [← nI_1 q] at K2
    exact am_Gs (by rw [u3_k (a := 12) (b := 0) (c := 21) _ _ (show 12 ≠ 54 by decide), c4, nI_1]) (am_Gp [0, 1, 2, 3, 4, 5, 6, 7, 8, 9, 10, 11, 12, 13] rfl K2)
/-- a field is taken -/
theorem m_tk {Q : tQ} {u a so sh v : Nat} {ko : Option Nat} {l10 l6 rv : Int32} {st : rS} {s : tI} (h : M0 σ x N G) (hB : ∀ j, j < N → isB (G j)) (hf : rmF σ s) (hC : rM s st) (hp : p + 1 < N) (hu : ut G N (p + 1) = u) (ha : a < 16) (hso : so < 4) (hun : (rUn st).1 ≤ p) (hrv : rv = if ko = none then 0 else 1) (hna : bb (rRd st) a = false) (hN1 : N < p + wdN so u → ∀ s2, rmF σ s2 → Q (some (aI (nI N))) s2 τ (rX t) cX lX) (K : p + wdN so u ≤ N → ∀ s2, rmF σ s2 → rM s2 (tkR G st ko a p (p + wdN so u)) → am_G l 190 Q 0 0 26 [(4, aI (nI (p + wdN so u))), (5, aI (nI N)), (0, aR 12 0), (1, aI (nI sh)), (2, aI (nI v)), (3, aI (nI x))] [] s2 τ (rX t) cX lX) : am_G l 190 Q 0 0 186 [(11, aI rv), (10, aI l10), (9, aI (nI (p + 1))), (8, aI (nI so)), (7, aI (nI a)), (6, aI l6), (4, aI (nI p)), (5, aI (nI N)), (0, aR 12 0), (1, aI (nI sh)), (2, aI (nI v)), (3, aI (nI x))] [] s τ (rX t) cX lX := by
  have hN := h.2.1
  have hx := h.2.2.1
  have hM := h.rm hf
  have hu256 : u < 256 := by rw [← hu]; exact ut_lt hB
  have hw2 := wdN_2 (so := so) (u := u)
  have hby := m_byteAt (l := l) (τ := τ) (t := t) (q := p + 1) hM hB hp
  rw [hu] at hby
  generalize he : p + wdN so u = e at *
  have go : ∀ w : Int32, nI (p + 1) + w = nI e → am_G l 190 Q 0 0 217 [(11, aI rv), (10, aI l10), (9, aI (nI (p + 1))), (8, aI (nI so)), (7, aI (nI a)), (6, aI l6), (4, aI (nI p)), (5, aI (nI N)), (0, aR 12 0), (1, aI (nI sh)), (2, aI (nI v)), (3, aI (nI x))] [aI w, aI (nI (p + 1))] s τ (rX t) cX lX := by
    intro w hw
    have he2 : e < 1000 := by
      rw [← he]
      unfold wdN
      split
      · omega
      · split <;> omega
    have hle : nI (p + 1) + w ≤ nI N ↔ e ≤ N := by rw [hw, nI_leI (by omega) (by omega)]
    refine am_vc_ok am_k190 [287] 100 ?_
    refine And.intro (fun z => ?_) (fun z => ?_)
    rotate_left
    · have z : ¬ e ≤ N := fun y => z (hle.mpr y)
      exact am_vI am_k190 am_r190 rfl (hN1 (by omega) s hf)
    have z : e ≤ N := hle.mp z
    have K1 := K z
    refine And.intro (vp_in_nI (N := 16) ha (by decide)) ?_
    rw [nI_clamp (n := a) (by omega), hw]
    have hf1 : rmF σ (u3 s 53 0 a (nI (p + 1))) := hf.u (by decide)
    cases ko with
    | some k =>
      rw [if_neg (by simp)] at hrv
      subst hrv
      refine And.intro (fun y => absurd y (by decide)) (fun _ => ?_)
      refine And.intro (fun y => absurd y (by decide)) (fun _ => ?_)
      generalize hs2 : u3 (u3 (u3 s 53 0 a (nI (p + 1))) 12 0 19 (u3 s 53 0 a (nI (p + 1)) 12 0 19 ||| (1 : Int32) <<< (nI a &&& 31))) 12 0 20 (u3 (u3 s 53 0 a (nI (p + 1))) 12 0 19 (u3 s 53 0 a (nI (p + 1)) 12 0 19 ||| (1 : Int32) <<< (nI a &&& 31)) 12 0 20 ||| 0) = s2
      have hf2 : rmF σ s2 := by rw [← hs2]; exact (hf1.w (by decide)).w (by decide)
      have hC2 : rM s2 (tkR G st (some k) a p e) := by
        refine ⟨?_, ?_, fun b hb h1 => ?_, ?_, fun j hj => ?_⟩
        · rw [← hs2, u3_j _ _ (by decide), u3_eq, u3_k _ _ (by decide), hC.1]; rfl
        · rw [← hs2, u3_eq, u3_j _ _ (by decide), u3_k _ _ (by decide), hC.2.1, Int32.or_zero]; rfl
        · show _ = nI (pshF (rVp st) a (p + 1) b)
          rw [← hs2, u3_k _ _ (by decide), u3_k _ _ (by decide)]
          unfold pshF
          by_cases e : b = a
          · rw [if_pos e, e, u3_eq]
          · rw [if_neg e, u3_j _ _ e]
            refine hC.2.2.1 b hb ?_
            have h1 : bb (rRd st ||| bt a) b = true := h1
            rw [bb_or hb ha, decide_eq_false e, Bool.or_false] at h1
            exact h1
        · rw [← hs2, u3_j _ _ (by decide), u3_j _ _ (by decide), u3_k _ _ (by decide)]; exact hC.2.2.2.1
        · rw [← hs2, u3_k _ _ (by decide), u3_k _ _ (by decide), u3_k _ _ (by decide)]; exact hC.2.2.2.2 j hj
      have K2 := K1 s2 hf2 hC2
      have fin : am_G l 190 Q 0 0 287 [(13, aI (nI p)), (12, aI (nI e)), (11, aI 1), (10, aI l10), (9, aI (nI (p + 1))), (8, aI (nI so)), (7, aI (nI a)), (6, aI l6), (4, aI (nI p)), (5, aI (nI N)), (0, aR 12 0), (1, aI (nI sh)), (2, aI (nI v)), (3, aI (nI x))] [] s2 τ (rX t) cX lX := by
        refine am_vc_ok am_k190 [26] 100 ?_
        refine And.intro (fun y => absurd y (nI_ge (by omega) (by omega))) (fun _ => ?_)
        refine And.intro (fun y => absurd y (by decide)) (fun _ => ?_)
        exact am_Gp [0, 9, 10, 11, 12, 13] rfl K2
      exact am_Gs hs2 (am_Gp [0, 1, 2, 3, 4, 5, 6, 7, 8, 9, 10, 11, 12, 13] rfl fin)
    | none =>
      rw [if_pos rfl] at hrv
      subst hrv
      refine And.intro (fun _ => ?_) (fun y => absurd rfl y)
      refine And.intro (fun _ => ?_) (fun y => absurd rfl y)
      generalize hs2 : u3 (u3 (u3 s 53 0 a (nI (p + 1))) 12 0 19 (u3 s 53 0 a (nI (p + 1)) 12 0 19 ||| 0)) 12 0 20 (u3 (u3 s 53 0 a (nI (p + 1))) 12 0 19 (u3 s 53 0 a (nI (p + 1)) 12 0 19 ||| 0) 12 0 20 ||| (1 : Int32) <<< (nI a &&& 31)) = s2
      have hf2 : rmF σ s2 := by rw [← hs2]; exact (hf1.w (by decide)).w (by decide)
      have hC2 : rM s2 (rRd st, rKp st ||| bt a, rVp st, rUn st) := by
        refine ⟨?_, ?_, fun b hb h1 => ?_, ?_, fun j hj => ?_⟩
        · rw [← hs2, u3_j _ _ (by decide), u3_eq, u3_k _ _ (by decide), hC.1, Int32.or_zero]
        · rw [← hs2, u3_eq, u3_j _ _ (by decide), u3_k _ _ (by decide), hC.2.1]
        · rw [← hs2, u3_k _ _ (by decide), u3_k _ _ (by decide)]
          have e : b ≠ a := by
            rintro rfl
            have h1 : bb (rRd st) b = true := h1
            rw [hna] at h1
            cases h1
          rw [u3_j _ _ e]
          exact hC.2.2.1 b hb h1
        · rw [← hs2, u3_j _ _ (by decide), u3_j _ _ (by decide), u3_k _ _ (by decide)]; exact hC.2.2.2.1
        · rw [← hs2, u3_k _ _ (by decide), u3_k _ _ (by decide), u3_k _ _ (by decide)]; exact hC.2.2.2.2 j hj
      refine am_Gs hs2 ?_
      refine am_Gp (ls2 := [(13, aI (nI p)), (12, aI (nI e)), (11, aI 0), (10, aI l10), (9, aI (nI (p + 1))), (8, aI (nI so)), (7, aI (nI a)), (6, aI l6), (4, aI (nI p)), (5, aI (nI N)), (0, aR 12 0), (1, aI (nI sh)), (2, aI (nI v)), (3, aI (nI x))]) [0, 1, 2, 3, 4, 5, 6, 7, 8, 9, 10, 11, 12, 13] rfl ?_
      refine m_kp_lp (σ := σ) (st := (rRd st, rKp st ||| bt a, rVp st, rUn st)) rfl h z (O := kpN G (e - p) p (rUn st)) (fun s3 q hf3 hC3 => ?_) (e - p) p (rUn st) s2 (by omega) hun rfl hf2 hC2
      have K2 := K1 s3 hf3 hC3
      refine am_vc_ok am_k190 [26] 100 ?_
      exact am_Gp [0, 9, 10, 11, 12, 13] rfl K2
  unfold wdN at he
  refine am_vc_ok am_k190 [217] 100 ?_
  refine And.intro (fun z => ?_) (fun z => ?_)
  · have z : so = 1 := nI_inj' (by omega) (by decide) (show nI so = nI 1 from z)
    rw [if_pos z] at he
    exact go 2 (by rw [show (2 : Int32) = nI 2 from rfl, nI_add, ← he])
  have z1 : ¬ so = 1 := fun y => z (by rw [y]; rfl)
  rw [if_neg z1] at he
  refine And.intro (fun z => ?_) (fun z => ?_)
  · have z : so = 2 := nI_inj' (by omega) (by decide) (show nI so = nI 2 from z)
    rw [if_pos z] at he
    refine am_vO am_k190 am_h190 rfl rfl rfl rfl (hby) ?_
    refine am_vc_ok am_k190 [217] 100 ?_
    exact go _ (by rw [show (1 : Int32) = nI 1 from rfl, nI_add, nI_add, ← he]; congr 1; omega)
  · have z2 : ¬ so = 2 := fun y => z (by rw [y]; rfl)
    rw [if_neg z2] at he
    exact go 1 (by rw [nI_1, ← he])
end L69
