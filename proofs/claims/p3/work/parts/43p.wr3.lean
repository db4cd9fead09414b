/-! the model's write -/
section L61
variable {l : Launch} {σ σ2 : tI} {τ τ2 : tL} {t : Option (Nat × Nat)} {r M : Nat} {g : Nat → Int32}
def wmF (σ s : tI) : Prop := (∀ q, q ≠ 12 → q ≠ 52 → s q = σ q) ∧ ∀ j, j ≠ 16 → s 12 0 j = σ 12 0 j
theorem wmF.refl : wmF σ σ := ⟨fun _ _ _ => rfl, fun _ _ => rfl⟩
theorem wmF.tr {s s2 : tI} (h : wmF σ s) (h2 : wmF s s2) : wmF σ s2 := ⟨fun q a b => (h2.1 q a b).trans (h.1 q a b), fun j a => (h2.2 j a).trans (h.2 j a)⟩
theorem wmF.o {s : tI} {j : Nat} {v : Int32} (h : wmF σ s) : wmF σ (u3 s 52 0 j v) := ⟨fun q a b => by rw [u3_kk _ _ b]; exact h.1 q a b, fun j a => by rw [u3_k _ _ (by decide)]; exact h.2 j a⟩
theorem wmF.n {s : tI} {v : Int32} (h : wmF σ s) : wmF σ (u3 s 12 0 16 v) := ⟨fun q a b => by rw [u3_kk _ _ a]; exact h.1 q a b, fun j a => by rw [u3_j _ _ a]; exact h.2 j a⟩
def wJ (s : tI) (o : wO) : Prop := s 12 0 16 = nI o.1 ∧ ∀ j, j < o.1 → s 52 0 j = o.2 j
abbrev wou (s : tI) (o : wO) (v : Int32) : tI := u3 (u3 s 52 0 o.1 v) 12 0 16 (nI (o.1 + 1))
theorem wJ.ps {s : tI} {o : wO} {v : Int32} (h : wJ s o) : wJ (wou s o v) (wps o v) := by
  refine ⟨u3_eq _ _ _ _ _, fun j hj => ?_⟩
  have hj : j < o.1 + 1 := hj
  show u3 (u3 s 52 0 o.1 v) 12 0 16 (nI (o.1 + 1)) 52 0 j = pshF o.2 o.1 v j
  rw [u3_k _ _ (by decide)]
  unfold pshF
  by_cases e : j = o.1
  · rw [if_pos e, e, u3_eq]
  · rw [if_neg e, u3_j _ _ e]
    exact h.2 j (by omega)
theorem m_out {s : tI} {o : wO} {v : Int32} (h : wJ s o) (ho : o.1 < 400) : am_D l 187 [aR 12 0, aI v] s τ (rX t) cX lX none (wou s o (i2b v)) τ (rX t) := by
  refine am_D_of am_o187 am_l187 rfl ?_
  refine am_vc_ok am_k187 [] 100 ?_
  refine And.intro (by rw [h.1]; exact vp_in_nI (N := 400) ho (by decide)) ?_
  rw [h.1, nI_clamp (n := o.1) (by omega)]
  refine am_vV am_k187 am_r187 rfl ⟨rfl, ?_, rfl, rfl, rfl, rfl⟩
  rw [u3_k _ _ (show 12 ≠ 52 by decide), h.1, nI_1]
/-- the row that is written -/
def V0 (σ : tI) (r M : Nat) (g : Nat → Int32) : Prop := σ 44 0 r = nI M ∧ M ≤ 60 ∧ r < 6 ∧ ∀ j, j < M → σ 45 0 (60 * r + j) = g j
theorem V0.fr {s : tI} (h : V0 σ r M g) (hs : wmF σ s) : V0 s r M g := by
  unfold V0 at h ⊢
  rw [hs.1 44 (by decide) (by decide), hs.1 45 (by decide) (by decide)]
  exact h
theorem i60 (r p : Nat) : 60 * nI r + nI p = nI (60 * r + p) := by rw [show (60 : Int32) = nI 60 from rfl, pk_mul, nI_add]
theorem i2b_64 : ∀ k, k < 64 → i2b (nI k) = nI k := by decide +kernel
theorem m_wm_lp {Q : tQ} {sh vv x i m : Nat} {R : Option (Nat × wO)} (hm : m ≤ 9) (h : V0 σ r M g) (hN : ∀ w s, w < 6 → R = none → wmF σ s → Q (some (aI (-3))) (mmeets w s) τ (rX t) cX lX) (K : ∀ nx o s, R = some (nx, o) → wmF σ s → wJ s o → am_G l 188 Q 0 0 318 [(9, aI (nI m)), (5, aI (nI nx)), (8, aI (nI m)), (7, aI (nI 2)), (6, aI (nI i)), (0, aR 12 0), (1, aI (nI sh)), (2, aI (nI vv)), (3, aI (nI r)), (4, aI (nI x))] [] s τ (rX t) cX lX) : ∀ (d k nx : Nat) (o : wO) (s : tI), k + d = m → nx ≤ M → o.1 + d ≤ 132 → wrM g M d nx o = R → wmF σ s → wJ s o → am_G l 188 Q 0 0 235 [(9, aI (nI k)), (5, aI (nI nx)), (8, aI (nI m)), (7, aI (nI 2)), (6, aI (nI i)), (0, aR 12 0), (1, aI (nI sh)), (2, aI (nI vv)), (3, aI (nI r)), (4, aI (nI x))] [] s τ (rX t) cX lX
  | 0, k, nx, o, s, hk, h1, h2, hR, hf, hJ => by
    obtain rfl : k = m := by omega
    refine am_vc_ok am_k188 [235, 318] 100 ?_
    exact And.intro (fun _ => K nx o s hR.symm hf hJ) (fun z => absurd (nI_le (Nat.le_refl _) (by omega)) z)
  | d + 1, k, nx, o, s, hk, h1, h2, hR, hf, hJ => by
    have hV := h.fr hf
    have hM := h.2.1
    have hr := h.2.2.1
    have fin := fun nx o s => m_wm_lp hm h hN K d (k + 1) nx o s (by omega)
    unfold wrM at hR
    refine am_vc_ok am_k188 [235, 318] 100 ?_
    refine And.intro (fun z => absurd z (nI_ge (by omega) (by omega))) (fun _ => ?_)
    refine And.intro (fun _ => ?_) (fun z => absurd rfl z)
    refine And.intro (vp_in_nI (N := 6) hr (by decide)) ?_
    rw [nI_clamp (n := r) (by omega), hV.1]
    refine And.intro (fun z => ?_) (fun z => ?_)
    · have z : nx = M := nI_inj' (by omega) (by omega) z
      rw [if_neg (fun y => absurd y.1 (by omega))] at hR
      refine am_vO am_k188 am_h188 rfl rfl rfl rfl (m_meets (w := 5) (by decide)) ?_
      refine am_vc_ok am_k188 [235, 318] 100 ?_
      exact am_vI am_k188 am_r188 rfl (hN 5 s (by decide) hR.symm hf)
    · have z : nx < M := by
        have : ¬ nx = M := fun y => z (by rw [y])
        omega
      have eg : s 45 0 (60 * r + nx) = g nx := hV.2.2.2 nx z
      refine And.intro (by rw [i60]; exact vp_in_nI (N := 360) (by omega) (by decide)) ?_
      rw [i60, nI_clamp (n := 60 * r + nx) (by omega), eg]
      refine am_vS am_k188 am_h188 rfl rfl rfl rfl (m_in) ?_
      refine am_vc_ok am_k188 [235, 318] 100 ?_
      refine And.intro (fun y => ?_) (fun y => ?_)
      · have y := bI_0.mp y
        rw [if_neg (fun q => y q.2)] at hR
        refine am_vO am_k188 am_h188 rfl rfl rfl rfl (m_meets (w := 3) (by decide)) ?_
        refine am_vc_ok am_k188 [235, 318] 100 ?_
        exact am_vI am_k188 am_r188 rfl (hN 3 s (by decide) hR.symm hf)
      · have y := bI_1.mp y
        rw [if_pos ⟨z, y⟩] at hR
        refine And.intro (by rw [i60]; exact vp_in_nI (N := 360) (by omega) (by decide)) ?_
        rw [i60, nI_clamp (n := 60 * r + nx) (by omega), eg]
        refine am_vO am_k188 am_h188 rfl rfl rfl rfl (m_out hJ (by omega)) ?_
        refine am_vc_ok am_k188 [235, 318] 100 ?_
        have K2 := fin (nx + 1) (wps o (i2b (g nx))) (wou s o (i2b (g nx))) (by omega) (by show o.1 + 1 + d ≤ 132; omega) hR hf.o.n hJ.ps
        rw [← nI_1 k, ← nI_1 nx] at K2
        exact am_Gp [0, 1, 2, 3, 4, 5, 6, 7, 8, 9] rfl K2
/-- one field -/
theorem m_wf {Q : tQ} {S : aSh} {sh vv x i nx : Nat} {o : wO} {s : tI} {R : Option (Nat × wO)} (hsh : sh < 4) (hS : ShOK S) (hi : i < sN S) (hX : MItems σ sh S) (h : V0 σ r M g) (hnx : nx ≤ M) (ho : o.1 + 11 ≤ 132) (hR : wrF S g M i nx o = R) (hf : wmF σ s) (hJ : wJ s o) (hN : ∀ w s, w < 6 → R = none → wmF σ s → Q (some (aI (-3))) (mmeets w s) τ (rX t) cX lX) (K : ∀ a b c nx o s, R = some (nx, o) → wmF σ s → wJ s o → am_G l 188 Q 0 0 318 [(9, aI a), (5, aI (nI nx)), (8, aI b), (7, aI c), (6, aI (nI i)), (0, aR 12 0), (1, aI (nI sh)), (2, aI (nI vv)), (3, aI (nI r)), (4, aI (nI x))] [] s τ (rX t) cX lX) : am_G l 188 Q 0 0 91 [(6, aI (nI i)), (5, aI (nI nx)), (0, aR 12 0), (1, aI (nI sh)), (2, aI (nI vv)), (3, aI (nI r)), (4, aI (nI x))] [] s τ (rX t) cX lX := by
  have s12 := hS.1
  have hM := h.2.1
  have hr := h.2.2.1
  have hV := h.fr hf
  obtain ⟨b1, b2, b3, b4, -⟩ := hS.2.1 i hi
  have hX2 : ∀ s2, wmF σ s2 → ∀ w, w < 6 → s2 50 0 (72 * sh + 6 * i + w) = sF S i w := fun s2 hs2 w hw => by rw [hs2.1 50 (by decide) (by decide)]; exact hX i w hi hw
  have p1 := m_part (l := l) (τ := τ) (t := t) (σ := s) (w := 1) hsh (show i < 12 by omega) (by decide)
  have p2 := m_part (l := l) (τ := τ) (t := t) (σ := s) (w := 2) hsh (show i < 12 by omega) (by decide)
  have p0 := m_part (l := l) (τ := τ) (t := t) (σ := s) (w := 0) hsh (show i < 12 by omega) (by decide)
  rw [hX2 s hf 1 (by decide), show sF S i 1 = nI (sSo S i) from rfl] at p1
  rw [hX2 s hf 2 (by decide), show sF S i 2 = nI (sCh S i) from rfl] at p2
  rw [hX2 s hf 0 (by decide), show sF S i 0 = nI (sNm S i) from rfl] at p0
  unfold wrF at hR
  refine am_vc_ok am_k188 [181, 235] 100 ?_
  refine am_vO am_k188 am_h188 rfl rfl rfl rfl (p1) ?_
  refine am_vc_ok am_k188 [181, 235] 100 ?_
  refine And.intro (vp_in_nI (N := 6) hr (by decide)) ?_
  rw [nI_clamp (n := r) (by omega), hV.1]
  refine And.intro (fun z => ?_) (fun z => ?_)
  · have z : nx = M := nI_inj' (by omega) (by omega) z
    rw [if_neg (fun y => absurd y.1 (by omega))] at hR
    refine am_vO am_k188 am_h188 rfl rfl rfl rfl (m_meets (w := 5) (by decide)) ?_
    refine am_vc_ok am_k188 [181, 235] 100 ?_
    exact am_vI am_k188 am_r188 rfl (hN 5 s (by decide) hR.symm hf)
  have z : nx < M := by
    have : ¬ nx = M := fun y => z (by rw [y])
    omega
  have eg : s 45 0 (60 * r + nx) = g nx := hV.2.2.2 nx z
  refine And.intro (by rw [i60]; exact vp_in_nI (N := 360) (by omega) (by decide)) ?_
  rw [i60, nI_clamp (n := 60 * r + nx) (by omega), eg]
  have go : ∀ hi : Int32, hi = hiI S i → am_G l 188 Q 0 0 181 [(5, aI (nI nx + 1)), (8, aI (g nx)), (7, aI (nI (sSo S i))), (6, aI (nI i)), (0, aR 12 0), (1, aI (nI sh)), (2, aI (nI vv)), (3, aI (nI r)), (4, aI (nI x))] [aI hi, aI 0, aI (g nx)] s τ (rX t) cX lX := by
    rintro _ rfl
    refine am_vc_ok am_k188 [235] 100 ?_
    refine am_vS am_k188 am_h188 rfl rfl rfl rfl (m_in) ?_
    refine am_vc_ok am_k188 [235] 100 ?_
    refine And.intro (fun y => ?_) (fun y => ?_)
    · have y := bI_0.mp y
      rw [if_neg (fun q => y q.2)] at hR
      refine am_vO am_k188 am_h188 rfl rfl rfl rfl (m_meets (w := 3) (by decide)) ?_
      refine am_vc_ok am_k188 [235] 100 ?_
      exact am_vI am_k188 am_r188 rfl (hN 3 s (by decide) hR.symm hf)
    have y := bI_1.mp y
    rw [if_pos ⟨z, y⟩] at hR
    have hl := wrH_len (S := S) (i := i) (x := g nx) (o := o)
    have ehd : 16 * nI (sSo S i) + nI (sNm S i) = nI (16 * sSo S i + sNm S i) := by rw [show (16 : Int32) = nI 16 from rfl, pk_mul, nI_add]
    have fin : ∀ s2, wmF σ s2 → wJ s2 (wrH S i (g nx) o) → am_G l 188 Q 0 0 235 [(9, aI (nI 0)), (5, aI (nI (nx + 1))), (8, aI (g nx)), (7, aI (nI (sSo S i))), (6, aI (nI i)), (0, aR 12 0), (1, aI (nI sh)), (2, aI (nI vv)), (3, aI (nI r)), (4, aI (nI x))] [] s2 τ (rX t) cX lX := by
      intro s2 hf2 hJ2
      by_cases h2 : sSo S i = 2
      · rw [if_pos h2] at hR
        obtain ⟨mm, hmm, hmm2⟩ := hi9 h2 y
        rw [hmm2] at hR hJ2 ⊢
        rw [nI_clamp (by omega)] at hR
        rw [h2]
        have hl2 := hl.2 h2
        rw [hmm2] at hl2
        refine m_wm_lp hmm h hN (fun nx o s e1 e2 e3 => K _ _ _ nx o s e1 e2 e3) mm 0 (nx + 1) _ s2 (by omega) (by omega) (by rw [hl2]; omega) hR hf2 hJ2
      · rw [if_neg h2] at hR
        have K2 := K (nI 0) (g nx) (nI (sSo S i)) (nx + 1) _ s2 hR.symm hf2 hJ2
        refine am_vc_ok am_k188 [318] 100 ?_
        refine And.intro (fun _ => K2) (fun _ => ?_)
        refine And.intro (fun q => ?_) (fun _ => K2)
        exact absurd (nI_inj' (by omega) (by decide) (show nI (sSo S i) = nI 2 from q)) h2
    refine am_vO am_k188 am_h188 rfl rfl rfl rfl (p0) ?_
    refine am_vc_ok am_k188 [235] 100 ?_
    have hout := m_out (l := l) (τ := τ) (t := t) (v := nI (16 * sSo S i + sNm S i)) hJ (by omega)
    rw [← ehd] at hout
    refine am_vO am_k188 am_h188 rfl rfl rfl rfl (hout) ?_
    refine am_vc_ok am_k188 [235] 100 ?_
    rw [ehd, i2b_64 _ (by omega)]
    have hJ1 := hJ.ps (v := nI (16 * sSo S i + sNm S i))
    have hf1 : wmF σ (wou s o (nI (16 * sSo S i + sNm S i))) := hf.o.n
    generalize hs1 : wou s o (nI (16 * sSo S i + sNm S i)) = s1 at *
    refine And.intro (fun q => ?_) (fun q => ?_)
    · have q : sSo S i = 1 := nI_inj' (by omega) (by decide) (show nI (sSo S i) = nI 1 from q)
      refine am_vO am_k188 am_h188 rfl rfl rfl rfl (m_out hJ1 (show o.1 + 1 < 400 by omega)) ?_
      refine am_vc_ok am_k188 [235] 100 ?_
      have hJ2 := hJ1.ps (v := i2b (g nx >>> 8))
      refine am_vO am_k188 am_h188 rfl rfl rfl rfl (m_out hJ2 (show o.1 + 1 + 1 < 400 by omega)) ?_
      refine am_vc_ok am_k188 [235] 100 ?_
      have K2 := fin _ hf1.o.n.o.n (by
        have e : wrH S i (g nx) o = wps (wps (wps o (nI (16 * sSo S i + sNm S i))) (i2b (g nx >>> 8))) (i2b (g nx)) := by
          unfold wrH
          rw [if_pos q]
        rw [e]
        exact hJ2.ps)
      rw [← nI_1 nx] at K2
      exact am_Gp [0, 1, 2, 3, 4, 5, 6, 7, 8, 9] rfl K2
    · have q : ¬ sSo S i = 1 := fun p => q (by rw [p]; rfl)
      refine am_vO am_k188 am_h188 rfl rfl rfl rfl (m_out hJ1 (show o.1 + 1 < 400 by omega)) ?_
      refine am_vc_ok am_k188 [235] 100 ?_
      have K2 := fin _ hf1.o.n (by
        have e : wrH S i (g nx) o = wps (wps o (nI (16 * sSo S i + sNm S i))) (i2b (g nx)) := by
          unfold wrH
          rw [if_neg q]
        rw [e]
        exact hJ1.ps)
      rw [← nI_1 nx] at K2
      exact am_Gp [0, 1, 2, 3, 4, 5, 6, 7, 8, 9] rfl K2
  unfold hiI at go
  refine And.intro (fun q => ?_) (fun q => ?_)
  · have q : sSo S i = 0 := nI_inj' (by omega) (by decide) (show nI (sSo S i) = nI 0 from q)
    exact go _ (by rw [if_pos q])
  have q0 : ¬ sSo S i = 0 := fun p => q (by rw [p]; rfl)
  refine And.intro (fun q => ?_) (fun q => ?_)
  · have q : sSo S i = 1 := nI_inj' (by omega) (by decide) (show nI (sSo S i) = nI 1 from q)
    exact go _ (by rw [if_neg q0, if_pos q])
  have q1 : ¬ sSo S i = 1 := fun p => q (by rw [p]; rfl)
  refine And.intro (fun q => ?_) (fun q => ?_)
  · have q : sSo S i = 2 := nI_inj' (by omega) (by decide) (show nI (sSo S i) = nI 2 from q)
    exact go _ (by rw [if_neg q0, if_neg q1, if_pos q])
  have q2 : ¬ sSo S i = 2 := fun p => q (by rw [p]; rfl)
  refine am_vO am_k188 am_h188 rfl rfl rfl rfl (p2) ?_
  refine am_vc_ok am_k188 [181, 235] 100 ?_
  exact go _ (by rw [if_neg q0, if_neg q1, if_neg q2])
end L61
