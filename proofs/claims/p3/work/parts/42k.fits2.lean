/-! CASES OF THE LAW: unlike, fits -/
section L28
variable {l : Launch} {σ σ2 : tI} {τ τ2 : tL} {t : Option (Nat × Nat)}
theorem Rshape.eqA {s k w : Nat} {S : aSh} (h : Rshape σ s S) (hk : k < sN S) (hw : w < 6) : σ (32 + w) (1 + s) k = mA σ s w k := by
  rw [h.item hk hw]
  exact (h.2.2.2.2.2.2 k w hk hw).symm
theorem Rshape.pr {s k : Nat} {S : aSh} (h : Rshape σ s S) (hk : k < sN S) : σ 37 (1 + s) k = -9 ↔ mA σ s 5 k < 0 := by
  have e : mA σ s 5 k = pI (sPr S k) := h.2.2.2.2.2.2 k 5 hk (by decide)
  rw [show σ 37 (1 + s) k = mA σ s 5 k from h.eqA (w := 5) hk (by decide), e]
  cases hp : sPr S k with
  | none => decide
  | some d =>
    have hd := ((h.1.2.1 k hk).2.2.2.2.2.2 d hp).1
    constructor
    · intro z; exact absurd z (n9_4 (by omega))
    · intro z; exact absurd z (nI_pos (by omega))
theorem Rshape.inV {s k v a : Nat} {S : aSh} (h : Rshape σ s S) (hk : k < sN S) (hv : v < 10) (ha : a < 16) : inP (σ 35 (1 + s)) (σ 36 (1 + s)) (σ 32 (1 + s)) (nI v) (nI a) k = true ↔ (sSi S k ≤ v ∧ v ≤ sTi S k) ∧ sNm S k = a := by
  obtain ⟨y1, -, -, y4, y5, -⟩ := h.2.2.2.2.1 k hk
  obtain ⟨z1, -, -, -, z5, z6, -⟩ := h.1.2.1 k hk
  show decide ((σ 35 (1 + s) k ≤ nI v ∧ nI v ≤ σ 36 (1 + s) k) ∧ σ 32 (1 + s) k = nI a) = true ↔ _
  rw [decide_eq_true_eq, y1, y4, y5, nI_leI (by omega) (by omega), nI_leI (by omega) (by omega)]
  constructor
  · rintro ⟨q1, q2⟩
    exact ⟨q1, nI_inj' (by omega) (by omega) q2⟩
  · rintro ⟨q1, q2⟩
    exact ⟨q1, by rw [q2]⟩
theorem Rshape.uniq {s k1 k2 v a : Nat} {S : aSh} (h : Rshape σ s S) (h1 : k1 < sN S) (h2 : k2 < sN S) (e1 : (sSi S k1 ≤ v ∧ v ≤ sTi S k1) ∧ sNm S k1 = a) (e2 : (sSi S k2 ≤ v ∧ v ≤ sTi S k2) ∧ sNm S k2 = a) : k1 = k2 := by
  refine Classical.byContradiction fun hne => ?_
  rcases h.1.2.2 k1 k2 h1 h2 hne (e1.2.trans e2.2.symm) with g | g <;> omega
theorem Rshape.idx {s v a : Nat} {S : aSh} (h : Rshape σ s S) (hv : v < 10) (ha : a < 16) : σ 38 (1 + s) (16 * v + a) = pI (lastM (inP (σ 35 (1 + s)) (σ 36 (1 + s)) (σ 32 (1 + s)) (nI v) (nI a)) (sN S)) := by
  obtain ⟨g1, g2⟩ := h.2.2.2.2.2.1 v a hv ha
  cases e : lastM (inP (σ 35 (1 + s)) (σ 36 (1 + s)) (σ 32 (1 + s)) (nI v) (nI a)) (sN S) with
  | none =>
    refine g2 (fun k hk z => lastM_none e k hk ((h.inV hk hv ha).mpr ⟨⟨z.2.1, z.2.2⟩, z.1⟩))
  | some k =>
    obtain ⟨hk, hp⟩ := lastM_some e
    obtain ⟨⟨q1, q2⟩, q3⟩ := (h.inV hk hv ha).mp hp
    exact g1 k hk q3 q1 q2
theorem Rshape.nmE {s a : Nat} {v : Int32} {S : aSh} (h : Rshape σ s S) : lastM (inP (σ 35 (1 + s)) (σ 36 (1 + s)) (σ 32 (1 + s)) v (nI a)) (sN S) = nmd σ s (sN S) v (nI a) := by
  refine lastM_cg (fun k hk => ?_)
  unfold inP
  rw [show σ 35 (1 + s) k = mA σ s 3 k from h.eqA (w := 3) hk (by decide), show σ 36 (1 + s) k = mA σ s 4 k from h.eqA (w := 4) hk (by decide), show σ 32 (1 + s) k = mA σ s 0 k from h.eqA (w := 0) hk (by decide)]
theorem Rshape.bad {s w v a : Nat} {S : aSh} (h : Rshape σ s S) (hw : w < 10) (hv : v < 10) (ha : a < 16) : nmB (ulV σ (1 + s) (nI w) (nI v) (sN S)) (σ 32 (1 + s)) (sN S) a = badA σ s (sN S) (nI w) (nI v) a := by
  have key : ∀ k, k < sN S → σ 32 (1 + s) k = nI a → ulX σ (1 + s) (nI w) (sN S) k = (match likeO (mA σ s 1) (mA σ s 1 k) (nmd σ s (sN S) (nI w) (nI a)) with | none => decide (mA σ s 5 k < 0) | some o => decide (mA σ s 1 o = 3) && decide (mA σ s 2 k < mA σ s 2 o)) := by
    intro k hk e
    unfold ulX
    rw [e, h.nmE]
    cases e1 : nmd σ s (sN S) (nI w) (nI a) with
    | none =>
      simp only [likeO]
      exact decide_eq_decide.mpr (h.pr hk)
    | some o =>
      have ho : o < sN S := nmd_lt e1
      have m1 : σ 33 (1 + s) o = mA σ s 1 o := h.eqA (w := 1) ho (by decide)
      have m2 : σ 33 (1 + s) k = mA σ s 1 k := h.eqA (w := 1) hk (by decide)
      simp only [likeO, m1, m2]
      by_cases y : mA σ s 1 o = mA σ s 1 k
      · simp only [if_pos y]
        have m3 : σ 34 (1 + s) k = mA σ s 2 k := h.eqA (w := 2) hk (by decide)
        have m4 : σ 34 (1 + s) o = mA σ s 2 o := h.eqA (w := 2) ho (by decide)
        rw [m3, m4]
        by_cases x : mA σ s 1 o = 3
        · simp [x]
        · have c1 : mA σ s 2 o = 0 := by
            have z := (h.1.2.1 o ho).2.2.2.1
            have e2 : mA σ s 2 o = nI (sCh S o) := h.2.2.2.2.2.2 o 2 ho (by decide)
            have e3 : mA σ s 1 o = nI (sSo S o) := h.2.2.2.2.2.2 o 1 ho (by decide)
            rw [e2, z (fun q => x (by rw [e3, q]; rfl))]
            rfl
          have c2 : mA σ s 2 k = nI (sCh S k) := h.2.2.2.2.2.2 k 2 hk (by decide)
          have c3 : ¬ mA σ s 2 k < mA σ s 2 o := by
            rw [c1, c2]
            have z : sCh S k ≤ 9 := by
              by_cases q : sSo S k = 3
              · exact ((h.1.2.1 k hk).2.2.1 q).2
              · rw [(h.1.2.1 k hk).2.2.2.1 q]; omega
            exact nI_pos (by omega)
          simp [x, c3]
      · simp only [if_neg y]
        exact decide_eq_decide.mpr (h.pr hk)
  unfold nmB badA badM
  cases e2 : nmd σ s (sN S) (nI v) (nI a) with
  | none =>
    refine decide_eq_false ?_
    rintro ⟨q, hq, hu, hn⟩
    rw [← h.nmE] at e2
    refine lastM_none e2 q hq ?_
    unfold ulV at hu
    rw [Bool.and_eq_true] at hu
    have z := hu.1
    unfold hasP at z
    unfold inP
    exact decide_eq_true ⟨of_decide_eq_true z, hn⟩
  | some q =>
    rw [← h.nmE] at e2
    obtain ⟨hq, hp⟩ := lastM_some e2
    have hp2 := (h.inV hq hv ha).mp hp
    have hp3 := of_decide_eq_true hp
    refine Eq.trans ?_ (key q hq hp3.2)
    have e3 : (∃ q, q < sN S ∧ ulV σ (1 + s) (nI w) (nI v) (sN S) q = true ∧ σ 32 (1 + s) q = nI a) ↔ ulX σ (1 + s) (nI w) (sN S) q = true := by
      constructor
      · rintro ⟨q2, h2, hu, hn⟩
        unfold ulV at hu
        rw [Bool.and_eq_true] at hu
        have z : inP (σ 35 (1 + s)) (σ 36 (1 + s)) (σ 32 (1 + s)) (nI v) (nI a) q2 = true := by
          unfold inP
          exact decide_eq_true ⟨of_decide_eq_true hu.1, hn⟩
        have e4 := h.uniq h2 hq ((h.inV h2 hv ha).mp z) hp2
        subst e4
        exact hu.2
      · intro hu
        refine ⟨q, hq, ?_, hp3.2⟩
        unfold ulV hasP
        rw [hu, decide_eq_true hp3.1]
        rfl
    rw [decide_eq_decide.mpr e3]
    by_cases hc : ulX σ (1 + s) (nI w) (sN S) q = true
    · exact (decide_eq_true hc).trans hc.symm
    · exact (decide_eq_false hc).trans (Bool.eq_false_iff.mpr hc).symm
theorem LC_unlike (h : Rall σ τ) (s w v : Int32) : LC l 110 195 [aI s, aI w, aI v] σ τ t := by
  have e10 : ∀ x : Int32, (0 ≤ x ∧ x ≤ 9) ↔ (0 ≤ x ∧ x < 10) := fun x => leN (n := 10) (N := 10) (by decide) (by decide)
  by_cases hs : 0 ≤ s ∧ s < 4
  · by_cases hw : 0 ≤ w ∧ w < 10
    · by_cases hv : 0 ≤ v ∧ v < 10
      · obtain ⟨q, hq, rfl⟩ := ix_lt (n := 4) (by decide) hs
        rcases h.2.2.1 q hq with ⟨z1, z2⟩ | ⟨S, hS⟩
        · exact LC.of (x_unlike_ref (x_refVer_none hq hw hv z1) (by decide)) (m_unlike_none hq ((e10 w).mpr hw) ((e10 v).mpr hv) (by show σ 49 0 q < 0; rw [z2]; decide)) (h.find (by decide))
        · obtain ⟨w1, w2, w3, w4, w5, -⟩ := id hS
          obtain ⟨w', hw', rfl⟩ := ix_lt (n := 10) (by decide) hw
          obtain ⟨v', hv', rfl⟩ := ix_lt (n := 10) (by decide) hv
          refine am_T.mono (x_unlike hq hw' hv' (by rw [w2]; decide) w3 w1.1 (fun k hk => ⟨sNm S k, (w1.2.1 k hk).1, (w5 k hk).1⟩) (fun b hb => hS.idx hw' hb)) ?_
          rintro r s2 τ2 t2 ⟨rfl, rfl, rfl, rfl⟩
          refine ⟨rfl, (m_unlike hq ((e10 _).mpr hw) ((e10 _).mpr hv) w4 w1.1).T ⟨?_, h⟩⟩
          rw [fstI_cg 16 0 (fun b _ hb => hS.bad hw' hv' (by omega))]
      · exact LC.of (x_unlike_ref (x_refVer_bad (Or.inr (Or.inr hv))) (by decide)) (m_unlike_bad (Or.inr (Or.inr (fun z => hv ((e10 v).mp z))))) h
    · exact LC.of (x_unlike_ref (x_refVer_bad (Or.inr (Or.inl hw))) (by decide)) (m_unlike_bad (Or.inr (Or.inl (fun z => hw ((e10 w).mp z))))) h
  · exact LC.of (x_unlike_ref (x_refVer_bad (Or.inl hs)) (by decide)) (m_unlike_bad (Or.inl (not4 hs))) h
theorem LC_fits (h : Rall σ τ) (s w v : Int32) : LC l 109 196 [aI s, aI w, aI v] σ τ t := by
  have e10 : ∀ x : Int32, (0 ≤ x ∧ x ≤ 9) ↔ (0 ≤ x ∧ x < 10) := fun x => leN (n := 10) (N := 10) (by decide) (by decide)
  by_cases hs : 0 ≤ s ∧ s < 4
  · by_cases hw : 0 ≤ w ∧ w < 10
    · by_cases hv : 0 ≤ v ∧ v < 10
      · obtain ⟨q, hq, rfl⟩ := ix_lt (n := 4) (by decide) hs
        rcases h.2.2.1 q hq with ⟨z1, z2⟩ | ⟨S, hS⟩
        · exact LC.of (x_fits_ref (x_refVer_none hq hw hv z1) (by decide)) (m_fits_ref (m_unlike_none hq ((e10 w).mpr hw) ((e10 v).mpr hv) (by show σ 49 0 q < 0; rw [z2]; decide)) (by decide) (by decide)) (h.find (by decide))
        · obtain ⟨w1, w2, w3, w4, w5, -⟩ := id hS
          obtain ⟨w', hw', rfl⟩ := ix_lt (n := 10) (by decide) hw
          obtain ⟨v', hv', rfl⟩ := ix_lt (n := 10) (by decide) hv
          refine am_T.mono (x_fits hq hw' hv' (by rw [w2]; decide) w3 w1.1 (fun k hk => ⟨sNm S k, (w1.2.1 k hk).1, (w5 k hk).1⟩) (fun b hb => hS.idx hw' hb)) ?_
          rintro r s2 τ2 t2 ⟨rfl, rfl, rfl, rfl⟩
          refine ⟨rfl, (m_fits hq ((e10 _).mpr hw) ((e10 _).mpr hv) w4 w1.1).T ⟨?_, h⟩⟩
          rw [fstI_cg 16 0 (fun b _ hb => hS.bad hw' hv' (by omega))]
      · exact LC.of (x_fits_ref (x_refVer_bad (Or.inr (Or.inr hv))) (by decide)) (m_fits_ref (m_unlike_bad (Or.inr (Or.inr (fun z => hv ((e10 v).mp z))))) (by decide) (by decide)) h
    · exact LC.of (x_fits_ref (x_refVer_bad (Or.inr (Or.inl hw))) (by decide)) (m_fits_ref (m_unlike_bad (Or.inr (Or.inl (fun z => hw ((e10 w).mp z))))) (by decide) (by decide)) h
  · exact LC.of (x_fits_ref (x_refVer_bad (Or.inl hs)) (by decide)) (m_fits_ref (m_unlike_bad (Or.inl (not4 hs))) (by decide) (by decide)) h
end L28
