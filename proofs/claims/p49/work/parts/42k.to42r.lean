/-! CASES OF THE LAW: unlike, fits -/
section L28
variable {l : Launch} {σ σ2 : tI} {τ τ2 : tL} {t : Option (Nat × Nat)}
theorem Rshape.eqA {s k w : Nat} {S : aSh} (h : Rshape σ s S) (hk : k < sN S) (hw : w < 6) : σ (32 + w) (1 + s) k = mA σ s w k := by
  rw [h.item hk hw]
  exact (h.2.2.2.2.2.2 k w hk hw).symm
theorem Rshape.pr {s k : Nat} {S : aSh} (h : Rshape σ s S) (hk : k < sN S) : σ 37 (1 + s) k = -9 ↔ mA σ s 5 k < 0 := by
  have e : mA σ s 5 k = pI (sPr S k) := h.2.2.2.2.2.2 k 5 hk (by decide)
  rw [show σ 37 (1 + s) k = mA σ s 5 k from h.eqA (w := 5) hk (by decide), e]
  cases hp : sPr S k with
  | none => decide
  | some d =>
    have hd := ((h.1.2.1 k hk).2.2.2.2.2.2 d hp).1
    constructor
    · intro z; exact absurd z (n9_4 (by omega))
    · intro z; exact absurd z (nI_pos (by omega))
theorem Rshape.inV {s k v a : Nat} {S : aSh} (h : Rshape σ s S) (hk : k < sN S) (hv : v < 10) (ha : a < 16) : inP (σ 35 (1 + s)) (σ 36 (1 + s)) (σ 32 (1 + s)) (nI v) (nI a) k = true ↔ (sSi S k ≤ v ∧ v ≤ sTi S k) ∧ sNm S k = a := by
  obtain ⟨y1, -, -, y4, y5, -⟩ := h.2.2.2.2.1 k hk
  obtain ⟨z1, -, -, -, z5, z6, -⟩ := h.1.2.1 k hk
  show decide ((σ 35 (1 + s) k ≤ nI v ∧ nI v ≤ σ 36 (1 + s) k) ∧ σ 32 (1 + s) k = nI a) = true ↔ _
  rw [decide_eq_true_eq, y1, y4, y5, nI_leI (by omega) (by omega), nI_leI (by omega) (by omega)]
  constructor
  · rintro ⟨q1, q2⟩
    exact ⟨q1, nI_inj' (by omega) (by omega) q2⟩
  · rintro ⟨q1, q2⟩
    exact ⟨q1, by rw [q2]⟩
theorem Rshape.uniq {s k1 k2 v a : Nat} {S : aSh} (h : Rshape σ s S) (h1 : k1 < sN S) (h2 : k2 < sN S) (e1 : (sSi S k1 ≤ v ∧ v ≤ sTi S k1) ∧ sNm S k1 = a) (e2 : (sSi S k2 ≤ v ∧ v ≤ sTi S k2) ∧ sNm S k2 = a) : k1 = k2 := by
  refine Classical.byContradiction fun hne => ?_
  rcases h.1.2.2 k1 k2 h1 h2 hne (e1.2.trans e2.2.symm) with g | g <;> omega
theorem Rshape.idx {s v a : Nat} {S : aSh} (h : Rshape σ s S) (hv : v < 10) (ha : a < 16) : σ 38 (1 + s) (16 * v + a) = pI (lastM (inP (σ 35 (1 + s)) (σ 36 (1 + s)) (σ 32 (1 + s)) (nI v) (nI a)) (sN S)) := by
  obtain ⟨g1, g2⟩ := h.2.2.2.2.2.1 v a hv ha
  cases e : lastM (inP (σ 35 (1 + s)) (σ 36 (1 + s)) (σ 32 (1 + s)) (nI v) (nI a)) (sN S) with
  | none =>
    refine g2 (fun k hk z => lastM_none e k hk ((h.inV hk hv ha).mpr ⟨⟨z.2.1, z.2.2⟩, z.1⟩))
  | some k =>
    obtain ⟨hk, hp⟩ := lastM_some e
    obtain ⟨⟨q1, q2⟩, q3⟩ := (h.inV hk hv ha).mp hp
    exact g1 k hk q3 q1 q2
theorem Rshape.nmE {s a : Nat} {v : Int32} {S : aSh} (h : Rshape σ s S) : lastM (inP (σ 35 (1 + s)) (σ 36 (1 + s)) (σ 32 (1 + s)) v (nI a)) (sN S) = nmd σ s (sN S) v (nI a) := by
  refine lastM_cg (fun k hk => ?_)
  unfold inP
  rw [show σ 35 (1 + s) k = mA σ s 3 k from h.eqA (w := 3) hk (by decide), show σ 36 (1 + s) k = mA σ s 4 k from h.eqA (w := 4) hk (by decide), show σ 32 (1 + s) k = mA σ s 0 k from h.eqA (w := 0) hk (by decide)]
theorem Rshape.bad {s w v a : Nat} {S : aSh} (h : Rshape σ s S) (hw : w < 10) (hv : v < 10) (ha : a < 16) : nmB (ulV σ (1 + s) (nI w) (nI v) (sN S)) (σ 32 (1 + s)) (sN S) a = badA σ s (sN S) (nI w) (nI v) a := by
  have key : ∀ k, k < sN S → σ 32 (1 + s) k = nI a → ulX σ (1 + s) (nI w) (sN S) k = (match likeO (mA σ s 1) (mA σ s 1 k) (nmd σ s (sN S) (nI w) (nI a)) with | none => decide (mA σ s 5 k < 0) | some o => decide (mA σ s 1 o = 3) && decide (mA σ s 2 k < mA σ s 2 o)) := by
    intro k hk e
    unfold ulX
    rw [e, h.nmE]
    cases e1 : nmd σ s (sN S) (nI w) (nI a) with
    | none =>
      simp only [likeO]
      exact decide_eq_decide.mpr (h.pr hk)
    | some o =>
      have ho : o < sN S := nmd_lt e1
      have m1 : σ 33 (1 + s) o = mA σ s 1 o := h.eqA (w := 1) ho (by decide)
      have m2 : σ 33 (1 + s) k = mA σ s 1 k := h.eqA (w := 1) hk (by decide)
      simp only [likeO, m1, m2]
      by_cases y : mA σ s 1 o = mA σ s 1 k
      · simp only [if_pos y]
        have m3 : σ 34 (1 + s) k = mA σ s 2 k := h.eqA (w := 2) hk (by decide)
        have m4 : σ 34 (1 + s) o = mA σ s 2 o := h.eqA (w := 2) ho (by decide)
        rw [m3, m4]
        by_cases x : mA σ s 1 o = 3
        · simp [x]
        · have c1 : mA σ s 2 o = 0 := by
            have z := (h.1.2.1 o ho).2.2.2.1
            have e2 : mA σ s 2 o = nI (sCh S o) := h.2.2.2.2.2.2 o 2 ho (by decide)
            have e3 : mA σ s 1 o = nI (sSo S o) := h.2.2.2.2.2.2 o 1 ho (by decide)
            rw [e2, z (fun q => x (by rw [e3, q]; rfl))]
            rfl
          have c2 : mA σ s 2 k = nI (sCh S k) := h.2.2.2.2.2.2 k 2 hk (by decide)
          have c3 : ¬ mA σ s 2 k < mA σ s 2 o := by
            rw [c1, c2]
            have z : sCh S k ≤ 9 := by
              by_cases q : sSo S k = 3
              · exact ((h.1.2.1 k hk).2.2.1 q).2
              · rw [(h.1.2.1 k hk).2.2.2.1 q]; omega
            exact nI_pos (by omega)
          simp [x, c3]
      · simp only [if_neg y]
        exact decide_eq_decide.mpr (h.pr hk)
  unfold nmB badA badM
  cases e2 : nmd σ s (sN S) (nI v) (nI a) with
  | none =>
    refine decide_eq_false ?_
    rintro ⟨q, hq, hu, hn⟩
    rw [← h.nmE] at e2
    refine lastM_none e2 q hq ?_
    unfold ulV at hu
    rw [Bool.and_eq_true] at hu
    have z := hu.1
    unfold hasP at z
    unfold inP
    exact decide_eq_true ⟨of_decide_eq_true z, hn⟩
  | some q =>
    rw [← h.nmE] at e2
    obtain ⟨hq, hp⟩ := lastM_some e2
    have hp2 := (h.inV hq hv ha).mp hp
    have hp3 := of_decide_eq_true hp
    refine Eq.trans ?_ (key q hq hp3.2)
    have e3 : (∃ q, q < sN S ∧ ulV σ (1 + s) (nI w) (nI v) (sN S) q = true ∧ σ 32 (1 + s) q = nI a) ↔ ulX σ (1 + s) (nI w) (sN S) q = true := by
      constructor
      · rintro ⟨q2, h2, hu, hn⟩
        unfold ulV at hu
        rw [Bool.and_eq_true] at hu
        have z : inP (σ 35 (1 + s)) (σ 36 (1 + s)) (σ 32 (1 + s)) (nI v) (nI a) q2 = true := by
          unfold inP
          exact decide_eq_true ⟨of_decide_eq_true hu.1, hn⟩
        have e4 := h.uniq h2 hq ((h.inV h2 hv ha).mp z) hp2
        subst e4
        exact hu.2
      · intro hu
        refine ⟨q, hq, ?_, hp3.2⟩
        unfold ulV hasP
        rw [hu, decide_eq_true hp3.1]
        rfl
    rw [decide_eq_decide.mpr e3]
    by_cases hc : ulX σ (1 + s) (nI w) (sN S) q = true
    · exact (decide_eq_true hc).trans hc.symm
    · exact (decide_eq_false hc).trans (Bool.eq_false_iff.mpr hc).symm
theorem LC_unlike (h : Rall σ τ) (s w v : Int32) : LC l 110 195 [aI s, aI w, aI v] σ τ t := by
  have e10 : ∀ x : Int32, (0 ≤ x ∧ x ≤ 9) ↔ (0 ≤ x ∧ x < 10) := fun x => leN (n := 10) (N := 10) (by decide) (by decide)
  by_cases hs : 0 ≤ s ∧ s < 4
  · by_cases hw : 0 ≤ w ∧ w < 10
    · by_cases hv : 0 ≤ v ∧ v < 10
      · obtain ⟨q, hq, rfl⟩ := ix_lt (n := 4) (by decide) hs
        rcases h.2.2.1 q hq with ⟨z1, z2⟩ | ⟨S, hS⟩
        · exact LC.of (x_unlike_ref (x_refVer_none hq hw hv z1) (by decide)) (m_unlike_none hq ((e10 w).mpr hw) ((e10 v).mpr hv) (by show σ 49 0 q < 0; rw [z2]; decide)) (h.find (by decide))
        · obtain ⟨w1, w2, w3, w4, w5, -⟩ := id hS
          obtain ⟨w', hw', rfl⟩ := ix_lt (n := 10) (by decide) hw
          obtain ⟨v', hv', rfl⟩ := ix_lt (n := 10) (by decide) hv
          refine am_T.mono (x_unlike hq hw' hv' (by rw [w2]; decide) w3 w1.1 (fun k hk => ⟨sNm S k, (w1.2.1 k hk).1, (w5 k hk).1⟩) (fun b hb => hS.idx hw' hb)) ?_
          rintro r s2 τ2 t2 ⟨rfl, rfl, rfl, rfl⟩
          refine ⟨rfl, (m_unlike hq ((e10 _).mpr hw) ((e10 _).mpr hv) w4 w1.1).T ⟨?_, h⟩⟩
          rw [fstI_cg 16 0 (fun b _ hb => hS.bad hw' hv' (by omega))]
      · exact LC.of (x_unlike_ref (x_refVer_bad (Or.inr (Or.inr hv))) (by decide)) (m_unlike_bad (Or.inr (Or.inr (fun z => hv ((e10 v).mp z))))) h
    · exact LC.of (x_unlike_ref (x_refVer_bad (Or.inr (Or.inl hw))) (by decide)) (m_unlike_bad (Or.inr (Or.inl (fun z => hw ((e10 w).mp z))))) h
  · exact LC.of (x_unlike_ref (x_refVer_bad (Or.inl hs)) (by decide)) (m_unlike_bad (Or.inl (not4 hs))) h
theorem LC_fits (h : Rall σ τ) (s w v : Int32) : LC l 109 196 [aI s, aI w, aI v] σ τ t := by
  have e10 : ∀ x : Int32, (0 ≤ x ∧ x ≤ 9) ↔ (0 ≤ x ∧ x < 10) := fun x => leN (n := 10) (N := 10) (by decide) (by decide)
  by_cases hs : 0 ≤ s ∧ s < 4
  · by_cases hw : 0 ≤ w ∧ w < 10
    · by_cases hv : 0 ≤ v ∧ v < 10
      · obtain ⟨q, hq, rfl⟩ := ix_lt (n := 4) (by decide) hs
        rcases h.2.2.1 q hq with ⟨z1, z2⟩ | ⟨S, hS⟩
        · exact LC.of (x_fits_ref (x_refVer_none hq hw hv z1) (by decide)) (m_fits_ref (m_unlike_none hq ((e10 w).mpr hw) ((e10 v).mpr hv) (by show σ 49 0 q < 0; rw [z2]; decide)) (by decide) (by decide)) (h.find (by decide))
        · obtain ⟨w1, w2, w3, w4, w5, -⟩ := id hS
          obtain ⟨w', hw', rfl⟩ := ix_lt (n := 10) (by decide) hw
          obtain ⟨v', hv', rfl⟩ := ix_lt (n := 10) (by decide) hv
          refine am_T.mono (x_fits hq hw' hv' (by rw [w2]; decide) w3 w1.1 (fun k hk => ⟨sNm S k, (w1.2.1 k hk).1, (w5 k hk).1⟩) (fun b hb => hS.idx hw' hb)) ?_
          rintro r s2 τ2 t2 ⟨rfl, rfl, rfl, rfl⟩
          refine ⟨rfl, (m_fits hq ((e10 _).mpr hw) ((e10 _).mpr hv) w4 w1.1).T ⟨?_, h⟩⟩
          rw [fstI_cg 16 0 (fun b _ hb => hS.bad hw' hv' (by omega))]
      · exact LC.of (x_fits_ref (x_refVer_bad (Or.inr (Or.inr hv))) (by decide)) (m_fits_ref (m_unlike_bad (Or.inr (Or.inr (fun z => hv ((e10 v).mp z))))) (by decide) (by decide)) h
    · exact LC.of (x_fits_ref (x_refVer_bad (Or.inr (Or.inl hw))) (by decide)) (m_fits_ref (m_unlike_bad (Or.inr (Or.inl (fun z => hw ((e10 w).mp z))))) (by decide) (by decide)) h
  · exact LC.of (x_fits_ref (x_refVer_bad (Or.inl hs)) (by decide)) (m_fits_ref (m_unlike_bad (Or.inl (not4 hs))) (by decide) (by decide)) h
end L28

/-! pairs that fit: both sides -/
section L29
variable {l : Launch} {σ σ2 : tI} {τ τ2 : tL} {t : Option (Nat × Nat)}
abbrev fitP (σ : tI) (s n : Nat) (x y : Int32) : Prop := fstI (badA σ s n x y) 16 0 = -9 ∧ fstI (badA σ s n y x) 16 0 = -9
abbrev okP (σ : tI) (d x y : Int32) : Prop := d = -9 ∨ fitP σ d.toNatClampNeg (σ 49 0 d.toNatClampNeg).toNatClampNeg x y
abbrev verI (σ : tI) (set : Int32) (a : Nat) : Int32 := if (set >>> (nI a &&& 31)) &&& 1 = 1 then σ 58 0 a else σ 57 0 a
theorem okP_n {s n : Nat} {x y : Int32} (hs : s < 4) (hn : σ 49 0 s = nI n) (hn2 : n ≤ 12) : okP σ (nI s) x y ↔ fitP σ s n x y := by
  unfold okP
  rw [nI_clamp (n := s) (by omega), hn, nI_clamp (n := n) (by omega)]
  exact ⟨fun h => h.elim (fun z => absurd z (n9_4 (by omega))) id, Or.inr⟩
theorem div6 : ∀ k, k < 36 → nI k / 6 = nI (k / 6) ∧ nI k - nI k / 6 * 6 = nI (k % 6) := by decide +kernel
theorem m_versionIn {a : Nat} {set : Int32} (ha : a < 6) : am_D l 199 [aR 12 0, aI (nI a), aI set] σ τ (rX t) cX lX (some (aI (verI σ set a))) σ τ (rX t) := by
  refine am_D_of am_o199 am_l199 rfl ?_
  refine am_vc_ok am_k199 [] 100 ?_
  refine am_vS am_k199 am_h199 rfl rfl rfl rfl (m_has) ?_
  refine am_vc_ok am_k199 [] 100 ?_
  refine And.intro (fun e => ?_) (fun e => ?_)
  · have e := bI_0.mp e
    refine And.intro (vp_in_nI (N := 6) ha (by decide)) ?_
    rw [nI_clamp (n := a) (by omega)]
    refine am_vI am_k199 am_r199 rfl ⟨by unfold verI; rw [if_neg e], rfl, rfl, rfl, rfl, rfl⟩
  · have e := bI_1.mp e
    refine And.intro (vp_in_nI (N := 6) ha (by decide)) ?_
    rw [nI_clamp (n := a) (by omega)]
    refine am_vI am_k199 am_r199 rfl ⟨by unfold verI; rw [if_pos e], rfl, rfl, rfl, rfl, rfl⟩
theorem m_isPair {k : Nat} {set : Int32} (hk : k < 36) (hd : σ 59 0 k = -9 ∨ ∃ s n, s < 4 ∧ σ 59 0 k = nI s ∧ σ 49 0 s = nI n ∧ n ≤ 12) : am_D l 200 [aR 12 0, aI (nI k), aI set] σ τ (rX t) cX lX (some (aI (bI (okP σ (σ 59 0 k) (verI σ set (k / 6)) (verI σ set (k % 6)))))) σ τ (rX t) := by
  rcases hd with hd | ⟨s, n, hs, hd, hn, hn2⟩
  · rw [bI_t (Or.inl hd)]
    refine am_D_of am_o200 am_l200 rfl ?_
    refine am_vc_ok am_k200 [] 100 ?_
    refine And.intro (vp_in_nI (N := 36) hk (by decide)) ?_
    rw [nI_clamp (n := k) (by omega), hd]
    refine And.intro (by decide) ?_
    rw [(div6 k hk).1]
    refine am_vO am_k200 am_h200 rfl rfl rfl rfl (m_versionIn (a := k / 6) (by omega)) ?_
    refine am_vc_ok am_k200 [] 100 ?_
    refine And.intro (by decide) ?_
    rw [(div6 k hk).2]
    refine am_vO am_k200 am_h200 rfl rfl rfl rfl (m_versionIn (a := k % 6) (by omega)) ?_
    refine am_vc_ok am_k200 [] 100 ?_
    refine And.intro (fun _ => ?_) (fun g => absurd rfl g)
    exact am_vZ am_k200 am_r200 rfl (Or.inr rfl) ⟨rfl, rfl, rfl, rfl, rfl, rfl⟩
  · have e9 : ¬ nI s = -9 := n9_4 (by omega)
    have hiff := okP_n (σ := σ) (x := verI σ set (k / 6)) (y := verI σ set (k % 6)) hs hn hn2
    rw [hd]
    refine am_D_of am_o200 am_l200 rfl ?_
    refine am_vc_ok am_k200 [] 100 ?_
    refine And.intro (vp_in_nI (N := 36) hk (by decide)) ?_
    rw [nI_clamp (n := k) (by omega), hd]
    refine And.intro (by decide) ?_
    rw [(div6 k hk).1]
    refine am_vO am_k200 am_h200 rfl rfl rfl rfl (m_versionIn (a := k / 6) (by omega)) ?_
    refine am_vc_ok am_k200 [] 100 ?_
    refine And.intro (by decide) ?_
    rw [(div6 k hk).2]
    refine am_vO am_k200 am_h200 rfl rfl rfl rfl (m_versionIn (a := k % 6) (by omega)) ?_
    refine am_vc_ok am_k200 [] 100 ?_
    refine And.intro (fun g => absurd g e9) (fun _ => ?_)
    refine am_vO am_k200 am_h200 rfl rfl rfl rfl (m_unlikeName hs hn hn2) ?_
    refine am_vc_ok am_k200 [] 100 ?_
    refine And.intro (fun y => ?_) (fun y => ?_)
    · have y : fstI (badA σ s n (verI σ set (k / 6)) (verI σ set (k % 6))) 16 0 = -9 := y
      refine am_vO am_k200 am_h200 rfl rfl rfl rfl (m_unlikeName hs hn hn2) ?_
      refine am_vc_ok am_k200 [] 100 ?_
      refine And.intro (fun z => ?_) (fun z => ?_)
      · have z : fstI (badA σ s n (verI σ set (k % 6)) (verI σ set (k / 6))) 16 0 = -9 := z
        refine am_vZ am_k200 am_r200 rfl (Or.inr rfl) ⟨by rw [bI_t (hiff.mpr ⟨y, z⟩)], rfl, rfl, rfl, rfl, rfl⟩
      · have z : ¬ fstI (badA σ s n (verI σ set (k % 6)) (verI σ set (k / 6))) 16 0 = -9 := z
        refine am_vZ am_k200 am_r200 rfl (Or.inl rfl) ⟨by rw [bI_f (fun q => z (hiff.mp q).2)], rfl, rfl, rfl, rfl, rfl⟩
    · have y : ¬ fstI (badA σ s n (verI σ set (k / 6)) (verI σ set (k % 6))) 16 0 = -9 := y
      refine am_vZ am_k200 am_r200 rfl (Or.inl rfl) ⟨by rw [bI_f (fun q => y (hiff.mp q).1)], rfl, rfl, rfl, rfl, rfl⟩
theorem x_bothFit {s x y : Nat} {S : aSh} (hS : Rshape σ s S) (hx : x < 10) (hy : y < 10) : am_T l 86 [aR 9 (1 + s), aI (nI x), aI (nI y)] σ τ t (fun r s2 τ2 t2 => r = some (aI (bI (fitP σ s (sN S) (nI x) (nI y)))) ∧ s2 = σ ∧ τ2 = τ ∧ t2 = t) := by
  obtain ⟨w1, w2, w3, w4, w5, -⟩ := id hS
  have hX : ∀ k, k < sN S → ∃ b, b < 16 ∧ σ 32 (1 + s) k = nI b := fun k hk => ⟨sNm S k, (w1.2.1 k hk).1, (w5 k hk).1⟩
  have e1 : fstI (nmB (ulV σ (1 + s) (nI x) (nI y) (sN S)) (σ 32 (1 + s)) (sN S)) 16 0 = fstI (badA σ s (sN S) (nI x) (nI y)) 16 0 := fstI_cg 16 0 (fun b _ hb => hS.bad hx hy (by omega))
  have e2 : fstI (nmB (ulV σ (1 + s) (nI y) (nI x) (sN S)) (σ 32 (1 + s)) (sN S)) 16 0 = fstI (badA σ s (sN S) (nI y) (nI x)) 16 0 := fstI_cg 16 0 (fun b _ hb => hS.bad hy hx (by omega))
  refine am_T_of am_o86 am_l86 rfl ?_
  refine am_vc_ok am_k86 [] 100 ?_
  refine am_vOT am_k86 am_h86 rfl rfl rfl rfl (x_unlikeNames (i := 1 + s) (w := x) (v := y) hx w3 w1.1 hX (fun b hb => hS.idx hx hb)) ?_
  rintro r s2 τ2 t2 ⟨⟨acc, rfl, hJ⟩, rfl, rfl, rfl⟩
  have j1 := hJ.z0 hX
  rw [e1] at j1
  refine am_vc_ok am_k86 [] 100 ?_
  refine And.intro (fun g => ?_) (fun g => ?_)
  · have g : acc = 0 := g
    refine am_vOT am_k86 am_h86 rfl rfl rfl rfl (x_unlikeNames (i := 1 + s) (w := y) (v := x) hy w3 w1.1 hX (fun b hb => hS.idx hy hb)) ?_
    rintro r s2 τ2 t2 ⟨⟨acc2, rfl, hJ2⟩, rfl, rfl, rfl⟩
    have j2 := hJ2.z0 hX
    rw [e2] at j2
    refine am_vc_ok am_k86 [] 100 ?_
    refine And.intro (fun g2 => ?_) (fun g2 => ?_)
    · have g2 : acc2 = 0 := g2
      refine am_vZ am_k86 am_r86 rfl (Or.inr rfl) ⟨_, rfl, rfl, rfl, by rw [bI_t ⟨j1.mp g, j2.mp g2⟩], rfl, rfl, rfl⟩
    · have g2 : ¬ acc2 = 0 := g2
      refine am_vZ am_k86 am_r86 rfl (Or.inl rfl) ⟨_, rfl, rfl, rfl, by rw [bI_f (fun q => g2 (j2.mpr q.2))], rfl, rfl, rfl⟩
  · have g : ¬ acc = 0 := g
    refine am_vZ am_k86 am_r86 rfl (Or.inl rfl) ⟨_, rfl, rfl, rfl, by rw [bI_f (fun q => g (j1.mpr q.1))], rfl, rfl, rfl⟩
end L29

/-! CASES OF THE LAW: clash -/
section L30a
variable {l : Launch} {y : Nat} {Q : tQ} {u w pc : Nat} {ls ls2 : am_ls} {st : List am_V} {σ : tI} {τ : tL} {ρ : tR} {cn : tN} {ln : tM}
theorem am_Vl_mem : ∀ {ls : am_ls}, am_Vl cn ls ↔ ∀ q ∈ ls, am_VO cn q.2
  | [] => ⟨fun _ q hq => absurd hq List.not_mem_nil, fun _ => trivial⟩
  | p :: r => by
    constructor
    · intro h q hq
      rcases List.mem_cons.mp hq with rfl | hq
      · exact h.1
      · exact am_Vl_mem.mp h.2 q hq
    · intro h
      exact ⟨h p List.mem_cons_self, am_Vl_mem.mpr (fun q hq => h q (List.mem_cons_of_mem _ hq))⟩
/-- fewer locals, in another order -/
theorem am_Gp (is : List Nat) (h : is.filterMap (fun i => ls[i]?) = ls2) (K : am_G l y Q u w pc ls2 st σ τ ρ cn ln) : am_G l y Q u w pc ls st σ τ ρ cn ln := by
  have hm : ∀ q ∈ ls2, q ∈ ls := by
    intro q hq
    rw [← h] at hq
    obtain ⟨i, -, hi⟩ := List.mem_filterMap.mp hq
    exact List.mem_of_getElem? hi
  intro p e s m args below meth cc D ca ad0 L0 A ad L H locs lsA hX hL hY hS hl hVl hV
  refine K p e s m args below meth cc D ca ad0 L0 A ad L H locs lsA hX hL hY hS ⟨hl.1, hl.2.1, fun q hq => ?_⟩ (am_Vl_mem.mpr fun q hq => am_Vl_mem.mp hVl q (hm q hq)) hV
  obtain ⟨q0, h1, rfl⟩ := List.mem_map.mp hq
  exact hl.2.2 _ (List.mem_map.mpr ⟨q0, hm q0 h1, rfl⟩)
end L30a
section L30
variable {l : Launch} {σ σ2 : tI} {τ τ2 : tL} {t : Option (Nat × Nat)}
/-- the first k below n with p -/
def firstM (p : Nat → Bool) : Nat → Int32
  | 0 => -9
  | n + 1 => if p n = true ∧ cntN p n = 0 then nI n else firstM p n
theorem firstM_y {p : Nat → Bool} {k : Nat} (h : p k = true) (h2 : cntN p k = 0) : firstM p (k + 1) = nI k := by rw [firstM, if_pos ⟨h, h2⟩]
theorem firstM_n {p : Nat → Bool} {k : Nat} (h : ¬ p k = true ∨ ¬ cntN p k = 0) : firstM p (k + 1) = firstM p k := by
  rw [firstM, if_neg]
  rintro ⟨h1, h2⟩
  rcases h with h | h
  · exact h h1
  · exact h h2
def clP (σ : tI) : Nat → Bool := fun k => !decide (okP σ (σ 59 0 k) (σ 57 0 (k / 6)) (σ 57 0 (k % 6)))
def DrOK (σ : tI) : Prop := ∀ k, k < 36 → σ 59 0 k = -9 ∨ ∃ s n, s < 4 ∧ σ 59 0 k = nI s ∧ σ 49 0 s = nI n ∧ n ≤ 12
theorem verI_0 {a : Nat} (ha : a < 6) : verI σ 0 a = σ 57 0 a := by
  have h : ∀ a, a < 6 → ¬ ((0 : Int32) >>> (nI a &&& 31)) &&& 1 = 1 := by decide +kernel
  unfold verI
  rw [if_neg (h a ha)]
theorem cnt0 {c : Nat} (h : c ≤ 36) : nI c = 0 ↔ c = 0 := by
  constructor
  · intro e
    exact nI_inj' (by omega) (by decide) (show nI c = nI 0 from e)
  · rintro rfl; rfl
theorem m_clash_lp {Q : tQ} (hD : DrOK σ) (K : am_G l 202 Q 0 0 41 [(3, aI (nI 36)), (2, aI (firstM (clP σ) 36)), (1, aI (nI (cntN (clP σ) 36))), (0, aR 12 0)] [] σ τ (rX t) cX lX) : ∀ (d k : Nat), k + d = 36 → am_G l 202 Q 0 0 7 [(3, aI (nI k)), (2, aI (firstM (clP σ) k)), (1, aI (nI (cntN (clP σ) k))), (0, aR 12 0)] [] σ τ (rX t) cX lX
  | 0, k, h => by
    obtain rfl : k = 36 := by omega
    refine am_vc_ok am_k202 [7, 41] 100 ?_
    exact And.intro (fun _ => K) (fun h1 => absurd (show (36 : Int32) ≤ nI 36 by decide) h1)
  | d + 1, k, h => by
    have K2 := m_clash_lp hD K d (k + 1) (by omega)
    have hc : cntN (clP σ) k ≤ k := cntN_le
    refine am_vc_ok am_k202 [7, 41] 100 ?_
    refine And.intro (fun h1 => absurd h1 (nI_ge (b := 36) (by omega) (by decide))) (fun _ => ?_)
    refine am_vO am_k202 am_h202 rfl rfl rfl rfl (m_isPair (set := 0) (by omega) (hD k (by omega))) ?_
    refine am_vc_ok am_k202 [7, 41] 100 ?_
    refine And.intro (fun e => ?_) (fun e => ?_)
    · have e := bI_0.mp e
      rw [verI_0 (by omega), verI_0 (by omega)] at e
      have hp : clP σ k = true := by unfold clP; rw [decide_eq_false e]; rfl
      refine And.intro (fun z => ?_) (fun z => ?_)
      · have z := (cnt0 (by omega)).mp z
        rw [firstM_y hp z, cntN_1 hp, ← nI_1 (cntN (clP σ) k), ← nI_1 k] at K2
        exact am_Gp [0, 2, 1, 3] rfl K2
      · have z : ¬ cntN (clP σ) k = 0 := fun q => z ((cnt0 (by omega)).mpr q)
        rw [firstM_n (Or.inr z), cntN_1 hp, ← nI_1 (cntN (clP σ) k), ← nI_1 k] at K2
        exact am_Gp [0, 2, 1, 3] rfl K2
    · have e := bI_1.mp e
      rw [verI_0 (by omega), verI_0 (by omega)] at e
      have hp : ¬ clP σ k = true := by unfold clP; rw [decide_eq_true e]; decide
      rw [firstM_n (Or.inl hp), cntN_0 hp, ← nI_1 k] at K2
      exact K2
theorem m_clash (hD : DrOK σ) : am_D l 202 [aR 12 0] σ τ (rX t) cX lX (some (aI (nI (cntN (clP σ) 36)))) (u3 σ 12 0 2 (firstM (clP σ) 36)) τ (rX t) := by
  refine am_D_of am_o202 am_l202 rfl ?_
  refine am_vc_ok am_k202 [7] 100 ?_
  refine m_clash_lp hD ?_ 36 0 (by omega)
  refine am_vc_ok am_k202 [] 100 ?_
  refine am_vO am_k202 am_h202 rfl rfl rfl rfl (m_ask) ?_
  refine am_vc_ok am_k202 [] 100 ?_
  exact am_vI am_k202 am_r202 rfl ⟨rfl, rfl, rfl, rfl, rfl, rfl⟩
def clQ (σ : tI) (τ : tL) (t : Option (Nat × Nat)) : xP := fun r s2 τ2 t2 => r = some (aI (nI (cntN (clP σ) 36))) ∧ s2 = u3 σ 11 0 11 (firstM (clP σ) 36) ∧ τ2 = τ ∧ t2 = t
theorem x_clash_in (hR : Rserv σ) (hSh : Rshapes σ) {a : Nat} (ha : a < 6) (K : am_G l 113 (xQ (clQ σ τ t)) 0 0 103 [(4, aI (nI 6)), (3, aI (nI a)), (2, aI (nI (cntN (clP σ) (6 * a + 6)))), (1, aI (firstM (clP σ) (6 * a + 6))), (0, aR 11 0)] [] σ τ (rX t) cX lX) : ∀ (d b : Nat), b + d = 6 → am_G l 113 (xQ (clQ σ τ t)) 0 0 16 [(4, aI (nI b)), (3, aI (nI a)), (2, aI (nI (cntN (clP σ) (6 * a + b)))), (1, aI (firstM (clP σ) (6 * a + b))), (0, aR 11 0)] [] σ τ (rX t) cX lX
  | 0, b, h => by
    obtain rfl : b = 6 := by omega
    refine am_vc_ok am_k113 [16, 103] 100 ?_
    exact And.intro (fun _ => K) (fun h1 => absurd (show (6 : Int32) ≤ nI 6 by decide) h1)
  | d + 1, b, h => by
    have K2 := x_clash_in hR hSh ha K d (b + 1) (by omega)
    have hb : b < 6 := by omega
    have hc : cntN (clP σ) (6 * a + b) ≤ 6 * a + b := cntN_le
    have ek : 6 * a + (b + 1) = (6 * a + b) + 1 := by omega
    rw [ek] at K2
    obtain ⟨⟨x, _, hx, -, n1, n2, -, -⟩, g2⟩ := hR a ha
    obtain ⟨⟨y, _, hy, -, n3, n4, -, -⟩, -⟩ := hR b hb
    obtain ⟨g3, g4⟩ := g2 b hb
    have q1 : (6 * a + b) / 6 = a := by omega
    have q2 : (6 * a + b) % 6 = b := by omega
    have e6 : nI a * 6 + nI b = nI (6 * a + b) := by
      rw [show (6 : Int32) = nI 6 from rfl, pk_mul, nI_add, Nat.mul_comm]
    refine am_vc_ok am_k113 [16, 103] 100 ?_
    refine And.intro (fun h1 => absurd h1 (nI_ge (b := 6) (by omega) (by decide))) (fun _ => ?_)
    refine And.intro (vp_in_nI (N := 6) ha (by decide)) ?_
    rw [nI_clamp (n := a) (by omega)]
    refine And.intro (vp_in_nI (N := 6) hb (by decide)) ?_
    rw [nI_clamp (n := b) (by omega)]
    rcases g4 with g4 | ⟨s, hs, g4, g5, -⟩
    · have hp : ¬ clP σ (6 * a + b) = true := by
        unfold clP
        rw [decide_eq_true (Or.inl (by rw [← g3, g4]))]
        decide
      rw [g4]
      refine am_vS am_k113 am_h113 rfl rfl rfl rfl (x_within) ?_
      refine am_vc_ok am_k113 [16, 103] 100 ?_
      refine And.intro (fun _ => ?_) (fun e => absurd (bI_1.mp e) (by decide))
      rw [firstM_n (Or.inl hp), cntN_0 hp, ← nI_1 b] at K2
      exact am_Gp [0, 2, 3, 4, 5] rfl K2
    · rcases hSh s hs with ⟨-, z⟩ | ⟨S, hS⟩
      · exact absurd z g5
      have hw4 : σ 49 0 s = nI (sN S) := hS.2.2.2.1
      have hiff := okP_n (σ := σ) (x := nI x) (y := nI y) hs hw4 hS.1.1
      have hcl : clP σ (6 * a + b) = !decide (okP σ (nI s) (nI x) (nI y)) := by
        unfold clP
        rw [q1, q2, ← g3, g4, n2, n4]
      rw [g4]
      refine am_vS am_k113 am_h113 rfl rfl rfl rfl (x_within) ?_
      refine am_vc_ok am_k113 [16, 103] 100 ?_
      refine And.intro (fun e => absurd (in4 hs) (bI_0.mp e)) (fun _ => ?_)
      refine And.intro (vp_in_nI (N := 4) hs (by decide)) ?_
      refine And.intro (vp_in_nI (N := 6) ha (by decide)) ?_
      refine And.intro (vp_in_nI (N := 6) hb (by decide)) ?_
      rw [nI_clamp (n := s) (by omega), nI_clamp (n := a) (by omega), nI_clamp (n := b) (by omega), n1]
      have hbf := x_bothFit (l := l) (τ := τ) (t := t) hS hx hy
      rw [← n3] at hbf
      refine am_vOT am_k113 am_h113 rfl rfl rfl rfl (hbf) ?_
      rintro r s2 τ2 t2 ⟨rfl, rfl, rfl, rfl⟩
      refine am_vc_ok am_k113 [16, 103] 100 ?_
      refine And.intro (fun e => ?_) (fun e => ?_)
      · have e := bI_0.mp e
        rw [n3] at e
        have hp : clP s2 (6 * a + b) = true := by rw [hcl, decide_eq_false (fun q => e (hiff.mp q))]; rfl
        refine And.intro (fun z => ?_) (fun z => ?_)
        · have z := (cnt0 (by omega)).mp z
          rw [firstM_y hp z, cntN_1 hp, ← nI_1 (cntN (clP s2) (6 * a + b)), ← nI_1 b, ← e6] at K2
          exact am_Gp [0, 4, 1, 2, 5] rfl K2
        · have z : ¬ cntN (clP s2) (6 * a + b) = 0 := fun q => z ((cnt0 (by omega)).mpr q)
          rw [firstM_n (Or.inr z), cntN_1 hp, ← nI_1 (cntN (clP s2) (6 * a + b)), ← nI_1 b] at K2
          exact am_Gp [0, 4, 1, 2, 5] rfl K2
      · have e := bI_1.mp e
        rw [n3] at e
        have hp : ¬ clP s2 (6 * a + b) = true := by rw [hcl, decide_eq_true (hiff.mpr e)]; decide
        rw [firstM_n (Or.inl hp), cntN_0 hp, ← nI_1 b] at K2
        exact am_Gp [0, 2, 3, 4, 5] rfl K2
theorem x_clash_out (hR : Rserv σ) (hSh : Rshapes σ) (K : am_G l 113 (xQ (clQ σ τ t)) 0 0 109 [(3, aI (nI 6)), (2, aI (nI (cntN (clP σ) 36))), (1, aI (firstM (clP σ) 36)), (0, aR 11 0)] [] σ τ (rX t) cX lX) : ∀ (d a : Nat), a + d = 6 → am_G l 113 (xQ (clQ σ τ t)) 0 0 7 [(3, aI (nI a)), (2, aI (nI (cntN (clP σ) (6 * a)))), (1, aI (firstM (clP σ) (6 * a))), (0, aR 11 0)] [] σ τ (rX t) cX lX
  | 0, a, h => by
    obtain rfl : a = 6 := by omega
    refine am_vc_ok am_k113 [7, 109] 100 ?_
    exact And.intro (fun _ => K) (fun h1 => absurd (show (6 : Int32) ≤ nI 6 by decide) h1)
  | d + 1, a, h => by
    have K2 := x_clash_out hR hSh K d (a + 1) (by omega)
    rw [show 6 * (a + 1) = 6 * a + 6 by omega] at K2
    refine am_vc_ok am_k113 [7, 16, 109] 100 ?_
    refine And.intro (fun h1 => absurd h1 (nI_ge (b := 6) (by omega) (by decide))) (fun _ => ?_)
    refine x_clash_in hR hSh (by omega) ?_ 6 0 (by omega)
    refine am_vc_ok am_k113 [7] 100 ?_
    rw [← nI_1 a] at K2
    exact am_Gp [0, 2, 3, 4] rfl K2
theorem x_clash (hR : Rserv σ) (hSh : Rshapes σ) : am_T l 113 [aR 11 0] σ τ t (clQ σ τ t) := by
  refine am_T_of am_o113 am_l113 rfl ?_
  refine am_vc_ok am_k113 [7] 100 ?_
  refine x_clash_out hR hSh ?_ 6 0 (by omega)
  refine am_vc_ok am_k113 [] 100 ?_
  exact am_vI am_k113 am_r113 rfl ⟨t, rfl, rfl, rfl, rfl, rfl, rfl, rfl⟩
theorem Rall.dr (h : Rall σ τ) : DrOK σ := by
  intro k hk
  have hR := (h.2.2.2.2.1 (k / 6) (by omega)).2 (k % 6) (by omega)
  rw [show 6 * (k / 6) + k % 6 = k by omega] at hR
  rcases hR.2 with z | ⟨s, hs, z1, z2, -⟩
  · exact Or.inl (hR.1.symm.trans z)
  · rcases h.2.2.1.there hs with ⟨-, y⟩ | ⟨-, n, hn, y⟩
    · exact absurd y z2
    · exact Or.inr ⟨s, n, hs, hR.1.symm.trans z1, y, hn⟩
theorem badM_cg {so so2 ch ch2 pr pr2 : Nat → Int32} {a b : Option Nat} (h1 : so2 = so) (h2 : ch2 = ch) (h3 : pr2 = pr) : badM so ch pr a b = badM so2 ch2 pr2 a b := by rw [h1, h2, h3]
theorem clP_k {f : tI} (h49 : f 49 = σ 49) (h50 : f 50 = σ 50) (h57 : f 57 = σ 57) (h59 : f 59 = σ 59) : clP f = clP σ := by
  unfold clP okP fitP badA nmd mA
  rw [h49, h50, h57, h59]
theorem LC_clash (h : Rall σ τ) : LC l 113 202 [] σ τ t := by
  refine am_T.mono (x_clash h.2.2.2.2.1 h.2.2.1) ?_
  rintro r s2 τ2 t2 ⟨rfl, rfl, rfl, rfl⟩
  have e : clP (u3 σ 11 0 11 (firstM (clP σ) 36)) = clP σ := clP_k (u3_kk _ _ (by decide)) (u3_kk _ _ (by decide)) (u3_kk _ _ (by decide)) (u3_kk _ _ (by decide))
  have hD : DrOK (u3 σ 11 0 11 (firstM (clP σ) 36)) := by
    unfold DrOK
    rw [u3_kk _ _ (show 59 ≠ 11 by decide), u3_kk _ _ (show 49 ≠ 11 by decide)]
    exact h.dr
  have hm := m_clash (l := l) (τ := τ2) (t := t2) hD
  rw [e] at hm
  exact ⟨rfl, hm.T ⟨rfl, h.ask⟩⟩
end L30

/-! digest: what is mixed; the class's side of it -/
section L31
variable {l : Launch} {σ σ2 : tI} {τ τ2 : tL} {t : Option (Nat × Nat)}
abbrev mx (h : Int64) (v : Int32) : Int64 := 31 * h + v.toInt64
def mxN (h : Int64) (f : Nat → Int32) : Nat → Int64
  | 0 => h
  | n + 1 => mx (mxN h f n) (f n)
def mxI (h : Int64) (f : Nat → Nat → Int32) (m : Nat) : Nat → Int64
  | 0 => h
  | n + 1 => mxN (mxI h f m n) (f n) m
theorem mxN_cg {h : Int64} {f g : Nat → Int32} : ∀ {n : Nat}, (∀ c, c < n → f c = g c) → mxN h f n = mxN h g n
  | 0, _ => rfl
  | n + 1, H => by
    unfold mxN
    rw [mxN_cg (fun c hc => H c (by omega)), H n (by omega)]
theorem mxI_cg {h : Int64} {f g : Nat → Nat → Int32} {m : Nat} : ∀ {n : Nat}, (∀ c d, c < n → d < m → f c d = g c d) → mxI h f m n = mxI h g m n
  | 0, _ => rfl
  | n + 1, H => by
    unfold mxI
    rw [mxI_cg (fun c d hc hd => H c d (by omega) hd), mxN_cg (fun d hd => H n d (by omega) hd)]
theorem mxN_0 {h : Int64} {f : Nat → Int32} : h = mxN h f 0 := rfl
theorem mxI_s {h : Int64} {f : Nat → Nat → Int32} {m n : Nat} : mxI h f m (n + 1) = mxN (mxI h f m n) (f n) m := rfl
theorem mx_m1 (h : Int64) : 31 * h - 1 = mx h (-1) := by
  rw [Int64.sub_eq_add_neg]
  rfl
theorem x_mixRow_lp {Q : tQ} {r n : Nat} {h0 g : Int64} (hn : σ 6 r 1 = nI n) (hl : n ≤ lX 30 r) (hb : lX 30 r < 2 ^ 31) (K : am_G l 153 Q 0 0 60 [(5, aI (nI n)), (3, aL (mxN g (σ 30 r) n)), (0, aL h0), (2, aR 6 r)] [] σ τ (rX t) cX lX) : ∀ (d k : Nat) (v : Int64), k + d = n → v = mxN g (σ 30 r) k → am_G l 153 Q 0 0 30 [(5, aI (nI k)), (3, aL v), (0, aL h0), (2, aR 6 r)] [] σ τ (rX t) cX lX
  | 0, k, v, h, hv => by
    obtain rfl : k = n := by omega
    rw [hv]
    refine am_vc_ok am_k153 [30, 60] 100 ?_
    exact And.intro (fun _ => K) (fun h1 => absurd (by rw [hn]; exact Int32.le_refl _) h1)
  | d + 1, k, v, h, hv => by
    have K2 := x_mixRow_lp hn hl hb K d (k + 1) (mx v (σ 30 r k)) (by omega) (by rw [hv]; rfl)
    refine am_vc_ok am_k153 [30, 60] 100 ?_
    refine And.intro (fun h1 => absurd h1 (by rw [hn]; exact nI_ge (b := n) (by omega) (by omega))) (fun _ => ?_)
    refine And.intro (vp_in_nI (N := lX 30 r) (by omega) hb) ?_
    rw [nI_clamp (n := k) (by omega)]
    rw [← nI_1 k] at K2
    exact K2
theorem x_mixRow {r n : Nat} {h0 : Int64} (hn : σ 6 r 1 = nI n) (hl : n ≤ lX 30 r) (hb : lX 30 r < 2 ^ 31) : am_D l 153 [aL h0, aR 6 r] σ τ (rX t) cX lX (some (aL (if σ 6 r 0 = 0 then mx h0 (-1) else mxN (mx h0 (nI n)) (σ 30 r) n))) σ τ (rX t) := by
  by_cases h0 : σ 6 r 0 = 0
  · simp only [if_pos h0]
    refine am_D_of am_o153 am_l153 rfl ?_
    refine am_vc_ok am_k153 [] 100 ?_
    refine And.intro (fun _ => ?_) (fun g => absurd h0 g)
    refine am_vL am_k153 am_r153 rfl ⟨?_, rfl, rfl, rfl, rfl, rfl⟩
    rw [← mx_m1]
  · simp only [if_neg h0]
    refine am_D_of am_o153 am_l153 rfl ?_
    refine am_vc_ok am_k153 [30] 100 ?_
    refine And.intro (fun g => absurd g h0) (fun _ => ?_)
    rw [← hn]
    refine x_mixRow_lp hn hl hb ?_ n 0 _ (by omega) mxN_0
    refine am_vc_ok am_k153 [] 100 ?_
    exact am_vL am_k153 am_r153 rfl ⟨rfl, rfl, rfl, rfl, rfl, rfl⟩
theorem x_mixCall_1 {Q : tQ} {c : Nat} {h0 g : Int64} (K : am_G l 152 Q 0 0 32 [(5, aI (nI 7)), (3, aL (mxN g (fun w => σ 0 c (cfJ w)) 7)), (0, aL h0), (2, aR 0 c)] [] σ τ (rX t) cX lX) : ∀ (d k : Nat) (v : Int64), k + d = 7 → v = mxN g (fun w => σ 0 c (cfJ w)) k → am_G l 152 Q 0 0 5 [(5, aI (nI k)), (3, aL v), (0, aL h0), (2, aR 0 c)] [] σ τ (rX t) cX lX
  | 0, k, v, h, hv => by
    obtain rfl : k = 7 := by omega
    rw [hv]
    refine am_vc_ok am_k152 [5, 32] 100 ?_
    exact And.intro (fun _ => K) (fun h1 => absurd (show (7 : Int32) ≤ nI 7 by decide) h1)
  | d + 1, k, v, h, hv => by
    have K2 := x_mixCall_1 K d (k + 1) (mx v (σ 0 c (cfJ k))) (by omega) (by rw [hv]; rfl)
    refine am_vc_ok am_k152 [5, 32] 100 ?_
    refine And.intro (fun h1 => absurd h1 (nI_ge (b := 7) (by omega) (by decide))) (fun _ => ?_)
    refine am_vO am_k152 am_h152 rfl rfl rfl rfl (x_cfact (by omega)) ?_
    refine am_vc_ok am_k152 [5, 32] 100 ?_
    rw [← nI_1 k] at K2
    exact K2
theorem x_mixCall_2 {Q : tQ} {c : Nat} {h0 g : Int64} (K : am_G l 152 Q 0 0 62 [(5, aI (nI 4)), (3, aL (mxN g (σ 13 c) 4)), (0, aL h0), (2, aR 0 c)] [] σ τ (rX t) cX lX) : ∀ (d k : Nat) (v : Int64), k + d = 4 → v = mxN g (σ 13 c) k → am_G l 152 Q 0 0 35 [(5, aI (nI k)), (3, aL v), (0, aL h0), (2, aR 0 c)] [] σ τ (rX t) cX lX
  | 0, k, v, h, hv => by
    obtain rfl : k = 4 := by omega
    rw [hv]
    refine am_vc_ok am_k152 [35, 62] 100 ?_
    exact And.intro (fun _ => K) (fun h1 => absurd (show (4 : Int32) ≤ nI 4 by decide) h1)
  | d + 1, k, v, h, hv => by
    have K2 := x_mixCall_2 K d (k + 1) (mx v (σ 13 c k)) (by omega) (by rw [hv]; rfl)
    refine am_vc_ok am_k152 [35, 62] 100 ?_
    refine And.intro (fun h1 => absurd h1 (nI_ge (b := 4) (by omega) (by decide))) (fun _ => ?_)
    refine And.intro (vp_in_nI (N := 4) (by omega) (by decide)) ?_
    rw [nI_clamp (n := k) (by omega)]
    rw [← nI_1 k] at K2
    exact K2
theorem x_mixCall_3 {Q : tQ} {c : Nat} {h0 g : Int64} (K : am_G l 152 Q 0 0 91 [(5, aI (nI 3)), (3, aL (mxN g (fun w => σ 0 c (16 + w)) 3)), (0, aL h0), (2, aR 0 c)] [] σ τ (rX t) cX lX) : ∀ (d k : Nat) (v : Int64), k + d = 3 → v = mxN g (fun w => σ 0 c (16 + w)) k → am_G l 152 Q 0 0 65 [(5, aI (nI k)), (3, aL v), (0, aL h0), (2, aR 0 c)] [] σ τ (rX t) cX lX
  | 0, k, v, h, hv => by
    obtain rfl : k = 3 := by omega
    rw [hv]
    refine am_vc_ok am_k152 [65, 91] 100 ?_
    exact And.intro (fun _ => K) (fun h1 => absurd (show (3 : Int32) ≤ nI 3 by decide) h1)
  | d + 1, k, v, h, hv => by
    have K2 := x_mixCall_3 K d (k + 1) (mx v (σ 0 c (16 + k))) (by omega) (by rw [hv]; rfl)
    refine am_vc_ok am_k152 [65, 91] 100 ?_
    refine And.intro (fun h1 => absurd h1 (nI_ge (b := 3) (by omega) (by decide))) (fun _ => ?_)
    refine am_vO am_k152 am_h152 rfl rfl rfl rfl (x_streamFact (by omega)) ?_
    refine am_vc_ok am_k152 [65, 91] 100 ?_
    rw [← nI_1 k] at K2
    exact K2
theorem x_mixCall {c : Nat} {h0 : Int64} : am_D l 152 [aL h0, aR 0 c] σ τ (rX t) cX lX (some (aL (mxN (mxN (mxN h0 (fun w => σ 0 c (cfJ w)) 7) (σ 13 c) 4) (fun w => σ 0 c (16 + w)) 3))) σ τ (rX t) := by
  refine am_D_of am_o152 am_l152 rfl ?_
  refine am_vc_ok am_k152 [5] 100 ?_
  refine x_mixCall_1 (g := h0) ?_ 7 0 _ (by omega) mxN_0
  refine am_vc_ok am_k152 [35] 100 ?_
  refine x_mixCall_2 (g := mxN h0 (fun w => σ 0 c (cfJ w)) 7) ?_ 4 0 _ (by omega) mxN_0
  refine am_vc_ok am_k152 [65] 100 ?_
  refine x_mixCall_3 (g := mxN (mxN h0 (fun w => σ 0 c (cfJ w)) 7) (σ 13 c) 4) ?_ 3 0 _ (by omega) mxN_0
  refine am_vc_ok am_k152 [] 100 ?_
  exact am_vL am_k152 am_r152 rfl ⟨rfl, rfl, rfl, rfl, rfl, rfl⟩
theorem x_mixShape_in {Q : tQ} {i n k : Nat} {h0 g : Int64} (hk : k < 12) (K : am_G l 150 Q 0 0 71 [(6, aI (nI 6)), (3, aL (mxN g (fun w => σ (32 + w) i k) 6)), (5, aI (nI k)), (0, aL h0), (2, aR 9 i)] [] σ τ (rX t) cX lX) : ∀ (d w : Nat) (v : Int64), w + d = 6 → v = mxN g (fun w => σ (32 + w) i k) w → am_G l 150 Q 0 0 42 [(6, aI (nI w)), (3, aL v), (5, aI (nI k)), (0, aL h0), (2, aR 9 i)] [] σ τ (rX t) cX lX
  | 0, w, v, h, hv => by
    obtain rfl : w = 6 := by omega
    rw [hv]
    refine am_vc_ok am_k150 [42, 71] 100 ?_
    exact And.intro (fun _ => K) (fun h1 => absurd (show (6 : Int32) ≤ nI 6 by decide) h1)
  | d + 1, w, v, h, hv => by
    have K2 := x_mixShape_in (n := n) hk K d (w + 1) (mx v (σ (32 + w) i k)) (by omega) (by rw [hv]; rfl)
    refine am_vc_ok am_k150 [42, 71] 100 ?_
    refine And.intro (fun h1 => absurd h1 (nI_ge (b := 6) (by omega) (by decide))) (fun _ => ?_)
    refine am_vO am_k150 am_h150 rfl rfl rfl rfl (x_sfact hk (by omega)) ?_
    refine am_vc_ok am_k150 [42, 71] 100 ?_
    rw [← nI_1 w] at K2
    exact K2
theorem x_mixShape_lp {Q : tQ} {i n : Nat} {h0 g : Int64} (hn : σ 9 i 1 = nI n) (hn2 : n ≤ 12) (K : am_G l 150 Q 0 0 77 [(5, aI (nI n)), (3, aL (mxI g (fun k w => σ (32 + w) i k) 6 n)), (0, aL h0), (2, aR 9 i)] [] σ τ (rX t) cX lX) : ∀ (d k : Nat), k + d = n → am_G l 150 Q 0 0 30 [(5, aI (nI k)), (3, aL (mxI g (fun k w => σ (32 + w) i k) 6 k)), (0, aL h0), (2, aR 9 i)] [] σ τ (rX t) cX lX
  | 0, k, h => by
    obtain rfl : k = n := by omega
    refine am_vc_ok am_k150 [30, 77] 100 ?_
    exact And.intro (fun _ => K) (fun h1 => absurd (by rw [hn]; exact Int32.le_refl _) h1)
  | d + 1, k, h => by
    have K2 := x_mixShape_lp hn hn2 K d (k + 1) (by omega)
    refine am_vc_ok am_k150 [30, 42, 77] 100 ?_
    refine And.intro (fun h1 => absurd h1 (by rw [hn]; exact nI_ge (b := n) (by omega) (by omega))) (fun _ => ?_)
    refine am_Gp (ls2 := [(6, aI (nI 0)), (3, aL (mxI g (fun k w => σ (32 + w) i k) 6 k)), (5, aI (nI k)), (0, aL h0), (2, aR 9 i)]) [0, 2, 1, 3, 4] rfl ?_
    refine x_mixShape_in (n := n) (by omega) ?_ 6 0 _ (by omega) mxN_0
    refine am_vc_ok am_k150 [30] 100 ?_
    rw [← nI_1 k, mxI_s] at K2
    exact am_Gp [0, 2, 3, 4] rfl K2
theorem x_mixShape {i n : Nat} {h0 : Int64} (hn : σ 9 i 1 = nI n) (hn2 : n ≤ 12) : am_D l 150 [aL h0, aR 9 i] σ τ (rX t) cX lX (some (aL (if σ 9 i 0 = 0 then mx h0 (-1) else mxI (mx h0 (nI n)) (fun k w => σ (32 + w) i k) 6 n))) σ τ (rX t) := by
  by_cases h0 : σ 9 i 0 = 0
  · simp only [if_pos h0]
    refine am_D_of am_o150 am_l150 rfl ?_
    refine am_vc_ok am_k150 [] 100 ?_
    refine And.intro (fun _ => ?_) (fun g => absurd h0 g)
    refine am_vL am_k150 am_r150 rfl ⟨?_, rfl, rfl, rfl, rfl, rfl⟩
    rw [← mx_m1]
  · simp only [if_neg h0]
    refine am_D_of am_o150 am_l150 rfl ?_
    refine am_vc_ok am_k150 [30] 100 ?_
    refine And.intro (fun g => absurd g h0) (fun _ => ?_)
    rw [← hn]
    refine x_mixShape_lp hn hn2 ?_ n 0 (by omega)
    refine am_vc_ok am_k150 [] 100 ?_
    exact am_vL am_k150 am_r150 rfl ⟨rfl, rfl, rfl, rfl, rfl, rfl⟩
end L31

/-! digest: the class's services -/
section L32
variable {l : Launch} {σ σ2 : tI} {τ τ2 : tL} {t : Option (Nat × Nat)}
/-- what a service adds: now, then, hands, mark, keep, doors, waiting, doing, names kept -/
abbrev mxV (h : Int64) (a b c d e : Int32) (f : Nat → Int32) (x y z : Int32) : Int64 := mx (mx (mx (mxN (mx (mx (mx (mx (mx h a) b) c) d) e) f 6) x) y) z
theorem x_mixServ_lp {Q : tQ} {a : Nat} {h0 g : Int64} (K : am_G l 151 Q 0 0 116 [(7, aI (nI 6)), (5, aL (mxN g (σ 31 a) 6)), (4, aR 8 a), (0, aR 11 0), (1, aL h0), (3, aI (nI a))] [] σ τ (rX t) cX lX) : ∀ (d k : Nat) (v : Int64), k + d = 6 → v = mxN g (σ 31 a) k → am_G l 151 Q 0 0 85 [(7, aI (nI k)), (5, aL v), (4, aR 8 a), (0, aR 11 0), (1, aL h0), (3, aI (nI a))] [] σ τ (rX t) cX lX
  | 0, k, v, h, hv => by
    obtain rfl : k = 6 := by omega
    rw [hv]
    refine am_vc_ok am_k151 [85, 116] 100 ?_
    exact And.intro (fun _ => K) (fun h1 => absurd (show (6 : Int32) ≤ nI 6 by decide) h1)
  | d + 1, k, v, h, hv => by
    have K2 := x_mixServ_lp K d (k + 1) (mx v (σ 31 a k)) (by omega) (by rw [hv]; rfl)
    refine am_vc_ok am_k151 [85, 116] 100 ?_
    refine And.intro (fun h1 => absurd h1 (nI_ge (b := 6) (by omega) (by decide))) (fun _ => ?_)
    refine And.intro (vp_in_nI (N := 6) (by omega) (by decide)) ?_
    rw [nI_clamp (n := k) (by omega)]
    rw [← nI_1 k] at K2
    exact K2
theorem x_mixService {a n : Nat} {h0 : Int64} (ha : a < 6) (hn : σ 3 0 5 = nI n) (hn2 : n ≤ 30) : am_D l 151 [aR 11 0, aL h0, aI (nI a)] σ τ (rX t) cX lX (some (aL (mxV h0 (σ 8 a 0) (σ 8 a 1) (σ 8 a 2) (σ 8 a 3) (σ 8 a 4) (σ 31 a) (σ 8 a 5) (σ 8 a 6) (nI (cntN (fun c => decide (σ 0 c 1 = nI a ∧ σ 3 0 4 ≤ σ 0 c 15)) n))))) σ τ (rX t) := by
  refine am_D_of am_o151 am_l151 rfl ?_
  refine am_vc_ok am_k151 [85] 100 ?_
  refine And.intro (vp_in_nI (N := 6) ha (by decide)) ?_
  rw [nI_clamp (n := a) (by omega)]
  refine x_mixServ_lp (g := mx (mx (mx (mx (mx h0 (σ 8 a 0)) (σ 8 a 1)) (σ 8 a 2)) (σ 8 a 3)) (σ 8 a 4)) ?_ 6 0 _ (by omega) rfl
  refine am_vc_ok am_k151 [] 100 ?_
  refine am_vO am_k151 am_h151 rfl rfl rfl rfl (x_namesKept hn hn2) ?_
  refine am_vc_ok am_k151 [] 100 ?_
  exact am_vL am_k151 am_r151 rfl ⟨rfl, rfl, rfl, rfl, rfl, rfl⟩
end L32

/-! digest: the class's whole of it -/
section L33
variable {l : Launch} {σ σ2 : tI} {τ τ2 : tL} {t : Option (Nat × Nat)}
def fN (g : Int64) (F : Nat → Int64 → Int64) : Nat → Int64
  | 0 => g
  | n + 1 => F n (fN g F n)
theorem fN_cg {g : Int64} {F G : Nat → Int64 → Int64} : ∀ {n : Nat}, (∀ k v, k < n → F k v = G k v) → fN g F n = fN g G n
  | 0, _ => rfl
  | n + 1, H => by
    unfold fN
    rw [fN_cg (fun k v hk => H k v (by omega)), H n _ (by omega)]
def xSh (σ : tI) (s : Nat) (h : Int64) : Int64 := if σ 9 (1 + s) 0 = 0 then mx h (-1) else mxI (mx h (σ 9 (1 + s) 1)) (fun k w => σ (32 + w) (1 + s) k) 6 (σ 9 (1 + s) 1).toNatClampNeg
def xRw (σ : tI) (r : Nat) (h : Int64) : Int64 := if σ 6 r 0 = 0 then mx h (-1) else mxN (mx h (σ 6 r 1)) (σ 30 r) (σ 6 r 1).toNatClampNeg
def xSv (σ : tI) (n a : Nat) (h : Int64) : Int64 := mxV h (σ 8 a 0) (σ 8 a 1) (σ 8 a 2) (σ 8 a 3) (σ 8 a 4) (σ 31 a) (σ 8 a 5) (σ 8 a 6) (nI (cntN (fun c => decide (σ 0 c 1 = nI a ∧ σ 3 0 4 ≤ σ 0 c 15)) n))
def xCa (σ : tI) (c : Nat) (h : Int64) : Int64 := mxN (mxN (mxN h (fun w => σ 0 c (cfJ w)) 7) (σ 13 c) 4) (fun w => σ 0 c (16 + w)) 3
def xFr (σ : tI) (f : Nat) (h : Int64) : Int64 := mxN h (fun w => σ (14 + w) 0 f) 5
theorem x_mixSh {s : Nat} {h0 : Int64} (hs : s < 4) (hR : Rshapes σ) : am_D l 150 [aL h0, aR 9 (1 + s)] σ τ (rX t) cX lX (some (aL (xSh σ s h0))) σ τ (rX t) := by
  unfold xSh
  rcases hR s hs with ⟨z, -⟩ | ⟨S, hS⟩
  · rw [if_pos z]
    refine am_D_of am_o150 am_l150 rfl ?_
    refine am_vc_ok am_k150 [] 100 ?_
    refine And.intro (fun _ => ?_) (fun g => absurd z g)
    refine am_vL am_k150 am_r150 rfl ⟨?_, rfl, rfl, rfl, rfl, rfl⟩
    rw [← mx_m1]
  · have hn := hS.2.2.1
    have hx := x_mixShape (l := l) (τ := τ) (t := t) (h0 := h0) hn hS.1.1
    rw [hn, nI_clamp (by have := hS.1.1; omega)]
    exact hx
theorem x_mixRw {r n : Nat} {h0 : Int64} (hn : σ 6 r 1 = nI n) (hl : n ≤ lX 30 r) (hb : lX 30 r < 2 ^ 31) : am_D l 153 [aL h0, aR 6 r] σ τ (rX t) cX lX (some (aL (xRw σ r h0))) σ τ (rX t) := by
  unfold xRw
  have hx := x_mixRow (l := l) (τ := τ) (t := t) (h0 := h0) hn hl hb
  rw [hn, nI_clamp (by omega)]
  exact hx
theorem x_dg1 {Q : tQ} {g : Int64} {C : Nat → Int32} (hC : ∀ w, w < 9 → am_D l 147 [aR 11 0, aI (nI w)] σ τ (rX t) cX lX (some (aI (C w))) σ τ (rX t)) (K : am_G l 140 Q 0 0 31 [(3, aI (nI 9)), (1, aL (fN g (fun k h => mx h (C k)) 9)), (0, aR 11 0)] [] σ τ (rX t) cX lX) : ∀ (d k : Nat) (v : Int64), k + d = 9 → v = fN g (fun k h => mx h (C k)) k → am_G l 140 Q 0 0 6 [(3, aI (nI k)), (1, aL v), (0, aR 11 0)] [] σ τ (rX t) cX lX
  | 0, k, v, h, hv => by
    obtain rfl : k = 9 := by omega
    rw [hv]
    refine am_vc_ok am_k140 [6, 31] 100 ?_
    exact And.intro (fun _ => K) (fun h1 => absurd (show (9 : Int32) ≤ nI 9 by decide) h1)
  | d + 1, k, v, h, hv => by
    have K2 := x_dg1 hC K d (k + 1) ((fun k h => mx h (C k)) k v) (by omega) (by rw [hv]; rfl)
    refine am_vc_ok am_k140 [6, 31] 100 ?_
    refine And.intro (fun h1 => absurd h1 (nI_ge (b := 9) (by omega) (by decide))) (fun _ => ?_)
    refine am_vO am_k140 am_h140 rfl rfl rfl rfl (hC k (by omega)) ?_
    refine am_vc_ok am_k140 [6, 31] 100 ?_
    rw [← nI_1 k] at K2
    exact K2
theorem x_dg2 {Q : tQ} {g : Int64} (hR : Rshapes σ) (K : am_G l 140 Q 0 0 55 [(3, aI (nI 4)), (1, aL (fN g (xSh σ) 4)), (0, aR 11 0)] [] σ τ (rX t) cX lX) : ∀ (d k : Nat) (v : Int64), k + d = 4 → v = fN g (xSh σ) k → am_G l 140 Q 0 0 33 [(3, aI (nI k)), (1, aL v), (0, aR 11 0)] [] σ τ (rX t) cX lX
  | 0, k, v, h, hv => by
    obtain rfl : k = 4 := by omega
    rw [hv]
    refine am_vc_ok am_k140 [33, 55] 100 ?_
    exact And.intro (fun _ => K) (fun h1 => absurd (show (4 : Int32) ≤ nI 4 by decide) h1)
  | d + 1, k, v, h, hv => by
    have K2 := x_dg2 hR K d (k + 1) ((xSh σ) k v) (by omega) (by rw [hv]; rfl)
    refine am_vc_ok am_k140 [33, 55] 100 ?_
    refine And.intro (fun h1 => absurd h1 (nI_ge (b := 4) (by omega) (by decide))) (fun _ => ?_)
    refine And.intro (vp_in_nI (N := 4) (by omega) (by decide)) ?_
    rw [nI_clamp (n := k) (by omega)]
    refine am_vS am_k140 am_h140 rfl rfl rfl rfl (x_mixSh (s := k) (by omega) hR) ?_
    refine am_vc_ok am_k140 [33, 55] 100 ?_
    rw [← nI_1 k] at K2
    exact K2
theorem x_dg3 {Q : tQ} {g : Int64} {n : Nat} (hn : σ 3 0 5 = nI n) (hn2 : n ≤ 30) (K : am_G l 140 Q 0 0 76 [(3, aI (nI 6)), (1, aL (fN g (xSv σ n) 6)), (0, aR 11 0)] [] σ τ (rX t) cX lX) : ∀ (d k : Nat) (v : Int64), k + d = 6 → v = fN g (xSv σ n) k → am_G l 140 Q 0 0 57 [(3, aI (nI k)), (1, aL v), (0, aR 11 0)] [] σ τ (rX t) cX lX
  | 0, k, v, h, hv => by
    obtain rfl : k = 6 := by omega
    rw [hv]
    refine am_vc_ok am_k140 [57, 76] 100 ?_
    exact And.intro (fun _ => K) (fun h1 => absurd (show (6 : Int32) ≤ nI 6 by decide) h1)
  | d + 1, k, v, h, hv => by
    have K2 := x_dg3 hn hn2 K d (k + 1) ((xSv σ n) k v) (by omega) (by rw [hv]; rfl)
    refine am_vc_ok am_k140 [57, 76] 100 ?_
    refine And.intro (fun h1 => absurd h1 (nI_ge (b := 6) (by omega) (by decide))) (fun _ => ?_)
    refine am_vO am_k140 am_h140 rfl rfl rfl rfl (x_mixService (a := k) (by omega) hn hn2) ?_
    refine am_vc_ok am_k140 [57, 76] 100 ?_
    rw [← nI_1 k] at K2
    exact K2
theorem x_dg4 {Q : tQ} {g : Int64} {n : Nat} (hn : σ 3 0 5 = nI n) (hn2 : n ≤ 30) (K : am_G l 140 Q 0 0 109 [(3, aI (nI n)), (1, aL (fN g (xCa σ) n)), (0, aR 11 0)] [] σ τ (rX t) cX lX) : ∀ (d k : Nat) (v : Int64), k + d = n → v = fN g (xCa σ) k → am_G l 140 Q 0 0 78 [(3, aI (nI k)), (1, aL v), (0, aR 11 0)] [] σ τ (rX t) cX lX
  | 0, k, v, h, hv => by
    obtain rfl : k = n := by omega
    rw [hv]
    refine am_vc_ok am_k140 [78, 109] 100 ?_
    exact And.intro (fun _ => K) (fun h1 => absurd (by rw [hn]; exact Int32.le_refl _) h1)
  | d + 1, k, v, h, hv => by
    have K2 := x_dg4 hn hn2 K d (k + 1) ((xCa σ) k v) (by omega) (by rw [hv]; rfl)
    refine am_vc_ok am_k140 [78, 109] 100 ?_
    refine And.intro (fun h1 => absurd h1 (by rw [hn]; exact nI_ge (b := n) (by omega) (by omega))) (fun _ => ?_)
    refine And.intro (vp_in_nI (N := 30) (by omega) (by decide)) ?_
    rw [nI_clamp (n := k) (by omega)]
    refine am_vS am_k140 am_h140 rfl rfl rfl rfl (x_mixCall (c := k)) ?_
    refine am_vc_ok am_k140 [78, 109] 100 ?_
    rw [← nI_1 k] at K2
    exact K2
theorem x_dg6 {Q : tQ} {g : Int64} (hR : ∀ r, r < 6 → ∃ n, n ≤ 60 ∧ σ 6 (4 + r) 1 = nI n) (K : am_G l 140 Q 0 0 192 [(3, aI (nI 6)), (1, aL (fN g (fun r => xRw σ (4 + r)) 6)), (0, aR 11 0)] [] σ τ (rX t) cX lX) : ∀ (d k : Nat) (v : Int64), k + d = 6 → v = fN g (fun r => xRw σ (4 + r)) k → am_G l 140 Q 0 0 169 [(3, aI (nI k)), (1, aL v), (0, aR 11 0)] [] σ τ (rX t) cX lX
  | 0, k, v, h, hv => by
    obtain rfl : k = 6 := by omega
    rw [hv]
    refine am_vc_ok am_k140 [169, 192] 100 ?_
    exact And.intro (fun _ => K) (fun h1 => absurd (show (6 : Int32) ≤ nI 6 by decide) h1)
  | d + 1, k, v, h, hv => by
    have K2 := x_dg6 hR K d (k + 1) ((fun r => xRw σ (4 + r)) k v) (by omega) (by rw [hv]; rfl)
    refine am_vc_ok am_k140 [169, 192] 100 ?_
    refine And.intro (fun h1 => absurd h1 (nI_ge (b := 6) (by omega) (by decide))) (fun _ => ?_)
    obtain ⟨n, n1, n2⟩ := hR k (by omega)
    have hl : lX 30 (4 + k) = 60 := lX_row (by omega)
    refine And.intro (vp_in_nI (N := 6) (by omega) (by decide)) ?_
    rw [nI_clamp (n := k) (by omega)]
    refine am_vS am_k140 am_h140 rfl rfl rfl rfl (x_mixRw (r := 4 + k) n2 (by omega) (by omega)) ?_
    refine am_vc_ok am_k140 [169, 192] 100 ?_
    rw [← nI_1 k] at K2
    exact K2
theorem x_dg7 {Q : tQ} {g : Int64} (hR : ∀ r, r < 6 → ∃ n, n ≤ 60 ∧ σ 6 (10 + r) 1 = nI n) (K : am_G l 140 Q 0 0 217 [(3, aI (nI 6)), (1, aL (fN g (fun r => xRw σ (10 + r)) 6)), (0, aR 11 0)] [] σ τ (rX t) cX lX) : ∀ (d k : Nat) (v : Int64), k + d = 6 → v = fN g (fun r => xRw σ (10 + r)) k → am_G l 140 Q 0 0 194 [(3, aI (nI k)), (1, aL v), (0, aR 11 0)] [] σ τ (rX t) cX lX
  | 0, k, v, h, hv => by
    obtain rfl : k = 6 := by omega
    rw [hv]
    refine am_vc_ok am_k140 [194, 217] 100 ?_
    exact And.intro (fun _ => K) (fun h1 => absurd (show (6 : Int32) ≤ nI 6 by decide) h1)
  | d + 1, k, v, h, hv => by
    have K2 := x_dg7 hR K d (k + 1) ((fun r => xRw σ (10 + r)) k v) (by omega) (by rw [hv]; rfl)
    refine am_vc_ok am_k140 [194, 217] 100 ?_
    refine And.intro (fun h1 => absurd h1 (nI_ge (b := 6) (by omega) (by decide))) (fun _ => ?_)
    obtain ⟨n, n1, n2⟩ := hR k (by omega)
    have hl : lX 30 (10 + k) = 60 := lX_row (by omega)
    refine And.intro (vp_in_nI (N := 6) (by omega) (by decide)) ?_
    rw [nI_clamp (n := k) (by omega)]
    refine am_vS am_k140 am_h140 rfl rfl rfl rfl (x_mixRw (r := 10 + k) n2 (by omega) (by omega)) ?_
    refine am_vc_ok am_k140 [194, 217] 100 ?_
    rw [← nI_1 k] at K2
    exact K2
theorem x_dg5i {Q : tQ} {f : Nat} {g : Int64} (hf : f < 690) (K : am_G l 140 Q 0 0 161 [(4, aI (nI 5)), (1, aL (mxN g (fun w => σ (14 + w) 0 f) 5)), (3, aI (nI f)), (0, aR 11 0)] [] σ τ (rX t) cX lX) : ∀ (d k : Nat) (v : Int64), k + d = 5 → v = mxN g (fun w => σ (14 + w) 0 f) k → am_G l 140 Q 0 0 128 [(4, aI (nI k)), (1, aL v), (3, aI (nI f)), (0, aR 11 0)] [] σ τ (rX t) cX lX
  | 0, k, v, h, hv => by
    obtain rfl : k = 5 := by omega
    rw [hv]
    refine am_vc_ok am_k140 [128, 161] 100 ?_
    exact And.intro (fun _ => K) (fun h1 => absurd (show (5 : Int32) ≤ nI 5 by decide) h1)
  | d + 1, k, v, h, hv => by
    have K2 := x_dg5i hf K d (k + 1) (mx v (σ (14 + k) 0 f)) (by omega) (by rw [hv]; rfl)
    refine am_vc_ok am_k140 [128, 161] 100 ?_
    refine And.intro (fun h1 => absurd h1 (nI_ge (b := 5) (by omega) (by decide))) (fun _ => ?_)
    refine am_vO am_k140 am_h140 rfl rfl rfl rfl (x_ffact hf (by omega)) ?_
    refine am_vc_ok am_k140 [128, 161] 100 ?_
    rw [← nI_1 k] at K2
    exact K2
theorem x_dg5 {Q : tQ} {g : Int64} {m : Nat} (hm : σ 1 0 0 = nI m) (hm2 : m ≤ 690) (K : am_G l 140 Q 0 0 167 [(3, aI (nI m)), (1, aL (fN g (xFr σ) m)), (0, aR 11 0)] [] σ τ (rX t) cX lX) : ∀ (d k : Nat) (v : Int64), k + d = m → v = fN g (xFr σ) k → am_G l 140 Q 0 0 111 [(3, aI (nI k)), (1, aL v), (0, aR 11 0)] [] σ τ (rX t) cX lX
  | 0, k, v, h, hv => by
    obtain rfl : k = m := by omega
    rw [hv]
    refine am_vc_ok am_k140 [111, 167] 100 ?_
    exact And.intro (fun _ => K) (fun h1 => absurd (by rw [hm]; exact Int32.le_refl _) h1)
  | d + 1, k, v, h, hv => by
    have K2 := x_dg5 hm hm2 K d (k + 1) (xFr σ k v) (by omega) (by rw [hv]; rfl)
    refine am_vc_ok am_k140 [111, 128, 167] 100 ?_
    refine And.intro (fun h1 => absurd h1 (by rw [hm]; exact nI_ge (b := m) (by omega) (by omega))) (fun _ => ?_)
    refine am_Gp (ls2 := [(4, aI (nI 0)), (1, aL v), (3, aI (nI k)), (0, aR 11 0)]) [0, 2, 1, 3] rfl ?_
    refine x_dg5i (g := v) (by omega) ?_ 5 0 _ (by omega) rfl
    refine am_vc_ok am_k140 [111] 100 ?_
    rw [← nI_1 k] at K2
    exact am_Gp [0, 2, 3] rfl K2
/-- the class's digest -/
def xDg (σ : tI) (C : Nat → Int32) (n m : Nat) : Int64 := fN (fN (fN (fN (fN (fN (fN 17 (fun k h => mx h (C k)) 9) (xSh σ) 4) (xSv σ n) 6) (xCa σ) n) (xFr σ) m) (fun r => xRw σ (4 + r)) 6) (fun r => xRw σ (10 + r)) 6
theorem x_digest {C : Nat → Int32} {n m : Nat} (hC : ∀ w, w < 9 → am_D l 147 [aR 11 0, aI (nI w)] σ τ (rX t) cX lX (some (aI (C w))) σ τ (rX t)) (hS : Rshapes σ) (hn : σ 3 0 5 = nI n) (hn2 : n ≤ 30) (hm : σ 1 0 0 = nI m) (hm2 : m ≤ 690) (hR : ∀ r, r < 6 → ∃ n, n ≤ 60 ∧ σ 6 (4 + r) 1 = nI n) (hT : ∀ r, r < 6 → ∃ n, n ≤ 60 ∧ σ 6 (10 + r) 1 = nI n) : am_D l 140 [aR 11 0] σ τ (rX t) cX lX (some (aL (xDg σ C n m))) σ τ (rX t) := by
  unfold xDg
  generalize e1 : fN 17 (fun k h => mx h (C k)) 9 = g1
  generalize e2 : fN g1 (xSh σ) 4 = g2
  generalize e3 : fN g2 (xSv σ n) 6 = g3
  generalize e4 : fN g3 (xCa σ) n = g4
  generalize e5 : fN g4 (xFr σ) m = g5
  generalize e6 : fN g5 (fun r => xRw σ (4 + r)) 6 = g6
  generalize e7 : fN g6 (fun r => xRw σ (10 + r)) 6 = g7
  refine am_D_of am_o140 am_l140 rfl ?_
  refine am_vc_ok am_k140 [6] 100 ?_
  refine x_dg1 (g := 17) hC ?_ 9 0 _ (by omega) rfl
  rw [e1]
  refine am_vc_ok am_k140 [33] 100 ?_
  refine x_dg2 (g := g1) hS ?_ 4 0 _ (by omega) rfl
  rw [e2]
  refine am_vc_ok am_k140 [57] 100 ?_
  refine x_dg3 (g := g2) hn hn2 ?_ 6 0 _ (by omega) rfl
  rw [e3]
  refine am_vc_ok am_k140 [78] 100 ?_
  refine x_dg4 (g := g3) hn hn2 ?_ n 0 _ (by omega) rfl
  rw [e4]
  refine am_vc_ok am_k140 [111] 100 ?_
  refine x_dg5 (g := g4) hm hm2 ?_ m 0 _ (by omega) rfl
  rw [e5]
  refine am_vc_ok am_k140 [169] 100 ?_
  refine x_dg6 (g := g5) hR ?_ 6 0 _ (by omega) rfl
  rw [e6]
  refine am_vc_ok am_k140 [194] 100 ?_
  refine x_dg7 (g := g6) hT ?_ 6 0 _ (by omega) rfl
  rw [e7]
  refine am_vc_ok am_k140 [] 100 ?_
  exact am_vL am_k140 am_r140 rfl ⟨rfl, rfl, rfl, rfl, rfl, rfl⟩
end L33

/-! digest: the model's side -/
section L34
variable {l : Launch} {σ σ2 : tI} {τ τ2 : tL} {t : Option (Nat × Nat)}
def tH (τ : tL) (h : Int64) : tL := u3 τ 12 0 68 h
theorem u3L_twice {f : tL} {k i j : Nat} {v w : Int64} : u3 (u3 f k i j v) k i j w = u3 f k i j w := by
  funext a b c
  unfold u3
  by_cases h1 : a = k
  · by_cases h2 : b = i
    · by_cases h3 : c = j
      · simp [h1, h2, h3]
      · simp [h3]
    · simp [h2]
  · simp [h1]
theorem m_mix {h : Int64} {v : Int32} : am_D l 254 [aR 12 0, aI v] σ (tH τ h) (rX t) cX lX none σ (tH τ (mx h v)) (rX t) := by
  refine am_D_of am_o254 am_l254 rfl ?_
  refine am_vc_ok am_k254 [] 100 ?_
  refine am_vV am_k254 am_r254 rfl ⟨rfl, rfl, ?_, rfl, rfl, rfl⟩
  have e : tH τ h 12 0 68 = h := by simp [tH, u3]
  show u3 (tH τ h) 12 0 68 (31 * tH τ h 12 0 68 + v.toInt64) = _
  rw [e]
  unfold tH
  rw [u3L_twice]
theorem m_sh3 {Q : tQ} {g : Int64} {s i : Nat} (hs : s < 4) (hi : i < 12) (K : am_G l 255 Q 0 0 66 [(3, aI (nI 6)), (2, aI (nI i)), (1, aI (nI s)), (0, aR 12 0)] [] σ (tH τ (mxN g (fun w => σ 50 0 (72 * s + 6 * i + w)) 6)) (rX t) cX lX) : ∀ (d k : Nat) (v : Int64), k + d = 6 → v = mxN g (fun w => σ 50 0 (72 * s + 6 * i + w)) k → am_G l 255 Q 0 0 44 [(3, aI (nI k)), (2, aI (nI i)), (1, aI (nI s)), (0, aR 12 0)] [] σ (tH τ v) (rX t) cX lX
  | 0, k, v, h, hv => by
    obtain rfl : k = 6 := by omega
    rw [hv]
    refine am_vc_ok am_k255 [44, 66] 100 ?_
    exact And.intro (fun _ => K) (fun h1 => absurd (show (5 : Int32) < nI 6 by decide) h1)
  | d + 1, k, v, h, hv => by
    have K2 := m_sh3 hs hi K d (k + 1) (mx v (σ 50 0 (72 * s + 6 * i + k))) (by omega) (by rw [hv]; rfl)
    refine am_vc_ok am_k255 [44, 66] 100 ?_
    refine And.intro (fun h1 => absurd h1 (Int32.not_lt.mpr (nI_le (b := 5) (by omega) (by decide)))) (fun _ => ?_)
    refine am_vO am_k255 am_h255 rfl rfl rfl rfl (m_part hs hi (by omega)) ?_
    refine am_vc_ok am_k255 [44, 66] 100 ?_
    refine am_vO am_k255 am_h255 rfl rfl rfl rfl (m_mix) ?_
    refine am_vc_ok am_k255 [44, 66] 100 ?_
    rw [← nI_1 k] at K2
    exact K2
theorem m_sh2 {Q : tQ} {g : Int64} {s n : Nat} (hs : s < 4) (hn : σ 49 0 s = nI n) (hn2 : n ≤ 12) (K : am_G l 255 Q 0 0 72 [(2, aI (nI n)), (1, aI (nI s)), (0, aR 12 0)] [] σ (tH τ (mxI g (fun k w => σ 50 0 (72 * s + 6 * k + w)) 6 n)) (rX t) cX lX) : ∀ (d k : Nat) (v : Int64), k + d = n → v = mxI g (fun k w => σ 50 0 (72 * s + 6 * k + w)) 6 k → am_G l 255 Q 0 0 32 [(2, aI (nI k)), (1, aI (nI s)), (0, aR 12 0)] [] σ (tH τ v) (rX t) cX lX
  | 0, k, v, h, hv => by
    obtain rfl : k = n := by omega
    rw [hv]
    refine am_vc_ok am_k255 [32, 72] 100 ?_
    refine And.intro (vp_in_nI (N := 4) hs (by decide)) ?_
    rw [nI_clamp (n := s) (by omega), hn]
    exact And.intro (fun _ => K) (fun h1 => absurd (Int32.le_refl _) h1)
  | d + 1, k, v, h, hv => by
    have K2 := m_sh2 hs hn hn2 K d (k + 1) (mxN v (fun w => σ 50 0 (72 * s + 6 * k + w)) 6) (by omega) (by rw [hv]; rfl)
    refine am_vc_ok am_k255 [32, 44, 72] 100 ?_
    refine And.intro (vp_in_nI (N := 4) hs (by decide)) ?_
    rw [nI_clamp (n := s) (by omega), hn]
    refine And.intro (fun h1 => absurd h1 (nI_ge (b := n) (by omega) (by omega))) (fun _ => ?_)
    refine m_sh3 (g := v) hs (by omega) ?_ 6 0 _ (by omega) rfl
    refine am_vc_ok am_k255 [32] 100 ?_
    rw [← nI_1 k] at K2
    exact am_Gp [0, 2, 3] rfl K2
def mSh (σ : tI) (s : Nat) (h : Int64) : Int64 := if σ 49 0 s < 0 then mx h (-1) else mxI (mx h (σ 49 0 s)) (fun k w => σ 50 0 (72 * s + 6 * k + w)) 6 (σ 49 0 s).toNatClampNeg
theorem m_sh1 {Q : tQ} {g : Int64} (hR : ∀ s, s < 4 → σ 49 0 s = -9 ∨ ∃ n, n ≤ 12 ∧ σ 49 0 s = nI n) (K : am_G l 255 Q 0 0 78 [(1, aI (nI 4)), (0, aR 12 0)] [] σ (tH τ (fN g (mSh σ) 4)) (rX t) cX lX) : ∀ (d k : Nat) (v : Int64), k + d = 4 → v = fN g (mSh σ) k → am_G l 255 Q 0 0 2 [(1, aI (nI k)), (0, aR 12 0)] [] σ (tH τ v) (rX t) cX lX
  | 0, k, v, h, hv => by
    obtain rfl : k = 4 := by omega
    rw [hv]
    refine am_vc_ok am_k255 [2, 78] 100 ?_
    exact And.intro (fun _ => K) (fun h1 => absurd (show (4 : Int32) ≤ nI 4 by decide) h1)
  | d + 1, k, v, h, hv => by
    have hk : k < 4 := by omega
    have K2 := m_sh1 hR K d (k + 1) (mSh σ k v) (by omega) (by rw [hv]; rfl)
    rw [← nI_1 k] at K2
    rcases hR k hk with z | ⟨n, hn2, z⟩
    · have e : mSh σ k v = mx v (-1) := by unfold mSh; rw [if_pos (by rw [z]; decide)]
      rw [e] at K2
      refine am_vc_ok am_k255 [2, 78] 100 ?_
      refine And.intro (fun h1 => absurd h1 (nI_ge (b := 4) (by omega) (by decide))) (fun _ => ?_)
      refine And.intro (vp_in_nI (N := 4) hk (by decide)) ?_
      rw [nI_clamp (n := k) (by omega), z]
      refine And.intro (fun g => absurd g (by decide)) (fun _ => ?_)
      refine am_vO am_k255 am_h255 rfl rfl rfl rfl (m_mix) ?_
      refine am_vc_ok am_k255 [2, 78] 100 ?_
      refine And.intro (vp_in_nI (N := 4) hk (by decide)) ?_
      rw [nI_clamp (n := k) (by omega), z]
      refine And.intro (fun _ => ?_) (fun g => absurd (by decide) g)
      exact am_Gp [0, 2] rfl K2
    · have e : mSh σ k v = mxI (mx v (nI n)) (fun i w => σ 50 0 (72 * k + 6 * i + w)) 6 n := by
        unfold mSh
        rw [if_neg (by rw [z]; exact nI_pos (by omega)), z, nI_clamp (by omega)]
      rw [e] at K2
      refine am_vc_ok am_k255 [2, 78] 100 ?_
      refine And.intro (fun h1 => absurd h1 (nI_ge (b := 4) (by omega) (by decide))) (fun _ => ?_)
      refine And.intro (vp_in_nI (N := 4) hk (by decide)) ?_
      rw [nI_clamp (n := k) (by omega), z]
      refine And.intro (fun _ => ?_) (fun g => absurd (nI_pos' (by omega)) g)
      refine And.intro (vp_in_nI (N := 4) hk (by decide)) ?_
      rw [nI_clamp (n := k) (by omega), z]
      refine am_vO am_k255 am_h255 rfl rfl rfl rfl m_mix ?_
      refine am_vc_ok am_k255 [2, 32, 78] 100 ?_
      refine m_sh2 (g := mx v (nI n)) hk z hn2 ?_ n 0 _ (by omega) rfl
      refine am_vc_ok am_k255 [2] 100 ?_
      exact am_Gp [0, 2] rfl K2
theorem m_mixShapes {h0 : Int64} (hR : ∀ s, s < 4 → σ 49 0 s = -9 ∨ ∃ n, n ≤ 12 ∧ σ 49 0 s = nI n) : am_D l 255 [aR 12 0] σ (tH τ h0) (rX t) cX lX none σ (tH τ (fN h0 (mSh σ) 4)) (rX t) := by
  refine am_D_of am_o255 am_l255 rfl ?_
  refine am_vc_ok am_k255 [2] 100 ?_
  refine m_sh1 (g := h0) hR ?_ 4 0 _ (by omega) rfl
  refine am_vc_ok am_k255 [] 100 ?_
  exact am_vV am_k255 am_r255 rfl ⟨rfl, rfl, rfl, rfl, rfl, rfl⟩
theorem m_sv2 {Q : tQ} {g : Int64} {a : Nat} (ha : a < 6) (K : am_G l 256 Q 0 0 87 [(2, aI (nI 6)), (1, aI (nI a)), (0, aR 12 0)] [] σ (tH τ (mxN g (fun b => σ 59 0 (6 * a + b)) 6)) (rX t) cX lX) : ∀ (d k : Nat) (v : Int64), k + d = 6 → v = mxN g (fun b => σ 59 0 (6 * a + b)) k → am_G l 256 Q 0 0 60 [(2, aI (nI k)), (1, aI (nI a)), (0, aR 12 0)] [] σ (tH τ v) (rX t) cX lX
  | 0, k, v, h, hv => by
    obtain rfl : k = 6 := by omega
    rw [hv]
    refine am_vc_ok am_k256 [60, 87] 100 ?_
    exact And.intro (fun _ => K) (fun h1 => absurd (show (6 : Int32) ≤ nI 6 by decide) h1)
  | d + 1, k, v, h, hv => by
    have K2 := m_sv2 ha K d (k + 1) (mx v (σ 59 0 (6 * a + k))) (by omega) (by rw [hv]; rfl)
    refine am_vc_ok am_k256 [60, 87] 100 ?_
    refine And.intro (fun h1 => absurd h1 (nI_ge (b := 6) (by omega) (by decide))) (fun _ => ?_)
    refine And.intro (by rw [n6]; exact vp_in_nI (N := 36) (by omega) (by decide)) ?_
    rw [n6, nI_clamp (n := 6 * a + k) (by omega)]
    refine am_vO am_k256 am_h256 rfl rfl rfl rfl (m_mix) ?_
    refine am_vc_ok am_k256 [60, 87] 100 ?_
    rw [← nI_1 k] at K2
    exact K2
end L34

/-! digest: the model's services, calls, frames -/
section L35
variable {l : Launch} {σ σ2 : tI} {τ τ2 : tL} {t : Option (Nat × Nat)}
def mSv (σ : tI) (n a : Nat) (h : Int64) : Int64 := mxV h (σ 57 0 a) (σ 58 0 a) (σ 62 0 a) (σ 63 0 a) (σ 64 0 a) (fun b => σ 59 0 (6 * a + b)) (nI (cntN (fun c => decide (σ 66 0 c = nI a ∧ σ 77 0 c = 1)) n)) (nI (cntN (fun c => decide (σ 66 0 c = nI a ∧ σ 77 0 c = 2)) n)) (nI (cntN (fun c => decide (σ 66 0 c = nI a ∧ σ 12 0 5 ≤ σ 79 0 c)) n))
theorem m_sv1 {Q : tQ} {g : Int64} {n : Nat} (hn : σ 12 0 34 = nI n) (hn2 : n ≤ 30) (K : am_G l 256 Q 0 0 122 [(1, aI (nI 6)), (0, aR 12 0)] [] σ (tH τ (fN g (mSv σ n) 6)) (rX t) cX lX) : ∀ (d k : Nat) (v : Int64), k + d = 6 → v = fN g (mSv σ n) k → am_G l 256 Q 0 0 2 [(1, aI (nI k)), (0, aR 12 0)] [] σ (tH τ v) (rX t) cX lX
  | 0, k, v, h, hv => by
    obtain rfl : k = 6 := by omega
    rw [hv]
    refine am_vc_ok am_k256 [2, 122] 100 ?_
    exact And.intro (fun _ => K) (fun h1 => absurd (show (6 : Int32) ≤ nI 6 by decide) h1)
  | d + 1, k, v, h, hv => by
    have K2 := m_sv1 hn hn2 K d (k + 1) (mSv σ n k v) (by omega) (by rw [hv]; rfl)
    rw [← nI_1 k] at K2
    unfold mSv mxV at K2
    generalize e1 : mx (mx (mx (mx (mx v (σ 57 0 k)) (σ 58 0 k)) (σ 62 0 k)) (σ 63 0 k)) (σ 64 0 k) = g1 at K2
    generalize e2 : mxN g1 (fun b => σ 59 0 (6 * k + b)) 6 = g2 at K2
    refine am_vc_ok am_k256 [2, 60, 122] 100 ?_
    refine And.intro (fun h1 => absurd h1 (nI_ge (b := 6) (by omega) (by decide))) (fun _ => ?_)
    refine And.intro (vp_in_nI (N := 6) (by omega) (by decide)) ?_
    rw [nI_clamp (n := k) (by omega)]
    refine am_vO am_k256 am_h256 rfl rfl rfl rfl (m_mix) ?_
    refine am_vc_ok am_k256 [2, 60, 122] 100 ?_
    refine And.intro (vp_in_nI (N := 6) (by omega) (by decide)) ?_
    rw [nI_clamp (n := k) (by omega)]
    refine am_vO am_k256 am_h256 rfl rfl rfl rfl (m_mix) ?_
    refine am_vc_ok am_k256 [2, 60, 122] 100 ?_
    refine And.intro (vp_in_nI (N := 6) (by omega) (by decide)) ?_
    rw [nI_clamp (n := k) (by omega)]
    refine am_vO am_k256 am_h256 rfl rfl rfl rfl (m_mix) ?_
    refine am_vc_ok am_k256 [2, 60, 122] 100 ?_
    refine And.intro (vp_in_nI (N := 6) (by omega) (by decide)) ?_
    rw [nI_clamp (n := k) (by omega)]
    refine am_vO am_k256 am_h256 rfl rfl rfl rfl (m_mix) ?_
    refine am_vc_ok am_k256 [2, 60, 122] 100 ?_
    refine And.intro (vp_in_nI (N := 6) (by omega) (by decide)) ?_
    rw [nI_clamp (n := k) (by omega)]
    refine am_vO am_k256 am_h256 rfl rfl rfl rfl (m_mix) ?_
    refine am_vc_ok am_k256 [2, 60, 122] 100 ?_
    rw [e1]
    refine m_sv2 (g := g1) (by omega) ?_ 6 0 _ (by omega) rfl
    rw [e2]
    refine am_vc_ok am_k256 [2] 100 ?_
    refine am_vO am_k256 am_h256 rfl rfl rfl rfl (m_placedAt hn hn2) ?_
    refine am_vc_ok am_k256 [2] 100 ?_
    refine am_vO am_k256 am_h256 rfl rfl rfl rfl (m_mix) ?_
    refine am_vc_ok am_k256 [2] 100 ?_
    refine am_vO am_k256 am_h256 rfl rfl rfl rfl (m_placedAt hn hn2) ?_
    refine am_vc_ok am_k256 [2] 100 ?_
    refine am_vO am_k256 am_h256 rfl rfl rfl rfl (m_mix) ?_
    refine am_vc_ok am_k256 [2] 100 ?_
    refine am_vO am_k256 am_h256 rfl rfl rfl rfl (m_keptAt hn hn2) ?_
    refine am_vc_ok am_k256 [2] 100 ?_
    refine am_vO am_k256 am_h256 rfl rfl rfl rfl (m_mix) ?_
    refine am_vc_ok am_k256 [2] 100 ?_
    exact am_Gp [0, 2] rfl K2
theorem m_mixServices {h0 : Int64} {n : Nat} (hn : σ 12 0 34 = nI n) (hn2 : n ≤ 30) : am_D l 256 [aR 12 0] σ (tH τ h0) (rX t) cX lX none σ (tH τ (fN h0 (mSv σ n) 6)) (rX t) := by
  refine am_D_of am_o256 am_l256 rfl ?_
  refine am_vc_ok am_k256 [2] 100 ?_
  refine m_sv1 (g := h0) hn hn2 ?_ 6 0 _ (by omega) rfl
  refine am_vc_ok am_k256 [] 100 ?_
  exact am_vV am_k256 am_r256 rfl ⟨rfl, rfl, rfl, rfl, rfl, rfl⟩
theorem m_ca1 {Q : tQ} {g : Int64} {c : Nat} (hc : c < 30) (K : am_G l 257 Q 0 0 34 [(2, aI (nI 7)), (1, aI (nI c)), (0, aR 12 0)] [] σ (tH τ (mxN g (fun w => σ (ctK w) 0 c) 7)) (rX t) cX lX) : ∀ (d k : Nat) (v : Int64), k + d = 7 → v = mxN g (fun w => σ (ctK w) 0 c) k → am_G l 257 Q 0 0 12 [(2, aI (nI k)), (1, aI (nI c)), (0, aR 12 0)] [] σ (tH τ v) (rX t) cX lX
  | 0, k, v, h, hv => by
    obtain rfl : k = 7 := by omega
    rw [hv]
    refine am_vc_ok am_k257 [12, 34] 100 ?_
    exact And.intro (fun _ => K) (fun h1 => absurd (show (6 : Int32) < nI 7 by decide) h1)
  | d + 1, k, v, h, hv => by
    have K2 := m_ca1 hc K d (k + 1) (mx v (σ (ctK k) 0 c)) (by omega) (by rw [hv]; rfl)
    refine am_vc_ok am_k257 [12, 34] 100 ?_
    refine And.intro (fun h1 => absurd h1 (Int32.not_lt.mpr (nI_le (b := 6) (by omega) (by decide)))) (fun _ => ?_)
    refine am_vO am_k257 am_h257 rfl rfl rfl rfl (m_callTells hc (by omega)) ?_
    refine am_vc_ok am_k257 [12, 34] 100 ?_
    refine am_vO am_k257 am_h257 rfl rfl rfl rfl (m_mix) ?_
    refine am_vc_ok am_k257 [12, 34] 100 ?_
    rw [← nI_1 k] at K2
    exact K2
theorem m_ca2 {Q : tQ} {g : Int64} {c : Nat} (hc : c < 30) (K : am_G l 257 Q 0 0 61 [(2, aI (nI 4)), (1, aI (nI c)), (0, aR 12 0)] [] σ (tH τ (mxN g (fun w => σ 80 0 (4 * c + w)) 4)) (rX t) cX lX) : ∀ (d k : Nat) (v : Int64), k + d = 4 → v = mxN g (fun w => σ 80 0 (4 * c + w)) k → am_G l 257 Q 0 0 36 [(2, aI (nI k)), (1, aI (nI c)), (0, aR 12 0)] [] σ (tH τ v) (rX t) cX lX
  | 0, k, v, h, hv => by
    obtain rfl : k = 4 := by omega
    rw [hv]
    refine am_vc_ok am_k257 [36, 61] 100 ?_
    exact And.intro (fun _ => K) (fun h1 => absurd (show (3 : Int32) < nI 4 by decide) h1)
  | d + 1, k, v, h, hv => by
    have K2 := m_ca2 hc K d (k + 1) (mx v (σ 80 0 (4 * c + k))) (by omega) (by rw [hv]; rfl)
    refine am_vc_ok am_k257 [36, 61] 100 ?_
    refine And.intro (fun h1 => absurd h1 (Int32.not_lt.mpr (nI_le (b := 3) (by omega) (by decide)))) (fun _ => ?_)
    refine And.intro (by rw [n4]; exact vp_in_nI (N := 120) (by omega) (by decide)) ?_
    rw [n4, nI_clamp (n := 4 * c + k) (by omega)]
    refine am_vO am_k257 am_h257 rfl rfl rfl rfl (m_mix) ?_
    refine am_vc_ok am_k257 [36, 61] 100 ?_
    rw [← nI_1 k] at K2
    exact K2
theorem m_ca3 {Q : tQ} {g : Int64} {c : Nat} (hc : c < 30) (K : am_G l 257 Q 0 0 84 [(2, aI (nI 3)), (1, aI (nI c)), (0, aR 12 0)] [] σ (tH τ (mxN g (fun w => σ (81 + w) 0 c) 3)) (rX t) cX lX) : ∀ (d k : Nat) (v : Int64), k + d = 3 → v = mxN g (fun w => σ (81 + w) 0 c) k → am_G l 257 Q 0 0 63 [(2, aI (nI k)), (1, aI (nI c)), (0, aR 12 0)] [] σ (tH τ v) (rX t) cX lX
  | 0, k, v, h, hv => by
    obtain rfl : k = 3 := by omega
    rw [hv]
    refine am_vc_ok am_k257 [63, 84] 100 ?_
    exact And.intro (fun _ => K) (fun h1 => absurd (show (2 : Int32) < nI 3 by decide) h1)
  | d + 1, k, v, h, hv => by
    have K2 := m_ca3 hc K d (k + 1) (mx v (σ (81 + k) 0 c)) (by omega) (by rw [hv]; rfl)
    refine am_vc_ok am_k257 [63, 84] 100 ?_
    refine And.intro (fun h1 => absurd h1 (Int32.not_lt.mpr (nI_le (b := 2) (by omega) (by decide)))) (fun _ => ?_)
    refine am_vO am_k257 am_h257 rfl rfl rfl rfl (m_streamTells hc (by omega)) ?_
    refine am_vc_ok am_k257 [63, 84] 100 ?_
    refine am_vO am_k257 am_h257 rfl rfl rfl rfl (m_mix) ?_
    refine am_vc_ok am_k257 [63, 84] 100 ?_
    rw [← nI_1 k] at K2
    exact K2
theorem m_fr2 {Q : tQ} {g : Int64} {c : Nat} (hc : c < 1200) (K : am_G l 257 Q 0 0 123 [(2, aI (nI 5)), (1, aI (nI c)), (0, aR 12 0)] [] σ (tH τ (mxN g (fun w => σ (84 + w) 0 c) 5)) (rX t) cX lX) : ∀ (d k : Nat) (v : Int64), k + d = 5 → v = mxN g (fun w => σ (84 + w) 0 c) k → am_G l 257 Q 0 0 102 [(2, aI (nI k)), (1, aI (nI c)), (0, aR 12 0)] [] σ (tH τ v) (rX t) cX lX
  | 0, k, v, h, hv => by
    obtain rfl : k = 5 := by omega
    rw [hv]
    refine am_vc_ok am_k257 [102, 123] 100 ?_
    exact And.intro (fun _ => K) (fun h1 => absurd (show (4 : Int32) < nI 5 by decide) h1)
  | d + 1, k, v, h, hv => by
    have K2 := m_fr2 hc K d (k + 1) (mx v (σ (84 + k) 0 c)) (by omega) (by rw [hv]; rfl)
    refine am_vc_ok am_k257 [102, 123] 100 ?_
    refine And.intro (fun h1 => absurd h1 (Int32.not_lt.mpr (nI_le (b := 4) (by omega) (by decide)))) (fun _ => ?_)
    refine am_vO am_k257 am_h257 rfl rfl rfl rfl (m_frameTells hc (by omega)) ?_
    refine am_vc_ok am_k257 [102, 123] 100 ?_
    refine am_vO am_k257 am_h257 rfl rfl rfl rfl (m_mix) ?_
    refine am_vc_ok am_k257 [102, 123] 100 ?_
    rw [← nI_1 k] at K2
    exact K2
def mCa (σ : tI) (c : Nat) (h : Int64) : Int64 := mxN (mxN (mxN h (fun w => σ (ctK w) 0 c) 7) (fun w => σ 80 0 (4 * c + w)) 4) (fun w => σ (81 + w) 0 c) 3
def mFr (σ : tI) (f : Nat) (h : Int64) : Int64 := mxN h (fun w => σ (84 + w) 0 f) 5
theorem m_ca0 {Q : tQ} {g : Int64} {n : Nat} (hn : σ 12 0 34 = nI n) (hn2 : n ≤ 30) (K : am_G l 257 Q 0 0 90 [(1, aI (nI n)), (0, aR 12 0)] [] σ (tH τ (fN g (mCa σ) n)) (rX t) cX lX) : ∀ (d k : Nat) (v : Int64), k + d = n → v = fN g (mCa σ) k → am_G l 257 Q 0 0 2 [(1, aI (nI k)), (0, aR 12 0)] [] σ (tH τ v) (rX t) cX lX
  | 0, k, v, h, hv => by
    obtain rfl : k = n := by omega
    rw [hv]
    refine am_vc_ok am_k257 [2, 90] 100 ?_
    exact And.intro (fun _ => K) (fun h1 => absurd (by rw [hn]; exact Int32.le_refl _) h1)
  | d + 1, k, v, h, hv => by
    have K2 := m_ca0 hn hn2 K d (k + 1) (mCa σ k v) (by omega) (by rw [hv]; rfl)
    rw [← nI_1 k] at K2
    unfold mCa at K2
    generalize e1 : mxN v (fun w => σ (ctK w) 0 k) 7 = g1 at K2
    generalize e2 : mxN g1 (fun w => σ 80 0 (4 * k + w)) 4 = g2 at K2
    generalize e3 : mxN g2 (fun w => σ (81 + w) 0 k) 3 = g3 at K2
    refine am_vc_ok am_k257 [2, 12, 90] 100 ?_
    refine And.intro (fun h1 => absurd h1 (by rw [hn]; exact nI_ge (b := n) (by omega) (by omega))) (fun _ => ?_)
    refine m_ca1 (g := v) (by omega) ?_ 7 0 _ (by omega) rfl
    rw [e1]
    refine am_vc_ok am_k257 [36] 100 ?_
    refine m_ca2 (g := g1) (by omega) ?_ 4 0 _ (by omega) rfl
    rw [e2]
    refine am_vc_ok am_k257 [63] 100 ?_
    refine m_ca3 (g := g2) (by omega) ?_ 3 0 _ (by omega) rfl
    rw [e3]
    refine am_vc_ok am_k257 [2] 100 ?_
    exact am_Gp [0, 2] rfl K2
theorem m_fr1 {Q : tQ} {g : Int64} {m : Nat} (hm : σ 12 0 54 = nI m) (hm2 : m ≤ 690) (K : am_G l 257 Q 0 0 129 [(1, aI (nI m)), (0, aR 12 0)] [] σ (tH τ (fN g (mFr σ) m)) (rX t) cX lX) : ∀ (d k : Nat) (v : Int64), k + d = m → v = fN g (mFr σ) k → am_G l 257 Q 0 0 92 [(1, aI (nI k)), (0, aR 12 0)] [] σ (tH τ v) (rX t) cX lX
  | 0, k, v, h, hv => by
    obtain rfl : k = m := by omega
    rw [hv]
    refine am_vc_ok am_k257 [92, 129] 100 ?_
    exact And.intro (fun _ => K) (fun h1 => absurd (by rw [hm]; exact Int32.le_refl _) h1)
  | d + 1, k, v, h, hv => by
    have K2 := m_fr1 hm hm2 K d (k + 1) (mFr σ k v) (by omega) (by rw [hv]; rfl)
    rw [← nI_1 k] at K2
    unfold mFr at K2
    refine am_vc_ok am_k257 [92, 102, 129] 100 ?_
    refine And.intro (fun h1 => absurd h1 (by rw [hm]; exact nI_ge (b := m) (by omega) (by omega))) (fun _ => ?_)
    refine m_fr2 (g := v) (by omega) ?_ 5 0 _ (by omega) rfl
    refine am_vc_ok am_k257 [92] 100 ?_
    exact am_Gp [0, 2] rfl K2
theorem m_mixCalls {h0 : Int64} {n m : Nat} (hn : σ 12 0 34 = nI n) (hn2 : n ≤ 30) (hm : σ 12 0 54 = nI m) (hm2 : m ≤ 690) : am_D l 257 [aR 12 0] σ (tH τ h0) (rX t) cX lX none σ (tH τ (fN (fN h0 (mCa σ) n) (mFr σ) m)) (rX t) := by
  generalize e1 : fN h0 (mCa σ) n = g1
  generalize e2 : fN g1 (mFr σ) m = g2
  refine am_D_of am_o257 am_l257 rfl ?_
  refine am_vc_ok am_k257 [2] 100 ?_
  refine m_ca0 (g := h0) hn hn2 ?_ n 0 _ (by omega) rfl
  rw [e1]
  refine am_vc_ok am_k257 [92] 100 ?_
  refine am_Gp (ls2 := [(1, aI (nI 0)), (0, aR 12 0)]) [0, 1] rfl ?_
  refine m_fr1 (g := g1) hm hm2 ?_ m 0 _ (by omega) rfl
  rw [e2]
  refine am_vc_ok am_k257 [] 100 ?_
  exact am_vV am_k257 am_r257 rfl ⟨rfl, rfl, rfl, rfl, rfl, rfl⟩
def mRw (σ : tI) (K1 K2 r : Nat) (h : Int64) : Int64 := if σ K1 0 r < 0 then mx h (-1) else mxN (mx h (σ K1 0 r)) (fun j => σ K2 0 (60 * r + j)) (σ K1 0 r).toNatClampNeg
theorem m_dg6_i {Q : tQ} {g : Int64} {r n : Nat} (hr : r < 6) (hn : σ 44 0 r = nI n) (hn2 : n ≤ 60) (K : am_G l 258 Q 0 0 106 [(2, aI (nI n)), (1, aI (nI r)), (0, aR 12 0)] [] σ (tH τ (mxN g (fun j => σ 45 0 (60 * r + j)) n)) (rX t) cX lX) : ∀ (d k : Nat) (v : Int64), k + d = n → v = mxN g (fun j => σ 45 0 (60 * r + j)) k → am_G l 258 Q 0 0 75 [(2, aI (nI k)), (1, aI (nI r)), (0, aR 12 0)] [] σ (tH τ v) (rX t) cX lX
  | 0, k, v, h, hv => by
    obtain rfl : k = n := by omega
    rw [hv]
    refine am_vc_ok am_k258 [75, 106] 100 ?_
    refine And.intro (vp_in_nI (N := 6) hr (by decide)) ?_
    rw [nI_clamp (n := r) (by omega), hn]
    exact And.intro (fun _ => K) (fun h1 => absurd (Int32.le_refl _) h1)
  | d + 1, k, v, h, hv => by
    have K2 := m_dg6_i hr hn hn2 K d (k + 1) (mx v (σ 45 0 (60 * r + k))) (by omega) (by rw [hv]; rfl)
    refine am_vc_ok am_k258 [75, 106] 100 ?_
    refine And.intro (vp_in_nI (N := 6) hr (by decide)) ?_
    rw [nI_clamp (n := r) (by omega), hn]
    refine And.intro (fun h1 => absurd h1 (nI_ge (b := n) (by omega) (by omega))) (fun _ => ?_)
    refine And.intro (by rw [n60]; exact vp_in_nI (N := 360) (by omega) (by decide)) ?_
    rw [n60, nI_clamp (n := 60 * r + k) (by omega)]
    refine am_vO am_k258 am_h258 rfl rfl rfl rfl (m_mix) ?_
    refine am_vc_ok am_k258 [75, 106] 100 ?_
    rw [← nI_1 k] at K2
    exact K2
theorem m_dg6 {Q : tQ} {g : Int64} (hR : ∀ s, s < 6 → σ 44 0 s = -9 ∨ ∃ n, n ≤ 60 ∧ σ 44 0 s = nI n) (K : am_G l 258 Q 0 0 112 [(1, aI (nI 6)), (0, aR 12 0)] [] σ (tH τ (fN g (mRw σ 44 45) 6)) (rX t) cX lX) : ∀ (d k : Nat) (v : Int64), k + d = 6 → v = fN g (mRw σ 44 45) k → am_G l 258 Q 0 0 44 [(1, aI (nI k)), (0, aR 12 0)] [] σ (tH τ v) (rX t) cX lX
  | 0, k, v, h, hv => by
    obtain rfl : k = 6 := by omega
    rw [hv]
    refine am_vc_ok am_k258 [44, 112] 100 ?_
    exact And.intro (fun _ => K) (fun h1 => absurd (show (6 : Int32) ≤ nI 6 by decide) h1)
  | d + 1, k, v, h, hv => by
    have hk : k < 6 := by omega
    have K2 := m_dg6 hR K d (k + 1) (mRw σ 44 45 k v) (by omega) (by rw [hv]; rfl)
    rw [← nI_1 k] at K2
    rcases hR k hk with z | ⟨n, hn2, z⟩
    · have e : mRw σ 44 45 k v = mx v (-1) := by unfold mRw; rw [if_pos (by rw [z]; decide)]
      rw [e] at K2
      refine am_vc_ok am_k258 [44, 112] 100 ?_
      refine And.intro (fun h1 => absurd h1 (nI_ge (b := 6) (by omega) (by decide))) (fun _ => ?_)
      refine And.intro (vp_in_nI (N := 6) hk (by decide)) ?_
      rw [nI_clamp (n := k) (by omega), z]
      refine And.intro (fun g => absurd g (by decide)) (fun _ => ?_)
      refine am_vO am_k258 am_h258 rfl rfl rfl rfl (m_mix) ?_
      refine am_vc_ok am_k258 [44, 112] 100 ?_
      refine And.intro (vp_in_nI (N := 6) hk (by decide)) ?_
      rw [nI_clamp (n := k) (by omega), z]
      refine And.intro (fun _ => ?_) (fun g => absurd (by decide) g)
      exact am_Gp [0, 2] rfl K2
    · have e : mRw σ 44 45 k v = mxN (mx v (nI n)) (fun j => σ 45 0 (60 * k + j)) n := by
        unfold mRw
        rw [if_neg (by rw [z]; exact nI_pos (by omega)), z, nI_clamp (by omega)]
      rw [e] at K2
      refine am_vc_ok am_k258 [44, 112] 100 ?_
      refine And.intro (fun h1 => absurd h1 (nI_ge (b := 6) (by omega) (by decide))) (fun _ => ?_)
      refine And.intro (vp_in_nI (N := 6) hk (by decide)) ?_
      rw [nI_clamp (n := k) (by omega), z]
      refine And.intro (fun _ => ?_) (fun g => absurd (nI_pos' (by omega)) g)
      refine And.intro (vp_in_nI (N := 6) hk (by decide)) ?_
      rw [nI_clamp (n := k) (by omega), z]
      refine am_vO am_k258 am_h258 rfl rfl rfl rfl m_mix ?_
      refine am_vc_ok am_k258 [44, 75, 112] 100 ?_
      refine m_dg6_i (g := mx v (nI n)) hk z hn2 ?_ n 0 _ (by omega) rfl
      refine am_vc_ok am_k258 [44] 100 ?_
      exact am_Gp [0, 2] rfl K2
theorem m_dg7_i {Q : tQ} {g : Int64} {r n : Nat} (hr : r < 6) (hn : σ 47 0 r = nI n) (hn2 : n ≤ 60) (K : am_G l 258 Q 0 0 176 [(2, aI (nI n)), (1, aI (nI r)), (0, aR 12 0)] [] σ (tH τ (mxN g (fun j => σ 48 0 (60 * r + j)) n)) (rX t) cX lX) : ∀ (d k : Nat) (v : Int64), k + d = n → v = mxN g (fun j => σ 48 0 (60 * r + j)) k → am_G l 258 Q 0 0 145 [(2, aI (nI k)), (1, aI (nI r)), (0, aR 12 0)] [] σ (tH τ v) (rX t) cX lX
  | 0, k, v, h, hv => by
    obtain rfl : k = n := by omega
    rw [hv]
    refine am_vc_ok am_k258 [145, 176] 100 ?_
    refine And.intro (vp_in_nI (N := 6) hr (by decide)) ?_
    rw [nI_clamp (n := r) (by omega), hn]
    exact And.intro (fun _ => K) (fun h1 => absurd (Int32.le_refl _) h1)
  | d + 1, k, v, h, hv => by
    have K2 := m_dg7_i hr hn hn2 K d (k + 1) (mx v (σ 48 0 (60 * r + k))) (by omega) (by rw [hv]; rfl)
    refine am_vc_ok am_k258 [145, 176] 100 ?_
    refine And.intro (vp_in_nI (N := 6) hr (by decide)) ?_
    rw [nI_clamp (n := r) (by omega), hn]
    refine And.intro (fun h1 => absurd h1 (nI_ge (b := n) (by omega) (by omega))) (fun _ => ?_)
    refine And.intro (by rw [n60]; exact vp_in_nI (N := 360) (by omega) (by decide)) ?_
    rw [n60, nI_clamp (n := 60 * r + k) (by omega)]
    refine am_vO am_k258 am_h258 rfl rfl rfl rfl (m_mix) ?_
    refine am_vc_ok am_k258 [145, 176] 100 ?_
    rw [← nI_1 k] at K2
    exact K2
theorem m_dg7 {Q : tQ} {g : Int64} (hR : ∀ s, s < 6 → σ 47 0 s = -9 ∨ ∃ n, n ≤ 60 ∧ σ 47 0 s = nI n) (K : am_G l 258 Q 0 0 182 [(1, aI (nI 6)), (0, aR 12 0)] [] σ (tH τ (fN g (mRw σ 47 48) 6)) (rX t) cX lX) : ∀ (d k : Nat) (v : Int64), k + d = 6 → v = fN g (mRw σ 47 48) k → am_G l 258 Q 0 0 114 [(1, aI (nI k)), (0, aR 12 0)] [] σ (tH τ v) (rX t) cX lX
  | 0, k, v, h, hv => by
    obtain rfl : k = 6 := by omega
    rw [hv]
    refine am_vc_ok am_k258 [114, 182] 100 ?_
    exact And.intro (fun _ => K) (fun h1 => absurd (show (6 : Int32) ≤ nI 6 by decide) h1)
  | d + 1, k, v, h, hv => by
    have hk : k < 6 := by omega
    have K2 := m_dg7 hR K d (k + 1) (mRw σ 47 48 k v) (by omega) (by rw [hv]; rfl)
    rw [← nI_1 k] at K2
    rcases hR k hk with z | ⟨n, hn2, z⟩
    · have e : mRw σ 47 48 k v = mx v (-1) := by unfold mRw; rw [if_pos (by rw [z]; decide)]
      rw [e] at K2
      refine am_vc_ok am_k258 [114, 182] 100 ?_
      refine And.intro (fun h1 => absurd h1 (nI_ge (b := 6) (by omega) (by decide))) (fun _ => ?_)
      refine And.intro (vp_in_nI (N := 6) hk (by decide)) ?_
      rw [nI_clamp (n := k) (by omega), z]
      refine And.intro (fun g => absurd g (by decide)) (fun _ => ?_)
      refine am_vO am_k258 am_h258 rfl rfl rfl rfl (m_mix) ?_
      refine am_vc_ok am_k258 [114, 182] 100 ?_
      refine And.intro (vp_in_nI (N := 6) hk (by decide)) ?_
      rw [nI_clamp (n := k) (by omega), z]
      refine And.intro (fun _ => ?_) (fun g => absurd (by decide) g)
      exact am_Gp [0, 2] rfl K2
    · have e : mRw σ 47 48 k v = mxN (mx v (nI n)) (fun j => σ 48 0 (60 * k + j)) n := by
        unfold mRw
        rw [if_neg (by rw [z]; exact nI_pos (by omega)), z, nI_clamp (by omega)]
      rw [e] at K2
      refine am_vc_ok am_k258 [114, 182] 100 ?_
      refine And.intro (fun h1 => absurd h1 (nI_ge (b := 6) (by omega) (by decide))) (fun _ => ?_)
      refine And.intro (vp_in_nI (N := 6) hk (by decide)) ?_
      rw [nI_clamp (n := k) (by omega), z]
      refine And.intro (fun _ => ?_) (fun g => absurd (nI_pos' (by omega)) g)
      refine And.intro (vp_in_nI (N := 6) hk (by decide)) ?_
      rw [nI_clamp (n := k) (by omega), z]
      refine am_vO am_k258 am_h258 rfl rfl rfl rfl m_mix ?_
      refine am_vc_ok am_k258 [114, 145, 182] 100 ?_
      refine m_dg7_i (g := mx v (nI n)) hk z hn2 ?_ n 0 _ (by omega) rfl
      refine am_vc_ok am_k258 [114] 100 ?_
      exact am_Gp [0, 2] rfl K2
theorem m_dg1 {Q : tQ} {g : Int64} {C : Nat → Int32} (hC : ∀ w τ, w < 9 → am_D l 250 [aR 12 0, aI (nI w)] σ τ (rX t) cX lX (some (aI (C w))) σ τ (rX t)) (K : am_G l 258 Q 0 0 30 [(1, aI (nI 9)), (0, aR 12 0)] [] σ (tH τ (fN g (fun k h => mx h (C k)) 9)) (rX t) cX lX) : ∀ (d k : Nat) (v : Int64), k + d = 9 → v = fN g (fun k h => mx h (C k)) k → am_G l 258 Q 0 0 9 [(1, aI (nI k)), (0, aR 12 0)] [] σ (tH τ v) (rX t) cX lX
  | 0, k, v, h, hv => by
    obtain rfl : k = 9 := by omega
    rw [hv]
    refine am_vc_ok am_k258 [9, 30] 100 ?_
    exact And.intro (fun _ => K) (fun h1 => absurd (show (8 : Int32) < nI 9 by decide) h1)
  | d + 1, k, v, h, hv => by
    have K2 := m_dg1 hC K d (k + 1) ((fun k h => mx h (C k)) k v) (by omega) (by rw [hv]; rfl)
    refine am_vc_ok am_k258 [9, 30] 100 ?_
    refine And.intro (fun h1 => absurd h1 (Int32.not_lt.mpr (nI_le (b := 8) (by omega) (by decide)))) (fun _ => ?_)
    refine am_vO am_k258 am_h258 rfl rfl rfl rfl (hC k _ (by omega)) ?_
    refine am_vc_ok am_k258 [9, 30] 100 ?_
    refine am_vO am_k258 am_h258 rfl rfl rfl rfl (m_mix) ?_
    refine am_vc_ok am_k258 [9, 30] 100 ?_
    rw [← nI_1 k] at K2
    exact K2
/-- the model's digest -/
def mDg (σ : tI) (C : Nat → Int32) (n m : Nat) : Int64 := fN (fN (fN (fN (fN (fN (fN 17 (fun k h => mx h (C k)) 9) (mSh σ) 4) (mSv σ n) 6) (mCa σ) n) (mFr σ) m) (mRw σ 44 45) 6) (mRw σ 47 48) 6
theorem m_digest {C : Nat → Int32} {n m : Nat} (hC : ∀ w τ, w < 9 → am_D l 250 [aR 12 0, aI (nI w)] σ τ (rX t) cX lX (some (aI (C w))) σ τ (rX t)) (hS : ∀ s, s < 4 → σ 49 0 s = -9 ∨ ∃ n, n ≤ 12 ∧ σ 49 0 s = nI n) (hn : σ 12 0 34 = nI n) (hn2 : n ≤ 30) (hm : σ 12 0 54 = nI m) (hm2 : m ≤ 690) (hR : ∀ s, s < 6 → σ 44 0 s = -9 ∨ ∃ n, n ≤ 60 ∧ σ 44 0 s = nI n) (hT : ∀ s, s < 6 → σ 47 0 s = -9 ∨ ∃ n, n ≤ 60 ∧ σ 47 0 s = nI n) : am_D l 258 [aR 12 0] σ τ (rX t) cX lX (some (aL (mDg σ C n m))) σ (tH τ (mDg σ C n m)) (rX t) := by
  unfold mDg
  generalize e1 : fN 17 (fun k h => mx h (C k)) 9 = g1
  generalize e2 : fN g1 (mSh σ) 4 = g2
  generalize e3 : fN g2 (mSv σ n) 6 = g3
  generalize e4 : fN g3 (mCa σ) n = g4
  generalize e5 : fN g4 (mFr σ) m = g5
  generalize e6 : fN g5 (mRw σ 44 45) 6 = g6
  generalize e7 : fN g6 (mRw σ 47 48) 6 = g7
  have z1 := m_mixShapes (l := l) (σ := σ) (τ := τ) (t := t) (h0 := g1) hS
  rw [e2] at z1
  have z2 := m_mixServices (l := l) (σ := σ) (τ := τ) (t := t) (h0 := g2) hn hn2
  rw [e3] at z2
  have z3 := m_mixCalls (l := l) (σ := σ) (τ := τ) (t := t) (h0 := g3) hn hn2 hm hm2
  rw [e4, e5] at z3
  refine am_D_of am_o258 am_l258 rfl ?_
  refine am_vc_ok am_k258 [9] 100 ?_
  refine m_dg1 (g := 17) hC ?_ 9 0 _ (by omega) rfl
  rw [e1]
  refine am_vc_ok am_k258 [44] 100 ?_
  refine am_vO am_k258 am_h258 rfl rfl rfl rfl (z1) ?_
  refine am_vc_ok am_k258 [44] 100 ?_
  refine am_vO am_k258 am_h258 rfl rfl rfl rfl (z2) ?_
  refine am_vc_ok am_k258 [44] 100 ?_
  refine am_vO am_k258 am_h258 rfl rfl rfl rfl (z3) ?_
  refine am_vc_ok am_k258 [44] 100 ?_
  refine am_Gp (ls2 := [(1, aI (nI 0)), (0, aR 12 0)]) [0, 1] rfl ?_
  refine m_dg6 (g := g5) hR ?_ 6 0 _ (by omega) rfl
  rw [e6]
  refine am_vc_ok am_k258 [114] 100 ?_
  refine am_Gp (ls2 := [(1, aI (nI 0)), (0, aR 12 0)]) [0, 1] rfl ?_
  refine m_dg7 (g := g6) hT ?_ 6 0 _ (by omega) rfl
  rw [e7]
  refine am_vc_ok am_k258 [] 100 ?_
  refine am_vL am_k258 am_r258 rfl ⟨?_, rfl, rfl, rfl, rfl, rfl⟩
  simp [tH, u3]
end L35
