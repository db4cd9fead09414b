/-! CASES OF THE LAW: unlike, fits (the model's side) -/
section L27
variable {l : Launch} {σ σ2 s : tI} {τ τ2 : tL} {t : Option (Nat × Nat)}
def badM (so ch pr : Nat → Int32) (one other : Option Nat) : Bool := match other with
  | none => false
  | some q => match likeO so (so q) one with
    | none => decide (pr q < 0)
    | some o => decide (so o = 3) && decide (ch q < ch o)
def nmd (σ : tI) (s n : Nat) (v a : Int32) : Option Nat := lastM (inP (mA σ s 3) (mA σ s 4) (mA σ s 0) v a) n
theorem nmd_lt {s n k : Nat} {v a : Int32} (h : nmd σ s n v a = some k) : k < n := (lastM_some h).1
def badA (σ : tI) (s n : Nat) (w v : Int32) : Nat → Bool := fun a => badM (mA σ s 1) (mA σ s 2) (mA σ s 5) (nmd σ s n w (nI a)) (nmd σ s n v (nI a))
theorem m_nmd {s n : Nat} {v a : Int32} (hs : s < 4) (hn : σ 49 0 s = nI n) (hn2 : n ≤ 12) : am_D l 185 [aR 12 0, aI (nI s), aI v, aI a] σ τ (rX t) cX lX (some (aI (pI (nmd σ s n v a)))) σ τ (rX t) := m_named hs hn hn2
set_option maxHeartbeats 4000000 in
theorem m_unN_lpB {Q : tQ} {s n : Nat} {w v : Int32} (hs : s < 4) (hn : σ 49 0 s = nI n) (hn2 : n ≤ 12) (hQ : Q (some (aI (fstI (badA σ s n w v) 16 0))) σ τ (rX t) cX lX) : ∀ (d a : Nat) (m5 m6 m7 : Int32), a + d = 16 → fstI (badA σ s n w v) d a = fstI (badA σ s n w v) 16 0 → am_G l 194 Q 0 0 3 [(4, aI (nI a)), (7, aI m7), (6, aI m6), (5, aI m5), (0, aR 12 0), (1, aI (nI s)), (2, aI w), (3, aI v)] [] σ τ (rX t) cX lX
  | 0, a, m5, m6, m7, h, hf => by
    obtain rfl : a = 16 := by omega
    refine am_vc_ok am_k194 [3] 100 ?_
    refine And.intro (fun _ => ?_) (fun h1 => absurd (show (16 : Int32) ≤ nI 16 by decide) h1)
    refine am_vI am_k194 am_r194 rfl ?_
    rw [← hf] at hQ
    exact hQ
  | d + 1, a, m5, m6, m7, h, hf => by
    refine am_vc_ok am_k194 [3] 100 ?_
    refine And.intro (fun h1 => absurd h1 (nI_ge (b := 16) (by omega) (by decide))) (fun _ => ?_)
    refine am_vO am_k194 am_h194 rfl rfl rfl rfl (m_nmd (v := w) (a := nI a) hs hn hn2) ?_
    refine am_vc_ok am_k194 [3] 100 ?_
    refine am_vO am_k194 am_h194 rfl rfl rfl rfl (m_nmd (v := v) (a := nI a) hs hn hn2) ?_
    refine am_vc_ok am_k194 [3] 100 ?_
    cases h2 : nmd σ s n v (nI a) with
    | none =>
      have hbad : badA σ s n w v a = false := by unfold badA; rw [h2]; rfl
      cases h1 : nmd σ s n w (nI a) with
      | none =>
        refine And.intro (fun _ => ?_) (fun g => absurd (by decide) g)
        refine And.intro (fun _ => ?_) (fun g => absurd (by decide) g)
        refine And.intro (fun _ => ?_) (fun g => absurd rfl g)
        have K2 := m_unN_lpB hs hn hn2 hQ d (a + 1) (-9) (-9) 0 (by omega) (by rw [← hf, fstI, if_neg (by rw [hbad]; decide)])
        rw [← nI_1 a] at K2
        exact K2
      | some o =>
        have ho := nmd_lt h1
        refine And.intro (fun g => absurd g (nI_pos (n := o) (by omega))) (fun _ => ?_)
        refine And.intro (fun _ => ?_) (fun g => absurd (by decide) g)
        refine And.intro (fun _ => ?_) (fun g => absurd (by decide) g)
        refine And.intro (fun _ => ?_) (fun g => absurd rfl g)
        have K2 := m_unN_lpB hs hn hn2 hQ d (a + 1) (nI o) (-9) 0 (by omega) (by rw [← hf, fstI, if_neg (by rw [hbad]; decide)])
        rw [← nI_1 a] at K2
        exact K2
    | some q =>
      have hq := nmd_lt h2
      cases h1 : nmd σ s n w (nI a) with
      | none =>
        have hbad : badA σ s n w v a = decide (mA σ s 5 q < 0) := by unfold badA; rw [h2, h1]; rfl
        refine And.intro (fun _ => ?_) (fun g => absurd (by decide) g)
        refine And.intro (fun g => absurd g (nI_pos (n := q) (by omega))) (fun _ => ?_)
        refine am_vO am_k194 am_h194 rfl rfl rfl rfl (m_part (i := q) (w := 5) hs (by omega) (by decide)) ?_
        refine am_vc_ok am_k194 [3] 100 ?_
        refine And.intro (fun z => ?_) (fun z => ?_)
        · have z : ¬ mA σ s 5 q < 0 := Int32.not_lt.mpr z
          refine And.intro (fun _ => ?_) (fun g => absurd rfl g)
          have K2 := m_unN_lpB hs hn hn2 hQ d (a + 1) (-9) (nI q) 0 (by omega) (by rw [← hf, fstI, if_neg (by rw [hbad]; simp [z])])
          rw [← nI_1 a] at K2
          exact K2
        · have z : mA σ s 5 q < 0 := Int32.not_le.mp z
          refine And.intro (fun _ => ?_) (fun g => absurd rfl g)
          refine am_vI am_k194 am_r194 rfl ?_
          rw [← hf, fstI, if_pos (by rw [hbad]; simp [z])] at hQ
          exact hQ
      | some o =>
        have ho := nmd_lt h1
        refine And.intro (fun g => absurd g (nI_pos (n := o) (by omega))) (fun _ => ?_)
        refine And.intro (fun g => absurd g (nI_pos (n := q) (by omega))) (fun _ => ?_)
        refine am_vO am_k194 am_h194 rfl rfl rfl rfl (m_part (i := o) (w := 1) hs (by omega) (by decide)) ?_
        refine am_vc_ok am_k194 [3] 100 ?_
        refine am_vO am_k194 am_h194 rfl rfl rfl rfl (m_part (i := q) (w := 1) hs (by omega) (by decide)) ?_
        refine am_vc_ok am_k194 [3] 100 ?_
        refine And.intro (fun y => ?_) (fun y => ?_)
        · have y : mA σ s 1 o = mA σ s 1 q := y
          have hbad : badA σ s n w v a = (decide (mA σ s 1 o = 3) && decide (mA σ s 2 q < mA σ s 2 o)) := by unfold badA badM; rw [h2, h1]; simp only [likeO, if_pos y]
          refine And.intro (fun g => absurd g (nI_pos (n := q) (by omega))) (fun _ => ?_)
          refine am_vO am_k194 am_h194 rfl rfl rfl rfl (m_part (i := q) (w := 5) hs (by omega) (by decide)) ?_
          refine am_vc_ok am_k194 [3, 87] 100 ?_
          have fin : am_G l 194 Q 0 0 87 [(7, aI 1), (6, aI (nI q)), (5, aI (nI o)), (4, aI (nI a)), (0, aR 12 0), (1, aI (nI s)), (2, aI w), (3, aI v)] [] σ τ (rX t) cX lX := by
            refine am_vc_ok am_k194 [3] 100 ?_
            refine And.intro (fun g => absurd g (by decide)) (fun _ => ?_)
            refine am_vO am_k194 am_h194 rfl rfl rfl rfl (m_part (i := o) (w := 1) hs (by omega) (by decide)) ?_
            refine am_vc_ok am_k194 [3] 100 ?_
            refine And.intro (fun x => ?_) (fun x => ?_)
            · have x : mA σ s 1 o = 3 := x
              refine am_vO am_k194 am_h194 rfl rfl rfl rfl (m_part (i := o) (w := 2) hs (by omega) (by decide)) ?_
              refine am_vc_ok am_k194 [3] 100 ?_
              refine am_vO am_k194 am_h194 rfl rfl rfl rfl (m_part (i := q) (w := 2) hs (by omega) (by decide)) ?_
              refine am_vc_ok am_k194 [3] 100 ?_
              refine And.intro (fun u => ?_) (fun u => ?_)
              · have u : ¬ mA σ s 2 q < mA σ s 2 o := Int32.not_lt.mpr u
                have K2 := m_unN_lpB hs hn hn2 hQ d (a + 1) (nI o) (nI q) 1 (by omega) (by rw [← hf, fstI, if_neg (by rw [hbad]; simp [u])])
                rw [← nI_1 a] at K2
                exact K2
              · have u : mA σ s 2 q < mA σ s 2 o := Int32.not_le.mp u
                refine am_vI am_k194 am_r194 rfl ?_
                rw [← hf, fstI, if_pos (by rw [hbad]; simp [x, u])] at hQ
                exact hQ
            · have x : ¬ mA σ s 1 o = 3 := x
              have K2 := m_unN_lpB hs hn hn2 hQ d (a + 1) (nI o) (nI q) 1 (by omega) (by rw [← hf, fstI, if_neg (by rw [hbad]; simp [x])])
              rw [← nI_1 a] at K2
              exact K2
          refine And.intro (fun _ => ?_) (fun _ => ?_)
          · exact fin
          · refine And.intro (fun g => absurd g (by decide)) (fun _ => ?_)
            exact fin
        · have y : ¬ mA σ s 1 o = mA σ s 1 q := y
          have hbad : badA σ s n w v a = decide (mA σ s 5 q < 0) := by unfold badA badM; rw [h2, h1]; simp only [likeO, if_neg y]
          refine And.intro (fun g => absurd g (nI_pos (n := q) (by omega))) (fun _ => ?_)
          refine am_vO am_k194 am_h194 rfl rfl rfl rfl (m_part (i := q) (w := 5) hs (by omega) (by decide)) ?_
          refine am_vc_ok am_k194 [3] 100 ?_
          refine And.intro (fun z => ?_) (fun z => ?_)
          · have z : ¬ mA σ s 5 q < 0 := Int32.not_lt.mpr z
            refine And.intro (fun _ => ?_) (fun g => absurd rfl g)
            have K2 := m_unN_lpB hs hn hn2 hQ d (a + 1) (nI o) (nI q) 0 (by omega) (by rw [← hf, fstI, if_neg (by rw [hbad]; simp [z])])
            rw [← nI_1 a] at K2
            exact K2
          · have z : mA σ s 5 q < 0 := Int32.not_le.mp z
            refine And.intro (fun _ => ?_) (fun g => absurd rfl g)
            refine am_vI am_k194 am_r194 rfl ?_
            rw [← hf, fstI, if_pos (by rw [hbad]; simp [z])] at hQ
            exact hQ
set_option maxHeartbeats 4000000 in
theorem m_unN_lpA {Q : tQ} {s n : Nat} {w v : Int32} (hs : s < 4) (hn : σ 49 0 s = nI n) (hn2 : n ≤ 12) (hQ : Q (some (aI (fstI (badA σ s n w v) 16 0))) σ τ (rX t) cX lX) (d a : Nat) (h : a + (d + 1) = 16) (hf : fstI (badA σ s n w v) (d + 1) a = fstI (badA σ s n w v) 16 0) : am_G l 194 Q 0 0 3 [(4, aI (nI a)), (0, aR 12 0), (1, aI (nI s)), (2, aI w), (3, aI v)] [] σ τ (rX t) cX lX := by
    refine am_vc_ok am_k194 [3] 100 ?_
    refine And.intro (fun h1 => absurd h1 (nI_ge (b := 16) (by omega) (by decide))) (fun _ => ?_)
    refine am_vO am_k194 am_h194 rfl rfl rfl rfl (m_nmd (v := w) (a := nI a) hs hn hn2) ?_
    refine am_vc_ok am_k194 [3] 100 ?_
    refine am_vO am_k194 am_h194 rfl rfl rfl rfl (m_nmd (v := v) (a := nI a) hs hn hn2) ?_
    refine am_vc_ok am_k194 [3] 100 ?_
    cases h2 : nmd σ s n v (nI a) with
    | none =>
      have hbad : badA σ s n w v a = false := by unfold badA; rw [h2]; rfl
      cases h1 : nmd σ s n w (nI a) with
      | none =>
        refine And.intro (fun _ => ?_) (fun g => absurd (by decide) g)
        refine And.intro (fun _ => ?_) (fun g => absurd (by decide) g)
        refine And.intro (fun _ => ?_) (fun g => absurd rfl g)
        have K2 := m_unN_lpB (l := l) hs hn hn2 hQ d (a + 1) (-9) (-9) 0 (by omega) (by rw [← hf, fstI, if_neg (by rw [hbad]; decide)])
        rw [← nI_1 a] at K2
        exact K2
      | some o =>
        have ho := nmd_lt h1
        refine And.intro (fun g => absurd g (nI_pos (n := o) (by omega))) (fun _ => ?_)
        refine And.intro (fun _ => ?_) (fun g => absurd (by decide) g)
        refine And.intro (fun _ => ?_) (fun g => absurd (by decide) g)
        refine And.intro (fun _ => ?_) (fun g => absurd rfl g)
        have K2 := m_unN_lpB (l := l) hs hn hn2 hQ d (a + 1) (nI o) (-9) 0 (by omega) (by rw [← hf, fstI, if_neg (by rw [hbad]; decide)])
        rw [← nI_1 a] at K2
        exact K2
    | some q =>
      have hq := nmd_lt h2
      cases h1 : nmd σ s n w (nI a) with
      | none =>
        have hbad : badA σ s n w v a = decide (mA σ s 5 q < 0) := by unfold badA; rw [h2, h1]; rfl
        refine And.intro (fun _ => ?_) (fun g => absurd (by decide) g)
        refine And.intro (fun g => absurd g (nI_pos (n := q) (by omega))) (fun _ => ?_)
        refine am_vO am_k194 am_h194 rfl rfl rfl rfl (m_part (i := q) (w := 5) hs (by omega) (by decide)) ?_
        refine am_vc_ok am_k194 [3] 100 ?_
        refine And.intro (fun z => ?_) (fun z => ?_)
        · have z : ¬ mA σ s 5 q < 0 := Int32.not_lt.mpr z
          refine And.intro (fun _ => ?_) (fun g => absurd rfl g)
          have K2 := m_unN_lpB (l := l) hs hn hn2 hQ d (a + 1) (-9) (nI q) 0 (by omega) (by rw [← hf, fstI, if_neg (by rw [hbad]; simp [z])])
          rw [← nI_1 a] at K2
          exact K2
        · have z : mA σ s 5 q < 0 := Int32.not_le.mp z
          refine And.intro (fun _ => ?_) (fun g => absurd rfl g)
          refine am_vI am_k194 am_r194 rfl ?_
          rw [← hf, fstI, if_pos (by rw [hbad]; simp [z])] at hQ
          exact hQ
      | some o =>
        have ho := nmd_lt h1
        refine And.intro (fun g => absurd g (nI_pos (n := o) (by omega))) (fun _ => ?_)
        refine And.intro (fun g => absurd g (nI_pos (n := q) (by omega))) (fun _ => ?_)
        refine am_vO am_k194 am_h194 rfl rfl rfl rfl (m_part (i := o) (w := 1) hs (by omega) (by decide)) ?_
        refine am_vc_ok am_k194 [3] 100 ?_
        refine am_vO am_k194 am_h194 rfl rfl rfl rfl (m_part (i := q) (w := 1) hs (by omega) (by decide)) ?_
        refine am_vc_ok am_k194 [3] 100 ?_
        refine And.intro (fun y => ?_) (fun y => ?_)
        · have y : mA σ s 1 o = mA σ s 1 q := y
          have hbad : badA σ s n w v a = (decide (mA σ s 1 o = 3) && decide (mA σ s 2 q < mA σ s 2 o)) := by unfold badA badM; rw [h2, h1]; simp only [likeO, if_pos y]
          refine And.intro (fun g => absurd g (nI_pos (n := q) (by omega))) (fun _ => ?_)
          refine am_vO am_k194 am_h194 rfl rfl rfl rfl (m_part (i := q) (w := 5) hs (by omega) (by decide)) ?_
          refine am_vc_ok am_k194 [3, 87] 100 ?_
          have fin : am_G l 194 Q 0 0 87 [(7, aI 1), (6, aI (nI q)), (5, aI (nI o)), (4, aI (nI a)), (0, aR 12 0), (1, aI (nI s)), (2, aI w), (3, aI v)] [] σ τ (rX t) cX lX := by
            refine am_vc_ok am_k194 [3] 100 ?_
            refine And.intro (fun g => absurd g (by decide)) (fun _ => ?_)
            refine am_vO am_k194 am_h194 rfl rfl rfl rfl (m_part (i := o) (w := 1) hs (by omega) (by decide)) ?_
            refine am_vc_ok am_k194 [3] 100 ?_
            refine And.intro (fun x => ?_) (fun x => ?_)
            · have x : mA σ s 1 o = 3 := x
              refine am_vO am_k194 am_h194 rfl rfl rfl rfl (m_part (i := o) (w := 2) hs (by omega) (by decide)) ?_
              refine am_vc_ok am_k194 [3] 100 ?_
              refine am_vO am_k194 am_h194 rfl rfl rfl rfl (m_part (i := q) (w := 2) hs (by omega) (by decide)) ?_
              refine am_vc_ok am_k194 [3] 100 ?_
              refine And.intro (fun u => ?_) (fun u => ?_)
              · have u : ¬ mA σ s 2 q < mA σ s 2 o := Int32.not_lt.mpr u
                have K2 := m_unN_lpB (l := l) hs hn hn2 hQ d (a + 1) (nI o) (nI q) 1 (by omega) (by rw [← hf, fstI, if_neg (by rw [hbad]; simp [u])])
                rw [← nI_1 a] at K2
                exact K2
              · have u : mA σ s 2 q < mA σ s 2 o := Int32.not_le.mp u
                refine am_vI am_k194 am_r194 rfl ?_
                rw [← hf, fstI, if_pos (by rw [hbad]; simp [x, u])] at hQ
                exact hQ
            · have x : ¬ mA σ s 1 o = 3 := x
              have K2 := m_unN_lpB (l := l) hs hn hn2 hQ d (a + 1) (nI o) (nI q) 1 (by omega) (by rw [← hf, fstI, if_neg (by rw [hbad]; simp [x])])
              rw [← nI_1 a] at K2
              exact K2
          refine And.intro (fun _ => ?_) (fun _ => ?_)
          · exact fin
          · refine And.intro (fun g => absurd g (by decide)) (fun _ => ?_)
            exact fin
        · have y : ¬ mA σ s 1 o = mA σ s 1 q := y
          have hbad : badA σ s n w v a = decide (mA σ s 5 q < 0) := by unfold badA badM; rw [h2, h1]; simp only [likeO, if_neg y]
          refine And.intro (fun g => absurd g (nI_pos (n := q) (by omega))) (fun _ => ?_)
          refine am_vO am_k194 am_h194 rfl rfl rfl rfl (m_part (i := q) (w := 5) hs (by omega) (by decide)) ?_
          refine am_vc_ok am_k194 [3] 100 ?_
          refine And.intro (fun z => ?_) (fun z => ?_)
          · have z : ¬ mA σ s 5 q < 0 := Int32.not_lt.mpr z
            refine And.intro (fun _ => ?_) (fun g => absurd rfl g)
            have K2 := m_unN_lpB (l := l) hs hn hn2 hQ d (a + 1) (nI o) (nI q) 0 (by omega) (by rw [← hf, fstI, if_neg (by rw [hbad]; simp [z])])
            rw [← nI_1 a] at K2
            exact K2
          · have z : mA σ s 5 q < 0 := Int32.not_le.mp z
            refine And.intro (fun _ => ?_) (fun g => absurd rfl g)
            refine am_vI am_k194 am_r194 rfl ?_
            rw [← hf, fstI, if_pos (by rw [hbad]; simp [z])] at hQ
            exact hQ
theorem m_unlikeName {s n : Nat} {w v : Int32} (hs : s < 4) (hn : σ 49 0 s = nI n) (hn2 : n ≤ 12) : am_D l 194 [aR 12 0, aI (nI s), aI w, aI v] σ τ (rX t) cX lX (some (aI (fstI (badA σ s n w v) 16 0))) σ τ (rX t) := by
  refine am_D_of am_o194 am_l194 rfl ?_
  refine am_vc_ok am_k194 [3] 100 ?_
  exact m_unN_lpA hs hn hn2 ⟨rfl, rfl, rfl, rfl, rfl, rfl⟩ 15 0 (by omega) rfl
theorem m_unlike {s n : Nat} {w v : Int32} (hs : s < 4) (hw : 0 ≤ w ∧ w ≤ 9) (hv : 0 ≤ v ∧ v ≤ 9) (hn : σ 49 0 s = nI n) (hn2 : n ≤ 12) : am_D l 195 [aR 12 0, aI (nI s), aI w, aI v] σ τ (rX t) cX lX (some (aI (fstI (badA σ s n w v) 16 0))) σ τ (rX t) := by
  have h0 : ¬ σ 49 0 s < 0 := by rw [hn]; exact nI_pos (by omega)
  refine am_D_of am_o195 am_l195 rfl ?_
  refine am_vc_ok am_k195 [] 100 ?_
  refine am_vS am_k195 am_h195 rfl rfl rfl rfl (m_isVersion) ?_
  refine am_vc_ok am_k195 [] 100 ?_
  refine And.intro (fun g => absurd hw (bI_0.mp g)) (fun _ => ?_)
  refine am_vS am_k195 am_h195 rfl rfl rfl rfl (m_isVersion) ?_
  refine am_vc_ok am_k195 [] 100 ?_
  refine And.intro (fun g => absurd hv (bI_0.mp g)) (fun _ => ?_)
  refine am_vO am_k195 am_h195 rfl rfl rfl rfl (m_askedShape hs) ?_
  refine am_vc_ok am_k195 [] 100 ?_
  simp only [if_neg h0]
  refine And.intro (fun _ => ?_) (fun g => absurd (by decide) g)
  refine am_vO am_k195 am_h195 rfl rfl rfl rfl (m_unlikeName hs hn hn2) ?_
  refine am_vc_ok am_k195 [] 100 ?_
  exact am_vI am_k195 am_r195 rfl ⟨rfl, rfl, rfl, rfl, rfl, rfl⟩
theorem m_fits {s n : Nat} {w v : Int32} (hs : s < 4) (hw : 0 ≤ w ∧ w ≤ 9) (hv : 0 ≤ v ∧ v ≤ 9) (hn : σ 49 0 s = nI n) (hn2 : n ≤ 12) : am_D l 196 [aR 12 0, aI (nI s), aI w, aI v] σ τ (rX t) cX lX (some (aI (if fstI (badA σ s n w v) 16 0 = -9 then 1 else 0))) σ τ (rX t) := by
  refine am_D_of am_o196 am_l196 rfl ?_
  refine am_vc_ok am_k196 [] 100 ?_
  refine am_vO am_k196 am_h196 rfl rfl rfl rfl (m_unlike hs hw hv hn hn2) ?_
  refine am_vc_ok am_k196 [] 100 ?_
  by_cases e : fstI (badA σ s n w v) 16 0 = -9
  · simp only [if_pos e]
    refine And.intro (fun _ => ?_) (fun g => absurd e g)
    exact am_vI am_k196 am_r196 rfl ⟨rfl, rfl, rfl, rfl, rfl, rfl⟩
  · simp only [if_neg e]
    refine And.intro (fun g => absurd g e) (fun _ => ?_)
    refine And.intro (fun g => absurd (fstI_pos 16 0 (by omega) e) (Int32.not_le.mpr g)) (fun _ => ?_)
    exact am_vI am_k196 am_r196 rfl ⟨rfl, rfl, rfl, rfl, rfl, rfl⟩
end L27
