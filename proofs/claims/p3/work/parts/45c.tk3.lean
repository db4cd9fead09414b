/-! ticks: the small steps of both sides -/
section L82
variable {l : Launch} {σ σ2 s A : tI} {τ τ2 : tL} {t : Option (Nat × Nat)} {T n m lo k c : Nat}
theorem x_nsend2 {d : Int32} (hc : c < 30) (hm : σ 1 0 0 = nI m) (hm2 : m < 690) : am_D l 15 [aR 3 0, aI 2, aI (nI c), aI d] σ τ (rX t) cX lX (some (aI (nI m))) (xsend σ m c 2 (σ 0 c 1) (σ 0 c 0) d) τ (rX t) := by
  refine am_D_of am_o15 am_l15 rfl ?_
  refine am_vc_ok am_k15 [] 100 ?_
  refine And.intro (vp_in_nI (N := 30) hc (by decide)) ?_
  rw [nI_clamp (by omega)]
  refine And.intro (fun h => absurd h (by decide)) (fun _ => ?_)
  refine And.intro (fun h => absurd h (by decide)) (fun _ => ?_)
  refine And.intro (fun h => absurd h (by decide)) (fun _ => ?_)
  refine And.intro (fun _ => ?_) (fun h => absurd rfl h)
  refine And.intro (fun _ => ?_) (fun h => absurd rfl h)
  refine am_vO am_k15 am_h15 rfl rfl rfl rfl (x_addF (m := m) (by simp [u3, hm]) hm2) ?_
  refine am_vc_ok am_k15 [] 100 ?_
  refine am_vI am_k15 am_r15 rfl ⟨rfl, ?_, rfl, rfl, rfl, rfl⟩
  rw [u3_jj (show 0 ≠ 11 by decide), u3_jj (show 1 ≠ 11 by decide)]
  rfl
theorem x_nsend3 {d : Int32} (hc : c < 30) (hm : σ 1 0 0 = nI m) (hm2 : m < 690) : am_D l 15 [aR 3 0, aI 3, aI (nI c), aI d] σ τ (rX t) cX lX (some (aI (nI m))) (xsend σ m c 3 (σ 0 c 1) (σ 0 c 0) d) τ (rX t) := by
  refine am_D_of am_o15 am_l15 rfl ?_
  refine am_vc_ok am_k15 [] 100 ?_
  refine And.intro (vp_in_nI (N := 30) hc (by decide)) ?_
  rw [nI_clamp (by omega)]
  refine And.intro (fun h => absurd h (by decide)) (fun _ => ?_)
  refine And.intro (fun h => absurd h (by decide)) (fun _ => ?_)
  refine And.intro (fun h => absurd h (by decide)) (fun _ => ?_)
  refine And.intro (fun _ => ?_) (fun h => absurd rfl h)
  refine And.intro (fun _ => ?_) (fun h => absurd rfl h)
  refine am_vO am_k15 am_h15 rfl rfl rfl rfl (x_addF (m := m) (by simp [u3, hm]) hm2) ?_
  refine am_vc_ok am_k15 [] 100 ?_
  refine am_vI am_k15 am_r15 rfl ⟨rfl, ?_, rfl, rfl, rfl, rfl⟩
  rw [u3_jj (show 0 ≠ 11 by decide), u3_jj (show 1 ≠ 11 by decide)]
  rfl
/-- an ask comes: the class -/
def taX (σ : tI) (c b m : Nat) : tI := if ¬ σ 0 c 12 = 0 then σ else if σ 3 0 4 ≤ σ 0 c 15 then xsend σ m c 2 (σ 0 c 1) (σ 0 c 0) 0 else if σ 0 c 2 = 1 ∧ 0 < σ 0 c 9 then xsend σ m c 3 (σ 0 c 1) (σ 0 c 0) 8 else if σ 0 c 6 < σ 3 0 4 + σ 0 c 3 then xsend σ m c 3 (σ 0 c 1) (σ 0 c 0) 6 else if σ 8 b 2 ≤ σ 8 b 6 + σ 8 b 5 ∧ σ 8 b 3 ≤ σ 8 b 5 then xsend σ m c 3 (σ 0 c 1) (σ 0 c 0) 4 else u3 (u3 σ 0 c 12 1) 8 b 5 (σ 8 b 5 + 1)
theorem x_takeAsk {b : Nat} (hc : c < 30) (hb : b < 6) (h1 : σ 0 c 1 = nI b) (hm : σ 1 0 0 = nI m) (hm2 : m < 690) : am_D l 23 [aR 3 0, aI (nI c)] σ τ (rX t) cX lX none (taX σ c b m) τ (rX t) := by
  unfold taX
  refine am_D_of am_o23 am_l23 rfl ?_
  refine am_vc_ok am_k23 [48] 100 ?_
  refine And.intro (vp_in_nI (N := 30) hc (by decide)) ?_
  rw [nI_clamp (n := c) (by omega)]
  refine And.intro (by rw [h1]; exact vp_in_nI (N := 6) hb (by decide)) ?_
  rw [h1, nI_clamp (n := b) (by omega)]
  refine And.intro (fun z => ?_) (fun z => ?_)
  rotate_left
  · have z : ¬ σ 0 c 12 = 0 := z
    rw [if_pos z]
    exact am_vV am_k23 am_r23 rfl ⟨rfl, rfl, rfl, rfl, rfl, rfl⟩
  have z : σ 0 c 12 = 0 := z
  rw [if_neg (fun y => y z)]
  have go : ∀ hf : Int32, hf = (if σ 8 b 2 ≤ σ 8 b 6 + σ 8 b 5 then 0 else 1) → am_G l 23 (fun v s' t' p c' n' => v = none ∧ s' = (if σ 3 0 4 ≤ σ 0 c 15 then xsend σ m c 2 (nI b) (σ 0 c 0) 0 else if σ 0 c 2 = 1 ∧ 0 < σ 0 c 9 then xsend σ m c 3 (nI b) (σ 0 c 0) 8 else if σ 0 c 6 < σ 3 0 4 + σ 0 c 3 then xsend σ m c 3 (nI b) (σ 0 c 0) 6 else if σ 8 b 2 ≤ σ 8 b 6 + σ 8 b 5 ∧ σ 8 b 3 ≤ σ 8 b 5 then xsend σ m c 3 (nI b) (σ 0 c 0) 4 else u3 (u3 σ 0 c 12 1) 8 b 5 (σ 8 b 5 + 1)) ∧ t' = τ ∧ p = rX t ∧ c' = cX ∧ n' = lX) 0 0 48 [(4, aI hf), (3, aR 8 b), (2, aR 0 c), (0, aR 3 0), (1, aI (nI c))] [] σ τ (rX t) cX lX := by
    intro hf hhf
    have s2 := fun d => x_nsend2 (l := l) (τ := τ) (t := t) (σ := σ) (d := d) hc hm hm2
    have s3 := fun d => x_nsend3 (l := l) (τ := τ) (t := t) (σ := σ) (d := d) hc hm hm2
    rw [h1] at s2 s3
    refine am_vc_ok am_k23 [94, 122, 149] 100 ?_
    refine am_vO am_k23 am_h23 rfl rfl rfl rfl (x_isKept) ?_
    refine am_vc_ok am_k23 [94, 122, 149] 100 ?_
    refine And.intro (fun y => ?_) (fun y => ?_)
    rotate_left
    · have y := bI_1.mp y
      rw [if_pos y]
      refine am_vO am_k23 am_h23 rfl rfl rfl rfl (s2 0) ?_
      refine am_vc_ok am_k23 [94, 122, 149] 100 ?_
      exact am_vV am_k23 am_r23 rfl ⟨rfl, rfl, rfl, rfl, rfl, rfl⟩
    have y := bI_0.mp y
    rw [if_neg y]
    have last : ¬ (σ 8 b 2 ≤ σ 8 b 6 + σ 8 b 5 ∧ σ 8 b 3 ≤ σ 8 b 5) → am_G l 23 (fun v s' t' p c' n' => v = none ∧ s' = u3 (u3 σ 0 c 12 1) 8 b 5 (σ 8 b 5 + 1) ∧ t' = τ ∧ p = rX t ∧ c' = cX ∧ n' = lX) 0 0 149 [(4, aI hf), (3, aR 8 b), (2, aR 0 c), (0, aR 3 0), (1, aI (nI c))] [] σ τ (rX t) cX lX := by
      intro _
      refine am_vc_ok am_k23 [] 100 ?_
      exact am_vV am_k23 am_r23 rfl ⟨rfl, rfl, rfl, rfl, rfl, rfl⟩
    have mid : am_G l 23 (fun v s' t' p c' n' => v = none ∧ s' = (if σ 0 c 6 < σ 3 0 4 + σ 0 c 3 then xsend σ m c 3 (nI b) (σ 0 c 0) 6 else if σ 8 b 2 ≤ σ 8 b 6 + σ 8 b 5 ∧ σ 8 b 3 ≤ σ 8 b 5 then xsend σ m c 3 (nI b) (σ 0 c 0) 4 else u3 (u3 σ 0 c 12 1) 8 b 5 (σ 8 b 5 + 1)) ∧ t' = τ ∧ p = rX t ∧ c' = cX ∧ n' = lX) 0 0 94 [(4, aI hf), (3, aR 8 b), (2, aR 0 c), (0, aR 3 0), (1, aI (nI c))] [] σ τ (rX t) cX lX := by
      refine am_vc_ok am_k23 [149] 100 ?_
      refine And.intro (fun w => ?_) (fun w => ?_)
      rotate_left
      · have w : ¬ σ 3 0 4 + σ 0 c 3 ≤ σ 0 c 6 := w
        rw [if_pos (Int32.not_le.mp w)]
        refine am_vO am_k23 am_h23 rfl rfl rfl rfl (s3 6) ?_
        refine am_vc_ok am_k23 [149] 100 ?_
        exact am_vV am_k23 am_r23 rfl ⟨rfl, rfl, rfl, rfl, rfl, rfl⟩
      have w : σ 3 0 4 + σ 0 c 3 ≤ σ 0 c 6 := w
      rw [if_neg (Int32.not_lt.mpr w)]
      by_cases q1 : σ 8 b 2 ≤ σ 8 b 6 + σ 8 b 5
      · rw [if_pos q1] at hhf
        subst hhf
        refine And.intro (fun _ => ?_) (fun q => absurd rfl q)
        refine And.intro (fun q => ?_) (fun q => ?_)
        · have q : σ 8 b 5 < σ 8 b 3 := q
          have qn : ¬ (σ 8 b 2 ≤ σ 8 b 6 + σ 8 b 5 ∧ σ 8 b 3 ≤ σ 8 b 5) := fun z => absurd z.2 (Int32.not_le.mpr q)
          rw [if_neg qn]
          exact last qn
        · have q : ¬ σ 8 b 5 < σ 8 b 3 := q
          rw [if_pos ⟨q1, Int32.not_lt.mp q⟩]
          refine am_vO am_k23 am_h23 rfl rfl rfl rfl (s3 4) ?_
          refine am_vc_ok am_k23 [149] 100 ?_
          exact am_vV am_k23 am_r23 rfl ⟨rfl, rfl, rfl, rfl, rfl, rfl⟩
      · rw [if_neg q1] at hhf
        subst hhf
        have qn : ¬ (σ 8 b 2 ≤ σ 8 b 6 + σ 8 b 5 ∧ σ 8 b 3 ≤ σ 8 b 5) := fun z => q1 z.1
        rw [if_neg qn]
        refine And.intro (fun q => absurd q (by decide)) (fun _ => ?_)
        exact last qn
    refine And.intro (fun w => ?_) (fun w => ?_)
    rotate_left
    · have w : ¬ σ 0 c 2 = 1 := w
      rw [if_neg (fun q => w q.1)]
      exact mid
    have w : σ 0 c 2 = 1 := w
    refine And.intro (fun q => ?_) (fun q => ?_)
    · have q : σ 0 c 9 ≤ 0 := q
      rw [if_neg (fun p => absurd p.2 (Int32.not_lt.mpr q))]
      exact mid
    · have q : ¬ σ 0 c 9 ≤ 0 := q
      rw [if_pos ⟨w, Int32.not_le.mp q⟩]
      refine am_vO am_k23 am_h23 rfl rfl rfl rfl (s3 8) ?_
      refine am_vc_ok am_k23 [94, 122, 149] 100 ?_
      exact am_vV am_k23 am_r23 rfl ⟨rfl, rfl, rfl, rfl, rfl, rfl⟩
  refine And.intro (fun y => ?_) (fun y => ?_)
  · have y : σ 8 b 2 ≤ σ 8 b 6 + σ 8 b 5 := y
    exact go 0 (by rw [if_pos y])
  · have y : ¬ σ 8 b 2 ≤ σ 8 b 6 + σ 8 b 5 := y
    exact go 1 (by rw [if_neg y])
abbrev wtM (A : tI) (n b : Nat) : Nat := cntN (fun c => decide (A 66 0 c = nI b ∧ A 77 0 c = 1)) n
abbrev dgM (A : tI) (n b : Nat) : Nat := cntN (fun c => decide (A 66 0 c = nI b ∧ A 77 0 c = 2)) n
/-- an ask comes: the model -/
def taM (A : tI) (c b m n : Nat) (wh : Int32) : tI := if ¬ A 77 0 c = 0 then A else if A 12 0 5 ≤ A 79 0 c then msend A m 2 (A 66 0 c) (A 65 0 c) (nI c) 0 else if A 67 0 c = 1 ∧ 0 < wh then msend A m 3 (A 66 0 c) (A 65 0 c) (nI c) 8 else if A 69 0 c < A 12 0 5 + A 68 0 c then msend A m 3 (A 66 0 c) (A 65 0 c) (nI c) 6 else if A 62 0 b ≤ nI (wtM A n b) + nI (dgM A n b) ∧ A 63 0 b ≤ nI (wtM A n b) then msend A m 3 (A 66 0 c) (A 65 0 c) (nI c) 4 else u3 A 77 0 c 1
theorem m_tooLate (hc : c < 30) : am_D l 220 [aR 12 0, aI (nI c)] σ τ (rX t) cX lX (some (aI (bI (σ 69 0 c < σ 12 0 5 + σ 68 0 c)))) σ τ (rX t) := by
  refine am_D_of am_o220 am_l220 rfl ?_
  refine am_vc_ok am_k220 [] 100 ?_
  refine And.intro (vp_in_nI (N := 30) hc (by decide)) ?_
  rw [nI_clamp (n := c) (by omega)]
  refine And.intro (vp_in_nI (N := 30) hc (by decide)) ?_
  rw [nI_clamp (n := c) (by omega)]
  refine And.intro (fun z => ?_) (fun z => ?_)
  · have z : σ 12 0 5 + σ 68 0 c ≤ σ 69 0 c := z
    rw [bI_f (Int32.not_lt.mpr z)]
    exact am_vZ am_k220 am_r220 rfl (Or.inl rfl) ⟨rfl, rfl, rfl, rfl, rfl, rfl⟩
  · have z : ¬ σ 12 0 5 + σ 68 0 c ≤ σ 69 0 c := z
    rw [bI_t (Int32.not_le.mp z)]
    exact am_vZ am_k220 am_r220 rfl (Or.inr rfl) ⟨rfl, rfl, rfl, rfl, rfl, rfl⟩
theorem m_takeAsk {b : Nat} {wh : Int32} (hc : c < 30) (hb : b < 6) (h66 : σ 66 0 c = nI b) (hm : σ 12 0 54 = nI m) (hm2 : m < 690) (hn : σ 12 0 34 = nI n) (hn2 : n ≤ 30) : am_D l 222 [aR 12 0, aI (nI c), aI wh] σ τ (rX t) cX lX none (taM σ c b m n wh) τ (rX t) := by
  unfold taM
  have sb := fun kd d => m_sendBack (l := l) (τ := τ) (t := t) (σ := σ) (kd := kd) (d := d) hc hm hm2
  have pw := m_placedAt (l := l) (τ := τ) (t := t) (σ := σ) (a := nI b) (b := 1) hn hn2
  have pd := m_placedAt (l := l) (τ := τ) (t := t) (σ := σ) (a := nI b) (b := 2) hn hn2
  refine am_D_of am_o222 am_l222 rfl ?_
  refine am_vc_ok am_k222 [70, 130] 100 ?_
  refine And.intro (vp_in_nI (N := 30) hc (by decide)) ?_
  rw [nI_clamp (n := c) (by omega), h66]
  rw [h66] at sb
  refine am_vO am_k222 am_h222 rfl rfl rfl rfl (pw) ?_
  refine am_vc_ok am_k222 [70, 130] 100 ?_
  refine And.intro (vp_in_nI (N := 30) hc (by decide)) ?_
  rw [nI_clamp (n := c) (by omega)]
  refine And.intro (fun z => ?_) (fun z => ?_)
  rotate_left
  · have z : ¬ σ 77 0 c = 0 := z
    rw [if_pos z]
    exact am_vV am_k222 am_r222 rfl ⟨rfl, rfl, rfl, rfl, rfl, rfl⟩
  have z : σ 77 0 c = 0 := z
  rw [if_neg (fun y => y z)]
  refine am_vO am_k222 am_h222 rfl rfl rfl rfl (m_isKeptName hc) ?_
  refine am_vc_ok am_k222 [70, 130] 100 ?_
  refine And.intro (fun y => ?_) (fun y => ?_)
  rotate_left
  · have y := bI_1.mp y
    rw [if_pos y]
    refine am_vO am_k222 am_h222 rfl rfl rfl rfl (sb 2 0) ?_
    refine am_vc_ok am_k222 [70, 130] 100 ?_
    exact am_vV am_k222 am_r222 rfl ⟨rfl, rfl, rfl, rfl, rfl, rfl⟩
  have y := bI_0.mp y
  rw [if_neg y]
  have last : am_G l 222 (fun v s' t' p c' n' => v = none ∧ s' = u3 σ 77 0 c 1 ∧ t' = τ ∧ p = rX t ∧ c' = cX ∧ n' = lX) 0 0 130 [(4, aI (nI (wtM σ n b))), (3, aI (nI b)), (0, aR 12 0), (1, aI (nI c)), (2, aI wh)] [] σ τ (rX t) cX lX := by
    refine am_vc_ok am_k222 [] 100 ?_
    refine And.intro (vp_in_nI (N := 30) hc (by decide)) ?_
    rw [nI_clamp (n := c) (by omega)]
    exact am_vV am_k222 am_r222 rfl ⟨rfl, rfl, rfl, rfl, rfl, rfl⟩
  have mid : am_G l 222 (fun v s' t' p c' n' => v = none ∧ s' = (if σ 69 0 c < σ 12 0 5 + σ 68 0 c then msend σ m 3 (nI b) (σ 65 0 c) (nI c) 6 else if σ 62 0 b ≤ nI (wtM σ n b) + nI (dgM σ n b) ∧ σ 63 0 b ≤ nI (wtM σ n b) then msend σ m 3 (nI b) (σ 65 0 c) (nI c) 4 else u3 σ 77 0 c 1) ∧ t' = τ ∧ p = rX t ∧ c' = cX ∧ n' = lX) 0 0 70 [(4, aI (nI (wtM σ n b))), (3, aI (nI b)), (0, aR 12 0), (1, aI (nI c)), (2, aI wh)] [] σ τ (rX t) cX lX := by
    refine am_vc_ok am_k222 [130] 100 ?_
    refine am_vO am_k222 am_h222 rfl rfl rfl rfl (m_tooLate hc) ?_
    refine am_vc_ok am_k222 [130] 100 ?_
    refine And.intro (fun w => ?_) (fun w => ?_)
    rotate_left
    · have w := bI_1.mp w
      rw [if_pos w]
      refine am_vO am_k222 am_h222 rfl rfl rfl rfl (sb 3 6) ?_
      refine am_vc_ok am_k222 [130] 100 ?_
      exact am_vV am_k222 am_r222 rfl ⟨rfl, rfl, rfl, rfl, rfl, rfl⟩
    have w := bI_0.mp w
    rw [if_neg w]
    refine am_vO am_k222 am_h222 rfl rfl rfl rfl (pd) ?_
    refine am_vc_ok am_k222 [130] 100 ?_
    refine And.intro (vp_in_nI (N := 6) hb (by decide)) ?_
    rw [nI_clamp (n := b) (by omega)]
    refine And.intro (fun q => ?_) (fun q => ?_)
    · have q : nI (wtM σ n b) + nI (dgM σ n b) < σ 62 0 b := q
      rw [if_neg (fun z => absurd z.1 (Int32.not_le.mpr q))]
      exact last
    have q : ¬ nI (wtM σ n b) + nI (dgM σ n b) < σ 62 0 b := q
    refine And.intro (vp_in_nI (N := 6) hb (by decide)) ?_
    rw [nI_clamp (n := b) (by omega)]
    refine And.intro (fun q2 => ?_) (fun q2 => ?_)
    · have q2 : nI (wtM σ n b) < σ 63 0 b := q2
      rw [if_neg (fun z => absurd z.2 (Int32.not_le.mpr q2))]
      exact last
    · have q2 : ¬ nI (wtM σ n b) < σ 63 0 b := q2
      rw [if_pos ⟨Int32.not_lt.mp q, Int32.not_lt.mp q2⟩]
      refine am_vO am_k222 am_h222 rfl rfl rfl rfl (sb 3 4) ?_
      refine am_vc_ok am_k222 [130] 100 ?_
      exact am_vV am_k222 am_r222 rfl ⟨rfl, rfl, rfl, rfl, rfl, rfl⟩
  refine And.intro (fun w => ?_) (fun w => ?_)
  · have w : wh ≤ 0 := w
    rw [if_neg (fun p => absurd p.2 (Int32.not_lt.mpr w))]
    exact mid
  have w : ¬ wh ≤ 0 := w
  refine And.intro (vp_in_nI (N := 30) hc (by decide)) ?_
  rw [nI_clamp (n := c) (by omega)]
  refine And.intro (fun q => ?_) (fun q => ?_)
  · have q : σ 67 0 c = 1 := q
    rw [if_pos ⟨q, Int32.not_le.mp w⟩]
    refine am_vO am_k222 am_h222 rfl rfl rfl rfl (sb 3 8) ?_
    refine am_vc_ok am_k222 [70, 130] 100 ?_
    exact am_vV am_k222 am_r222 rfl ⟨rfl, rfl, rfl, rfl, rfl, rfl⟩
  · have q : ¬ σ 67 0 c = 1 := q
    rw [if_neg (fun p => q p.1)]
    exact mid
end L82
