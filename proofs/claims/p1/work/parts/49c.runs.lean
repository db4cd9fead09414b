/-! orderAt on fresh objects -/
noncomputable def oCk : Bool := match am_rvD 30000 46 [aR 5 0, aR 24 0, aR 41 0] e1 t1L (rX none) cX lX with
  | some (none, s1, t1, r1) => decide (r1 11 0 6 = some (5, 0)) && (match am_rvD 30000 49 [aR 5 0] s1 t1 r1 cX lX with
    | some (some v2, s2, t2, r2) => decide (v2 = aI 1) && (decide (r2 11 0 6 = some (5, 0)) && (match am_rvD 30000 51 [aR 5 0] s2 t2 r2 cX lX with
      | some (none, s3, t3, r3) => decide (r3 11 0 6 = some (5, 0)) && (decide (s3 5 0 4 = 0) && (match am_rvD 30000 201 [aR 12 0, aI 0] s3 t3 r3 cX lX with
        | some (some v4, s4, t4, r4) => decide (v4 = aI 1) && (match am_rvD 30000 204 [aR 12 0] s4 t4 r4 cX lX with
          | some (none, s5, t5, r5) => decide (r5 12 0 30 = some (61, 0)) && (decide (s5 61 0 0 = 1) && (match am_rvD 30000 203 [aR 12 0] s5 t5 r5 cX lX with
            | some (some v6, s6, t6, r6) => (match am_rvD 30000 159 [v6] s6 t6 r6 cX lX with
              | some (some v7, _, _, _) => decide (v7 = aI 0)
              | _ => false)
            | _ => false))
          | _ => false)
        | _ => false))
      | _ => false))
    | _ => false)
  | _ => false
theorem oCk_ok : oCk = true := by decide +kernel
section RN3
variable {l : Launch}
theorem x_orderAt_bad {i : Int32} {σ : tI} {τ : tL} {t : Option (Nat × Nat)} (h : ¬ 0 ≤ i) : am_D l 115 [aR 11 0, aI i] σ τ (rX t) cX lX (some (aI (-1))) σ τ (rX t) := by
  refine am_D_of am_o115 am_l115 rfl ?_
  refine am_vc_ok am_k115 [] 100 ?_
  refine And.intro (fun g => absurd g h) (fun _ => ?_)
  exact am_vI am_k115 am_r115 rfl ⟨rfl, rfl, rfl, rfl, rfl, rfl⟩
theorem m_orderAt_bad {i : Int32} {σ : tI} {τ : tL} {t : Option (Nat × Nat)} (h : ¬ 0 ≤ i) : am_D l 206 [aR 12 0, aI i] σ τ (rX t) cX lX (some (aI (-1))) σ τ (rX t) := by
  refine am_D_of am_o206 am_l206 rfl ?_
  refine am_vc_ok am_k206 [52, 60] 100 ?_
  refine And.intro (fun g => absurd g h) (fun _ => ?_)
  exact am_vI am_k206 am_r206 rfl ⟨rfl, rfl, rfl, rfl, rfl, rfl⟩
theorem x_orderAt1 {i : Int32} (h : 0 ≤ i) {s1 s2 s3 : tI} {t1 t2 t3 : tL} {r1 r2 r3 : tR} (h1 : am_D l 46 [aR 5 0, aR 24 0, aR 41 0] e1 t1L (rX none) cX lX none s1 t1 r1) (g1 : r1 11 0 6 = some (5, 0)) (h2 : am_D l 49 [aR 5 0] s1 t1 r1 cX lX (some (aI 1)) s2 t2 r2) (g2 : r2 11 0 6 = some (5, 0)) (h3 : am_D l 51 [aR 5 0] s2 t2 r2 cX lX none s3 t3 r3) (g3 : r3 11 0 6 = some (5, 0)) (k3 : s3 5 0 4 = 0) : am_D l 115 [aR 11 0, aI i] e1 t1L (rX none) cX lX (some (aI (-9))) s3 t3 r3 := by
  refine am_D_of am_o115 am_l115 rfl ?_
  refine am_vc_ok am_k115 [] 100 ?_
  refine And.intro (fun _ => ?_) (fun g => absurd h g)
  refine am_vO am_k115 am_h115 rfl rfl rfl rfl h1 ?_
  refine am_vc_ok am_k115 [] 100 ?_
  show am_G l 115 _ 0 0 25 [(0, aR 11 0), (1, aI i)] [Sum.inr (Sum.inr (r1 11 0 6))] s1 t1 r1 cX lX
  rw [g1]
  refine am_vO am_k115 am_h115 rfl rfl rfl rfl h2 ?_
  refine am_vc_ok am_k115 [] 100 ?_
  refine And.intro (fun g => absurd g (by decide)) (fun _ => ?_)
  show am_G l 115 _ 0 0 38 [(0, aR 11 0), (1, aI i)] [Sum.inr (Sum.inr (r2 11 0 6))] s2 t2 r2 cX lX
  rw [g2]
  refine am_vO am_k115 am_h115 rfl rfl rfl rfl h3 ?_
  refine am_vc_ok am_k115 [46] 100 ?_
  show am_G l 115 _ 0 0 46 [(0, aR 11 0), (1, aI i)] [Sum.inr (Sum.inr (r3 11 0 6)), aI i] s3 t3 r3 cX lX
  rw [g3]
  refine am_vc_ok am_k115 [] 100 ?_
  refine am_vS am_k115 am_h115 rfl rfl rfl rfl x_within ?_
  refine am_vc_ok am_k115 [] 100 ?_
  rw [k3]
  refine And.intro (fun _ => ?_) (fun g => absurd (bI_1.mp g).2 (Int32.not_lt.mpr h))
  exact am_vI am_k115 am_r115 rfl ⟨rfl, rfl, rfl, rfl, rfl, rfl⟩
theorem m_orderAt1 {i : Int32} (h : 0 ≤ i) {s3 s4 s5 s6 s7 : tI} {t3 t4 t5 t6 t7 : tL} {r3 r4 r5 r6 r7 : tR} {v6 : am_V} (h4 : am_D l 201 [aR 12 0, aI 0] s3 t3 r3 cX lX (some (aI 1)) s4 t4 r4) (h5 : am_D l 204 [aR 12 0] s4 t4 r4 cX lX none s5 t5 r5) (g5 : r5 12 0 30 = some (61, 0)) (k5 : s5 61 0 0 = 1) (h6 : am_D l 203 [aR 12 0] s5 t5 r5 cX lX (some v6) s6 t6 r6) (h7 : am_D l 159 [v6] s6 t6 r6 cX lX (some (aI 0)) s7 t7 r7) : am_D l 206 [aR 12 0, aI i] s3 t3 r3 cX lX (some (aI (-9))) s7 t7 r7 := by
  refine am_D_of am_o206 am_l206 rfl ?_
  refine am_vc_ok am_k206 [] 100 ?_
  refine And.intro (fun _ => ?_) (fun g => absurd h g)
  refine am_vO am_k206 am_h206 rfl rfl rfl rfl h4 ?_
  refine am_vc_ok am_k206 [] 100 ?_
  refine And.intro (fun g => absurd g (by decide)) (fun _ => ?_)
  refine am_vO am_k206 am_h206 rfl rfl rfl rfl h5 ?_
  refine am_vc_ok am_k206 [26] 100 ?_
  show am_G l 206 _ 0 0 26 [(0, aR 12 0), (1, aI i)] [aI 0, Sum.inr (Sum.inr (r5 12 0 30))] s5 t5 r5 cX lX
  rw [g5]
  refine am_vc_ok am_k206 [] 100 ?_
  refine And.intro (pk_in 0 64 (by decide)) ?_
  refine And.intro (fun g => absurd ((show s5 61 0 0 = 0 from g).symm.trans k5) (by decide)) (fun _ => ?_)
  refine am_vO am_k206 am_h206 rfl rfl rfl rfl h6 ?_
  refine am_vc_ok am_k206 [] 100 ?_
  refine am_vS am_k206 am_h206 rfl rfl rfl rfl h7 ?_
  refine am_vc_ok am_k206 [52, 60] 100 ?_
  refine And.intro (fun g => absurd h (Int32.not_le.mpr g)) (fun _ => ?_)
  exact am_vI am_k206 am_r206 rfl ⟨rfl, rfl, rfl, rfl, rfl, rfl⟩
theorem LF_orderAt (i : Int32) : LF l 115 206 [aI i] := by
  by_cases h : 0 ≤ i
  · have hc := oCk_ok
    unfold oCk at hc
    split at hc
    · rename_i s1 t1 r1 e1
      rw [Bool.and_eq_true] at hc
      obtain ⟨g1, hc⟩ := hc
      split at hc
      · rename_i v2 s2 t2 r2 e2
        rw [Bool.and_eq_true, Bool.and_eq_true] at hc
        obtain ⟨w2, g2, hc⟩ := hc
        split at hc
        · rename_i s3 t3 r3 e3
          rw [Bool.and_eq_true, Bool.and_eq_true] at hc
          obtain ⟨g3, k3, hc⟩ := hc
          split at hc
          · rename_i v4 s4 t4 r4 e4
            rw [Bool.and_eq_true] at hc
            obtain ⟨w4, hc⟩ := hc
            split at hc
            · rename_i s5 t5 r5 e5
              rw [Bool.and_eq_true, Bool.and_eq_true] at hc
              obtain ⟨g5, k5, hc⟩ := hc
              split at hc
              · rename_i v6 s6 t6 r6 e6
                split at hc
                · rename_i v7 s7 t7 r7 e7
                  obtain rfl := of_decide_eq_true w2
                  obtain rfl := of_decide_eq_true w4
                  obtain rfl := of_decide_eq_true hc
                  exact LG.of (x_orderAt1 h (am_rvD_ok e1) (of_decide_eq_true g1) (am_rvD_ok e2) (of_decide_eq_true g2) (am_rvD_ok e3) (of_decide_eq_true g3) (of_decide_eq_true k3)) (m_orderAt1 h (am_rvD_ok e4) (am_rvD_ok e5) (of_decide_eq_true g5) (of_decide_eq_true k5) (am_rvD_ok e6) (am_rvD_ok e7)) trivial
                · cases hc
              · cases hc
            · cases hc
          · cases hc
        · cases hc
      · cases hc
    · cases hc
  · exact LG.of (x_orderAt_bad h) (m_orderAt_bad h) trivial
end RN3
